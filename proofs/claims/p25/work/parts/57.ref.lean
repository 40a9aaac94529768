/-! the reference: what is told, exactly -/
def dtR (p a b c d : Int) : Int := (((a % p) * (d % p)).tmod p - ((b % p) * (c % p)).tmod p + p).tmod p
theorem DTN.r {x a b c d p u v w z : Int} (h : DTN x a b c d p) (ha : a = u % p) (hb : b = v % p) (hc : c = w % p) (hd : d = z % p) : x = dtR p u v w z := by
  subst ha; subst hb; subst hc; subst hd; exact h
def CPA (I9 I : IT) (b a : Nat) : Prop := ∀ r, r < 3606 → I9 b r = I a r
theorem CPA.of {I9 I : IT} {b a : Nat} {n : Int} (h : CPW I9 a b n) (hn : 3606 ≤ n) (e : I9 a = I a) : CPA I9 I b a := fun r hr => by rw [h r (by omega), e]
theorem CPA.rf {I9 I : IT} {a : Nat} (e : I9 a = I a) : CPA I9 I a a := fun r _ => by rw [e]
def BKD (I9 I : IT) (w im : Nat) (x f : Int) : Prop := (x = 0 ∧ f = 0 ∧ CPA I9 I w w) ∨ (x = 1 ∧ f ≠ 0 ∧ CPA I9 I w im)
def TBD (dt c c9 t x : Int) : Prop := (dt = 0 ∧ t = 1 ∧ c9 = c) ∨ (dt ≠ 0 ∧ c = 8 ∧ t = 2 ∧ c9 = c) ∨ (dt ≠ 0 ∧ c < 8 ∧ t = 0 ∧ x = c ∧ c9 = c + 1)
theorem a_X12_mod_e {d : Nat} {T N : Nat → Nat} {I : IT} {L : LT} {R : RT} {A : Nat → Prop} {r0 : Nat} {l1 : Int64} (hI : IM R r0 I) (H_r0 : (h_MD T N R A) r0) : Ex (d + 3) 192 [.ref r0, .long l1] (T, N, I, L, R) 0 0 (pI T N R (fun x9 I9 L9 => (0 ≤ x9.toInt) ∧ (x9.toInt ≤ 18) ∧ (∀ a1, R r0 1 = some a1 → x9.toInt < (I a1 0).toInt) ∧ (∀ a1, R r0 1 = some a1 → x9.toInt = l1.toInt % (I a1 0).toInt) ∧ (I = I9 ∧ L = L9))) := by
  refine ⟨_, rfl, Nat.le_of_ble_eq_true rfl, fun V C S => ?_⟩
  show V 0 [(0, .ref r0), (1, .long l1)] [] (T, N, I, L, R) 0 0
  have T_r0 := H_r0.1
  refine k_lload_n C rfl rfl rfl ?_
  refine k_aload_n C rfl rfl rfl ?_
  refine c_VI C (a_X12_p hI H_r0) rfl rfl rfl rfl rfl ⟨_, rfl, rfl, T_r0, Nat.le_of_ble_eq_true rfl⟩ rfl rfl (Nat.le_of_ble_eq_true rfl) (Nat.le_of_ble_eq_true rfl) (Nat.le_of_ble_eq_true rfl) ?_
  rintro x1 _ _ ⟨b0, b1, hp, rfl, rfl⟩
  refine z_i2l C rfl rfl (fun w e => ?_)
  refine c_SL C (e_fmL (by omega)) rfl rfl rfl rfl rfl rfl rfl (Nat.le_of_ble_eq_true rfl) (Nat.le_of_ble_eq_true rfl) (Nat.le_of_ble_eq_true rfl) ?_
  rintro y _ _ ⟨hI8, hL9, h⟩
  have hI8 := hI8.symm; subst hI8; have hL9 := hL9.symm; subst hL9
  have h2 := md_lt h (by omega)
  refine k_l2i C rfl rfl ?_
  have h3 := l2i_eq (x := y) ⟨by omega, by omega⟩
  exact k_iret C rfl (Or.inl rfl) (Nat.le_of_ble_eq_true rfl) (Nat.le_of_ble_eq_true rfl) ⟨_, _, _, rfl, rfl, by omega, by omega, fun a1 h1 => by have := hp a1 h1; omega, fun a1 h1 => by rw [h3, h, e, hp a1 h1], rfl, rfl⟩
theorem a_X12_throwsIf_e {d : Nat} {T N : Nat → Nat} {I : IT} {L : LT} {R : RT} {A : Nat → Prop} {r0 : Nat} {n1 n2 : Int32} (hI : IM R r0 I) (H_r0 : (h_MD T N R A) r0) (b0_n1 : 0 ≤ n1.toInt) (b1_n1 : n1.toInt ≤ 1) : Ex (d + 1) 178 [.ref r0, .int n1, .int n2] (T, N, I, L, R) 0 0 (pI T N R (fun x9 I9 L9 => (0 ≤ x9.toInt) ∧ (x9.toInt ≤ 1) ∧ (x9.toInt = n1.toInt) ∧ (n1.toInt = 1 ∧ (I9 r0 0).toInt = n2.toInt ∨ n1.toInt = 0 ∧ (I9 r0 0).toInt = (I r0 0).toInt) ∧ (IM R r0 I9 ∧ CM A R r0 [0] [] I L I9 L9))) := by
  refine ⟨_, rfl, Nat.le_of_ble_eq_true rfl, fun V C S => ?_⟩
  show V 0 [(0, .ref r0), (1, .int n1), (2, .int n2)] [] (T, N, I, L, R) 0 0
  have gn1 := rg n1
  have gn2 := rg n2
  obtain ⟨T_r0, A_r0, ⟨r0_1, R_r0_1, H_r0_1⟩, ⟨r0_2, R_r0_2, H_r0_2⟩, ⟨r0_4, R_r0_4, H_r0_4⟩, ⟨r0_5, R_r0_5, H_r0_5⟩, ⟨r0_10, R_r0_10, H_r0_10⟩, ⟨r0_18, R_r0_18, H_r0_18⟩, ⟨r0_20, R_r0_20, H_r0_20⟩, ⟨r0_21, R_r0_21, H_r0_21⟩, ⟨r0_22, R_r0_22, H_r0_22⟩, ⟨r0_23, R_r0_23, H_r0_23⟩, ⟨r0_25, R_r0_25, H_r0_25⟩, ⟨r0_26, R_r0_26, H_r0_26⟩, ⟨r0_27, R_r0_27, H_r0_27⟩, ⟨r0_28, R_r0_28, H_r0_28⟩, ⟨r0_34, R_r0_34, H_r0_34⟩, J_r0, Y_r0⟩ := id H_r0
  have G_r0 : mF T R r0 := ⟨J_r0, Y_r0, T_r0⟩
  obtain ⟨w_r0_0, k0_r0_0⟩ : ∃ x, I r0 0 = x := ⟨_, rfl⟩
  have gw_r0_0 := rg w_r0_0
  refine k_iload_n C rfl rfl rfl ?_
  refine b_if_eq C (t := 9) rfl rfl rfl (fun c1 => ?_) (fun c1 => ?_)
  · skip
    refine k_iload_n C rfl rfl rfl ?_
    exact k_iret C rfl (Or.inr ⟨rfl, z01 (by omega) (by omega)⟩) (Nat.le_of_ble_eq_true rfl) (Nat.le_of_ble_eq_true rfl) ⟨_, _, _, rfl, rfl, by omega, by omega, by first | omega | (simp only [k0_r0_0, and_true, true_and, or_true, true_or, and_false, false_and, or_false, false_or] <;> omega), by first | omega | (simp only [k0_r0_0, and_true, true_and, or_true, true_or, and_false, false_and, or_false, false_or] <;> omega), hI, CM.rf⟩
  refine k_aload_n C rfl rfl rfl ?_
  refine k_iload_n C rfl rfl rfl ?_
  refine z_pI C rfl rfl rfl T_r0 (Or.inr rfl) rfl (fun I2 uI2 => ?_)
  have hI2 : IM R r0 I2 := IM.fld hI G_r0 ⟨(fun h => absurd h (by decide)), (fun h => absurd h (by decide)), (fun h => absurd h (by decide)), (fun h => absurd h (by decide)), (fun h => absurd h (by decide))⟩ uI2
  have S3 : CM A R r0 [0] [] I L I2 L := CM.f G_r0 A_r0 uI2
  have e5 := u2_e uI2
  refine k_iload_n C rfl rfl rfl ?_
  exact k_iret C rfl (Or.inr ⟨rfl, z01 (by omega) (by omega)⟩) (Nat.le_of_ble_eq_true rfl) (Nat.le_of_ble_eq_true rfl) ⟨_, _, _, rfl, rfl, by omega, by omega, by first | omega | (simp only [e5, k0_r0_0, and_true, true_and, or_true, true_or, and_false, false_and, or_false, false_or] <;> omega), by first | omega | (simp only [e5, k0_r0_0, and_true, true_and, or_true, true_or, and_false, false_and, or_false, false_or] <;> omega), hI2, (CM.mono S3 (by decide) (by decide))⟩

theorem a_X12_noForm_e {d : Nat} {T N : Nat → Nat} {I : IT} {L : LT} {R : RT} {A : Nat → Prop} {r0 : Nat} {n1 : Int32} (hI : IM R r0 I) (H_r0 : (h_MD T N R A) r0) : Ex (d + 2) 184 [.ref r0, .int n1] (T, N, I, L, R) 0 0 (pI T N R (fun x9 I9 L9 => (0 ≤ x9.toInt) ∧ (x9.toInt ≤ 1) ∧ (∀ a1, R r0 1 = some a1 → x9.toInt = 1 ∧ (n1.toInt < 0 ∨ (I a1 1).toInt ≤ n1.toInt) ∨ x9.toInt = 0 ∧ 0 ≤ n1.toInt ∧ n1.toInt < (I a1 1).toInt) ∧ (I = I9 ∧ L = L9))) := by
  refine ⟨_, rfl, Nat.le_of_ble_eq_true rfl, fun V C S => ?_⟩
  show V 0 [(0, .ref r0), (1, .int n1)] [] (T, N, I, L, R) 0 0
  have gn1 := rg n1
  obtain ⟨T_r0, A_r0, ⟨r0_1, R_r0_1, H_r0_1⟩, ⟨r0_2, R_r0_2, H_r0_2⟩, ⟨r0_4, R_r0_4, H_r0_4⟩, ⟨r0_5, R_r0_5, H_r0_5⟩, ⟨r0_10, R_r0_10, H_r0_10⟩, ⟨r0_18, R_r0_18, H_r0_18⟩, ⟨r0_20, R_r0_20, H_r0_20⟩, ⟨r0_21, R_r0_21, H_r0_21⟩, ⟨r0_22, R_r0_22, H_r0_22⟩, ⟨r0_23, R_r0_23, H_r0_23⟩, ⟨r0_25, R_r0_25, H_r0_25⟩, ⟨r0_26, R_r0_26, H_r0_26⟩, ⟨r0_27, R_r0_27, H_r0_27⟩, ⟨r0_28, R_r0_28, H_r0_28⟩, ⟨r0_34, R_r0_34, H_r0_34⟩, J_r0, Y_r0⟩ := id H_r0
  have G_r0 : mF T R r0 := ⟨J_r0, Y_r0, T_r0⟩
  obtain ⟨w_r0_1_1, k0_r0_1_1⟩ : ∃ x, I r0_1 1 = x := ⟨_, rfl⟩
  have gw_r0_1_1 := rg w_r0_1_1
  have ow_r0_1_1 := IM.c1 hI R_r0_1 k0_r0_1_1
  refine k_iload_n C rfl rfl rfl ?_
  refine z_iconst C (z := 0) rfl rfl rfl (fun x1 ex1 => ?_)
  refine k_aload_n C rfl rfl rfl ?_
  refine g_R C rfl rfl rfl T_r0 rfl R_r0_1 ?_
  refine z_iconst C (z := 1) rfl rfl rfl (fun x2 ex2 => ?_)
  obtain ⟨T_r0_1, N_r0_1, A_r0_1⟩ := id H_r0_1
  refine a_I C rfl rfl T_r0_1 (by rw [N_r0_1]; exact vpi (by omega) (by omega)) ((congrArg (I r0_1) (nck (n := 1) (by omega))).trans k0_r0_1_1) ?_
  refine z_iconst C (z := 1) rfl rfl rfl (fun x3 ex3 => ?_)
  refine z_isub C rfl rfl ⟨by omega, by omega⟩ (fun x4 ex4 => ?_)
  have q5 : x1.toNatClampNeg = 0 := nck (by omega)
  refine c_SI C a_X12_in rfl rfl rfl rfl rfl rfl rfl (Nat.le_of_ble_eq_true rfl) (Nat.le_of_ble_eq_true rfl) (Nat.le_of_ble_eq_true rfl) ?_
  rintro x6 _ _ ⟨o0x6, o1x6, p0x6, rfl, rfl⟩
  have gx6 := rg x6
  try simp only [q5, k0_r0_1_1] at p0x6
  try have q0x6 := congrArg Int32.toInt p0x6
  refine b_if_ne C (t := 20) rfl rfl rfl (fun c7 => ?_) (fun c7 => ?_)
  · skip
    refine z_iconst C (z := 0) rfl rfl rfl (fun x8 ex8 => ?_)
    exact k_iret C rfl (Or.inr ⟨rfl, z01 (by omega) (by omega)⟩) (Nat.le_of_ble_eq_true rfl) (Nat.le_of_ble_eq_true rfl) ⟨_, _, _, rfl, rfl, by omega, by omega, fun a1 h1 => by cases (R_r0_1.symm.trans h1); first | omega | (simp only [k0_r0_1_1, and_true, true_and, or_true, true_or, and_false, false_and, or_false, false_or] <;> omega), rfl, rfl⟩
  refine z_iconst C (z := 1) rfl rfl rfl (fun x9 ex9 => ?_)
  refine k_goto C (pc2 := 21) rfl rfl ?_
  exact k_iret C rfl (Or.inr ⟨rfl, z01 (by omega) (by omega)⟩) (Nat.le_of_ble_eq_true rfl) (Nat.le_of_ble_eq_true rfl) ⟨_, _, _, rfl, rfl, by omega, by omega, fun a1 h1 => by cases (R_r0_1.symm.trans h1); first | omega | (simp only [k0_r0_1_1, and_true, true_and, or_true, true_or, and_false, false_and, or_false, false_or] <;> omega), rfl, rfl⟩

theorem a_X12_noTable_e {d : Nat} {T N : Nat → Nat} {I : IT} {L : LT} {R : RT} {A : Nat → Prop} {r0 : Nat} {n1 : Int32} (hI : IM R r0 I) (H_r0 : (h_MD T N R A) r0) : Ex (d + 2) 185 [.ref r0, .int n1] (T, N, I, L, R) 0 0 (pI T N R (fun x9 I9 L9 => (0 ≤ x9.toInt) ∧ (x9.toInt ≤ 1) ∧ (∀ a1, R r0 1 = some a1 → x9.toInt = 1 ∧ (n1.toInt < 0 ∨ (I a1 2).toInt ≤ n1.toInt) ∨ x9.toInt = 0 ∧ 0 ≤ n1.toInt ∧ n1.toInt < (I a1 2).toInt) ∧ (I = I9 ∧ L = L9))) := by
  refine ⟨_, rfl, Nat.le_of_ble_eq_true rfl, fun V C S => ?_⟩
  show V 0 [(0, .ref r0), (1, .int n1)] [] (T, N, I, L, R) 0 0
  have gn1 := rg n1
  obtain ⟨T_r0, A_r0, ⟨r0_1, R_r0_1, H_r0_1⟩, ⟨r0_2, R_r0_2, H_r0_2⟩, ⟨r0_4, R_r0_4, H_r0_4⟩, ⟨r0_5, R_r0_5, H_r0_5⟩, ⟨r0_10, R_r0_10, H_r0_10⟩, ⟨r0_18, R_r0_18, H_r0_18⟩, ⟨r0_20, R_r0_20, H_r0_20⟩, ⟨r0_21, R_r0_21, H_r0_21⟩, ⟨r0_22, R_r0_22, H_r0_22⟩, ⟨r0_23, R_r0_23, H_r0_23⟩, ⟨r0_25, R_r0_25, H_r0_25⟩, ⟨r0_26, R_r0_26, H_r0_26⟩, ⟨r0_27, R_r0_27, H_r0_27⟩, ⟨r0_28, R_r0_28, H_r0_28⟩, ⟨r0_34, R_r0_34, H_r0_34⟩, J_r0, Y_r0⟩ := id H_r0
  have G_r0 : mF T R r0 := ⟨J_r0, Y_r0, T_r0⟩
  obtain ⟨w_r0_1_2, k0_r0_1_2⟩ : ∃ x, I r0_1 2 = x := ⟨_, rfl⟩
  have gw_r0_1_2 := rg w_r0_1_2
  have ow_r0_1_2 := IM.c2 hI R_r0_1 k0_r0_1_2
  refine k_iload_n C rfl rfl rfl ?_
  refine z_iconst C (z := 0) rfl rfl rfl (fun x1 ex1 => ?_)
  refine k_aload_n C rfl rfl rfl ?_
  refine g_R C rfl rfl rfl T_r0 rfl R_r0_1 ?_
  refine z_iconst C (z := 2) rfl rfl rfl (fun x2 ex2 => ?_)
  obtain ⟨T_r0_1, N_r0_1, A_r0_1⟩ := id H_r0_1
  refine a_I C rfl rfl T_r0_1 (by rw [N_r0_1]; exact vpi (by omega) (by omega)) ((congrArg (I r0_1) (nck (n := 2) (by omega))).trans k0_r0_1_2) ?_
  refine z_iconst C (z := 1) rfl rfl rfl (fun x3 ex3 => ?_)
  refine z_isub C rfl rfl ⟨by omega, by omega⟩ (fun x4 ex4 => ?_)
  have q5 : x1.toNatClampNeg = 0 := nck (by omega)
  refine c_SI C a_X12_in rfl rfl rfl rfl rfl rfl rfl (Nat.le_of_ble_eq_true rfl) (Nat.le_of_ble_eq_true rfl) (Nat.le_of_ble_eq_true rfl) ?_
  rintro x6 _ _ ⟨o0x6, o1x6, p0x6, rfl, rfl⟩
  have gx6 := rg x6
  try simp only [q5, k0_r0_1_2] at p0x6
  try have q0x6 := congrArg Int32.toInt p0x6
  refine b_if_ne C (t := 20) rfl rfl rfl (fun c7 => ?_) (fun c7 => ?_)
  · skip
    refine z_iconst C (z := 0) rfl rfl rfl (fun x8 ex8 => ?_)
    exact k_iret C rfl (Or.inr ⟨rfl, z01 (by omega) (by omega)⟩) (Nat.le_of_ble_eq_true rfl) (Nat.le_of_ble_eq_true rfl) ⟨_, _, _, rfl, rfl, by omega, by omega, fun a1 h1 => by cases (R_r0_1.symm.trans h1); first | omega | (simp only [k0_r0_1_2, and_true, true_and, or_true, true_or, and_false, false_and, or_false, false_or] <;> omega), rfl, rfl⟩
  refine z_iconst C (z := 1) rfl rfl rfl (fun x9 ex9 => ?_)
  refine k_goto C (pc2 := 21) rfl rfl ?_
  exact k_iret C rfl (Or.inr ⟨rfl, z01 (by omega) (by omega)⟩) (Nat.le_of_ble_eq_true rfl) (Nat.le_of_ble_eq_true rfl) ⟨_, _, _, rfl, rfl, by omega, by omega, fun a1 h1 => by cases (R_r0_1.symm.trans h1); first | omega | (simp only [k0_r0_1_2, and_true, true_and, or_true, true_or, and_false, false_and, or_false, false_or] <;> omega), rfl, rfl⟩

theorem a_X12_feed_e {d : Nat} {T N : Nat → Nat} {I : IT} {L : LT} {R : RT} {A : Nat → Prop} {r0 : Nat} {n1 n2 n3 n4 n5 : Int32} (hI : IM R r0 I) (H_r0 : (h_MD T N R A) r0) : Ex (d + 1) 216 [.ref r0, .int n1, .int n2, .int n3, .int n4, .int n5] (T, N, I, L, R) 0 0 (pI T N R (fun x9 I9 L9 => (-1 ≤ x9.toInt) ∧ (x9.toInt ≤ 400) ∧ (380 < (I r0 11).toInt ∧ x9.toInt = -1 ∧ (I9 r0 11).toInt = (I r0 11).toInt ∨ (I r0 11).toInt ≤ 380 ∧ x9.toInt = (I r0 11).toInt + 20 ∧ (I9 r0 11).toInt = (I r0 11).toInt + 20) ∧ (IM R r0 I9 ∧ CM A R r0 [0, 11] [10, 18] I L I9 L9))) := by
  refine ⟨_, rfl, Nat.le_of_ble_eq_true rfl, fun V C S => ?_⟩
  show V 0 [(0, .ref r0), (1, .int n1), (2, .int n2), (3, .int n3), (4, .int n4), (5, .int n5)] [] (T, N, I, L, R) 0 0
  have gn1 := rg n1
  have gn2 := rg n2
  have gn3 := rg n3
  have gn4 := rg n4
  have gn5 := rg n5
  obtain ⟨T_r0, A_r0, ⟨r0_1, R_r0_1, H_r0_1⟩, ⟨r0_2, R_r0_2, H_r0_2⟩, ⟨r0_4, R_r0_4, H_r0_4⟩, ⟨r0_5, R_r0_5, H_r0_5⟩, ⟨r0_10, R_r0_10, H_r0_10⟩, ⟨r0_18, R_r0_18, H_r0_18⟩, ⟨r0_20, R_r0_20, H_r0_20⟩, ⟨r0_21, R_r0_21, H_r0_21⟩, ⟨r0_22, R_r0_22, H_r0_22⟩, ⟨r0_23, R_r0_23, H_r0_23⟩, ⟨r0_25, R_r0_25, H_r0_25⟩, ⟨r0_26, R_r0_26, H_r0_26⟩, ⟨r0_27, R_r0_27, H_r0_27⟩, ⟨r0_28, R_r0_28, H_r0_28⟩, ⟨r0_34, R_r0_34, H_r0_34⟩, J_r0, Y_r0⟩ := id H_r0
  have G_r0 : mF T R r0 := ⟨J_r0, Y_r0, T_r0⟩
  obtain ⟨w_r0_11, k0_r0_11⟩ : ∃ x, I r0 11 = x := ⟨_, rfl⟩
  have gw_r0_11 := rg w_r0_11
  have ow_r0_11 := IM.f11 hI k0_r0_11
  refine k_aload_n C rfl rfl rfl ?_
  refine z_iconst C (z := 0) rfl rfl rfl (fun x1 ex1 => ?_)
  refine z_pI C rfl rfl rfl T_r0 (Or.inr rfl) rfl (fun I2 uI2 => ?_)
  have hI2 : IM R r0 I2 := IM.fld hI G_r0 ⟨(fun h => absurd h (by decide)), (fun h => absurd h (by decide)), (fun h => absurd h (by decide)), (fun h => absurd h (by decide)), (fun h => absurd h (by decide))⟩ uI2
  have S3 : CM A R r0 [0] [] I L I2 L := CM.f G_r0 A_r0 uI2
  have e4 := u2_j uI2 (by first | decide | exact ncne (by omega) (by omega) (by omega) | exact nckn (by omega) (by omega) | exact (nckn (by omega) (by omega)).symm) k0_r0_11
  have e5 := u2_e uI2
  refine k_aload_n C rfl rfl rfl ?_
  refine g_I C rfl rfl rfl T_r0 rfl e4 ?_
  refine z_bipush C (z := 20) rfl rfl rfl (fun x6 ex6 => ?_)
  refine z_iadd C rfl rfl ⟨by omega, by omega⟩ (fun x7 ex7 => ?_)
  refine z_sipush C (z := 400) rfl rfl rfl (fun x8 ex8 => ?_)
  refine b_icmp_le C (t := 20) rfl rfl rfl (fun c9 => ?_) (fun c9 => ?_)
  · skip
    refine k_aload_n C rfl rfl rfl ?_
    refine g_R C rfl rfl rfl T_r0 rfl R_r0_18 ?_
    refine z_iconst C (z := 0) rfl rfl rfl (fun x10 ex10 => ?_)
    refine k_iload_n C rfl rfl rfl ?_
    obtain ⟨T_r0_18, N_r0_18, A_r0_18⟩ := id H_r0_18
    refine z_sI C rfl rfl T_r0_18 N_r0_18 (by omega) (by omega) (fun I11 uI11 => ?_)
    have uI11 : I11 = u2 I2 r0_18 0 (n1) := by rw [uI11, nck (n := 0) (by omega)]
    have hI11 : IM R r0 I11 := IM.arr hI2 G_r0 R_r0_18 ⟨(fun h => absurd h (by decide)), (fun h => absurd h (by decide)), (fun h => absurd h (by decide))⟩ (fun h => absurd h (by decide)) uI11
    have S12 : CM A R r0 [] [18] I2 L I11 L := CM.a G_r0 R_r0_18 A_r0_18 uI11
    have e13 := u2_n uI11 (fun e => (mF.ne G_r0 R_r0_18) e.symm) e4
    have e14 := u2_n uI11 (fun e => (mF.ne G_r0 R_r0_18) e.symm) e5
    have e15 := u2_e uI11
    refine k_aload_n C rfl rfl rfl ?_
    refine g_R C rfl rfl rfl T_r0 rfl R_r0_18 ?_
    refine z_iconst C (z := 1) rfl rfl rfl (fun x16 ex16 => ?_)
    refine k_iload_n C rfl rfl rfl ?_
    refine z_sI C rfl rfl T_r0_18 N_r0_18 (by omega) (by omega) (fun I17 uI17 => ?_)
    have uI17 : I17 = u2 I11 r0_18 1 (n2) := by rw [uI17, nck (n := 1) (by omega)]
    have hI17 : IM R r0 I17 := IM.arr hI11 G_r0 R_r0_18 ⟨(fun h => absurd h (by decide)), (fun h => absurd h (by decide)), (fun h => absurd h (by decide))⟩ (fun h => absurd h (by decide)) uI17
    have S18 : CM A R r0 [] [18] I11 L I17 L := CM.a G_r0 R_r0_18 A_r0_18 uI17
    have e19 := u2_n uI17 (fun e => (mF.ne G_r0 R_r0_18) e.symm) e13
    have e20 := u2_n uI17 (fun e => (mF.ne G_r0 R_r0_18) e.symm) e14
    have e21 := u2_j uI17 (by first | decide | exact ncne (by omega) (by omega) (by omega) | exact nckn (by omega) (by omega) | exact (nckn (by omega) (by omega)).symm) e15
    have e22 := u2_e uI17
    refine k_aload_n C rfl rfl rfl ?_
    refine g_R C rfl rfl rfl T_r0 rfl R_r0_18 ?_
    refine z_iconst C (z := 2) rfl rfl rfl (fun x23 ex23 => ?_)
    refine k_iload_n C rfl rfl rfl ?_
    refine z_sI C rfl rfl T_r0_18 N_r0_18 (by omega) (by omega) (fun I24 uI24 => ?_)
    have uI24 : I24 = u2 I17 r0_18 2 (n3) := by rw [uI24, nck (n := 2) (by omega)]
    have hI24 : IM R r0 I24 := IM.arr hI17 G_r0 R_r0_18 ⟨(fun h => absurd h (by decide)), (fun h => absurd h (by decide)), (fun h => absurd h (by decide))⟩ (fun h => absurd h (by decide)) uI24
    have S25 : CM A R r0 [] [18] I17 L I24 L := CM.a G_r0 R_r0_18 A_r0_18 uI24
    have e26 := u2_n uI24 (fun e => (mF.ne G_r0 R_r0_18) e.symm) e19
    have e27 := u2_n uI24 (fun e => (mF.ne G_r0 R_r0_18) e.symm) e20
    have e28 := u2_j uI24 (by first | decide | exact ncne (by omega) (by omega) (by omega) | exact nckn (by omega) (by omega) | exact (nckn (by omega) (by omega)).symm) e21
    have e29 := u2_j uI24 (by first | decide | exact ncne (by omega) (by omega) (by omega) | exact nckn (by omega) (by omega) | exact (nckn (by omega) (by omega)).symm) e22
    have e30 := u2_e uI24
    refine k_aload_n C rfl rfl rfl ?_
    refine g_R C rfl rfl rfl T_r0 rfl R_r0_18 ?_
    refine z_iconst C (z := 3) rfl rfl rfl (fun x31 ex31 => ?_)
    refine k_iload C rfl rfl rfl ?_
    refine z_sI C rfl rfl T_r0_18 N_r0_18 (by omega) (by omega) (fun I32 uI32 => ?_)
    have uI32 : I32 = u2 I24 r0_18 3 (n4) := by rw [uI32, nck (n := 3) (by omega)]
    have hI32 : IM R r0 I32 := IM.arr hI24 G_r0 R_r0_18 ⟨(fun h => absurd h (by decide)), (fun h => absurd h (by decide)), (fun h => absurd h (by decide))⟩ (fun h => absurd h (by decide)) uI32
    have S33 : CM A R r0 [] [18] I24 L I32 L := CM.a G_r0 R_r0_18 A_r0_18 uI32
    have e34 := u2_n uI32 (fun e => (mF.ne G_r0 R_r0_18) e.symm) e26
    have e35 := u2_n uI32 (fun e => (mF.ne G_r0 R_r0_18) e.symm) e27
    have e36 := u2_j uI32 (by first | decide | exact ncne (by omega) (by omega) (by omega) | exact nckn (by omega) (by omega) | exact (nckn (by omega) (by omega)).symm) e28
    have e37 := u2_j uI32 (by first | decide | exact ncne (by omega) (by omega) (by omega) | exact nckn (by omega) (by omega) | exact (nckn (by omega) (by omega)).symm) e29
    have e38 := u2_j uI32 (by first | decide | exact ncne (by omega) (by omega) (by omega) | exact nckn (by omega) (by omega) | exact (nckn (by omega) (by omega)).symm) e30
    have e39 := u2_e uI32
    refine k_aload_n C rfl rfl rfl ?_
    refine g_R C rfl rfl rfl T_r0 rfl R_r0_18 ?_
    refine z_iconst C (z := 4) rfl rfl rfl (fun x40 ex40 => ?_)
    refine k_iload C rfl rfl rfl ?_
    refine z_sI C rfl rfl T_r0_18 N_r0_18 (by omega) (by omega) (fun I41 uI41 => ?_)
    have uI41 : I41 = u2 I32 r0_18 4 (n5) := by rw [uI41, nck (n := 4) (by omega)]
    have hI41 : IM R r0 I41 := IM.arr hI32 G_r0 R_r0_18 ⟨(fun h => absurd h (by decide)), (fun h => absurd h (by decide)), (fun h => absurd h (by decide))⟩ (fun h => absurd h (by decide)) uI41
    have S42 : CM A R r0 [] [18] I32 L I41 L := CM.a G_r0 R_r0_18 A_r0_18 uI41
    have e43 := u2_n uI41 (fun e => (mF.ne G_r0 R_r0_18) e.symm) e34
    have e44 := u2_n uI41 (fun e => (mF.ne G_r0 R_r0_18) e.symm) e35
    have e45 := u2_j uI41 (by first | decide | exact ncne (by omega) (by omega) (by omega) | exact nckn (by omega) (by omega) | exact (nckn (by omega) (by omega)).symm) e36
    have e46 := u2_j uI41 (by first | decide | exact ncne (by omega) (by omega) (by omega) | exact nckn (by omega) (by omega) | exact (nckn (by omega) (by omega)).symm) e37
    have e47 := u2_j uI41 (by first | decide | exact ncne (by omega) (by omega) (by omega) | exact nckn (by omega) (by omega) | exact (nckn (by omega) (by omega)).symm) e38
    have e48 := u2_j uI41 (by first | decide | exact ncne (by omega) (by omega) (by omega) | exact nckn (by omega) (by omega) | exact (nckn (by omega) (by omega)).symm) e39
    have e49 := u2_e uI41
    refine z_iconst C (z := 0) rfl rfl rfl (fun x50 ex50 => ?_)
    have J51 : ∀ (nn52 : Nat) (I53 : IT) (L54 : LT) (x55 : Int32), ((20 - x55.toInt).toNat = nn52) → (IM R r0 I53) → (CM A R r0 [] [10] I41 L I53 L54) → (0 ≤ x55.toInt) → (x55.toInt ≤ 20) → V 60 [(0, .ref r0), (6, .int x55)] [] (T, N, I53, L54, R) 0 0 := by
      intro nn52
      induction nn52 using Nat.strongRecOn with
      | _ nn52 ihJ51 =>
        intro I53 L54 x55 hmnn52 hI59 S58 b56 b57
        have gx55 := rg x55
        have e60 := CM.k S58 (by decide) e43
        have e61 := CM.k S58 (by decide) e44
        have e62 := CM.j S58 R_r0_18 (by decide) e45
        have e63 := CM.j S58 R_r0_18 (by decide) e46
        have e64 := CM.j S58 R_r0_18 (by decide) e47
        have e65 := CM.j S58 R_r0_18 (by decide) e48
        have e66 := CM.j S58 R_r0_18 (by decide) e49
        refine k_iload C rfl rfl rfl ?_
        refine z_bipush C (z := 20) rfl rfl rfl (fun x67 ex67 => ?_)
        refine b_icmp_ge C (t := 106) rfl rfl rfl (fun c68 => ?_) (fun c68 => ?_)
        · skip
          refine k_aload_n C rfl rfl rfl ?_
          refine k_dup C rfl rfl rfl ?_
          refine g_I C rfl rfl rfl T_r0 rfl e60 ?_
          refine z_bipush C (z := 20) rfl rfl rfl (fun x69 ex69 => ?_)
          refine z_iadd C rfl rfl ⟨by omega, by omega⟩ (fun x70 ex70 => ?_)
          refine z_pI C rfl rfl rfl T_r0 (Or.inr rfl) rfl (fun I71 uI71 => ?_)
          have hI71 : IM R r0 I71 := IM.fld hI59 G_r0 ⟨(fun _ => ⟨by omega, by omega⟩), (fun h => absurd h (by decide)), (fun h => absurd h (by decide)), (fun h => absurd h (by decide)), (fun h => absurd h (by decide))⟩ uI71
          have S72 : CM A R r0 [11] [] I53 L54 I71 L54 := CM.f G_r0 A_r0 uI71
          have e74 := u2_j uI71 (by first | decide | exact ncne (by omega) (by omega) (by omega) | exact nckn (by omega) (by omega) | exact (nckn (by omega) (by omega)).symm) e61
          have e75 := u2_n uI71 (mF.ne G_r0 R_r0_18) e62
          have e76 := u2_n uI71 (mF.ne G_r0 R_r0_18) e63
          have e77 := u2_n uI71 (mF.ne G_r0 R_r0_18) e64
          have e78 := u2_n uI71 (mF.ne G_r0 R_r0_18) e65
          have e79 := u2_n uI71 (mF.ne G_r0 R_r0_18) e66
          have e80 := u2_e uI71
          refine k_aload_n C rfl rfl rfl ?_
          refine g_I C rfl rfl rfl T_r0 rfl e80 ?_
          exact k_iret C rfl (Or.inl rfl) (Nat.le_of_ble_eq_true rfl) (Nat.le_of_ble_eq_true rfl) ⟨_, _, _, rfl, rfl, by omega, by omega, by first | omega | (simp only [e74, e75, e76, e77, e78, e79, e80, k0_r0_11, and_true, true_and, or_true, true_or, and_false, false_and, or_false, false_or] <;> omega), hI71, (CM.cons S3 (CM.cons S12 (CM.cons S18 (CM.cons S25 (CM.cons S33 (CM.cons S42 (CM.cons S58 (CM.mono S72 (by decide) (by decide)) (by decide) (by decide)) (by decide) (by decide)) (by decide) (by decide)) (by decide) (by decide)) (by decide) (by decide)) (by decide) (by decide)) (by decide) (by decide))⟩
        refine k_aload_n C rfl rfl rfl ?_
        refine g_R C rfl rfl rfl T_r0 rfl R_r0_10 ?_
        refine k_aload_n C rfl rfl rfl ?_
        refine g_I C rfl rfl rfl T_r0 rfl e60 ?_
        refine k_iload C rfl rfl rfl ?_
        refine z_iadd C rfl rfl ⟨by omega, by omega⟩ (fun x81 ex81 => ?_)
        refine k_aload_n C rfl rfl rfl ?_
        refine g_R C rfl rfl rfl T_r0 rfl R_r0_18 ?_
        refine k_iload C rfl rfl rfl ?_
        refine z_iconst C (z := 4) rfl rfl rfl (fun x82 ex82 => ?_)
        refine z_idivR C (c := 4) rfl rfl (by omega) (by omega) (by omega) (fun x83 ex83 => ?_)
        refine z_aI C rfl rfl T_r0_18 N_r0_18 (by omega) (by omega) (fun x84 ex84 => ?_)
        have gx84 := rg x84
        refine z_bipush C (z := 24) rfl rfl rfl (fun x85 ex85 => ?_)
        refine z_bipush C (z := 8) rfl rfl rfl (fun x86 ex86 => ?_)
        refine k_iload C rfl rfl rfl ?_
        refine z_iconst C (z := 4) rfl rfl rfl (fun x87 ex87 => ?_)
        refine z_iremR C (c := 4) rfl rfl (by omega) (by omega) (by omega) (fun x88 ex88 => ?_)
        refine z_imulL C (c := 8) rfl rfl (by omega) ⟨by omega, by omega⟩ (fun x89 ex89 => ?_)
        refine z_isub C rfl rfl ⟨by omega, by omega⟩ (fun x90 ex90 => ?_)
        refine zt_ishr C rfl rfl (fun x91 => ?_)
        have gx91 := rg x91
        refine zt_i2b C rfl rfl (fun x92 => ?_)
        have gx92 := rg x92
        obtain ⟨T_r0_10, N_r0_10, A_r0_10⟩ := id H_r0_10
        refine z_sB C rfl rfl T_r0_10 N_r0_10 (by omega) (by omega) (fun I93 uI93 => ?_)
        have hI93 : IM R r0 I93 := IM.arr hI59 G_r0 R_r0_10 ⟨(fun h => absurd h (by decide)), (fun h => absurd h (by decide)), (fun h => absurd h (by decide))⟩ (fun h => absurd h (by decide)) uI93
        have S94 : CM A R r0 [] [10] I53 L54 I93 L54 := CM.a G_r0 R_r0_10 A_r0_10 uI93
        have e95 := u2_n uI93 (fun e => (mF.ne G_r0 R_r0_10) e.symm) e60
        have e96 := u2_n uI93 (fun e => (mF.ne G_r0 R_r0_10) e.symm) e61
        have e97 := u2_n uI93 (mF.nq G_r0 R_r0_18 R_r0_10 (by decide)) e62
        have e98 := u2_n uI93 (mF.nq G_r0 R_r0_18 R_r0_10 (by decide)) e63
        have e99 := u2_n uI93 (mF.nq G_r0 R_r0_18 R_r0_10 (by decide)) e64
        have e100 := u2_n uI93 (mF.nq G_r0 R_r0_18 R_r0_10 (by decide)) e65
        have e101 := u2_n uI93 (mF.nq G_r0 R_r0_18 R_r0_10 (by decide)) e66
        have e102 := u2_n uI93 (mF.nq G_r0 R_r0_18 R_r0_10 (by decide)) ex84
        refine z_iinc C (z := 1) (lw := fun x103 => [(6, .int x103), (0, .ref r0)]) rfl rfl rfl (Nat.le_of_ble_eq_true rfl) rfl ⟨by omega, by omega⟩ (fun _ => rfl) (fun x103 ex103 => ?_)
        show V 103 [(6, .int x103), (0, .ref r0)] _ _ _ _
        refine k_goto C (pc2 := 60) rfl rfl ?_
        refine k_sub S [(0, .ref r0), (6, .int x103)] (List.forall_mem_cons.mpr ⟨List.mem_of_getElem? (i := 1) rfl, List.forall_mem_cons.mpr ⟨List.mem_of_getElem? (i := 0) rfl, fun _ h => nomatch h⟩⟩) ?_
        exact ihJ51 _ (by omega) I93 L54 x103 rfl hI93 (CM.cons S58 (CM.mono S94 (by decide) (by decide)) (by decide) (by decide)) (by omega) (by omega)
    refine k_istore C (lw := [(6, .int x50), (0, .ref r0), (1, .int n1), (2, .int n2), (3, .int n3), (4, .int n4), (5, .int n5)]) rfl rfl (Nat.le_of_ble_eq_true rfl) rfl ?_
    refine k_sub S [(0, .ref r0), (6, .int x50)] (List.forall_mem_cons.mpr ⟨List.mem_of_getElem? (i := 1) rfl, List.forall_mem_cons.mpr ⟨List.mem_of_getElem? (i := 0) rfl, fun _ h => nomatch h⟩⟩) ?_
    exact J51 _ I41 L x50 rfl hI41 CM.rf (by omega) (by omega)
  refine z_iconst C (z := -1) rfl rfl rfl (fun x104 ex104 => ?_)
  exact k_iret C rfl (Or.inl rfl) (Nat.le_of_ble_eq_true rfl) (Nat.le_of_ble_eq_true rfl) ⟨_, _, _, rfl, rfl, by omega, by omega, by first | omega | (simp only [e4, e5, k0_r0_11, and_true, true_and, or_true, true_or, and_false, false_and, or_false, false_or] <;> omega), hI2, (CM.mono S3 (by decide) (by decide))⟩

theorem a_X12_end_e {d : Nat} {T N : Nat → Nat} {I : IT} {L : LT} {R : RT} {A : Nat → Prop} {r0 : Nat} {n1 : Int32} (hI : IM R r0 I) (H_r0 : (h_MD T N R A) r0) : Ex (d + 1) 217 [.ref r0, .int n1] (T, N, I, L, R) 0 0 (pI T N R (fun x9 I9 L9 => (0 ≤ x9.toInt) ∧ (x9.toInt ≤ 1) ∧ ((n1.toInt < 0 ∨ (I r0 11).toInt < n1.toInt) ∧ x9.toInt = 0 ∧ (I9 r0 11).toInt = (I r0 11).toInt ∨ 0 ≤ n1.toInt ∧ n1.toInt ≤ (I r0 11).toInt ∧ x9.toInt = 1 ∧ (I9 r0 11).toInt = n1.toInt) ∧ (IM R r0 I9 ∧ CM A R r0 [0, 11] [] I L I9 L9))) := by
  refine ⟨_, rfl, Nat.le_of_ble_eq_true rfl, fun V C S => ?_⟩
  show V 0 [(0, .ref r0), (1, .int n1)] [] (T, N, I, L, R) 0 0
  have gn1 := rg n1
  obtain ⟨T_r0, A_r0, ⟨r0_1, R_r0_1, H_r0_1⟩, ⟨r0_2, R_r0_2, H_r0_2⟩, ⟨r0_4, R_r0_4, H_r0_4⟩, ⟨r0_5, R_r0_5, H_r0_5⟩, ⟨r0_10, R_r0_10, H_r0_10⟩, ⟨r0_18, R_r0_18, H_r0_18⟩, ⟨r0_20, R_r0_20, H_r0_20⟩, ⟨r0_21, R_r0_21, H_r0_21⟩, ⟨r0_22, R_r0_22, H_r0_22⟩, ⟨r0_23, R_r0_23, H_r0_23⟩, ⟨r0_25, R_r0_25, H_r0_25⟩, ⟨r0_26, R_r0_26, H_r0_26⟩, ⟨r0_27, R_r0_27, H_r0_27⟩, ⟨r0_28, R_r0_28, H_r0_28⟩, ⟨r0_34, R_r0_34, H_r0_34⟩, J_r0, Y_r0⟩ := id H_r0
  have G_r0 : mF T R r0 := ⟨J_r0, Y_r0, T_r0⟩
  obtain ⟨w_r0_11, k0_r0_11⟩ : ∃ x, I r0 11 = x := ⟨_, rfl⟩
  have gw_r0_11 := rg w_r0_11
  have ow_r0_11 := IM.f11 hI k0_r0_11
  refine k_aload_n C rfl rfl rfl ?_
  refine z_iconst C (z := 0) rfl rfl rfl (fun x1 ex1 => ?_)
  refine z_pI C rfl rfl rfl T_r0 (Or.inr rfl) rfl (fun I2 uI2 => ?_)
  have hI2 : IM R r0 I2 := IM.fld hI G_r0 ⟨(fun h => absurd h (by decide)), (fun h => absurd h (by decide)), (fun h => absurd h (by decide)), (fun h => absurd h (by decide)), (fun h => absurd h (by decide))⟩ uI2
  have S3 : CM A R r0 [0] [] I L I2 L := CM.f G_r0 A_r0 uI2
  have e4 := u2_j uI2 (by first | decide | exact ncne (by omega) (by omega) (by omega) | exact nckn (by omega) (by omega) | exact (nckn (by omega) (by omega)).symm) k0_r0_11
  have e5 := u2_e uI2
  refine k_iload_n C rfl rfl rfl ?_
  refine b_if_lt C (t := 17) rfl rfl rfl (fun c6 => ?_) (fun c6 => ?_)
  · skip
    refine z_iconst C (z := 0) rfl rfl rfl (fun x7 ex7 => ?_)
    exact k_iret C rfl (Or.inr ⟨rfl, z01 (by omega) (by omega)⟩) (Nat.le_of_ble_eq_true rfl) (Nat.le_of_ble_eq_true rfl) ⟨_, _, _, rfl, rfl, by omega, by omega, by first | omega | (simp only [e4, e5, k0_r0_11, and_true, true_and, or_true, true_or, and_false, false_and, or_false, false_or] <;> omega), hI2, (CM.mono S3 (by decide) (by decide))⟩
  refine k_iload_n C rfl rfl rfl ?_
  refine k_aload_n C rfl rfl rfl ?_
  refine g_I C rfl rfl rfl T_r0 rfl e4 ?_
  refine b_icmp_le C (t := 19) rfl rfl rfl (fun c8 => ?_) (fun c8 => ?_)
  · skip
    refine k_aload_n C rfl rfl rfl ?_
    refine k_iload_n C rfl rfl rfl ?_
    refine z_pI C rfl rfl rfl T_r0 (Or.inr rfl) rfl (fun I9 uI9 => ?_)
    have hI9 : IM R r0 I9 := IM.fld hI2 G_r0 ⟨(fun _ => ⟨by omega, by omega⟩), (fun h => absurd h (by decide)), (fun h => absurd h (by decide)), (fun h => absurd h (by decide)), (fun h => absurd h (by decide))⟩ uI9
    have S10 : CM A R r0 [11] [] I2 L I9 L := CM.f G_r0 A_r0 uI9
    have e12 := u2_j uI9 (by first | decide | exact ncne (by omega) (by omega) (by omega) | exact nckn (by omega) (by omega) | exact (nckn (by omega) (by omega)).symm) e5
    have e13 := u2_e uI9
    refine z_iconst C (z := 1) rfl rfl rfl (fun x14 ex14 => ?_)
    exact k_iret C rfl (Or.inr ⟨rfl, z01 (by omega) (by omega)⟩) (Nat.le_of_ble_eq_true rfl) (Nat.le_of_ble_eq_true rfl) ⟨_, _, _, rfl, rfl, by omega, by omega, by first | omega | (simp only [e12, e13, k0_r0_11, and_true, true_and, or_true, true_or, and_false, false_and, or_false, false_or] <;> omega), hI9, (CM.cons S3 (CM.mono S10 (by decide) (by decide)) (by decide) (by decide))⟩
  refine z_iconst C (z := 0) rfl rfl rfl (fun x15 ex15 => ?_)
  exact k_iret C rfl (Or.inr ⟨rfl, z01 (by omega) (by omega)⟩) (Nat.le_of_ble_eq_true rfl) (Nat.le_of_ble_eq_true rfl) ⟨_, _, _, rfl, rfl, by omega, by omega, by first | omega | (simp only [e4, e5, k0_r0_11, and_true, true_and, or_true, true_or, and_false, false_and, or_false, false_or] <;> omega), hI2, (CM.mono S3 (by decide) (by decide))⟩

theorem a_X12_uses_e {d : Nat} {T N : Nat → Nat} {I : IT} {L : LT} {R : RT} {A : Nat → Prop} {r0 : Nat} (hI : IM R r0 I) (H_r0 : (h_MD T N R A) r0) : Ex (d + 1) 230 [.ref r0] (T, N, I, L, R) 0 0 (pV T N R (fun I9 L9 => ((I9 r0 13).toInt = (I r0 11).toInt) ∧ ((I9 r0 11).toInt = 0) ∧ ((I9 r0 0).toInt = 0) ∧ (IM R r0 I9 ∧ CM A R r0 [0, 11, 12, 13] [] I L I9 L9))) := by
  refine ⟨_, rfl, Nat.le_of_ble_eq_true rfl, fun V C S => ?_⟩
  show V 0 [(0, .ref r0)] [] (T, N, I, L, R) 0 0
  obtain ⟨T_r0, A_r0, ⟨r0_1, R_r0_1, H_r0_1⟩, ⟨r0_2, R_r0_2, H_r0_2⟩, ⟨r0_4, R_r0_4, H_r0_4⟩, ⟨r0_5, R_r0_5, H_r0_5⟩, ⟨r0_10, R_r0_10, H_r0_10⟩, ⟨r0_18, R_r0_18, H_r0_18⟩, ⟨r0_20, R_r0_20, H_r0_20⟩, ⟨r0_21, R_r0_21, H_r0_21⟩, ⟨r0_22, R_r0_22, H_r0_22⟩, ⟨r0_23, R_r0_23, H_r0_23⟩, ⟨r0_25, R_r0_25, H_r0_25⟩, ⟨r0_26, R_r0_26, H_r0_26⟩, ⟨r0_27, R_r0_27, H_r0_27⟩, ⟨r0_28, R_r0_28, H_r0_28⟩, ⟨r0_34, R_r0_34, H_r0_34⟩, J_r0, Y_r0⟩ := id H_r0
  have G_r0 : mF T R r0 := ⟨J_r0, Y_r0, T_r0⟩
  obtain ⟨w_r0_11, k0_r0_11⟩ : ∃ x, I r0 11 = x := ⟨_, rfl⟩
  have gw_r0_11 := rg w_r0_11
  have ow_r0_11 := IM.f11 hI k0_r0_11
  refine k_aload_n C rfl rfl rfl ?_
  refine z_iconst C (z := 0) rfl rfl rfl (fun x1 ex1 => ?_)
  refine z_pI C rfl rfl rfl T_r0 (Or.inr rfl) rfl (fun I2 uI2 => ?_)
  have hI2 : IM R r0 I2 := IM.fld hI G_r0 ⟨(fun h => absurd h (by decide)), (fun h => absurd h (by decide)), (fun h => absurd h (by decide)), (fun h => absurd h (by decide)), (fun h => absurd h (by decide))⟩ uI2
  have S3 : CM A R r0 [0] [] I L I2 L := CM.f G_r0 A_r0 uI2
  have e4 := u2_j uI2 (by first | decide | exact ncne (by omega) (by omega) (by omega) | exact nckn (by omega) (by omega) | exact (nckn (by omega) (by omega)).symm) k0_r0_11
  have e5 := u2_e uI2
  refine k_aload_n C rfl rfl rfl ?_
  refine k_aload_n C rfl rfl rfl ?_
  refine g_I C rfl rfl rfl T_r0 rfl e4 ?_
  refine z_pI C rfl rfl rfl T_r0 (Or.inr rfl) rfl (fun I6 uI6 => ?_)
  have hI6 : IM R r0 I6 := IM.fld hI2 G_r0 ⟨(fun _ => ⟨by omega, by omega⟩), (fun h => absurd h (by decide)), (fun h => absurd h (by decide)), (fun h => absurd h (by decide)), (fun h => absurd h (by decide))⟩ uI6
  have S7 : CM A R r0 [13] [] I2 L I6 L := CM.f G_r0 A_r0 uI6
  have e8 := u2_j uI6 (by first | decide | exact ncne (by omega) (by omega) (by omega) | exact nckn (by omega) (by omega) | exact (nckn (by omega) (by omega)).symm) e4
  have e9 := u2_j uI6 (by first | decide | exact ncne (by omega) (by omega) (by omega) | exact nckn (by omega) (by omega) | exact (nckn (by omega) (by omega)).symm) e5
  have e10 := u2_e uI6
  refine k_aload_n C rfl rfl rfl ?_
  refine z_iconst C (z := 0) rfl rfl rfl (fun x11 ex11 => ?_)
  refine z_pI C rfl rfl rfl T_r0 (Or.inr rfl) rfl (fun I12 uI12 => ?_)
  have hI12 : IM R r0 I12 := IM.fld hI6 G_r0 ⟨(fun _ => ⟨by omega, by omega⟩), (fun h => absurd h (by decide)), (fun h => absurd h (by decide)), (fun h => absurd h (by decide)), (fun h => absurd h (by decide))⟩ uI12
  have S13 : CM A R r0 [11] [] I6 L I12 L := CM.f G_r0 A_r0 uI12
  have e15 := u2_j uI12 (by first | decide | exact ncne (by omega) (by omega) (by omega) | exact nckn (by omega) (by omega) | exact (nckn (by omega) (by omega)).symm) e9
  have e16 := u2_j uI12 (by first | decide | exact ncne (by omega) (by omega) (by omega) | exact nckn (by omega) (by omega) | exact (nckn (by omega) (by omega)).symm) e10
  have e17 := u2_e uI12
  refine k_aload_n C rfl rfl rfl ?_
  refine z_iconst C (z := 0) rfl rfl rfl (fun x18 ex18 => ?_)
  refine z_pI C rfl rfl rfl T_r0 (Or.inr rfl) rfl (fun I19 uI19 => ?_)
  have hI19 : IM R r0 I19 := IM.fld hI12 G_r0 ⟨(fun _ => ⟨by omega, by omega⟩), (fun h => absurd h (by decide)), (fun h => absurd h (by decide)), (fun h => absurd h (by decide)), (fun h => absurd h (by decide))⟩ uI19
  have S20 : CM A R r0 [12] [] I12 L I19 L := CM.f G_r0 A_r0 uI19
  have e21 := u2_j uI19 (by first | decide | exact ncne (by omega) (by omega) (by omega) | exact nckn (by omega) (by omega) | exact (nckn (by omega) (by omega)).symm) e15
  have e22 := u2_j uI19 (by first | decide | exact ncne (by omega) (by omega) (by omega) | exact nckn (by omega) (by omega) | exact (nckn (by omega) (by omega)).symm) e16
  have e23 := u2_j uI19 (by first | decide | exact ncne (by omega) (by omega) (by omega) | exact nckn (by omega) (by omega) | exact (nckn (by omega) (by omega)).symm) e17
  have e24 := u2_e uI19
  exact k_vret C rfl rfl (Nat.le_of_ble_eq_true rfl) (Nat.le_of_ble_eq_true rfl) ⟨_, _, rfl, rfl, by first | omega | (simp only [e21, e22, e23, e24, k0_r0_11, and_true, true_and, or_true, true_or, and_false, false_and, or_false, false_or] <;> omega), by first | omega | (simp only [e21, e22, e23, e24, k0_r0_11, and_true, true_and, or_true, true_or, and_false, false_and, or_false, false_or] <;> omega), by first | omega | (simp only [e21, e22, e23, e24, k0_r0_11, and_true, true_and, or_true, true_or, and_false, false_and, or_false, false_or] <;> omega), hI19, (CM.cons S3 (CM.cons S7 (CM.cons S13 (CM.mono S20 (by decide) (by decide)) (by decide) (by decide)) (by decide) (by decide)) (by decide) (by decide))⟩

theorem a_X12_form_e {d : Nat} {T N : Nat → Nat} {I : IT} {L : LT} {R : RT} {A : Nat → Prop} {r0 : Nat} (hI : IM R r0 I) (H_r0 : (h_MD T N R A) r0) : Ex (d + 4) 233 [.ref r0] (T, N, I, L, R) 0 0 (pI T N R (fun x9 I9 L9 => (0 ≤ x9.toInt) ∧ (x9.toInt ≤ 16) ∧ (∀ a1, R r0 1 = some a1 → (I a1 4).toInt + (I a1 5).toInt ≤ 40 → (I9 a1 4).toInt + (I9 a1 5).toInt ≤ 40) ∧ ((I9 r0 11).toInt = 0) ∧ (∀ a1, R r0 1 = some a1 → (I9 a1 0).toInt = (I a1 0).toInt) ∧ (∀ a1, R r0 1 = some a1 → (I9 a1 2).toInt = (I a1 2).toInt) ∧ (∀ a1, R r0 1 = some a1 → (I9 a1 3).toInt = (I a1 3).toInt) ∧ (∀ a1, R r0 1 = some a1 → ((I r0 11).toInt < 1 ∨ 9 < (I r0 11).toInt) ∧ (I9 r0 0).toInt = 1 ∧ (I9 a1 1).toInt = (I a1 1).toInt ∨ 1 ≤ (I r0 11).toInt ∧ (I r0 11).toInt ≤ 9 ∧ (I a1 1).toInt = 16 ∧ (I9 r0 0).toInt = 2 ∧ (I9 a1 1).toInt = (I a1 1).toInt ∨ 1 ≤ (I r0 11).toInt ∧ (I r0 11).toInt ≤ 9 ∧ (I a1 1).toInt < 16 ∧ (I9 r0 0).toInt = 0 ∧ x9.toInt = (I a1 1).toInt ∧ (I9 a1 1).toInt = (I a1 1).toInt + 1) ∧ (IM R r0 I9 ∧ CM A R r0 [0, 11, 12, 13] [1] I L I9 L9))) := by
  refine ⟨_, rfl, Nat.le_of_ble_eq_true rfl, fun V C S => ?_⟩
  show V 0 [(0, .ref r0)] [] (T, N, I, L, R) 0 0
  obtain ⟨T_r0, A_r0, ⟨r0_1, R_r0_1, H_r0_1⟩, ⟨r0_2, R_r0_2, H_r0_2⟩, ⟨r0_4, R_r0_4, H_r0_4⟩, ⟨r0_5, R_r0_5, H_r0_5⟩, ⟨r0_10, R_r0_10, H_r0_10⟩, ⟨r0_18, R_r0_18, H_r0_18⟩, ⟨r0_20, R_r0_20, H_r0_20⟩, ⟨r0_21, R_r0_21, H_r0_21⟩, ⟨r0_22, R_r0_22, H_r0_22⟩, ⟨r0_23, R_r0_23, H_r0_23⟩, ⟨r0_25, R_r0_25, H_r0_25⟩, ⟨r0_26, R_r0_26, H_r0_26⟩, ⟨r0_27, R_r0_27, H_r0_27⟩, ⟨r0_28, R_r0_28, H_r0_28⟩, ⟨r0_34, R_r0_34, H_r0_34⟩, J_r0, Y_r0⟩ := id H_r0
  have G_r0 : mF T R r0 := ⟨J_r0, Y_r0, T_r0⟩
  obtain ⟨w_r0_1_0, k0_r0_1_0⟩ : ∃ x, I r0_1 0 = x := ⟨_, rfl⟩
  have gw_r0_1_0 := rg w_r0_1_0
  have ow_r0_1_0 := IM.pi hI R_r0_1 k0_r0_1_0
  obtain ⟨w_r0_1_1, k0_r0_1_1⟩ : ∃ x, I r0_1 1 = x := ⟨_, rfl⟩
  have gw_r0_1_1 := rg w_r0_1_1
  have ow_r0_1_1 := IM.c1 hI R_r0_1 k0_r0_1_1
  obtain ⟨w_r0_1_2, k0_r0_1_2⟩ : ∃ x, I r0_1 2 = x := ⟨_, rfl⟩
  have gw_r0_1_2 := rg w_r0_1_2
  have ow_r0_1_2 := IM.c2 hI R_r0_1 k0_r0_1_2
  obtain ⟨w_r0_1_3, k0_r0_1_3⟩ : ∃ x, I r0_1 3 = x := ⟨_, rfl⟩
  have gw_r0_1_3 := rg w_r0_1_3
  have ow_r0_1_3 := IM.c3 hI R_r0_1 k0_r0_1_3
  obtain ⟨w_r0_1_4, k0_r0_1_4⟩ : ∃ x, I r0_1 4 = x := ⟨_, rfl⟩
  have gw_r0_1_4 := rg w_r0_1_4
  have ow_r0_1_4 := IM.c4 hI R_r0_1 k0_r0_1_4
  obtain ⟨w_r0_1_5, k0_r0_1_5⟩ : ∃ x, I r0_1 5 = x := ⟨_, rfl⟩
  have gw_r0_1_5 := rg w_r0_1_5
  have ow_r0_1_5 := IM.c5 hI R_r0_1 k0_r0_1_5
  obtain ⟨w_r0_11, k0_r0_11⟩ : ∃ x, I r0 11 = x := ⟨_, rfl⟩
  have gw_r0_11 := rg w_r0_11
  have ow_r0_11 := IM.f11 hI k0_r0_11
  refine k_aload_n C rfl rfl rfl ?_
  refine c_VV C (a_X12_uses_e hI H_r0) rfl rfl rfl rfl rfl ⟨_, rfl, rfl, T_r0, Nat.le_of_ble_eq_true rfl⟩ rfl rfl (Nat.le_of_ble_eq_true rfl) (Nat.le_of_ble_eq_true rfl) (Nat.le_of_ble_eq_true rfl) ?_
  rintro I2 L3 ⟨p0v1, p1v1, p2v1, hI2, S4⟩
  have e5 := CM.j S4 R_r0_1 (by decide) k0_r0_1_0
  have e6 := CM.j S4 R_r0_1 (by decide) k0_r0_1_1
  have e7 := CM.j S4 R_r0_1 (by decide) k0_r0_1_2
  have e8 := CM.j S4 R_r0_1 (by decide) k0_r0_1_3
  have e9 := CM.j S4 R_r0_1 (by decide) k0_r0_1_4
  have e10 := CM.j S4 R_r0_1 (by decide) k0_r0_1_5
  obtain ⟨x12, e13⟩ : ∃ x, I2 r0 13 = x := ⟨_, rfl⟩
  have gx12 := rg x12
  have ox12 := IM.f13 hI2 e13
  obtain ⟨x14, e15⟩ : ∃ x, I2 r0 11 = x := ⟨_, rfl⟩
  have gx14 := rg x14
  have ox14 := IM.f11 hI2 e15
  obtain ⟨x16, e17⟩ : ∃ x, I2 r0 0 = x := ⟨_, rfl⟩
  have gx16 := rg x16
  try simp only [k0_r0_1_0, k0_r0_1_1, k0_r0_1_2, k0_r0_1_3, k0_r0_1_4, k0_r0_1_5, k0_r0_11, e13, e15, e17] at p0v1
  try have q0v1 := congrArg Int32.toInt p0v1
  try simp only [k0_r0_1_0, k0_r0_1_1, k0_r0_1_2, k0_r0_1_3, k0_r0_1_4, k0_r0_1_5, k0_r0_11, e13, e15, e17] at p1v1
  try have q1v1 := congrArg Int32.toInt p1v1
  try simp only [k0_r0_1_0, k0_r0_1_1, k0_r0_1_2, k0_r0_1_3, k0_r0_1_4, k0_r0_1_5, k0_r0_11, e13, e15, e17] at p2v1
  try have q2v1 := congrArg Int32.toInt p2v1
  refine k_aload_n C rfl rfl rfl ?_
  refine k_aload_n C rfl rfl rfl ?_
  refine g_I C rfl rfl rfl T_r0 rfl e13 ?_
  refine z_iconst C (z := 1) rfl rfl rfl (fun x18 ex18 => ?_)
  refine z_bipush C (z := 9) rfl rfl rfl (fun x19 ex19 => ?_)
  have q20 : x18.toNatClampNeg = 1 := nck (by omega)
  have q21 : x19.toNatClampNeg = 9 := nck (by omega)
  refine c_SI C a_X12_in rfl rfl rfl rfl rfl rfl rfl (Nat.le_of_ble_eq_true rfl) (Nat.le_of_ble_eq_true rfl) (Nat.le_of_ble_eq_true rfl) ?_
  rintro x22 _ _ ⟨o0x22, o1x22, p0x22, rfl, rfl⟩
  have gx22 := rg x22
  try simp only [q20, q21, e5, e6, e7, e8, e9, e10, e13, e15, e17] at p0x22
  try have q0x22 := congrArg Int32.toInt p0x22
  refine b_if_ne C (t := 22) rfl rfl rfl (fun c23 => ?_) (fun c23 => ?_)
  · skip
    refine z_iconst C (z := 0) rfl rfl rfl (fun x24 ex24 => ?_)
    refine z_iconst C (z := 1) rfl rfl rfl (fun x25 ex25 => ?_)
    have q26 : x24.toNatClampNeg = 0 := nck (by omega)
    have q27 : x25.toNatClampNeg = 1 := nck (by omega)
    refine c_VI C (a_X12_throwsIf_e hI2 H_r0 (by omega) (by omega)) rfl rfl rfl rfl rfl ⟨_, rfl, rfl, T_r0, Nat.le_of_ble_eq_true rfl⟩ rfl rfl (Nat.le_of_ble_eq_true rfl) (Nat.le_of_ble_eq_true rfl) (Nat.le_of_ble_eq_true rfl) ?_
    rintro x28 I29 L30 ⟨o0x28, o1x28, p0x28, p1x28, hI29, S31⟩
    have e32 := CM.j S31 R_r0_1 (by decide) e5
    have e33 := CM.j S31 R_r0_1 (by decide) e6
    have e34 := CM.j S31 R_r0_1 (by decide) e7
    have e35 := CM.j S31 R_r0_1 (by decide) e8
    have e36 := CM.j S31 R_r0_1 (by decide) e9
    have e37 := CM.j S31 R_r0_1 (by decide) e10
    have e38 := CM.k S31 (by decide) e13
    have e39 := CM.k S31 (by decide) e15
    have gx28 := rg x28
    obtain ⟨x41, e42⟩ : ∃ x, I29 r0 0 = x := ⟨_, rfl⟩
    have gx41 := rg x41
    try simp only [q26, q27, e5, e6, e7, e8, e9, e10, e13, e15, e17, e42] at p0x28
    try have q0x28 := congrArg Int32.toInt p0x28
    try simp only [q26, q27, e5, e6, e7, e8, e9, e10, e13, e15, e17, e42] at p1x28
    try have q1x28 := congrArg Int32.toInt p1x28
    refine b_if_ne C (t := 54) rfl rfl rfl (fun c43 => by exfalso; omega) (fun c43 => ?_)
    refine k_aload_n C rfl rfl rfl ?_
    refine k_aload_n C rfl rfl rfl ?_
    refine g_R C rfl rfl rfl T_r0 rfl R_r0_1 ?_
    refine z_iconst C (z := 1) rfl rfl rfl (fun x44 ex44 => ?_)
    obtain ⟨T_r0_1, N_r0_1, A_r0_1⟩ := id H_r0_1
    refine a_I C rfl rfl T_r0_1 (by rw [N_r0_1]; exact vpi (by omega) (by omega)) ((congrArg (I29 r0_1) (nck (n := 1) (by omega))).trans e33) ?_
    refine z_bipush C (z := 16) rfl rfl rfl (fun x45 ex45 => ?_)
    refine b_icmp_ne C (t := 46) rfl rfl rfl (fun c46 => ?_) (fun c46 => ?_)
    · skip
      refine z_iconst C (z := 0) rfl rfl rfl (fun x47 ex47 => ?_)
      refine z_iconst C (z := 2) rfl rfl rfl (fun x48 ex48 => ?_)
      have q49 : x47.toNatClampNeg = 0 := nck (by omega)
      have q50 : x48.toNatClampNeg = 2 := nck (by omega)
      refine c_VI C (a_X12_throwsIf_e hI29 H_r0 (by omega) (by omega)) rfl rfl rfl rfl rfl ⟨_, rfl, rfl, T_r0, Nat.le_of_ble_eq_true rfl⟩ rfl rfl (Nat.le_of_ble_eq_true rfl) (Nat.le_of_ble_eq_true rfl) (Nat.le_of_ble_eq_true rfl) ?_
      rintro x51 I52 L53 ⟨o0x51, o1x51, p0x51, p1x51, hI52, S54⟩
      have e55 := CM.j S54 R_r0_1 (by decide) e32
      have e56 := CM.j S54 R_r0_1 (by decide) e33
      have e57 := CM.j S54 R_r0_1 (by decide) e34
      have e58 := CM.j S54 R_r0_1 (by decide) e35
      have e59 := CM.j S54 R_r0_1 (by decide) e36
      have e60 := CM.j S54 R_r0_1 (by decide) e37
      have e61 := CM.k S54 (by decide) e38
      have e62 := CM.k S54 (by decide) e39
      have gx51 := rg x51
      obtain ⟨x64, e65⟩ : ∃ x, I52 r0 0 = x := ⟨_, rfl⟩
      have gx64 := rg x64
      try simp only [q49, q50, e32, e33, e34, e35, e36, e37, e38, e39, e42, e65] at p0x51
      try have q0x51 := congrArg Int32.toInt p0x51
      try simp only [q49, q50, e32, e33, e34, e35, e36, e37, e38, e39, e42, e65] at p1x51
      try have q1x51 := congrArg Int32.toInt p1x51
      refine b_if_eq C (t := 56) rfl rfl rfl (fun c66 => ?_) (fun c66 => by exfalso; omega)
      refine k_aload_n C rfl rfl rfl ?_
      refine g_R C rfl rfl rfl T_r0 rfl R_r0_1 ?_
      refine z_iconst C (z := 1) rfl rfl rfl (fun x67 ex67 => ?_)
      refine a_I C rfl rfl T_r0_1 (by rw [N_r0_1]; exact vpi (by omega) (by omega)) ((congrArg (I52 r0_1) (nck (n := 1) (by omega))).trans e56) ?_
      refine k_istore_n C (lw := [(1, .int w_r0_1_1), (0, .ref r0)]) rfl rfl (Nat.le_of_ble_eq_true rfl) rfl ?_
      refine k_aload_n C rfl rfl rfl ?_
      refine g_R C rfl rfl rfl T_r0 rfl R_r0_1 ?_
      refine k_iload_n C rfl rfl rfl ?_
      refine c_SI C (a_X12_formAt (by omega) (by omega)) rfl rfl rfl rfl rfl rfl rfl (Nat.le_of_ble_eq_true rfl) (Nat.le_of_ble_eq_true rfl) (Nat.le_of_ble_eq_true rfl) ?_
      rintro x68 _ _ ⟨o0x68, o1x68, p0x68, rfl, rfl⟩
      have gx68 := rg x68
      try simp only [e55, e56, e57, e58, e59, e60, e61, e62, e65] at p0x68
      try have q0x68 := congrArg Int32.toInt p0x68
      refine k_aload_n C rfl rfl rfl ?_
      refine g_I C rfl rfl rfl T_r0 rfl e61 ?_
      refine z_iconst C (z := 1) rfl rfl rfl (fun x69 ex69 => ?_)
      refine z_isub C rfl rfl ⟨by omega, by omega⟩ (fun x70 ex70 => ?_)
      refine z_sI C rfl rfl T_r0_1 N_r0_1 (by omega) (by omega) (fun I71 uI71 => ?_)
      have hI71 : IM R r0 I71 := IM.arr hI52 G_r0 R_r0_1 ⟨(fun h => absurd h (by decide)), (fun h => absurd h (by decide)), (fun h => absurd h (by decide))⟩ (fun _ => WOK.dg (IM.w hI52 R_r0_1) (f := w_r0_1_1) ⟨by rw [e56]; omega, by omega⟩ (by omega) (by omega) (by omega)) uI71
      have S72 : CM A R r0 [] [1] I52 L53 I71 L53 := CM.a G_r0 R_r0_1 A_r0_1 uI71
      have e73 := u2_j uI71 (by first | decide | exact ncne (by omega) (by omega) (by omega) | exact nckn (by omega) (by omega) | exact (nckn (by omega) (by omega)).symm) e55
      have e74 := u2_j uI71 (by first | decide | exact ncne (by omega) (by omega) (by omega) | exact nckn (by omega) (by omega) | exact (nckn (by omega) (by omega)).symm) e56
      have e75 := u2_j uI71 (by first | decide | exact ncne (by omega) (by omega) (by omega) | exact nckn (by omega) (by omega) | exact (nckn (by omega) (by omega)).symm) e57
      have e76 := u2_j uI71 (by first | decide | exact ncne (by omega) (by omega) (by omega) | exact nckn (by omega) (by omega) | exact (nckn (by omega) (by omega)).symm) e58
      have e77 := u2_j uI71 (by first | decide | exact ncne (by omega) (by omega) (by omega) | exact nckn (by omega) (by omega) | exact (nckn (by omega) (by omega)).symm) e59
      have e78 := u2_j uI71 (by first | decide | exact ncne (by omega) (by omega) (by omega) | exact nckn (by omega) (by omega) | exact (nckn (by omega) (by omega)).symm) e60
      have e79 := u2_n uI71 (fun e => (mF.ne G_r0 R_r0_1) e.symm) e61
      have e80 := u2_n uI71 (fun e => (mF.ne G_r0 R_r0_1) e.symm) e62
      have e81 := u2_n uI71 (fun e => (mF.ne G_r0 R_r0_1) e.symm) e65
      have e82 := u2_e uI71
      have hu77 := uI71
      refine z_iconst C (z := 0) rfl rfl rfl (fun x83 ex83 => ?_)
      have J84 : ∀ (nn85 : Nat) (I86 : IT) (L87 : LT) (x88 : Int32) (x93 : Int32) (x97 : Int32) (x101 : Int32) (x105 : Int32) (x109 : Int32) (x113 : Int32), ((400 - x88.toInt).toNat = nn85) → (IM R r0 I86) → (CM A R r0 [] [1] I71 L53 I86 L87) → (0 ≤ x88.toInt) → (x88.toInt ≤ 400) → (I86 r0_1 0 = x93) → (11 ≤ x93.toInt) → (x93.toInt ≤ 19) → (I86 r0_1 1 = x97) → (0 ≤ x97.toInt) → (x97.toInt ≤ 16) → (I86 r0_1 2 = x101) → (0 ≤ x101.toInt) → (x101.toInt ≤ 8) → (I86 r0_1 3 = x105) → (0 ≤ x105.toInt) → (x105.toInt ≤ 8) → (I86 r0_1 4 = x109) → (0 ≤ x109.toInt) → (x109.toInt ≤ 40) → (I86 r0_1 5 = x113) → (0 ≤ x113.toInt) → (x113.toInt ≤ 40) → (x93.toInt = w_r0_1_0.toInt) → (x97.toInt = w_r0_1_1.toInt) → (x101.toInt = w_r0_1_2.toInt) → (x105.toInt = w_r0_1_3.toInt) → (x109.toInt = w_r0_1_4.toInt) → (x113.toInt = w_r0_1_5.toInt) → (FRM I86 r0_1 w_r0_1_1.toNatClampNeg x88.toInt (x12.toInt - 1) w_r0_1_0.toInt) → V 80 [(0, .ref r0), (1, .int w_r0_1_1), (2, .int x88)] [] (T, N, I86, L87, R) 0 0 := by
        intro nn85
        induction nn85 using Nat.strongRecOn with
        | _ nn85 ihJ84 =>
          intro I86 L87 x88 x93 x97 x101 x105 x109 x113 hmnn85 hI92 S91 b89 b90 e94 b95 b96 e98 b99 b100 e102 b103 b104 e106 b107 b108 e110 b111 b112 e114 b115 b116 ff80_0 ff80_1 ff80_2 ff80_3 ff80_4 ff80_5 ff80_6
          have gx88 := rg x88
          have gx93 := rg x93
          have gx97 := rg x97
          have gx101 := rg x101
          have gx105 := rg x105
          have gx109 := rg x109
          have gx113 := rg x113
          have e117 := CM.k S91 (by decide) e79
          have e118 := CM.k S91 (by decide) e80
          have e119 := CM.k S91 (by decide) e81
          refine k_iload_n C rfl rfl rfl ?_
          refine k_aload_n C rfl rfl rfl ?_
          refine g_I C rfl rfl rfl T_r0 rfl e117 ?_
          refine b_icmp_ge C (t := 122) rfl rfl rfl (fun c120 => ?_) (fun c120 => ?_)
          · skip
            refine k_aload_n C rfl rfl rfl ?_
            refine g_R C rfl rfl rfl T_r0 rfl R_r0_1 ?_
            refine z_iconst C (z := 1) rfl rfl rfl (fun x121 ex121 => ?_)
            refine k_dup2 C rfl rfl rfl rfl ?_
            refine a_I C rfl rfl T_r0_1 (by rw [N_r0_1]; exact vpi (by omega) (by omega)) ((congrArg (I86 r0_1) (nck (n := 1) (by omega))).trans e98) ?_
            refine z_iconst C (z := 1) rfl rfl rfl (fun x122 ex122 => ?_)
            refine z_iadd C rfl rfl ⟨by omega, by omega⟩ (fun x123 ex123 => ?_)
            refine z_sI C rfl rfl T_r0_1 N_r0_1 (by omega) (by omega) (fun I124 uI124 => ?_)
            have uI124 : I124 = u2 I86 r0_1 1 (x123) := by rw [uI124, nck (n := 1) (by omega)]
            have hI124 : IM R r0 I124 := IM.arr hI92 G_r0 R_r0_1 ⟨(fun h => absurd h (by decide)), (fun h => absurd h (by decide)), (fun h => absurd h (by decide))⟩ (fun _ => WOK.c1 (IM.w hI92 R_r0_1) (f := w_r0_1_1) (by rw [e98]; omega) (by omega) (by omega) (fun k9 hk9 => FRM.e ff80_6 k9 hk9 (by omega) (by rw [e94]; omega))) uI124
            have S125 : CM A R r0 [] [1] I86 L87 I124 L87 := CM.a G_r0 R_r0_1 A_r0_1 uI124
            have e126 := u2_n uI124 (fun e => (mF.ne G_r0 R_r0_1) e.symm) e117
            have e127 := u2_n uI124 (fun e => (mF.ne G_r0 R_r0_1) e.symm) e118
            have e128 := u2_n uI124 (fun e => (mF.ne G_r0 R_r0_1) e.symm) e119
            have e129 := u2_j uI124 (by first | decide | exact ncne (by omega) (by omega) (by omega) | exact nckn (by omega) (by omega) | exact (nckn (by omega) (by omega)).symm) e94
            have e131 := u2_j uI124 (by first | decide | exact ncne (by omega) (by omega) (by omega) | exact nckn (by omega) (by omega) | exact (nckn (by omega) (by omega)).symm) e102
            have e132 := u2_j uI124 (by first | decide | exact ncne (by omega) (by omega) (by omega) | exact nckn (by omega) (by omega) | exact (nckn (by omega) (by omega)).symm) e106
            have e133 := u2_j uI124 (by first | decide | exact ncne (by omega) (by omega) (by omega) | exact nckn (by omega) (by omega) | exact (nckn (by omega) (by omega)).symm) e110
            have e134 := u2_j uI124 (by first | decide | exact ncne (by omega) (by omega) (by omega) | exact nckn (by omega) (by omega) | exact (nckn (by omega) (by omega)).symm) e114
            have e135 := u2_e uI124
            refine k_aload_n C rfl rfl rfl ?_
            refine g_R C rfl rfl rfl T_r0 rfl R_r0_1 ?_
            refine z_iconst C (z := 5) rfl rfl rfl (fun x136 ex136 => ?_)
            refine z_iconst C (z := 0) rfl rfl rfl (fun x137 ex137 => ?_)
            refine z_sI C rfl rfl T_r0_1 N_r0_1 (by omega) (by omega) (fun I138 uI138 => ?_)
            have uI138 : I138 = u2 I124 r0_1 5 (x137) := by rw [uI138, nck (n := 5) (by omega)]
            have hI138 : IM R r0 I138 := IM.arr hI124 G_r0 R_r0_1 ⟨(fun h => absurd h (by decide)), (fun h => absurd h (by decide)), (fun h => absurd h (by decide))⟩ (fun _ => WOK.c5 (IM.w hI124 R_r0_1) (by omega) (by omega)) uI138
            have S139 : CM A R r0 [] [1] I124 L87 I138 L87 := CM.a G_r0 R_r0_1 A_r0_1 uI138
            have e140 := u2_n uI138 (fun e => (mF.ne G_r0 R_r0_1) e.symm) e126
            have e141 := u2_n uI138 (fun e => (mF.ne G_r0 R_r0_1) e.symm) e127
            have e142 := u2_n uI138 (fun e => (mF.ne G_r0 R_r0_1) e.symm) e128
            have e143 := u2_j uI138 (by first | decide | exact ncne (by omega) (by omega) (by omega) | exact nckn (by omega) (by omega) | exact (nckn (by omega) (by omega)).symm) e129
            have e144 := u2_j uI138 (by first | decide | exact ncne (by omega) (by omega) (by omega) | exact nckn (by omega) (by omega) | exact (nckn (by omega) (by omega)).symm) e131
            have e145 := u2_j uI138 (by first | decide | exact ncne (by omega) (by omega) (by omega) | exact nckn (by omega) (by omega) | exact (nckn (by omega) (by omega)).symm) e132
            have e146 := u2_j uI138 (by first | decide | exact ncne (by omega) (by omega) (by omega) | exact nckn (by omega) (by omega) | exact (nckn (by omega) (by omega)).symm) e133
            have e148 := u2_j uI138 (by first | decide | exact ncne (by omega) (by omega) (by omega) | exact nckn (by omega) (by omega) | exact (nckn (by omega) (by omega)).symm) e135
            have e149 := u2_e uI138
            refine k_iload_n C rfl rfl rfl ?_
            exact k_iret C rfl (Or.inl rfl) (Nat.le_of_ble_eq_true rfl) (Nat.le_of_ble_eq_true rfl) ⟨_, _, _, rfl, rfl, by omega, by omega, fun a1 h1 => by cases (R_r0_1.symm.trans h1); first | omega | (simp only [e140, e141, e142, e143, e144, e145, e146, e148, e149, k0_r0_1_0, k0_r0_1_1, k0_r0_1_2, k0_r0_1_3, k0_r0_1_4, k0_r0_1_5, k0_r0_11, and_true, true_and, or_true, true_or, and_false, false_and, or_false, false_or] <;> omega), by first | omega | (simp only [e140, e141, e142, e143, e144, e145, e146, e148, e149, k0_r0_1_0, k0_r0_1_1, k0_r0_1_2, k0_r0_1_3, k0_r0_1_4, k0_r0_1_5, k0_r0_11, and_true, true_and, or_true, true_or, and_false, false_and, or_false, false_or] <;> omega), fun a1 h1 => by cases (R_r0_1.symm.trans h1); first | omega | (simp only [e140, e141, e142, e143, e144, e145, e146, e148, e149, k0_r0_1_0, k0_r0_1_1, k0_r0_1_2, k0_r0_1_3, k0_r0_1_4, k0_r0_1_5, k0_r0_11, and_true, true_and, or_true, true_or, and_false, false_and, or_false, false_or] <;> omega), fun a1 h1 => by cases (R_r0_1.symm.trans h1); first | omega | (simp only [e140, e141, e142, e143, e144, e145, e146, e148, e149, k0_r0_1_0, k0_r0_1_1, k0_r0_1_2, k0_r0_1_3, k0_r0_1_4, k0_r0_1_5, k0_r0_11, and_true, true_and, or_true, true_or, and_false, false_and, or_false, false_or] <;> omega), fun a1 h1 => by cases (R_r0_1.symm.trans h1); first | omega | (simp only [e140, e141, e142, e143, e144, e145, e146, e148, e149, k0_r0_1_0, k0_r0_1_1, k0_r0_1_2, k0_r0_1_3, k0_r0_1_4, k0_r0_1_5, k0_r0_11, and_true, true_and, or_true, true_or, and_false, false_and, or_false, false_or] <;> omega), fun a1 h1 => by cases (R_r0_1.symm.trans h1); first | omega | (simp only [e140, e141, e142, e143, e144, e145, e146, e148, e149, k0_r0_1_0, k0_r0_1_1, k0_r0_1_2, k0_r0_1_3, k0_r0_1_4, k0_r0_1_5, k0_r0_11, and_true, true_and, or_true, true_or, and_false, false_and, or_false, false_or] <;> omega), hI138, (CM.cons S4 (CM.cons S31 (CM.cons S54 (CM.cons S72 (CM.cons S91 (CM.cons S125 (CM.mono S139 (by decide) (by decide)) (by decide) (by decide)) (by decide) (by decide)) (by decide) (by decide)) (by decide) (by decide)) (by decide) (by decide)) (by decide) (by decide))⟩
          refine k_aload_n C rfl rfl rfl ?_
          refine g_R C rfl rfl rfl T_r0 rfl R_r0_1 ?_
          refine k_iload_n C rfl rfl rfl ?_
          refine c_SI C (a_X12_formAt (by omega) (by omega)) rfl rfl rfl rfl rfl rfl rfl (Nat.le_of_ble_eq_true rfl) (Nat.le_of_ble_eq_true rfl) (Nat.le_of_ble_eq_true rfl) ?_
          rintro x150 _ _ ⟨o0x150, o1x150, p0x150, rfl, rfl⟩
          have gx150 := rg x150
          try simp only [e117, e118, e119, e94, e98, e102, e106, e110, e114] at p0x150
          try have q0x150 := congrArg Int32.toInt p0x150
          refine z_iconst C (z := 1) rfl rfl rfl (fun x151 ex151 => ?_)
          refine z_iadd C rfl rfl ⟨by omega, by omega⟩ (fun x152 ex152 => ?_)
          refine k_iload_n C rfl rfl rfl ?_
          refine z_iadd C rfl rfl ⟨by omega, by omega⟩ (fun x153 ex153 => ?_)
          refine k_aload_n C rfl rfl rfl ?_
          refine k_aload_n C rfl rfl rfl ?_
          refine g_R C rfl rfl rfl T_r0 rfl R_r0_10 ?_
          refine k_iload_n C rfl rfl rfl ?_
          obtain ⟨T_r0_10, N_r0_10, A_r0_10⟩ := id H_r0_10
          refine z_aB C rfl rfl T_r0_10 N_r0_10 (by omega) (by omega) (fun x154 ex154 => ?_)
          have gx154 := rg x154
          refine z_sipush C (z := 255) rfl rfl rfl (fun x155 ex155 => ?_)
          refine zt_iand C rfl rfl (fun x156 => ?_)
          have gx156 := rg x156
          refine z_i2l C rfl rfl (fun lg157 elg157 => ?_)
          refine c_VI C (a_X12_mod_e hI92 H_r0) rfl rfl rfl rfl rfl ⟨_, rfl, rfl, T_r0, Nat.le_of_ble_eq_true rfl⟩ rfl rfl (Nat.le_of_ble_eq_true rfl) (Nat.le_of_ble_eq_true rfl) (Nat.le_of_ble_eq_true rfl) ?_
          rintro x158 _ _ ⟨o0x158, o1x158, p0x158, p1x158, rfl, rfl⟩
          have p0x158 := p0x158 r0_1 R_r0_1
          have p1x158 := p1x158 r0_1 R_r0_1
          have gx158 := rg x158
          try simp only [e117, e118, e119, e94, e98, e102, e106, e110, e114, ex154] at p0x158
          try have q0x158 := congrArg Int32.toInt p0x158
          try simp only [e117, e118, e119, e94, e98, e102, e106, e110, e114, ex154] at p1x158
          try have q1x158 := congrArg Int32.toInt p1x158
          refine z_sI C rfl rfl T_r0_1 N_r0_1 (by omega) (by omega) (fun I159 uI159 => ?_)
          have hI159 : IM R r0 I159 := IM.arr hI92 G_r0 R_r0_1 ⟨(fun h => absurd h (by decide)), (fun h => absurd h (by decide)), (fun h => absurd h (by decide))⟩ (fun _ => WOK.num (IM.w hI92 R_r0_1) (f := w_r0_1_1) (k := x88) ⟨by omega, by omega⟩ ⟨by omega, by omega⟩ (by omega) (by rw [e94]; omega) (by rw [e94]; omega)) uI159
          have S160 : CM A R r0 [] [1] I86 L87 I159 L87 := CM.a G_r0 R_r0_1 A_r0_1 uI159
          have e161 := u2_n uI159 (fun e => (mF.ne G_r0 R_r0_1) e.symm) e117
          have e162 := u2_n uI159 (fun e => (mF.ne G_r0 R_r0_1) e.symm) e118
          have e163 := u2_n uI159 (fun e => (mF.ne G_r0 R_r0_1) e.symm) e119
          have e164 := u2_j uI159 (by first | decide | exact ncne (by omega) (by omega) (by omega) | exact nckn (by omega) (by omega) | exact (nckn (by omega) (by omega)).symm) e94
          have e165 := u2_j uI159 (by first | decide | exact ncne (by omega) (by omega) (by omega) | exact nckn (by omega) (by omega) | exact (nckn (by omega) (by omega)).symm) e98
          have e166 := u2_j uI159 (by first | decide | exact ncne (by omega) (by omega) (by omega) | exact nckn (by omega) (by omega) | exact (nckn (by omega) (by omega)).symm) e102
          have e167 := u2_j uI159 (by first | decide | exact ncne (by omega) (by omega) (by omega) | exact nckn (by omega) (by omega) | exact (nckn (by omega) (by omega)).symm) e106
          have e168 := u2_j uI159 (by first | decide | exact ncne (by omega) (by omega) (by omega) | exact nckn (by omega) (by omega) | exact (nckn (by omega) (by omega)).symm) e110
          have e169 := u2_j uI159 (by first | decide | exact ncne (by omega) (by omega) (by omega) | exact nckn (by omega) (by omega) | exact (nckn (by omega) (by omega)).symm) e114
          have e170 := u2_n uI159 (mF.nq G_r0 R_r0_10 R_r0_1 (by decide)) ex154
          have e171 := u2_e uI159
          have hu115 := uI159
          refine z_iinc C (z := 1) (lw := fun x172 => [(2, .int x172), (0, .ref r0), (1, .int w_r0_1_1)]) rfl rfl rfl (Nat.le_of_ble_eq_true rfl) rfl ⟨by omega, by omega⟩ (fun _ => rfl) (fun x172 ex172 => ?_)
          show V 119 [(2, .int x172), (0, .ref r0), (1, .int w_r0_1_1)] _ _ _ _
          refine k_goto C (pc2 := 80) rfl rfl ?_
          refine k_sub S [(0, .ref r0), (1, .int w_r0_1_1), (2, .int x172)] (List.forall_mem_cons.mpr ⟨List.mem_of_getElem? (i := 1) rfl, List.forall_mem_cons.mpr ⟨List.mem_of_getElem? (i := 2) rfl, List.forall_mem_cons.mpr ⟨List.mem_of_getElem? (i := 0) rfl, fun _ h => nomatch h⟩⟩⟩) ?_
          exact ihJ84 _ (by omega) I159 L87 x172 x93 x97 x101 x105 x109 x113 rfl hI159 (CM.cons S91 (CM.mono S160 (by decide) (by decide)) (by decide) (by decide)) (by omega) (by omega) e164 (by omega) (by omega) e165 (by omega) (by omega) e166 (by omega) (by omega) e167 (by omega) (by omega) e168 (by omega) (by omega) e169 (by omega) (by omega) (by omega) (by omega) (by omega) (by omega) (by omega) (by omega) (by exact FRM.s ff80_6 hu115 (by omega) (by omega) (by omega) (by omega) (by omega) (by omega) (by omega))
      refine k_istore_n C (lw := [(2, .int x83), (1, .int w_r0_1_1), (0, .ref r0)]) rfl rfl (Nat.le_of_ble_eq_true rfl) rfl ?_
      refine k_sub S [(0, .ref r0), (1, .int w_r0_1_1), (2, .int x83)] (List.forall_mem_cons.mpr ⟨List.mem_of_getElem? (i := 2) rfl, List.forall_mem_cons.mpr ⟨List.mem_of_getElem? (i := 1) rfl, List.forall_mem_cons.mpr ⟨List.mem_of_getElem? (i := 0) rfl, fun _ h => nomatch h⟩⟩⟩) ?_
      exact J84 _ I71 L53 x83 w_r0_1_0 w_r0_1_1 w_r0_1_2 w_r0_1_3 w_r0_1_4 w_r0_1_5 rfl hI71 CM.rf (by omega) (by omega) e73 (by omega) (by omega) e74 (by omega) (by omega) e75 (by omega) (by omega) e76 (by omega) (by omega) e77 (by omega) (by omega) e78 (by omega) (by omega) (by omega) (by omega) (by omega) (by omega) (by omega) (by omega) (by exact FRM.z hu77 (by omega) (by omega) (by omega) (by omega))
    refine z_iconst C (z := 1) rfl rfl rfl (fun x173 ex173 => ?_)
    refine k_goto C (pc2 := 47) rfl rfl ?_
    refine z_iconst C (z := 2) rfl rfl rfl (fun x174 ex174 => ?_)
    have q175 : x173.toNatClampNeg = 1 := nck (by omega)
    have q176 : x174.toNatClampNeg = 2 := nck (by omega)
    refine c_VI C (a_X12_throwsIf_e hI29 H_r0 (by omega) (by omega)) rfl rfl rfl rfl rfl ⟨_, rfl, rfl, T_r0, Nat.le_of_ble_eq_true rfl⟩ rfl rfl (Nat.le_of_ble_eq_true rfl) (Nat.le_of_ble_eq_true rfl) (Nat.le_of_ble_eq_true rfl) ?_
    rintro x177 I178 L179 ⟨o0x177, o1x177, p0x177, p1x177, hI178, S180⟩
    have e181 := CM.j S180 R_r0_1 (by decide) e32
    have e182 := CM.j S180 R_r0_1 (by decide) e33
    have e183 := CM.j S180 R_r0_1 (by decide) e34
    have e184 := CM.j S180 R_r0_1 (by decide) e35
    have e185 := CM.j S180 R_r0_1 (by decide) e36
    have e186 := CM.j S180 R_r0_1 (by decide) e37
    have e187 := CM.k S180 (by decide) e38
    have e188 := CM.k S180 (by decide) e39
    have gx177 := rg x177
    obtain ⟨x190, e191⟩ : ∃ x, I178 r0 0 = x := ⟨_, rfl⟩
    have gx190 := rg x190
    try simp only [q175, q176, e32, e33, e34, e35, e36, e37, e38, e39, e42, e191] at p0x177
    try have q0x177 := congrArg Int32.toInt p0x177
    try simp only [q175, q176, e32, e33, e34, e35, e36, e37, e38, e39, e42, e191] at p1x177
    try have q1x177 := congrArg Int32.toInt p1x177
    refine b_if_eq C (t := 56) rfl rfl rfl (fun c192 => by exfalso; omega) (fun c192 => ?_)
    refine z_iconst C (z := 0) rfl rfl rfl (fun x193 ex193 => ?_)
    exact k_iret C rfl (Or.inl rfl) (Nat.le_of_ble_eq_true rfl) (Nat.le_of_ble_eq_true rfl) ⟨_, _, _, rfl, rfl, by omega, by omega, fun a1 h1 => by cases (R_r0_1.symm.trans h1); first | omega | (simp only [e181, e182, e183, e184, e185, e186, e187, e188, e191, k0_r0_1_0, k0_r0_1_1, k0_r0_1_2, k0_r0_1_3, k0_r0_1_4, k0_r0_1_5, k0_r0_11, and_true, true_and, or_true, true_or, and_false, false_and, or_false, false_or] <;> omega), by first | omega | (simp only [e181, e182, e183, e184, e185, e186, e187, e188, e191, k0_r0_1_0, k0_r0_1_1, k0_r0_1_2, k0_r0_1_3, k0_r0_1_4, k0_r0_1_5, k0_r0_11, and_true, true_and, or_true, true_or, and_false, false_and, or_false, false_or] <;> omega), fun a1 h1 => by cases (R_r0_1.symm.trans h1); first | omega | (simp only [e181, e182, e183, e184, e185, e186, e187, e188, e191, k0_r0_1_0, k0_r0_1_1, k0_r0_1_2, k0_r0_1_3, k0_r0_1_4, k0_r0_1_5, k0_r0_11, and_true, true_and, or_true, true_or, and_false, false_and, or_false, false_or] <;> omega), fun a1 h1 => by cases (R_r0_1.symm.trans h1); first | omega | (simp only [e181, e182, e183, e184, e185, e186, e187, e188, e191, k0_r0_1_0, k0_r0_1_1, k0_r0_1_2, k0_r0_1_3, k0_r0_1_4, k0_r0_1_5, k0_r0_11, and_true, true_and, or_true, true_or, and_false, false_and, or_false, false_or] <;> omega), fun a1 h1 => by cases (R_r0_1.symm.trans h1); first | omega | (simp only [e181, e182, e183, e184, e185, e186, e187, e188, e191, k0_r0_1_0, k0_r0_1_1, k0_r0_1_2, k0_r0_1_3, k0_r0_1_4, k0_r0_1_5, k0_r0_11, and_true, true_and, or_true, true_or, and_false, false_and, or_false, false_or] <;> omega), fun a1 h1 => by cases (R_r0_1.symm.trans h1); first | omega | (simp only [e181, e182, e183, e184, e185, e186, e187, e188, e191, k0_r0_1_0, k0_r0_1_1, k0_r0_1_2, k0_r0_1_3, k0_r0_1_4, k0_r0_1_5, k0_r0_11, and_true, true_and, or_true, true_or, and_false, false_and, or_false, false_or] <;> omega), hI178, (CM.cons S4 (CM.cons S31 (CM.mono S180 (by decide) (by decide)) (by decide) (by decide)) (by decide) (by decide))⟩
  refine z_iconst C (z := 1) rfl rfl rfl (fun x194 ex194 => ?_)
  refine k_goto C (pc2 := 23) rfl rfl ?_
  refine z_iconst C (z := 1) rfl rfl rfl (fun x195 ex195 => ?_)
  have q196 : x194.toNatClampNeg = 1 := nck (by omega)
  have q197 : x195.toNatClampNeg = 1 := nck (by omega)
  refine c_VI C (a_X12_throwsIf_e hI2 H_r0 (by omega) (by omega)) rfl rfl rfl rfl rfl ⟨_, rfl, rfl, T_r0, Nat.le_of_ble_eq_true rfl⟩ rfl rfl (Nat.le_of_ble_eq_true rfl) (Nat.le_of_ble_eq_true rfl) (Nat.le_of_ble_eq_true rfl) ?_
  rintro x198 I199 L200 ⟨o0x198, o1x198, p0x198, p1x198, hI199, S201⟩
  have e202 := CM.j S201 R_r0_1 (by decide) e5
  have e203 := CM.j S201 R_r0_1 (by decide) e6
  have e204 := CM.j S201 R_r0_1 (by decide) e7
  have e205 := CM.j S201 R_r0_1 (by decide) e8
  have e206 := CM.j S201 R_r0_1 (by decide) e9
  have e207 := CM.j S201 R_r0_1 (by decide) e10
  have e208 := CM.k S201 (by decide) e13
  have e209 := CM.k S201 (by decide) e15
  have gx198 := rg x198
  obtain ⟨x211, e212⟩ : ∃ x, I199 r0 0 = x := ⟨_, rfl⟩
  have gx211 := rg x211
  try simp only [q196, q197, e5, e6, e7, e8, e9, e10, e13, e15, e17, e212] at p0x198
  try have q0x198 := congrArg Int32.toInt p0x198
  try simp only [q196, q197, e5, e6, e7, e8, e9, e10, e13, e15, e17, e212] at p1x198
  try have q1x198 := congrArg Int32.toInt p1x198
  refine b_if_ne C (t := 54) rfl rfl rfl (fun c213 => ?_) (fun c213 => by exfalso; omega)
  refine z_iconst C (z := 0) rfl rfl rfl (fun x214 ex214 => ?_)
  exact k_iret C rfl (Or.inl rfl) (Nat.le_of_ble_eq_true rfl) (Nat.le_of_ble_eq_true rfl) ⟨_, _, _, rfl, rfl, by omega, by omega, fun a1 h1 => by cases (R_r0_1.symm.trans h1); first | omega | (simp only [e202, e203, e204, e205, e206, e207, e208, e209, e212, k0_r0_1_0, k0_r0_1_1, k0_r0_1_2, k0_r0_1_3, k0_r0_1_4, k0_r0_1_5, k0_r0_11, and_true, true_and, or_true, true_or, and_false, false_and, or_false, false_or] <;> omega), by first | omega | (simp only [e202, e203, e204, e205, e206, e207, e208, e209, e212, k0_r0_1_0, k0_r0_1_1, k0_r0_1_2, k0_r0_1_3, k0_r0_1_4, k0_r0_1_5, k0_r0_11, and_true, true_and, or_true, true_or, and_false, false_and, or_false, false_or] <;> omega), fun a1 h1 => by cases (R_r0_1.symm.trans h1); first | omega | (simp only [e202, e203, e204, e205, e206, e207, e208, e209, e212, k0_r0_1_0, k0_r0_1_1, k0_r0_1_2, k0_r0_1_3, k0_r0_1_4, k0_r0_1_5, k0_r0_11, and_true, true_and, or_true, true_or, and_false, false_and, or_false, false_or] <;> omega), fun a1 h1 => by cases (R_r0_1.symm.trans h1); first | omega | (simp only [e202, e203, e204, e205, e206, e207, e208, e209, e212, k0_r0_1_0, k0_r0_1_1, k0_r0_1_2, k0_r0_1_3, k0_r0_1_4, k0_r0_1_5, k0_r0_11, and_true, true_and, or_true, true_or, and_false, false_and, or_false, false_or] <;> omega), fun a1 h1 => by cases (R_r0_1.symm.trans h1); first | omega | (simp only [e202, e203, e204, e205, e206, e207, e208, e209, e212, k0_r0_1_0, k0_r0_1_1, k0_r0_1_2, k0_r0_1_3, k0_r0_1_4, k0_r0_1_5, k0_r0_11, and_true, true_and, or_true, true_or, and_false, false_and, or_false, false_or] <;> omega), fun a1 h1 => by cases (R_r0_1.symm.trans h1); first | omega | (simp only [e202, e203, e204, e205, e206, e207, e208, e209, e212, k0_r0_1_0, k0_r0_1_1, k0_r0_1_2, k0_r0_1_3, k0_r0_1_4, k0_r0_1_5, k0_r0_11, and_true, true_and, or_true, true_or, and_false, false_and, or_false, false_or] <;> omega), hI199, (CM.cons S4 (CM.mono S201 (by decide) (by decide)) (by decide) (by decide))⟩

theorem a_X12_field_e {d : Nat} {T N : Nat → Nat} {I : IT} {L : LT} {R : RT} {A : Nat → Prop} {r0 : Nat} {n1 : Int32} (hI : IM R r0 I) (H_r0 : (h_MD T N R A) r0) : Ex (d + 2) 232 [.ref r0, .int n1] (T, N, I, L, R) 0 0 (pV T N R (fun I9 L9 => (∀ a1, R r0 1 = some a1 → (I a1 4).toInt + (I a1 5).toInt ≤ 40 → (I9 a1 4).toInt + (I9 a1 5).toInt ≤ 40) ∧ (∀ a1, R r0 1 = some a1 → ¬ (n1.toInt = 11 ∨ n1.toInt = 13 ∨ n1.toInt = 17 ∨ n1.toInt = 19) ∧ (I9 r0 0).toInt = 1 ∧ (I9 a1 0).toInt = (I a1 0).toInt ∨ (n1.toInt = 11 ∨ n1.toInt = 13 ∨ n1.toInt = 17 ∨ n1.toInt = 19) ∧ 0 < (I a1 1).toInt + (I a1 2).toInt ∧ (I9 r0 0).toInt = 2 ∧ (I9 a1 0).toInt = (I a1 0).toInt ∨ (n1.toInt = 11 ∨ n1.toInt = 13 ∨ n1.toInt = 17 ∨ n1.toInt = 19) ∧ (I a1 1).toInt + (I a1 2).toInt ≤ 0 ∧ (I9 r0 0).toInt = 0 ∧ (I9 a1 0).toInt = n1.toInt) ∧ (∀ a1, R r0 1 = some a1 → ∀ r : Nat, r ≠ 0 → I9 a1 r = I a1 r) ∧ (IM R r0 I9 ∧ CM A R r0 [0] [1] I L I9 L9))) := by
  refine ⟨_, rfl, Nat.le_of_ble_eq_true rfl, fun V C S => ?_⟩
  show V 0 [(0, .ref r0), (1, .int n1)] [] (T, N, I, L, R) 0 0
  have gn1 := rg n1
  obtain ⟨T_r0, A_r0, ⟨r0_1, R_r0_1, H_r0_1⟩, ⟨r0_2, R_r0_2, H_r0_2⟩, ⟨r0_4, R_r0_4, H_r0_4⟩, ⟨r0_5, R_r0_5, H_r0_5⟩, ⟨r0_10, R_r0_10, H_r0_10⟩, ⟨r0_18, R_r0_18, H_r0_18⟩, ⟨r0_20, R_r0_20, H_r0_20⟩, ⟨r0_21, R_r0_21, H_r0_21⟩, ⟨r0_22, R_r0_22, H_r0_22⟩, ⟨r0_23, R_r0_23, H_r0_23⟩, ⟨r0_25, R_r0_25, H_r0_25⟩, ⟨r0_26, R_r0_26, H_r0_26⟩, ⟨r0_27, R_r0_27, H_r0_27⟩, ⟨r0_28, R_r0_28, H_r0_28⟩, ⟨r0_34, R_r0_34, H_r0_34⟩, J_r0, Y_r0⟩ := id H_r0
  have G_r0 : mF T R r0 := ⟨J_r0, Y_r0, T_r0⟩
  obtain ⟨w_r0_1_0, k0_r0_1_0⟩ : ∃ x, I r0_1 0 = x := ⟨_, rfl⟩
  have gw_r0_1_0 := rg w_r0_1_0
  have ow_r0_1_0 := IM.pi hI R_r0_1 k0_r0_1_0
  obtain ⟨w_r0_1_1, k0_r0_1_1⟩ : ∃ x, I r0_1 1 = x := ⟨_, rfl⟩
  have gw_r0_1_1 := rg w_r0_1_1
  have ow_r0_1_1 := IM.c1 hI R_r0_1 k0_r0_1_1
  obtain ⟨w_r0_1_2, k0_r0_1_2⟩ : ∃ x, I r0_1 2 = x := ⟨_, rfl⟩
  have gw_r0_1_2 := rg w_r0_1_2
  have ow_r0_1_2 := IM.c2 hI R_r0_1 k0_r0_1_2
  obtain ⟨w_r0_1_3, k0_r0_1_3⟩ : ∃ x, I r0_1 3 = x := ⟨_, rfl⟩
  have gw_r0_1_3 := rg w_r0_1_3
  have ow_r0_1_3 := IM.c3 hI R_r0_1 k0_r0_1_3
  obtain ⟨w_r0_1_4, k0_r0_1_4⟩ : ∃ x, I r0_1 4 = x := ⟨_, rfl⟩
  have gw_r0_1_4 := rg w_r0_1_4
  have ow_r0_1_4 := IM.c4 hI R_r0_1 k0_r0_1_4
  obtain ⟨w_r0_1_5, k0_r0_1_5⟩ : ∃ x, I r0_1 5 = x := ⟨_, rfl⟩
  have gw_r0_1_5 := rg w_r0_1_5
  have ow_r0_1_5 := IM.c5 hI R_r0_1 k0_r0_1_5
  refine k_aload_n C rfl rfl rfl ?_
  refine z_iconst C (z := 0) rfl rfl rfl (fun x1 ex1 => ?_)
  refine z_pI C rfl rfl rfl T_r0 (Or.inr rfl) rfl (fun I2 uI2 => ?_)
  have hI2 : IM R r0 I2 := IM.fld hI G_r0 ⟨(fun h => absurd h (by decide)), (fun h => absurd h (by decide)), (fun h => absurd h (by decide)), (fun h => absurd h (by decide)), (fun h => absurd h (by decide))⟩ uI2
  have S3 : CM A R r0 [0] [] I L I2 L := CM.f G_r0 A_r0 uI2
  have e4 := u2_n uI2 (mF.ne G_r0 R_r0_1) k0_r0_1_0
  have e5 := u2_n uI2 (mF.ne G_r0 R_r0_1) k0_r0_1_1
  have e6 := u2_n uI2 (mF.ne G_r0 R_r0_1) k0_r0_1_2
  have e7 := u2_n uI2 (mF.ne G_r0 R_r0_1) k0_r0_1_3
  have e8 := u2_n uI2 (mF.ne G_r0 R_r0_1) k0_r0_1_4
  have e9 := u2_n uI2 (mF.ne G_r0 R_r0_1) k0_r0_1_5
  have e10 := u2_e uI2
  refine k_aload_n C rfl rfl rfl ?_
  refine k_iload_n C rfl rfl rfl ?_
  refine z_bipush C (z := 11) rfl rfl rfl (fun x11 ex11 => ?_)
  refine b_icmp_eq C (t := 34) rfl rfl rfl (fun c12 => ?_) (fun c12 => ?_)
  · skip
    refine z_iconst C (z := 0) rfl rfl rfl (fun x13 ex13 => ?_)
    refine z_iconst C (z := 1) rfl rfl rfl (fun x14 ex14 => ?_)
    have q15 : x13.toNatClampNeg = 0 := nck (by omega)
    have q16 : x14.toNatClampNeg = 1 := nck (by omega)
    refine c_VI C (a_X12_throwsIf_e hI2 H_r0 (by omega) (by omega)) rfl rfl rfl rfl rfl ⟨_, rfl, rfl, T_r0, Nat.le_of_ble_eq_true rfl⟩ rfl rfl (Nat.le_of_ble_eq_true rfl) (Nat.le_of_ble_eq_true rfl) (Nat.le_of_ble_eq_true rfl) ?_
    rintro x17 I18 L19 ⟨o0x17, o1x17, p0x17, p1x17, hI18, S20⟩
    have e21 := CM.j S20 R_r0_1 (by decide) e4
    have e22 := CM.j S20 R_r0_1 (by decide) e5
    have e23 := CM.j S20 R_r0_1 (by decide) e6
    have e24 := CM.j S20 R_r0_1 (by decide) e7
    have e25 := CM.j S20 R_r0_1 (by decide) e8
    have e26 := CM.j S20 R_r0_1 (by decide) e9
    have gx17 := rg x17
    obtain ⟨x28, e29⟩ : ∃ x, I18 r0 0 = x := ⟨_, rfl⟩
    have gx28 := rg x28
    try simp only [q15, q16, e4, e5, e6, e7, e8, e9, e10, e29] at p0x17
    try have q0x17 := congrArg Int32.toInt p0x17
    try simp only [q15, q16, e4, e5, e6, e7, e8, e9, e10, e29] at p1x17
    try have q1x17 := congrArg Int32.toInt p1x17
    refine b_if_ne C (t := 71) rfl rfl rfl (fun c30 => by exfalso; omega) (fun c30 => ?_)
    refine k_aload_n C rfl rfl rfl ?_
    refine k_aload_n C rfl rfl rfl ?_
    refine g_R C rfl rfl rfl T_r0 rfl R_r0_1 ?_
    refine z_iconst C (z := 1) rfl rfl rfl (fun x31 ex31 => ?_)
    obtain ⟨T_r0_1, N_r0_1, A_r0_1⟩ := id H_r0_1
    refine a_I C rfl rfl T_r0_1 (by rw [N_r0_1]; exact vpi (by omega) (by omega)) ((congrArg (I18 r0_1) (nck (n := 1) (by omega))).trans e22) ?_
    refine k_aload_n C rfl rfl rfl ?_
    refine g_R C rfl rfl rfl T_r0 rfl R_r0_1 ?_
    refine z_iconst C (z := 2) rfl rfl rfl (fun x32 ex32 => ?_)
    refine a_I C rfl rfl T_r0_1 (by rw [N_r0_1]; exact vpi (by omega) (by omega)) ((congrArg (I18 r0_1) (nck (n := 2) (by omega))).trans e23) ?_
    refine z_iadd C rfl rfl ⟨by omega, by omega⟩ (fun x33 ex33 => ?_)
    refine b_if_le C (t := 63) rfl rfl rfl (fun c34 => ?_) (fun c34 => ?_)
    · skip
      refine z_iconst C (z := 0) rfl rfl rfl (fun x35 ex35 => ?_)
      refine z_iconst C (z := 2) rfl rfl rfl (fun x36 ex36 => ?_)
      have q37 : x35.toNatClampNeg = 0 := nck (by omega)
      have q38 : x36.toNatClampNeg = 2 := nck (by omega)
      refine c_VI C (a_X12_throwsIf_e hI18 H_r0 (by omega) (by omega)) rfl rfl rfl rfl rfl ⟨_, rfl, rfl, T_r0, Nat.le_of_ble_eq_true rfl⟩ rfl rfl (Nat.le_of_ble_eq_true rfl) (Nat.le_of_ble_eq_true rfl) (Nat.le_of_ble_eq_true rfl) ?_
      rintro x39 I40 L41 ⟨o0x39, o1x39, p0x39, p1x39, hI40, S42⟩
      have e43 := CM.j S42 R_r0_1 (by decide) e21
      have e44 := CM.j S42 R_r0_1 (by decide) e22
      have e45 := CM.j S42 R_r0_1 (by decide) e23
      have e46 := CM.j S42 R_r0_1 (by decide) e24
      have e47 := CM.j S42 R_r0_1 (by decide) e25
      have e48 := CM.j S42 R_r0_1 (by decide) e26
      have gx39 := rg x39
      obtain ⟨x50, e51⟩ : ∃ x, I40 r0 0 = x := ⟨_, rfl⟩
      have gx50 := rg x50
      try simp only [q37, q38, e21, e22, e23, e24, e25, e26, e29, e51] at p0x39
      try have q0x39 := congrArg Int32.toInt p0x39
      try simp only [q37, q38, e21, e22, e23, e24, e25, e26, e29, e51] at p1x39
      try have q1x39 := congrArg Int32.toInt p1x39
      refine b_if_eq C (t := 72) rfl rfl rfl (fun c52 => ?_) (fun c52 => by exfalso; omega)
      refine k_aload_n C rfl rfl rfl ?_
      refine g_R C rfl rfl rfl T_r0 rfl R_r0_1 ?_
      refine z_iconst C (z := 0) rfl rfl rfl (fun x53 ex53 => ?_)
      refine k_iload_n C rfl rfl rfl ?_
      refine z_sI C rfl rfl T_r0_1 N_r0_1 (by omega) (by omega) (fun I54 uI54 => ?_)
      have uI54 : I54 = u2 I40 r0_1 0 (n1) := by rw [uI54, nck (n := 0) (by omega)]
      have hI54 : IM R r0 I54 := IM.arr hI40 G_r0 R_r0_1 ⟨(fun h => absurd h (by decide)), (fun h => absurd h (by decide)), (fun h => absurd h (by decide))⟩ (fun _ => WOK.p (IM.w hI40 R_r0_1) (by rw [e44]; omega) (by omega)) uI54
      have S55 : CM A R r0 [] [1] I40 L41 I54 L41 := CM.a G_r0 R_r0_1 A_r0_1 uI54
      have F56 : ∀ r : Nat, r ≠ 0 → I54 r0_1 r = I40 r0_1 r := fun r z0 => by rw [uI54]; exact u2_k (by have h2 := ncz (x := x53) (by omega); omega)
      have e58 := u2_j uI54 (by first | decide | exact ncne (by omega) (by omega) (by omega) | exact nckn (by omega) (by omega) | exact (nckn (by omega) (by omega)).symm) e44
      have e59 := u2_j uI54 (by first | decide | exact ncne (by omega) (by omega) (by omega) | exact nckn (by omega) (by omega) | exact (nckn (by omega) (by omega)).symm) e45
      have e60 := u2_j uI54 (by first | decide | exact ncne (by omega) (by omega) (by omega) | exact nckn (by omega) (by omega) | exact (nckn (by omega) (by omega)).symm) e46
      have e61 := u2_j uI54 (by first | decide | exact ncne (by omega) (by omega) (by omega) | exact nckn (by omega) (by omega) | exact (nckn (by omega) (by omega)).symm) e47
      have e62 := u2_j uI54 (by first | decide | exact ncne (by omega) (by omega) (by omega) | exact nckn (by omega) (by omega) | exact (nckn (by omega) (by omega)).symm) e48
      have e63 := u2_n uI54 (fun e => (mF.ne G_r0 R_r0_1) e.symm) e51
      have e64 := u2_e uI54
      exact k_vret C rfl rfl (Nat.le_of_ble_eq_true rfl) (Nat.le_of_ble_eq_true rfl) ⟨_, _, rfl, rfl, fun a1 h1 => by cases (R_r0_1.symm.trans h1); first | omega | (simp only [e58, e59, e60, e61, e62, e63, e64, k0_r0_1_0, k0_r0_1_1, k0_r0_1_2, k0_r0_1_3, k0_r0_1_4, k0_r0_1_5, and_true, true_and, or_true, true_or, and_false, false_and, or_false, false_or] <;> omega), fun a1 h1 => by cases (R_r0_1.symm.trans h1); first | omega | (simp only [e58, e59, e60, e61, e62, e63, e64, k0_r0_1_0, k0_r0_1_1, k0_r0_1_2, k0_r0_1_3, k0_r0_1_4, k0_r0_1_5, and_true, true_and, or_true, true_or, and_false, false_and, or_false, false_or] <;> omega), fun a1 h1 => by cases (R_r0_1.symm.trans h1); exact (fun r z0 => ((F56 r z0).trans ((congrFun (CM.j0 S42 R_r0_1 (by decide)) r).trans ((congrFun (CM.j0 S20 R_r0_1 (by decide)) r).trans (congrFun (CM.j0 S3 R_r0_1 (by decide)) r))))), hI54, (CM.cons S3 (CM.cons S20 (CM.cons S42 (CM.mono S55 (by decide) (by decide)) (by decide) (by decide)) (by decide) (by decide)) (by decide) (by decide))⟩
    refine z_iconst C (z := 1) rfl rfl rfl (fun x65 ex65 => ?_)
    refine k_goto C (pc2 := 64) rfl rfl ?_
    refine z_iconst C (z := 2) rfl rfl rfl (fun x66 ex66 => ?_)
    have q67 : x65.toNatClampNeg = 1 := nck (by omega)
    have q68 : x66.toNatClampNeg = 2 := nck (by omega)
    refine c_VI C (a_X12_throwsIf_e hI18 H_r0 (by omega) (by omega)) rfl rfl rfl rfl rfl ⟨_, rfl, rfl, T_r0, Nat.le_of_ble_eq_true rfl⟩ rfl rfl (Nat.le_of_ble_eq_true rfl) (Nat.le_of_ble_eq_true rfl) (Nat.le_of_ble_eq_true rfl) ?_
    rintro x69 I70 L71 ⟨o0x69, o1x69, p0x69, p1x69, hI70, S72⟩
    have e73 := CM.j S72 R_r0_1 (by decide) e21
    have e74 := CM.j S72 R_r0_1 (by decide) e22
    have e75 := CM.j S72 R_r0_1 (by decide) e23
    have e76 := CM.j S72 R_r0_1 (by decide) e24
    have e77 := CM.j S72 R_r0_1 (by decide) e25
    have e78 := CM.j S72 R_r0_1 (by decide) e26
    have gx69 := rg x69
    obtain ⟨x80, e81⟩ : ∃ x, I70 r0 0 = x := ⟨_, rfl⟩
    have gx80 := rg x80
    try simp only [q67, q68, e21, e22, e23, e24, e25, e26, e29, e81] at p0x69
    try have q0x69 := congrArg Int32.toInt p0x69
    try simp only [q67, q68, e21, e22, e23, e24, e25, e26, e29, e81] at p1x69
    try have q1x69 := congrArg Int32.toInt p1x69
    refine b_if_eq C (t := 72) rfl rfl rfl (fun c82 => by exfalso; omega) (fun c82 => ?_)
    exact k_vret C rfl rfl (Nat.le_of_ble_eq_true rfl) (Nat.le_of_ble_eq_true rfl) ⟨_, _, rfl, rfl, fun a1 h1 => by cases (R_r0_1.symm.trans h1); first | omega | (simp only [e73, e74, e75, e76, e77, e78, e81, k0_r0_1_0, k0_r0_1_1, k0_r0_1_2, k0_r0_1_3, k0_r0_1_4, k0_r0_1_5, and_true, true_and, or_true, true_or, and_false, false_and, or_false, false_or] <;> omega), fun a1 h1 => by cases (R_r0_1.symm.trans h1); first | omega | (simp only [e73, e74, e75, e76, e77, e78, e81, k0_r0_1_0, k0_r0_1_1, k0_r0_1_2, k0_r0_1_3, k0_r0_1_4, k0_r0_1_5, and_true, true_and, or_true, true_or, and_false, false_and, or_false, false_or] <;> omega), fun a1 h1 => by cases (R_r0_1.symm.trans h1); exact (fun r z0 => ((congrFun (CM.j0 S72 R_r0_1 (by decide)) r).trans ((congrFun (CM.j0 S20 R_r0_1 (by decide)) r).trans (congrFun (CM.j0 S3 R_r0_1 (by decide)) r)))), hI70, (CM.cons S3 (CM.cons S20 (CM.mono S72 (by decide) (by decide)) (by decide) (by decide)) (by decide) (by decide))⟩
  refine k_iload_n C rfl rfl rfl ?_
  refine z_bipush C (z := 13) rfl rfl rfl (fun x83 ex83 => ?_)
  refine b_icmp_eq C (t := 34) rfl rfl rfl (fun c84 => ?_) (fun c84 => ?_)
  · skip
    refine z_iconst C (z := 0) rfl rfl rfl (fun x85 ex85 => ?_)
    refine z_iconst C (z := 1) rfl rfl rfl (fun x86 ex86 => ?_)
    have q87 : x85.toNatClampNeg = 0 := nck (by omega)
    have q88 : x86.toNatClampNeg = 1 := nck (by omega)
    refine c_VI C (a_X12_throwsIf_e hI2 H_r0 (by omega) (by omega)) rfl rfl rfl rfl rfl ⟨_, rfl, rfl, T_r0, Nat.le_of_ble_eq_true rfl⟩ rfl rfl (Nat.le_of_ble_eq_true rfl) (Nat.le_of_ble_eq_true rfl) (Nat.le_of_ble_eq_true rfl) ?_
    rintro x89 I90 L91 ⟨o0x89, o1x89, p0x89, p1x89, hI90, S92⟩
    have e93 := CM.j S92 R_r0_1 (by decide) e4
    have e94 := CM.j S92 R_r0_1 (by decide) e5
    have e95 := CM.j S92 R_r0_1 (by decide) e6
    have e96 := CM.j S92 R_r0_1 (by decide) e7
    have e97 := CM.j S92 R_r0_1 (by decide) e8
    have e98 := CM.j S92 R_r0_1 (by decide) e9
    have gx89 := rg x89
    obtain ⟨x100, e101⟩ : ∃ x, I90 r0 0 = x := ⟨_, rfl⟩
    have gx100 := rg x100
    try simp only [q87, q88, e4, e5, e6, e7, e8, e9, e10, e101] at p0x89
    try have q0x89 := congrArg Int32.toInt p0x89
    try simp only [q87, q88, e4, e5, e6, e7, e8, e9, e10, e101] at p1x89
    try have q1x89 := congrArg Int32.toInt p1x89
    refine b_if_ne C (t := 71) rfl rfl rfl (fun c102 => by exfalso; omega) (fun c102 => ?_)
    refine k_aload_n C rfl rfl rfl ?_
    refine k_aload_n C rfl rfl rfl ?_
    refine g_R C rfl rfl rfl T_r0 rfl R_r0_1 ?_
    refine z_iconst C (z := 1) rfl rfl rfl (fun x103 ex103 => ?_)
    obtain ⟨T_r0_1, N_r0_1, A_r0_1⟩ := id H_r0_1
    refine a_I C rfl rfl T_r0_1 (by rw [N_r0_1]; exact vpi (by omega) (by omega)) ((congrArg (I90 r0_1) (nck (n := 1) (by omega))).trans e94) ?_
    refine k_aload_n C rfl rfl rfl ?_
    refine g_R C rfl rfl rfl T_r0 rfl R_r0_1 ?_
    refine z_iconst C (z := 2) rfl rfl rfl (fun x104 ex104 => ?_)
    refine a_I C rfl rfl T_r0_1 (by rw [N_r0_1]; exact vpi (by omega) (by omega)) ((congrArg (I90 r0_1) (nck (n := 2) (by omega))).trans e95) ?_
    refine z_iadd C rfl rfl ⟨by omega, by omega⟩ (fun x105 ex105 => ?_)
    refine b_if_le C (t := 63) rfl rfl rfl (fun c106 => ?_) (fun c106 => ?_)
    · skip
      refine z_iconst C (z := 0) rfl rfl rfl (fun x107 ex107 => ?_)
      refine z_iconst C (z := 2) rfl rfl rfl (fun x108 ex108 => ?_)
      have q109 : x107.toNatClampNeg = 0 := nck (by omega)
      have q110 : x108.toNatClampNeg = 2 := nck (by omega)
      refine c_VI C (a_X12_throwsIf_e hI90 H_r0 (by omega) (by omega)) rfl rfl rfl rfl rfl ⟨_, rfl, rfl, T_r0, Nat.le_of_ble_eq_true rfl⟩ rfl rfl (Nat.le_of_ble_eq_true rfl) (Nat.le_of_ble_eq_true rfl) (Nat.le_of_ble_eq_true rfl) ?_
      rintro x111 I112 L113 ⟨o0x111, o1x111, p0x111, p1x111, hI112, S114⟩
      have e115 := CM.j S114 R_r0_1 (by decide) e93
      have e116 := CM.j S114 R_r0_1 (by decide) e94
      have e117 := CM.j S114 R_r0_1 (by decide) e95
      have e118 := CM.j S114 R_r0_1 (by decide) e96
      have e119 := CM.j S114 R_r0_1 (by decide) e97
      have e120 := CM.j S114 R_r0_1 (by decide) e98
      have gx111 := rg x111
      obtain ⟨x122, e123⟩ : ∃ x, I112 r0 0 = x := ⟨_, rfl⟩
      have gx122 := rg x122
      try simp only [q109, q110, e93, e94, e95, e96, e97, e98, e101, e123] at p0x111
      try have q0x111 := congrArg Int32.toInt p0x111
      try simp only [q109, q110, e93, e94, e95, e96, e97, e98, e101, e123] at p1x111
      try have q1x111 := congrArg Int32.toInt p1x111
      refine b_if_eq C (t := 72) rfl rfl rfl (fun c124 => ?_) (fun c124 => by exfalso; omega)
      refine k_aload_n C rfl rfl rfl ?_
      refine g_R C rfl rfl rfl T_r0 rfl R_r0_1 ?_
      refine z_iconst C (z := 0) rfl rfl rfl (fun x125 ex125 => ?_)
      refine k_iload_n C rfl rfl rfl ?_
      refine z_sI C rfl rfl T_r0_1 N_r0_1 (by omega) (by omega) (fun I126 uI126 => ?_)
      have uI126 : I126 = u2 I112 r0_1 0 (n1) := by rw [uI126, nck (n := 0) (by omega)]
      have hI126 : IM R r0 I126 := IM.arr hI112 G_r0 R_r0_1 ⟨(fun h => absurd h (by decide)), (fun h => absurd h (by decide)), (fun h => absurd h (by decide))⟩ (fun _ => WOK.p (IM.w hI112 R_r0_1) (by rw [e116]; omega) (by omega)) uI126
      have S127 : CM A R r0 [] [1] I112 L113 I126 L113 := CM.a G_r0 R_r0_1 A_r0_1 uI126
      have F128 : ∀ r : Nat, r ≠ 0 → I126 r0_1 r = I112 r0_1 r := fun r z0 => by rw [uI126]; exact u2_k (by have h2 := ncz (x := x125) (by omega); omega)
      have e130 := u2_j uI126 (by first | decide | exact ncne (by omega) (by omega) (by omega) | exact nckn (by omega) (by omega) | exact (nckn (by omega) (by omega)).symm) e116
      have e131 := u2_j uI126 (by first | decide | exact ncne (by omega) (by omega) (by omega) | exact nckn (by omega) (by omega) | exact (nckn (by omega) (by omega)).symm) e117
      have e132 := u2_j uI126 (by first | decide | exact ncne (by omega) (by omega) (by omega) | exact nckn (by omega) (by omega) | exact (nckn (by omega) (by omega)).symm) e118
      have e133 := u2_j uI126 (by first | decide | exact ncne (by omega) (by omega) (by omega) | exact nckn (by omega) (by omega) | exact (nckn (by omega) (by omega)).symm) e119
      have e134 := u2_j uI126 (by first | decide | exact ncne (by omega) (by omega) (by omega) | exact nckn (by omega) (by omega) | exact (nckn (by omega) (by omega)).symm) e120
      have e135 := u2_n uI126 (fun e => (mF.ne G_r0 R_r0_1) e.symm) e123
      have e136 := u2_e uI126
      exact k_vret C rfl rfl (Nat.le_of_ble_eq_true rfl) (Nat.le_of_ble_eq_true rfl) ⟨_, _, rfl, rfl, fun a1 h1 => by cases (R_r0_1.symm.trans h1); first | omega | (simp only [e130, e131, e132, e133, e134, e135, e136, k0_r0_1_0, k0_r0_1_1, k0_r0_1_2, k0_r0_1_3, k0_r0_1_4, k0_r0_1_5, and_true, true_and, or_true, true_or, and_false, false_and, or_false, false_or] <;> omega), fun a1 h1 => by cases (R_r0_1.symm.trans h1); first | omega | (simp only [e130, e131, e132, e133, e134, e135, e136, k0_r0_1_0, k0_r0_1_1, k0_r0_1_2, k0_r0_1_3, k0_r0_1_4, k0_r0_1_5, and_true, true_and, or_true, true_or, and_false, false_and, or_false, false_or] <;> omega), fun a1 h1 => by cases (R_r0_1.symm.trans h1); exact (fun r z0 => ((F128 r z0).trans ((congrFun (CM.j0 S114 R_r0_1 (by decide)) r).trans ((congrFun (CM.j0 S92 R_r0_1 (by decide)) r).trans (congrFun (CM.j0 S3 R_r0_1 (by decide)) r))))), hI126, (CM.cons S3 (CM.cons S92 (CM.cons S114 (CM.mono S127 (by decide) (by decide)) (by decide) (by decide)) (by decide) (by decide)) (by decide) (by decide))⟩
    refine z_iconst C (z := 1) rfl rfl rfl (fun x137 ex137 => ?_)
    refine k_goto C (pc2 := 64) rfl rfl ?_
    refine z_iconst C (z := 2) rfl rfl rfl (fun x138 ex138 => ?_)
    have q139 : x137.toNatClampNeg = 1 := nck (by omega)
    have q140 : x138.toNatClampNeg = 2 := nck (by omega)
    refine c_VI C (a_X12_throwsIf_e hI90 H_r0 (by omega) (by omega)) rfl rfl rfl rfl rfl ⟨_, rfl, rfl, T_r0, Nat.le_of_ble_eq_true rfl⟩ rfl rfl (Nat.le_of_ble_eq_true rfl) (Nat.le_of_ble_eq_true rfl) (Nat.le_of_ble_eq_true rfl) ?_
    rintro x141 I142 L143 ⟨o0x141, o1x141, p0x141, p1x141, hI142, S144⟩
    have e145 := CM.j S144 R_r0_1 (by decide) e93
    have e146 := CM.j S144 R_r0_1 (by decide) e94
    have e147 := CM.j S144 R_r0_1 (by decide) e95
    have e148 := CM.j S144 R_r0_1 (by decide) e96
    have e149 := CM.j S144 R_r0_1 (by decide) e97
    have e150 := CM.j S144 R_r0_1 (by decide) e98
    have gx141 := rg x141
    obtain ⟨x152, e153⟩ : ∃ x, I142 r0 0 = x := ⟨_, rfl⟩
    have gx152 := rg x152
    try simp only [q139, q140, e93, e94, e95, e96, e97, e98, e101, e153] at p0x141
    try have q0x141 := congrArg Int32.toInt p0x141
    try simp only [q139, q140, e93, e94, e95, e96, e97, e98, e101, e153] at p1x141
    try have q1x141 := congrArg Int32.toInt p1x141
    refine b_if_eq C (t := 72) rfl rfl rfl (fun c154 => by exfalso; omega) (fun c154 => ?_)
    exact k_vret C rfl rfl (Nat.le_of_ble_eq_true rfl) (Nat.le_of_ble_eq_true rfl) ⟨_, _, rfl, rfl, fun a1 h1 => by cases (R_r0_1.symm.trans h1); first | omega | (simp only [e145, e146, e147, e148, e149, e150, e153, k0_r0_1_0, k0_r0_1_1, k0_r0_1_2, k0_r0_1_3, k0_r0_1_4, k0_r0_1_5, and_true, true_and, or_true, true_or, and_false, false_and, or_false, false_or] <;> omega), fun a1 h1 => by cases (R_r0_1.symm.trans h1); first | omega | (simp only [e145, e146, e147, e148, e149, e150, e153, k0_r0_1_0, k0_r0_1_1, k0_r0_1_2, k0_r0_1_3, k0_r0_1_4, k0_r0_1_5, and_true, true_and, or_true, true_or, and_false, false_and, or_false, false_or] <;> omega), fun a1 h1 => by cases (R_r0_1.symm.trans h1); exact (fun r z0 => ((congrFun (CM.j0 S144 R_r0_1 (by decide)) r).trans ((congrFun (CM.j0 S92 R_r0_1 (by decide)) r).trans (congrFun (CM.j0 S3 R_r0_1 (by decide)) r)))), hI142, (CM.cons S3 (CM.cons S92 (CM.mono S144 (by decide) (by decide)) (by decide) (by decide)) (by decide) (by decide))⟩
  refine k_iload_n C rfl rfl rfl ?_
  refine z_bipush C (z := 17) rfl rfl rfl (fun x155 ex155 => ?_)
  refine b_icmp_eq C (t := 34) rfl rfl rfl (fun c156 => ?_) (fun c156 => ?_)
  · skip
    refine z_iconst C (z := 0) rfl rfl rfl (fun x157 ex157 => ?_)
    refine z_iconst C (z := 1) rfl rfl rfl (fun x158 ex158 => ?_)
    have q159 : x157.toNatClampNeg = 0 := nck (by omega)
    have q160 : x158.toNatClampNeg = 1 := nck (by omega)
    refine c_VI C (a_X12_throwsIf_e hI2 H_r0 (by omega) (by omega)) rfl rfl rfl rfl rfl ⟨_, rfl, rfl, T_r0, Nat.le_of_ble_eq_true rfl⟩ rfl rfl (Nat.le_of_ble_eq_true rfl) (Nat.le_of_ble_eq_true rfl) (Nat.le_of_ble_eq_true rfl) ?_
    rintro x161 I162 L163 ⟨o0x161, o1x161, p0x161, p1x161, hI162, S164⟩
    have e165 := CM.j S164 R_r0_1 (by decide) e4
    have e166 := CM.j S164 R_r0_1 (by decide) e5
    have e167 := CM.j S164 R_r0_1 (by decide) e6
    have e168 := CM.j S164 R_r0_1 (by decide) e7
    have e169 := CM.j S164 R_r0_1 (by decide) e8
    have e170 := CM.j S164 R_r0_1 (by decide) e9
    have gx161 := rg x161
    obtain ⟨x172, e173⟩ : ∃ x, I162 r0 0 = x := ⟨_, rfl⟩
    have gx172 := rg x172
    try simp only [q159, q160, e4, e5, e6, e7, e8, e9, e10, e173] at p0x161
    try have q0x161 := congrArg Int32.toInt p0x161
    try simp only [q159, q160, e4, e5, e6, e7, e8, e9, e10, e173] at p1x161
    try have q1x161 := congrArg Int32.toInt p1x161
    refine b_if_ne C (t := 71) rfl rfl rfl (fun c174 => by exfalso; omega) (fun c174 => ?_)
    refine k_aload_n C rfl rfl rfl ?_
    refine k_aload_n C rfl rfl rfl ?_
    refine g_R C rfl rfl rfl T_r0 rfl R_r0_1 ?_
    refine z_iconst C (z := 1) rfl rfl rfl (fun x175 ex175 => ?_)
    obtain ⟨T_r0_1, N_r0_1, A_r0_1⟩ := id H_r0_1
    refine a_I C rfl rfl T_r0_1 (by rw [N_r0_1]; exact vpi (by omega) (by omega)) ((congrArg (I162 r0_1) (nck (n := 1) (by omega))).trans e166) ?_
    refine k_aload_n C rfl rfl rfl ?_
    refine g_R C rfl rfl rfl T_r0 rfl R_r0_1 ?_
    refine z_iconst C (z := 2) rfl rfl rfl (fun x176 ex176 => ?_)
    refine a_I C rfl rfl T_r0_1 (by rw [N_r0_1]; exact vpi (by omega) (by omega)) ((congrArg (I162 r0_1) (nck (n := 2) (by omega))).trans e167) ?_
    refine z_iadd C rfl rfl ⟨by omega, by omega⟩ (fun x177 ex177 => ?_)
    refine b_if_le C (t := 63) rfl rfl rfl (fun c178 => ?_) (fun c178 => ?_)
    · skip
      refine z_iconst C (z := 0) rfl rfl rfl (fun x179 ex179 => ?_)
      refine z_iconst C (z := 2) rfl rfl rfl (fun x180 ex180 => ?_)
      have q181 : x179.toNatClampNeg = 0 := nck (by omega)
      have q182 : x180.toNatClampNeg = 2 := nck (by omega)
      refine c_VI C (a_X12_throwsIf_e hI162 H_r0 (by omega) (by omega)) rfl rfl rfl rfl rfl ⟨_, rfl, rfl, T_r0, Nat.le_of_ble_eq_true rfl⟩ rfl rfl (Nat.le_of_ble_eq_true rfl) (Nat.le_of_ble_eq_true rfl) (Nat.le_of_ble_eq_true rfl) ?_
      rintro x183 I184 L185 ⟨o0x183, o1x183, p0x183, p1x183, hI184, S186⟩
      have e187 := CM.j S186 R_r0_1 (by decide) e165
      have e188 := CM.j S186 R_r0_1 (by decide) e166
      have e189 := CM.j S186 R_r0_1 (by decide) e167
      have e190 := CM.j S186 R_r0_1 (by decide) e168
      have e191 := CM.j S186 R_r0_1 (by decide) e169
      have e192 := CM.j S186 R_r0_1 (by decide) e170
      have gx183 := rg x183
      obtain ⟨x194, e195⟩ : ∃ x, I184 r0 0 = x := ⟨_, rfl⟩
      have gx194 := rg x194
      try simp only [q181, q182, e165, e166, e167, e168, e169, e170, e173, e195] at p0x183
      try have q0x183 := congrArg Int32.toInt p0x183
      try simp only [q181, q182, e165, e166, e167, e168, e169, e170, e173, e195] at p1x183
      try have q1x183 := congrArg Int32.toInt p1x183
      refine b_if_eq C (t := 72) rfl rfl rfl (fun c196 => ?_) (fun c196 => by exfalso; omega)
      refine k_aload_n C rfl rfl rfl ?_
      refine g_R C rfl rfl rfl T_r0 rfl R_r0_1 ?_
      refine z_iconst C (z := 0) rfl rfl rfl (fun x197 ex197 => ?_)
      refine k_iload_n C rfl rfl rfl ?_
      refine z_sI C rfl rfl T_r0_1 N_r0_1 (by omega) (by omega) (fun I198 uI198 => ?_)
      have uI198 : I198 = u2 I184 r0_1 0 (n1) := by rw [uI198, nck (n := 0) (by omega)]
      have hI198 : IM R r0 I198 := IM.arr hI184 G_r0 R_r0_1 ⟨(fun h => absurd h (by decide)), (fun h => absurd h (by decide)), (fun h => absurd h (by decide))⟩ (fun _ => WOK.p (IM.w hI184 R_r0_1) (by rw [e188]; omega) (by omega)) uI198
      have S199 : CM A R r0 [] [1] I184 L185 I198 L185 := CM.a G_r0 R_r0_1 A_r0_1 uI198
      have F200 : ∀ r : Nat, r ≠ 0 → I198 r0_1 r = I184 r0_1 r := fun r z0 => by rw [uI198]; exact u2_k (by have h2 := ncz (x := x197) (by omega); omega)
      have e202 := u2_j uI198 (by first | decide | exact ncne (by omega) (by omega) (by omega) | exact nckn (by omega) (by omega) | exact (nckn (by omega) (by omega)).symm) e188
      have e203 := u2_j uI198 (by first | decide | exact ncne (by omega) (by omega) (by omega) | exact nckn (by omega) (by omega) | exact (nckn (by omega) (by omega)).symm) e189
      have e204 := u2_j uI198 (by first | decide | exact ncne (by omega) (by omega) (by omega) | exact nckn (by omega) (by omega) | exact (nckn (by omega) (by omega)).symm) e190
      have e205 := u2_j uI198 (by first | decide | exact ncne (by omega) (by omega) (by omega) | exact nckn (by omega) (by omega) | exact (nckn (by omega) (by omega)).symm) e191
      have e206 := u2_j uI198 (by first | decide | exact ncne (by omega) (by omega) (by omega) | exact nckn (by omega) (by omega) | exact (nckn (by omega) (by omega)).symm) e192
      have e207 := u2_n uI198 (fun e => (mF.ne G_r0 R_r0_1) e.symm) e195
      have e208 := u2_e uI198
      exact k_vret C rfl rfl (Nat.le_of_ble_eq_true rfl) (Nat.le_of_ble_eq_true rfl) ⟨_, _, rfl, rfl, fun a1 h1 => by cases (R_r0_1.symm.trans h1); first | omega | (simp only [e202, e203, e204, e205, e206, e207, e208, k0_r0_1_0, k0_r0_1_1, k0_r0_1_2, k0_r0_1_3, k0_r0_1_4, k0_r0_1_5, and_true, true_and, or_true, true_or, and_false, false_and, or_false, false_or] <;> omega), fun a1 h1 => by cases (R_r0_1.symm.trans h1); first | omega | (simp only [e202, e203, e204, e205, e206, e207, e208, k0_r0_1_0, k0_r0_1_1, k0_r0_1_2, k0_r0_1_3, k0_r0_1_4, k0_r0_1_5, and_true, true_and, or_true, true_or, and_false, false_and, or_false, false_or] <;> omega), fun a1 h1 => by cases (R_r0_1.symm.trans h1); exact (fun r z0 => ((F200 r z0).trans ((congrFun (CM.j0 S186 R_r0_1 (by decide)) r).trans ((congrFun (CM.j0 S164 R_r0_1 (by decide)) r).trans (congrFun (CM.j0 S3 R_r0_1 (by decide)) r))))), hI198, (CM.cons S3 (CM.cons S164 (CM.cons S186 (CM.mono S199 (by decide) (by decide)) (by decide) (by decide)) (by decide) (by decide)) (by decide) (by decide))⟩
    refine z_iconst C (z := 1) rfl rfl rfl (fun x209 ex209 => ?_)
    refine k_goto C (pc2 := 64) rfl rfl ?_
    refine z_iconst C (z := 2) rfl rfl rfl (fun x210 ex210 => ?_)
    have q211 : x209.toNatClampNeg = 1 := nck (by omega)
    have q212 : x210.toNatClampNeg = 2 := nck (by omega)
    refine c_VI C (a_X12_throwsIf_e hI162 H_r0 (by omega) (by omega)) rfl rfl rfl rfl rfl ⟨_, rfl, rfl, T_r0, Nat.le_of_ble_eq_true rfl⟩ rfl rfl (Nat.le_of_ble_eq_true rfl) (Nat.le_of_ble_eq_true rfl) (Nat.le_of_ble_eq_true rfl) ?_
    rintro x213 I214 L215 ⟨o0x213, o1x213, p0x213, p1x213, hI214, S216⟩
    have e217 := CM.j S216 R_r0_1 (by decide) e165
    have e218 := CM.j S216 R_r0_1 (by decide) e166
    have e219 := CM.j S216 R_r0_1 (by decide) e167
    have e220 := CM.j S216 R_r0_1 (by decide) e168
    have e221 := CM.j S216 R_r0_1 (by decide) e169
    have e222 := CM.j S216 R_r0_1 (by decide) e170
    have gx213 := rg x213
    obtain ⟨x224, e225⟩ : ∃ x, I214 r0 0 = x := ⟨_, rfl⟩
    have gx224 := rg x224
    try simp only [q211, q212, e165, e166, e167, e168, e169, e170, e173, e225] at p0x213
    try have q0x213 := congrArg Int32.toInt p0x213
    try simp only [q211, q212, e165, e166, e167, e168, e169, e170, e173, e225] at p1x213
    try have q1x213 := congrArg Int32.toInt p1x213
    refine b_if_eq C (t := 72) rfl rfl rfl (fun c226 => by exfalso; omega) (fun c226 => ?_)
    exact k_vret C rfl rfl (Nat.le_of_ble_eq_true rfl) (Nat.le_of_ble_eq_true rfl) ⟨_, _, rfl, rfl, fun a1 h1 => by cases (R_r0_1.symm.trans h1); first | omega | (simp only [e217, e218, e219, e220, e221, e222, e225, k0_r0_1_0, k0_r0_1_1, k0_r0_1_2, k0_r0_1_3, k0_r0_1_4, k0_r0_1_5, and_true, true_and, or_true, true_or, and_false, false_and, or_false, false_or] <;> omega), fun a1 h1 => by cases (R_r0_1.symm.trans h1); first | omega | (simp only [e217, e218, e219, e220, e221, e222, e225, k0_r0_1_0, k0_r0_1_1, k0_r0_1_2, k0_r0_1_3, k0_r0_1_4, k0_r0_1_5, and_true, true_and, or_true, true_or, and_false, false_and, or_false, false_or] <;> omega), fun a1 h1 => by cases (R_r0_1.symm.trans h1); exact (fun r z0 => ((congrFun (CM.j0 S216 R_r0_1 (by decide)) r).trans ((congrFun (CM.j0 S164 R_r0_1 (by decide)) r).trans (congrFun (CM.j0 S3 R_r0_1 (by decide)) r)))), hI214, (CM.cons S3 (CM.cons S164 (CM.mono S216 (by decide) (by decide)) (by decide) (by decide)) (by decide) (by decide))⟩
  refine k_iload_n C rfl rfl rfl ?_
  refine z_bipush C (z := 19) rfl rfl rfl (fun x227 ex227 => ?_)
  refine b_icmp_eq C (t := 34) rfl rfl rfl (fun c228 => ?_) (fun c228 => ?_)
  · skip
    refine z_iconst C (z := 0) rfl rfl rfl (fun x229 ex229 => ?_)
    refine z_iconst C (z := 1) rfl rfl rfl (fun x230 ex230 => ?_)
    have q231 : x229.toNatClampNeg = 0 := nck (by omega)
    have q232 : x230.toNatClampNeg = 1 := nck (by omega)
    refine c_VI C (a_X12_throwsIf_e hI2 H_r0 (by omega) (by omega)) rfl rfl rfl rfl rfl ⟨_, rfl, rfl, T_r0, Nat.le_of_ble_eq_true rfl⟩ rfl rfl (Nat.le_of_ble_eq_true rfl) (Nat.le_of_ble_eq_true rfl) (Nat.le_of_ble_eq_true rfl) ?_
    rintro x233 I234 L235 ⟨o0x233, o1x233, p0x233, p1x233, hI234, S236⟩
    have e237 := CM.j S236 R_r0_1 (by decide) e4
    have e238 := CM.j S236 R_r0_1 (by decide) e5
    have e239 := CM.j S236 R_r0_1 (by decide) e6
    have e240 := CM.j S236 R_r0_1 (by decide) e7
    have e241 := CM.j S236 R_r0_1 (by decide) e8
    have e242 := CM.j S236 R_r0_1 (by decide) e9
    have gx233 := rg x233
    obtain ⟨x244, e245⟩ : ∃ x, I234 r0 0 = x := ⟨_, rfl⟩
    have gx244 := rg x244
    try simp only [q231, q232, e4, e5, e6, e7, e8, e9, e10, e245] at p0x233
    try have q0x233 := congrArg Int32.toInt p0x233
    try simp only [q231, q232, e4, e5, e6, e7, e8, e9, e10, e245] at p1x233
    try have q1x233 := congrArg Int32.toInt p1x233
    refine b_if_ne C (t := 71) rfl rfl rfl (fun c246 => by exfalso; omega) (fun c246 => ?_)
    refine k_aload_n C rfl rfl rfl ?_
    refine k_aload_n C rfl rfl rfl ?_
    refine g_R C rfl rfl rfl T_r0 rfl R_r0_1 ?_
    refine z_iconst C (z := 1) rfl rfl rfl (fun x247 ex247 => ?_)
    obtain ⟨T_r0_1, N_r0_1, A_r0_1⟩ := id H_r0_1
    refine a_I C rfl rfl T_r0_1 (by rw [N_r0_1]; exact vpi (by omega) (by omega)) ((congrArg (I234 r0_1) (nck (n := 1) (by omega))).trans e238) ?_
    refine k_aload_n C rfl rfl rfl ?_
    refine g_R C rfl rfl rfl T_r0 rfl R_r0_1 ?_
    refine z_iconst C (z := 2) rfl rfl rfl (fun x248 ex248 => ?_)
    refine a_I C rfl rfl T_r0_1 (by rw [N_r0_1]; exact vpi (by omega) (by omega)) ((congrArg (I234 r0_1) (nck (n := 2) (by omega))).trans e239) ?_
    refine z_iadd C rfl rfl ⟨by omega, by omega⟩ (fun x249 ex249 => ?_)
    refine b_if_le C (t := 63) rfl rfl rfl (fun c250 => ?_) (fun c250 => ?_)
    · skip
      refine z_iconst C (z := 0) rfl rfl rfl (fun x251 ex251 => ?_)
      refine z_iconst C (z := 2) rfl rfl rfl (fun x252 ex252 => ?_)
      have q253 : x251.toNatClampNeg = 0 := nck (by omega)
      have q254 : x252.toNatClampNeg = 2 := nck (by omega)
      refine c_VI C (a_X12_throwsIf_e hI234 H_r0 (by omega) (by omega)) rfl rfl rfl rfl rfl ⟨_, rfl, rfl, T_r0, Nat.le_of_ble_eq_true rfl⟩ rfl rfl (Nat.le_of_ble_eq_true rfl) (Nat.le_of_ble_eq_true rfl) (Nat.le_of_ble_eq_true rfl) ?_
      rintro x255 I256 L257 ⟨o0x255, o1x255, p0x255, p1x255, hI256, S258⟩
      have e259 := CM.j S258 R_r0_1 (by decide) e237
      have e260 := CM.j S258 R_r0_1 (by decide) e238
      have e261 := CM.j S258 R_r0_1 (by decide) e239
      have e262 := CM.j S258 R_r0_1 (by decide) e240
      have e263 := CM.j S258 R_r0_1 (by decide) e241
      have e264 := CM.j S258 R_r0_1 (by decide) e242
      have gx255 := rg x255
      obtain ⟨x266, e267⟩ : ∃ x, I256 r0 0 = x := ⟨_, rfl⟩
      have gx266 := rg x266
      try simp only [q253, q254, e237, e238, e239, e240, e241, e242, e245, e267] at p0x255
      try have q0x255 := congrArg Int32.toInt p0x255
      try simp only [q253, q254, e237, e238, e239, e240, e241, e242, e245, e267] at p1x255
      try have q1x255 := congrArg Int32.toInt p1x255
      refine b_if_eq C (t := 72) rfl rfl rfl (fun c268 => ?_) (fun c268 => by exfalso; omega)
      refine k_aload_n C rfl rfl rfl ?_
      refine g_R C rfl rfl rfl T_r0 rfl R_r0_1 ?_
      refine z_iconst C (z := 0) rfl rfl rfl (fun x269 ex269 => ?_)
      refine k_iload_n C rfl rfl rfl ?_
      refine z_sI C rfl rfl T_r0_1 N_r0_1 (by omega) (by omega) (fun I270 uI270 => ?_)
      have uI270 : I270 = u2 I256 r0_1 0 (n1) := by rw [uI270, nck (n := 0) (by omega)]
      have hI270 : IM R r0 I270 := IM.arr hI256 G_r0 R_r0_1 ⟨(fun h => absurd h (by decide)), (fun h => absurd h (by decide)), (fun h => absurd h (by decide))⟩ (fun _ => WOK.p (IM.w hI256 R_r0_1) (by rw [e260]; omega) (by omega)) uI270
      have S271 : CM A R r0 [] [1] I256 L257 I270 L257 := CM.a G_r0 R_r0_1 A_r0_1 uI270
      have F272 : ∀ r : Nat, r ≠ 0 → I270 r0_1 r = I256 r0_1 r := fun r z0 => by rw [uI270]; exact u2_k (by have h2 := ncz (x := x269) (by omega); omega)
      have e274 := u2_j uI270 (by first | decide | exact ncne (by omega) (by omega) (by omega) | exact nckn (by omega) (by omega) | exact (nckn (by omega) (by omega)).symm) e260
      have e275 := u2_j uI270 (by first | decide | exact ncne (by omega) (by omega) (by omega) | exact nckn (by omega) (by omega) | exact (nckn (by omega) (by omega)).symm) e261
      have e276 := u2_j uI270 (by first | decide | exact ncne (by omega) (by omega) (by omega) | exact nckn (by omega) (by omega) | exact (nckn (by omega) (by omega)).symm) e262
      have e277 := u2_j uI270 (by first | decide | exact ncne (by omega) (by omega) (by omega) | exact nckn (by omega) (by omega) | exact (nckn (by omega) (by omega)).symm) e263
      have e278 := u2_j uI270 (by first | decide | exact ncne (by omega) (by omega) (by omega) | exact nckn (by omega) (by omega) | exact (nckn (by omega) (by omega)).symm) e264
      have e279 := u2_n uI270 (fun e => (mF.ne G_r0 R_r0_1) e.symm) e267
      have e280 := u2_e uI270
      exact k_vret C rfl rfl (Nat.le_of_ble_eq_true rfl) (Nat.le_of_ble_eq_true rfl) ⟨_, _, rfl, rfl, fun a1 h1 => by cases (R_r0_1.symm.trans h1); first | omega | (simp only [e274, e275, e276, e277, e278, e279, e280, k0_r0_1_0, k0_r0_1_1, k0_r0_1_2, k0_r0_1_3, k0_r0_1_4, k0_r0_1_5, and_true, true_and, or_true, true_or, and_false, false_and, or_false, false_or] <;> omega), fun a1 h1 => by cases (R_r0_1.symm.trans h1); first | omega | (simp only [e274, e275, e276, e277, e278, e279, e280, k0_r0_1_0, k0_r0_1_1, k0_r0_1_2, k0_r0_1_3, k0_r0_1_4, k0_r0_1_5, and_true, true_and, or_true, true_or, and_false, false_and, or_false, false_or] <;> omega), fun a1 h1 => by cases (R_r0_1.symm.trans h1); exact (fun r z0 => ((F272 r z0).trans ((congrFun (CM.j0 S258 R_r0_1 (by decide)) r).trans ((congrFun (CM.j0 S236 R_r0_1 (by decide)) r).trans (congrFun (CM.j0 S3 R_r0_1 (by decide)) r))))), hI270, (CM.cons S3 (CM.cons S236 (CM.cons S258 (CM.mono S271 (by decide) (by decide)) (by decide) (by decide)) (by decide) (by decide)) (by decide) (by decide))⟩
    refine z_iconst C (z := 1) rfl rfl rfl (fun x281 ex281 => ?_)
    refine k_goto C (pc2 := 64) rfl rfl ?_
    refine z_iconst C (z := 2) rfl rfl rfl (fun x282 ex282 => ?_)
    have q283 : x281.toNatClampNeg = 1 := nck (by omega)
    have q284 : x282.toNatClampNeg = 2 := nck (by omega)
    refine c_VI C (a_X12_throwsIf_e hI234 H_r0 (by omega) (by omega)) rfl rfl rfl rfl rfl ⟨_, rfl, rfl, T_r0, Nat.le_of_ble_eq_true rfl⟩ rfl rfl (Nat.le_of_ble_eq_true rfl) (Nat.le_of_ble_eq_true rfl) (Nat.le_of_ble_eq_true rfl) ?_
    rintro x285 I286 L287 ⟨o0x285, o1x285, p0x285, p1x285, hI286, S288⟩
    have e289 := CM.j S288 R_r0_1 (by decide) e237
    have e290 := CM.j S288 R_r0_1 (by decide) e238
    have e291 := CM.j S288 R_r0_1 (by decide) e239
    have e292 := CM.j S288 R_r0_1 (by decide) e240
    have e293 := CM.j S288 R_r0_1 (by decide) e241
    have e294 := CM.j S288 R_r0_1 (by decide) e242
    have gx285 := rg x285
    obtain ⟨x296, e297⟩ : ∃ x, I286 r0 0 = x := ⟨_, rfl⟩
    have gx296 := rg x296
    try simp only [q283, q284, e237, e238, e239, e240, e241, e242, e245, e297] at p0x285
    try have q0x285 := congrArg Int32.toInt p0x285
    try simp only [q283, q284, e237, e238, e239, e240, e241, e242, e245, e297] at p1x285
    try have q1x285 := congrArg Int32.toInt p1x285
    refine b_if_eq C (t := 72) rfl rfl rfl (fun c298 => by exfalso; omega) (fun c298 => ?_)
    exact k_vret C rfl rfl (Nat.le_of_ble_eq_true rfl) (Nat.le_of_ble_eq_true rfl) ⟨_, _, rfl, rfl, fun a1 h1 => by cases (R_r0_1.symm.trans h1); first | omega | (simp only [e289, e290, e291, e292, e293, e294, e297, k0_r0_1_0, k0_r0_1_1, k0_r0_1_2, k0_r0_1_3, k0_r0_1_4, k0_r0_1_5, and_true, true_and, or_true, true_or, and_false, false_and, or_false, false_or] <;> omega), fun a1 h1 => by cases (R_r0_1.symm.trans h1); first | omega | (simp only [e289, e290, e291, e292, e293, e294, e297, k0_r0_1_0, k0_r0_1_1, k0_r0_1_2, k0_r0_1_3, k0_r0_1_4, k0_r0_1_5, and_true, true_and, or_true, true_or, and_false, false_and, or_false, false_or] <;> omega), fun a1 h1 => by cases (R_r0_1.symm.trans h1); exact (fun r z0 => ((congrFun (CM.j0 S288 R_r0_1 (by decide)) r).trans ((congrFun (CM.j0 S236 R_r0_1 (by decide)) r).trans (congrFun (CM.j0 S3 R_r0_1 (by decide)) r)))), hI286, (CM.cons S3 (CM.cons S236 (CM.mono S288 (by decide) (by decide)) (by decide) (by decide)) (by decide) (by decide))⟩
  refine z_iconst C (z := 1) rfl rfl rfl (fun x299 ex299 => ?_)
  refine k_goto C (pc2 := 35) rfl rfl ?_
  refine z_iconst C (z := 1) rfl rfl rfl (fun x300 ex300 => ?_)
  have q301 : x299.toNatClampNeg = 1 := nck (by omega)
  have q302 : x300.toNatClampNeg = 1 := nck (by omega)
  refine c_VI C (a_X12_throwsIf_e hI2 H_r0 (by omega) (by omega)) rfl rfl rfl rfl rfl ⟨_, rfl, rfl, T_r0, Nat.le_of_ble_eq_true rfl⟩ rfl rfl (Nat.le_of_ble_eq_true rfl) (Nat.le_of_ble_eq_true rfl) (Nat.le_of_ble_eq_true rfl) ?_
  rintro x303 I304 L305 ⟨o0x303, o1x303, p0x303, p1x303, hI304, S306⟩
  have e307 := CM.j S306 R_r0_1 (by decide) e4
  have e308 := CM.j S306 R_r0_1 (by decide) e5
  have e309 := CM.j S306 R_r0_1 (by decide) e6
  have e310 := CM.j S306 R_r0_1 (by decide) e7
  have e311 := CM.j S306 R_r0_1 (by decide) e8
  have e312 := CM.j S306 R_r0_1 (by decide) e9
  have gx303 := rg x303
  obtain ⟨x314, e315⟩ : ∃ x, I304 r0 0 = x := ⟨_, rfl⟩
  have gx314 := rg x314
  try simp only [q301, q302, e4, e5, e6, e7, e8, e9, e10, e315] at p0x303
  try have q0x303 := congrArg Int32.toInt p0x303
  try simp only [q301, q302, e4, e5, e6, e7, e8, e9, e10, e315] at p1x303
  try have q1x303 := congrArg Int32.toInt p1x303
  refine b_if_ne C (t := 71) rfl rfl rfl (fun c316 => ?_) (fun c316 => by exfalso; omega)
  exact k_vret C rfl rfl (Nat.le_of_ble_eq_true rfl) (Nat.le_of_ble_eq_true rfl) ⟨_, _, rfl, rfl, fun a1 h1 => by cases (R_r0_1.symm.trans h1); first | omega | (simp only [e307, e308, e309, e310, e311, e312, e315, k0_r0_1_0, k0_r0_1_1, k0_r0_1_2, k0_r0_1_3, k0_r0_1_4, k0_r0_1_5, and_true, true_and, or_true, true_or, and_false, false_and, or_false, false_or] <;> omega), fun a1 h1 => by cases (R_r0_1.symm.trans h1); first | omega | (simp only [e307, e308, e309, e310, e311, e312, e315, k0_r0_1_0, k0_r0_1_1, k0_r0_1_2, k0_r0_1_3, k0_r0_1_4, k0_r0_1_5, and_true, true_and, or_true, true_or, and_false, false_and, or_false, false_or] <;> omega), fun a1 h1 => by cases (R_r0_1.symm.trans h1); exact (fun r z0 => ((congrFun (CM.j0 S306 R_r0_1 (by decide)) r).trans (congrFun (CM.j0 S3 R_r0_1 (by decide)) r))), hI304, (CM.cons S3 (CM.mono S306 (by decide) (by decide)) (by decide) (by decide))⟩

theorem a_X12_lays_e {d : Nat} {T N : Nat → Nat} {I : IT} {L : LT} {R : RT} {A : Nat → Prop} {r0 : Nat} (hI : IM R r0 I) (H_r0 : (h_MD T N R A) r0) (hp0 : ∀ a1, R r0 1 = some a1 → (I a1 2).toInt ≤ 7) : Ex (d + 1) 234 [.ref r0] (T, N, I, L, R) 0 0 (pI T N R (fun x9 I9 L9 => (-1 ≤ x9.toInt) ∧ (x9.toInt ≤ 7) ∧ (∀ a1, R r0 1 = some a1 → (I a1 4).toInt + (I a1 5).toInt ≤ 40 → (I9 a1 4).toInt + (I9 a1 5).toInt ≤ 40) ∧ (∀ a1, R r0 1 = some a1 → x9.toInt = (I a1 2).toInt) ∧ (∀ a1, R r0 1 = some a1 → (I9 a1 2).toInt = (I a1 2).toInt + 1) ∧ (∀ a1, R r0 1 = some a1 → ∀ r : Nat, r ≠ 2 ∧ r < 166 → I9 a1 r = I a1 r) ∧ (IM R r0 I9 ∧ CM A R r0 [] [1] I L I9 L9))) := by
  refine ⟨_, rfl, Nat.le_of_ble_eq_true rfl, fun V C S => ?_⟩
  show V 0 [(0, .ref r0)] [] (T, N, I, L, R) 0 0
  obtain ⟨T_r0, A_r0, ⟨r0_1, R_r0_1, H_r0_1⟩, ⟨r0_2, R_r0_2, H_r0_2⟩, ⟨r0_4, R_r0_4, H_r0_4⟩, ⟨r0_5, R_r0_5, H_r0_5⟩, ⟨r0_10, R_r0_10, H_r0_10⟩, ⟨r0_18, R_r0_18, H_r0_18⟩, ⟨r0_20, R_r0_20, H_r0_20⟩, ⟨r0_21, R_r0_21, H_r0_21⟩, ⟨r0_22, R_r0_22, H_r0_22⟩, ⟨r0_23, R_r0_23, H_r0_23⟩, ⟨r0_25, R_r0_25, H_r0_25⟩, ⟨r0_26, R_r0_26, H_r0_26⟩, ⟨r0_27, R_r0_27, H_r0_27⟩, ⟨r0_28, R_r0_28, H_r0_28⟩, ⟨r0_34, R_r0_34, H_r0_34⟩, J_r0, Y_r0⟩ := id H_r0
  have G_r0 : mF T R r0 := ⟨J_r0, Y_r0, T_r0⟩
  obtain ⟨w_r0_1_4, k0_r0_1_4⟩ : ∃ x, I r0_1 4 = x := ⟨_, rfl⟩
  have gw_r0_1_4 := rg w_r0_1_4
  have ow_r0_1_4 := IM.c4 hI R_r0_1 k0_r0_1_4
  obtain ⟨w_r0_1_5, k0_r0_1_5⟩ : ∃ x, I r0_1 5 = x := ⟨_, rfl⟩
  have gw_r0_1_5 := rg w_r0_1_5
  have ow_r0_1_5 := IM.c5 hI R_r0_1 k0_r0_1_5
  obtain ⟨w_r0_1_2, k0_r0_1_2⟩ : ∃ x, I r0_1 2 = x := ⟨_, rfl⟩
  have gw_r0_1_2 := rg w_r0_1_2
  have ow_r0_1_2 := IM.c2 hI R_r0_1 k0_r0_1_2
  have hp0 := hp0 r0_1 R_r0_1
  try simp only [k0_r0_1_4, k0_r0_1_5, k0_r0_1_2] at hp0
  refine z_sipush C (z := 166) rfl rfl rfl (fun x1 ex1 => ?_)
  refine z_iconst C (z := 4) rfl rfl rfl (fun x2 ex2 => ?_)
  refine k_aload_n C rfl rfl rfl ?_
  refine g_R C rfl rfl rfl T_r0 rfl R_r0_1 ?_
  refine z_iconst C (z := 2) rfl rfl rfl (fun x3 ex3 => ?_)
  obtain ⟨T_r0_1, N_r0_1, A_r0_1⟩ := id H_r0_1
  refine a_I C rfl rfl T_r0_1 (by rw [N_r0_1]; exact vpi (by omega) (by omega)) ((congrArg (I r0_1) (nck (n := 2) (by omega))).trans k0_r0_1_2) ?_
  refine z_imulL C (c := 4) rfl rfl (by omega) ⟨by omega, by omega⟩ (fun x4 ex4 => ?_)
  refine z_iadd C rfl rfl ⟨by omega, by omega⟩ (fun x5 ex5 => ?_)
  refine k_istore_n C (lw := [(1, .int x5), (0, .ref r0)]) rfl rfl (Nat.le_of_ble_eq_true rfl) rfl ?_
  refine k_aload_n C rfl rfl rfl ?_
  refine g_R C rfl rfl rfl T_r0 rfl R_r0_1 ?_
  refine k_iload_n C rfl rfl rfl ?_
  refine k_aload_n C rfl rfl rfl ?_
  refine z_gI C rfl rfl rfl T_r0 rfl (fun x6 ex6 => ?_)
  have gx6 := rg x6
  have ox6 := IM.f6 hI ex6
  refine z_sI C rfl rfl T_r0_1 N_r0_1 (by omega) (by omega) (fun I7 uI7 => ?_)
  have hI7 : IM R r0 I7 := IM.arr hI G_r0 R_r0_1 ⟨(fun h => absurd h (by decide)), (fun h => absurd h (by decide)), (fun h => absurd h (by decide))⟩ (fun _ => WOK.tab (IM.w hI R_r0_1) ⟨by omega, by omega⟩ (by omega) (by omega)) uI7
  have S8 : CM A R r0 [] [1] I L I7 L := CM.a G_r0 R_r0_1 A_r0_1 uI7
  have F9 : ∀ r : Nat, r ≠ 2 ∧ r < 166 → I7 r0_1 r = I r0_1 r := fun r z0 => by rw [uI7]; exact u2_k (by have h2 := ncz (x := x5) (by omega); omega)
  have e10 := u2_j uI7 (by first | decide | exact ncne (by omega) (by omega) (by omega) | exact nckn (by omega) (by omega) | exact (nckn (by omega) (by omega)).symm) k0_r0_1_4
  have e11 := u2_j uI7 (by first | decide | exact ncne (by omega) (by omega) (by omega) | exact nckn (by omega) (by omega) | exact (nckn (by omega) (by omega)).symm) k0_r0_1_5
  have e12 := u2_j uI7 (by first | decide | exact ncne (by omega) (by omega) (by omega) | exact nckn (by omega) (by omega) | exact (nckn (by omega) (by omega)).symm) k0_r0_1_2
  have e13 := u2_n uI7 (fun e => (mF.ne G_r0 R_r0_1) e.symm) ex6
  have e14 := u2_e uI7
  refine k_aload_n C rfl rfl rfl ?_
  refine g_R C rfl rfl rfl T_r0 rfl R_r0_1 ?_
  refine k_iload_n C rfl rfl rfl ?_
  refine z_iconst C (z := 1) rfl rfl rfl (fun x15 ex15 => ?_)
  refine z_iadd C rfl rfl ⟨by omega, by omega⟩ (fun x16 ex16 => ?_)
  refine k_aload_n C rfl rfl rfl ?_
  refine z_gI C rfl rfl rfl T_r0 rfl (fun x17 ex17 => ?_)
  have gx17 := rg x17
  have ox17 := IM.f7 hI7 ex17
  refine z_sI C rfl rfl T_r0_1 N_r0_1 (by omega) (by omega) (fun I18 uI18 => ?_)
  have hI18 : IM R r0 I18 := IM.arr hI7 G_r0 R_r0_1 ⟨(fun h => absurd h (by decide)), (fun h => absurd h (by decide)), (fun h => absurd h (by decide))⟩ (fun _ => WOK.tab (IM.w hI7 R_r0_1) ⟨by omega, by omega⟩ (by omega) (by omega)) uI18
  have S19 : CM A R r0 [] [1] I7 L I18 L := CM.a G_r0 R_r0_1 A_r0_1 uI18
  have F20 : ∀ r : Nat, r ≠ 2 ∧ r < 166 → I18 r0_1 r = I7 r0_1 r := fun r z0 => by rw [uI18]; exact u2_k (by have h2 := ncz (x := x16) (by omega); omega)
  have e21 := u2_j uI18 (by first | decide | exact ncne (by omega) (by omega) (by omega) | exact nckn (by omega) (by omega) | exact (nckn (by omega) (by omega)).symm) e10
  have e22 := u2_j uI18 (by first | decide | exact ncne (by omega) (by omega) (by omega) | exact nckn (by omega) (by omega) | exact (nckn (by omega) (by omega)).symm) e11
  have e23 := u2_j uI18 (by first | decide | exact ncne (by omega) (by omega) (by omega) | exact nckn (by omega) (by omega) | exact (nckn (by omega) (by omega)).symm) e12
  have e24 := u2_n uI18 (fun e => (mF.ne G_r0 R_r0_1) e.symm) e13
  have e26 := u2_n uI18 (fun e => (mF.ne G_r0 R_r0_1) e.symm) ex17
  have e27 := u2_e uI18
  refine k_aload_n C rfl rfl rfl ?_
  refine g_R C rfl rfl rfl T_r0 rfl R_r0_1 ?_
  refine k_iload_n C rfl rfl rfl ?_
  refine z_iconst C (z := 2) rfl rfl rfl (fun x28 ex28 => ?_)
  refine z_iadd C rfl rfl ⟨by omega, by omega⟩ (fun x29 ex29 => ?_)
  refine k_aload_n C rfl rfl rfl ?_
  refine z_gI C rfl rfl rfl T_r0 rfl (fun x30 ex30 => ?_)
  have gx30 := rg x30
  have ox30 := IM.f8 hI18 ex30
  refine z_sI C rfl rfl T_r0_1 N_r0_1 (by omega) (by omega) (fun I31 uI31 => ?_)
  have hI31 : IM R r0 I31 := IM.arr hI18 G_r0 R_r0_1 ⟨(fun h => absurd h (by decide)), (fun h => absurd h (by decide)), (fun h => absurd h (by decide))⟩ (fun _ => WOK.tab (IM.w hI18 R_r0_1) ⟨by omega, by omega⟩ (by omega) (by omega)) uI31
  have S32 : CM A R r0 [] [1] I18 L I31 L := CM.a G_r0 R_r0_1 A_r0_1 uI31
  have F33 : ∀ r : Nat, r ≠ 2 ∧ r < 166 → I31 r0_1 r = I18 r0_1 r := fun r z0 => by rw [uI31]; exact u2_k (by have h2 := ncz (x := x29) (by omega); omega)
  have e34 := u2_j uI31 (by first | decide | exact ncne (by omega) (by omega) (by omega) | exact nckn (by omega) (by omega) | exact (nckn (by omega) (by omega)).symm) e21
  have e35 := u2_j uI31 (by first | decide | exact ncne (by omega) (by omega) (by omega) | exact nckn (by omega) (by omega) | exact (nckn (by omega) (by omega)).symm) e22
  have e36 := u2_j uI31 (by first | decide | exact ncne (by omega) (by omega) (by omega) | exact nckn (by omega) (by omega) | exact (nckn (by omega) (by omega)).symm) e23
  have e37 := u2_n uI31 (fun e => (mF.ne G_r0 R_r0_1) e.symm) e24
  have e38 := u2_n uI31 (fun e => (mF.ne G_r0 R_r0_1) e.symm) e26
  have e40 := u2_n uI31 (fun e => (mF.ne G_r0 R_r0_1) e.symm) ex30
  have e41 := u2_e uI31
  refine k_aload_n C rfl rfl rfl ?_
  refine g_R C rfl rfl rfl T_r0 rfl R_r0_1 ?_
  refine k_iload_n C rfl rfl rfl ?_
  refine z_iconst C (z := 3) rfl rfl rfl (fun x42 ex42 => ?_)
  refine z_iadd C rfl rfl ⟨by omega, by omega⟩ (fun x43 ex43 => ?_)
  refine k_aload_n C rfl rfl rfl ?_
  refine z_gI C rfl rfl rfl T_r0 rfl (fun x44 ex44 => ?_)
  have gx44 := rg x44
  have ox44 := IM.f9 hI31 ex44
  refine z_sI C rfl rfl T_r0_1 N_r0_1 (by omega) (by omega) (fun I45 uI45 => ?_)
  have hI45 : IM R r0 I45 := IM.arr hI31 G_r0 R_r0_1 ⟨(fun h => absurd h (by decide)), (fun h => absurd h (by decide)), (fun h => absurd h (by decide))⟩ (fun _ => WOK.tab (IM.w hI31 R_r0_1) ⟨by omega, by omega⟩ (by omega) (by omega)) uI45
  have S46 : CM A R r0 [] [1] I31 L I45 L := CM.a G_r0 R_r0_1 A_r0_1 uI45
  have F47 : ∀ r : Nat, r ≠ 2 ∧ r < 166 → I45 r0_1 r = I31 r0_1 r := fun r z0 => by rw [uI45]; exact u2_k (by have h2 := ncz (x := x43) (by omega); omega)
  have e48 := u2_j uI45 (by first | decide | exact ncne (by omega) (by omega) (by omega) | exact nckn (by omega) (by omega) | exact (nckn (by omega) (by omega)).symm) e34
  have e49 := u2_j uI45 (by first | decide | exact ncne (by omega) (by omega) (by omega) | exact nckn (by omega) (by omega) | exact (nckn (by omega) (by omega)).symm) e35
  have e50 := u2_j uI45 (by first | decide | exact ncne (by omega) (by omega) (by omega) | exact nckn (by omega) (by omega) | exact (nckn (by omega) (by omega)).symm) e36
  have e51 := u2_n uI45 (fun e => (mF.ne G_r0 R_r0_1) e.symm) e37
  have e52 := u2_n uI45 (fun e => (mF.ne G_r0 R_r0_1) e.symm) e38
  have e53 := u2_n uI45 (fun e => (mF.ne G_r0 R_r0_1) e.symm) e40
  have e55 := u2_n uI45 (fun e => (mF.ne G_r0 R_r0_1) e.symm) ex44
  have e56 := u2_e uI45
  refine k_aload_n C rfl rfl rfl ?_
  refine g_R C rfl rfl rfl T_r0 rfl R_r0_1 ?_
  refine z_iconst C (z := 2) rfl rfl rfl (fun x57 ex57 => ?_)
  refine k_dup2 C rfl rfl rfl rfl ?_
  refine a_I C rfl rfl T_r0_1 (by rw [N_r0_1]; exact vpi (by omega) (by omega)) ((congrArg (I45 r0_1) (nck (n := 2) (by omega))).trans e50) ?_
  refine z_iconst C (z := 1) rfl rfl rfl (fun x58 ex58 => ?_)
  refine z_iadd C rfl rfl ⟨by omega, by omega⟩ (fun x59 ex59 => ?_)
  refine z_sI C rfl rfl T_r0_1 N_r0_1 (by omega) (by omega) (fun I60 uI60 => ?_)
  have uI60 : I60 = u2 I45 r0_1 2 (x59) := by rw [uI60, nck (n := 2) (by omega)]
  have hI60 : IM R r0 I60 := IM.arr hI45 G_r0 R_r0_1 ⟨(fun h => absurd h (by decide)), (fun h => absurd h (by decide)), (fun h => absurd h (by decide))⟩ (fun _ => WOK.c2 (IM.w hI45 R_r0_1) (by omega) (by omega)) uI60
  have S61 : CM A R r0 [] [1] I45 L I60 L := CM.a G_r0 R_r0_1 A_r0_1 uI60
  have F62 : ∀ r : Nat, r ≠ 2 ∧ r < 166 → I60 r0_1 r = I45 r0_1 r := fun r z0 => by rw [uI60]; exact u2_k (by have h2 := ncz (x := x57) (by omega); omega)
  have e63 := u2_j uI60 (by first | decide | exact ncne (by omega) (by omega) (by omega) | exact nckn (by omega) (by omega) | exact (nckn (by omega) (by omega)).symm) e48
  have e64 := u2_j uI60 (by first | decide | exact ncne (by omega) (by omega) (by omega) | exact nckn (by omega) (by omega) | exact (nckn (by omega) (by omega)).symm) e49
  have e66 := u2_n uI60 (fun e => (mF.ne G_r0 R_r0_1) e.symm) e51
  have e67 := u2_n uI60 (fun e => (mF.ne G_r0 R_r0_1) e.symm) e52
  have e68 := u2_n uI60 (fun e => (mF.ne G_r0 R_r0_1) e.symm) e53
  have e69 := u2_n uI60 (fun e => (mF.ne G_r0 R_r0_1) e.symm) e55
  have e70 := u2_j uI60 (by first | decide | exact ncne (by omega) (by omega) (by omega) | exact nckn (by omega) (by omega) | exact (nckn (by omega) (by omega)).symm) e56
  have e71 := u2_e uI60
  refine k_aload_n C rfl rfl rfl ?_
  refine g_R C rfl rfl rfl T_r0 rfl R_r0_1 ?_
  refine z_iconst C (z := 2) rfl rfl rfl (fun x72 ex72 => ?_)
  refine a_I C rfl rfl T_r0_1 (by rw [N_r0_1]; exact vpi (by omega) (by omega)) ((congrArg (I60 r0_1) (nck (n := 2) (by omega))).trans e71) ?_
  refine z_iconst C (z := 1) rfl rfl rfl (fun x73 ex73 => ?_)
  refine z_isub C rfl rfl ⟨by omega, by omega⟩ (fun x74 ex74 => ?_)
  exact k_iret C rfl (Or.inl rfl) (Nat.le_of_ble_eq_true rfl) (Nat.le_of_ble_eq_true rfl) ⟨_, _, _, rfl, rfl, by omega, by omega, fun a1 h1 => by cases (R_r0_1.symm.trans h1); first | omega | (simp only [e63, e64, e66, e67, e68, e69, e70, e71, k0_r0_1_4, k0_r0_1_5, k0_r0_1_2, and_true, true_and, or_true, true_or, and_false, false_and, or_false, false_or] <;> omega), fun a1 h1 => by cases (R_r0_1.symm.trans h1); first | omega | (simp only [e63, e64, e66, e67, e68, e69, e70, e71, k0_r0_1_4, k0_r0_1_5, k0_r0_1_2, and_true, true_and, or_true, true_or, and_false, false_and, or_false, false_or] <;> omega), fun a1 h1 => by cases (R_r0_1.symm.trans h1); first | omega | (simp only [e63, e64, e66, e67, e68, e69, e70, e71, k0_r0_1_4, k0_r0_1_5, k0_r0_1_2, and_true, true_and, or_true, true_or, and_false, false_and, or_false, false_or] <;> omega), fun a1 h1 => by cases (R_r0_1.symm.trans h1); exact (fun r z0 => ((F62 r z0).trans ((F47 r z0).trans ((F33 r z0).trans ((F20 r z0).trans (F9 r z0)))))), hI60, (CM.cons S8 (CM.cons S19 (CM.cons S32 (CM.cons S46 (CM.mono S61 (by decide) (by decide)) (by decide) (by decide)) (by decide) (by decide)) (by decide) (by decide)) (by decide) (by decide))⟩

set_option maxHeartbeats 8000000 in
theorem a_X12_table_e {d : Nat} {T N : Nat → Nat} {I : IT} {L : LT} {R : RT} {A : Nat → Prop} {r0 : Nat} {n1 n2 n3 n4 : Int32} (hI : IM R r0 I) (H_r0 : (h_MD T N R A) r0) : Ex (d + 4) 235 [.ref r0, .int n1, .int n2, .int n3, .int n4] (T, N, I, L, R) 0 0 (pI T N R (fun x9 I9 L9 => (-1 ≤ x9.toInt) ∧ (x9.toInt ≤ 7) ∧ (∀ a1, R r0 1 = some a1 → (I a1 4).toInt + (I a1 5).toInt ≤ 40 → (I9 a1 4).toInt + (I9 a1 5).toInt ≤ 40) ∧ (∀ a1, R r0 1 = some a1 → TBD (dtR (I a1 0).toInt n1.toInt n2.toInt n3.toInt n4.toInt) (I a1 2).toInt (I9 a1 2).toInt (I9 r0 0).toInt x9.toInt) ∧ (∀ a1, R r0 1 = some a1 → ∀ r : Nat, r ≠ 2 ∧ r < 166 → I9 a1 r = I a1 r) ∧ (IM R r0 I9 ∧ CM A R r0 [0, 6, 7, 8, 9] [1] I L I9 L9))) := by
  refine ⟨_, rfl, Nat.le_of_ble_eq_true rfl, fun V C S => ?_⟩
  show V 0 [(0, .ref r0), (1, .int n1), (2, .int n2), (3, .int n3), (4, .int n4)] [] (T, N, I, L, R) 0 0
  have gn1 := rg n1
  have gn2 := rg n2
  have gn3 := rg n3
  have gn4 := rg n4
  obtain ⟨T_r0, A_r0, ⟨r0_1, R_r0_1, H_r0_1⟩, ⟨r0_2, R_r0_2, H_r0_2⟩, ⟨r0_4, R_r0_4, H_r0_4⟩, ⟨r0_5, R_r0_5, H_r0_5⟩, ⟨r0_10, R_r0_10, H_r0_10⟩, ⟨r0_18, R_r0_18, H_r0_18⟩, ⟨r0_20, R_r0_20, H_r0_20⟩, ⟨r0_21, R_r0_21, H_r0_21⟩, ⟨r0_22, R_r0_22, H_r0_22⟩, ⟨r0_23, R_r0_23, H_r0_23⟩, ⟨r0_25, R_r0_25, H_r0_25⟩, ⟨r0_26, R_r0_26, H_r0_26⟩, ⟨r0_27, R_r0_27, H_r0_27⟩, ⟨r0_28, R_r0_28, H_r0_28⟩, ⟨r0_34, R_r0_34, H_r0_34⟩, J_r0, Y_r0⟩ := id H_r0
  have G_r0 : mF T R r0 := ⟨J_r0, Y_r0, T_r0⟩
  obtain ⟨w_r0_1_0, k0_r0_1_0⟩ : ∃ x, I r0_1 0 = x := ⟨_, rfl⟩
  have gw_r0_1_0 := rg w_r0_1_0
  have ow_r0_1_0 := IM.pi hI R_r0_1 k0_r0_1_0
  obtain ⟨w_r0_1_1, k0_r0_1_1⟩ : ∃ x, I r0_1 1 = x := ⟨_, rfl⟩
  have gw_r0_1_1 := rg w_r0_1_1
  have ow_r0_1_1 := IM.c1 hI R_r0_1 k0_r0_1_1
  obtain ⟨w_r0_1_2, k0_r0_1_2⟩ : ∃ x, I r0_1 2 = x := ⟨_, rfl⟩
  have gw_r0_1_2 := rg w_r0_1_2
  have ow_r0_1_2 := IM.c2 hI R_r0_1 k0_r0_1_2
  obtain ⟨w_r0_1_3, k0_r0_1_3⟩ : ∃ x, I r0_1 3 = x := ⟨_, rfl⟩
  have gw_r0_1_3 := rg w_r0_1_3
  have ow_r0_1_3 := IM.c3 hI R_r0_1 k0_r0_1_3
  obtain ⟨w_r0_1_4, k0_r0_1_4⟩ : ∃ x, I r0_1 4 = x := ⟨_, rfl⟩
  have gw_r0_1_4 := rg w_r0_1_4
  have ow_r0_1_4 := IM.c4 hI R_r0_1 k0_r0_1_4
  obtain ⟨w_r0_1_5, k0_r0_1_5⟩ : ∃ x, I r0_1 5 = x := ⟨_, rfl⟩
  have gw_r0_1_5 := rg w_r0_1_5
  have ow_r0_1_5 := IM.c5 hI R_r0_1 k0_r0_1_5
  refine k_aload_n C rfl rfl rfl ?_
  refine z_iconst C (z := 0) rfl rfl rfl (fun x1 ex1 => ?_)
  refine z_pI C rfl rfl rfl T_r0 (Or.inr rfl) rfl (fun I2 uI2 => ?_)
  have hI2 : IM R r0 I2 := IM.fld hI G_r0 ⟨(fun h => absurd h (by decide)), (fun h => absurd h (by decide)), (fun h => absurd h (by decide)), (fun h => absurd h (by decide)), (fun h => absurd h (by decide))⟩ uI2
  have S3 : CM A R r0 [0] [] I L I2 L := CM.f G_r0 A_r0 uI2
  have e4 := u2_n uI2 (mF.ne G_r0 R_r0_1) k0_r0_1_0
  have e5 := u2_n uI2 (mF.ne G_r0 R_r0_1) k0_r0_1_1
  have e6 := u2_n uI2 (mF.ne G_r0 R_r0_1) k0_r0_1_2
  have e7 := u2_n uI2 (mF.ne G_r0 R_r0_1) k0_r0_1_3
  have e8 := u2_n uI2 (mF.ne G_r0 R_r0_1) k0_r0_1_4
  have e9 := u2_n uI2 (mF.ne G_r0 R_r0_1) k0_r0_1_5
  have e10 := u2_e uI2
  refine k_aload_n C rfl rfl rfl ?_
  refine k_aload_n C rfl rfl rfl ?_
  refine k_iload_n C rfl rfl rfl ?_
  refine z_i2l C rfl rfl (fun lg11 elg11 => ?_)
  refine c_VI C (a_X12_mod_e hI2 H_r0) rfl rfl rfl rfl rfl ⟨_, rfl, rfl, T_r0, Nat.le_of_ble_eq_true rfl⟩ rfl rfl (Nat.le_of_ble_eq_true rfl) (Nat.le_of_ble_eq_true rfl) (Nat.le_of_ble_eq_true rfl) ?_
  rintro x12 _ _ ⟨o0x12, o1x12, p0x12, p1x12, rfl, rfl⟩
  have p0x12 := p0x12 r0_1 R_r0_1
  have p1x12 := p1x12 r0_1 R_r0_1
  have gx12 := rg x12
  try simp only [e4, e5, e6, e7, e8, e9, e10] at p0x12
  try have q0x12 := congrArg Int32.toInt p0x12
  try simp only [e4, e5, e6, e7, e8, e9, e10] at p1x12
  try have q1x12 := congrArg Int32.toInt p1x12
  have hm1 : x12.toInt = n1.toInt % w_r0_1_0.toInt := p1x12.trans (by congr 1 <;> omega)
  refine k_aload_n C rfl rfl rfl ?_
  refine k_iload_n C rfl rfl rfl ?_
  refine z_i2l C rfl rfl (fun lg13 elg13 => ?_)
  refine c_VI C (a_X12_mod_e hI2 H_r0) rfl rfl rfl rfl rfl ⟨_, rfl, rfl, T_r0, Nat.le_of_ble_eq_true rfl⟩ rfl rfl (Nat.le_of_ble_eq_true rfl) (Nat.le_of_ble_eq_true rfl) (Nat.le_of_ble_eq_true rfl) ?_
  rintro x14 _ _ ⟨o0x14, o1x14, p0x14, p1x14, rfl, rfl⟩
  have p0x14 := p0x14 r0_1 R_r0_1
  have p1x14 := p1x14 r0_1 R_r0_1
  have gx14 := rg x14
  try simp only [e4, e5, e6, e7, e8, e9, e10] at p0x14
  try have q0x14 := congrArg Int32.toInt p0x14
  try simp only [e4, e5, e6, e7, e8, e9, e10] at p1x14
  try have q1x14 := congrArg Int32.toInt p1x14
  have hm2 : x14.toInt = n2.toInt % w_r0_1_0.toInt := p1x14.trans (by congr 1 <;> omega)
  refine k_aload_n C rfl rfl rfl ?_
  refine k_iload_n C rfl rfl rfl ?_
  refine z_i2l C rfl rfl (fun lg15 elg15 => ?_)
  refine c_VI C (a_X12_mod_e hI2 H_r0) rfl rfl rfl rfl rfl ⟨_, rfl, rfl, T_r0, Nat.le_of_ble_eq_true rfl⟩ rfl rfl (Nat.le_of_ble_eq_true rfl) (Nat.le_of_ble_eq_true rfl) (Nat.le_of_ble_eq_true rfl) ?_
  rintro x16 _ _ ⟨o0x16, o1x16, p0x16, p1x16, rfl, rfl⟩
  have p0x16 := p0x16 r0_1 R_r0_1
  have p1x16 := p1x16 r0_1 R_r0_1
  have gx16 := rg x16
  try simp only [e4, e5, e6, e7, e8, e9, e10] at p0x16
  try have q0x16 := congrArg Int32.toInt p0x16
  try simp only [e4, e5, e6, e7, e8, e9, e10] at p1x16
  try have q1x16 := congrArg Int32.toInt p1x16
  have hm3 : x16.toInt = n3.toInt % w_r0_1_0.toInt := p1x16.trans (by congr 1 <;> omega)
  refine k_aload_n C rfl rfl rfl ?_
  refine k_iload C rfl rfl rfl ?_
  refine z_i2l C rfl rfl (fun lg17 elg17 => ?_)
  refine c_VI C (a_X12_mod_e hI2 H_r0) rfl rfl rfl rfl rfl ⟨_, rfl, rfl, T_r0, Nat.le_of_ble_eq_true rfl⟩ rfl rfl (Nat.le_of_ble_eq_true rfl) (Nat.le_of_ble_eq_true rfl) (Nat.le_of_ble_eq_true rfl) ?_
  rintro x18 _ _ ⟨o0x18, o1x18, p0x18, p1x18, rfl, rfl⟩
  have p0x18 := p0x18 r0_1 R_r0_1
  have p1x18 := p1x18 r0_1 R_r0_1
  have gx18 := rg x18
  try simp only [e4, e5, e6, e7, e8, e9, e10] at p0x18
  try have q0x18 := congrArg Int32.toInt p0x18
  try simp only [e4, e5, e6, e7, e8, e9, e10] at p1x18
  try have q1x18 := congrArg Int32.toInt p1x18
  have hm4 : x18.toInt = n4.toInt % w_r0_1_0.toInt := p1x18.trans (by congr 1 <;> omega)
  refine c_VV C (a_X12_takesTable_e hI2 H_r0 (by omega) (by omega) (by omega) (by omega) (by omega) (by omega) (by omega) (by omega)) rfl rfl rfl rfl rfl ⟨_, rfl, rfl, T_r0, Nat.le_of_ble_eq_true rfl⟩ rfl rfl (Nat.le_of_ble_eq_true rfl) (Nat.le_of_ble_eq_true rfl) (Nat.le_of_ble_eq_true rfl) ?_
  rintro I20 L21 ⟨p0v19, p1v19, p2v19, p3v19, hI20, S22⟩
  have e23 := CM.j S22 R_r0_1 (by decide) e4
  have e24 := CM.j S22 R_r0_1 (by decide) e5
  have e25 := CM.j S22 R_r0_1 (by decide) e6
  have e26 := CM.j S22 R_r0_1 (by decide) e7
  have e27 := CM.j S22 R_r0_1 (by decide) e8
  have e28 := CM.j S22 R_r0_1 (by decide) e9
  have e29 := CM.k S22 (by decide) e10
  obtain ⟨x30, e31⟩ : ∃ x, I20 r0 6 = x := ⟨_, rfl⟩
  have gx30 := rg x30
  have ox30 := IM.f6 hI20 e31
  obtain ⟨x32, e33⟩ : ∃ x, I20 r0 7 = x := ⟨_, rfl⟩
  have gx32 := rg x32
  have ox32 := IM.f7 hI20 e33
  obtain ⟨x34, e35⟩ : ∃ x, I20 r0 8 = x := ⟨_, rfl⟩
  have gx34 := rg x34
  have ox34 := IM.f8 hI20 e35
  obtain ⟨x36, e37⟩ : ∃ x, I20 r0 9 = x := ⟨_, rfl⟩
  have gx36 := rg x36
  have ox36 := IM.f9 hI20 e37
  try simp only [e4, e5, e6, e7, e8, e9, e10, e31, e33, e35, e37] at p0v19
  try have q0v19 := congrArg Int32.toInt p0v19
  try simp only [e4, e5, e6, e7, e8, e9, e10, e31, e33, e35, e37] at p1v19
  try have q1v19 := congrArg Int32.toInt p1v19
  try simp only [e4, e5, e6, e7, e8, e9, e10, e31, e33, e35, e37] at p2v19
  try have q2v19 := congrArg Int32.toInt p2v19
  try simp only [e4, e5, e6, e7, e8, e9, e10, e31, e33, e35, e37] at p3v19
  try have q3v19 := congrArg Int32.toInt p3v19
  refine k_aload_n C rfl rfl rfl ?_
  refine k_aload_n C rfl rfl rfl ?_
  refine c_VI C (a_X12_detNow_e hI20 H_r0) rfl rfl rfl rfl rfl ⟨_, rfl, rfl, T_r0, Nat.le_of_ble_eq_true rfl⟩ rfl rfl (Nat.le_of_ble_eq_true rfl) (Nat.le_of_ble_eq_true rfl) (Nat.le_of_ble_eq_true rfl) ?_
  rintro x38 _ _ ⟨o0x38, o1x38, p0x38, rfl, rfl⟩
  have p0x38 := p0x38 r0_1 R_r0_1
  have gx38 := rg x38
  try simp only [e23, e24, e25, e26, e27, e28, e29, e31, e33, e35, e37] at p0x38
  try have q0x38 := congrArg Int32.toInt p0x38
  have hdt := DTN.r (u := n1.toInt) (v := n2.toInt) (w := n3.toInt) (z := n4.toInt) p0x38 (by omega) (by omega) (by omega) (by omega)
  refine b_if_ne C (t := 46) rfl rfl rfl (fun c39 => ?_) (fun c39 => ?_)
  · skip
    refine z_iconst C (z := 0) rfl rfl rfl (fun x40 ex40 => ?_)
    refine z_iconst C (z := 1) rfl rfl rfl (fun x41 ex41 => ?_)
    have q42 : x40.toNatClampNeg = 0 := nck (by omega)
    have q43 : x41.toNatClampNeg = 1 := nck (by omega)
    refine c_VI C (a_X12_throwsIf_e hI20 H_r0 (by omega) (by omega)) rfl rfl rfl rfl rfl ⟨_, rfl, rfl, T_r0, Nat.le_of_ble_eq_true rfl⟩ rfl rfl (Nat.le_of_ble_eq_true rfl) (Nat.le_of_ble_eq_true rfl) (Nat.le_of_ble_eq_true rfl) ?_
    rintro x44 I45 L46 ⟨o0x44, o1x44, p0x44, p1x44, hI45, S47⟩
    have e48 := CM.j S47 R_r0_1 (by decide) e23
    have e49 := CM.j S47 R_r0_1 (by decide) e24
    have e50 := CM.j S47 R_r0_1 (by decide) e25
    have e51 := CM.j S47 R_r0_1 (by decide) e26
    have e52 := CM.j S47 R_r0_1 (by decide) e27
    have e53 := CM.j S47 R_r0_1 (by decide) e28
    have e55 := CM.k S47 (by decide) e31
    have e56 := CM.k S47 (by decide) e33
    have e57 := CM.k S47 (by decide) e35
    have e58 := CM.k S47 (by decide) e37
    have gx44 := rg x44
    obtain ⟨x59, e60⟩ : ∃ x, I45 r0 0 = x := ⟨_, rfl⟩
    have gx59 := rg x59
    try simp only [q42, q43, e23, e24, e25, e26, e27, e28, e29, e31, e33, e35, e37, e60] at p0x44
    try have q0x44 := congrArg Int32.toInt p0x44
    try simp only [q42, q43, e23, e24, e25, e26, e27, e28, e29, e31, e33, e35, e37, e60] at p1x44
    try have q1x44 := congrArg Int32.toInt p1x44
    refine b_if_ne C (t := 78) rfl rfl rfl (fun c61 => by exfalso; omega) (fun c61 => ?_)
    refine k_aload_n C rfl rfl rfl ?_
    refine k_aload_n C rfl rfl rfl ?_
    refine g_R C rfl rfl rfl T_r0 rfl R_r0_1 ?_
    refine z_iconst C (z := 2) rfl rfl rfl (fun x62 ex62 => ?_)
    obtain ⟨T_r0_1, N_r0_1, A_r0_1⟩ := id H_r0_1
    refine a_I C rfl rfl T_r0_1 (by rw [N_r0_1]; exact vpi (by omega) (by omega)) ((congrArg (I45 r0_1) (nck (n := 2) (by omega))).trans e50) ?_
    refine z_bipush C (z := 8) rfl rfl rfl (fun x63 ex63 => ?_)
    refine b_icmp_ne C (t := 70) rfl rfl rfl (fun c64 => ?_) (fun c64 => ?_)
    · skip
      refine z_iconst C (z := 0) rfl rfl rfl (fun x65 ex65 => ?_)
      refine z_iconst C (z := 2) rfl rfl rfl (fun x66 ex66 => ?_)
      have q67 : x65.toNatClampNeg = 0 := nck (by omega)
      have q68 : x66.toNatClampNeg = 2 := nck (by omega)
      refine c_VI C (a_X12_throwsIf_e hI45 H_r0 (by omega) (by omega)) rfl rfl rfl rfl rfl ⟨_, rfl, rfl, T_r0, Nat.le_of_ble_eq_true rfl⟩ rfl rfl (Nat.le_of_ble_eq_true rfl) (Nat.le_of_ble_eq_true rfl) (Nat.le_of_ble_eq_true rfl) ?_
      rintro x69 I70 L71 ⟨o0x69, o1x69, p0x69, p1x69, hI70, S72⟩
      have e73 := CM.j S72 R_r0_1 (by decide) e48
      have e74 := CM.j S72 R_r0_1 (by decide) e49
      have e75 := CM.j S72 R_r0_1 (by decide) e50
      have e76 := CM.j S72 R_r0_1 (by decide) e51
      have e77 := CM.j S72 R_r0_1 (by decide) e52
      have e78 := CM.j S72 R_r0_1 (by decide) e53
      have e79 := CM.k S72 (by decide) e55
      have e80 := CM.k S72 (by decide) e56
      have e81 := CM.k S72 (by decide) e57
      have e82 := CM.k S72 (by decide) e58
      have gx69 := rg x69
      obtain ⟨x84, e85⟩ : ∃ x, I70 r0 0 = x := ⟨_, rfl⟩
      have gx84 := rg x84
      try simp only [q67, q68, e48, e49, e50, e51, e52, e53, e55, e56, e57, e58, e60, e85] at p0x69
      try have q0x69 := congrArg Int32.toInt p0x69
      try simp only [q67, q68, e48, e49, e50, e51, e52, e53, e55, e56, e57, e58, e60, e85] at p1x69
      try have q1x69 := congrArg Int32.toInt p1x69
      refine b_if_eq C (t := 82) rfl rfl rfl (fun c86 => ?_) (fun c86 => by exfalso; omega)
      refine k_aload_n C rfl rfl rfl ?_
      refine c_VI C (a_X12_lays_e hI70 H_r0 (fun a1 h1 => by cases (R_r0_1.symm.trans h1); first | omega | (simp only [e73, e74, e75, e76, e77, e78, e79, e80, e81, e82, e85, and_true, true_and, or_true, true_or, and_false, false_and, or_false, false_or] <;> omega))) rfl rfl rfl rfl rfl ⟨_, rfl, rfl, T_r0, Nat.le_of_ble_eq_true rfl⟩ rfl rfl (Nat.le_of_ble_eq_true rfl) (Nat.le_of_ble_eq_true rfl) (Nat.le_of_ble_eq_true rfl) ?_
      rintro x87 I88 L89 ⟨o0x87, o1x87, p0x87, p1x87, p2x87, p3x87, hI88, S90⟩
      have p0x87 := p0x87 r0_1 R_r0_1
      have p1x87 := p1x87 r0_1 R_r0_1
      have p2x87 := p2x87 r0_1 R_r0_1
      have p3x87 := p3x87 r0_1 R_r0_1
      have F91 : ∀ r : Nat, r ≠ 2 ∧ r < 166 → I88 r0_1 r = I70 r0_1 r := fun r z0 => p3x87 r z0
      have e92 := (p3x87 0 (by decide)).trans e73
      have e93 := (p3x87 1 (by decide)).trans e74
      have e95 := (p3x87 3 (by decide)).trans e76
      have e96 := (p3x87 4 (by decide)).trans e77
      have e97 := (p3x87 5 (by decide)).trans e78
      have e98 := CM.k S90 (by decide) e79
      have e99 := CM.k S90 (by decide) e80
      have e100 := CM.k S90 (by decide) e81
      have e101 := CM.k S90 (by decide) e82
      have e102 := CM.k S90 (by decide) e85
      have gx87 := rg x87
      obtain ⟨x103, e104⟩ : ∃ x, I88 r0_1 2 = x := ⟨_, rfl⟩
      have gx103 := rg x103
      have ox103 := IM.c2 hI88 R_r0_1 e104
      try simp only [e73, e74, e75, e76, e77, e78, e79, e80, e81, e82, e85, e104] at p0x87
      try have q0x87 := congrArg Int32.toInt p0x87
      try simp only [e73, e74, e75, e76, e77, e78, e79, e80, e81, e82, e85, e104] at p1x87
      try have q1x87 := congrArg Int32.toInt p1x87
      try simp only [e73, e74, e75, e76, e77, e78, e79, e80, e81, e82, e85, e104] at p2x87
      try have q2x87 := congrArg Int32.toInt p2x87
      exact k_iret C rfl (Or.inl rfl) (Nat.le_of_ble_eq_true rfl) (Nat.le_of_ble_eq_true rfl) ⟨_, _, _, rfl, rfl, by omega, by omega, fun a1 h1 => by cases (R_r0_1.symm.trans h1); first | omega | (simp only [e92, e93, e95, e96, e97, e98, e99, e100, e101, e102, e104, k0_r0_1_0, k0_r0_1_1, k0_r0_1_2, k0_r0_1_3, k0_r0_1_4, k0_r0_1_5, and_true, true_and, or_true, true_or, and_false, false_and, or_false, false_or] <;> omega), fun a1 h1 => by cases (R_r0_1.symm.trans h1); simp only [e92, e93, e95, e96, e97, e98, e99, e100, e101, e102, e104, k0_r0_1_0, k0_r0_1_1, k0_r0_1_2, k0_r0_1_3, k0_r0_1_4, k0_r0_1_5, k0_r0_1_0, k0_r0_1_2]; rw [← hdt]; unfold TBD; omega, fun a1 h1 => by cases (R_r0_1.symm.trans h1); exact (fun r z0 => ((F91 r z0).trans ((congrFun (CM.j0 S72 R_r0_1 (by decide)) r).trans ((congrFun (CM.j0 S47 R_r0_1 (by decide)) r).trans ((congrFun (CM.j0 S22 R_r0_1 (by decide)) r).trans (congrFun (CM.j0 S3 R_r0_1 (by decide)) r)))))), hI88, (CM.cons S3 (CM.cons S22 (CM.cons S47 (CM.cons S72 (CM.mono S90 (by decide) (by decide)) (by decide) (by decide)) (by decide) (by decide)) (by decide) (by decide)) (by decide) (by decide))⟩
    refine z_iconst C (z := 1) rfl rfl rfl (fun x105 ex105 => ?_)
    refine k_goto C (pc2 := 71) rfl rfl ?_
    refine z_iconst C (z := 2) rfl rfl rfl (fun x106 ex106 => ?_)
    have q107 : x105.toNatClampNeg = 1 := nck (by omega)
    have q108 : x106.toNatClampNeg = 2 := nck (by omega)
    refine c_VI C (a_X12_throwsIf_e hI45 H_r0 (by omega) (by omega)) rfl rfl rfl rfl rfl ⟨_, rfl, rfl, T_r0, Nat.le_of_ble_eq_true rfl⟩ rfl rfl (Nat.le_of_ble_eq_true rfl) (Nat.le_of_ble_eq_true rfl) (Nat.le_of_ble_eq_true rfl) ?_
    rintro x109 I110 L111 ⟨o0x109, o1x109, p0x109, p1x109, hI110, S112⟩
    have e113 := CM.j S112 R_r0_1 (by decide) e48
    have e114 := CM.j S112 R_r0_1 (by decide) e49
    have e115 := CM.j S112 R_r0_1 (by decide) e50
    have e116 := CM.j S112 R_r0_1 (by decide) e51
    have e117 := CM.j S112 R_r0_1 (by decide) e52
    have e118 := CM.j S112 R_r0_1 (by decide) e53
    have e119 := CM.k S112 (by decide) e55
    have e120 := CM.k S112 (by decide) e56
    have e121 := CM.k S112 (by decide) e57
    have e122 := CM.k S112 (by decide) e58
    have gx109 := rg x109
    obtain ⟨x124, e125⟩ : ∃ x, I110 r0 0 = x := ⟨_, rfl⟩
    have gx124 := rg x124
    try simp only [q107, q108, e48, e49, e50, e51, e52, e53, e55, e56, e57, e58, e60, e125] at p0x109
    try have q0x109 := congrArg Int32.toInt p0x109
    try simp only [q107, q108, e48, e49, e50, e51, e52, e53, e55, e56, e57, e58, e60, e125] at p1x109
    try have q1x109 := congrArg Int32.toInt p1x109
    refine b_if_eq C (t := 82) rfl rfl rfl (fun c126 => by exfalso; omega) (fun c126 => ?_)
    refine z_iconst C (z := 0) rfl rfl rfl (fun x127 ex127 => ?_)
    refine k_goto C (pc2 := 86) rfl rfl ?_
    exact k_iret C rfl (Or.inl rfl) (Nat.le_of_ble_eq_true rfl) (Nat.le_of_ble_eq_true rfl) ⟨_, _, _, rfl, rfl, by omega, by omega, fun a1 h1 => by cases (R_r0_1.symm.trans h1); first | omega | (simp only [e113, e114, e115, e116, e117, e118, e119, e120, e121, e122, e125, k0_r0_1_0, k0_r0_1_1, k0_r0_1_2, k0_r0_1_3, k0_r0_1_4, k0_r0_1_5, and_true, true_and, or_true, true_or, and_false, false_and, or_false, false_or] <;> omega), fun a1 h1 => by cases (R_r0_1.symm.trans h1); simp only [e113, e114, e115, e116, e117, e118, e119, e120, e121, e122, e125, k0_r0_1_0, k0_r0_1_1, k0_r0_1_2, k0_r0_1_3, k0_r0_1_4, k0_r0_1_5, k0_r0_1_0, k0_r0_1_2]; rw [← hdt]; unfold TBD; omega, fun a1 h1 => by cases (R_r0_1.symm.trans h1); exact (fun r z0 => ((congrFun (CM.j0 S112 R_r0_1 (by decide)) r).trans ((congrFun (CM.j0 S47 R_r0_1 (by decide)) r).trans ((congrFun (CM.j0 S22 R_r0_1 (by decide)) r).trans (congrFun (CM.j0 S3 R_r0_1 (by decide)) r))))), hI110, (CM.cons S3 (CM.cons S22 (CM.cons S47 (CM.mono S112 (by decide) (by decide)) (by decide) (by decide)) (by decide) (by decide)) (by decide) (by decide))⟩
  refine z_iconst C (z := 1) rfl rfl rfl (fun x128 ex128 => ?_)
  refine k_goto C (pc2 := 47) rfl rfl ?_
  refine z_iconst C (z := 1) rfl rfl rfl (fun x129 ex129 => ?_)
  have q130 : x128.toNatClampNeg = 1 := nck (by omega)
  have q131 : x129.toNatClampNeg = 1 := nck (by omega)
  refine c_VI C (a_X12_throwsIf_e hI20 H_r0 (by omega) (by omega)) rfl rfl rfl rfl rfl ⟨_, rfl, rfl, T_r0, Nat.le_of_ble_eq_true rfl⟩ rfl rfl (Nat.le_of_ble_eq_true rfl) (Nat.le_of_ble_eq_true rfl) (Nat.le_of_ble_eq_true rfl) ?_
  rintro x132 I133 L134 ⟨o0x132, o1x132, p0x132, p1x132, hI133, S135⟩
  have e136 := CM.j S135 R_r0_1 (by decide) e23
  have e137 := CM.j S135 R_r0_1 (by decide) e24
  have e138 := CM.j S135 R_r0_1 (by decide) e25
  have e139 := CM.j S135 R_r0_1 (by decide) e26
  have e140 := CM.j S135 R_r0_1 (by decide) e27
  have e141 := CM.j S135 R_r0_1 (by decide) e28
  have e143 := CM.k S135 (by decide) e31
  have e144 := CM.k S135 (by decide) e33
  have e145 := CM.k S135 (by decide) e35
  have e146 := CM.k S135 (by decide) e37
  have gx132 := rg x132
  obtain ⟨x147, e148⟩ : ∃ x, I133 r0 0 = x := ⟨_, rfl⟩
  have gx147 := rg x147
  try simp only [q130, q131, e23, e24, e25, e26, e27, e28, e29, e31, e33, e35, e37, e148] at p0x132
  try have q0x132 := congrArg Int32.toInt p0x132
  try simp only [q130, q131, e23, e24, e25, e26, e27, e28, e29, e31, e33, e35, e37, e148] at p1x132
  try have q1x132 := congrArg Int32.toInt p1x132
  refine b_if_ne C (t := 78) rfl rfl rfl (fun c149 => ?_) (fun c149 => by exfalso; omega)
  refine z_iconst C (z := 0) rfl rfl rfl (fun x150 ex150 => ?_)
  refine k_goto C (pc2 := 86) rfl rfl ?_
  exact k_iret C rfl (Or.inl rfl) (Nat.le_of_ble_eq_true rfl) (Nat.le_of_ble_eq_true rfl) ⟨_, _, _, rfl, rfl, by omega, by omega, fun a1 h1 => by cases (R_r0_1.symm.trans h1); first | omega | (simp only [e136, e137, e138, e139, e140, e141, e143, e144, e145, e146, e148, k0_r0_1_0, k0_r0_1_1, k0_r0_1_2, k0_r0_1_3, k0_r0_1_4, k0_r0_1_5, and_true, true_and, or_true, true_or, and_false, false_and, or_false, false_or] <;> omega), fun a1 h1 => by cases (R_r0_1.symm.trans h1); simp only [e136, e137, e138, e139, e140, e141, e143, e144, e145, e146, e148, k0_r0_1_0, k0_r0_1_1, k0_r0_1_2, k0_r0_1_3, k0_r0_1_4, k0_r0_1_5, k0_r0_1_0, k0_r0_1_2]; rw [← hdt]; unfold TBD; omega, fun a1 h1 => by cases (R_r0_1.symm.trans h1); exact (fun r z0 => ((congrFun (CM.j0 S135 R_r0_1 (by decide)) r).trans ((congrFun (CM.j0 S22 R_r0_1 (by decide)) r).trans (congrFun (CM.j0 S3 R_r0_1 (by decide)) r)))), hI133, (CM.cons S3 (CM.cons S22 (CM.mono S135 (by decide) (by decide)) (by decide) (by decide)) (by decide) (by decide))⟩

set_option maxHeartbeats 8000000 in
theorem a_X12_join_e {d : Nat} {T N : Nat → Nat} {I : IT} {L : LT} {R : RT} {A : Nat → Prop} {r0 : Nat} {n1 n2 : Int32} (hI : IM R r0 I) (H_r0 : (h_MD T N R A) r0) : Ex (d + 3) 236 [.ref r0, .int n1, .int n2] (T, N, I, L, R) 0 0 (pI T N R (fun x9 I9 L9 => (-1 ≤ x9.toInt) ∧ (x9.toInt ≤ 7) ∧ (∀ a1, R r0 1 = some a1 → (I a1 4).toInt + (I a1 5).toInt ≤ 40 → (I9 a1 4).toInt + (I9 a1 5).toInt ≤ 40) ∧ (∀ a1, R r0 1 = some a1 → (n1.toInt < 0 ∨ (I a1 2).toInt ≤ n1.toInt ∨ n2.toInt < 0 ∨ (I a1 2).toInt ≤ n2.toInt) ∧ (I9 r0 0).toInt = 1 ∧ (I9 a1 2).toInt = (I a1 2).toInt ∨ ¬ (n1.toInt < 0 ∨ (I a1 2).toInt ≤ n1.toInt ∨ n2.toInt < 0 ∨ (I a1 2).toInt ≤ n2.toInt) ∧ (I a1 2).toInt = 8 ∧ (I9 r0 0).toInt = 2 ∧ (I9 a1 2).toInt = (I a1 2).toInt ∨ ¬ (n1.toInt < 0 ∨ (I a1 2).toInt ≤ n1.toInt ∨ n2.toInt < 0 ∨ (I a1 2).toInt ≤ n2.toInt) ∧ (I a1 2).toInt < 8 ∧ (I9 r0 0).toInt = 0 ∧ x9.toInt = (I a1 2).toInt ∧ (I9 a1 2).toInt = (I a1 2).toInt + 1) ∧ (∀ a1, R r0 1 = some a1 → ∀ r : Nat, r ≠ 2 ∧ r < 166 → I9 a1 r = I a1 r) ∧ (IM R r0 I9 ∧ CM A R r0 [0, 6, 7, 8, 9] [1] I L I9 L9))) := by
  refine ⟨_, rfl, Nat.le_of_ble_eq_true rfl, fun V C S => ?_⟩
  show V 0 [(0, .ref r0), (1, .int n1), (2, .int n2)] [] (T, N, I, L, R) 0 0
  have gn1 := rg n1
  have gn2 := rg n2
  obtain ⟨T_r0, A_r0, ⟨r0_1, R_r0_1, H_r0_1⟩, ⟨r0_2, R_r0_2, H_r0_2⟩, ⟨r0_4, R_r0_4, H_r0_4⟩, ⟨r0_5, R_r0_5, H_r0_5⟩, ⟨r0_10, R_r0_10, H_r0_10⟩, ⟨r0_18, R_r0_18, H_r0_18⟩, ⟨r0_20, R_r0_20, H_r0_20⟩, ⟨r0_21, R_r0_21, H_r0_21⟩, ⟨r0_22, R_r0_22, H_r0_22⟩, ⟨r0_23, R_r0_23, H_r0_23⟩, ⟨r0_25, R_r0_25, H_r0_25⟩, ⟨r0_26, R_r0_26, H_r0_26⟩, ⟨r0_27, R_r0_27, H_r0_27⟩, ⟨r0_28, R_r0_28, H_r0_28⟩, ⟨r0_34, R_r0_34, H_r0_34⟩, J_r0, Y_r0⟩ := id H_r0
  have G_r0 : mF T R r0 := ⟨J_r0, Y_r0, T_r0⟩
  obtain ⟨w_r0_1_0, k0_r0_1_0⟩ : ∃ x, I r0_1 0 = x := ⟨_, rfl⟩
  have gw_r0_1_0 := rg w_r0_1_0
  have ow_r0_1_0 := IM.pi hI R_r0_1 k0_r0_1_0
  obtain ⟨w_r0_1_1, k0_r0_1_1⟩ : ∃ x, I r0_1 1 = x := ⟨_, rfl⟩
  have gw_r0_1_1 := rg w_r0_1_1
  have ow_r0_1_1 := IM.c1 hI R_r0_1 k0_r0_1_1
  obtain ⟨w_r0_1_2, k0_r0_1_2⟩ : ∃ x, I r0_1 2 = x := ⟨_, rfl⟩
  have gw_r0_1_2 := rg w_r0_1_2
  have ow_r0_1_2 := IM.c2 hI R_r0_1 k0_r0_1_2
  obtain ⟨w_r0_1_3, k0_r0_1_3⟩ : ∃ x, I r0_1 3 = x := ⟨_, rfl⟩
  have gw_r0_1_3 := rg w_r0_1_3
  have ow_r0_1_3 := IM.c3 hI R_r0_1 k0_r0_1_3
  obtain ⟨w_r0_1_4, k0_r0_1_4⟩ : ∃ x, I r0_1 4 = x := ⟨_, rfl⟩
  have gw_r0_1_4 := rg w_r0_1_4
  have ow_r0_1_4 := IM.c4 hI R_r0_1 k0_r0_1_4
  obtain ⟨w_r0_1_5, k0_r0_1_5⟩ : ∃ x, I r0_1 5 = x := ⟨_, rfl⟩
  have gw_r0_1_5 := rg w_r0_1_5
  have ow_r0_1_5 := IM.c5 hI R_r0_1 k0_r0_1_5
  refine k_aload_n C rfl rfl rfl ?_
  refine z_iconst C (z := 0) rfl rfl rfl (fun x1 ex1 => ?_)
  refine z_pI C rfl rfl rfl T_r0 (Or.inr rfl) rfl (fun I2 uI2 => ?_)
  have hI2 : IM R r0 I2 := IM.fld hI G_r0 ⟨(fun h => absurd h (by decide)), (fun h => absurd h (by decide)), (fun h => absurd h (by decide)), (fun h => absurd h (by decide)), (fun h => absurd h (by decide))⟩ uI2
  have S3 : CM A R r0 [0] [] I L I2 L := CM.f G_r0 A_r0 uI2
  have e4 := u2_n uI2 (mF.ne G_r0 R_r0_1) k0_r0_1_0
  have e5 := u2_n uI2 (mF.ne G_r0 R_r0_1) k0_r0_1_1
  have e6 := u2_n uI2 (mF.ne G_r0 R_r0_1) k0_r0_1_2
  have e7 := u2_n uI2 (mF.ne G_r0 R_r0_1) k0_r0_1_3
  have e8 := u2_n uI2 (mF.ne G_r0 R_r0_1) k0_r0_1_4
  have e9 := u2_n uI2 (mF.ne G_r0 R_r0_1) k0_r0_1_5
  have e10 := u2_e uI2
  refine k_aload_n C rfl rfl rfl ?_
  refine k_aload_n C rfl rfl rfl ?_
  refine k_iload_n C rfl rfl rfl ?_
  refine c_VI C (a_X12_noTable_e hI2 H_r0) rfl rfl rfl rfl rfl ⟨_, rfl, rfl, T_r0, Nat.le_of_ble_eq_true rfl⟩ rfl rfl (Nat.le_of_ble_eq_true rfl) (Nat.le_of_ble_eq_true rfl) (Nat.le_of_ble_eq_true rfl) ?_
  rintro x11 _ _ ⟨o0x11, o1x11, p0x11, rfl, rfl⟩
  have p0x11 := p0x11 r0_1 R_r0_1
  have gx11 := rg x11
  try simp only [e4, e5, e6, e7, e8, e9, e10, e6] at p0x11
  try have q0x11 := congrArg Int32.toInt p0x11
  refine b_if_ne C (t := 22) rfl rfl rfl (fun c12 => ?_) (fun c12 => ?_)
  · skip
    refine z_iconst C (z := 1) rfl rfl rfl (fun x13 ex13 => ?_)
    refine k_goto C (pc2 := 27) rfl rfl ?_
    refine z_iconst C (z := 1) rfl rfl rfl (fun x14 ex14 => ?_)
    have q15 : x13.toNatClampNeg = 1 := nck (by omega)
    have q16 : x14.toNatClampNeg = 1 := nck (by omega)
    refine c_VI C (a_X12_throwsIf_e hI2 H_r0 (by omega) (by omega)) rfl rfl rfl rfl rfl ⟨_, rfl, rfl, T_r0, Nat.le_of_ble_eq_true rfl⟩ rfl rfl (Nat.le_of_ble_eq_true rfl) (Nat.le_of_ble_eq_true rfl) (Nat.le_of_ble_eq_true rfl) ?_
    rintro x17 I18 L19 ⟨o0x17, o1x17, p0x17, p1x17, hI18, S20⟩
    have e21 := CM.j S20 R_r0_1 (by decide) e4
    have e22 := CM.j S20 R_r0_1 (by decide) e5
    have e23 := CM.j S20 R_r0_1 (by decide) e6
    have e24 := CM.j S20 R_r0_1 (by decide) e7
    have e25 := CM.j S20 R_r0_1 (by decide) e8
    have e26 := CM.j S20 R_r0_1 (by decide) e9
    have gx17 := rg x17
    obtain ⟨x28, e29⟩ : ∃ x, I18 r0 0 = x := ⟨_, rfl⟩
    have gx28 := rg x28
    try simp only [q15, q16, e4, e5, e6, e7, e8, e9, e10, e29] at p0x17
    try have q0x17 := congrArg Int32.toInt p0x17
    try simp only [q15, q16, e4, e5, e6, e7, e8, e9, e10, e29] at p1x17
    try have q1x17 := congrArg Int32.toInt p1x17
    refine b_if_ne C (t := 58) rfl rfl rfl (fun c30 => ?_) (fun c30 => by exfalso; omega)
    refine z_iconst C (z := 0) rfl rfl rfl (fun x31 ex31 => ?_)
    exact k_iret C rfl (Or.inl rfl) (Nat.le_of_ble_eq_true rfl) (Nat.le_of_ble_eq_true rfl) ⟨_, _, _, rfl, rfl, by omega, by omega, fun a1 h1 => by cases (R_r0_1.symm.trans h1); first | omega | (simp only [e21, e22, e23, e24, e25, e26, e29, k0_r0_1_0, k0_r0_1_1, k0_r0_1_2, k0_r0_1_3, k0_r0_1_4, k0_r0_1_5, and_true, true_and, or_true, true_or, and_false, false_and, or_false, false_or] <;> omega), fun a1 h1 => by cases (R_r0_1.symm.trans h1); first | omega | (simp only [e21, e22, e23, e24, e25, e26, e29, k0_r0_1_0, k0_r0_1_1, k0_r0_1_2, k0_r0_1_3, k0_r0_1_4, k0_r0_1_5, and_true, true_and, or_true, true_or, and_false, false_and, or_false, false_or] <;> omega), fun a1 h1 => by cases (R_r0_1.symm.trans h1); exact (fun r z0 => ((congrFun (CM.j0 S20 R_r0_1 (by decide)) r).trans (congrFun (CM.j0 S3 R_r0_1 (by decide)) r))), hI18, (CM.cons S3 (CM.mono S20 (by decide) (by decide)) (by decide) (by decide))⟩
  refine k_aload_n C rfl rfl rfl ?_
  refine k_iload_n C rfl rfl rfl ?_
  refine c_VI C (a_X12_noTable_e hI2 H_r0) rfl rfl rfl rfl rfl ⟨_, rfl, rfl, T_r0, Nat.le_of_ble_eq_true rfl⟩ rfl rfl (Nat.le_of_ble_eq_true rfl) (Nat.le_of_ble_eq_true rfl) (Nat.le_of_ble_eq_true rfl) ?_
  rintro x32 _ _ ⟨o0x32, o1x32, p0x32, rfl, rfl⟩
  have p0x32 := p0x32 r0_1 R_r0_1
  have gx32 := rg x32
  try simp only [e4, e5, e6, e7, e8, e9, e10, e6] at p0x32
  try have q0x32 := congrArg Int32.toInt p0x32
  refine b_if_eq C (t := 26) rfl rfl rfl (fun c33 => ?_) (fun c33 => ?_)
  · skip
    refine z_iconst C (z := 0) rfl rfl rfl (fun x34 ex34 => ?_)
    refine z_iconst C (z := 1) rfl rfl rfl (fun x35 ex35 => ?_)
    have q36 : x34.toNatClampNeg = 0 := nck (by omega)
    have q37 : x35.toNatClampNeg = 1 := nck (by omega)
    refine c_VI C (a_X12_throwsIf_e hI2 H_r0 (by omega) (by omega)) rfl rfl rfl rfl rfl ⟨_, rfl, rfl, T_r0, Nat.le_of_ble_eq_true rfl⟩ rfl rfl (Nat.le_of_ble_eq_true rfl) (Nat.le_of_ble_eq_true rfl) (Nat.le_of_ble_eq_true rfl) ?_
    rintro x38 I39 L40 ⟨o0x38, o1x38, p0x38, p1x38, hI39, S41⟩
    have e42 := CM.j S41 R_r0_1 (by decide) e4
    have e43 := CM.j S41 R_r0_1 (by decide) e5
    have e44 := CM.j S41 R_r0_1 (by decide) e6
    have e45 := CM.j S41 R_r0_1 (by decide) e7
    have e46 := CM.j S41 R_r0_1 (by decide) e8
    have e47 := CM.j S41 R_r0_1 (by decide) e9
    have gx38 := rg x38
    obtain ⟨x49, e50⟩ : ∃ x, I39 r0 0 = x := ⟨_, rfl⟩
    have gx49 := rg x49
    try simp only [q36, q37, e4, e5, e6, e7, e8, e9, e10, e50] at p0x38
    try have q0x38 := congrArg Int32.toInt p0x38
    try simp only [q36, q37, e4, e5, e6, e7, e8, e9, e10, e50] at p1x38
    try have q1x38 := congrArg Int32.toInt p1x38
    refine b_if_ne C (t := 58) rfl rfl rfl (fun c51 => by exfalso; omega) (fun c51 => ?_)
    refine k_aload_n C rfl rfl rfl ?_
    refine k_aload_n C rfl rfl rfl ?_
    refine g_R C rfl rfl rfl T_r0 rfl R_r0_1 ?_
    refine z_iconst C (z := 2) rfl rfl rfl (fun x52 ex52 => ?_)
    obtain ⟨T_r0_1, N_r0_1, A_r0_1⟩ := id H_r0_1
    refine a_I C rfl rfl T_r0_1 (by rw [N_r0_1]; exact vpi (by omega) (by omega)) ((congrArg (I39 r0_1) (nck (n := 2) (by omega))).trans e44) ?_
    refine z_bipush C (z := 8) rfl rfl rfl (fun x53 ex53 => ?_)
    refine b_icmp_ne C (t := 50) rfl rfl rfl (fun c54 => ?_) (fun c54 => ?_)
    · skip
      refine z_iconst C (z := 0) rfl rfl rfl (fun x55 ex55 => ?_)
      refine z_iconst C (z := 2) rfl rfl rfl (fun x56 ex56 => ?_)
      have q57 : x55.toNatClampNeg = 0 := nck (by omega)
      have q58 : x56.toNatClampNeg = 2 := nck (by omega)
      refine c_VI C (a_X12_throwsIf_e hI39 H_r0 (by omega) (by omega)) rfl rfl rfl rfl rfl ⟨_, rfl, rfl, T_r0, Nat.le_of_ble_eq_true rfl⟩ rfl rfl (Nat.le_of_ble_eq_true rfl) (Nat.le_of_ble_eq_true rfl) (Nat.le_of_ble_eq_true rfl) ?_
      rintro x59 I60 L61 ⟨o0x59, o1x59, p0x59, p1x59, hI60, S62⟩
      have e63 := CM.j S62 R_r0_1 (by decide) e42
      have e64 := CM.j S62 R_r0_1 (by decide) e43
      have e65 := CM.j S62 R_r0_1 (by decide) e44
      have e66 := CM.j S62 R_r0_1 (by decide) e45
      have e67 := CM.j S62 R_r0_1 (by decide) e46
      have e68 := CM.j S62 R_r0_1 (by decide) e47
      have gx59 := rg x59
      obtain ⟨x70, e71⟩ : ∃ x, I60 r0 0 = x := ⟨_, rfl⟩
      have gx70 := rg x70
      try simp only [q57, q58, e42, e43, e44, e45, e46, e47, e50, e71] at p0x59
      try have q0x59 := congrArg Int32.toInt p0x59
      try simp only [q57, q58, e42, e43, e44, e45, e46, e47, e50, e71] at p1x59
      try have q1x59 := congrArg Int32.toInt p1x59
      refine b_if_eq C (t := 60) rfl rfl rfl (fun c72 => ?_) (fun c72 => by exfalso; omega)
      refine k_aload_n C rfl rfl rfl ?_
      refine k_iload_n C rfl rfl rfl ?_
      refine c_VV C (a_X12_tables hI60 H_r0 (by omega) (by omega)) rfl rfl rfl rfl rfl ⟨_, rfl, rfl, T_r0, Nat.le_of_ble_eq_true rfl⟩ rfl rfl (Nat.le_of_ble_eq_true rfl) (Nat.le_of_ble_eq_true rfl) (Nat.le_of_ble_eq_true rfl) ?_
      rintro I74 L75 ⟨hI74, S76⟩
      have e77 := CM.j S76 R_r0_1 (by decide) e63
      have e78 := CM.j S76 R_r0_1 (by decide) e64
      have e79 := CM.j S76 R_r0_1 (by decide) e65
      have e80 := CM.j S76 R_r0_1 (by decide) e66
      have e81 := CM.j S76 R_r0_1 (by decide) e67
      have e82 := CM.j S76 R_r0_1 (by decide) e68
      have e83 := CM.k S76 (by decide) e71
      refine k_aload_n C rfl rfl rfl ?_
      refine k_aload_n C rfl rfl rfl ?_
      refine k_aload_n C rfl rfl rfl ?_
      refine z_gI C rfl rfl rfl T_r0 rfl (fun x84 ex84 => ?_)
      have gx84 := rg x84
      have ox84 := IM.f6 hI74 ex84
      refine k_aload_n C rfl rfl rfl ?_
      refine k_iload_n C rfl rfl rfl ?_
      refine z_iconst C (z := 0) rfl rfl rfl (fun x85 ex85 => ?_)
      have q86 : x85.toNatClampNeg = 0 := nck (by omega)
      refine c_VI C (a_X12_ofTable hI74 H_r0 (by omega) (by omega) (by omega) (by omega)) rfl rfl rfl rfl rfl ⟨_, rfl, rfl, T_r0, Nat.le_of_ble_eq_true rfl⟩ rfl rfl (Nat.le_of_ble_eq_true rfl) (Nat.le_of_ble_eq_true rfl) (Nat.le_of_ble_eq_true rfl) ?_
      rintro x87 _ _ ⟨o0x87, o1x87, p0x87, rfl, rfl⟩
      have p0x87 := p0x87 r0_1 R_r0_1
      have gx87 := rg x87
      try simp only [q86, e77, e78, e79, e80, e81, e82, e83, ex84] at p0x87
      try have q0x87 := congrArg Int32.toInt p0x87
      refine c_VI C (a_X12_times hI74 H_r0 (by omega) (by omega) (by omega) (by omega)) rfl rfl rfl rfl rfl ⟨_, rfl, rfl, T_r0, Nat.le_of_ble_eq_true rfl⟩ rfl rfl (Nat.le_of_ble_eq_true rfl) (Nat.le_of_ble_eq_true rfl) (Nat.le_of_ble_eq_true rfl) ?_
      rintro x88 _ _ ⟨o0x88, o1x88, p0x88, p1x88, p2x88, p3x88, rfl, rfl⟩
      have p0x88 := p0x88 r0_1 R_r0_1
      have p2x88 := p2x88 r0_1 R_r0_1
      have p3x88 := p3x88 r0_1 R_r0_1
      have gx88 := rg x88
      try simp only [e77, e78, e79, e80, e81, e82, e83, ex84] at p0x88
      try have q0x88 := congrArg Int32.toInt p0x88
      try simp only [e77, e78, e79, e80, e81, e82, e83, ex84] at p1x88
      try have q1x88 := congrArg Int32.toInt p1x88
      try simp only [e77, e78, e79, e80, e81, e82, e83, ex84] at p2x88
      try have q2x88 := congrArg Int32.toInt p2x88
      try simp only [e77, e78, e79, e80, e81, e82, e83, ex84] at p3x88
      try have q3x88 := congrArg Int32.toInt p3x88
      refine k_aload_n C rfl rfl rfl ?_
      refine k_aload_n C rfl rfl rfl ?_
      refine z_gI C rfl rfl rfl T_r0 rfl (fun x89 ex89 => ?_)
      have gx89 := rg x89
      have ox89 := IM.f7 hI74 ex89
      refine k_aload_n C rfl rfl rfl ?_
      refine k_iload_n C rfl rfl rfl ?_
      refine z_iconst C (z := 2) rfl rfl rfl (fun x90 ex90 => ?_)
      have q91 : x90.toNatClampNeg = 2 := nck (by omega)
      refine c_VI C (a_X12_ofTable hI74 H_r0 (by omega) (by omega) (by omega) (by omega)) rfl rfl rfl rfl rfl ⟨_, rfl, rfl, T_r0, Nat.le_of_ble_eq_true rfl⟩ rfl rfl (Nat.le_of_ble_eq_true rfl) (Nat.le_of_ble_eq_true rfl) (Nat.le_of_ble_eq_true rfl) ?_
      rintro x92 _ _ ⟨o0x92, o1x92, p0x92, rfl, rfl⟩
      have p0x92 := p0x92 r0_1 R_r0_1
      have gx92 := rg x92
      try simp only [q91, e77, e78, e79, e80, e81, e82, e83, ex84, ex89] at p0x92
      try have q0x92 := congrArg Int32.toInt p0x92
      refine c_VI C (a_X12_times hI74 H_r0 (by omega) (by omega) (by omega) (by omega)) rfl rfl rfl rfl rfl ⟨_, rfl, rfl, T_r0, Nat.le_of_ble_eq_true rfl⟩ rfl rfl (Nat.le_of_ble_eq_true rfl) (Nat.le_of_ble_eq_true rfl) (Nat.le_of_ble_eq_true rfl) ?_
      rintro x93 _ _ ⟨o0x93, o1x93, p0x93, p1x93, p2x93, p3x93, rfl, rfl⟩
      have p0x93 := p0x93 r0_1 R_r0_1
      have p2x93 := p2x93 r0_1 R_r0_1
      have p3x93 := p3x93 r0_1 R_r0_1
      have gx93 := rg x93
      try simp only [e77, e78, e79, e80, e81, e82, e83, ex84, ex89] at p0x93
      try have q0x93 := congrArg Int32.toInt p0x93
      try simp only [e77, e78, e79, e80, e81, e82, e83, ex84, ex89] at p1x93
      try have q1x93 := congrArg Int32.toInt p1x93
      try simp only [e77, e78, e79, e80, e81, e82, e83, ex84, ex89] at p2x93
      try have q2x93 := congrArg Int32.toInt p2x93
      try simp only [e77, e78, e79, e80, e81, e82, e83, ex84, ex89] at p3x93
      try have q3x93 := congrArg Int32.toInt p3x93
      refine c_VI C (a_X12_plus_e hI74 H_r0 (by omega) (by omega) (by omega) (by omega)) rfl rfl rfl rfl rfl ⟨_, rfl, rfl, T_r0, Nat.le_of_ble_eq_true rfl⟩ rfl rfl (Nat.le_of_ble_eq_true rfl) (Nat.le_of_ble_eq_true rfl) (Nat.le_of_ble_eq_true rfl) ?_
      rintro x94 _ _ ⟨o0x94, o1x94, p0x94, p1x94, p2x94, p3x94, rfl, rfl⟩
      have p0x94 := p0x94 r0_1 R_r0_1
      have p2x94 := p2x94 r0_1 R_r0_1
      have p3x94 := p3x94 r0_1 R_r0_1
      have gx94 := rg x94
      try simp only [e77, e78, e79, e80, e81, e82, e83, ex84, ex89] at p0x94
      try have q0x94 := congrArg Int32.toInt p0x94
      try simp only [e77, e78, e79, e80, e81, e82, e83, ex84, ex89] at p1x94
      try have q1x94 := congrArg Int32.toInt p1x94
      try simp only [e77, e78, e79, e80, e81, e82, e83, ex84, ex89] at p2x94
      try have q2x94 := congrArg Int32.toInt p2x94
      try simp only [e77, e78, e79, e80, e81, e82, e83, ex84, ex89] at p3x94
      try have q3x94 := congrArg Int32.toInt p3x94
      refine k_istore_n C (lw := [(3, .int x94), (0, .ref r0), (1, .int n1), (2, .int n2)]) rfl rfl (Nat.le_of_ble_eq_true rfl) rfl ?_
      refine k_aload_n C rfl rfl rfl ?_
      refine k_aload_n C rfl rfl rfl ?_
      refine k_aload_n C rfl rfl rfl ?_
      refine g_I C rfl rfl rfl T_r0 rfl ex84 ?_
      refine k_aload_n C rfl rfl rfl ?_
      refine k_iload_n C rfl rfl rfl ?_
      refine z_iconst C (z := 1) rfl rfl rfl (fun x95 ex95 => ?_)
      have q96 : x95.toNatClampNeg = 1 := nck (by omega)
      refine c_VI C (a_X12_ofTable hI74 H_r0 (by omega) (by omega) (by omega) (by omega)) rfl rfl rfl rfl rfl ⟨_, rfl, rfl, T_r0, Nat.le_of_ble_eq_true rfl⟩ rfl rfl (Nat.le_of_ble_eq_true rfl) (Nat.le_of_ble_eq_true rfl) (Nat.le_of_ble_eq_true rfl) ?_
      rintro x97 _ _ ⟨o0x97, o1x97, p0x97, rfl, rfl⟩
      have p0x97 := p0x97 r0_1 R_r0_1
      have gx97 := rg x97
      try simp only [q96, e77, e78, e79, e80, e81, e82, e83, ex84, ex89] at p0x97
      try have q0x97 := congrArg Int32.toInt p0x97
      refine c_VI C (a_X12_times hI74 H_r0 (by omega) (by omega) (by omega) (by omega)) rfl rfl rfl rfl rfl ⟨_, rfl, rfl, T_r0, Nat.le_of_ble_eq_true rfl⟩ rfl rfl (Nat.le_of_ble_eq_true rfl) (Nat.le_of_ble_eq_true rfl) (Nat.le_of_ble_eq_true rfl) ?_
      rintro x98 _ _ ⟨o0x98, o1x98, p0x98, p1x98, p2x98, p3x98, rfl, rfl⟩
      have p0x98 := p0x98 r0_1 R_r0_1
      have p2x98 := p2x98 r0_1 R_r0_1
      have p3x98 := p3x98 r0_1 R_r0_1
      have gx98 := rg x98
      try simp only [e77, e78, e79, e80, e81, e82, e83, ex84, ex89] at p0x98
      try have q0x98 := congrArg Int32.toInt p0x98
      try simp only [e77, e78, e79, e80, e81, e82, e83, ex84, ex89] at p1x98
      try have q1x98 := congrArg Int32.toInt p1x98
      try simp only [e77, e78, e79, e80, e81, e82, e83, ex84, ex89] at p2x98
      try have q2x98 := congrArg Int32.toInt p2x98
      try simp only [e77, e78, e79, e80, e81, e82, e83, ex84, ex89] at p3x98
      try have q3x98 := congrArg Int32.toInt p3x98
      refine k_aload_n C rfl rfl rfl ?_
      refine k_aload_n C rfl rfl rfl ?_
      refine g_I C rfl rfl rfl T_r0 rfl ex89 ?_
      refine k_aload_n C rfl rfl rfl ?_
      refine k_iload_n C rfl rfl rfl ?_
      refine z_iconst C (z := 3) rfl rfl rfl (fun x99 ex99 => ?_)
      have q100 : x99.toNatClampNeg = 3 := nck (by omega)
      refine c_VI C (a_X12_ofTable hI74 H_r0 (by omega) (by omega) (by omega) (by omega)) rfl rfl rfl rfl rfl ⟨_, rfl, rfl, T_r0, Nat.le_of_ble_eq_true rfl⟩ rfl rfl (Nat.le_of_ble_eq_true rfl) (Nat.le_of_ble_eq_true rfl) (Nat.le_of_ble_eq_true rfl) ?_
      rintro x101 _ _ ⟨o0x101, o1x101, p0x101, rfl, rfl⟩
      have p0x101 := p0x101 r0_1 R_r0_1
      have gx101 := rg x101
      try simp only [q100, e77, e78, e79, e80, e81, e82, e83, ex84, ex89] at p0x101
      try have q0x101 := congrArg Int32.toInt p0x101
      refine c_VI C (a_X12_times hI74 H_r0 (by omega) (by omega) (by omega) (by omega)) rfl rfl rfl rfl rfl ⟨_, rfl, rfl, T_r0, Nat.le_of_ble_eq_true rfl⟩ rfl rfl (Nat.le_of_ble_eq_true rfl) (Nat.le_of_ble_eq_true rfl) (Nat.le_of_ble_eq_true rfl) ?_
      rintro x102 _ _ ⟨o0x102, o1x102, p0x102, p1x102, p2x102, p3x102, rfl, rfl⟩
      have p0x102 := p0x102 r0_1 R_r0_1
      have p2x102 := p2x102 r0_1 R_r0_1
      have p3x102 := p3x102 r0_1 R_r0_1
      have gx102 := rg x102
      try simp only [e77, e78, e79, e80, e81, e82, e83, ex84, ex89] at p0x102
      try have q0x102 := congrArg Int32.toInt p0x102
      try simp only [e77, e78, e79, e80, e81, e82, e83, ex84, ex89] at p1x102
      try have q1x102 := congrArg Int32.toInt p1x102
      try simp only [e77, e78, e79, e80, e81, e82, e83, ex84, ex89] at p2x102
      try have q2x102 := congrArg Int32.toInt p2x102
      try simp only [e77, e78, e79, e80, e81, e82, e83, ex84, ex89] at p3x102
      try have q3x102 := congrArg Int32.toInt p3x102
      refine c_VI C (a_X12_plus_e hI74 H_r0 (by omega) (by omega) (by omega) (by omega)) rfl rfl rfl rfl rfl ⟨_, rfl, rfl, T_r0, Nat.le_of_ble_eq_true rfl⟩ rfl rfl (Nat.le_of_ble_eq_true rfl) (Nat.le_of_ble_eq_true rfl) (Nat.le_of_ble_eq_true rfl) ?_
      rintro x103 _ _ ⟨o0x103, o1x103, p0x103, p1x103, p2x103, p3x103, rfl, rfl⟩
      have p0x103 := p0x103 r0_1 R_r0_1
      have p2x103 := p2x103 r0_1 R_r0_1
      have p3x103 := p3x103 r0_1 R_r0_1
      have gx103 := rg x103
      try simp only [e77, e78, e79, e80, e81, e82, e83, ex84, ex89] at p0x103
      try have q0x103 := congrArg Int32.toInt p0x103
      try simp only [e77, e78, e79, e80, e81, e82, e83, ex84, ex89] at p1x103
      try have q1x103 := congrArg Int32.toInt p1x103
      try simp only [e77, e78, e79, e80, e81, e82, e83, ex84, ex89] at p2x103
      try have q2x103 := congrArg Int32.toInt p2x103
      try simp only [e77, e78, e79, e80, e81, e82, e83, ex84, ex89] at p3x103
      try have q3x103 := congrArg Int32.toInt p3x103
      refine k_istore C (lw := [(4, .int x103), (3, .int x94), (0, .ref r0), (1, .int n1), (2, .int n2)]) rfl rfl (Nat.le_of_ble_eq_true rfl) rfl ?_
      refine k_aload_n C rfl rfl rfl ?_
      refine k_aload_n C rfl rfl rfl ?_
      refine k_aload_n C rfl rfl rfl ?_
      refine z_gI C rfl rfl rfl T_r0 rfl (fun x104 ex104 => ?_)
      have gx104 := rg x104
      have ox104 := IM.f8 hI74 ex104
      refine k_aload_n C rfl rfl rfl ?_
      refine k_iload_n C rfl rfl rfl ?_
      refine z_iconst C (z := 0) rfl rfl rfl (fun x105 ex105 => ?_)
      have q106 : x105.toNatClampNeg = 0 := nck (by omega)
      refine c_VI C (a_X12_ofTable hI74 H_r0 (by omega) (by omega) (by omega) (by omega)) rfl rfl rfl rfl rfl ⟨_, rfl, rfl, T_r0, Nat.le_of_ble_eq_true rfl⟩ rfl rfl (Nat.le_of_ble_eq_true rfl) (Nat.le_of_ble_eq_true rfl) (Nat.le_of_ble_eq_true rfl) ?_
      rintro x107 _ _ ⟨o0x107, o1x107, p0x107, rfl, rfl⟩
      have p0x107 := p0x107 r0_1 R_r0_1
      have gx107 := rg x107
      try simp only [q106, e77, e78, e79, e80, e81, e82, e83, ex84, ex89, ex104] at p0x107
      try have q0x107 := congrArg Int32.toInt p0x107
      refine c_VI C (a_X12_times hI74 H_r0 (by omega) (by omega) (by omega) (by omega)) rfl rfl rfl rfl rfl ⟨_, rfl, rfl, T_r0, Nat.le_of_ble_eq_true rfl⟩ rfl rfl (Nat.le_of_ble_eq_true rfl) (Nat.le_of_ble_eq_true rfl) (Nat.le_of_ble_eq_true rfl) ?_
      rintro x108 _ _ ⟨o0x108, o1x108, p0x108, p1x108, p2x108, p3x108, rfl, rfl⟩
      have p0x108 := p0x108 r0_1 R_r0_1
      have p2x108 := p2x108 r0_1 R_r0_1
      have p3x108 := p3x108 r0_1 R_r0_1
      have gx108 := rg x108
      try simp only [e77, e78, e79, e80, e81, e82, e83, ex84, ex89, ex104] at p0x108
      try have q0x108 := congrArg Int32.toInt p0x108
      try simp only [e77, e78, e79, e80, e81, e82, e83, ex84, ex89, ex104] at p1x108
      try have q1x108 := congrArg Int32.toInt p1x108
      try simp only [e77, e78, e79, e80, e81, e82, e83, ex84, ex89, ex104] at p2x108
      try have q2x108 := congrArg Int32.toInt p2x108
      try simp only [e77, e78, e79, e80, e81, e82, e83, ex84, ex89, ex104] at p3x108
      try have q3x108 := congrArg Int32.toInt p3x108
      refine k_aload_n C rfl rfl rfl ?_
      refine k_aload_n C rfl rfl rfl ?_
      refine z_gI C rfl rfl rfl T_r0 rfl (fun x109 ex109 => ?_)
      have gx109 := rg x109
      have ox109 := IM.f9 hI74 ex109
      refine k_aload_n C rfl rfl rfl ?_
      refine k_iload_n C rfl rfl rfl ?_
      refine z_iconst C (z := 2) rfl rfl rfl (fun x110 ex110 => ?_)
      have q111 : x110.toNatClampNeg = 2 := nck (by omega)
      refine c_VI C (a_X12_ofTable hI74 H_r0 (by omega) (by omega) (by omega) (by omega)) rfl rfl rfl rfl rfl ⟨_, rfl, rfl, T_r0, Nat.le_of_ble_eq_true rfl⟩ rfl rfl (Nat.le_of_ble_eq_true rfl) (Nat.le_of_ble_eq_true rfl) (Nat.le_of_ble_eq_true rfl) ?_
      rintro x112 _ _ ⟨o0x112, o1x112, p0x112, rfl, rfl⟩
      have p0x112 := p0x112 r0_1 R_r0_1
      have gx112 := rg x112
      try simp only [q111, e77, e78, e79, e80, e81, e82, e83, ex84, ex89, ex104, ex109] at p0x112
      try have q0x112 := congrArg Int32.toInt p0x112
      refine c_VI C (a_X12_times hI74 H_r0 (by omega) (by omega) (by omega) (by omega)) rfl rfl rfl rfl rfl ⟨_, rfl, rfl, T_r0, Nat.le_of_ble_eq_true rfl⟩ rfl rfl (Nat.le_of_ble_eq_true rfl) (Nat.le_of_ble_eq_true rfl) (Nat.le_of_ble_eq_true rfl) ?_
      rintro x113 _ _ ⟨o0x113, o1x113, p0x113, p1x113, p2x113, p3x113, rfl, rfl⟩
      have p0x113 := p0x113 r0_1 R_r0_1
      have p2x113 := p2x113 r0_1 R_r0_1
      have p3x113 := p3x113 r0_1 R_r0_1
      have gx113 := rg x113
      try simp only [e77, e78, e79, e80, e81, e82, e83, ex84, ex89, ex104, ex109] at p0x113
      try have q0x113 := congrArg Int32.toInt p0x113
      try simp only [e77, e78, e79, e80, e81, e82, e83, ex84, ex89, ex104, ex109] at p1x113
      try have q1x113 := congrArg Int32.toInt p1x113
      try simp only [e77, e78, e79, e80, e81, e82, e83, ex84, ex89, ex104, ex109] at p2x113
      try have q2x113 := congrArg Int32.toInt p2x113
      try simp only [e77, e78, e79, e80, e81, e82, e83, ex84, ex89, ex104, ex109] at p3x113
      try have q3x113 := congrArg Int32.toInt p3x113
      refine c_VI C (a_X12_plus_e hI74 H_r0 (by omega) (by omega) (by omega) (by omega)) rfl rfl rfl rfl rfl ⟨_, rfl, rfl, T_r0, Nat.le_of_ble_eq_true rfl⟩ rfl rfl (Nat.le_of_ble_eq_true rfl) (Nat.le_of_ble_eq_true rfl) (Nat.le_of_ble_eq_true rfl) ?_
      rintro x114 _ _ ⟨o0x114, o1x114, p0x114, p1x114, p2x114, p3x114, rfl, rfl⟩
      have p0x114 := p0x114 r0_1 R_r0_1
      have p2x114 := p2x114 r0_1 R_r0_1
      have p3x114 := p3x114 r0_1 R_r0_1
      have gx114 := rg x114
      try simp only [e77, e78, e79, e80, e81, e82, e83, ex84, ex89, ex104, ex109] at p0x114
      try have q0x114 := congrArg Int32.toInt p0x114
      try simp only [e77, e78, e79, e80, e81, e82, e83, ex84, ex89, ex104, ex109] at p1x114
      try have q1x114 := congrArg Int32.toInt p1x114
      try simp only [e77, e78, e79, e80, e81, e82, e83, ex84, ex89, ex104, ex109] at p2x114
      try have q2x114 := congrArg Int32.toInt p2x114
      try simp only [e77, e78, e79, e80, e81, e82, e83, ex84, ex89, ex104, ex109] at p3x114
      try have q3x114 := congrArg Int32.toInt p3x114
      refine k_istore C (lw := [(5, .int x114), (4, .int x103), (3, .int x94), (0, .ref r0), (1, .int n1), (2, .int n2)]) rfl rfl (Nat.le_of_ble_eq_true rfl) rfl ?_
      refine k_aload_n C rfl rfl rfl ?_
      refine k_aload_n C rfl rfl rfl ?_
      refine k_aload_n C rfl rfl rfl ?_
      refine g_I C rfl rfl rfl T_r0 rfl ex104 ?_
      refine k_aload_n C rfl rfl rfl ?_
      refine k_iload_n C rfl rfl rfl ?_
      refine z_iconst C (z := 1) rfl rfl rfl (fun x115 ex115 => ?_)
      have q116 : x115.toNatClampNeg = 1 := nck (by omega)
      refine c_VI C (a_X12_ofTable hI74 H_r0 (by omega) (by omega) (by omega) (by omega)) rfl rfl rfl rfl rfl ⟨_, rfl, rfl, T_r0, Nat.le_of_ble_eq_true rfl⟩ rfl rfl (Nat.le_of_ble_eq_true rfl) (Nat.le_of_ble_eq_true rfl) (Nat.le_of_ble_eq_true rfl) ?_
      rintro x117 _ _ ⟨o0x117, o1x117, p0x117, rfl, rfl⟩
      have p0x117 := p0x117 r0_1 R_r0_1
      have gx117 := rg x117
      try simp only [q116, e77, e78, e79, e80, e81, e82, e83, ex84, ex89, ex104, ex109] at p0x117
      try have q0x117 := congrArg Int32.toInt p0x117
      refine c_VI C (a_X12_times hI74 H_r0 (by omega) (by omega) (by omega) (by omega)) rfl rfl rfl rfl rfl ⟨_, rfl, rfl, T_r0, Nat.le_of_ble_eq_true rfl⟩ rfl rfl (Nat.le_of_ble_eq_true rfl) (Nat.le_of_ble_eq_true rfl) (Nat.le_of_ble_eq_true rfl) ?_
      rintro x118 _ _ ⟨o0x118, o1x118, p0x118, p1x118, p2x118, p3x118, rfl, rfl⟩
      have p0x118 := p0x118 r0_1 R_r0_1
      have p2x118 := p2x118 r0_1 R_r0_1
      have p3x118 := p3x118 r0_1 R_r0_1
      have gx118 := rg x118
      try simp only [e77, e78, e79, e80, e81, e82, e83, ex84, ex89, ex104, ex109] at p0x118
      try have q0x118 := congrArg Int32.toInt p0x118
      try simp only [e77, e78, e79, e80, e81, e82, e83, ex84, ex89, ex104, ex109] at p1x118
      try have q1x118 := congrArg Int32.toInt p1x118
      try simp only [e77, e78, e79, e80, e81, e82, e83, ex84, ex89, ex104, ex109] at p2x118
      try have q2x118 := congrArg Int32.toInt p2x118
      try simp only [e77, e78, e79, e80, e81, e82, e83, ex84, ex89, ex104, ex109] at p3x118
      try have q3x118 := congrArg Int32.toInt p3x118
      refine k_aload_n C rfl rfl rfl ?_
      refine k_aload_n C rfl rfl rfl ?_
      refine g_I C rfl rfl rfl T_r0 rfl ex109 ?_
      refine k_aload_n C rfl rfl rfl ?_
      refine k_iload_n C rfl rfl rfl ?_
      refine z_iconst C (z := 3) rfl rfl rfl (fun x119 ex119 => ?_)
      have q120 : x119.toNatClampNeg = 3 := nck (by omega)
      refine c_VI C (a_X12_ofTable hI74 H_r0 (by omega) (by omega) (by omega) (by omega)) rfl rfl rfl rfl rfl ⟨_, rfl, rfl, T_r0, Nat.le_of_ble_eq_true rfl⟩ rfl rfl (Nat.le_of_ble_eq_true rfl) (Nat.le_of_ble_eq_true rfl) (Nat.le_of_ble_eq_true rfl) ?_
      rintro x121 _ _ ⟨o0x121, o1x121, p0x121, rfl, rfl⟩
      have p0x121 := p0x121 r0_1 R_r0_1
      have gx121 := rg x121
      try simp only [q120, e77, e78, e79, e80, e81, e82, e83, ex84, ex89, ex104, ex109] at p0x121
      try have q0x121 := congrArg Int32.toInt p0x121
      refine c_VI C (a_X12_times hI74 H_r0 (by omega) (by omega) (by omega) (by omega)) rfl rfl rfl rfl rfl ⟨_, rfl, rfl, T_r0, Nat.le_of_ble_eq_true rfl⟩ rfl rfl (Nat.le_of_ble_eq_true rfl) (Nat.le_of_ble_eq_true rfl) (Nat.le_of_ble_eq_true rfl) ?_
      rintro x122 _ _ ⟨o0x122, o1x122, p0x122, p1x122, p2x122, p3x122, rfl, rfl⟩
      have p0x122 := p0x122 r0_1 R_r0_1
      have p2x122 := p2x122 r0_1 R_r0_1
      have p3x122 := p3x122 r0_1 R_r0_1
      have gx122 := rg x122
      try simp only [e77, e78, e79, e80, e81, e82, e83, ex84, ex89, ex104, ex109] at p0x122
      try have q0x122 := congrArg Int32.toInt p0x122
      try simp only [e77, e78, e79, e80, e81, e82, e83, ex84, ex89, ex104, ex109] at p1x122
      try have q1x122 := congrArg Int32.toInt p1x122
      try simp only [e77, e78, e79, e80, e81, e82, e83, ex84, ex89, ex104, ex109] at p2x122
      try have q2x122 := congrArg Int32.toInt p2x122
      try simp only [e77, e78, e79, e80, e81, e82, e83, ex84, ex89, ex104, ex109] at p3x122
      try have q3x122 := congrArg Int32.toInt p3x122
      refine c_VI C (a_X12_plus_e hI74 H_r0 (by omega) (by omega) (by omega) (by omega)) rfl rfl rfl rfl rfl ⟨_, rfl, rfl, T_r0, Nat.le_of_ble_eq_true rfl⟩ rfl rfl (Nat.le_of_ble_eq_true rfl) (Nat.le_of_ble_eq_true rfl) (Nat.le_of_ble_eq_true rfl) ?_
      rintro x123 _ _ ⟨o0x123, o1x123, p0x123, p1x123, p2x123, p3x123, rfl, rfl⟩
      have p0x123 := p0x123 r0_1 R_r0_1
      have p2x123 := p2x123 r0_1 R_r0_1
      have p3x123 := p3x123 r0_1 R_r0_1
      have gx123 := rg x123
      try simp only [e77, e78, e79, e80, e81, e82, e83, ex84, ex89, ex104, ex109] at p0x123
      try have q0x123 := congrArg Int32.toInt p0x123
      try simp only [e77, e78, e79, e80, e81, e82, e83, ex84, ex89, ex104, ex109] at p1x123
      try have q1x123 := congrArg Int32.toInt p1x123
      try simp only [e77, e78, e79, e80, e81, e82, e83, ex84, ex89, ex104, ex109] at p2x123
      try have q2x123 := congrArg Int32.toInt p2x123
      try simp only [e77, e78, e79, e80, e81, e82, e83, ex84, ex89, ex104, ex109] at p3x123
      try have q3x123 := congrArg Int32.toInt p3x123
      refine k_istore C (lw := [(6, .int x123), (5, .int x114), (4, .int x103), (3, .int x94), (0, .ref r0), (1, .int n1), (2, .int n2)]) rfl rfl (Nat.le_of_ble_eq_true rfl) rfl ?_
      refine k_aload_n C rfl rfl rfl ?_
      refine k_iload_n C rfl rfl rfl ?_
      refine k_iload C rfl rfl rfl ?_
      refine k_iload C rfl rfl rfl ?_
      refine k_iload C rfl rfl rfl ?_
      refine c_VV C (a_X12_takesTable_e hI74 H_r0 (by omega) (by omega) (by omega) (by omega) (by omega) (by omega) (by omega) (by omega)) rfl rfl rfl rfl rfl ⟨_, rfl, rfl, T_r0, Nat.le_of_ble_eq_true rfl⟩ rfl rfl (Nat.le_of_ble_eq_true rfl) (Nat.le_of_ble_eq_true rfl) (Nat.le_of_ble_eq_true rfl) ?_
      rintro I125 L126 ⟨p0v124, p1v124, p2v124, p3v124, hI125, S127⟩
      have e128 := CM.j S127 R_r0_1 (by decide) e77
      have e129 := CM.j S127 R_r0_1 (by decide) e78
      have e130 := CM.j S127 R_r0_1 (by decide) e79
      have e131 := CM.j S127 R_r0_1 (by decide) e80
      have e132 := CM.j S127 R_r0_1 (by decide) e81
      have e133 := CM.j S127 R_r0_1 (by decide) e82
      have e134 := CM.k S127 (by decide) e83
      obtain ⟨x139, e140⟩ : ∃ x, I125 r0 6 = x := ⟨_, rfl⟩
      have gx139 := rg x139
      have ox139 := IM.f6 hI125 e140
      obtain ⟨x141, e142⟩ : ∃ x, I125 r0 7 = x := ⟨_, rfl⟩
      have gx141 := rg x141
      have ox141 := IM.f7 hI125 e142
      obtain ⟨x143, e144⟩ : ∃ x, I125 r0 8 = x := ⟨_, rfl⟩
      have gx143 := rg x143
      have ox143 := IM.f8 hI125 e144
      obtain ⟨x145, e146⟩ : ∃ x, I125 r0 9 = x := ⟨_, rfl⟩
      have gx145 := rg x145
      have ox145 := IM.f9 hI125 e146
      try simp only [e77, e78, e79, e80, e81, e82, e83, ex84, ex89, ex104, ex109, e140, e142, e144, e146] at p0v124
      try have q0v124 := congrArg Int32.toInt p0v124
      try simp only [e77, e78, e79, e80, e81, e82, e83, ex84, ex89, ex104, ex109, e140, e142, e144, e146] at p1v124
      try have q1v124 := congrArg Int32.toInt p1v124
      try simp only [e77, e78, e79, e80, e81, e82, e83, ex84, ex89, ex104, ex109, e140, e142, e144, e146] at p2v124
      try have q2v124 := congrArg Int32.toInt p2v124
      try simp only [e77, e78, e79, e80, e81, e82, e83, ex84, ex89, ex104, ex109, e140, e142, e144, e146] at p3v124
      try have q3v124 := congrArg Int32.toInt p3v124
      refine k_aload_n C rfl rfl rfl ?_
      refine c_VI C (a_X12_lays_e hI125 H_r0 (fun a1 h1 => by cases (R_r0_1.symm.trans h1); first | omega | (simp only [e128, e129, e130, e131, e132, e133, e134, e140, e142, e144, e146, and_true, true_and, or_true, true_or, and_false, false_and, or_false, false_or] <;> omega))) rfl rfl rfl rfl rfl ⟨_, rfl, rfl, T_r0, Nat.le_of_ble_eq_true rfl⟩ rfl rfl (Nat.le_of_ble_eq_true rfl) (Nat.le_of_ble_eq_true rfl) (Nat.le_of_ble_eq_true rfl) ?_
      rintro x147 I148 L149 ⟨o0x147, o1x147, p0x147, p1x147, p2x147, p3x147, hI148, S150⟩
      have p0x147 := p0x147 r0_1 R_r0_1
      have p1x147 := p1x147 r0_1 R_r0_1
      have p2x147 := p2x147 r0_1 R_r0_1
      have p3x147 := p3x147 r0_1 R_r0_1
      have F151 : ∀ r : Nat, r ≠ 2 ∧ r < 166 → I148 r0_1 r = I125 r0_1 r := fun r z0 => p3x147 r z0
      have e152 := (p3x147 0 (by decide)).trans e128
      have e153 := (p3x147 1 (by decide)).trans e129
      have e155 := (p3x147 3 (by decide)).trans e131
      have e156 := (p3x147 4 (by decide)).trans e132
      have e157 := (p3x147 5 (by decide)).trans e133
      have e158 := CM.k S150 (by decide) e134
      have e159 := CM.k S150 (by decide) e140
      have e160 := CM.k S150 (by decide) e142
      have e161 := CM.k S150 (by decide) e144
      have e162 := CM.k S150 (by decide) e146
      have gx147 := rg x147
      obtain ⟨x163, e164⟩ : ∃ x, I148 r0_1 2 = x := ⟨_, rfl⟩
      have gx163 := rg x163
      have ox163 := IM.c2 hI148 R_r0_1 e164
      try simp only [e128, e129, e130, e131, e132, e133, e134, e140, e142, e144, e146, e164] at p0x147
      try have q0x147 := congrArg Int32.toInt p0x147
      try simp only [e128, e129, e130, e131, e132, e133, e134, e140, e142, e144, e146, e164] at p1x147
      try have q1x147 := congrArg Int32.toInt p1x147
      try simp only [e128, e129, e130, e131, e132, e133, e134, e140, e142, e144, e146, e164] at p2x147
      try have q2x147 := congrArg Int32.toInt p2x147
      exact k_iret C rfl (Or.inl rfl) (Nat.le_of_ble_eq_true rfl) (Nat.le_of_ble_eq_true rfl) ⟨_, _, _, rfl, rfl, by omega, by omega, fun a1 h1 => by cases (R_r0_1.symm.trans h1); first | omega | (simp only [e152, e153, e155, e156, e157, e158, e159, e160, e161, e162, e164, k0_r0_1_0, k0_r0_1_1, k0_r0_1_2, k0_r0_1_3, k0_r0_1_4, k0_r0_1_5, and_true, true_and, or_true, true_or, and_false, false_and, or_false, false_or] <;> omega), fun a1 h1 => by cases (R_r0_1.symm.trans h1); first | omega | (simp only [e152, e153, e155, e156, e157, e158, e159, e160, e161, e162, e164, k0_r0_1_0, k0_r0_1_1, k0_r0_1_2, k0_r0_1_3, k0_r0_1_4, k0_r0_1_5, and_true, true_and, or_true, true_or, and_false, false_and, or_false, false_or] <;> omega), fun a1 h1 => by cases (R_r0_1.symm.trans h1); exact (fun r z0 => ((F151 r z0).trans ((congrFun (CM.j0 S127 R_r0_1 (by decide)) r).trans ((congrFun (CM.j0 S76 R_r0_1 (by decide)) r).trans ((congrFun (CM.j0 S62 R_r0_1 (by decide)) r).trans ((congrFun (CM.j0 S41 R_r0_1 (by decide)) r).trans (congrFun (CM.j0 S3 R_r0_1 (by decide)) r))))))), hI148, (CM.cons S3 (CM.cons S41 (CM.cons S62 (CM.cons S76 (CM.cons S127 (CM.mono S150 (by decide) (by decide)) (by decide) (by decide)) (by decide) (by decide)) (by decide) (by decide)) (by decide) (by decide)) (by decide) (by decide))⟩
    refine z_iconst C (z := 1) rfl rfl rfl (fun x165 ex165 => ?_)
    refine k_goto C (pc2 := 51) rfl rfl ?_
    refine z_iconst C (z := 2) rfl rfl rfl (fun x166 ex166 => ?_)
    have q167 : x165.toNatClampNeg = 1 := nck (by omega)
    have q168 : x166.toNatClampNeg = 2 := nck (by omega)
    refine c_VI C (a_X12_throwsIf_e hI39 H_r0 (by omega) (by omega)) rfl rfl rfl rfl rfl ⟨_, rfl, rfl, T_r0, Nat.le_of_ble_eq_true rfl⟩ rfl rfl (Nat.le_of_ble_eq_true rfl) (Nat.le_of_ble_eq_true rfl) (Nat.le_of_ble_eq_true rfl) ?_
    rintro x169 I170 L171 ⟨o0x169, o1x169, p0x169, p1x169, hI170, S172⟩
    have e173 := CM.j S172 R_r0_1 (by decide) e42
    have e174 := CM.j S172 R_r0_1 (by decide) e43
    have e175 := CM.j S172 R_r0_1 (by decide) e44
    have e176 := CM.j S172 R_r0_1 (by decide) e45
    have e177 := CM.j S172 R_r0_1 (by decide) e46
    have e178 := CM.j S172 R_r0_1 (by decide) e47
    have gx169 := rg x169
    obtain ⟨x180, e181⟩ : ∃ x, I170 r0 0 = x := ⟨_, rfl⟩
    have gx180 := rg x180
    try simp only [q167, q168, e42, e43, e44, e45, e46, e47, e50, e181] at p0x169
    try have q0x169 := congrArg Int32.toInt p0x169
    try simp only [q167, q168, e42, e43, e44, e45, e46, e47, e50, e181] at p1x169
    try have q1x169 := congrArg Int32.toInt p1x169
    refine b_if_eq C (t := 60) rfl rfl rfl (fun c182 => by exfalso; omega) (fun c182 => ?_)
    refine z_iconst C (z := 0) rfl rfl rfl (fun x183 ex183 => ?_)
    exact k_iret C rfl (Or.inl rfl) (Nat.le_of_ble_eq_true rfl) (Nat.le_of_ble_eq_true rfl) ⟨_, _, _, rfl, rfl, by omega, by omega, fun a1 h1 => by cases (R_r0_1.symm.trans h1); first | omega | (simp only [e173, e174, e175, e176, e177, e178, e181, k0_r0_1_0, k0_r0_1_1, k0_r0_1_2, k0_r0_1_3, k0_r0_1_4, k0_r0_1_5, and_true, true_and, or_true, true_or, and_false, false_and, or_false, false_or] <;> omega), fun a1 h1 => by cases (R_r0_1.symm.trans h1); first | omega | (simp only [e173, e174, e175, e176, e177, e178, e181, k0_r0_1_0, k0_r0_1_1, k0_r0_1_2, k0_r0_1_3, k0_r0_1_4, k0_r0_1_5, and_true, true_and, or_true, true_or, and_false, false_and, or_false, false_or] <;> omega), fun a1 h1 => by cases (R_r0_1.symm.trans h1); exact (fun r z0 => ((congrFun (CM.j0 S172 R_r0_1 (by decide)) r).trans ((congrFun (CM.j0 S41 R_r0_1 (by decide)) r).trans (congrFun (CM.j0 S3 R_r0_1 (by decide)) r)))), hI170, (CM.cons S3 (CM.cons S41 (CM.mono S172 (by decide) (by decide)) (by decide) (by decide)) (by decide) (by decide))⟩
  refine z_iconst C (z := 1) rfl rfl rfl (fun x184 ex184 => ?_)
  refine k_goto C (pc2 := 27) rfl rfl ?_
  refine z_iconst C (z := 1) rfl rfl rfl (fun x185 ex185 => ?_)
  have q186 : x184.toNatClampNeg = 1 := nck (by omega)
  have q187 : x185.toNatClampNeg = 1 := nck (by omega)
  refine c_VI C (a_X12_throwsIf_e hI2 H_r0 (by omega) (by omega)) rfl rfl rfl rfl rfl ⟨_, rfl, rfl, T_r0, Nat.le_of_ble_eq_true rfl⟩ rfl rfl (Nat.le_of_ble_eq_true rfl) (Nat.le_of_ble_eq_true rfl) (Nat.le_of_ble_eq_true rfl) ?_
  rintro x188 I189 L190 ⟨o0x188, o1x188, p0x188, p1x188, hI189, S191⟩
  have e192 := CM.j S191 R_r0_1 (by decide) e4
  have e193 := CM.j S191 R_r0_1 (by decide) e5
  have e194 := CM.j S191 R_r0_1 (by decide) e6
  have e195 := CM.j S191 R_r0_1 (by decide) e7
  have e196 := CM.j S191 R_r0_1 (by decide) e8
  have e197 := CM.j S191 R_r0_1 (by decide) e9
  have gx188 := rg x188
  obtain ⟨x199, e200⟩ : ∃ x, I189 r0 0 = x := ⟨_, rfl⟩
  have gx199 := rg x199
  try simp only [q186, q187, e4, e5, e6, e7, e8, e9, e10, e200] at p0x188
  try have q0x188 := congrArg Int32.toInt p0x188
  try simp only [q186, q187, e4, e5, e6, e7, e8, e9, e10, e200] at p1x188
  try have q1x188 := congrArg Int32.toInt p1x188
  refine b_if_ne C (t := 58) rfl rfl rfl (fun c201 => ?_) (fun c201 => by exfalso; omega)
  refine z_iconst C (z := 0) rfl rfl rfl (fun x202 ex202 => ?_)
  exact k_iret C rfl (Or.inl rfl) (Nat.le_of_ble_eq_true rfl) (Nat.le_of_ble_eq_true rfl) ⟨_, _, _, rfl, rfl, by omega, by omega, fun a1 h1 => by cases (R_r0_1.symm.trans h1); first | omega | (simp only [e192, e193, e194, e195, e196, e197, e200, k0_r0_1_0, k0_r0_1_1, k0_r0_1_2, k0_r0_1_3, k0_r0_1_4, k0_r0_1_5, and_true, true_and, or_true, true_or, and_false, false_and, or_false, false_or] <;> omega), fun a1 h1 => by cases (R_r0_1.symm.trans h1); first | omega | (simp only [e192, e193, e194, e195, e196, e197, e200, k0_r0_1_0, k0_r0_1_1, k0_r0_1_2, k0_r0_1_3, k0_r0_1_4, k0_r0_1_5, and_true, true_and, or_true, true_or, and_false, false_and, or_false, false_or] <;> omega), fun a1 h1 => by cases (R_r0_1.symm.trans h1); exact (fun r z0 => ((congrFun (CM.j0 S191 R_r0_1 (by decide)) r).trans (congrFun (CM.j0 S3 R_r0_1 (by decide)) r))), hI189, (CM.cons S3 (CM.mono S191 (by decide) (by decide)) (by decide) (by decide))⟩

set_option maxHeartbeats 8000000 in
theorem a_X12_turn_e {d : Nat} {T N : Nat → Nat} {I : IT} {L : LT} {R : RT} {A : Nat → Prop} {r0 : Nat} {n1 : Int32} (hI : IM R r0 I) (H_r0 : (h_MD T N R A) r0) : Ex (d + 6) 238 [.ref r0, .int n1] (T, N, I, L, R) 0 0 (pI T N R (fun x9 I9 L9 => (-1 ≤ x9.toInt) ∧ (x9.toInt ≤ 7) ∧ (∀ a1, R r0 1 = some a1 → (I a1 4).toInt + (I a1 5).toInt ≤ 40 → (I9 a1 4).toInt + (I9 a1 5).toInt ≤ 40) ∧ (∀ a1, R r0 1 = some a1 → (n1.toInt < 0 ∨ (I a1 2).toInt ≤ n1.toInt) ∧ (I9 r0 0).toInt = 1 ∧ (I9 a1 2).toInt = (I a1 2).toInt ∨ ¬ (n1.toInt < 0 ∨ (I a1 2).toInt ≤ n1.toInt) ∧ (I a1 2).toInt = 8 ∧ (I9 r0 0).toInt = 2 ∧ (I9 a1 2).toInt = (I a1 2).toInt ∨ ¬ (n1.toInt < 0 ∨ (I a1 2).toInt ≤ n1.toInt) ∧ (I a1 2).toInt < 8 ∧ (I9 r0 0).toInt = 0 ∧ x9.toInt = (I a1 2).toInt ∧ (I9 a1 2).toInt = (I a1 2).toInt + 1) ∧ (∀ a1, R r0 1 = some a1 → ∀ r : Nat, r ≠ 2 ∧ r < 166 → I9 a1 r = I a1 r) ∧ (IM R r0 I9 ∧ CM A R r0 [0, 6, 7, 8, 9] [1] I L I9 L9))) := by
  refine ⟨_, rfl, Nat.le_of_ble_eq_true rfl, fun V C S => ?_⟩
  show V 0 [(0, .ref r0), (1, .int n1)] [] (T, N, I, L, R) 0 0
  have gn1 := rg n1
  obtain ⟨T_r0, A_r0, ⟨r0_1, R_r0_1, H_r0_1⟩, ⟨r0_2, R_r0_2, H_r0_2⟩, ⟨r0_4, R_r0_4, H_r0_4⟩, ⟨r0_5, R_r0_5, H_r0_5⟩, ⟨r0_10, R_r0_10, H_r0_10⟩, ⟨r0_18, R_r0_18, H_r0_18⟩, ⟨r0_20, R_r0_20, H_r0_20⟩, ⟨r0_21, R_r0_21, H_r0_21⟩, ⟨r0_22, R_r0_22, H_r0_22⟩, ⟨r0_23, R_r0_23, H_r0_23⟩, ⟨r0_25, R_r0_25, H_r0_25⟩, ⟨r0_26, R_r0_26, H_r0_26⟩, ⟨r0_27, R_r0_27, H_r0_27⟩, ⟨r0_28, R_r0_28, H_r0_28⟩, ⟨r0_34, R_r0_34, H_r0_34⟩, J_r0, Y_r0⟩ := id H_r0
  have G_r0 : mF T R r0 := ⟨J_r0, Y_r0, T_r0⟩
  obtain ⟨w_r0_1_0, k0_r0_1_0⟩ : ∃ x, I r0_1 0 = x := ⟨_, rfl⟩
  have gw_r0_1_0 := rg w_r0_1_0
  have ow_r0_1_0 := IM.pi hI R_r0_1 k0_r0_1_0
  obtain ⟨w_r0_1_1, k0_r0_1_1⟩ : ∃ x, I r0_1 1 = x := ⟨_, rfl⟩
  have gw_r0_1_1 := rg w_r0_1_1
  have ow_r0_1_1 := IM.c1 hI R_r0_1 k0_r0_1_1
  obtain ⟨w_r0_1_2, k0_r0_1_2⟩ : ∃ x, I r0_1 2 = x := ⟨_, rfl⟩
  have gw_r0_1_2 := rg w_r0_1_2
  have ow_r0_1_2 := IM.c2 hI R_r0_1 k0_r0_1_2
  obtain ⟨w_r0_1_3, k0_r0_1_3⟩ : ∃ x, I r0_1 3 = x := ⟨_, rfl⟩
  have gw_r0_1_3 := rg w_r0_1_3
  have ow_r0_1_3 := IM.c3 hI R_r0_1 k0_r0_1_3
  obtain ⟨w_r0_1_4, k0_r0_1_4⟩ : ∃ x, I r0_1 4 = x := ⟨_, rfl⟩
  have gw_r0_1_4 := rg w_r0_1_4
  have ow_r0_1_4 := IM.c4 hI R_r0_1 k0_r0_1_4
  obtain ⟨w_r0_1_5, k0_r0_1_5⟩ : ∃ x, I r0_1 5 = x := ⟨_, rfl⟩
  have gw_r0_1_5 := rg w_r0_1_5
  have ow_r0_1_5 := IM.c5 hI R_r0_1 k0_r0_1_5
  refine k_aload_n C rfl rfl rfl ?_
  refine z_iconst C (z := 0) rfl rfl rfl (fun x1 ex1 => ?_)
  refine z_pI C rfl rfl rfl T_r0 (Or.inr rfl) rfl (fun I2 uI2 => ?_)
  have hI2 : IM R r0 I2 := IM.fld hI G_r0 ⟨(fun h => absurd h (by decide)), (fun h => absurd h (by decide)), (fun h => absurd h (by decide)), (fun h => absurd h (by decide)), (fun h => absurd h (by decide))⟩ uI2
  have S3 : CM A R r0 [0] [] I L I2 L := CM.f G_r0 A_r0 uI2
  have e4 := u2_n uI2 (mF.ne G_r0 R_r0_1) k0_r0_1_0
  have e5 := u2_n uI2 (mF.ne G_r0 R_r0_1) k0_r0_1_1
  have e6 := u2_n uI2 (mF.ne G_r0 R_r0_1) k0_r0_1_2
  have e7 := u2_n uI2 (mF.ne G_r0 R_r0_1) k0_r0_1_3
  have e8 := u2_n uI2 (mF.ne G_r0 R_r0_1) k0_r0_1_4
  have e9 := u2_n uI2 (mF.ne G_r0 R_r0_1) k0_r0_1_5
  have e10 := u2_e uI2
  refine k_aload_n C rfl rfl rfl ?_
  refine k_aload_n C rfl rfl rfl ?_
  refine k_iload_n C rfl rfl rfl ?_
  refine c_VI C (a_X12_noTable_e hI2 H_r0) rfl rfl rfl rfl rfl ⟨_, rfl, rfl, T_r0, Nat.le_of_ble_eq_true rfl⟩ rfl rfl (Nat.le_of_ble_eq_true rfl) (Nat.le_of_ble_eq_true rfl) (Nat.le_of_ble_eq_true rfl) ?_
  rintro x11 _ _ ⟨o0x11, o1x11, p0x11, rfl, rfl⟩
  have p0x11 := p0x11 r0_1 R_r0_1
  have gx11 := rg x11
  try simp only [e4, e5, e6, e7, e8, e9, e10, e6] at p0x11
  try have q0x11 := congrArg Int32.toInt p0x11
  refine z_iconst C (z := 1) rfl rfl rfl (fun x12 ex12 => ?_)
  have q13 : x12.toNatClampNeg = 1 := nck (by omega)
  refine c_VI C (a_X12_throwsIf_e hI2 H_r0 (by omega) (by omega)) rfl rfl rfl rfl rfl ⟨_, rfl, rfl, T_r0, Nat.le_of_ble_eq_true rfl⟩ rfl rfl (Nat.le_of_ble_eq_true rfl) (Nat.le_of_ble_eq_true rfl) (Nat.le_of_ble_eq_true rfl) ?_
  rintro x14 I15 L16 ⟨o0x14, o1x14, p0x14, p1x14, hI15, S17⟩
  have e18 := CM.j S17 R_r0_1 (by decide) e4
  have e19 := CM.j S17 R_r0_1 (by decide) e5
  have e20 := CM.j S17 R_r0_1 (by decide) e6
  have e21 := CM.j S17 R_r0_1 (by decide) e7
  have e22 := CM.j S17 R_r0_1 (by decide) e8
  have e23 := CM.j S17 R_r0_1 (by decide) e9
  have gx14 := rg x14
  obtain ⟨x25, e26⟩ : ∃ x, I15 r0 0 = x := ⟨_, rfl⟩
  have gx25 := rg x25
  try simp only [q13, e4, e5, e6, e7, e8, e9, e10, e26] at p0x14
  try have q0x14 := congrArg Int32.toInt p0x14
  try simp only [q13, e4, e5, e6, e7, e8, e9, e10, e26] at p1x14
  try have q1x14 := congrArg Int32.toInt p1x14
  refine b_if_ne C (t := 42) rfl rfl rfl (fun c27 => ?_) (fun c27 => ?_)
  · skip
    refine z_iconst C (z := 0) rfl rfl rfl (fun x28 ex28 => ?_)
    exact k_iret C rfl (Or.inl rfl) (Nat.le_of_ble_eq_true rfl) (Nat.le_of_ble_eq_true rfl) ⟨_, _, _, rfl, rfl, by omega, by omega, fun a1 h1 => by cases (R_r0_1.symm.trans h1); first | omega | (simp only [e18, e19, e20, e21, e22, e23, e26, k0_r0_1_0, k0_r0_1_1, k0_r0_1_2, k0_r0_1_3, k0_r0_1_4, k0_r0_1_5, and_true, true_and, or_true, true_or, and_false, false_and, or_false, false_or] <;> omega), fun a1 h1 => by cases (R_r0_1.symm.trans h1); first | omega | (simp only [e18, e19, e20, e21, e22, e23, e26, k0_r0_1_0, k0_r0_1_1, k0_r0_1_2, k0_r0_1_3, k0_r0_1_4, k0_r0_1_5, and_true, true_and, or_true, true_or, and_false, false_and, or_false, false_or] <;> omega), fun a1 h1 => by cases (R_r0_1.symm.trans h1); exact (fun r z0 => ((congrFun (CM.j0 S17 R_r0_1 (by decide)) r).trans (congrFun (CM.j0 S3 R_r0_1 (by decide)) r))), hI15, (CM.cons S3 (CM.mono S17 (by decide) (by decide)) (by decide) (by decide))⟩
  refine k_aload_n C rfl rfl rfl ?_
  refine k_aload_n C rfl rfl rfl ?_
  refine g_R C rfl rfl rfl T_r0 rfl R_r0_1 ?_
  refine z_iconst C (z := 2) rfl rfl rfl (fun x29 ex29 => ?_)
  obtain ⟨T_r0_1, N_r0_1, A_r0_1⟩ := id H_r0_1
  refine a_I C rfl rfl T_r0_1 (by rw [N_r0_1]; exact vpi (by omega) (by omega)) ((congrArg (I15 r0_1) (nck (n := 2) (by omega))).trans e20) ?_
  refine z_bipush C (z := 8) rfl rfl rfl (fun x30 ex30 => ?_)
  refine b_icmp_ne C (t := 34) rfl rfl rfl (fun c31 => ?_) (fun c31 => ?_)
  · skip
    refine z_iconst C (z := 0) rfl rfl rfl (fun x32 ex32 => ?_)
    refine z_iconst C (z := 2) rfl rfl rfl (fun x33 ex33 => ?_)
    have q34 : x32.toNatClampNeg = 0 := nck (by omega)
    have q35 : x33.toNatClampNeg = 2 := nck (by omega)
    refine c_VI C (a_X12_throwsIf_e hI15 H_r0 (by omega) (by omega)) rfl rfl rfl rfl rfl ⟨_, rfl, rfl, T_r0, Nat.le_of_ble_eq_true rfl⟩ rfl rfl (Nat.le_of_ble_eq_true rfl) (Nat.le_of_ble_eq_true rfl) (Nat.le_of_ble_eq_true rfl) ?_
    rintro x36 I37 L38 ⟨o0x36, o1x36, p0x36, p1x36, hI37, S39⟩
    have e40 := CM.j S39 R_r0_1 (by decide) e18
    have e41 := CM.j S39 R_r0_1 (by decide) e19
    have e42 := CM.j S39 R_r0_1 (by decide) e20
    have e43 := CM.j S39 R_r0_1 (by decide) e21
    have e44 := CM.j S39 R_r0_1 (by decide) e22
    have e45 := CM.j S39 R_r0_1 (by decide) e23
    have gx36 := rg x36
    obtain ⟨x47, e48⟩ : ∃ x, I37 r0 0 = x := ⟨_, rfl⟩
    have gx47 := rg x47
    try simp only [q34, q35, e18, e19, e20, e21, e22, e23, e26, e48] at p0x36
    try have q0x36 := congrArg Int32.toInt p0x36
    try simp only [q34, q35, e18, e19, e20, e21, e22, e23, e26, e48] at p1x36
    try have q1x36 := congrArg Int32.toInt p1x36
    refine b_if_eq C (t := 44) rfl rfl rfl (fun c49 => ?_) (fun c49 => by exfalso; omega)
    refine k_aload_n C rfl rfl rfl ?_
    refine k_iload_n C rfl rfl rfl ?_
    refine c_VV C (a_X12_tables hI37 H_r0 (by omega) (by omega)) rfl rfl rfl rfl rfl ⟨_, rfl, rfl, T_r0, Nat.le_of_ble_eq_true rfl⟩ rfl rfl (Nat.le_of_ble_eq_true rfl) (Nat.le_of_ble_eq_true rfl) (Nat.le_of_ble_eq_true rfl) ?_
    rintro I51 L52 ⟨hI51, S53⟩
    have e54 := CM.j S53 R_r0_1 (by decide) e40
    have e55 := CM.j S53 R_r0_1 (by decide) e41
    have e56 := CM.j S53 R_r0_1 (by decide) e42
    have e57 := CM.j S53 R_r0_1 (by decide) e43
    have e58 := CM.j S53 R_r0_1 (by decide) e44
    have e59 := CM.j S53 R_r0_1 (by decide) e45
    have e60 := CM.k S53 (by decide) e48
    refine k_aload_n C rfl rfl rfl ?_
    refine c_VV C (a_X12_turnsBack hI51 H_r0) rfl rfl rfl rfl rfl ⟨_, rfl, rfl, T_r0, Nat.le_of_ble_eq_true rfl⟩ rfl rfl (Nat.le_of_ble_eq_true rfl) (Nat.le_of_ble_eq_true rfl) (Nat.le_of_ble_eq_true rfl) ?_
    rintro I62 L63 ⟨hI62, S64⟩
    have e65 := CM.j S64 R_r0_1 (by decide) e54
    have e66 := CM.j S64 R_r0_1 (by decide) e55
    have e67 := CM.j S64 R_r0_1 (by decide) e56
    have e68 := CM.j S64 R_r0_1 (by decide) e57
    have e69 := CM.j S64 R_r0_1 (by decide) e58
    have e70 := CM.j S64 R_r0_1 (by decide) e59
    have e71 := CM.k S64 (by decide) e60
    refine k_aload_n C rfl rfl rfl ?_
    refine c_VI C (a_X12_lays_e hI62 H_r0 (fun a1 h1 => by cases (R_r0_1.symm.trans h1); first | omega | (simp only [e65, e66, e67, e68, e69, e70, e71, and_true, true_and, or_true, true_or, and_false, false_and, or_false, false_or] <;> omega))) rfl rfl rfl rfl rfl ⟨_, rfl, rfl, T_r0, Nat.le_of_ble_eq_true rfl⟩ rfl rfl (Nat.le_of_ble_eq_true rfl) (Nat.le_of_ble_eq_true rfl) (Nat.le_of_ble_eq_true rfl) ?_
    rintro x72 I73 L74 ⟨o0x72, o1x72, p0x72, p1x72, p2x72, p3x72, hI73, S75⟩
    have p0x72 := p0x72 r0_1 R_r0_1
    have p1x72 := p1x72 r0_1 R_r0_1
    have p2x72 := p2x72 r0_1 R_r0_1
    have p3x72 := p3x72 r0_1 R_r0_1
    have F76 : ∀ r : Nat, r ≠ 2 ∧ r < 166 → I73 r0_1 r = I62 r0_1 r := fun r z0 => p3x72 r z0
    have e77 := (p3x72 0 (by decide)).trans e65
    have e78 := (p3x72 1 (by decide)).trans e66
    have e80 := (p3x72 3 (by decide)).trans e68
    have e81 := (p3x72 4 (by decide)).trans e69
    have e82 := (p3x72 5 (by decide)).trans e70
    have e83 := CM.k S75 (by decide) e71
    have gx72 := rg x72
    obtain ⟨x84, e85⟩ : ∃ x, I73 r0_1 2 = x := ⟨_, rfl⟩
    have gx84 := rg x84
    have ox84 := IM.c2 hI73 R_r0_1 e85
    try simp only [e65, e66, e67, e68, e69, e70, e71, e85] at p0x72
    try have q0x72 := congrArg Int32.toInt p0x72
    try simp only [e65, e66, e67, e68, e69, e70, e71, e85] at p1x72
    try have q1x72 := congrArg Int32.toInt p1x72
    try simp only [e65, e66, e67, e68, e69, e70, e71, e85] at p2x72
    try have q2x72 := congrArg Int32.toInt p2x72
    exact k_iret C rfl (Or.inl rfl) (Nat.le_of_ble_eq_true rfl) (Nat.le_of_ble_eq_true rfl) ⟨_, _, _, rfl, rfl, by omega, by omega, fun a1 h1 => by cases (R_r0_1.symm.trans h1); first | omega | (simp only [e77, e78, e80, e81, e82, e83, e85, k0_r0_1_0, k0_r0_1_1, k0_r0_1_2, k0_r0_1_3, k0_r0_1_4, k0_r0_1_5, and_true, true_and, or_true, true_or, and_false, false_and, or_false, false_or] <;> omega), fun a1 h1 => by cases (R_r0_1.symm.trans h1); first | omega | (simp only [e77, e78, e80, e81, e82, e83, e85, k0_r0_1_0, k0_r0_1_1, k0_r0_1_2, k0_r0_1_3, k0_r0_1_4, k0_r0_1_5, and_true, true_and, or_true, true_or, and_false, false_and, or_false, false_or] <;> omega), fun a1 h1 => by cases (R_r0_1.symm.trans h1); exact (fun r z0 => ((F76 r z0).trans ((congrFun (CM.j0 S64 R_r0_1 (by decide)) r).trans ((congrFun (CM.j0 S53 R_r0_1 (by decide)) r).trans ((congrFun (CM.j0 S39 R_r0_1 (by decide)) r).trans ((congrFun (CM.j0 S17 R_r0_1 (by decide)) r).trans (congrFun (CM.j0 S3 R_r0_1 (by decide)) r))))))), hI73, (CM.cons S3 (CM.cons S17 (CM.cons S39 (CM.cons S53 (CM.cons S64 (CM.mono S75 (by decide) (by decide)) (by decide) (by decide)) (by decide) (by decide)) (by decide) (by decide)) (by decide) (by decide)) (by decide) (by decide))⟩
  refine z_iconst C (z := 1) rfl rfl rfl (fun x86 ex86 => ?_)
  refine k_goto C (pc2 := 35) rfl rfl ?_
  refine z_iconst C (z := 2) rfl rfl rfl (fun x87 ex87 => ?_)
  have q88 : x86.toNatClampNeg = 1 := nck (by omega)
  have q89 : x87.toNatClampNeg = 2 := nck (by omega)
  refine c_VI C (a_X12_throwsIf_e hI15 H_r0 (by omega) (by omega)) rfl rfl rfl rfl rfl ⟨_, rfl, rfl, T_r0, Nat.le_of_ble_eq_true rfl⟩ rfl rfl (Nat.le_of_ble_eq_true rfl) (Nat.le_of_ble_eq_true rfl) (Nat.le_of_ble_eq_true rfl) ?_
  rintro x90 I91 L92 ⟨o0x90, o1x90, p0x90, p1x90, hI91, S93⟩
  have e94 := CM.j S93 R_r0_1 (by decide) e18
  have e95 := CM.j S93 R_r0_1 (by decide) e19
  have e96 := CM.j S93 R_r0_1 (by decide) e20
  have e97 := CM.j S93 R_r0_1 (by decide) e21
  have e98 := CM.j S93 R_r0_1 (by decide) e22
  have e99 := CM.j S93 R_r0_1 (by decide) e23
  have gx90 := rg x90
  obtain ⟨x101, e102⟩ : ∃ x, I91 r0 0 = x := ⟨_, rfl⟩
  have gx101 := rg x101
  try simp only [q88, q89, e18, e19, e20, e21, e22, e23, e26, e102] at p0x90
  try have q0x90 := congrArg Int32.toInt p0x90
  try simp only [q88, q89, e18, e19, e20, e21, e22, e23, e26, e102] at p1x90
  try have q1x90 := congrArg Int32.toInt p1x90
  refine b_if_eq C (t := 44) rfl rfl rfl (fun c103 => by exfalso; omega) (fun c103 => ?_)
  refine z_iconst C (z := 0) rfl rfl rfl (fun x104 ex104 => ?_)
  exact k_iret C rfl (Or.inl rfl) (Nat.le_of_ble_eq_true rfl) (Nat.le_of_ble_eq_true rfl) ⟨_, _, _, rfl, rfl, by omega, by omega, fun a1 h1 => by cases (R_r0_1.symm.trans h1); first | omega | (simp only [e94, e95, e96, e97, e98, e99, e102, k0_r0_1_0, k0_r0_1_1, k0_r0_1_2, k0_r0_1_3, k0_r0_1_4, k0_r0_1_5, and_true, true_and, or_true, true_or, and_false, false_and, or_false, false_or] <;> omega), fun a1 h1 => by cases (R_r0_1.symm.trans h1); first | omega | (simp only [e94, e95, e96, e97, e98, e99, e102, k0_r0_1_0, k0_r0_1_1, k0_r0_1_2, k0_r0_1_3, k0_r0_1_4, k0_r0_1_5, and_true, true_and, or_true, true_or, and_false, false_and, or_false, false_or] <;> omega), fun a1 h1 => by cases (R_r0_1.symm.trans h1); exact (fun r z0 => ((congrFun (CM.j0 S93 R_r0_1 (by decide)) r).trans ((congrFun (CM.j0 S17 R_r0_1 (by decide)) r).trans (congrFun (CM.j0 S3 R_r0_1 (by decide)) r)))), hI91, (CM.cons S3 (CM.cons S17 (CM.mono S93 (by decide) (by decide)) (by decide) (by decide)) (by decide) (by decide))⟩

theorem a_X12_image_e {d : Nat} {T N : Nat → Nat} {I : IT} {L : LT} {R : RT} {A : Nat → Prop} {r0 : Nat} (hI : IM R r0 I) (H_r0 : (h_MD T N R A) r0) (hp0 : ∀ a1, R r0 1 = some a1 → (I a1 4).toInt + (I a1 5).toInt ≤ 40) : Ex (d + 1) 181 [.ref r0] (T, N, I, L, R) 0 0 (pV T N R (fun I9 L9 => (∀ a2, R r0 2 = some a2 → WOS (I9 a2)) ∧ ((I9 r0 3).toInt = 1) ∧ (∀ a1 a2, R r0 1 = some a1 → R r0 2 = some a2 → CPA I9 I a2 a1) ∧ (IM R r0 I9 ∧ CM A R r0 [0, 3] [2] I L I9 L9))) := by
  refine ⟨_, rfl, Nat.le_of_ble_eq_true rfl, fun V C S => ?_⟩
  show V 0 [(0, .ref r0)] [] (T, N, I, L, R) 0 0
  obtain ⟨T_r0, A_r0, ⟨r0_1, R_r0_1, H_r0_1⟩, ⟨r0_2, R_r0_2, H_r0_2⟩, ⟨r0_4, R_r0_4, H_r0_4⟩, ⟨r0_5, R_r0_5, H_r0_5⟩, ⟨r0_10, R_r0_10, H_r0_10⟩, ⟨r0_18, R_r0_18, H_r0_18⟩, ⟨r0_20, R_r0_20, H_r0_20⟩, ⟨r0_21, R_r0_21, H_r0_21⟩, ⟨r0_22, R_r0_22, H_r0_22⟩, ⟨r0_23, R_r0_23, H_r0_23⟩, ⟨r0_25, R_r0_25, H_r0_25⟩, ⟨r0_26, R_r0_26, H_r0_26⟩, ⟨r0_27, R_r0_27, H_r0_27⟩, ⟨r0_28, R_r0_28, H_r0_28⟩, ⟨r0_34, R_r0_34, H_r0_34⟩, J_r0, Y_r0⟩ := id H_r0
  have G_r0 : mF T R r0 := ⟨J_r0, Y_r0, T_r0⟩
  obtain ⟨w_r0_1_4, k0_r0_1_4⟩ : ∃ x, I r0_1 4 = x := ⟨_, rfl⟩
  have gw_r0_1_4 := rg w_r0_1_4
  have ow_r0_1_4 := IM.c4 hI R_r0_1 k0_r0_1_4
  obtain ⟨w_r0_1_5, k0_r0_1_5⟩ : ∃ x, I r0_1 5 = x := ⟨_, rfl⟩
  have gw_r0_1_5 := rg w_r0_1_5
  have ow_r0_1_5 := IM.c5 hI R_r0_1 k0_r0_1_5
  have hp0 := hp0 r0_1 R_r0_1
  try simp only [k0_r0_1_4, k0_r0_1_5] at hp0
  refine k_aload_n C rfl rfl rfl ?_
  refine z_iconst C (z := 0) rfl rfl rfl (fun x1 ex1 => ?_)
  refine z_pI C rfl rfl rfl T_r0 (Or.inr rfl) rfl (fun I2 uI2 => ?_)
  have hI2 : IM R r0 I2 := IM.fld hI G_r0 ⟨(fun h => absurd h (by decide)), (fun h => absurd h (by decide)), (fun h => absurd h (by decide)), (fun h => absurd h (by decide)), (fun h => absurd h (by decide))⟩ uI2
  have S3 : CM A R r0 [0] [] I L I2 L := CM.f G_r0 A_r0 uI2
  have e4 := u2_n uI2 (mF.ne G_r0 R_r0_1) k0_r0_1_4
  have e5 := u2_n uI2 (mF.ne G_r0 R_r0_1) k0_r0_1_5
  have e6 := u2_e uI2
  refine z_iconst C (z := 0) rfl rfl rfl (fun x7 ex7 => ?_)
  have J8 : ∀ (nn9 : Nat) (I10 : IT) (L11 : LT) (x12 : Int32), ((3606 - x12.toInt).toNat = nn9) → (IM R r0 I10) → (CM A R r0 [] [2] I2 L I10 L11) → (0 ≤ x12.toInt) → (x12.toInt ≤ 3606) → (CPW I10 r0_1 r0_2 x12.toInt) → V 7 [(0, .ref r0), (1, .int x12)] [] (T, N, I10, L11, R) 0 0 := by
    intro nn9
    induction nn9 using Nat.strongRecOn with
    | _ nn9 ihJ8 =>
      intro I10 L11 x12 hmnn9 hI16 S15 b13 b14 ff7_0
      have gx12 := rg x12
      have e17 := CM.j S15 R_r0_1 (by decide) e4
      have e18 := CM.j S15 R_r0_1 (by decide) e5
      have e19 := CM.k S15 (by decide) e6
      refine k_iload_n C rfl rfl rfl ?_
      refine z_sipush C (z := 3606) rfl rfl rfl (fun x20 ex20 => ?_)
      refine b_icmp_ge C (t := 32) rfl rfl rfl (fun c21 => ?_) (fun c21 => ?_)
      · skip
        refine k_aload_n C rfl rfl rfl ?_
        refine z_iconst C (z := 1) rfl rfl rfl (fun x22 ex22 => ?_)
        refine z_pZ C rfl rfl rfl T_r0 (Or.inr rfl) rfl (z01 (by omega) (by omega)) (fun I23 uI23 => ?_)
        have hI23 : IM R r0 I23 := IM.fld hI16 G_r0 ⟨(fun h => absurd h (by decide)), (fun h => absurd h (by decide)), (fun h => absurd h (by decide)), (fun h => absurd h (by decide)), (fun h => absurd h (by decide))⟩ uI23
        have S24 : CM A R r0 [3] [] I10 L11 I23 L11 := CM.f G_r0 A_r0 uI23
        have e25 := u2_n uI23 (mF.ne G_r0 R_r0_1) e17
        have e26 := u2_n uI23 (mF.ne G_r0 R_r0_1) e18
        have e27 := u2_j uI23 (by first | decide | exact ncne (by omega) (by omega) (by omega) | exact nckn (by omega) (by omega) | exact (nckn (by omega) (by omega)).symm) e19
        have e28 := u2_e uI23
        exact k_vret C rfl rfl (Nat.le_of_ble_eq_true rfl) (Nat.le_of_ble_eq_true rfl) ⟨_, _, rfl, rfl, fun a2 h2 => by cases (R_r0_2.symm.trans h2); exact WOS.eq (g := I23 r0_1) ⟨IM.w hI23 R_r0_1, by rw [e25, e26]; omega⟩ (fun k hk => by rw [CM.j0 S24 R_r0_2 (by decide), CM.j0 S24 R_r0_1 (by decide)]; exact ff7_0 k (by omega)), by first | omega | (simp only [e25, e26, e27, e28, k0_r0_1_4, k0_r0_1_5, and_true, true_and, or_true, true_or, and_false, false_and, or_false, false_or] <;> omega), fun a1 a2 h1 h2 => by cases (R_r0_1.symm.trans h1); cases (R_r0_2.symm.trans h2); exact CPA.of (fun k hk => by rw [CM.j0 S24 R_r0_2 (by decide), CM.j0 S24 R_r0_1 (by decide)]; exact ff7_0 k hk) (n := x12.toInt) (by omega) (CM.j0 (I := I) (L := L) (I' := I23) (L' := L11) (A := A) (W := [0, 3]) (WA := [2]) (CM.cons S3 (CM.cons S15 (CM.mono S24 (by decide) (by decide)) (by decide) (by decide)) (by decide) (by decide)) R_r0_1 (by decide)), hI23, (CM.cons S3 (CM.cons S15 (CM.mono S24 (by decide) (by decide)) (by decide) (by decide)) (by decide) (by decide))⟩
      refine k_aload_n C rfl rfl rfl ?_
      refine g_R C rfl rfl rfl T_r0 rfl R_r0_2 ?_
      refine k_iload_n C rfl rfl rfl ?_
      refine k_aload_n C rfl rfl rfl ?_
      refine g_R C rfl rfl rfl T_r0 rfl R_r0_1 ?_
      refine k_iload_n C rfl rfl rfl ?_
      obtain ⟨T_r0_1, N_r0_1, A_r0_1⟩ := id H_r0_1
      refine z_aI C rfl rfl T_r0_1 N_r0_1 (by omega) (by omega) (fun x29 ex29 => ?_)
      have gx29 := rg x29
      have hr := ex29
      obtain ⟨T_r0_2, N_r0_2, A_r0_2⟩ := id H_r0_2
      refine z_sI C rfl rfl T_r0_2 N_r0_2 (by omega) (by omega) (fun I30 uI30 => ?_)
      have hI30 : IM R r0 I30 := IM.arr hI16 G_r0 R_r0_2 ⟨(fun h => absurd h (by decide)), (fun h => absurd h (by decide)), (fun h => absurd h (by decide))⟩ (fun h => absurd h (by decide)) uI30
      have S31 : CM A R r0 [] [2] I10 L11 I30 L11 := CM.a G_r0 R_r0_2 A_r0_2 uI30
      have e32 := u2_n uI30 (mF.nq G_r0 R_r0_1 R_r0_2 (by decide)) e17
      have e33 := u2_n uI30 (mF.nq G_r0 R_r0_1 R_r0_2 (by decide)) e18
      have e34 := u2_n uI30 (fun e => (mF.ne G_r0 R_r0_2) e.symm) e19
      have e35 := u2_n uI30 (mF.nq G_r0 R_r0_1 R_r0_2 (by decide)) ex29
      have e36 := u2_e uI30
      have hu := uI30
      refine z_iinc C (z := 1) (lw := fun x37 => [(1, .int x37), (0, .ref r0)]) rfl rfl rfl (Nat.le_of_ble_eq_true rfl) rfl ⟨by omega, by omega⟩ (fun _ => rfl) (fun x37 ex37 => ?_)
      show V 29 [(1, .int x37), (0, .ref r0)] _ _ _ _
      refine k_goto C (pc2 := 7) rfl rfl ?_
      refine k_sub S [(0, .ref r0), (1, .int x37)] (List.forall_mem_cons.mpr ⟨List.mem_of_getElem? (i := 1) rfl, List.forall_mem_cons.mpr ⟨List.mem_of_getElem? (i := 0) rfl, fun _ h => nomatch h⟩⟩) ?_
      exact ihJ8 _ (by omega) I30 L11 x37 rfl hI30 (CM.cons S15 (CM.mono S31 (by decide) (by decide)) (by decide) (by decide)) (by omega) (by omega) (by exact CPW.s ff7_0 hu (mF.nq G_r0 R_r0_1 R_r0_2 (by decide)) hr (by omega) (by omega))
  refine k_istore_n C (lw := [(1, .int x7), (0, .ref r0)]) rfl rfl (Nat.le_of_ble_eq_true rfl) rfl ?_
  refine k_sub S [(0, .ref r0), (1, .int x7)] (List.forall_mem_cons.mpr ⟨List.mem_of_getElem? (i := 1) rfl, List.forall_mem_cons.mpr ⟨List.mem_of_getElem? (i := 0) rfl, fun _ h => nomatch h⟩⟩) ?_
  exact J8 _ I2 L x7 rfl hI2 CM.rf (by omega) (by omega) (by exact CPW.z (by omega))

theorem a_X12_back_e {d : Nat} {T N : Nat → Nat} {I : IT} {L : LT} {R : RT} {A : Nat → Prop} {r0 : Nat} (hI : IM R r0 I) (H_r0 : (h_MD T N R A) r0) (hp0 : ∀ a1, R r0 1 = some a1 → (I a1 4).toInt + (I a1 5).toInt ≤ 40) (hp1 : ∀ a2, R r0 2 = some a2 → (I r0 3).toInt ≠ 0 → WOS (I a2)) : Ex (d + 1) 182 [.ref r0] (T, N, I, L, R) 0 0 (pI T N R (fun x9 I9 L9 => (0 ≤ x9.toInt) ∧ (x9.toInt ≤ 1) ∧ (∀ a1, R r0 1 = some a1 → (I9 a1 4).toInt + (I9 a1 5).toInt ≤ 40) ∧ (∀ a1 a2, R r0 1 = some a1 → R r0 2 = some a2 → BKD I9 I a1 a2 x9.toInt (I r0 3).toInt) ∧ (IM R r0 I9 ∧ CM A R r0 [0] [1] I L I9 L9))) := by
  refine ⟨_, rfl, Nat.le_of_ble_eq_true rfl, fun V C S => ?_⟩
  show V 0 [(0, .ref r0)] [] (T, N, I, L, R) 0 0
  obtain ⟨T_r0, A_r0, ⟨r0_1, R_r0_1, H_r0_1⟩, ⟨r0_2, R_r0_2, H_r0_2⟩, ⟨r0_4, R_r0_4, H_r0_4⟩, ⟨r0_5, R_r0_5, H_r0_5⟩, ⟨r0_10, R_r0_10, H_r0_10⟩, ⟨r0_18, R_r0_18, H_r0_18⟩, ⟨r0_20, R_r0_20, H_r0_20⟩, ⟨r0_21, R_r0_21, H_r0_21⟩, ⟨r0_22, R_r0_22, H_r0_22⟩, ⟨r0_23, R_r0_23, H_r0_23⟩, ⟨r0_25, R_r0_25, H_r0_25⟩, ⟨r0_26, R_r0_26, H_r0_26⟩, ⟨r0_27, R_r0_27, H_r0_27⟩, ⟨r0_28, R_r0_28, H_r0_28⟩, ⟨r0_34, R_r0_34, H_r0_34⟩, J_r0, Y_r0⟩ := id H_r0
  have G_r0 : mF T R r0 := ⟨J_r0, Y_r0, T_r0⟩
  obtain ⟨w_r0_1_4, k0_r0_1_4⟩ : ∃ x, I r0_1 4 = x := ⟨_, rfl⟩
  have gw_r0_1_4 := rg w_r0_1_4
  have ow_r0_1_4 := IM.c4 hI R_r0_1 k0_r0_1_4
  obtain ⟨w_r0_1_5, k0_r0_1_5⟩ : ∃ x, I r0_1 5 = x := ⟨_, rfl⟩
  have gw_r0_1_5 := rg w_r0_1_5
  have ow_r0_1_5 := IM.c5 hI R_r0_1 k0_r0_1_5
  obtain ⟨w_r0_3, k0_r0_3⟩ : ∃ x, I r0 3 = x := ⟨_, rfl⟩
  have gw_r0_3 := rg w_r0_3
  have hp0 := hp0 r0_1 R_r0_1
  have hp1 := hp1 r0_2 R_r0_2
  try simp only [k0_r0_1_4, k0_r0_1_5, k0_r0_3] at hp0
  try simp only [k0_r0_1_4, k0_r0_1_5, k0_r0_3] at hp1
  refine k_aload_n C rfl rfl rfl ?_
  refine z_iconst C (z := 0) rfl rfl rfl (fun x1 ex1 => ?_)
  refine z_pI C rfl rfl rfl T_r0 (Or.inr rfl) rfl (fun I2 uI2 => ?_)
  have hI2 : TT R r0 I2 := TT.i
  have S3 : CM A R r0 [0] [] I L I2 L := CM.f G_r0 A_r0 uI2
  have e4 := u2_n uI2 (mF.ne G_r0 R_r0_1) k0_r0_1_4
  have e5 := u2_n uI2 (mF.ne G_r0 R_r0_1) k0_r0_1_5
  have e6 := u2_j uI2 (by first | decide | exact ncne (by omega) (by omega) (by omega) | exact nckn (by omega) (by omega) | exact (nckn (by omega) (by omega)).symm) k0_r0_3
  have e7 := u2_e uI2
  refine k_aload_n C rfl rfl rfl ?_
  refine g_I C rfl rfl rfl T_r0 rfl e6 ?_
  refine b_if_ne C (t := 14) rfl rfl rfl (fun c8 => ?_) (fun c8 => ?_)
  · skip
    refine z_iconst C (z := 0) rfl rfl rfl (fun x9 ex9 => ?_)
    have J10 : ∀ (nn11 : Nat) (I12 : IT) (L13 : LT) (x14 : Int32), ((3606 - x14.toInt).toNat = nn11) → (TT R r0 I12) → (CM A R r0 [] [1] I2 L I12 L13) → (0 ≤ x14.toInt) → (x14.toInt ≤ 3606) → (CPW I12 r0_2 r0_1 x14.toInt) → V 16 [(0, .ref r0), (1, .int x14)] [] (T, N, I12, L13, R) 0 0 := by
      intro nn11
      induction nn11 using Nat.strongRecOn with
      | _ nn11 ihJ10 =>
        intro I12 L13 x14 hmnn11 hI18 S17 b15 b16 ff16_0
        have gx14 := rg x14
        have e19 := CM.k S17 (by decide) e6
        have e20 := CM.k S17 (by decide) e7
        refine k_iload_n C rfl rfl rfl ?_
        refine z_sipush C (z := 3606) rfl rfl rfl (fun x21 ex21 => ?_)
        refine b_icmp_ge C (t := 41) rfl rfl rfl (fun c22 => ?_) (fun c22 => ?_)
        · skip
          refine z_iconst C (z := 1) rfl rfl rfl (fun x23 ex23 => ?_)
          exact k_iret C rfl (Or.inr ⟨rfl, z01 (by omega) (by omega)⟩) (Nat.le_of_ble_eq_true rfl) (Nat.le_of_ble_eq_true rfl) ⟨_, _, _, rfl, rfl, by omega, by omega, fun a1 h1 => by cases (R_r0_1.symm.trans h1); rw [ff16_0 4 (by omega), ff16_0 5 (by omega), (CM.j0 (I := I) (L := L) (I' := I12) (L' := L13) (A := A) (W := [0]) (WA := [1]) (CM.cons S3 (CM.mono S17 (by decide) (by decide)) (by decide) (by decide)) R_r0_2 (by decide))]; exact (hp1 (by omega)).2, fun a1 a2 h1 h2 => by cases (R_r0_1.symm.trans h1); cases (R_r0_2.symm.trans h2); simp only [k0_r0_3]; exact Or.inr ⟨by omega, by omega, CPA.of ff16_0 (by omega) (CM.j0 (I := I) (L := L) (I' := I12) (L' := L13) (A := A) (W := [0]) (WA := [1]) (CM.cons S3 (CM.mono S17 (by decide) (by decide)) (by decide) (by decide)) R_r0_2 (by decide))⟩, IM.bk hI (CM.cons S3 (CM.mono S17 (by decide) (by decide)) (by decide) (by decide)) R_r0_1 (WOK.eq (g := I12 r0_2) (by rw [(CM.j0 (I := I) (L := L) (I' := I12) (L' := L13) (A := A) (W := [0]) (WA := [1]) (CM.cons S3 (CM.mono S17 (by decide) (by decide)) (by decide) (by decide)) R_r0_2 (by decide))]; exact (hp1 (by omega)).1) (fun k hk => ff16_0 k (by omega))), (CM.cons S3 (CM.mono S17 (by decide) (by decide)) (by decide) (by decide))⟩
        refine k_aload_n C rfl rfl rfl ?_
        refine g_R C rfl rfl rfl T_r0 rfl R_r0_1 ?_
        refine k_iload_n C rfl rfl rfl ?_
        refine k_aload_n C rfl rfl rfl ?_
        refine g_R C rfl rfl rfl T_r0 rfl R_r0_2 ?_
        refine k_iload_n C rfl rfl rfl ?_
        obtain ⟨T_r0_2, N_r0_2, A_r0_2⟩ := id H_r0_2
        refine z_aI C rfl rfl T_r0_2 N_r0_2 (by omega) (by omega) (fun x24 ex24 => ?_)
        have gx24 := rg x24
        have hr := ex24
        obtain ⟨T_r0_1, N_r0_1, A_r0_1⟩ := id H_r0_1
        refine z_sI C rfl rfl T_r0_1 N_r0_1 (by omega) (by omega) (fun I25 uI25 => ?_)
        have hI25 : TT R r0 I25 := TT.i
        have S26 : CM A R r0 [] [1] I12 L13 I25 L13 := CM.a G_r0 R_r0_1 A_r0_1 uI25
        have e27 := u2_n uI25 (fun e => (mF.ne G_r0 R_r0_1) e.symm) e19
        have e28 := u2_n uI25 (fun e => (mF.ne G_r0 R_r0_1) e.symm) e20
        have e29 := u2_n uI25 (mF.nq G_r0 R_r0_2 R_r0_1 (by decide)) ex24
        have e30 := u2_e uI25
        have hu := uI25
        refine z_iinc C (z := 1) (lw := fun x31 => [(1, .int x31), (0, .ref r0)]) rfl rfl rfl (Nat.le_of_ble_eq_true rfl) rfl ⟨by omega, by omega⟩ (fun _ => rfl) (fun x31 ex31 => ?_)
        show V 38 [(1, .int x31), (0, .ref r0)] _ _ _ _
        refine k_goto C (pc2 := 16) rfl rfl ?_
        refine k_sub S [(0, .ref r0), (1, .int x31)] (List.forall_mem_cons.mpr ⟨List.mem_of_getElem? (i := 1) rfl, List.forall_mem_cons.mpr ⟨List.mem_of_getElem? (i := 0) rfl, fun _ h => nomatch h⟩⟩) ?_
        exact ihJ10 _ (by omega) I25 L13 x31 rfl TT.i (CM.cons S17 (CM.mono S26 (by decide) (by decide)) (by decide) (by decide)) (by omega) (by omega) (by exact CPW.s ff16_0 hu (mF.nq G_r0 R_r0_2 R_r0_1 (by decide)) hr (by omega) (by omega))
    refine k_istore_n C (lw := [(1, .int x9), (0, .ref r0)]) rfl rfl (Nat.le_of_ble_eq_true rfl) rfl ?_
    refine k_sub S [(0, .ref r0), (1, .int x9)] (List.forall_mem_cons.mpr ⟨List.mem_of_getElem? (i := 1) rfl, List.forall_mem_cons.mpr ⟨List.mem_of_getElem? (i := 0) rfl, fun _ h => nomatch h⟩⟩) ?_
    exact J10 _ I2 L x9 rfl TT.i CM.rf (by omega) (by omega) (by exact CPW.z (by omega))
  refine z_iconst C (z := 0) rfl rfl rfl (fun x32 ex32 => ?_)
  exact k_iret C rfl (Or.inr ⟨rfl, z01 (by omega) (by omega)⟩) (Nat.le_of_ble_eq_true rfl) (Nat.le_of_ble_eq_true rfl) ⟨_, _, _, rfl, rfl, by omega, by omega, fun a1 h1 => by cases (R_r0_1.symm.trans h1); first | omega | (simp only [e4, e5, e6, e7, k0_r0_1_4, k0_r0_1_5, k0_r0_3, and_true, true_and, or_true, true_or, and_false, false_and, or_false, false_or] <;> omega), fun a1 a2 h1 h2 => by cases (R_r0_1.symm.trans h1); cases (R_r0_2.symm.trans h2); simp only [k0_r0_3]; exact Or.inl ⟨by omega, by omega, CPA.rf (CM.j0 S3 R_r0_1 (by decide))⟩, IM.bk hI (CM.mono S3 (by decide) (by decide)) R_r0_1 (by rw [CM.j0 S3 R_r0_1 (by decide)]; exact IM.w hI R_r0_1), (CM.mono S3 (by decide) (by decide))⟩

theorem a_X12_mixesForm_e {d : Nat} {T N : Nat → Nat} {I : IT} {L : LT} {R : RT} {A : Nat → Prop} {r0 : Nat} {n1 : Int32} (hI : IM R r0 I) (H_r0 : (h_MD T N R A) r0) (b0_n1 : 0 ≤ n1.toInt) (b1_n1 : n1.toInt ≤ 15) : Ex (d + 5) 243 [.ref r0, .int n1] (T, N, I, L, R) 0 0 (pI T N R (fun x9 I9 L9 => (0 ≤ x9.toInt) ∧ (x9.toInt ≤ 1) ∧ (∀ a1, R r0 1 = some a1 → (I a1 4).toInt + (I a1 5).toInt ≤ 40 → (I9 a1 4).toInt + (I9 a1 5).toInt ≤ 40) ∧ (∀ a1, R r0 1 = some a1 → ∀ r : Nat, r < 4 → I9 a1 r = I a1 r) ∧ (IM R r0 I9 ∧ CM A R r0 [] [1, 4, 5] I L I9 L9))) := by
  refine ⟨_, rfl, Nat.le_of_ble_eq_true rfl, fun V C S => ?_⟩
  show V 0 [(0, .ref r0), (1, .int n1)] [] (T, N, I, L, R) 0 0
  have gn1 := rg n1
  obtain ⟨T_r0, A_r0, ⟨r0_1, R_r0_1, H_r0_1⟩, ⟨r0_2, R_r0_2, H_r0_2⟩, ⟨r0_4, R_r0_4, H_r0_4⟩, ⟨r0_5, R_r0_5, H_r0_5⟩, ⟨r0_10, R_r0_10, H_r0_10⟩, ⟨r0_18, R_r0_18, H_r0_18⟩, ⟨r0_20, R_r0_20, H_r0_20⟩, ⟨r0_21, R_r0_21, H_r0_21⟩, ⟨r0_22, R_r0_22, H_r0_22⟩, ⟨r0_23, R_r0_23, H_r0_23⟩, ⟨r0_25, R_r0_25, H_r0_25⟩, ⟨r0_26, R_r0_26, H_r0_26⟩, ⟨r0_27, R_r0_27, H_r0_27⟩, ⟨r0_28, R_r0_28, H_r0_28⟩, ⟨r0_34, R_r0_34, H_r0_34⟩, J_r0, Y_r0⟩ := id H_r0
  have G_r0 : mF T R r0 := ⟨J_r0, Y_r0, T_r0⟩
  obtain ⟨w_r0_1_4, k0_r0_1_4⟩ : ∃ x, I r0_1 4 = x := ⟨_, rfl⟩
  have gw_r0_1_4 := rg w_r0_1_4
  have ow_r0_1_4 := IM.c4 hI R_r0_1 k0_r0_1_4
  obtain ⟨w_r0_1_5, k0_r0_1_5⟩ : ∃ x, I r0_1 5 = x := ⟨_, rfl⟩
  have gw_r0_1_5 := rg w_r0_1_5
  have ow_r0_1_5 := IM.c5 hI R_r0_1 k0_r0_1_5
  obtain ⟨w_r0_1_0, k0_r0_1_0⟩ : ∃ x, I r0_1 0 = x := ⟨_, rfl⟩
  have gw_r0_1_0 := rg w_r0_1_0
  have ow_r0_1_0 := IM.pi hI R_r0_1 k0_r0_1_0
  refine k_aload_n C rfl rfl rfl ?_
  refine z_bipush C (z := 40) rfl rfl rfl (fun x1 ex1 => ?_)
  refine k_iload_n C rfl rfl rfl ?_
  obtain ⟨x2, e3⟩ : ∃ x, I r0_1 (6 + 10 * n1.toNatClampNeg) = x := ⟨_, rfl⟩
  have gx2 := rg x2
  obtain ⟨x4, e5⟩ : ∃ x, I r0_1 1 = x := ⟨_, rfl⟩
  have gx4 := rg x4
  have ox4 := IM.c1 hI R_r0_1 e5
  have q6 : x1.toNatClampNeg = 40 := nck (by omega)
  refine c_VV C (a_X12_takes_e hI H_r0 (by omega) (by omega) (by omega) (by omega)) rfl rfl rfl rfl rfl ⟨_, rfl, rfl, T_r0, Nat.le_of_ble_eq_true rfl⟩ rfl rfl (Nat.le_of_ble_eq_true rfl) (Nat.le_of_ble_eq_true rfl) (Nat.le_of_ble_eq_true rfl) ?_
  rintro I8 L9 ⟨p0v7, p1v7, p2v7, p3v7, p4v7, p5v7, hI8, S10⟩
  have p0v7 := p0v7 r0_4 R_r0_4
  have p1v7 := p1v7 r0_1 r0_4 R_r0_1 R_r0_4
  have p2v7 := p2v7 r0_1 r0_4 r0_5 R_r0_1 R_r0_4 R_r0_5
  have p3v7 := p3v7 r0_1 r0_4 r0_5 R_r0_1 R_r0_4 R_r0_5
  have p4v7 := p4v7 r0_4 R_r0_4
  have p5v7 := p5v7 r0_5 R_r0_5
  try simp only [q6] at p4v7
  try simp only [q6] at p5v7
  have e11 := CM.j S10 R_r0_1 (by decide) k0_r0_1_4
  have e12 := CM.j S10 R_r0_1 (by decide) k0_r0_1_5
  have e13 := CM.j S10 R_r0_1 (by decide) k0_r0_1_0
  have e14 := CM.j S10 R_r0_1 (by decide) e3
  have e15 := CM.j S10 R_r0_1 (by decide) e5
  obtain ⟨x16, e17⟩ : ∃ x, I8 r0_4 40 = x := ⟨_, rfl⟩
  have gx16 := rg x16
  have ox16 := IM.dgR hI8 R_r0_4 e17
  try simp only [q6, k0_r0_1_4, k0_r0_1_5, k0_r0_1_0, e3, e5, e17] at p0v7
  try have q0v7 := congrArg Int32.toInt p0v7
  try simp only [q6, k0_r0_1_4, k0_r0_1_5, k0_r0_1_0, e3, e5, e17] at p1v7
  try have q1v7 := congrArg Int32.toInt p1v7
  try simp only [q6, k0_r0_1_4, k0_r0_1_5, k0_r0_1_0, e3, e5, e17] at p2v7
  try have q2v7 := congrArg Int32.toInt p2v7
  try simp only [q6, k0_r0_1_4, k0_r0_1_5, k0_r0_1_0, e3, e5, e17] at p3v7
  try have q3v7 := congrArg Int32.toInt p3v7
  refine k_aload_n C rfl rfl rfl ?_
  refine z_bipush C (z := 40) rfl rfl rfl (fun x18 ex18 => ?_)
  refine z_bipush C (z := 41) rfl rfl rfl (fun x19 ex19 => ?_)
  obtain ⟨x20, e21⟩ : ∃ x, I8 r0 6 = x := ⟨_, rfl⟩
  have gx20 := rg x20
  have ox20 := IM.f6 hI8 e21
  obtain ⟨x22, e23⟩ : ∃ x, I8 r0 7 = x := ⟨_, rfl⟩
  have gx22 := rg x22
  have ox22 := IM.f7 hI8 e23
  obtain ⟨x24, e25⟩ : ∃ x, I8 r0 8 = x := ⟨_, rfl⟩
  have gx24 := rg x24
  have ox24 := IM.f8 hI8 e25
  obtain ⟨x26, e27⟩ : ∃ x, I8 r0 9 = x := ⟨_, rfl⟩
  have gx26 := rg x26
  have ox26 := IM.f9 hI8 e27
  have q28 : x18.toNatClampNeg = 40 := nck (by omega)
  have q29 : x19.toNatClampNeg = 41 := nck (by omega)
  refine c_VV C (a_X12_mixes_e hI8 H_r0 (by omega) (by omega) (by omega) (by omega) (by first | omega | (simp only [q28, q29, e11, e12, e13, e14, e15, e17, e21, e23, e25, e27, and_true, true_and, or_true, true_or, and_false, false_and, or_false, false_or] <;> omega))) rfl rfl rfl rfl rfl ⟨_, rfl, rfl, T_r0, Nat.le_of_ble_eq_true rfl⟩ rfl rfl (Nat.le_of_ble_eq_true rfl) (Nat.le_of_ble_eq_true rfl) (Nat.le_of_ble_eq_true rfl) ?_
  rintro I31 L32 ⟨p0v30, p1v30, p2v30, p3v30, p4v30, hI31, S33⟩
  have p0v30 := p0v30 r0_4 R_r0_4
  have p1v30 := p1v30 r0_1 r0_4 r0_5 R_r0_1 R_r0_4 R_r0_5
  have p2v30 := p2v30 r0_1 r0_4 r0_5 R_r0_1 R_r0_4 R_r0_5
  have p3v30 := p3v30 r0_4 R_r0_4
  have p4v30 := p4v30 r0_5 R_r0_5
  try simp only [q28, q29] at p3v30
  try simp only [q28, q29] at p4v30
  have e34 := CM.j S33 R_r0_1 (by decide) e11
  have e35 := CM.j S33 R_r0_1 (by decide) e12
  have e36 := CM.j S33 R_r0_1 (by decide) e13
  have e37 := CM.j S33 R_r0_1 (by decide) e14
  have e38 := CM.j S33 R_r0_1 (by decide) e15
  have e39 := (p3v30 40 (by first | decide | exact ncne (by omega) (by omega) (by omega) | exact nckn (by omega) (by omega) | exact (nckn (by omega) (by omega)).symm) (by first | decide | exact ncne (by omega) (by omega) (by omega) | exact nckn (by omega) (by omega) | exact (nckn (by omega) (by omega)).symm)).trans e17
  have e40 := CM.k S33 (by decide) e21
  have e41 := CM.k S33 (by decide) e23
  have e42 := CM.k S33 (by decide) e25
  have e43 := CM.k S33 (by decide) e27
  obtain ⟨x44, e45⟩ : ∃ x, I31 r0_4 41 = x := ⟨_, rfl⟩
  have gx44 := rg x44
  have ox44 := IM.dgR hI31 R_r0_4 e45
  try simp only [q28, q29, e11, e12, e13, e14, e15, e17, e21, e23, e25, e27, e45] at p0v30
  try have q0v30 := congrArg Int32.toInt p0v30
  try simp only [q28, q29, e11, e12, e13, e14, e15, e17, e21, e23, e25, e27, e45] at p1v30
  try have q1v30 := congrArg Int32.toInt p1v30
  try simp only [q28, q29, e11, e12, e13, e14, e15, e17, e21, e23, e25, e27, e45] at p2v30
  try have q2v30 := congrArg Int32.toInt p2v30
  have hQ := p1v30
  refine z_iconst C (z := 0) rfl rfl rfl (fun x46 ex46 => ?_)
  have J47 : ∀ (nn48 : Nat) (I49 : IT) (L50 : LT) (x51 : Int32) (x57 : Int32) (x61 : Int32) (x65 : Int32), ((41 - x51.toInt).toNat = nn48) → (IM R r0 I49) → (CM A R r0 [] [1] I31 L32 I49 L50) → (∀ r : Nat, r < 4 → I49 r0_1 r = I31 r0_1 r) → (0 ≤ x51.toInt) → (x51.toInt ≤ 41) → (I49 r0_1 0 = x57) → (11 ≤ x57.toInt) → (x57.toInt ≤ 19) → (I49 r0_1 4 = x61) → (0 ≤ x61.toInt) → (x61.toInt ≤ 40) → (I49 r0_1 5 = x65) → (0 ≤ x65.toInt) → (x65.toInt ≤ 40) → (x57.toInt = w_r0_1_0.toInt) → (x61.toInt = w_r0_1_4.toInt) → (x65.toInt = w_r0_1_5.toInt) → (QN I49 r0_5 41 (x44.toInt + 1) w_r0_1_0.toInt) → V 17 [(0, .ref r0), (1, .int n1), (2, .int x51)] [] (T, N, I49, L50, R) 0 0 := by
    intro nn48
    induction nn48 using Nat.strongRecOn with
    | _ nn48 ihJ47 =>
      intro I49 L50 x51 x57 x61 x65 hmnn48 hI55 S54 F56 b52 b53 e58 b59 b60 e62 b63 b64 e66 b67 b68 ff17_0 ff17_1 ff17_2 ff17_3
      have gx51 := rg x51
      have gx57 := rg x57
      have gx61 := rg x61
      have gx65 := rg x65
      have e69 := CM.j S54 R_r0_4 (by decide) e39
      have e70 := CM.k S54 (by decide) e40
      have e71 := CM.k S54 (by decide) e41
      have e72 := CM.k S54 (by decide) e42
      have e73 := CM.k S54 (by decide) e43
      have e74 := CM.j S54 R_r0_4 (by decide) e45
      refine k_iload_n C rfl rfl rfl ?_
      refine k_aload_n C rfl rfl rfl ?_
      refine g_R C rfl rfl rfl T_r0 rfl R_r0_4 ?_
      refine z_bipush C (z := 41) rfl rfl rfl (fun x75 ex75 => ?_)
      obtain ⟨T_r0_4, N_r0_4, A_r0_4⟩ := id H_r0_4
      refine a_I C rfl rfl T_r0_4 (by rw [N_r0_4]; exact vpi (by omega) (by omega)) ((congrArg (I49 r0_4) (nck (n := 41) (by omega))).trans e74) ?_
      refine b_icmp_gt C (t := 54) rfl rfl rfl (fun c76 => ?_) (fun c76 => ?_)
      · skip
        refine k_aload_n C rfl rfl rfl ?_
        refine z_bipush C (z := 40) rfl rfl rfl (fun x77 ex77 => ?_)
        refine z_bipush C (z := 41) rfl rfl rfl (fun x78 ex78 => ?_)
        have q79 : x77.toNatClampNeg = 40 := nck (by omega)
        have q80 : x78.toNatClampNeg = 41 := nck (by omega)
        refine c_VI C (a_X12_isLike_e hI55 H_r0 (by omega) (by omega) (by omega) (by omega)) rfl rfl rfl rfl rfl ⟨_, rfl, rfl, T_r0, Nat.le_of_ble_eq_true rfl⟩ rfl rfl (Nat.le_of_ble_eq_true rfl) (Nat.le_of_ble_eq_true rfl) (Nat.le_of_ble_eq_true rfl) ?_
        rintro x81 _ _ ⟨o0x81, o1x81, p0x81, rfl, rfl⟩
        have p0x81 := p0x81 r0_4 r0_5 R_r0_4 R_r0_5
        have gx81 := rg x81
        try simp only [q79, q80, e69, e70, e71, e72, e73, e74, e58, e62, e66] at p0x81
        try have q0x81 := congrArg Int32.toInt p0x81
        refine b_if_ne C (t := 69) rfl rfl rfl (fun c82 => ?_) (fun c82 => ?_)
        · skip
          refine z_iconst C (z := 0) rfl rfl rfl (fun x83 ex83 => ?_)
          exact k_iret C rfl (Or.inr ⟨rfl, z01 (by omega) (by omega)⟩) (Nat.le_of_ble_eq_true rfl) (Nat.le_of_ble_eq_true rfl) ⟨_, _, _, rfl, rfl, by omega, by omega, fun a1 h1 => by cases (R_r0_1.symm.trans h1); first | omega | (simp only [e69, e70, e71, e72, e73, e74, e58, e62, e66, k0_r0_1_4, k0_r0_1_5, k0_r0_1_0, and_true, true_and, or_true, true_or, and_false, false_and, or_false, false_or] <;> omega), fun a1 h1 => by cases (R_r0_1.symm.trans h1); exact (fun r z0 => ((F56 r z0).trans ((congrFun (CM.j0 S33 R_r0_1 (by decide)) r).trans (congrFun (CM.j0 S10 R_r0_1 (by decide)) r)))), hI55, (CM.cons S10 (CM.cons S33 (CM.mono S54 (by decide) (by decide)) (by decide) (by decide)) (by decide) (by decide))⟩
        refine z_iconst C (z := 1) rfl rfl rfl (fun x84 ex84 => ?_)
        refine k_goto C (pc2 := 70) rfl rfl ?_
        exact k_iret C rfl (Or.inr ⟨rfl, z01 (by omega) (by omega)⟩) (Nat.le_of_ble_eq_true rfl) (Nat.le_of_ble_eq_true rfl) ⟨_, _, _, rfl, rfl, by omega, by omega, fun a1 h1 => by cases (R_r0_1.symm.trans h1); first | omega | (simp only [e69, e70, e71, e72, e73, e74, e58, e62, e66, k0_r0_1_4, k0_r0_1_5, k0_r0_1_0, and_true, true_and, or_true, true_or, and_false, false_and, or_false, false_or] <;> omega), fun a1 h1 => by cases (R_r0_1.symm.trans h1); exact (fun r z0 => ((F56 r z0).trans ((congrFun (CM.j0 S33 R_r0_1 (by decide)) r).trans (congrFun (CM.j0 S10 R_r0_1 (by decide)) r)))), hI55, (CM.cons S10 (CM.cons S33 (CM.mono S54 (by decide) (by decide)) (by decide) (by decide)) (by decide) (by decide))⟩
      refine k_aload_n C rfl rfl rfl ?_
      refine g_R C rfl rfl rfl T_r0 rfl R_r0_1 ?_
      refine k_iload_n C rfl rfl rfl ?_
      refine c_SI C (a_X12_formAt (by omega) (by omega)) rfl rfl rfl rfl rfl rfl rfl (Nat.le_of_ble_eq_true rfl) (Nat.le_of_ble_eq_true rfl) (Nat.le_of_ble_eq_true rfl) ?_
      rintro x85 _ _ ⟨o0x85, o1x85, p0x85, rfl, rfl⟩
      have gx85 := rg x85
      try simp only [e69, e70, e71, e72, e73, e74, e58, e62, e66] at p0x85
      try have q0x85 := congrArg Int32.toInt p0x85
      refine z_iconst C (z := 1) rfl rfl rfl (fun x86 ex86 => ?_)
      refine z_iadd C rfl rfl ⟨by omega, by omega⟩ (fun x87 ex87 => ?_)
      refine k_iload_n C rfl rfl rfl ?_
      refine z_iadd C rfl rfl ⟨by omega, by omega⟩ (fun x88 ex88 => ?_)
      refine k_aload_n C rfl rfl rfl ?_
      refine z_bipush C (z := 41) rfl rfl rfl (fun x89 ex89 => ?_)
      refine k_iload_n C rfl rfl rfl ?_
      have q90 : x89.toNatClampNeg = 41 := nck (by omega)
      refine c_VI C (a_X12_of hI55 H_r0 (by omega) (by omega) (by omega) (by omega)) rfl rfl rfl rfl rfl ⟨_, rfl, rfl, T_r0, Nat.le_of_ble_eq_true rfl⟩ rfl rfl (Nat.le_of_ble_eq_true rfl) (Nat.le_of_ble_eq_true rfl) (Nat.le_of_ble_eq_true rfl) ?_
      rintro x91 _ _ ⟨o0x91, o1x91, p0x91, rfl, rfl⟩
      have p0x91 := p0x91 r0_5 R_r0_5
      have gx91 := rg x91
      try simp only [q90, e69, e70, e71, e72, e73, e74, e58, e62, e66] at p0x91
      try have q0x91 := congrArg Int32.toInt p0x91
      have hO := p0x91
      have hb := ff17_3 x51.toNatClampNeg (by have := ncz (x := x51) (by omega); omega)
      obtain ⟨T_r0_1, N_r0_1, A_r0_1⟩ := id H_r0_1
      refine z_sI C rfl rfl T_r0_1 N_r0_1 (by omega) (by omega) (fun I92 uI92 => ?_)
      have hI92 : IM R r0 I92 := IM.arr hI55 G_r0 R_r0_1 ⟨(fun h => absurd h (by decide)), (fun h => absurd h (by decide)), (fun h => absurd h (by decide))⟩ (fun _ => WOK.num (IM.w hI55 R_r0_1) (f := n1) (k := x51) ⟨by omega, by omega⟩ ⟨by omega, by omega⟩ (by omega) (by rw [e58]; omega) (by rw [e58]; omega)) uI92
      have S93 : CM A R r0 [] [1] I49 L50 I92 L50 := CM.a G_r0 R_r0_1 A_r0_1 uI92
      have F94 : ∀ r : Nat, r < 4 → I92 r0_1 r = I49 r0_1 r := fun r z0 => by rw [uI92]; exact u2_k (by have h2 := ncz (x := x88) (by omega); omega)
      have e95 := u2_n uI92 (mF.nq G_r0 R_r0_4 R_r0_1 (by decide)) e69
      have e96 := u2_n uI92 (fun e => (mF.ne G_r0 R_r0_1) e.symm) e70
      have e97 := u2_n uI92 (fun e => (mF.ne G_r0 R_r0_1) e.symm) e71
      have e98 := u2_n uI92 (fun e => (mF.ne G_r0 R_r0_1) e.symm) e72
      have e99 := u2_n uI92 (fun e => (mF.ne G_r0 R_r0_1) e.symm) e73
      have e100 := u2_n uI92 (mF.nq G_r0 R_r0_4 R_r0_1 (by decide)) e74
      have e101 := u2_j uI92 (by first | decide | exact ncne (by omega) (by omega) (by omega) | exact nckn (by omega) (by omega) | exact (nckn (by omega) (by omega)).symm) e58
      have e102 := u2_j uI92 (by first | decide | exact ncne (by omega) (by omega) (by omega) | exact nckn (by omega) (by omega) | exact (nckn (by omega) (by omega)).symm) e62
      have e103 := u2_j uI92 (by first | decide | exact ncne (by omega) (by omega) (by omega) | exact nckn (by omega) (by omega) | exact (nckn (by omega) (by omega)).symm) e66
      have e104 := u2_e uI92
      refine z_iinc C (z := 1) (lw := fun x105 => [(2, .int x105), (0, .ref r0), (1, .int n1)]) rfl rfl rfl (Nat.le_of_ble_eq_true rfl) rfl ⟨by omega, by omega⟩ (fun _ => rfl) (fun x105 ex105 => ?_)
      show V 51 [(2, .int x105), (0, .ref r0), (1, .int n1)] _ _ _ _
      refine k_goto C (pc2 := 17) rfl rfl ?_
      refine k_sub S [(0, .ref r0), (1, .int n1), (2, .int x105)] (List.forall_mem_cons.mpr ⟨List.mem_of_getElem? (i := 1) rfl, List.forall_mem_cons.mpr ⟨List.mem_of_getElem? (i := 2) rfl, List.forall_mem_cons.mpr ⟨List.mem_of_getElem? (i := 0) rfl, fun _ h => nomatch h⟩⟩⟩) ?_
      exact ihJ47 _ (by omega) I92 L50 x105 x57 x61 x65 rfl hI92 (CM.cons S54 (CM.mono S93 (by decide) (by decide)) (by decide) (by decide)) (fun r z0 => ((F94 r z0).trans (F56 r z0))) (by omega) (by omega) e101 (by omega) (by omega) e102 (by omega) (by omega) e103 (by omega) (by omega) (by omega) (by omega) (by omega) (by exact QN.eq ff17_3 (CM.j0 S93 R_r0_5 (by decide)))
  refine k_istore_n C (lw := [(2, .int x46), (0, .ref r0), (1, .int n1)]) rfl rfl (Nat.le_of_ble_eq_true rfl) rfl ?_
  refine k_sub S [(0, .ref r0), (1, .int n1), (2, .int x46)] (List.forall_mem_cons.mpr ⟨List.mem_of_getElem? (i := 1) rfl, List.forall_mem_cons.mpr ⟨List.mem_of_getElem? (i := 2) rfl, List.forall_mem_cons.mpr ⟨List.mem_of_getElem? (i := 0) rfl, fun _ h => nomatch h⟩⟩⟩) ?_
  exact J47 _ I31 L32 x46 w_r0_1_0 w_r0_1_4 w_r0_1_5 rfl hI31 CM.rf (fun r z0 => rfl) (by omega) (by omega) e36 (by omega) (by omega) e34 (by omega) (by omega) e35 (by omega) (by omega) (by omega) (by omega) (by omega) (by exact hQ)

set_option maxHeartbeats 8000000 in
theorem a_X12_mix_e {d : Nat} {T N : Nat → Nat} {I : IT} {L : LT} {R : RT} {A : Nat → Prop} {r0 : Nat} {n1 n2 : Int32} (hI : IM R r0 I) (H_r0 : (h_MD T N R A) r0) : Ex (d + 6) 244 [.ref r0, .int n1, .int n2] (T, N, I, L, R) 0 0 (pI T N R (fun x9 I9 L9 => (0 ≤ x9.toInt) ∧ (x9.toInt ≤ 1) ∧ (∀ a1, R r0 1 = some a1 → (I a1 4).toInt + (I a1 5).toInt ≤ 40 → (I9 a1 4).toInt + (I9 a1 5).toInt ≤ 40) ∧ (∀ a1, R r0 1 = some a1 → ∀ r : Nat, r < 4 → I9 a1 r = I a1 r) ∧ (IM R r0 I9 ∧ CM A R r0 [0, 6, 7, 8, 9] [1, 4, 5] I L I9 L9))) := by
  refine ⟨_, rfl, Nat.le_of_ble_eq_true rfl, fun V C S => ?_⟩
  show V 0 [(0, .ref r0), (1, .int n1), (2, .int n2)] [] (T, N, I, L, R) 0 0
  have gn1 := rg n1
  have gn2 := rg n2
  obtain ⟨T_r0, A_r0, ⟨r0_1, R_r0_1, H_r0_1⟩, ⟨r0_2, R_r0_2, H_r0_2⟩, ⟨r0_4, R_r0_4, H_r0_4⟩, ⟨r0_5, R_r0_5, H_r0_5⟩, ⟨r0_10, R_r0_10, H_r0_10⟩, ⟨r0_18, R_r0_18, H_r0_18⟩, ⟨r0_20, R_r0_20, H_r0_20⟩, ⟨r0_21, R_r0_21, H_r0_21⟩, ⟨r0_22, R_r0_22, H_r0_22⟩, ⟨r0_23, R_r0_23, H_r0_23⟩, ⟨r0_25, R_r0_25, H_r0_25⟩, ⟨r0_26, R_r0_26, H_r0_26⟩, ⟨r0_27, R_r0_27, H_r0_27⟩, ⟨r0_28, R_r0_28, H_r0_28⟩, ⟨r0_34, R_r0_34, H_r0_34⟩, J_r0, Y_r0⟩ := id H_r0
  have G_r0 : mF T R r0 := ⟨J_r0, Y_r0, T_r0⟩
  obtain ⟨w_r0_1_4, k0_r0_1_4⟩ : ∃ x, I r0_1 4 = x := ⟨_, rfl⟩
  have gw_r0_1_4 := rg w_r0_1_4
  have ow_r0_1_4 := IM.c4 hI R_r0_1 k0_r0_1_4
  obtain ⟨w_r0_1_5, k0_r0_1_5⟩ : ∃ x, I r0_1 5 = x := ⟨_, rfl⟩
  have gw_r0_1_5 := rg w_r0_1_5
  have ow_r0_1_5 := IM.c5 hI R_r0_1 k0_r0_1_5
  refine k_aload_n C rfl rfl rfl ?_
  refine z_iconst C (z := 0) rfl rfl rfl (fun x1 ex1 => ?_)
  refine z_pI C rfl rfl rfl T_r0 (Or.inr rfl) rfl (fun I2 uI2 => ?_)
  have hI2 : IM R r0 I2 := IM.fld hI G_r0 ⟨(fun h => absurd h (by decide)), (fun h => absurd h (by decide)), (fun h => absurd h (by decide)), (fun h => absurd h (by decide)), (fun h => absurd h (by decide))⟩ uI2
  have S3 : CM A R r0 [0] [] I L I2 L := CM.f G_r0 A_r0 uI2
  have e4 := u2_n uI2 (mF.ne G_r0 R_r0_1) k0_r0_1_4
  have e5 := u2_n uI2 (mF.ne G_r0 R_r0_1) k0_r0_1_5
  have e6 := u2_e uI2
  refine k_aload_n C rfl rfl rfl ?_
  refine k_aload_n C rfl rfl rfl ?_
  refine k_iload_n C rfl rfl rfl ?_
  refine c_VI C (a_X12_noForm_e hI2 H_r0) rfl rfl rfl rfl rfl ⟨_, rfl, rfl, T_r0, Nat.le_of_ble_eq_true rfl⟩ rfl rfl (Nat.le_of_ble_eq_true rfl) (Nat.le_of_ble_eq_true rfl) (Nat.le_of_ble_eq_true rfl) ?_
  rintro x7 _ _ ⟨o0x7, o1x7, p0x7, rfl, rfl⟩
  have p0x7 := p0x7 r0_1 R_r0_1
  have gx7 := rg x7
  obtain ⟨x8, e9⟩ : ∃ x, I2 r0_1 1 = x := ⟨_, rfl⟩
  have gx8 := rg x8
  have ox8 := IM.c1 hI2 R_r0_1 e9
  try simp only [e4, e5, e6, e9] at p0x7
  try have q0x7 := congrArg Int32.toInt p0x7
  refine b_if_ne C (t := 22) rfl rfl rfl (fun c10 => ?_) (fun c10 => ?_)
  · skip
    refine z_iconst C (z := 1) rfl rfl rfl (fun x11 ex11 => ?_)
    refine k_goto C (pc2 := 27) rfl rfl ?_
    refine z_iconst C (z := 1) rfl rfl rfl (fun x12 ex12 => ?_)
    have q13 : x11.toNatClampNeg = 1 := nck (by omega)
    have q14 : x12.toNatClampNeg = 1 := nck (by omega)
    refine c_VI C (a_X12_throwsIf_e hI2 H_r0 (by omega) (by omega)) rfl rfl rfl rfl rfl ⟨_, rfl, rfl, T_r0, Nat.le_of_ble_eq_true rfl⟩ rfl rfl (Nat.le_of_ble_eq_true rfl) (Nat.le_of_ble_eq_true rfl) (Nat.le_of_ble_eq_true rfl) ?_
    rintro x15 I16 L17 ⟨o0x15, o1x15, p0x15, p1x15, hI16, S18⟩
    have e19 := CM.j S18 R_r0_1 (by decide) e4
    have e20 := CM.j S18 R_r0_1 (by decide) e5
    have e22 := CM.j S18 R_r0_1 (by decide) e9
    have gx15 := rg x15
    obtain ⟨x23, e24⟩ : ∃ x, I16 r0 0 = x := ⟨_, rfl⟩
    have gx23 := rg x23
    try simp only [q13, q14, e4, e5, e6, e9, e24] at p0x15
    try have q0x15 := congrArg Int32.toInt p0x15
    try simp only [q13, q14, e4, e5, e6, e9, e24] at p1x15
    try have q1x15 := congrArg Int32.toInt p1x15
    refine b_if_eq C (t := 36) rfl rfl rfl (fun c25 => by exfalso; omega) (fun c25 => ?_)
    refine z_iconst C (z := 0) rfl rfl rfl (fun x26 ex26 => ?_)
    exact k_iret C rfl (Or.inr ⟨rfl, z01 (by omega) (by omega)⟩) (Nat.le_of_ble_eq_true rfl) (Nat.le_of_ble_eq_true rfl) ⟨_, _, _, rfl, rfl, by omega, by omega, fun a1 h1 => by cases (R_r0_1.symm.trans h1); first | omega | (simp only [e19, e20, e22, e24, k0_r0_1_4, k0_r0_1_5, and_true, true_and, or_true, true_or, and_false, false_and, or_false, false_or] <;> omega), fun a1 h1 => by cases (R_r0_1.symm.trans h1); exact (fun r z0 => ((congrFun (CM.j0 S18 R_r0_1 (by decide)) r).trans (congrFun (CM.j0 S3 R_r0_1 (by decide)) r))), hI16, (CM.cons S3 (CM.mono S18 (by decide) (by decide)) (by decide) (by decide))⟩
  refine k_aload_n C rfl rfl rfl ?_
  refine k_iload_n C rfl rfl rfl ?_
  refine c_VI C (a_X12_noTable_e hI2 H_r0) rfl rfl rfl rfl rfl ⟨_, rfl, rfl, T_r0, Nat.le_of_ble_eq_true rfl⟩ rfl rfl (Nat.le_of_ble_eq_true rfl) (Nat.le_of_ble_eq_true rfl) (Nat.le_of_ble_eq_true rfl) ?_
  rintro x27 _ _ ⟨o0x27, o1x27, p0x27, rfl, rfl⟩
  have p0x27 := p0x27 r0_1 R_r0_1
  have gx27 := rg x27
  obtain ⟨x28, e29⟩ : ∃ x, I2 r0_1 2 = x := ⟨_, rfl⟩
  have gx28 := rg x28
  have ox28 := IM.c2 hI2 R_r0_1 e29
  try simp only [e4, e5, e6, e9, e29] at p0x27
  try have q0x27 := congrArg Int32.toInt p0x27
  refine b_if_eq C (t := 26) rfl rfl rfl (fun c30 => ?_) (fun c30 => ?_)
  · skip
    refine z_iconst C (z := 0) rfl rfl rfl (fun x31 ex31 => ?_)
    refine z_iconst C (z := 1) rfl rfl rfl (fun x32 ex32 => ?_)
    have q33 : x31.toNatClampNeg = 0 := nck (by omega)
    have q34 : x32.toNatClampNeg = 1 := nck (by omega)
    refine c_VI C (a_X12_throwsIf_e hI2 H_r0 (by omega) (by omega)) rfl rfl rfl rfl rfl ⟨_, rfl, rfl, T_r0, Nat.le_of_ble_eq_true rfl⟩ rfl rfl (Nat.le_of_ble_eq_true rfl) (Nat.le_of_ble_eq_true rfl) (Nat.le_of_ble_eq_true rfl) ?_
    rintro x35 I36 L37 ⟨o0x35, o1x35, p0x35, p1x35, hI36, S38⟩
    have e39 := CM.j S38 R_r0_1 (by decide) e4
    have e40 := CM.j S38 R_r0_1 (by decide) e5
    have e42 := CM.j S38 R_r0_1 (by decide) e9
    have e43 := CM.j S38 R_r0_1 (by decide) e29
    have gx35 := rg x35
    obtain ⟨x44, e45⟩ : ∃ x, I36 r0 0 = x := ⟨_, rfl⟩
    have gx44 := rg x44
    try simp only [q33, q34, e4, e5, e6, e9, e29, e45] at p0x35
    try have q0x35 := congrArg Int32.toInt p0x35
    try simp only [q33, q34, e4, e5, e6, e9, e29, e45] at p1x35
    try have q1x35 := congrArg Int32.toInt p1x35
    refine b_if_eq C (t := 36) rfl rfl rfl (fun c46 => ?_) (fun c46 => by exfalso; omega)
    refine k_aload_n C rfl rfl rfl ?_
    refine g_R C rfl rfl rfl T_r0 rfl R_r0_1 ?_
    refine z_iconst C (z := 4) rfl rfl rfl (fun x47 ex47 => ?_)
    obtain ⟨T_r0_1, N_r0_1, A_r0_1⟩ := id H_r0_1
    refine a_I C rfl rfl T_r0_1 (by rw [N_r0_1]; exact vpi (by omega) (by omega)) ((congrArg (I36 r0_1) (nck (n := 4) (by omega))).trans e39) ?_
    refine z_bipush C (z := 40) rfl rfl rfl (fun x48 ex48 => ?_)
    refine b_icmp_ne C (t := 83) rfl rfl rfl (fun c49 => ?_) (fun c49 => ?_)
    · skip
      refine k_aload_n C rfl rfl rfl ?_
      refine g_R C rfl rfl rfl T_r0 rfl R_r0_1 ?_
      refine z_iconst C (z := 4) rfl rfl rfl (fun x50 ex50 => ?_)
      refine k_dup2 C rfl rfl rfl rfl ?_
      refine a_I C rfl rfl T_r0_1 (by rw [N_r0_1]; exact vpi (by omega) (by omega)) ((congrArg (I36 r0_1) (nck (n := 4) (by omega))).trans e39) ?_
      refine z_iconst C (z := 1) rfl rfl rfl (fun x51 ex51 => ?_)
      refine z_iadd C rfl rfl ⟨by omega, by omega⟩ (fun x52 ex52 => ?_)
      refine z_sI C rfl rfl T_r0_1 N_r0_1 (by omega) (by omega) (fun I53 uI53 => ?_)
      have uI53 : I53 = u2 I36 r0_1 4 (x52) := by rw [uI53, nck (n := 4) (by omega)]
      have hI53 : IM R r0 I53 := IM.arr hI36 G_r0 R_r0_1 ⟨(fun h => absurd h (by decide)), (fun h => absurd h (by decide)), (fun h => absurd h (by decide))⟩ (fun _ => WOK.c4 (IM.w hI36 R_r0_1) (by omega) (by omega)) uI53
      have S54 : CM A R r0 [] [1] I36 L37 I53 L37 := CM.a G_r0 R_r0_1 A_r0_1 uI53
      have F55 : ∀ r : Nat, r < 4 → I53 r0_1 r = I36 r0_1 r := fun r z0 => by rw [uI53]; exact u2_k (by have h2 := ncz (x := x50) (by omega); omega)
      have e57 := u2_j uI53 (by first | decide | exact ncne (by omega) (by omega) (by omega) | exact nckn (by omega) (by omega) | exact (nckn (by omega) (by omega)).symm) e40
      have e58 := u2_j uI53 (by first | decide | exact ncne (by omega) (by omega) (by omega) | exact nckn (by omega) (by omega) | exact (nckn (by omega) (by omega)).symm) e42
      have e59 := u2_j uI53 (by first | decide | exact ncne (by omega) (by omega) (by omega) | exact nckn (by omega) (by omega) | exact (nckn (by omega) (by omega)).symm) e43
      have e60 := u2_n uI53 (fun e => (mF.ne G_r0 R_r0_1) e.symm) e45
      have e61 := u2_e uI53
      refine z_sipush C (z := 3406) rfl rfl rfl (fun x62 ex62 => ?_)
      refine z_iconst C (z := 5) rfl rfl rfl (fun x63 ex63 => ?_)
      refine k_aload_n C rfl rfl rfl ?_
      refine g_R C rfl rfl rfl T_r0 rfl R_r0_1 ?_
      refine z_iconst C (z := 4) rfl rfl rfl (fun x64 ex64 => ?_)
      refine a_I C rfl rfl T_r0_1 (by rw [N_r0_1]; exact vpi (by omega) (by omega)) ((congrArg (I53 r0_1) (nck (n := 4) (by omega))).trans e61) ?_
      refine z_iconst C (z := 1) rfl rfl rfl (fun x65 ex65 => ?_)
      refine z_isub C rfl rfl ⟨by omega, by omega⟩ (fun x66 ex66 => ?_)
      refine z_imulL C (c := 5) rfl rfl (by omega) ⟨by omega, by omega⟩ (fun x67 ex67 => ?_)
      refine z_iadd C rfl rfl ⟨by omega, by omega⟩ (fun x68 ex68 => ?_)
      refine k_istore_n C (lw := [(3, .int x68), (0, .ref r0), (1, .int n1), (2, .int n2)]) rfl rfl (Nat.le_of_ble_eq_true rfl) rfl ?_
      refine k_aload_n C rfl rfl rfl ?_
      refine g_R C rfl rfl rfl T_r0 rfl R_r0_1 ?_
      refine k_iload_n C rfl rfl rfl ?_
      refine k_iload_n C rfl rfl rfl ?_
      refine z_sI C rfl rfl T_r0_1 N_r0_1 (by omega) (by omega) (fun I69 uI69 => ?_)
      have hI69 : IM R r0 I69 := IM.arr hI53 G_r0 R_r0_1 ⟨(fun h => absurd h (by decide)), (fun h => absurd h (by decide)), (fun h => absurd h (by decide))⟩ (fun _ => WOK.act (IM.w hI53 R_r0_1) (b := x52.toInt - 1) (c := 0) ⟨by omega, by omega⟩ ⟨by decide, by decide⟩ (by omega) (by omega) (by omega) (fun _ => ⟨by omega, by omega⟩)) uI69
      have S70 : CM A R r0 [] [1] I53 L37 I69 L37 := CM.a G_r0 R_r0_1 A_r0_1 uI69
      have F71 : ∀ r : Nat, r < 4 → I69 r0_1 r = I53 r0_1 r := fun r z0 => by rw [uI69]; exact u2_k (by have h2 := ncz (x := x68) (by omega); omega)
      have e72 := u2_j uI69 (by first | decide | exact ncne (by omega) (by omega) (by omega) | exact nckn (by omega) (by omega) | exact (nckn (by omega) (by omega)).symm) e57
      have e73 := u2_j uI69 (by first | decide | exact ncne (by omega) (by omega) (by omega) | exact nckn (by omega) (by omega) | exact (nckn (by omega) (by omega)).symm) e58
      have e74 := u2_j uI69 (by first | decide | exact ncne (by omega) (by omega) (by omega) | exact nckn (by omega) (by omega) | exact (nckn (by omega) (by omega)).symm) e59
      have e75 := u2_n uI69 (fun e => (mF.ne G_r0 R_r0_1) e.symm) e60
      have e76 := u2_j uI69 (by first | decide | exact ncne (by omega) (by omega) (by omega) | exact nckn (by omega) (by omega) | exact (nckn (by omega) (by omega)).symm) e61
      have e77 := u2_e uI69
      refine z_iconst C (z := 0) rfl rfl rfl (fun x78 ex78 => ?_)
      have J79 : ∀ (nn80 : Nat) (I81 : IT) (L82 : LT) (x83 : Int32) (x89 : Int32) (x93 : Int32), ((4 - x83.toInt).toNat = nn80) → (IM R r0 I81) → (CM A R r0 [] [1] I69 L37 I81 L82) → (∀ r : Nat, r < 4 → I81 r0_1 r = I69 r0_1 r) → (0 ≤ x83.toInt) → (x83.toInt ≤ 4) → (I81 r0_1 4 = x89) → (0 ≤ x89.toInt) → (x89.toInt ≤ 40) → (I81 r0_1 5 = x93) → (0 ≤ x93.toInt) → (x93.toInt ≤ 40) → (x89.toInt = x52.toInt) → (x93.toInt = w_r0_1_5.toInt) → V 118 [(0, .ref r0), (1, .int n1), (2, .int n2), (3, .int x68), (4, .int x83)] [] (T, N, I81, L82, R) 0 0 := by
        intro nn80
        induction nn80 using Nat.strongRecOn with
        | _ nn80 ihJ79 =>
          intro I81 L82 x83 x89 x93 hmnn80 hI87 S86 F88 b84 b85 e90 b91 b92 e94 b95 b96 ff118_0 ff118_1
          have gx83 := rg x83
          have gx89 := rg x89
          have gx93 := rg x93
          have e97 := CM.k S86 (by decide) e75
          refine k_iload C rfl rfl rfl ?_
          refine z_iconst C (z := 4) rfl rfl rfl (fun x98 ex98 => ?_)
          refine b_icmp_ge C (t := 148) rfl rfl rfl (fun c99 => ?_) (fun c99 => ?_)
          · skip
            refine k_aload_n C rfl rfl rfl ?_
            refine g_R C rfl rfl rfl T_r0 rfl R_r0_1 ?_
            refine z_iconst C (z := 5) rfl rfl rfl (fun x100 ex100 => ?_)
            refine z_iconst C (z := 0) rfl rfl rfl (fun x101 ex101 => ?_)
            refine z_sI C rfl rfl T_r0_1 N_r0_1 (by omega) (by omega) (fun I102 uI102 => ?_)
            have uI102 : I102 = u2 I81 r0_1 5 (x101) := by rw [uI102, nck (n := 5) (by omega)]
            have hI102 : IM R r0 I102 := IM.arr hI87 G_r0 R_r0_1 ⟨(fun h => absurd h (by decide)), (fun h => absurd h (by decide)), (fun h => absurd h (by decide))⟩ (fun _ => WOK.c5 (IM.w hI87 R_r0_1) (by omega) (by omega)) uI102
            have S103 : CM A R r0 [] [1] I81 L82 I102 L82 := CM.a G_r0 R_r0_1 A_r0_1 uI102
            have F104 : ∀ r : Nat, r < 4 → I102 r0_1 r = I81 r0_1 r := fun r z0 => by rw [uI102]; exact u2_k (by have h2 := ncz (x := x100) (by omega); omega)
            have e105 := u2_n uI102 (fun e => (mF.ne G_r0 R_r0_1) e.symm) e97
            have e106 := u2_j uI102 (by first | decide | exact ncne (by omega) (by omega) (by omega) | exact nckn (by omega) (by omega) | exact (nckn (by omega) (by omega)).symm) e90
            have e108 := u2_e uI102
            refine k_aload_n C rfl rfl rfl ?_
            refine k_iload_n C rfl rfl rfl ?_
            refine c_VV C (a_X12_tables hI102 H_r0 (by omega) (by omega)) rfl rfl rfl rfl rfl ⟨_, rfl, rfl, T_r0, Nat.le_of_ble_eq_true rfl⟩ rfl rfl (Nat.le_of_ble_eq_true rfl) (Nat.le_of_ble_eq_true rfl) (Nat.le_of_ble_eq_true rfl) ?_
            rintro I110 L111 ⟨hI110, S112⟩
            have e113 := CM.k S112 (by decide) e105
            have e114 := CM.j S112 R_r0_1 (by decide) e106
            have e115 := CM.j S112 R_r0_1 (by decide) e108
            refine k_aload_n C rfl rfl rfl ?_
            refine k_iload_n C rfl rfl rfl ?_
            refine c_VI C (a_X12_mixesForm_e hI110 H_r0 (by omega) (by omega)) rfl rfl rfl rfl rfl ⟨_, rfl, rfl, T_r0, Nat.le_of_ble_eq_true rfl⟩ rfl rfl (Nat.le_of_ble_eq_true rfl) (Nat.le_of_ble_eq_true rfl) (Nat.le_of_ble_eq_true rfl) ?_
            rintro x116 I117 L118 ⟨o0x116, o1x116, p0x116, p1x116, hI117, S119⟩
            have p0x116 := p0x116 r0_1 R_r0_1
            have p1x116 := p1x116 r0_1 R_r0_1
            have F120 : ∀ r : Nat, r < 4 → I117 r0_1 r = I110 r0_1 r := fun r z0 => p1x116 r z0
            have e121 := CM.k S119 (by decide) e113
            have gx116 := rg x116
            obtain ⟨x124, e125⟩ : ∃ x, I117 r0_1 4 = x := ⟨_, rfl⟩
            have gx124 := rg x124
            have ox124 := IM.c4 hI117 R_r0_1 e125
            obtain ⟨x126, e127⟩ : ∃ x, I117 r0_1 5 = x := ⟨_, rfl⟩
            have gx126 := rg x126
            have ox126 := IM.c5 hI117 R_r0_1 e127
            try simp only [e113, e114, e115, e125, e127] at p0x116
            try have q0x116 := congrArg Int32.toInt p0x116
            exact k_iret C rfl (Or.inr ⟨rfl, z01 (by omega) (by omega)⟩) (Nat.le_of_ble_eq_true rfl) (Nat.le_of_ble_eq_true rfl) ⟨_, _, _, rfl, rfl, by omega, by omega, fun a1 h1 => by cases (R_r0_1.symm.trans h1); first | omega | (simp only [e121, e125, e127, k0_r0_1_4, k0_r0_1_5, and_true, true_and, or_true, true_or, and_false, false_and, or_false, false_or] <;> omega), fun a1 h1 => by cases (R_r0_1.symm.trans h1); exact (fun r z0 => ((F120 r z0).trans ((congrFun (CM.j0 S112 R_r0_1 (by decide)) r).trans ((F104 r z0).trans ((F88 r z0).trans ((F71 r z0).trans ((F55 r z0).trans ((congrFun (CM.j0 S38 R_r0_1 (by decide)) r).trans (congrFun (CM.j0 S3 R_r0_1 (by decide)) r))))))))), hI117, (CM.cons S3 (CM.cons S38 (CM.cons S54 (CM.cons S70 (CM.cons S86 (CM.cons S103 (CM.cons S112 (CM.mono S119 (by decide) (by decide)) (by decide) (by decide)) (by decide) (by decide)) (by decide) (by decide)) (by decide) (by decide)) (by decide) (by decide)) (by decide) (by decide)) (by decide) (by decide))⟩
          refine k_aload_n C rfl rfl rfl ?_
          refine g_R C rfl rfl rfl T_r0 rfl R_r0_1 ?_
          refine k_iload_n C rfl rfl rfl ?_
          refine z_iconst C (z := 1) rfl rfl rfl (fun x128 ex128 => ?_)
          refine z_iadd C rfl rfl ⟨by omega, by omega⟩ (fun x129 ex129 => ?_)
          refine k_iload C rfl rfl rfl ?_
          refine z_iadd C rfl rfl ⟨by omega, by omega⟩ (fun x130 ex130 => ?_)
          refine k_aload_n C rfl rfl rfl ?_
          refine k_iload_n C rfl rfl rfl ?_
          refine k_iload C rfl rfl rfl ?_
          refine c_VI C (a_X12_ofTable hI87 H_r0 (by omega) (by omega) (by omega) (by omega)) rfl rfl rfl rfl rfl ⟨_, rfl, rfl, T_r0, Nat.le_of_ble_eq_true rfl⟩ rfl rfl (Nat.le_of_ble_eq_true rfl) (Nat.le_of_ble_eq_true rfl) (Nat.le_of_ble_eq_true rfl) ?_
          rintro x131 _ _ ⟨o0x131, o1x131, p0x131, rfl, rfl⟩
          have p0x131 := p0x131 r0_1 R_r0_1
          have gx131 := rg x131
          try simp only [e97, e90, e94] at p0x131
          try have q0x131 := congrArg Int32.toInt p0x131
          refine z_sI C rfl rfl T_r0_1 N_r0_1 (by omega) (by omega) (fun I132 uI132 => ?_)
          have hI132 : IM R r0 I132 := IM.arr hI87 G_r0 R_r0_1 ⟨(fun h => absurd h (by decide)), (fun h => absurd h (by decide)), (fun h => absurd h (by decide))⟩ (fun _ => WOK.act (IM.w hI87 R_r0_1) (b := x89.toInt - 1) (c := x83.toInt + 1) ⟨by omega, by omega⟩ ⟨by omega, by omega⟩ (by omega) (by omega) (by omega) (fun h => absurd h (by omega))) uI132
          have S133 : CM A R r0 [] [1] I81 L82 I132 L82 := CM.a G_r0 R_r0_1 A_r0_1 uI132
          have F134 : ∀ r : Nat, r < 4 → I132 r0_1 r = I81 r0_1 r := fun r z0 => by rw [uI132]; exact u2_k (by have h2 := ncz (x := x130) (by omega); omega)
          have e135 := u2_n uI132 (fun e => (mF.ne G_r0 R_r0_1) e.symm) e97
          have e136 := u2_j uI132 (by first | decide | exact ncne (by omega) (by omega) (by omega) | exact nckn (by omega) (by omega) | exact (nckn (by omega) (by omega)).symm) e90
          have e137 := u2_j uI132 (by first | decide | exact ncne (by omega) (by omega) (by omega) | exact nckn (by omega) (by omega) | exact (nckn (by omega) (by omega)).symm) e94
          have e138 := u2_e uI132
          refine z_iinc C (z := 1) (lw := fun x139 => [(4, .int x139), (0, .ref r0), (1, .int n1), (2, .int n2), (3, .int x68)]) rfl rfl rfl (Nat.le_of_ble_eq_true rfl) rfl ⟨by omega, by omega⟩ (fun _ => rfl) (fun x139 ex139 => ?_)
          show V 145 [(4, .int x139), (0, .ref r0), (1, .int n1), (2, .int n2), (3, .int x68)] _ _ _ _
          refine k_goto C (pc2 := 118) rfl rfl ?_
          refine k_sub S [(0, .ref r0), (1, .int n1), (2, .int n2), (3, .int x68), (4, .int x139)] (List.forall_mem_cons.mpr ⟨List.mem_of_getElem? (i := 1) rfl, List.forall_mem_cons.mpr ⟨List.mem_of_getElem? (i := 2) rfl, List.forall_mem_cons.mpr ⟨List.mem_of_getElem? (i := 3) rfl, List.forall_mem_cons.mpr ⟨List.mem_of_getElem? (i := 4) rfl, List.forall_mem_cons.mpr ⟨List.mem_of_getElem? (i := 0) rfl, fun _ h => nomatch h⟩⟩⟩⟩⟩) ?_
          exact ihJ79 _ (by omega) I132 L82 x139 x89 x93 rfl hI132 (CM.cons S86 (CM.mono S133 (by decide) (by decide)) (by decide) (by decide)) (fun r z0 => ((F134 r z0).trans (F88 r z0))) (by omega) (by omega) e136 (by omega) (by omega) e137 (by omega) (by omega) (by omega) (by omega)
      refine k_istore C (lw := [(4, .int x78), (3, .int x68), (0, .ref r0), (1, .int n1), (2, .int n2)]) rfl rfl (Nat.le_of_ble_eq_true rfl) rfl ?_
      refine k_sub S [(0, .ref r0), (1, .int n1), (2, .int n2), (3, .int x68), (4, .int x78)] (List.forall_mem_cons.mpr ⟨List.mem_of_getElem? (i := 2) rfl, List.forall_mem_cons.mpr ⟨List.mem_of_getElem? (i := 3) rfl, List.forall_mem_cons.mpr ⟨List.mem_of_getElem? (i := 4) rfl, List.forall_mem_cons.mpr ⟨List.mem_of_getElem? (i := 1) rfl, List.forall_mem_cons.mpr ⟨List.mem_of_getElem? (i := 0) rfl, fun _ h => nomatch h⟩⟩⟩⟩⟩) ?_
      exact J79 _ I69 L37 x78 x52 w_r0_1_5 rfl hI69 CM.rf (fun r z0 => rfl) (by omega) (by omega) e76 (by omega) (by omega) e72 (by omega) (by omega) (by omega) (by omega)
    refine z_sipush C (z := 3406) rfl rfl rfl (fun x140 ex140 => ?_)
    have J141 : ∀ (nn142 : Nat) (I143 : IT) (L144 : LT) (x145 : Int32) (x151 : Int32) (x155 : Int32), ((3606 - x145.toInt).toNat = nn142) → (IM R r0 I143) → (CM A R r0 [] [1] I36 L37 I143 L144) → (∀ r : Nat, r < 4 → I143 r0_1 r = I36 r0_1 r) → (3406 ≤ x145.toInt) → (x145.toInt ≤ 3606) → (I143 r0_1 4 = x151) → (0 ≤ x151.toInt) → (x151.toInt ≤ 40) → (I143 r0_1 5 = x155) → (0 ≤ x155.toInt) → (x155.toInt ≤ 40) → (x151.toInt = w_r0_1_4.toInt) → (x155.toInt = w_r0_1_5.toInt) → V 51 [(0, .ref r0), (1, .int n1), (2, .int n2), (3, .int x145)] [] (T, N, I143, L144, R) 0 0 := by
      intro nn142
      induction nn142 using Nat.strongRecOn with
      | _ nn142 ihJ141 =>
        intro I143 L144 x145 x151 x155 hmnn142 hI149 S148 F150 b146 b147 e152 b153 b154 e156 b157 b158 ff51_0 ff51_1
        have gx145 := rg x145
        have gx151 := rg x151
        have gx155 := rg x155
        have e159 := CM.k S148 (by decide) e45
        refine k_iload_n C rfl rfl rfl ?_
        refine z_iconst C (z := 5) rfl rfl rfl (fun x160 ex160 => ?_)
        refine z_iadd C rfl rfl ⟨by omega, by omega⟩ (fun x161 ex161 => ?_)
        refine z_sipush C (z := 3606) rfl rfl rfl (fun x162 ex162 => ?_)
        refine b_icmp_ge C (t := 80) rfl rfl rfl (fun c163 => ?_) (fun c163 => ?_)
        · skip
          refine k_goto C (pc2 := 93) rfl rfl ?_
          refine z_sipush C (z := 3406) rfl rfl rfl (fun x164 ex164 => ?_)
          refine z_iconst C (z := 5) rfl rfl rfl (fun x165 ex165 => ?_)
          refine k_aload_n C rfl rfl rfl ?_
          refine g_R C rfl rfl rfl T_r0 rfl R_r0_1 ?_
          refine z_iconst C (z := 4) rfl rfl rfl (fun x166 ex166 => ?_)
          refine a_I C rfl rfl T_r0_1 (by rw [N_r0_1]; exact vpi (by omega) (by omega)) ((congrArg (I143 r0_1) (nck (n := 4) (by omega))).trans e152) ?_
          refine z_iconst C (z := 1) rfl rfl rfl (fun x167 ex167 => ?_)
          refine z_isub C rfl rfl ⟨by omega, by omega⟩ (fun x168 ex168 => ?_)
          refine z_imulL C (c := 5) rfl rfl (by omega) ⟨by omega, by omega⟩ (fun x169 ex169 => ?_)
          refine z_iadd C rfl rfl ⟨by omega, by omega⟩ (fun x170 ex170 => ?_)
          refine k_istore_n C (lw := [(3, .int x170), (0, .ref r0), (1, .int n1), (2, .int n2)]) rfl rfl (Nat.le_of_ble_eq_true rfl) rfl ?_
          refine k_aload_n C rfl rfl rfl ?_
          refine g_R C rfl rfl rfl T_r0 rfl R_r0_1 ?_
          refine k_iload_n C rfl rfl rfl ?_
          refine k_iload_n C rfl rfl rfl ?_
          refine z_sI C rfl rfl T_r0_1 N_r0_1 (by omega) (by omega) (fun I171 uI171 => ?_)
          have hI171 : IM R r0 I171 := IM.arr hI149 G_r0 R_r0_1 ⟨(fun h => absurd h (by decide)), (fun h => absurd h (by decide)), (fun h => absurd h (by decide))⟩ (fun _ => WOK.act (IM.w hI149 R_r0_1) (b := x151.toInt - 1) (c := 0) ⟨by omega, by omega⟩ ⟨by decide, by decide⟩ (by omega) (by omega) (by omega) (fun _ => ⟨by omega, by omega⟩)) uI171
          have S172 : CM A R r0 [] [1] I143 L144 I171 L144 := CM.a G_r0 R_r0_1 A_r0_1 uI171
          have F173 : ∀ r : Nat, r < 4 → I171 r0_1 r = I143 r0_1 r := fun r z0 => by rw [uI171]; exact u2_k (by have h2 := ncz (x := x170) (by omega); omega)
          have e174 := u2_n uI171 (fun e => (mF.ne G_r0 R_r0_1) e.symm) e159
          have e175 := u2_j uI171 (by first | decide | exact ncne (by omega) (by omega) (by omega) | exact nckn (by omega) (by omega) | exact (nckn (by omega) (by omega)).symm) e152
          have e176 := u2_j uI171 (by first | decide | exact ncne (by omega) (by omega) (by omega) | exact nckn (by omega) (by omega) | exact (nckn (by omega) (by omega)).symm) e156
          have e177 := u2_e uI171
          refine z_iconst C (z := 0) rfl rfl rfl (fun x178 ex178 => ?_)
          have J179 : ∀ (nn180 : Nat) (I181 : IT) (L182 : LT) (x183 : Int32) (x189 : Int32) (x193 : Int32), ((4 - x183.toInt).toNat = nn180) → (IM R r0 I181) → (CM A R r0 [] [1] I171 L144 I181 L182) → (∀ r : Nat, r < 4 → I181 r0_1 r = I171 r0_1 r) → (0 ≤ x183.toInt) → (x183.toInt ≤ 4) → (I181 r0_1 4 = x189) → (0 ≤ x189.toInt) → (x189.toInt ≤ 40) → (I181 r0_1 5 = x193) → (0 ≤ x193.toInt) → (x193.toInt ≤ 40) → (x189.toInt = x151.toInt) → (x193.toInt = x155.toInt) → V 118 [(0, .ref r0), (1, .int n1), (2, .int n2), (3, .int x170), (4, .int x183)] [] (T, N, I181, L182, R) 0 0 := by
            intro nn180
            induction nn180 using Nat.strongRecOn with
            | _ nn180 ihJ179 =>
              intro I181 L182 x183 x189 x193 hmnn180 hI187 S186 F188 b184 b185 e190 b191 b192 e194 b195 b196 ff118_0 ff118_1
              have gx183 := rg x183
              have gx189 := rg x189
              have gx193 := rg x193
              have e197 := CM.k S186 (by decide) e174
              refine k_iload C rfl rfl rfl ?_
              refine z_iconst C (z := 4) rfl rfl rfl (fun x198 ex198 => ?_)
              refine b_icmp_ge C (t := 148) rfl rfl rfl (fun c199 => ?_) (fun c199 => ?_)
              · skip
                refine k_aload_n C rfl rfl rfl ?_
                refine g_R C rfl rfl rfl T_r0 rfl R_r0_1 ?_
                refine z_iconst C (z := 5) rfl rfl rfl (fun x200 ex200 => ?_)
                refine z_iconst C (z := 0) rfl rfl rfl (fun x201 ex201 => ?_)
                refine z_sI C rfl rfl T_r0_1 N_r0_1 (by omega) (by omega) (fun I202 uI202 => ?_)
                have uI202 : I202 = u2 I181 r0_1 5 (x201) := by rw [uI202, nck (n := 5) (by omega)]
                have hI202 : IM R r0 I202 := IM.arr hI187 G_r0 R_r0_1 ⟨(fun h => absurd h (by decide)), (fun h => absurd h (by decide)), (fun h => absurd h (by decide))⟩ (fun _ => WOK.c5 (IM.w hI187 R_r0_1) (by omega) (by omega)) uI202
                have S203 : CM A R r0 [] [1] I181 L182 I202 L182 := CM.a G_r0 R_r0_1 A_r0_1 uI202
                have F204 : ∀ r : Nat, r < 4 → I202 r0_1 r = I181 r0_1 r := fun r z0 => by rw [uI202]; exact u2_k (by have h2 := ncz (x := x200) (by omega); omega)
                have e205 := u2_n uI202 (fun e => (mF.ne G_r0 R_r0_1) e.symm) e197
                have e206 := u2_j uI202 (by first | decide | exact ncne (by omega) (by omega) (by omega) | exact nckn (by omega) (by omega) | exact (nckn (by omega) (by omega)).symm) e190
                have e208 := u2_e uI202
                refine k_aload_n C rfl rfl rfl ?_
                refine k_iload_n C rfl rfl rfl ?_
                refine c_VV C (a_X12_tables hI202 H_r0 (by omega) (by omega)) rfl rfl rfl rfl rfl ⟨_, rfl, rfl, T_r0, Nat.le_of_ble_eq_true rfl⟩ rfl rfl (Nat.le_of_ble_eq_true rfl) (Nat.le_of_ble_eq_true rfl) (Nat.le_of_ble_eq_true rfl) ?_
                rintro I210 L211 ⟨hI210, S212⟩
                have e213 := CM.k S212 (by decide) e205
                have e214 := CM.j S212 R_r0_1 (by decide) e206
                have e215 := CM.j S212 R_r0_1 (by decide) e208
                refine k_aload_n C rfl rfl rfl ?_
                refine k_iload_n C rfl rfl rfl ?_
                refine c_VI C (a_X12_mixesForm_e hI210 H_r0 (by omega) (by omega)) rfl rfl rfl rfl rfl ⟨_, rfl, rfl, T_r0, Nat.le_of_ble_eq_true rfl⟩ rfl rfl (Nat.le_of_ble_eq_true rfl) (Nat.le_of_ble_eq_true rfl) (Nat.le_of_ble_eq_true rfl) ?_
                rintro x216 I217 L218 ⟨o0x216, o1x216, p0x216, p1x216, hI217, S219⟩
                have p0x216 := p0x216 r0_1 R_r0_1
                have p1x216 := p1x216 r0_1 R_r0_1
                have F220 : ∀ r : Nat, r < 4 → I217 r0_1 r = I210 r0_1 r := fun r z0 => p1x216 r z0
                have e221 := CM.k S219 (by decide) e213
                have gx216 := rg x216
                obtain ⟨x224, e225⟩ : ∃ x, I217 r0_1 4 = x := ⟨_, rfl⟩
                have gx224 := rg x224
                have ox224 := IM.c4 hI217 R_r0_1 e225
                obtain ⟨x226, e227⟩ : ∃ x, I217 r0_1 5 = x := ⟨_, rfl⟩
                have gx226 := rg x226
                have ox226 := IM.c5 hI217 R_r0_1 e227
                try simp only [e213, e214, e215, e225, e227] at p0x216
                try have q0x216 := congrArg Int32.toInt p0x216
                exact k_iret C rfl (Or.inr ⟨rfl, z01 (by omega) (by omega)⟩) (Nat.le_of_ble_eq_true rfl) (Nat.le_of_ble_eq_true rfl) ⟨_, _, _, rfl, rfl, by omega, by omega, fun a1 h1 => by cases (R_r0_1.symm.trans h1); first | omega | (simp only [e221, e225, e227, k0_r0_1_4, k0_r0_1_5, and_true, true_and, or_true, true_or, and_false, false_and, or_false, false_or] <;> omega), fun a1 h1 => by cases (R_r0_1.symm.trans h1); exact (fun r z0 => ((F220 r z0).trans ((congrFun (CM.j0 S212 R_r0_1 (by decide)) r).trans ((F204 r z0).trans ((F188 r z0).trans ((F173 r z0).trans ((F150 r z0).trans ((congrFun (CM.j0 S38 R_r0_1 (by decide)) r).trans (congrFun (CM.j0 S3 R_r0_1 (by decide)) r))))))))), hI217, (CM.cons S3 (CM.cons S38 (CM.cons S148 (CM.cons S172 (CM.cons S186 (CM.cons S203 (CM.cons S212 (CM.mono S219 (by decide) (by decide)) (by decide) (by decide)) (by decide) (by decide)) (by decide) (by decide)) (by decide) (by decide)) (by decide) (by decide)) (by decide) (by decide)) (by decide) (by decide))⟩
              refine k_aload_n C rfl rfl rfl ?_
              refine g_R C rfl rfl rfl T_r0 rfl R_r0_1 ?_
              refine k_iload_n C rfl rfl rfl ?_
              refine z_iconst C (z := 1) rfl rfl rfl (fun x228 ex228 => ?_)
              refine z_iadd C rfl rfl ⟨by omega, by omega⟩ (fun x229 ex229 => ?_)
              refine k_iload C rfl rfl rfl ?_
              refine z_iadd C rfl rfl ⟨by omega, by omega⟩ (fun x230 ex230 => ?_)
              refine k_aload_n C rfl rfl rfl ?_
              refine k_iload_n C rfl rfl rfl ?_
              refine k_iload C rfl rfl rfl ?_
              refine c_VI C (a_X12_ofTable hI187 H_r0 (by omega) (by omega) (by omega) (by omega)) rfl rfl rfl rfl rfl ⟨_, rfl, rfl, T_r0, Nat.le_of_ble_eq_true rfl⟩ rfl rfl (Nat.le_of_ble_eq_true rfl) (Nat.le_of_ble_eq_true rfl) (Nat.le_of_ble_eq_true rfl) ?_
              rintro x231 _ _ ⟨o0x231, o1x231, p0x231, rfl, rfl⟩
              have p0x231 := p0x231 r0_1 R_r0_1
              have gx231 := rg x231
              try simp only [e197, e190, e194] at p0x231
              try have q0x231 := congrArg Int32.toInt p0x231
              refine z_sI C rfl rfl T_r0_1 N_r0_1 (by omega) (by omega) (fun I232 uI232 => ?_)
              have hI232 : IM R r0 I232 := IM.arr hI187 G_r0 R_r0_1 ⟨(fun h => absurd h (by decide)), (fun h => absurd h (by decide)), (fun h => absurd h (by decide))⟩ (fun _ => WOK.act (IM.w hI187 R_r0_1) (b := x189.toInt - 1) (c := x183.toInt + 1) ⟨by omega, by omega⟩ ⟨by omega, by omega⟩ (by omega) (by omega) (by omega) (fun h => absurd h (by omega))) uI232
              have S233 : CM A R r0 [] [1] I181 L182 I232 L182 := CM.a G_r0 R_r0_1 A_r0_1 uI232
              have F234 : ∀ r : Nat, r < 4 → I232 r0_1 r = I181 r0_1 r := fun r z0 => by rw [uI232]; exact u2_k (by have h2 := ncz (x := x230) (by omega); omega)
              have e235 := u2_n uI232 (fun e => (mF.ne G_r0 R_r0_1) e.symm) e197
              have e236 := u2_j uI232 (by first | decide | exact ncne (by omega) (by omega) (by omega) | exact nckn (by omega) (by omega) | exact (nckn (by omega) (by omega)).symm) e190
              have e237 := u2_j uI232 (by first | decide | exact ncne (by omega) (by omega) (by omega) | exact nckn (by omega) (by omega) | exact (nckn (by omega) (by omega)).symm) e194
              have e238 := u2_e uI232
              refine z_iinc C (z := 1) (lw := fun x239 => [(4, .int x239), (0, .ref r0), (1, .int n1), (2, .int n2), (3, .int x170)]) rfl rfl rfl (Nat.le_of_ble_eq_true rfl) rfl ⟨by omega, by omega⟩ (fun _ => rfl) (fun x239 ex239 => ?_)
              show V 145 [(4, .int x239), (0, .ref r0), (1, .int n1), (2, .int n2), (3, .int x170)] _ _ _ _
              refine k_goto C (pc2 := 118) rfl rfl ?_
              refine k_sub S [(0, .ref r0), (1, .int n1), (2, .int n2), (3, .int x170), (4, .int x239)] (List.forall_mem_cons.mpr ⟨List.mem_of_getElem? (i := 1) rfl, List.forall_mem_cons.mpr ⟨List.mem_of_getElem? (i := 2) rfl, List.forall_mem_cons.mpr ⟨List.mem_of_getElem? (i := 3) rfl, List.forall_mem_cons.mpr ⟨List.mem_of_getElem? (i := 4) rfl, List.forall_mem_cons.mpr ⟨List.mem_of_getElem? (i := 0) rfl, fun _ h => nomatch h⟩⟩⟩⟩⟩) ?_
              exact ihJ179 _ (by omega) I232 L182 x239 x189 x193 rfl hI232 (CM.cons S186 (CM.mono S233 (by decide) (by decide)) (by decide) (by decide)) (fun r z0 => ((F234 r z0).trans (F188 r z0))) (by omega) (by omega) e236 (by omega) (by omega) e237 (by omega) (by omega) (by omega) (by omega)
          refine k_istore C (lw := [(4, .int x178), (3, .int x170), (0, .ref r0), (1, .int n1), (2, .int n2)]) rfl rfl (Nat.le_of_ble_eq_true rfl) rfl ?_
          refine k_sub S [(0, .ref r0), (1, .int n1), (2, .int n2), (3, .int x170), (4, .int x178)] (List.forall_mem_cons.mpr ⟨List.mem_of_getElem? (i := 2) rfl, List.forall_mem_cons.mpr ⟨List.mem_of_getElem? (i := 3) rfl, List.forall_mem_cons.mpr ⟨List.mem_of_getElem? (i := 4) rfl, List.forall_mem_cons.mpr ⟨List.mem_of_getElem? (i := 1) rfl, List.forall_mem_cons.mpr ⟨List.mem_of_getElem? (i := 0) rfl, fun _ h => nomatch h⟩⟩⟩⟩⟩) ?_
          exact J179 _ I171 L144 x178 x151 x155 rfl hI171 CM.rf (fun r z0 => rfl) (by omega) (by omega) e175 (by omega) (by omega) e176 (by omega) (by omega) (by omega) (by omega)
        refine k_aload_n C rfl rfl rfl ?_
        refine g_R C rfl rfl rfl T_r0 rfl R_r0_1 ?_
        refine k_iload_n C rfl rfl rfl ?_
        refine k_aload_n C rfl rfl rfl ?_
        refine g_R C rfl rfl rfl T_r0 rfl R_r0_1 ?_
        refine k_iload_n C rfl rfl rfl ?_
        refine z_iconst C (z := 5) rfl rfl rfl (fun x240 ex240 => ?_)
        refine z_iadd C rfl rfl ⟨by omega, by omega⟩ (fun x241 ex241 => ?_)
        refine z_aI C rfl rfl T_r0_1 N_r0_1 (by omega) (by omega) (fun x242 ex242 => ?_)
        have gx242 := rg x242
        have hr := ex242
        refine z_sI C rfl rfl T_r0_1 N_r0_1 (by omega) (by omega) (fun I243 uI243 => ?_)
        have hI243 : IM R r0 I243 := IM.arr hI149 G_r0 R_r0_1 ⟨(fun h => absurd h (by decide)), (fun h => absurd h (by decide)), (fun h => absurd h (by decide))⟩ (fun _ => WOK.sh (IM.w hI149 R_r0_1) ⟨by omega, by omega⟩ (by omega) hr) uI243
        have S244 : CM A R r0 [] [1] I143 L144 I243 L144 := CM.a G_r0 R_r0_1 A_r0_1 uI243
        have F245 : ∀ r : Nat, r < 4 → I243 r0_1 r = I143 r0_1 r := fun r z0 => by rw [uI243]; exact u2_k (by have h2 := ncz (x := x145) (by omega); omega)
        have e246 := u2_n uI243 (fun e => (mF.ne G_r0 R_r0_1) e.symm) e159
        have e247 := u2_j uI243 (by first | decide | exact ncne (by omega) (by omega) (by omega) | exact nckn (by omega) (by omega) | exact (nckn (by omega) (by omega)).symm) e152
        have e248 := u2_j uI243 (by first | decide | exact ncne (by omega) (by omega) (by omega) | exact nckn (by omega) (by omega) | exact (nckn (by omega) (by omega)).symm) e156
        have e250 := u2_e uI243
        refine z_iinc C (z := 1) (lw := fun x251 => [(3, .int x251), (0, .ref r0), (1, .int n1), (2, .int n2)]) rfl rfl rfl (Nat.le_of_ble_eq_true rfl) rfl ⟨by omega, by omega⟩ (fun _ => rfl) (fun x251 ex251 => ?_)
        show V 77 [(3, .int x251), (0, .ref r0), (1, .int n1), (2, .int n2)] _ _ _ _
        refine k_goto C (pc2 := 51) rfl rfl ?_
        refine k_sub S [(0, .ref r0), (1, .int n1), (2, .int n2), (3, .int x251)] (List.forall_mem_cons.mpr ⟨List.mem_of_getElem? (i := 1) rfl, List.forall_mem_cons.mpr ⟨List.mem_of_getElem? (i := 2) rfl, List.forall_mem_cons.mpr ⟨List.mem_of_getElem? (i := 3) rfl, List.forall_mem_cons.mpr ⟨List.mem_of_getElem? (i := 0) rfl, fun _ h => nomatch h⟩⟩⟩⟩) ?_
        exact ihJ141 _ (by omega) I243 L144 x251 x151 x155 rfl hI243 (CM.cons S148 (CM.mono S244 (by decide) (by decide)) (by decide) (by decide)) (fun r z0 => ((F245 r z0).trans (F150 r z0))) (by omega) (by omega) e247 (by omega) (by omega) e248 (by omega) (by omega) (by omega) (by omega)
    refine k_istore_n C (lw := [(3, .int x140), (0, .ref r0), (1, .int n1), (2, .int n2)]) rfl rfl (Nat.le_of_ble_eq_true rfl) rfl ?_
    refine k_sub S [(0, .ref r0), (1, .int n1), (2, .int n2), (3, .int x140)] (List.forall_mem_cons.mpr ⟨List.mem_of_getElem? (i := 1) rfl, List.forall_mem_cons.mpr ⟨List.mem_of_getElem? (i := 2) rfl, List.forall_mem_cons.mpr ⟨List.mem_of_getElem? (i := 3) rfl, List.forall_mem_cons.mpr ⟨List.mem_of_getElem? (i := 0) rfl, fun _ h => nomatch h⟩⟩⟩⟩) ?_
    exact J141 _ I36 L37 x140 w_r0_1_4 w_r0_1_5 rfl hI36 CM.rf (fun r z0 => rfl) (by omega) (by omega) e39 (by omega) (by omega) e40 (by omega) (by omega) (by omega) (by omega)
  refine z_iconst C (z := 1) rfl rfl rfl (fun x252 ex252 => ?_)
  refine k_goto C (pc2 := 27) rfl rfl ?_
  refine z_iconst C (z := 1) rfl rfl rfl (fun x253 ex253 => ?_)
  have q254 : x252.toNatClampNeg = 1 := nck (by omega)
  have q255 : x253.toNatClampNeg = 1 := nck (by omega)
  refine c_VI C (a_X12_throwsIf_e hI2 H_r0 (by omega) (by omega)) rfl rfl rfl rfl rfl ⟨_, rfl, rfl, T_r0, Nat.le_of_ble_eq_true rfl⟩ rfl rfl (Nat.le_of_ble_eq_true rfl) (Nat.le_of_ble_eq_true rfl) (Nat.le_of_ble_eq_true rfl) ?_
  rintro x256 I257 L258 ⟨o0x256, o1x256, p0x256, p1x256, hI257, S259⟩
  have e260 := CM.j S259 R_r0_1 (by decide) e4
  have e261 := CM.j S259 R_r0_1 (by decide) e5
  have e263 := CM.j S259 R_r0_1 (by decide) e9
  have e264 := CM.j S259 R_r0_1 (by decide) e29
  have gx256 := rg x256
  obtain ⟨x265, e266⟩ : ∃ x, I257 r0 0 = x := ⟨_, rfl⟩
  have gx265 := rg x265
  try simp only [q254, q255, e4, e5, e6, e9, e29, e266] at p0x256
  try have q0x256 := congrArg Int32.toInt p0x256
  try simp only [q254, q255, e4, e5, e6, e9, e29, e266] at p1x256
  try have q1x256 := congrArg Int32.toInt p1x256
  refine b_if_eq C (t := 36) rfl rfl rfl (fun c267 => by exfalso; omega) (fun c267 => ?_)
  refine z_iconst C (z := 0) rfl rfl rfl (fun x268 ex268 => ?_)
  exact k_iret C rfl (Or.inr ⟨rfl, z01 (by omega) (by omega)⟩) (Nat.le_of_ble_eq_true rfl) (Nat.le_of_ble_eq_true rfl) ⟨_, _, _, rfl, rfl, by omega, by omega, fun a1 h1 => by cases (R_r0_1.symm.trans h1); first | omega | (simp only [e260, e261, e263, e264, e266, k0_r0_1_4, k0_r0_1_5, and_true, true_and, or_true, true_or, and_false, false_and, or_false, false_or] <;> omega), fun a1 h1 => by cases (R_r0_1.symm.trans h1); exact (fun r z0 => ((congrFun (CM.j0 S259 R_r0_1 (by decide)) r).trans (congrFun (CM.j0 S3 R_r0_1 (by decide)) r))), hI257, (CM.cons S3 (CM.mono S259 (by decide) (by decide)) (by decide) (by decide))⟩

theorem a_X12_again_e {d : Nat} {T N : Nat → Nat} {I : IT} {L : LT} {R : RT} {A : Nat → Prop} {r0 : Nat} {n1 n2 : Int32} (hI : IM R r0 I) (H_r0 : (h_MD T N R A) r0) (b0_n1 : 0 ≤ n1.toInt) (b1_n1 : n1.toInt ≤ 39) (b0_n2 : 0 ≤ n2.toInt) (b1_n2 : n2.toInt ≤ 1) : Ex (d + 6) 245 [.ref r0, .int n1, .int n2] (T, N, I, L, R) 0 0 (pI T N R (fun x9 I9 L9 => (∀ a1, R r0 1 = some a1 → (I a1 4).toInt + (I a1 5).toInt ≤ 40 → (I9 a1 4).toInt + (I9 a1 5).toInt ≤ 40) ∧ (∀ a1, R r0 1 = some a1 → ∀ r : Nat, r < 4 → I9 a1 r = I a1 r) ∧ (IM R r0 I9 ∧ CM A R r0 [6, 7, 8, 9] [1, 4, 5] I L I9 L9))) := by
  refine ⟨_, rfl, Nat.le_of_ble_eq_true rfl, fun V C S => ?_⟩
  show V 0 [(0, .ref r0), (1, .int n1), (2, .int n2)] [] (T, N, I, L, R) 0 0
  have gn1 := rg n1
  have gn2 := rg n2
  obtain ⟨T_r0, A_r0, ⟨r0_1, R_r0_1, H_r0_1⟩, ⟨r0_2, R_r0_2, H_r0_2⟩, ⟨r0_4, R_r0_4, H_r0_4⟩, ⟨r0_5, R_r0_5, H_r0_5⟩, ⟨r0_10, R_r0_10, H_r0_10⟩, ⟨r0_18, R_r0_18, H_r0_18⟩, ⟨r0_20, R_r0_20, H_r0_20⟩, ⟨r0_21, R_r0_21, H_r0_21⟩, ⟨r0_22, R_r0_22, H_r0_22⟩, ⟨r0_23, R_r0_23, H_r0_23⟩, ⟨r0_25, R_r0_25, H_r0_25⟩, ⟨r0_26, R_r0_26, H_r0_26⟩, ⟨r0_27, R_r0_27, H_r0_27⟩, ⟨r0_28, R_r0_28, H_r0_28⟩, ⟨r0_34, R_r0_34, H_r0_34⟩, J_r0, Y_r0⟩ := id H_r0
  have G_r0 : mF T R r0 := ⟨J_r0, Y_r0, T_r0⟩
  obtain ⟨w_r0_1_4, k0_r0_1_4⟩ : ∃ x, I r0_1 4 = x := ⟨_, rfl⟩
  have gw_r0_1_4 := rg w_r0_1_4
  have ow_r0_1_4 := IM.c4 hI R_r0_1 k0_r0_1_4
  obtain ⟨w_r0_1_5, k0_r0_1_5⟩ : ∃ x, I r0_1 5 = x := ⟨_, rfl⟩
  have gw_r0_1_5 := rg w_r0_1_5
  have ow_r0_1_5 := IM.c5 hI R_r0_1 k0_r0_1_5
  refine z_sipush C (z := 3406) rfl rfl rfl (fun x1 ex1 => ?_)
  refine z_iconst C (z := 5) rfl rfl rfl (fun x2 ex2 => ?_)
  refine k_iload_n C rfl rfl rfl ?_
  refine z_imulL C (c := 5) rfl rfl (by omega) ⟨by omega, by omega⟩ (fun x3 ex3 => ?_)
  refine z_iadd C rfl rfl ⟨by omega, by omega⟩ (fun x4 ex4 => ?_)
  refine k_istore_n C (lw := [(3, .int x4), (0, .ref r0), (1, .int n1), (2, .int n2)]) rfl rfl (Nat.le_of_ble_eq_true rfl) rfl ?_
  refine k_aload_n C rfl rfl rfl ?_
  refine k_aload_n C rfl rfl rfl ?_
  refine g_R C rfl rfl rfl T_r0 rfl R_r0_1 ?_
  refine k_iload_n C rfl rfl rfl ?_
  refine z_iconst C (z := 1) rfl rfl rfl (fun x5 ex5 => ?_)
  refine z_iadd C rfl rfl ⟨by omega, by omega⟩ (fun x6 ex6 => ?_)
  obtain ⟨T_r0_1, N_r0_1, A_r0_1⟩ := id H_r0_1
  refine z_aI C rfl rfl T_r0_1 N_r0_1 (by omega) (by omega) (fun x7 ex7 => ?_)
  have gx7 := rg x7
  have dx7 := IM.actn hI R_r0_1 (b := n1.toInt) (i := 1) ⟨by omega, by omega⟩ ⟨by decide, by decide⟩ (by omega) ex7
  refine k_aload_n C rfl rfl rfl ?_
  refine g_R C rfl rfl rfl T_r0 rfl R_r0_1 ?_
  refine k_iload_n C rfl rfl rfl ?_
  refine z_iconst C (z := 2) rfl rfl rfl (fun x8 ex8 => ?_)
  refine z_iadd C rfl rfl ⟨by omega, by omega⟩ (fun x9 ex9 => ?_)
  refine z_aI C rfl rfl T_r0_1 N_r0_1 (by omega) (by omega) (fun x10 ex10 => ?_)
  have gx10 := rg x10
  have dx10 := IM.actn hI R_r0_1 (b := n1.toInt) (i := 2) ⟨by omega, by omega⟩ ⟨by decide, by decide⟩ (by omega) ex10
  refine k_aload_n C rfl rfl rfl ?_
  refine g_R C rfl rfl rfl T_r0 rfl R_r0_1 ?_
  refine k_iload_n C rfl rfl rfl ?_
  refine z_iconst C (z := 3) rfl rfl rfl (fun x11 ex11 => ?_)
  refine z_iadd C rfl rfl ⟨by omega, by omega⟩ (fun x12 ex12 => ?_)
  refine z_aI C rfl rfl T_r0_1 N_r0_1 (by omega) (by omega) (fun x13 ex13 => ?_)
  have gx13 := rg x13
  have dx13 := IM.actn hI R_r0_1 (b := n1.toInt) (i := 3) ⟨by omega, by omega⟩ ⟨by decide, by decide⟩ (by omega) ex13
  refine k_aload_n C rfl rfl rfl ?_
  refine g_R C rfl rfl rfl T_r0 rfl R_r0_1 ?_
  refine k_iload_n C rfl rfl rfl ?_
  refine z_iconst C (z := 4) rfl rfl rfl (fun x14 ex14 => ?_)
  refine z_iadd C rfl rfl ⟨by omega, by omega⟩ (fun x15 ex15 => ?_)
  refine z_aI C rfl rfl T_r0_1 N_r0_1 (by omega) (by omega) (fun x16 ex16 => ?_)
  have gx16 := rg x16
  have dx16 := IM.actn hI R_r0_1 (b := n1.toInt) (i := 4) ⟨by omega, by omega⟩ ⟨by decide, by decide⟩ (by omega) ex16
  refine c_VV C (a_X12_takesTable_e hI H_r0 (by omega) (by omega) (by omega) (by omega) (by omega) (by omega) (by omega) (by omega)) rfl rfl rfl rfl rfl ⟨_, rfl, rfl, T_r0, Nat.le_of_ble_eq_true rfl⟩ rfl rfl (Nat.le_of_ble_eq_true rfl) (Nat.le_of_ble_eq_true rfl) (Nat.le_of_ble_eq_true rfl) ?_
  rintro I18 L19 ⟨p0v17, p1v17, p2v17, p3v17, hI18, S20⟩
  have e21 := CM.j S20 R_r0_1 (by decide) k0_r0_1_4
  have e22 := CM.j S20 R_r0_1 (by decide) k0_r0_1_5
  have e23 := CM.j S20 R_r0_1 (by decide) ex7
  have e24 := CM.j S20 R_r0_1 (by decide) ex10
  have e25 := CM.j S20 R_r0_1 (by decide) ex13
  have e26 := CM.j S20 R_r0_1 (by decide) ex16
  obtain ⟨x27, e28⟩ : ∃ x, I18 r0 6 = x := ⟨_, rfl⟩
  have gx27 := rg x27
  have ox27 := IM.f6 hI18 e28
  obtain ⟨x29, e30⟩ : ∃ x, I18 r0 7 = x := ⟨_, rfl⟩
  have gx29 := rg x29
  have ox29 := IM.f7 hI18 e30
  obtain ⟨x31, e32⟩ : ∃ x, I18 r0 8 = x := ⟨_, rfl⟩
  have gx31 := rg x31
  have ox31 := IM.f8 hI18 e32
  obtain ⟨x33, e34⟩ : ∃ x, I18 r0 9 = x := ⟨_, rfl⟩
  have gx33 := rg x33
  have ox33 := IM.f9 hI18 e34
  try simp only [k0_r0_1_4, k0_r0_1_5, ex7, ex10, ex13, ex16, e28, e30, e32, e34] at p0v17
  try have q0v17 := congrArg Int32.toInt p0v17
  try simp only [k0_r0_1_4, k0_r0_1_5, ex7, ex10, ex13, ex16, e28, e30, e32, e34] at p1v17
  try have q1v17 := congrArg Int32.toInt p1v17
  try simp only [k0_r0_1_4, k0_r0_1_5, ex7, ex10, ex13, ex16, e28, e30, e32, e34] at p2v17
  try have q2v17 := congrArg Int32.toInt p2v17
  try simp only [k0_r0_1_4, k0_r0_1_5, ex7, ex10, ex13, ex16, e28, e30, e32, e34] at p3v17
  try have q3v17 := congrArg Int32.toInt p3v17
  refine k_iload_n C rfl rfl rfl ?_
  refine b_if_eq C (t := 52) rfl rfl rfl (fun c35 => ?_) (fun c35 => ?_)
  · skip
    refine k_aload_n C rfl rfl rfl ?_
    refine k_aload_n C rfl rfl rfl ?_
    refine g_R C rfl rfl rfl T_r0 rfl R_r0_1 ?_
    refine k_iload_n C rfl rfl rfl ?_
    refine z_aI C rfl rfl T_r0_1 N_r0_1 (by omega) (by omega) (fun x36 ex36 => ?_)
    have gx36 := rg x36
    have dx36 := IM.act hI18 R_r0_1 (b := n1.toInt) ⟨by omega, by omega⟩ (by omega) ex36
    refine c_VI C (a_X12_mixesForm_e hI18 H_r0 (by omega) (by omega)) rfl rfl rfl rfl rfl ⟨_, rfl, rfl, T_r0, Nat.le_of_ble_eq_true rfl⟩ rfl rfl (Nat.le_of_ble_eq_true rfl) (Nat.le_of_ble_eq_true rfl) (Nat.le_of_ble_eq_true rfl) ?_
    rintro x37 I38 L39 ⟨o0x37, o1x37, p0x37, p1x37, hI38, S40⟩
    have p0x37 := p0x37 r0_1 R_r0_1
    have p1x37 := p1x37 r0_1 R_r0_1
    have F41 : ∀ r : Nat, r < 4 → I38 r0_1 r = I18 r0_1 r := fun r z0 => p1x37 r z0
    have e48 := CM.k S40 (by decide) e28
    have e49 := CM.k S40 (by decide) e30
    have e50 := CM.k S40 (by decide) e32
    have e51 := CM.k S40 (by decide) e34
    have gx37 := rg x37
    obtain ⟨x53, e54⟩ : ∃ x, I38 r0_1 4 = x := ⟨_, rfl⟩
    have gx53 := rg x53
    have ox53 := IM.c4 hI38 R_r0_1 e54
    obtain ⟨x55, e56⟩ : ∃ x, I38 r0_1 5 = x := ⟨_, rfl⟩
    have gx55 := rg x55
    have ox55 := IM.c5 hI38 R_r0_1 e56
    try simp only [e21, e22, e23, e24, e25, e26, e28, e30, e32, e34, ex36, e54, e56] at p0x37
    try have q0x37 := congrArg Int32.toInt p0x37
    refine k_pop C rfl rfl rfl ?_
    refine k_aload_n C rfl rfl rfl ?_
    refine g_R C rfl rfl rfl T_r0 rfl R_r0_1 ?_
    refine k_iload_n C rfl rfl rfl ?_
    refine z_aI C rfl rfl T_r0_1 N_r0_1 (by omega) (by omega) (fun x57 ex57 => ?_)
    have gx57 := rg x57
    exact k_iret C rfl (Or.inl rfl) (Nat.le_of_ble_eq_true rfl) (Nat.le_of_ble_eq_true rfl) ⟨_, _, _, rfl, rfl, fun a1 h1 => by cases (R_r0_1.symm.trans h1); first | omega | (simp only [e48, e49, e50, e51, e54, e56, ex57, k0_r0_1_4, k0_r0_1_5, and_true, true_and, or_true, true_or, and_false, false_and, or_false, false_or] <;> omega), fun a1 h1 => by cases (R_r0_1.symm.trans h1); exact (fun r z0 => ((F41 r z0).trans (congrFun (CM.j0 S20 R_r0_1 (by decide)) r))), hI38, (CM.cons S20 (CM.mono S40 (by decide) (by decide)) (by decide) (by decide))⟩
  refine k_aload_n C rfl rfl rfl ?_
  refine c_VV C (a_X12_turnsBack hI18 H_r0) rfl rfl rfl rfl rfl ⟨_, rfl, rfl, T_r0, Nat.le_of_ble_eq_true rfl⟩ rfl rfl (Nat.le_of_ble_eq_true rfl) (Nat.le_of_ble_eq_true rfl) (Nat.le_of_ble_eq_true rfl) ?_
  rintro I59 L60 ⟨hI59, S61⟩
  have e62 := CM.j S61 R_r0_1 (by decide) e21
  have e63 := CM.j S61 R_r0_1 (by decide) e22
  have e64 := CM.j S61 R_r0_1 (by decide) e23
  have e65 := CM.j S61 R_r0_1 (by decide) e24
  have e66 := CM.j S61 R_r0_1 (by decide) e25
  have e67 := CM.j S61 R_r0_1 (by decide) e26
  refine k_aload_n C rfl rfl rfl ?_
  refine k_aload_n C rfl rfl rfl ?_
  refine g_R C rfl rfl rfl T_r0 rfl R_r0_1 ?_
  refine k_iload_n C rfl rfl rfl ?_
  refine z_aI C rfl rfl T_r0_1 N_r0_1 (by omega) (by omega) (fun x72 ex72 => ?_)
  have gx72 := rg x72
  have dx72 := IM.act hI59 R_r0_1 (b := n1.toInt) ⟨by omega, by omega⟩ (by omega) ex72
  refine c_VI C (a_X12_mixesForm_e hI59 H_r0 (by omega) (by omega)) rfl rfl rfl rfl rfl ⟨_, rfl, rfl, T_r0, Nat.le_of_ble_eq_true rfl⟩ rfl rfl (Nat.le_of_ble_eq_true rfl) (Nat.le_of_ble_eq_true rfl) (Nat.le_of_ble_eq_true rfl) ?_
  rintro x73 I74 L75 ⟨o0x73, o1x73, p0x73, p1x73, hI74, S76⟩
  have p0x73 := p0x73 r0_1 R_r0_1
  have p1x73 := p1x73 r0_1 R_r0_1
  have F77 : ∀ r : Nat, r < 4 → I74 r0_1 r = I59 r0_1 r := fun r z0 => p1x73 r z0
  have gx73 := rg x73
  obtain ⟨x85, e86⟩ : ∃ x, I74 r0_1 4 = x := ⟨_, rfl⟩
  have gx85 := rg x85
  have ox85 := IM.c4 hI74 R_r0_1 e86
  obtain ⟨x87, e88⟩ : ∃ x, I74 r0_1 5 = x := ⟨_, rfl⟩
  have gx87 := rg x87
  have ox87 := IM.c5 hI74 R_r0_1 e88
  try simp only [e62, e63, e64, e65, e66, e67, ex72, e86, e88] at p0x73
  try have q0x73 := congrArg Int32.toInt p0x73
  refine k_pop C rfl rfl rfl ?_
  refine k_aload_n C rfl rfl rfl ?_
  refine g_R C rfl rfl rfl T_r0 rfl R_r0_1 ?_
  refine k_iload_n C rfl rfl rfl ?_
  refine z_aI C rfl rfl T_r0_1 N_r0_1 (by omega) (by omega) (fun x89 ex89 => ?_)
  have gx89 := rg x89
  exact k_iret C rfl (Or.inl rfl) (Nat.le_of_ble_eq_true rfl) (Nat.le_of_ble_eq_true rfl) ⟨_, _, _, rfl, rfl, fun a1 h1 => by cases (R_r0_1.symm.trans h1); first | omega | (simp only [e86, e88, ex89, k0_r0_1_4, k0_r0_1_5, and_true, true_and, or_true, true_or, and_false, false_and, or_false, false_or] <;> omega), fun a1 h1 => by cases (R_r0_1.symm.trans h1); exact (fun r z0 => ((F77 r z0).trans ((congrFun (CM.j0 S61 R_r0_1 (by decide)) r).trans (congrFun (CM.j0 S20 R_r0_1 (by decide)) r)))), hI74, (CM.cons S20 (CM.cons S61 (CM.mono S76 (by decide) (by decide)) (by decide) (by decide)) (by decide) (by decide))⟩

theorem a_X12_undo_e {d : Nat} {T N : Nat → Nat} {I : IT} {L : LT} {R : RT} {A : Nat → Prop} {r0 : Nat} (hI : IM R r0 I) (H_r0 : (h_MD T N R A) r0) (hp0 : ∀ a1, R r0 1 = some a1 → (I a1 4).toInt + (I a1 5).toInt ≤ 40) : Ex (d + 7) 246 [.ref r0] (T, N, I, L, R) 0 0 (pI T N R (fun x9 I9 L9 => (∀ a1, R r0 1 = some a1 → (I9 a1 4).toInt + (I9 a1 5).toInt ≤ 40) ∧ (∀ a1, R r0 1 = some a1 → ∀ r : Nat, r < 4 → I9 a1 r = I a1 r) ∧ (IM R r0 I9 ∧ CM A R r0 [0, 6, 7, 8, 9] [1, 4, 5] I L I9 L9))) := by
  refine ⟨_, rfl, Nat.le_of_ble_eq_true rfl, fun V C S => ?_⟩
  show V 0 [(0, .ref r0)] [] (T, N, I, L, R) 0 0
  obtain ⟨T_r0, A_r0, ⟨r0_1, R_r0_1, H_r0_1⟩, ⟨r0_2, R_r0_2, H_r0_2⟩, ⟨r0_4, R_r0_4, H_r0_4⟩, ⟨r0_5, R_r0_5, H_r0_5⟩, ⟨r0_10, R_r0_10, H_r0_10⟩, ⟨r0_18, R_r0_18, H_r0_18⟩, ⟨r0_20, R_r0_20, H_r0_20⟩, ⟨r0_21, R_r0_21, H_r0_21⟩, ⟨r0_22, R_r0_22, H_r0_22⟩, ⟨r0_23, R_r0_23, H_r0_23⟩, ⟨r0_25, R_r0_25, H_r0_25⟩, ⟨r0_26, R_r0_26, H_r0_26⟩, ⟨r0_27, R_r0_27, H_r0_27⟩, ⟨r0_28, R_r0_28, H_r0_28⟩, ⟨r0_34, R_r0_34, H_r0_34⟩, J_r0, Y_r0⟩ := id H_r0
  have G_r0 : mF T R r0 := ⟨J_r0, Y_r0, T_r0⟩
  obtain ⟨w_r0_1_4, k0_r0_1_4⟩ : ∃ x, I r0_1 4 = x := ⟨_, rfl⟩
  have gw_r0_1_4 := rg w_r0_1_4
  have ow_r0_1_4 := IM.c4 hI R_r0_1 k0_r0_1_4
  obtain ⟨w_r0_1_5, k0_r0_1_5⟩ : ∃ x, I r0_1 5 = x := ⟨_, rfl⟩
  have gw_r0_1_5 := rg w_r0_1_5
  have ow_r0_1_5 := IM.c5 hI R_r0_1 k0_r0_1_5
  have hp0 := hp0 r0_1 R_r0_1
  try simp only [k0_r0_1_4, k0_r0_1_5] at hp0
  refine k_aload_n C rfl rfl rfl ?_
  refine z_iconst C (z := 0) rfl rfl rfl (fun x1 ex1 => ?_)
  refine z_pI C rfl rfl rfl T_r0 (Or.inr rfl) rfl (fun I2 uI2 => ?_)
  have hI2 : IM R r0 I2 := IM.fld hI G_r0 ⟨(fun h => absurd h (by decide)), (fun h => absurd h (by decide)), (fun h => absurd h (by decide)), (fun h => absurd h (by decide)), (fun h => absurd h (by decide))⟩ uI2
  have S3 : CM A R r0 [0] [] I L I2 L := CM.f G_r0 A_r0 uI2
  have e4 := u2_n uI2 (mF.ne G_r0 R_r0_1) k0_r0_1_4
  have e5 := u2_n uI2 (mF.ne G_r0 R_r0_1) k0_r0_1_5
  have e6 := u2_e uI2
  refine k_aload_n C rfl rfl rfl ?_
  refine g_R C rfl rfl rfl T_r0 rfl R_r0_1 ?_
  refine z_iconst C (z := 4) rfl rfl rfl (fun x7 ex7 => ?_)
  obtain ⟨T_r0_1, N_r0_1, A_r0_1⟩ := id H_r0_1
  refine a_I C rfl rfl T_r0_1 (by rw [N_r0_1]; exact vpi (by omega) (by omega)) ((congrArg (I2 r0_1) (nck (n := 4) (by omega))).trans e4) ?_
  refine b_if_ne C (t := 16) rfl rfl rfl (fun c8 => ?_) (fun c8 => ?_)
  · skip
    refine k_aload_n C rfl rfl rfl ?_
    refine g_R C rfl rfl rfl T_r0 rfl R_r0_1 ?_
    refine z_iconst C (z := 4) rfl rfl rfl (fun x9 ex9 => ?_)
    refine k_dup2 C rfl rfl rfl rfl ?_
    refine a_I C rfl rfl T_r0_1 (by rw [N_r0_1]; exact vpi (by omega) (by omega)) ((congrArg (I2 r0_1) (nck (n := 4) (by omega))).trans e4) ?_
    refine z_iconst C (z := 1) rfl rfl rfl (fun x10 ex10 => ?_)
    refine z_isub C rfl rfl ⟨by omega, by omega⟩ (fun x11 ex11 => ?_)
    refine z_sI C rfl rfl T_r0_1 N_r0_1 (by omega) (by omega) (fun I12 uI12 => ?_)
    have uI12 : I12 = u2 I2 r0_1 4 (x11) := by rw [uI12, nck (n := 4) (by omega)]
    have hI12 : IM R r0 I12 := IM.arr hI2 G_r0 R_r0_1 ⟨(fun h => absurd h (by decide)), (fun h => absurd h (by decide)), (fun h => absurd h (by decide))⟩ (fun _ => WOK.c4 (IM.w hI2 R_r0_1) (by omega) (by omega)) uI12
    have S13 : CM A R r0 [] [1] I2 L I12 L := CM.a G_r0 R_r0_1 A_r0_1 uI12
    have F14 : ∀ r : Nat, r < 4 → I12 r0_1 r = I2 r0_1 r := fun r z0 => by rw [uI12]; exact u2_k (by have h2 := ncz (x := x9) (by omega); omega)
    have e16 := u2_j uI12 (by first | decide | exact ncne (by omega) (by omega) (by omega) | exact nckn (by omega) (by omega) | exact (nckn (by omega) (by omega)).symm) e5
    have e17 := u2_n uI12 (fun e => (mF.ne G_r0 R_r0_1) e.symm) e6
    have e18 := u2_e uI12
    refine k_aload_n C rfl rfl rfl ?_
    refine g_R C rfl rfl rfl T_r0 rfl R_r0_1 ?_
    refine z_iconst C (z := 5) rfl rfl rfl (fun x19 ex19 => ?_)
    refine k_dup2 C rfl rfl rfl rfl ?_
    refine a_I C rfl rfl T_r0_1 (by rw [N_r0_1]; exact vpi (by omega) (by omega)) ((congrArg (I12 r0_1) (nck (n := 5) (by omega))).trans e16) ?_
    refine z_iconst C (z := 1) rfl rfl rfl (fun x20 ex20 => ?_)
    refine z_iadd C rfl rfl ⟨by omega, by omega⟩ (fun x21 ex21 => ?_)
    refine z_sI C rfl rfl T_r0_1 N_r0_1 (by omega) (by omega) (fun I22 uI22 => ?_)
    have uI22 : I22 = u2 I12 r0_1 5 (x21) := by rw [uI22, nck (n := 5) (by omega)]
    have hI22 : IM R r0 I22 := IM.arr hI12 G_r0 R_r0_1 ⟨(fun h => absurd h (by decide)), (fun h => absurd h (by decide)), (fun h => absurd h (by decide))⟩ (fun _ => WOK.c5 (IM.w hI12 R_r0_1) (by omega) (by omega)) uI22
    have S23 : CM A R r0 [] [1] I12 L I22 L := CM.a G_r0 R_r0_1 A_r0_1 uI22
    have F24 : ∀ r : Nat, r < 4 → I22 r0_1 r = I12 r0_1 r := fun r z0 => by rw [uI22]; exact u2_k (by have h2 := ncz (x := x19) (by omega); omega)
    have e26 := u2_n uI22 (fun e => (mF.ne G_r0 R_r0_1) e.symm) e17
    have e27 := u2_j uI22 (by first | decide | exact ncne (by omega) (by omega) (by omega) | exact nckn (by omega) (by omega) | exact (nckn (by omega) (by omega)).symm) e18
    have e28 := u2_e uI22
    refine k_aload_n C rfl rfl rfl ?_
    refine k_aload_n C rfl rfl rfl ?_
    refine g_R C rfl rfl rfl T_r0 rfl R_r0_1 ?_
    refine z_iconst C (z := 4) rfl rfl rfl (fun x29 ex29 => ?_)
    refine a_I C rfl rfl T_r0_1 (by rw [N_r0_1]; exact vpi (by omega) (by omega)) ((congrArg (I22 r0_1) (nck (n := 4) (by omega))).trans e27) ?_
    refine z_iconst C (z := 1) rfl rfl rfl (fun x30 ex30 => ?_)
    have q31 : x30.toNatClampNeg = 1 := nck (by omega)
    refine c_VI C (a_X12_again_e hI22 H_r0 (by omega) (by omega) (by omega) (by omega)) rfl rfl rfl rfl rfl ⟨_, rfl, rfl, T_r0, Nat.le_of_ble_eq_true rfl⟩ rfl rfl (Nat.le_of_ble_eq_true rfl) (Nat.le_of_ble_eq_true rfl) (Nat.le_of_ble_eq_true rfl) ?_
    rintro x32 I33 L34 ⟨p0x32, p1x32, hI33, S35⟩
    have p0x32 := p0x32 r0_1 R_r0_1
    have p1x32 := p1x32 r0_1 R_r0_1
    have F36 : ∀ r : Nat, r < 4 → I33 r0_1 r = I22 r0_1 r := fun r z0 => p1x32 r z0
    have e37 := CM.k S35 (by decide) e26
    have gx32 := rg x32
    obtain ⟨x40, e41⟩ : ∃ x, I33 r0_1 4 = x := ⟨_, rfl⟩
    have gx40 := rg x40
    have ox40 := IM.c4 hI33 R_r0_1 e41
    obtain ⟨x42, e43⟩ : ∃ x, I33 r0_1 5 = x := ⟨_, rfl⟩
    have gx42 := rg x42
    have ox42 := IM.c5 hI33 R_r0_1 e43
    try simp only [q31, e26, e27, e28, e41, e43] at p0x32
    try have q0x32 := congrArg Int32.toInt p0x32
    exact k_iret C rfl (Or.inl rfl) (Nat.le_of_ble_eq_true rfl) (Nat.le_of_ble_eq_true rfl) ⟨_, _, _, rfl, rfl, fun a1 h1 => by cases (R_r0_1.symm.trans h1); first | omega | (simp only [e37, e41, e43, k0_r0_1_4, k0_r0_1_5, and_true, true_and, or_true, true_or, and_false, false_and, or_false, false_or] <;> omega), fun a1 h1 => by cases (R_r0_1.symm.trans h1); exact (fun r z0 => ((F36 r z0).trans ((F24 r z0).trans ((F14 r z0).trans (congrFun (CM.j0 S3 R_r0_1 (by decide)) r))))), hI33, (CM.cons S3 (CM.cons S13 (CM.cons S23 (CM.mono S35 (by decide) (by decide)) (by decide) (by decide)) (by decide) (by decide)) (by decide) (by decide))⟩
  refine z_iconst C (z := -1) rfl rfl rfl (fun x44 ex44 => ?_)
  exact k_iret C rfl (Or.inl rfl) (Nat.le_of_ble_eq_true rfl) (Nat.le_of_ble_eq_true rfl) ⟨_, _, _, rfl, rfl, fun a1 h1 => by cases (R_r0_1.symm.trans h1); first | omega | (simp only [e4, e5, e6, k0_r0_1_4, k0_r0_1_5, and_true, true_and, or_true, true_or, and_false, false_and, or_false, false_or] <;> omega), fun a1 h1 => by cases (R_r0_1.symm.trans h1); exact (fun r z0 => (congrFun (CM.j0 S3 R_r0_1 (by decide)) r)), hI2, (CM.mono S3 (by decide) (by decide))⟩

theorem a_X12_redo_e {d : Nat} {T N : Nat → Nat} {I : IT} {L : LT} {R : RT} {A : Nat → Prop} {r0 : Nat} (hI : IM R r0 I) (H_r0 : (h_MD T N R A) r0) (hp0 : ∀ a1, R r0 1 = some a1 → (I a1 4).toInt + (I a1 5).toInt ≤ 40) : Ex (d + 7) 247 [.ref r0] (T, N, I, L, R) 0 0 (pI T N R (fun x9 I9 L9 => (∀ a1, R r0 1 = some a1 → (I9 a1 4).toInt + (I9 a1 5).toInt ≤ 40) ∧ (∀ a1, R r0 1 = some a1 → ∀ r : Nat, r < 4 → I9 a1 r = I a1 r) ∧ (IM R r0 I9 ∧ CM A R r0 [0, 6, 7, 8, 9] [1, 4, 5] I L I9 L9))) := by
  refine ⟨_, rfl, Nat.le_of_ble_eq_true rfl, fun V C S => ?_⟩
  show V 0 [(0, .ref r0)] [] (T, N, I, L, R) 0 0
  obtain ⟨T_r0, A_r0, ⟨r0_1, R_r0_1, H_r0_1⟩, ⟨r0_2, R_r0_2, H_r0_2⟩, ⟨r0_4, R_r0_4, H_r0_4⟩, ⟨r0_5, R_r0_5, H_r0_5⟩, ⟨r0_10, R_r0_10, H_r0_10⟩, ⟨r0_18, R_r0_18, H_r0_18⟩, ⟨r0_20, R_r0_20, H_r0_20⟩, ⟨r0_21, R_r0_21, H_r0_21⟩, ⟨r0_22, R_r0_22, H_r0_22⟩, ⟨r0_23, R_r0_23, H_r0_23⟩, ⟨r0_25, R_r0_25, H_r0_25⟩, ⟨r0_26, R_r0_26, H_r0_26⟩, ⟨r0_27, R_r0_27, H_r0_27⟩, ⟨r0_28, R_r0_28, H_r0_28⟩, ⟨r0_34, R_r0_34, H_r0_34⟩, J_r0, Y_r0⟩ := id H_r0
  have G_r0 : mF T R r0 := ⟨J_r0, Y_r0, T_r0⟩
  obtain ⟨w_r0_1_4, k0_r0_1_4⟩ : ∃ x, I r0_1 4 = x := ⟨_, rfl⟩
  have gw_r0_1_4 := rg w_r0_1_4
  have ow_r0_1_4 := IM.c4 hI R_r0_1 k0_r0_1_4
  obtain ⟨w_r0_1_5, k0_r0_1_5⟩ : ∃ x, I r0_1 5 = x := ⟨_, rfl⟩
  have gw_r0_1_5 := rg w_r0_1_5
  have ow_r0_1_5 := IM.c5 hI R_r0_1 k0_r0_1_5
  have hp0 := hp0 r0_1 R_r0_1
  try simp only [k0_r0_1_4, k0_r0_1_5] at hp0
  refine k_aload_n C rfl rfl rfl ?_
  refine z_iconst C (z := 0) rfl rfl rfl (fun x1 ex1 => ?_)
  refine z_pI C rfl rfl rfl T_r0 (Or.inr rfl) rfl (fun I2 uI2 => ?_)
  have hI2 : IM R r0 I2 := IM.fld hI G_r0 ⟨(fun h => absurd h (by decide)), (fun h => absurd h (by decide)), (fun h => absurd h (by decide)), (fun h => absurd h (by decide)), (fun h => absurd h (by decide))⟩ uI2
  have S3 : CM A R r0 [0] [] I L I2 L := CM.f G_r0 A_r0 uI2
  have e4 := u2_n uI2 (mF.ne G_r0 R_r0_1) k0_r0_1_4
  have e5 := u2_n uI2 (mF.ne G_r0 R_r0_1) k0_r0_1_5
  have e6 := u2_e uI2
  refine k_aload_n C rfl rfl rfl ?_
  refine g_R C rfl rfl rfl T_r0 rfl R_r0_1 ?_
  refine z_iconst C (z := 5) rfl rfl rfl (fun x7 ex7 => ?_)
  obtain ⟨T_r0_1, N_r0_1, A_r0_1⟩ := id H_r0_1
  refine a_I C rfl rfl T_r0_1 (by rw [N_r0_1]; exact vpi (by omega) (by omega)) ((congrArg (I2 r0_1) (nck (n := 5) (by omega))).trans e5) ?_
  refine b_if_ne C (t := 16) rfl rfl rfl (fun c8 => ?_) (fun c8 => ?_)
  · skip
    refine k_aload_n C rfl rfl rfl ?_
    refine g_R C rfl rfl rfl T_r0 rfl R_r0_1 ?_
    refine z_iconst C (z := 4) rfl rfl rfl (fun x9 ex9 => ?_)
    refine k_dup2 C rfl rfl rfl rfl ?_
    refine a_I C rfl rfl T_r0_1 (by rw [N_r0_1]; exact vpi (by omega) (by omega)) ((congrArg (I2 r0_1) (nck (n := 4) (by omega))).trans e4) ?_
    refine z_iconst C (z := 1) rfl rfl rfl (fun x10 ex10 => ?_)
    refine z_iadd C rfl rfl ⟨by omega, by omega⟩ (fun x11 ex11 => ?_)
    refine z_sI C rfl rfl T_r0_1 N_r0_1 (by omega) (by omega) (fun I12 uI12 => ?_)
    have uI12 : I12 = u2 I2 r0_1 4 (x11) := by rw [uI12, nck (n := 4) (by omega)]
    have hI12 : IM R r0 I12 := IM.arr hI2 G_r0 R_r0_1 ⟨(fun h => absurd h (by decide)), (fun h => absurd h (by decide)), (fun h => absurd h (by decide))⟩ (fun _ => WOK.c4 (IM.w hI2 R_r0_1) (by omega) (by omega)) uI12
    have S13 : CM A R r0 [] [1] I2 L I12 L := CM.a G_r0 R_r0_1 A_r0_1 uI12
    have F14 : ∀ r : Nat, r < 4 → I12 r0_1 r = I2 r0_1 r := fun r z0 => by rw [uI12]; exact u2_k (by have h2 := ncz (x := x9) (by omega); omega)
    have e16 := u2_j uI12 (by first | decide | exact ncne (by omega) (by omega) (by omega) | exact nckn (by omega) (by omega) | exact (nckn (by omega) (by omega)).symm) e5
    have e17 := u2_n uI12 (fun e => (mF.ne G_r0 R_r0_1) e.symm) e6
    have e18 := u2_e uI12
    refine k_aload_n C rfl rfl rfl ?_
    refine g_R C rfl rfl rfl T_r0 rfl R_r0_1 ?_
    refine z_iconst C (z := 5) rfl rfl rfl (fun x19 ex19 => ?_)
    refine k_dup2 C rfl rfl rfl rfl ?_
    refine a_I C rfl rfl T_r0_1 (by rw [N_r0_1]; exact vpi (by omega) (by omega)) ((congrArg (I12 r0_1) (nck (n := 5) (by omega))).trans e16) ?_
    refine z_iconst C (z := 1) rfl rfl rfl (fun x20 ex20 => ?_)
    refine z_isub C rfl rfl ⟨by omega, by omega⟩ (fun x21 ex21 => ?_)
    refine z_sI C rfl rfl T_r0_1 N_r0_1 (by omega) (by omega) (fun I22 uI22 => ?_)
    have uI22 : I22 = u2 I12 r0_1 5 (x21) := by rw [uI22, nck (n := 5) (by omega)]
    have hI22 : IM R r0 I22 := IM.arr hI12 G_r0 R_r0_1 ⟨(fun h => absurd h (by decide)), (fun h => absurd h (by decide)), (fun h => absurd h (by decide))⟩ (fun _ => WOK.c5 (IM.w hI12 R_r0_1) (by omega) (by omega)) uI22
    have S23 : CM A R r0 [] [1] I12 L I22 L := CM.a G_r0 R_r0_1 A_r0_1 uI22
    have F24 : ∀ r : Nat, r < 4 → I22 r0_1 r = I12 r0_1 r := fun r z0 => by rw [uI22]; exact u2_k (by have h2 := ncz (x := x19) (by omega); omega)
    have e26 := u2_n uI22 (fun e => (mF.ne G_r0 R_r0_1) e.symm) e17
    have e27 := u2_j uI22 (by first | decide | exact ncne (by omega) (by omega) (by omega) | exact nckn (by omega) (by omega) | exact (nckn (by omega) (by omega)).symm) e18
    have e28 := u2_e uI22
    refine k_aload_n C rfl rfl rfl ?_
    refine k_aload_n C rfl rfl rfl ?_
    refine g_R C rfl rfl rfl T_r0 rfl R_r0_1 ?_
    refine z_iconst C (z := 4) rfl rfl rfl (fun x29 ex29 => ?_)
    refine a_I C rfl rfl T_r0_1 (by rw [N_r0_1]; exact vpi (by omega) (by omega)) ((congrArg (I22 r0_1) (nck (n := 4) (by omega))).trans e27) ?_
    refine z_iconst C (z := 1) rfl rfl rfl (fun x30 ex30 => ?_)
    refine z_isub C rfl rfl ⟨by omega, by omega⟩ (fun x31 ex31 => ?_)
    refine z_iconst C (z := 0) rfl rfl rfl (fun x32 ex32 => ?_)
    have q33 : x32.toNatClampNeg = 0 := nck (by omega)
    refine c_VI C (a_X12_again_e hI22 H_r0 (by omega) (by omega) (by omega) (by omega)) rfl rfl rfl rfl rfl ⟨_, rfl, rfl, T_r0, Nat.le_of_ble_eq_true rfl⟩ rfl rfl (Nat.le_of_ble_eq_true rfl) (Nat.le_of_ble_eq_true rfl) (Nat.le_of_ble_eq_true rfl) ?_
    rintro x34 I35 L36 ⟨p0x34, p1x34, hI35, S37⟩
    have p0x34 := p0x34 r0_1 R_r0_1
    have p1x34 := p1x34 r0_1 R_r0_1
    have F38 : ∀ r : Nat, r < 4 → I35 r0_1 r = I22 r0_1 r := fun r z0 => p1x34 r z0
    have e39 := CM.k S37 (by decide) e26
    have gx34 := rg x34
    obtain ⟨x42, e43⟩ : ∃ x, I35 r0_1 4 = x := ⟨_, rfl⟩
    have gx42 := rg x42
    have ox42 := IM.c4 hI35 R_r0_1 e43
    obtain ⟨x44, e45⟩ : ∃ x, I35 r0_1 5 = x := ⟨_, rfl⟩
    have gx44 := rg x44
    have ox44 := IM.c5 hI35 R_r0_1 e45
    try simp only [q33, e26, e27, e28, e43, e45] at p0x34
    try have q0x34 := congrArg Int32.toInt p0x34
    exact k_iret C rfl (Or.inl rfl) (Nat.le_of_ble_eq_true rfl) (Nat.le_of_ble_eq_true rfl) ⟨_, _, _, rfl, rfl, fun a1 h1 => by cases (R_r0_1.symm.trans h1); first | omega | (simp only [e39, e43, e45, k0_r0_1_4, k0_r0_1_5, and_true, true_and, or_true, true_or, and_false, false_and, or_false, false_or] <;> omega), fun a1 h1 => by cases (R_r0_1.symm.trans h1); exact (fun r z0 => ((F38 r z0).trans ((F24 r z0).trans ((F14 r z0).trans (congrFun (CM.j0 S3 R_r0_1 (by decide)) r))))), hI35, (CM.cons S3 (CM.cons S13 (CM.cons S23 (CM.mono S37 (by decide) (by decide)) (by decide) (by decide)) (by decide) (by decide)) (by decide) (by decide))⟩
  refine z_iconst C (z := -1) rfl rfl rfl (fun x46 ex46 => ?_)
  exact k_iret C rfl (Or.inl rfl) (Nat.le_of_ble_eq_true rfl) (Nat.le_of_ble_eq_true rfl) ⟨_, _, _, rfl, rfl, fun a1 h1 => by cases (R_r0_1.symm.trans h1); first | omega | (simp only [e4, e5, e6, k0_r0_1_4, k0_r0_1_5, and_true, true_and, or_true, true_or, and_false, false_and, or_false, false_or] <;> omega), fun a1 h1 => by cases (R_r0_1.symm.trans h1); exact (fun r z0 => (congrFun (CM.j0 S3 R_r0_1 (by decide)) r)), hI2, (CM.mono S3 (by decide) (by decide))⟩

set_option maxHeartbeats 8000000 in
theorem a_X12_signs_e {d : Nat} {T N : Nat → Nat} {I : IT} {L : LT} {R : RT} {A : Nat → Prop} {r0 : Nat} (hI : IM R r0 I) (H_r0 : (h_MD T N R A) r0) : Ex (d + 31) 231 [.ref r0] (T, N, I, L, R) 0 0 (pI T N R (fun x9 I9 L9 => (0 ≤ x9.toInt) ∧ (x9.toInt ≤ 8) ∧ (∀ a1, R r0 1 = some a1 → (I a1 4).toInt + (I a1 5).toInt ≤ 40 → (I9 a1 4).toInt + (I9 a1 5).toInt ≤ 40) ∧ ((I9 r0 11).toInt = 0) ∧ (∀ a1, R r0 1 = some a1 → (I9 a1 0).toInt = (I a1 0).toInt) ∧ (∀ a1, R r0 1 = some a1 → (I9 a1 1).toInt = (I a1 1).toInt) ∧ (∀ a1, R r0 1 = some a1 → (I9 a1 2).toInt = (I a1 2).toInt) ∧ (IM R r0 I9 ∧ CM A R r0 [0, 11, 12, 13, 14, 15, 16, 17, 19] [1] I L I9 L9))) := by
  refine ⟨_, rfl, Nat.le_of_ble_eq_true rfl, fun V C S => ?_⟩
  show V 0 [(0, .ref r0)] [] (T, N, I, L, R) 0 0
  obtain ⟨T_r0, A_r0, ⟨r0_1, R_r0_1, H_r0_1⟩, ⟨r0_2, R_r0_2, H_r0_2⟩, ⟨r0_4, R_r0_4, H_r0_4⟩, ⟨r0_5, R_r0_5, H_r0_5⟩, ⟨r0_10, R_r0_10, H_r0_10⟩, ⟨r0_18, R_r0_18, H_r0_18⟩, ⟨r0_20, R_r0_20, H_r0_20⟩, ⟨r0_21, R_r0_21, H_r0_21⟩, ⟨r0_22, R_r0_22, H_r0_22⟩, ⟨r0_23, R_r0_23, H_r0_23⟩, ⟨r0_25, R_r0_25, H_r0_25⟩, ⟨r0_26, R_r0_26, H_r0_26⟩, ⟨r0_27, R_r0_27, H_r0_27⟩, ⟨r0_28, R_r0_28, H_r0_28⟩, ⟨r0_34, R_r0_34, H_r0_34⟩, J_r0, Y_r0⟩ := id H_r0
  have G_r0 : mF T R r0 := ⟨J_r0, Y_r0, T_r0⟩
  obtain ⟨w_r0_1_0, k0_r0_1_0⟩ : ∃ x, I r0_1 0 = x := ⟨_, rfl⟩
  have gw_r0_1_0 := rg w_r0_1_0
  have ow_r0_1_0 := IM.pi hI R_r0_1 k0_r0_1_0
  obtain ⟨w_r0_1_1, k0_r0_1_1⟩ : ∃ x, I r0_1 1 = x := ⟨_, rfl⟩
  have gw_r0_1_1 := rg w_r0_1_1
  have ow_r0_1_1 := IM.c1 hI R_r0_1 k0_r0_1_1
  obtain ⟨w_r0_1_2, k0_r0_1_2⟩ : ∃ x, I r0_1 2 = x := ⟨_, rfl⟩
  have gw_r0_1_2 := rg w_r0_1_2
  have ow_r0_1_2 := IM.c2 hI R_r0_1 k0_r0_1_2
  obtain ⟨w_r0_1_3, k0_r0_1_3⟩ : ∃ x, I r0_1 3 = x := ⟨_, rfl⟩
  have gw_r0_1_3 := rg w_r0_1_3
  have ow_r0_1_3 := IM.c3 hI R_r0_1 k0_r0_1_3
  obtain ⟨w_r0_1_4, k0_r0_1_4⟩ : ∃ x, I r0_1 4 = x := ⟨_, rfl⟩
  have gw_r0_1_4 := rg w_r0_1_4
  have ow_r0_1_4 := IM.c4 hI R_r0_1 k0_r0_1_4
  obtain ⟨w_r0_1_5, k0_r0_1_5⟩ : ∃ x, I r0_1 5 = x := ⟨_, rfl⟩
  have gw_r0_1_5 := rg w_r0_1_5
  have ow_r0_1_5 := IM.c5 hI R_r0_1 k0_r0_1_5
  obtain ⟨w_r0_3, k0_r0_3⟩ : ∃ x, I r0 3 = x := ⟨_, rfl⟩
  have gw_r0_3 := rg w_r0_3
  obtain ⟨g0, hg0⟩ : ∃ g, I r0_1 = g := ⟨_, rfl⟩
  have hg := hg0
  refine k_aload_n C rfl rfl rfl ?_
  obtain ⟨x1, e2⟩ : ∃ x, I r0 11 = x := ⟨_, rfl⟩
  have gx1 := rg x1
  have ox1 := IM.f11 hI e2
  refine c_VV C (a_X12_uses_e hI H_r0) rfl rfl rfl rfl rfl ⟨_, rfl, rfl, T_r0, Nat.le_of_ble_eq_true rfl⟩ rfl rfl (Nat.le_of_ble_eq_true rfl) (Nat.le_of_ble_eq_true rfl) (Nat.le_of_ble_eq_true rfl) ?_
  rintro I4 L5 ⟨p0v3, p1v3, p2v3, hI4, S6⟩
  have e7 := CM.j S6 R_r0_1 (by decide) k0_r0_1_0
  have e8 := CM.j S6 R_r0_1 (by decide) k0_r0_1_1
  have e9 := CM.j S6 R_r0_1 (by decide) k0_r0_1_2
  have e10 := CM.j S6 R_r0_1 (by decide) k0_r0_1_3
  have e11 := CM.j S6 R_r0_1 (by decide) k0_r0_1_4
  have e12 := CM.j S6 R_r0_1 (by decide) k0_r0_1_5
  have e13 := CM.k S6 (by decide) k0_r0_3
  obtain ⟨x15, e16⟩ : ∃ x, I4 r0 13 = x := ⟨_, rfl⟩
  have gx15 := rg x15
  have ox15 := IM.f13 hI4 e16
  obtain ⟨x17, e18⟩ : ∃ x, I4 r0 11 = x := ⟨_, rfl⟩
  have gx17 := rg x17
  have ox17 := IM.f11 hI4 e18
  obtain ⟨x19, e20⟩ : ∃ x, I4 r0 0 = x := ⟨_, rfl⟩
  have gx19 := rg x19
  have hg := (CM.j0 S6 R_r0_1 (by decide)).trans hg
  try simp only [k0_r0_1_0, k0_r0_1_1, k0_r0_1_2, k0_r0_1_3, k0_r0_1_4, k0_r0_1_5, k0_r0_3, e2, e16, e18, e20] at p0v3
  try have q0v3 := congrArg Int32.toInt p0v3
  try simp only [k0_r0_1_0, k0_r0_1_1, k0_r0_1_2, k0_r0_1_3, k0_r0_1_4, k0_r0_1_5, k0_r0_3, e2, e16, e18, e20] at p1v3
  try have q1v3 := congrArg Int32.toInt p1v3
  try simp only [k0_r0_1_0, k0_r0_1_1, k0_r0_1_2, k0_r0_1_3, k0_r0_1_4, k0_r0_1_5, k0_r0_3, e2, e16, e18, e20] at p2v3
  try have q2v3 := congrArg Int32.toInt p2v3
  refine k_aload_n C rfl rfl rfl ?_
  refine z_iconst C (z := 0) rfl rfl rfl (fun x21 ex21 => ?_)
  refine z_pI C rfl rfl rfl T_r0 (Or.inr rfl) rfl (fun I22 uI22 => ?_)
  have hI22 : IM R r0 I22 := IM.fld hI4 G_r0 ⟨(fun h => absurd h (by decide)), (fun _ => ⟨by omega, by omega⟩), (fun h => absurd h (by decide)), (fun h => absurd h (by decide)), (fun h => absurd h (by decide))⟩ uI22
  have S23 : CM A R r0 [15] [] I4 L5 I22 L5 := CM.f G_r0 A_r0 uI22
  have e24 := u2_n uI22 (mF.ne G_r0 R_r0_1) e7
  have e25 := u2_n uI22 (mF.ne G_r0 R_r0_1) e8
  have e26 := u2_n uI22 (mF.ne G_r0 R_r0_1) e9
  have e27 := u2_n uI22 (mF.ne G_r0 R_r0_1) e10
  have e28 := u2_n uI22 (mF.ne G_r0 R_r0_1) e11
  have e29 := u2_n uI22 (mF.ne G_r0 R_r0_1) e12
  have e30 := u2_j uI22 (by first | decide | exact ncne (by omega) (by omega) (by omega) | exact nckn (by omega) (by omega) | exact (nckn (by omega) (by omega)).symm) e13
  have e31 := u2_j uI22 (by first | decide | exact ncne (by omega) (by omega) (by omega) | exact nckn (by omega) (by omega) | exact (nckn (by omega) (by omega)).symm) e16
  have e32 := u2_j uI22 (by first | decide | exact ncne (by omega) (by omega) (by omega) | exact nckn (by omega) (by omega) | exact (nckn (by omega) (by omega)).symm) e18
  have e33 := u2_j uI22 (by first | decide | exact ncne (by omega) (by omega) (by omega) | exact nckn (by omega) (by omega) | exact (nckn (by omega) (by omega)).symm) e20
  have e34 := u2_e uI22
  have hg := (CM.j0 S23 R_r0_1 (by decide)).trans hg
  refine k_aload_n C rfl rfl rfl ?_
  refine z_iconst C (z := 0) rfl rfl rfl (fun x35 ex35 => ?_)
  refine z_pI C rfl rfl rfl T_r0 (Or.inr rfl) rfl (fun I36 uI36 => ?_)
  have hI36 : IM R r0 I36 := IM.fld hI22 G_r0 ⟨(fun h => absurd h (by decide)), (fun h => absurd h (by decide)), (fun _ => ⟨by omega, by omega⟩), (fun h => absurd h (by decide)), (fun h => absurd h (by decide))⟩ uI36
  have S37 : CM A R r0 [16] [] I22 L5 I36 L5 := CM.f G_r0 A_r0 uI36
  have e38 := u2_n uI36 (mF.ne G_r0 R_r0_1) e24
  have e39 := u2_n uI36 (mF.ne G_r0 R_r0_1) e25
  have e40 := u2_n uI36 (mF.ne G_r0 R_r0_1) e26
  have e41 := u2_n uI36 (mF.ne G_r0 R_r0_1) e27
  have e42 := u2_n uI36 (mF.ne G_r0 R_r0_1) e28
  have e43 := u2_n uI36 (mF.ne G_r0 R_r0_1) e29
  have e44 := u2_j uI36 (by first | decide | exact ncne (by omega) (by omega) (by omega) | exact nckn (by omega) (by omega) | exact (nckn (by omega) (by omega)).symm) e30
  have e45 := u2_j uI36 (by first | decide | exact ncne (by omega) (by omega) (by omega) | exact nckn (by omega) (by omega) | exact (nckn (by omega) (by omega)).symm) e31
  have e46 := u2_j uI36 (by first | decide | exact ncne (by omega) (by omega) (by omega) | exact nckn (by omega) (by omega) | exact (nckn (by omega) (by omega)).symm) e32
  have e47 := u2_j uI36 (by first | decide | exact ncne (by omega) (by omega) (by omega) | exact nckn (by omega) (by omega) | exact (nckn (by omega) (by omega)).symm) e33
  have e48 := u2_j uI36 (by first | decide | exact ncne (by omega) (by omega) (by omega) | exact nckn (by omega) (by omega) | exact (nckn (by omega) (by omega)).symm) e34
  have e49 := u2_e uI36
  have hg := (CM.j0 S37 R_r0_1 (by decide)).trans hg
  refine k_aload_n C rfl rfl rfl ?_
  refine z_iconst C (z := 0) rfl rfl rfl (fun x50 ex50 => ?_)
  refine z_pI C rfl rfl rfl T_r0 (Or.inr rfl) rfl (fun I51 uI51 => ?_)
  have hI51 : IM R r0 I51 := IM.fld hI36 G_r0 ⟨(fun h => absurd h (by decide)), (fun h => absurd h (by decide)), (fun h => absurd h (by decide)), (fun h => absurd h (by decide)), (fun h => absurd h (by decide))⟩ uI51
  have S52 : CM A R r0 [19] [] I36 L5 I51 L5 := CM.f G_r0 A_r0 uI51
  have e53 := u2_n uI51 (mF.ne G_r0 R_r0_1) e38
  have e54 := u2_n uI51 (mF.ne G_r0 R_r0_1) e39
  have e55 := u2_n uI51 (mF.ne G_r0 R_r0_1) e40
  have e56 := u2_n uI51 (mF.ne G_r0 R_r0_1) e41
  have e57 := u2_n uI51 (mF.ne G_r0 R_r0_1) e42
  have e58 := u2_n uI51 (mF.ne G_r0 R_r0_1) e43
  have e59 := u2_j uI51 (by first | decide | exact ncne (by omega) (by omega) (by omega) | exact nckn (by omega) (by omega) | exact (nckn (by omega) (by omega)).symm) e44
  have e60 := u2_j uI51 (by first | decide | exact ncne (by omega) (by omega) (by omega) | exact nckn (by omega) (by omega) | exact (nckn (by omega) (by omega)).symm) e45
  have e61 := u2_j uI51 (by first | decide | exact ncne (by omega) (by omega) (by omega) | exact nckn (by omega) (by omega) | exact (nckn (by omega) (by omega)).symm) e46
  have e62 := u2_j uI51 (by first | decide | exact ncne (by omega) (by omega) (by omega) | exact nckn (by omega) (by omega) | exact (nckn (by omega) (by omega)).symm) e47
  have e63 := u2_j uI51 (by first | decide | exact ncne (by omega) (by omega) (by omega) | exact nckn (by omega) (by omega) | exact (nckn (by omega) (by omega)).symm) e48
  have e64 := u2_j uI51 (by first | decide | exact ncne (by omega) (by omega) (by omega) | exact nckn (by omega) (by omega) | exact (nckn (by omega) (by omega)).symm) e49
  have e65 := u2_e uI51
  have hg := (CM.j0 S52 R_r0_1 (by decide)).trans hg
  refine k_aload_n C rfl rfl rfl ?_
  refine c_VI C (a_X12_readSum_0 hI51 H_r0 (by first | omega | (simp only [hg, e53, e54, e55, e56, e57, e58, e59, e60, e61, e62, e63, e64, e65, and_true, true_and, or_true, true_or, and_false, false_and, or_false, false_or] <;> omega)) (fun a1 h1 => by cases (R_r0_1.symm.trans h1); simp only [hg, e53, e54, e55, e56, e57, e58, e59, e60, e61, e62, e63, e64, e65]; exact PD.z (by omega)) (fun a1 h1 => by cases (R_r0_1.symm.trans h1); simp only [hg, e53, e54, e55, e56, e57, e58, e59, e60, e61, e62, e63, e64, e65]; (have hz := Hgt.z (g := g0) (x := x50) (by omega)); omega)) rfl rfl rfl rfl rfl ⟨_, rfl, rfl, T_r0, Nat.le_of_ble_eq_true rfl⟩ rfl rfl (Nat.le_of_ble_eq_true rfl) (Nat.le_of_ble_eq_true rfl) (Nat.le_of_ble_eq_true rfl) ?_
  rintro x66 I67 L68 ⟨o0x66, o1x66, p0x66, p1x66, p2x66, hI67, S69⟩
  have p0x66 := p0x66 r0_1 R_r0_1
  have p1x66 := p1x66 r0_1 R_r0_1
  have p2x66 := p2x66 r0_1 R_r0_1
  have e70 := (p2x66 0 (by decide)).trans e53
  have e71 := (p2x66 1 (by decide)).trans e54
  have e72 := (p2x66 2 (by decide)).trans e55
  have e73 := (p2x66 3 (by decide)).trans e56
  have e74 := (p2x66 4 (by decide)).trans e57
  have e75 := (p2x66 5 (by decide)).trans e58
  have e76 := CM.k S69 (by decide) e59
  have e77 := CM.k S69 (by decide) e60
  have e78 := CM.k S69 (by decide) e61
  have e79 := CM.k S69 (by decide) e62
  have gx66 := rg x66
  obtain ⟨x83, e84⟩ : ∃ x, I67 r0 15 = x := ⟨_, rfl⟩
  have gx83 := rg x83
  have ox83 := IM.f15 hI67 e84
  obtain ⟨x85, e86⟩ : ∃ x, I67 r0 16 = x := ⟨_, rfl⟩
  have gx85 := rg x85
  have ox85 := IM.f16 hI67 e86
  obtain ⟨x87, e88⟩ : ∃ x, I67 r0 19 = x := ⟨_, rfl⟩
  have gx87 := rg x87
  obtain ⟨x89, e90⟩ : ∃ x, I67 r0 12 = x := ⟨_, rfl⟩
  have gx89 := rg x89
  have ox89 := IM.f12 hI67 e90
  obtain ⟨gS69, hgS69⟩ : ∃ g, I67 r0_1 = g := ⟨_, rfl⟩
  try simp only [e53, e54, e55, e56, e57, e58, e59, e60, e61, e62, e63, e64, e65, e84, e86, e88, e90, hg, hgS69] at p0x66
  try have q0x66 := congrArg Int32.toInt p0x66
  try simp only [e53, e54, e55, e56, e57, e58, e59, e60, e61, e62, e63, e64, e65, e84, e86, e88, e90, hg, hgS69] at p1x66
  try have q1x66 := congrArg Int32.toInt p1x66
  have hgo := hg
  have hg := hgS69
  have hP0 := p0x66
  have hP1 := p1x66
  refine k_istore_n C (lw := [(1, .int x66), (0, .ref r0)]) rfl rfl (Nat.le_of_ble_eq_true rfl) rfl ?_
  refine k_iload_n C rfl rfl rfl ?_
  refine b_if_eq C (t := 49) rfl rfl rfl (fun c91 => ?_) (fun c91 => ?_)
  · skip
    refine k_aload_n C rfl rfl rfl ?_
    refine k_iload_n C rfl rfl rfl ?_
    refine b_if_eq C (t := 58) rfl rfl rfl (fun c92 => ?_) (fun c92 => by exfalso; omega)
    refine k_aload_n C rfl rfl rfl ?_
    refine z_gI C rfl rfl rfl T_r0 rfl (fun x93 ex93 => ?_)
    have gx93 := rg x93
    have ox93 := IM.f14 hI67 ex93
    refine z_pI C rfl rfl rfl T_r0 (Or.inr rfl) rfl (fun I94 uI94 => ?_)
    have hI94 : IM R r0 I94 := IM.fld hI67 G_r0 ⟨(fun h => absurd h (by decide)), (fun h => absurd h (by decide)), (fun h => absurd h (by decide)), (fun h => absurd h (by decide)), (fun h => absurd h (by decide))⟩ uI94
    have S95 : CM A R r0 [17] [] I67 L68 I94 L68 := CM.f G_r0 A_r0 uI94
    have e96 := u2_n uI94 (mF.ne G_r0 R_r0_1) e70
    have e97 := u2_n uI94 (mF.ne G_r0 R_r0_1) e71
    have e98 := u2_n uI94 (mF.ne G_r0 R_r0_1) e72
    have e99 := u2_n uI94 (mF.ne G_r0 R_r0_1) e73
    have e100 := u2_n uI94 (mF.ne G_r0 R_r0_1) e74
    have e101 := u2_n uI94 (mF.ne G_r0 R_r0_1) e75
    have e102 := u2_j uI94 (by first | decide | exact ncne (by omega) (by omega) (by omega) | exact nckn (by omega) (by omega) | exact (nckn (by omega) (by omega)).symm) e76
    have e103 := u2_j uI94 (by first | decide | exact ncne (by omega) (by omega) (by omega) | exact nckn (by omega) (by omega) | exact (nckn (by omega) (by omega)).symm) e77
    have e104 := u2_j uI94 (by first | decide | exact ncne (by omega) (by omega) (by omega) | exact nckn (by omega) (by omega) | exact (nckn (by omega) (by omega)).symm) e78
    have e105 := u2_j uI94 (by first | decide | exact ncne (by omega) (by omega) (by omega) | exact nckn (by omega) (by omega) | exact (nckn (by omega) (by omega)).symm) e79
    have e106 := u2_j uI94 (by first | decide | exact ncne (by omega) (by omega) (by omega) | exact nckn (by omega) (by omega) | exact (nckn (by omega) (by omega)).symm) e84
    have e107 := u2_j uI94 (by first | decide | exact ncne (by omega) (by omega) (by omega) | exact nckn (by omega) (by omega) | exact (nckn (by omega) (by omega)).symm) e86
    have e108 := u2_j uI94 (by first | decide | exact ncne (by omega) (by omega) (by omega) | exact nckn (by omega) (by omega) | exact (nckn (by omega) (by omega)).symm) e88
    have e109 := u2_j uI94 (by first | decide | exact ncne (by omega) (by omega) (by omega) | exact nckn (by omega) (by omega) | exact (nckn (by omega) (by omega)).symm) e90
    have e110 := u2_j uI94 (by first | decide | exact ncne (by omega) (by omega) (by omega) | exact nckn (by omega) (by omega) | exact (nckn (by omega) (by omega)).symm) ex93
    have e111 := u2_e uI94
    have hg := (CM.j0 S95 R_r0_1 (by decide)).trans hg
    refine k_aload_n C rfl rfl rfl ?_
    refine k_iload_n C rfl rfl rfl ?_
    refine b_if_ne C (t := 74) rfl rfl rfl (fun c112 => by exfalso; omega) (fun c112 => ?_)
    refine z_iconst C (z := 1) rfl rfl rfl (fun x113 ex113 => ?_)
    refine k_goto C (pc2 := 75) rfl rfl ?_
    refine z_iconst C (z := 1) rfl rfl rfl (fun x114 ex114 => ?_)
    have q115 : x113.toNatClampNeg = 1 := nck (by omega)
    have q116 : x114.toNatClampNeg = 1 := nck (by omega)
    refine c_VI C (a_X12_throwsIf_e hI94 H_r0 (by omega) (by omega)) rfl rfl rfl rfl rfl ⟨_, rfl, rfl, T_r0, Nat.le_of_ble_eq_true rfl⟩ rfl rfl (Nat.le_of_ble_eq_true rfl) (Nat.le_of_ble_eq_true rfl) (Nat.le_of_ble_eq_true rfl) ?_
    rintro x117 I118 L119 ⟨o0x117, o1x117, p0x117, p1x117, hI118, S120⟩
    have e121 := CM.j S120 R_r0_1 (by decide) e96
    have e122 := CM.j S120 R_r0_1 (by decide) e97
    have e123 := CM.j S120 R_r0_1 (by decide) e98
    have e124 := CM.j S120 R_r0_1 (by decide) e99
    have e125 := CM.j S120 R_r0_1 (by decide) e100
    have e126 := CM.j S120 R_r0_1 (by decide) e101
    have e127 := CM.k S120 (by decide) e102
    have e128 := CM.k S120 (by decide) e103
    have e129 := CM.k S120 (by decide) e104
    have e131 := CM.k S120 (by decide) e106
    have e132 := CM.k S120 (by decide) e107
    have e133 := CM.k S120 (by decide) e108
    have e134 := CM.k S120 (by decide) e109
    have e135 := CM.k S120 (by decide) e110
    have e136 := CM.k S120 (by decide) e111
    have gx117 := rg x117
    obtain ⟨x137, e138⟩ : ∃ x, I118 r0 0 = x := ⟨_, rfl⟩
    have gx137 := rg x137
    have hg := (CM.j0 S120 R_r0_1 (by decide)).trans hg
    try simp only [q115, q116, e96, e97, e98, e99, e100, e101, e102, e103, e104, e105, e106, e107, e108, e109, e110, e111, e138] at p0x117
    try have q0x117 := congrArg Int32.toInt p0x117
    try simp only [q115, q116, e96, e97, e98, e99, e100, e101, e102, e103, e104, e105, e106, e107, e108, e109, e110, e111, e138] at p1x117
    try have q1x117 := congrArg Int32.toInt p1x117
    refine b_if_ne C (t := 106) rfl rfl rfl (fun c139 => ?_) (fun c139 => by exfalso; omega)
    refine z_iconst C (z := 0) rfl rfl rfl (fun x140 ex140 => ?_)
    exact k_iret C rfl (Or.inl rfl) (Nat.le_of_ble_eq_true rfl) (Nat.le_of_ble_eq_true rfl) ⟨_, _, _, rfl, rfl, by omega, by omega, fun a1 h1 => by cases (R_r0_1.symm.trans h1); first | omega | (simp only [e121, e122, e123, e124, e125, e126, e127, e128, e129, e131, e132, e133, e134, e135, e136, e138, k0_r0_1_0, k0_r0_1_1, k0_r0_1_2, k0_r0_1_3, k0_r0_1_4, k0_r0_1_5, k0_r0_3, and_true, true_and, or_true, true_or, and_false, false_and, or_false, false_or] <;> omega), by first | omega | (simp only [e121, e122, e123, e124, e125, e126, e127, e128, e129, e131, e132, e133, e134, e135, e136, e138, k0_r0_1_0, k0_r0_1_1, k0_r0_1_2, k0_r0_1_3, k0_r0_1_4, k0_r0_1_5, k0_r0_3, and_true, true_and, or_true, true_or, and_false, false_and, or_false, false_or] <;> omega), fun a1 h1 => by cases (R_r0_1.symm.trans h1); first | omega | (simp only [e121, e122, e123, e124, e125, e126, e127, e128, e129, e131, e132, e133, e134, e135, e136, e138, k0_r0_1_0, k0_r0_1_1, k0_r0_1_2, k0_r0_1_3, k0_r0_1_4, k0_r0_1_5, k0_r0_3, and_true, true_and, or_true, true_or, and_false, false_and, or_false, false_or] <;> omega), fun a1 h1 => by cases (R_r0_1.symm.trans h1); first | omega | (simp only [e121, e122, e123, e124, e125, e126, e127, e128, e129, e131, e132, e133, e134, e135, e136, e138, k0_r0_1_0, k0_r0_1_1, k0_r0_1_2, k0_r0_1_3, k0_r0_1_4, k0_r0_1_5, k0_r0_3, and_true, true_and, or_true, true_or, and_false, false_and, or_false, false_or] <;> omega), fun a1 h1 => by cases (R_r0_1.symm.trans h1); first | omega | (simp only [e121, e122, e123, e124, e125, e126, e127, e128, e129, e131, e132, e133, e134, e135, e136, e138, k0_r0_1_0, k0_r0_1_1, k0_r0_1_2, k0_r0_1_3, k0_r0_1_4, k0_r0_1_5, k0_r0_3, and_true, true_and, or_true, true_or, and_false, false_and, or_false, false_or] <;> omega), hI118, (CM.cons S6 (CM.cons S23 (CM.cons S37 (CM.cons S52 (CM.cons S69 (CM.cons S95 (CM.mono S120 (by decide) (by decide)) (by decide) (by decide)) (by decide) (by decide)) (by decide) (by decide)) (by decide) (by decide)) (by decide) (by decide)) (by decide) (by decide))⟩
  have hPD := hP1 (by omega)
  have hPq := hP0 (by omega)
  refine k_aload_n C rfl rfl rfl ?_
  refine c_VV C (a_X12_blanks hI67 H_r0) rfl rfl rfl rfl rfl ⟨_, rfl, rfl, T_r0, Nat.le_of_ble_eq_true rfl⟩ rfl rfl (Nat.le_of_ble_eq_true rfl) (Nat.le_of_ble_eq_true rfl) (Nat.le_of_ble_eq_true rfl) ?_
  rintro I142 L143 ⟨hI142, S144⟩
  have e145 := CM.j S144 R_r0_1 (by decide) e70
  have e146 := CM.j S144 R_r0_1 (by decide) e71
  have e147 := CM.j S144 R_r0_1 (by decide) e72
  have e148 := CM.j S144 R_r0_1 (by decide) e73
  have e149 := CM.j S144 R_r0_1 (by decide) e74
  have e150 := CM.j S144 R_r0_1 (by decide) e75
  have e151 := CM.k S144 (by decide) e76
  have e152 := CM.k S144 (by decide) e77
  have e153 := CM.k S144 (by decide) e78
  have e154 := CM.k S144 (by decide) e79
  have e155 := CM.k S144 (by decide) e84
  have e156 := CM.k S144 (by decide) e86
  have e157 := CM.k S144 (by decide) e88
  obtain ⟨x159, e160⟩ : ∃ x, I142 r0 12 = x := ⟨_, rfl⟩
  have gx159 := rg x159
  have ox159 := IM.f12 hI142 e160
  have hg := (CM.j0 S144 R_r0_1 (by decide)).trans hg
  refine k_aload_n C rfl rfl rfl ?_
  refine g_I C rfl rfl rfl T_r0 rfl e160 ?_
  refine k_aload_n C rfl rfl rfl ?_
  refine g_I C rfl rfl rfl T_r0 rfl e152 ?_
  refine b_icmp_ne C (t := 47) rfl rfl rfl (fun c161 => ?_) (fun c161 => ?_)
  · skip
    refine z_iconst C (z := 0) rfl rfl rfl (fun x162 ex162 => ?_)
    refine k_istore_n C (lw := [(1, .int x162), (0, .ref r0)]) rfl rfl (Nat.le_of_ble_eq_true rfl) rfl ?_
    refine k_aload_n C rfl rfl rfl ?_
    refine k_iload_n C rfl rfl rfl ?_
    refine b_if_eq C (t := 58) rfl rfl rfl (fun c163 => ?_) (fun c163 => by exfalso; omega)
    refine k_aload_n C rfl rfl rfl ?_
    refine z_gI C rfl rfl rfl T_r0 rfl (fun x164 ex164 => ?_)
    have gx164 := rg x164
    have ox164 := IM.f14 hI142 ex164
    refine z_pI C rfl rfl rfl T_r0 (Or.inr rfl) rfl (fun I165 uI165 => ?_)
    have hI165 : IM R r0 I165 := IM.fld hI142 G_r0 ⟨(fun h => absurd h (by decide)), (fun h => absurd h (by decide)), (fun h => absurd h (by decide)), (fun h => absurd h (by decide)), (fun h => absurd h (by decide))⟩ uI165
    have S166 : CM A R r0 [17] [] I142 L143 I165 L143 := CM.f G_r0 A_r0 uI165
    have e167 := u2_n uI165 (mF.ne G_r0 R_r0_1) e145
    have e168 := u2_n uI165 (mF.ne G_r0 R_r0_1) e146
    have e169 := u2_n uI165 (mF.ne G_r0 R_r0_1) e147
    have e170 := u2_n uI165 (mF.ne G_r0 R_r0_1) e148
    have e171 := u2_n uI165 (mF.ne G_r0 R_r0_1) e149
    have e172 := u2_n uI165 (mF.ne G_r0 R_r0_1) e150
    have e173 := u2_j uI165 (by first | decide | exact ncne (by omega) (by omega) (by omega) | exact nckn (by omega) (by omega) | exact (nckn (by omega) (by omega)).symm) e151
    have e174 := u2_j uI165 (by first | decide | exact ncne (by omega) (by omega) (by omega) | exact nckn (by omega) (by omega) | exact (nckn (by omega) (by omega)).symm) e152
    have e175 := u2_j uI165 (by first | decide | exact ncne (by omega) (by omega) (by omega) | exact nckn (by omega) (by omega) | exact (nckn (by omega) (by omega)).symm) e153
    have e176 := u2_j uI165 (by first | decide | exact ncne (by omega) (by omega) (by omega) | exact nckn (by omega) (by omega) | exact (nckn (by omega) (by omega)).symm) e154
    have e177 := u2_j uI165 (by first | decide | exact ncne (by omega) (by omega) (by omega) | exact nckn (by omega) (by omega) | exact (nckn (by omega) (by omega)).symm) e155
    have e178 := u2_j uI165 (by first | decide | exact ncne (by omega) (by omega) (by omega) | exact nckn (by omega) (by omega) | exact (nckn (by omega) (by omega)).symm) e156
    have e179 := u2_j uI165 (by first | decide | exact ncne (by omega) (by omega) (by omega) | exact nckn (by omega) (by omega) | exact (nckn (by omega) (by omega)).symm) e157
    have e180 := u2_j uI165 (by first | decide | exact ncne (by omega) (by omega) (by omega) | exact nckn (by omega) (by omega) | exact (nckn (by omega) (by omega)).symm) e160
    have e181 := u2_j uI165 (by first | decide | exact ncne (by omega) (by omega) (by omega) | exact nckn (by omega) (by omega) | exact (nckn (by omega) (by omega)).symm) ex164
    have e182 := u2_e uI165
    have hg := (CM.j0 S166 R_r0_1 (by decide)).trans hg
    refine k_aload_n C rfl rfl rfl ?_
    refine k_iload_n C rfl rfl rfl ?_
    refine b_if_ne C (t := 74) rfl rfl rfl (fun c183 => by exfalso; omega) (fun c183 => ?_)
    refine z_iconst C (z := 1) rfl rfl rfl (fun x184 ex184 => ?_)
    refine k_goto C (pc2 := 75) rfl rfl ?_
    refine z_iconst C (z := 1) rfl rfl rfl (fun x185 ex185 => ?_)
    have q186 : x184.toNatClampNeg = 1 := nck (by omega)
    have q187 : x185.toNatClampNeg = 1 := nck (by omega)
    refine c_VI C (a_X12_throwsIf_e hI165 H_r0 (by omega) (by omega)) rfl rfl rfl rfl rfl ⟨_, rfl, rfl, T_r0, Nat.le_of_ble_eq_true rfl⟩ rfl rfl (Nat.le_of_ble_eq_true rfl) (Nat.le_of_ble_eq_true rfl) (Nat.le_of_ble_eq_true rfl) ?_
    rintro x188 I189 L190 ⟨o0x188, o1x188, p0x188, p1x188, hI189, S191⟩
    have e192 := CM.j S191 R_r0_1 (by decide) e167
    have e193 := CM.j S191 R_r0_1 (by decide) e168
    have e194 := CM.j S191 R_r0_1 (by decide) e169
    have e195 := CM.j S191 R_r0_1 (by decide) e170
    have e196 := CM.j S191 R_r0_1 (by decide) e171
    have e197 := CM.j S191 R_r0_1 (by decide) e172
    have e198 := CM.k S191 (by decide) e173
    have e199 := CM.k S191 (by decide) e174
    have e200 := CM.k S191 (by decide) e175
    have e202 := CM.k S191 (by decide) e177
    have e203 := CM.k S191 (by decide) e178
    have e204 := CM.k S191 (by decide) e179
    have e205 := CM.k S191 (by decide) e180
    have e206 := CM.k S191 (by decide) e181
    have e207 := CM.k S191 (by decide) e182
    have gx188 := rg x188
    obtain ⟨x208, e209⟩ : ∃ x, I189 r0 0 = x := ⟨_, rfl⟩
    have gx208 := rg x208
    have hg := (CM.j0 S191 R_r0_1 (by decide)).trans hg
    try simp only [q186, q187, e167, e168, e169, e170, e171, e172, e173, e174, e175, e176, e177, e178, e179, e180, e181, e182, e209] at p0x188
    try have q0x188 := congrArg Int32.toInt p0x188
    try simp only [q186, q187, e167, e168, e169, e170, e171, e172, e173, e174, e175, e176, e177, e178, e179, e180, e181, e182, e209] at p1x188
    try have q1x188 := congrArg Int32.toInt p1x188
    refine b_if_ne C (t := 106) rfl rfl rfl (fun c210 => ?_) (fun c210 => by exfalso; omega)
    refine z_iconst C (z := 0) rfl rfl rfl (fun x211 ex211 => ?_)
    exact k_iret C rfl (Or.inl rfl) (Nat.le_of_ble_eq_true rfl) (Nat.le_of_ble_eq_true rfl) ⟨_, _, _, rfl, rfl, by omega, by omega, fun a1 h1 => by cases (R_r0_1.symm.trans h1); first | omega | (simp only [e192, e193, e194, e195, e196, e197, e198, e199, e200, e202, e203, e204, e205, e206, e207, e209, k0_r0_1_0, k0_r0_1_1, k0_r0_1_2, k0_r0_1_3, k0_r0_1_4, k0_r0_1_5, k0_r0_3, and_true, true_and, or_true, true_or, and_false, false_and, or_false, false_or] <;> omega), by first | omega | (simp only [e192, e193, e194, e195, e196, e197, e198, e199, e200, e202, e203, e204, e205, e206, e207, e209, k0_r0_1_0, k0_r0_1_1, k0_r0_1_2, k0_r0_1_3, k0_r0_1_4, k0_r0_1_5, k0_r0_3, and_true, true_and, or_true, true_or, and_false, false_and, or_false, false_or] <;> omega), fun a1 h1 => by cases (R_r0_1.symm.trans h1); first | omega | (simp only [e192, e193, e194, e195, e196, e197, e198, e199, e200, e202, e203, e204, e205, e206, e207, e209, k0_r0_1_0, k0_r0_1_1, k0_r0_1_2, k0_r0_1_3, k0_r0_1_4, k0_r0_1_5, k0_r0_3, and_true, true_and, or_true, true_or, and_false, false_and, or_false, false_or] <;> omega), fun a1 h1 => by cases (R_r0_1.symm.trans h1); first | omega | (simp only [e192, e193, e194, e195, e196, e197, e198, e199, e200, e202, e203, e204, e205, e206, e207, e209, k0_r0_1_0, k0_r0_1_1, k0_r0_1_2, k0_r0_1_3, k0_r0_1_4, k0_r0_1_5, k0_r0_3, and_true, true_and, or_true, true_or, and_false, false_and, or_false, false_or] <;> omega), fun a1 h1 => by cases (R_r0_1.symm.trans h1); first | omega | (simp only [e192, e193, e194, e195, e196, e197, e198, e199, e200, e202, e203, e204, e205, e206, e207, e209, k0_r0_1_0, k0_r0_1_1, k0_r0_1_2, k0_r0_1_3, k0_r0_1_4, k0_r0_1_5, k0_r0_3, and_true, true_and, or_true, true_or, and_false, false_and, or_false, false_or] <;> omega), hI189, (CM.cons S6 (CM.cons S23 (CM.cons S37 (CM.cons S52 (CM.cons S69 (CM.cons S144 (CM.cons S166 (CM.mono S191 (by decide) (by decide)) (by decide) (by decide)) (by decide) (by decide)) (by decide) (by decide)) (by decide) (by decide)) (by decide) (by decide)) (by decide) (by decide)) (by decide) (by decide))⟩
  refine z_iconst C (z := 1) rfl rfl rfl (fun x212 ex212 => ?_)
  refine k_goto C (pc2 := 48) rfl rfl ?_
  refine k_istore_n C (lw := [(1, .int x212), (0, .ref r0)]) rfl rfl (Nat.le_of_ble_eq_true rfl) rfl ?_
  refine k_aload_n C rfl rfl rfl ?_
  refine k_iload_n C rfl rfl rfl ?_
  refine b_if_eq C (t := 58) rfl rfl rfl (fun c213 => by exfalso; omega) (fun c213 => ?_)
  refine z_iconst C (z := -1) rfl rfl rfl (fun x214 ex214 => ?_)
  refine k_goto C (pc2 := 62) rfl rfl ?_
  refine z_pI C rfl rfl rfl T_r0 (Or.inr rfl) rfl (fun I215 uI215 => ?_)
  have hI215 : IM R r0 I215 := IM.fld hI142 G_r0 ⟨(fun h => absurd h (by decide)), (fun h => absurd h (by decide)), (fun h => absurd h (by decide)), (fun h => absurd h (by decide)), (fun h => absurd h (by decide))⟩ uI215
  have S216 : CM A R r0 [17] [] I142 L143 I215 L143 := CM.f G_r0 A_r0 uI215
  have e217 := u2_n uI215 (mF.ne G_r0 R_r0_1) e145
  have e218 := u2_n uI215 (mF.ne G_r0 R_r0_1) e146
  have e219 := u2_n uI215 (mF.ne G_r0 R_r0_1) e147
  have e220 := u2_n uI215 (mF.ne G_r0 R_r0_1) e148
  have e221 := u2_n uI215 (mF.ne G_r0 R_r0_1) e149
  have e222 := u2_n uI215 (mF.ne G_r0 R_r0_1) e150
  have e223 := u2_j uI215 (by first | decide | exact ncne (by omega) (by omega) (by omega) | exact nckn (by omega) (by omega) | exact (nckn (by omega) (by omega)).symm) e151
  have e224 := u2_j uI215 (by first | decide | exact ncne (by omega) (by omega) (by omega) | exact nckn (by omega) (by omega) | exact (nckn (by omega) (by omega)).symm) e152
  have e225 := u2_j uI215 (by first | decide | exact ncne (by omega) (by omega) (by omega) | exact nckn (by omega) (by omega) | exact (nckn (by omega) (by omega)).symm) e153
  have e226 := u2_j uI215 (by first | decide | exact ncne (by omega) (by omega) (by omega) | exact nckn (by omega) (by omega) | exact (nckn (by omega) (by omega)).symm) e154
  have e227 := u2_j uI215 (by first | decide | exact ncne (by omega) (by omega) (by omega) | exact nckn (by omega) (by omega) | exact (nckn (by omega) (by omega)).symm) e155
  have e228 := u2_j uI215 (by first | decide | exact ncne (by omega) (by omega) (by omega) | exact nckn (by omega) (by omega) | exact (nckn (by omega) (by omega)).symm) e156
  have e229 := u2_j uI215 (by first | decide | exact ncne (by omega) (by omega) (by omega) | exact nckn (by omega) (by omega) | exact (nckn (by omega) (by omega)).symm) e157
  have e230 := u2_j uI215 (by first | decide | exact ncne (by omega) (by omega) (by omega) | exact nckn (by omega) (by omega) | exact (nckn (by omega) (by omega)).symm) e160
  have e231 := u2_e uI215
  have hg := (CM.j0 S216 R_r0_1 (by decide)).trans hg
  refine k_aload_n C rfl rfl rfl ?_
  refine k_iload_n C rfl rfl rfl ?_
  refine b_if_ne C (t := 74) rfl rfl rfl (fun c232 => ?_) (fun c232 => by exfalso; omega)
  refine z_iconst C (z := 0) rfl rfl rfl (fun x233 ex233 => ?_)
  refine z_iconst C (z := 1) rfl rfl rfl (fun x234 ex234 => ?_)
  have q235 : x233.toNatClampNeg = 0 := nck (by omega)
  have q236 : x234.toNatClampNeg = 1 := nck (by omega)
  refine c_VI C (a_X12_throwsIf_e hI215 H_r0 (by omega) (by omega)) rfl rfl rfl rfl rfl ⟨_, rfl, rfl, T_r0, Nat.le_of_ble_eq_true rfl⟩ rfl rfl (Nat.le_of_ble_eq_true rfl) (Nat.le_of_ble_eq_true rfl) (Nat.le_of_ble_eq_true rfl) ?_
  rintro x237 I238 L239 ⟨o0x237, o1x237, p0x237, p1x237, hI238, S240⟩
  have e241 := CM.j S240 R_r0_1 (by decide) e217
  have e242 := CM.j S240 R_r0_1 (by decide) e218
  have e243 := CM.j S240 R_r0_1 (by decide) e219
  have e244 := CM.j S240 R_r0_1 (by decide) e220
  have e245 := CM.j S240 R_r0_1 (by decide) e221
  have e246 := CM.j S240 R_r0_1 (by decide) e222
  have e247 := CM.k S240 (by decide) e223
  have e248 := CM.k S240 (by decide) e224
  have e249 := CM.k S240 (by decide) e225
  have e251 := CM.k S240 (by decide) e227
  have e252 := CM.k S240 (by decide) e228
  have e253 := CM.k S240 (by decide) e229
  have e254 := CM.k S240 (by decide) e230
  have e255 := CM.k S240 (by decide) e231
  have gx237 := rg x237
  obtain ⟨x256, e257⟩ : ∃ x, I238 r0 0 = x := ⟨_, rfl⟩
  have gx256 := rg x256
  have hg := (CM.j0 S240 R_r0_1 (by decide)).trans hg
  try simp only [q235, q236, e217, e218, e219, e220, e221, e222, e223, e224, e225, e226, e227, e228, e229, e230, e231, e257] at p0x237
  try have q0x237 := congrArg Int32.toInt p0x237
  try simp only [q235, q236, e217, e218, e219, e220, e221, e222, e223, e224, e225, e226, e227, e228, e229, e230, e231, e257] at p1x237
  try have q1x237 := congrArg Int32.toInt p1x237
  refine b_if_ne C (t := 106) rfl rfl rfl (fun c258 => by exfalso; omega) (fun c258 => ?_)
  refine k_aload_n C rfl rfl rfl ?_
  refine k_aload_n C rfl rfl rfl ?_
  refine g_R C rfl rfl rfl T_r0 rfl R_r0_1 ?_
  refine z_iconst C (z := 3) rfl rfl rfl (fun x259 ex259 => ?_)
  obtain ⟨T_r0_1, N_r0_1, A_r0_1⟩ := id H_r0_1
  refine a_I C rfl rfl T_r0_1 (by rw [N_r0_1]; exact vpi (by omega) (by omega)) ((congrArg (I238 r0_1) (nck (n := 3) (by omega))).trans e244) ?_
  refine z_bipush C (z := 8) rfl rfl rfl (fun x260 ex260 => ?_)
  refine b_icmp_ne C (t := 98) rfl rfl rfl (fun c261 => ?_) (fun c261 => ?_)
  · skip
    refine z_iconst C (z := 0) rfl rfl rfl (fun x262 ex262 => ?_)
    refine z_iconst C (z := 2) rfl rfl rfl (fun x263 ex263 => ?_)
    have q264 : x262.toNatClampNeg = 0 := nck (by omega)
    have q265 : x263.toNatClampNeg = 2 := nck (by omega)
    refine c_VI C (a_X12_throwsIf_e hI238 H_r0 (by omega) (by omega)) rfl rfl rfl rfl rfl ⟨_, rfl, rfl, T_r0, Nat.le_of_ble_eq_true rfl⟩ rfl rfl (Nat.le_of_ble_eq_true rfl) (Nat.le_of_ble_eq_true rfl) (Nat.le_of_ble_eq_true rfl) ?_
    rintro x266 I267 L268 ⟨o0x266, o1x266, p0x266, p1x266, hI267, S269⟩
    have e270 := CM.j S269 R_r0_1 (by decide) e241
    have e271 := CM.j S269 R_r0_1 (by decide) e242
    have e272 := CM.j S269 R_r0_1 (by decide) e243
    have e273 := CM.j S269 R_r0_1 (by decide) e244
    have e274 := CM.j S269 R_r0_1 (by decide) e245
    have e275 := CM.j S269 R_r0_1 (by decide) e246
    have e276 := CM.k S269 (by decide) e247
    have e277 := CM.k S269 (by decide) e248
    have e278 := CM.k S269 (by decide) e249
    have e279 := CM.k S269 (by decide) e251
    have e280 := CM.k S269 (by decide) e252
    have e281 := CM.k S269 (by decide) e253
    have e282 := CM.k S269 (by decide) e254
    have e283 := CM.k S269 (by decide) e255
    have gx266 := rg x266
    obtain ⟨x285, e286⟩ : ∃ x, I267 r0 0 = x := ⟨_, rfl⟩
    have gx285 := rg x285
    have hg := (CM.j0 S269 R_r0_1 (by decide)).trans hg
    try simp only [q264, q265, e241, e242, e243, e244, e245, e246, e247, e248, e249, e251, e252, e253, e254, e255, e257, e286] at p0x266
    try have q0x266 := congrArg Int32.toInt p0x266
    try simp only [q264, q265, e241, e242, e243, e244, e245, e246, e247, e248, e249, e251, e252, e253, e254, e255, e257, e286] at p1x266
    try have q1x266 := congrArg Int32.toInt p1x266
    refine b_if_eq C (t := 108) rfl rfl rfl (fun c287 => ?_) (fun c287 => by exfalso; omega)
    refine k_aload_n C rfl rfl rfl ?_
    refine g_R C rfl rfl rfl T_r0 rfl R_r0_1 ?_
    refine z_iconst C (z := 3) rfl rfl rfl (fun x288 ex288 => ?_)
    refine a_I C rfl rfl T_r0_1 (by rw [N_r0_1]; exact vpi (by omega) (by omega)) ((congrArg (I267 r0_1) (nck (n := 3) (by omega))).trans e273) ?_
    refine k_istore_n C (lw := [(2, .int w_r0_1_3), (1, .int x212), (0, .ref r0)]) rfl rfl (Nat.le_of_ble_eq_true rfl) rfl ?_
    refine k_aload_n C rfl rfl rfl ?_
    refine g_R C rfl rfl rfl T_r0 rfl R_r0_1 ?_
    refine z_sipush C (z := 3606) rfl rfl rfl (fun x289 ex289 => ?_)
    refine k_aload_n C rfl rfl rfl ?_
    refine g_I C rfl rfl rfl T_r0 rfl e281 ?_
    refine z_sI C rfl rfl T_r0_1 N_r0_1 (by omega) (by omega) (fun I290 uI290 => ?_)
    have uI290 : I290 = u2 I267 r0_1 3606 (x87) := by rw [uI290, nck (n := 3606) (by omega)]
    have hI290 : IM R r0 I290 := IM.arr hI267 G_r0 R_r0_1 ⟨(fun h => absurd h (by decide)), (fun h => absurd h (by decide)), (fun h => absurd h (by decide))⟩ (fun _ => WOK.drn (IM.w hI267 R_r0_1) (by decide)) uI290
    have S291 : CM A R r0 [] [1] I267 L268 I290 L268 := CM.a G_r0 R_r0_1 A_r0_1 uI290
    have e292 := u2_j uI290 (by first | decide | exact ncne (by omega) (by omega) (by omega) | exact nckn (by omega) (by omega) | exact (nckn (by omega) (by omega)).symm) e270
    have e293 := u2_j uI290 (by first | decide | exact ncne (by omega) (by omega) (by omega) | exact nckn (by omega) (by omega) | exact (nckn (by omega) (by omega)).symm) e271
    have e294 := u2_j uI290 (by first | decide | exact ncne (by omega) (by omega) (by omega) | exact nckn (by omega) (by omega) | exact (nckn (by omega) (by omega)).symm) e272
    have e295 := u2_j uI290 (by first | decide | exact ncne (by omega) (by omega) (by omega) | exact nckn (by omega) (by omega) | exact (nckn (by omega) (by omega)).symm) e273
    have e296 := u2_j uI290 (by first | decide | exact ncne (by omega) (by omega) (by omega) | exact nckn (by omega) (by omega) | exact (nckn (by omega) (by omega)).symm) e274
    have e297 := u2_j uI290 (by first | decide | exact ncne (by omega) (by omega) (by omega) | exact nckn (by omega) (by omega) | exact (nckn (by omega) (by omega)).symm) e275
    have e298 := u2_n uI290 (fun e => (mF.ne G_r0 R_r0_1) e.symm) e276
    have e299 := u2_n uI290 (fun e => (mF.ne G_r0 R_r0_1) e.symm) e277
    have e300 := u2_n uI290 (fun e => (mF.ne G_r0 R_r0_1) e.symm) e278
    have e301 := u2_n uI290 (fun e => (mF.ne G_r0 R_r0_1) e.symm) e279
    have e302 := u2_n uI290 (fun e => (mF.ne G_r0 R_r0_1) e.symm) e280
    have e303 := u2_n uI290 (fun e => (mF.ne G_r0 R_r0_1) e.symm) e281
    have e304 := u2_n uI290 (fun e => (mF.ne G_r0 R_r0_1) e.symm) e282
    have e305 := u2_n uI290 (fun e => (mF.ne G_r0 R_r0_1) e.symm) e283
    have e306 := u2_n uI290 (fun e => (mF.ne G_r0 R_r0_1) e.symm) e286
    have e307 := u2_e uI290
    have hSG := SGN.dr hPD hg uI290 (by omega) (by omega)
    refine z_iconst C (z := 0) rfl rfl rfl (fun x308 ex308 => ?_)
    have J309 : ∀ (nn310 : Nat) (I311 : IT) (L312 : LT) (x313 : Int32) (x318 : Int32) (x322 : Int32) (x326 : Int32) (x330 : Int32) (x334 : Int32) (x338 : Int32), ((401 - x313.toInt).toNat = nn310) → (IM R r0 I311) → (CM A R r0 [] [1] I290 L268 I311 L312) → (0 ≤ x313.toInt) → (x313.toInt ≤ 401) → (I311 r0_1 0 = x318) → (11 ≤ x318.toInt) → (x318.toInt ≤ 19) → (I311 r0_1 1 = x322) → (0 ≤ x322.toInt) → (x322.toInt ≤ 16) → (I311 r0_1 2 = x326) → (0 ≤ x326.toInt) → (x326.toInt ≤ 8) → (I311 r0_1 3 = x330) → (0 ≤ x330.toInt) → (x330.toInt ≤ 8) → (I311 r0_1 4 = x334) → (0 ≤ x334.toInt) → (x334.toInt ≤ 40) → (I311 r0_1 5 = x338) → (0 ≤ x338.toInt) → (x338.toInt ≤ 40) → (x318.toInt = w_r0_1_0.toInt) → (x322.toInt = w_r0_1_1.toInt) → (x326.toInt = w_r0_1_2.toInt) → (x330.toInt = w_r0_1_3.toInt) → (x334.toInt = w_r0_1_4.toInt) → (x338.toInt = w_r0_1_5.toInt) → (SGN (I311 r0_1) 3606) → (CPS (I311 r0_1) (198 + 401 * w_r0_1_3.toNatClampNeg) x313.toInt) → V 129 [(0, .ref r0), (2, .int w_r0_1_3), (3, .int x313)] [] (T, N, I311, L312, R) 0 0 := by
      intro nn310
      induction nn310 using Nat.strongRecOn with
      | _ nn310 ihJ309 =>
        intro I311 L312 x313 x318 x322 x326 x330 x334 x338 hmnn310 hI317 S316 b314 b315 e319 b320 b321 e323 b324 b325 e327 b328 b329 e331 b332 b333 e335 b336 b337 e339 b340 b341 ff129_0 ff129_1 ff129_2 ff129_3 ff129_4 ff129_5 ff129_6 ff129_7
        have gx313 := rg x313
        have gx318 := rg x318
        have gx322 := rg x322
        have gx326 := rg x326
        have gx330 := rg x330
        have gx334 := rg x334
        have gx338 := rg x338
        have e342 := CM.k S316 (by decide) e298
        have e343 := CM.k S316 (by decide) e299
        have e344 := CM.k S316 (by decide) e300
        have e345 := CM.k S316 (by decide) e301
        have e346 := CM.k S316 (by decide) e302
        have e347 := CM.k S316 (by decide) e303
        have e348 := CM.k S316 (by decide) e304
        have e349 := CM.k S316 (by decide) e305
        have e350 := CM.k S316 (by decide) e306
        refine k_iload_n C rfl rfl rfl ?_
        refine z_sipush C (z := 401) rfl rfl rfl (fun x351 ex351 => ?_)
        refine b_icmp_ge C (t := 168) rfl rfl rfl (fun c352 => ?_) (fun c352 => ?_)
        · skip
          refine k_aload_n C rfl rfl rfl ?_
          refine g_R C rfl rfl rfl T_r0 rfl R_r0_1 ?_
          refine z_iconst C (z := 3) rfl rfl rfl (fun x353 ex353 => ?_)
          refine k_dup2 C rfl rfl rfl rfl ?_
          refine a_I C rfl rfl T_r0_1 (by rw [N_r0_1]; exact vpi (by omega) (by omega)) ((congrArg (I311 r0_1) (nck (n := 3) (by omega))).trans e331) ?_
          refine z_iconst C (z := 1) rfl rfl rfl (fun x354 ex354 => ?_)
          refine z_iadd C rfl rfl ⟨by omega, by omega⟩ (fun x355 ex355 => ?_)
          refine z_sI C rfl rfl T_r0_1 N_r0_1 (by omega) (by omega) (fun I356 uI356 => ?_)
          have uI356 : I356 = u2 I311 r0_1 3 (x355) := by rw [uI356, nck (n := 3) (by omega)]
          have hI356 : IM R r0 I356 := IM.arr hI317 G_r0 R_r0_1 ⟨(fun h => absurd h (by decide)), (fun h => absurd h (by decide)), (fun h => absurd h (by decide))⟩ (fun _ => WOK.c3 (IM.w hI317 R_r0_1) (s := w_r0_1_3) (by rw [e331]; omega) (by omega) (by omega) (SGN.cp ff129_6 ff129_7 (by omega))) uI356
          have S357 : CM A R r0 [] [1] I311 L312 I356 L312 := CM.a G_r0 R_r0_1 A_r0_1 uI356
          have e358 := u2_n uI356 (fun e => (mF.ne G_r0 R_r0_1) e.symm) e342
          have e359 := u2_n uI356 (fun e => (mF.ne G_r0 R_r0_1) e.symm) e343
          have e360 := u2_n uI356 (fun e => (mF.ne G_r0 R_r0_1) e.symm) e344
          have e361 := u2_n uI356 (fun e => (mF.ne G_r0 R_r0_1) e.symm) e345
          have e362 := u2_n uI356 (fun e => (mF.ne G_r0 R_r0_1) e.symm) e346
          have e363 := u2_n uI356 (fun e => (mF.ne G_r0 R_r0_1) e.symm) e347
          have e364 := u2_n uI356 (fun e => (mF.ne G_r0 R_r0_1) e.symm) e348
          have e365 := u2_n uI356 (fun e => (mF.ne G_r0 R_r0_1) e.symm) e349
          have e366 := u2_n uI356 (fun e => (mF.ne G_r0 R_r0_1) e.symm) e350
          have e367 := u2_j uI356 (by first | decide | exact ncne (by omega) (by omega) (by omega) | exact nckn (by omega) (by omega) | exact (nckn (by omega) (by omega)).symm) e319
          have e368 := u2_j uI356 (by first | decide | exact ncne (by omega) (by omega) (by omega) | exact nckn (by omega) (by omega) | exact (nckn (by omega) (by omega)).symm) e323
          have e369 := u2_j uI356 (by first | decide | exact ncne (by omega) (by omega) (by omega) | exact nckn (by omega) (by omega) | exact (nckn (by omega) (by omega)).symm) e327
          have e371 := u2_j uI356 (by first | decide | exact ncne (by omega) (by omega) (by omega) | exact nckn (by omega) (by omega) | exact (nckn (by omega) (by omega)).symm) e335
          have e372 := u2_j uI356 (by first | decide | exact ncne (by omega) (by omega) (by omega) | exact nckn (by omega) (by omega) | exact (nckn (by omega) (by omega)).symm) e339
          have e373 := u2_e uI356
          refine k_iload_n C rfl rfl rfl ?_
          exact k_iret C rfl (Or.inl rfl) (Nat.le_of_ble_eq_true rfl) (Nat.le_of_ble_eq_true rfl) ⟨_, _, _, rfl, rfl, by omega, by omega, fun a1 h1 => by cases (R_r0_1.symm.trans h1); first | omega | (simp only [e358, e359, e360, e361, e362, e363, e364, e365, e366, e367, e368, e369, e371, e372, e373, k0_r0_1_0, k0_r0_1_1, k0_r0_1_2, k0_r0_1_3, k0_r0_1_4, k0_r0_1_5, k0_r0_3, and_true, true_and, or_true, true_or, and_false, false_and, or_false, false_or] <;> omega), by first | omega | (simp only [e358, e359, e360, e361, e362, e363, e364, e365, e366, e367, e368, e369, e371, e372, e373, k0_r0_1_0, k0_r0_1_1, k0_r0_1_2, k0_r0_1_3, k0_r0_1_4, k0_r0_1_5, k0_r0_3, and_true, true_and, or_true, true_or, and_false, false_and, or_false, false_or] <;> omega), fun a1 h1 => by cases (R_r0_1.symm.trans h1); first | omega | (simp only [e358, e359, e360, e361, e362, e363, e364, e365, e366, e367, e368, e369, e371, e372, e373, k0_r0_1_0, k0_r0_1_1, k0_r0_1_2, k0_r0_1_3, k0_r0_1_4, k0_r0_1_5, k0_r0_3, and_true, true_and, or_true, true_or, and_false, false_and, or_false, false_or] <;> omega), fun a1 h1 => by cases (R_r0_1.symm.trans h1); first | omega | (simp only [e358, e359, e360, e361, e362, e363, e364, e365, e366, e367, e368, e369, e371, e372, e373, k0_r0_1_0, k0_r0_1_1, k0_r0_1_2, k0_r0_1_3, k0_r0_1_4, k0_r0_1_5, k0_r0_3, and_true, true_and, or_true, true_or, and_false, false_and, or_false, false_or] <;> omega), fun a1 h1 => by cases (R_r0_1.symm.trans h1); first | omega | (simp only [e358, e359, e360, e361, e362, e363, e364, e365, e366, e367, e368, e369, e371, e372, e373, k0_r0_1_0, k0_r0_1_1, k0_r0_1_2, k0_r0_1_3, k0_r0_1_4, k0_r0_1_5, k0_r0_3, and_true, true_and, or_true, true_or, and_false, false_and, or_false, false_or] <;> omega), hI356, (CM.cons S6 (CM.cons S23 (CM.cons S37 (CM.cons S52 (CM.cons S69 (CM.cons S144 (CM.cons S216 (CM.cons S240 (CM.cons S269 (CM.cons S291 (CM.cons S316 (CM.mono S357 (by decide) (by decide)) (by decide) (by decide)) (by decide) (by decide)) (by decide) (by decide)) (by decide) (by decide)) (by decide) (by decide)) (by decide) (by decide)) (by decide) (by decide)) (by decide) (by decide)) (by decide) (by decide)) (by decide) (by decide)) (by decide) (by decide))⟩
        refine k_aload_n C rfl rfl rfl ?_
        refine g_R C rfl rfl rfl T_r0 rfl R_r0_1 ?_
        refine z_sipush C (z := 198) rfl rfl rfl (fun x374 ex374 => ?_)
        refine z_sipush C (z := 401) rfl rfl rfl (fun x375 ex375 => ?_)
        refine k_iload_n C rfl rfl rfl ?_
        refine z_imulL C (c := 401) rfl rfl (by omega) ⟨by omega, by omega⟩ (fun x376 ex376 => ?_)
        refine z_iadd C rfl rfl ⟨by omega, by omega⟩ (fun x377 ex377 => ?_)
        refine k_iload_n C rfl rfl rfl ?_
        refine z_iadd C rfl rfl ⟨by omega, by omega⟩ (fun x378 ex378 => ?_)
        refine k_aload_n C rfl rfl rfl ?_
        refine g_R C rfl rfl rfl T_r0 rfl R_r0_1 ?_
        refine z_sipush C (z := 3606) rfl rfl rfl (fun x379 ex379 => ?_)
        refine k_iload_n C rfl rfl rfl ?_
        refine z_iadd C rfl rfl ⟨by omega, by omega⟩ (fun x380 ex380 => ?_)
        refine z_aI C rfl rfl T_r0_1 N_r0_1 (by omega) (by omega) (fun x381 ex381 => ?_)
        have gx381 := rg x381
        have hr := ex381
        refine z_sI C rfl rfl T_r0_1 N_r0_1 (by omega) (by omega) (fun I382 uI382 => ?_)
        have hI382 : IM R r0 I382 := IM.arr hI317 G_r0 R_r0_1 ⟨(fun h => absurd h (by decide)), (fun h => absurd h (by decide)), (fun h => absurd h (by decide))⟩ (fun _ => WOK.sg (IM.w hI317 R_r0_1) (s := w_r0_1_3) (by rw [e331]; omega) (by omega) ⟨by omega, by omega⟩) uI382
        have S383 : CM A R r0 [] [1] I311 L312 I382 L312 := CM.a G_r0 R_r0_1 A_r0_1 uI382
        have e384 := u2_n uI382 (fun e => (mF.ne G_r0 R_r0_1) e.symm) e342
        have e385 := u2_n uI382 (fun e => (mF.ne G_r0 R_r0_1) e.symm) e343
        have e386 := u2_n uI382 (fun e => (mF.ne G_r0 R_r0_1) e.symm) e344
        have e387 := u2_n uI382 (fun e => (mF.ne G_r0 R_r0_1) e.symm) e345
        have e388 := u2_n uI382 (fun e => (mF.ne G_r0 R_r0_1) e.symm) e346
        have e389 := u2_n uI382 (fun e => (mF.ne G_r0 R_r0_1) e.symm) e347
        have e390 := u2_n uI382 (fun e => (mF.ne G_r0 R_r0_1) e.symm) e348
        have e391 := u2_n uI382 (fun e => (mF.ne G_r0 R_r0_1) e.symm) e349
        have e392 := u2_n uI382 (fun e => (mF.ne G_r0 R_r0_1) e.symm) e350
        have e393 := u2_j uI382 (by first | decide | exact ncne (by omega) (by omega) (by omega) | exact nckn (by omega) (by omega) | exact (nckn (by omega) (by omega)).symm) e319
        have e394 := u2_j uI382 (by first | decide | exact ncne (by omega) (by omega) (by omega) | exact nckn (by omega) (by omega) | exact (nckn (by omega) (by omega)).symm) e323
        have e395 := u2_j uI382 (by first | decide | exact ncne (by omega) (by omega) (by omega) | exact nckn (by omega) (by omega) | exact (nckn (by omega) (by omega)).symm) e327
        have e396 := u2_j uI382 (by first | decide | exact ncne (by omega) (by omega) (by omega) | exact nckn (by omega) (by omega) | exact (nckn (by omega) (by omega)).symm) e331
        have e397 := u2_j uI382 (by first | decide | exact ncne (by omega) (by omega) (by omega) | exact nckn (by omega) (by omega) | exact (nckn (by omega) (by omega)).symm) e335
        have e398 := u2_j uI382 (by first | decide | exact ncne (by omega) (by omega) (by omega) | exact nckn (by omega) (by omega) | exact (nckn (by omega) (by omega)).symm) e339
        have e399 := u2_j uI382 (by first | decide | exact ncne (by omega) (by omega) (by omega) | exact nckn (by omega) (by omega) | exact (nckn (by omega) (by omega)).symm) ex381
        have e400 := u2_e uI382
        have hu161 := uI382
        refine z_iinc C (z := 1) (lw := fun x401 => [(3, .int x401), (0, .ref r0), (2, .int w_r0_1_3)]) rfl rfl rfl (Nat.le_of_ble_eq_true rfl) rfl ⟨by omega, by omega⟩ (fun _ => rfl) (fun x401 ex401 => ?_)
        show V 165 [(3, .int x401), (0, .ref r0), (2, .int w_r0_1_3)] _ _ _ _
        refine k_goto C (pc2 := 129) rfl rfl ?_
        refine k_sub S [(0, .ref r0), (2, .int w_r0_1_3), (3, .int x401)] (List.forall_mem_cons.mpr ⟨List.mem_of_getElem? (i := 1) rfl, List.forall_mem_cons.mpr ⟨List.mem_of_getElem? (i := 2) rfl, List.forall_mem_cons.mpr ⟨List.mem_of_getElem? (i := 0) rfl, fun _ h => nomatch h⟩⟩⟩) ?_
        exact ihJ309 _ (by omega) I382 L312 x401 x318 x322 x326 x330 x334 x338 rfl hI382 (CM.cons S316 (CM.mono S383 (by decide) (by decide)) (by decide) (by decide)) (by omega) (by omega) e393 (by omega) (by omega) e394 (by omega) (by omega) e395 (by omega) (by omega) e396 (by omega) (by omega) e397 (by omega) (by omega) e398 (by omega) (by omega) (by omega) (by omega) (by omega) (by omega) (by omega) (by omega) (by exact SGN.w ff129_6 hu161 (by omega) (by omega)) (by exact CPS.s ff129_7 hu161 hr ⟨by omega, by omega⟩ ⟨by omega, by omega⟩ (by omega) (by omega) (by omega))
    refine k_istore_n C (lw := [(3, .int x308), (2, .int w_r0_1_3), (1, .int x212), (0, .ref r0)]) rfl rfl (Nat.le_of_ble_eq_true rfl) rfl ?_
    refine k_sub S [(0, .ref r0), (2, .int w_r0_1_3), (3, .int x308)] (List.forall_mem_cons.mpr ⟨List.mem_of_getElem? (i := 3) rfl, List.forall_mem_cons.mpr ⟨List.mem_of_getElem? (i := 1) rfl, List.forall_mem_cons.mpr ⟨List.mem_of_getElem? (i := 0) rfl, fun _ h => nomatch h⟩⟩⟩) ?_
    exact J309 _ I290 L268 x308 w_r0_1_0 w_r0_1_1 w_r0_1_2 w_r0_1_3 w_r0_1_4 w_r0_1_5 rfl hI290 CM.rf (by omega) (by omega) e292 (by omega) (by omega) e293 (by omega) (by omega) e294 (by omega) (by omega) e295 (by omega) (by omega) e296 (by omega) (by omega) e297 (by omega) (by omega) (by omega) (by omega) (by omega) (by omega) (by omega) (by omega) (by exact hSG) (by exact CPS.z (by omega))
  refine z_iconst C (z := 1) rfl rfl rfl (fun x402 ex402 => ?_)
  refine k_goto C (pc2 := 99) rfl rfl ?_
  refine z_iconst C (z := 2) rfl rfl rfl (fun x403 ex403 => ?_)
  have q404 : x402.toNatClampNeg = 1 := nck (by omega)
  have q405 : x403.toNatClampNeg = 2 := nck (by omega)
  refine c_VI C (a_X12_throwsIf_e hI238 H_r0 (by omega) (by omega)) rfl rfl rfl rfl rfl ⟨_, rfl, rfl, T_r0, Nat.le_of_ble_eq_true rfl⟩ rfl rfl (Nat.le_of_ble_eq_true rfl) (Nat.le_of_ble_eq_true rfl) (Nat.le_of_ble_eq_true rfl) ?_
  rintro x406 I407 L408 ⟨o0x406, o1x406, p0x406, p1x406, hI407, S409⟩
  have e410 := CM.j S409 R_r0_1 (by decide) e241
  have e411 := CM.j S409 R_r0_1 (by decide) e242
  have e412 := CM.j S409 R_r0_1 (by decide) e243
  have e413 := CM.j S409 R_r0_1 (by decide) e244
  have e414 := CM.j S409 R_r0_1 (by decide) e245
  have e415 := CM.j S409 R_r0_1 (by decide) e246
  have e416 := CM.k S409 (by decide) e247
  have e417 := CM.k S409 (by decide) e248
  have e418 := CM.k S409 (by decide) e249
  have e419 := CM.k S409 (by decide) e251
  have e420 := CM.k S409 (by decide) e252
  have e421 := CM.k S409 (by decide) e253
  have e422 := CM.k S409 (by decide) e254
  have e423 := CM.k S409 (by decide) e255
  have gx406 := rg x406
  obtain ⟨x425, e426⟩ : ∃ x, I407 r0 0 = x := ⟨_, rfl⟩
  have gx425 := rg x425
  have hg := (CM.j0 S409 R_r0_1 (by decide)).trans hg
  try simp only [q404, q405, e241, e242, e243, e244, e245, e246, e247, e248, e249, e251, e252, e253, e254, e255, e257, e426] at p0x406
  try have q0x406 := congrArg Int32.toInt p0x406
  try simp only [q404, q405, e241, e242, e243, e244, e245, e246, e247, e248, e249, e251, e252, e253, e254, e255, e257, e426] at p1x406
  try have q1x406 := congrArg Int32.toInt p1x406
  refine b_if_eq C (t := 108) rfl rfl rfl (fun c427 => by exfalso; omega) (fun c427 => ?_)
  refine z_iconst C (z := 0) rfl rfl rfl (fun x428 ex428 => ?_)
  exact k_iret C rfl (Or.inl rfl) (Nat.le_of_ble_eq_true rfl) (Nat.le_of_ble_eq_true rfl) ⟨_, _, _, rfl, rfl, by omega, by omega, fun a1 h1 => by cases (R_r0_1.symm.trans h1); first | omega | (simp only [e410, e411, e412, e413, e414, e415, e416, e417, e418, e419, e420, e421, e422, e423, e426, k0_r0_1_0, k0_r0_1_1, k0_r0_1_2, k0_r0_1_3, k0_r0_1_4, k0_r0_1_5, k0_r0_3, and_true, true_and, or_true, true_or, and_false, false_and, or_false, false_or] <;> omega), by first | omega | (simp only [e410, e411, e412, e413, e414, e415, e416, e417, e418, e419, e420, e421, e422, e423, e426, k0_r0_1_0, k0_r0_1_1, k0_r0_1_2, k0_r0_1_3, k0_r0_1_4, k0_r0_1_5, k0_r0_3, and_true, true_and, or_true, true_or, and_false, false_and, or_false, false_or] <;> omega), fun a1 h1 => by cases (R_r0_1.symm.trans h1); first | omega | (simp only [e410, e411, e412, e413, e414, e415, e416, e417, e418, e419, e420, e421, e422, e423, e426, k0_r0_1_0, k0_r0_1_1, k0_r0_1_2, k0_r0_1_3, k0_r0_1_4, k0_r0_1_5, k0_r0_3, and_true, true_and, or_true, true_or, and_false, false_and, or_false, false_or] <;> omega), fun a1 h1 => by cases (R_r0_1.symm.trans h1); first | omega | (simp only [e410, e411, e412, e413, e414, e415, e416, e417, e418, e419, e420, e421, e422, e423, e426, k0_r0_1_0, k0_r0_1_1, k0_r0_1_2, k0_r0_1_3, k0_r0_1_4, k0_r0_1_5, k0_r0_3, and_true, true_and, or_true, true_or, and_false, false_and, or_false, false_or] <;> omega), fun a1 h1 => by cases (R_r0_1.symm.trans h1); first | omega | (simp only [e410, e411, e412, e413, e414, e415, e416, e417, e418, e419, e420, e421, e422, e423, e426, k0_r0_1_0, k0_r0_1_1, k0_r0_1_2, k0_r0_1_3, k0_r0_1_4, k0_r0_1_5, k0_r0_3, and_true, true_and, or_true, true_or, and_false, false_and, or_false, false_or] <;> omega), hI407, (CM.cons S6 (CM.cons S23 (CM.cons S37 (CM.cons S52 (CM.cons S69 (CM.cons S144 (CM.cons S216 (CM.cons S240 (CM.mono S409 (by decide) (by decide)) (by decide) (by decide)) (by decide) (by decide)) (by decide) (by decide)) (by decide) (by decide)) (by decide) (by decide)) (by decide) (by decide)) (by decide) (by decide)) (by decide) (by decide))⟩

