/-! reduced, the calls -/
theorem disc32 {a b c : Int32} (h1 : -999 ≤ a.toInt ∧ a.toInt ≤ 999) (h2 : -999 ≤ b.toInt ∧ b.toInt ≤ 999) (h3 : -999 ≤ c.toInt ∧ c.toInt ≤ 999) : (b * b - 4 * a * c).toInt = b.toInt * b.toInt - 4 * (a.toInt * c.toInt) := by
  have m1 := bdm h2 h2
  have m2 := bdm (x := 4 * a.toInt) (X := 4000) (by omega) h3
  have m3 := bdm h1 h3
  have e1 := ii_mul (x := b) (y := b) (by omega)
  have e4 : (4 : Int32).toInt = 4 := rfl
  have e2 : (4 * a).toInt = 4 * a.toInt := by rw [ii_mul (by rw [e4]; omega), e4]
  have e3 : (4 * a * c).toInt = 4 * a.toInt * c.toInt := by rw [ii_mul (by rw [e2]; omega), e2]
  rw [ii_sub (by rw [e1, e3, Int.mul_assoc]; omega), e1, e3, Int.mul_assoc]
theorem disc64 {a b c : Int32} (h1 : -999 ≤ a.toInt ∧ a.toInt ≤ 999) (h2 : -999 ≤ b.toInt ∧ b.toInt ≤ 999) (h3 : -999 ≤ c.toInt ∧ c.toInt ≤ 999) : lg_cmp (b.toInt64 * b.toInt64) (4 * a.toInt64 * c.toInt64) < 0 ↔ b.toInt * b.toInt - 4 * (a.toInt * c.toInt) < 0 := by
  have m1 := bdm h2 h2
  have m2 := bdm (x := 4 * a.toInt) (X := 4000) (by omega) h3
  have m3 := bdm h1 h3
  have e1 : (b.toInt64 * b.toInt64).toInt = b.toInt * b.toInt := by rw [li_mul (by rw [i2l_eq]; omega), i2l_eq]
  have e4 : (4 : Int64).toInt = 4 := rfl
  have e2 : (4 * a.toInt64).toInt = 4 * a.toInt := by rw [li_mul (by rw [e4, i2l_eq]; omega), e4, i2l_eq]
  have e3 : (4 * a.toInt64 * c.toInt64).toInt = 4 * a.toInt * c.toInt := by rw [li_mul (by rw [e2, i2l_eq]; omega), e2, i2l_eq]
  rw [lg_cmp_lt, l_lt, e1, e3, Int.mul_assoc]; omega
theorem wh_i {v : Int32} : (-(999 : Int32) ≤ v ∧ v ≤ 999) ↔ (-999 ≤ v.toInt ∧ v.toInt ≤ 999) := by
  rw [i_le, i_le]; exact Iff.rfl
theorem e_reduced_no {d : Nat} {T N : Nat → Nat} {I : IT} {L : LT} {R : RT} {x : Nat} {a b c n : Int32} (T_x : T x = 12) (h : ¬ okRed a b c) : Ex (d + 2) 168 [.ref x, .int a, .int b, .int c, .int n] (T, N, I, L, R) 1 6 (pX 0 T N R (fun I9 L9 => I9 = I ∧ L9 = L)) := by
  refine ⟨_, rfl, Nat.le_of_ble_eq_true rfl, fun V C S => ?_⟩
  show V 0 [(0, .ref x), (1, .int a), (2, .int b), (3, .int c), (4, .int n)] [] (T, N, I, L, R) 0 0
  refine k_iload_n C rfl rfl rfl ?_
  refine k_sipush C (x := 999) rfl rfl rfl ?_
  refine c_SI C e_isWhole rfl rfl rfl rfl rfl rfl rfl (Nat.le_of_ble_eq_true rfl) (Nat.le_of_ble_eq_true rfl) (Nat.le_of_ble_eq_true rfl) ?_
  rintro _ _ _ ⟨hx7, hI8, hL9⟩
  have hx7 := hx7.symm; subst hx7
  have hI8 := hI8.symm; subst hI8; have hL9 := hL9.symm; subst hL9
  refine k_if_eq C (t := 30) rfl rfl rfl (fun c7 => ?_) (fun c7 => ?_)
  · skip
    exact k_throw C rfl rfl rfl rfl rfl rfl (Nat.le_of_ble_eq_true rfl) (Nat.le_of_ble_eq_true rfl) (Nat.le_of_ble_eq_true rfl) ⟨_, _, rfl, rfl, ⟨rfl, rfl⟩⟩
  have q1 := wh_i.mp (inY c7)
  refine k_iload_n C rfl rfl rfl ?_
  refine k_sipush C (x := 999) rfl rfl rfl ?_
  refine c_SI C e_isWhole rfl rfl rfl rfl rfl rfl rfl (Nat.le_of_ble_eq_true rfl) (Nat.le_of_ble_eq_true rfl) (Nat.le_of_ble_eq_true rfl) ?_
  rintro _ _ _ ⟨hx7, hI8, hL9⟩
  have hx7 := hx7.symm; subst hx7
  have hI8 := hI8.symm; subst hI8; have hL9 := hL9.symm; subst hL9
  refine k_if_eq C (t := 30) rfl rfl rfl (fun c17 => ?_) (fun c17 => ?_)
  · skip
    exact k_throw C rfl rfl rfl rfl rfl rfl (Nat.le_of_ble_eq_true rfl) (Nat.le_of_ble_eq_true rfl) (Nat.le_of_ble_eq_true rfl) ⟨_, _, rfl, rfl, ⟨rfl, rfl⟩⟩
  have q2 := wh_i.mp (inY c17)
  refine k_iload_n C rfl rfl rfl ?_
  refine k_sipush C (x := 999) rfl rfl rfl ?_
  refine c_SI C e_isWhole rfl rfl rfl rfl rfl rfl rfl (Nat.le_of_ble_eq_true rfl) (Nat.le_of_ble_eq_true rfl) (Nat.le_of_ble_eq_true rfl) ?_
  rintro _ _ _ ⟨hx7, hI8, hL9⟩
  have hx7 := hx7.symm; subst hx7
  have hI8 := hI8.symm; subst hI8; have hL9 := hL9.symm; subst hL9
  refine k_if_ne C (t := 38) rfl rfl rfl (fun c27 => ?_) (fun c27 => ?_)
  · skip
    have q3 := wh_i.mp (inY c27)
    refine k_iload_n C rfl rfl rfl ?_
    refine k_if_le C (t := 54) rfl rfl rfl (fun c39 => ?_) (fun c39 => ?_)
    · skip
      exact k_throw C rfl rfl rfl rfl rfl rfl (Nat.le_of_ble_eq_true rfl) (Nat.le_of_ble_eq_true rfl) (Nat.le_of_ble_eq_true rfl) ⟨_, _, rfl, rfl, ⟨rfl, rfl⟩⟩
    have q4 : 0 < a.toInt := by have := i_lt.mp (Int32.not_le.mp c39); exact this
    refine k_iload_n C rfl rfl rfl ?_
    refine k_iload_n C rfl rfl rfl ?_
    refine k_imul C rfl rfl ?_
    refine k_iconst C (x := 4) rfl rfl rfl ?_
    refine k_iload_n C rfl rfl rfl ?_
    refine k_imul C rfl rfl ?_
    refine k_iload_n C rfl rfl rfl ?_
    refine k_imul C rfl rfl ?_
    refine k_isub C rfl rfl ?_
    refine k_if_lt C (t := 62) rfl rfl rfl (fun c51 => ?_) (fun c51 => ?_)
    · skip
      exact absurd ⟨q1, q2, q3, q4, by have := i_lt.mp c51; rw [disc32 q1 q2 q3] at this; exact this⟩ h
    exact k_throw C rfl rfl rfl rfl rfl rfl (Nat.le_of_ble_eq_true rfl) (Nat.le_of_ble_eq_true rfl) (Nat.le_of_ble_eq_true rfl) ⟨_, _, rfl, rfl, ⟨rfl, rfl⟩⟩
  exact k_throw C rfl rfl rfl rfl rfl rfl (Nat.le_of_ble_eq_true rfl) (Nat.le_of_ble_eq_true rfl) (Nat.le_of_ble_eq_true rfl) ⟨_, _, rfl, rfl, ⟨rfl, rfl⟩⟩

theorem e_reduced_nse {d : Nat} {T N : Nat → Nat} {I : IT} {L : LT} {R : RT} {x : Nat} {a b c n : Int32} (T_x : T x = 12) (hok : okRed a b c) (hn : ¬ (0 ≤ n.toInt ∧ n.toInt ≤ 8)) : Ex (d + 2) 168 [.ref x, .int a, .int b, .int c, .int n] (T, N, I, L, R) 1 6 (pX 4 T N R (fun I9 L9 => I9 = I ∧ L9 = L)) := by
  refine ⟨_, rfl, Nat.le_of_ble_eq_true rfl, fun V C S => ?_⟩
  show V 0 [(0, .ref x), (1, .int a), (2, .int b), (3, .int c), (4, .int n)] [] (T, N, I, L, R) 0 0
  refine k_iload_n C rfl rfl rfl ?_
  refine k_sipush C (x := 999) rfl rfl rfl ?_
  refine c_SI C e_isWhole rfl rfl rfl rfl rfl rfl rfl (Nat.le_of_ble_eq_true rfl) (Nat.le_of_ble_eq_true rfl) (Nat.le_of_ble_eq_true rfl) ?_
  rintro _ _ _ ⟨hx7, hI8, hL9⟩
  have hx7 := hx7.symm; subst hx7
  have hI8 := hI8.symm; subst hI8; have hL9 := hL9.symm; subst hL9
  refine k_if_eq C (t := 30) rfl rfl rfl (fun c7 => ?_) (fun c7 => ?_)
  · skip
    exact absurd c7 (inN (wh_i.mpr hok.1))
  refine k_iload_n C rfl rfl rfl ?_
  refine k_sipush C (x := 999) rfl rfl rfl ?_
  refine c_SI C e_isWhole rfl rfl rfl rfl rfl rfl rfl (Nat.le_of_ble_eq_true rfl) (Nat.le_of_ble_eq_true rfl) (Nat.le_of_ble_eq_true rfl) ?_
  rintro _ _ _ ⟨hx7, hI8, hL9⟩
  have hx7 := hx7.symm; subst hx7
  have hI8 := hI8.symm; subst hI8; have hL9 := hL9.symm; subst hL9
  refine k_if_eq C (t := 30) rfl rfl rfl (fun c17 => ?_) (fun c17 => ?_)
  · skip
    exact absurd c17 (inN (wh_i.mpr hok.2.1))
  refine k_iload_n C rfl rfl rfl ?_
  refine k_sipush C (x := 999) rfl rfl rfl ?_
  refine c_SI C e_isWhole rfl rfl rfl rfl rfl rfl rfl (Nat.le_of_ble_eq_true rfl) (Nat.le_of_ble_eq_true rfl) (Nat.le_of_ble_eq_true rfl) ?_
  rintro _ _ _ ⟨hx7, hI8, hL9⟩
  have hx7 := hx7.symm; subst hx7
  have hI8 := hI8.symm; subst hI8; have hL9 := hL9.symm; subst hL9
  refine k_if_ne C (t := 38) rfl rfl rfl (fun c27 => ?_) (fun c27 => ?_)
  · skip
    refine k_iload_n C rfl rfl rfl ?_
    refine k_if_le C (t := 54) rfl rfl rfl (fun c39 => ?_) (fun c39 => ?_)
    · skip
      exact absurd (i_le.mp c39) (by have := hok.2.2.2.1; show ¬ _ ≤ (0 : Int); omega)
    refine k_iload_n C rfl rfl rfl ?_
    refine k_iload_n C rfl rfl rfl ?_
    refine k_imul C rfl rfl ?_
    refine k_iconst C (x := 4) rfl rfl rfl ?_
    refine k_iload_n C rfl rfl rfl ?_
    refine k_imul C rfl rfl ?_
    refine k_iload_n C rfl rfl rfl ?_
    refine k_imul C rfl rfl ?_
    refine k_isub C rfl rfl ?_
    refine k_if_lt C (t := 62) rfl rfl rfl (fun c51 => ?_) (fun c51 => ?_)
    · skip
      refine k_iload C rfl rfl rfl ?_
      refine k_if_lt C (t := 74) rfl rfl rfl (fun c64 => ?_) (fun c64 => ?_)
      · skip
        exact k_throw C rfl rfl rfl rfl rfl rfl (Nat.le_of_ble_eq_true rfl) (Nat.le_of_ble_eq_true rfl) (Nat.le_of_ble_eq_true rfl) ⟨_, _, rfl, rfl, ⟨rfl, rfl⟩⟩
      refine k_iload C rfl rfl rfl ?_
      refine k_bipush C (x := 8) rfl rfl rfl ?_
      refine k_icmp_le C (t := 82) rfl rfl rfl (fun c71 => ?_) (fun c71 => ?_)
      · skip
        exact absurd ⟨by have := i_le.mp (Int32.not_lt.mp c64); exact this, by have := i_le.mp c71; exact this⟩ hn
      exact k_throw C rfl rfl rfl rfl rfl rfl (Nat.le_of_ble_eq_true rfl) (Nat.le_of_ble_eq_true rfl) (Nat.le_of_ble_eq_true rfl) ⟨_, _, rfl, rfl, ⟨rfl, rfl⟩⟩
    exact absurd (i_lt.mpr (by rw [disc32 hok.1 hok.2.1 hok.2.2.1]; exact hok.2.2.2.2)) c51
  exact absurd (inN (wh_i.mpr hok.2.2.1)) c27

theorem e_reduced_yes {d : Nat} {T N : Nat → Nat} {I : IT} {L : LT} {R : RT} {A : Nat → Prop} {x wh : Nat} {a b c n : Int32} (T_x : T x = 12) (R_x_10 : R x 10 = some wh) (T_wh : T wh = 11) (A_wh : A wh) (hok : okRed a b c) (hn : 0 ≤ n.toInt ∧ n.toInt ≤ 8) : Ex (d + 4) 168 [.ref x, .int a, .int b, .int c, .int n] (T, N, I, L, R) 0 0 (pL T N R (fun x9 I9 L9 => x9 = tlS (run 1000 (st0 a b c)) n.toInt ∧ Fr A I L I9 L9)) := by
  refine ⟨_, rfl, Nat.le_of_ble_eq_true rfl, fun V C S => ?_⟩
  show V 0 [(0, .ref x), (1, .int a), (2, .int b), (3, .int c), (4, .int n)] [] (T, N, I, L, R) 0 0
  refine k_iload_n C rfl rfl rfl ?_
  refine k_sipush C (x := 999) rfl rfl rfl ?_
  refine c_SI C e_isWhole rfl rfl rfl rfl rfl rfl rfl (Nat.le_of_ble_eq_true rfl) (Nat.le_of_ble_eq_true rfl) (Nat.le_of_ble_eq_true rfl) ?_
  rintro _ _ _ ⟨hx7, hI8, hL9⟩
  have hx7 := hx7.symm; subst hx7
  have hI8 := hI8.symm; subst hI8; have hL9 := hL9.symm; subst hL9
  refine k_if_eq C (t := 30) rfl rfl rfl (fun c7 => ?_) (fun c7 => ?_)
  · skip
    exact absurd c7 (inN (wh_i.mpr hok.1))
  refine k_iload_n C rfl rfl rfl ?_
  refine k_sipush C (x := 999) rfl rfl rfl ?_
  refine c_SI C e_isWhole rfl rfl rfl rfl rfl rfl rfl (Nat.le_of_ble_eq_true rfl) (Nat.le_of_ble_eq_true rfl) (Nat.le_of_ble_eq_true rfl) ?_
  rintro _ _ _ ⟨hx7, hI8, hL9⟩
  have hx7 := hx7.symm; subst hx7
  have hI8 := hI8.symm; subst hI8; have hL9 := hL9.symm; subst hL9
  refine k_if_eq C (t := 30) rfl rfl rfl (fun c17 => ?_) (fun c17 => ?_)
  · skip
    exact absurd c17 (inN (wh_i.mpr hok.2.1))
  refine k_iload_n C rfl rfl rfl ?_
  refine k_sipush C (x := 999) rfl rfl rfl ?_
  refine c_SI C e_isWhole rfl rfl rfl rfl rfl rfl rfl (Nat.le_of_ble_eq_true rfl) (Nat.le_of_ble_eq_true rfl) (Nat.le_of_ble_eq_true rfl) ?_
  rintro _ _ _ ⟨hx7, hI8, hL9⟩
  have hx7 := hx7.symm; subst hx7
  have hI8 := hI8.symm; subst hI8; have hL9 := hL9.symm; subst hL9
  refine k_if_ne C (t := 38) rfl rfl rfl (fun c27 => ?_) (fun c27 => ?_)
  · skip
    refine k_iload_n C rfl rfl rfl ?_
    refine k_if_le C (t := 54) rfl rfl rfl (fun c39 => ?_) (fun c39 => ?_)
    · skip
      exact absurd (i_le.mp c39) (by have := hok.2.2.2.1; show ¬ _ ≤ (0 : Int); omega)
    refine k_iload_n C rfl rfl rfl ?_
    refine k_iload_n C rfl rfl rfl ?_
    refine k_imul C rfl rfl ?_
    refine k_iconst C (x := 4) rfl rfl rfl ?_
    refine k_iload_n C rfl rfl rfl ?_
    refine k_imul C rfl rfl ?_
    refine k_iload_n C rfl rfl rfl ?_
    refine k_imul C rfl rfl ?_
    refine k_isub C rfl rfl ?_
    refine k_if_lt C (t := 62) rfl rfl rfl (fun c51 => ?_) (fun c51 => ?_)
    · skip
      refine k_iload C rfl rfl rfl ?_
      refine k_if_lt C (t := 74) rfl rfl rfl (fun c64 => ?_) (fun c64 => ?_)
      · skip
        exact absurd (i_lt.mp c64) (by show ¬ _ < (0 : Int); omega)
      refine k_iload C rfl rfl rfl ?_
      refine k_bipush C (x := 8) rfl rfl rfl ?_
      refine k_icmp_le C (t := 82) rfl rfl rfl (fun c71 => ?_) (fun c71 => ?_)
      · skip
        refine k_aload_n C rfl rfl rfl ?_
        refine g_R C rfl rfl rfl T_x rfl R_x_10 ?_
        refine k_iload_n C rfl rfl rfl ?_
        refine k_iload_n C rfl rfl rfl ?_
        refine k_iload_n C rfl rfl rfl ?_
        refine c_VV C (e_reduce T_wh A_wh hok) rfl rfl rfl rfl rfl ⟨_, rfl, rfl, T_wh, Nat.le_of_ble_eq_true rfl⟩ rfl rfl (Nat.le_of_ble_eq_true rfl) (Nat.le_of_ble_eq_true rfl) (Nat.le_of_ble_eq_true rfl) ?_
        rintro I1 L1 ⟨hI8, hF1, hs1⟩
        have hI8 := hI8.symm; subst hI8
        refine k_aload_n C rfl rfl rfl ?_
        refine g_R C rfl rfl rfl T_x rfl R_x_10 ?_
        refine k_iload C rfl rfl rfl ?_
        refine c_VL C (e_tell T_wh (hs1 0 (Nat.le_of_ble_eq_true rfl)) (hs1 1 (Nat.le_of_ble_eq_true rfl)) (hs1 2 (Nat.le_of_ble_eq_true rfl)) (hs1 3 (Nat.le_of_ble_eq_true rfl)) (hs1 4 (Nat.le_of_ble_eq_true rfl)) (hs1 5 (Nat.le_of_ble_eq_true rfl)) (hs1 6 (Nat.le_of_ble_eq_true rfl)) (hs1 7 (Nat.le_of_ble_eq_true rfl)) hn) rfl rfl rfl rfl rfl ⟨_, rfl, rfl, T_wh, Nat.le_of_ble_eq_true rfl⟩ rfl rfl (Nat.le_of_ble_eq_true rfl) (Nat.le_of_ble_eq_true rfl) (Nat.le_of_ble_eq_true rfl) ?_
        rintro _ _ _ ⟨hx7, hI8, hL9⟩
        have hx7 := hx7.symm; subst hx7
        have hI8 := hI8.symm; subst hI8; have hL9 := hL9.symm; subst hL9
        exact k_lret C rfl rfl (Nat.le_of_ble_eq_true rfl) (Nat.le_of_ble_eq_true rfl) ⟨_, _, _, rfl, rfl, ⟨rfl, hF1⟩⟩
      exact absurd (i_le.mpr (show _ ≤ (8 : Int) from hn.2)) c71
    exact absurd (i_lt.mpr (by rw [disc32 hok.1 hok.2.1 hok.2.2.1]; exact hok.2.2.2.2)) c51
  exact absurd (inN (wh_i.mpr hok.2.2.1)) c27

theorem e_m_isThousand {d : Nat} {T N : Nat → Nat} {I : IT} {L : LT} {R : RT} {v : Int32}  : Ex (d + 2) 302 [.int v] (T, N, I, L, R) 0 0 (pI T N R (fun x9 I9 L9 => x9 = (if (-999 : Int32) ≤ v ∧ v ≤ 999 then (1 : Int32) else 0) ∧ I9 = I ∧ L9 = L)) := by
  refine ⟨_, rfl, Nat.le_of_ble_eq_true rfl, fun V C S => ?_⟩
  show V 0 [(0, .int v)] [] (T, N, I, L, R) 0 0
  refine k_iload_n C rfl rfl rfl ?_
  refine k_sipush C (x := -999) rfl rfl rfl ?_
  refine k_sipush C (x := 999) rfl rfl rfl ?_
  refine c_SI C e_in rfl rfl rfl rfl rfl rfl rfl (Nat.le_of_ble_eq_true rfl) (Nat.le_of_ble_eq_true rfl) (Nat.le_of_ble_eq_true rfl) ?_
  rintro _ _ _ ⟨hx7, hI8, hL9⟩
  have hx7 := hx7.symm; subst hx7
  have hI8 := hI8.symm; subst hI8; have hL9 := hL9.symm; subst hL9
  exact k_iret C rfl (Or.inr ⟨rfl, by by_cases h : (-999 : Int32) ≤ v ∧ v ≤ 999; exact Or.inr (if_pos h); exact Or.inl (if_neg h)⟩) (Nat.le_of_ble_eq_true rfl) (Nat.le_of_ble_eq_true rfl) ⟨_, _, _, rfl, rfl, ⟨rfl, rfl, rfl⟩⟩

theorem e_m_turnsOf {d : Nat} {T N : Nat → Nat} {I : IT} {L : LT} {R : RT} {a b c : Int64}  : Ex (d + 1) 301 [.long a, .long b, .long c] (T, N, I, L, R) 0 0 (pI T N R (fun x9 I9 L9 => x9 = (if ¬ a = c then (2 : Int32) else if b = 0 then 4 else if b = a then 6 else 2) ∧ I9 = I ∧ L9 = L)) := by
  refine ⟨_, rfl, Nat.le_of_ble_eq_true rfl, fun V C S => ?_⟩
  show V 0 [(0, .long a), (2, .long b), (4, .long c)] [] (T, N, I, L, R) 0 0
  refine k_lload_n C rfl rfl rfl ?_
  refine k_lload C rfl rfl rfl ?_
  refine k_lcmp C rfl rfl ?_
  refine k_if_eq C (t := 11) rfl rfl rfl (fun c4 => ?_) (fun c4 => ?_)
  · skip
    have e9 := (lg_cmp_eq _ _).mp c4
    refine k_lload_n C rfl rfl rfl ?_
    refine k_lconst C (x := 0) rfl rfl rfl ?_
    refine k_lcmp C rfl rfl ?_
    refine k_if_ne C (t := 21) rfl rfl rfl (fun c14 => ?_) (fun c14 => ?_)
    · skip
      have e20 : ¬ b = 0 := fun h => c14 ((lg_cmp_eq _ _).mpr h)
      refine k_lload_n C rfl rfl rfl ?_
      refine k_lload_n C rfl rfl rfl ?_
      refine k_lcmp C rfl rfl ?_
      refine k_if_ne C (t := 32) rfl rfl rfl (fun c24 => ?_) (fun c24 => ?_)
      · skip
        have q : (if ¬ a = c then (2 : Int32) else if b = 0 then 4 else if b = a then 6 else 2) = 2 := by rw [if_neg (fun h => h e9), if_neg e20, if_neg (fun h => c24 ((lg_cmp_eq _ _).mpr h))]
        refine k_iconst C (x := 2) rfl rfl rfl ?_
        exact k_iret C rfl (Or.inl rfl) (Nat.le_of_ble_eq_true rfl) (Nat.le_of_ble_eq_true rfl) ⟨_, _, _, rfl, rfl, ⟨q.symm, rfl, rfl⟩⟩
      have q : (if ¬ a = c then (2 : Int32) else if b = 0 then 4 else if b = a then 6 else 2) = 6 := by rw [if_neg (fun h => h e9), if_neg e20, if_pos ((lg_cmp_eq _ _).mp (Decidable.not_not.mp c24))]
      refine k_bipush C (x := 6) rfl rfl rfl ?_
      refine k_goto C (pc2 := 33) rfl rfl ?_
      exact k_iret C rfl (Or.inl rfl) (Nat.le_of_ble_eq_true rfl) (Nat.le_of_ble_eq_true rfl) ⟨_, _, _, rfl, rfl, ⟨q.symm, rfl, rfl⟩⟩
    have e20 := (lg_cmp_eq _ _).mp (Decidable.not_not.mp c14)
    have q : (if ¬ a = c then (2 : Int32) else if b = 0 then 4 else if b = a then 6 else 2) = 4 := by rw [if_neg (fun h => h e9), if_pos e20]
    refine k_iconst C (x := 4) rfl rfl rfl ?_
    refine k_goto C (pc2 := 33) rfl rfl ?_
    exact k_iret C rfl (Or.inl rfl) (Nat.le_of_ble_eq_true rfl) (Nat.le_of_ble_eq_true rfl) ⟨_, _, _, rfl, rfl, ⟨q.symm, rfl, rfl⟩⟩
  have e9 : ¬ a = c := fun h => c4 ((lg_cmp_eq _ _).mpr h)
  have q := (if_pos e9 : (if ¬ a = c then (2 : Int32) else if b = 0 then 4 else if b = a then 6 else 2) = 2)
  refine k_iconst C (x := 2) rfl rfl rfl ?_
  refine k_goto C (pc2 := 33) rfl rfl ?_
  exact k_iret C rfl (Or.inl rfl) (Nat.le_of_ble_eq_true rfl) (Nat.le_of_ble_eq_true rfl) ⟨_, _, _, rfl, rfl, ⟨q.symm, rfl, rfl⟩⟩

theorem e_m_reduced_no {d : Nat} {T N : Nat → Nat} {I : IT} {L : LT} {R : RT} {A : Nat → Prop} {m : Nat} {a b c n : Int32} (T_m : T m = 13) (A_m : A m) (h : ¬ okRed a b c) : Ex (d + 3) 303 [.ref m, .int a, .int b, .int c, .int n] (T, N, I, L, R) 0 0 (pL T N R (fun x9 I9 L9 => Fr A I L I9 L9 ∧ I9 m 0 = 1 ∧ IKm m I I9)) := by
  refine ⟨_, rfl, Nat.le_of_ble_eq_true rfl, fun V C S => ?_⟩
  show V 0 [(0, .ref m), (1, .int a), (2, .int b), (3, .int c), (4, .int n)] [] (T, N, I, L, R) 0 0
  refine k_aload_n C rfl rfl rfl ?_
  refine k_iconst C (x := 0) rfl rfl rfl ?_
  refine p_I C rfl rfl rfl T_m (Or.inr rfl) rfl ?_
  refine k_aload_n C rfl rfl rfl ?_
  refine k_iload_n C rfl rfl rfl ?_
  refine k_i2l C rfl rfl ?_
  refine p_L C rfl rfl rfl T_m (Or.inr rfl) rfl ?_
  refine k_aload_n C rfl rfl rfl ?_
  refine k_iload_n C rfl rfl rfl ?_
  refine k_i2l C rfl rfl ?_
  refine p_L C rfl rfl rfl T_m (Or.inr rfl) rfl ?_
  refine k_aload_n C rfl rfl rfl ?_
  refine k_iload_n C rfl rfl rfl ?_
  refine k_i2l C rfl rfl ?_
  refine p_L C rfl rfl rfl T_m (Or.inr rfl) rfl ?_
  refine k_iload_n C rfl rfl rfl ?_
  refine c_SI C e_m_isThousand rfl rfl rfl rfl rfl rfl rfl (Nat.le_of_ble_eq_true rfl) (Nat.le_of_ble_eq_true rfl) (Nat.le_of_ble_eq_true rfl) ?_
  rintro _ _ _ ⟨hx7, hI8, hL9⟩
  have hx7 := hx7.symm; subst hx7
  have hI8 := hI8.symm; subst hI8; have hL9 := hL9.symm; subst hL9
  refine k_if_eq C (t := 66) rfl rfl rfl (fun c27 => ?_) (fun c27 => ?_)
  · skip
    refine k_iconst C (x := 1) rfl rfl rfl ?_
    refine k_goto C (pc2 := 71) rfl rfl ?_
    refine k_istore C (lw := [(5, .int _), (0, _), (1, .int _), (2, .int _), (3, .int _), (4, .int _)]) rfl rfl (Nat.le_of_ble_eq_true rfl) rfl ?_
    refine k_aload_n C rfl rfl rfl ?_
    refine k_iload C rfl rfl rfl ?_
    refine k_iconst C (x := 1) rfl rfl rfl ?_
    refine c_VI C (e_throwsIf1 T_m rfl) rfl rfl rfl rfl rfl ⟨_, rfl, rfl, T_m, Nat.le_of_ble_eq_true rfl⟩ rfl rfl (Nat.le_of_ble_eq_true rfl) (Nat.le_of_ble_eq_true rfl) (Nat.le_of_ble_eq_true rfl) ?_
    rintro _ _ _ ⟨hx7, hI8, hL9⟩
    have hx7 := hx7.symm; subst hx7
    have hI8 := hI8.symm; subst hI8; have hL9 := hL9.symm; subst hL9
    refine k_if_ne C (t := 107) rfl rfl rfl (fun _ => ?_) (fun c80 => absurd (by decide) c80)
    refine k_lconst C (x := 0) rfl rfl rfl ?_
    exact k_lret C rfl rfl (Nat.le_of_ble_eq_true rfl) (Nat.le_of_ble_eq_true rfl) ⟨_, _, _, rfl, rfl, ⟨(Fr.l (Fr.l (Fr.l (Fr.i (Fr.i Fr.rf A_m) A_m) A_m) A_m) A_m), u2_s, (by first | exact IKm.i IKm.rf | exact IKm.i (IKm.i IKm.rf))⟩⟩
  have q1 := wh_i.mp (inY c27)
  refine k_iload_n C rfl rfl rfl ?_
  refine c_SI C e_m_isThousand rfl rfl rfl rfl rfl rfl rfl (Nat.le_of_ble_eq_true rfl) (Nat.le_of_ble_eq_true rfl) (Nat.le_of_ble_eq_true rfl) ?_
  rintro _ _ _ ⟨hx7, hI8, hL9⟩
  have hx7 := hx7.symm; subst hx7
  have hI8 := hI8.symm; subst hI8; have hL9 := hL9.symm; subst hL9
  refine k_if_eq C (t := 66) rfl rfl rfl (fun c34 => ?_) (fun c34 => ?_)
  · skip
    refine k_iconst C (x := 1) rfl rfl rfl ?_
    refine k_goto C (pc2 := 71) rfl rfl ?_
    refine k_istore C (lw := [(5, .int _), (0, _), (1, .int _), (2, .int _), (3, .int _), (4, .int _)]) rfl rfl (Nat.le_of_ble_eq_true rfl) rfl ?_
    refine k_aload_n C rfl rfl rfl ?_
    refine k_iload C rfl rfl rfl ?_
    refine k_iconst C (x := 1) rfl rfl rfl ?_
    refine c_VI C (e_throwsIf1 T_m rfl) rfl rfl rfl rfl rfl ⟨_, rfl, rfl, T_m, Nat.le_of_ble_eq_true rfl⟩ rfl rfl (Nat.le_of_ble_eq_true rfl) (Nat.le_of_ble_eq_true rfl) (Nat.le_of_ble_eq_true rfl) ?_
    rintro _ _ _ ⟨hx7, hI8, hL9⟩
    have hx7 := hx7.symm; subst hx7
    have hI8 := hI8.symm; subst hI8; have hL9 := hL9.symm; subst hL9
    refine k_if_ne C (t := 107) rfl rfl rfl (fun _ => ?_) (fun c80 => absurd (by decide) c80)
    refine k_lconst C (x := 0) rfl rfl rfl ?_
    exact k_lret C rfl rfl (Nat.le_of_ble_eq_true rfl) (Nat.le_of_ble_eq_true rfl) ⟨_, _, _, rfl, rfl, ⟨(Fr.l (Fr.l (Fr.l (Fr.i (Fr.i Fr.rf A_m) A_m) A_m) A_m) A_m), u2_s, (by first | exact IKm.i IKm.rf | exact IKm.i (IKm.i IKm.rf))⟩⟩
  have q2 := wh_i.mp (inY c34)
  refine k_iload_n C rfl rfl rfl ?_
  refine c_SI C e_m_isThousand rfl rfl rfl rfl rfl rfl rfl (Nat.le_of_ble_eq_true rfl) (Nat.le_of_ble_eq_true rfl) (Nat.le_of_ble_eq_true rfl) ?_
  rintro _ _ _ ⟨hx7, hI8, hL9⟩
  have hx7 := hx7.symm; subst hx7
  have hI8 := hI8.symm; subst hI8; have hL9 := hL9.symm; subst hL9
  refine k_if_eq C (t := 66) rfl rfl rfl (fun c41 => ?_) (fun c41 => ?_)
  · skip
    refine k_iconst C (x := 1) rfl rfl rfl ?_
    refine k_goto C (pc2 := 71) rfl rfl ?_
    refine k_istore C (lw := [(5, .int _), (0, _), (1, .int _), (2, .int _), (3, .int _), (4, .int _)]) rfl rfl (Nat.le_of_ble_eq_true rfl) rfl ?_
    refine k_aload_n C rfl rfl rfl ?_
    refine k_iload C rfl rfl rfl ?_
    refine k_iconst C (x := 1) rfl rfl rfl ?_
    refine c_VI C (e_throwsIf1 T_m rfl) rfl rfl rfl rfl rfl ⟨_, rfl, rfl, T_m, Nat.le_of_ble_eq_true rfl⟩ rfl rfl (Nat.le_of_ble_eq_true rfl) (Nat.le_of_ble_eq_true rfl) (Nat.le_of_ble_eq_true rfl) ?_
    rintro _ _ _ ⟨hx7, hI8, hL9⟩
    have hx7 := hx7.symm; subst hx7
    have hI8 := hI8.symm; subst hI8; have hL9 := hL9.symm; subst hL9
    refine k_if_ne C (t := 107) rfl rfl rfl (fun _ => ?_) (fun c80 => absurd (by decide) c80)
    refine k_lconst C (x := 0) rfl rfl rfl ?_
    exact k_lret C rfl rfl (Nat.le_of_ble_eq_true rfl) (Nat.le_of_ble_eq_true rfl) ⟨_, _, _, rfl, rfl, ⟨(Fr.l (Fr.l (Fr.l (Fr.i (Fr.i Fr.rf A_m) A_m) A_m) A_m) A_m), u2_s, (by first | exact IKm.i IKm.rf | exact IKm.i (IKm.i IKm.rf))⟩⟩
  have q3 := wh_i.mp (inY c41)
  refine k_iload_n C rfl rfl rfl ?_
  refine k_if_le C (t := 66) rfl rfl rfl (fun c45 => ?_) (fun c45 => ?_)
  · skip
    refine k_iconst C (x := 1) rfl rfl rfl ?_
    refine k_goto C (pc2 := 71) rfl rfl ?_
    refine k_istore C (lw := [(5, .int _), (0, _), (1, .int _), (2, .int _), (3, .int _), (4, .int _)]) rfl rfl (Nat.le_of_ble_eq_true rfl) rfl ?_
    refine k_aload_n C rfl rfl rfl ?_
    refine k_iload C rfl rfl rfl ?_
    refine k_iconst C (x := 1) rfl rfl rfl ?_
    refine c_VI C (e_throwsIf1 T_m rfl) rfl rfl rfl rfl rfl ⟨_, rfl, rfl, T_m, Nat.le_of_ble_eq_true rfl⟩ rfl rfl (Nat.le_of_ble_eq_true rfl) (Nat.le_of_ble_eq_true rfl) (Nat.le_of_ble_eq_true rfl) ?_
    rintro _ _ _ ⟨hx7, hI8, hL9⟩
    have hx7 := hx7.symm; subst hx7
    have hI8 := hI8.symm; subst hI8; have hL9 := hL9.symm; subst hL9
    refine k_if_ne C (t := 107) rfl rfl rfl (fun _ => ?_) (fun c80 => absurd (by decide) c80)
    refine k_lconst C (x := 0) rfl rfl rfl ?_
    exact k_lret C rfl rfl (Nat.le_of_ble_eq_true rfl) (Nat.le_of_ble_eq_true rfl) ⟨_, _, _, rfl, rfl, ⟨(Fr.l (Fr.l (Fr.l (Fr.i (Fr.i Fr.rf A_m) A_m) A_m) A_m) A_m), u2_s, (by first | exact IKm.i IKm.rf | exact IKm.i (IKm.i IKm.rf))⟩⟩
  have q4 : 0 < a.toInt := by have := i_lt.mp (Int32.not_le.mp c45); exact this
  refine k_iload_n C rfl rfl rfl ?_
  refine k_i2l C rfl rfl ?_
  refine k_iload_n C rfl rfl rfl ?_
  refine k_i2l C rfl rfl ?_
  refine k_lmul C rfl rfl ?_
  refine k_ldc2_w C rfl rfl rfl ?_
  refine k_iload_n C rfl rfl rfl ?_
  refine k_i2l C rfl rfl ?_
  refine k_lmul C rfl rfl ?_
  refine k_iload_n C rfl rfl rfl ?_
  refine k_i2l C rfl rfl ?_
  refine k_lmul C rfl rfl ?_
  refine k_lcmp C rfl rfl ?_
  refine k_if_lt C (t := 70) rfl rfl rfl (fun c63 => ?_) (fun c63 => ?_)
  · skip
    exact absurd ⟨q1, q2, q3, q4, (disc64 q1 q2 q3).mp c63⟩ h
  refine k_iconst C (x := 1) rfl rfl rfl ?_
  refine k_goto C (pc2 := 71) rfl rfl ?_
  refine k_istore C (lw := [(5, .int _), (0, _), (1, .int _), (2, .int _), (3, .int _), (4, .int _)]) rfl rfl (Nat.le_of_ble_eq_true rfl) rfl ?_
  refine k_aload_n C rfl rfl rfl ?_
  refine k_iload C rfl rfl rfl ?_
  refine k_iconst C (x := 1) rfl rfl rfl ?_
  refine c_VI C (e_throwsIf1 T_m rfl) rfl rfl rfl rfl rfl ⟨_, rfl, rfl, T_m, Nat.le_of_ble_eq_true rfl⟩ rfl rfl (Nat.le_of_ble_eq_true rfl) (Nat.le_of_ble_eq_true rfl) (Nat.le_of_ble_eq_true rfl) ?_
  rintro _ _ _ ⟨hx7, hI8, hL9⟩
  have hx7 := hx7.symm; subst hx7
  have hI8 := hI8.symm; subst hI8; have hL9 := hL9.symm; subst hL9
  refine k_if_ne C (t := 107) rfl rfl rfl (fun _ => ?_) (fun c80 => absurd (by decide) c80)
  refine k_lconst C (x := 0) rfl rfl rfl ?_
  exact k_lret C rfl rfl (Nat.le_of_ble_eq_true rfl) (Nat.le_of_ble_eq_true rfl) ⟨_, _, _, rfl, rfl, ⟨(Fr.l (Fr.l (Fr.l (Fr.i (Fr.i Fr.rf A_m) A_m) A_m) A_m) A_m), u2_s, (by first | exact IKm.i IKm.rf | exact IKm.i (IKm.i IKm.rf))⟩⟩

theorem in08 {n : Int32} : ((0 : Int32) ≤ n ∧ n ≤ 8) ↔ (0 ≤ n.toInt ∧ n.toInt ≤ 8) := by rw [i_le, i_le]; exact Iff.rfl
theorem e_m_reduced_nse {d : Nat} {T N : Nat → Nat} {I : IT} {L : LT} {R : RT} {A : Nat → Prop} {m : Nat} {a b c n : Int32} (T_m : T m = 13) (A_m : A m) (hok : okRed a b c) (hn : ¬ (0 ≤ n.toInt ∧ n.toInt ≤ 8)) : Ex (d + 3) 303 [.ref m, .int a, .int b, .int c, .int n] (T, N, I, L, R) 0 0 (pL T N R (fun x9 I9 L9 => Fr A I L I9 L9 ∧ I9 m 0 = 2 ∧ IKm m I I9)) := by
  refine ⟨_, rfl, Nat.le_of_ble_eq_true rfl, fun V C S => ?_⟩
  show V 0 [(0, .ref m), (1, .int a), (2, .int b), (3, .int c), (4, .int n)] [] (T, N, I, L, R) 0 0
  refine k_aload_n C rfl rfl rfl ?_
  refine k_iconst C (x := 0) rfl rfl rfl ?_
  refine p_I C rfl rfl rfl T_m (Or.inr rfl) rfl ?_
  refine k_aload_n C rfl rfl rfl ?_
  refine k_iload_n C rfl rfl rfl ?_
  refine k_i2l C rfl rfl ?_
  refine p_L C rfl rfl rfl T_m (Or.inr rfl) rfl ?_
  refine k_aload_n C rfl rfl rfl ?_
  refine k_iload_n C rfl rfl rfl ?_
  refine k_i2l C rfl rfl ?_
  refine p_L C rfl rfl rfl T_m (Or.inr rfl) rfl ?_
  refine k_aload_n C rfl rfl rfl ?_
  refine k_iload_n C rfl rfl rfl ?_
  refine k_i2l C rfl rfl ?_
  refine p_L C rfl rfl rfl T_m (Or.inr rfl) rfl ?_
  refine k_iload_n C rfl rfl rfl ?_
  refine c_SI C e_m_isThousand rfl rfl rfl rfl rfl rfl rfl (Nat.le_of_ble_eq_true rfl) (Nat.le_of_ble_eq_true rfl) (Nat.le_of_ble_eq_true rfl) ?_
  rintro _ _ _ ⟨hx7, hI8, hL9⟩
  have hx7 := hx7.symm; subst hx7
  have hI8 := hI8.symm; subst hI8; have hL9 := hL9.symm; subst hL9
  refine k_if_eq C (t := 66) rfl rfl rfl (fun c27 => ?_) (fun c27 => ?_)
  · skip
    exact absurd c27 (inN (wh_i.mpr hok.1))
  refine k_iload_n C rfl rfl rfl ?_
  refine c_SI C e_m_isThousand rfl rfl rfl rfl rfl rfl rfl (Nat.le_of_ble_eq_true rfl) (Nat.le_of_ble_eq_true rfl) (Nat.le_of_ble_eq_true rfl) ?_
  rintro _ _ _ ⟨hx7, hI8, hL9⟩
  have hx7 := hx7.symm; subst hx7
  have hI8 := hI8.symm; subst hI8; have hL9 := hL9.symm; subst hL9
  refine k_if_eq C (t := 66) rfl rfl rfl (fun c34 => ?_) (fun c34 => ?_)
  · skip
    exact absurd c34 (inN (wh_i.mpr hok.2.1))
  refine k_iload_n C rfl rfl rfl ?_
  refine c_SI C e_m_isThousand rfl rfl rfl rfl rfl rfl rfl (Nat.le_of_ble_eq_true rfl) (Nat.le_of_ble_eq_true rfl) (Nat.le_of_ble_eq_true rfl) ?_
  rintro _ _ _ ⟨hx7, hI8, hL9⟩
  have hx7 := hx7.symm; subst hx7
  have hI8 := hI8.symm; subst hI8; have hL9 := hL9.symm; subst hL9
  refine k_if_eq C (t := 66) rfl rfl rfl (fun c41 => ?_) (fun c41 => ?_)
  · skip
    exact absurd c41 (inN (wh_i.mpr hok.2.2.1))
  refine k_iload_n C rfl rfl rfl ?_
  refine k_if_le C (t := 66) rfl rfl rfl (fun c45 => ?_) (fun c45 => ?_)
  · skip
    exact absurd (i_le.mp c45) (by have := hok.2.2.2.1; show ¬ _ ≤ (0 : Int); omega)
  refine k_iload_n C rfl rfl rfl ?_
  refine k_i2l C rfl rfl ?_
  refine k_iload_n C rfl rfl rfl ?_
  refine k_i2l C rfl rfl ?_
  refine k_lmul C rfl rfl ?_
  refine k_ldc2_w C rfl rfl rfl ?_
  refine k_iload_n C rfl rfl rfl ?_
  refine k_i2l C rfl rfl ?_
  refine k_lmul C rfl rfl ?_
  refine k_iload_n C rfl rfl rfl ?_
  refine k_i2l C rfl rfl ?_
  refine k_lmul C rfl rfl ?_
  refine k_lcmp C rfl rfl ?_
  refine k_if_lt C (t := 70) rfl rfl rfl (fun c63 => ?_) (fun c63 => ?_)
  · skip
    refine k_iconst C (x := 0) rfl rfl rfl ?_
    refine k_istore C (lw := [(5, .int _), (0, _), (1, .int _), (2, .int _), (3, .int _), (4, .int _)]) rfl rfl (Nat.le_of_ble_eq_true rfl) rfl ?_
    refine k_aload_n C rfl rfl rfl ?_
    refine k_iload C rfl rfl rfl ?_
    refine k_iconst C (x := 1) rfl rfl rfl ?_
    refine c_VI C (e_throwsIf0 T_m rfl) rfl rfl rfl rfl rfl ⟨_, rfl, rfl, T_m, Nat.le_of_ble_eq_true rfl⟩ rfl rfl (Nat.le_of_ble_eq_true rfl) (Nat.le_of_ble_eq_true rfl) (Nat.le_of_ble_eq_true rfl) ?_
    rintro _ _ _ ⟨hx7, hI8, hL9⟩
    have hx7 := hx7.symm; subst hx7
    have hI8 := hI8.symm; subst hI8; have hL9 := hL9.symm; subst hL9
    refine k_if_ne C (t := 107) rfl rfl rfl (fun c80 => absurd c80 (by decide)) (fun _ => ?_)
    refine k_aload_n C rfl rfl rfl ?_
    refine k_iload C rfl rfl rfl ?_
    refine k_iconst C (x := 0) rfl rfl rfl ?_
    refine k_bipush C (x := 8) rfl rfl rfl ?_
    refine c_SI C e_in rfl rfl rfl rfl rfl rfl rfl (Nat.le_of_ble_eq_true rfl) (Nat.le_of_ble_eq_true rfl) (Nat.le_of_ble_eq_true rfl) ?_
    rintro _ _ _ ⟨hx7, hI8, hL9⟩
    have hx7 := hx7.symm; subst hx7
    have hI8 := hI8.symm; subst hI8; have hL9 := hL9.symm; subst hL9
    refine k_if_ne C (t := 99) rfl rfl rfl (fun c92 => ?_) (fun c92 => ?_)
    · skip
      exact absurd (in08.mp (inY c92)) hn
    refine k_iconst C (x := 1) rfl rfl rfl ?_
    refine k_goto C (pc2 := 100) rfl rfl ?_
    refine k_iconst C (x := 2) rfl rfl rfl ?_
    refine c_VI C (e_throwsIf1 T_m rfl) rfl rfl rfl rfl rfl ⟨_, rfl, rfl, T_m, Nat.le_of_ble_eq_true rfl⟩ rfl rfl (Nat.le_of_ble_eq_true rfl) (Nat.le_of_ble_eq_true rfl) (Nat.le_of_ble_eq_true rfl) ?_
    rintro _ _ _ ⟨hx7, hI8, hL9⟩
    have hx7 := hx7.symm; subst hx7
    have hI8 := hI8.symm; subst hI8; have hL9 := hL9.symm; subst hL9
    refine k_if_eq C (t := 109) rfl rfl rfl (fun c104 => absurd c104 (by decide)) (fun _ => ?_)
    refine k_lconst C (x := 0) rfl rfl rfl ?_
    exact k_lret C rfl rfl (Nat.le_of_ble_eq_true rfl) (Nat.le_of_ble_eq_true rfl) ⟨_, _, _, rfl, rfl, ⟨(Fr.l (Fr.l (Fr.l (Fr.i (Fr.i Fr.rf A_m) A_m) A_m) A_m) A_m), u2_s, (by first | exact IKm.i IKm.rf | exact IKm.i (IKm.i IKm.rf))⟩⟩
  exact absurd ((disc64 hok.1 hok.2.1 hok.2.2.1).mpr hok.2.2.2.2) c63

theorem e_m_reduced_yes {d : Nat} {T N : Nat → Nat} {I : IT} {L : LT} {R : RT} {A : Nat → Prop} {m wl : Nat} {a b c n : Int32} (T_m : T m = 13) (A_m : A m) (R_m_34 : R m 34 = some wl) (T_wl : T wl = 21) (N_wl : N wl = 4) (A_wl : A wl) (hok : okRed a b c) (hn : 0 ≤ n.toInt ∧ n.toInt ≤ 8) : Ex (d + 3) 303 [.ref m, .int a, .int b, .int c, .int n] (T, N, I, L, R) 0 0 (pL T N R (fun x9 I9 L9 => x9 = tlS (run 1000 (st0 a b c)) n.toInt ∧ Fr A I L I9 L9 ∧ I9 m 0 = 0 ∧ IKm m I I9)) := by
  refine ⟨_, rfl, Nat.le_of_ble_eq_true rfl, fun V C S => ?_⟩
  show V 0 [(0, .ref m), (1, .int a), (2, .int b), (3, .int c), (4, .int n)] [] (T, N, I, L, R) 0 0
  obtain ⟨hJ0, hK⟩ := st0_J hok
  refine k_aload_n C rfl rfl rfl ?_
  refine k_iconst C (x := 0) rfl rfl rfl ?_
  refine p_I C rfl rfl rfl T_m (Or.inr rfl) rfl ?_
  refine k_aload_n C rfl rfl rfl ?_
  refine k_iload_n C rfl rfl rfl ?_
  refine k_i2l C rfl rfl ?_
  refine p_L C rfl rfl rfl T_m (Or.inr rfl) rfl ?_
  refine k_aload_n C rfl rfl rfl ?_
  refine k_iload_n C rfl rfl rfl ?_
  refine k_i2l C rfl rfl ?_
  refine p_L C rfl rfl rfl T_m (Or.inr rfl) rfl ?_
  refine k_aload_n C rfl rfl rfl ?_
  refine k_iload_n C rfl rfl rfl ?_
  refine k_i2l C rfl rfl ?_
  refine p_L C rfl rfl rfl T_m (Or.inr rfl) rfl ?_
  refine k_iload_n C rfl rfl rfl ?_
  refine c_SI C e_m_isThousand rfl rfl rfl rfl rfl rfl rfl (Nat.le_of_ble_eq_true rfl) (Nat.le_of_ble_eq_true rfl) (Nat.le_of_ble_eq_true rfl) ?_
  rintro _ _ _ ⟨hx7, hI8, hL9⟩
  have hx7 := hx7.symm; subst hx7
  have hI8 := hI8.symm; subst hI8; have hL9 := hL9.symm; subst hL9
  refine k_if_eq C (t := 66) rfl rfl rfl (fun c27 => ?_) (fun c27 => ?_)
  · skip
    exact absurd c27 (inN (wh_i.mpr hok.1))
  refine k_iload_n C rfl rfl rfl ?_
  refine c_SI C e_m_isThousand rfl rfl rfl rfl rfl rfl rfl (Nat.le_of_ble_eq_true rfl) (Nat.le_of_ble_eq_true rfl) (Nat.le_of_ble_eq_true rfl) ?_
  rintro _ _ _ ⟨hx7, hI8, hL9⟩
  have hx7 := hx7.symm; subst hx7
  have hI8 := hI8.symm; subst hI8; have hL9 := hL9.symm; subst hL9
  refine k_if_eq C (t := 66) rfl rfl rfl (fun c34 => ?_) (fun c34 => ?_)
  · skip
    exact absurd c34 (inN (wh_i.mpr hok.2.1))
  refine k_iload_n C rfl rfl rfl ?_
  refine c_SI C e_m_isThousand rfl rfl rfl rfl rfl rfl rfl (Nat.le_of_ble_eq_true rfl) (Nat.le_of_ble_eq_true rfl) (Nat.le_of_ble_eq_true rfl) ?_
  rintro _ _ _ ⟨hx7, hI8, hL9⟩
  have hx7 := hx7.symm; subst hx7
  have hI8 := hI8.symm; subst hI8; have hL9 := hL9.symm; subst hL9
  refine k_if_eq C (t := 66) rfl rfl rfl (fun c41 => ?_) (fun c41 => ?_)
  · skip
    exact absurd c41 (inN (wh_i.mpr hok.2.2.1))
  refine k_iload_n C rfl rfl rfl ?_
  refine k_if_le C (t := 66) rfl rfl rfl (fun c45 => ?_) (fun c45 => ?_)
  · skip
    exact absurd (i_le.mp c45) (by have := hok.2.2.2.1; show ¬ _ ≤ (0 : Int); omega)
  refine k_iload_n C rfl rfl rfl ?_
  refine k_i2l C rfl rfl ?_
  refine k_iload_n C rfl rfl rfl ?_
  refine k_i2l C rfl rfl ?_
  refine k_lmul C rfl rfl ?_
  refine k_ldc2_w C rfl rfl rfl ?_
  refine k_iload_n C rfl rfl rfl ?_
  refine k_i2l C rfl rfl ?_
  refine k_lmul C rfl rfl ?_
  refine k_iload_n C rfl rfl rfl ?_
  refine k_i2l C rfl rfl ?_
  refine k_lmul C rfl rfl ?_
  refine k_lcmp C rfl rfl ?_
  refine k_if_lt C (t := 70) rfl rfl rfl (fun c63 => ?_) (fun c63 => ?_)
  · skip
    refine k_iconst C (x := 0) rfl rfl rfl ?_
    refine k_istore C (lw := [(5, .int _), (0, _), (1, .int _), (2, .int _), (3, .int _), (4, .int _)]) rfl rfl (Nat.le_of_ble_eq_true rfl) rfl ?_
    refine k_aload_n C rfl rfl rfl ?_
    refine k_iload C rfl rfl rfl ?_
    refine k_iconst C (x := 1) rfl rfl rfl ?_
    refine c_VI C (e_throwsIf0 T_m rfl) rfl rfl rfl rfl rfl ⟨_, rfl, rfl, T_m, Nat.le_of_ble_eq_true rfl⟩ rfl rfl (Nat.le_of_ble_eq_true rfl) (Nat.le_of_ble_eq_true rfl) (Nat.le_of_ble_eq_true rfl) ?_
    rintro _ _ _ ⟨hx7, hI8, hL9⟩
    have hx7 := hx7.symm; subst hx7
    have hI8 := hI8.symm; subst hI8; have hL9 := hL9.symm; subst hL9
    refine k_if_ne C (t := 107) rfl rfl rfl (fun c80 => absurd c80 (by decide)) (fun _ => ?_)
    refine k_aload_n C rfl rfl rfl ?_
    refine k_iload C rfl rfl rfl ?_
    refine k_iconst C (x := 0) rfl rfl rfl ?_
    refine k_bipush C (x := 8) rfl rfl rfl ?_
    refine c_SI C e_in rfl rfl rfl rfl rfl rfl rfl (Nat.le_of_ble_eq_true rfl) (Nat.le_of_ble_eq_true rfl) (Nat.le_of_ble_eq_true rfl) ?_
    rintro _ _ _ ⟨hx7, hI8, hL9⟩
    have hx7 := hx7.symm; subst hx7
    have hI8 := hI8.symm; subst hI8; have hL9 := hL9.symm; subst hL9
    refine k_if_ne C (t := 99) rfl rfl rfl (fun c92 => ?_) (fun c92 => ?_)
    · skip
      refine k_iconst C (x := 0) rfl rfl rfl ?_
      refine k_iconst C (x := 2) rfl rfl rfl ?_
      refine c_VI C (e_throwsIf0 T_m rfl) rfl rfl rfl rfl rfl ⟨_, rfl, rfl, T_m, Nat.le_of_ble_eq_true rfl⟩ rfl rfl (Nat.le_of_ble_eq_true rfl) (Nat.le_of_ble_eq_true rfl) (Nat.le_of_ble_eq_true rfl) ?_
      rintro _ _ _ ⟨hx7, hI8, hL9⟩
      have hx7 := hx7.symm; subst hx7
      have hI8 := hI8.symm; subst hI8; have hL9 := hL9.symm; subst hL9
      refine k_if_eq C (t := 109) rfl rfl rfl (fun _ => ?_) (fun c104 => absurd (by decide) c104)
      refine k_aload_n C rfl rfl rfl ?_
      refine c_VV C (e_m_reduces T_m A_m R_m_34 T_wl N_wl A_wl ((u2_k (by decide)).trans ((u2_k (by decide)).trans (u2_s))) ((u2_k (by decide)).trans (u2_s)) (u2_s) (s := st0 a b c) hK hJ0 rfl rfl rfl rfl rfl) rfl rfl rfl rfl rfl ⟨_, rfl, rfl, T_m, Nat.le_of_ble_eq_true rfl⟩ rfl rfl (Nat.le_of_ble_eq_true rfl) (Nat.le_of_ble_eq_true rfl) (Nat.le_of_ble_eq_true rfl) ?_
      rintro I1 L1 ⟨hI8, hF1, hs1⟩
      have hI8 := hI8.symm; subst hI8
      generalize hu : run 1000 (st0 a b c) = u at hs1
      obtain ⟨J_m_30, J_m_31, J_m_32, J_m_33, J_wl_0, J_wl_1, J_wl_2, J_wl_3⟩ := hs1
      have h3 : n.toInt = 0 ∨ n.toInt = 1 ∨ n.toInt = 2 ∨ n.toInt = 3 ∨ n.toInt = 4 ∨ n.toInt = 5 ∨ n.toInt = 6 ∨ n.toInt = 7 ∨ n.toInt = 8 := by omega
      rcases h3 with e | e | e | e | e | e | e | e | e
      · obtain rfl : n = 0 := Int32.toInt_inj.mp (by rw [e]; rfl)
        refine k_iload C rfl rfl rfl ?_
        refine k_if_ne C (t := 125) rfl rfl rfl (fun c115 => absurd c115 (by decide)) (fun _ => ?_)
        refine k_aload_n C rfl rfl rfl ?_
        refine g_L C rfl rfl rfl T_m rfl (J_m_30) ?_
        refine k_goto C (pc2 := 199) rfl rfl ?_
        exact k_lret C rfl rfl (Nat.le_of_ble_eq_true rfl) (Nat.le_of_ble_eq_true rfl) ⟨_, _, _, rfl, rfl, ⟨by rw [hu]; rfl, Fr.tr (Fr.l (Fr.l (Fr.l (Fr.i Fr.rf A_m) A_m) A_m) A_m) hF1, u2_s, (by first | exact IKm.i IKm.rf | exact IKm.i (IKm.i IKm.rf))⟩⟩
      · obtain rfl : n = 1 := Int32.toInt_inj.mp (by rw [e]; rfl)
        refine k_iload C rfl rfl rfl ?_
        refine k_if_ne C (t := 125) rfl rfl rfl (fun _ => ?_) (fun c115 => absurd (by decide) c115)
        refine k_iload C rfl rfl rfl ?_
        refine k_iconst C (x := 1) rfl rfl rfl ?_
        refine k_icmp_ne C (t := 138) rfl rfl rfl (fun c128 => absurd c128 (by decide)) (fun _ => ?_)
        refine k_aload_n C rfl rfl rfl ?_
        refine g_L C rfl rfl rfl T_m rfl (J_m_31) ?_
        refine k_goto C (pc2 := 199) rfl rfl ?_
        exact k_lret C rfl rfl (Nat.le_of_ble_eq_true rfl) (Nat.le_of_ble_eq_true rfl) ⟨_, _, _, rfl, rfl, ⟨by rw [hu]; rfl, Fr.tr (Fr.l (Fr.l (Fr.l (Fr.i Fr.rf A_m) A_m) A_m) A_m) hF1, u2_s, (by first | exact IKm.i IKm.rf | exact IKm.i (IKm.i IKm.rf))⟩⟩
      · obtain rfl : n = 2 := Int32.toInt_inj.mp (by rw [e]; rfl)
        refine k_iload C rfl rfl rfl ?_
        refine k_if_ne C (t := 125) rfl rfl rfl (fun _ => ?_) (fun c115 => absurd (by decide) c115)
        refine k_iload C rfl rfl rfl ?_
        refine k_iconst C (x := 1) rfl rfl rfl ?_
        refine k_icmp_ne C (t := 138) rfl rfl rfl (fun _ => ?_) (fun c128 => absurd (by decide) c128)
        refine k_iload C rfl rfl rfl ?_
        refine k_iconst C (x := 2) rfl rfl rfl ?_
        refine k_icmp_ne C (t := 151) rfl rfl rfl (fun c141 => absurd c141 (by decide)) (fun _ => ?_)
        refine k_aload_n C rfl rfl rfl ?_
        refine g_L C rfl rfl rfl T_m rfl (J_m_32) ?_
        refine k_goto C (pc2 := 199) rfl rfl ?_
        exact k_lret C rfl rfl (Nat.le_of_ble_eq_true rfl) (Nat.le_of_ble_eq_true rfl) ⟨_, _, _, rfl, rfl, ⟨by rw [hu]; rfl, Fr.tr (Fr.l (Fr.l (Fr.l (Fr.i Fr.rf A_m) A_m) A_m) A_m) hF1, u2_s, (by first | exact IKm.i IKm.rf | exact IKm.i (IKm.i IKm.rf))⟩⟩
      · obtain rfl : n = 3 := Int32.toInt_inj.mp (by rw [e]; rfl)
        refine k_iload C rfl rfl rfl ?_
        refine k_if_ne C (t := 125) rfl rfl rfl (fun _ => ?_) (fun c115 => absurd (by decide) c115)
        refine k_iload C rfl rfl rfl ?_
        refine k_iconst C (x := 1) rfl rfl rfl ?_
        refine k_icmp_ne C (t := 138) rfl rfl rfl (fun _ => ?_) (fun c128 => absurd (by decide) c128)
        refine k_iload C rfl rfl rfl ?_
        refine k_iconst C (x := 2) rfl rfl rfl ?_
        refine k_icmp_ne C (t := 151) rfl rfl rfl (fun _ => ?_) (fun c141 => absurd (by decide) c141)
        refine k_iload C rfl rfl rfl ?_
        refine k_iconst C (x := 3) rfl rfl rfl ?_
        refine k_icmp_ne C (t := 164) rfl rfl rfl (fun c154 => absurd c154 (by decide)) (fun _ => ?_)
        refine k_aload_n C rfl rfl rfl ?_
        refine g_L C rfl rfl rfl T_m rfl (J_m_33) ?_
        refine k_goto C (pc2 := 199) rfl rfl ?_
        exact k_lret C rfl rfl (Nat.le_of_ble_eq_true rfl) (Nat.le_of_ble_eq_true rfl) ⟨_, _, _, rfl, rfl, ⟨by rw [hu]; rfl, Fr.tr (Fr.l (Fr.l (Fr.l (Fr.i Fr.rf A_m) A_m) A_m) A_m) hF1, u2_s, (by first | exact IKm.i IKm.rf | exact IKm.i (IKm.i IKm.rf))⟩⟩
      · obtain rfl : n = 4 := Int32.toInt_inj.mp (by rw [e]; rfl)
        refine k_iload C rfl rfl rfl ?_
        refine k_if_ne C (t := 125) rfl rfl rfl (fun _ => ?_) (fun c115 => absurd (by decide) c115)
        refine k_iload C rfl rfl rfl ?_
        refine k_iconst C (x := 1) rfl rfl rfl ?_
        refine k_icmp_ne C (t := 138) rfl rfl rfl (fun _ => ?_) (fun c128 => absurd (by decide) c128)
        refine k_iload C rfl rfl rfl ?_
        refine k_iconst C (x := 2) rfl rfl rfl ?_
        refine k_icmp_ne C (t := 151) rfl rfl rfl (fun _ => ?_) (fun c141 => absurd (by decide) c141)
        refine k_iload C rfl rfl rfl ?_
        refine k_iconst C (x := 3) rfl rfl rfl ?_
        refine k_icmp_ne C (t := 164) rfl rfl rfl (fun _ => ?_) (fun c154 => absurd (by decide) c154)
        refine k_iload C rfl rfl rfl ?_
        refine k_bipush C (x := 8) rfl rfl rfl ?_
        refine k_icmp_ne C (t := 190) rfl rfl rfl (fun _ => ?_) (fun c168 => absurd (by decide) c168)
        refine k_aload_n C rfl rfl rfl ?_
        refine g_R C rfl rfl rfl T_m rfl R_m_34 ?_
        refine k_iload C rfl rfl rfl ?_
        refine k_iconst C (x := 4) rfl rfl rfl ?_
        refine k_isub C rfl rfl ?_
        refine a_L C rfl rfl T_wl (vin (n := 0) (by decide) (by rw [N_wl]; exact Nat.le_of_ble_eq_true rfl) (by rw [N_wl]; exact Nat.le_of_ble_eq_true rfl)) (show L1 wl _ = u 4 from J_wl_0) ?_
        exact k_lret C rfl rfl (Nat.le_of_ble_eq_true rfl) (Nat.le_of_ble_eq_true rfl) ⟨_, _, _, rfl, rfl, ⟨by rw [hu]; rfl, Fr.tr (Fr.l (Fr.l (Fr.l (Fr.i Fr.rf A_m) A_m) A_m) A_m) hF1, u2_s, (by first | exact IKm.i IKm.rf | exact IKm.i (IKm.i IKm.rf))⟩⟩
      · obtain rfl : n = 5 := Int32.toInt_inj.mp (by rw [e]; rfl)
        refine k_iload C rfl rfl rfl ?_
        refine k_if_ne C (t := 125) rfl rfl rfl (fun _ => ?_) (fun c115 => absurd (by decide) c115)
        refine k_iload C rfl rfl rfl ?_
        refine k_iconst C (x := 1) rfl rfl rfl ?_
        refine k_icmp_ne C (t := 138) rfl rfl rfl (fun _ => ?_) (fun c128 => absurd (by decide) c128)
        refine k_iload C rfl rfl rfl ?_
        refine k_iconst C (x := 2) rfl rfl rfl ?_
        refine k_icmp_ne C (t := 151) rfl rfl rfl (fun _ => ?_) (fun c141 => absurd (by decide) c141)
        refine k_iload C rfl rfl rfl ?_
        refine k_iconst C (x := 3) rfl rfl rfl ?_
        refine k_icmp_ne C (t := 164) rfl rfl rfl (fun _ => ?_) (fun c154 => absurd (by decide) c154)
        refine k_iload C rfl rfl rfl ?_
        refine k_bipush C (x := 8) rfl rfl rfl ?_
        refine k_icmp_ne C (t := 190) rfl rfl rfl (fun _ => ?_) (fun c168 => absurd (by decide) c168)
        refine k_aload_n C rfl rfl rfl ?_
        refine g_R C rfl rfl rfl T_m rfl R_m_34 ?_
        refine k_iload C rfl rfl rfl ?_
        refine k_iconst C (x := 4) rfl rfl rfl ?_
        refine k_isub C rfl rfl ?_
        refine a_L C rfl rfl T_wl (vin (n := 1) (by decide) (by rw [N_wl]; exact Nat.le_of_ble_eq_true rfl) (by rw [N_wl]; exact Nat.le_of_ble_eq_true rfl)) (show L1 wl _ = u 5 from J_wl_1) ?_
        exact k_lret C rfl rfl (Nat.le_of_ble_eq_true rfl) (Nat.le_of_ble_eq_true rfl) ⟨_, _, _, rfl, rfl, ⟨by rw [hu]; rfl, Fr.tr (Fr.l (Fr.l (Fr.l (Fr.i Fr.rf A_m) A_m) A_m) A_m) hF1, u2_s, (by first | exact IKm.i IKm.rf | exact IKm.i (IKm.i IKm.rf))⟩⟩
      · obtain rfl : n = 6 := Int32.toInt_inj.mp (by rw [e]; rfl)
        refine k_iload C rfl rfl rfl ?_
        refine k_if_ne C (t := 125) rfl rfl rfl (fun _ => ?_) (fun c115 => absurd (by decide) c115)
        refine k_iload C rfl rfl rfl ?_
        refine k_iconst C (x := 1) rfl rfl rfl ?_
        refine k_icmp_ne C (t := 138) rfl rfl rfl (fun _ => ?_) (fun c128 => absurd (by decide) c128)
        refine k_iload C rfl rfl rfl ?_
        refine k_iconst C (x := 2) rfl rfl rfl ?_
        refine k_icmp_ne C (t := 151) rfl rfl rfl (fun _ => ?_) (fun c141 => absurd (by decide) c141)
        refine k_iload C rfl rfl rfl ?_
        refine k_iconst C (x := 3) rfl rfl rfl ?_
        refine k_icmp_ne C (t := 164) rfl rfl rfl (fun _ => ?_) (fun c154 => absurd (by decide) c154)
        refine k_iload C rfl rfl rfl ?_
        refine k_bipush C (x := 8) rfl rfl rfl ?_
        refine k_icmp_ne C (t := 190) rfl rfl rfl (fun _ => ?_) (fun c168 => absurd (by decide) c168)
        refine k_aload_n C rfl rfl rfl ?_
        refine g_R C rfl rfl rfl T_m rfl R_m_34 ?_
        refine k_iload C rfl rfl rfl ?_
        refine k_iconst C (x := 4) rfl rfl rfl ?_
        refine k_isub C rfl rfl ?_
        refine a_L C rfl rfl T_wl (vin (n := 2) (by decide) (by rw [N_wl]; exact Nat.le_of_ble_eq_true rfl) (by rw [N_wl]; exact Nat.le_of_ble_eq_true rfl)) (show L1 wl _ = u 6 from J_wl_2) ?_
        exact k_lret C rfl rfl (Nat.le_of_ble_eq_true rfl) (Nat.le_of_ble_eq_true rfl) ⟨_, _, _, rfl, rfl, ⟨by rw [hu]; rfl, Fr.tr (Fr.l (Fr.l (Fr.l (Fr.i Fr.rf A_m) A_m) A_m) A_m) hF1, u2_s, (by first | exact IKm.i IKm.rf | exact IKm.i (IKm.i IKm.rf))⟩⟩
      · obtain rfl : n = 7 := Int32.toInt_inj.mp (by rw [e]; rfl)
        refine k_iload C rfl rfl rfl ?_
        refine k_if_ne C (t := 125) rfl rfl rfl (fun _ => ?_) (fun c115 => absurd (by decide) c115)
        refine k_iload C rfl rfl rfl ?_
        refine k_iconst C (x := 1) rfl rfl rfl ?_
        refine k_icmp_ne C (t := 138) rfl rfl rfl (fun _ => ?_) (fun c128 => absurd (by decide) c128)
        refine k_iload C rfl rfl rfl ?_
        refine k_iconst C (x := 2) rfl rfl rfl ?_
        refine k_icmp_ne C (t := 151) rfl rfl rfl (fun _ => ?_) (fun c141 => absurd (by decide) c141)
        refine k_iload C rfl rfl rfl ?_
        refine k_iconst C (x := 3) rfl rfl rfl ?_
        refine k_icmp_ne C (t := 164) rfl rfl rfl (fun _ => ?_) (fun c154 => absurd (by decide) c154)
        refine k_iload C rfl rfl rfl ?_
        refine k_bipush C (x := 8) rfl rfl rfl ?_
        refine k_icmp_ne C (t := 190) rfl rfl rfl (fun _ => ?_) (fun c168 => absurd (by decide) c168)
        refine k_aload_n C rfl rfl rfl ?_
        refine g_R C rfl rfl rfl T_m rfl R_m_34 ?_
        refine k_iload C rfl rfl rfl ?_
        refine k_iconst C (x := 4) rfl rfl rfl ?_
        refine k_isub C rfl rfl ?_
        refine a_L C rfl rfl T_wl (vin (n := 3) (by decide) (by rw [N_wl]; exact Nat.le_of_ble_eq_true rfl) (by rw [N_wl]; exact Nat.le_of_ble_eq_true rfl)) (show L1 wl _ = u 7 from J_wl_3) ?_
        exact k_lret C rfl rfl (Nat.le_of_ble_eq_true rfl) (Nat.le_of_ble_eq_true rfl) ⟨_, _, _, rfl, rfl, ⟨by rw [hu]; rfl, Fr.tr (Fr.l (Fr.l (Fr.l (Fr.i Fr.rf A_m) A_m) A_m) A_m) hF1, u2_s, (by first | exact IKm.i IKm.rf | exact IKm.i (IKm.i IKm.rf))⟩⟩
      · obtain rfl : n = 8 := Int32.toInt_inj.mp (by rw [e]; rfl)
        refine k_iload C rfl rfl rfl ?_
        refine k_if_ne C (t := 125) rfl rfl rfl (fun _ => ?_) (fun c115 => absurd (by decide) c115)
        refine k_iload C rfl rfl rfl ?_
        refine k_iconst C (x := 1) rfl rfl rfl ?_
        refine k_icmp_ne C (t := 138) rfl rfl rfl (fun _ => ?_) (fun c128 => absurd (by decide) c128)
        refine k_iload C rfl rfl rfl ?_
        refine k_iconst C (x := 2) rfl rfl rfl ?_
        refine k_icmp_ne C (t := 151) rfl rfl rfl (fun _ => ?_) (fun c141 => absurd (by decide) c141)
        refine k_iload C rfl rfl rfl ?_
        refine k_iconst C (x := 3) rfl rfl rfl ?_
        refine k_icmp_ne C (t := 164) rfl rfl rfl (fun _ => ?_) (fun c154 => absurd (by decide) c154)
        refine k_iload C rfl rfl rfl ?_
        refine k_bipush C (x := 8) rfl rfl rfl ?_
        refine k_icmp_ne C (t := 190) rfl rfl rfl (fun c168 => absurd c168 (by decide)) (fun _ => ?_)
        refine k_aload_n C rfl rfl rfl ?_
        refine g_L C rfl rfl rfl T_m rfl (J_m_30) ?_
        refine k_aload_n C rfl rfl rfl ?_
        refine g_L C rfl rfl rfl T_m rfl (J_m_31) ?_
        refine k_aload_n C rfl rfl rfl ?_
        refine g_L C rfl rfl rfl T_m rfl (J_m_32) ?_
        refine c_SI C e_m_turnsOf rfl rfl rfl rfl rfl rfl rfl (Nat.le_of_ble_eq_true rfl) (Nat.le_of_ble_eq_true rfl) (Nat.le_of_ble_eq_true rfl) ?_
        rintro _ _ _ ⟨hx7, hI8, hL9⟩
        have hx7 := hx7.symm; subst hx7
        have hI8 := hI8.symm; subst hI8; have hL9 := hL9.symm; subst hL9
        refine k_i2l C rfl rfl ?_
        refine k_goto C (pc2 := 199) rfl rfl ?_
        exact k_lret C rfl rfl (Nat.le_of_ble_eq_true rfl) (Nat.le_of_ble_eq_true rfl) ⟨_, _, _, rfl, rfl, ⟨by rw [hu]; rfl, Fr.tr (Fr.l (Fr.l (Fr.l (Fr.i Fr.rf A_m) A_m) A_m) A_m) hF1, u2_s, (by first | exact IKm.i IKm.rf | exact IKm.i (IKm.i IKm.rf))⟩⟩
      skip
    exact absurd (inN (in08.mpr hn)) c92
  exact absurd ((disc64 hok.1 hok.2.1 hok.2.2.1).mpr hok.2.2.2.2) c63

