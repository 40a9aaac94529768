/-! greatest divisors -/
theorem absN {x : Int32} (h : -2147483648 < x.toInt) : (if 0 ≤ x then x else -x) = Int32.ofNat x.toInt.natAbs := by
  have hl := x.toInt_lt
  have e0 : (0 : Int32).toInt = 0 := rfl
  apply Int32.toInt_inj.mp
  by_cases q : 0 ≤ x
  · rw [if_pos q, n_int (by omega)]
    have := i_le.mp q
    omega
  · rw [if_neg q, n_int (by omega), Int32.toInt_neg, Int.bmod_eq_of_le (by omega) (by omega)]
    have q2 : ¬ (0 : Int32).toInt ≤ x.toInt := fun e => q (i_le.mpr e)
    omega
theorem n_rem {a b : Nat} (ha : a < 2147483648) (hb : b < 2147483648) (h : b ≠ 0) : Int32.ofNat a - Int32.ofNat a / Int32.ofNat b * Int32.ofNat b = Int32.ofNat (a % b) := by
  have hm := Nat.mod_lt a (Nat.pos_of_ne_zero h)
  apply Int32.toInt_inj.mp
  rw [i_rem (by rw [n_int hb]; omega), n_int ha, n_int hb, n_int (by omega), Int.tmod_eq_emod_of_nonneg (by omega)]
  exact (Int.natCast_emod a b).symm
theorem e_divisor {d : Nat} {T N : Nat → Nat} {I : IT} {L : LT} {R : RT} {a b : Int32}  (ha : -2147483648 < a.toInt) (hb : -2147483648 < b.toInt) (hs : b.toInt.natAbs ≤ 99 ∨ a.toInt.natAbs ≤ 98) : Ex (d + 2) 119 [.int a, .int b] (T, N, I, L, R) 0 0 (pI T N R (fun x9 I9 L9 => x9 = (Int32.ofNat (Nat.gcd a.toInt.natAbs b.toInt.natAbs)) ∧ I9 = I ∧ L9 = L)) := by
  refine ⟨_, rfl, Nat.le_of_ble_eq_true rfl, fun V C S => ?_⟩
  show V 0 [(0, .int a), (1, .int b)] [] (T, N, I, L, R) 0 0
  have hal := a.toInt_lt
  have hbl := b.toInt_lt
  have loop : ∀ (y i x : Nat) (y' : Nat), y' = y → (i + y ≤ 99 ∨ i + 1 + x ≤ 99) → x < 2147483648 → y < 2147483648 → Nat.gcd x y = Nat.gcd a.toInt.natAbs b.toInt.natAbs → V 13 [(4, .int (Int32.ofNat i)), (3, .int (Int32.ofNat y)), (2, .int (Int32.ofNat x)), (0, .int a), (1, .int b)] [] (T, N, I, L, R) 0 0 := by
    intro y
    induction y using Nat.strongRecOn with
    | _ y ih =>
      intro i x y' hy' hi hx hyb hg
      refine k_iload C rfl rfl rfl ?_
      refine k_bipush C (x := 100) rfl rfl rfl ?_
      refine k_icmp_ge C (t := 40) rfl rfl rfl (fun c17 => ?_) (fun c17 => ?_)
      · skip
        exact absurd ((n_le (a := 100) (b := i) (by omega) (by omega)).mp c17) (by omega)
      refine k_iload_n C rfl rfl rfl ?_
      refine k_if_eq C (t := 40) rfl rfl rfl (fun c21 => ?_) (fun c21 => ?_)
      · skip
        have hy : y = 0 := (n_eq (b := 0) (by omega) (by omega)).mp c21
        subst hy
        refine k_iload_n C rfl rfl rfl ?_
        exact k_iret C rfl (Or.inl rfl) (Nat.le_of_ble_eq_true rfl) (Nat.le_of_ble_eq_true rfl) ⟨_, _, _, rfl, rfl, by rw [← hg, Nat.gcd_zero_right], rfl, rfl⟩
      have hy : y ≠ 0 := fun e => c21 (by rw [e]; rfl)
      refine k_iload_n C rfl rfl rfl ?_
      refine k_iload_n C rfl rfl rfl ?_
      refine k_irem C rfl rfl (i_ne0 (by rw [n_int (by omega)]; omega)) ?_
      refine k_istore C (lw := [(5, .int _), (4, .int _), (3, .int _), (2, .int _), (0, .int _), (1, .int _)]) rfl rfl (Nat.le_of_ble_eq_true rfl) rfl ?_
      refine k_iload_n C rfl rfl rfl ?_
      refine k_istore_n C (lw := [(2, .int _), (5, .int _), (4, .int _), (3, .int _), (0, .int _), (1, .int _)]) rfl rfl (Nat.le_of_ble_eq_true rfl) rfl ?_
      refine k_iload C rfl rfl rfl ?_
      refine k_istore_n C (lw := [(3, .int _), (2, .int _), (5, .int _), (4, .int _), (0, .int _), (1, .int _)]) rfl rfl (Nat.le_of_ble_eq_true rfl) rfl ?_
      rw [n_rem (by omega) (by omega) hy]
      have hm := Nat.mod_lt x (Nat.pos_of_ne_zero hy)
      have hmx := Nat.mod_le x y
      refine k_sub S [(4, .int (Int32.ofNat i)), (3, .int (Int32.ofNat (x % y))), (2, .int (Int32.ofNat y)), (0, .int a), (1, .int b)] (List.forall_mem_cons.mpr ⟨List.mem_of_getElem? (i := 3) rfl, List.forall_mem_cons.mpr ⟨List.mem_of_getElem? (i := 0) rfl, List.forall_mem_cons.mpr ⟨List.mem_of_getElem? (i := 1) rfl, List.forall_mem_cons.mpr ⟨List.mem_of_getElem? (i := 4) rfl, List.forall_mem_cons.mpr ⟨List.mem_of_getElem? (i := 5) rfl, fun _ h => nomatch h⟩⟩⟩⟩⟩) ?_
      refine k_inc1 C (lw := [(4, .int _), (3, .int _), (2, .int _), (0, .int _), (1, .int _)]) rfl rfl rfl (Nat.le_of_ble_eq_true rfl) rfl ?_
      refine k_goto C (pc2 := 13) rfl rfl ?_
      rw [n_s]
      exact ih (x % y) hm (i + 1) y _ rfl (by omega) (by omega) (by omega) (by rw [← hg, Nat.gcd_comm y, ← Nat.gcd_rec, Nat.gcd_comm])
  refine k_iload_n C rfl rfl rfl ?_
  refine c_SI C (e_abs (x := a)) rfl rfl rfl rfl rfl rfl rfl (Nat.le_of_ble_eq_true rfl) (Nat.le_of_ble_eq_true rfl) (Nat.le_of_ble_eq_true rfl) ?_
  rintro _ _ _ ⟨hx7, hI8, hL9⟩
  have hx7 := hx7.symm; subst hx7
  have hI8 := hI8.symm; subst hI8; have hL9 := hL9.symm; subst hL9
  rw [absN ha]
  refine k_istore_n C (lw := [(2, .int _), (0, .int _), (1, .int _)]) rfl rfl (Nat.le_of_ble_eq_true rfl) rfl ?_
  refine k_iload_n C rfl rfl rfl ?_
  refine c_SI C (e_abs (x := b)) rfl rfl rfl rfl rfl rfl rfl (Nat.le_of_ble_eq_true rfl) (Nat.le_of_ble_eq_true rfl) (Nat.le_of_ble_eq_true rfl) ?_
  rintro _ _ _ ⟨hx7, hI8, hL9⟩
  have hx7 := hx7.symm; subst hx7
  have hI8 := hI8.symm; subst hI8; have hL9 := hL9.symm; subst hL9
  rw [absN hb]
  refine k_istore_n C (lw := [(3, .int _), (2, .int _), (0, .int _), (1, .int _)]) rfl rfl (Nat.le_of_ble_eq_true rfl) rfl ?_
  refine k_iconst C (x := 0) rfl rfl rfl ?_
  refine k_istore C (lw := [(4, .int _), (3, .int _), (2, .int _), (0, .int _), (1, .int _)]) rfl rfl (Nat.le_of_ble_eq_true rfl) rfl ?_
  exact loop _ 0 _ _ rfl (by omega) (by omega) (by omega) rfl


theorem e_m_shared {d : Nat} {T N : Nat → Nat} {I : IT} {L : LT} {R : RT} {a b : Int32}  (ha : -2147483648 < a.toInt) (hb : -2147483648 < b.toInt) : Ex (d + 2) 304 [.int a, .int b] (T, N, I, L, R) 0 0 (pI T N R (fun x9 I9 L9 => x9 = (Int32.ofNat (Nat.gcd a.toInt.natAbs b.toInt.natAbs)) ∧ I9 = I ∧ L9 = L)) := by
  refine ⟨_, rfl, Nat.le_of_ble_eq_true rfl, fun V C S => ?_⟩
  show V 0 [(0, .int a), (1, .int b)] [] (T, N, I, L, R) 0 0
  have hal := a.toInt_lt
  have hbl := b.toInt_lt
  have loop : ∀ (y x : Nat), x < 2147483648 → y < 2147483648 → Nat.gcd x y = Nat.gcd a.toInt.natAbs b.toInt.natAbs → V 10 [(3, .int (Int32.ofNat y)), (2, .int (Int32.ofNat x)), (0, .int a), (1, .int b)] [] (T, N, I, L, R) 0 0 := by
    intro y
    induction y using Nat.strongRecOn with
    | _ y ih =>
      intro x hx hyb hg
      refine k_iload_n C rfl rfl rfl ?_
      refine k_if_eq C (t := 27) rfl rfl rfl (fun c11 => ?_) (fun c11 => ?_)
      · skip
        have hy : y = 0 := (n_eq (b := 0) (by omega) (by omega)).mp c11
        subst hy
        refine k_iload_n C rfl rfl rfl ?_
        exact k_iret C rfl (Or.inl rfl) (Nat.le_of_ble_eq_true rfl) (Nat.le_of_ble_eq_true rfl) ⟨_, _, _, rfl, rfl, by rw [← hg, Nat.gcd_zero_right], rfl, rfl⟩
      have hy : y ≠ 0 := fun e => c11 (by rw [e]; rfl)
      refine k_iload_n C rfl rfl rfl ?_
      refine k_iload_n C rfl rfl rfl ?_
      refine k_irem C rfl rfl (i_ne0 (by rw [n_int (by omega)]; omega)) ?_
      refine k_istore C (lw := [(4, .int _), (3, .int _), (2, .int _), (0, .int _), (1, .int _)]) rfl rfl (Nat.le_of_ble_eq_true rfl) rfl ?_
      refine k_iload_n C rfl rfl rfl ?_
      refine k_istore_n C (lw := [(2, .int _), (4, .int _), (3, .int _), (0, .int _), (1, .int _)]) rfl rfl (Nat.le_of_ble_eq_true rfl) rfl ?_
      refine k_iload C rfl rfl rfl ?_
      refine k_istore_n C (lw := [(3, .int _), (2, .int _), (4, .int _), (0, .int _), (1, .int _)]) rfl rfl (Nat.le_of_ble_eq_true rfl) rfl ?_
      rw [n_rem (by omega) (by omega) hy]
      have hm := Nat.mod_lt x (Nat.pos_of_ne_zero hy)
      refine k_sub S [(3, .int (Int32.ofNat (x % y))), (2, .int (Int32.ofNat y)), (0, .int a), (1, .int b)] (List.forall_mem_cons.mpr ⟨List.mem_of_getElem? (i := 0) rfl, List.forall_mem_cons.mpr ⟨List.mem_of_getElem? (i := 1) rfl, List.forall_mem_cons.mpr ⟨List.mem_of_getElem? (i := 3) rfl, List.forall_mem_cons.mpr ⟨List.mem_of_getElem? (i := 4) rfl, fun _ h => nomatch h⟩⟩⟩⟩) ?_
      refine k_goto C (pc2 := 10) rfl rfl ?_
      exact ih (x % y) hm y (by omega) (by omega) (by rw [← hg, Nat.gcd_comm y, ← Nat.gcd_rec, Nat.gcd_comm])
  refine k_iload_n C rfl rfl rfl ?_
  refine c_SI C (e_abs (x := a)) rfl rfl rfl rfl rfl rfl rfl (Nat.le_of_ble_eq_true rfl) (Nat.le_of_ble_eq_true rfl) (Nat.le_of_ble_eq_true rfl) ?_
  rintro _ _ _ ⟨hx7, hI8, hL9⟩
  have hx7 := hx7.symm; subst hx7
  have hI8 := hI8.symm; subst hI8; have hL9 := hL9.symm; subst hL9
  rw [absN ha]
  refine k_istore_n C (lw := [(2, .int _), (0, .int _), (1, .int _)]) rfl rfl (Nat.le_of_ble_eq_true rfl) rfl ?_
  refine k_iload_n C rfl rfl rfl ?_
  refine c_SI C (e_abs (x := b)) rfl rfl rfl rfl rfl rfl rfl (Nat.le_of_ble_eq_true rfl) (Nat.le_of_ble_eq_true rfl) (Nat.le_of_ble_eq_true rfl) ?_
  rintro _ _ _ ⟨hx7, hI8, hL9⟩
  have hx7 := hx7.symm; subst hx7
  have hI8 := hI8.symm; subst hI8; have hL9 := hL9.symm; subst hL9
  rw [absN hb]
  refine k_istore_n C (lw := [(3, .int _), (2, .int _), (0, .int _), (1, .int _)]) rfl rfl (Nat.le_of_ble_eq_true rfl) rfl ?_
  exact loop _ _ (by omega) (by omega) rfl


