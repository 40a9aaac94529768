/-! numbers -/
theorem xor64_nn {x y : Int64} (hy : 0 < y.toInt) : (0 : Int64) ≤ x ^^^ y ↔ 0 ≤ x.toInt := by
  have h1 : (x ^^^ y).toBitVec.msb = (x.toBitVec.msb ^^ y.toBitVec.msb) := by rw [Int64.toBitVec_xor, BitVec.msb_xor]
  rw [BitVec.msb_eq_toInt, BitVec.msb_eq_toInt, BitVec.msb_eq_toInt] at h1
  have h2 : decide (y.toBitVec.toInt < 0) = false := decide_eq_false (by show ¬ y.toInt < 0; omega)
  rw [h2, Bool.xor_false] at h1
  have h3 : (x ^^^ y).toInt < 0 ↔ x.toInt < 0 := by
    have := decide_eq_decide.mp h1
    exact this
  rw [Int64.le_iff_toInt_le]
  show (0 : Int) ≤ _ ↔ _
  omega
theorem xor32_nn {x y : Int32} (hy : 0 < y.toInt) : (0 : Int32) ≤ x ^^^ y ↔ 0 ≤ x.toInt := by
  have h1 : (x ^^^ y).toBitVec.msb = (x.toBitVec.msb ^^ y.toBitVec.msb) := by rw [Int32.toBitVec_xor, BitVec.msb_xor]
  rw [BitVec.msb_eq_toInt, BitVec.msb_eq_toInt, BitVec.msb_eq_toInt] at h1
  have h2 : decide (y.toBitVec.toInt < 0) = false := decide_eq_false (by show ¬ y.toInt < 0; omega)
  rw [h2, Bool.xor_false] at h1
  have h3 : (x ^^^ y).toInt < 0 ↔ x.toInt < 0 := by
    have := decide_eq_decide.mp h1
    exact this
  rw [Int32.le_iff_toInt_le]
  show (0 : Int) ≤ _ ↔ _
  omega
theorem l_rem {x y : Int64} (hy : 0 < y.toInt) : (x - x / y * y).toInt = x.toInt.tmod y.toInt := by
  have hd : (x / y).toInt = x.toInt.tdiv y.toInt := Int64.toInt_div_of_ne_right x y (by rintro rfl; exact absurd hy (by decide))
  have h1 : x - x / y * y = Int64.ofInt (x.toInt.tmod y.toInt) := by
    rw [Int.tmod_def, ← hd, Int64.ofInt_sub, Int64.ofInt_mul, Int64.ofInt_toInt, Int64.ofInt_toInt, Int64.ofInt_toInt, Int64.mul_comm]
  have h2 := Int.tmod_lt_of_pos x.toInt hy
  have h3 := Int.lt_tmod_of_pos x.toInt hy
  have h4 := y.toInt_lt
  rw [h1, Int64.toInt_ofInt_of_le (by omega) (by omega)]
theorem i_rem {x y : Int32} (hy : 0 < y.toInt) : (x - x / y * y).toInt = x.toInt.tmod y.toInt := by
  have hd : (x / y).toInt = x.toInt.tdiv y.toInt := Int32.toInt_div_of_ne_right x y (by rintro rfl; exact absurd hy (by decide))
  have h1 : x - x / y * y = Int32.ofInt (x.toInt.tmod y.toInt) := by
    rw [Int.tmod_def, ← hd, Int32.ofInt_sub, Int32.ofInt_mul, Int32.ofInt_toInt, Int32.ofInt_toInt, Int32.ofInt_toInt, Int32.mul_comm]
  have h2 := Int.tmod_lt_of_pos x.toInt hy
  have h3 := Int.lt_tmod_of_pos x.toInt hy
  have h4 := y.toInt_lt
  rw [h1, Int32.toInt_ofInt_of_le (by omega) (by omega)]
theorem tm_em (n : Int) {p : Int} (hp : 0 < p) : (0 ≤ n.tmod p → n.tmod p = n % p) ∧ (n.tmod p < 0 → n.tmod p + p = n % p) := by
  have h1 := Int.emod_nonneg n (show p ≠ 0 by omega)
  have h2 := Int.emod_lt_of_pos n hp
  rw [Int.tmod_eq_emod]
  split <;> omega
theorem tm_sg (n : Int) {p : Int} (hp : 0 < p) : (0 ≤ n → 0 ≤ n.tmod p) ∧ (n < 0 → n.tmod p ≤ 0) := by
  have h1 := Int.emod_nonneg n (show p ≠ 0 by omega)
  have h2 := Int.emod_lt_of_pos n hp
  rw [Int.tmod_eq_emod]
  constructor
  · intro h; rw [if_pos (Or.inl h)]; omega
  · intro h
    split
    · rename_i hh
      rcases hh with hh | hh
      · omega
      · have := Int.emod_eq_zero_of_dvd hh; omega
    · omega
theorem li_add {x y : Int64} (h : -9223372036854775808 ≤ x.toInt + y.toInt ∧ x.toInt + y.toInt < 9223372036854775808) : (x + y).toInt = x.toInt + y.toInt := by rw [Int64.toInt_add]; exact Int.bmod_eq_of_le (by omega) (by omega)
theorem li_sub {x y : Int64} (h : -9223372036854775808 ≤ x.toInt - y.toInt ∧ x.toInt - y.toInt < 9223372036854775808) : (x - y).toInt = x.toInt - y.toInt := by rw [Int64.toInt_sub]; exact Int.bmod_eq_of_le (by omega) (by omega)
theorem li_mul {x y : Int64} (h : -9223372036854775808 ≤ x.toInt * y.toInt ∧ x.toInt * y.toInt < 9223372036854775808) : (x * y).toInt = x.toInt * y.toInt := by rw [Int64.toInt_mul]; exact Int.bmod_eq_of_le (by omega) (by omega)
theorem ii_add {x y : Int32} (h : -2147483648 ≤ x.toInt + y.toInt ∧ x.toInt + y.toInt < 2147483648) : (x + y).toInt = x.toInt + y.toInt := by rw [Int32.toInt_add]; exact Int.bmod_eq_of_le (by omega) (by omega)
theorem ii_sub {x y : Int32} (h : -2147483648 ≤ x.toInt - y.toInt ∧ x.toInt - y.toInt < 2147483648) : (x - y).toInt = x.toInt - y.toInt := by rw [Int32.toInt_sub]; exact Int.bmod_eq_of_le (by omega) (by omega)
theorem ii_mul {x y : Int32} (h : -2147483648 ≤ x.toInt * y.toInt ∧ x.toInt * y.toInt < 2147483648) : (x * y).toInt = x.toInt * y.toInt := by rw [Int32.toInt_mul]; exact Int.bmod_eq_of_le (by omega) (by omega)
theorem l2i_eq {x : Int64} (h : -2147483648 ≤ x.toInt ∧ x.toInt < 2147483648) : x.toInt32.toInt = x.toInt := by rw [Int64.toInt_toInt32]; exact Int.bmod_eq_of_le (by omega) (by omega)
theorem i2l_eq (x : Int32) : x.toInt64.toInt = x.toInt := Int32.toInt_toInt64 x
theorem i_le {x y : Int32} : x ≤ y ↔ x.toInt ≤ y.toInt := Int32.le_iff_toInt_le
theorem i_lt {x y : Int32} : x < y ↔ x.toInt < y.toInt := Int32.lt_iff_toInt_lt
theorem l_le {x y : Int64} : x ≤ y ↔ x.toInt ≤ y.toInt := Int64.le_iff_toInt_le
theorem l_lt {x y : Int64} : x < y ↔ x.toInt < y.toInt := Int64.lt_iff_toInt_lt
theorem i_ne0 {x : Int32} (h : x.toInt ≠ 0) : ¬ x = 0 := fun e => h (by rw [e]; rfl)
theorem l_ne0 {x : Int64} (h : x.toInt ≠ 0) : ¬ x = 0 := fun e => h (by rw [e]; rfl)
/-- Math.floorMod of longs by a number above 0 -/
theorem fm64a {x y : Int64} (hy : 0 < y.toInt) (c : (0 : Int64) ≤ x ^^^ y) : (x - x / y * y).toInt = x.toInt % y.toInt := by
  rw [l_rem hy]; exact (tm_em _ hy).1 ((tm_sg _ hy).1 ((xor64_nn hy).mp c))
theorem fm64b {x y : Int64} (hy : 0 < y.toInt) (c : x - x / y * y = 0) : (x - x / y * y).toInt = x.toInt % y.toInt := by
  have h := congrArg Int64.toInt c
  rw [l_rem hy] at h ⊢
  exact (tm_em _ hy).1 (by rw [h]; decide)
theorem fm64c {x y : Int64} (hy : 0 < y.toInt) (c : ¬ (0 : Int64) ≤ x ^^^ y) (c2 : ¬ x - x / y * y = 0) : (x - x / y * y + y).toInt = x.toInt % y.toInt := by
  have h1 := l_rem (x := x) hy
  have h2 : x.toInt < 0 := Int.not_le.mp (fun h => c ((xor64_nn hy).mpr h))
  have h3 := (tm_sg x.toInt hy).2 h2
  have h4 : x.toInt.tmod y.toInt ≠ 0 := fun e => c2 (Int64.toInt_inj.mp (by rw [h1, e]; rfl))
  have h5 := Int.lt_tmod_of_pos x.toInt hy
  have h6 := (tm_em x.toInt hy).2 (by omega)
  have h7 := y.toInt_lt
  rw [li_add (by rw [h1]; omega), h1, h6]
theorem fm32a {x y : Int32} (hy : 0 < y.toInt) (c : (0 : Int32) ≤ x ^^^ y) : (x - x / y * y).toInt = x.toInt % y.toInt := by
  rw [i_rem hy]; exact (tm_em _ hy).1 ((tm_sg _ hy).1 ((xor32_nn hy).mp c))
theorem fm32b {x y : Int32} (hy : 0 < y.toInt) (c : x - x / y * y = 0) : (x - x / y * y).toInt = x.toInt % y.toInt := by
  have h := congrArg Int32.toInt c
  rw [i_rem hy] at h ⊢
  exact (tm_em _ hy).1 (by rw [h]; decide)
theorem fm32c {x y : Int32} (hy : 0 < y.toInt) (c : ¬ (0 : Int32) ≤ x ^^^ y) (c2 : ¬ x - x / y * y = 0) : (x - x / y * y + y).toInt = x.toInt % y.toInt := by
  have h1 := i_rem (x := x) hy
  have h2 : x.toInt < 0 := Int.not_le.mp (fun h => c ((xor32_nn hy).mpr h))
  have h3 := (tm_sg x.toInt hy).2 h2
  have h4 : x.toInt.tmod y.toInt ≠ 0 := fun e => c2 (Int32.toInt_inj.mp (by rw [h1, e]; rfl))
  have h5 := Int.lt_tmod_of_pos x.toInt hy
  have h6 := (tm_em x.toInt hy).2 (by omega)
  have h7 := y.toInt_lt
  rw [ii_add (by rw [h1]; omega), h1, h6]
/-- Math.floorDiv of longs by a number above 0 -/
theorem td_ed (n : Int) {p : Int} (hp : 0 < p) : n.tdiv p = if n < 0 ∧ n.tdiv p * p ≠ n then n / p + 1 else n / p := by
  rw [Int.tdiv_eq_ediv]
  have hs : p.sign = 1 := Int.sign_eq_one_of_pos hp
  have he := Int.mul_ediv_add_emod n p
  by_cases h0 : 0 ≤ n
  · rw [if_pos (Or.inl h0), if_neg (by omega)]; omega
  · by_cases hd : p ∣ n
    · rw [if_pos (Or.inr hd), if_neg]
      · omega
      · intro h; apply h.2; rw [Int.add_zero]; exact Int.ediv_mul_cancel hd
    · rw [if_neg (by intro h; rcases h with h | h; exact h0 h; exact hd h), hs, if_pos]
      refine ⟨by omega, fun h => hd ⟨n / p + 1, ?_⟩⟩
      rw [Int.mul_comm]; exact h.symm
theorem fd64 {x y : Int64} (hy : 0 < y.toInt) : (x / y).toInt = x.toInt.tdiv y.toInt := Int64.toInt_div_of_ne_right x y (by rintro rfl; exact absurd hy (by decide))
theorem fd_bd {x y : Int64} (hy : 0 < y.toInt) : -9223372036854775808 ≤ x.toInt.tdiv y.toInt * y.toInt ∧ x.toInt.tdiv y.toInt * y.toInt < 9223372036854775808 := by
  have h1 := Int.tmod_add_mul_tdiv x.toInt y.toInt
  have h2 := tm_sg x.toInt hy
  have h3 := x.le_toInt
  have h4 := x.toInt_lt
  have h5 := Int.tmod_lt_of_pos x.toInt hy
  have h6 := Int.lt_tmod_of_pos x.toInt hy
  have h7 := y.toInt_lt
  rw [Int.mul_comm] at h1
  by_cases h8 : 0 ≤ x.toInt
  · have := h2.1 h8; omega
  · have := h2.2 (by omega); omega
theorem fd64a {x y : Int64} (hy : 0 < y.toInt) (c : (0 : Int64) ≤ x ^^^ y) : (x / y).toInt = x.toInt / y.toInt := by
  rw [fd64 hy, td_ed _ hy, if_neg]
  have := (xor64_nn hy).mp c
  omega
theorem fd64b {x y : Int64} (hy : 0 < y.toInt) (c : x / y * y = x) : (x / y).toInt = x.toInt / y.toInt := by
  have h := congrArg Int64.toInt c
  rw [li_mul (by rw [fd64 hy]; exact fd_bd hy), fd64 hy] at h
  rw [fd64 hy, td_ed _ hy, if_neg (fun q => q.2 h)]
theorem fd64c {x y : Int64} (hy : 0 < y.toInt) (c : ¬ (0 : Int64) ≤ x ^^^ y) (c2 : ¬ x / y * y = x) : (x / y - 1).toInt = x.toInt / y.toInt := by
  have h2 : x.toInt < 0 := Int.not_le.mp (fun h => c ((xor64_nn hy).mpr h))
  have h3 : x.toInt.tdiv y.toInt * y.toInt ≠ x.toInt := fun e => c2 (Int64.toInt_inj.mp (by rw [li_mul (by rw [fd64 hy]; exact fd_bd hy), fd64 hy, e]))
  have h4 := td_ed x.toInt hy
  rw [if_pos ⟨h2, h3⟩] at h4
  have hq : x.toInt ≤ x.toInt / y.toInt := by
    refine Int.le_ediv_of_mul_le hy ?_
    have h10 : y.toInt * x.toInt ≤ 1 * x.toInt := Int.mul_le_mul_of_nonpos_right (by omega) (by omega)
    rw [Int.mul_comm]; omega
  have h9 : x.toInt / y.toInt < 0 := Int.ediv_neg_of_neg_of_pos h2 hy
  have h11 := x.le_toInt
  have h12 : (1 : Int64).toInt = 1 := rfl
  rw [li_sub (by rw [fd64 hy, h4, h12]; omega), fd64 hy, h4, h12]; omega
