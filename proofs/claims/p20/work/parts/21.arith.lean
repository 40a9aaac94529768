-- 21.arith.lean.txt
section
/-! numbers -/
theorem xor64_nn {x y : Int64} (hy : 0 < y.toInt) : (0 : Int64) ≤ x ^^^ y ↔ 0 ≤ x.toInt := by
  have h1 : (x ^^^ y).toBitVec.msb = (x.toBitVec.msb ^^ y.toBitVec.msb) := by rw [Int64.toBitVec_xor, BitVec.msb_xor]
  rw [BitVec.msb_eq_toInt, BitVec.msb_eq_toInt, BitVec.msb_eq_toInt] at h1
  have h2 : decide (y.toBitVec.toInt < 0) = false := decide_eq_false (by show ¬ y.toInt < 0; omega)
  rw [h2, Bool.xor_false] at h1
  have h3 : (x ^^^ y).toInt < 0 ↔ x.toInt < 0 := by
    have := decide_eq_decide.mp h1
    exact this
  rw [Int64.le_iff_toInt_le]
  show (0 : Int) ≤ _ ↔ _
  omega
theorem xor32_nn {x y : Int32} (hy : 0 < y.toInt) : (0 : Int32) ≤ x ^^^ y ↔ 0 ≤ x.toInt := by
  have h1 : (x ^^^ y).toBitVec.msb = (x.toBitVec.msb ^^ y.toBitVec.msb) := by rw [Int32.toBitVec_xor, BitVec.msb_xor]
  rw [BitVec.msb_eq_toInt, BitVec.msb_eq_toInt, BitVec.msb_eq_toInt] at h1
  have h2 : decide (y.toBitVec.toInt < 0) = false := decide_eq_false (by show ¬ y.toInt < 0; omega)
  rw [h2, Bool.xor_false] at h1
  have h3 : (x ^^^ y).toInt < 0 ↔ x.toInt < 0 := by
    have := decide_eq_decide.mp h1
    exact this
  rw [Int32.le_iff_toInt_le]
  show (0 : Int) ≤ _ ↔ _
  omega
theorem l_rem {x y : Int64} (hy : 0 < y.toInt) : (x - x / y * y).toInt = x.toInt.tmod y.toInt := by
  have hd : (x / y).toInt = x.toInt.tdiv y.toInt := Int64.toInt_div_of_ne_right x y (by rintro rfl; exact absurd hy (by decide))
  have h1 : x - x / y * y = Int64.ofInt (x.toInt.tmod y.toInt) := by
    rw [Int.tmod_def, ← hd, Int64.ofInt_sub, Int64.ofInt_mul, Int64.ofInt_toInt, Int64.ofInt_toInt, Int64.ofInt_toInt, Int64.mul_comm]
  have h2 := Int.tmod_lt_of_pos x.toInt hy
  have h3 := Int.lt_tmod_of_pos x.toInt hy
  have h4 := y.toInt_lt
  rw [h1, Int64.toInt_ofInt_of_le (by omega) (by omega)]
theorem i_rem {x y : Int32} (hy : 0 < y.toInt) : (x - x / y * y).toInt = x.toInt.tmod y.toInt := by
  have hd : (x / y).toInt = x.toInt.tdiv y.toInt := Int32.toInt_div_of_ne_right x y (by rintro rfl; exact absurd hy (by decide))
  have h1 : x - x / y * y = Int32.ofInt (x.toInt.tmod y.toInt) := by
    rw [Int.tmod_def, ← hd, Int32.ofInt_sub, Int32.ofInt_mul, Int32.ofInt_toInt, Int32.ofInt_toInt, Int32.ofInt_toInt, Int32.mul_comm]
  have h2 := Int.tmod_lt_of_pos x.toInt hy
  have h3 := Int.lt_tmod_of_pos x.toInt hy
  have h4 := y.toInt_lt
  rw [h1, Int32.toInt_ofInt_of_le (by omega) (by omega)]
theorem tm_em (n : Int) {p : Int} (hp : 0 < p) : (0 ≤ n.tmod p → n.tmod p = n % p) ∧ (n.tmod p < 0 → n.tmod p + p = n % p) := by
  have h1 := Int.emod_nonneg n (show p ≠ 0 by omega)
  have h2 := Int.emod_lt_of_pos n hp
  rw [Int.tmod_eq_emod]
  split <;> omega
theorem tm_sg (n : Int) {p : Int} (hp : 0 < p) : (0 ≤ n → 0 ≤ n.tmod p) ∧ (n < 0 → n.tmod p ≤ 0) := by
  have h1 := Int.emod_nonneg n (show p ≠ 0 by omega)
  have h2 := Int.emod_lt_of_pos n hp
  rw [Int.tmod_eq_emod]
  constructor
  · intro h; rw [if_pos (Or.inl h)]; omega
  · intro h
    split
    · rename_i hh
      rcases hh with hh | hh
      · omega
      · have := Int.emod_eq_zero_of_dvd hh; omega
    · omega
theorem li_add {x y : Int64} (h : -9223372036854775808 ≤ x.toInt + y.toInt ∧ x.toInt + y.toInt < 9223372036854775808) : (x + y).toInt = x.toInt + y.toInt := by rw [Int64.toInt_add]; exact Int.bmod_eq_of_le (by omega) (by omega)
theorem li_sub {x y : Int64} (h : -9223372036854775808 ≤ x.toInt - y.toInt ∧ x.toInt - y.toInt < 9223372036854775808) : (x - y).toInt = x.toInt - y.toInt := by rw [Int64.toInt_sub]; exact Int.bmod_eq_of_le (by omega) (by omega)
theorem li_mul {x y : Int64} (h : -9223372036854775808 ≤ x.toInt * y.toInt ∧ x.toInt * y.toInt < 9223372036854775808) : (x * y).toInt = x.toInt * y.toInt := by rw [Int64.toInt_mul]; exact Int.bmod_eq_of_le (by omega) (by omega)
theorem ii_add {x y : Int32} (h : -2147483648 ≤ x.toInt + y.toInt ∧ x.toInt + y.toInt < 2147483648) : (x + y).toInt = x.toInt + y.toInt := by rw [Int32.toInt_add]; exact Int.bmod_eq_of_le (by omega) (by omega)
theorem ii_sub {x y : Int32} (h : -2147483648 ≤ x.toInt - y.toInt ∧ x.toInt - y.toInt < 2147483648) : (x - y).toInt = x.toInt - y.toInt := by rw [Int32.toInt_sub]; exact Int.bmod_eq_of_le (by omega) (by omega)
theorem ii_mul {x y : Int32} (h : -2147483648 ≤ x.toInt * y.toInt ∧ x.toInt * y.toInt < 2147483648) : (x * y).toInt = x.toInt * y.toInt := by rw [Int32.toInt_mul]; exact Int.bmod_eq_of_le (by omega) (by omega)
theorem l2i_eq {x : Int64} (h : -2147483648 ≤ x.toInt ∧ x.toInt < 2147483648) : x.toInt32.toInt = x.toInt := by rw [Int64.toInt_toInt32]; exact Int.bmod_eq_of_le (by omega) (by omega)
theorem i2l_eq (x : Int32) : x.toInt64.toInt = x.toInt := Int32.toInt_toInt64 x
theorem i_le {x y : Int32} : x ≤ y ↔ x.toInt ≤ y.toInt := Int32.le_iff_toInt_le
theorem i_lt {x y : Int32} : x < y ↔ x.toInt < y.toInt := Int32.lt_iff_toInt_lt
theorem l_le {x y : Int64} : x ≤ y ↔ x.toInt ≤ y.toInt := Int64.le_iff_toInt_le
theorem l_lt {x y : Int64} : x < y ↔ x.toInt < y.toInt := Int64.lt_iff_toInt_lt
theorem i_ne0 {x : Int32} (h : x.toInt ≠ 0) : ¬ x = 0 := fun e => h (by rw [e]; rfl)
theorem l_ne0 {x : Int64} (h : x.toInt ≠ 0) : ¬ x = 0 := fun e => h (by rw [e]; rfl)
/-- Math.floorMod of longs by a number above 0 -/
theorem fm64a {x y : Int64} (hy : 0 < y.toInt) (c : (0 : Int64) ≤ x ^^^ y) : (x - x / y * y).toInt = x.toInt % y.toInt := by
  rw [l_rem hy]; exact (tm_em _ hy).1 ((tm_sg _ hy).1 ((xor64_nn hy).mp c))
theorem fm64b {x y : Int64} (hy : 0 < y.toInt) (c : x - x / y * y = 0) : (x - x / y * y).toInt = x.toInt % y.toInt := by
  have h := congrArg Int64.toInt c
  rw [l_rem hy] at h ⊢
  exact (tm_em _ hy).1 (by rw [h]; decide)
theorem fm64c {x y : Int64} (hy : 0 < y.toInt) (c : ¬ (0 : Int64) ≤ x ^^^ y) (c2 : ¬ x - x / y * y = 0) : (x - x / y * y + y).toInt = x.toInt % y.toInt := by
  have h1 := l_rem (x := x) hy
  have h2 : x.toInt < 0 := Int.not_le.mp (fun h => c ((xor64_nn hy).mpr h))
  have h3 := (tm_sg x.toInt hy).2 h2
  have h4 : x.toInt.tmod y.toInt ≠ 0 := fun e => c2 (Int64.toInt_inj.mp (by rw [h1, e]; rfl))
  have h5 := Int.lt_tmod_of_pos x.toInt hy
  have h6 := (tm_em x.toInt hy).2 (by omega)
  have h7 := y.toInt_lt
  rw [li_add (by rw [h1]; omega), h1, h6]
theorem fm32a {x y : Int32} (hy : 0 < y.toInt) (c : (0 : Int32) ≤ x ^^^ y) : (x - x / y * y).toInt = x.toInt % y.toInt := by
  rw [i_rem hy]; exact (tm_em _ hy).1 ((tm_sg _ hy).1 ((xor32_nn hy).mp c))
theorem fm32b {x y : Int32} (hy : 0 < y.toInt) (c : x - x / y * y = 0) : (x - x / y * y).toInt = x.toInt % y.toInt := by
  have h := congrArg Int32.toInt c
  rw [i_rem hy] at h ⊢
  exact (tm_em _ hy).1 (by rw [h]; decide)
theorem fm32c {x y : Int32} (hy : 0 < y.toInt) (c : ¬ (0 : Int32) ≤ x ^^^ y) (c2 : ¬ x - x / y * y = 0) : (x - x / y * y + y).toInt = x.toInt % y.toInt := by
  have h1 := i_rem (x := x) hy
  have h2 : x.toInt < 0 := Int.not_le.mp (fun h => c ((xor32_nn hy).mpr h))
  have h3 := (tm_sg x.toInt hy).2 h2
  have h4 : x.toInt.tmod y.toInt ≠ 0 := fun e => c2 (Int32.toInt_inj.mp (by rw [h1, e]; rfl))
  have h5 := Int.lt_tmod_of_pos x.toInt hy
  have h6 := (tm_em x.toInt hy).2 (by omega)
  have h7 := y.toInt_lt
  rw [ii_add (by rw [h1]; omega), h1, h6]
/-- Math.floorDiv of longs by a number above 0 -/
theorem td_ed (n : Int) {p : Int} (hp : 0 < p) : n.tdiv p = if n < 0 ∧ n.tdiv p * p ≠ n then n / p + 1 else n / p := by
  rw [Int.tdiv_eq_ediv]
  have hs : p.sign = 1 := Int.sign_eq_one_of_pos hp
  have he := Int.mul_ediv_add_emod n p
  by_cases h0 : 0 ≤ n
  · rw [if_pos (Or.inl h0), if_neg (by omega)]; omega
  · by_cases hd : p ∣ n
    · rw [if_pos (Or.inr hd), if_neg]
      · omega
      · intro h; apply h.2; rw [Int.add_zero]; exact Int.ediv_mul_cancel hd
    · rw [if_neg (by intro h; rcases h with h | h; exact h0 h; exact hd h), hs, if_pos]
      refine ⟨by omega, fun h => hd ⟨n / p + 1, ?_⟩⟩
      rw [Int.mul_comm]; exact h.symm
theorem fd64 {x y : Int64} (hy : 0 < y.toInt) : (x / y).toInt = x.toInt.tdiv y.toInt := Int64.toInt_div_of_ne_right x y (by rintro rfl; exact absurd hy (by decide))
theorem fd_bd {x y : Int64} (hy : 0 < y.toInt) : -9223372036854775808 ≤ x.toInt.tdiv y.toInt * y.toInt ∧ x.toInt.tdiv y.toInt * y.toInt < 9223372036854775808 := by
  have h1 := Int.tmod_add_mul_tdiv x.toInt y.toInt
  have h2 := tm_sg x.toInt hy
  have h3 := x.le_toInt
  have h4 := x.toInt_lt
  have h5 := Int.tmod_lt_of_pos x.toInt hy
  have h6 := Int.lt_tmod_of_pos x.toInt hy
  have h7 := y.toInt_lt
  rw [Int.mul_comm] at h1
  by_cases h8 : 0 ≤ x.toInt
  · have := h2.1 h8; omega
  · have := h2.2 (by omega); omega
theorem fd64a {x y : Int64} (hy : 0 < y.toInt) (c : (0 : Int64) ≤ x ^^^ y) : (x / y).toInt = x.toInt / y.toInt := by
  rw [fd64 hy, td_ed _ hy, if_neg]
  have := (xor64_nn hy).mp c
  omega
theorem fd64b {x y : Int64} (hy : 0 < y.toInt) (c : x / y * y = x) : (x / y).toInt = x.toInt / y.toInt := by
  have h := congrArg Int64.toInt c
  rw [li_mul (by rw [fd64 hy]; exact fd_bd hy), fd64 hy] at h
  rw [fd64 hy, td_ed _ hy, if_neg (fun q => q.2 h)]
theorem fd64c {x y : Int64} (hy : 0 < y.toInt) (c : ¬ (0 : Int64) ≤ x ^^^ y) (c2 : ¬ x / y * y = x) : (x / y - 1).toInt = x.toInt / y.toInt := by
  have h2 : x.toInt < 0 := Int.not_le.mp (fun h => c ((xor64_nn hy).mpr h))
  have h3 : x.toInt.tdiv y.toInt * y.toInt ≠ x.toInt := fun e => c2 (Int64.toInt_inj.mp (by rw [li_mul (by rw [fd64 hy]; exact fd_bd hy), fd64 hy, e]))
  have h4 := td_ed x.toInt hy
  rw [if_pos ⟨h2, h3⟩] at h4
  have hq : x.toInt ≤ x.toInt / y.toInt := by
    refine Int.le_ediv_of_mul_le hy ?_
    have h10 : y.toInt * x.toInt ≤ 1 * x.toInt := Int.mul_le_mul_of_nonpos_right (by omega) (by omega)
    rw [Int.mul_comm]; omega
  have h9 : x.toInt / y.toInt < 0 := Int.ediv_neg_of_neg_of_pos h2 hy
  have h11 := x.le_toInt
  have h12 : (1 : Int64).toInt = 1 := rfl
  rw [li_sub (by rw [fd64 hy, h4, h12]; omega), fd64 hy, h4, h12]; omega
end
-- 30.auto.lean.txt
section
/-! the class in any state: its graph by kinds, bounds of cells, rules with fresh numbers -/
theorem rg (x : Int32) : -2147483648 ≤ x.toInt ∧ x.toInt ≤ 2147483647 := ⟨x.le_toInt, by have := x.toInt_lt; omega⟩
theorem vpi {j : Int32} {n : Nat} (h0 : 0 ≤ j.toInt) (h1 : j.toInt < (n : Int)) : vp_in j n := by
  rintro (h | h)
  · rw [Int32.lt_iff_toInt_lt] at h
    have e0 : (0 : Int32).toInt = 0 := rfl
    omega
  · have e1 : j.toNatClampNeg = j.toInt.toNat := rfl
    omega
theorem ncn {j : Int32} {n : Nat} (h0 : 0 ≤ j.toInt) (h1 : j.toInt < (n : Int)) : j.toNatClampNeg < n := by
  have e1 : j.toNatClampNeg = j.toInt.toNat := rfl
  omega
theorem z01 {x : Int32} (h0 : 0 ≤ x.toInt) (h1 : x.toInt ≤ 1) : x = 0 ∨ x = 1 := by
  by_cases e : x.toInt = 0
  · exact Or.inl (Int32.toInt_inj.mp e)
  · exact Or.inr (Int32.toInt_inj.mp (show x.toInt = 1 by omega))
theorem shr1 {x y : Int32} (hy : y.toInt = 1) (hx : 0 ≤ x.toInt) : (x >>> (y &&& 31)).toInt = x.toInt / 2 := by
  have e : y = 1 := Int32.toInt_inj.mp hy
  subst e
  have e2 : ((1 : Int32) &&& 31) = 1 := by decide
  rw [e2]
  rw [← Int32.toInt_toBitVec, ← Int32.toInt_toBitVec, Int32.toBitVec_shiftRight]
  show (x.toBitVec.sshiftRight' _).toInt = _
  rw [BitVec.sshiftRight', BitVec.toInt_sshiftRight]
  show x.toBitVec.toInt >>> (1 : Nat) = _
  rw [Int.shiftRight_eq_div_pow]
  rfl
def boX (t k : Nat) (x : Int32) : Prop := (t = 3 → k = 0 → 0 ≤ x.toInt ∧ x.toInt ≤ 40) ∧ (t = 9 → k = 0 → 11 ≤ x.toInt ∧ x.toInt ≤ 19)
def IX (A : Nat → Prop) (T : Nat → Nat) (I : IT) : Prop := ∀ a, A a → ∀ k, boX (T a) k (I a k)
theorem boX.tr {t k : Nat} {x : Int32} (h3 : t = 3 → k ≠ 0) (h9 : t = 9 → k ≠ 0) : boX t k x := ⟨fun a b => absurd b (h3 a), fun a b => absurd b (h9 a)⟩
theorem boX.ar {t k : Nat} {x : Int32} (h : 20 ≤ t) : boX t k x := ⟨fun a => absurd a (by omega), fun a => absurd a (by omega)⟩
theorem IX.deg {A : Nat → Prop} {T : Nat → Nat} {I : IT} {a : Nat} {x : Int32} (h : IX A T I) (ha : A a) (hT : T a = 3) (e : I a 0 = x) : 0 ≤ x.toInt ∧ x.toInt ≤ 40 := by
  rw [← e]; exact (h a ha 0).1 hT rfl
theorem IX.p {A : Nat → Prop} {T : Nat → Nat} {I : IT} {a : Nat} {x : Int32} (h : IX A T I) (ha : A a) (hT : T a = 9) (e : I a 0 = x) : 11 ≤ x.toInt ∧ x.toInt ≤ 19 := by
  rw [← e]; exact (h a ha 0).2 hT rfl
theorem IX.f {A : Nat → Prop} {T : Nat → Nat} {I I' : IT} {a t k : Nat} {x : Int32} (h : IX A T I) (hT : T a = t) (ok : boX t k x) (e : I' = u2 I a k x) : IX A T I' := by
  subst e
  intro b hb j
  by_cases q : b = a ∧ j = k
  · obtain ⟨rfl, rfl⟩ := q
    rw [u2_s, hT]; exact ok
  · have : u2 I a k x b j = I b j := if_neg q
    rw [this]; exact h b hb j
theorem IX.a {A : Nat → Prop} {T : Nat → Nat} {I I' : IT} {a t k : Nat} {x : Int32} (h : IX A T I) (hT : T a = t) (ht : 20 ≤ t) (e : I' = u2 I a k x) : IX A T I' := h.f hT (boX.ar ht) e
def Chg (A : Nat → Prop) (T : Nat → Nat) (W : List (Nat × Nat)) (I : IT) (L : LT) (I' : IT) (L' : LT) : Prop := (∀ a, ¬ A a → I' a = I a ∧ L' a = L a) ∧ ∀ a k, T a < 20 → (T a, k) ∉ W → I' a k = I a k
theorem Chg.rf {A : Nat → Prop} {T : Nat → Nat} {W : List (Nat × Nat)} {I : IT} {L : LT} : Chg A T W I L I L := ⟨fun _ _ => ⟨rfl, rfl⟩, fun _ _ _ _ => rfl⟩
theorem Chg.tr {A : Nat → Prop} {T : Nat → Nat} {W W1 W2 : List (Nat × Nat)} {I I1 I2 : IT} {L L1 L2 : LT} (h : Chg A T W1 I L I1 L1) (g : Chg A T W2 I1 L1 I2 L2) (s1 : ∀ z ∈ W1, z ∈ W) (s2 : ∀ z ∈ W2, z ∈ W) : Chg A T W I L I2 L2 :=
  ⟨fun a ha => ⟨(g.1 a ha).1.trans (h.1 a ha).1, (g.1 a ha).2.trans (h.1 a ha).2⟩, fun a k ht hn => (g.2 a k ht (fun q => hn (s2 _ q))).trans (h.2 a k ht (fun q => hn (s1 _ q)))⟩
theorem Chg.mono {A : Nat → Prop} {T : Nat → Nat} {W W1 : List (Nat × Nat)} {I I1 : IT} {L L1 : LT} (h : Chg A T W1 I L I1 L1) (s1 : ∀ z ∈ W1, z ∈ W) : Chg A T W I L I1 L1 := ⟨h.1, fun a k ht hn => h.2 a k ht (fun q => hn (s1 _ q))⟩
theorem Chg.f {A : Nat → Prop} {T : Nat → Nat} {I I' : IT} {L : LT} {a t k : Nat} {x : Int32} (ha : A a) (hT : T a = t) (e : I' = u2 I a k x) : Chg A T [(t, k)] I L I' L := by
  subst e
  refine ⟨fun b hb => ⟨u2_r (fun q => hb (q ▸ ha)), rfl⟩, fun b j _ hn => if_neg (fun q => hn ?_)⟩
  rw [q.1, q.2, hT]; exact List.mem_cons_self
theorem Chg.a {A : Nat → Prop} {T : Nat → Nat} {I I' : IT} {L : LT} {a t k : Nat} {x : Int32} (ha : A a) (hT : T a = t) (h20 : 20 ≤ t) (e : I' = u2 I a k x) : Chg A T [] I L I' L := by
  subst e
  refine ⟨fun b hb => ⟨u2_r (fun q => hb (q ▸ ha)), rfl⟩, fun b j ht _ => if_neg (fun q => ?_)⟩
  rw [q.1, hT] at ht; omega
theorem Chg.l {A : Nat → Prop} {T : Nat → Nat} {I : IT} {L L' : LT} {a k : Nat} {x : Int64} (ha : A a) (e : L' = u2 L a k x) : Chg A T [] I L I L' := by
  subst e
  exact ⟨fun b hb => ⟨rfl, u2_r (fun q => hb (q ▸ ha))⟩, fun _ _ _ _ => rfl⟩
theorem Chg.cons {A : Nat → Prop} {T : Nat → Nat} {W W1 : List (Nat × Nat)} {I I1 I2 : IT} {L L1 L2 : LT} (h : Chg A T W1 I L I1 L1) (g : Chg A T W I1 L1 I2 L2) (s1 : ∀ z ∈ W1, z ∈ W) : Chg A T W I L I2 L2 := h.tr g s1 (fun _ h => h)
theorem Chg.fr {A : Nat → Prop} {T : Nat → Nat} {W : List (Nat × Nat)} {I I' : IT} {L L' : LT} (h : Chg A T W I L I' L') : Fr A I L I' L' := h.1
theorem Chg.k {A : Nat → Prop} {T : Nat → Nat} {W : List (Nat × Nat)} {I I' : IT} {L L' : LT} {b t k : Nat} {x : Int32} (h : Chg A T W I L I' L') (hT : T b = t) (ht : t < 20) (hn : (t, k) ∉ W) (e : I b k = x) : I' b k = x := (h.2 b k (by rw [hT]; exact ht) (by rw [hT]; exact hn)).trans e
theorem u2_j {α : Type} {f f' : Nat → Nat → α} {a k b j : Nat} {x y : α} (e : f' = u2 f a k x) (h : j ≠ k) (g : f b j = y) : f' b j = y := by subst e; exact (if_neg (fun q => h q.2)).trans g
theorem u2_n {α : Type} {f f' : Nat → Nat → α} {a k b j : Nat} {x y : α} (e : f' = u2 f a k x) (h : b ≠ a) (g : f b j = y) : f' b j = y := by subst e; exact (if_neg (fun q => h q.1)).trans g
theorem u2_v {α : Type} {f f' : Nat → Nat → α} {a k b j : Nat} {x : α} (e : f' = u2 f a k x) (g : f b j = x) : f' b j = x := by
  subst e
  by_cases q : b = a ∧ j = k
  · exact if_pos q
  · exact (if_neg q).trans g
theorem u2_e {α : Type} {f f' : Nat → Nat → α} {a k : Nat} {x : α} (e : f' = u2 f a k x) : f' a k = x := by subst e; exact u2_s
def pW (X : List Nat) (T N : Nat → Nat) (R : RT) (P1 : Po) (QX : IT → LT → Prop) : Po := fun o M => P1 o M ∨ ∃ e I L, e ∈ X ∧ o = .inr e ∧ M = (T, N, I, L, R) ∧ QX I L
theorem fb {α : Type} {P : α → Prop} {a : α} (h : P a) : ∀ b, some a = some b → P b := fun _ e => Option.some.inj e ▸ h
theorem fz {α : Type} {P : α → Prop} : ∀ b, (none : Option α) = some b → P b := fun _ e => nomatch e
def h_A (T N : Nat → Nat) (A : Nat → Prop) (t n b : Nat) : Prop := T b = t ∧ N b = n ∧ A b
def h_F (T N : Nat → Nat) (R : RT) (A : Nat → Prop) (r : Nat) : Prop := T r = 3 ∧ A r ∧ (∃ b, R r 1 = some b ∧ (h_A T N A 20 41) b)
def h_Sg (T N : Nat → Nat) (R : RT) (A : Nat → Prop) (r : Nat) : Prop := T r = 8 ∧ A r ∧ (∃ b, R r 0 = some b ∧ (h_A T N A 20 160) b) ∧ (∃ b, R r 1 = some b ∧ (h_A T N A 20 160) b)
def h_Tb (T N : Nat → Nat) (R : RT) (A : Nat → Prop) (r : Nat) : Prop := T r = 10 ∧ A r
def h_Row12 (T N : Nat → Nat) (R : RT) (A : Nat → Prop) (r : Nat) : Prop := T r = 23 ∧ N r = 12 ∧ A r ∧ ∀ j, j < 12 → ∃ f, R r j = some f ∧ (h_F T N R A) f
def h_Row16 (T N : Nat → Nat) (R : RT) (A : Nat → Prop) (r : Nat) : Prop := T r = 23 ∧ N r = 16 ∧ A r ∧ ∀ j, j < 16 → ∃ f, R r j = some f ∧ (h_F T N R A) f
def h_Row20 (T N : Nat → Nat) (R : RT) (A : Nat → Prop) (r : Nat) : Prop := T r = 23 ∧ N r = 20 ∧ A r ∧ ∀ j, j < 20 → ∃ f, R r j = some f ∧ (h_F T N R A) f
def h_Row40 (T N : Nat → Nat) (R : RT) (A : Nat → Prop) (r : Nat) : Prop := T r = 23 ∧ N r = 40 ∧ A r ∧ ∀ j, j < 40 → ∃ f, R r j = some f ∧ (h_F T N R A) f
def h_Tabs (T N : Nat → Nat) (R : RT) (A : Nat → Prop) (r : Nat) : Prop := T r = 24 ∧ N r = 8 ∧ A r ∧ ∀ j, j < 8 → ∃ f, R r j = some f ∧ (h_Tb T N R A) f
def h_Sgs (T N : Nat → Nat) (R : RT) (A : Nat → Prop) (r : Nat) : Prop := T r = 25 ∧ N r = 8 ∧ A r ∧ ∀ j, j < 8 → ∃ f, R r j = some f ∧ (h_Sg T N R A) f
def h_Held (T N : Nat → Nat) (R : RT) (A : Nat → Prop) (r : Nat) : Prop := T r = 26 ∧ N r = 8 ∧ A r ∧ ∀ j, j < 8 → ∃ f, R r j = some f ∧ (h_A T N A 20 492) f
def h_St (T N : Nat → Nat) (R : RT) (A : Nat → Prop) (r : Nat) : Prop := T r = 9 ∧ A r ∧ (∃ b, R r 6 = some b ∧ (h_A T N A 20 40) b) ∧ (∃ b, R r 7 = some b ∧ (h_Row40 T N R A) b) ∧ (∃ b, R r 8 = some b ∧ (h_Row16 T N R A) b) ∧ (∃ b, R r 9 = some b ∧ (h_Tabs T N R A) b) ∧ (∃ b, R r 10 = some b ∧ (h_Sgs T N R A) b)
def h_Rd (T N : Nat → Nat) (R : RT) (A : Nat → Prop) (r : Nat) : Prop := T r = 5 ∧ A r ∧ (∃ b, R r 0 = some b ∧ (h_Sg T N R A) b) ∧ (∃ b, R r 2 = some b ∧ (h_A T N A 20 400) b)
def h_Al (T N : Nat → Nat) (R : RT) (A : Nat → Prop) (r : Nat) : Prop := T r = 1 ∧ A r ∧ (∃ b, R r 0 = some b ∧ (h_St T N R A) b) ∧ (∃ b, R r 1 = some b ∧ (h_F T N R A) b) ∧ (∃ b, R r 2 = some b ∧ (h_F T N R A) b)
def h_Cc (T N : Nat → Nat) (R : RT) (A : Nat → Prop) (r : Nat) : Prop := T r = 2 ∧ A r ∧ (∃ b, R r 0 = some b ∧ (h_Al T N R A) b) ∧ (∃ b, R r 1 = some b ∧ (h_Row20 T N R A) b) ∧ (∃ b, R r 2 = some b ∧ (h_A T N A 20 20) b) ∧ (∃ b, R r 3 = some b ∧ (h_F T N R A) b) ∧ (∃ b, R r 4 = some b ∧ (h_F T N R A) b)
def h_Rw (T N : Nat → Nat) (R : RT) (A : Nat → Prop) (r : Nat) : Prop := T r = 6 ∧ A r ∧ (∃ b, R r 0 = some b ∧ (h_Al T N R A) b) ∧ (∃ b, R r 1 = some b ∧ (h_Cc T N R A) b) ∧ (∃ b, R r 2 = some b ∧ (h_Row12 T N R A) b) ∧ (∃ b, R r 3 = some b ∧ (h_Held T N R A) b) ∧ (∃ b, R r 4 = some b ∧ (h_A T N A 20 8) b) ∧ (∃ b, R r 5 = some b ∧ (h_A T N A 21 637) b)
def h_Se (T N : Nat → Nat) (R : RT) (A : Nat → Prop) (r : Nat) : Prop := T r = 7 ∧ A r ∧ (∃ b, R r 2 = some b ∧ (h_Al T N R A) b) ∧ (∃ b, R r 3 = some b ∧ (h_A T N A 20 400) b) ∧ (∃ b, R r 4 = some b ∧ (h_A T N A 20 9) b) ∧ (∃ b, R r 5 = some b ∧ (h_A T N A 20 400) b) ∧ (∃ b, R r 6 = some b ∧ (h_A T N A 20 400) b)
def h_Po (T N : Nat → Nat) (R : RT) (A : Nat → Prop) (r : Nat) : Prop := T r = 4 ∧ A r ∧ (∃ b, R r 1 = some b ∧ (h_Al T N R A) b) ∧ (∃ b, R r 2 = some b ∧ (h_A T N A 20 3) b) ∧ (∃ b, R r 3 = some b ∧ (h_A T N A 20 3) b) ∧ (∃ b, R r 4 = some b ∧ (h_A T N A 20 9) b) ∧ (∃ b, R r 5 = some b ∧ (h_A T N A 20 9) b)
def h_Wh (T N : Nat → Nat) (R : RT) (A : Nat → Prop) (r : Nat) : Prop := T r = 11 ∧ A r
def h_LF (T N : Nat → Nat) (R : RT) (A : Nat → Prop) (r : Nat) : Prop := T r = 12 ∧ A r ∧ (∃ b, R r 0 = some b ∧ (h_Rd T N R A) b) ∧ (∃ b, R r 1 = some b ∧ (h_St T N R A) b) ∧ (∃ b, R r 2 = some b ∧ (h_St T N R A) b) ∧ (∃ b, R r 5 = some b ∧ (h_Al T N R A) b) ∧ (∃ b, R r 6 = some b ∧ (h_Cc T N R A) b) ∧ (∃ b, R r 7 = some b ∧ (h_Rw T N R A) b) ∧ (∃ b, R r 8 = some b ∧ (h_Se T N R A) b) ∧ (∃ b, R r 9 = some b ∧ (h_Po T N R A) b) ∧ (∃ b, R r 10 = some b ∧ (h_Wh T N R A) b) ∧ (∃ b, R r 11 = some b ∧ (h_F T N R A) b) ∧ (∃ b, R r 12 = some b ∧ (h_F T N R A) b) ∧ (∃ b, R r 13 = some b ∧ (h_F T N R A) b)
section Auto
variable {d : Nat} {q : mm_T} {mc ms : Nat} {Post : Po} {V : V_T} {pc pc2 : Nat} {lv : List (Nat × Value)} {r : List Value} {ck sk : Nat} {T N : Nat → Nat} {I : IT} {L : LT} {R : RT}
theorem z_iconst (C : Cl d q mc ms Post V) {M : Mm} {z : Int} (hi : cdf q.2.2.2.2.2.2 pc = some (.iconst z, 1)) (hp : pc + 1 = pc2) (hv : (Int32.ofInt z).toInt = z) (h : ∀ x : Int32, x.toInt = z → V pc2 lv (.int x :: r) M ck sk) : V pc lv r M ck sk := k_iconst C hi hp rfl (h _ hv)
theorem z_bipush (C : Cl d q mc ms Post V) {M : Mm} {z : Int} (hi : cdf q.2.2.2.2.2.2 pc = some (.bipush z, 2)) (hp : pc + 2 = pc2) (hv : ((Int8.ofInt z).toInt32).toInt = z) (h : ∀ x : Int32, x.toInt = z → V pc2 lv (.int x :: r) M ck sk) : V pc lv r M ck sk := k_bipush C hi hp rfl (h _ hv)
theorem z_sipush (C : Cl d q mc ms Post V) {M : Mm} {z : Int} (hi : cdf q.2.2.2.2.2.2 pc = some (.sipush z, 3)) (hp : pc + 3 = pc2) (hv : ((Int16.ofInt z).toInt32).toInt = z) (h : ∀ x : Int32, x.toInt = z → V pc2 lv (.int x :: r) M ck sk) : V pc lv r M ck sk := k_sipush C hi hp rfl (h _ hv)
theorem z_ldc (C : Cl d q mc ms Post V) {M : Mm} {j : Nat} {y : Int32} (hi : cdf q.2.2.2.2.2.2 pc = some (.ldc j, 2)) (hp : pc + 2 = pc2) (hv : P_kc q.2.2.2.2.1 j = some y) (h : ∀ x : Int32, x.toInt = y.toInt → V pc2 lv (.int x :: r) M ck sk) : V pc lv r M ck sk := k_ldc C hi hp hv (h _ rfl)
theorem z_ldc_w (C : Cl d q mc ms Post V) {M : Mm} {j : Nat} {y : Int32} (hi : cdf q.2.2.2.2.2.2 pc = some (.ldc_w j, 3)) (hp : pc + 3 = pc2) (hv : P_kc q.2.2.2.2.1 j = some y) (h : ∀ x : Int32, x.toInt = y.toInt → V pc2 lv (.int x :: r) M ck sk) : V pc lv r M ck sk := k_ldc_w C hi hp hv (h _ rfl)
theorem z_iadd (C : Cl d q mc ms Post V) {M : Mm} {x y : Int32} (hi : cdf q.2.2.2.2.2.2 pc = some (.iadd, 1)) (hp : pc + 1 = pc2) (b : -2147483648 ≤ x.toInt + y.toInt ∧ x.toInt + y.toInt ≤ 2147483647) (h : ∀ w : Int32, w.toInt = x.toInt + y.toInt → V pc2 lv (.int w :: r) M ck sk) : V pc lv (.int y :: .int x :: r) M ck sk := k_iadd C hi hp (h _ (ii_add ⟨b.1, by omega⟩))
theorem zt_iadd (C : Cl d q mc ms Post V) {M : Mm} {x y : Int32} (hi : cdf q.2.2.2.2.2.2 pc = some (.iadd, 1)) (hp : pc + 1 = pc2) (h : ∀ w : Int32, V pc2 lv (.int w :: r) M ck sk) : V pc lv (.int y :: .int x :: r) M ck sk := k_iadd C hi hp (h _)
theorem z_isub (C : Cl d q mc ms Post V) {M : Mm} {x y : Int32} (hi : cdf q.2.2.2.2.2.2 pc = some (.isub, 1)) (hp : pc + 1 = pc2) (b : -2147483648 ≤ x.toInt - y.toInt ∧ x.toInt - y.toInt ≤ 2147483647) (h : ∀ w : Int32, w.toInt = x.toInt - y.toInt → V pc2 lv (.int w :: r) M ck sk) : V pc lv (.int y :: .int x :: r) M ck sk := k_isub C hi hp (h _ (ii_sub ⟨b.1, by omega⟩))
theorem zt_isub (C : Cl d q mc ms Post V) {M : Mm} {x y : Int32} (hi : cdf q.2.2.2.2.2.2 pc = some (.isub, 1)) (hp : pc + 1 = pc2) (h : ∀ w : Int32, V pc2 lv (.int w :: r) M ck sk) : V pc lv (.int y :: .int x :: r) M ck sk := k_isub C hi hp (h _)
theorem zt_imul (C : Cl d q mc ms Post V) {M : Mm} {x y : Int32} (hi : cdf q.2.2.2.2.2.2 pc = some (.imul, 1)) (hp : pc + 1 = pc2) (h : ∀ w : Int32, V pc2 lv (.int w :: r) M ck sk) : V pc lv (.int y :: .int x :: r) M ck sk := k_imul C hi hp (h _)
theorem z_imulR (C : Cl d q mc ms Post V) {M : Mm} {x y : Int32} {c : Int} (hi : cdf q.2.2.2.2.2.2 pc = some (.imul, 1)) (hp : pc + 1 = pc2) (hy : y.toInt = c) (b : -2147483648 ≤ x.toInt * c ∧ x.toInt * c ≤ 2147483647) (h : ∀ w : Int32, w.toInt = x.toInt * c → V pc2 lv (.int w :: r) M ck sk) : V pc lv (.int y :: .int x :: r) M ck sk := k_imul C hi hp (h _ (by rw [ii_mul (by rw [hy]; omega), hy]))
theorem z_imulL (C : Cl d q mc ms Post V) {M : Mm} {x y : Int32} {c : Int} (hi : cdf q.2.2.2.2.2.2 pc = some (.imul, 1)) (hp : pc + 1 = pc2) (hx : x.toInt = c) (b : -2147483648 ≤ c * y.toInt ∧ c * y.toInt ≤ 2147483647) (h : ∀ w : Int32, w.toInt = c * y.toInt → V pc2 lv (.int w :: r) M ck sk) : V pc lv (.int y :: .int x :: r) M ck sk := k_imul C hi hp (h _ (by rw [ii_mul (by rw [hx]; omega), hx]))
theorem zt_iand (C : Cl d q mc ms Post V) {M : Mm} {x y : Int32} (hi : cdf q.2.2.2.2.2.2 pc = some (.iand, 1)) (hp : pc + 1 = pc2) (h : ∀ w : Int32, V pc2 lv (.int w :: r) M ck sk) : V pc lv (.int y :: .int x :: r) M ck sk := k_iand C hi hp (h _)
theorem zt_ior (C : Cl d q mc ms Post V) {M : Mm} {x y : Int32} (hi : cdf q.2.2.2.2.2.2 pc = some (.ior, 1)) (hp : pc + 1 = pc2) (h : ∀ w : Int32, V pc2 lv (.int w :: r) M ck sk) : V pc lv (.int y :: .int x :: r) M ck sk := k_ior C hi hp (h _)
theorem zt_ishl (C : Cl d q mc ms Post V) {M : Mm} {x y : Int32} (hi : cdf q.2.2.2.2.2.2 pc = some (.ishl, 1)) (hp : pc + 1 = pc2) (h : ∀ w : Int32, V pc2 lv (.int w :: r) M ck sk) : V pc lv (.int y :: .int x :: r) M ck sk := k_ishl C hi hp (h _)
theorem zt_ishr (C : Cl d q mc ms Post V) {M : Mm} {x y : Int32} (hi : cdf q.2.2.2.2.2.2 pc = some (.ishr, 1)) (hp : pc + 1 = pc2) (h : ∀ w : Int32, V pc2 lv (.int w :: r) M ck sk) : V pc lv (.int y :: .int x :: r) M ck sk := k_ishr C hi hp (h _)
theorem zt_iushr (C : Cl d q mc ms Post V) {M : Mm} {x y : Int32} (hi : cdf q.2.2.2.2.2.2 pc = some (.iushr, 1)) (hp : pc + 1 = pc2) (h : ∀ w : Int32, V pc2 lv (.int w :: r) M ck sk) : V pc lv (.int y :: .int x :: r) M ck sk := k_iushr C hi hp (h _)
theorem z_ishr1 (C : Cl d q mc ms Post V) {M : Mm} {x y : Int32} (hi : cdf q.2.2.2.2.2.2 pc = some (.ishr, 1)) (hp : pc + 1 = pc2) (hy : y.toInt = 1) (hx : 0 ≤ x.toInt) (h : ∀ w : Int32, w.toInt = x.toInt / 2 → V pc2 lv (.int w :: r) M ck sk) : V pc lv (.int y :: .int x :: r) M ck sk := k_ishr C hi hp (h _ (shr1 hy hx))
theorem zt_idiv (C : Cl d q mc ms Post V) {M : Mm} {x y : Int32} (hi : cdf q.2.2.2.2.2.2 pc = some (.idiv, 1)) (hp : pc + 1 = pc2) (hy : y.toInt ≠ 0) (h : ∀ w : Int32, V pc2 lv (.int w :: r) M ck sk) : V pc lv (.int y :: .int x :: r) M ck sk := k_idiv C hi hp (i_ne0 hy) (h _)
theorem zt_irem (C : Cl d q mc ms Post V) {M : Mm} {x y : Int32} (hi : cdf q.2.2.2.2.2.2 pc = some (.irem, 1)) (hp : pc + 1 = pc2) (hy : y.toInt ≠ 0) (h : ∀ w : Int32, V pc2 lv (.int w :: r) M ck sk) : V pc lv (.int y :: .int x :: r) M ck sk := k_irem C hi hp (i_ne0 hy) (h _)
theorem z_idivR (C : Cl d q mc ms Post V) {M : Mm} {x y : Int32} {c : Int} (hi : cdf q.2.2.2.2.2.2 pc = some (.idiv, 1)) (hp : pc + 1 = pc2) (hy : y.toInt = c) (hc : 0 < c) (hx : 0 ≤ x.toInt) (h : ∀ w : Int32, w.toInt = x.toInt / c → V pc2 lv (.int w :: r) M ck sk) : V pc lv (.int y :: .int x :: r) M ck sk := k_idiv C hi hp (i_ne0 (by omega)) (h _ (by rw [Int32.toInt_div_of_ne_right x y (by rintro rfl; rw [show (-1 : Int32).toInt = -1 from rfl] at hy; omega), hy, Int.tdiv_eq_ediv_of_nonneg hx]))
theorem z_iremR (C : Cl d q mc ms Post V) {M : Mm} {x y : Int32} {c : Int} (hi : cdf q.2.2.2.2.2.2 pc = some (.irem, 1)) (hp : pc + 1 = pc2) (hy : y.toInt = c) (hc : 0 < c) (hx : 0 ≤ x.toInt) (h : ∀ w : Int32, w.toInt = x.toInt % c → V pc2 lv (.int w :: r) M ck sk) : V pc lv (.int y :: .int x :: r) M ck sk := k_irem C hi hp (i_ne0 (by omega)) (h _ (by rw [i_rem (by omega), hy, Int.tmod_eq_emod_of_nonneg hx]))
theorem zt_ineg (C : Cl d q mc ms Post V) {M : Mm} {x : Int32} (hi : cdf q.2.2.2.2.2.2 pc = some (.ineg, 1)) (hp : pc + 1 = pc2) (h : ∀ w : Int32, V pc2 lv (.int w :: r) M ck sk) : V pc lv (.int x :: r) M ck sk := k_ineg C hi hp (h _)
theorem z_ineg (C : Cl d q mc ms Post V) {M : Mm} {x : Int32} (hi : cdf q.2.2.2.2.2.2 pc = some (.ineg, 1)) (hp : pc + 1 = pc2) (b : -2147483647 ≤ x.toInt) (h : ∀ w : Int32, w.toInt = -x.toInt → V pc2 lv (.int w :: r) M ck sk) : V pc lv (.int x :: r) M ck sk := k_ineg C hi hp (h _ (by have h1 := ii_sub (x := 0) (y := x) (by have := rg x; have e0 : (0 : Int32).toInt = 0 := rfl; omega); have e0 : (0 : Int32).toInt = 0 := rfl; rw [show -x = 0 - x from by simp, h1]; omega))
theorem zt_l2i (C : Cl d q mc ms Post V) {M : Mm} {x : Int64} (hi : cdf q.2.2.2.2.2.2 pc = some (.l2i, 1)) (hp : pc + 1 = pc2) (h : ∀ w : Int32, V pc2 lv (.int w :: r) M ck sk) : V pc lv (.long x :: r) M ck sk := k_l2i C hi hp (h _)
theorem zt_lcmp (C : Cl d q mc ms Post V) {M : Mm} {x y : Int64} (hi : cdf q.2.2.2.2.2.2 pc = some (.lcmp, 1)) (hp : pc + 1 = pc2) (h : ∀ w : Int32, V pc2 lv (.int w :: r) M ck sk) : V pc lv (.long y :: .long x :: r) M ck sk := k_lcmp C hi hp (h _)
theorem b_icmp_eq (C : Cl d q mc ms Post V) {M : Mm} {off : Int} {t : Nat} {x y : Int32} (hi : cdf q.2.2.2.2.2.2 pc = some (.if_icmp .eq off, 3)) (ht : (pc : Int) + off = (t : Int)) (hp : pc + 3 = pc2) (h1 : x.toInt = y.toInt → V t lv r M ck sk) (h2 : x.toInt ≠ y.toInt → V pc2 lv r M ck sk) : V pc lv (.int y :: .int x :: r) M ck sk := k_icmp_eq C hi ht hp (fun c9 => h1 (congrArg Int32.toInt c9)) (fun c9 => h2 (fun e => c9 (Int32.toInt_inj.mp e)))
theorem b_if_eq (C : Cl d q mc ms Post V) {M : Mm} {off : Int} {t : Nat} {x : Int32} (hi : cdf q.2.2.2.2.2.2 pc = some (.ifCond .eq off, 3)) (ht : (pc : Int) + off = (t : Int)) (hp : pc + 3 = pc2) (h1 : x.toInt = (0 : Int) → V t lv r M ck sk) (h2 : x.toInt ≠ (0 : Int) → V pc2 lv r M ck sk) : V pc lv (.int x :: r) M ck sk := k_if_eq C hi ht hp (fun c9 => h1 (congrArg Int32.toInt c9)) (fun c9 => h2 (fun e => c9 (Int32.toInt_inj.mp e)))
theorem b_icmp_ne (C : Cl d q mc ms Post V) {M : Mm} {off : Int} {t : Nat} {x y : Int32} (hi : cdf q.2.2.2.2.2.2 pc = some (.if_icmp .ne off, 3)) (ht : (pc : Int) + off = (t : Int)) (hp : pc + 3 = pc2) (h1 : x.toInt ≠ y.toInt → V t lv r M ck sk) (h2 : x.toInt = y.toInt → V pc2 lv r M ck sk) : V pc lv (.int y :: .int x :: r) M ck sk := k_icmp_ne C hi ht hp (fun c9 => h1 (fun e => c9 (Int32.toInt_inj.mp e))) (fun c9 => h2 (congrArg Int32.toInt (Classical.not_not.mp c9)))
theorem b_if_ne (C : Cl d q mc ms Post V) {M : Mm} {off : Int} {t : Nat} {x : Int32} (hi : cdf q.2.2.2.2.2.2 pc = some (.ifCond .ne off, 3)) (ht : (pc : Int) + off = (t : Int)) (hp : pc + 3 = pc2) (h1 : x.toInt ≠ (0 : Int) → V t lv r M ck sk) (h2 : x.toInt = (0 : Int) → V pc2 lv r M ck sk) : V pc lv (.int x :: r) M ck sk := k_if_ne C hi ht hp (fun c9 => h1 (fun e => c9 (Int32.toInt_inj.mp e))) (fun c9 => h2 (congrArg Int32.toInt (Classical.not_not.mp c9)))
theorem b_icmp_lt (C : Cl d q mc ms Post V) {M : Mm} {off : Int} {t : Nat} {x y : Int32} (hi : cdf q.2.2.2.2.2.2 pc = some (.if_icmp .lt off, 3)) (ht : (pc : Int) + off = (t : Int)) (hp : pc + 3 = pc2) (h1 : x.toInt < y.toInt → V t lv r M ck sk) (h2 : y.toInt ≤ x.toInt → V pc2 lv r M ck sk) : V pc lv (.int y :: .int x :: r) M ck sk := k_icmp_lt C hi ht hp (fun c9 => h1 (Int32.lt_iff_toInt_lt.mp c9)) (fun c9 => h2 (by have := mt Int32.lt_iff_toInt_lt.mpr c9; omega))
theorem b_if_lt (C : Cl d q mc ms Post V) {M : Mm} {off : Int} {t : Nat} {x : Int32} (hi : cdf q.2.2.2.2.2.2 pc = some (.ifCond .lt off, 3)) (ht : (pc : Int) + off = (t : Int)) (hp : pc + 3 = pc2) (h1 : x.toInt < (0 : Int) → V t lv r M ck sk) (h2 : (0 : Int) ≤ x.toInt → V pc2 lv r M ck sk) : V pc lv (.int x :: r) M ck sk := k_if_lt C hi ht hp (fun c9 => h1 (Int32.lt_iff_toInt_lt.mp c9)) (fun c9 => h2 (by have := mt Int32.lt_iff_toInt_lt.mpr c9; have e0 : (0 : Int32).toInt = 0 := rfl; omega))
theorem b_icmp_ge (C : Cl d q mc ms Post V) {M : Mm} {off : Int} {t : Nat} {x y : Int32} (hi : cdf q.2.2.2.2.2.2 pc = some (.if_icmp .ge off, 3)) (ht : (pc : Int) + off = (t : Int)) (hp : pc + 3 = pc2) (h1 : y.toInt ≤ x.toInt → V t lv r M ck sk) (h2 : x.toInt < y.toInt → V pc2 lv r M ck sk) : V pc lv (.int y :: .int x :: r) M ck sk := k_icmp_ge C hi ht hp (fun c9 => h1 (Int32.le_iff_toInt_le.mp c9)) (fun c9 => h2 (by have := mt Int32.le_iff_toInt_le.mpr c9; omega))
theorem b_if_ge (C : Cl d q mc ms Post V) {M : Mm} {off : Int} {t : Nat} {x : Int32} (hi : cdf q.2.2.2.2.2.2 pc = some (.ifCond .ge off, 3)) (ht : (pc : Int) + off = (t : Int)) (hp : pc + 3 = pc2) (h1 : (0 : Int) ≤ x.toInt → V t lv r M ck sk) (h2 : x.toInt < (0 : Int) → V pc2 lv r M ck sk) : V pc lv (.int x :: r) M ck sk := k_if_ge C hi ht hp (fun c9 => h1 (Int32.le_iff_toInt_le.mp c9)) (fun c9 => h2 (by have := mt Int32.le_iff_toInt_le.mpr c9; have e0 : (0 : Int32).toInt = 0 := rfl; omega))
theorem b_icmp_gt (C : Cl d q mc ms Post V) {M : Mm} {off : Int} {t : Nat} {x y : Int32} (hi : cdf q.2.2.2.2.2.2 pc = some (.if_icmp .gt off, 3)) (ht : (pc : Int) + off = (t : Int)) (hp : pc + 3 = pc2) (h1 : y.toInt < x.toInt → V t lv r M ck sk) (h2 : x.toInt ≤ y.toInt → V pc2 lv r M ck sk) : V pc lv (.int y :: .int x :: r) M ck sk := k_icmp_gt C hi ht hp (fun c9 => h1 (Int32.lt_iff_toInt_lt.mp c9)) (fun c9 => h2 (by have := mt Int32.lt_iff_toInt_lt.mpr c9; omega))
theorem b_if_gt (C : Cl d q mc ms Post V) {M : Mm} {off : Int} {t : Nat} {x : Int32} (hi : cdf q.2.2.2.2.2.2 pc = some (.ifCond .gt off, 3)) (ht : (pc : Int) + off = (t : Int)) (hp : pc + 3 = pc2) (h1 : (0 : Int) < x.toInt → V t lv r M ck sk) (h2 : x.toInt ≤ (0 : Int) → V pc2 lv r M ck sk) : V pc lv (.int x :: r) M ck sk := k_if_gt C hi ht hp (fun c9 => h1 (Int32.lt_iff_toInt_lt.mp c9)) (fun c9 => h2 (by have := mt Int32.lt_iff_toInt_lt.mpr c9; have e0 : (0 : Int32).toInt = 0 := rfl; omega))
theorem b_icmp_le (C : Cl d q mc ms Post V) {M : Mm} {off : Int} {t : Nat} {x y : Int32} (hi : cdf q.2.2.2.2.2.2 pc = some (.if_icmp .le off, 3)) (ht : (pc : Int) + off = (t : Int)) (hp : pc + 3 = pc2) (h1 : x.toInt ≤ y.toInt → V t lv r M ck sk) (h2 : y.toInt < x.toInt → V pc2 lv r M ck sk) : V pc lv (.int y :: .int x :: r) M ck sk := k_icmp_le C hi ht hp (fun c9 => h1 (Int32.le_iff_toInt_le.mp c9)) (fun c9 => h2 (by have := mt Int32.le_iff_toInt_le.mpr c9; omega))
theorem b_if_le (C : Cl d q mc ms Post V) {M : Mm} {off : Int} {t : Nat} {x : Int32} (hi : cdf q.2.2.2.2.2.2 pc = some (.ifCond .le off, 3)) (ht : (pc : Int) + off = (t : Int)) (hp : pc + 3 = pc2) (h1 : x.toInt ≤ (0 : Int) → V t lv r M ck sk) (h2 : (0 : Int) < x.toInt → V pc2 lv r M ck sk) : V pc lv (.int x :: r) M ck sk := k_if_le C hi ht hp (fun c9 => h1 (Int32.le_iff_toInt_le.mp c9)) (fun c9 => h2 (by have := mt Int32.le_iff_toInt_le.mpr c9; have e0 : (0 : Int32).toInt = 0 := rfl; omega))
theorem z_gI (C : Cl d q mc ms Post V) {j a ci k : Nat} (hi : cdf q.2.2.2.2.2.2 pc = some (.getfield j, 3)) (hp : pc + 3 = pc2) (hf : P_fl q.2.2.2.2.1 j = some (ci, k)) (ht : T a = ci + 1) (hk : kt (P_ty ci k) = 0) (h : ∀ x : Int32, I a k = x → V pc2 lv (.int x :: r) (T, N, I, L, R) ck sk) : V pc lv (.ref a :: r) (T, N, I, L, R) ck sk := g_I C hi hp hf ht hk rfl (h _ rfl)
theorem z_pI (C : Cl d q mc ms Post V) {j a ci k : Nat} {x : Int32} (hi : cdf q.2.2.2.2.2.2 pc = some (.putfield j, 3)) (hp : pc + 3 = pc2) (hf : P_fl q.2.2.2.2.1 j = some (ci, k)) (ht : T a = ci + 1) (hn : q.1.name = "<init>" ∧ q.2.2.2.2.1 = ci ∨ ((vwCl[ci]?).map (fun r => (r.2.1 k).2.2.2)) = some false) (hy : P_ty ci k = .int) (h : ∀ I1 : IT, I1 = u2 I a k x → V pc2 lv r (T, N, I1, L, R) ck sk) : V pc lv (.int x :: .ref a :: r) (T, N, I, L, R) ck sk := p_I C hi hp hf ht hn hy (h _ rfl)
theorem z_pZ (C : Cl d q mc ms Post V) {j a ci k : Nat} {x : Int32} (hi : cdf q.2.2.2.2.2.2 pc = some (.putfield j, 3)) (hp : pc + 3 = pc2) (hf : P_fl q.2.2.2.2.1 j = some (ci, k)) (ht : T a = ci + 1) (hn : q.1.name = "<init>" ∧ q.2.2.2.2.1 = ci ∨ ((vwCl[ci]?).map (fun r => (r.2.1 k).2.2.2)) = some false) (hy : P_ty ci k = .boolean) (hx : x = 0 ∨ x = 1) (h : ∀ I1 : IT, I1 = u2 I a k x → V pc2 lv r (T, N, I1, L, R) ck sk) : V pc lv (.int x :: .ref a :: r) (T, N, I, L, R) ck sk := p_Z C hi hp hf ht hn hy hx (h _ rfl)
theorem z_aI (C : Cl d q mc ms Post V) {a n : Nat} {j : Int32} (hi : cdf q.2.2.2.2.2.2 pc = some (.iaload, 1)) (hp : pc + 1 = pc2) (ht : T a = 20) (hN : N a = n) (h0 : 0 ≤ j.toInt) (h1 : j.toInt < (n : Int)) (h : ∀ x : Int32, I a j.toNatClampNeg = x → V pc2 lv (.int x :: r) (T, N, I, L, R) ck sk) : V pc lv (.int j :: .ref a :: r) (T, N, I, L, R) ck sk := a_I C hi hp ht (by rw [hN]; exact vpi h0 h1) rfl (h _ rfl)
theorem z_aB (C : Cl d q mc ms Post V) {a n : Nat} {j : Int32} (hi : cdf q.2.2.2.2.2.2 pc = some (.baload, 1)) (hp : pc + 1 = pc2) (ht : T a = 22) (hN : N a = n) (h0 : 0 ≤ j.toInt) (h1 : j.toInt < (n : Int)) (h : ∀ x : Int32, I a j.toNatClampNeg = x → V pc2 lv (.int x :: r) (T, N, I, L, R) ck sk) : V pc lv (.int j :: .ref a :: r) (T, N, I, L, R) ck sk := a_B C hi hp ht (by rw [hN]; exact vpi h0 h1) rfl (h _ rfl)
theorem z_aR (C : Cl d q mc ms Post V) {P : Nat → Prop} {a t n : Nat} {j : Int32} (hi : cdf q.2.2.2.2.2.2 pc = some (.aaload, 1)) (hp : pc + 1 = pc2) (h4 : t < 4) (ht : T a = 23 + t) (hN : N a = n) (he : ∀ j, j < n → ∃ f, R a j = some f ∧ P f) (h0 : 0 ≤ j.toInt) (h1 : j.toInt < (n : Int)) (h : ∀ b, P b → V pc2 lv (.ref b :: r) (T, N, I, L, R) ck sk) : V pc lv (.int j :: .ref a :: r) (T, N, I, L, R) ck sk := by
  obtain ⟨f, f1, f2⟩ := he j.toNatClampNeg (ncn h0 h1)
  exact a_R C hi hp h4 ht (by rw [hN]; exact vpi h0 h1) f1 (h f f2)
theorem z_sI (C : Cl d q mc ms Post V) {a n : Nat} {j x : Int32} (hi : cdf q.2.2.2.2.2.2 pc = some (.iastore, 1)) (hp : pc + 1 = pc2) (ht : T a = 20) (hN : N a = n) (h0 : 0 ≤ j.toInt) (h1 : j.toInt < (n : Int)) (h : ∀ I1 : IT, I1 = u2 I a j.toNatClampNeg (x) → V pc2 lv r (T, N, I1, L, R) ck sk) : V pc lv (.int x :: .int j :: .ref a :: r) (T, N, I, L, R) ck sk := s_I C hi hp ht (by rw [hN]; exact vpi h0 h1) rfl (h _ rfl)
theorem z_sB (C : Cl d q mc ms Post V) {a n : Nat} {j x : Int32} (hi : cdf q.2.2.2.2.2.2 pc = some (.bastore, 1)) (hp : pc + 1 = pc2) (ht : T a = 22) (hN : N a = n) (h0 : 0 ≤ j.toInt) (h1 : j.toInt < (n : Int)) (h : ∀ I1 : IT, I1 = u2 I a j.toNatClampNeg (x.toInt8.toInt32) → V pc2 lv r (T, N, I1, L, R) ck sk) : V pc lv (.int x :: .int j :: .ref a :: r) (T, N, I, L, R) ck sk := s_B C hi hp ht (by rw [hN]; exact vpi h0 h1) rfl (h _ rfl)
theorem z_len (C : Cl d q mc ms Post V) {a n : Nat} (hi : cdf q.2.2.2.2.2.2 pc = some (.arraylength, 1)) (hp : pc + 1 = pc2) (ht : 20 ≤ T a) (hN : N a = n) (hn : n < 2147483648) (h : ∀ x : Int32, x.toInt = (n : Int) → V pc2 lv (.int x :: r) (T, N, I, L, R) ck sk) : V pc lv (.ref a :: r) (T, N, I, L, R) ck sk := a_N C hi hp ht hN (h _ (n_int hn))
theorem z_lconst (C : Cl d q mc ms Post V) {M : Mm} {z : Fin 2} {y : Int} (hi : cdf q.2.2.2.2.2.2 pc = some (.lconst z, 1)) (hp : pc + 1 = pc2) (hv : (Int64.ofNat (z : Nat)).toInt = y) (h : ∀ x : Int64, x.toInt = y → V pc2 lv (.long x :: r) M ck sk) : V pc lv r M ck sk := k_lconst C hi hp rfl (h _ hv)
theorem z_i2l (C : Cl d q mc ms Post V) {M : Mm} {x : Int32} (hi : cdf q.2.2.2.2.2.2 pc = some (.i2l, 1)) (hp : pc + 1 = pc2) (h : ∀ w : Int64, w.toInt = x.toInt → V pc2 lv (.long w :: r) M ck sk) : V pc lv (.int x :: r) M ck sk := k_i2l C hi hp (h _ (i2l_eq x))
theorem zt_ladd (C : Cl d q mc ms Post V) {M : Mm} {x y : Int64} (hi : cdf q.2.2.2.2.2.2 pc = some (.ladd, 1)) (hp : pc + 1 = pc2) (h : ∀ w : Int64, V pc2 lv (.long w :: r) M ck sk) : V pc lv (.long y :: .long x :: r) M ck sk := k_ladd C hi hp (h _)
theorem zt_lmul (C : Cl d q mc ms Post V) {M : Mm} {x y : Int64} (hi : cdf q.2.2.2.2.2.2 pc = some (.lmul, 1)) (hp : pc + 1 = pc2) (h : ∀ w : Int64, V pc2 lv (.long w :: r) M ck sk) : V pc lv (.long y :: .long x :: r) M ck sk := k_lmul C hi hp (h _)
theorem l_nez {x : Int64} (h : x.toInt ≠ 0) : ¬ x = 0 := fun e => h (by rw [e]; rfl)
theorem zt_lrem (C : Cl d q mc ms Post V) {M : Mm} {x y : Int64} (hi : cdf q.2.2.2.2.2.2 pc = some (.lrem, 1)) (hp : pc + 1 = pc2) (hy : y.toInt ≠ 0) (h : ∀ w : Int64, V pc2 lv (.long w :: r) M ck sk) : V pc lv (.long y :: .long x :: r) M ck sk := k_lrem C hi hp (l_nez hy) (h _)
theorem z_iinc (C : Cl d q mc ms Post V) {M : Mm} {j : Nat} {z : Int} {x : Int32} {lw : Int32 → List (Nat × Value)} (hi : cdf q.2.2.2.2.2.2 pc = some (.iinc j z, 3)) (hp : pc + 3 = pc2) (hl : lk lv j = some (.int x)) (hj : j < q.2.2.1) (hz : (Int32.ofInt z).toInt = z) (b : -2147483648 ≤ x.toInt + z ∧ x.toInt + z ≤ 2147483647) (hw : ∀ w, s1 lv j (.int w) = lw w) (h : ∀ w : Int32, w.toInt = x.toInt + z → V pc2 (lw w) r M ck sk) : V pc lv r M ck sk := k_iinc C hi hp hl hj rfl (hw _) (h _ (by rw [ii_add (by rw [hz]; omega), hz]))
theorem zt_iinc (C : Cl d q mc ms Post V) {M : Mm} {j : Nat} {z : Int} {x : Int32} {lw : Int32 → List (Nat × Value)} (hi : cdf q.2.2.2.2.2.2 pc = some (.iinc j z, 3)) (hp : pc + 3 = pc2) (hl : lk lv j = some (.int x)) (hj : j < q.2.2.1) (hw : ∀ w, s1 lv j (.int w) = lw w) (h : ∀ w : Int32, V pc2 (lw w) r M ck sk) : V pc lv r M ck sk := k_iinc C hi hp hl hj rfl (hw _) (h _)
theorem w_VI (C : Cl d q mc ms Post V) {j k na : Nat} {b : Nat} {as st9 : List Value} {mc' ms' ck2 sk2 : Nat} {X : List Nat} {Q : Int32 → IT → LT → Prop} {QX : IT → LT → Prop} (hE : Ex d k (.ref b :: as) (T, N, I, L, R) mc' ms' (pW X T N R (pI T N R Q) QX)) (hi : cdf q.2.2.2.2.2.2 pc = some (.invokevirtual j, 3)) (hp : pc + 3 = pc2) (hm : P_mt q.2.2.2.2.1 j = some (0, k, na)) (hs : st9 = as.reverse ++ .ref b :: r) (hl : as.length = na) (hy : ∃ y, P_mq k = some y ∧ y.2.2.2.2.2.1 = [] ∧ T b = y.2.2.2.2.1 + 1 ∧ y.2.2.2.2.1 < 13) (h1 : ck + mc' = ck2) (h2 : sk + ms' = sk2) (h3 : ck2 ≤ mc) (h4 : sk2 ≤ ms) (hc : (r.map fun v => v.category).sum ≤ 8) (h5 : ∀ e ∈ X, e < 5) (hx : ∀ e ∈ X, ∀ I1 L1, QX I1 L1 → ((q.2.2.2.2.2.1 = [] ∧ Post (.inr e) (T, N, I1, L1, R)) ∨ ∃ ph, hnd q pc e = some ph ∧ ∀ z, V ph lv [.ref z] (T, N, I1, L1, R) ck2 sk2)) (h : ∀ x I1 L1, Q x I1 L1 → V pc2 lv (.int x :: r) (T, N, I1, L1, R) ck2 sk2) : V pc lv st9 (T, N, I, L, R) ck sk := k_callV C hi hp hm hs hl hy hE h1 h2 h3 h4 hc (fun v M1 h9 => by rcases h9 with h9 | ⟨e, I1, L1, e1, e2, e3, e4⟩; (· obtain ⟨x, I1, L1, e1, e2, e3⟩ := h9; cases e1; subst e2; exact h x I1 L1 e3); (· cases e2)) (fun e M1 h9 => by rcases h9 with h9 | ⟨e0, I1, L1, e1, e2, e3, e4⟩; (· obtain ⟨x, I1, L1, e1, e2, e3⟩ := h9; cases e1); (· cases e2; subst e3; exact ⟨h5 _ e1, hx _ e1 I1 L1 e4⟩))
theorem w_VR (C : Cl d q mc ms Post V) {j k na : Nat} {b : Nat} {as st9 : List Value} {mc' ms' ck2 sk2 : Nat} {X : List Nat} {Q : Option Nat → IT → LT → Prop} {QX : IT → LT → Prop} (hE : Ex d k (.ref b :: as) (T, N, I, L, R) mc' ms' (pW X T N R (pR T N R Q) QX)) (hi : cdf q.2.2.2.2.2.2 pc = some (.invokevirtual j, 3)) (hp : pc + 3 = pc2) (hm : P_mt q.2.2.2.2.1 j = some (0, k, na)) (hs : st9 = as.reverse ++ .ref b :: r) (hl : as.length = na) (hy : ∃ y, P_mq k = some y ∧ y.2.2.2.2.2.1 = [] ∧ T b = y.2.2.2.2.1 + 1 ∧ y.2.2.2.2.1 < 13) (h1 : ck + mc' = ck2) (h2 : sk + ms' = sk2) (h3 : ck2 ≤ mc) (h4 : sk2 ≤ ms) (hc : (r.map fun v => v.category).sum ≤ 8) (h5 : ∀ e ∈ X, e < 5) (hx : ∀ e ∈ X, ∀ I1 L1, QX I1 L1 → ((q.2.2.2.2.2.1 = [] ∧ Post (.inr e) (T, N, I1, L1, R)) ∨ ∃ ph, hnd q pc e = some ph ∧ ∀ z, V ph lv [.ref z] (T, N, I1, L1, R) ck2 sk2)) (h : ∀ x I1 L1, Q x I1 L1 → V pc2 lv (va_rf x :: r) (T, N, I1, L1, R) ck2 sk2) : V pc lv st9 (T, N, I, L, R) ck sk := k_callV C hi hp hm hs hl hy hE h1 h2 h3 h4 hc (fun v M1 h9 => by rcases h9 with h9 | ⟨e, I1, L1, e1, e2, e3, e4⟩; (· obtain ⟨x, I1, L1, e1, e2, e3⟩ := h9; cases e1; subst e2; exact h x I1 L1 e3); (· cases e2)) (fun e M1 h9 => by rcases h9 with h9 | ⟨e0, I1, L1, e1, e2, e3, e4⟩; (· obtain ⟨x, I1, L1, e1, e2, e3⟩ := h9; cases e1); (· cases e2; subst e3; exact ⟨h5 _ e1, hx _ e1 I1 L1 e4⟩))
end Auto
end
