/-! WHOLE FORMS are reduced: the state as eight longs -/
abbrev S8 : Type := Nat → Int64
def nOf (s : S8) : Int64 := Int64.ofInt ((s 0 - s 1).toInt / (2 * s 0).toInt)
def shS (s : S8) : S8 := fun k => match k with
  | 0 => s 0
  | 1 => s 1 + 2 * s 0 * nOf s
  | 2 => s 2 + nOf s * (s 0 * nOf s + s 1)
  | 3 => s 3 + 1
  | 4 => s 4
  | 5 => s 5 + nOf s * s 4
  | 6 => s 6
  | 7 => s 7 + nOf s * s 6
  | _ => 0
def swS (s : S8) : S8 := fun k => match k with
  | 0 => s 2
  | 1 => -s 1
  | 2 => s 0
  | 3 => s 3 + 1
  | 4 => s 5
  | 5 => -s 4
  | 6 => s 7
  | 7 => -s 6
  | _ => 0
def wide (s : S8) : Prop := s 0 < s 1 ∨ s 1 ≤ -s 0
def turned (s : S8) : Prop := s 2 < s 0 ∨ (s 0 = s 2 ∧ s 1 < 0)
def wideD (s : S8) : Decidable (wide s) := inferInstanceAs (Decidable (s 0 < s 1 ∨ s 1 ≤ -s 0))
def turnedD (s : S8) : Decidable (turned s) := inferInstanceAs (Decidable (s 2 < s 0 ∨ (s 0 = s 2 ∧ s 1 < 0)))
def sh1 (s : S8) : S8 := @ite _ (wide s) (wideD s) (shS s) s
def sw1 (s : S8) : S8 := @ite _ (turned s) (turnedD s) (swS s) s
def red (s : S8) : Prop := ¬ wide s ∧ ¬ turned s
def redD (s : S8) : Decidable (red s) := @instDecidableAnd _ _ (@instDecidableNot _ (wideD s)) (@instDecidableNot _ (turnedD s))
def run : Nat → S8 → S8
  | 0, s => s
  | n + 1, s => @ite _ (red s) (redD s) s (run n (sw1 (sh1 s)))
theorem run_done {s : S8} (h : red s) : ∀ n, run n s = s
  | 0 => rfl
  | n + 1 => by unfold run; rw [if_pos h]
theorem run_step {s : S8} (h : ¬ red s) (n : Nat) : run (n + 1) s = run n (sw1 (sh1 s)) := by
  show @ite _ (red s) (redD s) s (run n (sw1 (sh1 s))) = _
  rw [if_neg h]
theorem sh1_y {s : S8} (h : wide s) : sh1 s = shS s := by unfold sh1; rw [if_pos h]
theorem sh1_n {s : S8} (h : ¬ wide s) : sh1 s = s := by unfold sh1; rw [if_neg h]
theorem sw1_y {s : S8} (h : turned s) : sw1 s = swS s := by unfold sw1; rw [if_pos h]
theorem sw1_n {s : S8} (h : ¬ turned s) : sw1 s = s := by unfold sw1; rw [if_neg h]
theorem bdm {x y X Y : Int} (hx : -X ≤ x ∧ x ≤ X) (hy : -Y ≤ y ∧ y ≤ Y) : -(X * Y) ≤ x * y ∧ x * y ≤ X * Y := by
  have h1 : x.natAbs ≤ X.toNat := by omega
  have h2 : y.natAbs ≤ Y.toNat := by omega
  have h3 : (x * y).natAbs ≤ X.toNat * Y.toNat := by rw [Int.natAbs_mul]; exact Nat.mul_le_mul h1 h2
  have h4 : ((X.toNat * Y.toNat : Nat) : Int) = X * Y := by rw [Int.natCast_mul, Int.toNat_of_nonneg (by omega), Int.toNat_of_nonneg (by omega)]
  omega
/-- bounds that hold all along -/
def JJ (K : Int) (s : S8) : Prop := (1 ≤ (s 0).toInt ∧ (s 0).toInt ≤ 999) ∧ (-999 ≤ (s 1).toInt ∧ (s 1).toInt ≤ 999) ∧ (1 ≤ (s 2).toInt ∧ (s 2).toInt ≤ 2000000) ∧ (s 1).toInt * (s 1).toInt - 4 * ((s 0).toInt * (s 2).toInt) = -K
theorem sq_bd {x X : Int} (h : -X ≤ x ∧ x ≤ X) : 0 ≤ x * x ∧ x * x ≤ X * X := ⟨by rcases Int.le_total 0 x with q | q; exact Int.mul_nonneg q q; exact Int.mul_nonneg_of_nonpos_of_nonpos q q, (bdm h h).2⟩
theorem two_mul_int {x : Int64} (h : -1000000 ≤ x.toInt ∧ x.toInt ≤ 1000000) : (2 * x).toInt = 2 * x.toInt := li_mul (by show _ ≤ (2 : Int) * _ ∧ (2 : Int) * _ < _; omega)
theorem nOf_int {K : Int} {s : S8} (h : JJ K s) : (nOf s).toInt = ((s 0).toInt - (s 1).toInt) / (2 * (s 0).toInt) ∧ -2000 ≤ (nOf s).toInt ∧ (nOf s).toInt ≤ 2000 := by
  obtain ⟨h0, h1, h2, h3⟩ := h
  have e1 : (s 0 - s 1).toInt = (s 0).toInt - (s 1).toInt := li_sub (by omega)
  have e2 : (2 * s 0).toInt = 2 * (s 0).toInt := two_mul_int (by omega)
  have b1 : -2000 ≤ ((s 0).toInt - (s 1).toInt) / (2 * (s 0).toInt) := Int.le_ediv_of_mul_le (by omega) (by omega)
  have b2 : ((s 0).toInt - (s 1).toInt) / (2 * (s 0).toInt) < 2000 := Int.ediv_lt_of_lt_mul (by omega) (by omega)
  have e3 : (nOf s).toInt = ((s 0).toInt - (s 1).toInt) / (2 * (s 0).toInt) := by
    unfold nOf; rw [e1, e2, Int64.toInt_ofInt_of_le (by omega) (by omega)]
  omega
theorem sh_int {K : Int} (hK : 0 < K ∧ K ≤ 4000000) {s : S8} (h : JJ K s) : JJ K (shS s) ∧ (shS s 0).toInt = (s 0).toInt ∧ -(s 0).toInt < (shS s 1).toInt ∧ (shS s 1).toInt ≤ (s 0).toInt := by
  obtain ⟨n1, n2, n3⟩ := nOf_int h
  obtain ⟨h0, h1, h2, h3⟩ := h
  have hn := Int.mul_ediv_add_emod ((s 0).toInt - (s 1).toInt) (2 * (s 0).toInt)
  have hr1 := Int.emod_nonneg ((s 0).toInt - (s 1).toInt) (show 2 * (s 0).toInt ≠ 0 by omega)
  have hr2 := Int.emod_lt_of_pos ((s 0).toInt - (s 1).toInt) (show 0 < 2 * (s 0).toInt by omega)
  rw [← n1] at hn
  generalize ((s 0).toInt - (s 1).toInt) % (2 * (s 0).toInt) = r at hn hr1 hr2
  generalize hnn : nOf s = n at n1 n2 n3 hn
  have e2 : (2 * s 0).toInt = 2 * (s 0).toInt := two_mul_int (by omega)
  have m1 := bdm (x := 2 * (s 0).toInt) (y := n.toInt) (X := 2000) (Y := 2000) (by omega) (by omega)
  have e3 : (2 * s 0 * n).toInt = 2 * (s 0).toInt * n.toInt := by rw [li_mul (by rw [e2]; omega), e2]
  have hb : (s 1 + 2 * s 0 * n).toInt = (s 1).toInt + 2 * (s 0).toInt * n.toInt := by rw [li_add (by rw [e3]; omega), e3]
  have m2 := bdm (x := (s 0).toInt) (y := n.toInt) (X := 1000) (Y := 2000) (by omega) (by omega)
  have e4 : (s 0 * n).toInt = (s 0).toInt * n.toInt := li_mul (by omega)
  have e5 : (s 0 * n + s 1).toInt = (s 0).toInt * n.toInt + (s 1).toInt := by rw [li_add (by rw [e4]; omega), e4]
  have m3 := bdm (x := n.toInt) (y := (s 0).toInt * n.toInt + (s 1).toInt) (X := 2000) (Y := 2001000) (by omega) (by omega)
  have e6 : (n * (s 0 * n + s 1)).toInt = n.toInt * ((s 0).toInt * n.toInt + (s 1).toInt) := by rw [li_mul (by rw [e5]; omega), e5]
  have hc : (s 2 + n * (s 0 * n + s 1)).toInt = (s 2).toInt + n.toInt * ((s 0).toInt * n.toInt + (s 1).toInt) := by rw [li_add (by rw [e6]; omega), e6]
  have b0 : shS s 0 = s 0 := rfl
  have b1 : shS s 1 = s 1 + 2 * s 0 * n := by rw [← hnn]; rfl
  have b2 : shS s 2 = s 2 + n * (s 0 * n + s 1) := by rw [← hnn]; rfl
  have hdisc : ((s 1).toInt + 2 * (s 0).toInt * n.toInt) * ((s 1).toInt + 2 * (s 0).toInt * n.toInt) - 4 * ((s 0).toInt * ((s 2).toInt + n.toInt * ((s 0).toInt * n.toInt + (s 1).toInt))) = -K := by
    rw [← h3]; grind
  have hbb : -(s 0).toInt < (s 1).toInt + 2 * (s 0).toInt * n.toInt ∧ (s 1).toInt + 2 * (s 0).toInt * n.toInt ≤ (s 0).toInt := by omega
  have sq := sq_bd (x := (s 1).toInt + 2 * (s 0).toInt * n.toInt) (X := 999) (by omega)
  have hc1 : 1 ≤ (s 2).toInt + n.toInt * ((s 0).toInt * n.toInt + (s 1).toInt) := by
    rcases Int.lt_or_le 0 ((s 2).toInt + n.toInt * ((s 0).toInt * n.toInt + (s 1).toInt)) with q | q
    · omega
    · have := Int.mul_nonpos_of_nonneg_of_nonpos (show 0 ≤ (s 0).toInt by omega) q
      omega
  have hc2 : (s 2).toInt + n.toInt * ((s 0).toInt * n.toInt + (s 1).toInt) ≤ 2000000 := by
    have := Int.mul_le_mul_of_nonneg_right (show 1 ≤ (s 0).toInt by omega) (show 0 ≤ (s 2).toInt + n.toInt * ((s 0).toInt * n.toInt + (s 1).toInt) by omega)
    omega
  refine ⟨⟨?_, ?_, ?_, ?_⟩, ?_, ?_, ?_⟩
  · rw [b0]; exact h0
  · rw [b1, hb]; omega
  · rw [b2, hc]; exact ⟨hc1, hc2⟩
  · rw [b0, b1, b2, hb, hc]; exact hdisc
  · rw [b0]
  · rw [b1, hb]; exact hbb.1
  · rw [b1, hb]; exact hbb.2
theorem neg_int {x : Int64} (h : -3000000 ≤ x.toInt ∧ x.toInt ≤ 3000000) : (-x).toInt = -x.toInt := by
  rw [Int64.toInt_neg]; exact Int.bmod_eq_of_le (by omega) (by omega)
theorem wide_int {K : Int} {s : S8} (h : JJ K s) : wide s ↔ ((s 0).toInt < (s 1).toInt ∨ (s 1).toInt ≤ -(s 0).toInt) := by
  unfold wide; rw [l_lt, l_le, neg_int (by have := h.1; omega)]
theorem turned_int {s : S8} : turned s ↔ ((s 2).toInt < (s 0).toInt ∨ ((s 0).toInt = (s 2).toInt ∧ (s 1).toInt < 0)) := by
  unfold turned; rw [l_lt, l_lt, ← Int64.toInt_inj]; rfl
theorem stp_int {K : Int} (hK : 0 < K ∧ K ≤ 4000000) {s : S8} (h : JJ K s) (hr : ¬ red s) : JJ K (sh1 s) ∧ JJ K (sw1 (sh1 s)) ∧ (red (sw1 (sh1 s)) ∨ (sw1 (sh1 s) 0).toInt < (s 0).toInt) := by
  have h1 : JJ K (sh1 s) ∧ (sh1 s 0).toInt = (s 0).toInt ∧ -(s 0).toInt < (sh1 s 1).toInt ∧ (sh1 s 1).toInt ≤ (s 0).toInt := by
    by_cases hw : wide s
    · rw [sh1_y hw]; exact sh_int hK h
    · rw [sh1_n hw]
      have hq : ¬ ((s 0).toInt < (s 1).toInt ∨ (s 1).toInt ≤ -(s 0).toInt) := fun q => hw ((wide_int h).mpr q)
      exact ⟨h, rfl, by omega, by omega⟩
  obtain ⟨j1, a1, b1, b2⟩ := h1
  refine ⟨j1, ?_⟩
  generalize sh1 s = u at j1 a1 b1 b2
  have hnw : ¬ wide u := fun q => by have := (wide_int j1).mp q; omega
  by_cases ht : turned u
  · rw [sw1_y ht]
    obtain ⟨k0, k1, k2, k3⟩ := j1
    have e0 : swS u 0 = u 2 := rfl
    have e1 : swS u 1 = -u 1 := rfl
    have e2 : swS u 2 = u 0 := rfl
    have en : (-u 1).toInt = -(u 1).toInt := neg_int (by omega)
    have ht2 := turned_int.mp ht
    have hj : JJ K (swS u) := by
      refine ⟨?_, ?_, ?_, ?_⟩
      · rw [e0]; omega
      · rw [e1, en]; omega
      · rw [e2]; omega
      · rw [e0, e1, e2, en, Int.neg_mul_neg, Int.mul_comm (u 2).toInt]; exact k3
    refine ⟨hj, ?_⟩
    rcases Int.lt_or_le (u 2).toInt (u 0).toInt with q | q
    · right; rw [e0]; omega
    · left
      refine ⟨fun w => ?_, fun w => ?_⟩
      · have := (wide_int hj).mp w
        rw [e0, e1, en] at this; omega
      · have := turned_int.mp w
        rw [e0, e1, e2, en] at this; omega
  · rw [sw1_n ht]; exact ⟨j1, Or.inl ⟨hnw, ht⟩⟩
theorem c_ring (a b c n : Int64) : a * n * n + b * n + c = c + n * (a * n + b) := by grind
theorem j1_ring (x y n : Int64) : x * n + y * 1 = y + n * x := by grind
theorem j0_ring (x y : Int64) : x * 1 + y * 0 = x := by grind
theorem s0_ring (x y : Int64) : x * 0 + y * 1 = y := by grind
theorem s1_ring (x y : Int64) : x * (-1) + y * 0 = -x := by grind
