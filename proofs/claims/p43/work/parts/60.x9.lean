/-! signs told, look, at, det, told: exactly -/
def DON (x D : Int) (f : Nat → Int) (k : Int) : Prop := (k = -1 → x = D) ∧ (k ≠ -1 → (k < 0 ∨ D < k) → x = -1) ∧ (0 ≤ k → k ≤ D → x = f k.toNat)
/-- a value by Horner's way: k of the numbers used -/
def HRV (x y : Int) (f : Nat → Int) : Nat → Int
  | 0 => 0
  | k + 1 => HRV x y f k * x + f k * POW y k
def WRT2 (s w p x y : Int) (f : Nat → Int) (k : Int) : Prop := PmE p s (HRV x y f k.toNat) ∧ PmE p w (POW y k.toNat)
theorem WRT2.z {s w p x y k : Int} {f : Nat → Int} (hs : s = 0) (hw : w = 1) (hk : k = 0) : WRT2 s w p x y f k := by
  subst hs; subst hw; subst hk
  exact ⟨PmE.rf, PmE.rf⟩
theorem WRT2.s {s w s' w' a u v t u2 k k' x y : Int32} {p D : Int} {f : Nat → Int} {l l2 : Int64} (h : WRT2 s.toInt w.toInt p x.toInt y.toInt f k.toInt) (g : GTD a.toInt D f k.toInt) (m1 : MXD u s x) (m2 : MXD v a w) (ad : ADX t u v) (el : l.toInt = t.toInt) (o1 : s'.toInt = l.toInt % p) (m3 : MXD u2 w y) (el2 : l2.toInt = u2.toInt) (o2 : w'.toInt = l2.toInt % p) (bs : 0 ≤ s.toInt ∧ s.toInt ≤ 18) (bw : 0 ≤ w.toInt ∧ w.toInt ≤ 18) (bx : 0 ≤ x.toInt ∧ x.toInt ≤ 18) (bb : 0 ≤ y.toInt ∧ y.toInt ≤ 18) (hf : ∀ j : Nat, (j : Int) ≤ D → 0 ≤ f j ∧ f j ≤ 18) (h0 : 0 ≤ k.toInt) (h1 : k.toInt ≤ D) (hk : k'.toInt = k.toInt + 1) : WRT2 s'.toInt w'.toInt p x.toInt y.toInt f k'.toInt := by
  have n0 := ncz h0
  have ga : a.toInt = f k.toNatClampNeg := g.i h0 h1
  have ba := hf k.toNatClampNeg (by omega)
  have q1 := m1 (by omega) (by omega) (by omega) (by omega)
  have q2 := m2 (by omega) (by omega) (by omega) (by omega)
  have q3 := m3 (by omega) (by omega) (by omega) (by omega)
  have r1 := mul_ab (u := s.toInt) (v := x.toInt) (by omega) (by omega) (by omega) (by omega)
  have r2 := mul_ab (u := a.toInt) (v := w.toInt) (by omega) (by omega) (by omega) (by omega)
  have q4 := ad (by omega) (by omega)
  have ek : k'.toInt.toNat = k.toInt.toNat + 1 := by omega
  unfold WRT2
  rw [ek, o1, el, q4, q1, q2, o2, el2, q3, ga]
  have e0 : k.toInt.toNat = k.toNatClampNeg := rfl
  rw [e0]
  have h1 : PmE p s.toInt (HRV x.toInt y.toInt f k.toNatClampNeg) := h.1
  have h2 : PmE p w.toInt (POW y.toInt k.toNatClampNeg) := h.2
  exact ⟨(PmE.em _).tr ((h1.ml PmE.rf).ad (PmE.rf.ml h2)), (PmE.em _).tr (h2.ml PmE.rf)⟩
theorem WRT2.e {s w p x y k D : Int} {f : Nat → Int} (h : WRT2 s w p x y f k) (hk : k = D + 1) : PmE p s (HRV x y f (D + 1).toNat) := by subst hk; exact h.1
