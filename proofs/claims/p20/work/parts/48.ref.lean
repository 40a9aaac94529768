/-! the reference in any state: what is told, acts -/
def FRM (I : IT) (w f : Nat) (k D p : Int) : Prop := (I w (6 + 10 * f)).toInt = D ∧ ∀ i : Nat, (i : Int) < k → -p < (I w (6 + 10 * f + 1 + i)).toInt ∧ (I w (6 + 10 * f + 1 + i)).toInt < p
theorem FRM.z {I I' : IT} {w : Nat} {j x f k : Int32} {D p : Int} (e : I' = u2 I w j.toNatClampNeg x) (hf : 0 ≤ f.toInt) (hj : j.toInt = 6 + 10 * f.toInt) (hx : x.toInt = D) (hk : k.toInt = 0) : FRM I' w f.toNatClampNeg k.toInt D p := by
  subst e
  have f1 := ncz hf
  have j1 := ncz (x := j) (by omega)
  refine ⟨?_, fun i hi => by omega⟩
  rw [show 6 + 10 * f.toNatClampNeg = j.toNatClampNeg from by omega, u2_s]; exact hx
theorem FRM.s {I I' : IT} {w : Nat} {j x f k k' : Int32} {D p : Int} (h : FRM I w f.toNatClampNeg k.toInt D p) (e : I' = u2 I w j.toNatClampNeg x) (hf : 0 ≤ f.toInt) (h0 : 0 ≤ k.toInt) (h8 : k.toInt ≤ 8) (hj : j.toInt = 6 + 10 * f.toInt + 1 + k.toInt) (hk : k'.toInt = k.toInt + 1) (h1 : -p < x.toInt) (h2 : x.toInt < p) : FRM I' w f.toNatClampNeg k'.toInt D p := by
  subst e
  have f1 := ncz hf
  have k1 := ncz h0
  have j1 := ncz (x := j) (by omega)
  refine ⟨by rw [u2_k (by omega)]; exact h.1, fun i hi => ?_⟩
  by_cases q : 6 + 10 * f.toNatClampNeg + 1 + i = j.toNatClampNeg
  · rw [q, u2_s]; exact ⟨h1, h2⟩
  · rw [u2_k q]; exact h.2 i (by omega)
theorem FRM.e {I : IT} {w f : Nat} {k D p q : Int} (h : FRM I w f k D p) (i : Nat) (hi : (i : Int) ≤ (I w (6 + 10 * f)).toInt) (hk : D < k) (e : q = p) : -q < (I w (6 + 10 * f + 1 + i)).toInt ∧ (I w (6 + 10 * f + 1 + i)).toInt < q := by
  rw [h.1] at hi; rw [e]; exact h.2 i (by omega)
