/-! the reference in any state: signs told -/
theorem Hgt.z {g : Nat → Int32} {x : Int32} (h : x.toInt = 0) : Hgt g 3606 x.toNatClampNeg = 0 := by rw [nck (x := x) (n := 0) h]; rfl
def CPS (g : Nat → Int32) (b : Nat) (n : Int) : Prop := ∀ i : Nat, (i : Int) < n → g (b + i) = g (3606 + i)
theorem CPS.z {g : Nat → Int32} {b : Nat} {x : Int32} (h : x.toInt = 0) : CPS g b x.toInt := fun i hi => by omega
theorem CPS.s {I I' : IT} {w : Nat} {j r s k k' v : Int32} (h : CPS (I w) (198 + 401 * s.toNatClampNeg) k.toInt) (e : I' = u2 I w j.toNatClampNeg v) (o : I w r.toNatClampNeg = v) (hs : 0 ≤ s.toInt ∧ s.toInt ≤ 7) (h0 : 0 ≤ k.toInt ∧ k.toInt ≤ 400) (hj : j.toInt = 198 + 401 * s.toInt + k.toInt) (hr : r.toInt = 3606 + k.toInt) (hk : k'.toInt = k.toInt + 1) : CPS (I' w) (198 + 401 * s.toNatClampNeg) k'.toInt := fun i hi => by
  subst e
  have s1 := ncz hs.1
  have k1 := ncz h0.1
  have j1 := ncz (x := j) (by omega)
  have r1 := ncz (x := r) (by omega)
  rw [u2_k (show 3606 + i ≠ j.toNatClampNeg by omega)]
  by_cases q : i = k.toNatClampNeg
  · rw [show 198 + 401 * s.toNatClampNeg + i = j.toNatClampNeg from by omega, u2_s, ← o]; congr 1; omega
  · rw [u2_k (by omega)]; exact h i (by omega)
theorem SGN.w {I I' : IT} {w : Nat} {j v : Int32} (h : SGN (I w) 3606) (e : I' = u2 I w j.toNatClampNeg v) (h0 : 0 ≤ j.toInt) (hj : j.toInt ≤ 3605) : SGN (I' w) 3606 := by
  subst e
  have j1 := ncz h0
  exact h.eq (fun k h1 _ => u2_k (by omega))
theorem WOK.sg {I : IT} {w : Nat} {j x s : Int32} (h : WOK (I w)) (hs : (I w 3).toInt ≤ s.toInt) (hs7 : s.toInt ≤ 7) (hj : 198 + 401 * s.toInt ≤ j.toInt ∧ j.toInt ≤ 198 + 401 * s.toInt + 400) : WOK (u2 I w j.toNatClampNeg x w) := by
  obtain ⟨a1, a2, a3, a4, a5, a6, a7⟩ := h
  have c3 := a2.2.2.1
  have j1 := ncz (x := j) (by omega)
  have e : ∀ i : Nat, (i < 198 ∨ 3406 ≤ i) → u2 I w j.toNatClampNeg x w i = I w i := fun i hi => u2_k (by omega)
  refine ⟨a1.eq (e 0 (by omega)), a2.eq (fun i _ hi => e i (by omega)), a3.eq (fun i hi _ => e i (by omega)), a4.eq a2 a3 (e 0 (by omega)) (e 1 (by omega)) (fun i hi _ => e i (by omega)), a5.eq (fun i hi _ => e i (by omega)), fun t ht => ?_, a7.eq (fun i hi _ => e i (by omega))⟩
  rw [e 3 (by omega)] at ht
  exact (a6 t ht).eq (fun k h1 h2 => u2_k (by omega))
