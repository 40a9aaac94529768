/-! the reference in any state: signs told -/
theorem Hgt.z {g : Nat → Int32} {x : Int32} (h : x.toInt = 0) : Hgt g 3606 x.toNatClampNeg = 0 := by rw [nck (x := x) (n := 0) h]; rfl
theorem WOK.drn {I : IT} {w n : Nat} {x : Int32} (h : WOK (I w)) (hn : 3606 ≤ n) : WOK (u2 I w n x w) := h.eq (fun k hk => u2_k (by omega))
theorem SGN.dr {I I' : IT} {w : Nat} {g : Nat → Int32} {s : Int32} (h : PD g s.toInt) (hg : I w = g) (e : I' = u2 I w 3606 s) (h0 : 0 ≤ s.toInt) (h1 : s.toInt ≤ 199) : SGN (I' w) 3606 := by
  subst e
  have hc : ∀ k : Nat, 3607 ≤ k → u2 I w 3606 s w k = g k := fun k hk => by rw [← hg]; exact u2_k (by omega)
  refine ⟨by rw [u2_s]; exact h0, by rw [u2_s]; exact h1, fun j hj => ?_⟩
  rw [u2_s] at hj
  rw [hc _ (by omega), hc _ (by omega), Hgt.eq (g := g) j (fun i hi => hc _ (by omega))]
  exact h j hj
def CPS (g : Nat → Int32) (b : Nat) (n : Int) : Prop := ∀ i : Nat, (i : Int) < n → g (b + i) = g (3606 + i)
theorem CPS.z {g : Nat → Int32} {b : Nat} {x : Int32} (h : x.toInt = 0) : CPS g b x.toInt := fun i hi => by omega
theorem CPS.s {I I' : IT} {w : Nat} {j r s k k' v : Int32} (h : CPS (I w) (198 + 401 * s.toNatClampNeg) k.toInt) (e : I' = u2 I w j.toNatClampNeg v) (o : I w r.toNatClampNeg = v) (hs : 0 ≤ s.toInt ∧ s.toInt ≤ 7) (h0 : 0 ≤ k.toInt ∧ k.toInt ≤ 400) (hj : j.toInt = 198 + 401 * s.toInt + k.toInt) (hr : r.toInt = 3606 + k.toInt) (hk : k'.toInt = k.toInt + 1) : CPS (I' w) (198 + 401 * s.toNatClampNeg) k'.toInt := fun i hi => by
  subst e
  have s1 := ncz hs.1
  have k1 := ncz h0.1
  have j1 := ncz (x := j) (by omega)
  have r1 := ncz (x := r) (by omega)
  rw [u2_k (show 3606 + i ≠ j.toNatClampNeg by omega)]
  by_cases q : i = k.toNatClampNeg
  · rw [show 198 + 401 * s.toNatClampNeg + i = j.toNatClampNeg from by omega, u2_s, ← o]; congr 1; omega
  · rw [u2_k (by omega)]; exact h i (by omega)
theorem SGN.w {I I' : IT} {w : Nat} {j v : Int32} (h : SGN (I w) 3606) (e : I' = u2 I w j.toNatClampNeg v) (h0 : 0 ≤ j.toInt) (hj : j.toInt ≤ 3605) : SGN (I' w) 3606 := by
  subst e
  have j1 := ncz h0
  exact h.eq (fun k h1 _ => u2_k (by omega))
theorem SGN.cp {g : Nat → Int32} {b : Nat} {n : Int} (h : SGN g 3606) (c : CPS g b n) (hn : 401 ≤ n) : SGN g b := by
  have e : ∀ i : Nat, i ≤ 400 → g (b + i) = g (3606 + i) := fun i hi => c i (by omega)
  have h0 := e 0 (by omega)
  obtain ⟨h1, h2, h3⟩ := h
  have hH : ∀ j : Nat, j ≤ 199 → Hgt g b j = Hgt g 3606 j := fun j => by
    induction j with
    | zero => intro _; rfl
    | succ j ih =>
      intro hj
      show Hgt g b j + _ = Hgt g 3606 j + _
      rw [ih (by omega), show b + 1 + 2 * j = b + (1 + 2 * j) from by omega, e _ (by omega), show 3606 + (1 + 2 * j) = 3606 + 1 + 2 * j from by omega]
  refine ⟨by rw [show b = b + 0 from rfl, h0]; exact h1, by rw [show b = b + 0 from rfl, h0]; exact h2, fun j hj => ?_⟩
  rw [show g b = g 3606 from h0] at hj
  rw [hH j (by omega), show b + 1 + 2 * j = b + (1 + 2 * j) from by omega, e _ (by omega), show 3606 + (1 + 2 * j) = 3606 + 1 + 2 * j from by omega, show b + 2 + 2 * j = b + (2 + 2 * j) from by omega, e _ (by omega), show 3606 + (2 + 2 * j) = 3606 + 2 + 2 * j from by omega]
  exact h3 j hj
theorem WOK.sg {I : IT} {w : Nat} {j x s : Int32} (h : WOK (I w)) (hs : (I w 3).toInt ≤ s.toInt) (hs7 : s.toInt ≤ 7) (hj : 198 + 401 * s.toInt ≤ j.toInt ∧ j.toInt ≤ 198 + 401 * s.toInt + 400) : WOK (u2 I w j.toNatClampNeg x w) := by
  obtain ⟨a1, a2, a3, a4, a5, a6, a7⟩ := h
  have c3 := a2.2.2.1
  have j1 := ncz (x := j) (by omega)
  have e : ∀ i : Nat, (i < 198 ∨ 3406 ≤ i) → u2 I w j.toNatClampNeg x w i = I w i := fun i hi => u2_k (by omega)
  refine ⟨a1.eq (e 0 (by omega)), a2.eq (fun i _ hi => e i (by omega)), a3.eq (fun i hi _ => e i (by omega)), a4.eq a2 a3 (e 0 (by omega)) (e 1 (by omega)) (fun i hi _ => e i (by omega)), a5.eq (fun i hi _ => e i (by omega)), fun t ht => ?_, a7.eq (fun i hi _ => e i (by omega))⟩
  rw [e 3 (by omega)] at ht
  exact (a6 t ht).eq (fun k h1 h2 => u2_k (by omega))
