-- 44.ref.lean.txt
section
/-! the reference in any state: rows of values -/
end
-- 45.ref.lean.txt
section
/-! the reference in any state: what lies in common -/
end
-- 46.ref.lean.txt
section
/-! the reference in any state: what lies in common, quotients -/
end
-- 47.wld.lean.txt
section
/-! the world of the reference: what a write keeps -/
theorem Hgt.eq {g g' : Nat → Int32} {b : Nat} : ∀ j : Nat, (∀ i : Nat, i < j → g' (b + 1 + 2 * i) = g (b + 1 + 2 * i)) → Hgt g' b j = Hgt g b j
  | 0, _ => rfl
  | j + 1, h => by
    show Hgt g' b j + _ = Hgt g b j + _
    rw [Hgt.eq j (fun i hi => h i (by omega)), h j (by omega)]
theorem SGN.eq {g g' : Nat → Int32} {b : Nat} (h : SGN g b) (e : ∀ k : Nat, b ≤ k → k ≤ b + 400 → g' k = g k) : SGN g' b := by
  obtain ⟨h1, h2, h3⟩ := h
  have e0 := e b (by omega) (by omega)
  refine ⟨by rw [e0]; exact h1, by rw [e0]; exact h2, fun j hj => ?_⟩
  rw [e0] at hj
  rw [e (b + 1 + 2 * j) (by omega) (by omega), e (b + 2 + 2 * j) (by omega) (by omega), Hgt.eq j (fun i hi => e _ (by omega) (by omega))]
  exact h3 j hj
theorem WO1.eq {g g' : Nat → Int32} (h : WO1 g) (e : g' 0 = g 0) : WO1 g' := by unfold WO1 at *; rw [e]; exact h
theorem WO2.eq {g g' : Nat → Int32} (h : WO2 g) (e : ∀ k : Nat, 1 ≤ k → k < 6 → g' k = g k) : WO2 g' := by
  unfold WO2 at *; rw [e 1 (by omega) (by omega), e 2 (by omega) (by omega), e 3 (by omega) (by omega), e 4 (by omega) (by omega), e 5 (by omega) (by omega)]; exact h
theorem WO3.eq {g g' : Nat → Int32} (h : WO3 g) (e : ∀ k : Nat, 6 ≤ k → k < 166 → g' k = g k) : WO3 g' := fun f hf => by
  rw [e _ (by omega) (by omega)]
  exact ⟨(h f hf).1, (h f hf).2.1, fun k hk => by rw [e _ (by omega) (by omega)]; exact (h f hf).2.2 k hk⟩
theorem WO4.eq {g g' : Nat → Int32} (h : WO4 g) (h2 : WO2 g) (h3 : WO3 g) (e0 : g' 0 = g 0) (e1 : g' 1 = g 1) (e : ∀ k : Nat, 6 ≤ k → k < 166 → g' k = g k) : WO4 g' := fun f hf k hk => by
  rw [e1] at hf
  have a1 := h2.1
  rw [e (6 + 10 * f) (by omega) (by omega)] at hk
  have a3 := h3 f (by omega)
  rw [e (6 + 10 * f + 1 + k) (by omega) (by omega), e0]; exact h f hf k hk
theorem WO5.eq {g g' : Nat → Int32} (h : WO5 g) (e : ∀ k : Nat, 166 ≤ k → k < 198 → g' k = g k) : WO5 g' := fun t ht => by rw [e _ (by omega) (by omega)]; exact h t ht
theorem WO6.eq {g g' : Nat → Int32} (h : WO6 g) (h2 : WO2 g) (e3 : g' 3 = g 3) (e : ∀ k : Nat, 198 ≤ k → k < 3406 → g' k = g k) : WO6 g' := fun s hs => by
  rw [e3] at hs
  have a1 := h2.2.2.1
  exact (h s hs).eq (fun k h1 h3 => e k (by omega) (by omega))
theorem WO7.eq {g g' : Nat → Int32} (h : WO7 g) (e : ∀ k : Nat, 3406 ≤ k → k < 3606 → g' k = g k) : WO7 g' := fun a ha => by
  rw [e _ (by omega) (by omega)]
  exact ⟨(h a ha).1, (h a ha).2.1, fun j h1 h2 => by rw [e _ (by omega) (by omega)]; exact (h a ha).2.2 j h1 h2⟩
theorem WOK.eq {g g' : Nat → Int32} (h : WOK g) (e : ∀ k : Nat, k < 3606 → g' k = g k) : WOK g' := by
  obtain ⟨h1, h2, h3, h4, h5, h6, h7⟩ := h
  exact ⟨h1.eq (e 0 (by omega)), h2.eq (fun k _ hk => e k (by omega)), h3.eq (fun k _ hk => e k (by omega)), h4.eq h2 h3 (e 0 (by omega)) (e 1 (by omega)) (fun k _ hk => e k (by omega)), h5.eq (fun k _ hk => e k (by omega)), h6.eq h2 (e 3 (by omega)) (fun k _ hk => e k (by omega)), h7.eq (fun k _ hk => e k (by omega))⟩
theorem WOS.eq {g g' : Nat → Int32} (h : WOS g) (e : ∀ k : Nat, k < 3606 → g' k = g k) : WOS g' := ⟨h.1.eq e, by rw [e 4 (by omega), e 5 (by omega)]; exact h.2⟩
def SGC (g : Nat → Int32) (j : Nat) : Prop := 0 ≤ (g (3606 + 1 + 2 * j)).toInt ∧ (g (3606 + 1 + 2 * j)).toInt ≤ 5 ∧ 0 ≤ (g (3606 + 2 + 2 * j)).toInt ∧ (g (3606 + 2 + 2 * j)).toInt ≤ 999 ∧ 0 ≤ Hgt g 3606 j ∧ Hgt g 3606 j ≤ 40 ∧ ((g (3606 + 1 + 2 * j)).toInt ≤ 1 → Hgt g 3606 j ≤ 39) ∧ (2 ≤ (g (3606 + 1 + 2 * j)).toInt → (g (3606 + 1 + 2 * j)).toInt ≤ 4 → 2 ≤ Hgt g 3606 j) ∧ ((g (3606 + 1 + 2 * j)).toInt = 5 → 1 ≤ Hgt g 3606 j)
def PD (g : Nat → Int32) (n : Int) : Prop := ∀ j : Nat, (j : Int) < n → SGC g j
theorem PD.z {g : Nat → Int32} {x : Int32} (h : x.toInt = 0) : PD g x.toInt := fun j hj => by omega
def EMT (g g' : Nat → Int32) (s : Nat) (a b : Int32) : Prop := g' (3606 + 1 + 2 * s) = a ∧ g' (3606 + 2 + 2 * s) = b ∧ ∀ j, j ≠ 3606 + 1 + 2 * s → j ≠ 3606 + 2 + 2 * s → g' j = g j
theorem EMT.of {I I1 I2 : IT} {w : Nat} {j1 j2 x1 x2 s : Int32} (e1 : I1 = u2 I w j1.toNatClampNeg x1) (e2 : I2 = u2 I1 w j2.toNatClampNeg x2) (hs : 0 ≤ s.toInt) (h1 : j1.toInt = 3607 + 2 * s.toInt) (h2 : j2.toInt = 3608 + 2 * s.toInt) : EMT (I w) (I2 w) s.toNatClampNeg x1 x2 := by
  subst e1; subst e2
  have a0 := ncz hs
  have a1 := ncz (x := j1) (by omega)
  have a2 := ncz (x := j2) (by omega)
  have b1 : 3606 + 1 + 2 * s.toNatClampNeg = j1.toNatClampNeg := by omega
  have b2 : 3606 + 2 + 2 * s.toNatClampNeg = j2.toNatClampNeg := by omega
  refine ⟨?_, ?_, fun j hj1 hj2 => ?_⟩
  · rw [b1, u2_k (by omega), u2_s]
  · rw [b2, u2_s]
  · rw [u2_k (by omega), u2_k (by omega)]
theorem Hgt.em {g g' : Nat → Int32} {s : Nat} {a b : Int32} (e : EMT g g' s a b) (j : Nat) (hj : j ≤ s) : Hgt g' 3606 j = Hgt g 3606 j := Hgt.eq j (fun i hi => e.2.2 _ (by omega) (by omega))
theorem PD.em {g g' : Nat → Int32} {s s' a b : Int32} (h : PD g s.toInt) (e : EMT g g' s.toNatClampNeg a b) (h0 : 0 ≤ s.toInt) (hs' : s'.toInt = s.toInt + 1) (ha : 0 ≤ a.toInt ∧ a.toInt ≤ 5) (hb : 0 ≤ b.toInt ∧ b.toInt ≤ 999) (hH : 0 ≤ Hgt g 3606 s.toNatClampNeg ∧ Hgt g 3606 s.toNatClampNeg ≤ 40) (c1 : a.toInt ≤ 1 → Hgt g 3606 s.toNatClampNeg ≤ 39) (c2 : 2 ≤ a.toInt → a.toInt ≤ 4 → 2 ≤ Hgt g 3606 s.toNatClampNeg) (c3 : a.toInt = 5 → 1 ≤ Hgt g 3606 s.toNatClampNeg) : PD g' s'.toInt := fun j hj => by
  have a0 := ncz h0
  have hh := Hgt.em e j (by omega)
  unfold SGC
  rw [hh]
  by_cases q : j = s.toNatClampNeg
  · subst q
    rw [e.1, e.2.1]
    exact ⟨ha.1, ha.2, hb.1, hb.2, hH.1, hH.2, c1, c2, c3⟩
  · rw [e.2.2 _ (by omega) (by omega), e.2.2 _ (by omega) (by omega)]
    exact h j (by omega)
theorem Hgt.s' {g g' : Nat → Int32} {s s' a b : Int32} (e : EMT g g' s.toNatClampNeg a b) (h0 : 0 ≤ s.toInt) (hs' : s'.toInt = s.toInt + 1) : Hgt g' 3606 s'.toNatClampNeg = Hgt g 3606 s.toNatClampNeg + (if a.toInt ≤ 1 then 1 else if a.toInt = 5 then 0 else -1) := by
  have a0 := ncz h0
  have a1 := ncz (x := s') (by omega)
  rw [show s'.toNatClampNeg = s.toNatClampNeg + 1 from by omega]
  show Hgt g' 3606 s.toNatClampNeg + _ = _
  rw [Hgt.em e _ (Nat.le_refl _), e.1]
theorem Hgt.e1 {g g' : Nat → Int32} {s s' a b : Int32} (e : EMT g g' s.toNatClampNeg a b) (h0 : 0 ≤ s.toInt) (hs' : s'.toInt = s.toInt + 1) (ha : a.toInt ≤ 1) : Hgt g' 3606 s'.toNatClampNeg = Hgt g 3606 s.toNatClampNeg + 1 := by rw [Hgt.s' e h0 hs', if_pos ha]
theorem Hgt.e5 {g g' : Nat → Int32} {s s' a b : Int32} (e : EMT g g' s.toNatClampNeg a b) (h0 : 0 ≤ s.toInt) (hs' : s'.toInt = s.toInt + 1) (ha : a.toInt = 5) : Hgt g' 3606 s'.toNatClampNeg = Hgt g 3606 s.toNatClampNeg := by rw [Hgt.s' e h0 hs', if_neg (by omega), if_pos ha]; omega
theorem Hgt.e2 {g g' : Nat → Int32} {s s' a b : Int32} (e : EMT g g' s.toNatClampNeg a b) (h0 : 0 ≤ s.toInt) (hs' : s'.toInt = s.toInt + 1) (ha : 2 ≤ a.toInt ∧ a.toInt ≤ 4) : Hgt g' 3606 s'.toNatClampNeg = Hgt g 3606 s.toNatClampNeg - 1 := by rw [Hgt.s' e h0 hs', if_neg (by omega), if_neg (by omega)]; omega
section Wld
variable {I : IT} {w : Nat} {j x : Int32}
/-- p, while nothing is told -/
theorem WOK.p (h : WOK (I w)) (h1 : (I w 1).toInt ≤ 0) (hx : x.toInt = 11 ∨ x.toInt = 13 ∨ x.toInt = 17 ∨ x.toInt = 19) : WOK (u2 I w 0 x w) := by
  obtain ⟨a1, a2, a3, a4, a5, a6, a7⟩ := h
  have e : ∀ k : Nat, 1 ≤ k → u2 I w 0 x w k = I w k := fun k hk => u2_k (by omega)
  refine ⟨by unfold WO1; rw [u2_s]; exact hx, a2.eq (fun k hk _ => e k hk), a3.eq (fun k hk _ => e k (by omega)), fun f hf k hk => ?_, a5.eq (fun k hk _ => e k (by omega)), a6.eq a2 (e 3 (by omega)) (fun k hk _ => e k (by omega)), a7.eq (fun k hk _ => e k (by omega))⟩
  rw [e 1 (by omega)] at hf; omega
/-- a number of a form -/
theorem WOK.num {f k : Int32} (h : WOK (I w)) (hf : 0 ≤ f.toInt ∧ f.toInt ≤ 15) (hk : 0 ≤ k.toInt ∧ k.toInt ≤ 8) (hj : j.toInt = 6 + 10 * f.toInt + 1 + k.toInt) (h1 : -(I w 0).toInt < x.toInt) (h2 : x.toInt < (I w 0).toInt) : WOK (u2 I w j.toNatClampNeg x w) := by
  obtain ⟨a1, a2, a3, a4, a5, a6, a7⟩ := h
  have f1 := ncz hf.1
  have k1 := ncz hk.1
  have j1 := ncz (x := j) (by omega)
  have p1 : 11 ≤ (I w 0).toInt ∧ (I w 0).toInt ≤ 19 := by unfold WO1 at a1; omega
  have e : ∀ i : Nat, (i < 6 ∨ 166 ≤ i) → u2 I w j.toNatClampNeg x w i = I w i := fun i hi => u2_k (by omega)
  have ed : ∀ f' : Nat, u2 I w j.toNatClampNeg x w (6 + 10 * f') = I w (6 + 10 * f') := fun f' => u2_k (by omega)
  refine ⟨a1.eq (e 0 (by omega)), a2.eq (fun i _ hi => e i (by omega)), fun f' hf' => ?_, fun f' hf' k' hk' => ?_, a5.eq (fun i hi _ => e i (by omega)), a6.eq a2 (e 3 (by omega)) (fun i hi _ => e i (by omega)), a7.eq (fun i hi _ => e i (by omega))⟩
  · rw [ed]
    refine ⟨(a3 f' hf').1, (a3 f' hf').2.1, fun k' hk' => ?_⟩
    by_cases q : 6 + 10 * f' + 1 + k' = j.toNatClampNeg
    · rw [q, u2_s]; omega
    · rw [u2_k q]; exact (a3 f' hf').2.2 k' hk'
  · rw [e 1 (by omega)] at hf'
    rw [ed] at hk'
    rw [e 0 (by omega)]
    by_cases q : 6 + 10 * f' + 1 + k' = j.toNatClampNeg
    · rw [q, u2_s]; exact ⟨h1, h2⟩
    · rw [u2_k q]; exact a4 f' hf' k' hk'
/-- the degree of a form that isn't told yet -/
theorem WOK.dg {f : Int32} (h : WOK (I w)) (hf : (I w 1).toInt ≤ f.toInt ∧ f.toInt ≤ 15) (hj : j.toInt = 6 + 10 * f.toInt) (h1 : 0 ≤ x.toInt) (h2 : x.toInt ≤ 8) : WOK (u2 I w j.toNatClampNeg x w) := by
  obtain ⟨a1, a2, a3, a4, a5, a6, a7⟩ := h
  have c1 := a2.1
  have f1 := ncz (x := f) (by omega)
  have j1 := ncz (x := j) (by omega)
  have e : ∀ i : Nat, (i < 6 ∨ 166 ≤ i) → u2 I w j.toNatClampNeg x w i = I w i := fun i hi => u2_k (by omega)
  refine ⟨a1.eq (e 0 (by omega)), a2.eq (fun i _ hi => e i (by omega)), fun f' hf' => ?_, fun f' hf' k' hk' => ?_, a5.eq (fun i hi _ => e i (by omega)), a6.eq a2 (e 3 (by omega)) (fun i hi _ => e i (by omega)), a7.eq (fun i hi _ => e i (by omega))⟩
  · have hn : ∀ k', k' < 9 → u2 I w j.toNatClampNeg x w (6 + 10 * f' + 1 + k') = I w (6 + 10 * f' + 1 + k') := fun k' hk' => u2_k (by omega)
    by_cases q : 6 + 10 * f' = j.toNatClampNeg
    · have e1 : u2 I w j.toNatClampNeg x w (6 + 10 * f') = x := by rw [q, u2_s]
      rw [e1]; exact ⟨h1, h2, fun k' hk' => by rw [hn k' hk']; exact (a3 f' hf').2.2 k' hk'⟩
    · rw [u2_k q]; exact ⟨(a3 f' hf').1, (a3 f' hf').2.1, fun k' hk' => by rw [hn k' hk']; exact (a3 f' hf').2.2 k' hk'⟩
  · rw [e 1 (by omega)] at hf'
    have b3 := a3 f' (by omega)
    rw [u2_k (show 6 + 10 * f' ≠ j.toNatClampNeg by omega)] at hk'
    rw [e 0 (by omega), u2_k (show 6 + 10 * f' + 1 + k' ≠ j.toNatClampNeg by omega)]
    exact a4 f' hf' k' hk'
/-- one form more -/
theorem WOK.c1 {f : Int32} (h : WOK (I w)) (hf : (I w 1).toInt = f.toInt) (hf2 : f.toInt ≤ 15) (hx : x.toInt = f.toInt + 1) (hn : ∀ k : Nat, (k : Int) ≤ (I w (6 + 10 * f.toNatClampNeg)).toInt → -(I w 0).toInt < (I w (6 + 10 * f.toNatClampNeg + 1 + k)).toInt ∧ (I w (6 + 10 * f.toNatClampNeg + 1 + k)).toInt < (I w 0).toInt) : WOK (u2 I w 1 x w) := by
  obtain ⟨a1, a2, a3, a4, a5, a6, a7⟩ := h
  have c1 := a2.1
  have f1 := ncz (x := f) (by omega)
  have e : ∀ i : Nat, i ≠ 1 → u2 I w 1 x w i = I w i := fun i hi => u2_k hi
  refine ⟨a1.eq (e 0 (by omega)), ?_, a3.eq (fun i hi _ => e i (by omega)), fun f' hf' k' hk' => ?_, a5.eq (fun i hi _ => e i (by omega)), a6.eq a2 (e 3 (by omega)) (fun i hi _ => e i (by omega)), a7.eq (fun i hi _ => e i (by omega))⟩
  · unfold WO2 at *; rw [u2_s, e 2 (by omega), e 3 (by omega), e 4 (by omega), e 5 (by omega)]; omega
  · rw [u2_s] at hf'
    rw [e _ (by omega)] at hk'
    rw [e 0 (by omega), e _ (by omega)]
    by_cases q : f' = f.toNatClampNeg
    · subst q; exact hn k' hk'
    · exact a4 f' (by omega) k' hk'
theorem WOK.c2 (h : WOK (I w)) (h1 : 0 ≤ x.toInt) (h2 : x.toInt ≤ 8) : WOK (u2 I w 2 x w) := by
  obtain ⟨a1, a2, a3, a4, a5, a6, a7⟩ := h
  have e : ∀ i : Nat, i ≠ 2 → u2 I w 2 x w i = I w i := fun i hi => u2_k hi
  refine ⟨a1.eq (e 0 (by omega)), ?_, a3.eq (fun i hi _ => e i (by omega)), a4.eq a2 a3 (e 0 (by omega)) (e 1 (by omega)) (fun i hi _ => e i (by omega)), a5.eq (fun i hi _ => e i (by omega)), a6.eq a2 (e 3 (by omega)) (fun i hi _ => e i (by omega)), a7.eq (fun i hi _ => e i (by omega))⟩
  unfold WO2 at *; rw [u2_s, e 1 (by omega), e 3 (by omega), e 4 (by omega), e 5 (by omega)]; omega
theorem WOK.c3 {s : Int32} (h : WOK (I w)) (hs : (I w 3).toInt = s.toInt) (hs2 : s.toInt ≤ 7) (hx : x.toInt = s.toInt + 1) (hn : SGN (I w) (198 + 401 * s.toNatClampNeg)) : WOK (u2 I w 3 x w) := by
  obtain ⟨a1, a2, a3, a4, a5, a6, a7⟩ := h
  have c1 := a2.2.2.1
  have f1 := ncz (x := s) (by omega)
  have e : ∀ i : Nat, i ≠ 3 → u2 I w 3 x w i = I w i := fun i hi => u2_k hi
  refine ⟨a1.eq (e 0 (by omega)), ?_, a3.eq (fun i hi _ => e i (by omega)), a4.eq a2 a3 (e 0 (by omega)) (e 1 (by omega)) (fun i hi _ => e i (by omega)), a5.eq (fun i hi _ => e i (by omega)), fun t ht => ?_, a7.eq (fun i hi _ => e i (by omega))⟩
  · unfold WO2 at *; rw [u2_s, e 1 (by omega), e 2 (by omega), e 4 (by omega), e 5 (by omega)]; omega
  · rw [u2_s] at ht
    have g1 : SGN (I w) (198 + 401 * t) := by
      by_cases q : t = s.toNatClampNeg
      · subst q; exact hn
      · exact a6 t (by omega)
    exact g1.eq (fun k h1 _ => e k (by omega))
theorem WOK.c4 (h : WOK (I w)) (h1 : 0 ≤ x.toInt) (h2 : x.toInt ≤ 40) : WOK (u2 I w 4 x w) := by
  obtain ⟨a1, a2, a3, a4, a5, a6, a7⟩ := h
  have e : ∀ i : Nat, i ≠ 4 → u2 I w 4 x w i = I w i := fun i hi => u2_k hi
  refine ⟨a1.eq (e 0 (by omega)), ?_, a3.eq (fun i hi _ => e i (by omega)), a4.eq a2 a3 (e 0 (by omega)) (e 1 (by omega)) (fun i hi _ => e i (by omega)), a5.eq (fun i hi _ => e i (by omega)), a6.eq a2 (e 3 (by omega)) (fun i hi _ => e i (by omega)), a7.eq (fun i hi _ => e i (by omega))⟩
  unfold WO2 at *; rw [u2_s, e 1 (by omega), e 2 (by omega), e 3 (by omega), e 5 (by omega)]; omega
theorem WOK.c5 (h : WOK (I w)) (h1 : 0 ≤ x.toInt) (h2 : x.toInt ≤ 40) : WOK (u2 I w 5 x w) := by
  obtain ⟨a1, a2, a3, a4, a5, a6, a7⟩ := h
  have e : ∀ i : Nat, i ≠ 5 → u2 I w 5 x w i = I w i := fun i hi => u2_k hi
  refine ⟨a1.eq (e 0 (by omega)), ?_, a3.eq (fun i hi _ => e i (by omega)), a4.eq a2 a3 (e 0 (by omega)) (e 1 (by omega)) (fun i hi _ => e i (by omega)), a5.eq (fun i hi _ => e i (by omega)), a6.eq a2 (e 3 (by omega)) (fun i hi _ => e i (by omega)), a7.eq (fun i hi _ => e i (by omega))⟩
  unfold WO2 at *; rw [u2_s, e 1 (by omega), e 2 (by omega), e 3 (by omega), e 4 (by omega)]; omega
/-- a cell of an act: its form (c = 0), or a number of its table -/
theorem WOK.act {b c : Int} (h : WOK (I w)) (hb : 0 ≤ b ∧ b < 40) (hc : 0 ≤ c ∧ c < 5) (hj : j.toInt = 3406 + 5 * b + c) (h1 : -18 ≤ x.toInt) (h2 : x.toInt ≤ 18) (h3 : c = 0 → 0 ≤ x.toInt ∧ x.toInt ≤ 15) : WOK (u2 I w j.toNatClampNeg x w) := by
  obtain ⟨a1, a2, a3, a4, a5, a6, a7⟩ := h
  have j1 := ncz (x := j) (by omega)
  have e : ∀ i : Nat, i < 3406 → u2 I w j.toNatClampNeg x w i = I w i := fun i hi => u2_k (by omega)
  refine ⟨a1.eq (e 0 (by omega)), a2.eq (fun i _ hi => e i (by omega)), a3.eq (fun i hi _ => e i (by omega)), a4.eq a2 a3 (e 0 (by omega)) (e 1 (by omega)) (fun i hi _ => e i (by omega)), a5.eq (fun i hi _ => e i (by omega)), a6.eq a2 (e 3 (by omega)) (fun i hi _ => e i (by omega)), fun a ha => ?_⟩
  refine ⟨?_, ?_, fun i hi1 hi2 => ?_⟩
  · by_cases q : 3406 + 5 * a = j.toNatClampNeg
    · rw [q, u2_s]; exact (h3 (by omega)).1
    · rw [u2_k q]; exact (a7 a ha).1
  · by_cases q : 3406 + 5 * a = j.toNatClampNeg
    · rw [q, u2_s]; exact (h3 (by omega)).2
    · rw [u2_k q]; exact (a7 a ha).2.1
  · by_cases q : 3406 + 5 * a + i = j.toNatClampNeg
    · rw [q, u2_s]; exact ⟨h1, h2⟩
    · rw [u2_k q]; exact (a7 a ha).2.2 i hi1 hi2
end Wld
end
