/-! the reference: two values: exactly -/
theorem FQV.sy {p : Int} {v w : FVV} (h : FQV p v w) : FQV p w v := ⟨h.1.symm, fun m hm => (h.2 m (by have := h.1; omega)).sy⟩
theorem FQV.tr {p : Int} {u v w : FVV} (h : FQV p u v) (g : FQV p v w) : FQV p u w := ⟨h.1.trans g.1, fun m hm => (h.2 m hm).tr (g.2 m (by have := h.1; omega))⟩
theorem OQV.sy {p : Int} {a b : Option FVV} (h : OQV p a b) : OQV p b a := by
  rcases h with ⟨h1, h2⟩ | ⟨v, w, h1, h2, h3⟩
  · exact Or.inl ⟨h2, h1⟩
  · exact Or.inr ⟨w, v, h2, h1, h3.sy⟩
theorem OQV.tr {p : Int} {a b c : Option FVV} (h : OQV p a b) (g : OQV p b c) : OQV p a c := by
  rcases h with ⟨h1, h2⟩ | ⟨v, w, h1, h2, h3⟩
  · rcases g with ⟨g1, g2⟩ | ⟨v, w, g1, -⟩
    · exact Or.inl ⟨h1, g2⟩
    · rw [h2] at g1; cases g1
  · rcases g with ⟨g1, g2⟩ | ⟨v', w', g1, g2, g3⟩
    · rw [h2] at g1; cases g1
    · rw [h2] at g1; cases g1
      exact Or.inr ⟨v, w', h1, g2, h3.tr g3⟩
theorem OQV.cg {p : Int} {a a' b b' : Option FVV} (h : OQV p a a') (g : OQV p b b') : OQV p a b ↔ OQV p a' b' := ⟨fun q => h.sy.tr (q.tr g), fun q => h.tr (q.tr g.sy)⟩
theorem VRW.tk {I : IT} {dg nu r : Nat} {p D : Int} {g : Nat → Int} (hd : (I dg r).toInt = D) (h0 : 0 ≤ D ∧ D ≤ 40) (t : ∀ k : Nat, (k : Int) ≤ D → RI I nu r k = g k) (c : ∀ k : Nat, (k : Int) ≤ D → 0 ≤ g k ∧ g k < p) : VRW I dg nu r p (D, g) := ⟨hd, h0.1, h0.2, fun j hj => by
  rw [t j hj]; exact ⟨(c j hj).1, (c j hj).2, PmE.rf⟩⟩
theorem VRW.fe {I : IT} {dg nu a b : Nat} {p : Int} {v w : FVV} (hf : VRW I dg nu a p v) (hg : VRW I dg nu b p w) : RLK I dg nu a b ↔ FQV p v w := by
  obtain ⟨a1, a2, a3, a4⟩ := hf
  obtain ⟨b1, b2, b3, b4⟩ := hg
  refine ⟨fun e => ⟨by have := e.1; omega, fun m hm => ?_⟩, fun e => ⟨by have := e.1; omega, fun m hm => ?_⟩⟩
  · have z := e.2 m (by have := e.1; omega)
    have y1 := (a4 m hm).2.2
    have y2 := (b4 m (by have := e.1; omega)).2.2
    rw [z] at y1
    exact y1.sy.tr y2
  · have h1 := a4 m (by have := e.1; omega)
    have h2 := b4 m (by have := e.1; omega)
    exact (h1.2.2.tr ((e.2 m (by have := e.1; omega)).tr h2.2.2.sy)).eq h1.1 h1.2.1 h2.1 h2.2.1
theorem OVX.ne {I1 I2 : IT} {dg nu : Nat} {x y p : Int} {o1 o2 : Option FVV} (h1 : VPR I1 dg nu x p o1) (h2 : VPR I2 dg nu y p o2) (hx : 0 ≤ x ∧ x ≤ 1) (hy : 0 ≤ y ∧ y ≤ 1) (n : x ≠ y) : ¬ OQV p o1 o2 := fun q => by
  rcases q with ⟨q1, q2⟩ | ⟨v, w, q1, q2, -⟩
  · by_cases c : x = 1
    · obtain ⟨v, z, -⟩ := h1.2 c
      rw [q1] at z; cases z
    · obtain ⟨v, z, -⟩ := h2.2 (by omega)
      rw [q2] at z; cases z
  · by_cases c : x = 0
    · have z := h1.1 c
      rw [q1] at z; cases z
    · have z := h2.1 (by omega)
      rw [q2] at z; cases z
theorem OVX.nn {I1 I2 : IT} {dg nu : Nat} {x y p : Int} {o1 o2 : Option FVV} (h1 : VPR I1 dg nu x p o1) (h2 : VPR I2 dg nu y p o2) (hx : x = 0) (hy : y = 0) : OQV p o1 o2 := Or.inl ⟨h1.1 hx, h2.1 hy⟩
