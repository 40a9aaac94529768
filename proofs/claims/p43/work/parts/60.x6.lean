/-! image, back, form, tables: exactly -/
/-- a row's numbers, the first k of them -/
def NMF (I' : IT) (b : Nat) (k : Int) (g : Nat → Int) : Prop := ∀ j : Nat, (j : Int) < k → (I' b j).toInt = g j
theorem NMF.z {I' : IT} {b : Nat} {k : Int} {g : Nat → Int} (h : k = 0) : NMF I' b k g := fun j hj => by omega
theorem NMF.s {I1 I2 : IT} {b : Nat} {k k' x : Int32} {g : Nat → Int} (h : NMF I1 b k.toInt g) (t : STD I1 I2 b k x) (hx : x.toInt = g k.toNatClampNeg) (h0 : 0 ≤ k.toInt) (h41 : k.toInt < 41) (hk : k'.toInt = k.toInt + 1) : NMF I2 b k'.toInt g := fun j hj => by
  have n0 := ncz h0
  rw [t.1 h0 h41]
  by_cases q : j = k.toNatClampNeg
  · subst q; rw [u2_s]; exact hx
  · rw [u2_k q]; exact h j (by omega)
def BYD (x : Int32) (w : Nat → Int32) (k : Int32) : Prop := 0 ≤ k.toInt → k.toInt < 400 → x = w k.toNatClampNeg
theorem BYD.r {x k : Int32} {w : Nat → Int32} (e : w k.toNatClampNeg = x) : BYD x w k := fun _ _ => e.symm
theorem NXD.no {R : RT} {r n : Nat} {c : Int32} {c9 : Int} {P : Nat → Prop} (h : NXD R none r c c9 n) (he : ∀ j, j < n → ∃ f, R r j = some f ∧ P f) (h0 : 0 ≤ c.toInt) : (n : Int) ≤ c.toInt := by
  by_cases q : c.toInt < (n : Int)
  · obtain ⟨f, f1, -⟩ := he c.toNatClampNeg (ncn h0 q)
    have := (h.1 q).1
    rw [f1] at this; cases this
  · omega
theorem NXD.yes {R : RT} {r n b : Nat} {c : Int32} {c9 : Int} (h : NXD R (some b) r c c9 n) (h0 : 0 ≤ c.toInt) : c.toInt < (n : Int) ∧ R r c.toNatClampNeg = some b ∧ c9 = c.toInt + 1 := by
  by_cases q : c.toInt < (n : Int)
  · exact ⟨q, (h.1 q).1.symm, (h.1 q).2⟩
  · have := (h.2 (by omega)).1; cases this
theorem BYD.z {x k : Int32} {w : Nat → Int32} (h : k.toInt < 0 ∨ 400 ≤ k.toInt) : BYD x w k := fun h0 h1 => by omega
