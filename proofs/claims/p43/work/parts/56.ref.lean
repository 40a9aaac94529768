/-! the reference: tables tried, same, keep, orbit, kind -/
theorem TKE.sm {I1 I' I : IT} {w nu r b : Nat} {D : Int} (h : TKE I1 I w nu r b D) (e : ∀ k, k < 41 → I' nu (41 * r + k) = I1 nu (41 * r + k)) (hD : D ≤ 40) : TKE I' I w nu r b D := fun j hj => by
  show (I' nu _).toInt = _; rw [e j (by omega)]; exact h j hj
theorem TKE.w {I1 I' I : IT} {w nu r b : Nat} {D : Int} (h : TKE I' I1 w nu r b D) (e : I1 w = I w) : TKE I' I w nu r b D := fun j hj => by rw [← e]; exact h j hj
theorem EQR.of {I' I : IT} {w dg nu a b : Nat} {D1 D2 p : Int} (T1 : TKE I' I w nu 40 a D1) (T2 : TKE I' I w nu 41 b D2) (d1 : (I' dg 40).toInt = D1) (d2 : (I' dg 41).toInt = D2) (e : a = b) (hD : D1 = D2) (Q : QN I' nu 40 (D1 + 1) p) : EQR I' dg nu p := by
  subst e; subst hD
  exact ⟨by omega, fun k hk => by rw [T1 k (by omega), T2 k (by omega)], by rw [d1]; exact Q⟩
theorem EQR.nq {I : IT} {dg nu : Nat} {p : Int} (E : EQR I dg nu p) : NQA I dg nu 40 ↔ NQA I dg nu 41 :=
  ⟨fun h k hk => by rw [← E.2.1 k (by have := E.1; omega)]; exact h k (by have := E.1; omega), fun h k hk => by rw [E.2.1 k hk]; exact h k (by have := E.1; omega)⟩
theorem IFF.c {x y : Int} {P Q : Prop} (h1 : IFF x P) (h2 : IFF y Q) (e : P ↔ Q) (hx : x = 0 ∨ x = 1) (hy : y = 0 ∨ y = 1) : x = y := by
  rcases hx with a | a <;> rcases hy with b | b
  · omega
  · exact absurd (e.mpr (h2.1 b)) (h1.2 a)
  · exact absurd (e.mp (h1.1 a)) (h2.2 b)
  · omega
