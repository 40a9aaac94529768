/-! the reference: told, det, at: exactly -/
theorem vaS.cg {p x y : Int} {f g : Nat → Int} {D : Nat} : ∀ m, m ≤ D + 1 → (∀ k, k ≤ D → f k = g k) → vaS p f x y D m = vaS p g x y D m
  | 0, _, _ => rfl
  | m + 1, h, e => by
    show (vaS p f x y D m + (f m * (PWI x p (D - m) * PWI y p m).tmod p).tmod p).tmod p = (vaS p g x y D m + (g m * (PWI x p (D - m) * PWI y p m).tmod p).tmod p).tmod p
    rw [vaS.cg m (by omega) e, e m (by omega)]
theorem VAD.cg {s p x y x' y' D D' : Int} {f g : Nat → Int} (h : VAD s p f x y D) (e : ∀ k : Nat, (k : Int) ≤ D → f k = g k) (h0 : 0 ≤ D) (ex : x = x') (ey : y = y') (eD : D = D') : VAD s p g x' y' D' := by
  subst ex; subst ey; subst eD
  unfold VAD at *
  rw [h]; exact vaS.cg _ (Nat.le_refl _) (fun k hk => e k (by omega))
theorem PWI.pe {a p : Int} : ∀ n, PmE p (PWI a p n) (POW a n)
  | 0 => PmE.rf
  | n + 1 => (PmE.tm _).tr ((PWI.pe n).ml PmE.rf)
theorem vaS.h {p x y : Int} {f : Nat → Int} {D : Nat} : ∀ m, m ≤ D + 1 → PmE p (vaS p f x y D m) (HRV x y f m * POW x (D + 1 - m))
  | 0, _ => by
    show PmE p 0 (0 * _)
    rw [Int.zero_mul]; exact PmE.rf
  | m + 1, h => by
    have ih := vaS.h (p := p) (x := x) (y := y) (f := f) (D := D) m (by omega)
    have e1 : D + 1 - m = (D - m) + 1 := by omega
    have e2 : D + 1 - (m + 1) = D - m := by omega
    rw [e1] at ih
    have ih : PmE p (vaS p f x y D m) (HRV x y f m * (POW x (D - m) * x)) := ih
    rw [e2]
    show PmE p ((vaS p f x y D m + (f m * (PWI x p (D - m) * PWI y p m).tmod p).tmod p).tmod p) ((HRV x y f m * x + f m * POW y m) * POW x (D - m))
    have q : PmE p (f m * (PWI x p (D - m) * PWI y p m).tmod p) (f m * (POW x (D - m) * POW y m)) := PmE.rf.ml ((PmE.tm _).tr ((PWI.pe _).ml (PWI.pe _)))
    have r := (PmE.tm (vaS p f x y D m + (f m * (PWI x p (D - m) * PWI y p m).tmod p).tmod p)).tr (ih.ad ((PmE.tm _).tr q))
    rwa [show HRV x y f m * (POW x (D - m) * x) + f m * (POW x (D - m) * POW y m) = (HRV x y f m * x + f m * POW y m) * POW x (D - m) from by grind] at r
theorem vaS.b {p x y : Int} {f : Nat → Int} {D : Nat} (hp : 0 < p) (hx : 0 ≤ x) (hy : 0 ≤ y) (e : ∀ k, k ≤ D → 0 ≤ f k) : ∀ m, m ≤ D + 1 → 0 ≤ vaS p f x y D m ∧ vaS p f x y D m < p
  | 0, _ => ⟨Int.le_refl 0, hp⟩
  | m + 1, h => by
    have ih := (vaS.b hp hx hy e m (by omega)).1
    show 0 ≤ (vaS p f x y D m + (f m * (PWI x p (D - m) * PWI y p m).tmod p).tmod p).tmod p ∧ (vaS p f x y D m + (f m * (PWI x p (D - m) * PWI y p m).tmod p).tmod p).tmod p < p
    exact ⟨Int.tmod_nonneg _ (Int.add_nonneg ih (Int.tmod_nonneg _ (Int.mul_nonneg (e m (by omega)) (Int.tmod_nonneg _ (Int.mul_nonneg (PWI.p hx _) (PWI.p hy _)))))), Int.tmod_lt_of_pos _ hp⟩
