/-! forms mixed, as numbers: a form's numbers f 0 .. f n (behind x^n .. y^n), mixed by Horner (PmX); two tables behind one another; the reference's sums -/
def PmW (u v : Int) (f : Nat → Int) (k : Nat) : Int := u * f k + v * (if k = 0 then 0 else f (k - 1))
def PmD (k : Nat) : Int := if k = 0 then 1 else 0
def PmN (u v : Int) : Nat → (Nat → Int) → Nat → Int
  | 0, f => f
  | n + 1, f => PmW u v (PmN u v n f)
def PmL (x : Int) (f : Nat → Int) (y : Int) (g : Nat → Int) (k : Nat) : Int := x * f k + y * g k
def PmX (a b c d : Int) (f : Nat → Int) : Nat → Nat → Int
  | 0 => fun k => f 0 * PmD k
  | n + 1 => PmL 1 (PmW a b (PmX a b c d f n)) (f (n + 1)) (PmN c d (n + 1) PmD)
theorem PmW.lin (u v x y : Int) (f g : Nat → Int) : PmW u v (PmL x f y g) = PmL x (PmW u v f) y (PmW u v g) := by
  funext k
  unfold PmW PmL
  by_cases h : k = 0
  · simp only [if_pos h]; grind
  · simp only [if_neg h]; grind
theorem PmW.com (u v s t : Int) (f : Nat → Int) : PmW u v (PmW s t f) = PmW s t (PmW u v f) := by
  funext k
  unfold PmW
  by_cases h : k = 0
  · simp only [if_pos h]; grind
  · simp only [if_neg h]
    by_cases h1 : k - 1 = 0
    · simp only [if_pos h1]; grind
    · simp only [if_neg h1]; grind
theorem PmN.comW (u v s t : Int) (f : Nat → Int) : ∀ n, PmN u v n (PmW s t f) = PmW s t (PmN u v n f)
  | 0 => rfl
  | n + 1 => by show PmW u v (PmN u v n (PmW s t f)) = PmW s t (PmW u v (PmN u v n f)); rw [PmN.comW, PmW.com]
theorem PmN.com (u v s t : Int) (f : Nat → Int) : ∀ n m, PmN u v n (PmN s t m f) = PmN s t m (PmN u v n f)
  | n, 0 => rfl
  | n, m + 1 => by show PmN u v n (PmW s t (PmN s t m f)) = PmW s t (PmN s t m (PmN u v n f)); rw [PmN.comW, PmN.com]
theorem PmN.lin (u v x y : Int) (f g : Nat → Int) : ∀ n, PmN u v n (PmL x f y g) = PmL x (PmN u v n f) y (PmN u v n g)
  | 0 => rfl
  | n + 1 => by show PmW u v (PmN u v n (PmL x f y g)) = _; rw [PmN.lin, PmW.lin]; rfl
theorem PmX.lin (a b c d x y : Int) (f g : Nat → Int) : ∀ n, PmX a b c d (PmL x f y g) n = PmL x (PmX a b c d f n) y (PmX a b c d g n)
  | 0 => by funext k; show (PmL x f y g 0) * PmD k = x * (f 0 * PmD k) + y * (g 0 * PmD k); unfold PmL; grind
  | n + 1 => by
    show PmL 1 (PmW a b (PmX a b c d (PmL x f y g) n)) (PmL x f y g (n + 1)) (PmN c d (n + 1) PmD) = PmL x (PmL 1 (PmW a b (PmX a b c d f n)) (f (n + 1)) (PmN c d (n + 1) PmD)) y (PmL 1 (PmW a b (PmX a b c d g n)) (g (n + 1)) (PmN c d (n + 1) PmD))
    rw [PmX.lin, PmW.lin]
    funext k
    unfold PmL
    grind
def PmS (f : Nat → Int) (n : Nat) : Prop := ∀ k, n < k → f k = 0
theorem PmS.w {f : Nat → Int} {n : Nat} {u v : Int} (h : PmS f n) : PmS (PmW u v f) (n + 1) := fun k hk => by
  unfold PmW
  rw [h k (by omega), if_neg (by omega), h (k - 1) (by omega)]
  simp
theorem PmS.d : PmS PmD 0 := fun k hk => if_neg (by omega)
theorem PmS.n {f : Nat → Int} {D : Nat} {u v : Int} (h : PmS f D) : ∀ n, PmS (PmN u v n f) (D + n)
  | 0 => h
  | n + 1 => (PmS.n h n).w
theorem PmS.x (a b c d : Int) (f : Nat → Int) : ∀ n, PmS (PmX a b c d f n) n
  | 0 => fun k hk => by show f 0 * PmD k = 0; rw [PmS.d k hk]; simp
  | n + 1 => fun k hk => by
    show 1 * PmW a b (PmX a b c d f n) k + f (n + 1) * PmN c d (n + 1) PmD k = 0
    rw [(PmS.x a b c d f n).w k hk, (PmS.n (u := c) (v := d) PmS.d (n + 1)) k (by omega)]
    simp
/-- a line ahead of what is mixed -/
theorem PmX.w (a b c d u v : Int) (g : Nat → Int) : ∀ n, PmX a b c d (PmW u v g) (n + 1) = PmL 1 (PmL u (PmW a b (PmX a b c d g n)) v (PmW c d (PmX a b c d g n))) (u * g (n + 1)) (PmN c d (n + 1) PmD)
  | 0 => by
    funext k
    show 1 * PmW a b (fun k => PmW u v g 0 * PmD k) k + PmW u v g 1 * PmW c d PmD k = 1 * (u * PmW a b (fun k => g 0 * PmD k) k + v * PmW c d (fun k => g 0 * PmD k) k) + u * g 1 * PmW c d PmD k
    unfold PmW
    by_cases h : k = 0
    · simp only [if_pos h, if_pos, if_neg (show ¬ (1 : Nat) = 0 from by omega), Nat.sub_self]; grind
    · simp only [if_neg h, if_pos, if_neg (show ¬ (1 : Nat) = 0 from by omega), Nat.sub_self]; grind
  | n + 1 => by
    show PmL 1 (PmW a b (PmX a b c d (PmW u v g) (n + 1))) (PmW u v g (n + 2)) (PmN c d (n + 2) PmD) = PmL 1 (PmL u (PmW a b (PmL 1 (PmW a b (PmX a b c d g n)) (g (n + 1)) (PmN c d (n + 1) PmD))) v (PmW c d (PmL 1 (PmW a b (PmX a b c d g n)) (g (n + 1)) (PmN c d (n + 1) PmD)))) (u * g (n + 2)) (PmN c d (n + 2) PmD)
    rw [PmX.w a b c d u v g n]
    simp only [PmW.lin]
    rw [PmW.com c d a b (PmX a b c d g n)]
    have e : PmN c d (n + 2) PmD = PmW c d (PmN c d (n + 1) PmD) := rfl
    have e2 : PmW u v g (n + 2) = u * g (n + 2) + v * g (n + 1) := by unfold PmW; rw [if_neg (by omega)]; rfl
    rw [e, e2]
    funext k
    unfold PmL
    grind
theorem PmW.row (a b c d u v : Int) (f : Nat → Int) : PmL u (PmW a b f) v (PmW c d f) = PmW (u * a + v * c) (u * b + v * d) f := by
  funext k
  unfold PmL PmW
  grind
theorem PmX.w0 (a b c d u v : Int) {g : Nat → Int} {n : Nat} (h : g (n + 1) = 0) : PmX a b c d (PmW u v g) (n + 1) = PmW (u * a + v * c) (u * b + v * d) (PmX a b c d g n) := by
  rw [PmX.w, PmW.row, h]
  funext k
  unfold PmL
  grind
theorem PmX.r (a b c d u v : Int) : ∀ n, PmX a b c d (PmN u v n PmD) n = PmN (u * a + v * c) (u * b + v * d) n PmD
  | 0 => by funext k; show PmD 0 * PmD k = PmD k; show (1 : Int) * _ = _; simp
  | n + 1 => by
    show PmX a b c d (PmW u v (PmN u v n PmD)) (n + 1) = PmW (u * a + v * c) (u * b + v * d) (PmN (u * a + v * c) (u * b + v * d) n PmD)
    rw [PmX.w0 a b c d u v ((PmS.n (u := u) (v := v) PmS.d n) (n + 1) (by omega)), PmX.r a b c d u v n]
/-- mixed by s t u v, then by a b c d: mixed by what these are put one into the other -/
theorem PmX.x (a b c d s t u v : Int) (f : Nat → Int) : ∀ n, PmX a b c d (PmX s t u v f n) n = PmX (s * a + t * c) (s * b + t * d) (u * a + v * c) (u * b + v * d) f n
  | 0 => by funext k; show (f 0 * PmD 0) * PmD k = f 0 * PmD k; show f 0 * 1 * _ = _; simp
  | n + 1 => by
    show PmX a b c d (PmL 1 (PmW s t (PmX s t u v f n)) (f (n + 1)) (PmN u v (n + 1) PmD)) (n + 1) = PmL 1 (PmW (s * a + t * c) (s * b + t * d) (PmX (s * a + t * c) (s * b + t * d) (u * a + v * c) (u * b + v * d) f n)) (f (n + 1)) (PmN (u * a + v * c) (u * b + v * d) (n + 1) PmD)
    rw [PmX.lin, PmX.w0 a b c d s t ((PmS.x s t u v f n) (n + 1) (by omega)), PmX.x a b c d s t u v f n, PmX.r]
theorem PmN.i : ∀ n k, PmN 0 1 n PmD k = if k = n then 1 else 0
  | 0, k => rfl
  | n + 1, k => by
    show 0 * PmN 0 1 n PmD k + 1 * (if k = 0 then 0 else PmN 0 1 n PmD (k - 1)) = _
    by_cases h : k = 0
    · rw [if_pos h, if_neg (by omega)]; simp
    · rw [if_neg h, PmN.i n (k - 1)]
      by_cases g : k = n + 1
      · rw [if_pos g, if_pos (by omega)]; simp
      · rw [if_neg g, if_neg (by omega)]; simp
theorem PmX.i (f : Nat → Int) : ∀ n k, PmX 1 0 0 1 f n k = if k ≤ n then f k else 0
  | 0, k => by
    show f 0 * PmD k = _
    unfold PmD
    by_cases h : k = 0
    · subst h; simp
    · rw [if_neg h, if_neg (by omega)]; simp
  | n + 1, k => by
    show 1 * (1 * PmX 1 0 0 1 f n k + 0 * _) + f (n + 1) * PmN 0 1 (n + 1) PmD k = _
    rw [PmX.i f n k, PmN.i]
    by_cases h : k ≤ n
    · rw [if_pos h, if_neg (show ¬ k = n + 1 from by omega), if_pos (show k ≤ n + 1 from by omega)]; simp
    · rw [if_neg h]
      by_cases g : k = n + 1
      · subst g; rw [if_pos rfl, if_pos (Nat.le_refl _)]; simp
      · rw [if_neg g, if_neg (show ¬ k ≤ n + 1 from by omega)]; simp
/-- modulo p -/
def PmE (p x y : Int) : Prop := x % p = y % p
theorem PmE.rf {p x : Int} : PmE p x x := rfl
theorem PmE.sy {p x y : Int} (h : PmE p x y) : PmE p y x := Eq.symm h
theorem PmE.tr {p x y z : Int} (h : PmE p x y) (g : PmE p y z) : PmE p x z := Eq.trans h g
theorem PmE.ad {p x y z w : Int} (h : PmE p x y) (g : PmE p z w) : PmE p (x + z) (y + w) := by unfold PmE at *; rw [Int.add_emod, h, g, ← Int.add_emod]
theorem PmE.ml {p x y z w : Int} (h : PmE p x y) (g : PmE p z w) : PmE p (x * z) (y * w) := by unfold PmE at *; rw [Int.mul_emod, h, g, ← Int.mul_emod]
theorem PmE.tm {p : Int} (x : Int) : PmE p (x.tmod p) x := by
  unfold PmE
  rw [Int.tmod_def, Int.sub_emod, Int.mul_emod_right]
  simp
theorem PmE.em {p : Int} (x : Int) : PmE p (x % p) x := Int.emod_emod_of_dvd x (Int.dvd_refl p)
theorem PmE.eq {p x y : Int} (h : PmE p x y) (h1 : 0 ≤ x) (h2 : x < p) (h3 : 0 ≤ y) (h4 : y < p) : x = y := by
  unfold PmE at h
  rwa [Int.emod_eq_of_lt h1 h2, Int.emod_eq_of_lt h3 h4] at h
theorem PmW.e {p u v u' v' : Int} {f g : Nat → Int} (hu : PmE p u u') (hv : PmE p v v') {k : Nat} (h : PmE p (f k) (g k)) (h1 : k ≠ 0 → PmE p (f (k - 1)) (g (k - 1))) : PmE p (PmW u v f k) (PmW u' v' g k) := by
  unfold PmW
  refine (hu.ml h).ad (hv.ml ?_)
  by_cases q : k = 0
  · rw [if_pos q, if_pos q]; exact PmE.rf
  · rw [if_neg q, if_neg q]; exact h1 q
theorem PmN.e {p u v u' v' : Int} {f g : Nat → Int} (hu : PmE p u u') (hv : PmE p v v') (h : ∀ k, PmE p (f k) (g k)) : ∀ n k, PmE p (PmN u v n f k) (PmN u' v' n g k)
  | 0, k => h k
  | n + 1, k => PmW.e hu hv (PmN.e hu hv h n k) (fun _ => PmN.e hu hv h n (k - 1))
theorem PmX.e {p a b c d a' b' c' d' : Int} {f g : Nat → Int} (ha : PmE p a a') (hb : PmE p b b') (hc : PmE p c c') (hd : PmE p d d') : ∀ n, (∀ k, k ≤ n → PmE p (f k) (g k)) → ∀ k, PmE p (PmX a b c d f n k) (PmX a' b' c' d' g n k)
  | 0, h, k => (h 0 (by omega)).ml PmE.rf
  | n + 1, h, k => by
    show PmE p (1 * PmW a b (PmX a b c d f n) k + f (n + 1) * PmN c d (n + 1) PmD k) (1 * PmW a' b' (PmX a' b' c' d' g n) k + g (n + 1) * PmN c' d' (n + 1) PmD k)
    have ih := PmX.e ha hb hc hd n (fun j hj => h j (by omega))
    exact (PmE.rf.ml (PmW.e ha hb (ih k) (fun _ => ih (k - 1)))).ad ((h (n + 1) (by omega)).ml (PmN.e hc hd (fun _ => PmE.rf) (n + 1) k))
/-- mixed, and mixed by the table turned: what it was -/
theorem PmX.back {p a b c d s t u v : Int} {f g : Nat → Int} {n : Nat} (h1 : PmE p (s * a + t * c) 1) (h2 : PmE p (s * b + t * d) 0) (h3 : PmE p (u * a + v * c) 0) (h4 : PmE p (u * b + v * d) 1) (hg : ∀ k, k ≤ n → PmE p (g k) (PmX s t u v f n k)) {k : Nat} (hk : k ≤ n) : PmE p (PmX a b c d g n k) (f k) := by
  have e1 := PmX.e (p := p) (a := a) (b := b) (c := c) (d := d) PmE.rf PmE.rf PmE.rf PmE.rf n hg k
  have e2 := PmX.x a b c d s t u v f n
  rw [e2] at e1
  have e3 := PmX.e h1 h2 h3 h4 n (fun j _ => (PmE.rf : PmE p (f j) (f j))) k
  rw [PmX.i, if_pos hk] at e3
  exact e1.tr e3
/-- the same as a sum, as the reference adds it -/
def PmA (a b c d : Int) (f : Nat → Int) (D : Nat) : Nat → Nat → Int
  | 0, _ => 0
  | m + 1, i => PmA a b c d f D m i + f m * PmN c d m (PmN a b (D - m) PmD) i
theorem PmA.w (a b c d : Int) (f : Nat → Int) (D : Nat) : ∀ m, m ≤ D + 1 → PmA a b c d f (D + 1) m = PmW a b (PmA a b c d f D m)
  | 0, _ => by funext k; show 0 = a * 0 + b * (if k = 0 then 0 else 0); simp
  | m + 1, h => by
    have e1 : D + 1 - m = D - m + 1 := by omega
    have e2 : PmA a b c d f D (m + 1) = PmL 1 (PmA a b c d f D m) (f m) (PmN c d m (PmN a b (D - m) PmD)) := by funext k; unfold PmL; show PmA a b c d f D m k + f m * _ = 1 * _ + _; rw [Int.one_mul]
    rw [e2, PmW.lin, ← PmA.w a b c d f D m (by omega), ← PmN.comW]
    funext k
    show PmA a b c d f (D + 1) m k + f m * PmN c d m (PmN a b (D + 1 - m) PmD) k = 1 * _ + _
    rw [e1, Int.one_mul]; rfl
theorem PmA.x (a b c d : Int) (f : Nat → Int) : ∀ D, PmA a b c d f D (D + 1) = PmX a b c d f D
  | 0 => by funext k; show 0 + f 0 * PmD k = f 0 * PmD k; rw [Int.zero_add]
  | D + 1 => by
    funext k
    show PmA a b c d f (D + 1) (D + 1) k + f (D + 1) * PmN c d (D + 1) (PmN a b (D + 1 - (D + 1)) PmD) k = 1 * PmW a b (PmX a b c d f D) k + f (D + 1) * PmN c d (D + 1) PmD k
    rw [PmA.w a b c d f D (D + 1) (by omega), PmA.x a b c d f D, Nat.sub_self, Int.one_mul]; rfl
theorem wdF.e {p u v : Int} {f g : Nat → Int} {k : Nat} (h : PmE p (f k) (g k)) (h1 : k ≠ 0 → PmE p (f (k - 1)) (g (k - 1))) : PmE p (wdF p u v f k) (PmW u v g k) := by
  unfold wdF PmW
  refine (PmE.tm _).tr (PmE.ad ((PmE.tm _).tr ?_) ?_)
  · rw [Int.mul_comm]; exact PmE.rf.ml h
  · by_cases q : k = 0
    · rw [if_pos q, if_pos q, Int.mul_zero]; exact PmE.rf
    · rw [if_neg q, if_neg q]
      refine (PmE.tm _).tr ?_
      rw [Int.mul_comm]; exact PmE.rf.ml (h1 q)
theorem wdN.e {p u v : Int} {f g : Nat → Int} {D : Nat} (h : ∀ k, PmE p (ctF D f k) (g k)) (hg : PmS g D) : ∀ n k, PmE p (ctF ((D + n : Nat) : Int) (wdN p u v n D f) k) (PmN u v n g k)
  | 0, k => h k
  | n + 1, k => by
    have ih := wdN.e (u := u) (v := v) h hg n
    unfold ctF
    by_cases q : (k : Int) ≤ ((D + (n + 1) : Nat) : Int)
    · rw [if_pos q]
      exact wdF.e (ih k) (fun _ => ih (k - 1))
    · rw [if_neg q, (PmS.n (u := u) (v := v) hg (n + 1)) k (by omega)]; exact PmE.rf
theorem PmN.sc (u v x : Int) (f : Nat → Int) : ∀ n k, PmN u v n (fun j => x * f j) k = x * PmN u v n f k
  | 0, k => rfl
  | n + 1, k => by
    show u * PmN u v n (fun j => x * f j) k + v * (if k = 0 then 0 else PmN u v n (fun j => x * f j) (k - 1)) = x * (u * PmN u v n f k + v * (if k = 0 then 0 else PmN u v n f (k - 1)))
    rw [PmN.sc u v x f n k, PmN.sc u v x f n (k - 1)]
    by_cases h : k = 0
    · rw [if_pos h, if_pos h]; grind
    · rw [if_neg h, if_neg h]; grind
theorem mxG.e {p a b c d : Int} {D : Nat} {f : Nat → Int} {k i : Nat} (hk : k ≤ D) (hi : i ≤ D) : PmE p (mxG p a b c d D f k i) (f k * PmN c d k (PmN a b (D - k) PmD) i) := by
  unfold mxG
  have e0 : ∀ j, PmE p (ctF ((0 : Nat) : Int) (fun _ => f k) j) ((fun j => f k * PmD j) j) := fun j => by
    show PmE p (ctF ((0 : Nat) : Int) (fun _ => f k) j) (f k * PmD j)
    unfold ctF PmD
    by_cases q : j = 0
    · subst q; simp; exact PmE.rf
    · rw [if_neg (by omega), if_neg q, Int.mul_zero]; exact PmE.rf
  have s0 : PmS (fun j => f k * PmD j) 0 := fun j hj => by show f k * PmD j = 0; rw [PmS.d j hj, Int.mul_zero]
  have e1 := wdN.e (p := p) (u := a) (v := b) e0 s0 (D - k)
  have e2 := wdN.e (p := p) (u := c) (v := d) (D := D - k) (g := PmN a b (D - k) (fun j => f k * PmD j)) (f := wdN p a b (D - k) 0 (fun _ => f k)) (fun j => by have := e1 j; rwa [Nat.zero_add] at this) (by have := PmS.n (u := a) (v := b) s0 (D - k); rwa [Nat.zero_add] at this) k i
  rw [show D - k + k = D from by omega] at e2
  have e3 : ctF ((D : Nat) : Int) (wdN p c d k (D - k) (wdN p a b (D - k) 0 (fun _ => f k))) i = wdN p c d k (D - k) (wdN p a b (D - k) 0 (fun _ => f k)) i := if_pos (by omega)
  rw [e3] at e2
  have e4 : PmN a b (D - k) (fun j => f k * PmD j) = fun j => f k * PmN a b (D - k) PmD j := funext fun j => PmN.sc a b (f k) PmD (D - k) j
  rw [e4, PmN.sc] at e2
  exact e2
theorem mxS.e {p a b c d : Int} {D : Nat} {f : Nat → Int} {i : Nat} (hi : i ≤ D) : ∀ m, m ≤ D + 1 → PmE p (mxS p a b c d D f m i) (PmA a b c d f D m i)
  | 0, _ => PmE.rf
  | m + 1, h => by
    rw [mxS.s]
    exact (PmE.tm _).tr ((mxS.e hi m (by omega)).ad (mxG.e (by omega) hi))
theorem mxS.x {p a b c d : Int} {D : Nat} {f : Nat → Int} {i : Nat} (hi : i ≤ D) : PmE p (mxS p a b c d D f (D + 1) i) (PmX a b c d f D i) := by
  have h := mxS.e (p := p) (a := a) (b := b) (c := c) (d := d) (f := f) hi (D + 1) (by omega)
  rwa [PmA.x] at h
/-- the reference's sums are never below 0 -/
theorem wdF.p {p u v : Int} {f : Nat → Int} {k : Nat} (hp : 0 < p) (hu : 0 ≤ u) (hv : 0 ≤ v) (h : ∀ k, 0 ≤ f k) : 0 ≤ wdF p u v f k := by
  unfold wdF
  refine Int.tmod_nonneg _ (Int.add_nonneg (Int.tmod_nonneg _ (Int.mul_nonneg (h k) hu)) ?_)
  by_cases q : k = 0
  · rw [if_pos q]; exact Int.le_refl 0
  · rw [if_neg q]; exact Int.tmod_nonneg _ (Int.mul_nonneg (h _) hv)
theorem ctF.p {D : Int} {f : Nat → Int} (h : ∀ k, 0 ≤ f k) (k : Nat) : 0 ≤ ctF D f k := by
  unfold ctF
  by_cases q : (k : Int) ≤ D
  · rw [if_pos q]; exact h k
  · rw [if_neg q]; exact Int.le_refl 0
theorem wdN.p {p u v : Int} {f : Nat → Int} {D : Nat} (hp : 0 < p) (hu : 0 ≤ u) (hv : 0 ≤ v) (h : ∀ k, 0 ≤ f k) : ∀ n k, 0 ≤ wdN p u v n D f k
  | 0, k => h k
  | n + 1, k => wdF.p hp hu hv (ctF.p (wdN.p hp hu hv h n))
theorem mxS.p {p a b c d : Int} {D : Nat} {f : Nat → Int} (hp : 0 < p) (ha : 0 ≤ a) (hb : 0 ≤ b) (hc : 0 ≤ c) (hd : 0 ≤ d) {i : Nat} : ∀ m, (∀ k, k < m → 0 ≤ f k) → 0 ≤ mxS p a b c d D f m i
  | 0, _ => Int.le_refl 0
  | m + 1, h => by
    rw [mxS.s]
    exact Int.tmod_nonneg _ (Int.add_nonneg (mxS.p hp ha hb hc hd m (fun k hk => h k (by omega))) (wdN.p hp hc hd (wdN.p hp ha hb (fun _ => h m (by omega)) _) _ _))
