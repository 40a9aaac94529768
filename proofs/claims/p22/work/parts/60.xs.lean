/-! tables looked for: exactly -/
def IMX (w x y : Int32) : Prop := -2147483648 ≤ x.toInt * y.toInt → x.toInt * y.toInt < 2147483648 → w.toInt = x.toInt * y.toInt
section AutoB
variable {d : Nat} {q : mm_T} {mc ms : Nat} {Post : Po} {V : V_T} {pc pc2 : Nat} {lv : List (Nat × Value)} {r : List Value} {ck sk : Nat}
theorem z_imulE (C : Cl d q mc ms Post V) {M : Mm} {x y : Int32} (hi : cdf q.2.2.2.2.2.2 pc = some (.imul, 1)) (hp : pc + 1 = pc2) (h : ∀ w : Int32, IMX w x y → V pc2 lv (.int w :: r) M ck sk) : V pc lv (.int y :: .int x :: r) M ck sk := k_imul C hi hp (h _ (fun h1 h2 => ii_mul ⟨h1, h2⟩))
end AutoB
/-- a mixed form's value -/
theorem PmE.sbt {p x y z w : Int} (h : PmE p x y) (g : PmE p z w) : PmE p (x - z) (y - w) := by unfold PmE at *; rw [Int.sub_emod, h, g, ← Int.sub_emod]
theorem HRV.lin (x y s t : Int) (f g : Nat → Int) : ∀ m, HRV x y (PmL s f t g) m = s * HRV x y f m + t * HRV x y g m
  | 0 => by show (0 : Int) = s * 0 + t * 0; omega
  | m + 1 => by
    show HRV x y (PmL s f t g) m * x + (s * f m + t * g m) * POW y m = s * (HRV x y f m * x + f m * POW y m) + t * (HRV x y g m * x + g m * POW y m)
    rw [HRV.lin x y s t f g m]; grind
theorem HRV.sh (x y : Int) (g : Nat → Int) : ∀ m, HRV x y (fun k => if k = 0 then 0 else g (k - 1)) (m + 1) = y * HRV x y g m
  | 0 => by show (0 : Int) * x + 0 * 1 = y * 0; omega
  | m + 1 => by
    show HRV x y (fun k => if k = 0 then 0 else g (k - 1)) (m + 1) * x + (if m + 1 = 0 then 0 else g (m + 1 - 1)) * POW y (m + 1) = y * (HRV x y g m * x + g m * POW y m)
    rw [HRV.sh x y g m, if_neg (by omega)]
    show y * HRV x y g m * x + g m * (POW y m * y) = _
    grind
theorem HRV.w (x y u v : Int) (g : Nat → Int) (n : Nat) (h : g (n + 1) = 0) : HRV x y (PmW u v g) (n + 2) = (u * x + v * y) * HRV x y g (n + 1) := by
  have e : PmW u v g = PmL u g v (fun k => if k = 0 then 0 else g (k - 1)) := rfl
  rw [e, HRV.lin, HRV.sh]
  show u * (HRV x y g (n + 1) * x + g (n + 1) * POW y (n + 1)) + v * (y * HRV x y g (n + 1)) = _
  rw [h]; grind
theorem HRV.n (x y u v : Int) : ∀ n, HRV x y (PmN u v n PmD) (n + 1) = POW (u * x + v * y) n
  | 0 => by show (0 : Int) * x + PmD 0 * 1 = 1; rw [show PmD 0 = 1 from rfl]; omega
  | n + 1 => by
    show HRV x y (PmW u v (PmN u v n PmD)) (n + 2) = POW (u * x + v * y) n * (u * x + v * y)
    rw [HRV.w x y u v _ n ((PmS.n PmS.d n) _ (by omega)), HRV.n x y u v n, Int.mul_comm]
theorem HRV.x (x y a b c d : Int) (f : Nat → Int) : ∀ n, HRV x y (PmX a b c d f n) (n + 1) = HRV (a * x + b * y) (c * x + d * y) f (n + 1)
  | 0 => by
    show (0 : Int) * x + (f 0 * PmD 0) * 1 = 0 * (a * x + b * y) + f 0 * 1
    rw [show PmD 0 = 1 from rfl]; grind
  | n + 1 => by
    have e : PmX a b c d f (n + 1) = PmL 1 (PmW a b (PmX a b c d f n)) (f (n + 1)) (PmN c d (n + 1) PmD) := rfl
    rw [e, HRV.lin, HRV.w x y a b _ n (PmS.x a b c d f n _ (by omega)), HRV.n, HRV.x x y a b c d f n]
    show 1 * ((a * x + b * y) * HRV (a * x + b * y) (c * x + d * y) f (n + 1)) + f (n + 1) * POW (c * x + d * y) (n + 1) = HRV (a * x + b * y) (c * x + d * y) f (n + 1) * (a * x + b * y) + f (n + 1) * POW (c * x + d * y) (n + 1)
    rw [Int.one_mul, Int.mul_comm]
theorem POW.one : ∀ n, POW 1 n = 1
  | 0 => rfl
  | n + 1 => by show POW 1 n * 1 = 1; rw [POW.one n]; rfl
theorem POW.pe {p x y : Int} (h : PmE p x y) : ∀ n, PmE p (POW x n) (POW y n)
  | 0 => PmE.rf
  | n + 1 => (POW.pe h n).ml h
theorem HRV.pe {p x y x' y' : Int} {f g : Nat → Int} (hx : PmE p x x') (hy : PmE p y y') : ∀ n, (∀ k, k < n → PmE p (f k) (g k)) → PmE p (HRV x y f n) (HRV x' y' g n)
  | 0, _ => PmE.rf
  | n + 1, h => ((HRV.pe hx hy n (fun k hk => h k (by omega))).ml hx).ad ((h n (by omega)).ml (POW.pe hy n))
/-- divided by x less r: the quotient's numbers, and the rest -/
theorem HRV.dv (t r : Int) (f : Nat → Int) : ∀ n, HRV t 1 f (n + 1) = (t - r) * HRV t 1 (fun k => HRV r 1 f (k + 1)) n + HRV r 1 f (n + 1)
  | 0 => by show (0 : Int) * t + f 0 * 1 = (t - r) * 0 + (0 * r + f 0 * 1); omega
  | n + 1 => by
    have e1 : HRV t 1 f (n + 2) = HRV t 1 f (n + 1) * t + f (n + 1) * POW 1 (n + 1) := rfl
    have e2 : HRV r 1 f (n + 2) = HRV r 1 f (n + 1) * r + f (n + 1) * POW 1 (n + 1) := rfl
    have e3 : HRV t 1 (fun k => HRV r 1 f (k + 1)) (n + 1) = HRV t 1 (fun k => HRV r 1 f (k + 1)) n * t + HRV r 1 f (n + 1) * POW 1 n := rfl
    rw [e1, e2, e3, HRV.dv t r f n, POW.one, POW.one]; grind
/-- no two numbers but 0 make 0 in the field -/
theorem PRM.z {p a z : Int} (hp : PRM p) (h0 : 0 < a) (h1 : a < p) (h : PmE p (a * z) 0) : PmE p z 0 := by
  have key : ∃ b, PmE p (b * a) 1 := by
    have d : ∀ q : Nat, q = 11 ∨ q = 13 ∨ q = 17 ∨ q = 19 → ∀ a : Nat, a < 19 → 0 < a → a < q → ∃ b : Nat, b < 19 ∧ (b * a) % q = 1 := by
      rintro q (rfl | rfl | rfl | rfl) <;> decide
    obtain ⟨b, -, hb⟩ := d p.toNat (by unfold PRM at hp; omega) a.toNat (by unfold PRM at hp; omega) (by omega) (by omega)
    refine ⟨(b : Int), ?_⟩
    have e1 : ((a.toNat : Nat) : Int) = a := by omega
    have e2 : ((p.toNat : Nat) : Int) = p := by omega
    have e3 : (((b * a.toNat) % p.toNat : Nat) : Int) = 1 := by rw [hb]; rfl
    rw [Int.natCast_emod, Int.natCast_mul, e1, e2] at e3
    show (b : Int) * a % p = 1 % p
    rw [e3]
    have : 1 < p := by unfold PRM at hp; omega
    exact (Int.emod_eq_of_lt (by decide) this).symm
  obtain ⟨b, hb⟩ := key
  have q : PmE p (b * (a * z)) (b * 0) := PmE.rf.ml h
  rw [← Int.mul_assoc, Int.mul_zero] at q
  have q2 : PmE p (b * a * z) (1 * z) := hb.ml PmE.rf
  rw [Int.one_mul] at q2
  exact q2.sy.tr q
/-- a polynomial of fewer numbers than points where it is nought -/
theorem HRV.zz {p : Int} (hp : PRM p) : ∀ (n : Nat) (f : Nat → Int), (n : Int) ≤ p → (∀ t : Nat, t < n → PmE p (HRV t 1 f n) 0) → ∀ k, k < n → PmE p (f k) 0
  | 0, _, _, _, k, hk => absurd hk (by omega)
  | n + 1, f, hn, h, k, hk => by
    have r0 := h n (by omega)
    have hq : ∀ k, k < n → PmE p (HRV (n : Int) 1 f (k + 1)) 0 := HRV.zz hp n (fun k => HRV (n : Int) 1 f (k + 1)) (by omega) (fun t ht => by
      have a := h t (by omega)
      rw [HRV.dv t n f n] at a
      have b : PmE p (((t : Int) - n) * HRV t 1 (fun k => HRV (n : Int) 1 f (k + 1)) n) 0 := by
        have c := PmE.sbt a r0
        rw [Int.add_sub_cancel, Int.sub_zero] at c; exact c
      have c : PmE p (((n : Int) - t) * HRV t 1 (fun k => HRV (n : Int) 1 f (k + 1)) n) 0 := by
        have c := PmE.sbt (p := p) (x := 0) (y := 0) PmE.rf b
        rw [Int.sub_zero, Int.zero_sub, ← Int.neg_mul] at c
        rwa [show -((t : Int) - n) = (n : Int) - t from by omega] at c
      exact PRM.z hp (by omega) (by omega) c)
    have a0 : ∀ j, j < n + 1 → PmE p (HRV (n : Int) 1 f (j + 1)) 0 := fun j hj => by
      by_cases q : j = n
      · subst q; exact r0
      · exact hq j (by omega)
    have ak := a0 k hk
    have e : HRV (n : Int) 1 f (k + 1) = HRV (n : Int) 1 f k * n + f k * POW 1 k := rfl
    rw [e, POW.one, Int.mul_one] at ak
    cases k with
    | zero =>
      have z : HRV (n : Int) 1 f 0 = 0 := rfl
      rw [z, Int.zero_mul, Int.zero_add] at ak; exact ak
    | succ k =>
      have b := (a0 k (by omega)).ml (PmE.rf (x := (n : Int)))
      rw [Int.zero_mul] at b
      have c := PmE.sbt ak b
      rwa [Int.sub_zero, Int.add_comm, Int.add_sub_cancel] at c
theorem HRV.sb (x y : Int) (f g : Nat → Int) (m : Nat) : HRV x y (fun k => f k - g k) m = HRV x y f m - HRV x y g m := by
  have e : (fun k => f k - g k) = PmL 1 f (-1) g := by funext k; show f k - g k = 1 * f k + -1 * g k; omega
  rw [e, HRV.lin]; omega
theorem POW.z0 : ∀ n, POW 0 (n + 1) = 0
  | n => by show POW 0 n * 0 = 0; exact Int.mul_zero _
theorem HRV.e1 (f : Nat → Int) : ∀ n, HRV 1 0 f (n + 1) = f 0
  | 0 => by show (0 : Int) * 1 + f 0 * 1 = f 0; omega
  | n + 1 => by
    show HRV 1 0 f (n + 1) * 1 + f (n + 1) * POW 0 (n + 1) = f 0
    rw [HRV.e1 f n, POW.z0]; omega
theorem HRV.t1 (x y : Int) (f : Nat → Int) : ∀ n, HRV x y f (n + 1) = f 0 * POW x n + y * HRV x y (fun k => f (k + 1)) n
  | 0 => by show (0 : Int) * x + f 0 * 1 = f 0 * 1 + y * 0; omega
  | n + 1 => by
    show HRV x y f (n + 1) * x + f (n + 1) * POW y (n + 1) = f 0 * POW x (n + 1) + y * (HRV x y (fun k => f (k + 1)) n * x + f (n + 1) * POW y n)
    rw [HRV.t1 x y f n]
    show (f 0 * POW x n + y * HRV x y (fun k => f (k + 1)) n) * x + f (n + 1) * (POW y n * y) = f 0 * (POW x n * x) + y * (HRV x y (fun k => f (k + 1)) n * x + f (n + 1) * POW y n)
    grind
/-- two forms of one degree that are the same at x 1, y 0 and at the first points -/
theorem HRV.eq {p : Int} (hp : PRM p) {D : Nat} (hD : (D : Int) ≤ 8) {f g : Nat → Int} (h0 : PmE p (HRV 1 0 f (D + 1)) (HRV 1 0 g (D + 1))) (h : ∀ t : Nat, t < D → PmE p (HRV t 1 f (D + 1)) (HRV t 1 g (D + 1))) : ∀ k, k ≤ D → PmE p (f k) (g k) := by
  have z0 : PmE p (f 0 - g 0) 0 := by
    rw [HRV.e1, HRV.e1] at h0
    have := PmE.sbt h0 (PmE.rf (x := g 0))
    rwa [Int.sub_self] at this
  have hz := HRV.zz hp D (fun k => f (k + 1) - g (k + 1)) (by unfold PRM at hp; omega) (fun t ht => by
    have a := PmE.sbt (h t ht) (PmE.rf (x := HRV t 1 g (D + 1)))
    rw [Int.sub_self, ← HRV.sb, HRV.t1, Int.one_mul] at a
    have b := (z0.ml (PmE.rf (x := POW (t : Int) D)))
    rw [Int.zero_mul] at b
    have c := PmE.sbt a b
    rwa [Int.sub_zero, Int.add_comm, Int.add_sub_cancel] at c)
  intro k hk
  have fin : PmE p (f k - g k) 0 := by
    cases k with
    | zero => exact z0
    | succ k => exact hz k (by omega)
  have := fin.ad (PmE.rf (x := g k))
  rwa [Int.sub_add_cancel, Int.zero_add] at this
/-- a table makes g of f -/
def MTB (p D : Int) (f g : Nat → Int) (a b c d : Nat) : Prop := dt p a b c d ≠ 0 ∧ ∀ k : Nat, (k : Int) ≤ D → PmE p (PmX a b c d f D.toNat k) (g k)
/-- a value, within p -/
def EV (p : Int) (f : Nat → Int) (D x y : Int) : Int := HRV x y f (D + 1).toNat % p
def ptX (k : Nat) : Int := if k = 0 then 1 else (k : Int) - 1
def ptY (k : Nat) : Int := if k = 0 then 0 else 1
theorem MTB.iff {p D : Int} {f g : Nat → Int} {a b c d : Nat} (hp : PRM p) (h1 : 1 ≤ D) (h8 : D ≤ 8) : MTB p D f g a b c d ↔ (EV p f D a c = EV p g D (ptX 0) (ptY 0) ∧ EV p f D b d = EV p g D (ptX 1) (ptY 1) ∧ dt p a b c d ≠ 0 ∧ ∀ k : Nat, 2 ≤ k → (k : Int) ≤ D → EV p f D ((a * ptX k + b) % p) ((c * ptX k + d) % p) = EV p g D (ptX k) (ptY k)) := by
  have eN : (D + 1).toNat = D.toNat + 1 := by omega
  have val : ∀ x y : Int, EV p f D (a * x + b * y) (c * x + d * y) = EV p (PmX a b c d f D.toNat) D x y := fun x y => by
    unfold EV; rw [eN, ← HRV.x]
  have v0 : EV p f D a c = EV p (PmX a b c d f D.toNat) D 1 0 := by
    have := val 1 0
    rwa [Int.mul_one, Int.mul_one, Int.mul_zero, Int.mul_zero, Int.add_zero, Int.add_zero] at this
  have v1 : EV p f D b d = EV p (PmX a b c d f D.toNat) D 0 1 := by
    have := val 0 1
    rwa [Int.mul_one, Int.mul_one, Int.mul_zero, Int.mul_zero, Int.zero_add, Int.zero_add] at this
  have vk : ∀ x : Int, EV p f D ((a * x + b) % p) ((c * x + d) % p) = EV p (PmX a b c d f D.toNat) D x 1 := fun x => by
    have := val x 1
    rw [Int.mul_one, Int.mul_one] at this
    rw [← this]
    exact HRV.pe (PmE.em _) (PmE.em _) _ (fun _ _ => PmE.rf)
  have x0 : ptX 0 = 1 ∧ ptY 0 = 0 := ⟨rfl, rfl⟩
  have x1 : ptX 1 = 0 ∧ ptY 1 = 1 := ⟨rfl, rfl⟩
  constructor
  · rintro ⟨h, q⟩
    have m : ∀ x y : Int, EV p (PmX a b c d f D.toNat) D x y = EV p g D x y := fun x y => HRV.pe PmE.rf PmE.rf _ (fun k hk => q k (by omega))
    refine ⟨by rw [v0, m]; rfl, by rw [v1, m, x1.1, x1.2], h, fun k h2 hk => ?_⟩
    rw [vk, m]
    have : ptY k = 1 := if_neg (by omega)
    rw [this]
  · rintro ⟨q0, q1, h, qk⟩
    refine ⟨h, fun k hk => HRV.eq hp (D := D.toNat) (by omega) ?_ (fun t ht => ?_) k (by omega)⟩
    · rw [v0, x0.1, x0.2] at q0
      unfold EV at q0; rw [eN] at q0; exact q0
    · by_cases z : t = 0
      · subst z
        rw [v1, x1.1, x1.2] at q1
        unfold EV at q1; rw [eN] at q1; exact q1
      · have a9 := qk (t + 1) (by omega) (by omega)
        have e1 : ptX (t + 1) = t := by unfold ptX; rw [if_neg (by omega)]; omega
        have e2 : ptY (t + 1) = 1 := if_neg (by omega)
        rw [vk, e1, e2] at a9
        unfold EV at a9; rw [eN] at a9; exact a9
theorem MTB.cg {p D : Int} {f f' g g' : Nat → Int} {a b c d : Nat} (hf : ∀ k : Nat, (k : Int) ≤ D → f k = f' k) (hg : ∀ k : Nat, (k : Int) ≤ D → g k = g' k) (h : MTB p D f g a b c d) (h0 : 0 ≤ D) : MTB p D f' g' a b c d := ⟨h.1, fun k hk => by
  rw [← hg k hk]
  exact (PmX.e PmE.rf PmE.rf PmE.rf PmE.rf _ (fun j hj => by rw [hf j (by omega)]; exact PmE.rf) k).sy.tr (h.2 k hk)⟩
/-- sums, counts -/
noncomputable def IND (P : Prop) : Int := @ite Int P (Classical.propDecidable _) 1 0
theorem IND.y {P : Prop} (h : P) : IND P = 1 := @if_pos _ (Classical.propDecidable _) h _ _ _
theorem IND.n {P : Prop} (h : ¬ P) : IND P = 0 := @if_neg _ (Classical.propDecidable _) h _ _ _
theorem IND.c {P Q : Prop} (h : P ↔ Q) : IND P = IND Q := by rw [propext h]
theorem IND.an {P Q : Prop} : IND (P ∧ Q) = IND P * IND Q := by
  by_cases p : P
  · by_cases q : Q
    · rw [IND.y ⟨p, q⟩, IND.y p, IND.y q]; rfl
    · rw [IND.n (fun h => q h.2), IND.n q, Int.mul_zero]
  · rw [IND.n (fun h => p h.1), IND.n p, Int.zero_mul]
def SUMN (F : Nat → Int) : Nat → Int
  | 0 => 0
  | n + 1 => SUMN F n + F n
theorem SUMN.cg {F G : Nat → Int} : ∀ n, (∀ i, i < n → F i = G i) → SUMN F n = SUMN G n
  | 0, _ => rfl
  | n + 1, h => by show SUMN F n + F n = SUMN G n + G n; rw [SUMN.cg n (fun i hi => h i (by omega)), h n (by omega)]
theorem SUMN.ad (F G : Nat → Int) : ∀ n, SUMN (fun i => F i + G i) n = SUMN F n + SUMN G n
  | 0 => rfl
  | n + 1 => by show SUMN (fun i => F i + G i) n + (F n + G n) = SUMN F n + F n + (SUMN G n + G n); rw [SUMN.ad F G n]; omega
theorem SUMN.z : ∀ n, SUMN (fun _ => 0) n = 0
  | 0 => rfl
  | n + 1 => by show SUMN (fun _ => 0) n + 0 = 0; rw [SUMN.z n]; rfl
theorem SUMN.sc (x : Int) (F : Nat → Int) : ∀ n, SUMN (fun i => x * F i) n = x * SUMN F n
  | 0 => (Int.mul_zero x).symm
  | n + 1 => by show SUMN (fun i => x * F i) n + x * F n = x * (SUMN F n + F n); rw [SUMN.sc x F n, Int.mul_add]
theorem SUMN.sw (F : Nat → Nat → Int) (m : Nat) : ∀ n, SUMN (fun i => SUMN (fun j => F i j) m) n = SUMN (fun j => SUMN (fun i => F i j) n) m
  | 0 => by show (0 : Int) = SUMN (fun _ => 0) m; rw [SUMN.z]
  | n + 1 => by
    show SUMN (fun i => SUMN (fun j => F i j) m) n + SUMN (fun j => F n j) m = SUMN (fun j => SUMN (fun i => F i j) n + F n j) m
    rw [SUMN.sw F m n, SUMN.ad]
theorem SUMN.p {F : Nat → Int} (h : ∀ i, 0 ≤ F i) : ∀ n, 0 ≤ SUMN F n
  | 0 => Int.le_refl 0
  | n + 1 => Int.add_nonneg (SUMN.p h n) (h n)
theorem SUMN.pos {F : Nat → Int} (h : ∀ i, 0 ≤ F i) : ∀ {n : Nat}, 0 < SUMN F n → ∃ i, i < n ∧ 0 < F i
  | 0, q => absurd q (Int.lt_irrefl 0)
  | n + 1, q => by
    have q : 0 < SUMN F n + F n := q
    by_cases c : 0 < F n
    · exact ⟨n, by omega, c⟩
    · obtain ⟨i, hi, hF⟩ := SUMN.pos h (n := n) (by omega)
      exact ⟨i, by omega, hF⟩
theorem SUMN.ge {F : Nat → Int} (h : ∀ i, 0 ≤ F i) : ∀ {n i : Nat}, i < n → F i ≤ SUMN F n
  | 0, i, q => absurd q (by omega)
  | n + 1, i, q => by
    show F i ≤ SUMN F n + F n
    have a := SUMN.p h n
    have b := h n
    by_cases c : i = n
    · subst c; omega
    · have := SUMN.ge h (n := n) (i := i) (by omega); omega
theorem IND.p (P : Prop) : 0 ≤ IND P ∧ IND P ≤ 1 := by
  by_cases p : P
  · rw [IND.y p]; decide
  · rw [IND.n p]; decide
/-- how many tables -/
noncomputable def CN4 (p : Nat) (P : Nat → Nat → Nat → Nat → Prop) : Int := SUMN (fun a => SUMN (fun b => SUMN (fun c => SUMN (fun d => IND (P a b c d)) p) p) p) p
theorem CN4.cg {p : Nat} {P Q : Nat → Nat → Nat → Nat → Prop} (h : ∀ a b c d, a < p → b < p → c < p → d < p → (P a b c d ↔ Q a b c d)) : CN4 p P = CN4 p Q := SUMN.cg _ fun a ha => SUMN.cg _ fun b hb => SUMN.cg _ fun c hc => SUMN.cg _ fun d hd => IND.c (h a b c d ha hb hc hd)
def cod (a b c d : Nat) : Int := ((20 * a + b) * 20 + c) * 20 + d
/-- the first of them, told as a number -/
def MNC (p : Nat) (P : Nat → Nat → Nat → Nat → Prop) (x : Int) : Prop := (x = -1 ∧ ∀ a b c d, a < p → b < p → c < p → d < p → ¬ P a b c d) ∨ ((∃ a b c d, a < p ∧ b < p ∧ c < p ∧ d < p ∧ P a b c d ∧ x = cod a b c d) ∧ ∀ a b c d, a < p → b < p → c < p → d < p → P a b c d → x ≤ cod a b c d)
theorem MNC.u {p : Nat} {P Q : Nat → Nat → Nat → Nat → Prop} {x y : Int} (h : MNC p P x) (g : MNC p Q y) (e : ∀ a b c d, a < p → b < p → c < p → d < p → (P a b c d ↔ Q a b c d)) : x = y := by
  rcases h with ⟨hx, h⟩ | ⟨⟨a, b, c, d, ha, hb, hc, hd, hP, hx⟩, h⟩
  · rcases g with ⟨gy, g⟩ | ⟨⟨a', b', c', d', ha', hb', hc', hd', hQ, gy⟩, g⟩
    · omega
    · exact absurd ((e _ _ _ _ ha' hb' hc' hd').mpr hQ) (h _ _ _ _ ha' hb' hc' hd')
  · rcases g with ⟨gy, g⟩ | ⟨⟨a', b', c', d', ha', hb', hc', hd', hQ, gy⟩, g⟩
    · exact absurd ((e _ _ _ _ ha hb hc hd).mp hP) (g _ _ _ _ ha hb hc hd)
    · have h1 := h _ _ _ _ ha' hb' hc' hd' ((e _ _ _ _ ha' hb' hc' hd').mpr hQ)
      have g1 := g _ _ _ _ ha hb hc hd ((e _ _ _ _ ha hb hc hd).mp hP)
      omega
theorem MNC.s {p : Nat} {P : Nat → Nat → Nat → Nat → Prop} {x : Int} (h : MNC p P x) : (0 ≤ x ↔ ∃ a b c d, a < p ∧ b < p ∧ c < p ∧ d < p ∧ P a b c d) := by
  rcases h with ⟨hx, h⟩ | ⟨⟨a, b, c, d, ha, hb, hc, hd, hP, hx⟩, h⟩
  · exact ⟨fun q => by omega, fun ⟨a, b, c, d, ha, hb, hc, hd, hP⟩ => absurd hP (h _ _ _ _ ha hb hc hd)⟩
  · exact ⟨fun _ => ⟨a, b, c, d, ha, hb, hc, hd, hP⟩, fun _ => by rw [hx]; unfold cod; omega⟩
/-- the pairs chosen -/
def CHO (pr : Nat → Int) (V : Nat → Nat → Prop) (p : Nat) (m x y : Int) : Prop :=
  (0 ≤ m ∧ m ≤ 19 * x + y) ∧ (∀ i : Nat, (i : Int) < m → ∃ a c : Nat, a < p ∧ c < p ∧ V a c ∧ pr i = 20 * a + c)
  ∧ (∀ a c : Nat, c < p → ((a : Int) < x ∨ (a : Int) = x ∧ (c : Int) < y) → V a c → ∃ i : Nat, (i : Int) < m ∧ pr i = 20 * a + c)
  ∧ ∀ G : Nat → Nat → Int, SUMN (fun i => G ((pr i).toNat / 20) ((pr i).toNat % 20)) m.toNat = SUMN (fun a => SUMN (fun c => IND (V a c) * G a c) p) x.toNat + SUMN (fun c => IND (V x.toNat c) * G x.toNat c) y.toNat
theorem CHO.z {pr : Nat → Int} {V : Nat → Nat → Prop} {p : Nat} {m x y : Int} (hm : m = 0) (hx : x = 0) (hy : y = 0) : CHO pr V p m x y := by
  subst hm; subst hx; subst hy
  exact ⟨by omega, fun i hi => by omega, fun a c _ h => by omega, fun G => rfl⟩
theorem CHO.c {pr : Nat → Int} {V : Nat → Nat → Prop} {p : Nat} {m x y y' : Int} (h : CHO pr V p m x y) (e : y' = y) : CHO pr V p m x y' := by subst e; exact h
theorem CHO.n {pr : Nat → Int} {V : Nat → Nat → Prop} {p : Nat} {m x y x' y' : Int} (h : CHO pr V p m x y) (hy : y = p) (hp : p ≤ 19) (h0 : 0 ≤ x) (hx : x' = x + 1) (hy' : y' = 0) : CHO pr V p m x' y' := by
  obtain ⟨h1, h2, h3, h4⟩ := h
  subst hx; subst hy'
  refine ⟨by omega, h2, fun a c hc q hV => h3 a c hc (by omega) hV, fun G => ?_⟩
  rw [h4 G, show (x + 1).toNat = x.toNat + 1 from by omega, hy]
  show _ = SUMN (fun a => SUMN (fun c => IND (V a c) * G a c) p) x.toNat + SUMN (fun c => IND (V x.toNat c) * G x.toNat c) p + 0
  rw [show ((p : Int)).toNat = p from by omega]; omega
theorem CHO.o {pr : Nat → Int} {V : Nat → Nat → Prop} {p : Nat} {m x y y' : Int} (h : CHO pr V p m x y) (hV : ¬ V x.toNat y.toNat) (hx : 0 ≤ x) (hy : 0 ≤ y) (hy' : y' = y + 1) : CHO pr V p m x y' := by
  obtain ⟨h1, h2, h3, h4⟩ := h
  subst hy'
  refine ⟨by omega, h2, fun a c hc q hq => h3 a c hc ?_ hq, fun G => ?_⟩
  · by_cases z : (a : Int) = x ∧ (c : Int) = y
    · exact absurd (by rw [show a = x.toNat from by omega, show c = y.toNat from by omega] at hq; exact hq) hV
    · omega
  · rw [h4 G, show (y + 1).toNat = y.toNat + 1 from by omega]
    show _ = _ + (SUMN (fun c => IND (V x.toNat c) * G x.toNat c) y.toNat + IND (V x.toNat y.toNat) * G x.toNat y.toNat)
    rw [IND.n hV]; omega
theorem CHO.y {I I' : IT} {b : Nat} {V : Nat → Nat → Prop} {p : Nat} {x : Int} {y' m' y : Int} {m v : Int32} (h : CHO (fun i => (I b i).toInt) V p m.toInt x y) (hV : V x.toNat y.toNat) (u : I' = u2 I b m.toNatClampNeg v) (hv : v.toInt = 20 * x + y) (hx : 0 ≤ x) (hxp : x < p) (hy : 0 ≤ y) (hyp : y < p) (hp : p ≤ 19) (hm' : m' = m.toInt + 1) (hy' : y' = y + 1) : CHO (fun i => (I' b i).toInt) V p m' x y' := by
  obtain ⟨h1, h2, h3, h4⟩ := h
  have n0 := ncz h1.1
  have old : ∀ i : Nat, (i : Int) < m.toInt → (I' b i).toInt = (I b i).toInt := fun i hi => by rw [u, u2_k (by omega)]
  have new : (I' b m.toNatClampNeg).toInt = 20 * x + y := by rw [u, u2_s]; exact hv
  subst hy'; subst hm'
  refine ⟨by omega, fun i hi => ?_, fun a c hc q hq => ?_, fun G => ?_⟩
  · by_cases z : i = m.toNatClampNeg
    · subst z
      exact ⟨x.toNat, y.toNat, by omega, by omega, hV, by show (I' b m.toNatClampNeg).toInt = _; rw [new]; omega⟩
    · obtain ⟨a, c, ha, hc, hq, e⟩ := h2 i (by omega)
      exact ⟨a, c, ha, hc, hq, by show (I' b i).toInt = _; rw [old i (by omega)]; exact e⟩
  · by_cases z : (a : Int) = x ∧ (c : Int) = y
    · exact ⟨m.toNatClampNeg, by omega, by show (I' b m.toNatClampNeg).toInt = _; rw [new]; omega⟩
    · obtain ⟨i, hi, e⟩ := h3 a c hc (by omega) hq
      exact ⟨i, by omega, by show (I' b i).toInt = _; rw [old i (by omega)]; exact e⟩
  · rw [show (m.toInt + 1).toNat = m.toInt.toNat + 1 from by omega, show (y + 1).toNat = y.toNat + 1 from by omega]
    show SUMN (fun i => G ((I' b i).toInt.toNat / 20) ((I' b i).toInt.toNat % 20)) m.toInt.toNat + G ((I' b m.toInt.toNat).toInt.toNat / 20) ((I' b m.toInt.toNat).toInt.toNat % 20) = _ + (SUMN (fun c => IND (V x.toNat c) * G x.toNat c) y.toNat + IND (V x.toNat y.toNat) * G x.toNat y.toNat)
    have e1 : SUMN (fun i => G ((I' b i).toInt.toNat / 20) ((I' b i).toInt.toNat % 20)) m.toInt.toNat = SUMN (fun i => G ((I b i).toInt.toNat / 20) ((I b i).toInt.toNat % 20)) m.toInt.toNat := SUMN.cg _ (fun i hi => by rw [old i (by omega)])
    have e2 : (I' b m.toInt.toNat).toInt = 20 * x + y := new
    rw [e1, h4 G, e2, IND.y hV, show (20 * x + y).toNat / 20 = x.toNat from by omega, show (20 * x + y).toNat % 20 = y.toNat from by omega]; omega
/-- all pairs met: how many, and the first -/
def QPR (P1 P2 : Nat → Int) (Q : Nat → Nat → Nat → Nat → Prop) (i j : Nat) : Prop := Q ((P1 i).toNat / 20) ((P2 j).toNat / 20) ((P1 i).toNat % 20) ((P2 j).toNat % 20)
def CDP (P1 P2 : Nat → Int) (i j : Nat) : Int := cod ((P1 i).toNat / 20) ((P2 j).toNat / 20) ((P1 i).toNat % 20) ((P2 j).toNat % 20)
def RNF (P1 P2 : Nat → Int) (n2 : Int) (Q : Nat → Nat → Nat → Nat → Prop) (fo fi i j : Int) : Prop :=
  (0 ≤ fo ∧ fo ≤ 361 * i + j) ∧ fo = SUMN (fun i => SUMN (fun j => IND (QPR P1 P2 Q i j)) n2.toNat) i.toNat + SUMN (fun j => IND (QPR P1 P2 Q i.toNat j)) j.toNat
  ∧ (fo = 0 → fi = -1) ∧ (0 < fo → (∃ i' j' : Nat, ((i' : Int) < i ∧ (j' : Int) < n2 ∨ (i' : Int) = i ∧ (j' : Int) < j) ∧ QPR P1 P2 Q i' j' ∧ fi = CDP P1 P2 i' j') ∧ ∀ i' j' : Nat, ((i' : Int) < i ∧ (j' : Int) < n2 ∨ (i' : Int) = i ∧ (j' : Int) < j) → QPR P1 P2 Q i' j' → fi ≤ CDP P1 P2 i' j')
theorem RNF.z {P1 P2 : Nat → Int} {n2 : Int} {Q : Nat → Nat → Nat → Nat → Prop} {fo fi i j : Int} (h0 : fo = 0) (h1 : fi = -1) (hi : i = 0) (hj : j = 0) : RNF P1 P2 n2 Q fo fi i j := by
  subst h0; subst h1; subst hi; subst hj
  exact ⟨by omega, rfl, fun _ => rfl, fun h => by omega⟩
theorem RNF.c {P1 P2 : Nat → Int} {n2 : Int} {Q : Nat → Nat → Nat → Nat → Prop} {fo fi i j fo' fi' i' j' : Int} (h : RNF P1 P2 n2 Q fo fi i j) (a : fo' = fo) (b : fi' = fi) (c : i' = i) (d : j' = j) : RNF P1 P2 n2 Q fo' fi' i' j' := by subst a; subst b; subst c; subst d; exact h
theorem RNF.n {P1 P2 : Nat → Int} {n2 : Int} {Q : Nat → Nat → Nat → Nat → Prop} {fo fi i j fo' fi' i' j' : Int} (h : RNF P1 P2 n2 Q fo fi i j) (hj : j = n2) (hn : n2 ≤ 361) (h0 : 0 ≤ i) (a : fo' = fo) (b : fi' = fi) (hi : i' = i + 1) (hj' : j' = 0) : RNF P1 P2 n2 Q fo' fi' i' j' := by
  subst a; subst b; subst hi; subst hj'; subst hj
  obtain ⟨h1, h2, h3, h4⟩ := h
  refine ⟨by omega, ?_, h3, fun q => ⟨?_, fun i' j' q2 => (h4 q).2 i' j' (by omega)⟩⟩
  · rw [h2, show (i + 1).toNat = i.toNat + 1 from by omega]
    show _ = SUMN (fun i => SUMN (fun j => IND (QPR P1 P2 Q i j)) j.toNat) i.toNat + SUMN (fun j => IND (QPR P1 P2 Q i.toNat j)) j.toNat + 0
    omega
  · obtain ⟨⟨i', j', q1, q2⟩, -⟩ := h4 q
    exact ⟨i', j', by omega, q2⟩
/-- one pair met -/
def MEQ (Q : Prop) (fo fi fo' fi' cd : Int) : Prop := (Q → fo' = fo + 1 ∧ (fo = 0 → fi' = cd) ∧ (fo ≠ 0 → fi' ≤ fi ∧ fi' ≤ cd ∧ (fi' = fi ∨ fi' = cd))) ∧ (¬ Q → fo' = fo ∧ fi' = fi)
theorem RNF.s {P1 P2 : Nat → Int} {n2 : Int} {Q : Nat → Nat → Nat → Nat → Prop} {fo fi i j fo' fi' j' cd : Int} {X : Prop} (h : RNF P1 P2 n2 Q fo fi i j) (m : MEQ X fo fi fo' fi' cd) (eX : X ↔ QPR P1 P2 Q i.toNat j.toNat) (ec : cd = CDP P1 P2 i.toNat j.toNat) (h0 : 0 ≤ i) (hj : 0 ≤ j) (hj' : j' = j + 1) : RNF P1 P2 n2 Q fo' fi' i j' := by
  subst hj'
  obtain ⟨h1, h2, h3, h4⟩ := h
  have es : SUMN (fun j => IND (QPR P1 P2 Q i.toNat j)) (j + 1).toNat = SUMN (fun j => IND (QPR P1 P2 Q i.toNat j)) j.toNat + IND (QPR P1 P2 Q i.toNat j.toNat) := by
    rw [show (j + 1).toNat = j.toNat + 1 from by omega]; rfl
  by_cases q : QPR P1 P2 Q i.toNat j.toNat
  · obtain ⟨m1, m2, m3⟩ := m.1 (eX.mpr q)
    rw [IND.y q] at es
    refine ⟨by omega, by rw [es]; omega, fun z => by omega, fun _ => ?_⟩
    by_cases z : fo = 0
    · have e := m2 z
      refine ⟨⟨i.toNat, j.toNat, by omega, q, by omega⟩, fun i' j' q1 q2 => ?_⟩
      by_cases c : i' = i.toNat ∧ j' = j.toNat
      · rw [c.1, c.2]; omega
      · exfalso
        have p1 : (i' : Int) < i ∧ (j' : Int) < n2 ∨ (i' : Int) = i ∧ (j' : Int) < j := by omega
        have g : 0 < SUMN (fun i => SUMN (fun j => IND (QPR P1 P2 Q i j)) n2.toNat) i.toNat + SUMN (fun j => IND (QPR P1 P2 Q i.toNat j)) j.toNat := by
          have a0 := SUMN.p (F := fun i => SUMN (fun j => IND (QPR P1 P2 Q i j)) n2.toNat) (fun i => SUMN.p (fun j => (IND.p _).1) _) i.toNat
          have b0 := SUMN.p (F := fun j => IND (QPR P1 P2 Q i.toNat j)) (fun j => (IND.p _).1) j.toNat
          rcases p1 with ⟨c1, c2⟩ | ⟨c1, c2⟩
          · have s1 := SUMN.ge (F := fun j => IND (QPR P1 P2 Q i' j)) (fun j => (IND.p _).1) (n := n2.toNat) (i := j') (by omega)
            have s2 := SUMN.ge (F := fun i => SUMN (fun j => IND (QPR P1 P2 Q i j)) n2.toNat) (fun i => SUMN.p (fun j => (IND.p _).1) _) (n := i.toNat) (i := i') (by omega)
            rw [IND.y q2] at s1; omega
          · have s1 := SUMN.ge (F := fun j => IND (QPR P1 P2 Q i.toNat j)) (fun j => (IND.p _).1) (n := j.toNat) (i := j') (by omega)
            rw [show i' = i.toNat from by omega] at q2
            rw [IND.y q2] at s1; omega
        omega
    · obtain ⟨e1, e2, e3⟩ := m3 z
      obtain ⟨⟨i1, j1, p1, p2, p3⟩, p4⟩ := h4 (by omega)
      refine ⟨?_, fun i' j' q1 q2 => ?_⟩
      · rcases e3 with e3 | e3
        · exact ⟨i1, j1, by omega, p2, by omega⟩
        · exact ⟨i.toNat, j.toNat, by omega, q, by omega⟩
      · by_cases c : i' = i.toNat ∧ j' = j.toNat
        · rw [c.1, c.2]; omega
        · have := p4 i' j' (by omega) q2; omega
  · obtain ⟨m1, m2⟩ := m.2 (fun x => q (eX.mp x))
    rw [IND.n q] at es
    refine ⟨by omega, by rw [es]; omega, fun z => by rw [m2]; exact h3 (by omega), fun z => ?_⟩
    obtain ⟨⟨i1, j1, p1, p2, p3⟩, p4⟩ := h4 (by omega)
    refine ⟨⟨i1, j1, by omega, p2, by omega⟩, fun i' j' q1 q2 => ?_⟩
    by_cases c : i' = i.toNat ∧ j' = j.toNat
    · rw [c.1, c.2] at q2; exact absurd q2 q
    · rw [m2]; exact p4 i' j' (by omega) q2
/-- all of them: by tables -/
theorem RNF.e {P1 P2 : Nat → Int} {V1 V2 : Nat → Nat → Prop} {p : Nat} {n1 n2 x y x2 y2 : Int} {Q : Nat → Nat → Nat → Nat → Prop} {fo fi i j : Int} (h : RNF P1 P2 n2 Q fo fi i j) (c1 : CHO P1 V1 p n1 x y) (c2 : CHO P2 V2 p n2 x2 y2) (hi : i = n1) (hj : j = 0) (hx : x = p) (hy : y = 0) (hx2 : x2 = p) (hy2 : y2 = 0) (hp : p ≤ 19) : fo = CN4 p (fun a b c d => V1 a c ∧ V2 b d ∧ Q a b c d) ∧ MNC p (fun a b c d => V1 a c ∧ V2 b d ∧ Q a b c d) fi := by
  subst hi; subst hj; subst hx; subst hy; subst hx2; subst hy2
  obtain ⟨h1, h2, h3, h4⟩ := h
  obtain ⟨a1, a2, a3, a4⟩ := c1
  obtain ⟨b1, b2, b3, b4⟩ := c2
  have ep : ((p : Int)).toNat = p := by omega
  have cnt : fo = CN4 p (fun a b c d => V1 a c ∧ V2 b d ∧ Q a b c d) := by
    have s1 : ∀ a c : Nat, SUMN (fun j => IND (Q a ((P2 j).toNat / 20) c ((P2 j).toNat % 20))) n2.toNat = SUMN (fun b => SUMN (fun d => IND (V2 b d) * IND (Q a b c d)) p) p := fun a c => by
      have := b4 (fun b d => IND (Q a b c d))
      rw [ep] at this
      rw [this]; exact Int.add_zero _
    have s2 := a4 (fun a c => SUMN (fun j => IND (Q a ((P2 j).toNat / 20) c ((P2 j).toNat % 20))) n2.toNat)
    rw [ep] at s2
    have s3 : SUMN (fun i => SUMN (fun j => IND (QPR P1 P2 Q i j)) n2.toNat) i.toNat = SUMN (fun a => SUMN (fun c => IND (V1 a c) * SUMN (fun j => IND (Q a ((P2 j).toNat / 20) c ((P2 j).toNat % 20))) n2.toNat) p) p := by
      have e : SUMN (fun a => SUMN (fun c => IND (V1 a c) * SUMN (fun j => IND (Q a ((P2 j).toNat / 20) c ((P2 j).toNat % 20))) n2.toNat) p) p + 0 = SUMN (fun a => SUMN (fun c => IND (V1 a c) * SUMN (fun j => IND (Q a ((P2 j).toNat / 20) c ((P2 j).toNat % 20))) n2.toNat) p) p := Int.add_zero _
      rw [← e]; exact s2
    have z0 : SUMN (fun j => IND (QPR P1 P2 Q i.toNat j)) (0 : Int).toNat = 0 := rfl
    rw [h2, z0, Int.add_zero, s3]
    unfold CN4
    refine SUMN.cg _ (fun a _ => ?_)
    rw [SUMN.sw (fun b c => SUMN (fun d => IND (V1 a c ∧ V2 b d ∧ Q a b c d)) p)]
    refine SUMN.cg _ (fun c _ => ?_)
    rw [s1 a c, ← SUMN.sc]
    refine SUMN.cg _ (fun b _ => ?_)
    rw [← SUMN.sc]
    refine SUMN.cg _ (fun d _ => ?_)
    rw [IND.an, IND.an]
  refine ⟨cnt, ?_⟩
  have at2 : ∀ (f : Nat → Int) (k a c : Nat), f k = 20 * a + c → c < p → (f k).toNat / 20 = a ∧ (f k).toNat % 20 = c := fun f k a c e hc => by omega
  have cov : ∀ a b c d : Nat, a < p → b < p → c < p → d < p → V1 a c → V2 b d → ∃ k l : Nat, (k : Int) < i ∧ (l : Int) < n2 ∧ ((P1 k).toNat / 20 = a ∧ (P1 k).toNat % 20 = c) ∧ (P2 l).toNat / 20 = b ∧ (P2 l).toNat % 20 = d := fun a b c d ha hb hc hd v1 v2 => by
    obtain ⟨k, k1, k2⟩ := a3 a c hc (by omega) v1
    obtain ⟨l, l1, l2⟩ := b3 b d hd (by omega) v2
    exact ⟨k, l, k1, l1, at2 P1 k a c k2 hc, at2 P2 l b d l2 hd⟩
  by_cases z : fo = 0
  · refine Or.inl ⟨h3 z, fun a b c d ha hb hc hd ⟨v1, v2, hQ⟩ => ?_⟩
    rw [cnt] at z
    unfold CN4 at z
    dsimp only at z
    have g1 := SUMN.ge (F := fun a => SUMN (fun b => SUMN (fun c => SUMN (fun d => IND (V1 a c ∧ V2 b d ∧ Q a b c d)) p) p) p) (fun _ => SUMN.p (fun _ => SUMN.p (fun _ => SUMN.p (fun _ => (IND.p _).1) _) _) _) ha
    have g2 := SUMN.ge (F := fun b => SUMN (fun c => SUMN (fun d => IND (V1 a c ∧ V2 b d ∧ Q a b c d)) p) p) (fun _ => SUMN.p (fun _ => SUMN.p (fun _ => (IND.p _).1) _) _) hb
    have g3 := SUMN.ge (F := fun c => SUMN (fun d => IND (V1 a c ∧ V2 b d ∧ Q a b c d)) p) (fun _ => SUMN.p (fun _ => (IND.p _).1) _) hc
    have g4 := SUMN.ge (F := fun d => IND (V1 a c ∧ V2 b d ∧ Q a b c d)) (fun _ => (IND.p _).1) hd
    (try dsimp only at g1); (try dsimp only at g2); (try dsimp only at g3); (try dsimp only at g4)
    rw [IND.y ⟨v1, v2, hQ⟩] at g4
    omega
  · obtain ⟨⟨k, l, p1, p2, p3⟩, p4⟩ := h4 (by omega)
    refine Or.inr ⟨?_, fun a b c d ha hb hc hd ⟨v1, v2, hQ⟩ => ?_⟩
    · obtain ⟨a, c, ha, hc, hV, e1⟩ := a2 k (by omega)
      obtain ⟨b, d, hb, hd, hW, e2⟩ := b2 l (by omega)
      obtain ⟨r1, r2⟩ := at2 P1 k a c e1 hc
      obtain ⟨r3, r4⟩ := at2 P2 l b d e2 hd
      unfold QPR at p2
      unfold CDP at p3
      rw [r1, r2, r3, r4] at p2 p3
      exact ⟨a, b, c, d, ha, hb, hc, hd, ⟨hV, hW, p2⟩, p3⟩
    · obtain ⟨k, l, k1, l1, ⟨r1, r2⟩, r3, r4⟩ := cov a b c d ha hb hc hd v1 v2
      have := p4 k l (by omega) (by unfold QPR; rw [r1, r2, r3, r4]; exact hQ)
      unfold CDP at this
      rwa [r1, r2, r3, r4] at this
/-- small products -/
theorem IMX.s {w x y : Int32} (m : IMX w x y) (hx : 0 ≤ x.toInt ∧ x.toInt ≤ 19) (hy : 0 ≤ y.toInt ∧ y.toInt ≤ 19) : w.toInt = x.toInt * y.toInt ∧ 0 ≤ w.toInt ∧ w.toInt ≤ 361 := by
  have a : x.toInt * y.toInt ≤ 19 * 19 := Int.mul_le_mul hx.2 hy.2 hy.1 (by decide)
  have b := Int.mul_nonneg hx.1 hy.1
  have e := m (by omega) (by omega)
  omega
theorem IMX.sq {w x : Int32} (m : IMX w x x) (hp : PRM x.toInt) : w.toInt = x.toInt * x.toInt ∧ 121 ≤ w.toInt ∧ w.toInt ≤ 361 := by
  have h : 121 ≤ x.toInt * x.toInt ∧ x.toInt * x.toInt ≤ 361 := by
    rcases hp with h | h | h | h <;> (rw [h]; decide)
  have e := m (by omega) (by omega)
  omega
def TAB (p : Int) : Int := (p * p - 1) * (p * p - p)
theorem TAB.of {w a b x u v : Int32} (m : IMX w a b) (hu : u.toInt = x.toInt * x.toInt) (hv : v.toInt = x.toInt * x.toInt) (ha : a.toInt = u.toInt - 1) (hb : b.toInt = v.toInt - x.toInt) (hp : PRM x.toInt) : w.toInt = TAB x.toInt := by
  unfold TAB
  have e : w.toInt = a.toInt * b.toInt := m (by rw [ha, hb, hu, hv]; rcases hp with h | h | h | h <;> (rw [h]; decide)) (by rw [ha, hb, hu, hv]; rcases hp with h | h | h | h <;> (rw [h]; decide))
  rw [e, ha, hb, hu, hv]
theorem TAB.p {p : Int} (hp : PRM p) : 0 < TAB p ∧ TAB p ≤ 123120 := by
  rcases hp with h | h | h | h <;> (subst h; decide)
theorem PTX.x {n : Int32} {x : Int} (h0 : 0 ≤ n.toInt) (h : n.toInt = 0 ∧ x = 1 ∨ n.toInt ≠ 0 ∧ x = n.toInt - 1) : x = ptX n.toNatClampNeg := by
  have n0 := ncz h0
  unfold ptX
  by_cases q : n.toNatClampNeg = 0
  · rw [if_pos q]; omega
  · rw [if_neg q]; omega
theorem PTX.y {n : Int32} {x : Int} (h0 : 0 ≤ n.toInt) (h : n.toInt = 0 ∧ x = 0 ∨ n.toInt ≠ 0 ∧ x = 1) : x = ptY n.toNatClampNeg := by
  have n0 := ncz h0
  unfold ptY
  by_cases q : n.toNatClampNeg = 0
  · rw [if_pos q]; omega
  · rw [if_neg q]; omega
theorem EV.of {I1 I : IT} {b : Nat} {p x D D' u v u' v' : Int} (h : PmE p x (HRV u v (fun k => (I1 b k).toInt) (D' + 1).toNat)) (hb : 0 ≤ x ∧ x < p) (e : I1 b = I b) (eD : D' = D) (eu : u = u') (ev : v = v') : x = EV p (NF I b) D u' v' := by
  subst eD; subst eu; subst ev
  rw [e] at h
  unfold EV
  exact (h.tr (PmE.em _).sy).eq hb.1 hb.2 (Int.emod_nonneg _ (by omega)) (Int.emod_lt_of_pos _ (by omega))
/-- what is aimed at -/
def AIM (am : Nat → Int32) (p : Int) (g : Nat → Int) (D k : Int) : Prop := ∀ j : Nat, (j : Int) < k → (am j).toInt = EV p g D (ptX j) (ptY j)
theorem AIM.z {am : Nat → Int32} {p : Int} {g : Nat → Int} {D k : Int} (h : k = 0) : AIM am p g D k := fun j hj => by omega
theorem AIM.s {I1 I2 : IT} {a : Nat} {p : Int} {g : Nat → Int} {D k' : Int} {k v : Int32} (h : AIM (I1 a) p g D k.toInt) (u : I2 = u2 I1 a k.toNatClampNeg v) (hv : v.toInt = EV p g D (ptX k.toNatClampNeg) (ptY k.toNatClampNeg)) (h0 : 0 ≤ k.toInt) (hk : k' = k.toInt + 1) : AIM (I2 a) p g D k' := fun j hj => by
  have n0 := ncz h0
  rw [u]
  by_cases q : j = k.toNatClampNeg
  · subst q; rw [u2_s]; exact hv
  · rw [u2_k q]; exact h j (by omega)
theorem AIM.m {am am' : Nat → Int32} {p : Int} {g : Nat → Int} {D k k' : Int} (h : AIM am p g D k) (e : am' = am) (hk : k' ≤ k) : AIM am' p g D k' := fun j hj => by rw [e]; exact h j (by omega)
theorem AIM.md {am : Nat → Int32} {p : Int} {g : Nat → Int} {D D' k k' : Int} (h : AIM am p g D k) (e : D' = D) (hk : k' ≤ k) : AIM am p g D' k' := by
  subst e
  exact fun j hj => h j (by omega)
theorem NF.e {I1 I : IT} {b : Nat} (e : I1 b = I b) : NF I1 b = NF I b := by unfold NF; rw [e]
def VLX (vl : Nat → Int32) (p : Int) (f : Nat → Int) (D x y : Int) : Prop := ∀ a c : Nat, (c : Int) < p → ((a : Int) < x ∨ (a : Int) = x ∧ (c : Int) < y) → (vl (20 * a + c)).toInt = EV p f D a c
theorem VLX.z {vl : Nat → Int32} {p : Int} {f : Nat → Int} {D x y : Int} (hx : x = 0) (hy : y = 0) : VLX vl p f D x y := fun a c _ h => by omega
theorem VLX.c {vl : Nat → Int32} {p : Int} {f : Nat → Int} {D x y x' y' : Int} (h : VLX vl p f D x y) (ex : x' = x) (ey : y' = y) : VLX vl p f D x' y' := by subst ex; subst ey; exact h
theorem VLX.n {vl : Nat → Int32} {p : Int} {f : Nat → Int} {D x y x' y' : Int} (h : VLX vl p f D x y) (hy : p ≤ y) (hx : x' = x + 1) (hy' : y' = 0) : VLX vl p f D x' y' := fun a c hc q => h a c hc (by omega)
theorem VLX.s {I1 I2 : IT} {b : Nat} {p : Int} {f : Nat → Int} {D y' : Int} {x y j v : Int32} (h : VLX (I1 b) p f D x.toInt y.toInt) (u : I2 = u2 I1 b j.toNatClampNeg v) (hv : v.toInt = EV p f D x.toInt y.toInt) (hj : j.toInt = 20 * x.toInt + y.toInt) (hx : 0 ≤ x.toInt) (hy : 0 ≤ y.toInt) (hp : p ≤ 19) (hyp : y.toInt < p) (hy' : y' = y.toInt + 1) : VLX (I2 b) p f D x.toInt y' := fun a c hc q => by
  have n0 := ncz (x := j) (by omega)
  rw [u]
  by_cases z : 20 * a + c = j.toNatClampNeg
  · rw [z, u2_s, show (a : Int) = x.toInt from by omega, show (c : Int) = y.toInt from by omega]; exact hv
  · rw [u2_k z]; exact h a c hc (by omega)
/-- the condition on a table, by values and aims -/
def QMT (vl am : Nat → Int32) (p D : Int) (a b c d : Nat) : Prop := dt p a b c d ≠ 0 ∧ ∀ k : Nat, 2 ≤ k → (k : Int) ≤ D → (vl (20 * ((a * ptX k + b) % p).toNat + ((c * ptX k + d) % p).toNat)).toInt = (am k).toInt
def QML (vl am : Nat → Int32) (p : Int) (a b c d : Nat) (l : Int) : Prop := ∀ k : Nat, 2 ≤ k → (k : Int) < l → (vl (20 * ((a * ptX k + b) % p).toNat + ((c * ptX k + d) % p).toNat)).toInt = (am k).toInt
theorem QML.z {vl am : Nat → Int32} {p : Int} {a b c d : Nat} {l : Int} (h : l = 2) : QML vl am p a b c d l := fun k _ _ => by omega
theorem QMV {vl : Nat → Int32} {p X : Int} {a b c d : Nat} {k s t m1 m2 x y a9 b9 c9 d9 v : Int32} {l1 l2 : Int64} (hv : v.toInt = (vl (20 * s.toNatClampNeg + t.toNatClampNeg)).toInt) (hs : s.toInt = l1.toInt % p) (ht : t.toInt = l2.toInt % p) (e1 : l1.toInt = x.toInt) (e2 : l2.toInt = y.toInt) (ex : x.toInt = m1.toInt + b9.toInt) (ey : y.toInt = m2.toInt + d9.toInt) (h1 : m1.toInt = a9.toInt * X) (h2 : m2.toInt = c9.toInt * X) (hX : X = ptX k.toNatClampNeg) (ha : a9.toInt = a) (hb : b9.toInt = b) (hc : c9.toInt = c) (hd : d9.toInt = d) : v.toInt = (vl (20 * ((a * ptX k.toNatClampNeg + b) % p).toNat + ((c * ptX k.toNatClampNeg + d) % p).toNat)).toInt := by
  have es : s.toNatClampNeg = ((a * ptX k.toNatClampNeg + b) % p).toNat := by
    show s.toInt.toNat = _
    rw [hs, e1, ex, h1, ha, hb, hX]
  have et : t.toNatClampNeg = ((c * ptX k.toNatClampNeg + d) % p).toNat := by
    show t.toInt.toNat = _
    rw [ht, e2, ey, h2, hc, hd, hX]
  rw [hv, es, et]
theorem QML.s {vl am : Nat → Int32} {p : Int} {a b c d : Nat} {k v w : Int32} {l' : Int} (h : QML vl am p a b c d k.toInt) (hv : v.toInt = (vl (20 * ((a * ptX k.toNatClampNeg + b) % p).toNat + ((c * ptX k.toNatClampNeg + d) % p).toNat)).toInt) (hw : w.toInt = (am k.toNatClampNeg).toInt) (e : v.toInt = w.toInt) (h0 : 0 ≤ k.toInt) (hl : l' = k.toInt + 1) : QML vl am p a b c d l' := fun j h2 hj => by
  have n0 := ncz h0
  by_cases q : j = k.toNatClampNeg
  · subst q; rw [← hv, ← hw]; exact e
  · exact h j h2 (by omega)
theorem QMT.no {vl am : Nat → Int32} {p D : Int} {a b c d : Nat} {k v w : Int32} (hv : v.toInt = (vl (20 * ((a * ptX k.toNatClampNeg + b) % p).toNat + ((c * ptX k.toNatClampNeg + d) % p).toNat)).toInt) (hw : w.toInt = (am k.toNatClampNeg).toInt) (e : v.toInt ≠ w.toInt) (h0 : 2 ≤ k.toInt) (hk : k.toInt ≤ D) : ¬ QMT vl am p D a b c d := fun q => by
  have n0 := ncz (x := k) (by omega)
  have := q.2 k.toNatClampNeg (by omega) (by omega)
  omega
theorem QMT.d {vl am : Nat → Int32} {p D x a9 b9 c9 d9 : Int} {a b c d : Nat} (h : x = dt p a9 b9 c9 d9) (e : x = 0) (ha : a9 = a) (hb : b9 = b) (hc : c9 = c) (hd : d9 = d) : ¬ QMT vl am p D a b c d := fun q => q.1 (by rw [← ha, ← hb, ← hc, ← hd, ← h]; exact e)
theorem QMT.yes {vl am : Nat → Int32} {p D l x a9 b9 c9 d9 : Int} {a b c d : Nat} (h : x = dt p a9 b9 c9 d9) (e : x ≠ 0) (ha : a9 = a) (hb : b9 = b) (hc : c9 = c) (hd : d9 = d) (q : QML vl am p a b c d l) (hl : D < l) : QMT vl am p D a b c d := ⟨by rw [← ha, ← hb, ← hc, ← hd, ← h]; exact e, fun k h2 hk => q k h2 (by omega)⟩
theorem MEQ.y {Q : Prop} {fo fi fo' fi' cd : Int} (q : Q) (h1 : fo' = fo + 1) (h2 : fo = 0 → fi' = cd) (h3 : fo ≠ 0 → fi' ≤ fi ∧ fi' ≤ cd ∧ (fi' = fi ∨ fi' = cd)) : MEQ Q fo fi fo' fi' cd := ⟨fun _ => ⟨h1, h2, h3⟩, fun z => absurd q z⟩
theorem MEQ.n {Q : Prop} {fo fi fo' fi' cd : Int} (q : ¬ Q) (h1 : fo' = fo) (h2 : fi' = fi) : MEQ Q fo fi fo' fi' cd := ⟨fun z => absurd z q, fun _ => ⟨h1, h2⟩⟩
/-- the first table, how many -/
def ALK (f g : Nat → Int) (D : Int) : Prop := ∀ k : Nat, (k : Int) ≤ D → f k = g k
def SMX (x p D1 D2 : Int) (f g : Nat → Int) : Prop := (D1 ≠ D2 → x = -1) ∧ (D1 = D2 → (D1 = 0 ∨ ZRL f (D1 + 1)) → (ALK f g D1 → x = 420) ∧ (¬ ALK f g D1 → x = -1)) ∧ (D1 = D2 → ¬ (D1 = 0 ∨ ZRL f (D1 + 1)) → MNC p.toNat (MTB p D1 f g) x)
def FNX (x p D1 D2 : Int) (f g : Nat → Int) : Prop := (D1 ≠ D2 → x = 0) ∧ (D1 = D2 → (D1 = 0 ∨ ZRL f (D1 + 1)) → (ALK f g D1 → x = TAB p) ∧ (¬ ALK f g D1 → x = 0)) ∧ (D1 = D2 → ¬ (D1 = 0 ∨ ZRL f (D1 + 1)) → x = CN4 p.toNat (MTB p D1 f g))
def SMB (p D1 D2 : Int) (f g : Nat → Int) : Prop := D1 = D2 ∧ ((D1 = 0 ∨ ZRL f (D1 + 1)) ∧ ALK f g D1 ∨ ¬ (D1 = 0 ∨ ZRL f (D1 + 1)) ∧ ∃ a b c d : Nat, a < p.toNat ∧ b < p.toNat ∧ c < p.toNat ∧ d < p.toNat ∧ MTB p D1 f g a b c d)
theorem SMX.b {x p D1 D2 : Int} {f g : Nat → Int} (h : SMX x p D1 D2 f g) : 0 ≤ x ↔ SMB p D1 D2 f g := by
  obtain ⟨h1, h2, h3⟩ := h
  by_cases e : D1 = D2
  · by_cases z : D1 = 0 ∨ ZRL f (D1 + 1)
    · obtain ⟨a, b⟩ := h2 e z
      by_cases q : ALK f g D1
      · exact ⟨fun _ => ⟨e, Or.inl ⟨z, q⟩⟩, fun _ => by rw [a q]; decide⟩
      · refine ⟨fun y => by have := b q; omega, fun y => ?_⟩
        rcases y.2 with y | y
        · exact absurd y.2 q
        · exact absurd z y.1
    · have m := (h3 e z).s
      refine ⟨fun y => ⟨e, Or.inr ⟨z, m.mp y⟩⟩, fun y => ?_⟩
      rcases y.2 with y | y
      · exact absurd y.1 z
      · exact m.mpr y.2
  · exact ⟨fun y => by have := h1 e; omega, fun y => absurd y.1 e⟩
theorem CN4.pos {p : Nat} {P : Nat → Nat → Nat → Nat → Prop} : 0 < CN4 p P ↔ ∃ a b c d : Nat, a < p ∧ b < p ∧ c < p ∧ d < p ∧ P a b c d := by
  unfold CN4
  constructor
  · intro h
    obtain ⟨a, ha, h⟩ := SUMN.pos (fun _ => SUMN.p (fun _ => SUMN.p (fun _ => SUMN.p (fun _ => (IND.p _).1) _) _) _) h
    obtain ⟨b, hb, h⟩ := SUMN.pos (fun _ => SUMN.p (fun _ => SUMN.p (fun _ => (IND.p _).1) _) _) h
    obtain ⟨c, hc, h⟩ := SUMN.pos (fun _ => SUMN.p (fun _ => (IND.p _).1) _) h
    obtain ⟨d, hd, h⟩ := SUMN.pos (fun _ => (IND.p _).1) h
    refine ⟨a, b, c, d, ha, hb, hc, hd, ?_⟩
    apply Classical.byContradiction
    intro q
    rw [IND.n q] at h
    omega
  · rintro ⟨a, b, c, d, ha, hb, hc, hd, h⟩
    have g1 := SUMN.ge (F := fun a => SUMN (fun b => SUMN (fun c => SUMN (fun d => IND (P a b c d)) p) p) p) (fun _ => SUMN.p (fun _ => SUMN.p (fun _ => SUMN.p (fun _ => (IND.p _).1) _) _) _) ha
    have g2 := SUMN.ge (F := fun b => SUMN (fun c => SUMN (fun d => IND (P a b c d)) p) p) (fun _ => SUMN.p (fun _ => SUMN.p (fun _ => (IND.p _).1) _) _) hb
    have g3 := SUMN.ge (F := fun c => SUMN (fun d => IND (P a b c d)) p) (fun _ => SUMN.p (fun _ => (IND.p _).1) _) hc
    have g4 := SUMN.ge (F := fun d => IND (P a b c d)) (fun _ => (IND.p _).1) hd
    (try dsimp only at g1); (try dsimp only at g2); (try dsimp only at g3); (try dsimp only at g4)
    rw [IND.y h] at g4
    omega
theorem FNX.b {x p D1 D2 : Int} {f g : Nat → Int} (h : FNX x p D1 D2 f g) (hp : PRM p) : 0 < x ↔ SMB p D1 D2 f g := by
  obtain ⟨h1, h2, h3⟩ := h
  by_cases e : D1 = D2
  · by_cases z : D1 = 0 ∨ ZRL f (D1 + 1)
    · obtain ⟨a, b⟩ := h2 e z
      by_cases q : ALK f g D1
      · exact ⟨fun _ => ⟨e, Or.inl ⟨z, q⟩⟩, fun _ => by rw [a q]; exact (TAB.p hp).1⟩
      · refine ⟨fun y => by have := b q; omega, fun y => ?_⟩
        rcases y.2 with y | y
        · exact absurd y.2 q
        · exact absurd z y.1
    · have m := h3 e z
      rw [m, CN4.pos]
      refine ⟨fun y => ⟨e, Or.inr ⟨z, y⟩⟩, fun y => ?_⟩
      rcases y.2 with y | y
      · exact absurd y.1 z
      · exact y.2
  · exact ⟨fun y => by have := h1 e; omega, fun y => absurd y.1 e⟩
/-- congruent in both forms -/
theorem ALK.cg {f f' g g' : Nat → Int} {D : Int} (hf : ALK f f' D) (hg : ALK g g' D) : ALK f g D ↔ ALK f' g' D := ⟨fun h k hk => by rw [← hf k hk, ← hg k hk]; exact h k hk, fun h k hk => by rw [hf k hk, hg k hk]; exact h k hk⟩
theorem ALK.z {f f' : Nat → Int} {D : Int} (hf : ALK f f' D) : (D = 0 ∨ ZRL f (D + 1)) ↔ (D = 0 ∨ ZRL f' (D + 1)) := ⟨fun h => h.imp id (fun q => q.cg (fun k hk => hf k (by omega))), fun h => h.imp id (fun q => q.cg (fun k hk => (hf k (by omega)).symm))⟩
theorem MTB.cgi {p D : Int} {f f' g g' : Nat → Int} (hf : ALK f f' D) (hg : ALK g g' D) (h0 : 0 ≤ D) (a b c d : Nat) : MTB p D f g a b c d ↔ MTB p D f' g' a b c d := ⟨fun h => h.cg hf hg h0, fun h => h.cg (fun k hk => (hf k hk).symm) (fun k hk => (hg k hk).symm) h0⟩
theorem SMX.cg {x p D1 D2 : Int} {f f' g g' : Nat → Int} (h : SMX x p D1 D2 f g) (hf : ALK f f' D1) (hg : ALK g g' D2) (h0 : 0 ≤ D1) : SMX x p D1 D2 f' g' := by
  refine ⟨h.1, fun e z => ?_, fun e z => ?_⟩
  · subst e
    obtain ⟨a, b⟩ := h.2.1 rfl ((ALK.z hf).mpr z)
    exact ⟨fun q => a ((ALK.cg hf hg).mpr q), fun q => b (fun y => q ((ALK.cg hf hg).mp y))⟩
  · subst e
    have m := h.2.2 rfl (fun y => z ((ALK.z hf).mp y))
    rcases m with ⟨m1, m2⟩ | ⟨⟨a, b, c, d, ha, hb, hc, hd, hP, hx⟩, m2⟩
    · exact Or.inl ⟨m1, fun a b c d ha hb hc hd hQ => m2 a b c d ha hb hc hd ((MTB.cgi hf hg h0 a b c d).mpr hQ)⟩
    · exact Or.inr ⟨⟨a, b, c, d, ha, hb, hc, hd, (MTB.cgi hf hg h0 a b c d).mp hP, hx⟩, fun a b c d ha hb hc hd hQ => m2 a b c d ha hb hc hd ((MTB.cgi hf hg h0 a b c d).mpr hQ)⟩
theorem SMX.u {x y p D1 D2 : Int} {f g : Nat → Int} (h : SMX x p D1 D2 f g) (k : SMX y p D1 D2 f g) : x = y := by
  by_cases e : D1 = D2
  · by_cases z : D1 = 0 ∨ ZRL f (D1 + 1)
    · obtain ⟨a, b⟩ := h.2.1 e z
      obtain ⟨a', b'⟩ := k.2.1 e z
      by_cases q : ALK f g D1
      · rw [a q, a' q]
      · rw [b q, b' q]
    · exact (h.2.2 e z).u (k.2.2 e z) (fun _ _ _ _ _ _ _ _ => Iff.rfl)
  · rw [h.1 e, k.1 e]
theorem FNX.cg {x p D1 D2 : Int} {f f' g g' : Nat → Int} (h : FNX x p D1 D2 f g) (hf : ALK f f' D1) (hg : ALK g g' D2) (h0 : 0 ≤ D1) : FNX x p D1 D2 f' g' := by
  refine ⟨h.1, fun e z => ?_, fun e z => ?_⟩
  · subst e
    obtain ⟨a, b⟩ := h.2.1 rfl ((ALK.z hf).mpr z)
    exact ⟨fun q => a ((ALK.cg hf hg).mpr q), fun q => b (fun y => q ((ALK.cg hf hg).mp y))⟩
  · subst e
    rw [h.2.2 rfl (fun y => z ((ALK.z hf).mp y))]
    exact CN4.cg (fun a b c d _ _ _ _ => MTB.cgi hf hg h0 a b c d)
theorem FNX.u {x y p D1 D2 : Int} {f g : Nat → Int} (h : FNX x p D1 D2 f g) (k : FNX y p D1 D2 f g) : x = y := by
  by_cases e : D1 = D2
  · by_cases z : D1 = 0 ∨ ZRL f (D1 + 1)
    · obtain ⟨a, b⟩ := h.2.1 e z
      obtain ⟨a', b'⟩ := k.2.1 e z
      by_cases q : ALK f g D1
      · rw [a q, a' q]
      · rw [b q, b' q]
    · rw [h.2.2 e z, k.2.2 e z]
  · rw [h.1 e, k.1 e]
theorem SMB.cg {p D1 D2 : Int} {f f' g g' : Nat → Int} (hf : ALK f f' D1) (hg : ALK g g' D2) (h0 : 0 ≤ D1) (h : SMB p D1 D2 f g) : SMB p D1 D2 f' g' := by
  obtain ⟨e, h⟩ := h
  subst e
  refine ⟨rfl, ?_⟩
  rcases h with ⟨z, q⟩ | ⟨z, a, b, c, d, ha, hb, hc, hd, q⟩
  · exact Or.inl ⟨(ALK.z hf).mp z, (ALK.cg hf hg).mp q⟩
  · exact Or.inr ⟨fun y => z ((ALK.z hf).mpr y), a, b, c, d, ha, hb, hc, hd, (MTB.cgi hf hg h0 a b c d).mp q⟩
theorem QPR.iff {P1 P2 : Nat → Int32} {Q : Nat → Nat → Nat → Nat → Prop} {i j v w : Int32} (e1 : P1 i.toNatClampNeg = v) (e2 : P2 j.toNatClampNeg = w) : Q (v.toInt.toNat / 20) (w.toInt.toNat / 20) (v.toInt.toNat % 20) (w.toInt.toNat % 20) ↔ QPR (fun i => (P1 i).toInt) (fun i => (P2 i).toInt) Q i.toInt.toNat j.toInt.toNat := by
  subst e1; subst e2; exact Iff.rfl
theorem CDP.of {P1 P2 : Nat → Int32} {i j v w : Int32} (e1 : P1 i.toNatClampNeg = v) (e2 : P2 j.toNatClampNeg = w) : cod (v.toInt.toNat / 20) (w.toInt.toNat / 20) (v.toInt.toNat % 20) (w.toInt.toNat % 20) = CDP (fun i => (P1 i).toInt) (fun i => (P2 i).toInt) i.toInt.toNat j.toInt.toNat := by
  subst e1; subst e2; rfl
theorem CHO.x {pr : Nat → Int} {V : Nat → Nat → Prop} {p : Nat} {m x x' y : Int} (h : CHO pr V p m x y) (e : x = x') : CHO pr V p m x' y := by subst e; exact h
theorem RUN.iff {vl am : Nat → Int32} {p D x0 x1 : Int} {f g : Nat → Int} (hp : PRM p) (h1 : 1 ≤ D) (h8 : D ≤ 8) (v : VLX vl p f D p 0) (ham : AIM am p g D (D + 1)) (e0 : x0 = (am 0).toInt) (e1 : x1 = (am 1).toInt) (a b c d : Nat) (ha : a < p.toNat) (hb : b < p.toNat) (hc : c < p.toNat) (hd : d < p.toNat) : ((vl (20 * a + c)).toInt = x0 ∧ (vl (20 * b + d)).toInt = x1 ∧ QMT vl am p D a b c d) ↔ MTB p D f g a b c d := by
  have hp0 : 0 < p := by unfold PRM at hp; omega
  have va := v a c (by omega) (by omega)
  have vb := v b d (by omega) (by omega)
  have vk : ∀ x y : Int, (vl (20 * (x % p).toNat + (y % p).toNat)).toInt = EV p f D (x % p) (y % p) := fun x y => by
    have h1 := Int.emod_nonneg x (show p ≠ 0 by omega)
    have h2 := Int.emod_lt_of_pos x hp0
    have h3 := Int.emod_nonneg y (show p ≠ 0 by omega)
    have h4 := Int.emod_lt_of_pos y hp0
    have q := v (x % p).toNat (y % p).toNat (by omega) (by omega)
    rw [q, show (((x % p).toNat : Nat) : Int) = x % p from by omega, show (((y % p).toNat : Nat) : Int) = y % p from by omega]
  have a0 := ham 0 (by omega)
  have a1 := ham 1 (by omega)
  rw [MTB.iff hp h1 h8, va, vb, e0, e1, a0, a1]
  unfold QMT
  refine ⟨fun ⟨q0, q1, h, q⟩ => ⟨q0, q1, h, fun k h2 hk => ?_⟩, fun ⟨q0, q1, h, q⟩ => ⟨q0, q1, h, fun k h2 hk => ?_⟩⟩
  · rw [← vk, q k h2 hk]; exact ham k (by omega)
  · rw [vk, q k h2 hk]; exact (ham k (by omega)).symm
theorem RUN.e {P1 P2 vl am : Nat → Int32} {p D x0 x1 n1 n2 fo fi i : Int} {f g : Nat → Int} (h : RNF (fun i => (P1 i).toInt) (fun i => (P2 i).toInt) n2 (QMT vl am p D) fo fi i 0) (c1 : CHO (fun i => (P1 i).toInt) (fun a c => (vl (20 * a + c)).toInt = x0) p.toNat n1 p 0) (c2 : CHO (fun i => (P2 i).toInt) (fun a c => (vl (20 * a + c)).toInt = x1) p.toNat n2 p 0) (hi : i = n1) (hp : PRM p) (h1 : 1 ≤ D) (h8 : D ≤ 8) (v : VLX vl p f D p 0) (ham : AIM am p g D (D + 1)) (e0 : x0 = (am 0).toInt) (e1 : x1 = (am 1).toInt) : fo = CN4 p.toNat (MTB p D f g) ∧ MNC p.toNat (MTB p D f g) fi := by
  have hp0 : 0 < p ∧ p ≤ 19 := by unfold PRM at hp; omega
  obtain ⟨k1, k2⟩ := h.e c1 c2 hi rfl (by omega) rfl (by omega) rfl (by omega)
  refine ⟨k1.trans (CN4.cg (fun a b c d ha hb hc hd => RUN.iff hp h1 h8 v ham e0 e1 a b c d ha hb hc hd)), ?_⟩
  rcases k2 with ⟨m1, m2⟩ | ⟨⟨a, b, c, d, ha, hb, hc, hd, hP, hx⟩, m2⟩
  · exact Or.inl ⟨m1, fun a b c d ha hb hc hd hQ => m2 a b c d ha hb hc hd ((RUN.iff hp h1 h8 v ham e0 e1 a b c d ha hb hc hd).mpr hQ)⟩
  · exact Or.inr ⟨⟨a, b, c, d, ha, hb, hc, hd, (RUN.iff hp h1 h8 v ham e0 e1 a b c d ha hb hc hd).mp hP, hx⟩, fun a b c d ha hb hc hd hQ => m2 a b c d ha hb hc hd ((RUN.iff hp h1 h8 v ham e0 e1 a b c d ha hb hc hd).mpr hQ)⟩
theorem FSD.nq {f : Nat → Int} {x y D : Int} (h : FSD y D f) (hx : x = 1 ∧ y = -1 ∨ x = 0 ∧ y ≠ -1) : IFF x (ZRL f (D + 1)) := by
  rcases h with h | h
  · exact ⟨fun _ => h.2, fun q => by omega⟩
  · exact ⟨fun q => by omega, fun _ z => h.2.2.1 (z y.toNat (by have a := h.1; have b := h.2.1; omega))⟩
theorem ALK.of {R : RT} {I1 I : IT} {r1 r2 b1 b2 : Nat} {x D1 : Int} (h : IFF x (FEQ R I1 r1 I1 r2)) (z1 : rA R r1 1 = b1) (z2 : rA R r2 1 = b2) (e1 : I1 b1 = I b1) (e2 : I1 b2 = I b2) (d1 : (I1 r1 0).toInt = D1) (d2 : (I1 r2 0).toInt = D1) : IFF x (ALK (NF I b1) (NF I b2) D1) := by
  have q : FEQ R I1 r1 I1 r2 ↔ ALK (NF I b1) (NF I b2) D1 := by
    unfold FEQ ALK NF
    rw [z1, z2, e1, e2, d1, d2]
    exact ⟨fun g => g.2, fun g => ⟨rfl, g⟩⟩
  exact ⟨fun z => q.mp (h.1 z), fun z g => h.2 z (q.mpr g)⟩
theorem SMX.n {x p D1 D2 : Int} {f g : Nat → Int} (e : D1 ≠ D2) (h : x = -1) : SMX x p D1 D2 f g := ⟨fun _ => h, fun q => absurd q e, fun q => absurd q e⟩
theorem FNX.n {x p D1 D2 : Int} {f g : Nat → Int} (e : D1 ≠ D2) (h : x = 0) : FNX x p D1 D2 f g := ⟨fun _ => h, fun q => absurd q e, fun q => absurd q e⟩
theorem SMX.d {x y p D1 D2 : Int} {f g : Nat → Int} (e : D1 = D2) (z : D1 = 0 ∨ ZRL f (D1 + 1)) (m : IFF y (ALK f g D1)) (h : y = 1 ∧ x = 420 ∨ y = 0 ∧ x = -1) : SMX x p D1 D2 f g := ⟨fun q => absurd e q, fun _ _ => ⟨fun a => by
  rcases h with h | h
  · exact h.2
  · exact absurd a (m.2 h.1), fun a => by
  rcases h with h | h
  · exact absurd (m.1 h.1) a
  · exact h.2⟩, fun _ q => absurd z q⟩
theorem FNX.d {x y p D1 D2 : Int} {f g : Nat → Int} (e : D1 = D2) (z : D1 = 0 ∨ ZRL f (D1 + 1)) (m : IFF y (ALK f g D1)) (h : y = 1 ∧ x = TAB p ∨ y = 0 ∧ x = 0) : FNX x p D1 D2 f g := ⟨fun q => absurd e q, fun _ _ => ⟨fun a => by
  rcases h with h | h
  · exact h.2
  · exact absurd a (m.2 h.1), fun a => by
  rcases h with h | h
  · exact absurd (m.1 h.1) a
  · exact h.2⟩, fun _ q => absurd z q⟩
theorem SMX.g {x p D1 D2 : Int} {f g : Nat → Int} (e : D1 = D2) (z : ¬ (D1 = 0 ∨ ZRL f (D1 + 1))) (m : MNC p.toNat (MTB p D1 f g) x) : SMX x p D1 D2 f g := ⟨fun q => absurd e q, fun _ q => absurd q z, fun _ _ => m⟩
theorem FNX.g {x p D1 D2 : Int} {f g : Nat → Int} (e : D1 = D2) (z : ¬ (D1 = 0 ∨ ZRL f (D1 + 1))) (m : x = CN4 p.toNat (MTB p D1 f g)) : FNX x p D1 D2 f g := ⟨fun q => absurd e q, fun _ q => absurd q z, fun _ _ => m⟩
theorem NQZ.y {f : Nat → Int} {y D : Int} (h : IFF y (ZRL f (D + 1))) (hy : y = 1) : D = 0 ∨ ZRL f (D + 1) := Or.inr (h.1 hy)
theorem NQZ.n {f : Nat → Int} {y D : Int} (h : IFF y (ZRL f (D + 1))) (hy : y = 0) (hD : D ≠ 0) : ¬ (D = 0 ∨ ZRL f (D + 1)) := fun q => q.elim hD (h.2 hy)
/-- orbit, kind -/
def OBX (x p D : Int) (f : Nat → Int) : Prop := ∃ n : Int, FNX n p D D f f ∧ (0 < n → x = TAB p / n) ∧ (¬ 0 < n → x = 0)
theorem OBX.u {x y p D : Int} {f : Nat → Int} (h : OBX x p D f) (k : OBX y p D f) : x = y := by
  obtain ⟨n, h1, h2, h3⟩ := h
  obtain ⟨m, k1, k2, k3⟩ := k
  have e := h1.u k1
  subst e
  by_cases q : 0 < n
  · rw [h2 q, k2 q]
  · rw [h3 q, k3 q]
theorem OBX.cg {x p D : Int} {f f' : Nat → Int} (h : OBX x p D f) (e : ALK f f' D) (h0 : 0 ≤ D) : OBX x p D f' := by
  obtain ⟨n, h1, h2⟩ := h
  exact ⟨n, h1.cg e e h0, h2⟩
def KND (x m : Int) (S : Nat → Prop) : Prop := 0 ≤ x ∧ x ≤ m ∧ (∀ n : Nat, (n : Int) < x → ¬ S n) ∧ (x < m → S x.toNat)
theorem KND.u {x y m : Int} {S S' : Nat → Prop} (h : KND x m S) (k : KND y m S') (e : ∀ n : Nat, (n : Int) ≤ m → (S n ↔ S' n)) : x = y := by
  obtain ⟨h0, h1, h2, h3⟩ := h
  obtain ⟨k0, k1, k2, k3⟩ := k
  rcases Int.lt_trichotomy x y with q | q | q
  · exact absurd ((e _ (by omega)).mp (h3 (by omega))) (k2 x.toNat (by omega))
  · exact q
  · exact absurd ((e _ (by omega)).mpr (k3 (by omega))) (h2 y.toNat (by omega))
theorem KNL.s {S : Nat → Prop} {k k' : Int} (h : ∀ n : Nat, (n : Int) < k → ¬ S n) (q : ¬ S k.toNat) (h0 : 0 ≤ k) (e : k' = k + 1) : ∀ n : Nat, (n : Int) < k' → ¬ S n := fun n hn => by
  by_cases z : n = k.toNat
  · rw [z]; exact q
  · exact h n (by omega)
theorem FNX.mv {R : RT} {I1 I : IT} {x p p' : Int} {r1 r2 f1 f2 b1 b2 : Nat} (h : FNX x p' (I1 r1 0).toInt (I1 r2 0).toInt (NF I1 b1) (NF I1 b2)) (z1 : rA R r1 1 = b1) (z2 : rA R r2 1 = b2) (ep : p' = p) (o1 : f1 = r1) (o2 : f2 = r2) (e1 : I1 r1 = I r1) (e2 : I1 (rA R r1 1) = I (rA R r1 1)) (e3 : I1 r2 = I r2) (e4 : I1 (rA R r2 1) = I (rA R r2 1)) : FNX x p (I f1 0).toInt (I f2 0).toInt (NF I (rA R f1 1)) (NF I (rA R f2 1)) := by
  subst o1; subst o2; subst ep; subst z1; subst z2
  rw [e1, e3] at h
  have q1 : NF I1 (rA R f1 1) = NF I (rA R f1 1) := by unfold NF; rw [e2]
  have q2 : NF I1 (rA R f2 1) = NF I (rA R f2 1) := by unfold NF; rw [e4]
  rw [q1, q2] at h; exact h
theorem s_X2_isNought_x {d : Nat} {T N : Nat → Nat} {I : IT} {L : LT} {R : RT} {A B : Nat → Prop} {r0 : Nat} (hS : SUB B A) (hI : IX A T I) (H_r0 : (hs_F T N R A B) r0) : Ex (d + 3) 30 [.ref r0] (T, N, I, L, R) 0 0 (pI T N R (fun x9 I9 L9 => (0 ≤ x9.toInt) ∧ (x9.toInt ≤ 1) ∧ (IFF x9.toInt (ZRL (fun k => (I (rA R r0 1) k).toInt) ((I r0 0).toInt + 1))) ∧ (I = I9 ∧ L = L9))) := by
  refine ⟨_, rfl, Nat.le_of_ble_eq_true rfl, fun V C S => ?_⟩
  show V 0 [(0, .ref r0)] [] (T, N, I, L, R) 0 0
  obtain ⟨T_r0, A_r0, ⟨r0_1, R_r0_1, H_r0_1⟩⟩ := id H_r0
  have z_r0_1 : rA R r0 1 = r0_1 := rA_e R_r0_1
  refine k_aload_n C rfl rfl rfl ?_
  refine c_VI C (s_X2_first_x hS hI H_r0) rfl rfl rfl rfl rfl ⟨_, rfl, rfl, T_r0, Nat.le_of_ble_eq_true rfl⟩ rfl rfl (Nat.le_of_ble_eq_true rfl) (Nat.le_of_ble_eq_true rfl) (Nat.le_of_ble_eq_true rfl) ?_
  rintro x1 _ _ ⟨o0x1, o1x1, p0x1, p1x1, rfl, rfl⟩
  have gx1 := rg x1
  try simp only [z_r0_1] at p0x1
  try simp only [z_r0_1] at p1x1
  have hfs := p1x1
  refine z_iconst C (z := -1) rfl rfl rfl (fun x2 ex2 => ?_)
  refine b_icmp_ne C (t := 12) rfl rfl rfl (fun c3 => ?_) (fun c3 => ?_)
  · skip
    refine z_iconst C (z := 0) rfl rfl rfl (fun x4 ex4 => ?_)
    exact k_iret C rfl (Or.inr ⟨rfl, z01 (by omega) (by omega)⟩) (Nat.le_of_ble_eq_true rfl) (Nat.le_of_ble_eq_true rfl) ⟨_, _, _, rfl, rfl, by omega, by omega, by (try simp only [z_r0_1]); exact FSD.nq hfs (by omega), rfl, rfl⟩
  refine z_iconst C (z := 1) rfl rfl rfl (fun x5 ex5 => ?_)
  refine k_goto C (pc2 := 13) rfl rfl ?_
  exact k_iret C rfl (Or.inr ⟨rfl, z01 (by omega) (by omega)⟩) (Nat.le_of_ble_eq_true rfl) (Nat.le_of_ble_eq_true rfl) ⟨_, _, _, rfl, rfl, by omega, by omega, by (try simp only [z_r0_1]); exact FSD.nq hfs (by omega), rfl, rfl⟩

theorem s_X0_p_x {d : Nat} {T N : Nat → Nat} {I : IT} {L : LT} {R : RT} {A B : Nat → Prop} {r0 : Nat} (hS : SUB B A) (hI : IX A T I) (H_r0 : (hs_Al T N R A B) r0) : Ex (d + 1) 2 [.ref r0] (T, N, I, L, R) 0 0 (pI T N R (fun x9 I9 L9 => (11 ≤ x9.toInt) ∧ (x9.toInt ≤ 19) ∧ (x9.toInt = (I (rA R r0 0) 0).toInt) ∧ (I = I9 ∧ L = L9))) := by
  refine ⟨_, rfl, Nat.le_of_ble_eq_true rfl, fun V C S => ?_⟩
  show V 0 [(0, .ref r0)] [] (T, N, I, L, R) 0 0
  obtain ⟨T_r0, A_r0, B_r0, ⟨r0_0, R_r0_0, H_r0_0⟩, ⟨r0_1, R_r0_1, H_r0_1⟩, ⟨r0_2, R_r0_2, H_r0_2⟩⟩ := id H_r0
  have z_r0_0 : rA R r0 0 = r0_0 := rA_e R_r0_0
  have z_r0_1 : rA R r0 1 = r0_1 := rA_e R_r0_1
  have z_r0_2 : rA R r0 2 = r0_2 := rA_e R_r0_2
  obtain ⟨T_r0_0, A_r0_0, B_r0_0, ⟨r0_0_6, R_r0_0_6, H_r0_0_6⟩, ⟨r0_0_7, R_r0_0_7, H_r0_0_7⟩, ⟨r0_0_8, R_r0_0_8, H_r0_0_8⟩, ⟨r0_0_9, R_r0_0_9, H_r0_0_9⟩, ⟨r0_0_10, R_r0_0_10, H_r0_0_10⟩⟩ := id H_r0_0
  have z_r0_0_6 : rA R r0_0 6 = r0_0_6 := rA_e R_r0_0_6
  have z_r0_0_7 : rA R r0_0 7 = r0_0_7 := rA_e R_r0_0_7
  have z_r0_0_8 : rA R r0_0 8 = r0_0_8 := rA_e R_r0_0_8
  have z_r0_0_9 : rA R r0_0 9 = r0_0_9 := rA_e R_r0_0_9
  have z_r0_0_10 : rA R r0_0 10 = r0_0_10 := rA_e R_r0_0_10
  obtain ⟨w_r0_0_0, k0_r0_0_0⟩ : ∃ x, I r0_0 0 = x := ⟨_, rfl⟩
  have gw_r0_0_0 := rg w_r0_0_0
  have ow_r0_0_0 := IX.p hI A_r0_0 T_r0_0 k0_r0_0_0
  refine k_aload_n C rfl rfl rfl ?_
  refine g_R C rfl rfl rfl T_r0 rfl R_r0_0 ?_
  refine g_I C rfl rfl rfl T_r0_0 rfl k0_r0_0_0 ?_
  exact k_iret C rfl (Or.inl rfl) (Nat.le_of_ble_eq_true rfl) (Nat.le_of_ble_eq_true rfl) ⟨_, _, _, rfl, rfl, by omega, by omega, by (try simp only [z_r0_0, z_r0_1, z_r0_2, z_r0_0_6, z_r0_0_7, z_r0_0_8, z_r0_0_9, z_r0_0_10]); simp only [k0_r0_0_0], rfl, rfl⟩

theorem s_X0_tables_x {d : Nat} {T N : Nat → Nat} {I : IT} {L : LT} {R : RT} {A B : Nat → Prop} {r0 : Nat} (hS : SUB B A) (hI : IX A T I) (H_r0 : (hs_Al T N R A B) r0) (hp0 : PRM (I (rA R r0 0) 0).toInt) : Ex (d + 1) 9 [.ref r0] (T, N, I, L, R) 0 0 (pI T N R (fun x9 I9 L9 => (x9.toInt = TAB (I (rA R r0 0) 0).toInt) ∧ (I = I9 ∧ L = L9))) := by
  refine ⟨_, rfl, Nat.le_of_ble_eq_true rfl, fun V C S => ?_⟩
  show V 0 [(0, .ref r0)] [] (T, N, I, L, R) 0 0
  obtain ⟨T_r0, A_r0, B_r0, ⟨r0_0, R_r0_0, H_r0_0⟩, ⟨r0_1, R_r0_1, H_r0_1⟩, ⟨r0_2, R_r0_2, H_r0_2⟩⟩ := id H_r0
  have z_r0_0 : rA R r0 0 = r0_0 := rA_e R_r0_0
  have z_r0_1 : rA R r0 1 = r0_1 := rA_e R_r0_1
  have z_r0_2 : rA R r0 2 = r0_2 := rA_e R_r0_2
  obtain ⟨T_r0_0, A_r0_0, B_r0_0, ⟨r0_0_6, R_r0_0_6, H_r0_0_6⟩, ⟨r0_0_7, R_r0_0_7, H_r0_0_7⟩, ⟨r0_0_8, R_r0_0_8, H_r0_0_8⟩, ⟨r0_0_9, R_r0_0_9, H_r0_0_9⟩, ⟨r0_0_10, R_r0_0_10, H_r0_0_10⟩⟩ := id H_r0_0
  have z_r0_0_6 : rA R r0_0 6 = r0_0_6 := rA_e R_r0_0_6
  have z_r0_0_7 : rA R r0_0 7 = r0_0_7 := rA_e R_r0_0_7
  have z_r0_0_8 : rA R r0_0 8 = r0_0_8 := rA_e R_r0_0_8
  have z_r0_0_9 : rA R r0_0 9 = r0_0_9 := rA_e R_r0_0_9
  have z_r0_0_10 : rA R r0_0 10 = r0_0_10 := rA_e R_r0_0_10
  try simp only [z_r0_0, z_r0_1, z_r0_2, z_r0_0_6, z_r0_0_7, z_r0_0_8, z_r0_0_9, z_r0_0_10] at hp0
  obtain ⟨w_r0_0_0, k0_r0_0_0⟩ : ∃ x, I r0_0 0 = x := ⟨_, rfl⟩
  have gw_r0_0_0 := rg w_r0_0_0
  have ow_r0_0_0 := IX.p hI A_r0_0 T_r0_0 k0_r0_0_0
  try simp only [k0_r0_0_0] at hp0
  try simp only [k0_r0_0_0] at hp0
  refine k_aload_n C rfl rfl rfl ?_
  refine g_R C rfl rfl rfl T_r0 rfl R_r0_0 ?_
  refine g_I C rfl rfl rfl T_r0_0 rfl k0_r0_0_0 ?_
  refine k_istore_n C (lw := [(1, .int w_r0_0_0), (0, .ref r0)]) rfl rfl (Nat.le_of_ble_eq_true rfl) rfl ?_
  refine k_iload_n C rfl rfl rfl ?_
  refine k_iload_n C rfl rfl rfl ?_
  refine z_imulE C rfl rfl (fun x1 ex1 => ?_)
  have gx1 := rg x1
  have m10 := ex1
  have t10 := IMX.sq m10 hp0
  refine z_iconst C (z := 1) rfl rfl rfl (fun x2 ex2 => ?_)
  refine z_isub C rfl rfl ⟨by omega, by omega⟩ (fun x3 ex3 => ?_)
  refine k_iload_n C rfl rfl rfl ?_
  refine k_iload_n C rfl rfl rfl ?_
  refine z_imulE C rfl rfl (fun x4 ex4 => ?_)
  have gx4 := rg x4
  have m15 := ex4
  have t15 := IMX.sq m15 hp0
  refine k_iload_n C rfl rfl rfl ?_
  refine z_isub C rfl rfl ⟨by omega, by omega⟩ (fun x5 ex5 => ?_)
  refine z_imulE C rfl rfl (fun x6 ex6 => ?_)
  have gx6 := rg x6
  have m18 := ex6
  exact k_iret C rfl (Or.inl rfl) (Nat.le_of_ble_eq_true rfl) (Nat.le_of_ble_eq_true rfl) ⟨_, _, _, rfl, rfl, by (try simp only [z_r0_0, z_r0_1, z_r0_2, z_r0_0_6, z_r0_0_7, z_r0_0_8, z_r0_0_9, z_r0_0_10]); simp only [k0_r0_0_0]; exact TAB.of m18 t10.1 t15.1 (by omega) (by omega) hp0, rfl, rfl⟩

theorem s_X6_pointX_x {d : Nat} {T N : Nat → Nat} {I : IT} {L : LT} {R : RT} {A B : Nat → Prop} {n0 : Int32} (hS : SUB B A) (hI : IX A T I) (b0_n0 : 0 ≤ n0.toInt) (b1_n0 : n0.toInt ≤ 8) : Ex (d + 1) 85 [.int n0] (T, N, I, L, R) 0 0 (pI T N R (fun x9 I9 L9 => (0 ≤ x9.toInt) ∧ (x9.toInt ≤ 7) ∧ (x9.toInt = ptX n0.toNatClampNeg) ∧ (I = I9 ∧ L = L9))) := by
  refine ⟨_, rfl, Nat.le_of_ble_eq_true rfl, fun V C S => ?_⟩
  show V 0 [(0, .int n0)] [] (T, N, I, L, R) 0 0
  have gn0 := rg n0
  refine k_iload_n C rfl rfl rfl ?_
  refine b_if_ne C (t := 8) rfl rfl rfl (fun c1 => ?_) (fun c1 => ?_)
  · skip
    refine k_iload_n C rfl rfl rfl ?_
    refine z_iconst C (z := 1) rfl rfl rfl (fun x2 ex2 => ?_)
    refine z_isub C rfl rfl ⟨by omega, by omega⟩ (fun x3 ex3 => ?_)
    exact k_iret C rfl (Or.inl rfl) (Nat.le_of_ble_eq_true rfl) (Nat.le_of_ble_eq_true rfl) ⟨_, _, _, rfl, rfl, by omega, by omega, by exact PTX.x (by omega) (by omega), rfl, rfl⟩
  refine z_iconst C (z := 1) rfl rfl rfl (fun x4 ex4 => ?_)
  refine k_goto C (pc2 := 11) rfl rfl ?_
  exact k_iret C rfl (Or.inl rfl) (Nat.le_of_ble_eq_true rfl) (Nat.le_of_ble_eq_true rfl) ⟨_, _, _, rfl, rfl, by omega, by omega, by exact PTX.x (by omega) (by omega), rfl, rfl⟩

theorem s_X6_pointY_x {d : Nat} {T N : Nat → Nat} {I : IT} {L : LT} {R : RT} {A B : Nat → Prop} {n0 : Int32} (hS : SUB B A) (hI : IX A T I) (b0_n0 : 0 ≤ n0.toInt) (b1_n0 : n0.toInt ≤ 8) : Ex (d + 1) 86 [.int n0] (T, N, I, L, R) 0 0 (pI T N R (fun x9 I9 L9 => (0 ≤ x9.toInt) ∧ (x9.toInt ≤ 1) ∧ (x9.toInt = ptY n0.toNatClampNeg) ∧ (I = I9 ∧ L = L9))) := by
  refine ⟨_, rfl, Nat.le_of_ble_eq_true rfl, fun V C S => ?_⟩
  show V 0 [(0, .int n0)] [] (T, N, I, L, R) 0 0
  have gn0 := rg n0
  refine k_iload_n C rfl rfl rfl ?_
  refine b_if_ne C (t := 8) rfl rfl rfl (fun c1 => ?_) (fun c1 => ?_)
  · skip
    refine z_iconst C (z := 1) rfl rfl rfl (fun x2 ex2 => ?_)
    exact k_iret C rfl (Or.inl rfl) (Nat.le_of_ble_eq_true rfl) (Nat.le_of_ble_eq_true rfl) ⟨_, _, _, rfl, rfl, by omega, by omega, by exact PTX.y (by omega) (by omega), rfl, rfl⟩
  refine z_iconst C (z := 0) rfl rfl rfl (fun x3 ex3 => ?_)
  refine k_goto C (pc2 := 9) rfl rfl ?_
  exact k_iret C rfl (Or.inl rfl) (Nat.le_of_ble_eq_true rfl) (Nat.le_of_ble_eq_true rfl) ⟨_, _, _, rfl, rfl, by omega, by omega, by exact PTX.y (by omega) (by omega), rfl, rfl⟩

theorem s_X6_valueAt_x {d : Nat} {T N : Nat → Nat} {I : IT} {L : LT} {R : RT} {A B : Nat → Prop} {r0 : Nat} {n1 n2 : Int32} (hS : SUB B A) (hI : IX A T I) (H_r0 : (hs_Se T N R A B) r0) (b0_n1 : 0 ≤ n1.toInt) (b1_n1 : n1.toInt ≤ 18) (b0_n2 : 0 ≤ n2.toInt) (b1_n2 : n2.toInt ≤ 18) : Ex (d + 1) 89 [.ref r0, .int n1, .int n2] (T, N, I, L, R) 0 0 (pI T N R (fun x9 I9 L9 => (x9.toInt = (I (rA R r0 3) (20 * n1.toNatClampNeg + n2.toNatClampNeg)).toInt) ∧ (I = I9 ∧ L = L9))) := by
  refine ⟨_, rfl, Nat.le_of_ble_eq_true rfl, fun V C S => ?_⟩
  show V 0 [(0, .ref r0), (1, .int n1), (2, .int n2)] [] (T, N, I, L, R) 0 0
  have gn1 := rg n1
  have gn2 := rg n2
  obtain ⟨T_r0, A_r0, B_r0, ⟨r0_2, R_r0_2, H_r0_2⟩, ⟨r0_3, R_r0_3, H_r0_3⟩, ⟨r0_4, R_r0_4, H_r0_4⟩, ⟨r0_5, R_r0_5, H_r0_5⟩, ⟨r0_6, R_r0_6, H_r0_6⟩⟩ := id H_r0
  have z_r0_2 : rA R r0 2 = r0_2 := rA_e R_r0_2
  have z_r0_3 : rA R r0 3 = r0_3 := rA_e R_r0_3
  have z_r0_4 : rA R r0 4 = r0_4 := rA_e R_r0_4
  have z_r0_5 : rA R r0 5 = r0_5 := rA_e R_r0_5
  have z_r0_6 : rA R r0 6 = r0_6 := rA_e R_r0_6
  refine k_iload_n C rfl rfl rfl ?_
  refine z_bipush C (z := 20) rfl rfl rfl (fun x1 ex1 => ?_)
  refine z_imulR C (c := 20) rfl rfl (by omega) ⟨by omega, by omega⟩ (fun x2 ex2 => ?_)
  refine k_iload_n C rfl rfl rfl ?_
  refine z_iadd C rfl rfl ⟨by omega, by omega⟩ (fun x3 ex3 => ?_)
  refine k_istore_n C (lw := [(3, .int x3), (0, .ref r0), (1, .int n1), (2, .int n2)]) rfl rfl (Nat.le_of_ble_eq_true rfl) rfl ?_
  refine k_iload_n C rfl rfl rfl ?_
  refine b_if_lt C (t := 20) rfl rfl rfl (fun c4 => by exfalso; omega) (fun c4 => ?_)
  refine k_iload_n C rfl rfl rfl ?_
  refine k_aload_n C rfl rfl rfl ?_
  refine g_R C rfl rfl rfl T_r0 rfl R_r0_3 ?_
  obtain ⟨T_r0_3, N_r0_3, A_r0_3⟩ := id H_r0_3
  refine z_len C (n := 400) rfl rfl (by rw [T_r0_3]; exact Nat.le_of_ble_eq_true rfl) N_r0_3 (Nat.le_of_ble_eq_true rfl) (fun x5 ex5 => ?_)
  refine b_icmp_lt C (t := 24) rfl rfl rfl (fun c6 => ?_) (fun c6 => by exfalso; omega)
  refine k_aload_n C rfl rfl rfl ?_
  refine g_R C rfl rfl rfl T_r0 rfl R_r0_3 ?_
  refine k_iload_n C rfl rfl rfl ?_
  refine z_aI C rfl rfl T_r0_3 N_r0_3 (by omega) (by omega) (fun x7 ex7 => ?_)
  have gx7 := rg x7
  exact k_iret C rfl (Or.inl rfl) (Nat.le_of_ble_eq_true rfl) (Nat.le_of_ble_eq_true rfl) ⟨_, _, _, rfl, rfl, by (try simp only [z_r0_2, z_r0_3, z_r0_4, z_r0_5, z_r0_6]); rw [show 20 * n1.toNatClampNeg + n2.toNatClampNeg = x3.toNatClampNeg from by have h1 := ncz (x := n1) (by omega); have h2 := ncz (x := n2) (by omega); have h3 := ncz (x := x3) (by omega); omega, ex7], rfl, rfl⟩

theorem s_X6_aimAt_x {d : Nat} {T N : Nat → Nat} {I : IT} {L : LT} {R : RT} {A B : Nat → Prop} {r0 : Nat} {n1 : Int32} (hS : SUB B A) (hI : IX A T I) (H_r0 : (hs_Se T N R A B) r0) (b0_n1 : 0 ≤ n1.toInt) (b1_n1 : n1.toInt ≤ 8) : Ex (d + 1) 88 [.ref r0, .int n1] (T, N, I, L, R) 0 0 (pI T N R (fun x9 I9 L9 => (x9.toInt = (I (rA R r0 4) n1.toNatClampNeg).toInt) ∧ (I = I9 ∧ L = L9))) := by
  refine ⟨_, rfl, Nat.le_of_ble_eq_true rfl, fun V C S => ?_⟩
  show V 0 [(0, .ref r0), (1, .int n1)] [] (T, N, I, L, R) 0 0
  have gn1 := rg n1
  obtain ⟨T_r0, A_r0, B_r0, ⟨r0_2, R_r0_2, H_r0_2⟩, ⟨r0_3, R_r0_3, H_r0_3⟩, ⟨r0_4, R_r0_4, H_r0_4⟩, ⟨r0_5, R_r0_5, H_r0_5⟩, ⟨r0_6, R_r0_6, H_r0_6⟩⟩ := id H_r0
  have z_r0_2 : rA R r0 2 = r0_2 := rA_e R_r0_2
  have z_r0_3 : rA R r0 3 = r0_3 := rA_e R_r0_3
  have z_r0_4 : rA R r0 4 = r0_4 := rA_e R_r0_4
  have z_r0_5 : rA R r0 5 = r0_5 := rA_e R_r0_5
  have z_r0_6 : rA R r0 6 = r0_6 := rA_e R_r0_6
  refine k_iload_n C rfl rfl rfl ?_
  refine b_if_lt C (t := 13) rfl rfl rfl (fun c1 => by exfalso; omega) (fun c1 => ?_)
  refine k_iload_n C rfl rfl rfl ?_
  refine k_aload_n C rfl rfl rfl ?_
  refine g_R C rfl rfl rfl T_r0 rfl R_r0_4 ?_
  obtain ⟨T_r0_4, N_r0_4, A_r0_4⟩ := id H_r0_4
  refine z_len C (n := 9) rfl rfl (by rw [T_r0_4]; exact Nat.le_of_ble_eq_true rfl) N_r0_4 (Nat.le_of_ble_eq_true rfl) (fun x2 ex2 => ?_)
  refine b_icmp_lt C (t := 17) rfl rfl rfl (fun c3 => ?_) (fun c3 => by exfalso; omega)
  refine k_aload_n C rfl rfl rfl ?_
  refine g_R C rfl rfl rfl T_r0 rfl R_r0_4 ?_
  refine k_iload_n C rfl rfl rfl ?_
  refine z_aI C rfl rfl T_r0_4 N_r0_4 (by omega) (by omega) (fun x4 ex4 => ?_)
  have gx4 := rg x4
  exact k_iret C rfl (Or.inl rfl) (Nat.le_of_ble_eq_true rfl) (Nat.le_of_ble_eq_true rfl) ⟨_, _, _, rfl, rfl, by (try simp only [z_r0_2, z_r0_3, z_r0_4, z_r0_5, z_r0_6]); rw [ex4], rfl, rfl⟩

theorem s_X6_aim_x {d : Nat} {T N : Nat → Nat} {I : IT} {L : LT} {R : RT} {A B : Nat → Prop} {r0 r1 r2 : Nat} (hS : SUB B A) (hI : IX A T I) (H_r0 : (hs_Se T N R A B) r0) (H_r1 : (hs_F T N R A B) r1) (H_r2 : (hs_F T N R A B) r2) (hU : UPR T R) (hp0 : BNX I (rA R r1 1) (I r1 0).toInt (I (rA R (rA R r0 2) 0) 0).toInt) (hp1 : BNX I (rA R r2 1) (I r2 0).toInt (I (rA R (rA R r0 2) 0) 0).toInt) (hp2 : (I r1 0).toInt ≤ 8) (hp3 : (I r2 0).toInt ≤ 8) : Ex (d + 3) 87 [.ref r0, .ref r1, .ref r2] (T, N, I, L, R) 0 0 (pV T N R (fun I9 L9 => (AIM (I9 (rA R r0 4)) (I (rA R (rA R r0 2) 0) 0).toInt (NF I (rA R r2 1)) (I r2 0).toInt ((I r2 0).toInt + 1)) ∧ (VLX (I9 (rA R r0 3)) (I (rA R (rA R r0 2) 0) 0).toInt (NF I (rA R r1 1)) (I r1 0).toInt (I (rA R (rA R r0 2) 0) 0).toInt 0) ∧ (IX A T I9 ∧ Chg (SL [(rA R r0 3), (rA R r0 4)]) T [] I L I9 L9))) := by
  refine ⟨_, rfl, Nat.le_of_ble_eq_true rfl, fun V C S => ?_⟩
  show V 0 [(0, .ref r0), (1, .ref r1), (2, .ref r2)] [] (T, N, I, L, R) 0 0
  obtain ⟨T_r0, A_r0, B_r0, ⟨r0_2, R_r0_2, H_r0_2⟩, ⟨r0_3, R_r0_3, H_r0_3⟩, ⟨r0_4, R_r0_4, H_r0_4⟩, ⟨r0_5, R_r0_5, H_r0_5⟩, ⟨r0_6, R_r0_6, H_r0_6⟩⟩ := id H_r0
  have z_r0_2 : rA R r0 2 = r0_2 := rA_e R_r0_2
  have z_r0_3 : rA R r0 3 = r0_3 := rA_e R_r0_3
  have z_r0_4 : rA R r0 4 = r0_4 := rA_e R_r0_4
  have z_r0_5 : rA R r0 5 = r0_5 := rA_e R_r0_5
  have z_r0_6 : rA R r0 6 = r0_6 := rA_e R_r0_6
  obtain ⟨T_r1, A_r1, ⟨r1_1, R_r1_1, H_r1_1⟩⟩ := id H_r1
  have z_r1_1 : rA R r1 1 = r1_1 := rA_e R_r1_1
  obtain ⟨T_r2, A_r2, ⟨r2_1, R_r2_1, H_r2_1⟩⟩ := id H_r2
  have z_r2_1 : rA R r2 1 = r2_1 := rA_e R_r2_1
  obtain ⟨T_r0_2, A_r0_2, B_r0_2, ⟨r0_2_0, R_r0_2_0, H_r0_2_0⟩, ⟨r0_2_1, R_r0_2_1, H_r0_2_1⟩, ⟨r0_2_2, R_r0_2_2, H_r0_2_2⟩⟩ := id H_r0_2
  have z_r0_2_0 : rA R r0_2 0 = r0_2_0 := rA_e R_r0_2_0
  have z_r0_2_1 : rA R r0_2 1 = r0_2_1 := rA_e R_r0_2_1
  have z_r0_2_2 : rA R r0_2 2 = r0_2_2 := rA_e R_r0_2_2
  obtain ⟨T_r0_2_0, A_r0_2_0, B_r0_2_0, ⟨r0_2_0_6, R_r0_2_0_6, H_r0_2_0_6⟩, ⟨r0_2_0_7, R_r0_2_0_7, H_r0_2_0_7⟩, ⟨r0_2_0_8, R_r0_2_0_8, H_r0_2_0_8⟩, ⟨r0_2_0_9, R_r0_2_0_9, H_r0_2_0_9⟩, ⟨r0_2_0_10, R_r0_2_0_10, H_r0_2_0_10⟩⟩ := id H_r0_2_0
  have z_r0_2_0_6 : rA R r0_2_0 6 = r0_2_0_6 := rA_e R_r0_2_0_6
  have z_r0_2_0_7 : rA R r0_2_0 7 = r0_2_0_7 := rA_e R_r0_2_0_7
  have z_r0_2_0_8 : rA R r0_2_0 8 = r0_2_0_8 := rA_e R_r0_2_0_8
  have z_r0_2_0_9 : rA R r0_2_0 9 = r0_2_0_9 := rA_e R_r0_2_0_9
  have z_r0_2_0_10 : rA R r0_2_0 10 = r0_2_0_10 := rA_e R_r0_2_0_10
  obtain ⟨T_r1_1, N_r1_1, A_r1_1⟩ := id H_r1_1
  obtain ⟨T_r2_1, N_r2_1, A_r2_1⟩ := id H_r2_1
  obtain ⟨T_r0_3, N_r0_3, A_r0_3⟩ := id H_r0_3
  obtain ⟨T_r0_4, N_r0_4, A_r0_4⟩ := id H_r0_4
  try simp only [z_r0_2, z_r0_3, z_r0_4, z_r0_5, z_r0_6, z_r1_1, z_r2_1, z_r0_2_0, z_r0_2_1, z_r0_2_2, z_r0_2_0_6, z_r0_2_0_7, z_r0_2_0_8, z_r0_2_0_9, z_r0_2_0_10] at hp0
  try simp only [z_r0_2, z_r0_3, z_r0_4, z_r0_5, z_r0_6, z_r1_1, z_r2_1, z_r0_2_0, z_r0_2_1, z_r0_2_2, z_r0_2_0_6, z_r0_2_0_7, z_r0_2_0_8, z_r0_2_0_9, z_r0_2_0_10] at hp1
  try simp only [z_r0_2, z_r0_3, z_r0_4, z_r0_5, z_r0_6, z_r1_1, z_r2_1, z_r0_2_0, z_r0_2_1, z_r0_2_2, z_r0_2_0_6, z_r0_2_0_7, z_r0_2_0_8, z_r0_2_0_9, z_r0_2_0_10] at hp2
  try simp only [z_r0_2, z_r0_3, z_r0_4, z_r0_5, z_r0_6, z_r1_1, z_r2_1, z_r0_2_0, z_r0_2_1, z_r0_2_2, z_r0_2_0_6, z_r0_2_0_7, z_r0_2_0_8, z_r0_2_0_9, z_r0_2_0_10] at hp3
  obtain ⟨w_r1_0, k0_r1_0⟩ : ∃ x, I r1 0 = x := ⟨_, rfl⟩
  have gw_r1_0 := rg w_r1_0
  have ow_r1_0 := IX.deg hI A_r1 T_r1 k0_r1_0
  obtain ⟨w_r2_0, k0_r2_0⟩ : ∃ x, I r2 0 = x := ⟨_, rfl⟩
  have gw_r2_0 := rg w_r2_0
  have ow_r2_0 := IX.deg hI A_r2 T_r2 k0_r2_0
  obtain ⟨w_r0_2_0_0, k0_r0_2_0_0⟩ : ∃ x, I r0_2_0 0 = x := ⟨_, rfl⟩
  have gw_r0_2_0_0 := rg w_r0_2_0_0
  have ow_r0_2_0_0 := IX.p hI A_r0_2_0 T_r0_2_0 k0_r0_2_0_0
  try simp only [k0_r1_0, k0_r2_0, k0_r0_2_0_0] at hp0
  try simp only [k0_r1_0, k0_r2_0, k0_r0_2_0_0] at hp1
  try simp only [k0_r1_0, k0_r2_0, k0_r0_2_0_0] at hp2
  try simp only [k0_r1_0, k0_r2_0, k0_r0_2_0_0] at hp3
  have n13 : NQ9 r1_1 r0_3 := hU.ne (Or.inr (Or.inr (Or.inr (by omega)))) R_r1_1 R_r0_3 (Or.inl (t_nq T_r1 T_r0 (by decide)))
  have n14 : NQ9 r1_1 r0_4 := hU.ne (Or.inr (Or.inr (Or.inr (by omega)))) R_r1_1 R_r0_4 (Or.inl (t_nq T_r1 T_r0 (by decide)))
  have n23 : NQ9 r2_1 r0_3 := hU.ne (Or.inr (Or.inr (Or.inr (by omega)))) R_r2_1 R_r0_3 (Or.inl (t_nq T_r2 T_r0 (by decide)))
  have n24 : NQ9 r2_1 r0_4 := hU.ne (Or.inr (Or.inr (Or.inr (by omega)))) R_r2_1 R_r0_4 (Or.inl (t_nq T_r2 T_r0 (by decide)))
  have n34 : NQ9 r0_3 r0_4 := hU.ne (Or.inr (Or.inr (Or.inr (by omega)))) R_r0_3 R_r0_4 (Or.inr (by decide))
  try simp only [k0_r1_0, k0_r0_2_0_0] at hp0
  try simp only [k0_r2_0, k0_r0_2_0_0] at hp1
  refine z_iconst C (z := 0) rfl rfl rfl (fun x1 ex1 => ?_)
  have J2 : ∀ (nn3 : Nat) (I4 : IT) (L5 : LT) (x6 : Int32), ((9 - x6.toInt).toNat = nn3) → (IX A T I4) → (Chg (SL [r0_3, r0_4]) T [] I L I4 L5) → (0 ≤ x6.toInt) → (x6.toInt ≤ 9) → (AIM (I4 r0_4) w_r0_2_0_0.toInt (NF I r2_1) w_r2_0.toInt x6.toInt) → (x6.toInt ≤ w_r2_0.toInt + 1) → V 2 [(0, .ref r0), (1, .ref r1), (2, .ref r2), (3, .int x6)] [] (T, N, I4, L5, R) 0 0 := by
    intro nn3
    induction nn3 using Nat.strongRecOn with
    | _ nn3 ihJ2 =>
      intro I4 L5 x6 hmnn3 hI10 S9 b7 b8 ff2_0 ff2_1
      have gx6 := rg x6
      have e13 := Chg.k S9 T_r1 (by decide) (by decide) k0_r1_0
      have e14 := Chg.k S9 T_r2 (by decide) (by decide) k0_r2_0
      have e15 := Chg.k S9 T_r0_2_0 (by decide) (by decide) k0_r0_2_0_0
      refine k_iload_n C rfl rfl rfl ?_
      refine k_aload_n C rfl rfl rfl ?_
      refine g_I C rfl rfl rfl T_r2 rfl e14 ?_
      refine b_icmp_gt C (t := 47) rfl rfl rfl (fun c16 => ?_) (fun c16 => ?_)
      · skip
        refine z_iconst C (z := 0) rfl rfl rfl (fun x17 ex17 => ?_)
        have J18 : ∀ (nn19 : Nat) (I20 : IT) (L21 : LT) (x22 : Int32), ((19 - x22.toInt).toNat = nn19) → (IX A T I20) → (Chg (SL [r0_3, r0_4]) T [] I4 L5 I20 L21) → (0 ≤ x22.toInt) → (x22.toInt ≤ 19) → (AIM (I20 r0_4) w_r0_2_0_0.toInt (NF I r2_1) w_r2_0.toInt (w_r2_0.toInt + 1)) → (VLX (I20 r0_3) w_r0_2_0_0.toInt (NF I r1_1) w_r1_0.toInt x22.toInt 0) → (x22.toInt ≤ w_r0_2_0_0.toInt) → V 49 [(0, .ref r0), (1, .ref r1), (3, .int x22)] [] (T, N, I20, L21, R) 0 0 := by
          intro nn19
          induction nn19 using Nat.strongRecOn with
          | _ nn19 ihJ18 =>
            intro I20 L21 x22 hmnn19 hI26 S25 b23 b24 ff49_0 ff49_1 ff49_2
            have gx22 := rg x22
            have e30 := Chg.k S25 T_r1 (by decide) (by decide) e13
            have e31 := Chg.k S25 T_r2 (by decide) (by decide) e14
            have e32 := Chg.k S25 T_r0_2_0 (by decide) (by decide) e15
            refine k_iload_n C rfl rfl rfl ?_
            refine k_aload_n C rfl rfl rfl ?_
            refine g_R C rfl rfl rfl T_r0 rfl R_r0_2 ?_
            refine c_VI C (s_X0_p_x hS hI26 H_r0_2) rfl rfl rfl rfl rfl ⟨_, rfl, rfl, T_r0_2, Nat.le_of_ble_eq_true rfl⟩ rfl rfl (Nat.le_of_ble_eq_true rfl) (Nat.le_of_ble_eq_true rfl) (Nat.le_of_ble_eq_true rfl) ?_
            rintro x33 _ _ ⟨o0x33, o1x33, p0x33, rfl, rfl⟩
            have gx33 := rg x33
            try simp only [z_r0_2, z_r0_3, z_r0_4, z_r0_5, z_r0_6, z_r1_1, z_r2_1, z_r0_2_0, z_r0_2_1, z_r0_2_2, z_r0_2_0_6, z_r0_2_0_7, z_r0_2_0_8, z_r0_2_0_9, z_r0_2_0_10] at p0x33
            try simp only [e30, e31, e32] at p0x33
            try have q0x33 := congrArg Int32.toInt p0x33
            have hp54 := p0x33; (try simp only [e32] at hp54)
            refine b_icmp_ge C (t := 124) rfl rfl rfl (fun c34 => ?_) (fun c34 => ?_)
            · skip
              exact k_vret C rfl rfl (Nat.le_of_ble_eq_true rfl) (Nat.le_of_ble_eq_true rfl) ⟨_, _, rfl, rfl, by (try simp only [z_r0_2, z_r0_3, z_r0_4, z_r0_5, z_r0_6, z_r1_1, z_r2_1, z_r0_2_0, z_r0_2_1, z_r0_2_2, z_r0_2_0_6, z_r0_2_0_7, z_r0_2_0_8, z_r0_2_0_9, z_r0_2_0_10]); simp only [k0_r2_0, k0_r0_2_0_0]; exact ff49_0, by (try simp only [z_r0_2, z_r0_3, z_r0_4, z_r0_5, z_r0_6, z_r1_1, z_r2_1, z_r0_2_0, z_r0_2_1, z_r0_2_2, z_r0_2_0_6, z_r0_2_0_7, z_r0_2_0_8, z_r0_2_0_9, z_r0_2_0_10]); simp only [k0_r1_0, k0_r0_2_0_0]; exact VLX.c ff49_1 (by omega) rfl, hI26, (by (try simp only [z_r0_2, z_r0_3, z_r0_4, z_r0_5, z_r0_6, z_r1_1, z_r2_1, z_r0_2_0, z_r0_2_1, z_r0_2_2, z_r0_2_0_6, z_r0_2_0_7, z_r0_2_0_8, z_r0_2_0_9, z_r0_2_0_10]); exact (Chg.cons S9 (Chg.mono S25 (by decide)) (by decide)))⟩
            refine z_iconst C (z := 0) rfl rfl rfl (fun x35 ex35 => ?_)
            have J36 : ∀ (nn37 : Nat) (I38 : IT) (L39 : LT) (x40 : Int32), ((19 - x40.toInt).toNat = nn37) → (IX A T I38) → (Chg (SL [r0_3, r0_4]) T [] I20 L21 I38 L39) → (0 ≤ x40.toInt) → (x40.toInt ≤ 19) → (AIM (I38 r0_4) w_r0_2_0_0.toInt (NF I r2_1) w_r2_0.toInt (w_r2_0.toInt + 1)) → (VLX (I38 r0_3) w_r0_2_0_0.toInt (NF I r1_1) w_r1_0.toInt x22.toInt x40.toInt) → V 63 [(0, .ref r0), (1, .ref r1), (3, .int x22), (4, .int x40)] [] (T, N, I38, L39, R) 0 0 := by
              intro nn37
              induction nn37 using Nat.strongRecOn with
              | _ nn37 ihJ36 =>
                intro I38 L39 x40 hmnn37 hI44 S43 b41 b42 ff63_0 ff63_1
                have gx40 := rg x40
                have e47 := Chg.k S43 T_r1 (by decide) (by decide) e30
                have e48 := Chg.k S43 T_r2 (by decide) (by decide) e31
                have e49 := Chg.k S43 T_r0_2_0 (by decide) (by decide) e32
                refine k_iload C rfl rfl rfl ?_
                refine k_aload_n C rfl rfl rfl ?_
                refine g_R C rfl rfl rfl T_r0 rfl R_r0_2 ?_
                refine c_VI C (s_X0_p_x hS hI44 H_r0_2) rfl rfl rfl rfl rfl ⟨_, rfl, rfl, T_r0_2, Nat.le_of_ble_eq_true rfl⟩ rfl rfl (Nat.le_of_ble_eq_true rfl) (Nat.le_of_ble_eq_true rfl) (Nat.le_of_ble_eq_true rfl) ?_
                rintro x50 _ _ ⟨o0x50, o1x50, p0x50, rfl, rfl⟩
                have gx50 := rg x50
                try simp only [z_r0_2, z_r0_3, z_r0_4, z_r0_5, z_r0_6, z_r1_1, z_r2_1, z_r0_2_0, z_r0_2_1, z_r0_2_2, z_r0_2_0_6, z_r0_2_0_7, z_r0_2_0_8, z_r0_2_0_9, z_r0_2_0_10] at p0x50
                try simp only [e47, e48, e49] at p0x50
                try have q0x50 := congrArg Int32.toInt p0x50
                have hp69 := p0x50; (try simp only [e49] at hp69)
                refine b_icmp_ge C (t := 118) rfl rfl rfl (fun c51 => ?_) (fun c51 => ?_)
                · skip
                  refine z_iinc C (z := 1) (lw := fun x52 => [(3, .int x52), (0, .ref r0), (1, .ref r1), (4, .int x40)]) rfl rfl rfl (Nat.le_of_ble_eq_true rfl) rfl ⟨by omega, by omega⟩ (fun _ => rfl) (fun x52 ex52 => ?_)
                  show V 121 [(3, .int x52), (0, .ref r0), (1, .ref r1), (4, .int x40)] _ _ _ _
                  refine k_goto C (pc2 := 49) rfl rfl ?_
                  refine k_sub S [(0, .ref r0), (1, .ref r1), (3, .int x52)] (List.forall_mem_cons.mpr ⟨List.mem_of_getElem? (i := 1) rfl, List.forall_mem_cons.mpr ⟨List.mem_of_getElem? (i := 2) rfl, List.forall_mem_cons.mpr ⟨List.mem_of_getElem? (i := 0) rfl, fun _ h => nomatch h⟩⟩⟩) ?_
                  exact ihJ18 _ (by omega) I38 L39 x52 rfl hI44 (Chg.cons S25 (Chg.mono S43 (by decide)) (by decide)) (by omega) (by omega) (by exact ff63_0) (by exact VLX.n ff63_1 (by omega) (by omega) rfl) (by omega)
                refine k_iload_n C rfl rfl rfl ?_
                refine z_bipush C (z := 20) rfl rfl rfl (fun x53 ex53 => ?_)
                refine z_imulR C (c := 20) rfl rfl (by omega) ⟨by omega, by omega⟩ (fun x54 ex54 => ?_)
                refine k_iload C rfl rfl rfl ?_
                refine z_iadd C rfl rfl ⟨by omega, by omega⟩ (fun x55 ex55 => ?_)
                refine k_istore C (lw := [(5, .int x55), (0, .ref r0), (1, .ref r1), (3, .int x22), (4, .int x40)]) rfl rfl (Nat.le_of_ble_eq_true rfl) rfl ?_
                refine k_iload C rfl rfl rfl ?_
                refine k_aload_n C rfl rfl rfl ?_
                refine g_R C rfl rfl rfl T_r0 rfl R_r0_3 ?_
                refine z_len C (n := 400) rfl rfl (by rw [T_r0_3]; exact Nat.le_of_ble_eq_true rfl) N_r0_3 (Nat.le_of_ble_eq_true rfl) (fun x56 ex56 => ?_)
                refine b_icmp_ge C (t := 112) rfl rfl rfl (fun c57 => by exfalso; omega) (fun c57 => ?_)
                refine k_aload_n C rfl rfl rfl ?_
                refine g_R C rfl rfl rfl T_r0 rfl R_r0_3 ?_
                refine k_iload C rfl rfl rfl ?_
                refine k_aload_n C rfl rfl rfl ?_
                refine g_R C rfl rfl rfl T_r0 rfl R_r0_2 ?_
                refine k_aload_n C rfl rfl rfl ?_
                refine k_iload_n C rfl rfl rfl ?_
                refine k_iload C rfl rfl rfl ?_
                refine c_VI C (s_X0_worth_x hS hI44 H_r0_2 H_r1 (by omega) (by omega) (by omega) (by omega) (by rw [z_r1_1, e47]; exact BNX.e18 (BNX.eq hp0 (Chg.at ((Chg.cons S9 (Chg.cons S25 (Chg.mono S43 (by decide)) (by decide)) (by decide)) : Chg (SL [r0_3, r0_4]) T [] I L I38 L39) (nm_2 (by first | exact n13 | exact fun e => n13 e.symm) (by first | exact n14 | exact fun e => n14 e.symm)))) (by omega))) rfl rfl rfl rfl rfl ⟨_, rfl, rfl, T_r0_2, Nat.le_of_ble_eq_true rfl⟩ rfl rfl (Nat.le_of_ble_eq_true rfl) (Nat.le_of_ble_eq_true rfl) (Nat.le_of_ble_eq_true rfl) ?_
                rintro x58 _ _ ⟨o0x58, o1x58, p0x58, p1x58, rfl, rfl⟩
                have gx58 := rg x58
                try simp only [z_r0_2, z_r0_3, z_r0_4, z_r0_5, z_r0_6, z_r1_1, z_r2_1, z_r0_2_0, z_r0_2_1, z_r0_2_2, z_r0_2_0_6, z_r0_2_0_7, z_r0_2_0_8, z_r0_2_0_9, z_r0_2_0_10] at p0x58
                try simp only [z_r0_2, z_r0_3, z_r0_4, z_r0_5, z_r0_6, z_r1_1, z_r2_1, z_r0_2_0, z_r0_2_1, z_r0_2_2, z_r0_2_0_6, z_r0_2_0_7, z_r0_2_0_8, z_r0_2_0_9, z_r0_2_0_10] at p1x58
                try simp only [e47, e48, e49] at p0x58
                try have q0x58 := congrArg Int32.toInt p0x58
                try simp only [e47, e48, e49] at p1x58
                try have q1x58 := congrArg Int32.toInt p1x58
                have hw := EV.of (u' := x22.toInt) (v' := x40.toInt) p0x58 p1x58 (Chg.at ((Chg.cons S9 (Chg.cons S25 (Chg.mono S43 (by decide)) (by decide)) (by decide)) : Chg (SL [r0_3, r0_4]) T [] I L I38 L39) (nm_2 (by first | exact n13 | exact fun e => n13 e.symm) (by first | exact n14 | exact fun e => n14 e.symm))) (by first | rfl | rw [e47]) rfl rfl; (try simp only [e49] at hw)
                refine z_sI C rfl rfl T_r0_3 N_r0_3 (by omega) (by omega) (fun I59 uI59 => ?_)
                have hI59 : IX A T I59 := IX.a hI44 T_r0_3 (Nat.le_of_ble_eq_true rfl) uI59
                have S60 : Chg (SL [r0_3]) T [] I38 L39 I59 L39 := Chg.a List.mem_cons_self T_r0_3 (Nat.le_of_ble_eq_true rfl) uI59
                have e61 := u2_n uI59 (t_nq T_r1 T_r0_3 (by decide)) e47
                have e62 := u2_n uI59 (t_nq T_r2 T_r0_3 (by decide)) e48
                have e63 := u2_n uI59 (t_nq T_r0_2_0 T_r0_3 (by decide)) e49
                have hput111 := uI59
                refine z_iinc C (z := 1) (lw := fun x64 => [(4, .int x64), (5, .int x55), (0, .ref r0), (1, .ref r1), (3, .int x22)]) rfl rfl rfl (Nat.le_of_ble_eq_true rfl) rfl ⟨by omega, by omega⟩ (fun _ => rfl) (fun x64 ex64 => ?_)
                show V 115 [(4, .int x64), (5, .int x55), (0, .ref r0), (1, .ref r1), (3, .int x22)] _ _ _ _
                refine k_goto C (pc2 := 63) rfl rfl ?_
                refine k_sub S [(0, .ref r0), (1, .ref r1), (3, .int x22), (4, .int x64)] (List.forall_mem_cons.mpr ⟨List.mem_of_getElem? (i := 2) rfl, List.forall_mem_cons.mpr ⟨List.mem_of_getElem? (i := 3) rfl, List.forall_mem_cons.mpr ⟨List.mem_of_getElem? (i := 4) rfl, List.forall_mem_cons.mpr ⟨List.mem_of_getElem? (i := 0) rfl, fun _ h => nomatch h⟩⟩⟩⟩) ?_
                exact ihJ36 _ (by omega) I59 L39 x64 rfl hI59 (Chg.cons S43 (Chg.mono (Chg.up S60 (List.forall_mem_cons.mpr ⟨List.mem_of_getElem? (i := 0) rfl, fun _ h => nomatch h⟩)) (by decide)) (by decide)) (by omega) (by omega) (by exact AIM.m ff63_0 (by rw [hput111]; exact u2_r (Ne.symm n34)) (by omega)) (by exact VLX.s ff63_1 hput111 hw (by omega) (by omega) (by omega) (by omega) (by omega) (by omega))
            refine k_istore C (lw := [(4, .int x35), (0, .ref r0), (1, .ref r1), (3, .int x22)]) rfl rfl (Nat.le_of_ble_eq_true rfl) rfl ?_
            refine k_sub S [(0, .ref r0), (1, .ref r1), (3, .int x22), (4, .int x35)] (List.forall_mem_cons.mpr ⟨List.mem_of_getElem? (i := 1) rfl, List.forall_mem_cons.mpr ⟨List.mem_of_getElem? (i := 2) rfl, List.forall_mem_cons.mpr ⟨List.mem_of_getElem? (i := 3) rfl, List.forall_mem_cons.mpr ⟨List.mem_of_getElem? (i := 0) rfl, fun _ h => nomatch h⟩⟩⟩⟩) ?_
            exact J36 _ I20 L21 x35 rfl hI26 Chg.rf (by omega) (by omega) (by exact ff49_0) (by exact VLX.c ff49_1 rfl (by omega))
        refine k_istore_n C (lw := [(3, .int x17), (0, .ref r0), (1, .ref r1), (2, .ref r2)]) rfl rfl (Nat.le_of_ble_eq_true rfl) rfl ?_
        refine k_sub S [(0, .ref r0), (1, .ref r1), (3, .int x17)] (List.forall_mem_cons.mpr ⟨List.mem_of_getElem? (i := 1) rfl, List.forall_mem_cons.mpr ⟨List.mem_of_getElem? (i := 2) rfl, List.forall_mem_cons.mpr ⟨List.mem_of_getElem? (i := 0) rfl, fun _ h => nomatch h⟩⟩⟩) ?_
        exact J18 _ I4 L5 x17 rfl hI10 Chg.rf (by omega) (by omega) (by exact AIM.m ff2_0 rfl (by omega)) (by exact VLX.z (by omega) (by omega)) (by omega)
      refine k_iload_n C rfl rfl rfl ?_
      refine k_aload_n C rfl rfl rfl ?_
      refine g_R C rfl rfl rfl T_r0 rfl R_r0_4 ?_
      refine z_len C (n := 9) rfl rfl (by rw [T_r0_4]; exact Nat.le_of_ble_eq_true rfl) N_r0_4 (Nat.le_of_ble_eq_true rfl) (fun x65 ex65 => ?_)
      refine b_icmp_ge C (t := 47) rfl rfl rfl (fun c66 => ?_) (fun c66 => ?_)
      · skip
        refine z_iconst C (z := 0) rfl rfl rfl (fun x67 ex67 => ?_)
        have J68 : ∀ (nn69 : Nat) (I70 : IT) (L71 : LT) (x72 : Int32), ((19 - x72.toInt).toNat = nn69) → (IX A T I70) → (Chg (SL [r0_3, r0_4]) T [] I4 L5 I70 L71) → (0 ≤ x72.toInt) → (x72.toInt ≤ 19) → (AIM (I70 r0_4) w_r0_2_0_0.toInt (NF I r2_1) w_r2_0.toInt (w_r2_0.toInt + 1)) → (VLX (I70 r0_3) w_r0_2_0_0.toInt (NF I r1_1) w_r1_0.toInt x72.toInt 0) → (x72.toInt ≤ w_r0_2_0_0.toInt) → V 49 [(0, .ref r0), (1, .ref r1), (3, .int x72)] [] (T, N, I70, L71, R) 0 0 := by
          intro nn69
          induction nn69 using Nat.strongRecOn with
          | _ nn69 ihJ68 =>
            intro I70 L71 x72 hmnn69 hI76 S75 b73 b74 ff49_0 ff49_1 ff49_2
            have gx72 := rg x72
            have e80 := Chg.k S75 T_r1 (by decide) (by decide) e13
            have e81 := Chg.k S75 T_r2 (by decide) (by decide) e14
            have e82 := Chg.k S75 T_r0_2_0 (by decide) (by decide) e15
            refine k_iload_n C rfl rfl rfl ?_
            refine k_aload_n C rfl rfl rfl ?_
            refine g_R C rfl rfl rfl T_r0 rfl R_r0_2 ?_
            refine c_VI C (s_X0_p_x hS hI76 H_r0_2) rfl rfl rfl rfl rfl ⟨_, rfl, rfl, T_r0_2, Nat.le_of_ble_eq_true rfl⟩ rfl rfl (Nat.le_of_ble_eq_true rfl) (Nat.le_of_ble_eq_true rfl) (Nat.le_of_ble_eq_true rfl) ?_
            rintro x83 _ _ ⟨o0x83, o1x83, p0x83, rfl, rfl⟩
            have gx83 := rg x83
            try simp only [z_r0_2, z_r0_3, z_r0_4, z_r0_5, z_r0_6, z_r1_1, z_r2_1, z_r0_2_0, z_r0_2_1, z_r0_2_2, z_r0_2_0_6, z_r0_2_0_7, z_r0_2_0_8, z_r0_2_0_9, z_r0_2_0_10] at p0x83
            try simp only [e80, e81, e82] at p0x83
            try have q0x83 := congrArg Int32.toInt p0x83
            have hp54 := p0x83; (try simp only [e82] at hp54)
            refine b_icmp_ge C (t := 124) rfl rfl rfl (fun c84 => ?_) (fun c84 => ?_)
            · skip
              exact k_vret C rfl rfl (Nat.le_of_ble_eq_true rfl) (Nat.le_of_ble_eq_true rfl) ⟨_, _, rfl, rfl, by (try simp only [z_r0_2, z_r0_3, z_r0_4, z_r0_5, z_r0_6, z_r1_1, z_r2_1, z_r0_2_0, z_r0_2_1, z_r0_2_2, z_r0_2_0_6, z_r0_2_0_7, z_r0_2_0_8, z_r0_2_0_9, z_r0_2_0_10]); simp only [k0_r2_0, k0_r0_2_0_0]; exact ff49_0, by (try simp only [z_r0_2, z_r0_3, z_r0_4, z_r0_5, z_r0_6, z_r1_1, z_r2_1, z_r0_2_0, z_r0_2_1, z_r0_2_2, z_r0_2_0_6, z_r0_2_0_7, z_r0_2_0_8, z_r0_2_0_9, z_r0_2_0_10]); simp only [k0_r1_0, k0_r0_2_0_0]; exact VLX.c ff49_1 (by omega) rfl, hI76, (by (try simp only [z_r0_2, z_r0_3, z_r0_4, z_r0_5, z_r0_6, z_r1_1, z_r2_1, z_r0_2_0, z_r0_2_1, z_r0_2_2, z_r0_2_0_6, z_r0_2_0_7, z_r0_2_0_8, z_r0_2_0_9, z_r0_2_0_10]); exact (Chg.cons S9 (Chg.mono S75 (by decide)) (by decide)))⟩
            refine z_iconst C (z := 0) rfl rfl rfl (fun x85 ex85 => ?_)
            have J86 : ∀ (nn87 : Nat) (I88 : IT) (L89 : LT) (x90 : Int32), ((19 - x90.toInt).toNat = nn87) → (IX A T I88) → (Chg (SL [r0_3, r0_4]) T [] I70 L71 I88 L89) → (0 ≤ x90.toInt) → (x90.toInt ≤ 19) → (AIM (I88 r0_4) w_r0_2_0_0.toInt (NF I r2_1) w_r2_0.toInt (w_r2_0.toInt + 1)) → (VLX (I88 r0_3) w_r0_2_0_0.toInt (NF I r1_1) w_r1_0.toInt x72.toInt x90.toInt) → V 63 [(0, .ref r0), (1, .ref r1), (3, .int x72), (4, .int x90)] [] (T, N, I88, L89, R) 0 0 := by
              intro nn87
              induction nn87 using Nat.strongRecOn with
              | _ nn87 ihJ86 =>
                intro I88 L89 x90 hmnn87 hI94 S93 b91 b92 ff63_0 ff63_1
                have gx90 := rg x90
                have e97 := Chg.k S93 T_r1 (by decide) (by decide) e80
                have e98 := Chg.k S93 T_r2 (by decide) (by decide) e81
                have e99 := Chg.k S93 T_r0_2_0 (by decide) (by decide) e82
                refine k_iload C rfl rfl rfl ?_
                refine k_aload_n C rfl rfl rfl ?_
                refine g_R C rfl rfl rfl T_r0 rfl R_r0_2 ?_
                refine c_VI C (s_X0_p_x hS hI94 H_r0_2) rfl rfl rfl rfl rfl ⟨_, rfl, rfl, T_r0_2, Nat.le_of_ble_eq_true rfl⟩ rfl rfl (Nat.le_of_ble_eq_true rfl) (Nat.le_of_ble_eq_true rfl) (Nat.le_of_ble_eq_true rfl) ?_
                rintro x100 _ _ ⟨o0x100, o1x100, p0x100, rfl, rfl⟩
                have gx100 := rg x100
                try simp only [z_r0_2, z_r0_3, z_r0_4, z_r0_5, z_r0_6, z_r1_1, z_r2_1, z_r0_2_0, z_r0_2_1, z_r0_2_2, z_r0_2_0_6, z_r0_2_0_7, z_r0_2_0_8, z_r0_2_0_9, z_r0_2_0_10] at p0x100
                try simp only [e97, e98, e99] at p0x100
                try have q0x100 := congrArg Int32.toInt p0x100
                have hp69 := p0x100; (try simp only [e99] at hp69)
                refine b_icmp_ge C (t := 118) rfl rfl rfl (fun c101 => ?_) (fun c101 => ?_)
                · skip
                  refine z_iinc C (z := 1) (lw := fun x102 => [(3, .int x102), (0, .ref r0), (1, .ref r1), (4, .int x90)]) rfl rfl rfl (Nat.le_of_ble_eq_true rfl) rfl ⟨by omega, by omega⟩ (fun _ => rfl) (fun x102 ex102 => ?_)
                  show V 121 [(3, .int x102), (0, .ref r0), (1, .ref r1), (4, .int x90)] _ _ _ _
                  refine k_goto C (pc2 := 49) rfl rfl ?_
                  refine k_sub S [(0, .ref r0), (1, .ref r1), (3, .int x102)] (List.forall_mem_cons.mpr ⟨List.mem_of_getElem? (i := 1) rfl, List.forall_mem_cons.mpr ⟨List.mem_of_getElem? (i := 2) rfl, List.forall_mem_cons.mpr ⟨List.mem_of_getElem? (i := 0) rfl, fun _ h => nomatch h⟩⟩⟩) ?_
                  exact ihJ68 _ (by omega) I88 L89 x102 rfl hI94 (Chg.cons S75 (Chg.mono S93 (by decide)) (by decide)) (by omega) (by omega) (by exact ff63_0) (by exact VLX.n ff63_1 (by omega) (by omega) rfl) (by omega)
                refine k_iload_n C rfl rfl rfl ?_
                refine z_bipush C (z := 20) rfl rfl rfl (fun x103 ex103 => ?_)
                refine z_imulR C (c := 20) rfl rfl (by omega) ⟨by omega, by omega⟩ (fun x104 ex104 => ?_)
                refine k_iload C rfl rfl rfl ?_
                refine z_iadd C rfl rfl ⟨by omega, by omega⟩ (fun x105 ex105 => ?_)
                refine k_istore C (lw := [(5, .int x105), (0, .ref r0), (1, .ref r1), (3, .int x72), (4, .int x90)]) rfl rfl (Nat.le_of_ble_eq_true rfl) rfl ?_
                refine k_iload C rfl rfl rfl ?_
                refine k_aload_n C rfl rfl rfl ?_
                refine g_R C rfl rfl rfl T_r0 rfl R_r0_3 ?_
                refine z_len C (n := 400) rfl rfl (by rw [T_r0_3]; exact Nat.le_of_ble_eq_true rfl) N_r0_3 (Nat.le_of_ble_eq_true rfl) (fun x106 ex106 => ?_)
                refine b_icmp_ge C (t := 112) rfl rfl rfl (fun c107 => by exfalso; omega) (fun c107 => ?_)
                refine k_aload_n C rfl rfl rfl ?_
                refine g_R C rfl rfl rfl T_r0 rfl R_r0_3 ?_
                refine k_iload C rfl rfl rfl ?_
                refine k_aload_n C rfl rfl rfl ?_
                refine g_R C rfl rfl rfl T_r0 rfl R_r0_2 ?_
                refine k_aload_n C rfl rfl rfl ?_
                refine k_iload_n C rfl rfl rfl ?_
                refine k_iload C rfl rfl rfl ?_
                refine c_VI C (s_X0_worth_x hS hI94 H_r0_2 H_r1 (by omega) (by omega) (by omega) (by omega) (by rw [z_r1_1, e97]; exact BNX.e18 (BNX.eq hp0 (Chg.at ((Chg.cons S9 (Chg.cons S75 (Chg.mono S93 (by decide)) (by decide)) (by decide)) : Chg (SL [r0_3, r0_4]) T [] I L I88 L89) (nm_2 (by first | exact n13 | exact fun e => n13 e.symm) (by first | exact n14 | exact fun e => n14 e.symm)))) (by omega))) rfl rfl rfl rfl rfl ⟨_, rfl, rfl, T_r0_2, Nat.le_of_ble_eq_true rfl⟩ rfl rfl (Nat.le_of_ble_eq_true rfl) (Nat.le_of_ble_eq_true rfl) (Nat.le_of_ble_eq_true rfl) ?_
                rintro x108 _ _ ⟨o0x108, o1x108, p0x108, p1x108, rfl, rfl⟩
                have gx108 := rg x108
                try simp only [z_r0_2, z_r0_3, z_r0_4, z_r0_5, z_r0_6, z_r1_1, z_r2_1, z_r0_2_0, z_r0_2_1, z_r0_2_2, z_r0_2_0_6, z_r0_2_0_7, z_r0_2_0_8, z_r0_2_0_9, z_r0_2_0_10] at p0x108
                try simp only [z_r0_2, z_r0_3, z_r0_4, z_r0_5, z_r0_6, z_r1_1, z_r2_1, z_r0_2_0, z_r0_2_1, z_r0_2_2, z_r0_2_0_6, z_r0_2_0_7, z_r0_2_0_8, z_r0_2_0_9, z_r0_2_0_10] at p1x108
                try simp only [e97, e98, e99] at p0x108
                try have q0x108 := congrArg Int32.toInt p0x108
                try simp only [e97, e98, e99] at p1x108
                try have q1x108 := congrArg Int32.toInt p1x108
                have hw := EV.of (u' := x72.toInt) (v' := x90.toInt) p0x108 p1x108 (Chg.at ((Chg.cons S9 (Chg.cons S75 (Chg.mono S93 (by decide)) (by decide)) (by decide)) : Chg (SL [r0_3, r0_4]) T [] I L I88 L89) (nm_2 (by first | exact n13 | exact fun e => n13 e.symm) (by first | exact n14 | exact fun e => n14 e.symm))) (by first | rfl | rw [e97]) rfl rfl; (try simp only [e99] at hw)
                refine z_sI C rfl rfl T_r0_3 N_r0_3 (by omega) (by omega) (fun I109 uI109 => ?_)
                have hI109 : IX A T I109 := IX.a hI94 T_r0_3 (Nat.le_of_ble_eq_true rfl) uI109
                have S110 : Chg (SL [r0_3]) T [] I88 L89 I109 L89 := Chg.a List.mem_cons_self T_r0_3 (Nat.le_of_ble_eq_true rfl) uI109
                have e111 := u2_n uI109 (t_nq T_r1 T_r0_3 (by decide)) e97
                have e112 := u2_n uI109 (t_nq T_r2 T_r0_3 (by decide)) e98
                have e113 := u2_n uI109 (t_nq T_r0_2_0 T_r0_3 (by decide)) e99
                have hput111 := uI109
                refine z_iinc C (z := 1) (lw := fun x114 => [(4, .int x114), (5, .int x105), (0, .ref r0), (1, .ref r1), (3, .int x72)]) rfl rfl rfl (Nat.le_of_ble_eq_true rfl) rfl ⟨by omega, by omega⟩ (fun _ => rfl) (fun x114 ex114 => ?_)
                show V 115 [(4, .int x114), (5, .int x105), (0, .ref r0), (1, .ref r1), (3, .int x72)] _ _ _ _
                refine k_goto C (pc2 := 63) rfl rfl ?_
                refine k_sub S [(0, .ref r0), (1, .ref r1), (3, .int x72), (4, .int x114)] (List.forall_mem_cons.mpr ⟨List.mem_of_getElem? (i := 2) rfl, List.forall_mem_cons.mpr ⟨List.mem_of_getElem? (i := 3) rfl, List.forall_mem_cons.mpr ⟨List.mem_of_getElem? (i := 4) rfl, List.forall_mem_cons.mpr ⟨List.mem_of_getElem? (i := 0) rfl, fun _ h => nomatch h⟩⟩⟩⟩) ?_
                exact ihJ86 _ (by omega) I109 L89 x114 rfl hI109 (Chg.cons S93 (Chg.mono (Chg.up S110 (List.forall_mem_cons.mpr ⟨List.mem_of_getElem? (i := 0) rfl, fun _ h => nomatch h⟩)) (by decide)) (by decide)) (by omega) (by omega) (by exact AIM.m ff63_0 (by rw [hput111]; exact u2_r (Ne.symm n34)) (by omega)) (by exact VLX.s ff63_1 hput111 hw (by omega) (by omega) (by omega) (by omega) (by omega) (by omega))
            refine k_istore C (lw := [(4, .int x85), (0, .ref r0), (1, .ref r1), (3, .int x72)]) rfl rfl (Nat.le_of_ble_eq_true rfl) rfl ?_
            refine k_sub S [(0, .ref r0), (1, .ref r1), (3, .int x72), (4, .int x85)] (List.forall_mem_cons.mpr ⟨List.mem_of_getElem? (i := 1) rfl, List.forall_mem_cons.mpr ⟨List.mem_of_getElem? (i := 2) rfl, List.forall_mem_cons.mpr ⟨List.mem_of_getElem? (i := 3) rfl, List.forall_mem_cons.mpr ⟨List.mem_of_getElem? (i := 0) rfl, fun _ h => nomatch h⟩⟩⟩⟩) ?_
            exact J86 _ I70 L71 x85 rfl hI76 Chg.rf (by omega) (by omega) (by exact ff49_0) (by exact VLX.c ff49_1 rfl (by omega))
        refine k_istore_n C (lw := [(3, .int x67), (0, .ref r0), (1, .ref r1), (2, .ref r2)]) rfl rfl (Nat.le_of_ble_eq_true rfl) rfl ?_
        refine k_sub S [(0, .ref r0), (1, .ref r1), (3, .int x67)] (List.forall_mem_cons.mpr ⟨List.mem_of_getElem? (i := 1) rfl, List.forall_mem_cons.mpr ⟨List.mem_of_getElem? (i := 2) rfl, List.forall_mem_cons.mpr ⟨List.mem_of_getElem? (i := 0) rfl, fun _ h => nomatch h⟩⟩⟩) ?_
        exact J68 _ I4 L5 x67 rfl hI10 Chg.rf (by omega) (by omega) (by exact AIM.m ff2_0 rfl (by omega)) (by exact VLX.z (by omega) (by omega)) (by omega)
      refine k_aload_n C rfl rfl rfl ?_
      refine g_R C rfl rfl rfl T_r0 rfl R_r0_4 ?_
      refine k_iload_n C rfl rfl rfl ?_
      refine k_aload_n C rfl rfl rfl ?_
      refine g_R C rfl rfl rfl T_r0 rfl R_r0_2 ?_
      refine k_aload_n C rfl rfl rfl ?_
      refine k_iload_n C rfl rfl rfl ?_
      refine c_SI C (s_X6_pointX_x hS hI10 (by omega) (by omega)) rfl rfl rfl rfl rfl rfl rfl (Nat.le_of_ble_eq_true rfl) (Nat.le_of_ble_eq_true rfl) (Nat.le_of_ble_eq_true rfl) ?_
      rintro x115 _ _ ⟨o0x115, o1x115, p0x115, rfl, rfl⟩
      have gx115 := rg x115
      try simp only [z_r0_2, z_r0_3, z_r0_4, z_r0_5, z_r0_6, z_r1_1, z_r2_1, z_r0_2_0, z_r0_2_1, z_r0_2_2, z_r0_2_0_6, z_r0_2_0_7, z_r0_2_0_8, z_r0_2_0_9, z_r0_2_0_10] at p0x115
      try simp only [e13, e14, e15] at p0x115
      try have q0x115 := congrArg Int32.toInt p0x115
      have hpx := p0x115
      refine k_iload_n C rfl rfl rfl ?_
      refine c_SI C (s_X6_pointY_x hS hI10 (by omega) (by omega)) rfl rfl rfl rfl rfl rfl rfl (Nat.le_of_ble_eq_true rfl) (Nat.le_of_ble_eq_true rfl) (Nat.le_of_ble_eq_true rfl) ?_
      rintro x116 _ _ ⟨o0x116, o1x116, p0x116, rfl, rfl⟩
      have gx116 := rg x116
      try simp only [z_r0_2, z_r0_3, z_r0_4, z_r0_5, z_r0_6, z_r1_1, z_r2_1, z_r0_2_0, z_r0_2_1, z_r0_2_2, z_r0_2_0_6, z_r0_2_0_7, z_r0_2_0_8, z_r0_2_0_9, z_r0_2_0_10] at p0x116
      try simp only [e13, e14, e15] at p0x116
      try have q0x116 := congrArg Int32.toInt p0x116
      have hpy := p0x116
      refine c_VI C (s_X0_worth_x hS hI10 H_r0_2 H_r2 (by omega) (by omega) (by omega) (by omega) (by rw [z_r2_1, e14]; exact BNX.e18 (BNX.eq hp1 (Chg.at ((Chg.mono S9 (by decide)) : Chg (SL [r0_3, r0_4]) T [] I L I4 L5) (nm_2 (by first | exact n23 | exact fun e => n23 e.symm) (by first | exact n24 | exact fun e => n24 e.symm)))) (by omega))) rfl rfl rfl rfl rfl ⟨_, rfl, rfl, T_r0_2, Nat.le_of_ble_eq_true rfl⟩ rfl rfl (Nat.le_of_ble_eq_true rfl) (Nat.le_of_ble_eq_true rfl) (Nat.le_of_ble_eq_true rfl) ?_
      rintro x117 _ _ ⟨o0x117, o1x117, p0x117, p1x117, rfl, rfl⟩
      have gx117 := rg x117
      try simp only [z_r0_2, z_r0_3, z_r0_4, z_r0_5, z_r0_6, z_r1_1, z_r2_1, z_r0_2_0, z_r0_2_1, z_r0_2_2, z_r0_2_0_6, z_r0_2_0_7, z_r0_2_0_8, z_r0_2_0_9, z_r0_2_0_10] at p0x117
      try simp only [z_r0_2, z_r0_3, z_r0_4, z_r0_5, z_r0_6, z_r1_1, z_r2_1, z_r0_2_0, z_r0_2_1, z_r0_2_2, z_r0_2_0_6, z_r0_2_0_7, z_r0_2_0_8, z_r0_2_0_9, z_r0_2_0_10] at p1x117
      try simp only [e13, e14, e15] at p0x117
      try have q0x117 := congrArg Int32.toInt p0x117
      try simp only [e13, e14, e15] at p1x117
      try have q1x117 := congrArg Int32.toInt p1x117
      have hw := EV.of p0x117 p1x117 (Chg.at ((Chg.mono S9 (by decide)) : Chg (SL [r0_3, r0_4]) T [] I L I4 L5) (nm_2 (by first | exact n23 | exact fun e => n23 e.symm) (by first | exact n24 | exact fun e => n24 e.symm))) (by first | rfl | rw [e14]) hpx hpy; (try simp only [e15] at hw)
      refine z_sI C rfl rfl T_r0_4 N_r0_4 (by omega) (by omega) (fun I118 uI118 => ?_)
      have hI118 : IX A T I118 := IX.a hI10 T_r0_4 (Nat.le_of_ble_eq_true rfl) uI118
      have S119 : Chg (SL [r0_4]) T [] I4 L5 I118 L5 := Chg.a List.mem_cons_self T_r0_4 (Nat.le_of_ble_eq_true rfl) uI118
      have e120 := u2_n uI118 (t_nq T_r1 T_r0_4 (by decide)) e13
      have e121 := u2_n uI118 (t_nq T_r2 T_r0_4 (by decide)) e14
      have e122 := u2_n uI118 (t_nq T_r0_2_0 T_r0_4 (by decide)) e15
      have hput40 := uI118
      refine z_iinc C (z := 1) (lw := fun x123 => [(3, .int x123), (0, .ref r0), (1, .ref r1), (2, .ref r2)]) rfl rfl rfl (Nat.le_of_ble_eq_true rfl) rfl ⟨by omega, by omega⟩ (fun _ => rfl) (fun x123 ex123 => ?_)
      show V 44 [(3, .int x123), (0, .ref r0), (1, .ref r1), (2, .ref r2)] _ _ _ _
      refine k_goto C (pc2 := 2) rfl rfl ?_
      refine k_sub S [(0, .ref r0), (1, .ref r1), (2, .ref r2), (3, .int x123)] (List.forall_mem_cons.mpr ⟨List.mem_of_getElem? (i := 1) rfl, List.forall_mem_cons.mpr ⟨List.mem_of_getElem? (i := 2) rfl, List.forall_mem_cons.mpr ⟨List.mem_of_getElem? (i := 3) rfl, List.forall_mem_cons.mpr ⟨List.mem_of_getElem? (i := 0) rfl, fun _ h => nomatch h⟩⟩⟩⟩) ?_
      exact ihJ2 _ (by omega) I118 L5 x123 rfl hI118 (Chg.cons S9 (Chg.mono (Chg.up S119 (List.forall_mem_cons.mpr ⟨List.mem_of_getElem? (i := 1) rfl, fun _ h => nomatch h⟩)) (by decide)) (by decide)) (by omega) (by omega) (by exact AIM.s ff2_0 hput40 hw (by omega) (by omega)) (by omega)
  refine k_istore_n C (lw := [(3, .int x1), (0, .ref r0), (1, .ref r1), (2, .ref r2)]) rfl rfl (Nat.le_of_ble_eq_true rfl) rfl ?_
  refine k_sub S [(0, .ref r0), (1, .ref r1), (2, .ref r2), (3, .int x1)] (List.forall_mem_cons.mpr ⟨List.mem_of_getElem? (i := 1) rfl, List.forall_mem_cons.mpr ⟨List.mem_of_getElem? (i := 2) rfl, List.forall_mem_cons.mpr ⟨List.mem_of_getElem? (i := 3) rfl, List.forall_mem_cons.mpr ⟨List.mem_of_getElem? (i := 0) rfl, fun _ h => nomatch h⟩⟩⟩⟩) ?_
  exact J2 _ I L x1 rfl hI Chg.rf (by omega) (by omega) (by exact AIM.z (by omega)) (by omega)

theorem s_X6_meet_x {d : Nat} {T N : Nat → Nat} {I : IT} {L : LT} {R : RT} {A B : Nat → Prop} {r0 : Nat} {n1 n2 n3 : Int32} (hS : SUB B A) (hI : IX A T I) (H_r0 : (hs_Se T N R A B) r0) (b0_n1 : 0 ≤ n1.toInt) (b1_n1 : n1.toInt ≤ 399) (b0_n2 : 0 ≤ n2.toInt) (b1_n2 : n2.toInt ≤ 399) (b0_n3 : 0 ≤ n3.toInt) (b1_n3 : n3.toInt ≤ 8) (hp0 : 0 ≤ (I r0 1).toInt ∧ (I r0 1).toInt ≤ 200000) : Ex (d + 3) 91 [.ref r0, .int n1, .int n2, .int n3] (T, N, I, L, R) 0 0 (pV T N R (fun I9 L9 => (MEQ (QMT (I (rA R r0 3)) (I (rA R r0 4)) (I (rA R (rA R r0 2) 0) 0).toInt n3.toInt (n1.toInt.toNat / 20) (n2.toInt.toNat / 20) (n1.toInt.toNat % 20) (n2.toInt.toNat % 20)) (I r0 1).toInt (I r0 0).toInt (I9 r0 1).toInt (I9 r0 0).toInt (cod (n1.toInt.toNat / 20) (n2.toInt.toNat / 20) (n1.toInt.toNat % 20) (n2.toInt.toNat % 20))) ∧ (IX A T I9 ∧ Chg (SL [r0]) T [(7, 0), (7, 1)] I L I9 L9))) := by
  refine ⟨_, rfl, Nat.le_of_ble_eq_true rfl, fun V C S => ?_⟩
  show V 0 [(0, .ref r0), (1, .int n1), (2, .int n2), (3, .int n3)] [] (T, N, I, L, R) 0 0
  have gn1 := rg n1
  have gn2 := rg n2
  have gn3 := rg n3
  obtain ⟨T_r0, A_r0, B_r0, ⟨r0_2, R_r0_2, H_r0_2⟩, ⟨r0_3, R_r0_3, H_r0_3⟩, ⟨r0_4, R_r0_4, H_r0_4⟩, ⟨r0_5, R_r0_5, H_r0_5⟩, ⟨r0_6, R_r0_6, H_r0_6⟩⟩ := id H_r0
  have z_r0_2 : rA R r0 2 = r0_2 := rA_e R_r0_2
  have z_r0_3 : rA R r0 3 = r0_3 := rA_e R_r0_3
  have z_r0_4 : rA R r0 4 = r0_4 := rA_e R_r0_4
  have z_r0_5 : rA R r0 5 = r0_5 := rA_e R_r0_5
  have z_r0_6 : rA R r0 6 = r0_6 := rA_e R_r0_6
  obtain ⟨T_r0_2, A_r0_2, B_r0_2, ⟨r0_2_0, R_r0_2_0, H_r0_2_0⟩, ⟨r0_2_1, R_r0_2_1, H_r0_2_1⟩, ⟨r0_2_2, R_r0_2_2, H_r0_2_2⟩⟩ := id H_r0_2
  have z_r0_2_0 : rA R r0_2 0 = r0_2_0 := rA_e R_r0_2_0
  have z_r0_2_1 : rA R r0_2 1 = r0_2_1 := rA_e R_r0_2_1
  have z_r0_2_2 : rA R r0_2 2 = r0_2_2 := rA_e R_r0_2_2
  obtain ⟨T_r0_2_0, A_r0_2_0, B_r0_2_0, ⟨r0_2_0_6, R_r0_2_0_6, H_r0_2_0_6⟩, ⟨r0_2_0_7, R_r0_2_0_7, H_r0_2_0_7⟩, ⟨r0_2_0_8, R_r0_2_0_8, H_r0_2_0_8⟩, ⟨r0_2_0_9, R_r0_2_0_9, H_r0_2_0_9⟩, ⟨r0_2_0_10, R_r0_2_0_10, H_r0_2_0_10⟩⟩ := id H_r0_2_0
  have z_r0_2_0_6 : rA R r0_2_0 6 = r0_2_0_6 := rA_e R_r0_2_0_6
  have z_r0_2_0_7 : rA R r0_2_0 7 = r0_2_0_7 := rA_e R_r0_2_0_7
  have z_r0_2_0_8 : rA R r0_2_0 8 = r0_2_0_8 := rA_e R_r0_2_0_8
  have z_r0_2_0_9 : rA R r0_2_0 9 = r0_2_0_9 := rA_e R_r0_2_0_9
  have z_r0_2_0_10 : rA R r0_2_0 10 = r0_2_0_10 := rA_e R_r0_2_0_10
  try simp only [z_r0_2, z_r0_3, z_r0_4, z_r0_5, z_r0_6, z_r0_2_0, z_r0_2_1, z_r0_2_2, z_r0_2_0_6, z_r0_2_0_7, z_r0_2_0_8, z_r0_2_0_9, z_r0_2_0_10] at hp0
  obtain ⟨w_r0_2_0_0, k0_r0_2_0_0⟩ : ∃ x, I r0_2_0 0 = x := ⟨_, rfl⟩
  have gw_r0_2_0_0 := rg w_r0_2_0_0
  have ow_r0_2_0_0 := IX.p hI A_r0_2_0 T_r0_2_0 k0_r0_2_0_0
  obtain ⟨w_r0_0, k0_r0_0⟩ : ∃ x, I r0 0 = x := ⟨_, rfl⟩
  have gw_r0_0 := rg w_r0_0
  obtain ⟨w_r0_1, k0_r0_1⟩ : ∃ x, I r0 1 = x := ⟨_, rfl⟩
  have gw_r0_1 := rg w_r0_1
  try simp only [k0_r0_2_0_0, k0_r0_0, k0_r0_1] at hp0
  refine k_iload_n C rfl rfl rfl ?_
  refine z_bipush C (z := 20) rfl rfl rfl (fun x1 ex1 => ?_)
  refine z_idivR C (c := 20) rfl rfl (by omega) (by omega) (by omega) (fun x2 ex2 => ?_)
  refine k_istore C (lw := [(4, .int x2), (0, .ref r0), (1, .int n1), (2, .int n2), (3, .int n3)]) rfl rfl (Nat.le_of_ble_eq_true rfl) rfl ?_
  refine k_iload_n C rfl rfl rfl ?_
  refine z_bipush C (z := 20) rfl rfl rfl (fun x3 ex3 => ?_)
  refine z_iremR C (c := 20) rfl rfl (by omega) (by omega) (by omega) (fun x4 ex4 => ?_)
  refine k_istore C (lw := [(5, .int x4), (4, .int x2), (0, .ref r0), (1, .int n1), (2, .int n2), (3, .int n3)]) rfl rfl (Nat.le_of_ble_eq_true rfl) rfl ?_
  refine k_iload_n C rfl rfl rfl ?_
  refine z_bipush C (z := 20) rfl rfl rfl (fun x5 ex5 => ?_)
  refine z_idivR C (c := 20) rfl rfl (by omega) (by omega) (by omega) (fun x6 ex6 => ?_)
  refine k_istore C (lw := [(6, .int x6), (5, .int x4), (4, .int x2), (0, .ref r0), (1, .int n1), (2, .int n2), (3, .int n3)]) rfl rfl (Nat.le_of_ble_eq_true rfl) rfl ?_
  refine k_iload_n C rfl rfl rfl ?_
  refine z_bipush C (z := 20) rfl rfl rfl (fun x7 ex7 => ?_)
  refine z_iremR C (c := 20) rfl rfl (by omega) (by omega) (by omega) (fun x8 ex8 => ?_)
  refine k_istore C (lw := [(7, .int x8), (6, .int x6), (5, .int x4), (4, .int x2), (0, .ref r0), (1, .int n1), (2, .int n2), (3, .int n3)]) rfl rfl (Nat.le_of_ble_eq_true rfl) rfl ?_
  refine k_aload_n C rfl rfl rfl ?_
  refine g_R C rfl rfl rfl T_r0 rfl R_r0_2 ?_
  refine k_iload C rfl rfl rfl ?_
  refine k_iload C rfl rfl rfl ?_
  refine k_iload C rfl rfl rfl ?_
  refine k_iload C rfl rfl rfl ?_
  refine c_VI C (s_X0_detOf_x hS hI H_r0_2) rfl rfl rfl rfl rfl ⟨_, rfl, rfl, T_r0_2, Nat.le_of_ble_eq_true rfl⟩ rfl rfl (Nat.le_of_ble_eq_true rfl) (Nat.le_of_ble_eq_true rfl) (Nat.le_of_ble_eq_true rfl) ?_
  rintro x9 _ _ ⟨o0x9, o1x9, p0x9, rfl, rfl⟩
  have gx9 := rg x9
  try simp only [z_r0_2, z_r0_3, z_r0_4, z_r0_5, z_r0_6, z_r0_2_0, z_r0_2_1, z_r0_2_2, z_r0_2_0_6, z_r0_2_0_7, z_r0_2_0_8, z_r0_2_0_9, z_r0_2_0_10] at p0x9
  try simp only [k0_r0_2_0_0, k0_r0_0, k0_r0_1] at p0x9
  try have q0x9 := congrArg Int32.toInt p0x9
  have hdt := p0x9; (try simp only [k0_r0_2_0_0] at hdt)
  refine b_if_ne C (t := 43) rfl rfl rfl (fun c10 => ?_) (fun c10 => ?_)
  · skip
    refine z_iconst C (z := 2) rfl rfl rfl (fun x11 ex11 => ?_)
    have J12 : ∀ (nn13 : Nat) (x14 : Int32), ((9 - x14.toInt).toNat = nn13) → (2 ≤ x14.toInt) → (x14.toInt ≤ 9) → (QML (I r0_3) (I r0_4) w_r0_2_0_0.toInt (n1.toInt.toNat / 20) (n2.toInt.toNat / 20) (n1.toInt.toNat % 20) (n2.toInt.toNat % 20) x14.toInt) → V 46 [(0, .ref r0), (3, .int n3), (4, .int x2), (5, .int x4), (6, .int x6), (7, .int x8), (8, .int x14)] [] (T, N, I, L, R) 0 0 := by
      intro nn13
      induction nn13 using Nat.strongRecOn with
      | _ nn13 ihJ12 =>
        intro x14 hmnn13 b15 b16 ff46_0
        have gx14 := rg x14
        refine k_iload C rfl rfl rfl ?_
        refine k_iload_n C rfl rfl rfl ?_
        refine b_icmp_gt C (t := 111) rfl rfl rfl (fun c18 => ?_) (fun c18 => ?_)
        · skip
          refine k_iload C rfl rfl rfl ?_
          refine z_bipush C (z := 20) rfl rfl rfl (fun x19 ex19 => ?_)
          refine z_imulR C (c := 20) rfl rfl (by omega) ⟨by omega, by omega⟩ (fun x20 ex20 => ?_)
          refine k_iload C rfl rfl rfl ?_
          refine z_iadd C rfl rfl ⟨by omega, by omega⟩ (fun x21 ex21 => ?_)
          refine z_bipush C (z := 20) rfl rfl rfl (fun x22 ex22 => ?_)
          refine z_imulR C (c := 20) rfl rfl (by omega) ⟨by omega, by omega⟩ (fun x23 ex23 => ?_)
          refine k_iload C rfl rfl rfl ?_
          refine z_iadd C rfl rfl ⟨by omega, by omega⟩ (fun x24 ex24 => ?_)
          refine z_bipush C (z := 20) rfl rfl rfl (fun x25 ex25 => ?_)
          refine z_imulR C (c := 20) rfl rfl (by omega) ⟨by omega, by omega⟩ (fun x26 ex26 => ?_)
          refine k_iload C rfl rfl rfl ?_
          refine z_iadd C rfl rfl ⟨by omega, by omega⟩ (fun x27 ex27 => ?_)
          refine k_istore C (lw := [(8, .int x27), (0, .ref r0), (3, .int n3), (4, .int x2), (5, .int x4), (6, .int x6), (7, .int x8)]) rfl rfl (Nat.le_of_ble_eq_true rfl) rfl ?_
          refine k_aload_n C rfl rfl rfl ?_
          refine k_aload_n C rfl rfl rfl ?_
          refine g_I C rfl rfl rfl T_r0 rfl k0_r0_1 ?_
          refine b_if_ne C (t := 146) rfl rfl rfl (fun c28 => ?_) (fun c28 => ?_)
          · skip
            refine k_aload_n C rfl rfl rfl ?_
            refine g_I C rfl rfl rfl T_r0 rfl k0_r0_0 ?_
            refine k_iload C rfl rfl rfl ?_
            refine c_SI C (s_J9_min_7cf53 hS hI ) rfl rfl rfl rfl rfl rfl rfl (Nat.le_of_ble_eq_true rfl) (Nat.le_of_ble_eq_true rfl) (Nat.le_of_ble_eq_true rfl) ?_
            rintro x29 _ _ ⟨p0x29, p1x29, p2x29, rfl, rfl⟩
            have gx29 := rg x29
            try simp only [z_r0_2, z_r0_3, z_r0_4, z_r0_5, z_r0_6, z_r0_2_0, z_r0_2_1, z_r0_2_2, z_r0_2_0_6, z_r0_2_0_7, z_r0_2_0_8, z_r0_2_0_9, z_r0_2_0_10] at p0x29
            try simp only [z_r0_2, z_r0_3, z_r0_4, z_r0_5, z_r0_6, z_r0_2_0, z_r0_2_1, z_r0_2_2, z_r0_2_0_6, z_r0_2_0_7, z_r0_2_0_8, z_r0_2_0_9, z_r0_2_0_10] at p1x29
            try simp only [z_r0_2, z_r0_3, z_r0_4, z_r0_5, z_r0_6, z_r0_2_0, z_r0_2_1, z_r0_2_2, z_r0_2_0_6, z_r0_2_0_7, z_r0_2_0_8, z_r0_2_0_9, z_r0_2_0_10] at p2x29
            try simp only [k0_r0_2_0_0, k0_r0_0, k0_r0_1] at p0x29
            try have q0x29 := congrArg Int32.toInt p0x29
            try simp only [k0_r0_2_0_0, k0_r0_0, k0_r0_1] at p1x29
            try have q1x29 := congrArg Int32.toInt p1x29
            try simp only [k0_r0_2_0_0, k0_r0_0, k0_r0_1] at p2x29
            try have q2x29 := congrArg Int32.toInt p2x29
            refine z_pI C rfl rfl rfl T_r0 (Or.inr rfl) rfl (fun I30 uI30 => ?_)
            have hI30 : IX A T I30 := IX.f hI T_r0 (boX.tr (by decide) (by decide)) uI30
            have S31 : Chg (SL [r0]) T [(7, 0)] I L I30 L := Chg.f List.mem_cons_self T_r0 uI30
            have e32 := u2_n uI30 (t_nq T_r0_2_0 T_r0 (by decide)) k0_r0_2_0_0
            have e33 := u2_j uI30 (by decide) k0_r0_1
            have e34 := u2_e uI30
            refine k_aload_n C rfl rfl rfl ?_
            refine k_dup C rfl rfl rfl ?_
            refine g_I C rfl rfl rfl T_r0 rfl e33 ?_
            refine z_iconst C (z := 1) rfl rfl rfl (fun x35 ex35 => ?_)
            refine z_iadd C rfl rfl ⟨by omega, by omega⟩ (fun x36 ex36 => ?_)
            refine z_pI C rfl rfl rfl T_r0 (Or.inr rfl) rfl (fun I37 uI37 => ?_)
            have hI37 : IX A T I37 := IX.f hI30 T_r0 (boX.tr (by decide) (by decide)) uI37
            have S38 : Chg (SL [r0]) T [(7, 1)] I30 L I37 L := Chg.f List.mem_cons_self T_r0 uI37
            have e39 := u2_j uI37 (by decide) e32
            have e40 := u2_j uI37 (by decide) e34
            have e41 := u2_e uI37
            exact k_vret C rfl rfl (Nat.le_of_ble_eq_true rfl) (Nat.le_of_ble_eq_true rfl) ⟨_, _, rfl, rfl, by (try simp only [z_r0_2, z_r0_3, z_r0_4, z_r0_5, z_r0_6, z_r0_2_0, z_r0_2_1, z_r0_2_2, z_r0_2_0_6, z_r0_2_0_7, z_r0_2_0_8, z_r0_2_0_9, z_r0_2_0_10]); rw [e40, e41]; simp only [k0_r0_2_0_0, k0_r0_0, k0_r0_1]; exact MEQ.y (QMT.yes hdt (by omega) (by omega) (by omega) (by omega) (by omega) ff46_0 (by omega)) (by omega) (fun _ => by unfold cod; omega) (fun _ => by unfold cod; omega), hI37, (by (try simp only [z_r0_2, z_r0_3, z_r0_4, z_r0_5, z_r0_6, z_r0_2_0, z_r0_2_1, z_r0_2_2, z_r0_2_0_6, z_r0_2_0_7, z_r0_2_0_8, z_r0_2_0_9, z_r0_2_0_10]); exact (Chg.cons (Chg.up S31 (List.forall_mem_cons.mpr ⟨List.mem_of_getElem? (i := 0) rfl, fun _ h => nomatch h⟩)) (Chg.mono (Chg.up S38 (List.forall_mem_cons.mpr ⟨List.mem_of_getElem? (i := 0) rfl, fun _ h => nomatch h⟩)) (by decide)) (by decide)))⟩
          refine k_iload C rfl rfl rfl ?_
          refine k_goto C (pc2 := 155) rfl rfl ?_
          refine z_pI C rfl rfl rfl T_r0 (Or.inr rfl) rfl (fun I42 uI42 => ?_)
          have hI42 : IX A T I42 := IX.f hI T_r0 (boX.tr (by decide) (by decide)) uI42
          have S43 : Chg (SL [r0]) T [(7, 0)] I L I42 L := Chg.f List.mem_cons_self T_r0 uI42
          have e44 := u2_n uI42 (t_nq T_r0_2_0 T_r0 (by decide)) k0_r0_2_0_0
          have e45 := u2_j uI42 (by decide) k0_r0_1
          have e46 := u2_e uI42
          refine k_aload_n C rfl rfl rfl ?_
          refine k_dup C rfl rfl rfl ?_
          refine g_I C rfl rfl rfl T_r0 rfl e45 ?_
          refine z_iconst C (z := 1) rfl rfl rfl (fun x47 ex47 => ?_)
          refine z_iadd C rfl rfl ⟨by omega, by omega⟩ (fun x48 ex48 => ?_)
          refine z_pI C rfl rfl rfl T_r0 (Or.inr rfl) rfl (fun I49 uI49 => ?_)
          have hI49 : IX A T I49 := IX.f hI42 T_r0 (boX.tr (by decide) (by decide)) uI49
          have S50 : Chg (SL [r0]) T [(7, 1)] I42 L I49 L := Chg.f List.mem_cons_self T_r0 uI49
          have e51 := u2_j uI49 (by decide) e44
          have e52 := u2_j uI49 (by decide) e46
          have e53 := u2_e uI49
          exact k_vret C rfl rfl (Nat.le_of_ble_eq_true rfl) (Nat.le_of_ble_eq_true rfl) ⟨_, _, rfl, rfl, by (try simp only [z_r0_2, z_r0_3, z_r0_4, z_r0_5, z_r0_6, z_r0_2_0, z_r0_2_1, z_r0_2_2, z_r0_2_0_6, z_r0_2_0_7, z_r0_2_0_8, z_r0_2_0_9, z_r0_2_0_10]); rw [e52, e53]; simp only [k0_r0_2_0_0, k0_r0_0, k0_r0_1]; exact MEQ.y (QMT.yes hdt (by omega) (by omega) (by omega) (by omega) (by omega) ff46_0 (by omega)) (by omega) (fun _ => by unfold cod; omega) (fun _ => by unfold cod; omega), hI49, (by (try simp only [z_r0_2, z_r0_3, z_r0_4, z_r0_5, z_r0_6, z_r0_2_0, z_r0_2_1, z_r0_2_2, z_r0_2_0_6, z_r0_2_0_7, z_r0_2_0_8, z_r0_2_0_9, z_r0_2_0_10]); exact (Chg.cons (Chg.up S43 (List.forall_mem_cons.mpr ⟨List.mem_of_getElem? (i := 0) rfl, fun _ h => nomatch h⟩)) (Chg.mono (Chg.up S50 (List.forall_mem_cons.mpr ⟨List.mem_of_getElem? (i := 0) rfl, fun _ h => nomatch h⟩)) (by decide)) (by decide)))⟩
        refine k_iload C rfl rfl rfl ?_
        refine c_SI C (s_X6_pointX_x hS hI (by omega) (by omega)) rfl rfl rfl rfl rfl rfl rfl (Nat.le_of_ble_eq_true rfl) (Nat.le_of_ble_eq_true rfl) (Nat.le_of_ble_eq_true rfl) ?_
        rintro x54 _ _ ⟨o0x54, o1x54, p0x54, rfl, rfl⟩
        have gx54 := rg x54
        try simp only [z_r0_2, z_r0_3, z_r0_4, z_r0_5, z_r0_6, z_r0_2_0, z_r0_2_1, z_r0_2_2, z_r0_2_0_6, z_r0_2_0_7, z_r0_2_0_8, z_r0_2_0_9, z_r0_2_0_10] at p0x54
        try simp only [k0_r0_2_0_0, k0_r0_0, k0_r0_1] at p0x54
        try have q0x54 := congrArg Int32.toInt p0x54
        have hpt := p0x54
        refine k_istore C (lw := [(9, .int x54), (0, .ref r0), (3, .int n3), (4, .int x2), (5, .int x4), (6, .int x6), (7, .int x8), (8, .int x14)]) rfl rfl (Nat.le_of_ble_eq_true rfl) rfl ?_
        refine k_aload_n C rfl rfl rfl ?_
        refine k_aload_n C rfl rfl rfl ?_
        refine g_R C rfl rfl rfl T_r0 rfl R_r0_2 ?_
        refine k_iload C rfl rfl rfl ?_
        refine k_iload C rfl rfl rfl ?_
        refine z_imulE C rfl rfl (fun x55 ex55 => ?_)
        have gx55 := rg x55
        have m68 := ex55
        have t68 := IMX.s m68 (by omega) (by omega)
        refine k_iload C rfl rfl rfl ?_
        refine z_iadd C rfl rfl ⟨by omega, by omega⟩ (fun x56 ex56 => ?_)
        have hx72 := ex56
        refine z_i2l C rfl rfl (fun lg57 elg57 => ?_)
        have hl73 := elg57; have hy73 := lg57
        refine c_VI C (s_X0_of_x hS hI H_r0_2) rfl rfl rfl rfl rfl ⟨_, rfl, rfl, T_r0_2, Nat.le_of_ble_eq_true rfl⟩ rfl rfl (Nat.le_of_ble_eq_true rfl) (Nat.le_of_ble_eq_true rfl) (Nat.le_of_ble_eq_true rfl) ?_
        rintro x58 _ _ ⟨o0x58, o1x58, p0x58, p1x58, rfl, rfl⟩
        have gx58 := rg x58
        try simp only [z_r0_2, z_r0_3, z_r0_4, z_r0_5, z_r0_6, z_r0_2_0, z_r0_2_1, z_r0_2_2, z_r0_2_0_6, z_r0_2_0_7, z_r0_2_0_8, z_r0_2_0_9, z_r0_2_0_10] at p0x58
        try simp only [z_r0_2, z_r0_3, z_r0_4, z_r0_5, z_r0_6, z_r0_2_0, z_r0_2_1, z_r0_2_2, z_r0_2_0_6, z_r0_2_0_7, z_r0_2_0_8, z_r0_2_0_9, z_r0_2_0_10] at p1x58
        try simp only [k0_r0_2_0_0, k0_r0_0, k0_r0_1] at p0x58
        try have q0x58 := congrArg Int32.toInt p0x58
        try simp only [k0_r0_2_0_0, k0_r0_0, k0_r0_1] at p1x58
        try have q1x58 := congrArg Int32.toInt p1x58
        have ho73 := p0x58; (try simp only [k0_r0_2_0_0] at ho73)
        refine k_aload_n C rfl rfl rfl ?_
        refine g_R C rfl rfl rfl T_r0 rfl R_r0_2 ?_
        refine k_iload C rfl rfl rfl ?_
        refine k_iload C rfl rfl rfl ?_
        refine z_imulE C rfl rfl (fun x59 ex59 => ?_)
        have gx59 := rg x59
        have m84 := ex59
        have t84 := IMX.s m84 (by omega) (by omega)
        refine k_iload C rfl rfl rfl ?_
        refine z_iadd C rfl rfl ⟨by omega, by omega⟩ (fun x60 ex60 => ?_)
        have hx88 := ex60
        refine z_i2l C rfl rfl (fun lg61 elg61 => ?_)
        have hl89 := elg61
        refine c_VI C (s_X0_of_x hS hI H_r0_2) rfl rfl rfl rfl rfl ⟨_, rfl, rfl, T_r0_2, Nat.le_of_ble_eq_true rfl⟩ rfl rfl (Nat.le_of_ble_eq_true rfl) (Nat.le_of_ble_eq_true rfl) (Nat.le_of_ble_eq_true rfl) ?_
        rintro x62 _ _ ⟨o0x62, o1x62, p0x62, p1x62, rfl, rfl⟩
        have gx62 := rg x62
        try simp only [z_r0_2, z_r0_3, z_r0_4, z_r0_5, z_r0_6, z_r0_2_0, z_r0_2_1, z_r0_2_2, z_r0_2_0_6, z_r0_2_0_7, z_r0_2_0_8, z_r0_2_0_9, z_r0_2_0_10] at p0x62
        try simp only [z_r0_2, z_r0_3, z_r0_4, z_r0_5, z_r0_6, z_r0_2_0, z_r0_2_1, z_r0_2_2, z_r0_2_0_6, z_r0_2_0_7, z_r0_2_0_8, z_r0_2_0_9, z_r0_2_0_10] at p1x62
        try simp only [k0_r0_2_0_0, k0_r0_0, k0_r0_1] at p0x62
        try have q0x62 := congrArg Int32.toInt p0x62
        try simp only [k0_r0_2_0_0, k0_r0_0, k0_r0_1] at p1x62
        try have q1x62 := congrArg Int32.toInt p1x62
        have ho89 := p0x62; (try simp only [k0_r0_2_0_0] at ho89)
        refine c_VI C (s_X6_valueAt_x hS hI H_r0 (by omega) (by omega) (by omega) (by omega)) rfl rfl rfl rfl rfl ⟨_, rfl, rfl, T_r0, Nat.le_of_ble_eq_true rfl⟩ rfl rfl (Nat.le_of_ble_eq_true rfl) (Nat.le_of_ble_eq_true rfl) (Nat.le_of_ble_eq_true rfl) ?_
        rintro x63 _ _ ⟨p0x63, rfl, rfl⟩
        have gx63 := rg x63
        try simp only [z_r0_2, z_r0_3, z_r0_4, z_r0_5, z_r0_6, z_r0_2_0, z_r0_2_1, z_r0_2_2, z_r0_2_0_6, z_r0_2_0_7, z_r0_2_0_8, z_r0_2_0_9, z_r0_2_0_10] at p0x63
        try simp only [k0_r0_2_0_0, k0_r0_0, k0_r0_1] at p0x63
        try have q0x63 := congrArg Int32.toInt p0x63
        have hv := QMV (k := x14) (a := n1.toInt.toNat / 20) (b := n2.toInt.toNat / 20) (c := n1.toInt.toNat % 20) (d := n2.toInt.toNat % 20) p0x63 ho73 ho89 hl73 hl89 hx72 hx88 t68.1 t84.1 hpt (by omega) (by omega) (by omega) (by omega)
        refine k_aload_n C rfl rfl rfl ?_
        refine k_iload C rfl rfl rfl ?_
        refine c_VI C (s_X6_aimAt_x hS hI H_r0 (by omega) (by omega)) rfl rfl rfl rfl rfl ⟨_, rfl, rfl, T_r0, Nat.le_of_ble_eq_true rfl⟩ rfl rfl (Nat.le_of_ble_eq_true rfl) (Nat.le_of_ble_eq_true rfl) (Nat.le_of_ble_eq_true rfl) ?_
        rintro x64 _ _ ⟨p0x64, rfl, rfl⟩
        have gx64 := rg x64
        try simp only [z_r0_2, z_r0_3, z_r0_4, z_r0_5, z_r0_6, z_r0_2_0, z_r0_2_1, z_r0_2_2, z_r0_2_0_6, z_r0_2_0_7, z_r0_2_0_8, z_r0_2_0_9, z_r0_2_0_10] at p0x64
        try simp only [k0_r0_2_0_0, k0_r0_0, k0_r0_1] at p0x64
        try have q0x64 := congrArg Int32.toInt p0x64
        have ha98 := p0x64
        refine b_icmp_eq C (t := 105) rfl rfl rfl (fun c65 => ?_) (fun c65 => ?_)
        · skip
          refine z_iinc C (z := 1) (lw := fun x66 => [(8, .int x66), (9, .int x54), (0, .ref r0), (3, .int n3), (4, .int x2), (5, .int x4), (6, .int x6), (7, .int x8)]) rfl rfl rfl (Nat.le_of_ble_eq_true rfl) rfl ⟨by omega, by omega⟩ (fun _ => rfl) (fun x66 ex66 => ?_)
          show V 108 [(8, .int x66), (9, .int x54), (0, .ref r0), (3, .int n3), (4, .int x2), (5, .int x4), (6, .int x6), (7, .int x8)] _ _ _ _
          refine k_goto C (pc2 := 46) rfl rfl ?_
          refine k_sub S [(0, .ref r0), (3, .int n3), (4, .int x2), (5, .int x4), (6, .int x6), (7, .int x8), (8, .int x66)] (List.forall_mem_cons.mpr ⟨List.mem_of_getElem? (i := 2) rfl, List.forall_mem_cons.mpr ⟨List.mem_of_getElem? (i := 3) rfl, List.forall_mem_cons.mpr ⟨List.mem_of_getElem? (i := 4) rfl, List.forall_mem_cons.mpr ⟨List.mem_of_getElem? (i := 5) rfl, List.forall_mem_cons.mpr ⟨List.mem_of_getElem? (i := 6) rfl, List.forall_mem_cons.mpr ⟨List.mem_of_getElem? (i := 7) rfl, List.forall_mem_cons.mpr ⟨List.mem_of_getElem? (i := 0) rfl, fun _ h => nomatch h⟩⟩⟩⟩⟩⟩⟩) ?_
          exact ihJ12 _ (by omega) x66 rfl (by omega) (by omega) (by exact QML.s ff46_0 hv ha98 (by omega) (by omega) (by omega))
        exact k_vret C rfl rfl (Nat.le_of_ble_eq_true rfl) (Nat.le_of_ble_eq_true rfl) ⟨_, _, rfl, rfl, by (try simp only [z_r0_2, z_r0_3, z_r0_4, z_r0_5, z_r0_6, z_r0_2_0, z_r0_2_1, z_r0_2_2, z_r0_2_0_6, z_r0_2_0_7, z_r0_2_0_8, z_r0_2_0_9, z_r0_2_0_10]); simp only [k0_r0_2_0_0]; exact MEQ.n (QMT.no hv ha98 (by omega) (by omega) (by omega)) rfl rfl, hI, (by (try simp only [z_r0_2, z_r0_3, z_r0_4, z_r0_5, z_r0_6, z_r0_2_0, z_r0_2_1, z_r0_2_2, z_r0_2_0_6, z_r0_2_0_7, z_r0_2_0_8, z_r0_2_0_9, z_r0_2_0_10]); exact Chg.rf)⟩
    refine k_istore C (lw := [(8, .int x11), (7, .int x8), (6, .int x6), (5, .int x4), (4, .int x2), (0, .ref r0), (1, .int n1), (2, .int n2), (3, .int n3)]) rfl rfl (Nat.le_of_ble_eq_true rfl) rfl ?_
    refine k_sub S [(0, .ref r0), (3, .int n3), (4, .int x2), (5, .int x4), (6, .int x6), (7, .int x8), (8, .int x11)] (List.forall_mem_cons.mpr ⟨List.mem_of_getElem? (i := 5) rfl, List.forall_mem_cons.mpr ⟨List.mem_of_getElem? (i := 8) rfl, List.forall_mem_cons.mpr ⟨List.mem_of_getElem? (i := 4) rfl, List.forall_mem_cons.mpr ⟨List.mem_of_getElem? (i := 3) rfl, List.forall_mem_cons.mpr ⟨List.mem_of_getElem? (i := 2) rfl, List.forall_mem_cons.mpr ⟨List.mem_of_getElem? (i := 1) rfl, List.forall_mem_cons.mpr ⟨List.mem_of_getElem? (i := 0) rfl, fun _ h => nomatch h⟩⟩⟩⟩⟩⟩⟩) ?_
    exact J12 _ x11 rfl (by omega) (by omega) (by exact QML.z (by omega))
  exact k_vret C rfl rfl (Nat.le_of_ble_eq_true rfl) (Nat.le_of_ble_eq_true rfl) ⟨_, _, rfl, rfl, by (try simp only [z_r0_2, z_r0_3, z_r0_4, z_r0_5, z_r0_6, z_r0_2_0, z_r0_2_1, z_r0_2_2, z_r0_2_0_6, z_r0_2_0_7, z_r0_2_0_8, z_r0_2_0_9, z_r0_2_0_10]); simp only [k0_r0_2_0_0]; exact MEQ.n (QMT.d hdt (by omega) (by omega) (by omega) (by omega) (by omega)) rfl rfl, hI, (by (try simp only [z_r0_2, z_r0_3, z_r0_4, z_r0_5, z_r0_6, z_r0_2_0, z_r0_2_1, z_r0_2_2, z_r0_2_0_6, z_r0_2_0_7, z_r0_2_0_8, z_r0_2_0_9, z_r0_2_0_10]); exact Chg.rf)⟩

theorem s_X6_choose_w400_x {d : Nat} {T N : Nat → Nat} {I : IT} {L : LT} {R : RT} {A B : Nat → Prop} {r0 r1 : Nat} {n2 : Int32} (hS : SUB B A) (hI : IX A T I) (H_r0 : (hs_Se T N R A B) r0) (H_r1 : (h_A T N B 20 400) r1) (hp0 : NQ9 r1 (rA R r0 3)) : Ex (d + 2) 90 [.ref r0, .ref r1, .int n2] (T, N, I, L, R) 0 0 (pI T N R (fun x9 I9 L9 => (0 ≤ x9.toInt) ∧ (x9.toInt ≤ 400) ∧ (CHO (fun i => (I9 r1 i).toInt) (fun a c => (I (rA R r0 3) (20 * a + c)).toInt = n2.toInt) (I (rA R (rA R r0 2) 0) 0).toInt.toNat x9.toInt (I (rA R (rA R r0 2) 0) 0).toInt 0) ∧ (IX A T I9 ∧ Chg (SL [r1]) T [] I L I9 L9))) := by
  refine ⟨_, rfl, Nat.le_of_ble_eq_true rfl, fun V C S => ?_⟩
  show V 0 [(0, .ref r0), (1, .ref r1), (2, .int n2)] [] (T, N, I, L, R) 0 0
  have gn2 := rg n2
  obtain ⟨T_r0, A_r0, B_r0, ⟨r0_2, R_r0_2, H_r0_2⟩, ⟨r0_3, R_r0_3, H_r0_3⟩, ⟨r0_4, R_r0_4, H_r0_4⟩, ⟨r0_5, R_r0_5, H_r0_5⟩, ⟨r0_6, R_r0_6, H_r0_6⟩⟩ := id H_r0
  have z_r0_2 : rA R r0 2 = r0_2 := rA_e R_r0_2
  have z_r0_3 : rA R r0 3 = r0_3 := rA_e R_r0_3
  have z_r0_4 : rA R r0 4 = r0_4 := rA_e R_r0_4
  have z_r0_5 : rA R r0 5 = r0_5 := rA_e R_r0_5
  have z_r0_6 : rA R r0 6 = r0_6 := rA_e R_r0_6
  obtain ⟨T_r0_2, A_r0_2, B_r0_2, ⟨r0_2_0, R_r0_2_0, H_r0_2_0⟩, ⟨r0_2_1, R_r0_2_1, H_r0_2_1⟩, ⟨r0_2_2, R_r0_2_2, H_r0_2_2⟩⟩ := id H_r0_2
  have z_r0_2_0 : rA R r0_2 0 = r0_2_0 := rA_e R_r0_2_0
  have z_r0_2_1 : rA R r0_2 1 = r0_2_1 := rA_e R_r0_2_1
  have z_r0_2_2 : rA R r0_2 2 = r0_2_2 := rA_e R_r0_2_2
  obtain ⟨T_r0_2_0, A_r0_2_0, B_r0_2_0, ⟨r0_2_0_6, R_r0_2_0_6, H_r0_2_0_6⟩, ⟨r0_2_0_7, R_r0_2_0_7, H_r0_2_0_7⟩, ⟨r0_2_0_8, R_r0_2_0_8, H_r0_2_0_8⟩, ⟨r0_2_0_9, R_r0_2_0_9, H_r0_2_0_9⟩, ⟨r0_2_0_10, R_r0_2_0_10, H_r0_2_0_10⟩⟩ := id H_r0_2_0
  have z_r0_2_0_6 : rA R r0_2_0 6 = r0_2_0_6 := rA_e R_r0_2_0_6
  have z_r0_2_0_7 : rA R r0_2_0 7 = r0_2_0_7 := rA_e R_r0_2_0_7
  have z_r0_2_0_8 : rA R r0_2_0 8 = r0_2_0_8 := rA_e R_r0_2_0_8
  have z_r0_2_0_9 : rA R r0_2_0 9 = r0_2_0_9 := rA_e R_r0_2_0_9
  have z_r0_2_0_10 : rA R r0_2_0 10 = r0_2_0_10 := rA_e R_r0_2_0_10
  obtain ⟨T_r1, N_r1, A_r1⟩ := id H_r1
  try simp only [z_r0_2, z_r0_3, z_r0_4, z_r0_5, z_r0_6, z_r0_2_0, z_r0_2_1, z_r0_2_2, z_r0_2_0_6, z_r0_2_0_7, z_r0_2_0_8, z_r0_2_0_9, z_r0_2_0_10] at hp0
  obtain ⟨w_r0_2_0_0, k0_r0_2_0_0⟩ : ∃ x, I r0_2_0 0 = x := ⟨_, rfl⟩
  have gw_r0_2_0_0 := rg w_r0_2_0_0
  have ow_r0_2_0_0 := IX.p hI A_r0_2_0 T_r0_2_0 k0_r0_2_0_0
  try simp only [k0_r0_2_0_0] at hp0
  refine z_iconst C (z := 0) rfl rfl rfl (fun x1 ex1 => ?_)
  refine k_istore_n C (lw := [(3, .int x1), (0, .ref r0), (1, .ref r1), (2, .int n2)]) rfl rfl (Nat.le_of_ble_eq_true rfl) rfl ?_
  refine z_iconst C (z := 0) rfl rfl rfl (fun x2 ex2 => ?_)
  have J3 : ∀ (nn4 : Nat) (I5 : IT) (L6 : LT) (x7 : Int32) (x10 : Int32), ((19 - x10.toInt).toNat = nn4) → (IX A T I5) → (Chg (SL [r1]) T [] I L I5 L6) → (0 ≤ x7.toInt) → (x7.toInt ≤ 400) → (0 ≤ x10.toInt) → (x10.toInt ≤ 19) → (CHO (fun i => (I5 r1 i).toInt) (fun a c => (I r0_3 (20 * a + c)).toInt = n2.toInt) w_r0_2_0_0.toInt.toNat x7.toInt x10.toInt 0) → (x10.toInt ≤ w_r0_2_0_0.toInt) → V 5 [(0, .ref r0), (1, .ref r1), (2, .int n2), (3, .int x7), (4, .int x10)] [] (T, N, I5, L6, R) 0 0 := by
    intro nn4
    induction nn4 using Nat.strongRecOn with
    | _ nn4 ihJ3 =>
      intro I5 L6 x7 x10 hmnn4 hI14 S13 b8 b9 b11 b12 ff5_0 ff5_1
      have gx7 := rg x7
      have gx10 := rg x10
      have e17 := Chg.k S13 T_r0_2_0 (by decide) (by decide) k0_r0_2_0_0
      refine k_iload C rfl rfl rfl ?_
      refine k_aload_n C rfl rfl rfl ?_
      refine g_R C rfl rfl rfl T_r0 rfl R_r0_2 ?_
      refine c_VI C (s_X0_p_x hS hI14 H_r0_2) rfl rfl rfl rfl rfl ⟨_, rfl, rfl, T_r0_2, Nat.le_of_ble_eq_true rfl⟩ rfl rfl (Nat.le_of_ble_eq_true rfl) (Nat.le_of_ble_eq_true rfl) (Nat.le_of_ble_eq_true rfl) ?_
      rintro x18 _ _ ⟨o0x18, o1x18, p0x18, rfl, rfl⟩
      have gx18 := rg x18
      try simp only [z_r0_2, z_r0_3, z_r0_4, z_r0_5, z_r0_6, z_r0_2_0, z_r0_2_1, z_r0_2_2, z_r0_2_0_6, z_r0_2_0_7, z_r0_2_0_8, z_r0_2_0_9, z_r0_2_0_10] at p0x18
      try simp only [e17] at p0x18
      try have q0x18 := congrArg Int32.toInt p0x18
      have hp11 := p0x18; (try simp only [e17] at hp11)
      refine b_icmp_ge C (t := 76) rfl rfl rfl (fun c19 => ?_) (fun c19 => ?_)
      · skip
        refine k_iload_n C rfl rfl rfl ?_
        exact k_iret C rfl (Or.inl rfl) (Nat.le_of_ble_eq_true rfl) (Nat.le_of_ble_eq_true rfl) ⟨_, _, _, rfl, rfl, by omega, by omega, by (try simp only [z_r0_2, z_r0_3, z_r0_4, z_r0_5, z_r0_6, z_r0_2_0, z_r0_2_1, z_r0_2_2, z_r0_2_0_6, z_r0_2_0_7, z_r0_2_0_8, z_r0_2_0_9, z_r0_2_0_10]); simp only [k0_r0_2_0_0]; have e9 : x10.toInt = w_r0_2_0_0.toInt := (by omega); rw [← e9]; rw [e9]; exact CHO.x ff5_0 e9, hI14, (by (try simp only [z_r0_2, z_r0_3, z_r0_4, z_r0_5, z_r0_6, z_r0_2_0, z_r0_2_1, z_r0_2_2, z_r0_2_0_6, z_r0_2_0_7, z_r0_2_0_8, z_r0_2_0_9, z_r0_2_0_10]); exact (Chg.mono S13 (by decide)))⟩
      refine z_iconst C (z := 0) rfl rfl rfl (fun x20 ex20 => ?_)
      have J21 : ∀ (nn22 : Nat) (I23 : IT) (L24 : LT) (x25 : Int32) (x28 : Int32), ((19 - x28.toInt).toNat = nn22) → (IX A T I23) → (Chg (SL [r1]) T [] I5 L6 I23 L24) → (0 ≤ x25.toInt) → (x25.toInt ≤ 400) → (0 ≤ x28.toInt) → (x28.toInt ≤ 19) → (CHO (fun i => (I23 r1 i).toInt) (fun a c => (I r0_3 (20 * a + c)).toInt = n2.toInt) w_r0_2_0_0.toInt.toNat x25.toInt x10.toInt x28.toInt) → (x28.toInt ≤ w_r0_2_0_0.toInt) → (x25.toInt ≤ 19 * x10.toInt + x28.toInt) → V 20 [(0, .ref r0), (1, .ref r1), (2, .int n2), (3, .int x25), (4, .int x10), (5, .int x28)] [] (T, N, I23, L24, R) 0 0 := by
        intro nn22
        induction nn22 using Nat.strongRecOn with
        | _ nn22 ihJ21 =>
          intro I23 L24 x25 x28 hmnn22 hI32 S31 b26 b27 b29 b30 ff20_0 ff20_1 ff20_2
          have gx25 := rg x25
          have gx28 := rg x28
          have e36 := Chg.k S31 T_r0_2_0 (by decide) (by decide) e17
          refine k_iload C rfl rfl rfl ?_
          refine k_aload_n C rfl rfl rfl ?_
          refine g_R C rfl rfl rfl T_r0 rfl R_r0_2 ?_
          refine c_VI C (s_X0_p_x hS hI32 H_r0_2) rfl rfl rfl rfl rfl ⟨_, rfl, rfl, T_r0_2, Nat.le_of_ble_eq_true rfl⟩ rfl rfl (Nat.le_of_ble_eq_true rfl) (Nat.le_of_ble_eq_true rfl) (Nat.le_of_ble_eq_true rfl) ?_
          rintro x37 _ _ ⟨o0x37, o1x37, p0x37, rfl, rfl⟩
          have gx37 := rg x37
          try simp only [z_r0_2, z_r0_3, z_r0_4, z_r0_5, z_r0_6, z_r0_2_0, z_r0_2_1, z_r0_2_2, z_r0_2_0_6, z_r0_2_0_7, z_r0_2_0_8, z_r0_2_0_9, z_r0_2_0_10] at p0x37
          try simp only [e36] at p0x37
          try have q0x37 := congrArg Int32.toInt p0x37
          have hp26 := p0x37; (try simp only [e36] at hp26)
          refine b_icmp_ge C (t := 70) rfl rfl rfl (fun c38 => ?_) (fun c38 => ?_)
          · skip
            refine z_iinc C (z := 1) (lw := fun x39 => [(4, .int x39), (0, .ref r0), (1, .ref r1), (2, .int n2), (3, .int x25), (5, .int x28)]) rfl rfl rfl (Nat.le_of_ble_eq_true rfl) rfl ⟨by omega, by omega⟩ (fun _ => rfl) (fun x39 ex39 => ?_)
            show V 73 [(4, .int x39), (0, .ref r0), (1, .ref r1), (2, .int n2), (3, .int x25), (5, .int x28)] _ _ _ _
            refine k_goto C (pc2 := 5) rfl rfl ?_
            refine k_sub S [(0, .ref r0), (1, .ref r1), (2, .int n2), (3, .int x25), (4, .int x39)] (List.forall_mem_cons.mpr ⟨List.mem_of_getElem? (i := 1) rfl, List.forall_mem_cons.mpr ⟨List.mem_of_getElem? (i := 2) rfl, List.forall_mem_cons.mpr ⟨List.mem_of_getElem? (i := 3) rfl, List.forall_mem_cons.mpr ⟨List.mem_of_getElem? (i := 4) rfl, List.forall_mem_cons.mpr ⟨List.mem_of_getElem? (i := 0) rfl, fun _ h => nomatch h⟩⟩⟩⟩⟩) ?_
            exact ihJ3 _ (by omega) I23 L24 x25 x39 rfl hI32 (Chg.cons S13 (Chg.mono S31 (by decide)) (by decide)) (by omega) (by omega) (by omega) (by omega) (by exact CHO.n ff20_0 (by omega) (by omega) (by omega) (by omega) rfl) (by omega)
          refine k_aload_n C rfl rfl rfl ?_
          refine k_iload C rfl rfl rfl ?_
          refine k_iload C rfl rfl rfl ?_
          refine c_VI C (s_X6_valueAt_x hS hI32 H_r0 (by omega) (by omega) (by omega) (by omega)) rfl rfl rfl rfl rfl ⟨_, rfl, rfl, T_r0, Nat.le_of_ble_eq_true rfl⟩ rfl rfl (Nat.le_of_ble_eq_true rfl) (Nat.le_of_ble_eq_true rfl) (Nat.le_of_ble_eq_true rfl) ?_
          rintro x40 _ _ ⟨p0x40, rfl, rfl⟩
          have gx40 := rg x40
          try simp only [z_r0_2, z_r0_3, z_r0_4, z_r0_5, z_r0_6, z_r0_2_0, z_r0_2_1, z_r0_2_2, z_r0_2_0_6, z_r0_2_0_7, z_r0_2_0_8, z_r0_2_0_9, z_r0_2_0_10] at p0x40
          try simp only [e36] at p0x40
          try have q0x40 := congrArg Int32.toInt p0x40
          have hv : x40.toInt = (I r0_3 (20 * x10.toNatClampNeg + x28.toNatClampNeg)).toInt := by (rw [p0x40, (Chg.at ((Chg.cons S13 (Chg.mono S31 (by decide)) (by decide)) : Chg (SL [r1]) T [] I L I23 L24) (nm_1 (by first | exact hp0 | exact fun e => hp0 e.symm)))])
          have hvy : x40.toInt = n2.toInt → (I r0_3 (20 * x10.toInt.toNat + x28.toInt.toNat)).toInt = n2.toInt := fun z => hv.symm.trans z
          have hvn : x40.toInt ≠ n2.toInt → ¬ (I r0_3 (20 * x10.toInt.toNat + x28.toInt.toNat)).toInt = n2.toInt := fun z q => z (hv.trans q)
          refine k_iload_n C rfl rfl rfl ?_
          refine b_icmp_ne C (t := 64) rfl rfl rfl (fun c41 => ?_) (fun c41 => ?_)
          · skip
            refine z_iinc C (z := 1) (lw := fun x42 => [(5, .int x42), (0, .ref r0), (1, .ref r1), (2, .int n2), (3, .int x25), (4, .int x10)]) rfl rfl rfl (Nat.le_of_ble_eq_true rfl) rfl ⟨by omega, by omega⟩ (fun _ => rfl) (fun x42 ex42 => ?_)
            show V 67 [(5, .int x42), (0, .ref r0), (1, .ref r1), (2, .int n2), (3, .int x25), (4, .int x10)] _ _ _ _
            refine k_goto C (pc2 := 20) rfl rfl ?_
            refine k_sub S [(0, .ref r0), (1, .ref r1), (2, .int n2), (3, .int x25), (4, .int x10), (5, .int x42)] (List.forall_mem_cons.mpr ⟨List.mem_of_getElem? (i := 1) rfl, List.forall_mem_cons.mpr ⟨List.mem_of_getElem? (i := 2) rfl, List.forall_mem_cons.mpr ⟨List.mem_of_getElem? (i := 3) rfl, List.forall_mem_cons.mpr ⟨List.mem_of_getElem? (i := 4) rfl, List.forall_mem_cons.mpr ⟨List.mem_of_getElem? (i := 5) rfl, List.forall_mem_cons.mpr ⟨List.mem_of_getElem? (i := 0) rfl, fun _ h => nomatch h⟩⟩⟩⟩⟩⟩) ?_
            exact ihJ21 _ (by omega) I23 L24 x25 x42 rfl hI32 (Chg.mono S31 (by decide)) (by omega) (by omega) (by omega) (by omega) (by first | exact CHO.y ff20_0 (hvy (by omega)) hput (by omega) (by omega) (by omega) (by omega) (by omega) (by omega) (by omega) (by omega) | exact CHO.o ff20_0 (hvn (by omega)) (by omega) (by omega) (by omega) | (exfalso; omega)) (by omega) (by omega)
          refine k_iload_n C rfl rfl rfl ?_
          refine k_aload_n C rfl rfl rfl ?_
          refine z_len C (n := 400) rfl rfl (by rw [T_r1]; exact Nat.le_of_ble_eq_true rfl) N_r1 (Nat.le_of_ble_eq_true rfl) (fun x43 ex43 => ?_)
          refine b_icmp_ge C (t := 64) rfl rfl rfl (fun c44 => ?_) (fun c44 => ?_)
          · skip
            refine z_iinc C (z := 1) (lw := fun x45 => [(5, .int x45), (0, .ref r0), (1, .ref r1), (2, .int n2), (3, .int x25), (4, .int x10)]) rfl rfl rfl (Nat.le_of_ble_eq_true rfl) rfl ⟨by omega, by omega⟩ (fun _ => rfl) (fun x45 ex45 => ?_)
            show V 67 [(5, .int x45), (0, .ref r0), (1, .ref r1), (2, .int n2), (3, .int x25), (4, .int x10)] _ _ _ _
            refine k_goto C (pc2 := 20) rfl rfl ?_
            refine k_sub S [(0, .ref r0), (1, .ref r1), (2, .int n2), (3, .int x25), (4, .int x10), (5, .int x45)] (List.forall_mem_cons.mpr ⟨List.mem_of_getElem? (i := 1) rfl, List.forall_mem_cons.mpr ⟨List.mem_of_getElem? (i := 2) rfl, List.forall_mem_cons.mpr ⟨List.mem_of_getElem? (i := 3) rfl, List.forall_mem_cons.mpr ⟨List.mem_of_getElem? (i := 4) rfl, List.forall_mem_cons.mpr ⟨List.mem_of_getElem? (i := 5) rfl, List.forall_mem_cons.mpr ⟨List.mem_of_getElem? (i := 0) rfl, fun _ h => nomatch h⟩⟩⟩⟩⟩⟩) ?_
            exact ihJ21 _ (by omega) I23 L24 x25 x45 rfl hI32 (Chg.mono S31 (by decide)) (by omega) (by omega) (by omega) (by omega) (by first | exact CHO.y ff20_0 (hvy (by omega)) hput (by omega) (by omega) (by omega) (by omega) (by omega) (by omega) (by omega) (by omega) | exact CHO.o ff20_0 (hvn (by omega)) (by omega) (by omega) (by omega) | (exfalso; omega)) (by omega) (by omega)
          refine k_aload_n C rfl rfl rfl ?_
          refine k_iload_n C rfl rfl rfl ?_
          refine k_iload C rfl rfl rfl ?_
          refine z_bipush C (z := 20) rfl rfl rfl (fun x46 ex46 => ?_)
          refine z_imulR C (c := 20) rfl rfl (by omega) ⟨by omega, by omega⟩ (fun x47 ex47 => ?_)
          refine k_iload C rfl rfl rfl ?_
          refine z_iadd C rfl rfl ⟨by omega, by omega⟩ (fun x48 ex48 => ?_)
          refine z_sI C rfl rfl T_r1 N_r1 (by omega) (by omega) (fun I49 uI49 => ?_)
          have hI49 : IX A T I49 := IX.a hI32 T_r1 (Nat.le_of_ble_eq_true rfl) uI49
          have S50 : Chg (SL [r1]) T [] I23 L24 I49 L24 := Chg.a List.mem_cons_self T_r1 (Nat.le_of_ble_eq_true rfl) uI49
          have e51 := u2_n uI49 (t_nq T_r0_2_0 T_r1 (by decide)) e36
          have hput := uI49
          refine z_iinc C (z := 1) (lw := fun x52 => [(3, .int x52), (0, .ref r0), (1, .ref r1), (2, .int n2), (4, .int x10), (5, .int x28)]) rfl rfl rfl (Nat.le_of_ble_eq_true rfl) rfl ⟨by omega, by omega⟩ (fun _ => rfl) (fun x52 ex52 => ?_)
          show V 64 [(3, .int x52), (0, .ref r0), (1, .ref r1), (2, .int n2), (4, .int x10), (5, .int x28)] _ _ _ _
          refine z_iinc C (z := 1) (lw := fun x53 => [(5, .int x53), (3, .int x52), (0, .ref r0), (1, .ref r1), (2, .int n2), (4, .int x10)]) rfl rfl rfl (Nat.le_of_ble_eq_true rfl) rfl ⟨by omega, by omega⟩ (fun _ => rfl) (fun x53 ex53 => ?_)
          show V 67 [(5, .int x53), (3, .int x52), (0, .ref r0), (1, .ref r1), (2, .int n2), (4, .int x10)] _ _ _ _
          refine k_goto C (pc2 := 20) rfl rfl ?_
          refine k_sub S [(0, .ref r0), (1, .ref r1), (2, .int n2), (3, .int x52), (4, .int x10), (5, .int x53)] (List.forall_mem_cons.mpr ⟨List.mem_of_getElem? (i := 2) rfl, List.forall_mem_cons.mpr ⟨List.mem_of_getElem? (i := 3) rfl, List.forall_mem_cons.mpr ⟨List.mem_of_getElem? (i := 4) rfl, List.forall_mem_cons.mpr ⟨List.mem_of_getElem? (i := 1) rfl, List.forall_mem_cons.mpr ⟨List.mem_of_getElem? (i := 5) rfl, List.forall_mem_cons.mpr ⟨List.mem_of_getElem? (i := 0) rfl, fun _ h => nomatch h⟩⟩⟩⟩⟩⟩) ?_
          exact ihJ21 _ (by omega) I49 L24 x52 x53 rfl hI49 (Chg.cons S31 (Chg.mono (Chg.up S50 (List.forall_mem_cons.mpr ⟨List.mem_of_getElem? (i := 0) rfl, fun _ h => nomatch h⟩)) (by decide)) (by decide)) (by omega) (by omega) (by omega) (by omega) (by first | exact CHO.y ff20_0 (hvy (by omega)) hput (by omega) (by omega) (by omega) (by omega) (by omega) (by omega) (by omega) (by omega) | exact CHO.o ff20_0 (hvn (by omega)) (by omega) (by omega) (by omega) | (exfalso; omega)) (by omega) (by omega)
      refine k_istore C (lw := [(5, .int x20), (0, .ref r0), (1, .ref r1), (2, .int n2), (3, .int x7), (4, .int x10)]) rfl rfl (Nat.le_of_ble_eq_true rfl) rfl ?_
      refine k_sub S [(0, .ref r0), (1, .ref r1), (2, .int n2), (3, .int x7), (4, .int x10), (5, .int x20)] (List.forall_mem_cons.mpr ⟨List.mem_of_getElem? (i := 1) rfl, List.forall_mem_cons.mpr ⟨List.mem_of_getElem? (i := 2) rfl, List.forall_mem_cons.mpr ⟨List.mem_of_getElem? (i := 3) rfl, List.forall_mem_cons.mpr ⟨List.mem_of_getElem? (i := 4) rfl, List.forall_mem_cons.mpr ⟨List.mem_of_getElem? (i := 5) rfl, List.forall_mem_cons.mpr ⟨List.mem_of_getElem? (i := 0) rfl, fun _ h => nomatch h⟩⟩⟩⟩⟩⟩) ?_
      exact J21 _ I5 L6 x7 x20 rfl hI14 Chg.rf (by omega) (by omega) (by omega) (by omega) (by exact CHO.c ff5_0 (by omega)) (by omega) (by have h9 := ff5_0.1; omega)
  refine k_istore C (lw := [(4, .int x2), (3, .int x1), (0, .ref r0), (1, .ref r1), (2, .int n2)]) rfl rfl (Nat.le_of_ble_eq_true rfl) rfl ?_
  refine k_sub S [(0, .ref r0), (1, .ref r1), (2, .int n2), (3, .int x1), (4, .int x2)] (List.forall_mem_cons.mpr ⟨List.mem_of_getElem? (i := 2) rfl, List.forall_mem_cons.mpr ⟨List.mem_of_getElem? (i := 3) rfl, List.forall_mem_cons.mpr ⟨List.mem_of_getElem? (i := 4) rfl, List.forall_mem_cons.mpr ⟨List.mem_of_getElem? (i := 1) rfl, List.forall_mem_cons.mpr ⟨List.mem_of_getElem? (i := 0) rfl, fun _ h => nomatch h⟩⟩⟩⟩⟩) ?_
  exact J3 _ I L x1 x2 rfl hI Chg.rf (by omega) (by omega) (by omega) (by omega) (by exact CHO.z (by omega) (by omega) rfl) (by omega)

theorem s_X6_run_x {d : Nat} {T N : Nat → Nat} {I : IT} {L : LT} {R : RT} {A B : Nat → Prop} {r0 r1 r2 : Nat} (hS : SUB B A) (hI : IX A T I) (H_r0 : (hs_Se T N R A B) r0) (H_r1 : (hs_F T N R A B) r1) (H_r2 : (hs_F T N R A B) r2) (hU : UPR T R) (hp0 : BNX I (rA R r1 1) (I r1 0).toInt (I (rA R (rA R r0 2) 0) 0).toInt) (hp1 : BNX I (rA R r2 1) (I r2 0).toInt (I (rA R (rA R r0 2) 0) 0).toInt) (hp2 : (I r1 0).toInt ≤ 8) (hp3 : (I r2 0).toInt ≤ 8) (hp4 : PRM (I (rA R (rA R r0 2) 0) 0).toInt) : Ex (d + 4) 92 [.ref r0, .ref r1, .ref r2] (T, N, I, L, R) 0 0 (pV T N R (fun I9 L9 => (SMX (I9 r0 0).toInt (I (rA R (rA R r0 2) 0) 0).toInt (I r1 0).toInt (I r2 0).toInt (NF I (rA R r1 1)) (NF I (rA R r2 1))) ∧ (FNX (I9 r0 1).toInt (I (rA R (rA R r0 2) 0) 0).toInt (I r1 0).toInt (I r2 0).toInt (NF I (rA R r1 1)) (NF I (rA R r2 1))) ∧ (IX A T I9 ∧ Chg (SL [r0, (rA R r0 3), (rA R r0 4), (rA R r0 5), (rA R r0 6)]) T [(7, 0), (7, 1)] I L I9 L9))) := by
  refine ⟨_, rfl, Nat.le_of_ble_eq_true rfl, fun V C S => ?_⟩
  show V 0 [(0, .ref r0), (1, .ref r1), (2, .ref r2)] [] (T, N, I, L, R) 0 0
  obtain ⟨T_r0, A_r0, B_r0, ⟨r0_2, R_r0_2, H_r0_2⟩, ⟨r0_3, R_r0_3, H_r0_3⟩, ⟨r0_4, R_r0_4, H_r0_4⟩, ⟨r0_5, R_r0_5, H_r0_5⟩, ⟨r0_6, R_r0_6, H_r0_6⟩⟩ := id H_r0
  have z_r0_2 : rA R r0 2 = r0_2 := rA_e R_r0_2
  have z_r0_3 : rA R r0 3 = r0_3 := rA_e R_r0_3
  have z_r0_4 : rA R r0 4 = r0_4 := rA_e R_r0_4
  have z_r0_5 : rA R r0 5 = r0_5 := rA_e R_r0_5
  have z_r0_6 : rA R r0 6 = r0_6 := rA_e R_r0_6
  obtain ⟨T_r1, A_r1, ⟨r1_1, R_r1_1, H_r1_1⟩⟩ := id H_r1
  have z_r1_1 : rA R r1 1 = r1_1 := rA_e R_r1_1
  obtain ⟨T_r2, A_r2, ⟨r2_1, R_r2_1, H_r2_1⟩⟩ := id H_r2
  have z_r2_1 : rA R r2 1 = r2_1 := rA_e R_r2_1
  obtain ⟨T_r0_2, A_r0_2, B_r0_2, ⟨r0_2_0, R_r0_2_0, H_r0_2_0⟩, ⟨r0_2_1, R_r0_2_1, H_r0_2_1⟩, ⟨r0_2_2, R_r0_2_2, H_r0_2_2⟩⟩ := id H_r0_2
  have z_r0_2_0 : rA R r0_2 0 = r0_2_0 := rA_e R_r0_2_0
  have z_r0_2_1 : rA R r0_2 1 = r0_2_1 := rA_e R_r0_2_1
  have z_r0_2_2 : rA R r0_2 2 = r0_2_2 := rA_e R_r0_2_2
  obtain ⟨T_r0_2_0, A_r0_2_0, B_r0_2_0, ⟨r0_2_0_6, R_r0_2_0_6, H_r0_2_0_6⟩, ⟨r0_2_0_7, R_r0_2_0_7, H_r0_2_0_7⟩, ⟨r0_2_0_8, R_r0_2_0_8, H_r0_2_0_8⟩, ⟨r0_2_0_9, R_r0_2_0_9, H_r0_2_0_9⟩, ⟨r0_2_0_10, R_r0_2_0_10, H_r0_2_0_10⟩⟩ := id H_r0_2_0
  have z_r0_2_0_6 : rA R r0_2_0 6 = r0_2_0_6 := rA_e R_r0_2_0_6
  have z_r0_2_0_7 : rA R r0_2_0 7 = r0_2_0_7 := rA_e R_r0_2_0_7
  have z_r0_2_0_8 : rA R r0_2_0 8 = r0_2_0_8 := rA_e R_r0_2_0_8
  have z_r0_2_0_9 : rA R r0_2_0 9 = r0_2_0_9 := rA_e R_r0_2_0_9
  have z_r0_2_0_10 : rA R r0_2_0 10 = r0_2_0_10 := rA_e R_r0_2_0_10
  obtain ⟨T_r1_1, N_r1_1, A_r1_1⟩ := id H_r1_1
  obtain ⟨T_r2_1, N_r2_1, A_r2_1⟩ := id H_r2_1
  obtain ⟨T_r0_3, N_r0_3, A_r0_3⟩ := id H_r0_3
  obtain ⟨T_r0_4, N_r0_4, A_r0_4⟩ := id H_r0_4
  obtain ⟨T_r0_5, N_r0_5, A_r0_5⟩ := id H_r0_5
  obtain ⟨T_r0_6, N_r0_6, A_r0_6⟩ := id H_r0_6
  try simp only [z_r0_2, z_r0_3, z_r0_4, z_r0_5, z_r0_6, z_r1_1, z_r2_1, z_r0_2_0, z_r0_2_1, z_r0_2_2, z_r0_2_0_6, z_r0_2_0_7, z_r0_2_0_8, z_r0_2_0_9, z_r0_2_0_10] at hp0
  try simp only [z_r0_2, z_r0_3, z_r0_4, z_r0_5, z_r0_6, z_r1_1, z_r2_1, z_r0_2_0, z_r0_2_1, z_r0_2_2, z_r0_2_0_6, z_r0_2_0_7, z_r0_2_0_8, z_r0_2_0_9, z_r0_2_0_10] at hp1
  try simp only [z_r0_2, z_r0_3, z_r0_4, z_r0_5, z_r0_6, z_r1_1, z_r2_1, z_r0_2_0, z_r0_2_1, z_r0_2_2, z_r0_2_0_6, z_r0_2_0_7, z_r0_2_0_8, z_r0_2_0_9, z_r0_2_0_10] at hp2
  try simp only [z_r0_2, z_r0_3, z_r0_4, z_r0_5, z_r0_6, z_r1_1, z_r2_1, z_r0_2_0, z_r0_2_1, z_r0_2_2, z_r0_2_0_6, z_r0_2_0_7, z_r0_2_0_8, z_r0_2_0_9, z_r0_2_0_10] at hp3
  try simp only [z_r0_2, z_r0_3, z_r0_4, z_r0_5, z_r0_6, z_r1_1, z_r2_1, z_r0_2_0, z_r0_2_1, z_r0_2_2, z_r0_2_0_6, z_r0_2_0_7, z_r0_2_0_8, z_r0_2_0_9, z_r0_2_0_10] at hp4
  obtain ⟨w_r1_0, k0_r1_0⟩ : ∃ x, I r1 0 = x := ⟨_, rfl⟩
  have gw_r1_0 := rg w_r1_0
  have ow_r1_0 := IX.deg hI A_r1 T_r1 k0_r1_0
  obtain ⟨w_r2_0, k0_r2_0⟩ : ∃ x, I r2 0 = x := ⟨_, rfl⟩
  have gw_r2_0 := rg w_r2_0
  have ow_r2_0 := IX.deg hI A_r2 T_r2 k0_r2_0
  obtain ⟨w_r0_2_0_0, k0_r0_2_0_0⟩ : ∃ x, I r0_2_0 0 = x := ⟨_, rfl⟩
  have gw_r0_2_0_0 := rg w_r0_2_0_0
  have ow_r0_2_0_0 := IX.p hI A_r0_2_0 T_r0_2_0 k0_r0_2_0_0
  try simp only [k0_r1_0, k0_r2_0, k0_r0_2_0_0] at hp0
  try simp only [k0_r1_0, k0_r2_0, k0_r0_2_0_0] at hp1
  try simp only [k0_r1_0, k0_r2_0, k0_r0_2_0_0] at hp2
  try simp only [k0_r1_0, k0_r2_0, k0_r0_2_0_0] at hp3
  try simp only [k0_r1_0, k0_r2_0, k0_r0_2_0_0] at hp4
  have n13 : NQ9 r1_1 r0_3 := hU.ne (Or.inr (Or.inr (Or.inr (by omega)))) R_r1_1 R_r0_3 (Or.inl (t_nq T_r1 T_r0 (by decide)))
  have n14 : NQ9 r1_1 r0_4 := hU.ne (Or.inr (Or.inr (Or.inr (by omega)))) R_r1_1 R_r0_4 (Or.inl (t_nq T_r1 T_r0 (by decide)))
  have n23 : NQ9 r2_1 r0_3 := hU.ne (Or.inr (Or.inr (Or.inr (by omega)))) R_r2_1 R_r0_3 (Or.inl (t_nq T_r2 T_r0 (by decide)))
  have n24 : NQ9 r2_1 r0_4 := hU.ne (Or.inr (Or.inr (Or.inr (by omega)))) R_r2_1 R_r0_4 (Or.inl (t_nq T_r2 T_r0 (by decide)))
  have n34 : NQ9 r0_3 r0_4 := hU.ne (Or.inr (Or.inr (Or.inr (by omega)))) R_r0_3 R_r0_4 (Or.inr (by decide))
  have n35 : NQ9 r0_3 r0_5 := hU.ne (Or.inr (Or.inr (Or.inr (by omega)))) R_r0_3 R_r0_5 (Or.inr (by decide))
  have n36 : NQ9 r0_3 r0_6 := hU.ne (Or.inr (Or.inr (Or.inr (by omega)))) R_r0_3 R_r0_6 (Or.inr (by decide))
  have n45 : NQ9 r0_4 r0_5 := hU.ne (Or.inr (Or.inr (Or.inr (by omega)))) R_r0_4 R_r0_5 (Or.inr (by decide))
  have n46 : NQ9 r0_4 r0_6 := hU.ne (Or.inr (Or.inr (Or.inr (by omega)))) R_r0_4 R_r0_6 (Or.inr (by decide))
  have n56 : NQ9 r0_5 r0_6 := hU.ne (Or.inr (Or.inr (Or.inr (by omega)))) R_r0_5 R_r0_6 (Or.inr (by decide))
  have n15 : NQ9 r1_1 r0_5 := hU.ne (Or.inr (Or.inr (Or.inr (by omega)))) R_r1_1 R_r0_5 (Or.inl (t_nq T_r1 T_r0 (by decide)))
  have n16 : NQ9 r1_1 r0_6 := hU.ne (Or.inr (Or.inr (Or.inr (by omega)))) R_r1_1 R_r0_6 (Or.inl (t_nq T_r1 T_r0 (by decide)))
  have n25 : NQ9 r2_1 r0_5 := hU.ne (Or.inr (Or.inr (Or.inr (by omega)))) R_r2_1 R_r0_5 (Or.inl (t_nq T_r2 T_r0 (by decide)))
  have n26 : NQ9 r2_1 r0_6 := hU.ne (Or.inr (Or.inr (Or.inr (by omega)))) R_r2_1 R_r0_6 (Or.inl (t_nq T_r2 T_r0 (by decide)))
  try simp only [k0_r1_0, k0_r0_2_0_0] at hp0
  try simp only [k0_r2_0, k0_r0_2_0_0] at hp1
  try simp only [k0_r0_2_0_0] at hp4
  refine k_aload_n C rfl rfl rfl ?_
  refine z_iconst C (z := -1) rfl rfl rfl (fun x1 ex1 => ?_)
  refine z_pI C rfl rfl rfl T_r0 (Or.inr rfl) rfl (fun I2 uI2 => ?_)
  have hI2 : IX A T I2 := IX.f hI T_r0 (boX.tr (by decide) (by decide)) uI2
  have S3 : Chg (SL [r0]) T [(7, 0)] I L I2 L := Chg.f List.mem_cons_self T_r0 uI2
  have e4 := u2_n uI2 (t_nq T_r1 T_r0 (by decide)) k0_r1_0
  have e5 := u2_n uI2 (t_nq T_r2 T_r0 (by decide)) k0_r2_0
  have e6 := u2_n uI2 (t_nq T_r0_2_0 T_r0 (by decide)) k0_r0_2_0_0
  have e7 := u2_e uI2
  refine k_aload_n C rfl rfl rfl ?_
  refine z_iconst C (z := 0) rfl rfl rfl (fun x8 ex8 => ?_)
  refine z_pI C rfl rfl rfl T_r0 (Or.inr rfl) rfl (fun I9 uI9 => ?_)
  have hI9 : IX A T I9 := IX.f hI2 T_r0 (boX.tr (by decide) (by decide)) uI9
  have S10 : Chg (SL [r0]) T [(7, 1)] I2 L I9 L := Chg.f List.mem_cons_self T_r0 uI9
  have e11 := u2_j uI9 (by decide) e4
  have e12 := u2_j uI9 (by decide) e5
  have e13 := u2_j uI9 (by decide) e6
  have e14 := u2_j uI9 (by decide) e7
  have e15 := u2_e uI9
  refine k_aload_n C rfl rfl rfl ?_
  refine g_I C rfl rfl rfl T_r1 rfl e11 ?_
  refine k_aload_n C rfl rfl rfl ?_
  refine g_I C rfl rfl rfl T_r2 rfl e12 ?_
  refine b_icmp_eq C (t := 22) rfl rfl rfl (fun c16 => ?_) (fun c16 => ?_)
  · skip
    refine k_aload_n C rfl rfl rfl ?_
    refine g_I C rfl rfl rfl T_r1 rfl e11 ?_
    refine b_if_eq C (t := 36) rfl rfl rfl (fun c17 => ?_) (fun c17 => ?_)
    · skip
      refine k_aload_n C rfl rfl rfl ?_
      refine k_aload_n C rfl rfl rfl ?_
      refine c_VI C (s_X2_matches_x hS hI9 H_r1 H_r2) rfl rfl rfl rfl rfl ⟨_, rfl, rfl, T_r1, Nat.le_of_ble_eq_true rfl⟩ rfl rfl (Nat.le_of_ble_eq_true rfl) (Nat.le_of_ble_eq_true rfl) (Nat.le_of_ble_eq_true rfl) ?_
      rintro x18 _ _ ⟨o0x18, o1x18, p0x18, rfl, rfl⟩
      have gx18 := rg x18
      try simp only [z_r0_2, z_r0_3, z_r0_4, z_r0_5, z_r0_6, z_r1_1, z_r2_1, z_r0_2_0, z_r0_2_1, z_r0_2_2, z_r0_2_0_6, z_r0_2_0_7, z_r0_2_0_8, z_r0_2_0_9, z_r0_2_0_10] at p0x18
      try simp only [e11, e12, e13, e14, e15] at p0x18
      try have q0x18 := congrArg Int32.toInt p0x18
      have hmt := p0x18; have hm1 := (Chg.at ((Chg.cons (Chg.up S3 (List.forall_mem_cons.mpr ⟨List.mem_of_getElem? (i := 0) rfl, fun _ h => nomatch h⟩)) (Chg.mono (Chg.up S10 (List.forall_mem_cons.mpr ⟨List.mem_of_getElem? (i := 0) rfl, fun _ h => nomatch h⟩)) (by decide)) (by decide)) : Chg (SL [r0, r0_3, r0_4, r0_5, r0_6]) T [(7, 0), (7, 1)] I L I9 L) (nm_5 (t_nq T_r1_1 T_r0 (by decide)) (by first | exact n13 | exact fun e => n13 e.symm) (by first | exact n14 | exact fun e => n14 e.symm) (by first | exact n15 | exact fun e => n15 e.symm) (by first | exact n16 | exact fun e => n16 e.symm))); have hm2 := (Chg.at ((Chg.cons (Chg.up S3 (List.forall_mem_cons.mpr ⟨List.mem_of_getElem? (i := 0) rfl, fun _ h => nomatch h⟩)) (Chg.mono (Chg.up S10 (List.forall_mem_cons.mpr ⟨List.mem_of_getElem? (i := 0) rfl, fun _ h => nomatch h⟩)) (by decide)) (by decide)) : Chg (SL [r0, r0_3, r0_4, r0_5, r0_6]) T [(7, 0), (7, 1)] I L I9 L) (nm_5 (t_nq T_r2_1 T_r0 (by decide)) (by first | exact n23 | exact fun e => n23 e.symm) (by first | exact n24 | exact fun e => n24 e.symm) (by first | exact n25 | exact fun e => n25 e.symm) (by first | exact n26 | exact fun e => n26 e.symm))); have hkr1 := e11; have hkr2 := e12
      refine b_if_eq C (t := 62) rfl rfl rfl (fun c19 => ?_) (fun c19 => ?_)
      · skip
        exact k_vret C rfl rfl (Nat.le_of_ble_eq_true rfl) (Nat.le_of_ble_eq_true rfl) ⟨_, _, rfl, rfl, by (try simp only [z_r0_2, z_r0_3, z_r0_4, z_r0_5, z_r0_6, z_r1_1, z_r2_1, z_r0_2_0, z_r0_2_1, z_r0_2_2, z_r0_2_0_6, z_r0_2_0_7, z_r0_2_0_8, z_r0_2_0_9, z_r0_2_0_10]); simp only [k0_r1_0, k0_r2_0, k0_r0_2_0_0]; rw [e14]; exact SMX.d (by omega) (by first | exact Or.inl (by omega) | exact NQZ.y hnq (by omega)) (ALK.of hmt z_r1_1 z_r2_1 hm1 hm2 (by rw [hkr1]) (by rw [hkr2]; omega)) (by omega), by (try simp only [z_r0_2, z_r0_3, z_r0_4, z_r0_5, z_r0_6, z_r1_1, z_r2_1, z_r0_2_0, z_r0_2_1, z_r0_2_2, z_r0_2_0_6, z_r0_2_0_7, z_r0_2_0_8, z_r0_2_0_9, z_r0_2_0_10]); simp only [k0_r1_0, k0_r2_0, k0_r0_2_0_0]; rw [e15]; exact FNX.d (by omega) (by first | exact Or.inl (by omega) | exact NQZ.y hnq (by omega)) (ALK.of hmt z_r1_1 z_r2_1 hm1 hm2 (by rw [hkr1]) (by rw [hkr2]; omega)) (by first | exact Or.inl ⟨by omega, by omega⟩ | exact Or.inr ⟨by omega, by omega⟩), hI9, (by (try simp only [z_r0_2, z_r0_3, z_r0_4, z_r0_5, z_r0_6, z_r1_1, z_r2_1, z_r0_2_0, z_r0_2_1, z_r0_2_2, z_r0_2_0_6, z_r0_2_0_7, z_r0_2_0_8, z_r0_2_0_9, z_r0_2_0_10]); exact (Chg.cons (Chg.up S3 (List.forall_mem_cons.mpr ⟨List.mem_of_getElem? (i := 0) rfl, fun _ h => nomatch h⟩)) (Chg.mono (Chg.up S10 (List.forall_mem_cons.mpr ⟨List.mem_of_getElem? (i := 0) rfl, fun _ h => nomatch h⟩)) (by decide)) (by decide)))⟩
      refine k_aload_n C rfl rfl rfl ?_
      refine z_sipush C (z := 420) rfl rfl rfl (fun x20 ex20 => ?_)
      refine z_pI C rfl rfl rfl T_r0 (Or.inr rfl) rfl (fun I21 uI21 => ?_)
      have hI21 : IX A T I21 := IX.f hI9 T_r0 (boX.tr (by decide) (by decide)) uI21
      have S22 : Chg (SL [r0]) T [(7, 0)] I9 L I21 L := Chg.f List.mem_cons_self T_r0 uI21
      have e23 := u2_n uI21 (t_nq T_r1 T_r0 (by decide)) e11
      have e24 := u2_n uI21 (t_nq T_r2 T_r0 (by decide)) e12
      have e25 := u2_n uI21 (t_nq T_r0_2_0 T_r0 (by decide)) e13
      have e26 := u2_j uI21 (by decide) e15
      have e27 := u2_e uI21
      refine k_aload_n C rfl rfl rfl ?_
      refine k_aload_n C rfl rfl rfl ?_
      refine g_R C rfl rfl rfl T_r0 rfl R_r0_2 ?_
      refine c_VI C (s_X0_tables_x hS hI21 H_r0_2 (by rw [z_r0_2_0, e25]; exact hp4)) rfl rfl rfl rfl rfl ⟨_, rfl, rfl, T_r0_2, Nat.le_of_ble_eq_true rfl⟩ rfl rfl (Nat.le_of_ble_eq_true rfl) (Nat.le_of_ble_eq_true rfl) (Nat.le_of_ble_eq_true rfl) ?_
      rintro x28 _ _ ⟨p0x28, rfl, rfl⟩
      have gx28 := rg x28
      try simp only [z_r0_2, z_r0_3, z_r0_4, z_r0_5, z_r0_6, z_r1_1, z_r2_1, z_r0_2_0, z_r0_2_1, z_r0_2_2, z_r0_2_0_6, z_r0_2_0_7, z_r0_2_0_8, z_r0_2_0_9, z_r0_2_0_10] at p0x28
      try simp only [e23, e24, e25, e26, e27] at p0x28
      try have q0x28 := congrArg Int32.toInt p0x28
      have htb := p0x28; (try simp only [e25] at htb)
      refine z_pI C rfl rfl rfl T_r0 (Or.inr rfl) rfl (fun I29 uI29 => ?_)
      have hI29 : IX A T I29 := IX.f hI21 T_r0 (boX.tr (by decide) (by decide)) uI29
      have S30 : Chg (SL [r0]) T [(7, 1)] I21 L I29 L := Chg.f List.mem_cons_self T_r0 uI29
      have e31 := u2_j uI29 (by decide) e23
      have e32 := u2_j uI29 (by decide) e24
      have e33 := u2_j uI29 (by decide) e25
      have e34 := u2_j uI29 (by decide) e27
      have e35 := u2_e uI29
      exact k_vret C rfl rfl (Nat.le_of_ble_eq_true rfl) (Nat.le_of_ble_eq_true rfl) ⟨_, _, rfl, rfl, by (try simp only [z_r0_2, z_r0_3, z_r0_4, z_r0_5, z_r0_6, z_r1_1, z_r2_1, z_r0_2_0, z_r0_2_1, z_r0_2_2, z_r0_2_0_6, z_r0_2_0_7, z_r0_2_0_8, z_r0_2_0_9, z_r0_2_0_10]); simp only [k0_r1_0, k0_r2_0, k0_r0_2_0_0]; rw [e34]; exact SMX.d (by omega) (by first | exact Or.inl (by omega) | exact NQZ.y hnq (by omega)) (ALK.of hmt z_r1_1 z_r2_1 hm1 hm2 (by rw [hkr1]) (by rw [hkr2]; omega)) (by omega), by (try simp only [z_r0_2, z_r0_3, z_r0_4, z_r0_5, z_r0_6, z_r1_1, z_r2_1, z_r0_2_0, z_r0_2_1, z_r0_2_2, z_r0_2_0_6, z_r0_2_0_7, z_r0_2_0_8, z_r0_2_0_9, z_r0_2_0_10]); simp only [k0_r1_0, k0_r2_0, k0_r0_2_0_0]; rw [e35]; exact FNX.d (by omega) (by first | exact Or.inl (by omega) | exact NQZ.y hnq (by omega)) (ALK.of hmt z_r1_1 z_r2_1 hm1 hm2 (by rw [hkr1]) (by rw [hkr2]; omega)) (by first | exact Or.inl ⟨by omega, by omega⟩ | exact Or.inr ⟨by omega, by omega⟩), hI29, (by (try simp only [z_r0_2, z_r0_3, z_r0_4, z_r0_5, z_r0_6, z_r1_1, z_r2_1, z_r0_2_0, z_r0_2_1, z_r0_2_2, z_r0_2_0_6, z_r0_2_0_7, z_r0_2_0_8, z_r0_2_0_9, z_r0_2_0_10]); exact (Chg.cons (Chg.up S3 (List.forall_mem_cons.mpr ⟨List.mem_of_getElem? (i := 0) rfl, fun _ h => nomatch h⟩)) (Chg.cons (Chg.up S10 (List.forall_mem_cons.mpr ⟨List.mem_of_getElem? (i := 0) rfl, fun _ h => nomatch h⟩)) (Chg.cons (Chg.up S22 (List.forall_mem_cons.mpr ⟨List.mem_of_getElem? (i := 0) rfl, fun _ h => nomatch h⟩)) (Chg.mono (Chg.up S30 (List.forall_mem_cons.mpr ⟨List.mem_of_getElem? (i := 0) rfl, fun _ h => nomatch h⟩)) (by decide)) (by decide)) (by decide)) (by decide)))⟩
    refine k_aload_n C rfl rfl rfl ?_
    refine c_VI C (s_X2_isNought_x hS hI9 H_r1) rfl rfl rfl rfl rfl ⟨_, rfl, rfl, T_r1, Nat.le_of_ble_eq_true rfl⟩ rfl rfl (Nat.le_of_ble_eq_true rfl) (Nat.le_of_ble_eq_true rfl) (Nat.le_of_ble_eq_true rfl) ?_
    rintro x36 _ _ ⟨o0x36, o1x36, p0x36, rfl, rfl⟩
    have gx36 := rg x36
    try simp only [z_r0_2, z_r0_3, z_r0_4, z_r0_5, z_r0_6, z_r1_1, z_r2_1, z_r0_2_0, z_r0_2_1, z_r0_2_2, z_r0_2_0_6, z_r0_2_0_7, z_r0_2_0_8, z_r0_2_0_9, z_r0_2_0_10] at p0x36
    try simp only [e11, e12, e13, e14, e15] at p0x36
    try have q0x36 := congrArg Int32.toInt p0x36
    have hnq := p0x36; (try simp only [e11] at hnq); rw [(Chg.at ((Chg.cons (Chg.up S3 (List.forall_mem_cons.mpr ⟨List.mem_of_getElem? (i := 0) rfl, fun _ h => nomatch h⟩)) (Chg.mono (Chg.up S10 (List.forall_mem_cons.mpr ⟨List.mem_of_getElem? (i := 0) rfl, fun _ h => nomatch h⟩)) (by decide)) (by decide)) : Chg (SL [r0, r0_3, r0_4, r0_5, r0_6]) T [(7, 0), (7, 1)] I L I9 L) (nm_5 (t_nq T_r1_1 T_r0 (by decide)) (by first | exact n13 | exact fun e => n13 e.symm) (by first | exact n14 | exact fun e => n14 e.symm) (by first | exact n15 | exact fun e => n15 e.symm) (by first | exact n16 | exact fun e => n16 e.symm)))] at hnq
    refine b_if_eq C (t := 63) rfl rfl rfl (fun c37 => ?_) (fun c37 => ?_)
    · skip
      refine k_aload_n C rfl rfl rfl ?_
      refine k_aload_n C rfl rfl rfl ?_
      refine k_aload_n C rfl rfl rfl ?_
      have q9a := (Chg.at ((Chg.cons (Chg.up S3 (List.forall_mem_cons.mpr ⟨List.mem_of_getElem? (i := 0) rfl, fun _ h => nomatch h⟩)) (Chg.mono (Chg.up S10 (List.forall_mem_cons.mpr ⟨List.mem_of_getElem? (i := 0) rfl, fun _ h => nomatch h⟩)) (by decide)) (by decide)) : Chg (SL [r0, r0_3, r0_4, r0_5, r0_6]) T [(7, 0), (7, 1)] I L I9 L) (nm_5 (t_nq T_r1_1 T_r0 (by decide)) (by first | exact n13 | exact fun e => n13 e.symm) (by first | exact n14 | exact fun e => n14 e.symm) (by first | exact n15 | exact fun e => n15 e.symm) (by first | exact n16 | exact fun e => n16 e.symm))); have q9b := (Chg.at ((Chg.cons (Chg.up S3 (List.forall_mem_cons.mpr ⟨List.mem_of_getElem? (i := 0) rfl, fun _ h => nomatch h⟩)) (Chg.mono (Chg.up S10 (List.forall_mem_cons.mpr ⟨List.mem_of_getElem? (i := 0) rfl, fun _ h => nomatch h⟩)) (by decide)) (by decide)) : Chg (SL [r0, r0_3, r0_4, r0_5, r0_6]) T [(7, 0), (7, 1)] I L I9 L) (nm_5 (t_nq T_r2_1 T_r0 (by decide)) (by first | exact n23 | exact fun e => n23 e.symm) (by first | exact n24 | exact fun e => n24 e.symm) (by first | exact n25 | exact fun e => n25 e.symm) (by first | exact n26 | exact fun e => n26 e.symm)))
      refine c_VV C (s_X6_aim_x hS hI9 H_r0 H_r1 H_r2 hU (by rw [z_r1_1, z_r0_2, z_r0_2_0, e11, e13]; exact BNX.eq hp0 (Chg.at ((Chg.cons (Chg.up S3 (List.forall_mem_cons.mpr ⟨List.mem_of_getElem? (i := 0) rfl, fun _ h => nomatch h⟩)) (Chg.mono (Chg.up S10 (List.forall_mem_cons.mpr ⟨List.mem_of_getElem? (i := 0) rfl, fun _ h => nomatch h⟩)) (by decide)) (by decide)) : Chg (SL [r0, r0_3, r0_4, r0_5, r0_6]) T [(7, 0), (7, 1)] I L I9 L) (nm_5 (t_nq T_r1_1 T_r0 (by decide)) (by first | exact n13 | exact fun e => n13 e.symm) (by first | exact n14 | exact fun e => n14 e.symm) (by first | exact n15 | exact fun e => n15 e.symm) (by first | exact n16 | exact fun e => n16 e.symm)))) (by rw [z_r2_1, z_r0_2, z_r0_2_0, e12, e13]; exact BNX.eq hp1 (Chg.at ((Chg.cons (Chg.up S3 (List.forall_mem_cons.mpr ⟨List.mem_of_getElem? (i := 0) rfl, fun _ h => nomatch h⟩)) (Chg.mono (Chg.up S10 (List.forall_mem_cons.mpr ⟨List.mem_of_getElem? (i := 0) rfl, fun _ h => nomatch h⟩)) (by decide)) (by decide)) : Chg (SL [r0, r0_3, r0_4, r0_5, r0_6]) T [(7, 0), (7, 1)] I L I9 L) (nm_5 (t_nq T_r2_1 T_r0 (by decide)) (by first | exact n23 | exact fun e => n23 e.symm) (by first | exact n24 | exact fun e => n24 e.symm) (by first | exact n25 | exact fun e => n25 e.symm) (by first | exact n26 | exact fun e => n26 e.symm)))) (by rw [e11]; omega) (by rw [e12]; omega)) rfl rfl rfl rfl rfl ⟨_, rfl, rfl, T_r0, Nat.le_of_ble_eq_true rfl⟩ rfl rfl (Nat.le_of_ble_eq_true rfl) (Nat.le_of_ble_eq_true rfl) (Nat.le_of_ble_eq_true rfl) ?_
      rintro I39 L40 ⟨p0v38, p1v38, hI39, S41⟩
      try simp only [z_r0_2, z_r0_3, z_r0_4, z_r0_5, z_r0_6, z_r1_1, z_r2_1, z_r0_2_0, z_r0_2_1, z_r0_2_2, z_r0_2_0_6, z_r0_2_0_7, z_r0_2_0_8, z_r0_2_0_9, z_r0_2_0_10] at S41
      have e42 := Chg.k S41 T_r1 (by decide) (by decide) e11
      have e43 := Chg.k S41 T_r2 (by decide) (by decide) e12
      have e44 := Chg.k S41 T_r0_2_0 (by decide) (by decide) e13
      have e45 := Chg.k S41 T_r0 (by decide) (by decide) e14
      have e46 := Chg.k S41 T_r0 (by decide) (by decide) e15
      try simp only [z_r0_2, z_r0_3, z_r0_4, z_r0_5, z_r0_6, z_r1_1, z_r2_1, z_r0_2_0, z_r0_2_1, z_r0_2_2, z_r0_2_0_6, z_r0_2_0_7, z_r0_2_0_8, z_r0_2_0_9, z_r0_2_0_10] at p0v38
      try simp only [z_r0_2, z_r0_3, z_r0_4, z_r0_5, z_r0_6, z_r1_1, z_r2_1, z_r0_2_0, z_r0_2_1, z_r0_2_2, z_r0_2_0_6, z_r0_2_0_7, z_r0_2_0_8, z_r0_2_0_9, z_r0_2_0_10] at p1v38
      try simp only [e11, e12, e13, e14, e15] at p0v38
      try have q0v38 := congrArg Int32.toInt p0v38
      try simp only [e11, e12, e13, e14, e15] at p1v38
      try have q1v38 := congrArg Int32.toInt p1v38
      have ham := p0v38; have hvl := p1v38; (try simp only [e42, e43, e44] at ham hvl); (try rw [NF.e q9b] at ham); (try rw [NF.e q9a] at hvl)
      refine k_aload_n C rfl rfl rfl ?_
      refine k_aload_n C rfl rfl rfl ?_
      refine g_R C rfl rfl rfl T_r0 rfl R_r0_5 ?_
      refine k_aload_n C rfl rfl rfl ?_
      refine z_iconst C (z := 0) rfl rfl rfl (fun x47 ex47 => ?_)
      have hz76 := nck (x := x47) (n := 0) (by omega)
      refine c_VI C (s_X6_aimAt_x hS hI39 H_r0 (by omega) (by omega)) rfl rfl rfl rfl rfl ⟨_, rfl, rfl, T_r0, Nat.le_of_ble_eq_true rfl⟩ rfl rfl (Nat.le_of_ble_eq_true rfl) (Nat.le_of_ble_eq_true rfl) (Nat.le_of_ble_eq_true rfl) ?_
      rintro x48 _ _ ⟨p0x48, rfl, rfl⟩
      have gx48 := rg x48
      try simp only [z_r0_2, z_r0_3, z_r0_4, z_r0_5, z_r0_6, z_r1_1, z_r2_1, z_r0_2_0, z_r0_2_1, z_r0_2_2, z_r0_2_0_6, z_r0_2_0_7, z_r0_2_0_8, z_r0_2_0_9, z_r0_2_0_10] at p0x48
      try simp only [e42, e43, e44, e45, e46] at p0x48
      try have q0x48 := congrArg Int32.toInt p0x48
      have ha0 := p0x48; rw [hz76] at ha0
      refine c_VI C (s_X6_choose_w400_x hS hI39 H_r0 H_r0_5 (by rw [z_r0_3]; exact Ne.symm n35)) rfl rfl rfl rfl rfl ⟨_, rfl, rfl, T_r0, Nat.le_of_ble_eq_true rfl⟩ rfl rfl (Nat.le_of_ble_eq_true rfl) (Nat.le_of_ble_eq_true rfl) (Nat.le_of_ble_eq_true rfl) ?_
      rintro x49 I50 L51 ⟨o0x49, o1x49, p0x49, hI50, S52⟩
      try simp only [z_r0_2, z_r0_3, z_r0_4, z_r0_5, z_r0_6, z_r1_1, z_r2_1, z_r0_2_0, z_r0_2_1, z_r0_2_2, z_r0_2_0_6, z_r0_2_0_7, z_r0_2_0_8, z_r0_2_0_9, z_r0_2_0_10] at S52
      have e53 := Chg.k S52 T_r1 (by decide) (by decide) e42
      have e54 := Chg.k S52 T_r2 (by decide) (by decide) e43
      have e55 := Chg.k S52 T_r0_2_0 (by decide) (by decide) e44
      have e56 := Chg.k S52 T_r0 (by decide) (by decide) e45
      have e57 := Chg.k S52 T_r0 (by decide) (by decide) e46
      have gx49 := rg x49
      try simp only [z_r0_2, z_r0_3, z_r0_4, z_r0_5, z_r0_6, z_r1_1, z_r2_1, z_r0_2_0, z_r0_2_1, z_r0_2_2, z_r0_2_0_6, z_r0_2_0_7, z_r0_2_0_8, z_r0_2_0_9, z_r0_2_0_10] at p0x49
      try simp only [e42, e43, e44, e45, e46] at p0x49
      try have q0x49 := congrArg Int32.toInt p0x49
      have hc1 := p0x49; (try simp only [e55] at hc1); have f79 := S52
      refine k_istore_n C (lw := [(3, .int x49), (0, .ref r0), (1, .ref r1), (2, .ref r2)]) rfl rfl (Nat.le_of_ble_eq_true rfl) rfl ?_
      refine k_aload_n C rfl rfl rfl ?_
      refine k_aload_n C rfl rfl rfl ?_
      refine g_R C rfl rfl rfl T_r0 rfl R_r0_6 ?_
      refine k_aload_n C rfl rfl rfl ?_
      refine z_iconst C (z := 1) rfl rfl rfl (fun x58 ex58 => ?_)
      have hz90 := nck (x := x58) (n := 1) (by omega)
      refine c_VI C (s_X6_aimAt_x hS hI50 H_r0 (by omega) (by omega)) rfl rfl rfl rfl rfl ⟨_, rfl, rfl, T_r0, Nat.le_of_ble_eq_true rfl⟩ rfl rfl (Nat.le_of_ble_eq_true rfl) (Nat.le_of_ble_eq_true rfl) (Nat.le_of_ble_eq_true rfl) ?_
      rintro x59 _ _ ⟨p0x59, rfl, rfl⟩
      have gx59 := rg x59
      try simp only [z_r0_2, z_r0_3, z_r0_4, z_r0_5, z_r0_6, z_r1_1, z_r2_1, z_r0_2_0, z_r0_2_1, z_r0_2_2, z_r0_2_0_6, z_r0_2_0_7, z_r0_2_0_8, z_r0_2_0_9, z_r0_2_0_10] at p0x59
      try simp only [e53, e54, e55, e56, e57] at p0x59
      try have q0x59 := congrArg Int32.toInt p0x59
      have ha1 := p0x59; rw [hz90] at ha1
      refine c_VI C (s_X6_choose_w400_x hS hI50 H_r0 H_r0_6 (by rw [z_r0_3]; exact Ne.symm n36)) rfl rfl rfl rfl rfl ⟨_, rfl, rfl, T_r0, Nat.le_of_ble_eq_true rfl⟩ rfl rfl (Nat.le_of_ble_eq_true rfl) (Nat.le_of_ble_eq_true rfl) (Nat.le_of_ble_eq_true rfl) ?_
      rintro x60 I61 L62 ⟨o0x60, o1x60, p0x60, hI61, S63⟩
      try simp only [z_r0_2, z_r0_3, z_r0_4, z_r0_5, z_r0_6, z_r1_1, z_r2_1, z_r0_2_0, z_r0_2_1, z_r0_2_2, z_r0_2_0_6, z_r0_2_0_7, z_r0_2_0_8, z_r0_2_0_9, z_r0_2_0_10] at S63
      have e64 := Chg.k S63 T_r1 (by decide) (by decide) e53
      have e65 := Chg.k S63 T_r2 (by decide) (by decide) e54
      have e66 := Chg.k S63 T_r0_2_0 (by decide) (by decide) e55
      have e67 := Chg.k S63 T_r0 (by decide) (by decide) e56
      have e68 := Chg.k S63 T_r0 (by decide) (by decide) e57
      have gx60 := rg x60
      try simp only [z_r0_2, z_r0_3, z_r0_4, z_r0_5, z_r0_6, z_r1_1, z_r2_1, z_r0_2_0, z_r0_2_1, z_r0_2_2, z_r0_2_0_6, z_r0_2_0_7, z_r0_2_0_8, z_r0_2_0_9, z_r0_2_0_10] at p0x60
      try simp only [e53, e54, e55, e56, e57] at p0x60
      try have q0x60 := congrArg Int32.toInt p0x60
      have hc2 := p0x60; (try simp only [e66] at hc2); have f93 := S63
      refine k_istore C (lw := [(4, .int x60), (3, .int x49), (0, .ref r0), (1, .ref r1), (2, .ref r2)]) rfl rfl (Nat.le_of_ble_eq_true rfl) rfl ?_
      obtain ⟨P1, P2, AM, VL, eP1, eP2, eAM, eVL⟩ : ∃ P1 P2 AM VL : Nat → Int32, I61 r0_5 = P1 ∧ I61 r0_6 = P2 ∧ I61 r0_4 = AM ∧ I61 r0_3 = VL := ⟨_, _, _, _, rfl, rfl, rfl, rfl⟩; have hm1 := hc1.1; have hm2 := hc2.1; have q3a := Chg.at f79 (nm_1 n35); have q3b := Chg.at f93 (nm_1 n36); have q4a := Chg.at f79 (nm_1 n45); have q4b := Chg.at f93 (nm_1 n46); have q5 := (Chg.at f93 (nm_1 n56)).symm.trans eP1; rw [q5, ← q3a, ← q3b, eVL] at hc1; rw [eP2, ← q3b, eVL] at hc2; rw [← q3a, ← q3b, eVL] at hvl; rw [← q4a, ← q4b, eAM] at ham; rw [← q4a, ← q4b, eAM] at ha0; rw [← q4b, eAM] at ha1
      refine z_iconst C (z := 0) rfl rfl rfl (fun x69 ex69 => ?_)
      have J70 : ∀ (nn71 : Nat) (I72 : IT) (L73 : LT) (x74 : Int32) (x79 : Int32) (x81 : Int32), ((401 - x74.toInt).toNat = nn71) → (IX A T I72) → (Chg (SL [r0, r0_3, r0_4, r0_5, r0_6]) T [(7, 0), (7, 1)] I61 L62 I72 L73) → (0 ≤ x74.toInt) → (x74.toInt ≤ 401) → (I72 r0 0 = x79) → (I72 r0 1 = x81) → (0 ≤ x81.toInt) → (x81.toInt ≤ 200001) → (I72 r0_5 = P1) → (I72 r0_6 = P2) → (I72 r0_4 = AM) → (I72 r0_3 = VL) → (RNF (fun i => (P1 i).toInt) (fun i => (P2 i).toInt) x60.toInt (QMT VL AM w_r0_2_0_0.toInt w_r1_0.toInt) x81.toInt x79.toInt x74.toInt 0) → (x74.toInt ≤ x49.toInt) → V 101 [(0, .ref r0), (1, .ref r1), (3, .int x49), (4, .int x60), (5, .int x74)] [] (T, N, I72, L73, R) 0 0 := by
        intro nn71
        induction nn71 using Nat.strongRecOn with
        | _ nn71 ihJ70 =>
          intro I72 L73 x74 x79 x81 hmnn71 hI78 S77 b75 b76 e80 e82 b83 b84 ff101_0 ff101_1 ff101_2 ff101_3 ff101_4 ff101_5
          have gx74 := rg x74
          have gx79 := rg x79
          have gx81 := rg x81
          have e91 := Chg.k S77 T_r1 (by decide) (by decide) e64
          have e92 := Chg.k S77 T_r2 (by decide) (by decide) e65
          have e93 := Chg.k S77 T_r0_2_0 (by decide) (by decide) e66
          refine k_iload C rfl rfl rfl ?_
          refine k_iload_n C rfl rfl rfl ?_
          refine b_icmp_ge C (t := 171) rfl rfl rfl (fun c94 => ?_) (fun c94 => ?_)
          · skip
            exact k_vret C rfl rfl (Nat.le_of_ble_eq_true rfl) (Nat.le_of_ble_eq_true rfl) ⟨_, _, rfl, rfl, by (try simp only [z_r0_2, z_r0_3, z_r0_4, z_r0_5, z_r0_6, z_r1_1, z_r2_1, z_r0_2_0, z_r0_2_1, z_r0_2_2, z_r0_2_0_6, z_r0_2_0_7, z_r0_2_0_8, z_r0_2_0_9, z_r0_2_0_10]); simp only [k0_r1_0, k0_r2_0, k0_r0_2_0_0]; rw [e80]; exact SMX.g (by omega) (NQZ.n hnq (by omega) (by omega)) (RUN.e ff101_4 hc1 hc2 (by omega) hp4 (by omega) (by omega) hvl (AIM.md ham (by omega) (by omega)) ha0 ha1).2, by (try simp only [z_r0_2, z_r0_3, z_r0_4, z_r0_5, z_r0_6, z_r1_1, z_r2_1, z_r0_2_0, z_r0_2_1, z_r0_2_2, z_r0_2_0_6, z_r0_2_0_7, z_r0_2_0_8, z_r0_2_0_9, z_r0_2_0_10]); simp only [k0_r1_0, k0_r2_0, k0_r0_2_0_0]; rw [e82]; exact FNX.g (by omega) (NQZ.n hnq (by omega) (by omega)) (RUN.e ff101_4 hc1 hc2 (by omega) hp4 (by omega) (by omega) hvl (AIM.md ham (by omega) (by omega)) ha0 ha1).1, hI78, (by (try simp only [z_r0_2, z_r0_3, z_r0_4, z_r0_5, z_r0_6, z_r1_1, z_r2_1, z_r0_2_0, z_r0_2_1, z_r0_2_2, z_r0_2_0_6, z_r0_2_0_7, z_r0_2_0_8, z_r0_2_0_9, z_r0_2_0_10]); exact (Chg.cons (Chg.up S3 (List.forall_mem_cons.mpr ⟨List.mem_of_getElem? (i := 0) rfl, fun _ h => nomatch h⟩)) (Chg.cons (Chg.up S10 (List.forall_mem_cons.mpr ⟨List.mem_of_getElem? (i := 0) rfl, fun _ h => nomatch h⟩)) (Chg.cons (Chg.up S41 (List.forall_mem_cons.mpr ⟨List.mem_of_getElem? (i := 1) rfl, List.forall_mem_cons.mpr ⟨List.mem_of_getElem? (i := 2) rfl, fun _ h => nomatch h⟩⟩)) (Chg.cons (Chg.up S52 (List.forall_mem_cons.mpr ⟨List.mem_of_getElem? (i := 3) rfl, fun _ h => nomatch h⟩)) (Chg.cons (Chg.up S63 (List.forall_mem_cons.mpr ⟨List.mem_of_getElem? (i := 4) rfl, fun _ h => nomatch h⟩)) (Chg.mono S77 (by decide)) (by decide)) (by decide)) (by decide)) (by decide)) (by decide)))⟩
          refine k_iload C rfl rfl rfl ?_
          refine k_aload_n C rfl rfl rfl ?_
          refine g_R C rfl rfl rfl T_r0 rfl R_r0_5 ?_
          refine z_len C (n := 400) rfl rfl (by rw [T_r0_5]; exact Nat.le_of_ble_eq_true rfl) N_r0_5 (Nat.le_of_ble_eq_true rfl) (fun x95 ex95 => ?_)
          refine b_icmp_ge C (t := 171) rfl rfl rfl (fun c96 => by exfalso; omega) (fun c96 => ?_)
          refine z_iconst C (z := 0) rfl rfl rfl (fun x97 ex97 => ?_)
          have J98 : ∀ (nn99 : Nat) (I100 : IT) (L101 : LT) (x102 : Int32) (x107 : Int32) (x109 : Int32), ((400 - x102.toInt).toNat = nn99) → (IX A T I100) → (Chg (SL [r0, r0_3, r0_4, r0_5, r0_6]) T [(7, 0), (7, 1)] I72 L73 I100 L101) → (0 ≤ x102.toInt) → (x102.toInt ≤ 400) → (I100 r0 0 = x107) → (I100 r0 1 = x109) → (0 ≤ x109.toInt) → (x109.toInt ≤ 200001) → (I100 r0_5 = P1) → (I100 r0_6 = P2) → (I100 r0_4 = AM) → (I100 r0_3 = VL) → (RNF (fun i => (P1 i).toInt) (fun i => (P2 i).toInt) x60.toInt (QMT VL AM w_r0_2_0_0.toInt w_r1_0.toInt) x109.toInt x107.toInt x74.toInt x102.toInt) → (x102.toInt ≤ x60.toInt) → V 120 [(0, .ref r0), (1, .ref r1), (3, .int x49), (4, .int x60), (5, .int x74), (6, .int x102)] [] (T, N, I100, L101, R) 0 0 := by
            intro nn99
            induction nn99 using Nat.strongRecOn with
            | _ nn99 ihJ98 =>
              intro I100 L101 x102 x107 x109 hmnn99 hI106 S105 b103 b104 e108 e110 b111 b112 ff120_0 ff120_1 ff120_2 ff120_3 ff120_4 ff120_5
              have gx102 := rg x102
              have gx107 := rg x107
              have gx109 := rg x109
              have e119 := Chg.k S105 T_r1 (by decide) (by decide) e91
              have e120 := Chg.k S105 T_r2 (by decide) (by decide) e92
              have e121 := Chg.k S105 T_r0_2_0 (by decide) (by decide) e93
              refine k_iload C rfl rfl rfl ?_
              refine k_iload C rfl rfl rfl ?_
              refine b_icmp_ge C (t := 165) rfl rfl rfl (fun c122 => ?_) (fun c122 => ?_)
              · skip
                refine z_iinc C (z := 1) (lw := fun x123 => [(5, .int x123), (0, .ref r0), (1, .ref r1), (3, .int x49), (4, .int x60), (6, .int x102)]) rfl rfl rfl (Nat.le_of_ble_eq_true rfl) rfl ⟨by omega, by omega⟩ (fun _ => rfl) (fun x123 ex123 => ?_)
                show V 168 [(5, .int x123), (0, .ref r0), (1, .ref r1), (3, .int x49), (4, .int x60), (6, .int x102)] _ _ _ _
                refine k_goto C (pc2 := 101) rfl rfl ?_
                refine k_sub S [(0, .ref r0), (1, .ref r1), (3, .int x49), (4, .int x60), (5, .int x123)] (List.forall_mem_cons.mpr ⟨List.mem_of_getElem? (i := 1) rfl, List.forall_mem_cons.mpr ⟨List.mem_of_getElem? (i := 2) rfl, List.forall_mem_cons.mpr ⟨List.mem_of_getElem? (i := 3) rfl, List.forall_mem_cons.mpr ⟨List.mem_of_getElem? (i := 4) rfl, List.forall_mem_cons.mpr ⟨List.mem_of_getElem? (i := 0) rfl, fun _ h => nomatch h⟩⟩⟩⟩⟩) ?_
                exact ihJ70 _ (by omega) I100 L101 x123 x107 x109 rfl hI106 (Chg.cons S77 (Chg.mono S105 (by decide)) (by decide)) (by omega) (by omega) e108 e110 (by omega) (by omega) (by exact ff120_0) (by exact ff120_1) (by exact ff120_2) (by exact ff120_3) (by exact RNF.n ff120_4 (by omega) (by omega) (by omega) rfl rfl (by omega) rfl) (by omega)
              refine k_iload C rfl rfl rfl ?_
              refine k_aload_n C rfl rfl rfl ?_
              refine g_R C rfl rfl rfl T_r0 rfl R_r0_6 ?_
              refine z_len C (n := 400) rfl rfl (by rw [T_r0_6]; exact Nat.le_of_ble_eq_true rfl) N_r0_6 (Nat.le_of_ble_eq_true rfl) (fun x124 ex124 => ?_)
              refine b_icmp_ge C (t := 165) rfl rfl rfl (fun c125 => by exfalso; omega) (fun c125 => ?_)
              refine k_aload_n C rfl rfl rfl ?_
              refine k_aload_n C rfl rfl rfl ?_
              refine g_R C rfl rfl rfl T_r0 rfl R_r0_5 ?_
              refine k_iload C rfl rfl rfl ?_
              refine z_aI C rfl rfl T_r0_5 N_r0_5 (by omega) (by omega) (fun x126 ex126 => ?_)
              have gx126 := rg x126
              refine k_aload_n C rfl rfl rfl ?_
              refine g_R C rfl rfl rfl T_r0 rfl R_r0_6 ?_
              refine k_iload C rfl rfl rfl ?_
              refine z_aI C rfl rfl T_r0_6 N_r0_6 (by omega) (by omega) (fun x127 ex127 => ?_)
              have gx127 := rg x127
              refine k_aload_n C rfl rfl rfl ?_
              refine g_I C rfl rfl rfl T_r1 rfl e119 ?_
              have e1v := ex126; have e2v := ex127; rw [ff120_0] at e1v; rw [ff120_1] at e2v; have k1o := e110; have k0o := e108; obtain ⟨a8, c8, ha8, hc8, -, e8⟩ := hc1.2.1 x74.toNatClampNeg (by have h9 := ncz (x := x74) (by omega); omega); obtain ⟨b8, d8, hb8, hd8, -, f8⟩ := hc2.2.1 x102.toNatClampNeg (by have h9 := ncz (x := x102) (by omega); omega); dsimp only at e8 f8; rw [e1v] at e8; rw [e2v] at f8
              refine c_VV C (s_X6_meet_x hS hI106 H_r0 (by omega) (by omega) (by omega) (by omega) (by omega) (by omega) (by rw [e110]; have h9 := ff120_4.1; omega)) rfl rfl rfl rfl rfl ⟨_, rfl, rfl, T_r0, Nat.le_of_ble_eq_true rfl⟩ rfl rfl (Nat.le_of_ble_eq_true rfl) (Nat.le_of_ble_eq_true rfl) (Nat.le_of_ble_eq_true rfl) ?_
              rintro I129 L130 ⟨p0v128, hI129, S131⟩
              try simp only [z_r0_2, z_r0_3, z_r0_4, z_r0_5, z_r0_6, z_r1_1, z_r2_1, z_r0_2_0, z_r0_2_1, z_r0_2_2, z_r0_2_0_6, z_r0_2_0_7, z_r0_2_0_8, z_r0_2_0_9, z_r0_2_0_10] at S131
              have e132 := Chg.k S131 T_r1 (by decide) (by decide) e119
              have e133 := Chg.k S131 T_r2 (by decide) (by decide) e120
              have e134 := Chg.k S131 T_r0_2_0 (by decide) (by decide) e121
              obtain ⟨x135, e136⟩ : ∃ x, I129 r0 0 = x := ⟨_, rfl⟩
              have gx135 := rg x135
              obtain ⟨x137, e138⟩ : ∃ x, I129 r0 1 = x := ⟨_, rfl⟩
              have gx137 := rg x137
              try simp only [z_r0_2, z_r0_3, z_r0_4, z_r0_5, z_r0_6, z_r1_1, z_r2_1, z_r0_2_0, z_r0_2_1, z_r0_2_2, z_r0_2_0_6, z_r0_2_0_7, z_r0_2_0_8, z_r0_2_0_9, z_r0_2_0_10] at p0v128
              try simp only [e119, e120, e121, e108, e110, e136, e138] at p0v128
              try have q0v128 := congrArg Int32.toInt p0v128
              have hme := p0v128; (try simp only [k0o, k1o] at hme); simp only [e134, e132, k1o, k0o, e138, e136, ff120_2, ff120_3] at hme; have hrn := RNF.s ff120_4 hme (QPR.iff e1v e2v) (CDP.of e1v e2v) (by omega) (by omega) rfl; have hrb := hrn.1
              refine z_iinc C (z := 1) (lw := fun x139 => [(6, .int x139), (0, .ref r0), (1, .ref r1), (3, .int x49), (4, .int x60), (5, .int x74)]) rfl rfl rfl (Nat.le_of_ble_eq_true rfl) rfl ⟨by omega, by omega⟩ (fun _ => rfl) (fun x139 ex139 => ?_)
              show V 162 [(6, .int x139), (0, .ref r0), (1, .ref r1), (3, .int x49), (4, .int x60), (5, .int x74)] _ _ _ _
              refine k_goto C (pc2 := 120) rfl rfl ?_
              refine k_sub S [(0, .ref r0), (1, .ref r1), (3, .int x49), (4, .int x60), (5, .int x74), (6, .int x139)] (List.forall_mem_cons.mpr ⟨List.mem_of_getElem? (i := 1) rfl, List.forall_mem_cons.mpr ⟨List.mem_of_getElem? (i := 2) rfl, List.forall_mem_cons.mpr ⟨List.mem_of_getElem? (i := 3) rfl, List.forall_mem_cons.mpr ⟨List.mem_of_getElem? (i := 4) rfl, List.forall_mem_cons.mpr ⟨List.mem_of_getElem? (i := 5) rfl, List.forall_mem_cons.mpr ⟨List.mem_of_getElem? (i := 0) rfl, fun _ h => nomatch h⟩⟩⟩⟩⟩⟩) ?_
              exact ihJ98 _ (by omega) I129 L130 x139 x135 x137 rfl hI129 (Chg.cons S105 (Chg.mono (Chg.up S131 (List.forall_mem_cons.mpr ⟨List.mem_of_getElem? (i := 0) rfl, fun _ h => nomatch h⟩)) (by decide)) (by decide)) (by omega) (by omega) e136 e138 (by omega) (by omega) (by exact (Chg.at S131 (nm_1 (t_nq T_r0_5 T_r0 (by decide)))).trans ff120_0) (by exact (Chg.at S131 (nm_1 (t_nq T_r0_6 T_r0 (by decide)))).trans ff120_1) (by exact (Chg.at S131 (nm_1 (t_nq T_r0_4 T_r0 (by decide)))).trans ff120_2) (by exact (Chg.at S131 (nm_1 (t_nq T_r0_3 T_r0 (by decide)))).trans ff120_3) (by exact RNF.s ff120_4 hme (QPR.iff e1v e2v) (CDP.of e1v e2v) (by omega) (by omega) (by omega)) (by omega)
          refine k_istore C (lw := [(6, .int x97), (0, .ref r0), (1, .ref r1), (3, .int x49), (4, .int x60), (5, .int x74)]) rfl rfl (Nat.le_of_ble_eq_true rfl) rfl ?_
          refine k_sub S [(0, .ref r0), (1, .ref r1), (3, .int x49), (4, .int x60), (5, .int x74), (6, .int x97)] (List.forall_mem_cons.mpr ⟨List.mem_of_getElem? (i := 1) rfl, List.forall_mem_cons.mpr ⟨List.mem_of_getElem? (i := 2) rfl, List.forall_mem_cons.mpr ⟨List.mem_of_getElem? (i := 3) rfl, List.forall_mem_cons.mpr ⟨List.mem_of_getElem? (i := 4) rfl, List.forall_mem_cons.mpr ⟨List.mem_of_getElem? (i := 5) rfl, List.forall_mem_cons.mpr ⟨List.mem_of_getElem? (i := 0) rfl, fun _ h => nomatch h⟩⟩⟩⟩⟩⟩) ?_
          exact J98 _ I72 L73 x97 x79 x81 rfl hI78 Chg.rf (by omega) (by omega) e80 e82 (by omega) (by omega) (by exact ff101_0) (by exact ff101_1) (by exact ff101_2) (by exact ff101_3) (by exact RNF.c ff101_4 rfl rfl rfl (by omega)) (by omega)
      refine k_istore C (lw := [(5, .int x69), (4, .int x60), (3, .int x49), (0, .ref r0), (1, .ref r1), (2, .ref r2)]) rfl rfl (Nat.le_of_ble_eq_true rfl) rfl ?_
      refine k_sub S [(0, .ref r0), (1, .ref r1), (3, .int x49), (4, .int x60), (5, .int x69)] (List.forall_mem_cons.mpr ⟨List.mem_of_getElem? (i := 3) rfl, List.forall_mem_cons.mpr ⟨List.mem_of_getElem? (i := 4) rfl, List.forall_mem_cons.mpr ⟨List.mem_of_getElem? (i := 2) rfl, List.forall_mem_cons.mpr ⟨List.mem_of_getElem? (i := 1) rfl, List.forall_mem_cons.mpr ⟨List.mem_of_getElem? (i := 0) rfl, fun _ h => nomatch h⟩⟩⟩⟩⟩) ?_
      exact J70 _ I61 L62 x69 x1 x8 rfl hI61 Chg.rf (by omega) (by omega) e67 e68 (by omega) (by omega) (by exact eP1) (by exact eP2) (by exact eAM) (by exact eVL) (by exact RNF.z (by omega) (by omega) (by omega) rfl) (by omega)
    refine k_aload_n C rfl rfl rfl ?_
    refine k_aload_n C rfl rfl rfl ?_
    refine c_VI C (s_X2_matches_x hS hI9 H_r1 H_r2) rfl rfl rfl rfl rfl ⟨_, rfl, rfl, T_r1, Nat.le_of_ble_eq_true rfl⟩ rfl rfl (Nat.le_of_ble_eq_true rfl) (Nat.le_of_ble_eq_true rfl) (Nat.le_of_ble_eq_true rfl) ?_
    rintro x140 _ _ ⟨o0x140, o1x140, p0x140, rfl, rfl⟩
    have gx140 := rg x140
    try simp only [z_r0_2, z_r0_3, z_r0_4, z_r0_5, z_r0_6, z_r1_1, z_r2_1, z_r0_2_0, z_r0_2_1, z_r0_2_2, z_r0_2_0_6, z_r0_2_0_7, z_r0_2_0_8, z_r0_2_0_9, z_r0_2_0_10] at p0x140
    try simp only [e11, e12, e13, e14, e15] at p0x140
    try have q0x140 := congrArg Int32.toInt p0x140
    have hmt := p0x140; have hm1 := (Chg.at ((Chg.cons (Chg.up S3 (List.forall_mem_cons.mpr ⟨List.mem_of_getElem? (i := 0) rfl, fun _ h => nomatch h⟩)) (Chg.mono (Chg.up S10 (List.forall_mem_cons.mpr ⟨List.mem_of_getElem? (i := 0) rfl, fun _ h => nomatch h⟩)) (by decide)) (by decide)) : Chg (SL [r0, r0_3, r0_4, r0_5, r0_6]) T [(7, 0), (7, 1)] I L I9 L) (nm_5 (t_nq T_r1_1 T_r0 (by decide)) (by first | exact n13 | exact fun e => n13 e.symm) (by first | exact n14 | exact fun e => n14 e.symm) (by first | exact n15 | exact fun e => n15 e.symm) (by first | exact n16 | exact fun e => n16 e.symm))); have hm2 := (Chg.at ((Chg.cons (Chg.up S3 (List.forall_mem_cons.mpr ⟨List.mem_of_getElem? (i := 0) rfl, fun _ h => nomatch h⟩)) (Chg.mono (Chg.up S10 (List.forall_mem_cons.mpr ⟨List.mem_of_getElem? (i := 0) rfl, fun _ h => nomatch h⟩)) (by decide)) (by decide)) : Chg (SL [r0, r0_3, r0_4, r0_5, r0_6]) T [(7, 0), (7, 1)] I L I9 L) (nm_5 (t_nq T_r2_1 T_r0 (by decide)) (by first | exact n23 | exact fun e => n23 e.symm) (by first | exact n24 | exact fun e => n24 e.symm) (by first | exact n25 | exact fun e => n25 e.symm) (by first | exact n26 | exact fun e => n26 e.symm))); have hkr1 := e11; have hkr2 := e12
    refine b_if_eq C (t := 62) rfl rfl rfl (fun c141 => ?_) (fun c141 => ?_)
    · skip
      exact k_vret C rfl rfl (Nat.le_of_ble_eq_true rfl) (Nat.le_of_ble_eq_true rfl) ⟨_, _, rfl, rfl, by (try simp only [z_r0_2, z_r0_3, z_r0_4, z_r0_5, z_r0_6, z_r1_1, z_r2_1, z_r0_2_0, z_r0_2_1, z_r0_2_2, z_r0_2_0_6, z_r0_2_0_7, z_r0_2_0_8, z_r0_2_0_9, z_r0_2_0_10]); simp only [k0_r1_0, k0_r2_0, k0_r0_2_0_0]; rw [e14]; exact SMX.d (by omega) (by first | exact Or.inl (by omega) | exact NQZ.y hnq (by omega)) (ALK.of hmt z_r1_1 z_r2_1 hm1 hm2 (by rw [hkr1]) (by rw [hkr2]; omega)) (by omega), by (try simp only [z_r0_2, z_r0_3, z_r0_4, z_r0_5, z_r0_6, z_r1_1, z_r2_1, z_r0_2_0, z_r0_2_1, z_r0_2_2, z_r0_2_0_6, z_r0_2_0_7, z_r0_2_0_8, z_r0_2_0_9, z_r0_2_0_10]); simp only [k0_r1_0, k0_r2_0, k0_r0_2_0_0]; rw [e15]; exact FNX.d (by omega) (by first | exact Or.inl (by omega) | exact NQZ.y hnq (by omega)) (ALK.of hmt z_r1_1 z_r2_1 hm1 hm2 (by rw [hkr1]) (by rw [hkr2]; omega)) (by first | exact Or.inl ⟨by omega, by omega⟩ | exact Or.inr ⟨by omega, by omega⟩), hI9, (by (try simp only [z_r0_2, z_r0_3, z_r0_4, z_r0_5, z_r0_6, z_r1_1, z_r2_1, z_r0_2_0, z_r0_2_1, z_r0_2_2, z_r0_2_0_6, z_r0_2_0_7, z_r0_2_0_8, z_r0_2_0_9, z_r0_2_0_10]); exact (Chg.cons (Chg.up S3 (List.forall_mem_cons.mpr ⟨List.mem_of_getElem? (i := 0) rfl, fun _ h => nomatch h⟩)) (Chg.mono (Chg.up S10 (List.forall_mem_cons.mpr ⟨List.mem_of_getElem? (i := 0) rfl, fun _ h => nomatch h⟩)) (by decide)) (by decide)))⟩
    refine k_aload_n C rfl rfl rfl ?_
    refine z_sipush C (z := 420) rfl rfl rfl (fun x142 ex142 => ?_)
    refine z_pI C rfl rfl rfl T_r0 (Or.inr rfl) rfl (fun I143 uI143 => ?_)
    have hI143 : IX A T I143 := IX.f hI9 T_r0 (boX.tr (by decide) (by decide)) uI143
    have S144 : Chg (SL [r0]) T [(7, 0)] I9 L I143 L := Chg.f List.mem_cons_self T_r0 uI143
    have e145 := u2_n uI143 (t_nq T_r1 T_r0 (by decide)) e11
    have e146 := u2_n uI143 (t_nq T_r2 T_r0 (by decide)) e12
    have e147 := u2_n uI143 (t_nq T_r0_2_0 T_r0 (by decide)) e13
    have e148 := u2_j uI143 (by decide) e15
    have e149 := u2_e uI143
    refine k_aload_n C rfl rfl rfl ?_
    refine k_aload_n C rfl rfl rfl ?_
    refine g_R C rfl rfl rfl T_r0 rfl R_r0_2 ?_
    refine c_VI C (s_X0_tables_x hS hI143 H_r0_2 (by rw [z_r0_2_0, e147]; exact hp4)) rfl rfl rfl rfl rfl ⟨_, rfl, rfl, T_r0_2, Nat.le_of_ble_eq_true rfl⟩ rfl rfl (Nat.le_of_ble_eq_true rfl) (Nat.le_of_ble_eq_true rfl) (Nat.le_of_ble_eq_true rfl) ?_
    rintro x150 _ _ ⟨p0x150, rfl, rfl⟩
    have gx150 := rg x150
    try simp only [z_r0_2, z_r0_3, z_r0_4, z_r0_5, z_r0_6, z_r1_1, z_r2_1, z_r0_2_0, z_r0_2_1, z_r0_2_2, z_r0_2_0_6, z_r0_2_0_7, z_r0_2_0_8, z_r0_2_0_9, z_r0_2_0_10] at p0x150
    try simp only [e145, e146, e147, e148, e149] at p0x150
    try have q0x150 := congrArg Int32.toInt p0x150
    have htb := p0x150; (try simp only [e147] at htb)
    refine z_pI C rfl rfl rfl T_r0 (Or.inr rfl) rfl (fun I151 uI151 => ?_)
    have hI151 : IX A T I151 := IX.f hI143 T_r0 (boX.tr (by decide) (by decide)) uI151
    have S152 : Chg (SL [r0]) T [(7, 1)] I143 L I151 L := Chg.f List.mem_cons_self T_r0 uI151
    have e153 := u2_j uI151 (by decide) e145
    have e154 := u2_j uI151 (by decide) e146
    have e155 := u2_j uI151 (by decide) e147
    have e156 := u2_j uI151 (by decide) e149
    have e157 := u2_e uI151
    exact k_vret C rfl rfl (Nat.le_of_ble_eq_true rfl) (Nat.le_of_ble_eq_true rfl) ⟨_, _, rfl, rfl, by (try simp only [z_r0_2, z_r0_3, z_r0_4, z_r0_5, z_r0_6, z_r1_1, z_r2_1, z_r0_2_0, z_r0_2_1, z_r0_2_2, z_r0_2_0_6, z_r0_2_0_7, z_r0_2_0_8, z_r0_2_0_9, z_r0_2_0_10]); simp only [k0_r1_0, k0_r2_0, k0_r0_2_0_0]; rw [e156]; exact SMX.d (by omega) (by first | exact Or.inl (by omega) | exact NQZ.y hnq (by omega)) (ALK.of hmt z_r1_1 z_r2_1 hm1 hm2 (by rw [hkr1]) (by rw [hkr2]; omega)) (by omega), by (try simp only [z_r0_2, z_r0_3, z_r0_4, z_r0_5, z_r0_6, z_r1_1, z_r2_1, z_r0_2_0, z_r0_2_1, z_r0_2_2, z_r0_2_0_6, z_r0_2_0_7, z_r0_2_0_8, z_r0_2_0_9, z_r0_2_0_10]); simp only [k0_r1_0, k0_r2_0, k0_r0_2_0_0]; rw [e157]; exact FNX.d (by omega) (by first | exact Or.inl (by omega) | exact NQZ.y hnq (by omega)) (ALK.of hmt z_r1_1 z_r2_1 hm1 hm2 (by rw [hkr1]) (by rw [hkr2]; omega)) (by first | exact Or.inl ⟨by omega, by omega⟩ | exact Or.inr ⟨by omega, by omega⟩), hI151, (by (try simp only [z_r0_2, z_r0_3, z_r0_4, z_r0_5, z_r0_6, z_r1_1, z_r2_1, z_r0_2_0, z_r0_2_1, z_r0_2_2, z_r0_2_0_6, z_r0_2_0_7, z_r0_2_0_8, z_r0_2_0_9, z_r0_2_0_10]); exact (Chg.cons (Chg.up S3 (List.forall_mem_cons.mpr ⟨List.mem_of_getElem? (i := 0) rfl, fun _ h => nomatch h⟩)) (Chg.cons (Chg.up S10 (List.forall_mem_cons.mpr ⟨List.mem_of_getElem? (i := 0) rfl, fun _ h => nomatch h⟩)) (Chg.cons (Chg.up S144 (List.forall_mem_cons.mpr ⟨List.mem_of_getElem? (i := 0) rfl, fun _ h => nomatch h⟩)) (Chg.mono (Chg.up S152 (List.forall_mem_cons.mpr ⟨List.mem_of_getElem? (i := 0) rfl, fun _ h => nomatch h⟩)) (by decide)) (by decide)) (by decide)) (by decide)))⟩
  exact k_vret C rfl rfl (Nat.le_of_ble_eq_true rfl) (Nat.le_of_ble_eq_true rfl) ⟨_, _, rfl, rfl, by (try simp only [z_r0_2, z_r0_3, z_r0_4, z_r0_5, z_r0_6, z_r1_1, z_r2_1, z_r0_2_0, z_r0_2_1, z_r0_2_2, z_r0_2_0_6, z_r0_2_0_7, z_r0_2_0_8, z_r0_2_0_9, z_r0_2_0_10]); simp only [k0_r1_0, k0_r2_0, k0_r0_2_0_0]; rw [e14]; exact SMX.n (by omega) (by omega), by (try simp only [z_r0_2, z_r0_3, z_r0_4, z_r0_5, z_r0_6, z_r1_1, z_r2_1, z_r0_2_0, z_r0_2_1, z_r0_2_2, z_r0_2_0_6, z_r0_2_0_7, z_r0_2_0_8, z_r0_2_0_9, z_r0_2_0_10]); simp only [k0_r1_0, k0_r2_0, k0_r0_2_0_0]; rw [e15]; exact FNX.n (by omega) (by omega), hI9, (by (try simp only [z_r0_2, z_r0_3, z_r0_4, z_r0_5, z_r0_6, z_r1_1, z_r2_1, z_r0_2_0, z_r0_2_1, z_r0_2_2, z_r0_2_0_6, z_r0_2_0_7, z_r0_2_0_8, z_r0_2_0_9, z_r0_2_0_10]); exact (Chg.cons (Chg.up S3 (List.forall_mem_cons.mpr ⟨List.mem_of_getElem? (i := 0) rfl, fun _ h => nomatch h⟩)) (Chg.mono (Chg.up S10 (List.forall_mem_cons.mpr ⟨List.mem_of_getElem? (i := 0) rfl, fun _ h => nomatch h⟩)) (by decide)) (by decide)))⟩

theorem s_X11_kind_x {d : Nat} {T N : Nat → Nat} {I : IT} {L : LT} {R : RT} {A B : Nat → Prop} {r0 : Nat} {n1 : Int32} (hS : SUB B A) (hI : IX A T I) (H_r0 : (hs_LF T N R A B) r0) (hU : UPR T R) (hp0 : rA R (rA R (rA R r0 8) 2) 0 = (rA R r0 1)) (hp1 : ∀ j : Nat, (j : Int) < (I (rA R r0 1) 1).toInt → BNX I (rA R (FA R (rA R r0 1) j) 1) (I (FA R (rA R r0 1) j) 0).toInt (I (rA R r0 1) 0).toInt) (hp2 : ∀ j : Nat, (j : Int) < (I (rA R r0 1) 1).toInt → (I (FA R (rA R r0 1) j) 0).toInt ≤ 8) (hp3 : PRM (I (rA R r0 1) 0).toInt) (hp4 : ∀ j, j < 16 → ¬ B (FA R (rA R r0 1) j) ∧ ¬ B (rA R (FA R (rA R r0 1) j) 1)) : Ex (d + 5) 160 [.ref r0, .int n1] (T, N, I, L, R) 1 6 (pW2 [3] T N R (pI T N R (fun x9 I9 L9 => (¬ (n1.toInt < 0 ∨ (I (rA R r0 1) 1).toInt ≤ n1.toInt ∨ 16 ≤ n1.toInt)) ∧ (KND x9.toInt n1.toInt (fun n => SMB (I (rA R r0 1) 0).toInt (I (FA R (rA R r0 1) n) 0).toInt (I (FA R (rA R r0 1) n1.toNatClampNeg) 0).toInt (NF I (rA R (FA R (rA R r0 1) n) 1)) (NF I (rA R (FA R (rA R r0 1) n1.toNatClampNeg) 1)))) ∧ (IX A T I9 ∧ Chg B T [(7, 0), (7, 1)] I L I9 L9))) (fun e9 I9 L9 => (IX A T I9 ∧ Chg B T [(7, 0), (7, 1)] I L I9 L9) ∧ (e9 = 3 → n1.toInt < 0 ∨ (I (rA R r0 1) 1).toInt ≤ n1.toInt ∨ 16 ≤ n1.toInt))) := by
  refine ⟨_, rfl, Nat.le_of_ble_eq_true rfl, fun V C S => ?_⟩
  show V 0 [(0, .ref r0), (1, .int n1)] [] (T, N, I, L, R) 0 0
  have gn1 := rg n1
  obtain ⟨T_r0, A_r0, B_r0, ⟨r0_0, R_r0_0, H_r0_0⟩, ⟨r0_1, R_r0_1, H_r0_1⟩, ⟨r0_2, R_r0_2, H_r0_2⟩, ⟨r0_5, R_r0_5, H_r0_5⟩, ⟨r0_6, R_r0_6, H_r0_6⟩, ⟨r0_7, R_r0_7, H_r0_7⟩, ⟨r0_8, R_r0_8, H_r0_8⟩, ⟨r0_9, R_r0_9, H_r0_9⟩, ⟨r0_10, R_r0_10, H_r0_10⟩, ⟨r0_11, R_r0_11, H_r0_11⟩, ⟨r0_12, R_r0_12, H_r0_12⟩, ⟨r0_13, R_r0_13, H_r0_13⟩⟩ := id H_r0
  have z_r0_0 : rA R r0 0 = r0_0 := rA_e R_r0_0
  have z_r0_1 : rA R r0 1 = r0_1 := rA_e R_r0_1
  have z_r0_2 : rA R r0 2 = r0_2 := rA_e R_r0_2
  have z_r0_5 : rA R r0 5 = r0_5 := rA_e R_r0_5
  have z_r0_6 : rA R r0 6 = r0_6 := rA_e R_r0_6
  have z_r0_7 : rA R r0 7 = r0_7 := rA_e R_r0_7
  have z_r0_8 : rA R r0 8 = r0_8 := rA_e R_r0_8
  have z_r0_9 : rA R r0 9 = r0_9 := rA_e R_r0_9
  have z_r0_10 : rA R r0 10 = r0_10 := rA_e R_r0_10
  have z_r0_11 : rA R r0 11 = r0_11 := rA_e R_r0_11
  have z_r0_12 : rA R r0 12 = r0_12 := rA_e R_r0_12
  have z_r0_13 : rA R r0 13 = r0_13 := rA_e R_r0_13
  obtain ⟨T_r0_1, A_r0_1, B_r0_1, ⟨r0_1_6, R_r0_1_6, H_r0_1_6⟩, ⟨r0_1_7, R_r0_1_7, H_r0_1_7⟩, ⟨r0_1_8, R_r0_1_8, H_r0_1_8⟩, ⟨r0_1_9, R_r0_1_9, H_r0_1_9⟩, ⟨r0_1_10, R_r0_1_10, H_r0_1_10⟩⟩ := id H_r0_1
  have z_r0_1_6 : rA R r0_1 6 = r0_1_6 := rA_e R_r0_1_6
  have z_r0_1_7 : rA R r0_1 7 = r0_1_7 := rA_e R_r0_1_7
  have z_r0_1_8 : rA R r0_1 8 = r0_1_8 := rA_e R_r0_1_8
  have z_r0_1_9 : rA R r0_1 9 = r0_1_9 := rA_e R_r0_1_9
  have z_r0_1_10 : rA R r0_1 10 = r0_1_10 := rA_e R_r0_1_10
  obtain ⟨T_r0_8, A_r0_8, B_r0_8, ⟨r0_8_2, R_r0_8_2, H_r0_8_2⟩, ⟨r0_8_3, R_r0_8_3, H_r0_8_3⟩, ⟨r0_8_4, R_r0_8_4, H_r0_8_4⟩, ⟨r0_8_5, R_r0_8_5, H_r0_8_5⟩, ⟨r0_8_6, R_r0_8_6, H_r0_8_6⟩⟩ := id H_r0_8
  have z_r0_8_2 : rA R r0_8 2 = r0_8_2 := rA_e R_r0_8_2
  have z_r0_8_3 : rA R r0_8 3 = r0_8_3 := rA_e R_r0_8_3
  have z_r0_8_4 : rA R r0_8 4 = r0_8_4 := rA_e R_r0_8_4
  have z_r0_8_5 : rA R r0_8 5 = r0_8_5 := rA_e R_r0_8_5
  have z_r0_8_6 : rA R r0_8 6 = r0_8_6 := rA_e R_r0_8_6
  obtain ⟨T_r0_8_2, A_r0_8_2, B_r0_8_2, ⟨r0_8_2_0, R_r0_8_2_0, H_r0_8_2_0⟩, ⟨r0_8_2_1, R_r0_8_2_1, H_r0_8_2_1⟩, ⟨r0_8_2_2, R_r0_8_2_2, H_r0_8_2_2⟩⟩ := id H_r0_8_2
  have z_r0_8_2_0 : rA R r0_8_2 0 = r0_8_2_0 := rA_e R_r0_8_2_0
  have z_r0_8_2_1 : rA R r0_8_2 1 = r0_8_2_1 := rA_e R_r0_8_2_1
  have z_r0_8_2_2 : rA R r0_8_2 2 = r0_8_2_2 := rA_e R_r0_8_2_2
  obtain ⟨T_r0_8_2_0, A_r0_8_2_0, B_r0_8_2_0, ⟨r0_8_2_0_6, R_r0_8_2_0_6, H_r0_8_2_0_6⟩, ⟨r0_8_2_0_7, R_r0_8_2_0_7, H_r0_8_2_0_7⟩, ⟨r0_8_2_0_8, R_r0_8_2_0_8, H_r0_8_2_0_8⟩, ⟨r0_8_2_0_9, R_r0_8_2_0_9, H_r0_8_2_0_9⟩, ⟨r0_8_2_0_10, R_r0_8_2_0_10, H_r0_8_2_0_10⟩⟩ := id H_r0_8_2_0
  have z_r0_8_2_0_6 : rA R r0_8_2_0 6 = r0_8_2_0_6 := rA_e R_r0_8_2_0_6
  have z_r0_8_2_0_7 : rA R r0_8_2_0 7 = r0_8_2_0_7 := rA_e R_r0_8_2_0_7
  have z_r0_8_2_0_8 : rA R r0_8_2_0 8 = r0_8_2_0_8 := rA_e R_r0_8_2_0_8
  have z_r0_8_2_0_9 : rA R r0_8_2_0 9 = r0_8_2_0_9 := rA_e R_r0_8_2_0_9
  have z_r0_8_2_0_10 : rA R r0_8_2_0 10 = r0_8_2_0_10 := rA_e R_r0_8_2_0_10
  have hG := GS.of H_r0_1
  obtain ⟨T_r0_1_8, N_r0_1_8, A_r0_1_8, E_r0_1_8⟩ := id H_r0_1_8
  obtain ⟨T_r0_8_3, N_r0_8_3, A_r0_8_3⟩ := id H_r0_8_3
  obtain ⟨T_r0_8_4, N_r0_8_4, A_r0_8_4⟩ := id H_r0_8_4
  obtain ⟨T_r0_8_5, N_r0_8_5, A_r0_8_5⟩ := id H_r0_8_5
  obtain ⟨T_r0_8_6, N_r0_8_6, A_r0_8_6⟩ := id H_r0_8_6
  try simp only [z_r0_0, z_r0_1, z_r0_2, z_r0_5, z_r0_6, z_r0_7, z_r0_8, z_r0_9, z_r0_10, z_r0_11, z_r0_12, z_r0_13, z_r0_1_6, z_r0_1_7, z_r0_1_8, z_r0_1_9, z_r0_1_10, z_r0_8_2, z_r0_8_3, z_r0_8_4, z_r0_8_5, z_r0_8_6, z_r0_8_2_0, z_r0_8_2_1, z_r0_8_2_2, z_r0_8_2_0_6, z_r0_8_2_0_7, z_r0_8_2_0_8, z_r0_8_2_0_9, z_r0_8_2_0_10] at hp0
  try simp only [z_r0_0, z_r0_1, z_r0_2, z_r0_5, z_r0_6, z_r0_7, z_r0_8, z_r0_9, z_r0_10, z_r0_11, z_r0_12, z_r0_13, z_r0_1_6, z_r0_1_7, z_r0_1_8, z_r0_1_9, z_r0_1_10, z_r0_8_2, z_r0_8_3, z_r0_8_4, z_r0_8_5, z_r0_8_6, z_r0_8_2_0, z_r0_8_2_1, z_r0_8_2_2, z_r0_8_2_0_6, z_r0_8_2_0_7, z_r0_8_2_0_8, z_r0_8_2_0_9, z_r0_8_2_0_10] at hp1
  try simp only [z_r0_0, z_r0_1, z_r0_2, z_r0_5, z_r0_6, z_r0_7, z_r0_8, z_r0_9, z_r0_10, z_r0_11, z_r0_12, z_r0_13, z_r0_1_6, z_r0_1_7, z_r0_1_8, z_r0_1_9, z_r0_1_10, z_r0_8_2, z_r0_8_3, z_r0_8_4, z_r0_8_5, z_r0_8_6, z_r0_8_2_0, z_r0_8_2_1, z_r0_8_2_2, z_r0_8_2_0_6, z_r0_8_2_0_7, z_r0_8_2_0_8, z_r0_8_2_0_9, z_r0_8_2_0_10] at hp2
  try simp only [z_r0_0, z_r0_1, z_r0_2, z_r0_5, z_r0_6, z_r0_7, z_r0_8, z_r0_9, z_r0_10, z_r0_11, z_r0_12, z_r0_13, z_r0_1_6, z_r0_1_7, z_r0_1_8, z_r0_1_9, z_r0_1_10, z_r0_8_2, z_r0_8_3, z_r0_8_4, z_r0_8_5, z_r0_8_6, z_r0_8_2_0, z_r0_8_2_1, z_r0_8_2_2, z_r0_8_2_0_6, z_r0_8_2_0_7, z_r0_8_2_0_8, z_r0_8_2_0_9, z_r0_8_2_0_10] at hp3
  try simp only [z_r0_0, z_r0_1, z_r0_2, z_r0_5, z_r0_6, z_r0_7, z_r0_8, z_r0_9, z_r0_10, z_r0_11, z_r0_12, z_r0_13, z_r0_1_6, z_r0_1_7, z_r0_1_8, z_r0_1_9, z_r0_1_10, z_r0_8_2, z_r0_8_3, z_r0_8_4, z_r0_8_5, z_r0_8_6, z_r0_8_2_0, z_r0_8_2_1, z_r0_8_2_2, z_r0_8_2_0_6, z_r0_8_2_0_7, z_r0_8_2_0_8, z_r0_8_2_0_9, z_r0_8_2_0_10] at hp4
  obtain ⟨w_r0_1_0, k0_r0_1_0⟩ : ∃ x, I r0_1 0 = x := ⟨_, rfl⟩
  have gw_r0_1_0 := rg w_r0_1_0
  have ow_r0_1_0 := IX.p hI A_r0_1 T_r0_1 k0_r0_1_0
  obtain ⟨w_r0_1_1, k0_r0_1_1⟩ : ∃ x, I r0_1 1 = x := ⟨_, rfl⟩
  have gw_r0_1_1 := rg w_r0_1_1
  try simp only [k0_r0_1_0, k0_r0_1_1] at hp0
  try simp only [k0_r0_1_0, k0_r0_1_1] at hp1
  try simp only [k0_r0_1_0, k0_r0_1_1] at hp2
  try simp only [k0_r0_1_0, k0_r0_1_1] at hp3
  try simp only [k0_r0_1_0, k0_r0_1_1] at hp4
  refine k_aload_n C rfl rfl rfl ?_
  refine k_iload_n C rfl rfl rfl ?_
  refine w2_VR C (s_X11_toldForm_x hS hI H_r0) rfl rfl rfl rfl rfl ⟨_, rfl, rfl, T_r0, Nat.le_of_ble_eq_true rfl⟩ rfl rfl (Nat.le_of_ble_eq_true rfl) (Nat.le_of_ble_eq_true rfl) (Nat.le_of_ble_eq_true rfl) (by decide) (fun e9 he I9 L9 hq => by obtain ⟨⟨rfl, rfl⟩, hq⟩ := hq; exact Or.inl ⟨rfl, Or.inr ⟨e9, _, _, (by decide : ∀ z ∈ [3], z ∈ [3]) e9 he, rfl, rfl, ⟨⟨hI, Chg.rf⟩, (fun h9 => by subst h9; first | exact absurd he (by decide) | (have hx := hq rfl; exact hx))⟩⟩⟩) ?_
  rintro yy1 _ _ ⟨hyy1, p0yy1, p1yy1, rfl, rfl⟩
  obtain ⟨rr2, err2, H_rr2⟩ := hyy1
  subst err2
  try simp only [z_r0_0, z_r0_1, z_r0_2, z_r0_5, z_r0_6, z_r0_7, z_r0_8, z_r0_9, z_r0_10, z_r0_11, z_r0_12, z_r0_13, z_r0_1_6, z_r0_1_7, z_r0_1_8, z_r0_1_9, z_r0_1_10, z_r0_8_2, z_r0_8_3, z_r0_8_4, z_r0_8_5, z_r0_8_6, z_r0_8_2_0, z_r0_8_2_1, z_r0_8_2_2, z_r0_8_2_0_6, z_r0_8_2_0_7, z_r0_8_2_0_8, z_r0_8_2_0_9, z_r0_8_2_0_10] at p0yy1
  try simp only [z_r0_0, z_r0_1, z_r0_2, z_r0_5, z_r0_6, z_r0_7, z_r0_8, z_r0_9, z_r0_10, z_r0_11, z_r0_12, z_r0_13, z_r0_1_6, z_r0_1_7, z_r0_1_8, z_r0_1_9, z_r0_1_10, z_r0_8_2, z_r0_8_3, z_r0_8_4, z_r0_8_5, z_r0_8_6, z_r0_8_2_0, z_r0_8_2_1, z_r0_8_2_2, z_r0_8_2_0_6, z_r0_8_2_0_7, z_r0_8_2_0_8, z_r0_8_2_0_9, z_r0_8_2_0_10] at p1yy1
  try simp only [k0_r0_1_0, k0_r0_1_1] at p0yy1
  try have q0yy1 := congrArg Int32.toInt p0yy1
  try simp only [k0_r0_1_0, k0_r0_1_1] at p1yy1
  try have q1yy1 := congrArg Int32.toInt p1yy1
  have hF := p0yy1.symm; have hF2 := p1yy1; have oF := FA_e z_r0_1_8 hF; have nF := ncn (n := 16) (j := n1) (by omega) (by omega); have nF1 := ncz (x := n1) (by omega); have fF := FO.of H_rr2; have TF := fF.1; have hd1 := hp2 n1.toNatClampNeg (by omega); rw [oF] at hd1
  refine k_astore_n C (lw := [(2, .ref rr2), (0, .ref r0), (1, .int n1)]) rfl rfl (Nat.le_of_ble_eq_true rfl) rfl ?_
  refine z_iconst C (z := 0) rfl rfl rfl (fun x3 ex3 => ?_)
  have J4 : ∀ (nn5 : Nat) (I6 : IT) (L7 : LT) (x8 : Int32), ((2147483647 - x8.toInt).toNat = nn5) → (IX A T I6) → (Chg B T [(7, 0), (7, 1)] I L I6 L7) → (0 ≤ x8.toInt) → (∀ n : Nat, (n : Int) < x8.toInt → ¬ SMB w_r0_1_0.toInt (I (FA R r0_1 n) 0).toInt (I (FA R r0_1 n1.toNatClampNeg) 0).toInt (NF I (rA R (FA R r0_1 n) 1)) (NF I (rA R (FA R r0_1 n1.toNatClampNeg) 1))) → (x8.toInt ≤ n1.toInt) → V 8 [(0, .ref r0), (1, .int n1), (2, .ref rr2), (3, .int x8)] [] (T, N, I6, L7, R) 1 6 := by
    intro nn5
    induction nn5 using Nat.strongRecOn with
    | _ nn5 ihJ4 =>
      intro I6 L7 x8 hmnn5 hI11 S10 b9 ff8_0 ff8_1
      have gx8 := rg x8
      have e14 := Chg.k S10 T_r0_1 (by decide) (by decide) k0_r0_1_0
      have e15 := Chg.k S10 T_r0_1 (by decide) (by decide) k0_r0_1_1
      refine k_iload_n C rfl rfl rfl ?_
      refine k_iload_n C rfl rfl rfl ?_
      refine b_icmp_ge C (t := 56) rfl rfl rfl (fun c16 => ?_) (fun c16 => ?_)
      · skip
        refine k_iload_n C rfl rfl rfl ?_
        exact k_iret C rfl (Or.inl rfl) (Nat.le_of_ble_eq_true rfl) (Nat.le_of_ble_eq_true rfl) (Or.inl ⟨_, _, _, rfl, rfl, by (try simp only [z_r0_0, z_r0_1, z_r0_2, z_r0_5, z_r0_6, z_r0_7, z_r0_8, z_r0_9, z_r0_10, z_r0_11, z_r0_12, z_r0_13, z_r0_1_6, z_r0_1_7, z_r0_1_8, z_r0_1_9, z_r0_1_10, z_r0_8_2, z_r0_8_3, z_r0_8_4, z_r0_8_5, z_r0_8_6, z_r0_8_2_0, z_r0_8_2_1, z_r0_8_2_2, z_r0_8_2_0_6, z_r0_8_2_0_7, z_r0_8_2_0_8, z_r0_8_2_0_9, z_r0_8_2_0_10]); (try simp only [k0_r0_1_1]); omega, by (try simp only [z_r0_0, z_r0_1, z_r0_2, z_r0_5, z_r0_6, z_r0_7, z_r0_8, z_r0_9, z_r0_10, z_r0_11, z_r0_12, z_r0_13, z_r0_1_6, z_r0_1_7, z_r0_1_8, z_r0_1_9, z_r0_1_10, z_r0_8_2, z_r0_8_3, z_r0_8_4, z_r0_8_5, z_r0_8_6, z_r0_8_2_0, z_r0_8_2_1, z_r0_8_2_2, z_r0_8_2_0_6, z_r0_8_2_0_7, z_r0_8_2_0_8, z_r0_8_2_0_9, z_r0_8_2_0_10]); simp only [k0_r0_1_0]; exact ⟨by omega, by omega, fun n hn => ff8_0 n (by omega), fun q => by exfalso; omega⟩, hI11, (Chg.mono S10 (by decide))⟩)
      refine k_aload_n C rfl rfl rfl ?_
      refine g_R C rfl rfl rfl T_r0 rfl R_r0_1 ?_
      refine k_iload_n C rfl rfl rfl ?_
      refine c_VR C (s_X8_formAt_x hS hI11 H_r0_1) rfl rfl rfl rfl rfl ⟨_, rfl, rfl, T_r0_1, Nat.le_of_ble_eq_true rfl⟩ rfl rfl (Nat.le_of_ble_eq_true rfl) (Nat.le_of_ble_eq_true rfl) (Nat.le_of_ble_eq_true rfl) ?_
      rintro yy17 _ _ ⟨hyy17, p0yy17, rfl, rfl⟩
      try simp only [z_r0_0, z_r0_1, z_r0_2, z_r0_5, z_r0_6, z_r0_7, z_r0_8, z_r0_9, z_r0_10, z_r0_11, z_r0_12, z_r0_13, z_r0_1_6, z_r0_1_7, z_r0_1_8, z_r0_1_9, z_r0_1_10, z_r0_8_2, z_r0_8_3, z_r0_8_4, z_r0_8_5, z_r0_8_6, z_r0_8_2_0, z_r0_8_2_1, z_r0_8_2_2, z_r0_8_2_0_6, z_r0_8_2_0_7, z_r0_8_2_0_8, z_r0_8_2_0_9, z_r0_8_2_0_10] at p0yy17
      try simp only [e14, e15] at p0yy17
      try have q0yy17 := congrArg Int32.toInt p0yy17
      have hfk := p0yy17
      refine k_astoreV C (x := yy17) (lw := [(4, va_rf yy17), (0, .ref r0), (1, .int n1), (2, .ref rr2), (3, .int x8)]) rfl rfl (Nat.le_of_ble_eq_true rfl) rfl ?_
      refine k_aloadV C (x := yy17) rfl rfl rfl ?_
      refine k_ifnull C (x := yy17) (t := 50) rfl rfl rfl (fun c18 => ?_) (fun rr19 c18 => ?_)
      · skip
        subst c18
        exfalso; have q9 := FAD.no hfk E_r0_1_8; omega
      subst c18
      have H_rr19 := hyy17 rr19 rfl
      have hG9 := (FAD.q hfk).2.2.2; have oG := FA_e z_r0_1_8 hG9; have nG := ncn (n := 16) (j := x8) (by omega) (by omega); have fG := FO.of H_rr19; have TG := fG.1
      refine k_aload_n C rfl rfl rfl ?_
      refine g_R C rfl rfl rfl T_r0 rfl R_r0_8 ?_
      refine k_aload C rfl rfl rfl ?_
      refine k_aload_n C rfl rfl rfl ?_
      have eF := Chg.at (((Chg.mono S10 (by decide)) : Chg B T [(7, 0), (7, 1)] I L I6 L7)) (hp4 _ nF).1; have eB := Chg.at (((Chg.mono S10 (by decide)) : Chg B T [(7, 0), (7, 1)] I L I6 L7)) (hp4 _ nF).2; rw [oF] at eF eB; have gF := Chg.at (((Chg.mono S10 (by decide)) : Chg B T [(7, 0), (7, 1)] I L I6 L7)) (hp4 _ nG).1; have gB := Chg.at (((Chg.mono S10 (by decide)) : Chg B T [(7, 0), (7, 1)] I L I6 L7)) (hp4 _ nG).2; rw [oG] at gF gB; have hk9 := e14; have hd2 := hp2 x8.toNatClampNeg (by have h9 := ncz (x := x8) (by omega); omega); rw [oG] at hd2
      obtain ⟨T_rr19, A_rr19, ⟨rr19_1, R_rr19_1, H_rr19_1⟩⟩ := id H_rr19
      have z_rr19_1 : rA R rr19 1 = rr19_1 := rA_e R_rr19_1
      obtain ⟨T_rr2, A_rr2, ⟨rr2_1, R_rr2_1, H_rr2_1⟩⟩ := id H_rr2
      have z_rr2_1 : rA R rr2 1 = rr2_1 := rA_e R_rr2_1
      refine c_VV C (s_X6_run_x hS hI11 H_r0_8 H_rr19 H_rr2 hU (BNX.mv (hp1 x8.toNatClampNeg (by have h9 := ncz (x := x8) (by omega); omega)) oG gF gB (by rw [z_r0_8_2, z_r0_8_2_0, hp0, hk9])) (BNX.mv (hp1 n1.toNatClampNeg (by omega)) oF eF eB (by rw [z_r0_8_2, z_r0_8_2_0, hp0, hk9])) (by rw [gF]; exact hd2) (by rw [eF]; exact hd1) (by rw [z_r0_8_2, z_r0_8_2_0, hp0, hk9]; exact hp3)) rfl rfl rfl rfl rfl ⟨_, rfl, rfl, T_r0_8, Nat.le_of_ble_eq_true rfl⟩ rfl rfl (Nat.le_of_ble_eq_true rfl) (Nat.le_of_ble_eq_true rfl) (Nat.le_of_ble_eq_true rfl) ?_
      rintro I21 L22 ⟨p0v20, p1v20, hI21, S23⟩
      try simp only [z_r0_0, z_r0_1, z_r0_2, z_r0_5, z_r0_6, z_r0_7, z_r0_8, z_r0_9, z_r0_10, z_r0_11, z_r0_12, z_r0_13, z_r0_1_6, z_r0_1_7, z_r0_1_8, z_r0_1_9, z_r0_1_10, z_r0_8_2, z_r0_8_3, z_r0_8_4, z_r0_8_5, z_r0_8_6, z_r0_8_2_0, z_r0_8_2_1, z_r0_8_2_2, z_r0_8_2_0_6, z_r0_8_2_0_7, z_r0_8_2_0_8, z_r0_8_2_0_9, z_r0_8_2_0_10, z_rr19_1, z_rr2_1] at S23
      have e24 := Chg.k S23 T_r0_1 (by decide) (by decide) e14
      have e25 := Chg.k S23 T_r0_1 (by decide) (by decide) e15
      obtain ⟨x26, e27⟩ : ∃ x, I21 r0_8 0 = x := ⟨_, rfl⟩
      have gx26 := rg x26
      obtain ⟨x28, e29⟩ : ∃ x, I21 r0_8 1 = x := ⟨_, rfl⟩
      have gx28 := rg x28
      try simp only [z_r0_0, z_r0_1, z_r0_2, z_r0_5, z_r0_6, z_r0_7, z_r0_8, z_r0_9, z_r0_10, z_r0_11, z_r0_12, z_r0_13, z_r0_1_6, z_r0_1_7, z_r0_1_8, z_r0_1_9, z_r0_1_10, z_r0_8_2, z_r0_8_3, z_r0_8_4, z_r0_8_5, z_r0_8_6, z_r0_8_2_0, z_r0_8_2_1, z_r0_8_2_2, z_r0_8_2_0_6, z_r0_8_2_0_7, z_r0_8_2_0_8, z_r0_8_2_0_9, z_r0_8_2_0_10, z_rr19_1, z_rr2_1] at p0v20
      try simp only [z_r0_0, z_r0_1, z_r0_2, z_r0_5, z_r0_6, z_r0_7, z_r0_8, z_r0_9, z_r0_10, z_r0_11, z_r0_12, z_r0_13, z_r0_1_6, z_r0_1_7, z_r0_1_8, z_r0_1_9, z_r0_1_10, z_r0_8_2, z_r0_8_3, z_r0_8_4, z_r0_8_5, z_r0_8_6, z_r0_8_2_0, z_r0_8_2_1, z_r0_8_2_2, z_r0_8_2_0_6, z_r0_8_2_0_7, z_r0_8_2_0_8, z_r0_8_2_0_9, z_r0_8_2_0_10, z_rr19_1, z_rr2_1] at p1v20
      try simp only [e14, e15, e27, e29] at p0v20
      try have q0v20 := congrArg Int32.toInt p0v20
      try simp only [e14, e15, e27, e29] at p1v20
      try have q1v20 := congrArg Int32.toInt p1v20
      have hsx0 := p1v20; (try rw [e29] at hsx0); have hsx := FNX.mv (p := w_r0_1_0.toInt) hsx0 (by first | rfl | exact rA_e (by assumption)) (by first | rfl | exact rA_e (by assumption)) (by rw [hp0, hk9]) oG oF gF gB eF eB; have hsm := hsx.b hp3
      refine k_aload_n C rfl rfl rfl ?_
      refine g_R C rfl rfl rfl T_r0 rfl R_r0_8 ?_
      refine g_I C rfl rfl rfl T_r0_8 rfl e29 ?_
      refine b_if_le C (t := 50) rfl rfl rfl (fun c30 => ?_) (fun c30 => ?_)
      · skip
        refine z_iinc C (z := 1) (lw := fun x31 => [(3, .int x31), (4, .ref rr19), (0, .ref r0), (1, .int n1), (2, .ref rr2)]) rfl rfl rfl (Nat.le_of_ble_eq_true rfl) rfl ⟨by omega, by omega⟩ (fun _ => rfl) (fun x31 ex31 => ?_)
        show V 53 [(3, .int x31), (4, .ref rr19), (0, .ref r0), (1, .int n1), (2, .ref rr2)] _ _ _ _
        refine k_goto C (pc2 := 8) rfl rfl ?_
        refine k_sub S [(0, .ref r0), (1, .int n1), (2, .ref rr2), (3, .int x31)] (List.forall_mem_cons.mpr ⟨List.mem_of_getElem? (i := 2) rfl, List.forall_mem_cons.mpr ⟨List.mem_of_getElem? (i := 3) rfl, List.forall_mem_cons.mpr ⟨List.mem_of_getElem? (i := 4) rfl, List.forall_mem_cons.mpr ⟨List.mem_of_getElem? (i := 0) rfl, fun _ h => nomatch h⟩⟩⟩⟩) ?_
        exact ihJ4 _ (by omega) I21 L22 x31 rfl hI21 (Chg.cons S10 (Chg.mono (Chg.up S23 (sl_5 (B_r0_8) (A_r0_8_3) (A_r0_8_4) (A_r0_8_5) (A_r0_8_6))) (by decide)) (by decide)) (by omega) (by exact KNL.s ff8_0 (fun z => by have h9 := hsm.mpr z; omega) (by omega) (by omega)) (by omega)
      refine k_iload_n C rfl rfl rfl ?_
      exact k_iret C rfl (Or.inl rfl) (Nat.le_of_ble_eq_true rfl) (Nat.le_of_ble_eq_true rfl) (Or.inl ⟨_, _, _, rfl, rfl, by (try simp only [z_r0_0, z_r0_1, z_r0_2, z_r0_5, z_r0_6, z_r0_7, z_r0_8, z_r0_9, z_r0_10, z_r0_11, z_r0_12, z_r0_13, z_r0_1_6, z_r0_1_7, z_r0_1_8, z_r0_1_9, z_r0_1_10, z_r0_8_2, z_r0_8_3, z_r0_8_4, z_r0_8_5, z_r0_8_6, z_r0_8_2_0, z_r0_8_2_1, z_r0_8_2_2, z_r0_8_2_0_6, z_r0_8_2_0_7, z_r0_8_2_0_8, z_r0_8_2_0_9, z_r0_8_2_0_10, z_rr19_1, z_rr2_1]); (try simp only [k0_r0_1_1]); omega, by (try simp only [z_r0_0, z_r0_1, z_r0_2, z_r0_5, z_r0_6, z_r0_7, z_r0_8, z_r0_9, z_r0_10, z_r0_11, z_r0_12, z_r0_13, z_r0_1_6, z_r0_1_7, z_r0_1_8, z_r0_1_9, z_r0_1_10, z_r0_8_2, z_r0_8_3, z_r0_8_4, z_r0_8_5, z_r0_8_6, z_r0_8_2_0, z_r0_8_2_1, z_r0_8_2_2, z_r0_8_2_0_6, z_r0_8_2_0_7, z_r0_8_2_0_8, z_r0_8_2_0_9, z_r0_8_2_0_10, z_rr19_1, z_rr2_1]); simp only [k0_r0_1_0]; exact ⟨by omega, by omega, ff8_0, fun _ => hsm.mp (by omega)⟩, hI21, (Chg.cons S10 (Chg.mono (Chg.up S23 (sl_5 (B_r0_8) (A_r0_8_3) (A_r0_8_4) (A_r0_8_5) (A_r0_8_6))) (by decide)) (by decide))⟩)
  refine k_istore_n C (lw := [(3, .int x3), (2, .ref rr2), (0, .ref r0), (1, .int n1)]) rfl rfl (Nat.le_of_ble_eq_true rfl) rfl ?_
  refine k_sub S [(0, .ref r0), (1, .int n1), (2, .ref rr2), (3, .int x3)] (List.forall_mem_cons.mpr ⟨List.mem_of_getElem? (i := 2) rfl, List.forall_mem_cons.mpr ⟨List.mem_of_getElem? (i := 3) rfl, List.forall_mem_cons.mpr ⟨List.mem_of_getElem? (i := 1) rfl, List.forall_mem_cons.mpr ⟨List.mem_of_getElem? (i := 0) rfl, fun _ h => nomatch h⟩⟩⟩⟩) ?_
  exact J4 _ I L x3 rfl hI Chg.rf (by omega) (by intro n hn; exfalso; omega) (by omega)

