/-! nought: exactly -/
/-- zeros ahead; the first number that is not nought -/
def ZRL (f : Nat → Int) (n : Int) : Prop := ∀ j : Nat, (j : Int) < n → f j = 0
theorem ZRL.z {f : Nat → Int} {n : Int} (h : n = 0) : ZRL f n := fun j hj => by omega
theorem ZRL.s {f : Nat → Int} {x k k' : Int32} {D : Int} (h : ZRL f k.toInt) (g : GTD x.toInt D f k.toInt) (e : x.toInt = 0) (h0 : 0 ≤ k.toInt) (h1 : k.toInt ≤ D) (hk : k'.toInt = k.toInt + 1) : ZRL f k'.toInt := fun j hj => by
  have n0 := ncz h0
  by_cases q : j = k.toNatClampNeg
  · subst q
    have a : x.toInt = f k.toNatClampNeg := g.i h0 h1
    omega
  · exact h j (by omega)
theorem ZRL.cg {f g : Nat → Int} {n : Int} (h : ZRL f n) (e : ∀ k : Nat, (k : Int) < n → f k = g k) : ZRL g n := fun j hj => (e j hj).symm.trans (h j hj)
def FSD (x D : Int) (f : Nat → Int) : Prop := (x = -1 ∧ ZRL f (D + 1)) ∨ (0 ≤ x ∧ x ≤ D ∧ f x.toNat ≠ 0 ∧ ZRL f x)
theorem FSD.y {f : Nat → Int} {a k : Int32} {D : Int} (h : ZRL f k.toInt) (g : GTD a.toInt D f k.toInt) (e : a.toInt ≠ 0) (h0 : 0 ≤ k.toInt) (h1 : k.toInt ≤ D) : FSD k.toInt D f := Or.inr ⟨h0, h1, fun q => e ((g.1 h0 h1).trans q), h⟩
theorem FSD.n {f : Nat → Int} {x k D : Int} (h : ZRL f k) (hk : D < k) (hx : x = -1) : FSD x D f := Or.inl ⟨hx, fun j hj => h j (by omega)⟩
theorem FSD.nz {f : Nat → Int} {x D : Int} (h : FSD x D f) (hx : x ≠ -1) : ¬ ZRL f (D + 1) := fun z => by
  rcases h with h | h
  · exact hx h.1
  · exact h.2.2.1 (z x.toNat (by omega))
/-- divided by a root -/
def SYN (p t : Int) (f : Nat → Int) : Nat → Int
  | 0 => f 0
  | k + 1 => (f (k + 1) + SYN p t f k * t) % p
theorem SYN.cg {p t : Int} {f g : Nat → Int} : ∀ k, (∀ j, j ≤ k → f j = g j) → SYN p t f k = SYN p t g k
  | 0, h => h 0 (Nat.le_refl _)
  | k + 1, h => by
    show (f (k + 1) + SYN p t f k * t) % p = (g (k + 1) + SYN p t g k * t) % p
    rw [h (k + 1) (Nat.le_refl _), SYN.cg k (fun j hj => h j (by omega))]
theorem SYN.b {p t : Int} {f : Nat → Int} (hp : 0 < p) (h : 0 ≤ f 0 ∧ f 0 < p) : ∀ k, 0 ≤ SYN p t f k ∧ SYN p t f k < p
  | 0 => h
  | _ + 1 => ⟨Int.emod_nonneg _ (by omega), Int.emod_lt_of_pos _ hp⟩
def DRL (I' I : IT) (b : Nat) (p t k : Int) : Prop := (∀ j : Nat, (j : Int) < k → (I' b j).toInt = SYN p t (fun j => (I b j).toInt) j) ∧ ∀ j : Nat, k ≤ (j : Int) → I' b j = I b j
theorem DRL.z {I : IT} {b : Nat} {p t k : Int} (h : k = 1) : DRL I I b p t k := by
  refine ⟨fun j hj => ?_, fun _ _ => rfl⟩
  have q : j = 0 := by omega
  subst q; rfl
theorem DRL.s {I I1 I2 : IT} {b : Nat} {p D D1 D2 : Int} {t a c m s k k1 k' o : Int32} {l : Int64} (h : DRL I1 I b p t.toInt k.toInt) (hb : BNX I b D p) (ga : GTD a.toInt D1 (fun j => (I1 b j).toInt) k.toInt) (gc : GTD c.toInt D2 (fun j => (I1 b j).toInt) k1.toInt) (mm : MXD m c t) (ad : ADX s a m) (hl : l.toInt = s.toInt) (ho : o.toInt = l.toInt % p) (st : STD I1 I2 b k o) (hp : 0 < p ∧ p ≤ 19) (ht : 0 ≤ t.toInt ∧ t.toInt ≤ 18) (h1 : 1 ≤ k.toInt) (hD : k.toInt ≤ D) (hD1 : k.toInt ≤ D1) (hD2 : k.toInt ≤ D2) (h40 : k.toInt < 41) (e1 : k1.toInt = k.toInt - 1) (hk : k'.toInt = k.toInt + 1) : DRL I2 I b p t.toInt k'.toInt := by
  have n0 := ncz (x := k) (by omega)
  have n1 := ncz (x := k1) (by omega)
  have va : a.toInt = (I b k.toNatClampNeg).toInt := by
    have q : a.toInt = (I1 b k.toNatClampNeg).toInt := ga.i (by omega) hD1
    rw [q, h.2 _ (by omega)]
  have vc : c.toInt = SYN p t.toInt (fun j => (I b j).toInt) k1.toNatClampNeg := by
    have q : c.toInt = (I1 b k1.toNatClampNeg).toInt := gc.i (by omega) (by omega)
    rw [q]; exact h.1 _ (by omega)
  have ba := hb k.toNatClampNeg (by omega)
  have bc := SYN.b (t := t.toInt) (f := fun j => (I b j).toInt) hp.1 (hb 0 (by omega)) k1.toNatClampNeg
  have q1 := mm (by omega) (by omega) (by omega) (by omega)
  have r1 := mul_ab (u := c.toInt) (v := t.toInt) (by omega) (by omega) (by omega) (by omega)
  have q2 := ad (by omega) (by omega)
  have ek : k.toNatClampNeg = k1.toNatClampNeg + 1 := by omega
  have vo : o.toInt = SYN p t.toInt (fun j => (I b j).toInt) k.toNatClampNeg := by
    rw [ek]
    show o.toInt = ((I b (k1.toNatClampNeg + 1)).toInt + SYN p t.toInt (fun j => (I b j).toInt) k1.toNatClampNeg * t.toInt) % p
    rw [ho, hl, q2, q1, va, vc, ek]
  have e2 := st.1 (by omega) h40
  refine ⟨fun j hj => ?_, fun j hj => ?_⟩
  · rw [e2]
    by_cases q : j = k.toNatClampNeg
    · subst q; rw [u2_s]; exact vo
    · rw [u2_k q]; exact h.1 j (by omega)
  · rw [e2, u2_k (by omega)]; exact h.2 j (by omega)
/-- divided by it n times -/
def ITR (p t : Int) (f : Nat → Int) : Nat → Nat → Int
  | 0 => f
  | n + 1 => SYN p t (ITR p t f n)
theorem ITR.b {p t : Int} {f : Nat → Int} {D : Nat} (hp : 0 < p) (h : ∀ k, k ≤ D → 0 ≤ f k ∧ f k < p) : ∀ n k, k ≤ D → 0 ≤ ITR p t f n k ∧ ITR p t f n k < p
  | 0, k, hk => h k hk
  | n + 1, k, _ => SYN.b hp (ITR.b hp h n 0 (Nat.zero_le _)) k
theorem ITR.cg {p t : Int} {f g : Nat → Int} {D : Nat} (h : ∀ k, k ≤ D → f k = g k) : ∀ n k, k ≤ D → ITR p t f n k = ITR p t g n k
  | 0, k, hk => h k hk
  | n + 1, k, hk => SYN.cg k (fun j hj => ITR.cg h n j (by omega))
theorem HRV.cg {x y : Int} {f g : Nat → Int} : ∀ n, (∀ k, k < n → f k = g k) → HRV x y f n = HRV x y g n
  | 0, _ => rfl
  | n + 1, h => by
    show HRV x y f n * x + f n * POW y n = HRV x y g n * x + g n * POW y n
    rw [HRV.cg n (fun k hk => h k (by omega)), h n (by omega)]
def ZRR (p t D : Int) (f : Nat → Int) (i : Nat) : Prop := PmE p (HRV t 1 (ITR p t f i) (D.toNat - i + 1)) 0
/-- how often a point is a root -/
def HOW (p t D : Int) (f : Nat → Int) (n : Int) : Prop := 0 ≤ n ∧ n ≤ D ∧ (∀ i : Nat, (i : Int) < n → ZRR p t D f i) ∧ (n = D ∨ ¬ ZRR p t D f n.toNat)
theorem HOW.u {p t D n m : Int} {f : Nat → Int} (h : HOW p t D f n) (g : HOW p t D f m) : n = m := by
  obtain ⟨h0, h1, h2, h3⟩ := h
  obtain ⟨g0, g1, g2, g3⟩ := g
  rcases Int.lt_trichotomy n m with q | q | q
  · rcases h3 with h3 | h3
    · omega
    · exact absurd (g2 n.toNat (by omega)) h3
  · exact q
  · rcases g3 with g3 | g3
    · omega
    · exact absurd (h2 m.toNat (by omega)) g3
theorem ZRR.cg {p t D : Int} {f g : Nat → Int} (h : ∀ k : Nat, (k : Int) ≤ D → f k = g k) (i : Nat) (hi : (i : Int) ≤ D) : ZRR p t D f i ↔ ZRR p t D g i := by
  unfold ZRR
  rw [HRV.cg (D.toNat - i + 1) (fun k hk => ITR.cg (D := D.toNat) (fun j hj => h j (by omega)) i k (by omega))]
theorem HOW.cg {p t D n : Int} {f g : Nat → Int} (h : HOW p t D f n) (e : ∀ k : Nat, (k : Int) ≤ D → f k = g k) : HOW p t D g n :=
  ⟨h.1, h.2.1, fun i hi => (ZRR.cg e i (by have := h.2.1; omega)).mp (h.2.2.1 i hi), h.2.2.2.imp id (fun q z => q ((ZRR.cg e _ (by have := h.1; have := h.2.1; omega)).mpr z))⟩
def HOF (x p t D : Int) (f : Nat → Int) : Prop := (ZRL f (D + 1) → x = 99) ∧ (¬ ZRL f (D + 1) → (t = p → 0 ≤ x ∧ x ≤ D ∧ f x.toNat ≠ 0 ∧ ZRL f x) ∧ (t ≠ p → HOW p t D f x))
theorem HOF.u {x y p t D : Int} {f g : Nat → Int} (h : HOF x p t D f) (k : HOF y p t D g) (e : ∀ k : Nat, (k : Int) ≤ D → f k = g k) : x = y := by
  by_cases z : ZRL f (D + 1)
  · rw [h.1 z, k.1 (z.cg (fun j hj => e j (by omega)))]
  · have z2 : ¬ ZRL g (D + 1) := fun q => z (q.cg (fun j hj => (e j (by omega)).symm))
    obtain ⟨h1, h2⟩ := h.2 z
    obtain ⟨k1, k2⟩ := k.2 z2
    by_cases q : t = p
    · obtain ⟨a0, a1, a2, a3⟩ := h1 q
      obtain ⟨b0, b1, b2, b3⟩ := k1 q
      rcases Int.lt_trichotomy x y with c | c | c
      · exfalso; have := b3 x.toNat (by omega); rw [← e _ (by omega)] at this; exact a2 this
      · exact c
      · exfalso; have := a3 y.toNat (by omega); rw [e _ (by omega)] at this; exact b2 this
    · exact ((h2 q).cg e).u (k2 q)
def HWL (I' : IT) (b : Nat) (p t D : Int) (f : Nat → Int) (n : Int) : Prop := (∀ k : Nat, (k : Int) ≤ D - n → (I' b k).toInt = ITR p t f n.toNat k) ∧ ∀ i : Nat, (i : Int) < n → ZRR p t D f i
theorem HWL.z {R : RT} {I' I : IT} {l r b c : Nat} {p t D n : Int} (h : FEQ R I' l I r) (zl : rA R l 1 = b) (zr : rA R r 1 = c) (hD : (I r 0).toInt = D) (hn : n = 0) : HWL I' b p t D (fun k => (I c k).toInt) n := by
  subst hn
  refine ⟨fun k hk => ?_, fun i hi => by omega⟩
  have q := h.2 k (by omega)
  rw [zl, zr] at q
  exact q
theorem HWL.v {I' : IT} {b : Nat} {p t t' y x D E n : Int} {f : Nat → Int} (h : HWL I' b p t D f n) (w : PmE p x (HRV t' y (fun k => (I' b k).toInt) (E + 1).toNat)) (ht : t' = t) (hy : y = 1) (hE : E = D - n) (h0 : 0 ≤ n) (hD : n ≤ D) : PmE p x (HRV t 1 (ITR p t f n.toNat) (D.toNat - n.toNat + 1)) := by
  subst ht; subst hy
  rw [show (E + 1).toNat = D.toNat - n.toNat + 1 from by omega] at w
  rwa [HRV.cg _ (fun k hk => h.1 k (by omega))] at w
theorem HWL.s {I1 I2 : IT} {b : Nat} {p t t' y x D E E2 n n' : Int} {f : Nat → Int} (h : HWL I1 b p t D f n) (w : PmE p x (HRV t' y (fun k => (I1 b k).toInt) (E + 1).toNat)) (ht : t' = t) (hy : y = 1) (hE : E = D - n) (h0 : 0 ≤ n) (hD : n < D) (hx : x = 0) (d : ∀ j : Nat, (j : Int) < E2 → (I2 b j).toInt = SYN p t (fun k => (I1 b k).toInt) j) (hE2 : E2 = D - n) (hn : n' = n + 1) : HWL I2 b p t D f n' := by
  have v := h.v w ht hy hE h0 (by omega)
  have en : n'.toNat = n.toNat + 1 := by omega
  refine ⟨fun k hk => ?_, fun i hi => ?_⟩
  · rw [d k (by omega), en]
    exact SYN.cg k (fun j hj => h.1 j (by omega))
  · by_cases q : i = n.toNat
    · subst q; rw [hx] at v; exact v.sy
    · exact h.2 i (by omega)
theorem HWL.b {I' : IT} {b : Nat} {p t D E n : Int} {f : Nat → Int} (h : HWL I' b p t D f n) (hf : ∀ k : Nat, (k : Int) ≤ D → 0 ≤ f k ∧ f k < p) (hp : 0 < p) (h0 : 0 ≤ n) (e : E = D - n) : BNX I' b E p := fun k hk => by
  rw [h.1 k (by omega)]
  exact ITR.b (D := D.toNat) hp (fun j hj => hf j (by omega)) n.toNat k (by omega)
theorem BNX.e18 {I' : IT} {b : Nat} {E p : Int} (h : BNX I' b E p) (hp : p ≤ 19) : ∀ j : Nat, (j : Int) ≤ E → 0 ≤ (I' b j).toInt ∧ (I' b j).toInt ≤ 18 := fun j hj => by have := h j hj; omega
theorem HWL.e1 {I' : IT} {b : Nat} {p t D n : Int} {f : Nat → Int} (h : HWL I' b p t D f n) (h0 : 0 ≤ n) (hn : n = D) : HOW p t D f n := ⟨h0, by omega, h.2, Or.inl hn⟩
theorem HWL.e2 {I' : IT} {b : Nat} {p t t' y x D E n : Int} {f : Nat → Int} (h : HWL I' b p t D f n) (w : PmE p x (HRV t' y (fun k => (I' b k).toInt) (E + 1).toNat)) (ht : t' = t) (hy : y = 1) (hE : E = D - n) (h0 : 0 ≤ n) (hD : n ≤ D) (hb : 0 ≤ x ∧ x < p) (hx : x ≠ 0) : HOW p t D f n := by
  have v := h.v w ht hy hE h0 hD
  refine ⟨h0, hD, h.2, Or.inr (fun z => hx ?_)⟩
  have z : PmE p (HRV t 1 (ITR p t f n.toNat) (D.toNat - n.toNat + 1)) 0 := z
  exact (v.tr z).eq hb.1 hb.2 (Int.le_refl 0) (by omega)
theorem HOF.n {f : Nat → Int} {x y p t D : Int} (h : FSD y D f) (hy : y = -1) (hx : x = 99) : HOF x p t D f := ⟨fun _ => hx, fun q => by
  rcases h with h | h
  · exact absurd h.2 q
  · omega⟩
theorem HOF.p {f : Nat → Int} {y p t D : Int} (h : FSD y D f) (hy : y ≠ -1) (ht : t = p) : HOF y p t D f := ⟨fun z => absurd z (h.nz hy), fun _ => ⟨fun _ => by
  rcases h with h | h
  · exact absurd h.1 hy
  · exact h, fun q => absurd ht q⟩⟩
theorem HOF.h {f : Nat → Int} {x y p t D : Int} (h : FSD y D f) (hy : y ≠ -1) (ht : t ≠ p) (w : HOW p t D f x) : HOF x p t D f := ⟨fun z => absurd z (h.nz hy), fun _ => ⟨fun q => absurd q ht, fun _ => w⟩⟩
/-- bits of the points that are roots -/
noncomputable def RBF (P : Nat → Prop) : Nat → Int32
  | 0 => 0
  | n + 1 => @ite Int32 (P n) (Classical.propDecidable _) (RBF P n ||| (1 <<< (Int32.ofNat n &&& 31))) (RBF P n)
theorem RBF.cg {P Q : Nat → Prop} : ∀ n, (∀ k, k < n → (P k ↔ Q k)) → RBF P n = RBF Q n
  | 0, _ => rfl
  | n + 1, h => by
    have e : P n = Q n := propext (h n (by omega))
    have i := RBF.cg n (fun k hk => h k (by omega))
    show @ite Int32 (P n) (Classical.propDecidable _) (RBF P n ||| (1 <<< (Int32.ofNat n &&& 31))) (RBF P n) = @ite Int32 (Q n) (Classical.propDecidable _) (RBF Q n ||| (1 <<< (Int32.ofNat n &&& 31))) (RBF Q n)
    rw [i, e]
theorem RBF.y {P : Nat → Prop} {n : Nat} (h : P n) : RBF P (n + 1) = RBF P n ||| (1 <<< (Int32.ofNat n &&& 31)) := @if_pos _ (Classical.propDecidable _) h _ _ _
theorem RBF.n {P : Nat → Prop} {n : Nat} (h : ¬ P n) : RBF P (n + 1) = RBF P n := @if_neg _ (Classical.propDecidable _) h _ _ _
/-- the point is a root -/
def ISR (p D : Int) (f : Nat → Int) (t : Nat) : Prop := ∃ x : Int, HOF x p t D f ∧ 0 < x
theorem HOF.cg {x p t D : Int} {f g : Nat → Int} (h : HOF x p t D f) (e : ∀ k : Nat, (k : Int) ≤ D → f k = g k) : HOF x p t D g := ⟨fun z => h.1 (z.cg (fun k hk => (e k (by omega)).symm)), fun z => by
  obtain ⟨h1, h2⟩ := h.2 (fun q => z (q.cg (fun k hk => e k (by omega))))
  refine ⟨fun c => ?_, fun c => (h2 c).cg e⟩
  obtain ⟨a0, a1, a2, a3⟩ := h1 c
  exact ⟨a0, a1, by rw [← e _ (by omega)]; exact a2, a3.cg (fun k hk => e k (by omega))⟩⟩
theorem ISR.cg {p D : Int} {f g : Nat → Int} (e : ∀ k : Nat, (k : Int) ≤ D → f k = g k) {t : Nat} (h : ISR p D f t) : ISR p D g t := by
  obtain ⟨x, h, q⟩ := h
  exact ⟨x, h.cg e, q⟩
theorem HOF.yes {x p t D : Int} {f : Nat → Int} {n : Nat} (h : HOF x p t D f) (ht : t = n) (hx : 0 < x) : ISR p D f n := ⟨x, by rw [← ht]; exact h, hx⟩
theorem HOF.no {x p t D : Int} {f : Nat → Int} {n : Nat} (h : HOF x p t D f) (ht : t = n) (hx : x ≤ 0) : ¬ ISR p D f n := fun ⟨y, g, hy⟩ => by
  rw [ht] at h
  have := h.u g (fun _ _ => rfl)
  omega
theorem shl_n {t : Int32} (h0 : 0 ≤ t.toInt) : t = Int32.ofNat t.toNatClampNeg := by
  apply Int32.toInt_inj.mp
  have h1 := ncz h0
  have h2 := Int32.toInt_lt t
  rw [Int32.toInt_ofNat_of_lt (by omega)]
  omega
/-- roots: the bits of the points ahead of k -/
def RBL (b : Int32) (p D : Int) (f : Nat → Int) (k : Int) : Prop := b = RBF (ISR p D f) k.toNat
theorem RBL.z {b : Int32} {p D k : Int} {f : Nat → Int} (hb : b.toInt = 0) (hk : k = 0) : RBL b p D f k := by
  subst hk
  exact Int32.toInt_inj.mp (hb.trans (show (0 : Int) = (0 : Int32).toInt from rfl))
theorem RBL.y {b s w k one : Int32} {p D k' x : Int} {f : Nat → Int} (h : RBL b p D f k.toInt) (g : HOF x p k.toInt D f) (hx : 0 < x) (h0 : 0 ≤ k.toInt) (h1 : one.toInt = 1) (es : s = one <<< (k &&& 31)) (ew : w = b ||| s) (hk : k' = k.toInt + 1) : RBL w p D f k' := by
  have n0 := ncz h0
  have e1 : one = 1 := Int32.toInt_inj.mp (h1.trans (show (1 : Int) = (1 : Int32).toInt from rfl))
  unfold RBL at *
  rw [show k'.toNat = k.toNatClampNeg + 1 from by omega, RBF.y (g.yes n0.symm hx), ew, es, h, e1, ← shl_n h0]; rfl
theorem RBL.n {b : Int32} {p D k k' x : Int} {f : Nat → Int} (h : RBL b p D f k) (g : HOF x p k D f) (hx : x ≤ 0) (h0 : 0 ≤ k) (hk : k' = k + 1) : RBL b p D f k' := by
  unfold RBL at *
  rw [show k'.toNat = k.toNat + 1 from by omega, RBF.n (g.no (n := k.toNat) (by omega) hx)]; exact h
theorem RBL.c {b w : Int32} {p D k : Int} {f : Nat → Int} (h : RBL b p D f k) (e : w = b) : RBL w p D f k := by subst e; exact h
theorem RBL.u {b c : Int32} {p D : Int} {f g : Nat → Int} {k : Int} (h : RBL b p D f k) (h2 : RBL c p D g k) (e : ∀ k : Nat, (k : Int) ≤ D → f k = g k) : b = c := by
  unfold RBL at *
  rw [h, h2]
  exact RBF.cg _ (fun k _ => ⟨ISR.cg e, ISR.cg (fun j hj => (e j hj).symm)⟩)
/-- empty: some point is a root more often than half the degree -/
def EMD (p D : Int) (f : Nat → Int) (t : Nat) : Prop := ∃ x : Int, HOF x p t D f ∧ D < 2 * x
def EMA (p D : Int) (f : Nat → Int) : Prop := ∃ t : Nat, (t : Int) ≤ p ∧ EMD p D f t
def EML (p D : Int) (f : Nat → Int) (k : Int) : Prop := ∀ t : Nat, (t : Int) < k → ¬ EMD p D f t
theorem EML.z {p D k : Int} {f : Nat → Int} (h : k = 0) : EML p D f k := fun t ht => by omega
theorem EML.s {p D k k' x : Int} {f : Nat → Int} (h : EML p D f k) (g : HOF x p k D f) (hx : ¬ D < 2 * x) (h0 : 0 ≤ k) (hk : k' = k + 1) : EML p D f k' := fun t ht => by
  by_cases q : (t : Int) = k
  · rintro ⟨y, g2, hy⟩
    rw [q] at g2
    have := g.u g2 (fun _ _ => rfl)
    omega
  · exact h t (by omega)
theorem EML.n {p D k y : Int} {f : Nat → Int} (h : EML p D f k) (hk : p < k) (hy : y = 0) : IFF y (EMA p D f) := ⟨fun q => by omega, fun _ ⟨t, ht, q⟩ => h t (by omega) q⟩
theorem EMA.y {p D k x y : Int} {f : Nat → Int} (g : HOF x p k D f) (hx : D < 2 * x) (h0 : 0 ≤ k) (hk : k ≤ p) (hy : y = 1) : IFF y (EMA p D f) := ⟨fun _ => ⟨k.toNat, by omega, x, by rw [show ((k.toNat : Nat) : Int) = k from by omega]; exact g, hx⟩, fun q => by omega⟩
theorem EMA.cg {p D : Int} {f g : Nat → Int} (e : ∀ k : Nat, (k : Int) ≤ D → f k = g k) (h : EMA p D f) : EMA p D g := by
  obtain ⟨t, ht, x, q, hx⟩ := h
  exact ⟨t, ht, x, q.cg e, hx⟩
theorem BNX.mv {R : RT} {I I' : IT} {f f' : Nat} {p p' : Int} (h : BNX I (rA R f' 1) (I f' 0).toInt p) (e : f' = f) (e1 : I' f = I f) (e2 : I' (rA R f 1) = I (rA R f 1)) (ep : p' = p) : BNX I' (rA R f 1) (I' f 0).toInt p' := by
  subst e; subst ep; rw [e1]; exact BNX.eq h e2
theorem HOF.mv {R : RT} {I I' : IT} {x p p' t : Int} {f f' b : Nat} (h : HOF x p' t (I' f 0).toInt (fun k => (I' b k).toInt)) (z : rA R f 1 = b) (ep : p' = p) (e : f' = f) (e1 : I' f = I f) (e2 : I' (rA R f 1) = I (rA R f 1)) : HOF x p t (I f' 0).toInt (fun k => (I (rA R f' 1) k).toInt) := by
  subst e; subst ep; subst z
  rw [e1, e2] at h; exact h
section AutoR
variable {d : Nat} {q : mm_T} {mc ms : Nat} {Post : Po} {V : V_T} {pc pc2 : Nat} {lv : List (Nat × Value)} {r : List Value} {ck sk : Nat}
end AutoR
theorem s_X2_first_x {d : Nat} {T N : Nat → Nat} {I : IT} {L : LT} {R : RT} {A B : Nat → Prop} {r0 : Nat} (hS : SUB B A) (hI : IX A T I) (H_r0 : (hs_F T N R A B) r0) : Ex (d + 2) 23 [.ref r0] (T, N, I, L, R) 0 0 (pI T N R (fun x9 I9 L9 => (-1 ≤ x9.toInt) ∧ (x9.toInt ≤ 40) ∧ (x9.toInt ≤ (I r0 0).toInt) ∧ (FSD x9.toInt (I r0 0).toInt (fun k => (I (rA R r0 1) k).toInt)) ∧ (I = I9 ∧ L = L9))) := by
  refine ⟨_, rfl, Nat.le_of_ble_eq_true rfl, fun V C S => ?_⟩
  show V 0 [(0, .ref r0)] [] (T, N, I, L, R) 0 0
  obtain ⟨T_r0, A_r0, ⟨r0_1, R_r0_1, H_r0_1⟩⟩ := id H_r0
  have z_r0_1 : rA R r0 1 = r0_1 := rA_e R_r0_1
  obtain ⟨w_r0_0, k0_r0_0⟩ : ∃ x, I r0 0 = x := ⟨_, rfl⟩
  have gw_r0_0 := rg w_r0_0
  have ow_r0_0 := IX.deg hI A_r0 T_r0 k0_r0_0
  refine z_iconst C (z := 0) rfl rfl rfl (fun x1 ex1 => ?_)
  have J2 : ∀ (nn3 : Nat) (x4 : Int32), (MN (41 - x4.toInt) nn3) → (0 ≤ x4.toInt) → (x4.toInt ≤ 41) → (ZRL (fun j => (I r0_1 j).toInt) x4.toInt) → V 2 [(0, .ref r0), (1, .int x4)] [] (T, N, I, L, R) 0 0 := by
    intro nn3
    induction nn3 using Nat.strongRecOn with
    | _ nn3 ihJ2 =>
      intro x4 hmnn3 b5 b6 ff2_0
      have gx4 := rg x4
      refine k_iload_n C rfl rfl rfl ?_
      refine k_aload_n C rfl rfl rfl ?_
      refine g_I C rfl rfl rfl T_r0 rfl k0_r0_0 ?_
      refine b_icmp_gt C (t := 26) rfl rfl rfl (fun c8 => ?_) (fun c8 => ?_)
      · skip
        refine z_iconst C (z := -1) rfl rfl rfl (fun x9 ex9 => ?_)
        exact k_iret C rfl (Or.inl rfl) (Nat.le_of_ble_eq_true rfl) (Nat.le_of_ble_eq_true rfl) ⟨_, _, _, rfl, rfl, by omega, by omega, by (try simp only [z_r0_1]); simp only [k0_r0_0]; omega, by (try simp only [z_r0_1]); simp only [k0_r0_0]; exact FSD.n ff2_0 (by omega) (by omega), rfl, rfl⟩
      refine k_aload_n C rfl rfl rfl ?_
      refine k_iload_n C rfl rfl rfl ?_
      refine c_VI C (s_X2_get_x hS hI H_r0) rfl rfl rfl rfl rfl ⟨_, rfl, rfl, T_r0, Nat.le_of_ble_eq_true rfl⟩ rfl rfl (Nat.le_of_ble_eq_true rfl) (Nat.le_of_ble_eq_true rfl) (Nat.le_of_ble_eq_true rfl) ?_
      rintro x10 _ _ ⟨p0x10, rfl, rfl⟩
      have gx10 := rg x10
      try simp only [z_r0_1] at p0x10
      try simp only [k0_r0_0] at p0x10
      try have q0x10 := congrArg Int32.toInt p0x10
      have hg := p0x10; (try simp only [k0_r0_0] at hg)
      refine b_if_eq C (t := 20) rfl rfl rfl (fun c11 => ?_) (fun c11 => ?_)
      · skip
        refine z_iinc C (z := 1) (lw := fun x12 => [(1, .int x12), (0, .ref r0)]) rfl rfl rfl (Nat.le_of_ble_eq_true rfl) rfl ⟨by omega, by omega⟩ (fun _ => rfl) (fun x12 ex12 => ?_)
        show V 23 [(1, .int x12), (0, .ref r0)] _ _ _ _
        refine k_goto C (pc2 := 2) rfl rfl ?_
        refine k_sub S [(0, .ref r0), (1, .int x12)] (List.forall_mem_cons.mpr ⟨List.mem_of_getElem? (i := 1) rfl, List.forall_mem_cons.mpr ⟨List.mem_of_getElem? (i := 0) rfl, fun _ h => nomatch h⟩⟩) ?_
        exact ihJ2 _ (MN.lt hmnn3 (by omega) (by omega)) x12 rfl (by omega) (by omega) (by exact ZRL.s ff2_0 hg (by omega) (by omega) (by omega) (by omega))
      refine k_iload_n C rfl rfl rfl ?_
      exact k_iret C rfl (Or.inl rfl) (Nat.le_of_ble_eq_true rfl) (Nat.le_of_ble_eq_true rfl) ⟨_, _, _, rfl, rfl, by omega, by omega, by (try simp only [z_r0_1]); simp only [k0_r0_0]; omega, by (try simp only [z_r0_1]); simp only [k0_r0_0]; exact FSD.y ff2_0 hg (by omega) (by omega) (by omega), rfl, rfl⟩
  refine k_istore_n C (lw := [(1, .int x1), (0, .ref r0)]) rfl rfl (Nat.le_of_ble_eq_true rfl) rfl ?_
  refine k_sub S [(0, .ref r0), (1, .int x1)] (List.forall_mem_cons.mpr ⟨List.mem_of_getElem? (i := 1) rfl, List.forall_mem_cons.mpr ⟨List.mem_of_getElem? (i := 0) rfl, fun _ h => nomatch h⟩⟩) ?_
  exact J2 _ x1 rfl (by omega) (by omega) (by exact ZRL.z (by omega))

