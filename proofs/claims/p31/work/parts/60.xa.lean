/-! roots: exactly -/
/-- two addresses apart (hidden from omega) -/
def NQ9 (a b : Nat) : Prop := a ≠ b
/-- zeros ahead; the first number that is not nought -/
def ZRL (f : Nat → Int) (n : Int) : Prop := ∀ j : Nat, (j : Int) < n → f j = 0
theorem ZRL.z {f : Nat → Int} {n : Int} (h : n = 0) : ZRL f n := fun j hj => by omega
theorem ZRL.s {f : Nat → Int} {x k k' : Int32} {D : Int} (h : ZRL f k.toInt) (g : GTD x.toInt D f k.toInt) (e : x.toInt = 0) (h0 : 0 ≤ k.toInt) (h1 : k.toInt ≤ D) (hk : k'.toInt = k.toInt + 1) : ZRL f k'.toInt := fun j hj => by
  have n0 := ncz h0
  by_cases q : j = k.toNatClampNeg
  · subst q
    have a : x.toInt = f k.toNatClampNeg := g.i h0 h1
    omega
  · exact h j (by omega)
theorem ZRL.cg {f g : Nat → Int} {n : Int} (h : ZRL f n) (e : ∀ k : Nat, (k : Int) < n → f k = g k) : ZRL g n := fun j hj => (e j hj).symm.trans (h j hj)
def FSD (x D : Int) (f : Nat → Int) : Prop := (x = -1 ∧ ZRL f (D + 1)) ∨ (0 ≤ x ∧ x ≤ D ∧ f x.toNat ≠ 0 ∧ ZRL f x)
theorem FSD.y {f : Nat → Int} {a k : Int32} {D : Int} (h : ZRL f k.toInt) (g : GTD a.toInt D f k.toInt) (e : a.toInt ≠ 0) (h0 : 0 ≤ k.toInt) (h1 : k.toInt ≤ D) : FSD k.toInt D f := Or.inr ⟨h0, h1, fun q => e ((g.1 h0 h1).trans q), h⟩
theorem FSD.n {f : Nat → Int} {x k D : Int} (h : ZRL f k) (hk : D < k) (hx : x = -1) : FSD x D f := Or.inl ⟨hx, fun j hj => h j (by omega)⟩
theorem FSD.nz {f : Nat → Int} {x D : Int} (h : FSD x D f) (hx : x ≠ -1) : ¬ ZRL f (D + 1) := fun z => by
  rcases h with h | h
  · exact hx h.1
  · exact h.2.2.1 (z x.toNat (by omega))
/-- divided by a root -/
def SYN (p t : Int) (f : Nat → Int) : Nat → Int
  | 0 => f 0
  | k + 1 => (f (k + 1) + SYN p t f k * t) % p
theorem SYN.cg {p t : Int} {f g : Nat → Int} : ∀ k, (∀ j, j ≤ k → f j = g j) → SYN p t f k = SYN p t g k
  | 0, h => h 0 (Nat.le_refl _)
  | k + 1, h => by
    show (f (k + 1) + SYN p t f k * t) % p = (g (k + 1) + SYN p t g k * t) % p
    rw [h (k + 1) (Nat.le_refl _), SYN.cg k (fun j hj => h j (by omega))]
theorem SYN.b {p t : Int} {f : Nat → Int} (hp : 0 < p) (h : 0 ≤ f 0 ∧ f 0 < p) : ∀ k, 0 ≤ SYN p t f k ∧ SYN p t f k < p
  | 0 => h
  | _ + 1 => ⟨Int.emod_nonneg _ (by omega), Int.emod_lt_of_pos _ hp⟩
def DRL (I' I : IT) (b : Nat) (p t k : Int) : Prop := (∀ j : Nat, (j : Int) < k → (I' b j).toInt = SYN p t (fun j => (I b j).toInt) j) ∧ ∀ j : Nat, k ≤ (j : Int) → I' b j = I b j
theorem DRL.z {I : IT} {b : Nat} {p t k : Int} (h : k = 1) : DRL I I b p t k := by
  refine ⟨fun j hj => ?_, fun _ _ => rfl⟩
  have q : j = 0 := by omega
  subst q; rfl
theorem DRL.s {I I1 I2 : IT} {b : Nat} {p D D1 D2 : Int} {t a c m s k k1 k' o : Int32} {l : Int64} (h : DRL I1 I b p t.toInt k.toInt) (hb : BNX I b D p) (ga : GTD a.toInt D1 (fun j => (I1 b j).toInt) k.toInt) (gc : GTD c.toInt D2 (fun j => (I1 b j).toInt) k1.toInt) (mm : MXD m c t) (ad : ADX s a m) (hl : l.toInt = s.toInt) (ho : o.toInt = l.toInt % p) (st : STD I1 I2 b k o) (hp : 0 < p ∧ p ≤ 19) (ht : 0 ≤ t.toInt ∧ t.toInt ≤ 18) (h1 : 1 ≤ k.toInt) (hD : k.toInt ≤ D) (hD1 : k.toInt ≤ D1) (hD2 : k.toInt ≤ D2) (h40 : k.toInt < 41) (e1 : k1.toInt = k.toInt - 1) (hk : k'.toInt = k.toInt + 1) : DRL I2 I b p t.toInt k'.toInt := by
  have n0 := ncz (x := k) (by omega)
  have n1 := ncz (x := k1) (by omega)
  have va : a.toInt = (I b k.toNatClampNeg).toInt := by
    have q : a.toInt = (I1 b k.toNatClampNeg).toInt := ga.i (by omega) hD1
    rw [q, h.2 _ (by omega)]
  have vc : c.toInt = SYN p t.toInt (fun j => (I b j).toInt) k1.toNatClampNeg := by
    have q : c.toInt = (I1 b k1.toNatClampNeg).toInt := gc.i (by omega) (by omega)
    rw [q]; exact h.1 _ (by omega)
  have ba := hb k.toNatClampNeg (by omega)
  have bc := SYN.b (t := t.toInt) (f := fun j => (I b j).toInt) hp.1 (hb 0 (by omega)) k1.toNatClampNeg
  have q1 := mm (by omega) (by omega) (by omega) (by omega)
  have r1 := mul_ab (u := c.toInt) (v := t.toInt) (by omega) (by omega) (by omega) (by omega)
  have q2 := ad (by omega) (by omega)
  have ek : k.toNatClampNeg = k1.toNatClampNeg + 1 := by omega
  have vo : o.toInt = SYN p t.toInt (fun j => (I b j).toInt) k.toNatClampNeg := by
    rw [ek]
    show o.toInt = ((I b (k1.toNatClampNeg + 1)).toInt + SYN p t.toInt (fun j => (I b j).toInt) k1.toNatClampNeg * t.toInt) % p
    rw [ho, hl, q2, q1, va, vc, ek]
  have e2 := st.1 (by omega) h40
  refine ⟨fun j hj => ?_, fun j hj => ?_⟩
  · rw [e2]
    by_cases q : j = k.toNatClampNeg
    · subst q; rw [u2_s]; exact vo
    · rw [u2_k q]; exact h.1 j (by omega)
  · rw [e2, u2_k (by omega)]; exact h.2 j (by omega)
/-- divided by it n times -/
def ITR (p t : Int) (f : Nat → Int) : Nat → Nat → Int
  | 0 => f
  | n + 1 => SYN p t (ITR p t f n)
theorem ITR.b {p t : Int} {f : Nat → Int} {D : Nat} (hp : 0 < p) (h : ∀ k, k ≤ D → 0 ≤ f k ∧ f k < p) : ∀ n k, k ≤ D → 0 ≤ ITR p t f n k ∧ ITR p t f n k < p
  | 0, k, hk => h k hk
  | n + 1, k, _ => SYN.b hp (ITR.b hp h n 0 (Nat.zero_le _)) k
theorem ITR.cg {p t : Int} {f g : Nat → Int} {D : Nat} (h : ∀ k, k ≤ D → f k = g k) : ∀ n k, k ≤ D → ITR p t f n k = ITR p t g n k
  | 0, k, hk => h k hk
  | n + 1, k, hk => SYN.cg k (fun j hj => ITR.cg h n j (by omega))
theorem HRV.cg {x y : Int} {f g : Nat → Int} : ∀ n, (∀ k, k < n → f k = g k) → HRV x y f n = HRV x y g n
  | 0, _ => rfl
  | n + 1, h => by
    show HRV x y f n * x + f n * POW y n = HRV x y g n * x + g n * POW y n
    rw [HRV.cg n (fun k hk => h k (by omega)), h n (by omega)]
def ZRR (p t D : Int) (f : Nat → Int) (i : Nat) : Prop := PmE p (HRV t 1 (ITR p t f i) (D.toNat - i + 1)) 0
/-- how often a point is a root -/
def HOW (p t D : Int) (f : Nat → Int) (n : Int) : Prop := 0 ≤ n ∧ n ≤ D ∧ (∀ i : Nat, (i : Int) < n → ZRR p t D f i) ∧ (n = D ∨ ¬ ZRR p t D f n.toNat)
theorem HOW.u {p t D n m : Int} {f : Nat → Int} (h : HOW p t D f n) (g : HOW p t D f m) : n = m := by
  obtain ⟨h0, h1, h2, h3⟩ := h
  obtain ⟨g0, g1, g2, g3⟩ := g
  rcases Int.lt_trichotomy n m with q | q | q
  · rcases h3 with h3 | h3
    · omega
    · exact absurd (g2 n.toNat (by omega)) h3
  · exact q
  · rcases g3 with g3 | g3
    · omega
    · exact absurd (h2 m.toNat (by omega)) g3
theorem ZRR.cg {p t D : Int} {f g : Nat → Int} (h : ∀ k : Nat, (k : Int) ≤ D → f k = g k) (i : Nat) (hi : (i : Int) ≤ D) : ZRR p t D f i ↔ ZRR p t D g i := by
  unfold ZRR
  rw [HRV.cg (D.toNat - i + 1) (fun k hk => ITR.cg (D := D.toNat) (fun j hj => h j (by omega)) i k (by omega))]
theorem HOW.cg {p t D n : Int} {f g : Nat → Int} (h : HOW p t D f n) (e : ∀ k : Nat, (k : Int) ≤ D → f k = g k) : HOW p t D g n :=
  ⟨h.1, h.2.1, fun i hi => (ZRR.cg e i (by have := h.2.1; omega)).mp (h.2.2.1 i hi), h.2.2.2.imp id (fun q z => q ((ZRR.cg e _ (by have := h.1; have := h.2.1; omega)).mpr z))⟩
def HOF (x p t D : Int) (f : Nat → Int) : Prop := (ZRL f (D + 1) → x = 99) ∧ (¬ ZRL f (D + 1) → (t = p → 0 ≤ x ∧ x ≤ D ∧ f x.toNat ≠ 0 ∧ ZRL f x) ∧ (t ≠ p → HOW p t D f x))
theorem HOF.u {x y p t D : Int} {f g : Nat → Int} (h : HOF x p t D f) (k : HOF y p t D g) (e : ∀ k : Nat, (k : Int) ≤ D → f k = g k) : x = y := by
  by_cases z : ZRL f (D + 1)
  · rw [h.1 z, k.1 (z.cg (fun j hj => e j (by omega)))]
  · have z2 : ¬ ZRL g (D + 1) := fun q => z (q.cg (fun j hj => (e j (by omega)).symm))
    obtain ⟨h1, h2⟩ := h.2 z
    obtain ⟨k1, k2⟩ := k.2 z2
    by_cases q : t = p
    · obtain ⟨a0, a1, a2, a3⟩ := h1 q
      obtain ⟨b0, b1, b2, b3⟩ := k1 q
      rcases Int.lt_trichotomy x y with c | c | c
      · exfalso; have := b3 x.toNat (by omega); rw [← e _ (by omega)] at this; exact a2 this
      · exact c
      · exfalso; have := a3 y.toNat (by omega); rw [e _ (by omega)] at this; exact b2 this
    · exact ((h2 q).cg e).u (k2 q)
def HWL (I' : IT) (b : Nat) (p t D : Int) (f : Nat → Int) (n : Int) : Prop := (∀ k : Nat, (k : Int) ≤ D - n → (I' b k).toInt = ITR p t f n.toNat k) ∧ ∀ i : Nat, (i : Int) < n → ZRR p t D f i
theorem HWL.z {R : RT} {I' I : IT} {l r b c : Nat} {p t D n : Int} (h : FEQ R I' l I r) (zl : rA R l 1 = b) (zr : rA R r 1 = c) (hD : (I r 0).toInt = D) (hn : n = 0) : HWL I' b p t D (fun k => (I c k).toInt) n := by
  subst hn
  refine ⟨fun k hk => ?_, fun i hi => by omega⟩
  have q := h.2 k (by omega)
  rw [zl, zr] at q
  exact q
theorem HWL.v {I' : IT} {b : Nat} {p t t' y x D E n : Int} {f : Nat → Int} (h : HWL I' b p t D f n) (w : PmE p x (HRV t' y (fun k => (I' b k).toInt) (E + 1).toNat)) (ht : t' = t) (hy : y = 1) (hE : E = D - n) (h0 : 0 ≤ n) (hD : n ≤ D) : PmE p x (HRV t 1 (ITR p t f n.toNat) (D.toNat - n.toNat + 1)) := by
  subst ht; subst hy
  rw [show (E + 1).toNat = D.toNat - n.toNat + 1 from by omega] at w
  rwa [HRV.cg _ (fun k hk => h.1 k (by omega))] at w
theorem HWL.s {I1 I2 : IT} {b : Nat} {p t t' y x D E E2 n n' : Int} {f : Nat → Int} (h : HWL I1 b p t D f n) (w : PmE p x (HRV t' y (fun k => (I1 b k).toInt) (E + 1).toNat)) (ht : t' = t) (hy : y = 1) (hE : E = D - n) (h0 : 0 ≤ n) (hD : n < D) (hx : x = 0) (d : ∀ j : Nat, (j : Int) < E2 → (I2 b j).toInt = SYN p t (fun k => (I1 b k).toInt) j) (hE2 : E2 = D - n) (hn : n' = n + 1) : HWL I2 b p t D f n' := by
  have v := h.v w ht hy hE h0 (by omega)
  have en : n'.toNat = n.toNat + 1 := by omega
  refine ⟨fun k hk => ?_, fun i hi => ?_⟩
  · rw [d k (by omega), en]
    exact SYN.cg k (fun j hj => h.1 j (by omega))
  · by_cases q : i = n.toNat
    · subst q; rw [hx] at v; exact v.sy
    · exact h.2 i (by omega)
theorem HWL.b {I' : IT} {b : Nat} {p t D E n : Int} {f : Nat → Int} (h : HWL I' b p t D f n) (hf : ∀ k : Nat, (k : Int) ≤ D → 0 ≤ f k ∧ f k < p) (hp : 0 < p) (h0 : 0 ≤ n) (e : E = D - n) : BNX I' b E p := fun k hk => by
  rw [h.1 k (by omega)]
  exact ITR.b (D := D.toNat) hp (fun j hj => hf j (by omega)) n.toNat k (by omega)
theorem BNX.e18 {I' : IT} {b : Nat} {E p : Int} (h : BNX I' b E p) (hp : p ≤ 19) : ∀ j : Nat, (j : Int) ≤ E → 0 ≤ (I' b j).toInt ∧ (I' b j).toInt ≤ 18 := fun j hj => by have := h j hj; omega
theorem HWL.e1 {I' : IT} {b : Nat} {p t D n : Int} {f : Nat → Int} (h : HWL I' b p t D f n) (h0 : 0 ≤ n) (hn : n = D) : HOW p t D f n := ⟨h0, by omega, h.2, Or.inl hn⟩
theorem HWL.e2 {I' : IT} {b : Nat} {p t t' y x D E n : Int} {f : Nat → Int} (h : HWL I' b p t D f n) (w : PmE p x (HRV t' y (fun k => (I' b k).toInt) (E + 1).toNat)) (ht : t' = t) (hy : y = 1) (hE : E = D - n) (h0 : 0 ≤ n) (hD : n ≤ D) (hb : 0 ≤ x ∧ x < p) (hx : x ≠ 0) : HOW p t D f n := by
  have v := h.v w ht hy hE h0 hD
  refine ⟨h0, hD, h.2, Or.inr (fun z => hx ?_)⟩
  have z : PmE p (HRV t 1 (ITR p t f n.toNat) (D.toNat - n.toNat + 1)) 0 := z
  exact (v.tr z).eq hb.1 hb.2 (Int.le_refl 0) (by omega)
theorem HOF.n {f : Nat → Int} {x y p t D : Int} (h : FSD y D f) (hy : y = -1) (hx : x = 99) : HOF x p t D f := ⟨fun _ => hx, fun q => by
  rcases h with h | h
  · exact absurd h.2 q
  · omega⟩
theorem HOF.p {f : Nat → Int} {y p t D : Int} (h : FSD y D f) (hy : y ≠ -1) (ht : t = p) : HOF y p t D f := ⟨fun z => absurd z (h.nz hy), fun _ => ⟨fun _ => by
  rcases h with h | h
  · exact absurd h.1 hy
  · exact h, fun q => absurd ht q⟩⟩
theorem HOF.h {f : Nat → Int} {x y p t D : Int} (h : FSD y D f) (hy : y ≠ -1) (ht : t ≠ p) (w : HOW p t D f x) : HOF x p t D f := ⟨fun z => absurd z (h.nz hy), fun _ => ⟨fun q => absurd q ht, fun _ => w⟩⟩
/-- bits of the points that are roots -/
noncomputable def RBF (P : Nat → Prop) : Nat → Int32
  | 0 => 0
  | n + 1 => @ite Int32 (P n) (Classical.propDecidable _) (RBF P n ||| (1 <<< (Int32.ofNat n &&& 31))) (RBF P n)
theorem RBF.cg {P Q : Nat → Prop} : ∀ n, (∀ k, k < n → (P k ↔ Q k)) → RBF P n = RBF Q n
  | 0, _ => rfl
  | n + 1, h => by
    have e : P n = Q n := propext (h n (by omega))
    have i := RBF.cg n (fun k hk => h k (by omega))
    show @ite Int32 (P n) (Classical.propDecidable _) (RBF P n ||| (1 <<< (Int32.ofNat n &&& 31))) (RBF P n) = @ite Int32 (Q n) (Classical.propDecidable _) (RBF Q n ||| (1 <<< (Int32.ofNat n &&& 31))) (RBF Q n)
    rw [i, e]
theorem RBF.y {P : Nat → Prop} {n : Nat} (h : P n) : RBF P (n + 1) = RBF P n ||| (1 <<< (Int32.ofNat n &&& 31)) := @if_pos _ (Classical.propDecidable _) h _ _ _
theorem RBF.n {P : Nat → Prop} {n : Nat} (h : ¬ P n) : RBF P (n + 1) = RBF P n := @if_neg _ (Classical.propDecidable _) h _ _ _
/-- the point is a root -/
def ISR (p D : Int) (f : Nat → Int) (t : Nat) : Prop := ∃ x : Int, HOF x p t D f ∧ 0 < x
theorem HOF.cg {x p t D : Int} {f g : Nat → Int} (h : HOF x p t D f) (e : ∀ k : Nat, (k : Int) ≤ D → f k = g k) : HOF x p t D g := ⟨fun z => h.1 (z.cg (fun k hk => (e k (by omega)).symm)), fun z => by
  obtain ⟨h1, h2⟩ := h.2 (fun q => z (q.cg (fun k hk => e k (by omega))))
  refine ⟨fun c => ?_, fun c => (h2 c).cg e⟩
  obtain ⟨a0, a1, a2, a3⟩ := h1 c
  exact ⟨a0, a1, by rw [← e _ (by omega)]; exact a2, a3.cg (fun k hk => e k (by omega))⟩⟩
theorem ISR.cg {p D : Int} {f g : Nat → Int} (e : ∀ k : Nat, (k : Int) ≤ D → f k = g k) {t : Nat} (h : ISR p D f t) : ISR p D g t := by
  obtain ⟨x, h, q⟩ := h
  exact ⟨x, h.cg e, q⟩
theorem HOF.yes {x p t D : Int} {f : Nat → Int} {n : Nat} (h : HOF x p t D f) (ht : t = n) (hx : 0 < x) : ISR p D f n := ⟨x, by rw [← ht]; exact h, hx⟩
theorem HOF.no {x p t D : Int} {f : Nat → Int} {n : Nat} (h : HOF x p t D f) (ht : t = n) (hx : x ≤ 0) : ¬ ISR p D f n := fun ⟨y, g, hy⟩ => by
  rw [ht] at h
  have := h.u g (fun _ _ => rfl)
  omega
theorem shl_n {t : Int32} (h0 : 0 ≤ t.toInt) : t = Int32.ofNat t.toNatClampNeg := by
  apply Int32.toInt_inj.mp
  have h1 := ncz h0
  have h2 := Int32.toInt_lt t
  rw [Int32.toInt_ofNat_of_lt (by omega)]
  omega
/-- roots: the bits of the points ahead of k -/
def RBL (b : Int32) (p D : Int) (f : Nat → Int) (k : Int) : Prop := b = RBF (ISR p D f) k.toNat
theorem RBL.z {b : Int32} {p D k : Int} {f : Nat → Int} (hb : b.toInt = 0) (hk : k = 0) : RBL b p D f k := by
  subst hk
  exact Int32.toInt_inj.mp (hb.trans (show (0 : Int) = (0 : Int32).toInt from rfl))
theorem RBL.y {b s w k one : Int32} {p D k' x : Int} {f : Nat → Int} (h : RBL b p D f k.toInt) (g : HOF x p k.toInt D f) (hx : 0 < x) (h0 : 0 ≤ k.toInt) (h1 : one.toInt = 1) (es : s = one <<< (k &&& 31)) (ew : w = b ||| s) (hk : k' = k.toInt + 1) : RBL w p D f k' := by
  have n0 := ncz h0
  have e1 : one = 1 := Int32.toInt_inj.mp (h1.trans (show (1 : Int) = (1 : Int32).toInt from rfl))
  unfold RBL at *
  rw [show k'.toNat = k.toNatClampNeg + 1 from by omega, RBF.y (g.yes n0.symm hx), ew, es, h, e1, ← shl_n h0]; rfl
theorem RBL.n {b : Int32} {p D k k' x : Int} {f : Nat → Int} (h : RBL b p D f k) (g : HOF x p k D f) (hx : x ≤ 0) (h0 : 0 ≤ k) (hk : k' = k + 1) : RBL b p D f k' := by
  unfold RBL at *
  rw [show k'.toNat = k.toNat + 1 from by omega, RBF.n (g.no (n := k.toNat) (by omega) hx)]; exact h
theorem RBL.c {b w : Int32} {p D k : Int} {f : Nat → Int} (h : RBL b p D f k) (e : w = b) : RBL w p D f k := by subst e; exact h
theorem RBL.u {b c : Int32} {p D : Int} {f g : Nat → Int} {k : Int} (h : RBL b p D f k) (h2 : RBL c p D g k) (e : ∀ k : Nat, (k : Int) ≤ D → f k = g k) : b = c := by
  unfold RBL at *
  rw [h, h2]
  exact RBF.cg _ (fun k _ => ⟨ISR.cg e, ISR.cg (fun j hj => (e j hj).symm)⟩)
/-- empty: some point is a root more often than half the degree -/
def EMD (p D : Int) (f : Nat → Int) (t : Nat) : Prop := ∃ x : Int, HOF x p t D f ∧ D < 2 * x
def EMA (p D : Int) (f : Nat → Int) : Prop := ∃ t : Nat, (t : Int) ≤ p ∧ EMD p D f t
def EML (p D : Int) (f : Nat → Int) (k : Int) : Prop := ∀ t : Nat, (t : Int) < k → ¬ EMD p D f t
theorem EML.z {p D k : Int} {f : Nat → Int} (h : k = 0) : EML p D f k := fun t ht => by omega
theorem EML.s {p D k k' x : Int} {f : Nat → Int} (h : EML p D f k) (g : HOF x p k D f) (hx : ¬ D < 2 * x) (h0 : 0 ≤ k) (hk : k' = k + 1) : EML p D f k' := fun t ht => by
  by_cases q : (t : Int) = k
  · rintro ⟨y, g2, hy⟩
    rw [q] at g2
    have := g.u g2 (fun _ _ => rfl)
    omega
  · exact h t (by omega)
theorem EML.n {p D k y : Int} {f : Nat → Int} (h : EML p D f k) (hk : p < k) (hy : y = 0) : IFF y (EMA p D f) := ⟨fun q => by omega, fun _ ⟨t, ht, q⟩ => h t (by omega) q⟩
theorem EMA.y {p D k x y : Int} {f : Nat → Int} (g : HOF x p k D f) (hx : D < 2 * x) (h0 : 0 ≤ k) (hk : k ≤ p) (hy : y = 1) : IFF y (EMA p D f) := ⟨fun _ => ⟨k.toNat, by omega, x, by rw [show ((k.toNat : Nat) : Int) = k from by omega]; exact g, hx⟩, fun q => by omega⟩
theorem EMA.cg {p D : Int} {f g : Nat → Int} (e : ∀ k : Nat, (k : Int) ≤ D → f k = g k) (h : EMA p D f) : EMA p D g := by
  obtain ⟨t, ht, x, q, hx⟩ := h
  exact ⟨t, ht, x, q.cg e, hx⟩
theorem BNX.mv {R : RT} {I I' : IT} {f f' : Nat} {p p' : Int} (h : BNX I (rA R f' 1) (I f' 0).toInt p) (e : f' = f) (e1 : I' f = I f) (e2 : I' (rA R f 1) = I (rA R f 1)) (ep : p' = p) : BNX I' (rA R f 1) (I' f 0).toInt p' := by
  subst e; subst ep; rw [e1]; exact BNX.eq h e2
theorem HOF.mv {R : RT} {I I' : IT} {x p p' t : Int} {f f' b : Nat} (h : HOF x p' t (I' f 0).toInt (fun k => (I' b k).toInt)) (z : rA R f 1 = b) (ep : p' = p) (e : f' = f) (e1 : I' f = I f) (e2 : I' (rA R f 1) = I (rA R f 1)) : HOF x p t (I f' 0).toInt (fun k => (I (rA R f' 1) k).toInt) := by
  subst e; subst ep; subst z
  rw [e1, e2] at h; exact h
section AutoR
variable {d : Nat} {q : mm_T} {mc ms : Nat} {Post : Po} {V : V_T} {pc pc2 : Nat} {lv : List (Nat × Value)} {r : List Value} {ck sk : Nat}
theorem z_iorE (C : Cl d q mc ms Post V) {M : Mm} {x y : Int32} (hi : cdf q.2.2.2.2.2.2 pc = some (.ior, 1)) (hp : pc + 1 = pc2) (h : ∀ w : Int32, w = x ||| y → V pc2 lv (.int w :: r) M ck sk) : V pc lv (.int y :: .int x :: r) M ck sk := k_ior C hi hp (h _ rfl)
theorem z_ishlE (C : Cl d q mc ms Post V) {M : Mm} {x y : Int32} (hi : cdf q.2.2.2.2.2.2 pc = some (.ishl, 1)) (hp : pc + 1 = pc2) (h : ∀ w : Int32, w = x <<< (y &&& 31) → V pc2 lv (.int w :: r) M ck sk) : V pc lv (.int y :: .int x :: r) M ck sk := k_ishl C hi hp (h _ rfl)
end AutoR
theorem s_X2_first_x {d : Nat} {T N : Nat → Nat} {I : IT} {L : LT} {R : RT} {A B : Nat → Prop} {r0 : Nat} (hS : SUB B A) (hI : IX A T I) (H_r0 : (hs_F T N R A B) r0) : Ex (d + 2) 23 [.ref r0] (T, N, I, L, R) 0 0 (pI T N R (fun x9 I9 L9 => (-1 ≤ x9.toInt) ∧ (x9.toInt ≤ 40) ∧ (x9.toInt ≤ (I r0 0).toInt) ∧ (FSD x9.toInt (I r0 0).toInt (fun k => (I (rA R r0 1) k).toInt)) ∧ (I = I9 ∧ L = L9))) := by
  refine ⟨_, rfl, Nat.le_of_ble_eq_true rfl, fun V C S => ?_⟩
  show V 0 [(0, .ref r0)] [] (T, N, I, L, R) 0 0
  obtain ⟨T_r0, A_r0, ⟨r0_1, R_r0_1, H_r0_1⟩⟩ := id H_r0
  have z_r0_1 : rA R r0 1 = r0_1 := rA_e R_r0_1
  obtain ⟨w_r0_0, k0_r0_0⟩ : ∃ x, I r0 0 = x := ⟨_, rfl⟩
  have gw_r0_0 := rg w_r0_0
  have ow_r0_0 := IX.deg hI A_r0 T_r0 k0_r0_0
  refine z_iconst C (z := 0) rfl rfl rfl (fun x1 ex1 => ?_)
  have J2 : ∀ (nn3 : Nat) (x4 : Int32), ((41 - x4.toInt).toNat = nn3) → (0 ≤ x4.toInt) → (x4.toInt ≤ 41) → (ZRL (fun j => (I r0_1 j).toInt) x4.toInt) → V 2 [(0, .ref r0), (1, .int x4)] [] (T, N, I, L, R) 0 0 := by
    intro nn3
    induction nn3 using Nat.strongRecOn with
    | _ nn3 ihJ2 =>
      intro x4 hmnn3 b5 b6 ff2_0
      have gx4 := rg x4
      refine k_iload_n C rfl rfl rfl ?_
      refine k_aload_n C rfl rfl rfl ?_
      refine g_I C rfl rfl rfl T_r0 rfl k0_r0_0 ?_
      refine b_icmp_gt C (t := 26) rfl rfl rfl (fun c8 => ?_) (fun c8 => ?_)
      · skip
        refine z_iconst C (z := -1) rfl rfl rfl (fun x9 ex9 => ?_)
        exact k_iret C rfl (Or.inl rfl) (Nat.le_of_ble_eq_true rfl) (Nat.le_of_ble_eq_true rfl) ⟨_, _, _, rfl, rfl, by omega, by omega, by (try simp only [z_r0_1]); simp only [k0_r0_0]; omega, by (try simp only [z_r0_1]); simp only [k0_r0_0]; exact FSD.n ff2_0 (by omega) (by omega), rfl, rfl⟩
      refine k_aload_n C rfl rfl rfl ?_
      refine k_iload_n C rfl rfl rfl ?_
      refine c_VI C (s_X2_get_x hS hI H_r0) rfl rfl rfl rfl rfl ⟨_, rfl, rfl, T_r0, Nat.le_of_ble_eq_true rfl⟩ rfl rfl (Nat.le_of_ble_eq_true rfl) (Nat.le_of_ble_eq_true rfl) (Nat.le_of_ble_eq_true rfl) ?_
      rintro x10 _ _ ⟨p0x10, rfl, rfl⟩
      have gx10 := rg x10
      try simp only [z_r0_1] at p0x10
      try simp only [k0_r0_0] at p0x10
      try have q0x10 := congrArg Int32.toInt p0x10
      have hg := p0x10; (try simp only [k0_r0_0] at hg)
      refine b_if_eq C (t := 20) rfl rfl rfl (fun c11 => ?_) (fun c11 => ?_)
      · skip
        refine z_iinc C (z := 1) (lw := fun x12 => [(1, .int x12), (0, .ref r0)]) rfl rfl rfl (Nat.le_of_ble_eq_true rfl) rfl ⟨by omega, by omega⟩ (fun _ => rfl) (fun x12 ex12 => ?_)
        show V 23 [(1, .int x12), (0, .ref r0)] _ _ _ _
        refine k_goto C (pc2 := 2) rfl rfl ?_
        refine k_sub S [(0, .ref r0), (1, .int x12)] (List.forall_mem_cons.mpr ⟨List.mem_of_getElem? (i := 1) rfl, List.forall_mem_cons.mpr ⟨List.mem_of_getElem? (i := 0) rfl, fun _ h => nomatch h⟩⟩) ?_
        exact ihJ2 _ (by omega) x12 rfl (by omega) (by omega) (by exact ZRL.s ff2_0 hg (by omega) (by omega) (by omega) (by omega))
      refine k_iload_n C rfl rfl rfl ?_
      exact k_iret C rfl (Or.inl rfl) (Nat.le_of_ble_eq_true rfl) (Nat.le_of_ble_eq_true rfl) ⟨_, _, _, rfl, rfl, by omega, by omega, by (try simp only [z_r0_1]); simp only [k0_r0_0]; omega, by (try simp only [z_r0_1]); simp only [k0_r0_0]; exact FSD.y ff2_0 hg (by omega) (by omega) (by omega), rfl, rfl⟩
  refine k_istore_n C (lw := [(1, .int x1), (0, .ref r0)]) rfl rfl (Nat.le_of_ble_eq_true rfl) rfl ?_
  refine k_sub S [(0, .ref r0), (1, .int x1)] (List.forall_mem_cons.mpr ⟨List.mem_of_getElem? (i := 1) rfl, List.forall_mem_cons.mpr ⟨List.mem_of_getElem? (i := 0) rfl, fun _ h => nomatch h⟩⟩) ?_
  exact J2 _ x1 rfl (by omega) (by omega) (by exact ZRL.z (by omega))

theorem s_X0_dropRoot_x {d : Nat} {T N : Nat → Nat} {I : IT} {L : LT} {R : RT} {A B : Nat → Prop} {r0 r1 : Nat} {n2 : Int32} (hS : SUB B A) (hI : IX A T I) (H_r0 : (hs_Al T N R A B) r0) (H_r1 : (hs_F T N R A B) r1) (b0_n2 : 0 ≤ n2.toInt) (b1_n2 : n2.toInt ≤ 18) (hp0 : 1 ≤ (I r1 0).toInt) (hp1 : BNX I (rA R r1 1) (I r1 0).toInt (I (rA R r0 0) 0).toInt) : Ex (d + 2) 25 [.ref r0, .ref r1, .int n2] (T, N, I, L, R) 0 0 (pV T N R (fun I9 L9 => ((I9 r1 0).toInt = (I r1 0).toInt - 1) ∧ (∀ j : Nat, (j : Int) < (I r1 0).toInt → (I9 (rA R r1 1) j).toInt = SYN (I (rA R r0 0) 0).toInt n2.toInt (fun k => (I (rA R r1 1) k).toInt) j) ∧ (IX A T I9 ∧ Chg (SL [r1, (rA R r1 1)]) T [(3, 0)] I L I9 L9))) := by
  refine ⟨_, rfl, Nat.le_of_ble_eq_true rfl, fun V C S => ?_⟩
  show V 0 [(0, .ref r0), (1, .ref r1), (2, .int n2)] [] (T, N, I, L, R) 0 0
  have gn2 := rg n2
  obtain ⟨T_r0, A_r0, B_r0, ⟨r0_0, R_r0_0, H_r0_0⟩, ⟨r0_1, R_r0_1, H_r0_1⟩, ⟨r0_2, R_r0_2, H_r0_2⟩⟩ := id H_r0
  have z_r0_0 : rA R r0 0 = r0_0 := rA_e R_r0_0
  have z_r0_1 : rA R r0 1 = r0_1 := rA_e R_r0_1
  have z_r0_2 : rA R r0 2 = r0_2 := rA_e R_r0_2
  obtain ⟨T_r1, A_r1, ⟨r1_1, R_r1_1, H_r1_1⟩⟩ := id H_r1
  have z_r1_1 : rA R r1 1 = r1_1 := rA_e R_r1_1
  obtain ⟨T_r1_1, N_r1_1, A_r1_1⟩ := id H_r1_1
  try simp only [z_r0_0, z_r0_1, z_r0_2, z_r1_1] at hp0
  try simp only [z_r0_0, z_r0_1, z_r0_2, z_r1_1] at hp1
  obtain ⟨w_r1_0, k0_r1_0⟩ : ∃ x, I r1 0 = x := ⟨_, rfl⟩
  have gw_r1_0 := rg w_r1_0
  have ow_r1_0 := IX.deg hI A_r1 T_r1 k0_r1_0
  obtain ⟨T_r0_0, A_r0_0, B_r0_0, ⟨r0_0_6, R_r0_0_6, H_r0_0_6⟩, ⟨r0_0_7, R_r0_0_7, H_r0_0_7⟩, ⟨r0_0_8, R_r0_0_8, H_r0_0_8⟩, ⟨r0_0_9, R_r0_0_9, H_r0_0_9⟩, ⟨r0_0_10, R_r0_0_10, H_r0_0_10⟩⟩ := id H_r0_0
  have z_r0_0_6 : rA R r0_0 6 = r0_0_6 := rA_e R_r0_0_6
  have z_r0_0_7 : rA R r0_0 7 = r0_0_7 := rA_e R_r0_0_7
  have z_r0_0_8 : rA R r0_0 8 = r0_0_8 := rA_e R_r0_0_8
  have z_r0_0_9 : rA R r0_0 9 = r0_0_9 := rA_e R_r0_0_9
  have z_r0_0_10 : rA R r0_0 10 = r0_0_10 := rA_e R_r0_0_10
  obtain ⟨w_r0_0_0, k0_r0_0_0⟩ : ∃ x, I r0_0 0 = x := ⟨_, rfl⟩
  have gw_r0_0_0 := rg w_r0_0_0
  have ow_r0_0_0 := IX.p hI A_r0_0 T_r0_0 k0_r0_0_0
  try simp only [k0_r1_0, k0_r0_0_0] at hp0
  try simp only [k0_r1_0, k0_r0_0_0] at hp1
  try simp only [k0_r1_0, k0_r0_0_0] at hp1
  refine z_iconst C (z := 1) rfl rfl rfl (fun x1 ex1 => ?_)
  have J2 : ∀ (nn3 : Nat) (I4 : IT) (L5 : LT) (x6 : Int32) (x11 : Int32), ((40 - x6.toInt).toNat = nn3) → (IX A T I4) → (Chg (SL [r1, r1_1]) T [] I L I4 L5) → (1 ≤ x6.toInt) → (x6.toInt ≤ 40) → (I4 r1 0 = x11) → (0 ≤ x11.toInt) → (x11.toInt ≤ 40) → (DRL I4 I r1_1 w_r0_0_0.toInt n2.toInt x6.toInt) → (x11.toInt = w_r1_0.toInt) → V 2 [(0, .ref r0), (1, .ref r1), (2, .int n2), (3, .int x6)] [] (T, N, I4, L5, R) 0 0 := by
    intro nn3
    induction nn3 using Nat.strongRecOn with
    | _ nn3 ihJ2 =>
      intro I4 L5 x6 x11 hmnn3 hI10 S9 b7 b8 e12 b13 b14 ff2_0 ff2_1
      have gx6 := rg x6
      have gx11 := rg x11
      have e17 := Chg.k S9 T_r1 (by decide) (by decide) k0_r1_0
      have e18 := Chg.k S9 T_r0_0 (by decide) (by decide) k0_r0_0_0
      refine k_iload_n C rfl rfl rfl ?_
      refine k_aload_n C rfl rfl rfl ?_
      refine g_I C rfl rfl rfl T_r1 rfl e12 ?_
      refine b_icmp_ge C (t := 41) rfl rfl rfl (fun c19 => ?_) (fun c19 => ?_)
      · skip
        refine k_aload_n C rfl rfl rfl ?_
        refine k_dup C rfl rfl rfl ?_
        refine g_I C rfl rfl rfl T_r1 rfl e12 ?_
        refine z_iconst C (z := 1) rfl rfl rfl (fun x20 ex20 => ?_)
        refine z_isub C rfl rfl ⟨by omega, by omega⟩ (fun x21 ex21 => ?_)
        refine z_pI C rfl rfl rfl T_r1 (Or.inr rfl) rfl (fun I22 uI22 => ?_)
        have hI22 : IX A T I22 := IX.f hI10 T_r1 ⟨fun _ _ => ⟨by omega, by omega⟩, fun h => absurd h (by decide)⟩ uI22
        have S23 : Chg (SL [r1]) T [(3, 0)] I4 L5 I22 L5 := Chg.f List.mem_cons_self T_r1 uI22
        have e24 := u2_n uI22 (t_nq T_r0_0 T_r1 (by decide)) e18
        have e25 := u2_e uI22
        have hput := uI22
        exact k_vret C rfl rfl (Nat.le_of_ble_eq_true rfl) (Nat.le_of_ble_eq_true rfl) ⟨_, _, rfl, rfl, by (try simp only [z_r0_0, z_r0_1, z_r0_2, z_r1_1, z_r0_0_6, z_r0_0_7, z_r0_0_8, z_r0_0_9, z_r0_0_10]); rw [e25]; simp only [k0_r1_0]; omega, by (try simp only [z_r0_0, z_r0_1, z_r0_2, z_r1_1, z_r0_0_6, z_r0_0_7, z_r0_0_8, z_r0_0_9, z_r0_0_10]); intro j hj; simp only [k0_r1_0, k0_r0_0_0] at hj ⊢; rw [hput, u2_r (t_nq T_r1_1 T_r1 (by decide))]; exact ff2_0.1 j (by omega), hI22, (by (try simp only [z_r0_0, z_r0_1, z_r0_2, z_r1_1, z_r0_0_6, z_r0_0_7, z_r0_0_8, z_r0_0_9, z_r0_0_10]); exact (Chg.cons S9 (Chg.mono (Chg.up S23 (List.forall_mem_cons.mpr ⟨List.mem_of_getElem? (i := 0) rfl, fun _ h => nomatch h⟩)) (by decide)) (by decide)))⟩
      refine k_aload_n C rfl rfl rfl ?_
      refine k_iload_n C rfl rfl rfl ?_
      refine k_aload_n C rfl rfl rfl ?_
      refine k_aload_n C rfl rfl rfl ?_
      refine k_iload_n C rfl rfl rfl ?_
      refine c_VI C (s_X2_get_x hS hI10 H_r1) rfl rfl rfl rfl rfl ⟨_, rfl, rfl, T_r1, Nat.le_of_ble_eq_true rfl⟩ rfl rfl (Nat.le_of_ble_eq_true rfl) (Nat.le_of_ble_eq_true rfl) (Nat.le_of_ble_eq_true rfl) ?_
      rintro x26 _ _ ⟨p0x26, rfl, rfl⟩
      have gx26 := rg x26
      try simp only [z_r0_0, z_r0_1, z_r0_2, z_r1_1, z_r0_0_6, z_r0_0_7, z_r0_0_8, z_r0_0_9, z_r0_0_10] at p0x26
      try simp only [e12, e18] at p0x26
      try have q0x26 := congrArg Int32.toInt p0x26
      have hga := p0x26; (try simp only [e12] at hga)
      refine k_aload_n C rfl rfl rfl ?_
      refine k_iload_n C rfl rfl rfl ?_
      refine z_iconst C (z := 1) rfl rfl rfl (fun x27 ex27 => ?_)
      refine z_isub C rfl rfl ⟨by omega, by omega⟩ (fun x28 ex28 => ?_)
      refine c_VI C (s_X2_get_x hS hI10 H_r1) rfl rfl rfl rfl rfl ⟨_, rfl, rfl, T_r1, Nat.le_of_ble_eq_true rfl⟩ rfl rfl (Nat.le_of_ble_eq_true rfl) (Nat.le_of_ble_eq_true rfl) (Nat.le_of_ble_eq_true rfl) ?_
      rintro x29 _ _ ⟨p0x29, rfl, rfl⟩
      have gx29 := rg x29
      try simp only [z_r0_0, z_r0_1, z_r0_2, z_r1_1, z_r0_0_6, z_r0_0_7, z_r0_0_8, z_r0_0_9, z_r0_0_10] at p0x29
      try simp only [e12, e18] at p0x29
      try have q0x29 := congrArg Int32.toInt p0x29
      have hgc := p0x29; (try simp only [e12] at hgc)
      refine k_iload_n C rfl rfl rfl ?_
      refine z_imulN C rfl rfl (fun x30 hm26 => ?_)
      have gx30 := rg x30
      have mm26 := hm26.2
      clear hm26
      refine z_iaddX C rfl rfl (fun x31 ad27 => ?_)
      have gx31 := rg x31
      refine z_i2l C rfl rfl (fun lg32 elg32 => ?_)
      have hl := elg32
      refine c_VI C (s_X0_of_x hS hI10 H_r0) rfl rfl rfl rfl rfl ⟨_, rfl, rfl, T_r0, Nat.le_of_ble_eq_true rfl⟩ rfl rfl (Nat.le_of_ble_eq_true rfl) (Nat.le_of_ble_eq_true rfl) (Nat.le_of_ble_eq_true rfl) ?_
      rintro x33 _ _ ⟨o0x33, o1x33, p0x33, p1x33, rfl, rfl⟩
      have gx33 := rg x33
      try simp only [z_r0_0, z_r0_1, z_r0_2, z_r1_1, z_r0_0_6, z_r0_0_7, z_r0_0_8, z_r0_0_9, z_r0_0_10] at p0x33
      try simp only [z_r0_0, z_r0_1, z_r0_2, z_r1_1, z_r0_0_6, z_r0_0_7, z_r0_0_8, z_r0_0_9, z_r0_0_10] at p1x33
      try simp only [e12, e18] at p0x33
      try have q0x33 := congrArg Int32.toInt p0x33
      try simp only [e12, e18] at p1x33
      try have q1x33 := congrArg Int32.toInt p1x33
      have hof := p0x33; (try simp only [e18] at hof)
      refine c_VV C (s_X2_set_x hS hI10 H_r1) rfl rfl rfl rfl rfl ⟨_, rfl, rfl, T_r1, Nat.le_of_ble_eq_true rfl⟩ rfl rfl (Nat.le_of_ble_eq_true rfl) (Nat.le_of_ble_eq_true rfl) (Nat.le_of_ble_eq_true rfl) ?_
      rintro I35 L36 ⟨p0v34, hI35, S37⟩
      try simp only [z_r0_0, z_r0_1, z_r0_2, z_r1_1, z_r0_0_6, z_r0_0_7, z_r0_0_8, z_r0_0_9, z_r0_0_10] at S37
      have e38 := Chg.k S37 T_r1 (by decide) (by decide) e12
      have e39 := Chg.k S37 T_r0_0 (by decide) (by decide) e18
      try simp only [z_r0_0, z_r0_1, z_r0_2, z_r1_1, z_r0_0_6, z_r0_0_7, z_r0_0_8, z_r0_0_9, z_r0_0_10] at p0v34
      try simp only [e12, e18] at p0v34
      try have q0v34 := congrArg Int32.toInt p0v34
      have hse := p0v34
      refine z_iinc C (z := 1) (lw := fun x40 => [(3, .int x40), (0, .ref r0), (1, .ref r1), (2, .int n2)]) rfl rfl rfl (Nat.le_of_ble_eq_true rfl) rfl ⟨by omega, by omega⟩ (fun _ => rfl) (fun x40 ex40 => ?_)
      show V 38 [(3, .int x40), (0, .ref r0), (1, .ref r1), (2, .int n2)] _ _ _ _
      refine k_goto C (pc2 := 2) rfl rfl ?_
      refine k_sub S [(0, .ref r0), (1, .ref r1), (2, .int n2), (3, .int x40)] (List.forall_mem_cons.mpr ⟨List.mem_of_getElem? (i := 1) rfl, List.forall_mem_cons.mpr ⟨List.mem_of_getElem? (i := 2) rfl, List.forall_mem_cons.mpr ⟨List.mem_of_getElem? (i := 3) rfl, List.forall_mem_cons.mpr ⟨List.mem_of_getElem? (i := 0) rfl, fun _ h => nomatch h⟩⟩⟩⟩) ?_
      exact ihJ2 _ (by omega) I35 L36 x40 x11 rfl hI35 (Chg.cons S9 (Chg.mono (Chg.up S37 (List.forall_mem_cons.mpr ⟨List.mem_of_getElem? (i := 1) rfl, fun _ h => nomatch h⟩)) (by decide)) (by decide)) (by omega) (by omega) e38 (by omega) (by omega) (by exact DRL.s ff2_0 hp1 hga hgc mm26 ad27 hl hof hse (by omega) (by omega) (by omega) (by omega) (by omega) (by omega) (by omega) (by omega) (by omega)) (by omega)
  refine k_istore_n C (lw := [(3, .int x1), (0, .ref r0), (1, .ref r1), (2, .int n2)]) rfl rfl (Nat.le_of_ble_eq_true rfl) rfl ?_
  refine k_sub S [(0, .ref r0), (1, .ref r1), (2, .int n2), (3, .int x1)] (List.forall_mem_cons.mpr ⟨List.mem_of_getElem? (i := 1) rfl, List.forall_mem_cons.mpr ⟨List.mem_of_getElem? (i := 2) rfl, List.forall_mem_cons.mpr ⟨List.mem_of_getElem? (i := 3) rfl, List.forall_mem_cons.mpr ⟨List.mem_of_getElem? (i := 0) rfl, fun _ h => nomatch h⟩⟩⟩⟩) ?_
  exact J2 _ I L x1 w_r1_0 rfl hI Chg.rf (by omega) (by omega) k0_r1_0 (by omega) (by omega) (by exact DRL.z (by omega)) (by omega)

theorem s_X0_howOften_x {d : Nat} {T N : Nat → Nat} {I : IT} {L : LT} {R : RT} {A B : Nat → Prop} {r0 r1 : Nat} {n2 : Int32} (hS : SUB B A) (hI : IX A T I) (H_r0 : (hs_Al T N R A B) r0) (H_r1 : (hs_F T N R A B) r1) (b0_n2 : 0 ≤ n2.toInt) (b1_n2 : n2.toInt ≤ 19) (hU : UPR T R) (hp0 : r1 ≠ rA R r0 1) (hp1 : BNX I (rA R r1 1) (I r1 0).toInt (I (rA R r0 0) 0).toInt) (hp2 : n2.toInt ≤ (I (rA R r0 0) 0).toInt) : Ex (d + 3) 26 [.ref r0, .ref r1, .int n2] (T, N, I, L, R) 0 0 (pI T N R (fun x9 I9 L9 => (0 ≤ x9.toInt) ∧ (x9.toInt ≤ 99) ∧ (HOF x9.toInt (I (rA R r0 0) 0).toInt n2.toInt (I r1 0).toInt (fun k => (I (rA R r1 1) k).toInt)) ∧ (IX A T I9 ∧ Chg (SL [(rA R r0 1), (rA R (rA R r0 1) 1)]) T [(3, 0)] I L I9 L9))) := by
  refine ⟨_, rfl, Nat.le_of_ble_eq_true rfl, fun V C S => ?_⟩
  show V 0 [(0, .ref r0), (1, .ref r1), (2, .int n2)] [] (T, N, I, L, R) 0 0
  have gn2 := rg n2
  obtain ⟨T_r0, A_r0, B_r0, ⟨r0_0, R_r0_0, H_r0_0⟩, ⟨r0_1, R_r0_1, H_r0_1⟩, ⟨r0_2, R_r0_2, H_r0_2⟩⟩ := id H_r0
  have z_r0_0 : rA R r0 0 = r0_0 := rA_e R_r0_0
  have z_r0_1 : rA R r0 1 = r0_1 := rA_e R_r0_1
  have z_r0_2 : rA R r0 2 = r0_2 := rA_e R_r0_2
  obtain ⟨T_r1, A_r1, ⟨r1_1, R_r1_1, H_r1_1⟩⟩ := id H_r1
  have z_r1_1 : rA R r1 1 = r1_1 := rA_e R_r1_1
  obtain ⟨T_r0_0, A_r0_0, B_r0_0, ⟨r0_0_6, R_r0_0_6, H_r0_0_6⟩, ⟨r0_0_7, R_r0_0_7, H_r0_0_7⟩, ⟨r0_0_8, R_r0_0_8, H_r0_0_8⟩, ⟨r0_0_9, R_r0_0_9, H_r0_0_9⟩, ⟨r0_0_10, R_r0_0_10, H_r0_0_10⟩⟩ := id H_r0_0
  have z_r0_0_6 : rA R r0_0 6 = r0_0_6 := rA_e R_r0_0_6
  have z_r0_0_7 : rA R r0_0 7 = r0_0_7 := rA_e R_r0_0_7
  have z_r0_0_8 : rA R r0_0 8 = r0_0_8 := rA_e R_r0_0_8
  have z_r0_0_9 : rA R r0_0 9 = r0_0_9 := rA_e R_r0_0_9
  have z_r0_0_10 : rA R r0_0 10 = r0_0_10 := rA_e R_r0_0_10
  obtain ⟨T_r0_1, A_r0_1, B_r0_1, ⟨r0_1_1, R_r0_1_1, H_r0_1_1⟩⟩ := id H_r0_1
  have z_r0_1_1 : rA R r0_1 1 = r0_1_1 := rA_e R_r0_1_1
  obtain ⟨T_r1_1, N_r1_1, A_r1_1⟩ := id H_r1_1
  obtain ⟨T_r0_1_1, N_r0_1_1, A_r0_1_1⟩ := id H_r0_1_1
  try simp only [z_r0_0, z_r0_1, z_r0_2, z_r1_1, z_r0_0_6, z_r0_0_7, z_r0_0_8, z_r0_0_9, z_r0_0_10, z_r0_1_1] at hp0
  try simp only [z_r0_0, z_r0_1, z_r0_2, z_r1_1, z_r0_0_6, z_r0_0_7, z_r0_0_8, z_r0_0_9, z_r0_0_10, z_r0_1_1] at hp1
  try simp only [z_r0_0, z_r0_1, z_r0_2, z_r1_1, z_r0_0_6, z_r0_0_7, z_r0_0_8, z_r0_0_9, z_r0_0_10, z_r0_1_1] at hp2
  obtain ⟨w_r1_0, k0_r1_0⟩ : ∃ x, I r1 0 = x := ⟨_, rfl⟩
  have gw_r1_0 := rg w_r1_0
  have ow_r1_0 := IX.deg hI A_r1 T_r1 k0_r1_0
  obtain ⟨w_r0_0_0, k0_r0_0_0⟩ : ∃ x, I r0_0 0 = x := ⟨_, rfl⟩
  have gw_r0_0_0 := rg w_r0_0_0
  have ow_r0_0_0 := IX.p hI A_r0_0 T_r0_0 k0_r0_0_0
  try simp only [k0_r1_0, k0_r0_0_0] at hp0
  try simp only [k0_r1_0, k0_r0_0_0] at hp1
  try simp only [k0_r1_0, k0_r0_0_0] at hp2
  have nb := hU.ne (Or.inr (Or.inr (Or.inr (by omega)))) R_r1_1 R_r0_1_1 (Or.inl hp0)
  try simp only [k0_r1_0, k0_r0_0_0] at hp1
  refine k_aload_n C rfl rfl rfl ?_
  refine c_VI C (s_X2_first_x hS hI H_r1) rfl rfl rfl rfl rfl ⟨_, rfl, rfl, T_r1, Nat.le_of_ble_eq_true rfl⟩ rfl rfl (Nat.le_of_ble_eq_true rfl) (Nat.le_of_ble_eq_true rfl) (Nat.le_of_ble_eq_true rfl) ?_
  rintro x1 _ _ ⟨o0x1, o1x1, p0x1, p1x1, rfl, rfl⟩
  have gx1 := rg x1
  try simp only [z_r0_0, z_r0_1, z_r0_2, z_r1_1, z_r0_0_6, z_r0_0_7, z_r0_0_8, z_r0_0_9, z_r0_0_10, z_r0_1_1] at p0x1
  try simp only [z_r0_0, z_r0_1, z_r0_2, z_r1_1, z_r0_0_6, z_r0_0_7, z_r0_0_8, z_r0_0_9, z_r0_0_10, z_r0_1_1] at p1x1
  try simp only [k0_r1_0, k0_r0_0_0] at p0x1
  try have q0x1 := congrArg Int32.toInt p0x1
  try simp only [k0_r1_0, k0_r0_0_0] at p1x1
  try have q1x1 := congrArg Int32.toInt p1x1
  have hfs := p1x1; (try simp only [k0_r1_0] at hfs)
  refine k_istore_n C (lw := [(3, .int x1), (0, .ref r0), (1, .ref r1), (2, .int n2)]) rfl rfl (Nat.le_of_ble_eq_true rfl) rfl ?_
  refine k_iload_n C rfl rfl rfl ?_
  refine z_iconst C (z := -1) rfl rfl rfl (fun x2 ex2 => ?_)
  refine b_icmp_ne C (t := 13) rfl rfl rfl (fun c3 => ?_) (fun c3 => ?_)
  · skip
    refine k_iload_n C rfl rfl rfl ?_
    refine k_aload_n C rfl rfl rfl ?_
    refine g_R C rfl rfl rfl T_r0 rfl R_r0_0 ?_
    refine g_I C rfl rfl rfl T_r0_0 rfl k0_r0_0_0 ?_
    refine b_icmp_ne C (t := 26) rfl rfl rfl (fun c4 => ?_) (fun c4 => ?_)
    · skip
      refine k_aload_n C rfl rfl rfl ?_
      refine g_R C rfl rfl rfl T_r0 rfl R_r0_1 ?_
      refine k_aload_n C rfl rfl rfl ?_
      refine c_VV C (s_X2_copyFrom_x hS hI (hs_GF hS H_r0_1) H_r1 (Ne.symm hp0) (by rw [z_r0_1_1, z_r1_1]; exact Ne.symm nb)) rfl rfl rfl rfl rfl ⟨_, rfl, rfl, T_r0_1, Nat.le_of_ble_eq_true rfl⟩ rfl rfl (Nat.le_of_ble_eq_true rfl) (Nat.le_of_ble_eq_true rfl) (Nat.le_of_ble_eq_true rfl) ?_
      rintro I6 L7 ⟨p0v5, hI6, S8⟩
      try simp only [z_r0_0, z_r0_1, z_r0_2, z_r1_1, z_r0_0_6, z_r0_0_7, z_r0_0_8, z_r0_0_9, z_r0_0_10, z_r0_1_1] at S8
      have e9 := (congrFun (Chg.at S8 (nm_2 (by first | exact hp0 | exact fun e => hp0 e.symm) (t_nq T_r1 T_r0_1_1 (by decide)))) 0).trans k0_r1_0
      have e10 := Chg.k S8 T_r0_0 (by decide) (by decide) k0_r0_0_0
      obtain ⟨x11, e12⟩ : ∃ x, I6 r0_1 0 = x := ⟨_, rfl⟩
      have gx11 := rg x11
      have ox11 := IX.deg hI6 A_r0_1 T_r0_1 e12
      try simp only [z_r0_0, z_r0_1, z_r0_2, z_r1_1, z_r0_0_6, z_r0_0_7, z_r0_0_8, z_r0_0_9, z_r0_0_10, z_r0_1_1] at p0v5
      try simp only [k0_r1_0, k0_r0_0_0, e12] at p0v5
      try have q0v5 := congrArg Int32.toInt p0v5
      have hfe := p0v5; have hfd := hfe.1; rw [e12, k0_r1_0] at hfd
      refine k_aload_n C rfl rfl rfl ?_
      refine g_I C rfl rfl rfl T_r1 rfl e9 ?_
      refine k_istore C (lw := [(4, .int w_r1_0), (3, .int x1), (0, .ref r0), (1, .ref r1), (2, .int n2)]) rfl rfl (Nat.le_of_ble_eq_true rfl) rfl ?_
      refine z_iconst C (z := 0) rfl rfl rfl (fun x13 ex13 => ?_)
      have J14 : ∀ (nn15 : Nat) (I16 : IT) (L17 : LT) (x18 : Int32) (x23 : Int32), ((40 - x18.toInt).toNat = nn15) → (IX A T I16) → (Chg (SL [r0_1, r0_1_1]) T [(3, 0)] I6 L7 I16 L17) → (0 ≤ x18.toInt) → (x18.toInt ≤ 40) → (I16 r0_1 0 = x23) → (0 ≤ x23.toInt) → (x23.toInt ≤ 40) → (HWL I16 r0_1_1 w_r0_0_0.toInt n2.toInt w_r1_0.toInt (fun k => (I r1_1 k).toInt) x18.toInt) → (x23.toInt = w_r1_0.toInt - x18.toInt) → (w_r1_0.toInt = w_r1_0.toInt) → (x18.toInt ≤ w_r1_0.toInt) → V 42 [(0, .ref r0), (2, .int n2), (3, .int x18), (4, .int w_r1_0)] [] (T, N, I16, L17, R) 0 0 := by
        intro nn15
        induction nn15 using Nat.strongRecOn with
        | _ nn15 ihJ14 =>
          intro I16 L17 x18 x23 hmnn15 hI22 S21 b19 b20 e24 b25 b26 ff42_0 ff42_1 ff42_2 ff42_3
          have gx18 := rg x18
          have gx23 := rg x23
          have e31 := Chg.k S21 T_r0_0 (by decide) (by decide) e10
          refine k_iload_n C rfl rfl rfl ?_
          refine k_iload C rfl rfl rfl ?_
          refine b_icmp_ge C (t := 76) rfl rfl rfl (fun c32 => ?_) (fun c32 => ?_)
          · skip
            refine k_iload_n C rfl rfl rfl ?_
            exact k_iret C rfl (Or.inl rfl) (Nat.le_of_ble_eq_true rfl) (Nat.le_of_ble_eq_true rfl) ⟨_, _, _, rfl, rfl, by omega, by omega, by (try simp only [z_r0_0, z_r0_1, z_r0_2, z_r1_1, z_r0_0_6, z_r0_0_7, z_r0_0_8, z_r0_0_9, z_r0_0_10, z_r0_1_1]); simp only [k0_r1_0, k0_r0_0_0]; exact HOF.h hfs (by omega) (by omega) (by first | exact HWL.e1 ff42_0 (by omega) (by omega) | exact HWL.e2 ff42_0 hw rfl (by first | rfl | omega) (by omega) (by omega) (by omega) (by omega) (by omega)), hI22, (by (try simp only [z_r0_0, z_r0_1, z_r0_2, z_r1_1, z_r0_0_6, z_r0_0_7, z_r0_0_8, z_r0_0_9, z_r0_0_10, z_r0_1_1]); exact (Chg.cons (Chg.up S8 (List.forall_mem_cons.mpr ⟨List.mem_of_getElem? (i := 0) rfl, List.forall_mem_cons.mpr ⟨List.mem_of_getElem? (i := 1) rfl, fun _ h => nomatch h⟩⟩)) (Chg.mono S21 (by decide)) (by decide)))⟩
          refine k_aload_n C rfl rfl rfl ?_
          refine k_aload_n C rfl rfl rfl ?_
          refine g_R C rfl rfl rfl T_r0 rfl R_r0_1 ?_
          refine k_iload_n C rfl rfl rfl ?_
          refine z_iconst C (z := 1) rfl rfl rfl (fun x33 ex33 => ?_)
          refine c_VI C (s_X0_worth_x hS hI22 H_r0 (hs_GF hS H_r0_1) (by omega) (by omega) (by omega) (by omega) (by rw [z_r0_1_1, e24]; exact BNX.e18 (HWL.b ff42_0 hp1 (by omega) (by omega) (by omega)) (by omega))) rfl rfl rfl rfl rfl ⟨_, rfl, rfl, T_r0, Nat.le_of_ble_eq_true rfl⟩ rfl rfl (Nat.le_of_ble_eq_true rfl) (Nat.le_of_ble_eq_true rfl) (Nat.le_of_ble_eq_true rfl) ?_
          rintro x34 _ _ ⟨o0x34, o1x34, p0x34, p1x34, rfl, rfl⟩
          have gx34 := rg x34
          try simp only [z_r0_0, z_r0_1, z_r0_2, z_r1_1, z_r0_0_6, z_r0_0_7, z_r0_0_8, z_r0_0_9, z_r0_0_10, z_r0_1_1] at p0x34
          try simp only [z_r0_0, z_r0_1, z_r0_2, z_r1_1, z_r0_0_6, z_r0_0_7, z_r0_0_8, z_r0_0_9, z_r0_0_10, z_r0_1_1] at p1x34
          try simp only [e31, e24] at p0x34
          try have q0x34 := congrArg Int32.toInt p0x34
          try simp only [e31, e24] at p1x34
          try have q1x34 := congrArg Int32.toInt p1x34
          have hw := p0x34; have hwb := p1x34; (try simp only [e31, e24] at hw); (try simp only [e31] at hwb)
          refine b_if_ne C (t := 76) rfl rfl rfl (fun c35 => ?_) (fun c35 => ?_)
          · skip
            refine k_iload_n C rfl rfl rfl ?_
            exact k_iret C rfl (Or.inl rfl) (Nat.le_of_ble_eq_true rfl) (Nat.le_of_ble_eq_true rfl) ⟨_, _, _, rfl, rfl, by omega, by omega, by (try simp only [z_r0_0, z_r0_1, z_r0_2, z_r1_1, z_r0_0_6, z_r0_0_7, z_r0_0_8, z_r0_0_9, z_r0_0_10, z_r0_1_1]); simp only [k0_r1_0, k0_r0_0_0]; exact HOF.h hfs (by omega) (by omega) (by first | exact HWL.e1 ff42_0 (by omega) (by omega) | exact HWL.e2 ff42_0 hw rfl (by first | rfl | omega) (by omega) (by omega) (by omega) (by omega) (by omega)), hI22, (by (try simp only [z_r0_0, z_r0_1, z_r0_2, z_r1_1, z_r0_0_6, z_r0_0_7, z_r0_0_8, z_r0_0_9, z_r0_0_10, z_r0_1_1]); exact (Chg.cons (Chg.up S8 (List.forall_mem_cons.mpr ⟨List.mem_of_getElem? (i := 0) rfl, List.forall_mem_cons.mpr ⟨List.mem_of_getElem? (i := 1) rfl, fun _ h => nomatch h⟩⟩)) (Chg.mono S21 (by decide)) (by decide)))⟩
          refine k_aload_n C rfl rfl rfl ?_
          refine k_aload_n C rfl rfl rfl ?_
          refine g_R C rfl rfl rfl T_r0 rfl R_r0_1 ?_
          refine k_iload_n C rfl rfl rfl ?_
          have hko := e24; have hkp := e31
          refine c_VV C (s_X0_dropRoot_x hS hI22 H_r0 (hs_GF hS H_r0_1) (by omega) (by omega) (by rw [e24]; omega) (by rw [z_r0_1_1, z_r0_0, e24, e31]; exact HWL.b ff42_0 hp1 (by omega) (by omega) (by omega))) rfl rfl rfl rfl rfl ⟨_, rfl, rfl, T_r0, Nat.le_of_ble_eq_true rfl⟩ rfl rfl (Nat.le_of_ble_eq_true rfl) (Nat.le_of_ble_eq_true rfl) (Nat.le_of_ble_eq_true rfl) ?_
          rintro I37 L38 ⟨p0v36, p1v36, hI37, S39⟩
          try simp only [z_r0_0, z_r0_1, z_r0_2, z_r1_1, z_r0_0_6, z_r0_0_7, z_r0_0_8, z_r0_0_9, z_r0_0_10, z_r0_1_1] at S39
          have e40 := Chg.k S39 T_r0_0 (by decide) (by decide) e31
          obtain ⟨x41, e42⟩ : ∃ x, I37 r0_1 0 = x := ⟨_, rfl⟩
          have gx41 := rg x41
          have ox41 := IX.deg hI37 A_r0_1 T_r0_1 e42
          try simp only [z_r0_0, z_r0_1, z_r0_2, z_r1_1, z_r0_0_6, z_r0_0_7, z_r0_0_8, z_r0_0_9, z_r0_0_10, z_r0_1_1] at p0v36
          try simp only [z_r0_0, z_r0_1, z_r0_2, z_r1_1, z_r0_0_6, z_r0_0_7, z_r0_0_8, z_r0_0_9, z_r0_0_10, z_r0_1_1] at p1v36
          try simp only [e31, e24, e42] at p0v36
          try have q0v36 := congrArg Int32.toInt p0v36
          try simp only [e31, e24, e42] at p1v36
          try have q1v36 := congrArg Int32.toInt p1v36
          have hd1 := p1v36; (try simp only [hko, hkp] at hd1)
          refine z_iinc C (z := 1) (lw := fun x43 => [(3, .int x43), (0, .ref r0), (2, .int n2), (4, .int w_r1_0)]) rfl rfl rfl (Nat.le_of_ble_eq_true rfl) rfl ⟨by omega, by omega⟩ (fun _ => rfl) (fun x43 ex43 => ?_)
          show V 73 [(3, .int x43), (0, .ref r0), (2, .int n2), (4, .int w_r1_0)] _ _ _ _
          refine k_goto C (pc2 := 42) rfl rfl ?_
          refine k_sub S [(0, .ref r0), (2, .int n2), (3, .int x43), (4, .int w_r1_0)] (List.forall_mem_cons.mpr ⟨List.mem_of_getElem? (i := 1) rfl, List.forall_mem_cons.mpr ⟨List.mem_of_getElem? (i := 2) rfl, List.forall_mem_cons.mpr ⟨List.mem_of_getElem? (i := 0) rfl, List.forall_mem_cons.mpr ⟨List.mem_of_getElem? (i := 3) rfl, fun _ h => nomatch h⟩⟩⟩⟩) ?_
          exact ihJ14 _ (by omega) I37 L38 x43 x41 rfl hI37 (Chg.cons S21 (Chg.mono (Chg.up S39 (List.forall_mem_cons.mpr ⟨List.mem_of_getElem? (i := 0) rfl, List.forall_mem_cons.mpr ⟨List.mem_of_getElem? (i := 1) rfl, fun _ h => nomatch h⟩⟩)) (by decide)) (by decide)) (by omega) (by omega) e42 (by omega) (by omega) (by exact HWL.s ff42_0 hw rfl (by first | rfl | omega) (by omega) (by omega) (by omega) (by omega) hd1 (by omega) (by omega)) (by omega) (by omega) (by omega)
      refine k_istore_n C (lw := [(3, .int x13), (4, .int w_r1_0), (0, .ref r0), (1, .ref r1), (2, .int n2)]) rfl rfl (Nat.le_of_ble_eq_true rfl) rfl ?_
      refine k_sub S [(0, .ref r0), (2, .int n2), (3, .int x13), (4, .int w_r1_0)] (List.forall_mem_cons.mpr ⟨List.mem_of_getElem? (i := 2) rfl, List.forall_mem_cons.mpr ⟨List.mem_of_getElem? (i := 4) rfl, List.forall_mem_cons.mpr ⟨List.mem_of_getElem? (i := 0) rfl, List.forall_mem_cons.mpr ⟨List.mem_of_getElem? (i := 1) rfl, fun _ h => nomatch h⟩⟩⟩⟩) ?_
      exact J14 _ I6 L7 x13 x11 rfl hI6 Chg.rf (by omega) (by omega) e12 (by omega) (by omega) (by exact HWL.z hfe z_r0_1_1 z_r1_1 (by rw [k0_r1_0]) (by omega)) (by omega) (by omega) (by omega)
    refine k_iload_n C rfl rfl rfl ?_
    exact k_iret C rfl (Or.inl rfl) (Nat.le_of_ble_eq_true rfl) (Nat.le_of_ble_eq_true rfl) ⟨_, _, _, rfl, rfl, by omega, by omega, by (try simp only [z_r0_0, z_r0_1, z_r0_2, z_r1_1, z_r0_0_6, z_r0_0_7, z_r0_0_8, z_r0_0_9, z_r0_0_10, z_r0_1_1]); simp only [k0_r1_0, k0_r0_0_0]; exact HOF.p hfs (by omega) (by omega), hI, (by (try simp only [z_r0_0, z_r0_1, z_r0_2, z_r1_1, z_r0_0_6, z_r0_0_7, z_r0_0_8, z_r0_0_9, z_r0_0_10, z_r0_1_1]); exact Chg.rf)⟩
  refine z_bipush C (z := 99) rfl rfl rfl (fun x44 ex44 => ?_)
  exact k_iret C rfl (Or.inl rfl) (Nat.le_of_ble_eq_true rfl) (Nat.le_of_ble_eq_true rfl) ⟨_, _, _, rfl, rfl, by omega, by omega, by (try simp only [z_r0_0, z_r0_1, z_r0_2, z_r1_1, z_r0_0_6, z_r0_0_7, z_r0_0_8, z_r0_0_9, z_r0_0_10, z_r0_1_1]); simp only [k0_r1_0, k0_r0_0_0]; exact HOF.n hfs (by omega) (by omega), hI, (by (try simp only [z_r0_0, z_r0_1, z_r0_2, z_r1_1, z_r0_0_6, z_r0_0_7, z_r0_0_8, z_r0_0_9, z_r0_0_10, z_r0_1_1]); exact Chg.rf)⟩

theorem s_X11_empty_x {d : Nat} {T N : Nat → Nat} {I : IT} {L : LT} {R : RT} {A B : Nat → Prop} {r0 : Nat} {n1 : Int32} (hS : SUB B A) (hI : IX A T I) (H_r0 : (hs_LF T N R A B) r0) (hU : UPR T R) (hp0 : rA R (rA R r0 5) 0 = (rA R r0 1)) (hp1 : ∀ j : Nat, (j : Int) < (I (rA R r0 1) 1).toInt → BNX I (rA R (FA R (rA R r0 1) j) 1) (I (FA R (rA R r0 1) j) 0).toInt (I (rA R r0 1) 0).toInt) (hp2 : ∀ j, j < 16 → ¬ B (FA R (rA R r0 1) j) ∧ ¬ B (rA R (FA R (rA R r0 1) j) 1)) : Ex (d + 4) 157 [.ref r0, .int n1] (T, N, I, L, R) 1 6 (pW2 [3] T N R (pI T N R (fun x9 I9 L9 => (0 ≤ x9.toInt) ∧ (x9.toInt ≤ 1) ∧ (¬ (n1.toInt < 0 ∨ (I (rA R r0 1) 1).toInt ≤ n1.toInt ∨ 16 ≤ n1.toInt)) ∧ (IFF x9.toInt (EMA (I (rA R r0 1) 0).toInt (I (FA R (rA R r0 1) n1.toNatClampNeg) 0).toInt (fun k => (I (rA R (FA R (rA R r0 1) n1.toNatClampNeg) 1) k).toInt))) ∧ (IX A T I9 ∧ Chg B T [(3, 0)] I L I9 L9))) (fun e9 I9 L9 => (IX A T I9 ∧ Chg B T [(3, 0)] I L I9 L9) ∧ (e9 = 3 → n1.toInt < 0 ∨ (I (rA R r0 1) 1).toInt ≤ n1.toInt ∨ 16 ≤ n1.toInt))) := by
  refine ⟨_, rfl, Nat.le_of_ble_eq_true rfl, fun V C S => ?_⟩
  show V 0 [(0, .ref r0), (1, .int n1)] [] (T, N, I, L, R) 0 0
  have gn1 := rg n1
  obtain ⟨T_r0, A_r0, B_r0, ⟨r0_0, R_r0_0, H_r0_0⟩, ⟨r0_1, R_r0_1, H_r0_1⟩, ⟨r0_2, R_r0_2, H_r0_2⟩, ⟨r0_5, R_r0_5, H_r0_5⟩, ⟨r0_6, R_r0_6, H_r0_6⟩, ⟨r0_7, R_r0_7, H_r0_7⟩, ⟨r0_8, R_r0_8, H_r0_8⟩, ⟨r0_9, R_r0_9, H_r0_9⟩, ⟨r0_10, R_r0_10, H_r0_10⟩, ⟨r0_11, R_r0_11, H_r0_11⟩, ⟨r0_12, R_r0_12, H_r0_12⟩, ⟨r0_13, R_r0_13, H_r0_13⟩⟩ := id H_r0
  have z_r0_0 : rA R r0 0 = r0_0 := rA_e R_r0_0
  have z_r0_1 : rA R r0 1 = r0_1 := rA_e R_r0_1
  have z_r0_2 : rA R r0 2 = r0_2 := rA_e R_r0_2
  have z_r0_5 : rA R r0 5 = r0_5 := rA_e R_r0_5
  have z_r0_6 : rA R r0 6 = r0_6 := rA_e R_r0_6
  have z_r0_7 : rA R r0 7 = r0_7 := rA_e R_r0_7
  have z_r0_8 : rA R r0 8 = r0_8 := rA_e R_r0_8
  have z_r0_9 : rA R r0 9 = r0_9 := rA_e R_r0_9
  have z_r0_10 : rA R r0 10 = r0_10 := rA_e R_r0_10
  have z_r0_11 : rA R r0 11 = r0_11 := rA_e R_r0_11
  have z_r0_12 : rA R r0 12 = r0_12 := rA_e R_r0_12
  have z_r0_13 : rA R r0 13 = r0_13 := rA_e R_r0_13
  obtain ⟨T_r0_1, A_r0_1, B_r0_1, ⟨r0_1_6, R_r0_1_6, H_r0_1_6⟩, ⟨r0_1_7, R_r0_1_7, H_r0_1_7⟩, ⟨r0_1_8, R_r0_1_8, H_r0_1_8⟩, ⟨r0_1_9, R_r0_1_9, H_r0_1_9⟩, ⟨r0_1_10, R_r0_1_10, H_r0_1_10⟩⟩ := id H_r0_1
  have z_r0_1_6 : rA R r0_1 6 = r0_1_6 := rA_e R_r0_1_6
  have z_r0_1_7 : rA R r0_1 7 = r0_1_7 := rA_e R_r0_1_7
  have z_r0_1_8 : rA R r0_1 8 = r0_1_8 := rA_e R_r0_1_8
  have z_r0_1_9 : rA R r0_1 9 = r0_1_9 := rA_e R_r0_1_9
  have z_r0_1_10 : rA R r0_1 10 = r0_1_10 := rA_e R_r0_1_10
  obtain ⟨T_r0_5, A_r0_5, B_r0_5, ⟨r0_5_0, R_r0_5_0, H_r0_5_0⟩, ⟨r0_5_1, R_r0_5_1, H_r0_5_1⟩, ⟨r0_5_2, R_r0_5_2, H_r0_5_2⟩⟩ := id H_r0_5
  have z_r0_5_0 : rA R r0_5 0 = r0_5_0 := rA_e R_r0_5_0
  have z_r0_5_1 : rA R r0_5 1 = r0_5_1 := rA_e R_r0_5_1
  have z_r0_5_2 : rA R r0_5 2 = r0_5_2 := rA_e R_r0_5_2
  obtain ⟨T_r0_5_1, A_r0_5_1, B_r0_5_1, ⟨r0_5_1_1, R_r0_5_1_1, H_r0_5_1_1⟩⟩ := id H_r0_5_1
  have z_r0_5_1_1 : rA R r0_5_1 1 = r0_5_1_1 := rA_e R_r0_5_1_1
  obtain ⟨T_r0_5_1_1, N_r0_5_1_1, A_r0_5_1_1⟩ := id H_r0_5_1_1
  have hG := GS.of H_r0_1
  obtain ⟨T_r0_1_8, N_r0_1_8, A_r0_1_8, E_r0_1_8⟩ := id H_r0_1_8
  obtain ⟨T_r0_5_0, A_r0_5_0, B_r0_5_0, ⟨r0_5_0_6, R_r0_5_0_6, H_r0_5_0_6⟩, ⟨r0_5_0_7, R_r0_5_0_7, H_r0_5_0_7⟩, ⟨r0_5_0_8, R_r0_5_0_8, H_r0_5_0_8⟩, ⟨r0_5_0_9, R_r0_5_0_9, H_r0_5_0_9⟩, ⟨r0_5_0_10, R_r0_5_0_10, H_r0_5_0_10⟩⟩ := id H_r0_5_0
  have z_r0_5_0_6 : rA R r0_5_0 6 = r0_5_0_6 := rA_e R_r0_5_0_6
  have z_r0_5_0_7 : rA R r0_5_0 7 = r0_5_0_7 := rA_e R_r0_5_0_7
  have z_r0_5_0_8 : rA R r0_5_0 8 = r0_5_0_8 := rA_e R_r0_5_0_8
  have z_r0_5_0_9 : rA R r0_5_0 9 = r0_5_0_9 := rA_e R_r0_5_0_9
  have z_r0_5_0_10 : rA R r0_5_0 10 = r0_5_0_10 := rA_e R_r0_5_0_10
  try simp only [z_r0_0, z_r0_1, z_r0_2, z_r0_5, z_r0_6, z_r0_7, z_r0_8, z_r0_9, z_r0_10, z_r0_11, z_r0_12, z_r0_13, z_r0_1_6, z_r0_1_7, z_r0_1_8, z_r0_1_9, z_r0_1_10, z_r0_5_0, z_r0_5_1, z_r0_5_2, z_r0_5_1_1, z_r0_5_0_6, z_r0_5_0_7, z_r0_5_0_8, z_r0_5_0_9, z_r0_5_0_10] at hp0
  try simp only [z_r0_0, z_r0_1, z_r0_2, z_r0_5, z_r0_6, z_r0_7, z_r0_8, z_r0_9, z_r0_10, z_r0_11, z_r0_12, z_r0_13, z_r0_1_6, z_r0_1_7, z_r0_1_8, z_r0_1_9, z_r0_1_10, z_r0_5_0, z_r0_5_1, z_r0_5_2, z_r0_5_1_1, z_r0_5_0_6, z_r0_5_0_7, z_r0_5_0_8, z_r0_5_0_9, z_r0_5_0_10] at hp1
  try simp only [z_r0_0, z_r0_1, z_r0_2, z_r0_5, z_r0_6, z_r0_7, z_r0_8, z_r0_9, z_r0_10, z_r0_11, z_r0_12, z_r0_13, z_r0_1_6, z_r0_1_7, z_r0_1_8, z_r0_1_9, z_r0_1_10, z_r0_5_0, z_r0_5_1, z_r0_5_2, z_r0_5_1_1, z_r0_5_0_6, z_r0_5_0_7, z_r0_5_0_8, z_r0_5_0_9, z_r0_5_0_10] at hp2
  obtain ⟨w_r0_1_0, k0_r0_1_0⟩ : ∃ x, I r0_1 0 = x := ⟨_, rfl⟩
  have gw_r0_1_0 := rg w_r0_1_0
  have ow_r0_1_0 := IX.p hI A_r0_1 T_r0_1 k0_r0_1_0
  try simp only [k0_r0_1_0] at hp0
  try simp only [k0_r0_1_0] at hp1
  try simp only [k0_r0_1_0] at hp2
  refine k_aload_n C rfl rfl rfl ?_
  refine k_iload_n C rfl rfl rfl ?_
  refine w2_VR C (s_X11_toldForm_x hS hI H_r0) rfl rfl rfl rfl rfl ⟨_, rfl, rfl, T_r0, Nat.le_of_ble_eq_true rfl⟩ rfl rfl (Nat.le_of_ble_eq_true rfl) (Nat.le_of_ble_eq_true rfl) (Nat.le_of_ble_eq_true rfl) (by decide) (fun e9 he I9 L9 hq => by obtain ⟨⟨rfl, rfl⟩, hq⟩ := hq; exact Or.inl ⟨rfl, Or.inr ⟨e9, _, _, (by decide : ∀ z ∈ [3], z ∈ [3]) e9 he, rfl, rfl, ⟨⟨hI, Chg.rf⟩, (fun h9 => by subst h9; first | exact absurd he (by decide) | (have hx := hq rfl; exact hx))⟩⟩⟩) ?_
  rintro yy1 _ _ ⟨hyy1, p0yy1, p1yy1, rfl, rfl⟩
  obtain ⟨rr2, err2, H_rr2⟩ := hyy1
  subst err2
  try simp only [z_r0_0, z_r0_1, z_r0_2, z_r0_5, z_r0_6, z_r0_7, z_r0_8, z_r0_9, z_r0_10, z_r0_11, z_r0_12, z_r0_13, z_r0_1_6, z_r0_1_7, z_r0_1_8, z_r0_1_9, z_r0_1_10, z_r0_5_0, z_r0_5_1, z_r0_5_2, z_r0_5_1_1, z_r0_5_0_6, z_r0_5_0_7, z_r0_5_0_8, z_r0_5_0_9, z_r0_5_0_10] at p0yy1
  try simp only [z_r0_0, z_r0_1, z_r0_2, z_r0_5, z_r0_6, z_r0_7, z_r0_8, z_r0_9, z_r0_10, z_r0_11, z_r0_12, z_r0_13, z_r0_1_6, z_r0_1_7, z_r0_1_8, z_r0_1_9, z_r0_1_10, z_r0_5_0, z_r0_5_1, z_r0_5_2, z_r0_5_1_1, z_r0_5_0_6, z_r0_5_0_7, z_r0_5_0_8, z_r0_5_0_9, z_r0_5_0_10] at p1yy1
  try simp only [k0_r0_1_0] at p0yy1
  try have q0yy1 := congrArg Int32.toInt p0yy1
  try simp only [k0_r0_1_0] at p1yy1
  try have q1yy1 := congrArg Int32.toInt p1yy1
  have hF := p0yy1.symm; have hF2 := p1yy1; have oF := FA_e z_r0_1_8 hF; have nF := ncn (n := 16) (j := n1) (by omega) (by omega); have nF1 := ncz (x := n1) (by omega); have fF := FO.of H_rr2; have TF := fF.1; have m1 := hU.ne (Or.inl TF) hF R_r0_5_1 (Or.inl (t_nq T_r0_1_8 T_r0_5 (by decide)))
  refine k_astore_n C (lw := [(2, .ref rr2), (0, .ref r0), (1, .int n1)]) rfl rfl (Nat.le_of_ble_eq_true rfl) rfl ?_
  refine z_iconst C (z := 0) rfl rfl rfl (fun x3 ex3 => ?_)
  have J4 : ∀ (nn5 : Nat) (I6 : IT) (L7 : LT) (x8 : Int32), ((20 - x8.toInt).toNat = nn5) → (IX A T I6) → (Chg B T [(3, 0)] I L I6 L7) → (0 ≤ x8.toInt) → (x8.toInt ≤ 20) → (EML w_r0_1_0.toInt (I (FA R r0_1 n1.toNatClampNeg) 0).toInt (fun k => (I (rA R (FA R r0_1 n1.toNatClampNeg) 1) k).toInt) x8.toInt) → V 8 [(0, .ref r0), (2, .ref rr2), (3, .int x8)] [] (T, N, I6, L7, R) 1 6 := by
    intro nn5
    induction nn5 using Nat.strongRecOn with
    | _ nn5 ihJ4 =>
      intro I6 L7 x8 hmnn5 hI12 S11 b9 b10 ff8_0
      have gx8 := rg x8
      have e14 := Chg.k S11 T_r0_1 (by decide) (by decide) k0_r0_1_0
      refine k_iload_n C rfl rfl rfl ?_
      refine k_aload_n C rfl rfl rfl ?_
      refine g_R C rfl rfl rfl T_r0 rfl R_r0_1 ?_
      refine g_I C rfl rfl rfl T_r0_1 rfl e14 ?_
      refine b_icmp_gt C (t := 45) rfl rfl rfl (fun c15 => ?_) (fun c15 => ?_)
      · skip
        refine z_iconst C (z := 0) rfl rfl rfl (fun x16 ex16 => ?_)
        exact k_iret C rfl (Or.inr ⟨rfl, z01 (by omega) (by omega)⟩) (Nat.le_of_ble_eq_true rfl) (Nat.le_of_ble_eq_true rfl) (Or.inl ⟨_, _, _, rfl, rfl, by omega, by omega, by (try simp only [z_r0_0, z_r0_1, z_r0_2, z_r0_5, z_r0_6, z_r0_7, z_r0_8, z_r0_9, z_r0_10, z_r0_11, z_r0_12, z_r0_13, z_r0_1_6, z_r0_1_7, z_r0_1_8, z_r0_1_9, z_r0_1_10, z_r0_5_0, z_r0_5_1, z_r0_5_2, z_r0_5_1_1, z_r0_5_0_6, z_r0_5_0_7, z_r0_5_0_8, z_r0_5_0_9, z_r0_5_0_10]); omega, by (try simp only [z_r0_0, z_r0_1, z_r0_2, z_r0_5, z_r0_6, z_r0_7, z_r0_8, z_r0_9, z_r0_10, z_r0_11, z_r0_12, z_r0_13, z_r0_1_6, z_r0_1_7, z_r0_1_8, z_r0_1_9, z_r0_1_10, z_r0_5_0, z_r0_5_1, z_r0_5_2, z_r0_5_1_1, z_r0_5_0_6, z_r0_5_0_7, z_r0_5_0_8, z_r0_5_0_9, z_r0_5_0_10]); simp only [k0_r0_1_0]; exact EML.n ff8_0 (by omega) (by first | rfl | omega), hI12, (Chg.mono S11 (by decide))⟩)
      refine z_iconst C (z := 2) rfl rfl rfl (fun x17 ex17 => ?_)
      refine k_aload_n C rfl rfl rfl ?_
      refine g_R C rfl rfl rfl T_r0 rfl R_r0_5 ?_
      refine k_aload_n C rfl rfl rfl ?_
      refine k_iload_n C rfl rfl rfl ?_
      have eF := Chg.at (((Chg.mono S11 (by decide)) : Chg B T [(3, 0)] I L I6 L7)) (hp2 _ nF).1; have eB := Chg.at (((Chg.mono S11 (by decide)) : Chg B T [(3, 0)] I L I6 L7)) (hp2 _ nF).2; rw [oF] at eF eB; have hk9 := e14
      obtain ⟨T_rr2, A_rr2, ⟨rr2_1, R_rr2_1, H_rr2_1⟩⟩ := id H_rr2
      have z_rr2_1 : rA R rr2 1 = rr2_1 := rA_e R_rr2_1
      refine c_VI C (s_X0_howOften_x hS hI12 H_r0_5 H_rr2 (by omega) (by omega) hU (by rw [z_r0_5_1]; exact m1) (BNX.mv (hp1 n1.toNatClampNeg (by omega)) oF eF eB (by rw [z_r0_5_0, hp0, hk9])) (by rw [z_r0_5_0, hp0, hk9]; omega)) rfl rfl rfl rfl rfl ⟨_, rfl, rfl, T_r0_5, Nat.le_of_ble_eq_true rfl⟩ rfl rfl (Nat.le_of_ble_eq_true rfl) (Nat.le_of_ble_eq_true rfl) (Nat.le_of_ble_eq_true rfl) ?_
      rintro x18 I19 L20 ⟨o0x18, o1x18, p0x18, hI19, S21⟩
      try simp only [z_r0_0, z_r0_1, z_r0_2, z_r0_5, z_r0_6, z_r0_7, z_r0_8, z_r0_9, z_r0_10, z_r0_11, z_r0_12, z_r0_13, z_r0_1_6, z_r0_1_7, z_r0_1_8, z_r0_1_9, z_r0_1_10, z_r0_5_0, z_r0_5_1, z_r0_5_2, z_r0_5_1_1, z_r0_5_0_6, z_r0_5_0_7, z_r0_5_0_8, z_r0_5_0_9, z_r0_5_0_10, z_rr2_1] at S21
      have e22 := Chg.k S21 T_r0_1 (by decide) (by decide) e14
      have gx18 := rg x18
      try simp only [z_r0_0, z_r0_1, z_r0_2, z_r0_5, z_r0_6, z_r0_7, z_r0_8, z_r0_9, z_r0_10, z_r0_11, z_r0_12, z_r0_13, z_r0_1_6, z_r0_1_7, z_r0_1_8, z_r0_1_9, z_r0_1_10, z_r0_5_0, z_r0_5_1, z_r0_5_2, z_r0_5_1_1, z_r0_5_0_6, z_r0_5_0_7, z_r0_5_0_8, z_r0_5_0_9, z_r0_5_0_10, z_rr2_1] at p0x18
      try simp only [e14] at p0x18
      try have q0x18 := congrArg Int32.toInt p0x18
      have hh : HOF x18.toInt w_r0_1_0.toInt x8.toInt (I (FA R r0_1 n1.toNatClampNeg) 0).toInt (fun k => (I (rA R (FA R r0_1 n1.toNatClampNeg) 1) k).toInt) := HOF.mv p0x18 (by first | rfl | exact rA_e (by assumption)) (by rw [hp0, hk9]) oF eF eB; have eG := congrArg Int32.toInt (congrFun (Chg.at (((Chg.cons S11 (Chg.mono (Chg.up S21 (sl_2 (B_r0_5_1) (A_r0_5_1_1))) (by decide)) (by decide)) : Chg B T [(3, 0)] I L I19 L20)) (hp2 _ nF).1) 0)
      refine z_imulL C (c := 2) rfl rfl (by omega) ⟨by omega, by omega⟩ (fun x23 ex23 => ?_)
      refine k_aload_n C rfl rfl rfl ?_
      refine z_gI C rfl rfl rfl T_rr2 rfl (fun x24 ex24 => ?_)
      have gx24 := rg x24
      have ox24 := IX.deg hI19 A_rr2 T_rr2 ex24
      have eH := congrArg Int32.toInt (show I19 (FA R r0_1 n1.toNatClampNeg) 0 = x24 from by rw [oF]; assumption)
      refine b_icmp_le C (t := 39) rfl rfl rfl (fun c25 => ?_) (fun c25 => ?_)
      · skip
        refine z_iinc C (z := 1) (lw := fun x26 => [(3, .int x26), (0, .ref r0), (2, .ref rr2)]) rfl rfl rfl (Nat.le_of_ble_eq_true rfl) rfl ⟨by omega, by omega⟩ (fun _ => rfl) (fun x26 ex26 => ?_)
        show V 42 [(3, .int x26), (0, .ref r0), (2, .ref rr2)] _ _ _ _
        refine k_goto C (pc2 := 8) rfl rfl ?_
        refine k_sub S [(0, .ref r0), (2, .ref rr2), (3, .int x26)] (List.forall_mem_cons.mpr ⟨List.mem_of_getElem? (i := 1) rfl, List.forall_mem_cons.mpr ⟨List.mem_of_getElem? (i := 2) rfl, List.forall_mem_cons.mpr ⟨List.mem_of_getElem? (i := 0) rfl, fun _ h => nomatch h⟩⟩⟩) ?_
        exact ihJ4 _ (by omega) I19 L20 x26 rfl hI19 (Chg.cons S11 (Chg.mono (Chg.up S21 (sl_2 (B_r0_5_1) (A_r0_5_1_1))) (by decide)) (by decide)) (by omega) (by omega) (by exact EML.s ff8_0 hh (by omega) (by omega) (by omega))
      refine z_iconst C (z := 1) rfl rfl rfl (fun x27 ex27 => ?_)
      exact k_iret C rfl (Or.inr ⟨rfl, z01 (by omega) (by omega)⟩) (Nat.le_of_ble_eq_true rfl) (Nat.le_of_ble_eq_true rfl) (Or.inl ⟨_, _, _, rfl, rfl, by omega, by omega, by (try simp only [z_r0_0, z_r0_1, z_r0_2, z_r0_5, z_r0_6, z_r0_7, z_r0_8, z_r0_9, z_r0_10, z_r0_11, z_r0_12, z_r0_13, z_r0_1_6, z_r0_1_7, z_r0_1_8, z_r0_1_9, z_r0_1_10, z_r0_5_0, z_r0_5_1, z_r0_5_2, z_r0_5_1_1, z_r0_5_0_6, z_r0_5_0_7, z_r0_5_0_8, z_r0_5_0_9, z_r0_5_0_10, z_rr2_1]); omega, by (try simp only [z_r0_0, z_r0_1, z_r0_2, z_r0_5, z_r0_6, z_r0_7, z_r0_8, z_r0_9, z_r0_10, z_r0_11, z_r0_12, z_r0_13, z_r0_1_6, z_r0_1_7, z_r0_1_8, z_r0_1_9, z_r0_1_10, z_r0_5_0, z_r0_5_1, z_r0_5_2, z_r0_5_1_1, z_r0_5_0_6, z_r0_5_0_7, z_r0_5_0_8, z_r0_5_0_9, z_r0_5_0_10, z_rr2_1]); simp only [k0_r0_1_0]; exact EMA.y hh (by omega) (by omega) (by omega) (by first | rfl | omega), hI19, (Chg.cons S11 (Chg.mono (Chg.up S21 (sl_2 (B_r0_5_1) (A_r0_5_1_1))) (by decide)) (by decide))⟩)
  refine k_istore_n C (lw := [(3, .int x3), (2, .ref rr2), (0, .ref r0), (1, .int n1)]) rfl rfl (Nat.le_of_ble_eq_true rfl) rfl ?_
  refine k_sub S [(0, .ref r0), (2, .ref rr2), (3, .int x3)] (List.forall_mem_cons.mpr ⟨List.mem_of_getElem? (i := 2) rfl, List.forall_mem_cons.mpr ⟨List.mem_of_getElem? (i := 1) rfl, List.forall_mem_cons.mpr ⟨List.mem_of_getElem? (i := 0) rfl, fun _ h => nomatch h⟩⟩⟩) ?_
  exact J4 _ I L x3 rfl hI Chg.rf (by omega) (by omega) (by exact EML.z (by omega))

