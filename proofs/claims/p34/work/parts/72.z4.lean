/-! the reference: roots: exactly -/
/-- the world's forms, within p -/
def CNW (W : Nat → Int32) : Prop := ∀ f : Nat, (f : Int) < (W 1).toInt → ∀ k : Nat, (k : Int) ≤ (W (6 + 10 * f)).toInt → 0 ≤ (W (7 + 10 * f + k)).toInt ∧ (W (7 + 10 * f + k)).toInt < (W 0).toInt
theorem ZRL.i {I : IT} {nu r : Nat} {x k k' : Int32} (h : ZRL (RI I nu r) k.toInt) (o : x.toInt = (I nu (41 * r + k.toNatClampNeg)).toInt) (e : x.toInt = 0) (h0 : 0 ≤ k.toInt) (hk : k'.toInt = k.toInt + 1) : ZRL (RI I nu r) k'.toInt := fun j hj => by
  have n0 := ncz h0
  by_cases q : j = k.toNatClampNeg
  · subst q; exact o.symm.trans e
  · exact h j (by omega)
def OFR (x p t D : Int) (f : Nat → Int) : Prop := (t = p → 0 ≤ x ∧ f x.toNat ≠ 0 ∧ ZRL f x) ∧ (t ≠ p → HOW p t D f x)
theorem OFR.p {I : IT} {nu r : Nat} {x k : Int32} {p t D : Int} (h : ZRL (RI I nu r) k.toInt) (o : x.toInt = (I nu (41 * r + k.toNatClampNeg)).toInt) (e : x.toInt ≠ 0) (h0 : 0 ≤ k.toInt) (ht : t = p) : OFR k.toInt p t D (RI I nu r) := ⟨fun _ => ⟨h0, fun q => e (o.trans q), h⟩, fun q => absurd ht q⟩
theorem OFR.h {x p t D : Int} {f : Nat → Int} (h : HOW p t D f x) (ht : t ≠ p) : OFR x p t D f := ⟨fun q => absurd q ht, fun _ => h⟩
theorem OFR.f {x p t D : Int} {f : Nat → Int} (h : OFR x p t D f) (nz : ¬ ZRL f (D + 1)) : HOF x p t D f := ⟨fun z => absurd z nz, fun _ => ⟨fun q => by
  obtain ⟨a0, a2, a3⟩ := h.1 q
  refine ⟨a0, ?_, a2, a3⟩
  rcases Int.lt_or_le D x with c | c
  · exact absurd (fun j hj => a3 j (by omega)) nz
  · exact c, h.2⟩⟩
theorem RWF.cp {I I' : IT} {nu a b : Nat} {D n p t : Int} (c : CPN I I' nu a b (D + 1)) (hn : n = 0) : RWF I' nu b (D - n) (ITR p t (RI I nu a) n.toNat) := by
  subst hn
  intro j hj
  show (I' nu _).toInt = (I nu _).toInt
  rw [c j (by omega)]
def RDL (I : IT) (nu r : Nat) (p t E : Int) (g : Nat → Int) (k : Int) : Prop := ∀ j : Nat, (j : Int) ≤ E → RI I nu r j = if (j : Int) < k then SYN p t g j else g j
theorem RDL.z {I : IT} {nu r : Nat} {p t E k : Int} {g : Nat → Int} (h : RWF I nu r E g) (hk : k = 1) : RDL I nu r p t E g k := fun j hj => by
  rw [h j hj]
  by_cases q : (j : Int) < k
  · have z : j = 0 := by omega
    subst z; rw [if_pos q]; rfl
  · rw [if_neg q]
theorem RDL.s {I I' : IT} {nu r : Nat} {p E : Int} {t k k1 k' a b m w : Int32} {g : Nat → Int} (h : RDL I nu r p t.toInt E g k.toInt) (oa : a.toInt = (I nu (41 * r + k.toNatClampNeg)).toInt) (ob : b.toInt = (I nu (41 * r + k1.toNatClampNeg)).toInt) (tt : TMD m.toInt t.toInt b.toInt p) (pl : PLD w.toInt a.toInt m.toInt p) (hP : PUTD I I' nu r k.toNatClampNeg w) (hg : ∀ j : Nat, (j : Int) ≤ E → 0 ≤ g j ∧ g j < p) (hp : 0 < p) (ht : 0 ≤ t.toInt) (h1 : 1 ≤ k.toInt) (hE : k.toInt ≤ E) (e1 : k1.toInt = k.toInt - 1) (hk : k'.toInt = k.toInt + 1) : RDL I' nu r p t.toInt E g k'.toInt := fun j hj => by
  have n0 := ncz (x := k) (by omega)
  have n1 := ncz (x := k1) (by omega)
  have va : a.toInt = g k.toNatClampNeg := by
    have q := h k.toNatClampNeg (by omega)
    rw [if_neg (by omega)] at q
    rw [oa]; exact q
  have vb : b.toInt = SYN p t.toInt g k1.toNatClampNeg := by
    have q := h k1.toNatClampNeg (by omega)
    rw [if_pos (by omega)] at q
    rw [ob]; exact q
  have bb := SYN.b (t := t.toInt) hp (hg 0 (by omega)) k1.toNatClampNeg
  have ba := hg k.toNatClampNeg (by omega)
  show (I' nu _).toInt = _
  by_cases q : j = k.toNatClampNeg
  · subst q
    rw [hP.1, if_pos (by omega)]
    unfold PLD at pl; unfold TMD at tt
    have bm : 0 ≤ m.toInt := by rw [tt]; exact Int.tmod_nonneg _ (Int.mul_nonneg ht (by omega))
    have bw : 0 ≤ w.toInt ∧ w.toInt < p := by rw [pl]; exact ⟨Int.tmod_nonneg _ (by omega), Int.tmod_lt_of_pos _ hp⟩
    have bs := SYN.b (t := t.toInt) hp (hg 0 (by omega)) k.toNatClampNeg
    refine PmE.eq (p := p) ?_ bw.1 bw.2 bs.1 bs.2
    rw [show k.toNatClampNeg = k1.toNatClampNeg + 1 from by omega]
    show PmE p w.toInt ((g (k1.toNatClampNeg + 1) + SYN p t.toInt g k1.toNatClampNeg * t.toInt) % p)
    rw [pl, tt, va, vb, show k.toNatClampNeg = k1.toNatClampNeg + 1 from by omega, Int.mul_comm t.toInt]
    exact (PmE.tm _).tr ((PmE.rf.ad (PmE.tm _)).tr (PmE.em _).sy)
  · rw [hP.2 _ (by omega)]
    have z := h j hj
    have z : (I nu (41 * r + j)).toInt = _ := z
    rw [z]
    by_cases c : (j : Int) < k.toInt
    · rw [if_pos c, if_pos (by omega)]
    · rw [if_neg c, if_neg (by omega)]
theorem RDL.e {I I' : IT} {nu r : Nat} {p t E E' k n n' : Int} {f : Nat → Int} (h : RDL I nu r p t E (ITR p t f n.toNat) k) (e : I' nu = I nu) (hk : E < k) (hE : E' ≤ E) (h0 : 0 ≤ n) (hn : n' = n + 1) : RWF I' nu r E' (ITR p t f n'.toNat) := fun j hj => by
  rw [show n'.toNat = n.toNat + 1 from by omega]
  show (I' nu _).toInt = _
  rw [e]
  have z := h j (by omega)
  rw [if_pos (by omega)] at z
  exact z
theorem VAD.rt {I : IT} {nu r : Nat} {x p t y D E n : Int} {g : Nat → Int} (h : VAD x p (RI I nu r) t y E) (w : RWF I nu r (D - n) g) (hE : E = D - n) (hy : y = 1) (ht : 0 ≤ t) (hp : 0 < p) (h0 : 0 ≤ n) (hD : n ≤ D) (hg : ∀ k : Nat, (k : Int) ≤ D → 0 ≤ g k) : PmE p x (HRV t 1 g (D.toNat - n.toNat + 1)) ∧ 0 ≤ x ∧ x < p := by
  subst hE; subst hy
  have h := VAD.cg (g := g) h (fun k hk => w k hk) (by omega) rfl rfl rfl
  unfold VAD at h
  have e := vaS.h (p := p) (x := t) (y := 1) (f := g) (D := (D - n).toNat) ((D - n).toNat + 1) (Nat.le_refl _)
  rw [Nat.sub_self] at e
  have e : PmE p (vaS p g t 1 (D - n).toNat ((D - n).toNat + 1)) (HRV t 1 g ((D - n).toNat + 1) * 1) := e
  rw [Int.mul_one, ← h, show (D - n).toNat = D.toNat - n.toNat from by omega] at e
  have b := vaS.b (p := p) (x := t) (y := 1) (f := g) (D := (D - n).toNat) hp ht (by decide) (fun k hk => hg k (by omega)) ((D - n).toNat + 1) (Nat.le_refl _)
  rw [← h] at b
  exact ⟨e, b⟩
theorem ZRR.y {x p t D n : Int} {f : Nat → Int} (v : PmE p x (HRV t 1 (ITR p t f n.toNat) (D.toNat - n.toNat + 1)) ∧ 0 ≤ x ∧ x < p) (hx : x = 0) : ZRR p t D f n.toNat := by
  have v := v.1
  rw [hx] at v; exact v.sy
theorem ZRR.n {x p t D n : Int} {f : Nat → Int} (v : PmE p x (HRV t 1 (ITR p t f n.toNat) (D.toNat - n.toNat + 1)) ∧ 0 ≤ x ∧ x < p) (hx : x ≠ 0) : ¬ ZRR p t D f n.toNat := fun z => by
  have z : PmE p (HRV t 1 (ITR p t f n.toNat) (D.toNat - n.toNat + 1)) 0 := z
  exact hx ((v.1.tr z).eq v.2.1 v.2.2 (Int.le_refl 0) (by omega))
theorem ZRA.s {p t D n n' : Int} {f : Nat → Int} (h : ∀ i : Nat, (i : Int) < n → ZRR p t D f i) (z : ZRR p t D f n.toNat) (h0 : 0 ≤ n) (hn : n' = n + 1) : ∀ i : Nat, (i : Int) < n' → ZRR p t D f i := fun i hi => by
  by_cases q : i = n.toNat
  · subst q; exact z
  · exact h i (by omega)
/-- a row taken from the world, within p -/
theorem CNW.r {W : Nat → Int32} {I I' : IT} {w nu r : Nat} {f : Int32} {D : Int} (h : CNW W) (T : TKE I' I w nu r (6 + 10 * f.toNatClampNeg + 1) D) (e : I w = W) (hD : D = (W (6 + 10 * f.toNatClampNeg)).toInt) (h0 : 0 ≤ f.toInt) (h1 : f.toInt < (W 1).toInt) : (∀ k : Nat, (k : Int) ≤ D → 0 ≤ RI I' nu r k ∧ RI I' nu r k < (W 0).toInt) ∧ ∀ k : Nat, (k : Int) ≤ D → RI I' nu r k = (W (7 + 10 * f.toNatClampNeg + k)).toInt := by
  have n0 := ncz h0
  have g : ∀ k : Nat, (k : Int) ≤ D → RI I' nu r k = (W (7 + 10 * f.toNatClampNeg + k)).toInt := fun k hk => by
    rw [T k hk, e, show 6 + 10 * f.toNatClampNeg + 1 + k = 7 + 10 * f.toNatClampNeg + k from by omega]
  exact ⟨fun k hk => by rw [g k hk]; exact h _ (by omega) k (by omega), g⟩
theorem NQA.z {I : IT} {dg nu r : Nat} {D : Int} (h : NQA I dg nu r) (e : (I dg r).toInt = D) : ZRL (RI I nu r) (D + 1) := fun j hj => h j (by omega)
theorem NQA.n {I : IT} {dg nu r : Nat} {D : Int} (h : ¬ NQA I dg nu r) (e : (I dg r).toInt = D) : ¬ ZRL (RI I nu r) (D + 1) := fun z => h (fun j hj => z j (by omega))
theorem HOF.nq {I : IT} {dg nu r : Nat} {x y p t D : Int} (h : IFF y (NQA I dg nu r)) (e : (I dg r).toInt = D) (hy : y = 1) (hx : x = 99) : HOF x p t D (RI I nu r) := ⟨fun _ => hx, fun z => absurd (NQA.z (h.1 hy) e) z⟩
theorem OFR.nq {I : IT} {dg nu r : Nat} {x y p t D : Int} (g : OFR x p t D (RI I nu r)) (h : IFF y (NQA I dg nu r)) (e : (I dg r).toInt = D) (hy : y = 0) : HOF x p t D (RI I nu r) := g.f (NQA.n (h.2 hy) e)
theorem HOF.fin {x p t D D' : Int} {f g : Nat → Int} (h : HOF x p t D' f) (eD : D' = D) (e : ∀ k : Nat, (k : Int) ≤ D' → f k = g k) : HOF x p t D g := by subst eD; exact h.cg e
theorem RWF.w {I : IT} {nu r : Nat} {D D' : Int} {g : Nat → Int} (h : RWF I nu r D g) (e : D' = D) : ∀ k : Nat, (k : Int) ≤ D' → RI I nu r k = g k := fun k hk => h k (by omega)
theorem RWF.cn {I : IT} {nu r : Nat} {D p : Int} {g : Nat → Int} (h : RWF I nu r D g) (e : ∀ k : Nat, (k : Int) ≤ D → 0 ≤ g k ∧ g k < p) : ∀ k : Nat, (k : Int) ≤ D → 0 ≤ RI I nu r k ∧ RI I nu r k < p := fun k hk => by rw [h k hk]; exact e k hk
theorem CNW.g {W : Nat → Int32} {f : Int32} {D p : Int} (h : CNW W) (hD : (W (6 + 10 * f.toNatClampNeg)).toInt = D) (hp : (W 0).toInt = p) (h0 : 0 ≤ f.toInt) (h1 : f.toInt < (W 1).toInt) : ∀ k : Nat, (k : Int) ≤ D → 0 ≤ (W (7 + 10 * f.toNatClampNeg + k)).toInt ∧ (W (7 + 10 * f.toNatClampNeg + k)).toInt < p := fun k hk => by
  have n0 := ncz h0
  subst hp
  exact h _ (by omega) k (by omega)
theorem RBL.o {b z w : Int32} {p D k k' x : Int} {f : Nat → Int} (h : RBL b p D f k) (g : HOF x p k D f) (hx : x ≤ 0) (h0 : 0 ≤ k) (hz : z.toInt = 0) (ew : w = b ||| z) (hk : k' = k + 1) : RBL w p D f k' := by
  have e : z = 0 := Int32.toInt_inj.mp (hz.trans (show (0 : Int) = (0 : Int32).toInt from rfl))
  subst e
  rw [ew, Int32.or_zero]
  exact h.n g hx h0 hk
def EMQ (i p D : Int) (f : Nat → Int) (k : Int) : Prop := (i = 1 → EMA p D f) ∧ (i = 0 → EML p D f k)
theorem EMQ.z {I : IT} {dg nu r : Nat} {i p D D' k : Int} {g : Nat → Int} (h : IFF i (NQA I dg nu r)) (e : (I dg r).toInt = D') (eD : D' = D) (w : RWF I nu r D g) (hk : k = 0) (hp : 0 ≤ p) (h0 : 0 ≤ D) (hD : D ≤ 40) : EMQ i p D g k := by
  refine ⟨fun q => ⟨0, by omega, 99, ⟨fun _ => rfl, fun z => absurd (fun j hj => ?_) z⟩, by omega⟩, fun _ => EML.z hk⟩
  rw [← w j (by omega)]; exact h.1 q j (by omega)
theorem EMQ.y {i j p D k k' x : Int} {f : Nat → Int} (_ : EMQ i p D f k) (g : HOF x p k D f) (hx : D < 2 * x) (h0 : 0 ≤ k) (hk : k ≤ p) (hj : j = 1) : EMQ j p D f k' := ⟨fun _ => (EMA.y (y := 1) g hx h0 hk rfl).1 rfl, fun q => by omega⟩
theorem EMQ.n {i j p D k k' x : Int} {f : Nat → Int} (h : EMQ i p D f k) (hi : i = 0) (g : HOF x p k D f) (hx : ¬ D < 2 * x) (h0 : 0 ≤ k) (hj : j = 0) (hk : k' = k + 1) : EMQ j p D f k' := ⟨fun q => by omega, fun _ => (h.2 hi).s g hx h0 hk⟩
theorem EMQ.e {i p D k : Int} {f : Nat → Int} (h : EMQ i p D f k) (hk : p < k ∨ i = 1) (hi : 0 ≤ i ∧ i ≤ 1) : IFF i (EMA p D f) := ⟨h.1, fun q => by
  rcases hk with c | c
  · exact ((h.2 q).n c q).2 q
  · omega⟩
