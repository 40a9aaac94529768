/-! the reference: powers: exactly -/
def NE0 (x : Int) : Prop := x ≠ 0
/-- a row less v times another at k, number by number -/
def RSB (I : IT) (nu : Nat) (F1 G : Nat → Int) (p D v k i : Int) : Prop := ∀ j : Nat, (j : Int) ≤ D → 0 ≤ RI I nu 40 j ∧ RI I nu 40 j < p ∧ PmE p (RI I nu 40 j) (F1 j - v * (if k ≤ (j : Int) ∧ (j : Int) < k + i then G (j - k.toNat) else 0))
theorem RSB.z {I I1 : IT} {nu : Nat} {F1 G : Nat → Int} {p D v k i : Int} (h : RCN I1 nu 40 p D) (e : RI I1 nu 40 = F1) (s : SMR I1 I nu 40) (hD : D ≤ 40) (hi : i = 0) : RSB I nu F1 G p D v k i := fun j hj => by
  have z : RI I nu 40 j = RI I1 nu 40 j := by show (I nu _).toInt = (I1 nu _).toInt; rw [s j (by omega)]
  have q := h j hj
  rw [z, if_neg (by omega), ← e, Int.mul_zero, Int.sub_zero]
  exact ⟨q.1, q.2, PmE.rf⟩
theorem RSB.s {I1 I2 : IT} {nu : Nat} {F1 G : Nat → Int} {p D k : Int} {v a b m w i i' y y2 : Int32} (h : RSB I1 nu F1 G p D v.toInt k i.toInt) (oa : a.toInt = (I1 nu (41 * 40 + y2.toNatClampNeg)).toInt) (hb : b.toInt = G i.toNatClampNeg) (bb : 0 ≤ b.toInt) (bv : 0 ≤ v.toInt) (t : TMD m.toInt v.toInt b.toInt p) (ls : LSD w.toInt a.toInt m.toInt p) (hP : PUTD I1 I2 nu 40 y.toNatClampNeg w) (ey : y.toInt = k + i.toInt) (ey2 : y2.toInt = k + i.toInt) (hk : 0 ≤ k) (hi : 0 ≤ i.toInt) (hD : k + i.toInt ≤ D) (hi' : i'.toInt = i.toInt + 1) (hp : 0 < p) : RSB I2 nu F1 G p D v.toInt k i'.toInt := fun j hj => by
  have e : y2 = y := Int32.toInt_inj.mp (by omega)
  subst e
  have y0 := ncz (x := y2) (by omega)
  have i0 := ncz hi
  by_cases q : j = y2.toNatClampNeg
  · subst q
    have z : RI I2 nu 40 y2.toNatClampNeg = w.toInt := by show (I2 nu _).toInt = _; rw [hP.1]
    have ha := h y2.toNatClampNeg (by omega)
    have ha2 : RI I1 nu 40 y2.toNatClampNeg = a.toInt := oa.symm
    rw [ha2, if_neg (by omega), Int.mul_zero, Int.sub_zero] at ha
    unfold TMD at t; unfold LSD at ls
    have m0 : 0 ≤ m.toInt ∧ m.toInt < p := by rw [t]; exact ⟨Int.tmod_nonneg _ (Int.mul_nonneg bv bb), Int.tmod_lt_of_pos _ hp⟩
    rw [z, if_pos (by omega), show y2.toNatClampNeg - k.toNat = i.toNatClampNeg from by omega]
    refine ⟨by rw [ls]; exact Int.tmod_nonneg _ (by omega), by rw [ls]; exact Int.tmod_lt_of_pos _ hp, ?_⟩
    rw [ls]
    refine (PmE.tm _).tr ?_
    have c : PmE p (a.toInt - m.toInt + p) (a.toInt - m.toInt) := Int.add_emod_right ..
    refine c.tr (PmE.sbt ha.2.2 ?_)
    rw [t, hb]; exact PmE.tm _
  · have z : RI I2 nu 40 j = RI I1 nu 40 j := by show (I2 nu _).toInt = (I1 nu _).toInt; rw [hP.2 _ (by omega)]
    have q2 := h j hj
    rw [z]
    by_cases c : k ≤ (j : Int) ∧ (j : Int) < k + i.toInt
    · rw [if_pos c] at q2; rw [if_pos (by omega)]; exact q2
    · rw [if_neg c] at q2; rw [if_neg (by omega)]; exact q2
theorem RSB.e {I2 : IT} {nu : Nat} {F1 G : Nat → Int} {p D E v k i : Int} (h : RSB I2 nu F1 G p D v k i) (hi : i = E + 1) (hk : 0 ≤ k) : RCN I2 nu 40 p D ∧ ∀ j : Nat, (j : Int) ≤ D → PmE p (RI I2 nu 40 j) (F1 j - v * (if k.toNat ≤ j ∧ ((j - k.toNat : Nat) : Int) ≤ E then G (j - k.toNat) else 0)) := ⟨fun j hj => ⟨(h j hj).1, (h j hj).2.1⟩, fun j hj => by
  have q := (h j hj).2.2
  by_cases c : k ≤ (j : Int) ∧ (j : Int) < k + i
  · rw [if_pos c] at q; rw [if_pos (by omega)]; exact q
  · rw [if_neg c] at q; rw [if_neg (by omega)]; exact q⟩
/-- the quotient so far, and what is left -/
def QCU (e : Nat → Int) (k : Int) (i : Nat) : Int := if (i : Int) < k then e i else 0
def QEV (p : Int) (F : Nat → Int) (D : Int) (G : Nat → Int) (E : Int) (e f : Nat → Int) (k : Int) : Prop := (∀ i : Nat, (i : Int) < k → 0 ≤ e i ∧ e i < p) ∧ ∀ j : Nat, (j : Int) ≤ D → PmE p (F j) (CNV (QCU e k) (CUT G E) j + f j)
theorem QEV.z {p D E k : Int} {F G e f : Nat → Int} (h : ∀ j : Nat, (j : Int) ≤ D → f j = F j) (hk : k = 0) : QEV p F D G E e f k := ⟨fun i hi => by omega, fun j hj => by
  have z : CNV (QCU e k) (CUT G E) j = 0 := SUMN.z0 _ (fun i _ => by
    show QCU e k i * _ = 0
    unfold QCU; rw [if_neg (by omega), Int.zero_mul])
  rw [z, Int.zero_add, h j hj]; exact PmE.rf⟩
theorem QEV.s {p D E k k' v : Int} {F G e e' f f' : Nat → Int} (h : QEV p F D G E e f k) (he : ∀ i : Nat, (i : Int) < k → e' i = e i) (hv : e' k.toNat = v) (bv : 0 ≤ v ∧ v < p) (hf : ∀ j : Nat, (j : Int) ≤ D → PmE p (f' j) (f j - v * (if k.toNat ≤ j ∧ ((j - k.toNat : Nat) : Int) ≤ E then G (j - k.toNat) else 0))) (h0 : 0 ≤ k) (hk : k' = k + 1) : QEV p F D G E e' f' k' := by
  subst hk
  obtain ⟨h1, h2⟩ := h
  refine ⟨fun i hi => ?_, fun j hj => ?_⟩
  · by_cases c : i = k.toNat
    · subst c; rw [hv]; exact bv
    · rw [he i (by omega)]; exact h1 i (by omega)
  · have eq : QCU e' (k + 1) = fun i => 1 * QCU e k i + v * SHY k.toNat (DL0 1) i := funext fun i => by
      unfold QCU SHY DL0
      rcases Nat.lt_trichotomy i k.toNat with c | c | c
      · rw [if_pos (by omega), if_pos (by omega), if_pos c, he i (by omega)]; omega
      · subst c; rw [if_pos (by omega), if_neg (by omega), if_neg (by omega), if_pos (by omega), hv]; omega
      · rw [if_neg (by omega), if_neg (by omega), if_neg (by omega), if_neg (by omega)]; omega
    have sh : CNV (SHY k.toNat (DL0 1)) (CUT G E) j = if k.toNat ≤ j ∧ ((j - k.toNat : Nat) : Int) ≤ E then G (j - k.toNat) else 0 := by
      by_cases c : k.toNat ≤ j
      · have s := CNV.sh k.toNat (DL0 1) (CUT G E) (j - k.toNat)
        rw [show k.toNat + (j - k.toNat) = j from by omega] at s
        rw [s, CNV.d0, Int.one_mul]
        unfold CUT
        by_cases d : ((j - k.toNat : Nat) : Int) ≤ E
        · rw [if_pos d, if_pos ⟨c, d⟩]
        · rw [if_neg d, if_neg (fun z => d z.2)]
      · rw [CNV.s0 (by omega), if_neg (fun z => c z.1)]
    rw [eq, CNV.li, sh, Int.one_mul]
    have a := (PmE.rf (p := p) (x := CNV (QCU e k) (CUT G E) j + v * (if k.toNat ≤ j ∧ ((j - k.toNat : Nat) : Int) ≤ E then G (j - k.toNat) else 0))).ad (hf j hj)
    rw [show CNV (QCU e k) (CUT G E) j + v * (if k.toNat ≤ j ∧ ((j - k.toNat : Nat) : Int) ≤ E then G (j - k.toNat) else 0) + (f j - v * (if k.toNat ≤ j ∧ ((j - k.toNat : Nat) : Int) ≤ E then G (j - k.toNat) else 0)) = CNV (QCU e k) (CUT G E) j + f j from by omega] at a
    exact (h2 j hj).tr a.sy
theorem PUTD.sm {I1 I2 : IT} {nu r r' k : Nat} {x : Int32} (w : PUTD I1 I2 nu r' k x) (hk : k < 41) (hn : r ≠ r') : SMR I1 I2 nu r := fun j hj => w.2 _ (by omega)
theorem RI.s {I1 I2 : IT} {nu r : Nat} (s : SMR I1 I2 nu r) {j : Nat} (hj : j < 41) : RI I2 nu r j = RI I1 nu r j := by show (I2 nu _).toInt = (I1 nu _).toInt; rw [s j hj]
theorem RI.p {I1 I2 : IT} {nu r k : Nat} {x : Int32} (w : PUTD I1 I2 nu r k x) {j : Nat} (hn : j ≠ k) : RI I2 nu r j = RI I1 nu r j := by show (I2 nu _).toInt = (I1 nu _).toInt; rw [w.2 _ (by omega)]
theorem RI.w {I1 I2 : IT} {nu r k : Nat} {x : Int32} (w : PUTD I1 I2 nu r k x) : RI I2 nu r k = x.toInt := by show (I2 nu _).toInt = _; rw [w.1]
theorem RWF.cp1 {I I' : IT} {nu a b : Nat} {n D : Int} (c : CPN I I' nu a b n) (hn : D < n) : RWF I' nu b D (RI I nu a) := fun j hj => by
  show (I' nu _).toInt = (I nu _).toInt
  rw [c j (by omega)]
theorem RWF.sm1 {I I' : IT} {nu r : Nat} {D : Int} (s : ∀ k, k < 41 → I' nu (41 * r + k) = I nu (41 * r + k)) (hD : D ≤ 40) : RWF I' nu r D (RI I nu r) := fun j hj => by
  show (I' nu _).toInt = (I nu _).toInt
  rw [s j (by omega)]
theorem RWF.cpy {I I' : IT} {nu a b : Nat} {n D : Int} {g : Nat → Int} (h : RWF I nu a D g) (c : CPN I I' nu a b n) (hn : D < n) : RWF I' nu b D g := fun j hj => by
  rw [← h j hj]
  show (I' nu _).toInt = (I nu _).toInt
  rw [c j (by omega)]
theorem RWF.rc {I : IT} {nu r : Nat} {p D D' : Int} {g : Nat → Int} (h : RWF I nu r D g) (b : ∀ k : Nat, (k : Int) ≤ D → 0 ≤ g k ∧ g k < p) (e : D' = D) : RCN I nu r p D' := fun k hk => by
  have q := h k (by omega)
  rw [q]; exact b k (by omega)
theorem STP.r {I I' : IT} {nu r : Nat} {n : Int32} {D : Int} (s : STP I I' nu r n.toInt D) {k : Nat} (hk : (k : Int) ≤ D - n.toInt) : RI I' nu r k = RI I nu r (n.toNatClampNeg + k) := by
  show (I' nu _).toInt = (I nu _).toInt
  rw [s k hk, show 41 * r + k + n.toInt.toNat = 41 * r + (n.toNatClampNeg + k) from by have h9 : n.toNatClampNeg = n.toInt.toNat := rfl; omega]
theorem RWF.n0 {I : IT} {nu r a : Nat} {D : Int} {f : Nat → Int} (h : RWF I nu r D (fun k => f (a + k))) (h0 : 0 ≤ D) (nz : f a ≠ 0) : RI I nu r 0 ≠ 0 := fun q => nz ((h 0 (by omega)).symm.trans q)
theorem FST.cg {f g : Nat → Int} {a : Nat} {D : Int} (h : FST f a D) (e : ∀ k : Nat, (k : Int) ≤ D → g k = f k) : FST g a D := ⟨h.1, by rw [e a h.1]; exact h.2.1, fun k hk => by rw [e k (by have := h.1; omega)]; exact h.2.2 k hk⟩
theorem PmE.iv {a x p b : Int} (h : (a * x) % p = 1) (e : a = b) (hp : 1 < p) : PmE p (x * b) 1 := by
  subst e
  rw [Int.mul_comm]
  show _ % p = 1 % p
  rw [h, Int.emod_eq_of_lt (by decide) hp]
theorem STP.f {I I' : IT} {nu r : Nat} {n : Int32} {D : Int} (_ : STP I I' nu r n.toInt D) (z : ∀ k : Nat, (k : Int) < n.toInt → RI I nu r k = 0) (h : NE1 I nu (41 * r + n.toNatClampNeg)) (h0 : 0 ≤ n.toInt) (h1 : n.toInt ≤ D) : FST (RI I nu r) n.toNatClampNeg D := by
  have n0 := ncz h0
  exact ⟨by omega, h, fun k hk => z k (by omega)⟩
/-- put behind y's, the reference's -/
def COR (I : IT) (nu : Nat) (y : Int) (b : Nat → Int) (o p B k : Int) : Prop := ∀ j : Nat, (j : Int) ≤ y + B → RI I nu 40 j = if (j : Int) < y ∨ y + k ≤ (j : Int) then 0 else (b (j - y.toNat) * o) % p
theorem COR.z {I : IT} {nu : Nat} {y : Int} {b : Nat → Int} {o p B k : Int} (h : AZ I nu (41 * 40) (y + B + 1)) (hk : k = 0) : COR I nu y b o p B k := fun j hj => by
  rw [if_pos (by omega)]; exact h j (by omega)
theorem COR.s {I1 I2 : IT} {nu : Nat} {b : Nat → Int} {p B y : Int} {a k k' n o v : Int32} (h : COR I1 nu y b o.toInt p B k.toInt) (va : a.toInt = b k.toNatClampNeg) (ba : 0 ≤ a.toInt) (bo : 0 ≤ o.toInt) (t : TMD v.toInt o.toInt a.toInt p) (hP : PUTD I1 I2 nu 40 n.toNatClampNeg v) (hy : 0 ≤ y) (h0 : 0 ≤ k.toInt) (en : n.toInt = k.toInt + y) (hk : k'.toInt = k.toInt + 1) : COR I2 nu y b o.toInt p B k'.toInt := fun j hj => by
  have n0 := ncz (x := n) (by omega)
  have k0 := ncz h0
  by_cases q : j = n.toNatClampNeg
  · subst q
    unfold TMD at t
    rw [RI.w hP, if_neg (by omega), t, show n.toNatClampNeg - y.toNat = k.toNatClampNeg from by omega, ← va, Int.tmod_eq_emod_of_nonneg (Int.mul_nonneg bo ba), Int.mul_comm]
  · rw [RI.p hP q, h j hj]
    by_cases c : (j : Int) < y ∨ y + k.toInt ≤ (j : Int)
    · rw [if_pos c, if_pos (by omega)]
    · rw [if_neg c, if_neg (by omega)]
theorem COM.or {I : IT} {nu : Nat} {p D E D1 E1 B S W y k o : Int} {f g b s : Nat → Int} {i j : Nat} (hf : FST f i D) (hg : FST g j E) (t : SCD p (fun k => f (i + k)) D1 (fun k => g (j + k)) E1 s S b B) (z : ∀ k : Nat, (k : Int) ≤ S → s k = 0) (hB : 0 ≤ B) (hD : D1 = D - i) (hE : E1 = E - j) (ho : PmE p (o * b 0) 1) (c : COR I nu y b o p B k) (hk : k = B + 1) (hy : y = ((min i j : Nat) : Int)) (hW : W = y + B) (hp : 1 < p) : COM p f D g E (RI I nu 40) W := by
  subst hD; subst hE; subst hk
  refine ⟨i, j, fun k => (b k * o) % p, B, hf, hg, HCF.fin (c := o) t.sw z hB ho (fun k hk => ⟨?_, Int.emod_nonneg _ (by omega), Int.emod_lt_of_pos _ (by omega)⟩) hp, by omega, fun k hk => ?_⟩
  · rw [Int.mul_comm o]; exact PmE.em _
  · rw [c k (by omega)]
    by_cases q : k < min i j
    · rw [if_pos (by omega), if_pos q]
    · rw [if_neg (by omega), if_neg q, show k - y.toNat = k - min i j from by omega]
theorem RVX.vf {I : IT} {nu r : Nat} {p n D D' : Int} {f g : Nat → Int} {x y : Nat} {a c : Nat} (h : RVX I nu r p n (DIF f D' x y)) (hn : n = D - 1) (eD : D' = D) (hx : x = a) (hy : y = c) (w : ∀ k : Nat, (k : Int) ≤ D → f k = g k) (hc : c ≤ 1) : VRF (RI I nu r) p (D - 1) (DIF g D a c) := by
  subst hn; subst hx; subst hy; subst eD
  intro j hj
  obtain ⟨h1, h2, h3⟩ := h j hj
  refine ⟨h1, h2, ?_⟩
  unfold DIF at h3 ⊢
  rw [← w _ (by omega)]; exact h3
theorem VRF.sm {I I' : IT} {nu r : Nat} {p n : Int} {g : Nat → Int} (h : VRF (RI I nu r) p n g) (s : SMR I I' nu r) (hn : n ≤ 40) : VRF (RI I' nu r) p n g := fun j hj => by
  rw [RI.s s (by omega)]; exact h j hj
theorem VRF.rc {I : IT} {nu r : Nat} {p n n' : Int} {g : Nat → Int} (h : VRF (RI I nu r) p n g) (e : n' = n) : RCN I nu r p n' := fun k hk => ⟨(h k (by omega)).1, (h k (by omega)).2.1⟩
theorem PLN.nq {x p D : Int} {f : Nat → Int} (h : ¬ D < 2) (z : ZRL f (D + 1)) (e : x = 0) (hp : 0 < p) : PLN x p D f := by
  have d : ∀ a c : Nat, c ≤ 1 → VRF (fun _ => 0) p (D - 1) (DIF f D a c) := fun a c hc j hj => by
    refine ⟨Int.le_refl 0, hp, ?_⟩
    unfold DIF
    rw [z (j + c) (by omega), Int.zero_mul, Int.zero_mul]; exact PmE.rf
  exact PLN.z h (d 1 0 (by omega)) (d 0 1 (by omega)) (Or.inl (fun _ _ => rfl)) e
theorem NQI9 {I : IT} {dg nu r : Nat} {x D : Int} (h : IFF x (NQA I dg nu r)) (e : (I dg r).toInt = D) : IFF x (ZRL (RI I nu r) (D + 1)) := ⟨fun q => NQA.z (h.1 q) e, fun q => NQA.n (h.2 q) e⟩
theorem NQI.w {I : IT} {dg nu r : Nat} {x D : Int} {g : Nat → Int} (h : IFF x (NQA I dg nu r)) (e : (I dg r).toInt = D) (w : RWF I nu r D g) : IFF x (ZRL g (D + 1)) := ⟨fun q => ((NQI9 h e).1 q).cg (fun k hk => w k (by omega)), fun q z => (NQI9 h e).2 q (z.cg (fun k hk => (w k (by omega)).symm))⟩
theorem COM.cg {p D D' E E' W W' : Int} {f f' g g' r r' : Nat → Int} (h : COM p f D g E r W) (eD : D = D') (eE : E = E') (eW : W = W') (ef : ∀ k : Nat, (k : Int) ≤ D → f k = f' k) (eg : ∀ k : Nat, (k : Int) ≤ E → g k = g' k) (er : ∀ k : Nat, (k : Int) ≤ W → r k = r' k) : COM p f' D' g' E' r' W' := by
  subst eD; subst eE; subst eW
  obtain ⟨a, b, h, H, x1, x2, ⟨z0, z1, z2, z3⟩, x4, x5⟩ := h
  have a1 := x1.1
  have b1 := x2.1
  refine ⟨a, b, h, H, x1.cg (fun k hk => (ef k hk).symm), x2.cg (fun k hk => (eg k hk).symm), ⟨z0, z1, z2, fun d Hd h0 hu hs => Iff.trans ⟨fun q => ⟨q.1.cg (fun k hk => ?_), q.2.cg (fun k hk => ?_)⟩, fun q => ⟨q.1.cg (fun k hk => ?_), q.2.cg (fun k hk => ?_)⟩⟩ (z3 d Hd h0 hu hs)⟩, x4, fun k hk => (er k hk).symm.trans (x5 k hk)⟩
  · show PmE p (f (a + k)) (f' (a + k)); rw [ef _ (by omega)]; exact PmE.rf
  · show PmE p (g (b + k)) (g' (b + k)); rw [eg _ (by omega)]; exact PmE.rf
  · show PmE p (f' (a + k)) (f (a + k)); rw [ef _ (by omega)]; exact PmE.rf
  · show PmE p (g' (b + k)) (g (b + k)); rw [eg _ (by omega)]; exact PmE.rf
def PWU (p t : Int) : Int := if t < p then 1 else 0
def PWY (p t : Int) : Int := if t < p then (0 - t + p).tmod p else 1
theorem RWF.eqm {I I' : IT} {nu r : Nat} {D : Int} {g : Nat → Int} (h : RWF I nu r D g) (e : I' nu = I nu) : RWF I' nu r D g := fun j hj => by
  show (I' nu _).toInt = _
  rw [e]; exact h j hj
theorem BNI.pa : ∀ n : Nat, n < 8 → ∀ k : Nat, k < 8 → k ≤ n → BNI ((n + 1 : Nat) : Int) (k + 1) = (if k + 1 ≤ n then BNI n (k + 1) else 0) + BNI n k := by decide
theorem BNI.o : ∀ n : Nat, n < 9 → BNI n n = 1 := by decide
theorem PmE.pw {p a b : Int} (h : PmE p a b) : ∀ n : Nat, PmE p (a ^ n) (b ^ n)
  | 0 => by rw [Int.pow_zero, Int.pow_zero]; exact PmE.rf
  | n + 1 => by rw [Int.pow_succ, Int.pow_succ]; exact (PmE.pw h n).ml h
theorem wdN.b1 {p v : Int} : ∀ n : Nat, n < 9 → ∀ k : Nat, k ≤ n → PmE p (wdN p 1 v n 0 (fun _ => 1) k) (BNI n k * v ^ k)
  | 0, _, k, hk => by
    have e : k = 0 := by omega
    subst e
    show PmE p 1 (1 * v ^ 0)
    rw [Int.pow_zero]; exact PmE.rf
  | n + 1, h, k, hk => by
    have ih := wdN.b1 (p := p) (v := v) n (by omega)
    show PmE p (wdF p 1 v (ctF ((0 + n : Nat) : Int) (wdN p 1 v n 0 (fun _ => 1))) k) _
    unfold wdF
    refine (PmE.tm _).tr ?_
    rcases k with _ | k
    · rw [if_pos rfl, Int.add_zero]
      refine (PmE.tm _).tr ?_
      rw [Int.mul_one]
      unfold ctF
      rw [if_pos (by omega)]
      exact ih 0 (by omega)
    · rw [if_neg (Nat.succ_ne_zero k)]
      refine ((PmE.tm _).ad (PmE.tm _)).tr ?_
      show PmE p (ctF ((0 + n : Nat) : Int) (wdN p 1 v n 0 (fun _ => 1)) (k + 1) * 1 + ctF ((0 + n : Nat) : Int) (wdN p 1 v n 0 (fun _ => 1)) k * v) _
      have a : PmE p (ctF ((0 + n : Nat) : Int) (wdN p 1 v n 0 (fun _ => 1)) (k + 1) * 1) ((if k + 1 ≤ n then BNI n (k + 1) else 0) * v ^ (k + 1)) := by
        rw [Int.mul_one]
        unfold ctF
        by_cases c : k + 1 ≤ n
        · rw [if_pos (by omega), if_pos c]; exact ih (k + 1) c
        · rw [if_neg (by omega), if_neg c, Int.zero_mul]; exact PmE.rf
      have b : PmE p (ctF ((0 + n : Nat) : Int) (wdN p 1 v n 0 (fun _ => 1)) k * v) (BNI n k * v ^ k * v) := by
        unfold ctF
        rw [if_pos (by omega)]; exact (ih k (by omega)).ml PmE.rf
      refine (a.ad b).tr ?_
      rw [BNI.pa n (by omega) k (by omega) (by omega), Int.pow_succ, Int.add_mul, Int.mul_assoc (BNI n k)]
      exact PmE.rf
theorem wdN.pw {p t : Int} {D k : Nat} (hp : PRM p) (h0 : 0 ≤ t) (ht : t ≤ p) (hD : D ≤ 8) (hk : k ≤ D) : 0 ≤ wdN p (PWU p t) (PWY p t) D 0 (fun _ => 1) k ∧ PmE p (wdN p (PWU p t) (PWY p t) D 0 (fun _ => 1) k) (BNI D k * PTV p t ((D : Int) + 1) k) := by
  have p0 : 11 ≤ p := by unfold PRM at hp; omega
  unfold PWU PWY
  by_cases c : t < p
  · rw [if_pos c, if_pos c]
    refine ⟨wdN.p (by omega) (by decide) (Int.tmod_nonneg _ (by omega)) (fun _ => by decide) D k, (wdN.b1 D (by omega) k hk).tr (PmE.rf.ml ?_)⟩
    unfold PTV
    rw [if_neg (by omega)]
    refine PmE.pw ((PmE.tm _).tr ?_) k
    show (0 - t + p) % p = (-t) % p
    rw [show 0 - t + p = -t + p from by omega]; exact Int.add_emod_right ..
  · have z : t = p := by omega
    subst z
    rw [if_neg c, if_neg c, wdN.o (fun _ => ⟨by omega, by omega⟩) D k (by omega)]
    unfold PTV
    rw [if_pos rfl]
    by_cases d : k < D
    · rw [if_pos d, if_neg (by omega), Int.mul_zero]; exact ⟨Int.le_refl 0, PmE.rf⟩
    · have e : k = D := by omega
      subst e
      rw [if_neg d, if_pos (by omega), BNI.o k (by omega), Int.mul_one]; exact ⟨show (0 : Int) ≤ 1 by decide, PmE.rf⟩
/-- the table of powers -/
def PWT (W : Nat → Int32) (p D t : Int) : Prop := ∀ s : Nat, (s : Int) < t → ∀ k : Nat, (k : Int) ≤ D → 0 ≤ (W (9 * s + k)).toInt ∧ PmE p (W (9 * s + k)).toInt (BNI D k * PTV p s (D + 1) k)
theorem PWT.z {W : Nat → Int32} {p D t : Int} (h : t = 0) : PWT W p D t := fun s hs => by omega
def PW2 (W W9 : Nat → Int32) (t : Nat) (k : Int) (G : Nat → Int) : Prop := (∀ m : Nat, (m : Int) < k → (W (9 * t + m)).toInt = G m) ∧ ∀ j : Nat, (j < 9 * t ∨ 9 * t + k.toNat ≤ j) → W j = W9 j
theorem PW2.z {W W9 : Nat → Int32} {t : Nat} {k : Int} {G : Nat → Int} (h : W = W9) (hk : k = 0) : PW2 W W9 t k G := ⟨fun m hm => by omega, fun j _ => by rw [h]⟩
theorem PW2.s {I1 I2 : IT} {b : Nat} {W9 : Nat → Int32} {G : Nat → Int} {t k k' j v : Int32} (h : PW2 (I1 b) W9 t.toNatClampNeg k.toInt G) (hu : I2 = u2 I1 b j.toNatClampNeg v) (ej : j.toInt = 9 * t.toInt + k.toInt) (hv : v.toInt = G k.toNatClampNeg) (h0 : 0 ≤ k.toInt) (ht : 0 ≤ t.toInt) (hk : k'.toInt = k.toInt + 1) : PW2 (I2 b) W9 t.toNatClampNeg k'.toInt G := by
  have k0 := ncz h0
  have t0 := ncz ht
  have j0 := ncz (x := j) (by omega)
  have ej2 : j.toNatClampNeg = 9 * t.toNatClampNeg + k.toNatClampNeg := by omega
  refine ⟨fun m hm => ?_, fun i hi => ?_⟩
  · by_cases q : m = k.toNatClampNeg
    · subst q; rw [hu, ej2, u2_s, hv]
    · rw [hu, u2_k (by omega)]; exact h.1 m (by omega)
  · rw [hu, u2_k (by omega)]; exact h.2 i (by omega)
theorem PWT.s {W W9 : Nat → Int32} {p D k : Int} {t t' : Int32} {n : Int32} (h : PWT W9 p D t.toInt) (q : PW2 W W9 t.toNatClampNeg k (wdN p (PWU p t.toInt) (PWY p t.toInt) n.toNatClampNeg 0 (fun _ => 1))) (hn : n.toInt = D) (hk : k = D + 1) (hp : PRM p) (h0 : 0 ≤ t.toInt) (ht : t.toInt ≤ p) (hD : 0 ≤ D ∧ D ≤ 8) (ht' : t'.toInt = t.toInt + 1) : PWT W p D t'.toInt := fun s hs m hm => by
  have t0 := ncz h0
  have n0 := ncz (x := n) (by omega)
  by_cases c : s = t.toNatClampNeg
  · subst c
    rw [q.1 m (by omega), t0]
    have e := wdN.pw (D := n.toNatClampNeg) (k := m) hp h0 ht (by omega) (by omega)
    rw [show ((n.toNatClampNeg : Nat) : Int) = D from by omega] at e
    exact e
  · rw [q.2 (9 * s + m) (by omega)]; exact h s (by omega) m hm
theorem PWT.g {W : Nat → Int32} {p D t : Int} {s : Int32} (h : PWT W p D t) (h0 : 0 ≤ s.toInt) (hs : s.toInt < t) : ∀ m : Nat, (m : Int) ≤ D → 0 ≤ (W (9 * s.toNatClampNeg + m)).toInt ∧ PmE p (W (9 * s.toNatClampNeg + m)).toInt (BNI D m * PTV p s.toInt (D + 1) m) := fun m hm => by
  have s0 := ncz h0
  have e := h s.toNatClampNeg (by omega) m hm
  rw [s0] at e; exact e
/-- a row less the powers told -/
def RLS (I : IT) (nu : Nat) (p D : Int) (F ts cs : Nat → Int) (a b : Nat) (k : Int) : Prop := ∀ m : Nat, (m : Int) ≤ D → 0 ≤ RI I nu 42 m ∧ RI I nu 42 m < p ∧ PmE p (RI I nu 42 m) (F m - BNI D m * SPS p (D + 1) ts cs (if (m : Int) < k then b else a) m)
theorem RLS.z {I I1 : IT} {nu a : Nat} {p D n : Int} {ts cs : Nat → Int} (h : CPN I I1 nu 40 42 n) (hn : D < n) (bF : ∀ m : Nat, (m : Int) ≤ D → 0 ≤ RI I nu 40 m ∧ RI I nu 40 m < p) (ha : a = 0) : RLS I1 nu p D (RI I nu 40) ts cs a a 0 := fun m hm => by
  subst ha
  have e : RI I1 nu 42 m = RI I nu 40 m := by
    show (I1 nu _).toInt = (I nu _).toInt
    rw [h m (by omega)]
  rw [e, if_neg (by omega)]
  refine ⟨(bF m hm).1, (bF m hm).2, ?_⟩
  show PmE p _ (RI I nu 40 m - BNI D m * 0)
  rw [Int.mul_zero, Int.sub_zero]; exact PmE.rf
theorem RLS.i {I : IT} {nu a b : Nat} {p D k : Int} {F ts cs : Nat → Int} (h : RLS I nu p D F ts cs a a 0) (hk : k = 0) : RLS I nu p D F ts cs a b k := fun m hm => by
  have e := h m hm
  rw [if_neg (by omega)] at e
  rw [if_neg (by omega)]; exact e
theorem RLS.o {I : IT} {nu a b c : Nat} {p D k : Int} {F ts cs : Nat → Int} (h : RLS I nu p D F ts cs a b k) (hk : D < k) (hc : c = b) : RLS I nu p D F ts cs c c 0 := fun m hm => by
  subst hc
  have e := h m hm
  rw [if_pos (by omega)] at e
  rw [if_neg (by omega)]; exact e
theorem RLS.s {I1 I2 : IT} {nu a b : Nat} {p D : Int} {F ts cs : Nat → Int} {k k' x c w m v : Int32} (h : RLS I1 nu p D F ts cs a b k.toInt) (hb : b = a + 1) (hx : x.toInt = RI I1 nu 42 k.toNatClampNeg) (hc : c.toInt = cs a) (c0 : 0 ≤ c.toInt) (hw : 0 ≤ w.toInt ∧ PmE p w.toInt (BNI D k.toNatClampNeg * PTV p (ts a) (D + 1) k.toNatClampNeg)) (hm : TMD m.toInt c.toInt w.toInt p) (hl : LSD v.toInt x.toInt m.toInt p) (hP : PUTD I1 I2 nu 42 k.toNatClampNeg v) (h0 : 0 ≤ k.toInt) (hD : k.toInt ≤ D) (hp : 0 < p) (hk : k'.toInt = k.toInt + 1) : RLS I2 nu p D F ts cs a b k'.toInt := fun j hj => by
  have k0 := ncz h0
  by_cases q : j = k.toNatClampNeg
  · subst q
    have e := h k.toNatClampNeg (by omega)
    rw [if_neg (by omega), ← hx] at e
    unfold TMD at hm; unfold LSD at hl
    have m0 := Int.tmod_nonneg p (Int.mul_nonneg c0 hw.1)
    have m1 := Int.tmod_lt_of_pos (c.toInt * w.toInt) hp
    rw [← hm] at m0 m1
    rw [RI.w hP, if_pos (by omega), hl]
    refine ⟨Int.tmod_nonneg _ (by omega), Int.tmod_lt_of_pos _ hp, (PmE.tm _).tr ?_⟩
    have z : PmE p (x.toInt - m.toInt + p) (x.toInt - m.toInt) := Int.add_emod_right ..
    refine z.tr ?_
    have g : PmE p m.toInt (cs a * (BNI D k.toNatClampNeg * PTV p (ts a) (D + 1) k.toNatClampNeg)) := by
      rw [hm, ← hc]; exact (PmE.tm _).tr (PmE.rf.ml hw.2)
    have r := PmE.sbt e.2.2 g
    subst hb
    show PmE p _ (F k.toNatClampNeg - BNI D k.toNatClampNeg * (SPS p (D + 1) ts cs a k.toNatClampNeg + cs a * PTV p (ts a) (D + 1) k.toNatClampNeg))
    rwa [show F k.toNatClampNeg - BNI D k.toNatClampNeg * SPS p (D + 1) ts cs a k.toNatClampNeg - cs a * (BNI D k.toNatClampNeg * PTV p (ts a) (D + 1) k.toNatClampNeg) = F k.toNatClampNeg - BNI D k.toNatClampNeg * (SPS p (D + 1) ts cs a k.toNatClampNeg + cs a * PTV p (ts a) (D + 1) k.toNatClampNeg) from by grind] at r
  · rw [RI.p hP q]
    have e := h j hj
    by_cases c9 : (j : Int) < k.toInt
    · rw [if_pos c9] at e; rw [if_pos (by omega)]; exact e
    · rw [if_neg c9] at e; rw [if_neg (by omega)]; exact e
/-- no numbers behind the first m make it a sum -/
def NOF (p D : Int) (B F : Nat → Int) (n : Nat) (ts cs : Nat → Int) (m : Nat) : Prop := ∀ c : Nat → Int, (∀ i, i < m → c i = cs i) → (∀ i, m ≤ i → i < n → 0 < c i ∧ c i < p) → ¬ SPF p D B F n ts c
/-- whether the row is a multiple of the last one's power -/
def ILQ (x y p D : Int) (R G : Nat → Int) (k : Int) : Prop := (x = 1 → y ≠ 0 ∧ ∀ m : Nat, (m : Int) < k → R m = (y * G m).tmod p) ∧ (x = 0 → y = 0 ∨ ∃ m : Nat, (m : Int) ≤ D ∧ R m ≠ (y * G m).tmod p)
theorem ILQ.z {x y p D k : Int} {R G : Nat → Int} (h : y ≠ 0 ∧ x = 1 ∨ y = 0 ∧ x = 0) (hk : k = 0) : ILQ x y p D R G k := ⟨fun _ => ⟨by omega, fun m hm => by omega⟩, fun _ => Or.inl (by omega)⟩
theorem ILQ.s {x x' y p D : Int} {R G : Nat → Int} {k k' u w m : Int32} (h : ILQ x y p D R G k.toInt) (hx : x ≠ 0) (b : 0 ≤ x ∧ x ≤ 1) (hu : u.toInt = R k.toNatClampNeg) (hw : w.toInt = G k.toNatClampNeg) (hm : TMD m.toInt y w.toInt p) (c : u.toInt = m.toInt ∧ x' = 1 ∨ u.toInt ≠ m.toInt ∧ x' = 0) (h0 : 0 ≤ k.toInt) (hD : k.toInt ≤ D) (hk : k'.toInt = k.toInt + 1) : ILQ x' y p D R G k'.toInt := by
  have k0 := ncz h0
  unfold TMD at hm
  obtain ⟨a1, a2⟩ := h.1 (by omega)
  rw [hw] at hm
  refine ⟨fun q => ⟨a1, fun j hj => ?_⟩, fun q => Or.inr ⟨k.toNatClampNeg, by omega, ?_⟩⟩
  · by_cases z : j = k.toNatClampNeg
    · subst z
      rw [← hu, ← hm]; omega
    · exact a2 j (by omega)
  · rw [← hu, ← hm]; omega
theorem ILQ.y {x y p D k t : Int} {R G F ts cs cs' : Nat → Int} {n : Nat} (h : ILQ x y p D R G k) (hx : x = 1) (hk : D < k) (rl : ∀ m : Nat, (m : Int) ≤ D → PmE p (R m) (F m - BNI D m * SPS p (D + 1) ts cs n m)) (g : ∀ m : Nat, (m : Int) ≤ D → 0 ≤ G m ∧ PmE p (G m) (BNI D m * PTV p t (D + 1) m)) (ht : t = ts n) (e : ∀ i, i < n → cs' i = cs i) (hb : cs' n = y) (bb : 0 ≤ y ∧ y < p) : (0 < cs' n ∧ cs' n < p) ∧ SPF p D (BNI D) F (n + 1) ts cs' := by
  obtain ⟨a1, a2⟩ := h.1 hx
  refine ⟨by omega, fun m hm => ?_⟩
  have r := rl m hm
  rw [a2 m (by omega)] at r
  have s := ((PmE.tm (p := p) (y * G m)).sy.tr r).sy
  have u := s.tr ((PmE.rf (x := y)).ml (g m hm).2)
  have w := u.ad (PmE.rf (x := BNI D m * SPS p (D + 1) ts cs n m))
  rw [show F m - BNI D m * SPS p (D + 1) ts cs n m + BNI D m * SPS p (D + 1) ts cs n m = F m from by omega] at w
  refine w.tr ?_
  show PmE p _ (BNI D m * (SPS p (D + 1) ts cs' n m + cs' n * PTV p (ts n) (D + 1) m))
  rw [hb, ← ht]
  have z : PmE p (SPS p (D + 1) ts cs n m) (SPS p (D + 1) ts cs' n m) := SPS.cg n (fun i hi => ⟨rfl, by rw [e i hi]; exact PmE.rf⟩)
  have z2 := ((PmE.rf (x := y * (BNI D m * PTV p t (D + 1) m))).ad ((PmE.rf (x := BNI D m)).ml z))
  refine z2.tr ?_
  rw [show y * (BNI D m * PTV p t (D + 1) m) + BNI D m * SPS p (D + 1) ts cs' n m = BNI D m * (SPS p (D + 1) ts cs' n m + y * PTV p t (D + 1) m) from by grind]
  exact PmE.rf
theorem ILQ.n {x y p D k t : Int} {R G F ts cs : Nat → Int} {n m0 : Nat} (h : ILQ x y p D R G k) (hx : x = 0) (rl : ∀ m : Nat, (m : Int) ≤ D → 0 ≤ R m ∧ R m < p ∧ PmE p (R m) (F m - BNI D m * SPS p (D + 1) ts cs n m)) (g : ∀ m : Nat, (m : Int) ≤ D → 0 ≤ G m ∧ PmE p (G m) (BNI D m * PTV p t (D + 1) m)) (ht : t = ts n) (hy : y = R m0) (hm : (m0 : Int) ≤ D) (h1 : BNI D m0 * PTV p t (D + 1) m0 = 1) (hp : 0 < p) : NOF p D (BNI D) F (n + 1) ts cs n := fun c c1 c2 s => by
  have q : ∀ m : Nat, (m : Int) ≤ D → PmE p (R m) (c n * (BNI D m * PTV p t (D + 1) m)) := fun m hm => by
    have a := s m hm
    have a : PmE p (F m) (BNI D m * (SPS p (D + 1) ts c n m + c n * PTV p (ts n) (D + 1) m)) := a
    have z : PmE p (SPS p (D + 1) ts cs n m) (SPS p (D + 1) ts c n m) := SPS.cg n (fun i hi => ⟨rfl, by rw [c1 i hi]; exact PmE.rf⟩)
    have b := PmE.sbt a ((PmE.rf (x := BNI D m)).ml z)
    rw [show BNI D m * (SPS p (D + 1) ts c n m + c n * PTV p (ts n) (D + 1) m) - BNI D m * SPS p (D + 1) ts c n m = c n * (BNI D m * PTV p (ts n) (D + 1) m) from by grind] at b
    rw [ht]
    exact (rl m hm).2.2.tr b
  have cn := c2 n (Nat.le_refl n) (by omega)
  have e := q m0 hm
  rw [h1, Int.mul_one, ← hy] at e
  have ry := rl m0 hm
  rw [← hy] at ry
  have yc : y = c n := e.eq ry.1 ry.2.1 (by omega) cn.2
  rcases h.2 hx with z | ⟨m, hm, z⟩
  · omega
  · refine z ?_
    have gm := g m hm
    have a := (q m hm).tr ((PmE.rf (x := c n)).ml gm.2.sy)
    rw [← yc] at a
    have nn := Int.mul_nonneg (show 0 ≤ y by omega) gm.1
    exact (a.tr (PmE.tm (p := p) (y * G m)).sy).eq (rl m hm).1 (rl m hm).2.1 (Int.tmod_nonneg _ nn) (Int.tmod_lt_of_pos _ hp)
theorem PTV.a1 {p t L : Int} (h : t ≠ p) : PTV p t L 0 = 1 := by unfold PTV; rw [if_neg h]; exact Int.pow_zero _
theorem PTV.b1 {p t L : Int} {k : Nat} (h : t = p) (hk : (k : Int) = L - 1) : PTV p t L k = 1 := by unfold PTV; rw [if_pos h, if_pos hk]
theorem BNI.o1 {D : Int} {k : Nat} (h : (k : Int) = D) (h8 : D ≤ 8) : BNI D k = 1 := by
  have e := BNI.o k (by omega)
  rwa [h] at e
theorem SPF.fc {p D : Int} {B F F' : Nat → Int} {n : Nat} {ts cs : Nat → Int} (h : SPF p D B F n ts cs) (e : ∀ k : Nat, (k : Int) ≤ D → F k = F' k) : SPF p D B F' n ts cs := fun k hk => by rw [← e k hk]; exact h k hk
theorem SPF.tc {p D : Int} {B F : Nat → Int} {n : Nat} {ts ts' cs cs' : Nat → Int} (h : SPF p D B F n ts cs) (e : ∀ i, i < n → ts i = ts' i ∧ cs i = cs' i) : SPF p D B F n ts' cs' := fun k hk => (h k hk).tr (PmE.rf.ml (SPS.cg n (fun i hi => ⟨(e i hi).1, by rw [(e i hi).2]; exact PmE.rf⟩)))
theorem NOF.cg {p D : Int} {B F F' : Nat → Int} {n m m' : Nat} {ts ts' cs cs' : Nat → Int} (h : NOF p D B F n ts cs m) (e : ∀ k : Nat, (k : Int) ≤ D → F k = F' k) (et : ∀ i, i < n → ts i = ts' i) (ec : ∀ i, i < m → cs i = cs' i) (em : m' = m) : NOF p D B F' n ts' cs' m' := fun c c1 c2 s => by
  subst em
  exact h c (fun i hi => (c1 i hi).trans (ec i hi).symm) c2 ((s.fc (fun k hk => (e k hk).symm)).tc (fun i hi => ⟨(et i hi).symm, rfl⟩))
/-- no number below v at the place m -/
def NOV (p D : Int) (B F : Nat → Int) (n : Nat) (ts cs : Nat → Int) (m : Nat) (v : Int) : Prop := ∀ c : Nat → Int, (∀ i, i < m → c i = cs i) → (∀ i, m ≤ i → i < n → 0 < c i ∧ c i < p) → c m < v → ¬ SPF p D B F n ts c
theorem NOV.z {p D v : Int} {B F : Nat → Int} {n m : Nat} {ts cs : Nat → Int} (h : v = 1) (hm : m < n) : NOV p D B F n ts cs m v := fun c _ c2 c3 => by have := c2 m (Nat.le_refl m) hm; omega
theorem NOV.s {p D v v' : Int} {B F : Nat → Int} {n m m1 : Nat} {ts cs cs1 : Nat → Int} (h : NOV p D B F n ts cs m v) (q : NOF p D B F n ts cs1 m1) (hm : m1 = m + 1) (e : ∀ i, i < m → cs1 i = cs i) (ev : cs1 m = v) (hv : v' = v + 1) : NOV p D B F n ts cs m v' := fun c c1 c2 c3 s => by
  subst hm
  rcases Int.lt_or_le (c m) v with z | z
  · exact h c c1 c2 z s
  · refine q c (fun i hi => ?_) (fun i h1 h2 => c2 i (by omega) h2) s
    by_cases y : i = m
    · subst y; rw [ev]; omega
    · rw [c1 i (by omega), e i (by omega)]
theorem NOV.e {p D v : Int} {B F : Nat → Int} {n m : Nat} {ts cs : Nat → Int} (h : NOV p D B F n ts cs m v) (hv : p ≤ v) (hm : m < n) : NOF p D B F n ts cs m := fun c c1 c2 s => h c c1 c2 (by have := c2 m (Nat.le_refl m) hm; omega) s
/-- what is left to look at -/
def NXS (p D : Int) (B F : Nat → Int) (n : Nat) (Q : (Nat → Int) → Prop) : Prop := ∀ ts cs, RIS p n ts → NZS p n cs → SPF p D B F n ts cs → Q ts
def QA1 (a : Int) (ts : Nat → Int) : Prop := a ≤ ts 0
def QB1 (a b : Int) (ts : Nat → Int) : Prop := a < ts 0 ∨ (ts 0 = a ∧ b ≤ ts 1)
def QC1 (a b c : Int) (ts : Nat → Int) : Prop := a < ts 0 ∨ (ts 0 = a ∧ (b < ts 1 ∨ (ts 1 = b ∧ c ≤ ts 2)))
theorem NXS.z {p D a : Int} {B F : Nat → Int} {n : Nat} (h : a = 0) (hn : 0 < n) : NXS p D B F n (QA1 a) := fun ts _ r _ _ => by
  have := r.1 0 hn
  show a ≤ ts 0; omega
theorem NXS.a {p D a a' : Int} {B F : Nat → Int} {n : Nat} {ts cs : Nat → Int} (h : NXS p D B F n (QA1 a)) (q : NOF p D B F n ts cs 0) (hn : n = 1) (ha : ts 0 = a) (h' : a' = a + 1) : NXS p D B F n (QA1 a') := fun u c r z s => by
  subst hn
  have w : a ≤ u 0 := h u c r z s
  show a' ≤ u 0
  rcases Int.lt_or_le a (u 0) with y | y
  · omega
  · exact (q c (fun i hi => absurd hi (Nat.not_lt_zero i)) (fun i _ h2 => z i h2) (s.tc (fun i hi => ⟨by have e : i = 0 := by omega
                                                                                                     subst e; omega, rfl⟩))).elim
theorem NXS.ab {p D a b : Int} {B F : Nat → Int} {n : Nat} (h : NXS p D B F n (QA1 a)) (hn : 1 < n) (hb : b = a + 1) : NXS p D B F n (QB1 a b) := fun u c r z s => by
  have w : a ≤ u 0 := h u c r z s
  have l : u 0 < u 1 := r.2 0 hn
  show a < u 0 ∨ (u 0 = a ∧ b ≤ u 1); omega
theorem NXS.ba {p D a a' b : Int} {B F : Nat → Int} {n : Nat} (h : NXS p D B F n (QB1 a b)) (hn : 1 < n) (hb : p < b) (h' : a' = a + 1) : NXS p D B F n (QA1 a') := fun u c r z s => by
  have w : a < u 0 ∨ (u 0 = a ∧ b ≤ u 1) := h u c r z s
  have l := r.1 1 hn
  show a' ≤ u 0; omega
theorem NXS.b {p D a b b' : Int} {B F : Nat → Int} {n : Nat} {ts cs : Nat → Int} (h : NXS p D B F n (QB1 a b)) (q : NOF p D B F n ts cs 0) (hn : n = 2) (ha : ts 0 = a) (hb : ts 1 = b) (h' : b' = b + 1) : NXS p D B F n (QB1 a b') := fun u c r z s => by
  subst hn
  have w : a < u 0 ∨ (u 0 = a ∧ b ≤ u 1) := h u c r z s
  show a < u 0 ∨ (u 0 = a ∧ b' ≤ u 1)
  by_cases y : u 0 = a ∧ u 1 = b
  · exact (q c (fun i hi => absurd hi (Nat.not_lt_zero i)) (fun i _ h2 => z i h2) (s.tc (fun i hi => ⟨by rcases (show i = 0 ∨ i = 1 by omega) with e | e <;> subst e <;> omega, rfl⟩))).elim
  · omega
theorem NXS.bc {p D a b c : Int} {B F : Nat → Int} {n : Nat} (h : NXS p D B F n (QB1 a b)) (hn : 2 < n) (hc : c = b + 1) : NXS p D B F n (QC1 a b c) := fun u d r z s => by
  have w : a < u 0 ∨ (u 0 = a ∧ b ≤ u 1) := h u d r z s
  have l : u 1 < u 2 := r.2 1 hn
  show a < u 0 ∨ (u 0 = a ∧ (b < u 1 ∨ (u 1 = b ∧ c ≤ u 2))); omega
theorem NXS.cb {p D a b b' c : Int} {B F : Nat → Int} {n : Nat} (h : NXS p D B F n (QC1 a b c)) (hn : 2 < n) (hc : p < c) (h' : b' = b + 1) : NXS p D B F n (QB1 a b') := fun u d r z s => by
  have w : a < u 0 ∨ (u 0 = a ∧ (b < u 1 ∨ (u 1 = b ∧ c ≤ u 2))) := h u d r z s
  have l := r.1 2 hn
  show a < u 0 ∨ (u 0 = a ∧ b' ≤ u 1); omega
theorem NXS.c {p D a b c c' : Int} {B F : Nat → Int} {n : Nat} {ts cs : Nat → Int} (h : NXS p D B F n (QC1 a b c)) (q : NOF p D B F n ts cs 0) (hn : n = 3) (ha : ts 0 = a) (hb : ts 1 = b) (hc : ts 2 = c) (h' : c' = c + 1) : NXS p D B F n (QC1 a b c') := fun u d r z s => by
  subst hn
  have w : a < u 0 ∨ (u 0 = a ∧ (b < u 1 ∨ (u 1 = b ∧ c ≤ u 2))) := h u d r z s
  show a < u 0 ∨ (u 0 = a ∧ (b < u 1 ∨ (u 1 = b ∧ c' ≤ u 2)))
  by_cases y : u 0 = a ∧ u 1 = b ∧ u 2 = c
  · exact (q d (fun i hi => absurd hi (Nat.not_lt_zero i)) (fun i _ h2 => z i h2) (s.tc (fun i hi => ⟨by rcases (show i = 0 ∨ i = 1 ∨ i = 2 by omega) with e | e | e <;> subst e <;> omega, rfl⟩))).elim
  · omega
theorem NXS.e {p D a : Int} {B F : Nat → Int} {n : Nat} (h : NXS p D B F n (QA1 a)) (hn : 0 < n) (ha : p < a) : ¬ EXN p D B F n := fun z => by
  obtain ⟨ts, cs, h1, h2, h3⟩ := z
  have w : a ≤ ts 0 := h ts cs h1 h2 h3
  have l := h1.1 0 hn
  omega
theorem NXS.y1 {p D a : Int} {B F : Nat → Int} {n : Nat} {ts cs : Nat → Int} (h : NXS p D B F n (QA1 a)) (hn : n = 1) (ha : ts 0 = a) (b0 : 0 ≤ a ∧ a ≤ p) (z : ∀ i, i < n → 0 < cs i ∧ cs i < p) (s : SPF p D B F n ts cs) : PWL p D B F n ts cs := by
  subst hn
  refine ⟨⟨fun i hi => by have e : i = 0 := by omega
                          subst e; omega, fun i hi => by omega⟩, z, s, fun u c r z' s' => ?_⟩
  have w : a ≤ u 0 := h u c r z' s'
  show (0 : Int) * 20 + ts 0 ≤ 0 * 20 + u 0; omega
theorem NXS.y2 {p D a b : Int} {B F : Nat → Int} {n : Nat} {ts cs : Nat → Int} (h : NXS p D B F n (QB1 a b)) (hn : n = 2) (ha : ts 0 = a) (hb : ts 1 = b) (hp : p ≤ 19) (b0 : 0 ≤ a ∧ a < b ∧ b ≤ p) (z : ∀ i, i < n → 0 < cs i ∧ cs i < p) (s : SPF p D B F n ts cs) : PWL p D B F n ts cs := by
  subst hn
  refine ⟨⟨fun i hi => by rcases (show i = 0 ∨ i = 1 by omega) with e | e <;> subst e <;> omega, fun i hi => by
    have e : i = 0 := by omega
    subst e; show ts 0 < ts 1; omega⟩, z, s, fun u c r z' s' => ?_⟩
  have w : a < u 0 ∨ (u 0 = a ∧ b ≤ u 1) := h u c r z' s'
  have l := r.1 1 (by omega)
  show ((0 : Int) * 20 + ts 0) * 20 + ts 1 ≤ (0 * 20 + u 0) * 20 + u 1; omega
theorem NXS.y3 {p D a b c : Int} {B F : Nat → Int} {n : Nat} {ts cs : Nat → Int} (h : NXS p D B F n (QC1 a b c)) (hn : n = 3) (ha : ts 0 = a) (hb : ts 1 = b) (hc : ts 2 = c) (hp : p ≤ 19) (b0 : 0 ≤ a ∧ a < b ∧ b < c ∧ c ≤ p) (z : ∀ i, i < n → 0 < cs i ∧ cs i < p) (s : SPF p D B F n ts cs) : PWL p D B F n ts cs := by
  subst hn
  refine ⟨⟨fun i hi => by rcases (show i = 0 ∨ i = 1 ∨ i = 2 by omega) with e | e | e <;> subst e <;> omega, fun i hi => by
    rcases (show i = 0 ∨ i = 1 by omega) with e | e <;> subst e
    · show ts 0 < ts 1; omega
    · show ts 1 < ts 2; omega⟩, z, s, fun u d r z' s' => ?_⟩
  have w : a < u 0 ∨ (u 0 = a ∧ (b < u 1 ∨ (u 1 = b ∧ c ≤ u 2))) := h u d r z' s'
  have l := r.1 1 (by omega)
  have l2 := r.1 2 (by omega)
  show (((0 : Int) * 20 + ts 0) * 20 + ts 1) * 20 + ts 2 ≤ ((0 * 20 + u 0) * 20 + u 1) * 20 + u 2; omega
theorem EXN.z0 {p D : Int} {B F : Nat → Int} : EXN p D B F 0 ↔ ∀ k : Nat, (k : Int) ≤ D → PmE p (F k) 0 := by
  constructor
  · rintro ⟨ts, cs, -, -, s⟩ k hk
    have e := s k hk
    have e : PmE p (F k) (B k * 0) := e
    rwa [Int.mul_zero] at e
  · intro h
    refine ⟨fun _ => 0, fun _ => 0, ⟨fun i hi => absurd hi (Nat.not_lt_zero i), fun i hi => by omega⟩, fun i hi => absurd hi (Nat.not_lt_zero i), fun k hk => ?_⟩
    show PmE p (F k) (B k * 0)
    rw [Int.mul_zero]; exact h k hk
theorem PWT.mv {W W2 : Nat → Int32} {p D D2 t : Int} (h : PWT W p D t) (eD : D = D2) (e : W = W2) : PWT W2 p D2 t := by subst eD; subst e; exact h
theorem EXN.mv {p D D2 : Int} {F F2 : Nat → Int} {n n2 : Nat} (h : EXN p D (BNI D) F n) (eD : D = D2) (en : n = n2) (e : ∀ k : Nat, (k : Int) ≤ D → F k = F2 k) : EXN p D2 (BNI D2) F2 n2 := by
  subst eD; subst en; exact h.cg e
theorem PWL.mv {p D D2 : Int} {F F2 ts cs : Nat → Int} {n n2 : Nat} (h : PWL p D (BNI D) F n ts cs) (eD : D = D2) (en : n = n2) (e : ∀ k : Nat, (k : Int) ≤ D → F k = F2 k) : PWL p D2 (BNI D2) F2 n2 ts cs := by
  subst eD; subst en
  obtain ⟨h1, h2, h3, h4⟩ := h
  exact ⟨h1, h2, h3.fc e, fun u c a b s => h4 u c a b (s.fc (fun k hk => (e k hk).symm))⟩
theorem PWL.z {p D : Int} {B F ts cs : Nat → Int} (h : ∀ k : Nat, (k : Int) ≤ D → F k = 0) : PWL p D B F 0 ts cs := ⟨⟨fun i hi => absurd hi (Nat.not_lt_zero i), fun i hi => by omega⟩, fun i hi => absurd hi (Nat.not_lt_zero i), fun k hk => by
  show PmE p (F k) (B k * 0)
  rw [h k hk, Int.mul_zero]; exact PmE.rf, fun _ _ _ _ _ => Int.le_refl _⟩
theorem PWX.r {x p D k : Int} {B F ts cs : Nat → Int} {n : Nat} (no : ∀ m : Nat, m < n → ¬ EXN p D B F m) (h3 : n ≤ 3) (h : PWL p D B F n ts cs) (a : PWA x n ts cs k) : PWX x p D B F k := ⟨n, fun m hm _ => no m hm, Or.inr ⟨h3, ts, cs, h, a⟩⟩
theorem PWX.n4 {x p D k : Int} {B F : Nat → Int} (no : ∀ m : Nat, m < 4 → ¬ EXN p D B F m) (hx : x = -1) : PWX x p D B F k := ⟨4, fun m hm _ => no m hm, Or.inl ⟨rfl, hx⟩⟩
theorem PWA.a {x k : Int} {n : Nat} {ts cs : Nat → Int} (hk : k = -1) (hx : x = n) : PWA x n ts cs k := ⟨fun _ => hx, fun q => by omega, fun q => by omega, fun q => absurd hk q⟩
theorem PWA.b {x k : Int} {n : Nat} {ts cs : Nat → Int} (h0 : 0 ≤ k) (h1 : k < n) (e : x = ts k.toNat) (h10 : k < 10 := by omega) : PWA x n ts cs k := ⟨fun q => by omega, fun _ _ => e, fun q => by omega, fun _ q => absurd ⟨h0, h1⟩ q⟩
theorem PWA.c {x k : Int} {n : Nat} {ts cs : Nat → Int} (h0 : 10 ≤ k) (h1 : k < 10 + n) (e : x = cs (k - 10).toNat) (h10 : ¬ k < n := by omega) : PWA x n ts cs k := ⟨fun q => by omega, fun _ q => absurd q h10, fun _ _ => e, fun _ _ q => absurd ⟨h0, h1⟩ q⟩
theorem PWA.d {x k : Int} {n : Nat} {ts cs : Nat → Int} (hk : k ≠ -1) (h0 : ¬ (0 ≤ k ∧ k < n)) (h1 : ¬ (10 ≤ k ∧ k < 10 + n)) (hx : x = -1) : PWA x n ts cs k := ⟨fun q => absurd q hk, fun a b => absurd ⟨a, b⟩ h0, fun a b => absurd ⟨a, b⟩ h1, fun _ _ _ => hx⟩
def PPH (n : Int) (A B : Prop) : Prop := (n = 3 → A) ∧ (n = 2 → B)
theorem PPH.z {n : Int} {A B : Prop} (a : n = 3 → A) (b : n = 2 → B) : PPH n A B := ⟨a, b⟩
theorem NXS.bx {p D a b b' : Int} {B F : Nat → Int} {n : Nat} (h : NXS p D B F n (QB1 a b)) (e : b' = b) : NXS p D B F n (QB1 a b') := by subst e; exact h
theorem NOF.n1 {p D : Int} {B F : Nat → Int} {n n' m : Nat} {ts cs : Nat → Int} (e : n' = n) (h : NOF p D B F n ts cs m) : NOF p D B F n' ts cs m := by subst e; exact h
theorem NOF.n2 {p D : Int} {B F : Nat → Int} {n n' m m' : Nat} {ts cs : Nat → Int} (e : n' = n) (em : m' = m) (h : NOF p D B F n ts cs m) : NOF p D B F n' ts cs m' := by subst e; subst em; exact h
theorem NOF.n3 {p D : Int} {B F : Nat → Int} {n n' m : Nat} {ts cs : Nat → Int} (e : n' = n) (h : NOF p D B F n ts cs m) : NOF p D B F n' ts cs m := by subst e; exact h
theorem SPF.n1 {p D : Int} {B F : Nat → Int} {n n' : Nat} {ts cs : Nat → Int} (e : n' = n) (h : SPF p D B F n ts cs) : SPF p D B F n' ts cs := by subst e; exact h
theorem a_X12_powerAt_x {d : Nat} {T N : Nat → Nat} {I : IT} {L : LT} {R : RT} {A : Nat → Prop} {r0 : Nat} {n1 n2 : Int32} (hI : IM R r0 I) (H_r0 : (h_MD T N R A) r0) (b0_n1 : 0 ≤ n1.toInt) (b1_n1 : n1.toInt ≤ 19) (b0_n2 : 0 ≤ n2.toInt) (b1_n2 : n2.toInt ≤ 8) : Ex (d + 1) 281 [.ref r0, .int n1, .int n2] (T, N, I, L, R) 0 0 (pI T N R (fun x9 I9 L9 => (-18 ≤ x9.toInt) ∧ (x9.toInt ≤ 18) ∧ (∀ a26, R r0 26 = some a26 → x9.toInt = (I a26 (9 * n1.toNatClampNeg + n2.toNatClampNeg)).toInt) ∧ (I = I9 ∧ L = L9))) := by
  refine ⟨_, rfl, Nat.le_of_ble_eq_true rfl, fun V C S => ?_⟩
  show V 0 [(0, .ref r0), (1, .int n1), (2, .int n2)] [] (T, N, I, L, R) 0 0
  have gn1 := rg n1
  have gn2 := rg n2
  obtain ⟨T_r0, A_r0, ⟨r0_1, R_r0_1, H_r0_1⟩, ⟨r0_2, R_r0_2, H_r0_2⟩, ⟨r0_4, R_r0_4, H_r0_4⟩, ⟨r0_5, R_r0_5, H_r0_5⟩, ⟨r0_10, R_r0_10, H_r0_10⟩, ⟨r0_18, R_r0_18, H_r0_18⟩, ⟨r0_20, R_r0_20, H_r0_20⟩, ⟨r0_21, R_r0_21, H_r0_21⟩, ⟨r0_22, R_r0_22, H_r0_22⟩, ⟨r0_23, R_r0_23, H_r0_23⟩, ⟨r0_25, R_r0_25, H_r0_25⟩, ⟨r0_26, R_r0_26, H_r0_26⟩, ⟨r0_27, R_r0_27, H_r0_27⟩, ⟨r0_28, R_r0_28, H_r0_28⟩, ⟨r0_34, R_r0_34, H_r0_34⟩, J_r0, Y_r0⟩ := id H_r0
  have G_r0 : mF T R r0 := ⟨J_r0, Y_r0, T_r0⟩
  refine k_aload_n C rfl rfl rfl ?_
  refine g_R C rfl rfl rfl T_r0 rfl R_r0_26 ?_
  refine z_bipush C (z := 9) rfl rfl rfl (fun x1 ex1 => ?_)
  refine k_iload_n C rfl rfl rfl ?_
  refine z_imulL C (c := 9) rfl rfl (by omega) ⟨by omega, by omega⟩ (fun x2 ex2 => ?_)
  refine k_iload_n C rfl rfl rfl ?_
  refine z_iadd C rfl rfl ⟨by omega, by omega⟩ (fun x3 ex3 => ?_)
  obtain ⟨T_r0_26, N_r0_26, A_r0_26⟩ := id H_r0_26
  refine z_aI C rfl rfl T_r0_26 N_r0_26 (by omega) (by omega) (fun x4 ex4 => ?_)
  have gx4 := rg x4
  have ox4 := IM.pwR hI R_r0_26 ex4
  have hr10 := ex4; have hj10 : x3.toNatClampNeg = 9 * n1.toNatClampNeg + n2.toNatClampNeg := (by have h1 := ncz (x := n1) (by omega); have h2 := ncz (x := n2) (by omega); have h3 := ncz (x := x3) (by omega); omega)
  exact k_iret C rfl (Or.inl rfl) (Nat.le_of_ble_eq_true rfl) (Nat.le_of_ble_eq_true rfl) ⟨_, _, _, rfl, rfl, by omega, by omega, fun a26 h26 => by cases (R_r0_26.symm.trans h26); rw [← hj10, hr10], rfl, rfl⟩

set_option maxHeartbeats 4000000 in
theorem a_X12_raises_x {d : Nat} {T N : Nat → Nat} {I : IT} {L : LT} {R : RT} {A : Nat → Prop} {r0 : Nat} {n1 : Int32} (hI : IM R r0 I) (H_r0 : (h_MD T N R A) r0) (b0_n1 : 0 ≤ n1.toInt) (b1_n1 : n1.toInt ≤ 8) : Ex (d + 4) 282 [.ref r0, .int n1] (T, N, I, L, R) 0 0 (pV T N R (fun I9 L9 => (∀ a1 a26, R r0 1 = some a1 → R r0 26 = some a26 → PWT (I9 a26) (I a1 0).toInt n1.toInt ((I a1 0).toInt + 1)) ∧ (∀ a4, R r0 4 = some a4 → ∀ r : Nat, r ≠ 45 → I9 a4 r = I a4 r) ∧ (∀ a5, R r0 5 = some a5 → ∀ r : Nat, (r < 41 * 45 ∨ 41 * 45 + 41 ≤ r) → I9 a5 r = I a5 r) ∧ (IM R r0 I9 ∧ CM A R r0 [] [4, 5, 26] I L I9 L9))) := by
  refine ⟨_, rfl, Nat.le_of_ble_eq_true rfl, fun V C S => ?_⟩
  show V 0 [(0, .ref r0), (1, .int n1)] [] (T, N, I, L, R) 0 0
  have gn1 := rg n1
  obtain ⟨T_r0, A_r0, ⟨r0_1, R_r0_1, H_r0_1⟩, ⟨r0_2, R_r0_2, H_r0_2⟩, ⟨r0_4, R_r0_4, H_r0_4⟩, ⟨r0_5, R_r0_5, H_r0_5⟩, ⟨r0_10, R_r0_10, H_r0_10⟩, ⟨r0_18, R_r0_18, H_r0_18⟩, ⟨r0_20, R_r0_20, H_r0_20⟩, ⟨r0_21, R_r0_21, H_r0_21⟩, ⟨r0_22, R_r0_22, H_r0_22⟩, ⟨r0_23, R_r0_23, H_r0_23⟩, ⟨r0_25, R_r0_25, H_r0_25⟩, ⟨r0_26, R_r0_26, H_r0_26⟩, ⟨r0_27, R_r0_27, H_r0_27⟩, ⟨r0_28, R_r0_28, H_r0_28⟩, ⟨r0_34, R_r0_34, H_r0_34⟩, J_r0, Y_r0⟩ := id H_r0
  have G_r0 : mF T R r0 := ⟨J_r0, Y_r0, T_r0⟩
  obtain ⟨w_r0_1_0, k0_r0_1_0⟩ : ∃ x, I r0_1 0 = x := ⟨_, rfl⟩
  have gw_r0_1_0 := rg w_r0_1_0
  have ow_r0_1_0 := IM.pi hI R_r0_1 k0_r0_1_0
  have hPM : PRM w_r0_1_0.toInt := IM.p hI R_r0_1 k0_r0_1_0
  have hn1 := ncz (x := n1) (by omega)
  refine z_iconst C (z := 0) rfl rfl rfl (fun x1 ex1 => ?_)
  have J2 : ∀ (nn3 : Nat) (I4 : IT) (L5 : LT) (x6 : Int32), ((20 - x6.toInt).toNat = nn3) → (IM R r0 I4) → (CM A R r0 [] [4, 5, 26] I L I4 L5) → (∀ r : Nat, r ≠ 45 → I4 r0_4 r = I r0_4 r) → (∀ r : Nat, (r < 41 * 45 ∨ 41 * 45 + 41 ≤ r) → I4 r0_5 r = I r0_5 r) → (0 ≤ x6.toInt) → (x6.toInt ≤ 20) → (PWT (I4 r0_26) w_r0_1_0.toInt n1.toInt x6.toInt) → (x6.toInt ≤ w_r0_1_0.toInt + 1) → V 2 [(0, .ref r0), (1, .int n1), (2, .int x6)] [] (T, N, I4, L5, R) 0 0 := by
    intro nn3
    induction nn3 using Nat.strongRecOn with
    | _ nn3 ihJ2 =>
      intro I4 L5 x6 hmnn3 hI10 S9 F11 F12 b7 b8 ff2_0 ff2_1
      have gx6 := rg x6
      have e13 := CM.j S9 R_r0_1 (by decide) k0_r0_1_0
      refine k_iload_n C rfl rfl rfl ?_
      refine k_aload_n C rfl rfl rfl ?_
      refine c_VI C (a_X12_p hI10 H_r0) rfl rfl rfl rfl rfl ⟨_, rfl, rfl, T_r0, Nat.le_of_ble_eq_true rfl⟩ rfl rfl (Nat.le_of_ble_eq_true rfl) (Nat.le_of_ble_eq_true rfl) (Nat.le_of_ble_eq_true rfl) ?_
      rintro x14 _ _ ⟨o0x14, o1x14, p0x14, rfl, rfl⟩
      have p0x14 := p0x14 r0_1 R_r0_1
      have gx14 := rg x14
      try simp only [e13, e13] at p0x14
      try have q0x14 := congrArg Int32.toInt p0x14
      refine b_icmp_gt C (t := 112) rfl rfl rfl (fun c15 => ?_) (fun c15 => ?_)
      · skip
        exact k_vret C rfl rfl (Nat.le_of_ble_eq_true rfl) (Nat.le_of_ble_eq_true rfl) ⟨_, _, rfl, rfl, fun a1 a26 h1 h26 => by cases (R_r0_1.symm.trans h1); cases (R_r0_26.symm.trans h26); simp only [k0_r0_1_0]; exact fun s hs => ff2_0 s (by omega), fun a4 h4 => by cases (R_r0_4.symm.trans h4); exact (fun r z0 => (F11 r z0)), fun a5 h5 => by cases (R_r0_5.symm.trans h5); exact (fun r z0 => (F12 r z0)), hI10, (CM.mono S9 (by decide) (by decide))⟩
      obtain ⟨W9, eW9⟩ : ∃ f : Nat → Int32, I4 r0_26 = f := ⟨_, rfl⟩; have hPT := ff2_0; rw [eW9] at hPT; obtain ⟨t9, et9⟩ : ∃ t : Int32, t = x6 := ⟨_, rfl⟩; have et9i : t9.toInt = x6.toInt := (by rw [et9])
      refine k_aload_n C rfl rfl rfl ?_
      refine z_bipush C (z := 45) rfl rfl rfl (fun x16 ex16 => ?_)
      refine z_iconst C (z := 0) rfl rfl rfl (fun x17 ex17 => ?_)
      have q18 : x16.toNatClampNeg = 45 := nck (by omega)
      have q19 : x17.toNatClampNeg = 0 := nck (by omega)
      refine c_VV C (a_X12_clears hI10 H_r0 (by omega) (by omega) (by omega) (by omega)) rfl rfl rfl rfl rfl ⟨_, rfl, rfl, T_r0, Nat.le_of_ble_eq_true rfl⟩ rfl rfl (Nat.le_of_ble_eq_true rfl) (Nat.le_of_ble_eq_true rfl) (Nat.le_of_ble_eq_true rfl) ?_
      rintro I21 L22 ⟨p0v20, p1v20, p2v20, p3v20, hI21, S23⟩
      have p0v20 := p0v20 r0_4 R_r0_4
      have p1v20 := p1v20 r0_5 R_r0_5
      have p2v20 := p2v20 r0_4 R_r0_4
      have p3v20 := p3v20 r0_5 R_r0_5
      try simp only [q18, q19] at p2v20
      have F24 : ∀ r : Nat, r ≠ 45 → I21 r0_4 r = I4 r0_4 r := fun r z0 => p2v20 r (by first | exact z0)
      try simp only [q18, q19] at p3v20
      have F25 : ∀ r : Nat, (r < 41 * 45 ∨ 41 * 45 + 41 ≤ r) → I21 r0_5 r = I4 r0_5 r := fun r z0 => p3v20 r (by first | exact z0)
      have e26 := CM.j S23 R_r0_1 (by decide) e13
      obtain ⟨x27, e28⟩ : ∃ x, I21 r0_4 45 = x := ⟨_, rfl⟩
      have gx27 := rg x27
      have ox27 := IM.dgR hI21 R_r0_4 e28
      try simp only [q18, q19, e13, e28] at p0v20
      try have q0v20 := congrArg Int32.toInt p0v20
      try simp only [q18, q19, e13, e28] at p1v20
      try have q1v20 := congrArg Int32.toInt p1v20
      have hw14 := CM.j0 S23 R_r0_26 (by decide)
      refine k_aload_n C rfl rfl rfl ?_
      refine z_bipush C (z := 45) rfl rfl rfl (fun x29 ex29 => ?_)
      refine z_iconst C (z := 0) rfl rfl rfl (fun x30 ex30 => ?_)
      refine z_iconst C (z := 1) rfl rfl rfl (fun x31 ex31 => ?_)
      have q32 : x29.toNatClampNeg = 45 := nck (by omega)
      have q33 : x30.toNatClampNeg = 0 := nck (by omega)
      have q34 : x31.toNatClampNeg = 1 := nck (by omega)
      refine c_VV C (a_X12_put hI21 H_r0 (by omega) (by omega) (by omega) (by omega) (by omega) (by omega)) rfl rfl rfl rfl rfl ⟨_, rfl, rfl, T_r0, Nat.le_of_ble_eq_true rfl⟩ rfl rfl (Nat.le_of_ble_eq_true rfl) (Nat.le_of_ble_eq_true rfl) (Nat.le_of_ble_eq_true rfl) ?_
      rintro I36 L37 ⟨p0v35, p1v35, hI36, S38⟩
      have p0v35 := p0v35 r0_5 R_r0_5
      have p1v35 := p1v35 r0_5 R_r0_5
      try simp only [q32, q33, q34] at p1v35
      have F39 : ∀ r : Nat, (r < 41 * 45 ∨ 41 * 45 + 41 ≤ r) → I36 r0_5 r = I21 r0_5 r := fun r z0 => p1v35 r (by first | exact z0)
      have e40 := CM.j S38 R_r0_1 (by decide) e26
      have e41 := CM.j S38 R_r0_4 (by decide) e28
      try simp only [q32, q33, q34, e26, e28] at p0v35
      try have q0v35 := congrArg Int32.toInt p0v35
      have hw22 := CM.j0 S38 R_r0_26 (by decide); have hP22 := p0v35
      refine z_iconst C (z := 0) rfl rfl rfl (fun x42 ex42 => ?_)
      have J43 : ∀ (nn44 : Nat) (I45 : IT) (L46 : LT) (x47 : Int32) (x54 : Int32), ((8 - x47.toInt).toNat = nn44) → (IM R r0 I45) → (CM A R r0 [] [4, 5] I36 L37 I45 L46) → (∀ r : Nat, r ≠ 45 → I45 r0_4 r = I36 r0_4 r) → (∀ r : Nat, (r < 41 * 45 ∨ 41 * 45 + 41 ≤ r) → I45 r0_5 r = I36 r0_5 r) → (0 ≤ x47.toInt) → (x47.toInt ≤ 8) → (I45 r0_4 45 = x54) → (0 ≤ x54.toInt) → (x54.toInt ≤ 40) → (x54.toInt = x47.toInt) → (I45 r0_26 = W9) → (RWF I45 r0_5 45 x47.toInt (wdN w_r0_1_0.toInt (PWU w_r0_1_0.toInt x6.toInt) (PWY w_r0_1_0.toInt x6.toInt) x47.toNatClampNeg 0 (fun _ => 1))) → (x47.toInt ≤ n1.toInt) → V 27 [(0, .ref r0), (1, .int n1), (2, .int x6), (3, .int x47)] [] (T, N, I45, L46, R) 0 0 := by
        intro nn44
        induction nn44 using Nat.strongRecOn with
        | _ nn44 ihJ43 =>
          intro I45 L46 x47 x54 hmnn44 hI51 S50 F52 F53 b48 b49 e55 b56 b57 ff27_0 ff27_1 ff27_2 ff27_3
          have gx47 := rg x47
          have gx54 := rg x54
          have e58 := CM.j S50 R_r0_1 (by decide) e40
          refine k_iload_n C rfl rfl rfl ?_
          refine k_iload_n C rfl rfl rfl ?_
          refine b_icmp_ge C (t := 75) rfl rfl rfl (fun c59 => ?_) (fun c59 => ?_)
          · skip
            have hL27 : x47 = n1 := Int32.toInt_inj.mp (by omega)
            refine z_iconst C (z := 0) rfl rfl rfl (fun x60 ex60 => ?_)
            have J61 : ∀ (nn62 : Nat) (I63 : IT) (L64 : LT) (x65 : Int32), ((9 - x65.toInt).toNat = nn62) → (IM R r0 I63) → (CM A R r0 [] [26] I45 L46 I63 L64) → (0 ≤ x65.toInt) → (x65.toInt ≤ 9) → (PW2 (I63 r0_26) W9 x6.toNatClampNeg x65.toInt (wdN w_r0_1_0.toInt (PWU w_r0_1_0.toInt x6.toInt) (PWY w_r0_1_0.toInt x6.toInt) n1.toNatClampNeg 0 (fun _ => 1))) → (RWF I63 r0_5 45 n1.toInt (wdN w_r0_1_0.toInt (PWU w_r0_1_0.toInt x6.toInt) (PWY w_r0_1_0.toInt x6.toInt) n1.toNatClampNeg 0 (fun _ => 1))) → (x65.toInt ≤ n1.toInt + 1) → V 77 [(0, .ref r0), (1, .int n1), (2, .int x6), (3, .int x65)] [] (T, N, I63, L64, R) 0 0 := by
              intro nn62
              induction nn62 using Nat.strongRecOn with
              | _ nn62 ihJ61 =>
                intro I63 L64 x65 hmnn62 hI69 S68 b66 b67 ff77_0 ff77_1 ff77_2
                have gx65 := rg x65
                have e70 := CM.j S68 R_r0_1 (by decide) e58
                have e71 := CM.j S68 R_r0_4 (by decide) e55
                refine k_iload_n C rfl rfl rfl ?_
                refine k_iload_n C rfl rfl rfl ?_
                refine b_icmp_gt C (t := 106) rfl rfl rfl (fun c72 => ?_) (fun c72 => ?_)
                · skip
                  refine z_iinc C (z := 1) (lw := fun x73 => [(2, .int x73), (0, .ref r0), (1, .int n1), (3, .int x65)]) rfl rfl rfl (Nat.le_of_ble_eq_true rfl) rfl ⟨by omega, by omega⟩ (fun _ => rfl) (fun x73 ex73 => ?_)
                  show V 109 [(2, .int x73), (0, .ref r0), (1, .int n1), (3, .int x65)] _ _ _ _
                  refine k_goto C (pc2 := 2) rfl rfl ?_
                  refine k_sub S [(0, .ref r0), (1, .int n1), (2, .int x73)] (List.forall_mem_cons.mpr ⟨List.mem_of_getElem? (i := 1) rfl, List.forall_mem_cons.mpr ⟨List.mem_of_getElem? (i := 2) rfl, List.forall_mem_cons.mpr ⟨List.mem_of_getElem? (i := 0) rfl, fun _ h => nomatch h⟩⟩⟩) ?_
                  exact ihJ2 _ (by omega) I63 L64 x73 rfl hI69 (CM.cons S9 (CM.cons S23 (CM.cons S38 (CM.cons S50 (CM.mono S68 (by decide) (by decide)) (by decide) (by decide)) (by decide) (by decide)) (by decide) (by decide)) (by decide) (by decide)) (fun r z0 => ((congrFun (CM.j0 S68 R_r0_4 (by decide)) r).trans ((F52 r z0).trans ((congrFun (CM.j0 S38 R_r0_4 (by decide)) r).trans ((F24 r z0).trans (F11 r z0)))))) (fun r z0 => ((congrFun (CM.j0 S68 R_r0_5 (by decide)) r).trans ((F53 r z0).trans ((F39 r z0).trans ((F25 r z0).trans (F12 r z0)))))) (by omega) (by omega) (by exact PWT.s hPT ff77_0 rfl (by omega) hPM (by omega) (by omega) (by omega) (by omega)) (by omega)
                refine k_aload_n C rfl rfl rfl ?_
                refine g_R C rfl rfl rfl T_r0 rfl R_r0_26 ?_
                refine z_bipush C (z := 9) rfl rfl rfl (fun x74 ex74 => ?_)
                refine k_iload_n C rfl rfl rfl ?_
                refine z_imulL C (c := 9) rfl rfl (by omega) ⟨by omega, by omega⟩ (fun x75 ex75 => ?_)
                refine k_iload_n C rfl rfl rfl ?_
                refine z_iadd C rfl rfl ⟨by omega, by omega⟩ (fun x76 ex76 => ?_)
                refine k_aload_n C rfl rfl rfl ?_
                refine z_bipush C (z := 45) rfl rfl rfl (fun x77 ex77 => ?_)
                refine k_iload_n C rfl rfl rfl ?_
                have q78 : x77.toNatClampNeg = 45 := nck (by omega)
                refine c_VI C (a_X12_of hI69 H_r0 (by omega) (by omega) (by omega) (by omega)) rfl rfl rfl rfl rfl ⟨_, rfl, rfl, T_r0, Nat.le_of_ble_eq_true rfl⟩ rfl rfl (Nat.le_of_ble_eq_true rfl) (Nat.le_of_ble_eq_true rfl) (Nat.le_of_ble_eq_true rfl) ?_
                rintro x79 _ _ ⟨o0x79, o1x79, p0x79, rfl, rfl⟩
                have p0x79 := p0x79 r0_5 R_r0_5
                have gx79 := rg x79
                try simp only [q78, e70, e71] at p0x79
                try have q0x79 := congrArg Int32.toInt p0x79
                have ho96 := p0x79
                obtain ⟨T_r0_26, N_r0_26, A_r0_26⟩ := id H_r0_26
                refine z_sI C rfl rfl T_r0_26 N_r0_26 (by omega) (by omega) (fun I80 uI80 => ?_)
                have hI80 : IM R r0 I80 := IM.arr hI69 G_r0 R_r0_26 ⟨(fun h => absurd h (by decide)), (fun h => absurd h (by decide)), (fun _ => ⟨by omega, by omega⟩)⟩ (fun h => absurd h (by decide)) uI80
                have S81 : CM A R r0 [] [26] I63 L64 I80 L64 := CM.a G_r0 R_r0_26 A_r0_26 uI80
                have e82 := u2_n uI80 (mF.nq G_r0 R_r0_1 R_r0_26 (by decide)) e70
                have e83 := u2_n uI80 (mF.nq G_r0 R_r0_4 R_r0_26 (by decide)) e71
                have e84 := u2_e uI80
                have hu99 := uI80
                refine z_iinc C (z := 1) (lw := fun x85 => [(3, .int x85), (0, .ref r0), (1, .int n1), (2, .int x6)]) rfl rfl rfl (Nat.le_of_ble_eq_true rfl) rfl ⟨by omega, by omega⟩ (fun _ => rfl) (fun x85 ex85 => ?_)
                show V 103 [(3, .int x85), (0, .ref r0), (1, .int n1), (2, .int x6)] _ _ _ _
                refine k_goto C (pc2 := 77) rfl rfl ?_
                refine k_sub S [(0, .ref r0), (1, .int n1), (2, .int x6), (3, .int x85)] (List.forall_mem_cons.mpr ⟨List.mem_of_getElem? (i := 1) rfl, List.forall_mem_cons.mpr ⟨List.mem_of_getElem? (i := 2) rfl, List.forall_mem_cons.mpr ⟨List.mem_of_getElem? (i := 3) rfl, List.forall_mem_cons.mpr ⟨List.mem_of_getElem? (i := 0) rfl, fun _ h => nomatch h⟩⟩⟩⟩) ?_
                exact ihJ61 _ (by omega) I80 L64 x85 rfl hI80 (CM.cons S68 (CM.mono S81 (by decide) (by decide)) (by decide) (by decide)) (by omega) (by omega) (by exact PW2.s ff77_0 hu99 (by omega) (ho96.trans (ff77_1 _ (by have h9 := ncz (x := x65) (by omega); omega))) (by omega) (by omega) (by omega)) (by exact ff77_1.eqm (CM.j0 S81 R_r0_5 (by decide))) (by omega)
            refine k_istore_n C (lw := [(3, .int x60), (0, .ref r0), (1, .int n1), (2, .int x6)]) rfl rfl (Nat.le_of_ble_eq_true rfl) rfl ?_
            refine k_sub S [(0, .ref r0), (1, .int n1), (2, .int x6), (3, .int x60)] (List.forall_mem_cons.mpr ⟨List.mem_of_getElem? (i := 1) rfl, List.forall_mem_cons.mpr ⟨List.mem_of_getElem? (i := 2) rfl, List.forall_mem_cons.mpr ⟨List.mem_of_getElem? (i := 3) rfl, List.forall_mem_cons.mpr ⟨List.mem_of_getElem? (i := 0) rfl, fun _ h => nomatch h⟩⟩⟩⟩) ?_
            exact J61 _ I45 L46 x60 rfl hI51 CM.rf (by omega) (by omega) (by exact PW2.z ff27_1 (by omega)) (by have e9 := ff27_2; rw [hL27] at e9; exact e9.le (by omega)) (by omega)
          refine k_aload_n C rfl rfl rfl ?_
          refine z_bipush C (z := 45) rfl rfl rfl (fun x86 ex86 => ?_)
          refine k_iload_n C rfl rfl rfl ?_
          refine k_aload_n C rfl rfl rfl ?_
          refine c_VI C (a_X12_p hI51 H_r0) rfl rfl rfl rfl rfl ⟨_, rfl, rfl, T_r0, Nat.le_of_ble_eq_true rfl⟩ rfl rfl (Nat.le_of_ble_eq_true rfl) (Nat.le_of_ble_eq_true rfl) (Nat.le_of_ble_eq_true rfl) ?_
          rintro x87 _ _ ⟨o0x87, o1x87, p0x87, rfl, rfl⟩
          have p0x87 := p0x87 r0_1 R_r0_1
          have gx87 := rg x87
          try simp only [e58, e55, e58] at p0x87
          try have q0x87 := congrArg Int32.toInt p0x87
          refine b_icmp_ge C (t := 47) rfl rfl rfl (fun c88 => ?_) (fun c88 => ?_)
          · skip
            refine z_iconst C (z := 0) rfl rfl rfl (fun x89 ex89 => ?_)
            refine k_iload_n C rfl rfl rfl ?_
            refine k_aload_n C rfl rfl rfl ?_
            refine c_VI C (a_X12_p hI51 H_r0) rfl rfl rfl rfl rfl ⟨_, rfl, rfl, T_r0, Nat.le_of_ble_eq_true rfl⟩ rfl rfl (Nat.le_of_ble_eq_true rfl) (Nat.le_of_ble_eq_true rfl) (Nat.le_of_ble_eq_true rfl) ?_
            rintro x90 _ _ ⟨o0x90, o1x90, p0x90, rfl, rfl⟩
            have p0x90 := p0x90 r0_1 R_r0_1
            have gx90 := rg x90
            try simp only [e58, e55, e58] at p0x90
            try have q0x90 := congrArg Int32.toInt p0x90
            refine b_icmp_ge C (t := 65) rfl rfl rfl (fun c91 => ?_) (fun c91 => ?_)
            · skip
              refine z_iconst C (z := 1) rfl rfl rfl (fun x92 ex92 => ?_)
              have hu66 : x89.toInt = PWU w_r0_1_0.toInt x6.toInt ∨ (x6.toInt < w_r0_1_0.toInt ∧ w_r0_1_0.toInt ≤ x6.toInt) := (by unfold PWU; by_cases c9 : x6.toInt < w_r0_1_0.toInt; · (rw [if_pos c9]; omega); · (rw [if_neg c9]; omega)); have hv66 : x92.toInt = PWY w_r0_1_0.toInt x6.toInt ∨ (x6.toInt < w_r0_1_0.toInt ∧ w_r0_1_0.toInt ≤ x6.toInt) := (by unfold PWY; by_cases c9 : x6.toInt < w_r0_1_0.toInt; · (rw [if_pos c9]; first | (have h8 : x92.toInt = (0 - x6.toInt + w_r0_1_0.toInt).tmod w_r0_1_0.toInt := hls59; exact Or.inl h8) | (right; omega)); · (rw [if_neg c9]; omega))
              have q93 : x86.toNatClampNeg = 45 := nck (by omega)
              have q94 : x89.toNatClampNeg = 0 := nck (by omega)
              have q95 : x92.toNatClampNeg = 1 := nck (by omega)
              refine c_VV C (a_X12_widens_e hI51 H_r0 (by omega) (by omega) (by omega) (by omega) (by omega) (by omega) (fun a4 h4 => by cases (R_r0_4.symm.trans h4); first | omega | (simp only [q93, q94, q95, e58, e55, and_true, true_and, or_true, true_or, and_false, false_and, or_false, false_or] <;> omega))) rfl rfl rfl rfl rfl ⟨_, rfl, rfl, T_r0, Nat.le_of_ble_eq_true rfl⟩ rfl rfl (Nat.le_of_ble_eq_true rfl) (Nat.le_of_ble_eq_true rfl) (Nat.le_of_ble_eq_true rfl) ?_
              rintro I97 L98 ⟨p0v96, p1v96, p2v96, p3v96, hI97, S99⟩
              have p0v96 := p0v96 r0_4 R_r0_4
              have p1v96 := p1v96 r0_1 r0_4 r0_5 R_r0_1 R_r0_4 R_r0_5
              have p2v96 := p2v96 r0_4 R_r0_4
              have p3v96 := p3v96 r0_5 R_r0_5
              try simp only [q93, q94, q95] at p2v96
              have F100 : ∀ r : Nat, r ≠ 45 → I97 r0_4 r = I45 r0_4 r := fun r z0 => p2v96 r (by first | exact z0)
              try simp only [q93, q94, q95] at p3v96
              have F101 : ∀ r : Nat, (r < 41 * 45 ∨ 41 * 45 + 41 ≤ r) → I97 r0_5 r = I45 r0_5 r := fun r z0 => p3v96 r (by first | exact z0)
              have e102 := CM.j S99 R_r0_1 (by decide) e58
              obtain ⟨x104, e105⟩ : ∃ x, I97 r0_4 45 = x := ⟨_, rfl⟩
              have gx104 := rg x104
              have ox104 := IM.dgR hI97 R_r0_4 e105
              try simp only [q93, q94, q95, e58, e55, e105] at p0v96
              try have q0v96 := congrArg Int32.toInt p0v96
              try simp only [q93, q94, q95, e58, e55, e105] at p1v96
              try have q1v96 := congrArg Int32.toInt p1v96
              have hw66 := p1v96; have hx66 := CM.j0 S99 R_r0_26 (by decide)
              refine z_iinc C (z := 1) (lw := fun x106 => [(3, .int x106), (0, .ref r0), (1, .int n1), (2, .int x6)]) rfl rfl rfl (Nat.le_of_ble_eq_true rfl) rfl ⟨by omega, by omega⟩ (fun _ => rfl) (fun x106 ex106 => ?_)
              show V 72 [(3, .int x106), (0, .ref r0), (1, .int n1), (2, .int x6)] _ _ _ _
              refine k_goto C (pc2 := 27) rfl rfl ?_
              refine k_sub S [(0, .ref r0), (1, .int n1), (2, .int x6), (3, .int x106)] (List.forall_mem_cons.mpr ⟨List.mem_of_getElem? (i := 1) rfl, List.forall_mem_cons.mpr ⟨List.mem_of_getElem? (i := 2) rfl, List.forall_mem_cons.mpr ⟨List.mem_of_getElem? (i := 3) rfl, List.forall_mem_cons.mpr ⟨List.mem_of_getElem? (i := 0) rfl, fun _ h => nomatch h⟩⟩⟩⟩) ?_
              exact ihJ43 _ (by omega) I97 L98 x106 x104 rfl hI97 (CM.cons S50 (CM.mono S99 (by decide) (by decide)) (by decide) (by decide)) (fun r z0 => ((F100 r z0).trans (F52 r z0))) (fun r z0 => ((F101 r z0).trans (F53 r z0))) (by omega) (by omega) e105 (by omega) (by omega) (by omega) (by exact hx66.trans ff27_1) (by rw [ncs (k := x47) (by omega) (by omega)]; rcases hu66 with hu66 | hu66; swap; · (exfalso; omega); rcases hv66 with hv66 | hv66; swap; · (exfalso; omega); rw [hu66, hv66] at hw66; exact (RWF.wd ff27_2 hw66 (by omega) (by have h9 := ncz (x := x47) (by omega); omega)).cg rfl (by omega)) (by omega)
            refine k_aload_n C rfl rfl rfl ?_
            refine z_iconst C (z := 0) rfl rfl rfl (fun x107 ex107 => ?_)
            refine k_iload_n C rfl rfl rfl ?_
            have hz59 : x107.toInt = 0 := (by omega)
            have q108 : x107.toNatClampNeg = 0 := nck (by omega)
            refine c_VI C (a_X12_less hI51 H_r0 (by omega) (by omega) (by omega) (by omega)) rfl rfl rfl rfl rfl ⟨_, rfl, rfl, T_r0, Nat.le_of_ble_eq_true rfl⟩ rfl rfl (Nat.le_of_ble_eq_true rfl) (Nat.le_of_ble_eq_true rfl) (Nat.le_of_ble_eq_true rfl) ?_
            rintro x109 _ _ ⟨o0x109, o1x109, p0x109, p1x109, p2x109, p3x109, rfl, rfl⟩
            have p0x109 := p0x109 r0_1 R_r0_1
            have p2x109 := p2x109 r0_1 R_r0_1
            have p3x109 := p3x109 r0_1 R_r0_1
            have gx109 := rg x109
            try simp only [q108, e58, e55] at p0x109
            try have q0x109 := congrArg Int32.toInt p0x109
            try simp only [q108, e58, e55] at p1x109
            try have q1x109 := congrArg Int32.toInt p1x109
            try simp only [q108, e58, e55] at p2x109
            try have q2x109 := congrArg Int32.toInt p2x109
            try simp only [q108, e58, e55] at p3x109
            try have q3x109 := congrArg Int32.toInt p3x109
            have hls59 := p3x109; unfold LSD at hls59; (try rw [hz59] at hls59)
            refine k_goto C (pc2 := 66) rfl rfl ?_
            have hu66 : x89.toInt = PWU w_r0_1_0.toInt x6.toInt ∨ (x6.toInt < w_r0_1_0.toInt ∧ w_r0_1_0.toInt ≤ x6.toInt) := (by unfold PWU; by_cases c9 : x6.toInt < w_r0_1_0.toInt; · (rw [if_pos c9]; omega); · (rw [if_neg c9]; omega)); have hv66 : x109.toInt = PWY w_r0_1_0.toInt x6.toInt ∨ (x6.toInt < w_r0_1_0.toInt ∧ w_r0_1_0.toInt ≤ x6.toInt) := (by unfold PWY; by_cases c9 : x6.toInt < w_r0_1_0.toInt; · (rw [if_pos c9]; first | (have h8 : x109.toInt = (0 - x6.toInt + w_r0_1_0.toInt).tmod w_r0_1_0.toInt := hls59; exact Or.inl h8) | (right; omega)); · (rw [if_neg c9]; omega))
            have q110 : x86.toNatClampNeg = 45 := nck (by omega)
            have q111 : x89.toNatClampNeg = 0 := nck (by omega)
            refine c_VV C (a_X12_widens_e hI51 H_r0 (by omega) (by omega) (by omega) (by omega) (by omega) (by omega) (fun a4 h4 => by cases (R_r0_4.symm.trans h4); first | omega | (simp only [q110, q111, e58, e55, and_true, true_and, or_true, true_or, and_false, false_and, or_false, false_or] <;> omega))) rfl rfl rfl rfl rfl ⟨_, rfl, rfl, T_r0, Nat.le_of_ble_eq_true rfl⟩ rfl rfl (Nat.le_of_ble_eq_true rfl) (Nat.le_of_ble_eq_true rfl) (Nat.le_of_ble_eq_true rfl) ?_
            rintro I113 L114 ⟨p0v112, p1v112, p2v112, p3v112, hI113, S115⟩
            have p0v112 := p0v112 r0_4 R_r0_4
            have p1v112 := p1v112 r0_1 r0_4 r0_5 R_r0_1 R_r0_4 R_r0_5
            have p2v112 := p2v112 r0_4 R_r0_4
            have p3v112 := p3v112 r0_5 R_r0_5
            try simp only [q110, q111] at p2v112
            have F116 : ∀ r : Nat, r ≠ 45 → I113 r0_4 r = I45 r0_4 r := fun r z0 => p2v112 r (by first | exact z0)
            try simp only [q110, q111] at p3v112
            have F117 : ∀ r : Nat, (r < 41 * 45 ∨ 41 * 45 + 41 ≤ r) → I113 r0_5 r = I45 r0_5 r := fun r z0 => p3v112 r (by first | exact z0)
            have e118 := CM.j S115 R_r0_1 (by decide) e58
            obtain ⟨x120, e121⟩ : ∃ x, I113 r0_4 45 = x := ⟨_, rfl⟩
            have gx120 := rg x120
            have ox120 := IM.dgR hI113 R_r0_4 e121
            try simp only [q110, q111, e58, e55, e121] at p0v112
            try have q0v112 := congrArg Int32.toInt p0v112
            try simp only [q110, q111, e58, e55, e121] at p1v112
            try have q1v112 := congrArg Int32.toInt p1v112
            have hw66 := p1v112; have hx66 := CM.j0 S115 R_r0_26 (by decide)
            refine z_iinc C (z := 1) (lw := fun x122 => [(3, .int x122), (0, .ref r0), (1, .int n1), (2, .int x6)]) rfl rfl rfl (Nat.le_of_ble_eq_true rfl) rfl ⟨by omega, by omega⟩ (fun _ => rfl) (fun x122 ex122 => ?_)
            show V 72 [(3, .int x122), (0, .ref r0), (1, .int n1), (2, .int x6)] _ _ _ _
            refine k_goto C (pc2 := 27) rfl rfl ?_
            refine k_sub S [(0, .ref r0), (1, .int n1), (2, .int x6), (3, .int x122)] (List.forall_mem_cons.mpr ⟨List.mem_of_getElem? (i := 1) rfl, List.forall_mem_cons.mpr ⟨List.mem_of_getElem? (i := 2) rfl, List.forall_mem_cons.mpr ⟨List.mem_of_getElem? (i := 3) rfl, List.forall_mem_cons.mpr ⟨List.mem_of_getElem? (i := 0) rfl, fun _ h => nomatch h⟩⟩⟩⟩) ?_
            exact ihJ43 _ (by omega) I113 L114 x122 x120 rfl hI113 (CM.cons S50 (CM.mono S115 (by decide) (by decide)) (by decide) (by decide)) (fun r z0 => ((F116 r z0).trans (F52 r z0))) (fun r z0 => ((F117 r z0).trans (F53 r z0))) (by omega) (by omega) e121 (by omega) (by omega) (by omega) (by exact hx66.trans ff27_1) (by rw [ncs (k := x47) (by omega) (by omega)]; rcases hu66 with hu66 | hu66; swap; · (exfalso; omega); rcases hv66 with hv66 | hv66; swap; · (exfalso; omega); rw [hu66, hv66] at hw66; exact (RWF.wd ff27_2 hw66 (by omega) (by have h9 := ncz (x := x47) (by omega); omega)).cg rfl (by omega)) (by omega)
          refine z_iconst C (z := 1) rfl rfl rfl (fun x123 ex123 => ?_)
          refine k_goto C (pc2 := 48) rfl rfl ?_
          refine k_iload_n C rfl rfl rfl ?_
          refine k_aload_n C rfl rfl rfl ?_
          refine c_VI C (a_X12_p hI51 H_r0) rfl rfl rfl rfl rfl ⟨_, rfl, rfl, T_r0, Nat.le_of_ble_eq_true rfl⟩ rfl rfl (Nat.le_of_ble_eq_true rfl) (Nat.le_of_ble_eq_true rfl) (Nat.le_of_ble_eq_true rfl) ?_
          rintro x124 _ _ ⟨o0x124, o1x124, p0x124, rfl, rfl⟩
          have p0x124 := p0x124 r0_1 R_r0_1
          have gx124 := rg x124
          try simp only [e58, e55, e58] at p0x124
          try have q0x124 := congrArg Int32.toInt p0x124
          refine b_icmp_ge C (t := 65) rfl rfl rfl (fun c125 => ?_) (fun c125 => ?_)
          · skip
            refine z_iconst C (z := 1) rfl rfl rfl (fun x126 ex126 => ?_)
            have hu66 : x123.toInt = PWU w_r0_1_0.toInt x6.toInt ∨ (x6.toInt < w_r0_1_0.toInt ∧ w_r0_1_0.toInt ≤ x6.toInt) := (by unfold PWU; by_cases c9 : x6.toInt < w_r0_1_0.toInt; · (rw [if_pos c9]; omega); · (rw [if_neg c9]; omega)); have hv66 : x126.toInt = PWY w_r0_1_0.toInt x6.toInt ∨ (x6.toInt < w_r0_1_0.toInt ∧ w_r0_1_0.toInt ≤ x6.toInt) := (by unfold PWY; by_cases c9 : x6.toInt < w_r0_1_0.toInt; · (rw [if_pos c9]; first | (have h8 : x126.toInt = (0 - x6.toInt + w_r0_1_0.toInt).tmod w_r0_1_0.toInt := hls59; exact Or.inl h8) | (right; omega)); · (rw [if_neg c9]; omega))
            have q127 : x86.toNatClampNeg = 45 := nck (by omega)
            have q128 : x123.toNatClampNeg = 1 := nck (by omega)
            have q129 : x126.toNatClampNeg = 1 := nck (by omega)
            refine c_VV C (a_X12_widens_e hI51 H_r0 (by omega) (by omega) (by omega) (by omega) (by omega) (by omega) (fun a4 h4 => by cases (R_r0_4.symm.trans h4); first | omega | (simp only [q127, q128, q129, e58, e55, and_true, true_and, or_true, true_or, and_false, false_and, or_false, false_or] <;> omega))) rfl rfl rfl rfl rfl ⟨_, rfl, rfl, T_r0, Nat.le_of_ble_eq_true rfl⟩ rfl rfl (Nat.le_of_ble_eq_true rfl) (Nat.le_of_ble_eq_true rfl) (Nat.le_of_ble_eq_true rfl) ?_
            rintro I131 L132 ⟨p0v130, p1v130, p2v130, p3v130, hI131, S133⟩
            have p0v130 := p0v130 r0_4 R_r0_4
            have p1v130 := p1v130 r0_1 r0_4 r0_5 R_r0_1 R_r0_4 R_r0_5
            have p2v130 := p2v130 r0_4 R_r0_4
            have p3v130 := p3v130 r0_5 R_r0_5
            try simp only [q127, q128, q129] at p2v130
            have F134 : ∀ r : Nat, r ≠ 45 → I131 r0_4 r = I45 r0_4 r := fun r z0 => p2v130 r (by first | exact z0)
            try simp only [q127, q128, q129] at p3v130
            have F135 : ∀ r : Nat, (r < 41 * 45 ∨ 41 * 45 + 41 ≤ r) → I131 r0_5 r = I45 r0_5 r := fun r z0 => p3v130 r (by first | exact z0)
            have e136 := CM.j S133 R_r0_1 (by decide) e58
            obtain ⟨x138, e139⟩ : ∃ x, I131 r0_4 45 = x := ⟨_, rfl⟩
            have gx138 := rg x138
            have ox138 := IM.dgR hI131 R_r0_4 e139
            try simp only [q127, q128, q129, e58, e55, e139] at p0v130
            try have q0v130 := congrArg Int32.toInt p0v130
            try simp only [q127, q128, q129, e58, e55, e139] at p1v130
            try have q1v130 := congrArg Int32.toInt p1v130
            have hw66 := p1v130; have hx66 := CM.j0 S133 R_r0_26 (by decide)
            refine z_iinc C (z := 1) (lw := fun x140 => [(3, .int x140), (0, .ref r0), (1, .int n1), (2, .int x6)]) rfl rfl rfl (Nat.le_of_ble_eq_true rfl) rfl ⟨by omega, by omega⟩ (fun _ => rfl) (fun x140 ex140 => ?_)
            show V 72 [(3, .int x140), (0, .ref r0), (1, .int n1), (2, .int x6)] _ _ _ _
            refine k_goto C (pc2 := 27) rfl rfl ?_
            refine k_sub S [(0, .ref r0), (1, .int n1), (2, .int x6), (3, .int x140)] (List.forall_mem_cons.mpr ⟨List.mem_of_getElem? (i := 1) rfl, List.forall_mem_cons.mpr ⟨List.mem_of_getElem? (i := 2) rfl, List.forall_mem_cons.mpr ⟨List.mem_of_getElem? (i := 3) rfl, List.forall_mem_cons.mpr ⟨List.mem_of_getElem? (i := 0) rfl, fun _ h => nomatch h⟩⟩⟩⟩) ?_
            exact ihJ43 _ (by omega) I131 L132 x140 x138 rfl hI131 (CM.cons S50 (CM.mono S133 (by decide) (by decide)) (by decide) (by decide)) (fun r z0 => ((F134 r z0).trans (F52 r z0))) (fun r z0 => ((F135 r z0).trans (F53 r z0))) (by omega) (by omega) e139 (by omega) (by omega) (by omega) (by exact hx66.trans ff27_1) (by rw [ncs (k := x47) (by omega) (by omega)]; rcases hu66 with hu66 | hu66; swap; · (exfalso; omega); rcases hv66 with hv66 | hv66; swap; · (exfalso; omega); rw [hu66, hv66] at hw66; exact (RWF.wd ff27_2 hw66 (by omega) (by have h9 := ncz (x := x47) (by omega); omega)).cg rfl (by omega)) (by omega)
          refine k_aload_n C rfl rfl rfl ?_
          refine z_iconst C (z := 0) rfl rfl rfl (fun x141 ex141 => ?_)
          refine k_iload_n C rfl rfl rfl ?_
          have hz59 : x141.toInt = 0 := (by omega)
          have q142 : x141.toNatClampNeg = 0 := nck (by omega)
          refine c_VI C (a_X12_less hI51 H_r0 (by omega) (by omega) (by omega) (by omega)) rfl rfl rfl rfl rfl ⟨_, rfl, rfl, T_r0, Nat.le_of_ble_eq_true rfl⟩ rfl rfl (Nat.le_of_ble_eq_true rfl) (Nat.le_of_ble_eq_true rfl) (Nat.le_of_ble_eq_true rfl) ?_
          rintro x143 _ _ ⟨o0x143, o1x143, p0x143, p1x143, p2x143, p3x143, rfl, rfl⟩
          have p0x143 := p0x143 r0_1 R_r0_1
          have p2x143 := p2x143 r0_1 R_r0_1
          have p3x143 := p3x143 r0_1 R_r0_1
          have gx143 := rg x143
          try simp only [q142, e58, e55] at p0x143
          try have q0x143 := congrArg Int32.toInt p0x143
          try simp only [q142, e58, e55] at p1x143
          try have q1x143 := congrArg Int32.toInt p1x143
          try simp only [q142, e58, e55] at p2x143
          try have q2x143 := congrArg Int32.toInt p2x143
          try simp only [q142, e58, e55] at p3x143
          try have q3x143 := congrArg Int32.toInt p3x143
          have hls59 := p3x143; unfold LSD at hls59; (try rw [hz59] at hls59)
          refine k_goto C (pc2 := 66) rfl rfl ?_
          have hu66 : x123.toInt = PWU w_r0_1_0.toInt x6.toInt ∨ (x6.toInt < w_r0_1_0.toInt ∧ w_r0_1_0.toInt ≤ x6.toInt) := (by unfold PWU; by_cases c9 : x6.toInt < w_r0_1_0.toInt; · (rw [if_pos c9]; omega); · (rw [if_neg c9]; omega)); have hv66 : x143.toInt = PWY w_r0_1_0.toInt x6.toInt ∨ (x6.toInt < w_r0_1_0.toInt ∧ w_r0_1_0.toInt ≤ x6.toInt) := (by unfold PWY; by_cases c9 : x6.toInt < w_r0_1_0.toInt; · (rw [if_pos c9]; first | (have h8 : x143.toInt = (0 - x6.toInt + w_r0_1_0.toInt).tmod w_r0_1_0.toInt := hls59; exact Or.inl h8) | (right; omega)); · (rw [if_neg c9]; omega))
          have q144 : x86.toNatClampNeg = 45 := nck (by omega)
          have q145 : x123.toNatClampNeg = 1 := nck (by omega)
          refine c_VV C (a_X12_widens_e hI51 H_r0 (by omega) (by omega) (by omega) (by omega) (by omega) (by omega) (fun a4 h4 => by cases (R_r0_4.symm.trans h4); first | omega | (simp only [q144, q145, e58, e55, and_true, true_and, or_true, true_or, and_false, false_and, or_false, false_or] <;> omega))) rfl rfl rfl rfl rfl ⟨_, rfl, rfl, T_r0, Nat.le_of_ble_eq_true rfl⟩ rfl rfl (Nat.le_of_ble_eq_true rfl) (Nat.le_of_ble_eq_true rfl) (Nat.le_of_ble_eq_true rfl) ?_
          rintro I147 L148 ⟨p0v146, p1v146, p2v146, p3v146, hI147, S149⟩
          have p0v146 := p0v146 r0_4 R_r0_4
          have p1v146 := p1v146 r0_1 r0_4 r0_5 R_r0_1 R_r0_4 R_r0_5
          have p2v146 := p2v146 r0_4 R_r0_4
          have p3v146 := p3v146 r0_5 R_r0_5
          try simp only [q144, q145] at p2v146
          have F150 : ∀ r : Nat, r ≠ 45 → I147 r0_4 r = I45 r0_4 r := fun r z0 => p2v146 r (by first | exact z0)
          try simp only [q144, q145] at p3v146
          have F151 : ∀ r : Nat, (r < 41 * 45 ∨ 41 * 45 + 41 ≤ r) → I147 r0_5 r = I45 r0_5 r := fun r z0 => p3v146 r (by first | exact z0)
          have e152 := CM.j S149 R_r0_1 (by decide) e58
          obtain ⟨x154, e155⟩ : ∃ x, I147 r0_4 45 = x := ⟨_, rfl⟩
          have gx154 := rg x154
          have ox154 := IM.dgR hI147 R_r0_4 e155
          try simp only [q144, q145, e58, e55, e155] at p0v146
          try have q0v146 := congrArg Int32.toInt p0v146
          try simp only [q144, q145, e58, e55, e155] at p1v146
          try have q1v146 := congrArg Int32.toInt p1v146
          have hw66 := p1v146; have hx66 := CM.j0 S149 R_r0_26 (by decide)
          refine z_iinc C (z := 1) (lw := fun x156 => [(3, .int x156), (0, .ref r0), (1, .int n1), (2, .int x6)]) rfl rfl rfl (Nat.le_of_ble_eq_true rfl) rfl ⟨by omega, by omega⟩ (fun _ => rfl) (fun x156 ex156 => ?_)
          show V 72 [(3, .int x156), (0, .ref r0), (1, .int n1), (2, .int x6)] _ _ _ _
          refine k_goto C (pc2 := 27) rfl rfl ?_
          refine k_sub S [(0, .ref r0), (1, .int n1), (2, .int x6), (3, .int x156)] (List.forall_mem_cons.mpr ⟨List.mem_of_getElem? (i := 1) rfl, List.forall_mem_cons.mpr ⟨List.mem_of_getElem? (i := 2) rfl, List.forall_mem_cons.mpr ⟨List.mem_of_getElem? (i := 3) rfl, List.forall_mem_cons.mpr ⟨List.mem_of_getElem? (i := 0) rfl, fun _ h => nomatch h⟩⟩⟩⟩) ?_
          exact ihJ43 _ (by omega) I147 L148 x156 x154 rfl hI147 (CM.cons S50 (CM.mono S149 (by decide) (by decide)) (by decide) (by decide)) (fun r z0 => ((F150 r z0).trans (F52 r z0))) (fun r z0 => ((F151 r z0).trans (F53 r z0))) (by omega) (by omega) e155 (by omega) (by omega) (by omega) (by exact hx66.trans ff27_1) (by rw [ncs (k := x47) (by omega) (by omega)]; rcases hu66 with hu66 | hu66; swap; · (exfalso; omega); rcases hv66 with hv66 | hv66; swap; · (exfalso; omega); rw [hu66, hv66] at hw66; exact (RWF.wd ff27_2 hw66 (by omega) (by have h9 := ncz (x := x47) (by omega); omega)).cg rfl (by omega)) (by omega)
      refine k_istore_n C (lw := [(3, .int x42), (0, .ref r0), (1, .int n1), (2, .int x6)]) rfl rfl (Nat.le_of_ble_eq_true rfl) rfl ?_
      refine k_sub S [(0, .ref r0), (1, .int n1), (2, .int x6), (3, .int x42)] (List.forall_mem_cons.mpr ⟨List.mem_of_getElem? (i := 1) rfl, List.forall_mem_cons.mpr ⟨List.mem_of_getElem? (i := 2) rfl, List.forall_mem_cons.mpr ⟨List.mem_of_getElem? (i := 3) rfl, List.forall_mem_cons.mpr ⟨List.mem_of_getElem? (i := 0) rfl, fun _ h => nomatch h⟩⟩⟩⟩) ?_
      exact J43 _ I36 L37 x42 x27 rfl hI36 CM.rf (fun r z0 => rfl) (fun r z0 => rfl) (by omega) (by omega) e41 (by omega) (by omega) (by omega) (by exact hw22.trans (hw14.trans eW9)) (by rw [ncz0 (by omega)]; exact fun j hj => by (have e9 : j = 0 := by omega); subst e9; exact (RI.w hP22).trans (by show _ = (1 : Int); omega)) (by omega)
  refine k_istore_n C (lw := [(2, .int x1), (0, .ref r0), (1, .int n1)]) rfl rfl (Nat.le_of_ble_eq_true rfl) rfl ?_
  refine k_sub S [(0, .ref r0), (1, .int n1), (2, .int x1)] (List.forall_mem_cons.mpr ⟨List.mem_of_getElem? (i := 1) rfl, List.forall_mem_cons.mpr ⟨List.mem_of_getElem? (i := 2) rfl, List.forall_mem_cons.mpr ⟨List.mem_of_getElem? (i := 0) rfl, fun _ h => nomatch h⟩⟩⟩) ?_
  exact J2 _ I L x1 rfl hI CM.rf (fun r z0 => rfl) (fun r z0 => rfl) (by omega) (by omega) (by exact PWT.z (by omega)) (by omega)

set_option maxHeartbeats 8000000 in
theorem a_X12_isLast_x {d : Nat} {T N : Nat → Nat} {I : IT} {L : LT} {R : RT} {A : Nat → Prop} {r0 : Nat} {n1 : Int32} (hI : IM R r0 I) (H_r0 : (h_MD T N R A) r0) (b0_n1 : 0 ≤ n1.toInt) (b1_n1 : n1.toInt ≤ 2) (hp0 : ∀ a4, R r0 4 = some a4 → (I a4 40).toInt ≤ 8) (hp1 : ∀ a4, R r0 4 = some a4 → 1 ≤ (I a4 40).toInt) (hp2 : ∀ a1 a4 a5, R r0 1 = some a1 → R r0 4 = some a4 → R r0 5 = some a5 → RCN I a5 40 (I a1 0).toInt (I a4 40).toInt) (hp3 : ∀ a1 a4 a26, R r0 1 = some a1 → R r0 4 = some a4 → R r0 26 = some a26 → PWT (I a26) (I a1 0).toInt (I a4 40).toInt ((I a1 0).toInt + 1)) (hp4 : ∀ a1 a27, R r0 1 = some a1 → R r0 27 = some a27 → ∀ i : Nat, (i : Int) ≤ n1.toInt → 0 ≤ NF I a27 i ∧ NF I a27 i ≤ (I a1 0).toInt) (hp5 : ∀ a28, R r0 28 = some a28 → ∀ i : Nat, (i : Int) < n1.toInt → 0 ≤ NF I a28 i) : Ex (d + 3) 283 [.ref r0, .int n1] (T, N, I, L, R) 0 0 (pI T N R (fun x9 I9 L9 => (0 ≤ x9.toInt) ∧ (x9.toInt ≤ 1) ∧ (∀ a1 a4 a5 a27 a28, R r0 1 = some a1 → R r0 4 = some a4 → R r0 5 = some a5 → R r0 27 = some a27 → R r0 28 = some a28 → x9.toInt = 1 → (0 < NF I9 a28 n1.toNatClampNeg ∧ NF I9 a28 n1.toNatClampNeg < (I a1 0).toInt) ∧ SPF (I a1 0).toInt (I a4 40).toInt (BNI (I a4 40).toInt) (RI I a5 40) (n1.toNatClampNeg + 1) (NF I a27) (NF I9 a28)) ∧ (∀ a1 a4 a5 a27 a28, R r0 1 = some a1 → R r0 4 = some a4 → R r0 5 = some a5 → R r0 27 = some a27 → R r0 28 = some a28 → x9.toInt = 0 → NOF (I a1 0).toInt (I a4 40).toInt (BNI (I a4 40).toInt) (RI I a5 40) (n1.toNatClampNeg + 1) (NF I a27) (NF I a28) n1.toNatClampNeg) ∧ (∀ a28, R r0 28 = some a28 → ∀ r : Nat, (r : Int) < n1.toInt → I9 a28 r = I a28 r) ∧ (∀ a4, R r0 4 = some a4 → ∀ r : Nat, r ≠ 42 → I9 a4 r = I a4 r) ∧ (∀ a5, R r0 5 = some a5 → ∀ r : Nat, (r < 41 * 42 ∨ 41 * 42 + 41 ≤ r) → I9 a5 r = I a5 r) ∧ (IM R r0 I9 ∧ CM A R r0 [] [4, 5, 28] I L I9 L9))) := by
  refine ⟨_, rfl, Nat.le_of_ble_eq_true rfl, fun V C S => ?_⟩
  show V 0 [(0, .ref r0), (1, .int n1)] [] (T, N, I, L, R) 0 0
  have gn1 := rg n1
  obtain ⟨T_r0, A_r0, ⟨r0_1, R_r0_1, H_r0_1⟩, ⟨r0_2, R_r0_2, H_r0_2⟩, ⟨r0_4, R_r0_4, H_r0_4⟩, ⟨r0_5, R_r0_5, H_r0_5⟩, ⟨r0_10, R_r0_10, H_r0_10⟩, ⟨r0_18, R_r0_18, H_r0_18⟩, ⟨r0_20, R_r0_20, H_r0_20⟩, ⟨r0_21, R_r0_21, H_r0_21⟩, ⟨r0_22, R_r0_22, H_r0_22⟩, ⟨r0_23, R_r0_23, H_r0_23⟩, ⟨r0_25, R_r0_25, H_r0_25⟩, ⟨r0_26, R_r0_26, H_r0_26⟩, ⟨r0_27, R_r0_27, H_r0_27⟩, ⟨r0_28, R_r0_28, H_r0_28⟩, ⟨r0_34, R_r0_34, H_r0_34⟩, J_r0, Y_r0⟩ := id H_r0
  have G_r0 : mF T R r0 := ⟨J_r0, Y_r0, T_r0⟩
  obtain ⟨w_r0_4_40, k0_r0_4_40⟩ : ∃ x, I r0_4 40 = x := ⟨_, rfl⟩
  have gw_r0_4_40 := rg w_r0_4_40
  have ow_r0_4_40 := IM.dgR hI R_r0_4 k0_r0_4_40
  obtain ⟨w_r0_1_0, k0_r0_1_0⟩ : ∃ x, I r0_1 0 = x := ⟨_, rfl⟩
  have gw_r0_1_0 := rg w_r0_1_0
  have ow_r0_1_0 := IM.pi hI R_r0_1 k0_r0_1_0
  have hp0 := hp0 r0_4 R_r0_4
  have hp1 := hp1 r0_4 R_r0_4
  have hp2 := hp2 r0_1 r0_4 r0_5 R_r0_1 R_r0_4 R_r0_5
  have hp3 := hp3 r0_1 r0_4 r0_26 R_r0_1 R_r0_4 R_r0_26
  have hp4 := hp4 r0_1 r0_27 R_r0_1 R_r0_27
  have hp5 := hp5 r0_28 R_r0_28
  try simp only [k0_r0_4_40, k0_r0_1_0] at hp0
  try simp only [k0_r0_4_40, k0_r0_1_0] at hp1
  try simp only [k0_r0_4_40, k0_r0_1_0] at hp2
  try simp only [k0_r0_4_40, k0_r0_1_0] at hp3
  try simp only [k0_r0_4_40, k0_r0_1_0] at hp4
  try simp only [k0_r0_4_40, k0_r0_1_0] at hp5
  have hn1 := ncz (x := n1) (by omega)
  have hPM : PRM w_r0_1_0.toInt := IM.p hI R_r0_1 k0_r0_1_0
  refine k_aload_n C rfl rfl rfl ?_
  refine g_R C rfl rfl rfl T_r0 rfl R_r0_27 ?_
  refine k_iload_n C rfl rfl rfl ?_
  obtain ⟨T_r0_27, N_r0_27, A_r0_27⟩ := id H_r0_27
  refine z_aI C rfl rfl T_r0_27 N_r0_27 (by omega) (by omega) (fun x1 ex1 => ?_)
  have gx1 := rg x1
  have ox1 := IM.spR hI R_r0_27 ex1
  have hr5 := ex1
  obtain ⟨t9, et9⟩ : ∃ t : Int32, t = x1 := ⟨_, rfl⟩
  have et9i : t9.toInt = x1.toInt := (by rw [et9])
  have ht9 : t9.toInt = NF I r0_27 n1.toNatClampNeg := (by rw [et9, ← hr5]; rfl)
  have hbt9 := hp4 n1.toNatClampNeg (by omega)
  have hgt := PWT.g hp3 (s := t9) (by rw [ht9]; exact hbt9.1) (by rw [ht9]; exact Int.lt_add_one_of_le hbt9.2)
  refine k_istore_n C (lw := [(2, .int x1), (0, .ref r0), (1, .int n1)]) rfl rfl (Nat.le_of_ble_eq_true rfl) rfl ?_
  refine k_aload_n C rfl rfl rfl ?_
  refine z_bipush C (z := 40) rfl rfl rfl (fun x2 ex2 => ?_)
  refine z_bipush C (z := 42) rfl rfl rfl (fun x3 ex3 => ?_)
  have q4 : x2.toNatClampNeg = 40 := nck (by omega)
  have q5 : x3.toNatClampNeg = 42 := nck (by omega)
  refine c_VV C (a_X12_copies hI H_r0 (by omega) (by omega) (by omega) (by omega) (by first | omega | (simp only [q4, q5, k0_r0_4_40, k0_r0_1_0, ex1, and_true, true_and, or_true, true_or, and_false, false_and, or_false, false_or] <;> omega))) rfl rfl rfl rfl rfl ⟨_, rfl, rfl, T_r0, Nat.le_of_ble_eq_true rfl⟩ rfl rfl (Nat.le_of_ble_eq_true rfl) (Nat.le_of_ble_eq_true rfl) (Nat.le_of_ble_eq_true rfl) ?_
  rintro I7 L8 ⟨p0v6, p1v6, p2v6, p3v6, hI7, S9⟩
  have p0v6 := p0v6 r0_4 R_r0_4
  have p1v6 := p1v6 r0_4 r0_5 R_r0_4 R_r0_5
  have p2v6 := p2v6 r0_4 R_r0_4
  have p3v6 := p3v6 r0_5 R_r0_5
  try simp only [q4, q5] at p2v6
  have F10 : ∀ r : Nat, r ≠ 42 → I7 r0_4 r = I r0_4 r := fun r z0 => p2v6 r (by first | exact z0)
  try simp only [q4, q5] at p3v6
  have F11 : ∀ r : Nat, (r < 41 * 42 ∨ 41 * 42 + 41 ≤ r) → I7 r0_5 r = I r0_5 r := fun r z0 => p3v6 r (by first | exact z0)
  have e12 := (p2v6 40 (by first | decide | exact ncne (by omega) (by omega) (by omega) | exact nckn (by omega) (by omega) | exact (nckn (by omega) (by omega)).symm)).trans k0_r0_4_40
  have e13 := CM.j S9 R_r0_1 (by decide) k0_r0_1_0
  have e14 := CM.j S9 R_r0_27 (by decide) ex1
  obtain ⟨x15, e16⟩ : ∃ x, I7 r0_4 42 = x := ⟨_, rfl⟩
  have gx15 := rg x15
  have ox15 := IM.dgR hI7 R_r0_4 e16
  try simp only [q4, q5, k0_r0_4_40, k0_r0_1_0, ex1, e16] at p0v6
  try have q0v6 := congrArg Int32.toInt p0v6
  try simp only [q4, q5, k0_r0_4_40, k0_r0_1_0, ex1, e16] at p1v6
  try have q1v6 := congrArg Int32.toInt p1v6
  have hcp := p1v6
  refine z_iconst C (z := 0) rfl rfl rfl (fun x17 ex17 => ?_)
  have J18 : ∀ (nn19 : Nat) (I20 : IT) (L21 : LT) (x22 : Int32), ((2 - x22.toInt).toNat = nn19) → (IM R r0 I20) → (CM A R r0 [] [5] I7 L8 I20 L21) → (∀ r : Nat, (r < 41 * 42 ∨ 41 * 42 + 41 ≤ r) → I20 r0_5 r = I7 r0_5 r) → (0 ≤ x22.toInt) → (x22.toInt ≤ 2) → (RLS I20 r0_5 w_r0_1_0.toInt w_r0_4_40.toInt (RI I r0_5 40) (NF I r0_27) (NF I r0_28) x22.toNatClampNeg x22.toNatClampNeg 0) → (x22.toInt ≤ n1.toInt) → V 17 [(0, .ref r0), (1, .int n1), (2, .int x1), (3, .int x22)] [] (T, N, I20, L21, R) 0 0 := by
    intro nn19
    induction nn19 using Nat.strongRecOn with
    | _ nn19 ihJ18 =>
      intro I20 L21 x22 hmnn19 hI26 S25 F27 b23 b24 ff17_0 ff17_1
      have gx22 := rg x22
      have e28 := CM.j S25 R_r0_4 (by decide) e12
      have e29 := CM.j S25 R_r0_1 (by decide) e13
      have e30 := CM.j S25 R_r0_27 (by decide) e14
      have e31 := CM.j S25 R_r0_4 (by decide) e16
      refine k_iload_n C rfl rfl rfl ?_
      refine k_iload_n C rfl rfl rfl ?_
      refine b_icmp_ge C (t := 91) rfl rfl rfl (fun c32 => ?_) (fun c32 => ?_)
      · skip
        have hkn : x22.toNatClampNeg = n1.toNatClampNeg := nct (by omega)
        have hRL := ff17_0
        rw [hkn] at hRL
        refine k_iload_n C rfl rfl rfl ?_
        refine k_aload_n C rfl rfl rfl ?_
        refine c_VI C (a_X12_p hI26 H_r0) rfl rfl rfl rfl rfl ⟨_, rfl, rfl, T_r0, Nat.le_of_ble_eq_true rfl⟩ rfl rfl (Nat.le_of_ble_eq_true rfl) (Nat.le_of_ble_eq_true rfl) (Nat.le_of_ble_eq_true rfl) ?_
        rintro x33 _ _ ⟨o0x33, o1x33, p0x33, rfl, rfl⟩
        have p0x33 := p0x33 r0_1 R_r0_1
        have gx33 := rg x33
        try simp only [e28, e29, e30, e31, e29] at p0x33
        try have q0x33 := congrArg Int32.toInt p0x33
        refine b_icmp_ge C (t := 109) rfl rfl rfl (fun c34 => ?_) (fun c34 => ?_)
        · skip
          refine k_aload_n C rfl rfl rfl ?_
          refine z_bipush C (z := 42) rfl rfl rfl (fun x35 ex35 => ?_)
          refine k_aload_n C rfl rfl rfl ?_
          refine g_R C rfl rfl rfl T_r0 rfl R_r0_4 ?_
          refine z_bipush C (z := 42) rfl rfl rfl (fun x36 ex36 => ?_)
          obtain ⟨T_r0_4, N_r0_4, A_r0_4⟩ := id H_r0_4
          refine a_I C rfl rfl T_r0_4 (by rw [N_r0_4]; exact vpi (by omega) (by omega)) ((congrArg (I20 r0_4) (nck (n := 42) (by omega))).trans e31) ?_
          have q37 : x35.toNatClampNeg = 42 := nck (by omega)
          refine c_VI C (a_X12_of hI26 H_r0 (by omega) (by omega) (by omega) (by omega)) rfl rfl rfl rfl rfl ⟨_, rfl, rfl, T_r0, Nat.le_of_ble_eq_true rfl⟩ rfl rfl (Nat.le_of_ble_eq_true rfl) (Nat.le_of_ble_eq_true rfl) (Nat.le_of_ble_eq_true rfl) ?_
          rintro x38 _ _ ⟨o0x38, o1x38, p0x38, rfl, rfl⟩
          have p0x38 := p0x38 r0_5 R_r0_5
          have gx38 := rg x38
          try simp only [q37, e28, e29, e30, e31] at p0x38
          try have q0x38 := congrArg Int32.toInt p0x38
          have hy := p0x38
          obtain ⟨m0, em0⟩ : ∃ m : Nat, m = x15.toNatClampNeg := ⟨_, rfl⟩
          have hy0 : x38.toInt = RI I20 r0_5 42 m0 := (by rw [em0]; exact hy)
          have hm0i : (m0 : Int) = w_r0_4_40.toInt := (by rw [em0]; have h9 := ncz (x := x15) (by omega); omega)
          have hm0 : (m0 : Int) ≤ w_r0_4_40.toInt := (by omega)
          have h10 : BNI w_r0_4_40.toInt m0 * PTV w_r0_1_0.toInt t9.toInt (w_r0_4_40.toInt + 1) m0 = 1 := (by rw [BNI.o1 hm0i (by omega), PTV.b1 (by omega) (by omega), Int.mul_one])
          refine k_istore_n C (lw := [(3, .int x38), (0, .ref r0), (1, .int n1), (2, .int x1)]) rfl rfl (Nat.le_of_ble_eq_true rfl) rfl ?_
          refine k_aload_n C rfl rfl rfl ?_
          refine g_R C rfl rfl rfl T_r0 rfl R_r0_28 ?_
          refine k_iload_n C rfl rfl rfl ?_
          refine k_iload_n C rfl rfl rfl ?_
          have h28 := (CM.j0 (W := []) (WA := [4, 5]) (CM.cons S9 (CM.mono S25 (by decide) (by decide)) (by decide) (by decide)) R_r0_28 (by decide))
          obtain ⟨y9, ey9⟩ : ∃ y : Int32, y = x38 := ⟨_, rfl⟩
          have ey9i : y9.toInt = x38.toInt := (by rw [ey9])
          obtain ⟨R9, eR9⟩ : ∃ f : Nat → Int, RI I20 r0_5 42 = f := ⟨_, rfl⟩
          have hR : ∀ m : Nat, (m : Int) ≤ w_r0_4_40.toInt → 0 ≤ R9 m ∧ R9 m < w_r0_1_0.toInt ∧ PmE w_r0_1_0.toInt (R9 m) ((RI I r0_5 40) m - BNI w_r0_4_40.toInt m * SPS w_r0_1_0.toInt (w_r0_4_40.toInt + 1) (NF I r0_27) (NF I r0_28) n1.toNatClampNeg m) := fun m hm => by (have h9 := hRL m hm; rw [if_neg (by omega), eR9] at h9; exact h9)
          have hyR : y9.toInt = R9 m0 := (by rw [ey9]; exact hy0.trans (congrFun eR9 m0))
          have hby := hR m0 hm0
          rw [← hyR] at hby
          obtain ⟨T_r0_28, N_r0_28, A_r0_28⟩ := id H_r0_28
          refine z_sI C rfl rfl T_r0_28 N_r0_28 (by omega) (by omega) (fun I39 uI39 => ?_)
          have hI39 : IM R r0 I39 := IM.arr hI26 G_r0 R_r0_28 ⟨(fun h => absurd h (by decide)), (fun h => absurd h (by decide)), (fun _ => ⟨by omega, by omega⟩)⟩ (fun h => absurd h (by decide)) uI39
          have S40 : CM A R r0 [] [28] I20 L21 I39 L21 := CM.a G_r0 R_r0_28 A_r0_28 uI39
          have e41 := u2_n uI39 (mF.nq G_r0 R_r0_4 R_r0_28 (by decide)) e28
          have e42 := u2_n uI39 (mF.nq G_r0 R_r0_1 R_r0_28 (by decide)) e29
          have e43 := u2_n uI39 (mF.nq G_r0 R_r0_27 R_r0_28 (by decide)) e30
          have e44 := u2_n uI39 (mF.nq G_r0 R_r0_4 R_r0_28 (by decide)) e31
          have e45 := u2_e uI39
          have hu129 := uI39
          have h5 := CM.j0 S40 R_r0_5 (by decide)
          have h5R : RI I39 r0_5 42 = R9 := funext fun j => by (show (I39 r0_5 _).toInt = _; rw [h5]; exact congrFun eR9 j)
          refine k_iload_n C rfl rfl rfl ?_
          refine b_if_eq C (t := 138) rfl rfl rfl (fun c46 => ?_) (fun c46 => ?_)
          · skip
            refine z_iconst C (z := 0) rfl rfl rfl (fun x47 ex47 => ?_)
            refine k_istore C (lw := [(4, .int x47), (3, .int x38), (0, .ref r0), (1, .int n1), (2, .int x1)]) rfl rfl (Nat.le_of_ble_eq_true rfl) rfl ?_
            refine z_iconst C (z := 0) rfl rfl rfl (fun x48 ex48 => ?_)
            have J49 : ∀ (nn50 : Nat) (x51 : Int32) (x54 : Int32), ((41 - x54.toInt).toNat = nn50) → (0 ≤ x51.toInt) → (x51.toInt ≤ 1) → (0 ≤ x54.toInt) → (x54.toInt ≤ 41) → (ILQ x51.toInt y9.toInt w_r0_1_0.toInt w_r0_4_40.toInt R9 (fun m => (I r0_26 (9 * t9.toNatClampNeg + m)).toInt) x54.toInt) → (x54.toInt ≤ w_r0_4_40.toInt + 1) → V 144 [(0, .ref r0), (2, .int x1), (3, .int x38), (4, .int x51), (5, .int x54)] [] (T, N, I39, L21, R) 0 0 := by
              intro nn50
              induction nn50 using Nat.strongRecOn with
              | _ nn50 ihJ49 =>
                intro x51 x54 hmnn50 b52 b53 b55 b56 ff144_0 ff144_1
                have gx51 := rg x51
                have gx54 := rg x54
                refine k_iload C rfl rfl rfl ?_
                refine k_aload_n C rfl rfl rfl ?_
                refine g_R C rfl rfl rfl T_r0 rfl R_r0_4 ?_
                refine z_bipush C (z := 42) rfl rfl rfl (fun x57 ex57 => ?_)
                refine a_I C rfl rfl T_r0_4 (by rw [N_r0_4]; exact vpi (by omega) (by omega)) ((congrArg (I39 r0_4) (nck (n := 42) (by omega))).trans e44) ?_
                refine b_icmp_gt C (t := 197) rfl rfl rfl (fun c58 => ?_) (fun c58 => ?_)
                · skip
                  refine k_iload C rfl rfl rfl ?_
                  exact k_iret C rfl (Or.inr ⟨rfl, z01 (by omega) (by omega)⟩) (Nat.le_of_ble_eq_true rfl) (Nat.le_of_ble_eq_true rfl) ⟨_, _, _, rfl, rfl, by omega, by omega, fun a1 a4 a5 a27 a28 h1 h4 h5 h27 h28 => by cases (R_r0_1.symm.trans h1); cases (R_r0_4.symm.trans h4); cases (R_r0_5.symm.trans h5); cases (R_r0_27.symm.trans h27); cases (R_r0_28.symm.trans h28); intro hx; simp only [k0_r0_4_40, k0_r0_1_0]; exact ILQ.y ff144_0 hx (by omega) (fun m hm => (hR m hm).2.2) hgt ht9 (fun i hi => by show (_ : Int32).toInt = (_ : Int32).toInt; rw [hu129, u2_k (by omega), h28]) (by show (_ : Int32).toInt = _; rw [hu129, u2_s, ey9]) ⟨hby.1, hby.2.1⟩, fun a1 a4 a5 a27 a28 h1 h4 h5 h27 h28 => by cases (R_r0_1.symm.trans h1); cases (R_r0_4.symm.trans h4); cases (R_r0_5.symm.trans h5); cases (R_r0_27.symm.trans h27); cases (R_r0_28.symm.trans h28); intro hx; simp only [k0_r0_4_40, k0_r0_1_0]; exact ILQ.n ff144_0 hx hR hgt ht9 hyR hm0 h10 (by omega), fun a28 h28 => by cases (R_r0_28.symm.trans h28); intro r hr; rw [hu129, u2_k (by omega), h28], fun a4 h4 => by cases (R_r0_4.symm.trans h4); exact (fun r z0 => ((congrFun (CM.j0 S40 R_r0_4 (by decide)) r).trans ((congrFun (CM.j0 S25 R_r0_4 (by decide)) r).trans (F10 r z0)))), fun a5 h5 => by cases (R_r0_5.symm.trans h5); exact (fun r z0 => ((congrFun (CM.j0 S40 R_r0_5 (by decide)) r).trans ((F27 r z0).trans (F11 r z0)))), hI39, (CM.cons S9 (CM.cons S25 (CM.mono S40 (by decide) (by decide)) (by decide) (by decide)) (by decide) (by decide))⟩
                refine k_iload C rfl rfl rfl ?_
                refine b_if_eq C (t := 197) rfl rfl rfl (fun c59 => ?_) (fun c59 => ?_)
                · skip
                  refine k_iload C rfl rfl rfl ?_
                  exact k_iret C rfl (Or.inr ⟨rfl, z01 (by omega) (by omega)⟩) (Nat.le_of_ble_eq_true rfl) (Nat.le_of_ble_eq_true rfl) ⟨_, _, _, rfl, rfl, by omega, by omega, fun a1 a4 a5 a27 a28 h1 h4 h5 h27 h28 => by cases (R_r0_1.symm.trans h1); cases (R_r0_4.symm.trans h4); cases (R_r0_5.symm.trans h5); cases (R_r0_27.symm.trans h27); cases (R_r0_28.symm.trans h28); intro hx; simp only [k0_r0_4_40, k0_r0_1_0]; exact ILQ.y ff144_0 hx (by omega) (fun m hm => (hR m hm).2.2) hgt ht9 (fun i hi => by show (_ : Int32).toInt = (_ : Int32).toInt; rw [hu129, u2_k (by omega), h28]) (by show (_ : Int32).toInt = _; rw [hu129, u2_s, ey9]) ⟨hby.1, hby.2.1⟩, fun a1 a4 a5 a27 a28 h1 h4 h5 h27 h28 => by cases (R_r0_1.symm.trans h1); cases (R_r0_4.symm.trans h4); cases (R_r0_5.symm.trans h5); cases (R_r0_27.symm.trans h27); cases (R_r0_28.symm.trans h28); intro hx; simp only [k0_r0_4_40, k0_r0_1_0]; exact ILQ.n ff144_0 hx hR hgt ht9 hyR hm0 h10 (by omega), fun a28 h28 => by cases (R_r0_28.symm.trans h28); intro r hr; rw [hu129, u2_k (by omega), h28], fun a4 h4 => by cases (R_r0_4.symm.trans h4); exact (fun r z0 => ((congrFun (CM.j0 S40 R_r0_4 (by decide)) r).trans ((congrFun (CM.j0 S25 R_r0_4 (by decide)) r).trans (F10 r z0)))), fun a5 h5 => by cases (R_r0_5.symm.trans h5); exact (fun r z0 => ((congrFun (CM.j0 S40 R_r0_5 (by decide)) r).trans ((F27 r z0).trans (F11 r z0)))), hI39, (CM.cons S9 (CM.cons S25 (CM.mono S40 (by decide) (by decide)) (by decide) (by decide)) (by decide) (by decide))⟩
                refine k_aload_n C rfl rfl rfl ?_
                refine z_bipush C (z := 42) rfl rfl rfl (fun x60 ex60 => ?_)
                refine k_iload C rfl rfl rfl ?_
                have q61 : x60.toNatClampNeg = 42 := nck (by omega)
                refine c_VI C (a_X12_of hI39 H_r0 (by omega) (by omega) (by omega) (by omega)) rfl rfl rfl rfl rfl ⟨_, rfl, rfl, T_r0, Nat.le_of_ble_eq_true rfl⟩ rfl rfl (Nat.le_of_ble_eq_true rfl) (Nat.le_of_ble_eq_true rfl) (Nat.le_of_ble_eq_true rfl) ?_
                rintro x62 _ _ ⟨o0x62, o1x62, p0x62, rfl, rfl⟩
                have p0x62 := p0x62 r0_5 R_r0_5
                have gx62 := rg x62
                try simp only [q61, e41, e42, e43, e44, e45] at p0x62
                try have q0x62 := congrArg Int32.toInt p0x62
                have ho166 := (show x62.toInt = RI I39 r0_5 42 x54.toNatClampNeg from p0x62).trans (congrFun h5R _)
                refine k_aload_n C rfl rfl rfl ?_
                refine k_iload_n C rfl rfl rfl ?_
                refine k_aload_n C rfl rfl rfl ?_
                refine k_iload_n C rfl rfl rfl ?_
                refine k_iload C rfl rfl rfl ?_
                refine c_VI C (a_X12_powerAt_x hI39 H_r0 (by omega) (by omega) (by omega) (by omega)) rfl rfl rfl rfl rfl ⟨_, rfl, rfl, T_r0, Nat.le_of_ble_eq_true rfl⟩ rfl rfl (Nat.le_of_ble_eq_true rfl) (Nat.le_of_ble_eq_true rfl) (Nat.le_of_ble_eq_true rfl) ?_
                rintro x63 _ _ ⟨o0x63, o1x63, p0x63, rfl, rfl⟩
                have p0x63 := p0x63 r0_26 R_r0_26
                have gx63 := rg x63
                try simp only [e41, e42, e43, e44, e45] at p0x63
                try have q0x63 := congrArg Int32.toInt p0x63
                have hw175 := p0x63
                (try rw [(CM.j0 (W := []) (WA := [4, 5, 28]) (CM.cons S9 (CM.cons S25 (CM.mono S40 (by decide) (by decide)) (by decide) (by decide)) (by decide) (by decide)) R_r0_26 (by decide))] at hw175)
                have q64 : x38.toNatClampNeg = 0 := nck (by omega)
                refine c_VI C (a_X12_times hI39 H_r0 (by omega) (by omega) (by omega) (by omega)) rfl rfl rfl rfl rfl ⟨_, rfl, rfl, T_r0, Nat.le_of_ble_eq_true rfl⟩ rfl rfl (Nat.le_of_ble_eq_true rfl) (Nat.le_of_ble_eq_true rfl) (Nat.le_of_ble_eq_true rfl) ?_
                rintro x65 _ _ ⟨o0x65, o1x65, p0x65, p1x65, p2x65, p3x65, rfl, rfl⟩
                have p0x65 := p0x65 r0_1 R_r0_1
                have p2x65 := p2x65 r0_1 R_r0_1
                have p3x65 := p3x65 r0_1 R_r0_1
                have gx65 := rg x65
                try simp only [q64, e41, e42, e43, e44, e45] at p0x65
                try have q0x65 := congrArg Int32.toInt p0x65
                try simp only [q64, e41, e42, e43, e44, e45] at p1x65
                try have q1x65 := congrArg Int32.toInt p1x65
                try simp only [q64, e41, e42, e43, e44, e45] at p2x65
                try have q2x65 := congrArg Int32.toInt p2x65
                try simp only [q64, e41, e42, e43, e44, e45] at p3x65
                try have q3x65 := congrArg Int32.toInt p3x65
                have hm178 := p3x65
                refine b_icmp_ne C (t := 188) rfl rfl rfl (fun c66 => ?_) (fun c66 => ?_)
                · skip
                  refine z_iconst C (z := 0) rfl rfl rfl (fun x67 ex67 => ?_)
                  refine k_istore C (lw := [(4, .int x67), (0, .ref r0), (2, .int x1), (3, .int x38), (5, .int x54)]) rfl rfl (Nat.le_of_ble_eq_true rfl) rfl ?_
                  refine z_iinc C (z := 1) (lw := fun x68 => [(5, .int x68), (4, .int x67), (0, .ref r0), (2, .int x1), (3, .int x38)]) rfl rfl rfl (Nat.le_of_ble_eq_true rfl) rfl ⟨by omega, by omega⟩ (fun _ => rfl) (fun x68 ex68 => ?_)
                  show V 194 [(5, .int x68), (4, .int x67), (0, .ref r0), (2, .int x1), (3, .int x38)] _ _ _ _
                  refine k_goto C (pc2 := 144) rfl rfl ?_
                  refine k_sub S [(0, .ref r0), (2, .int x1), (3, .int x38), (4, .int x67), (5, .int x68)] (List.forall_mem_cons.mpr ⟨List.mem_of_getElem? (i := 2) rfl, List.forall_mem_cons.mpr ⟨List.mem_of_getElem? (i := 3) rfl, List.forall_mem_cons.mpr ⟨List.mem_of_getElem? (i := 4) rfl, List.forall_mem_cons.mpr ⟨List.mem_of_getElem? (i := 1) rfl, List.forall_mem_cons.mpr ⟨List.mem_of_getElem? (i := 0) rfl, fun _ h => nomatch h⟩⟩⟩⟩⟩) ?_
                  exact ihJ49 _ (by omega) x67 x68 rfl (by omega) (by omega) (by omega) (by omega) (by exact ILQ.s ff144_0 (by omega) (by omega) ho166 (by rw [hw175, et9]) (by rw [ey9]; exact hm178) (by omega) (by omega) (by omega) (by omega)) (by omega)
                refine z_iconst C (z := 1) rfl rfl rfl (fun x69 ex69 => ?_)
                refine k_goto C (pc2 := 189) rfl rfl ?_
                refine k_istore C (lw := [(4, .int x69), (0, .ref r0), (2, .int x1), (3, .int x38), (5, .int x54)]) rfl rfl (Nat.le_of_ble_eq_true rfl) rfl ?_
                refine z_iinc C (z := 1) (lw := fun x70 => [(5, .int x70), (4, .int x69), (0, .ref r0), (2, .int x1), (3, .int x38)]) rfl rfl rfl (Nat.le_of_ble_eq_true rfl) rfl ⟨by omega, by omega⟩ (fun _ => rfl) (fun x70 ex70 => ?_)
                show V 194 [(5, .int x70), (4, .int x69), (0, .ref r0), (2, .int x1), (3, .int x38)] _ _ _ _
                refine k_goto C (pc2 := 144) rfl rfl ?_
                refine k_sub S [(0, .ref r0), (2, .int x1), (3, .int x38), (4, .int x69), (5, .int x70)] (List.forall_mem_cons.mpr ⟨List.mem_of_getElem? (i := 2) rfl, List.forall_mem_cons.mpr ⟨List.mem_of_getElem? (i := 3) rfl, List.forall_mem_cons.mpr ⟨List.mem_of_getElem? (i := 4) rfl, List.forall_mem_cons.mpr ⟨List.mem_of_getElem? (i := 1) rfl, List.forall_mem_cons.mpr ⟨List.mem_of_getElem? (i := 0) rfl, fun _ h => nomatch h⟩⟩⟩⟩⟩) ?_
                exact ihJ49 _ (by omega) x69 x70 rfl (by omega) (by omega) (by omega) (by omega) (by exact ILQ.s ff144_0 (by omega) (by omega) ho166 (by rw [hw175, et9]) (by rw [ey9]; exact hm178) (by omega) (by omega) (by omega) (by omega)) (by omega)
            refine k_istore C (lw := [(5, .int x48), (4, .int x47), (3, .int x38), (0, .ref r0), (1, .int n1), (2, .int x1)]) rfl rfl (Nat.le_of_ble_eq_true rfl) rfl ?_
            refine k_sub S [(0, .ref r0), (2, .int x1), (3, .int x38), (4, .int x47), (5, .int x48)] (List.forall_mem_cons.mpr ⟨List.mem_of_getElem? (i := 3) rfl, List.forall_mem_cons.mpr ⟨List.mem_of_getElem? (i := 5) rfl, List.forall_mem_cons.mpr ⟨List.mem_of_getElem? (i := 2) rfl, List.forall_mem_cons.mpr ⟨List.mem_of_getElem? (i := 1) rfl, List.forall_mem_cons.mpr ⟨List.mem_of_getElem? (i := 0) rfl, fun _ h => nomatch h⟩⟩⟩⟩⟩) ?_
            exact J49 _ x47 x48 rfl (by omega) (by omega) (by omega) (by omega) (by exact ILQ.z (by omega) (by omega)) (by omega)
          refine z_iconst C (z := 1) rfl rfl rfl (fun x71 ex71 => ?_)
          refine k_goto C (pc2 := 139) rfl rfl ?_
          refine k_istore C (lw := [(4, .int x71), (3, .int x38), (0, .ref r0), (1, .int n1), (2, .int x1)]) rfl rfl (Nat.le_of_ble_eq_true rfl) rfl ?_
          refine z_iconst C (z := 0) rfl rfl rfl (fun x72 ex72 => ?_)
          have J73 : ∀ (nn74 : Nat) (x75 : Int32) (x78 : Int32), ((41 - x78.toInt).toNat = nn74) → (0 ≤ x75.toInt) → (x75.toInt ≤ 1) → (0 ≤ x78.toInt) → (x78.toInt ≤ 41) → (ILQ x75.toInt y9.toInt w_r0_1_0.toInt w_r0_4_40.toInt R9 (fun m => (I r0_26 (9 * t9.toNatClampNeg + m)).toInt) x78.toInt) → (x78.toInt ≤ w_r0_4_40.toInt + 1) → V 144 [(0, .ref r0), (2, .int x1), (3, .int x38), (4, .int x75), (5, .int x78)] [] (T, N, I39, L21, R) 0 0 := by
            intro nn74
            induction nn74 using Nat.strongRecOn with
            | _ nn74 ihJ73 =>
              intro x75 x78 hmnn74 b76 b77 b79 b80 ff144_0 ff144_1
              have gx75 := rg x75
              have gx78 := rg x78
              refine k_iload C rfl rfl rfl ?_
              refine k_aload_n C rfl rfl rfl ?_
              refine g_R C rfl rfl rfl T_r0 rfl R_r0_4 ?_
              refine z_bipush C (z := 42) rfl rfl rfl (fun x81 ex81 => ?_)
              refine a_I C rfl rfl T_r0_4 (by rw [N_r0_4]; exact vpi (by omega) (by omega)) ((congrArg (I39 r0_4) (nck (n := 42) (by omega))).trans e44) ?_
              refine b_icmp_gt C (t := 197) rfl rfl rfl (fun c82 => ?_) (fun c82 => ?_)
              · skip
                refine k_iload C rfl rfl rfl ?_
                exact k_iret C rfl (Or.inr ⟨rfl, z01 (by omega) (by omega)⟩) (Nat.le_of_ble_eq_true rfl) (Nat.le_of_ble_eq_true rfl) ⟨_, _, _, rfl, rfl, by omega, by omega, fun a1 a4 a5 a27 a28 h1 h4 h5 h27 h28 => by cases (R_r0_1.symm.trans h1); cases (R_r0_4.symm.trans h4); cases (R_r0_5.symm.trans h5); cases (R_r0_27.symm.trans h27); cases (R_r0_28.symm.trans h28); intro hx; simp only [k0_r0_4_40, k0_r0_1_0]; exact ILQ.y ff144_0 hx (by omega) (fun m hm => (hR m hm).2.2) hgt ht9 (fun i hi => by show (_ : Int32).toInt = (_ : Int32).toInt; rw [hu129, u2_k (by omega), h28]) (by show (_ : Int32).toInt = _; rw [hu129, u2_s, ey9]) ⟨hby.1, hby.2.1⟩, fun a1 a4 a5 a27 a28 h1 h4 h5 h27 h28 => by cases (R_r0_1.symm.trans h1); cases (R_r0_4.symm.trans h4); cases (R_r0_5.symm.trans h5); cases (R_r0_27.symm.trans h27); cases (R_r0_28.symm.trans h28); intro hx; simp only [k0_r0_4_40, k0_r0_1_0]; exact ILQ.n ff144_0 hx hR hgt ht9 hyR hm0 h10 (by omega), fun a28 h28 => by cases (R_r0_28.symm.trans h28); intro r hr; rw [hu129, u2_k (by omega), h28], fun a4 h4 => by cases (R_r0_4.symm.trans h4); exact (fun r z0 => ((congrFun (CM.j0 S40 R_r0_4 (by decide)) r).trans ((congrFun (CM.j0 S25 R_r0_4 (by decide)) r).trans (F10 r z0)))), fun a5 h5 => by cases (R_r0_5.symm.trans h5); exact (fun r z0 => ((congrFun (CM.j0 S40 R_r0_5 (by decide)) r).trans ((F27 r z0).trans (F11 r z0)))), hI39, (CM.cons S9 (CM.cons S25 (CM.mono S40 (by decide) (by decide)) (by decide) (by decide)) (by decide) (by decide))⟩
              refine k_iload C rfl rfl rfl ?_
              refine b_if_eq C (t := 197) rfl rfl rfl (fun c83 => ?_) (fun c83 => ?_)
              · skip
                refine k_iload C rfl rfl rfl ?_
                exact k_iret C rfl (Or.inr ⟨rfl, z01 (by omega) (by omega)⟩) (Nat.le_of_ble_eq_true rfl) (Nat.le_of_ble_eq_true rfl) ⟨_, _, _, rfl, rfl, by omega, by omega, fun a1 a4 a5 a27 a28 h1 h4 h5 h27 h28 => by cases (R_r0_1.symm.trans h1); cases (R_r0_4.symm.trans h4); cases (R_r0_5.symm.trans h5); cases (R_r0_27.symm.trans h27); cases (R_r0_28.symm.trans h28); intro hx; simp only [k0_r0_4_40, k0_r0_1_0]; exact ILQ.y ff144_0 hx (by omega) (fun m hm => (hR m hm).2.2) hgt ht9 (fun i hi => by show (_ : Int32).toInt = (_ : Int32).toInt; rw [hu129, u2_k (by omega), h28]) (by show (_ : Int32).toInt = _; rw [hu129, u2_s, ey9]) ⟨hby.1, hby.2.1⟩, fun a1 a4 a5 a27 a28 h1 h4 h5 h27 h28 => by cases (R_r0_1.symm.trans h1); cases (R_r0_4.symm.trans h4); cases (R_r0_5.symm.trans h5); cases (R_r0_27.symm.trans h27); cases (R_r0_28.symm.trans h28); intro hx; simp only [k0_r0_4_40, k0_r0_1_0]; exact ILQ.n ff144_0 hx hR hgt ht9 hyR hm0 h10 (by omega), fun a28 h28 => by cases (R_r0_28.symm.trans h28); intro r hr; rw [hu129, u2_k (by omega), h28], fun a4 h4 => by cases (R_r0_4.symm.trans h4); exact (fun r z0 => ((congrFun (CM.j0 S40 R_r0_4 (by decide)) r).trans ((congrFun (CM.j0 S25 R_r0_4 (by decide)) r).trans (F10 r z0)))), fun a5 h5 => by cases (R_r0_5.symm.trans h5); exact (fun r z0 => ((congrFun (CM.j0 S40 R_r0_5 (by decide)) r).trans ((F27 r z0).trans (F11 r z0)))), hI39, (CM.cons S9 (CM.cons S25 (CM.mono S40 (by decide) (by decide)) (by decide) (by decide)) (by decide) (by decide))⟩
              refine k_aload_n C rfl rfl rfl ?_
              refine z_bipush C (z := 42) rfl rfl rfl (fun x84 ex84 => ?_)
              refine k_iload C rfl rfl rfl ?_
              have q85 : x84.toNatClampNeg = 42 := nck (by omega)
              refine c_VI C (a_X12_of hI39 H_r0 (by omega) (by omega) (by omega) (by omega)) rfl rfl rfl rfl rfl ⟨_, rfl, rfl, T_r0, Nat.le_of_ble_eq_true rfl⟩ rfl rfl (Nat.le_of_ble_eq_true rfl) (Nat.le_of_ble_eq_true rfl) (Nat.le_of_ble_eq_true rfl) ?_
              rintro x86 _ _ ⟨o0x86, o1x86, p0x86, rfl, rfl⟩
              have p0x86 := p0x86 r0_5 R_r0_5
              have gx86 := rg x86
              try simp only [q85, e41, e42, e43, e44, e45] at p0x86
              try have q0x86 := congrArg Int32.toInt p0x86
              have ho166 := (show x86.toInt = RI I39 r0_5 42 x78.toNatClampNeg from p0x86).trans (congrFun h5R _)
              refine k_aload_n C rfl rfl rfl ?_
              refine k_iload_n C rfl rfl rfl ?_
              refine k_aload_n C rfl rfl rfl ?_
              refine k_iload_n C rfl rfl rfl ?_
              refine k_iload C rfl rfl rfl ?_
              refine c_VI C (a_X12_powerAt_x hI39 H_r0 (by omega) (by omega) (by omega) (by omega)) rfl rfl rfl rfl rfl ⟨_, rfl, rfl, T_r0, Nat.le_of_ble_eq_true rfl⟩ rfl rfl (Nat.le_of_ble_eq_true rfl) (Nat.le_of_ble_eq_true rfl) (Nat.le_of_ble_eq_true rfl) ?_
              rintro x87 _ _ ⟨o0x87, o1x87, p0x87, rfl, rfl⟩
              have p0x87 := p0x87 r0_26 R_r0_26
              have gx87 := rg x87
              try simp only [e41, e42, e43, e44, e45] at p0x87
              try have q0x87 := congrArg Int32.toInt p0x87
              have hw175 := p0x87
              (try rw [(CM.j0 (W := []) (WA := [4, 5, 28]) (CM.cons S9 (CM.cons S25 (CM.mono S40 (by decide) (by decide)) (by decide) (by decide)) (by decide) (by decide)) R_r0_26 (by decide))] at hw175)
              refine c_VI C (a_X12_times hI39 H_r0 (by omega) (by omega) (by omega) (by omega)) rfl rfl rfl rfl rfl ⟨_, rfl, rfl, T_r0, Nat.le_of_ble_eq_true rfl⟩ rfl rfl (Nat.le_of_ble_eq_true rfl) (Nat.le_of_ble_eq_true rfl) (Nat.le_of_ble_eq_true rfl) ?_
              rintro x88 _ _ ⟨o0x88, o1x88, p0x88, p1x88, p2x88, p3x88, rfl, rfl⟩
              have p0x88 := p0x88 r0_1 R_r0_1
              have p2x88 := p2x88 r0_1 R_r0_1
              have p3x88 := p3x88 r0_1 R_r0_1
              have gx88 := rg x88
              try simp only [e41, e42, e43, e44, e45] at p0x88
              try have q0x88 := congrArg Int32.toInt p0x88
              try simp only [e41, e42, e43, e44, e45] at p1x88
              try have q1x88 := congrArg Int32.toInt p1x88
              try simp only [e41, e42, e43, e44, e45] at p2x88
              try have q2x88 := congrArg Int32.toInt p2x88
              try simp only [e41, e42, e43, e44, e45] at p3x88
              try have q3x88 := congrArg Int32.toInt p3x88
              have hm178 := p3x88
              refine b_icmp_ne C (t := 188) rfl rfl rfl (fun c89 => ?_) (fun c89 => ?_)
              · skip
                refine z_iconst C (z := 0) rfl rfl rfl (fun x90 ex90 => ?_)
                refine k_istore C (lw := [(4, .int x90), (0, .ref r0), (2, .int x1), (3, .int x38), (5, .int x78)]) rfl rfl (Nat.le_of_ble_eq_true rfl) rfl ?_
                refine z_iinc C (z := 1) (lw := fun x91 => [(5, .int x91), (4, .int x90), (0, .ref r0), (2, .int x1), (3, .int x38)]) rfl rfl rfl (Nat.le_of_ble_eq_true rfl) rfl ⟨by omega, by omega⟩ (fun _ => rfl) (fun x91 ex91 => ?_)
                show V 194 [(5, .int x91), (4, .int x90), (0, .ref r0), (2, .int x1), (3, .int x38)] _ _ _ _
                refine k_goto C (pc2 := 144) rfl rfl ?_
                refine k_sub S [(0, .ref r0), (2, .int x1), (3, .int x38), (4, .int x90), (5, .int x91)] (List.forall_mem_cons.mpr ⟨List.mem_of_getElem? (i := 2) rfl, List.forall_mem_cons.mpr ⟨List.mem_of_getElem? (i := 3) rfl, List.forall_mem_cons.mpr ⟨List.mem_of_getElem? (i := 4) rfl, List.forall_mem_cons.mpr ⟨List.mem_of_getElem? (i := 1) rfl, List.forall_mem_cons.mpr ⟨List.mem_of_getElem? (i := 0) rfl, fun _ h => nomatch h⟩⟩⟩⟩⟩) ?_
                exact ihJ73 _ (by omega) x90 x91 rfl (by omega) (by omega) (by omega) (by omega) (by exact ILQ.s ff144_0 (by omega) (by omega) ho166 (by rw [hw175, et9]) (by rw [ey9]; exact hm178) (by omega) (by omega) (by omega) (by omega)) (by omega)
              refine z_iconst C (z := 1) rfl rfl rfl (fun x92 ex92 => ?_)
              refine k_goto C (pc2 := 189) rfl rfl ?_
              refine k_istore C (lw := [(4, .int x92), (0, .ref r0), (2, .int x1), (3, .int x38), (5, .int x78)]) rfl rfl (Nat.le_of_ble_eq_true rfl) rfl ?_
              refine z_iinc C (z := 1) (lw := fun x93 => [(5, .int x93), (4, .int x92), (0, .ref r0), (2, .int x1), (3, .int x38)]) rfl rfl rfl (Nat.le_of_ble_eq_true rfl) rfl ⟨by omega, by omega⟩ (fun _ => rfl) (fun x93 ex93 => ?_)
              show V 194 [(5, .int x93), (4, .int x92), (0, .ref r0), (2, .int x1), (3, .int x38)] _ _ _ _
              refine k_goto C (pc2 := 144) rfl rfl ?_
              refine k_sub S [(0, .ref r0), (2, .int x1), (3, .int x38), (4, .int x92), (5, .int x93)] (List.forall_mem_cons.mpr ⟨List.mem_of_getElem? (i := 2) rfl, List.forall_mem_cons.mpr ⟨List.mem_of_getElem? (i := 3) rfl, List.forall_mem_cons.mpr ⟨List.mem_of_getElem? (i := 4) rfl, List.forall_mem_cons.mpr ⟨List.mem_of_getElem? (i := 1) rfl, List.forall_mem_cons.mpr ⟨List.mem_of_getElem? (i := 0) rfl, fun _ h => nomatch h⟩⟩⟩⟩⟩) ?_
              exact ihJ73 _ (by omega) x92 x93 rfl (by omega) (by omega) (by omega) (by omega) (by exact ILQ.s ff144_0 (by omega) (by omega) ho166 (by rw [hw175, et9]) (by rw [ey9]; exact hm178) (by omega) (by omega) (by omega) (by omega)) (by omega)
          refine k_istore C (lw := [(5, .int x72), (4, .int x71), (3, .int x38), (0, .ref r0), (1, .int n1), (2, .int x1)]) rfl rfl (Nat.le_of_ble_eq_true rfl) rfl ?_
          refine k_sub S [(0, .ref r0), (2, .int x1), (3, .int x38), (4, .int x71), (5, .int x72)] (List.forall_mem_cons.mpr ⟨List.mem_of_getElem? (i := 3) rfl, List.forall_mem_cons.mpr ⟨List.mem_of_getElem? (i := 5) rfl, List.forall_mem_cons.mpr ⟨List.mem_of_getElem? (i := 2) rfl, List.forall_mem_cons.mpr ⟨List.mem_of_getElem? (i := 1) rfl, List.forall_mem_cons.mpr ⟨List.mem_of_getElem? (i := 0) rfl, fun _ h => nomatch h⟩⟩⟩⟩⟩) ?_
          exact J73 _ x71 x72 rfl (by omega) (by omega) (by omega) (by omega) (by exact ILQ.z (by omega) (by omega)) (by omega)
        refine k_aload_n C rfl rfl rfl ?_
        refine z_bipush C (z := 42) rfl rfl rfl (fun x94 ex94 => ?_)
        refine z_iconst C (z := 0) rfl rfl rfl (fun x95 ex95 => ?_)
        have q96 : x94.toNatClampNeg = 42 := nck (by omega)
        have q97 : x95.toNatClampNeg = 0 := nck (by omega)
        refine c_VI C (a_X12_of hI26 H_r0 (by omega) (by omega) (by omega) (by omega)) rfl rfl rfl rfl rfl ⟨_, rfl, rfl, T_r0, Nat.le_of_ble_eq_true rfl⟩ rfl rfl (Nat.le_of_ble_eq_true rfl) (Nat.le_of_ble_eq_true rfl) (Nat.le_of_ble_eq_true rfl) ?_
        rintro x98 _ _ ⟨o0x98, o1x98, p0x98, rfl, rfl⟩
        have p0x98 := p0x98 r0_5 R_r0_5
        have gx98 := rg x98
        try simp only [q96, q97, e28, e29, e30, e31] at p0x98
        try have q0x98 := congrArg Int32.toInt p0x98
        have hy := p0x98
        obtain ⟨m0, em0⟩ : ∃ m : Nat, m = 0 := ⟨_, rfl⟩
        have hy0 : x98.toInt = RI I20 r0_5 42 m0 := (by rw [em0]; exact hy)
        have hm0 : (m0 : Int) ≤ w_r0_4_40.toInt := (by omega)
        have h10 : BNI w_r0_4_40.toInt m0 * PTV w_r0_1_0.toInt t9.toInt (w_r0_4_40.toInt + 1) m0 = 1 := (by rw [em0, PTV.a1 (by omega), Int.mul_one]; rfl)
        refine k_goto C (pc2 := 122) rfl rfl ?_
        refine k_istore_n C (lw := [(3, .int x98), (0, .ref r0), (1, .int n1), (2, .int x1)]) rfl rfl (Nat.le_of_ble_eq_true rfl) rfl ?_
        refine k_aload_n C rfl rfl rfl ?_
        refine g_R C rfl rfl rfl T_r0 rfl R_r0_28 ?_
        refine k_iload_n C rfl rfl rfl ?_
        refine k_iload_n C rfl rfl rfl ?_
        have h28 := (CM.j0 (W := []) (WA := [4, 5]) (CM.cons S9 (CM.mono S25 (by decide) (by decide)) (by decide) (by decide)) R_r0_28 (by decide))
        obtain ⟨y9, ey9⟩ : ∃ y : Int32, y = x98 := ⟨_, rfl⟩
        have ey9i : y9.toInt = x98.toInt := (by rw [ey9])
        obtain ⟨R9, eR9⟩ : ∃ f : Nat → Int, RI I20 r0_5 42 = f := ⟨_, rfl⟩
        have hR : ∀ m : Nat, (m : Int) ≤ w_r0_4_40.toInt → 0 ≤ R9 m ∧ R9 m < w_r0_1_0.toInt ∧ PmE w_r0_1_0.toInt (R9 m) ((RI I r0_5 40) m - BNI w_r0_4_40.toInt m * SPS w_r0_1_0.toInt (w_r0_4_40.toInt + 1) (NF I r0_27) (NF I r0_28) n1.toNatClampNeg m) := fun m hm => by (have h9 := hRL m hm; rw [if_neg (by omega), eR9] at h9; exact h9)
        have hyR : y9.toInt = R9 m0 := (by rw [ey9]; exact hy0.trans (congrFun eR9 m0))
        have hby := hR m0 hm0
        rw [← hyR] at hby
        obtain ⟨T_r0_28, N_r0_28, A_r0_28⟩ := id H_r0_28
        refine z_sI C rfl rfl T_r0_28 N_r0_28 (by omega) (by omega) (fun I99 uI99 => ?_)
        have hI99 : IM R r0 I99 := IM.arr hI26 G_r0 R_r0_28 ⟨(fun h => absurd h (by decide)), (fun h => absurd h (by decide)), (fun _ => ⟨by omega, by omega⟩)⟩ (fun h => absurd h (by decide)) uI99
        have S100 : CM A R r0 [] [28] I20 L21 I99 L21 := CM.a G_r0 R_r0_28 A_r0_28 uI99
        have e101 := u2_n uI99 (mF.nq G_r0 R_r0_4 R_r0_28 (by decide)) e28
        have e102 := u2_n uI99 (mF.nq G_r0 R_r0_1 R_r0_28 (by decide)) e29
        have e103 := u2_n uI99 (mF.nq G_r0 R_r0_27 R_r0_28 (by decide)) e30
        have e104 := u2_n uI99 (mF.nq G_r0 R_r0_4 R_r0_28 (by decide)) e31
        have e105 := u2_e uI99
        have hu129 := uI99
        have h5 := CM.j0 S100 R_r0_5 (by decide)
        have h5R : RI I99 r0_5 42 = R9 := funext fun j => by (show (I99 r0_5 _).toInt = _; rw [h5]; exact congrFun eR9 j)
        refine k_iload_n C rfl rfl rfl ?_
        refine b_if_eq C (t := 138) rfl rfl rfl (fun c106 => ?_) (fun c106 => ?_)
        · skip
          refine z_iconst C (z := 0) rfl rfl rfl (fun x107 ex107 => ?_)
          refine k_istore C (lw := [(4, .int x107), (3, .int x98), (0, .ref r0), (1, .int n1), (2, .int x1)]) rfl rfl (Nat.le_of_ble_eq_true rfl) rfl ?_
          refine z_iconst C (z := 0) rfl rfl rfl (fun x108 ex108 => ?_)
          have J109 : ∀ (nn110 : Nat) (x111 : Int32) (x114 : Int32), ((41 - x114.toInt).toNat = nn110) → (0 ≤ x111.toInt) → (x111.toInt ≤ 1) → (0 ≤ x114.toInt) → (x114.toInt ≤ 41) → (ILQ x111.toInt y9.toInt w_r0_1_0.toInt w_r0_4_40.toInt R9 (fun m => (I r0_26 (9 * t9.toNatClampNeg + m)).toInt) x114.toInt) → (x114.toInt ≤ w_r0_4_40.toInt + 1) → V 144 [(0, .ref r0), (2, .int x1), (3, .int x98), (4, .int x111), (5, .int x114)] [] (T, N, I99, L21, R) 0 0 := by
            intro nn110
            induction nn110 using Nat.strongRecOn with
            | _ nn110 ihJ109 =>
              intro x111 x114 hmnn110 b112 b113 b115 b116 ff144_0 ff144_1
              have gx111 := rg x111
              have gx114 := rg x114
              refine k_iload C rfl rfl rfl ?_
              refine k_aload_n C rfl rfl rfl ?_
              refine g_R C rfl rfl rfl T_r0 rfl R_r0_4 ?_
              refine z_bipush C (z := 42) rfl rfl rfl (fun x117 ex117 => ?_)
              obtain ⟨T_r0_4, N_r0_4, A_r0_4⟩ := id H_r0_4
              refine a_I C rfl rfl T_r0_4 (by rw [N_r0_4]; exact vpi (by omega) (by omega)) ((congrArg (I99 r0_4) (nck (n := 42) (by omega))).trans e104) ?_
              refine b_icmp_gt C (t := 197) rfl rfl rfl (fun c118 => ?_) (fun c118 => ?_)
              · skip
                refine k_iload C rfl rfl rfl ?_
                exact k_iret C rfl (Or.inr ⟨rfl, z01 (by omega) (by omega)⟩) (Nat.le_of_ble_eq_true rfl) (Nat.le_of_ble_eq_true rfl) ⟨_, _, _, rfl, rfl, by omega, by omega, fun a1 a4 a5 a27 a28 h1 h4 h5 h27 h28 => by cases (R_r0_1.symm.trans h1); cases (R_r0_4.symm.trans h4); cases (R_r0_5.symm.trans h5); cases (R_r0_27.symm.trans h27); cases (R_r0_28.symm.trans h28); intro hx; simp only [k0_r0_4_40, k0_r0_1_0]; exact ILQ.y ff144_0 hx (by omega) (fun m hm => (hR m hm).2.2) hgt ht9 (fun i hi => by show (_ : Int32).toInt = (_ : Int32).toInt; rw [hu129, u2_k (by omega), h28]) (by show (_ : Int32).toInt = _; rw [hu129, u2_s, ey9]) ⟨hby.1, hby.2.1⟩, fun a1 a4 a5 a27 a28 h1 h4 h5 h27 h28 => by cases (R_r0_1.symm.trans h1); cases (R_r0_4.symm.trans h4); cases (R_r0_5.symm.trans h5); cases (R_r0_27.symm.trans h27); cases (R_r0_28.symm.trans h28); intro hx; simp only [k0_r0_4_40, k0_r0_1_0]; exact ILQ.n ff144_0 hx hR hgt ht9 hyR hm0 h10 (by omega), fun a28 h28 => by cases (R_r0_28.symm.trans h28); intro r hr; rw [hu129, u2_k (by omega), h28], fun a4 h4 => by cases (R_r0_4.symm.trans h4); exact (fun r z0 => ((congrFun (CM.j0 S100 R_r0_4 (by decide)) r).trans ((congrFun (CM.j0 S25 R_r0_4 (by decide)) r).trans (F10 r z0)))), fun a5 h5 => by cases (R_r0_5.symm.trans h5); exact (fun r z0 => ((congrFun (CM.j0 S100 R_r0_5 (by decide)) r).trans ((F27 r z0).trans (F11 r z0)))), hI99, (CM.cons S9 (CM.cons S25 (CM.mono S100 (by decide) (by decide)) (by decide) (by decide)) (by decide) (by decide))⟩
              refine k_iload C rfl rfl rfl ?_
              refine b_if_eq C (t := 197) rfl rfl rfl (fun c119 => ?_) (fun c119 => ?_)
              · skip
                refine k_iload C rfl rfl rfl ?_
                exact k_iret C rfl (Or.inr ⟨rfl, z01 (by omega) (by omega)⟩) (Nat.le_of_ble_eq_true rfl) (Nat.le_of_ble_eq_true rfl) ⟨_, _, _, rfl, rfl, by omega, by omega, fun a1 a4 a5 a27 a28 h1 h4 h5 h27 h28 => by cases (R_r0_1.symm.trans h1); cases (R_r0_4.symm.trans h4); cases (R_r0_5.symm.trans h5); cases (R_r0_27.symm.trans h27); cases (R_r0_28.symm.trans h28); intro hx; simp only [k0_r0_4_40, k0_r0_1_0]; exact ILQ.y ff144_0 hx (by omega) (fun m hm => (hR m hm).2.2) hgt ht9 (fun i hi => by show (_ : Int32).toInt = (_ : Int32).toInt; rw [hu129, u2_k (by omega), h28]) (by show (_ : Int32).toInt = _; rw [hu129, u2_s, ey9]) ⟨hby.1, hby.2.1⟩, fun a1 a4 a5 a27 a28 h1 h4 h5 h27 h28 => by cases (R_r0_1.symm.trans h1); cases (R_r0_4.symm.trans h4); cases (R_r0_5.symm.trans h5); cases (R_r0_27.symm.trans h27); cases (R_r0_28.symm.trans h28); intro hx; simp only [k0_r0_4_40, k0_r0_1_0]; exact ILQ.n ff144_0 hx hR hgt ht9 hyR hm0 h10 (by omega), fun a28 h28 => by cases (R_r0_28.symm.trans h28); intro r hr; rw [hu129, u2_k (by omega), h28], fun a4 h4 => by cases (R_r0_4.symm.trans h4); exact (fun r z0 => ((congrFun (CM.j0 S100 R_r0_4 (by decide)) r).trans ((congrFun (CM.j0 S25 R_r0_4 (by decide)) r).trans (F10 r z0)))), fun a5 h5 => by cases (R_r0_5.symm.trans h5); exact (fun r z0 => ((congrFun (CM.j0 S100 R_r0_5 (by decide)) r).trans ((F27 r z0).trans (F11 r z0)))), hI99, (CM.cons S9 (CM.cons S25 (CM.mono S100 (by decide) (by decide)) (by decide) (by decide)) (by decide) (by decide))⟩
              refine k_aload_n C rfl rfl rfl ?_
              refine z_bipush C (z := 42) rfl rfl rfl (fun x120 ex120 => ?_)
              refine k_iload C rfl rfl rfl ?_
              have q121 : x120.toNatClampNeg = 42 := nck (by omega)
              refine c_VI C (a_X12_of hI99 H_r0 (by omega) (by omega) (by omega) (by omega)) rfl rfl rfl rfl rfl ⟨_, rfl, rfl, T_r0, Nat.le_of_ble_eq_true rfl⟩ rfl rfl (Nat.le_of_ble_eq_true rfl) (Nat.le_of_ble_eq_true rfl) (Nat.le_of_ble_eq_true rfl) ?_
              rintro x122 _ _ ⟨o0x122, o1x122, p0x122, rfl, rfl⟩
              have p0x122 := p0x122 r0_5 R_r0_5
              have gx122 := rg x122
              try simp only [q121, e101, e102, e103, e104, e105] at p0x122
              try have q0x122 := congrArg Int32.toInt p0x122
              have ho166 := (show x122.toInt = RI I99 r0_5 42 x114.toNatClampNeg from p0x122).trans (congrFun h5R _)
              refine k_aload_n C rfl rfl rfl ?_
              refine k_iload_n C rfl rfl rfl ?_
              refine k_aload_n C rfl rfl rfl ?_
              refine k_iload_n C rfl rfl rfl ?_
              refine k_iload C rfl rfl rfl ?_
              refine c_VI C (a_X12_powerAt_x hI99 H_r0 (by omega) (by omega) (by omega) (by omega)) rfl rfl rfl rfl rfl ⟨_, rfl, rfl, T_r0, Nat.le_of_ble_eq_true rfl⟩ rfl rfl (Nat.le_of_ble_eq_true rfl) (Nat.le_of_ble_eq_true rfl) (Nat.le_of_ble_eq_true rfl) ?_
              rintro x123 _ _ ⟨o0x123, o1x123, p0x123, rfl, rfl⟩
              have p0x123 := p0x123 r0_26 R_r0_26
              have gx123 := rg x123
              try simp only [e101, e102, e103, e104, e105] at p0x123
              try have q0x123 := congrArg Int32.toInt p0x123
              have hw175 := p0x123
              (try rw [(CM.j0 (W := []) (WA := [4, 5, 28]) (CM.cons S9 (CM.cons S25 (CM.mono S100 (by decide) (by decide)) (by decide) (by decide)) (by decide) (by decide)) R_r0_26 (by decide))] at hw175)
              have q124 : x98.toNatClampNeg = 0 := nck (by omega)
              refine c_VI C (a_X12_times hI99 H_r0 (by omega) (by omega) (by omega) (by omega)) rfl rfl rfl rfl rfl ⟨_, rfl, rfl, T_r0, Nat.le_of_ble_eq_true rfl⟩ rfl rfl (Nat.le_of_ble_eq_true rfl) (Nat.le_of_ble_eq_true rfl) (Nat.le_of_ble_eq_true rfl) ?_
              rintro x125 _ _ ⟨o0x125, o1x125, p0x125, p1x125, p2x125, p3x125, rfl, rfl⟩
              have p0x125 := p0x125 r0_1 R_r0_1
              have p2x125 := p2x125 r0_1 R_r0_1
              have p3x125 := p3x125 r0_1 R_r0_1
              have gx125 := rg x125
              try simp only [q124, e101, e102, e103, e104, e105] at p0x125
              try have q0x125 := congrArg Int32.toInt p0x125
              try simp only [q124, e101, e102, e103, e104, e105] at p1x125
              try have q1x125 := congrArg Int32.toInt p1x125
              try simp only [q124, e101, e102, e103, e104, e105] at p2x125
              try have q2x125 := congrArg Int32.toInt p2x125
              try simp only [q124, e101, e102, e103, e104, e105] at p3x125
              try have q3x125 := congrArg Int32.toInt p3x125
              have hm178 := p3x125
              refine b_icmp_ne C (t := 188) rfl rfl rfl (fun c126 => ?_) (fun c126 => ?_)
              · skip
                refine z_iconst C (z := 0) rfl rfl rfl (fun x127 ex127 => ?_)
                refine k_istore C (lw := [(4, .int x127), (0, .ref r0), (2, .int x1), (3, .int x98), (5, .int x114)]) rfl rfl (Nat.le_of_ble_eq_true rfl) rfl ?_
                refine z_iinc C (z := 1) (lw := fun x128 => [(5, .int x128), (4, .int x127), (0, .ref r0), (2, .int x1), (3, .int x98)]) rfl rfl rfl (Nat.le_of_ble_eq_true rfl) rfl ⟨by omega, by omega⟩ (fun _ => rfl) (fun x128 ex128 => ?_)
                show V 194 [(5, .int x128), (4, .int x127), (0, .ref r0), (2, .int x1), (3, .int x98)] _ _ _ _
                refine k_goto C (pc2 := 144) rfl rfl ?_
                refine k_sub S [(0, .ref r0), (2, .int x1), (3, .int x98), (4, .int x127), (5, .int x128)] (List.forall_mem_cons.mpr ⟨List.mem_of_getElem? (i := 2) rfl, List.forall_mem_cons.mpr ⟨List.mem_of_getElem? (i := 3) rfl, List.forall_mem_cons.mpr ⟨List.mem_of_getElem? (i := 4) rfl, List.forall_mem_cons.mpr ⟨List.mem_of_getElem? (i := 1) rfl, List.forall_mem_cons.mpr ⟨List.mem_of_getElem? (i := 0) rfl, fun _ h => nomatch h⟩⟩⟩⟩⟩) ?_
                exact ihJ109 _ (by omega) x127 x128 rfl (by omega) (by omega) (by omega) (by omega) (by exact ILQ.s ff144_0 (by omega) (by omega) ho166 (by rw [hw175, et9]) (by rw [ey9]; exact hm178) (by omega) (by omega) (by omega) (by omega)) (by omega)
              refine z_iconst C (z := 1) rfl rfl rfl (fun x129 ex129 => ?_)
              refine k_goto C (pc2 := 189) rfl rfl ?_
              refine k_istore C (lw := [(4, .int x129), (0, .ref r0), (2, .int x1), (3, .int x98), (5, .int x114)]) rfl rfl (Nat.le_of_ble_eq_true rfl) rfl ?_
              refine z_iinc C (z := 1) (lw := fun x130 => [(5, .int x130), (4, .int x129), (0, .ref r0), (2, .int x1), (3, .int x98)]) rfl rfl rfl (Nat.le_of_ble_eq_true rfl) rfl ⟨by omega, by omega⟩ (fun _ => rfl) (fun x130 ex130 => ?_)
              show V 194 [(5, .int x130), (4, .int x129), (0, .ref r0), (2, .int x1), (3, .int x98)] _ _ _ _
              refine k_goto C (pc2 := 144) rfl rfl ?_
              refine k_sub S [(0, .ref r0), (2, .int x1), (3, .int x98), (4, .int x129), (5, .int x130)] (List.forall_mem_cons.mpr ⟨List.mem_of_getElem? (i := 2) rfl, List.forall_mem_cons.mpr ⟨List.mem_of_getElem? (i := 3) rfl, List.forall_mem_cons.mpr ⟨List.mem_of_getElem? (i := 4) rfl, List.forall_mem_cons.mpr ⟨List.mem_of_getElem? (i := 1) rfl, List.forall_mem_cons.mpr ⟨List.mem_of_getElem? (i := 0) rfl, fun _ h => nomatch h⟩⟩⟩⟩⟩) ?_
              exact ihJ109 _ (by omega) x129 x130 rfl (by omega) (by omega) (by omega) (by omega) (by exact ILQ.s ff144_0 (by omega) (by omega) ho166 (by rw [hw175, et9]) (by rw [ey9]; exact hm178) (by omega) (by omega) (by omega) (by omega)) (by omega)
          refine k_istore C (lw := [(5, .int x108), (4, .int x107), (3, .int x98), (0, .ref r0), (1, .int n1), (2, .int x1)]) rfl rfl (Nat.le_of_ble_eq_true rfl) rfl ?_
          refine k_sub S [(0, .ref r0), (2, .int x1), (3, .int x98), (4, .int x107), (5, .int x108)] (List.forall_mem_cons.mpr ⟨List.mem_of_getElem? (i := 3) rfl, List.forall_mem_cons.mpr ⟨List.mem_of_getElem? (i := 5) rfl, List.forall_mem_cons.mpr ⟨List.mem_of_getElem? (i := 2) rfl, List.forall_mem_cons.mpr ⟨List.mem_of_getElem? (i := 1) rfl, List.forall_mem_cons.mpr ⟨List.mem_of_getElem? (i := 0) rfl, fun _ h => nomatch h⟩⟩⟩⟩⟩) ?_
          exact J109 _ x107 x108 rfl (by omega) (by omega) (by omega) (by omega) (by exact ILQ.z (by omega) (by omega)) (by omega)
        refine z_iconst C (z := 1) rfl rfl rfl (fun x131 ex131 => ?_)
        refine k_goto C (pc2 := 139) rfl rfl ?_
        refine k_istore C (lw := [(4, .int x131), (3, .int x98), (0, .ref r0), (1, .int n1), (2, .int x1)]) rfl rfl (Nat.le_of_ble_eq_true rfl) rfl ?_
        refine z_iconst C (z := 0) rfl rfl rfl (fun x132 ex132 => ?_)
        have J133 : ∀ (nn134 : Nat) (x135 : Int32) (x138 : Int32), ((41 - x138.toInt).toNat = nn134) → (0 ≤ x135.toInt) → (x135.toInt ≤ 1) → (0 ≤ x138.toInt) → (x138.toInt ≤ 41) → (ILQ x135.toInt y9.toInt w_r0_1_0.toInt w_r0_4_40.toInt R9 (fun m => (I r0_26 (9 * t9.toNatClampNeg + m)).toInt) x138.toInt) → (x138.toInt ≤ w_r0_4_40.toInt + 1) → V 144 [(0, .ref r0), (2, .int x1), (3, .int x98), (4, .int x135), (5, .int x138)] [] (T, N, I99, L21, R) 0 0 := by
          intro nn134
          induction nn134 using Nat.strongRecOn with
          | _ nn134 ihJ133 =>
            intro x135 x138 hmnn134 b136 b137 b139 b140 ff144_0 ff144_1
            have gx135 := rg x135
            have gx138 := rg x138
            refine k_iload C rfl rfl rfl ?_
            refine k_aload_n C rfl rfl rfl ?_
            refine g_R C rfl rfl rfl T_r0 rfl R_r0_4 ?_
            refine z_bipush C (z := 42) rfl rfl rfl (fun x141 ex141 => ?_)
            obtain ⟨T_r0_4, N_r0_4, A_r0_4⟩ := id H_r0_4
            refine a_I C rfl rfl T_r0_4 (by rw [N_r0_4]; exact vpi (by omega) (by omega)) ((congrArg (I99 r0_4) (nck (n := 42) (by omega))).trans e104) ?_
            refine b_icmp_gt C (t := 197) rfl rfl rfl (fun c142 => ?_) (fun c142 => ?_)
            · skip
              refine k_iload C rfl rfl rfl ?_
              exact k_iret C rfl (Or.inr ⟨rfl, z01 (by omega) (by omega)⟩) (Nat.le_of_ble_eq_true rfl) (Nat.le_of_ble_eq_true rfl) ⟨_, _, _, rfl, rfl, by omega, by omega, fun a1 a4 a5 a27 a28 h1 h4 h5 h27 h28 => by cases (R_r0_1.symm.trans h1); cases (R_r0_4.symm.trans h4); cases (R_r0_5.symm.trans h5); cases (R_r0_27.symm.trans h27); cases (R_r0_28.symm.trans h28); intro hx; simp only [k0_r0_4_40, k0_r0_1_0]; exact ILQ.y ff144_0 hx (by omega) (fun m hm => (hR m hm).2.2) hgt ht9 (fun i hi => by show (_ : Int32).toInt = (_ : Int32).toInt; rw [hu129, u2_k (by omega), h28]) (by show (_ : Int32).toInt = _; rw [hu129, u2_s, ey9]) ⟨hby.1, hby.2.1⟩, fun a1 a4 a5 a27 a28 h1 h4 h5 h27 h28 => by cases (R_r0_1.symm.trans h1); cases (R_r0_4.symm.trans h4); cases (R_r0_5.symm.trans h5); cases (R_r0_27.symm.trans h27); cases (R_r0_28.symm.trans h28); intro hx; simp only [k0_r0_4_40, k0_r0_1_0]; exact ILQ.n ff144_0 hx hR hgt ht9 hyR hm0 h10 (by omega), fun a28 h28 => by cases (R_r0_28.symm.trans h28); intro r hr; rw [hu129, u2_k (by omega), h28], fun a4 h4 => by cases (R_r0_4.symm.trans h4); exact (fun r z0 => ((congrFun (CM.j0 S100 R_r0_4 (by decide)) r).trans ((congrFun (CM.j0 S25 R_r0_4 (by decide)) r).trans (F10 r z0)))), fun a5 h5 => by cases (R_r0_5.symm.trans h5); exact (fun r z0 => ((congrFun (CM.j0 S100 R_r0_5 (by decide)) r).trans ((F27 r z0).trans (F11 r z0)))), hI99, (CM.cons S9 (CM.cons S25 (CM.mono S100 (by decide) (by decide)) (by decide) (by decide)) (by decide) (by decide))⟩
            refine k_iload C rfl rfl rfl ?_
            refine b_if_eq C (t := 197) rfl rfl rfl (fun c143 => ?_) (fun c143 => ?_)
            · skip
              refine k_iload C rfl rfl rfl ?_
              exact k_iret C rfl (Or.inr ⟨rfl, z01 (by omega) (by omega)⟩) (Nat.le_of_ble_eq_true rfl) (Nat.le_of_ble_eq_true rfl) ⟨_, _, _, rfl, rfl, by omega, by omega, fun a1 a4 a5 a27 a28 h1 h4 h5 h27 h28 => by cases (R_r0_1.symm.trans h1); cases (R_r0_4.symm.trans h4); cases (R_r0_5.symm.trans h5); cases (R_r0_27.symm.trans h27); cases (R_r0_28.symm.trans h28); intro hx; simp only [k0_r0_4_40, k0_r0_1_0]; exact ILQ.y ff144_0 hx (by omega) (fun m hm => (hR m hm).2.2) hgt ht9 (fun i hi => by show (_ : Int32).toInt = (_ : Int32).toInt; rw [hu129, u2_k (by omega), h28]) (by show (_ : Int32).toInt = _; rw [hu129, u2_s, ey9]) ⟨hby.1, hby.2.1⟩, fun a1 a4 a5 a27 a28 h1 h4 h5 h27 h28 => by cases (R_r0_1.symm.trans h1); cases (R_r0_4.symm.trans h4); cases (R_r0_5.symm.trans h5); cases (R_r0_27.symm.trans h27); cases (R_r0_28.symm.trans h28); intro hx; simp only [k0_r0_4_40, k0_r0_1_0]; exact ILQ.n ff144_0 hx hR hgt ht9 hyR hm0 h10 (by omega), fun a28 h28 => by cases (R_r0_28.symm.trans h28); intro r hr; rw [hu129, u2_k (by omega), h28], fun a4 h4 => by cases (R_r0_4.symm.trans h4); exact (fun r z0 => ((congrFun (CM.j0 S100 R_r0_4 (by decide)) r).trans ((congrFun (CM.j0 S25 R_r0_4 (by decide)) r).trans (F10 r z0)))), fun a5 h5 => by cases (R_r0_5.symm.trans h5); exact (fun r z0 => ((congrFun (CM.j0 S100 R_r0_5 (by decide)) r).trans ((F27 r z0).trans (F11 r z0)))), hI99, (CM.cons S9 (CM.cons S25 (CM.mono S100 (by decide) (by decide)) (by decide) (by decide)) (by decide) (by decide))⟩
            refine k_aload_n C rfl rfl rfl ?_
            refine z_bipush C (z := 42) rfl rfl rfl (fun x144 ex144 => ?_)
            refine k_iload C rfl rfl rfl ?_
            have q145 : x144.toNatClampNeg = 42 := nck (by omega)
            refine c_VI C (a_X12_of hI99 H_r0 (by omega) (by omega) (by omega) (by omega)) rfl rfl rfl rfl rfl ⟨_, rfl, rfl, T_r0, Nat.le_of_ble_eq_true rfl⟩ rfl rfl (Nat.le_of_ble_eq_true rfl) (Nat.le_of_ble_eq_true rfl) (Nat.le_of_ble_eq_true rfl) ?_
            rintro x146 _ _ ⟨o0x146, o1x146, p0x146, rfl, rfl⟩
            have p0x146 := p0x146 r0_5 R_r0_5
            have gx146 := rg x146
            try simp only [q145, e101, e102, e103, e104, e105] at p0x146
            try have q0x146 := congrArg Int32.toInt p0x146
            have ho166 := (show x146.toInt = RI I99 r0_5 42 x138.toNatClampNeg from p0x146).trans (congrFun h5R _)
            refine k_aload_n C rfl rfl rfl ?_
            refine k_iload_n C rfl rfl rfl ?_
            refine k_aload_n C rfl rfl rfl ?_
            refine k_iload_n C rfl rfl rfl ?_
            refine k_iload C rfl rfl rfl ?_
            refine c_VI C (a_X12_powerAt_x hI99 H_r0 (by omega) (by omega) (by omega) (by omega)) rfl rfl rfl rfl rfl ⟨_, rfl, rfl, T_r0, Nat.le_of_ble_eq_true rfl⟩ rfl rfl (Nat.le_of_ble_eq_true rfl) (Nat.le_of_ble_eq_true rfl) (Nat.le_of_ble_eq_true rfl) ?_
            rintro x147 _ _ ⟨o0x147, o1x147, p0x147, rfl, rfl⟩
            have p0x147 := p0x147 r0_26 R_r0_26
            have gx147 := rg x147
            try simp only [e101, e102, e103, e104, e105] at p0x147
            try have q0x147 := congrArg Int32.toInt p0x147
            have hw175 := p0x147
            (try rw [(CM.j0 (W := []) (WA := [4, 5, 28]) (CM.cons S9 (CM.cons S25 (CM.mono S100 (by decide) (by decide)) (by decide) (by decide)) (by decide) (by decide)) R_r0_26 (by decide))] at hw175)
            refine c_VI C (a_X12_times hI99 H_r0 (by omega) (by omega) (by omega) (by omega)) rfl rfl rfl rfl rfl ⟨_, rfl, rfl, T_r0, Nat.le_of_ble_eq_true rfl⟩ rfl rfl (Nat.le_of_ble_eq_true rfl) (Nat.le_of_ble_eq_true rfl) (Nat.le_of_ble_eq_true rfl) ?_
            rintro x148 _ _ ⟨o0x148, o1x148, p0x148, p1x148, p2x148, p3x148, rfl, rfl⟩
            have p0x148 := p0x148 r0_1 R_r0_1
            have p2x148 := p2x148 r0_1 R_r0_1
            have p3x148 := p3x148 r0_1 R_r0_1
            have gx148 := rg x148
            try simp only [e101, e102, e103, e104, e105] at p0x148
            try have q0x148 := congrArg Int32.toInt p0x148
            try simp only [e101, e102, e103, e104, e105] at p1x148
            try have q1x148 := congrArg Int32.toInt p1x148
            try simp only [e101, e102, e103, e104, e105] at p2x148
            try have q2x148 := congrArg Int32.toInt p2x148
            try simp only [e101, e102, e103, e104, e105] at p3x148
            try have q3x148 := congrArg Int32.toInt p3x148
            have hm178 := p3x148
            refine b_icmp_ne C (t := 188) rfl rfl rfl (fun c149 => ?_) (fun c149 => ?_)
            · skip
              refine z_iconst C (z := 0) rfl rfl rfl (fun x150 ex150 => ?_)
              refine k_istore C (lw := [(4, .int x150), (0, .ref r0), (2, .int x1), (3, .int x98), (5, .int x138)]) rfl rfl (Nat.le_of_ble_eq_true rfl) rfl ?_
              refine z_iinc C (z := 1) (lw := fun x151 => [(5, .int x151), (4, .int x150), (0, .ref r0), (2, .int x1), (3, .int x98)]) rfl rfl rfl (Nat.le_of_ble_eq_true rfl) rfl ⟨by omega, by omega⟩ (fun _ => rfl) (fun x151 ex151 => ?_)
              show V 194 [(5, .int x151), (4, .int x150), (0, .ref r0), (2, .int x1), (3, .int x98)] _ _ _ _
              refine k_goto C (pc2 := 144) rfl rfl ?_
              refine k_sub S [(0, .ref r0), (2, .int x1), (3, .int x98), (4, .int x150), (5, .int x151)] (List.forall_mem_cons.mpr ⟨List.mem_of_getElem? (i := 2) rfl, List.forall_mem_cons.mpr ⟨List.mem_of_getElem? (i := 3) rfl, List.forall_mem_cons.mpr ⟨List.mem_of_getElem? (i := 4) rfl, List.forall_mem_cons.mpr ⟨List.mem_of_getElem? (i := 1) rfl, List.forall_mem_cons.mpr ⟨List.mem_of_getElem? (i := 0) rfl, fun _ h => nomatch h⟩⟩⟩⟩⟩) ?_
              exact ihJ133 _ (by omega) x150 x151 rfl (by omega) (by omega) (by omega) (by omega) (by exact ILQ.s ff144_0 (by omega) (by omega) ho166 (by rw [hw175, et9]) (by rw [ey9]; exact hm178) (by omega) (by omega) (by omega) (by omega)) (by omega)
            refine z_iconst C (z := 1) rfl rfl rfl (fun x152 ex152 => ?_)
            refine k_goto C (pc2 := 189) rfl rfl ?_
            refine k_istore C (lw := [(4, .int x152), (0, .ref r0), (2, .int x1), (3, .int x98), (5, .int x138)]) rfl rfl (Nat.le_of_ble_eq_true rfl) rfl ?_
            refine z_iinc C (z := 1) (lw := fun x153 => [(5, .int x153), (4, .int x152), (0, .ref r0), (2, .int x1), (3, .int x98)]) rfl rfl rfl (Nat.le_of_ble_eq_true rfl) rfl ⟨by omega, by omega⟩ (fun _ => rfl) (fun x153 ex153 => ?_)
            show V 194 [(5, .int x153), (4, .int x152), (0, .ref r0), (2, .int x1), (3, .int x98)] _ _ _ _
            refine k_goto C (pc2 := 144) rfl rfl ?_
            refine k_sub S [(0, .ref r0), (2, .int x1), (3, .int x98), (4, .int x152), (5, .int x153)] (List.forall_mem_cons.mpr ⟨List.mem_of_getElem? (i := 2) rfl, List.forall_mem_cons.mpr ⟨List.mem_of_getElem? (i := 3) rfl, List.forall_mem_cons.mpr ⟨List.mem_of_getElem? (i := 4) rfl, List.forall_mem_cons.mpr ⟨List.mem_of_getElem? (i := 1) rfl, List.forall_mem_cons.mpr ⟨List.mem_of_getElem? (i := 0) rfl, fun _ h => nomatch h⟩⟩⟩⟩⟩) ?_
            exact ihJ133 _ (by omega) x152 x153 rfl (by omega) (by omega) (by omega) (by omega) (by exact ILQ.s ff144_0 (by omega) (by omega) ho166 (by rw [hw175, et9]) (by rw [ey9]; exact hm178) (by omega) (by omega) (by omega) (by omega)) (by omega)
        refine k_istore C (lw := [(5, .int x132), (4, .int x131), (3, .int x98), (0, .ref r0), (1, .int n1), (2, .int x1)]) rfl rfl (Nat.le_of_ble_eq_true rfl) rfl ?_
        refine k_sub S [(0, .ref r0), (2, .int x1), (3, .int x98), (4, .int x131), (5, .int x132)] (List.forall_mem_cons.mpr ⟨List.mem_of_getElem? (i := 3) rfl, List.forall_mem_cons.mpr ⟨List.mem_of_getElem? (i := 5) rfl, List.forall_mem_cons.mpr ⟨List.mem_of_getElem? (i := 2) rfl, List.forall_mem_cons.mpr ⟨List.mem_of_getElem? (i := 1) rfl, List.forall_mem_cons.mpr ⟨List.mem_of_getElem? (i := 0) rfl, fun _ h => nomatch h⟩⟩⟩⟩⟩) ?_
        exact J133 _ x131 x132 rfl (by omega) (by omega) (by omega) (by omega) (by exact ILQ.z (by omega) (by omega)) (by omega)
      refine z_iconst C (z := 0) rfl rfl rfl (fun x154 ex154 => ?_)
      have J155 : ∀ (nn156 : Nat) (I157 : IT) (L158 : LT) (x159 : Int32), ((41 - x159.toInt).toNat = nn156) → (IM R r0 I157) → (CM A R r0 [] [5] I20 L21 I157 L158) → (∀ r : Nat, (r < 41 * 42 ∨ 41 * 42 + 41 ≤ r) → I157 r0_5 r = I20 r0_5 r) → (0 ≤ x159.toInt) → (x159.toInt ≤ 41) → (RLS I157 r0_5 w_r0_1_0.toInt w_r0_4_40.toInt (RI I r0_5 40) (NF I r0_27) (NF I r0_28) x22.toNatClampNeg (x22.toNatClampNeg + 1) x159.toInt) → (x159.toInt ≤ w_r0_4_40.toInt + 1) → V 25 [(0, .ref r0), (1, .int n1), (2, .int x1), (3, .int x22), (4, .int x159)] [] (T, N, I157, L158, R) 0 0 := by
        intro nn156
        induction nn156 using Nat.strongRecOn with
        | _ nn156 ihJ155 =>
          intro I157 L158 x159 hmnn156 hI163 S162 F164 b160 b161 ff25_0 ff25_1
          have gx159 := rg x159
          have e165 := CM.j S162 R_r0_4 (by decide) e28
          have e166 := CM.j S162 R_r0_1 (by decide) e29
          have e167 := CM.j S162 R_r0_27 (by decide) e30
          have e168 := CM.j S162 R_r0_4 (by decide) e31
          refine k_iload C rfl rfl rfl ?_
          refine k_aload_n C rfl rfl rfl ?_
          refine g_R C rfl rfl rfl T_r0 rfl R_r0_4 ?_
          refine z_bipush C (z := 42) rfl rfl rfl (fun x169 ex169 => ?_)
          obtain ⟨T_r0_4, N_r0_4, A_r0_4⟩ := id H_r0_4
          refine a_I C rfl rfl T_r0_4 (by rw [N_r0_4]; exact vpi (by omega) (by omega)) ((congrArg (I157 r0_4) (nck (n := 42) (by omega))).trans e168) ?_
          refine b_icmp_gt C (t := 85) rfl rfl rfl (fun c170 => ?_) (fun c170 => ?_)
          · skip
            refine z_iinc C (z := 1) (lw := fun x171 => [(3, .int x171), (0, .ref r0), (1, .int n1), (2, .int x1), (4, .int x159)]) rfl rfl rfl (Nat.le_of_ble_eq_true rfl) rfl ⟨by omega, by omega⟩ (fun _ => rfl) (fun x171 ex171 => ?_)
            show V 88 [(3, .int x171), (0, .ref r0), (1, .int n1), (2, .int x1), (4, .int x159)] _ _ _ _
            refine k_goto C (pc2 := 17) rfl rfl ?_
            refine k_sub S [(0, .ref r0), (1, .int n1), (2, .int x1), (3, .int x171)] (List.forall_mem_cons.mpr ⟨List.mem_of_getElem? (i := 1) rfl, List.forall_mem_cons.mpr ⟨List.mem_of_getElem? (i := 2) rfl, List.forall_mem_cons.mpr ⟨List.mem_of_getElem? (i := 3) rfl, List.forall_mem_cons.mpr ⟨List.mem_of_getElem? (i := 0) rfl, fun _ h => nomatch h⟩⟩⟩⟩) ?_
            exact ihJ18 _ (by omega) I157 L158 x171 rfl hI163 (CM.cons S25 (CM.mono S162 (by decide) (by decide)) (by decide) (by decide)) (fun r z0 => ((F164 r z0).trans (F27 r z0))) (by omega) (by omega) (by exact RLS.o ff25_0 (by omega) (ncs (by omega) (by omega))) (by omega)
          refine k_aload_n C rfl rfl rfl ?_
          refine z_bipush C (z := 42) rfl rfl rfl (fun x172 ex172 => ?_)
          refine k_iload C rfl rfl rfl ?_
          refine k_aload_n C rfl rfl rfl ?_
          refine k_aload_n C rfl rfl rfl ?_
          refine z_bipush C (z := 42) rfl rfl rfl (fun x173 ex173 => ?_)
          refine k_iload C rfl rfl rfl ?_
          have q174 : x173.toNatClampNeg = 42 := nck (by omega)
          refine c_VI C (a_X12_of hI163 H_r0 (by omega) (by omega) (by omega) (by omega)) rfl rfl rfl rfl rfl ⟨_, rfl, rfl, T_r0, Nat.le_of_ble_eq_true rfl⟩ rfl rfl (Nat.le_of_ble_eq_true rfl) (Nat.le_of_ble_eq_true rfl) (Nat.le_of_ble_eq_true rfl) ?_
          rintro x175 _ _ ⟨o0x175, o1x175, p0x175, rfl, rfl⟩
          have p0x175 := p0x175 r0_5 R_r0_5
          have gx175 := rg x175
          try simp only [q174, e165, e166, e167, e168] at p0x175
          try have q0x175 := congrArg Int32.toInt p0x175
          have ho48 := p0x175
          refine k_aload_n C rfl rfl rfl ?_
          refine k_aload_n C rfl rfl rfl ?_
          refine g_R C rfl rfl rfl T_r0 rfl R_r0_28 ?_
          refine k_iload_n C rfl rfl rfl ?_
          obtain ⟨T_r0_28, N_r0_28, A_r0_28⟩ := id H_r0_28
          refine z_aI C rfl rfl T_r0_28 N_r0_28 (by omega) (by omega) (fun x176 ex176 => ?_)
          have gx176 := rg x176
          have ox176 := IM.faR hI163 R_r0_28 ex176
          have hr57 := ex176
          have hq57 := (CM.j0 (W := []) (WA := [4, 5]) (CM.cons S9 (CM.cons S25 (CM.mono S162 (by decide) (by decide)) (by decide) (by decide)) (by decide) (by decide)) R_r0_28 (by decide))
          have hc57 : x176.toInt = NF I r0_28 x22.toNatClampNeg := (by rw [← hr57, hq57]; rfl)
          have hb57 : 0 ≤ x176.toInt := (by rw [hc57]; exact hp5 _ (by have h9 := ncz (x := x22) (by omega); omega))
          refine k_aload_n C rfl rfl rfl ?_
          refine k_aload_n C rfl rfl rfl ?_
          refine g_R C rfl rfl rfl T_r0 rfl R_r0_27 ?_
          refine k_iload_n C rfl rfl rfl ?_
          refine z_aI C rfl rfl T_r0_27 N_r0_27 (by omega) (by omega) (fun x177 ex177 => ?_)
          have gx177 := rg x177
          have ox177 := IM.spR hI163 R_r0_27 ex177
          have hr64 := ex177
          have hq64 := (CM.j0 (W := []) (WA := [4, 5]) (CM.cons S9 (CM.cons S25 (CM.mono S162 (by decide) (by decide)) (by decide) (by decide)) (by decide) (by decide)) R_r0_27 (by decide))
          have hc64 : x177.toInt = NF I r0_27 x22.toNatClampNeg := (by rw [← hr64, hq64]; rfl)
          have hb64 := hp4 x22.toNatClampNeg (by have h9 := ncz (x := x22) (by omega); omega)
          have hg64 := PWT.g hp3 (s := x177) (by rw [hc64]; exact hb64.1) (by rw [hc64]; exact Int.lt_add_one_of_le hb64.2)
          refine k_iload C rfl rfl rfl ?_
          refine c_VI C (a_X12_powerAt_x hI163 H_r0 (by omega) (by omega) (by omega) (by omega)) rfl rfl rfl rfl rfl ⟨_, rfl, rfl, T_r0, Nat.le_of_ble_eq_true rfl⟩ rfl rfl (Nat.le_of_ble_eq_true rfl) (Nat.le_of_ble_eq_true rfl) (Nat.le_of_ble_eq_true rfl) ?_
          rintro x178 _ _ ⟨o0x178, o1x178, p0x178, rfl, rfl⟩
          have p0x178 := p0x178 r0_26 R_r0_26
          have gx178 := rg x178
          try simp only [e165, e166, e167, e168, ex176, ex177] at p0x178
          try have q0x178 := congrArg Int32.toInt p0x178
          have hw67 := p0x178
          (try rw [(CM.j0 (W := []) (WA := [4, 5]) (CM.cons S9 (CM.cons S25 (CM.mono S162 (by decide) (by decide)) (by decide) (by decide)) (by decide) (by decide)) R_r0_26 (by decide))] at hw67)
          refine c_VI C (a_X12_times hI163 H_r0 (by omega) (by omega) (by omega) (by omega)) rfl rfl rfl rfl rfl ⟨_, rfl, rfl, T_r0, Nat.le_of_ble_eq_true rfl⟩ rfl rfl (Nat.le_of_ble_eq_true rfl) (Nat.le_of_ble_eq_true rfl) (Nat.le_of_ble_eq_true rfl) ?_
          rintro x179 _ _ ⟨o0x179, o1x179, p0x179, p1x179, p2x179, p3x179, rfl, rfl⟩
          have p0x179 := p0x179 r0_1 R_r0_1
          have p2x179 := p2x179 r0_1 R_r0_1
          have p3x179 := p3x179 r0_1 R_r0_1
          have gx179 := rg x179
          try simp only [e165, e166, e167, e168, ex176, ex177] at p0x179
          try have q0x179 := congrArg Int32.toInt p0x179
          try simp only [e165, e166, e167, e168, ex176, ex177] at p1x179
          try have q1x179 := congrArg Int32.toInt p1x179
          try simp only [e165, e166, e167, e168, ex176, ex177] at p2x179
          try have q2x179 := congrArg Int32.toInt p2x179
          try simp only [e165, e166, e167, e168, ex176, ex177] at p3x179
          try have q3x179 := congrArg Int32.toInt p3x179
          have hm70 := p3x179
          refine c_VI C (a_X12_less hI163 H_r0 (by omega) (by omega) (by omega) (by omega)) rfl rfl rfl rfl rfl ⟨_, rfl, rfl, T_r0, Nat.le_of_ble_eq_true rfl⟩ rfl rfl (Nat.le_of_ble_eq_true rfl) (Nat.le_of_ble_eq_true rfl) (Nat.le_of_ble_eq_true rfl) ?_
          rintro x180 _ _ ⟨o0x180, o1x180, p0x180, p1x180, p2x180, p3x180, rfl, rfl⟩
          have p0x180 := p0x180 r0_1 R_r0_1
          have p2x180 := p2x180 r0_1 R_r0_1
          have p3x180 := p3x180 r0_1 R_r0_1
          have gx180 := rg x180
          try simp only [e165, e166, e167, e168, ex176, ex177] at p0x180
          try have q0x180 := congrArg Int32.toInt p0x180
          try simp only [e165, e166, e167, e168, ex176, ex177] at p1x180
          try have q1x180 := congrArg Int32.toInt p1x180
          try simp only [e165, e166, e167, e168, ex176, ex177] at p2x180
          try have q2x180 := congrArg Int32.toInt p2x180
          try simp only [e165, e166, e167, e168, ex176, ex177] at p3x180
          try have q3x180 := congrArg Int32.toInt p3x180
          have hl73 := p3x180
          have q181 : x172.toNatClampNeg = 42 := nck (by omega)
          refine c_VV C (a_X12_put hI163 H_r0 (by omega) (by omega) (by omega) (by omega) (by omega) (by omega)) rfl rfl rfl rfl rfl ⟨_, rfl, rfl, T_r0, Nat.le_of_ble_eq_true rfl⟩ rfl rfl (Nat.le_of_ble_eq_true rfl) (Nat.le_of_ble_eq_true rfl) (Nat.le_of_ble_eq_true rfl) ?_
          rintro I183 L184 ⟨p0v182, p1v182, hI183, S185⟩
          have p0v182 := p0v182 r0_5 R_r0_5
          have p1v182 := p1v182 r0_5 R_r0_5
          try simp only [q181] at p1v182
          have F186 : ∀ r : Nat, (r < 41 * 42 ∨ 41 * 42 + 41 ≤ r) → I183 r0_5 r = I157 r0_5 r := fun r z0 => p1v182 r (by first | exact z0)
          have e187 := CM.j S185 R_r0_4 (by decide) e165
          have e188 := CM.j S185 R_r0_1 (by decide) e166
          have e189 := CM.j S185 R_r0_27 (by decide) e167
          have e190 := CM.j S185 R_r0_4 (by decide) e168
          have e191 := CM.j S185 R_r0_28 (by decide) ex176
          have e192 := CM.j S185 R_r0_27 (by decide) ex177
          try simp only [q181, e165, e166, e167, e168, ex176, ex177] at p0v182
          try have q0v182 := congrArg Int32.toInt p0v182
          have hP76 := p0v182
          refine z_iinc C (z := 1) (lw := fun x193 => [(4, .int x193), (0, .ref r0), (1, .int n1), (2, .int x1), (3, .int x22)]) rfl rfl rfl (Nat.le_of_ble_eq_true rfl) rfl ⟨by omega, by omega⟩ (fun _ => rfl) (fun x193 ex193 => ?_)
          show V 82 [(4, .int x193), (0, .ref r0), (1, .int n1), (2, .int x1), (3, .int x22)] _ _ _ _
          refine k_goto C (pc2 := 25) rfl rfl ?_
          refine k_sub S [(0, .ref r0), (1, .int n1), (2, .int x1), (3, .int x22), (4, .int x193)] (List.forall_mem_cons.mpr ⟨List.mem_of_getElem? (i := 1) rfl, List.forall_mem_cons.mpr ⟨List.mem_of_getElem? (i := 2) rfl, List.forall_mem_cons.mpr ⟨List.mem_of_getElem? (i := 3) rfl, List.forall_mem_cons.mpr ⟨List.mem_of_getElem? (i := 4) rfl, List.forall_mem_cons.mpr ⟨List.mem_of_getElem? (i := 0) rfl, fun _ h => nomatch h⟩⟩⟩⟩⟩) ?_
          exact ihJ155 _ (by omega) I183 L184 x193 rfl hI183 (CM.cons S162 (CM.mono S185 (by decide) (by decide)) (by decide) (by decide)) (fun r z0 => ((F186 r z0).trans (F164 r z0))) (by omega) (by omega) (by exact RLS.s ff25_0 rfl ho48 hc57 hb57 (by rw [hw67, ← hc64]; exact hg64 _ (by have h9 := ncz (x := x159) (by omega); omega)) hm70 hl73 hP76 (by omega) (by omega) (by omega) (by omega)) (by omega)
      refine k_istore C (lw := [(4, .int x154), (0, .ref r0), (1, .int n1), (2, .int x1), (3, .int x22)]) rfl rfl (Nat.le_of_ble_eq_true rfl) rfl ?_
      refine k_sub S [(0, .ref r0), (1, .int n1), (2, .int x1), (3, .int x22), (4, .int x154)] (List.forall_mem_cons.mpr ⟨List.mem_of_getElem? (i := 1) rfl, List.forall_mem_cons.mpr ⟨List.mem_of_getElem? (i := 2) rfl, List.forall_mem_cons.mpr ⟨List.mem_of_getElem? (i := 3) rfl, List.forall_mem_cons.mpr ⟨List.mem_of_getElem? (i := 4) rfl, List.forall_mem_cons.mpr ⟨List.mem_of_getElem? (i := 0) rfl, fun _ h => nomatch h⟩⟩⟩⟩⟩) ?_
      exact J155 _ I20 L21 x154 rfl hI26 CM.rf (fun r z0 => rfl) (by omega) (by omega) (by exact RLS.i ff17_0 (by omega)) (by omega)
  refine k_istore_n C (lw := [(3, .int x17), (2, .int x1), (0, .ref r0), (1, .int n1)]) rfl rfl (Nat.le_of_ble_eq_true rfl) rfl ?_
  refine k_sub S [(0, .ref r0), (1, .int n1), (2, .int x1), (3, .int x17)] (List.forall_mem_cons.mpr ⟨List.mem_of_getElem? (i := 2) rfl, List.forall_mem_cons.mpr ⟨List.mem_of_getElem? (i := 3) rfl, List.forall_mem_cons.mpr ⟨List.mem_of_getElem? (i := 1) rfl, List.forall_mem_cons.mpr ⟨List.mem_of_getElem? (i := 0) rfl, fun _ h => nomatch h⟩⟩⟩⟩) ?_
  exact J18 _ I7 L8 x17 rfl hI7 CM.rf (fun r z0 => rfl) (by omega) (by omega) (by exact RLS.z hcp (by omega) hp2 (ncz0 (by omega))) (by omega)

set_option maxHeartbeats 4000000 in
theorem a_X12_isPair_x {d : Nat} {T N : Nat → Nat} {I : IT} {L : LT} {R : RT} {A : Nat → Prop} {r0 : Nat} {n1 : Int32} (hI : IM R r0 I) (H_r0 : (h_MD T N R A) r0) (b0_n1 : 1 ≤ n1.toInt) (b1_n1 : n1.toInt ≤ 2) (hp0 : ∀ a4, R r0 4 = some a4 → (I a4 40).toInt ≤ 8) (hp1 : ∀ a4, R r0 4 = some a4 → 1 ≤ (I a4 40).toInt) (hp2 : ∀ a1 a4 a5, R r0 1 = some a1 → R r0 4 = some a4 → R r0 5 = some a5 → RCN I a5 40 (I a1 0).toInt (I a4 40).toInt) (hp3 : ∀ a1 a4 a26, R r0 1 = some a1 → R r0 4 = some a4 → R r0 26 = some a26 → PWT (I a26) (I a1 0).toInt (I a4 40).toInt ((I a1 0).toInt + 1)) (hp4 : ∀ a1 a27, R r0 1 = some a1 → R r0 27 = some a27 → ∀ i : Nat, (i : Int) ≤ n1.toInt → 0 ≤ NF I a27 i ∧ NF I a27 i ≤ (I a1 0).toInt) (hp5 : ∀ a28, R r0 28 = some a28 → ∀ i : Nat, (i : Int) < n1.toInt - 1 → 0 ≤ NF I a28 i) : Ex (d + 4) 284 [.ref r0, .int n1] (T, N, I, L, R) 0 0 (pI T N R (fun x9 I9 L9 => (0 ≤ x9.toInt) ∧ (x9.toInt ≤ 1) ∧ (∀ a1 a4 a5 a27 a28, R r0 1 = some a1 → R r0 4 = some a4 → R r0 5 = some a5 → R r0 27 = some a27 → R r0 28 = some a28 → x9.toInt = 1 → (∀ i : Nat, n1.toInt - 1 ≤ (i : Int) → (i : Int) ≤ n1.toInt → 0 < NF I9 a28 i ∧ NF I9 a28 i < (I a1 0).toInt) ∧ SPF (I a1 0).toInt (I a4 40).toInt (BNI (I a4 40).toInt) (RI I a5 40) (n1.toNatClampNeg + 1) (NF I a27) (NF I9 a28)) ∧ (∀ a1 a4 a5 a27 a28, R r0 1 = some a1 → R r0 4 = some a4 → R r0 5 = some a5 → R r0 27 = some a27 → R r0 28 = some a28 → x9.toInt = 0 → NOF (I a1 0).toInt (I a4 40).toInt (BNI (I a4 40).toInt) (RI I a5 40) (n1.toNatClampNeg + 1) (NF I a27) (NF I a28) (n1.toInt - 1).toNat) ∧ (∀ a28, R r0 28 = some a28 → ∀ r : Nat, (r : Int) < n1.toInt - 1 → I9 a28 r = I a28 r) ∧ (∀ a4, R r0 4 = some a4 → ∀ r : Nat, r ≠ 42 → I9 a4 r = I a4 r) ∧ (∀ a5, R r0 5 = some a5 → ∀ r : Nat, (r < 41 * 42 ∨ 41 * 42 + 41 ≤ r) → I9 a5 r = I a5 r) ∧ (IM R r0 I9 ∧ CM A R r0 [] [4, 5, 28] I L I9 L9))) := by
  refine ⟨_, rfl, Nat.le_of_ble_eq_true rfl, fun V C S => ?_⟩
  show V 0 [(0, .ref r0), (1, .int n1)] [] (T, N, I, L, R) 0 0
  have gn1 := rg n1
  obtain ⟨T_r0, A_r0, ⟨r0_1, R_r0_1, H_r0_1⟩, ⟨r0_2, R_r0_2, H_r0_2⟩, ⟨r0_4, R_r0_4, H_r0_4⟩, ⟨r0_5, R_r0_5, H_r0_5⟩, ⟨r0_10, R_r0_10, H_r0_10⟩, ⟨r0_18, R_r0_18, H_r0_18⟩, ⟨r0_20, R_r0_20, H_r0_20⟩, ⟨r0_21, R_r0_21, H_r0_21⟩, ⟨r0_22, R_r0_22, H_r0_22⟩, ⟨r0_23, R_r0_23, H_r0_23⟩, ⟨r0_25, R_r0_25, H_r0_25⟩, ⟨r0_26, R_r0_26, H_r0_26⟩, ⟨r0_27, R_r0_27, H_r0_27⟩, ⟨r0_28, R_r0_28, H_r0_28⟩, ⟨r0_34, R_r0_34, H_r0_34⟩, J_r0, Y_r0⟩ := id H_r0
  have G_r0 : mF T R r0 := ⟨J_r0, Y_r0, T_r0⟩
  obtain ⟨w_r0_4_40, k0_r0_4_40⟩ : ∃ x, I r0_4 40 = x := ⟨_, rfl⟩
  have gw_r0_4_40 := rg w_r0_4_40
  have ow_r0_4_40 := IM.dgR hI R_r0_4 k0_r0_4_40
  obtain ⟨w_r0_1_0, k0_r0_1_0⟩ : ∃ x, I r0_1 0 = x := ⟨_, rfl⟩
  have gw_r0_1_0 := rg w_r0_1_0
  have ow_r0_1_0 := IM.pi hI R_r0_1 k0_r0_1_0
  have hp0 := hp0 r0_4 R_r0_4
  have hp1 := hp1 r0_4 R_r0_4
  have hp2 := hp2 r0_1 r0_4 r0_5 R_r0_1 R_r0_4 R_r0_5
  have hp3 := hp3 r0_1 r0_4 r0_26 R_r0_1 R_r0_4 R_r0_26
  have hp4 := hp4 r0_1 r0_27 R_r0_1 R_r0_27
  have hp5 := hp5 r0_28 R_r0_28
  try simp only [k0_r0_4_40, k0_r0_1_0] at hp0
  try simp only [k0_r0_4_40, k0_r0_1_0] at hp1
  try simp only [k0_r0_4_40, k0_r0_1_0] at hp2
  try simp only [k0_r0_4_40, k0_r0_1_0] at hp3
  try simp only [k0_r0_4_40, k0_r0_1_0] at hp4
  try simp only [k0_r0_4_40, k0_r0_1_0] at hp5
  have hn1 := ncz (x := n1) (by omega)
  refine z_iconst C (z := 1) rfl rfl rfl (fun x1 ex1 => ?_)
  have J2 : ∀ (nn3 : Nat) (I4 : IT) (L5 : LT) (x6 : Int32), ((19 - x6.toInt).toNat = nn3) → (IM R r0 I4) → (CM A R r0 [] [4, 5, 28] I L I4 L5) → (∀ r : Nat, r ≠ 42 → I4 r0_4 r = I r0_4 r) → (∀ r : Nat, (r < 41 * 42 ∨ 41 * 42 + 41 ≤ r) → I4 r0_5 r = I r0_5 r) → (1 ≤ x6.toInt) → (x6.toInt ≤ 19) → (NOV w_r0_1_0.toInt w_r0_4_40.toInt (BNI w_r0_4_40.toInt) (RI I r0_5 40) (n1.toNatClampNeg + 1) (NF I r0_27) (NF I r0_28) (n1.toInt - 1).toNat x6.toInt) → (∀ r : Nat, (r : Int) < n1.toInt - 1 → I4 r0_28 r = I r0_28 r) → (SMR I I4 r0_5 40) → (1 ≤ x6.toInt ∧ x6.toInt ≤ w_r0_1_0.toInt) → V 2 [(0, .ref r0), (1, .int n1), (2, .int x6)] [] (T, N, I4, L5, R) 0 0 := by
    intro nn3
    induction nn3 using Nat.strongRecOn with
    | _ nn3 ihJ2 =>
      intro I4 L5 x6 hmnn3 hI10 S9 F11 F12 b7 b8 ff2_0 ff2_1 ff2_2 ff2_3
      have gx6 := rg x6
      have e13 := (F11 40 (by first | decide | exact ncne (by omega) (by omega) (by omega) | exact nckn (by omega) (by omega) | exact (nckn (by omega) (by omega)).symm)).trans k0_r0_4_40
      have e14 := CM.j S9 R_r0_1 (by decide) k0_r0_1_0
      refine k_iload_n C rfl rfl rfl ?_
      refine k_aload_n C rfl rfl rfl ?_
      refine c_VI C (a_X12_p hI10 H_r0) rfl rfl rfl rfl rfl ⟨_, rfl, rfl, T_r0, Nat.le_of_ble_eq_true rfl⟩ rfl rfl (Nat.le_of_ble_eq_true rfl) (Nat.le_of_ble_eq_true rfl) (Nat.le_of_ble_eq_true rfl) ?_
      rintro x15 _ _ ⟨o0x15, o1x15, p0x15, rfl, rfl⟩
      have p0x15 := p0x15 r0_1 R_r0_1
      have gx15 := rg x15
      try simp only [e13, e14, e14] at p0x15
      try have q0x15 := congrArg Int32.toInt p0x15
      refine b_icmp_ge C (t := 35) rfl rfl rfl (fun c16 => ?_) (fun c16 => ?_)
      · skip
        refine z_iconst C (z := 0) rfl rfl rfl (fun x17 ex17 => ?_)
        exact k_iret C rfl (Or.inr ⟨rfl, z01 (by omega) (by omega)⟩) (Nat.le_of_ble_eq_true rfl) (Nat.le_of_ble_eq_true rfl) ⟨_, _, _, rfl, rfl, by omega, by omega, fun a1 a4 a5 a27 a28 h1 h4 h5 h27 h28 => by cases (R_r0_1.symm.trans h1); cases (R_r0_4.symm.trans h4); cases (R_r0_5.symm.trans h5); cases (R_r0_27.symm.trans h27); cases (R_r0_28.symm.trans h28); intro h; exfalso; omega, fun a1 a4 a5 a27 a28 h1 h4 h5 h27 h28 => by cases (R_r0_1.symm.trans h1); cases (R_r0_4.symm.trans h4); cases (R_r0_5.symm.trans h5); cases (R_r0_27.symm.trans h27); cases (R_r0_28.symm.trans h28); intro _; simp only [k0_r0_4_40, k0_r0_1_0]; exact ff2_0.e (by omega) (by omega), fun a28 h28 => by cases (R_r0_28.symm.trans h28); exact ff2_1, fun a4 h4 => by cases (R_r0_4.symm.trans h4); exact (fun r z0 => (F11 r z0)), fun a5 h5 => by cases (R_r0_5.symm.trans h5); exact (fun r z0 => (F12 r z0)), hI10, (CM.mono S9 (by decide) (by decide))⟩
      refine k_aload_n C rfl rfl rfl ?_
      refine g_R C rfl rfl rfl T_r0 rfl R_r0_28 ?_
      refine k_iload_n C rfl rfl rfl ?_
      refine z_iconst C (z := 1) rfl rfl rfl (fun x18 ex18 => ?_)
      refine z_isub C rfl rfl ⟨by omega, by omega⟩ (fun x19 ex19 => ?_)
      refine k_iload_n C rfl rfl rfl ?_
      obtain ⟨j18, ej18⟩ : ∃ j : Int32, j = x19 := ⟨_, rfl⟩
      have ej18i : j18.toInt = x19.toInt := (by rw [ej18])
      obtain ⟨T_r0_28, N_r0_28, A_r0_28⟩ := id H_r0_28
      refine z_sI C rfl rfl T_r0_28 N_r0_28 (by omega) (by omega) (fun I20 uI20 => ?_)
      have hI20 : IM R r0 I20 := IM.arr hI10 G_r0 R_r0_28 ⟨(fun h => absurd h (by decide)), (fun h => absurd h (by decide)), (fun _ => ⟨by omega, by omega⟩)⟩ (fun h => absurd h (by decide)) uI20
      have S21 : CM A R r0 [] [28] I4 L5 I20 L5 := CM.a G_r0 R_r0_28 A_r0_28 uI20
      have e22 := u2_n uI20 (mF.nq G_r0 R_r0_4 R_r0_28 (by decide)) e13
      have e23 := u2_n uI20 (mF.nq G_r0 R_r0_1 R_r0_28 (by decide)) e14
      have e24 := u2_e uI20
      have hu18 := uI20
      (try rw [← ej18] at hu18)
      have h26 := (CM.j0 (W := []) (WA := [4, 5, 28]) (CM.cons S9 (CM.mono S21 (by decide) (by decide)) (by decide) (by decide)) R_r0_26 (by decide))
      have h27 := (CM.j0 (W := []) (WA := [4, 5, 28]) (CM.cons S9 (CM.mono S21 (by decide) (by decide)) (by decide) (by decide)) R_r0_27 (by decide))
      have hf18 : NF I20 r0_28 (n1.toInt - 1).toNat = x6.toInt := (by show (I20 r0_28 _).toInt = _; rw [hu18, show (n1.toInt - 1).toNat = j18.toNatClampNeg from by have h9 := ncz (x := j18) (by omega); omega, u2_s])
      have hl18 : ∀ i : Nat, (i : Int) < n1.toInt - 1 → NF I20 r0_28 i = NF I r0_28 i := fun i hi => by (show (I20 r0_28 _).toInt = (_ : Int32).toInt; have h9 := ncz (x := j18) (by omega); rw [hu18, u2_k (by omega), ff2_1 i (by omega)])
      have h5a : SMR I I20 r0_5 40 := fun k hk => by (rw [CM.j0 S21 R_r0_5 (by decide)]; exact ff2_2 k hk)
      obtain ⟨C9, eC9⟩ : ∃ f : Nat → Int, NF I20 r0_28 = f := ⟨_, rfl⟩
      rw [eC9] at hf18 hl18
      refine k_aload_n C rfl rfl rfl ?_
      refine k_iload_n C rfl rfl rfl ?_
      refine c_VI C (a_X12_isLast_x hI20 H_r0 (by omega) (by omega) (fun a4 h4 => by cases (R_r0_4.symm.trans h4); (by rw [e22]; omega)) (fun a4 h4 => by cases (R_r0_4.symm.trans h4); (by rw [e22]; omega)) (fun a1 a4 a5 h1 h4 h5 => by cases (R_r0_1.symm.trans h1); cases (R_r0_4.symm.trans h4); cases (R_r0_5.symm.trans h5); (by rw [e22, e23]; exact RCN.sm hp2 h5a rfl (by omega))) (fun a1 a4 a26 h1 h4 h26 => by cases (R_r0_1.symm.trans h1); cases (R_r0_4.symm.trans h4); cases (R_r0_26.symm.trans h26); (by rw [e22, e23, h26]; exact hp3)) (fun a1 a27 h1 h27 => by cases (R_r0_1.symm.trans h1); cases (R_r0_27.symm.trans h27); (by rw [e23]; intro i hi; rw [NF.e h27]; exact hp4 i hi)) (fun a28 h28 => by cases (R_r0_28.symm.trans h28); (by intro i hi; rw [eC9]; by_cases c9 : i = (n1.toInt - 1).toNat; · (rw [c9, hf18]; omega); · (rw [hl18 i (by omega)]; exact hp5 i (by omega))))) rfl rfl rfl rfl rfl ⟨_, rfl, rfl, T_r0, Nat.le_of_ble_eq_true rfl⟩ rfl rfl (Nat.le_of_ble_eq_true rfl) (Nat.le_of_ble_eq_true rfl) (Nat.le_of_ble_eq_true rfl) ?_
      rintro x25 I26 L27 ⟨o0x25, o1x25, p0x25, p1x25, p2x25, p3x25, p4x25, hI26, S28⟩
      have p0x25 := p0x25 r0_1 r0_4 r0_5 r0_27 r0_28 R_r0_1 R_r0_4 R_r0_5 R_r0_27 R_r0_28
      have p1x25 := p1x25 r0_1 r0_4 r0_5 r0_27 r0_28 R_r0_1 R_r0_4 R_r0_5 R_r0_27 R_r0_28
      have p2x25 := p2x25 r0_28 R_r0_28
      have p3x25 := p3x25 r0_4 R_r0_4
      have p4x25 := p4x25 r0_5 R_r0_5
      have F29 : ∀ r : Nat, r ≠ 42 → I26 r0_4 r = I20 r0_4 r := fun r z0 => p3x25 r (by first | exact z0)
      have F30 : ∀ r : Nat, (r < 41 * 42 ∨ 41 * 42 + 41 ≤ r) → I26 r0_5 r = I20 r0_5 r := fun r z0 => p4x25 r (by first | exact z0)
      have e31 := (p3x25 40 (by first | decide | exact ncne (by omega) (by omega) (by omega) | exact nckn (by omega) (by omega) | exact (nckn (by omega) (by omega)).symm)).trans e22
      have e32 := CM.j S28 R_r0_1 (by decide) e23
      have gx25 := rg x25
      try simp only [e22, e23, e24] at p0x25
      try have q0x25 := congrArg Int32.toInt p0x25
      try simp only [e22, e23, e24] at p1x25
      try have q1x25 := congrArg Int32.toInt p1x25
      try simp only [e22, e23, e24] at p2x25
      try have q2x25 := congrArg Int32.toInt p2x25
      have hy21 := p0x25
      have hn21 := p1x25
      have hl21 := p2x25
      (try simp only [eC9, NF.e h27] at hy21)
      (try simp only [eC9, NF.e h27] at hn21)
      have h5b := p4x25
      have hFe : ∀ k : Nat, (k : Int) ≤ w_r0_4_40.toInt → RI _ r0_5 40 k = (RI I r0_5 40) k := fun k hk => RI.s h5a (by omega)
      refine b_if_eq C (t := 29) rfl rfl rfl (fun c34 => ?_) (fun c34 => ?_)
      · skip
        refine z_iinc C (z := 1) (lw := fun x35 => [(2, .int x35), (0, .ref r0), (1, .int n1)]) rfl rfl rfl (Nat.le_of_ble_eq_true rfl) rfl ⟨by omega, by omega⟩ (fun _ => rfl) (fun x35 ex35 => ?_)
        show V 32 [(2, .int x35), (0, .ref r0), (1, .int n1)] _ _ _ _
        refine k_goto C (pc2 := 2) rfl rfl ?_
        refine k_sub S [(0, .ref r0), (1, .int n1), (2, .int x35)] (List.forall_mem_cons.mpr ⟨List.mem_of_getElem? (i := 1) rfl, List.forall_mem_cons.mpr ⟨List.mem_of_getElem? (i := 2) rfl, List.forall_mem_cons.mpr ⟨List.mem_of_getElem? (i := 0) rfl, fun _ h => nomatch h⟩⟩⟩) ?_
        exact ihJ2 _ (by omega) I26 L27 x35 rfl hI26 (CM.cons S9 (CM.cons S21 (CM.mono S28 (by decide) (by decide)) (by decide) (by decide)) (by decide) (by decide)) (fun r z0 => ((F29 r z0).trans ((congrFun (CM.j0 S21 R_r0_4 (by decide)) r).trans (F11 r z0)))) (fun r z0 => ((F30 r z0).trans ((congrFun (CM.j0 S21 R_r0_5 (by decide)) r).trans (F12 r z0)))) (by omega) (by omega) (by exact NOV.s ff2_0 ((hn21 (by omega)).cg hFe (fun i hi => rfl) (fun i hi => rfl) rfl) (by omega) (fun i hi => hl18 i (by omega)) hf18 (by omega)) (by intro r hr; rw [hl21 r (by omega)]; have h9 := hl18 r hr; rw [← eC9] at h9; exact Int32.toInt_inj.mp h9) (by exact fun k hk => (h5b _ (by omega)).trans (h5a k hk)) (by omega)
      refine z_iconst C (z := 1) rfl rfl rfl (fun x36 ex36 => ?_)
      exact k_iret C rfl (Or.inr ⟨rfl, z01 (by omega) (by omega)⟩) (Nat.le_of_ble_eq_true rfl) (Nat.le_of_ble_eq_true rfl) ⟨_, _, _, rfl, rfl, by omega, by omega, fun a1 a4 a5 a27 a28 h1 h4 h5 h27 h28 => by cases (R_r0_1.symm.trans h1); cases (R_r0_4.symm.trans h4); cases (R_r0_5.symm.trans h5); cases (R_r0_27.symm.trans h27); cases (R_r0_28.symm.trans h28); intro _; simp only [k0_r0_4_40, k0_r0_1_0]; obtain ⟨h7, h8⟩ := hy21 (by omega); refine ⟨fun i h1 h2 => ?_, h8.fc hFe⟩; by_cases c9 : i = n1.toNatClampNeg; · (rw [c9]; exact h7); · (have h6 : NF I26 r0_28 i = C9 i := (by rw [← eC9]; exact congrArg Int32.toInt (hl21 i (by omega))); rw [h6, show i = (n1.toInt - 1).toNat from by omega, hf18]; omega), fun a1 a4 a5 a27 a28 h1 h4 h5 h27 h28 => by cases (R_r0_1.symm.trans h1); cases (R_r0_4.symm.trans h4); cases (R_r0_5.symm.trans h5); cases (R_r0_27.symm.trans h27); cases (R_r0_28.symm.trans h28); intro h; exfalso; omega, fun a28 h28 => by cases (R_r0_28.symm.trans h28); intro r hr; rw [hl21 r (by omega)]; have h9 := hl18 r hr; rw [← eC9] at h9; exact Int32.toInt_inj.mp h9, fun a4 h4 => by cases (R_r0_4.symm.trans h4); exact (fun r z0 => ((F29 r z0).trans ((congrFun (CM.j0 S21 R_r0_4 (by decide)) r).trans (F11 r z0)))), fun a5 h5 => by cases (R_r0_5.symm.trans h5); exact (fun r z0 => ((F30 r z0).trans ((congrFun (CM.j0 S21 R_r0_5 (by decide)) r).trans (F12 r z0)))), hI26, (CM.cons S9 (CM.cons S21 (CM.mono S28 (by decide) (by decide)) (by decide) (by decide)) (by decide) (by decide))⟩
  refine k_istore_n C (lw := [(2, .int x1), (0, .ref r0), (1, .int n1)]) rfl rfl (Nat.le_of_ble_eq_true rfl) rfl ?_
  refine k_sub S [(0, .ref r0), (1, .int n1), (2, .int x1)] (List.forall_mem_cons.mpr ⟨List.mem_of_getElem? (i := 1) rfl, List.forall_mem_cons.mpr ⟨List.mem_of_getElem? (i := 2) rfl, List.forall_mem_cons.mpr ⟨List.mem_of_getElem? (i := 0) rfl, fun _ h => nomatch h⟩⟩⟩) ?_
  exact J2 _ I L x1 rfl hI CM.rf (fun r z0 => rfl) (fun r z0 => rfl) (by omega) (by omega) (by exact NOV.z (by omega) (by omega)) (by intro r hr; rfl) (by exact fun k hk => rfl) (by omega)

set_option maxHeartbeats 4000000 in
theorem a_X12_isTriple_x {d : Nat} {T N : Nat → Nat} {I : IT} {L : LT} {R : RT} {A : Nat → Prop} {r0 : Nat} (hI : IM R r0 I) (H_r0 : (h_MD T N R A) r0) (hp0 : ∀ a4, R r0 4 = some a4 → (I a4 40).toInt ≤ 8) (hp1 : ∀ a4, R r0 4 = some a4 → 1 ≤ (I a4 40).toInt) (hp2 : ∀ a1 a4 a5, R r0 1 = some a1 → R r0 4 = some a4 → R r0 5 = some a5 → RCN I a5 40 (I a1 0).toInt (I a4 40).toInt) (hp3 : ∀ a1 a4 a26, R r0 1 = some a1 → R r0 4 = some a4 → R r0 26 = some a26 → PWT (I a26) (I a1 0).toInt (I a4 40).toInt ((I a1 0).toInt + 1)) (hp4 : ∀ a1 a27, R r0 1 = some a1 → R r0 27 = some a27 → ∀ i : Nat, (i : Int) ≤ 2 → 0 ≤ NF I a27 i ∧ NF I a27 i ≤ (I a1 0).toInt) : Ex (d + 5) 285 [.ref r0] (T, N, I, L, R) 0 0 (pI T N R (fun x9 I9 L9 => (0 ≤ x9.toInt) ∧ (x9.toInt ≤ 1) ∧ (∀ a1 a4 a5 a27 a28, R r0 1 = some a1 → R r0 4 = some a4 → R r0 5 = some a5 → R r0 27 = some a27 → R r0 28 = some a28 → x9.toInt = 1 → NZS (I a1 0).toInt 3 (NF I9 a28) ∧ SPF (I a1 0).toInt (I a4 40).toInt (BNI (I a4 40).toInt) (RI I a5 40) 3 (NF I a27) (NF I9 a28)) ∧ (∀ a1 a4 a5 a27 a28, R r0 1 = some a1 → R r0 4 = some a4 → R r0 5 = some a5 → R r0 27 = some a27 → R r0 28 = some a28 → x9.toInt = 0 → NOF (I a1 0).toInt (I a4 40).toInt (BNI (I a4 40).toInt) (RI I a5 40) 3 (NF I a27) (NF I a28) 0) ∧ (∀ a4, R r0 4 = some a4 → ∀ r : Nat, r ≠ 42 → I9 a4 r = I a4 r) ∧ (∀ a5, R r0 5 = some a5 → ∀ r : Nat, (r < 41 * 42 ∨ 41 * 42 + 41 ≤ r) → I9 a5 r = I a5 r) ∧ (IM R r0 I9 ∧ CM A R r0 [] [4, 5, 28] I L I9 L9))) := by
  refine ⟨_, rfl, Nat.le_of_ble_eq_true rfl, fun V C S => ?_⟩
  show V 0 [(0, .ref r0)] [] (T, N, I, L, R) 0 0
  obtain ⟨T_r0, A_r0, ⟨r0_1, R_r0_1, H_r0_1⟩, ⟨r0_2, R_r0_2, H_r0_2⟩, ⟨r0_4, R_r0_4, H_r0_4⟩, ⟨r0_5, R_r0_5, H_r0_5⟩, ⟨r0_10, R_r0_10, H_r0_10⟩, ⟨r0_18, R_r0_18, H_r0_18⟩, ⟨r0_20, R_r0_20, H_r0_20⟩, ⟨r0_21, R_r0_21, H_r0_21⟩, ⟨r0_22, R_r0_22, H_r0_22⟩, ⟨r0_23, R_r0_23, H_r0_23⟩, ⟨r0_25, R_r0_25, H_r0_25⟩, ⟨r0_26, R_r0_26, H_r0_26⟩, ⟨r0_27, R_r0_27, H_r0_27⟩, ⟨r0_28, R_r0_28, H_r0_28⟩, ⟨r0_34, R_r0_34, H_r0_34⟩, J_r0, Y_r0⟩ := id H_r0
  have G_r0 : mF T R r0 := ⟨J_r0, Y_r0, T_r0⟩
  obtain ⟨w_r0_4_40, k0_r0_4_40⟩ : ∃ x, I r0_4 40 = x := ⟨_, rfl⟩
  have gw_r0_4_40 := rg w_r0_4_40
  have ow_r0_4_40 := IM.dgR hI R_r0_4 k0_r0_4_40
  obtain ⟨w_r0_1_0, k0_r0_1_0⟩ : ∃ x, I r0_1 0 = x := ⟨_, rfl⟩
  have gw_r0_1_0 := rg w_r0_1_0
  have ow_r0_1_0 := IM.pi hI R_r0_1 k0_r0_1_0
  have hp0 := hp0 r0_4 R_r0_4
  have hp1 := hp1 r0_4 R_r0_4
  have hp2 := hp2 r0_1 r0_4 r0_5 R_r0_1 R_r0_4 R_r0_5
  have hp3 := hp3 r0_1 r0_4 r0_26 R_r0_1 R_r0_4 R_r0_26
  have hp4 := hp4 r0_1 r0_27 R_r0_1 R_r0_27
  try simp only [k0_r0_4_40, k0_r0_1_0] at hp0
  try simp only [k0_r0_4_40, k0_r0_1_0] at hp1
  try simp only [k0_r0_4_40, k0_r0_1_0] at hp2
  try simp only [k0_r0_4_40, k0_r0_1_0] at hp3
  try simp only [k0_r0_4_40, k0_r0_1_0] at hp4
  refine z_iconst C (z := 1) rfl rfl rfl (fun x1 ex1 => ?_)
  have J2 : ∀ (nn3 : Nat) (I4 : IT) (L5 : LT) (x6 : Int32), ((19 - x6.toInt).toNat = nn3) → (IM R r0 I4) → (CM A R r0 [] [4, 5, 28] I L I4 L5) → (∀ r : Nat, r ≠ 42 → I4 r0_4 r = I r0_4 r) → (∀ r : Nat, (r < 41 * 42 ∨ 41 * 42 + 41 ≤ r) → I4 r0_5 r = I r0_5 r) → (1 ≤ x6.toInt) → (x6.toInt ≤ 19) → (NOV w_r0_1_0.toInt w_r0_4_40.toInt (BNI w_r0_4_40.toInt) (RI I r0_5 40) 3 (NF I r0_27) (NF I r0_28) 0 x6.toInt) → (SMR I I4 r0_5 40) → (1 ≤ x6.toInt ∧ x6.toInt ≤ w_r0_1_0.toInt) → V 2 [(0, .ref r0), (1, .int x6)] [] (T, N, I4, L5, R) 0 0 := by
    intro nn3
    induction nn3 using Nat.strongRecOn with
    | _ nn3 ihJ2 =>
      intro I4 L5 x6 hmnn3 hI10 S9 F11 F12 b7 b8 ff2_0 ff2_1 ff2_2
      have gx6 := rg x6
      have e13 := (F11 40 (by first | decide | exact ncne (by omega) (by omega) (by omega) | exact nckn (by omega) (by omega) | exact (nckn (by omega) (by omega)).symm)).trans k0_r0_4_40
      have e14 := CM.j S9 R_r0_1 (by decide) k0_r0_1_0
      refine k_iload_n C rfl rfl rfl ?_
      refine k_aload_n C rfl rfl rfl ?_
      refine c_VI C (a_X12_p hI10 H_r0) rfl rfl rfl rfl rfl ⟨_, rfl, rfl, T_r0, Nat.le_of_ble_eq_true rfl⟩ rfl rfl (Nat.le_of_ble_eq_true rfl) (Nat.le_of_ble_eq_true rfl) (Nat.le_of_ble_eq_true rfl) ?_
      rintro x15 _ _ ⟨o0x15, o1x15, p0x15, rfl, rfl⟩
      have p0x15 := p0x15 r0_1 R_r0_1
      have gx15 := rg x15
      try simp only [e13, e14, e14] at p0x15
      try have q0x15 := congrArg Int32.toInt p0x15
      refine b_icmp_ge C (t := 33) rfl rfl rfl (fun c16 => ?_) (fun c16 => ?_)
      · skip
        refine z_iconst C (z := 0) rfl rfl rfl (fun x17 ex17 => ?_)
        exact k_iret C rfl (Or.inr ⟨rfl, z01 (by omega) (by omega)⟩) (Nat.le_of_ble_eq_true rfl) (Nat.le_of_ble_eq_true rfl) ⟨_, _, _, rfl, rfl, by omega, by omega, fun a1 a4 a5 a27 a28 h1 h4 h5 h27 h28 => by cases (R_r0_1.symm.trans h1); cases (R_r0_4.symm.trans h4); cases (R_r0_5.symm.trans h5); cases (R_r0_27.symm.trans h27); cases (R_r0_28.symm.trans h28); intro h; exfalso; omega, fun a1 a4 a5 a27 a28 h1 h4 h5 h27 h28 => by cases (R_r0_1.symm.trans h1); cases (R_r0_4.symm.trans h4); cases (R_r0_5.symm.trans h5); cases (R_r0_27.symm.trans h27); cases (R_r0_28.symm.trans h28); intro _; simp only [k0_r0_4_40, k0_r0_1_0]; exact ff2_0.e (by omega) (by omega), fun a4 h4 => by cases (R_r0_4.symm.trans h4); exact (fun r z0 => (F11 r z0)), fun a5 h5 => by cases (R_r0_5.symm.trans h5); exact (fun r z0 => (F12 r z0)), hI10, (CM.mono S9 (by decide) (by decide))⟩
      refine k_aload_n C rfl rfl rfl ?_
      refine g_R C rfl rfl rfl T_r0 rfl R_r0_28 ?_
      refine z_iconst C (z := 0) rfl rfl rfl (fun x18 ex18 => ?_)
      refine k_iload_n C rfl rfl rfl ?_
      obtain ⟨j16, ej16⟩ : ∃ j : Int32, j = x18 := ⟨_, rfl⟩
      have ej16i : j16.toInt = x18.toInt := (by rw [ej16])
      obtain ⟨T_r0_28, N_r0_28, A_r0_28⟩ := id H_r0_28
      refine z_sI C rfl rfl T_r0_28 N_r0_28 (by omega) (by omega) (fun I19 uI19 => ?_)
      have uI19 : I19 = u2 I4 r0_28 0 (x6) := by rw [uI19, nck (n := 0) (by omega)]
      have hI19 : IM R r0 I19 := IM.arr hI10 G_r0 R_r0_28 ⟨(fun h => absurd h (by decide)), (fun h => absurd h (by decide)), (fun _ => ⟨by omega, by omega⟩)⟩ (fun h => absurd h (by decide)) uI19
      have S20 : CM A R r0 [] [28] I4 L5 I19 L5 := CM.a G_r0 R_r0_28 A_r0_28 uI19
      have e21 := u2_n uI19 (mF.nq G_r0 R_r0_4 R_r0_28 (by decide)) e13
      have e22 := u2_n uI19 (mF.nq G_r0 R_r0_1 R_r0_28 (by decide)) e14
      have e23 := u2_e uI19
      have hu16 := uI19
      (try rw [← ej16] at hu16)
      have h26 := (CM.j0 (W := []) (WA := [4, 5, 28]) (CM.cons S9 (CM.mono S20 (by decide) (by decide)) (by decide) (by decide)) R_r0_26 (by decide))
      have h27 := (CM.j0 (W := []) (WA := [4, 5, 28]) (CM.cons S9 (CM.mono S20 (by decide) (by decide)) (by decide) (by decide)) R_r0_27 (by decide))
      have hf16 : NF I19 r0_28 0 = x6.toInt := (by show (I19 r0_28 _).toInt = _; rw [hu16, show (0 : Nat) = j16.toNatClampNeg from (ncz0 (by omega)).symm, u2_s])
      have h5a : SMR I I19 r0_5 40 := fun k hk => by (rw [CM.j0 S20 R_r0_5 (by decide)]; exact ff2_1 k hk)
      obtain ⟨C9, eC9⟩ : ∃ f : Nat → Int, NF I19 r0_28 = f := ⟨_, rfl⟩
      rw [eC9] at hf16
      refine k_aload_n C rfl rfl rfl ?_
      refine z_iconst C (z := 2) rfl rfl rfl (fun x24 ex24 => ?_)
      have q25 : x24.toNatClampNeg = 2 := nck (by omega)
      refine c_VI C (a_X12_isPair_x hI19 H_r0 (by omega) (by omega) (fun a4 h4 => by cases (R_r0_4.symm.trans h4); (by rw [e21]; omega)) (fun a4 h4 => by cases (R_r0_4.symm.trans h4); (by rw [e21]; omega)) (fun a1 a4 a5 h1 h4 h5 => by cases (R_r0_1.symm.trans h1); cases (R_r0_4.symm.trans h4); cases (R_r0_5.symm.trans h5); (by rw [e21, e22]; exact RCN.sm hp2 h5a rfl (by omega))) (fun a1 a4 a26 h1 h4 h26 => by cases (R_r0_1.symm.trans h1); cases (R_r0_4.symm.trans h4); cases (R_r0_26.symm.trans h26); (by rw [e21, e22, h26]; exact hp3)) (fun a1 a27 h1 h27 => by cases (R_r0_1.symm.trans h1); cases (R_r0_27.symm.trans h27); (by rw [e22]; intro i hi; rw [NF.e h27]; exact hp4 i (by omega))) (fun a28 h28 => by cases (R_r0_28.symm.trans h28); (by intro i hi; rw [eC9, show i = 0 from by omega, hf16]; omega))) rfl rfl rfl rfl rfl ⟨_, rfl, rfl, T_r0, Nat.le_of_ble_eq_true rfl⟩ rfl rfl (Nat.le_of_ble_eq_true rfl) (Nat.le_of_ble_eq_true rfl) (Nat.le_of_ble_eq_true rfl) ?_
      rintro x26 I27 L28 ⟨o0x26, o1x26, p0x26, p1x26, p2x26, p3x26, p4x26, hI27, S29⟩
      have p0x26 := p0x26 r0_1 r0_4 r0_5 r0_27 r0_28 R_r0_1 R_r0_4 R_r0_5 R_r0_27 R_r0_28
      have p1x26 := p1x26 r0_1 r0_4 r0_5 r0_27 r0_28 R_r0_1 R_r0_4 R_r0_5 R_r0_27 R_r0_28
      have p2x26 := p2x26 r0_28 R_r0_28
      have p3x26 := p3x26 r0_4 R_r0_4
      have p4x26 := p4x26 r0_5 R_r0_5
      try simp only [q25] at p3x26
      have F30 : ∀ r : Nat, r ≠ 42 → I27 r0_4 r = I19 r0_4 r := fun r z0 => p3x26 r (by first | exact z0)
      try simp only [q25] at p4x26
      have F31 : ∀ r : Nat, (r < 41 * 42 ∨ 41 * 42 + 41 ≤ r) → I27 r0_5 r = I19 r0_5 r := fun r z0 => p4x26 r (by first | exact z0)
      have e32 := (p3x26 40 (by first | decide | exact ncne (by omega) (by omega) (by omega) | exact nckn (by omega) (by omega) | exact (nckn (by omega) (by omega)).symm)).trans e21
      have e33 := CM.j S29 R_r0_1 (by decide) e22
      have gx26 := rg x26
      try simp only [q25, e21, e22, e23] at p0x26
      try have q0x26 := congrArg Int32.toInt p0x26
      try simp only [q25, e21, e22, e23] at p1x26
      try have q1x26 := congrArg Int32.toInt p1x26
      try simp only [q25, e21, e22, e23] at p2x26
      try have q2x26 := congrArg Int32.toInt p2x26
      have hy19 := p0x26
      have hn19 := p1x26
      have hl19 := p2x26
      (try simp only [eC9, NF.e h27] at hy19)
      (try simp only [eC9, NF.e h27] at hn19)
      have h5b := p4x26
      have hFe : ∀ k : Nat, (k : Int) ≤ w_r0_4_40.toInt → RI _ r0_5 40 k = (RI I r0_5 40) k := fun k hk => RI.s h5a (by omega)
      refine b_if_eq C (t := 27) rfl rfl rfl (fun c35 => ?_) (fun c35 => ?_)
      · skip
        refine z_iinc C (z := 1) (lw := fun x36 => [(1, .int x36), (0, .ref r0)]) rfl rfl rfl (Nat.le_of_ble_eq_true rfl) rfl ⟨by omega, by omega⟩ (fun _ => rfl) (fun x36 ex36 => ?_)
        show V 30 [(1, .int x36), (0, .ref r0)] _ _ _ _
        refine k_goto C (pc2 := 2) rfl rfl ?_
        refine k_sub S [(0, .ref r0), (1, .int x36)] (List.forall_mem_cons.mpr ⟨List.mem_of_getElem? (i := 1) rfl, List.forall_mem_cons.mpr ⟨List.mem_of_getElem? (i := 0) rfl, fun _ h => nomatch h⟩⟩) ?_
        exact ihJ2 _ (by omega) I27 L28 x36 rfl hI27 (CM.cons S9 (CM.cons S20 (CM.mono S29 (by decide) (by decide)) (by decide) (by decide)) (by decide) (by decide)) (fun r z0 => ((F30 r z0).trans ((congrFun (CM.j0 S20 R_r0_4 (by decide)) r).trans (F11 r z0)))) (fun r z0 => ((F31 r z0).trans ((congrFun (CM.j0 S20 R_r0_5 (by decide)) r).trans (F12 r z0)))) (by omega) (by omega) (by exact NOV.s (m1 := 1) ff2_0 ((hn19 (by omega)).cg hFe (fun i hi => rfl) (fun i hi => rfl) (by omega)) rfl (fun i hi => absurd hi (Nat.not_lt_zero i)) hf16 (by omega)) (by exact fun k hk => (h5b _ (by omega)).trans (h5a k hk)) (by omega)
      refine z_iconst C (z := 1) rfl rfl rfl (fun x37 ex37 => ?_)
      exact k_iret C rfl (Or.inr ⟨rfl, z01 (by omega) (by omega)⟩) (Nat.le_of_ble_eq_true rfl) (Nat.le_of_ble_eq_true rfl) ⟨_, _, _, rfl, rfl, by omega, by omega, fun a1 a4 a5 a27 a28 h1 h4 h5 h27 h28 => by cases (R_r0_1.symm.trans h1); cases (R_r0_4.symm.trans h4); cases (R_r0_5.symm.trans h5); cases (R_r0_27.symm.trans h27); cases (R_r0_28.symm.trans h28); intro _; simp only [k0_r0_4_40, k0_r0_1_0]; obtain ⟨h7, h8⟩ := hy19 (by omega); refine ⟨fun i hi => ?_, h8.fc hFe⟩; by_cases c9 : i = 0; · (have h6 : NF I27 r0_28 i = C9 i := (by rw [← eC9]; exact congrArg Int32.toInt (hl19 i (by omega))); rw [h6, c9, hf16]; omega); · exact h7 i (by omega) (by omega), fun a1 a4 a5 a27 a28 h1 h4 h5 h27 h28 => by cases (R_r0_1.symm.trans h1); cases (R_r0_4.symm.trans h4); cases (R_r0_5.symm.trans h5); cases (R_r0_27.symm.trans h27); cases (R_r0_28.symm.trans h28); intro h; exfalso; omega, fun a4 h4 => by cases (R_r0_4.symm.trans h4); exact (fun r z0 => ((F30 r z0).trans ((congrFun (CM.j0 S20 R_r0_4 (by decide)) r).trans (F11 r z0)))), fun a5 h5 => by cases (R_r0_5.symm.trans h5); exact (fun r z0 => ((F31 r z0).trans ((congrFun (CM.j0 S20 R_r0_5 (by decide)) r).trans (F12 r z0)))), hI27, (CM.cons S9 (CM.cons S20 (CM.mono S29 (by decide) (by decide)) (by decide) (by decide)) (by decide) (by decide))⟩
  refine k_istore_n C (lw := [(1, .int x1), (0, .ref r0)]) rfl rfl (Nat.le_of_ble_eq_true rfl) rfl ?_
  refine k_sub S [(0, .ref r0), (1, .int x1)] (List.forall_mem_cons.mpr ⟨List.mem_of_getElem? (i := 1) rfl, List.forall_mem_cons.mpr ⟨List.mem_of_getElem? (i := 0) rfl, fun _ h => nomatch h⟩⟩) ?_
  exact J2 _ I L x1 rfl hI CM.rf (fun r z0 => rfl) (fun r z0 => rfl) (by omega) (by omega) (by exact NOV.z (by omega) (by omega)) (by exact fun k hk => rfl) (by omega)

set_option maxHeartbeats 8000000 in
theorem a_X12_isSum_x {d : Nat} {T N : Nat → Nat} {I : IT} {L : LT} {R : RT} {A : Nat → Prop} {r0 : Nat} {n1 : Int32} (hI : IM R r0 I) (H_r0 : (h_MD T N R A) r0) (b0_n1 : 1 ≤ n1.toInt) (b1_n1 : n1.toInt ≤ 3) (hp0 : ∀ a4, R r0 4 = some a4 → (I a4 40).toInt ≤ 8) (hp1 : ∀ a4, R r0 4 = some a4 → 1 ≤ (I a4 40).toInt) (hp2 : ∀ a1 a4 a5, R r0 1 = some a1 → R r0 4 = some a4 → R r0 5 = some a5 → RCN I a5 40 (I a1 0).toInt (I a4 40).toInt) (hp3 : ∀ a1 a4 a26, R r0 1 = some a1 → R r0 4 = some a4 → R r0 26 = some a26 → PWT (I a26) (I a1 0).toInt (I a4 40).toInt ((I a1 0).toInt + 1)) : Ex (d + 6) 286 [.ref r0, .int n1] (T, N, I, L, R) 0 0 (pI T N R (fun x9 I9 L9 => (0 ≤ x9.toInt) ∧ (x9.toInt ≤ 1) ∧ (∀ a1 a4 a5 a27 a28, R r0 1 = some a1 → R r0 4 = some a4 → R r0 5 = some a5 → R r0 27 = some a27 → R r0 28 = some a28 → x9.toInt = 1 → PWL (I a1 0).toInt (I a4 40).toInt (BNI (I a4 40).toInt) (RI I a5 40) n1.toNatClampNeg (NF I9 a27) (NF I9 a28)) ∧ (∀ a1 a4 a5, R r0 1 = some a1 → R r0 4 = some a4 → R r0 5 = some a5 → x9.toInt = 0 → ¬ EXN (I a1 0).toInt (I a4 40).toInt (BNI (I a4 40).toInt) (RI I a5 40) n1.toNatClampNeg) ∧ (∀ a4, R r0 4 = some a4 → ∀ r : Nat, r ≠ 42 → I9 a4 r = I a4 r) ∧ (∀ a5, R r0 5 = some a5 → ∀ r : Nat, (r < 41 * 42 ∨ 41 * 42 + 41 ≤ r) → I9 a5 r = I a5 r) ∧ (IM R r0 I9 ∧ CM A R r0 [] [4, 5, 27, 28] I L I9 L9))) := by
  refine ⟨_, rfl, Nat.le_of_ble_eq_true rfl, fun V C S => ?_⟩
  show V 0 [(0, .ref r0), (1, .int n1)] [] (T, N, I, L, R) 0 0
  have gn1 := rg n1
  obtain ⟨T_r0, A_r0, ⟨r0_1, R_r0_1, H_r0_1⟩, ⟨r0_2, R_r0_2, H_r0_2⟩, ⟨r0_4, R_r0_4, H_r0_4⟩, ⟨r0_5, R_r0_5, H_r0_5⟩, ⟨r0_10, R_r0_10, H_r0_10⟩, ⟨r0_18, R_r0_18, H_r0_18⟩, ⟨r0_20, R_r0_20, H_r0_20⟩, ⟨r0_21, R_r0_21, H_r0_21⟩, ⟨r0_22, R_r0_22, H_r0_22⟩, ⟨r0_23, R_r0_23, H_r0_23⟩, ⟨r0_25, R_r0_25, H_r0_25⟩, ⟨r0_26, R_r0_26, H_r0_26⟩, ⟨r0_27, R_r0_27, H_r0_27⟩, ⟨r0_28, R_r0_28, H_r0_28⟩, ⟨r0_34, R_r0_34, H_r0_34⟩, J_r0, Y_r0⟩ := id H_r0
  have G_r0 : mF T R r0 := ⟨J_r0, Y_r0, T_r0⟩
  obtain ⟨w_r0_4_40, k0_r0_4_40⟩ : ∃ x, I r0_4 40 = x := ⟨_, rfl⟩
  have gw_r0_4_40 := rg w_r0_4_40
  have ow_r0_4_40 := IM.dgR hI R_r0_4 k0_r0_4_40
  obtain ⟨w_r0_1_0, k0_r0_1_0⟩ : ∃ x, I r0_1 0 = x := ⟨_, rfl⟩
  have gw_r0_1_0 := rg w_r0_1_0
  have ow_r0_1_0 := IM.pi hI R_r0_1 k0_r0_1_0
  have hp0 := hp0 r0_4 R_r0_4
  have hp1 := hp1 r0_4 R_r0_4
  have hp2 := hp2 r0_1 r0_4 r0_5 R_r0_1 R_r0_4 R_r0_5
  have hp3 := hp3 r0_1 r0_4 r0_26 R_r0_1 R_r0_4 R_r0_26
  try simp only [k0_r0_4_40, k0_r0_1_0] at hp0
  try simp only [k0_r0_4_40, k0_r0_1_0] at hp1
  try simp only [k0_r0_4_40, k0_r0_1_0] at hp2
  try simp only [k0_r0_4_40, k0_r0_1_0] at hp3
  have hn1 := ncz (x := n1) (by omega)
  refine z_iconst C (z := 0) rfl rfl rfl (fun x1 ex1 => ?_)
  have J2 : ∀ (nn3 : Nat) (I4 : IT) (L5 : LT) (x6 : Int32), ((20 - x6.toInt).toNat = nn3) → (IM R r0 I4) → (CM A R r0 [] [4, 5, 27, 28] I L I4 L5) → (∀ r : Nat, r ≠ 42 → I4 r0_4 r = I r0_4 r) → (∀ r : Nat, (r < 41 * 42 ∨ 41 * 42 + 41 ≤ r) → I4 r0_5 r = I r0_5 r) → (0 ≤ x6.toInt) → (x6.toInt ≤ 20) → (NXS w_r0_1_0.toInt w_r0_4_40.toInt (BNI w_r0_4_40.toInt) (RI I r0_5 40) n1.toNatClampNeg (QA1 x6.toInt)) → (SMR I I4 r0_5 40) → (x6.toInt ≤ w_r0_1_0.toInt + 1) → V 2 [(0, .ref r0), (1, .int n1), (2, .int x6)] [] (T, N, I4, L5, R) 0 0 := by
    intro nn3
    induction nn3 using Nat.strongRecOn with
    | _ nn3 ihJ2 =>
      intro I4 L5 x6 hmnn3 hI10 S9 F11 F12 b7 b8 ff2_0 ff2_1 ff2_2
      have gx6 := rg x6
      have e13 := (F11 40 (by first | decide | exact ncne (by omega) (by omega) (by omega) | exact nckn (by omega) (by omega) | exact (nckn (by omega) (by omega)).symm)).trans k0_r0_4_40
      have e14 := CM.j S9 R_r0_1 (by decide) k0_r0_1_0
      refine k_iload_n C rfl rfl rfl ?_
      refine k_aload_n C rfl rfl rfl ?_
      refine c_VI C (a_X12_p hI10 H_r0) rfl rfl rfl rfl rfl ⟨_, rfl, rfl, T_r0, Nat.le_of_ble_eq_true rfl⟩ rfl rfl (Nat.le_of_ble_eq_true rfl) (Nat.le_of_ble_eq_true rfl) (Nat.le_of_ble_eq_true rfl) ?_
      rintro x15 _ _ ⟨o0x15, o1x15, p0x15, rfl, rfl⟩
      have p0x15 := p0x15 r0_1 R_r0_1
      have gx15 := rg x15
      try simp only [e13, e14, e14] at p0x15
      try have q0x15 := congrArg Int32.toInt p0x15
      refine b_icmp_gt C (t := 120) rfl rfl rfl (fun c16 => ?_) (fun c16 => ?_)
      · skip
        refine z_iconst C (z := 0) rfl rfl rfl (fun x17 ex17 => ?_)
        exact k_iret C rfl (Or.inr ⟨rfl, z01 (by omega) (by omega)⟩) (Nat.le_of_ble_eq_true rfl) (Nat.le_of_ble_eq_true rfl) ⟨_, _, _, rfl, rfl, by omega, by omega, fun a1 a4 a5 a27 a28 h1 h4 h5 h27 h28 => by cases (R_r0_1.symm.trans h1); cases (R_r0_4.symm.trans h4); cases (R_r0_5.symm.trans h5); cases (R_r0_27.symm.trans h27); cases (R_r0_28.symm.trans h28); intro h; exfalso; omega, fun a1 a4 a5 h1 h4 h5 => by cases (R_r0_1.symm.trans h1); cases (R_r0_4.symm.trans h4); cases (R_r0_5.symm.trans h5); intro _; simp only [k0_r0_4_40, k0_r0_1_0]; exact ff2_0.e (by omega) (by omega), fun a4 h4 => by cases (R_r0_4.symm.trans h4); exact (fun r z0 => (F11 r z0)), fun a5 h5 => by cases (R_r0_5.symm.trans h5); exact (fun r z0 => (F12 r z0)), hI10, (CM.mono S9 (by decide) (by decide))⟩
      refine k_aload_n C rfl rfl rfl ?_
      refine g_R C rfl rfl rfl T_r0 rfl R_r0_27 ?_
      refine z_iconst C (z := 0) rfl rfl rfl (fun x18 ex18 => ?_)
      refine k_iload_n C rfl rfl rfl ?_
      obtain ⟨T_r0_27, N_r0_27, A_r0_27⟩ := id H_r0_27
      refine z_sI C rfl rfl T_r0_27 N_r0_27 (by omega) (by omega) (fun I19 uI19 => ?_)
      have uI19 : I19 = u2 I4 r0_27 0 (x6) := by rw [uI19, nck (n := 0) (by omega)]
      have hI19 : IM R r0 I19 := IM.arr hI10 G_r0 R_r0_27 ⟨(fun h => absurd h (by decide)), (fun _ => ⟨by omega, by omega⟩), (fun h => absurd h (by decide))⟩ (fun h => absurd h (by decide)) uI19
      have S20 : CM A R r0 [] [27] I4 L5 I19 L5 := CM.a G_r0 R_r0_27 A_r0_27 uI19
      have e21 := u2_n uI19 (mF.nq G_r0 R_r0_4 R_r0_27 (by decide)) e13
      have e22 := u2_n uI19 (mF.nq G_r0 R_r0_1 R_r0_27 (by decide)) e14
      have e23 := u2_e uI19
      have h5a : SMR I I19 r0_5 40 := fun k hk => by (rw [CM.j0 S20 R_r0_5 (by decide)]; exact ff2_1 k hk)
      have h26a := (CM.j0 (W := []) (WA := [4, 5, 27, 28]) (CM.cons S9 (CM.mono S20 (by decide) (by decide)) (by decide) (by decide)) R_r0_26 (by decide))
      refine k_iload_n C rfl rfl rfl ?_
      refine z_iconst C (z := 1) rfl rfl rfl (fun x24 ex24 => ?_)
      refine b_icmp_ne C (t := 32) rfl rfl rfl (fun c25 => ?_) (fun c25 => ?_)
      · skip
        refine k_iload_n C rfl rfl rfl ?_
        refine z_iconst C (z := 1) rfl rfl rfl (fun x26 ex26 => ?_)
        refine z_iadd C rfl rfl ⟨by omega, by omega⟩ (fun x27 ex27 => ?_)
        have J28 : ∀ (nn29 : Nat) (I30 : IT) (L31 : LT) (x32 : Int32) (x39 : Int32), ((20 - x32.toInt).toNat = nn29) → (IM R r0 I30) → (CM A R r0 [] [4, 5, 27, 28] I19 L5 I30 L31) → (∀ r : Nat, r ≠ 42 → I30 r0_4 r = I19 r0_4 r) → (∀ r : Nat, (r < 41 * 42 ∨ 41 * 42 + 41 ≤ r) → I30 r0_5 r = I19 r0_5 r) → (1 ≤ x32.toInt) → (x32.toInt ≤ 20) → (I30 r0_27 0 = x39) → (0 ≤ x39.toInt) → (x39.toInt ≤ 19) → (NXS w_r0_1_0.toInt w_r0_4_40.toInt (BNI w_r0_4_40.toInt) (RI I r0_5 40) n1.toNatClampNeg (QB1 x6.toInt x32.toInt)) → (SMR I I30 r0_5 40) → (x39.toInt = x6.toInt) → (x6.toInt < x32.toInt ∧ x32.toInt ≤ w_r0_1_0.toInt + 1) → (2 ≤ n1.toInt) → V 36 [(0, .ref r0), (1, .int n1), (2, .int x6), (3, .int x32)] [] (T, N, I30, L31, R) 0 0 := by
          intro nn29
          induction nn29 using Nat.strongRecOn with
          | _ nn29 ihJ28 =>
            intro I30 L31 x32 x39 hmnn29 hI36 S35 F37 F38 b33 b34 e40 b41 b42 ff36_0 ff36_1 ff36_2 ff36_3 ff36_4
            have gx32 := rg x32
            have gx39 := rg x39
            have e43 := (F37 40 (by first | decide | exact ncne (by omega) (by omega) (by omega) | exact nckn (by omega) (by omega) | exact (nckn (by omega) (by omega)).symm)).trans e21
            have e44 := CM.j S35 R_r0_1 (by decide) e22
            refine k_iload_n C rfl rfl rfl ?_
            refine k_aload_n C rfl rfl rfl ?_
            refine c_VI C (a_X12_p hI36 H_r0) rfl rfl rfl rfl rfl ⟨_, rfl, rfl, T_r0, Nat.le_of_ble_eq_true rfl⟩ rfl rfl (Nat.le_of_ble_eq_true rfl) (Nat.le_of_ble_eq_true rfl) (Nat.le_of_ble_eq_true rfl) ?_
            rintro x45 _ _ ⟨o0x45, o1x45, p0x45, rfl, rfl⟩
            have p0x45 := p0x45 r0_1 R_r0_1
            have gx45 := rg x45
            try simp only [e43, e44, e40, e44] at p0x45
            try have q0x45 := congrArg Int32.toInt p0x45
            refine b_icmp_gt C (t := 114) rfl rfl rfl (fun c46 => ?_) (fun c46 => ?_)
            · skip
              refine z_iinc C (z := 1) (lw := fun x47 => [(2, .int x47), (0, .ref r0), (1, .int n1), (3, .int x32)]) rfl rfl rfl (Nat.le_of_ble_eq_true rfl) rfl ⟨by omega, by omega⟩ (fun _ => rfl) (fun x47 ex47 => ?_)
              show V 117 [(2, .int x47), (0, .ref r0), (1, .int n1), (3, .int x32)] _ _ _ _
              refine k_goto C (pc2 := 2) rfl rfl ?_
              refine k_sub S [(0, .ref r0), (1, .int n1), (2, .int x47)] (List.forall_mem_cons.mpr ⟨List.mem_of_getElem? (i := 1) rfl, List.forall_mem_cons.mpr ⟨List.mem_of_getElem? (i := 2) rfl, List.forall_mem_cons.mpr ⟨List.mem_of_getElem? (i := 0) rfl, fun _ h => nomatch h⟩⟩⟩) ?_
              exact ihJ2 _ (by omega) I30 L31 x47 rfl hI36 (CM.cons S9 (CM.cons S20 (CM.mono S35 (by decide) (by decide)) (by decide) (by decide)) (by decide) (by decide)) (fun r z0 => ((F37 r z0).trans ((congrFun (CM.j0 S20 R_r0_4 (by decide)) r).trans (F11 r z0)))) (fun r z0 => ((F38 r z0).trans ((congrFun (CM.j0 S20 R_r0_5 (by decide)) r).trans (F12 r z0)))) (by omega) (by omega) (by first | exact NXS.a ff2_0 ((hn24 (by omega)).cg hFe24 (fun i hi => rfl) (fun i hi => rfl) rfl |> NOF.n1 (by omega)) (by omega) (by show (I30 r0_27 0).toInt = _; rw [e40]; omega) (by omega) | exact NXS.ba ff36_0 (by omega) (by omega) (by omega)) (by first | exact h5n24 | exact ff36_1) (by omega)
            refine k_aload_n C rfl rfl rfl ?_
            refine g_R C rfl rfl rfl T_r0 rfl R_r0_27 ?_
            refine z_iconst C (z := 1) rfl rfl rfl (fun x48 ex48 => ?_)
            refine k_iload_n C rfl rfl rfl ?_
            refine z_sI C rfl rfl T_r0_27 N_r0_27 (by omega) (by omega) (fun I49 uI49 => ?_)
            have uI49 : I49 = u2 I30 r0_27 1 (x32) := by rw [uI49, nck (n := 1) (by omega)]
            have hI49 : IM R r0 I49 := IM.arr hI36 G_r0 R_r0_27 ⟨(fun h => absurd h (by decide)), (fun _ => ⟨by omega, by omega⟩), (fun h => absurd h (by decide))⟩ (fun h => absurd h (by decide)) uI49
            have S50 : CM A R r0 [] [27] I30 L31 I49 L31 := CM.a G_r0 R_r0_27 A_r0_27 uI49
            have e51 := u2_n uI49 (mF.nq G_r0 R_r0_4 R_r0_27 (by decide)) e43
            have e52 := u2_n uI49 (mF.nq G_r0 R_r0_1 R_r0_27 (by decide)) e44
            have e53 := u2_j uI49 (by first | decide | exact ncne (by omega) (by omega) (by omega) | exact nckn (by omega) (by omega) | exact (nckn (by omega) (by omega)).symm) e40
            have e54 := u2_e uI49
            have h5c : SMR I I49 r0_5 40 := fun k hk => by (rw [CM.j0 S50 R_r0_5 (by decide)]; exact ff36_1 k hk)
            have h26c := (CM.j0 (W := []) (WA := [4, 5, 27, 28]) (CM.cons S9 (CM.cons S20 (CM.cons S35 (CM.mono S50 (by decide) (by decide)) (by decide) (by decide)) (by decide) (by decide)) (by decide) (by decide)) R_r0_26 (by decide))
            refine k_iload_n C rfl rfl rfl ?_
            refine z_iconst C (z := 2) rfl rfl rfl (fun x55 ex55 => ?_)
            refine b_icmp_ne C (t := 66) rfl rfl rfl (fun c56 => ?_) (fun c56 => ?_)
            · skip
              refine k_iload_n C rfl rfl rfl ?_
              refine z_iconst C (z := 1) rfl rfl rfl (fun x57 ex57 => ?_)
              refine z_iadd C rfl rfl ⟨by omega, by omega⟩ (fun x58 ex58 => ?_)
              have J59 : ∀ (nn60 : Nat) (I61 : IT) (L62 : LT) (x63 : Int32) (x70 : Int32) (x74 : Int32), ((20 - x63.toInt).toNat = nn60) → (IM R r0 I61) → (CM A R r0 [] [4, 5, 27, 28] I49 L31 I61 L62) → (∀ r : Nat, r ≠ 42 → I61 r0_4 r = I49 r0_4 r) → (∀ r : Nat, (r < 41 * 42 ∨ 41 * 42 + 41 ≤ r) → I61 r0_5 r = I49 r0_5 r) → (2 ≤ x63.toInt) → (x63.toInt ≤ 20) → (I61 r0_27 0 = x70) → (0 ≤ x70.toInt) → (x70.toInt ≤ 19) → (I61 r0_27 1 = x74) → (0 ≤ x74.toInt) → (x74.toInt ≤ 19) → (PPH n1.toInt (NXS w_r0_1_0.toInt w_r0_4_40.toInt (BNI w_r0_4_40.toInt) (RI I r0_5 40) n1.toNatClampNeg (QC1 x6.toInt x32.toInt x63.toInt)) (NXS w_r0_1_0.toInt w_r0_4_40.toInt (BNI w_r0_4_40.toInt) (RI I r0_5 40) n1.toNatClampNeg (QB1 x6.toInt (x32.toInt + 1)))) → (SMR I I61 r0_5 40) → (x70.toInt = x6.toInt) → (x74.toInt = x32.toInt) → (x32.toInt < x63.toInt ∧ x63.toInt ≤ w_r0_1_0.toInt + 1) → (2 ≤ n1.toInt) → V 71 [(0, .ref r0), (1, .int n1), (2, .int x6), (3, .int x32), (4, .int x63)] [] (T, N, I61, L62, R) 0 0 := by
                intro nn60
                induction nn60 using Nat.strongRecOn with
                | _ nn60 ihJ59 =>
                  intro I61 L62 x63 x70 x74 hmnn60 hI67 S66 F68 F69 b64 b65 e71 b72 b73 e75 b76 b77 ff71_0 ff71_1 ff71_2 ff71_3 ff71_4 ff71_5
                  have gx63 := rg x63
                  have gx70 := rg x70
                  have gx74 := rg x74
                  have e78 := (F68 40 (by first | decide | exact ncne (by omega) (by omega) (by omega) | exact nckn (by omega) (by omega) | exact (nckn (by omega) (by omega)).symm)).trans e51
                  have e79 := CM.j S66 R_r0_1 (by decide) e52
                  refine k_iload C rfl rfl rfl ?_
                  refine k_aload_n C rfl rfl rfl ?_
                  refine c_VI C (a_X12_p hI67 H_r0) rfl rfl rfl rfl rfl ⟨_, rfl, rfl, T_r0, Nat.le_of_ble_eq_true rfl⟩ rfl rfl (Nat.le_of_ble_eq_true rfl) (Nat.le_of_ble_eq_true rfl) (Nat.le_of_ble_eq_true rfl) ?_
                  rintro x80 _ _ ⟨o0x80, o1x80, p0x80, rfl, rfl⟩
                  have p0x80 := p0x80 r0_1 R_r0_1
                  have gx80 := rg x80
                  try simp only [e78, e79, e71, e75, e79] at p0x80
                  try have q0x80 := congrArg Int32.toInt p0x80
                  refine b_icmp_gt C (t := 108) rfl rfl rfl (fun c81 => ?_) (fun c81 => ?_)
                  · skip
                    refine z_iinc C (z := 1) (lw := fun x82 => [(3, .int x82), (0, .ref r0), (1, .int n1), (2, .int x6), (4, .int x63)]) rfl rfl rfl (Nat.le_of_ble_eq_true rfl) rfl ⟨by omega, by omega⟩ (fun _ => rfl) (fun x82 ex82 => ?_)
                    show V 111 [(3, .int x82), (0, .ref r0), (1, .int n1), (2, .int x6), (4, .int x63)] _ _ _ _
                    refine k_goto C (pc2 := 36) rfl rfl ?_
                    refine k_sub S [(0, .ref r0), (1, .int n1), (2, .int x6), (3, .int x82)] (List.forall_mem_cons.mpr ⟨List.mem_of_getElem? (i := 1) rfl, List.forall_mem_cons.mpr ⟨List.mem_of_getElem? (i := 2) rfl, List.forall_mem_cons.mpr ⟨List.mem_of_getElem? (i := 3) rfl, List.forall_mem_cons.mpr ⟨List.mem_of_getElem? (i := 0) rfl, fun _ h => nomatch h⟩⟩⟩⟩) ?_
                    exact ihJ28 _ (by omega) I61 L62 x82 x70 rfl hI67 (CM.cons S35 (CM.cons S50 (CM.mono S66 (by decide) (by decide)) (by decide) (by decide)) (by decide) (by decide)) (fun r z0 => ((F68 r z0).trans ((congrFun (CM.j0 S50 R_r0_4 (by decide)) r).trans (F37 r z0)))) (fun r z0 => ((F69 r z0).trans ((congrFun (CM.j0 S50 R_r0_5 (by decide)) r).trans (F38 r z0)))) (by omega) (by omega) e71 (by omega) (by omega) (by first | exact NXS.cb (ff71_0.1 (by omega)) (by omega) (by omega) (by omega) | exact NXS.bx (ff71_0.2 (by omega)) (by omega) | (exfalso; omega)) (by exact ff71_1) (by omega) (by omega) (by omega)
                  refine k_iload_n C rfl rfl rfl ?_
                  refine z_iconst C (z := 3) rfl rfl rfl (fun x83 ex83 => ?_)
                  refine b_icmp_ne C (t := 108) rfl rfl rfl (fun c84 => by exfalso; omega) (fun c84 => ?_)
                  refine k_aload_n C rfl rfl rfl ?_
                  refine g_R C rfl rfl rfl T_r0 rfl R_r0_27 ?_
                  refine z_iconst C (z := 2) rfl rfl rfl (fun x85 ex85 => ?_)
                  refine k_iload C rfl rfl rfl ?_
                  refine z_sI C rfl rfl T_r0_27 N_r0_27 (by omega) (by omega) (fun I86 uI86 => ?_)
                  have uI86 : I86 = u2 I61 r0_27 2 (x63) := by rw [uI86, nck (n := 2) (by omega)]
                  have hI86 : IM R r0 I86 := IM.arr hI67 G_r0 R_r0_27 ⟨(fun h => absurd h (by decide)), (fun _ => ⟨by omega, by omega⟩), (fun h => absurd h (by decide))⟩ (fun h => absurd h (by decide)) uI86
                  have S87 : CM A R r0 [] [27] I61 L62 I86 L62 := CM.a G_r0 R_r0_27 A_r0_27 uI86
                  have e88 := u2_n uI86 (mF.nq G_r0 R_r0_4 R_r0_27 (by decide)) e78
                  have e89 := u2_n uI86 (mF.nq G_r0 R_r0_1 R_r0_27 (by decide)) e79
                  have e90 := u2_j uI86 (by first | decide | exact ncne (by omega) (by omega) (by omega) | exact nckn (by omega) (by omega) | exact (nckn (by omega) (by omega)).symm) e71
                  have e91 := u2_j uI86 (by first | decide | exact ncne (by omega) (by omega) (by omega) | exact nckn (by omega) (by omega) | exact (nckn (by omega) (by omega)).symm) e75
                  have e92 := u2_e uI86
                  have h5d : SMR I I86 r0_5 40 := fun k hk => by (rw [CM.j0 S87 R_r0_5 (by decide)]; exact ff71_1 k hk)
                  have h26d := (CM.j0 (W := []) (WA := [4, 5, 27, 28]) (CM.cons S9 (CM.cons S20 (CM.cons S35 (CM.cons S50 (CM.cons S66 (CM.mono S87 (by decide) (by decide)) (by decide) (by decide)) (by decide) (by decide)) (by decide) (by decide)) (by decide) (by decide)) (by decide) (by decide)) R_r0_26 (by decide))
                  refine k_aload_n C rfl rfl rfl ?_
                  refine c_VI C (a_X12_isTriple_x hI86 H_r0 (fun a4 h4 => by cases (R_r0_4.symm.trans h4); (by rw [e88]; omega)) (fun a4 h4 => by cases (R_r0_4.symm.trans h4); (by rw [e88]; omega)) (fun a1 a4 a5 h1 h4 h5 => by cases (R_r0_1.symm.trans h1); cases (R_r0_4.symm.trans h4); cases (R_r0_5.symm.trans h5); (by rw [e88, e89]; exact RCN.sm hp2 h5d rfl (by omega))) (fun a1 a4 a26 h1 h4 h26 => by cases (R_r0_1.symm.trans h1); cases (R_r0_4.symm.trans h4); cases (R_r0_26.symm.trans h26); (by rw [e88, e89, h26d]; exact hp3)) (fun a1 a27 h1 h27 => by cases (R_r0_1.symm.trans h1); cases (R_r0_27.symm.trans h27); (by rw [e89]; intro i hi; rcases (show i = 0 ∨ i = 1 ∨ i = 2 by omega) with e9 | e9 | e9 <;> rw [e9]; · (show 0 ≤ (I86 r0_27 0).toInt ∧ (I86 r0_27 0).toInt ≤ _; rw [e90]; omega); · (show 0 ≤ (I86 r0_27 1).toInt ∧ (I86 r0_27 1).toInt ≤ _; rw [e91]; omega); · (show 0 ≤ (I86 r0_27 2).toInt ∧ (I86 r0_27 2).toInt ≤ _; rw [e92]; omega)))) rfl rfl rfl rfl rfl ⟨_, rfl, rfl, T_r0, Nat.le_of_ble_eq_true rfl⟩ rfl rfl (Nat.le_of_ble_eq_true rfl) (Nat.le_of_ble_eq_true rfl) (Nat.le_of_ble_eq_true rfl) ?_
                  rintro x93 I94 L95 ⟨o0x93, o1x93, p0x93, p1x93, p2x93, p3x93, hI94, S96⟩
                  have p0x93 := p0x93 r0_1 r0_4 r0_5 r0_27 r0_28 R_r0_1 R_r0_4 R_r0_5 R_r0_27 R_r0_28
                  have p1x93 := p1x93 r0_1 r0_4 r0_5 r0_27 r0_28 R_r0_1 R_r0_4 R_r0_5 R_r0_27 R_r0_28
                  have p2x93 := p2x93 r0_4 R_r0_4
                  have p3x93 := p3x93 r0_5 R_r0_5
                  have F97 : ∀ r : Nat, r ≠ 42 → I94 r0_4 r = I86 r0_4 r := fun r z0 => p2x93 r (by first | exact z0)
                  have F98 : ∀ r : Nat, (r < 41 * 42 ∨ 41 * 42 + 41 ≤ r) → I94 r0_5 r = I86 r0_5 r := fun r z0 => p3x93 r (by first | exact z0)
                  have e99 := (p2x93 40 (by first | decide | exact ncne (by omega) (by omega) (by omega) | exact nckn (by omega) (by omega) | exact (nckn (by omega) (by omega)).symm)).trans e88
                  have e100 := CM.j S96 R_r0_1 (by decide) e89
                  have e101 := CM.j S96 R_r0_27 (by decide) e90
                  have e102 := CM.j S96 R_r0_27 (by decide) e91
                  have e103 := CM.j S96 R_r0_27 (by decide) e92
                  have gx93 := rg x93
                  try simp only [e88, e89, e90, e91, e92] at p0x93
                  try have q0x93 := congrArg Int32.toInt p0x93
                  try simp only [e88, e89, e90, e91, e92] at p1x93
                  try have q1x93 := congrArg Int32.toInt p1x93
                  have hy94 := p0x93
                  have hn94 := p1x93
                  have h2794 := NF.e (CM.j0 S96 R_r0_27 (by decide))
                  (try rw [← h2794] at hy94)
                  (try rw [← h2794] at hn94)
                  have h5b94 := p3x93
                  have hFe94 : ∀ k : Nat, (k : Int) ≤ w_r0_4_40.toInt → RI _ r0_5 40 k = (RI I r0_5 40) k := fun k hk => RI.s h5d (by omega)
                  have h5n94 : SMR I I94 r0_5 40 := fun k hk => (h5b94 _ (by omega)).trans (h5d k hk)
                  refine b_if_eq C (t := 102) rfl rfl rfl (fun c104 => ?_) (fun c104 => ?_)
                  · skip
                    refine z_iinc C (z := 1) (lw := fun x105 => [(4, .int x105), (0, .ref r0), (1, .int n1), (2, .int x6), (3, .int x32)]) rfl rfl rfl (Nat.le_of_ble_eq_true rfl) rfl ⟨by omega, by omega⟩ (fun _ => rfl) (fun x105 ex105 => ?_)
                    show V 105 [(4, .int x105), (0, .ref r0), (1, .int n1), (2, .int x6), (3, .int x32)] _ _ _ _
                    refine k_goto C (pc2 := 71) rfl rfl ?_
                    refine k_sub S [(0, .ref r0), (1, .int n1), (2, .int x6), (3, .int x32), (4, .int x105)] (List.forall_mem_cons.mpr ⟨List.mem_of_getElem? (i := 1) rfl, List.forall_mem_cons.mpr ⟨List.mem_of_getElem? (i := 2) rfl, List.forall_mem_cons.mpr ⟨List.mem_of_getElem? (i := 3) rfl, List.forall_mem_cons.mpr ⟨List.mem_of_getElem? (i := 4) rfl, List.forall_mem_cons.mpr ⟨List.mem_of_getElem? (i := 0) rfl, fun _ h => nomatch h⟩⟩⟩⟩⟩) ?_
                    exact ihJ59 _ (by omega) I94 L95 x105 x70 x74 rfl hI94 (CM.cons S66 (CM.cons S87 (CM.mono S96 (by decide) (by decide)) (by decide) (by decide)) (by decide) (by decide)) (fun r z0 => ((F97 r z0).trans ((congrFun (CM.j0 S87 R_r0_4 (by decide)) r).trans (F68 r z0)))) (fun r z0 => ((F98 r z0).trans ((congrFun (CM.j0 S87 R_r0_5 (by decide)) r).trans (F69 r z0)))) (by omega) (by omega) e101 (by omega) (by omega) e102 (by omega) (by omega) (by exact PPH.z (fun h9 => NXS.c (ff71_0.1 h9) (((hn94 (by omega)).cg hFe94 (fun i hi => rfl) (fun i hi => rfl) rfl) |> NOF.n3 (by omega)) (by omega) (by show (I94 r0_27 0).toInt = _; rw [e101]; omega) (by show (I94 r0_27 1).toInt = _; rw [e102]; omega) (by show (I94 r0_27 2).toInt = _; rw [e103]; omega) (by omega)) (fun h9 => by exfalso; omega)) (by exact h5n94) (by omega) (by omega) (by omega) (by omega)
                  refine z_iconst C (z := 1) rfl rfl rfl (fun x106 ex106 => ?_)
                  exact k_iret C rfl (Or.inr ⟨rfl, z01 (by omega) (by omega)⟩) (Nat.le_of_ble_eq_true rfl) (Nat.le_of_ble_eq_true rfl) ⟨_, _, _, rfl, rfl, by omega, by omega, fun a1 a4 a5 a27 a28 h1 h4 h5 h27 h28 => by cases (R_r0_1.symm.trans h1); cases (R_r0_4.symm.trans h4); cases (R_r0_5.symm.trans h5); cases (R_r0_27.symm.trans h27); cases (R_r0_28.symm.trans h28); intro _; simp only [k0_r0_4_40, k0_r0_1_0]; obtain ⟨h7, h8⟩ := hy94 (by omega); exact NXS.y3 (ff71_0.1 (by omega)) (by omega) (by show (I94 r0_27 0).toInt = _; rw [e101]; omega) (by show (I94 r0_27 1).toInt = _; rw [e102]; omega) (by show (I94 r0_27 2).toInt = _; rw [e103]; omega) (by omega) (by omega) (fun i hi => h7 i (by omega)) ((h8.fc hFe94) |> SPF.n1 (by omega)), fun a1 a4 a5 h1 h4 h5 => by cases (R_r0_1.symm.trans h1); cases (R_r0_4.symm.trans h4); cases (R_r0_5.symm.trans h5); intro h; exfalso; omega, fun a4 h4 => by cases (R_r0_4.symm.trans h4); exact (fun r z0 => ((F97 r z0).trans ((congrFun (CM.j0 S87 R_r0_4 (by decide)) r).trans ((F68 r z0).trans ((congrFun (CM.j0 S50 R_r0_4 (by decide)) r).trans ((F37 r z0).trans ((congrFun (CM.j0 S20 R_r0_4 (by decide)) r).trans (F11 r z0)))))))), fun a5 h5 => by cases (R_r0_5.symm.trans h5); exact (fun r z0 => ((F98 r z0).trans ((congrFun (CM.j0 S87 R_r0_5 (by decide)) r).trans ((F69 r z0).trans ((congrFun (CM.j0 S50 R_r0_5 (by decide)) r).trans ((F38 r z0).trans ((congrFun (CM.j0 S20 R_r0_5 (by decide)) r).trans (F12 r z0)))))))), hI94, (CM.cons S9 (CM.cons S20 (CM.cons S35 (CM.cons S50 (CM.cons S66 (CM.cons S87 (CM.mono S96 (by decide) (by decide)) (by decide) (by decide)) (by decide) (by decide)) (by decide) (by decide)) (by decide) (by decide)) (by decide) (by decide)) (by decide) (by decide))⟩
              refine k_istore C (lw := [(4, .int x58), (0, .ref r0), (1, .int n1), (2, .int x6), (3, .int x32)]) rfl rfl (Nat.le_of_ble_eq_true rfl) rfl ?_
              refine k_sub S [(0, .ref r0), (1, .int n1), (2, .int x6), (3, .int x32), (4, .int x58)] (List.forall_mem_cons.mpr ⟨List.mem_of_getElem? (i := 1) rfl, List.forall_mem_cons.mpr ⟨List.mem_of_getElem? (i := 2) rfl, List.forall_mem_cons.mpr ⟨List.mem_of_getElem? (i := 3) rfl, List.forall_mem_cons.mpr ⟨List.mem_of_getElem? (i := 4) rfl, List.forall_mem_cons.mpr ⟨List.mem_of_getElem? (i := 0) rfl, fun _ h => nomatch h⟩⟩⟩⟩⟩) ?_
              exact J59 _ I49 L31 x58 x39 x32 rfl hI49 CM.rf (fun r z0 => rfl) (fun r z0 => rfl) (by omega) (by omega) e53 (by omega) (by omega) e54 (by omega) (by omega) (by first | exact PPH.z (fun h9 => NXS.bc ff36_0 (by omega) (by omega)) (fun h9 => NXS.b ff36_0 (((hn58 (by omega)).cg hFe58 (fun i hi => rfl) (fun i hi => rfl) rfl) |> NOF.n2 (by omega) (by omega)) (by omega) (by show (I49 r0_27 0).toInt = _; rw [e53]; omega) (by show (I49 r0_27 1).toInt = _; rw [e54]; omega) rfl) | exact PPH.z (fun h9 => NXS.bc ff36_0 (by omega) (by omega)) (fun h9 => by exfalso; omega)) (by first | exact h5n58 | exact h5c) (by omega) (by omega) (by omega) (by omega)
            refine k_aload_n C rfl rfl rfl ?_
            refine z_iconst C (z := 1) rfl rfl rfl (fun x107 ex107 => ?_)
            have q108 : x107.toNatClampNeg = 1 := nck (by omega)
            refine c_VI C (a_X12_isPair_x hI49 H_r0 (by omega) (by omega) (fun a4 h4 => by cases (R_r0_4.symm.trans h4); (by rw [e51]; omega)) (fun a4 h4 => by cases (R_r0_4.symm.trans h4); (by rw [e51]; omega)) (fun a1 a4 a5 h1 h4 h5 => by cases (R_r0_1.symm.trans h1); cases (R_r0_4.symm.trans h4); cases (R_r0_5.symm.trans h5); (by rw [e51, e52]; exact RCN.sm hp2 h5c rfl (by omega))) (fun a1 a4 a26 h1 h4 h26 => by cases (R_r0_1.symm.trans h1); cases (R_r0_4.symm.trans h4); cases (R_r0_26.symm.trans h26); (by rw [e51, e52, h26c]; exact hp3)) (fun a1 a27 h1 h27 => by cases (R_r0_1.symm.trans h1); cases (R_r0_27.symm.trans h27); (by rw [e52]; intro i hi; rcases (show i = 0 ∨ i = 1 by omega) with e9 | e9 <;> rw [e9]; · (show 0 ≤ (I49 r0_27 0).toInt ∧ (I49 r0_27 0).toInt ≤ _; rw [e53]; omega); · (show 0 ≤ (I49 r0_27 1).toInt ∧ (I49 r0_27 1).toInt ≤ _; rw [e54]; omega))) (fun a28 h28 => by cases (R_r0_28.symm.trans h28); (by intro i hi; omega))) rfl rfl rfl rfl rfl ⟨_, rfl, rfl, T_r0, Nat.le_of_ble_eq_true rfl⟩ rfl rfl (Nat.le_of_ble_eq_true rfl) (Nat.le_of_ble_eq_true rfl) (Nat.le_of_ble_eq_true rfl) ?_
            rintro x109 I110 L111 ⟨o0x109, o1x109, p0x109, p1x109, p2x109, p3x109, p4x109, hI110, S112⟩
            have p0x109 := p0x109 r0_1 r0_4 r0_5 r0_27 r0_28 R_r0_1 R_r0_4 R_r0_5 R_r0_27 R_r0_28
            have p1x109 := p1x109 r0_1 r0_4 r0_5 r0_27 r0_28 R_r0_1 R_r0_4 R_r0_5 R_r0_27 R_r0_28
            have p2x109 := p2x109 r0_28 R_r0_28
            have p3x109 := p3x109 r0_4 R_r0_4
            have p4x109 := p4x109 r0_5 R_r0_5
            try simp only [q108] at p3x109
            have F113 : ∀ r : Nat, r ≠ 42 → I110 r0_4 r = I49 r0_4 r := fun r z0 => p3x109 r (by first | exact z0)
            try simp only [q108] at p4x109
            have F114 : ∀ r : Nat, (r < 41 * 42 ∨ 41 * 42 + 41 ≤ r) → I110 r0_5 r = I49 r0_5 r := fun r z0 => p4x109 r (by first | exact z0)
            have e115 := (p3x109 40 (by first | decide | exact ncne (by omega) (by omega) (by omega) | exact nckn (by omega) (by omega) | exact (nckn (by omega) (by omega)).symm)).trans e51
            have e116 := CM.j S112 R_r0_1 (by decide) e52
            have e117 := CM.j S112 R_r0_27 (by decide) e53
            have e118 := CM.j S112 R_r0_27 (by decide) e54
            have gx109 := rg x109
            try simp only [q108, e51, e52, e53, e54] at p0x109
            try have q0x109 := congrArg Int32.toInt p0x109
            try simp only [q108, e51, e52, e53, e54] at p1x109
            try have q1x109 := congrArg Int32.toInt p1x109
            try simp only [q108, e51, e52, e53, e54] at p2x109
            try have q2x109 := congrArg Int32.toInt p2x109
            have hy58 := p0x109
            have hn58 := p1x109
            have h2758 := NF.e (CM.j0 S112 R_r0_27 (by decide))
            (try rw [← h2758] at hy58)
            (try rw [← h2758] at hn58)
            have h5b58 := p4x109
            have hFe58 : ∀ k : Nat, (k : Int) ≤ w_r0_4_40.toInt → RI _ r0_5 40 k = (RI I r0_5 40) k := fun k hk => RI.s h5c (by omega)
            have h5n58 : SMR I I110 r0_5 40 := fun k hk => (h5b58 _ (by omega)).trans (h5c k hk)
            refine b_if_eq C (t := 66) rfl rfl rfl (fun c119 => ?_) (fun c119 => ?_)
            · skip
              refine k_iload_n C rfl rfl rfl ?_
              refine z_iconst C (z := 1) rfl rfl rfl (fun x120 ex120 => ?_)
              refine z_iadd C rfl rfl ⟨by omega, by omega⟩ (fun x121 ex121 => ?_)
              have J122 : ∀ (nn123 : Nat) (I124 : IT) (L125 : LT) (x126 : Int32) (x133 : Int32) (x137 : Int32), ((20 - x126.toInt).toNat = nn123) → (IM R r0 I124) → (CM A R r0 [] [4, 5, 27, 28] I110 L111 I124 L125) → (∀ r : Nat, r ≠ 42 → I124 r0_4 r = I110 r0_4 r) → (∀ r : Nat, (r < 41 * 42 ∨ 41 * 42 + 41 ≤ r) → I124 r0_5 r = I110 r0_5 r) → (2 ≤ x126.toInt) → (x126.toInt ≤ 20) → (I124 r0_27 0 = x133) → (0 ≤ x133.toInt) → (x133.toInt ≤ 19) → (I124 r0_27 1 = x137) → (0 ≤ x137.toInt) → (x137.toInt ≤ 19) → (PPH n1.toInt (NXS w_r0_1_0.toInt w_r0_4_40.toInt (BNI w_r0_4_40.toInt) (RI I r0_5 40) n1.toNatClampNeg (QC1 x6.toInt x32.toInt x126.toInt)) (NXS w_r0_1_0.toInt w_r0_4_40.toInt (BNI w_r0_4_40.toInt) (RI I r0_5 40) n1.toNatClampNeg (QB1 x6.toInt (x32.toInt + 1)))) → (SMR I I124 r0_5 40) → (x133.toInt = x6.toInt) → (x137.toInt = x32.toInt) → (x32.toInt < x126.toInt ∧ x126.toInt ≤ w_r0_1_0.toInt + 1) → (2 ≤ n1.toInt) → V 71 [(0, .ref r0), (1, .int n1), (2, .int x6), (3, .int x32), (4, .int x126)] [] (T, N, I124, L125, R) 0 0 := by
                intro nn123
                induction nn123 using Nat.strongRecOn with
                | _ nn123 ihJ122 =>
                  intro I124 L125 x126 x133 x137 hmnn123 hI130 S129 F131 F132 b127 b128 e134 b135 b136 e138 b139 b140 ff71_0 ff71_1 ff71_2 ff71_3 ff71_4 ff71_5
                  have gx126 := rg x126
                  have gx133 := rg x133
                  have gx137 := rg x137
                  have e141 := (F131 40 (by first | decide | exact ncne (by omega) (by omega) (by omega) | exact nckn (by omega) (by omega) | exact (nckn (by omega) (by omega)).symm)).trans e115
                  have e142 := CM.j S129 R_r0_1 (by decide) e116
                  refine k_iload C rfl rfl rfl ?_
                  refine k_aload_n C rfl rfl rfl ?_
                  refine c_VI C (a_X12_p hI130 H_r0) rfl rfl rfl rfl rfl ⟨_, rfl, rfl, T_r0, Nat.le_of_ble_eq_true rfl⟩ rfl rfl (Nat.le_of_ble_eq_true rfl) (Nat.le_of_ble_eq_true rfl) (Nat.le_of_ble_eq_true rfl) ?_
                  rintro x143 _ _ ⟨o0x143, o1x143, p0x143, rfl, rfl⟩
                  have p0x143 := p0x143 r0_1 R_r0_1
                  have gx143 := rg x143
                  try simp only [e141, e142, e134, e138, e142] at p0x143
                  try have q0x143 := congrArg Int32.toInt p0x143
                  refine b_icmp_gt C (t := 108) rfl rfl rfl (fun c144 => ?_) (fun c144 => ?_)
                  · skip
                    refine z_iinc C (z := 1) (lw := fun x145 => [(3, .int x145), (0, .ref r0), (1, .int n1), (2, .int x6), (4, .int x126)]) rfl rfl rfl (Nat.le_of_ble_eq_true rfl) rfl ⟨by omega, by omega⟩ (fun _ => rfl) (fun x145 ex145 => ?_)
                    show V 111 [(3, .int x145), (0, .ref r0), (1, .int n1), (2, .int x6), (4, .int x126)] _ _ _ _
                    refine k_goto C (pc2 := 36) rfl rfl ?_
                    refine k_sub S [(0, .ref r0), (1, .int n1), (2, .int x6), (3, .int x145)] (List.forall_mem_cons.mpr ⟨List.mem_of_getElem? (i := 1) rfl, List.forall_mem_cons.mpr ⟨List.mem_of_getElem? (i := 2) rfl, List.forall_mem_cons.mpr ⟨List.mem_of_getElem? (i := 3) rfl, List.forall_mem_cons.mpr ⟨List.mem_of_getElem? (i := 0) rfl, fun _ h => nomatch h⟩⟩⟩⟩) ?_
                    exact ihJ28 _ (by omega) I124 L125 x145 x133 rfl hI130 (CM.cons S35 (CM.cons S50 (CM.cons S112 (CM.mono S129 (by decide) (by decide)) (by decide) (by decide)) (by decide) (by decide)) (by decide) (by decide)) (fun r z0 => ((F131 r z0).trans ((F113 r z0).trans ((congrFun (CM.j0 S50 R_r0_4 (by decide)) r).trans (F37 r z0))))) (fun r z0 => ((F132 r z0).trans ((F114 r z0).trans ((congrFun (CM.j0 S50 R_r0_5 (by decide)) r).trans (F38 r z0))))) (by omega) (by omega) e134 (by omega) (by omega) (by first | exact NXS.cb (ff71_0.1 (by omega)) (by omega) (by omega) (by omega) | exact NXS.bx (ff71_0.2 (by omega)) (by omega) | (exfalso; omega)) (by exact ff71_1) (by omega) (by omega) (by omega)
                  refine k_iload_n C rfl rfl rfl ?_
                  refine z_iconst C (z := 3) rfl rfl rfl (fun x146 ex146 => ?_)
                  refine b_icmp_ne C (t := 108) rfl rfl rfl (fun c147 => ?_) (fun c147 => by exfalso; omega)
                  refine z_iinc C (z := 1) (lw := fun x148 => [(3, .int x148), (0, .ref r0), (1, .int n1), (2, .int x6), (4, .int x126)]) rfl rfl rfl (Nat.le_of_ble_eq_true rfl) rfl ⟨by omega, by omega⟩ (fun _ => rfl) (fun x148 ex148 => ?_)
                  show V 111 [(3, .int x148), (0, .ref r0), (1, .int n1), (2, .int x6), (4, .int x126)] _ _ _ _
                  refine k_goto C (pc2 := 36) rfl rfl ?_
                  refine k_sub S [(0, .ref r0), (1, .int n1), (2, .int x6), (3, .int x148)] (List.forall_mem_cons.mpr ⟨List.mem_of_getElem? (i := 1) rfl, List.forall_mem_cons.mpr ⟨List.mem_of_getElem? (i := 2) rfl, List.forall_mem_cons.mpr ⟨List.mem_of_getElem? (i := 3) rfl, List.forall_mem_cons.mpr ⟨List.mem_of_getElem? (i := 0) rfl, fun _ h => nomatch h⟩⟩⟩⟩) ?_
                  exact ihJ28 _ (by omega) I124 L125 x148 x133 rfl hI130 (CM.cons S35 (CM.cons S50 (CM.cons S112 (CM.mono S129 (by decide) (by decide)) (by decide) (by decide)) (by decide) (by decide)) (by decide) (by decide)) (fun r z0 => ((F131 r z0).trans ((F113 r z0).trans ((congrFun (CM.j0 S50 R_r0_4 (by decide)) r).trans (F37 r z0))))) (fun r z0 => ((F132 r z0).trans ((F114 r z0).trans ((congrFun (CM.j0 S50 R_r0_5 (by decide)) r).trans (F38 r z0))))) (by omega) (by omega) e134 (by omega) (by omega) (by first | exact NXS.cb (ff71_0.1 (by omega)) (by omega) (by omega) (by omega) | exact NXS.bx (ff71_0.2 (by omega)) (by omega) | (exfalso; omega)) (by exact ff71_1) (by omega) (by omega) (by omega)
              refine k_istore C (lw := [(4, .int x121), (0, .ref r0), (1, .int n1), (2, .int x6), (3, .int x32)]) rfl rfl (Nat.le_of_ble_eq_true rfl) rfl ?_
              refine k_sub S [(0, .ref r0), (1, .int n1), (2, .int x6), (3, .int x32), (4, .int x121)] (List.forall_mem_cons.mpr ⟨List.mem_of_getElem? (i := 1) rfl, List.forall_mem_cons.mpr ⟨List.mem_of_getElem? (i := 2) rfl, List.forall_mem_cons.mpr ⟨List.mem_of_getElem? (i := 3) rfl, List.forall_mem_cons.mpr ⟨List.mem_of_getElem? (i := 4) rfl, List.forall_mem_cons.mpr ⟨List.mem_of_getElem? (i := 0) rfl, fun _ h => nomatch h⟩⟩⟩⟩⟩) ?_
              exact J122 _ I110 L111 x121 x39 x32 rfl hI110 CM.rf (fun r z0 => rfl) (fun r z0 => rfl) (by omega) (by omega) e117 (by omega) (by omega) e118 (by omega) (by omega) (by first | exact PPH.z (fun h9 => NXS.bc ff36_0 (by omega) (by omega)) (fun h9 => NXS.b ff36_0 (((hn58 (by omega)).cg hFe58 (fun i hi => rfl) (fun i hi => rfl) rfl) |> NOF.n2 (by omega) (by omega)) (by omega) (by show (I110 r0_27 0).toInt = _; rw [e117]; omega) (by show (I110 r0_27 1).toInt = _; rw [e118]; omega) rfl) | exact PPH.z (fun h9 => NXS.bc ff36_0 (by omega) (by omega)) (fun h9 => by exfalso; omega)) (by first | exact h5n58 | exact h5c) (by omega) (by omega) (by omega) (by omega)
            refine z_iconst C (z := 1) rfl rfl rfl (fun x149 ex149 => ?_)
            exact k_iret C rfl (Or.inr ⟨rfl, z01 (by omega) (by omega)⟩) (Nat.le_of_ble_eq_true rfl) (Nat.le_of_ble_eq_true rfl) ⟨_, _, _, rfl, rfl, by omega, by omega, fun a1 a4 a5 a27 a28 h1 h4 h5 h27 h28 => by cases (R_r0_1.symm.trans h1); cases (R_r0_4.symm.trans h4); cases (R_r0_5.symm.trans h5); cases (R_r0_27.symm.trans h27); cases (R_r0_28.symm.trans h28); intro _; simp only [k0_r0_4_40, k0_r0_1_0]; obtain ⟨h7, h8⟩ := hy58 (by omega); exact NXS.y2 ff36_0 (by omega) (by show (I110 r0_27 0).toInt = _; rw [e117]; omega) (by show (I110 r0_27 1).toInt = _; rw [e118]; omega) (by omega) (by omega) (fun i hi => h7 i (by omega) (by omega)) ((h8.fc hFe58) |> SPF.n1 (by omega)), fun a1 a4 a5 h1 h4 h5 => by cases (R_r0_1.symm.trans h1); cases (R_r0_4.symm.trans h4); cases (R_r0_5.symm.trans h5); intro h; exfalso; omega, fun a4 h4 => by cases (R_r0_4.symm.trans h4); exact (fun r z0 => ((F113 r z0).trans ((congrFun (CM.j0 S50 R_r0_4 (by decide)) r).trans ((F37 r z0).trans ((congrFun (CM.j0 S20 R_r0_4 (by decide)) r).trans (F11 r z0)))))), fun a5 h5 => by cases (R_r0_5.symm.trans h5); exact (fun r z0 => ((F114 r z0).trans ((congrFun (CM.j0 S50 R_r0_5 (by decide)) r).trans ((F38 r z0).trans ((congrFun (CM.j0 S20 R_r0_5 (by decide)) r).trans (F12 r z0)))))), hI110, (CM.cons S9 (CM.cons S20 (CM.cons S35 (CM.cons S50 (CM.mono S112 (by decide) (by decide)) (by decide) (by decide)) (by decide) (by decide)) (by decide) (by decide)) (by decide) (by decide))⟩
        refine k_istore_n C (lw := [(3, .int x27), (0, .ref r0), (1, .int n1), (2, .int x6)]) rfl rfl (Nat.le_of_ble_eq_true rfl) rfl ?_
        refine k_sub S [(0, .ref r0), (1, .int n1), (2, .int x6), (3, .int x27)] (List.forall_mem_cons.mpr ⟨List.mem_of_getElem? (i := 1) rfl, List.forall_mem_cons.mpr ⟨List.mem_of_getElem? (i := 2) rfl, List.forall_mem_cons.mpr ⟨List.mem_of_getElem? (i := 3) rfl, List.forall_mem_cons.mpr ⟨List.mem_of_getElem? (i := 0) rfl, fun _ h => nomatch h⟩⟩⟩⟩) ?_
        exact J28 _ I19 L5 x27 x6 rfl hI19 CM.rf (fun r z0 => rfl) (fun r z0 => rfl) (by omega) (by omega) e23 (by omega) (by omega) (by exact NXS.ab ff2_0 (by omega) (by omega)) (by exact h5a) (by omega) (by omega) (by omega)
      refine k_aload_n C rfl rfl rfl ?_
      refine z_iconst C (z := 0) rfl rfl rfl (fun x150 ex150 => ?_)
      have q151 : x150.toNatClampNeg = 0 := nck (by omega)
      refine c_VI C (a_X12_isLast_x hI19 H_r0 (by omega) (by omega) (fun a4 h4 => by cases (R_r0_4.symm.trans h4); (by rw [e21]; omega)) (fun a4 h4 => by cases (R_r0_4.symm.trans h4); (by rw [e21]; omega)) (fun a1 a4 a5 h1 h4 h5 => by cases (R_r0_1.symm.trans h1); cases (R_r0_4.symm.trans h4); cases (R_r0_5.symm.trans h5); (by rw [e21, e22]; exact RCN.sm hp2 h5a rfl (by omega))) (fun a1 a4 a26 h1 h4 h26 => by cases (R_r0_1.symm.trans h1); cases (R_r0_4.symm.trans h4); cases (R_r0_26.symm.trans h26); (by rw [e21, e22, h26a]; exact hp3)) (fun a1 a27 h1 h27 => by cases (R_r0_1.symm.trans h1); cases (R_r0_27.symm.trans h27); (by rw [e22]; intro i hi; rw [show i = 0 from by omega]; show 0 ≤ (I19 r0_27 0).toInt ∧ (I19 r0_27 0).toInt ≤ _; rw [e23]; omega)) (fun a28 h28 => by cases (R_r0_28.symm.trans h28); (by intro i hi; omega))) rfl rfl rfl rfl rfl ⟨_, rfl, rfl, T_r0, Nat.le_of_ble_eq_true rfl⟩ rfl rfl (Nat.le_of_ble_eq_true rfl) (Nat.le_of_ble_eq_true rfl) (Nat.le_of_ble_eq_true rfl) ?_
      rintro x152 I153 L154 ⟨o0x152, o1x152, p0x152, p1x152, p2x152, p3x152, p4x152, hI153, S155⟩
      have p0x152 := p0x152 r0_1 r0_4 r0_5 r0_27 r0_28 R_r0_1 R_r0_4 R_r0_5 R_r0_27 R_r0_28
      have p1x152 := p1x152 r0_1 r0_4 r0_5 r0_27 r0_28 R_r0_1 R_r0_4 R_r0_5 R_r0_27 R_r0_28
      have p2x152 := p2x152 r0_28 R_r0_28
      have p3x152 := p3x152 r0_4 R_r0_4
      have p4x152 := p4x152 r0_5 R_r0_5
      try simp only [q151] at p3x152
      have F156 : ∀ r : Nat, r ≠ 42 → I153 r0_4 r = I19 r0_4 r := fun r z0 => p3x152 r (by first | exact z0)
      try simp only [q151] at p4x152
      have F157 : ∀ r : Nat, (r < 41 * 42 ∨ 41 * 42 + 41 ≤ r) → I153 r0_5 r = I19 r0_5 r := fun r z0 => p4x152 r (by first | exact z0)
      have e158 := (p3x152 40 (by first | decide | exact ncne (by omega) (by omega) (by omega) | exact nckn (by omega) (by omega) | exact (nckn (by omega) (by omega)).symm)).trans e21
      have e159 := CM.j S155 R_r0_1 (by decide) e22
      have e160 := CM.j S155 R_r0_27 (by decide) e23
      have gx152 := rg x152
      try simp only [q151, e21, e22, e23] at p0x152
      try have q0x152 := congrArg Int32.toInt p0x152
      try simp only [q151, e21, e22, e23] at p1x152
      try have q1x152 := congrArg Int32.toInt p1x152
      try simp only [q151, e21, e22, e23] at p2x152
      try have q2x152 := congrArg Int32.toInt p2x152
      have hy24 := p0x152
      have hn24 := p1x152
      have h2724 := NF.e (CM.j0 S155 R_r0_27 (by decide))
      (try rw [← h2724] at hy24)
      (try rw [← h2724] at hn24)
      have h5b24 := p4x152
      have hFe24 : ∀ k : Nat, (k : Int) ≤ w_r0_4_40.toInt → RI _ r0_5 40 k = (RI I r0_5 40) k := fun k hk => RI.s h5a (by omega)
      have h5n24 : SMR I I153 r0_5 40 := fun k hk => (h5b24 _ (by omega)).trans (h5a k hk)
      refine b_if_eq C (t := 114) rfl rfl rfl (fun c161 => ?_) (fun c161 => ?_)
      · skip
        refine z_iinc C (z := 1) (lw := fun x162 => [(2, .int x162), (0, .ref r0), (1, .int n1)]) rfl rfl rfl (Nat.le_of_ble_eq_true rfl) rfl ⟨by omega, by omega⟩ (fun _ => rfl) (fun x162 ex162 => ?_)
        show V 117 [(2, .int x162), (0, .ref r0), (1, .int n1)] _ _ _ _
        refine k_goto C (pc2 := 2) rfl rfl ?_
        refine k_sub S [(0, .ref r0), (1, .int n1), (2, .int x162)] (List.forall_mem_cons.mpr ⟨List.mem_of_getElem? (i := 1) rfl, List.forall_mem_cons.mpr ⟨List.mem_of_getElem? (i := 2) rfl, List.forall_mem_cons.mpr ⟨List.mem_of_getElem? (i := 0) rfl, fun _ h => nomatch h⟩⟩⟩) ?_
        exact ihJ2 _ (by omega) I153 L154 x162 rfl hI153 (CM.cons S9 (CM.cons S20 (CM.mono S155 (by decide) (by decide)) (by decide) (by decide)) (by decide) (by decide)) (fun r z0 => ((F156 r z0).trans ((congrFun (CM.j0 S20 R_r0_4 (by decide)) r).trans (F11 r z0)))) (fun r z0 => ((F157 r z0).trans ((congrFun (CM.j0 S20 R_r0_5 (by decide)) r).trans (F12 r z0)))) (by omega) (by omega) (by first | exact NXS.a ff2_0 ((hn24 (by omega)).cg hFe24 (fun i hi => rfl) (fun i hi => rfl) rfl |> NOF.n1 (by omega)) (by omega) (by show (I153 r0_27 0).toInt = _; rw [e160]; omega) (by omega) | exact NXS.ba ff36_0 (by omega) (by omega) (by omega)) (by first | exact h5n24 | exact ff36_1) (by omega)
      refine z_iconst C (z := 1) rfl rfl rfl (fun x163 ex163 => ?_)
      exact k_iret C rfl (Or.inr ⟨rfl, z01 (by omega) (by omega)⟩) (Nat.le_of_ble_eq_true rfl) (Nat.le_of_ble_eq_true rfl) ⟨_, _, _, rfl, rfl, by omega, by omega, fun a1 a4 a5 a27 a28 h1 h4 h5 h27 h28 => by cases (R_r0_1.symm.trans h1); cases (R_r0_4.symm.trans h4); cases (R_r0_5.symm.trans h5); cases (R_r0_27.symm.trans h27); cases (R_r0_28.symm.trans h28); intro _; simp only [k0_r0_4_40, k0_r0_1_0]; obtain ⟨h7, h8⟩ := hy24 (by omega); exact NXS.y1 ff2_0 (by omega) (by show (I153 r0_27 0).toInt = _; rw [e160]; omega) (by omega) (fun i hi => by rw [show i = 0 from by omega]; exact h7) ((h8.fc hFe24) |> SPF.n1 (by omega)), fun a1 a4 a5 h1 h4 h5 => by cases (R_r0_1.symm.trans h1); cases (R_r0_4.symm.trans h4); cases (R_r0_5.symm.trans h5); intro h; exfalso; omega, fun a4 h4 => by cases (R_r0_4.symm.trans h4); exact (fun r z0 => ((F156 r z0).trans ((congrFun (CM.j0 S20 R_r0_4 (by decide)) r).trans (F11 r z0)))), fun a5 h5 => by cases (R_r0_5.symm.trans h5); exact (fun r z0 => ((F157 r z0).trans ((congrFun (CM.j0 S20 R_r0_5 (by decide)) r).trans (F12 r z0)))), hI153, (CM.cons S9 (CM.cons S20 (CM.mono S155 (by decide) (by decide)) (by decide) (by decide)) (by decide) (by decide))⟩
  refine k_istore_n C (lw := [(2, .int x1), (0, .ref r0), (1, .int n1)]) rfl rfl (Nat.le_of_ble_eq_true rfl) rfl ?_
  refine k_sub S [(0, .ref r0), (1, .int n1), (2, .int x1)] (List.forall_mem_cons.mpr ⟨List.mem_of_getElem? (i := 1) rfl, List.forall_mem_cons.mpr ⟨List.mem_of_getElem? (i := 2) rfl, List.forall_mem_cons.mpr ⟨List.mem_of_getElem? (i := 0) rfl, fun _ h => nomatch h⟩⟩⟩) ?_
  exact J2 _ I L x1 rfl hI CM.rf (fun r z0 => rfl) (fun r z0 => rfl) (by omega) (by omega) (by exact NXS.z (by omega) (by omega)) (by exact fun k hk => rfl) (by omega)

set_option maxHeartbeats 8000000 in
theorem a_X12_powers_x {d : Nat} {T N : Nat → Nat} {I : IT} {L : LT} {R : RT} {A : Nat → Prop} {r0 : Nat} {n1 n2 : Int32} (hI : IM R r0 I) (H_r0 : (h_MD T N R A) r0) (hp0 : ∀ a1, R r0 1 = some a1 → CNW (I a1)) : Ex (d + 7) 287 [.ref r0, .int n1, .int n2] (T, N, I, L, R) 0 0 (pI T N R (fun x9 I9 L9 => (∀ a1, R r0 1 = some a1 → (n1.toInt < 0 ∨ (I a1 1).toInt ≤ n1.toInt) ∧ (I9 r0 0).toInt = 1 ∨ ¬ (n1.toInt < 0 ∨ (I a1 1).toInt ≤ n1.toInt) ∧ ((I a1 (6 + 10 * n1.toNatClampNeg)).toInt = 0 ∨ n2.toInt < -1) ∧ (I9 r0 0).toInt = 2 ∨ ¬ (n1.toInt < 0 ∨ (I a1 1).toInt ≤ n1.toInt) ∧ ¬ ((I a1 (6 + 10 * n1.toNatClampNeg)).toInt = 0 ∨ n2.toInt < -1) ∧ (I9 r0 0).toInt = 0 ∧ PWX x9.toInt (I a1 0).toInt (I a1 (6 + 10 * n1.toNatClampNeg)).toInt (BNI (I a1 (6 + 10 * n1.toNatClampNeg)).toInt) (fun k => (I a1 (7 + 10 * n1.toNatClampNeg + k)).toInt) n2.toInt) ∧ (IM R r0 I9 ∧ CM A R r0 [0, 29] [4, 5, 26, 27, 28] I L I9 L9))) := by
  refine ⟨_, rfl, Nat.le_of_ble_eq_true rfl, fun V C S => ?_⟩
  show V 0 [(0, .ref r0), (1, .int n1), (2, .int n2)] [] (T, N, I, L, R) 0 0
  have gn1 := rg n1
  have gn2 := rg n2
  obtain ⟨T_r0, A_r0, ⟨r0_1, R_r0_1, H_r0_1⟩, ⟨r0_2, R_r0_2, H_r0_2⟩, ⟨r0_4, R_r0_4, H_r0_4⟩, ⟨r0_5, R_r0_5, H_r0_5⟩, ⟨r0_10, R_r0_10, H_r0_10⟩, ⟨r0_18, R_r0_18, H_r0_18⟩, ⟨r0_20, R_r0_20, H_r0_20⟩, ⟨r0_21, R_r0_21, H_r0_21⟩, ⟨r0_22, R_r0_22, H_r0_22⟩, ⟨r0_23, R_r0_23, H_r0_23⟩, ⟨r0_25, R_r0_25, H_r0_25⟩, ⟨r0_26, R_r0_26, H_r0_26⟩, ⟨r0_27, R_r0_27, H_r0_27⟩, ⟨r0_28, R_r0_28, H_r0_28⟩, ⟨r0_34, R_r0_34, H_r0_34⟩, J_r0, Y_r0⟩ := id H_r0
  have G_r0 : mF T R r0 := ⟨J_r0, Y_r0, T_r0⟩
  obtain ⟨w_r0_1_1, k0_r0_1_1⟩ : ∃ x, I r0_1 1 = x := ⟨_, rfl⟩
  have gw_r0_1_1 := rg w_r0_1_1
  have ow_r0_1_1 := IM.c1 hI R_r0_1 k0_r0_1_1
  obtain ⟨w_r0_1_0, k0_r0_1_0⟩ : ∃ x, I r0_1 0 = x := ⟨_, rfl⟩
  have gw_r0_1_0 := rg w_r0_1_0
  have ow_r0_1_0 := IM.pi hI R_r0_1 k0_r0_1_0
  obtain ⟨w_r0_1_E_6_10_n1_toNatClampNeg, k0_r0_1_E_6_10_n1_toNatClampNeg⟩ : ∃ x, I r0_1 (6 + 10 * n1.toNatClampNeg) = x := ⟨_, rfl⟩
  have gw_r0_1_E_6_10_n1_toNatClampNeg := rg w_r0_1_E_6_10_n1_toNatClampNeg
  have hp0 := hp0 r0_1 R_r0_1
  try simp only [k0_r0_1_1, k0_r0_1_0, k0_r0_1_E_6_10_n1_toNatClampNeg] at hp0
  refine k_aload_n C rfl rfl rfl ?_
  refine z_iconst C (z := 0) rfl rfl rfl (fun x1 ex1 => ?_)
  refine z_pI C rfl rfl rfl T_r0 (Or.inr rfl) rfl (fun I2 uI2 => ?_)
  have hI2 : IM R r0 I2 := IM.fld hI G_r0 ⟨(fun h => absurd h (by decide)), (fun h => absurd h (by decide)), (fun h => absurd h (by decide)), (fun h => absurd h (by decide)), (fun h => absurd h (by decide))⟩ uI2
  have S3 : CM A R r0 [0] [] I L I2 L := CM.f G_r0 A_r0 uI2
  have e4 := u2_n uI2 (mF.ne G_r0 R_r0_1) k0_r0_1_1
  have e5 := u2_n uI2 (mF.ne G_r0 R_r0_1) k0_r0_1_0
  have e6 := u2_n uI2 (mF.ne G_r0 R_r0_1) k0_r0_1_E_6_10_n1_toNatClampNeg
  have e7 := u2_e uI2
  refine k_aload_n C rfl rfl rfl ?_
  refine k_aload_n C rfl rfl rfl ?_
  refine k_iload_n C rfl rfl rfl ?_
  refine c_VI C (a_X12_noForm_e hI2 H_r0) rfl rfl rfl rfl rfl ⟨_, rfl, rfl, T_r0, Nat.le_of_ble_eq_true rfl⟩ rfl rfl (Nat.le_of_ble_eq_true rfl) (Nat.le_of_ble_eq_true rfl) (Nat.le_of_ble_eq_true rfl) ?_
  rintro x8 _ _ ⟨o0x8, o1x8, p0x8, rfl, rfl⟩
  have p0x8 := p0x8 r0_1 R_r0_1
  have gx8 := rg x8
  try simp only [e4, e5, e6, e7, e4] at p0x8
  try have q0x8 := congrArg Int32.toInt p0x8
  refine z_iconst C (z := 1) rfl rfl rfl (fun x9 ex9 => ?_)
  have q10 : x9.toNatClampNeg = 1 := nck (by omega)
  refine c_VI C (a_X12_throwsIf_e hI2 H_r0 (by omega) (by omega)) rfl rfl rfl rfl rfl ⟨_, rfl, rfl, T_r0, Nat.le_of_ble_eq_true rfl⟩ rfl rfl (Nat.le_of_ble_eq_true rfl) (Nat.le_of_ble_eq_true rfl) (Nat.le_of_ble_eq_true rfl) ?_
  rintro x11 I12 L13 ⟨o0x11, o1x11, p0x11, p1x11, hI12, S14⟩
  have e15 := CM.j S14 R_r0_1 (by decide) e4
  have e16 := CM.j S14 R_r0_1 (by decide) e5
  have e17 := CM.j S14 R_r0_1 (by decide) e6
  have gx11 := rg x11
  obtain ⟨x19, e20⟩ : ∃ x, I12 r0 0 = x := ⟨_, rfl⟩
  have gx19 := rg x19
  try simp only [q10, e4, e5, e6, e7, e20] at p0x11
  try have q0x11 := congrArg Int32.toInt p0x11
  try simp only [q10, e4, e5, e6, e7, e20] at p1x11
  try have q1x11 := congrArg Int32.toInt p1x11
  refine b_if_ne C (t := 44) rfl rfl rfl (fun c21 => ?_) (fun c21 => ?_)
  · skip
    refine z_iconst C (z := 0) rfl rfl rfl (fun x22 ex22 => ?_)
    exact k_iret C rfl (Or.inl rfl) (Nat.le_of_ble_eq_true rfl) (Nat.le_of_ble_eq_true rfl) ⟨_, _, _, rfl, rfl, fun a1 h1 => by cases (R_r0_1.symm.trans h1); first | exact Or.inl ⟨by simp only [k0_r0_1_1]; omega, by rw [e20]; omega⟩ | exact Or.inr (Or.inl ⟨by simp only [k0_r0_1_1]; omega, by simp only [k0_r0_1_E_6_10_n1_toNatClampNeg]; omega, by rw [e20]; omega⟩), hI12, (CM.cons S3 (CM.mono S14 (by decide) (by decide)) (by decide) (by decide))⟩
  refine k_aload_n C rfl rfl rfl ?_
  refine k_aload_n C rfl rfl rfl ?_
  refine k_iload_n C rfl rfl rfl ?_
  refine c_VI C (a_X12_degreeOf hI12 H_r0 (by omega) (by omega)) rfl rfl rfl rfl rfl ⟨_, rfl, rfl, T_r0, Nat.le_of_ble_eq_true rfl⟩ rfl rfl (Nat.le_of_ble_eq_true rfl) (Nat.le_of_ble_eq_true rfl) (Nat.le_of_ble_eq_true rfl) ?_
  rintro x23 _ _ ⟨o0x23, o1x23, p0x23, rfl, rfl⟩
  have p0x23 := p0x23 r0_1 R_r0_1
  have gx23 := rg x23
  try simp only [e15, e16, e17, e20, e17] at p0x23
  try have q0x23 := congrArg Int32.toInt p0x23
  refine b_if_eq C (t := 32) rfl rfl rfl (fun c24 => ?_) (fun c24 => ?_)
  · skip
    refine z_iconst C (z := 1) rfl rfl rfl (fun x25 ex25 => ?_)
    refine k_goto C (pc2 := 37) rfl rfl ?_
    refine z_iconst C (z := 2) rfl rfl rfl (fun x26 ex26 => ?_)
    have q27 : x25.toNatClampNeg = 1 := nck (by omega)
    have q28 : x26.toNatClampNeg = 2 := nck (by omega)
    refine c_VI C (a_X12_throwsIf_e hI12 H_r0 (by omega) (by omega)) rfl rfl rfl rfl rfl ⟨_, rfl, rfl, T_r0, Nat.le_of_ble_eq_true rfl⟩ rfl rfl (Nat.le_of_ble_eq_true rfl) (Nat.le_of_ble_eq_true rfl) (Nat.le_of_ble_eq_true rfl) ?_
    rintro x29 I30 L31 ⟨o0x29, o1x29, p0x29, p1x29, hI30, S32⟩
    have e33 := CM.j S32 R_r0_1 (by decide) e15
    have e34 := CM.j S32 R_r0_1 (by decide) e16
    have e35 := CM.j S32 R_r0_1 (by decide) e17
    have gx29 := rg x29
    obtain ⟨x37, e38⟩ : ∃ x, I30 r0 0 = x := ⟨_, rfl⟩
    have gx37 := rg x37
    try simp only [q27, q28, e15, e16, e17, e20, e38] at p0x29
    try have q0x29 := congrArg Int32.toInt p0x29
    try simp only [q27, q28, e15, e16, e17, e20, e38] at p1x29
    try have q1x29 := congrArg Int32.toInt p1x29
    refine b_if_eq C (t := 46) rfl rfl rfl (fun c39 => by exfalso; omega) (fun c39 => ?_)
    refine z_iconst C (z := 0) rfl rfl rfl (fun x40 ex40 => ?_)
    exact k_iret C rfl (Or.inl rfl) (Nat.le_of_ble_eq_true rfl) (Nat.le_of_ble_eq_true rfl) ⟨_, _, _, rfl, rfl, fun a1 h1 => by cases (R_r0_1.symm.trans h1); first | exact Or.inl ⟨by simp only [k0_r0_1_1]; omega, by rw [e38]; omega⟩ | exact Or.inr (Or.inl ⟨by simp only [k0_r0_1_1]; omega, by simp only [k0_r0_1_E_6_10_n1_toNatClampNeg]; omega, by rw [e38]; omega⟩), hI30, (CM.cons S3 (CM.cons S14 (CM.mono S32 (by decide) (by decide)) (by decide) (by decide)) (by decide) (by decide))⟩
  refine k_iload_n C rfl rfl rfl ?_
  refine z_iconst C (z := -1) rfl rfl rfl (fun x41 ex41 => ?_)
  refine b_icmp_ge C (t := 36) rfl rfl rfl (fun c42 => ?_) (fun c42 => ?_)
  · skip
    refine z_iconst C (z := 0) rfl rfl rfl (fun x43 ex43 => ?_)
    refine z_iconst C (z := 2) rfl rfl rfl (fun x44 ex44 => ?_)
    have q45 : x43.toNatClampNeg = 0 := nck (by omega)
    have q46 : x44.toNatClampNeg = 2 := nck (by omega)
    refine c_VI C (a_X12_throwsIf_e hI12 H_r0 (by omega) (by omega)) rfl rfl rfl rfl rfl ⟨_, rfl, rfl, T_r0, Nat.le_of_ble_eq_true rfl⟩ rfl rfl (Nat.le_of_ble_eq_true rfl) (Nat.le_of_ble_eq_true rfl) (Nat.le_of_ble_eq_true rfl) ?_
    rintro x47 I48 L49 ⟨o0x47, o1x47, p0x47, p1x47, hI48, S50⟩
    have e51 := CM.j S50 R_r0_1 (by decide) e15
    have e52 := CM.j S50 R_r0_1 (by decide) e16
    have e53 := CM.j S50 R_r0_1 (by decide) e17
    have gx47 := rg x47
    obtain ⟨x55, e56⟩ : ∃ x, I48 r0 0 = x := ⟨_, rfl⟩
    have gx55 := rg x55
    try simp only [q45, q46, e15, e16, e17, e20, e56] at p0x47
    try have q0x47 := congrArg Int32.toInt p0x47
    try simp only [q45, q46, e15, e16, e17, e20, e56] at p1x47
    try have q1x47 := congrArg Int32.toInt p1x47
    refine b_if_eq C (t := 46) rfl rfl rfl (fun c57 => ?_) (fun c57 => by exfalso; omega)
    refine k_aload_n C rfl rfl rfl ?_
    refine z_bipush C (z := 40) rfl rfl rfl (fun x58 ex58 => ?_)
    refine k_iload_n C rfl rfl rfl ?_
    have hw50 := CM.j0 (W := [0]) (WA := []) (CM.cons S3 (CM.cons S14 (CM.mono S50 (by decide) (by decide)) (by decide) (by decide)) (by decide) (by decide)) R_r0_1 (by decide)
    have q59 : x58.toNatClampNeg = 40 := nck (by omega)
    refine c_VV C (a_X12_takes_e hI48 H_r0 (by omega) (by omega) (by omega) (by omega)) rfl rfl rfl rfl rfl ⟨_, rfl, rfl, T_r0, Nat.le_of_ble_eq_true rfl⟩ rfl rfl (Nat.le_of_ble_eq_true rfl) (Nat.le_of_ble_eq_true rfl) (Nat.le_of_ble_eq_true rfl) ?_
    rintro I61 L62 ⟨p0v60, p1v60, p2v60, p3v60, p4v60, p5v60, hI61, S63⟩
    have p0v60 := p0v60 r0_4 R_r0_4
    have p1v60 := p1v60 r0_1 r0_4 R_r0_1 R_r0_4
    have p2v60 := p2v60 r0_1 r0_4 r0_5 R_r0_1 R_r0_4 R_r0_5
    have p3v60 := p3v60 r0_1 r0_4 r0_5 R_r0_1 R_r0_4 R_r0_5
    have p4v60 := p4v60 r0_4 R_r0_4
    have p5v60 := p5v60 r0_5 R_r0_5
    try simp only [q59] at p4v60
    try simp only [q59] at p5v60
    have e64 := CM.j S63 R_r0_1 (by decide) e51
    have e65 := CM.j S63 R_r0_1 (by decide) e52
    have e66 := CM.j S63 R_r0_1 (by decide) e53
    have e67 := CM.k S63 (by decide) e56
    obtain ⟨x68, e69⟩ : ∃ x, I61 r0_4 40 = x := ⟨_, rfl⟩
    have gx68 := rg x68
    have ox68 := IM.dgR hI61 R_r0_4 e69
    try simp only [q59, e51, e52, e53, e56, e69] at p0v60
    try have q0v60 := congrArg Int32.toInt p0v60
    try simp only [q59, e51, e52, e53, e56, e69] at p1v60
    try have q1v60 := congrArg Int32.toInt p1v60
    try simp only [q59, e51, e52, e53, e56, e69] at p2v60
    try have q2v60 := congrArg Int32.toInt p2v60
    try simp only [q59, e51, e52, e53, e56, e69] at p3v60
    try have q3v60 := congrArg Int32.toInt p3v60
    have hd9 := p1v60
    have hT9 := TKE.w p3v60 hw50
    have hcr := CNW.g (f := n1) hp0 (by rw [k0_r0_1_E_6_10_n1_toNatClampNeg]) (by rw [k0_r0_1_0]) (by omega) (by simp only [k0_r0_1_1]; omega)
    have hRW : RWF I61 r0_5 40 w_r0_1_E_6_10_n1_toNatClampNeg.toInt (fun k => (I r0_1 (7 + 10 * n1.toNatClampNeg + k)).toInt) := fun k hk => by (rw [hT9 k (by omega), show 6 + 10 * n1.toNatClampNeg + 1 + k = 7 + 10 * n1.toNatClampNeg + k from by omega])
    refine k_aload_n C rfl rfl rfl ?_
    refine k_aload_n C rfl rfl rfl ?_
    refine g_R C rfl rfl rfl T_r0 rfl R_r0_4 ?_
    refine z_bipush C (z := 40) rfl rfl rfl (fun x70 ex70 => ?_)
    obtain ⟨T_r0_4, N_r0_4, A_r0_4⟩ := id H_r0_4
    refine a_I C rfl rfl T_r0_4 (by rw [N_r0_4]; exact vpi (by omega) (by omega)) ((congrArg (I61 r0_4) (nck (n := 40) (by omega))).trans e69) ?_
    have hq61 := e65
    refine c_VV C (a_X12_raises_x hI61 H_r0 (by omega) (by omega)) rfl rfl rfl rfl rfl ⟨_, rfl, rfl, T_r0, Nat.le_of_ble_eq_true rfl⟩ rfl rfl (Nat.le_of_ble_eq_true rfl) (Nat.le_of_ble_eq_true rfl) (Nat.le_of_ble_eq_true rfl) ?_
    rintro I72 L73 ⟨p0v71, p1v71, p2v71, hI72, S74⟩
    have p0v71 := p0v71 r0_1 r0_26 R_r0_1 R_r0_26
    have p1v71 := p1v71 r0_4 R_r0_4
    have p2v71 := p2v71 r0_5 R_r0_5
    have e75 := CM.j S74 R_r0_1 (by decide) e64
    have e76 := CM.j S74 R_r0_1 (by decide) e65
    have e77 := CM.j S74 R_r0_1 (by decide) e66
    have e78 := CM.k S74 (by decide) e67
    have e79 := (p1v71 40 (by first | decide | exact ncne (by omega) (by omega) (by omega) | exact nckn (by omega) (by omega) | exact (nckn (by omega) (by omega)).symm)).trans e69
    try simp only [e64, e65, e66, e67, e69] at p0v71
    try have q0v71 := congrArg Int32.toInt p0v71
    have hpt := p0v71
    (try rw [hq61] at hpt)
    have h5r := p2v71
    have hRWr : RWF I72 r0_5 40 w_r0_1_E_6_10_n1_toNatClampNeg.toInt (fun k => (I r0_1 (7 + 10 * n1.toNatClampNeg + k)).toInt) := RWF.sm hRW (fun k hk => h5r _ (by omega)) (by omega)
    refine k_aload_n C rfl rfl rfl ?_
    refine k_aload_n C rfl rfl rfl ?_
    refine z_bipush C (z := 40) rfl rfl rfl (fun x80 ex80 => ?_)
    have q81 : x80.toNatClampNeg = 40 := nck (by omega)
    refine c_VI C (a_X12_isNought_e hI72 H_r0 (by omega) (by omega)) rfl rfl rfl rfl rfl ⟨_, rfl, rfl, T_r0, Nat.le_of_ble_eq_true rfl⟩ rfl rfl (Nat.le_of_ble_eq_true rfl) (Nat.le_of_ble_eq_true rfl) (Nat.le_of_ble_eq_true rfl) ?_
    rintro x82 _ _ ⟨o0x82, o1x82, p0x82, p1x82, rfl, rfl⟩
    have p0x82 := p0x82 r0_4 r0_5 R_r0_4 R_r0_5
    have p1x82 := p1x82 r0_4 r0_5 R_r0_4 R_r0_5
    have gx82 := rg x82
    try simp only [q81, e75, e76, e77, e78, e79] at p0x82
    try have q0x82 := congrArg Int32.toInt p0x82
    try simp only [q81, e75, e76, e77, e78, e79] at p1x82
    try have q1x82 := congrArg Int32.toInt p1x82
    have hN := NQI.w (D := w_r0_1_E_6_10_n1_toNatClampNeg.toInt) p1x82 (by rw [e79]; omega) hRWr
    refine b_if_eq C (t := 78) rfl rfl rfl (fun c83 => ?_) (fun c83 => ?_)
    · skip
      refine z_iconst C (z := 1) rfl rfl rfl (fun x84 ex84 => ?_)
      have J85 : ∀ (nn86 : Nat) (I87 : IT) (L88 : LT) (x92 : Int32), ((4 - x92.toInt).toNat = nn86) → (IM R r0 I87) → (CM A R r0 [29] [4, 5, 27, 28] I72 L73 I87 L88) → (∀ r : Nat, r ≠ 42 → I87 r0_4 r = I72 r0_4 r) → (I87 r0 29 = x92) → (0 ≤ x92.toInt) → (x92.toInt ≤ 4) → ((∀ m : Nat, (m : Int) < x92.toInt → ¬ EXN w_r0_1_0.toInt w_r0_1_E_6_10_n1_toNatClampNeg.toInt (BNI w_r0_1_E_6_10_n1_toNatClampNeg.toInt) (fun k => (I r0_1 (7 + 10 * n1.toNatClampNeg + k)).toInt) m)) → (RWF I87 r0_5 40 w_r0_1_E_6_10_n1_toNatClampNeg.toInt (fun k => (I r0_1 (7 + 10 * n1.toNatClampNeg + k)).toInt)) → (PWT (I87 r0_26) w_r0_1_0.toInt w_r0_1_E_6_10_n1_toNatClampNeg.toInt (w_r0_1_0.toInt + 1)) → (x92.toInt = 0 → ∀ k : Nat, (k : Int) ≤ w_r0_1_E_6_10_n1_toNatClampNeg.toInt → (fun k => (I r0_1 (7 + 10 * n1.toNatClampNeg + k)).toInt) k = 0) → V 82 [(0, .ref r0), (2, .int n2)] [] (T, N, I87, L88, R) 0 0 := by
        intro nn86
        induction nn86 using Nat.strongRecOn with
        | _ nn86 ihJ85 =>
          intro I87 L88 x92 hmnn86 hI90 S89 F91 e93 b94 b95 ff82_0 ff82_1 ff82_2 ff82_3
          have gx92 := rg x92
          have e96 := CM.j S89 R_r0_1 (by decide) e75
          have e97 := CM.j S89 R_r0_1 (by decide) e76
          have e98 := CM.j S89 R_r0_1 (by decide) e77
          have e99 := CM.k S89 (by decide) e78
          have e100 := (F91 40 (by first | decide | exact ncne (by omega) (by omega) (by omega) | exact nckn (by omega) (by omega) | exact (nckn (by omega) (by omega)).symm)).trans e79
          refine k_aload_n C rfl rfl rfl ?_
          refine g_I C rfl rfl rfl T_r0 rfl e93 ?_
          refine b_if_le C (t := 121) rfl rfl rfl (fun c101 => ?_) (fun c101 => ?_)
          · skip
            obtain ⟨T9, eT9⟩ : ∃ f : Nat → Int, NF I87 r0_27 = f := ⟨_, rfl⟩
            obtain ⟨C9, eC9⟩ : ∃ f : Nat → Int, NF I87 r0_28 = f := ⟨_, rfl⟩
            (try rw [eT9, eC9] at hPW9)
            (try have hPWL := hPW9 (by omega))
            have hF0 : x92.toInt = 0 → ∀ k : Nat, (k : Int) ≤ w_r0_1_E_6_10_n1_toNatClampNeg.toInt → (fun k => (I r0_1 (7 + 10 * n1.toNatClampNeg + k)).toInt) k = 0 := (by first | exact ff82_3 | (intro h9; exfalso; omega))
            have hF0 : (∀ k : Nat, (k : Int) ≤ w_r0_1_E_6_10_n1_toNatClampNeg.toInt → (fun k => (I r0_1 (7 + 10 * n1.toNatClampNeg + k)).toInt) k = 0) ∨ x92.toInt ≠ 0 := (by by_cases c9 : x92.toInt = 0; · exact Or.inl (hF0 c9); · exact Or.inr c9)
            have hP4 : 4 ≤ x92.toInt → ∀ m, m < 4 → ¬ EXN w_r0_1_0.toInt w_r0_1_E_6_10_n1_toNatClampNeg.toInt (BNI w_r0_1_E_6_10_n1_toNatClampNeg.toInt) (fun k => (I r0_1 (7 + 10 * n1.toNatClampNeg + k)).toInt) m := (by first | exact fun h9 m hm => ff82_0 m (by omega) | (intro h9; exfalso; omega))
            refine k_aload_n C rfl rfl rfl ?_
            refine g_I C rfl rfl rfl T_r0 rfl e93 ?_
            refine z_iconst C (z := 3) rfl rfl rfl (fun x102 ex102 => ?_)
            refine b_icmp_le C (t := 131) rfl rfl rfl (fun c103 => ?_) (fun c103 => by exfalso; omega)
            refine k_iload_n C rfl rfl rfl ?_
            refine b_if_ge C (t := 140) rfl rfl rfl (fun c104 => ?_) (fun c104 => ?_)
            · skip
              refine k_iload_n C rfl rfl rfl ?_
              refine z_iconst C (z := 0) rfl rfl rfl (fun x105 ex105 => ?_)
              refine k_aload_n C rfl rfl rfl ?_
              refine g_I C rfl rfl rfl T_r0 rfl e93 ?_
              refine z_iconst C (z := 1) rfl rfl rfl (fun x106 ex106 => ?_)
              refine z_isub C rfl rfl ⟨by omega, by omega⟩ (fun x107 ex107 => ?_)
              have q108 : x105.toNatClampNeg = 0 := nck (by omega)
              refine c_SI C a_X12_in rfl rfl rfl rfl rfl rfl rfl (Nat.le_of_ble_eq_true rfl) (Nat.le_of_ble_eq_true rfl) (Nat.le_of_ble_eq_true rfl) ?_
              rintro x109 _ _ ⟨o0x109, o1x109, p0x109, rfl, rfl⟩
              have gx109 := rg x109
              try simp only [q108, e96, e97, e98, e99, e100, e93] at p0x109
              try have q0x109 := congrArg Int32.toInt p0x109
              have hin148 := p0x109
              refine b_if_eq C (t := 163) rfl rfl rfl (fun c110 => ?_) (fun c110 => ?_)
              · skip
                refine k_iload_n C rfl rfl rfl ?_
                refine z_bipush C (z := 10) rfl rfl rfl (fun x111 ex111 => ?_)
                refine z_isub C rfl rfl ⟨by omega, by omega⟩ (fun x112 ex112 => ?_)
                refine z_iconst C (z := 0) rfl rfl rfl (fun x113 ex113 => ?_)
                refine k_aload_n C rfl rfl rfl ?_
                refine g_I C rfl rfl rfl T_r0 rfl e93 ?_
                refine z_iconst C (z := 1) rfl rfl rfl (fun x114 ex114 => ?_)
                refine z_isub C rfl rfl ⟨by omega, by omega⟩ (fun x115 ex115 => ?_)
                have q116 : x113.toNatClampNeg = 0 := nck (by omega)
                refine c_SI C a_X12_in rfl rfl rfl rfl rfl rfl rfl (Nat.le_of_ble_eq_true rfl) (Nat.le_of_ble_eq_true rfl) (Nat.le_of_ble_eq_true rfl) ?_
                rintro x117 _ _ ⟨o0x117, o1x117, p0x117, rfl, rfl⟩
                have gx117 := rg x117
                try simp only [q116, e96, e97, e98, e99, e100, e93] at p0x117
                try have q0x117 := congrArg Int32.toInt p0x117
                have hin174 := p0x117
                refine b_if_eq C (t := 192) rfl rfl rfl (fun c118 => ?_) (fun c118 => ?_)
                · skip
                  refine z_iconst C (z := -1) rfl rfl rfl (fun x119 ex119 => ?_)
                  exact k_iret C rfl (Or.inl rfl) (Nat.le_of_ble_eq_true rfl) (Nat.le_of_ble_eq_true rfl) ⟨_, _, _, rfl, rfl, fun a1 h1 => by cases (R_r0_1.symm.trans h1); refine Or.inr (Or.inr ⟨by simp only [k0_r0_1_1]; omega, by simp only [k0_r0_1_E_6_10_n1_toNatClampNeg]; omega, by rw [e99]; omega, ?_⟩); simp only [k0_r0_1_0, k0_r0_1_E_6_10_n1_toNatClampNeg]; first | (exfalso; omega) | exact PWX.r (n := m9.toNat) (fun m hm => hPX m (by omega)) (by omega) hPWL (by first | exact PWA.b (by omega) (by omega) hr159 | exact PWA.c (by omega) (by omega) hr188 | exact PWA.d (by omega) (by omega) (by omega) (by omega)) | exact PWX.r (n := 0) (fun m hm => absurd hm (Nat.not_lt_zero m)) (by omega) (PWL.z (ts := T9) (cs := C9) (hF0.resolve_right (by omega))) (by first | exact PWA.b (by omega) (by omega) hr159 | exact PWA.c (by omega) (by omega) hr188 | exact PWA.d (by omega) (by omega) (by omega) (by omega)), hI90, (CM.cons S3 (CM.cons S14 (CM.cons S50 (CM.cons S63 (CM.cons S74 (CM.mono S89 (by decide) (by decide)) (by decide) (by decide)) (by decide) (by decide)) (by decide) (by decide)) (by decide) (by decide)) (by decide) (by decide))⟩
                refine k_aload_n C rfl rfl rfl ?_
                refine g_R C rfl rfl rfl T_r0 rfl R_r0_28 ?_
                refine k_iload_n C rfl rfl rfl ?_
                refine z_bipush C (z := 10) rfl rfl rfl (fun x120 ex120 => ?_)
                refine z_isub C rfl rfl ⟨by omega, by omega⟩ (fun x121 ex121 => ?_)
                obtain ⟨T_r0_28, N_r0_28, A_r0_28⟩ := id H_r0_28
                refine z_aI C rfl rfl T_r0_28 N_r0_28 (by omega) (by omega) (fun x122 ex122 => ?_)
                have gx122 := rg x122
                have ox122 := IM.faR hI90 R_r0_28 ex122
                have hj188 : x121.toNatClampNeg = (n2.toInt - 10).toNat := (by have h9 := ncz (x := x121) (by omega); omega)
                have hr188 : x122.toInt = NF I87 r0_28 (n2.toInt - 10).toNat := (by rw [← hj188]; exact (congrArg Int32.toInt ex122).symm)
                rw [eC9] at hr188
                refine k_goto C (pc2 := 193) rfl rfl ?_
                exact k_iret C rfl (Or.inl rfl) (Nat.le_of_ble_eq_true rfl) (Nat.le_of_ble_eq_true rfl) ⟨_, _, _, rfl, rfl, fun a1 h1 => by cases (R_r0_1.symm.trans h1); refine Or.inr (Or.inr ⟨by simp only [k0_r0_1_1]; omega, by simp only [k0_r0_1_E_6_10_n1_toNatClampNeg]; omega, by rw [e99]; omega, ?_⟩); simp only [k0_r0_1_0, k0_r0_1_E_6_10_n1_toNatClampNeg]; first | (exfalso; omega) | exact PWX.r (n := m9.toNat) (fun m hm => hPX m (by omega)) (by omega) hPWL (by first | exact PWA.b (by omega) (by omega) hr159 | exact PWA.c (by omega) (by omega) hr188 | exact PWA.d (by omega) (by omega) (by omega) (by omega)) | exact PWX.r (n := 0) (fun m hm => absurd hm (Nat.not_lt_zero m)) (by omega) (PWL.z (ts := T9) (cs := C9) (hF0.resolve_right (by omega))) (by first | exact PWA.b (by omega) (by omega) hr159 | exact PWA.c (by omega) (by omega) hr188 | exact PWA.d (by omega) (by omega) (by omega) (by omega)), hI90, (CM.cons S3 (CM.cons S14 (CM.cons S50 (CM.cons S63 (CM.cons S74 (CM.mono S89 (by decide) (by decide)) (by decide) (by decide)) (by decide) (by decide)) (by decide) (by decide)) (by decide) (by decide)) (by decide) (by decide))⟩
              refine k_aload_n C rfl rfl rfl ?_
              refine g_R C rfl rfl rfl T_r0 rfl R_r0_27 ?_
              refine k_iload_n C rfl rfl rfl ?_
              obtain ⟨T_r0_27, N_r0_27, A_r0_27⟩ := id H_r0_27
              refine z_aI C rfl rfl T_r0_27 N_r0_27 (by omega) (by omega) (fun x123 ex123 => ?_)
              have gx123 := rg x123
              have ox123 := IM.spR hI90 R_r0_27 ex123
              have hr159 : x123.toInt = NF I87 r0_27 n2.toInt.toNat := (congrArg Int32.toInt ex123).symm
              rw [eT9] at hr159
              refine k_goto C (pc2 := 193) rfl rfl ?_
              exact k_iret C rfl (Or.inl rfl) (Nat.le_of_ble_eq_true rfl) (Nat.le_of_ble_eq_true rfl) ⟨_, _, _, rfl, rfl, fun a1 h1 => by cases (R_r0_1.symm.trans h1); refine Or.inr (Or.inr ⟨by simp only [k0_r0_1_1]; omega, by simp only [k0_r0_1_E_6_10_n1_toNatClampNeg]; omega, by rw [e99]; omega, ?_⟩); simp only [k0_r0_1_0, k0_r0_1_E_6_10_n1_toNatClampNeg]; first | (exfalso; omega) | exact PWX.r (n := m9.toNat) (fun m hm => hPX m (by omega)) (by omega) hPWL (by first | exact PWA.b (by omega) (by omega) hr159 | exact PWA.c (by omega) (by omega) hr188 | exact PWA.d (by omega) (by omega) (by omega) (by omega)) | exact PWX.r (n := 0) (fun m hm => absurd hm (Nat.not_lt_zero m)) (by omega) (PWL.z (ts := T9) (cs := C9) (hF0.resolve_right (by omega))) (by first | exact PWA.b (by omega) (by omega) hr159 | exact PWA.c (by omega) (by omega) hr188 | exact PWA.d (by omega) (by omega) (by omega) (by omega)), hI90, (CM.cons S3 (CM.cons S14 (CM.cons S50 (CM.cons S63 (CM.cons S74 (CM.mono S89 (by decide) (by decide)) (by decide) (by decide)) (by decide) (by decide)) (by decide) (by decide)) (by decide) (by decide)) (by decide) (by decide))⟩
            refine k_aload_n C rfl rfl rfl ?_
            refine g_I C rfl rfl rfl T_r0 rfl e93 ?_
            exact k_iret C rfl (Or.inl rfl) (Nat.le_of_ble_eq_true rfl) (Nat.le_of_ble_eq_true rfl) ⟨_, _, _, rfl, rfl, fun a1 h1 => by cases (R_r0_1.symm.trans h1); refine Or.inr (Or.inr ⟨by simp only [k0_r0_1_1]; omega, by simp only [k0_r0_1_E_6_10_n1_toNatClampNeg]; omega, by rw [e99]; omega, ?_⟩); simp only [k0_r0_1_0, k0_r0_1_E_6_10_n1_toNatClampNeg]; first | (exfalso; omega) | exact PWX.r (n := m9.toNat) (fun m hm => hPX m (by omega)) (by omega) hPWL (PWA.a (by omega) (by omega)) | exact PWX.r (n := 0) (fun m hm => absurd hm (Nat.not_lt_zero m)) (by omega) (PWL.z (ts := T9) (cs := C9) (hF0.resolve_right (by omega))) (PWA.a (by omega) (by omega)), hI90, (CM.cons S3 (CM.cons S14 (CM.cons S50 (CM.cons S63 (CM.cons S74 (CM.mono S89 (by decide) (by decide)) (by decide) (by decide)) (by decide) (by decide)) (by decide) (by decide)) (by decide) (by decide)) (by decide) (by decide))⟩
          refine k_aload_n C rfl rfl rfl ?_
          refine g_I C rfl rfl rfl T_r0 rfl e93 ?_
          refine z_iconst C (z := 4) rfl rfl rfl (fun x124 ex124 => ?_)
          refine b_icmp_ge C (t := 121) rfl rfl rfl (fun c125 => ?_) (fun c125 => ?_)
          · skip
            obtain ⟨T9, eT9⟩ : ∃ f : Nat → Int, NF I87 r0_27 = f := ⟨_, rfl⟩
            obtain ⟨C9, eC9⟩ : ∃ f : Nat → Int, NF I87 r0_28 = f := ⟨_, rfl⟩
            (try rw [eT9, eC9] at hPW9)
            (try have hPWL := hPW9 (by omega))
            have hF0 : x92.toInt = 0 → ∀ k : Nat, (k : Int) ≤ w_r0_1_E_6_10_n1_toNatClampNeg.toInt → (fun k => (I r0_1 (7 + 10 * n1.toNatClampNeg + k)).toInt) k = 0 := (by first | exact ff82_3 | (intro h9; exfalso; omega))
            have hF0 : (∀ k : Nat, (k : Int) ≤ w_r0_1_E_6_10_n1_toNatClampNeg.toInt → (fun k => (I r0_1 (7 + 10 * n1.toNatClampNeg + k)).toInt) k = 0) ∨ x92.toInt ≠ 0 := (by by_cases c9 : x92.toInt = 0; · exact Or.inl (hF0 c9); · exact Or.inr c9)
            have hP4 : 4 ≤ x92.toInt → ∀ m, m < 4 → ¬ EXN w_r0_1_0.toInt w_r0_1_E_6_10_n1_toNatClampNeg.toInt (BNI w_r0_1_E_6_10_n1_toNatClampNeg.toInt) (fun k => (I r0_1 (7 + 10 * n1.toNatClampNeg + k)).toInt) m := (by first | exact fun h9 m hm => ff82_0 m (by omega) | (intro h9; exfalso; omega))
            refine k_aload_n C rfl rfl rfl ?_
            refine g_I C rfl rfl rfl T_r0 rfl e93 ?_
            refine z_iconst C (z := 3) rfl rfl rfl (fun x126 ex126 => ?_)
            refine b_icmp_le C (t := 131) rfl rfl rfl (fun c127 => by exfalso; omega) (fun c127 => ?_)
            refine z_iconst C (z := -1) rfl rfl rfl (fun x128 ex128 => ?_)
            exact k_iret C rfl (Or.inl rfl) (Nat.le_of_ble_eq_true rfl) (Nat.le_of_ble_eq_true rfl) ⟨_, _, _, rfl, rfl, fun a1 h1 => by cases (R_r0_1.symm.trans h1); refine Or.inr (Or.inr ⟨by simp only [k0_r0_1_1]; omega, by simp only [k0_r0_1_E_6_10_n1_toNatClampNeg]; omega, by rw [e99]; omega, ?_⟩); simp only [k0_r0_1_0, k0_r0_1_E_6_10_n1_toNatClampNeg]; exact PWX.n4 (hP4 (by omega)) (by omega), hI90, (CM.cons S3 (CM.cons S14 (CM.cons S50 (CM.cons S63 (CM.cons S74 (CM.mono S89 (by decide) (by decide)) (by decide) (by decide)) (by decide) (by decide)) (by decide) (by decide)) (by decide) (by decide)) (by decide) (by decide))⟩
          refine k_aload_n C rfl rfl rfl ?_
          refine k_aload_n C rfl rfl rfl ?_
          refine g_I C rfl rfl rfl T_r0 rfl e93 ?_
          have hk102 := e100
          have hq102 := e97
          obtain ⟨m9, em9⟩ : ∃ m : Int, m = x92.toInt := ⟨_, rfl⟩
          have hm9 := ncz (x := x92) (by omega)
          have hPX : ∀ m : Nat, (m : Int) < m9 → ¬ EXN w_r0_1_0.toInt w_r0_1_E_6_10_n1_toNatClampNeg.toInt (BNI w_r0_1_E_6_10_n1_toNatClampNeg.toInt) (fun k => (I r0_1 (7 + 10 * n1.toNatClampNeg + k)).toInt) m := fun m hm => ff82_0 m (by omega)
          refine c_VI C (a_X12_isSum_x hI90 H_r0 (by omega) (by omega) (fun a4 h4 => by cases (R_r0_4.symm.trans h4); (by rw [e100]; omega)) (fun a4 h4 => by cases (R_r0_4.symm.trans h4); (by rw [e100]; omega)) (fun a1 a4 a5 h1 h4 h5 => by cases (R_r0_1.symm.trans h1); cases (R_r0_4.symm.trans h4); cases (R_r0_5.symm.trans h5); (by rw [e100, e97]; exact fun k hk => RWF.cn ff82_1 hcr k (by omega))) (fun a1 a4 a26 h1 h4 h26 => by cases (R_r0_1.symm.trans h1); cases (R_r0_4.symm.trans h4); cases (R_r0_26.symm.trans h26); (by rw [e100, e97]; exact PWT.mv ff82_2 (by omega) rfl))) rfl rfl rfl rfl rfl ⟨_, rfl, rfl, T_r0, Nat.le_of_ble_eq_true rfl⟩ rfl rfl (Nat.le_of_ble_eq_true rfl) (Nat.le_of_ble_eq_true rfl) (Nat.le_of_ble_eq_true rfl) ?_
          rintro x129 I130 L131 ⟨o0x129, o1x129, p0x129, p1x129, p2x129, p3x129, hI130, S132⟩
          have p0x129 := p0x129 r0_1 r0_4 r0_5 r0_27 r0_28 R_r0_1 R_r0_4 R_r0_5 R_r0_27 R_r0_28
          have p1x129 := p1x129 r0_1 r0_4 r0_5 R_r0_1 R_r0_4 R_r0_5
          have p2x129 := p2x129 r0_4 R_r0_4
          have p3x129 := p3x129 r0_5 R_r0_5
          have F133 : ∀ r : Nat, r ≠ 42 → I130 r0_4 r = I87 r0_4 r := fun r z0 => p2x129 r (by first | exact z0)
          have e134 := CM.j S132 R_r0_1 (by decide) e96
          have e135 := CM.j S132 R_r0_1 (by decide) e97
          have e136 := CM.j S132 R_r0_1 (by decide) e98
          have e137 := CM.k S132 (by decide) e99
          have e138 := (p2x129 40 (by first | decide | exact ncne (by omega) (by omega) (by omega) | exact nckn (by omega) (by omega) | exact (nckn (by omega) (by omega)).symm)).trans e100
          have e139 := CM.k S132 (by decide) e93
          have gx129 := rg x129
          try simp only [e96, e97, e98, e99, e100, e93] at p0x129
          try have q0x129 := congrArg Int32.toInt p0x129
          try simp only [e96, e97, e98, e99, e100, e93] at p1x129
          try have q1x129 := congrArg Int32.toInt p1x129
          have hs1 := p0x129
          have hs0 := p1x129
          (try rw [hk102, hq102] at hs1)
          (try rw [hk102, hq102] at hs0)
          have h5s := p3x129
          have h26s := CM.j0 S132 R_r0_26 (by decide)
          have hPW9 : x129.toInt = 1 → PWL w_r0_1_0.toInt w_r0_1_E_6_10_n1_toNatClampNeg.toInt (BNI w_r0_1_E_6_10_n1_toNatClampNeg.toInt) (fun k => (I r0_1 (7 + 10 * n1.toNatClampNeg + k)).toInt) m9.toNat (NF I130 r0_27) (NF I130 r0_28) := fun h9 => PWL.mv (hs1 h9) (by omega) (by omega) (fun k hk => ff82_1 k (by omega))
          have hPX0 : x129.toInt = 0 → ¬ EXN w_r0_1_0.toInt w_r0_1_E_6_10_n1_toNatClampNeg.toInt (BNI w_r0_1_E_6_10_n1_toNatClampNeg.toInt) (fun k => (I r0_1 (7 + 10 * n1.toNatClampNeg + k)).toInt) m9.toNat := fun h9 h8 => hs0 h9 (EXN.mv h8 (by omega) (by omega) (fun k hk => (ff82_1 k (by omega)).symm))
          refine b_if_ne C (t := 121) rfl rfl rfl (fun c140 => ?_) (fun c140 => ?_)
          · skip
            obtain ⟨T9, eT9⟩ : ∃ f : Nat → Int, NF I130 r0_27 = f := ⟨_, rfl⟩
            obtain ⟨C9, eC9⟩ : ∃ f : Nat → Int, NF I130 r0_28 = f := ⟨_, rfl⟩
            (try rw [eT9, eC9] at hPW9)
            (try have hPWL := hPW9 (by omega))
            have hF0 : x92.toInt = 0 → ∀ k : Nat, (k : Int) ≤ w_r0_1_E_6_10_n1_toNatClampNeg.toInt → (fun k => (I r0_1 (7 + 10 * n1.toNatClampNeg + k)).toInt) k = 0 := (by first | exact ff82_3 | (intro h9; exfalso; omega))
            have hF0 : (∀ k : Nat, (k : Int) ≤ w_r0_1_E_6_10_n1_toNatClampNeg.toInt → (fun k => (I r0_1 (7 + 10 * n1.toNatClampNeg + k)).toInt) k = 0) ∨ x92.toInt ≠ 0 := (by by_cases c9 : x92.toInt = 0; · exact Or.inl (hF0 c9); · exact Or.inr c9)
            have hP4 : 4 ≤ x92.toInt → ∀ m, m < 4 → ¬ EXN w_r0_1_0.toInt w_r0_1_E_6_10_n1_toNatClampNeg.toInt (BNI w_r0_1_E_6_10_n1_toNatClampNeg.toInt) (fun k => (I r0_1 (7 + 10 * n1.toNatClampNeg + k)).toInt) m := (by first | exact fun h9 m hm => ff82_0 m (by omega) | (intro h9; exfalso; omega))
            refine k_aload_n C rfl rfl rfl ?_
            refine g_I C rfl rfl rfl T_r0 rfl e139 ?_
            refine z_iconst C (z := 3) rfl rfl rfl (fun x141 ex141 => ?_)
            refine b_icmp_le C (t := 131) rfl rfl rfl (fun c142 => ?_) (fun c142 => by exfalso; omega)
            refine k_iload_n C rfl rfl rfl ?_
            refine b_if_ge C (t := 140) rfl rfl rfl (fun c143 => ?_) (fun c143 => ?_)
            · skip
              refine k_iload_n C rfl rfl rfl ?_
              refine z_iconst C (z := 0) rfl rfl rfl (fun x144 ex144 => ?_)
              refine k_aload_n C rfl rfl rfl ?_
              refine g_I C rfl rfl rfl T_r0 rfl e139 ?_
              refine z_iconst C (z := 1) rfl rfl rfl (fun x145 ex145 => ?_)
              refine z_isub C rfl rfl ⟨by omega, by omega⟩ (fun x146 ex146 => ?_)
              have q147 : x144.toNatClampNeg = 0 := nck (by omega)
              refine c_SI C a_X12_in rfl rfl rfl rfl rfl rfl rfl (Nat.le_of_ble_eq_true rfl) (Nat.le_of_ble_eq_true rfl) (Nat.le_of_ble_eq_true rfl) ?_
              rintro x148 _ _ ⟨o0x148, o1x148, p0x148, rfl, rfl⟩
              have gx148 := rg x148
              try simp only [q147, e134, e135, e136, e137, e138, e139] at p0x148
              try have q0x148 := congrArg Int32.toInt p0x148
              have hin148 := p0x148
              refine b_if_eq C (t := 163) rfl rfl rfl (fun c149 => ?_) (fun c149 => ?_)
              · skip
                refine k_iload_n C rfl rfl rfl ?_
                refine z_bipush C (z := 10) rfl rfl rfl (fun x150 ex150 => ?_)
                refine z_isub C rfl rfl ⟨by omega, by omega⟩ (fun x151 ex151 => ?_)
                refine z_iconst C (z := 0) rfl rfl rfl (fun x152 ex152 => ?_)
                refine k_aload_n C rfl rfl rfl ?_
                refine g_I C rfl rfl rfl T_r0 rfl e139 ?_
                refine z_iconst C (z := 1) rfl rfl rfl (fun x153 ex153 => ?_)
                refine z_isub C rfl rfl ⟨by omega, by omega⟩ (fun x154 ex154 => ?_)
                have q155 : x152.toNatClampNeg = 0 := nck (by omega)
                refine c_SI C a_X12_in rfl rfl rfl rfl rfl rfl rfl (Nat.le_of_ble_eq_true rfl) (Nat.le_of_ble_eq_true rfl) (Nat.le_of_ble_eq_true rfl) ?_
                rintro x156 _ _ ⟨o0x156, o1x156, p0x156, rfl, rfl⟩
                have gx156 := rg x156
                try simp only [q155, e134, e135, e136, e137, e138, e139] at p0x156
                try have q0x156 := congrArg Int32.toInt p0x156
                have hin174 := p0x156
                refine b_if_eq C (t := 192) rfl rfl rfl (fun c157 => ?_) (fun c157 => ?_)
                · skip
                  refine z_iconst C (z := -1) rfl rfl rfl (fun x158 ex158 => ?_)
                  exact k_iret C rfl (Or.inl rfl) (Nat.le_of_ble_eq_true rfl) (Nat.le_of_ble_eq_true rfl) ⟨_, _, _, rfl, rfl, fun a1 h1 => by cases (R_r0_1.symm.trans h1); refine Or.inr (Or.inr ⟨by simp only [k0_r0_1_1]; omega, by simp only [k0_r0_1_E_6_10_n1_toNatClampNeg]; omega, by rw [e137]; omega, ?_⟩); simp only [k0_r0_1_0, k0_r0_1_E_6_10_n1_toNatClampNeg]; first | (exfalso; omega) | exact PWX.r (n := m9.toNat) (fun m hm => hPX m (by omega)) (by omega) hPWL (by first | exact PWA.b (by omega) (by omega) hr159 | exact PWA.c (by omega) (by omega) hr188 | exact PWA.d (by omega) (by omega) (by omega) (by omega)) | exact PWX.r (n := 0) (fun m hm => absurd hm (Nat.not_lt_zero m)) (by omega) (PWL.z (ts := T9) (cs := C9) (hF0.resolve_right (by omega))) (by first | exact PWA.b (by omega) (by omega) hr159 | exact PWA.c (by omega) (by omega) hr188 | exact PWA.d (by omega) (by omega) (by omega) (by omega)), hI130, (CM.cons S3 (CM.cons S14 (CM.cons S50 (CM.cons S63 (CM.cons S74 (CM.cons S89 (CM.mono S132 (by decide) (by decide)) (by decide) (by decide)) (by decide) (by decide)) (by decide) (by decide)) (by decide) (by decide)) (by decide) (by decide)) (by decide) (by decide))⟩
                refine k_aload_n C rfl rfl rfl ?_
                refine g_R C rfl rfl rfl T_r0 rfl R_r0_28 ?_
                refine k_iload_n C rfl rfl rfl ?_
                refine z_bipush C (z := 10) rfl rfl rfl (fun x159 ex159 => ?_)
                refine z_isub C rfl rfl ⟨by omega, by omega⟩ (fun x160 ex160 => ?_)
                obtain ⟨T_r0_28, N_r0_28, A_r0_28⟩ := id H_r0_28
                refine z_aI C rfl rfl T_r0_28 N_r0_28 (by omega) (by omega) (fun x161 ex161 => ?_)
                have gx161 := rg x161
                have ox161 := IM.faR hI130 R_r0_28 ex161
                have hj188 : x160.toNatClampNeg = (n2.toInt - 10).toNat := (by have h9 := ncz (x := x160) (by omega); omega)
                have hr188 : x161.toInt = NF I130 r0_28 (n2.toInt - 10).toNat := (by rw [← hj188]; exact (congrArg Int32.toInt ex161).symm)
                rw [eC9] at hr188
                refine k_goto C (pc2 := 193) rfl rfl ?_
                exact k_iret C rfl (Or.inl rfl) (Nat.le_of_ble_eq_true rfl) (Nat.le_of_ble_eq_true rfl) ⟨_, _, _, rfl, rfl, fun a1 h1 => by cases (R_r0_1.symm.trans h1); refine Or.inr (Or.inr ⟨by simp only [k0_r0_1_1]; omega, by simp only [k0_r0_1_E_6_10_n1_toNatClampNeg]; omega, by rw [e137]; omega, ?_⟩); simp only [k0_r0_1_0, k0_r0_1_E_6_10_n1_toNatClampNeg]; first | (exfalso; omega) | exact PWX.r (n := m9.toNat) (fun m hm => hPX m (by omega)) (by omega) hPWL (by first | exact PWA.b (by omega) (by omega) hr159 | exact PWA.c (by omega) (by omega) hr188 | exact PWA.d (by omega) (by omega) (by omega) (by omega)) | exact PWX.r (n := 0) (fun m hm => absurd hm (Nat.not_lt_zero m)) (by omega) (PWL.z (ts := T9) (cs := C9) (hF0.resolve_right (by omega))) (by first | exact PWA.b (by omega) (by omega) hr159 | exact PWA.c (by omega) (by omega) hr188 | exact PWA.d (by omega) (by omega) (by omega) (by omega)), hI130, (CM.cons S3 (CM.cons S14 (CM.cons S50 (CM.cons S63 (CM.cons S74 (CM.cons S89 (CM.mono S132 (by decide) (by decide)) (by decide) (by decide)) (by decide) (by decide)) (by decide) (by decide)) (by decide) (by decide)) (by decide) (by decide)) (by decide) (by decide))⟩
              refine k_aload_n C rfl rfl rfl ?_
              refine g_R C rfl rfl rfl T_r0 rfl R_r0_27 ?_
              refine k_iload_n C rfl rfl rfl ?_
              obtain ⟨T_r0_27, N_r0_27, A_r0_27⟩ := id H_r0_27
              refine z_aI C rfl rfl T_r0_27 N_r0_27 (by omega) (by omega) (fun x162 ex162 => ?_)
              have gx162 := rg x162
              have ox162 := IM.spR hI130 R_r0_27 ex162
              have hr159 : x162.toInt = NF I130 r0_27 n2.toInt.toNat := (congrArg Int32.toInt ex162).symm
              rw [eT9] at hr159
              refine k_goto C (pc2 := 193) rfl rfl ?_
              exact k_iret C rfl (Or.inl rfl) (Nat.le_of_ble_eq_true rfl) (Nat.le_of_ble_eq_true rfl) ⟨_, _, _, rfl, rfl, fun a1 h1 => by cases (R_r0_1.symm.trans h1); refine Or.inr (Or.inr ⟨by simp only [k0_r0_1_1]; omega, by simp only [k0_r0_1_E_6_10_n1_toNatClampNeg]; omega, by rw [e137]; omega, ?_⟩); simp only [k0_r0_1_0, k0_r0_1_E_6_10_n1_toNatClampNeg]; first | (exfalso; omega) | exact PWX.r (n := m9.toNat) (fun m hm => hPX m (by omega)) (by omega) hPWL (by first | exact PWA.b (by omega) (by omega) hr159 | exact PWA.c (by omega) (by omega) hr188 | exact PWA.d (by omega) (by omega) (by omega) (by omega)) | exact PWX.r (n := 0) (fun m hm => absurd hm (Nat.not_lt_zero m)) (by omega) (PWL.z (ts := T9) (cs := C9) (hF0.resolve_right (by omega))) (by first | exact PWA.b (by omega) (by omega) hr159 | exact PWA.c (by omega) (by omega) hr188 | exact PWA.d (by omega) (by omega) (by omega) (by omega)), hI130, (CM.cons S3 (CM.cons S14 (CM.cons S50 (CM.cons S63 (CM.cons S74 (CM.cons S89 (CM.mono S132 (by decide) (by decide)) (by decide) (by decide)) (by decide) (by decide)) (by decide) (by decide)) (by decide) (by decide)) (by decide) (by decide)) (by decide) (by decide))⟩
            refine k_aload_n C rfl rfl rfl ?_
            refine g_I C rfl rfl rfl T_r0 rfl e139 ?_
            exact k_iret C rfl (Or.inl rfl) (Nat.le_of_ble_eq_true rfl) (Nat.le_of_ble_eq_true rfl) ⟨_, _, _, rfl, rfl, fun a1 h1 => by cases (R_r0_1.symm.trans h1); refine Or.inr (Or.inr ⟨by simp only [k0_r0_1_1]; omega, by simp only [k0_r0_1_E_6_10_n1_toNatClampNeg]; omega, by rw [e137]; omega, ?_⟩); simp only [k0_r0_1_0, k0_r0_1_E_6_10_n1_toNatClampNeg]; first | (exfalso; omega) | exact PWX.r (n := m9.toNat) (fun m hm => hPX m (by omega)) (by omega) hPWL (PWA.a (by omega) (by omega)) | exact PWX.r (n := 0) (fun m hm => absurd hm (Nat.not_lt_zero m)) (by omega) (PWL.z (ts := T9) (cs := C9) (hF0.resolve_right (by omega))) (PWA.a (by omega) (by omega)), hI130, (CM.cons S3 (CM.cons S14 (CM.cons S50 (CM.cons S63 (CM.cons S74 (CM.cons S89 (CM.mono S132 (by decide) (by decide)) (by decide) (by decide)) (by decide) (by decide)) (by decide) (by decide)) (by decide) (by decide)) (by decide) (by decide)) (by decide) (by decide))⟩
          refine k_aload_n C rfl rfl rfl ?_
          refine k_dup C rfl rfl rfl ?_
          refine g_I C rfl rfl rfl T_r0 rfl e139 ?_
          refine z_iconst C (z := 1) rfl rfl rfl (fun x163 ex163 => ?_)
          refine z_iadd C rfl rfl ⟨by omega, by omega⟩ (fun x164 ex164 => ?_)
          refine z_pI C rfl rfl rfl T_r0 (Or.inr rfl) rfl (fun I165 uI165 => ?_)
          have hI165 : IM R r0 I165 := IM.fld hI130 G_r0 ⟨(fun h => absurd h (by decide)), (fun h => absurd h (by decide)), (fun h => absurd h (by decide)), (fun h => absurd h (by decide)), (fun h => absurd h (by decide))⟩ uI165
          have S166 : CM A R r0 [29] [] I130 L131 I165 L131 := CM.f G_r0 A_r0 uI165
          have e167 := u2_n uI165 (mF.ne G_r0 R_r0_1) e134
          have e168 := u2_n uI165 (mF.ne G_r0 R_r0_1) e135
          have e169 := u2_n uI165 (mF.ne G_r0 R_r0_1) e136
          have e170 := u2_j uI165 (by first | decide | exact ncne (by omega) (by omega) (by omega) | exact nckn (by omega) (by omega) | exact (nckn (by omega) (by omega)).symm) e137
          have e171 := u2_n uI165 (mF.ne G_r0 R_r0_4) e138
          have e173 := u2_e uI165
          refine k_goto C (pc2 := 82) rfl rfl ?_
          refine k_sub S [(0, .ref r0), (2, .int n2)] (List.forall_mem_cons.mpr ⟨List.mem_of_getElem? (i := 0) rfl, List.forall_mem_cons.mpr ⟨List.mem_of_getElem? (i := 1) rfl, fun _ h => nomatch h⟩⟩) ?_
          exact ihJ85 _ (by omega) I165 L131 x164 rfl hI165 (CM.cons S89 (CM.cons S132 (CM.mono S166 (by decide) (by decide)) (by decide) (by decide)) (by decide) (by decide)) (fun r z0 => ((congrFun (CM.j0 S166 R_r0_4 (by decide)) r).trans ((F133 r z0).trans (F91 r z0)))) e173 (by omega) (by omega) (by intro m hm; by_cases c9 : (m : Int) < m9; · exact hPX m c9; · (have e9 : m = m9.toNat := (by omega); rw [e9]; exact hPX0 (by omega))) (by exact RWF.sm ff82_1 (fun k hk => h5s _ (by omega)) (by omega)) (by exact PWT.mv ff82_2 rfl h26s.symm) (by intro h9; exfalso; omega)
      refine z_pI C rfl rfl rfl T_r0 (Or.inr rfl) rfl (fun I174 uI174 => ?_)
      have hI174 : IM R r0 I174 := IM.fld hI72 G_r0 ⟨(fun h => absurd h (by decide)), (fun h => absurd h (by decide)), (fun h => absurd h (by decide)), (fun h => absurd h (by decide)), (fun h => absurd h (by decide))⟩ uI174
      have S175 : CM A R r0 [29] [] I72 L73 I174 L73 := CM.f G_r0 A_r0 uI174
      have e176 := u2_n uI174 (mF.ne G_r0 R_r0_1) e75
      have e177 := u2_n uI174 (mF.ne G_r0 R_r0_1) e76
      have e178 := u2_n uI174 (mF.ne G_r0 R_r0_1) e77
      have e179 := u2_j uI174 (by first | decide | exact ncne (by omega) (by omega) (by omega) | exact nckn (by omega) (by omega) | exact (nckn (by omega) (by omega)).symm) e78
      have e180 := u2_n uI174 (mF.ne G_r0 R_r0_4) e79
      have e181 := u2_e uI174
      refine k_sub S [(0, .ref r0), (2, .int n2)] (List.forall_mem_cons.mpr ⟨List.mem_of_getElem? (i := 0) rfl, List.forall_mem_cons.mpr ⟨List.mem_of_getElem? (i := 2) rfl, fun _ h => nomatch h⟩⟩) ?_
      exact J85 _ I174 L73 x84 rfl hI174 (CM.mono S175 (by decide) (by decide)) (fun r z0 => (congrFun (CM.j0 S175 R_r0_4 (by decide)) r)) e181 (by omega) (by omega) (by intro m hm hx; exact (hN.2 (by omega)) (fun k hk => ((EXN.z0.mp ((show m = 0 from by omega) ▸ hx)) k (by omega)).z0 (hcr k (by omega)).1 (hcr k (by omega)).2)) (by exact hRWr) (by exact PWT.mv hpt (by omega) rfl) (by intro h9 k hk; exact (hN.1 (by omega)) k (by omega))
    refine z_iconst C (z := 0) rfl rfl rfl (fun x182 ex182 => ?_)
    refine k_goto C (pc2 := 79) rfl rfl ?_
    have J183 : ∀ (nn184 : Nat) (I185 : IT) (L186 : LT) (x190 : Int32), ((4 - x190.toInt).toNat = nn184) → (IM R r0 I185) → (CM A R r0 [29] [4, 5, 27, 28] I72 L73 I185 L186) → (∀ r : Nat, r ≠ 42 → I185 r0_4 r = I72 r0_4 r) → (I185 r0 29 = x190) → (0 ≤ x190.toInt) → (x190.toInt ≤ 4) → ((∀ m : Nat, (m : Int) < x190.toInt → ¬ EXN w_r0_1_0.toInt w_r0_1_E_6_10_n1_toNatClampNeg.toInt (BNI w_r0_1_E_6_10_n1_toNatClampNeg.toInt) (fun k => (I r0_1 (7 + 10 * n1.toNatClampNeg + k)).toInt) m)) → (RWF I185 r0_5 40 w_r0_1_E_6_10_n1_toNatClampNeg.toInt (fun k => (I r0_1 (7 + 10 * n1.toNatClampNeg + k)).toInt)) → (PWT (I185 r0_26) w_r0_1_0.toInt w_r0_1_E_6_10_n1_toNatClampNeg.toInt (w_r0_1_0.toInt + 1)) → (x190.toInt = 0 → ∀ k : Nat, (k : Int) ≤ w_r0_1_E_6_10_n1_toNatClampNeg.toInt → (fun k => (I r0_1 (7 + 10 * n1.toNatClampNeg + k)).toInt) k = 0) → V 82 [(0, .ref r0), (2, .int n2)] [] (T, N, I185, L186, R) 0 0 := by
      intro nn184
      induction nn184 using Nat.strongRecOn with
      | _ nn184 ihJ183 =>
        intro I185 L186 x190 hmnn184 hI188 S187 F189 e191 b192 b193 ff82_0 ff82_1 ff82_2 ff82_3
        have gx190 := rg x190
        have e194 := CM.j S187 R_r0_1 (by decide) e75
        have e195 := CM.j S187 R_r0_1 (by decide) e76
        have e196 := CM.j S187 R_r0_1 (by decide) e77
        have e197 := CM.k S187 (by decide) e78
        have e198 := (F189 40 (by first | decide | exact ncne (by omega) (by omega) (by omega) | exact nckn (by omega) (by omega) | exact (nckn (by omega) (by omega)).symm)).trans e79
        refine k_aload_n C rfl rfl rfl ?_
        refine g_I C rfl rfl rfl T_r0 rfl e191 ?_
        refine b_if_le C (t := 121) rfl rfl rfl (fun c199 => ?_) (fun c199 => ?_)
        · skip
          obtain ⟨T9, eT9⟩ : ∃ f : Nat → Int, NF I185 r0_27 = f := ⟨_, rfl⟩
          obtain ⟨C9, eC9⟩ : ∃ f : Nat → Int, NF I185 r0_28 = f := ⟨_, rfl⟩
          (try rw [eT9, eC9] at hPW9)
          (try have hPWL := hPW9 (by omega))
          have hF0 : x190.toInt = 0 → ∀ k : Nat, (k : Int) ≤ w_r0_1_E_6_10_n1_toNatClampNeg.toInt → (fun k => (I r0_1 (7 + 10 * n1.toNatClampNeg + k)).toInt) k = 0 := (by first | exact ff82_3 | (intro h9; exfalso; omega))
          have hF0 : (∀ k : Nat, (k : Int) ≤ w_r0_1_E_6_10_n1_toNatClampNeg.toInt → (fun k => (I r0_1 (7 + 10 * n1.toNatClampNeg + k)).toInt) k = 0) ∨ x190.toInt ≠ 0 := (by by_cases c9 : x190.toInt = 0; · exact Or.inl (hF0 c9); · exact Or.inr c9)
          have hP4 : 4 ≤ x190.toInt → ∀ m, m < 4 → ¬ EXN w_r0_1_0.toInt w_r0_1_E_6_10_n1_toNatClampNeg.toInt (BNI w_r0_1_E_6_10_n1_toNatClampNeg.toInt) (fun k => (I r0_1 (7 + 10 * n1.toNatClampNeg + k)).toInt) m := (by first | exact fun h9 m hm => ff82_0 m (by omega) | (intro h9; exfalso; omega))
          refine k_aload_n C rfl rfl rfl ?_
          refine g_I C rfl rfl rfl T_r0 rfl e191 ?_
          refine z_iconst C (z := 3) rfl rfl rfl (fun x200 ex200 => ?_)
          refine b_icmp_le C (t := 131) rfl rfl rfl (fun c201 => ?_) (fun c201 => by exfalso; omega)
          refine k_iload_n C rfl rfl rfl ?_
          refine b_if_ge C (t := 140) rfl rfl rfl (fun c202 => ?_) (fun c202 => ?_)
          · skip
            refine k_iload_n C rfl rfl rfl ?_
            refine z_iconst C (z := 0) rfl rfl rfl (fun x203 ex203 => ?_)
            refine k_aload_n C rfl rfl rfl ?_
            refine g_I C rfl rfl rfl T_r0 rfl e191 ?_
            refine z_iconst C (z := 1) rfl rfl rfl (fun x204 ex204 => ?_)
            refine z_isub C rfl rfl ⟨by omega, by omega⟩ (fun x205 ex205 => ?_)
            have q206 : x203.toNatClampNeg = 0 := nck (by omega)
            refine c_SI C a_X12_in rfl rfl rfl rfl rfl rfl rfl (Nat.le_of_ble_eq_true rfl) (Nat.le_of_ble_eq_true rfl) (Nat.le_of_ble_eq_true rfl) ?_
            rintro x207 _ _ ⟨o0x207, o1x207, p0x207, rfl, rfl⟩
            have gx207 := rg x207
            try simp only [q206, e194, e195, e196, e197, e198, e191] at p0x207
            try have q0x207 := congrArg Int32.toInt p0x207
            have hin148 := p0x207
            refine b_if_eq C (t := 163) rfl rfl rfl (fun c208 => ?_) (fun c208 => ?_)
            · skip
              refine k_iload_n C rfl rfl rfl ?_
              refine z_bipush C (z := 10) rfl rfl rfl (fun x209 ex209 => ?_)
              refine z_isub C rfl rfl ⟨by omega, by omega⟩ (fun x210 ex210 => ?_)
              refine z_iconst C (z := 0) rfl rfl rfl (fun x211 ex211 => ?_)
              refine k_aload_n C rfl rfl rfl ?_
              refine g_I C rfl rfl rfl T_r0 rfl e191 ?_
              refine z_iconst C (z := 1) rfl rfl rfl (fun x212 ex212 => ?_)
              refine z_isub C rfl rfl ⟨by omega, by omega⟩ (fun x213 ex213 => ?_)
              have q214 : x211.toNatClampNeg = 0 := nck (by omega)
              refine c_SI C a_X12_in rfl rfl rfl rfl rfl rfl rfl (Nat.le_of_ble_eq_true rfl) (Nat.le_of_ble_eq_true rfl) (Nat.le_of_ble_eq_true rfl) ?_
              rintro x215 _ _ ⟨o0x215, o1x215, p0x215, rfl, rfl⟩
              have gx215 := rg x215
              try simp only [q214, e194, e195, e196, e197, e198, e191] at p0x215
              try have q0x215 := congrArg Int32.toInt p0x215
              have hin174 := p0x215
              refine b_if_eq C (t := 192) rfl rfl rfl (fun c216 => ?_) (fun c216 => ?_)
              · skip
                refine z_iconst C (z := -1) rfl rfl rfl (fun x217 ex217 => ?_)
                exact k_iret C rfl (Or.inl rfl) (Nat.le_of_ble_eq_true rfl) (Nat.le_of_ble_eq_true rfl) ⟨_, _, _, rfl, rfl, fun a1 h1 => by cases (R_r0_1.symm.trans h1); refine Or.inr (Or.inr ⟨by simp only [k0_r0_1_1]; omega, by simp only [k0_r0_1_E_6_10_n1_toNatClampNeg]; omega, by rw [e197]; omega, ?_⟩); simp only [k0_r0_1_0, k0_r0_1_E_6_10_n1_toNatClampNeg]; first | (exfalso; omega) | exact PWX.r (n := m9.toNat) (fun m hm => hPX m (by omega)) (by omega) hPWL (by first | exact PWA.b (by omega) (by omega) hr159 | exact PWA.c (by omega) (by omega) hr188 | exact PWA.d (by omega) (by omega) (by omega) (by omega)) | exact PWX.r (n := 0) (fun m hm => absurd hm (Nat.not_lt_zero m)) (by omega) (PWL.z (ts := T9) (cs := C9) (hF0.resolve_right (by omega))) (by first | exact PWA.b (by omega) (by omega) hr159 | exact PWA.c (by omega) (by omega) hr188 | exact PWA.d (by omega) (by omega) (by omega) (by omega)), hI188, (CM.cons S3 (CM.cons S14 (CM.cons S50 (CM.cons S63 (CM.cons S74 (CM.mono S187 (by decide) (by decide)) (by decide) (by decide)) (by decide) (by decide)) (by decide) (by decide)) (by decide) (by decide)) (by decide) (by decide))⟩
              refine k_aload_n C rfl rfl rfl ?_
              refine g_R C rfl rfl rfl T_r0 rfl R_r0_28 ?_
              refine k_iload_n C rfl rfl rfl ?_
              refine z_bipush C (z := 10) rfl rfl rfl (fun x218 ex218 => ?_)
              refine z_isub C rfl rfl ⟨by omega, by omega⟩ (fun x219 ex219 => ?_)
              obtain ⟨T_r0_28, N_r0_28, A_r0_28⟩ := id H_r0_28
              refine z_aI C rfl rfl T_r0_28 N_r0_28 (by omega) (by omega) (fun x220 ex220 => ?_)
              have gx220 := rg x220
              have ox220 := IM.faR hI188 R_r0_28 ex220
              have hj188 : x219.toNatClampNeg = (n2.toInt - 10).toNat := (by have h9 := ncz (x := x219) (by omega); omega)
              have hr188 : x220.toInt = NF I185 r0_28 (n2.toInt - 10).toNat := (by rw [← hj188]; exact (congrArg Int32.toInt ex220).symm)
              rw [eC9] at hr188
              refine k_goto C (pc2 := 193) rfl rfl ?_
              exact k_iret C rfl (Or.inl rfl) (Nat.le_of_ble_eq_true rfl) (Nat.le_of_ble_eq_true rfl) ⟨_, _, _, rfl, rfl, fun a1 h1 => by cases (R_r0_1.symm.trans h1); refine Or.inr (Or.inr ⟨by simp only [k0_r0_1_1]; omega, by simp only [k0_r0_1_E_6_10_n1_toNatClampNeg]; omega, by rw [e197]; omega, ?_⟩); simp only [k0_r0_1_0, k0_r0_1_E_6_10_n1_toNatClampNeg]; first | (exfalso; omega) | exact PWX.r (n := m9.toNat) (fun m hm => hPX m (by omega)) (by omega) hPWL (by first | exact PWA.b (by omega) (by omega) hr159 | exact PWA.c (by omega) (by omega) hr188 | exact PWA.d (by omega) (by omega) (by omega) (by omega)) | exact PWX.r (n := 0) (fun m hm => absurd hm (Nat.not_lt_zero m)) (by omega) (PWL.z (ts := T9) (cs := C9) (hF0.resolve_right (by omega))) (by first | exact PWA.b (by omega) (by omega) hr159 | exact PWA.c (by omega) (by omega) hr188 | exact PWA.d (by omega) (by omega) (by omega) (by omega)), hI188, (CM.cons S3 (CM.cons S14 (CM.cons S50 (CM.cons S63 (CM.cons S74 (CM.mono S187 (by decide) (by decide)) (by decide) (by decide)) (by decide) (by decide)) (by decide) (by decide)) (by decide) (by decide)) (by decide) (by decide))⟩
            refine k_aload_n C rfl rfl rfl ?_
            refine g_R C rfl rfl rfl T_r0 rfl R_r0_27 ?_
            refine k_iload_n C rfl rfl rfl ?_
            obtain ⟨T_r0_27, N_r0_27, A_r0_27⟩ := id H_r0_27
            refine z_aI C rfl rfl T_r0_27 N_r0_27 (by omega) (by omega) (fun x221 ex221 => ?_)
            have gx221 := rg x221
            have ox221 := IM.spR hI188 R_r0_27 ex221
            have hr159 : x221.toInt = NF I185 r0_27 n2.toInt.toNat := (congrArg Int32.toInt ex221).symm
            rw [eT9] at hr159
            refine k_goto C (pc2 := 193) rfl rfl ?_
            exact k_iret C rfl (Or.inl rfl) (Nat.le_of_ble_eq_true rfl) (Nat.le_of_ble_eq_true rfl) ⟨_, _, _, rfl, rfl, fun a1 h1 => by cases (R_r0_1.symm.trans h1); refine Or.inr (Or.inr ⟨by simp only [k0_r0_1_1]; omega, by simp only [k0_r0_1_E_6_10_n1_toNatClampNeg]; omega, by rw [e197]; omega, ?_⟩); simp only [k0_r0_1_0, k0_r0_1_E_6_10_n1_toNatClampNeg]; first | (exfalso; omega) | exact PWX.r (n := m9.toNat) (fun m hm => hPX m (by omega)) (by omega) hPWL (by first | exact PWA.b (by omega) (by omega) hr159 | exact PWA.c (by omega) (by omega) hr188 | exact PWA.d (by omega) (by omega) (by omega) (by omega)) | exact PWX.r (n := 0) (fun m hm => absurd hm (Nat.not_lt_zero m)) (by omega) (PWL.z (ts := T9) (cs := C9) (hF0.resolve_right (by omega))) (by first | exact PWA.b (by omega) (by omega) hr159 | exact PWA.c (by omega) (by omega) hr188 | exact PWA.d (by omega) (by omega) (by omega) (by omega)), hI188, (CM.cons S3 (CM.cons S14 (CM.cons S50 (CM.cons S63 (CM.cons S74 (CM.mono S187 (by decide) (by decide)) (by decide) (by decide)) (by decide) (by decide)) (by decide) (by decide)) (by decide) (by decide)) (by decide) (by decide))⟩
          refine k_aload_n C rfl rfl rfl ?_
          refine g_I C rfl rfl rfl T_r0 rfl e191 ?_
          exact k_iret C rfl (Or.inl rfl) (Nat.le_of_ble_eq_true rfl) (Nat.le_of_ble_eq_true rfl) ⟨_, _, _, rfl, rfl, fun a1 h1 => by cases (R_r0_1.symm.trans h1); refine Or.inr (Or.inr ⟨by simp only [k0_r0_1_1]; omega, by simp only [k0_r0_1_E_6_10_n1_toNatClampNeg]; omega, by rw [e197]; omega, ?_⟩); simp only [k0_r0_1_0, k0_r0_1_E_6_10_n1_toNatClampNeg]; first | (exfalso; omega) | exact PWX.r (n := m9.toNat) (fun m hm => hPX m (by omega)) (by omega) hPWL (PWA.a (by omega) (by omega)) | exact PWX.r (n := 0) (fun m hm => absurd hm (Nat.not_lt_zero m)) (by omega) (PWL.z (ts := T9) (cs := C9) (hF0.resolve_right (by omega))) (PWA.a (by omega) (by omega)), hI188, (CM.cons S3 (CM.cons S14 (CM.cons S50 (CM.cons S63 (CM.cons S74 (CM.mono S187 (by decide) (by decide)) (by decide) (by decide)) (by decide) (by decide)) (by decide) (by decide)) (by decide) (by decide)) (by decide) (by decide))⟩
        refine k_aload_n C rfl rfl rfl ?_
        refine g_I C rfl rfl rfl T_r0 rfl e191 ?_
        refine z_iconst C (z := 4) rfl rfl rfl (fun x222 ex222 => ?_)
        refine b_icmp_ge C (t := 121) rfl rfl rfl (fun c223 => ?_) (fun c223 => ?_)
        · skip
          obtain ⟨T9, eT9⟩ : ∃ f : Nat → Int, NF I185 r0_27 = f := ⟨_, rfl⟩
          obtain ⟨C9, eC9⟩ : ∃ f : Nat → Int, NF I185 r0_28 = f := ⟨_, rfl⟩
          (try rw [eT9, eC9] at hPW9)
          (try have hPWL := hPW9 (by omega))
          have hF0 : x190.toInt = 0 → ∀ k : Nat, (k : Int) ≤ w_r0_1_E_6_10_n1_toNatClampNeg.toInt → (fun k => (I r0_1 (7 + 10 * n1.toNatClampNeg + k)).toInt) k = 0 := (by first | exact ff82_3 | (intro h9; exfalso; omega))
          have hF0 : (∀ k : Nat, (k : Int) ≤ w_r0_1_E_6_10_n1_toNatClampNeg.toInt → (fun k => (I r0_1 (7 + 10 * n1.toNatClampNeg + k)).toInt) k = 0) ∨ x190.toInt ≠ 0 := (by by_cases c9 : x190.toInt = 0; · exact Or.inl (hF0 c9); · exact Or.inr c9)
          have hP4 : 4 ≤ x190.toInt → ∀ m, m < 4 → ¬ EXN w_r0_1_0.toInt w_r0_1_E_6_10_n1_toNatClampNeg.toInt (BNI w_r0_1_E_6_10_n1_toNatClampNeg.toInt) (fun k => (I r0_1 (7 + 10 * n1.toNatClampNeg + k)).toInt) m := (by first | exact fun h9 m hm => ff82_0 m (by omega) | (intro h9; exfalso; omega))
          refine k_aload_n C rfl rfl rfl ?_
          refine g_I C rfl rfl rfl T_r0 rfl e191 ?_
          refine z_iconst C (z := 3) rfl rfl rfl (fun x224 ex224 => ?_)
          refine b_icmp_le C (t := 131) rfl rfl rfl (fun c225 => by exfalso; omega) (fun c225 => ?_)
          refine z_iconst C (z := -1) rfl rfl rfl (fun x226 ex226 => ?_)
          exact k_iret C rfl (Or.inl rfl) (Nat.le_of_ble_eq_true rfl) (Nat.le_of_ble_eq_true rfl) ⟨_, _, _, rfl, rfl, fun a1 h1 => by cases (R_r0_1.symm.trans h1); refine Or.inr (Or.inr ⟨by simp only [k0_r0_1_1]; omega, by simp only [k0_r0_1_E_6_10_n1_toNatClampNeg]; omega, by rw [e197]; omega, ?_⟩); simp only [k0_r0_1_0, k0_r0_1_E_6_10_n1_toNatClampNeg]; exact PWX.n4 (hP4 (by omega)) (by omega), hI188, (CM.cons S3 (CM.cons S14 (CM.cons S50 (CM.cons S63 (CM.cons S74 (CM.mono S187 (by decide) (by decide)) (by decide) (by decide)) (by decide) (by decide)) (by decide) (by decide)) (by decide) (by decide)) (by decide) (by decide))⟩
        refine k_aload_n C rfl rfl rfl ?_
        refine k_aload_n C rfl rfl rfl ?_
        refine g_I C rfl rfl rfl T_r0 rfl e191 ?_
        have hk102 := e198
        have hq102 := e195
        obtain ⟨m9, em9⟩ : ∃ m : Int, m = x190.toInt := ⟨_, rfl⟩
        have hm9 := ncz (x := x190) (by omega)
        have hPX : ∀ m : Nat, (m : Int) < m9 → ¬ EXN w_r0_1_0.toInt w_r0_1_E_6_10_n1_toNatClampNeg.toInt (BNI w_r0_1_E_6_10_n1_toNatClampNeg.toInt) (fun k => (I r0_1 (7 + 10 * n1.toNatClampNeg + k)).toInt) m := fun m hm => ff82_0 m (by omega)
        refine c_VI C (a_X12_isSum_x hI188 H_r0 (by omega) (by omega) (fun a4 h4 => by cases (R_r0_4.symm.trans h4); (by rw [e198]; omega)) (fun a4 h4 => by cases (R_r0_4.symm.trans h4); (by rw [e198]; omega)) (fun a1 a4 a5 h1 h4 h5 => by cases (R_r0_1.symm.trans h1); cases (R_r0_4.symm.trans h4); cases (R_r0_5.symm.trans h5); (by rw [e198, e195]; exact fun k hk => RWF.cn ff82_1 hcr k (by omega))) (fun a1 a4 a26 h1 h4 h26 => by cases (R_r0_1.symm.trans h1); cases (R_r0_4.symm.trans h4); cases (R_r0_26.symm.trans h26); (by rw [e198, e195]; exact PWT.mv ff82_2 (by omega) rfl))) rfl rfl rfl rfl rfl ⟨_, rfl, rfl, T_r0, Nat.le_of_ble_eq_true rfl⟩ rfl rfl (Nat.le_of_ble_eq_true rfl) (Nat.le_of_ble_eq_true rfl) (Nat.le_of_ble_eq_true rfl) ?_
        rintro x227 I228 L229 ⟨o0x227, o1x227, p0x227, p1x227, p2x227, p3x227, hI228, S230⟩
        have p0x227 := p0x227 r0_1 r0_4 r0_5 r0_27 r0_28 R_r0_1 R_r0_4 R_r0_5 R_r0_27 R_r0_28
        have p1x227 := p1x227 r0_1 r0_4 r0_5 R_r0_1 R_r0_4 R_r0_5
        have p2x227 := p2x227 r0_4 R_r0_4
        have p3x227 := p3x227 r0_5 R_r0_5
        have F231 : ∀ r : Nat, r ≠ 42 → I228 r0_4 r = I185 r0_4 r := fun r z0 => p2x227 r (by first | exact z0)
        have e232 := CM.j S230 R_r0_1 (by decide) e194
        have e233 := CM.j S230 R_r0_1 (by decide) e195
        have e234 := CM.j S230 R_r0_1 (by decide) e196
        have e235 := CM.k S230 (by decide) e197
        have e236 := (p2x227 40 (by first | decide | exact ncne (by omega) (by omega) (by omega) | exact nckn (by omega) (by omega) | exact (nckn (by omega) (by omega)).symm)).trans e198
        have e237 := CM.k S230 (by decide) e191
        have gx227 := rg x227
        try simp only [e194, e195, e196, e197, e198, e191] at p0x227
        try have q0x227 := congrArg Int32.toInt p0x227
        try simp only [e194, e195, e196, e197, e198, e191] at p1x227
        try have q1x227 := congrArg Int32.toInt p1x227
        have hs1 := p0x227
        have hs0 := p1x227
        (try rw [hk102, hq102] at hs1)
        (try rw [hk102, hq102] at hs0)
        have h5s := p3x227
        have h26s := CM.j0 S230 R_r0_26 (by decide)
        have hPW9 : x227.toInt = 1 → PWL w_r0_1_0.toInt w_r0_1_E_6_10_n1_toNatClampNeg.toInt (BNI w_r0_1_E_6_10_n1_toNatClampNeg.toInt) (fun k => (I r0_1 (7 + 10 * n1.toNatClampNeg + k)).toInt) m9.toNat (NF I228 r0_27) (NF I228 r0_28) := fun h9 => PWL.mv (hs1 h9) (by omega) (by omega) (fun k hk => ff82_1 k (by omega))
        have hPX0 : x227.toInt = 0 → ¬ EXN w_r0_1_0.toInt w_r0_1_E_6_10_n1_toNatClampNeg.toInt (BNI w_r0_1_E_6_10_n1_toNatClampNeg.toInt) (fun k => (I r0_1 (7 + 10 * n1.toNatClampNeg + k)).toInt) m9.toNat := fun h9 h8 => hs0 h9 (EXN.mv h8 (by omega) (by omega) (fun k hk => (ff82_1 k (by omega)).symm))
        refine b_if_ne C (t := 121) rfl rfl rfl (fun c238 => ?_) (fun c238 => ?_)
        · skip
          obtain ⟨T9, eT9⟩ : ∃ f : Nat → Int, NF I228 r0_27 = f := ⟨_, rfl⟩
          obtain ⟨C9, eC9⟩ : ∃ f : Nat → Int, NF I228 r0_28 = f := ⟨_, rfl⟩
          (try rw [eT9, eC9] at hPW9)
          (try have hPWL := hPW9 (by omega))
          have hF0 : x190.toInt = 0 → ∀ k : Nat, (k : Int) ≤ w_r0_1_E_6_10_n1_toNatClampNeg.toInt → (fun k => (I r0_1 (7 + 10 * n1.toNatClampNeg + k)).toInt) k = 0 := (by first | exact ff82_3 | (intro h9; exfalso; omega))
          have hF0 : (∀ k : Nat, (k : Int) ≤ w_r0_1_E_6_10_n1_toNatClampNeg.toInt → (fun k => (I r0_1 (7 + 10 * n1.toNatClampNeg + k)).toInt) k = 0) ∨ x190.toInt ≠ 0 := (by by_cases c9 : x190.toInt = 0; · exact Or.inl (hF0 c9); · exact Or.inr c9)
          have hP4 : 4 ≤ x190.toInt → ∀ m, m < 4 → ¬ EXN w_r0_1_0.toInt w_r0_1_E_6_10_n1_toNatClampNeg.toInt (BNI w_r0_1_E_6_10_n1_toNatClampNeg.toInt) (fun k => (I r0_1 (7 + 10 * n1.toNatClampNeg + k)).toInt) m := (by first | exact fun h9 m hm => ff82_0 m (by omega) | (intro h9; exfalso; omega))
          refine k_aload_n C rfl rfl rfl ?_
          refine g_I C rfl rfl rfl T_r0 rfl e237 ?_
          refine z_iconst C (z := 3) rfl rfl rfl (fun x239 ex239 => ?_)
          refine b_icmp_le C (t := 131) rfl rfl rfl (fun c240 => ?_) (fun c240 => by exfalso; omega)
          refine k_iload_n C rfl rfl rfl ?_
          refine b_if_ge C (t := 140) rfl rfl rfl (fun c241 => ?_) (fun c241 => ?_)
          · skip
            refine k_iload_n C rfl rfl rfl ?_
            refine z_iconst C (z := 0) rfl rfl rfl (fun x242 ex242 => ?_)
            refine k_aload_n C rfl rfl rfl ?_
            refine g_I C rfl rfl rfl T_r0 rfl e237 ?_
            refine z_iconst C (z := 1) rfl rfl rfl (fun x243 ex243 => ?_)
            refine z_isub C rfl rfl ⟨by omega, by omega⟩ (fun x244 ex244 => ?_)
            have q245 : x242.toNatClampNeg = 0 := nck (by omega)
            refine c_SI C a_X12_in rfl rfl rfl rfl rfl rfl rfl (Nat.le_of_ble_eq_true rfl) (Nat.le_of_ble_eq_true rfl) (Nat.le_of_ble_eq_true rfl) ?_
            rintro x246 _ _ ⟨o0x246, o1x246, p0x246, rfl, rfl⟩
            have gx246 := rg x246
            try simp only [q245, e232, e233, e234, e235, e236, e237] at p0x246
            try have q0x246 := congrArg Int32.toInt p0x246
            have hin148 := p0x246
            refine b_if_eq C (t := 163) rfl rfl rfl (fun c247 => ?_) (fun c247 => ?_)
            · skip
              refine k_iload_n C rfl rfl rfl ?_
              refine z_bipush C (z := 10) rfl rfl rfl (fun x248 ex248 => ?_)
              refine z_isub C rfl rfl ⟨by omega, by omega⟩ (fun x249 ex249 => ?_)
              refine z_iconst C (z := 0) rfl rfl rfl (fun x250 ex250 => ?_)
              refine k_aload_n C rfl rfl rfl ?_
              refine g_I C rfl rfl rfl T_r0 rfl e237 ?_
              refine z_iconst C (z := 1) rfl rfl rfl (fun x251 ex251 => ?_)
              refine z_isub C rfl rfl ⟨by omega, by omega⟩ (fun x252 ex252 => ?_)
              have q253 : x250.toNatClampNeg = 0 := nck (by omega)
              refine c_SI C a_X12_in rfl rfl rfl rfl rfl rfl rfl (Nat.le_of_ble_eq_true rfl) (Nat.le_of_ble_eq_true rfl) (Nat.le_of_ble_eq_true rfl) ?_
              rintro x254 _ _ ⟨o0x254, o1x254, p0x254, rfl, rfl⟩
              have gx254 := rg x254
              try simp only [q253, e232, e233, e234, e235, e236, e237] at p0x254
              try have q0x254 := congrArg Int32.toInt p0x254
              have hin174 := p0x254
              refine b_if_eq C (t := 192) rfl rfl rfl (fun c255 => ?_) (fun c255 => ?_)
              · skip
                refine z_iconst C (z := -1) rfl rfl rfl (fun x256 ex256 => ?_)
                exact k_iret C rfl (Or.inl rfl) (Nat.le_of_ble_eq_true rfl) (Nat.le_of_ble_eq_true rfl) ⟨_, _, _, rfl, rfl, fun a1 h1 => by cases (R_r0_1.symm.trans h1); refine Or.inr (Or.inr ⟨by simp only [k0_r0_1_1]; omega, by simp only [k0_r0_1_E_6_10_n1_toNatClampNeg]; omega, by rw [e235]; omega, ?_⟩); simp only [k0_r0_1_0, k0_r0_1_E_6_10_n1_toNatClampNeg]; first | (exfalso; omega) | exact PWX.r (n := m9.toNat) (fun m hm => hPX m (by omega)) (by omega) hPWL (by first | exact PWA.b (by omega) (by omega) hr159 | exact PWA.c (by omega) (by omega) hr188 | exact PWA.d (by omega) (by omega) (by omega) (by omega)) | exact PWX.r (n := 0) (fun m hm => absurd hm (Nat.not_lt_zero m)) (by omega) (PWL.z (ts := T9) (cs := C9) (hF0.resolve_right (by omega))) (by first | exact PWA.b (by omega) (by omega) hr159 | exact PWA.c (by omega) (by omega) hr188 | exact PWA.d (by omega) (by omega) (by omega) (by omega)), hI228, (CM.cons S3 (CM.cons S14 (CM.cons S50 (CM.cons S63 (CM.cons S74 (CM.cons S187 (CM.mono S230 (by decide) (by decide)) (by decide) (by decide)) (by decide) (by decide)) (by decide) (by decide)) (by decide) (by decide)) (by decide) (by decide)) (by decide) (by decide))⟩
              refine k_aload_n C rfl rfl rfl ?_
              refine g_R C rfl rfl rfl T_r0 rfl R_r0_28 ?_
              refine k_iload_n C rfl rfl rfl ?_
              refine z_bipush C (z := 10) rfl rfl rfl (fun x257 ex257 => ?_)
              refine z_isub C rfl rfl ⟨by omega, by omega⟩ (fun x258 ex258 => ?_)
              obtain ⟨T_r0_28, N_r0_28, A_r0_28⟩ := id H_r0_28
              refine z_aI C rfl rfl T_r0_28 N_r0_28 (by omega) (by omega) (fun x259 ex259 => ?_)
              have gx259 := rg x259
              have ox259 := IM.faR hI228 R_r0_28 ex259
              have hj188 : x258.toNatClampNeg = (n2.toInt - 10).toNat := (by have h9 := ncz (x := x258) (by omega); omega)
              have hr188 : x259.toInt = NF I228 r0_28 (n2.toInt - 10).toNat := (by rw [← hj188]; exact (congrArg Int32.toInt ex259).symm)
              rw [eC9] at hr188
              refine k_goto C (pc2 := 193) rfl rfl ?_
              exact k_iret C rfl (Or.inl rfl) (Nat.le_of_ble_eq_true rfl) (Nat.le_of_ble_eq_true rfl) ⟨_, _, _, rfl, rfl, fun a1 h1 => by cases (R_r0_1.symm.trans h1); refine Or.inr (Or.inr ⟨by simp only [k0_r0_1_1]; omega, by simp only [k0_r0_1_E_6_10_n1_toNatClampNeg]; omega, by rw [e235]; omega, ?_⟩); simp only [k0_r0_1_0, k0_r0_1_E_6_10_n1_toNatClampNeg]; first | (exfalso; omega) | exact PWX.r (n := m9.toNat) (fun m hm => hPX m (by omega)) (by omega) hPWL (by first | exact PWA.b (by omega) (by omega) hr159 | exact PWA.c (by omega) (by omega) hr188 | exact PWA.d (by omega) (by omega) (by omega) (by omega)) | exact PWX.r (n := 0) (fun m hm => absurd hm (Nat.not_lt_zero m)) (by omega) (PWL.z (ts := T9) (cs := C9) (hF0.resolve_right (by omega))) (by first | exact PWA.b (by omega) (by omega) hr159 | exact PWA.c (by omega) (by omega) hr188 | exact PWA.d (by omega) (by omega) (by omega) (by omega)), hI228, (CM.cons S3 (CM.cons S14 (CM.cons S50 (CM.cons S63 (CM.cons S74 (CM.cons S187 (CM.mono S230 (by decide) (by decide)) (by decide) (by decide)) (by decide) (by decide)) (by decide) (by decide)) (by decide) (by decide)) (by decide) (by decide)) (by decide) (by decide))⟩
            refine k_aload_n C rfl rfl rfl ?_
            refine g_R C rfl rfl rfl T_r0 rfl R_r0_27 ?_
            refine k_iload_n C rfl rfl rfl ?_
            obtain ⟨T_r0_27, N_r0_27, A_r0_27⟩ := id H_r0_27
            refine z_aI C rfl rfl T_r0_27 N_r0_27 (by omega) (by omega) (fun x260 ex260 => ?_)
            have gx260 := rg x260
            have ox260 := IM.spR hI228 R_r0_27 ex260
            have hr159 : x260.toInt = NF I228 r0_27 n2.toInt.toNat := (congrArg Int32.toInt ex260).symm
            rw [eT9] at hr159
            refine k_goto C (pc2 := 193) rfl rfl ?_
            exact k_iret C rfl (Or.inl rfl) (Nat.le_of_ble_eq_true rfl) (Nat.le_of_ble_eq_true rfl) ⟨_, _, _, rfl, rfl, fun a1 h1 => by cases (R_r0_1.symm.trans h1); refine Or.inr (Or.inr ⟨by simp only [k0_r0_1_1]; omega, by simp only [k0_r0_1_E_6_10_n1_toNatClampNeg]; omega, by rw [e235]; omega, ?_⟩); simp only [k0_r0_1_0, k0_r0_1_E_6_10_n1_toNatClampNeg]; first | (exfalso; omega) | exact PWX.r (n := m9.toNat) (fun m hm => hPX m (by omega)) (by omega) hPWL (by first | exact PWA.b (by omega) (by omega) hr159 | exact PWA.c (by omega) (by omega) hr188 | exact PWA.d (by omega) (by omega) (by omega) (by omega)) | exact PWX.r (n := 0) (fun m hm => absurd hm (Nat.not_lt_zero m)) (by omega) (PWL.z (ts := T9) (cs := C9) (hF0.resolve_right (by omega))) (by first | exact PWA.b (by omega) (by omega) hr159 | exact PWA.c (by omega) (by omega) hr188 | exact PWA.d (by omega) (by omega) (by omega) (by omega)), hI228, (CM.cons S3 (CM.cons S14 (CM.cons S50 (CM.cons S63 (CM.cons S74 (CM.cons S187 (CM.mono S230 (by decide) (by decide)) (by decide) (by decide)) (by decide) (by decide)) (by decide) (by decide)) (by decide) (by decide)) (by decide) (by decide)) (by decide) (by decide))⟩
          refine k_aload_n C rfl rfl rfl ?_
          refine g_I C rfl rfl rfl T_r0 rfl e237 ?_
          exact k_iret C rfl (Or.inl rfl) (Nat.le_of_ble_eq_true rfl) (Nat.le_of_ble_eq_true rfl) ⟨_, _, _, rfl, rfl, fun a1 h1 => by cases (R_r0_1.symm.trans h1); refine Or.inr (Or.inr ⟨by simp only [k0_r0_1_1]; omega, by simp only [k0_r0_1_E_6_10_n1_toNatClampNeg]; omega, by rw [e235]; omega, ?_⟩); simp only [k0_r0_1_0, k0_r0_1_E_6_10_n1_toNatClampNeg]; first | (exfalso; omega) | exact PWX.r (n := m9.toNat) (fun m hm => hPX m (by omega)) (by omega) hPWL (PWA.a (by omega) (by omega)) | exact PWX.r (n := 0) (fun m hm => absurd hm (Nat.not_lt_zero m)) (by omega) (PWL.z (ts := T9) (cs := C9) (hF0.resolve_right (by omega))) (PWA.a (by omega) (by omega)), hI228, (CM.cons S3 (CM.cons S14 (CM.cons S50 (CM.cons S63 (CM.cons S74 (CM.cons S187 (CM.mono S230 (by decide) (by decide)) (by decide) (by decide)) (by decide) (by decide)) (by decide) (by decide)) (by decide) (by decide)) (by decide) (by decide)) (by decide) (by decide))⟩
        refine k_aload_n C rfl rfl rfl ?_
        refine k_dup C rfl rfl rfl ?_
        refine g_I C rfl rfl rfl T_r0 rfl e237 ?_
        refine z_iconst C (z := 1) rfl rfl rfl (fun x261 ex261 => ?_)
        refine z_iadd C rfl rfl ⟨by omega, by omega⟩ (fun x262 ex262 => ?_)
        refine z_pI C rfl rfl rfl T_r0 (Or.inr rfl) rfl (fun I263 uI263 => ?_)
        have hI263 : IM R r0 I263 := IM.fld hI228 G_r0 ⟨(fun h => absurd h (by decide)), (fun h => absurd h (by decide)), (fun h => absurd h (by decide)), (fun h => absurd h (by decide)), (fun h => absurd h (by decide))⟩ uI263
        have S264 : CM A R r0 [29] [] I228 L229 I263 L229 := CM.f G_r0 A_r0 uI263
        have e265 := u2_n uI263 (mF.ne G_r0 R_r0_1) e232
        have e266 := u2_n uI263 (mF.ne G_r0 R_r0_1) e233
        have e267 := u2_n uI263 (mF.ne G_r0 R_r0_1) e234
        have e268 := u2_j uI263 (by first | decide | exact ncne (by omega) (by omega) (by omega) | exact nckn (by omega) (by omega) | exact (nckn (by omega) (by omega)).symm) e235
        have e269 := u2_n uI263 (mF.ne G_r0 R_r0_4) e236
        have e271 := u2_e uI263
        refine k_goto C (pc2 := 82) rfl rfl ?_
        refine k_sub S [(0, .ref r0), (2, .int n2)] (List.forall_mem_cons.mpr ⟨List.mem_of_getElem? (i := 0) rfl, List.forall_mem_cons.mpr ⟨List.mem_of_getElem? (i := 1) rfl, fun _ h => nomatch h⟩⟩) ?_
        exact ihJ183 _ (by omega) I263 L229 x262 rfl hI263 (CM.cons S187 (CM.cons S230 (CM.mono S264 (by decide) (by decide)) (by decide) (by decide)) (by decide) (by decide)) (fun r z0 => ((congrFun (CM.j0 S264 R_r0_4 (by decide)) r).trans ((F231 r z0).trans (F189 r z0)))) e271 (by omega) (by omega) (by intro m hm; by_cases c9 : (m : Int) < m9; · exact hPX m c9; · (have e9 : m = m9.toNat := (by omega); rw [e9]; exact hPX0 (by omega))) (by exact RWF.sm ff82_1 (fun k hk => h5s _ (by omega)) (by omega)) (by exact PWT.mv ff82_2 rfl h26s.symm) (by intro h9; exfalso; omega)
    refine z_pI C rfl rfl rfl T_r0 (Or.inr rfl) rfl (fun I272 uI272 => ?_)
    have hI272 : IM R r0 I272 := IM.fld hI72 G_r0 ⟨(fun h => absurd h (by decide)), (fun h => absurd h (by decide)), (fun h => absurd h (by decide)), (fun h => absurd h (by decide)), (fun h => absurd h (by decide))⟩ uI272
    have S273 : CM A R r0 [29] [] I72 L73 I272 L73 := CM.f G_r0 A_r0 uI272
    have e274 := u2_n uI272 (mF.ne G_r0 R_r0_1) e75
    have e275 := u2_n uI272 (mF.ne G_r0 R_r0_1) e76
    have e276 := u2_n uI272 (mF.ne G_r0 R_r0_1) e77
    have e277 := u2_j uI272 (by first | decide | exact ncne (by omega) (by omega) (by omega) | exact nckn (by omega) (by omega) | exact (nckn (by omega) (by omega)).symm) e78
    have e278 := u2_n uI272 (mF.ne G_r0 R_r0_4) e79
    have e279 := u2_e uI272
    refine k_sub S [(0, .ref r0), (2, .int n2)] (List.forall_mem_cons.mpr ⟨List.mem_of_getElem? (i := 0) rfl, List.forall_mem_cons.mpr ⟨List.mem_of_getElem? (i := 2) rfl, fun _ h => nomatch h⟩⟩) ?_
    exact J183 _ I272 L73 x182 rfl hI272 (CM.mono S273 (by decide) (by decide)) (fun r z0 => (congrFun (CM.j0 S273 R_r0_4 (by decide)) r)) e279 (by omega) (by omega) (by intro m hm hx; exact (hN.2 (by omega)) (fun k hk => ((EXN.z0.mp ((show m = 0 from by omega) ▸ hx)) k (by omega)).z0 (hcr k (by omega)).1 (hcr k (by omega)).2)) (by exact hRWr) (by exact PWT.mv hpt (by omega) rfl) (by intro h9 k hk; exact (hN.1 (by omega)) k (by omega))
  refine z_iconst C (z := 1) rfl rfl rfl (fun x280 ex280 => ?_)
  refine k_goto C (pc2 := 37) rfl rfl ?_
  refine z_iconst C (z := 2) rfl rfl rfl (fun x281 ex281 => ?_)
  have q282 : x280.toNatClampNeg = 1 := nck (by omega)
  have q283 : x281.toNatClampNeg = 2 := nck (by omega)
  refine c_VI C (a_X12_throwsIf_e hI12 H_r0 (by omega) (by omega)) rfl rfl rfl rfl rfl ⟨_, rfl, rfl, T_r0, Nat.le_of_ble_eq_true rfl⟩ rfl rfl (Nat.le_of_ble_eq_true rfl) (Nat.le_of_ble_eq_true rfl) (Nat.le_of_ble_eq_true rfl) ?_
  rintro x284 I285 L286 ⟨o0x284, o1x284, p0x284, p1x284, hI285, S287⟩
  have e288 := CM.j S287 R_r0_1 (by decide) e15
  have e289 := CM.j S287 R_r0_1 (by decide) e16
  have e290 := CM.j S287 R_r0_1 (by decide) e17
  have gx284 := rg x284
  obtain ⟨x292, e293⟩ : ∃ x, I285 r0 0 = x := ⟨_, rfl⟩
  have gx292 := rg x292
  try simp only [q282, q283, e15, e16, e17, e20, e293] at p0x284
  try have q0x284 := congrArg Int32.toInt p0x284
  try simp only [q282, q283, e15, e16, e17, e20, e293] at p1x284
  try have q1x284 := congrArg Int32.toInt p1x284
  refine b_if_eq C (t := 46) rfl rfl rfl (fun c294 => by exfalso; omega) (fun c294 => ?_)
  refine z_iconst C (z := 0) rfl rfl rfl (fun x295 ex295 => ?_)
  exact k_iret C rfl (Or.inl rfl) (Nat.le_of_ble_eq_true rfl) (Nat.le_of_ble_eq_true rfl) ⟨_, _, _, rfl, rfl, fun a1 h1 => by cases (R_r0_1.symm.trans h1); first | exact Or.inl ⟨by simp only [k0_r0_1_1]; omega, by rw [e293]; omega⟩ | exact Or.inr (Or.inl ⟨by simp only [k0_r0_1_1]; omega, by simp only [k0_r0_1_E_6_10_n1_toNatClampNeg]; omega, by rw [e293]; omega⟩), hI285, (CM.cons S3 (CM.cons S14 (CM.mono S287 (by decide) (by decide)) (by decide) (by decide)) (by decide) (by decide))⟩

