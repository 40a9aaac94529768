/-! the reference: quotients: exactly -/
def NE0 (x : Int) : Prop := x ≠ 0
/-- a row less v times another at k, number by number -/
def RSB (I : IT) (nu : Nat) (F1 G : Nat → Int) (p D v k i : Int) : Prop := ∀ j : Nat, (j : Int) ≤ D → 0 ≤ RI I nu 40 j ∧ RI I nu 40 j < p ∧ PmE p (RI I nu 40 j) (F1 j - v * (if k ≤ (j : Int) ∧ (j : Int) < k + i then G (j - k.toNat) else 0))
theorem RSB.z {I I1 : IT} {nu : Nat} {F1 G : Nat → Int} {p D v k i : Int} (h : RCN I1 nu 40 p D) (e : RI I1 nu 40 = F1) (s : SMR I1 I nu 40) (hD : D ≤ 40) (hi : i = 0) : RSB I nu F1 G p D v k i := fun j hj => by
  have z : RI I nu 40 j = RI I1 nu 40 j := by show (I nu _).toInt = (I1 nu _).toInt; rw [s j (by omega)]
  have q := h j hj
  rw [z, if_neg (by omega), ← e, Int.mul_zero, Int.sub_zero]
  exact ⟨q.1, q.2, PmE.rf⟩
theorem RSB.s {I1 I2 : IT} {nu : Nat} {F1 G : Nat → Int} {p D k : Int} {v a b m w i i' y y2 : Int32} (h : RSB I1 nu F1 G p D v.toInt k i.toInt) (oa : a.toInt = (I1 nu (41 * 40 + y2.toNatClampNeg)).toInt) (hb : b.toInt = G i.toNatClampNeg) (bb : 0 ≤ b.toInt) (bv : 0 ≤ v.toInt) (t : TMD m.toInt v.toInt b.toInt p) (ls : LSD w.toInt a.toInt m.toInt p) (hP : PUTD I1 I2 nu 40 y.toNatClampNeg w) (ey : y.toInt = k + i.toInt) (ey2 : y2.toInt = k + i.toInt) (hk : 0 ≤ k) (hi : 0 ≤ i.toInt) (hD : k + i.toInt ≤ D) (hi' : i'.toInt = i.toInt + 1) (hp : 0 < p) : RSB I2 nu F1 G p D v.toInt k i'.toInt := fun j hj => by
  have e : y2 = y := Int32.toInt_inj.mp (by omega)
  subst e
  have y0 := ncz (x := y2) (by omega)
  have i0 := ncz hi
  by_cases q : j = y2.toNatClampNeg
  · subst q
    have z : RI I2 nu 40 y2.toNatClampNeg = w.toInt := by show (I2 nu _).toInt = _; rw [hP.1]
    have ha := h y2.toNatClampNeg (by omega)
    have ha2 : RI I1 nu 40 y2.toNatClampNeg = a.toInt := oa.symm
    rw [ha2, if_neg (by omega), Int.mul_zero, Int.sub_zero] at ha
    unfold TMD at t; unfold LSD at ls
    have m0 : 0 ≤ m.toInt ∧ m.toInt < p := by rw [t]; exact ⟨Int.tmod_nonneg _ (Int.mul_nonneg bv bb), Int.tmod_lt_of_pos _ hp⟩
    rw [z, if_pos (by omega), show y2.toNatClampNeg - k.toNat = i.toNatClampNeg from by omega]
    refine ⟨by rw [ls]; exact Int.tmod_nonneg _ (by omega), by rw [ls]; exact Int.tmod_lt_of_pos _ hp, ?_⟩
    rw [ls]
    refine (PmE.tm _).tr ?_
    have c : PmE p (a.toInt - m.toInt + p) (a.toInt - m.toInt) := Int.add_emod_right ..
    refine c.tr (PmE.sbt ha.2.2 ?_)
    rw [t, hb]; exact PmE.tm _
  · have z : RI I2 nu 40 j = RI I1 nu 40 j := by show (I2 nu _).toInt = (I1 nu _).toInt; rw [hP.2 _ (by omega)]
    have q2 := h j hj
    rw [z]
    by_cases c : k ≤ (j : Int) ∧ (j : Int) < k + i.toInt
    · rw [if_pos c] at q2; rw [if_pos (by omega)]; exact q2
    · rw [if_neg c] at q2; rw [if_neg (by omega)]; exact q2
theorem RSB.e {I2 : IT} {nu : Nat} {F1 G : Nat → Int} {p D E v k i : Int} (h : RSB I2 nu F1 G p D v k i) (hi : i = E + 1) (hk : 0 ≤ k) : RCN I2 nu 40 p D ∧ ∀ j : Nat, (j : Int) ≤ D → PmE p (RI I2 nu 40 j) (F1 j - v * (if k.toNat ≤ j ∧ ((j - k.toNat : Nat) : Int) ≤ E then G (j - k.toNat) else 0)) := ⟨fun j hj => ⟨(h j hj).1, (h j hj).2.1⟩, fun j hj => by
  have q := (h j hj).2.2
  by_cases c : k ≤ (j : Int) ∧ (j : Int) < k + i
  · rw [if_pos c] at q; rw [if_pos (by omega)]; exact q
  · rw [if_neg c] at q; rw [if_neg (by omega)]; exact q⟩
/-- the quotient so far, and what is left -/
def QCU (e : Nat → Int) (k : Int) (i : Nat) : Int := if (i : Int) < k then e i else 0
def QEV (p : Int) (F : Nat → Int) (D : Int) (G : Nat → Int) (E : Int) (e f : Nat → Int) (k : Int) : Prop := (∀ i : Nat, (i : Int) < k → 0 ≤ e i ∧ e i < p) ∧ ∀ j : Nat, (j : Int) ≤ D → PmE p (F j) (CNV (QCU e k) (CUT G E) j + f j)
theorem QEV.z {p D E k : Int} {F G e f : Nat → Int} (h : ∀ j : Nat, (j : Int) ≤ D → f j = F j) (hk : k = 0) : QEV p F D G E e f k := ⟨fun i hi => by omega, fun j hj => by
  have z : CNV (QCU e k) (CUT G E) j = 0 := SUMN.z0 _ (fun i _ => by
    show QCU e k i * _ = 0
    unfold QCU; rw [if_neg (by omega), Int.zero_mul])
  rw [z, Int.zero_add, h j hj]; exact PmE.rf⟩
theorem QEV.s {p D E k k' v : Int} {F G e e' f f' : Nat → Int} (h : QEV p F D G E e f k) (he : ∀ i : Nat, (i : Int) < k → e' i = e i) (hv : e' k.toNat = v) (bv : 0 ≤ v ∧ v < p) (hf : ∀ j : Nat, (j : Int) ≤ D → PmE p (f' j) (f j - v * (if k.toNat ≤ j ∧ ((j - k.toNat : Nat) : Int) ≤ E then G (j - k.toNat) else 0))) (h0 : 0 ≤ k) (hk : k' = k + 1) : QEV p F D G E e' f' k' := by
  subst hk
  obtain ⟨h1, h2⟩ := h
  refine ⟨fun i hi => ?_, fun j hj => ?_⟩
  · by_cases c : i = k.toNat
    · subst c; rw [hv]; exact bv
    · rw [he i (by omega)]; exact h1 i (by omega)
  · have eq : QCU e' (k + 1) = fun i => 1 * QCU e k i + v * SHY k.toNat (DL0 1) i := funext fun i => by
      unfold QCU SHY DL0
      rcases Nat.lt_trichotomy i k.toNat with c | c | c
      · rw [if_pos (by omega), if_pos (by omega), if_pos c, he i (by omega)]; omega
      · subst c; rw [if_pos (by omega), if_neg (by omega), if_neg (by omega), if_pos (by omega), hv]; omega
      · rw [if_neg (by omega), if_neg (by omega), if_neg (by omega), if_neg (by omega)]; omega
    have sh : CNV (SHY k.toNat (DL0 1)) (CUT G E) j = if k.toNat ≤ j ∧ ((j - k.toNat : Nat) : Int) ≤ E then G (j - k.toNat) else 0 := by
      by_cases c : k.toNat ≤ j
      · have s := CNV.sh k.toNat (DL0 1) (CUT G E) (j - k.toNat)
        rw [show k.toNat + (j - k.toNat) = j from by omega] at s
        rw [s, CNV.d0, Int.one_mul]
        unfold CUT
        by_cases d : ((j - k.toNat : Nat) : Int) ≤ E
        · rw [if_pos d, if_pos ⟨c, d⟩]
        · rw [if_neg d, if_neg (fun z => d z.2)]
      · rw [CNV.s0 (by omega), if_neg (fun z => c z.1)]
    rw [eq, CNV.li, sh, Int.one_mul]
    have a := (PmE.rf (p := p) (x := CNV (QCU e k) (CUT G E) j + v * (if k.toNat ≤ j ∧ ((j - k.toNat : Nat) : Int) ≤ E then G (j - k.toNat) else 0))).ad (hf j hj)
    rw [show CNV (QCU e k) (CUT G E) j + v * (if k.toNat ≤ j ∧ ((j - k.toNat : Nat) : Int) ≤ E then G (j - k.toNat) else 0) + (f j - v * (if k.toNat ≤ j ∧ ((j - k.toNat : Nat) : Int) ≤ E then G (j - k.toNat) else 0)) = CNV (QCU e k) (CUT G E) j + f j from by omega] at a
    exact (h2 j hj).tr a.sy
theorem PUTD.sm {I1 I2 : IT} {nu r r' k : Nat} {x : Int32} (w : PUTD I1 I2 nu r' k x) (hk : k < 41) (hn : r ≠ r') : SMR I1 I2 nu r := fun j hj => w.2 _ (by omega)
theorem RI.s {I1 I2 : IT} {nu r : Nat} (s : SMR I1 I2 nu r) {j : Nat} (hj : j < 41) : RI I2 nu r j = RI I1 nu r j := by show (I2 nu _).toInt = (I1 nu _).toInt; rw [s j hj]
theorem RI.p {I1 I2 : IT} {nu r k : Nat} {x : Int32} (w : PUTD I1 I2 nu r k x) {j : Nat} (hn : j ≠ k) : RI I2 nu r j = RI I1 nu r j := by show (I2 nu _).toInt = (I1 nu _).toInt; rw [w.2 _ (by omega)]
theorem RI.w {I1 I2 : IT} {nu r k : Nat} {x : Int32} (w : PUTD I1 I2 nu r k x) : RI I2 nu r k = x.toInt := by show (I2 nu _).toInt = _; rw [w.1]
theorem RWF.cp1 {I I' : IT} {nu a b : Nat} {n D : Int} (c : CPN I I' nu a b n) (hn : D < n) : RWF I' nu b D (RI I nu a) := fun j hj => by
  show (I' nu _).toInt = (I nu _).toInt
  rw [c j (by omega)]
theorem RWF.sm1 {I I' : IT} {nu r : Nat} {D : Int} (s : ∀ k, k < 41 → I' nu (41 * r + k) = I nu (41 * r + k)) (hD : D ≤ 40) : RWF I' nu r D (RI I nu r) := fun j hj => by
  show (I' nu _).toInt = (I nu _).toInt
  rw [s j (by omega)]
theorem RWF.cpy {I I' : IT} {nu a b : Nat} {n D : Int} {g : Nat → Int} (h : RWF I nu a D g) (c : CPN I I' nu a b n) (hn : D < n) : RWF I' nu b D g := fun j hj => by
  rw [← h j hj]
  show (I' nu _).toInt = (I nu _).toInt
  rw [c j (by omega)]
theorem RWF.rc {I : IT} {nu r : Nat} {p D D' : Int} {g : Nat → Int} (h : RWF I nu r D g) (b : ∀ k : Nat, (k : Int) ≤ D → 0 ≤ g k ∧ g k < p) (e : D' = D) : RCN I nu r p D' := fun k hk => by
  have q := h k (by omega)
  rw [q]; exact b k (by omega)
theorem STP.r {I I' : IT} {nu r : Nat} {n : Int32} {D : Int} (s : STP I I' nu r n.toInt D) {k : Nat} (hk : (k : Int) ≤ D - n.toInt) : RI I' nu r k = RI I nu r (n.toNatClampNeg + k) := by
  show (I' nu _).toInt = (I nu _).toInt
  rw [s k hk, show 41 * r + k + n.toInt.toNat = 41 * r + (n.toNatClampNeg + k) from by have h9 : n.toNatClampNeg = n.toInt.toNat := rfl; omega]
theorem RWF.n0 {I : IT} {nu r a : Nat} {D : Int} {f : Nat → Int} (h : RWF I nu r D (fun k => f (a + k))) (h0 : 0 ≤ D) (nz : f a ≠ 0) : RI I nu r 0 ≠ 0 := fun q => nz ((h 0 (by omega)).symm.trans q)
theorem FST.cg {f g : Nat → Int} {a : Nat} {D : Int} (h : FST f a D) (e : ∀ k : Nat, (k : Int) ≤ D → g k = f k) : FST g a D := ⟨h.1, by rw [e a h.1]; exact h.2.1, fun k hk => by rw [e k (by have := h.1; omega)]; exact h.2.2 k hk⟩
theorem PmE.iv {a x p b : Int} (h : (a * x) % p = 1) (e : a = b) (hp : 1 < p) : PmE p (x * b) 1 := by
  subst e
  rw [Int.mul_comm]
  show _ % p = 1 % p
  rw [h, Int.emod_eq_of_lt (by decide) hp]
theorem STP.f {I I' : IT} {nu r : Nat} {n : Int32} {D : Int} (_ : STP I I' nu r n.toInt D) (z : ∀ k : Nat, (k : Int) < n.toInt → RI I nu r k = 0) (h : NE1 I nu (41 * r + n.toNatClampNeg)) (h0 : 0 ≤ n.toInt) (h1 : n.toInt ≤ D) : FST (RI I nu r) n.toNatClampNeg D := by
  have n0 := ncz h0
  exact ⟨by omega, h, fun k hk => z k (by omega)⟩
/-- put behind y's, the reference's -/
def COR (I : IT) (nu : Nat) (y : Int) (b : Nat → Int) (o p B k : Int) : Prop := ∀ j : Nat, (j : Int) ≤ y + B → RI I nu 40 j = if (j : Int) < y ∨ y + k ≤ (j : Int) then 0 else (b (j - y.toNat) * o) % p
theorem COR.z {I : IT} {nu : Nat} {y : Int} {b : Nat → Int} {o p B k : Int} (h : AZ I nu (41 * 40) (y + B + 1)) (hk : k = 0) : COR I nu y b o p B k := fun j hj => by
  rw [if_pos (by omega)]; exact h j (by omega)
theorem COR.s {I1 I2 : IT} {nu : Nat} {b : Nat → Int} {p B y : Int} {a k k' n o v : Int32} (h : COR I1 nu y b o.toInt p B k.toInt) (va : a.toInt = b k.toNatClampNeg) (ba : 0 ≤ a.toInt) (bo : 0 ≤ o.toInt) (t : TMD v.toInt o.toInt a.toInt p) (hP : PUTD I1 I2 nu 40 n.toNatClampNeg v) (hy : 0 ≤ y) (h0 : 0 ≤ k.toInt) (en : n.toInt = k.toInt + y) (hk : k'.toInt = k.toInt + 1) : COR I2 nu y b o.toInt p B k'.toInt := fun j hj => by
  have n0 := ncz (x := n) (by omega)
  have k0 := ncz h0
  by_cases q : j = n.toNatClampNeg
  · subst q
    unfold TMD at t
    rw [RI.w hP, if_neg (by omega), t, show n.toNatClampNeg - y.toNat = k.toNatClampNeg from by omega, ← va, Int.tmod_eq_emod_of_nonneg (Int.mul_nonneg bo ba), Int.mul_comm]
  · rw [RI.p hP q, h j hj]
    by_cases c : (j : Int) < y ∨ y + k.toInt ≤ (j : Int)
    · rw [if_pos c, if_pos (by omega)]
    · rw [if_neg c, if_neg (by omega)]
theorem COM.or {I : IT} {nu : Nat} {p D E D1 E1 B S W y k o : Int} {f g b s : Nat → Int} {i j : Nat} (hf : FST f i D) (hg : FST g j E) (t : SCD p (fun k => f (i + k)) D1 (fun k => g (j + k)) E1 s S b B) (z : ∀ k : Nat, (k : Int) ≤ S → s k = 0) (hB : 0 ≤ B) (hD : D1 = D - i) (hE : E1 = E - j) (ho : PmE p (o * b 0) 1) (c : COR I nu y b o p B k) (hk : k = B + 1) (hy : y = ((min i j : Nat) : Int)) (hW : W = y + B) (hp : 1 < p) : COM p f D g E (RI I nu 40) W := by
  subst hD; subst hE; subst hk
  refine ⟨i, j, fun k => (b k * o) % p, B, hf, hg, HCF.fin (c := o) t.sw z hB ho (fun k hk => ⟨?_, Int.emod_nonneg _ (by omega), Int.emod_lt_of_pos _ (by omega)⟩) hp, by omega, fun k hk => ?_⟩
  · rw [Int.mul_comm o]; exact PmE.em _
  · rw [c k (by omega)]
    by_cases q : k < min i j
    · rw [if_pos (by omega), if_pos q]
    · rw [if_neg (by omega), if_neg q, show k - y.toNat = k - min i j from by omega]
theorem NQI9 {I : IT} {dg nu r : Nat} {x D : Int} (h : IFF x (NQA I dg nu r)) (e : (I dg r).toInt = D) : IFF x (ZRL (RI I nu r) (D + 1)) := ⟨fun q => NQA.z (h.1 q) e, fun q => NQA.n (h.2 q) e⟩
theorem NQI.w {I : IT} {dg nu r : Nat} {x D : Int} {g : Nat → Int} (h : IFF x (NQA I dg nu r)) (e : (I dg r).toInt = D) (w : RWF I nu r D g) : IFF x (ZRL g (D + 1)) := ⟨fun q => ((NQI9 h e).1 q).cg (fun k hk => w k (by omega)), fun q z => (NQI9 h e).2 q (z.cg (fun k hk => (w k (by omega)).symm))⟩
theorem COM.cg {p D D' E E' W W' : Int} {f f' g g' r r' : Nat → Int} (h : COM p f D g E r W) (eD : D = D') (eE : E = E') (eW : W = W') (ef : ∀ k : Nat, (k : Int) ≤ D → f k = f' k) (eg : ∀ k : Nat, (k : Int) ≤ E → g k = g' k) (er : ∀ k : Nat, (k : Int) ≤ W → r k = r' k) : COM p f' D' g' E' r' W' := by
  subst eD; subst eE; subst eW
  obtain ⟨a, b, h, H, x1, x2, ⟨z0, z1, z2, z3⟩, x4, x5⟩ := h
  have a1 := x1.1
  have b1 := x2.1
  refine ⟨a, b, h, H, x1.cg (fun k hk => (ef k hk).symm), x2.cg (fun k hk => (eg k hk).symm), ⟨z0, z1, z2, fun d Hd h0 hu hs => Iff.trans ⟨fun q => ⟨q.1.cg (fun k hk => ?_), q.2.cg (fun k hk => ?_)⟩, fun q => ⟨q.1.cg (fun k hk => ?_), q.2.cg (fun k hk => ?_)⟩⟩ (z3 d Hd h0 hu hs)⟩, x4, fun k hk => (er k hk).symm.trans (x5 k hk)⟩
  · show PmE p (f (a + k)) (f' (a + k)); rw [ef _ (by omega)]; exact PmE.rf
  · show PmE p (g (b + k)) (g' (b + k)); rw [eg _ (by omega)]; exact PmE.rf
  · show PmE p (f' (a + k)) (f (a + k)); rw [ef _ (by omega)]; exact PmE.rf
  · show PmE p (g' (b + k)) (g (b + k)); rw [eg _ (by omega)]; exact PmE.rf
theorem QEV.cd {p D D' E E' k k' : Int} {F G e e' f f' : Nat → Int} (h : QEV p F D' G E' e f k') (eD : D' = D) (eE : E' = E) (ek : k' = k) (he : e = e') (hf : f = f') : QEV p F D G E e' f' k := by
  subst eD; subst eE; subst ek; subst he; subst hf; exact h
theorem GSE {G B1 : Nat → Int} {E : Int} {b : Nat} (hb : (b : Int) ≤ E) (e : ∀ k : Nat, (k : Int) ≤ E - b → B1 k = G (b + k)) : (fun i => CUT G E (i + b)) = CUT B1 (E - b) := funext fun i => by
  show CUT G E (i + b) = CUT B1 (E - b) i
  unfold CUT
  by_cases c : (i : Int) ≤ E - b
  · rw [if_pos (by omega), if_pos c, e i c, Nat.add_comm]
  · rw [if_neg (by omega), if_neg c]
/-- any quotient begins where the first numbers say -/
theorem QTO.yb {p D E : Int} {q F G : Nat → Int} {a b : Nat} (h : QTO p q G F D E) (hF : FST F a D) (hG : FST G b E) (bF : ∀ j : Nat, (j : Int) ≤ D → 0 ≤ F j ∧ F j < p) (bG : ∀ j : Nat, (j : Int) ≤ E → 0 ≤ G j ∧ G j < p) (hp : PRM p) : b ≤ a ∧ ((a : Int) - b ≤ D - E) ∧ ∀ i : Nat, i + b < a → q i = 0 := by
  obtain ⟨h1, h2, h3⟩ := h
  have fa := hF.1
  have lo := CUT.lo hG
  have nz : CNV q (CUT G E) a = 0 → False := fun z => by
    have c := h3 a fa
    rw [z] at c
    exact hF.2.1 (c.z0 (bF a fa).1 (bF a fa).2)
  have ba : b ≤ a := by
    rcases Nat.lt_or_ge a b with c | c
    · exact (nz (CNV.lo lo c)).elim
    · exact c
  have qz : ∀ i : Nat, i + b < a → q i = 0 := fun i hi => by
    have z := CNV.u0 (q := q) (UNI.of hG hp bG) (a - b) (fun k hk => by
      have c := (h3 (k + b) (by omega)).sy
      rw [CNV.fb lo, hF.2.2 (k + b) (by omega)] at c
      exact c) i (by omega)
    by_cases c : (i : Int) ≤ D - E
    · exact z.z0 (h2 i c).1 (h2 i c).2
    · exact h1 i (by omega)
  refine ⟨ba, ?_, qz⟩
  rcases Int.lt_or_le (D - E) ((a : Int) - b) with c | c
  · refine (nz (SUMN.z0 _ (fun i _ => ?_))).elim
    show q i * _ = 0
    have z : q i = 0 := by
      by_cases d : (i : Int) ≤ D - E
      · exact qz i (by omega)
      · exact h1 i (by omega)
    rw [z, Int.zero_mul]
  · exact c
/-- if there is one, nothing is left -/
theorem QEV.rz {p D E k : Int} {q F G A1 B1 e rest : Nat → Int} {a b : Nat} (h : QTO p q G F D E) (hF : FST F a D) (hG : FST G b E) (bF : ∀ j : Nat, (j : Int) ≤ D → 0 ≤ F j ∧ F j < p) (bG : ∀ j : Nat, (j : Int) ≤ E → 0 ≤ G j ∧ G j < p) (hp : PRM p) (eA : ∀ j : Nat, (j : Int) ≤ D - a → A1 j = F (a + j)) (eB : ∀ j : Nat, (j : Int) ≤ E - b → B1 j = G (b + j)) (v : QEV p A1 (D - a) B1 (E - b) e rest k) (hk : k = D - a - (E - b) + 1) (rz : ∀ j : Nat, (j : Int) < k → rest j = 0) (br : ∀ j : Nat, (j : Int) ≤ D - a → 0 ≤ rest j ∧ rest j < p) : ∀ j : Nat, (j : Int) ≤ D - a → rest j = 0 := by
  obtain ⟨ba, yd, qz⟩ := h.yb hF hG bF bG hp
  obtain ⟨h1, h2, h3⟩ := h
  have fa := hF.1
  have gb := hG.1
  have lo := CUT.lo hG
  have gs := GSE hG.1 eB
  have hu := UNI.of hG hp bG
  rw [gs] at hu
  obtain ⟨q', hq'⟩ : ∃ q' : Nat → Int, ∀ i, q' i = q (i + (a - b)) := ⟨_, fun _ => rfl⟩
  have qs : q = SHY (a - b) q' := funext fun i => by
    unfold SHY
    by_cases c : i < a - b
    · rw [if_pos c]; exact qz i (by omega)
    · rw [if_neg c, hq', Nat.sub_add_cancel (by omega)]
  have m : ∀ j : Nat, (j : Int) ≤ D - a → PmE p (CNV q' (CUT B1 (E - b)) j) (CNV (QCU e k) (CUT B1 (E - b)) j + rest j) := fun j hj => by
    have c := h3 (a - b + j + b) (by omega)
    rw [CNV.fb lo, gs, qs, CNV.sh, show a - b + j + b = a + j from by omega, ← eA j hj] at c
    exact c.sy.tr (v.2 j hj)
  have w := CNV.u0 (q := fun i => 1 * q' i + (-1) * QCU e k i) hu k.toNat (fun j hj => by
    have li : CNV (fun i => 1 * q' i + (-1) * QCU e k i) (CUT B1 (E - b)) j = 1 * CNV q' (CUT B1 (E - b)) j + -1 * CNV (QCU e k) (CUT B1 (E - b)) j := CNV.li 1 (-1) _ _ _ _
    have c := m j (by omega)
    rw [rz j (by omega), Int.add_zero] at c
    have s := PmE.sbt c (PmE.rf (x := CNV (QCU e k) (CUT B1 (E - b)) j))
    rw [Int.sub_self] at s
    rw [li, show 1 * CNV q' (CUT B1 (E - b)) j + -1 * CNV (QCU e k) (CUT B1 (E - b)) j = CNV q' (CUT B1 (E - b)) j - CNV (QCU e k) (CUT B1 (E - b)) j from by omega]
    exact s)
  have w2 : ∀ i : Nat, PmE p (q' i) (QCU e k i) := fun i => by
    by_cases c : (i : Int) < k
    · have x : PmE p (1 * q' i + (-1) * QCU e k i) 0 := w i (by omega)
      have y := x.ad (PmE.rf (x := QCU e k i))
      rwa [show 1 * q' i + -1 * QCU e k i + QCU e k i = q' i from by omega, Int.zero_add] at y
    · rw [hq', h1 _ (by omega)]
      unfold QCU; rw [if_neg c]; exact PmE.rf
  intro j hj
  have c := m j hj
  have d : PmE p (CNV q' (CUT B1 (E - b)) j) (CNV (QCU e k) (CUT B1 (E - b)) j) := CNV.pe (fun i _ => w2 i) (fun i _ => PmE.rf)
  have x := PmE.sbt (d.sy.tr c) (PmE.rf (x := CNV (QCU e k) (CUT B1 (E - b)) j))
  rw [Int.sub_self, show CNV (QCU e k) (CUT B1 (E - b)) j + rest j - CNV (QCU e k) (CUT B1 (E - b)) j = rest j from by omega] at x
  exact x.sy.z0 (br j hj).1 (br j hj).2
/-- if nothing is left, the row is one -/
theorem QEV.qt {p D E k : Int} {F G A1 B1 e rest C : Nat → Int} {a b : Nat} (hF : FST F a D) (hG : FST G b E) (eA : ∀ j : Nat, (j : Int) ≤ D - a → A1 j = F (a + j)) (eB : ∀ j : Nat, (j : Int) ≤ E - b → B1 j = G (b + j)) (v : QEV p A1 (D - a) B1 (E - b) e rest k) (hk : k = D - a - (E - b) + 1) (rz : ∀ j : Nat, (j : Int) ≤ D - a → rest j = 0) (ba : b ≤ a) (hC : ∀ i : Nat, (i : Int) ≤ D - E → C i = if i + b < a then 0 else e (i + b - a)) (hp : 0 < p) : QTO p (CUT C (D - E)) G F D E := by
  have fa := hF.1
  have gb := hG.1
  have cs : CUT C (D - E) = SHY (a - b) (QCU e k) := funext fun i => by
    unfold CUT SHY QCU
    by_cases c : (i : Int) ≤ D - E
    · rw [if_pos c, hC i c]
      by_cases d : i + b < a
      · rw [if_pos d, if_pos (by omega)]
      · rw [if_neg d, if_neg (by omega), if_pos (by omega), show i + b - a = i - (a - b) from by omega]
    · rw [if_neg c]
      by_cases d : i < a - b
      · rw [if_pos d]
      · rw [if_neg d, if_neg (by omega)]
  refine ⟨fun i hi => by unfold CUT; rw [if_neg (by omega)], fun i hi => ?_, fun m hm => ?_⟩
  · unfold CUT; rw [if_pos hi, hC i hi]
    by_cases d : i + b < a
    · rw [if_pos d]; exact ⟨Int.le_refl 0, hp⟩
    · rw [if_neg d]; exact v.1 _ (by omega)
  · rw [cs]
    have lo := CUT.lo hG
    by_cases c : m < b
    · rw [CNV.lo lo c, hF.2.2 m (by omega)]; exact PmE.rf
    · have s := CNV.fb (q := SHY (a - b) (QCU e k)) lo (m - b)
      rw [show m - b + b = m from by omega, GSE hG.1 eB] at s
      rw [s]
      by_cases d : m - b < a - b
      · rw [CNV.s0 d, hF.2.2 m (by omega)]; exact PmE.rf
      · have t := CNV.sh (a - b) (QCU e k) (CUT B1 (E - b)) (m - a)
        rw [show a - b + (m - a) = m - b from by omega] at t
        rw [t]
        have w := v.2 (m - a) (by omega)
        rw [rz (m - a) (by omega), Int.add_zero, eA (m - a) (by omega), show a + (m - a) = m from by omega] at w
        exact w
theorem QTO.zz {p D E : Int} {F G C : Nat → Int} (z : ZRL F (D + 1)) (hC : ∀ i : Nat, (i : Int) ≤ D - E → C i = 0) (hp : 0 < p) : QTO p (CUT C (D - E)) G F D E := by
  have zc : ∀ i, CUT C (D - E) i = 0 := fun i => by
    unfold CUT
    by_cases c : (i : Int) ≤ D - E
    · rw [if_pos c]; exact hC i c
    · rw [if_neg c]
  refine ⟨fun i _ => zc i, fun i _ => by rw [zc i]; exact ⟨Int.le_refl 0, hp⟩, fun k hk => ?_⟩
  have e : CNV (CUT C (D - E)) (CUT G E) k = 0 := SUMN.z0 _ (fun i _ => by
    show CUT C (D - E) i * _ = 0
    rw [zc i, Int.zero_mul])
  rw [e, z k (by omega)]; exact PmE.rf
theorem DVQ.zz {x p D E W : Int} {F G C : Nat → Int} (z : ZRL F (D + 1)) (g : ¬ ZRL G (E + 1)) (hE : E ≤ D) (hC : ∀ i : Nat, (i : Int) ≤ D - E → C i = 0) (hp : 0 < p) (hW : W = D - E) (hx : x = 1) : DVQ x p F D G E C W := ⟨fun q => by omega, fun _ => ⟨⟨g, hE, _, QTO.zz z hC hp⟩, QTO.zz z hC hp, hW⟩⟩
theorem DVQ.nb {x p D E W : Int} {F G C : Nat → Int} {a b : Nat} (hF : FST F a D) (hG : FST G b E) (bF : ∀ j : Nat, (j : Int) ≤ D → 0 ≤ F j ∧ F j < p) (bG : ∀ j : Nat, (j : Int) ≤ E → 0 ≤ G j ∧ G j < p) (hp : PRM p) (h : a < b ∨ D - a < E - b) (hx : x = 0) : DVQ x p F D G E C W := ⟨fun _ c => by
  obtain ⟨-, -, q, hq⟩ := c
  obtain ⟨ba, yd, -⟩ := hq.yb hF hG bF bG hp
  omega, fun q => by omega⟩
theorem DVQ.nr {x p D E W k : Int} {F G C A1 B1 e rest : Nat → Int} {a b : Nat} (hF : FST F a D) (hG : FST G b E) (bF : ∀ j : Nat, (j : Int) ≤ D → 0 ≤ F j ∧ F j < p) (bG : ∀ j : Nat, (j : Int) ≤ E → 0 ≤ G j ∧ G j < p) (hp : PRM p) (eA : ∀ j : Nat, (j : Int) ≤ D - a → A1 j = F (a + j)) (eB : ∀ j : Nat, (j : Int) ≤ E - b → B1 j = G (b + j)) (v : QEV p A1 (D - a) B1 (E - b) e rest k) (hk : k = D - a - (E - b) + 1) (rz : ∀ j : Nat, (j : Int) < k → rest j = 0) (br : ∀ j : Nat, (j : Int) ≤ D - a → 0 ≤ rest j ∧ rest j < p) (nq : ¬ ZRL rest (D - a + 1)) (hx : x = 0) : DVQ x p F D G E C W := ⟨fun _ c => by
  obtain ⟨-, -, q, hq⟩ := c
  exact nq (fun j hj => QEV.rz hq hF hG bF bG hp eA eB v hk rz br j (by omega)), fun q => by omega⟩
theorem DVQ.yr {x p D E W k : Int} {F G C A1 B1 e rest : Nat → Int} {a b : Nat} (hF : FST F a D) (hG : FST G b E) (hE : E ≤ D) (eA : ∀ j : Nat, (j : Int) ≤ D - a → A1 j = F (a + j)) (eB : ∀ j : Nat, (j : Int) ≤ E - b → B1 j = G (b + j)) (v : QEV p A1 (D - a) B1 (E - b) e rest k) (hk : k = D - a - (E - b) + 1) (z : ZRL rest (D - a + 1)) (ba : b ≤ a) (hC : ∀ i : Nat, (i : Int) ≤ D - E → C i = if i + b < a then 0 else e (i + b - a)) (hp : 0 < p) (hW : W = D - E) (hx : x = 1) : DVQ x p F D G E C W := by
  have t := QEV.qt hF hG eA eB v hk (fun j hj => z j (by omega)) ba hC hp
  exact ⟨fun q => by omega, fun _ => ⟨⟨fun n => hG.2.1 (n b (by have h9 := hG.1; omega)), hE, _, t⟩, t, hW⟩⟩
/-- the row put behind y's -/
def QCR (I : IT) (nu : Nat) (e : Nat → Int) (W y k : Int) : Prop := ∀ j : Nat, (j : Int) ≤ W → RI I nu 42 j = if (j : Int) < y ∨ y + k ≤ (j : Int) then 0 else e (j - y.toNat)
theorem QCR.z {I : IT} {nu : Nat} {e : Nat → Int} {W y k : Int} (h : AZ I nu (41 * 42) (W + 1)) (hk : k = 0) : QCR I nu e W y k := fun j hj => by
  rw [if_pos (by omega)]; exact h j (by omega)
theorem QCR.s {I1 I2 : IT} {nu : Nat} {e : Nat → Int} {W y : Int} {k k' n v : Int32} (h : QCR I1 nu e W y k.toInt) (hv : v.toInt = e k.toNatClampNeg) (hP : PUTD I1 I2 nu 42 n.toNatClampNeg v) (en : n.toInt = k.toInt + y) (h0 : 0 ≤ k.toInt) (hy : 0 ≤ y) (hk : k'.toInt = k.toInt + 1) : QCR I2 nu e W y k'.toInt := fun j hj => by
  have n0 := ncz (x := n) (by omega)
  have k0 := ncz h0
  by_cases q : j = n.toNatClampNeg
  · subst q
    rw [RI.w hP, if_neg (by omega), hv, show n.toNatClampNeg - y.toNat = k.toNatClampNeg from by omega]
  · rw [RI.p hP q, h j hj]
    by_cases c : (j : Int) < y ∨ y + k.toInt ≤ (j : Int)
    · rw [if_pos c, if_pos (by omega)]
    · rw [if_neg c, if_neg (by omega)]
theorem QCR.e {I : IT} {nu a b : Nat} {e : Nat → Int} {W y k : Int} (h : QCR I nu e W y k) (hy : y = (a : Int) - b) (ba : b ≤ a) (hk : W < y + k) : ∀ i : Nat, (i : Int) ≤ W → RI I nu 42 i = if i + b < a then 0 else e (i + b - a) := fun i hi => by
  rw [h i hi]
  by_cases c : i + b < a
  · rw [if_pos (by omega), if_pos c]
  · rw [if_neg (by omega), if_neg c, show i - y.toNat = i + b - a from by omega]
theorem a_X12_strips_x {d : Nat} {T N : Nat → Nat} {I : IT} {L : LT} {R : RT} {A : Nat → Prop} {r0 : Nat} {n1 : Int32} (hI : IM R r0 I) (H_r0 : (h_MD T N R A) r0) (b0_n1 : 40 ≤ n1.toInt) (b1_n1 : n1.toInt ≤ 41) (hp0 : ∀ a4 a5, R r0 4 = some a4 → R r0 5 = some a5 → NZ I a5 n1.toNatClampNeg (I a4 n1.toNatClampNeg).toInt) : Ex (d + 2) 288 [.ref r0, .int n1] (T, N, I, L, R) 0 0 (pI T N R (fun x9 I9 L9 => (∀ a4, R r0 4 = some a4 → (I9 a4 n1.toNatClampNeg).toInt = (I a4 n1.toNatClampNeg).toInt - x9.toInt) ∧ (∀ a4, R r0 4 = some a4 → 0 ≤ x9.toInt ∧ x9.toInt ≤ (I a4 n1.toNatClampNeg).toInt) ∧ (∀ a5, R r0 5 = some a5 → NE1 I a5 (41 * n1.toNatClampNeg + x9.toNatClampNeg)) ∧ (∀ a4 a5, R r0 4 = some a4 → R r0 5 = some a5 → STP I I9 a5 n1.toNatClampNeg x9.toInt (I a4 n1.toNatClampNeg).toInt) ∧ (∀ a5, R r0 5 = some a5 → ∀ k : Nat, (k : Int) < x9.toInt → RI I a5 n1.toNatClampNeg k = 0) ∧ (∀ a4, R r0 4 = some a4 → ∀ r : Nat, r ≠ n1.toNatClampNeg → I9 a4 r = I a4 r) ∧ (∀ a5, R r0 5 = some a5 → ∀ r : Nat, (r < 41 * n1.toNatClampNeg ∨ 41 * n1.toNatClampNeg + 41 ≤ r) → I9 a5 r = I a5 r) ∧ (IM R r0 I9 ∧ CM A R r0 [] [4, 5] I L I9 L9))) := by
  refine ⟨_, rfl, Nat.le_of_ble_eq_true rfl, fun V C S => ?_⟩
  show V 0 [(0, .ref r0), (1, .int n1)] [] (T, N, I, L, R) 0 0
  have gn1 := rg n1
  obtain ⟨T_r0, A_r0, ⟨r0_1, R_r0_1, H_r0_1⟩, ⟨r0_2, R_r0_2, H_r0_2⟩, ⟨r0_4, R_r0_4, H_r0_4⟩, ⟨r0_5, R_r0_5, H_r0_5⟩, ⟨r0_10, R_r0_10, H_r0_10⟩, ⟨r0_18, R_r0_18, H_r0_18⟩, ⟨r0_20, R_r0_20, H_r0_20⟩, ⟨r0_21, R_r0_21, H_r0_21⟩, ⟨r0_22, R_r0_22, H_r0_22⟩, ⟨r0_23, R_r0_23, H_r0_23⟩, ⟨r0_25, R_r0_25, H_r0_25⟩, ⟨r0_26, R_r0_26, H_r0_26⟩, ⟨r0_27, R_r0_27, H_r0_27⟩, ⟨r0_28, R_r0_28, H_r0_28⟩, ⟨r0_34, R_r0_34, H_r0_34⟩, J_r0, Y_r0⟩ := id H_r0
  have G_r0 : mF T R r0 := ⟨J_r0, Y_r0, T_r0⟩
  obtain ⟨w_r0_4_n1, k0_r0_4_n1⟩ : ∃ x, I r0_4 n1.toNatClampNeg = x := ⟨_, rfl⟩
  have gw_r0_4_n1 := rg w_r0_4_n1
  have ow_r0_4_n1 := IM.dgR hI R_r0_4 k0_r0_4_n1
  have hp0 := hp0 r0_4 r0_5 R_r0_4 R_r0_5
  try simp only [k0_r0_4_n1] at hp0
  obtain ⟨K, hK1, hK2⟩ := hp0
  refine z_iconst C (z := 0) rfl rfl rfl (fun x1 ex1 => ?_)
  have J2 : ∀ (nn3 : Nat) (x4 : Int32), ((41 - x4.toInt).toNat = nn3) → (0 ≤ x4.toInt) → (x4.toInt ≤ 41) → (x4.toInt ≤ (K : Int)) → (AZ I r0_5 (41 * n1.toNatClampNeg) x4.toInt) → V 2 [(0, .ref r0), (1, .int n1), (2, .int x4)] [] (T, N, I, L, R) 0 0 := by
    intro nn3
    induction nn3 using Nat.strongRecOn with
    | _ nn3 ihJ2 =>
      intro x4 hmnn3 b5 b6 ff2_0 ff2_1
      have gx4 := rg x4
      refine k_aload_n C rfl rfl rfl ?_
      refine k_iload_n C rfl rfl rfl ?_
      refine k_iload_n C rfl rfl rfl ?_
      refine c_VI C (a_X12_of hI H_r0 (by omega) (by omega) (by omega) (by omega)) rfl rfl rfl rfl rfl ⟨_, rfl, rfl, T_r0, Nat.le_of_ble_eq_true rfl⟩ rfl rfl (Nat.le_of_ble_eq_true rfl) (Nat.le_of_ble_eq_true rfl) (Nat.le_of_ble_eq_true rfl) ?_
      rintro x7 _ _ ⟨o0x7, o1x7, p0x7, rfl, rfl⟩
      have p0x7 := p0x7 r0_5 R_r0_5
      have gx7 := rg x7
      try simp only [k0_r0_4_n1] at p0x7
      try have q0x7 := congrArg Int32.toInt p0x7
      have hO := p0x7
      refine b_if_ne C (t := 17) rfl rfl rfl (fun c8 => ?_) (fun c8 => ?_)
      · skip
        have hNE : NE1 I r0_5 (41 * n1.toNatClampNeg + x4.toNatClampNeg) := by (show (I r0_5 _).toInt ≠ 0); omega
        refine k_iload_n C rfl rfl rfl ?_
        have J9 : ∀ (nn10 : Nat) (I11 : IT) (L12 : LT) (x13 : Int32), ((41 - x13.toInt).toNat = nn10) → (IM R r0 I11) → (CM A R r0 [] [5] I L I11 L12) → (∀ r : Nat, (r < 41 * n1.toNatClampNeg ∨ 41 * n1.toNatClampNeg + 41 ≤ r) → I11 r0_5 r = I r0_5 r) → (0 ≤ x13.toInt) → (x13.toInt ≤ 41) → (x4.toInt ≤ x13.toInt) → (x13.toInt ≤ w_r0_4_n1.toInt + 1) → (STQ I I11 r0_5 n1.toNatClampNeg x4.toInt x13.toInt) → V 19 [(0, .ref r0), (1, .int n1), (2, .int x4), (3, .int x13)] [] (T, N, I11, L12, R) 0 0 := by
          intro nn10
          induction nn10 using Nat.strongRecOn with
          | _ nn10 ihJ9 =>
            intro I11 L12 x13 hmnn10 hI17 S16 F18 b14 b15 ff19_0 ff19_1 ff19_2
            have gx13 := rg x13
            have e19 := CM.j S16 R_r0_4 (by decide) k0_r0_4_n1
            refine k_iload_n C rfl rfl rfl ?_
            refine k_aload_n C rfl rfl rfl ?_
            refine g_R C rfl rfl rfl T_r0 rfl R_r0_4 ?_
            refine k_iload_n C rfl rfl rfl ?_
            obtain ⟨T_r0_4, N_r0_4, A_r0_4⟩ := id H_r0_4
            refine a_I C rfl rfl T_r0_4 (by rw [N_r0_4]; exact vpi (by omega) (by omega)) e19 ?_
            refine b_icmp_gt C (t := 49) rfl rfl rfl (fun c20 => ?_) (fun c20 => ?_)
            · skip
              refine k_aload_n C rfl rfl rfl ?_
              refine g_R C rfl rfl rfl T_r0 rfl R_r0_4 ?_
              refine k_iload_n C rfl rfl rfl ?_
              refine k_dup2 C rfl rfl rfl rfl ?_
              refine a_I C rfl rfl T_r0_4 (by rw [N_r0_4]; exact vpi (by omega) (by omega)) e19 ?_
              refine k_iload_n C rfl rfl rfl ?_
              refine z_isub C rfl rfl ⟨by omega, by omega⟩ (fun x21 ex21 => ?_)
              refine z_sI C rfl rfl T_r0_4 N_r0_4 (by omega) (by omega) (fun I22 uI22 => ?_)
              have hI22 : IM R r0 I22 := IM.arr hI17 G_r0 R_r0_4 ⟨(fun _ => ⟨by omega, by omega⟩), (fun h => absurd h (by decide)), (fun h => absurd h (by decide))⟩ (fun h => absurd h (by decide)) uI22
              have S23 : CM A R r0 [] [4] I11 L12 I22 L12 := CM.a G_r0 R_r0_4 A_r0_4 uI22
              have F24 : ∀ r : Nat, r ≠ n1.toNatClampNeg → I22 r0_4 r = I11 r0_4 r := fun r z0 => by rw [uI22]; first | exact u2_k z0
              have e26 := u2_e uI22
              refine k_iload_n C rfl rfl rfl ?_
              exact k_iret C rfl (Or.inl rfl) (Nat.le_of_ble_eq_true rfl) (Nat.le_of_ble_eq_true rfl) ⟨_, _, _, rfl, rfl, fun a4 h4 => by cases (R_r0_4.symm.trans h4); first | omega | (simp only [e26, k0_r0_4_n1, and_true, true_and, or_true, true_or, and_false, false_and, or_false, false_or] <;> omega), fun a4 h4 => by cases (R_r0_4.symm.trans h4); first | omega | (simp only [e26, k0_r0_4_n1, and_true, true_and, or_true, true_or, and_false, false_and, or_false, false_or] <;> omega), fun a5 h5 => by cases (R_r0_5.symm.trans h5); exact hNE, fun a4 a5 h4 h5 => by cases (R_r0_4.symm.trans h4); cases (R_r0_5.symm.trans h5); simp only [k0_r0_4_n1]; exact STQ.p ff19_2 (CM.j0 S23 R_r0_5 (by decide)) (by omega), fun a5 h5 => by cases (R_r0_5.symm.trans h5); exact fun k hk => ff2_1 k (by omega), fun a4 h4 => by cases (R_r0_4.symm.trans h4); exact (fun r z0 => ((F24 r z0).trans (congrFun (CM.j0 S16 R_r0_4 (by decide)) r))), fun a5 h5 => by cases (R_r0_5.symm.trans h5); exact (fun r z0 => ((congrFun (CM.j0 S23 R_r0_5 (by decide)) r).trans (F18 r z0))), hI22, (CM.cons S16 (CM.mono S23 (by decide) (by decide)) (by decide) (by decide))⟩
            refine k_aload_n C rfl rfl rfl ?_
            refine k_iload_n C rfl rfl rfl ?_
            refine k_iload_n C rfl rfl rfl ?_
            refine k_iload_n C rfl rfl rfl ?_
            refine z_isub C rfl rfl ⟨by omega, by omega⟩ (fun x27 ex27 => ?_)
            refine k_aload_n C rfl rfl rfl ?_
            refine k_iload_n C rfl rfl rfl ?_
            refine k_iload_n C rfl rfl rfl ?_
            refine c_VI C (a_X12_of hI17 H_r0 (by omega) (by omega) (by omega) (by omega)) rfl rfl rfl rfl rfl ⟨_, rfl, rfl, T_r0, Nat.le_of_ble_eq_true rfl⟩ rfl rfl (Nat.le_of_ble_eq_true rfl) (Nat.le_of_ble_eq_true rfl) (Nat.le_of_ble_eq_true rfl) ?_
            rintro x28 _ _ ⟨o0x28, o1x28, p0x28, rfl, rfl⟩
            have p0x28 := p0x28 r0_5 R_r0_5
            have gx28 := rg x28
            try simp only [e19] at p0x28
            try have q0x28 := congrArg Int32.toInt p0x28
            have hO2 := p0x28
            refine c_VV C (a_X12_put hI17 H_r0 (by omega) (by omega) (by omega) (by omega) (by omega) (by omega)) rfl rfl rfl rfl rfl ⟨_, rfl, rfl, T_r0, Nat.le_of_ble_eq_true rfl⟩ rfl rfl (Nat.le_of_ble_eq_true rfl) (Nat.le_of_ble_eq_true rfl) (Nat.le_of_ble_eq_true rfl) ?_
            rintro I30 L31 ⟨p0v29, p1v29, hI30, S32⟩
            have p0v29 := p0v29 r0_5 R_r0_5
            have p1v29 := p1v29 r0_5 R_r0_5
            have F33 : ∀ r : Nat, (r < 41 * n1.toNatClampNeg ∨ 41 * n1.toNatClampNeg + 41 ≤ r) → I30 r0_5 r = I11 r0_5 r := fun r z0 => p1v29 r (by first | exact z0)
            have e34 := CM.j S32 R_r0_4 (by decide) e19
            try simp only [e19] at p0v29
            try have q0v29 := congrArg Int32.toInt p0v29
            have hP := p0v29
            refine z_iinc C (z := 1) (lw := fun x35 => [(3, .int x35), (0, .ref r0), (1, .int n1), (2, .int x4)]) rfl rfl rfl (Nat.le_of_ble_eq_true rfl) rfl ⟨by omega, by omega⟩ (fun _ => rfl) (fun x35 ex35 => ?_)
            show V 46 [(3, .int x35), (0, .ref r0), (1, .int n1), (2, .int x4)] _ _ _ _
            refine k_goto C (pc2 := 19) rfl rfl ?_
            refine k_sub S [(0, .ref r0), (1, .int n1), (2, .int x4), (3, .int x35)] (List.forall_mem_cons.mpr ⟨List.mem_of_getElem? (i := 1) rfl, List.forall_mem_cons.mpr ⟨List.mem_of_getElem? (i := 2) rfl, List.forall_mem_cons.mpr ⟨List.mem_of_getElem? (i := 3) rfl, List.forall_mem_cons.mpr ⟨List.mem_of_getElem? (i := 0) rfl, fun _ h => nomatch h⟩⟩⟩⟩) ?_
            exact ihJ9 _ (by omega) I30 L31 x35 rfl hI30 (CM.cons S16 (CM.mono S32 (by decide) (by decide)) (by decide) (by decide)) (fun r z0 => ((F33 r z0).trans (F18 r z0))) (by omega) (by omega) (by omega) (by omega) (by exact STQ.s ff19_2 hO2 hP (by omega) (by omega) (by omega) (by omega))
        refine k_istore_n C (lw := [(3, .int x4), (0, .ref r0), (1, .int n1), (2, .int x4)]) rfl rfl (Nat.le_of_ble_eq_true rfl) rfl ?_
        refine k_sub S [(0, .ref r0), (1, .int n1), (2, .int x4), (3, .int x4)] (List.forall_mem_cons.mpr ⟨List.mem_of_getElem? (i := 1) rfl, List.forall_mem_cons.mpr ⟨List.mem_of_getElem? (i := 2) rfl, List.forall_mem_cons.mpr ⟨List.mem_of_getElem? (i := 3) rfl, List.forall_mem_cons.mpr ⟨List.mem_of_getElem? (i := 0) rfl, fun _ h => nomatch h⟩⟩⟩⟩) ?_
        exact J9 _ I L x4 rfl hI CM.rf (fun r z0 => rfl) (by omega) (by omega) (by omega) (by omega) (by exact STQ.z (by omega) rfl)
      refine z_iinc C (z := 1) (lw := fun x36 => [(2, .int x36), (0, .ref r0), (1, .int n1)]) rfl rfl rfl (Nat.le_of_ble_eq_true rfl) rfl ⟨by omega, by omega⟩ (fun _ => rfl) (fun x36 ex36 => ?_)
      show V 14 [(2, .int x36), (0, .ref r0), (1, .int n1)] _ _ _ _
      refine k_goto C (pc2 := 2) rfl rfl ?_
      refine k_sub S [(0, .ref r0), (1, .int n1), (2, .int x36)] (List.forall_mem_cons.mpr ⟨List.mem_of_getElem? (i := 1) rfl, List.forall_mem_cons.mpr ⟨List.mem_of_getElem? (i := 2) rfl, List.forall_mem_cons.mpr ⟨List.mem_of_getElem? (i := 0) rfl, fun _ h => nomatch h⟩⟩⟩) ?_
      exact ihJ2 _ (by omega) x36 rfl (by omega) (by omega) (by (have h9 : x4.toNatClampNeg ≠ K := by (intro q; have hK3 := hK2; rw [← q] at hK3; omega)); (have h8 := ncz (x := x4) (by omega)); omega) (by exact AZ.s ff2_1 (by omega) (by omega) (by omega))
  refine k_istore_n C (lw := [(2, .int x1), (0, .ref r0), (1, .int n1)]) rfl rfl (Nat.le_of_ble_eq_true rfl) rfl ?_
  refine k_sub S [(0, .ref r0), (1, .int n1), (2, .int x1)] (List.forall_mem_cons.mpr ⟨List.mem_of_getElem? (i := 1) rfl, List.forall_mem_cons.mpr ⟨List.mem_of_getElem? (i := 2) rfl, List.forall_mem_cons.mpr ⟨List.mem_of_getElem? (i := 0) rfl, fun _ h => nomatch h⟩⟩⟩) ?_
  exact J2 _ x1 rfl (by omega) (by omega) (by omega) (by exact AZ.z (by omega))

set_option maxHeartbeats 4000000 in
theorem a_X12_divides_x {d : Nat} {T N : Nat → Nat} {I : IT} {L : LT} {R : RT} {A : Nat → Prop} {r0 : Nat} {n1 n2 n3 : Int32} (hI : IM R r0 I) (H_r0 : (h_MD T N R A) r0) (b0_n1 : 40 ≤ n1.toInt) (b1_n1 : n1.toInt ≤ 40) (b0_n2 : 41 ≤ n2.toInt) (b1_n2 : n2.toInt ≤ 41) (b0_n3 : 43 ≤ n3.toInt) (b1_n3 : n3.toInt ≤ 43) (hp0 : ∀ a4, R r0 4 = some a4 → (I a4 41).toInt ≤ (I a4 40).toInt) (hp1 : ∀ a5, R r0 5 = some a5 → NE1 I a5 (41 * 41)) (hp2 : ∀ a1 a5, R r0 1 = some a1 → R r0 5 = some a5 → QN I a5 41 1 (I a1 0).toInt) (hp3 : ∀ a1 a4 a5, R r0 1 = some a1 → R r0 4 = some a4 → R r0 5 = some a5 → QN I a5 40 ((I a4 40).toInt + 1) (I a1 0).toInt) (hp4 : ∀ a1 a4 a5, R r0 1 = some a1 → R r0 4 = some a4 → R r0 5 = some a5 → RCN I a5 40 (I a1 0).toInt (I a4 40).toInt) (hp5 : ∀ a1 a4 a5, R r0 1 = some a1 → R r0 4 = some a4 → R r0 5 = some a5 → RCN I a5 41 (I a1 0).toInt (I a4 41).toInt) (hp6 : ∀ a4, R r0 4 = some a4 → 0 ≤ (I a4 41).toInt) : Ex (d + 5) 289 [.ref r0, .int n1, .int n2, .int n3] (T, N, I, L, R) 0 0 (pV T N R (fun I9 L9 => (∀ a4 a5, R r0 4 = some a4 → R r0 5 = some a5 → AZ I9 a5 (41 * 40) ((I a4 40).toInt - (I a4 41).toInt + 1)) ∧ (∀ a1 a4 a5, R r0 1 = some a1 → R r0 4 = some a4 → R r0 5 = some a5 → QN I9 a5 40 ((I a4 40).toInt + 1) (I a1 0).toInt) ∧ (∀ a4, R r0 4 = some a4 → (I9 a4 43).toInt = (I a4 40).toInt - (I a4 41).toInt) ∧ (∀ a1 a4 a5, R r0 1 = some a1 → R r0 4 = some a4 → R r0 5 = some a5 → RCN I9 a5 40 (I a1 0).toInt (I a4 40).toInt) ∧ (∀ a1 a4 a5, R r0 1 = some a1 → R r0 4 = some a4 → R r0 5 = some a5 → SCD (I a1 0).toInt (RI I a5 40) (I a4 40).toInt (RI I a5 41) (I a4 41).toInt (RI I9 a5 40) (I a4 40).toInt (RI I a5 41) (I a4 41).toInt) ∧ (∀ a1 a4 a5, R r0 1 = some a1 → R r0 4 = some a4 → R r0 5 = some a5 → QEV (I a1 0).toInt (RI I a5 40) (I a4 40).toInt (RI I a5 41) (I a4 41).toInt (RI I9 a5 43) (RI I9 a5 40) ((I a4 40).toInt - (I a4 41).toInt + 1)) ∧ (∀ a4, R r0 4 = some a4 → ∀ r : Nat, r ≠ 43 → I9 a4 r = I a4 r) ∧ (∀ a5, R r0 5 = some a5 → ∀ r : Nat, (r < 41 * 40 ∨ 41 * 40 + 41 ≤ r) → (r < 41 * 43 ∨ 41 * 43 + 41 ≤ r) → I9 a5 r = I a5 r) ∧ (IM R r0 I9 ∧ CM A R r0 [] [4, 5] I L I9 L9))) := by
  refine ⟨_, rfl, Nat.le_of_ble_eq_true rfl, fun V C S => ?_⟩
  show V 0 [(0, .ref r0), (1, .int n1), (2, .int n2), (3, .int n3)] [] (T, N, I, L, R) 0 0
  have gn1 := rg n1
  have gn2 := rg n2
  have gn3 := rg n3
  obtain ⟨T_r0, A_r0, ⟨r0_1, R_r0_1, H_r0_1⟩, ⟨r0_2, R_r0_2, H_r0_2⟩, ⟨r0_4, R_r0_4, H_r0_4⟩, ⟨r0_5, R_r0_5, H_r0_5⟩, ⟨r0_10, R_r0_10, H_r0_10⟩, ⟨r0_18, R_r0_18, H_r0_18⟩, ⟨r0_20, R_r0_20, H_r0_20⟩, ⟨r0_21, R_r0_21, H_r0_21⟩, ⟨r0_22, R_r0_22, H_r0_22⟩, ⟨r0_23, R_r0_23, H_r0_23⟩, ⟨r0_25, R_r0_25, H_r0_25⟩, ⟨r0_26, R_r0_26, H_r0_26⟩, ⟨r0_27, R_r0_27, H_r0_27⟩, ⟨r0_28, R_r0_28, H_r0_28⟩, ⟨r0_34, R_r0_34, H_r0_34⟩, J_r0, Y_r0⟩ := id H_r0
  have G_r0 : mF T R r0 := ⟨J_r0, Y_r0, T_r0⟩
  obtain ⟨w_r0_4_40, k0_r0_4_40⟩ : ∃ x, I r0_4 40 = x := ⟨_, rfl⟩
  have gw_r0_4_40 := rg w_r0_4_40
  have ow_r0_4_40 := IM.dgR hI R_r0_4 k0_r0_4_40
  obtain ⟨w_r0_4_41, k0_r0_4_41⟩ : ∃ x, I r0_4 41 = x := ⟨_, rfl⟩
  have gw_r0_4_41 := rg w_r0_4_41
  have ow_r0_4_41 := IM.dgR hI R_r0_4 k0_r0_4_41
  obtain ⟨w_r0_1_0, k0_r0_1_0⟩ : ∃ x, I r0_1 0 = x := ⟨_, rfl⟩
  have gw_r0_1_0 := rg w_r0_1_0
  have ow_r0_1_0 := IM.pi hI R_r0_1 k0_r0_1_0
  have hp0 := hp0 r0_4 R_r0_4
  have hp1 := hp1 r0_5 R_r0_5
  have hp2 := hp2 r0_1 r0_5 R_r0_1 R_r0_5
  have hp3 := hp3 r0_1 r0_4 r0_5 R_r0_1 R_r0_4 R_r0_5
  have hp4 := hp4 r0_1 r0_4 r0_5 R_r0_1 R_r0_4 R_r0_5
  have hp5 := hp5 r0_1 r0_4 r0_5 R_r0_1 R_r0_4 R_r0_5
  have hp6 := hp6 r0_4 R_r0_4
  try simp only [k0_r0_4_40, k0_r0_4_41, k0_r0_1_0] at hp0
  try simp only [k0_r0_4_40, k0_r0_4_41, k0_r0_1_0] at hp1
  try simp only [k0_r0_4_40, k0_r0_4_41, k0_r0_1_0] at hp2
  try simp only [k0_r0_4_40, k0_r0_4_41, k0_r0_1_0] at hp3
  try simp only [k0_r0_4_40, k0_r0_4_41, k0_r0_1_0] at hp4
  try simp only [k0_r0_4_40, k0_r0_4_41, k0_r0_1_0] at hp5
  try simp only [k0_r0_4_40, k0_r0_4_41, k0_r0_1_0] at hp6
  skip
  refine k_aload_n C rfl rfl rfl ?_
  refine k_aload_n C rfl rfl rfl ?_
  refine k_iload_n C rfl rfl rfl ?_
  refine z_iconst C (z := 0) rfl rfl rfl (fun x1 ex1 => ?_)
  have q2 : n2.toNatClampNeg = 41 := nck (by omega)
  have q3 : x1.toNatClampNeg = 0 := nck (by omega)
  refine c_VI C (a_X12_of hI H_r0 (by omega) (by omega) (by omega) (by omega)) rfl rfl rfl rfl rfl ⟨_, rfl, rfl, T_r0, Nat.le_of_ble_eq_true rfl⟩ rfl rfl (Nat.le_of_ble_eq_true rfl) (Nat.le_of_ble_eq_true rfl) (Nat.le_of_ble_eq_true rfl) ?_
  rintro x4 _ _ ⟨o0x4, o1x4, p0x4, rfl, rfl⟩
  have p0x4 := p0x4 r0_5 R_r0_5
  have gx4 := rg x4
  try simp only [q2, q3, k0_r0_4_40, k0_r0_4_41, k0_r0_1_0] at p0x4
  try have q0x4 := congrArg Int32.toInt p0x4
  have hO1 := p0x4
  refine c_VI C (a_X12_inverse_x hI H_r0 (by omega) (by omega)) rfl rfl rfl rfl rfl ⟨_, rfl, rfl, T_r0, Nat.le_of_ble_eq_true rfl⟩ rfl rfl (Nat.le_of_ble_eq_true rfl) (Nat.le_of_ble_eq_true rfl) (Nat.le_of_ble_eq_true rfl) ?_
  rintro x5 _ _ ⟨o0x5, o1x5, p0x5, p1x5, rfl, rfl⟩
  have p0x5 := p0x5 r0_1 R_r0_1
  have gx5 := rg x5
  try simp only [k0_r0_4_40, k0_r0_4_41, k0_r0_1_0] at p0x5
  try have q0x5 := congrArg Int32.toInt p0x5
  try simp only [k0_r0_4_40, k0_r0_4_41, k0_r0_1_0] at p1x5
  try have q1x5 := congrArg Int32.toInt p1x5
  have hI9 := p0x5
  obtain ⟨vl, hvl⟩ : ∃ z : Int, z = x5.toInt := ⟨_, rfl⟩
  have hin0 : 0 ≤ x5.toInt := p1x5 (by rw [hO1]; exact (hp5 0 (by omega)).1)
  refine k_istore C (lw := [(4, .int x5), (0, .ref r0), (1, .int n1), (2, .int n2), (3, .int n3)]) rfl rfl (Nat.le_of_ble_eq_true rfl) rfl ?_
  obtain ⟨vb, hvb⟩ : ∃ z : Int, z = (I r0_5 (41 * 41 + 0)).toInt := ⟨_, rfl⟩
  have hinv : (vb * vl) % w_r0_1_0.toInt = 1 := by (rw [hvb, hvl, ← hO1]; exact hI9 (by have h1 := hp2 0 (by omega); omega) (by have h1 := hp2 0 (by omega); omega) (by have h2 : (I r0_5 (41 * 41)).toInt ≠ 0 := hp1; have h3 : (I r0_5 (41 * 41 + 0)).toInt ≠ 0 := h2; omega))
  refine k_aload_n C rfl rfl rfl ?_
  refine k_iload_n C rfl rfl rfl ?_
  refine k_aload_n C rfl rfl rfl ?_
  refine g_R C rfl rfl rfl T_r0 rfl R_r0_4 ?_
  refine k_iload_n C rfl rfl rfl ?_
  obtain ⟨T_r0_4, N_r0_4, A_r0_4⟩ := id H_r0_4
  refine a_I C rfl rfl T_r0_4 (by rw [N_r0_4]; exact vpi (by omega) (by omega)) ((congrArg (I r0_4) (nck (n := 40) (by omega))).trans k0_r0_4_40) ?_
  refine k_aload_n C rfl rfl rfl ?_
  refine g_R C rfl rfl rfl T_r0 rfl R_r0_4 ?_
  refine k_iload_n C rfl rfl rfl ?_
  refine a_I C rfl rfl T_r0_4 (by rw [N_r0_4]; exact vpi (by omega) (by omega)) ((congrArg (I r0_4) (nck (n := 41) (by omega))).trans k0_r0_4_41) ?_
  refine z_isub C rfl rfl ⟨by omega, by omega⟩ (fun x6 ex6 => ?_)
  have q7 : n3.toNatClampNeg = 43 := nck (by omega)
  refine c_VV C (a_X12_clears hI H_r0 (by omega) (by omega) (by omega) (by omega)) rfl rfl rfl rfl rfl ⟨_, rfl, rfl, T_r0, Nat.le_of_ble_eq_true rfl⟩ rfl rfl (Nat.le_of_ble_eq_true rfl) (Nat.le_of_ble_eq_true rfl) (Nat.le_of_ble_eq_true rfl) ?_
  rintro I9 L10 ⟨p0v8, p1v8, p2v8, p3v8, hI9, S11⟩
  have p0v8 := p0v8 r0_4 R_r0_4
  have p1v8 := p1v8 r0_5 R_r0_5
  have p2v8 := p2v8 r0_4 R_r0_4
  have p3v8 := p3v8 r0_5 R_r0_5
  try simp only [q7] at p2v8
  have F12 : ∀ r : Nat, r ≠ 43 → I9 r0_4 r = I r0_4 r := fun r z0 => p2v8 r (by first | exact z0)
  try simp only [q7] at p3v8
  have F13 : ∀ r : Nat, (r < 41 * 40 ∨ 41 * 40 + 41 ≤ r) → (r < 41 * 43 ∨ 41 * 43 + 41 ≤ r) → I9 r0_5 r = I r0_5 r := fun r z0 z1 => p3v8 r (by first | exact z0 | exact z1)
  have e14 := (p2v8 40 (by first | decide | exact ncne (by omega) (by omega) (by omega) | exact nckn (by omega) (by omega) | exact (nckn (by omega) (by omega)).symm)).trans k0_r0_4_40
  have e15 := (p2v8 41 (by first | decide | exact ncne (by omega) (by omega) (by omega) | exact nckn (by omega) (by omega) | exact (nckn (by omega) (by omega)).symm)).trans k0_r0_4_41
  have e16 := CM.j S11 R_r0_1 (by decide) k0_r0_1_0
  obtain ⟨x17, e18⟩ : ∃ x, I9 r0_4 43 = x := ⟨_, rfl⟩
  have gx17 := rg x17
  have ox17 := IM.dgR hI9 R_r0_4 e18
  try simp only [q7, k0_r0_4_40, k0_r0_4_41, k0_r0_1_0, e18] at p0v8
  try have q0v8 := congrArg Int32.toInt p0v8
  try simp only [q7, k0_r0_4_40, k0_r0_4_41, k0_r0_1_0, e18] at p1v8
  try have q1v8 := congrArg Int32.toInt p1v8
  have hS40 : SMR I I9 r0_5 40 := fun k hk => p3v8 _ (by omega)
  have hS41 : SMR I I9 r0_5 41 := fun k hk => p3v8 _ (by omega)
  have hRC : RCN I9 r0_5 40 w_r0_1_0.toInt w_r0_4_40.toInt := RCN.sm hp4 hS40 rfl (by omega)
  refine z_iconst C (z := 0) rfl rfl rfl (fun x19 ex19 => ?_)
  have J20 : ∀ (nn21 : Nat) (I22 : IT) (L23 : LT) (x24 : Int32), ((41 - x24.toInt).toNat = nn21) → (IM R r0 I22) → (CM A R r0 [] [5] I9 L10 I22 L23) → (∀ r : Nat, (r < 41 * 40 ∨ 41 * 40 + 41 ≤ r) → (r < 41 * 43 ∨ 41 * 43 + 41 ≤ r) → I22 r0_5 r = I9 r0_5 r) → (0 ≤ x24.toInt) → (x24.toInt ≤ 41) → (AZ I22 r0_5 (41 * 40) x24.toInt) → (QN I22 r0_5 40 (w_r0_4_40.toInt + 1) w_r0_1_0.toInt) → (SMR I I22 r0_5 41) → (x24.toInt ≤ w_r0_4_40.toInt - w_r0_4_41.toInt + 1) → (RCN I22 r0_5 40 w_r0_1_0.toInt w_r0_4_40.toInt) → (SCD w_r0_1_0.toInt (RI I r0_5 40) w_r0_4_40.toInt (RI I r0_5 41) w_r0_4_41.toInt (RI I22 r0_5 40) w_r0_4_40.toInt (RI I r0_5 41) w_r0_4_41.toInt) → (QEV w_r0_1_0.toInt (RI I r0_5 40) w_r0_4_40.toInt (RI I r0_5 41) w_r0_4_41.toInt (RI I22 r0_5 43) (RI I22 r0_5 40) x24.toInt) → V 33 [(0, .ref r0), (1, .int n1), (2, .int n2), (3, .int n3), (4, .int x5), (5, .int x24)] [] (T, N, I22, L23, R) 0 0 := by
    intro nn21
    induction nn21 using Nat.strongRecOn with
    | _ nn21 ihJ20 =>
      intro I22 L23 x24 hmnn21 hI28 S27 F29 b25 b26 ff33_0 ff33_1 ff33_2 ff33_3 ff33_4 ff33_5 ff33_6
      have gx24 := rg x24
      have e30 := CM.j S27 R_r0_4 (by decide) e14
      have e31 := CM.j S27 R_r0_4 (by decide) e15
      have e32 := CM.j S27 R_r0_1 (by decide) e16
      have e33 := CM.j S27 R_r0_4 (by decide) e18
      refine k_iload C rfl rfl rfl ?_
      refine k_aload_n C rfl rfl rfl ?_
      refine g_R C rfl rfl rfl T_r0 rfl R_r0_4 ?_
      refine k_iload_n C rfl rfl rfl ?_
      refine a_I C rfl rfl T_r0_4 (by rw [N_r0_4]; exact vpi (by omega) (by omega)) ((congrArg (I22 r0_4) (nck (n := 43) (by omega))).trans e33) ?_
      refine b_icmp_gt C (t := 131) rfl rfl rfl (fun c34 => ?_) (fun c34 => ?_)
      · skip
        exact k_vret C rfl rfl (Nat.le_of_ble_eq_true rfl) (Nat.le_of_ble_eq_true rfl) ⟨_, _, rfl, rfl, fun a4 a5 h4 h5 => by cases (R_r0_4.symm.trans h4); cases (R_r0_5.symm.trans h5); simp only [k0_r0_4_40, k0_r0_4_41]; exact AZ.le ff33_0 (by omega), fun a1 a4 a5 h1 h4 h5 => by cases (R_r0_1.symm.trans h1); cases (R_r0_4.symm.trans h4); cases (R_r0_5.symm.trans h5); simp only [k0_r0_4_40, k0_r0_1_0]; exact ff33_1, fun a4 h4 => by cases (R_r0_4.symm.trans h4); first | omega | (simp only [e30, e31, e32, e33, k0_r0_4_40, k0_r0_4_41, k0_r0_1_0, and_true, true_and, or_true, true_or, and_false, false_and, or_false, false_or] <;> omega), fun a1 a4 a5 h1 h4 h5 => by cases (R_r0_1.symm.trans h1); cases (R_r0_4.symm.trans h4); cases (R_r0_5.symm.trans h5); simp only [k0_r0_4_40, k0_r0_1_0]; exact ff33_4, fun a1 a4 a5 h1 h4 h5 => by cases (R_r0_1.symm.trans h1); cases (R_r0_4.symm.trans h4); cases (R_r0_5.symm.trans h5); simp only [k0_r0_4_40, k0_r0_4_41, k0_r0_1_0]; exact ff33_5, fun a1 a4 a5 h1 h4 h5 => by cases (R_r0_1.symm.trans h1); cases (R_r0_4.symm.trans h4); cases (R_r0_5.symm.trans h5); simp only [k0_r0_4_40, k0_r0_4_41, k0_r0_1_0]; rw [show w_r0_4_40.toInt - w_r0_4_41.toInt + 1 = x24.toInt from by omega]; exact ff33_6, fun a4 h4 => by cases (R_r0_4.symm.trans h4); exact (fun r z0 => ((congrFun (CM.j0 S27 R_r0_4 (by decide)) r).trans (F12 r z0))), fun a5 h5 => by cases (R_r0_5.symm.trans h5); exact (fun r z0 z1 => ((F29 r z0 z1).trans (F13 r z0 z1))), hI28, (CM.cons S11 (CM.mono S27 (by decide) (by decide)) (by decide) (by decide))⟩
      refine k_aload_n C rfl rfl rfl ?_
      refine k_aload_n C rfl rfl rfl ?_
      refine k_iload_n C rfl rfl rfl ?_
      refine k_iload C rfl rfl rfl ?_
      have q35 : n1.toNatClampNeg = 40 := nck (by omega)
      refine c_VI C (a_X12_of hI28 H_r0 (by omega) (by omega) (by omega) (by omega)) rfl rfl rfl rfl rfl ⟨_, rfl, rfl, T_r0, Nat.le_of_ble_eq_true rfl⟩ rfl rfl (Nat.le_of_ble_eq_true rfl) (Nat.le_of_ble_eq_true rfl) (Nat.le_of_ble_eq_true rfl) ?_
      rintro x36 _ _ ⟨o0x36, o1x36, p0x36, rfl, rfl⟩
      have p0x36 := p0x36 r0_5 R_r0_5
      have gx36 := rg x36
      try simp only [q35, e30, e31, e32, e33] at p0x36
      try have q0x36 := congrArg Int32.toInt p0x36
      have hO2 := p0x36
      obtain ⟨va, hva⟩ : ∃ z : Int, z = x36.toInt := ⟨_, rfl⟩
      obtain ⟨F1, eF1⟩ : ∃ F1 : Nat → Int, RI I22 r0_5 40 = F1 := ⟨_, rfl⟩
      obtain ⟨E1, eE1⟩ : ∃ E1 : Nat → Int, RI I22 r0_5 43 = E1 := ⟨_, rfl⟩
      have hva9 := ff33_4 x24.toNatClampNeg (by have h9 := ncz (x := x24) (by omega); omega)
      have hva8 : x36.toInt = RI I22 r0_5 40 x24.toNatClampNeg := p0x36
      refine k_iload C rfl rfl rfl ?_
      refine c_VI C (a_X12_times hI28 H_r0 (by omega) (by omega) (by omega) (by omega)) rfl rfl rfl rfl rfl ⟨_, rfl, rfl, T_r0, Nat.le_of_ble_eq_true rfl⟩ rfl rfl (Nat.le_of_ble_eq_true rfl) (Nat.le_of_ble_eq_true rfl) (Nat.le_of_ble_eq_true rfl) ?_
      rintro x37 _ _ ⟨o0x37, o1x37, p0x37, p1x37, p2x37, p3x37, rfl, rfl⟩
      have p0x37 := p0x37 r0_1 R_r0_1
      have p2x37 := p2x37 r0_1 R_r0_1
      have p3x37 := p3x37 r0_1 R_r0_1
      have gx37 := rg x37
      try simp only [e30, e31, e32, e33] at p0x37
      try have q0x37 := congrArg Int32.toInt p0x37
      try simp only [e30, e31, e32, e33] at p1x37
      try have q1x37 := congrArg Int32.toInt p1x37
      try simp only [e30, e31, e32, e33] at p2x37
      try have q2x37 := congrArg Int32.toInt p2x37
      try simp only [e30, e31, e32, e33] at p3x37
      try have q3x37 := congrArg Int32.toInt p3x37
      have hT1 := p3x37
      have hv0 : 0 ≤ x37.toInt := by (have t9 : x37.toInt = _ := p3x37); rw [t9]; exact Int.tmod_nonneg _ (Int.mul_nonneg (by omega) (by omega))
      refine k_istore C (lw := [(6, .int x37), (0, .ref r0), (1, .int n1), (2, .int n2), (3, .int n3), (4, .int x5), (5, .int x24)]) rfl rfl (Nat.le_of_ble_eq_true rfl) rfl ?_
      refine k_aload_n C rfl rfl rfl ?_
      refine k_iload_n C rfl rfl rfl ?_
      refine k_iload C rfl rfl rfl ?_
      refine k_iload C rfl rfl rfl ?_
      have q38 : n3.toNatClampNeg = 43 := nck (by omega)
      refine c_VV C (a_X12_put hI28 H_r0 (by omega) (by omega) (by omega) (by omega) (by omega) (by omega)) rfl rfl rfl rfl rfl ⟨_, rfl, rfl, T_r0, Nat.le_of_ble_eq_true rfl⟩ rfl rfl (Nat.le_of_ble_eq_true rfl) (Nat.le_of_ble_eq_true rfl) (Nat.le_of_ble_eq_true rfl) ?_
      rintro I40 L41 ⟨p0v39, p1v39, hI40, S42⟩
      have p0v39 := p0v39 r0_5 R_r0_5
      have p1v39 := p1v39 r0_5 R_r0_5
      try simp only [q38] at p1v39
      have F43 : ∀ r : Nat, (r < 41 * 40 ∨ 41 * 40 + 41 ≤ r) → (r < 41 * 43 ∨ 41 * 43 + 41 ≤ r) → I40 r0_5 r = I22 r0_5 r := fun r z0 z1 => p1v39 r (by first | exact z0 | exact z1)
      have e44 := CM.j S42 R_r0_4 (by decide) e30
      have e45 := CM.j S42 R_r0_4 (by decide) e31
      have e46 := CM.j S42 R_r0_1 (by decide) e32
      have e47 := CM.j S42 R_r0_4 (by decide) e33
      try simp only [q38, e30, e31, e32, e33] at p0v39
      try have q0v39 := congrArg Int32.toInt p0v39
      have hP1 := p0v39
      have hS65 := PUTD.sm (r := 40) hP1 (nclt (by omega) (by omega)) (by decide)
      have hE65 : ∀ i : Nat, (i : Int) < x24.toInt → RI I40 r0_5 43 i = E1 i := fun i hi => by (rw [← eE1]; exact RI.p hP1 (by have h9 := ncz (x := x24) (by omega); omega))
      have hW65 : RI I40 r0_5 43 x24.toNatClampNeg = x37.toInt := RI.w hP1
      refine z_iconst C (z := 0) rfl rfl rfl (fun x48 ex48 => ?_)
      have J49 : ∀ (nn50 : Nat) (I51 : IT) (L52 : LT) (x53 : Int32), ((41 - x53.toInt).toNat = nn50) → (IM R r0 I51) → (CM A R r0 [] [5] I40 L41 I51 L52) → (∀ r : Nat, (r < 41 * 40 ∨ 41 * 40 + 41 ≤ r) → (r < 41 * 43 ∨ 41 * 43 + 41 ≤ r) → I51 r0_5 r = I40 r0_5 r) → (0 ≤ x53.toInt) → (x53.toInt ≤ 41) → (AZ I51 r0_5 (41 * 40) x24.toInt) → (QN I51 r0_5 40 (w_r0_4_40.toInt + 1) w_r0_1_0.toInt) → (SMR I I51 r0_5 41) → (ROWK I51 r0_5 (41 * 40 + x24.toNatClampNeg) x53.toInt va) → (RSB I51 r0_5 F1 (RI I r0_5 41) w_r0_1_0.toInt w_r0_4_40.toInt x37.toInt x24.toInt x53.toInt) → (∀ i : Nat, (i : Int) < x24.toInt → RI I51 r0_5 43 i = E1 i) → (RI I51 r0_5 43 x24.toNatClampNeg = x37.toInt) → (x53.toInt ≤ w_r0_4_41.toInt + 1) → V 71 [(0, .ref r0), (1, .int n1), (2, .int n2), (3, .int n3), (4, .int x5), (5, .int x24), (6, .int x37), (7, .int x53)] [] (T, N, I51, L52, R) 0 0 := by
        intro nn50
        induction nn50 using Nat.strongRecOn with
        | _ nn50 ihJ49 =>
          intro I51 L52 x53 hmnn50 hI57 S56 F58 b54 b55 ff71_0 ff71_1 ff71_2 ff71_3 ff71_4 ff71_5 ff71_6 ff71_7
          have gx53 := rg x53
          have e59 := CM.j S56 R_r0_4 (by decide) e44
          have e60 := CM.j S56 R_r0_4 (by decide) e45
          have e61 := CM.j S56 R_r0_1 (by decide) e46
          have e62 := CM.j S56 R_r0_4 (by decide) e47
          refine k_iload C rfl rfl rfl ?_
          refine k_aload_n C rfl rfl rfl ?_
          refine g_R C rfl rfl rfl T_r0 rfl R_r0_4 ?_
          refine k_iload_n C rfl rfl rfl ?_
          refine a_I C rfl rfl T_r0_4 (by rw [N_r0_4]; exact vpi (by omega) (by omega)) ((congrArg (I51 r0_4) (nck (n := 41) (by omega))).trans e60) ?_
          refine b_icmp_gt C (t := 125) rfl rfl rfl (fun c63 => ?_) (fun c63 => ?_)
          · skip
            refine z_iinc C (z := 1) (lw := fun x64 => [(5, .int x64), (0, .ref r0), (1, .int n1), (2, .int n2), (3, .int n3), (4, .int x5), (6, .int x37), (7, .int x53)]) rfl rfl rfl (Nat.le_of_ble_eq_true rfl) rfl ⟨by omega, by omega⟩ (fun _ => rfl) (fun x64 ex64 => ?_)
            show V 128 [(5, .int x64), (0, .ref r0), (1, .int n1), (2, .int n2), (3, .int n3), (4, .int x5), (6, .int x37), (7, .int x53)] _ _ _ _
            refine k_goto C (pc2 := 33) rfl rfl ?_
            refine k_sub S [(0, .ref r0), (1, .int n1), (2, .int n2), (3, .int n3), (4, .int x5), (5, .int x64)] (List.forall_mem_cons.mpr ⟨List.mem_of_getElem? (i := 1) rfl, List.forall_mem_cons.mpr ⟨List.mem_of_getElem? (i := 2) rfl, List.forall_mem_cons.mpr ⟨List.mem_of_getElem? (i := 3) rfl, List.forall_mem_cons.mpr ⟨List.mem_of_getElem? (i := 4) rfl, List.forall_mem_cons.mpr ⟨List.mem_of_getElem? (i := 5) rfl, List.forall_mem_cons.mpr ⟨List.mem_of_getElem? (i := 0) rfl, fun _ h => nomatch h⟩⟩⟩⟩⟩⟩) ?_
            exact ihJ20 _ (by omega) I51 L52 x64 rfl hI57 (CM.cons S27 (CM.cons S42 (CM.mono S56 (by decide) (by decide)) (by decide) (by decide)) (by decide) (by decide)) (fun r z0 z1 => ((F58 r z0 z1).trans ((F43 r z0 z1).trans (F29 r z0 z1)))) (by omega) (by omega) (by exact AZ.row ff71_0 ff71_3 (by omega) (by omega) (by omega)) (by exact ff71_1) (by exact ff71_2) (by omega) (by exact (RSB.e (E := w_r0_4_41.toInt) ff71_4 (by omega) (by omega)).1) (by exact ff33_5.tr (SCD.sb (c := x37.toInt) (m := x24.toInt.toNat) (by omega) (by rw [eF1]; exact (RSB.e (E := w_r0_4_41.toInt) ff71_4 (by omega) (by omega)).2))) (by exact QEV.s (v := x37.toInt) ff33_6 (by rw [eE1]; exact ff71_5) ff71_6 ⟨by omega, by omega⟩ (by rw [eF1]; exact (RSB.e (E := w_r0_4_41.toInt) ff71_4 (by omega) (by omega)).2) (by omega) (by omega))
          refine k_aload_n C rfl rfl rfl ?_
          refine k_iload_n C rfl rfl rfl ?_
          refine k_iload C rfl rfl rfl ?_
          refine k_iload C rfl rfl rfl ?_
          refine z_iadd C rfl rfl ⟨by omega, by omega⟩ (fun x65 ex65 => ?_)
          refine k_aload_n C rfl rfl rfl ?_
          refine k_aload_n C rfl rfl rfl ?_
          refine k_iload_n C rfl rfl rfl ?_
          refine k_iload C rfl rfl rfl ?_
          refine k_iload C rfl rfl rfl ?_
          refine z_iadd C rfl rfl ⟨by omega, by omega⟩ (fun x66 ex66 => ?_)
          have q67 : n1.toNatClampNeg = 40 := nck (by omega)
          refine c_VI C (a_X12_of hI57 H_r0 (by omega) (by omega) (by omega) (by omega)) rfl rfl rfl rfl rfl ⟨_, rfl, rfl, T_r0, Nat.le_of_ble_eq_true rfl⟩ rfl rfl (Nat.le_of_ble_eq_true rfl) (Nat.le_of_ble_eq_true rfl) (Nat.le_of_ble_eq_true rfl) ?_
          rintro x68 _ _ ⟨o0x68, o1x68, p0x68, rfl, rfl⟩
          have p0x68 := p0x68 r0_5 R_r0_5
          have gx68 := rg x68
          try simp only [q67, e59, e60, e61, e62] at p0x68
          try have q0x68 := congrArg Int32.toInt p0x68
          have hO3 := p0x68
          refine k_aload_n C rfl rfl rfl ?_
          refine k_iload C rfl rfl rfl ?_
          refine k_aload_n C rfl rfl rfl ?_
          refine k_iload_n C rfl rfl rfl ?_
          refine k_iload C rfl rfl rfl ?_
          have q69 : n2.toNatClampNeg = 41 := nck (by omega)
          refine c_VI C (a_X12_of hI57 H_r0 (by omega) (by omega) (by omega) (by omega)) rfl rfl rfl rfl rfl ⟨_, rfl, rfl, T_r0, Nat.le_of_ble_eq_true rfl⟩ rfl rfl (Nat.le_of_ble_eq_true rfl) (Nat.le_of_ble_eq_true rfl) (Nat.le_of_ble_eq_true rfl) ?_
          rintro x70 _ _ ⟨o0x70, o1x70, p0x70, rfl, rfl⟩
          have p0x70 := p0x70 r0_5 R_r0_5
          have gx70 := rg x70
          try simp only [q69, e59, e60, e61, e62] at p0x70
          try have q0x70 := congrArg Int32.toInt p0x70
          have hO4 := p0x70
          have hb107 : x70.toInt = (RI I r0_5 41) x53.toNatClampNeg := by (rw [p0x70, ff71_2 _ (nclt (by omega) (by omega))]; rfl)
          have hb108 := hp5 x53.toNatClampNeg (by have h9 := ncz (x := x53) (by omega); omega)
          refine c_VI C (a_X12_times hI57 H_r0 (by omega) (by omega) (by omega) (by omega)) rfl rfl rfl rfl rfl ⟨_, rfl, rfl, T_r0, Nat.le_of_ble_eq_true rfl⟩ rfl rfl (Nat.le_of_ble_eq_true rfl) (Nat.le_of_ble_eq_true rfl) (Nat.le_of_ble_eq_true rfl) ?_
          rintro x71 _ _ ⟨o0x71, o1x71, p0x71, p1x71, p2x71, p3x71, rfl, rfl⟩
          have p0x71 := p0x71 r0_1 R_r0_1
          have p2x71 := p2x71 r0_1 R_r0_1
          have p3x71 := p3x71 r0_1 R_r0_1
          have gx71 := rg x71
          try simp only [e59, e60, e61, e62] at p0x71
          try have q0x71 := congrArg Int32.toInt p0x71
          try simp only [e59, e60, e61, e62] at p1x71
          try have q1x71 := congrArg Int32.toInt p1x71
          try simp only [e59, e60, e61, e62] at p2x71
          try have q2x71 := congrArg Int32.toInt p2x71
          try simp only [e59, e60, e61, e62] at p3x71
          try have q3x71 := congrArg Int32.toInt p3x71
          have hT2 := p3x71
          refine c_VI C (a_X12_less hI57 H_r0 (by omega) (by omega) (by omega) (by omega)) rfl rfl rfl rfl rfl ⟨_, rfl, rfl, T_r0, Nat.le_of_ble_eq_true rfl⟩ rfl rfl (Nat.le_of_ble_eq_true rfl) (Nat.le_of_ble_eq_true rfl) (Nat.le_of_ble_eq_true rfl) ?_
          rintro x72 _ _ ⟨o0x72, o1x72, p0x72, p1x72, p2x72, p3x72, rfl, rfl⟩
          have p0x72 := p0x72 r0_1 R_r0_1
          have p2x72 := p2x72 r0_1 R_r0_1
          have p3x72 := p3x72 r0_1 R_r0_1
          have gx72 := rg x72
          try simp only [e59, e60, e61, e62] at p0x72
          try have q0x72 := congrArg Int32.toInt p0x72
          try simp only [e59, e60, e61, e62] at p1x72
          try have q1x72 := congrArg Int32.toInt p1x72
          try simp only [e59, e60, e61, e62] at p2x72
          try have q2x72 := congrArg Int32.toInt p2x72
          try simp only [e59, e60, e61, e62] at p3x72
          try have q3x72 := congrArg Int32.toInt p3x72
          have hx0 := fun (hi : x53.toInt = 0) => div0 (by omega) ff71_3 ff71_2 hi (by omega) (by omega) hO3 hO4 hvb hinv (by rw [hva, hvl]; exact hT1) hT2 p3x72
          have hLS := p3x72
          have q73 : n1.toNatClampNeg = 40 := nck (by omega)
          refine c_VV C (a_X12_put hI57 H_r0 (by omega) (by omega) (by omega) (by omega) (by omega) (by omega)) rfl rfl rfl rfl rfl ⟨_, rfl, rfl, T_r0, Nat.le_of_ble_eq_true rfl⟩ rfl rfl (Nat.le_of_ble_eq_true rfl) (Nat.le_of_ble_eq_true rfl) (Nat.le_of_ble_eq_true rfl) ?_
          rintro I75 L76 ⟨p0v74, p1v74, hI75, S77⟩
          have p0v74 := p0v74 r0_5 R_r0_5
          have p1v74 := p1v74 r0_5 R_r0_5
          try simp only [q73] at p1v74
          have F78 : ∀ r : Nat, (r < 41 * 40 ∨ 41 * 40 + 41 ≤ r) → (r < 41 * 43 ∨ 41 * 43 + 41 ≤ r) → I75 r0_5 r = I51 r0_5 r := fun r z0 z1 => p1v74 r (by first | exact z0 | exact z1)
          have e79 := CM.j S77 R_r0_4 (by decide) e59
          have e80 := CM.j S77 R_r0_4 (by decide) e60
          have e81 := CM.j S77 R_r0_1 (by decide) e61
          have e82 := CM.j S77 R_r0_4 (by decide) e62
          try simp only [q73, e59, e60, e61, e62] at p0v74
          try have q0v74 := congrArg Int32.toInt p0v74
          have hP := p0v74
          refine z_iinc C (z := 1) (lw := fun x83 => [(7, .int x83), (0, .ref r0), (1, .int n1), (2, .int n2), (3, .int n3), (4, .int x5), (5, .int x24), (6, .int x37)]) rfl rfl rfl (Nat.le_of_ble_eq_true rfl) rfl ⟨by omega, by omega⟩ (fun _ => rfl) (fun x83 ex83 => ?_)
          show V 122 [(7, .int x83), (0, .ref r0), (1, .int n1), (2, .int n2), (3, .int n3), (4, .int x5), (5, .int x24), (6, .int x37)] _ _ _ _
          refine k_goto C (pc2 := 71) rfl rfl ?_
          refine k_sub S [(0, .ref r0), (1, .int n1), (2, .int n2), (3, .int n3), (4, .int x5), (5, .int x24), (6, .int x37), (7, .int x83)] (List.forall_mem_cons.mpr ⟨List.mem_of_getElem? (i := 1) rfl, List.forall_mem_cons.mpr ⟨List.mem_of_getElem? (i := 2) rfl, List.forall_mem_cons.mpr ⟨List.mem_of_getElem? (i := 3) rfl, List.forall_mem_cons.mpr ⟨List.mem_of_getElem? (i := 4) rfl, List.forall_mem_cons.mpr ⟨List.mem_of_getElem? (i := 5) rfl, List.forall_mem_cons.mpr ⟨List.mem_of_getElem? (i := 6) rfl, List.forall_mem_cons.mpr ⟨List.mem_of_getElem? (i := 7) rfl, List.forall_mem_cons.mpr ⟨List.mem_of_getElem? (i := 0) rfl, fun _ h => nomatch h⟩⟩⟩⟩⟩⟩⟩⟩) ?_
          exact ihJ49 _ (by omega) I75 L76 x83 rfl hI75 (CM.cons S56 (CM.mono S77 (by decide) (by decide)) (by decide) (by decide)) (fun r z0 z1 => ((F78 r z0 z1).trans (F58 r z0 z1))) (by omega) (by omega) (by exact AZ.put ff71_0 hP (by omega) (by omega)) (by exact QN.put ff71_1 hP (by omega) (by omega)) (by exact SMR.put ff71_2 hP (nclt (by omega) (by omega)) (by decide)) (by exact ROWK.s ff71_3 hP (by omega) hx0 (by omega) (by omega) (by omega)) (by exact RSB.s ff71_4 hO3 hb107 (by omega) hv0 hT2 hLS hP (by omega) (by omega) (by omega) (by omega) (by omega) (by omega) (by omega)) (by exact fun i hi => (RI.s (PUTD.sm (r := 43) hP (nclt (by omega) (by omega)) (by decide)) (by omega)).trans (ff71_5 i hi)) (by exact (RI.s (PUTD.sm (r := 43) hP (nclt (by omega) (by omega)) (by decide)) (nclt (by omega) (by omega))).trans ff71_6) (by omega)
      refine k_istore C (lw := [(7, .int x48), (6, .int x37), (0, .ref r0), (1, .int n1), (2, .int n2), (3, .int n3), (4, .int x5), (5, .int x24)]) rfl rfl (Nat.le_of_ble_eq_true rfl) rfl ?_
      refine k_sub S [(0, .ref r0), (1, .int n1), (2, .int n2), (3, .int n3), (4, .int x5), (5, .int x24), (6, .int x37), (7, .int x48)] (List.forall_mem_cons.mpr ⟨List.mem_of_getElem? (i := 2) rfl, List.forall_mem_cons.mpr ⟨List.mem_of_getElem? (i := 3) rfl, List.forall_mem_cons.mpr ⟨List.mem_of_getElem? (i := 4) rfl, List.forall_mem_cons.mpr ⟨List.mem_of_getElem? (i := 5) rfl, List.forall_mem_cons.mpr ⟨List.mem_of_getElem? (i := 6) rfl, List.forall_mem_cons.mpr ⟨List.mem_of_getElem? (i := 7) rfl, List.forall_mem_cons.mpr ⟨List.mem_of_getElem? (i := 1) rfl, List.forall_mem_cons.mpr ⟨List.mem_of_getElem? (i := 0) rfl, fun _ h => nomatch h⟩⟩⟩⟩⟩⟩⟩⟩) ?_
      exact J49 _ I40 L41 x48 rfl hI40 CM.rf (fun r z0 z1 => rfl) (by omega) (by omega) (by exact AZ.put43 ff33_0 hP1 (by omega)) (by exact QN.put ff33_1 hP1 (by omega) (by omega)) (by exact SMR.put ff33_2 hP1 (by have := ncz (x := x24) (by omega); omega) (by decide)) (by exact ROWK.z hP1 (by omega) (by omega) hO2 hva (by omega)) (by exact RSB.z ff33_4 eF1 hS65 (by omega) (by omega)) (by exact hE65) (by exact hW65) (by omega)
  refine k_istore C (lw := [(5, .int x19), (4, .int x5), (0, .ref r0), (1, .int n1), (2, .int n2), (3, .int n3)]) rfl rfl (Nat.le_of_ble_eq_true rfl) rfl ?_
  refine k_sub S [(0, .ref r0), (1, .int n1), (2, .int n2), (3, .int n3), (4, .int x5), (5, .int x19)] (List.forall_mem_cons.mpr ⟨List.mem_of_getElem? (i := 2) rfl, List.forall_mem_cons.mpr ⟨List.mem_of_getElem? (i := 3) rfl, List.forall_mem_cons.mpr ⟨List.mem_of_getElem? (i := 4) rfl, List.forall_mem_cons.mpr ⟨List.mem_of_getElem? (i := 5) rfl, List.forall_mem_cons.mpr ⟨List.mem_of_getElem? (i := 1) rfl, List.forall_mem_cons.mpr ⟨List.mem_of_getElem? (i := 0) rfl, fun _ h => nomatch h⟩⟩⟩⟩⟩⟩) ?_
  exact J20 _ I9 L10 x19 rfl hI9 CM.rf (fun r z0 z1 => rfl) (by omega) (by omega) (by exact AZ.z (by omega)) (by exact QN.smr hp3 hS40 (by omega)) (by exact hS41) (by omega) (by exact hRC) (by exact SCD.rf.cg rfl rfl (fun k hk => RI.s hS40 (by omega)) (fun _ _ => rfl)) (by exact QEV.z (fun j hj => RI.s hS40 (by omega)) (by omega))

theorem a_X12_toldOf_x {d : Nat} {T N : Nat → Nat} {I : IT} {L : LT} {R : RT} {A : Nat → Prop} {r0 : Nat} {n1 n2 : Int32} (hI : IM R r0 I) (H_r0 : (h_MD T N R A) r0) (b0_n1 : 0 ≤ n1.toInt) (b1_n1 : n1.toInt ≤ 47) : Ex (d + 2) 291 [.ref r0, .int n1, .int n2] (T, N, I, L, R) 0 0 (pI T N R (fun x9 I9 L9 => (-18 ≤ x9.toInt) ∧ (x9.toInt ≤ 40) ∧ (∀ a4 a5, R r0 4 = some a4 → R r0 5 = some a5 → DON x9.toInt (I a4 n1.toNatClampNeg).toInt (RI I a5 n1.toNatClampNeg) n2.toInt) ∧ (I = I9 ∧ L = L9))) := by
  refine ⟨_, rfl, Nat.le_of_ble_eq_true rfl, fun V C S => ?_⟩
  show V 0 [(0, .ref r0), (1, .int n1), (2, .int n2)] [] (T, N, I, L, R) 0 0
  have gn1 := rg n1
  have gn2 := rg n2
  obtain ⟨T_r0, A_r0, ⟨r0_1, R_r0_1, H_r0_1⟩, ⟨r0_2, R_r0_2, H_r0_2⟩, ⟨r0_4, R_r0_4, H_r0_4⟩, ⟨r0_5, R_r0_5, H_r0_5⟩, ⟨r0_10, R_r0_10, H_r0_10⟩, ⟨r0_18, R_r0_18, H_r0_18⟩, ⟨r0_20, R_r0_20, H_r0_20⟩, ⟨r0_21, R_r0_21, H_r0_21⟩, ⟨r0_22, R_r0_22, H_r0_22⟩, ⟨r0_23, R_r0_23, H_r0_23⟩, ⟨r0_25, R_r0_25, H_r0_25⟩, ⟨r0_26, R_r0_26, H_r0_26⟩, ⟨r0_27, R_r0_27, H_r0_27⟩, ⟨r0_28, R_r0_28, H_r0_28⟩, ⟨r0_34, R_r0_34, H_r0_34⟩, J_r0, Y_r0⟩ := id H_r0
  have G_r0 : mF T R r0 := ⟨J_r0, Y_r0, T_r0⟩
  obtain ⟨w_r0_4_n1, k0_r0_4_n1⟩ : ∃ x, I r0_4 n1.toNatClampNeg = x := ⟨_, rfl⟩
  have gw_r0_4_n1 := rg w_r0_4_n1
  have ow_r0_4_n1 := IM.dgR hI R_r0_4 k0_r0_4_n1
  refine k_iload_n C rfl rfl rfl ?_
  refine z_iconst C (z := -1) rfl rfl rfl (fun x1 ex1 => ?_)
  refine b_icmp_ne C (t := 14) rfl rfl rfl (fun c2 => ?_) (fun c2 => ?_)
  · skip
    refine k_iload_n C rfl rfl rfl ?_
    refine z_iconst C (z := 0) rfl rfl rfl (fun x3 ex3 => ?_)
    refine k_aload_n C rfl rfl rfl ?_
    refine g_R C rfl rfl rfl T_r0 rfl R_r0_4 ?_
    refine k_iload_n C rfl rfl rfl ?_
    obtain ⟨T_r0_4, N_r0_4, A_r0_4⟩ := id H_r0_4
    refine a_I C rfl rfl T_r0_4 (by rw [N_r0_4]; exact vpi (by omega) (by omega)) k0_r0_4_n1 ?_
    have q4 : x3.toNatClampNeg = 0 := nck (by omega)
    refine c_SI C a_X12_in rfl rfl rfl rfl rfl rfl rfl (Nat.le_of_ble_eq_true rfl) (Nat.le_of_ble_eq_true rfl) (Nat.le_of_ble_eq_true rfl) ?_
    rintro x5 _ _ ⟨o0x5, o1x5, p0x5, rfl, rfl⟩
    have gx5 := rg x5
    try simp only [q4, k0_r0_4_n1] at p0x5
    try have q0x5 := congrArg Int32.toInt p0x5
    refine b_if_eq C (t := 37) rfl rfl rfl (fun c6 => ?_) (fun c6 => ?_)
    · skip
      refine z_iconst C (z := -1) rfl rfl rfl (fun x7 ex7 => ?_)
      exact k_iret C rfl (Or.inl rfl) (Nat.le_of_ble_eq_true rfl) (Nat.le_of_ble_eq_true rfl) ⟨_, _, _, rfl, rfl, by omega, by omega, fun a4 a5 h4 h5 => by cases (R_r0_4.symm.trans h4); cases (R_r0_5.symm.trans h5); simp only [k0_r0_4_n1]; first | exact ⟨fun _ => by omega, fun h => by exfalso; omega, fun h => by exfalso; omega⟩ | exact ⟨fun h => by exfalso; omega, fun _ _ => by omega, fun h1 h2 => by exfalso; omega⟩ | exact ⟨fun h => by exfalso; omega, fun _ h => by exfalso; omega, fun _ _ => hN⟩, rfl, rfl⟩
    refine k_aload_n C rfl rfl rfl ?_
    refine k_iload_n C rfl rfl rfl ?_
    refine k_iload_n C rfl rfl rfl ?_
    refine c_VI C (a_X12_of hI H_r0 (by omega) (by omega) (by omega) (by omega)) rfl rfl rfl rfl rfl ⟨_, rfl, rfl, T_r0, Nat.le_of_ble_eq_true rfl⟩ rfl rfl (Nat.le_of_ble_eq_true rfl) (Nat.le_of_ble_eq_true rfl) (Nat.le_of_ble_eq_true rfl) ?_
    rintro x8 _ _ ⟨o0x8, o1x8, p0x8, rfl, rfl⟩
    have p0x8 := p0x8 r0_5 R_r0_5
    have gx8 := rg x8
    try simp only [k0_r0_4_n1] at p0x8
    try have q0x8 := congrArg Int32.toInt p0x8
    have hN := p0x8
    refine k_goto C (pc2 := 38) rfl rfl ?_
    exact k_iret C rfl (Or.inl rfl) (Nat.le_of_ble_eq_true rfl) (Nat.le_of_ble_eq_true rfl) ⟨_, _, _, rfl, rfl, by omega, by omega, fun a4 a5 h4 h5 => by cases (R_r0_4.symm.trans h4); cases (R_r0_5.symm.trans h5); simp only [k0_r0_4_n1]; first | exact ⟨fun _ => by omega, fun h => by exfalso; omega, fun h => by exfalso; omega⟩ | exact ⟨fun h => by exfalso; omega, fun _ _ => by omega, fun h1 h2 => by exfalso; omega⟩ | exact ⟨fun h => by exfalso; omega, fun _ h => by exfalso; omega, fun _ _ => hN⟩, rfl, rfl⟩
  refine k_aload_n C rfl rfl rfl ?_
  refine g_R C rfl rfl rfl T_r0 rfl R_r0_4 ?_
  refine k_iload_n C rfl rfl rfl ?_
  obtain ⟨T_r0_4, N_r0_4, A_r0_4⟩ := id H_r0_4
  refine a_I C rfl rfl T_r0_4 (by rw [N_r0_4]; exact vpi (by omega) (by omega)) k0_r0_4_n1 ?_
  refine k_goto C (pc2 := 38) rfl rfl ?_
  exact k_iret C rfl (Or.inl rfl) (Nat.le_of_ble_eq_true rfl) (Nat.le_of_ble_eq_true rfl) ⟨_, _, _, rfl, rfl, by omega, by omega, fun a4 a5 h4 h5 => by cases (R_r0_4.symm.trans h4); cases (R_r0_5.symm.trans h5); simp only [k0_r0_4_n1]; first | exact ⟨fun _ => by omega, fun h => by exfalso; omega, fun h => by exfalso; omega⟩ | exact ⟨fun h => by exfalso; omega, fun _ _ => by omega, fun h1 h2 => by exfalso; omega⟩ | exact ⟨fun h => by exfalso; omega, fun _ h => by exfalso; omega, fun _ _ => hN⟩, rfl, rfl⟩

set_option maxHeartbeats 8000000 in
theorem a_X12_hasQuotient_x {d : Nat} {T N : Nat → Nat} {I : IT} {L : LT} {R : RT} {A : Nat → Prop} {r0 : Nat} (hI : IM R r0 I) (H_r0 : (h_MD T N R A) r0) (hp0 : ∀ a4, R r0 4 = some a4 → (I a4 40).toInt ≤ 8) (hp1 : ∀ a4, R r0 4 = some a4 → (I a4 41).toInt ≤ 8) (hp2 : ∀ a1 a4 a5, R r0 1 = some a1 → R r0 4 = some a4 → R r0 5 = some a5 → QN I a5 40 ((I a4 40).toInt + 1) (I a1 0).toInt) (hp3 : ∀ a1 a4 a5, R r0 1 = some a1 → R r0 4 = some a4 → R r0 5 = some a5 → QN I a5 41 ((I a4 41).toInt + 1) (I a1 0).toInt) (hp4 : ∀ a1 a4 a5, R r0 1 = some a1 → R r0 4 = some a4 → R r0 5 = some a5 → RCN I a5 40 (I a1 0).toInt (I a4 40).toInt) (hp5 : ∀ a1 a4 a5, R r0 1 = some a1 → R r0 4 = some a4 → R r0 5 = some a5 → RCN I a5 41 (I a1 0).toInt (I a4 41).toInt) : Ex (d + 6) 293 [.ref r0] (T, N, I, L, R) 0 0 (pI T N R (fun x9 I9 L9 => (0 ≤ x9.toInt) ∧ (x9.toInt ≤ 1) ∧ (∀ a1 a4 a5, R r0 1 = some a1 → R r0 4 = some a4 → R r0 5 = some a5 → DVQ x9.toInt (I a1 0).toInt (RI I a5 40) (I a4 40).toInt (RI I a5 41) (I a4 41).toInt (RI I9 a5 42) (I9 a4 42).toInt) ∧ (IM R r0 I9 ∧ CM A R r0 [] [4, 5] I L I9 L9))) := by
  refine ⟨_, rfl, Nat.le_of_ble_eq_true rfl, fun V C S => ?_⟩
  show V 0 [(0, .ref r0)] [] (T, N, I, L, R) 0 0
  obtain ⟨T_r0, A_r0, ⟨r0_1, R_r0_1, H_r0_1⟩, ⟨r0_2, R_r0_2, H_r0_2⟩, ⟨r0_4, R_r0_4, H_r0_4⟩, ⟨r0_5, R_r0_5, H_r0_5⟩, ⟨r0_10, R_r0_10, H_r0_10⟩, ⟨r0_18, R_r0_18, H_r0_18⟩, ⟨r0_20, R_r0_20, H_r0_20⟩, ⟨r0_21, R_r0_21, H_r0_21⟩, ⟨r0_22, R_r0_22, H_r0_22⟩, ⟨r0_23, R_r0_23, H_r0_23⟩, ⟨r0_25, R_r0_25, H_r0_25⟩, ⟨r0_26, R_r0_26, H_r0_26⟩, ⟨r0_27, R_r0_27, H_r0_27⟩, ⟨r0_28, R_r0_28, H_r0_28⟩, ⟨r0_34, R_r0_34, H_r0_34⟩, J_r0, Y_r0⟩ := id H_r0
  have G_r0 : mF T R r0 := ⟨J_r0, Y_r0, T_r0⟩
  obtain ⟨w_r0_4_40, k0_r0_4_40⟩ : ∃ x, I r0_4 40 = x := ⟨_, rfl⟩
  have gw_r0_4_40 := rg w_r0_4_40
  have ow_r0_4_40 := IM.dgR hI R_r0_4 k0_r0_4_40
  obtain ⟨w_r0_4_41, k0_r0_4_41⟩ : ∃ x, I r0_4 41 = x := ⟨_, rfl⟩
  have gw_r0_4_41 := rg w_r0_4_41
  have ow_r0_4_41 := IM.dgR hI R_r0_4 k0_r0_4_41
  obtain ⟨w_r0_1_0, k0_r0_1_0⟩ : ∃ x, I r0_1 0 = x := ⟨_, rfl⟩
  have gw_r0_1_0 := rg w_r0_1_0
  have ow_r0_1_0 := IM.pi hI R_r0_1 k0_r0_1_0
  have hp0 := hp0 r0_4 R_r0_4
  have hp1 := hp1 r0_4 R_r0_4
  have hp2 := hp2 r0_1 r0_4 r0_5 R_r0_1 R_r0_4 R_r0_5
  have hp3 := hp3 r0_1 r0_4 r0_5 R_r0_1 R_r0_4 R_r0_5
  have hp4 := hp4 r0_1 r0_4 r0_5 R_r0_1 R_r0_4 R_r0_5
  have hp5 := hp5 r0_1 r0_4 r0_5 R_r0_1 R_r0_4 R_r0_5
  try simp only [k0_r0_4_40, k0_r0_4_41, k0_r0_1_0] at hp0
  try simp only [k0_r0_4_40, k0_r0_4_41, k0_r0_1_0] at hp1
  try simp only [k0_r0_4_40, k0_r0_4_41, k0_r0_1_0] at hp2
  try simp only [k0_r0_4_40, k0_r0_4_41, k0_r0_1_0] at hp3
  try simp only [k0_r0_4_40, k0_r0_4_41, k0_r0_1_0] at hp4
  try simp only [k0_r0_4_40, k0_r0_4_41, k0_r0_1_0] at hp5
  have hPM : PRM w_r0_1_0.toInt := IM.p hI R_r0_1 k0_r0_1_0
  refine k_aload_n C rfl rfl rfl ?_
  refine z_bipush C (z := 41) rfl rfl rfl (fun x1 ex1 => ?_)
  have q2 : x1.toNatClampNeg = 41 := nck (by omega)
  refine c_VI C (a_X12_isNought_e hI H_r0 (by omega) (by omega)) rfl rfl rfl rfl rfl ⟨_, rfl, rfl, T_r0, Nat.le_of_ble_eq_true rfl⟩ rfl rfl (Nat.le_of_ble_eq_true rfl) (Nat.le_of_ble_eq_true rfl) (Nat.le_of_ble_eq_true rfl) ?_
  rintro x3 _ _ ⟨o0x3, o1x3, p0x3, p1x3, rfl, rfl⟩
  have p0x3 := p0x3 r0_4 r0_5 R_r0_4 R_r0_5
  have p1x3 := p1x3 r0_4 r0_5 R_r0_4 R_r0_5
  have gx3 := rg x3
  try simp only [q2, k0_r0_4_40, k0_r0_4_41, k0_r0_1_0] at p0x3
  try have q0x3 := congrArg Int32.toInt p0x3
  try simp only [q2, k0_r0_4_40, k0_r0_4_41, k0_r0_1_0] at p1x3
  try have q1x3 := congrArg Int32.toInt p1x3
  have zB := p0x3
  have hN41 := NQI9 (D := w_r0_4_41.toInt) p1x3 (by rw [k0_r0_4_41])
  refine b_if_ne C (t := 26) rfl rfl rfl (fun c4 => ?_) (fun c4 => ?_)
  · skip
    refine z_iconst C (z := 0) rfl rfl rfl (fun x5 ex5 => ?_)
    exact k_iret C rfl (Or.inr ⟨rfl, z01 (by omega) (by omega)⟩) (Nat.le_of_ble_eq_true rfl) (Nat.le_of_ble_eq_true rfl) ⟨_, _, _, rfl, rfl, by omega, by omega, fun a1 a4 a5 h1 h4 h5 => by cases (R_r0_1.symm.trans h1); cases (R_r0_4.symm.trans h4); cases (R_r0_5.symm.trans h5); simp only [k0_r0_4_40, k0_r0_4_41, k0_r0_1_0]; first | exact DVQ.z (hN41.1 (by omega)) (by omega) | exact DVQ.s (by omega) (by omega), hI, CM.rf⟩
  refine k_aload_n C rfl rfl rfl ?_
  refine g_R C rfl rfl rfl T_r0 rfl R_r0_4 ?_
  refine z_bipush C (z := 40) rfl rfl rfl (fun x6 ex6 => ?_)
  obtain ⟨T_r0_4, N_r0_4, A_r0_4⟩ := id H_r0_4
  refine a_I C rfl rfl T_r0_4 (by rw [N_r0_4]; exact vpi (by omega) (by omega)) ((congrArg (I r0_4) (nck (n := 40) (by omega))).trans k0_r0_4_40) ?_
  refine k_aload_n C rfl rfl rfl ?_
  refine g_R C rfl rfl rfl T_r0 rfl R_r0_4 ?_
  refine z_bipush C (z := 41) rfl rfl rfl (fun x7 ex7 => ?_)
  refine a_I C rfl rfl T_r0_4 (by rw [N_r0_4]; exact vpi (by omega) (by omega)) ((congrArg (I r0_4) (nck (n := 41) (by omega))).trans k0_r0_4_41) ?_
  refine b_icmp_ge C (t := 28) rfl rfl rfl (fun c8 => ?_) (fun c8 => ?_)
  · skip
    refine k_aload_n C rfl rfl rfl ?_
    refine g_R C rfl rfl rfl T_r0 rfl R_r0_4 ?_
    refine z_bipush C (z := 40) rfl rfl rfl (fun x9 ex9 => ?_)
    refine a_I C rfl rfl T_r0_4 (by rw [N_r0_4]; exact vpi (by omega) (by omega)) ((congrArg (I r0_4) (nck (n := 40) (by omega))).trans k0_r0_4_40) ?_
    refine k_aload_n C rfl rfl rfl ?_
    refine g_R C rfl rfl rfl T_r0 rfl R_r0_4 ?_
    refine z_bipush C (z := 41) rfl rfl rfl (fun x10 ex10 => ?_)
    refine a_I C rfl rfl T_r0_4 (by rw [N_r0_4]; exact vpi (by omega) (by omega)) ((congrArg (I r0_4) (nck (n := 41) (by omega))).trans k0_r0_4_41) ?_
    refine z_isub C rfl rfl ⟨by omega, by omega⟩ (fun x11 ex11 => ?_)
    refine k_istore_n C (lw := [(1, .int x11), (0, .ref r0)]) rfl rfl (Nat.le_of_ble_eq_true rfl) rfl ?_
    refine k_aload_n C rfl rfl rfl ?_
    refine z_bipush C (z := 40) rfl rfl rfl (fun x12 ex12 => ?_)
    have q13 : x12.toNatClampNeg = 40 := nck (by omega)
    refine c_VI C (a_X12_isNought_e hI H_r0 (by omega) (by omega)) rfl rfl rfl rfl rfl ⟨_, rfl, rfl, T_r0, Nat.le_of_ble_eq_true rfl⟩ rfl rfl (Nat.le_of_ble_eq_true rfl) (Nat.le_of_ble_eq_true rfl) (Nat.le_of_ble_eq_true rfl) ?_
    rintro x14 _ _ ⟨o0x14, o1x14, p0x14, p1x14, rfl, rfl⟩
    have p0x14 := p0x14 r0_4 r0_5 R_r0_4 R_r0_5
    have p1x14 := p1x14 r0_4 r0_5 R_r0_4 R_r0_5
    have gx14 := rg x14
    try simp only [q13, k0_r0_4_40, k0_r0_4_41, k0_r0_1_0] at p0x14
    try have q0x14 := congrArg Int32.toInt p0x14
    try simp only [q13, k0_r0_4_40, k0_r0_4_41, k0_r0_1_0] at p1x14
    try have q1x14 := congrArg Int32.toInt p1x14
    have zA := p0x14
    have hN40 := NQI9 (D := w_r0_4_40.toInt) p1x14 (by rw [k0_r0_4_40])
    refine b_if_eq C (t := 62) rfl rfl rfl (fun c15 => ?_) (fun c15 => ?_)
    · skip
      refine k_aload_n C rfl rfl rfl ?_
      refine z_bipush C (z := 40) rfl rfl rfl (fun x16 ex16 => ?_)
      have q17 : x16.toNatClampNeg = 40 := nck (by omega)
      refine c_VI C (a_X12_strips_x hI H_r0 (by omega) (by omega) (fun a4 a5 h4 h5 => by cases (R_r0_4.symm.trans h4); cases (R_r0_5.symm.trans h5); simp only [q17, k0_r0_4_40, k0_r0_4_41, k0_r0_1_0]; exact zA (by omega))) rfl rfl rfl rfl rfl ⟨_, rfl, rfl, T_r0, Nat.le_of_ble_eq_true rfl⟩ rfl rfl (Nat.le_of_ble_eq_true rfl) (Nat.le_of_ble_eq_true rfl) (Nat.le_of_ble_eq_true rfl) ?_
      rintro x18 I19 L20 ⟨p0x18, p1x18, p2x18, p3x18, p4x18, p5x18, p6x18, hI19, S21⟩
      have p0x18 := p0x18 r0_4 R_r0_4
      have p1x18 := p1x18 r0_4 R_r0_4
      have p2x18 := p2x18 r0_5 R_r0_5
      have p3x18 := p3x18 r0_4 r0_5 R_r0_4 R_r0_5
      have p4x18 := p4x18 r0_5 R_r0_5
      have p5x18 := p5x18 r0_4 R_r0_4
      have p6x18 := p6x18 r0_5 R_r0_5
      try simp only [q17] at p5x18
      try simp only [q17] at p6x18
      have e23 := (p5x18 41 (by first | decide | exact ncne (by omega) (by omega) (by omega) | exact nckn (by omega) (by omega) | exact (nckn (by omega) (by omega)).symm)).trans k0_r0_4_41
      have e24 := CM.j S21 R_r0_1 (by decide) k0_r0_1_0
      have gx18 := rg x18
      obtain ⟨x25, e26⟩ : ∃ x, I19 r0_4 40 = x := ⟨_, rfl⟩
      have gx25 := rg x25
      have ox25 := IM.dgR hI19 R_r0_4 e26
      try simp only [q17, k0_r0_4_40, k0_r0_4_41, k0_r0_1_0, e26] at p0x18
      try have q0x18 := congrArg Int32.toInt p0x18
      try simp only [q17, k0_r0_4_40, k0_r0_4_41, k0_r0_1_0, e26] at p1x18
      try have q1x18 := congrArg Int32.toInt p1x18
      try simp only [q17, k0_r0_4_40, k0_r0_4_41, k0_r0_1_0, e26] at p2x18
      try have q2x18 := congrArg Int32.toInt p2x18
      try simp only [q17, k0_r0_4_40, k0_r0_4_41, k0_r0_1_0, e26] at p3x18
      try have q3x18 := congrArg Int32.toInt p3x18
      try simp only [q17, k0_r0_4_40, k0_r0_4_41, k0_r0_1_0, e26] at p4x18
      try have q4x18 := congrArg Int32.toInt p4x18
      have hA := QN.st hp2 p3x18 (by omega)
      have hB := QN.sm hp3 (fun k hk => p6x18 _ (by omega)) (by omega)
      have zB := NZ.sm (zB (by omega)) (fun k hk => p6x18 _ (by omega)) (by omega)
      obtain ⟨a9, ea9⟩ : ∃ a : Nat, a = x18.toNatClampNeg := ⟨_, rfl⟩
      have ha9 : (a9 : Int) = x18.toInt := by (rw [ea9]; exact ncz (by omega))
      have hFA := STP.f p3x18 p4x18 p2x18 (by omega) (by omega)
      rw [← ea9] at hFA
      have hm3 : SMR I I19 r0_5 41 := fun k hk => p6x18 _ (by omega)
      have rA3 : RWF I19 r0_5 40 (w_r0_4_40.toInt - a9) (fun k => RI I r0_5 40 (a9 + k)) := fun k hk => by (have q9 := STP.r (k := k) p3x18 (by omega); rw [← ea9] at q9; exact q9)
      have cA3 : RCN I19 r0_5 40 w_r0_1_0.toInt (w_r0_4_40.toInt - a9) := RWF.rc rA3 (fun k hk => hp4 (a9 + k) (by omega)) rfl
      have cB3 := RCN.sm hp5 hm3 rfl (by omega)
      refine k_aload_n C rfl rfl rfl ?_
      refine z_bipush C (z := 41) rfl rfl rfl (fun x27 ex27 => ?_)
      have q28 : x27.toNatClampNeg = 41 := nck (by omega)
      refine c_VI C (a_X12_strips_x hI19 H_r0 (by omega) (by omega) (fun a4 a5 h4 h5 => by cases (R_r0_4.symm.trans h4); cases (R_r0_5.symm.trans h5); simp only [q28, e23, e24, e26]; exact zB)) rfl rfl rfl rfl rfl ⟨_, rfl, rfl, T_r0, Nat.le_of_ble_eq_true rfl⟩ rfl rfl (Nat.le_of_ble_eq_true rfl) (Nat.le_of_ble_eq_true rfl) (Nat.le_of_ble_eq_true rfl) ?_
      rintro x29 I30 L31 ⟨p0x29, p1x29, p2x29, p3x29, p4x29, p5x29, p6x29, hI30, S32⟩
      have p0x29 := p0x29 r0_4 R_r0_4
      have p1x29 := p1x29 r0_4 R_r0_4
      have p2x29 := p2x29 r0_5 R_r0_5
      have p3x29 := p3x29 r0_4 r0_5 R_r0_4 R_r0_5
      have p4x29 := p4x29 r0_5 R_r0_5
      have p5x29 := p5x29 r0_4 R_r0_4
      have p6x29 := p6x29 r0_5 R_r0_5
      try simp only [q28] at p5x29
      try simp only [q28] at p6x29
      have e34 := CM.j S32 R_r0_1 (by decide) e24
      have e35 := (p5x29 40 (by first | decide | exact ncne (by omega) (by omega) (by omega) | exact nckn (by omega) (by omega) | exact (nckn (by omega) (by omega)).symm)).trans e26
      have gx29 := rg x29
      obtain ⟨x36, e37⟩ : ∃ x, I30 r0_4 41 = x := ⟨_, rfl⟩
      have gx36 := rg x36
      have ox36 := IM.dgR hI30 R_r0_4 e37
      try simp only [q28, e23, e24, e26, e37] at p0x29
      try have q0x29 := congrArg Int32.toInt p0x29
      try simp only [q28, e23, e24, e26, e37] at p1x29
      try have q1x29 := congrArg Int32.toInt p1x29
      try simp only [q28, e23, e24, e26, e37] at p2x29
      try have q2x29 := congrArg Int32.toInt p2x29
      try simp only [q28, e23, e24, e26, e37] at p3x29
      try have q3x29 := congrArg Int32.toInt p3x29
      try simp only [q28, e23, e24, e26, e37] at p4x29
      try have q4x29 := congrArg Int32.toInt p4x29
      have hB := QN.st hB p3x29 (by omega)
      have nB := STP.ne p3x29 p2x29 (by omega) (by omega)
      have hA := QN.sm hA (fun k hk => p6x29 _ (by omega)) (by omega)
      obtain ⟨b9, eb9⟩ : ∃ a : Nat, a = x29.toNatClampNeg := ⟨_, rfl⟩
      have hb9 : (b9 : Int) = x29.toInt := by (rw [eb9]; exact ncz (by omega))
      have hFB0 := STP.f p3x29 p4x29 p2x29 (by omega) (by omega)
      rw [← eb9] at hFB0
      have hFB : FST (RI I r0_5 41) b9 w_r0_4_41.toInt := hFB0.cg (fun k hk => (RI.s hm3 (by omega)).symm)
      have rB16 : RWF I30 r0_5 41 (w_r0_4_41.toInt - b9) (fun k => RI I r0_5 41 (b9 + k)) := fun k hk => by (have q9 := STP.r (k := k) p3x29 (by omega); rw [← eb9, RI.s hm3 (by omega)] at q9; exact q9)
      have rA16 := RWF.sm rA3 (fun k hk => p6x29 _ (by omega)) (by omega)
      have cB16 : RCN I30 r0_5 41 w_r0_1_0.toInt (w_r0_4_41.toInt - b9) := RWF.rc rB16 (fun k hk => hp5 (b9 + k) (by omega)) rfl
      have cA16 : RCN I30 r0_5 40 w_r0_1_0.toInt (w_r0_4_40.toInt - a9) := RWF.rc rA16 (fun k hk => hp4 (a9 + k) (by omega)) rfl
      refine z_isub C rfl rfl ⟨by omega, by omega⟩ (fun x38 ex38 => ?_)
      refine k_istore_n C (lw := [(2, .int x38), (1, .int x11), (0, .ref r0)]) rfl rfl (Nat.le_of_ble_eq_true rfl) rfl ?_
      refine k_iload_n C rfl rfl rfl ?_
      refine b_if_lt C (t := 97) rfl rfl rfl (fun c39 => ?_) (fun c39 => ?_)
      · skip
        refine z_iconst C (z := 0) rfl rfl rfl (fun x40 ex40 => ?_)
        exact k_iret C rfl (Or.inr ⟨rfl, z01 (by omega) (by omega)⟩) (Nat.le_of_ble_eq_true rfl) (Nat.le_of_ble_eq_true rfl) ⟨_, _, _, rfl, rfl, by omega, by omega, fun a1 a4 a5 h1 h4 h5 => by cases (R_r0_1.symm.trans h1); cases (R_r0_4.symm.trans h4); cases (R_r0_5.symm.trans h5); simp only [k0_r0_4_40, k0_r0_4_41, k0_r0_1_0]; exact DVQ.nb hFA hFB hp4 hp5 hPM (by omega) (by omega), hI30, (CM.cons S21 (CM.mono S32 (by decide) (by decide)) (by decide) (by decide))⟩
      refine k_aload_n C rfl rfl rfl ?_
      refine g_R C rfl rfl rfl T_r0 rfl R_r0_4 ?_
      refine z_bipush C (z := 40) rfl rfl rfl (fun x41 ex41 => ?_)
      refine a_I C rfl rfl T_r0_4 (by rw [N_r0_4]; exact vpi (by omega) (by omega)) ((congrArg (I30 r0_4) (nck (n := 40) (by omega))).trans e35) ?_
      refine k_aload_n C rfl rfl rfl ?_
      refine g_R C rfl rfl rfl T_r0 rfl R_r0_4 ?_
      refine z_bipush C (z := 41) rfl rfl rfl (fun x42 ex42 => ?_)
      refine a_I C rfl rfl T_r0_4 (by rw [N_r0_4]; exact vpi (by omega) (by omega)) ((congrArg (I30 r0_4) (nck (n := 41) (by omega))).trans e37) ?_
      refine b_icmp_ge C (t := 99) rfl rfl rfl (fun c43 => ?_) (fun c43 => ?_)
      · skip
        refine k_aload_n C rfl rfl rfl ?_
        refine z_bipush C (z := 40) rfl rfl rfl (fun x44 ex44 => ?_)
        refine z_bipush C (z := 41) rfl rfl rfl (fun x45 ex45 => ?_)
        refine z_bipush C (z := 43) rfl rfl rfl (fun x46 ex46 => ?_)
        have q47 : x44.toNatClampNeg = 40 := nck (by omega)
        have q48 : x45.toNatClampNeg = 41 := nck (by omega)
        have q49 : x46.toNatClampNeg = 43 := nck (by omega)
        refine c_VV C (a_X12_divides_x hI30 H_r0 (by omega) (by omega) (by omega) (by omega) (by omega) (by omega) (fun a4 h4 => by cases (R_r0_4.symm.trans h4); first | omega | (simp only [q47, q48, q49, e34, e35, e37, and_true, true_and, or_true, true_or, and_false, false_and, or_false, false_or] <;> omega)) (fun a5 h5 => by cases (R_r0_5.symm.trans h5); exact nB) (fun a1 a5 h1 h5 => by cases (R_r0_1.symm.trans h1); cases (R_r0_5.symm.trans h5); simp only [q47, q48, q49, e34, e35, e37]; exact QN.le hB (by omega)) (fun a1 a4 a5 h1 h4 h5 => by cases (R_r0_1.symm.trans h1); cases (R_r0_4.symm.trans h4); cases (R_r0_5.symm.trans h5); simp only [q47, q48, q49, e34, e35, e37]; exact QN.le hA (by omega)) (fun a1 a4 a5 h1 h4 h5 => by cases (R_r0_1.symm.trans h1); cases (R_r0_4.symm.trans h4); cases (R_r0_5.symm.trans h5); simp only [q47, q48, q49, e34, e35, e37]; exact fun k hk => cA16 k (by omega)) (fun a1 a4 a5 h1 h4 h5 => by cases (R_r0_1.symm.trans h1); cases (R_r0_4.symm.trans h4); cases (R_r0_5.symm.trans h5); simp only [q47, q48, q49, e34, e35, e37]; exact fun k hk => cB16 k (by omega)) (fun a4 h4 => by cases (R_r0_4.symm.trans h4); simp only [q47, q48, q49, e34, e35, e37]; omega)) rfl rfl rfl rfl rfl ⟨_, rfl, rfl, T_r0, Nat.le_of_ble_eq_true rfl⟩ rfl rfl (Nat.le_of_ble_eq_true rfl) (Nat.le_of_ble_eq_true rfl) (Nat.le_of_ble_eq_true rfl) ?_
        rintro I51 L52 ⟨p0v50, p1v50, p2v50, p3v50, p4v50, p5v50, p6v50, p7v50, hI51, S53⟩
        have p0v50 := p0v50 r0_4 r0_5 R_r0_4 R_r0_5
        have p1v50 := p1v50 r0_1 r0_4 r0_5 R_r0_1 R_r0_4 R_r0_5
        have p2v50 := p2v50 r0_4 R_r0_4
        have p3v50 := p3v50 r0_1 r0_4 r0_5 R_r0_1 R_r0_4 R_r0_5
        have p4v50 := p4v50 r0_1 r0_4 r0_5 R_r0_1 R_r0_4 R_r0_5
        have p5v50 := p5v50 r0_1 r0_4 r0_5 R_r0_1 R_r0_4 R_r0_5
        have p6v50 := p6v50 r0_4 R_r0_4
        have p7v50 := p7v50 r0_5 R_r0_5
        try simp only [q47, q48, q49] at p6v50
        try simp only [q47, q48, q49] at p7v50
        have e54 := CM.j S53 R_r0_1 (by decide) e34
        have e55 := (p6v50 40 (by first | decide | exact ncne (by omega) (by omega) (by omega) | exact nckn (by omega) (by omega) | exact (nckn (by omega) (by omega)).symm)).trans e35
        have e56 := (p6v50 41 (by first | decide | exact ncne (by omega) (by omega) (by omega) | exact nckn (by omega) (by omega) | exact (nckn (by omega) (by omega)).symm)).trans e37
        obtain ⟨x57, e58⟩ : ∃ x, I51 r0_4 43 = x := ⟨_, rfl⟩
        have gx57 := rg x57
        have ox57 := IM.dgR hI51 R_r0_4 e58
        try simp only [q47, q48, q49, e34, e35, e37, e58] at p0v50
        try have q0v50 := congrArg Int32.toInt p0v50
        try simp only [q47, q48, q49, e34, e35, e37, e58] at p1v50
        try have q1v50 := congrArg Int32.toInt p1v50
        try simp only [q47, q48, q49, e34, e35, e37, e58] at p2v50
        try have q2v50 := congrArg Int32.toInt p2v50
        try simp only [q47, q48, q49, e34, e35, e37, e58] at p3v50
        try have q3v50 := congrArg Int32.toInt p3v50
        try simp only [q47, q48, q49, e34, e35, e37, e58] at p4v50
        try have q4v50 := congrArg Int32.toInt p4v50
        try simp only [q47, q48, q49, e34, e35, e37, e58] at p5v50
        try have q5v50 := congrArg Int32.toInt p5v50
        have hz106 := p0v50
        have hr106 := p3v50
        have hq106 := p5v50
        obtain ⟨R9, eR9⟩ : ∃ f : Nat → Int, RI I51 r0_5 40 = f := ⟨_, rfl⟩
        obtain ⟨E9, eE9⟩ : ∃ f : Nat → Int, RI I51 r0_5 43 = f := ⟨_, rfl⟩
        have hV106 : QEV w_r0_1_0.toInt _ (w_r0_4_40.toInt - a9) _ (w_r0_4_41.toInt - b9) E9 R9 (w_r0_4_40.toInt - a9 - (w_r0_4_41.toInt - b9) + 1) := QEV.cd hq106 (by omega) (by omega) (by omega) eE9 eR9
        have hZ106 : ∀ j : Nat, (j : Int) < w_r0_4_40.toInt - a9 - (w_r0_4_41.toInt - b9) + 1 → R9 j = 0 := fun j hj => by (rw [← eR9]; exact hz106 j (by omega))
        have hR106 : ∀ j : Nat, (j : Int) ≤ w_r0_4_40.toInt - a9 → 0 ≤ R9 j ∧ R9 j < w_r0_1_0.toInt := fun j hj => by (rw [← eR9]; exact hr106 j (by omega))
        refine k_aload_n C rfl rfl rfl ?_
        refine z_bipush C (z := 40) rfl rfl rfl (fun x59 ex59 => ?_)
        have q60 : x59.toNatClampNeg = 40 := nck (by omega)
        refine c_VI C (a_X12_isNought_e hI51 H_r0 (by omega) (by omega)) rfl rfl rfl rfl rfl ⟨_, rfl, rfl, T_r0, Nat.le_of_ble_eq_true rfl⟩ rfl rfl (Nat.le_of_ble_eq_true rfl) (Nat.le_of_ble_eq_true rfl) (Nat.le_of_ble_eq_true rfl) ?_
        rintro x61 _ _ ⟨o0x61, o1x61, p0x61, p1x61, rfl, rfl⟩
        have p0x61 := p0x61 r0_4 r0_5 R_r0_4 R_r0_5
        have p1x61 := p1x61 r0_4 r0_5 R_r0_4 R_r0_5
        have gx61 := rg x61
        try simp only [q60, e54, e55, e56, e58] at p0x61
        try have q0x61 := congrArg Int32.toInt p0x61
        try simp only [q60, e54, e55, e56, e58] at p1x61
        try have q1x61 := congrArg Int32.toInt p1x61
        have hNR := p1x61
        refine b_if_ne C (t := 120) rfl rfl rfl (fun c62 => ?_) (fun c62 => ?_)
        · skip
          have hZR : ZRL R9 (w_r0_4_40.toInt - a9 + 1) := fun k hk => by (have h9 := hNR.1 (by omega) k (by rw [e55]; omega); rw [eR9] at h9; exact h9)
          refine k_aload_n C rfl rfl rfl ?_
          refine z_bipush C (z := 42) rfl rfl rfl (fun x63 ex63 => ?_)
          refine k_iload_n C rfl rfl rfl ?_
          have q64 : x63.toNatClampNeg = 42 := nck (by omega)
          refine c_VV C (a_X12_clears hI51 H_r0 (by omega) (by omega) (by omega) (by omega)) rfl rfl rfl rfl rfl ⟨_, rfl, rfl, T_r0, Nat.le_of_ble_eq_true rfl⟩ rfl rfl (Nat.le_of_ble_eq_true rfl) (Nat.le_of_ble_eq_true rfl) (Nat.le_of_ble_eq_true rfl) ?_
          rintro I66 L67 ⟨p0v65, p1v65, p2v65, p3v65, hI66, S68⟩
          have p0v65 := p0v65 r0_4 R_r0_4
          have p1v65 := p1v65 r0_5 R_r0_5
          have p2v65 := p2v65 r0_4 R_r0_4
          have p3v65 := p3v65 r0_5 R_r0_5
          try simp only [q64] at p2v65
          try simp only [q64] at p3v65
          have e69 := CM.j S68 R_r0_1 (by decide) e54
          have e70 := (p2v65 40 (by first | decide | exact ncne (by omega) (by omega) (by omega) | exact nckn (by omega) (by omega) | exact (nckn (by omega) (by omega)).symm)).trans e55
          have e71 := (p2v65 41 (by first | decide | exact ncne (by omega) (by omega) (by omega) | exact nckn (by omega) (by omega) | exact (nckn (by omega) (by omega)).symm)).trans e56
          have e72 := (p2v65 43 (by first | decide | exact ncne (by omega) (by omega) (by omega) | exact nckn (by omega) (by omega) | exact (nckn (by omega) (by omega)).symm)).trans e58
          obtain ⟨x73, e74⟩ : ∃ x, I66 r0_4 42 = x := ⟨_, rfl⟩
          have gx73 := rg x73
          have ox73 := IM.dgR hI66 R_r0_4 e74
          try simp only [q64, e54, e55, e56, e58, e74] at p0v65
          try have q0v65 := congrArg Int32.toInt p0v65
          try simp only [q64, e54, e55, e56, e58, e74] at p1v65
          try have q1v65 := congrArg Int32.toInt p1v65
          have hz124 := p1v65
          have hE124 : ∀ k : Nat, k < 41 → RI I66 r0_5 43 k = E9 k := fun k hk => by (rw [← eE9]; exact RI.s (fun j hj => p3v65 _ (by omega)) hk)
          refine z_iconst C (z := 0) rfl rfl rfl (fun x75 ex75 => ?_)
          have J76 : ∀ (nn77 : Nat) (I78 : IT) (L79 : LT) (x80 : Int32), ((41 - x80.toInt).toNat = nn77) → (IM R r0 I78) → (CM A R r0 [] [5] I66 L67 I78 L79) → (0 ≤ x80.toInt) → (x80.toInt ≤ 41) → (QCR I78 r0_5 E9 (w_r0_4_40.toInt - w_r0_4_41.toInt) x38.toInt x80.toInt) → (∀ k : Nat, k < 41 → RI I78 r0_5 43 k = E9 k) → (x80.toInt ≤ w_r0_4_40.toInt - a9 - (w_r0_4_41.toInt - b9) + 1) → V 129 [(0, .ref r0), (2, .int x38), (3, .int x80)] [] (T, N, I78, L79, R) 0 0 := by
            intro nn77
            induction nn77 using Nat.strongRecOn with
            | _ nn77 ihJ76 =>
              intro I78 L79 x80 hmnn77 hI84 S83 b81 b82 ff129_0 ff129_1 ff129_2
              have gx80 := rg x80
              have e85 := CM.j S83 R_r0_1 (by decide) e69
              have e86 := CM.j S83 R_r0_4 (by decide) e70
              have e87 := CM.j S83 R_r0_4 (by decide) e71
              have e88 := CM.j S83 R_r0_4 (by decide) e72
              have e89 := CM.j S83 R_r0_4 (by decide) e74
              refine k_iload_n C rfl rfl rfl ?_
              refine k_aload_n C rfl rfl rfl ?_
              refine g_R C rfl rfl rfl T_r0 rfl R_r0_4 ?_
              refine z_bipush C (z := 43) rfl rfl rfl (fun x90 ex90 => ?_)
              refine a_I C rfl rfl T_r0_4 (by rw [N_r0_4]; exact vpi (by omega) (by omega)) ((congrArg (I78 r0_4) (nck (n := 43) (by omega))).trans e88) ?_
              refine b_icmp_gt C (t := 162) rfl rfl rfl (fun c91 => ?_) (fun c91 => ?_)
              · skip
                refine z_iconst C (z := 1) rfl rfl rfl (fun x92 ex92 => ?_)
                exact k_iret C rfl (Or.inr ⟨rfl, z01 (by omega) (by omega)⟩) (Nat.le_of_ble_eq_true rfl) (Nat.le_of_ble_eq_true rfl) ⟨_, _, _, rfl, rfl, by omega, by omega, fun a1 a4 a5 h1 h4 h5 => by cases (R_r0_1.symm.trans h1); cases (R_r0_4.symm.trans h4); cases (R_r0_5.symm.trans h5); rw [e89]; simp only [k0_r0_4_40, k0_r0_4_41, k0_r0_1_0]; exact DVQ.yr hFA hFB (by omega) rA16 rB16 hV106 (by omega) hZR (by omega) (QCR.e ff129_0 (by omega) (by omega) (by omega)) (by omega) (by omega) (by omega), hI84, (CM.cons S21 (CM.cons S32 (CM.cons S53 (CM.cons S68 (CM.mono S83 (by decide) (by decide)) (by decide) (by decide)) (by decide) (by decide)) (by decide) (by decide)) (by decide) (by decide))⟩
              refine k_aload_n C rfl rfl rfl ?_
              refine z_bipush C (z := 42) rfl rfl rfl (fun x93 ex93 => ?_)
              refine k_iload_n C rfl rfl rfl ?_
              refine k_iload_n C rfl rfl rfl ?_
              refine z_iadd C rfl rfl ⟨by omega, by omega⟩ (fun x94 ex94 => ?_)
              refine k_aload_n C rfl rfl rfl ?_
              refine z_bipush C (z := 43) rfl rfl rfl (fun x95 ex95 => ?_)
              refine k_iload_n C rfl rfl rfl ?_
              have q96 : x95.toNatClampNeg = 43 := nck (by omega)
              refine c_VI C (a_X12_of hI84 H_r0 (by omega) (by omega) (by omega) (by omega)) rfl rfl rfl rfl rfl ⟨_, rfl, rfl, T_r0, Nat.le_of_ble_eq_true rfl⟩ rfl rfl (Nat.le_of_ble_eq_true rfl) (Nat.le_of_ble_eq_true rfl) (Nat.le_of_ble_eq_true rfl) ?_
              rintro x97 _ _ ⟨o0x97, o1x97, p0x97, rfl, rfl⟩
              have p0x97 := p0x97 r0_5 R_r0_5
              have gx97 := rg x97
              try simp only [q96, e85, e86, e87, e88, e89] at p0x97
              try have q0x97 := congrArg Int32.toInt p0x97
              have ho150 : x97.toInt = E9 x80.toNatClampNeg := (show x97.toInt = RI I78 r0_5 43 x80.toNatClampNeg from p0x97).trans (ff129_1 _ (by have h9 := ncz (x := x80) (by omega); omega))
              have q98 : x93.toNatClampNeg = 42 := nck (by omega)
              refine c_VV C (a_X12_put hI84 H_r0 (by omega) (by omega) (by omega) (by omega) (by omega) (by omega)) rfl rfl rfl rfl rfl ⟨_, rfl, rfl, T_r0, Nat.le_of_ble_eq_true rfl⟩ rfl rfl (Nat.le_of_ble_eq_true rfl) (Nat.le_of_ble_eq_true rfl) (Nat.le_of_ble_eq_true rfl) ?_
              rintro I100 L101 ⟨p0v99, p1v99, hI100, S102⟩
              have p0v99 := p0v99 r0_5 R_r0_5
              have p1v99 := p1v99 r0_5 R_r0_5
              try simp only [q98] at p1v99
              have e103 := CM.j S102 R_r0_1 (by decide) e85
              have e104 := CM.j S102 R_r0_4 (by decide) e86
              have e105 := CM.j S102 R_r0_4 (by decide) e87
              have e106 := CM.j S102 R_r0_4 (by decide) e88
              have e107 := CM.j S102 R_r0_4 (by decide) e89
              try simp only [q98, e85, e86, e87, e88, e89] at p0v99
              try have q0v99 := congrArg Int32.toInt p0v99
              have hP153 := p0v99
              refine z_iinc C (z := 1) (lw := fun x108 => [(3, .int x108), (0, .ref r0), (2, .int x38)]) rfl rfl rfl (Nat.le_of_ble_eq_true rfl) rfl ⟨by omega, by omega⟩ (fun _ => rfl) (fun x108 ex108 => ?_)
              show V 159 [(3, .int x108), (0, .ref r0), (2, .int x38)] _ _ _ _
              refine k_goto C (pc2 := 129) rfl rfl ?_
              refine k_sub S [(0, .ref r0), (2, .int x38), (3, .int x108)] (List.forall_mem_cons.mpr ⟨List.mem_of_getElem? (i := 1) rfl, List.forall_mem_cons.mpr ⟨List.mem_of_getElem? (i := 2) rfl, List.forall_mem_cons.mpr ⟨List.mem_of_getElem? (i := 0) rfl, fun _ h => nomatch h⟩⟩⟩) ?_
              exact ihJ76 _ (by omega) I100 L101 x108 rfl hI100 (CM.cons S83 (CM.mono S102 (by decide) (by decide)) (by decide) (by decide)) (by omega) (by omega) (by exact QCR.s ff129_0 ho150 hP153 (by omega) (by omega) (by omega) (by omega)) (by exact fun k hk => (RI.s (PUTD.sm (r := 43) hP153 (nclt (by omega) (by omega)) (by decide)) hk).trans (ff129_1 k hk)) (by omega)
          refine k_istore_n C (lw := [(3, .int x75), (2, .int x38), (1, .int x11), (0, .ref r0)]) rfl rfl (Nat.le_of_ble_eq_true rfl) rfl ?_
          refine k_sub S [(0, .ref r0), (2, .int x38), (3, .int x75)] (List.forall_mem_cons.mpr ⟨List.mem_of_getElem? (i := 3) rfl, List.forall_mem_cons.mpr ⟨List.mem_of_getElem? (i := 1) rfl, List.forall_mem_cons.mpr ⟨List.mem_of_getElem? (i := 0) rfl, fun _ h => nomatch h⟩⟩⟩) ?_
          exact J76 _ I66 L67 x75 rfl hI66 CM.rf (by omega) (by omega) (by exact QCR.z (fun k hk => hz124 k (by omega)) (by omega)) (by exact hE124) (by omega)
        refine z_iconst C (z := 0) rfl rfl rfl (fun x109 ex109 => ?_)
        exact k_iret C rfl (Or.inr ⟨rfl, z01 (by omega) (by omega)⟩) (Nat.le_of_ble_eq_true rfl) (Nat.le_of_ble_eq_true rfl) ⟨_, _, _, rfl, rfl, by omega, by omega, fun a1 a4 a5 h1 h4 h5 => by cases (R_r0_1.symm.trans h1); cases (R_r0_4.symm.trans h4); cases (R_r0_5.symm.trans h5); simp only [k0_r0_4_40, k0_r0_4_41, k0_r0_1_0]; exact DVQ.nr hFA hFB hp4 hp5 hPM rA16 rB16 hV106 (by omega) hZ106 hR106 (fun z => hNR.2 (by omega) (fun k hk => by (rw [e55] at hk; rw [eR9]; exact z k (by omega)))) (by omega), hI51, (CM.cons S21 (CM.cons S32 (CM.mono S53 (by decide) (by decide)) (by decide) (by decide)) (by decide) (by decide))⟩
      refine z_iconst C (z := 0) rfl rfl rfl (fun x110 ex110 => ?_)
      exact k_iret C rfl (Or.inr ⟨rfl, z01 (by omega) (by omega)⟩) (Nat.le_of_ble_eq_true rfl) (Nat.le_of_ble_eq_true rfl) ⟨_, _, _, rfl, rfl, by omega, by omega, fun a1 a4 a5 h1 h4 h5 => by cases (R_r0_1.symm.trans h1); cases (R_r0_4.symm.trans h4); cases (R_r0_5.symm.trans h5); simp only [k0_r0_4_40, k0_r0_4_41, k0_r0_1_0]; exact DVQ.nb hFA hFB hp4 hp5 hPM (by omega) (by omega), hI30, (CM.cons S21 (CM.mono S32 (by decide) (by decide)) (by decide) (by decide))⟩
    refine k_aload_n C rfl rfl rfl ?_
    refine z_bipush C (z := 42) rfl rfl rfl (fun x111 ex111 => ?_)
    refine k_iload_n C rfl rfl rfl ?_
    have q112 : x111.toNatClampNeg = 42 := nck (by omega)
    refine c_VV C (a_X12_clears hI H_r0 (by omega) (by omega) (by omega) (by omega)) rfl rfl rfl rfl rfl ⟨_, rfl, rfl, T_r0, Nat.le_of_ble_eq_true rfl⟩ rfl rfl (Nat.le_of_ble_eq_true rfl) (Nat.le_of_ble_eq_true rfl) (Nat.le_of_ble_eq_true rfl) ?_
    rintro I114 L115 ⟨p0v113, p1v113, p2v113, p3v113, hI114, S116⟩
    have p0v113 := p0v113 r0_4 R_r0_4
    have p1v113 := p1v113 r0_5 R_r0_5
    have p2v113 := p2v113 r0_4 R_r0_4
    have p3v113 := p3v113 r0_5 R_r0_5
    try simp only [q112] at p2v113
    try simp only [q112] at p3v113
    have e117 := (p2v113 40 (by first | decide | exact ncne (by omega) (by omega) (by omega) | exact nckn (by omega) (by omega) | exact (nckn (by omega) (by omega)).symm)).trans k0_r0_4_40
    have e118 := (p2v113 41 (by first | decide | exact ncne (by omega) (by omega) (by omega) | exact nckn (by omega) (by omega) | exact (nckn (by omega) (by omega)).symm)).trans k0_r0_4_41
    have e119 := CM.j S116 R_r0_1 (by decide) k0_r0_1_0
    obtain ⟨x120, e121⟩ : ∃ x, I114 r0_4 42 = x := ⟨_, rfl⟩
    have gx120 := rg x120
    have ox120 := IM.dgR hI114 R_r0_4 e121
    try simp only [q112, k0_r0_4_40, k0_r0_4_41, k0_r0_1_0, e121] at p0v113
    try have q0v113 := congrArg Int32.toInt p0v113
    try simp only [q112, k0_r0_4_40, k0_r0_4_41, k0_r0_1_0, e121] at p1v113
    try have q1v113 := congrArg Int32.toInt p1v113
    have hz57 := p1v113
    refine z_iconst C (z := 1) rfl rfl rfl (fun x122 ex122 => ?_)
    exact k_iret C rfl (Or.inr ⟨rfl, z01 (by omega) (by omega)⟩) (Nat.le_of_ble_eq_true rfl) (Nat.le_of_ble_eq_true rfl) ⟨_, _, _, rfl, rfl, by omega, by omega, fun a1 a4 a5 h1 h4 h5 => by cases (R_r0_1.symm.trans h1); cases (R_r0_4.symm.trans h4); cases (R_r0_5.symm.trans h5); rw [e121]; simp only [k0_r0_4_40, k0_r0_4_41, k0_r0_1_0]; exact DVQ.zz (hN40.1 (by omega)) (hN41.2 (by omega)) (by omega) (fun i hi => hz57 i (by omega)) (by omega) (by omega) (by omega), hI114, (CM.mono S116 (by decide) (by decide))⟩
  refine z_iconst C (z := 0) rfl rfl rfl (fun x123 ex123 => ?_)
  exact k_iret C rfl (Or.inr ⟨rfl, z01 (by omega) (by omega)⟩) (Nat.le_of_ble_eq_true rfl) (Nat.le_of_ble_eq_true rfl) ⟨_, _, _, rfl, rfl, by omega, by omega, fun a1 a4 a5 h1 h4 h5 => by cases (R_r0_1.symm.trans h1); cases (R_r0_4.symm.trans h4); cases (R_r0_5.symm.trans h5); simp only [k0_r0_4_40, k0_r0_4_41, k0_r0_1_0]; first | exact DVQ.z (hN41.1 (by omega)) (by omega) | exact DVQ.s (by omega) (by omega), hI, CM.rf⟩

theorem a_X12_quotient_x {d : Nat} {T N : Nat → Nat} {I : IT} {L : LT} {R : RT} {A : Nat → Prop} {r0 : Nat} {n1 n2 n3 : Int32} (hI : IM R r0 I) (H_r0 : (h_MD T N R A) r0) (hp0 : ∀ a1, R r0 1 = some a1 → CNW (I a1)) : Ex (d + 7) 294 [.ref r0, .int n1, .int n2, .int n3] (T, N, I, L, R) 0 0 (pI T N R (fun x9 I9 L9 => (-18 ≤ x9.toInt) ∧ (x9.toInt ≤ 40) ∧ (∀ a1, R r0 1 = some a1 → (n1.toInt < 0 ∨ (I a1 1).toInt ≤ n1.toInt ∨ n2.toInt < 0 ∨ (I a1 1).toInt ≤ n2.toInt) ∧ (I9 r0 0).toInt = 1 ∨ ¬ (n1.toInt < 0 ∨ (I a1 1).toInt ≤ n1.toInt ∨ n2.toInt < 0 ∨ (I a1 1).toInt ≤ n2.toInt) ∧ (I9 r0 0).toInt = 0 ∧ QUA x9.toInt (I a1 0).toInt (I a1 (6 + 10 * n1.toNatClampNeg)).toInt (I a1 (6 + 10 * n2.toNatClampNeg)).toInt n3.toInt (fun k => (I a1 (7 + 10 * n1.toNatClampNeg + k)).toInt) (fun k => (I a1 (7 + 10 * n2.toNatClampNeg + k)).toInt)) ∧ (IM R r0 I9 ∧ CM A R r0 [0] [4, 5] I L I9 L9))) := by
  refine ⟨_, rfl, Nat.le_of_ble_eq_true rfl, fun V C S => ?_⟩
  show V 0 [(0, .ref r0), (1, .int n1), (2, .int n2), (3, .int n3)] [] (T, N, I, L, R) 0 0
  have gn1 := rg n1
  have gn2 := rg n2
  have gn3 := rg n3
  obtain ⟨T_r0, A_r0, ⟨r0_1, R_r0_1, H_r0_1⟩, ⟨r0_2, R_r0_2, H_r0_2⟩, ⟨r0_4, R_r0_4, H_r0_4⟩, ⟨r0_5, R_r0_5, H_r0_5⟩, ⟨r0_10, R_r0_10, H_r0_10⟩, ⟨r0_18, R_r0_18, H_r0_18⟩, ⟨r0_20, R_r0_20, H_r0_20⟩, ⟨r0_21, R_r0_21, H_r0_21⟩, ⟨r0_22, R_r0_22, H_r0_22⟩, ⟨r0_23, R_r0_23, H_r0_23⟩, ⟨r0_25, R_r0_25, H_r0_25⟩, ⟨r0_26, R_r0_26, H_r0_26⟩, ⟨r0_27, R_r0_27, H_r0_27⟩, ⟨r0_28, R_r0_28, H_r0_28⟩, ⟨r0_34, R_r0_34, H_r0_34⟩, J_r0, Y_r0⟩ := id H_r0
  have G_r0 : mF T R r0 := ⟨J_r0, Y_r0, T_r0⟩
  obtain ⟨w_r0_1_1, k0_r0_1_1⟩ : ∃ x, I r0_1 1 = x := ⟨_, rfl⟩
  have gw_r0_1_1 := rg w_r0_1_1
  have ow_r0_1_1 := IM.c1 hI R_r0_1 k0_r0_1_1
  obtain ⟨w_r0_1_0, k0_r0_1_0⟩ : ∃ x, I r0_1 0 = x := ⟨_, rfl⟩
  have gw_r0_1_0 := rg w_r0_1_0
  have ow_r0_1_0 := IM.pi hI R_r0_1 k0_r0_1_0
  obtain ⟨w_r0_1_E_6_10_n1_toNatClampNeg, k0_r0_1_E_6_10_n1_toNatClampNeg⟩ : ∃ x, I r0_1 (6 + 10 * n1.toNatClampNeg) = x := ⟨_, rfl⟩
  have gw_r0_1_E_6_10_n1_toNatClampNeg := rg w_r0_1_E_6_10_n1_toNatClampNeg
  obtain ⟨w_r0_1_E_6_10_n2_toNatClampNeg, k0_r0_1_E_6_10_n2_toNatClampNeg⟩ : ∃ x, I r0_1 (6 + 10 * n2.toNatClampNeg) = x := ⟨_, rfl⟩
  have gw_r0_1_E_6_10_n2_toNatClampNeg := rg w_r0_1_E_6_10_n2_toNatClampNeg
  have hp0 := hp0 r0_1 R_r0_1
  try simp only [k0_r0_1_1, k0_r0_1_0, k0_r0_1_E_6_10_n1_toNatClampNeg, k0_r0_1_E_6_10_n2_toNatClampNeg] at hp0
  refine k_aload_n C rfl rfl rfl ?_
  refine z_iconst C (z := 0) rfl rfl rfl (fun x1 ex1 => ?_)
  refine z_pI C rfl rfl rfl T_r0 (Or.inr rfl) rfl (fun I2 uI2 => ?_)
  have hI2 : IM R r0 I2 := IM.fld hI G_r0 ⟨(fun h => absurd h (by decide)), (fun h => absurd h (by decide)), (fun h => absurd h (by decide)), (fun h => absurd h (by decide)), (fun h => absurd h (by decide))⟩ uI2
  have S3 : CM A R r0 [0] [] I L I2 L := CM.f G_r0 A_r0 uI2
  have e4 := u2_n uI2 (mF.ne G_r0 R_r0_1) k0_r0_1_1
  have e5 := u2_n uI2 (mF.ne G_r0 R_r0_1) k0_r0_1_0
  have e6 := u2_n uI2 (mF.ne G_r0 R_r0_1) k0_r0_1_E_6_10_n1_toNatClampNeg
  have e7 := u2_n uI2 (mF.ne G_r0 R_r0_1) k0_r0_1_E_6_10_n2_toNatClampNeg
  have e8 := u2_e uI2
  refine k_aload_n C rfl rfl rfl ?_
  refine k_aload_n C rfl rfl rfl ?_
  refine k_iload_n C rfl rfl rfl ?_
  refine c_VI C (a_X12_noForm_e hI2 H_r0) rfl rfl rfl rfl rfl ⟨_, rfl, rfl, T_r0, Nat.le_of_ble_eq_true rfl⟩ rfl rfl (Nat.le_of_ble_eq_true rfl) (Nat.le_of_ble_eq_true rfl) (Nat.le_of_ble_eq_true rfl) ?_
  rintro x9 _ _ ⟨o0x9, o1x9, p0x9, rfl, rfl⟩
  have p0x9 := p0x9 r0_1 R_r0_1
  have gx9 := rg x9
  try simp only [e4, e5, e6, e7, e8, e4] at p0x9
  try have q0x9 := congrArg Int32.toInt p0x9
  refine b_if_ne C (t := 22) rfl rfl rfl (fun c10 => ?_) (fun c10 => ?_)
  · skip
    refine z_iconst C (z := 1) rfl rfl rfl (fun x11 ex11 => ?_)
    refine k_goto C (pc2 := 27) rfl rfl ?_
    refine z_iconst C (z := 1) rfl rfl rfl (fun x12 ex12 => ?_)
    have q13 : x11.toNatClampNeg = 1 := nck (by omega)
    have q14 : x12.toNatClampNeg = 1 := nck (by omega)
    refine c_VI C (a_X12_throwsIf_e hI2 H_r0 (by omega) (by omega)) rfl rfl rfl rfl rfl ⟨_, rfl, rfl, T_r0, Nat.le_of_ble_eq_true rfl⟩ rfl rfl (Nat.le_of_ble_eq_true rfl) (Nat.le_of_ble_eq_true rfl) (Nat.le_of_ble_eq_true rfl) ?_
    rintro x15 I16 L17 ⟨o0x15, o1x15, p0x15, p1x15, hI16, S18⟩
    have e19 := CM.j S18 R_r0_1 (by decide) e4
    have e20 := CM.j S18 R_r0_1 (by decide) e5
    have e21 := CM.j S18 R_r0_1 (by decide) e6
    have e22 := CM.j S18 R_r0_1 (by decide) e7
    have gx15 := rg x15
    obtain ⟨x24, e25⟩ : ∃ x, I16 r0 0 = x := ⟨_, rfl⟩
    have gx24 := rg x24
    try simp only [q13, q14, e4, e5, e6, e7, e8, e25] at p0x15
    try have q0x15 := congrArg Int32.toInt p0x15
    try simp only [q13, q14, e4, e5, e6, e7, e8, e25] at p1x15
    try have q1x15 := congrArg Int32.toInt p1x15
    refine b_if_eq C (t := 36) rfl rfl rfl (fun c26 => by exfalso; omega) (fun c26 => ?_)
    refine z_iconst C (z := 0) rfl rfl rfl (fun x27 ex27 => ?_)
    exact k_iret C rfl (Or.inl rfl) (Nat.le_of_ble_eq_true rfl) (Nat.le_of_ble_eq_true rfl) ⟨_, _, _, rfl, rfl, by omega, by omega, fun a1 h1 => by cases (R_r0_1.symm.trans h1); exact Or.inl ⟨by simp only [k0_r0_1_1]; omega, by rw [e25]; omega⟩, hI16, (CM.cons S3 (CM.mono S18 (by decide) (by decide)) (by decide) (by decide))⟩
  refine k_aload_n C rfl rfl rfl ?_
  refine k_iload_n C rfl rfl rfl ?_
  refine c_VI C (a_X12_noForm_e hI2 H_r0) rfl rfl rfl rfl rfl ⟨_, rfl, rfl, T_r0, Nat.le_of_ble_eq_true rfl⟩ rfl rfl (Nat.le_of_ble_eq_true rfl) (Nat.le_of_ble_eq_true rfl) (Nat.le_of_ble_eq_true rfl) ?_
  rintro x28 _ _ ⟨o0x28, o1x28, p0x28, rfl, rfl⟩
  have p0x28 := p0x28 r0_1 R_r0_1
  have gx28 := rg x28
  try simp only [e4, e5, e6, e7, e8, e4] at p0x28
  try have q0x28 := congrArg Int32.toInt p0x28
  refine b_if_eq C (t := 26) rfl rfl rfl (fun c29 => ?_) (fun c29 => ?_)
  · skip
    refine z_iconst C (z := 0) rfl rfl rfl (fun x30 ex30 => ?_)
    refine z_iconst C (z := 1) rfl rfl rfl (fun x31 ex31 => ?_)
    have q32 : x30.toNatClampNeg = 0 := nck (by omega)
    have q33 : x31.toNatClampNeg = 1 := nck (by omega)
    refine c_VI C (a_X12_throwsIf_e hI2 H_r0 (by omega) (by omega)) rfl rfl rfl rfl rfl ⟨_, rfl, rfl, T_r0, Nat.le_of_ble_eq_true rfl⟩ rfl rfl (Nat.le_of_ble_eq_true rfl) (Nat.le_of_ble_eq_true rfl) (Nat.le_of_ble_eq_true rfl) ?_
    rintro x34 I35 L36 ⟨o0x34, o1x34, p0x34, p1x34, hI35, S37⟩
    have e38 := CM.j S37 R_r0_1 (by decide) e4
    have e39 := CM.j S37 R_r0_1 (by decide) e5
    have e40 := CM.j S37 R_r0_1 (by decide) e6
    have e41 := CM.j S37 R_r0_1 (by decide) e7
    have gx34 := rg x34
    obtain ⟨x43, e44⟩ : ∃ x, I35 r0 0 = x := ⟨_, rfl⟩
    have gx43 := rg x43
    try simp only [q32, q33, e4, e5, e6, e7, e8, e44] at p0x34
    try have q0x34 := congrArg Int32.toInt p0x34
    try simp only [q32, q33, e4, e5, e6, e7, e8, e44] at p1x34
    try have q1x34 := congrArg Int32.toInt p1x34
    refine b_if_eq C (t := 36) rfl rfl rfl (fun c45 => ?_) (fun c45 => by exfalso; omega)
    refine k_aload_n C rfl rfl rfl ?_
    refine z_bipush C (z := 40) rfl rfl rfl (fun x46 ex46 => ?_)
    refine k_iload_n C rfl rfl rfl ?_
    have hw40 := CM.j0 (W := [0]) (WA := []) (CM.cons S3 (CM.mono S37 (by decide) (by decide)) (by decide) (by decide)) R_r0_1 (by decide)
    have q47 : x46.toNatClampNeg = 40 := nck (by omega)
    refine c_VV C (a_X12_takes_e hI35 H_r0 (by omega) (by omega) (by omega) (by omega)) rfl rfl rfl rfl rfl ⟨_, rfl, rfl, T_r0, Nat.le_of_ble_eq_true rfl⟩ rfl rfl (Nat.le_of_ble_eq_true rfl) (Nat.le_of_ble_eq_true rfl) (Nat.le_of_ble_eq_true rfl) ?_
    rintro I49 L50 ⟨p0v48, p1v48, p2v48, p3v48, p4v48, p5v48, hI49, S51⟩
    have p0v48 := p0v48 r0_4 R_r0_4
    have p1v48 := p1v48 r0_1 r0_4 R_r0_1 R_r0_4
    have p2v48 := p2v48 r0_1 r0_4 r0_5 R_r0_1 R_r0_4 R_r0_5
    have p3v48 := p3v48 r0_1 r0_4 r0_5 R_r0_1 R_r0_4 R_r0_5
    have p4v48 := p4v48 r0_4 R_r0_4
    have p5v48 := p5v48 r0_5 R_r0_5
    try simp only [q47] at p4v48
    try simp only [q47] at p5v48
    have e52 := CM.j S51 R_r0_1 (by decide) e38
    have e53 := CM.j S51 R_r0_1 (by decide) e39
    have e54 := CM.j S51 R_r0_1 (by decide) e40
    have e55 := CM.j S51 R_r0_1 (by decide) e41
    have e56 := CM.k S51 (by decide) e44
    obtain ⟨x57, e58⟩ : ∃ x, I49 r0_4 40 = x := ⟨_, rfl⟩
    have gx57 := rg x57
    have ox57 := IM.dgR hI49 R_r0_4 e58
    try simp only [q47, e38, e39, e40, e41, e44, e58] at p0v48
    try have q0v48 := congrArg Int32.toInt p0v48
    try simp only [q47, e38, e39, e40, e41, e44, e58] at p1v48
    try have q1v48 := congrArg Int32.toInt p1v48
    try simp only [q47, e38, e39, e40, e41, e44, e58] at p2v48
    try have q2v48 := congrArg Int32.toInt p2v48
    try simp only [q47, e38, e39, e40, e41, e44, e58] at p3v48
    try have q3v48 := congrArg Int32.toInt p3v48
    have hA := p2v48 (by omega)
    have hd91 := p1v48
    have hT91 := TKE.w p3v48 hw40
    have hcr1 := CNW.g (f := n1) hp0 (by rw [k0_r0_1_E_6_10_n1_toNatClampNeg]) (by rw [k0_r0_1_0]) (by omega) (by simp only [k0_r0_1_1]; omega)
    have hRW1 : RWF I49 r0_5 40 w_r0_1_E_6_10_n1_toNatClampNeg.toInt (fun k => (I r0_1 (7 + 10 * n1.toNatClampNeg + k)).toInt) := fun k hk => by (rw [hT91 k (by omega), show 6 + 10 * n1.toNatClampNeg + 1 + k = 7 + 10 * n1.toNatClampNeg + k from by omega])
    refine k_aload_n C rfl rfl rfl ?_
    refine z_bipush C (z := 41) rfl rfl rfl (fun x59 ex59 => ?_)
    refine k_iload_n C rfl rfl rfl ?_
    have hw47 := CM.j0 (W := [0]) (WA := [4, 5]) (CM.cons S3 (CM.cons S37 (CM.mono S51 (by decide) (by decide)) (by decide) (by decide)) (by decide) (by decide)) R_r0_1 (by decide)
    have q60 : x59.toNatClampNeg = 41 := nck (by omega)
    refine c_VV C (a_X12_takes_e hI49 H_r0 (by omega) (by omega) (by omega) (by omega)) rfl rfl rfl rfl rfl ⟨_, rfl, rfl, T_r0, Nat.le_of_ble_eq_true rfl⟩ rfl rfl (Nat.le_of_ble_eq_true rfl) (Nat.le_of_ble_eq_true rfl) (Nat.le_of_ble_eq_true rfl) ?_
    rintro I62 L63 ⟨p0v61, p1v61, p2v61, p3v61, p4v61, p5v61, hI62, S64⟩
    have p0v61 := p0v61 r0_4 R_r0_4
    have p1v61 := p1v61 r0_1 r0_4 R_r0_1 R_r0_4
    have p2v61 := p2v61 r0_1 r0_4 r0_5 R_r0_1 R_r0_4 R_r0_5
    have p3v61 := p3v61 r0_1 r0_4 r0_5 R_r0_1 R_r0_4 R_r0_5
    have p4v61 := p4v61 r0_4 R_r0_4
    have p5v61 := p5v61 r0_5 R_r0_5
    try simp only [q60] at p4v61
    try simp only [q60] at p5v61
    have e65 := CM.j S64 R_r0_1 (by decide) e52
    have e66 := CM.j S64 R_r0_1 (by decide) e53
    have e67 := CM.j S64 R_r0_1 (by decide) e54
    have e68 := CM.j S64 R_r0_1 (by decide) e55
    have e69 := CM.k S64 (by decide) e56
    have e70 := (p4v61 40 (by first | decide | exact ncne (by omega) (by omega) (by omega) | exact nckn (by omega) (by omega) | exact (nckn (by omega) (by omega)).symm)).trans e58
    obtain ⟨x71, e72⟩ : ∃ x, I62 r0_4 41 = x := ⟨_, rfl⟩
    have gx71 := rg x71
    have ox71 := IM.dgR hI62 R_r0_4 e72
    try simp only [q60, e52, e53, e54, e55, e56, e58, e72] at p0v61
    try have q0v61 := congrArg Int32.toInt p0v61
    try simp only [q60, e52, e53, e54, e55, e56, e58, e72] at p1v61
    try have q1v61 := congrArg Int32.toInt p1v61
    try simp only [q60, e52, e53, e54, e55, e56, e58, e72] at p2v61
    try have q2v61 := congrArg Int32.toInt p2v61
    try simp only [q60, e52, e53, e54, e55, e56, e58, e72] at p3v61
    try have q3v61 := congrArg Int32.toInt p3v61
    have hB := p2v61 (by omega)
    have hA := QN.sm hA (fun k hk => p5v61 _ (by omega)) (by omega)
    have hd92 := p1v61
    have hT92 := TKE.w p3v61 hw47
    have hcr2 := CNW.g (f := n2) hp0 (by rw [k0_r0_1_E_6_10_n2_toNatClampNeg]) (by rw [k0_r0_1_0]) (by omega) (by simp only [k0_r0_1_1]; omega)
    have hRW2 : RWF I62 r0_5 41 w_r0_1_E_6_10_n2_toNatClampNeg.toInt (fun k => (I r0_1 (7 + 10 * n2.toNatClampNeg + k)).toInt) := fun k hk => by (rw [hT92 k (by omega), show 6 + 10 * n2.toNatClampNeg + 1 + k = 7 + 10 * n2.toNatClampNeg + k from by omega])
    have hRW1b := RWF.sm hRW1 (fun k hk => p5v61 _ (by omega)) (by omega)
    refine k_aload_n C rfl rfl rfl ?_
    have hk40 := e70
    have hk41 := e72
    refine c_VI C (a_X12_hasQuotient_x hI62 H_r0 (fun a4 h4 => by cases (R_r0_4.symm.trans h4); first | omega | (simp only [e65, e66, e67, e68, e69, e70, e72, and_true, true_and, or_true, true_or, and_false, false_and, or_false, false_or] <;> omega)) (fun a4 h4 => by cases (R_r0_4.symm.trans h4); first | omega | (simp only [e65, e66, e67, e68, e69, e70, e72, and_true, true_and, or_true, true_or, and_false, false_and, or_false, false_or] <;> omega)) (fun a1 a4 a5 h1 h4 h5 => by cases (R_r0_1.symm.trans h1); cases (R_r0_4.symm.trans h4); cases (R_r0_5.symm.trans h5); first | omega | (simp only [e65, e66, e67, e68, e69, e70, e72, and_true, true_and, or_true, true_or, and_false, false_and, or_false, false_or] <;> omega)) (fun a1 a4 a5 h1 h4 h5 => by cases (R_r0_1.symm.trans h1); cases (R_r0_4.symm.trans h4); cases (R_r0_5.symm.trans h5); first | omega | (simp only [e65, e66, e67, e68, e69, e70, e72, and_true, true_and, or_true, true_or, and_false, false_and, or_false, false_or] <;> omega)) (fun a1 a4 a5 h1 h4 h5 => by cases (R_r0_1.symm.trans h1); cases (R_r0_4.symm.trans h4); cases (R_r0_5.symm.trans h5); simp only [e65, e66, e67, e68, e69, e70, e72]; intro k hk; exact (RWF.cn hRW1b hcr1) k (by omega)) (fun a1 a4 a5 h1 h4 h5 => by cases (R_r0_1.symm.trans h1); cases (R_r0_4.symm.trans h4); cases (R_r0_5.symm.trans h5); simp only [e65, e66, e67, e68, e69, e70, e72]; intro k hk; exact (RWF.cn hRW2 hcr2) k (by omega))) rfl rfl rfl rfl rfl ⟨_, rfl, rfl, T_r0, Nat.le_of_ble_eq_true rfl⟩ rfl rfl (Nat.le_of_ble_eq_true rfl) (Nat.le_of_ble_eq_true rfl) (Nat.le_of_ble_eq_true rfl) ?_
    rintro x73 I74 L75 ⟨o0x73, o1x73, p0x73, hI74, S76⟩
    have p0x73 := p0x73 r0_1 r0_4 r0_5 R_r0_1 R_r0_4 R_r0_5
    have e77 := CM.j S76 R_r0_1 (by decide) e65
    have e78 := CM.j S76 R_r0_1 (by decide) e66
    have e79 := CM.j S76 R_r0_1 (by decide) e67
    have e80 := CM.j S76 R_r0_1 (by decide) e68
    have e81 := CM.k S76 (by decide) e69
    have gx73 := rg x73
    obtain ⟨x84, e85⟩ : ∃ x, I74 r0_4 42 = x := ⟨_, rfl⟩
    have gx84 := rg x84
    have ox84 := IM.dgR hI74 R_r0_4 e85
    try simp only [e65, e66, e67, e68, e69, e70, e72, e85] at p0x73
    try have q0x73 := congrArg Int32.toInt p0x73
    have hDV := p0x73
    (try rw [hk40] at hDV)
    (try rw [hk41] at hDV)
    (try rw [e85] at hDV)
    refine b_if_eq C (t := 67) rfl rfl rfl (fun c86 => ?_) (fun c86 => ?_)
    · skip
      refine z_bipush C (z := -2) rfl rfl rfl (fun x87 ex87 => ?_)
      exact k_iret C rfl (Or.inl rfl) (Nat.le_of_ble_eq_true rfl) (Nat.le_of_ble_eq_true rfl) ⟨_, _, _, rfl, rfl, by omega, by omega, fun a1 h1 => by cases (R_r0_1.symm.trans h1); refine Or.inr ⟨by simp only [k0_r0_1_1]; omega, by rw [e81]; omega, ?_⟩; simp only [k0_r0_1_0, k0_r0_1_E_6_10_n1_toNatClampNeg, k0_r0_1_E_6_10_n2_toNatClampNeg]; first | exact DVQ.n (DVQ.cg hDV (by omega) (by omega) rfl (fun k hk => hRW1b k (by omega)) (fun k hk => hRW2 k (by omega)) rfl) (by omega) (by omega) | exact DVQ.y (DVQ.cg hDV (by omega) (by omega) rfl (fun k hk => hRW1b k (by omega)) (fun k hk => hRW2 k (by omega)) rfl) (by omega) hDN, hI74, (CM.cons S3 (CM.cons S37 (CM.cons S51 (CM.cons S64 (CM.mono S76 (by decide) (by decide)) (by decide) (by decide)) (by decide) (by decide)) (by decide) (by decide)) (by decide) (by decide))⟩
    refine k_aload_n C rfl rfl rfl ?_
    refine z_bipush C (z := 42) rfl rfl rfl (fun x88 ex88 => ?_)
    refine k_iload_n C rfl rfl rfl ?_
    have hk42 := e85
    have q89 : x88.toNatClampNeg = 42 := nck (by omega)
    refine c_VI C (a_X12_toldOf_x hI74 H_r0 (by omega) (by omega)) rfl rfl rfl rfl rfl ⟨_, rfl, rfl, T_r0, Nat.le_of_ble_eq_true rfl⟩ rfl rfl (Nat.le_of_ble_eq_true rfl) (Nat.le_of_ble_eq_true rfl) (Nat.le_of_ble_eq_true rfl) ?_
    rintro x90 _ _ ⟨o0x90, o1x90, p0x90, rfl, rfl⟩
    have p0x90 := p0x90 r0_4 r0_5 R_r0_4 R_r0_5
    have gx90 := rg x90
    try simp only [q89, e77, e78, e79, e80, e81, e85] at p0x90
    try have q0x90 := congrArg Int32.toInt p0x90
    have hDN := p0x90
    (try rw [hk42] at hDN)
    refine k_goto C (pc2 := 69) rfl rfl ?_
    exact k_iret C rfl (Or.inl rfl) (Nat.le_of_ble_eq_true rfl) (Nat.le_of_ble_eq_true rfl) ⟨_, _, _, rfl, rfl, by omega, by omega, fun a1 h1 => by cases (R_r0_1.symm.trans h1); refine Or.inr ⟨by simp only [k0_r0_1_1]; omega, by rw [e81]; omega, ?_⟩; simp only [k0_r0_1_0, k0_r0_1_E_6_10_n1_toNatClampNeg, k0_r0_1_E_6_10_n2_toNatClampNeg]; first | exact DVQ.n (DVQ.cg hDV (by omega) (by omega) rfl (fun k hk => hRW1b k (by omega)) (fun k hk => hRW2 k (by omega)) rfl) (by omega) (by omega) | exact DVQ.y (DVQ.cg hDV (by omega) (by omega) rfl (fun k hk => hRW1b k (by omega)) (fun k hk => hRW2 k (by omega)) rfl) (by omega) hDN, hI74, (CM.cons S3 (CM.cons S37 (CM.cons S51 (CM.cons S64 (CM.mono S76 (by decide) (by decide)) (by decide) (by decide)) (by decide) (by decide)) (by decide) (by decide)) (by decide) (by decide))⟩
  refine z_iconst C (z := 1) rfl rfl rfl (fun x91 ex91 => ?_)
  refine k_goto C (pc2 := 27) rfl rfl ?_
  refine z_iconst C (z := 1) rfl rfl rfl (fun x92 ex92 => ?_)
  have q93 : x91.toNatClampNeg = 1 := nck (by omega)
  have q94 : x92.toNatClampNeg = 1 := nck (by omega)
  refine c_VI C (a_X12_throwsIf_e hI2 H_r0 (by omega) (by omega)) rfl rfl rfl rfl rfl ⟨_, rfl, rfl, T_r0, Nat.le_of_ble_eq_true rfl⟩ rfl rfl (Nat.le_of_ble_eq_true rfl) (Nat.le_of_ble_eq_true rfl) (Nat.le_of_ble_eq_true rfl) ?_
  rintro x95 I96 L97 ⟨o0x95, o1x95, p0x95, p1x95, hI96, S98⟩
  have e99 := CM.j S98 R_r0_1 (by decide) e4
  have e100 := CM.j S98 R_r0_1 (by decide) e5
  have e101 := CM.j S98 R_r0_1 (by decide) e6
  have e102 := CM.j S98 R_r0_1 (by decide) e7
  have gx95 := rg x95
  obtain ⟨x104, e105⟩ : ∃ x, I96 r0 0 = x := ⟨_, rfl⟩
  have gx104 := rg x104
  try simp only [q93, q94, e4, e5, e6, e7, e8, e105] at p0x95
  try have q0x95 := congrArg Int32.toInt p0x95
  try simp only [q93, q94, e4, e5, e6, e7, e8, e105] at p1x95
  try have q1x95 := congrArg Int32.toInt p1x95
  refine b_if_eq C (t := 36) rfl rfl rfl (fun c106 => by exfalso; omega) (fun c106 => ?_)
  refine z_iconst C (z := 0) rfl rfl rfl (fun x107 ex107 => ?_)
  exact k_iret C rfl (Or.inl rfl) (Nat.le_of_ble_eq_true rfl) (Nat.le_of_ble_eq_true rfl) ⟨_, _, _, rfl, rfl, by omega, by omega, fun a1 h1 => by cases (R_r0_1.symm.trans h1); exact Or.inl ⟨by simp only [k0_r0_1_1]; omega, by rw [e105]; omega⟩, hI96, (CM.cons S3 (CM.mono S98 (by decide) (by decide)) (by decide) (by decide))⟩

