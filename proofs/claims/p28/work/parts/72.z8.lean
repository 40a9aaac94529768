/-! the reference: what two forms have in common: exactly -/
def NE0 (x : Int) : Prop := x ≠ 0
/-- a row less v times another at k, number by number -/
def RSB (I : IT) (nu : Nat) (F1 G : Nat → Int) (p D v k i : Int) : Prop := ∀ j : Nat, (j : Int) ≤ D → 0 ≤ RI I nu 40 j ∧ RI I nu 40 j < p ∧ PmE p (RI I nu 40 j) (F1 j - v * (if k ≤ (j : Int) ∧ (j : Int) < k + i then G (j - k.toNat) else 0))
theorem RSB.z {I I1 : IT} {nu : Nat} {F1 G : Nat → Int} {p D v k i : Int} (h : RCN I1 nu 40 p D) (e : RI I1 nu 40 = F1) (s : SMR I1 I nu 40) (hD : D ≤ 40) (hi : i = 0) : RSB I nu F1 G p D v k i := fun j hj => by
  have z : RI I nu 40 j = RI I1 nu 40 j := by show (I nu _).toInt = (I1 nu _).toInt; rw [s j (by omega)]
  have q := h j hj
  rw [z, if_neg (by omega), ← e, Int.mul_zero, Int.sub_zero]
  exact ⟨q.1, q.2, PmE.rf⟩
theorem RSB.s {I1 I2 : IT} {nu : Nat} {F1 G : Nat → Int} {p D k : Int} {v a b m w i i' y y2 : Int32} (h : RSB I1 nu F1 G p D v.toInt k i.toInt) (oa : a.toInt = (I1 nu (41 * 40 + y2.toNatClampNeg)).toInt) (hb : b.toInt = G i.toNatClampNeg) (bb : 0 ≤ b.toInt) (bv : 0 ≤ v.toInt) (t : TMD m.toInt v.toInt b.toInt p) (ls : LSD w.toInt a.toInt m.toInt p) (hP : PUTD I1 I2 nu 40 y.toNatClampNeg w) (ey : y.toInt = k + i.toInt) (ey2 : y2.toInt = k + i.toInt) (hk : 0 ≤ k) (hi : 0 ≤ i.toInt) (hD : k + i.toInt ≤ D) (hi' : i'.toInt = i.toInt + 1) (hp : 0 < p) : RSB I2 nu F1 G p D v.toInt k i'.toInt := fun j hj => by
  have e : y2 = y := Int32.toInt_inj.mp (by omega)
  subst e
  have y0 := ncz (x := y2) (by omega)
  have i0 := ncz hi
  by_cases q : j = y2.toNatClampNeg
  · subst q
    have z : RI I2 nu 40 y2.toNatClampNeg = w.toInt := by show (I2 nu _).toInt = _; rw [hP.1]
    have ha := h y2.toNatClampNeg (by omega)
    have ha2 : RI I1 nu 40 y2.toNatClampNeg = a.toInt := oa.symm
    rw [ha2, if_neg (by omega), Int.mul_zero, Int.sub_zero] at ha
    unfold TMD at t; unfold LSD at ls
    have m0 : 0 ≤ m.toInt ∧ m.toInt < p := by rw [t]; exact ⟨Int.tmod_nonneg _ (Int.mul_nonneg bv bb), Int.tmod_lt_of_pos _ hp⟩
    rw [z, if_pos (by omega), show y2.toNatClampNeg - k.toNat = i.toNatClampNeg from by omega]
    refine ⟨by rw [ls]; exact Int.tmod_nonneg _ (by omega), by rw [ls]; exact Int.tmod_lt_of_pos _ hp, ?_⟩
    rw [ls]
    refine (PmE.tm _).tr ?_
    have c : PmE p (a.toInt - m.toInt + p) (a.toInt - m.toInt) := Int.add_emod_right ..
    refine c.tr (PmE.sbt ha.2.2 ?_)
    rw [t, hb]; exact PmE.tm _
  · have z : RI I2 nu 40 j = RI I1 nu 40 j := by show (I2 nu _).toInt = (I1 nu _).toInt; rw [hP.2 _ (by omega)]
    have q2 := h j hj
    rw [z]
    by_cases c : k ≤ (j : Int) ∧ (j : Int) < k + i.toInt
    · rw [if_pos c] at q2; rw [if_pos (by omega)]; exact q2
    · rw [if_neg c] at q2; rw [if_neg (by omega)]; exact q2
theorem RSB.e {I2 : IT} {nu : Nat} {F1 G : Nat → Int} {p D E v k i : Int} (h : RSB I2 nu F1 G p D v k i) (hi : i = E + 1) (hk : 0 ≤ k) : RCN I2 nu 40 p D ∧ ∀ j : Nat, (j : Int) ≤ D → PmE p (RI I2 nu 40 j) (F1 j - v * (if k.toNat ≤ j ∧ ((j - k.toNat : Nat) : Int) ≤ E then G (j - k.toNat) else 0)) := ⟨fun j hj => ⟨(h j hj).1, (h j hj).2.1⟩, fun j hj => by
  have q := (h j hj).2.2
  by_cases c : k ≤ (j : Int) ∧ (j : Int) < k + i
  · rw [if_pos c] at q; rw [if_pos (by omega)]; exact q
  · rw [if_neg c] at q; rw [if_neg (by omega)]; exact q⟩
/-- the quotient so far, and what is left -/
def QCU (e : Nat → Int) (k : Int) (i : Nat) : Int := if (i : Int) < k then e i else 0
def QEV (p : Int) (F : Nat → Int) (D : Int) (G : Nat → Int) (E : Int) (e f : Nat → Int) (k : Int) : Prop := (∀ i : Nat, (i : Int) < k → 0 ≤ e i ∧ e i < p) ∧ ∀ j : Nat, (j : Int) ≤ D → PmE p (F j) (CNV (QCU e k) (CUT G E) j + f j)
theorem QEV.z {p D E k : Int} {F G e f : Nat → Int} (h : ∀ j : Nat, (j : Int) ≤ D → f j = F j) (hk : k = 0) : QEV p F D G E e f k := ⟨fun i hi => by omega, fun j hj => by
  have z : CNV (QCU e k) (CUT G E) j = 0 := SUMN.z0 _ (fun i _ => by
    show QCU e k i * _ = 0
    unfold QCU; rw [if_neg (by omega), Int.zero_mul])
  rw [z, Int.zero_add, h j hj]; exact PmE.rf⟩
theorem QEV.s {p D E k k' v : Int} {F G e e' f f' : Nat → Int} (h : QEV p F D G E e f k) (he : ∀ i : Nat, (i : Int) < k → e' i = e i) (hv : e' k.toNat = v) (bv : 0 ≤ v ∧ v < p) (hf : ∀ j : Nat, (j : Int) ≤ D → PmE p (f' j) (f j - v * (if k.toNat ≤ j ∧ ((j - k.toNat : Nat) : Int) ≤ E then G (j - k.toNat) else 0))) (h0 : 0 ≤ k) (hk : k' = k + 1) : QEV p F D G E e' f' k' := by
  subst hk
  obtain ⟨h1, h2⟩ := h
  refine ⟨fun i hi => ?_, fun j hj => ?_⟩
  · by_cases c : i = k.toNat
    · subst c; rw [hv]; exact bv
    · rw [he i (by omega)]; exact h1 i (by omega)
  · have eq : QCU e' (k + 1) = fun i => 1 * QCU e k i + v * SHY k.toNat (DL0 1) i := funext fun i => by
      unfold QCU SHY DL0
      rcases Nat.lt_trichotomy i k.toNat with c | c | c
      · rw [if_pos (by omega), if_pos (by omega), if_pos c, he i (by omega)]; omega
      · subst c; rw [if_pos (by omega), if_neg (by omega), if_neg (by omega), if_pos (by omega), hv]; omega
      · rw [if_neg (by omega), if_neg (by omega), if_neg (by omega), if_neg (by omega)]; omega
    have sh : CNV (SHY k.toNat (DL0 1)) (CUT G E) j = if k.toNat ≤ j ∧ ((j - k.toNat : Nat) : Int) ≤ E then G (j - k.toNat) else 0 := by
      by_cases c : k.toNat ≤ j
      · have s := CNV.sh k.toNat (DL0 1) (CUT G E) (j - k.toNat)
        rw [show k.toNat + (j - k.toNat) = j from by omega] at s
        rw [s, CNV.d0, Int.one_mul]
        unfold CUT
        by_cases d : ((j - k.toNat : Nat) : Int) ≤ E
        · rw [if_pos d, if_pos ⟨c, d⟩]
        · rw [if_neg d, if_neg (fun z => d z.2)]
      · rw [CNV.s0 (by omega), if_neg (fun z => c z.1)]
    rw [eq, CNV.li, sh, Int.one_mul]
    have a := (PmE.rf (p := p) (x := CNV (QCU e k) (CUT G E) j + v * (if k.toNat ≤ j ∧ ((j - k.toNat : Nat) : Int) ≤ E then G (j - k.toNat) else 0))).ad (hf j hj)
    rw [show CNV (QCU e k) (CUT G E) j + v * (if k.toNat ≤ j ∧ ((j - k.toNat : Nat) : Int) ≤ E then G (j - k.toNat) else 0) + (f j - v * (if k.toNat ≤ j ∧ ((j - k.toNat : Nat) : Int) ≤ E then G (j - k.toNat) else 0)) = CNV (QCU e k) (CUT G E) j + f j from by omega] at a
    exact (h2 j hj).tr a.sy
theorem PUTD.sm {I1 I2 : IT} {nu r r' k : Nat} {x : Int32} (w : PUTD I1 I2 nu r' k x) (hk : k < 41) (hn : r ≠ r') : SMR I1 I2 nu r := fun j hj => w.2 _ (by omega)
theorem RI.s {I1 I2 : IT} {nu r : Nat} (s : SMR I1 I2 nu r) {j : Nat} (hj : j < 41) : RI I2 nu r j = RI I1 nu r j := by show (I2 nu _).toInt = (I1 nu _).toInt; rw [s j hj]
theorem RI.p {I1 I2 : IT} {nu r k : Nat} {x : Int32} (w : PUTD I1 I2 nu r k x) {j : Nat} (hn : j ≠ k) : RI I2 nu r j = RI I1 nu r j := by show (I2 nu _).toInt = (I1 nu _).toInt; rw [w.2 _ (by omega)]
theorem RI.w {I1 I2 : IT} {nu r k : Nat} {x : Int32} (w : PUTD I1 I2 nu r k x) : RI I2 nu r k = x.toInt := by show (I2 nu _).toInt = _; rw [w.1]
theorem RWF.cp1 {I I' : IT} {nu a b : Nat} {n D : Int} (c : CPN I I' nu a b n) (hn : D < n) : RWF I' nu b D (RI I nu a) := fun j hj => by
  show (I' nu _).toInt = (I nu _).toInt
  rw [c j (by omega)]
theorem RWF.sm1 {I I' : IT} {nu r : Nat} {D : Int} (s : ∀ k, k < 41 → I' nu (41 * r + k) = I nu (41 * r + k)) (hD : D ≤ 40) : RWF I' nu r D (RI I nu r) := fun j hj => by
  show (I' nu _).toInt = (I nu _).toInt
  rw [s j (by omega)]
theorem RWF.cpy {I I' : IT} {nu a b : Nat} {n D : Int} {g : Nat → Int} (h : RWF I nu a D g) (c : CPN I I' nu a b n) (hn : D < n) : RWF I' nu b D g := fun j hj => by
  rw [← h j hj]
  show (I' nu _).toInt = (I nu _).toInt
  rw [c j (by omega)]
theorem RWF.rc {I : IT} {nu r : Nat} {p D D' : Int} {g : Nat → Int} (h : RWF I nu r D g) (b : ∀ k : Nat, (k : Int) ≤ D → 0 ≤ g k ∧ g k < p) (e : D' = D) : RCN I nu r p D' := fun k hk => by
  have q := h k (by omega)
  rw [q]; exact b k (by omega)
theorem STP.r {I I' : IT} {nu r : Nat} {n : Int32} {D : Int} (s : STP I I' nu r n.toInt D) {k : Nat} (hk : (k : Int) ≤ D - n.toInt) : RI I' nu r k = RI I nu r (n.toNatClampNeg + k) := by
  show (I' nu _).toInt = (I nu _).toInt
  rw [s k hk, show 41 * r + k + n.toInt.toNat = 41 * r + (n.toNatClampNeg + k) from by have h9 : n.toNatClampNeg = n.toInt.toNat := rfl; omega]
theorem RWF.n0 {I : IT} {nu r a : Nat} {D : Int} {f : Nat → Int} (h : RWF I nu r D (fun k => f (a + k))) (h0 : 0 ≤ D) (nz : f a ≠ 0) : RI I nu r 0 ≠ 0 := fun q => nz ((h 0 (by omega)).symm.trans q)
theorem FST.cg {f g : Nat → Int} {a : Nat} {D : Int} (h : FST f a D) (e : ∀ k : Nat, (k : Int) ≤ D → g k = f k) : FST g a D := ⟨h.1, by rw [e a h.1]; exact h.2.1, fun k hk => by rw [e k (by have := h.1; omega)]; exact h.2.2 k hk⟩
theorem PmE.iv {a x p b : Int} (h : (a * x) % p = 1) (e : a = b) (hp : 1 < p) : PmE p (x * b) 1 := by
  subst e
  rw [Int.mul_comm]
  show _ % p = 1 % p
  rw [h, Int.emod_eq_of_lt (by decide) hp]
theorem STP.f {I I' : IT} {nu r : Nat} {n : Int32} {D : Int} (_ : STP I I' nu r n.toInt D) (z : ∀ k : Nat, (k : Int) < n.toInt → RI I nu r k = 0) (h : NE1 I nu (41 * r + n.toNatClampNeg)) (h0 : 0 ≤ n.toInt) (h1 : n.toInt ≤ D) : FST (RI I nu r) n.toNatClampNeg D := by
  have n0 := ncz h0
  exact ⟨by omega, h, fun k hk => z k (by omega)⟩
/-- put behind y's, the reference's -/
def COR (I : IT) (nu : Nat) (y : Int) (b : Nat → Int) (o p B k : Int) : Prop := ∀ j : Nat, (j : Int) ≤ y + B → RI I nu 40 j = if (j : Int) < y ∨ y + k ≤ (j : Int) then 0 else (b (j - y.toNat) * o) % p
theorem COR.z {I : IT} {nu : Nat} {y : Int} {b : Nat → Int} {o p B k : Int} (h : AZ I nu (41 * 40) (y + B + 1)) (hk : k = 0) : COR I nu y b o p B k := fun j hj => by
  rw [if_pos (by omega)]; exact h j (by omega)
theorem COR.s {I1 I2 : IT} {nu : Nat} {b : Nat → Int} {p B y : Int} {a k k' n o v : Int32} (h : COR I1 nu y b o.toInt p B k.toInt) (va : a.toInt = b k.toNatClampNeg) (ba : 0 ≤ a.toInt) (bo : 0 ≤ o.toInt) (t : TMD v.toInt o.toInt a.toInt p) (hP : PUTD I1 I2 nu 40 n.toNatClampNeg v) (hy : 0 ≤ y) (h0 : 0 ≤ k.toInt) (en : n.toInt = k.toInt + y) (hk : k'.toInt = k.toInt + 1) : COR I2 nu y b o.toInt p B k'.toInt := fun j hj => by
  have n0 := ncz (x := n) (by omega)
  have k0 := ncz h0
  by_cases q : j = n.toNatClampNeg
  · subst q
    unfold TMD at t
    rw [RI.w hP, if_neg (by omega), t, show n.toNatClampNeg - y.toNat = k.toNatClampNeg from by omega, ← va, Int.tmod_eq_emod_of_nonneg (Int.mul_nonneg bo ba), Int.mul_comm]
  · rw [RI.p hP q, h j hj]
    by_cases c : (j : Int) < y ∨ y + k.toInt ≤ (j : Int)
    · rw [if_pos c, if_pos (by omega)]
    · rw [if_neg c, if_neg (by omega)]
theorem COM.or {I : IT} {nu : Nat} {p D E D1 E1 B S W y k o : Int} {f g b s : Nat → Int} {i j : Nat} (hf : FST f i D) (hg : FST g j E) (t : SCD p (fun k => f (i + k)) D1 (fun k => g (j + k)) E1 s S b B) (z : ∀ k : Nat, (k : Int) ≤ S → s k = 0) (hB : 0 ≤ B) (hD : D1 = D - i) (hE : E1 = E - j) (ho : PmE p (o * b 0) 1) (c : COR I nu y b o p B k) (hk : k = B + 1) (hy : y = ((min i j : Nat) : Int)) (hW : W = y + B) (hp : 1 < p) : COM p f D g E (RI I nu 40) W := by
  subst hD; subst hE; subst hk
  refine ⟨i, j, fun k => (b k * o) % p, B, hf, hg, HCF.fin (c := o) t.sw z hB ho (fun k hk => ⟨?_, Int.emod_nonneg _ (by omega), Int.emod_lt_of_pos _ (by omega)⟩) hp, by omega, fun k hk => ?_⟩
  · rw [Int.mul_comm o]; exact PmE.em _
  · rw [c k (by omega)]
    by_cases q : k < min i j
    · rw [if_pos (by omega), if_pos q]
    · rw [if_neg (by omega), if_neg q, show k - y.toNat = k - min i j from by omega]
theorem RVX.vf {I : IT} {nu r : Nat} {p n D D' : Int} {f g : Nat → Int} {x y : Nat} {a c : Nat} (h : RVX I nu r p n (DIF f D' x y)) (hn : n = D - 1) (eD : D' = D) (hx : x = a) (hy : y = c) (w : ∀ k : Nat, (k : Int) ≤ D → f k = g k) (hc : c ≤ 1) : VRF (RI I nu r) p (D - 1) (DIF g D a c) := by
  subst hn; subst hx; subst hy; subst eD
  intro j hj
  obtain ⟨h1, h2, h3⟩ := h j hj
  refine ⟨h1, h2, ?_⟩
  unfold DIF at h3 ⊢
  rw [← w _ (by omega)]; exact h3
theorem VRF.sm {I I' : IT} {nu r : Nat} {p n : Int} {g : Nat → Int} (h : VRF (RI I nu r) p n g) (s : SMR I I' nu r) (hn : n ≤ 40) : VRF (RI I' nu r) p n g := fun j hj => by
  rw [RI.s s (by omega)]; exact h j hj
theorem VRF.rc {I : IT} {nu r : Nat} {p n n' : Int} {g : Nat → Int} (h : VRF (RI I nu r) p n g) (e : n' = n) : RCN I nu r p n' := fun k hk => ⟨(h k (by omega)).1, (h k (by omega)).2.1⟩
theorem PLN.nq {x p D : Int} {f : Nat → Int} (h : ¬ D < 2) (z : ZRL f (D + 1)) (e : x = 0) (hp : 0 < p) : PLN x p D f := by
  have d : ∀ a c : Nat, c ≤ 1 → VRF (fun _ => 0) p (D - 1) (DIF f D a c) := fun a c hc j hj => by
    refine ⟨Int.le_refl 0, hp, ?_⟩
    unfold DIF
    rw [z (j + c) (by omega), Int.zero_mul, Int.zero_mul]; exact PmE.rf
  exact PLN.z h (d 1 0 (by omega)) (d 0 1 (by omega)) (Or.inl (fun _ _ => rfl)) e
theorem NQI9 {I : IT} {dg nu r : Nat} {x D : Int} (h : IFF x (NQA I dg nu r)) (e : (I dg r).toInt = D) : IFF x (ZRL (RI I nu r) (D + 1)) := ⟨fun q => NQA.z (h.1 q) e, fun q => NQA.n (h.2 q) e⟩
theorem NQI.w {I : IT} {dg nu r : Nat} {x D : Int} {g : Nat → Int} (h : IFF x (NQA I dg nu r)) (e : (I dg r).toInt = D) (w : RWF I nu r D g) : IFF x (ZRL g (D + 1)) := ⟨fun q => ((NQI9 h e).1 q).cg (fun k hk => w k (by omega)), fun q z => (NQI9 h e).2 q (z.cg (fun k hk => (w k (by omega)).symm))⟩
theorem COM.cg {p D D' E E' W W' : Int} {f f' g g' r r' : Nat → Int} (h : COM p f D g E r W) (eD : D = D') (eE : E = E') (eW : W = W') (ef : ∀ k : Nat, (k : Int) ≤ D → f k = f' k) (eg : ∀ k : Nat, (k : Int) ≤ E → g k = g' k) (er : ∀ k : Nat, (k : Int) ≤ W → r k = r' k) : COM p f' D' g' E' r' W' := by
  subst eD; subst eE; subst eW
  obtain ⟨a, b, h, H, x1, x2, ⟨z0, z1, z2, z3⟩, x4, x5⟩ := h
  have a1 := x1.1
  have b1 := x2.1
  refine ⟨a, b, h, H, x1.cg (fun k hk => (ef k hk).symm), x2.cg (fun k hk => (eg k hk).symm), ⟨z0, z1, z2, fun d Hd h0 hu hs => Iff.trans ⟨fun q => ⟨q.1.cg (fun k hk => ?_), q.2.cg (fun k hk => ?_)⟩, fun q => ⟨q.1.cg (fun k hk => ?_), q.2.cg (fun k hk => ?_)⟩⟩ (z3 d Hd h0 hu hs)⟩, x4, fun k hk => (er k hk).symm.trans (x5 k hk)⟩
  · show PmE p (f (a + k)) (f' (a + k)); rw [ef _ (by omega)]; exact PmE.rf
  · show PmE p (g (b + k)) (g' (b + k)); rw [eg _ (by omega)]; exact PmE.rf
  · show PmE p (f' (a + k)) (f (a + k)); rw [ef _ (by omega)]; exact PmE.rf
  · show PmE p (g' (b + k)) (g (b + k)); rw [eg _ (by omega)]; exact PmE.rf
theorem a_X12_strips_x {d : Nat} {T N : Nat → Nat} {I : IT} {L : LT} {R : RT} {A : Nat → Prop} {r0 : Nat} {n1 : Int32} (hI : IM R r0 I) (H_r0 : (h_MD T N R A) r0) (b0_n1 : 40 ≤ n1.toInt) (b1_n1 : n1.toInt ≤ 41) (hp0 : ∀ a4 a5, R r0 4 = some a4 → R r0 5 = some a5 → NZ I a5 n1.toNatClampNeg (I a4 n1.toNatClampNeg).toInt) : Ex (d + 2) 288 [.ref r0, .int n1] (T, N, I, L, R) 0 0 (pI T N R (fun x9 I9 L9 => (∀ a4, R r0 4 = some a4 → (I9 a4 n1.toNatClampNeg).toInt = (I a4 n1.toNatClampNeg).toInt - x9.toInt) ∧ (∀ a4, R r0 4 = some a4 → 0 ≤ x9.toInt ∧ x9.toInt ≤ (I a4 n1.toNatClampNeg).toInt) ∧ (∀ a5, R r0 5 = some a5 → NE1 I a5 (41 * n1.toNatClampNeg + x9.toNatClampNeg)) ∧ (∀ a4 a5, R r0 4 = some a4 → R r0 5 = some a5 → STP I I9 a5 n1.toNatClampNeg x9.toInt (I a4 n1.toNatClampNeg).toInt) ∧ (∀ a5, R r0 5 = some a5 → ∀ k : Nat, (k : Int) < x9.toInt → RI I a5 n1.toNatClampNeg k = 0) ∧ (∀ a4, R r0 4 = some a4 → ∀ r : Nat, r ≠ n1.toNatClampNeg → I9 a4 r = I a4 r) ∧ (∀ a5, R r0 5 = some a5 → ∀ r : Nat, (r < 41 * n1.toNatClampNeg ∨ 41 * n1.toNatClampNeg + 41 ≤ r) → I9 a5 r = I a5 r) ∧ (IM R r0 I9 ∧ CM A R r0 [] [4, 5] I L I9 L9))) := by
  refine ⟨_, rfl, Nat.le_of_ble_eq_true rfl, fun V C S => ?_⟩
  show V 0 [(0, .ref r0), (1, .int n1)] [] (T, N, I, L, R) 0 0
  have gn1 := rg n1
  obtain ⟨T_r0, A_r0, ⟨r0_1, R_r0_1, H_r0_1⟩, ⟨r0_2, R_r0_2, H_r0_2⟩, ⟨r0_4, R_r0_4, H_r0_4⟩, ⟨r0_5, R_r0_5, H_r0_5⟩, ⟨r0_10, R_r0_10, H_r0_10⟩, ⟨r0_18, R_r0_18, H_r0_18⟩, ⟨r0_20, R_r0_20, H_r0_20⟩, ⟨r0_21, R_r0_21, H_r0_21⟩, ⟨r0_22, R_r0_22, H_r0_22⟩, ⟨r0_23, R_r0_23, H_r0_23⟩, ⟨r0_25, R_r0_25, H_r0_25⟩, ⟨r0_26, R_r0_26, H_r0_26⟩, ⟨r0_27, R_r0_27, H_r0_27⟩, ⟨r0_28, R_r0_28, H_r0_28⟩, ⟨r0_34, R_r0_34, H_r0_34⟩, J_r0, Y_r0⟩ := id H_r0
  have G_r0 : mF T R r0 := ⟨J_r0, Y_r0, T_r0⟩
  obtain ⟨w_r0_4_n1, k0_r0_4_n1⟩ : ∃ x, I r0_4 n1.toNatClampNeg = x := ⟨_, rfl⟩
  have gw_r0_4_n1 := rg w_r0_4_n1
  have ow_r0_4_n1 := IM.dgR hI R_r0_4 k0_r0_4_n1
  have hp0 := hp0 r0_4 r0_5 R_r0_4 R_r0_5
  try simp only [k0_r0_4_n1] at hp0
  obtain ⟨K, hK1, hK2⟩ := hp0
  refine z_iconst C (z := 0) rfl rfl rfl (fun x1 ex1 => ?_)
  have J2 : ∀ (nn3 : Nat) (x4 : Int32), (MN (41 - x4.toInt) nn3) → (0 ≤ x4.toInt) → (x4.toInt ≤ 41) → (x4.toInt ≤ (K : Int)) → (AZ I r0_5 (41 * n1.toNatClampNeg) x4.toInt) → V 2 [(0, .ref r0), (1, .int n1), (2, .int x4)] [] (T, N, I, L, R) 0 0 := by
    intro nn3
    induction nn3 using Nat.strongRecOn with
    | _ nn3 ihJ2 =>
      intro x4 hmnn3 b5 b6 ff2_0 ff2_1
      have gx4 := rg x4
      refine k_aload_n C rfl rfl rfl ?_
      refine k_iload_n C rfl rfl rfl ?_
      refine k_iload_n C rfl rfl rfl ?_
      refine c_VI C (a_X12_of hI H_r0 (by omega) (by omega) (by omega) (by omega)) rfl rfl rfl rfl rfl ⟨_, rfl, rfl, T_r0, Nat.le_of_ble_eq_true rfl⟩ rfl rfl (Nat.le_of_ble_eq_true rfl) (Nat.le_of_ble_eq_true rfl) (Nat.le_of_ble_eq_true rfl) ?_
      rintro x7 _ _ ⟨o0x7, o1x7, p0x7, rfl, rfl⟩
      have p0x7 := p0x7 r0_5 R_r0_5
      have gx7 := rg x7
      try simp only [k0_r0_4_n1] at p0x7
      try have q0x7 := congrArg Int32.toInt p0x7
      have hO := p0x7
      refine b_if_ne C (t := 17) rfl rfl rfl (fun c8 => ?_) (fun c8 => ?_)
      · skip
        have hNE : NE1 I r0_5 (41 * n1.toNatClampNeg + x4.toNatClampNeg) := by (show (I r0_5 _).toInt ≠ 0); omega
        refine k_iload_n C rfl rfl rfl ?_
        have J9 : ∀ (nn10 : Nat) (I11 : IT) (L12 : LT) (x13 : Int32), (MN (41 - x13.toInt) nn10) → (IM R r0 I11) → (CM A R r0 [] [5] I L I11 L12) → (∀ r : Nat, (r < 41 * n1.toNatClampNeg ∨ 41 * n1.toNatClampNeg + 41 ≤ r) → I11 r0_5 r = I r0_5 r) → (0 ≤ x13.toInt) → (x13.toInt ≤ 41) → (x4.toInt ≤ x13.toInt) → (x13.toInt ≤ w_r0_4_n1.toInt + 1) → (STQ I I11 r0_5 n1.toNatClampNeg x4.toInt x13.toInt) → V 19 [(0, .ref r0), (1, .int n1), (2, .int x4), (3, .int x13)] [] (T, N, I11, L12, R) 0 0 := by
          intro nn10
          induction nn10 using Nat.strongRecOn with
          | _ nn10 ihJ9 =>
            intro I11 L12 x13 hmnn10 hI17 S16 F18 b14 b15 ff19_0 ff19_1 ff19_2
            have gx13 := rg x13
            have e19 := CM.j S16 R_r0_4 (by decide) k0_r0_4_n1
            refine k_iload_n C rfl rfl rfl ?_
            refine k_aload_n C rfl rfl rfl ?_
            refine g_R C rfl rfl rfl T_r0 rfl R_r0_4 ?_
            refine k_iload_n C rfl rfl rfl ?_
            obtain ⟨T_r0_4, N_r0_4, A_r0_4⟩ := id H_r0_4
            refine a_I C rfl rfl T_r0_4 (by rw [N_r0_4]; exact vpi (by omega) (by omega)) e19 ?_
            refine b_icmp_gt C (t := 49) rfl rfl rfl (fun c20 => ?_) (fun c20 => ?_)
            · skip
              refine k_aload_n C rfl rfl rfl ?_
              refine g_R C rfl rfl rfl T_r0 rfl R_r0_4 ?_
              refine k_iload_n C rfl rfl rfl ?_
              refine k_dup2 C rfl rfl rfl rfl ?_
              refine a_I C rfl rfl T_r0_4 (by rw [N_r0_4]; exact vpi (by omega) (by omega)) e19 ?_
              refine k_iload_n C rfl rfl rfl ?_
              refine z_isub C rfl rfl ⟨by omega, by omega⟩ (fun x21 ex21 => ?_)
              refine z_sI C rfl rfl T_r0_4 N_r0_4 (by omega) (by omega) (fun I22 uI22 => ?_)
              have hI22 : IM R r0 I22 := IM.arr hI17 G_r0 R_r0_4 ⟨(fun _ => ⟨by omega, by omega⟩), (fun h => absurd h (by decide)), (fun h => absurd h (by decide))⟩ (fun h => absurd h (by decide)) uI22
              have S23 : CM A R r0 [] [4] I11 L12 I22 L12 := CM.a G_r0 R_r0_4 A_r0_4 uI22
              have F24 : ∀ r : Nat, r ≠ n1.toNatClampNeg → I22 r0_4 r = I11 r0_4 r := fun r z0 => by rw [uI22]; first | exact u2_k z0
              have e26 := u2_e uI22
              refine k_iload_n C rfl rfl rfl ?_
              exact k_iret C rfl (Or.inl rfl) (Nat.le_of_ble_eq_true rfl) (Nat.le_of_ble_eq_true rfl) ⟨_, _, _, rfl, rfl, fun a4 h4 => by cases (R_r0_4.symm.trans h4); first | omega | (simp only [e26, k0_r0_4_n1, and_true, true_and, or_true, true_or, and_false, false_and, or_false, false_or] <;> omega), fun a4 h4 => by cases (R_r0_4.symm.trans h4); first | omega | (simp only [e26, k0_r0_4_n1, and_true, true_and, or_true, true_or, and_false, false_and, or_false, false_or] <;> omega), fun a5 h5 => by cases (R_r0_5.symm.trans h5); exact hNE, fun a4 a5 h4 h5 => by cases (R_r0_4.symm.trans h4); cases (R_r0_5.symm.trans h5); simp only [k0_r0_4_n1]; exact STQ.p ff19_2 (CM.j0 S23 R_r0_5 (by decide)) (by omega), fun a5 h5 => by cases (R_r0_5.symm.trans h5); exact fun k hk => ff2_1 k (by omega), fun a4 h4 => by cases (R_r0_4.symm.trans h4); exact (fun r z0 => ((F24 r z0).trans (congrFun (CM.j0 S16 R_r0_4 (by decide)) r))), fun a5 h5 => by cases (R_r0_5.symm.trans h5); exact (fun r z0 => ((congrFun (CM.j0 S23 R_r0_5 (by decide)) r).trans (F18 r z0))), hI22, (CM.cons S16 (CM.mono S23 (by decide) (by decide)) (by decide) (by decide))⟩
            refine k_aload_n C rfl rfl rfl ?_
            refine k_iload_n C rfl rfl rfl ?_
            refine k_iload_n C rfl rfl rfl ?_
            refine k_iload_n C rfl rfl rfl ?_
            refine z_isub C rfl rfl ⟨by omega, by omega⟩ (fun x27 ex27 => ?_)
            refine k_aload_n C rfl rfl rfl ?_
            refine k_iload_n C rfl rfl rfl ?_
            refine k_iload_n C rfl rfl rfl ?_
            refine c_VI C (a_X12_of hI17 H_r0 (by omega) (by omega) (by omega) (by omega)) rfl rfl rfl rfl rfl ⟨_, rfl, rfl, T_r0, Nat.le_of_ble_eq_true rfl⟩ rfl rfl (Nat.le_of_ble_eq_true rfl) (Nat.le_of_ble_eq_true rfl) (Nat.le_of_ble_eq_true rfl) ?_
            rintro x28 _ _ ⟨o0x28, o1x28, p0x28, rfl, rfl⟩
            have p0x28 := p0x28 r0_5 R_r0_5
            have gx28 := rg x28
            try simp only [e19] at p0x28
            try have q0x28 := congrArg Int32.toInt p0x28
            have hO2 := p0x28
            refine c_VV C (a_X12_put hI17 H_r0 (by omega) (by omega) (by omega) (by omega) (by omega) (by omega)) rfl rfl rfl rfl rfl ⟨_, rfl, rfl, T_r0, Nat.le_of_ble_eq_true rfl⟩ rfl rfl (Nat.le_of_ble_eq_true rfl) (Nat.le_of_ble_eq_true rfl) (Nat.le_of_ble_eq_true rfl) ?_
            rintro I30 L31 ⟨p0v29, p1v29, hI30, S32⟩
            have p0v29 := p0v29 r0_5 R_r0_5
            have p1v29 := p1v29 r0_5 R_r0_5
            have F33 : ∀ r : Nat, (r < 41 * n1.toNatClampNeg ∨ 41 * n1.toNatClampNeg + 41 ≤ r) → I30 r0_5 r = I11 r0_5 r := fun r z0 => p1v29 r (by first | exact z0)
            have e34 := CM.j S32 R_r0_4 (by decide) e19
            try simp only [e19] at p0v29
            try have q0v29 := congrArg Int32.toInt p0v29
            have hP := p0v29
            refine z_iinc C (z := 1) (lw := fun x35 => [(3, .int x35), (0, .ref r0), (1, .int n1), (2, .int x4)]) rfl rfl rfl (Nat.le_of_ble_eq_true rfl) rfl ⟨by omega, by omega⟩ (fun _ => rfl) (fun x35 ex35 => ?_)
            show V 46 [(3, .int x35), (0, .ref r0), (1, .int n1), (2, .int x4)] _ _ _ _
            refine k_goto C (pc2 := 19) rfl rfl ?_
            refine k_sub S [(0, .ref r0), (1, .int n1), (2, .int x4), (3, .int x35)] (List.forall_mem_cons.mpr ⟨List.mem_of_getElem? (i := 1) rfl, List.forall_mem_cons.mpr ⟨List.mem_of_getElem? (i := 2) rfl, List.forall_mem_cons.mpr ⟨List.mem_of_getElem? (i := 3) rfl, List.forall_mem_cons.mpr ⟨List.mem_of_getElem? (i := 0) rfl, fun _ h => nomatch h⟩⟩⟩⟩) ?_
            exact ihJ9 _ (MN.lt hmnn10 (by omega) (by omega)) I30 L31 x35 rfl hI30 (CM.cons S16 (CM.mono S32 (by decide) (by decide)) (by decide) (by decide)) (fun r z0 => ((F33 r z0).trans (F18 r z0))) (by omega) (by omega) (by omega) (by omega) (by exact STQ.s ff19_2 hO2 hP (by omega) (by omega) (by omega) (by omega))
        refine k_istore_n C (lw := [(3, .int x4), (0, .ref r0), (1, .int n1), (2, .int x4)]) rfl rfl (Nat.le_of_ble_eq_true rfl) rfl ?_
        refine k_sub S [(0, .ref r0), (1, .int n1), (2, .int x4), (3, .int x4)] (List.forall_mem_cons.mpr ⟨List.mem_of_getElem? (i := 1) rfl, List.forall_mem_cons.mpr ⟨List.mem_of_getElem? (i := 2) rfl, List.forall_mem_cons.mpr ⟨List.mem_of_getElem? (i := 3) rfl, List.forall_mem_cons.mpr ⟨List.mem_of_getElem? (i := 0) rfl, fun _ h => nomatch h⟩⟩⟩⟩) ?_
        exact J9 _ I L x4 rfl hI CM.rf (fun r z0 => rfl) (by omega) (by omega) (by omega) (by omega) (by exact STQ.z (by omega) rfl)
      refine z_iinc C (z := 1) (lw := fun x36 => [(2, .int x36), (0, .ref r0), (1, .int n1)]) rfl rfl rfl (Nat.le_of_ble_eq_true rfl) rfl ⟨by omega, by omega⟩ (fun _ => rfl) (fun x36 ex36 => ?_)
      show V 14 [(2, .int x36), (0, .ref r0), (1, .int n1)] _ _ _ _
      refine k_goto C (pc2 := 2) rfl rfl ?_
      refine k_sub S [(0, .ref r0), (1, .int n1), (2, .int x36)] (List.forall_mem_cons.mpr ⟨List.mem_of_getElem? (i := 1) rfl, List.forall_mem_cons.mpr ⟨List.mem_of_getElem? (i := 2) rfl, List.forall_mem_cons.mpr ⟨List.mem_of_getElem? (i := 0) rfl, fun _ h => nomatch h⟩⟩⟩) ?_
      exact ihJ2 _ (MN.lt hmnn3 (by omega) (by omega)) x36 rfl (by omega) (by omega) (by (have h9 : x4.toNatClampNeg ≠ K := by (intro q; have hK3 := hK2; rw [← q] at hK3; omega)); (have h8 := ncz (x := x4) (by omega)); omega) (by exact AZ.s ff2_1 (by omega) (by omega) (by omega))
  refine k_istore_n C (lw := [(2, .int x1), (0, .ref r0), (1, .int n1)]) rfl rfl (Nat.le_of_ble_eq_true rfl) rfl ?_
  refine k_sub S [(0, .ref r0), (1, .int n1), (2, .int x1)] (List.forall_mem_cons.mpr ⟨List.mem_of_getElem? (i := 1) rfl, List.forall_mem_cons.mpr ⟨List.mem_of_getElem? (i := 2) rfl, List.forall_mem_cons.mpr ⟨List.mem_of_getElem? (i := 0) rfl, fun _ h => nomatch h⟩⟩⟩) ?_
  exact J2 _ x1 rfl (by omega) (by omega) (by omega) (by exact AZ.z (by omega))

set_option maxHeartbeats 4000000 in
theorem a_X12_divides_x {d : Nat} {T N : Nat → Nat} {I : IT} {L : LT} {R : RT} {A : Nat → Prop} {r0 : Nat} {n1 n2 n3 : Int32} (hI : IM R r0 I) (H_r0 : (h_MD T N R A) r0) (b0_n1 : 40 ≤ n1.toInt) (b1_n1 : n1.toInt ≤ 40) (b0_n2 : 41 ≤ n2.toInt) (b1_n2 : n2.toInt ≤ 41) (b0_n3 : 43 ≤ n3.toInt) (b1_n3 : n3.toInt ≤ 43) (hp0 : ∀ a4, R r0 4 = some a4 → (I a4 41).toInt ≤ (I a4 40).toInt) (hp1 : ∀ a5, R r0 5 = some a5 → NE1 I a5 (41 * 41)) (hp2 : ∀ a1 a5, R r0 1 = some a1 → R r0 5 = some a5 → QN I a5 41 1 (I a1 0).toInt) (hp3 : ∀ a1 a4 a5, R r0 1 = some a1 → R r0 4 = some a4 → R r0 5 = some a5 → QN I a5 40 ((I a4 40).toInt + 1) (I a1 0).toInt) (hp4 : ∀ a1 a4 a5, R r0 1 = some a1 → R r0 4 = some a4 → R r0 5 = some a5 → RCN I a5 40 (I a1 0).toInt (I a4 40).toInt) (hp5 : ∀ a1 a4 a5, R r0 1 = some a1 → R r0 4 = some a4 → R r0 5 = some a5 → RCN I a5 41 (I a1 0).toInt (I a4 41).toInt) (hp6 : ∀ a4, R r0 4 = some a4 → 0 ≤ (I a4 41).toInt) : Ex (d + 5) 289 [.ref r0, .int n1, .int n2, .int n3] (T, N, I, L, R) 0 0 (pV T N R (fun I9 L9 => (∀ a4 a5, R r0 4 = some a4 → R r0 5 = some a5 → AZ I9 a5 (41 * 40) ((I a4 40).toInt - (I a4 41).toInt + 1)) ∧ (∀ a1 a4 a5, R r0 1 = some a1 → R r0 4 = some a4 → R r0 5 = some a5 → QN I9 a5 40 ((I a4 40).toInt + 1) (I a1 0).toInt) ∧ (∀ a4, R r0 4 = some a4 → (I9 a4 43).toInt = (I a4 40).toInt - (I a4 41).toInt) ∧ (∀ a1 a4 a5, R r0 1 = some a1 → R r0 4 = some a4 → R r0 5 = some a5 → RCN I9 a5 40 (I a1 0).toInt (I a4 40).toInt) ∧ (∀ a1 a4 a5, R r0 1 = some a1 → R r0 4 = some a4 → R r0 5 = some a5 → SCD (I a1 0).toInt (RI I a5 40) (I a4 40).toInt (RI I a5 41) (I a4 41).toInt (RI I9 a5 40) (I a4 40).toInt (RI I a5 41) (I a4 41).toInt) ∧ (∀ a1 a4 a5, R r0 1 = some a1 → R r0 4 = some a4 → R r0 5 = some a5 → QEV (I a1 0).toInt (RI I a5 40) (I a4 40).toInt (RI I a5 41) (I a4 41).toInt (RI I9 a5 43) (RI I9 a5 40) ((I a4 40).toInt - (I a4 41).toInt + 1)) ∧ (∀ a4, R r0 4 = some a4 → ∀ r : Nat, r ≠ 43 → I9 a4 r = I a4 r) ∧ (∀ a5, R r0 5 = some a5 → ∀ r : Nat, (r < 41 * 40 ∨ 41 * 40 + 41 ≤ r) → (r < 41 * 43 ∨ 41 * 43 + 41 ≤ r) → I9 a5 r = I a5 r) ∧ (IM R r0 I9 ∧ CM A R r0 [] [4, 5] I L I9 L9))) := by
  refine ⟨_, rfl, Nat.le_of_ble_eq_true rfl, fun V C S => ?_⟩
  show V 0 [(0, .ref r0), (1, .int n1), (2, .int n2), (3, .int n3)] [] (T, N, I, L, R) 0 0
  have gn1 := rg n1
  have gn2 := rg n2
  have gn3 := rg n3
  obtain ⟨T_r0, A_r0, ⟨r0_1, R_r0_1, H_r0_1⟩, ⟨r0_2, R_r0_2, H_r0_2⟩, ⟨r0_4, R_r0_4, H_r0_4⟩, ⟨r0_5, R_r0_5, H_r0_5⟩, ⟨r0_10, R_r0_10, H_r0_10⟩, ⟨r0_18, R_r0_18, H_r0_18⟩, ⟨r0_20, R_r0_20, H_r0_20⟩, ⟨r0_21, R_r0_21, H_r0_21⟩, ⟨r0_22, R_r0_22, H_r0_22⟩, ⟨r0_23, R_r0_23, H_r0_23⟩, ⟨r0_25, R_r0_25, H_r0_25⟩, ⟨r0_26, R_r0_26, H_r0_26⟩, ⟨r0_27, R_r0_27, H_r0_27⟩, ⟨r0_28, R_r0_28, H_r0_28⟩, ⟨r0_34, R_r0_34, H_r0_34⟩, J_r0, Y_r0⟩ := id H_r0
  have G_r0 : mF T R r0 := ⟨J_r0, Y_r0, T_r0⟩
  obtain ⟨w_r0_4_40, k0_r0_4_40⟩ : ∃ x, I r0_4 40 = x := ⟨_, rfl⟩
  have gw_r0_4_40 := rg w_r0_4_40
  have ow_r0_4_40 := IM.dgR hI R_r0_4 k0_r0_4_40
  obtain ⟨w_r0_4_41, k0_r0_4_41⟩ : ∃ x, I r0_4 41 = x := ⟨_, rfl⟩
  have gw_r0_4_41 := rg w_r0_4_41
  have ow_r0_4_41 := IM.dgR hI R_r0_4 k0_r0_4_41
  obtain ⟨w_r0_1_0, k0_r0_1_0⟩ : ∃ x, I r0_1 0 = x := ⟨_, rfl⟩
  have gw_r0_1_0 := rg w_r0_1_0
  have ow_r0_1_0 := IM.pi hI R_r0_1 k0_r0_1_0
  have hp0 := hp0 r0_4 R_r0_4
  have hp1 := hp1 r0_5 R_r0_5
  have hp2 := hp2 r0_1 r0_5 R_r0_1 R_r0_5
  have hp3 := hp3 r0_1 r0_4 r0_5 R_r0_1 R_r0_4 R_r0_5
  have hp4 := hp4 r0_1 r0_4 r0_5 R_r0_1 R_r0_4 R_r0_5
  have hp5 := hp5 r0_1 r0_4 r0_5 R_r0_1 R_r0_4 R_r0_5
  have hp6 := hp6 r0_4 R_r0_4
  try simp only [k0_r0_4_40, k0_r0_4_41, k0_r0_1_0] at hp0
  try simp only [k0_r0_4_40, k0_r0_4_41, k0_r0_1_0] at hp1
  try simp only [k0_r0_4_40, k0_r0_4_41, k0_r0_1_0] at hp2
  try simp only [k0_r0_4_40, k0_r0_4_41, k0_r0_1_0] at hp3
  try simp only [k0_r0_4_40, k0_r0_4_41, k0_r0_1_0] at hp4
  try simp only [k0_r0_4_40, k0_r0_4_41, k0_r0_1_0] at hp5
  try simp only [k0_r0_4_40, k0_r0_4_41, k0_r0_1_0] at hp6
  skip
  refine k_aload_n C rfl rfl rfl ?_
  refine k_aload_n C rfl rfl rfl ?_
  refine k_iload_n C rfl rfl rfl ?_
  refine z_iconst C (z := 0) rfl rfl rfl (fun x1 ex1 => ?_)
  have q2 : n2.toNatClampNeg = 41 := nck (by omega)
  have q3 : x1.toNatClampNeg = 0 := nck (by omega)
  refine c_VI C (a_X12_of hI H_r0 (by omega) (by omega) (by omega) (by omega)) rfl rfl rfl rfl rfl ⟨_, rfl, rfl, T_r0, Nat.le_of_ble_eq_true rfl⟩ rfl rfl (Nat.le_of_ble_eq_true rfl) (Nat.le_of_ble_eq_true rfl) (Nat.le_of_ble_eq_true rfl) ?_
  rintro x4 _ _ ⟨o0x4, o1x4, p0x4, rfl, rfl⟩
  have p0x4 := p0x4 r0_5 R_r0_5
  have gx4 := rg x4
  try simp only [q2, q3, k0_r0_4_40, k0_r0_4_41, k0_r0_1_0] at p0x4
  try have q0x4 := congrArg Int32.toInt p0x4
  have hO1 := p0x4
  refine c_VI C (a_X12_inverse_x hI H_r0 (by omega) (by omega)) rfl rfl rfl rfl rfl ⟨_, rfl, rfl, T_r0, Nat.le_of_ble_eq_true rfl⟩ rfl rfl (Nat.le_of_ble_eq_true rfl) (Nat.le_of_ble_eq_true rfl) (Nat.le_of_ble_eq_true rfl) ?_
  rintro x5 _ _ ⟨o0x5, o1x5, p0x5, p1x5, rfl, rfl⟩
  have p0x5 := p0x5 r0_1 R_r0_1
  have gx5 := rg x5
  try simp only [k0_r0_4_40, k0_r0_4_41, k0_r0_1_0] at p0x5
  try have q0x5 := congrArg Int32.toInt p0x5
  try simp only [k0_r0_4_40, k0_r0_4_41, k0_r0_1_0] at p1x5
  try have q1x5 := congrArg Int32.toInt p1x5
  have hI9 := p0x5
  obtain ⟨vl, hvl⟩ : ∃ z : Int, z = x5.toInt := ⟨_, rfl⟩
  have hin0 : 0 ≤ x5.toInt := p1x5 (by rw [hO1]; exact (hp5 0 (by omega)).1)
  refine k_istore C (lw := [(4, .int x5), (0, .ref r0), (1, .int n1), (2, .int n2), (3, .int n3)]) rfl rfl (Nat.le_of_ble_eq_true rfl) rfl ?_
  obtain ⟨vb, hvb⟩ : ∃ z : Int, z = (I r0_5 (41 * 41 + 0)).toInt := ⟨_, rfl⟩
  have hinv : (vb * vl) % w_r0_1_0.toInt = 1 := by (rw [hvb, hvl, ← hO1]; exact hI9 (by have h1 := hp2 0 (by omega); omega) (by have h1 := hp2 0 (by omega); omega) (by have h2 : (I r0_5 (41 * 41)).toInt ≠ 0 := hp1; have h3 : (I r0_5 (41 * 41 + 0)).toInt ≠ 0 := h2; omega))
  refine k_aload_n C rfl rfl rfl ?_
  refine k_iload_n C rfl rfl rfl ?_
  refine k_aload_n C rfl rfl rfl ?_
  refine g_R C rfl rfl rfl T_r0 rfl R_r0_4 ?_
  refine k_iload_n C rfl rfl rfl ?_
  obtain ⟨T_r0_4, N_r0_4, A_r0_4⟩ := id H_r0_4
  refine a_I C rfl rfl T_r0_4 (by rw [N_r0_4]; exact vpi (by omega) (by omega)) ((congrArg (I r0_4) (nck (n := 40) (by omega))).trans k0_r0_4_40) ?_
  refine k_aload_n C rfl rfl rfl ?_
  refine g_R C rfl rfl rfl T_r0 rfl R_r0_4 ?_
  refine k_iload_n C rfl rfl rfl ?_
  refine a_I C rfl rfl T_r0_4 (by rw [N_r0_4]; exact vpi (by omega) (by omega)) ((congrArg (I r0_4) (nck (n := 41) (by omega))).trans k0_r0_4_41) ?_
  refine z_isub C rfl rfl ⟨by omega, by omega⟩ (fun x6 ex6 => ?_)
  have q7 : n3.toNatClampNeg = 43 := nck (by omega)
  refine c_VV C (a_X12_clears hI H_r0 (by omega) (by omega) (by omega) (by omega)) rfl rfl rfl rfl rfl ⟨_, rfl, rfl, T_r0, Nat.le_of_ble_eq_true rfl⟩ rfl rfl (Nat.le_of_ble_eq_true rfl) (Nat.le_of_ble_eq_true rfl) (Nat.le_of_ble_eq_true rfl) ?_
  rintro I9 L10 ⟨p0v8, p1v8, p2v8, p3v8, hI9, S11⟩
  have p0v8 := p0v8 r0_4 R_r0_4
  have p1v8 := p1v8 r0_5 R_r0_5
  have p2v8 := p2v8 r0_4 R_r0_4
  have p3v8 := p3v8 r0_5 R_r0_5
  try simp only [q7] at p2v8
  have F12 : ∀ r : Nat, r ≠ 43 → I9 r0_4 r = I r0_4 r := fun r z0 => p2v8 r (by first | exact z0)
  try simp only [q7] at p3v8
  have F13 : ∀ r : Nat, (r < 41 * 40 ∨ 41 * 40 + 41 ≤ r) → (r < 41 * 43 ∨ 41 * 43 + 41 ≤ r) → I9 r0_5 r = I r0_5 r := fun r z0 z1 => p3v8 r (by first | exact z0 | exact z1)
  have e14 := (p2v8 40 (by first | decide | exact ncne (by omega) (by omega) (by omega) | exact nckn (by omega) (by omega) | exact (nckn (by omega) (by omega)).symm)).trans k0_r0_4_40
  have e15 := (p2v8 41 (by first | decide | exact ncne (by omega) (by omega) (by omega) | exact nckn (by omega) (by omega) | exact (nckn (by omega) (by omega)).symm)).trans k0_r0_4_41
  have e16 := CM.j S11 R_r0_1 (by decide) k0_r0_1_0
  obtain ⟨x17, e18⟩ : ∃ x, I9 r0_4 43 = x := ⟨_, rfl⟩
  have gx17 := rg x17
  have ox17 := IM.dgR hI9 R_r0_4 e18
  try simp only [q7, k0_r0_4_40, k0_r0_4_41, k0_r0_1_0, e18] at p0v8
  try have q0v8 := congrArg Int32.toInt p0v8
  try simp only [q7, k0_r0_4_40, k0_r0_4_41, k0_r0_1_0, e18] at p1v8
  try have q1v8 := congrArg Int32.toInt p1v8
  have hS40 : SMR I I9 r0_5 40 := fun k hk => p3v8 _ (by omega)
  have hS41 : SMR I I9 r0_5 41 := fun k hk => p3v8 _ (by omega)
  have hRC : RCN I9 r0_5 40 w_r0_1_0.toInt w_r0_4_40.toInt := RCN.sm hp4 hS40 rfl (by omega)
  refine z_iconst C (z := 0) rfl rfl rfl (fun x19 ex19 => ?_)
  have J20 : ∀ (nn21 : Nat) (I22 : IT) (L23 : LT) (x24 : Int32), (MN (41 - x24.toInt) nn21) → (IM R r0 I22) → (CM A R r0 [] [5] I9 L10 I22 L23) → (∀ r : Nat, (r < 41 * 40 ∨ 41 * 40 + 41 ≤ r) → (r < 41 * 43 ∨ 41 * 43 + 41 ≤ r) → I22 r0_5 r = I9 r0_5 r) → (0 ≤ x24.toInt) → (x24.toInt ≤ 41) → (AZ I22 r0_5 (41 * 40) x24.toInt) → (QN I22 r0_5 40 (w_r0_4_40.toInt + 1) w_r0_1_0.toInt) → (SMR I I22 r0_5 41) → (x24.toInt ≤ w_r0_4_40.toInt - w_r0_4_41.toInt + 1) → (RCN I22 r0_5 40 w_r0_1_0.toInt w_r0_4_40.toInt) → (SCD w_r0_1_0.toInt (RI I r0_5 40) w_r0_4_40.toInt (RI I r0_5 41) w_r0_4_41.toInt (RI I22 r0_5 40) w_r0_4_40.toInt (RI I r0_5 41) w_r0_4_41.toInt) → (QEV w_r0_1_0.toInt (RI I r0_5 40) w_r0_4_40.toInt (RI I r0_5 41) w_r0_4_41.toInt (RI I22 r0_5 43) (RI I22 r0_5 40) x24.toInt) → V 33 [(0, .ref r0), (1, .int n1), (2, .int n2), (3, .int n3), (4, .int x5), (5, .int x24)] [] (T, N, I22, L23, R) 0 0 := by
    intro nn21
    induction nn21 using Nat.strongRecOn with
    | _ nn21 ihJ20 =>
      intro I22 L23 x24 hmnn21 hI28 S27 F29 b25 b26 ff33_0 ff33_1 ff33_2 ff33_3 ff33_4 ff33_5 ff33_6
      have gx24 := rg x24
      have e30 := CM.j S27 R_r0_4 (by decide) e14
      have e31 := CM.j S27 R_r0_4 (by decide) e15
      have e32 := CM.j S27 R_r0_1 (by decide) e16
      have e33 := CM.j S27 R_r0_4 (by decide) e18
      refine k_iload C rfl rfl rfl ?_
      refine k_aload_n C rfl rfl rfl ?_
      refine g_R C rfl rfl rfl T_r0 rfl R_r0_4 ?_
      refine k_iload_n C rfl rfl rfl ?_
      refine a_I C rfl rfl T_r0_4 (by rw [N_r0_4]; exact vpi (by omega) (by omega)) ((congrArg (I22 r0_4) (nck (n := 43) (by omega))).trans e33) ?_
      refine b_icmp_gt C (t := 131) rfl rfl rfl (fun c34 => ?_) (fun c34 => ?_)
      · skip
        exact k_vret C rfl rfl (Nat.le_of_ble_eq_true rfl) (Nat.le_of_ble_eq_true rfl) ⟨_, _, rfl, rfl, fun a4 a5 h4 h5 => by cases (R_r0_4.symm.trans h4); cases (R_r0_5.symm.trans h5); simp only [k0_r0_4_40, k0_r0_4_41]; exact AZ.le ff33_0 (by omega), fun a1 a4 a5 h1 h4 h5 => by cases (R_r0_1.symm.trans h1); cases (R_r0_4.symm.trans h4); cases (R_r0_5.symm.trans h5); simp only [k0_r0_4_40, k0_r0_1_0]; exact ff33_1, fun a4 h4 => by cases (R_r0_4.symm.trans h4); first | omega | (simp only [e30, e31, e32, e33, k0_r0_4_40, k0_r0_4_41, k0_r0_1_0, and_true, true_and, or_true, true_or, and_false, false_and, or_false, false_or] <;> omega), fun a1 a4 a5 h1 h4 h5 => by cases (R_r0_1.symm.trans h1); cases (R_r0_4.symm.trans h4); cases (R_r0_5.symm.trans h5); simp only [k0_r0_4_40, k0_r0_1_0]; exact ff33_4, fun a1 a4 a5 h1 h4 h5 => by cases (R_r0_1.symm.trans h1); cases (R_r0_4.symm.trans h4); cases (R_r0_5.symm.trans h5); simp only [k0_r0_4_40, k0_r0_4_41, k0_r0_1_0]; exact ff33_5, fun a1 a4 a5 h1 h4 h5 => by cases (R_r0_1.symm.trans h1); cases (R_r0_4.symm.trans h4); cases (R_r0_5.symm.trans h5); simp only [k0_r0_4_40, k0_r0_4_41, k0_r0_1_0]; rw [show w_r0_4_40.toInt - w_r0_4_41.toInt + 1 = x24.toInt from by omega]; exact ff33_6, fun a4 h4 => by cases (R_r0_4.symm.trans h4); exact (fun r z0 => ((congrFun (CM.j0 S27 R_r0_4 (by decide)) r).trans (F12 r z0))), fun a5 h5 => by cases (R_r0_5.symm.trans h5); exact (fun r z0 z1 => ((F29 r z0 z1).trans (F13 r z0 z1))), hI28, (CM.cons S11 (CM.mono S27 (by decide) (by decide)) (by decide) (by decide))⟩
      refine k_aload_n C rfl rfl rfl ?_
      refine k_aload_n C rfl rfl rfl ?_
      refine k_iload_n C rfl rfl rfl ?_
      refine k_iload C rfl rfl rfl ?_
      have q35 : n1.toNatClampNeg = 40 := nck (by omega)
      refine c_VI C (a_X12_of hI28 H_r0 (by omega) (by omega) (by omega) (by omega)) rfl rfl rfl rfl rfl ⟨_, rfl, rfl, T_r0, Nat.le_of_ble_eq_true rfl⟩ rfl rfl (Nat.le_of_ble_eq_true rfl) (Nat.le_of_ble_eq_true rfl) (Nat.le_of_ble_eq_true rfl) ?_
      rintro x36 _ _ ⟨o0x36, o1x36, p0x36, rfl, rfl⟩
      have p0x36 := p0x36 r0_5 R_r0_5
      have gx36 := rg x36
      try simp only [q35, e30, e31, e32, e33] at p0x36
      try have q0x36 := congrArg Int32.toInt p0x36
      have hO2 := p0x36
      obtain ⟨va, hva⟩ : ∃ z : Int, z = x36.toInt := ⟨_, rfl⟩
      obtain ⟨F1, eF1⟩ : ∃ F1 : Nat → Int, RI I22 r0_5 40 = F1 := ⟨_, rfl⟩
      obtain ⟨E1, eE1⟩ : ∃ E1 : Nat → Int, RI I22 r0_5 43 = E1 := ⟨_, rfl⟩
      have hva9 := ff33_4 x24.toNatClampNeg (by have h9 := ncz (x := x24) (by omega); omega)
      have hva8 : x36.toInt = RI I22 r0_5 40 x24.toNatClampNeg := p0x36
      refine k_iload C rfl rfl rfl ?_
      refine c_VI C (a_X12_times hI28 H_r0 (by omega) (by omega) (by omega) (by omega)) rfl rfl rfl rfl rfl ⟨_, rfl, rfl, T_r0, Nat.le_of_ble_eq_true rfl⟩ rfl rfl (Nat.le_of_ble_eq_true rfl) (Nat.le_of_ble_eq_true rfl) (Nat.le_of_ble_eq_true rfl) ?_
      rintro x37 _ _ ⟨o0x37, o1x37, p0x37, p1x37, p2x37, p3x37, rfl, rfl⟩
      have p0x37 := p0x37 r0_1 R_r0_1
      have p2x37 := p2x37 r0_1 R_r0_1
      have p3x37 := p3x37 r0_1 R_r0_1
      have gx37 := rg x37
      try simp only [e30, e31, e32, e33] at p0x37
      try have q0x37 := congrArg Int32.toInt p0x37
      try simp only [e30, e31, e32, e33] at p1x37
      try have q1x37 := congrArg Int32.toInt p1x37
      try simp only [e30, e31, e32, e33] at p2x37
      try have q2x37 := congrArg Int32.toInt p2x37
      try simp only [e30, e31, e32, e33] at p3x37
      try have q3x37 := congrArg Int32.toInt p3x37
      have hT1 := p3x37
      have hv0 : 0 ≤ x37.toInt := by (have t9 : x37.toInt = _ := p3x37); rw [t9]; exact Int.tmod_nonneg _ (Int.mul_nonneg (by omega) (by omega))
      refine k_istore C (lw := [(6, .int x37), (0, .ref r0), (1, .int n1), (2, .int n2), (3, .int n3), (4, .int x5), (5, .int x24)]) rfl rfl (Nat.le_of_ble_eq_true rfl) rfl ?_
      refine k_aload_n C rfl rfl rfl ?_
      refine k_iload_n C rfl rfl rfl ?_
      refine k_iload C rfl rfl rfl ?_
      refine k_iload C rfl rfl rfl ?_
      have q38 : n3.toNatClampNeg = 43 := nck (by omega)
      refine c_VV C (a_X12_put hI28 H_r0 (by omega) (by omega) (by omega) (by omega) (by omega) (by omega)) rfl rfl rfl rfl rfl ⟨_, rfl, rfl, T_r0, Nat.le_of_ble_eq_true rfl⟩ rfl rfl (Nat.le_of_ble_eq_true rfl) (Nat.le_of_ble_eq_true rfl) (Nat.le_of_ble_eq_true rfl) ?_
      rintro I40 L41 ⟨p0v39, p1v39, hI40, S42⟩
      have p0v39 := p0v39 r0_5 R_r0_5
      have p1v39 := p1v39 r0_5 R_r0_5
      try simp only [q38] at p1v39
      have F43 : ∀ r : Nat, (r < 41 * 40 ∨ 41 * 40 + 41 ≤ r) → (r < 41 * 43 ∨ 41 * 43 + 41 ≤ r) → I40 r0_5 r = I22 r0_5 r := fun r z0 z1 => p1v39 r (by first | exact z0 | exact z1)
      have e44 := CM.j S42 R_r0_4 (by decide) e30
      have e45 := CM.j S42 R_r0_4 (by decide) e31
      have e46 := CM.j S42 R_r0_1 (by decide) e32
      have e47 := CM.j S42 R_r0_4 (by decide) e33
      try simp only [q38, e30, e31, e32, e33] at p0v39
      try have q0v39 := congrArg Int32.toInt p0v39
      have hP1 := p0v39
      have hS65 := PUTD.sm (r := 40) hP1 (nclt (by omega) (by omega)) (by decide)
      have hE65 : ∀ i : Nat, (i : Int) < x24.toInt → RI I40 r0_5 43 i = E1 i := fun i hi => by (rw [← eE1]; exact RI.p hP1 (by have h9 := ncz (x := x24) (by omega); omega))
      have hW65 : RI I40 r0_5 43 x24.toNatClampNeg = x37.toInt := RI.w hP1
      refine z_iconst C (z := 0) rfl rfl rfl (fun x48 ex48 => ?_)
      have J49 : ∀ (nn50 : Nat) (I51 : IT) (L52 : LT) (x53 : Int32), (MN (41 - x53.toInt) nn50) → (IM R r0 I51) → (CM A R r0 [] [5] I40 L41 I51 L52) → (∀ r : Nat, (r < 41 * 40 ∨ 41 * 40 + 41 ≤ r) → (r < 41 * 43 ∨ 41 * 43 + 41 ≤ r) → I51 r0_5 r = I40 r0_5 r) → (0 ≤ x53.toInt) → (x53.toInt ≤ 41) → (AZ I51 r0_5 (41 * 40) x24.toInt) → (QN I51 r0_5 40 (w_r0_4_40.toInt + 1) w_r0_1_0.toInt) → (SMR I I51 r0_5 41) → (ROWK I51 r0_5 (41 * 40 + x24.toNatClampNeg) x53.toInt va) → (RSB I51 r0_5 F1 (RI I r0_5 41) w_r0_1_0.toInt w_r0_4_40.toInt x37.toInt x24.toInt x53.toInt) → (∀ i : Nat, (i : Int) < x24.toInt → RI I51 r0_5 43 i = E1 i) → (RI I51 r0_5 43 x24.toNatClampNeg = x37.toInt) → (x53.toInt ≤ w_r0_4_41.toInt + 1) → V 71 [(0, .ref r0), (1, .int n1), (2, .int n2), (3, .int n3), (4, .int x5), (5, .int x24), (6, .int x37), (7, .int x53)] [] (T, N, I51, L52, R) 0 0 := by
        intro nn50
        induction nn50 using Nat.strongRecOn with
        | _ nn50 ihJ49 =>
          intro I51 L52 x53 hmnn50 hI57 S56 F58 b54 b55 ff71_0 ff71_1 ff71_2 ff71_3 ff71_4 ff71_5 ff71_6 ff71_7
          have gx53 := rg x53
          have e59 := CM.j S56 R_r0_4 (by decide) e44
          have e60 := CM.j S56 R_r0_4 (by decide) e45
          have e61 := CM.j S56 R_r0_1 (by decide) e46
          have e62 := CM.j S56 R_r0_4 (by decide) e47
          refine k_iload C rfl rfl rfl ?_
          refine k_aload_n C rfl rfl rfl ?_
          refine g_R C rfl rfl rfl T_r0 rfl R_r0_4 ?_
          refine k_iload_n C rfl rfl rfl ?_
          refine a_I C rfl rfl T_r0_4 (by rw [N_r0_4]; exact vpi (by omega) (by omega)) ((congrArg (I51 r0_4) (nck (n := 41) (by omega))).trans e60) ?_
          refine b_icmp_gt C (t := 125) rfl rfl rfl (fun c63 => ?_) (fun c63 => ?_)
          · skip
            refine z_iinc C (z := 1) (lw := fun x64 => [(5, .int x64), (0, .ref r0), (1, .int n1), (2, .int n2), (3, .int n3), (4, .int x5), (6, .int x37), (7, .int x53)]) rfl rfl rfl (Nat.le_of_ble_eq_true rfl) rfl ⟨by omega, by omega⟩ (fun _ => rfl) (fun x64 ex64 => ?_)
            show V 128 [(5, .int x64), (0, .ref r0), (1, .int n1), (2, .int n2), (3, .int n3), (4, .int x5), (6, .int x37), (7, .int x53)] _ _ _ _
            refine k_goto C (pc2 := 33) rfl rfl ?_
            refine k_sub S [(0, .ref r0), (1, .int n1), (2, .int n2), (3, .int n3), (4, .int x5), (5, .int x64)] (List.forall_mem_cons.mpr ⟨List.mem_of_getElem? (i := 1) rfl, List.forall_mem_cons.mpr ⟨List.mem_of_getElem? (i := 2) rfl, List.forall_mem_cons.mpr ⟨List.mem_of_getElem? (i := 3) rfl, List.forall_mem_cons.mpr ⟨List.mem_of_getElem? (i := 4) rfl, List.forall_mem_cons.mpr ⟨List.mem_of_getElem? (i := 5) rfl, List.forall_mem_cons.mpr ⟨List.mem_of_getElem? (i := 0) rfl, fun _ h => nomatch h⟩⟩⟩⟩⟩⟩) ?_
            exact ihJ20 _ (MN.lt hmnn21 (by omega) (by omega)) I51 L52 x64 rfl hI57 (CM.cons S27 (CM.cons S42 (CM.mono S56 (by decide) (by decide)) (by decide) (by decide)) (by decide) (by decide)) (fun r z0 z1 => ((F58 r z0 z1).trans ((F43 r z0 z1).trans (F29 r z0 z1)))) (by omega) (by omega) (by exact AZ.row ff71_0 ff71_3 (by omega) (by omega) (by omega)) (by exact ff71_1) (by exact ff71_2) (by omega) (by exact (RSB.e (E := w_r0_4_41.toInt) ff71_4 (by omega) (by omega)).1) (by exact ff33_5.tr (SCD.sb (c := x37.toInt) (m := x24.toInt.toNat) (by omega) (by rw [eF1]; exact (RSB.e (E := w_r0_4_41.toInt) ff71_4 (by omega) (by omega)).2))) (by exact QEV.s (v := x37.toInt) ff33_6 (by rw [eE1]; exact ff71_5) ff71_6 ⟨by omega, by omega⟩ (by rw [eF1]; exact (RSB.e (E := w_r0_4_41.toInt) ff71_4 (by omega) (by omega)).2) (by omega) (by omega))
          refine k_aload_n C rfl rfl rfl ?_
          refine k_iload_n C rfl rfl rfl ?_
          refine k_iload C rfl rfl rfl ?_
          refine k_iload C rfl rfl rfl ?_
          refine z_iadd C rfl rfl ⟨by omega, by omega⟩ (fun x65 ex65 => ?_)
          refine k_aload_n C rfl rfl rfl ?_
          refine k_aload_n C rfl rfl rfl ?_
          refine k_iload_n C rfl rfl rfl ?_
          refine k_iload C rfl rfl rfl ?_
          refine k_iload C rfl rfl rfl ?_
          refine z_iadd C rfl rfl ⟨by omega, by omega⟩ (fun x66 ex66 => ?_)
          have q67 : n1.toNatClampNeg = 40 := nck (by omega)
          refine c_VI C (a_X12_of hI57 H_r0 (by omega) (by omega) (by omega) (by omega)) rfl rfl rfl rfl rfl ⟨_, rfl, rfl, T_r0, Nat.le_of_ble_eq_true rfl⟩ rfl rfl (Nat.le_of_ble_eq_true rfl) (Nat.le_of_ble_eq_true rfl) (Nat.le_of_ble_eq_true rfl) ?_
          rintro x68 _ _ ⟨o0x68, o1x68, p0x68, rfl, rfl⟩
          have p0x68 := p0x68 r0_5 R_r0_5
          have gx68 := rg x68
          try simp only [q67, e59, e60, e61, e62] at p0x68
          try have q0x68 := congrArg Int32.toInt p0x68
          have hO3 := p0x68
          refine k_aload_n C rfl rfl rfl ?_
          refine k_iload C rfl rfl rfl ?_
          refine k_aload_n C rfl rfl rfl ?_
          refine k_iload_n C rfl rfl rfl ?_
          refine k_iload C rfl rfl rfl ?_
          have q69 : n2.toNatClampNeg = 41 := nck (by omega)
          refine c_VI C (a_X12_of hI57 H_r0 (by omega) (by omega) (by omega) (by omega)) rfl rfl rfl rfl rfl ⟨_, rfl, rfl, T_r0, Nat.le_of_ble_eq_true rfl⟩ rfl rfl (Nat.le_of_ble_eq_true rfl) (Nat.le_of_ble_eq_true rfl) (Nat.le_of_ble_eq_true rfl) ?_
          rintro x70 _ _ ⟨o0x70, o1x70, p0x70, rfl, rfl⟩
          have p0x70 := p0x70 r0_5 R_r0_5
          have gx70 := rg x70
          try simp only [q69, e59, e60, e61, e62] at p0x70
          try have q0x70 := congrArg Int32.toInt p0x70
          have hO4 := p0x70
          have hb107 : x70.toInt = (RI I r0_5 41) x53.toNatClampNeg := by (rw [p0x70, ff71_2 _ (nclt (by omega) (by omega))]; rfl)
          have hb108 := hp5 x53.toNatClampNeg (by have h9 := ncz (x := x53) (by omega); omega)
          refine c_VI C (a_X12_times hI57 H_r0 (by omega) (by omega) (by omega) (by omega)) rfl rfl rfl rfl rfl ⟨_, rfl, rfl, T_r0, Nat.le_of_ble_eq_true rfl⟩ rfl rfl (Nat.le_of_ble_eq_true rfl) (Nat.le_of_ble_eq_true rfl) (Nat.le_of_ble_eq_true rfl) ?_
          rintro x71 _ _ ⟨o0x71, o1x71, p0x71, p1x71, p2x71, p3x71, rfl, rfl⟩
          have p0x71 := p0x71 r0_1 R_r0_1
          have p2x71 := p2x71 r0_1 R_r0_1
          have p3x71 := p3x71 r0_1 R_r0_1
          have gx71 := rg x71
          try simp only [e59, e60, e61, e62] at p0x71
          try have q0x71 := congrArg Int32.toInt p0x71
          try simp only [e59, e60, e61, e62] at p1x71
          try have q1x71 := congrArg Int32.toInt p1x71
          try simp only [e59, e60, e61, e62] at p2x71
          try have q2x71 := congrArg Int32.toInt p2x71
          try simp only [e59, e60, e61, e62] at p3x71
          try have q3x71 := congrArg Int32.toInt p3x71
          have hT2 := p3x71
          refine c_VI C (a_X12_less hI57 H_r0 (by omega) (by omega) (by omega) (by omega)) rfl rfl rfl rfl rfl ⟨_, rfl, rfl, T_r0, Nat.le_of_ble_eq_true rfl⟩ rfl rfl (Nat.le_of_ble_eq_true rfl) (Nat.le_of_ble_eq_true rfl) (Nat.le_of_ble_eq_true rfl) ?_
          rintro x72 _ _ ⟨o0x72, o1x72, p0x72, p1x72, p2x72, p3x72, rfl, rfl⟩
          have p0x72 := p0x72 r0_1 R_r0_1
          have p2x72 := p2x72 r0_1 R_r0_1
          have p3x72 := p3x72 r0_1 R_r0_1
          have gx72 := rg x72
          try simp only [e59, e60, e61, e62] at p0x72
          try have q0x72 := congrArg Int32.toInt p0x72
          try simp only [e59, e60, e61, e62] at p1x72
          try have q1x72 := congrArg Int32.toInt p1x72
          try simp only [e59, e60, e61, e62] at p2x72
          try have q2x72 := congrArg Int32.toInt p2x72
          try simp only [e59, e60, e61, e62] at p3x72
          try have q3x72 := congrArg Int32.toInt p3x72
          have hx0 := fun (hi : x53.toInt = 0) => div0 (by omega) ff71_3 ff71_2 hi (by omega) (by omega) hO3 hO4 hvb hinv (by rw [hva, hvl]; exact hT1) hT2 p3x72
          have hLS := p3x72
          have q73 : n1.toNatClampNeg = 40 := nck (by omega)
          refine c_VV C (a_X12_put hI57 H_r0 (by omega) (by omega) (by omega) (by omega) (by omega) (by omega)) rfl rfl rfl rfl rfl ⟨_, rfl, rfl, T_r0, Nat.le_of_ble_eq_true rfl⟩ rfl rfl (Nat.le_of_ble_eq_true rfl) (Nat.le_of_ble_eq_true rfl) (Nat.le_of_ble_eq_true rfl) ?_
          rintro I75 L76 ⟨p0v74, p1v74, hI75, S77⟩
          have p0v74 := p0v74 r0_5 R_r0_5
          have p1v74 := p1v74 r0_5 R_r0_5
          try simp only [q73] at p1v74
          have F78 : ∀ r : Nat, (r < 41 * 40 ∨ 41 * 40 + 41 ≤ r) → (r < 41 * 43 ∨ 41 * 43 + 41 ≤ r) → I75 r0_5 r = I51 r0_5 r := fun r z0 z1 => p1v74 r (by first | exact z0 | exact z1)
          have e79 := CM.j S77 R_r0_4 (by decide) e59
          have e80 := CM.j S77 R_r0_4 (by decide) e60
          have e81 := CM.j S77 R_r0_1 (by decide) e61
          have e82 := CM.j S77 R_r0_4 (by decide) e62
          try simp only [q73, e59, e60, e61, e62] at p0v74
          try have q0v74 := congrArg Int32.toInt p0v74
          have hP := p0v74
          refine z_iinc C (z := 1) (lw := fun x83 => [(7, .int x83), (0, .ref r0), (1, .int n1), (2, .int n2), (3, .int n3), (4, .int x5), (5, .int x24), (6, .int x37)]) rfl rfl rfl (Nat.le_of_ble_eq_true rfl) rfl ⟨by omega, by omega⟩ (fun _ => rfl) (fun x83 ex83 => ?_)
          show V 122 [(7, .int x83), (0, .ref r0), (1, .int n1), (2, .int n2), (3, .int n3), (4, .int x5), (5, .int x24), (6, .int x37)] _ _ _ _
          refine k_goto C (pc2 := 71) rfl rfl ?_
          refine k_sub S [(0, .ref r0), (1, .int n1), (2, .int n2), (3, .int n3), (4, .int x5), (5, .int x24), (6, .int x37), (7, .int x83)] (List.forall_mem_cons.mpr ⟨List.mem_of_getElem? (i := 1) rfl, List.forall_mem_cons.mpr ⟨List.mem_of_getElem? (i := 2) rfl, List.forall_mem_cons.mpr ⟨List.mem_of_getElem? (i := 3) rfl, List.forall_mem_cons.mpr ⟨List.mem_of_getElem? (i := 4) rfl, List.forall_mem_cons.mpr ⟨List.mem_of_getElem? (i := 5) rfl, List.forall_mem_cons.mpr ⟨List.mem_of_getElem? (i := 6) rfl, List.forall_mem_cons.mpr ⟨List.mem_of_getElem? (i := 7) rfl, List.forall_mem_cons.mpr ⟨List.mem_of_getElem? (i := 0) rfl, fun _ h => nomatch h⟩⟩⟩⟩⟩⟩⟩⟩) ?_
          exact ihJ49 _ (MN.lt hmnn50 (by omega) (by omega)) I75 L76 x83 rfl hI75 (CM.cons S56 (CM.mono S77 (by decide) (by decide)) (by decide) (by decide)) (fun r z0 z1 => ((F78 r z0 z1).trans (F58 r z0 z1))) (by omega) (by omega) (by exact AZ.put ff71_0 hP (by omega) (by omega)) (by exact QN.put ff71_1 hP (by omega) (by omega)) (by exact SMR.put ff71_2 hP (nclt (by omega) (by omega)) (by decide)) (by exact ROWK.s ff71_3 hP (by omega) hx0 (by omega) (by omega) (by omega)) (by exact RSB.s ff71_4 hO3 hb107 (by omega) hv0 hT2 hLS hP (by omega) (by omega) (by omega) (by omega) (by omega) (by omega) (by omega)) (by exact fun i hi => (RI.s (PUTD.sm (r := 43) hP (nclt (by omega) (by omega)) (by decide)) (by omega)).trans (ff71_5 i hi)) (by exact (RI.s (PUTD.sm (r := 43) hP (nclt (by omega) (by omega)) (by decide)) (nclt (by omega) (by omega))).trans ff71_6) (by omega)
      refine k_istore C (lw := [(7, .int x48), (6, .int x37), (0, .ref r0), (1, .int n1), (2, .int n2), (3, .int n3), (4, .int x5), (5, .int x24)]) rfl rfl (Nat.le_of_ble_eq_true rfl) rfl ?_
      refine k_sub S [(0, .ref r0), (1, .int n1), (2, .int n2), (3, .int n3), (4, .int x5), (5, .int x24), (6, .int x37), (7, .int x48)] (List.forall_mem_cons.mpr ⟨List.mem_of_getElem? (i := 2) rfl, List.forall_mem_cons.mpr ⟨List.mem_of_getElem? (i := 3) rfl, List.forall_mem_cons.mpr ⟨List.mem_of_getElem? (i := 4) rfl, List.forall_mem_cons.mpr ⟨List.mem_of_getElem? (i := 5) rfl, List.forall_mem_cons.mpr ⟨List.mem_of_getElem? (i := 6) rfl, List.forall_mem_cons.mpr ⟨List.mem_of_getElem? (i := 7) rfl, List.forall_mem_cons.mpr ⟨List.mem_of_getElem? (i := 1) rfl, List.forall_mem_cons.mpr ⟨List.mem_of_getElem? (i := 0) rfl, fun _ h => nomatch h⟩⟩⟩⟩⟩⟩⟩⟩) ?_
      exact J49 _ I40 L41 x48 rfl hI40 CM.rf (fun r z0 z1 => rfl) (by omega) (by omega) (by exact AZ.put43 ff33_0 hP1 (by omega)) (by exact QN.put ff33_1 hP1 (by omega) (by omega)) (by exact SMR.put ff33_2 hP1 (by have := ncz (x := x24) (by omega); omega) (by decide)) (by exact ROWK.z hP1 (by omega) (by omega) hO2 hva (by omega)) (by exact RSB.z ff33_4 eF1 hS65 (by omega) (by omega)) (by exact hE65) (by exact hW65) (by omega)
  refine k_istore C (lw := [(5, .int x19), (4, .int x5), (0, .ref r0), (1, .int n1), (2, .int n2), (3, .int n3)]) rfl rfl (Nat.le_of_ble_eq_true rfl) rfl ?_
  refine k_sub S [(0, .ref r0), (1, .int n1), (2, .int n2), (3, .int n3), (4, .int x5), (5, .int x19)] (List.forall_mem_cons.mpr ⟨List.mem_of_getElem? (i := 2) rfl, List.forall_mem_cons.mpr ⟨List.mem_of_getElem? (i := 3) rfl, List.forall_mem_cons.mpr ⟨List.mem_of_getElem? (i := 4) rfl, List.forall_mem_cons.mpr ⟨List.mem_of_getElem? (i := 5) rfl, List.forall_mem_cons.mpr ⟨List.mem_of_getElem? (i := 1) rfl, List.forall_mem_cons.mpr ⟨List.mem_of_getElem? (i := 0) rfl, fun _ h => nomatch h⟩⟩⟩⟩⟩⟩) ?_
  exact J20 _ I9 L10 x19 rfl hI9 CM.rf (fun r z0 z1 => rfl) (by omega) (by omega) (by exact AZ.z (by omega)) (by exact QN.smr hp3 hS40 (by omega)) (by exact hS41) (by omega) (by exact hRC) (by exact SCD.rf.cg rfl rfl (fun k hk => RI.s hS40 (by omega)) (fun _ _ => rfl)) (by exact QEV.z (fun j hj => RI.s hS40 (by omega)) (by omega))

set_option maxHeartbeats 8000000 in
theorem a_X12_commons_x {d : Nat} {T N : Nat → Nat} {I : IT} {L : LT} {R : RT} {A : Nat → Prop} {r0 : Nat} (hI : IM R r0 I) (H_r0 : (h_MD T N R A) r0) (hp0 : ∀ a4, R r0 4 = some a4 → (I a4 40).toInt ≤ 8) (hp1 : ∀ a4, R r0 4 = some a4 → (I a4 41).toInt ≤ 8) (hp2 : ∀ a4 a5, R r0 4 = some a4 → R r0 5 = some a5 → NZ I a5 40 (I a4 40).toInt) (hp3 : ∀ a4 a5, R r0 4 = some a4 → R r0 5 = some a5 → NZ I a5 41 (I a4 41).toInt) (hp4 : ∀ a1 a4 a5, R r0 1 = some a1 → R r0 4 = some a4 → R r0 5 = some a5 → QN I a5 40 ((I a4 40).toInt + 1) (I a1 0).toInt) (hp5 : ∀ a1 a4 a5, R r0 1 = some a1 → R r0 4 = some a4 → R r0 5 = some a5 → QN I a5 41 ((I a4 41).toInt + 1) (I a1 0).toInt) (hp6 : ∀ a1 a4 a5, R r0 1 = some a1 → R r0 4 = some a4 → R r0 5 = some a5 → RCN I a5 40 (I a1 0).toInt (I a4 40).toInt) (hp7 : ∀ a1 a4 a5, R r0 1 = some a1 → R r0 4 = some a4 → R r0 5 = some a5 → RCN I a5 41 (I a1 0).toInt (I a4 41).toInt) : Ex (d + 6) 290 [.ref r0] (T, N, I, L, R) 0 0 (pV T N R (fun I9 L9 => (∀ a1 a4 a5, R r0 1 = some a1 → R r0 4 = some a4 → R r0 5 = some a5 → COM (I a1 0).toInt (RI I a5 40) (I a4 40).toInt (RI I a5 41) (I a4 41).toInt (RI I9 a5 40) (I9 a4 40).toInt) ∧ (IM R r0 I9 ∧ CM A R r0 [] [4, 5] I L I9 L9))) := by
  refine ⟨_, rfl, Nat.le_of_ble_eq_true rfl, fun V C S => ?_⟩
  show V 0 [(0, .ref r0)] [] (T, N, I, L, R) 0 0
  obtain ⟨T_r0, A_r0, ⟨r0_1, R_r0_1, H_r0_1⟩, ⟨r0_2, R_r0_2, H_r0_2⟩, ⟨r0_4, R_r0_4, H_r0_4⟩, ⟨r0_5, R_r0_5, H_r0_5⟩, ⟨r0_10, R_r0_10, H_r0_10⟩, ⟨r0_18, R_r0_18, H_r0_18⟩, ⟨r0_20, R_r0_20, H_r0_20⟩, ⟨r0_21, R_r0_21, H_r0_21⟩, ⟨r0_22, R_r0_22, H_r0_22⟩, ⟨r0_23, R_r0_23, H_r0_23⟩, ⟨r0_25, R_r0_25, H_r0_25⟩, ⟨r0_26, R_r0_26, H_r0_26⟩, ⟨r0_27, R_r0_27, H_r0_27⟩, ⟨r0_28, R_r0_28, H_r0_28⟩, ⟨r0_34, R_r0_34, H_r0_34⟩, J_r0, Y_r0⟩ := id H_r0
  have G_r0 : mF T R r0 := ⟨J_r0, Y_r0, T_r0⟩
  obtain ⟨w_r0_4_40, k0_r0_4_40⟩ : ∃ x, I r0_4 40 = x := ⟨_, rfl⟩
  have gw_r0_4_40 := rg w_r0_4_40
  have ow_r0_4_40 := IM.dgR hI R_r0_4 k0_r0_4_40
  obtain ⟨w_r0_4_41, k0_r0_4_41⟩ : ∃ x, I r0_4 41 = x := ⟨_, rfl⟩
  have gw_r0_4_41 := rg w_r0_4_41
  have ow_r0_4_41 := IM.dgR hI R_r0_4 k0_r0_4_41
  obtain ⟨w_r0_1_0, k0_r0_1_0⟩ : ∃ x, I r0_1 0 = x := ⟨_, rfl⟩
  have gw_r0_1_0 := rg w_r0_1_0
  have ow_r0_1_0 := IM.pi hI R_r0_1 k0_r0_1_0
  have hp0 := hp0 r0_4 R_r0_4
  have hp1 := hp1 r0_4 R_r0_4
  have hp2 := hp2 r0_4 r0_5 R_r0_4 R_r0_5
  have hp3 := hp3 r0_4 r0_5 R_r0_4 R_r0_5
  have hp4 := hp4 r0_1 r0_4 r0_5 R_r0_1 R_r0_4 R_r0_5
  have hp5 := hp5 r0_1 r0_4 r0_5 R_r0_1 R_r0_4 R_r0_5
  have hp6 := hp6 r0_1 r0_4 r0_5 R_r0_1 R_r0_4 R_r0_5
  have hp7 := hp7 r0_1 r0_4 r0_5 R_r0_1 R_r0_4 R_r0_5
  try simp only [k0_r0_4_40, k0_r0_4_41, k0_r0_1_0] at hp0
  try simp only [k0_r0_4_40, k0_r0_4_41, k0_r0_1_0] at hp1
  try simp only [k0_r0_4_40, k0_r0_4_41, k0_r0_1_0] at hp2
  try simp only [k0_r0_4_40, k0_r0_4_41, k0_r0_1_0] at hp3
  try simp only [k0_r0_4_40, k0_r0_4_41, k0_r0_1_0] at hp4
  try simp only [k0_r0_4_40, k0_r0_4_41, k0_r0_1_0] at hp5
  try simp only [k0_r0_4_40, k0_r0_4_41, k0_r0_1_0] at hp6
  try simp only [k0_r0_4_40, k0_r0_4_41, k0_r0_1_0] at hp7
  refine k_aload_n C rfl rfl rfl ?_
  refine z_bipush C (z := 40) rfl rfl rfl (fun x1 ex1 => ?_)
  have q2 : x1.toNatClampNeg = 40 := nck (by omega)
  refine c_VI C (a_X12_strips_x hI H_r0 (by omega) (by omega) (fun a4 a5 h4 h5 => by cases (R_r0_4.symm.trans h4); cases (R_r0_5.symm.trans h5); simp only [q2, k0_r0_4_40, k0_r0_4_41, k0_r0_1_0]; exact hp2)) rfl rfl rfl rfl rfl ⟨_, rfl, rfl, T_r0, Nat.le_of_ble_eq_true rfl⟩ rfl rfl (Nat.le_of_ble_eq_true rfl) (Nat.le_of_ble_eq_true rfl) (Nat.le_of_ble_eq_true rfl) ?_
  rintro x3 I4 L5 ⟨p0x3, p1x3, p2x3, p3x3, p4x3, p5x3, p6x3, hI4, S6⟩
  have p0x3 := p0x3 r0_4 R_r0_4
  have p1x3 := p1x3 r0_4 R_r0_4
  have p2x3 := p2x3 r0_5 R_r0_5
  have p3x3 := p3x3 r0_4 r0_5 R_r0_4 R_r0_5
  have p4x3 := p4x3 r0_5 R_r0_5
  have p5x3 := p5x3 r0_4 R_r0_4
  have p6x3 := p6x3 r0_5 R_r0_5
  try simp only [q2] at p5x3
  try simp only [q2] at p6x3
  have e8 := (p5x3 41 (by first | decide | exact ncne (by omega) (by omega) (by omega) | exact nckn (by omega) (by omega) | exact (nckn (by omega) (by omega)).symm)).trans k0_r0_4_41
  have e9 := CM.j S6 R_r0_1 (by decide) k0_r0_1_0
  have gx3 := rg x3
  obtain ⟨x10, e11⟩ : ∃ x, I4 r0_4 40 = x := ⟨_, rfl⟩
  have gx10 := rg x10
  have ox10 := IM.dgR hI4 R_r0_4 e11
  try simp only [q2, k0_r0_4_40, k0_r0_4_41, k0_r0_1_0, e11] at p0x3
  try have q0x3 := congrArg Int32.toInt p0x3
  try simp only [q2, k0_r0_4_40, k0_r0_4_41, k0_r0_1_0, e11] at p1x3
  try have q1x3 := congrArg Int32.toInt p1x3
  try simp only [q2, k0_r0_4_40, k0_r0_4_41, k0_r0_1_0, e11] at p2x3
  try have q2x3 := congrArg Int32.toInt p2x3
  try simp only [q2, k0_r0_4_40, k0_r0_4_41, k0_r0_1_0, e11] at p3x3
  try have q3x3 := congrArg Int32.toInt p3x3
  try simp only [q2, k0_r0_4_40, k0_r0_4_41, k0_r0_1_0, e11] at p4x3
  try have q4x3 := congrArg Int32.toInt p4x3
  have hA := QN.st hp4 p3x3 (by omega)
  have nA := STP.ne p3x3 p2x3 (by omega) (by omega)
  have hB := QN.sm hp5 (fun k hk => p6x3 _ (by omega)) (by omega)
  have zB := NZ.sm hp3 (fun k hk => p6x3 _ (by omega)) (by omega)
  obtain ⟨a9, ea9⟩ : ∃ a : Nat, a = x3.toNatClampNeg := ⟨_, rfl⟩
  have ha9 : (a9 : Int) = x3.toInt := by (rw [ea9]; exact ncz (by omega))
  have hFA := STP.f p3x3 p4x3 p2x3 (by omega) (by omega)
  rw [← ea9] at hFA
  have hm3 : SMR I I4 r0_5 41 := fun k hk => p6x3 _ (by omega)
  have rA3 : RWF I4 r0_5 40 (w_r0_4_40.toInt - a9) (fun k => RI I r0_5 40 (a9 + k)) := fun k hk => by (have q9 := STP.r (k := k) p3x3 (by omega); rw [← ea9] at q9; exact q9)
  refine z_bipush C (z := 99) rfl rfl rfl (fun x12 ex12 => ?_)
  have q13 : x12.toNatClampNeg = 99 := nck (by omega)
  refine c_SI C a_J9_min_7cf53_m rfl rfl rfl rfl rfl rfl rfl (Nat.le_of_ble_eq_true rfl) (Nat.le_of_ble_eq_true rfl) (Nat.le_of_ble_eq_true rfl) ?_
  rintro x14 _ _ ⟨p0x14, p1x14, p2x14, rfl, rfl⟩
  have gx14 := rg x14
  try simp only [q13, e8, e9, e11] at p0x14
  try have q0x14 := congrArg Int32.toInt p0x14
  try simp only [q13, e8, e9, e11] at p1x14
  try have q1x14 := congrArg Int32.toInt p1x14
  try simp only [q13, e8, e9, e11] at p2x14
  try have q2x14 := congrArg Int32.toInt p2x14
  have hy8 := p2x14
  have hy80 := p0x14
  have hy81 := p1x14
  refine k_istore_n C (lw := [(1, .int x14), (0, .ref r0)]) rfl rfl (Nat.le_of_ble_eq_true rfl) rfl ?_
  refine k_iload_n C rfl rfl rfl ?_
  refine k_aload_n C rfl rfl rfl ?_
  refine z_bipush C (z := 41) rfl rfl rfl (fun x15 ex15 => ?_)
  have q16 : x15.toNatClampNeg = 41 := nck (by omega)
  refine c_VI C (a_X12_strips_x hI4 H_r0 (by omega) (by omega) (fun a4 a5 h4 h5 => by cases (R_r0_4.symm.trans h4); cases (R_r0_5.symm.trans h5); simp only [q16, e8, e9, e11]; exact zB)) rfl rfl rfl rfl rfl ⟨_, rfl, rfl, T_r0, Nat.le_of_ble_eq_true rfl⟩ rfl rfl (Nat.le_of_ble_eq_true rfl) (Nat.le_of_ble_eq_true rfl) (Nat.le_of_ble_eq_true rfl) ?_
  rintro x17 I18 L19 ⟨p0x17, p1x17, p2x17, p3x17, p4x17, p5x17, p6x17, hI18, S20⟩
  have p0x17 := p0x17 r0_4 R_r0_4
  have p1x17 := p1x17 r0_4 R_r0_4
  have p2x17 := p2x17 r0_5 R_r0_5
  have p3x17 := p3x17 r0_4 r0_5 R_r0_4 R_r0_5
  have p4x17 := p4x17 r0_5 R_r0_5
  have p5x17 := p5x17 r0_4 R_r0_4
  have p6x17 := p6x17 r0_5 R_r0_5
  try simp only [q16] at p5x17
  try simp only [q16] at p6x17
  have e22 := CM.j S20 R_r0_1 (by decide) e9
  have e23 := (p5x17 40 (by first | decide | exact ncne (by omega) (by omega) (by omega) | exact nckn (by omega) (by omega) | exact (nckn (by omega) (by omega)).symm)).trans e11
  have gx17 := rg x17
  obtain ⟨x24, e25⟩ : ∃ x, I18 r0_4 41 = x := ⟨_, rfl⟩
  have gx24 := rg x24
  have ox24 := IM.dgR hI18 R_r0_4 e25
  try simp only [q16, e8, e9, e11, e25] at p0x17
  try have q0x17 := congrArg Int32.toInt p0x17
  try simp only [q16, e8, e9, e11, e25] at p1x17
  try have q1x17 := congrArg Int32.toInt p1x17
  try simp only [q16, e8, e9, e11, e25] at p2x17
  try have q2x17 := congrArg Int32.toInt p2x17
  try simp only [q16, e8, e9, e11, e25] at p3x17
  try have q3x17 := congrArg Int32.toInt p3x17
  try simp only [q16, e8, e9, e11, e25] at p4x17
  try have q4x17 := congrArg Int32.toInt p4x17
  have hB := QN.st hB p3x17 (by omega)
  have nB := STP.ne p3x17 p2x17 (by omega) (by omega)
  have hA := QN.sm hA (fun k hk => p6x17 _ (by omega)) (by omega)
  have nA := NE1.smr nA (fun k hk => p6x17 _ (by omega))
  obtain ⟨b9, eb9⟩ : ∃ a : Nat, a = x17.toNatClampNeg := ⟨_, rfl⟩
  have hb9 : (b9 : Int) = x17.toInt := by (rw [eb9]; exact ncz (by omega))
  have hFB0 := STP.f p3x17 p4x17 p2x17 (by omega) (by omega)
  rw [← eb9] at hFB0
  have hFB : FST (RI I r0_5 41) b9 w_r0_4_41.toInt := hFB0.cg (fun k hk => (RI.s hm3 (by omega)).symm)
  have rB16 : RWF I18 r0_5 41 (w_r0_4_41.toInt - b9) (fun k => RI I r0_5 41 (b9 + k)) := fun k hk => by (have q9 := STP.r (k := k) p3x17 (by omega); rw [← eb9, RI.s hm3 (by omega)] at q9; exact q9)
  have rA16 := RWF.sm rA3 (fun k hk => p6x17 _ (by omega)) (by omega)
  refine c_SI C a_J9_min_7cf53_m rfl rfl rfl rfl rfl rfl rfl (Nat.le_of_ble_eq_true rfl) (Nat.le_of_ble_eq_true rfl) (Nat.le_of_ble_eq_true rfl) ?_
  rintro x26 _ _ ⟨p0x26, p1x26, p2x26, rfl, rfl⟩
  have gx26 := rg x26
  try simp only [e22, e23, e25] at p0x26
  try have q0x26 := congrArg Int32.toInt p0x26
  try simp only [e22, e23, e25] at p1x26
  try have q1x26 := congrArg Int32.toInt p1x26
  try simp only [e22, e23, e25] at p2x26
  try have q2x26 := congrArg Int32.toInt p2x26
  have hy19 := p2x26
  have hy190 := p0x26
  have hy191 := p1x26
  refine k_istore_n C (lw := [(1, .int x26), (0, .ref r0)]) rfl rfl (Nat.le_of_ble_eq_true rfl) rfl ?_
  refine z_iconst C (z := 1) rfl rfl rfl (fun x27 ex27 => ?_)
  have J28 : ∀ (nn29 : Nat) (I30 : IT) (L31 : LT) (x32 : Int32) (x37 : Int32) (x41 : Int32), (MN (2 * min x37.toInt x41.toInt + x32.toInt) nn29) → (IM R r0 I30) → (CM A R r0 [] [4, 5] I18 L19 I30 L31) → (0 ≤ x32.toInt) → (x32.toInt ≤ 1) → (I30 r0_4 40 = x37) → (0 ≤ x37.toInt) → (x37.toInt ≤ 8) → (I30 r0_4 41 = x41) → (0 ≤ x41.toInt) → (x41.toInt ≤ 8) → (QN I30 r0_5 40 (x37.toInt + 1) w_r0_1_0.toInt) → (QN I30 r0_5 41 (x41.toInt + 1) w_r0_1_0.toInt) → (GN I30 r0_5 (41 * 40) x32.toInt) → (GN I30 r0_5 (41 * 41) x32.toInt) → (SCD w_r0_1_0.toInt (fun k => RI I r0_5 40 (a9 + k)) (w_r0_4_40.toInt - a9) (fun k => RI I r0_5 41 (b9 + k)) (w_r0_4_41.toInt - b9) (RI I30 r0_5 40) x37.toInt (RI I30 r0_5 41) x41.toInt) → (RCN I30 r0_5 40 w_r0_1_0.toInt x37.toInt) → (RCN I30 r0_5 41 w_r0_1_0.toInt x41.toInt) → (NE0 (RI I30 r0_5 41 0)) → (x32.toInt = 0 → ∀ k : Nat, (k : Int) ≤ x37.toInt → RI I30 r0_5 40 k = 0) → V 25 [(0, .ref r0), (1, .int x26), (2, .int x32)] [] (T, N, I30, L31, R) 0 0 := by
    intro nn29
    induction nn29 using Nat.strongRecOn with
    | _ nn29 ihJ28 =>
      intro I30 L31 x32 x37 x41 hmnn29 hI36 S35 b33 b34 e38 b39 b40 e42 b43 b44 ff25_0 ff25_1 ff25_2 ff25_3 ff25_4 ff25_5 ff25_6 ff25_7 ff25_8
      have gx32 := rg x32
      have gx37 := rg x37
      have gx41 := rg x41
      have e45 := CM.j S35 R_r0_1 (by decide) e22
      refine k_iload_n C rfl rfl rfl ?_
      refine b_if_eq C (t := 128) rfl rfl rfl (fun c46 => ?_) (fun c46 => ?_)
      · skip
        have cZ := ff25_8 (by omega)
        refine k_aload_n C rfl rfl rfl ?_
        refine k_aload_n C rfl rfl rfl ?_
        refine z_bipush C (z := 41) rfl rfl rfl (fun x47 ex47 => ?_)
        refine z_iconst C (z := 0) rfl rfl rfl (fun x48 ex48 => ?_)
        have q49 : x47.toNatClampNeg = 41 := nck (by omega)
        have q50 : x48.toNatClampNeg = 0 := nck (by omega)
        refine c_VI C (a_X12_of hI36 H_r0 (by omega) (by omega) (by omega) (by omega)) rfl rfl rfl rfl rfl ⟨_, rfl, rfl, T_r0, Nat.le_of_ble_eq_true rfl⟩ rfl rfl (Nat.le_of_ble_eq_true rfl) (Nat.le_of_ble_eq_true rfl) (Nat.le_of_ble_eq_true rfl) ?_
        rintro x51 _ _ ⟨o0x51, o1x51, p0x51, rfl, rfl⟩
        have p0x51 := p0x51 r0_5 R_r0_5
        have gx51 := rg x51
        try simp only [q49, q50, e45, e38, e42] at p0x51
        try have q0x51 := congrArg Int32.toInt p0x51
        have ho133 : x51.toInt = RI I30 r0_5 41 0 := p0x51
        have hne133 : x51.toInt ≠ 0 := (by have h9 : RI I30 r0_5 41 0 ≠ 0 := ff25_7; rw [ho133]; exact h9)
        have hc133 := ff25_6 0 (by omega)
        refine c_VI C (a_X12_inverse_x hI36 H_r0 (by omega) (by omega)) rfl rfl rfl rfl rfl ⟨_, rfl, rfl, T_r0, Nat.le_of_ble_eq_true rfl⟩ rfl rfl (Nat.le_of_ble_eq_true rfl) (Nat.le_of_ble_eq_true rfl) (Nat.le_of_ble_eq_true rfl) ?_
        rintro x52 _ _ ⟨o0x52, o1x52, p0x52, p1x52, rfl, rfl⟩
        have p0x52 := p0x52 r0_1 R_r0_1
        have gx52 := rg x52
        try simp only [e45, e38, e42] at p0x52
        try have q0x52 := congrArg Int32.toInt p0x52
        try simp only [e45, e38, e42] at p1x52
        try have q1x52 := congrArg Int32.toInt p1x52
        have hiv := p0x52 (by omega) (by omega) (by omega)
        have hi0 := p1x52 (by omega)
        have hov := PmE.iv hiv ho133 (by omega)
        refine k_istore_n C (lw := [(3, .int x52), (0, .ref r0), (1, .int x26), (2, .int x32)]) rfl rfl (Nat.le_of_ble_eq_true rfl) rfl ?_
        refine k_aload_n C rfl rfl rfl ?_
        refine z_bipush C (z := 40) rfl rfl rfl (fun x53 ex53 => ?_)
        refine k_aload_n C rfl rfl rfl ?_
        refine g_R C rfl rfl rfl T_r0 rfl R_r0_4 ?_
        refine z_bipush C (z := 41) rfl rfl rfl (fun x54 ex54 => ?_)
        obtain ⟨T_r0_4, N_r0_4, A_r0_4⟩ := id H_r0_4
        refine a_I C rfl rfl T_r0_4 (by rw [N_r0_4]; exact vpi (by omega) (by omega)) ((congrArg (I30 r0_4) (nck (n := 41) (by omega))).trans e42) ?_
        refine k_iload_n C rfl rfl rfl ?_
        refine z_iadd C rfl rfl ⟨by omega, by omega⟩ (fun x55 ex55 => ?_)
        have q56 : x53.toNatClampNeg = 40 := nck (by omega)
        refine c_VV C (a_X12_clears hI36 H_r0 (by omega) (by omega) (by omega) (by omega)) rfl rfl rfl rfl rfl ⟨_, rfl, rfl, T_r0, Nat.le_of_ble_eq_true rfl⟩ rfl rfl (Nat.le_of_ble_eq_true rfl) (Nat.le_of_ble_eq_true rfl) (Nat.le_of_ble_eq_true rfl) ?_
        rintro I58 L59 ⟨p0v57, p1v57, p2v57, p3v57, hI58, S60⟩
        have p0v57 := p0v57 r0_4 R_r0_4
        have p1v57 := p1v57 r0_5 R_r0_5
        have p2v57 := p2v57 r0_4 R_r0_4
        have p3v57 := p3v57 r0_5 R_r0_5
        try simp only [q56] at p2v57
        try simp only [q56] at p3v57
        have e61 := CM.j S60 R_r0_1 (by decide) e45
        have e63 := (p2v57 41 (by first | decide | exact ncne (by omega) (by omega) (by omega) | exact nckn (by omega) (by omega) | exact (nckn (by omega) (by omega)).symm)).trans e42
        obtain ⟨x64, e65⟩ : ∃ x, I58 r0_4 40 = x := ⟨_, rfl⟩
        have gx64 := rg x64
        have ox64 := IM.dgR hI58 R_r0_4 e65
        try simp only [q56, e45, e38, e42, e65] at p0v57
        try have q0v57 := congrArg Int32.toInt p0v57
        try simp only [q56, e45, e38, e42, e65] at p1v57
        try have q1v57 := congrArg Int32.toInt p1v57
        have hz152 := p1v57
        have hs152 : SMR _ I58 r0_5 41 := fun k hk => p3v57 _ (by omega)
        have cF := SCD.cg ff25_4 rfl rfl (fun _ _ => rfl) (fun k hk => RI.s hs152 (by omega))
        have hbB : ∀ k : Nat, (k : Int) ≤ x41.toInt → 0 ≤ RI I58 r0_5 41 k ∧ RI I58 r0_5 41 k < w_r0_1_0.toInt := fun k hk => by (rw [RI.s hs152 (by omega)]; exact ff25_6 k hk)
        rw [← RI.s hs152 (by omega)] at hov
        obtain ⟨B9, eB9⟩ : ∃ f : Nat → Int, RI I58 r0_5 41 = f := ⟨_, rfl⟩
        try rw [eB9] at cF
        try rw [eB9] at hbB
        try rw [eB9] at hov
        refine z_iconst C (z := 0) rfl rfl rfl (fun x66 ex66 => ?_)
        have J67 : ∀ (nn68 : Nat) (I69 : IT) (L70 : LT) (x71 : Int32), (MN (41 - x71.toInt) nn68) → (IM R r0 I69) → (CM A R r0 [] [5] I58 L59 I69 L70) → (0 ≤ x71.toInt) → (x71.toInt ≤ 41) → (COR I69 r0_5 x26.toInt B9 x52.toInt w_r0_1_0.toInt x41.toInt x71.toInt) → (∀ k : Nat, (k : Int) ≤ x41.toInt → RI I69 r0_5 41 k = B9 k) → (x71.toInt ≤ x41.toInt + 1) → V 158 [(0, .ref r0), (1, .int x26), (3, .int x52), (4, .int x71)] [] (T, N, I69, L70, R) 0 0 := by
          intro nn68
          induction nn68 using Nat.strongRecOn with
          | _ nn68 ihJ67 =>
            intro I69 L70 x71 hmnn68 hI75 S74 b72 b73 ff158_0 ff158_1 ff158_2
            have gx71 := rg x71
            have e76 := CM.j S74 R_r0_1 (by decide) e61
            have e77 := CM.j S74 R_r0_4 (by decide) e63
            have e78 := CM.j S74 R_r0_4 (by decide) e65
            refine k_iload C rfl rfl rfl ?_
            refine k_aload_n C rfl rfl rfl ?_
            refine g_R C rfl rfl rfl T_r0 rfl R_r0_4 ?_
            refine z_bipush C (z := 41) rfl rfl rfl (fun x79 ex79 => ?_)
            refine a_I C rfl rfl T_r0_4 (by rw [N_r0_4]; exact vpi (by omega) (by omega)) ((congrArg (I69 r0_4) (nck (n := 41) (by omega))).trans e77) ?_
            refine b_icmp_gt C (t := 199) rfl rfl rfl (fun c80 => ?_) (fun c80 => ?_)
            · skip
              exact k_vret C rfl rfl (Nat.le_of_ble_eq_true rfl) (Nat.le_of_ble_eq_true rfl) ⟨_, _, rfl, rfl, fun a1 a4 a5 h1 h4 h5 => by cases (R_r0_1.symm.trans h1); cases (R_r0_4.symm.trans h4); cases (R_r0_5.symm.trans h5); rw [e78]; simp only [k0_r0_4_40, k0_r0_4_41, k0_r0_1_0]; exact COM.or hFA hFB cF cZ (by omega) rfl rfl hov ff158_0 (by omega) (by omega) (by omega) (by omega), hI75, (CM.cons S6 (CM.cons S20 (CM.cons S35 (CM.cons S60 (CM.mono S74 (by decide) (by decide)) (by decide) (by decide)) (by decide) (by decide)) (by decide) (by decide)) (by decide) (by decide))⟩
            refine k_aload_n C rfl rfl rfl ?_
            refine z_bipush C (z := 40) rfl rfl rfl (fun x81 ex81 => ?_)
            refine k_iload C rfl rfl rfl ?_
            refine k_iload_n C rfl rfl rfl ?_
            refine z_iadd C rfl rfl ⟨by omega, by omega⟩ (fun x82 ex82 => ?_)
            refine k_aload_n C rfl rfl rfl ?_
            refine k_iload_n C rfl rfl rfl ?_
            refine k_aload_n C rfl rfl rfl ?_
            refine z_bipush C (z := 41) rfl rfl rfl (fun x83 ex83 => ?_)
            refine k_iload C rfl rfl rfl ?_
            have q84 : x83.toNatClampNeg = 41 := nck (by omega)
            refine c_VI C (a_X12_of hI75 H_r0 (by omega) (by omega) (by omega) (by omega)) rfl rfl rfl rfl rfl ⟨_, rfl, rfl, T_r0, Nat.le_of_ble_eq_true rfl⟩ rfl rfl (Nat.le_of_ble_eq_true rfl) (Nat.le_of_ble_eq_true rfl) (Nat.le_of_ble_eq_true rfl) ?_
            rintro x85 _ _ ⟨o0x85, o1x85, p0x85, rfl, rfl⟩
            have p0x85 := p0x85 r0_5 R_r0_5
            have gx85 := rg x85
            try simp only [q84, e76, e77, e78] at p0x85
            try have q0x85 := congrArg Int32.toInt p0x85
            have ho184 : x85.toInt = B9 x71.toNatClampNeg := (show x85.toInt = RI I69 r0_5 41 x71.toNatClampNeg from p0x85).trans (ff158_1 _ (by have h9 := ncz (x := x71) (by omega); omega))
            have hb184 := hbB x71.toNatClampNeg (by have h9 := ncz (x := x71) (by omega); omega)
            refine c_VI C (a_X12_times hI75 H_r0 (by omega) (by omega) (by omega) (by omega)) rfl rfl rfl rfl rfl ⟨_, rfl, rfl, T_r0, Nat.le_of_ble_eq_true rfl⟩ rfl rfl (Nat.le_of_ble_eq_true rfl) (Nat.le_of_ble_eq_true rfl) (Nat.le_of_ble_eq_true rfl) ?_
            rintro x86 _ _ ⟨o0x86, o1x86, p0x86, p1x86, p2x86, p3x86, rfl, rfl⟩
            have p0x86 := p0x86 r0_1 R_r0_1
            have p2x86 := p2x86 r0_1 R_r0_1
            have p3x86 := p3x86 r0_1 R_r0_1
            have gx86 := rg x86
            try simp only [e76, e77, e78] at p0x86
            try have q0x86 := congrArg Int32.toInt p0x86
            try simp only [e76, e77, e78] at p1x86
            try have q1x86 := congrArg Int32.toInt p1x86
            try simp only [e76, e77, e78] at p2x86
            try have q2x86 := congrArg Int32.toInt p2x86
            try simp only [e76, e77, e78] at p3x86
            try have q3x86 := congrArg Int32.toInt p3x86
            have ht187 := p3x86
            have q87 : x81.toNatClampNeg = 40 := nck (by omega)
            refine c_VV C (a_X12_put hI75 H_r0 (by omega) (by omega) (by omega) (by omega) (by omega) (by omega)) rfl rfl rfl rfl rfl ⟨_, rfl, rfl, T_r0, Nat.le_of_ble_eq_true rfl⟩ rfl rfl (Nat.le_of_ble_eq_true rfl) (Nat.le_of_ble_eq_true rfl) (Nat.le_of_ble_eq_true rfl) ?_
            rintro I89 L90 ⟨p0v88, p1v88, hI89, S91⟩
            have p0v88 := p0v88 r0_5 R_r0_5
            have p1v88 := p1v88 r0_5 R_r0_5
            try simp only [q87] at p1v88
            have e92 := CM.j S91 R_r0_1 (by decide) e76
            have e93 := CM.j S91 R_r0_4 (by decide) e77
            have e94 := CM.j S91 R_r0_4 (by decide) e78
            try simp only [q87, e76, e77, e78] at p0v88
            try have q0v88 := congrArg Int32.toInt p0v88
            have hP190 := p0v88
            refine z_iinc C (z := 1) (lw := fun x95 => [(4, .int x95), (0, .ref r0), (1, .int x26), (3, .int x52)]) rfl rfl rfl (Nat.le_of_ble_eq_true rfl) rfl ⟨by omega, by omega⟩ (fun _ => rfl) (fun x95 ex95 => ?_)
            show V 196 [(4, .int x95), (0, .ref r0), (1, .int x26), (3, .int x52)] _ _ _ _
            refine k_goto C (pc2 := 158) rfl rfl ?_
            refine k_sub S [(0, .ref r0), (1, .int x26), (3, .int x52), (4, .int x95)] (List.forall_mem_cons.mpr ⟨List.mem_of_getElem? (i := 1) rfl, List.forall_mem_cons.mpr ⟨List.mem_of_getElem? (i := 2) rfl, List.forall_mem_cons.mpr ⟨List.mem_of_getElem? (i := 3) rfl, List.forall_mem_cons.mpr ⟨List.mem_of_getElem? (i := 0) rfl, fun _ h => nomatch h⟩⟩⟩⟩) ?_
            exact ihJ67 _ (MN.lt hmnn68 (by omega) (by omega)) I89 L90 x95 rfl hI89 (CM.cons S74 (CM.mono S91 (by decide) (by decide)) (by decide) (by decide)) (by omega) (by omega) (by exact COR.s ff158_0 ho184 (by omega) hi0 ht187 hP190 (by omega) (by omega) (by omega) (by omega)) (by exact fun k hk => (RI.s (PUTD.sm (r := 41) hP190 (nclt (by omega) (by omega)) (by decide)) (by omega)).trans (ff158_1 k hk)) (by omega)
        refine k_istore C (lw := [(4, .int x66), (3, .int x52), (0, .ref r0), (1, .int x26), (2, .int x32)]) rfl rfl (Nat.le_of_ble_eq_true rfl) rfl ?_
        refine k_sub S [(0, .ref r0), (1, .int x26), (3, .int x52), (4, .int x66)] (List.forall_mem_cons.mpr ⟨List.mem_of_getElem? (i := 2) rfl, List.forall_mem_cons.mpr ⟨List.mem_of_getElem? (i := 3) rfl, List.forall_mem_cons.mpr ⟨List.mem_of_getElem? (i := 1) rfl, List.forall_mem_cons.mpr ⟨List.mem_of_getElem? (i := 0) rfl, fun _ h => nomatch h⟩⟩⟩⟩) ?_
        exact J67 _ I58 L59 x66 rfl hI58 CM.rf (by omega) (by omega) (by exact COR.z (fun k hk => hz152 k (by omega)) (by omega)) (by exact fun k hk => by rw [eB9]) (by omega)
      have nA := ff25_2 (by omega)
      have nB := ff25_3 (by omega)
      have hA := ff25_0
      have hB := ff25_1
      refine k_aload_n C rfl rfl rfl ?_
      refine g_R C rfl rfl rfl T_r0 rfl R_r0_4 ?_
      refine z_bipush C (z := 40) rfl rfl rfl (fun x96 ex96 => ?_)
      obtain ⟨T_r0_4, N_r0_4, A_r0_4⟩ := id H_r0_4
      refine a_I C rfl rfl T_r0_4 (by rw [N_r0_4]; exact vpi (by omega) (by omega)) ((congrArg (I30 r0_4) (nck (n := 40) (by omega))).trans e38) ?_
      refine k_aload_n C rfl rfl rfl ?_
      refine g_R C rfl rfl rfl T_r0 rfl R_r0_4 ?_
      refine z_bipush C (z := 41) rfl rfl rfl (fun x97 ex97 => ?_)
      refine a_I C rfl rfl T_r0_4 (by rw [N_r0_4]; exact vpi (by omega) (by omega)) ((congrArg (I30 r0_4) (nck (n := 41) (by omega))).trans e42) ?_
      refine b_icmp_ge C (t := 70) rfl rfl rfl (fun c98 => ?_) (fun c98 => ?_)
      · skip
        first | have cM := cM9 | have cM := ff25_4
        first | have cA := cA9 | have cA := ff25_5
        first | have cB := cB9 | have cB := ff25_6
        first | have n0 := n9 | have n0 := ff25_7
        refine k_aload_n C rfl rfl rfl ?_
        refine z_bipush C (z := 40) rfl rfl rfl (fun x99 ex99 => ?_)
        refine z_bipush C (z := 41) rfl rfl rfl (fun x100 ex100 => ?_)
        refine z_bipush C (z := 43) rfl rfl rfl (fun x101 ex101 => ?_)
        have q102 : x99.toNatClampNeg = 40 := nck (by omega)
        have q103 : x100.toNatClampNeg = 41 := nck (by omega)
        have q104 : x101.toNatClampNeg = 43 := nck (by omega)
        refine c_VV C (a_X12_divides_x hI36 H_r0 (by omega) (by omega) (by omega) (by omega) (by omega) (by omega) (fun a4 h4 => by cases (R_r0_4.symm.trans h4); first | omega | (simp only [q102, q103, q104, e45, e38, e42, and_true, true_and, or_true, true_or, and_false, false_and, or_false, false_or] <;> omega)) (fun a5 h5 => by cases (R_r0_5.symm.trans h5); exact nB) (fun a1 a5 h1 h5 => by cases (R_r0_1.symm.trans h1); cases (R_r0_5.symm.trans h5); simp only [q102, q103, q104, e45, e38, e42]; exact QN.le hB (by omega)) (fun a1 a4 a5 h1 h4 h5 => by cases (R_r0_1.symm.trans h1); cases (R_r0_4.symm.trans h4); cases (R_r0_5.symm.trans h5); simp only [q102, q103, q104, e45, e38, e42]; exact QN.le hA (by omega)) (fun a1 a4 a5 h1 h4 h5 => by cases (R_r0_1.symm.trans h1); cases (R_r0_4.symm.trans h4); cases (R_r0_5.symm.trans h5); simp only [q102, q103, q104, e45, e38, e42]; exact cA) (fun a1 a4 a5 h1 h4 h5 => by cases (R_r0_1.symm.trans h1); cases (R_r0_4.symm.trans h4); cases (R_r0_5.symm.trans h5); simp only [q102, q103, q104, e45, e38, e42]; exact cB) (fun a4 h4 => by cases (R_r0_4.symm.trans h4); simp only [q102, q103, q104, e45, e38, e42]; omega)) rfl rfl rfl rfl rfl ⟨_, rfl, rfl, T_r0, Nat.le_of_ble_eq_true rfl⟩ rfl rfl (Nat.le_of_ble_eq_true rfl) (Nat.le_of_ble_eq_true rfl) (Nat.le_of_ble_eq_true rfl) ?_
        rintro I106 L107 ⟨p0v105, p1v105, p2v105, p3v105, p4v105, p5v105, p6v105, p7v105, hI106, S108⟩
        have p0v105 := p0v105 r0_4 r0_5 R_r0_4 R_r0_5
        have p1v105 := p1v105 r0_1 r0_4 r0_5 R_r0_1 R_r0_4 R_r0_5
        have p2v105 := p2v105 r0_4 R_r0_4
        have p3v105 := p3v105 r0_1 r0_4 r0_5 R_r0_1 R_r0_4 R_r0_5
        have p4v105 := p4v105 r0_1 r0_4 r0_5 R_r0_1 R_r0_4 R_r0_5
        have p5v105 := p5v105 r0_1 r0_4 r0_5 R_r0_1 R_r0_4 R_r0_5
        have p6v105 := p6v105 r0_4 R_r0_4
        have p7v105 := p7v105 r0_5 R_r0_5
        try simp only [q102, q103, q104] at p6v105
        try simp only [q102, q103, q104] at p7v105
        have e109 := CM.j S108 R_r0_1 (by decide) e45
        have e110 := (p6v105 40 (by first | decide | exact ncne (by omega) (by omega) (by omega) | exact nckn (by omega) (by omega) | exact (nckn (by omega) (by omega)).symm)).trans e38
        have e111 := (p6v105 41 (by first | decide | exact ncne (by omega) (by omega) (by omega) | exact nckn (by omega) (by omega) | exact (nckn (by omega) (by omega)).symm)).trans e42
        obtain ⟨x112, e113⟩ : ∃ x, I106 r0_4 43 = x := ⟨_, rfl⟩
        have gx112 := rg x112
        have ox112 := IM.dgR hI106 R_r0_4 e113
        try simp only [q102, q103, q104, e45, e38, e42, e113] at p0v105
        try have q0v105 := congrArg Int32.toInt p0v105
        try simp only [q102, q103, q104, e45, e38, e42, e113] at p1v105
        try have q1v105 := congrArg Int32.toInt p1v105
        try simp only [q102, q103, q104, e45, e38, e42, e113] at p2v105
        try have q2v105 := congrArg Int32.toInt p2v105
        try simp only [q102, q103, q104, e45, e38, e42, e113] at p3v105
        try have q3v105 := congrArg Int32.toInt p3v105
        try simp only [q102, q103, q104, e45, e38, e42, e113] at p4v105
        try have q4v105 := congrArg Int32.toInt p4v105
        try simp only [q102, q103, q104, e45, e38, e42, e113] at p5v105
        try have q5v105 := congrArg Int32.toInt p5v105
        have hZ := p0v105
        have hA := p1v105
        have hB := QN.sm hB (fun k hk => p7v105 _ (by omega) (by omega)) (by omega)
        have nB := NE1.smr nB (fun k hk => p7v105 _ (by omega) (by omega))
        have hs77 : SMR _ I106 r0_5 41 := fun k hk => p7v105 _ (by omega) (by omega)
        have cA2 := p3v105
        have cB2 := RCN.sm cB hs77 rfl (by omega)
        have cM2 : SCD w_r0_1_0.toInt (fun k => RI I r0_5 40 (a9 + k)) (w_r0_4_40.toInt - a9) (fun k => RI I r0_5 41 (b9 + k)) (w_r0_4_41.toInt - b9) (RI I106 r0_5 40) x37.toInt (RI I106 r0_5 41) x41.toInt := SCD.cg (cM.tr p4v105) rfl rfl (fun _ _ => rfl) (fun k hk => RI.s hs77 (by omega))
        have n2 : NE0 (RI I106 r0_5 41 0) := by (unfold NE0; rw [RI.s hs77 (by omega)]; exact n0)
        refine k_aload_n C rfl rfl rfl ?_
        refine z_bipush C (z := 40) rfl rfl rfl (fun x114 ex114 => ?_)
        have q115 : x114.toNatClampNeg = 40 := nck (by omega)
        refine c_VI C (a_X12_isNought_e hI106 H_r0 (by omega) (by omega)) rfl rfl rfl rfl rfl ⟨_, rfl, rfl, T_r0, Nat.le_of_ble_eq_true rfl⟩ rfl rfl (Nat.le_of_ble_eq_true rfl) (Nat.le_of_ble_eq_true rfl) (Nat.le_of_ble_eq_true rfl) ?_
        rintro x116 _ _ ⟨o0x116, o1x116, p0x116, p1x116, rfl, rfl⟩
        have p0x116 := p0x116 r0_4 r0_5 R_r0_4 R_r0_5
        have p1x116 := p1x116 r0_4 r0_5 R_r0_4 R_r0_5
        have gx116 := rg x116
        try simp only [q115, e109, e110, e111, e113] at p0x116
        try have q0x116 := congrArg Int32.toInt p0x116
        try simp only [q115, e109, e110, e111, e113] at p1x116
        try have q1x116 := congrArg Int32.toInt p1x116
        have hNZ := p0x116
        have hNQ := p1x116
        refine b_if_eq C (t := 94) rfl rfl rfl (fun c117 => ?_) (fun c117 => ?_)
        · skip
          refine k_aload_n C rfl rfl rfl ?_
          refine z_bipush C (z := 40) rfl rfl rfl (fun x118 ex118 => ?_)
          have q119 : x118.toNatClampNeg = 40 := nck (by omega)
          refine c_VI C (a_X12_strips_x hI106 H_r0 (by omega) (by omega) (fun a4 a5 h4 h5 => by cases (R_r0_4.symm.trans h4); cases (R_r0_5.symm.trans h5); simp only [q119, e109, e110, e111, e113]; exact hNZ (by omega))) rfl rfl rfl rfl rfl ⟨_, rfl, rfl, T_r0, Nat.le_of_ble_eq_true rfl⟩ rfl rfl (Nat.le_of_ble_eq_true rfl) (Nat.le_of_ble_eq_true rfl) (Nat.le_of_ble_eq_true rfl) ?_
          rintro x120 I121 L122 ⟨p0x120, p1x120, p2x120, p3x120, p4x120, p5x120, p6x120, hI121, S123⟩
          have p0x120 := p0x120 r0_4 R_r0_4
          have p1x120 := p1x120 r0_4 R_r0_4
          have p2x120 := p2x120 r0_5 R_r0_5
          have p3x120 := p3x120 r0_4 r0_5 R_r0_4 R_r0_5
          have p4x120 := p4x120 r0_5 R_r0_5
          have p5x120 := p5x120 r0_4 R_r0_4
          have p6x120 := p6x120 r0_5 R_r0_5
          try simp only [q119] at p5x120
          try simp only [q119] at p6x120
          have e124 := CM.j S123 R_r0_1 (by decide) e109
          have e126 := (p5x120 41 (by first | decide | exact ncne (by omega) (by omega) (by omega) | exact nckn (by omega) (by omega) | exact (nckn (by omega) (by omega)).symm)).trans e111
          have e127 := (p5x120 43 (by first | decide | exact ncne (by omega) (by omega) (by omega) | exact nckn (by omega) (by omega) | exact (nckn (by omega) (by omega)).symm)).trans e113
          have gx120 := rg x120
          obtain ⟨x128, e129⟩ : ∃ x, I121 r0_4 40 = x := ⟨_, rfl⟩
          have gx128 := rg x128
          have ox128 := IM.dgR hI121 R_r0_4 e129
          try simp only [q119, e109, e110, e111, e113, e129] at p0x120
          try have q0x120 := congrArg Int32.toInt p0x120
          try simp only [q119, e109, e110, e111, e113, e129] at p1x120
          try have q1x120 := congrArg Int32.toInt p1x120
          try simp only [q119, e109, e110, e111, e113, e129] at p2x120
          try have q2x120 := congrArg Int32.toInt p2x120
          try simp only [q119, e109, e110, e111, e113, e129] at p3x120
          try have q3x120 := congrArg Int32.toInt p3x120
          try simp only [q119, e109, e110, e111, e113, e129] at p4x120
          try have q4x120 := congrArg Int32.toInt p4x120
          have hge := AZ.ge hZ p2x120 (by omega)
          have hA := QN.st hA p3x120 (by omega)
          have nA := STP.ne p3x120 p2x120 (by omega) (by omega)
          have hB := QN.sm hB (fun k hk => p6x120 _ (by omega)) (by omega)
          have nB := NE1.smr nB (fun k hk => p6x120 _ (by omega))
          have nA3 : NE0 _ := nA
          have hs97 : SMR _ I121 r0_5 41 := fun k hk => p6x120 _ (by omega)
          have cM3 : SCD w_r0_1_0.toInt (fun k => RI I r0_5 40 (a9 + k)) (w_r0_4_40.toInt - a9) (fun k => RI I r0_5 41 (b9 + k)) (w_r0_4_41.toInt - b9) (RI I121 r0_5 40) x128.toInt (RI I121 r0_5 41) x41.toInt := SCD.cg (cM2.tr (SCD.sh (m := x120.toNatClampNeg) (D' := x128.toInt) (f' := RI I121 r0_5 40) (fun k hk => by (rw [p4x120 k (by have h9 := ncz (x := x120) (by omega); omega)]; exact PmE.rf)) (fun k hk => by (rw [STP.r p3x120 (by omega)]; exact PmE.rf)) (by have h9 := ncz (x := x120) (by omega); omega) (by have h9 := ncz (x := x120) (by omega); omega))) rfl rfl (fun _ _ => rfl) (fun k hk => RI.s hs97 (by omega))
          have cA3 : RCN I121 r0_5 40 w_r0_1_0.toInt x128.toInt := fun k hk => by (rw [STP.r p3x120 (by omega)]; exact cA2 _ (by have h9 := ncz (x := x120) (by omega); omega))
          have cB3 := RCN.sm cB2 hs97 rfl (by omega)
          refine k_pop C rfl rfl rfl ?_
          refine k_aload_n C rfl rfl rfl ?_
          refine z_bipush C (z := 40) rfl rfl rfl (fun x130 ex130 => ?_)
          refine z_bipush C (z := 42) rfl rfl rfl (fun x131 ex131 => ?_)
          have q132 : x130.toNatClampNeg = 40 := nck (by omega)
          have q133 : x131.toNatClampNeg = 42 := nck (by omega)
          refine c_VV C (a_X12_copies hI121 H_r0 (by omega) (by omega) (by omega) (by omega) (by first | omega | (simp only [q132, q133, e124, e126, e127, e129, and_true, true_and, or_true, true_or, and_false, false_and, or_false, false_or] <;> omega))) rfl rfl rfl rfl rfl ⟨_, rfl, rfl, T_r0, Nat.le_of_ble_eq_true rfl⟩ rfl rfl (Nat.le_of_ble_eq_true rfl) (Nat.le_of_ble_eq_true rfl) (Nat.le_of_ble_eq_true rfl) ?_
          rintro I135 L136 ⟨p0v134, p1v134, p2v134, p3v134, hI135, S137⟩
          have p0v134 := p0v134 r0_4 R_r0_4
          have p1v134 := p1v134 r0_4 r0_5 R_r0_4 R_r0_5
          have p2v134 := p2v134 r0_4 R_r0_4
          have p3v134 := p3v134 r0_5 R_r0_5
          try simp only [q132, q133] at p2v134
          try simp only [q132, q133] at p3v134
          have e138 := CM.j S137 R_r0_1 (by decide) e124
          have e139 := (p2v134 41 (by first | decide | exact ncne (by omega) (by omega) (by omega) | exact nckn (by omega) (by omega) | exact (nckn (by omega) (by omega)).symm)).trans e126
          have e140 := (p2v134 43 (by first | decide | exact ncne (by omega) (by omega) (by omega) | exact nckn (by omega) (by omega) | exact (nckn (by omega) (by omega)).symm)).trans e127
          have e141 := (p2v134 40 (by first | decide | exact ncne (by omega) (by omega) (by omega) | exact nckn (by omega) (by omega) | exact (nckn (by omega) (by omega)).symm)).trans e129
          obtain ⟨x142, e143⟩ : ∃ x, I135 r0_4 42 = x := ⟨_, rfl⟩
          have gx142 := rg x142
          have ox142 := IM.dgR hI135 R_r0_4 e143
          try simp only [q132, q133, e124, e126, e127, e129, e143] at p0v134
          try have q0v134 := congrArg Int32.toInt p0v134
          try simp only [q132, q133, e124, e126, e127, e129, e143] at p1v134
          try have q1v134 := congrArg Int32.toInt p1v134
          have hC := QN.cp hA (CPN.le p1v134 (by omega))
          have nC := NE1.cp nA p1v134 (by omega)
          have hB := QN.sm hB (fun k hk => p3v134 _ (by omega)) (by omega)
          have nB := NE1.smr nB (fun k hk => p3v134 _ (by omega))
          have rC := RWF.cp1 (D := x128.toInt) p1v134 (by omega)
          have rB := RWF.sm1 (r := 41) (D := x41.toInt) (fun k hk => p3v134 _ (by omega)) (by omega)
          refine k_aload_n C rfl rfl rfl ?_
          refine z_bipush C (z := 41) rfl rfl rfl (fun x144 ex144 => ?_)
          refine z_bipush C (z := 40) rfl rfl rfl (fun x145 ex145 => ?_)
          have q146 : x144.toNatClampNeg = 41 := nck (by omega)
          have q147 : x145.toNatClampNeg = 40 := nck (by omega)
          refine c_VV C (a_X12_copies hI135 H_r0 (by omega) (by omega) (by omega) (by omega) (by first | omega | (simp only [q146, q147, e138, e139, e140, e141, e143, and_true, true_and, or_true, true_or, and_false, false_and, or_false, false_or] <;> omega))) rfl rfl rfl rfl rfl ⟨_, rfl, rfl, T_r0, Nat.le_of_ble_eq_true rfl⟩ rfl rfl (Nat.le_of_ble_eq_true rfl) (Nat.le_of_ble_eq_true rfl) (Nat.le_of_ble_eq_true rfl) ?_
          rintro I149 L150 ⟨p0v148, p1v148, p2v148, p3v148, hI149, S151⟩
          have p0v148 := p0v148 r0_4 R_r0_4
          have p1v148 := p1v148 r0_4 r0_5 R_r0_4 R_r0_5
          have p2v148 := p2v148 r0_4 R_r0_4
          have p3v148 := p3v148 r0_5 R_r0_5
          try simp only [q146, q147] at p2v148
          try simp only [q146, q147] at p3v148
          have e152 := CM.j S151 R_r0_1 (by decide) e138
          have e153 := (p2v148 41 (by first | decide | exact ncne (by omega) (by omega) (by omega) | exact nckn (by omega) (by omega) | exact (nckn (by omega) (by omega)).symm)).trans e139
          have e154 := (p2v148 43 (by first | decide | exact ncne (by omega) (by omega) (by omega) | exact nckn (by omega) (by omega) | exact (nckn (by omega) (by omega)).symm)).trans e140
          have e156 := (p2v148 42 (by first | decide | exact ncne (by omega) (by omega) (by omega) | exact nckn (by omega) (by omega) | exact (nckn (by omega) (by omega)).symm)).trans e143
          obtain ⟨x157, e158⟩ : ∃ x, I149 r0_4 40 = x := ⟨_, rfl⟩
          have gx157 := rg x157
          have ox157 := IM.dgR hI149 R_r0_4 e158
          try simp only [q146, q147, e138, e139, e140, e141, e143, e158] at p0v148
          try have q0v148 := congrArg Int32.toInt p0v148
          try simp only [q146, q147, e138, e139, e140, e141, e143, e158] at p1v148
          try have q1v148 := congrArg Int32.toInt p1v148
          have hA := QN.cp hB (CPN.le p1v148 (by omega))
          have nA := NE1.cp nB p1v148 (by omega)
          have hC := QN.sm hC (fun k hk => p3v148 _ (by omega)) (by omega)
          have nC := NE1.smr nC (fun k hk => p3v148 _ (by omega))
          have hB := QN.sm hB (fun k hk => p3v148 _ (by omega)) (by omega)
          have nB := NE1.smr nB (fun k hk => p3v148 _ (by omega))
          have rA := RWF.cpy rB p1v148 (by omega)
          have rC := RWF.sm rC (fun k hk => p3v148 _ (by omega)) (by omega)
          refine k_aload_n C rfl rfl rfl ?_
          refine z_bipush C (z := 42) rfl rfl rfl (fun x159 ex159 => ?_)
          refine z_bipush C (z := 41) rfl rfl rfl (fun x160 ex160 => ?_)
          have q161 : x159.toNatClampNeg = 42 := nck (by omega)
          have q162 : x160.toNatClampNeg = 41 := nck (by omega)
          refine c_VV C (a_X12_copies hI149 H_r0 (by omega) (by omega) (by omega) (by omega) (by first | omega | (simp only [q161, q162, e152, e153, e154, e156, e158, and_true, true_and, or_true, true_or, and_false, false_and, or_false, false_or] <;> omega))) rfl rfl rfl rfl rfl ⟨_, rfl, rfl, T_r0, Nat.le_of_ble_eq_true rfl⟩ rfl rfl (Nat.le_of_ble_eq_true rfl) (Nat.le_of_ble_eq_true rfl) (Nat.le_of_ble_eq_true rfl) ?_
          rintro I164 L165 ⟨p0v163, p1v163, p2v163, p3v163, hI164, S166⟩
          have p0v163 := p0v163 r0_4 R_r0_4
          have p1v163 := p1v163 r0_4 r0_5 R_r0_4 R_r0_5
          have p2v163 := p2v163 r0_4 R_r0_4
          have p3v163 := p3v163 r0_5 R_r0_5
          try simp only [q161, q162] at p2v163
          try simp only [q161, q162] at p3v163
          have e167 := CM.j S166 R_r0_1 (by decide) e152
          have e169 := (p2v163 43 (by first | decide | exact ncne (by omega) (by omega) (by omega) | exact nckn (by omega) (by omega) | exact (nckn (by omega) (by omega)).symm)).trans e154
          have e170 := (p2v163 42 (by first | decide | exact ncne (by omega) (by omega) (by omega) | exact nckn (by omega) (by omega) | exact (nckn (by omega) (by omega)).symm)).trans e156
          have e171 := (p2v163 40 (by first | decide | exact ncne (by omega) (by omega) (by omega) | exact nckn (by omega) (by omega) | exact (nckn (by omega) (by omega)).symm)).trans e158
          obtain ⟨x172, e173⟩ : ∃ x, I164 r0_4 41 = x := ⟨_, rfl⟩
          have gx172 := rg x172
          have ox172 := IM.dgR hI164 R_r0_4 e173
          try simp only [q161, q162, e152, e153, e154, e156, e158, e173] at p0v163
          try have q0v163 := congrArg Int32.toInt p0v163
          try simp only [q161, q162, e152, e153, e154, e156, e158, e173] at p1v163
          try have q1v163 := congrArg Int32.toInt p1v163
          have hB := QN.cp hC (CPN.le p1v163 (by omega))
          have nB := NE1.cp nC p1v163 (by omega)
          have hA := QN.sm hA (fun k hk => p3v163 _ (by omega)) (by omega)
          have nA := NE1.smr nA (fun k hk => p3v163 _ (by omega))
          have rB := RWF.cpy rC p1v163 (by omega)
          have rA := RWF.sm rA (fun k hk => p3v163 _ (by omega)) (by omega)
          have cM9 : SCD w_r0_1_0.toInt (fun k => RI I r0_5 40 (a9 + k)) (w_r0_4_40.toInt - a9) (fun k => RI I r0_5 41 (b9 + k)) (w_r0_4_41.toInt - b9) (RI I164 r0_5 40) x157.toInt (RI I164 r0_5 41) x172.toInt := SCD.cg cM3.sw (by omega) (by omega) rA rB
          have cA9 : RCN I164 r0_5 40 w_r0_1_0.toInt x157.toInt := RWF.rc rA cB3 (by omega)
          have cB9 : RCN I164 r0_5 41 w_r0_1_0.toInt x172.toInt := RWF.rc rB cA3 (by omega)
          have n9 : NE0 (RI I164 r0_5 41 0) := by (unfold NE0; rw [rB 0 (by omega)]; exact nA3)
          refine k_goto C (pc2 := 25) rfl rfl ?_
          refine k_sub S [(0, .ref r0), (1, .int x26), (2, .int x32)] (List.forall_mem_cons.mpr ⟨List.mem_of_getElem? (i := 0) rfl, List.forall_mem_cons.mpr ⟨List.mem_of_getElem? (i := 1) rfl, List.forall_mem_cons.mpr ⟨List.mem_of_getElem? (i := 2) rfl, fun _ h => nomatch h⟩⟩⟩) ?_
          exact ihJ28 _ (MN.lt hmnn29 (by omega) (by omega)) I164 L165 x32 x157 x172 rfl hI164 (CM.cons S35 (CM.cons S108 (CM.cons S123 (CM.cons S137 (CM.cons S151 (CM.mono S166 (by decide) (by decide)) (by decide) (by decide)) (by decide) (by decide)) (by decide) (by decide)) (by decide) (by decide)) (by decide) (by decide)) (by omega) (by omega) e171 (by omega) (by omega) e173 (by omega) (by omega) (by exact QN.le hA (by omega)) (by exact QN.le hB (by omega)) (by first | exact fun h => absurd (by omega) h | exact fun _ => nA) (by first | exact fun h => absurd (by omega) h | exact fun _ => nB) (by first | exact cM2 | exact cM9) (by first | exact cA2 | exact cA9) (by first | exact cB2 | exact cB9) (by first | exact n2 | exact n9) (by first | (intro h9; exfalso; omega) | exact fun _ k hk => hNQ.1 (by omega) k (by rw [e171]; exact hk))
        refine z_iconst C (z := 0) rfl rfl rfl (fun x174 ex174 => ?_)
        refine k_istore_n C (lw := [(2, .int x174), (0, .ref r0), (1, .int x26)]) rfl rfl (Nat.le_of_ble_eq_true rfl) rfl ?_
        refine k_goto C (pc2 := 25) rfl rfl ?_
        refine k_sub S [(0, .ref r0), (1, .int x26), (2, .int x174)] (List.forall_mem_cons.mpr ⟨List.mem_of_getElem? (i := 1) rfl, List.forall_mem_cons.mpr ⟨List.mem_of_getElem? (i := 2) rfl, List.forall_mem_cons.mpr ⟨List.mem_of_getElem? (i := 0) rfl, fun _ h => nomatch h⟩⟩⟩) ?_
        exact ihJ28 _ (MN.lt hmnn29 (by omega) (by omega)) I106 L107 x174 x37 x41 rfl hI106 (CM.cons S35 (CM.mono S108 (by decide) (by decide)) (by decide) (by decide)) (by omega) (by omega) e110 (by omega) (by omega) e111 (by omega) (by omega) (by exact QN.le hA (by omega)) (by exact QN.le hB (by omega)) (by first | exact fun h => absurd (by omega) h | exact fun _ => nA) (by first | exact fun h => absurd (by omega) h | exact fun _ => nB) (by first | exact cM2 | exact cM9) (by first | exact cA2 | exact cA9) (by first | exact cB2 | exact cB9) (by first | exact n2 | exact n9) (by first | (intro h9; exfalso; omega) | exact fun _ k hk => hNQ.1 (by omega) k (by rw [e110]; exact hk))
      refine k_aload_n C rfl rfl rfl ?_
      refine z_bipush C (z := 40) rfl rfl rfl (fun x175 ex175 => ?_)
      refine z_bipush C (z := 42) rfl rfl rfl (fun x176 ex176 => ?_)
      have q177 : x175.toNatClampNeg = 40 := nck (by omega)
      have q178 : x176.toNatClampNeg = 42 := nck (by omega)
      refine c_VV C (a_X12_copies hI36 H_r0 (by omega) (by omega) (by omega) (by omega) (by first | omega | (simp only [q177, q178, e45, e38, e42, and_true, true_and, or_true, true_or, and_false, false_and, or_false, false_or] <;> omega))) rfl rfl rfl rfl rfl ⟨_, rfl, rfl, T_r0, Nat.le_of_ble_eq_true rfl⟩ rfl rfl (Nat.le_of_ble_eq_true rfl) (Nat.le_of_ble_eq_true rfl) (Nat.le_of_ble_eq_true rfl) ?_
      rintro I180 L181 ⟨p0v179, p1v179, p2v179, p3v179, hI180, S182⟩
      have p0v179 := p0v179 r0_4 R_r0_4
      have p1v179 := p1v179 r0_4 r0_5 R_r0_4 R_r0_5
      have p2v179 := p2v179 r0_4 R_r0_4
      have p3v179 := p3v179 r0_5 R_r0_5
      try simp only [q177, q178] at p2v179
      try simp only [q177, q178] at p3v179
      have e183 := CM.j S182 R_r0_1 (by decide) e45
      have e184 := (p2v179 40 (by first | decide | exact ncne (by omega) (by omega) (by omega) | exact nckn (by omega) (by omega) | exact (nckn (by omega) (by omega)).symm)).trans e38
      have e185 := (p2v179 41 (by first | decide | exact ncne (by omega) (by omega) (by omega) | exact nckn (by omega) (by omega) | exact (nckn (by omega) (by omega)).symm)).trans e42
      obtain ⟨x186, e187⟩ : ∃ x, I180 r0_4 42 = x := ⟨_, rfl⟩
      have gx186 := rg x186
      have ox186 := IM.dgR hI180 R_r0_4 e187
      try simp only [q177, q178, e45, e38, e42, e187] at p0v179
      try have q0v179 := congrArg Int32.toInt p0v179
      try simp only [q177, q178, e45, e38, e42, e187] at p1v179
      try have q1v179 := congrArg Int32.toInt p1v179
      have hC := QN.cp hA (CPN.le p1v179 (by omega))
      have nC := NE1.cp nA p1v179 (by omega)
      have hB := QN.sm hB (fun k hk => p3v179 _ (by omega)) (by omega)
      have nB := NE1.smr nB (fun k hk => p3v179 _ (by omega))
      have rC := RWF.cp1 (D := x37.toInt) p1v179 (by omega)
      have rB := RWF.sm1 (r := 41) (D := x41.toInt) (fun k hk => p3v179 _ (by omega)) (by omega)
      refine k_aload_n C rfl rfl rfl ?_
      refine z_bipush C (z := 41) rfl rfl rfl (fun x188 ex188 => ?_)
      refine z_bipush C (z := 40) rfl rfl rfl (fun x189 ex189 => ?_)
      have q190 : x188.toNatClampNeg = 41 := nck (by omega)
      have q191 : x189.toNatClampNeg = 40 := nck (by omega)
      refine c_VV C (a_X12_copies hI180 H_r0 (by omega) (by omega) (by omega) (by omega) (by first | omega | (simp only [q190, q191, e183, e184, e185, e187, and_true, true_and, or_true, true_or, and_false, false_and, or_false, false_or] <;> omega))) rfl rfl rfl rfl rfl ⟨_, rfl, rfl, T_r0, Nat.le_of_ble_eq_true rfl⟩ rfl rfl (Nat.le_of_ble_eq_true rfl) (Nat.le_of_ble_eq_true rfl) (Nat.le_of_ble_eq_true rfl) ?_
      rintro I193 L194 ⟨p0v192, p1v192, p2v192, p3v192, hI193, S195⟩
      have p0v192 := p0v192 r0_4 R_r0_4
      have p1v192 := p1v192 r0_4 r0_5 R_r0_4 R_r0_5
      have p2v192 := p2v192 r0_4 R_r0_4
      have p3v192 := p3v192 r0_5 R_r0_5
      try simp only [q190, q191] at p2v192
      try simp only [q190, q191] at p3v192
      have e196 := CM.j S195 R_r0_1 (by decide) e183
      have e198 := (p2v192 41 (by first | decide | exact ncne (by omega) (by omega) (by omega) | exact nckn (by omega) (by omega) | exact (nckn (by omega) (by omega)).symm)).trans e185
      have e199 := (p2v192 42 (by first | decide | exact ncne (by omega) (by omega) (by omega) | exact nckn (by omega) (by omega) | exact (nckn (by omega) (by omega)).symm)).trans e187
      obtain ⟨x200, e201⟩ : ∃ x, I193 r0_4 40 = x := ⟨_, rfl⟩
      have gx200 := rg x200
      have ox200 := IM.dgR hI193 R_r0_4 e201
      try simp only [q190, q191, e183, e184, e185, e187, e201] at p0v192
      try have q0v192 := congrArg Int32.toInt p0v192
      try simp only [q190, q191, e183, e184, e185, e187, e201] at p1v192
      try have q1v192 := congrArg Int32.toInt p1v192
      have hA := QN.cp hB (CPN.le p1v192 (by omega))
      have nA := NE1.cp nB p1v192 (by omega)
      have hC := QN.sm hC (fun k hk => p3v192 _ (by omega)) (by omega)
      have nC := NE1.smr nC (fun k hk => p3v192 _ (by omega))
      have hB := QN.sm hB (fun k hk => p3v192 _ (by omega)) (by omega)
      have nB := NE1.smr nB (fun k hk => p3v192 _ (by omega))
      have rA := RWF.cpy rB p1v192 (by omega)
      have rC := RWF.sm rC (fun k hk => p3v192 _ (by omega)) (by omega)
      refine k_aload_n C rfl rfl rfl ?_
      refine z_bipush C (z := 42) rfl rfl rfl (fun x202 ex202 => ?_)
      refine z_bipush C (z := 41) rfl rfl rfl (fun x203 ex203 => ?_)
      have q204 : x202.toNatClampNeg = 42 := nck (by omega)
      have q205 : x203.toNatClampNeg = 41 := nck (by omega)
      refine c_VV C (a_X12_copies hI193 H_r0 (by omega) (by omega) (by omega) (by omega) (by first | omega | (simp only [q204, q205, e196, e198, e199, e201, and_true, true_and, or_true, true_or, and_false, false_and, or_false, false_or] <;> omega))) rfl rfl rfl rfl rfl ⟨_, rfl, rfl, T_r0, Nat.le_of_ble_eq_true rfl⟩ rfl rfl (Nat.le_of_ble_eq_true rfl) (Nat.le_of_ble_eq_true rfl) (Nat.le_of_ble_eq_true rfl) ?_
      rintro I207 L208 ⟨p0v206, p1v206, p2v206, p3v206, hI207, S209⟩
      have p0v206 := p0v206 r0_4 R_r0_4
      have p1v206 := p1v206 r0_4 r0_5 R_r0_4 R_r0_5
      have p2v206 := p2v206 r0_4 R_r0_4
      have p3v206 := p3v206 r0_5 R_r0_5
      try simp only [q204, q205] at p2v206
      try simp only [q204, q205] at p3v206
      have e210 := CM.j S209 R_r0_1 (by decide) e196
      have e212 := (p2v206 42 (by first | decide | exact ncne (by omega) (by omega) (by omega) | exact nckn (by omega) (by omega) | exact (nckn (by omega) (by omega)).symm)).trans e199
      have e213 := (p2v206 40 (by first | decide | exact ncne (by omega) (by omega) (by omega) | exact nckn (by omega) (by omega) | exact (nckn (by omega) (by omega)).symm)).trans e201
      obtain ⟨x214, e215⟩ : ∃ x, I207 r0_4 41 = x := ⟨_, rfl⟩
      have gx214 := rg x214
      have ox214 := IM.dgR hI207 R_r0_4 e215
      try simp only [q204, q205, e196, e198, e199, e201, e215] at p0v206
      try have q0v206 := congrArg Int32.toInt p0v206
      try simp only [q204, q205, e196, e198, e199, e201, e215] at p1v206
      try have q1v206 := congrArg Int32.toInt p1v206
      have hB := QN.cp hC (CPN.le p1v206 (by omega))
      have nB := NE1.cp nC p1v206 (by omega)
      have hA := QN.sm hA (fun k hk => p3v206 _ (by omega)) (by omega)
      have nA := NE1.smr nA (fun k hk => p3v206 _ (by omega))
      have rB := RWF.cpy rC p1v206 (by omega)
      have rA := RWF.sm rA (fun k hk => p3v206 _ (by omega)) (by omega)
      have cM9 : SCD w_r0_1_0.toInt (fun k => RI I r0_5 40 (a9 + k)) (w_r0_4_40.toInt - a9) (fun k => RI I r0_5 41 (b9 + k)) (w_r0_4_41.toInt - b9) (RI I207 r0_5 40) x200.toInt (RI I207 r0_5 41) x214.toInt := SCD.cg ff25_4.sw (by omega) (by omega) rA rB
      have cA9 : RCN I207 r0_5 40 w_r0_1_0.toInt x200.toInt := RWF.rc rA ff25_6 (by omega)
      have cB9 : RCN I207 r0_5 41 w_r0_1_0.toInt x214.toInt := RWF.rc rB ff25_5 (by omega)
      have n9 : NE0 (RI I207 r0_5 41 0) := by (unfold NE0; rw [rB 0 (by omega)]; exact (ff25_2 (by omega)))
      first | have cM := cM9 | have cM := ff25_4
      first | have cA := cA9 | have cA := ff25_5
      first | have cB := cB9 | have cB := ff25_6
      first | have n0 := n9 | have n0 := ff25_7
      refine k_aload_n C rfl rfl rfl ?_
      refine z_bipush C (z := 40) rfl rfl rfl (fun x216 ex216 => ?_)
      refine z_bipush C (z := 41) rfl rfl rfl (fun x217 ex217 => ?_)
      refine z_bipush C (z := 43) rfl rfl rfl (fun x218 ex218 => ?_)
      have q219 : x216.toNatClampNeg = 40 := nck (by omega)
      have q220 : x217.toNatClampNeg = 41 := nck (by omega)
      have q221 : x218.toNatClampNeg = 43 := nck (by omega)
      refine c_VV C (a_X12_divides_x hI207 H_r0 (by omega) (by omega) (by omega) (by omega) (by omega) (by omega) (fun a4 h4 => by cases (R_r0_4.symm.trans h4); first | omega | (simp only [q219, q220, q221, e210, e212, e213, e215, and_true, true_and, or_true, true_or, and_false, false_and, or_false, false_or] <;> omega)) (fun a5 h5 => by cases (R_r0_5.symm.trans h5); exact nB) (fun a1 a5 h1 h5 => by cases (R_r0_1.symm.trans h1); cases (R_r0_5.symm.trans h5); simp only [q219, q220, q221, e210, e212, e213, e215]; exact QN.le hB (by omega)) (fun a1 a4 a5 h1 h4 h5 => by cases (R_r0_1.symm.trans h1); cases (R_r0_4.symm.trans h4); cases (R_r0_5.symm.trans h5); simp only [q219, q220, q221, e210, e212, e213, e215]; exact QN.le hA (by omega)) (fun a1 a4 a5 h1 h4 h5 => by cases (R_r0_1.symm.trans h1); cases (R_r0_4.symm.trans h4); cases (R_r0_5.symm.trans h5); simp only [q219, q220, q221, e210, e212, e213, e215]; exact cA) (fun a1 a4 a5 h1 h4 h5 => by cases (R_r0_1.symm.trans h1); cases (R_r0_4.symm.trans h4); cases (R_r0_5.symm.trans h5); simp only [q219, q220, q221, e210, e212, e213, e215]; exact cB) (fun a4 h4 => by cases (R_r0_4.symm.trans h4); simp only [q219, q220, q221, e210, e212, e213, e215]; omega)) rfl rfl rfl rfl rfl ⟨_, rfl, rfl, T_r0, Nat.le_of_ble_eq_true rfl⟩ rfl rfl (Nat.le_of_ble_eq_true rfl) (Nat.le_of_ble_eq_true rfl) (Nat.le_of_ble_eq_true rfl) ?_
      rintro I223 L224 ⟨p0v222, p1v222, p2v222, p3v222, p4v222, p5v222, p6v222, p7v222, hI223, S225⟩
      have p0v222 := p0v222 r0_4 r0_5 R_r0_4 R_r0_5
      have p1v222 := p1v222 r0_1 r0_4 r0_5 R_r0_1 R_r0_4 R_r0_5
      have p2v222 := p2v222 r0_4 R_r0_4
      have p3v222 := p3v222 r0_1 r0_4 r0_5 R_r0_1 R_r0_4 R_r0_5
      have p4v222 := p4v222 r0_1 r0_4 r0_5 R_r0_1 R_r0_4 R_r0_5
      have p5v222 := p5v222 r0_1 r0_4 r0_5 R_r0_1 R_r0_4 R_r0_5
      have p6v222 := p6v222 r0_4 R_r0_4
      have p7v222 := p7v222 r0_5 R_r0_5
      try simp only [q219, q220, q221] at p6v222
      try simp only [q219, q220, q221] at p7v222
      have e226 := CM.j S225 R_r0_1 (by decide) e210
      have e227 := (p6v222 42 (by first | decide | exact ncne (by omega) (by omega) (by omega) | exact nckn (by omega) (by omega) | exact (nckn (by omega) (by omega)).symm)).trans e212
      have e228 := (p6v222 40 (by first | decide | exact ncne (by omega) (by omega) (by omega) | exact nckn (by omega) (by omega) | exact (nckn (by omega) (by omega)).symm)).trans e213
      have e229 := (p6v222 41 (by first | decide | exact ncne (by omega) (by omega) (by omega) | exact nckn (by omega) (by omega) | exact (nckn (by omega) (by omega)).symm)).trans e215
      obtain ⟨x230, e231⟩ : ∃ x, I223 r0_4 43 = x := ⟨_, rfl⟩
      have gx230 := rg x230
      have ox230 := IM.dgR hI223 R_r0_4 e231
      try simp only [q219, q220, q221, e210, e212, e213, e215, e231] at p0v222
      try have q0v222 := congrArg Int32.toInt p0v222
      try simp only [q219, q220, q221, e210, e212, e213, e215, e231] at p1v222
      try have q1v222 := congrArg Int32.toInt p1v222
      try simp only [q219, q220, q221, e210, e212, e213, e215, e231] at p2v222
      try have q2v222 := congrArg Int32.toInt p2v222
      try simp only [q219, q220, q221, e210, e212, e213, e215, e231] at p3v222
      try have q3v222 := congrArg Int32.toInt p3v222
      try simp only [q219, q220, q221, e210, e212, e213, e215, e231] at p4v222
      try have q4v222 := congrArg Int32.toInt p4v222
      try simp only [q219, q220, q221, e210, e212, e213, e215, e231] at p5v222
      try have q5v222 := congrArg Int32.toInt p5v222
      have hZ := p0v222
      have hA := p1v222
      have hB := QN.sm hB (fun k hk => p7v222 _ (by omega) (by omega)) (by omega)
      have nB := NE1.smr nB (fun k hk => p7v222 _ (by omega) (by omega))
      have hs77 : SMR _ I223 r0_5 41 := fun k hk => p7v222 _ (by omega) (by omega)
      have cA2 := p3v222
      have cB2 := RCN.sm cB hs77 rfl (by omega)
      have cM2 : SCD w_r0_1_0.toInt (fun k => RI I r0_5 40 (a9 + k)) (w_r0_4_40.toInt - a9) (fun k => RI I r0_5 41 (b9 + k)) (w_r0_4_41.toInt - b9) (RI I223 r0_5 40) x200.toInt (RI I223 r0_5 41) x214.toInt := SCD.cg (cM.tr p4v222) rfl rfl (fun _ _ => rfl) (fun k hk => RI.s hs77 (by omega))
      have n2 : NE0 (RI I223 r0_5 41 0) := by (unfold NE0; rw [RI.s hs77 (by omega)]; exact n0)
      refine k_aload_n C rfl rfl rfl ?_
      refine z_bipush C (z := 40) rfl rfl rfl (fun x232 ex232 => ?_)
      have q233 : x232.toNatClampNeg = 40 := nck (by omega)
      refine c_VI C (a_X12_isNought_e hI223 H_r0 (by omega) (by omega)) rfl rfl rfl rfl rfl ⟨_, rfl, rfl, T_r0, Nat.le_of_ble_eq_true rfl⟩ rfl rfl (Nat.le_of_ble_eq_true rfl) (Nat.le_of_ble_eq_true rfl) (Nat.le_of_ble_eq_true rfl) ?_
      rintro x234 _ _ ⟨o0x234, o1x234, p0x234, p1x234, rfl, rfl⟩
      have p0x234 := p0x234 r0_4 r0_5 R_r0_4 R_r0_5
      have p1x234 := p1x234 r0_4 r0_5 R_r0_4 R_r0_5
      have gx234 := rg x234
      try simp only [q233, e226, e227, e228, e229, e231] at p0x234
      try have q0x234 := congrArg Int32.toInt p0x234
      try simp only [q233, e226, e227, e228, e229, e231] at p1x234
      try have q1x234 := congrArg Int32.toInt p1x234
      have hNZ := p0x234
      have hNQ := p1x234
      refine b_if_eq C (t := 94) rfl rfl rfl (fun c235 => ?_) (fun c235 => ?_)
      · skip
        refine k_aload_n C rfl rfl rfl ?_
        refine z_bipush C (z := 40) rfl rfl rfl (fun x236 ex236 => ?_)
        have q237 : x236.toNatClampNeg = 40 := nck (by omega)
        refine c_VI C (a_X12_strips_x hI223 H_r0 (by omega) (by omega) (fun a4 a5 h4 h5 => by cases (R_r0_4.symm.trans h4); cases (R_r0_5.symm.trans h5); simp only [q237, e226, e227, e228, e229, e231]; exact hNZ (by omega))) rfl rfl rfl rfl rfl ⟨_, rfl, rfl, T_r0, Nat.le_of_ble_eq_true rfl⟩ rfl rfl (Nat.le_of_ble_eq_true rfl) (Nat.le_of_ble_eq_true rfl) (Nat.le_of_ble_eq_true rfl) ?_
        rintro x238 I239 L240 ⟨p0x238, p1x238, p2x238, p3x238, p4x238, p5x238, p6x238, hI239, S241⟩
        have p0x238 := p0x238 r0_4 R_r0_4
        have p1x238 := p1x238 r0_4 R_r0_4
        have p2x238 := p2x238 r0_5 R_r0_5
        have p3x238 := p3x238 r0_4 r0_5 R_r0_4 R_r0_5
        have p4x238 := p4x238 r0_5 R_r0_5
        have p5x238 := p5x238 r0_4 R_r0_4
        have p6x238 := p6x238 r0_5 R_r0_5
        try simp only [q237] at p5x238
        try simp only [q237] at p6x238
        have e242 := CM.j S241 R_r0_1 (by decide) e226
        have e243 := (p5x238 42 (by first | decide | exact ncne (by omega) (by omega) (by omega) | exact nckn (by omega) (by omega) | exact (nckn (by omega) (by omega)).symm)).trans e227
        have e245 := (p5x238 41 (by first | decide | exact ncne (by omega) (by omega) (by omega) | exact nckn (by omega) (by omega) | exact (nckn (by omega) (by omega)).symm)).trans e229
        have e246 := (p5x238 43 (by first | decide | exact ncne (by omega) (by omega) (by omega) | exact nckn (by omega) (by omega) | exact (nckn (by omega) (by omega)).symm)).trans e231
        have gx238 := rg x238
        obtain ⟨x247, e248⟩ : ∃ x, I239 r0_4 40 = x := ⟨_, rfl⟩
        have gx247 := rg x247
        have ox247 := IM.dgR hI239 R_r0_4 e248
        try simp only [q237, e226, e227, e228, e229, e231, e248] at p0x238
        try have q0x238 := congrArg Int32.toInt p0x238
        try simp only [q237, e226, e227, e228, e229, e231, e248] at p1x238
        try have q1x238 := congrArg Int32.toInt p1x238
        try simp only [q237, e226, e227, e228, e229, e231, e248] at p2x238
        try have q2x238 := congrArg Int32.toInt p2x238
        try simp only [q237, e226, e227, e228, e229, e231, e248] at p3x238
        try have q3x238 := congrArg Int32.toInt p3x238
        try simp only [q237, e226, e227, e228, e229, e231, e248] at p4x238
        try have q4x238 := congrArg Int32.toInt p4x238
        have hge := AZ.ge hZ p2x238 (by omega)
        have hA := QN.st hA p3x238 (by omega)
        have nA := STP.ne p3x238 p2x238 (by omega) (by omega)
        have hB := QN.sm hB (fun k hk => p6x238 _ (by omega)) (by omega)
        have nB := NE1.smr nB (fun k hk => p6x238 _ (by omega))
        have nA3 : NE0 _ := nA
        have hs97 : SMR _ I239 r0_5 41 := fun k hk => p6x238 _ (by omega)
        have cM3 : SCD w_r0_1_0.toInt (fun k => RI I r0_5 40 (a9 + k)) (w_r0_4_40.toInt - a9) (fun k => RI I r0_5 41 (b9 + k)) (w_r0_4_41.toInt - b9) (RI I239 r0_5 40) x247.toInt (RI I239 r0_5 41) x214.toInt := SCD.cg (cM2.tr (SCD.sh (m := x238.toNatClampNeg) (D' := x247.toInt) (f' := RI I239 r0_5 40) (fun k hk => by (rw [p4x238 k (by have h9 := ncz (x := x238) (by omega); omega)]; exact PmE.rf)) (fun k hk => by (rw [STP.r p3x238 (by omega)]; exact PmE.rf)) (by have h9 := ncz (x := x238) (by omega); omega) (by have h9 := ncz (x := x238) (by omega); omega))) rfl rfl (fun _ _ => rfl) (fun k hk => RI.s hs97 (by omega))
        have cA3 : RCN I239 r0_5 40 w_r0_1_0.toInt x247.toInt := fun k hk => by (rw [STP.r p3x238 (by omega)]; exact cA2 _ (by have h9 := ncz (x := x238) (by omega); omega))
        have cB3 := RCN.sm cB2 hs97 rfl (by omega)
        refine k_pop C rfl rfl rfl ?_
        refine k_aload_n C rfl rfl rfl ?_
        refine z_bipush C (z := 40) rfl rfl rfl (fun x249 ex249 => ?_)
        refine z_bipush C (z := 42) rfl rfl rfl (fun x250 ex250 => ?_)
        have q251 : x249.toNatClampNeg = 40 := nck (by omega)
        have q252 : x250.toNatClampNeg = 42 := nck (by omega)
        refine c_VV C (a_X12_copies hI239 H_r0 (by omega) (by omega) (by omega) (by omega) (by first | omega | (simp only [q251, q252, e242, e243, e245, e246, e248, and_true, true_and, or_true, true_or, and_false, false_and, or_false, false_or] <;> omega))) rfl rfl rfl rfl rfl ⟨_, rfl, rfl, T_r0, Nat.le_of_ble_eq_true rfl⟩ rfl rfl (Nat.le_of_ble_eq_true rfl) (Nat.le_of_ble_eq_true rfl) (Nat.le_of_ble_eq_true rfl) ?_
        rintro I254 L255 ⟨p0v253, p1v253, p2v253, p3v253, hI254, S256⟩
        have p0v253 := p0v253 r0_4 R_r0_4
        have p1v253 := p1v253 r0_4 r0_5 R_r0_4 R_r0_5
        have p2v253 := p2v253 r0_4 R_r0_4
        have p3v253 := p3v253 r0_5 R_r0_5
        try simp only [q251, q252] at p2v253
        try simp only [q251, q252] at p3v253
        have e257 := CM.j S256 R_r0_1 (by decide) e242
        have e259 := (p2v253 41 (by first | decide | exact ncne (by omega) (by omega) (by omega) | exact nckn (by omega) (by omega) | exact (nckn (by omega) (by omega)).symm)).trans e245
        have e260 := (p2v253 43 (by first | decide | exact ncne (by omega) (by omega) (by omega) | exact nckn (by omega) (by omega) | exact (nckn (by omega) (by omega)).symm)).trans e246
        have e261 := (p2v253 40 (by first | decide | exact ncne (by omega) (by omega) (by omega) | exact nckn (by omega) (by omega) | exact (nckn (by omega) (by omega)).symm)).trans e248
        obtain ⟨x262, e263⟩ : ∃ x, I254 r0_4 42 = x := ⟨_, rfl⟩
        have gx262 := rg x262
        have ox262 := IM.dgR hI254 R_r0_4 e263
        try simp only [q251, q252, e242, e243, e245, e246, e248, e263] at p0v253
        try have q0v253 := congrArg Int32.toInt p0v253
        try simp only [q251, q252, e242, e243, e245, e246, e248, e263] at p1v253
        try have q1v253 := congrArg Int32.toInt p1v253
        have hC := QN.cp hA (CPN.le p1v253 (by omega))
        have nC := NE1.cp nA p1v253 (by omega)
        have hB := QN.sm hB (fun k hk => p3v253 _ (by omega)) (by omega)
        have nB := NE1.smr nB (fun k hk => p3v253 _ (by omega))
        have rC := RWF.cp1 (D := x247.toInt) p1v253 (by omega)
        have rB := RWF.sm1 (r := 41) (D := x214.toInt) (fun k hk => p3v253 _ (by omega)) (by omega)
        refine k_aload_n C rfl rfl rfl ?_
        refine z_bipush C (z := 41) rfl rfl rfl (fun x264 ex264 => ?_)
        refine z_bipush C (z := 40) rfl rfl rfl (fun x265 ex265 => ?_)
        have q266 : x264.toNatClampNeg = 41 := nck (by omega)
        have q267 : x265.toNatClampNeg = 40 := nck (by omega)
        refine c_VV C (a_X12_copies hI254 H_r0 (by omega) (by omega) (by omega) (by omega) (by first | omega | (simp only [q266, q267, e257, e259, e260, e261, e263, and_true, true_and, or_true, true_or, and_false, false_and, or_false, false_or] <;> omega))) rfl rfl rfl rfl rfl ⟨_, rfl, rfl, T_r0, Nat.le_of_ble_eq_true rfl⟩ rfl rfl (Nat.le_of_ble_eq_true rfl) (Nat.le_of_ble_eq_true rfl) (Nat.le_of_ble_eq_true rfl) ?_
        rintro I269 L270 ⟨p0v268, p1v268, p2v268, p3v268, hI269, S271⟩
        have p0v268 := p0v268 r0_4 R_r0_4
        have p1v268 := p1v268 r0_4 r0_5 R_r0_4 R_r0_5
        have p2v268 := p2v268 r0_4 R_r0_4
        have p3v268 := p3v268 r0_5 R_r0_5
        try simp only [q266, q267] at p2v268
        try simp only [q266, q267] at p3v268
        have e272 := CM.j S271 R_r0_1 (by decide) e257
        have e273 := (p2v268 41 (by first | decide | exact ncne (by omega) (by omega) (by omega) | exact nckn (by omega) (by omega) | exact (nckn (by omega) (by omega)).symm)).trans e259
        have e274 := (p2v268 43 (by first | decide | exact ncne (by omega) (by omega) (by omega) | exact nckn (by omega) (by omega) | exact (nckn (by omega) (by omega)).symm)).trans e260
        have e276 := (p2v268 42 (by first | decide | exact ncne (by omega) (by omega) (by omega) | exact nckn (by omega) (by omega) | exact (nckn (by omega) (by omega)).symm)).trans e263
        obtain ⟨x277, e278⟩ : ∃ x, I269 r0_4 40 = x := ⟨_, rfl⟩
        have gx277 := rg x277
        have ox277 := IM.dgR hI269 R_r0_4 e278
        try simp only [q266, q267, e257, e259, e260, e261, e263, e278] at p0v268
        try have q0v268 := congrArg Int32.toInt p0v268
        try simp only [q266, q267, e257, e259, e260, e261, e263, e278] at p1v268
        try have q1v268 := congrArg Int32.toInt p1v268
        have hA := QN.cp hB (CPN.le p1v268 (by omega))
        have nA := NE1.cp nB p1v268 (by omega)
        have hC := QN.sm hC (fun k hk => p3v268 _ (by omega)) (by omega)
        have nC := NE1.smr nC (fun k hk => p3v268 _ (by omega))
        have hB := QN.sm hB (fun k hk => p3v268 _ (by omega)) (by omega)
        have nB := NE1.smr nB (fun k hk => p3v268 _ (by omega))
        have rA := RWF.cpy rB p1v268 (by omega)
        have rC := RWF.sm rC (fun k hk => p3v268 _ (by omega)) (by omega)
        refine k_aload_n C rfl rfl rfl ?_
        refine z_bipush C (z := 42) rfl rfl rfl (fun x279 ex279 => ?_)
        refine z_bipush C (z := 41) rfl rfl rfl (fun x280 ex280 => ?_)
        have q281 : x279.toNatClampNeg = 42 := nck (by omega)
        have q282 : x280.toNatClampNeg = 41 := nck (by omega)
        refine c_VV C (a_X12_copies hI269 H_r0 (by omega) (by omega) (by omega) (by omega) (by first | omega | (simp only [q281, q282, e272, e273, e274, e276, e278, and_true, true_and, or_true, true_or, and_false, false_and, or_false, false_or] <;> omega))) rfl rfl rfl rfl rfl ⟨_, rfl, rfl, T_r0, Nat.le_of_ble_eq_true rfl⟩ rfl rfl (Nat.le_of_ble_eq_true rfl) (Nat.le_of_ble_eq_true rfl) (Nat.le_of_ble_eq_true rfl) ?_
        rintro I284 L285 ⟨p0v283, p1v283, p2v283, p3v283, hI284, S286⟩
        have p0v283 := p0v283 r0_4 R_r0_4
        have p1v283 := p1v283 r0_4 r0_5 R_r0_4 R_r0_5
        have p2v283 := p2v283 r0_4 R_r0_4
        have p3v283 := p3v283 r0_5 R_r0_5
        try simp only [q281, q282] at p2v283
        try simp only [q281, q282] at p3v283
        have e287 := CM.j S286 R_r0_1 (by decide) e272
        have e289 := (p2v283 43 (by first | decide | exact ncne (by omega) (by omega) (by omega) | exact nckn (by omega) (by omega) | exact (nckn (by omega) (by omega)).symm)).trans e274
        have e290 := (p2v283 42 (by first | decide | exact ncne (by omega) (by omega) (by omega) | exact nckn (by omega) (by omega) | exact (nckn (by omega) (by omega)).symm)).trans e276
        have e291 := (p2v283 40 (by first | decide | exact ncne (by omega) (by omega) (by omega) | exact nckn (by omega) (by omega) | exact (nckn (by omega) (by omega)).symm)).trans e278
        obtain ⟨x292, e293⟩ : ∃ x, I284 r0_4 41 = x := ⟨_, rfl⟩
        have gx292 := rg x292
        have ox292 := IM.dgR hI284 R_r0_4 e293
        try simp only [q281, q282, e272, e273, e274, e276, e278, e293] at p0v283
        try have q0v283 := congrArg Int32.toInt p0v283
        try simp only [q281, q282, e272, e273, e274, e276, e278, e293] at p1v283
        try have q1v283 := congrArg Int32.toInt p1v283
        have hB := QN.cp hC (CPN.le p1v283 (by omega))
        have nB := NE1.cp nC p1v283 (by omega)
        have hA := QN.sm hA (fun k hk => p3v283 _ (by omega)) (by omega)
        have nA := NE1.smr nA (fun k hk => p3v283 _ (by omega))
        have rB := RWF.cpy rC p1v283 (by omega)
        have rA := RWF.sm rA (fun k hk => p3v283 _ (by omega)) (by omega)
        have cM9 : SCD w_r0_1_0.toInt (fun k => RI I r0_5 40 (a9 + k)) (w_r0_4_40.toInt - a9) (fun k => RI I r0_5 41 (b9 + k)) (w_r0_4_41.toInt - b9) (RI I284 r0_5 40) x277.toInt (RI I284 r0_5 41) x292.toInt := SCD.cg cM3.sw (by omega) (by omega) rA rB
        have cA9 : RCN I284 r0_5 40 w_r0_1_0.toInt x277.toInt := RWF.rc rA cB3 (by omega)
        have cB9 : RCN I284 r0_5 41 w_r0_1_0.toInt x292.toInt := RWF.rc rB cA3 (by omega)
        have n9 : NE0 (RI I284 r0_5 41 0) := by (unfold NE0; rw [rB 0 (by omega)]; exact nA3)
        refine k_goto C (pc2 := 25) rfl rfl ?_
        refine k_sub S [(0, .ref r0), (1, .int x26), (2, .int x32)] (List.forall_mem_cons.mpr ⟨List.mem_of_getElem? (i := 0) rfl, List.forall_mem_cons.mpr ⟨List.mem_of_getElem? (i := 1) rfl, List.forall_mem_cons.mpr ⟨List.mem_of_getElem? (i := 2) rfl, fun _ h => nomatch h⟩⟩⟩) ?_
        exact ihJ28 _ (MN.lt hmnn29 (by omega) (by omega)) I284 L285 x32 x277 x292 rfl hI284 (CM.cons S35 (CM.cons S182 (CM.cons S195 (CM.cons S209 (CM.cons S225 (CM.cons S241 (CM.cons S256 (CM.cons S271 (CM.mono S286 (by decide) (by decide)) (by decide) (by decide)) (by decide) (by decide)) (by decide) (by decide)) (by decide) (by decide)) (by decide) (by decide)) (by decide) (by decide)) (by decide) (by decide)) (by decide) (by decide)) (by omega) (by omega) e291 (by omega) (by omega) e293 (by omega) (by omega) (by exact QN.le hA (by omega)) (by exact QN.le hB (by omega)) (by first | exact fun h => absurd (by omega) h | exact fun _ => nA) (by first | exact fun h => absurd (by omega) h | exact fun _ => nB) (by first | exact cM2 | exact cM9) (by first | exact cA2 | exact cA9) (by first | exact cB2 | exact cB9) (by first | exact n2 | exact n9) (by first | (intro h9; exfalso; omega) | exact fun _ k hk => hNQ.1 (by omega) k (by rw [e291]; exact hk))
      refine z_iconst C (z := 0) rfl rfl rfl (fun x294 ex294 => ?_)
      refine k_istore_n C (lw := [(2, .int x294), (0, .ref r0), (1, .int x26)]) rfl rfl (Nat.le_of_ble_eq_true rfl) rfl ?_
      refine k_goto C (pc2 := 25) rfl rfl ?_
      refine k_sub S [(0, .ref r0), (1, .int x26), (2, .int x294)] (List.forall_mem_cons.mpr ⟨List.mem_of_getElem? (i := 1) rfl, List.forall_mem_cons.mpr ⟨List.mem_of_getElem? (i := 2) rfl, List.forall_mem_cons.mpr ⟨List.mem_of_getElem? (i := 0) rfl, fun _ h => nomatch h⟩⟩⟩) ?_
      exact ihJ28 _ (MN.lt hmnn29 (by omega) (by omega)) I223 L224 x294 x200 x214 rfl hI223 (CM.cons S35 (CM.cons S182 (CM.cons S195 (CM.cons S209 (CM.mono S225 (by decide) (by decide)) (by decide) (by decide)) (by decide) (by decide)) (by decide) (by decide)) (by decide) (by decide)) (by omega) (by omega) e228 (by omega) (by omega) e229 (by omega) (by omega) (by exact QN.le hA (by omega)) (by exact QN.le hB (by omega)) (by first | exact fun h => absurd (by omega) h | exact fun _ => nA) (by first | exact fun h => absurd (by omega) h | exact fun _ => nB) (by first | exact cM2 | exact cM9) (by first | exact cA2 | exact cA9) (by first | exact cB2 | exact cB9) (by first | exact n2 | exact n9) (by first | (intro h9; exfalso; omega) | exact fun _ k hk => hNQ.1 (by omega) k (by rw [e228]; exact hk))
  refine k_istore_n C (lw := [(2, .int x27), (1, .int x26), (0, .ref r0)]) rfl rfl (Nat.le_of_ble_eq_true rfl) rfl ?_
  refine k_sub S [(0, .ref r0), (1, .int x26), (2, .int x27)] (List.forall_mem_cons.mpr ⟨List.mem_of_getElem? (i := 2) rfl, List.forall_mem_cons.mpr ⟨List.mem_of_getElem? (i := 1) rfl, List.forall_mem_cons.mpr ⟨List.mem_of_getElem? (i := 0) rfl, fun _ h => nomatch h⟩⟩⟩) ?_
  exact J28 _ I18 L19 x27 x10 x24 rfl hI18 CM.rf (by omega) (by omega) e23 (by omega) (by omega) e25 (by omega) (by omega) (by exact QN.le hA (by omega)) (by exact QN.le hB (by omega)) (by exact fun _ => nA) (by exact fun _ => nB) (by exact SCD.rf.cg (by omega) (by omega) rA16 rB16) (by exact RWF.rc rA16 (fun k hk => hp6 (a9 + k) (by omega)) (by omega)) (by exact RWF.rc rB16 (fun k hk => hp7 (b9 + k) (by omega)) (by omega)) (by exact RWF.n0 rB16 (by have h9 := hFB.1; omega) hFB.2.1) (by intro h9; exfalso; omega)

theorem a_X12_plain_x {d : Nat} {T N : Nat → Nat} {I : IT} {L : LT} {R : RT} {A : Nat → Prop} {r0 : Nat} {n1 : Int32} (hI : IM R r0 I) (H_r0 : (h_MD T N R A) r0) (hp0 : ∀ a1, R r0 1 = some a1 → CNW (I a1)) : Ex (d + 7) 295 [.ref r0, .int n1] (T, N, I, L, R) 0 0 (pI T N R (fun x9 I9 L9 => (0 ≤ x9.toInt) ∧ (x9.toInt ≤ 1) ∧ (∀ a1, R r0 1 = some a1 → (n1.toInt < 0 ∨ (I a1 1).toInt ≤ n1.toInt) ∧ (I9 r0 0).toInt = 1 ∨ ¬ (n1.toInt < 0 ∨ (I a1 1).toInt ≤ n1.toInt) ∧ (I9 r0 0).toInt = 0 ∧ PLN x9.toInt (I a1 0).toInt (I a1 (6 + 10 * n1.toNatClampNeg)).toInt (fun k => (I a1 (7 + 10 * n1.toNatClampNeg + k)).toInt)) ∧ (IM R r0 I9 ∧ CM A R r0 [0] [4, 5] I L I9 L9))) := by
  refine ⟨_, rfl, Nat.le_of_ble_eq_true rfl, fun V C S => ?_⟩
  show V 0 [(0, .ref r0), (1, .int n1)] [] (T, N, I, L, R) 0 0
  have gn1 := rg n1
  obtain ⟨T_r0, A_r0, ⟨r0_1, R_r0_1, H_r0_1⟩, ⟨r0_2, R_r0_2, H_r0_2⟩, ⟨r0_4, R_r0_4, H_r0_4⟩, ⟨r0_5, R_r0_5, H_r0_5⟩, ⟨r0_10, R_r0_10, H_r0_10⟩, ⟨r0_18, R_r0_18, H_r0_18⟩, ⟨r0_20, R_r0_20, H_r0_20⟩, ⟨r0_21, R_r0_21, H_r0_21⟩, ⟨r0_22, R_r0_22, H_r0_22⟩, ⟨r0_23, R_r0_23, H_r0_23⟩, ⟨r0_25, R_r0_25, H_r0_25⟩, ⟨r0_26, R_r0_26, H_r0_26⟩, ⟨r0_27, R_r0_27, H_r0_27⟩, ⟨r0_28, R_r0_28, H_r0_28⟩, ⟨r0_34, R_r0_34, H_r0_34⟩, J_r0, Y_r0⟩ := id H_r0
  have G_r0 : mF T R r0 := ⟨J_r0, Y_r0, T_r0⟩
  obtain ⟨w_r0_1_1, k0_r0_1_1⟩ : ∃ x, I r0_1 1 = x := ⟨_, rfl⟩
  have gw_r0_1_1 := rg w_r0_1_1
  have ow_r0_1_1 := IM.c1 hI R_r0_1 k0_r0_1_1
  obtain ⟨w_r0_1_0, k0_r0_1_0⟩ : ∃ x, I r0_1 0 = x := ⟨_, rfl⟩
  have gw_r0_1_0 := rg w_r0_1_0
  have ow_r0_1_0 := IM.pi hI R_r0_1 k0_r0_1_0
  obtain ⟨w_r0_1_E_6_10_n1_toNatClampNeg, k0_r0_1_E_6_10_n1_toNatClampNeg⟩ : ∃ x, I r0_1 (6 + 10 * n1.toNatClampNeg) = x := ⟨_, rfl⟩
  have gw_r0_1_E_6_10_n1_toNatClampNeg := rg w_r0_1_E_6_10_n1_toNatClampNeg
  have hp0 := hp0 r0_1 R_r0_1
  try simp only [k0_r0_1_1, k0_r0_1_0, k0_r0_1_E_6_10_n1_toNatClampNeg] at hp0
  refine k_aload_n C rfl rfl rfl ?_
  refine z_iconst C (z := 0) rfl rfl rfl (fun x1 ex1 => ?_)
  refine z_pI C rfl rfl rfl T_r0 (Or.inr rfl) rfl (fun I2 uI2 => ?_)
  have hI2 : IM R r0 I2 := IM.fld hI G_r0 ⟨(fun h => absurd h (by decide)), (fun h => absurd h (by decide)), (fun h => absurd h (by decide)), (fun h => absurd h (by decide)), (fun h => absurd h (by decide))⟩ uI2
  have S3 : CM A R r0 [0] [] I L I2 L := CM.f G_r0 A_r0 uI2
  have e4 := u2_n uI2 (mF.ne G_r0 R_r0_1) k0_r0_1_1
  have e5 := u2_n uI2 (mF.ne G_r0 R_r0_1) k0_r0_1_0
  have e6 := u2_n uI2 (mF.ne G_r0 R_r0_1) k0_r0_1_E_6_10_n1_toNatClampNeg
  have e7 := u2_e uI2
  refine k_aload_n C rfl rfl rfl ?_
  refine k_aload_n C rfl rfl rfl ?_
  refine k_iload_n C rfl rfl rfl ?_
  refine c_VI C (a_X12_noForm_e hI2 H_r0) rfl rfl rfl rfl rfl ⟨_, rfl, rfl, T_r0, Nat.le_of_ble_eq_true rfl⟩ rfl rfl (Nat.le_of_ble_eq_true rfl) (Nat.le_of_ble_eq_true rfl) (Nat.le_of_ble_eq_true rfl) ?_
  rintro x8 _ _ ⟨o0x8, o1x8, p0x8, rfl, rfl⟩
  have p0x8 := p0x8 r0_1 R_r0_1
  have gx8 := rg x8
  try simp only [e4, e5, e6, e7, e4] at p0x8
  try have q0x8 := congrArg Int32.toInt p0x8
  refine z_iconst C (z := 1) rfl rfl rfl (fun x9 ex9 => ?_)
  have q10 : x9.toNatClampNeg = 1 := nck (by omega)
  refine c_VI C (a_X12_throwsIf_e hI2 H_r0 (by omega) (by omega)) rfl rfl rfl rfl rfl ⟨_, rfl, rfl, T_r0, Nat.le_of_ble_eq_true rfl⟩ rfl rfl (Nat.le_of_ble_eq_true rfl) (Nat.le_of_ble_eq_true rfl) (Nat.le_of_ble_eq_true rfl) ?_
  rintro x11 I12 L13 ⟨o0x11, o1x11, p0x11, p1x11, hI12, S14⟩
  have e15 := CM.j S14 R_r0_1 (by decide) e4
  have e16 := CM.j S14 R_r0_1 (by decide) e5
  have e17 := CM.j S14 R_r0_1 (by decide) e6
  have gx11 := rg x11
  obtain ⟨x19, e20⟩ : ∃ x, I12 r0 0 = x := ⟨_, rfl⟩
  have gx19 := rg x19
  try simp only [q10, e4, e5, e6, e7, e20] at p0x11
  try have q0x11 := congrArg Int32.toInt p0x11
  try simp only [q10, e4, e5, e6, e7, e20] at p1x11
  try have q1x11 := congrArg Int32.toInt p1x11
  refine b_if_eq C (t := 20) rfl rfl rfl (fun c21 => ?_) (fun c21 => ?_)
  · skip
    refine k_aload_n C rfl rfl rfl ?_
    refine z_bipush C (z := 44) rfl rfl rfl (fun x22 ex22 => ?_)
    refine k_iload_n C rfl rfl rfl ?_
    have hw24 := CM.j0 (W := [0]) (WA := []) (CM.cons S3 (CM.mono S14 (by decide) (by decide)) (by decide) (by decide)) R_r0_1 (by decide)
    have q23 : x22.toNatClampNeg = 44 := nck (by omega)
    refine c_VV C (a_X12_takes_e hI12 H_r0 (by omega) (by omega) (by omega) (by omega)) rfl rfl rfl rfl rfl ⟨_, rfl, rfl, T_r0, Nat.le_of_ble_eq_true rfl⟩ rfl rfl (Nat.le_of_ble_eq_true rfl) (Nat.le_of_ble_eq_true rfl) (Nat.le_of_ble_eq_true rfl) ?_
    rintro I25 L26 ⟨p0v24, p1v24, p2v24, p3v24, p4v24, p5v24, hI25, S27⟩
    have p0v24 := p0v24 r0_4 R_r0_4
    have p1v24 := p1v24 r0_1 r0_4 R_r0_1 R_r0_4
    have p2v24 := p2v24 r0_1 r0_4 r0_5 R_r0_1 R_r0_4 R_r0_5
    have p3v24 := p3v24 r0_1 r0_4 r0_5 R_r0_1 R_r0_4 R_r0_5
    have p4v24 := p4v24 r0_4 R_r0_4
    have p5v24 := p5v24 r0_5 R_r0_5
    try simp only [q23] at p4v24
    try simp only [q23] at p5v24
    have e28 := CM.j S27 R_r0_1 (by decide) e15
    have e29 := CM.j S27 R_r0_1 (by decide) e16
    have e30 := CM.j S27 R_r0_1 (by decide) e17
    have e31 := CM.k S27 (by decide) e20
    obtain ⟨x32, e33⟩ : ∃ x, I25 r0_4 44 = x := ⟨_, rfl⟩
    have gx32 := rg x32
    have ox32 := IM.dgR hI25 R_r0_4 e33
    try simp only [q23, e15, e16, e17, e20, e33] at p0v24
    try have q0v24 := congrArg Int32.toInt p0v24
    try simp only [q23, e15, e16, e17, e20, e33] at p1v24
    try have q1v24 := congrArg Int32.toInt p1v24
    try simp only [q23, e15, e16, e17, e20, e33] at p2v24
    try have q2v24 := congrArg Int32.toInt p2v24
    try simp only [q23, e15, e16, e17, e20, e33] at p3v24
    try have q3v24 := congrArg Int32.toInt p3v24
    have hd9 := p1v24
    have hT9 := TKE.w p3v24 hw24
    have hcr := CNW.g (f := n1) hp0 (by rw [k0_r0_1_E_6_10_n1_toNatClampNeg]) (by rw [k0_r0_1_0]) (by omega) (by simp only [k0_r0_1_1]; omega)
    have hRW : RWF I25 r0_5 44 w_r0_1_E_6_10_n1_toNatClampNeg.toInt (fun k => (I r0_1 (7 + 10 * n1.toNatClampNeg + k)).toInt) := fun k hk => by (rw [hT9 k (by omega), show 6 + 10 * n1.toNatClampNeg + 1 + k = 7 + 10 * n1.toNatClampNeg + k from by omega])
    refine k_aload_n C rfl rfl rfl ?_
    refine g_R C rfl rfl rfl T_r0 rfl R_r0_4 ?_
    refine z_bipush C (z := 44) rfl rfl rfl (fun x34 ex34 => ?_)
    obtain ⟨T_r0_4, N_r0_4, A_r0_4⟩ := id H_r0_4
    refine a_I C rfl rfl T_r0_4 (by rw [N_r0_4]; exact vpi (by omega) (by omega)) ((congrArg (I25 r0_4) (nck (n := 44) (by omega))).trans e33) ?_
    refine z_iconst C (z := 2) rfl rfl rfl (fun x35 ex35 => ?_)
    refine b_icmp_lt C (t := 47) rfl rfl rfl (fun c36 => ?_) (fun c36 => ?_)
    · skip
      refine z_iconst C (z := 0) rfl rfl rfl (fun x37 ex37 => ?_)
      exact k_iret C rfl (Or.inr ⟨rfl, z01 (by omega) (by omega)⟩) (Nat.le_of_ble_eq_true rfl) (Nat.le_of_ble_eq_true rfl) ⟨_, _, _, rfl, rfl, by omega, by omega, fun a1 h1 => by cases (R_r0_1.symm.trans h1); refine Or.inr ⟨by simp only [k0_r0_1_1]; omega, by rw [e31]; omega, ?_⟩; simp only [k0_r0_1_0, k0_r0_1_E_6_10_n1_toNatClampNeg]; first | exact PLN.s (by omega) (by omega) | exact PLN.nq (by omega) (hN0.1 (by omega)) (by omega) (by omega), hI25, (CM.cons S3 (CM.cons S14 (CM.mono S27 (by decide) (by decide)) (by decide) (by decide)) (by decide) (by decide))⟩
    refine k_aload_n C rfl rfl rfl ?_
    refine z_bipush C (z := 44) rfl rfl rfl (fun x38 ex38 => ?_)
    have q39 : x38.toNatClampNeg = 44 := nck (by omega)
    refine c_VI C (a_X12_isNought_e hI25 H_r0 (by omega) (by omega)) rfl rfl rfl rfl rfl ⟨_, rfl, rfl, T_r0, Nat.le_of_ble_eq_true rfl⟩ rfl rfl (Nat.le_of_ble_eq_true rfl) (Nat.le_of_ble_eq_true rfl) (Nat.le_of_ble_eq_true rfl) ?_
    rintro x40 _ _ ⟨o0x40, o1x40, p0x40, p1x40, rfl, rfl⟩
    have p0x40 := p0x40 r0_4 r0_5 R_r0_4 R_r0_5
    have p1x40 := p1x40 r0_4 r0_5 R_r0_4 R_r0_5
    have gx40 := rg x40
    try simp only [q39, e28, e29, e30, e31, e33] at p0x40
    try have q0x40 := congrArg Int32.toInt p0x40
    try simp only [q39, e28, e29, e30, e31, e33] at p1x40
    try have q1x40 := congrArg Int32.toInt p1x40
    have hN0 := NQI.w (D := w_r0_1_E_6_10_n1_toNatClampNeg.toInt) p1x40 (by rw [e33]; omega) hRW
    refine b_if_eq C (t := 49) rfl rfl rfl (fun c41 => ?_) (fun c41 => ?_)
    · skip
      refine k_aload_n C rfl rfl rfl ?_
      refine z_bipush C (z := 44) rfl rfl rfl (fun x42 ex42 => ?_)
      refine z_iconst C (z := 1) rfl rfl rfl (fun x43 ex43 => ?_)
      refine z_iconst C (z := 0) rfl rfl rfl (fun x44 ex44 => ?_)
      refine z_bipush C (z := 40) rfl rfl rfl (fun x45 ex45 => ?_)
      have q46 : x42.toNatClampNeg = 44 := nck (by omega)
      have q47 : x43.toNatClampNeg = 1 := nck (by omega)
      have q48 : x44.toNatClampNeg = 0 := nck (by omega)
      have q49 : x45.toNatClampNeg = 40 := nck (by omega)
      refine c_VV C (a_X12_differentiates_x hI25 H_r0 (by omega) (by omega) (by omega) (by omega) (by omega) (by omega) (by omega) (by omega) (by first | omega | (simp only [q46, q47, q48, q49, e28, e29, e30, e31, e33, and_true, true_and, or_true, true_or, and_false, false_and, or_false, false_or] <;> omega)) (fun a4 h4 => by cases (R_r0_4.symm.trans h4); first | omega | (simp only [q46, q47, q48, q49, e28, e29, e30, e31, e33, and_true, true_and, or_true, true_or, and_false, false_and, or_false, false_or] <;> omega)) (fun a1 a4 a5 h1 h4 h5 => by cases (R_r0_1.symm.trans h1); cases (R_r0_4.symm.trans h4); cases (R_r0_5.symm.trans h5); simp only [q46, q47, q48, q49, e28, e29, e30, e31, e33]; intro k hk; exact (RWF.cn hRW hcr) k (by omega))) rfl rfl rfl rfl rfl ⟨_, rfl, rfl, T_r0, Nat.le_of_ble_eq_true rfl⟩ rfl rfl (Nat.le_of_ble_eq_true rfl) (Nat.le_of_ble_eq_true rfl) (Nat.le_of_ble_eq_true rfl) ?_
      rintro I51 L52 ⟨p0v50, p1v50, p2v50, p3v50, p4v50, hI51, S53⟩
      have p0v50 := p0v50 r0_4 R_r0_4
      have p1v50 := p1v50 r0_1 r0_4 r0_5 R_r0_1 R_r0_4 R_r0_5
      have p2v50 := p2v50 r0_1 r0_4 r0_5 R_r0_1 R_r0_4 R_r0_5
      have p3v50 := p3v50 r0_4 R_r0_4
      have p4v50 := p4v50 r0_5 R_r0_5
      try simp only [q46, q47, q48, q49] at p3v50
      try simp only [q46, q47, q48, q49] at p4v50
      have e54 := CM.j S53 R_r0_1 (by decide) e28
      have e55 := CM.j S53 R_r0_1 (by decide) e29
      have e56 := CM.j S53 R_r0_1 (by decide) e30
      have e57 := CM.k S53 (by decide) e31
      have e58 := (p3v50 44 (by first | decide | exact ncne (by omega) (by omega) (by omega) | exact nckn (by omega) (by omega) | exact (nckn (by omega) (by omega)).symm)).trans e33
      obtain ⟨x59, e60⟩ : ∃ x, I51 r0_4 40 = x := ⟨_, rfl⟩
      have gx59 := rg x59
      have ox59 := IM.dgR hI51 R_r0_4 e60
      try simp only [q46, q47, q48, q49, e28, e29, e30, e31, e33, e60] at p0v50
      try have q0v50 := congrArg Int32.toInt p0v50
      try simp only [q46, q47, q48, q49, e28, e29, e30, e31, e33, e60] at p1v50
      try have q1v50 := congrArg Int32.toInt p1v50
      try simp only [q46, q47, q48, q49, e28, e29, e30, e31, e33, e60] at p2v50
      try have q2v50 := congrArg Int32.toInt p2v50
      have hA := p1v50
      have hvx : VRF (RI I51 r0_5 40) w_r0_1_0.toInt (w_r0_1_E_6_10_n1_toNatClampNeg.toInt - 1) (DIF (fun k => (I r0_1 (7 + 10 * n1.toNatClampNeg + k)).toInt) w_r0_1_E_6_10_n1_toNatClampNeg.toInt 1 0) := RVX.vf p2v50 (by omega) (by omega) (by first | rfl | exact nck (by omega)) (by first | rfl | exact nck (by omega)) hRW (by omega)
      have hRW2 := RWF.sm hRW (fun k hk => p4v50 _ (by omega)) (by omega)
      refine k_aload_n C rfl rfl rfl ?_
      refine z_bipush C (z := 44) rfl rfl rfl (fun x61 ex61 => ?_)
      refine z_iconst C (z := 0) rfl rfl rfl (fun x62 ex62 => ?_)
      refine z_iconst C (z := 1) rfl rfl rfl (fun x63 ex63 => ?_)
      refine z_bipush C (z := 41) rfl rfl rfl (fun x64 ex64 => ?_)
      have q65 : x61.toNatClampNeg = 44 := nck (by omega)
      have q66 : x62.toNatClampNeg = 0 := nck (by omega)
      have q67 : x63.toNatClampNeg = 1 := nck (by omega)
      have q68 : x64.toNatClampNeg = 41 := nck (by omega)
      refine c_VV C (a_X12_differentiates_x hI51 H_r0 (by omega) (by omega) (by omega) (by omega) (by omega) (by omega) (by omega) (by omega) (by first | omega | (simp only [q65, q66, q67, q68, e54, e55, e56, e57, e58, e60, and_true, true_and, or_true, true_or, and_false, false_and, or_false, false_or] <;> omega)) (fun a4 h4 => by cases (R_r0_4.symm.trans h4); first | omega | (simp only [q65, q66, q67, q68, e54, e55, e56, e57, e58, e60, and_true, true_and, or_true, true_or, and_false, false_and, or_false, false_or] <;> omega)) (fun a1 a4 a5 h1 h4 h5 => by cases (R_r0_1.symm.trans h1); cases (R_r0_4.symm.trans h4); cases (R_r0_5.symm.trans h5); simp only [q65, q66, q67, q68, e54, e55, e56, e57, e58, e60]; intro k hk; exact (RWF.cn hRW2 hcr) k (by omega))) rfl rfl rfl rfl rfl ⟨_, rfl, rfl, T_r0, Nat.le_of_ble_eq_true rfl⟩ rfl rfl (Nat.le_of_ble_eq_true rfl) (Nat.le_of_ble_eq_true rfl) (Nat.le_of_ble_eq_true rfl) ?_
      rintro I70 L71 ⟨p0v69, p1v69, p2v69, p3v69, p4v69, hI70, S72⟩
      have p0v69 := p0v69 r0_4 R_r0_4
      have p1v69 := p1v69 r0_1 r0_4 r0_5 R_r0_1 R_r0_4 R_r0_5
      have p2v69 := p2v69 r0_1 r0_4 r0_5 R_r0_1 R_r0_4 R_r0_5
      have p3v69 := p3v69 r0_4 R_r0_4
      have p4v69 := p4v69 r0_5 R_r0_5
      try simp only [q65, q66, q67, q68] at p3v69
      try simp only [q65, q66, q67, q68] at p4v69
      have e73 := CM.j S72 R_r0_1 (by decide) e54
      have e74 := CM.j S72 R_r0_1 (by decide) e55
      have e75 := CM.j S72 R_r0_1 (by decide) e56
      have e76 := CM.k S72 (by decide) e57
      have e77 := (p3v69 44 (by first | decide | exact ncne (by omega) (by omega) (by omega) | exact nckn (by omega) (by omega) | exact (nckn (by omega) (by omega)).symm)).trans e58
      have e78 := (p3v69 40 (by first | decide | exact ncne (by omega) (by omega) (by omega) | exact nckn (by omega) (by omega) | exact (nckn (by omega) (by omega)).symm)).trans e60
      obtain ⟨x79, e80⟩ : ∃ x, I70 r0_4 41 = x := ⟨_, rfl⟩
      have gx79 := rg x79
      have ox79 := IM.dgR hI70 R_r0_4 e80
      try simp only [q65, q66, q67, q68, e54, e55, e56, e57, e58, e60, e80] at p0v69
      try have q0v69 := congrArg Int32.toInt p0v69
      try simp only [q65, q66, q67, q68, e54, e55, e56, e57, e58, e60, e80] at p1v69
      try have q1v69 := congrArg Int32.toInt p1v69
      try simp only [q65, q66, q67, q68, e54, e55, e56, e57, e58, e60, e80] at p2v69
      try have q2v69 := congrArg Int32.toInt p2v69
      have hB := p1v69
      have hA := QN.sm hA (fun k hk => p4v69 _ (by omega)) (by omega)
      have hvy : VRF (RI I70 r0_5 41) w_r0_1_0.toInt (w_r0_1_E_6_10_n1_toNatClampNeg.toInt - 1) (DIF (fun k => (I r0_1 (7 + 10 * n1.toNatClampNeg + k)).toInt) w_r0_1_E_6_10_n1_toNatClampNeg.toInt 0 1) := RVX.vf p2v69 (by omega) (by omega) (by first | rfl | exact nck (by omega)) (by first | rfl | exact nck (by omega)) hRW2 (by omega)
      have hvx2 := VRF.sm hvx (fun k hk => p4v69 _ (by omega)) (by omega)
      refine k_aload_n C rfl rfl rfl ?_
      refine z_bipush C (z := 40) rfl rfl rfl (fun x81 ex81 => ?_)
      have q82 : x81.toNatClampNeg = 40 := nck (by omega)
      refine c_VI C (a_X12_isNought_e hI70 H_r0 (by omega) (by omega)) rfl rfl rfl rfl rfl ⟨_, rfl, rfl, T_r0, Nat.le_of_ble_eq_true rfl⟩ rfl rfl (Nat.le_of_ble_eq_true rfl) (Nat.le_of_ble_eq_true rfl) (Nat.le_of_ble_eq_true rfl) ?_
      rintro x83 _ _ ⟨o0x83, o1x83, p0x83, p1x83, rfl, rfl⟩
      have p0x83 := p0x83 r0_4 r0_5 R_r0_4 R_r0_5
      have p1x83 := p1x83 r0_4 r0_5 R_r0_4 R_r0_5
      have gx83 := rg x83
      try simp only [q82, e73, e74, e75, e76, e77, e78, e80] at p0x83
      try have q0x83 := congrArg Int32.toInt p0x83
      try simp only [q82, e73, e74, e75, e76, e77, e78, e80] at p1x83
      try have q1x83 := congrArg Int32.toInt p1x83
      have zA := p0x83
      have hN1 := NQI9 (D := w_r0_1_E_6_10_n1_toNatClampNeg.toInt - 1) p1x83 (by rw [e78]; omega)
      refine b_if_ne C (t := 87) rfl rfl rfl (fun c84 => ?_) (fun c84 => ?_)
      · skip
        refine z_iconst C (z := 0) rfl rfl rfl (fun x85 ex85 => ?_)
        exact k_iret C rfl (Or.inr ⟨rfl, z01 (by omega) (by omega)⟩) (Nat.le_of_ble_eq_true rfl) (Nat.le_of_ble_eq_true rfl) ⟨_, _, _, rfl, rfl, by omega, by omega, fun a1 h1 => by cases (R_r0_1.symm.trans h1); refine Or.inr ⟨by simp only [k0_r0_1_1]; omega, by rw [e76]; omega, ?_⟩; simp only [k0_r0_1_0, k0_r0_1_E_6_10_n1_toNatClampNeg]; exact PLN.z (by omega) hvx2 hvy (by first | exact Or.inl (hN1.1 (by omega)) | exact Or.inr (hN2.1 (by omega))) (by omega), hI70, (CM.cons S3 (CM.cons S14 (CM.cons S27 (CM.cons S53 (CM.mono S72 (by decide) (by decide)) (by decide) (by decide)) (by decide) (by decide)) (by decide) (by decide)) (by decide) (by decide))⟩
      refine k_aload_n C rfl rfl rfl ?_
      refine z_bipush C (z := 41) rfl rfl rfl (fun x86 ex86 => ?_)
      have q87 : x86.toNatClampNeg = 41 := nck (by omega)
      refine c_VI C (a_X12_isNought_e hI70 H_r0 (by omega) (by omega)) rfl rfl rfl rfl rfl ⟨_, rfl, rfl, T_r0, Nat.le_of_ble_eq_true rfl⟩ rfl rfl (Nat.le_of_ble_eq_true rfl) (Nat.le_of_ble_eq_true rfl) (Nat.le_of_ble_eq_true rfl) ?_
      rintro x88 _ _ ⟨o0x88, o1x88, p0x88, p1x88, rfl, rfl⟩
      have p0x88 := p0x88 r0_4 r0_5 R_r0_4 R_r0_5
      have p1x88 := p1x88 r0_4 r0_5 R_r0_4 R_r0_5
      have gx88 := rg x88
      try simp only [q87, e73, e74, e75, e76, e77, e78, e80] at p0x88
      try have q0x88 := congrArg Int32.toInt p0x88
      try simp only [q87, e73, e74, e75, e76, e77, e78, e80] at p1x88
      try have q1x88 := congrArg Int32.toInt p1x88
      have zB := p0x88
      have hN2 := NQI9 (D := w_r0_1_E_6_10_n1_toNatClampNeg.toInt - 1) p1x88 (by rw [e80]; omega)
      refine b_if_eq C (t := 89) rfl rfl rfl (fun c89 => ?_) (fun c89 => ?_)
      · skip
        refine k_aload_n C rfl rfl rfl ?_
        refine c_VV C (a_X12_commons_x hI70 H_r0 (fun a4 h4 => by cases (R_r0_4.symm.trans h4); first | omega | (simp only [e73, e74, e75, e76, e77, e78, e80, and_true, true_and, or_true, true_or, and_false, false_and, or_false, false_or] <;> omega)) (fun a4 h4 => by cases (R_r0_4.symm.trans h4); first | omega | (simp only [e73, e74, e75, e76, e77, e78, e80, and_true, true_and, or_true, true_or, and_false, false_and, or_false, false_or] <;> omega)) (fun a4 a5 h4 h5 => by cases (R_r0_4.symm.trans h4); cases (R_r0_5.symm.trans h5); simp only [e73, e74, e75, e76, e77, e78, e80]; exact zA (by omega)) (fun a4 a5 h4 h5 => by cases (R_r0_4.symm.trans h4); cases (R_r0_5.symm.trans h5); simp only [e73, e74, e75, e76, e77, e78, e80]; exact zB (by omega)) (fun a1 a4 a5 h1 h4 h5 => by cases (R_r0_1.symm.trans h1); cases (R_r0_4.symm.trans h4); cases (R_r0_5.symm.trans h5); simp only [e73, e74, e75, e76, e77, e78, e80]; exact hA) (fun a1 a4 a5 h1 h4 h5 => by cases (R_r0_1.symm.trans h1); cases (R_r0_4.symm.trans h4); cases (R_r0_5.symm.trans h5); simp only [e73, e74, e75, e76, e77, e78, e80]; exact hB) (fun a1 a4 a5 h1 h4 h5 => by cases (R_r0_1.symm.trans h1); cases (R_r0_4.symm.trans h4); cases (R_r0_5.symm.trans h5); simp only [e73, e74, e75, e76, e77, e78, e80]; exact VRF.rc hvx2 (by omega)) (fun a1 a4 a5 h1 h4 h5 => by cases (R_r0_1.symm.trans h1); cases (R_r0_4.symm.trans h4); cases (R_r0_5.symm.trans h5); simp only [e73, e74, e75, e76, e77, e78, e80]; exact VRF.rc hvy (by omega))) rfl rfl rfl rfl rfl ⟨_, rfl, rfl, T_r0, Nat.le_of_ble_eq_true rfl⟩ rfl rfl (Nat.le_of_ble_eq_true rfl) (Nat.le_of_ble_eq_true rfl) (Nat.le_of_ble_eq_true rfl) ?_
        rintro I91 L92 ⟨p0v90, hI91, S93⟩
        have p0v90 := p0v90 r0_1 r0_4 r0_5 R_r0_1 R_r0_4 R_r0_5
        have e94 := CM.j S93 R_r0_1 (by decide) e73
        have e95 := CM.j S93 R_r0_1 (by decide) e74
        have e96 := CM.j S93 R_r0_1 (by decide) e75
        have e97 := CM.k S93 (by decide) e76
        obtain ⟨x101, e102⟩ : ∃ x, I91 r0_4 40 = x := ⟨_, rfl⟩
        have gx101 := rg x101
        have ox101 := IM.dgR hI91 R_r0_4 e102
        try simp only [e73, e74, e75, e76, e77, e78, e80, e102] at p0v90
        try have q0v90 := congrArg Int32.toInt p0v90
        have hCM := p0v90
        refine k_aload_n C rfl rfl rfl ?_
        refine g_R C rfl rfl rfl T_r0 rfl R_r0_4 ?_
        refine z_bipush C (z := 40) rfl rfl rfl (fun x103 ex103 => ?_)
        refine a_I C rfl rfl T_r0_4 (by rw [N_r0_4]; exact vpi (by omega) (by omega)) ((congrArg (I91 r0_4) (nck (n := 40) (by omega))).trans e102) ?_
        refine b_if_ne C (t := 107) rfl rfl rfl (fun c104 => ?_) (fun c104 => ?_)
        · skip
          refine z_iconst C (z := 0) rfl rfl rfl (fun x105 ex105 => ?_)
          exact k_iret C rfl (Or.inr ⟨rfl, z01 (by omega) (by omega)⟩) (Nat.le_of_ble_eq_true rfl) (Nat.le_of_ble_eq_true rfl) ⟨_, _, _, rfl, rfl, by omega, by omega, fun a1 h1 => by cases (R_r0_1.symm.trans h1); refine Or.inr ⟨by simp only [k0_r0_1_1]; omega, by rw [e97]; omega, ?_⟩; simp only [k0_r0_1_0, k0_r0_1_E_6_10_n1_toNatClampNeg]; exact PLN.y (by omega) hvx2 hvy (hN1.2 (by omega)) (hN2.2 (by omega)) (COM.dd hCM (by omega) (by omega)) (fun h9 => by omega) (fun h9 => by omega), hI91, (CM.cons S3 (CM.cons S14 (CM.cons S27 (CM.cons S53 (CM.cons S72 (CM.mono S93 (by decide) (by decide)) (by decide) (by decide)) (by decide) (by decide)) (by decide) (by decide)) (by decide) (by decide)) (by decide) (by decide))⟩
        refine z_iconst C (z := 1) rfl rfl rfl (fun x106 ex106 => ?_)
        refine k_goto C (pc2 := 108) rfl rfl ?_
        exact k_iret C rfl (Or.inr ⟨rfl, z01 (by omega) (by omega)⟩) (Nat.le_of_ble_eq_true rfl) (Nat.le_of_ble_eq_true rfl) ⟨_, _, _, rfl, rfl, by omega, by omega, fun a1 h1 => by cases (R_r0_1.symm.trans h1); refine Or.inr ⟨by simp only [k0_r0_1_1]; omega, by rw [e97]; omega, ?_⟩; simp only [k0_r0_1_0, k0_r0_1_E_6_10_n1_toNatClampNeg]; exact PLN.y (by omega) hvx2 hvy (hN1.2 (by omega)) (hN2.2 (by omega)) (COM.dd hCM (by omega) (by omega)) (fun h9 => by omega) (fun h9 => by omega), hI91, (CM.cons S3 (CM.cons S14 (CM.cons S27 (CM.cons S53 (CM.cons S72 (CM.mono S93 (by decide) (by decide)) (by decide) (by decide)) (by decide) (by decide)) (by decide) (by decide)) (by decide) (by decide)) (by decide) (by decide))⟩
      refine z_iconst C (z := 0) rfl rfl rfl (fun x107 ex107 => ?_)
      exact k_iret C rfl (Or.inr ⟨rfl, z01 (by omega) (by omega)⟩) (Nat.le_of_ble_eq_true rfl) (Nat.le_of_ble_eq_true rfl) ⟨_, _, _, rfl, rfl, by omega, by omega, fun a1 h1 => by cases (R_r0_1.symm.trans h1); refine Or.inr ⟨by simp only [k0_r0_1_1]; omega, by rw [e76]; omega, ?_⟩; simp only [k0_r0_1_0, k0_r0_1_E_6_10_n1_toNatClampNeg]; exact PLN.z (by omega) hvx2 hvy (by first | exact Or.inl (hN1.1 (by omega)) | exact Or.inr (hN2.1 (by omega))) (by omega), hI70, (CM.cons S3 (CM.cons S14 (CM.cons S27 (CM.cons S53 (CM.mono S72 (by decide) (by decide)) (by decide) (by decide)) (by decide) (by decide)) (by decide) (by decide)) (by decide) (by decide))⟩
    refine z_iconst C (z := 0) rfl rfl rfl (fun x108 ex108 => ?_)
    exact k_iret C rfl (Or.inr ⟨rfl, z01 (by omega) (by omega)⟩) (Nat.le_of_ble_eq_true rfl) (Nat.le_of_ble_eq_true rfl) ⟨_, _, _, rfl, rfl, by omega, by omega, fun a1 h1 => by cases (R_r0_1.symm.trans h1); refine Or.inr ⟨by simp only [k0_r0_1_1]; omega, by rw [e31]; omega, ?_⟩; simp only [k0_r0_1_0, k0_r0_1_E_6_10_n1_toNatClampNeg]; first | exact PLN.s (by omega) (by omega) | exact PLN.nq (by omega) (hN0.1 (by omega)) (by omega) (by omega), hI25, (CM.cons S3 (CM.cons S14 (CM.mono S27 (by decide) (by decide)) (by decide) (by decide)) (by decide) (by decide))⟩
  refine z_iconst C (z := 0) rfl rfl rfl (fun x109 ex109 => ?_)
  exact k_iret C rfl (Or.inr ⟨rfl, z01 (by omega) (by omega)⟩) (Nat.le_of_ble_eq_true rfl) (Nat.le_of_ble_eq_true rfl) ⟨_, _, _, rfl, rfl, by omega, by omega, fun a1 h1 => by cases (R_r0_1.symm.trans h1); exact Or.inl ⟨by simp only [k0_r0_1_1]; omega, by rw [e20]; omega⟩, hI12, (CM.cons S3 (CM.mono S14 (by decide) (by decide)) (by decide) (by decide))⟩

