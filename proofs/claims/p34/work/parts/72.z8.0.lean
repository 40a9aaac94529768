/-! the reference: powers: exactly -/
/-- a row less v times another at k, number by number -/
def RSB (I : IT) (nu : Nat) (F1 G : Nat → Int) (p D v k i : Int) : Prop := ∀ j : Nat, (j : Int) ≤ D → 0 ≤ RI I nu 40 j ∧ RI I nu 40 j < p ∧ PmE p (RI I nu 40 j) (F1 j - v * (if k ≤ (j : Int) ∧ (j : Int) < k + i then G (j - k.toNat) else 0))
theorem RSB.z {I I1 : IT} {nu : Nat} {F1 G : Nat → Int} {p D v k i : Int} (h : RCN I1 nu 40 p D) (e : RI I1 nu 40 = F1) (s : SMR I1 I nu 40) (hD : D ≤ 40) (hi : i = 0) : RSB I nu F1 G p D v k i := fun j hj => by
  have z : RI I nu 40 j = RI I1 nu 40 j := by show (I nu _).toInt = (I1 nu _).toInt; rw [s j (by omega)]
  have q := h j hj
  rw [z, if_neg (by omega), ← e, Int.mul_zero, Int.sub_zero]
  exact ⟨q.1, q.2, PmE.rf⟩
theorem RSB.s {I1 I2 : IT} {nu : Nat} {F1 G : Nat → Int} {p D k : Int} {v a b m w i i' y y2 : Int32} (h : RSB I1 nu F1 G p D v.toInt k i.toInt) (oa : a.toInt = (I1 nu (41 * 40 + y2.toNatClampNeg)).toInt) (hb : b.toInt = G i.toNatClampNeg) (bb : 0 ≤ b.toInt) (bv : 0 ≤ v.toInt) (t : TMD m.toInt v.toInt b.toInt p) (ls : LSD w.toInt a.toInt m.toInt p) (hP : PUTD I1 I2 nu 40 y.toNatClampNeg w) (ey : y.toInt = k + i.toInt) (ey2 : y2.toInt = k + i.toInt) (hk : 0 ≤ k) (hi : 0 ≤ i.toInt) (hD : k + i.toInt ≤ D) (hi' : i'.toInt = i.toInt + 1) (hp : 0 < p) : RSB I2 nu F1 G p D v.toInt k i'.toInt := fun j hj => by
  have e : y2 = y := Int32.toInt_inj.mp (by omega)
  subst e
  have y0 := ncz (x := y2) (by omega)
  have i0 := ncz hi
  by_cases q : j = y2.toNatClampNeg
  · subst q
    have z : RI I2 nu 40 y2.toNatClampNeg = w.toInt := by show (I2 nu _).toInt = _; rw [hP.1]
    have ha := h y2.toNatClampNeg (by omega)
    have ha2 : RI I1 nu 40 y2.toNatClampNeg = a.toInt := oa.symm
    rw [ha2, if_neg (by omega), Int.mul_zero, Int.sub_zero] at ha
    unfold TMD at t; unfold LSD at ls
    have m0 : 0 ≤ m.toInt ∧ m.toInt < p := by rw [t]; exact ⟨Int.tmod_nonneg _ (Int.mul_nonneg bv bb), Int.tmod_lt_of_pos _ hp⟩
    rw [z, if_pos (by omega), show y2.toNatClampNeg - k.toNat = i.toNatClampNeg from by omega]
    refine ⟨by rw [ls]; exact Int.tmod_nonneg _ (by omega), by rw [ls]; exact Int.tmod_lt_of_pos _ hp, ?_⟩
    rw [ls]
    refine (PmE.tm _).tr ?_
    have c : PmE p (a.toInt - m.toInt + p) (a.toInt - m.toInt) := Int.add_emod_right ..
    refine c.tr (PmE.sbt ha.2.2 ?_)
    rw [t, hb]; exact PmE.tm _
  · have z : RI I2 nu 40 j = RI I1 nu 40 j := by show (I2 nu _).toInt = (I1 nu _).toInt; rw [hP.2 _ (by omega)]
    have q2 := h j hj
    rw [z]
    by_cases c : k ≤ (j : Int) ∧ (j : Int) < k + i.toInt
    · rw [if_pos c] at q2; rw [if_pos (by omega)]; exact q2
    · rw [if_neg c] at q2; rw [if_neg (by omega)]; exact q2
theorem RSB.e {I2 : IT} {nu : Nat} {F1 G : Nat → Int} {p D E v k i : Int} (h : RSB I2 nu F1 G p D v k i) (hi : i = E + 1) (hk : 0 ≤ k) : RCN I2 nu 40 p D ∧ ∀ j : Nat, (j : Int) ≤ D → PmE p (RI I2 nu 40 j) (F1 j - v * (if k.toNat ≤ j ∧ ((j - k.toNat : Nat) : Int) ≤ E then G (j - k.toNat) else 0)) := ⟨fun j hj => ⟨(h j hj).1, (h j hj).2.1⟩, fun j hj => by
  have q := (h j hj).2.2
  by_cases c : k ≤ (j : Int) ∧ (j : Int) < k + i
  · rw [if_pos c] at q; rw [if_pos (by omega)]; exact q
  · rw [if_neg c] at q; rw [if_neg (by omega)]; exact q⟩
/-- the quotient so far, and what is left -/
def QCU (e : Nat → Int) (k : Int) (i : Nat) : Int := if (i : Int) < k then e i else 0
def QEV (p : Int) (F : Nat → Int) (D : Int) (G : Nat → Int) (E : Int) (e f : Nat → Int) (k : Int) : Prop := (∀ i : Nat, (i : Int) < k → 0 ≤ e i ∧ e i < p) ∧ ∀ j : Nat, (j : Int) ≤ D → PmE p (F j) (CNV (QCU e k) (CUT G E) j + f j)
theorem QEV.z {p D E k : Int} {F G e f : Nat → Int} (h : ∀ j : Nat, (j : Int) ≤ D → f j = F j) (hk : k = 0) : QEV p F D G E e f k := ⟨fun i hi => by omega, fun j hj => by
  have z : CNV (QCU e k) (CUT G E) j = 0 := SUMN.z0 _ (fun i _ => by
    show QCU e k i * _ = 0
    unfold QCU; rw [if_neg (by omega), Int.zero_mul])
  rw [z, Int.zero_add, h j hj]; exact PmE.rf⟩
theorem QEV.s {p D E k k' v : Int} {F G e e' f f' : Nat → Int} (h : QEV p F D G E e f k) (he : ∀ i : Nat, (i : Int) < k → e' i = e i) (hv : e' k.toNat = v) (bv : 0 ≤ v ∧ v < p) (hf : ∀ j : Nat, (j : Int) ≤ D → PmE p (f' j) (f j - v * (if k.toNat ≤ j ∧ ((j - k.toNat : Nat) : Int) ≤ E then G (j - k.toNat) else 0))) (h0 : 0 ≤ k) (hk : k' = k + 1) : QEV p F D G E e' f' k' := by
  subst hk
  obtain ⟨h1, h2⟩ := h
  refine ⟨fun i hi => ?_, fun j hj => ?_⟩
  · by_cases c : i = k.toNat
    · subst c; rw [hv]; exact bv
    · rw [he i (by omega)]; exact h1 i (by omega)
  · have eq : QCU e' (k + 1) = fun i => 1 * QCU e k i + v * SHY k.toNat (DL0 1) i := funext fun i => by
      unfold QCU SHY DL0
      rcases Nat.lt_trichotomy i k.toNat with c | c | c
      · rw [if_pos (by omega), if_pos (by omega), if_pos c, he i (by omega)]; omega
      · subst c; rw [if_pos (by omega), if_neg (by omega), if_neg (by omega), if_pos (by omega), hv]; omega
      · rw [if_neg (by omega), if_neg (by omega), if_neg (by omega), if_neg (by omega)]; omega
    have sh : CNV (SHY k.toNat (DL0 1)) (CUT G E) j = if k.toNat ≤ j ∧ ((j - k.toNat : Nat) : Int) ≤ E then G (j - k.toNat) else 0 := by
      by_cases c : k.toNat ≤ j
      · have s := CNV.sh k.toNat (DL0 1) (CUT G E) (j - k.toNat)
        rw [show k.toNat + (j - k.toNat) = j from by omega] at s
        rw [s, CNV.d0, Int.one_mul]
        unfold CUT
        by_cases d : ((j - k.toNat : Nat) : Int) ≤ E
        · rw [if_pos d, if_pos ⟨c, d⟩]
        · rw [if_neg d, if_neg (fun z => d z.2)]
      · rw [CNV.s0 (by omega), if_neg (fun z => c z.1)]
    rw [eq, CNV.li, sh, Int.one_mul]
    have a := (PmE.rf (p := p) (x := CNV (QCU e k) (CUT G E) j + v * (if k.toNat ≤ j ∧ ((j - k.toNat : Nat) : Int) ≤ E then G (j - k.toNat) else 0))).ad (hf j hj)
    rw [show CNV (QCU e k) (CUT G E) j + v * (if k.toNat ≤ j ∧ ((j - k.toNat : Nat) : Int) ≤ E then G (j - k.toNat) else 0) + (f j - v * (if k.toNat ≤ j ∧ ((j - k.toNat : Nat) : Int) ≤ E then G (j - k.toNat) else 0)) = CNV (QCU e k) (CUT G E) j + f j from by omega] at a
    exact (h2 j hj).tr a.sy
theorem PUTD.sm {I1 I2 : IT} {nu r r' k : Nat} {x : Int32} (w : PUTD I1 I2 nu r' k x) (hk : k < 41) (hn : r ≠ r') : SMR I1 I2 nu r := fun j hj => w.2 _ (by omega)
theorem RI.s {I1 I2 : IT} {nu r : Nat} (s : SMR I1 I2 nu r) {j : Nat} (hj : j < 41) : RI I2 nu r j = RI I1 nu r j := by show (I2 nu _).toInt = (I1 nu _).toInt; rw [s j hj]
theorem RI.p {I1 I2 : IT} {nu r k : Nat} {x : Int32} (w : PUTD I1 I2 nu r k x) {j : Nat} (hn : j ≠ k) : RI I2 nu r j = RI I1 nu r j := by show (I2 nu _).toInt = (I1 nu _).toInt; rw [w.2 _ (by omega)]
theorem RI.w {I1 I2 : IT} {nu r k : Nat} {x : Int32} (w : PUTD I1 I2 nu r k x) : RI I2 nu r k = x.toInt := by show (I2 nu _).toInt = _; rw [w.1]
theorem RWF.rc {I : IT} {nu r : Nat} {p D D' : Int} {g : Nat → Int} (h : RWF I nu r D g) (b : ∀ k : Nat, (k : Int) ≤ D → 0 ≤ g k ∧ g k < p) (e : D' = D) : RCN I nu r p D' := fun k hk => by
  have q := h k (by omega)
  rw [q]; exact b k (by omega)
theorem STP.r {I I' : IT} {nu r : Nat} {n : Int32} {D : Int} (s : STP I I' nu r n.toInt D) {k : Nat} (hk : (k : Int) ≤ D - n.toInt) : RI I' nu r k = RI I nu r (n.toNatClampNeg + k) := by
  show (I' nu _).toInt = (I nu _).toInt
  rw [s k hk, show 41 * r + k + n.toInt.toNat = 41 * r + (n.toNatClampNeg + k) from by have h9 : n.toNatClampNeg = n.toInt.toNat := rfl; omega]
theorem RWF.n0 {I : IT} {nu r a : Nat} {D : Int} {f : Nat → Int} (h : RWF I nu r D (fun k => f (a + k))) (h0 : 0 ≤ D) (nz : f a ≠ 0) : RI I nu r 0 ≠ 0 := fun q => nz ((h 0 (by omega)).symm.trans q)
theorem FST.cg {f g : Nat → Int} {a : Nat} {D : Int} (h : FST f a D) (e : ∀ k : Nat, (k : Int) ≤ D → g k = f k) : FST g a D := ⟨h.1, by rw [e a h.1]; exact h.2.1, fun k hk => by rw [e k (by have := h.1; omega)]; exact h.2.2 k hk⟩
theorem STP.f {I I' : IT} {nu r : Nat} {n : Int32} {D : Int} (_ : STP I I' nu r n.toInt D) (z : ∀ k : Nat, (k : Int) < n.toInt → RI I nu r k = 0) (h : NE1 I nu (41 * r + n.toNatClampNeg)) (h0 : 0 ≤ n.toInt) (h1 : n.toInt ≤ D) : FST (RI I nu r) n.toNatClampNeg D := by
  have n0 := ncz h0
  exact ⟨by omega, h, fun k hk => z k (by omega)⟩
/-- put behind y's, the reference's -/
def COR (I : IT) (nu : Nat) (y : Int) (b : Nat → Int) (o p B k : Int) : Prop := ∀ j : Nat, (j : Int) ≤ y + B → RI I nu 40 j = if (j : Int) < y ∨ y + k ≤ (j : Int) then 0 else (b (j - y.toNat) * o) % p
theorem COR.z {I : IT} {nu : Nat} {y : Int} {b : Nat → Int} {o p B k : Int} (h : AZ I nu (41 * 40) (y + B + 1)) (hk : k = 0) : COR I nu y b o p B k := fun j hj => by
  rw [if_pos (by omega)]; exact h j (by omega)
theorem COR.s {I1 I2 : IT} {nu : Nat} {b : Nat → Int} {p B y : Int} {a k k' n o v : Int32} (h : COR I1 nu y b o.toInt p B k.toInt) (va : a.toInt = b k.toNatClampNeg) (ba : 0 ≤ a.toInt) (bo : 0 ≤ o.toInt) (t : TMD v.toInt o.toInt a.toInt p) (hP : PUTD I1 I2 nu 40 n.toNatClampNeg v) (hy : 0 ≤ y) (h0 : 0 ≤ k.toInt) (en : n.toInt = k.toInt + y) (hk : k'.toInt = k.toInt + 1) : COR I2 nu y b o.toInt p B k'.toInt := fun j hj => by
  have n0 := ncz (x := n) (by omega)
  have k0 := ncz h0
  by_cases q : j = n.toNatClampNeg
  · subst q
    unfold TMD at t
    rw [RI.w hP, if_neg (by omega), t, show n.toNatClampNeg - y.toNat = k.toNatClampNeg from by omega, ← va, Int.tmod_eq_emod_of_nonneg (Int.mul_nonneg bo ba), Int.mul_comm]
  · rw [RI.p hP q, h j hj]
    by_cases c : (j : Int) < y ∨ y + k.toInt ≤ (j : Int)
    · rw [if_pos c, if_pos (by omega)]
    · rw [if_neg c, if_neg (by omega)]
theorem COM.or {I : IT} {nu : Nat} {p D E D1 E1 B S W y k o : Int} {f g b s : Nat → Int} {i j : Nat} (hf : FST f i D) (hg : FST g j E) (t : SCD p (fun k => f (i + k)) D1 (fun k => g (j + k)) E1 s S b B) (z : ∀ k : Nat, (k : Int) ≤ S → s k = 0) (hB : 0 ≤ B) (hD : D1 = D - i) (hE : E1 = E - j) (ho : PmE p (o * b 0) 1) (c : COR I nu y b o p B k) (hk : k = B + 1) (hy : y = ((min i j : Nat) : Int)) (hW : W = y + B) (hp : 1 < p) : COM p f D g E (RI I nu 40) W := by
  subst hD; subst hE; subst hk
  refine ⟨i, j, fun k => (b k * o) % p, B, hf, hg, HCF.fin (c := o) t.sw z hB ho (fun k hk => ⟨?_, Int.emod_nonneg _ (by omega), Int.emod_lt_of_pos _ (by omega)⟩) hp, by omega, fun k hk => ?_⟩
  · rw [Int.mul_comm o]; exact PmE.em _
  · rw [c k (by omega)]
    by_cases q : k < min i j
    · rw [if_pos (by omega), if_pos q]
    · rw [if_neg (by omega), if_neg q, show k - y.toNat = k - min i j from by omega]
theorem NQI9 {I : IT} {dg nu r : Nat} {x D : Int} (h : IFF x (NQA I dg nu r)) (e : (I dg r).toInt = D) : IFF x (ZRL (RI I nu r) (D + 1)) := ⟨fun q => NQA.z (h.1 q) e, fun q => NQA.n (h.2 q) e⟩
theorem NQI.w {I : IT} {dg nu r : Nat} {x D : Int} {g : Nat → Int} (h : IFF x (NQA I dg nu r)) (e : (I dg r).toInt = D) (w : RWF I nu r D g) : IFF x (ZRL g (D + 1)) := ⟨fun q => ((NQI9 h e).1 q).cg (fun k hk => w k (by omega)), fun q z => (NQI9 h e).2 q (z.cg (fun k hk => (w k (by omega)).symm))⟩
theorem COM.cg {p D D' E E' W W' : Int} {f f' g g' r r' : Nat → Int} (h : COM p f D g E r W) (eD : D = D') (eE : E = E') (eW : W = W') (ef : ∀ k : Nat, (k : Int) ≤ D → f k = f' k) (eg : ∀ k : Nat, (k : Int) ≤ E → g k = g' k) (er : ∀ k : Nat, (k : Int) ≤ W → r k = r' k) : COM p f' D' g' E' r' W' := by
  subst eD; subst eE; subst eW
  obtain ⟨a, b, h, H, x1, x2, ⟨z0, z1, z2, z3⟩, x4, x5⟩ := h
  have a1 := x1.1
  have b1 := x2.1
  refine ⟨a, b, h, H, x1.cg (fun k hk => (ef k hk).symm), x2.cg (fun k hk => (eg k hk).symm), ⟨z0, z1, z2, fun d Hd h0 hu hs => Iff.trans ⟨fun q => ⟨q.1.cg (fun k hk => ?_), q.2.cg (fun k hk => ?_)⟩, fun q => ⟨q.1.cg (fun k hk => ?_), q.2.cg (fun k hk => ?_)⟩⟩ (z3 d Hd h0 hu hs)⟩, x4, fun k hk => (er k hk).symm.trans (x5 k hk)⟩
  · show PmE p (f (a + k)) (f' (a + k)); rw [ef _ (by omega)]; exact PmE.rf
  · show PmE p (g (b + k)) (g' (b + k)); rw [eg _ (by omega)]; exact PmE.rf
  · show PmE p (f' (a + k)) (f (a + k)); rw [ef _ (by omega)]; exact PmE.rf
  · show PmE p (g' (b + k)) (g (b + k)); rw [eg _ (by omega)]; exact PmE.rf
def PWU (p t : Int) : Int := if t < p then 1 else 0
def PWY (p t : Int) : Int := if t < p then (0 - t + p).tmod p else 1
theorem RWF.eqm {I I' : IT} {nu r : Nat} {D : Int} {g : Nat → Int} (h : RWF I nu r D g) (e : I' nu = I nu) : RWF I' nu r D g := fun j hj => by
  show (I' nu _).toInt = _
  rw [e]; exact h j hj
theorem BNI.pa : ∀ n : Nat, n < 8 → ∀ k : Nat, k < 8 → k ≤ n → BNI ((n + 1 : Nat) : Int) (k + 1) = (if k + 1 ≤ n then BNI n (k + 1) else 0) + BNI n k := by decide
theorem BNI.o : ∀ n : Nat, n < 9 → BNI n n = 1 := by decide
theorem PmE.pw {p a b : Int} (h : PmE p a b) : ∀ n : Nat, PmE p (a ^ n) (b ^ n)
  | 0 => by rw [Int.pow_zero, Int.pow_zero]; exact PmE.rf
  | n + 1 => by rw [Int.pow_succ, Int.pow_succ]; exact (PmE.pw h n).ml h
theorem wdN.b1 {p v : Int} : ∀ n : Nat, n < 9 → ∀ k : Nat, k ≤ n → PmE p (wdN p 1 v n 0 (fun _ => 1) k) (BNI n k * v ^ k)
  | 0, _, k, hk => by
    have e : k = 0 := by omega
    subst e
    show PmE p 1 (1 * v ^ 0)
    rw [Int.pow_zero]; exact PmE.rf
  | n + 1, h, k, hk => by
    have ih := wdN.b1 (p := p) (v := v) n (by omega)
    show PmE p (wdF p 1 v (ctF ((0 + n : Nat) : Int) (wdN p 1 v n 0 (fun _ => 1))) k) _
    unfold wdF
    refine (PmE.tm _).tr ?_
    rcases k with _ | k
    · rw [if_pos rfl, Int.add_zero]
      refine (PmE.tm _).tr ?_
      rw [Int.mul_one]
      unfold ctF
      rw [if_pos (by omega)]
      exact ih 0 (by omega)
    · rw [if_neg (Nat.succ_ne_zero k)]
      refine ((PmE.tm _).ad (PmE.tm _)).tr ?_
      show PmE p (ctF ((0 + n : Nat) : Int) (wdN p 1 v n 0 (fun _ => 1)) (k + 1) * 1 + ctF ((0 + n : Nat) : Int) (wdN p 1 v n 0 (fun _ => 1)) k * v) _
      have a : PmE p (ctF ((0 + n : Nat) : Int) (wdN p 1 v n 0 (fun _ => 1)) (k + 1) * 1) ((if k + 1 ≤ n then BNI n (k + 1) else 0) * v ^ (k + 1)) := by
        rw [Int.mul_one]
        unfold ctF
        by_cases c : k + 1 ≤ n
        · rw [if_pos (by omega), if_pos c]; exact ih (k + 1) c
        · rw [if_neg (by omega), if_neg c, Int.zero_mul]; exact PmE.rf
      have b : PmE p (ctF ((0 + n : Nat) : Int) (wdN p 1 v n 0 (fun _ => 1)) k * v) (BNI n k * v ^ k * v) := by
        unfold ctF
        rw [if_pos (by omega)]; exact (ih k (by omega)).ml PmE.rf
      refine (a.ad b).tr ?_
      rw [BNI.pa n (by omega) k (by omega) (by omega), Int.pow_succ, Int.add_mul, Int.mul_assoc (BNI n k)]
      exact PmE.rf
theorem wdN.pw {p t : Int} {D k : Nat} (hp : PRM p) (h0 : 0 ≤ t) (ht : t ≤ p) (hD : D ≤ 8) (hk : k ≤ D) : 0 ≤ wdN p (PWU p t) (PWY p t) D 0 (fun _ => 1) k ∧ PmE p (wdN p (PWU p t) (PWY p t) D 0 (fun _ => 1) k) (BNI D k * PTV p t ((D : Int) + 1) k) := by
  have p0 : 11 ≤ p := by unfold PRM at hp; omega
  unfold PWU PWY
  by_cases c : t < p
  · rw [if_pos c, if_pos c]
    refine ⟨wdN.p (by omega) (by decide) (Int.tmod_nonneg _ (by omega)) (fun _ => by decide) D k, (wdN.b1 D (by omega) k hk).tr (PmE.rf.ml ?_)⟩
    unfold PTV
    rw [if_neg (by omega)]
    refine PmE.pw ((PmE.tm _).tr ?_) k
    show (0 - t + p) % p = (-t) % p
    rw [show 0 - t + p = -t + p from by omega]; exact Int.add_emod_right ..
  · have z : t = p := by omega
    subst z
    rw [if_neg c, if_neg c, wdN.o (fun _ => ⟨by omega, by omega⟩) D k (by omega)]
    unfold PTV
    rw [if_pos rfl]
    by_cases d : k < D
    · rw [if_pos d, if_neg (by omega), Int.mul_zero]; exact ⟨Int.le_refl 0, PmE.rf⟩
    · have e : k = D := by omega
      subst e
      rw [if_neg d, if_pos (by omega), BNI.o k (by omega), Int.mul_one]; exact ⟨show (0 : Int) ≤ 1 by decide, PmE.rf⟩
/-- the table of powers -/
def PWT (W : Nat → Int32) (p D t : Int) : Prop := ∀ s : Nat, (s : Int) < t → ∀ k : Nat, (k : Int) ≤ D → 0 ≤ (W (9 * s + k)).toInt ∧ PmE p (W (9 * s + k)).toInt (BNI D k * PTV p s (D + 1) k)
theorem PWT.z {W : Nat → Int32} {p D t : Int} (h : t = 0) : PWT W p D t := fun s hs => by omega
def PW2 (W W9 : Nat → Int32) (t : Nat) (k : Int) (G : Nat → Int) : Prop := (∀ m : Nat, (m : Int) < k → (W (9 * t + m)).toInt = G m) ∧ ∀ j : Nat, (j < 9 * t ∨ 9 * t + k.toNat ≤ j) → W j = W9 j
theorem PW2.z {W W9 : Nat → Int32} {t : Nat} {k : Int} {G : Nat → Int} (h : W = W9) (hk : k = 0) : PW2 W W9 t k G := ⟨fun m hm => by omega, fun j _ => by rw [h]⟩
theorem PW2.s {I1 I2 : IT} {b : Nat} {W9 : Nat → Int32} {G : Nat → Int} {t k k' j v : Int32} (h : PW2 (I1 b) W9 t.toNatClampNeg k.toInt G) (hu : I2 = u2 I1 b j.toNatClampNeg v) (ej : j.toInt = 9 * t.toInt + k.toInt) (hv : v.toInt = G k.toNatClampNeg) (h0 : 0 ≤ k.toInt) (ht : 0 ≤ t.toInt) (hk : k'.toInt = k.toInt + 1) : PW2 (I2 b) W9 t.toNatClampNeg k'.toInt G := by
  have k0 := ncz h0
  have t0 := ncz ht
  have j0 := ncz (x := j) (by omega)
  have ej2 : j.toNatClampNeg = 9 * t.toNatClampNeg + k.toNatClampNeg := by omega
  refine ⟨fun m hm => ?_, fun i hi => ?_⟩
  · by_cases q : m = k.toNatClampNeg
    · subst q; rw [hu, ej2, u2_s, hv]
    · rw [hu, u2_k (by omega)]; exact h.1 m (by omega)
  · rw [hu, u2_k (by omega)]; exact h.2 i (by omega)
theorem PWT.s {W W9 : Nat → Int32} {p D k : Int} {t t' : Int32} {n : Int32} (h : PWT W9 p D t.toInt) (q : PW2 W W9 t.toNatClampNeg k (wdN p (PWU p t.toInt) (PWY p t.toInt) n.toNatClampNeg 0 (fun _ => 1))) (hn : n.toInt = D) (hk : k = D + 1) (hp : PRM p) (h0 : 0 ≤ t.toInt) (ht : t.toInt ≤ p) (hD : 0 ≤ D ∧ D ≤ 8) (ht' : t'.toInt = t.toInt + 1) : PWT W p D t'.toInt := fun s hs m hm => by
  have t0 := ncz h0
  have n0 := ncz (x := n) (by omega)
  by_cases c : s = t.toNatClampNeg
  · subst c
    rw [q.1 m (by omega), t0]
    have e := wdN.pw (D := n.toNatClampNeg) (k := m) hp h0 ht (by omega) (by omega)
    rw [show ((n.toNatClampNeg : Nat) : Int) = D from by omega] at e
    exact e
  · rw [q.2 (9 * s + m) (by omega)]; exact h s (by omega) m hm
theorem PWT.g {W : Nat → Int32} {p D t : Int} {s : Int32} (h : PWT W p D t) (h0 : 0 ≤ s.toInt) (hs : s.toInt < t) : ∀ m : Nat, (m : Int) ≤ D → 0 ≤ (W (9 * s.toNatClampNeg + m)).toInt ∧ PmE p (W (9 * s.toNatClampNeg + m)).toInt (BNI D m * PTV p s.toInt (D + 1) m) := fun m hm => by
  have s0 := ncz h0
  have e := h s.toNatClampNeg (by omega) m hm
  rw [s0] at e; exact e
/-- a row less the powers told -/
def RLS (I : IT) (nu : Nat) (p D : Int) (F ts cs : Nat → Int) (a b : Nat) (k : Int) : Prop := ∀ m : Nat, (m : Int) ≤ D → 0 ≤ RI I nu 42 m ∧ RI I nu 42 m < p ∧ PmE p (RI I nu 42 m) (F m - BNI D m * SPS p (D + 1) ts cs (if (m : Int) < k then b else a) m)
theorem RLS.z {I I1 : IT} {nu a : Nat} {p D n : Int} {ts cs : Nat → Int} (h : CPN I I1 nu 40 42 n) (hn : D < n) (bF : ∀ m : Nat, (m : Int) ≤ D → 0 ≤ RI I nu 40 m ∧ RI I nu 40 m < p) (ha : a = 0) : RLS I1 nu p D (RI I nu 40) ts cs a a 0 := fun m hm => by
  subst ha
  have e : RI I1 nu 42 m = RI I nu 40 m := by
    show (I1 nu _).toInt = (I nu _).toInt
    rw [h m (by omega)]
  rw [e, if_neg (by omega)]
  refine ⟨(bF m hm).1, (bF m hm).2, ?_⟩
  show PmE p _ (RI I nu 40 m - BNI D m * 0)
  rw [Int.mul_zero, Int.sub_zero]; exact PmE.rf
theorem RLS.i {I : IT} {nu a b : Nat} {p D k : Int} {F ts cs : Nat → Int} (h : RLS I nu p D F ts cs a a 0) (hk : k = 0) : RLS I nu p D F ts cs a b k := fun m hm => by
  have e := h m hm
  rw [if_neg (by omega)] at e
  rw [if_neg (by omega)]; exact e
theorem RLS.o {I : IT} {nu a b c : Nat} {p D k : Int} {F ts cs : Nat → Int} (h : RLS I nu p D F ts cs a b k) (hk : D < k) (hc : c = b) : RLS I nu p D F ts cs c c 0 := fun m hm => by
  subst hc
  have e := h m hm
  rw [if_pos (by omega)] at e
  rw [if_neg (by omega)]; exact e
theorem RLS.s {I1 I2 : IT} {nu a b : Nat} {p D : Int} {F ts cs : Nat → Int} {k k' x c w m v : Int32} (h : RLS I1 nu p D F ts cs a b k.toInt) (hb : b = a + 1) (hx : x.toInt = RI I1 nu 42 k.toNatClampNeg) (hc : c.toInt = cs a) (c0 : 0 ≤ c.toInt) (hw : 0 ≤ w.toInt ∧ PmE p w.toInt (BNI D k.toNatClampNeg * PTV p (ts a) (D + 1) k.toNatClampNeg)) (hm : TMD m.toInt c.toInt w.toInt p) (hl : LSD v.toInt x.toInt m.toInt p) (hP : PUTD I1 I2 nu 42 k.toNatClampNeg v) (h0 : 0 ≤ k.toInt) (hD : k.toInt ≤ D) (hp : 0 < p) (hk : k'.toInt = k.toInt + 1) : RLS I2 nu p D F ts cs a b k'.toInt := fun j hj => by
  have k0 := ncz h0
  by_cases q : j = k.toNatClampNeg
  · subst q
    have e := h k.toNatClampNeg (by omega)
    rw [if_neg (by omega), ← hx] at e
    unfold TMD at hm; unfold LSD at hl
    have m0 := Int.tmod_nonneg p (Int.mul_nonneg c0 hw.1)
    have m1 := Int.tmod_lt_of_pos (c.toInt * w.toInt) hp
    rw [← hm] at m0 m1
    rw [RI.w hP, if_pos (by omega), hl]
    refine ⟨Int.tmod_nonneg _ (by omega), Int.tmod_lt_of_pos _ hp, (PmE.tm _).tr ?_⟩
    have z : PmE p (x.toInt - m.toInt + p) (x.toInt - m.toInt) := Int.add_emod_right ..
    refine z.tr ?_
    have g : PmE p m.toInt (cs a * (BNI D k.toNatClampNeg * PTV p (ts a) (D + 1) k.toNatClampNeg)) := by
      rw [hm, ← hc]; exact (PmE.tm _).tr (PmE.rf.ml hw.2)
    have r := PmE.sbt e.2.2 g
    subst hb
    show PmE p _ (F k.toNatClampNeg - BNI D k.toNatClampNeg * (SPS p (D + 1) ts cs a k.toNatClampNeg + cs a * PTV p (ts a) (D + 1) k.toNatClampNeg))
    rwa [show F k.toNatClampNeg - BNI D k.toNatClampNeg * SPS p (D + 1) ts cs a k.toNatClampNeg - cs a * (BNI D k.toNatClampNeg * PTV p (ts a) (D + 1) k.toNatClampNeg) = F k.toNatClampNeg - BNI D k.toNatClampNeg * (SPS p (D + 1) ts cs a k.toNatClampNeg + cs a * PTV p (ts a) (D + 1) k.toNatClampNeg) from by grind] at r
  · rw [RI.p hP q]
    have e := h j hj
    by_cases c9 : (j : Int) < k.toInt
    · rw [if_pos c9] at e; rw [if_pos (by omega)]; exact e
    · rw [if_neg c9] at e; rw [if_neg (by omega)]; exact e
/-- no numbers behind the first m make it a sum -/
def NOF (p D : Int) (B F : Nat → Int) (n : Nat) (ts cs : Nat → Int) (m : Nat) : Prop := ∀ c : Nat → Int, (∀ i, i < m → c i = cs i) → (∀ i, m ≤ i → i < n → 0 < c i ∧ c i < p) → ¬ SPF p D B F n ts c
/-- whether the row is a multiple of the last one's power -/
def ILQ (x y p D : Int) (R G : Nat → Int) (k : Int) : Prop := (x = 1 → y ≠ 0 ∧ ∀ m : Nat, (m : Int) < k → R m = (y * G m).tmod p) ∧ (x = 0 → y = 0 ∨ ∃ m : Nat, (m : Int) ≤ D ∧ R m ≠ (y * G m).tmod p)
theorem ILQ.z {x y p D k : Int} {R G : Nat → Int} (h : y ≠ 0 ∧ x = 1 ∨ y = 0 ∧ x = 0) (hk : k = 0) : ILQ x y p D R G k := ⟨fun _ => ⟨by omega, fun m hm => by omega⟩, fun _ => Or.inl (by omega)⟩
theorem ILQ.s {x x' y p D : Int} {R G : Nat → Int} {k k' u w m : Int32} (h : ILQ x y p D R G k.toInt) (hx : x ≠ 0) (b : 0 ≤ x ∧ x ≤ 1) (hu : u.toInt = R k.toNatClampNeg) (hw : w.toInt = G k.toNatClampNeg) (hm : TMD m.toInt y w.toInt p) (c : u.toInt = m.toInt ∧ x' = 1 ∨ u.toInt ≠ m.toInt ∧ x' = 0) (h0 : 0 ≤ k.toInt) (hD : k.toInt ≤ D) (hk : k'.toInt = k.toInt + 1) : ILQ x' y p D R G k'.toInt := by
  have k0 := ncz h0
  unfold TMD at hm
  obtain ⟨a1, a2⟩ := h.1 (by omega)
  rw [hw] at hm
  refine ⟨fun q => ⟨a1, fun j hj => ?_⟩, fun q => Or.inr ⟨k.toNatClampNeg, by omega, ?_⟩⟩
  · by_cases z : j = k.toNatClampNeg
    · subst z
      rw [← hu, ← hm]; omega
    · exact a2 j (by omega)
  · rw [← hu, ← hm]; omega
theorem ILQ.y {x y p D k t : Int} {R G F ts cs cs' : Nat → Int} {n : Nat} (h : ILQ x y p D R G k) (hx : x = 1) (hk : D < k) (rl : ∀ m : Nat, (m : Int) ≤ D → PmE p (R m) (F m - BNI D m * SPS p (D + 1) ts cs n m)) (g : ∀ m : Nat, (m : Int) ≤ D → 0 ≤ G m ∧ PmE p (G m) (BNI D m * PTV p t (D + 1) m)) (ht : t = ts n) (e : ∀ i, i < n → cs' i = cs i) (hb : cs' n = y) (bb : 0 ≤ y ∧ y < p) : (0 < cs' n ∧ cs' n < p) ∧ SPF p D (BNI D) F (n + 1) ts cs' := by
  obtain ⟨a1, a2⟩ := h.1 hx
  refine ⟨by omega, fun m hm => ?_⟩
  have r := rl m hm
  rw [a2 m (by omega)] at r
  have s := ((PmE.tm (p := p) (y * G m)).sy.tr r).sy
  have u := s.tr ((PmE.rf (x := y)).ml (g m hm).2)
  have w := u.ad (PmE.rf (x := BNI D m * SPS p (D + 1) ts cs n m))
  rw [show F m - BNI D m * SPS p (D + 1) ts cs n m + BNI D m * SPS p (D + 1) ts cs n m = F m from by omega] at w
  refine w.tr ?_
  show PmE p _ (BNI D m * (SPS p (D + 1) ts cs' n m + cs' n * PTV p (ts n) (D + 1) m))
  rw [hb, ← ht]
  have z : PmE p (SPS p (D + 1) ts cs n m) (SPS p (D + 1) ts cs' n m) := SPS.cg n (fun i hi => ⟨rfl, by rw [e i hi]; exact PmE.rf⟩)
  have z2 := ((PmE.rf (x := y * (BNI D m * PTV p t (D + 1) m))).ad ((PmE.rf (x := BNI D m)).ml z))
  refine z2.tr ?_
  rw [show y * (BNI D m * PTV p t (D + 1) m) + BNI D m * SPS p (D + 1) ts cs' n m = BNI D m * (SPS p (D + 1) ts cs' n m + y * PTV p t (D + 1) m) from by grind]
  exact PmE.rf
theorem ILQ.n {x y p D k t : Int} {R G F ts cs : Nat → Int} {n m0 : Nat} (h : ILQ x y p D R G k) (hx : x = 0) (rl : ∀ m : Nat, (m : Int) ≤ D → 0 ≤ R m ∧ R m < p ∧ PmE p (R m) (F m - BNI D m * SPS p (D + 1) ts cs n m)) (g : ∀ m : Nat, (m : Int) ≤ D → 0 ≤ G m ∧ PmE p (G m) (BNI D m * PTV p t (D + 1) m)) (ht : t = ts n) (hy : y = R m0) (hm : (m0 : Int) ≤ D) (h1 : BNI D m0 * PTV p t (D + 1) m0 = 1) (hp : 0 < p) : NOF p D (BNI D) F (n + 1) ts cs n := fun c c1 c2 s => by
  have q : ∀ m : Nat, (m : Int) ≤ D → PmE p (R m) (c n * (BNI D m * PTV p t (D + 1) m)) := fun m hm => by
    have a := s m hm
    have a : PmE p (F m) (BNI D m * (SPS p (D + 1) ts c n m + c n * PTV p (ts n) (D + 1) m)) := a
    have z : PmE p (SPS p (D + 1) ts cs n m) (SPS p (D + 1) ts c n m) := SPS.cg n (fun i hi => ⟨rfl, by rw [c1 i hi]; exact PmE.rf⟩)
    have b := PmE.sbt a ((PmE.rf (x := BNI D m)).ml z)
    rw [show BNI D m * (SPS p (D + 1) ts c n m + c n * PTV p (ts n) (D + 1) m) - BNI D m * SPS p (D + 1) ts c n m = c n * (BNI D m * PTV p (ts n) (D + 1) m) from by grind] at b
    rw [ht]
    exact (rl m hm).2.2.tr b
  have cn := c2 n (Nat.le_refl n) (by omega)
  have e := q m0 hm
  rw [h1, Int.mul_one, ← hy] at e
  have ry := rl m0 hm
  rw [← hy] at ry
  have yc : y = c n := e.eq ry.1 ry.2.1 (by omega) cn.2
  rcases h.2 hx with z | ⟨m, hm, z⟩
  · omega
  · refine z ?_
    have gm := g m hm
    have a := (q m hm).tr ((PmE.rf (x := c n)).ml gm.2.sy)
    rw [← yc] at a
    have nn := Int.mul_nonneg (show 0 ≤ y by omega) gm.1
    exact (a.tr (PmE.tm (p := p) (y * G m)).sy).eq (rl m hm).1 (rl m hm).2.1 (Int.tmod_nonneg _ nn) (Int.tmod_lt_of_pos _ hp)
theorem PTV.a1 {p t L : Int} (h : t ≠ p) : PTV p t L 0 = 1 := by unfold PTV; rw [if_neg h]; exact Int.pow_zero _
theorem PTV.b1 {p t L : Int} {k : Nat} (h : t = p) (hk : (k : Int) = L - 1) : PTV p t L k = 1 := by unfold PTV; rw [if_pos h, if_pos hk]
theorem BNI.o1 {D : Int} {k : Nat} (h : (k : Int) = D) (h8 : D ≤ 8) : BNI D k = 1 := by
  have e := BNI.o k (by omega)
  rwa [h] at e
theorem SPF.fc {p D : Int} {B F F' : Nat → Int} {n : Nat} {ts cs : Nat → Int} (h : SPF p D B F n ts cs) (e : ∀ k : Nat, (k : Int) ≤ D → F k = F' k) : SPF p D B F' n ts cs := fun k hk => by rw [← e k hk]; exact h k hk
theorem SPF.tc {p D : Int} {B F : Nat → Int} {n : Nat} {ts ts' cs cs' : Nat → Int} (h : SPF p D B F n ts cs) (e : ∀ i, i < n → ts i = ts' i ∧ cs i = cs' i) : SPF p D B F n ts' cs' := fun k hk => (h k hk).tr (PmE.rf.ml (SPS.cg n (fun i hi => ⟨(e i hi).1, by rw [(e i hi).2]; exact PmE.rf⟩)))
theorem NOF.cg {p D : Int} {B F F' : Nat → Int} {n m m' : Nat} {ts ts' cs cs' : Nat → Int} (h : NOF p D B F n ts cs m) (e : ∀ k : Nat, (k : Int) ≤ D → F k = F' k) (et : ∀ i, i < n → ts i = ts' i) (ec : ∀ i, i < m → cs i = cs' i) (em : m' = m) : NOF p D B F' n ts' cs' m' := fun c c1 c2 s => by
  subst em
  exact h c (fun i hi => (c1 i hi).trans (ec i hi).symm) c2 ((s.fc (fun k hk => (e k hk).symm)).tc (fun i hi => ⟨(et i hi).symm, rfl⟩))
/-- no number below v at the place m -/
def NOV (p D : Int) (B F : Nat → Int) (n : Nat) (ts cs : Nat → Int) (m : Nat) (v : Int) : Prop := ∀ c : Nat → Int, (∀ i, i < m → c i = cs i) → (∀ i, m ≤ i → i < n → 0 < c i ∧ c i < p) → c m < v → ¬ SPF p D B F n ts c
theorem NOV.z {p D v : Int} {B F : Nat → Int} {n m : Nat} {ts cs : Nat → Int} (h : v = 1) (hm : m < n) : NOV p D B F n ts cs m v := fun c _ c2 c3 => by have := c2 m (Nat.le_refl m) hm; omega
theorem NOV.s {p D v v' : Int} {B F : Nat → Int} {n m m1 : Nat} {ts cs cs1 : Nat → Int} (h : NOV p D B F n ts cs m v) (q : NOF p D B F n ts cs1 m1) (hm : m1 = m + 1) (e : ∀ i, i < m → cs1 i = cs i) (ev : cs1 m = v) (hv : v' = v + 1) : NOV p D B F n ts cs m v' := fun c c1 c2 c3 s => by
  subst hm
  rcases Int.lt_or_le (c m) v with z | z
  · exact h c c1 c2 z s
  · refine q c (fun i hi => ?_) (fun i h1 h2 => c2 i (by omega) h2) s
    by_cases y : i = m
    · subst y; rw [ev]; omega
    · rw [c1 i (by omega), e i (by omega)]
theorem NOV.e {p D v : Int} {B F : Nat → Int} {n m : Nat} {ts cs : Nat → Int} (h : NOV p D B F n ts cs m v) (hv : p ≤ v) (hm : m < n) : NOF p D B F n ts cs m := fun c c1 c2 s => h c c1 c2 (by have := c2 m (Nat.le_refl m) hm; omega) s
/-- what is left to look at -/
def NXS (p D : Int) (B F : Nat → Int) (n : Nat) (Q : (Nat → Int) → Prop) : Prop := ∀ ts cs, RIS p n ts → NZS p n cs → SPF p D B F n ts cs → Q ts
def QA1 (a : Int) (ts : Nat → Int) : Prop := a ≤ ts 0
def QB1 (a b : Int) (ts : Nat → Int) : Prop := a < ts 0 ∨ (ts 0 = a ∧ b ≤ ts 1)
def QC1 (a b c : Int) (ts : Nat → Int) : Prop := a < ts 0 ∨ (ts 0 = a ∧ (b < ts 1 ∨ (ts 1 = b ∧ c ≤ ts 2)))
theorem NXS.z {p D a : Int} {B F : Nat → Int} {n : Nat} (h : a = 0) (hn : 0 < n) : NXS p D B F n (QA1 a) := fun ts _ r _ _ => by
  have := r.1 0 hn
  show a ≤ ts 0; omega
theorem NXS.a {p D a a' : Int} {B F : Nat → Int} {n : Nat} {ts cs : Nat → Int} (h : NXS p D B F n (QA1 a)) (q : NOF p D B F n ts cs 0) (hn : n = 1) (ha : ts 0 = a) (h' : a' = a + 1) : NXS p D B F n (QA1 a') := fun u c r z s => by
  subst hn
  have w : a ≤ u 0 := h u c r z s
  show a' ≤ u 0
  rcases Int.lt_or_le a (u 0) with y | y
  · omega
  · have e0 : u 0 = ts 0 := by omega
    refine (q c (fun i hi => absurd hi (Nat.not_lt_zero i)) (fun i _ h2 => z i h2) (s.tc (fun i hi => ⟨?_, rfl⟩))).elim
    have e : i = 0 := by omega
    subst e
    exact e0
theorem NXS.ab {p D a b : Int} {B F : Nat → Int} {n : Nat} (h : NXS p D B F n (QA1 a)) (hn : 1 < n) (hb : b = a + 1) : NXS p D B F n (QB1 a b) := fun u c r z s => by
  have w : a ≤ u 0 := h u c r z s
  have l : u 0 < u 1 := r.2 0 hn
  show a < u 0 ∨ (u 0 = a ∧ b ≤ u 1); omega
theorem NXS.ba {p D a a' b : Int} {B F : Nat → Int} {n : Nat} (h : NXS p D B F n (QB1 a b)) (hn : 1 < n) (hb : p < b) (h' : a' = a + 1) : NXS p D B F n (QA1 a') := fun u c r z s => by
  have w : a < u 0 ∨ (u 0 = a ∧ b ≤ u 1) := h u c r z s
  have l := r.1 1 hn
  show a' ≤ u 0; omega
theorem NXS.b {p D a b b' : Int} {B F : Nat → Int} {n : Nat} {ts cs : Nat → Int} (h : NXS p D B F n (QB1 a b)) (q : NOF p D B F n ts cs 0) (hn : n = 2) (ha : ts 0 = a) (hb : ts 1 = b) (h' : b' = b + 1) : NXS p D B F n (QB1 a b') := fun u c r z s => by
  subst hn
  have w : a < u 0 ∨ (u 0 = a ∧ b ≤ u 1) := h u c r z s
  show a < u 0 ∨ (u 0 = a ∧ b' ≤ u 1)
  by_cases y : u 0 = a ∧ u 1 = b
  · exact (q c (fun i hi => absurd hi (Nat.not_lt_zero i)) (fun i _ h2 => z i h2) (s.tc (fun i hi => ⟨by rcases (show i = 0 ∨ i = 1 by omega) with e | e <;> subst e <;> omega, rfl⟩))).elim
  · omega
theorem NXS.bc {p D a b c : Int} {B F : Nat → Int} {n : Nat} (h : NXS p D B F n (QB1 a b)) (hn : 2 < n) (hc : c = b + 1) : NXS p D B F n (QC1 a b c) := fun u d r z s => by
  have w : a < u 0 ∨ (u 0 = a ∧ b ≤ u 1) := h u d r z s
  have l : u 1 < u 2 := r.2 1 hn
  show a < u 0 ∨ (u 0 = a ∧ (b < u 1 ∨ (u 1 = b ∧ c ≤ u 2))); omega
theorem NXS.cb {p D a b b' c : Int} {B F : Nat → Int} {n : Nat} (h : NXS p D B F n (QC1 a b c)) (hn : 2 < n) (hc : p < c) (h' : b' = b + 1) : NXS p D B F n (QB1 a b') := fun u d r z s => by
  have w : a < u 0 ∨ (u 0 = a ∧ (b < u 1 ∨ (u 1 = b ∧ c ≤ u 2))) := h u d r z s
  have l := r.1 2 hn
  show a < u 0 ∨ (u 0 = a ∧ b' ≤ u 1); omega
theorem NXS.c {p D a b c c' : Int} {B F : Nat → Int} {n : Nat} {ts cs : Nat → Int} (h : NXS p D B F n (QC1 a b c)) (q : NOF p D B F n ts cs 0) (hn : n = 3) (ha : ts 0 = a) (hb : ts 1 = b) (hc : ts 2 = c) (h' : c' = c + 1) : NXS p D B F n (QC1 a b c') := fun u d r z s => by
  subst hn
  have w : a < u 0 ∨ (u 0 = a ∧ (b < u 1 ∨ (u 1 = b ∧ c ≤ u 2))) := h u d r z s
  show a < u 0 ∨ (u 0 = a ∧ (b < u 1 ∨ (u 1 = b ∧ c' ≤ u 2)))
  by_cases y : u 0 = a ∧ u 1 = b ∧ u 2 = c
  · exact (q d (fun i hi => absurd hi (Nat.not_lt_zero i)) (fun i _ h2 => z i h2) (s.tc (fun i hi => ⟨by rcases (show i = 0 ∨ i = 1 ∨ i = 2 by omega) with e | e | e <;> subst e <;> omega, rfl⟩))).elim
  · omega
theorem NXS.e {p D a : Int} {B F : Nat → Int} {n : Nat} (h : NXS p D B F n (QA1 a)) (hn : 0 < n) (ha : p < a) : ¬ EXN p D B F n := fun z => by
  obtain ⟨ts, cs, h1, h2, h3⟩ := z
  have w : a ≤ ts 0 := h ts cs h1 h2 h3
  have l := h1.1 0 hn
  omega
theorem NXS.y1 {p D a : Int} {B F : Nat → Int} {n : Nat} {ts cs : Nat → Int} (h : NXS p D B F n (QA1 a)) (hn : n = 1) (ha : ts 0 = a) (b0 : 0 ≤ a ∧ a ≤ p) (z : ∀ i, i < n → 0 < cs i ∧ cs i < p) (s : SPF p D B F n ts cs) : PWL p D B F n ts cs := by
  subst hn
  refine ⟨⟨fun i hi => ?_, fun i hi => by omega⟩, z, s, fun u c r z' s' => ?_⟩
  · have e : i = 0 := by omega
    subst e
    omega
  have w : a ≤ u 0 := h u c r z' s'
  show (0 : Int) * 20 + ts 0 ≤ 0 * 20 + u 0; omega
theorem NXS.y2 {p D a b : Int} {B F : Nat → Int} {n : Nat} {ts cs : Nat → Int} (h : NXS p D B F n (QB1 a b)) (hn : n = 2) (ha : ts 0 = a) (hb : ts 1 = b) (hp : p ≤ 19) (b0 : 0 ≤ a ∧ a < b ∧ b ≤ p) (z : ∀ i, i < n → 0 < cs i ∧ cs i < p) (s : SPF p D B F n ts cs) : PWL p D B F n ts cs := by
  subst hn
  refine ⟨⟨fun i hi => by rcases (show i = 0 ∨ i = 1 by omega) with e | e <;> subst e <;> omega, fun i hi => by
    have e : i = 0 := by omega
    subst e; show ts 0 < ts 1; omega⟩, z, s, fun u c r z' s' => ?_⟩
  have w : a < u 0 ∨ (u 0 = a ∧ b ≤ u 1) := h u c r z' s'
  have l := r.1 1 (by omega)
  show ((0 : Int) * 20 + ts 0) * 20 + ts 1 ≤ (0 * 20 + u 0) * 20 + u 1; omega
theorem NXS.y3 {p D a b c : Int} {B F : Nat → Int} {n : Nat} {ts cs : Nat → Int} (h : NXS p D B F n (QC1 a b c)) (hn : n = 3) (ha : ts 0 = a) (hb : ts 1 = b) (hc : ts 2 = c) (hp : p ≤ 19) (b0 : 0 ≤ a ∧ a < b ∧ b < c ∧ c ≤ p) (z : ∀ i, i < n → 0 < cs i ∧ cs i < p) (s : SPF p D B F n ts cs) : PWL p D B F n ts cs := by
  subst hn
  refine ⟨⟨fun i hi => by rcases (show i = 0 ∨ i = 1 ∨ i = 2 by omega) with e | e | e <;> subst e <;> omega, fun i hi => by
    rcases (show i = 0 ∨ i = 1 by omega) with e | e <;> subst e
    · show ts 0 < ts 1; omega
    · show ts 1 < ts 2; omega⟩, z, s, fun u d r z' s' => ?_⟩
  have w : a < u 0 ∨ (u 0 = a ∧ (b < u 1 ∨ (u 1 = b ∧ c ≤ u 2))) := h u d r z' s'
  have l := r.1 1 (by omega)
  have l2 := r.1 2 (by omega)
  show (((0 : Int) * 20 + ts 0) * 20 + ts 1) * 20 + ts 2 ≤ ((0 * 20 + u 0) * 20 + u 1) * 20 + u 2; omega
theorem EXN.z0 {p D : Int} {B F : Nat → Int} : EXN p D B F 0 ↔ ∀ k : Nat, (k : Int) ≤ D → PmE p (F k) 0 := by
  constructor
  · rintro ⟨ts, cs, -, -, s⟩ k hk
    have e := s k hk
    have e : PmE p (F k) (B k * 0) := e
    rwa [Int.mul_zero] at e
  · intro h
    refine ⟨fun _ => 0, fun _ => 0, ⟨fun i hi => absurd hi (Nat.not_lt_zero i), fun i hi => by omega⟩, fun i hi => absurd hi (Nat.not_lt_zero i), fun k hk => ?_⟩
    show PmE p (F k) (B k * 0)
    rw [Int.mul_zero]; exact h k hk
theorem PmE.zr {p x : Int} (h : PmE p x 0) (h0 : 0 ≤ x) (h1 : x < p) : x = 0 := h.eq h0 h1 (Int.le_refl 0) (by omega)
theorem PWT.mv {W W2 : Nat → Int32} {p D D2 t : Int} (h : PWT W p D t) (eD : D = D2) (e : W = W2) : PWT W2 p D2 t := by subst eD; subst e; exact h
theorem EXN.mv {p D D2 : Int} {F F2 : Nat → Int} {n n2 : Nat} (h : EXN p D (BNI D) F n) (eD : D = D2) (en : n = n2) (e : ∀ k : Nat, (k : Int) ≤ D → F k = F2 k) : EXN p D2 (BNI D2) F2 n2 := by
  subst eD; subst en; exact h.cg e
theorem PWL.mv {p D D2 : Int} {F F2 ts cs : Nat → Int} {n n2 : Nat} (h : PWL p D (BNI D) F n ts cs) (eD : D = D2) (en : n = n2) (e : ∀ k : Nat, (k : Int) ≤ D → F k = F2 k) : PWL p D2 (BNI D2) F2 n2 ts cs := by
  subst eD; subst en
  obtain ⟨h1, h2, h3, h4⟩ := h
  exact ⟨h1, h2, h3.fc e, fun u c a b s => h4 u c a b (s.fc (fun k hk => (e k hk).symm))⟩
theorem PWL.z {p D : Int} {B F ts cs : Nat → Int} (h : ∀ k : Nat, (k : Int) ≤ D → F k = 0) : PWL p D B F 0 ts cs := ⟨⟨fun i hi => absurd hi (Nat.not_lt_zero i), fun i hi => by omega⟩, fun i hi => absurd hi (Nat.not_lt_zero i), fun k hk => by
  show PmE p (F k) (B k * 0)
  rw [h k hk, Int.mul_zero]; exact PmE.rf, fun _ _ _ _ _ => Int.le_refl _⟩
theorem PWX.r {x p D k : Int} {B F ts cs : Nat → Int} {n : Nat} (no : ∀ m : Nat, m < n → ¬ EXN p D B F m) (h3 : n ≤ 3) (h : PWL p D B F n ts cs) (a : PWA x n ts cs k) : PWX x p D B F k := ⟨n, fun m hm _ => no m hm, Or.inr ⟨h3, ts, cs, h, a⟩⟩
theorem PWX.n4 {x p D k : Int} {B F : Nat → Int} (no : ∀ m : Nat, m < 4 → ¬ EXN p D B F m) (hx : x = -1) : PWX x p D B F k := ⟨4, fun m hm _ => no m hm, Or.inl ⟨rfl, hx⟩⟩
theorem PWA.a {x k : Int} {n : Nat} {ts cs : Nat → Int} (hk : k = -1) (hx : x = n) : PWA x n ts cs k := ⟨fun _ => hx, fun q => by omega, fun q => by omega, fun q => absurd hk q⟩
theorem PWA.b {x k : Int} {n : Nat} {ts cs : Nat → Int} (h0 : 0 ≤ k) (h1 : k < n) (e : x = ts k.toNat) (h10 : k < 10 := by omega) : PWA x n ts cs k := ⟨fun q => by omega, fun _ _ => e, fun q => by omega, fun _ q => absurd ⟨h0, h1⟩ q⟩
theorem PWA.c {x k : Int} {n : Nat} {ts cs : Nat → Int} (h0 : 10 ≤ k) (h1 : k < 10 + n) (e : x = cs (k - 10).toNat) (h10 : ¬ k < n := by omega) : PWA x n ts cs k := ⟨fun q => by omega, fun _ q => absurd q h10, fun _ _ => e, fun _ _ q => absurd ⟨h0, h1⟩ q⟩
theorem PWA.d {x k : Int} {n : Nat} {ts cs : Nat → Int} (hk : k ≠ -1) (h0 : ¬ (0 ≤ k ∧ k < n)) (h1 : ¬ (10 ≤ k ∧ k < 10 + n)) (hx : x = -1) : PWA x n ts cs k := ⟨fun q => absurd q hk, fun a b => absurd ⟨a, b⟩ h0, fun a b => absurd ⟨a, b⟩ h1, fun _ _ _ => hx⟩
def PPH (n : Int) (A B : Prop) : Prop := (n = 3 → A) ∧ (n = 2 → B)
theorem PPH.z {n : Int} {A B : Prop} (a : n = 3 → A) (b : n = 2 → B) : PPH n A B := ⟨a, b⟩
theorem NXS.bx {p D a b b' : Int} {B F : Nat → Int} {n : Nat} (h : NXS p D B F n (QB1 a b)) (e : b' = b) : NXS p D B F n (QB1 a b') := by subst e; exact h
theorem NOF.n1 {p D : Int} {B F : Nat → Int} {n n' m : Nat} {ts cs : Nat → Int} (e : n' = n) (h : NOF p D B F n ts cs m) : NOF p D B F n' ts cs m := by subst e; exact h
theorem NOF.n2 {p D : Int} {B F : Nat → Int} {n n' m m' : Nat} {ts cs : Nat → Int} (e : n' = n) (em : m' = m) (h : NOF p D B F n ts cs m) : NOF p D B F n' ts cs m' := by subst e; subst em; exact h
theorem NOF.n3 {p D : Int} {B F : Nat → Int} {n n' m : Nat} {ts cs : Nat → Int} (e : n' = n) (h : NOF p D B F n ts cs m) : NOF p D B F n' ts cs m := by subst e; exact h
theorem SPF.n1 {p D : Int} {B F : Nat → Int} {n n' : Nat} {ts cs : Nat → Int} (e : n' = n) (h : SPF p D B F n ts cs) : SPF p D B F n' ts cs := by subst e; exact h
theorem a_X12_powerAt_x {d : Nat} {T N : Nat → Nat} {I : IT} {L : LT} {R : RT} {A : Nat → Prop} {r0 : Nat} {n1 n2 : Int32} (hI : IM R r0 I) (H_r0 : (h_MD T N R A) r0) (b0_n1 : 0 ≤ n1.toInt) (b1_n1 : n1.toInt ≤ 19) (b0_n2 : 0 ≤ n2.toInt) (b1_n2 : n2.toInt ≤ 8) : Ex (d + 1) 281 [.ref r0, .int n1, .int n2] (T, N, I, L, R) 0 0 (pI T N R (fun x9 I9 L9 => (-18 ≤ x9.toInt) ∧ (x9.toInt ≤ 18) ∧ (∀ a26, R r0 26 = some a26 → x9.toInt = (I a26 (9 * n1.toNatClampNeg + n2.toNatClampNeg)).toInt) ∧ (I = I9 ∧ L = L9))) := by
  refine ⟨_, rfl, Nat.le_of_ble_eq_true rfl, fun V C S => ?_⟩
  show V 0 [(0, .ref r0), (1, .int n1), (2, .int n2)] [] (T, N, I, L, R) 0 0
  have gn1 := rg n1
  have gn2 := rg n2
  obtain ⟨T_r0, A_r0, ⟨r0_1, R_r0_1, H_r0_1⟩, ⟨r0_2, R_r0_2, H_r0_2⟩, ⟨r0_4, R_r0_4, H_r0_4⟩, ⟨r0_5, R_r0_5, H_r0_5⟩, ⟨r0_10, R_r0_10, H_r0_10⟩, ⟨r0_18, R_r0_18, H_r0_18⟩, ⟨r0_20, R_r0_20, H_r0_20⟩, ⟨r0_21, R_r0_21, H_r0_21⟩, ⟨r0_22, R_r0_22, H_r0_22⟩, ⟨r0_23, R_r0_23, H_r0_23⟩, ⟨r0_25, R_r0_25, H_r0_25⟩, ⟨r0_26, R_r0_26, H_r0_26⟩, ⟨r0_27, R_r0_27, H_r0_27⟩, ⟨r0_28, R_r0_28, H_r0_28⟩, ⟨r0_34, R_r0_34, H_r0_34⟩, J_r0, Y_r0⟩ := id H_r0
  have G_r0 : mF T R r0 := ⟨J_r0, Y_r0, T_r0⟩
  refine k_aload_n C rfl rfl rfl ?_
  refine g_R C rfl rfl rfl T_r0 rfl R_r0_26 ?_
  refine z_bipush C (z := 9) rfl rfl rfl (fun x1 ex1 => ?_)
  refine k_iload_n C rfl rfl rfl ?_
  refine z_imulL C (c := 9) rfl rfl (by omega) ⟨by omega, by omega⟩ (fun x2 ex2 => ?_)
  refine k_iload_n C rfl rfl rfl ?_
  refine z_iadd C rfl rfl ⟨by omega, by omega⟩ (fun x3 ex3 => ?_)
  obtain ⟨T_r0_26, N_r0_26, A_r0_26⟩ := id H_r0_26
  refine z_aI C rfl rfl T_r0_26 N_r0_26 (by omega) (by omega) (fun x4 ex4 => ?_)
  have gx4 := rg x4
  have ox4 := IM.pwR hI R_r0_26 ex4
  have hr10 := ex4; have hj10 : x3.toNatClampNeg = 9 * n1.toNatClampNeg + n2.toNatClampNeg := (by have h1 := ncz (x := n1) (by omega); have h2 := ncz (x := n2) (by omega); have h3 := ncz (x := x3) (by omega); omega)
  exact k_iret C rfl (Or.inl rfl) (Nat.le_of_ble_eq_true rfl) (Nat.le_of_ble_eq_true rfl) ⟨_, _, _, rfl, rfl, by omega, by omega, fun a26 h26 => by cases (R_r0_26.symm.trans h26); rw [← hj10, hr10], rfl, rfl⟩

