/-! the reference: rows: lemmas -/
/-- a row's numbers: within p, and congruent to told ones -/
def RVX (I : IT) (nu r : Nat) (p D : Int) (g : Nat → Int) : Prop := ∀ j : Nat, (j : Int) ≤ D → 0 ≤ RI I nu r j ∧ RI I nu r j < p ∧ PmE p (RI I nu r j) (g j)
theorem RVX.sm {I I' : IT} {nu r : Nat} {p D : Int} {g : Nat → Int} (h : RVX I nu r p D g) (e : ∀ k, k < 41 → I' nu (41 * r + k) = I nu (41 * r + k)) (hD : D ≤ 40) : RVX I' nu r p D g := fun j hj => by
  have q := h j hj
  have z : RI I' nu r j = RI I nu r j := by show (I' nu _).toInt = (I nu _).toInt; rw [e j (by omega)]
  rw [z]; exact q
theorem RVX.cg {I : IT} {nu r : Nat} {p D D' : Int} {g g' : Nat → Int} (h : RVX I nu r p D g) (eD : D' = D) (e : ∀ j : Nat, (j : Int) ≤ D → PmE p (g j) (g' j)) : RVX I nu r p D' g' := by
  subst eD
  exact fun j hj => ⟨(h j hj).1, (h j hj).2.1, (h j hj).2.2.tr (e j hj)⟩
def PRE (s p g : Int) : Prop := 0 ≤ s ∧ s < p ∧ PmE p s g
theorem PRE.s {w s m p g a l x : Int} (h : PRE s p g) (t : TMD w s m p) (hm : m = l % p) (hl : l = x) (hx : x = a) (hp : 0 < p) : PRE w p (g * a) := by
  unfold TMD at t
  have m0 : 0 ≤ m := by rw [hm]; exact Int.emod_nonneg _ (by omega)
  refine ⟨by rw [t]; exact Int.tmod_nonneg _ (Int.mul_nonneg h.1 m0), by rw [t]; exact Int.tmod_lt_of_pos _ hp, ?_⟩
  rw [t, hm, hl, hx]
  exact (PmE.tm _).tr (h.2.2.ml (PmE.em _))
theorem PRE.m {w a b p g h9 : Int} (h : PRE a p g) (h2 : PRE b p h9) (t : TMD w a b p) (hp : 0 < p) : PRE w p (g * h9) := by
  unfold TMD at t
  refine ⟨by rw [t]; exact Int.tmod_nonneg _ (Int.mul_nonneg h.1 h2.1), by rw [t]; exact Int.tmod_lt_of_pos _ hp, ?_⟩
  rw [t]
  exact (PmE.tm _).tr (h.2.2.ml h2.2.2)
theorem PRE.a {w a b p g h9 : Int} (h : PRE a p g) (h2 : PRE b p h9) (t : PLD w a b p) (hp : 0 < p) : PRE w p (g + h9) := by
  unfold PLD at t
  have h1 := h.1
  have h3 := h2.1
  refine ⟨by rw [t]; exact Int.tmod_nonneg _ (by omega), by rw [t]; exact Int.tmod_lt_of_pos _ hp, ?_⟩
  rw [t]
  exact (PmE.tm _).tr (h.2.2.ad h2.2.2)
theorem PRE.cg {a p g g' : Int} (h : PRE a p g) (e : PmE p g g') : PRE a p g' := ⟨h.1, h.2.1, h.2.2.tr e⟩
theorem PRE.o {s p : Int} (h : s = 1) (hp : 1 < p) : PRE s p 1 := by subst h; exact ⟨by decide, hp, PmE.rf⟩
theorem RVX.at {I : IT} {nu r : Nat} {p D : Int} {g : Nat → Int} {x k : Int32} (h : RVX I nu r p D g) (o : x.toInt = (I nu (41 * r + k.toNatClampNeg)).toInt) (h0 : 0 ≤ k.toInt) (hD : k.toInt ≤ D) : PRE x.toInt p (g k.toNatClampNeg) := by
  have n0 := ncz h0
  have q := h k.toNatClampNeg (by omega)
  rw [o]; exact q
theorem RVX.z {I : IT} {nu r : Nat} {p D : Int} {g : Nat → Int} (h : D < 0) : RVX I nu r p D g := fun j hj => by omega
theorem RVX.s {I I' : IT} {nu r : Nat} {p D D' : Int} {g : Nat → Int} {y w : Int32} (h : RVX I nu r p D g) (hP : PUTD I I' nu r y.toNatClampNeg w) (hw : PRE w.toInt p (g y.toNatClampNeg)) (hy : y.toInt = D') (h0 : 0 ≤ D') (hD : D' = D + 1) : RVX I' nu r p D' g := fun j hj => by
  have n0 := ncz (x := y) (by omega)
  by_cases q : j = y.toNatClampNeg
  · subst q
    have z : RI I' nu r y.toNatClampNeg = w.toInt := by show (I' nu _).toInt = _; rw [hP.1]
    rw [z]; exact hw
  · have z : RI I' nu r j = RI I nu r j := by show (I' nu _).toInt = (I nu _).toInt; rw [hP.2 _ (by omega)]
    rw [z]; exact h j (by omega)
/-- one number of a row put anew -/
theorem RVX.u {I I' : IT} {nu r : Nat} {p D : Int} {g g' : Nat → Int} {y w : Int32} (h : RVX I nu r p D g) (hP : PUTD I I' nu r y.toNatClampNeg w) (hw : PRE w.toInt p (g' y.toNatClampNeg)) (e : ∀ j : Nat, (j : Int) ≤ D → j ≠ y.toNatClampNeg → PmE p (g j) (g' j)) : RVX I' nu r p D g' := fun j hj => by
  by_cases q : j = y.toNatClampNeg
  · subst q
    have z : RI I' nu r y.toNatClampNeg = w.toInt := by show (I' nu _).toInt = _; rw [hP.1]
    rw [z]; exact hw
  · have z : RI I' nu r j = RI I nu r j := by show (I' nu _).toInt = (I nu _).toInt; rw [hP.2 _ (by omega)]
    rw [z]
    have q2 := h j hj
    exact ⟨q2.1, q2.2.1, q2.2.2.tr (e j hj q)⟩
theorem RVX.put {I I' : IT} {nu r r' k : Nat} {p D : Int} {g : Nat → Int} {x : Int32} (h : RVX I nu r p D g) (w : PUTD I I' nu r' k x) (hk : k < 41) (hD : D ≤ 40) (hn : r ≠ r') : RVX I' nu r p D g := h.sm (fun k9 h9 => w.2 _ (by omega)) hD
def RCN (I : IT) (nu r : Nat) (p D : Int) : Prop := ∀ k : Nat, (k : Int) ≤ D → 0 ≤ RI I nu r k ∧ RI I nu r k < p
theorem RCN.v {I : IT} {nu r : Nat} {p D : Int} (h : RCN I nu r p D) : RVX I nu r p D (RI I nu r) := fun j hj => ⟨(h j hj).1, (h j hj).2, PmE.rf⟩
theorem RVX.cn {I : IT} {nu r : Nat} {p D : Int} {g : Nat → Int} (h : RVX I nu r p D g) : RCN I nu r p D := fun j hj => ⟨(h j hj).1, (h j hj).2.1⟩
/-- over: a number of the triangle -/
def OVR (n k : Int) : Nat → Int
  | 0 => 1
  | i + 1 => OVR n k i * (n - k + (i + 1)) / (i + 1)
theorem OVR.b {n k : Int} {i : Nat} (h0 : 0 ≤ k) (hk : k ≤ n) (h8 : n ≤ 8) (hi : (i : Int) ≤ k) : 0 ≤ OVR n k i ∧ OVR n k i ≤ 70 := by
  have h : ∀ a : Nat, a < 9 → ∀ b : Nat, b < 9 → ∀ c : Nat, c < 9 → (b ≤ a ∧ c ≤ b → 0 ≤ OVR a b c ∧ OVR a b c ≤ 70) := by decide +kernel
  have := h n.toNat (by omega) k.toNat (by omega) i (by omega) (by omega)
  rwa [show ((n.toNat : Nat) : Int) = n from by omega, show ((k.toNat : Nat) : Int) = k from by omega] at this
theorem OVR.e {n k : Int} (h0 : 0 ≤ k) (hk : k ≤ n) (h8 : n ≤ 8) : OVR n k k.toNat = BNI n k.toNat := by
  have h : ∀ a : Nat, a < 9 → ∀ b : Nat, b < 9 → b ≤ a → OVR a b b = BNI a b := by decide +kernel
  have := h n.toNat (by omega) k.toNat (by omega) (by omega)
  rwa [show ((n.toNat : Nat) : Int) = n from by omega, show ((k.toNat : Nat) : Int) = k from by omega] at this
theorem OVR.s {n k : Int} {u m w y d i i' : Int32} (h : u.toInt = OVR n k (i.toInt - 1).toNat) (mm : IMX m u y) (hy : y.toInt = n - k + i.toInt) (dd : IDX w m d) (hd : d.toInt = i.toInt) (h1 : 1 ≤ i.toInt) (hi : i.toInt ≤ k) (hk : k ≤ n) (h8 : n ≤ 8) (hi' : i'.toInt = i.toInt + 1) : w.toInt = OVR n k (i'.toInt - 1).toNat := by
  have b := OVR.b (i := (i.toInt - 1).toNat) (n := n) (k := k) (by omega) hk h8 (by omega)
  have g0 : 0 ≤ u.toInt * y.toInt := Int.mul_nonneg (by omega) (by omega)
  have g1 : u.toInt * y.toInt ≤ 70 * 16 := Int.mul_le_mul (by omega) (by omega) (by omega) (by decide)
  have e := mm (by omega) (by omega)
  have e2 := dd (by omega) (by omega)
  rw [e2, e, show (i'.toInt - 1).toNat = (i.toInt - 1).toNat + 1 from by omega]
  show u.toInt * y.toInt / d.toInt = OVR n k (i.toInt - 1).toNat * (n - k + (((i.toInt - 1).toNat : Nat) + 1)) / ((((i.toInt - 1).toNat : Nat) : Int) + 1)
  rw [h, hy, hd, show (((i.toInt - 1).toNat : Nat) : Int) + 1 = i.toInt from by omega]
theorem FFP.s {n : Int} {i i' : Int32} (h0 : 0 ≤ i.toInt) (hi : i'.toInt = i.toInt + 1) : FFP n i'.toNatClampNeg = FFP n i.toNatClampNeg * (n - i.toInt) := by
  have n0 := ncz h0
  have n1 := ncz (x := i') (by omega)
  rw [show i'.toNatClampNeg = i.toNatClampNeg + 1 from by omega]
  show FFP n i.toNatClampNeg * (n - i.toNatClampNeg) = _
  rw [n0]
theorem FFP.z {n : Int} {i : Int32} (h : i.toInt = 0) : FFP n i.toNatClampNeg = 1 := by rw [nck (x := i) (n := 0) h]; rfl
/-- a number differentiated -/
theorem DIF.r {f : Nat → Int} {D n2 : Int} {k b y a : Int32} (hy : y.toInt = k.toInt - b.toInt) (h0 : 0 ≤ b.toInt) (h1 : b.toInt ≤ k.toInt) : f k.toNatClampNeg * (FFP (D - k.toInt) a.toNatClampNeg * FFP k.toInt b.toNatClampNeg) = DIF f D a.toNatClampNeg b.toNatClampNeg y.toNatClampNeg := by
  have n0 := ncz h0
  have n1 := ncz (x := k) (by omega)
  have n3 := ncz (x := y) (by omega)
  unfold DIF
  rw [show y.toNatClampNeg + b.toNatClampNeg = k.toNatClampNeg from by omega, Int.mul_assoc, show D - (b.toNatClampNeg : Int) - (y.toNatClampNeg : Int) = D - k.toInt from by omega, show (y.toNatClampNeg : Int) + (b.toNatClampNeg : Int) = k.toInt from by omega]
theorem RI.sm {I I' : IT} {nu r : Nat} (h : SMR I I' nu r) {k : Int32} {x : Int32} (o : x.toInt = (I' nu (41 * r + k.toNatClampNeg)).toInt) (h0 : 0 ≤ k.toInt) (h1 : k.toInt ≤ 40) : x.toInt = (I nu (41 * r + k.toNatClampNeg)).toInt := by
  have n0 := ncz h0
  rw [o, h _ (by omega)]
/-- multiplies -/
theorem MPX.z {I : IT} {nu r : Nat} {p W E n : Int} {f g : Nat → Int} (h : AZ I nu (41 * r) (W + 1)) (hp : 0 < p) (hn : n = 0) : RVX I nu r p W (CVS f g E n.toNat) := fun j hj => by
  subst hn
  have q : RI I nu r j = 0 := h j (by omega)
  rw [q]; exact ⟨Int.le_refl 0, hp, PmE.rf⟩
def MPJ (f g : Nat → Int) (E i j : Int) (m : Nat) : Int := CVS f g E i.toNat m + f i.toNat * CVI g i.toNat j m
theorem MPJ.z {I : IT} {nu r : Nat} {p W E i j : Int} {f g : Nat → Int} (h : RVX I nu r p W (CVS f g E i.toNat)) (hj : j = 0) : RVX I nu r p W (MPJ f g E i j) := h.cg rfl (fun m _ => by
  unfold MPJ
  rw [CVI.z (by omega), Int.mul_zero, Int.add_zero]; exact PmE.rf)
theorem MPJ.e {I : IT} {nu r : Nat} {p W E i i' j : Int} {f g : Nat → Int} (h : RVX I nu r p W (MPJ f g E i j)) (hj : j = E + 1) (h0 : 0 ≤ i) (hi : i' = i + 1) : RVX I nu r p W (CVS f g E i'.toNat) := h.cg rfl (fun m _ => by
  unfold MPJ
  rw [show i'.toNat = i.toNat + 1 from by omega, hj]; exact PmE.rf)
theorem MPJ.s {I I' : IT} {nu r : Nat} {p W E : Int} {f g : Nat → Int} {i j j' y y2 a b c m w : Int32} (h : RVX I nu r p W (MPJ f g E i.toInt j.toInt)) (oa : a.toInt = (I nu (41 * r + y2.toNatClampNeg)).toInt) (hb : PRE b.toInt p (f i.toNatClampNeg)) (hc : PRE c.toInt p (g j.toNatClampNeg)) (t : TMD m.toInt b.toInt c.toInt p) (pl : PLD w.toInt a.toInt m.toInt p) (hP : PUTD I I' nu r y.toNatClampNeg w) (hy : y.toInt = i.toInt + j.toInt) (hy2 : y2.toInt = i.toInt + j.toInt) (hi : 0 ≤ i.toInt) (hj : 0 ≤ j.toInt) (hW : i.toInt + j.toInt ≤ W) (hj' : j'.toInt = j.toInt + 1) (hp : 0 < p) : RVX I' nu r p W (MPJ f g E i.toInt j'.toInt) := by
  have ey : y2 = y := Int32.toInt_inj.mp (by omega)
  subst ey
  have n0 := ncz (x := y2) (by omega)
  have n1 := ncz hi
  have n2 := ncz hj
  obtain ⟨c0, c1⟩ := CVI.n (g := g) (i := i.toInt.toNat) (m := y2.toNatClampNeg) hj hj' (by omega)
  refine h.u hP ?_ (fun k hk hn => ?_)
  · have ha := h.at oa (by omega) (by omega)
    have q := ha.a (hb.m hc t hp) pl hp
    refine q.cg ?_
    unfold MPJ
    rw [c0, c1, Int.mul_zero, Int.add_zero]; exact PmE.rf
  · unfold MPJ
    rw [CVI.o hj hj' (by omega)]; exact PmE.rf
/-- overlaps: x of the row's numbers are through -/
def OVMz (g g' : Nat → Int) (x : Int) (j : Nat) : Int := if (j : Int) < x then g' j else g j
theorem OVMz.z {I : IT} {nu r : Nat} {p W x : Int} {g g' : Nat → Int} (h : RVX I nu r p W g) (hx : x = 0) : RVX I nu r p W (OVMz g g' x) := h.cg rfl (fun j _ => by unfold OVMz; rw [if_neg (by omega)]; exact PmE.rf)
theorem OVMz.e {I : IT} {nu r : Nat} {p W x : Int} {g g' : Nat → Int} (h : RVX I nu r p W (OVMz g g' x)) (hx : W < x) : RVX I nu r p W g' := h.cg rfl (fun j _ => by unfold OVMz; rw [if_pos (by omega)]; exact PmE.rf)
theorem OVMz.s {I I' : IT} {nu r : Nat} {p W e : Int} {g g' h9 : Nat → Int} {x x' a b c m w : Int32} (h : RVX I nu r p W (OVMz g g' x.toInt)) (oa : a.toInt = (I nu (41 * r + x.toNatClampNeg)).toInt) (hb : PRE b.toInt p e) (hc : PRE c.toInt p (h9 x.toNatClampNeg)) (t : TMD m.toInt b.toInt c.toInt p) (pl : PLD w.toInt a.toInt m.toInt p) (hP : PUTD I I' nu r x.toNatClampNeg w) (hg : ∀ j, g' j = g j + e * h9 j) (h0 : 0 ≤ x.toInt) (hW : x.toInt ≤ W) (hx : x'.toInt = x.toInt + 1) (hp : 0 < p) : RVX I' nu r p W (OVMz g g' x'.toInt) := by
  have n0 := ncz h0
  refine h.u hP ?_ (fun k hk hn => ?_)
  · have ha := h.at oa h0 hW
    have q := ha.a (hb.m hc t hp) pl hp
    refine q.cg ?_
    unfold OVMz
    rw [if_neg (by omega), if_pos (by omega), hg]; exact PmE.rf
  · unfold OVMz
    by_cases c : (k : Int) < x.toInt
    · rw [if_pos c, if_pos (by omega)]; exact PmE.rf
    · rw [if_neg c, if_neg (by omega)]; exact PmE.rf
theorem OVB.y {x p : Int} {l : Int64} {u c i : Int32} {t : Int} (hx : x = l.toInt % p) (hl : l.toInt = u.toInt) (hu : u.toInt = t) (hc : c.toInt = i.toInt % 2) (hz : c.toInt = 0) (h0 : 0 ≤ i.toInt) (hp : 0 < p) : PRE x p (SGI i.toNatClampNeg * t) := by
  have n0 := ncz h0
  refine ⟨by rw [hx]; exact Int.emod_nonneg _ (by omega), by rw [hx]; exact Int.emod_lt_of_pos _ hp, ?_⟩
  unfold SGI
  rw [if_pos (by omega), Int.one_mul, hx, hl, hu]; exact PmE.em _
theorem OVB.n {x p : Int} {l : Int64} {u v c i : Int32} {t : Int} (hx : x = l.toInt % p) (hl : l.toInt = v.toInt) (hv : v.toInt = -u.toInt) (hu : u.toInt = t) (hc : c.toInt = i.toInt % 2) (hz : c.toInt ≠ 0) (h0 : 0 ≤ i.toInt) (hp : 0 < p) : PRE x p (SGI i.toNatClampNeg * t) := by
  have n0 := ncz h0
  refine ⟨by rw [hx]; exact Int.emod_nonneg _ (by omega), by rw [hx]; exact Int.emod_lt_of_pos _ hp, ?_⟩
  unfold SGI
  rw [if_neg (by omega), hx, hl, hv, hu, show (-1 : Int) * t = -t from by omega]; exact PmE.em _
theorem DIF.pe {p D : Int} {f f' : Nat → Int} {a b j : Nat} (h : ∀ k : Nat, (k : Int) ≤ D → PmE p (f k) (f' k)) (hj : ((j + b : Nat) : Int) ≤ D) : PmE p (DIF f D a b j) (DIF f' D a b j) := ((h _ hj).ml PmE.rf).ml PmE.rf
theorem OVS.pe {p D E k : Int} {f f' g g' : Nat → Int} (hf : ∀ j : Nat, (j : Int) ≤ D → PmE p (f j) (f' j)) (hg : ∀ j : Nat, (j : Int) ≤ E → PmE p (g j) (g' j)) (hD : k ≤ D) (hE : k ≤ E) {m : Nat} : ∀ n : Nat, (n : Int) ≤ k + 1 → PmE p (OVS f g D E k n m) (OVS f' g' D E k n m)
  | 0, _ => PmE.rf
  | i + 1, h => (OVS.pe hf hg hD hE i (by omega)).ad (PmE.rf.ml (CVS.pe _ (fun j hj => DIF.pe hf (by omega)) (fun j hj => DIF.pe hg (by omega))))
theorem OVQ.r {I : IT} {nu r : Nat} {x p W W' k : Int} {g : Nat → Int} (h : RVX I nu r p W g) (d : DON x W' (RI I nu r) k) (e : W' = W) : OVQ x p W k g := by
  subst e
  exact ⟨_, h, d⟩
theorem OVQ.pe {x p W W' k : Int} {f g : Nat → Int} (h : OVQ x p W k f) (eW : W = W') (e : ∀ j : Nat, (j : Int) ≤ W → PmE p (f j) (g j)) : OVQ x p W' k g := by
  subst eW
  obtain ⟨v, v1, v2⟩ := h
  exact ⟨v, fun j hj => ⟨(v1 j hj).1, (v1 j hj).2.1, (v1 j hj).2.2.tr (e j hj)⟩, v2⟩
theorem RCN.sm {I I' : IT} {nu r : Nat} {p D D' : Int} (h : RCN I nu r p D) (s : SMR I I' nu r) (eD : D' = D) (hD : D ≤ 40) : RCN I' nu r p D' := by
  subst eD
  intro k hk
  have z : RI I' nu r k = RI I nu r k := by show (I' nu _).toInt = (I nu _).toInt; rw [s k (by omega)]
  rw [z]; exact h k hk
theorem RVX.df {I9 I1 I : IT} {nu r n a c : Nat} {p D D' E : Int} {u v : Int32} (h : RVX I9 nu r p (D' - u.toInt - v.toInt) (DIF (RI I1 nu n) D' u.toNatClampNeg v.toNatClampNeg)) (s : SMR I I1 nu n) (eD : D' = D) (hD : D ≤ 40) (hu : u.toNatClampNeg = a) (hv : v.toNatClampNeg = c) (h0 : 0 ≤ u.toInt) (h1 : 0 ≤ v.toInt) (hE : D - u.toInt - v.toInt = E) : RVX I9 nu r p E (DIF (RI I nu n) D a c) := by
  subst eD; subst hu; subst hv; subst hE
  have n1 := ncz h1
  refine h.cg rfl (fun j hj => DIF.pe (fun k hk => ?_) (by omega))
  have z : RI I1 nu n k = RI I nu n k := by show (I1 nu _).toInt = (I nu _).toInt; rw [s k (by omega)]
  rw [z]; exact PmE.rf
