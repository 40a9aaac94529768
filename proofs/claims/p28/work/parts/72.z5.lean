/-! the reference: differentiated: exactly -/
/-- a row's numbers: within p, and congruent to told ones -/
def RVX (I : IT) (nu r : Nat) (p D : Int) (g : Nat → Int) : Prop := ∀ j : Nat, (j : Int) ≤ D → 0 ≤ RI I nu r j ∧ RI I nu r j < p ∧ PmE p (RI I nu r j) (g j)
theorem RVX.sm {I I' : IT} {nu r : Nat} {p D : Int} {g : Nat → Int} (h : RVX I nu r p D g) (e : ∀ k, k < 41 → I' nu (41 * r + k) = I nu (41 * r + k)) (hD : D ≤ 40) : RVX I' nu r p D g := fun j hj => by
  have q := h j hj
  have z : RI I' nu r j = RI I nu r j := by show (I' nu _).toInt = (I nu _).toInt; rw [e j (by omega)]
  rw [z]; exact q
theorem RVX.cg {I : IT} {nu r : Nat} {p D D' : Int} {g g' : Nat → Int} (h : RVX I nu r p D g) (eD : D' = D) (e : ∀ j : Nat, (j : Int) ≤ D → PmE p (g j) (g' j)) : RVX I nu r p D' g' := by
  subst eD
  exact fun j hj => ⟨(h j hj).1, (h j hj).2.1, (h j hj).2.2.tr (e j hj)⟩
def PRE (s p g : Int) : Prop := 0 ≤ s ∧ s < p ∧ PmE p s g
theorem PRE.s {w s m p g a l x : Int} (h : PRE s p g) (t : TMD w s m p) (hm : m = l % p) (hl : l = x) (hx : x = a) (hp : 0 < p) : PRE w p (g * a) := by
  unfold TMD at t
  have m0 : 0 ≤ m := by rw [hm]; exact Int.emod_nonneg _ (by omega)
  refine ⟨by rw [t]; exact Int.tmod_nonneg _ (Int.mul_nonneg h.1 m0), by rw [t]; exact Int.tmod_lt_of_pos _ hp, ?_⟩
  rw [t, hm, hl, hx]
  exact (PmE.tm _).tr (h.2.2.ml (PmE.em _))
theorem PRE.m {w a b p g h9 : Int} (h : PRE a p g) (h2 : PRE b p h9) (t : TMD w a b p) (hp : 0 < p) : PRE w p (g * h9) := by
  unfold TMD at t
  refine ⟨by rw [t]; exact Int.tmod_nonneg _ (Int.mul_nonneg h.1 h2.1), by rw [t]; exact Int.tmod_lt_of_pos _ hp, ?_⟩
  rw [t]
  exact (PmE.tm _).tr (h.2.2.ml h2.2.2)
theorem PRE.a {w a b p g h9 : Int} (h : PRE a p g) (h2 : PRE b p h9) (t : PLD w a b p) (hp : 0 < p) : PRE w p (g + h9) := by
  unfold PLD at t
  have h1 := h.1
  have h3 := h2.1
  refine ⟨by rw [t]; exact Int.tmod_nonneg _ (by omega), by rw [t]; exact Int.tmod_lt_of_pos _ hp, ?_⟩
  rw [t]
  exact (PmE.tm _).tr (h.2.2.ad h2.2.2)
theorem PRE.cg {a p g g' : Int} (h : PRE a p g) (e : PmE p g g') : PRE a p g' := ⟨h.1, h.2.1, h.2.2.tr e⟩
theorem PRE.o {s p : Int} (h : s = 1) (hp : 1 < p) : PRE s p 1 := by subst h; exact ⟨by decide, hp, PmE.rf⟩
theorem RVX.at {I : IT} {nu r : Nat} {p D : Int} {g : Nat → Int} {x k : Int32} (h : RVX I nu r p D g) (o : x.toInt = (I nu (41 * r + k.toNatClampNeg)).toInt) (h0 : 0 ≤ k.toInt) (hD : k.toInt ≤ D) : PRE x.toInt p (g k.toNatClampNeg) := by
  have n0 := ncz h0
  have q := h k.toNatClampNeg (by omega)
  rw [o]; exact q
theorem RVX.z {I : IT} {nu r : Nat} {p D : Int} {g : Nat → Int} (h : D < 0) : RVX I nu r p D g := fun j hj => by omega
theorem RVX.s {I I' : IT} {nu r : Nat} {p D D' : Int} {g : Nat → Int} {y w : Int32} (h : RVX I nu r p D g) (hP : PUTD I I' nu r y.toNatClampNeg w) (hw : PRE w.toInt p (g y.toNatClampNeg)) (hy : y.toInt = D') (h0 : 0 ≤ D') (hD : D' = D + 1) : RVX I' nu r p D' g := fun j hj => by
  have n0 := ncz (x := y) (by omega)
  by_cases q : j = y.toNatClampNeg
  · subst q
    have z : RI I' nu r y.toNatClampNeg = w.toInt := by show (I' nu _).toInt = _; rw [hP.1]
    rw [z]; exact hw
  · have z : RI I' nu r j = RI I nu r j := by show (I' nu _).toInt = (I nu _).toInt; rw [hP.2 _ (by omega)]
    rw [z]; exact h j (by omega)
/-- one number of a row put anew -/
theorem RVX.u {I I' : IT} {nu r : Nat} {p D : Int} {g g' : Nat → Int} {y w : Int32} (h : RVX I nu r p D g) (hP : PUTD I I' nu r y.toNatClampNeg w) (hw : PRE w.toInt p (g' y.toNatClampNeg)) (e : ∀ j : Nat, (j : Int) ≤ D → j ≠ y.toNatClampNeg → PmE p (g j) (g' j)) : RVX I' nu r p D g' := fun j hj => by
  by_cases q : j = y.toNatClampNeg
  · subst q
    have z : RI I' nu r y.toNatClampNeg = w.toInt := by show (I' nu _).toInt = _; rw [hP.1]
    rw [z]; exact hw
  · have z : RI I' nu r j = RI I nu r j := by show (I' nu _).toInt = (I nu _).toInt; rw [hP.2 _ (by omega)]
    rw [z]
    have q2 := h j hj
    exact ⟨q2.1, q2.2.1, q2.2.2.tr (e j hj q)⟩
theorem RVX.put {I I' : IT} {nu r r' k : Nat} {p D : Int} {g : Nat → Int} {x : Int32} (h : RVX I nu r p D g) (w : PUTD I I' nu r' k x) (hk : k < 41) (hD : D ≤ 40) (hn : r ≠ r') : RVX I' nu r p D g := h.sm (fun k9 h9 => w.2 _ (by omega)) hD
def RCN (I : IT) (nu r : Nat) (p D : Int) : Prop := ∀ k : Nat, (k : Int) ≤ D → 0 ≤ RI I nu r k ∧ RI I nu r k < p
theorem RCN.v {I : IT} {nu r : Nat} {p D : Int} (h : RCN I nu r p D) : RVX I nu r p D (RI I nu r) := fun j hj => ⟨(h j hj).1, (h j hj).2, PmE.rf⟩
theorem RVX.cn {I : IT} {nu r : Nat} {p D : Int} {g : Nat → Int} (h : RVX I nu r p D g) : RCN I nu r p D := fun j hj => ⟨(h j hj).1, (h j hj).2.1⟩
/-- over: a number of the triangle -/
def OVR (n k : Int) : Nat → Int
  | 0 => 1
  | i + 1 => OVR n k i * (n - k + (i + 1)) / (i + 1)
theorem OVR.b {n k : Int} {i : Nat} (h0 : 0 ≤ k) (hk : k ≤ n) (h8 : n ≤ 8) (hi : (i : Int) ≤ k) : 0 ≤ OVR n k i ∧ OVR n k i ≤ 70 := by
  have h : ∀ a : Nat, a < 9 → ∀ b : Nat, b < 9 → ∀ c : Nat, c < 9 → (b ≤ a ∧ c ≤ b → 0 ≤ OVR a b c ∧ OVR a b c ≤ 70) := by decide +kernel
  have := h n.toNat (by omega) k.toNat (by omega) i (by omega) (by omega)
  rwa [show ((n.toNat : Nat) : Int) = n from by omega, show ((k.toNat : Nat) : Int) = k from by omega] at this
theorem OVR.e {n k : Int} (h0 : 0 ≤ k) (hk : k ≤ n) (h8 : n ≤ 8) : OVR n k k.toNat = BNI n k.toNat := by
  have h : ∀ a : Nat, a < 9 → ∀ b : Nat, b < 9 → b ≤ a → OVR a b b = BNI a b := by decide +kernel
  have := h n.toNat (by omega) k.toNat (by omega) (by omega)
  rwa [show ((n.toNat : Nat) : Int) = n from by omega, show ((k.toNat : Nat) : Int) = k from by omega] at this
theorem OVR.s {n k : Int} {u m w y d i i' : Int32} (h : u.toInt = OVR n k (i.toInt - 1).toNat) (mm : IMX m u y) (hy : y.toInt = n - k + i.toInt) (dd : IDX w m d) (hd : d.toInt = i.toInt) (h1 : 1 ≤ i.toInt) (hi : i.toInt ≤ k) (hk : k ≤ n) (h8 : n ≤ 8) (hi' : i'.toInt = i.toInt + 1) : w.toInt = OVR n k (i'.toInt - 1).toNat := by
  have b := OVR.b (i := (i.toInt - 1).toNat) (n := n) (k := k) (by omega) hk h8 (by omega)
  have g0 : 0 ≤ u.toInt * y.toInt := Int.mul_nonneg (by omega) (by omega)
  have g1 : u.toInt * y.toInt ≤ 70 * 16 := Int.mul_le_mul (by omega) (by omega) (by omega) (by decide)
  have e := mm (by omega) (by omega)
  have e2 := dd (by omega) (by omega)
  rw [e2, e, show (i'.toInt - 1).toNat = (i.toInt - 1).toNat + 1 from by omega]
  show u.toInt * y.toInt / d.toInt = OVR n k (i.toInt - 1).toNat * (n - k + (((i.toInt - 1).toNat : Nat) + 1)) / ((((i.toInt - 1).toNat : Nat) : Int) + 1)
  rw [h, hy, hd, show (((i.toInt - 1).toNat : Nat) : Int) + 1 = i.toInt from by omega]
theorem FFP.s {n : Int} {i i' : Int32} (h0 : 0 ≤ i.toInt) (hi : i'.toInt = i.toInt + 1) : FFP n i'.toNatClampNeg = FFP n i.toNatClampNeg * (n - i.toInt) := by
  have n0 := ncz h0
  have n1 := ncz (x := i') (by omega)
  rw [show i'.toNatClampNeg = i.toNatClampNeg + 1 from by omega]
  show FFP n i.toNatClampNeg * (n - i.toNatClampNeg) = _
  rw [n0]
theorem FFP.z {n : Int} {i : Int32} (h : i.toInt = 0) : FFP n i.toNatClampNeg = 1 := by rw [nck (x := i) (n := 0) h]; rfl
/-- a number differentiated -/
theorem DIF.r {f : Nat → Int} {D n2 : Int} {k b y a : Int32} (hy : y.toInt = k.toInt - b.toInt) (h0 : 0 ≤ b.toInt) (h1 : b.toInt ≤ k.toInt) : f k.toNatClampNeg * (FFP (D - k.toInt) a.toNatClampNeg * FFP k.toInt b.toNatClampNeg) = DIF f D a.toNatClampNeg b.toNatClampNeg y.toNatClampNeg := by
  have n0 := ncz h0
  have n1 := ncz (x := k) (by omega)
  have n3 := ncz (x := y) (by omega)
  unfold DIF
  rw [show y.toNatClampNeg + b.toNatClampNeg = k.toNatClampNeg from by omega, Int.mul_assoc, show D - (b.toNatClampNeg : Int) - (y.toNatClampNeg : Int) = D - k.toInt from by omega, show (y.toNatClampNeg : Int) + (b.toNatClampNeg : Int) = k.toInt from by omega]
theorem RI.sm {I I' : IT} {nu r : Nat} (h : SMR I I' nu r) {k : Int32} {x : Int32} (o : x.toInt = (I' nu (41 * r + k.toNatClampNeg)).toInt) (h0 : 0 ≤ k.toInt) (h1 : k.toInt ≤ 40) : x.toInt = (I nu (41 * r + k.toNatClampNeg)).toInt := by
  have n0 := ncz h0
  rw [o, h _ (by omega)]
/-- multiplies -/
theorem MPX.z {I : IT} {nu r : Nat} {p W E n : Int} {f g : Nat → Int} (h : AZ I nu (41 * r) (W + 1)) (hp : 0 < p) (hn : n = 0) : RVX I nu r p W (CVS f g E n.toNat) := fun j hj => by
  subst hn
  have q : RI I nu r j = 0 := h j (by omega)
  rw [q]; exact ⟨Int.le_refl 0, hp, PmE.rf⟩
def MPJ (f g : Nat → Int) (E i j : Int) (m : Nat) : Int := CVS f g E i.toNat m + f i.toNat * CVI g i.toNat j m
theorem MPJ.z {I : IT} {nu r : Nat} {p W E i j : Int} {f g : Nat → Int} (h : RVX I nu r p W (CVS f g E i.toNat)) (hj : j = 0) : RVX I nu r p W (MPJ f g E i j) := h.cg rfl (fun m _ => by
  unfold MPJ
  rw [CVI.z (by omega), Int.mul_zero, Int.add_zero]; exact PmE.rf)
theorem MPJ.e {I : IT} {nu r : Nat} {p W E i i' j : Int} {f g : Nat → Int} (h : RVX I nu r p W (MPJ f g E i j)) (hj : j = E + 1) (h0 : 0 ≤ i) (hi : i' = i + 1) : RVX I nu r p W (CVS f g E i'.toNat) := h.cg rfl (fun m _ => by
  unfold MPJ
  rw [show i'.toNat = i.toNat + 1 from by omega, hj]; exact PmE.rf)
theorem MPJ.s {I I' : IT} {nu r : Nat} {p W E : Int} {f g : Nat → Int} {i j j' y y2 a b c m w : Int32} (h : RVX I nu r p W (MPJ f g E i.toInt j.toInt)) (oa : a.toInt = (I nu (41 * r + y2.toNatClampNeg)).toInt) (hb : PRE b.toInt p (f i.toNatClampNeg)) (hc : PRE c.toInt p (g j.toNatClampNeg)) (t : TMD m.toInt b.toInt c.toInt p) (pl : PLD w.toInt a.toInt m.toInt p) (hP : PUTD I I' nu r y.toNatClampNeg w) (hy : y.toInt = i.toInt + j.toInt) (hy2 : y2.toInt = i.toInt + j.toInt) (hi : 0 ≤ i.toInt) (hj : 0 ≤ j.toInt) (hW : i.toInt + j.toInt ≤ W) (hj' : j'.toInt = j.toInt + 1) (hp : 0 < p) : RVX I' nu r p W (MPJ f g E i.toInt j'.toInt) := by
  have ey : y2 = y := Int32.toInt_inj.mp (by omega)
  subst ey
  have n0 := ncz (x := y2) (by omega)
  have n1 := ncz hi
  have n2 := ncz hj
  obtain ⟨c0, c1⟩ := CVI.n (g := g) (i := i.toInt.toNat) (m := y2.toNatClampNeg) hj hj' (by omega)
  refine h.u hP ?_ (fun k hk hn => ?_)
  · have ha := h.at oa (by omega) (by omega)
    have q := ha.a (hb.m hc t hp) pl hp
    refine q.cg ?_
    unfold MPJ
    rw [c0, c1, Int.mul_zero, Int.add_zero]; exact PmE.rf
  · unfold MPJ
    rw [CVI.o hj hj' (by omega)]; exact PmE.rf
/-- overlaps: x of the row's numbers are through -/
def OVM (g g' : Nat → Int) (x : Int) (j : Nat) : Int := if (j : Int) < x then g' j else g j
theorem OVM.z {I : IT} {nu r : Nat} {p W x : Int} {g g' : Nat → Int} (h : RVX I nu r p W g) (hx : x = 0) : RVX I nu r p W (OVM g g' x) := h.cg rfl (fun j _ => by unfold OVM; rw [if_neg (by omega)]; exact PmE.rf)
theorem OVM.e {I : IT} {nu r : Nat} {p W x : Int} {g g' : Nat → Int} (h : RVX I nu r p W (OVM g g' x)) (hx : W < x) : RVX I nu r p W g' := h.cg rfl (fun j _ => by unfold OVM; rw [if_pos (by omega)]; exact PmE.rf)
theorem OVM.s {I I' : IT} {nu r : Nat} {p W e : Int} {g g' h9 : Nat → Int} {x x' a b c m w : Int32} (h : RVX I nu r p W (OVM g g' x.toInt)) (oa : a.toInt = (I nu (41 * r + x.toNatClampNeg)).toInt) (hb : PRE b.toInt p e) (hc : PRE c.toInt p (h9 x.toNatClampNeg)) (t : TMD m.toInt b.toInt c.toInt p) (pl : PLD w.toInt a.toInt m.toInt p) (hP : PUTD I I' nu r x.toNatClampNeg w) (hg : ∀ j, g' j = g j + e * h9 j) (h0 : 0 ≤ x.toInt) (hW : x.toInt ≤ W) (hx : x'.toInt = x.toInt + 1) (hp : 0 < p) : RVX I' nu r p W (OVM g g' x'.toInt) := by
  have n0 := ncz h0
  refine h.u hP ?_ (fun k hk hn => ?_)
  · have ha := h.at oa h0 hW
    have q := ha.a (hb.m hc t hp) pl hp
    refine q.cg ?_
    unfold OVM
    rw [if_neg (by omega), if_pos (by omega), hg]; exact PmE.rf
  · unfold OVM
    by_cases c : (k : Int) < x.toInt
    · rw [if_pos c, if_pos (by omega)]; exact PmE.rf
    · rw [if_neg c, if_neg (by omega)]; exact PmE.rf
theorem OVB.y {x p : Int} {l : Int64} {u c i : Int32} {t : Int} (hx : x = l.toInt % p) (hl : l.toInt = u.toInt) (hu : u.toInt = t) (hc : c.toInt = i.toInt % 2) (hz : c.toInt = 0) (h0 : 0 ≤ i.toInt) (hp : 0 < p) : PRE x p (SGI i.toNatClampNeg * t) := by
  have n0 := ncz h0
  refine ⟨by rw [hx]; exact Int.emod_nonneg _ (by omega), by rw [hx]; exact Int.emod_lt_of_pos _ hp, ?_⟩
  unfold SGI
  rw [if_pos (by omega), Int.one_mul, hx, hl, hu]; exact PmE.em _
theorem OVB.n {x p : Int} {l : Int64} {u v c i : Int32} {t : Int} (hx : x = l.toInt % p) (hl : l.toInt = v.toInt) (hv : v.toInt = -u.toInt) (hu : u.toInt = t) (hc : c.toInt = i.toInt % 2) (hz : c.toInt ≠ 0) (h0 : 0 ≤ i.toInt) (hp : 0 < p) : PRE x p (SGI i.toNatClampNeg * t) := by
  have n0 := ncz h0
  refine ⟨by rw [hx]; exact Int.emod_nonneg _ (by omega), by rw [hx]; exact Int.emod_lt_of_pos _ hp, ?_⟩
  unfold SGI
  rw [if_neg (by omega), hx, hl, hv, hu, show (-1 : Int) * t = -t from by omega]; exact PmE.em _
theorem DIF.pe {p D : Int} {f f' : Nat → Int} {a b j : Nat} (h : ∀ k : Nat, (k : Int) ≤ D → PmE p (f k) (f' k)) (hj : ((j + b : Nat) : Int) ≤ D) : PmE p (DIF f D a b j) (DIF f' D a b j) := ((h _ hj).ml PmE.rf).ml PmE.rf
theorem OVS.pe {p D E k : Int} {f f' g g' : Nat → Int} (hf : ∀ j : Nat, (j : Int) ≤ D → PmE p (f j) (f' j)) (hg : ∀ j : Nat, (j : Int) ≤ E → PmE p (g j) (g' j)) (hD : k ≤ D) (hE : k ≤ E) {m : Nat} : ∀ n : Nat, (n : Int) ≤ k + 1 → PmE p (OVS f g D E k n m) (OVS f' g' D E k n m)
  | 0, _ => PmE.rf
  | i + 1, h => (OVS.pe hf hg hD hE i (by omega)).ad (PmE.rf.ml (CVS.pe _ (fun j hj => DIF.pe hf (by omega)) (fun j hj => DIF.pe hg (by omega))))
theorem OVQ.r {I : IT} {nu r : Nat} {x p W W' k : Int} {g : Nat → Int} (h : RVX I nu r p W g) (d : DON x W' (RI I nu r) k) (e : W' = W) : OVQ x p W k g := by
  subst e
  exact ⟨_, h, d⟩
theorem OVQ.pe {x p W W' k : Int} {f g : Nat → Int} (h : OVQ x p W k f) (eW : W = W') (e : ∀ j : Nat, (j : Int) ≤ W → PmE p (f j) (g j)) : OVQ x p W' k g := by
  subst eW
  obtain ⟨v, v1, v2⟩ := h
  exact ⟨v, fun j hj => ⟨(v1 j hj).1, (v1 j hj).2.1, (v1 j hj).2.2.tr (e j hj)⟩, v2⟩
theorem RCN.sm {I I' : IT} {nu r : Nat} {p D D' : Int} (h : RCN I nu r p D) (s : SMR I I' nu r) (eD : D' = D) (hD : D ≤ 40) : RCN I' nu r p D' := by
  subst eD
  intro k hk
  have z : RI I' nu r k = RI I nu r k := by show (I' nu _).toInt = (I nu _).toInt; rw [s k (by omega)]
  rw [z]; exact h k hk
theorem RVX.df {I9 I1 I : IT} {nu r n a c : Nat} {p D D' E : Int} {u v : Int32} (h : RVX I9 nu r p (D' - u.toInt - v.toInt) (DIF (RI I1 nu n) D' u.toNatClampNeg v.toNatClampNeg)) (s : SMR I I1 nu n) (eD : D' = D) (hD : D ≤ 40) (hu : u.toNatClampNeg = a) (hv : v.toNatClampNeg = c) (h0 : 0 ≤ u.toInt) (h1 : 0 ≤ v.toInt) (hE : D - u.toInt - v.toInt = E) : RVX I9 nu r p E (DIF (RI I nu n) D a c) := by
  subst eD; subst hu; subst hv; subst hE
  have n1 := ncz h1
  refine h.cg rfl (fun j hj => DIF.pe (fun k hk => ?_) (by omega))
  have z : RI I1 nu n k = RI I nu n k := by show (I1 nu _).toInt = (I nu _).toInt; rw [s k (by omega)]
  rw [z]; exact PmE.rf
theorem a_X12_differs_x {d : Nat} {T N : Nat → Nat} {I : IT} {L : LT} {R : RT} {A : Nat → Prop} {r0 : Nat} {n1 n2 n3 n4 : Int32} (hI : IM R r0 I) (H_r0 : (h_MD T N R A) r0) (b0_n1 : 0 ≤ n1.toInt) (b1_n1 : n1.toInt ≤ 40) (b0_n2 : 0 ≤ n2.toInt) (b1_n2 : n2.toInt ≤ 40) (b0_n3 : 0 ≤ n3.toInt) (b1_n3 : n3.toInt ≤ 40) (b0_n4 : 0 ≤ n4.toInt) (b1_n4 : n4.toInt ≤ 40) : Ex (d + 4) 206 [.ref r0, .int n1, .int n2, .int n3, .int n4] (T, N, I, L, R) 0 0 (pI T N R (fun x9 I9 L9 => (-18 ≤ x9.toInt) ∧ (x9.toInt ≤ 18) ∧ (∀ a1, R r0 1 = some a1 → PRE x9.toInt (I a1 0).toInt (FFP (n1.toInt - n2.toInt) n3.toNatClampNeg * FFP n2.toInt n4.toNatClampNeg)) ∧ (I = I9 ∧ L = L9))) := by
  refine ⟨_, rfl, Nat.le_of_ble_eq_true rfl, fun V C S => ?_⟩
  show V 0 [(0, .ref r0), (1, .int n1), (2, .int n2), (3, .int n3), (4, .int n4)] [] (T, N, I, L, R) 0 0
  have gn1 := rg n1
  have gn2 := rg n2
  have gn3 := rg n3
  have gn4 := rg n4
  obtain ⟨T_r0, A_r0, ⟨r0_1, R_r0_1, H_r0_1⟩, ⟨r0_2, R_r0_2, H_r0_2⟩, ⟨r0_4, R_r0_4, H_r0_4⟩, ⟨r0_5, R_r0_5, H_r0_5⟩, ⟨r0_10, R_r0_10, H_r0_10⟩, ⟨r0_18, R_r0_18, H_r0_18⟩, ⟨r0_20, R_r0_20, H_r0_20⟩, ⟨r0_21, R_r0_21, H_r0_21⟩, ⟨r0_22, R_r0_22, H_r0_22⟩, ⟨r0_23, R_r0_23, H_r0_23⟩, ⟨r0_25, R_r0_25, H_r0_25⟩, ⟨r0_26, R_r0_26, H_r0_26⟩, ⟨r0_27, R_r0_27, H_r0_27⟩, ⟨r0_28, R_r0_28, H_r0_28⟩, ⟨r0_34, R_r0_34, H_r0_34⟩, J_r0, Y_r0⟩ := id H_r0
  have G_r0 : mF T R r0 := ⟨J_r0, Y_r0, T_r0⟩
  obtain ⟨w_r0_1_0, k0_r0_1_0⟩ : ∃ x, I r0_1 0 = x := ⟨_, rfl⟩
  have gw_r0_1_0 := rg w_r0_1_0
  have ow_r0_1_0 := IM.pi hI R_r0_1 k0_r0_1_0
  refine z_iconst C (z := 1) rfl rfl rfl (fun x1 ex1 => ?_)
  refine k_istore C (lw := [(5, .int x1), (0, .ref r0), (1, .int n1), (2, .int n2), (3, .int n3), (4, .int n4)]) rfl rfl (Nat.le_of_ble_eq_true rfl) rfl ?_
  refine z_iconst C (z := 0) rfl rfl rfl (fun x2 ex2 => ?_)
  have J3 : ∀ (nn4 : Nat) (x5 : Int32) (x8 : Int32), (MN (40 - x8.toInt) nn4) → (-18 ≤ x5.toInt) → (x5.toInt ≤ 18) → (0 ≤ x8.toInt) → (x8.toInt ≤ 40) → (PRE x5.toInt w_r0_1_0.toInt (FFP (n1.toInt - n2.toInt) x8.toNatClampNeg)) → (x8.toInt ≤ n3.toInt) → V 6 [(0, .ref r0), (1, .int n1), (2, .int n2), (3, .int n3), (4, .int n4), (5, .int x5), (6, .int x8)] [] (T, N, I, L, R) 0 0 := by
    intro nn4
    induction nn4 using Nat.strongRecOn with
    | _ nn4 ihJ3 =>
      intro x5 x8 hmnn4 b6 b7 b9 b10 ff6_0 ff6_1
      have gx5 := rg x5
      have gx8 := rg x8
      refine k_iload C rfl rfl rfl ?_
      refine k_iload_n C rfl rfl rfl ?_
      refine b_icmp_ge C (t := 37) rfl rfl rfl (fun c11 => ?_) (fun c11 => ?_)
      · skip
        have h37 : PRE x5.toInt w_r0_1_0.toInt (FFP (n1.toInt - n2.toInt) n3.toNatClampNeg) := by (rw [show x8 = n3 from Int32.toInt_inj.mp (by omega)] at ff6_0; exact ff6_0)
        refine z_iconst C (z := 0) rfl rfl rfl (fun x12 ex12 => ?_)
        have J13 : ∀ (nn14 : Nat) (x15 : Int32) (x18 : Int32), (MN (40 - x18.toInt) nn14) → (-18 ≤ x15.toInt) → (x15.toInt ≤ 18) → (0 ≤ x18.toInt) → (x18.toInt ≤ 40) → (PRE x15.toInt w_r0_1_0.toInt (FFP (n1.toInt - n2.toInt) n3.toNatClampNeg * FFP n2.toInt x18.toNatClampNeg)) → (x18.toInt ≤ n4.toInt) → V 40 [(0, .ref r0), (2, .int n2), (4, .int n4), (5, .int x15), (6, .int x18)] [] (T, N, I, L, R) 0 0 := by
          intro nn14
          induction nn14 using Nat.strongRecOn with
          | _ nn14 ihJ13 =>
            intro x15 x18 hmnn14 b16 b17 b19 b20 ff40_0 ff40_1
            have gx15 := rg x15
            have gx18 := rg x18
            refine k_iload C rfl rfl rfl ?_
            refine k_iload C rfl rfl rfl ?_
            refine b_icmp_ge C (t := 70) rfl rfl rfl (fun c21 => ?_) (fun c21 => ?_)
            · skip
              refine k_iload C rfl rfl rfl ?_
              exact k_iret C rfl (Or.inl rfl) (Nat.le_of_ble_eq_true rfl) (Nat.le_of_ble_eq_true rfl) ⟨_, _, _, rfl, rfl, by omega, by omega, fun a1 h1 => by cases (R_r0_1.symm.trans h1); simp only [k0_r0_1_0]; rw [show n4 = x18 from Int32.toInt_inj.mp (by omega)]; exact ff40_0, rfl, rfl⟩
            refine k_aload_n C rfl rfl rfl ?_
            refine k_iload C rfl rfl rfl ?_
            refine k_aload_n C rfl rfl rfl ?_
            refine k_iload_n C rfl rfl rfl ?_
            refine k_iload C rfl rfl rfl ?_
            refine z_isub C rfl rfl ⟨by omega, by omega⟩ (fun x22 ex22 => ?_)
            refine z_i2l C rfl rfl (fun lg23 elg23 => ?_)
            have hl56 := elg23
            refine c_VI C (a_X12_mod_e hI H_r0) rfl rfl rfl rfl rfl ⟨_, rfl, rfl, T_r0, Nat.le_of_ble_eq_true rfl⟩ rfl rfl (Nat.le_of_ble_eq_true rfl) (Nat.le_of_ble_eq_true rfl) (Nat.le_of_ble_eq_true rfl) ?_
            rintro x24 _ _ ⟨o0x24, o1x24, p0x24, p1x24, rfl, rfl⟩
            have p0x24 := p0x24 r0_1 R_r0_1
            have p1x24 := p1x24 r0_1 R_r0_1
            have gx24 := rg x24
            try simp only [k0_r0_1_0] at p0x24
            try have q0x24 := congrArg Int32.toInt p0x24
            try simp only [k0_r0_1_0] at p1x24
            try have q1x24 := congrArg Int32.toInt p1x24
            have hm56 := p1x24
            refine c_VI C (a_X12_times hI H_r0 (by omega) (by omega) (by omega) (by omega)) rfl rfl rfl rfl rfl ⟨_, rfl, rfl, T_r0, Nat.le_of_ble_eq_true rfl⟩ rfl rfl (Nat.le_of_ble_eq_true rfl) (Nat.le_of_ble_eq_true rfl) (Nat.le_of_ble_eq_true rfl) ?_
            rintro x25 _ _ ⟨o0x25, o1x25, p0x25, p1x25, p2x25, p3x25, rfl, rfl⟩
            have p0x25 := p0x25 r0_1 R_r0_1
            have p2x25 := p2x25 r0_1 R_r0_1
            have p3x25 := p3x25 r0_1 R_r0_1
            have gx25 := rg x25
            try simp only [k0_r0_1_0] at p0x25
            try have q0x25 := congrArg Int32.toInt p0x25
            try simp only [k0_r0_1_0] at p1x25
            try have q1x25 := congrArg Int32.toInt p1x25
            try simp only [k0_r0_1_0] at p2x25
            try have q2x25 := congrArg Int32.toInt p2x25
            try simp only [k0_r0_1_0] at p3x25
            try have q3x25 := congrArg Int32.toInt p3x25
            have ht59 := p3x25
            refine k_istore C (lw := [(5, .int x25), (0, .ref r0), (2, .int n2), (4, .int n4), (6, .int x18)]) rfl rfl (Nat.le_of_ble_eq_true rfl) rfl ?_
            refine z_iinc C (z := 1) (lw := fun x26 => [(6, .int x26), (5, .int x25), (0, .ref r0), (2, .int n2), (4, .int n4)]) rfl rfl rfl (Nat.le_of_ble_eq_true rfl) rfl ⟨by omega, by omega⟩ (fun _ => rfl) (fun x26 ex26 => ?_)
            show V 67 [(6, .int x26), (5, .int x25), (0, .ref r0), (2, .int n2), (4, .int n4)] _ _ _ _
            refine k_goto C (pc2 := 40) rfl rfl ?_
            refine k_sub S [(0, .ref r0), (2, .int n2), (4, .int n4), (5, .int x25), (6, .int x26)] (List.forall_mem_cons.mpr ⟨List.mem_of_getElem? (i := 2) rfl, List.forall_mem_cons.mpr ⟨List.mem_of_getElem? (i := 3) rfl, List.forall_mem_cons.mpr ⟨List.mem_of_getElem? (i := 4) rfl, List.forall_mem_cons.mpr ⟨List.mem_of_getElem? (i := 1) rfl, List.forall_mem_cons.mpr ⟨List.mem_of_getElem? (i := 0) rfl, fun _ h => nomatch h⟩⟩⟩⟩⟩) ?_
            exact ihJ13 _ (MN.lt hmnn14 (by omega) (by omega)) x25 x26 rfl (by omega) (by omega) (by omega) (by omega) (by rw [FFP.s (n := n2.toInt) (i := x18) (by omega) (by omega), ← Int.mul_assoc]; exact PRE.s ff40_0 ht59 hm56 hl56 (by omega) (by omega)) (by omega)
        refine k_istore C (lw := [(6, .int x12), (0, .ref r0), (1, .int n1), (2, .int n2), (3, .int n3), (4, .int n4), (5, .int x5)]) rfl rfl (Nat.le_of_ble_eq_true rfl) rfl ?_
        refine k_sub S [(0, .ref r0), (2, .int n2), (4, .int n4), (5, .int x5), (6, .int x12)] (List.forall_mem_cons.mpr ⟨List.mem_of_getElem? (i := 1) rfl, List.forall_mem_cons.mpr ⟨List.mem_of_getElem? (i := 3) rfl, List.forall_mem_cons.mpr ⟨List.mem_of_getElem? (i := 5) rfl, List.forall_mem_cons.mpr ⟨List.mem_of_getElem? (i := 6) rfl, List.forall_mem_cons.mpr ⟨List.mem_of_getElem? (i := 0) rfl, fun _ h => nomatch h⟩⟩⟩⟩⟩) ?_
        exact J13 _ x5 x12 rfl (by omega) (by omega) (by omega) (by omega) (by rw [FFP.z (n := n2.toInt) (i := x12) (by omega), Int.mul_one]; exact h37) (by omega)
      refine k_aload_n C rfl rfl rfl ?_
      refine k_iload C rfl rfl rfl ?_
      refine k_aload_n C rfl rfl rfl ?_
      refine k_iload_n C rfl rfl rfl ?_
      refine k_iload_n C rfl rfl rfl ?_
      refine z_isub C rfl rfl ⟨by omega, by omega⟩ (fun x27 ex27 => ?_)
      refine k_iload C rfl rfl rfl ?_
      refine z_isub C rfl rfl ⟨by omega, by omega⟩ (fun x28 ex28 => ?_)
      refine z_i2l C rfl rfl (fun lg29 elg29 => ?_)
      have hl23 := elg29
      refine c_VI C (a_X12_mod_e hI H_r0) rfl rfl rfl rfl rfl ⟨_, rfl, rfl, T_r0, Nat.le_of_ble_eq_true rfl⟩ rfl rfl (Nat.le_of_ble_eq_true rfl) (Nat.le_of_ble_eq_true rfl) (Nat.le_of_ble_eq_true rfl) ?_
      rintro x30 _ _ ⟨o0x30, o1x30, p0x30, p1x30, rfl, rfl⟩
      have p0x30 := p0x30 r0_1 R_r0_1
      have p1x30 := p1x30 r0_1 R_r0_1
      have gx30 := rg x30
      try simp only [k0_r0_1_0] at p0x30
      try have q0x30 := congrArg Int32.toInt p0x30
      try simp only [k0_r0_1_0] at p1x30
      try have q1x30 := congrArg Int32.toInt p1x30
      have hm23 := p1x30
      refine c_VI C (a_X12_times hI H_r0 (by omega) (by omega) (by omega) (by omega)) rfl rfl rfl rfl rfl ⟨_, rfl, rfl, T_r0, Nat.le_of_ble_eq_true rfl⟩ rfl rfl (Nat.le_of_ble_eq_true rfl) (Nat.le_of_ble_eq_true rfl) (Nat.le_of_ble_eq_true rfl) ?_
      rintro x31 _ _ ⟨o0x31, o1x31, p0x31, p1x31, p2x31, p3x31, rfl, rfl⟩
      have p0x31 := p0x31 r0_1 R_r0_1
      have p2x31 := p2x31 r0_1 R_r0_1
      have p3x31 := p3x31 r0_1 R_r0_1
      have gx31 := rg x31
      try simp only [k0_r0_1_0] at p0x31
      try have q0x31 := congrArg Int32.toInt p0x31
      try simp only [k0_r0_1_0] at p1x31
      try have q1x31 := congrArg Int32.toInt p1x31
      try simp only [k0_r0_1_0] at p2x31
      try have q2x31 := congrArg Int32.toInt p2x31
      try simp only [k0_r0_1_0] at p3x31
      try have q3x31 := congrArg Int32.toInt p3x31
      have ht26 := p3x31
      refine k_istore C (lw := [(5, .int x31), (0, .ref r0), (1, .int n1), (2, .int n2), (3, .int n3), (4, .int n4), (6, .int x8)]) rfl rfl (Nat.le_of_ble_eq_true rfl) rfl ?_
      refine z_iinc C (z := 1) (lw := fun x32 => [(6, .int x32), (5, .int x31), (0, .ref r0), (1, .int n1), (2, .int n2), (3, .int n3), (4, .int n4)]) rfl rfl rfl (Nat.le_of_ble_eq_true rfl) rfl ⟨by omega, by omega⟩ (fun _ => rfl) (fun x32 ex32 => ?_)
      show V 34 [(6, .int x32), (5, .int x31), (0, .ref r0), (1, .int n1), (2, .int n2), (3, .int n3), (4, .int n4)] _ _ _ _
      refine k_goto C (pc2 := 6) rfl rfl ?_
      refine k_sub S [(0, .ref r0), (1, .int n1), (2, .int n2), (3, .int n3), (4, .int n4), (5, .int x31), (6, .int x32)] (List.forall_mem_cons.mpr ⟨List.mem_of_getElem? (i := 2) rfl, List.forall_mem_cons.mpr ⟨List.mem_of_getElem? (i := 3) rfl, List.forall_mem_cons.mpr ⟨List.mem_of_getElem? (i := 4) rfl, List.forall_mem_cons.mpr ⟨List.mem_of_getElem? (i := 5) rfl, List.forall_mem_cons.mpr ⟨List.mem_of_getElem? (i := 6) rfl, List.forall_mem_cons.mpr ⟨List.mem_of_getElem? (i := 1) rfl, List.forall_mem_cons.mpr ⟨List.mem_of_getElem? (i := 0) rfl, fun _ h => nomatch h⟩⟩⟩⟩⟩⟩⟩) ?_
      exact ihJ3 _ (MN.lt hmnn4 (by omega) (by omega)) x31 x32 rfl (by omega) (by omega) (by omega) (by omega) (by rw [FFP.s (i := x8) (by omega) (by omega)]; exact PRE.s ff6_0 ht26 hm23 hl23 (by omega) (by omega)) (by omega)
  refine k_istore C (lw := [(6, .int x2), (5, .int x1), (0, .ref r0), (1, .int n1), (2, .int n2), (3, .int n3), (4, .int n4)]) rfl rfl (Nat.le_of_ble_eq_true rfl) rfl ?_
  refine k_sub S [(0, .ref r0), (1, .int n1), (2, .int n2), (3, .int n3), (4, .int n4), (5, .int x1), (6, .int x2)] (List.forall_mem_cons.mpr ⟨List.mem_of_getElem? (i := 2) rfl, List.forall_mem_cons.mpr ⟨List.mem_of_getElem? (i := 3) rfl, List.forall_mem_cons.mpr ⟨List.mem_of_getElem? (i := 4) rfl, List.forall_mem_cons.mpr ⟨List.mem_of_getElem? (i := 5) rfl, List.forall_mem_cons.mpr ⟨List.mem_of_getElem? (i := 6) rfl, List.forall_mem_cons.mpr ⟨List.mem_of_getElem? (i := 1) rfl, List.forall_mem_cons.mpr ⟨List.mem_of_getElem? (i := 0) rfl, fun _ h => nomatch h⟩⟩⟩⟩⟩⟩⟩) ?_
  exact J3 _ x1 x2 rfl (by omega) (by omega) (by omega) (by omega) (by rw [FFP.z (by omega)]; exact PRE.o (by omega) (by omega)) (by omega)

theorem a_X12_differentiates_x {d : Nat} {T N : Nat → Nat} {I : IT} {L : LT} {R : RT} {A : Nat → Prop} {r0 : Nat} {n1 n2 n3 n4 : Int32} (hI : IM R r0 I) (H_r0 : (h_MD T N R A) r0) (b0_n1 : 0 ≤ n1.toInt) (b1_n1 : n1.toInt ≤ 47) (b0_n2 : 0 ≤ n2.toInt) (b1_n2 : n2.toInt ≤ 40) (b0_n3 : 0 ≤ n3.toInt) (b1_n3 : n3.toInt ≤ 40) (b0_n4 : 0 ≤ n4.toInt) (b1_n4 : n4.toInt ≤ 47) (hp0 : n1.toInt ≠ n4.toInt) (hp1 : ∀ a4, R r0 4 = some a4 → n2.toInt + n3.toInt ≤ (I a4 n1.toNatClampNeg).toInt) (hp2 : ∀ a1 a4 a5, R r0 1 = some a1 → R r0 4 = some a4 → R r0 5 = some a5 → RCN I a5 n1.toNatClampNeg (I a1 0).toInt (I a4 n1.toNatClampNeg).toInt) : Ex (d + 5) 207 [.ref r0, .int n1, .int n2, .int n3, .int n4] (T, N, I, L, R) 0 0 (pV T N R (fun I9 L9 => (∀ a4, R r0 4 = some a4 → (I9 a4 n4.toNatClampNeg).toInt = (I a4 n1.toNatClampNeg).toInt - n2.toInt - n3.toInt) ∧ (∀ a1 a4 a5, R r0 1 = some a1 → R r0 4 = some a4 → R r0 5 = some a5 → QN I9 a5 n4.toNatClampNeg ((I9 a4 n4.toNatClampNeg).toInt + 1) (I a1 0).toInt) ∧ (∀ a1 a4 a5, R r0 1 = some a1 → R r0 4 = some a4 → R r0 5 = some a5 → RVX I9 a5 n4.toNatClampNeg (I a1 0).toInt ((I a4 n1.toNatClampNeg).toInt - n2.toInt - n3.toInt) (DIF (RI I a5 n1.toNatClampNeg) (I a4 n1.toNatClampNeg).toInt n2.toNatClampNeg n3.toNatClampNeg)) ∧ (∀ a4, R r0 4 = some a4 → ∀ r : Nat, r ≠ n4.toNatClampNeg → I9 a4 r = I a4 r) ∧ (∀ a5, R r0 5 = some a5 → ∀ r : Nat, (r < 41 * n4.toNatClampNeg ∨ 41 * n4.toNatClampNeg + 41 ≤ r) → I9 a5 r = I a5 r) ∧ (IM R r0 I9 ∧ CM A R r0 [] [4, 5] I L I9 L9))) := by
  refine ⟨_, rfl, Nat.le_of_ble_eq_true rfl, fun V C S => ?_⟩
  show V 0 [(0, .ref r0), (1, .int n1), (2, .int n2), (3, .int n3), (4, .int n4)] [] (T, N, I, L, R) 0 0
  have gn1 := rg n1
  have gn2 := rg n2
  have gn3 := rg n3
  have gn4 := rg n4
  obtain ⟨T_r0, A_r0, ⟨r0_1, R_r0_1, H_r0_1⟩, ⟨r0_2, R_r0_2, H_r0_2⟩, ⟨r0_4, R_r0_4, H_r0_4⟩, ⟨r0_5, R_r0_5, H_r0_5⟩, ⟨r0_10, R_r0_10, H_r0_10⟩, ⟨r0_18, R_r0_18, H_r0_18⟩, ⟨r0_20, R_r0_20, H_r0_20⟩, ⟨r0_21, R_r0_21, H_r0_21⟩, ⟨r0_22, R_r0_22, H_r0_22⟩, ⟨r0_23, R_r0_23, H_r0_23⟩, ⟨r0_25, R_r0_25, H_r0_25⟩, ⟨r0_26, R_r0_26, H_r0_26⟩, ⟨r0_27, R_r0_27, H_r0_27⟩, ⟨r0_28, R_r0_28, H_r0_28⟩, ⟨r0_34, R_r0_34, H_r0_34⟩, J_r0, Y_r0⟩ := id H_r0
  have G_r0 : mF T R r0 := ⟨J_r0, Y_r0, T_r0⟩
  obtain ⟨w_r0_4_n1, k0_r0_4_n1⟩ : ∃ x, I r0_4 n1.toNatClampNeg = x := ⟨_, rfl⟩
  have gw_r0_4_n1 := rg w_r0_4_n1
  have ow_r0_4_n1 := IM.dgR hI R_r0_4 k0_r0_4_n1
  obtain ⟨w_r0_1_0, k0_r0_1_0⟩ : ∃ x, I r0_1 0 = x := ⟨_, rfl⟩
  have gw_r0_1_0 := rg w_r0_1_0
  have ow_r0_1_0 := IM.pi hI R_r0_1 k0_r0_1_0
  have hp1 := hp1 r0_4 R_r0_4
  have hp2 := hp2 r0_1 r0_4 r0_5 R_r0_1 R_r0_4 R_r0_5
  try simp only [k0_r0_4_n1, k0_r0_1_0] at hp0
  try simp only [k0_r0_4_n1, k0_r0_1_0] at hp1
  try simp only [k0_r0_4_n1, k0_r0_1_0] at hp2
  have hnn := ncne (x := n1) (y := n4) (by omega) (by omega) (by omega)
  have hn1 := ncz (x := n1) (by omega)
  have hn4 := ncz (x := n4) (by omega)
  refine k_aload_n C rfl rfl rfl ?_
  refine k_iload C rfl rfl rfl ?_
  refine k_aload_n C rfl rfl rfl ?_
  refine g_R C rfl rfl rfl T_r0 rfl R_r0_4 ?_
  refine k_iload_n C rfl rfl rfl ?_
  obtain ⟨T_r0_4, N_r0_4, A_r0_4⟩ := id H_r0_4
  refine a_I C rfl rfl T_r0_4 (by rw [N_r0_4]; exact vpi (by omega) (by omega)) k0_r0_4_n1 ?_
  refine k_iload_n C rfl rfl rfl ?_
  refine z_isub C rfl rfl ⟨by omega, by omega⟩ (fun x1 ex1 => ?_)
  refine k_iload_n C rfl rfl rfl ?_
  refine z_isub C rfl rfl ⟨by omega, by omega⟩ (fun x2 ex2 => ?_)
  refine c_VV C (a_X12_clears hI H_r0 (by omega) (by omega) (by omega) (by omega)) rfl rfl rfl rfl rfl ⟨_, rfl, rfl, T_r0, Nat.le_of_ble_eq_true rfl⟩ rfl rfl (Nat.le_of_ble_eq_true rfl) (Nat.le_of_ble_eq_true rfl) (Nat.le_of_ble_eq_true rfl) ?_
  rintro I4 L5 ⟨p0v3, p1v3, p2v3, p3v3, hI4, S6⟩
  have p0v3 := p0v3 r0_4 R_r0_4
  have p1v3 := p1v3 r0_5 R_r0_5
  have p2v3 := p2v3 r0_4 R_r0_4
  have p3v3 := p3v3 r0_5 R_r0_5
  have F7 : ∀ r : Nat, r ≠ n4.toNatClampNeg → I4 r0_4 r = I r0_4 r := fun r z0 => p2v3 r (by first | exact z0)
  have F8 : ∀ r : Nat, (r < 41 * n4.toNatClampNeg ∨ 41 * n4.toNatClampNeg + 41 ≤ r) → I4 r0_5 r = I r0_5 r := fun r z0 => p3v3 r (by first | exact z0)
  have e9 := (p2v3 n1.toNatClampNeg (by first | decide | exact ncne (by omega) (by omega) (by omega) | exact nckn (by omega) (by omega) | exact (nckn (by omega) (by omega)).symm)).trans k0_r0_4_n1
  have e10 := CM.j S6 R_r0_1 (by decide) k0_r0_1_0
  obtain ⟨x11, e12⟩ : ∃ x, I4 r0_4 n4.toNatClampNeg = x := ⟨_, rfl⟩
  have gx11 := rg x11
  have ox11 := IM.dgR hI4 R_r0_4 e12
  try simp only [k0_r0_4_n1, k0_r0_1_0, e12] at p0v3
  try have q0v3 := congrArg Int32.toInt p0v3
  try simp only [k0_r0_4_n1, k0_r0_1_0, e12] at p1v3
  try have q1v3 := congrArg Int32.toInt p1v3
  have hQ := QN.le (n' := w_r0_4_n1.toInt - n2.toInt - n3.toInt + 1) (QN.az (p := w_r0_1_0.toInt) p1v3 (by omega)) (by omega)
  have hsm : SMR I I4 r0_5 n1.toNatClampNeg := fun k hk => p3v3 _ (by omega)
  refine k_iload_n C rfl rfl rfl ?_
  have J13 : ∀ (nn14 : Nat) (I15 : IT) (L16 : LT) (x17 : Int32), (MN (41 - x17.toInt) nn14) → (IM R r0 I15) → (CM A R r0 [] [5] I4 L5 I15 L16) → (∀ r : Nat, (r < 41 * n4.toNatClampNeg ∨ 41 * n4.toNatClampNeg + 41 ≤ r) → I15 r0_5 r = I4 r0_5 r) → (0 ≤ x17.toInt) → (x17.toInt ≤ 41) → (n3.toInt ≤ x17.toInt) → (QN I15 r0_5 n4.toNatClampNeg (w_r0_4_n1.toInt - n2.toInt - n3.toInt + 1) w_r0_1_0.toInt) → (RVX I15 r0_5 n4.toNatClampNeg w_r0_1_0.toInt (x17.toInt - n3.toInt - 1) (DIF (RI I r0_5 n1.toNatClampNeg) w_r0_4_n1.toInt n2.toNatClampNeg n3.toNatClampNeg)) → (SMR I I15 r0_5 n1.toNatClampNeg) → V 19 [(0, .ref r0), (1, .int n1), (2, .int n2), (3, .int n3), (4, .int n4), (5, .int x17)] [] (T, N, I15, L16, R) 0 0 := by
    intro nn14
    induction nn14 using Nat.strongRecOn with
    | _ nn14 ihJ13 =>
      intro I15 L16 x17 hmnn14 hI21 S20 F22 b18 b19 ff19_0 ff19_1 ff19_2 ff19_3
      have gx17 := rg x17
      have e23 := CM.j S20 R_r0_4 (by decide) e9
      have e24 := CM.j S20 R_r0_1 (by decide) e10
      have e25 := CM.j S20 R_r0_4 (by decide) e12
      refine k_iload C rfl rfl rfl ?_
      refine k_aload_n C rfl rfl rfl ?_
      refine g_R C rfl rfl rfl T_r0 rfl R_r0_4 ?_
      refine k_iload_n C rfl rfl rfl ?_
      refine a_I C rfl rfl T_r0_4 (by rw [N_r0_4]; exact vpi (by omega) (by omega)) e23 ?_
      refine k_iload_n C rfl rfl rfl ?_
      refine z_isub C rfl rfl ⟨by omega, by omega⟩ (fun x26 ex26 => ?_)
      refine b_icmp_gt C (t := 73) rfl rfl rfl (fun c27 => ?_) (fun c27 => ?_)
      · skip
        exact k_vret C rfl rfl (Nat.le_of_ble_eq_true rfl) (Nat.le_of_ble_eq_true rfl) ⟨_, _, rfl, rfl, fun a4 h4 => by cases (R_r0_4.symm.trans h4); first | omega | (simp only [e23, e24, e25, k0_r0_4_n1, k0_r0_1_0, and_true, true_and, or_true, true_or, and_false, false_and, or_false, false_or] <;> omega), fun a1 a4 a5 h1 h4 h5 => by cases (R_r0_1.symm.trans h1); cases (R_r0_4.symm.trans h4); cases (R_r0_5.symm.trans h5); simp only [e25, k0_r0_1_0]; exact QN.le ff19_1 (by omega), fun a1 a4 a5 h1 h4 h5 => by cases (R_r0_1.symm.trans h1); cases (R_r0_4.symm.trans h4); cases (R_r0_5.symm.trans h5); simp only [k0_r0_4_n1, k0_r0_1_0]; exact fun j hj => ff19_2 j (by omega), fun a4 h4 => by cases (R_r0_4.symm.trans h4); exact (fun r z0 => ((congrFun (CM.j0 S20 R_r0_4 (by decide)) r).trans (F7 r z0))), fun a5 h5 => by cases (R_r0_5.symm.trans h5); exact (fun r z0 => ((F22 r z0).trans (F8 r z0))), hI21, (CM.cons S6 (CM.mono S20 (by decide) (by decide)) (by decide) (by decide))⟩
      refine k_aload_n C rfl rfl rfl ?_
      refine k_iload C rfl rfl rfl ?_
      refine k_iload C rfl rfl rfl ?_
      refine k_iload_n C rfl rfl rfl ?_
      refine z_isub C rfl rfl ⟨by omega, by omega⟩ (fun x28 ex28 => ?_)
      refine k_aload_n C rfl rfl rfl ?_
      refine k_aload_n C rfl rfl rfl ?_
      refine k_iload_n C rfl rfl rfl ?_
      refine k_iload C rfl rfl rfl ?_
      refine c_VI C (a_X12_of hI21 H_r0 (by omega) (by omega) (by omega) (by omega)) rfl rfl rfl rfl rfl ⟨_, rfl, rfl, T_r0, Nat.le_of_ble_eq_true rfl⟩ rfl rfl (Nat.le_of_ble_eq_true rfl) (Nat.le_of_ble_eq_true rfl) (Nat.le_of_ble_eq_true rfl) ?_
      rintro x29 _ _ ⟨o0x29, o1x29, p0x29, rfl, rfl⟩
      have p0x29 := p0x29 r0_5 R_r0_5
      have gx29 := rg x29
      try simp only [e23, e24, e25] at p0x29
      try have q0x29 := congrArg Int32.toInt p0x29
      have hO := RI.sm ff19_3 p0x29 (by omega) (by omega)
      refine k_aload_n C rfl rfl rfl ?_
      refine k_aload_n C rfl rfl rfl ?_
      refine g_R C rfl rfl rfl T_r0 rfl R_r0_4 ?_
      refine k_iload_n C rfl rfl rfl ?_
      refine a_I C rfl rfl T_r0_4 (by rw [N_r0_4]; exact vpi (by omega) (by omega)) e23 ?_
      refine k_iload C rfl rfl rfl ?_
      refine k_iload_n C rfl rfl rfl ?_
      refine k_iload_n C rfl rfl rfl ?_
      refine c_VI C (a_X12_differs_x hI21 H_r0 (by omega) (by omega) (by omega) (by omega) (by omega) (by omega) (by omega) (by omega)) rfl rfl rfl rfl rfl ⟨_, rfl, rfl, T_r0, Nat.le_of_ble_eq_true rfl⟩ rfl rfl (Nat.le_of_ble_eq_true rfl) (Nat.le_of_ble_eq_true rfl) (Nat.le_of_ble_eq_true rfl) ?_
      rintro x30 _ _ ⟨o0x30, o1x30, p0x30, rfl, rfl⟩
      have p0x30 := p0x30 r0_1 R_r0_1
      have gx30 := rg x30
      try simp only [e23, e24, e25] at p0x30
      try have q0x30 := congrArg Int32.toInt p0x30
      have hdf := p0x30
      refine c_VI C (a_X12_times hI21 H_r0 (by omega) (by omega) (by omega) (by omega)) rfl rfl rfl rfl rfl ⟨_, rfl, rfl, T_r0, Nat.le_of_ble_eq_true rfl⟩ rfl rfl (Nat.le_of_ble_eq_true rfl) (Nat.le_of_ble_eq_true rfl) (Nat.le_of_ble_eq_true rfl) ?_
      rintro x31 _ _ ⟨o0x31, o1x31, p0x31, p1x31, p2x31, p3x31, rfl, rfl⟩
      have p0x31 := p0x31 r0_1 R_r0_1
      have p2x31 := p2x31 r0_1 R_r0_1
      have p3x31 := p3x31 r0_1 R_r0_1
      have gx31 := rg x31
      try simp only [e23, e24, e25] at p0x31
      try have q0x31 := congrArg Int32.toInt p0x31
      try simp only [e23, e24, e25] at p1x31
      try have q1x31 := congrArg Int32.toInt p1x31
      try simp only [e23, e24, e25] at p2x31
      try have q2x31 := congrArg Int32.toInt p2x31
      try simp only [e23, e24, e25] at p3x31
      try have q3x31 := congrArg Int32.toInt p3x31
      have hT := p3x31
      refine c_VV C (a_X12_put hI21 H_r0 (by omega) (by omega) (by omega) (by omega) (by omega) (by omega)) rfl rfl rfl rfl rfl ⟨_, rfl, rfl, T_r0, Nat.le_of_ble_eq_true rfl⟩ rfl rfl (Nat.le_of_ble_eq_true rfl) (Nat.le_of_ble_eq_true rfl) (Nat.le_of_ble_eq_true rfl) ?_
      rintro I33 L34 ⟨p0v32, p1v32, hI33, S35⟩
      have p0v32 := p0v32 r0_5 R_r0_5
      have p1v32 := p1v32 r0_5 R_r0_5
      have F36 : ∀ r : Nat, (r < 41 * n4.toNatClampNeg ∨ 41 * n4.toNatClampNeg + 41 ≤ r) → I33 r0_5 r = I15 r0_5 r := fun r z0 => p1v32 r (by first | exact z0)
      have e37 := CM.j S35 R_r0_4 (by decide) e23
      have e38 := CM.j S35 R_r0_1 (by decide) e24
      have e39 := CM.j S35 R_r0_4 (by decide) e25
      try simp only [e23, e24, e25] at p0v32
      try have q0v32 := congrArg Int32.toInt p0v32
      have hP := p0v32
      refine z_iinc C (z := 1) (lw := fun x40 => [(5, .int x40), (0, .ref r0), (1, .int n1), (2, .int n2), (3, .int n3), (4, .int n4)]) rfl rfl rfl (Nat.le_of_ble_eq_true rfl) rfl ⟨by omega, by omega⟩ (fun _ => rfl) (fun x40 ex40 => ?_)
      show V 70 [(5, .int x40), (0, .ref r0), (1, .int n1), (2, .int n2), (3, .int n3), (4, .int n4)] _ _ _ _
      refine k_goto C (pc2 := 19) rfl rfl ?_
      refine k_sub S [(0, .ref r0), (1, .int n1), (2, .int n2), (3, .int n3), (4, .int n4), (5, .int x40)] (List.forall_mem_cons.mpr ⟨List.mem_of_getElem? (i := 1) rfl, List.forall_mem_cons.mpr ⟨List.mem_of_getElem? (i := 2) rfl, List.forall_mem_cons.mpr ⟨List.mem_of_getElem? (i := 3) rfl, List.forall_mem_cons.mpr ⟨List.mem_of_getElem? (i := 4) rfl, List.forall_mem_cons.mpr ⟨List.mem_of_getElem? (i := 5) rfl, List.forall_mem_cons.mpr ⟨List.mem_of_getElem? (i := 0) rfl, fun _ h => nomatch h⟩⟩⟩⟩⟩⟩) ?_
      exact ihJ13 _ (MN.lt hmnn14 (by omega) (by omega)) I33 L34 x40 rfl hI33 (CM.cons S20 (CM.mono S35 (by decide) (by decide)) (by decide) (by decide)) (fun r z0 => ((F36 r z0).trans (F22 r z0))) (by omega) (by omega) (by omega) (by exact QN.put ff19_1 hP (by omega) (by omega)) (by exact RVX.s ff19_2 hP (by rw [← DIF.r (k := x17) (b := n3) (n2 := 0) (by omega) (by omega) (by omega)]; exact PRE.m (hp2.v.at hO (by omega) (by omega)) hdf hT (by omega)) (by omega) (by omega) (by omega)) (by exact SMR.put ff19_3 hP (nclt (by omega) (by omega)) hnn)
  refine k_istore C (lw := [(5, .int n3), (0, .ref r0), (1, .int n1), (2, .int n2), (3, .int n3), (4, .int n4)]) rfl rfl (Nat.le_of_ble_eq_true rfl) rfl ?_
  refine k_sub S [(0, .ref r0), (1, .int n1), (2, .int n2), (3, .int n3), (4, .int n4), (5, .int n3)] (List.forall_mem_cons.mpr ⟨List.mem_of_getElem? (i := 1) rfl, List.forall_mem_cons.mpr ⟨List.mem_of_getElem? (i := 2) rfl, List.forall_mem_cons.mpr ⟨List.mem_of_getElem? (i := 3) rfl, List.forall_mem_cons.mpr ⟨List.mem_of_getElem? (i := 4) rfl, List.forall_mem_cons.mpr ⟨List.mem_of_getElem? (i := 5) rfl, List.forall_mem_cons.mpr ⟨List.mem_of_getElem? (i := 0) rfl, fun _ h => nomatch h⟩⟩⟩⟩⟩⟩) ?_
  exact J13 _ I4 L5 n3 rfl hI4 CM.rf (fun r z0 => rfl) (by omega) (by omega) (by omega) (by exact hQ) (by exact RVX.z (by omega)) (by exact hsm)

