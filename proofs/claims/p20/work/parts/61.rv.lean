/-! the reference: values of signs: exactly -/
def CNW (W : Nat → Int32) : Prop := ∀ f : Nat, (f : Int) < (W 1).toInt → ∀ k : Nat, (k : Int) ≤ (W (6 + 10 * f)).toInt → 0 ≤ (W (7 + 10 * f + k)).toInt ∧ (W (7 + 10 * f + k)).toInt < (W 0).toInt
theorem RWF.w {I : IT} {nu r : Nat} {D D' : Int} {g : Nat → Int} (h : RWF I nu r D g) (e : D' = D) : ∀ k : Nat, (k : Int) ≤ D' → RI I nu r k = g k := fun k hk => h k (by omega)
theorem RWF.cn {I : IT} {nu r : Nat} {D p : Int} {g : Nat → Int} (h : RWF I nu r D g) (e : ∀ k : Nat, (k : Int) ≤ D → 0 ≤ g k ∧ g k < p) : ∀ k : Nat, (k : Int) ≤ D → 0 ≤ RI I nu r k ∧ RI I nu r k < p := fun k hk => by rw [h k hk]; exact e k hk
theorem CNW.g {W : Nat → Int32} {f : Int32} {D p : Int} (h : CNW W) (hD : (W (6 + 10 * f.toNatClampNeg)).toInt = D) (hp : (W 0).toInt = p) (h0 : 0 ≤ f.toInt) (h1 : f.toInt < (W 1).toInt) : ∀ k : Nat, (k : Int) ≤ D → 0 ≤ (W (7 + 10 * f.toNatClampNeg + k)).toInt ∧ (W (7 + 10 * f.toNatClampNeg + k)).toInt < p := fun k hk => by
  have n0 := ncz h0
  subst hp
  exact h _ (by omega) k (by omega)
/-- a row's numbers: within p, and congruent to told ones -/
def RVX (I : IT) (nu r : Nat) (p D : Int) (g : Nat → Int) : Prop := ∀ j : Nat, (j : Int) ≤ D → 0 ≤ RI I nu r j ∧ RI I nu r j < p ∧ PmE p (RI I nu r j) (g j)
theorem RVX.sm {I I' : IT} {nu r : Nat} {p D : Int} {g : Nat → Int} (h : RVX I nu r p D g) (e : ∀ k, k < 41 → I' nu (41 * r + k) = I nu (41 * r + k)) (hD : D ≤ 40) : RVX I' nu r p D g := fun j hj => by
  have q := h j hj
  have z : RI I' nu r j = RI I nu r j := by show (I' nu _).toInt = (I nu _).toInt; rw [e j (by omega)]
  rw [z]; exact q
theorem RVX.cg {I : IT} {nu r : Nat} {p D D' : Int} {g g' : Nat → Int} (h : RVX I nu r p D g) (eD : D' = D) (e : ∀ j : Nat, (j : Int) ≤ D → PmE p (g j) (g' j)) : RVX I nu r p D' g' := by
  subst eD
  exact fun j hj => ⟨(h j hj).1, (h j hj).2.1, (h j hj).2.2.tr (e j hj)⟩
def PRE (s p g : Int) : Prop := 0 ≤ s ∧ s < p ∧ PmE p s g
theorem PRE.s {w s m p g a l x : Int} (h : PRE s p g) (t : TMD w s m p) (hm : m = l % p) (hl : l = x) (hx : x = a) (hp : 0 < p) : PRE w p (g * a) := by
  unfold TMD at t
  have m0 : 0 ≤ m := by rw [hm]; exact Int.emod_nonneg _ (by omega)
  refine ⟨by rw [t]; exact Int.tmod_nonneg _ (Int.mul_nonneg h.1 m0), by rw [t]; exact Int.tmod_lt_of_pos _ hp, ?_⟩
  rw [t, hm, hl, hx]
  exact (PmE.tm _).tr (h.2.2.ml (PmE.em _))
theorem PRE.m {w a b p g h9 : Int} (h : PRE a p g) (h2 : PRE b p h9) (t : TMD w a b p) (hp : 0 < p) : PRE w p (g * h9) := by
  unfold TMD at t
  refine ⟨by rw [t]; exact Int.tmod_nonneg _ (Int.mul_nonneg h.1 h2.1), by rw [t]; exact Int.tmod_lt_of_pos _ hp, ?_⟩
  rw [t]
  exact (PmE.tm _).tr (h.2.2.ml h2.2.2)
theorem PRE.a {w a b p g h9 : Int} (h : PRE a p g) (h2 : PRE b p h9) (t : PLD w a b p) (hp : 0 < p) : PRE w p (g + h9) := by
  unfold PLD at t
  have h1 := h.1
  have h3 := h2.1
  refine ⟨by rw [t]; exact Int.tmod_nonneg _ (by omega), by rw [t]; exact Int.tmod_lt_of_pos _ hp, ?_⟩
  rw [t]
  exact (PmE.tm _).tr (h.2.2.ad h2.2.2)
theorem PRE.cg {a p g g' : Int} (h : PRE a p g) (e : PmE p g g') : PRE a p g' := ⟨h.1, h.2.1, h.2.2.tr e⟩
theorem PRE.o {s p : Int} (h : s = 1) (hp : 1 < p) : PRE s p 1 := by subst h; exact ⟨by decide, hp, PmE.rf⟩
theorem RVX.at {I : IT} {nu r : Nat} {p D : Int} {g : Nat → Int} {x k : Int32} (h : RVX I nu r p D g) (o : x.toInt = (I nu (41 * r + k.toNatClampNeg)).toInt) (h0 : 0 ≤ k.toInt) (hD : k.toInt ≤ D) : PRE x.toInt p (g k.toNatClampNeg) := by
  have n0 := ncz h0
  have q := h k.toNatClampNeg (by omega)
  rw [o]; exact q
theorem RVX.z {I : IT} {nu r : Nat} {p D : Int} {g : Nat → Int} (h : D < 0) : RVX I nu r p D g := fun j hj => by omega
theorem RVX.s {I I' : IT} {nu r : Nat} {p D D' : Int} {g : Nat → Int} {y w : Int32} (h : RVX I nu r p D g) (hP : PUTD I I' nu r y.toNatClampNeg w) (hw : PRE w.toInt p (g y.toNatClampNeg)) (hy : y.toInt = D') (h0 : 0 ≤ D') (hD : D' = D + 1) : RVX I' nu r p D' g := fun j hj => by
  have n0 := ncz (x := y) (by omega)
  by_cases q : j = y.toNatClampNeg
  · subst q
    have z : RI I' nu r y.toNatClampNeg = w.toInt := by show (I' nu _).toInt = _; rw [hP.1]
    rw [z]; exact hw
  · have z : RI I' nu r j = RI I nu r j := by show (I' nu _).toInt = (I nu _).toInt; rw [hP.2 _ (by omega)]
    rw [z]; exact h j (by omega)
/-- one number of a row put anew -/
theorem RVX.u {I I' : IT} {nu r : Nat} {p D : Int} {g g' : Nat → Int} {y w : Int32} (h : RVX I nu r p D g) (hP : PUTD I I' nu r y.toNatClampNeg w) (hw : PRE w.toInt p (g' y.toNatClampNeg)) (e : ∀ j : Nat, (j : Int) ≤ D → j ≠ y.toNatClampNeg → PmE p (g j) (g' j)) : RVX I' nu r p D g' := fun j hj => by
  by_cases q : j = y.toNatClampNeg
  · subst q
    have z : RI I' nu r y.toNatClampNeg = w.toInt := by show (I' nu _).toInt = _; rw [hP.1]
    rw [z]; exact hw
  · have z : RI I' nu r j = RI I nu r j := by show (I' nu _).toInt = (I nu _).toInt; rw [hP.2 _ (by omega)]
    rw [z]
    have q2 := h j hj
    exact ⟨q2.1, q2.2.1, q2.2.2.tr (e j hj q)⟩
theorem RVX.put {I I' : IT} {nu r r' k : Nat} {p D : Int} {g : Nat → Int} {x : Int32} (h : RVX I nu r p D g) (w : PUTD I I' nu r' k x) (hk : k < 41) (hD : D ≤ 40) (hn : r ≠ r') : RVX I' nu r p D g := h.sm (fun k9 h9 => w.2 _ (by omega)) hD
def RCN (I : IT) (nu r : Nat) (p D : Int) : Prop := ∀ k : Nat, (k : Int) ≤ D → 0 ≤ RI I nu r k ∧ RI I nu r k < p
theorem RCN.v {I : IT} {nu r : Nat} {p D : Int} (h : RCN I nu r p D) : RVX I nu r p D (RI I nu r) := fun j hj => ⟨(h j hj).1, (h j hj).2, PmE.rf⟩
theorem RVX.cn {I : IT} {nu r : Nat} {p D : Int} {g : Nat → Int} (h : RVX I nu r p D g) : RCN I nu r p D := fun j hj => ⟨(h j hj).1, (h j hj).2.1⟩
/-- over: a number of the triangle -/
def OVR (n k : Int) : Nat → Int
  | 0 => 1
  | i + 1 => OVR n k i * (n - k + (i + 1)) / (i + 1)
theorem OVR.b {n k : Int} {i : Nat} (h0 : 0 ≤ k) (hk : k ≤ n) (h8 : n ≤ 8) (hi : (i : Int) ≤ k) : 0 ≤ OVR n k i ∧ OVR n k i ≤ 70 := by
  have h : ∀ a : Nat, a < 9 → ∀ b : Nat, b < 9 → ∀ c : Nat, c < 9 → (b ≤ a ∧ c ≤ b → 0 ≤ OVR a b c ∧ OVR a b c ≤ 70) := by decide +kernel
  have := h n.toNat (by omega) k.toNat (by omega) i (by omega) (by omega)
  rwa [show ((n.toNat : Nat) : Int) = n from by omega, show ((k.toNat : Nat) : Int) = k from by omega] at this
theorem OVR.e {n k : Int} (h0 : 0 ≤ k) (hk : k ≤ n) (h8 : n ≤ 8) : OVR n k k.toNat = BNI n k.toNat := by
  have h : ∀ a : Nat, a < 9 → ∀ b : Nat, b < 9 → b ≤ a → OVR a b b = BNI a b := by decide +kernel
  have := h n.toNat (by omega) k.toNat (by omega) (by omega)
  rwa [show ((n.toNat : Nat) : Int) = n from by omega, show ((k.toNat : Nat) : Int) = k from by omega] at this
theorem OVR.s {n k : Int} {u m w y d i i' : Int32} (h : u.toInt = OVR n k (i.toInt - 1).toNat) (mm : IMX m u y) (hy : y.toInt = n - k + i.toInt) (dd : IDX w m d) (hd : d.toInt = i.toInt) (h1 : 1 ≤ i.toInt) (hi : i.toInt ≤ k) (hk : k ≤ n) (h8 : n ≤ 8) (hi' : i'.toInt = i.toInt + 1) : w.toInt = OVR n k (i'.toInt - 1).toNat := by
  have b := OVR.b (i := (i.toInt - 1).toNat) (n := n) (k := k) (by omega) hk h8 (by omega)
  have g0 : 0 ≤ u.toInt * y.toInt := Int.mul_nonneg (by omega) (by omega)
  have g1 : u.toInt * y.toInt ≤ 70 * 16 := Int.mul_le_mul (by omega) (by omega) (by omega) (by decide)
  have e := mm (by omega) (by omega)
  have e2 := dd (by omega) (by omega)
  rw [e2, e, show (i'.toInt - 1).toNat = (i.toInt - 1).toNat + 1 from by omega]
  show u.toInt * y.toInt / d.toInt = OVR n k (i.toInt - 1).toNat * (n - k + (((i.toInt - 1).toNat : Nat) + 1)) / ((((i.toInt - 1).toNat : Nat) : Int) + 1)
  rw [h, hy, hd, show (((i.toInt - 1).toNat : Nat) : Int) + 1 = i.toInt from by omega]
theorem FFP.s {n : Int} {i i' : Int32} (h0 : 0 ≤ i.toInt) (hi : i'.toInt = i.toInt + 1) : FFP n i'.toNatClampNeg = FFP n i.toNatClampNeg * (n - i.toInt) := by
  have n0 := ncz h0
  have n1 := ncz (x := i') (by omega)
  rw [show i'.toNatClampNeg = i.toNatClampNeg + 1 from by omega]
  show FFP n i.toNatClampNeg * (n - i.toNatClampNeg) = _
  rw [n0]
theorem FFP.z {n : Int} {i : Int32} (h : i.toInt = 0) : FFP n i.toNatClampNeg = 1 := by rw [nck (x := i) (n := 0) h]; rfl
/-- a number differentiated -/
theorem DIF.r {f : Nat → Int} {D n2 : Int} {k b y a : Int32} (hy : y.toInt = k.toInt - b.toInt) (h0 : 0 ≤ b.toInt) (h1 : b.toInt ≤ k.toInt) : f k.toNatClampNeg * (FFP (D - k.toInt) a.toNatClampNeg * FFP k.toInt b.toNatClampNeg) = DIF f D a.toNatClampNeg b.toNatClampNeg y.toNatClampNeg := by
  have n0 := ncz h0
  have n1 := ncz (x := k) (by omega)
  have n3 := ncz (x := y) (by omega)
  unfold DIF
  rw [show y.toNatClampNeg + b.toNatClampNeg = k.toNatClampNeg from by omega, Int.mul_assoc, show D - (b.toNatClampNeg : Int) - (y.toNatClampNeg : Int) = D - k.toInt from by omega, show (y.toNatClampNeg : Int) + (b.toNatClampNeg : Int) = k.toInt from by omega]
theorem RI.sm {I I' : IT} {nu r : Nat} (h : SMR I I' nu r) {k : Int32} {x : Int32} (o : x.toInt = (I' nu (41 * r + k.toNatClampNeg)).toInt) (h0 : 0 ≤ k.toInt) (h1 : k.toInt ≤ 40) : x.toInt = (I nu (41 * r + k.toNatClampNeg)).toInt := by
  have n0 := ncz h0
  rw [o, h _ (by omega)]
/-- multiplies -/
theorem MPX.z {I : IT} {nu r : Nat} {p W E n : Int} {f g : Nat → Int} (h : AZ I nu (41 * r) (W + 1)) (hp : 0 < p) (hn : n = 0) : RVX I nu r p W (CVS f g E n.toNat) := fun j hj => by
  subst hn
  have q : RI I nu r j = 0 := h j (by omega)
  rw [q]; exact ⟨Int.le_refl 0, hp, PmE.rf⟩
def MPJ (f g : Nat → Int) (E i j : Int) (m : Nat) : Int := CVS f g E i.toNat m + f i.toNat * CVI g i.toNat j m
theorem MPJ.z {I : IT} {nu r : Nat} {p W E i j : Int} {f g : Nat → Int} (h : RVX I nu r p W (CVS f g E i.toNat)) (hj : j = 0) : RVX I nu r p W (MPJ f g E i j) := h.cg rfl (fun m _ => by
  unfold MPJ
  rw [CVI.z (by omega), Int.mul_zero, Int.add_zero]; exact PmE.rf)
theorem MPJ.e {I : IT} {nu r : Nat} {p W E i i' j : Int} {f g : Nat → Int} (h : RVX I nu r p W (MPJ f g E i j)) (hj : j = E + 1) (h0 : 0 ≤ i) (hi : i' = i + 1) : RVX I nu r p W (CVS f g E i'.toNat) := h.cg rfl (fun m _ => by
  unfold MPJ
  rw [show i'.toNat = i.toNat + 1 from by omega, hj]; exact PmE.rf)
theorem MPJ.s {I I' : IT} {nu r : Nat} {p W E : Int} {f g : Nat → Int} {i j j' y y2 a b c m w : Int32} (h : RVX I nu r p W (MPJ f g E i.toInt j.toInt)) (oa : a.toInt = (I nu (41 * r + y2.toNatClampNeg)).toInt) (hb : PRE b.toInt p (f i.toNatClampNeg)) (hc : PRE c.toInt p (g j.toNatClampNeg)) (t : TMD m.toInt b.toInt c.toInt p) (pl : PLD w.toInt a.toInt m.toInt p) (hP : PUTD I I' nu r y.toNatClampNeg w) (hy : y.toInt = i.toInt + j.toInt) (hy2 : y2.toInt = i.toInt + j.toInt) (hi : 0 ≤ i.toInt) (hj : 0 ≤ j.toInt) (hW : i.toInt + j.toInt ≤ W) (hj' : j'.toInt = j.toInt + 1) (hp : 0 < p) : RVX I' nu r p W (MPJ f g E i.toInt j'.toInt) := by
  have ey : y2 = y := Int32.toInt_inj.mp (by omega)
  subst ey
  have n0 := ncz (x := y2) (by omega)
  have n1 := ncz hi
  have n2 := ncz hj
  obtain ⟨c0, c1⟩ := CVI.n (g := g) (i := i.toInt.toNat) (m := y2.toNatClampNeg) hj hj' (by omega)
  refine h.u hP ?_ (fun k hk hn => ?_)
  · have ha := h.at oa (by omega) (by omega)
    have q := ha.a (hb.m hc t hp) pl hp
    refine q.cg ?_
    unfold MPJ
    rw [c0, c1, Int.mul_zero, Int.add_zero]; exact PmE.rf
  · unfold MPJ
    rw [CVI.o hj hj' (by omega)]; exact PmE.rf
/-- overlaps: x of the row's numbers are through -/
def OVM (g g' : Nat → Int) (x : Int) (j : Nat) : Int := if (j : Int) < x then g' j else g j
theorem OVM.z {I : IT} {nu r : Nat} {p W x : Int} {g g' : Nat → Int} (h : RVX I nu r p W g) (hx : x = 0) : RVX I nu r p W (OVM g g' x) := h.cg rfl (fun j _ => by unfold OVM; rw [if_neg (by omega)]; exact PmE.rf)
theorem OVM.e {I : IT} {nu r : Nat} {p W x : Int} {g g' : Nat → Int} (h : RVX I nu r p W (OVM g g' x)) (hx : W < x) : RVX I nu r p W g' := h.cg rfl (fun j _ => by unfold OVM; rw [if_pos (by omega)]; exact PmE.rf)
theorem OVM.s {I I' : IT} {nu r : Nat} {p W e : Int} {g g' h9 : Nat → Int} {x x' a b c m w : Int32} (h : RVX I nu r p W (OVM g g' x.toInt)) (oa : a.toInt = (I nu (41 * r + x.toNatClampNeg)).toInt) (hb : PRE b.toInt p e) (hc : PRE c.toInt p (h9 x.toNatClampNeg)) (t : TMD m.toInt b.toInt c.toInt p) (pl : PLD w.toInt a.toInt m.toInt p) (hP : PUTD I I' nu r x.toNatClampNeg w) (hg : ∀ j, g' j = g j + e * h9 j) (h0 : 0 ≤ x.toInt) (hW : x.toInt ≤ W) (hx : x'.toInt = x.toInt + 1) (hp : 0 < p) : RVX I' nu r p W (OVM g g' x'.toInt) := by
  have n0 := ncz h0
  refine h.u hP ?_ (fun k hk hn => ?_)
  · have ha := h.at oa h0 hW
    have q := ha.a (hb.m hc t hp) pl hp
    refine q.cg ?_
    unfold OVM
    rw [if_neg (by omega), if_pos (by omega), hg]; exact PmE.rf
  · unfold OVM
    by_cases c : (k : Int) < x.toInt
    · rw [if_pos c, if_pos (by omega)]; exact PmE.rf
    · rw [if_neg c, if_neg (by omega)]; exact PmE.rf
theorem OVB.y {x p : Int} {l : Int64} {u c i : Int32} {t : Int} (hx : x = l.toInt % p) (hl : l.toInt = u.toInt) (hu : u.toInt = t) (hc : c.toInt = i.toInt % 2) (hz : c.toInt = 0) (h0 : 0 ≤ i.toInt) (hp : 0 < p) : PRE x p (SGI i.toNatClampNeg * t) := by
  have n0 := ncz h0
  refine ⟨by rw [hx]; exact Int.emod_nonneg _ (by omega), by rw [hx]; exact Int.emod_lt_of_pos _ hp, ?_⟩
  unfold SGI
  rw [if_pos (by omega), Int.one_mul, hx, hl, hu]; exact PmE.em _
theorem OVB.n {x p : Int} {l : Int64} {u v c i : Int32} {t : Int} (hx : x = l.toInt % p) (hl : l.toInt = v.toInt) (hv : v.toInt = -u.toInt) (hu : u.toInt = t) (hc : c.toInt = i.toInt % 2) (hz : c.toInt ≠ 0) (h0 : 0 ≤ i.toInt) (hp : 0 < p) : PRE x p (SGI i.toNatClampNeg * t) := by
  have n0 := ncz h0
  refine ⟨by rw [hx]; exact Int.emod_nonneg _ (by omega), by rw [hx]; exact Int.emod_lt_of_pos _ hp, ?_⟩
  unfold SGI
  rw [if_neg (by omega), hx, hl, hv, hu, show (-1 : Int) * t = -t from by omega]; exact PmE.em _
theorem DIF.pe {p D : Int} {f f' : Nat → Int} {a b j : Nat} (h : ∀ k : Nat, (k : Int) ≤ D → PmE p (f k) (f' k)) (hj : ((j + b : Nat) : Int) ≤ D) : PmE p (DIF f D a b j) (DIF f' D a b j) := ((h _ hj).ml PmE.rf).ml PmE.rf
theorem OVS.pe {p D E k : Int} {f f' g g' : Nat → Int} (hf : ∀ j : Nat, (j : Int) ≤ D → PmE p (f j) (f' j)) (hg : ∀ j : Nat, (j : Int) ≤ E → PmE p (g j) (g' j)) (hD : k ≤ D) (hE : k ≤ E) {m : Nat} : ∀ n : Nat, (n : Int) ≤ k + 1 → PmE p (OVS f g D E k n m) (OVS f' g' D E k n m)
  | 0, _ => PmE.rf
  | i + 1, h => (OVS.pe hf hg hD hE i (by omega)).ad (PmE.rf.ml (CVS.pe _ (fun j hj => DIF.pe hf (by omega)) (fun j hj => DIF.pe hg (by omega))))
theorem OVS.dc {p D D' E E' k : Int} {f g : Nat → Int} {n m : Nat} (hD : D = D') (hE : E = E') : PmE p (OVS f g D E k n m) (OVS f g D' E' k n m) := by subst hD; subst hE; exact PmE.rf
theorem OVQ.r {I : IT} {nu r : Nat} {x p W W' k : Int} {g : Nat → Int} (h : RVX I nu r p W g) (d : DON x W' (RI I nu r) k) (e : W' = W) : OVQ x p W k g := by
  subst e
  exact ⟨_, h, d⟩
theorem OVQ.pe {x p W W' k : Int} {f g : Nat → Int} (h : OVQ x p W k f) (eW : W = W') (e : ∀ j : Nat, (j : Int) ≤ W → PmE p (f j) (g j)) : OVQ x p W' k g := by
  subst eW
  obtain ⟨v, v1, v2⟩ := h
  exact ⟨v, fun j hj => ⟨(v1 j hj).1, (v1 j hj).2.1, (v1 j hj).2.2.tr (e j hj)⟩, v2⟩
theorem RCN.sm {I I' : IT} {nu r : Nat} {p D D' : Int} (h : RCN I nu r p D) (s : SMR I I' nu r) (eD : D' = D) (hD : D ≤ 40) : RCN I' nu r p D' := by
  subst eD
  intro k hk
  have z : RI I' nu r k = RI I nu r k := by show (I' nu _).toInt = (I nu _).toInt; rw [s k (by omega)]
  rw [z]; exact h k hk
theorem RVX.df {I9 I1 I : IT} {nu r n a c : Nat} {p D D' E : Int} {u v : Int32} (h : RVX I9 nu r p (D' - u.toInt - v.toInt) (DIF (RI I1 nu n) D' u.toNatClampNeg v.toNatClampNeg)) (s : SMR I I1 nu n) (eD : D' = D) (hD : D ≤ 40) (hu : u.toNatClampNeg = a) (hv : v.toNatClampNeg = c) (h0 : 0 ≤ u.toInt) (h1 : 0 ≤ v.toInt) (hE : D - u.toInt - v.toInt = E) : RVX I9 nu r p E (DIF (RI I nu n) D a c) := by
  subst eD; subst hu; subst hv; subst hE
  have n1 := ncz h1
  refine h.cg rfl (fun j hj => DIF.pe (fun k hk => ?_) (by omega))
  have z : RI I1 nu n k = RI I nu n k := by show (I1 nu _).toInt = (I nu _).toInt; rw [s k (by omega)]
  rw [z]; exact PmE.rf
theorem RVX.mu {I9 I1 : IT} {nu a b r : Nat} {p A B A' B' W : Int} {f g : Nat → Int} (h : RVX I9 nu r p (A' + B') (CVS (RI I1 nu a) (RI I1 nu b) B' (A' + 1).toNat)) (ha : RVX I1 nu a p A f) (hb : RVX I1 nu b p B g) (eA : A' = A) (eB : B' = B) (hW : W = A + B) : RVX I9 nu r p W (CVS f g B (A + 1).toNat) := by
  subst eA; subst eB; subst hW
  exact h.cg rfl (fun j _ => CVS.pe _ (fun k hk => (ha k (by omega)).2.2) (fun k hk => (hb k hk).2.2))
theorem RVX.oz {I : IT} {nu r : Nat} {p W D E k : Int} {f g : Nat → Int} {i : Int32} (h : AZ I nu (41 * r) (W + 1)) (hp : 0 < p) (hi : i.toInt = 0) : RVX I nu r p W (OVS f g D E k i.toNatClampNeg) := fun j hj => by
  rw [nck (x := i) (n := 0) hi]
  have q : RI I nu r j = 0 := h j (by omega)
  rw [q]; exact ⟨Int.le_refl 0, hp, PmE.rf⟩
/-- a row that holds a form -/
def VRW (I : IT) (dg nu r : Nat) (p : Int) (v : FVV) : Prop := (I dg r).toInt = v.1 ∧ 0 ≤ v.1 ∧ v.1 ≤ 40 ∧ RVX I nu r p v.1 v.2
theorem VRW.sm {I I' : IT} {dg nu r : Nat} {p : Int} {v : FVV} (h : VRW I dg nu r p v) (e4 : I' dg r = I dg r) (e5 : SMR I I' nu r) : VRW I' dg nu r p v := ⟨by rw [e4]; exact h.1, h.2.1, h.2.2.1, h.2.2.2.sm e5 h.2.2.1⟩
theorem VRW.fq {I : IT} {dg nu r : Nat} {p : Int} {v : FVV} (h : VRW I dg nu r p v) : FQV p ((I dg r).toInt, RI I nu r) v := ⟨h.1, fun m hm => (h.2.2.2 m (by have := h.1; have hm : (m : Int) ≤ (I dg r).toInt := hm; omega)).2.2⟩
theorem VRW.tr {I : IT} {dg nu r : Nat} {p : Int} {v w : FVV} (h : VRW I dg nu r p v) (e : FQV p v w) : VRW I dg nu r p w := by
  obtain ⟨e1, e2⟩ := e
  exact ⟨h.1.trans e1, by rw [← e1]; exact h.2.1, by rw [← e1]; exact h.2.2.1, by rw [← e1]; exact fun j hj => ⟨(h.2.2.2 j hj).1, (h.2.2.2 j hj).2.1, (h.2.2.2 j hj).2.2.tr (e2 j hj)⟩⟩
theorem VRW.cn {I : IT} {dg nu r : Nat} {p : Int} {v : FVV} (h : VRW I dg nu r p v) : RCN I nu r p (I dg r).toInt := fun j hj => ⟨(h.2.2.2 j (by have := h.1; omega)).1, (h.2.2.2 j (by have := h.1; omega)).2.1⟩
theorem VRW.of {I : IT} {dg nu r : Nat} {p : Int} (h : RCN I nu r p (I dg r).toInt) (hd : 0 ≤ (I dg r).toInt ∧ (I dg r).toInt ≤ 40) : VRW I dg nu r p ((I dg r).toInt, RI I nu r) := ⟨rfl, hd.1, hd.2, h.v⟩
theorem VRW.cp {I I' : IT} {dg nu a b : Nat} {p : Int} {v : FVV} (h : VRW I dg nu a p v) (e : (I' dg b).toInt = (I dg a).toInt) (c : CPN I I' nu a b ((I dg a).toInt + 1)) : VRW I' dg nu b p v := ⟨e.trans h.1, h.2.1, h.2.2.1, fun j hj => by
  have z : RI I' nu b j = RI I nu a j := by show (I' nu _).toInt = (I nu _).toInt; rw [c j (by have := h.1; omega)]
  rw [z]; exact h.2.2.2 j hj⟩
theorem OVM.a {I I' : IT} {nu r : Nat} {p W : Int} {g g' h9 : Nat → Int} {x x' a b w : Int32} (h : RVX I nu r p W (OVM g g' x.toInt)) (oa : a.toInt = (I nu (41 * r + x.toNatClampNeg)).toInt) (hb : PRE b.toInt p (h9 x.toNatClampNeg)) (pl : PLD w.toInt a.toInt b.toInt p) (hP : PUTD I I' nu r x.toNatClampNeg w) (hg : ∀ j, g' j = g j + h9 j) (h0 : 0 ≤ x.toInt) (hW : x.toInt ≤ W) (hx : x'.toInt = x.toInt + 1) (hp : 0 < p) : RVX I' nu r p W (OVM g g' x'.toInt) := by
  have n0 := ncz h0
  refine h.u hP ?_ (fun k hk hn => ?_)
  · have ha := h.at oa h0 hW
    have q := ha.a hb pl hp
    refine q.cg ?_
    unfold OVM
    rw [if_neg (by omega), if_pos (by omega), hg]; exact PmE.rf
  · unfold OVM
    by_cases c : (k : Int) < x.toInt
    · rw [if_pos c, if_pos (by omega)]; exact PmE.rf
    · rw [if_neg c, if_neg (by omega)]; exact PmE.rf
theorem PRE.ng {w z a p g : Int} (h : PRE a p g) (t : LSD w z a p) (hz : z = 0) (hp : 0 < p) : PRE w p (-1 * g) := by
  unfold LSD at t
  have h1 := h.1
  have h2 := h.2.1
  refine ⟨by rw [t]; exact Int.tmod_nonneg _ (by omega), by rw [t]; exact Int.tmod_lt_of_pos _ hp, ?_⟩
  rw [t, hz]
  refine (PmE.tm _).tr ?_
  have e1 : PmE p (0 - a + p) (-1 * a) := by
    unfold PmE
    rw [show (0 : Int) - a + p = -1 * a + p * 1 from by omega, Int.add_mul_emod_self_left]
  exact e1.tr (PmE.rf.ml h.2.2)
theorem OVM.n {I I' : IT} {nu r : Nat} {p W : Int} {g : Nat → Int} {x x' a w : Int32} {z : Int} (h : RVX I nu r p W (OVM g (fun j => -1 * g j) x.toInt)) (oa : a.toInt = (I nu (41 * r + x.toNatClampNeg)).toInt) (t : LSD w.toInt z a.toInt p) (hz : z = 0) (hP : PUTD I I' nu r x.toNatClampNeg w) (h0 : 0 ≤ x.toInt) (hW : x.toInt ≤ W) (hx : x'.toInt = x.toInt + 1) (hp : 0 < p) : RVX I' nu r p W (OVM g (fun j => -1 * g j) x'.toInt) := by
  have n0 := ncz h0
  refine h.u hP ?_ (fun k hk hn => ?_)
  · have ha := h.at oa h0 hW
    unfold OVM at ha
    rw [if_neg (by omega)] at ha
    unfold OVM
    rw [if_pos (by omega)]
    exact ha.ng t hz hp
  · unfold OVM
    by_cases c : (k : Int) < x.toInt
    · rw [if_pos c, if_pos (by omega)]; exact PmE.rf
    · rw [if_neg c, if_neg (by omega)]; exact PmE.rf
def JRD (I9 I : IT) (dg nu a b : Nat) (k z x p : Int) : Prop := (x = 0 → VJN k z ((I dg a).toInt, RI I nu a) ((I dg b).toInt, RI I nu b) = none) ∧ (x = 1 → ∃ v, VJN k z ((I dg a).toInt, RI I nu a) ((I dg b).toInt, RI I nu b) = some v ∧ VRW I9 dg nu a p v)
theorem JRD.a0 {I9 I : IT} {dg nu a b : Nat} {k z x p : Int} (hk : k = 2) (hx : x = 0) (h : (I dg a).toInt ≠ (I dg b).toInt) : JRD I9 I dg nu a b k z x p := by
  subst hk
  refine ⟨fun _ => ?_, fun q => by omega⟩
  show (if (I dg a).toInt = (I dg b).toInt then _ else none) = none
  rw [if_neg h]
theorem JRD.a1 {I9 I : IT} {dg nu a b : Nat} {k z x p D : Int} (hk : k = 2) (hx : x = 1) (h : (I dg a).toInt = (I dg b).toInt) (hD : (I dg a).toInt = D) (h0 : 0 ≤ D ∧ D ≤ 40) (e9 : (I9 dg a).toInt = D) (hv : RVX I9 nu a p D (fun j => RI I nu a j + RI I nu b j)) : JRD I9 I dg nu a b k z x p := by
  subst hk; subst hD
  refine ⟨fun q => by omega, fun _ => ⟨((I dg a).toInt, fun j => RI I nu a j + RI I nu b j), ?_, e9, h0.1, h0.2, hv⟩⟩
  show (if (I dg a).toInt = (I dg b).toInt then _ else none) = _
  rw [if_pos h]
theorem JRD.n0 {I9 I : IT} {dg nu a b : Nat} {k z x p D E : Int} (k2 : k ≠ 2) (hx : x = 0) (hD : (I dg a).toInt = D) (hE : (I dg b).toInt = E) (h : (k = 3 ∧ 40 < D + E) ∨ (k ≠ 3 ∧ (D < z ∨ E < z ∨ 40 < D + E - 2 * z))) : JRD I9 I dg nu a b k z x p := by
  subst hD; subst hE
  refine ⟨fun _ => ?_, fun q => by omega⟩
  unfold VJN
  rw [if_neg k2]
  rcases h with ⟨h1, h2⟩ | ⟨h1, h2⟩
  · rw [if_pos h1]
    show (if (I dg a).toInt + (I dg b).toInt ≤ 40 then _ else none) = none
    rw [if_neg (by omega)]
  · rw [if_neg h1]
    show (if z ≤ (I dg a).toInt ∧ z ≤ (I dg b).toInt ∧ (I dg a).toInt + (I dg b).toInt - 2 * z ≤ 40 then _ else none) = none
    rw [if_neg (by omega)]
theorem VRW.c2 {I5 I9 : IT} {dg nu a r : Nat} {p V : Int} {v : FVV} (c1 : (I9 dg a).toInt = V) (c2 : CPN I5 I9 nu r a (V + 1)) (e : V = v.1) (h0 : 0 ≤ v.1 ∧ v.1 ≤ 40) (m2 : RVX I5 nu r p v.1 v.2) : VRW I9 dg nu a p v := ⟨c1.trans e, h0.1, h0.2, fun j hj => by
  have z : RI I9 nu a j = RI I5 nu r j := by show (I9 nu _).toInt = (I5 nu _).toInt; rw [c2 j (by omega)]
  rw [z]; exact m2 j hj⟩
theorem JRD.m1 {I9 I5 I : IT} {dg nu a b r : Nat} {k z x p D E V : Int} (hk : k = 3) (hx : x = 1) (hD : (I dg a).toInt = D) (hE : (I dg b).toInt = E) (h0 : 0 ≤ D ∧ 0 ≤ E ∧ D + E ≤ 40) (c2 : CPN I5 I9 nu r a (V + 1)) (c1 : (I9 dg a).toInt = V) (m1 : V = D + E) (m2 : RVX I5 nu r p (D + E) (CVS (RI I nu a) (RI I nu b) E (D + 1).toNat)) : JRD I9 I dg nu a b k z x p := by
  subst hk; subst hD; subst hE
  refine ⟨fun q => by omega, fun _ => ⟨((I dg a).toInt + (I dg b).toInt, CVS (RI I nu a) (RI I nu b) (I dg b).toInt ((I dg a).toInt + 1).toNat), ?_, ?_⟩⟩
  · show (if (I dg a).toInt + (I dg b).toInt ≤ 40 then _ else none) = _
    rw [if_pos h0.2.2]
  · exact VRW.c2 c1 c2 m1 ⟨by show (0 : Int) ≤ _ + _; omega, h0.2.2⟩ m2
theorem JRD.o1 {I9 I5 I : IT} {dg nu a b r : Nat} {k x p D E V : Int} {n : Int32} (k2 : k ≠ 2) (k3 : k ≠ 3) (hx : x = 1) (hD : (I dg a).toInt = D) (hE : (I dg b).toInt = E) (h0 : 0 ≤ D ∧ 0 ≤ E ∧ 0 ≤ n.toInt ∧ n.toInt ≤ D ∧ n.toInt ≤ E ∧ D + E - 2 * n.toInt ≤ 40) (c2 : CPN I5 I9 nu r a (V + 1)) (c1 : (I9 dg a).toInt = V) (m1 : V = D + E - 2 * n.toInt) (m2 : RVX I5 nu r p (D + E - 2 * n.toInt) (OVS (RI I nu a) (RI I nu b) D E n.toInt (n.toNatClampNeg + 1))) : JRD I9 I dg nu a b k n.toInt x p := by
  subst hD; subst hE
  have n0 := ncz h0.2.2.1
  rw [show n.toNatClampNeg = n.toInt.toNat from by omega] at m2
  refine ⟨fun q => by omega, fun _ => ⟨((I dg a).toInt + (I dg b).toInt - 2 * n.toInt, OVS (RI I nu a) (RI I nu b) (I dg a).toInt (I dg b).toInt n.toInt (n.toInt.toNat + 1)), ?_, ?_⟩⟩
  · unfold VJN
    rw [if_neg k2, if_neg k3]
    show (if n.toInt ≤ (I dg a).toInt ∧ n.toInt ≤ (I dg b).toInt ∧ (I dg a).toInt + (I dg b).toInt - 2 * n.toInt ≤ 40 then _ else none) = _
    rw [if_pos ⟨h0.2.2.2.1, h0.2.2.2.2.1, h0.2.2.2.2.2⟩]
  · exact VRW.c2 c1 c2 m1 ⟨by show (0 : Int) ≤ _ + _ - _; omega, h0.2.2.2.2.2⟩ m2
/-- so far -/
def VRI (I : IT) (dg nu : Nat) (p : Int) (f : FVV) (l : List (Int × Int)) (k top : Int) : Prop := ∃ s : VST, top = s.1 ∧ s.1 ≤ 20 ∧ (∀ j, j < s.1 → VRW I dg nu j p (s.2 j)) ∧ HOV (l.drop k.toNat) s.1 ∧ VCL f l VZ = VCL f (l.drop k.toNat) s
theorem VRI.z {I : IT} {dg nu : Nat} {p k top : Int} {f : FVV} {l : List (Int × Int)} (h : HOV l 0) (hk : k = 0) (ht : top = 0) : VRI I dg nu p f l k top := by
  subst hk; subst ht
  exact ⟨VZ, rfl, Nat.zero_le _, fun j hj => absurd hj (Nat.not_lt_zero _), h, rfl⟩
theorem VRI.ge {I : IT} {dg nu : Nat} {p k top kd z : Int} {f : FVV} {l : List (Int × Int)} (h : VRI I dg nu p f l k top) (hx : l[k.toNat]? = some (kd, z)) : (0 ≤ kd ∧ kd ≤ 5 ∧ 0 ≤ z) ∧ (kd ≤ 1 → 0 ≤ top ∧ top < 20) ∧ (kd = 5 → 1 ≤ top ∧ top ≤ 20) ∧ (2 ≤ kd → kd ≤ 4 → 2 ≤ top ∧ top ≤ 20) ∧ (kd = 4 → z ≤ 8) := by
  obtain ⟨s, e, b, v, ho, -⟩ := h
  rw [DRP hx] at ho
  obtain ⟨⟨a1, a2, a3, a4, a5, a6⟩, b1, b2, -⟩ := ho.c
  have a1 : 0 ≤ kd := a1
  have a2 : kd ≤ 5 := a2
  have a3 : 0 ≤ z := a3
  have a5 : kd ≤ 1 → (s.1 : Int) ≤ 19 := a5
  have a6 : 2 ≤ kd → kd ≤ 4 → 2 ≤ (s.1 : Int) ∧ (s.1 : Int) ≤ 20 := a6
  have b1 : kd = 5 → 1 ≤ (s.1 : Int) := b1
  have b2 : kd = 4 → z ≤ 8 := b2
  rw [e]
  exact ⟨⟨a1, a2, a3⟩, fun q => ⟨a4, by have := a5 q; omega⟩, fun q => ⟨b1 q, by omega⟩, a6, b2⟩
theorem VRI.cn {I : IT} {dg nu : Nat} {p k top : Int} {f : FVV} {l : List (Int × Int)} (h : VRI I dg nu p f l k top) (j : Nat) (hj : (j : Int) < top) : RCN I nu j p (I dg j).toInt := by
  obtain ⟨s, e, b, v, -, -⟩ := h
  exact (v j (by omega)).cn
theorem VRI.one {I : IT} {dg nu : Nat} {p k top : Int} {f : FVV} {l : List (Int × Int)} (h : VRI I dg nu p f l k top) (hk : k = l.length) : ∃ v, VWF f l = some v ∧ VRW I dg nu 0 p v := by
  obtain ⟨s, e, b, v, ho, r⟩ := h
  rw [hk, show ((l.length : Nat) : Int).toNat = l.length from by omega, List.drop_length] at ho r
  have h1 : (s.1 : Int) = 1 := ho.1
  refine ⟨s.2 0, ?_, v 0 (by omega)⟩
  unfold VWF
  rw [r]; rfl
/-- other rows stay -/
def RWT9 (I I' : IT) (dg nu t : Nat) : Prop := ∀ r, r < t → I' dg r = I dg r ∧ SMR I I' nu r
theorem VRI.ly {I I' : IT} {dg nu : Nat} {p k kd z top top' k' : Int} {t : Int32} {f v : FVV} {l : List (Int × Int)} (h : VRI I dg nu p f l k top) (hx : l[k.toNat]? = some (kd, z)) (hkd : kd = 0 ∧ v = f ∨ kd = 1 ∧ v = (0, fun _ => z)) (ht : t.toInt = top) (hs : RWT9 I I' dg nu t.toNatClampNeg) (hv : VRW I' dg nu t.toNatClampNeg p v) (h0 : 0 ≤ k) (ht' : top' = top + 1) (hk' : k' = k + 1) : VRI I' dg nu p f l k' top' := by
  have hge := h.ge hx
  obtain ⟨s, e, b, vs, ho, r⟩ := h
  have hlt := hge.2.1 (by omega)
  have n0 := ncz (x := t) (by omega)
  have en : t.toNatClampNeg = s.1 := by omega
  rw [en] at hs hv
  rw [DRP hx] at ho r
  obtain ⟨-, -, -, ho⟩ := ho.c
  have st : VC1 f (kd, z) s = some (s.1 + 1, UPV s.2 s.1 v) := by
    rcases hkd with ⟨q1, q2⟩ | ⟨q1, q2⟩
    · rw [VC1.l0 q1, q2]
    · rw [VC1.l1 q1, q2]
  have hg1 : HG1 kd = 1 := by unfold HG1; rw [if_pos (by omega)]
  have ho : HOV (l.drop (k.toNat + 1)) (s.1 + HG1 kd) := ho
  rw [hg1] at ho
  refine ⟨(s.1 + 1, UPV s.2 s.1 v), ?_, ?_, fun j hj => ?_, ?_, ?_⟩
  · show top' = ((s.1 + 1 : Nat) : Int); omega
  · show s.1 + 1 ≤ 20; omega
  · have hj : j < s.1 + 1 := hj
    show VRW I' dg nu j p (UPV s.2 s.1 v j)
    by_cases q : j = s.1
    · subst q
      rw [UPV.s]; exact hv
    · rw [UPV.k q]
      have w := hs j (by omega)
      exact (vs j (by omega)).sm w.1 w.2
  · rw [show k'.toNat = k.toNat + 1 from by omega]
    show HOV _ ((s.1 + 1 : Nat) : Int)
    rw [show ((s.1 + 1 : Nat) : Int) = (s.1 : Int) + 1 from by omega]; exact ho
  · rw [r, show k'.toNat = k.toNat + 1 from by omega]
    show (VC1 f (kd, z) s).bind _ = _
    rw [st]; rfl
theorem RWT9.put {I0 I1 I2 : IT} {dg nu t k : Nat} {x : Int32} (h : RWT9 I0 I1 dg nu t) (hP : PUTD I1 I2 nu t k x) (hk : k < 41) (hd : I2 dg = I1 dg) : RWT9 I0 I2 dg nu t := fun r hr => ⟨by rw [hd]; exact (h r hr).1, fun j hj => (hP.2 _ (by omega)).trans ((h r hr).2 j hj)⟩
theorem VRW.num {I1 I2 : IT} {dg nu t : Nat} {x : Int32} {l : Int64} {p z : Int} (hd : I2 dg = I1 dg) (hc : (I1 dg t).toInt = 0) (hP : PUTD I1 I2 nu t 0 x) (hx : x.toInt = l.toInt % p) (hl : l.toInt = z) (hp : 0 < p) : VRW I2 dg nu t p (0, fun _ => z) := by
  refine ⟨by rw [hd]; exact hc, Int.le_refl 0, by show (0 : Int) ≤ 40; decide, fun j hj => ?_⟩
  have hj : (j : Int) ≤ 0 := hj
  have j0 : j = 0 := by omega
  subst j0
  have e : RI I2 nu t 0 = z % p := by show (I2 nu _).toInt = _; rw [hP.1, hx, hl]
  rw [e]
  exact ⟨Int.emod_nonneg _ (by omega), Int.emod_lt_of_pos _ hp, PmE.em _⟩
/-- a row is turned: i numbers of it are through -/
def VRJ (I : IT) (dg nu : Nat) (p : Int) (f : FVV) (l : List (Int × Int)) (k top i : Int) : Prop := ∃ s : VST, top = s.1 ∧ s.1 ≤ 20 ∧ 1 ≤ s.1 ∧ (∀ j, j + 1 < s.1 → VRW I dg nu j p (s.2 j)) ∧ ((I dg (s.1 - 1)).toInt = (s.2 (s.1 - 1)).1 ∧ 0 ≤ (s.2 (s.1 - 1)).1 ∧ (s.2 (s.1 - 1)).1 ≤ 40) ∧ RVX I nu (s.1 - 1) p (s.2 (s.1 - 1)).1 (OVM (s.2 (s.1 - 1)).2 (fun j => -1 * (s.2 (s.1 - 1)).2 j) i) ∧ HOV (l.drop (k.toNat + 1)) s.1 ∧ VCL f l VZ = VCL f (l.drop (k.toNat + 1)) (s.1, UPV s.2 (s.1 - 1) ((s.2 (s.1 - 1)).1, fun m => -1 * (s.2 (s.1 - 1)).2 m))
theorem VRJ.z {I : IT} {dg nu : Nat} {p k kd z top i : Int} {f : FVV} {l : List (Int × Int)} (h : VRI I dg nu p f l k top) (hx : l[k.toNat]? = some (kd, z)) (hkd : kd = 5) (hi : i = 0) : VRJ I dg nu p f l k top i := by
  have hge := h.ge hx
  obtain ⟨s, e, b, vs, ho, r⟩ := h
  have hlt := hge.2.2.1 hkd
  rw [DRP hx] at ho r
  obtain ⟨-, -, -, ho⟩ := ho.c
  have hg1 : HG1 kd = 0 := by unfold HG1; rw [if_neg (by omega), if_pos hkd]
  have ho : HOV (l.drop (k.toNat + 1)) (s.1 + HG1 kd) := ho
  rw [hg1, Int.add_zero] at ho
  have vt := vs (s.1 - 1) (by omega)
  refine ⟨s, e, b, by omega, fun j hj => vs j (by omega), ⟨vt.1, vt.2.1, vt.2.2.1⟩, OVM.z vt.2.2.2 hi, ho, ?_⟩
  rw [r]
  show (VC1 f (kd, z) s).bind _ = _
  rw [VC1.l5 hkd]; rfl
theorem VRJ.dg {I : IT} {dg nu : Nat} {p k top i : Int} {f : FVV} {l : List (Int × Int)} {t v : Int32} (h : VRJ I dg nu p f l k top i) (ht : t.toInt = top - 1) (e : I dg t.toNatClampNeg = v) : (0 ≤ v.toInt ∧ v.toInt ≤ 40) ∧ 1 ≤ top ∧ top ≤ 20 := by
  obtain ⟨s, e1, b, b1, vs, vt, -⟩ := h
  have n0 := ncz (x := t) (by omega)
  rw [show t.toNatClampNeg = s.1 - 1 from by omega] at e
  rw [e] at vt
  omega
theorem VRJ.s {I I' : IT} {dg nu : Nat} {p k top z : Int} {f : FVV} {l : List (Int × Int)} {t t2 t3 i i' a w v : Int32} (h : VRJ I dg nu p f l k top i.toInt) (ht : t.toInt = top - 1) (ht2 : t2.toInt = top - 1) (ht3 : t3.toInt = top - 1) (e : I dg t3.toNatClampNeg = v) (hi : i.toInt ≤ v.toInt) (oa : a.toInt = (I nu (41 * t.toNatClampNeg + i.toNatClampNeg)).toInt) (ls : LSD w.toInt z a.toInt p) (hz : z = 0) (hP : PUTD I I' nu t2.toNatClampNeg i.toNatClampNeg w) (hd : I' dg = I dg) (h0 : 0 ≤ i.toInt) (hi' : i'.toInt = i.toInt + 1) (hp : 0 < p) : VRJ I' dg nu p f l k top i'.toInt := by
  obtain ⟨s, e1, b, b1, vs, vt, vr, ho, r⟩ := h
  have n0 := ncz h0
  have n1 := ncz (x := t) (by omega)
  have n2 := ncz (x := t2) (by omega)
  have n3 := ncz (x := t3) (by omega)
  rw [show t.toNatClampNeg = s.1 - 1 from by omega] at oa
  rw [show t2.toNatClampNeg = s.1 - 1 from by omega] at hP
  rw [show t3.toNatClampNeg = s.1 - 1 from by omega] at e
  have hv : i.toInt ≤ (s.2 (s.1 - 1)).1 := by rw [e] at vt; omega
  refine ⟨s, e1, b, b1, fun j hj => (vs j hj).sm (by rw [hd]) (fun k hk => hP.2 _ (by omega)), by rw [hd]; exact vt, OVM.n vr oa ls hz hP h0 hv hi' hp, ho, r⟩
theorem VRJ.e {I : IT} {dg nu : Nat} {p k k' top i : Int} {f : FVV} {l : List (Int × Int)} {t v : Int32} (h : VRJ I dg nu p f l k top i) (ht : t.toInt = top - 1) (e : I dg t.toNatClampNeg = v) (hi : v.toInt < i) (h0 : 0 ≤ k) (hk' : k' = k + 1) : VRI I dg nu p f l k' top := by
  obtain ⟨s, e1, b, b1, vs, vt, vr, ho, r⟩ := h
  have n0 := ncz (x := t) (by omega)
  rw [show t.toNatClampNeg = s.1 - 1 from by omega] at e
  refine ⟨(s.1, UPV s.2 (s.1 - 1) ((s.2 (s.1 - 1)).1, fun m => -1 * (s.2 (s.1 - 1)).2 m)), e1, b, fun j hj => ?_, by rw [show k'.toNat = k.toNat + 1 from by omega]; exact ho, by rw [show k'.toNat = k.toNat + 1 from by omega]; exact r⟩
  have hj : j < s.1 := hj
  show VRW I dg nu j p (UPV s.2 (s.1 - 1) _ j)
  by_cases q : j = s.1 - 1
  · subst q
    rw [UPV.s]
    exact ⟨vt.1, vt.2.1, vt.2.2, OVM.e vr (by rw [e] at vt; omega)⟩
  · rw [UPV.k q]; exact vs j (by omega)
theorem VRI.jd {I I' : IT} {dg nu : Nat} {p k kd z x top : Int} {a b : Int32} {f : FVV} {l : List (Int × Int)} (h : VRI I dg nu p f l k top) (hx : l[k.toNat]? = some (kd, z)) (hk0 : kd ≠ 0) (hk1 : kd ≠ 1) (hk5 : kd ≠ 5) (ha : a.toInt = top - 2) (hb : b.toInt = top - 1) (hs : RWT9 I I' dg nu a.toNatClampNeg) (hj : JRD I' I dg nu a.toNatClampNeg b.toNatClampNeg kd z x p) (h0 : 0 ≤ k) : (x = 0 → VWF f l = none) ∧ (x = 1 → ∀ k' top', k' = k + 1 → top' = top - 1 → VRI I' dg nu p f l k' top') := by
  have hge := h.ge hx
  obtain ⟨s, e, b9, vs, ho, r⟩ := h
  have hlt := hge.2.2.2.1 (by omega) (by omega)
  have n1 := ncz (x := a) (by omega)
  have n2 := ncz (x := b) (by omega)
  rw [show a.toNatClampNeg = s.1 - 2 from by omega] at hs hj
  rw [show b.toNatClampNeg = s.1 - 1 from by omega] at hj
  rw [DRP hx] at ho r
  obtain ⟨-, -, -, ho⟩ := ho.c
  have hg1 : HG1 kd = -1 := by unfold HG1; rw [if_neg (by omega), if_neg hk5]
  have ho : HOV (l.drop (k.toNat + 1)) (s.1 + HG1 kd) := ho
  rw [hg1] at ho
  have va := vs (s.1 - 2) (by omega)
  have vb := vs (s.1 - 1) (by omega)
  have pe := VJN.pe (k := kd) (z := z) va.fq vb.fq (fun _ _ => hge.1.2.2) (by have := va.1; have := va.2.1; show (0 : Int) ≤ (I _ _).toInt; omega)
  have rr : VCL f l VZ = ((VJN kd z (s.2 (s.1 - 2)) (s.2 (s.1 - 1))).bind (fun v => some (s.1 - 1, UPV s.2 (s.1 - 2) v))).bind (VCL f (l.drop (k.toNat + 1))) := by
    rw [r]
    show (VC1 f (kd, z) s).bind _ = _
    rw [VC1.lj hk0 hk1 hk5]
  refine ⟨fun q => ?_, fun q k' top' hk' ht' => ?_⟩
  · have z0 := hj.1 q
    rcases pe with ⟨p1, p2⟩ | ⟨v, w, p1, -⟩
    · unfold VWF; rw [rr, p2]; rfl
    · rw [z0] at p1; cases p1
  · obtain ⟨v, z0, z1⟩ := hj.2 q
    rcases pe with ⟨p1, p2⟩ | ⟨v', w, p1, p2, p3⟩
    · rw [z0] at p1; cases p1
    · rw [z0] at p1; cases p1
      refine ⟨(s.1 - 1, UPV s.2 (s.1 - 2) w), ?_, ?_, fun j hj => ?_, ?_, ?_⟩
      · show top' = ((s.1 - 1 : Nat) : Int); omega
      · show s.1 - 1 ≤ 20; omega
      · have hj : j < s.1 - 1 := hj
        show VRW I' dg nu j p (UPV s.2 (s.1 - 2) w j)
        by_cases q : j = s.1 - 2
        · subst q
          rw [UPV.s]; exact z1.tr p3
        · rw [UPV.k q]
          have w9 := hs j (by omega)
          exact (vs j (by omega)).sm w9.1 w9.2
      · rw [show k'.toNat = k.toNat + 1 from by omega]
        show HOV _ ((s.1 - 1 : Nat) : Int)
        rw [show ((s.1 - 1 : Nat) : Int) = (s.1 : Int) + -1 from by omega]; exact ho
      · rw [rr, show k'.toNat = k.toNat + 1 from by omega, p2]; rfl
def VPR (I : IT) (dg nu : Nat) (x p : Int) (o : Option FVV) : Prop := (x = 0 → o = none) ∧ (x = 1 → ∃ v, o = some v ∧ VRW I dg nu 0 p v)
theorem VPR.cg {I : IT} {dg nu : Nat} {x p : Int} {o o' : Option FVV} (h : VPR I dg nu x p o) (e : OQV p o o') : VPR I dg nu x p o' := by
  rcases e with ⟨e1, e2⟩ | ⟨v, w, e1, e2, e3⟩
  · refine ⟨fun _ => e2, fun q => ?_⟩
    obtain ⟨v, z, -⟩ := h.2 q
    rw [e1] at z; cases z
  · refine ⟨fun q => ?_, fun q => ?_⟩
    · have z := h.1 q
      rw [e1] at z; cases z
    · obtain ⟨v', z, z2⟩ := h.2 q
      rw [e1] at z; cases z
      exact ⟨w, e2, z2.tr e3⟩
theorem VQ.r0 {I : IT} {dg nu : Nat} {x y p k : Int} {o : Option FVV} (h : VPR I dg nu x p o) (hx : x = 0) (hy : y = -2) : VQ y p o k := Or.inl ⟨h.1 hx, hy⟩
theorem VQ.r1 {I : IT} {dg nu : Nat} {x y p k : Int} {o : Option FVV} (h : VPR I dg nu x p o) (hx : x = 1) (d : DON y (I dg 0).toInt (RI I nu 0) k) : VQ y p o k := by
  obtain ⟨v, z, z2⟩ := h.2 hx
  exact Or.inr ⟨v, z, OVQ.r z2.2.2.2 d z2.1⟩
theorem HOV.w {W : Nat → Int32} {n : Nat} (h : SGN W (198 + 401 * n)) (v : HLV (WSL W n)) : HOV (WSL W n) 0 := by
  refine ⟨HOK.w h v, ?_, v.2.2⟩
  have hx : ∀ (l : List (Int × Int)) (H : Nat → Int), (∀ j (hj : j < l.length), H (j + 1) = H j + HG1 l[j].1) → (∀ j (hj : j < l.length), l[j].1 = 5 → 1 ≤ H j) → HO5 l (H 0) := by
    intro l
    induction l with
    | nil => intro H _ _; trivial
    | cons x l ih =>
      intro H hs h5
      have s0 : H 1 = H 0 + HG1 x.1 := hs 0 (Nat.succ_pos _)
      refine ⟨h5 0 (Nat.succ_pos _), ?_⟩
      have r := ih (fun j => H (j + 1)) (fun j hj => hs (j + 1) (Nat.succ_lt_succ hj)) (fun j hj => h5 (j + 1) (Nat.succ_lt_succ hj))
      have r : HO5 l (H 1) := r
      rw [s0] at r; exact r
  have ln := WSL.len (W := W) (n := n)
  have gj : ∀ j (hj : j < (WSL W n).length), (WSL W n)[j] = ((W (199 + 401 * n + 2 * j)).toInt, (W (200 + 401 * n + 2 * j)).toInt) := fun j hj => by
    have q : (WSL W n)[j]? = some ((W (199 + 401 * n + 2 * j)).toInt, (W (200 + 401 * n + 2 * j)).toInt) := by
      rw [ln] at hj
      unfold WSL
      rw [List.getElem?_map, List.getElem?_range hj]
      rfl
    obtain ⟨_, e⟩ := List.getElem?_eq_some_iff.mp q
    exact e
  have z := hx (WSL W n) (Hgt W (198 + 401 * n)) (fun j hj => by
    rw [gj j hj]
    show Hgt W (198 + 401 * n) j + (if (W (198 + 401 * n + 1 + 2 * j)).toInt ≤ 1 then 1 else if (W (198 + 401 * n + 1 + 2 * j)).toInt = 5 then 0 else -1) = _
    rw [show 198 + 401 * n + 1 + 2 * j = 199 + 401 * n + 2 * j from by omega]
    rfl) (fun j hj => by
    rw [gj j hj]
    have q := h.2.2 j (by omega)
    rw [show 198 + 401 * n + 1 + 2 * j = 199 + 401 * n + 2 * j from by omega] at q
    exact q.2.2.2.2.2.2.2.2)
  exact z
theorem a_X12_over_x {d : Nat} {T N : Nat → Nat} {I : IT} {L : LT} {R : RT} {n0 n1 : Int32}  (b0_n0 : 0 ≤ n0.toInt) (b1_n0 : n0.toInt ≤ 8) (b0_n1 : 0 ≤ n1.toInt) (b1_n1 : n1.toInt ≤ 8) (hp0 : n1.toInt ≤ n0.toInt) : Ex (d + 1) 208 [.int n0, .int n1] (T, N, I, L, R) 0 0 (pI T N R (fun x9 I9 L9 => (x9.toInt = BNI n0.toInt n1.toInt.toNat) ∧ (0 ≤ x9.toInt) ∧ (x9.toInt ≤ 70) ∧ (I = I9 ∧ L = L9))) := by
  refine ⟨_, rfl, Nat.le_of_ble_eq_true rfl, fun V C S => ?_⟩
  show V 0 [(0, .int n0), (1, .int n1)] [] (T, N, I, L, R) 0 0
  have gn0 := rg n0
  have gn1 := rg n1
  refine z_iconst C (z := 1) rfl rfl rfl (fun x1 ex1 => ?_)
  refine k_istore_n C (lw := [(2, .int x1), (0, .int n0), (1, .int n1)]) rfl rfl (Nat.le_of_ble_eq_true rfl) rfl ?_
  refine z_iconst C (z := 1) rfl rfl rfl (fun x2 ex2 => ?_)
  have J3 : ∀ (nn4 : Nat) (x5 : Int32) (x6 : Int32), (MN (9 - x6.toInt) nn4) → (1 ≤ x6.toInt) → (x6.toInt ≤ 9) → (x5.toInt = OVR n0.toInt n1.toInt (x6.toInt - 1).toNat) → (x6.toInt ≤ n1.toInt + 1) → V 4 [(0, .int n0), (1, .int n1), (2, .int x5), (3, .int x6)] [] (T, N, I, L, R) 0 0 := by
    intro nn4
    induction nn4 using Nat.strongRecOn with
    | _ nn4 ihJ3 =>
      intro x5 x6 hmnn4 b7 b8 ff4_0 ff4_1
      have gx5 := rg x5
      have gx6 := rg x6
      refine k_iload_n C rfl rfl rfl ?_
      refine k_iload_n C rfl rfl rfl ?_
      refine b_icmp_gt C (t := 25) rfl rfl rfl (fun c9 => ?_) (fun c9 => ?_)
      · skip
        refine k_iload_n C rfl rfl rfl ?_
        exact k_iret C rfl (Or.inl rfl) (Nat.le_of_ble_eq_true rfl) (Nat.le_of_ble_eq_true rfl) ⟨_, _, _, rfl, rfl, by rw [ff4_0, show (x6.toInt - 1).toNat = n1.toInt.toNat from by omega]; exact OVR.e (by omega) (by omega) (by omega), by rw [ff4_0, show (x6.toInt - 1).toNat = n1.toInt.toNat from by omega, OVR.e (by omega) (by omega) (by omega)]; exact (BNI.b (k := n0.toInt) (i := n1.toInt.toNat) (by omega) (by omega) (by omega)).1, by rw [ff4_0, show (x6.toInt - 1).toNat = n1.toInt.toNat from by omega, OVR.e (by omega) (by omega) (by omega)]; exact (BNI.b (k := n0.toInt) (i := n1.toInt.toNat) (by omega) (by omega) (by omega)).2, rfl, rfl⟩
      refine k_iload_n C rfl rfl rfl ?_
      refine k_iload_n C rfl rfl rfl ?_
      refine k_iload_n C rfl rfl rfl ?_
      refine z_isub C rfl rfl ⟨by omega, by omega⟩ (fun x10 ex10 => ?_)
      refine k_iload_n C rfl rfl rfl ?_
      refine z_iadd C rfl rfl ⟨by omega, by omega⟩ (fun x11 ex11 => ?_)
      refine z_imulE C rfl rfl (fun x12 ex12 => ?_)
      have gx12 := rg x12
      have m15 := ex12
      refine k_iload_n C rfl rfl rfl ?_
      refine z_idivE C rfl rfl (by omega) (fun x13 ex13 => ?_)
      have gx13 := rg x13
      have m17 := ex13
      refine k_istore_n C (lw := [(2, .int x13), (0, .int n0), (1, .int n1), (3, .int x6)]) rfl rfl (Nat.le_of_ble_eq_true rfl) rfl ?_
      refine z_iinc C (z := 1) (lw := fun x14 => [(3, .int x14), (2, .int x13), (0, .int n0), (1, .int n1)]) rfl rfl rfl (Nat.le_of_ble_eq_true rfl) rfl ⟨by omega, by omega⟩ (fun _ => rfl) (fun x14 ex14 => ?_)
      show V 22 [(3, .int x14), (2, .int x13), (0, .int n0), (1, .int n1)] _ _ _ _
      refine k_goto C (pc2 := 4) rfl rfl ?_
      refine k_sub S [(0, .int n0), (1, .int n1), (2, .int x13), (3, .int x14)] (List.forall_mem_cons.mpr ⟨List.mem_of_getElem? (i := 2) rfl, List.forall_mem_cons.mpr ⟨List.mem_of_getElem? (i := 3) rfl, List.forall_mem_cons.mpr ⟨List.mem_of_getElem? (i := 1) rfl, List.forall_mem_cons.mpr ⟨List.mem_of_getElem? (i := 0) rfl, fun _ h => nomatch h⟩⟩⟩⟩) ?_
      exact ihJ3 _ (MN.lt hmnn4 (by omega) (by omega)) x13 x14 rfl (by omega) (by omega) (by exact OVR.s ff4_0 m15 (by omega) m17 (by omega) (by omega) (by omega) (by omega) (by omega) (by omega)) (by omega)
  refine k_istore_n C (lw := [(3, .int x2), (2, .int x1), (0, .int n0), (1, .int n1)]) rfl rfl (Nat.le_of_ble_eq_true rfl) rfl ?_
  refine k_sub S [(0, .int n0), (1, .int n1), (2, .int x1), (3, .int x2)] (List.forall_mem_cons.mpr ⟨List.mem_of_getElem? (i := 2) rfl, List.forall_mem_cons.mpr ⟨List.mem_of_getElem? (i := 3) rfl, List.forall_mem_cons.mpr ⟨List.mem_of_getElem? (i := 1) rfl, List.forall_mem_cons.mpr ⟨List.mem_of_getElem? (i := 0) rfl, fun _ h => nomatch h⟩⟩⟩⟩) ?_
  exact J3 _ x1 x2 rfl (by omega) (by omega) (by rw [show (x2.toInt - 1).toNat = 0 from by omega]; show _ = (1 : Int); omega) (by omega)

theorem a_X12_differs_x {d : Nat} {T N : Nat → Nat} {I : IT} {L : LT} {R : RT} {A : Nat → Prop} {r0 : Nat} {n1 n2 n3 n4 : Int32} (hI : IM R r0 I) (H_r0 : (h_MD T N R A) r0) (b0_n1 : 0 ≤ n1.toInt) (b1_n1 : n1.toInt ≤ 40) (b0_n2 : 0 ≤ n2.toInt) (b1_n2 : n2.toInt ≤ 40) (b0_n3 : 0 ≤ n3.toInt) (b1_n3 : n3.toInt ≤ 40) (b0_n4 : 0 ≤ n4.toInt) (b1_n4 : n4.toInt ≤ 40) : Ex (d + 4) 206 [.ref r0, .int n1, .int n2, .int n3, .int n4] (T, N, I, L, R) 0 0 (pI T N R (fun x9 I9 L9 => (-18 ≤ x9.toInt) ∧ (x9.toInt ≤ 18) ∧ (∀ a1, R r0 1 = some a1 → PRE x9.toInt (I a1 0).toInt (FFP (n1.toInt - n2.toInt) n3.toNatClampNeg * FFP n2.toInt n4.toNatClampNeg)) ∧ (I = I9 ∧ L = L9))) := by
  refine ⟨_, rfl, Nat.le_of_ble_eq_true rfl, fun V C S => ?_⟩
  show V 0 [(0, .ref r0), (1, .int n1), (2, .int n2), (3, .int n3), (4, .int n4)] [] (T, N, I, L, R) 0 0
  have gn1 := rg n1
  have gn2 := rg n2
  have gn3 := rg n3
  have gn4 := rg n4
  obtain ⟨T_r0, A_r0, ⟨r0_1, R_r0_1, H_r0_1⟩, ⟨r0_2, R_r0_2, H_r0_2⟩, ⟨r0_4, R_r0_4, H_r0_4⟩, ⟨r0_5, R_r0_5, H_r0_5⟩, ⟨r0_10, R_r0_10, H_r0_10⟩, ⟨r0_18, R_r0_18, H_r0_18⟩, ⟨r0_20, R_r0_20, H_r0_20⟩, ⟨r0_21, R_r0_21, H_r0_21⟩, ⟨r0_22, R_r0_22, H_r0_22⟩, ⟨r0_23, R_r0_23, H_r0_23⟩, ⟨r0_25, R_r0_25, H_r0_25⟩, ⟨r0_26, R_r0_26, H_r0_26⟩, ⟨r0_27, R_r0_27, H_r0_27⟩, ⟨r0_28, R_r0_28, H_r0_28⟩, ⟨r0_34, R_r0_34, H_r0_34⟩, J_r0, Y_r0⟩ := id H_r0
  have G_r0 : mF T R r0 := ⟨J_r0, Y_r0, T_r0⟩
  obtain ⟨w_r0_1_0, k0_r0_1_0⟩ : ∃ x, I r0_1 0 = x := ⟨_, rfl⟩
  have gw_r0_1_0 := rg w_r0_1_0
  have ow_r0_1_0 := IM.pi hI R_r0_1 k0_r0_1_0
  refine z_iconst C (z := 1) rfl rfl rfl (fun x1 ex1 => ?_)
  refine k_istore C (lw := [(5, .int x1), (0, .ref r0), (1, .int n1), (2, .int n2), (3, .int n3), (4, .int n4)]) rfl rfl (Nat.le_of_ble_eq_true rfl) rfl ?_
  refine z_iconst C (z := 0) rfl rfl rfl (fun x2 ex2 => ?_)
  have J3 : ∀ (nn4 : Nat) (x5 : Int32) (x8 : Int32), (MN (40 - x8.toInt) nn4) → (-18 ≤ x5.toInt) → (x5.toInt ≤ 18) → (0 ≤ x8.toInt) → (x8.toInt ≤ 40) → (PRE x5.toInt w_r0_1_0.toInt (FFP (n1.toInt - n2.toInt) x8.toNatClampNeg)) → (x8.toInt ≤ n3.toInt) → V 6 [(0, .ref r0), (1, .int n1), (2, .int n2), (3, .int n3), (4, .int n4), (5, .int x5), (6, .int x8)] [] (T, N, I, L, R) 0 0 := by
    intro nn4
    induction nn4 using Nat.strongRecOn with
    | _ nn4 ihJ3 =>
      intro x5 x8 hmnn4 b6 b7 b9 b10 ff6_0 ff6_1
      have gx5 := rg x5
      have gx8 := rg x8
      refine k_iload C rfl rfl rfl ?_
      refine k_iload_n C rfl rfl rfl ?_
      refine b_icmp_ge C (t := 37) rfl rfl rfl (fun c11 => ?_) (fun c11 => ?_)
      · skip
        have h37 : PRE x5.toInt w_r0_1_0.toInt (FFP (n1.toInt - n2.toInt) n3.toNatClampNeg) := by (rw [show x8 = n3 from Int32.toInt_inj.mp (by omega)] at ff6_0; exact ff6_0)
        refine z_iconst C (z := 0) rfl rfl rfl (fun x12 ex12 => ?_)
        have J13 : ∀ (nn14 : Nat) (x15 : Int32) (x18 : Int32), (MN (40 - x18.toInt) nn14) → (-18 ≤ x15.toInt) → (x15.toInt ≤ 18) → (0 ≤ x18.toInt) → (x18.toInt ≤ 40) → (PRE x15.toInt w_r0_1_0.toInt (FFP (n1.toInt - n2.toInt) n3.toNatClampNeg * FFP n2.toInt x18.toNatClampNeg)) → (x18.toInt ≤ n4.toInt) → V 40 [(0, .ref r0), (2, .int n2), (4, .int n4), (5, .int x15), (6, .int x18)] [] (T, N, I, L, R) 0 0 := by
          intro nn14
          induction nn14 using Nat.strongRecOn with
          | _ nn14 ihJ13 =>
            intro x15 x18 hmnn14 b16 b17 b19 b20 ff40_0 ff40_1
            have gx15 := rg x15
            have gx18 := rg x18
            refine k_iload C rfl rfl rfl ?_
            refine k_iload C rfl rfl rfl ?_
            refine b_icmp_ge C (t := 70) rfl rfl rfl (fun c21 => ?_) (fun c21 => ?_)
            · skip
              refine k_iload C rfl rfl rfl ?_
              exact k_iret C rfl (Or.inl rfl) (Nat.le_of_ble_eq_true rfl) (Nat.le_of_ble_eq_true rfl) ⟨_, _, _, rfl, rfl, by omega, by omega, fun a1 h1 => by cases (R_r0_1.symm.trans h1); simp only [k0_r0_1_0]; rw [show n4 = x18 from Int32.toInt_inj.mp (by omega)]; exact ff40_0, rfl, rfl⟩
            refine k_aload_n C rfl rfl rfl ?_
            refine k_iload C rfl rfl rfl ?_
            refine k_aload_n C rfl rfl rfl ?_
            refine k_iload_n C rfl rfl rfl ?_
            refine k_iload C rfl rfl rfl ?_
            refine z_isub C rfl rfl ⟨by omega, by omega⟩ (fun x22 ex22 => ?_)
            refine z_i2l C rfl rfl (fun lg23 elg23 => ?_)
            have hl56 := elg23
            refine c_VI C (a_X12_mod_e hI H_r0) rfl rfl rfl rfl rfl ⟨_, rfl, rfl, T_r0, Nat.le_of_ble_eq_true rfl⟩ rfl rfl (Nat.le_of_ble_eq_true rfl) (Nat.le_of_ble_eq_true rfl) (Nat.le_of_ble_eq_true rfl) ?_
            rintro x24 _ _ ⟨o0x24, o1x24, p0x24, p1x24, rfl, rfl⟩
            have p0x24 := p0x24 r0_1 R_r0_1
            have p1x24 := p1x24 r0_1 R_r0_1
            have gx24 := rg x24
            try simp only [k0_r0_1_0] at p0x24
            try have q0x24 := congrArg Int32.toInt p0x24
            try simp only [k0_r0_1_0] at p1x24
            try have q1x24 := congrArg Int32.toInt p1x24
            have hm56 := p1x24
            refine c_VI C (a_X12_times hI H_r0 (by omega) (by omega) (by omega) (by omega)) rfl rfl rfl rfl rfl ⟨_, rfl, rfl, T_r0, Nat.le_of_ble_eq_true rfl⟩ rfl rfl (Nat.le_of_ble_eq_true rfl) (Nat.le_of_ble_eq_true rfl) (Nat.le_of_ble_eq_true rfl) ?_
            rintro x25 _ _ ⟨o0x25, o1x25, p0x25, p1x25, p2x25, p3x25, rfl, rfl⟩
            have p0x25 := p0x25 r0_1 R_r0_1
            have p2x25 := p2x25 r0_1 R_r0_1
            have p3x25 := p3x25 r0_1 R_r0_1
            have gx25 := rg x25
            try simp only [k0_r0_1_0] at p0x25
            try have q0x25 := congrArg Int32.toInt p0x25
            try simp only [k0_r0_1_0] at p1x25
            try have q1x25 := congrArg Int32.toInt p1x25
            try simp only [k0_r0_1_0] at p2x25
            try have q2x25 := congrArg Int32.toInt p2x25
            try simp only [k0_r0_1_0] at p3x25
            try have q3x25 := congrArg Int32.toInt p3x25
            have ht59 := p3x25
            refine k_istore C (lw := [(5, .int x25), (0, .ref r0), (2, .int n2), (4, .int n4), (6, .int x18)]) rfl rfl (Nat.le_of_ble_eq_true rfl) rfl ?_
            refine z_iinc C (z := 1) (lw := fun x26 => [(6, .int x26), (5, .int x25), (0, .ref r0), (2, .int n2), (4, .int n4)]) rfl rfl rfl (Nat.le_of_ble_eq_true rfl) rfl ⟨by omega, by omega⟩ (fun _ => rfl) (fun x26 ex26 => ?_)
            show V 67 [(6, .int x26), (5, .int x25), (0, .ref r0), (2, .int n2), (4, .int n4)] _ _ _ _
            refine k_goto C (pc2 := 40) rfl rfl ?_
            refine k_sub S [(0, .ref r0), (2, .int n2), (4, .int n4), (5, .int x25), (6, .int x26)] (List.forall_mem_cons.mpr ⟨List.mem_of_getElem? (i := 2) rfl, List.forall_mem_cons.mpr ⟨List.mem_of_getElem? (i := 3) rfl, List.forall_mem_cons.mpr ⟨List.mem_of_getElem? (i := 4) rfl, List.forall_mem_cons.mpr ⟨List.mem_of_getElem? (i := 1) rfl, List.forall_mem_cons.mpr ⟨List.mem_of_getElem? (i := 0) rfl, fun _ h => nomatch h⟩⟩⟩⟩⟩) ?_
            exact ihJ13 _ (MN.lt hmnn14 (by omega) (by omega)) x25 x26 rfl (by omega) (by omega) (by omega) (by omega) (by rw [FFP.s (n := n2.toInt) (i := x18) (by omega) (by omega), ← Int.mul_assoc]; exact PRE.s ff40_0 ht59 hm56 hl56 (by omega) (by omega)) (by omega)
        refine k_istore C (lw := [(6, .int x12), (0, .ref r0), (1, .int n1), (2, .int n2), (3, .int n3), (4, .int n4), (5, .int x5)]) rfl rfl (Nat.le_of_ble_eq_true rfl) rfl ?_
        refine k_sub S [(0, .ref r0), (2, .int n2), (4, .int n4), (5, .int x5), (6, .int x12)] (List.forall_mem_cons.mpr ⟨List.mem_of_getElem? (i := 1) rfl, List.forall_mem_cons.mpr ⟨List.mem_of_getElem? (i := 3) rfl, List.forall_mem_cons.mpr ⟨List.mem_of_getElem? (i := 5) rfl, List.forall_mem_cons.mpr ⟨List.mem_of_getElem? (i := 6) rfl, List.forall_mem_cons.mpr ⟨List.mem_of_getElem? (i := 0) rfl, fun _ h => nomatch h⟩⟩⟩⟩⟩) ?_
        exact J13 _ x5 x12 rfl (by omega) (by omega) (by omega) (by omega) (by rw [FFP.z (n := n2.toInt) (i := x12) (by omega), Int.mul_one]; exact h37) (by omega)
      refine k_aload_n C rfl rfl rfl ?_
      refine k_iload C rfl rfl rfl ?_
      refine k_aload_n C rfl rfl rfl ?_
      refine k_iload_n C rfl rfl rfl ?_
      refine k_iload_n C rfl rfl rfl ?_
      refine z_isub C rfl rfl ⟨by omega, by omega⟩ (fun x27 ex27 => ?_)
      refine k_iload C rfl rfl rfl ?_
      refine z_isub C rfl rfl ⟨by omega, by omega⟩ (fun x28 ex28 => ?_)
      refine z_i2l C rfl rfl (fun lg29 elg29 => ?_)
      have hl23 := elg29
      refine c_VI C (a_X12_mod_e hI H_r0) rfl rfl rfl rfl rfl ⟨_, rfl, rfl, T_r0, Nat.le_of_ble_eq_true rfl⟩ rfl rfl (Nat.le_of_ble_eq_true rfl) (Nat.le_of_ble_eq_true rfl) (Nat.le_of_ble_eq_true rfl) ?_
      rintro x30 _ _ ⟨o0x30, o1x30, p0x30, p1x30, rfl, rfl⟩
      have p0x30 := p0x30 r0_1 R_r0_1
      have p1x30 := p1x30 r0_1 R_r0_1
      have gx30 := rg x30
      try simp only [k0_r0_1_0] at p0x30
      try have q0x30 := congrArg Int32.toInt p0x30
      try simp only [k0_r0_1_0] at p1x30
      try have q1x30 := congrArg Int32.toInt p1x30
      have hm23 := p1x30
      refine c_VI C (a_X12_times hI H_r0 (by omega) (by omega) (by omega) (by omega)) rfl rfl rfl rfl rfl ⟨_, rfl, rfl, T_r0, Nat.le_of_ble_eq_true rfl⟩ rfl rfl (Nat.le_of_ble_eq_true rfl) (Nat.le_of_ble_eq_true rfl) (Nat.le_of_ble_eq_true rfl) ?_
      rintro x31 _ _ ⟨o0x31, o1x31, p0x31, p1x31, p2x31, p3x31, rfl, rfl⟩
      have p0x31 := p0x31 r0_1 R_r0_1
      have p2x31 := p2x31 r0_1 R_r0_1
      have p3x31 := p3x31 r0_1 R_r0_1
      have gx31 := rg x31
      try simp only [k0_r0_1_0] at p0x31
      try have q0x31 := congrArg Int32.toInt p0x31
      try simp only [k0_r0_1_0] at p1x31
      try have q1x31 := congrArg Int32.toInt p1x31
      try simp only [k0_r0_1_0] at p2x31
      try have q2x31 := congrArg Int32.toInt p2x31
      try simp only [k0_r0_1_0] at p3x31
      try have q3x31 := congrArg Int32.toInt p3x31
      have ht26 := p3x31
      refine k_istore C (lw := [(5, .int x31), (0, .ref r0), (1, .int n1), (2, .int n2), (3, .int n3), (4, .int n4), (6, .int x8)]) rfl rfl (Nat.le_of_ble_eq_true rfl) rfl ?_
      refine z_iinc C (z := 1) (lw := fun x32 => [(6, .int x32), (5, .int x31), (0, .ref r0), (1, .int n1), (2, .int n2), (3, .int n3), (4, .int n4)]) rfl rfl rfl (Nat.le_of_ble_eq_true rfl) rfl ⟨by omega, by omega⟩ (fun _ => rfl) (fun x32 ex32 => ?_)
      show V 34 [(6, .int x32), (5, .int x31), (0, .ref r0), (1, .int n1), (2, .int n2), (3, .int n3), (4, .int n4)] _ _ _ _
      refine k_goto C (pc2 := 6) rfl rfl ?_
      refine k_sub S [(0, .ref r0), (1, .int n1), (2, .int n2), (3, .int n3), (4, .int n4), (5, .int x31), (6, .int x32)] (List.forall_mem_cons.mpr ⟨List.mem_of_getElem? (i := 2) rfl, List.forall_mem_cons.mpr ⟨List.mem_of_getElem? (i := 3) rfl, List.forall_mem_cons.mpr ⟨List.mem_of_getElem? (i := 4) rfl, List.forall_mem_cons.mpr ⟨List.mem_of_getElem? (i := 5) rfl, List.forall_mem_cons.mpr ⟨List.mem_of_getElem? (i := 6) rfl, List.forall_mem_cons.mpr ⟨List.mem_of_getElem? (i := 1) rfl, List.forall_mem_cons.mpr ⟨List.mem_of_getElem? (i := 0) rfl, fun _ h => nomatch h⟩⟩⟩⟩⟩⟩⟩) ?_
      exact ihJ3 _ (MN.lt hmnn4 (by omega) (by omega)) x31 x32 rfl (by omega) (by omega) (by omega) (by omega) (by rw [FFP.s (i := x8) (by omega) (by omega)]; exact PRE.s ff6_0 ht26 hm23 hl23 (by omega) (by omega)) (by omega)
  refine k_istore C (lw := [(6, .int x2), (5, .int x1), (0, .ref r0), (1, .int n1), (2, .int n2), (3, .int n3), (4, .int n4)]) rfl rfl (Nat.le_of_ble_eq_true rfl) rfl ?_
  refine k_sub S [(0, .ref r0), (1, .int n1), (2, .int n2), (3, .int n3), (4, .int n4), (5, .int x1), (6, .int x2)] (List.forall_mem_cons.mpr ⟨List.mem_of_getElem? (i := 2) rfl, List.forall_mem_cons.mpr ⟨List.mem_of_getElem? (i := 3) rfl, List.forall_mem_cons.mpr ⟨List.mem_of_getElem? (i := 4) rfl, List.forall_mem_cons.mpr ⟨List.mem_of_getElem? (i := 5) rfl, List.forall_mem_cons.mpr ⟨List.mem_of_getElem? (i := 6) rfl, List.forall_mem_cons.mpr ⟨List.mem_of_getElem? (i := 1) rfl, List.forall_mem_cons.mpr ⟨List.mem_of_getElem? (i := 0) rfl, fun _ h => nomatch h⟩⟩⟩⟩⟩⟩⟩) ?_
  exact J3 _ x1 x2 rfl (by omega) (by omega) (by omega) (by omega) (by rw [FFP.z (by omega)]; exact PRE.o (by omega) (by omega)) (by omega)

theorem a_X12_differentiates_x {d : Nat} {T N : Nat → Nat} {I : IT} {L : LT} {R : RT} {A : Nat → Prop} {r0 : Nat} {n1 n2 n3 n4 : Int32} (hI : IM R r0 I) (H_r0 : (h_MD T N R A) r0) (b0_n1 : 0 ≤ n1.toInt) (b1_n1 : n1.toInt ≤ 47) (b0_n2 : 0 ≤ n2.toInt) (b1_n2 : n2.toInt ≤ 40) (b0_n3 : 0 ≤ n3.toInt) (b1_n3 : n3.toInt ≤ 40) (b0_n4 : 0 ≤ n4.toInt) (b1_n4 : n4.toInt ≤ 47) (hp0 : n1.toInt ≠ n4.toInt) (hp1 : ∀ a4, R r0 4 = some a4 → n2.toInt + n3.toInt ≤ (I a4 n1.toNatClampNeg).toInt) (hp2 : ∀ a1 a4 a5, R r0 1 = some a1 → R r0 4 = some a4 → R r0 5 = some a5 → RCN I a5 n1.toNatClampNeg (I a1 0).toInt (I a4 n1.toNatClampNeg).toInt) : Ex (d + 5) 207 [.ref r0, .int n1, .int n2, .int n3, .int n4] (T, N, I, L, R) 0 0 (pV T N R (fun I9 L9 => (∀ a4, R r0 4 = some a4 → (I9 a4 n4.toNatClampNeg).toInt = (I a4 n1.toNatClampNeg).toInt - n2.toInt - n3.toInt) ∧ (∀ a1 a4 a5, R r0 1 = some a1 → R r0 4 = some a4 → R r0 5 = some a5 → QN I9 a5 n4.toNatClampNeg ((I9 a4 n4.toNatClampNeg).toInt + 1) (I a1 0).toInt) ∧ (∀ a1 a4 a5, R r0 1 = some a1 → R r0 4 = some a4 → R r0 5 = some a5 → RVX I9 a5 n4.toNatClampNeg (I a1 0).toInt ((I a4 n1.toNatClampNeg).toInt - n2.toInt - n3.toInt) (DIF (RI I a5 n1.toNatClampNeg) (I a4 n1.toNatClampNeg).toInt n2.toNatClampNeg n3.toNatClampNeg)) ∧ (∀ a4, R r0 4 = some a4 → ∀ r : Nat, r ≠ n4.toNatClampNeg → I9 a4 r = I a4 r) ∧ (∀ a5, R r0 5 = some a5 → ∀ r : Nat, (r < 41 * n4.toNatClampNeg ∨ 41 * n4.toNatClampNeg + 41 ≤ r) → I9 a5 r = I a5 r) ∧ (IM R r0 I9 ∧ CM A R r0 [] [4, 5] I L I9 L9))) := by
  refine ⟨_, rfl, Nat.le_of_ble_eq_true rfl, fun V C S => ?_⟩
  show V 0 [(0, .ref r0), (1, .int n1), (2, .int n2), (3, .int n3), (4, .int n4)] [] (T, N, I, L, R) 0 0
  have gn1 := rg n1
  have gn2 := rg n2
  have gn3 := rg n3
  have gn4 := rg n4
  obtain ⟨T_r0, A_r0, ⟨r0_1, R_r0_1, H_r0_1⟩, ⟨r0_2, R_r0_2, H_r0_2⟩, ⟨r0_4, R_r0_4, H_r0_4⟩, ⟨r0_5, R_r0_5, H_r0_5⟩, ⟨r0_10, R_r0_10, H_r0_10⟩, ⟨r0_18, R_r0_18, H_r0_18⟩, ⟨r0_20, R_r0_20, H_r0_20⟩, ⟨r0_21, R_r0_21, H_r0_21⟩, ⟨r0_22, R_r0_22, H_r0_22⟩, ⟨r0_23, R_r0_23, H_r0_23⟩, ⟨r0_25, R_r0_25, H_r0_25⟩, ⟨r0_26, R_r0_26, H_r0_26⟩, ⟨r0_27, R_r0_27, H_r0_27⟩, ⟨r0_28, R_r0_28, H_r0_28⟩, ⟨r0_34, R_r0_34, H_r0_34⟩, J_r0, Y_r0⟩ := id H_r0
  have G_r0 : mF T R r0 := ⟨J_r0, Y_r0, T_r0⟩
  obtain ⟨w_r0_4_n1, k0_r0_4_n1⟩ : ∃ x, I r0_4 n1.toNatClampNeg = x := ⟨_, rfl⟩
  have gw_r0_4_n1 := rg w_r0_4_n1
  have ow_r0_4_n1 := IM.dgR hI R_r0_4 k0_r0_4_n1
  obtain ⟨w_r0_1_0, k0_r0_1_0⟩ : ∃ x, I r0_1 0 = x := ⟨_, rfl⟩
  have gw_r0_1_0 := rg w_r0_1_0
  have ow_r0_1_0 := IM.pi hI R_r0_1 k0_r0_1_0
  have hp1 := hp1 r0_4 R_r0_4
  have hp2 := hp2 r0_1 r0_4 r0_5 R_r0_1 R_r0_4 R_r0_5
  try simp only [k0_r0_4_n1, k0_r0_1_0] at hp0
  try simp only [k0_r0_4_n1, k0_r0_1_0] at hp1
  try simp only [k0_r0_4_n1, k0_r0_1_0] at hp2
  have hnn := ncne (x := n1) (y := n4) (by omega) (by omega) (by omega)
  have hn1 := ncz (x := n1) (by omega)
  have hn4 := ncz (x := n4) (by omega)
  refine k_aload_n C rfl rfl rfl ?_
  refine k_iload C rfl rfl rfl ?_
  refine k_aload_n C rfl rfl rfl ?_
  refine g_R C rfl rfl rfl T_r0 rfl R_r0_4 ?_
  refine k_iload_n C rfl rfl rfl ?_
  obtain ⟨T_r0_4, N_r0_4, A_r0_4⟩ := id H_r0_4
  refine a_I C rfl rfl T_r0_4 (by rw [N_r0_4]; exact vpi (by omega) (by omega)) k0_r0_4_n1 ?_
  refine k_iload_n C rfl rfl rfl ?_
  refine z_isub C rfl rfl ⟨by omega, by omega⟩ (fun x1 ex1 => ?_)
  refine k_iload_n C rfl rfl rfl ?_
  refine z_isub C rfl rfl ⟨by omega, by omega⟩ (fun x2 ex2 => ?_)
  refine c_VV C (a_X12_clears hI H_r0 (by omega) (by omega) (by omega) (by omega)) rfl rfl rfl rfl rfl ⟨_, rfl, rfl, T_r0, Nat.le_of_ble_eq_true rfl⟩ rfl rfl (Nat.le_of_ble_eq_true rfl) (Nat.le_of_ble_eq_true rfl) (Nat.le_of_ble_eq_true rfl) ?_
  rintro I4 L5 ⟨p0v3, p1v3, p2v3, p3v3, hI4, S6⟩
  have p0v3 := p0v3 r0_4 R_r0_4
  have p1v3 := p1v3 r0_5 R_r0_5
  have p2v3 := p2v3 r0_4 R_r0_4
  have p3v3 := p3v3 r0_5 R_r0_5
  have F7 : ∀ r : Nat, r ≠ n4.toNatClampNeg → I4 r0_4 r = I r0_4 r := fun r z0 => p2v3 r (by first | exact z0)
  have F8 : ∀ r : Nat, (r < 41 * n4.toNatClampNeg ∨ 41 * n4.toNatClampNeg + 41 ≤ r) → I4 r0_5 r = I r0_5 r := fun r z0 => p3v3 r (by first | exact z0)
  have e9 := (p2v3 n1.toNatClampNeg (by first | decide | exact ncne (by omega) (by omega) (by omega) | exact nckn (by omega) (by omega) | exact (nckn (by omega) (by omega)).symm)).trans k0_r0_4_n1
  have e10 := CM.j S6 R_r0_1 (by decide) k0_r0_1_0
  obtain ⟨x11, e12⟩ : ∃ x, I4 r0_4 n4.toNatClampNeg = x := ⟨_, rfl⟩
  have gx11 := rg x11
  have ox11 := IM.dgR hI4 R_r0_4 e12
  try simp only [k0_r0_4_n1, k0_r0_1_0, e12] at p0v3
  try have q0v3 := congrArg Int32.toInt p0v3
  try simp only [k0_r0_4_n1, k0_r0_1_0, e12] at p1v3
  try have q1v3 := congrArg Int32.toInt p1v3
  have hQ := QN.le (n' := w_r0_4_n1.toInt - n2.toInt - n3.toInt + 1) (QN.az (p := w_r0_1_0.toInt) p1v3 (by omega)) (by omega)
  have hsm : SMR I I4 r0_5 n1.toNatClampNeg := fun k hk => p3v3 _ (by omega)
  refine k_iload_n C rfl rfl rfl ?_
  have J13 : ∀ (nn14 : Nat) (I15 : IT) (L16 : LT) (x17 : Int32), (MN (41 - x17.toInt) nn14) → (IM R r0 I15) → (CM A R r0 [] [5] I4 L5 I15 L16) → (∀ r : Nat, (r < 41 * n4.toNatClampNeg ∨ 41 * n4.toNatClampNeg + 41 ≤ r) → I15 r0_5 r = I4 r0_5 r) → (0 ≤ x17.toInt) → (x17.toInt ≤ 41) → (n3.toInt ≤ x17.toInt) → (QN I15 r0_5 n4.toNatClampNeg (w_r0_4_n1.toInt - n2.toInt - n3.toInt + 1) w_r0_1_0.toInt) → (RVX I15 r0_5 n4.toNatClampNeg w_r0_1_0.toInt (x17.toInt - n3.toInt - 1) (DIF (RI I r0_5 n1.toNatClampNeg) w_r0_4_n1.toInt n2.toNatClampNeg n3.toNatClampNeg)) → (SMR I I15 r0_5 n1.toNatClampNeg) → V 19 [(0, .ref r0), (1, .int n1), (2, .int n2), (3, .int n3), (4, .int n4), (5, .int x17)] [] (T, N, I15, L16, R) 0 0 := by
    intro nn14
    induction nn14 using Nat.strongRecOn with
    | _ nn14 ihJ13 =>
      intro I15 L16 x17 hmnn14 hI21 S20 F22 b18 b19 ff19_0 ff19_1 ff19_2 ff19_3
      have gx17 := rg x17
      have e23 := CM.j S20 R_r0_4 (by decide) e9
      have e24 := CM.j S20 R_r0_1 (by decide) e10
      have e25 := CM.j S20 R_r0_4 (by decide) e12
      refine k_iload C rfl rfl rfl ?_
      refine k_aload_n C rfl rfl rfl ?_
      refine g_R C rfl rfl rfl T_r0 rfl R_r0_4 ?_
      refine k_iload_n C rfl rfl rfl ?_
      refine a_I C rfl rfl T_r0_4 (by rw [N_r0_4]; exact vpi (by omega) (by omega)) e23 ?_
      refine k_iload_n C rfl rfl rfl ?_
      refine z_isub C rfl rfl ⟨by omega, by omega⟩ (fun x26 ex26 => ?_)
      refine b_icmp_gt C (t := 73) rfl rfl rfl (fun c27 => ?_) (fun c27 => ?_)
      · skip
        exact k_vret C rfl rfl (Nat.le_of_ble_eq_true rfl) (Nat.le_of_ble_eq_true rfl) ⟨_, _, rfl, rfl, fun a4 h4 => by cases (R_r0_4.symm.trans h4); first | omega | (simp only [e23, e24, e25, k0_r0_4_n1, k0_r0_1_0, and_true, true_and, or_true, true_or, and_false, false_and, or_false, false_or] <;> omega), fun a1 a4 a5 h1 h4 h5 => by cases (R_r0_1.symm.trans h1); cases (R_r0_4.symm.trans h4); cases (R_r0_5.symm.trans h5); simp only [e25, k0_r0_1_0]; exact QN.le ff19_1 (by omega), fun a1 a4 a5 h1 h4 h5 => by cases (R_r0_1.symm.trans h1); cases (R_r0_4.symm.trans h4); cases (R_r0_5.symm.trans h5); simp only [k0_r0_4_n1, k0_r0_1_0]; exact fun j hj => ff19_2 j (by omega), fun a4 h4 => by cases (R_r0_4.symm.trans h4); exact (fun r z0 => ((congrFun (CM.j0 S20 R_r0_4 (by decide)) r).trans (F7 r z0))), fun a5 h5 => by cases (R_r0_5.symm.trans h5); exact (fun r z0 => ((F22 r z0).trans (F8 r z0))), hI21, (CM.cons S6 (CM.mono S20 (by decide) (by decide)) (by decide) (by decide))⟩
      refine k_aload_n C rfl rfl rfl ?_
      refine k_iload C rfl rfl rfl ?_
      refine k_iload C rfl rfl rfl ?_
      refine k_iload_n C rfl rfl rfl ?_
      refine z_isub C rfl rfl ⟨by omega, by omega⟩ (fun x28 ex28 => ?_)
      refine k_aload_n C rfl rfl rfl ?_
      refine k_aload_n C rfl rfl rfl ?_
      refine k_iload_n C rfl rfl rfl ?_
      refine k_iload C rfl rfl rfl ?_
      refine c_VI C (a_X12_of hI21 H_r0 (by omega) (by omega) (by omega) (by omega)) rfl rfl rfl rfl rfl ⟨_, rfl, rfl, T_r0, Nat.le_of_ble_eq_true rfl⟩ rfl rfl (Nat.le_of_ble_eq_true rfl) (Nat.le_of_ble_eq_true rfl) (Nat.le_of_ble_eq_true rfl) ?_
      rintro x29 _ _ ⟨o0x29, o1x29, p0x29, rfl, rfl⟩
      have p0x29 := p0x29 r0_5 R_r0_5
      have gx29 := rg x29
      try simp only [e23, e24, e25] at p0x29
      try have q0x29 := congrArg Int32.toInt p0x29
      have hO := RI.sm ff19_3 p0x29 (by omega) (by omega)
      refine k_aload_n C rfl rfl rfl ?_
      refine k_aload_n C rfl rfl rfl ?_
      refine g_R C rfl rfl rfl T_r0 rfl R_r0_4 ?_
      refine k_iload_n C rfl rfl rfl ?_
      refine a_I C rfl rfl T_r0_4 (by rw [N_r0_4]; exact vpi (by omega) (by omega)) e23 ?_
      refine k_iload C rfl rfl rfl ?_
      refine k_iload_n C rfl rfl rfl ?_
      refine k_iload_n C rfl rfl rfl ?_
      refine c_VI C (a_X12_differs_x hI21 H_r0 (by omega) (by omega) (by omega) (by omega) (by omega) (by omega) (by omega) (by omega)) rfl rfl rfl rfl rfl ⟨_, rfl, rfl, T_r0, Nat.le_of_ble_eq_true rfl⟩ rfl rfl (Nat.le_of_ble_eq_true rfl) (Nat.le_of_ble_eq_true rfl) (Nat.le_of_ble_eq_true rfl) ?_
      rintro x30 _ _ ⟨o0x30, o1x30, p0x30, rfl, rfl⟩
      have p0x30 := p0x30 r0_1 R_r0_1
      have gx30 := rg x30
      try simp only [e23, e24, e25] at p0x30
      try have q0x30 := congrArg Int32.toInt p0x30
      have hdf := p0x30
      refine c_VI C (a_X12_times hI21 H_r0 (by omega) (by omega) (by omega) (by omega)) rfl rfl rfl rfl rfl ⟨_, rfl, rfl, T_r0, Nat.le_of_ble_eq_true rfl⟩ rfl rfl (Nat.le_of_ble_eq_true rfl) (Nat.le_of_ble_eq_true rfl) (Nat.le_of_ble_eq_true rfl) ?_
      rintro x31 _ _ ⟨o0x31, o1x31, p0x31, p1x31, p2x31, p3x31, rfl, rfl⟩
      have p0x31 := p0x31 r0_1 R_r0_1
      have p2x31 := p2x31 r0_1 R_r0_1
      have p3x31 := p3x31 r0_1 R_r0_1
      have gx31 := rg x31
      try simp only [e23, e24, e25] at p0x31
      try have q0x31 := congrArg Int32.toInt p0x31
      try simp only [e23, e24, e25] at p1x31
      try have q1x31 := congrArg Int32.toInt p1x31
      try simp only [e23, e24, e25] at p2x31
      try have q2x31 := congrArg Int32.toInt p2x31
      try simp only [e23, e24, e25] at p3x31
      try have q3x31 := congrArg Int32.toInt p3x31
      have hT := p3x31
      refine c_VV C (a_X12_put hI21 H_r0 (by omega) (by omega) (by omega) (by omega) (by omega) (by omega)) rfl rfl rfl rfl rfl ⟨_, rfl, rfl, T_r0, Nat.le_of_ble_eq_true rfl⟩ rfl rfl (Nat.le_of_ble_eq_true rfl) (Nat.le_of_ble_eq_true rfl) (Nat.le_of_ble_eq_true rfl) ?_
      rintro I33 L34 ⟨p0v32, p1v32, hI33, S35⟩
      have p0v32 := p0v32 r0_5 R_r0_5
      have p1v32 := p1v32 r0_5 R_r0_5
      have F36 : ∀ r : Nat, (r < 41 * n4.toNatClampNeg ∨ 41 * n4.toNatClampNeg + 41 ≤ r) → I33 r0_5 r = I15 r0_5 r := fun r z0 => p1v32 r (by first | exact z0)
      have e37 := CM.j S35 R_r0_4 (by decide) e23
      have e38 := CM.j S35 R_r0_1 (by decide) e24
      have e39 := CM.j S35 R_r0_4 (by decide) e25
      try simp only [e23, e24, e25] at p0v32
      try have q0v32 := congrArg Int32.toInt p0v32
      have hP := p0v32
      refine z_iinc C (z := 1) (lw := fun x40 => [(5, .int x40), (0, .ref r0), (1, .int n1), (2, .int n2), (3, .int n3), (4, .int n4)]) rfl rfl rfl (Nat.le_of_ble_eq_true rfl) rfl ⟨by omega, by omega⟩ (fun _ => rfl) (fun x40 ex40 => ?_)
      show V 70 [(5, .int x40), (0, .ref r0), (1, .int n1), (2, .int n2), (3, .int n3), (4, .int n4)] _ _ _ _
      refine k_goto C (pc2 := 19) rfl rfl ?_
      refine k_sub S [(0, .ref r0), (1, .int n1), (2, .int n2), (3, .int n3), (4, .int n4), (5, .int x40)] (List.forall_mem_cons.mpr ⟨List.mem_of_getElem? (i := 1) rfl, List.forall_mem_cons.mpr ⟨List.mem_of_getElem? (i := 2) rfl, List.forall_mem_cons.mpr ⟨List.mem_of_getElem? (i := 3) rfl, List.forall_mem_cons.mpr ⟨List.mem_of_getElem? (i := 4) rfl, List.forall_mem_cons.mpr ⟨List.mem_of_getElem? (i := 5) rfl, List.forall_mem_cons.mpr ⟨List.mem_of_getElem? (i := 0) rfl, fun _ h => nomatch h⟩⟩⟩⟩⟩⟩) ?_
      exact ihJ13 _ (MN.lt hmnn14 (by omega) (by omega)) I33 L34 x40 rfl hI33 (CM.cons S20 (CM.mono S35 (by decide) (by decide)) (by decide) (by decide)) (fun r z0 => ((F36 r z0).trans (F22 r z0))) (by omega) (by omega) (by omega) (by exact QN.put ff19_1 hP (by omega) (by omega)) (by exact RVX.s ff19_2 hP (by rw [← DIF.r (k := x17) (b := n3) (n2 := 0) (by omega) (by omega) (by omega)]; exact PRE.m (hp2.v.at hO (by omega) (by omega)) hdf hT (by omega)) (by omega) (by omega) (by omega)) (by exact SMR.put ff19_3 hP (nclt (by omega) (by omega)) hnn)
  refine k_istore C (lw := [(5, .int n3), (0, .ref r0), (1, .int n1), (2, .int n2), (3, .int n3), (4, .int n4)]) rfl rfl (Nat.le_of_ble_eq_true rfl) rfl ?_
  refine k_sub S [(0, .ref r0), (1, .int n1), (2, .int n2), (3, .int n3), (4, .int n4), (5, .int n3)] (List.forall_mem_cons.mpr ⟨List.mem_of_getElem? (i := 1) rfl, List.forall_mem_cons.mpr ⟨List.mem_of_getElem? (i := 2) rfl, List.forall_mem_cons.mpr ⟨List.mem_of_getElem? (i := 3) rfl, List.forall_mem_cons.mpr ⟨List.mem_of_getElem? (i := 4) rfl, List.forall_mem_cons.mpr ⟨List.mem_of_getElem? (i := 5) rfl, List.forall_mem_cons.mpr ⟨List.mem_of_getElem? (i := 0) rfl, fun _ h => nomatch h⟩⟩⟩⟩⟩⟩) ?_
  exact J13 _ I4 L5 n3 rfl hI4 CM.rf (fun r z0 => rfl) (by omega) (by omega) (by omega) (by exact hQ) (by exact RVX.z (by omega)) (by exact hsm)

theorem a_X12_multiplies_x {d : Nat} {T N : Nat → Nat} {I : IT} {L : LT} {R : RT} {A : Nat → Prop} {r0 : Nat} {n1 n2 n3 : Int32} (hI : IM R r0 I) (H_r0 : (h_MD T N R A) r0) (b0_n1 : 0 ≤ n1.toInt) (b1_n1 : n1.toInt ≤ 47) (b0_n2 : 0 ≤ n2.toInt) (b1_n2 : n2.toInt ≤ 47) (b0_n3 : 0 ≤ n3.toInt) (b1_n3 : n3.toInt ≤ 47) (hp0 : n1.toInt ≠ n3.toInt) (hp1 : n2.toInt ≠ n3.toInt) (hp2 : ∀ a4, R r0 4 = some a4 → (I a4 n1.toNatClampNeg).toInt + (I a4 n2.toNatClampNeg).toInt ≤ 40) (hp3 : ∀ a1 a4 a5, R r0 1 = some a1 → R r0 4 = some a4 → R r0 5 = some a5 → RCN I a5 n1.toNatClampNeg (I a1 0).toInt (I a4 n1.toNatClampNeg).toInt) (hp4 : ∀ a1 a4 a5, R r0 1 = some a1 → R r0 4 = some a4 → R r0 5 = some a5 → RCN I a5 n2.toNatClampNeg (I a1 0).toInt (I a4 n2.toNatClampNeg).toInt) : Ex (d + 3) 205 [.ref r0, .int n1, .int n2, .int n3] (T, N, I, L, R) 0 0 (pV T N R (fun I9 L9 => (∀ a4, R r0 4 = some a4 → (I9 a4 n3.toNatClampNeg).toInt = (I a4 n1.toNatClampNeg).toInt + (I a4 n2.toNatClampNeg).toInt) ∧ (∀ a1 a4 a5, R r0 1 = some a1 → R r0 4 = some a4 → R r0 5 = some a5 → RVX I9 a5 n3.toNatClampNeg (I a1 0).toInt ((I a4 n1.toNatClampNeg).toInt + (I a4 n2.toNatClampNeg).toInt) (CVS (RI I a5 n1.toNatClampNeg) (RI I a5 n2.toNatClampNeg) (I a4 n2.toNatClampNeg).toInt ((I a4 n1.toNatClampNeg).toInt + 1).toNat)) ∧ (∀ a4, R r0 4 = some a4 → ∀ r : Nat, r ≠ n3.toNatClampNeg → I9 a4 r = I a4 r) ∧ (∀ a5, R r0 5 = some a5 → ∀ r : Nat, (r < 41 * n3.toNatClampNeg ∨ 41 * n3.toNatClampNeg + 41 ≤ r) → I9 a5 r = I a5 r) ∧ (IM R r0 I9 ∧ CM A R r0 [] [4, 5] I L I9 L9))) := by
  refine ⟨_, rfl, Nat.le_of_ble_eq_true rfl, fun V C S => ?_⟩
  show V 0 [(0, .ref r0), (1, .int n1), (2, .int n2), (3, .int n3)] [] (T, N, I, L, R) 0 0
  have gn1 := rg n1
  have gn2 := rg n2
  have gn3 := rg n3
  obtain ⟨T_r0, A_r0, ⟨r0_1, R_r0_1, H_r0_1⟩, ⟨r0_2, R_r0_2, H_r0_2⟩, ⟨r0_4, R_r0_4, H_r0_4⟩, ⟨r0_5, R_r0_5, H_r0_5⟩, ⟨r0_10, R_r0_10, H_r0_10⟩, ⟨r0_18, R_r0_18, H_r0_18⟩, ⟨r0_20, R_r0_20, H_r0_20⟩, ⟨r0_21, R_r0_21, H_r0_21⟩, ⟨r0_22, R_r0_22, H_r0_22⟩, ⟨r0_23, R_r0_23, H_r0_23⟩, ⟨r0_25, R_r0_25, H_r0_25⟩, ⟨r0_26, R_r0_26, H_r0_26⟩, ⟨r0_27, R_r0_27, H_r0_27⟩, ⟨r0_28, R_r0_28, H_r0_28⟩, ⟨r0_34, R_r0_34, H_r0_34⟩, J_r0, Y_r0⟩ := id H_r0
  have G_r0 : mF T R r0 := ⟨J_r0, Y_r0, T_r0⟩
  obtain ⟨w_r0_4_n1, k0_r0_4_n1⟩ : ∃ x, I r0_4 n1.toNatClampNeg = x := ⟨_, rfl⟩
  have gw_r0_4_n1 := rg w_r0_4_n1
  have ow_r0_4_n1 := IM.dgR hI R_r0_4 k0_r0_4_n1
  obtain ⟨w_r0_4_n2, k0_r0_4_n2⟩ : ∃ x, I r0_4 n2.toNatClampNeg = x := ⟨_, rfl⟩
  have gw_r0_4_n2 := rg w_r0_4_n2
  have ow_r0_4_n2 := IM.dgR hI R_r0_4 k0_r0_4_n2
  obtain ⟨w_r0_1_0, k0_r0_1_0⟩ : ∃ x, I r0_1 0 = x := ⟨_, rfl⟩
  have gw_r0_1_0 := rg w_r0_1_0
  have ow_r0_1_0 := IM.pi hI R_r0_1 k0_r0_1_0
  have hp2 := hp2 r0_4 R_r0_4
  have hp3 := hp3 r0_1 r0_4 r0_5 R_r0_1 R_r0_4 R_r0_5
  have hp4 := hp4 r0_1 r0_4 r0_5 R_r0_1 R_r0_4 R_r0_5
  try simp only [k0_r0_4_n1, k0_r0_4_n2, k0_r0_1_0] at hp0
  try simp only [k0_r0_4_n1, k0_r0_4_n2, k0_r0_1_0] at hp1
  try simp only [k0_r0_4_n1, k0_r0_4_n2, k0_r0_1_0] at hp2
  try simp only [k0_r0_4_n1, k0_r0_4_n2, k0_r0_1_0] at hp3
  try simp only [k0_r0_4_n1, k0_r0_4_n2, k0_r0_1_0] at hp4
  have hnn1 := ncne (x := n1) (y := n3) (by omega) (by omega) (by omega)
  have hnn2 := ncne (x := n2) (y := n3) (by omega) (by omega) (by omega)
  have hn1 := ncz (x := n1) (by omega)
  have hn2 := ncz (x := n2) (by omega)
  have hn3 := ncz (x := n3) (by omega)
  refine k_aload_n C rfl rfl rfl ?_
  refine k_iload_n C rfl rfl rfl ?_
  refine k_aload_n C rfl rfl rfl ?_
  refine g_R C rfl rfl rfl T_r0 rfl R_r0_4 ?_
  refine k_iload_n C rfl rfl rfl ?_
  obtain ⟨T_r0_4, N_r0_4, A_r0_4⟩ := id H_r0_4
  refine a_I C rfl rfl T_r0_4 (by rw [N_r0_4]; exact vpi (by omega) (by omega)) k0_r0_4_n1 ?_
  refine k_aload_n C rfl rfl rfl ?_
  refine g_R C rfl rfl rfl T_r0 rfl R_r0_4 ?_
  refine k_iload_n C rfl rfl rfl ?_
  refine a_I C rfl rfl T_r0_4 (by rw [N_r0_4]; exact vpi (by omega) (by omega)) k0_r0_4_n2 ?_
  refine z_iadd C rfl rfl ⟨by omega, by omega⟩ (fun x1 ex1 => ?_)
  refine c_VV C (a_X12_clears hI H_r0 (by omega) (by omega) (by omega) (by omega)) rfl rfl rfl rfl rfl ⟨_, rfl, rfl, T_r0, Nat.le_of_ble_eq_true rfl⟩ rfl rfl (Nat.le_of_ble_eq_true rfl) (Nat.le_of_ble_eq_true rfl) (Nat.le_of_ble_eq_true rfl) ?_
  rintro I3 L4 ⟨p0v2, p1v2, p2v2, p3v2, hI3, S5⟩
  have p0v2 := p0v2 r0_4 R_r0_4
  have p1v2 := p1v2 r0_5 R_r0_5
  have p2v2 := p2v2 r0_4 R_r0_4
  have p3v2 := p3v2 r0_5 R_r0_5
  have F6 : ∀ r : Nat, r ≠ n3.toNatClampNeg → I3 r0_4 r = I r0_4 r := fun r z0 => p2v2 r (by first | exact z0)
  have F7 : ∀ r : Nat, (r < 41 * n3.toNatClampNeg ∨ 41 * n3.toNatClampNeg + 41 ≤ r) → I3 r0_5 r = I r0_5 r := fun r z0 => p3v2 r (by first | exact z0)
  have e8 := (p2v2 n1.toNatClampNeg (by first | decide | exact ncne (by omega) (by omega) (by omega) | exact nckn (by omega) (by omega) | exact (nckn (by omega) (by omega)).symm)).trans k0_r0_4_n1
  have e9 := (p2v2 n2.toNatClampNeg (by first | decide | exact ncne (by omega) (by omega) (by omega) | exact nckn (by omega) (by omega) | exact (nckn (by omega) (by omega)).symm)).trans k0_r0_4_n2
  have e10 := CM.j S5 R_r0_1 (by decide) k0_r0_1_0
  obtain ⟨x11, e12⟩ : ∃ x, I3 r0_4 n3.toNatClampNeg = x := ⟨_, rfl⟩
  have gx11 := rg x11
  have ox11 := IM.dgR hI3 R_r0_4 e12
  try simp only [k0_r0_4_n1, k0_r0_4_n2, k0_r0_1_0, e12] at p0v2
  try have q0v2 := congrArg Int32.toInt p0v2
  try simp only [k0_r0_4_n1, k0_r0_4_n2, k0_r0_1_0, e12] at p1v2
  try have q1v2 := congrArg Int32.toInt p1v2
  have hz15 : AZ I3 r0_5 (41 * n3.toNatClampNeg) ((w_r0_4_n1.toInt + w_r0_4_n2.toInt) + 1) := fun k hk => p1v2 k (by omega)
  have hs1 : SMR I I3 r0_5 n1.toNatClampNeg := fun k hk => p3v2 _ (by omega)
  have hs2 : SMR I I3 r0_5 n2.toNatClampNeg := fun k hk => p3v2 _ (by omega)
  have hd15 := p0v2
  refine z_iconst C (z := 0) rfl rfl rfl (fun x13 ex13 => ?_)
  have J14 : ∀ (nn15 : Nat) (I16 : IT) (L17 : LT) (x18 : Int32), (MN (41 - x18.toInt) nn15) → (IM R r0 I16) → (CM A R r0 [] [5] I3 L4 I16 L17) → (∀ r : Nat, (r < 41 * n3.toNatClampNeg ∨ 41 * n3.toNatClampNeg + 41 ≤ r) → I16 r0_5 r = I3 r0_5 r) → (0 ≤ x18.toInt) → (x18.toInt ≤ 41) → (RVX I16 r0_5 n3.toNatClampNeg w_r0_1_0.toInt (w_r0_4_n1.toInt + w_r0_4_n2.toInt) (CVS (RI I r0_5 n1.toNatClampNeg) (RI I r0_5 n2.toNatClampNeg) w_r0_4_n2.toInt x18.toInt.toNat)) → (SMR I I16 r0_5 n1.toNatClampNeg) → (SMR I I16 r0_5 n2.toNatClampNeg) → (x18.toInt ≤ w_r0_4_n1.toInt + 1) → V 21 [(0, .ref r0), (1, .int n1), (2, .int n2), (3, .int n3), (4, .int x18)] [] (T, N, I16, L17, R) 0 0 := by
    intro nn15
    induction nn15 using Nat.strongRecOn with
    | _ nn15 ihJ14 =>
      intro I16 L17 x18 hmnn15 hI22 S21 F23 b19 b20 ff21_0 ff21_1 ff21_2 ff21_3
      have gx18 := rg x18
      have e24 := CM.j S21 R_r0_4 (by decide) e8
      have e25 := CM.j S21 R_r0_4 (by decide) e9
      have e26 := CM.j S21 R_r0_1 (by decide) e10
      have e27 := CM.j S21 R_r0_4 (by decide) e12
      refine k_iload C rfl rfl rfl ?_
      refine k_aload_n C rfl rfl rfl ?_
      refine g_R C rfl rfl rfl T_r0 rfl R_r0_4 ?_
      refine k_iload_n C rfl rfl rfl ?_
      refine a_I C rfl rfl T_r0_4 (by rw [N_r0_4]; exact vpi (by omega) (by omega)) e24 ?_
      refine b_icmp_gt C (t := 100) rfl rfl rfl (fun c28 => ?_) (fun c28 => ?_)
      · skip
        exact k_vret C rfl rfl (Nat.le_of_ble_eq_true rfl) (Nat.le_of_ble_eq_true rfl) ⟨_, _, rfl, rfl, fun a4 h4 => by cases (R_r0_4.symm.trans h4); rw [e27]; simp only [k0_r0_4_n1, k0_r0_4_n2]; omega, fun a1 a4 a5 h1 h4 h5 => by cases (R_r0_1.symm.trans h1); cases (R_r0_4.symm.trans h4); cases (R_r0_5.symm.trans h5); simp only [k0_r0_4_n1, k0_r0_4_n2, k0_r0_1_0]; rw [show w_r0_4_n1.toInt + 1 = x18.toInt from by omega]; exact ff21_0, fun a4 h4 => by cases (R_r0_4.symm.trans h4); exact (fun r z0 => ((congrFun (CM.j0 S21 R_r0_4 (by decide)) r).trans (F6 r z0))), fun a5 h5 => by cases (R_r0_5.symm.trans h5); exact (fun r z0 => ((F23 r z0).trans (F7 r z0))), hI22, (CM.cons S5 (CM.mono S21 (by decide) (by decide)) (by decide) (by decide))⟩
      refine z_iconst C (z := 0) rfl rfl rfl (fun x29 ex29 => ?_)
      have J30 : ∀ (nn31 : Nat) (I32 : IT) (L33 : LT) (x34 : Int32), (MN (41 - x34.toInt) nn31) → (IM R r0 I32) → (CM A R r0 [] [5] I16 L17 I32 L33) → (∀ r : Nat, (r < 41 * n3.toNatClampNeg ∨ 41 * n3.toNatClampNeg + 41 ≤ r) → I32 r0_5 r = I16 r0_5 r) → (0 ≤ x34.toInt) → (x34.toInt ≤ 41) → (RVX I32 r0_5 n3.toNatClampNeg w_r0_1_0.toInt (w_r0_4_n1.toInt + w_r0_4_n2.toInt) (MPJ (RI I r0_5 n1.toNatClampNeg) (RI I r0_5 n2.toNatClampNeg) w_r0_4_n2.toInt x18.toInt x34.toInt)) → (SMR I I32 r0_5 n1.toNatClampNeg) → (SMR I I32 r0_5 n2.toNatClampNeg) → (x34.toInt ≤ w_r0_4_n2.toInt + 1) → V 35 [(0, .ref r0), (1, .int n1), (2, .int n2), (3, .int n3), (4, .int x18), (5, .int x34)] [] (T, N, I32, L33, R) 0 0 := by
        intro nn31
        induction nn31 using Nat.strongRecOn with
        | _ nn31 ihJ30 =>
          intro I32 L33 x34 hmnn31 hI38 S37 F39 b35 b36 ff35_0 ff35_1 ff35_2 ff35_3
          have gx34 := rg x34
          have e40 := CM.j S37 R_r0_4 (by decide) e24
          have e41 := CM.j S37 R_r0_4 (by decide) e25
          have e42 := CM.j S37 R_r0_1 (by decide) e26
          have e43 := CM.j S37 R_r0_4 (by decide) e27
          refine k_iload C rfl rfl rfl ?_
          refine k_aload_n C rfl rfl rfl ?_
          refine g_R C rfl rfl rfl T_r0 rfl R_r0_4 ?_
          refine k_iload_n C rfl rfl rfl ?_
          refine a_I C rfl rfl T_r0_4 (by rw [N_r0_4]; exact vpi (by omega) (by omega)) e41 ?_
          refine b_icmp_gt C (t := 94) rfl rfl rfl (fun c44 => ?_) (fun c44 => ?_)
          · skip
            refine z_iinc C (z := 1) (lw := fun x45 => [(4, .int x45), (0, .ref r0), (1, .int n1), (2, .int n2), (3, .int n3), (5, .int x34)]) rfl rfl rfl (Nat.le_of_ble_eq_true rfl) rfl ⟨by omega, by omega⟩ (fun _ => rfl) (fun x45 ex45 => ?_)
            show V 97 [(4, .int x45), (0, .ref r0), (1, .int n1), (2, .int n2), (3, .int n3), (5, .int x34)] _ _ _ _
            refine k_goto C (pc2 := 21) rfl rfl ?_
            refine k_sub S [(0, .ref r0), (1, .int n1), (2, .int n2), (3, .int n3), (4, .int x45)] (List.forall_mem_cons.mpr ⟨List.mem_of_getElem? (i := 1) rfl, List.forall_mem_cons.mpr ⟨List.mem_of_getElem? (i := 2) rfl, List.forall_mem_cons.mpr ⟨List.mem_of_getElem? (i := 3) rfl, List.forall_mem_cons.mpr ⟨List.mem_of_getElem? (i := 4) rfl, List.forall_mem_cons.mpr ⟨List.mem_of_getElem? (i := 0) rfl, fun _ h => nomatch h⟩⟩⟩⟩⟩) ?_
            exact ihJ14 _ (MN.lt hmnn15 (by omega) (by omega)) I32 L33 x45 rfl hI38 (CM.cons S21 (CM.mono S37 (by decide) (by decide)) (by decide) (by decide)) (fun r z0 => ((F39 r z0).trans (F23 r z0))) (by omega) (by omega) (by exact MPJ.e ff35_0 (by omega) (by omega) (by omega)) (by exact ff35_1) (by exact ff35_2) (by omega)
          refine k_aload_n C rfl rfl rfl ?_
          refine k_iload_n C rfl rfl rfl ?_
          refine k_iload C rfl rfl rfl ?_
          refine k_iload C rfl rfl rfl ?_
          refine z_iadd C rfl rfl ⟨by omega, by omega⟩ (fun x46 ex46 => ?_)
          refine k_aload_n C rfl rfl rfl ?_
          refine k_aload_n C rfl rfl rfl ?_
          refine k_iload_n C rfl rfl rfl ?_
          refine k_iload C rfl rfl rfl ?_
          refine k_iload C rfl rfl rfl ?_
          refine z_iadd C rfl rfl ⟨by omega, by omega⟩ (fun x47 ex47 => ?_)
          refine c_VI C (a_X12_of hI38 H_r0 (by omega) (by omega) (by omega) (by omega)) rfl rfl rfl rfl rfl ⟨_, rfl, rfl, T_r0, Nat.le_of_ble_eq_true rfl⟩ rfl rfl (Nat.le_of_ble_eq_true rfl) (Nat.le_of_ble_eq_true rfl) (Nat.le_of_ble_eq_true rfl) ?_
          rintro x48 _ _ ⟨o0x48, o1x48, p0x48, rfl, rfl⟩
          have p0x48 := p0x48 r0_5 R_r0_5
          have gx48 := rg x48
          try simp only [e40, e41, e42, e43] at p0x48
          try have q0x48 := congrArg Int32.toInt p0x48
          have hA := p0x48
          refine k_aload_n C rfl rfl rfl ?_
          refine k_aload_n C rfl rfl rfl ?_
          refine k_iload_n C rfl rfl rfl ?_
          refine k_iload C rfl rfl rfl ?_
          refine c_VI C (a_X12_of hI38 H_r0 (by omega) (by omega) (by omega) (by omega)) rfl rfl rfl rfl rfl ⟨_, rfl, rfl, T_r0, Nat.le_of_ble_eq_true rfl⟩ rfl rfl (Nat.le_of_ble_eq_true rfl) (Nat.le_of_ble_eq_true rfl) (Nat.le_of_ble_eq_true rfl) ?_
          rintro x49 _ _ ⟨o0x49, o1x49, p0x49, rfl, rfl⟩
          have p0x49 := p0x49 r0_5 R_r0_5
          have gx49 := rg x49
          try simp only [e40, e41, e42, e43] at p0x49
          try have q0x49 := congrArg Int32.toInt p0x49
          have hB := RI.sm ff35_1 p0x49 (by omega) (by omega)
          refine k_aload_n C rfl rfl rfl ?_
          refine k_iload_n C rfl rfl rfl ?_
          refine k_iload C rfl rfl rfl ?_
          refine c_VI C (a_X12_of hI38 H_r0 (by omega) (by omega) (by omega) (by omega)) rfl rfl rfl rfl rfl ⟨_, rfl, rfl, T_r0, Nat.le_of_ble_eq_true rfl⟩ rfl rfl (Nat.le_of_ble_eq_true rfl) (Nat.le_of_ble_eq_true rfl) (Nat.le_of_ble_eq_true rfl) ?_
          rintro x50 _ _ ⟨o0x50, o1x50, p0x50, rfl, rfl⟩
          have p0x50 := p0x50 r0_5 R_r0_5
          have gx50 := rg x50
          try simp only [e40, e41, e42, e43] at p0x50
          try have q0x50 := congrArg Int32.toInt p0x50
          have hC := RI.sm ff35_2 p0x50 (by omega) (by omega)
          refine c_VI C (a_X12_times hI38 H_r0 (by omega) (by omega) (by omega) (by omega)) rfl rfl rfl rfl rfl ⟨_, rfl, rfl, T_r0, Nat.le_of_ble_eq_true rfl⟩ rfl rfl (Nat.le_of_ble_eq_true rfl) (Nat.le_of_ble_eq_true rfl) (Nat.le_of_ble_eq_true rfl) ?_
          rintro x51 _ _ ⟨o0x51, o1x51, p0x51, p1x51, p2x51, p3x51, rfl, rfl⟩
          have p0x51 := p0x51 r0_1 R_r0_1
          have p2x51 := p2x51 r0_1 R_r0_1
          have p3x51 := p3x51 r0_1 R_r0_1
          have gx51 := rg x51
          try simp only [e40, e41, e42, e43] at p0x51
          try have q0x51 := congrArg Int32.toInt p0x51
          try simp only [e40, e41, e42, e43] at p1x51
          try have q1x51 := congrArg Int32.toInt p1x51
          try simp only [e40, e41, e42, e43] at p2x51
          try have q2x51 := congrArg Int32.toInt p2x51
          try simp only [e40, e41, e42, e43] at p3x51
          try have q3x51 := congrArg Int32.toInt p3x51
          have hT := p3x51
          refine c_VI C (a_X12_plus_e hI38 H_r0 (by omega) (by omega) (by omega) (by omega)) rfl rfl rfl rfl rfl ⟨_, rfl, rfl, T_r0, Nat.le_of_ble_eq_true rfl⟩ rfl rfl (Nat.le_of_ble_eq_true rfl) (Nat.le_of_ble_eq_true rfl) (Nat.le_of_ble_eq_true rfl) ?_
          rintro x52 _ _ ⟨o0x52, o1x52, p0x52, p1x52, p2x52, p3x52, rfl, rfl⟩
          have p0x52 := p0x52 r0_1 R_r0_1
          have p2x52 := p2x52 r0_1 R_r0_1
          have p3x52 := p3x52 r0_1 R_r0_1
          have gx52 := rg x52
          try simp only [e40, e41, e42, e43] at p0x52
          try have q0x52 := congrArg Int32.toInt p0x52
          try simp only [e40, e41, e42, e43] at p1x52
          try have q1x52 := congrArg Int32.toInt p1x52
          try simp only [e40, e41, e42, e43] at p2x52
          try have q2x52 := congrArg Int32.toInt p2x52
          try simp only [e40, e41, e42, e43] at p3x52
          try have q3x52 := congrArg Int32.toInt p3x52
          have hS := p3x52
          refine c_VV C (a_X12_put hI38 H_r0 (by omega) (by omega) (by omega) (by omega) (by omega) (by omega)) rfl rfl rfl rfl rfl ⟨_, rfl, rfl, T_r0, Nat.le_of_ble_eq_true rfl⟩ rfl rfl (Nat.le_of_ble_eq_true rfl) (Nat.le_of_ble_eq_true rfl) (Nat.le_of_ble_eq_true rfl) ?_
          rintro I54 L55 ⟨p0v53, p1v53, hI54, S56⟩
          have p0v53 := p0v53 r0_5 R_r0_5
          have p1v53 := p1v53 r0_5 R_r0_5
          have F57 : ∀ r : Nat, (r < 41 * n3.toNatClampNeg ∨ 41 * n3.toNatClampNeg + 41 ≤ r) → I54 r0_5 r = I32 r0_5 r := fun r z0 => p1v53 r (by first | exact z0)
          have e58 := CM.j S56 R_r0_4 (by decide) e40
          have e59 := CM.j S56 R_r0_4 (by decide) e41
          have e60 := CM.j S56 R_r0_1 (by decide) e42
          have e61 := CM.j S56 R_r0_4 (by decide) e43
          try simp only [e40, e41, e42, e43] at p0v53
          try have q0v53 := congrArg Int32.toInt p0v53
          have hP := p0v53
          refine z_iinc C (z := 1) (lw := fun x62 => [(5, .int x62), (0, .ref r0), (1, .int n1), (2, .int n2), (3, .int n3), (4, .int x18)]) rfl rfl rfl (Nat.le_of_ble_eq_true rfl) rfl ⟨by omega, by omega⟩ (fun _ => rfl) (fun x62 ex62 => ?_)
          show V 91 [(5, .int x62), (0, .ref r0), (1, .int n1), (2, .int n2), (3, .int n3), (4, .int x18)] _ _ _ _
          refine k_goto C (pc2 := 35) rfl rfl ?_
          refine k_sub S [(0, .ref r0), (1, .int n1), (2, .int n2), (3, .int n3), (4, .int x18), (5, .int x62)] (List.forall_mem_cons.mpr ⟨List.mem_of_getElem? (i := 1) rfl, List.forall_mem_cons.mpr ⟨List.mem_of_getElem? (i := 2) rfl, List.forall_mem_cons.mpr ⟨List.mem_of_getElem? (i := 3) rfl, List.forall_mem_cons.mpr ⟨List.mem_of_getElem? (i := 4) rfl, List.forall_mem_cons.mpr ⟨List.mem_of_getElem? (i := 5) rfl, List.forall_mem_cons.mpr ⟨List.mem_of_getElem? (i := 0) rfl, fun _ h => nomatch h⟩⟩⟩⟩⟩⟩) ?_
          exact ihJ30 _ (MN.lt hmnn31 (by omega) (by omega)) I54 L55 x62 rfl hI54 (CM.cons S37 (CM.mono S56 (by decide) (by decide)) (by decide) (by decide)) (fun r z0 => ((F57 r z0).trans (F39 r z0))) (by omega) (by omega) (by exact MPJ.s ff35_0 hA (hp3.v.at hB (by omega) (by omega)) (hp4.v.at hC (by omega) (by omega)) hT hS hP (by omega) (by omega) (by omega) (by omega) (by omega) (by omega) (by omega)) (by exact SMR.put ff35_1 hP (nclt (by omega) (by omega)) hnn1) (by exact SMR.put ff35_2 hP (nclt (by omega) (by omega)) hnn2) (by omega)
      refine k_istore C (lw := [(5, .int x29), (0, .ref r0), (1, .int n1), (2, .int n2), (3, .int n3), (4, .int x18)]) rfl rfl (Nat.le_of_ble_eq_true rfl) rfl ?_
      refine k_sub S [(0, .ref r0), (1, .int n1), (2, .int n2), (3, .int n3), (4, .int x18), (5, .int x29)] (List.forall_mem_cons.mpr ⟨List.mem_of_getElem? (i := 1) rfl, List.forall_mem_cons.mpr ⟨List.mem_of_getElem? (i := 2) rfl, List.forall_mem_cons.mpr ⟨List.mem_of_getElem? (i := 3) rfl, List.forall_mem_cons.mpr ⟨List.mem_of_getElem? (i := 4) rfl, List.forall_mem_cons.mpr ⟨List.mem_of_getElem? (i := 5) rfl, List.forall_mem_cons.mpr ⟨List.mem_of_getElem? (i := 0) rfl, fun _ h => nomatch h⟩⟩⟩⟩⟩⟩) ?_
      exact J30 _ I16 L17 x29 rfl hI22 CM.rf (fun r z0 => rfl) (by omega) (by omega) (by exact MPJ.z ff21_0 (by omega)) (by exact ff21_1) (by exact ff21_2) (by omega)
  refine k_istore C (lw := [(4, .int x13), (0, .ref r0), (1, .int n1), (2, .int n2), (3, .int n3)]) rfl rfl (Nat.le_of_ble_eq_true rfl) rfl ?_
  refine k_sub S [(0, .ref r0), (1, .int n1), (2, .int n2), (3, .int n3), (4, .int x13)] (List.forall_mem_cons.mpr ⟨List.mem_of_getElem? (i := 1) rfl, List.forall_mem_cons.mpr ⟨List.mem_of_getElem? (i := 2) rfl, List.forall_mem_cons.mpr ⟨List.mem_of_getElem? (i := 3) rfl, List.forall_mem_cons.mpr ⟨List.mem_of_getElem? (i := 4) rfl, List.forall_mem_cons.mpr ⟨List.mem_of_getElem? (i := 0) rfl, fun _ h => nomatch h⟩⟩⟩⟩⟩) ?_
  exact J14 _ I3 L4 x13 rfl hI3 CM.rf (fun r z0 => rfl) (by omega) (by omega) (by exact MPX.z hz15 (by omega) (by omega)) (by exact hs1) (by exact hs2) (by omega)

set_option maxHeartbeats 4000000 in
theorem a_X12_overlaps_x {d : Nat} {T N : Nat → Nat} {I : IT} {L : LT} {R : RT} {A : Nat → Prop} {r0 : Nat} {n1 n2 n3 n4 : Int32} (hI : IM R r0 I) (H_r0 : (h_MD T N R A) r0) (b0_n1 : 0 ≤ n1.toInt) (b1_n1 : n1.toInt ≤ 41) (b0_n2 : 0 ≤ n2.toInt) (b1_n2 : n2.toInt ≤ 41) (b0_n3 : 0 ≤ n3.toInt) (b1_n3 : n3.toInt ≤ 8) (b0_n4 : 42 ≤ n4.toInt) (b1_n4 : n4.toInt ≤ 43) (hp0 : ∀ a4, R r0 4 = some a4 → n3.toInt ≤ (I a4 n1.toNatClampNeg).toInt) (hp1 : ∀ a4, R r0 4 = some a4 → n3.toInt ≤ (I a4 n2.toNatClampNeg).toInt) (hp2 : ∀ a4, R r0 4 = some a4 → (I a4 n1.toNatClampNeg).toInt + (I a4 n2.toNatClampNeg).toInt - 2 * n3.toInt ≤ 40) (hp3 : ∀ a1 a4 a5, R r0 1 = some a1 → R r0 4 = some a4 → R r0 5 = some a5 → RCN I a5 n1.toNatClampNeg (I a1 0).toInt (I a4 n1.toNatClampNeg).toInt) (hp4 : ∀ a1 a4 a5, R r0 1 = some a1 → R r0 4 = some a4 → R r0 5 = some a5 → RCN I a5 n2.toNatClampNeg (I a1 0).toInt (I a4 n2.toNatClampNeg).toInt) : Ex (d + 6) 209 [.ref r0, .int n1, .int n2, .int n3, .int n4] (T, N, I, L, R) 0 0 (pV T N R (fun I9 L9 => (∀ a4, R r0 4 = some a4 → (I9 a4 n4.toNatClampNeg).toInt = (I a4 n1.toNatClampNeg).toInt + (I a4 n2.toNatClampNeg).toInt - 2 * n3.toInt) ∧ (∀ a1 a4 a5, R r0 1 = some a1 → R r0 4 = some a4 → R r0 5 = some a5 → RVX I9 a5 n4.toNatClampNeg (I a1 0).toInt ((I a4 n1.toNatClampNeg).toInt + (I a4 n2.toNatClampNeg).toInt - 2 * n3.toInt) (OVS (RI I a5 n1.toNatClampNeg) (RI I a5 n2.toNatClampNeg) (I a4 n1.toNatClampNeg).toInt (I a4 n2.toNatClampNeg).toInt n3.toInt (n3.toNatClampNeg + 1))) ∧ (∀ a4, R r0 4 = some a4 → ∀ r : Nat, r ≠ n4.toNatClampNeg → r ≠ 45 → r ≠ 46 → r ≠ 47 → I9 a4 r = I a4 r) ∧ (∀ a5, R r0 5 = some a5 → ∀ r : Nat, (r < 41 * n4.toNatClampNeg ∨ 41 * n4.toNatClampNeg + 41 ≤ r) → (r < 41 * 45 ∨ 41 * 45 + 41 ≤ r) → (r < 41 * 46 ∨ 41 * 46 + 41 ≤ r) → (r < 41 * 47 ∨ 41 * 47 + 41 ≤ r) → I9 a5 r = I a5 r) ∧ (IM R r0 I9 ∧ CM A R r0 [] [4, 5] I L I9 L9))) := by
  refine ⟨_, rfl, Nat.le_of_ble_eq_true rfl, fun V C S => ?_⟩
  show V 0 [(0, .ref r0), (1, .int n1), (2, .int n2), (3, .int n3), (4, .int n4)] [] (T, N, I, L, R) 0 0
  have gn1 := rg n1
  have gn2 := rg n2
  have gn3 := rg n3
  have gn4 := rg n4
  obtain ⟨T_r0, A_r0, ⟨r0_1, R_r0_1, H_r0_1⟩, ⟨r0_2, R_r0_2, H_r0_2⟩, ⟨r0_4, R_r0_4, H_r0_4⟩, ⟨r0_5, R_r0_5, H_r0_5⟩, ⟨r0_10, R_r0_10, H_r0_10⟩, ⟨r0_18, R_r0_18, H_r0_18⟩, ⟨r0_20, R_r0_20, H_r0_20⟩, ⟨r0_21, R_r0_21, H_r0_21⟩, ⟨r0_22, R_r0_22, H_r0_22⟩, ⟨r0_23, R_r0_23, H_r0_23⟩, ⟨r0_25, R_r0_25, H_r0_25⟩, ⟨r0_26, R_r0_26, H_r0_26⟩, ⟨r0_27, R_r0_27, H_r0_27⟩, ⟨r0_28, R_r0_28, H_r0_28⟩, ⟨r0_34, R_r0_34, H_r0_34⟩, J_r0, Y_r0⟩ := id H_r0
  have G_r0 : mF T R r0 := ⟨J_r0, Y_r0, T_r0⟩
  obtain ⟨w_r0_4_n1, k0_r0_4_n1⟩ : ∃ x, I r0_4 n1.toNatClampNeg = x := ⟨_, rfl⟩
  have gw_r0_4_n1 := rg w_r0_4_n1
  have ow_r0_4_n1 := IM.dgR hI R_r0_4 k0_r0_4_n1
  obtain ⟨w_r0_4_n2, k0_r0_4_n2⟩ : ∃ x, I r0_4 n2.toNatClampNeg = x := ⟨_, rfl⟩
  have gw_r0_4_n2 := rg w_r0_4_n2
  have ow_r0_4_n2 := IM.dgR hI R_r0_4 k0_r0_4_n2
  obtain ⟨w_r0_1_0, k0_r0_1_0⟩ : ∃ x, I r0_1 0 = x := ⟨_, rfl⟩
  have gw_r0_1_0 := rg w_r0_1_0
  have ow_r0_1_0 := IM.pi hI R_r0_1 k0_r0_1_0
  have hp0 := hp0 r0_4 R_r0_4
  have hp1 := hp1 r0_4 R_r0_4
  have hp2 := hp2 r0_4 R_r0_4
  have hp3 := hp3 r0_1 r0_4 r0_5 R_r0_1 R_r0_4 R_r0_5
  have hp4 := hp4 r0_1 r0_4 r0_5 R_r0_1 R_r0_4 R_r0_5
  try simp only [k0_r0_4_n1, k0_r0_4_n2, k0_r0_1_0] at hp0
  try simp only [k0_r0_4_n1, k0_r0_4_n2, k0_r0_1_0] at hp1
  try simp only [k0_r0_4_n1, k0_r0_4_n2, k0_r0_1_0] at hp2
  try simp only [k0_r0_4_n1, k0_r0_4_n2, k0_r0_1_0] at hp3
  try simp only [k0_r0_4_n1, k0_r0_4_n2, k0_r0_1_0] at hp4
  have hn1 := ncz (x := n1) (by omega)
  have hn2 := ncz (x := n2) (by omega)
  have hn3 := ncz (x := n3) (by omega)
  have hn4 := ncz (x := n4) (by omega)
  refine k_aload_n C rfl rfl rfl ?_
  refine k_iload C rfl rfl rfl ?_
  refine k_aload_n C rfl rfl rfl ?_
  refine g_R C rfl rfl rfl T_r0 rfl R_r0_4 ?_
  refine k_iload_n C rfl rfl rfl ?_
  obtain ⟨T_r0_4, N_r0_4, A_r0_4⟩ := id H_r0_4
  refine a_I C rfl rfl T_r0_4 (by rw [N_r0_4]; exact vpi (by omega) (by omega)) k0_r0_4_n1 ?_
  refine k_aload_n C rfl rfl rfl ?_
  refine g_R C rfl rfl rfl T_r0 rfl R_r0_4 ?_
  refine k_iload_n C rfl rfl rfl ?_
  refine a_I C rfl rfl T_r0_4 (by rw [N_r0_4]; exact vpi (by omega) (by omega)) k0_r0_4_n2 ?_
  refine z_iadd C rfl rfl ⟨by omega, by omega⟩ (fun x1 ex1 => ?_)
  refine z_iconst C (z := 2) rfl rfl rfl (fun x2 ex2 => ?_)
  refine k_iload_n C rfl rfl rfl ?_
  refine z_imulL C (c := 2) rfl rfl (by omega) ⟨by omega, by omega⟩ (fun x3 ex3 => ?_)
  refine z_isub C rfl rfl ⟨by omega, by omega⟩ (fun x4 ex4 => ?_)
  refine c_VV C (a_X12_clears hI H_r0 (by omega) (by omega) (by omega) (by omega)) rfl rfl rfl rfl rfl ⟨_, rfl, rfl, T_r0, Nat.le_of_ble_eq_true rfl⟩ rfl rfl (Nat.le_of_ble_eq_true rfl) (Nat.le_of_ble_eq_true rfl) (Nat.le_of_ble_eq_true rfl) ?_
  rintro I6 L7 ⟨p0v5, p1v5, p2v5, p3v5, hI6, S8⟩
  have p0v5 := p0v5 r0_4 R_r0_4
  have p1v5 := p1v5 r0_5 R_r0_5
  have p2v5 := p2v5 r0_4 R_r0_4
  have p3v5 := p3v5 r0_5 R_r0_5
  have F9 : ∀ r : Nat, r ≠ n4.toNatClampNeg → r ≠ 45 → r ≠ 46 → r ≠ 47 → I6 r0_4 r = I r0_4 r := fun r z0 z1 z2 z3 => p2v5 r (by first | exact z0 | exact z1 | exact z2 | exact z3)
  have F10 : ∀ r : Nat, (r < 41 * n4.toNatClampNeg ∨ 41 * n4.toNatClampNeg + 41 ≤ r) → (r < 41 * 45 ∨ 41 * 45 + 41 ≤ r) → (r < 41 * 46 ∨ 41 * 46 + 41 ≤ r) → (r < 41 * 47 ∨ 41 * 47 + 41 ≤ r) → I6 r0_5 r = I r0_5 r := fun r z0 z1 z2 z3 => p3v5 r (by first | exact z0 | exact z1 | exact z2 | exact z3)
  have e11 := (p2v5 n1.toNatClampNeg (by first | decide | exact ncne (by omega) (by omega) (by omega) | exact nckn (by omega) (by omega) | exact (nckn (by omega) (by omega)).symm)).trans k0_r0_4_n1
  have e12 := (p2v5 n2.toNatClampNeg (by first | decide | exact ncne (by omega) (by omega) (by omega) | exact nckn (by omega) (by omega) | exact (nckn (by omega) (by omega)).symm)).trans k0_r0_4_n2
  have e13 := CM.j S8 R_r0_1 (by decide) k0_r0_1_0
  obtain ⟨x14, e15⟩ : ∃ x, I6 r0_4 n4.toNatClampNeg = x := ⟨_, rfl⟩
  have gx14 := rg x14
  have ox14 := IM.dgR hI6 R_r0_4 e15
  try simp only [k0_r0_4_n1, k0_r0_4_n2, k0_r0_1_0, e15] at p0v5
  try have q0v5 := congrArg Int32.toInt p0v5
  try simp only [k0_r0_4_n1, k0_r0_4_n2, k0_r0_1_0, e15] at p1v5
  try have q1v5 := congrArg Int32.toInt p1v5
  have hz20 : AZ I6 r0_5 (41 * n4.toNatClampNeg) ((w_r0_4_n1.toInt + w_r0_4_n2.toInt - 2 * n3.toInt) + 1) := fun k hk => p1v5 k (by omega)
  have hs1 : SMR I I6 r0_5 n1.toNatClampNeg := fun k hk => p3v5 _ (by omega)
  have hs2 : SMR I I6 r0_5 n2.toNatClampNeg := fun k hk => p3v5 _ (by omega)
  have hd20 := p0v5
  refine z_iconst C (z := 0) rfl rfl rfl (fun x16 ex16 => ?_)
  have J17 : ∀ (nn18 : Nat) (I19 : IT) (L20 : LT) (x21 : Int32) (x28 : Int32), (MN (9 - x21.toInt) nn18) → (IM R r0 I19) → (CM A R r0 [] [4, 5] I6 L7 I19 L20) → (∀ r : Nat, r ≠ n4.toNatClampNeg → r ≠ 45 → r ≠ 46 → r ≠ 47 → I19 r0_4 r = I6 r0_4 r) → (∀ r : Nat, (r < 41 * n4.toNatClampNeg ∨ 41 * n4.toNatClampNeg + 41 ≤ r) → (r < 41 * 45 ∨ 41 * 45 + 41 ≤ r) → (r < 41 * 46 ∨ 41 * 46 + 41 ≤ r) → (r < 41 * 47 ∨ 41 * 47 + 41 ≤ r) → I19 r0_5 r = I6 r0_5 r) → (0 ≤ x21.toInt) → (x21.toInt ≤ 9) → (I19 r0_4 n4.toNatClampNeg = x28) → (0 ≤ x28.toInt) → (x28.toInt ≤ 40) → (RVX I19 r0_5 n4.toNatClampNeg w_r0_1_0.toInt (w_r0_4_n1.toInt + w_r0_4_n2.toInt - 2 * n3.toInt) (OVS (RI I r0_5 n1.toNatClampNeg) (RI I r0_5 n2.toNatClampNeg) w_r0_4_n1.toInt w_r0_4_n2.toInt n3.toInt x21.toNatClampNeg)) → (SMR I I19 r0_5 n1.toNatClampNeg) → (SMR I I19 r0_5 n2.toNatClampNeg) → (x21.toInt ≤ n3.toInt + 1) → (x28.toInt = (w_r0_4_n1.toInt + w_r0_4_n2.toInt - 2 * n3.toInt)) → V 26 [(0, .ref r0), (1, .int n1), (2, .int n2), (3, .int n3), (4, .int n4), (5, .int x21)] [] (T, N, I19, L20, R) 0 0 := by
    intro nn18
    induction nn18 using Nat.strongRecOn with
    | _ nn18 ihJ17 =>
      intro I19 L20 x21 x28 hmnn18 hI25 S24 F26 F27 b22 b23 e29 b30 b31 ff26_0 ff26_1 ff26_2 ff26_3 ff26_4
      have gx21 := rg x21
      have gx28 := rg x28
      have e32 := (F26 n1.toNatClampNeg (by first | decide | exact ncne (by omega) (by omega) (by omega) | exact nckn (by omega) (by omega) | exact (nckn (by omega) (by omega)).symm) (by first | decide | exact ncne (by omega) (by omega) (by omega) | exact nckn (by omega) (by omega) | exact (nckn (by omega) (by omega)).symm) (by first | decide | exact ncne (by omega) (by omega) (by omega) | exact nckn (by omega) (by omega) | exact (nckn (by omega) (by omega)).symm) (by first | decide | exact ncne (by omega) (by omega) (by omega) | exact nckn (by omega) (by omega) | exact (nckn (by omega) (by omega)).symm)).trans e11
      have e33 := (F26 n2.toNatClampNeg (by first | decide | exact ncne (by omega) (by omega) (by omega) | exact nckn (by omega) (by omega) | exact (nckn (by omega) (by omega)).symm) (by first | decide | exact ncne (by omega) (by omega) (by omega) | exact nckn (by omega) (by omega) | exact (nckn (by omega) (by omega)).symm) (by first | decide | exact ncne (by omega) (by omega) (by omega) | exact nckn (by omega) (by omega) | exact (nckn (by omega) (by omega)).symm) (by first | decide | exact ncne (by omega) (by omega) (by omega) | exact nckn (by omega) (by omega) | exact (nckn (by omega) (by omega)).symm)).trans e12
      have e34 := CM.j S24 R_r0_1 (by decide) e13
      refine k_iload C rfl rfl rfl ?_
      refine k_iload_n C rfl rfl rfl ?_
      refine b_icmp_gt C (t := 160) rfl rfl rfl (fun c35 => ?_) (fun c35 => ?_)
      · skip
        exact k_vret C rfl rfl (Nat.le_of_ble_eq_true rfl) (Nat.le_of_ble_eq_true rfl) ⟨_, _, rfl, rfl, fun a4 h4 => by cases (R_r0_4.symm.trans h4); rw [e29]; simp only [k0_r0_4_n1, k0_r0_4_n2]; omega, fun a1 a4 a5 h1 h4 h5 => by cases (R_r0_1.symm.trans h1); cases (R_r0_4.symm.trans h4); cases (R_r0_5.symm.trans h5); simp only [k0_r0_4_n1, k0_r0_4_n2, k0_r0_1_0]; exact RVX.cg ff26_0 rfl (fun j _ => by rw [show x21.toNatClampNeg = n3.toNatClampNeg + 1 from by have h9 := ncz (x := x21) (by omega); omega]; exact PmE.rf), fun a4 h4 => by cases (R_r0_4.symm.trans h4); exact (fun r z0 z1 z2 z3 => ((F26 r z0 z1 z2 z3).trans (F9 r z0 z1 z2 z3))), fun a5 h5 => by cases (R_r0_5.symm.trans h5); exact (fun r z0 z1 z2 z3 => ((F27 r z0 z1 z2 z3).trans (F10 r z0 z1 z2 z3))), hI25, (CM.cons S8 (CM.mono S24 (by decide) (by decide)) (by decide) (by decide))⟩
      refine k_aload_n C rfl rfl rfl ?_
      refine k_iload_n C rfl rfl rfl ?_
      refine k_iload_n C rfl rfl rfl ?_
      refine k_iload C rfl rfl rfl ?_
      refine z_isub C rfl rfl ⟨by omega, by omega⟩ (fun x36 ex36 => ?_)
      refine k_iload C rfl rfl rfl ?_
      refine z_bipush C (z := 45) rfl rfl rfl (fun x37 ex37 => ?_)
      have hu42 := ncz (x := x36) (by omega)
      have q38 : x37.toNatClampNeg = 45 := nck (by omega)
      refine c_VV C (a_X12_differentiates_x hI25 H_r0 (by omega) (by omega) (by omega) (by omega) (by omega) (by omega) (by omega) (by omega) (by first | omega | (simp only [q38, e32, e33, e34, e29, and_true, true_and, or_true, true_or, and_false, false_and, or_false, false_or] <;> omega)) (fun a4 h4 => by cases (R_r0_4.symm.trans h4); first | omega | (simp only [q38, e32, e33, e34, e29, and_true, true_and, or_true, true_or, and_false, false_and, or_false, false_or] <;> omega)) (fun a1 a4 a5 h1 h4 h5 => by cases (R_r0_1.symm.trans h1); cases (R_r0_4.symm.trans h4); cases (R_r0_5.symm.trans h5); simp only [q38, e32, e33, e34, e29]; exact RCN.sm hp3 ff26_1 (by omega) (by omega))) rfl rfl rfl rfl rfl ⟨_, rfl, rfl, T_r0, Nat.le_of_ble_eq_true rfl⟩ rfl rfl (Nat.le_of_ble_eq_true rfl) (Nat.le_of_ble_eq_true rfl) (Nat.le_of_ble_eq_true rfl) ?_
      rintro I40 L41 ⟨p0v39, p1v39, p2v39, p3v39, p4v39, hI40, S42⟩
      have p0v39 := p0v39 r0_4 R_r0_4
      have p1v39 := p1v39 r0_1 r0_4 r0_5 R_r0_1 R_r0_4 R_r0_5
      have p2v39 := p2v39 r0_1 r0_4 r0_5 R_r0_1 R_r0_4 R_r0_5
      have p3v39 := p3v39 r0_4 R_r0_4
      have p4v39 := p4v39 r0_5 R_r0_5
      try simp only [q38] at p3v39
      have F43 : ∀ r : Nat, r ≠ n4.toNatClampNeg → r ≠ 45 → r ≠ 46 → r ≠ 47 → I40 r0_4 r = I19 r0_4 r := fun r z0 z1 z2 z3 => p3v39 r (by first | exact z0 | exact z1 | exact z2 | exact z3)
      try simp only [q38] at p4v39
      have F44 : ∀ r : Nat, (r < 41 * n4.toNatClampNeg ∨ 41 * n4.toNatClampNeg + 41 ≤ r) → (r < 41 * 45 ∨ 41 * 45 + 41 ≤ r) → (r < 41 * 46 ∨ 41 * 46 + 41 ≤ r) → (r < 41 * 47 ∨ 41 * 47 + 41 ≤ r) → I40 r0_5 r = I19 r0_5 r := fun r z0 z1 z2 z3 => p4v39 r (by first | exact z0 | exact z1 | exact z2 | exact z3)
      have e45 := (p3v39 n1.toNatClampNeg (by first | decide | exact ncne (by omega) (by omega) (by omega) | exact nckn (by omega) (by omega) | exact (nckn (by omega) (by omega)).symm)).trans e32
      have e46 := (p3v39 n2.toNatClampNeg (by first | decide | exact ncne (by omega) (by omega) (by omega) | exact nckn (by omega) (by omega) | exact (nckn (by omega) (by omega)).symm)).trans e33
      have e47 := CM.j S42 R_r0_1 (by decide) e34
      have e48 := (p3v39 n4.toNatClampNeg (by first | decide | exact ncne (by omega) (by omega) (by omega) | exact nckn (by omega) (by omega) | exact (nckn (by omega) (by omega)).symm)).trans e29
      obtain ⟨x49, e50⟩ : ∃ x, I40 r0_4 45 = x := ⟨_, rfl⟩
      have gx49 := rg x49
      have ox49 := IM.dgR hI40 R_r0_4 e50
      try simp only [q38, e32, e33, e34, e29, e50] at p0v39
      try have q0v39 := congrArg Int32.toInt p0v39
      try simp only [q38, e32, e33, e34, e29, e50] at p1v39
      try have q1v39 := congrArg Int32.toInt p1v39
      try simp only [q38, e32, e33, e34, e29, e50] at p2v39
      try have q2v39 := congrArg Int32.toInt p2v39
      have hDA := RVX.df (D := w_r0_4_n1.toInt) (a := n3.toInt.toNat - x21.toNatClampNeg) (c := x21.toNatClampNeg) (E := w_r0_4_n1.toInt - n3.toInt) p2v39 ff26_1 (by omega) (by omega) (by have h9 := ncz (x := x21) (by omega); omega) rfl (by omega) (by omega) (by omega)
      have hd42 := p0v39
      have h4a := RVX.sm ff26_0 (fun k hk => p4v39 _ (by omega)) (by omega)
      have ha1 := SMR.cs ff26_1 (fun k hk => p4v39 _ (by omega))
      have ha2 := SMR.cs ff26_2 (fun k hk => p4v39 _ (by omega))
      refine k_aload_n C rfl rfl rfl ?_
      refine k_iload_n C rfl rfl rfl ?_
      refine k_iload C rfl rfl rfl ?_
      refine k_iload_n C rfl rfl rfl ?_
      refine k_iload C rfl rfl rfl ?_
      refine z_isub C rfl rfl ⟨by omega, by omega⟩ (fun x51 ex51 => ?_)
      refine z_bipush C (z := 46) rfl rfl rfl (fun x52 ex52 => ?_)
      have hu55 := ncz (x := x51) (by omega)
      have q53 : x52.toNatClampNeg = 46 := nck (by omega)
      refine c_VV C (a_X12_differentiates_x hI40 H_r0 (by omega) (by omega) (by omega) (by omega) (by omega) (by omega) (by omega) (by omega) (by first | omega | (simp only [q53, e45, e46, e47, e48, e50, and_true, true_and, or_true, true_or, and_false, false_and, or_false, false_or] <;> omega)) (fun a4 h4 => by cases (R_r0_4.symm.trans h4); first | omega | (simp only [q53, e45, e46, e47, e48, e50, and_true, true_and, or_true, true_or, and_false, false_and, or_false, false_or] <;> omega)) (fun a1 a4 a5 h1 h4 h5 => by cases (R_r0_1.symm.trans h1); cases (R_r0_4.symm.trans h4); cases (R_r0_5.symm.trans h5); simp only [q53, e45, e46, e47, e48, e50]; exact RCN.sm hp4 ha2 (by omega) (by omega))) rfl rfl rfl rfl rfl ⟨_, rfl, rfl, T_r0, Nat.le_of_ble_eq_true rfl⟩ rfl rfl (Nat.le_of_ble_eq_true rfl) (Nat.le_of_ble_eq_true rfl) (Nat.le_of_ble_eq_true rfl) ?_
      rintro I55 L56 ⟨p0v54, p1v54, p2v54, p3v54, p4v54, hI55, S57⟩
      have p0v54 := p0v54 r0_4 R_r0_4
      have p1v54 := p1v54 r0_1 r0_4 r0_5 R_r0_1 R_r0_4 R_r0_5
      have p2v54 := p2v54 r0_1 r0_4 r0_5 R_r0_1 R_r0_4 R_r0_5
      have p3v54 := p3v54 r0_4 R_r0_4
      have p4v54 := p4v54 r0_5 R_r0_5
      try simp only [q53] at p3v54
      have F58 : ∀ r : Nat, r ≠ n4.toNatClampNeg → r ≠ 45 → r ≠ 46 → r ≠ 47 → I55 r0_4 r = I40 r0_4 r := fun r z0 z1 z2 z3 => p3v54 r (by first | exact z0 | exact z1 | exact z2 | exact z3)
      try simp only [q53] at p4v54
      have F59 : ∀ r : Nat, (r < 41 * n4.toNatClampNeg ∨ 41 * n4.toNatClampNeg + 41 ≤ r) → (r < 41 * 45 ∨ 41 * 45 + 41 ≤ r) → (r < 41 * 46 ∨ 41 * 46 + 41 ≤ r) → (r < 41 * 47 ∨ 41 * 47 + 41 ≤ r) → I55 r0_5 r = I40 r0_5 r := fun r z0 z1 z2 z3 => p4v54 r (by first | exact z0 | exact z1 | exact z2 | exact z3)
      have e60 := (p3v54 n1.toNatClampNeg (by first | decide | exact ncne (by omega) (by omega) (by omega) | exact nckn (by omega) (by omega) | exact (nckn (by omega) (by omega)).symm)).trans e45
      have e61 := (p3v54 n2.toNatClampNeg (by first | decide | exact ncne (by omega) (by omega) (by omega) | exact nckn (by omega) (by omega) | exact (nckn (by omega) (by omega)).symm)).trans e46
      have e62 := CM.j S57 R_r0_1 (by decide) e47
      have e63 := (p3v54 n4.toNatClampNeg (by first | decide | exact ncne (by omega) (by omega) (by omega) | exact nckn (by omega) (by omega) | exact (nckn (by omega) (by omega)).symm)).trans e48
      have e64 := (p3v54 45 (by first | decide | exact ncne (by omega) (by omega) (by omega) | exact nckn (by omega) (by omega) | exact (nckn (by omega) (by omega)).symm)).trans e50
      obtain ⟨x65, e66⟩ : ∃ x, I55 r0_4 46 = x := ⟨_, rfl⟩
      have gx65 := rg x65
      have ox65 := IM.dgR hI55 R_r0_4 e66
      try simp only [q53, e45, e46, e47, e48, e50, e66] at p0v54
      try have q0v54 := congrArg Int32.toInt p0v54
      try simp only [q53, e45, e46, e47, e48, e50, e66] at p1v54
      try have q1v54 := congrArg Int32.toInt p1v54
      try simp only [q53, e45, e46, e47, e48, e50, e66] at p2v54
      try have q2v54 := congrArg Int32.toInt p2v54
      have hDB := RVX.df (D := w_r0_4_n2.toInt) (a := x21.toNatClampNeg) (c := n3.toInt.toNat - x21.toNatClampNeg) (E := w_r0_4_n2.toInt - n3.toInt) p2v54 ha2 (by omega) (by omega) rfl (by have h9 := ncz (x := x21) (by omega); omega) (by omega) (by omega) (by omega)
      have hd55 := p0v54
      have h4b := RVX.sm h4a (fun k hk => p4v54 _ (by omega)) (by omega)
      have hDA2 := RVX.sm hDA (fun k hk => p4v54 _ (by omega)) (by omega)
      have hb1 := SMR.cs ha1 (fun k hk => p4v54 _ (by omega))
      have hb2 := SMR.cs ha2 (fun k hk => p4v54 _ (by omega))
      refine k_aload_n C rfl rfl rfl ?_
      refine z_bipush C (z := 45) rfl rfl rfl (fun x67 ex67 => ?_)
      refine z_bipush C (z := 46) rfl rfl rfl (fun x68 ex68 => ?_)
      refine z_bipush C (z := 47) rfl rfl rfl (fun x69 ex69 => ?_)
      have q70 : x67.toNatClampNeg = 45 := nck (by omega)
      have q71 : x68.toNatClampNeg = 46 := nck (by omega)
      have q72 : x69.toNatClampNeg = 47 := nck (by omega)
      refine c_VV C (a_X12_multiplies_x hI55 H_r0 (by omega) (by omega) (by omega) (by omega) (by omega) (by omega) (by first | omega | (simp only [q70, q71, q72, e60, e61, e62, e63, e64, e66, and_true, true_and, or_true, true_or, and_false, false_and, or_false, false_or] <;> omega)) (by first | omega | (simp only [q70, q71, q72, e60, e61, e62, e63, e64, e66, and_true, true_and, or_true, true_or, and_false, false_and, or_false, false_or] <;> omega)) (fun a4 h4 => by cases (R_r0_4.symm.trans h4); first | omega | (simp only [q70, q71, q72, e60, e61, e62, e63, e64, e66, and_true, true_and, or_true, true_or, and_false, false_and, or_false, false_or] <;> omega)) (fun a1 a4 a5 h1 h4 h5 => by cases (R_r0_1.symm.trans h1); cases (R_r0_4.symm.trans h4); cases (R_r0_5.symm.trans h5); simp only [q70, q71, q72, e60, e61, e62, e63, e64, e66]; intro k hk; exact hDA2.cn k (by omega)) (fun a1 a4 a5 h1 h4 h5 => by cases (R_r0_1.symm.trans h1); cases (R_r0_4.symm.trans h4); cases (R_r0_5.symm.trans h5); simp only [q70, q71, q72, e60, e61, e62, e63, e64, e66]; intro k hk; exact hDB.cn k (by omega))) rfl rfl rfl rfl rfl ⟨_, rfl, rfl, T_r0, Nat.le_of_ble_eq_true rfl⟩ rfl rfl (Nat.le_of_ble_eq_true rfl) (Nat.le_of_ble_eq_true rfl) (Nat.le_of_ble_eq_true rfl) ?_
      rintro I74 L75 ⟨p0v73, p1v73, p2v73, p3v73, hI74, S76⟩
      have p0v73 := p0v73 r0_4 R_r0_4
      have p1v73 := p1v73 r0_1 r0_4 r0_5 R_r0_1 R_r0_4 R_r0_5
      have p2v73 := p2v73 r0_4 R_r0_4
      have p3v73 := p3v73 r0_5 R_r0_5
      try simp only [q70, q71, q72] at p2v73
      have F77 : ∀ r : Nat, r ≠ n4.toNatClampNeg → r ≠ 45 → r ≠ 46 → r ≠ 47 → I74 r0_4 r = I55 r0_4 r := fun r z0 z1 z2 z3 => p2v73 r (by first | exact z0 | exact z1 | exact z2 | exact z3)
      try simp only [q70, q71, q72] at p3v73
      have F78 : ∀ r : Nat, (r < 41 * n4.toNatClampNeg ∨ 41 * n4.toNatClampNeg + 41 ≤ r) → (r < 41 * 45 ∨ 41 * 45 + 41 ≤ r) → (r < 41 * 46 ∨ 41 * 46 + 41 ≤ r) → (r < 41 * 47 ∨ 41 * 47 + 41 ≤ r) → I74 r0_5 r = I55 r0_5 r := fun r z0 z1 z2 z3 => p3v73 r (by first | exact z0 | exact z1 | exact z2 | exact z3)
      have e79 := (p2v73 n1.toNatClampNeg (by first | decide | exact ncne (by omega) (by omega) (by omega) | exact nckn (by omega) (by omega) | exact (nckn (by omega) (by omega)).symm)).trans e60
      have e80 := (p2v73 n2.toNatClampNeg (by first | decide | exact ncne (by omega) (by omega) (by omega) | exact nckn (by omega) (by omega) | exact (nckn (by omega) (by omega)).symm)).trans e61
      have e81 := CM.j S76 R_r0_1 (by decide) e62
      have e82 := (p2v73 n4.toNatClampNeg (by first | decide | exact ncne (by omega) (by omega) (by omega) | exact nckn (by omega) (by omega) | exact (nckn (by omega) (by omega)).symm)).trans e63
      have e83 := (p2v73 45 (by first | decide | exact ncne (by omega) (by omega) (by omega) | exact nckn (by omega) (by omega) | exact (nckn (by omega) (by omega)).symm)).trans e64
      have e84 := (p2v73 46 (by first | decide | exact ncne (by omega) (by omega) (by omega) | exact nckn (by omega) (by omega) | exact (nckn (by omega) (by omega)).symm)).trans e66
      obtain ⟨x85, e86⟩ : ∃ x, I74 r0_4 47 = x := ⟨_, rfl⟩
      have gx85 := rg x85
      have ox85 := IM.dgR hI74 R_r0_4 e86
      try simp only [q70, q71, q72, e60, e61, e62, e63, e64, e66, e86] at p0v73
      try have q0v73 := congrArg Int32.toInt p0v73
      try simp only [q70, q71, q72, e60, e61, e62, e63, e64, e66, e86] at p1v73
      try have q1v73 := congrArg Int32.toInt p1v73
      have hMU : RVX I74 r0_5 47 w_r0_1_0.toInt (w_r0_4_n1.toInt + w_r0_4_n2.toInt - 2 * n3.toInt) (CVS (DIF (RI I r0_5 n1.toNatClampNeg) w_r0_4_n1.toInt (n3.toInt.toNat - x21.toNatClampNeg) x21.toNatClampNeg) (DIF (RI I r0_5 n2.toNatClampNeg) w_r0_4_n2.toInt x21.toNatClampNeg (n3.toInt.toNat - x21.toNatClampNeg)) (w_r0_4_n2.toInt - n3.toInt) (w_r0_4_n1.toInt - n3.toInt + 1).toNat) := RVX.mu p1v73 hDA2 hDB (by omega) (by omega) (by omega)
      have h4c := RVX.sm h4b (fun k hk => p3v73 _ (by omega)) (by omega)
      have hc1 := SMR.cs hb1 (fun k hk => p3v73 _ (by omega))
      have hc2 := SMR.cs hb2 (fun k hk => p3v73 _ (by omega))
      refine k_aload_n C rfl rfl rfl ?_
      refine k_iload C rfl rfl rfl ?_
      refine z_iconst C (z := 2) rfl rfl rfl (fun x87 ex87 => ?_)
      refine z_iremR C (c := 2) rfl rfl (by omega) (by omega) (by omega) (fun x88 ex88 => ?_)
      have hpar := ex88
      refine b_if_ne C (t := 86) rfl rfl rfl (fun c89 => ?_) (fun c89 => ?_)
      · skip
        refine k_iload_n C rfl rfl rfl ?_
        refine k_iload C rfl rfl rfl ?_
        refine c_SI C (a_X12_over_x (by omega) (by omega) (by omega) (by omega) (by first | omega | (simp only [e79, e80, e81, e82, e83, e84, e86, and_true, true_and, or_true, true_or, and_false, false_and, or_false, false_or] <;> omega))) rfl rfl rfl rfl rfl rfl rfl (Nat.le_of_ble_eq_true rfl) (Nat.le_of_ble_eq_true rfl) (Nat.le_of_ble_eq_true rfl) ?_
        rintro x90 _ _ ⟨p0x90, p1x90, p2x90, rfl, rfl⟩
        have gx90 := rg x90
        try simp only [e79, e80, e81, e82, e83, e84, e86] at p0x90
        try have q0x90 := congrArg Int32.toInt p0x90
        try simp only [e79, e80, e81, e82, e83, e84, e86] at p1x90
        try have q1x90 := congrArg Int32.toInt p1x90
        try simp only [e79, e80, e81, e82, e83, e84, e86] at p2x90
        try have q2x90 := congrArg Int32.toInt p2x90
        have hov := p0x90
        refine z_ineg C rfl rfl (by omega) (fun x91 ex91 => ?_)
        have hv93 := ex91
        refine z_i2l C rfl rfl (fun lg92 elg92 => ?_)
        have hl94 := elg92
        refine c_VI C (a_X12_mod_e hI74 H_r0) rfl rfl rfl rfl rfl ⟨_, rfl, rfl, T_r0, Nat.le_of_ble_eq_true rfl⟩ rfl rfl (Nat.le_of_ble_eq_true rfl) (Nat.le_of_ble_eq_true rfl) (Nat.le_of_ble_eq_true rfl) ?_
        rintro x93 _ _ ⟨o0x93, o1x93, p0x93, p1x93, rfl, rfl⟩
        have p0x93 := p0x93 r0_1 R_r0_1
        have p1x93 := p1x93 r0_1 R_r0_1
        have gx93 := rg x93
        try simp only [e79, e80, e81, e82, e83, e84, e86] at p0x93
        try have q0x93 := congrArg Int32.toInt p0x93
        try simp only [e79, e80, e81, e82, e83, e84, e86] at p1x93
        try have q1x93 := congrArg Int32.toInt p1x93
        have hby : PRE x93.toInt w_r0_1_0.toInt (SGI x21.toNatClampNeg * BNI n3.toInt x21.toNatClampNeg) := by first | exact OVB.y p1x93 hl94 hov hpar (by omega) (by omega) (by omega) | exact OVB.n p1x93 hl94 hv93 hov hpar (by omega) (by omega) (by omega)
        refine k_istore C (lw := [(6, .int x93), (0, .ref r0), (1, .int n1), (2, .int n2), (3, .int n3), (4, .int n4), (5, .int x21)]) rfl rfl (Nat.le_of_ble_eq_true rfl) rfl ?_
        refine z_iconst C (z := 0) rfl rfl rfl (fun x94 ex94 => ?_)
        have J95 : ∀ (nn96 : Nat) (I97 : IT) (L98 : LT) (x99 : Int32) (x105 : Int32), (MN (41 - x99.toInt) nn96) → (IM R r0 I97) → (CM A R r0 [] [5] I74 L75 I97 L98) → (∀ r : Nat, (r < 41 * n4.toNatClampNeg ∨ 41 * n4.toNatClampNeg + 41 ≤ r) → (r < 41 * 45 ∨ 41 * 45 + 41 ≤ r) → (r < 41 * 46 ∨ 41 * 46 + 41 ≤ r) → (r < 41 * 47 ∨ 41 * 47 + 41 ≤ r) → I97 r0_5 r = I74 r0_5 r) → (0 ≤ x99.toInt) → (x99.toInt ≤ 41) → (I97 r0_4 n4.toNatClampNeg = x105) → (0 ≤ x105.toInt) → (x105.toInt ≤ 40) → (RVX I97 r0_5 n4.toNatClampNeg w_r0_1_0.toInt (w_r0_4_n1.toInt + w_r0_4_n2.toInt - 2 * n3.toInt) (OVM (OVS (RI I r0_5 n1.toNatClampNeg) (RI I r0_5 n2.toNatClampNeg) w_r0_4_n1.toInt w_r0_4_n2.toInt n3.toInt x21.toNatClampNeg) (OVS (RI I r0_5 n1.toNatClampNeg) (RI I r0_5 n2.toNatClampNeg) w_r0_4_n1.toInt w_r0_4_n2.toInt n3.toInt (x21.toNatClampNeg + 1)) x99.toInt)) → (RVX I97 r0_5 47 w_r0_1_0.toInt (w_r0_4_n1.toInt + w_r0_4_n2.toInt - 2 * n3.toInt) (CVS (DIF (RI I r0_5 n1.toNatClampNeg) w_r0_4_n1.toInt (n3.toInt.toNat - x21.toNatClampNeg) x21.toNatClampNeg) (DIF (RI I r0_5 n2.toNatClampNeg) w_r0_4_n2.toInt x21.toNatClampNeg (n3.toInt.toNat - x21.toNatClampNeg)) (w_r0_4_n2.toInt - n3.toInt) (w_r0_4_n1.toInt - n3.toInt + 1).toNat)) → (SMR I I97 r0_5 n1.toNatClampNeg) → (SMR I I97 r0_5 n2.toNatClampNeg) → (x99.toInt ≤ (w_r0_4_n1.toInt + w_r0_4_n2.toInt - 2 * n3.toInt) + 1) → (x105.toInt = (w_r0_4_n1.toInt + w_r0_4_n2.toInt - 2 * n3.toInt)) → V 102 [(0, .ref r0), (1, .int n1), (2, .int n2), (3, .int n3), (4, .int n4), (5, .int x21), (6, .int x93), (7, .int x99)] [] (T, N, I97, L98, R) 0 0 := by
          intro nn96
          induction nn96 using Nat.strongRecOn with
          | _ nn96 ihJ95 =>
            intro I97 L98 x99 x105 hmnn96 hI103 S102 F104 b100 b101 e106 b107 b108 ff102_0 ff102_1 ff102_2 ff102_3 ff102_4 ff102_5
            have gx99 := rg x99
            have gx105 := rg x105
            have e109 := CM.j S102 R_r0_4 (by decide) e79
            have e110 := CM.j S102 R_r0_4 (by decide) e80
            have e111 := CM.j S102 R_r0_1 (by decide) e81
            have e112 := CM.j S102 R_r0_4 (by decide) e82
            have e113 := CM.j S102 R_r0_4 (by decide) e83
            have e114 := CM.j S102 R_r0_4 (by decide) e84
            have e115 := CM.j S102 R_r0_4 (by decide) e86
            refine k_iload C rfl rfl rfl ?_
            refine k_aload_n C rfl rfl rfl ?_
            refine g_R C rfl rfl rfl T_r0 rfl R_r0_4 ?_
            refine k_iload C rfl rfl rfl ?_
            refine a_I C rfl rfl T_r0_4 (by rw [N_r0_4]; exact vpi (by omega) (by omega)) e106 ?_
            refine b_icmp_gt C (t := 154) rfl rfl rfl (fun c116 => ?_) (fun c116 => ?_)
            · skip
              refine z_iinc C (z := 1) (lw := fun x117 => [(5, .int x117), (0, .ref r0), (1, .int n1), (2, .int n2), (3, .int n3), (4, .int n4), (6, .int x93), (7, .int x99)]) rfl rfl rfl (Nat.le_of_ble_eq_true rfl) rfl ⟨by omega, by omega⟩ (fun _ => rfl) (fun x117 ex117 => ?_)
              show V 157 [(5, .int x117), (0, .ref r0), (1, .int n1), (2, .int n2), (3, .int n3), (4, .int n4), (6, .int x93), (7, .int x99)] _ _ _ _
              refine k_goto C (pc2 := 26) rfl rfl ?_
              refine k_sub S [(0, .ref r0), (1, .int n1), (2, .int n2), (3, .int n3), (4, .int n4), (5, .int x117)] (List.forall_mem_cons.mpr ⟨List.mem_of_getElem? (i := 1) rfl, List.forall_mem_cons.mpr ⟨List.mem_of_getElem? (i := 2) rfl, List.forall_mem_cons.mpr ⟨List.mem_of_getElem? (i := 3) rfl, List.forall_mem_cons.mpr ⟨List.mem_of_getElem? (i := 4) rfl, List.forall_mem_cons.mpr ⟨List.mem_of_getElem? (i := 5) rfl, List.forall_mem_cons.mpr ⟨List.mem_of_getElem? (i := 0) rfl, fun _ h => nomatch h⟩⟩⟩⟩⟩⟩) ?_
              exact ihJ17 _ (MN.lt hmnn18 (by omega) (by omega)) I97 L98 x117 x105 rfl hI103 (CM.cons S24 (CM.cons S42 (CM.cons S57 (CM.cons S76 (CM.mono S102 (by decide) (by decide)) (by decide) (by decide)) (by decide) (by decide)) (by decide) (by decide)) (by decide) (by decide)) (fun r z0 z1 z2 z3 => ((congrFun (CM.j0 S102 R_r0_4 (by decide)) r).trans ((F77 r z0 z1 z2 z3).trans ((F58 r z0 z1 z2 z3).trans ((F43 r z0 z1 z2 z3).trans (F26 r z0 z1 z2 z3)))))) (fun r z0 z1 z2 z3 => ((F104 r z0 z1 z2 z3).trans ((F78 r z0 z1 z2 z3).trans ((F59 r z0 z1 z2 z3).trans ((F44 r z0 z1 z2 z3).trans (F27 r z0 z1 z2 z3)))))) (by omega) (by omega) e106 (by omega) (by omega) (by exact RVX.cg (OVM.e ff102_0 (by omega)) rfl (fun j _ => by rw [show x117.toNatClampNeg = x21.toNatClampNeg + 1 from by have h9 := ncz (x := x117) (by omega); have h8 := ncz (x := x21) (by omega); omega]; exact PmE.rf)) (by exact ff102_2) (by exact ff102_3) (by omega) (by omega)
            refine k_aload_n C rfl rfl rfl ?_
            refine k_iload C rfl rfl rfl ?_
            refine k_iload C rfl rfl rfl ?_
            refine k_aload_n C rfl rfl rfl ?_
            refine k_aload_n C rfl rfl rfl ?_
            refine k_iload C rfl rfl rfl ?_
            refine k_iload C rfl rfl rfl ?_
            refine c_VI C (a_X12_of hI103 H_r0 (by omega) (by omega) (by omega) (by omega)) rfl rfl rfl rfl rfl ⟨_, rfl, rfl, T_r0, Nat.le_of_ble_eq_true rfl⟩ rfl rfl (Nat.le_of_ble_eq_true rfl) (Nat.le_of_ble_eq_true rfl) (Nat.le_of_ble_eq_true rfl) ?_
            rintro x118 _ _ ⟨o0x118, o1x118, p0x118, rfl, rfl⟩
            have p0x118 := p0x118 r0_5 R_r0_5
            have gx118 := rg x118
            try simp only [e109, e110, e111, e106, e113, e114, e115] at p0x118
            try have q0x118 := congrArg Int32.toInt p0x118
            have hA := p0x118
            refine k_aload_n C rfl rfl rfl ?_
            refine k_iload C rfl rfl rfl ?_
            refine k_aload_n C rfl rfl rfl ?_
            refine z_bipush C (z := 47) rfl rfl rfl (fun x119 ex119 => ?_)
            refine k_iload C rfl rfl rfl ?_
            have q120 : x119.toNatClampNeg = 47 := nck (by omega)
            refine c_VI C (a_X12_of hI103 H_r0 (by omega) (by omega) (by omega) (by omega)) rfl rfl rfl rfl rfl ⟨_, rfl, rfl, T_r0, Nat.le_of_ble_eq_true rfl⟩ rfl rfl (Nat.le_of_ble_eq_true rfl) (Nat.le_of_ble_eq_true rfl) (Nat.le_of_ble_eq_true rfl) ?_
            rintro x121 _ _ ⟨o0x121, o1x121, p0x121, rfl, rfl⟩
            have p0x121 := p0x121 r0_5 R_r0_5
            have gx121 := rg x121
            try simp only [q120, e109, e110, e111, e106, e113, e114, e115] at p0x121
            try have q0x121 := congrArg Int32.toInt p0x121
            have hC := p0x121
            refine c_VI C (a_X12_times hI103 H_r0 (by omega) (by omega) (by omega) (by omega)) rfl rfl rfl rfl rfl ⟨_, rfl, rfl, T_r0, Nat.le_of_ble_eq_true rfl⟩ rfl rfl (Nat.le_of_ble_eq_true rfl) (Nat.le_of_ble_eq_true rfl) (Nat.le_of_ble_eq_true rfl) ?_
            rintro x122 _ _ ⟨o0x122, o1x122, p0x122, p1x122, p2x122, p3x122, rfl, rfl⟩
            have p0x122 := p0x122 r0_1 R_r0_1
            have p2x122 := p2x122 r0_1 R_r0_1
            have p3x122 := p3x122 r0_1 R_r0_1
            have gx122 := rg x122
            try simp only [e109, e110, e111, e106, e113, e114, e115] at p0x122
            try have q0x122 := congrArg Int32.toInt p0x122
            try simp only [e109, e110, e111, e106, e113, e114, e115] at p1x122
            try have q1x122 := congrArg Int32.toInt p1x122
            try simp only [e109, e110, e111, e106, e113, e114, e115] at p2x122
            try have q2x122 := congrArg Int32.toInt p2x122
            try simp only [e109, e110, e111, e106, e113, e114, e115] at p3x122
            try have q3x122 := congrArg Int32.toInt p3x122
            have hT := p3x122
            refine c_VI C (a_X12_plus_e hI103 H_r0 (by omega) (by omega) (by omega) (by omega)) rfl rfl rfl rfl rfl ⟨_, rfl, rfl, T_r0, Nat.le_of_ble_eq_true rfl⟩ rfl rfl (Nat.le_of_ble_eq_true rfl) (Nat.le_of_ble_eq_true rfl) (Nat.le_of_ble_eq_true rfl) ?_
            rintro x123 _ _ ⟨o0x123, o1x123, p0x123, p1x123, p2x123, p3x123, rfl, rfl⟩
            have p0x123 := p0x123 r0_1 R_r0_1
            have p2x123 := p2x123 r0_1 R_r0_1
            have p3x123 := p3x123 r0_1 R_r0_1
            have gx123 := rg x123
            try simp only [e109, e110, e111, e106, e113, e114, e115] at p0x123
            try have q0x123 := congrArg Int32.toInt p0x123
            try simp only [e109, e110, e111, e106, e113, e114, e115] at p1x123
            try have q1x123 := congrArg Int32.toInt p1x123
            try simp only [e109, e110, e111, e106, e113, e114, e115] at p2x123
            try have q2x123 := congrArg Int32.toInt p2x123
            try simp only [e109, e110, e111, e106, e113, e114, e115] at p3x123
            try have q3x123 := congrArg Int32.toInt p3x123
            have hS := p3x123
            refine c_VV C (a_X12_put hI103 H_r0 (by omega) (by omega) (by omega) (by omega) (by omega) (by omega)) rfl rfl rfl rfl rfl ⟨_, rfl, rfl, T_r0, Nat.le_of_ble_eq_true rfl⟩ rfl rfl (Nat.le_of_ble_eq_true rfl) (Nat.le_of_ble_eq_true rfl) (Nat.le_of_ble_eq_true rfl) ?_
            rintro I125 L126 ⟨p0v124, p1v124, hI125, S127⟩
            have p0v124 := p0v124 r0_5 R_r0_5
            have p1v124 := p1v124 r0_5 R_r0_5
            have F128 : ∀ r : Nat, (r < 41 * n4.toNatClampNeg ∨ 41 * n4.toNatClampNeg + 41 ≤ r) → (r < 41 * 45 ∨ 41 * 45 + 41 ≤ r) → (r < 41 * 46 ∨ 41 * 46 + 41 ≤ r) → (r < 41 * 47 ∨ 41 * 47 + 41 ≤ r) → I125 r0_5 r = I97 r0_5 r := fun r z0 z1 z2 z3 => p1v124 r (by first | exact z0 | exact z1 | exact z2 | exact z3)
            have e129 := CM.j S127 R_r0_4 (by decide) e109
            have e130 := CM.j S127 R_r0_4 (by decide) e110
            have e131 := CM.j S127 R_r0_1 (by decide) e111
            have e132 := CM.j S127 R_r0_4 (by decide) e106
            have e133 := CM.j S127 R_r0_4 (by decide) e113
            have e134 := CM.j S127 R_r0_4 (by decide) e114
            have e135 := CM.j S127 R_r0_4 (by decide) e115
            try simp only [e109, e110, e111, e106, e113, e114, e115] at p0v124
            try have q0v124 := congrArg Int32.toInt p0v124
            have hP := p0v124
            refine z_iinc C (z := 1) (lw := fun x136 => [(7, .int x136), (0, .ref r0), (1, .int n1), (2, .int n2), (3, .int n3), (4, .int n4), (5, .int x21), (6, .int x93)]) rfl rfl rfl (Nat.le_of_ble_eq_true rfl) rfl ⟨by omega, by omega⟩ (fun _ => rfl) (fun x136 ex136 => ?_)
            show V 151 [(7, .int x136), (0, .ref r0), (1, .int n1), (2, .int n2), (3, .int n3), (4, .int n4), (5, .int x21), (6, .int x93)] _ _ _ _
            refine k_goto C (pc2 := 102) rfl rfl ?_
            refine k_sub S [(0, .ref r0), (1, .int n1), (2, .int n2), (3, .int n3), (4, .int n4), (5, .int x21), (6, .int x93), (7, .int x136)] (List.forall_mem_cons.mpr ⟨List.mem_of_getElem? (i := 1) rfl, List.forall_mem_cons.mpr ⟨List.mem_of_getElem? (i := 2) rfl, List.forall_mem_cons.mpr ⟨List.mem_of_getElem? (i := 3) rfl, List.forall_mem_cons.mpr ⟨List.mem_of_getElem? (i := 4) rfl, List.forall_mem_cons.mpr ⟨List.mem_of_getElem? (i := 5) rfl, List.forall_mem_cons.mpr ⟨List.mem_of_getElem? (i := 6) rfl, List.forall_mem_cons.mpr ⟨List.mem_of_getElem? (i := 7) rfl, List.forall_mem_cons.mpr ⟨List.mem_of_getElem? (i := 0) rfl, fun _ h => nomatch h⟩⟩⟩⟩⟩⟩⟩⟩) ?_
            exact ihJ95 _ (MN.lt hmnn96 (by omega) (by omega)) I125 L126 x136 x105 rfl hI125 (CM.cons S102 (CM.mono S127 (by decide) (by decide)) (by decide) (by decide)) (fun r z0 z1 z2 z3 => ((F128 r z0 z1 z2 z3).trans (F104 r z0 z1 z2 z3))) (by omega) (by omega) e132 (by omega) (by omega) (by exact OVM.s ff102_0 hA hby (RVX.at ff102_1 hC (by omega) (by omega)) hT hS hP (fun _ => OVS.s) (by omega) (by omega) (by omega) (by omega)) (by exact RVX.put ff102_1 hP (nclt (by omega) (by omega)) (by omega) (by omega)) (by exact SMR.put ff102_2 hP (nclt (by omega) (by omega)) (by omega)) (by exact SMR.put ff102_3 hP (nclt (by omega) (by omega)) (by omega)) (by omega) (by omega)
        refine k_istore C (lw := [(7, .int x94), (6, .int x93), (0, .ref r0), (1, .int n1), (2, .int n2), (3, .int n3), (4, .int n4), (5, .int x21)]) rfl rfl (Nat.le_of_ble_eq_true rfl) rfl ?_
        refine k_sub S [(0, .ref r0), (1, .int n1), (2, .int n2), (3, .int n3), (4, .int n4), (5, .int x21), (6, .int x93), (7, .int x94)] (List.forall_mem_cons.mpr ⟨List.mem_of_getElem? (i := 2) rfl, List.forall_mem_cons.mpr ⟨List.mem_of_getElem? (i := 3) rfl, List.forall_mem_cons.mpr ⟨List.mem_of_getElem? (i := 4) rfl, List.forall_mem_cons.mpr ⟨List.mem_of_getElem? (i := 5) rfl, List.forall_mem_cons.mpr ⟨List.mem_of_getElem? (i := 6) rfl, List.forall_mem_cons.mpr ⟨List.mem_of_getElem? (i := 7) rfl, List.forall_mem_cons.mpr ⟨List.mem_of_getElem? (i := 1) rfl, List.forall_mem_cons.mpr ⟨List.mem_of_getElem? (i := 0) rfl, fun _ h => nomatch h⟩⟩⟩⟩⟩⟩⟩⟩) ?_
        exact J95 _ I74 L75 x94 x28 rfl hI74 CM.rf (fun r z0 z1 z2 z3 => rfl) (by omega) (by omega) e82 (by omega) (by omega) (by exact OVM.z h4c (by omega)) (by exact hMU) (by exact hc1) (by exact hc2) (by omega) (by omega)
      refine k_iload_n C rfl rfl rfl ?_
      refine k_iload C rfl rfl rfl ?_
      refine c_SI C (a_X12_over_x (by omega) (by omega) (by omega) (by omega) (by first | omega | (simp only [e79, e80, e81, e82, e83, e84, e86, and_true, true_and, or_true, true_or, and_false, false_and, or_false, false_or] <;> omega))) rfl rfl rfl rfl rfl rfl rfl (Nat.le_of_ble_eq_true rfl) (Nat.le_of_ble_eq_true rfl) (Nat.le_of_ble_eq_true rfl) ?_
      rintro x137 _ _ ⟨p0x137, p1x137, p2x137, rfl, rfl⟩
      have gx137 := rg x137
      try simp only [e79, e80, e81, e82, e83, e84, e86] at p0x137
      try have q0x137 := congrArg Int32.toInt p0x137
      try simp only [e79, e80, e81, e82, e83, e84, e86] at p1x137
      try have q1x137 := congrArg Int32.toInt p1x137
      try simp only [e79, e80, e81, e82, e83, e84, e86] at p2x137
      try have q2x137 := congrArg Int32.toInt p2x137
      have hov := p0x137
      refine z_i2l C rfl rfl (fun lg138 elg138 => ?_)
      refine k_goto C (pc2 := 94) rfl rfl ?_
      have hl94 := elg138
      refine c_VI C (a_X12_mod_e hI74 H_r0) rfl rfl rfl rfl rfl ⟨_, rfl, rfl, T_r0, Nat.le_of_ble_eq_true rfl⟩ rfl rfl (Nat.le_of_ble_eq_true rfl) (Nat.le_of_ble_eq_true rfl) (Nat.le_of_ble_eq_true rfl) ?_
      rintro x139 _ _ ⟨o0x139, o1x139, p0x139, p1x139, rfl, rfl⟩
      have p0x139 := p0x139 r0_1 R_r0_1
      have p1x139 := p1x139 r0_1 R_r0_1
      have gx139 := rg x139
      try simp only [e79, e80, e81, e82, e83, e84, e86] at p0x139
      try have q0x139 := congrArg Int32.toInt p0x139
      try simp only [e79, e80, e81, e82, e83, e84, e86] at p1x139
      try have q1x139 := congrArg Int32.toInt p1x139
      have hby : PRE x139.toInt w_r0_1_0.toInt (SGI x21.toNatClampNeg * BNI n3.toInt x21.toNatClampNeg) := by first | exact OVB.y p1x139 hl94 hov hpar (by omega) (by omega) (by omega) | exact OVB.n p1x139 hl94 hv93 hov hpar (by omega) (by omega) (by omega)
      refine k_istore C (lw := [(6, .int x139), (0, .ref r0), (1, .int n1), (2, .int n2), (3, .int n3), (4, .int n4), (5, .int x21)]) rfl rfl (Nat.le_of_ble_eq_true rfl) rfl ?_
      refine z_iconst C (z := 0) rfl rfl rfl (fun x140 ex140 => ?_)
      have J141 : ∀ (nn142 : Nat) (I143 : IT) (L144 : LT) (x145 : Int32) (x151 : Int32), (MN (41 - x145.toInt) nn142) → (IM R r0 I143) → (CM A R r0 [] [5] I74 L75 I143 L144) → (∀ r : Nat, (r < 41 * n4.toNatClampNeg ∨ 41 * n4.toNatClampNeg + 41 ≤ r) → (r < 41 * 45 ∨ 41 * 45 + 41 ≤ r) → (r < 41 * 46 ∨ 41 * 46 + 41 ≤ r) → (r < 41 * 47 ∨ 41 * 47 + 41 ≤ r) → I143 r0_5 r = I74 r0_5 r) → (0 ≤ x145.toInt) → (x145.toInt ≤ 41) → (I143 r0_4 n4.toNatClampNeg = x151) → (0 ≤ x151.toInt) → (x151.toInt ≤ 40) → (RVX I143 r0_5 n4.toNatClampNeg w_r0_1_0.toInt (w_r0_4_n1.toInt + w_r0_4_n2.toInt - 2 * n3.toInt) (OVM (OVS (RI I r0_5 n1.toNatClampNeg) (RI I r0_5 n2.toNatClampNeg) w_r0_4_n1.toInt w_r0_4_n2.toInt n3.toInt x21.toNatClampNeg) (OVS (RI I r0_5 n1.toNatClampNeg) (RI I r0_5 n2.toNatClampNeg) w_r0_4_n1.toInt w_r0_4_n2.toInt n3.toInt (x21.toNatClampNeg + 1)) x145.toInt)) → (RVX I143 r0_5 47 w_r0_1_0.toInt (w_r0_4_n1.toInt + w_r0_4_n2.toInt - 2 * n3.toInt) (CVS (DIF (RI I r0_5 n1.toNatClampNeg) w_r0_4_n1.toInt (n3.toInt.toNat - x21.toNatClampNeg) x21.toNatClampNeg) (DIF (RI I r0_5 n2.toNatClampNeg) w_r0_4_n2.toInt x21.toNatClampNeg (n3.toInt.toNat - x21.toNatClampNeg)) (w_r0_4_n2.toInt - n3.toInt) (w_r0_4_n1.toInt - n3.toInt + 1).toNat)) → (SMR I I143 r0_5 n1.toNatClampNeg) → (SMR I I143 r0_5 n2.toNatClampNeg) → (x145.toInt ≤ (w_r0_4_n1.toInt + w_r0_4_n2.toInt - 2 * n3.toInt) + 1) → (x151.toInt = (w_r0_4_n1.toInt + w_r0_4_n2.toInt - 2 * n3.toInt)) → V 102 [(0, .ref r0), (1, .int n1), (2, .int n2), (3, .int n3), (4, .int n4), (5, .int x21), (6, .int x139), (7, .int x145)] [] (T, N, I143, L144, R) 0 0 := by
        intro nn142
        induction nn142 using Nat.strongRecOn with
        | _ nn142 ihJ141 =>
          intro I143 L144 x145 x151 hmnn142 hI149 S148 F150 b146 b147 e152 b153 b154 ff102_0 ff102_1 ff102_2 ff102_3 ff102_4 ff102_5
          have gx145 := rg x145
          have gx151 := rg x151
          have e155 := CM.j S148 R_r0_4 (by decide) e79
          have e156 := CM.j S148 R_r0_4 (by decide) e80
          have e157 := CM.j S148 R_r0_1 (by decide) e81
          have e158 := CM.j S148 R_r0_4 (by decide) e82
          have e159 := CM.j S148 R_r0_4 (by decide) e83
          have e160 := CM.j S148 R_r0_4 (by decide) e84
          have e161 := CM.j S148 R_r0_4 (by decide) e86
          refine k_iload C rfl rfl rfl ?_
          refine k_aload_n C rfl rfl rfl ?_
          refine g_R C rfl rfl rfl T_r0 rfl R_r0_4 ?_
          refine k_iload C rfl rfl rfl ?_
          refine a_I C rfl rfl T_r0_4 (by rw [N_r0_4]; exact vpi (by omega) (by omega)) e152 ?_
          refine b_icmp_gt C (t := 154) rfl rfl rfl (fun c162 => ?_) (fun c162 => ?_)
          · skip
            refine z_iinc C (z := 1) (lw := fun x163 => [(5, .int x163), (0, .ref r0), (1, .int n1), (2, .int n2), (3, .int n3), (4, .int n4), (6, .int x139), (7, .int x145)]) rfl rfl rfl (Nat.le_of_ble_eq_true rfl) rfl ⟨by omega, by omega⟩ (fun _ => rfl) (fun x163 ex163 => ?_)
            show V 157 [(5, .int x163), (0, .ref r0), (1, .int n1), (2, .int n2), (3, .int n3), (4, .int n4), (6, .int x139), (7, .int x145)] _ _ _ _
            refine k_goto C (pc2 := 26) rfl rfl ?_
            refine k_sub S [(0, .ref r0), (1, .int n1), (2, .int n2), (3, .int n3), (4, .int n4), (5, .int x163)] (List.forall_mem_cons.mpr ⟨List.mem_of_getElem? (i := 1) rfl, List.forall_mem_cons.mpr ⟨List.mem_of_getElem? (i := 2) rfl, List.forall_mem_cons.mpr ⟨List.mem_of_getElem? (i := 3) rfl, List.forall_mem_cons.mpr ⟨List.mem_of_getElem? (i := 4) rfl, List.forall_mem_cons.mpr ⟨List.mem_of_getElem? (i := 5) rfl, List.forall_mem_cons.mpr ⟨List.mem_of_getElem? (i := 0) rfl, fun _ h => nomatch h⟩⟩⟩⟩⟩⟩) ?_
            exact ihJ17 _ (MN.lt hmnn18 (by omega) (by omega)) I143 L144 x163 x151 rfl hI149 (CM.cons S24 (CM.cons S42 (CM.cons S57 (CM.cons S76 (CM.mono S148 (by decide) (by decide)) (by decide) (by decide)) (by decide) (by decide)) (by decide) (by decide)) (by decide) (by decide)) (fun r z0 z1 z2 z3 => ((congrFun (CM.j0 S148 R_r0_4 (by decide)) r).trans ((F77 r z0 z1 z2 z3).trans ((F58 r z0 z1 z2 z3).trans ((F43 r z0 z1 z2 z3).trans (F26 r z0 z1 z2 z3)))))) (fun r z0 z1 z2 z3 => ((F150 r z0 z1 z2 z3).trans ((F78 r z0 z1 z2 z3).trans ((F59 r z0 z1 z2 z3).trans ((F44 r z0 z1 z2 z3).trans (F27 r z0 z1 z2 z3)))))) (by omega) (by omega) e152 (by omega) (by omega) (by exact RVX.cg (OVM.e ff102_0 (by omega)) rfl (fun j _ => by rw [show x163.toNatClampNeg = x21.toNatClampNeg + 1 from by have h9 := ncz (x := x163) (by omega); have h8 := ncz (x := x21) (by omega); omega]; exact PmE.rf)) (by exact ff102_2) (by exact ff102_3) (by omega) (by omega)
          refine k_aload_n C rfl rfl rfl ?_
          refine k_iload C rfl rfl rfl ?_
          refine k_iload C rfl rfl rfl ?_
          refine k_aload_n C rfl rfl rfl ?_
          refine k_aload_n C rfl rfl rfl ?_
          refine k_iload C rfl rfl rfl ?_
          refine k_iload C rfl rfl rfl ?_
          refine c_VI C (a_X12_of hI149 H_r0 (by omega) (by omega) (by omega) (by omega)) rfl rfl rfl rfl rfl ⟨_, rfl, rfl, T_r0, Nat.le_of_ble_eq_true rfl⟩ rfl rfl (Nat.le_of_ble_eq_true rfl) (Nat.le_of_ble_eq_true rfl) (Nat.le_of_ble_eq_true rfl) ?_
          rintro x164 _ _ ⟨o0x164, o1x164, p0x164, rfl, rfl⟩
          have p0x164 := p0x164 r0_5 R_r0_5
          have gx164 := rg x164
          try simp only [e155, e156, e157, e152, e159, e160, e161] at p0x164
          try have q0x164 := congrArg Int32.toInt p0x164
          have hA := p0x164
          refine k_aload_n C rfl rfl rfl ?_
          refine k_iload C rfl rfl rfl ?_
          refine k_aload_n C rfl rfl rfl ?_
          refine z_bipush C (z := 47) rfl rfl rfl (fun x165 ex165 => ?_)
          refine k_iload C rfl rfl rfl ?_
          have q166 : x165.toNatClampNeg = 47 := nck (by omega)
          refine c_VI C (a_X12_of hI149 H_r0 (by omega) (by omega) (by omega) (by omega)) rfl rfl rfl rfl rfl ⟨_, rfl, rfl, T_r0, Nat.le_of_ble_eq_true rfl⟩ rfl rfl (Nat.le_of_ble_eq_true rfl) (Nat.le_of_ble_eq_true rfl) (Nat.le_of_ble_eq_true rfl) ?_
          rintro x167 _ _ ⟨o0x167, o1x167, p0x167, rfl, rfl⟩
          have p0x167 := p0x167 r0_5 R_r0_5
          have gx167 := rg x167
          try simp only [q166, e155, e156, e157, e152, e159, e160, e161] at p0x167
          try have q0x167 := congrArg Int32.toInt p0x167
          have hC := p0x167
          refine c_VI C (a_X12_times hI149 H_r0 (by omega) (by omega) (by omega) (by omega)) rfl rfl rfl rfl rfl ⟨_, rfl, rfl, T_r0, Nat.le_of_ble_eq_true rfl⟩ rfl rfl (Nat.le_of_ble_eq_true rfl) (Nat.le_of_ble_eq_true rfl) (Nat.le_of_ble_eq_true rfl) ?_
          rintro x168 _ _ ⟨o0x168, o1x168, p0x168, p1x168, p2x168, p3x168, rfl, rfl⟩
          have p0x168 := p0x168 r0_1 R_r0_1
          have p2x168 := p2x168 r0_1 R_r0_1
          have p3x168 := p3x168 r0_1 R_r0_1
          have gx168 := rg x168
          try simp only [e155, e156, e157, e152, e159, e160, e161] at p0x168
          try have q0x168 := congrArg Int32.toInt p0x168
          try simp only [e155, e156, e157, e152, e159, e160, e161] at p1x168
          try have q1x168 := congrArg Int32.toInt p1x168
          try simp only [e155, e156, e157, e152, e159, e160, e161] at p2x168
          try have q2x168 := congrArg Int32.toInt p2x168
          try simp only [e155, e156, e157, e152, e159, e160, e161] at p3x168
          try have q3x168 := congrArg Int32.toInt p3x168
          have hT := p3x168
          refine c_VI C (a_X12_plus_e hI149 H_r0 (by omega) (by omega) (by omega) (by omega)) rfl rfl rfl rfl rfl ⟨_, rfl, rfl, T_r0, Nat.le_of_ble_eq_true rfl⟩ rfl rfl (Nat.le_of_ble_eq_true rfl) (Nat.le_of_ble_eq_true rfl) (Nat.le_of_ble_eq_true rfl) ?_
          rintro x169 _ _ ⟨o0x169, o1x169, p0x169, p1x169, p2x169, p3x169, rfl, rfl⟩
          have p0x169 := p0x169 r0_1 R_r0_1
          have p2x169 := p2x169 r0_1 R_r0_1
          have p3x169 := p3x169 r0_1 R_r0_1
          have gx169 := rg x169
          try simp only [e155, e156, e157, e152, e159, e160, e161] at p0x169
          try have q0x169 := congrArg Int32.toInt p0x169
          try simp only [e155, e156, e157, e152, e159, e160, e161] at p1x169
          try have q1x169 := congrArg Int32.toInt p1x169
          try simp only [e155, e156, e157, e152, e159, e160, e161] at p2x169
          try have q2x169 := congrArg Int32.toInt p2x169
          try simp only [e155, e156, e157, e152, e159, e160, e161] at p3x169
          try have q3x169 := congrArg Int32.toInt p3x169
          have hS := p3x169
          refine c_VV C (a_X12_put hI149 H_r0 (by omega) (by omega) (by omega) (by omega) (by omega) (by omega)) rfl rfl rfl rfl rfl ⟨_, rfl, rfl, T_r0, Nat.le_of_ble_eq_true rfl⟩ rfl rfl (Nat.le_of_ble_eq_true rfl) (Nat.le_of_ble_eq_true rfl) (Nat.le_of_ble_eq_true rfl) ?_
          rintro I171 L172 ⟨p0v170, p1v170, hI171, S173⟩
          have p0v170 := p0v170 r0_5 R_r0_5
          have p1v170 := p1v170 r0_5 R_r0_5
          have F174 : ∀ r : Nat, (r < 41 * n4.toNatClampNeg ∨ 41 * n4.toNatClampNeg + 41 ≤ r) → (r < 41 * 45 ∨ 41 * 45 + 41 ≤ r) → (r < 41 * 46 ∨ 41 * 46 + 41 ≤ r) → (r < 41 * 47 ∨ 41 * 47 + 41 ≤ r) → I171 r0_5 r = I143 r0_5 r := fun r z0 z1 z2 z3 => p1v170 r (by first | exact z0 | exact z1 | exact z2 | exact z3)
          have e175 := CM.j S173 R_r0_4 (by decide) e155
          have e176 := CM.j S173 R_r0_4 (by decide) e156
          have e177 := CM.j S173 R_r0_1 (by decide) e157
          have e178 := CM.j S173 R_r0_4 (by decide) e152
          have e179 := CM.j S173 R_r0_4 (by decide) e159
          have e180 := CM.j S173 R_r0_4 (by decide) e160
          have e181 := CM.j S173 R_r0_4 (by decide) e161
          try simp only [e155, e156, e157, e152, e159, e160, e161] at p0v170
          try have q0v170 := congrArg Int32.toInt p0v170
          have hP := p0v170
          refine z_iinc C (z := 1) (lw := fun x182 => [(7, .int x182), (0, .ref r0), (1, .int n1), (2, .int n2), (3, .int n3), (4, .int n4), (5, .int x21), (6, .int x139)]) rfl rfl rfl (Nat.le_of_ble_eq_true rfl) rfl ⟨by omega, by omega⟩ (fun _ => rfl) (fun x182 ex182 => ?_)
          show V 151 [(7, .int x182), (0, .ref r0), (1, .int n1), (2, .int n2), (3, .int n3), (4, .int n4), (5, .int x21), (6, .int x139)] _ _ _ _
          refine k_goto C (pc2 := 102) rfl rfl ?_
          refine k_sub S [(0, .ref r0), (1, .int n1), (2, .int n2), (3, .int n3), (4, .int n4), (5, .int x21), (6, .int x139), (7, .int x182)] (List.forall_mem_cons.mpr ⟨List.mem_of_getElem? (i := 1) rfl, List.forall_mem_cons.mpr ⟨List.mem_of_getElem? (i := 2) rfl, List.forall_mem_cons.mpr ⟨List.mem_of_getElem? (i := 3) rfl, List.forall_mem_cons.mpr ⟨List.mem_of_getElem? (i := 4) rfl, List.forall_mem_cons.mpr ⟨List.mem_of_getElem? (i := 5) rfl, List.forall_mem_cons.mpr ⟨List.mem_of_getElem? (i := 6) rfl, List.forall_mem_cons.mpr ⟨List.mem_of_getElem? (i := 7) rfl, List.forall_mem_cons.mpr ⟨List.mem_of_getElem? (i := 0) rfl, fun _ h => nomatch h⟩⟩⟩⟩⟩⟩⟩⟩) ?_
          exact ihJ141 _ (MN.lt hmnn142 (by omega) (by omega)) I171 L172 x182 x151 rfl hI171 (CM.cons S148 (CM.mono S173 (by decide) (by decide)) (by decide) (by decide)) (fun r z0 z1 z2 z3 => ((F174 r z0 z1 z2 z3).trans (F150 r z0 z1 z2 z3))) (by omega) (by omega) e178 (by omega) (by omega) (by exact OVM.s ff102_0 hA hby (RVX.at ff102_1 hC (by omega) (by omega)) hT hS hP (fun _ => OVS.s) (by omega) (by omega) (by omega) (by omega)) (by exact RVX.put ff102_1 hP (nclt (by omega) (by omega)) (by omega) (by omega)) (by exact SMR.put ff102_2 hP (nclt (by omega) (by omega)) (by omega)) (by exact SMR.put ff102_3 hP (nclt (by omega) (by omega)) (by omega)) (by omega) (by omega)
      refine k_istore C (lw := [(7, .int x140), (6, .int x139), (0, .ref r0), (1, .int n1), (2, .int n2), (3, .int n3), (4, .int n4), (5, .int x21)]) rfl rfl (Nat.le_of_ble_eq_true rfl) rfl ?_
      refine k_sub S [(0, .ref r0), (1, .int n1), (2, .int n2), (3, .int n3), (4, .int n4), (5, .int x21), (6, .int x139), (7, .int x140)] (List.forall_mem_cons.mpr ⟨List.mem_of_getElem? (i := 2) rfl, List.forall_mem_cons.mpr ⟨List.mem_of_getElem? (i := 3) rfl, List.forall_mem_cons.mpr ⟨List.mem_of_getElem? (i := 4) rfl, List.forall_mem_cons.mpr ⟨List.mem_of_getElem? (i := 5) rfl, List.forall_mem_cons.mpr ⟨List.mem_of_getElem? (i := 6) rfl, List.forall_mem_cons.mpr ⟨List.mem_of_getElem? (i := 7) rfl, List.forall_mem_cons.mpr ⟨List.mem_of_getElem? (i := 1) rfl, List.forall_mem_cons.mpr ⟨List.mem_of_getElem? (i := 0) rfl, fun _ h => nomatch h⟩⟩⟩⟩⟩⟩⟩⟩) ?_
      exact J141 _ I74 L75 x140 x28 rfl hI74 CM.rf (fun r z0 z1 z2 z3 => rfl) (by omega) (by omega) e82 (by omega) (by omega) (by exact OVM.z h4c (by omega)) (by exact hMU) (by exact hc1) (by exact hc2) (by omega) (by omega)
  refine k_istore C (lw := [(5, .int x16), (0, .ref r0), (1, .int n1), (2, .int n2), (3, .int n3), (4, .int n4)]) rfl rfl (Nat.le_of_ble_eq_true rfl) rfl ?_
  refine k_sub S [(0, .ref r0), (1, .int n1), (2, .int n2), (3, .int n3), (4, .int n4), (5, .int x16)] (List.forall_mem_cons.mpr ⟨List.mem_of_getElem? (i := 1) rfl, List.forall_mem_cons.mpr ⟨List.mem_of_getElem? (i := 2) rfl, List.forall_mem_cons.mpr ⟨List.mem_of_getElem? (i := 3) rfl, List.forall_mem_cons.mpr ⟨List.mem_of_getElem? (i := 4) rfl, List.forall_mem_cons.mpr ⟨List.mem_of_getElem? (i := 5) rfl, List.forall_mem_cons.mpr ⟨List.mem_of_getElem? (i := 0) rfl, fun _ h => nomatch h⟩⟩⟩⟩⟩⟩) ?_
  exact J17 _ I6 L7 x16 x14 rfl hI6 CM.rf (fun r z0 z1 z2 z3 => rfl) (fun r z0 z1 z2 z3 => rfl) (by omega) (by omega) e15 (by omega) (by omega) (by exact RVX.oz hz20 (by omega) (by omega)) (by exact hs1) (by exact hs2) (by omega) (by omega)

theorem a_X12_joins_x {d : Nat} {T N : Nat → Nat} {I : IT} {L : LT} {R : RT} {A : Nat → Prop} {r0 : Nat} {n1 n2 n3 n4 : Int32} (hI : IM R r0 I) (H_r0 : (h_MD T N R A) r0) (b0_n2 : 0 ≤ n2.toInt) (b1_n2 : n2.toInt ≤ 999) (b0_n3 : 0 ≤ n3.toInt) (b1_n3 : n3.toInt ≤ 39) (b0_n4 : 0 ≤ n4.toInt) (b1_n4 : n4.toInt ≤ 39) (hp0 : ∀ a1 a4 a5, R r0 1 = some a1 → R r0 4 = some a4 → R r0 5 = some a5 → RCN I a5 n3.toNatClampNeg (I a1 0).toInt (I a4 n3.toNatClampNeg).toInt) (hp1 : ∀ a1 a4 a5, R r0 1 = some a1 → R r0 4 = some a4 → R r0 5 = some a5 → RCN I a5 n4.toNatClampNeg (I a1 0).toInt (I a4 n4.toNatClampNeg).toInt) (hp2 : n3.toInt ≠ n4.toInt) (hp3 : n1.toInt ≠ 2 → n1.toInt ≠ 3 → n2.toInt ≤ 8) : Ex (d + 7) 251 [.ref r0, .int n1, .int n2, .int n3, .int n4] (T, N, I, L, R) 0 0 (pI T N R (fun x9 I9 L9 => (0 ≤ x9.toInt) ∧ (x9.toInt ≤ 1) ∧ (∀ a1 a4 a5, R r0 1 = some a1 → R r0 4 = some a4 → R r0 5 = some a5 → JRD I9 I a4 a5 n3.toNatClampNeg n4.toNatClampNeg n1.toInt n2.toInt x9.toInt (I a1 0).toInt) ∧ (∀ a4, R r0 4 = some a4 → ∀ r : Nat, r ≠ n3.toNatClampNeg → r ≠ 43 → r ≠ 45 → r ≠ 46 → r ≠ 47 → I9 a4 r = I a4 r) ∧ (∀ a5, R r0 5 = some a5 → ∀ r : Nat, (r < 41 * n3.toNatClampNeg ∨ 41 * n3.toNatClampNeg + 41 ≤ r) → (r < 41 * 43 ∨ 41 * 43 + 41 ≤ r) → (r < 41 * 45 ∨ 41 * 45 + 41 ≤ r) → (r < 41 * 46 ∨ 41 * 46 + 41 ≤ r) → (r < 41 * 47 ∨ 41 * 47 + 41 ≤ r) → I9 a5 r = I a5 r) ∧ (IM R r0 I9 ∧ CM A R r0 [] [4, 5] I L I9 L9))) := by
  refine ⟨_, rfl, Nat.le_of_ble_eq_true rfl, fun V C S => ?_⟩
  show V 0 [(0, .ref r0), (1, .int n1), (2, .int n2), (3, .int n3), (4, .int n4)] [] (T, N, I, L, R) 0 0
  have gn1 := rg n1
  have gn2 := rg n2
  have gn3 := rg n3
  have gn4 := rg n4
  obtain ⟨T_r0, A_r0, ⟨r0_1, R_r0_1, H_r0_1⟩, ⟨r0_2, R_r0_2, H_r0_2⟩, ⟨r0_4, R_r0_4, H_r0_4⟩, ⟨r0_5, R_r0_5, H_r0_5⟩, ⟨r0_10, R_r0_10, H_r0_10⟩, ⟨r0_18, R_r0_18, H_r0_18⟩, ⟨r0_20, R_r0_20, H_r0_20⟩, ⟨r0_21, R_r0_21, H_r0_21⟩, ⟨r0_22, R_r0_22, H_r0_22⟩, ⟨r0_23, R_r0_23, H_r0_23⟩, ⟨r0_25, R_r0_25, H_r0_25⟩, ⟨r0_26, R_r0_26, H_r0_26⟩, ⟨r0_27, R_r0_27, H_r0_27⟩, ⟨r0_28, R_r0_28, H_r0_28⟩, ⟨r0_34, R_r0_34, H_r0_34⟩, J_r0, Y_r0⟩ := id H_r0
  have G_r0 : mF T R r0 := ⟨J_r0, Y_r0, T_r0⟩
  obtain ⟨w_r0_4_n3, k0_r0_4_n3⟩ : ∃ x, I r0_4 n3.toNatClampNeg = x := ⟨_, rfl⟩
  have gw_r0_4_n3 := rg w_r0_4_n3
  have ow_r0_4_n3 := IM.dgR hI R_r0_4 k0_r0_4_n3
  obtain ⟨w_r0_4_n4, k0_r0_4_n4⟩ : ∃ x, I r0_4 n4.toNatClampNeg = x := ⟨_, rfl⟩
  have gw_r0_4_n4 := rg w_r0_4_n4
  have ow_r0_4_n4 := IM.dgR hI R_r0_4 k0_r0_4_n4
  obtain ⟨w_r0_1_0, k0_r0_1_0⟩ : ∃ x, I r0_1 0 = x := ⟨_, rfl⟩
  have gw_r0_1_0 := rg w_r0_1_0
  have ow_r0_1_0 := IM.pi hI R_r0_1 k0_r0_1_0
  have hp0 := hp0 r0_1 r0_4 r0_5 R_r0_1 R_r0_4 R_r0_5
  have hp1 := hp1 r0_1 r0_4 r0_5 R_r0_1 R_r0_4 R_r0_5
  try simp only [k0_r0_4_n3, k0_r0_4_n4, k0_r0_1_0] at hp0
  try simp only [k0_r0_4_n3, k0_r0_4_n4, k0_r0_1_0] at hp1
  try simp only [k0_r0_4_n3, k0_r0_4_n4, k0_r0_1_0] at hp2
  try simp only [k0_r0_4_n3, k0_r0_4_n4, k0_r0_1_0] at hp3
  have hn3 := ncz (x := n3) (by omega)
  have hn4 := ncz (x := n4) (by omega)
  have hnn := ncne (x := n3) (y := n4) (by omega) (by omega) (by omega)
  refine k_iload_n C rfl rfl rfl ?_
  refine z_iconst C (z := 2) rfl rfl rfl (fun x1 ex1 => ?_)
  refine b_icmp_ne C (t := 71) rfl rfl rfl (fun c2 => ?_) (fun c2 => ?_)
  · skip
    refine k_iload_n C rfl rfl rfl ?_
    refine z_iconst C (z := 3) rfl rfl rfl (fun x3 ex3 => ?_)
    refine b_icmp_ne C (t := 98) rfl rfl rfl (fun c4 => ?_) (fun c4 => ?_)
    · skip
      refine k_iload_n C rfl rfl rfl ?_
      refine k_aload_n C rfl rfl rfl ?_
      refine g_R C rfl rfl rfl T_r0 rfl R_r0_4 ?_
      refine k_iload_n C rfl rfl rfl ?_
      obtain ⟨T_r0_4, N_r0_4, A_r0_4⟩ := id H_r0_4
      refine a_I C rfl rfl T_r0_4 (by rw [N_r0_4]; exact vpi (by omega) (by omega)) k0_r0_4_n3 ?_
      refine b_icmp_gt C (t := 142) rfl rfl rfl (fun c5 => ?_) (fun c5 => ?_)
      · skip
        refine z_iconst C (z := 0) rfl rfl rfl (fun x6 ex6 => ?_)
        exact k_iret C rfl (Or.inr ⟨rfl, z01 (by omega) (by omega)⟩) (Nat.le_of_ble_eq_true rfl) (Nat.le_of_ble_eq_true rfl) ⟨_, _, _, rfl, rfl, by omega, by omega, fun a1 a4 a5 h1 h4 h5 => by cases (R_r0_1.symm.trans h1); cases (R_r0_4.symm.trans h4); cases (R_r0_5.symm.trans h5); exact JRD.n0 (by omega) (by omega) (congrArg Int32.toInt k0_r0_4_n3) (congrArg Int32.toInt k0_r0_4_n4) (by omega), fun a4 h4 => by cases (R_r0_4.symm.trans h4); exact (fun r z0 z1 z2 z3 z4 => rfl), fun a5 h5 => by cases (R_r0_5.symm.trans h5); exact (fun r z0 z1 z2 z3 z4 => rfl), hI, CM.rf⟩
      refine k_iload_n C rfl rfl rfl ?_
      refine k_aload_n C rfl rfl rfl ?_
      refine g_R C rfl rfl rfl T_r0 rfl R_r0_4 ?_
      refine k_iload C rfl rfl rfl ?_
      refine a_I C rfl rfl T_r0_4 (by rw [N_r0_4]; exact vpi (by omega) (by omega)) k0_r0_4_n4 ?_
      refine b_icmp_gt C (t := 142) rfl rfl rfl (fun c7 => ?_) (fun c7 => ?_)
      · skip
        refine z_iconst C (z := 0) rfl rfl rfl (fun x8 ex8 => ?_)
        exact k_iret C rfl (Or.inr ⟨rfl, z01 (by omega) (by omega)⟩) (Nat.le_of_ble_eq_true rfl) (Nat.le_of_ble_eq_true rfl) ⟨_, _, _, rfl, rfl, by omega, by omega, fun a1 a4 a5 h1 h4 h5 => by cases (R_r0_1.symm.trans h1); cases (R_r0_4.symm.trans h4); cases (R_r0_5.symm.trans h5); exact JRD.n0 (by omega) (by omega) (congrArg Int32.toInt k0_r0_4_n3) (congrArg Int32.toInt k0_r0_4_n4) (by omega), fun a4 h4 => by cases (R_r0_4.symm.trans h4); exact (fun r z0 z1 z2 z3 z4 => rfl), fun a5 h5 => by cases (R_r0_5.symm.trans h5); exact (fun r z0 z1 z2 z3 z4 => rfl), hI, CM.rf⟩
      refine k_aload_n C rfl rfl rfl ?_
      refine g_R C rfl rfl rfl T_r0 rfl R_r0_4 ?_
      refine k_iload_n C rfl rfl rfl ?_
      refine a_I C rfl rfl T_r0_4 (by rw [N_r0_4]; exact vpi (by omega) (by omega)) k0_r0_4_n3 ?_
      refine k_aload_n C rfl rfl rfl ?_
      refine g_R C rfl rfl rfl T_r0 rfl R_r0_4 ?_
      refine k_iload C rfl rfl rfl ?_
      refine a_I C rfl rfl T_r0_4 (by rw [N_r0_4]; exact vpi (by omega) (by omega)) k0_r0_4_n4 ?_
      refine z_iadd C rfl rfl ⟨by omega, by omega⟩ (fun x9 ex9 => ?_)
      refine z_iconst C (z := 2) rfl rfl rfl (fun x10 ex10 => ?_)
      refine k_iload_n C rfl rfl rfl ?_
      refine z_imulL C (c := 2) rfl rfl (by omega) ⟨by omega, by omega⟩ (fun x11 ex11 => ?_)
      refine z_isub C rfl rfl ⟨by omega, by omega⟩ (fun x12 ex12 => ?_)
      refine z_bipush C (z := 41) rfl rfl rfl (fun x13 ex13 => ?_)
      refine b_icmp_lt C (t := 144) rfl rfl rfl (fun c14 => ?_) (fun c14 => ?_)
      · skip
        refine k_iload_n C rfl rfl rfl ?_
        refine z_iconst C (z := 3) rfl rfl rfl (fun x15 ex15 => ?_)
        refine b_icmp_ne C (t := 161) rfl rfl rfl (fun c16 => ?_) (fun c16 => ?_)
        · skip
          refine k_aload_n C rfl rfl rfl ?_
          refine k_iload_n C rfl rfl rfl ?_
          refine k_iload C rfl rfl rfl ?_
          refine k_iload_n C rfl rfl rfl ?_
          refine z_bipush C (z := 43) rfl rfl rfl (fun x17 ex17 => ?_)
          have hp9 := hp3 (by omega) (by omega)
          have q18 : x17.toNatClampNeg = 43 := nck (by omega)
          refine c_VV C (a_X12_overlaps_x hI H_r0 (by omega) (by omega) (by omega) (by omega) (by omega) (by omega) (by omega) (by omega) (fun a4 h4 => by cases (R_r0_4.symm.trans h4); first | omega | (simp only [q18, k0_r0_4_n3, k0_r0_4_n4, k0_r0_1_0, and_true, true_and, or_true, true_or, and_false, false_and, or_false, false_or] <;> omega)) (fun a4 h4 => by cases (R_r0_4.symm.trans h4); first | omega | (simp only [q18, k0_r0_4_n3, k0_r0_4_n4, k0_r0_1_0, and_true, true_and, or_true, true_or, and_false, false_and, or_false, false_or] <;> omega)) (fun a4 h4 => by cases (R_r0_4.symm.trans h4); first | omega | (simp only [q18, k0_r0_4_n3, k0_r0_4_n4, k0_r0_1_0, and_true, true_and, or_true, true_or, and_false, false_and, or_false, false_or] <;> omega)) (fun a1 a4 a5 h1 h4 h5 => by cases (R_r0_1.symm.trans h1); cases (R_r0_4.symm.trans h4); cases (R_r0_5.symm.trans h5); first | omega | (simp only [q18, k0_r0_4_n3, k0_r0_4_n4, k0_r0_1_0, and_true, true_and, or_true, true_or, and_false, false_and, or_false, false_or] <;> omega)) (fun a1 a4 a5 h1 h4 h5 => by cases (R_r0_1.symm.trans h1); cases (R_r0_4.symm.trans h4); cases (R_r0_5.symm.trans h5); first | omega | (simp only [q18, k0_r0_4_n3, k0_r0_4_n4, k0_r0_1_0, and_true, true_and, or_true, true_or, and_false, false_and, or_false, false_or] <;> omega))) rfl rfl rfl rfl rfl ⟨_, rfl, rfl, T_r0, Nat.le_of_ble_eq_true rfl⟩ rfl rfl (Nat.le_of_ble_eq_true rfl) (Nat.le_of_ble_eq_true rfl) (Nat.le_of_ble_eq_true rfl) ?_
          rintro I20 L21 ⟨p0v19, p1v19, p2v19, p3v19, hI20, S22⟩
          have p0v19 := p0v19 r0_4 R_r0_4
          have p1v19 := p1v19 r0_1 r0_4 r0_5 R_r0_1 R_r0_4 R_r0_5
          have p2v19 := p2v19 r0_4 R_r0_4
          have p3v19 := p3v19 r0_5 R_r0_5
          try simp only [q18] at p2v19
          have F23 : ∀ r : Nat, r ≠ n3.toNatClampNeg → r ≠ 43 → r ≠ 45 → r ≠ 46 → r ≠ 47 → I20 r0_4 r = I r0_4 r := fun r z0 z1 z2 z3 z4 => p2v19 r (by first | exact z0 | exact z1 | exact z2 | exact z3 | exact z4) (by first | exact z0 | exact z1 | exact z2 | exact z3 | exact z4) (by first | exact z0 | exact z1 | exact z2 | exact z3 | exact z4) (by first | exact z0 | exact z1 | exact z2 | exact z3 | exact z4)
          try simp only [q18] at p3v19
          have F24 : ∀ r : Nat, (r < 41 * n3.toNatClampNeg ∨ 41 * n3.toNatClampNeg + 41 ≤ r) → (r < 41 * 43 ∨ 41 * 43 + 41 ≤ r) → (r < 41 * 45 ∨ 41 * 45 + 41 ≤ r) → (r < 41 * 46 ∨ 41 * 46 + 41 ≤ r) → (r < 41 * 47 ∨ 41 * 47 + 41 ≤ r) → I20 r0_5 r = I r0_5 r := fun r z0 z1 z2 z3 z4 => p3v19 r (by first | exact z0 | exact z1 | exact z2 | exact z3 | exact z4) (by first | exact z0 | exact z1 | exact z2 | exact z3 | exact z4) (by first | exact z0 | exact z1 | exact z2 | exact z3 | exact z4) (by first | exact z0 | exact z1 | exact z2 | exact z3 | exact z4)
          have e25 := (p2v19 n3.toNatClampNeg (by first | decide | exact ncne (by omega) (by omega) (by omega) | exact nckn (by omega) (by omega) | exact (nckn (by omega) (by omega)).symm) (by first | decide | exact ncne (by omega) (by omega) (by omega) | exact nckn (by omega) (by omega) | exact (nckn (by omega) (by omega)).symm) (by first | decide | exact ncne (by omega) (by omega) (by omega) | exact nckn (by omega) (by omega) | exact (nckn (by omega) (by omega)).symm) (by first | decide | exact ncne (by omega) (by omega) (by omega) | exact nckn (by omega) (by omega) | exact (nckn (by omega) (by omega)).symm)).trans k0_r0_4_n3
          have e26 := (p2v19 n4.toNatClampNeg (by first | decide | exact ncne (by omega) (by omega) (by omega) | exact nckn (by omega) (by omega) | exact (nckn (by omega) (by omega)).symm) (by first | decide | exact ncne (by omega) (by omega) (by omega) | exact nckn (by omega) (by omega) | exact (nckn (by omega) (by omega)).symm) (by first | decide | exact ncne (by omega) (by omega) (by omega) | exact nckn (by omega) (by omega) | exact (nckn (by omega) (by omega)).symm) (by first | decide | exact ncne (by omega) (by omega) (by omega) | exact nckn (by omega) (by omega) | exact (nckn (by omega) (by omega)).symm)).trans k0_r0_4_n4
          have e27 := CM.j S22 R_r0_1 (by decide) k0_r0_1_0
          obtain ⟨x28, e29⟩ : ∃ x, I20 r0_4 43 = x := ⟨_, rfl⟩
          have gx28 := rg x28
          have ox28 := IM.dgR hI20 R_r0_4 e29
          try simp only [q18, k0_r0_4_n3, k0_r0_4_n4, k0_r0_1_0, e29] at p0v19
          try have q0v19 := congrArg Int32.toInt p0v19
          try simp only [q18, k0_r0_4_n3, k0_r0_4_n4, k0_r0_1_0, e29] at p1v19
          try have q1v19 := congrArg Int32.toInt p1v19
          have ho0 := p0v19
          have ho1 := p1v19
          refine k_aload_n C rfl rfl rfl ?_
          refine z_bipush C (z := 43) rfl rfl rfl (fun x30 ex30 => ?_)
          refine k_iload_n C rfl rfl rfl ?_
          have q31 : x30.toNatClampNeg = 43 := nck (by omega)
          refine c_VV C (a_X12_copies hI20 H_r0 (by omega) (by omega) (by omega) (by omega) (by first | omega | (simp only [q31, e25, e26, e27, e29, and_true, true_and, or_true, true_or, and_false, false_and, or_false, false_or] <;> omega))) rfl rfl rfl rfl rfl ⟨_, rfl, rfl, T_r0, Nat.le_of_ble_eq_true rfl⟩ rfl rfl (Nat.le_of_ble_eq_true rfl) (Nat.le_of_ble_eq_true rfl) (Nat.le_of_ble_eq_true rfl) ?_
          rintro I33 L34 ⟨p0v32, p1v32, p2v32, p3v32, hI33, S35⟩
          have p0v32 := p0v32 r0_4 R_r0_4
          have p1v32 := p1v32 r0_4 r0_5 R_r0_4 R_r0_5
          have p2v32 := p2v32 r0_4 R_r0_4
          have p3v32 := p3v32 r0_5 R_r0_5
          try simp only [q31] at p2v32
          have F36 : ∀ r : Nat, r ≠ n3.toNatClampNeg → r ≠ 43 → r ≠ 45 → r ≠ 46 → r ≠ 47 → I33 r0_4 r = I20 r0_4 r := fun r z0 z1 z2 z3 z4 => p2v32 r (by first | exact z0 | exact z1 | exact z2 | exact z3 | exact z4)
          try simp only [q31] at p3v32
          have F37 : ∀ r : Nat, (r < 41 * n3.toNatClampNeg ∨ 41 * n3.toNatClampNeg + 41 ≤ r) → (r < 41 * 43 ∨ 41 * 43 + 41 ≤ r) → (r < 41 * 45 ∨ 41 * 45 + 41 ≤ r) → (r < 41 * 46 ∨ 41 * 46 + 41 ≤ r) → (r < 41 * 47 ∨ 41 * 47 + 41 ≤ r) → I33 r0_5 r = I20 r0_5 r := fun r z0 z1 z2 z3 z4 => p3v32 r (by first | exact z0 | exact z1 | exact z2 | exact z3 | exact z4)
          have e40 := CM.j S35 R_r0_1 (by decide) e27
          have e41 := (p2v32 43 (by first | decide | exact ncne (by omega) (by omega) (by omega) | exact nckn (by omega) (by omega) | exact (nckn (by omega) (by omega)).symm)).trans e29
          obtain ⟨x42, e43⟩ : ∃ x, I33 r0_4 n3.toNatClampNeg = x := ⟨_, rfl⟩
          have gx42 := rg x42
          have ox42 := IM.dgR hI33 R_r0_4 e43
          try simp only [q31, e25, e26, e27, e29, e43] at p0v32
          try have q0v32 := congrArg Int32.toInt p0v32
          try simp only [q31, e25, e26, e27, e29, e43] at p1v32
          try have q1v32 := congrArg Int32.toInt p1v32
          have hc0 := p0v32
          have hc1 := p1v32
          refine z_iconst C (z := 1) rfl rfl rfl (fun x44 ex44 => ?_)
          exact k_iret C rfl (Or.inr ⟨rfl, z01 (by omega) (by omega)⟩) (Nat.le_of_ble_eq_true rfl) (Nat.le_of_ble_eq_true rfl) ⟨_, _, _, rfl, rfl, by omega, by omega, fun a1 a4 a5 h1 h4 h5 => by cases (R_r0_1.symm.trans h1); cases (R_r0_4.symm.trans h4); cases (R_r0_5.symm.trans h5); simp only [k0_r0_1_0]; first | exact JRD.m1 (by omega) (by omega) (congrArg Int32.toInt k0_r0_4_n3) (congrArg Int32.toInt k0_r0_4_n4) (by omega) hc1 (by rw [e43]; omega) (by omega) hm1 | exact JRD.o1 (by omega) (by omega) (by omega) (congrArg Int32.toInt k0_r0_4_n3) (congrArg Int32.toInt k0_r0_4_n4) (by omega) hc1 (by rw [e43]; omega) (by omega) ho1, fun a4 h4 => by cases (R_r0_4.symm.trans h4); exact (fun r z0 z1 z2 z3 z4 => ((F36 r z0 z1 z2 z3 z4).trans (F23 r z0 z1 z2 z3 z4))), fun a5 h5 => by cases (R_r0_5.symm.trans h5); exact (fun r z0 z1 z2 z3 z4 => ((F37 r z0 z1 z2 z3 z4).trans (F24 r z0 z1 z2 z3 z4))), hI33, (CM.cons S22 (CM.mono S35 (by decide) (by decide)) (by decide) (by decide))⟩
        refine k_aload_n C rfl rfl rfl ?_
        refine k_iload_n C rfl rfl rfl ?_
        refine k_iload C rfl rfl rfl ?_
        refine z_bipush C (z := 43) rfl rfl rfl (fun x45 ex45 => ?_)
        have hp9 : n1.toInt = 3 := by omega
        have q46 : x45.toNatClampNeg = 43 := nck (by omega)
        refine c_VV C (a_X12_multiplies_x hI H_r0 (by omega) (by omega) (by omega) (by omega) (by omega) (by omega) (by first | omega | (simp only [q46, k0_r0_4_n3, k0_r0_4_n4, k0_r0_1_0, and_true, true_and, or_true, true_or, and_false, false_and, or_false, false_or] <;> omega)) (by first | omega | (simp only [q46, k0_r0_4_n3, k0_r0_4_n4, k0_r0_1_0, and_true, true_and, or_true, true_or, and_false, false_and, or_false, false_or] <;> omega)) (fun a4 h4 => by cases (R_r0_4.symm.trans h4); first | omega | (simp only [q46, k0_r0_4_n3, k0_r0_4_n4, k0_r0_1_0, and_true, true_and, or_true, true_or, and_false, false_and, or_false, false_or] <;> omega)) (fun a1 a4 a5 h1 h4 h5 => by cases (R_r0_1.symm.trans h1); cases (R_r0_4.symm.trans h4); cases (R_r0_5.symm.trans h5); first | omega | (simp only [q46, k0_r0_4_n3, k0_r0_4_n4, k0_r0_1_0, and_true, true_and, or_true, true_or, and_false, false_and, or_false, false_or] <;> omega)) (fun a1 a4 a5 h1 h4 h5 => by cases (R_r0_1.symm.trans h1); cases (R_r0_4.symm.trans h4); cases (R_r0_5.symm.trans h5); first | omega | (simp only [q46, k0_r0_4_n3, k0_r0_4_n4, k0_r0_1_0, and_true, true_and, or_true, true_or, and_false, false_and, or_false, false_or] <;> omega))) rfl rfl rfl rfl rfl ⟨_, rfl, rfl, T_r0, Nat.le_of_ble_eq_true rfl⟩ rfl rfl (Nat.le_of_ble_eq_true rfl) (Nat.le_of_ble_eq_true rfl) (Nat.le_of_ble_eq_true rfl) ?_
        rintro I48 L49 ⟨p0v47, p1v47, p2v47, p3v47, hI48, S50⟩
        have p0v47 := p0v47 r0_4 R_r0_4
        have p1v47 := p1v47 r0_1 r0_4 r0_5 R_r0_1 R_r0_4 R_r0_5
        have p2v47 := p2v47 r0_4 R_r0_4
        have p3v47 := p3v47 r0_5 R_r0_5
        try simp only [q46] at p2v47
        have F51 : ∀ r : Nat, r ≠ n3.toNatClampNeg → r ≠ 43 → r ≠ 45 → r ≠ 46 → r ≠ 47 → I48 r0_4 r = I r0_4 r := fun r z0 z1 z2 z3 z4 => p2v47 r (by first | exact z0 | exact z1 | exact z2 | exact z3 | exact z4)
        try simp only [q46] at p3v47
        have F52 : ∀ r : Nat, (r < 41 * n3.toNatClampNeg ∨ 41 * n3.toNatClampNeg + 41 ≤ r) → (r < 41 * 43 ∨ 41 * 43 + 41 ≤ r) → (r < 41 * 45 ∨ 41 * 45 + 41 ≤ r) → (r < 41 * 46 ∨ 41 * 46 + 41 ≤ r) → (r < 41 * 47 ∨ 41 * 47 + 41 ≤ r) → I48 r0_5 r = I r0_5 r := fun r z0 z1 z2 z3 z4 => p3v47 r (by first | exact z0 | exact z1 | exact z2 | exact z3 | exact z4)
        have e53 := (p2v47 n3.toNatClampNeg (by first | decide | exact ncne (by omega) (by omega) (by omega) | exact nckn (by omega) (by omega) | exact (nckn (by omega) (by omega)).symm)).trans k0_r0_4_n3
        have e54 := (p2v47 n4.toNatClampNeg (by first | decide | exact ncne (by omega) (by omega) (by omega) | exact nckn (by omega) (by omega) | exact (nckn (by omega) (by omega)).symm)).trans k0_r0_4_n4
        have e55 := CM.j S50 R_r0_1 (by decide) k0_r0_1_0
        obtain ⟨x56, e57⟩ : ∃ x, I48 r0_4 43 = x := ⟨_, rfl⟩
        have gx56 := rg x56
        have ox56 := IM.dgR hI48 R_r0_4 e57
        try simp only [q46, k0_r0_4_n3, k0_r0_4_n4, k0_r0_1_0, e57] at p0v47
        try have q0v47 := congrArg Int32.toInt p0v47
        try simp only [q46, k0_r0_4_n3, k0_r0_4_n4, k0_r0_1_0, e57] at p1v47
        try have q1v47 := congrArg Int32.toInt p1v47
        have hm0 := p0v47
        have hm1 := p1v47
        refine k_goto C (pc2 := 171) rfl rfl ?_
        refine k_aload_n C rfl rfl rfl ?_
        refine z_bipush C (z := 43) rfl rfl rfl (fun x58 ex58 => ?_)
        refine k_iload_n C rfl rfl rfl ?_
        have q59 : x58.toNatClampNeg = 43 := nck (by omega)
        refine c_VV C (a_X12_copies hI48 H_r0 (by omega) (by omega) (by omega) (by omega) (by first | omega | (simp only [q59, e53, e54, e55, e57, and_true, true_and, or_true, true_or, and_false, false_and, or_false, false_or] <;> omega))) rfl rfl rfl rfl rfl ⟨_, rfl, rfl, T_r0, Nat.le_of_ble_eq_true rfl⟩ rfl rfl (Nat.le_of_ble_eq_true rfl) (Nat.le_of_ble_eq_true rfl) (Nat.le_of_ble_eq_true rfl) ?_
        rintro I61 L62 ⟨p0v60, p1v60, p2v60, p3v60, hI61, S63⟩
        have p0v60 := p0v60 r0_4 R_r0_4
        have p1v60 := p1v60 r0_4 r0_5 R_r0_4 R_r0_5
        have p2v60 := p2v60 r0_4 R_r0_4
        have p3v60 := p3v60 r0_5 R_r0_5
        try simp only [q59] at p2v60
        have F64 : ∀ r : Nat, r ≠ n3.toNatClampNeg → r ≠ 43 → r ≠ 45 → r ≠ 46 → r ≠ 47 → I61 r0_4 r = I48 r0_4 r := fun r z0 z1 z2 z3 z4 => p2v60 r (by first | exact z0 | exact z1 | exact z2 | exact z3 | exact z4)
        try simp only [q59] at p3v60
        have F65 : ∀ r : Nat, (r < 41 * n3.toNatClampNeg ∨ 41 * n3.toNatClampNeg + 41 ≤ r) → (r < 41 * 43 ∨ 41 * 43 + 41 ≤ r) → (r < 41 * 45 ∨ 41 * 45 + 41 ≤ r) → (r < 41 * 46 ∨ 41 * 46 + 41 ≤ r) → (r < 41 * 47 ∨ 41 * 47 + 41 ≤ r) → I61 r0_5 r = I48 r0_5 r := fun r z0 z1 z2 z3 z4 => p3v60 r (by first | exact z0 | exact z1 | exact z2 | exact z3 | exact z4)
        have e68 := CM.j S63 R_r0_1 (by decide) e55
        have e69 := (p2v60 43 (by first | decide | exact ncne (by omega) (by omega) (by omega) | exact nckn (by omega) (by omega) | exact (nckn (by omega) (by omega)).symm)).trans e57
        obtain ⟨x70, e71⟩ : ∃ x, I61 r0_4 n3.toNatClampNeg = x := ⟨_, rfl⟩
        have gx70 := rg x70
        have ox70 := IM.dgR hI61 R_r0_4 e71
        try simp only [q59, e53, e54, e55, e57, e71] at p0v60
        try have q0v60 := congrArg Int32.toInt p0v60
        try simp only [q59, e53, e54, e55, e57, e71] at p1v60
        try have q1v60 := congrArg Int32.toInt p1v60
        have hc0 := p0v60
        have hc1 := p1v60
        refine z_iconst C (z := 1) rfl rfl rfl (fun x72 ex72 => ?_)
        exact k_iret C rfl (Or.inr ⟨rfl, z01 (by omega) (by omega)⟩) (Nat.le_of_ble_eq_true rfl) (Nat.le_of_ble_eq_true rfl) ⟨_, _, _, rfl, rfl, by omega, by omega, fun a1 a4 a5 h1 h4 h5 => by cases (R_r0_1.symm.trans h1); cases (R_r0_4.symm.trans h4); cases (R_r0_5.symm.trans h5); simp only [k0_r0_1_0]; first | exact JRD.m1 (by omega) (by omega) (congrArg Int32.toInt k0_r0_4_n3) (congrArg Int32.toInt k0_r0_4_n4) (by omega) hc1 (by rw [e71]; omega) (by omega) hm1 | exact JRD.o1 (by omega) (by omega) (by omega) (congrArg Int32.toInt k0_r0_4_n3) (congrArg Int32.toInt k0_r0_4_n4) (by omega) hc1 (by rw [e71]; omega) (by omega) ho1, fun a4 h4 => by cases (R_r0_4.symm.trans h4); exact (fun r z0 z1 z2 z3 z4 => ((F64 r z0 z1 z2 z3 z4).trans (F51 r z0 z1 z2 z3 z4))), fun a5 h5 => by cases (R_r0_5.symm.trans h5); exact (fun r z0 z1 z2 z3 z4 => ((F65 r z0 z1 z2 z3 z4).trans (F52 r z0 z1 z2 z3 z4))), hI61, (CM.cons S50 (CM.mono S63 (by decide) (by decide)) (by decide) (by decide))⟩
      refine z_iconst C (z := 0) rfl rfl rfl (fun x73 ex73 => ?_)
      exact k_iret C rfl (Or.inr ⟨rfl, z01 (by omega) (by omega)⟩) (Nat.le_of_ble_eq_true rfl) (Nat.le_of_ble_eq_true rfl) ⟨_, _, _, rfl, rfl, by omega, by omega, fun a1 a4 a5 h1 h4 h5 => by cases (R_r0_1.symm.trans h1); cases (R_r0_4.symm.trans h4); cases (R_r0_5.symm.trans h5); exact JRD.n0 (by omega) (by omega) (congrArg Int32.toInt k0_r0_4_n3) (congrArg Int32.toInt k0_r0_4_n4) (by omega), fun a4 h4 => by cases (R_r0_4.symm.trans h4); exact (fun r z0 z1 z2 z3 z4 => rfl), fun a5 h5 => by cases (R_r0_5.symm.trans h5); exact (fun r z0 z1 z2 z3 z4 => rfl), hI, CM.rf⟩
    refine k_aload_n C rfl rfl rfl ?_
    refine g_R C rfl rfl rfl T_r0 rfl R_r0_4 ?_
    refine k_iload_n C rfl rfl rfl ?_
    obtain ⟨T_r0_4, N_r0_4, A_r0_4⟩ := id H_r0_4
    refine a_I C rfl rfl T_r0_4 (by rw [N_r0_4]; exact vpi (by omega) (by omega)) k0_r0_4_n3 ?_
    refine k_aload_n C rfl rfl rfl ?_
    refine g_R C rfl rfl rfl T_r0 rfl R_r0_4 ?_
    refine k_iload C rfl rfl rfl ?_
    refine a_I C rfl rfl T_r0_4 (by rw [N_r0_4]; exact vpi (by omega) (by omega)) k0_r0_4_n4 ?_
    refine z_iadd C rfl rfl ⟨by omega, by omega⟩ (fun x74 ex74 => ?_)
    refine z_bipush C (z := 41) rfl rfl rfl (fun x75 ex75 => ?_)
    refine b_icmp_lt C (t := 144) rfl rfl rfl (fun c76 => ?_) (fun c76 => ?_)
    · skip
      refine k_iload_n C rfl rfl rfl ?_
      refine z_iconst C (z := 3) rfl rfl rfl (fun x77 ex77 => ?_)
      refine b_icmp_ne C (t := 161) rfl rfl rfl (fun c78 => by exfalso; omega) (fun c78 => ?_)
      refine k_aload_n C rfl rfl rfl ?_
      refine k_iload_n C rfl rfl rfl ?_
      refine k_iload C rfl rfl rfl ?_
      refine z_bipush C (z := 43) rfl rfl rfl (fun x79 ex79 => ?_)
      have hp9 : n1.toInt = 3 := by omega
      have q80 : x79.toNatClampNeg = 43 := nck (by omega)
      refine c_VV C (a_X12_multiplies_x hI H_r0 (by omega) (by omega) (by omega) (by omega) (by omega) (by omega) (by first | omega | (simp only [q80, k0_r0_4_n3, k0_r0_4_n4, k0_r0_1_0, and_true, true_and, or_true, true_or, and_false, false_and, or_false, false_or] <;> omega)) (by first | omega | (simp only [q80, k0_r0_4_n3, k0_r0_4_n4, k0_r0_1_0, and_true, true_and, or_true, true_or, and_false, false_and, or_false, false_or] <;> omega)) (fun a4 h4 => by cases (R_r0_4.symm.trans h4); first | omega | (simp only [q80, k0_r0_4_n3, k0_r0_4_n4, k0_r0_1_0, and_true, true_and, or_true, true_or, and_false, false_and, or_false, false_or] <;> omega)) (fun a1 a4 a5 h1 h4 h5 => by cases (R_r0_1.symm.trans h1); cases (R_r0_4.symm.trans h4); cases (R_r0_5.symm.trans h5); first | omega | (simp only [q80, k0_r0_4_n3, k0_r0_4_n4, k0_r0_1_0, and_true, true_and, or_true, true_or, and_false, false_and, or_false, false_or] <;> omega)) (fun a1 a4 a5 h1 h4 h5 => by cases (R_r0_1.symm.trans h1); cases (R_r0_4.symm.trans h4); cases (R_r0_5.symm.trans h5); first | omega | (simp only [q80, k0_r0_4_n3, k0_r0_4_n4, k0_r0_1_0, and_true, true_and, or_true, true_or, and_false, false_and, or_false, false_or] <;> omega))) rfl rfl rfl rfl rfl ⟨_, rfl, rfl, T_r0, Nat.le_of_ble_eq_true rfl⟩ rfl rfl (Nat.le_of_ble_eq_true rfl) (Nat.le_of_ble_eq_true rfl) (Nat.le_of_ble_eq_true rfl) ?_
      rintro I82 L83 ⟨p0v81, p1v81, p2v81, p3v81, hI82, S84⟩
      have p0v81 := p0v81 r0_4 R_r0_4
      have p1v81 := p1v81 r0_1 r0_4 r0_5 R_r0_1 R_r0_4 R_r0_5
      have p2v81 := p2v81 r0_4 R_r0_4
      have p3v81 := p3v81 r0_5 R_r0_5
      try simp only [q80] at p2v81
      have F85 : ∀ r : Nat, r ≠ n3.toNatClampNeg → r ≠ 43 → r ≠ 45 → r ≠ 46 → r ≠ 47 → I82 r0_4 r = I r0_4 r := fun r z0 z1 z2 z3 z4 => p2v81 r (by first | exact z0 | exact z1 | exact z2 | exact z3 | exact z4)
      try simp only [q80] at p3v81
      have F86 : ∀ r : Nat, (r < 41 * n3.toNatClampNeg ∨ 41 * n3.toNatClampNeg + 41 ≤ r) → (r < 41 * 43 ∨ 41 * 43 + 41 ≤ r) → (r < 41 * 45 ∨ 41 * 45 + 41 ≤ r) → (r < 41 * 46 ∨ 41 * 46 + 41 ≤ r) → (r < 41 * 47 ∨ 41 * 47 + 41 ≤ r) → I82 r0_5 r = I r0_5 r := fun r z0 z1 z2 z3 z4 => p3v81 r (by first | exact z0 | exact z1 | exact z2 | exact z3 | exact z4)
      have e87 := (p2v81 n3.toNatClampNeg (by first | decide | exact ncne (by omega) (by omega) (by omega) | exact nckn (by omega) (by omega) | exact (nckn (by omega) (by omega)).symm)).trans k0_r0_4_n3
      have e88 := (p2v81 n4.toNatClampNeg (by first | decide | exact ncne (by omega) (by omega) (by omega) | exact nckn (by omega) (by omega) | exact (nckn (by omega) (by omega)).symm)).trans k0_r0_4_n4
      have e89 := CM.j S84 R_r0_1 (by decide) k0_r0_1_0
      obtain ⟨x90, e91⟩ : ∃ x, I82 r0_4 43 = x := ⟨_, rfl⟩
      have gx90 := rg x90
      have ox90 := IM.dgR hI82 R_r0_4 e91
      try simp only [q80, k0_r0_4_n3, k0_r0_4_n4, k0_r0_1_0, e91] at p0v81
      try have q0v81 := congrArg Int32.toInt p0v81
      try simp only [q80, k0_r0_4_n3, k0_r0_4_n4, k0_r0_1_0, e91] at p1v81
      try have q1v81 := congrArg Int32.toInt p1v81
      have hm0 := p0v81
      have hm1 := p1v81
      refine k_goto C (pc2 := 171) rfl rfl ?_
      refine k_aload_n C rfl rfl rfl ?_
      refine z_bipush C (z := 43) rfl rfl rfl (fun x92 ex92 => ?_)
      refine k_iload_n C rfl rfl rfl ?_
      have q93 : x92.toNatClampNeg = 43 := nck (by omega)
      refine c_VV C (a_X12_copies hI82 H_r0 (by omega) (by omega) (by omega) (by omega) (by first | omega | (simp only [q93, e87, e88, e89, e91, and_true, true_and, or_true, true_or, and_false, false_and, or_false, false_or] <;> omega))) rfl rfl rfl rfl rfl ⟨_, rfl, rfl, T_r0, Nat.le_of_ble_eq_true rfl⟩ rfl rfl (Nat.le_of_ble_eq_true rfl) (Nat.le_of_ble_eq_true rfl) (Nat.le_of_ble_eq_true rfl) ?_
      rintro I95 L96 ⟨p0v94, p1v94, p2v94, p3v94, hI95, S97⟩
      have p0v94 := p0v94 r0_4 R_r0_4
      have p1v94 := p1v94 r0_4 r0_5 R_r0_4 R_r0_5
      have p2v94 := p2v94 r0_4 R_r0_4
      have p3v94 := p3v94 r0_5 R_r0_5
      try simp only [q93] at p2v94
      have F98 : ∀ r : Nat, r ≠ n3.toNatClampNeg → r ≠ 43 → r ≠ 45 → r ≠ 46 → r ≠ 47 → I95 r0_4 r = I82 r0_4 r := fun r z0 z1 z2 z3 z4 => p2v94 r (by first | exact z0 | exact z1 | exact z2 | exact z3 | exact z4)
      try simp only [q93] at p3v94
      have F99 : ∀ r : Nat, (r < 41 * n3.toNatClampNeg ∨ 41 * n3.toNatClampNeg + 41 ≤ r) → (r < 41 * 43 ∨ 41 * 43 + 41 ≤ r) → (r < 41 * 45 ∨ 41 * 45 + 41 ≤ r) → (r < 41 * 46 ∨ 41 * 46 + 41 ≤ r) → (r < 41 * 47 ∨ 41 * 47 + 41 ≤ r) → I95 r0_5 r = I82 r0_5 r := fun r z0 z1 z2 z3 z4 => p3v94 r (by first | exact z0 | exact z1 | exact z2 | exact z3 | exact z4)
      have e102 := CM.j S97 R_r0_1 (by decide) e89
      have e103 := (p2v94 43 (by first | decide | exact ncne (by omega) (by omega) (by omega) | exact nckn (by omega) (by omega) | exact (nckn (by omega) (by omega)).symm)).trans e91
      obtain ⟨x104, e105⟩ : ∃ x, I95 r0_4 n3.toNatClampNeg = x := ⟨_, rfl⟩
      have gx104 := rg x104
      have ox104 := IM.dgR hI95 R_r0_4 e105
      try simp only [q93, e87, e88, e89, e91, e105] at p0v94
      try have q0v94 := congrArg Int32.toInt p0v94
      try simp only [q93, e87, e88, e89, e91, e105] at p1v94
      try have q1v94 := congrArg Int32.toInt p1v94
      have hc0 := p0v94
      have hc1 := p1v94
      refine z_iconst C (z := 1) rfl rfl rfl (fun x106 ex106 => ?_)
      exact k_iret C rfl (Or.inr ⟨rfl, z01 (by omega) (by omega)⟩) (Nat.le_of_ble_eq_true rfl) (Nat.le_of_ble_eq_true rfl) ⟨_, _, _, rfl, rfl, by omega, by omega, fun a1 a4 a5 h1 h4 h5 => by cases (R_r0_1.symm.trans h1); cases (R_r0_4.symm.trans h4); cases (R_r0_5.symm.trans h5); simp only [k0_r0_1_0]; first | exact JRD.m1 (by omega) (by omega) (congrArg Int32.toInt k0_r0_4_n3) (congrArg Int32.toInt k0_r0_4_n4) (by omega) hc1 (by rw [e105]; omega) (by omega) hm1 | exact JRD.o1 (by omega) (by omega) (by omega) (congrArg Int32.toInt k0_r0_4_n3) (congrArg Int32.toInt k0_r0_4_n4) (by omega) hc1 (by rw [e105]; omega) (by omega) ho1, fun a4 h4 => by cases (R_r0_4.symm.trans h4); exact (fun r z0 z1 z2 z3 z4 => ((F98 r z0 z1 z2 z3 z4).trans (F85 r z0 z1 z2 z3 z4))), fun a5 h5 => by cases (R_r0_5.symm.trans h5); exact (fun r z0 z1 z2 z3 z4 => ((F99 r z0 z1 z2 z3 z4).trans (F86 r z0 z1 z2 z3 z4))), hI95, (CM.cons S84 (CM.mono S97 (by decide) (by decide)) (by decide) (by decide))⟩
    refine k_goto C (pc2 := 142) rfl rfl ?_
    refine z_iconst C (z := 0) rfl rfl rfl (fun x107 ex107 => ?_)
    exact k_iret C rfl (Or.inr ⟨rfl, z01 (by omega) (by omega)⟩) (Nat.le_of_ble_eq_true rfl) (Nat.le_of_ble_eq_true rfl) ⟨_, _, _, rfl, rfl, by omega, by omega, fun a1 a4 a5 h1 h4 h5 => by cases (R_r0_1.symm.trans h1); cases (R_r0_4.symm.trans h4); cases (R_r0_5.symm.trans h5); exact JRD.n0 (by omega) (by omega) (congrArg Int32.toInt k0_r0_4_n3) (congrArg Int32.toInt k0_r0_4_n4) (by omega), fun a4 h4 => by cases (R_r0_4.symm.trans h4); exact (fun r z0 z1 z2 z3 z4 => rfl), fun a5 h5 => by cases (R_r0_5.symm.trans h5); exact (fun r z0 z1 z2 z3 z4 => rfl), hI, CM.rf⟩
  refine k_aload_n C rfl rfl rfl ?_
  refine g_R C rfl rfl rfl T_r0 rfl R_r0_4 ?_
  refine k_iload_n C rfl rfl rfl ?_
  obtain ⟨T_r0_4, N_r0_4, A_r0_4⟩ := id H_r0_4
  refine a_I C rfl rfl T_r0_4 (by rw [N_r0_4]; exact vpi (by omega) (by omega)) k0_r0_4_n3 ?_
  refine k_aload_n C rfl rfl rfl ?_
  refine g_R C rfl rfl rfl T_r0 rfl R_r0_4 ?_
  refine k_iload C rfl rfl rfl ?_
  refine a_I C rfl rfl T_r0_4 (by rw [N_r0_4]; exact vpi (by omega) (by omega)) k0_r0_4_n4 ?_
  refine b_icmp_eq C (t := 23) rfl rfl rfl (fun c108 => ?_) (fun c108 => ?_)
  · skip
    refine z_iconst C (z := 0) rfl rfl rfl (fun x109 ex109 => ?_)
    have J110 : ∀ (nn111 : Nat) (I112 : IT) (L113 : LT) (x114 : Int32), (MN (41 - x114.toInt) nn111) → (IM R r0 I112) → (CM A R r0 [] [5] I L I112 L113) → (∀ r : Nat, (r < 41 * n3.toNatClampNeg ∨ 41 * n3.toNatClampNeg + 41 ≤ r) → (r < 41 * 43 ∨ 41 * 43 + 41 ≤ r) → (r < 41 * 45 ∨ 41 * 45 + 41 ≤ r) → (r < 41 * 46 ∨ 41 * 46 + 41 ≤ r) → (r < 41 * 47 ∨ 41 * 47 + 41 ≤ r) → I112 r0_5 r = I r0_5 r) → (0 ≤ x114.toInt) → (x114.toInt ≤ 41) → (RVX I112 r0_5 n3.toNatClampNeg w_r0_1_0.toInt w_r0_4_n3.toInt (OVM (RI I r0_5 n3.toNatClampNeg) (fun j => (RI I r0_5 n3.toNatClampNeg) j + (RI I r0_5 n4.toNatClampNeg) j) x114.toInt)) → (SMR I I112 r0_5 n4.toNatClampNeg) → (x114.toInt ≤ w_r0_4_n3.toInt + 1) → V 26 [(0, .ref r0), (3, .int n3), (4, .int n4), (5, .int x114)] [] (T, N, I112, L113, R) 0 0 := by
      intro nn111
      induction nn111 using Nat.strongRecOn with
      | _ nn111 ihJ110 =>
        intro I112 L113 x114 hmnn111 hI118 S117 F119 b115 b116 ff26_0 ff26_1 ff26_2
        have gx114 := rg x114
        have e120 := CM.j S117 R_r0_4 (by decide) k0_r0_4_n3
        have e121 := CM.j S117 R_r0_4 (by decide) k0_r0_4_n4
        have e122 := CM.j S117 R_r0_1 (by decide) k0_r0_1_0
        refine k_iload C rfl rfl rfl ?_
        refine k_aload_n C rfl rfl rfl ?_
        refine g_R C rfl rfl rfl T_r0 rfl R_r0_4 ?_
        refine k_iload_n C rfl rfl rfl ?_
        refine a_I C rfl rfl T_r0_4 (by rw [N_r0_4]; exact vpi (by omega) (by omega)) e120 ?_
        refine b_icmp_gt C (t := 69) rfl rfl rfl (fun c123 => ?_) (fun c123 => ?_)
        · skip
          refine z_iconst C (z := 1) rfl rfl rfl (fun x124 ex124 => ?_)
          exact k_iret C rfl (Or.inr ⟨rfl, z01 (by omega) (by omega)⟩) (Nat.le_of_ble_eq_true rfl) (Nat.le_of_ble_eq_true rfl) ⟨_, _, _, rfl, rfl, by omega, by omega, fun a1 a4 a5 h1 h4 h5 => by cases (R_r0_1.symm.trans h1); cases (R_r0_4.symm.trans h4); cases (R_r0_5.symm.trans h5); simp only [k0_r0_1_0]; exact JRD.a1 (by omega) (by omega) (by rw [k0_r0_4_n3, k0_r0_4_n4]; omega) (congrArg Int32.toInt k0_r0_4_n3) (by omega) (by rw [e120]) (OVM.e ff26_0 (by omega)), fun a4 h4 => by cases (R_r0_4.symm.trans h4); exact (fun r z0 z1 z2 z3 z4 => (congrFun (CM.j0 S117 R_r0_4 (by decide)) r)), fun a5 h5 => by cases (R_r0_5.symm.trans h5); exact (fun r z0 z1 z2 z3 z4 => (F119 r z0 z1 z2 z3 z4)), hI118, (CM.mono S117 (by decide) (by decide))⟩
        refine k_aload_n C rfl rfl rfl ?_
        refine k_iload_n C rfl rfl rfl ?_
        refine k_iload C rfl rfl rfl ?_
        refine k_aload_n C rfl rfl rfl ?_
        refine k_aload_n C rfl rfl rfl ?_
        refine k_iload_n C rfl rfl rfl ?_
        refine k_iload C rfl rfl rfl ?_
        refine c_VI C (a_X12_of hI118 H_r0 (by omega) (by omega) (by omega) (by omega)) rfl rfl rfl rfl rfl ⟨_, rfl, rfl, T_r0, Nat.le_of_ble_eq_true rfl⟩ rfl rfl (Nat.le_of_ble_eq_true rfl) (Nat.le_of_ble_eq_true rfl) (Nat.le_of_ble_eq_true rfl) ?_
        rintro x125 _ _ ⟨o0x125, o1x125, p0x125, rfl, rfl⟩
        have p0x125 := p0x125 r0_5 R_r0_5
        have gx125 := rg x125
        try simp only [e120, e121, e122] at p0x125
        try have q0x125 := congrArg Int32.toInt p0x125
        have hA := p0x125
        refine k_aload_n C rfl rfl rfl ?_
        refine k_iload C rfl rfl rfl ?_
        refine k_iload C rfl rfl rfl ?_
        refine c_VI C (a_X12_of hI118 H_r0 (by omega) (by omega) (by omega) (by omega)) rfl rfl rfl rfl rfl ⟨_, rfl, rfl, T_r0, Nat.le_of_ble_eq_true rfl⟩ rfl rfl (Nat.le_of_ble_eq_true rfl) (Nat.le_of_ble_eq_true rfl) (Nat.le_of_ble_eq_true rfl) ?_
        rintro x126 _ _ ⟨o0x126, o1x126, p0x126, rfl, rfl⟩
        have p0x126 := p0x126 r0_5 R_r0_5
        have gx126 := rg x126
        try simp only [e120, e121, e122] at p0x126
        try have q0x126 := congrArg Int32.toInt p0x126
        have hB := RI.sm ff26_1 p0x126 (by omega) (by omega)
        refine c_VI C (a_X12_plus_e hI118 H_r0 (by omega) (by omega) (by omega) (by omega)) rfl rfl rfl rfl rfl ⟨_, rfl, rfl, T_r0, Nat.le_of_ble_eq_true rfl⟩ rfl rfl (Nat.le_of_ble_eq_true rfl) (Nat.le_of_ble_eq_true rfl) (Nat.le_of_ble_eq_true rfl) ?_
        rintro x127 _ _ ⟨o0x127, o1x127, p0x127, p1x127, p2x127, p3x127, rfl, rfl⟩
        have p0x127 := p0x127 r0_1 R_r0_1
        have p2x127 := p2x127 r0_1 R_r0_1
        have p3x127 := p3x127 r0_1 R_r0_1
        have gx127 := rg x127
        try simp only [e120, e121, e122] at p0x127
        try have q0x127 := congrArg Int32.toInt p0x127
        try simp only [e120, e121, e122] at p1x127
        try have q1x127 := congrArg Int32.toInt p1x127
        try simp only [e120, e121, e122] at p2x127
        try have q2x127 := congrArg Int32.toInt p2x127
        try simp only [e120, e121, e122] at p3x127
        try have q3x127 := congrArg Int32.toInt p3x127
        have hS := p3x127
        refine c_VV C (a_X12_put hI118 H_r0 (by omega) (by omega) (by omega) (by omega) (by omega) (by omega)) rfl rfl rfl rfl rfl ⟨_, rfl, rfl, T_r0, Nat.le_of_ble_eq_true rfl⟩ rfl rfl (Nat.le_of_ble_eq_true rfl) (Nat.le_of_ble_eq_true rfl) (Nat.le_of_ble_eq_true rfl) ?_
        rintro I129 L130 ⟨p0v128, p1v128, hI129, S131⟩
        have p0v128 := p0v128 r0_5 R_r0_5
        have p1v128 := p1v128 r0_5 R_r0_5
        have F132 : ∀ r : Nat, (r < 41 * n3.toNatClampNeg ∨ 41 * n3.toNatClampNeg + 41 ≤ r) → (r < 41 * 43 ∨ 41 * 43 + 41 ≤ r) → (r < 41 * 45 ∨ 41 * 45 + 41 ≤ r) → (r < 41 * 46 ∨ 41 * 46 + 41 ≤ r) → (r < 41 * 47 ∨ 41 * 47 + 41 ≤ r) → I129 r0_5 r = I112 r0_5 r := fun r z0 z1 z2 z3 z4 => p1v128 r (by first | exact z0 | exact z1 | exact z2 | exact z3 | exact z4)
        have e133 := CM.j S131 R_r0_4 (by decide) e120
        have e134 := CM.j S131 R_r0_4 (by decide) e121
        have e135 := CM.j S131 R_r0_1 (by decide) e122
        try simp only [e120, e121, e122] at p0v128
        try have q0v128 := congrArg Int32.toInt p0v128
        have hP := p0v128
        refine z_iinc C (z := 1) (lw := fun x136 => [(5, .int x136), (0, .ref r0), (3, .int n3), (4, .int n4)]) rfl rfl rfl (Nat.le_of_ble_eq_true rfl) rfl ⟨by omega, by omega⟩ (fun _ => rfl) (fun x136 ex136 => ?_)
        show V 66 [(5, .int x136), (0, .ref r0), (3, .int n3), (4, .int n4)] _ _ _ _
        refine k_goto C (pc2 := 26) rfl rfl ?_
        refine k_sub S [(0, .ref r0), (3, .int n3), (4, .int n4), (5, .int x136)] (List.forall_mem_cons.mpr ⟨List.mem_of_getElem? (i := 1) rfl, List.forall_mem_cons.mpr ⟨List.mem_of_getElem? (i := 2) rfl, List.forall_mem_cons.mpr ⟨List.mem_of_getElem? (i := 3) rfl, List.forall_mem_cons.mpr ⟨List.mem_of_getElem? (i := 0) rfl, fun _ h => nomatch h⟩⟩⟩⟩) ?_
        exact ihJ110 _ (MN.lt hmnn111 (by omega) (by omega)) I129 L130 x136 rfl hI129 (CM.cons S117 (CM.mono S131 (by decide) (by decide)) (by decide) (by decide)) (fun r z0 z1 z2 z3 z4 => ((F132 r z0 z1 z2 z3 z4).trans (F119 r z0 z1 z2 z3 z4))) (by omega) (by omega) (by exact OVM.a ff26_0 hA (hp1.v.at hB (by omega) (by omega)) hS hP (fun _ => rfl) (by omega) (by omega) (by omega) (by omega)) (by exact SMR.put ff26_1 hP (nclt (by omega) (by omega)) (Ne.symm hnn)) (by omega)
    refine k_istore C (lw := [(5, .int x109), (0, .ref r0), (1, .int n1), (2, .int n2), (3, .int n3), (4, .int n4)]) rfl rfl (Nat.le_of_ble_eq_true rfl) rfl ?_
    refine k_sub S [(0, .ref r0), (3, .int n3), (4, .int n4), (5, .int x109)] (List.forall_mem_cons.mpr ⟨List.mem_of_getElem? (i := 1) rfl, List.forall_mem_cons.mpr ⟨List.mem_of_getElem? (i := 4) rfl, List.forall_mem_cons.mpr ⟨List.mem_of_getElem? (i := 5) rfl, List.forall_mem_cons.mpr ⟨List.mem_of_getElem? (i := 0) rfl, fun _ h => nomatch h⟩⟩⟩⟩) ?_
    exact J110 _ I L x109 rfl hI CM.rf (fun r z0 z1 z2 z3 z4 => rfl) (by omega) (by omega) (by exact OVM.z hp0.v (by omega)) (by exact SMR.eq rfl) (by omega)
  refine z_iconst C (z := 0) rfl rfl rfl (fun x137 ex137 => ?_)
  exact k_iret C rfl (Or.inr ⟨rfl, z01 (by omega) (by omega)⟩) (Nat.le_of_ble_eq_true rfl) (Nat.le_of_ble_eq_true rfl) ⟨_, _, _, rfl, rfl, by omega, by omega, fun a1 a4 a5 h1 h4 h5 => by cases (R_r0_1.symm.trans h1); cases (R_r0_4.symm.trans h4); cases (R_r0_5.symm.trans h5); exact JRD.a0 (by omega) (by omega) (by rw [k0_r0_4_n3, k0_r0_4_n4]; omega), fun a4 h4 => by cases (R_r0_4.symm.trans h4); exact (fun r z0 z1 z2 z3 z4 => rfl), fun a5 h5 => by cases (R_r0_5.symm.trans h5); exact (fun r z0 z1 z2 z3 z4 => rfl), hI, CM.rf⟩

theorem a_X12_makes_x {d : Nat} {T N : Nat → Nat} {I : IT} {L : LT} {R : RT} {A : Nat → Prop} {r0 : Nat} {n1 : Int32} (hI : IM R r0 I) (H_r0 : (h_MD T N R A) r0) (b0_n1 : 0 ≤ n1.toInt) (b1_n1 : n1.toInt ≤ 7) (hp0 : ∀ a1, R r0 1 = some a1 → n1.toInt < (I a1 3).toInt) (hp1 : ∀ a1, R r0 1 = some a1 → HOV (WSL (I a1) n1.toNatClampNeg) 0) (hp2 : ∀ a1 a4 a5, R r0 1 = some a1 → R r0 4 = some a4 → R r0 5 = some a5 → RCN I a5 44 (I a1 0).toInt (I a4 44).toInt) (hp3 : ∀ a4, R r0 4 = some a4 → 0 ≤ (I a4 44).toInt ∧ (I a4 44).toInt ≤ 40) : Ex (d + 8) 252 [.ref r0, .int n1] (T, N, I, L, R) 0 0 (pI T N R (fun x9 I9 L9 => (0 ≤ x9.toInt) ∧ (x9.toInt ≤ 1) ∧ (∀ a1 a4 a5, R r0 1 = some a1 → R r0 4 = some a4 → R r0 5 = some a5 → VPR I9 a4 a5 x9.toInt (I a1 0).toInt (VWF ((I a4 44).toInt, RI I a5 44) (WSL (I a1) n1.toNatClampNeg))) ∧ (∀ a5, R r0 5 = some a5 → SMR I I9 a5 44) ∧ (∀ a4, R r0 4 = some a4 → (I9 a4 44) = I a4 44) ∧ (∀ a5, R r0 5 = some a5 → SMR I I9 a5 42) ∧ (∀ a4, R r0 4 = some a4 → (I9 a4 42) = I a4 42) ∧ (IM R r0 I9 ∧ CM A R r0 [] [4, 5] I L I9 L9))) := by
  refine ⟨_, rfl, Nat.le_of_ble_eq_true rfl, fun V C S => ?_⟩
  show V 0 [(0, .ref r0), (1, .int n1)] [] (T, N, I, L, R) 0 0
  have gn1 := rg n1
  obtain ⟨T_r0, A_r0, ⟨r0_1, R_r0_1, H_r0_1⟩, ⟨r0_2, R_r0_2, H_r0_2⟩, ⟨r0_4, R_r0_4, H_r0_4⟩, ⟨r0_5, R_r0_5, H_r0_5⟩, ⟨r0_10, R_r0_10, H_r0_10⟩, ⟨r0_18, R_r0_18, H_r0_18⟩, ⟨r0_20, R_r0_20, H_r0_20⟩, ⟨r0_21, R_r0_21, H_r0_21⟩, ⟨r0_22, R_r0_22, H_r0_22⟩, ⟨r0_23, R_r0_23, H_r0_23⟩, ⟨r0_25, R_r0_25, H_r0_25⟩, ⟨r0_26, R_r0_26, H_r0_26⟩, ⟨r0_27, R_r0_27, H_r0_27⟩, ⟨r0_28, R_r0_28, H_r0_28⟩, ⟨r0_34, R_r0_34, H_r0_34⟩, J_r0, Y_r0⟩ := id H_r0
  have G_r0 : mF T R r0 := ⟨J_r0, Y_r0, T_r0⟩
  obtain ⟨w_r0_1_3, k0_r0_1_3⟩ : ∃ x, I r0_1 3 = x := ⟨_, rfl⟩
  have gw_r0_1_3 := rg w_r0_1_3
  have ow_r0_1_3 := IM.c3 hI R_r0_1 k0_r0_1_3
  obtain ⟨w_r0_1_0, k0_r0_1_0⟩ : ∃ x, I r0_1 0 = x := ⟨_, rfl⟩
  have gw_r0_1_0 := rg w_r0_1_0
  have ow_r0_1_0 := IM.pi hI R_r0_1 k0_r0_1_0
  have hp0 := hp0 r0_1 R_r0_1
  have hp1 := hp1 r0_1 R_r0_1
  have hp2 := hp2 r0_1 r0_4 r0_5 R_r0_1 R_r0_4 R_r0_5
  have hp3 := hp3 r0_4 R_r0_4
  try simp only [k0_r0_1_3, k0_r0_1_0] at hp0
  try simp only [k0_r0_1_3, k0_r0_1_0] at hp1
  try simp only [k0_r0_1_3, k0_r0_1_0] at hp2
  try simp only [k0_r0_1_3, k0_r0_1_0] at hp3
  have hS := (IM.w hI R_r0_1).2.2.2.2.2.1 n1.toNatClampNeg (by have := ncz (x := n1) (by omega); simp only [k0_r0_1_3]; omega)
  have hS1 : 0 ≤ (I r0_1 (198 + 401 * n1.toNatClampNeg)).toInt ∧ (I r0_1 (198 + 401 * n1.toNatClampNeg)).toInt ≤ 199 := ⟨hS.1, hS.2.1⟩
  refine z_iconst C (z := 0) rfl rfl rfl (fun x1 ex1 => ?_)
  refine k_istore_n C (lw := [(2, .int x1), (0, .ref r0), (1, .int n1)]) rfl rfl (Nat.le_of_ble_eq_true rfl) rfl ?_
  refine z_iconst C (z := 0) rfl rfl rfl (fun x2 ex2 => ?_)
  have J3 : ∀ (nn4 : Nat) (I5 : IT) (L6 : LT) (x7 : Int32) (x10 : Int32), (MN (200 - x10.toInt) nn4) → (IM R r0 I5) → (CM A R r0 [] [4, 5] I L I5 L6) → (0 ≤ x7.toInt) → (x7.toInt ≤ 40) → (0 ≤ x10.toInt) → (x10.toInt ≤ 200) → (x7.toInt = Hgt (I r0_1) (198 + 401 * n1.toNatClampNeg) x10.toNatClampNeg) → (x10.toInt ≤ (I r0_1 (198 + 401 * n1.toNatClampNeg)).toInt) → (VRI I5 r0_4 r0_5 w_r0_1_0.toInt ((I r0_4 44).toInt, RI I r0_5 44) (WSL (I r0_1) n1.toNatClampNeg) x10.toInt x7.toInt) → (SMR I I5 r0_5 44) → ((I5 r0_4 44) = I r0_4 44) → (SMR I I5 r0_5 42) → ((I5 r0_4 42) = I r0_4 42) → V 4 [(0, .ref r0), (1, .int n1), (2, .int x7), (3, .int x10)] [] (T, N, I5, L6, R) 0 0 := by
    intro nn4
    induction nn4 using Nat.strongRecOn with
    | _ nn4 ihJ3 =>
      intro I5 L6 x7 x10 hmnn4 hI14 S13 b8 b9 b11 b12 ff4_0 ff4_1 ff4_2 ff4_3 ff4_4 ff4_5 ff4_6
      have gx7 := rg x7
      have gx10 := rg x10
      have e15 := CM.j S13 R_r0_1 (by decide) k0_r0_1_3
      have e16 := CM.j S13 R_r0_1 (by decide) k0_r0_1_0
      refine k_iload_n C rfl rfl rfl ?_
      refine k_aload_n C rfl rfl rfl ?_
      refine k_iload_n C rfl rfl rfl ?_
      refine c_VI C (a_X12_stepsOf hI14 H_r0 (by omega) (by omega)) rfl rfl rfl rfl rfl ⟨_, rfl, rfl, T_r0, Nat.le_of_ble_eq_true rfl⟩ rfl rfl (Nat.le_of_ble_eq_true rfl) (Nat.le_of_ble_eq_true rfl) (Nat.le_of_ble_eq_true rfl) ?_
      rintro x17 _ _ ⟨p0x17, rfl, rfl⟩
      have p0x17 := p0x17 r0_1 R_r0_1
      have gx17 := rg x17
      try simp only [e15, e16] at p0x17
      try have q0x17 := congrArg Int32.toInt p0x17
      rw [(CM.j0 (I := I) (L := L) (I' := I5) (L' := L6) (A := A) (W := []) (WA := [4, 5]) (CM.mono S13 (by decide) (by decide)) R_r0_1 (by decide))] at p0x17
      have h8 := fun (z : x10.toInt < (I r0_1 (198 + 401 * n1.toNatClampNeg)).toInt) => hS.2.2 x10.toNatClampNeg (by have := ncz (x := x10) (by omega); omega)
      refine b_icmp_ge C (t := 158) rfl rfl rfl (fun c18 => ?_) (fun c18 => ?_)
      · skip
        refine z_iconst C (z := 1) rfl rfl rfl (fun x19 ex19 => ?_)
        exact k_iret C rfl (Or.inr ⟨rfl, z01 (by omega) (by omega)⟩) (Nat.le_of_ble_eq_true rfl) (Nat.le_of_ble_eq_true rfl) ⟨_, _, _, rfl, rfl, by omega, by omega, fun a1 a4 a5 h1 h4 h5 => by cases (R_r0_1.symm.trans h1); cases (R_r0_4.symm.trans h4); cases (R_r0_5.symm.trans h5); simp only [k0_r0_1_0]; exact ⟨fun q => by exfalso; omega, fun _ => VRI.one ff4_2 (by rw [WSL.len]; omega)⟩, fun a5 h5 => by cases (R_r0_5.symm.trans h5); exact ff4_3, fun a4 h4 => by cases (R_r0_4.symm.trans h4); exact ff4_4, fun a5 h5 => by cases (R_r0_5.symm.trans h5); exact ff4_5, fun a4 h4 => by cases (R_r0_4.symm.trans h4); exact ff4_6, hI14, (CM.mono S13 (by decide) (by decide))⟩
      refine k_aload_n C rfl rfl rfl ?_
      refine k_iload_n C rfl rfl rfl ?_
      refine k_iload_n C rfl rfl rfl ?_
      refine c_VI C (a_X12_stepOf hI14 H_r0 (by omega) (by omega) (by omega) (by omega)) rfl rfl rfl rfl rfl ⟨_, rfl, rfl, T_r0, Nat.le_of_ble_eq_true rfl⟩ rfl rfl (Nat.le_of_ble_eq_true rfl) (Nat.le_of_ble_eq_true rfl) (Nat.le_of_ble_eq_true rfl) ?_
      rintro x20 _ _ ⟨p0x20, rfl, rfl⟩
      have p0x20 := p0x20 r0_1 R_r0_1
      have gx20 := rg x20
      try simp only [e15, e16] at p0x20
      try have q0x20 := congrArg Int32.toInt p0x20
      rw [(CM.j0 (I := I) (L := L) (I' := I5) (L' := L6) (A := A) (W := []) (WA := [4, 5]) (CM.mono S13 (by decide) (by decide)) R_r0_1 (by decide))] at p0x20
      have h7 := h8 (by omega)
      have hel := WSL.get (W := I r0_1) (n := n1) (k := x10) (by omega) (by omega)
      rw [← p0x20] at hel
      have hge := ff4_2.ge hel
      refine k_istore C (lw := [(4, .int x20), (0, .ref r0), (1, .int n1), (2, .int x7), (3, .int x10)]) rfl rfl (Nat.le_of_ble_eq_true rfl) rfl ?_
      refine k_iload C rfl rfl rfl ?_
      refine b_if_ne C (t := 39) rfl rfl rfl (fun c21 => ?_) (fun c21 => ?_)
      · skip
        refine k_iload C rfl rfl rfl ?_
        refine z_iconst C (z := 1) rfl rfl rfl (fun x22 ex22 => ?_)
        refine b_icmp_ne C (t := 74) rfl rfl rfl (fun c23 => ?_) (fun c23 => ?_)
        · skip
          refine k_iload C rfl rfl rfl ?_
          refine z_iconst C (z := 5) rfl rfl rfl (fun x24 ex24 => ?_)
          refine b_icmp_ne C (t := 128) rfl rfl rfl (fun c25 => ?_) (fun c25 => ?_)
          · skip
            refine z_iinc C (z := -1) (lw := fun x26 => [(2, .int x26), (4, .int x20), (0, .ref r0), (1, .int n1), (3, .int x10)]) rfl rfl rfl (Nat.le_of_ble_eq_true rfl) rfl ⟨by omega, by omega⟩ (fun _ => rfl) (fun x26 ex26 => ?_)
            show V 131 [(2, .int x26), (4, .int x20), (0, .ref r0), (1, .int n1), (3, .int x10)] _ _ _ _
            refine k_aload_n C rfl rfl rfl ?_
            refine k_iload C rfl rfl rfl ?_
            refine k_aload_n C rfl rfl rfl ?_
            refine k_iload_n C rfl rfl rfl ?_
            refine k_iload_n C rfl rfl rfl ?_
            refine c_VI C (a_X12_toldBy hI14 H_r0 (by omega) (by omega) (by omega) (by omega)) rfl rfl rfl rfl rfl ⟨_, rfl, rfl, T_r0, Nat.le_of_ble_eq_true rfl⟩ rfl rfl (Nat.le_of_ble_eq_true rfl) (Nat.le_of_ble_eq_true rfl) (Nat.le_of_ble_eq_true rfl) ?_
            rintro x27 _ _ ⟨p0x27, rfl, rfl⟩
            have p0x27 := p0x27 r0_1 R_r0_1
            have gx27 := rg x27
            try simp only [e15, e16] at p0x27
            try have q0x27 := congrArg Int32.toInt p0x27
            rw [(CM.j0 (I := I) (L := L) (I' := I5) (L' := L6) (A := A) (W := []) (WA := [4, 5]) (CM.mono S13 (by decide) (by decide)) R_r0_1 (by decide))] at p0x27
            have hz137 := p0x27
            rw [← hz137] at hel
            have hge9 := ff4_2.ge hel
            refine k_iload_n C rfl rfl rfl ?_
            refine z_iconst C (z := 1) rfl rfl rfl (fun x28 ex28 => ?_)
            refine z_isub C rfl rfl ⟨by omega, by omega⟩ (fun x29 ex29 => ?_)
            refine k_iload_n C rfl rfl rfl ?_
            have hn144a := ncz (x := x29) (by omega)
            have hn144b := ncz (x := x26) (by omega)
            obtain ⟨x30, e31⟩ : ∃ x, I5 r0_4 x29.toNatClampNeg = x := ⟨_, rfl⟩
            have gx30 := rg x30
            have ox30 := IM.dgR hI14 R_r0_4 e31
            obtain ⟨x32, e33⟩ : ∃ x, I5 r0_4 x26.toNatClampNeg = x := ⟨_, rfl⟩
            have gx32 := rg x32
            have ox32 := IM.dgR hI14 R_r0_4 e33
            refine c_VI C (a_X12_joins_x hI14 H_r0 (by omega) (by omega) (by omega) (by omega) (by omega) (by omega) (fun a1 a4 a5 h1 h4 h5 => by cases (R_r0_1.symm.trans h1); cases (R_r0_4.symm.trans h4); cases (R_r0_5.symm.trans h5); rw [e16]; exact ff4_2.cn _ (by omega)) (fun a1 a4 a5 h1 h4 h5 => by cases (R_r0_1.symm.trans h1); cases (R_r0_4.symm.trans h4); cases (R_r0_5.symm.trans h5); rw [e16]; exact ff4_2.cn _ (by omega)) (by first | omega | (simp only [e15, e16, e31, e33, and_true, true_and, or_true, true_or, and_false, false_and, or_false, false_or] <;> omega)) (by exact fun a b => hge9.2.2.2.2 (by omega))) rfl rfl rfl rfl rfl ⟨_, rfl, rfl, T_r0, Nat.le_of_ble_eq_true rfl⟩ rfl rfl (Nat.le_of_ble_eq_true rfl) (Nat.le_of_ble_eq_true rfl) (Nat.le_of_ble_eq_true rfl) ?_
            rintro x34 I35 L36 ⟨o0x34, o1x34, p0x34, p1x34, p2x34, hI35, S37⟩
            have p0x34 := p0x34 r0_1 r0_4 r0_5 R_r0_1 R_r0_4 R_r0_5
            have p1x34 := p1x34 r0_4 R_r0_4
            have p2x34 := p2x34 r0_5 R_r0_5
            have e38 := CM.j S37 R_r0_1 (by decide) e15
            have e39 := CM.j S37 R_r0_1 (by decide) e16
            have gx34 := rg x34
            try simp only [e15, e16, e31, e33] at p0x34
            try have q0x34 := congrArg Int32.toInt p0x34
            have hr4 := p1x34
            have hr5 := p2x34
            have hjd := VRI.jd ff4_2 hel (by omega) (by omega) (by omega) (by omega) (by omega) (fun r hr => ⟨hr4 r (by omega) (by omega) (by omega) (by omega) (by omega), fun k hk => hr5 _ (by omega) (by omega) (by omega) (by omega) (by omega)⟩) p0x34 (by omega)
            have hk3 : SMR I I35 r0_5 44 := SMR.cs ff4_3 (fun k hk => hr5 _ (by omega) (by omega) (by omega) (by omega) (by omega))
            have hk4 : (I35 r0_4 44) = I r0_4 44 := (hr4 _ (by omega) (by omega) (by omega) (by omega) (by omega)).trans ff4_4
            have hk5 : SMR I I35 r0_5 42 := SMR.cs ff4_5 (fun k hk => hr5 _ (by omega) (by omega) (by omega) (by omega) (by omega))
            have hk6 : (I35 r0_4 42) = I r0_4 42 := (hr4 _ (by omega) (by omega) (by omega) (by omega) (by omega)).trans ff4_6
            refine b_if_ne C (t := 152) rfl rfl rfl (fun c42 => ?_) (fun c42 => ?_)
            · skip
              refine z_iinc C (z := 1) (lw := fun x43 => [(3, .int x43), (2, .int x26), (4, .int x20), (0, .ref r0), (1, .int n1)]) rfl rfl rfl (Nat.le_of_ble_eq_true rfl) rfl ⟨by omega, by omega⟩ (fun _ => rfl) (fun x43 ex43 => ?_)
              show V 155 [(3, .int x43), (2, .int x26), (4, .int x20), (0, .ref r0), (1, .int n1)] _ _ _ _
              refine k_goto C (pc2 := 4) rfl rfl ?_
              refine k_sub S [(0, .ref r0), (1, .int n1), (2, .int x26), (3, .int x43)] (List.forall_mem_cons.mpr ⟨List.mem_of_getElem? (i := 3) rfl, List.forall_mem_cons.mpr ⟨List.mem_of_getElem? (i := 4) rfl, List.forall_mem_cons.mpr ⟨List.mem_of_getElem? (i := 1) rfl, List.forall_mem_cons.mpr ⟨List.mem_of_getElem? (i := 0) rfl, fun _ h => nomatch h⟩⟩⟩⟩) ?_
              exact ihJ3 _ (MN.lt hmnn4 (by omega) (by omega)) I35 L36 x26 x43 rfl hI35 (CM.cons S13 (CM.mono S37 (by decide) (by decide)) (by decide) (by decide)) (by omega) (by omega) (by omega) (by omega) (by (have h9 := HgtS (g := I r0_1) (b := 198 + 401 * n1.toNatClampNeg) (x := x10) (y := x43) (by omega) (by omega)); (have h8 := hS.2.2 x10.toNatClampNeg (by have := ncz (x := x10) (by omega); omega)); (split at h9 <;> first | omega | (split at h9 <;> omega))) (by omega) (by first | exact VRI.ly ff4_2 hel (Or.inl ⟨by omega, rfl⟩) (t := x7) rfl (fun r hr => ⟨hr4 r (by omega), fun k hk => hr5 _ (by omega)⟩) hw30 (by omega) (by omega) (by omega) | exact VRI.ly ff4_2 hel (Or.inr ⟨by omega, rfl⟩) (t := x7) rfl hs65 hw65 (by omega) (by omega) (by omega) | exact VRJ.e ff83_0 (by omega) hd92 (by omega) (by omega) (by omega) | exact hjd.2 (by omega) _ _ (by omega) (by omega)) (by first | exact ff83_1 | exact hk3) (by first | exact ff83_2 | exact hk4) (by first | exact ff83_3 | exact hk5) (by first | exact ff83_4 | exact hk6)
            refine z_iconst C (z := 0) rfl rfl rfl (fun x44 ex44 => ?_)
            exact k_iret C rfl (Or.inr ⟨rfl, z01 (by omega) (by omega)⟩) (Nat.le_of_ble_eq_true rfl) (Nat.le_of_ble_eq_true rfl) ⟨_, _, _, rfl, rfl, by omega, by omega, fun a1 a4 a5 h1 h4 h5 => by cases (R_r0_1.symm.trans h1); cases (R_r0_4.symm.trans h4); cases (R_r0_5.symm.trans h5); simp only [k0_r0_1_0]; exact ⟨fun _ => hjd.1 (by omega), fun q => by exfalso; omega⟩, fun a5 h5 => by cases (R_r0_5.symm.trans h5); exact hk3, fun a4 h4 => by cases (R_r0_4.symm.trans h4); exact hk4, fun a5 h5 => by cases (R_r0_5.symm.trans h5); exact hk5, fun a4 h4 => by cases (R_r0_4.symm.trans h4); exact hk6, hI35, (CM.cons S13 (CM.mono S37 (by decide) (by decide)) (by decide) (by decide))⟩
          refine z_iconst C (z := 0) rfl rfl rfl (fun x45 ex45 => ?_)
          have J46 : ∀ (nn47 : Nat) (I48 : IT) (L49 : LT) (x50 : Int32), (MN (41 - x50.toInt) nn47) → (IM R r0 I48) → (CM A R r0 [] [5] I5 L6 I48 L49) → (0 ≤ x50.toInt) → (x50.toInt ≤ 41) → (VRJ I48 r0_4 r0_5 w_r0_1_0.toInt ((I r0_4 44).toInt, RI I r0_5 44) (WSL (I r0_1) n1.toNatClampNeg) x10.toInt x7.toInt x50.toInt) → (SMR I I48 r0_5 44) → ((I48 r0_4 44) = I r0_4 44) → (SMR I I48 r0_5 42) → ((I48 r0_4 42) = I r0_4 42) → V 83 [(0, .ref r0), (1, .int n1), (2, .int x7), (3, .int x10), (5, .int x50)] [] (T, N, I48, L49, R) 0 0 := by
            intro nn47
            induction nn47 using Nat.strongRecOn with
            | _ nn47 ihJ46 =>
              intro I48 L49 x50 hmnn47 hI54 S53 b51 b52 ff83_0 ff83_1 ff83_2 ff83_3 ff83_4
              have gx50 := rg x50
              have e55 := CM.j S53 R_r0_1 (by decide) e15
              have e56 := CM.j S53 R_r0_1 (by decide) e16
              refine k_iload C rfl rfl rfl ?_
              refine k_aload_n C rfl rfl rfl ?_
              refine g_R C rfl rfl rfl T_r0 rfl R_r0_4 ?_
              refine k_iload_n C rfl rfl rfl ?_
              refine z_iconst C (z := 1) rfl rfl rfl (fun x57 ex57 => ?_)
              refine z_isub C rfl rfl ⟨by omega, by omega⟩ (fun x58 ex58 => ?_)
              obtain ⟨T_r0_4, N_r0_4, A_r0_4⟩ := id H_r0_4
              refine z_aI C rfl rfl T_r0_4 N_r0_4 (by omega) (by omega) (fun x59 ex59 => ?_)
              have gx59 := rg x59
              have ox59 := IM.dgR hI54 R_r0_4 ex59
              have hd92 := ex59
              refine b_icmp_gt C (t := 125) rfl rfl rfl (fun c60 => ?_) (fun c60 => ?_)
              · skip
                refine k_goto C (pc2 := 152) rfl rfl ?_
                refine z_iinc C (z := 1) (lw := fun x61 => [(3, .int x61), (0, .ref r0), (1, .int n1), (2, .int x7), (5, .int x50)]) rfl rfl rfl (Nat.le_of_ble_eq_true rfl) rfl ⟨by omega, by omega⟩ (fun _ => rfl) (fun x61 ex61 => ?_)
                show V 155 [(3, .int x61), (0, .ref r0), (1, .int n1), (2, .int x7), (5, .int x50)] _ _ _ _
                refine k_goto C (pc2 := 4) rfl rfl ?_
                refine k_sub S [(0, .ref r0), (1, .int n1), (2, .int x7), (3, .int x61)] (List.forall_mem_cons.mpr ⟨List.mem_of_getElem? (i := 1) rfl, List.forall_mem_cons.mpr ⟨List.mem_of_getElem? (i := 2) rfl, List.forall_mem_cons.mpr ⟨List.mem_of_getElem? (i := 3) rfl, List.forall_mem_cons.mpr ⟨List.mem_of_getElem? (i := 0) rfl, fun _ h => nomatch h⟩⟩⟩⟩) ?_
                exact ihJ3 _ (MN.lt hmnn4 (by omega) (by omega)) I48 L49 x7 x61 rfl hI54 (CM.cons S13 (CM.mono S53 (by decide) (by decide)) (by decide) (by decide)) (by omega) (by omega) (by omega) (by omega) (by (have h9 := HgtS (g := I r0_1) (b := 198 + 401 * n1.toNatClampNeg) (x := x10) (y := x61) (by omega) (by omega)); (have h8 := hS.2.2 x10.toNatClampNeg (by have := ncz (x := x10) (by omega); omega)); (split at h9 <;> first | omega | (split at h9 <;> omega))) (by omega) (by first | exact VRI.ly ff4_2 hel (Or.inl ⟨by omega, rfl⟩) (t := x7) rfl (fun r hr => ⟨hr4 r (by omega), fun k hk => hr5 _ (by omega)⟩) hw30 (by omega) (by omega) (by omega) | exact VRI.ly ff4_2 hel (Or.inr ⟨by omega, rfl⟩) (t := x7) rfl hs65 hw65 (by omega) (by omega) (by omega) | exact VRJ.e ff83_0 (by omega) hd92 (by omega) (by omega) (by omega) | exact hjd.2 (by omega) _ _ (by omega) (by omega)) (by first | exact ff83_1 | exact hk3) (by first | exact ff83_2 | exact hk4) (by first | exact ff83_3 | exact hk5) (by first | exact ff83_4 | exact hk6)
              refine k_aload_n C rfl rfl rfl ?_
              refine k_iload_n C rfl rfl rfl ?_
              refine z_iconst C (z := 1) rfl rfl rfl (fun x62 ex62 => ?_)
              refine z_isub C rfl rfl ⟨by omega, by omega⟩ (fun x63 ex63 => ?_)
              refine k_iload C rfl rfl rfl ?_
              refine k_aload_n C rfl rfl rfl ?_
              refine z_iconst C (z := 0) rfl rfl rfl (fun x64 ex64 => ?_)
              refine k_aload_n C rfl rfl rfl ?_
              refine k_iload_n C rfl rfl rfl ?_
              refine z_iconst C (z := 1) rfl rfl rfl (fun x65 ex65 => ?_)
              refine z_isub C rfl rfl ⟨by omega, by omega⟩ (fun x66 ex66 => ?_)
              refine k_iload C rfl rfl rfl ?_
              refine c_VI C (a_X12_of hI54 H_r0 (by omega) (by omega) (by omega) (by omega)) rfl rfl rfl rfl rfl ⟨_, rfl, rfl, T_r0, Nat.le_of_ble_eq_true rfl⟩ rfl rfl (Nat.le_of_ble_eq_true rfl) (Nat.le_of_ble_eq_true rfl) (Nat.le_of_ble_eq_true rfl) ?_
              rintro x67 _ _ ⟨o0x67, o1x67, p0x67, rfl, rfl⟩
              have p0x67 := p0x67 r0_5 R_r0_5
              have gx67 := rg x67
              try simp only [e55, e56, ex59] at p0x67
              try have q0x67 := congrArg Int32.toInt p0x67
              have hO := p0x67
              have q68 : x64.toNatClampNeg = 0 := nck (by omega)
              refine c_VI C (a_X12_less hI54 H_r0 (by omega) (by omega) (by omega) (by omega)) rfl rfl rfl rfl rfl ⟨_, rfl, rfl, T_r0, Nat.le_of_ble_eq_true rfl⟩ rfl rfl (Nat.le_of_ble_eq_true rfl) (Nat.le_of_ble_eq_true rfl) (Nat.le_of_ble_eq_true rfl) ?_
              rintro x69 _ _ ⟨o0x69, o1x69, p0x69, p1x69, p2x69, p3x69, rfl, rfl⟩
              have p0x69 := p0x69 r0_1 R_r0_1
              have p2x69 := p2x69 r0_1 R_r0_1
              have p3x69 := p3x69 r0_1 R_r0_1
              have gx69 := rg x69
              try simp only [q68, e55, e56, ex59] at p0x69
              try have q0x69 := congrArg Int32.toInt p0x69
              try simp only [q68, e55, e56, ex59] at p1x69
              try have q1x69 := congrArg Int32.toInt p1x69
              try simp only [q68, e55, e56, ex59] at p2x69
              try have q2x69 := congrArg Int32.toInt p2x69
              try simp only [q68, e55, e56, ex59] at p3x69
              try have q3x69 := congrArg Int32.toInt p3x69
              have hL := p3x69
              have hn116 := ncz (x := x63) (by omega)
              refine c_VV C (a_X12_put hI54 H_r0 (by omega) (by omega) (by omega) (by omega) (by omega) (by omega)) rfl rfl rfl rfl rfl ⟨_, rfl, rfl, T_r0, Nat.le_of_ble_eq_true rfl⟩ rfl rfl (Nat.le_of_ble_eq_true rfl) (Nat.le_of_ble_eq_true rfl) (Nat.le_of_ble_eq_true rfl) ?_
              rintro I71 L72 ⟨p0v70, p1v70, hI71, S73⟩
              have p0v70 := p0v70 r0_5 R_r0_5
              have p1v70 := p1v70 r0_5 R_r0_5
              have e74 := CM.j S73 R_r0_1 (by decide) e55
              have e75 := CM.j S73 R_r0_1 (by decide) e56
              have e76 := CM.j S73 R_r0_4 (by decide) ex59
              try simp only [e55, e56, ex59] at p0v70
              try have q0v70 := congrArg Int32.toInt p0v70
              have hP := p0v70
              have hd116 := CM.j0 S73 R_r0_4 (by decide)
              refine z_iinc C (z := 1) (lw := fun x77 => [(5, .int x77), (0, .ref r0), (1, .int n1), (2, .int x7), (3, .int x10)]) rfl rfl rfl (Nat.le_of_ble_eq_true rfl) rfl ⟨by omega, by omega⟩ (fun _ => rfl) (fun x77 ex77 => ?_)
              show V 122 [(5, .int x77), (0, .ref r0), (1, .int n1), (2, .int x7), (3, .int x10)] _ _ _ _
              refine k_goto C (pc2 := 83) rfl rfl ?_
              refine k_sub S [(0, .ref r0), (1, .int n1), (2, .int x7), (3, .int x10), (5, .int x77)] (List.forall_mem_cons.mpr ⟨List.mem_of_getElem? (i := 1) rfl, List.forall_mem_cons.mpr ⟨List.mem_of_getElem? (i := 2) rfl, List.forall_mem_cons.mpr ⟨List.mem_of_getElem? (i := 3) rfl, List.forall_mem_cons.mpr ⟨List.mem_of_getElem? (i := 4) rfl, List.forall_mem_cons.mpr ⟨List.mem_of_getElem? (i := 0) rfl, fun _ h => nomatch h⟩⟩⟩⟩⟩) ?_
              exact ihJ46 _ (MN.lt hmnn47 (by omega) (by omega)) I71 L72 x77 rfl hI71 (CM.cons S53 (CM.mono S73 (by decide) (by decide)) (by decide) (by decide)) (by omega) (by omega) (by exact VRJ.s ff83_0 (by omega) (by omega) (by omega) hd92 (by omega) hO hL (by omega) hP hd116 (by omega) (by omega) (by omega)) (by exact SMR.put ff83_1 hP (nclt (by omega) (by omega)) (by omega)) (by rw [hd116]; exact ff83_2) (by exact SMR.put ff83_3 hP (nclt (by omega) (by omega)) (by omega)) (by rw [hd116]; exact ff83_4)
          refine k_istore C (lw := [(5, .int x45), (4, .int x20), (0, .ref r0), (1, .int n1), (2, .int x7), (3, .int x10)]) rfl rfl (Nat.le_of_ble_eq_true rfl) rfl ?_
          refine k_sub S [(0, .ref r0), (1, .int n1), (2, .int x7), (3, .int x10), (5, .int x45)] (List.forall_mem_cons.mpr ⟨List.mem_of_getElem? (i := 2) rfl, List.forall_mem_cons.mpr ⟨List.mem_of_getElem? (i := 3) rfl, List.forall_mem_cons.mpr ⟨List.mem_of_getElem? (i := 4) rfl, List.forall_mem_cons.mpr ⟨List.mem_of_getElem? (i := 5) rfl, List.forall_mem_cons.mpr ⟨List.mem_of_getElem? (i := 0) rfl, fun _ h => nomatch h⟩⟩⟩⟩⟩) ?_
          exact J46 _ I5 L6 x45 rfl hI14 CM.rf (by omega) (by omega) (by exact VRJ.z ff4_2 hel (by omega) (by omega)) (by exact ff4_3) (by exact ff4_4) (by exact ff4_5) (by exact ff4_6)
        refine k_aload_n C rfl rfl rfl ?_
        refine k_iload_n C rfl rfl rfl ?_
        refine z_iconst C (z := 0) rfl rfl rfl (fun x78 ex78 => ?_)
        have q79 : x78.toNatClampNeg = 0 := nck (by omega)
        refine c_VV C (a_X12_clears hI14 H_r0 (by omega) (by omega) (by omega) (by omega)) rfl rfl rfl rfl rfl ⟨_, rfl, rfl, T_r0, Nat.le_of_ble_eq_true rfl⟩ rfl rfl (Nat.le_of_ble_eq_true rfl) (Nat.le_of_ble_eq_true rfl) (Nat.le_of_ble_eq_true rfl) ?_
        rintro I81 L82 ⟨p0v80, p1v80, p2v80, p3v80, hI81, S83⟩
        have p0v80 := p0v80 r0_4 R_r0_4
        have p1v80 := p1v80 r0_5 R_r0_5
        have p2v80 := p2v80 r0_4 R_r0_4
        have p3v80 := p3v80 r0_5 R_r0_5
        try simp only [q79] at p2v80
        try simp only [q79] at p3v80
        have e84 := CM.j S83 R_r0_1 (by decide) e15
        have e85 := CM.j S83 R_r0_1 (by decide) e16
        obtain ⟨x86, e87⟩ : ∃ x, I81 r0_4 x7.toNatClampNeg = x := ⟨_, rfl⟩
        have gx86 := rg x86
        have ox86 := IM.dgR hI81 R_r0_4 e87
        try simp only [q79, e15, e16, e87] at p0v80
        try have q0v80 := congrArg Int32.toInt p0v80
        try simp only [q79, e15, e16, e87] at p1v80
        try have q1v80 := congrArg Int32.toInt p1v80
        have hc48 : (I81 r0_4 x7.toNatClampNeg).toInt = 0 := (by rw [e87]; omega)
        have hr4 := p2v80
        have hr5 := p3v80
        have hn30 := ncz (x := x7) (by omega)
        have hs48 := fun (r : Nat) (hr : r < x7.toNatClampNeg) => (⟨hr4 r (by omega), fun k (hk : k < 41) => hr5 (41 * r + k) (by omega)⟩ : _ ∧ _)
        have hk3 : SMR I I81 r0_5 44 := SMR.cs ff4_3 (fun k hk => hr5 _ (by omega))
        have hk4 : (I81 r0_4 44) = I r0_4 44 := (hr4 _ (by omega)).trans ff4_4
        have hk5 : SMR I I81 r0_5 42 := SMR.cs ff4_5 (fun k hk => hr5 _ (by omega))
        have hk6 : (I81 r0_4 42) = I r0_4 42 := (hr4 _ (by omega)).trans ff4_6
        refine k_aload_n C rfl rfl rfl ?_
        refine k_iload_n C rfl rfl rfl ?_
        refine z_iconst C (z := 0) rfl rfl rfl (fun x88 ex88 => ?_)
        refine k_aload_n C rfl rfl rfl ?_
        refine k_aload_n C rfl rfl rfl ?_
        refine k_iload_n C rfl rfl rfl ?_
        refine k_iload_n C rfl rfl rfl ?_
        refine c_VI C (a_X12_toldBy hI81 H_r0 (by omega) (by omega) (by omega) (by omega)) rfl rfl rfl rfl rfl ⟨_, rfl, rfl, T_r0, Nat.le_of_ble_eq_true rfl⟩ rfl rfl (Nat.le_of_ble_eq_true rfl) (Nat.le_of_ble_eq_true rfl) (Nat.le_of_ble_eq_true rfl) ?_
        rintro x89 _ _ ⟨p0x89, rfl, rfl⟩
        have p0x89 := p0x89 r0_1 R_r0_1
        have gx89 := rg x89
        try simp only [e84, e85, e87] at p0x89
        try have q0x89 := congrArg Int32.toInt p0x89
        rw [(CM.j0 (I := I) (L := L) (I' := I81) (L' := L82) (A := A) (W := []) (WA := [4, 5]) (CM.cons S13 (CM.mono S83 (by decide) (by decide)) (by decide) (by decide)) R_r0_1 (by decide))] at p0x89
        have hz58 := p0x89
        rw [← hz58] at hel
        refine z_i2l C rfl rfl (fun lg90 elg90 => ?_)
        have hl62 := elg90
        refine c_VI C (a_X12_mod_e hI81 H_r0) rfl rfl rfl rfl rfl ⟨_, rfl, rfl, T_r0, Nat.le_of_ble_eq_true rfl⟩ rfl rfl (Nat.le_of_ble_eq_true rfl) (Nat.le_of_ble_eq_true rfl) (Nat.le_of_ble_eq_true rfl) ?_
        rintro x91 _ _ ⟨o0x91, o1x91, p0x91, p1x91, rfl, rfl⟩
        have p0x91 := p0x91 r0_1 R_r0_1
        have p1x91 := p1x91 r0_1 R_r0_1
        have gx91 := rg x91
        try simp only [e84, e85, e87] at p0x91
        try have q0x91 := congrArg Int32.toInt p0x91
        try simp only [e84, e85, e87] at p1x91
        try have q1x91 := congrArg Int32.toInt p1x91
        have hm62 := p1x91
        have q92 : x88.toNatClampNeg = 0 := nck (by omega)
        refine c_VV C (a_X12_put hI81 H_r0 (by omega) (by omega) (by omega) (by omega) (by omega) (by omega)) rfl rfl rfl rfl rfl ⟨_, rfl, rfl, T_r0, Nat.le_of_ble_eq_true rfl⟩ rfl rfl (Nat.le_of_ble_eq_true rfl) (Nat.le_of_ble_eq_true rfl) (Nat.le_of_ble_eq_true rfl) ?_
        rintro I94 L95 ⟨p0v93, p1v93, hI94, S96⟩
        have p0v93 := p0v93 r0_5 R_r0_5
        have p1v93 := p1v93 r0_5 R_r0_5
        try simp only [q92] at p1v93
        have e97 := CM.j S96 R_r0_1 (by decide) e84
        have e98 := CM.j S96 R_r0_1 (by decide) e85
        have e99 := CM.j S96 R_r0_4 (by decide) e87
        try simp only [q92, e84, e85, e87] at p0v93
        try have q0v93 := congrArg Int32.toInt p0v93
        have hP := p0v93
        have hd65 := CM.j0 S96 R_r0_4 (by decide)
        have hs65 := RWT9.put hs48 hP (by decide) hd65
        have hw65 := VRW.num hd65 hc48 hP hm62 hl62 (by omega)
        have hk3 : SMR I I94 r0_5 44 := SMR.put hk3 hP (by decide) (by omega)
        have hk4 : (I94 r0_4 44) = I r0_4 44 := by rw [hd65]; exact hk4
        have hk5 : SMR I I94 r0_5 42 := SMR.put hk5 hP (by decide) (by omega)
        have hk6 : (I94 r0_4 42) = I r0_4 42 := by rw [hd65]; exact hk6
        refine z_iinc C (z := 1) (lw := fun x100 => [(2, .int x100), (4, .int x20), (0, .ref r0), (1, .int n1), (3, .int x10)]) rfl rfl rfl (Nat.le_of_ble_eq_true rfl) rfl ⟨by omega, by omega⟩ (fun _ => rfl) (fun x100 ex100 => ?_)
        show V 71 [(2, .int x100), (4, .int x20), (0, .ref r0), (1, .int n1), (3, .int x10)] _ _ _ _
        refine k_goto C (pc2 := 152) rfl rfl ?_
        refine z_iinc C (z := 1) (lw := fun x101 => [(3, .int x101), (2, .int x100), (4, .int x20), (0, .ref r0), (1, .int n1)]) rfl rfl rfl (Nat.le_of_ble_eq_true rfl) rfl ⟨by omega, by omega⟩ (fun _ => rfl) (fun x101 ex101 => ?_)
        show V 155 [(3, .int x101), (2, .int x100), (4, .int x20), (0, .ref r0), (1, .int n1)] _ _ _ _
        refine k_goto C (pc2 := 4) rfl rfl ?_
        refine k_sub S [(0, .ref r0), (1, .int n1), (2, .int x100), (3, .int x101)] (List.forall_mem_cons.mpr ⟨List.mem_of_getElem? (i := 3) rfl, List.forall_mem_cons.mpr ⟨List.mem_of_getElem? (i := 4) rfl, List.forall_mem_cons.mpr ⟨List.mem_of_getElem? (i := 1) rfl, List.forall_mem_cons.mpr ⟨List.mem_of_getElem? (i := 0) rfl, fun _ h => nomatch h⟩⟩⟩⟩) ?_
        exact ihJ3 _ (MN.lt hmnn4 (by omega) (by omega)) I94 L95 x100 x101 rfl hI94 (CM.cons S13 (CM.cons S83 (CM.mono S96 (by decide) (by decide)) (by decide) (by decide)) (by decide) (by decide)) (by omega) (by omega) (by omega) (by omega) (by (have h9 := HgtS (g := I r0_1) (b := 198 + 401 * n1.toNatClampNeg) (x := x10) (y := x101) (by omega) (by omega)); (have h8 := hS.2.2 x10.toNatClampNeg (by have := ncz (x := x10) (by omega); omega)); (split at h9 <;> first | omega | (split at h9 <;> omega))) (by omega) (by first | exact VRI.ly ff4_2 hel (Or.inl ⟨by omega, rfl⟩) (t := x7) rfl (fun r hr => ⟨hr4 r (by omega), fun k hk => hr5 _ (by omega)⟩) hw30 (by omega) (by omega) (by omega) | exact VRI.ly ff4_2 hel (Or.inr ⟨by omega, rfl⟩) (t := x7) rfl hs65 hw65 (by omega) (by omega) (by omega) | exact VRJ.e ff83_0 (by omega) hd92 (by omega) (by omega) (by omega) | exact hjd.2 (by omega) _ _ (by omega) (by omega)) (by first | exact ff83_1 | exact hk3) (by first | exact ff83_2 | exact hk4) (by first | exact ff83_3 | exact hk5) (by first | exact ff83_4 | exact hk6)
      refine k_aload_n C rfl rfl rfl ?_
      refine z_bipush C (z := 44) rfl rfl rfl (fun x102 ex102 => ?_)
      refine k_iload_n C rfl rfl rfl ?_
      obtain ⟨x103, e104⟩ : ∃ x, I5 r0_4 44 = x := ⟨_, rfl⟩
      have gx103 := rg x103
      have ox103 := IM.dgR hI14 R_r0_4 e104
      have q105 : x102.toNatClampNeg = 44 := nck (by omega)
      refine c_VV C (a_X12_copies hI14 H_r0 (by omega) (by omega) (by omega) (by omega) (by first | omega | (simp only [q105, e15, e16, e104, and_true, true_and, or_true, true_or, and_false, false_and, or_false, false_or] <;> omega))) rfl rfl rfl rfl rfl ⟨_, rfl, rfl, T_r0, Nat.le_of_ble_eq_true rfl⟩ rfl rfl (Nat.le_of_ble_eq_true rfl) (Nat.le_of_ble_eq_true rfl) (Nat.le_of_ble_eq_true rfl) ?_
      rintro I107 L108 ⟨p0v106, p1v106, p2v106, p3v106, hI107, S109⟩
      have p0v106 := p0v106 r0_4 R_r0_4
      have p1v106 := p1v106 r0_4 r0_5 R_r0_4 R_r0_5
      have p2v106 := p2v106 r0_4 R_r0_4
      have p3v106 := p3v106 r0_5 R_r0_5
      try simp only [q105] at p2v106
      try simp only [q105] at p3v106
      have e110 := CM.j S109 R_r0_1 (by decide) e15
      have e111 := CM.j S109 R_r0_1 (by decide) e16
      have e112 := (p2v106 44 (by first | decide | exact ncne (by omega) (by omega) (by omega) | exact nckn (by omega) (by omega) | exact (nckn (by omega) (by omega)).symm)).trans e104
      obtain ⟨x113, e114⟩ : ∃ x, I107 r0_4 x7.toNatClampNeg = x := ⟨_, rfl⟩
      have gx113 := rg x113
      have ox113 := IM.dgR hI107 R_r0_4 e114
      try simp only [q105, e15, e16, e104, e114] at p0v106
      try have q0v106 := congrArg Int32.toInt p0v106
      try simp only [q105, e15, e16, e104, e114] at p1v106
      try have q1v106 := congrArg Int32.toInt p1v106
      have hn30 := ncz (x := x7) (by omega)
      have hw30 : VRW I107 r0_4 r0_5 x7.toNatClampNeg w_r0_1_0.toInt ((I r0_4 44).toInt, RI I r0_5 44) := VRW.cp (a := 44) ((VRW.of hp2 hp3).sm ff4_4 ff4_3) (by rw [e114, ← (p2v106 44 (by omega)), e112]; exact p0v106) (by rw [← (p2v106 44 (by omega)), e112]; exact p1v106)
      have hr4 := p2v106
      have hr5 := p3v106
      have hk3 : SMR I I107 r0_5 44 := SMR.cs ff4_3 (fun k hk => hr5 _ (by omega))
      have hk4 : (I107 r0_4 44) = I r0_4 44 := (hr4 _ (by omega)).trans ff4_4
      have hk5 : SMR I I107 r0_5 42 := SMR.cs ff4_5 (fun k hk => hr5 _ (by omega))
      have hk6 : (I107 r0_4 42) = I r0_4 42 := (hr4 _ (by omega)).trans ff4_6
      refine z_iinc C (z := 1) (lw := fun x115 => [(2, .int x115), (4, .int x20), (0, .ref r0), (1, .int n1), (3, .int x10)]) rfl rfl rfl (Nat.le_of_ble_eq_true rfl) rfl ⟨by omega, by omega⟩ (fun _ => rfl) (fun x115 ex115 => ?_)
      show V 36 [(2, .int x115), (4, .int x20), (0, .ref r0), (1, .int n1), (3, .int x10)] _ _ _ _
      refine k_goto C (pc2 := 152) rfl rfl ?_
      refine z_iinc C (z := 1) (lw := fun x116 => [(3, .int x116), (2, .int x115), (4, .int x20), (0, .ref r0), (1, .int n1)]) rfl rfl rfl (Nat.le_of_ble_eq_true rfl) rfl ⟨by omega, by omega⟩ (fun _ => rfl) (fun x116 ex116 => ?_)
      show V 155 [(3, .int x116), (2, .int x115), (4, .int x20), (0, .ref r0), (1, .int n1)] _ _ _ _
      refine k_goto C (pc2 := 4) rfl rfl ?_
      refine k_sub S [(0, .ref r0), (1, .int n1), (2, .int x115), (3, .int x116)] (List.forall_mem_cons.mpr ⟨List.mem_of_getElem? (i := 3) rfl, List.forall_mem_cons.mpr ⟨List.mem_of_getElem? (i := 4) rfl, List.forall_mem_cons.mpr ⟨List.mem_of_getElem? (i := 1) rfl, List.forall_mem_cons.mpr ⟨List.mem_of_getElem? (i := 0) rfl, fun _ h => nomatch h⟩⟩⟩⟩) ?_
      exact ihJ3 _ (MN.lt hmnn4 (by omega) (by omega)) I107 L108 x115 x116 rfl hI107 (CM.cons S13 (CM.mono S109 (by decide) (by decide)) (by decide) (by decide)) (by omega) (by omega) (by omega) (by omega) (by (have h9 := HgtS (g := I r0_1) (b := 198 + 401 * n1.toNatClampNeg) (x := x10) (y := x116) (by omega) (by omega)); (have h8 := hS.2.2 x10.toNatClampNeg (by have := ncz (x := x10) (by omega); omega)); (split at h9 <;> first | omega | (split at h9 <;> omega))) (by omega) (by first | exact VRI.ly ff4_2 hel (Or.inl ⟨by omega, rfl⟩) (t := x7) rfl (fun r hr => ⟨hr4 r (by omega), fun k hk => hr5 _ (by omega)⟩) hw30 (by omega) (by omega) (by omega) | exact VRI.ly ff4_2 hel (Or.inr ⟨by omega, rfl⟩) (t := x7) rfl hs65 hw65 (by omega) (by omega) (by omega) | exact VRJ.e ff83_0 (by omega) hd92 (by omega) (by omega) (by omega) | exact hjd.2 (by omega) _ _ (by omega) (by omega)) (by first | exact ff83_1 | exact hk3) (by first | exact ff83_2 | exact hk4) (by first | exact ff83_3 | exact hk5) (by first | exact ff83_4 | exact hk6)
  refine k_istore_n C (lw := [(3, .int x2), (2, .int x1), (0, .ref r0), (1, .int n1)]) rfl rfl (Nat.le_of_ble_eq_true rfl) rfl ?_
  refine k_sub S [(0, .ref r0), (1, .int n1), (2, .int x1), (3, .int x2)] (List.forall_mem_cons.mpr ⟨List.mem_of_getElem? (i := 2) rfl, List.forall_mem_cons.mpr ⟨List.mem_of_getElem? (i := 3) rfl, List.forall_mem_cons.mpr ⟨List.mem_of_getElem? (i := 1) rfl, List.forall_mem_cons.mpr ⟨List.mem_of_getElem? (i := 0) rfl, fun _ h => nomatch h⟩⟩⟩⟩) ?_
  exact J3 _ I L x1 x2 rfl hI CM.rf (by omega) (by omega) (by omega) (by omega) (by rw [nck (x := x2) (n := 0) (by omega)]; show _ = (0 : Int); omega) (by omega) (by exact VRI.z hp1 (by omega) (by omega)) (by exact SMR.eq rfl) (by rfl) (by exact SMR.eq rfl) (by rfl)

