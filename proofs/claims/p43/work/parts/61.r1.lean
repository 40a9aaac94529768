/-! the reference: forms, tables, acts, the tape, exactly -/
theorem mxS.cg {p a b c d : Int} {D : Nat} {f g : Nat → Int} {i : Nat} : ∀ m, (∀ k, k < m → f k = g k) → mxS p a b c d D f m i = mxS p a b c d D g m i
  | 0, _ => rfl
  | m + 1, h => by
    rw [mxS.s, mxS.s, mxS.cg m (fun k hk => h k (by omega))]
    unfold mxG
    rw [h m (by omega)]
/-- a form's numbers laid from row 41 into the world, k of them -/
def MFL (W' nu W : Nat → Int32) (f : Nat) (k : Int) : Prop := (∀ j : Nat, (j : Int) < k → (W' (7 + 10 * f + j)).toInt = (nu (41 * 41 + j)).toInt) ∧ ∀ r : Nat, (r < 7 + 10 * f ∨ 7 + 10 * f + k.toNat ≤ r) → W' r = W r
theorem MFL.z {W' nu W : Nat → Int32} {f : Nat} {k : Int} (h : W' = W) (hk : k = 0) : MFL W' nu W f k := ⟨fun j hj => by omega, fun r _ => by rw [h]⟩
theorem MFL.s {I1 I2 : IT} {w nu : Nat} {W : Nat → Int32} {f k k' j o : Int32} (h : MFL (I1 w) (I1 nu) W f.toNatClampNeg k.toInt) (u : I2 = u2 I1 w j.toNatClampNeg o) (hn : I2 nu = I1 nu) (hO : o.toInt = (I1 nu (41 * 41 + k.toNatClampNeg)).toInt) (hf : 0 ≤ f.toInt) (hj : j.toInt = 6 + 10 * f.toInt + 1 + k.toInt) (h0 : 0 ≤ k.toInt) (hk : k'.toInt = k.toInt + 1) : MFL (I2 w) (I2 nu) W f.toNatClampNeg k'.toInt := by
  have n0 := ncz h0
  have nf := ncz hf
  have nj := ncz (x := j) (by omega)
  refine ⟨fun i hi => ?_, fun r hr => ?_⟩
  · rw [hn, u]
    by_cases q : i = k.toNatClampNeg
    · subst q
      rw [show 7 + 10 * f.toNatClampNeg + k.toNatClampNeg = j.toNatClampNeg from by omega, u2_s]; exact hO
    · rw [u2_k (by omega)]; exact h.1 i (by omega)
  · rw [u, u2_k (by omega)]; exact h.2 r (by omega)
def MFD (W' W : Nat → Int32) (f : Nat) (a b c d p : Int) : Prop := (∀ k : Nat, (k : Int) ≤ (W (6 + 10 * f)).toInt → (W' (7 + 10 * f + k)).toInt = mxS p a b c d (W (6 + 10 * f)).toInt.toNat (fun i => (W (7 + 10 * f + i)).toInt) ((W (6 + 10 * f)).toInt.toNat + 1) k) ∧ ∀ r : Nat, (r < 7 + 10 * f ∨ 7 + 10 * f + (W (6 + 10 * f)).toInt.toNat + 1 ≤ r) → W' r = W r
theorem MFD.of {I I8 I9 I31 : IT} {w nu f : Nat} {k a b c d p : Int} {x2 x16 : Int32} (h : MFL (I9 w) (I9 nu) (I w) f k) (e : I w (6 + 10 * f) = x2) (hD : x16.toInt = x2.toInt) (h0 : 0 ≤ x16.toInt) (T : TKE I8 I w nu 40 (6 + 10 * f + 1) x16.toInt) (M : MXE I8 I31 nu 40 41 x16.toInt a b c d p) (hn : I9 nu = I31 nu) (hk : k = x16.toInt + 1) : MFD (I9 w) (I w) f a b c d p := by
  unfold MFD
  rw [e, ← hD]
  refine ⟨fun j hj => ?_, fun r hr => h.2 r (by omega)⟩
  rw [h.1 j (by omega), hn]
  have m := M j hj
  have m : (I31 nu (41 * 41 + j)).toInt = _ := m
  rw [m]
  refine mxS.cg _ (fun i hi => ?_)
  have t := T i (by omega)
  rw [t, show 6 + 10 * f + 1 + i = 7 + 10 * f + i from by omega]
/-- whether the form is another one -/
def MFX (x : Int) (W' W : Nat → Int32) (f : Nat) : Prop := IFF (1 - x) (∀ k : Nat, (k : Int) ≤ (W (6 + 10 * f)).toInt → (W' (7 + 10 * f + k)).toInt = (W (7 + 10 * f + k)).toInt)
theorem MFX.of {I I8 I9 I31 : IT} {w nu dg f : Nat} {k x y : Int} {x2 x16 : Int32} (h : MFL (I9 w) (I9 nu) (I w) f k) (e : I w (6 + 10 * f) = x2) (hD : x16.toInt = x2.toInt) (T : TKE I8 I w nu 40 (6 + 10 * f + 1) x16.toInt) (Q : ∀ j, j < 41 → I31 nu (41 * 40 + j) = I8 nu (41 * 40 + j)) (hn : I9 nu = I31 nu) (hk : k = x16.toInt + 1) (h40 : x16.toInt ≤ 40) (d40 : (I9 dg 40).toInt = x16.toInt) (d41 : (I9 dg 41).toInt = x16.toInt) (L : IFF y (RLK I9 dg nu 40 41)) (hx : x = 1 - y) : MFX x (I9 w) (I w) f := by
  have q : RLK I9 dg nu 40 41 ↔ ∀ k : Nat, (k : Int) ≤ (I w (6 + 10 * f)).toInt → (I9 w (7 + 10 * f + k)).toInt = (I w (7 + 10 * f + k)).toInt := by
    have r : ∀ j : Nat, (j : Int) ≤ x16.toInt → RI I9 nu 40 j = (I w (7 + 10 * f + j)).toInt := fun j hj => by
      show (I9 nu (41 * 40 + j)).toInt = _
      rw [hn, Q j (by omega)]
      have t := T j hj
      have t : (I8 nu (41 * 40 + j)).toInt = _ := t
      rw [t, show 6 + 10 * f + 1 + j = 7 + 10 * f + j from by omega]
    unfold RLK
    rw [d40, d41, e, ← hD]
    refine ⟨fun g j hj => ?_, fun g => ⟨rfl, fun j hj => ?_⟩⟩
    · rw [h.1 j (by omega), ← r j hj, g.2 j hj]; rfl
    · rw [r j hj, ← g j hj, h.1 j (by omega)]; rfl
  unfold MFX
  rw [show 1 - x = y from by omega]
  exact ⟨fun z => q.mp (L.1 z), fun z g => L.2 z (q.mpr g)⟩
theorem MFX.cg {x : Int} {W' W1 W : Nat → Int32} {f : Nat} (h : MFX x W' W1 f) (e : ∀ r : Nat, r ≠ 4 → r ≠ 5 → r < 3406 → W1 r = W r) (hf : f ≤ 15) (hD : (W (6 + 10 * f)).toInt ≤ 8) : MFX x W' W f := by
  unfold MFX at h ⊢
  rw [e (6 + 10 * f) (by omega) (by omega) (by omega)] at h
  have q : (∀ k : Nat, (k : Int) ≤ (W (6 + 10 * f)).toInt → (W' (7 + 10 * f + k)).toInt = (W1 (7 + 10 * f + k)).toInt) ↔ (∀ k : Nat, (k : Int) ≤ (W (6 + 10 * f)).toInt → (W' (7 + 10 * f + k)).toInt = (W (7 + 10 * f + k)).toInt) :=
    ⟨fun g k hk => by rw [g k hk, e (7 + 10 * f + k) (by omega) (by omega) (by omega)], fun g k hk => by rw [g k hk, e (7 + 10 * f + k) (by omega) (by omega) (by omega)]⟩
  exact ⟨fun z => q.mp (h.1 z), fun z g => h.2 z (q.mpr g)⟩
theorem PWI.p {a p : Int} (ha : 0 ≤ a) : ∀ n, 0 ≤ PWI a p n
  | 0 => by show (0 : Int) ≤ 1; decide
  | n + 1 => Int.tmod_nonneg _ (Int.mul_nonneg (PWI.p ha n) ha)
theorem PWQ.p {v a p k : Int} (h : PWQ v a p k) (ha : 0 ≤ a) : 0 ≤ v := by unfold PWQ at h; rw [h]; exact PWI.p ha _
/-- a table turned back -/
def INVP (x z p : Int) : Prop := INVQ x z p ∧ (0 ≤ z → 0 ≤ x)
def dnR (p a b c d : Int) : Int := ((a * d).tmod p - (b * c).tmod p + p).tmod p
def TBK (a' b' c' d' a b c d p : Int) : Prop := ∃ x, INVP x (dnR p a b c d) p ∧ a' = (d * x).tmod p ∧ b' = ((0 - b + p).tmod p * x).tmod p ∧ c' = ((0 - c + p).tmod p * x).tmod p ∧ d' = (a * x).tmod p
theorem TBK.of {x z a b c d p a' b' c' d' l1 l2 z0 z1 : Int} (h1 : DTN z a b c d p) (h2 : INVQ x z p) (h3 : 0 ≤ z → 0 ≤ x) (ta : TMD a' d x p) (la : LSD l1 z0 b p) (tb : TMD b' l1 x p) (lb : LSD l2 z1 c p) (tc : TMD c' l2 x p) (td : TMD d' a x p) (e0 : z0 = 0) (e1 : z1 = 0) : TBK a' b' c' d' a b c d p := by
  unfold TMD LSD at *
  subst e0; subst e1; subst la; subst lb
  have h1 : z = dnR p a b c d := h1
  rw [h1] at h2 h3
  exact ⟨x, ⟨h2, h3⟩, ta, tb, tc, td⟩
/-- a table laid behind the others -/
def TBW (W' W : Nat → Int32) (a b c d : Int) : Prop := ((W' (166 + 4 * (W 2).toInt.toNat)).toInt = a ∧ (W' (167 + 4 * (W 2).toInt.toNat)).toInt = b ∧ (W' (168 + 4 * (W 2).toInt.toNat)).toInt = c ∧ (W' (169 + 4 * (W 2).toInt.toNat)).toInt = d) ∧ ∀ r : Nat, r ≠ 2 → (r < 166 + 4 * (W 2).toInt.toNat ∨ 170 + 4 * (W 2).toInt.toNat ≤ r) → W' r = W r
theorem TBW.of {I I1 I2 I3 I4 I5 : IT} {w : Nat} {j1 j2 j3 j4 x1 x2 x3 x4 y n : Int32} {a b c d : Int} (e1 : I1 = u2 I w j1.toNatClampNeg x1) (e2 : I2 = u2 I1 w j2.toNatClampNeg x2) (e3 : I3 = u2 I2 w j3.toNatClampNeg x3) (e4 : I4 = u2 I3 w j4.toNatClampNeg x4) (e5 : I5 = u2 I4 w 2 y) (hn : I w 2 = n) (h0 : 0 ≤ n.toInt) (h1 : j1.toInt = 166 + 4 * n.toInt) (h2 : j2.toInt = 167 + 4 * n.toInt) (h3 : j3.toInt = 168 + 4 * n.toInt) (h4 : j4.toInt = 169 + 4 * n.toInt) (ea : x1.toInt = a) (eb : x2.toInt = b) (ec : x3.toInt = c) (ed : x4.toInt = d) : TBW (I5 w) (I w) a b c d := by
  have q1 := ncz (x := j1) (by omega)
  have q2 := ncz (x := j2) (by omega)
  have q3 := ncz (x := j3) (by omega)
  have q4 := ncz (x := j4) (by omega)
  unfold TBW
  rw [hn]
  have g : ∀ r, I5 w r = if r = 2 then y else if r = j4.toNatClampNeg then x4 else if r = j3.toNatClampNeg then x3 else if r = j2.toNatClampNeg then x2 else if r = j1.toNatClampNeg then x1 else I w r := fun r => by
    rw [e5, e4, e3, e2, e1]
    simp only [u2, true_and]
  refine ⟨⟨?_, ?_, ?_, ?_⟩, fun r hr hq => ?_⟩
  · rw [g, if_neg (by omega), if_neg (by omega), if_neg (by omega), if_neg (by omega), if_pos (by omega)]; exact ea
  · rw [g, if_neg (by omega), if_neg (by omega), if_neg (by omega), if_pos (by omega)]; exact eb
  · rw [g, if_neg (by omega), if_neg (by omega), if_pos (by omega)]; exact ec
  · rw [g, if_neg (by omega), if_pos (by omega)]; exact ed
  · rw [g, if_neg hr, if_neg (by omega), if_neg (by omega), if_neg (by omega), if_neg (by omega)]
def TBX (W' W : Nat → Int32) (t a b c d : Int) : Prop := (t ≠ 0 → W' = W) ∧ (t = 0 → TBW W' W a b c d)
theorem TBX.n {W' W : Nat → Int32} {t a b c d : Int} (ht : t ≠ 0) (h : W' = W) : TBX W' W t a b c d := ⟨fun _ => h, fun q => absurd q ht⟩
theorem TBX.y {W' W1 W : Nat → Int32} {t a b c d a' b' c' d' : Int} (ht : t = 0) (e : W1 = W) (h : TBW W' W1 a' b' c' d') (ea : a' = a) (eb : b' = b) (ec : c' = c) (ed : d' = d) : TBX W' W t a b c d := by
  subst e; subst ea; subst eb; subst ec; subst ed
  exact ⟨fun q => absurd ht q, fun _ => h⟩
/-- two products added -/
def jnR (p a x b y : Int) : Int := ((a * x).tmod p + (b * y).tmod p).tmod p
theorem jnR.of {u v w a x b y p : Int} (h1 : TMD u a x p) (h2 : TMD v b y p) (h3 : PLD w u v p) : w = jnR p a x b y := by
  unfold TMD PLD at *; rw [h3, h1, h2]; rfl
def wtb (W : Nat → Int32) (t k : Nat) : Int := (W (166 + 4 * t + k)).toInt
def TBt (W' W : Nat → Int32) (t : Int) (f : Nat) : Prop := (t ≠ 0 → W' = W) ∧ (t = 0 → ∃ a b c d, TBK a b c d (wtb W f 0) (wtb W f 1) (wtb W f 2) (wtb W f 3) (W 0).toInt ∧ TBW W' W a b c d)
theorem TBt.n {W' W : Nat → Int32} {t : Int} {f : Nat} (ht : t ≠ 0) (h : W' = W) : TBt W' W t f := ⟨fun _ => h, fun q => absurd q ht⟩
theorem TBt.y {W' W1 W : Nat → Int32} {t a b c d a0 b0 c0 d0 p a' b' c' d' : Int} {f : Nat} (ht : t = 0) (e : W1 = W) (h : TBW W' W1 a' b' c' d') (ea : a' = a) (eb : b' = b) (ec : c' = c) (ed : d' = d) (k : TBK a b c d a0 b0 c0 d0 p) (ka : a0 = wtb W f 0) (kb : b0 = wtb W f 1) (kc : c0 = wtb W f 2) (kd : d0 = wtb W f 3) (kp : p = (W 0).toInt) : TBt W' W t f := by
  subst e; subst ea; subst eb; subst ec; subst ed; subst ka; subst kb; subst kc; subst kd; subst kp
  exact ⟨fun q => absurd ht q, fun _ => ⟨_, _, _, _, k, h⟩⟩
/-- the acts: the first one forgotten -/
def SHF (W1 W : Nat → Int32) (n : Int) : Prop := (∀ r : Nat, 3406 ≤ r → (r : Int) < n → W1 r = W (r + 5)) ∧ ∀ r : Nat, (r < 3406 ∨ n ≤ (r : Int)) → W1 r = W r
theorem SHF.z {W1 W : Nat → Int32} {n : Int} (h : W1 = W) (hn : n = 3406) : SHF W1 W n := ⟨fun r h1 h2 => by omega, fun r _ => by rw [h]⟩
theorem SHF.s {I1 I2 : IT} {w : Nat} {W : Nat → Int32} {j j5 x j' : Int32} (h : SHF (I1 w) W j.toInt) (u : I2 = u2 I1 w j.toNatClampNeg x) (e : I1 w j5.toNatClampNeg = x) (h0 : 3406 ≤ j.toInt) (h5 : j5.toInt = j.toInt + 5) (h' : j'.toInt = j.toInt + 1) : SHF (I2 w) W j'.toInt := by
  have n0 := ncz (x := j) (by omega)
  have n5 := ncz (x := j5) (by omega)
  refine ⟨fun r h1 h2 => ?_, fun r hr => ?_⟩
  · rw [u]
    by_cases q : r = j.toNatClampNeg
    · subst q; rw [u2_s, ← e, h.2 _ (by omega), show j.toNatClampNeg + 5 = j5.toNatClampNeg from by omega]
    · rw [u2_k q]; exact h.1 r h1 (by omega)
  · rw [u, u2_k (by omega)]; exact h.2 r (by omega)
def AC1 (W1 W : Nat → Int32) : Prop := (∀ r : Nat, r ≠ 4 → r < 3406 → W1 r = W r) ∧ ((W 4).toInt < 40 → (W1 4).toInt = (W 4).toInt + 1 ∧ ∀ r : Nat, 3406 ≤ r → W1 r = W r) ∧ ((W 4).toInt = 40 → (W1 4).toInt = 40 ∧ ∀ r : Nat, 3406 ≤ r → r < 3601 → W1 r = W (r + 5))
theorem AC1.in {I I1 : IT} {w : Nat} {W : Nat → Int32} {u x : Int32} (eW : I w = W) (h : I1 = u2 I w 4 x) (e : W 4 = u) (hu : u.toInt ≠ 40) (hx : x.toInt = u.toInt + 1) : AC1 (I1 w) W := by
  subst eW
  exact ⟨fun r hr _ => by rw [h, u2_k hr], fun _ => ⟨by rw [h, u2_s, e, hx], fun r hr => by rw [h, u2_k (by omega)]⟩, fun q => by rw [e] at q; exact absurd q hu⟩
def AC2 (W2 W : Nat → Int32) (f t : Int32) (n k : Int) : Prop := ∃ W1, AC1 W1 W ∧ n = 3406 + 5 * ((W1 4).toInt - 1) ∧ W2 n.toNat = f ∧ (∀ i : Nat, (i : Int) < k → (W2 (n.toNat + 1 + i)).toInt = (W (166 + 4 * t.toNatClampNeg + i)).toInt) ∧ ∀ r : Nat, (r < n.toNat ∨ n.toNat + 5 ≤ r) → W2 r = W1 r
theorem AC2.z {I1 I2 : IT} {w : Nat} {W : Nat → Int32} {f t j y k : Int32} (h : AC1 (I1 w) W) (e : I2 = u2 I1 w j.toNatClampNeg f) (hy : I1 w 4 = y) (hj : j.toInt = 3406 + 5 * (y.toInt - 1)) (h1 : 1 ≤ y.toInt) (hk : k.toInt = 0) : AC2 (I2 w) W f t j.toInt k.toInt := by
  have n0 : j.toInt.toNat = j.toNatClampNeg := rfl
  refine ⟨I1 w, h, by rw [hy]; exact hj, by rw [n0, e, u2_s], fun i hi => by omega, fun r hr => ?_⟩
  rw [e, u2_k (by omega)]
theorem AC2.s {I1 I2 : IT} {w : Nat} {W : Nat → Int32} {f t n k k' j x : Int32} (h : AC2 (I1 w) W f t n.toInt k.toInt) (u : I2 = u2 I1 w j.toNatClampNeg x) (hO : x.toInt = (I1 w (166 + 4 * t.toNatClampNeg + k.toNatClampNeg)).toInt) (ht : 0 ≤ t.toInt ∧ t.toInt ≤ 7) (h0 : 0 ≤ k.toInt) (h4 : k.toInt < 4) (hn : 3406 ≤ n.toInt) (hj : j.toInt = n.toInt + 1 + k.toInt) (hk : k'.toInt = k.toInt + 1) : AC2 (I2 w) W f t n.toInt k'.toInt := by
  obtain ⟨W1, a1, a2, a3, a4, a5⟩ := h
  have n0 : n.toInt.toNat = n.toNatClampNeg := rfl
  have nn := ncz (x := n) (by omega)
  have nk := ncz h0
  have nt := ncz ht.1
  have nj := ncz (x := j) (by omega)
  refine ⟨W1, a1, a2, by rw [u, u2_k (by omega)]; exact a3, fun i hi => ?_, fun r hr => by rw [u, u2_k (by omega)]; exact a5 r hr⟩
  rw [u]
  by_cases q : i = k.toNatClampNeg
  · subst q
    rw [show n.toInt.toNat + 1 + k.toNatClampNeg = j.toNatClampNeg from by omega, u2_s, hO, a5 _ (by omega), a1.1 _ (by omega) (by omega)]
  · rw [u2_k (by omega)]; exact a4 i (by omega)
def ACTW (W1 : Nat → Int32) (a : Nat) (f : Int32) (W : Nat → Int32) (t : Int32) : Prop := W1 (3406 + 5 * a) = f ∧ ∀ k : Nat, k < 4 → (W1 (3407 + 5 * a + k)).toInt = (W (166 + 4 * t.toNatClampNeg + k)).toInt
def MXA (W2 W : Nat → Int32) (f t : Int32) : Prop := (∀ r : Nat, r ≠ 4 → r ≠ 5 → r < 3406 → W2 r = W r) ∧ (W2 5).toInt = 0 ∧ ((W 4).toInt < 40 → (W2 4).toInt = (W 4).toInt + 1 ∧ (∀ r : Nat, 3406 ≤ r → r < 3406 + 5 * (W 4).toInt.toNat → W2 r = W r) ∧ ACTW W2 (W 4).toInt.toNat f W t) ∧ ((W 4).toInt = 40 → (W2 4).toInt = 40 ∧ (∀ r : Nat, 3406 ≤ r → r < 3601 → W2 r = W (r + 5)) ∧ ACTW W2 39 f W t)
theorem MXA.of {I2 I3 : IT} {w : Nat} {W : Nat → Int32} {f t z u : Int32} {n k : Int} (h : AC2 (I2 w) W f t n k) (e : I3 = u2 I2 w 5 z) (hz : z.toInt = 0) (hk : 4 ≤ k) (hu : W 4 = u) (h0 : 0 ≤ u.toInt) (h40 : u.toInt ≤ 40) : MXA (I3 w) W f t := by
  obtain ⟨W1, a1, a2, a3, a4, a5⟩ := h
  have g : ∀ r : Nat, r ≠ 5 → I3 w r = I2 w r := fun r hr => by rw [e, u2_k hr]
  refine ⟨fun r h4 h5 h9 => ?_, by rw [e, u2_s]; exact hz, fun q => ?_, fun q => ?_⟩
  · by_cases q : (W 4).toInt < 40
    · have b := (a1.2.1 q).1; rw [hu] at b; rw [g r h5, a5 r (by omega), a1.1 r h4 h9]
    · have b := (a1.2.2 (by rw [hu] at q ⊢; omega)).1; rw [g r h5, a5 r (by omega), a1.1 r h4 h9]
  · have b := a1.2.1 q
    rw [hu] at b q ⊢
    have hn : n.toNat = 3406 + 5 * u.toInt.toNat := by omega
    rw [hn] at a3 a4 a5
    refine ⟨by rw [g 4 (by decide), a5 4 (by omega)]; exact b.1, fun r h1 h2 => by rw [g r (by omega), a5 r (by omega)]; exact b.2 r h1, by rw [g _ (by omega)]; exact a3, fun i hi => ?_⟩
    rw [g _ (by omega), show 3407 + 5 * u.toInt.toNat + i = 3406 + 5 * u.toInt.toNat + 1 + i from by omega]; exact a4 i (by omega)
  · have b := a1.2.2 q
    have hn : n.toNat = 3406 + 5 * 39 := by omega
    rw [hn] at a3 a4 a5
    refine ⟨by rw [g 4 (by decide), a5 4 (by omega)]; exact b.1, fun r h1 h2 => by rw [g r (by omega), a5 r (by omega)]; exact b.2 r h1 h2, by rw [g _ (by omega)]; exact a3, fun i hi => ?_⟩
    rw [g _ (by omega), show 3407 + 5 * 39 + i = 3406 + 5 * 39 + 1 + i from by omega]; exact a4 i (by omega)
def MXT (W' W : Nat → Int32) (f t : Int32) : Prop := ∃ W1, MXA W1 W f t ∧ MFD W' W1 f.toNatClampNeg (wtb W t.toNatClampNeg 0) (wtb W t.toNatClampNeg 1) (wtb W t.toNatClampNeg 2) (wtb W t.toNatClampNeg 3) (W 0).toInt
theorem MXT.of {W' W1 W2 W : Nat → Int32} {f t : Int32} {a b c d p : Int} (A : MXA W1 W f t) (e : W2 = W1) (M : MFD W' W2 f.toNatClampNeg a b c d p) (ht : 0 ≤ t.toInt ∧ t.toInt ≤ 7) (ha : a = (W1 (166 + 4 * t.toNatClampNeg + 0)).toInt) (hb : b = (W1 (166 + 4 * t.toNatClampNeg + 1)).toInt) (hc : c = (W1 (166 + 4 * t.toNatClampNeg + 2)).toInt) (hd : d = (W1 (166 + 4 * t.toNatClampNeg + 3)).toInt) (hp : (W' 0).toInt = p) : MXT W' W f t := by
  have nt := ncz ht.1
  have hp : p = (W1 0).toInt := by rw [← hp, M.2 0 (Or.inl (by omega)), e]
  rw [A.1 _ (by omega) (by omega) (by omega)] at ha hb hc hd
  rw [A.1 0 (by decide) (by decide) (by decide)] at hp
  subst e; subst ha; subst hb; subst hc; subst hd; subst hp
  exact ⟨_, A, M⟩
/-- an act done again, or undone -/
def AGX (W' W : Nat → Int32) (a : Nat) (back x : Int) : Prop := ∃ ta tb tc td : Int, (back = 0 → ta = (W (3407 + 5 * a)).toInt ∧ tb = (W (3408 + 5 * a)).toInt ∧ tc = (W (3409 + 5 * a)).toInt ∧ td = (W (3410 + 5 * a)).toInt) ∧ (back = 1 → TBK ta tb tc td (W (3407 + 5 * a)).toInt (W (3408 + 5 * a)).toInt (W (3409 + 5 * a)).toInt (W (3410 + 5 * a)).toInt (W 0).toInt) ∧ MFD W' W (W (3406 + 5 * a)).toNatClampNeg ta tb tc td (W 0).toInt ∧ x = (W (3406 + 5 * a)).toInt
theorem AGX.z {W' W W1 : Nat → Int32} {n j0 f x x1 x2 x3 x4 j1 j2 j3 j4 : Int32} {back ta tb tc td p : Int} (hb : back = 0) (e : W1 = W) (M : MFD W' W1 f.toNatClampNeg ta tb tc td p) (hn : 0 ≤ n.toInt ∧ n.toInt ≤ 39) (h0 : j0.toInt = 3406 + 5 * n.toInt) (g0 : W j0.toNatClampNeg = f) (hf : f.toInt ≤ 15) (g : W' j0.toNatClampNeg = x) (h1 : j1.toInt = 3407 + 5 * n.toInt) (h2 : j2.toInt = 3408 + 5 * n.toInt) (h3 : j3.toInt = 3409 + 5 * n.toInt) (h4 : j4.toInt = 3410 + 5 * n.toInt) (k1 : W j1.toNatClampNeg = x1) (k2 : W j2.toNatClampNeg = x2) (k3 : W j3.toNatClampNeg = x3) (k4 : W j4.toNatClampNeg = x4) (ea : ta = x1.toInt) (eb : tb = x2.toInt) (ec : tc = x3.toInt) (ed : td = x4.toInt) (hp : p = (W 0).toInt) (hW : ∀ f, f < 16 → (W (6 + 10 * f)).toInt ≤ 8) : AGX W' W n.toNatClampNeg back x.toInt := by
  have nn := ncz hn.1
  have n0 := ncz (x := j0) (by omega)
  have n1 := ncz (x := j1) (by omega)
  have n2 := ncz (x := j2) (by omega)
  have n3 := ncz (x := j3) (by omega)
  have n4 := ncz (x := j4) (by omega)
  have nf : f.toNatClampNeg ≤ 15 := by have : f.toNatClampNeg = f.toInt.toNat := rfl; omega
  have hd := hW f.toNatClampNeg (by omega)
  subst e; subst hp
  have q0 : 3406 + 5 * n.toNatClampNeg = j0.toNatClampNeg := by omega
  refine ⟨ta, tb, tc, td, fun _ => ?_, fun h => by omega, ?_, ?_⟩
  · rw [show 3407 + 5 * n.toNatClampNeg = j1.toNatClampNeg from by omega, show 3408 + 5 * n.toNatClampNeg = j2.toNatClampNeg from by omega, show 3409 + 5 * n.toNatClampNeg = j3.toNatClampNeg from by omega, show 3410 + 5 * n.toNatClampNeg = j4.toNatClampNeg from by omega, k1, k2, k3, k4]
    exact ⟨ea, eb, ec, ed⟩
  · rw [q0, g0]; exact M
  · rw [q0, ← g, M.2 _ (by omega)]
theorem AGX.b {W' W W1 : Nat → Int32} {n j0 f x x1 x2 x3 x4 j1 j2 j3 j4 : Int32} {back ta tb tc td ta' tb' tc' td' y1 y2 y3 y4 p p' : Int} (hb : back = 1) (e : W1 = W) (M : MFD W' W1 f.toNatClampNeg ta tb tc td p) (hn : 0 ≤ n.toInt ∧ n.toInt ≤ 39) (h0 : j0.toInt = 3406 + 5 * n.toInt) (g0 : W j0.toNatClampNeg = f) (hf : f.toInt ≤ 15) (g : W' j0.toNatClampNeg = x) (h1 : j1.toInt = 3407 + 5 * n.toInt) (h2 : j2.toInt = 3408 + 5 * n.toInt) (h3 : j3.toInt = 3409 + 5 * n.toInt) (h4 : j4.toInt = 3410 + 5 * n.toInt) (k1 : W j1.toNatClampNeg = x1) (k2 : W j2.toNatClampNeg = x2) (k3 : W j3.toNatClampNeg = x3) (k4 : W j4.toNatClampNeg = x4) (K : TBK ta' tb' tc' td' y1 y2 y3 y4 p') (ea : ta = ta') (eb : tb = tb') (ec : tc = tc') (ed : td = td') (e1 : y1 = x1.toInt) (e2 : y2 = x2.toInt) (e3 : y3 = x3.toInt) (e4 : y4 = x4.toInt) (hp : p = (W 0).toInt) (hp' : p' = (W 0).toInt) (hW : ∀ f, f < 16 → (W (6 + 10 * f)).toInt ≤ 8) : AGX W' W n.toNatClampNeg back x.toInt := by
  have nn := ncz hn.1
  have n0 := ncz (x := j0) (by omega)
  have n1 := ncz (x := j1) (by omega)
  have n2 := ncz (x := j2) (by omega)
  have n3 := ncz (x := j3) (by omega)
  have n4 := ncz (x := j4) (by omega)
  have nf : f.toNatClampNeg ≤ 15 := by have : f.toNatClampNeg = f.toInt.toNat := rfl; omega
  have hd := hW f.toNatClampNeg (by omega)
  subst e; subst hp; subst hp'; subst ea; subst eb; subst ec; subst ed; subst e1; subst e2; subst e3; subst e4
  have q0 : 3406 + 5 * n.toNatClampNeg = j0.toNatClampNeg := by omega
  refine ⟨ta, tb, tc, td, fun h => by omega, fun _ => ?_, ?_, ?_⟩
  · rw [show 3407 + 5 * n.toNatClampNeg = j1.toNatClampNeg from by omega, show 3408 + 5 * n.toNatClampNeg = j2.toNatClampNeg from by omega, show 3409 + 5 * n.toNatClampNeg = j3.toNatClampNeg from by omega, show 3410 + 5 * n.toNatClampNeg = j4.toNatClampNeg from by omega, k1, k2, k3, k4]
    exact K
  · rw [q0, g0]; exact M
  · rw [q0, ← g, M.2 _ (by omega)]
def UNX (W' W : Nat → Int32) (x : Int) : Prop := ((W 4).toInt = 0 → x = -1 ∧ W' = W) ∧ (0 < (W 4).toInt → ∃ W1, (W1 4).toInt = (W 4).toInt - 1 ∧ (W1 5).toInt = (W 5).toInt + 1 ∧ (∀ r : Nat, r ≠ 4 → r ≠ 5 → W1 r = W r) ∧ AGX W' W1 ((W 4).toInt - 1).toNat 1 x)
def RDX (W' W : Nat → Int32) (x : Int) : Prop := ((W 5).toInt = 0 → x = -1 ∧ W' = W) ∧ (0 < (W 5).toInt → ∃ W1, (W1 4).toInt = (W 4).toInt + 1 ∧ (W1 5).toInt = (W 5).toInt - 1 ∧ (∀ r : Nat, r ≠ 4 → r ≠ 5 → W1 r = W r) ∧ AGX W' W1 (W 4).toInt.toNat 0 x)
theorem UNX.z {W' W : Nat → Int32} {x : Int} {u : Int32} (e : W 4 = u) (h : u.toInt = 0) (hx : x = -1) (hw : W' = W) : UNX W' W x := ⟨fun _ => ⟨hx, hw⟩, fun q => by rw [e] at q; omega⟩
theorem RDX.z {W' W : Nat → Int32} {x : Int} {u : Int32} (e : W 5 = u) (h : u.toInt = 0) (hx : x = -1) (hw : W' = W) : RDX W' W x := ⟨fun _ => ⟨hx, hw⟩, fun q => by rw [e] at q; omega⟩
theorem UNX.y {I I1 I2 : IT} {w : Nat} {W' W : Nat → Int32} {u v x4 x5 n : Int32} {x b : Int} (eW : I w = W) (e : W 4 = u) (e' : W 5 = v) (h : u.toInt ≠ 0) (h0 : 0 ≤ u.toInt) (u1 : I1 = u2 I w 4 x4) (u2' : I2 = u2 I1 w 5 x5) (h4 : x4.toInt = u.toInt - 1) (h5 : x5.toInt = v.toInt + 1) (A : AGX W' (I2 w) n.toNatClampNeg b x) (hb : b = 1) (hn : n.toInt = u.toInt - 1) : UNX W' W x := by
  subst hb; subst eW
  refine ⟨fun q => by rw [e] at q; omega, fun _ => ⟨I2 w, ?_, ?_, fun r h1 h2 => ?_, ?_⟩⟩
  · rw [u2', u2_k (by decide), u1, u2_s, e]; exact h4
  · rw [u2', u2_s, e']; exact h5
  · rw [u2', u2_k h2, u1, u2_k h1]
  · rw [e, ← hn]; exact A
theorem RDX.y {I I1 I2 : IT} {w : Nat} {W' W : Nat → Int32} {u v x4 x5 n : Int32} {x b : Int} (eW : I w = W) (e : W 4 = u) (e' : W 5 = v) (h : v.toInt ≠ 0) (h0 : 0 ≤ v.toInt) (u1 : I1 = u2 I w 4 x4) (u2' : I2 = u2 I1 w 5 x5) (h4 : x4.toInt = u.toInt + 1) (h5 : x5.toInt = v.toInt - 1) (A : AGX W' (I2 w) n.toNatClampNeg b x) (hb : b = 0) (hn : n.toInt = u.toInt) : RDX W' W x := by
  subst hb; subst eW
  refine ⟨fun q => by rw [e'] at q; omega, fun _ => ⟨I2 w, ?_, ?_, fun r h1 h2 => ?_, ?_⟩⟩
  · rw [u2', u2_k (by decide), u1, u2_s, e]; exact h4
  · rw [u2', u2_s, e']; exact h5
  · rw [u2', u2_k h2, u1, u2_k h1]
  · rw [e, ← hn]; exact A
/-- a form told -/
def FMW (W1 W tp : Nat → Int32) (f : Nat) (k n p : Int) : Prop := (W1 (6 + 10 * f)).toInt = n - 1 ∧ (∀ i : Nat, (i : Int) < k → (W1 (7 + 10 * f + i)).toInt = ((tp i).toInt % 256) % p) ∧ ∀ r : Nat, (r < 6 + 10 * f ∨ 7 + 10 * f + k.toNat ≤ r) → W1 r = W r
theorem FMW.z {I I1 : IT} {w : Nat} {W tp : Nat → Int32} {f k j x : Int32} {n p : Int} (eW : I w = W) (u : I1 = u2 I w j.toNatClampNeg x) (hf : 0 ≤ f.toInt) (hj : j.toInt = 6 + 10 * f.toInt) (hx : x.toInt = n - 1) (hk : k.toInt = 0) : FMW (I1 w) W tp f.toNatClampNeg k.toInt n p := by
  have nf := ncz hf
  have nj := ncz (x := j) (by omega)
  refine ⟨by rw [u, show 6 + 10 * f.toNatClampNeg = j.toNatClampNeg from by omega, u2_s]; exact hx, fun i hi => by omega, fun r hr => ?_⟩
  rw [u, u2_k (by omega), eW]
theorem FMW.s {I1 I2 : IT} {w : Nat} {W tp : Nat → Int32} {f k k' j o b a : Int32} {l : Int64} {n p p' : Int} (h : FMW (I1 w) W tp f.toNatClampNeg k.toInt n p) (u : I2 = u2 I1 w j.toNatClampNeg o) (ho : o.toInt = l.toInt % p') (ep : p' = p) (hl : l.toInt = a.toInt) (ha : a.toInt = b.toInt % 256) (hb : tp k.toNatClampNeg = b) (hf : 0 ≤ f.toInt) (h0 : 0 ≤ k.toInt) (hj : j.toInt = 7 + 10 * f.toInt + k.toInt) (hk : k'.toInt = k.toInt + 1) : FMW (I2 w) W tp f.toNatClampNeg k'.toInt n p := by
  have nf := ncz hf
  have n0 := ncz h0
  have nj := ncz (x := j) (by omega)
  refine ⟨by rw [u, u2_k (by omega)]; exact h.1, fun i hi => ?_, fun r hr => by rw [u, u2_k (by omega)]; exact h.2.2 r (by omega)⟩
  rw [u]
  by_cases q : i = k.toNatClampNeg
  · subst q
    rw [show 7 + 10 * f.toNatClampNeg + k.toNatClampNeg = j.toNatClampNeg from by omega, u2_s, ho, hl, ha, hb, ep]
  · rw [u2_k (by omega)]; exact h.2.1 i (by omega)
def FMX (W' W tp : Nat → Int32) (n t : Int) : Prop := (t ≠ 0 → W' = W) ∧ (t = 0 → (W' 1).toInt = (W 1).toInt + 1 ∧ (W' 5).toInt = 0 ∧ (W' (6 + 10 * (W 1).toInt.toNat)).toInt = n - 1 ∧ (∀ i : Nat, (i : Int) < n → (W' (7 + 10 * (W 1).toInt.toNat + i)).toInt = ((tp i).toInt % 256) % (W 0).toInt) ∧ ∀ r : Nat, r ≠ 1 → r ≠ 5 → (r < 6 + 10 * (W 1).toInt.toNat ∨ 7 + 10 * (W 1).toInt.toNat + n.toNat ≤ r) → W' r = W r)
theorem FMX.n {W' W tp : Nat → Int32} {n t : Int} (ht : t ≠ 0) (h : W' = W) : FMX W' W tp n t := ⟨fun _ => h, fun q => absurd q ht⟩
theorem FMX.y {I1 I2 I3 : IT} {w : Nat} {W tp : Nat → Int32} {c f x z : Int32} {n k t p : Int} (ht : t = 0) (h : FMW (I1 w) W tp f.toNatClampNeg k n p) (u1 : I2 = u2 I1 w 1 x) (u2' : I3 = u2 I2 w 5 z) (hk : k = n) (hc : W 1 = c) (hf : f.toInt = c.toInt) (h0 : 0 ≤ c.toInt) (hx : x.toInt = c.toInt + 1) (hz : z.toInt = 0) (hp : (W 0).toInt = p) : FMX (I3 w) W tp n t := by
  subst hk
  have ef : c.toInt.toNat = f.toNatClampNeg := by have : f.toNatClampNeg = f.toInt.toNat := rfl; omega
  unfold FMX
  rw [hc, ef, hp]
  have g : ∀ r : Nat, r ≠ 1 → r ≠ 5 → I3 w r = I1 w r := fun r h1 h5 => by rw [u2', u2_k h5, u1, u2_k h1]
  exact ⟨fun q => absurd ht q, fun _ => ⟨by rw [u2', u2_k (by decide), u1, u2_s]; exact hx, by rw [u2', u2_s]; exact hz, by rw [g _ (by omega) (by omega)]; exact h.1, fun i hi => by rw [g _ (by omega) (by omega)]; exact h.2.1 i hi, fun r h1 h5 hr => by rw [g r h1 h5]; exact h.2.2 r hr⟩⟩
