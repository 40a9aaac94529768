/-! the reference: forms, tables, acts, the tape, exactly -/
theorem mxS.cg {p a b c d : Int} {D : Nat} {f g : Nat → Int} {i : Nat} : ∀ m, (∀ k, k < m → f k = g k) → mxS p a b c d D f m i = mxS p a b c d D g m i
  | 0, _ => rfl
  | m + 1, h => by
    rw [mxS.s, mxS.s, mxS.cg m (fun k hk => h k (by omega))]
    unfold mxG
    rw [h m (by omega)]
/-- a form's numbers laid from row 41 into the world, k of them -/
def MFL (W' nu W : Nat → Int32) (f : Nat) (k : Int) : Prop := (∀ j : Nat, (j : Int) < k → (W' (7 + 10 * f + j)).toInt = (nu (41 * 41 + j)).toInt) ∧ ∀ r : Nat, (r < 7 + 10 * f ∨ 7 + 10 * f + k.toNat ≤ r) → W' r = W r
theorem MFL.z {W' nu W : Nat → Int32} {f : Nat} {k : Int} (h : W' = W) (hk : k = 0) : MFL W' nu W f k := ⟨fun j hj => by omega, fun r _ => by rw [h]⟩
theorem MFL.s {I1 I2 : IT} {w nu : Nat} {W : Nat → Int32} {f k k' j o : Int32} (h : MFL (I1 w) (I1 nu) W f.toNatClampNeg k.toInt) (u : I2 = u2 I1 w j.toNatClampNeg o) (hn : I2 nu = I1 nu) (hO : o.toInt = (I1 nu (41 * 41 + k.toNatClampNeg)).toInt) (hf : 0 ≤ f.toInt) (hj : j.toInt = 6 + 10 * f.toInt + 1 + k.toInt) (h0 : 0 ≤ k.toInt) (hk : k'.toInt = k.toInt + 1) : MFL (I2 w) (I2 nu) W f.toNatClampNeg k'.toInt := by
  have n0 := ncz h0
  have nf := ncz hf
  have nj := ncz (x := j) (by omega)
  refine ⟨fun i hi => ?_, fun r hr => ?_⟩
  · rw [hn, u]
    by_cases q : i = k.toNatClampNeg
    · subst q
      rw [show 7 + 10 * f.toNatClampNeg + k.toNatClampNeg = j.toNatClampNeg from by omega, u2_s]; exact hO
    · rw [u2_k (by omega)]; exact h.1 i (by omega)
  · rw [u, u2_k (by omega)]; exact h.2 r (by omega)
def MFD (W' W : Nat → Int32) (f : Nat) (a b c d p : Int) : Prop := (∀ k : Nat, (k : Int) ≤ (W (6 + 10 * f)).toInt → (W' (7 + 10 * f + k)).toInt = mxS p a b c d (W (6 + 10 * f)).toInt.toNat (fun i => (W (7 + 10 * f + i)).toInt) ((W (6 + 10 * f)).toInt.toNat + 1) k) ∧ ∀ r : Nat, (r < 7 + 10 * f ∨ 7 + 10 * f + (W (6 + 10 * f)).toInt.toNat + 1 ≤ r) → W' r = W r
theorem MFD.of {I I8 I9 I31 : IT} {w nu f : Nat} {k a b c d p : Int} {x2 x16 : Int32} (h : MFL (I9 w) (I9 nu) (I w) f k) (e : I w (6 + 10 * f) = x2) (hD : x16.toInt = x2.toInt) (h0 : 0 ≤ x16.toInt) (T : TKE I8 I w nu 40 (6 + 10 * f + 1) x16.toInt) (M : MXE I8 I31 nu 40 41 x16.toInt a b c d p) (hn : I9 nu = I31 nu) (hk : k = x16.toInt + 1) : MFD (I9 w) (I w) f a b c d p := by
  unfold MFD
  rw [e, ← hD]
  refine ⟨fun j hj => ?_, fun r hr => h.2 r (by omega)⟩
  rw [h.1 j (by omega), hn]
  have m := M j hj
  have m : (I31 nu (41 * 41 + j)).toInt = _ := m
  rw [m]
  refine mxS.cg _ (fun i hi => ?_)
  have t := T i (by omega)
  rw [t, show 6 + 10 * f + 1 + i = 7 + 10 * f + i from by omega]
/-- whether the form is another one -/
def MFX (x : Int) (W' W : Nat → Int32) (f : Nat) : Prop := IFF (1 - x) (∀ k : Nat, (k : Int) ≤ (W (6 + 10 * f)).toInt → (W' (7 + 10 * f + k)).toInt = (W (7 + 10 * f + k)).toInt)
theorem MFX.of {I I8 I9 I31 : IT} {w nu dg f : Nat} {k x y : Int} {x2 x16 : Int32} (h : MFL (I9 w) (I9 nu) (I w) f k) (e : I w (6 + 10 * f) = x2) (hD : x16.toInt = x2.toInt) (T : TKE I8 I w nu 40 (6 + 10 * f + 1) x16.toInt) (Q : ∀ j, j < 41 → I31 nu (41 * 40 + j) = I8 nu (41 * 40 + j)) (hn : I9 nu = I31 nu) (hk : k = x16.toInt + 1) (h40 : x16.toInt ≤ 40) (d40 : (I9 dg 40).toInt = x16.toInt) (d41 : (I9 dg 41).toInt = x16.toInt) (L : IFF y (RLK I9 dg nu 40 41)) (hx : x = 1 - y) : MFX x (I9 w) (I w) f := by
  have q : RLK I9 dg nu 40 41 ↔ ∀ k : Nat, (k : Int) ≤ (I w (6 + 10 * f)).toInt → (I9 w (7 + 10 * f + k)).toInt = (I w (7 + 10 * f + k)).toInt := by
    have r : ∀ j : Nat, (j : Int) ≤ x16.toInt → RI I9 nu 40 j = (I w (7 + 10 * f + j)).toInt := fun j hj => by
      show (I9 nu (41 * 40 + j)).toInt = _
      rw [hn, Q j (by omega)]
      have t := T j hj
      have t : (I8 nu (41 * 40 + j)).toInt = _ := t
      rw [t, show 6 + 10 * f + 1 + j = 7 + 10 * f + j from by omega]
    unfold RLK
    rw [d40, d41, e, ← hD]
    refine ⟨fun g j hj => ?_, fun g => ⟨rfl, fun j hj => ?_⟩⟩
    · rw [h.1 j (by omega), ← r j hj, g.2 j hj]; rfl
    · rw [r j hj, ← g j hj, h.1 j (by omega)]; rfl
  unfold MFX
  rw [show 1 - x = y from by omega]
  exact ⟨fun z => q.mp (L.1 z), fun z g => L.2 z (q.mpr g)⟩
theorem MFX.cg {x : Int} {W' W1 W : Nat → Int32} {f : Nat} (h : MFX x W' W1 f) (e : ∀ r : Nat, r ≠ 4 → r ≠ 5 → r < 3406 → W1 r = W r) (hf : f ≤ 15) (hD : (W (6 + 10 * f)).toInt ≤ 8) : MFX x W' W f := by
  unfold MFX at h ⊢
  rw [e (6 + 10 * f) (by omega) (by omega) (by omega)] at h
  have q : (∀ k : Nat, (k : Int) ≤ (W (6 + 10 * f)).toInt → (W' (7 + 10 * f + k)).toInt = (W1 (7 + 10 * f + k)).toInt) ↔ (∀ k : Nat, (k : Int) ≤ (W (6 + 10 * f)).toInt → (W' (7 + 10 * f + k)).toInt = (W (7 + 10 * f + k)).toInt) :=
    ⟨fun g k hk => by rw [g k hk, e (7 + 10 * f + k) (by omega) (by omega) (by omega)], fun g k hk => by rw [g k hk, e (7 + 10 * f + k) (by omega) (by omega) (by omega)]⟩
  exact ⟨fun z => q.mp (h.1 z), fun z g => h.2 z (q.mpr g)⟩
theorem PWI.p {a p : Int} (ha : 0 ≤ a) : ∀ n, 0 ≤ PWI a p n
  | 0 => by show (0 : Int) ≤ 1; decide
  | n + 1 => Int.tmod_nonneg _ (Int.mul_nonneg (PWI.p ha n) ha)
theorem PWQ.p {v a p k : Int} (h : PWQ v a p k) (ha : 0 ≤ a) : 0 ≤ v := by unfold PWQ at h; rw [h]; exact PWI.p ha _
/-- a table turned back -/
def INVP (x z p : Int) : Prop := INVQ x z p ∧ (0 ≤ z → 0 ≤ x)
def dnR (p a b c d : Int) : Int := ((a * d).tmod p - (b * c).tmod p + p).tmod p
def TBK (a' b' c' d' a b c d p : Int) : Prop := ∃ x, INVP x (dnR p a b c d) p ∧ a' = (d * x).tmod p ∧ b' = ((0 - b + p).tmod p * x).tmod p ∧ c' = ((0 - c + p).tmod p * x).tmod p ∧ d' = (a * x).tmod p
theorem TBK.of {x z a b c d p a' b' c' d' l1 l2 z0 z1 : Int} (h1 : DTN z a b c d p) (h2 : INVQ x z p) (h3 : 0 ≤ z → 0 ≤ x) (ta : TMD a' d x p) (la : LSD l1 z0 b p) (tb : TMD b' l1 x p) (lb : LSD l2 z1 c p) (tc : TMD c' l2 x p) (td : TMD d' a x p) (e0 : z0 = 0) (e1 : z1 = 0) : TBK a' b' c' d' a b c d p := by
  unfold TMD LSD at *
  subst e0; subst e1; subst la; subst lb
  have h1 : z = dnR p a b c d := h1
  rw [h1] at h2 h3
  exact ⟨x, ⟨h2, h3⟩, ta, tb, tc, td⟩
/-- a table laid behind the others -/
def TBW (W' W : Nat → Int32) (a b c d : Int) : Prop := ((W' (166 + 4 * (W 2).toInt.toNat)).toInt = a ∧ (W' (167 + 4 * (W 2).toInt.toNat)).toInt = b ∧ (W' (168 + 4 * (W 2).toInt.toNat)).toInt = c ∧ (W' (169 + 4 * (W 2).toInt.toNat)).toInt = d) ∧ ∀ r : Nat, r ≠ 2 → (r < 166 + 4 * (W 2).toInt.toNat ∨ 170 + 4 * (W 2).toInt.toNat ≤ r) → W' r = W r
theorem TBW.of {I I1 I2 I3 I4 I5 : IT} {w : Nat} {j1 j2 j3 j4 x1 x2 x3 x4 y n : Int32} {a b c d : Int} (e1 : I1 = u2 I w j1.toNatClampNeg x1) (e2 : I2 = u2 I1 w j2.toNatClampNeg x2) (e3 : I3 = u2 I2 w j3.toNatClampNeg x3) (e4 : I4 = u2 I3 w j4.toNatClampNeg x4) (e5 : I5 = u2 I4 w 2 y) (hn : I w 2 = n) (h0 : 0 ≤ n.toInt) (h1 : j1.toInt = 166 + 4 * n.toInt) (h2 : j2.toInt = 167 + 4 * n.toInt) (h3 : j3.toInt = 168 + 4 * n.toInt) (h4 : j4.toInt = 169 + 4 * n.toInt) (ea : x1.toInt = a) (eb : x2.toInt = b) (ec : x3.toInt = c) (ed : x4.toInt = d) : TBW (I5 w) (I w) a b c d := by
  have q1 := ncz (x := j1) (by omega)
  have q2 := ncz (x := j2) (by omega)
  have q3 := ncz (x := j3) (by omega)
  have q4 := ncz (x := j4) (by omega)
  unfold TBW
  rw [hn]
  have g : ∀ r, I5 w r = if r = 2 then y else if r = j4.toNatClampNeg then x4 else if r = j3.toNatClampNeg then x3 else if r = j2.toNatClampNeg then x2 else if r = j1.toNatClampNeg then x1 else I w r := fun r => by
    rw [e5, e4, e3, e2, e1]
    simp only [u2, true_and]
  refine ⟨⟨?_, ?_, ?_, ?_⟩, fun r hr hq => ?_⟩
  · rw [g, if_neg (by omega), if_neg (by omega), if_neg (by omega), if_neg (by omega), if_pos (by omega)]; exact ea
  · rw [g, if_neg (by omega), if_neg (by omega), if_neg (by omega), if_pos (by omega)]; exact eb
  · rw [g, if_neg (by omega), if_neg (by omega), if_pos (by omega)]; exact ec
  · rw [g, if_neg (by omega), if_pos (by omega)]; exact ed
  · rw [g, if_neg hr, if_neg (by omega), if_neg (by omega), if_neg (by omega), if_neg (by omega)]
def TBX (W' W : Nat → Int32) (t a b c d : Int) : Prop := (t ≠ 0 → W' = W) ∧ (t = 0 → TBW W' W a b c d)
theorem TBX.n {W' W : Nat → Int32} {t a b c d : Int} (ht : t ≠ 0) (h : W' = W) : TBX W' W t a b c d := ⟨fun _ => h, fun q => absurd q ht⟩
theorem TBX.y {W' W1 W : Nat → Int32} {t a b c d a' b' c' d' : Int} (ht : t = 0) (e : W1 = W) (h : TBW W' W1 a' b' c' d') (ea : a' = a) (eb : b' = b) (ec : c' = c) (ed : d' = d) : TBX W' W t a b c d := by
  subst e; subst ea; subst eb; subst ec; subst ed
  exact ⟨fun q => absurd ht q, fun _ => h⟩
/-- two products added -/
def jnR (p a x b y : Int) : Int := ((a * x).tmod p + (b * y).tmod p).tmod p
theorem jnR.of {u v w a x b y p : Int} (h1 : TMD u a x p) (h2 : TMD v b y p) (h3 : PLD w u v p) : w = jnR p a x b y := by
  unfold TMD PLD at *; rw [h3, h1, h2]; rfl
def wtb (W : Nat → Int32) (t k : Nat) : Int := (W (166 + 4 * t + k)).toInt
def TBj (W' W : Nat → Int32) (t : Int) (f s : Nat) : Prop := TBX W' W t (jnR (W 0).toInt (wtb W f 0) (wtb W s 0) (wtb W f 1) (wtb W s 2)) (jnR (W 0).toInt (wtb W f 0) (wtb W s 1) (wtb W f 1) (wtb W s 3)) (jnR (W 0).toInt (wtb W f 2) (wtb W s 0) (wtb W f 3) (wtb W s 2)) (jnR (W 0).toInt (wtb W f 2) (wtb W s 1) (wtb W f 3) (wtb W s 3))
def TBt (W' W : Nat → Int32) (t : Int) (f : Nat) : Prop := (t ≠ 0 → W' = W) ∧ (t = 0 → ∃ a b c d, TBK a b c d (wtb W f 0) (wtb W f 1) (wtb W f 2) (wtb W f 3) (W 0).toInt ∧ TBW W' W a b c d)
theorem TBt.n {W' W : Nat → Int32} {t : Int} {f : Nat} (ht : t ≠ 0) (h : W' = W) : TBt W' W t f := ⟨fun _ => h, fun q => absurd q ht⟩
theorem TBt.y {W' W1 W : Nat → Int32} {t a b c d a0 b0 c0 d0 p a' b' c' d' : Int} {f : Nat} (ht : t = 0) (e : W1 = W) (h : TBW W' W1 a' b' c' d') (ea : a' = a) (eb : b' = b) (ec : c' = c) (ed : d' = d) (k : TBK a b c d a0 b0 c0 d0 p) (ka : a0 = wtb W f 0) (kb : b0 = wtb W f 1) (kc : c0 = wtb W f 2) (kd : d0 = wtb W f 3) (kp : p = (W 0).toInt) : TBt W' W t f := by
  subst e; subst ea; subst eb; subst ec; subst ed; subst ka; subst kb; subst kc; subst kd; subst kp
  exact ⟨fun q => absurd ht q, fun _ => ⟨_, _, _, _, k, h⟩⟩
/-- the acts: the first one forgotten -/
def SHF (W1 W : Nat → Int32) (n : Int) : Prop := (∀ r : Nat, 3406 ≤ r → (r : Int) < n → W1 r = W (r + 5)) ∧ ∀ r : Nat, (r < 3406 ∨ n ≤ (r : Int)) → W1 r = W r
theorem SHF.z {W1 W : Nat → Int32} {n : Int} (h : W1 = W) (hn : n = 3406) : SHF W1 W n := ⟨fun r h1 h2 => by omega, fun r _ => by rw [h]⟩
theorem SHF.s {I1 I2 : IT} {w : Nat} {W : Nat → Int32} {j j5 x j' : Int32} (h : SHF (I1 w) W j.toInt) (u : I2 = u2 I1 w j.toNatClampNeg x) (e : I1 w j5.toNatClampNeg = x) (h0 : 3406 ≤ j.toInt) (h5 : j5.toInt = j.toInt + 5) (h' : j'.toInt = j.toInt + 1) : SHF (I2 w) W j'.toInt := by
  have n0 := ncz (x := j) (by omega)
  have n5 := ncz (x := j5) (by omega)
  refine ⟨fun r h1 h2 => ?_, fun r hr => ?_⟩
  · rw [u]
    by_cases q : r = j.toNatClampNeg
    · subst q; rw [u2_s, ← e, h.2 _ (by omega), show j.toNatClampNeg + 5 = j5.toNatClampNeg from by omega]
    · rw [u2_k q]; exact h.1 r h1 (by omega)
  · rw [u, u2_k (by omega)]; exact h.2 r (by omega)
def AC1 (W1 W : Nat → Int32) : Prop := (∀ r : Nat, r ≠ 4 → r < 3406 → W1 r = W r) ∧ ((W 4).toInt < 40 → (W1 4).toInt = (W 4).toInt + 1 ∧ ∀ r : Nat, 3406 ≤ r → W1 r = W r) ∧ ((W 4).toInt = 40 → (W1 4).toInt = 40 ∧ ∀ r : Nat, 3406 ≤ r → r < 3601 → W1 r = W (r + 5))
theorem AC1.sh {W1 W : Nat → Int32} {n : Int} {u : Int32} (h : SHF W1 W n) (hn : 3601 ≤ n) (e : W 4 = u) (hu : u.toInt = 40) : AC1 W1 W := ⟨fun r _ hr => h.2 r (Or.inl hr), fun q => by rw [e] at q; omega, fun _ => ⟨by rw [h.2 4 (by omega), e, hu], fun r h1 h2 => h.1 r h1 (by omega)⟩⟩
theorem AC1.in {I I1 : IT} {w : Nat} {W : Nat → Int32} {u x : Int32} (eW : I w = W) (h : I1 = u2 I w 4 x) (e : W 4 = u) (hu : u.toInt ≠ 40) (hx : x.toInt = u.toInt + 1) : AC1 (I1 w) W := by
  subst eW
  exact ⟨fun r hr _ => by rw [h, u2_k hr], fun _ => ⟨by rw [h, u2_s, e, hx], fun r hr => by rw [h, u2_k (by omega)]⟩, fun q => by rw [e] at q; exact absurd q hu⟩
def AC2 (W2 W : Nat → Int32) (f t : Int32) (n k : Int) : Prop := ∃ W1, AC1 W1 W ∧ n = 3406 + 5 * ((W1 4).toInt - 1) ∧ W2 n.toNat = f ∧ (∀ i : Nat, (i : Int) < k → (W2 (n.toNat + 1 + i)).toInt = (W (166 + 4 * t.toNatClampNeg + i)).toInt) ∧ ∀ r : Nat, (r < n.toNat ∨ n.toNat + 5 ≤ r) → W2 r = W1 r
theorem AC2.z {I1 I2 : IT} {w : Nat} {W : Nat → Int32} {f t j y k : Int32} (h : AC1 (I1 w) W) (e : I2 = u2 I1 w j.toNatClampNeg f) (hy : I1 w 4 = y) (hj : j.toInt = 3406 + 5 * (y.toInt - 1)) (h1 : 1 ≤ y.toInt) (hk : k.toInt = 0) : AC2 (I2 w) W f t j.toInt k.toInt := by
  have n0 : j.toInt.toNat = j.toNatClampNeg := rfl
  refine ⟨I1 w, h, by rw [hy]; exact hj, by rw [n0, e, u2_s], fun i hi => by omega, fun r hr => ?_⟩
  rw [e, u2_k (by omega)]
theorem AC2.s {I1 I2 : IT} {w : Nat} {W : Nat → Int32} {f t n k k' j x : Int32} (h : AC2 (I1 w) W f t n.toInt k.toInt) (u : I2 = u2 I1 w j.toNatClampNeg x) (hO : x.toInt = (I1 w (166 + 4 * t.toNatClampNeg + k.toNatClampNeg)).toInt) (ht : 0 ≤ t.toInt ∧ t.toInt ≤ 7) (h0 : 0 ≤ k.toInt) (h4 : k.toInt < 4) (hn : 3406 ≤ n.toInt) (hj : j.toInt = n.toInt + 1 + k.toInt) (hk : k'.toInt = k.toInt + 1) : AC2 (I2 w) W f t n.toInt k'.toInt := by
  obtain ⟨W1, a1, a2, a3, a4, a5⟩ := h
  have n0 : n.toInt.toNat = n.toNatClampNeg := rfl
  have nn := ncz (x := n) (by omega)
  have nk := ncz h0
  have nt := ncz ht.1
  have nj := ncz (x := j) (by omega)
  refine ⟨W1, a1, a2, by rw [u, u2_k (by omega)]; exact a3, fun i hi => ?_, fun r hr => by rw [u, u2_k (by omega)]; exact a5 r hr⟩
  rw [u]
  by_cases q : i = k.toNatClampNeg
  · subst q
    rw [show n.toInt.toNat + 1 + k.toNatClampNeg = j.toNatClampNeg from by omega, u2_s, hO, a5 _ (by omega), a1.1 _ (by omega) (by omega)]
  · rw [u2_k (by omega)]; exact a4 i (by omega)
def ACTW (W1 : Nat → Int32) (a : Nat) (f : Int32) (W : Nat → Int32) (t : Int32) : Prop := W1 (3406 + 5 * a) = f ∧ ∀ k : Nat, k < 4 → (W1 (3407 + 5 * a + k)).toInt = (W (166 + 4 * t.toNatClampNeg + k)).toInt
def MXA (W2 W : Nat → Int32) (f t : Int32) : Prop := (∀ r : Nat, r ≠ 4 → r ≠ 5 → r < 3406 → W2 r = W r) ∧ (W2 5).toInt = 0 ∧ ((W 4).toInt < 40 → (W2 4).toInt = (W 4).toInt + 1 ∧ (∀ r : Nat, 3406 ≤ r → r < 3406 + 5 * (W 4).toInt.toNat → W2 r = W r) ∧ ACTW W2 (W 4).toInt.toNat f W t) ∧ ((W 4).toInt = 40 → (W2 4).toInt = 40 ∧ (∀ r : Nat, 3406 ≤ r → r < 3601 → W2 r = W (r + 5)) ∧ ACTW W2 39 f W t)
theorem MXA.of {I2 I3 : IT} {w : Nat} {W : Nat → Int32} {f t z u : Int32} {n k : Int} (h : AC2 (I2 w) W f t n k) (e : I3 = u2 I2 w 5 z) (hz : z.toInt = 0) (hk : 4 ≤ k) (hu : W 4 = u) (h0 : 0 ≤ u.toInt) (h40 : u.toInt ≤ 40) : MXA (I3 w) W f t := by
  obtain ⟨W1, a1, a2, a3, a4, a5⟩ := h
  have g : ∀ r : Nat, r ≠ 5 → I3 w r = I2 w r := fun r hr => by rw [e, u2_k hr]
  refine ⟨fun r h4 h5 h9 => ?_, by rw [e, u2_s]; exact hz, fun q => ?_, fun q => ?_⟩
  · by_cases q : (W 4).toInt < 40
    · have b := (a1.2.1 q).1; rw [hu] at b; rw [g r h5, a5 r (by omega), a1.1 r h4 h9]
    · have b := (a1.2.2 (by rw [hu] at q ⊢; omega)).1; rw [g r h5, a5 r (by omega), a1.1 r h4 h9]
  · have b := a1.2.1 q
    rw [hu] at b q ⊢
    have hn : n.toNat = 3406 + 5 * u.toInt.toNat := by omega
    rw [hn] at a3 a4 a5
    refine ⟨by rw [g 4 (by decide), a5 4 (by omega)]; exact b.1, fun r h1 h2 => by rw [g r (by omega), a5 r (by omega)]; exact b.2 r h1, by rw [g _ (by omega)]; exact a3, fun i hi => ?_⟩
    rw [g _ (by omega), show 3407 + 5 * u.toInt.toNat + i = 3406 + 5 * u.toInt.toNat + 1 + i from by omega]; exact a4 i (by omega)
  · have b := a1.2.2 q
    have hn : n.toNat = 3406 + 5 * 39 := by omega
    rw [hn] at a3 a4 a5
    refine ⟨by rw [g 4 (by decide), a5 4 (by omega)]; exact b.1, fun r h1 h2 => by rw [g r (by omega), a5 r (by omega)]; exact b.2 r h1 h2, by rw [g _ (by omega)]; exact a3, fun i hi => ?_⟩
    rw [g _ (by omega), show 3407 + 5 * 39 + i = 3406 + 5 * 39 + 1 + i from by omega]; exact a4 i (by omega)
def MXT (W' W : Nat → Int32) (f t : Int32) : Prop := ∃ W1, MXA W1 W f t ∧ MFD W' W1 f.toNatClampNeg (wtb W t.toNatClampNeg 0) (wtb W t.toNatClampNeg 1) (wtb W t.toNatClampNeg 2) (wtb W t.toNatClampNeg 3) (W 0).toInt
theorem MXT.of {W' W1 W2 W : Nat → Int32} {f t : Int32} {a b c d p : Int} (A : MXA W1 W f t) (e : W2 = W1) (M : MFD W' W2 f.toNatClampNeg a b c d p) (ht : 0 ≤ t.toInt ∧ t.toInt ≤ 7) (ha : a = (W1 (166 + 4 * t.toNatClampNeg + 0)).toInt) (hb : b = (W1 (166 + 4 * t.toNatClampNeg + 1)).toInt) (hc : c = (W1 (166 + 4 * t.toNatClampNeg + 2)).toInt) (hd : d = (W1 (166 + 4 * t.toNatClampNeg + 3)).toInt) (hp : (W' 0).toInt = p) : MXT W' W f t := by
  have nt := ncz ht.1
  have hp : p = (W1 0).toInt := by rw [← hp, M.2 0 (Or.inl (by omega)), e]
  rw [A.1 _ (by omega) (by omega) (by omega)] at ha hb hc hd
  rw [A.1 0 (by decide) (by decide) (by decide)] at hp
  subst e; subst ha; subst hb; subst hc; subst hd; subst hp
  exact ⟨_, A, M⟩
/-- an act done again, or undone -/
def AGX (W' W : Nat → Int32) (a : Nat) (back x : Int) : Prop := ∃ ta tb tc td : Int, (back = 0 → ta = (W (3407 + 5 * a)).toInt ∧ tb = (W (3408 + 5 * a)).toInt ∧ tc = (W (3409 + 5 * a)).toInt ∧ td = (W (3410 + 5 * a)).toInt) ∧ (back = 1 → TBK ta tb tc td (W (3407 + 5 * a)).toInt (W (3408 + 5 * a)).toInt (W (3409 + 5 * a)).toInt (W (3410 + 5 * a)).toInt (W 0).toInt) ∧ MFD W' W (W (3406 + 5 * a)).toNatClampNeg ta tb tc td (W 0).toInt ∧ x = (W (3406 + 5 * a)).toInt
theorem AGX.z {W' W W1 : Nat → Int32} {n j0 f x x1 x2 x3 x4 j1 j2 j3 j4 : Int32} {back ta tb tc td p : Int} (hb : back = 0) (e : W1 = W) (M : MFD W' W1 f.toNatClampNeg ta tb tc td p) (hn : 0 ≤ n.toInt ∧ n.toInt ≤ 39) (h0 : j0.toInt = 3406 + 5 * n.toInt) (g0 : W j0.toNatClampNeg = f) (hf : f.toInt ≤ 15) (g : W' j0.toNatClampNeg = x) (h1 : j1.toInt = 3407 + 5 * n.toInt) (h2 : j2.toInt = 3408 + 5 * n.toInt) (h3 : j3.toInt = 3409 + 5 * n.toInt) (h4 : j4.toInt = 3410 + 5 * n.toInt) (k1 : W j1.toNatClampNeg = x1) (k2 : W j2.toNatClampNeg = x2) (k3 : W j3.toNatClampNeg = x3) (k4 : W j4.toNatClampNeg = x4) (ea : ta = x1.toInt) (eb : tb = x2.toInt) (ec : tc = x3.toInt) (ed : td = x4.toInt) (hp : p = (W 0).toInt) (hW : ∀ f, f < 16 → (W (6 + 10 * f)).toInt ≤ 8) : AGX W' W n.toNatClampNeg back x.toInt := by
  have nn := ncz hn.1
  have n0 := ncz (x := j0) (by omega)
  have n1 := ncz (x := j1) (by omega)
  have n2 := ncz (x := j2) (by omega)
  have n3 := ncz (x := j3) (by omega)
  have n4 := ncz (x := j4) (by omega)
  have nf : f.toNatClampNeg ≤ 15 := by have : f.toNatClampNeg = f.toInt.toNat := rfl; omega
  have hd := hW f.toNatClampNeg (by omega)
  subst e; subst hp
  have q0 : 3406 + 5 * n.toNatClampNeg = j0.toNatClampNeg := by omega
  refine ⟨ta, tb, tc, td, fun _ => ?_, fun h => by omega, ?_, ?_⟩
  · rw [show 3407 + 5 * n.toNatClampNeg = j1.toNatClampNeg from by omega, show 3408 + 5 * n.toNatClampNeg = j2.toNatClampNeg from by omega, show 3409 + 5 * n.toNatClampNeg = j3.toNatClampNeg from by omega, show 3410 + 5 * n.toNatClampNeg = j4.toNatClampNeg from by omega, k1, k2, k3, k4]
    exact ⟨ea, eb, ec, ed⟩
  · rw [q0, g0]; exact M
  · rw [q0, ← g, M.2 _ (by omega)]
theorem AGX.b {W' W W1 : Nat → Int32} {n j0 f x x1 x2 x3 x4 j1 j2 j3 j4 : Int32} {back ta tb tc td ta' tb' tc' td' y1 y2 y3 y4 p p' : Int} (hb : back = 1) (e : W1 = W) (M : MFD W' W1 f.toNatClampNeg ta tb tc td p) (hn : 0 ≤ n.toInt ∧ n.toInt ≤ 39) (h0 : j0.toInt = 3406 + 5 * n.toInt) (g0 : W j0.toNatClampNeg = f) (hf : f.toInt ≤ 15) (g : W' j0.toNatClampNeg = x) (h1 : j1.toInt = 3407 + 5 * n.toInt) (h2 : j2.toInt = 3408 + 5 * n.toInt) (h3 : j3.toInt = 3409 + 5 * n.toInt) (h4 : j4.toInt = 3410 + 5 * n.toInt) (k1 : W j1.toNatClampNeg = x1) (k2 : W j2.toNatClampNeg = x2) (k3 : W j3.toNatClampNeg = x3) (k4 : W j4.toNatClampNeg = x4) (K : TBK ta' tb' tc' td' y1 y2 y3 y4 p') (ea : ta = ta') (eb : tb = tb') (ec : tc = tc') (ed : td = td') (e1 : y1 = x1.toInt) (e2 : y2 = x2.toInt) (e3 : y3 = x3.toInt) (e4 : y4 = x4.toInt) (hp : p = (W 0).toInt) (hp' : p' = (W 0).toInt) (hW : ∀ f, f < 16 → (W (6 + 10 * f)).toInt ≤ 8) : AGX W' W n.toNatClampNeg back x.toInt := by
  have nn := ncz hn.1
  have n0 := ncz (x := j0) (by omega)
  have n1 := ncz (x := j1) (by omega)
  have n2 := ncz (x := j2) (by omega)
  have n3 := ncz (x := j3) (by omega)
  have n4 := ncz (x := j4) (by omega)
  have nf : f.toNatClampNeg ≤ 15 := by have : f.toNatClampNeg = f.toInt.toNat := rfl; omega
  have hd := hW f.toNatClampNeg (by omega)
  subst e; subst hp; subst hp'; subst ea; subst eb; subst ec; subst ed; subst e1; subst e2; subst e3; subst e4
  have q0 : 3406 + 5 * n.toNatClampNeg = j0.toNatClampNeg := by omega
  refine ⟨ta, tb, tc, td, fun h => by omega, fun _ => ?_, ?_, ?_⟩
  · rw [show 3407 + 5 * n.toNatClampNeg = j1.toNatClampNeg from by omega, show 3408 + 5 * n.toNatClampNeg = j2.toNatClampNeg from by omega, show 3409 + 5 * n.toNatClampNeg = j3.toNatClampNeg from by omega, show 3410 + 5 * n.toNatClampNeg = j4.toNatClampNeg from by omega, k1, k2, k3, k4]
    exact K
  · rw [q0, g0]; exact M
  · rw [q0, ← g, M.2 _ (by omega)]
def UNX (W' W : Nat → Int32) (x : Int) : Prop := ((W 4).toInt = 0 → x = -1 ∧ W' = W) ∧ (0 < (W 4).toInt → ∃ W1, (W1 4).toInt = (W 4).toInt - 1 ∧ (W1 5).toInt = (W 5).toInt + 1 ∧ (∀ r : Nat, r ≠ 4 → r ≠ 5 → W1 r = W r) ∧ AGX W' W1 ((W 4).toInt - 1).toNat 1 x)
def RDX (W' W : Nat → Int32) (x : Int) : Prop := ((W 5).toInt = 0 → x = -1 ∧ W' = W) ∧ (0 < (W 5).toInt → ∃ W1, (W1 4).toInt = (W 4).toInt + 1 ∧ (W1 5).toInt = (W 5).toInt - 1 ∧ (∀ r : Nat, r ≠ 4 → r ≠ 5 → W1 r = W r) ∧ AGX W' W1 (W 4).toInt.toNat 0 x)
theorem UNX.z {W' W : Nat → Int32} {x : Int} {u : Int32} (e : W 4 = u) (h : u.toInt = 0) (hx : x = -1) (hw : W' = W) : UNX W' W x := ⟨fun _ => ⟨hx, hw⟩, fun q => by rw [e] at q; omega⟩
theorem RDX.z {W' W : Nat → Int32} {x : Int} {u : Int32} (e : W 5 = u) (h : u.toInt = 0) (hx : x = -1) (hw : W' = W) : RDX W' W x := ⟨fun _ => ⟨hx, hw⟩, fun q => by rw [e] at q; omega⟩
theorem UNX.y {I I1 I2 : IT} {w : Nat} {W' W : Nat → Int32} {u v x4 x5 n : Int32} {x b : Int} (eW : I w = W) (e : W 4 = u) (e' : W 5 = v) (h : u.toInt ≠ 0) (h0 : 0 ≤ u.toInt) (u1 : I1 = u2 I w 4 x4) (u2' : I2 = u2 I1 w 5 x5) (h4 : x4.toInt = u.toInt - 1) (h5 : x5.toInt = v.toInt + 1) (A : AGX W' (I2 w) n.toNatClampNeg b x) (hb : b = 1) (hn : n.toInt = u.toInt - 1) : UNX W' W x := by
  subst hb; subst eW
  refine ⟨fun q => by rw [e] at q; omega, fun _ => ⟨I2 w, ?_, ?_, fun r h1 h2 => ?_, ?_⟩⟩
  · rw [u2', u2_k (by decide), u1, u2_s, e]; exact h4
  · rw [u2', u2_s, e']; exact h5
  · rw [u2', u2_k h2, u1, u2_k h1]
  · rw [e, ← hn]; exact A
theorem RDX.y {I I1 I2 : IT} {w : Nat} {W' W : Nat → Int32} {u v x4 x5 n : Int32} {x b : Int} (eW : I w = W) (e : W 4 = u) (e' : W 5 = v) (h : v.toInt ≠ 0) (h0 : 0 ≤ v.toInt) (u1 : I1 = u2 I w 4 x4) (u2' : I2 = u2 I1 w 5 x5) (h4 : x4.toInt = u.toInt + 1) (h5 : x5.toInt = v.toInt - 1) (A : AGX W' (I2 w) n.toNatClampNeg b x) (hb : b = 0) (hn : n.toInt = u.toInt) : RDX W' W x := by
  subst hb; subst eW
  refine ⟨fun q => by rw [e'] at q; omega, fun _ => ⟨I2 w, ?_, ?_, fun r h1 h2 => ?_, ?_⟩⟩
  · rw [u2', u2_k (by decide), u1, u2_s, e]; exact h4
  · rw [u2', u2_s, e']; exact h5
  · rw [u2', u2_k h2, u1, u2_k h1]
  · rw [e, ← hn]; exact A
def TFX (t' t : Nat → Int32) (n : Int32) (g : Nat → Int32) : Prop := (380 < n.toInt → t' = t) ∧ (n.toInt ≤ 380 → TFD t' t n.toNatClampNeg g 20)
/-- a form told -/
def FMW (W1 W tp : Nat → Int32) (f : Nat) (k n p : Int) : Prop := (W1 (6 + 10 * f)).toInt = n - 1 ∧ (∀ i : Nat, (i : Int) < k → (W1 (7 + 10 * f + i)).toInt = ((tp i).toInt % 256) % p) ∧ ∀ r : Nat, (r < 6 + 10 * f ∨ 7 + 10 * f + k.toNat ≤ r) → W1 r = W r
theorem FMW.z {I I1 : IT} {w : Nat} {W tp : Nat → Int32} {f k j x : Int32} {n p : Int} (eW : I w = W) (u : I1 = u2 I w j.toNatClampNeg x) (hf : 0 ≤ f.toInt) (hj : j.toInt = 6 + 10 * f.toInt) (hx : x.toInt = n - 1) (hk : k.toInt = 0) : FMW (I1 w) W tp f.toNatClampNeg k.toInt n p := by
  have nf := ncz hf
  have nj := ncz (x := j) (by omega)
  refine ⟨by rw [u, show 6 + 10 * f.toNatClampNeg = j.toNatClampNeg from by omega, u2_s]; exact hx, fun i hi => by omega, fun r hr => ?_⟩
  rw [u, u2_k (by omega), eW]
theorem FMW.s {I1 I2 : IT} {w : Nat} {W tp : Nat → Int32} {f k k' j o b a : Int32} {l : Int64} {n p p' : Int} (h : FMW (I1 w) W tp f.toNatClampNeg k.toInt n p) (u : I2 = u2 I1 w j.toNatClampNeg o) (ho : o.toInt = l.toInt % p') (ep : p' = p) (hl : l.toInt = a.toInt) (ha : a.toInt = b.toInt % 256) (hb : tp k.toNatClampNeg = b) (hf : 0 ≤ f.toInt) (h0 : 0 ≤ k.toInt) (hj : j.toInt = 7 + 10 * f.toInt + k.toInt) (hk : k'.toInt = k.toInt + 1) : FMW (I2 w) W tp f.toNatClampNeg k'.toInt n p := by
  have nf := ncz hf
  have n0 := ncz h0
  have nj := ncz (x := j) (by omega)
  refine ⟨by rw [u, u2_k (by omega)]; exact h.1, fun i hi => ?_, fun r hr => by rw [u, u2_k (by omega)]; exact h.2.2 r (by omega)⟩
  rw [u]
  by_cases q : i = k.toNatClampNeg
  · subst q
    rw [show 7 + 10 * f.toNatClampNeg + k.toNatClampNeg = j.toNatClampNeg from by omega, u2_s, ho, hl, ha, hb, ep]
  · rw [u2_k (by omega)]; exact h.2.1 i (by omega)
def FMX (W' W tp : Nat → Int32) (n t : Int) : Prop := (t ≠ 0 → W' = W) ∧ (t = 0 → (W' 1).toInt = (W 1).toInt + 1 ∧ (W' 5).toInt = 0 ∧ (W' (6 + 10 * (W 1).toInt.toNat)).toInt = n - 1 ∧ (∀ i : Nat, (i : Int) < n → (W' (7 + 10 * (W 1).toInt.toNat + i)).toInt = ((tp i).toInt % 256) % (W 0).toInt) ∧ ∀ r : Nat, r ≠ 1 → r ≠ 5 → (r < 6 + 10 * (W 1).toInt.toNat ∨ 7 + 10 * (W 1).toInt.toNat + n.toNat ≤ r) → W' r = W r)
theorem FMX.n {W' W tp : Nat → Int32} {n t : Int} (ht : t ≠ 0) (h : W' = W) : FMX W' W tp n t := ⟨fun _ => h, fun q => absurd q ht⟩
theorem FMX.y {I1 I2 I3 : IT} {w : Nat} {W tp : Nat → Int32} {c f x z : Int32} {n k t p : Int} (ht : t = 0) (h : FMW (I1 w) W tp f.toNatClampNeg k n p) (u1 : I2 = u2 I1 w 1 x) (u2' : I3 = u2 I2 w 5 z) (hk : k = n) (hc : W 1 = c) (hf : f.toInt = c.toInt) (h0 : 0 ≤ c.toInt) (hx : x.toInt = c.toInt + 1) (hz : z.toInt = 0) (hp : (W 0).toInt = p) : FMX (I3 w) W tp n t := by
  subst hk
  have ef : c.toInt.toNat = f.toNatClampNeg := by have : f.toNatClampNeg = f.toInt.toNat := rfl; omega
  unfold FMX
  rw [hc, ef, hp]
  have g : ∀ r : Nat, r ≠ 1 → r ≠ 5 → I3 w r = I1 w r := fun r h1 h5 => by rw [u2', u2_k h5, u1, u2_k h1]
  exact ⟨fun q => absurd ht q, fun _ => ⟨by rw [u2', u2_k (by decide), u1, u2_s]; exact hx, by rw [u2', u2_s]; exact hz, by rw [g _ (by omega) (by omega)]; exact h.1, fun i hi => by rw [g _ (by omega) (by omega)]; exact h.2.1 i hi, fun r h1 h5 hr => by rw [g r h1 h5]; exact h.2.2 r hr⟩⟩
theorem a_X12_inverse_x {d : Nat} {T N : Nat → Nat} {I : IT} {L : LT} {R : RT} {A : Nat → Prop} {r0 : Nat} {n1 : Int32} (hI : IM R r0 I) (H_r0 : (h_MD T N R A) r0) (b0_n1 : -18 ≤ n1.toInt) (b1_n1 : n1.toInt ≤ 18) : Ex (d + 4) 197 [.ref r0, .int n1] (T, N, I, L, R) 0 0 (pI T N R (fun x9 I9 L9 => (-18 ≤ x9.toInt) ∧ (x9.toInt ≤ 18) ∧ (∀ a1, R r0 1 = some a1 → INVQ x9.toInt n1.toInt (I a1 0).toInt) ∧ (0 ≤ n1.toInt → 0 ≤ x9.toInt) ∧ (I = I9 ∧ L = L9))) := by
  refine ⟨_, rfl, Nat.le_of_ble_eq_true rfl, fun V C S => ?_⟩
  show V 0 [(0, .ref r0), (1, .int n1)] [] (T, N, I, L, R) 0 0
  have gn1 := rg n1
  obtain ⟨T_r0, A_r0, ⟨r0_1, R_r0_1, H_r0_1⟩, ⟨r0_2, R_r0_2, H_r0_2⟩, ⟨r0_4, R_r0_4, H_r0_4⟩, ⟨r0_5, R_r0_5, H_r0_5⟩, ⟨r0_10, R_r0_10, H_r0_10⟩, ⟨r0_18, R_r0_18, H_r0_18⟩, ⟨r0_20, R_r0_20, H_r0_20⟩, ⟨r0_21, R_r0_21, H_r0_21⟩, ⟨r0_22, R_r0_22, H_r0_22⟩, ⟨r0_23, R_r0_23, H_r0_23⟩, ⟨r0_25, R_r0_25, H_r0_25⟩, ⟨r0_26, R_r0_26, H_r0_26⟩, ⟨r0_27, R_r0_27, H_r0_27⟩, ⟨r0_28, R_r0_28, H_r0_28⟩, ⟨r0_34, R_r0_34, H_r0_34⟩, J_r0, Y_r0⟩ := id H_r0
  have G_r0 : mF T R r0 := ⟨J_r0, Y_r0, T_r0⟩
  obtain ⟨w_r0_1_0, k0_r0_1_0⟩ : ∃ x, I r0_1 0 = x := ⟨_, rfl⟩
  have gw_r0_1_0 := rg w_r0_1_0
  have ow_r0_1_0 := IM.pi hI R_r0_1 k0_r0_1_0
  refine k_aload_n C rfl rfl rfl ?_
  refine k_iload_n C rfl rfl rfl ?_
  refine k_aload_n C rfl rfl rfl ?_
  refine c_VI C (a_X12_p hI H_r0) rfl rfl rfl rfl rfl ⟨_, rfl, rfl, T_r0, Nat.le_of_ble_eq_true rfl⟩ rfl rfl (Nat.le_of_ble_eq_true rfl) (Nat.le_of_ble_eq_true rfl) (Nat.le_of_ble_eq_true rfl) ?_
  rintro x1 _ _ ⟨o0x1, o1x1, p0x1, rfl, rfl⟩
  have p0x1 := p0x1 r0_1 R_r0_1
  have gx1 := rg x1
  try simp only [k0_r0_1_0, k0_r0_1_0] at p0x1
  try have q0x1 := congrArg Int32.toInt p0x1
  refine z_iconst C (z := 2) rfl rfl rfl (fun x2 ex2 => ?_)
  refine z_isub C rfl rfl ⟨by omega, by omega⟩ (fun x3 ex3 => ?_)
  refine c_VI C (a_X12_power hI H_r0 (by omega) (by omega)) rfl rfl rfl rfl rfl ⟨_, rfl, rfl, T_r0, Nat.le_of_ble_eq_true rfl⟩ rfl rfl (Nat.le_of_ble_eq_true rfl) (Nat.le_of_ble_eq_true rfl) (Nat.le_of_ble_eq_true rfl) ?_
  rintro x4 _ _ ⟨o0x4, o1x4, p0x4, rfl, rfl⟩
  have p0x4 := p0x4 r0_1 R_r0_1
  have gx4 := rg x4
  try simp only [k0_r0_1_0] at p0x4
  try have q0x4 := congrArg Int32.toInt p0x4
  have hQ := p0x4
  exact k_iret C rfl (Or.inl rfl) (Nat.le_of_ble_eq_true rfl) (Nat.le_of_ble_eq_true rfl) ⟨_, _, _, rfl, rfl, by omega, by omega, fun a1 h1 => by cases (R_r0_1.symm.trans h1); simp only [k0_r0_1_0]; exact INVQ.of (IM.p hI R_r0_1 k0_r0_1_0) hQ (by omega) (by omega) (by omega), by exact PWQ.p hQ, rfl, rfl⟩

theorem a_X12_turnsBack_x {d : Nat} {T N : Nat → Nat} {I : IT} {L : LT} {R : RT} {A : Nat → Prop} {r0 : Nat} (hI : IM R r0 I) (H_r0 : (h_MD T N R A) r0) : Ex (d + 5) 237 [.ref r0] (T, N, I, L, R) 0 0 (pV T N R (fun I9 L9 => (∀ a1, R r0 1 = some a1 → TBK (I9 r0 6).toInt (I9 r0 7).toInt (I9 r0 8).toInt (I9 r0 9).toInt (I r0 6).toInt (I r0 7).toInt (I r0 8).toInt (I r0 9).toInt (I a1 0).toInt) ∧ (IM R r0 I9 ∧ CM A R r0 [6, 7, 8, 9] [] I L I9 L9))) := by
  refine ⟨_, rfl, Nat.le_of_ble_eq_true rfl, fun V C S => ?_⟩
  show V 0 [(0, .ref r0)] [] (T, N, I, L, R) 0 0
  obtain ⟨T_r0, A_r0, ⟨r0_1, R_r0_1, H_r0_1⟩, ⟨r0_2, R_r0_2, H_r0_2⟩, ⟨r0_4, R_r0_4, H_r0_4⟩, ⟨r0_5, R_r0_5, H_r0_5⟩, ⟨r0_10, R_r0_10, H_r0_10⟩, ⟨r0_18, R_r0_18, H_r0_18⟩, ⟨r0_20, R_r0_20, H_r0_20⟩, ⟨r0_21, R_r0_21, H_r0_21⟩, ⟨r0_22, R_r0_22, H_r0_22⟩, ⟨r0_23, R_r0_23, H_r0_23⟩, ⟨r0_25, R_r0_25, H_r0_25⟩, ⟨r0_26, R_r0_26, H_r0_26⟩, ⟨r0_27, R_r0_27, H_r0_27⟩, ⟨r0_28, R_r0_28, H_r0_28⟩, ⟨r0_34, R_r0_34, H_r0_34⟩, J_r0, Y_r0⟩ := id H_r0
  have G_r0 : mF T R r0 := ⟨J_r0, Y_r0, T_r0⟩
  obtain ⟨w_r0_6, k0_r0_6⟩ : ∃ x, I r0 6 = x := ⟨_, rfl⟩
  have gw_r0_6 := rg w_r0_6
  have ow_r0_6 := IM.f6 hI k0_r0_6
  obtain ⟨w_r0_7, k0_r0_7⟩ : ∃ x, I r0 7 = x := ⟨_, rfl⟩
  have gw_r0_7 := rg w_r0_7
  have ow_r0_7 := IM.f7 hI k0_r0_7
  obtain ⟨w_r0_8, k0_r0_8⟩ : ∃ x, I r0 8 = x := ⟨_, rfl⟩
  have gw_r0_8 := rg w_r0_8
  have ow_r0_8 := IM.f8 hI k0_r0_8
  obtain ⟨w_r0_9, k0_r0_9⟩ : ∃ x, I r0 9 = x := ⟨_, rfl⟩
  have gw_r0_9 := rg w_r0_9
  have ow_r0_9 := IM.f9 hI k0_r0_9
  obtain ⟨w_r0_1_0, k0_r0_1_0⟩ : ∃ x, I r0_1 0 = x := ⟨_, rfl⟩
  have gw_r0_1_0 := rg w_r0_1_0
  have ow_r0_1_0 := IM.pi hI R_r0_1 k0_r0_1_0
  refine k_aload_n C rfl rfl rfl ?_
  refine k_aload_n C rfl rfl rfl ?_
  refine c_VI C (a_X12_detNow_e hI H_r0) rfl rfl rfl rfl rfl ⟨_, rfl, rfl, T_r0, Nat.le_of_ble_eq_true rfl⟩ rfl rfl (Nat.le_of_ble_eq_true rfl) (Nat.le_of_ble_eq_true rfl) (Nat.le_of_ble_eq_true rfl) ?_
  rintro x1 _ _ ⟨o0x1, o1x1, p0x1, rfl, rfl⟩
  have p0x1 := p0x1 r0_1 R_r0_1
  have gx1 := rg x1
  try simp only [k0_r0_6, k0_r0_7, k0_r0_8, k0_r0_9, k0_r0_1_0] at p0x1
  try have q0x1 := congrArg Int32.toInt p0x1
  have hDT := p0x1
  refine c_VI C (a_X12_inverse_x hI H_r0 (by omega) (by omega)) rfl rfl rfl rfl rfl ⟨_, rfl, rfl, T_r0, Nat.le_of_ble_eq_true rfl⟩ rfl rfl (Nat.le_of_ble_eq_true rfl) (Nat.le_of_ble_eq_true rfl) (Nat.le_of_ble_eq_true rfl) ?_
  rintro x2 _ _ ⟨o0x2, o1x2, p0x2, p1x2, rfl, rfl⟩
  have p0x2 := p0x2 r0_1 R_r0_1
  have gx2 := rg x2
  try simp only [k0_r0_6, k0_r0_7, k0_r0_8, k0_r0_9, k0_r0_1_0] at p0x2
  try have q0x2 := congrArg Int32.toInt p0x2
  try simp only [k0_r0_6, k0_r0_7, k0_r0_8, k0_r0_9, k0_r0_1_0] at p1x2
  try have q1x2 := congrArg Int32.toInt p1x2
  have hIV := p0x2
  have hIP := p1x2
  refine k_istore_n C (lw := [(1, .int x2), (0, .ref r0)]) rfl rfl (Nat.le_of_ble_eq_true rfl) rfl ?_
  refine k_aload_n C rfl rfl rfl ?_
  refine k_aload_n C rfl rfl rfl ?_
  refine k_aload_n C rfl rfl rfl ?_
  refine g_I C rfl rfl rfl T_r0 rfl k0_r0_9 ?_
  refine k_iload_n C rfl rfl rfl ?_
  refine c_VI C (a_X12_times hI H_r0 (by omega) (by omega) (by omega) (by omega)) rfl rfl rfl rfl rfl ⟨_, rfl, rfl, T_r0, Nat.le_of_ble_eq_true rfl⟩ rfl rfl (Nat.le_of_ble_eq_true rfl) (Nat.le_of_ble_eq_true rfl) (Nat.le_of_ble_eq_true rfl) ?_
  rintro x3 _ _ ⟨o0x3, o1x3, p0x3, p1x3, p2x3, p3x3, rfl, rfl⟩
  have p0x3 := p0x3 r0_1 R_r0_1
  have p2x3 := p2x3 r0_1 R_r0_1
  have p3x3 := p3x3 r0_1 R_r0_1
  have gx3 := rg x3
  try simp only [k0_r0_6, k0_r0_7, k0_r0_8, k0_r0_9, k0_r0_1_0] at p0x3
  try have q0x3 := congrArg Int32.toInt p0x3
  try simp only [k0_r0_6, k0_r0_7, k0_r0_8, k0_r0_9, k0_r0_1_0] at p1x3
  try have q1x3 := congrArg Int32.toInt p1x3
  try simp only [k0_r0_6, k0_r0_7, k0_r0_8, k0_r0_9, k0_r0_1_0] at p2x3
  try have q2x3 := congrArg Int32.toInt p2x3
  try simp only [k0_r0_6, k0_r0_7, k0_r0_8, k0_r0_9, k0_r0_1_0] at p3x3
  try have q3x3 := congrArg Int32.toInt p3x3
  have hT16 := p3x3
  refine k_aload_n C rfl rfl rfl ?_
  refine k_aload_n C rfl rfl rfl ?_
  refine z_iconst C (z := 0) rfl rfl rfl (fun x4 ex4 => ?_)
  refine k_aload_n C rfl rfl rfl ?_
  refine g_I C rfl rfl rfl T_r0 rfl k0_r0_7 ?_
  have q5 : x4.toNatClampNeg = 0 := nck (by omega)
  refine c_VI C (a_X12_less hI H_r0 (by omega) (by omega) (by omega) (by omega)) rfl rfl rfl rfl rfl ⟨_, rfl, rfl, T_r0, Nat.le_of_ble_eq_true rfl⟩ rfl rfl (Nat.le_of_ble_eq_true rfl) (Nat.le_of_ble_eq_true rfl) (Nat.le_of_ble_eq_true rfl) ?_
  rintro x6 _ _ ⟨o0x6, o1x6, p0x6, p1x6, p2x6, p3x6, rfl, rfl⟩
  have p0x6 := p0x6 r0_1 R_r0_1
  have p2x6 := p2x6 r0_1 R_r0_1
  have p3x6 := p3x6 r0_1 R_r0_1
  have gx6 := rg x6
  try simp only [q5, k0_r0_6, k0_r0_7, k0_r0_8, k0_r0_9, k0_r0_1_0] at p0x6
  try have q0x6 := congrArg Int32.toInt p0x6
  try simp only [q5, k0_r0_6, k0_r0_7, k0_r0_8, k0_r0_9, k0_r0_1_0] at p1x6
  try have q1x6 := congrArg Int32.toInt p1x6
  try simp only [q5, k0_r0_6, k0_r0_7, k0_r0_8, k0_r0_9, k0_r0_1_0] at p2x6
  try have q2x6 := congrArg Int32.toInt p2x6
  try simp only [q5, k0_r0_6, k0_r0_7, k0_r0_8, k0_r0_9, k0_r0_1_0] at p3x6
  try have q3x6 := congrArg Int32.toInt p3x6
  have hL26 := p3x6
  refine k_iload_n C rfl rfl rfl ?_
  refine c_VI C (a_X12_times hI H_r0 (by omega) (by omega) (by omega) (by omega)) rfl rfl rfl rfl rfl ⟨_, rfl, rfl, T_r0, Nat.le_of_ble_eq_true rfl⟩ rfl rfl (Nat.le_of_ble_eq_true rfl) (Nat.le_of_ble_eq_true rfl) (Nat.le_of_ble_eq_true rfl) ?_
  rintro x7 _ _ ⟨o0x7, o1x7, p0x7, p1x7, p2x7, p3x7, rfl, rfl⟩
  have p0x7 := p0x7 r0_1 R_r0_1
  have p2x7 := p2x7 r0_1 R_r0_1
  have p3x7 := p3x7 r0_1 R_r0_1
  have gx7 := rg x7
  try simp only [k0_r0_6, k0_r0_7, k0_r0_8, k0_r0_9, k0_r0_1_0] at p0x7
  try have q0x7 := congrArg Int32.toInt p0x7
  try simp only [k0_r0_6, k0_r0_7, k0_r0_8, k0_r0_9, k0_r0_1_0] at p1x7
  try have q1x7 := congrArg Int32.toInt p1x7
  try simp only [k0_r0_6, k0_r0_7, k0_r0_8, k0_r0_9, k0_r0_1_0] at p2x7
  try have q2x7 := congrArg Int32.toInt p2x7
  try simp only [k0_r0_6, k0_r0_7, k0_r0_8, k0_r0_9, k0_r0_1_0] at p3x7
  try have q3x7 := congrArg Int32.toInt p3x7
  have hT30 := p3x7
  refine k_aload_n C rfl rfl rfl ?_
  refine k_aload_n C rfl rfl rfl ?_
  refine z_iconst C (z := 0) rfl rfl rfl (fun x8 ex8 => ?_)
  refine k_aload_n C rfl rfl rfl ?_
  refine g_I C rfl rfl rfl T_r0 rfl k0_r0_8 ?_
  have q9 : x8.toNatClampNeg = 0 := nck (by omega)
  refine c_VI C (a_X12_less hI H_r0 (by omega) (by omega) (by omega) (by omega)) rfl rfl rfl rfl rfl ⟨_, rfl, rfl, T_r0, Nat.le_of_ble_eq_true rfl⟩ rfl rfl (Nat.le_of_ble_eq_true rfl) (Nat.le_of_ble_eq_true rfl) (Nat.le_of_ble_eq_true rfl) ?_
  rintro x10 _ _ ⟨o0x10, o1x10, p0x10, p1x10, p2x10, p3x10, rfl, rfl⟩
  have p0x10 := p0x10 r0_1 R_r0_1
  have p2x10 := p2x10 r0_1 R_r0_1
  have p3x10 := p3x10 r0_1 R_r0_1
  have gx10 := rg x10
  try simp only [q9, k0_r0_6, k0_r0_7, k0_r0_8, k0_r0_9, k0_r0_1_0] at p0x10
  try have q0x10 := congrArg Int32.toInt p0x10
  try simp only [q9, k0_r0_6, k0_r0_7, k0_r0_8, k0_r0_9, k0_r0_1_0] at p1x10
  try have q1x10 := congrArg Int32.toInt p1x10
  try simp only [q9, k0_r0_6, k0_r0_7, k0_r0_8, k0_r0_9, k0_r0_1_0] at p2x10
  try have q2x10 := congrArg Int32.toInt p2x10
  try simp only [q9, k0_r0_6, k0_r0_7, k0_r0_8, k0_r0_9, k0_r0_1_0] at p3x10
  try have q3x10 := congrArg Int32.toInt p3x10
  have hL40 := p3x10
  refine k_iload_n C rfl rfl rfl ?_
  refine c_VI C (a_X12_times hI H_r0 (by omega) (by omega) (by omega) (by omega)) rfl rfl rfl rfl rfl ⟨_, rfl, rfl, T_r0, Nat.le_of_ble_eq_true rfl⟩ rfl rfl (Nat.le_of_ble_eq_true rfl) (Nat.le_of_ble_eq_true rfl) (Nat.le_of_ble_eq_true rfl) ?_
  rintro x11 _ _ ⟨o0x11, o1x11, p0x11, p1x11, p2x11, p3x11, rfl, rfl⟩
  have p0x11 := p0x11 r0_1 R_r0_1
  have p2x11 := p2x11 r0_1 R_r0_1
  have p3x11 := p3x11 r0_1 R_r0_1
  have gx11 := rg x11
  try simp only [k0_r0_6, k0_r0_7, k0_r0_8, k0_r0_9, k0_r0_1_0] at p0x11
  try have q0x11 := congrArg Int32.toInt p0x11
  try simp only [k0_r0_6, k0_r0_7, k0_r0_8, k0_r0_9, k0_r0_1_0] at p1x11
  try have q1x11 := congrArg Int32.toInt p1x11
  try simp only [k0_r0_6, k0_r0_7, k0_r0_8, k0_r0_9, k0_r0_1_0] at p2x11
  try have q2x11 := congrArg Int32.toInt p2x11
  try simp only [k0_r0_6, k0_r0_7, k0_r0_8, k0_r0_9, k0_r0_1_0] at p3x11
  try have q3x11 := congrArg Int32.toInt p3x11
  have hT44 := p3x11
  refine k_aload_n C rfl rfl rfl ?_
  refine k_aload_n C rfl rfl rfl ?_
  refine g_I C rfl rfl rfl T_r0 rfl k0_r0_6 ?_
  refine k_iload_n C rfl rfl rfl ?_
  refine c_VI C (a_X12_times hI H_r0 (by omega) (by omega) (by omega) (by omega)) rfl rfl rfl rfl rfl ⟨_, rfl, rfl, T_r0, Nat.le_of_ble_eq_true rfl⟩ rfl rfl (Nat.le_of_ble_eq_true rfl) (Nat.le_of_ble_eq_true rfl) (Nat.le_of_ble_eq_true rfl) ?_
  rintro x12 _ _ ⟨o0x12, o1x12, p0x12, p1x12, p2x12, p3x12, rfl, rfl⟩
  have p0x12 := p0x12 r0_1 R_r0_1
  have p2x12 := p2x12 r0_1 R_r0_1
  have p3x12 := p3x12 r0_1 R_r0_1
  have gx12 := rg x12
  try simp only [k0_r0_6, k0_r0_7, k0_r0_8, k0_r0_9, k0_r0_1_0] at p0x12
  try have q0x12 := congrArg Int32.toInt p0x12
  try simp only [k0_r0_6, k0_r0_7, k0_r0_8, k0_r0_9, k0_r0_1_0] at p1x12
  try have q1x12 := congrArg Int32.toInt p1x12
  try simp only [k0_r0_6, k0_r0_7, k0_r0_8, k0_r0_9, k0_r0_1_0] at p2x12
  try have q2x12 := congrArg Int32.toInt p2x12
  try simp only [k0_r0_6, k0_r0_7, k0_r0_8, k0_r0_9, k0_r0_1_0] at p3x12
  try have q3x12 := congrArg Int32.toInt p3x12
  have hT53 := p3x12
  refine c_VV C (a_X12_takesTable_e hI H_r0 (by omega) (by omega) (by omega) (by omega) (by omega) (by omega) (by omega) (by omega)) rfl rfl rfl rfl rfl ⟨_, rfl, rfl, T_r0, Nat.le_of_ble_eq_true rfl⟩ rfl rfl (Nat.le_of_ble_eq_true rfl) (Nat.le_of_ble_eq_true rfl) (Nat.le_of_ble_eq_true rfl) ?_
  rintro I14 L15 ⟨p0v13, p1v13, p2v13, p3v13, hI14, S16⟩
  have e21 := CM.j S16 R_r0_1 (by decide) k0_r0_1_0
  obtain ⟨x22, e23⟩ : ∃ x, I14 r0 6 = x := ⟨_, rfl⟩
  have gx22 := rg x22
  have ox22 := IM.f6 hI14 e23
  obtain ⟨x24, e25⟩ : ∃ x, I14 r0 7 = x := ⟨_, rfl⟩
  have gx24 := rg x24
  have ox24 := IM.f7 hI14 e25
  obtain ⟨x26, e27⟩ : ∃ x, I14 r0 8 = x := ⟨_, rfl⟩
  have gx26 := rg x26
  have ox26 := IM.f8 hI14 e27
  obtain ⟨x28, e29⟩ : ∃ x, I14 r0 9 = x := ⟨_, rfl⟩
  have gx28 := rg x28
  have ox28 := IM.f9 hI14 e29
  try simp only [k0_r0_6, k0_r0_7, k0_r0_8, k0_r0_9, k0_r0_1_0, e23, e25, e27, e29] at p0v13
  try have q0v13 := congrArg Int32.toInt p0v13
  try simp only [k0_r0_6, k0_r0_7, k0_r0_8, k0_r0_9, k0_r0_1_0, e23, e25, e27, e29] at p1v13
  try have q1v13 := congrArg Int32.toInt p1v13
  try simp only [k0_r0_6, k0_r0_7, k0_r0_8, k0_r0_9, k0_r0_1_0, e23, e25, e27, e29] at p2v13
  try have q2v13 := congrArg Int32.toInt p2v13
  try simp only [k0_r0_6, k0_r0_7, k0_r0_8, k0_r0_9, k0_r0_1_0, e23, e25, e27, e29] at p3v13
  try have q3v13 := congrArg Int32.toInt p3v13
  have h6 := p0v13
  have h7 := p1v13
  have h8 := p2v13
  have h9 := p3v13
  exact k_vret C rfl rfl (Nat.le_of_ble_eq_true rfl) (Nat.le_of_ble_eq_true rfl) ⟨_, _, rfl, rfl, fun a1 h1 => by cases (R_r0_1.symm.trans h1); simp only [k0_r0_6, k0_r0_7, k0_r0_8, k0_r0_9, k0_r0_1_0, e21, e23, e25, e27, e29, k0_r0_6, k0_r0_7, k0_r0_8, k0_r0_9, k0_r0_1_0]; rw [h6, h7, h8, h9]; exact TBK.of hDT hIV hIP hT16 hL26 hT30 hL40 hT44 hT53 (by omega) (by omega), hI14, (CM.mono S16 (by decide) (by decide))⟩

theorem a_X12_tables_x {d : Nat} {T N : Nat → Nat} {I : IT} {L : LT} {R : RT} {A : Nat → Prop} {r0 : Nat} {n1 : Int32} (hI : IM R r0 I) (H_r0 : (h_MD T N R A) r0) (b0_n1 : 0 ≤ n1.toInt) (b1_n1 : n1.toInt ≤ 7) : Ex (d + 2) 211 [.ref r0, .int n1] (T, N, I, L, R) 0 0 (pV T N R (fun I9 L9 => (∀ a1, R r0 1 = some a1 → (I9 r0 6).toInt = (I a1 (166 + 4 * n1.toNatClampNeg + 0)).toInt) ∧ (∀ a1, R r0 1 = some a1 → (I9 r0 7).toInt = (I a1 (166 + 4 * n1.toNatClampNeg + 1)).toInt) ∧ (∀ a1, R r0 1 = some a1 → (I9 r0 8).toInt = (I a1 (166 + 4 * n1.toNatClampNeg + 2)).toInt) ∧ (∀ a1, R r0 1 = some a1 → (I9 r0 9).toInt = (I a1 (166 + 4 * n1.toNatClampNeg + 3)).toInt) ∧ (IM R r0 I9 ∧ CM A R r0 [6, 7, 8, 9] [] I L I9 L9))) := by
  refine ⟨_, rfl, Nat.le_of_ble_eq_true rfl, fun V C S => ?_⟩
  show V 0 [(0, .ref r0), (1, .int n1)] [] (T, N, I, L, R) 0 0
  have gn1 := rg n1
  obtain ⟨T_r0, A_r0, ⟨r0_1, R_r0_1, H_r0_1⟩, ⟨r0_2, R_r0_2, H_r0_2⟩, ⟨r0_4, R_r0_4, H_r0_4⟩, ⟨r0_5, R_r0_5, H_r0_5⟩, ⟨r0_10, R_r0_10, H_r0_10⟩, ⟨r0_18, R_r0_18, H_r0_18⟩, ⟨r0_20, R_r0_20, H_r0_20⟩, ⟨r0_21, R_r0_21, H_r0_21⟩, ⟨r0_22, R_r0_22, H_r0_22⟩, ⟨r0_23, R_r0_23, H_r0_23⟩, ⟨r0_25, R_r0_25, H_r0_25⟩, ⟨r0_26, R_r0_26, H_r0_26⟩, ⟨r0_27, R_r0_27, H_r0_27⟩, ⟨r0_28, R_r0_28, H_r0_28⟩, ⟨r0_34, R_r0_34, H_r0_34⟩, J_r0, Y_r0⟩ := id H_r0
  have G_r0 : mF T R r0 := ⟨J_r0, Y_r0, T_r0⟩
  refine k_aload_n C rfl rfl rfl ?_
  refine k_aload_n C rfl rfl rfl ?_
  refine k_iload_n C rfl rfl rfl ?_
  refine z_iconst C (z := 0) rfl rfl rfl (fun x1 ex1 => ?_)
  have q2 : x1.toNatClampNeg = 0 := nck (by omega)
  refine c_VI C (a_X12_ofTable hI H_r0 (by omega) (by omega) (by omega) (by omega)) rfl rfl rfl rfl rfl ⟨_, rfl, rfl, T_r0, Nat.le_of_ble_eq_true rfl⟩ rfl rfl (Nat.le_of_ble_eq_true rfl) (Nat.le_of_ble_eq_true rfl) (Nat.le_of_ble_eq_true rfl) ?_
  rintro x3 _ _ ⟨o0x3, o1x3, p0x3, rfl, rfl⟩
  have p0x3 := p0x3 r0_1 R_r0_1
  have gx3 := rg x3
  try simp only [q2] at p0x3
  try have q0x3 := congrArg Int32.toInt p0x3
  have hO0 := p0x3
  refine k_aload_n C rfl rfl rfl ?_
  refine k_iload_n C rfl rfl rfl ?_
  refine z_iconst C (z := 1) rfl rfl rfl (fun x4 ex4 => ?_)
  have q5 : x4.toNatClampNeg = 1 := nck (by omega)
  refine c_VI C (a_X12_ofTable hI H_r0 (by omega) (by omega) (by omega) (by omega)) rfl rfl rfl rfl rfl ⟨_, rfl, rfl, T_r0, Nat.le_of_ble_eq_true rfl⟩ rfl rfl (Nat.le_of_ble_eq_true rfl) (Nat.le_of_ble_eq_true rfl) (Nat.le_of_ble_eq_true rfl) ?_
  rintro x6 _ _ ⟨o0x6, o1x6, p0x6, rfl, rfl⟩
  have p0x6 := p0x6 r0_1 R_r0_1
  have gx6 := rg x6
  try simp only [q5] at p0x6
  try have q0x6 := congrArg Int32.toInt p0x6
  have hO1 := p0x6
  refine k_aload_n C rfl rfl rfl ?_
  refine k_iload_n C rfl rfl rfl ?_
  refine z_iconst C (z := 2) rfl rfl rfl (fun x7 ex7 => ?_)
  have q8 : x7.toNatClampNeg = 2 := nck (by omega)
  refine c_VI C (a_X12_ofTable hI H_r0 (by omega) (by omega) (by omega) (by omega)) rfl rfl rfl rfl rfl ⟨_, rfl, rfl, T_r0, Nat.le_of_ble_eq_true rfl⟩ rfl rfl (Nat.le_of_ble_eq_true rfl) (Nat.le_of_ble_eq_true rfl) (Nat.le_of_ble_eq_true rfl) ?_
  rintro x9 _ _ ⟨o0x9, o1x9, p0x9, rfl, rfl⟩
  have p0x9 := p0x9 r0_1 R_r0_1
  have gx9 := rg x9
  try simp only [q8] at p0x9
  try have q0x9 := congrArg Int32.toInt p0x9
  have hO2 := p0x9
  refine k_aload_n C rfl rfl rfl ?_
  refine k_iload_n C rfl rfl rfl ?_
  refine z_iconst C (z := 3) rfl rfl rfl (fun x10 ex10 => ?_)
  have q11 : x10.toNatClampNeg = 3 := nck (by omega)
  refine c_VI C (a_X12_ofTable hI H_r0 (by omega) (by omega) (by omega) (by omega)) rfl rfl rfl rfl rfl ⟨_, rfl, rfl, T_r0, Nat.le_of_ble_eq_true rfl⟩ rfl rfl (Nat.le_of_ble_eq_true rfl) (Nat.le_of_ble_eq_true rfl) (Nat.le_of_ble_eq_true rfl) ?_
  rintro x12 _ _ ⟨o0x12, o1x12, p0x12, rfl, rfl⟩
  have p0x12 := p0x12 r0_1 R_r0_1
  have gx12 := rg x12
  try simp only [q11] at p0x12
  try have q0x12 := congrArg Int32.toInt p0x12
  have hO3 := p0x12
  refine c_VV C (a_X12_takesTable_e hI H_r0 (by omega) (by omega) (by omega) (by omega) (by omega) (by omega) (by omega) (by omega)) rfl rfl rfl rfl rfl ⟨_, rfl, rfl, T_r0, Nat.le_of_ble_eq_true rfl⟩ rfl rfl (Nat.le_of_ble_eq_true rfl) (Nat.le_of_ble_eq_true rfl) (Nat.le_of_ble_eq_true rfl) ?_
  rintro I14 L15 ⟨p0v13, p1v13, p2v13, p3v13, hI14, S16⟩
  obtain ⟨x17, e18⟩ : ∃ x, I14 r0 6 = x := ⟨_, rfl⟩
  have gx17 := rg x17
  have ox17 := IM.f6 hI14 e18
  obtain ⟨x19, e20⟩ : ∃ x, I14 r0 7 = x := ⟨_, rfl⟩
  have gx19 := rg x19
  have ox19 := IM.f7 hI14 e20
  obtain ⟨x21, e22⟩ : ∃ x, I14 r0 8 = x := ⟨_, rfl⟩
  have gx21 := rg x21
  have ox21 := IM.f8 hI14 e22
  obtain ⟨x23, e24⟩ : ∃ x, I14 r0 9 = x := ⟨_, rfl⟩
  have gx23 := rg x23
  have ox23 := IM.f9 hI14 e24
  try simp only [e18, e20, e22, e24] at p0v13
  try have q0v13 := congrArg Int32.toInt p0v13
  try simp only [e18, e20, e22, e24] at p1v13
  try have q1v13 := congrArg Int32.toInt p1v13
  try simp only [e18, e20, e22, e24] at p2v13
  try have q2v13 := congrArg Int32.toInt p2v13
  try simp only [e18, e20, e22, e24] at p3v13
  try have q3v13 := congrArg Int32.toInt p3v13
  have h6 := p0v13
  have h7 := p1v13
  have h8 := p2v13
  have h9 := p3v13
  exact k_vret C rfl rfl (Nat.le_of_ble_eq_true rfl) (Nat.le_of_ble_eq_true rfl) ⟨_, _, rfl, rfl, fun a1 h1 => by cases (R_r0_1.symm.trans h1); rw [e18, h6]; exact hO0, fun a1 h1 => by cases (R_r0_1.symm.trans h1); rw [e20, h7]; exact hO1, fun a1 h1 => by cases (R_r0_1.symm.trans h1); rw [e22, h8]; exact hO2, fun a1 h1 => by cases (R_r0_1.symm.trans h1); rw [e24, h9]; exact hO3, hI14, (CM.mono S16 (by decide) (by decide))⟩

theorem a_X12_lays_x {d : Nat} {T N : Nat → Nat} {I : IT} {L : LT} {R : RT} {A : Nat → Prop} {r0 : Nat} (hI : IM R r0 I) (H_r0 : (h_MD T N R A) r0) (hp0 : ∀ a1, R r0 1 = some a1 → (I a1 2).toInt ≤ 7) : Ex (d + 1) 234 [.ref r0] (T, N, I, L, R) 0 0 (pI T N R (fun x9 I9 L9 => (-1 ≤ x9.toInt) ∧ (x9.toInt ≤ 7) ∧ (∀ a1, R r0 1 = some a1 → (I a1 4).toInt + (I a1 5).toInt ≤ 40 → (I9 a1 4).toInt + (I9 a1 5).toInt ≤ 40) ∧ (∀ a1, R r0 1 = some a1 → x9.toInt = (I a1 2).toInt) ∧ (∀ a1, R r0 1 = some a1 → (I9 a1 2).toInt = (I a1 2).toInt + 1) ∧ (∀ a1, R r0 1 = some a1 → TBW (I9 a1) (I a1) (I r0 6).toInt (I r0 7).toInt (I r0 8).toInt (I r0 9).toInt) ∧ (∀ a1, R r0 1 = some a1 → ∀ r : Nat, r ≠ 2 ∧ r < 166 → I9 a1 r = I a1 r) ∧ (IM R r0 I9 ∧ CM A R r0 [] [1] I L I9 L9))) := by
  refine ⟨_, rfl, Nat.le_of_ble_eq_true rfl, fun V C S => ?_⟩
  show V 0 [(0, .ref r0)] [] (T, N, I, L, R) 0 0
  obtain ⟨T_r0, A_r0, ⟨r0_1, R_r0_1, H_r0_1⟩, ⟨r0_2, R_r0_2, H_r0_2⟩, ⟨r0_4, R_r0_4, H_r0_4⟩, ⟨r0_5, R_r0_5, H_r0_5⟩, ⟨r0_10, R_r0_10, H_r0_10⟩, ⟨r0_18, R_r0_18, H_r0_18⟩, ⟨r0_20, R_r0_20, H_r0_20⟩, ⟨r0_21, R_r0_21, H_r0_21⟩, ⟨r0_22, R_r0_22, H_r0_22⟩, ⟨r0_23, R_r0_23, H_r0_23⟩, ⟨r0_25, R_r0_25, H_r0_25⟩, ⟨r0_26, R_r0_26, H_r0_26⟩, ⟨r0_27, R_r0_27, H_r0_27⟩, ⟨r0_28, R_r0_28, H_r0_28⟩, ⟨r0_34, R_r0_34, H_r0_34⟩, J_r0, Y_r0⟩ := id H_r0
  have G_r0 : mF T R r0 := ⟨J_r0, Y_r0, T_r0⟩
  obtain ⟨w_r0_1_4, k0_r0_1_4⟩ : ∃ x, I r0_1 4 = x := ⟨_, rfl⟩
  have gw_r0_1_4 := rg w_r0_1_4
  have ow_r0_1_4 := IM.c4 hI R_r0_1 k0_r0_1_4
  obtain ⟨w_r0_1_5, k0_r0_1_5⟩ : ∃ x, I r0_1 5 = x := ⟨_, rfl⟩
  have gw_r0_1_5 := rg w_r0_1_5
  have ow_r0_1_5 := IM.c5 hI R_r0_1 k0_r0_1_5
  obtain ⟨w_r0_1_2, k0_r0_1_2⟩ : ∃ x, I r0_1 2 = x := ⟨_, rfl⟩
  have gw_r0_1_2 := rg w_r0_1_2
  have ow_r0_1_2 := IM.c2 hI R_r0_1 k0_r0_1_2
  obtain ⟨w_r0_6, k0_r0_6⟩ : ∃ x, I r0 6 = x := ⟨_, rfl⟩
  have gw_r0_6 := rg w_r0_6
  have ow_r0_6 := IM.f6 hI k0_r0_6
  obtain ⟨w_r0_7, k0_r0_7⟩ : ∃ x, I r0 7 = x := ⟨_, rfl⟩
  have gw_r0_7 := rg w_r0_7
  have ow_r0_7 := IM.f7 hI k0_r0_7
  obtain ⟨w_r0_8, k0_r0_8⟩ : ∃ x, I r0 8 = x := ⟨_, rfl⟩
  have gw_r0_8 := rg w_r0_8
  have ow_r0_8 := IM.f8 hI k0_r0_8
  obtain ⟨w_r0_9, k0_r0_9⟩ : ∃ x, I r0 9 = x := ⟨_, rfl⟩
  have gw_r0_9 := rg w_r0_9
  have ow_r0_9 := IM.f9 hI k0_r0_9
  have hp0 := hp0 r0_1 R_r0_1
  try simp only [k0_r0_1_4, k0_r0_1_5, k0_r0_1_2, k0_r0_6, k0_r0_7, k0_r0_8, k0_r0_9] at hp0
  refine z_sipush C (z := 166) rfl rfl rfl (fun x1 ex1 => ?_)
  refine z_iconst C (z := 4) rfl rfl rfl (fun x2 ex2 => ?_)
  refine k_aload_n C rfl rfl rfl ?_
  refine g_R C rfl rfl rfl T_r0 rfl R_r0_1 ?_
  refine z_iconst C (z := 2) rfl rfl rfl (fun x3 ex3 => ?_)
  obtain ⟨T_r0_1, N_r0_1, A_r0_1⟩ := id H_r0_1
  refine a_I C rfl rfl T_r0_1 (by rw [N_r0_1]; exact vpi (by omega) (by omega)) ((congrArg (I r0_1) (nck (n := 2) (by omega))).trans k0_r0_1_2) ?_
  refine z_imulL C (c := 4) rfl rfl (by omega) ⟨by omega, by omega⟩ (fun x4 ex4 => ?_)
  refine z_iadd C rfl rfl ⟨by omega, by omega⟩ (fun x5 ex5 => ?_)
  refine k_istore_n C (lw := [(1, .int x5), (0, .ref r0)]) rfl rfl (Nat.le_of_ble_eq_true rfl) rfl ?_
  refine k_aload_n C rfl rfl rfl ?_
  refine g_R C rfl rfl rfl T_r0 rfl R_r0_1 ?_
  refine k_iload_n C rfl rfl rfl ?_
  refine k_aload_n C rfl rfl rfl ?_
  refine g_I C rfl rfl rfl T_r0 rfl k0_r0_6 ?_
  refine z_sI C rfl rfl T_r0_1 N_r0_1 (by omega) (by omega) (fun I6 uI6 => ?_)
  have hI6 : IM R r0 I6 := IM.arr hI G_r0 R_r0_1 ⟨(fun h => absurd h (by decide)), (fun h => absurd h (by decide)), (fun h => absurd h (by decide))⟩ (fun _ => WOK.tab (IM.w hI R_r0_1) ⟨by omega, by omega⟩ (by omega) (by omega)) uI6
  have S7 : CM A R r0 [] [1] I L I6 L := CM.a G_r0 R_r0_1 A_r0_1 uI6
  have F8 : ∀ r : Nat, r ≠ 2 ∧ r < 166 → I6 r0_1 r = I r0_1 r := fun r z0 => by rw [uI6]; exact u2_k (by have h2 := ncz (x := x5) (by omega); omega)
  have e9 := u2_j uI6 (by first | decide | exact ncne (by omega) (by omega) (by omega) | exact nckn (by omega) (by omega) | exact (nckn (by omega) (by omega)).symm) k0_r0_1_4
  have e10 := u2_j uI6 (by first | decide | exact ncne (by omega) (by omega) (by omega) | exact nckn (by omega) (by omega) | exact (nckn (by omega) (by omega)).symm) k0_r0_1_5
  have e11 := u2_j uI6 (by first | decide | exact ncne (by omega) (by omega) (by omega) | exact nckn (by omega) (by omega) | exact (nckn (by omega) (by omega)).symm) k0_r0_1_2
  have e12 := u2_n uI6 (fun e => (mF.ne G_r0 R_r0_1) e.symm) k0_r0_6
  have e13 := u2_n uI6 (fun e => (mF.ne G_r0 R_r0_1) e.symm) k0_r0_7
  have e14 := u2_n uI6 (fun e => (mF.ne G_r0 R_r0_1) e.symm) k0_r0_8
  have e15 := u2_n uI6 (fun e => (mF.ne G_r0 R_r0_1) e.symm) k0_r0_9
  have e16 := u2_e uI6
  have hu22 := uI6
  refine k_aload_n C rfl rfl rfl ?_
  refine g_R C rfl rfl rfl T_r0 rfl R_r0_1 ?_
  refine k_iload_n C rfl rfl rfl ?_
  refine z_iconst C (z := 1) rfl rfl rfl (fun x17 ex17 => ?_)
  refine z_iadd C rfl rfl ⟨by omega, by omega⟩ (fun x18 ex18 => ?_)
  refine k_aload_n C rfl rfl rfl ?_
  refine g_I C rfl rfl rfl T_r0 rfl e13 ?_
  refine z_sI C rfl rfl T_r0_1 N_r0_1 (by omega) (by omega) (fun I19 uI19 => ?_)
  have hI19 : IM R r0 I19 := IM.arr hI6 G_r0 R_r0_1 ⟨(fun h => absurd h (by decide)), (fun h => absurd h (by decide)), (fun h => absurd h (by decide))⟩ (fun _ => WOK.tab (IM.w hI6 R_r0_1) ⟨by omega, by omega⟩ (by omega) (by omega)) uI19
  have S20 : CM A R r0 [] [1] I6 L I19 L := CM.a G_r0 R_r0_1 A_r0_1 uI19
  have F21 : ∀ r : Nat, r ≠ 2 ∧ r < 166 → I19 r0_1 r = I6 r0_1 r := fun r z0 => by rw [uI19]; exact u2_k (by have h2 := ncz (x := x18) (by omega); omega)
  have e22 := u2_j uI19 (by first | decide | exact ncne (by omega) (by omega) (by omega) | exact nckn (by omega) (by omega) | exact (nckn (by omega) (by omega)).symm) e9
  have e23 := u2_j uI19 (by first | decide | exact ncne (by omega) (by omega) (by omega) | exact nckn (by omega) (by omega) | exact (nckn (by omega) (by omega)).symm) e10
  have e24 := u2_j uI19 (by first | decide | exact ncne (by omega) (by omega) (by omega) | exact nckn (by omega) (by omega) | exact (nckn (by omega) (by omega)).symm) e11
  have e25 := u2_n uI19 (fun e => (mF.ne G_r0 R_r0_1) e.symm) e12
  have e26 := u2_n uI19 (fun e => (mF.ne G_r0 R_r0_1) e.symm) e13
  have e27 := u2_n uI19 (fun e => (mF.ne G_r0 R_r0_1) e.symm) e14
  have e28 := u2_n uI19 (fun e => (mF.ne G_r0 R_r0_1) e.symm) e15
  have e30 := u2_e uI19
  have hu34 := uI19
  refine k_aload_n C rfl rfl rfl ?_
  refine g_R C rfl rfl rfl T_r0 rfl R_r0_1 ?_
  refine k_iload_n C rfl rfl rfl ?_
  refine z_iconst C (z := 2) rfl rfl rfl (fun x31 ex31 => ?_)
  refine z_iadd C rfl rfl ⟨by omega, by omega⟩ (fun x32 ex32 => ?_)
  refine k_aload_n C rfl rfl rfl ?_
  refine g_I C rfl rfl rfl T_r0 rfl e27 ?_
  refine z_sI C rfl rfl T_r0_1 N_r0_1 (by omega) (by omega) (fun I33 uI33 => ?_)
  have hI33 : IM R r0 I33 := IM.arr hI19 G_r0 R_r0_1 ⟨(fun h => absurd h (by decide)), (fun h => absurd h (by decide)), (fun h => absurd h (by decide))⟩ (fun _ => WOK.tab (IM.w hI19 R_r0_1) ⟨by omega, by omega⟩ (by omega) (by omega)) uI33
  have S34 : CM A R r0 [] [1] I19 L I33 L := CM.a G_r0 R_r0_1 A_r0_1 uI33
  have F35 : ∀ r : Nat, r ≠ 2 ∧ r < 166 → I33 r0_1 r = I19 r0_1 r := fun r z0 => by rw [uI33]; exact u2_k (by have h2 := ncz (x := x32) (by omega); omega)
  have e36 := u2_j uI33 (by first | decide | exact ncne (by omega) (by omega) (by omega) | exact nckn (by omega) (by omega) | exact (nckn (by omega) (by omega)).symm) e22
  have e37 := u2_j uI33 (by first | decide | exact ncne (by omega) (by omega) (by omega) | exact nckn (by omega) (by omega) | exact (nckn (by omega) (by omega)).symm) e23
  have e38 := u2_j uI33 (by first | decide | exact ncne (by omega) (by omega) (by omega) | exact nckn (by omega) (by omega) | exact (nckn (by omega) (by omega)).symm) e24
  have e39 := u2_n uI33 (fun e => (mF.ne G_r0 R_r0_1) e.symm) e25
  have e40 := u2_n uI33 (fun e => (mF.ne G_r0 R_r0_1) e.symm) e26
  have e41 := u2_n uI33 (fun e => (mF.ne G_r0 R_r0_1) e.symm) e27
  have e42 := u2_n uI33 (fun e => (mF.ne G_r0 R_r0_1) e.symm) e28
  have e44 := u2_e uI33
  have hu46 := uI33
  refine k_aload_n C rfl rfl rfl ?_
  refine g_R C rfl rfl rfl T_r0 rfl R_r0_1 ?_
  refine k_iload_n C rfl rfl rfl ?_
  refine z_iconst C (z := 3) rfl rfl rfl (fun x45 ex45 => ?_)
  refine z_iadd C rfl rfl ⟨by omega, by omega⟩ (fun x46 ex46 => ?_)
  refine k_aload_n C rfl rfl rfl ?_
  refine g_I C rfl rfl rfl T_r0 rfl e42 ?_
  refine z_sI C rfl rfl T_r0_1 N_r0_1 (by omega) (by omega) (fun I47 uI47 => ?_)
  have hI47 : IM R r0 I47 := IM.arr hI33 G_r0 R_r0_1 ⟨(fun h => absurd h (by decide)), (fun h => absurd h (by decide)), (fun h => absurd h (by decide))⟩ (fun _ => WOK.tab (IM.w hI33 R_r0_1) ⟨by omega, by omega⟩ (by omega) (by omega)) uI47
  have S48 : CM A R r0 [] [1] I33 L I47 L := CM.a G_r0 R_r0_1 A_r0_1 uI47
  have F49 : ∀ r : Nat, r ≠ 2 ∧ r < 166 → I47 r0_1 r = I33 r0_1 r := fun r z0 => by rw [uI47]; exact u2_k (by have h2 := ncz (x := x46) (by omega); omega)
  have e50 := u2_j uI47 (by first | decide | exact ncne (by omega) (by omega) (by omega) | exact nckn (by omega) (by omega) | exact (nckn (by omega) (by omega)).symm) e36
  have e51 := u2_j uI47 (by first | decide | exact ncne (by omega) (by omega) (by omega) | exact nckn (by omega) (by omega) | exact (nckn (by omega) (by omega)).symm) e37
  have e52 := u2_j uI47 (by first | decide | exact ncne (by omega) (by omega) (by omega) | exact nckn (by omega) (by omega) | exact (nckn (by omega) (by omega)).symm) e38
  have e53 := u2_n uI47 (fun e => (mF.ne G_r0 R_r0_1) e.symm) e39
  have e54 := u2_n uI47 (fun e => (mF.ne G_r0 R_r0_1) e.symm) e40
  have e55 := u2_n uI47 (fun e => (mF.ne G_r0 R_r0_1) e.symm) e41
  have e56 := u2_n uI47 (fun e => (mF.ne G_r0 R_r0_1) e.symm) e42
  have e58 := u2_e uI47
  have hu58 := uI47
  refine k_aload_n C rfl rfl rfl ?_
  refine g_R C rfl rfl rfl T_r0 rfl R_r0_1 ?_
  refine z_iconst C (z := 2) rfl rfl rfl (fun x59 ex59 => ?_)
  refine k_dup2 C rfl rfl rfl rfl ?_
  refine a_I C rfl rfl T_r0_1 (by rw [N_r0_1]; exact vpi (by omega) (by omega)) ((congrArg (I47 r0_1) (nck (n := 2) (by omega))).trans e52) ?_
  refine z_iconst C (z := 1) rfl rfl rfl (fun x60 ex60 => ?_)
  refine z_iadd C rfl rfl ⟨by omega, by omega⟩ (fun x61 ex61 => ?_)
  refine z_sI C rfl rfl T_r0_1 N_r0_1 (by omega) (by omega) (fun I62 uI62 => ?_)
  have uI62 : I62 = u2 I47 r0_1 2 (x61) := by rw [uI62, nck (n := 2) (by omega)]
  have hI62 : IM R r0 I62 := IM.arr hI47 G_r0 R_r0_1 ⟨(fun h => absurd h (by decide)), (fun h => absurd h (by decide)), (fun h => absurd h (by decide))⟩ (fun _ => WOK.c2 (IM.w hI47 R_r0_1) (by omega) (by omega)) uI62
  have S63 : CM A R r0 [] [1] I47 L I62 L := CM.a G_r0 R_r0_1 A_r0_1 uI62
  have F64 : ∀ r : Nat, r ≠ 2 ∧ r < 166 → I62 r0_1 r = I47 r0_1 r := fun r z0 => by rw [uI62]; exact u2_k (by have h2 := ncz (x := x59) (by omega); omega)
  have e65 := u2_j uI62 (by first | decide | exact ncne (by omega) (by omega) (by omega) | exact nckn (by omega) (by omega) | exact (nckn (by omega) (by omega)).symm) e50
  have e66 := u2_j uI62 (by first | decide | exact ncne (by omega) (by omega) (by omega) | exact nckn (by omega) (by omega) | exact (nckn (by omega) (by omega)).symm) e51
  have e68 := u2_n uI62 (fun e => (mF.ne G_r0 R_r0_1) e.symm) e53
  have e69 := u2_n uI62 (fun e => (mF.ne G_r0 R_r0_1) e.symm) e54
  have e70 := u2_n uI62 (fun e => (mF.ne G_r0 R_r0_1) e.symm) e55
  have e71 := u2_n uI62 (fun e => (mF.ne G_r0 R_r0_1) e.symm) e56
  have e72 := u2_j uI62 (by first | decide | exact ncne (by omega) (by omega) (by omega) | exact nckn (by omega) (by omega) | exact (nckn (by omega) (by omega)).symm) e58
  have e73 := u2_e uI62
  have hu68 := uI62
  refine k_aload_n C rfl rfl rfl ?_
  refine g_R C rfl rfl rfl T_r0 rfl R_r0_1 ?_
  refine z_iconst C (z := 2) rfl rfl rfl (fun x74 ex74 => ?_)
  refine a_I C rfl rfl T_r0_1 (by rw [N_r0_1]; exact vpi (by omega) (by omega)) ((congrArg (I62 r0_1) (nck (n := 2) (by omega))).trans e73) ?_
  refine z_iconst C (z := 1) rfl rfl rfl (fun x75 ex75 => ?_)
  refine z_isub C rfl rfl ⟨by omega, by omega⟩ (fun x76 ex76 => ?_)
  exact k_iret C rfl (Or.inl rfl) (Nat.le_of_ble_eq_true rfl) (Nat.le_of_ble_eq_true rfl) ⟨_, _, _, rfl, rfl, by omega, by omega, fun a1 h1 => by cases (R_r0_1.symm.trans h1); first | omega | (simp only [e65, e66, e68, e69, e70, e71, e72, e73, k0_r0_1_4, k0_r0_1_5, k0_r0_1_2, k0_r0_6, k0_r0_7, k0_r0_8, k0_r0_9, and_true, true_and, or_true, true_or, and_false, false_and, or_false, false_or] <;> omega), fun a1 h1 => by cases (R_r0_1.symm.trans h1); first | omega | (simp only [e65, e66, e68, e69, e70, e71, e72, e73, k0_r0_1_4, k0_r0_1_5, k0_r0_1_2, k0_r0_6, k0_r0_7, k0_r0_8, k0_r0_9, and_true, true_and, or_true, true_or, and_false, false_and, or_false, false_or] <;> omega), fun a1 h1 => by cases (R_r0_1.symm.trans h1); first | omega | (simp only [e65, e66, e68, e69, e70, e71, e72, e73, k0_r0_1_4, k0_r0_1_5, k0_r0_1_2, k0_r0_6, k0_r0_7, k0_r0_8, k0_r0_9, and_true, true_and, or_true, true_or, and_false, false_and, or_false, false_or] <;> omega), fun a1 h1 => by cases (R_r0_1.symm.trans h1); simp only [k0_r0_6, k0_r0_7, k0_r0_8, k0_r0_9]; exact TBW.of hu22 hu34 hu46 hu58 hu68 k0_r0_1_2 (by omega) (by omega) (by omega) (by omega) (by omega) rfl rfl rfl rfl, fun a1 h1 => by cases (R_r0_1.symm.trans h1); exact (fun r z0 => ((F64 r z0).trans ((F49 r z0).trans ((F35 r z0).trans ((F21 r z0).trans (F8 r z0)))))), hI62, (CM.cons S7 (CM.cons S20 (CM.cons S34 (CM.cons S48 (CM.mono S63 (by decide) (by decide)) (by decide) (by decide)) (by decide) (by decide)) (by decide) (by decide)) (by decide) (by decide))⟩

set_option maxHeartbeats 8000000 in
theorem a_X12_table_x {d : Nat} {T N : Nat → Nat} {I : IT} {L : LT} {R : RT} {A : Nat → Prop} {r0 : Nat} {n1 n2 n3 n4 : Int32} (hI : IM R r0 I) (H_r0 : (h_MD T N R A) r0) : Ex (d + 4) 235 [.ref r0, .int n1, .int n2, .int n3, .int n4] (T, N, I, L, R) 0 0 (pI T N R (fun x9 I9 L9 => (-1 ≤ x9.toInt) ∧ (x9.toInt ≤ 7) ∧ (∀ a1, R r0 1 = some a1 → (I a1 4).toInt + (I a1 5).toInt ≤ 40 → (I9 a1 4).toInt + (I9 a1 5).toInt ≤ 40) ∧ (∀ a1, R r0 1 = some a1 → TBD (dtR (I a1 0).toInt n1.toInt n2.toInt n3.toInt n4.toInt) (I a1 2).toInt (I9 a1 2).toInt (I9 r0 0).toInt x9.toInt) ∧ (∀ a1, R r0 1 = some a1 → TBX (I9 a1) (I a1) (I9 r0 0).toInt (n1.toInt % (I a1 0).toInt) (n2.toInt % (I a1 0).toInt) (n3.toInt % (I a1 0).toInt) (n4.toInt % (I a1 0).toInt)) ∧ (∀ a1, R r0 1 = some a1 → ∀ r : Nat, r ≠ 2 ∧ r < 166 → I9 a1 r = I a1 r) ∧ (IM R r0 I9 ∧ CM A R r0 [0, 6, 7, 8, 9] [1] I L I9 L9))) := by
  refine ⟨_, rfl, Nat.le_of_ble_eq_true rfl, fun V C S => ?_⟩
  show V 0 [(0, .ref r0), (1, .int n1), (2, .int n2), (3, .int n3), (4, .int n4)] [] (T, N, I, L, R) 0 0
  have gn1 := rg n1
  have gn2 := rg n2
  have gn3 := rg n3
  have gn4 := rg n4
  obtain ⟨T_r0, A_r0, ⟨r0_1, R_r0_1, H_r0_1⟩, ⟨r0_2, R_r0_2, H_r0_2⟩, ⟨r0_4, R_r0_4, H_r0_4⟩, ⟨r0_5, R_r0_5, H_r0_5⟩, ⟨r0_10, R_r0_10, H_r0_10⟩, ⟨r0_18, R_r0_18, H_r0_18⟩, ⟨r0_20, R_r0_20, H_r0_20⟩, ⟨r0_21, R_r0_21, H_r0_21⟩, ⟨r0_22, R_r0_22, H_r0_22⟩, ⟨r0_23, R_r0_23, H_r0_23⟩, ⟨r0_25, R_r0_25, H_r0_25⟩, ⟨r0_26, R_r0_26, H_r0_26⟩, ⟨r0_27, R_r0_27, H_r0_27⟩, ⟨r0_28, R_r0_28, H_r0_28⟩, ⟨r0_34, R_r0_34, H_r0_34⟩, J_r0, Y_r0⟩ := id H_r0
  have G_r0 : mF T R r0 := ⟨J_r0, Y_r0, T_r0⟩
  obtain ⟨w_r0_1_0, k0_r0_1_0⟩ : ∃ x, I r0_1 0 = x := ⟨_, rfl⟩
  have gw_r0_1_0 := rg w_r0_1_0
  have ow_r0_1_0 := IM.pi hI R_r0_1 k0_r0_1_0
  obtain ⟨w_r0_1_1, k0_r0_1_1⟩ : ∃ x, I r0_1 1 = x := ⟨_, rfl⟩
  have gw_r0_1_1 := rg w_r0_1_1
  have ow_r0_1_1 := IM.c1 hI R_r0_1 k0_r0_1_1
  obtain ⟨w_r0_1_2, k0_r0_1_2⟩ : ∃ x, I r0_1 2 = x := ⟨_, rfl⟩
  have gw_r0_1_2 := rg w_r0_1_2
  have ow_r0_1_2 := IM.c2 hI R_r0_1 k0_r0_1_2
  obtain ⟨w_r0_1_3, k0_r0_1_3⟩ : ∃ x, I r0_1 3 = x := ⟨_, rfl⟩
  have gw_r0_1_3 := rg w_r0_1_3
  have ow_r0_1_3 := IM.c3 hI R_r0_1 k0_r0_1_3
  obtain ⟨w_r0_1_4, k0_r0_1_4⟩ : ∃ x, I r0_1 4 = x := ⟨_, rfl⟩
  have gw_r0_1_4 := rg w_r0_1_4
  have ow_r0_1_4 := IM.c4 hI R_r0_1 k0_r0_1_4
  obtain ⟨w_r0_1_5, k0_r0_1_5⟩ : ∃ x, I r0_1 5 = x := ⟨_, rfl⟩
  have gw_r0_1_5 := rg w_r0_1_5
  have ow_r0_1_5 := IM.c5 hI R_r0_1 k0_r0_1_5
  refine k_aload_n C rfl rfl rfl ?_
  refine z_iconst C (z := 0) rfl rfl rfl (fun x1 ex1 => ?_)
  refine z_pI C rfl rfl rfl T_r0 (Or.inr rfl) rfl (fun I2 uI2 => ?_)
  have hI2 : IM R r0 I2 := IM.fld hI G_r0 ⟨(fun h => absurd h (by decide)), (fun h => absurd h (by decide)), (fun h => absurd h (by decide)), (fun h => absurd h (by decide)), (fun h => absurd h (by decide))⟩ uI2
  have S3 : CM A R r0 [0] [] I L I2 L := CM.f G_r0 A_r0 uI2
  have e4 := u2_n uI2 (mF.ne G_r0 R_r0_1) k0_r0_1_0
  have e5 := u2_n uI2 (mF.ne G_r0 R_r0_1) k0_r0_1_1
  have e6 := u2_n uI2 (mF.ne G_r0 R_r0_1) k0_r0_1_2
  have e7 := u2_n uI2 (mF.ne G_r0 R_r0_1) k0_r0_1_3
  have e8 := u2_n uI2 (mF.ne G_r0 R_r0_1) k0_r0_1_4
  have e9 := u2_n uI2 (mF.ne G_r0 R_r0_1) k0_r0_1_5
  have e10 := u2_e uI2
  refine k_aload_n C rfl rfl rfl ?_
  refine k_aload_n C rfl rfl rfl ?_
  refine k_iload_n C rfl rfl rfl ?_
  refine z_i2l C rfl rfl (fun lg11 elg11 => ?_)
  refine c_VI C (a_X12_mod_e hI2 H_r0) rfl rfl rfl rfl rfl ⟨_, rfl, rfl, T_r0, Nat.le_of_ble_eq_true rfl⟩ rfl rfl (Nat.le_of_ble_eq_true rfl) (Nat.le_of_ble_eq_true rfl) (Nat.le_of_ble_eq_true rfl) ?_
  rintro x12 _ _ ⟨o0x12, o1x12, p0x12, p1x12, rfl, rfl⟩
  have p0x12 := p0x12 r0_1 R_r0_1
  have p1x12 := p1x12 r0_1 R_r0_1
  have gx12 := rg x12
  try simp only [e4, e5, e6, e7, e8, e9, e10] at p0x12
  try have q0x12 := congrArg Int32.toInt p0x12
  try simp only [e4, e5, e6, e7, e8, e9, e10] at p1x12
  try have q1x12 := congrArg Int32.toInt p1x12
  have hm1 : x12.toInt = n1.toInt % w_r0_1_0.toInt := p1x12.trans (by congr 1 <;> omega)
  refine k_aload_n C rfl rfl rfl ?_
  refine k_iload_n C rfl rfl rfl ?_
  refine z_i2l C rfl rfl (fun lg13 elg13 => ?_)
  refine c_VI C (a_X12_mod_e hI2 H_r0) rfl rfl rfl rfl rfl ⟨_, rfl, rfl, T_r0, Nat.le_of_ble_eq_true rfl⟩ rfl rfl (Nat.le_of_ble_eq_true rfl) (Nat.le_of_ble_eq_true rfl) (Nat.le_of_ble_eq_true rfl) ?_
  rintro x14 _ _ ⟨o0x14, o1x14, p0x14, p1x14, rfl, rfl⟩
  have p0x14 := p0x14 r0_1 R_r0_1
  have p1x14 := p1x14 r0_1 R_r0_1
  have gx14 := rg x14
  try simp only [e4, e5, e6, e7, e8, e9, e10] at p0x14
  try have q0x14 := congrArg Int32.toInt p0x14
  try simp only [e4, e5, e6, e7, e8, e9, e10] at p1x14
  try have q1x14 := congrArg Int32.toInt p1x14
  have hm2 : x14.toInt = n2.toInt % w_r0_1_0.toInt := p1x14.trans (by congr 1 <;> omega)
  refine k_aload_n C rfl rfl rfl ?_
  refine k_iload_n C rfl rfl rfl ?_
  refine z_i2l C rfl rfl (fun lg15 elg15 => ?_)
  refine c_VI C (a_X12_mod_e hI2 H_r0) rfl rfl rfl rfl rfl ⟨_, rfl, rfl, T_r0, Nat.le_of_ble_eq_true rfl⟩ rfl rfl (Nat.le_of_ble_eq_true rfl) (Nat.le_of_ble_eq_true rfl) (Nat.le_of_ble_eq_true rfl) ?_
  rintro x16 _ _ ⟨o0x16, o1x16, p0x16, p1x16, rfl, rfl⟩
  have p0x16 := p0x16 r0_1 R_r0_1
  have p1x16 := p1x16 r0_1 R_r0_1
  have gx16 := rg x16
  try simp only [e4, e5, e6, e7, e8, e9, e10] at p0x16
  try have q0x16 := congrArg Int32.toInt p0x16
  try simp only [e4, e5, e6, e7, e8, e9, e10] at p1x16
  try have q1x16 := congrArg Int32.toInt p1x16
  have hm3 : x16.toInt = n3.toInt % w_r0_1_0.toInt := p1x16.trans (by congr 1 <;> omega)
  refine k_aload_n C rfl rfl rfl ?_
  refine k_iload C rfl rfl rfl ?_
  refine z_i2l C rfl rfl (fun lg17 elg17 => ?_)
  refine c_VI C (a_X12_mod_e hI2 H_r0) rfl rfl rfl rfl rfl ⟨_, rfl, rfl, T_r0, Nat.le_of_ble_eq_true rfl⟩ rfl rfl (Nat.le_of_ble_eq_true rfl) (Nat.le_of_ble_eq_true rfl) (Nat.le_of_ble_eq_true rfl) ?_
  rintro x18 _ _ ⟨o0x18, o1x18, p0x18, p1x18, rfl, rfl⟩
  have p0x18 := p0x18 r0_1 R_r0_1
  have p1x18 := p1x18 r0_1 R_r0_1
  have gx18 := rg x18
  try simp only [e4, e5, e6, e7, e8, e9, e10] at p0x18
  try have q0x18 := congrArg Int32.toInt p0x18
  try simp only [e4, e5, e6, e7, e8, e9, e10] at p1x18
  try have q1x18 := congrArg Int32.toInt p1x18
  have hm4 : x18.toInt = n4.toInt % w_r0_1_0.toInt := p1x18.trans (by congr 1 <;> omega)
  refine c_VV C (a_X12_takesTable_e hI2 H_r0 (by omega) (by omega) (by omega) (by omega) (by omega) (by omega) (by omega) (by omega)) rfl rfl rfl rfl rfl ⟨_, rfl, rfl, T_r0, Nat.le_of_ble_eq_true rfl⟩ rfl rfl (Nat.le_of_ble_eq_true rfl) (Nat.le_of_ble_eq_true rfl) (Nat.le_of_ble_eq_true rfl) ?_
  rintro I20 L21 ⟨p0v19, p1v19, p2v19, p3v19, hI20, S22⟩
  have e23 := CM.j S22 R_r0_1 (by decide) e4
  have e24 := CM.j S22 R_r0_1 (by decide) e5
  have e25 := CM.j S22 R_r0_1 (by decide) e6
  have e26 := CM.j S22 R_r0_1 (by decide) e7
  have e27 := CM.j S22 R_r0_1 (by decide) e8
  have e28 := CM.j S22 R_r0_1 (by decide) e9
  have e29 := CM.k S22 (by decide) e10
  obtain ⟨x30, e31⟩ : ∃ x, I20 r0 6 = x := ⟨_, rfl⟩
  have gx30 := rg x30
  have ox30 := IM.f6 hI20 e31
  obtain ⟨x32, e33⟩ : ∃ x, I20 r0 7 = x := ⟨_, rfl⟩
  have gx32 := rg x32
  have ox32 := IM.f7 hI20 e33
  obtain ⟨x34, e35⟩ : ∃ x, I20 r0 8 = x := ⟨_, rfl⟩
  have gx34 := rg x34
  have ox34 := IM.f8 hI20 e35
  obtain ⟨x36, e37⟩ : ∃ x, I20 r0 9 = x := ⟨_, rfl⟩
  have gx36 := rg x36
  have ox36 := IM.f9 hI20 e37
  try simp only [e4, e5, e6, e7, e8, e9, e10, e31, e33, e35, e37] at p0v19
  try have q0v19 := congrArg Int32.toInt p0v19
  try simp only [e4, e5, e6, e7, e8, e9, e10, e31, e33, e35, e37] at p1v19
  try have q1v19 := congrArg Int32.toInt p1v19
  try simp only [e4, e5, e6, e7, e8, e9, e10, e31, e33, e35, e37] at p2v19
  try have q2v19 := congrArg Int32.toInt p2v19
  try simp only [e4, e5, e6, e7, e8, e9, e10, e31, e33, e35, e37] at p3v19
  try have q3v19 := congrArg Int32.toInt p3v19
  have h6 := p0v19
  have h7 := p1v19
  have h8 := p2v19
  have h9 := p3v19
  refine k_aload_n C rfl rfl rfl ?_
  refine k_aload_n C rfl rfl rfl ?_
  refine c_VI C (a_X12_detNow_e hI20 H_r0) rfl rfl rfl rfl rfl ⟨_, rfl, rfl, T_r0, Nat.le_of_ble_eq_true rfl⟩ rfl rfl (Nat.le_of_ble_eq_true rfl) (Nat.le_of_ble_eq_true rfl) (Nat.le_of_ble_eq_true rfl) ?_
  rintro x38 _ _ ⟨o0x38, o1x38, p0x38, rfl, rfl⟩
  have p0x38 := p0x38 r0_1 R_r0_1
  have gx38 := rg x38
  try simp only [e23, e24, e25, e26, e27, e28, e29, e31, e33, e35, e37] at p0x38
  try have q0x38 := congrArg Int32.toInt p0x38
  have hdt := DTN.r (u := n1.toInt) (v := n2.toInt) (w := n3.toInt) (z := n4.toInt) p0x38 (by omega) (by omega) (by omega) (by omega)
  refine b_if_ne C (t := 46) rfl rfl rfl (fun c39 => ?_) (fun c39 => ?_)
  · skip
    first | (replace p0x18 := p0x18.resolve_left (by omega)) | (replace p0x18 := p0x18.resolve_right (by omega)) | (replace p0x18 := p0x18 (by omega)) | (have hno := imp_no p0x18 (by omega); clear hno; clear p0x18) | skip
    first | (replace p1x18 := p1x18.resolve_left (by omega)) | (replace p1x18 := p1x18.resolve_right (by omega)) | (replace p1x18 := p1x18 (by omega)) | (have hno := imp_no p1x18 (by omega); clear hno; clear p1x18) | skip
    first | (replace p0x38 := p0x38.resolve_left (by omega)) | (replace p0x38 := p0x38.resolve_right (by omega)) | (replace p0x38 := p0x38 (by omega)) | (have hno := imp_no p0x38 (by omega); clear hno; clear p0x38) | skip
    refine z_iconst C (z := 0) rfl rfl rfl (fun x40 ex40 => ?_)
    refine z_iconst C (z := 1) rfl rfl rfl (fun x41 ex41 => ?_)
    have q42 : x40.toNatClampNeg = 0 := nck (by omega)
    have q43 : x41.toNatClampNeg = 1 := nck (by omega)
    refine c_VI C (a_X12_throwsIf_e hI20 H_r0 (by omega) (by omega)) rfl rfl rfl rfl rfl ⟨_, rfl, rfl, T_r0, Nat.le_of_ble_eq_true rfl⟩ rfl rfl (Nat.le_of_ble_eq_true rfl) (Nat.le_of_ble_eq_true rfl) (Nat.le_of_ble_eq_true rfl) ?_
    rintro x44 I45 L46 ⟨o0x44, o1x44, p0x44, p1x44, hI45, S47⟩
    have e48 := CM.j S47 R_r0_1 (by decide) e23
    have e49 := CM.j S47 R_r0_1 (by decide) e24
    have e50 := CM.j S47 R_r0_1 (by decide) e25
    have e51 := CM.j S47 R_r0_1 (by decide) e26
    have e52 := CM.j S47 R_r0_1 (by decide) e27
    have e53 := CM.j S47 R_r0_1 (by decide) e28
    have e55 := CM.k S47 (by decide) e31
    have e56 := CM.k S47 (by decide) e33
    have e57 := CM.k S47 (by decide) e35
    have e58 := CM.k S47 (by decide) e37
    have gx44 := rg x44
    obtain ⟨x59, e60⟩ : ∃ x, I45 r0 0 = x := ⟨_, rfl⟩
    have gx59 := rg x59
    try simp only [q42, q43, e23, e24, e25, e26, e27, e28, e29, e31, e33, e35, e37, e60] at p0x44
    try have q0x44 := congrArg Int32.toInt p0x44
    try simp only [q42, q43, e23, e24, e25, e26, e27, e28, e29, e31, e33, e35, e37, e60] at p1x44
    try have q1x44 := congrArg Int32.toInt p1x44
    refine b_if_ne C (t := 78) rfl rfl rfl (fun c61 => by exfalso; omega) (fun c61 => ?_)
    first | (replace p0x38 := p0x38.resolve_left (by omega)) | (replace p0x38 := p0x38.resolve_right (by omega)) | (replace p0x38 := p0x38 (by omega)) | (have hno := imp_no p0x38 (by omega); clear hno; clear p0x38) | skip
    first | (replace p0x44 := p0x44.resolve_left (by omega)) | (replace p0x44 := p0x44.resolve_right (by omega)) | (replace p0x44 := p0x44 (by omega)) | (have hno := imp_no p0x44 (by omega); clear hno; clear p0x44) | skip
    first | (replace p1x44 := p1x44.resolve_left (by omega)) | (replace p1x44 := p1x44.resolve_right (by omega)) | (replace p1x44 := p1x44 (by omega)) | (have hno := imp_no p1x44 (by omega); clear hno; clear p1x44) | skip
    refine k_aload_n C rfl rfl rfl ?_
    refine k_aload_n C rfl rfl rfl ?_
    refine g_R C rfl rfl rfl T_r0 rfl R_r0_1 ?_
    refine z_iconst C (z := 2) rfl rfl rfl (fun x62 ex62 => ?_)
    obtain ⟨T_r0_1, N_r0_1, A_r0_1⟩ := id H_r0_1
    refine a_I C rfl rfl T_r0_1 (by rw [N_r0_1]; exact vpi (by omega) (by omega)) ((congrArg (I45 r0_1) (nck (n := 2) (by omega))).trans e50) ?_
    refine z_bipush C (z := 8) rfl rfl rfl (fun x63 ex63 => ?_)
    refine b_icmp_ne C (t := 70) rfl rfl rfl (fun c64 => ?_) (fun c64 => ?_)
    · skip
      first | (replace p0x44 := p0x44.resolve_left (by omega)) | (replace p0x44 := p0x44.resolve_right (by omega)) | (replace p0x44 := p0x44 (by omega)) | (have hno := imp_no p0x44 (by omega); clear hno; clear p0x44) | skip
      first | (replace p1x44 := p1x44.resolve_left (by omega)) | (replace p1x44 := p1x44.resolve_right (by omega)) | (replace p1x44 := p1x44 (by omega)) | (have hno := imp_no p1x44 (by omega); clear hno; clear p1x44) | skip
      refine z_iconst C (z := 0) rfl rfl rfl (fun x65 ex65 => ?_)
      refine z_iconst C (z := 2) rfl rfl rfl (fun x66 ex66 => ?_)
      have q67 : x65.toNatClampNeg = 0 := nck (by omega)
      have q68 : x66.toNatClampNeg = 2 := nck (by omega)
      refine c_VI C (a_X12_throwsIf_e hI45 H_r0 (by omega) (by omega)) rfl rfl rfl rfl rfl ⟨_, rfl, rfl, T_r0, Nat.le_of_ble_eq_true rfl⟩ rfl rfl (Nat.le_of_ble_eq_true rfl) (Nat.le_of_ble_eq_true rfl) (Nat.le_of_ble_eq_true rfl) ?_
      rintro x69 I70 L71 ⟨o0x69, o1x69, p0x69, p1x69, hI70, S72⟩
      have e73 := CM.j S72 R_r0_1 (by decide) e48
      have e74 := CM.j S72 R_r0_1 (by decide) e49
      have e75 := CM.j S72 R_r0_1 (by decide) e50
      have e76 := CM.j S72 R_r0_1 (by decide) e51
      have e77 := CM.j S72 R_r0_1 (by decide) e52
      have e78 := CM.j S72 R_r0_1 (by decide) e53
      have e79 := CM.k S72 (by decide) e55
      have e80 := CM.k S72 (by decide) e56
      have e81 := CM.k S72 (by decide) e57
      have e82 := CM.k S72 (by decide) e58
      have gx69 := rg x69
      obtain ⟨x84, e85⟩ : ∃ x, I70 r0 0 = x := ⟨_, rfl⟩
      have gx84 := rg x84
      try simp only [q67, q68, e48, e49, e50, e51, e52, e53, e55, e56, e57, e58, e60, e85] at p0x69
      try have q0x69 := congrArg Int32.toInt p0x69
      try simp only [q67, q68, e48, e49, e50, e51, e52, e53, e55, e56, e57, e58, e60, e85] at p1x69
      try have q1x69 := congrArg Int32.toInt p1x69
      refine b_if_eq C (t := 82) rfl rfl rfl (fun c86 => ?_) (fun c86 => by exfalso; omega)
      first | (replace p0x69 := p0x69.resolve_left (by omega)) | (replace p0x69 := p0x69.resolve_right (by omega)) | (replace p0x69 := p0x69 (by omega)) | (have hno := imp_no p0x69 (by omega); clear hno; clear p0x69) | skip
      first | (replace p1x69 := p1x69.resolve_left (by omega)) | (replace p1x69 := p1x69.resolve_right (by omega)) | (replace p1x69 := p1x69 (by omega)) | (have hno := imp_no p1x69 (by omega); clear hno; clear p1x69) | skip
      refine k_aload_n C rfl rfl rfl ?_
      have hw83 := CM.j0 (W := [0, 6, 7, 8, 9]) (WA := []) (CM.cons S3 (CM.cons S22 (CM.cons S47 (CM.mono S72 (by decide) (by decide)) (by decide) (by decide)) (by decide) (by decide)) (by decide) (by decide)) R_r0_1 (by decide)
      refine c_VI C (a_X12_lays_x hI70 H_r0 (fun a1 h1 => by cases (R_r0_1.symm.trans h1); first | omega | (simp only [e73, e74, e75, e76, e77, e78, e79, e80, e81, e82, e85, and_true, true_and, or_true, true_or, and_false, false_and, or_false, false_or] <;> omega))) rfl rfl rfl rfl rfl ⟨_, rfl, rfl, T_r0, Nat.le_of_ble_eq_true rfl⟩ rfl rfl (Nat.le_of_ble_eq_true rfl) (Nat.le_of_ble_eq_true rfl) (Nat.le_of_ble_eq_true rfl) ?_
      rintro x87 I88 L89 ⟨o0x87, o1x87, p0x87, p1x87, p2x87, p3x87, p4x87, hI88, S90⟩
      have p0x87 := p0x87 r0_1 R_r0_1
      have p1x87 := p1x87 r0_1 R_r0_1
      have p2x87 := p2x87 r0_1 R_r0_1
      have p3x87 := p3x87 r0_1 R_r0_1
      have p4x87 := p4x87 r0_1 R_r0_1
      have F91 : ∀ r : Nat, r ≠ 2 ∧ r < 166 → I88 r0_1 r = I70 r0_1 r := fun r z0 => p4x87 r z0
      have e92 := (p4x87 0 (by decide)).trans e73
      have e93 := (p4x87 1 (by decide)).trans e74
      have e95 := (p4x87 3 (by decide)).trans e76
      have e96 := (p4x87 4 (by decide)).trans e77
      have e97 := (p4x87 5 (by decide)).trans e78
      have e98 := CM.k S90 (by decide) e79
      have e99 := CM.k S90 (by decide) e80
      have e100 := CM.k S90 (by decide) e81
      have e101 := CM.k S90 (by decide) e82
      have e102 := CM.k S90 (by decide) e85
      have gx87 := rg x87
      obtain ⟨x103, e104⟩ : ∃ x, I88 r0_1 2 = x := ⟨_, rfl⟩
      have gx103 := rg x103
      have ox103 := IM.c2 hI88 R_r0_1 e104
      try simp only [e73, e74, e75, e76, e77, e78, e79, e80, e81, e82, e85, e104] at p0x87
      try have q0x87 := congrArg Int32.toInt p0x87
      try simp only [e73, e74, e75, e76, e77, e78, e79, e80, e81, e82, e85, e104] at p1x87
      try have q1x87 := congrArg Int32.toInt p1x87
      try simp only [e73, e74, e75, e76, e77, e78, e79, e80, e81, e82, e85, e104] at p2x87
      try have q2x87 := congrArg Int32.toInt p2x87
      try simp only [e73, e74, e75, e76, e77, e78, e79, e80, e81, e82, e85, e104] at p3x87
      try have q3x87 := congrArg Int32.toInt p3x87
      have hTW := p3x87
      exact k_iret C rfl (Or.inl rfl) (Nat.le_of_ble_eq_true rfl) (Nat.le_of_ble_eq_true rfl) ⟨_, _, _, rfl, rfl, by omega, by omega, fun a1 h1 => by cases (R_r0_1.symm.trans h1); first | omega | (simp only [e92, e93, e95, e96, e97, e98, e99, e100, e101, e102, e104, k0_r0_1_0, k0_r0_1_1, k0_r0_1_2, k0_r0_1_3, k0_r0_1_4, k0_r0_1_5, and_true, true_and, or_true, true_or, and_false, false_and, or_false, false_or] <;> omega), fun a1 h1 => by cases (R_r0_1.symm.trans h1); simp only [e92, e93, e95, e96, e97, e98, e99, e100, e101, e102, e104, k0_r0_1_0, k0_r0_1_1, k0_r0_1_2, k0_r0_1_3, k0_r0_1_4, k0_r0_1_5, k0_r0_1_0, k0_r0_1_2]; rw [← hdt]; unfold TBD; omega, fun a1 h1 => by cases (R_r0_1.symm.trans h1); simp only [k0_r0_1_0]; first | exact TBX.n (by rw [e102]; omega) (CM.j0 (W := [0, 6, 7, 8, 9]) (WA := []) (CM.cons S3 (CM.cons S22 (CM.cons S47 (CM.cons S72 (CM.mono S90 (by decide) (by decide)) (by decide) (by decide)) (by decide) (by decide)) (by decide) (by decide)) (by decide) (by decide)) R_r0_1 (by decide)) | exact TBX.y (by rw [e102]; omega) hw83 hTW (by omega) (by omega) (by omega) (by omega), fun a1 h1 => by cases (R_r0_1.symm.trans h1); exact (fun r z0 => ((F91 r z0).trans ((congrFun (CM.j0 S72 R_r0_1 (by decide)) r).trans ((congrFun (CM.j0 S47 R_r0_1 (by decide)) r).trans ((congrFun (CM.j0 S22 R_r0_1 (by decide)) r).trans (congrFun (CM.j0 S3 R_r0_1 (by decide)) r)))))), hI88, (CM.cons S3 (CM.cons S22 (CM.cons S47 (CM.cons S72 (CM.mono S90 (by decide) (by decide)) (by decide) (by decide)) (by decide) (by decide)) (by decide) (by decide)) (by decide) (by decide))⟩
    first | (replace p0x44 := p0x44.resolve_left (by omega)) | (replace p0x44 := p0x44.resolve_right (by omega)) | (replace p0x44 := p0x44 (by omega)) | (have hno := imp_no p0x44 (by omega); clear hno; clear p0x44) | skip
    first | (replace p1x44 := p1x44.resolve_left (by omega)) | (replace p1x44 := p1x44.resolve_right (by omega)) | (replace p1x44 := p1x44 (by omega)) | (have hno := imp_no p1x44 (by omega); clear hno; clear p1x44) | skip
    refine z_iconst C (z := 1) rfl rfl rfl (fun x105 ex105 => ?_)
    refine k_goto C (pc2 := 71) rfl rfl ?_
    refine z_iconst C (z := 2) rfl rfl rfl (fun x106 ex106 => ?_)
    have q107 : x105.toNatClampNeg = 1 := nck (by omega)
    have q108 : x106.toNatClampNeg = 2 := nck (by omega)
    refine c_VI C (a_X12_throwsIf_e hI45 H_r0 (by omega) (by omega)) rfl rfl rfl rfl rfl ⟨_, rfl, rfl, T_r0, Nat.le_of_ble_eq_true rfl⟩ rfl rfl (Nat.le_of_ble_eq_true rfl) (Nat.le_of_ble_eq_true rfl) (Nat.le_of_ble_eq_true rfl) ?_
    rintro x109 I110 L111 ⟨o0x109, o1x109, p0x109, p1x109, hI110, S112⟩
    have e113 := CM.j S112 R_r0_1 (by decide) e48
    have e114 := CM.j S112 R_r0_1 (by decide) e49
    have e115 := CM.j S112 R_r0_1 (by decide) e50
    have e116 := CM.j S112 R_r0_1 (by decide) e51
    have e117 := CM.j S112 R_r0_1 (by decide) e52
    have e118 := CM.j S112 R_r0_1 (by decide) e53
    have e119 := CM.k S112 (by decide) e55
    have e120 := CM.k S112 (by decide) e56
    have e121 := CM.k S112 (by decide) e57
    have e122 := CM.k S112 (by decide) e58
    have gx109 := rg x109
    obtain ⟨x124, e125⟩ : ∃ x, I110 r0 0 = x := ⟨_, rfl⟩
    have gx124 := rg x124
    try simp only [q107, q108, e48, e49, e50, e51, e52, e53, e55, e56, e57, e58, e60, e125] at p0x109
    try have q0x109 := congrArg Int32.toInt p0x109
    try simp only [q107, q108, e48, e49, e50, e51, e52, e53, e55, e56, e57, e58, e60, e125] at p1x109
    try have q1x109 := congrArg Int32.toInt p1x109
    refine b_if_eq C (t := 82) rfl rfl rfl (fun c126 => by exfalso; omega) (fun c126 => ?_)
    first | (replace p0x109 := p0x109.resolve_left (by omega)) | (replace p0x109 := p0x109.resolve_right (by omega)) | (replace p0x109 := p0x109 (by omega)) | (have hno := imp_no p0x109 (by omega); clear hno; clear p0x109) | skip
    first | (replace p1x109 := p1x109.resolve_left (by omega)) | (replace p1x109 := p1x109.resolve_right (by omega)) | (replace p1x109 := p1x109 (by omega)) | (have hno := imp_no p1x109 (by omega); clear hno; clear p1x109) | skip
    refine z_iconst C (z := 0) rfl rfl rfl (fun x127 ex127 => ?_)
    refine k_goto C (pc2 := 86) rfl rfl ?_
    exact k_iret C rfl (Or.inl rfl) (Nat.le_of_ble_eq_true rfl) (Nat.le_of_ble_eq_true rfl) ⟨_, _, _, rfl, rfl, by omega, by omega, fun a1 h1 => by cases (R_r0_1.symm.trans h1); first | omega | (simp only [e113, e114, e115, e116, e117, e118, e119, e120, e121, e122, e125, k0_r0_1_0, k0_r0_1_1, k0_r0_1_2, k0_r0_1_3, k0_r0_1_4, k0_r0_1_5, and_true, true_and, or_true, true_or, and_false, false_and, or_false, false_or] <;> omega), fun a1 h1 => by cases (R_r0_1.symm.trans h1); simp only [e113, e114, e115, e116, e117, e118, e119, e120, e121, e122, e125, k0_r0_1_0, k0_r0_1_1, k0_r0_1_2, k0_r0_1_3, k0_r0_1_4, k0_r0_1_5, k0_r0_1_0, k0_r0_1_2]; rw [← hdt]; unfold TBD; omega, fun a1 h1 => by cases (R_r0_1.symm.trans h1); simp only [k0_r0_1_0]; first | exact TBX.n (by rw [e125]; omega) (CM.j0 (W := [0, 6, 7, 8, 9]) (WA := []) (CM.cons S3 (CM.cons S22 (CM.cons S47 (CM.mono S112 (by decide) (by decide)) (by decide) (by decide)) (by decide) (by decide)) (by decide) (by decide)) R_r0_1 (by decide)) | exact TBX.y (by rw [e125]; omega) hw83 hTW (by omega) (by omega) (by omega) (by omega), fun a1 h1 => by cases (R_r0_1.symm.trans h1); exact (fun r z0 => ((congrFun (CM.j0 S112 R_r0_1 (by decide)) r).trans ((congrFun (CM.j0 S47 R_r0_1 (by decide)) r).trans ((congrFun (CM.j0 S22 R_r0_1 (by decide)) r).trans (congrFun (CM.j0 S3 R_r0_1 (by decide)) r))))), hI110, (CM.cons S3 (CM.cons S22 (CM.cons S47 (CM.mono S112 (by decide) (by decide)) (by decide) (by decide)) (by decide) (by decide)) (by decide) (by decide))⟩
  first | (replace p0x18 := p0x18.resolve_left (by omega)) | (replace p0x18 := p0x18.resolve_right (by omega)) | (replace p0x18 := p0x18 (by omega)) | (have hno := imp_no p0x18 (by omega); clear hno; clear p0x18) | skip
  first | (replace p1x18 := p1x18.resolve_left (by omega)) | (replace p1x18 := p1x18.resolve_right (by omega)) | (replace p1x18 := p1x18 (by omega)) | (have hno := imp_no p1x18 (by omega); clear hno; clear p1x18) | skip
  first | (replace p0x38 := p0x38.resolve_left (by omega)) | (replace p0x38 := p0x38.resolve_right (by omega)) | (replace p0x38 := p0x38 (by omega)) | (have hno := imp_no p0x38 (by omega); clear hno; clear p0x38) | skip
  refine z_iconst C (z := 1) rfl rfl rfl (fun x128 ex128 => ?_)
  refine k_goto C (pc2 := 47) rfl rfl ?_
  refine z_iconst C (z := 1) rfl rfl rfl (fun x129 ex129 => ?_)
  have q130 : x128.toNatClampNeg = 1 := nck (by omega)
  have q131 : x129.toNatClampNeg = 1 := nck (by omega)
  refine c_VI C (a_X12_throwsIf_e hI20 H_r0 (by omega) (by omega)) rfl rfl rfl rfl rfl ⟨_, rfl, rfl, T_r0, Nat.le_of_ble_eq_true rfl⟩ rfl rfl (Nat.le_of_ble_eq_true rfl) (Nat.le_of_ble_eq_true rfl) (Nat.le_of_ble_eq_true rfl) ?_
  rintro x132 I133 L134 ⟨o0x132, o1x132, p0x132, p1x132, hI133, S135⟩
  have e136 := CM.j S135 R_r0_1 (by decide) e23
  have e137 := CM.j S135 R_r0_1 (by decide) e24
  have e138 := CM.j S135 R_r0_1 (by decide) e25
  have e139 := CM.j S135 R_r0_1 (by decide) e26
  have e140 := CM.j S135 R_r0_1 (by decide) e27
  have e141 := CM.j S135 R_r0_1 (by decide) e28
  have e143 := CM.k S135 (by decide) e31
  have e144 := CM.k S135 (by decide) e33
  have e145 := CM.k S135 (by decide) e35
  have e146 := CM.k S135 (by decide) e37
  have gx132 := rg x132
  obtain ⟨x147, e148⟩ : ∃ x, I133 r0 0 = x := ⟨_, rfl⟩
  have gx147 := rg x147
  try simp only [q130, q131, e23, e24, e25, e26, e27, e28, e29, e31, e33, e35, e37, e148] at p0x132
  try have q0x132 := congrArg Int32.toInt p0x132
  try simp only [q130, q131, e23, e24, e25, e26, e27, e28, e29, e31, e33, e35, e37, e148] at p1x132
  try have q1x132 := congrArg Int32.toInt p1x132
  refine b_if_ne C (t := 78) rfl rfl rfl (fun c149 => ?_) (fun c149 => by exfalso; omega)
  first | (replace p0x132 := p0x132.resolve_left (by omega)) | (replace p0x132 := p0x132.resolve_right (by omega)) | (replace p0x132 := p0x132 (by omega)) | (have hno := imp_no p0x132 (by omega); clear hno; clear p0x132) | skip
  first | (replace p1x132 := p1x132.resolve_left (by omega)) | (replace p1x132 := p1x132.resolve_right (by omega)) | (replace p1x132 := p1x132 (by omega)) | (have hno := imp_no p1x132 (by omega); clear hno; clear p1x132) | skip
  refine z_iconst C (z := 0) rfl rfl rfl (fun x150 ex150 => ?_)
  refine k_goto C (pc2 := 86) rfl rfl ?_
  exact k_iret C rfl (Or.inl rfl) (Nat.le_of_ble_eq_true rfl) (Nat.le_of_ble_eq_true rfl) ⟨_, _, _, rfl, rfl, by omega, by omega, fun a1 h1 => by cases (R_r0_1.symm.trans h1); first | omega | (simp only [e136, e137, e138, e139, e140, e141, e143, e144, e145, e146, e148, k0_r0_1_0, k0_r0_1_1, k0_r0_1_2, k0_r0_1_3, k0_r0_1_4, k0_r0_1_5, and_true, true_and, or_true, true_or, and_false, false_and, or_false, false_or] <;> omega), fun a1 h1 => by cases (R_r0_1.symm.trans h1); simp only [e136, e137, e138, e139, e140, e141, e143, e144, e145, e146, e148, k0_r0_1_0, k0_r0_1_1, k0_r0_1_2, k0_r0_1_3, k0_r0_1_4, k0_r0_1_5, k0_r0_1_0, k0_r0_1_2]; rw [← hdt]; unfold TBD; omega, fun a1 h1 => by cases (R_r0_1.symm.trans h1); simp only [k0_r0_1_0]; first | exact TBX.n (by rw [e148]; omega) (CM.j0 (W := [0, 6, 7, 8, 9]) (WA := []) (CM.cons S3 (CM.cons S22 (CM.mono S135 (by decide) (by decide)) (by decide) (by decide)) (by decide) (by decide)) R_r0_1 (by decide)) | exact TBX.y (by rw [e148]; omega) hw83 hTW (by omega) (by omega) (by omega) (by omega), fun a1 h1 => by cases (R_r0_1.symm.trans h1); exact (fun r z0 => ((congrFun (CM.j0 S135 R_r0_1 (by decide)) r).trans ((congrFun (CM.j0 S22 R_r0_1 (by decide)) r).trans (congrFun (CM.j0 S3 R_r0_1 (by decide)) r)))), hI133, (CM.cons S3 (CM.cons S22 (CM.mono S135 (by decide) (by decide)) (by decide) (by decide)) (by decide) (by decide))⟩

set_option maxHeartbeats 8000000 in
theorem a_X12_join_x {d : Nat} {T N : Nat → Nat} {I : IT} {L : LT} {R : RT} {A : Nat → Prop} {r0 : Nat} {n1 n2 : Int32} (hI : IM R r0 I) (H_r0 : (h_MD T N R A) r0) : Ex (d + 3) 236 [.ref r0, .int n1, .int n2] (T, N, I, L, R) 0 0 (pI T N R (fun x9 I9 L9 => (-1 ≤ x9.toInt) ∧ (x9.toInt ≤ 7) ∧ (∀ a1, R r0 1 = some a1 → (I a1 4).toInt + (I a1 5).toInt ≤ 40 → (I9 a1 4).toInt + (I9 a1 5).toInt ≤ 40) ∧ (∀ a1, R r0 1 = some a1 → (n1.toInt < 0 ∨ (I a1 2).toInt ≤ n1.toInt ∨ n2.toInt < 0 ∨ (I a1 2).toInt ≤ n2.toInt) ∧ (I9 r0 0).toInt = 1 ∧ (I9 a1 2).toInt = (I a1 2).toInt ∨ ¬ (n1.toInt < 0 ∨ (I a1 2).toInt ≤ n1.toInt ∨ n2.toInt < 0 ∨ (I a1 2).toInt ≤ n2.toInt) ∧ (I a1 2).toInt = 8 ∧ (I9 r0 0).toInt = 2 ∧ (I9 a1 2).toInt = (I a1 2).toInt ∨ ¬ (n1.toInt < 0 ∨ (I a1 2).toInt ≤ n1.toInt ∨ n2.toInt < 0 ∨ (I a1 2).toInt ≤ n2.toInt) ∧ (I a1 2).toInt < 8 ∧ (I9 r0 0).toInt = 0 ∧ x9.toInt = (I a1 2).toInt ∧ (I9 a1 2).toInt = (I a1 2).toInt + 1) ∧ (∀ a1, R r0 1 = some a1 → TBj (I9 a1) (I a1) (I9 r0 0).toInt n1.toNatClampNeg n2.toNatClampNeg) ∧ (∀ a1, R r0 1 = some a1 → ∀ r : Nat, r ≠ 2 ∧ r < 166 → I9 a1 r = I a1 r) ∧ (IM R r0 I9 ∧ CM A R r0 [0, 6, 7, 8, 9] [1] I L I9 L9))) := by
  refine ⟨_, rfl, Nat.le_of_ble_eq_true rfl, fun V C S => ?_⟩
  show V 0 [(0, .ref r0), (1, .int n1), (2, .int n2)] [] (T, N, I, L, R) 0 0
  have gn1 := rg n1
  have gn2 := rg n2
  obtain ⟨T_r0, A_r0, ⟨r0_1, R_r0_1, H_r0_1⟩, ⟨r0_2, R_r0_2, H_r0_2⟩, ⟨r0_4, R_r0_4, H_r0_4⟩, ⟨r0_5, R_r0_5, H_r0_5⟩, ⟨r0_10, R_r0_10, H_r0_10⟩, ⟨r0_18, R_r0_18, H_r0_18⟩, ⟨r0_20, R_r0_20, H_r0_20⟩, ⟨r0_21, R_r0_21, H_r0_21⟩, ⟨r0_22, R_r0_22, H_r0_22⟩, ⟨r0_23, R_r0_23, H_r0_23⟩, ⟨r0_25, R_r0_25, H_r0_25⟩, ⟨r0_26, R_r0_26, H_r0_26⟩, ⟨r0_27, R_r0_27, H_r0_27⟩, ⟨r0_28, R_r0_28, H_r0_28⟩, ⟨r0_34, R_r0_34, H_r0_34⟩, J_r0, Y_r0⟩ := id H_r0
  have G_r0 : mF T R r0 := ⟨J_r0, Y_r0, T_r0⟩
  obtain ⟨w_r0_1_0, k0_r0_1_0⟩ : ∃ x, I r0_1 0 = x := ⟨_, rfl⟩
  have gw_r0_1_0 := rg w_r0_1_0
  have ow_r0_1_0 := IM.pi hI R_r0_1 k0_r0_1_0
  obtain ⟨w_r0_1_1, k0_r0_1_1⟩ : ∃ x, I r0_1 1 = x := ⟨_, rfl⟩
  have gw_r0_1_1 := rg w_r0_1_1
  have ow_r0_1_1 := IM.c1 hI R_r0_1 k0_r0_1_1
  obtain ⟨w_r0_1_2, k0_r0_1_2⟩ : ∃ x, I r0_1 2 = x := ⟨_, rfl⟩
  have gw_r0_1_2 := rg w_r0_1_2
  have ow_r0_1_2 := IM.c2 hI R_r0_1 k0_r0_1_2
  obtain ⟨w_r0_1_3, k0_r0_1_3⟩ : ∃ x, I r0_1 3 = x := ⟨_, rfl⟩
  have gw_r0_1_3 := rg w_r0_1_3
  have ow_r0_1_3 := IM.c3 hI R_r0_1 k0_r0_1_3
  obtain ⟨w_r0_1_4, k0_r0_1_4⟩ : ∃ x, I r0_1 4 = x := ⟨_, rfl⟩
  have gw_r0_1_4 := rg w_r0_1_4
  have ow_r0_1_4 := IM.c4 hI R_r0_1 k0_r0_1_4
  obtain ⟨w_r0_1_5, k0_r0_1_5⟩ : ∃ x, I r0_1 5 = x := ⟨_, rfl⟩
  have gw_r0_1_5 := rg w_r0_1_5
  have ow_r0_1_5 := IM.c5 hI R_r0_1 k0_r0_1_5
  refine k_aload_n C rfl rfl rfl ?_
  refine z_iconst C (z := 0) rfl rfl rfl (fun x1 ex1 => ?_)
  refine z_pI C rfl rfl rfl T_r0 (Or.inr rfl) rfl (fun I2 uI2 => ?_)
  have hI2 : IM R r0 I2 := IM.fld hI G_r0 ⟨(fun h => absurd h (by decide)), (fun h => absurd h (by decide)), (fun h => absurd h (by decide)), (fun h => absurd h (by decide)), (fun h => absurd h (by decide))⟩ uI2
  have S3 : CM A R r0 [0] [] I L I2 L := CM.f G_r0 A_r0 uI2
  have e4 := u2_n uI2 (mF.ne G_r0 R_r0_1) k0_r0_1_0
  have e5 := u2_n uI2 (mF.ne G_r0 R_r0_1) k0_r0_1_1
  have e6 := u2_n uI2 (mF.ne G_r0 R_r0_1) k0_r0_1_2
  have e7 := u2_n uI2 (mF.ne G_r0 R_r0_1) k0_r0_1_3
  have e8 := u2_n uI2 (mF.ne G_r0 R_r0_1) k0_r0_1_4
  have e9 := u2_n uI2 (mF.ne G_r0 R_r0_1) k0_r0_1_5
  have e10 := u2_e uI2
  refine k_aload_n C rfl rfl rfl ?_
  refine k_aload_n C rfl rfl rfl ?_
  refine k_iload_n C rfl rfl rfl ?_
  refine c_VI C (a_X12_noTable_e hI2 H_r0) rfl rfl rfl rfl rfl ⟨_, rfl, rfl, T_r0, Nat.le_of_ble_eq_true rfl⟩ rfl rfl (Nat.le_of_ble_eq_true rfl) (Nat.le_of_ble_eq_true rfl) (Nat.le_of_ble_eq_true rfl) ?_
  rintro x11 _ _ ⟨o0x11, o1x11, p0x11, rfl, rfl⟩
  have p0x11 := p0x11 r0_1 R_r0_1
  have gx11 := rg x11
  try simp only [e4, e5, e6, e7, e8, e9, e10, e6] at p0x11
  try have q0x11 := congrArg Int32.toInt p0x11
  refine b_if_ne C (t := 22) rfl rfl rfl (fun c12 => ?_) (fun c12 => ?_)
  · skip
    first | (replace p0x11 := p0x11.resolve_left (by omega)) | (replace p0x11 := p0x11.resolve_right (by omega)) | (replace p0x11 := p0x11 (by omega)) | (have hno := imp_no p0x11 (by omega); clear hno; clear p0x11) | skip
    refine z_iconst C (z := 1) rfl rfl rfl (fun x13 ex13 => ?_)
    refine k_goto C (pc2 := 27) rfl rfl ?_
    refine z_iconst C (z := 1) rfl rfl rfl (fun x14 ex14 => ?_)
    have q15 : x13.toNatClampNeg = 1 := nck (by omega)
    have q16 : x14.toNatClampNeg = 1 := nck (by omega)
    refine c_VI C (a_X12_throwsIf_e hI2 H_r0 (by omega) (by omega)) rfl rfl rfl rfl rfl ⟨_, rfl, rfl, T_r0, Nat.le_of_ble_eq_true rfl⟩ rfl rfl (Nat.le_of_ble_eq_true rfl) (Nat.le_of_ble_eq_true rfl) (Nat.le_of_ble_eq_true rfl) ?_
    rintro x17 I18 L19 ⟨o0x17, o1x17, p0x17, p1x17, hI18, S20⟩
    have e21 := CM.j S20 R_r0_1 (by decide) e4
    have e22 := CM.j S20 R_r0_1 (by decide) e5
    have e23 := CM.j S20 R_r0_1 (by decide) e6
    have e24 := CM.j S20 R_r0_1 (by decide) e7
    have e25 := CM.j S20 R_r0_1 (by decide) e8
    have e26 := CM.j S20 R_r0_1 (by decide) e9
    have gx17 := rg x17
    obtain ⟨x28, e29⟩ : ∃ x, I18 r0 0 = x := ⟨_, rfl⟩
    have gx28 := rg x28
    try simp only [q15, q16, e4, e5, e6, e7, e8, e9, e10, e29] at p0x17
    try have q0x17 := congrArg Int32.toInt p0x17
    try simp only [q15, q16, e4, e5, e6, e7, e8, e9, e10, e29] at p1x17
    try have q1x17 := congrArg Int32.toInt p1x17
    refine b_if_ne C (t := 58) rfl rfl rfl (fun c30 => ?_) (fun c30 => by exfalso; omega)
    first | (replace p0x11 := p0x11.resolve_left (by omega)) | (replace p0x11 := p0x11.resolve_right (by omega)) | (replace p0x11 := p0x11 (by omega)) | (have hno := imp_no p0x11 (by omega); clear hno; clear p0x11) | skip
    first | (replace p0x17 := p0x17.resolve_left (by omega)) | (replace p0x17 := p0x17.resolve_right (by omega)) | (replace p0x17 := p0x17 (by omega)) | (have hno := imp_no p0x17 (by omega); clear hno; clear p0x17) | skip
    first | (replace p1x17 := p1x17.resolve_left (by omega)) | (replace p1x17 := p1x17.resolve_right (by omega)) | (replace p1x17 := p1x17 (by omega)) | (have hno := imp_no p1x17 (by omega); clear hno; clear p1x17) | skip
    refine z_iconst C (z := 0) rfl rfl rfl (fun x31 ex31 => ?_)
    exact k_iret C rfl (Or.inl rfl) (Nat.le_of_ble_eq_true rfl) (Nat.le_of_ble_eq_true rfl) ⟨_, _, _, rfl, rfl, by omega, by omega, fun a1 h1 => by cases (R_r0_1.symm.trans h1); first | omega | (simp only [e21, e22, e23, e24, e25, e26, e29, k0_r0_1_0, k0_r0_1_1, k0_r0_1_2, k0_r0_1_3, k0_r0_1_4, k0_r0_1_5, and_true, true_and, or_true, true_or, and_false, false_and, or_false, false_or] <;> omega), fun a1 h1 => by cases (R_r0_1.symm.trans h1); first | omega | (simp only [e21, e22, e23, e24, e25, e26, e29, k0_r0_1_0, k0_r0_1_1, k0_r0_1_2, k0_r0_1_3, k0_r0_1_4, k0_r0_1_5, and_true, true_and, or_true, true_or, and_false, false_and, or_false, false_or] <;> omega), fun a1 h1 => by cases (R_r0_1.symm.trans h1); unfold TBj; simp only [k0_r0_1_0]; exact TBX.n (by rw [e29]; omega) (CM.j0 (W := [0, 6, 7, 8, 9]) (WA := []) (CM.cons S3 (CM.mono S20 (by decide) (by decide)) (by decide) (by decide)) R_r0_1 (by decide)), fun a1 h1 => by cases (R_r0_1.symm.trans h1); exact (fun r z0 => ((congrFun (CM.j0 S20 R_r0_1 (by decide)) r).trans (congrFun (CM.j0 S3 R_r0_1 (by decide)) r))), hI18, (CM.cons S3 (CM.mono S20 (by decide) (by decide)) (by decide) (by decide))⟩
  first | (replace p0x11 := p0x11.resolve_left (by omega)) | (replace p0x11 := p0x11.resolve_right (by omega)) | (replace p0x11 := p0x11 (by omega)) | (have hno := imp_no p0x11 (by omega); clear hno; clear p0x11) | skip
  refine k_aload_n C rfl rfl rfl ?_
  refine k_iload_n C rfl rfl rfl ?_
  refine c_VI C (a_X12_noTable_e hI2 H_r0) rfl rfl rfl rfl rfl ⟨_, rfl, rfl, T_r0, Nat.le_of_ble_eq_true rfl⟩ rfl rfl (Nat.le_of_ble_eq_true rfl) (Nat.le_of_ble_eq_true rfl) (Nat.le_of_ble_eq_true rfl) ?_
  rintro x32 _ _ ⟨o0x32, o1x32, p0x32, rfl, rfl⟩
  have p0x32 := p0x32 r0_1 R_r0_1
  have gx32 := rg x32
  try simp only [e4, e5, e6, e7, e8, e9, e10, e6] at p0x32
  try have q0x32 := congrArg Int32.toInt p0x32
  refine b_if_eq C (t := 26) rfl rfl rfl (fun c33 => ?_) (fun c33 => ?_)
  · skip
    first | (replace p0x32 := p0x32.resolve_left (by omega)) | (replace p0x32 := p0x32.resolve_right (by omega)) | (replace p0x32 := p0x32 (by omega)) | (have hno := imp_no p0x32 (by omega); clear hno; clear p0x32) | skip
    refine z_iconst C (z := 0) rfl rfl rfl (fun x34 ex34 => ?_)
    refine z_iconst C (z := 1) rfl rfl rfl (fun x35 ex35 => ?_)
    have q36 : x34.toNatClampNeg = 0 := nck (by omega)
    have q37 : x35.toNatClampNeg = 1 := nck (by omega)
    refine c_VI C (a_X12_throwsIf_e hI2 H_r0 (by omega) (by omega)) rfl rfl rfl rfl rfl ⟨_, rfl, rfl, T_r0, Nat.le_of_ble_eq_true rfl⟩ rfl rfl (Nat.le_of_ble_eq_true rfl) (Nat.le_of_ble_eq_true rfl) (Nat.le_of_ble_eq_true rfl) ?_
    rintro x38 I39 L40 ⟨o0x38, o1x38, p0x38, p1x38, hI39, S41⟩
    have e42 := CM.j S41 R_r0_1 (by decide) e4
    have e43 := CM.j S41 R_r0_1 (by decide) e5
    have e44 := CM.j S41 R_r0_1 (by decide) e6
    have e45 := CM.j S41 R_r0_1 (by decide) e7
    have e46 := CM.j S41 R_r0_1 (by decide) e8
    have e47 := CM.j S41 R_r0_1 (by decide) e9
    have gx38 := rg x38
    obtain ⟨x49, e50⟩ : ∃ x, I39 r0 0 = x := ⟨_, rfl⟩
    have gx49 := rg x49
    try simp only [q36, q37, e4, e5, e6, e7, e8, e9, e10, e50] at p0x38
    try have q0x38 := congrArg Int32.toInt p0x38
    try simp only [q36, q37, e4, e5, e6, e7, e8, e9, e10, e50] at p1x38
    try have q1x38 := congrArg Int32.toInt p1x38
    refine b_if_ne C (t := 58) rfl rfl rfl (fun c51 => by exfalso; omega) (fun c51 => ?_)
    first | (replace p0x32 := p0x32.resolve_left (by omega)) | (replace p0x32 := p0x32.resolve_right (by omega)) | (replace p0x32 := p0x32 (by omega)) | (have hno := imp_no p0x32 (by omega); clear hno; clear p0x32) | skip
    first | (replace p0x38 := p0x38.resolve_left (by omega)) | (replace p0x38 := p0x38.resolve_right (by omega)) | (replace p0x38 := p0x38 (by omega)) | (have hno := imp_no p0x38 (by omega); clear hno; clear p0x38) | skip
    first | (replace p1x38 := p1x38.resolve_left (by omega)) | (replace p1x38 := p1x38.resolve_right (by omega)) | (replace p1x38 := p1x38 (by omega)) | (have hno := imp_no p1x38 (by omega); clear hno; clear p1x38) | skip
    refine k_aload_n C rfl rfl rfl ?_
    refine k_aload_n C rfl rfl rfl ?_
    refine g_R C rfl rfl rfl T_r0 rfl R_r0_1 ?_
    refine z_iconst C (z := 2) rfl rfl rfl (fun x52 ex52 => ?_)
    obtain ⟨T_r0_1, N_r0_1, A_r0_1⟩ := id H_r0_1
    refine a_I C rfl rfl T_r0_1 (by rw [N_r0_1]; exact vpi (by omega) (by omega)) ((congrArg (I39 r0_1) (nck (n := 2) (by omega))).trans e44) ?_
    refine z_bipush C (z := 8) rfl rfl rfl (fun x53 ex53 => ?_)
    refine b_icmp_ne C (t := 50) rfl rfl rfl (fun c54 => ?_) (fun c54 => ?_)
    · skip
      first | (replace p0x38 := p0x38.resolve_left (by omega)) | (replace p0x38 := p0x38.resolve_right (by omega)) | (replace p0x38 := p0x38 (by omega)) | (have hno := imp_no p0x38 (by omega); clear hno; clear p0x38) | skip
      first | (replace p1x38 := p1x38.resolve_left (by omega)) | (replace p1x38 := p1x38.resolve_right (by omega)) | (replace p1x38 := p1x38 (by omega)) | (have hno := imp_no p1x38 (by omega); clear hno; clear p1x38) | skip
      refine z_iconst C (z := 0) rfl rfl rfl (fun x55 ex55 => ?_)
      refine z_iconst C (z := 2) rfl rfl rfl (fun x56 ex56 => ?_)
      have q57 : x55.toNatClampNeg = 0 := nck (by omega)
      have q58 : x56.toNatClampNeg = 2 := nck (by omega)
      refine c_VI C (a_X12_throwsIf_e hI39 H_r0 (by omega) (by omega)) rfl rfl rfl rfl rfl ⟨_, rfl, rfl, T_r0, Nat.le_of_ble_eq_true rfl⟩ rfl rfl (Nat.le_of_ble_eq_true rfl) (Nat.le_of_ble_eq_true rfl) (Nat.le_of_ble_eq_true rfl) ?_
      rintro x59 I60 L61 ⟨o0x59, o1x59, p0x59, p1x59, hI60, S62⟩
      have e63 := CM.j S62 R_r0_1 (by decide) e42
      have e64 := CM.j S62 R_r0_1 (by decide) e43
      have e65 := CM.j S62 R_r0_1 (by decide) e44
      have e66 := CM.j S62 R_r0_1 (by decide) e45
      have e67 := CM.j S62 R_r0_1 (by decide) e46
      have e68 := CM.j S62 R_r0_1 (by decide) e47
      have gx59 := rg x59
      obtain ⟨x70, e71⟩ : ∃ x, I60 r0 0 = x := ⟨_, rfl⟩
      have gx70 := rg x70
      try simp only [q57, q58, e42, e43, e44, e45, e46, e47, e50, e71] at p0x59
      try have q0x59 := congrArg Int32.toInt p0x59
      try simp only [q57, q58, e42, e43, e44, e45, e46, e47, e50, e71] at p1x59
      try have q1x59 := congrArg Int32.toInt p1x59
      refine b_if_eq C (t := 60) rfl rfl rfl (fun c72 => ?_) (fun c72 => by exfalso; omega)
      first | (replace p0x59 := p0x59.resolve_left (by omega)) | (replace p0x59 := p0x59.resolve_right (by omega)) | (replace p0x59 := p0x59 (by omega)) | (have hno := imp_no p0x59 (by omega); clear hno; clear p0x59) | skip
      first | (replace p1x59 := p1x59.resolve_left (by omega)) | (replace p1x59 := p1x59.resolve_right (by omega)) | (replace p1x59 := p1x59 (by omega)) | (have hno := imp_no p1x59 (by omega); clear hno; clear p1x59) | skip
      refine k_aload_n C rfl rfl rfl ?_
      refine k_iload_n C rfl rfl rfl ?_
      have hw6 := CM.j0 (W := [0, 6, 7, 8, 9]) (WA := []) (CM.cons S3 (CM.cons S41 (CM.mono S62 (by decide) (by decide)) (by decide) (by decide)) (by decide) (by decide)) R_r0_1 (by decide)
      refine c_VV C (a_X12_tables_x hI60 H_r0 (by omega) (by omega)) rfl rfl rfl rfl rfl ⟨_, rfl, rfl, T_r0, Nat.le_of_ble_eq_true rfl⟩ rfl rfl (Nat.le_of_ble_eq_true rfl) (Nat.le_of_ble_eq_true rfl) (Nat.le_of_ble_eq_true rfl) ?_
      rintro I74 L75 ⟨p0v73, p1v73, p2v73, p3v73, hI74, S76⟩
      have p0v73 := p0v73 r0_1 R_r0_1
      have p1v73 := p1v73 r0_1 R_r0_1
      have p2v73 := p2v73 r0_1 R_r0_1
      have p3v73 := p3v73 r0_1 R_r0_1
      have e77 := CM.j S76 R_r0_1 (by decide) e63
      have e78 := CM.j S76 R_r0_1 (by decide) e64
      have e79 := CM.j S76 R_r0_1 (by decide) e65
      have e80 := CM.j S76 R_r0_1 (by decide) e66
      have e81 := CM.j S76 R_r0_1 (by decide) e67
      have e82 := CM.j S76 R_r0_1 (by decide) e68
      have e83 := CM.k S76 (by decide) e71
      obtain ⟨x84, e85⟩ : ∃ x, I74 r0 6 = x := ⟨_, rfl⟩
      have gx84 := rg x84
      have ox84 := IM.f6 hI74 e85
      obtain ⟨x86, e87⟩ : ∃ x, I74 r0 7 = x := ⟨_, rfl⟩
      have gx86 := rg x86
      have ox86 := IM.f7 hI74 e87
      obtain ⟨x88, e89⟩ : ∃ x, I74 r0 8 = x := ⟨_, rfl⟩
      have gx88 := rg x88
      have ox88 := IM.f8 hI74 e89
      obtain ⟨x90, e91⟩ : ∃ x, I74 r0 9 = x := ⟨_, rfl⟩
      have gx90 := rg x90
      have ox90 := IM.f9 hI74 e91
      try simp only [e63, e64, e65, e66, e67, e68, e71, e85, e87, e89, e91] at p0v73
      try have q0v73 := congrArg Int32.toInt p0v73
      try simp only [e63, e64, e65, e66, e67, e68, e71, e85, e87, e89, e91] at p1v73
      try have q1v73 := congrArg Int32.toInt p1v73
      try simp only [e63, e64, e65, e66, e67, e68, e71, e85, e87, e89, e91] at p2v73
      try have q2v73 := congrArg Int32.toInt p2v73
      try simp only [e63, e64, e65, e66, e67, e68, e71, e85, e87, e89, e91] at p3v73
      try have q3v73 := congrArg Int32.toInt p3v73
      have hw62 := CM.j0 S76 R_r0_1 (by decide)
      have ht6 := p0v73
      have ht7 := p1v73
      have ht8 := p2v73
      have ht9 := p3v73
      refine k_aload_n C rfl rfl rfl ?_
      refine k_aload_n C rfl rfl rfl ?_
      refine k_aload_n C rfl rfl rfl ?_
      refine g_I C rfl rfl rfl T_r0 rfl e85 ?_
      refine k_aload_n C rfl rfl rfl ?_
      refine k_iload_n C rfl rfl rfl ?_
      refine z_iconst C (z := 0) rfl rfl rfl (fun x92 ex92 => ?_)
      have q93 : x92.toNatClampNeg = 0 := nck (by omega)
      refine c_VI C (a_X12_ofTable hI74 H_r0 (by omega) (by omega) (by omega) (by omega)) rfl rfl rfl rfl rfl ⟨_, rfl, rfl, T_r0, Nat.le_of_ble_eq_true rfl⟩ rfl rfl (Nat.le_of_ble_eq_true rfl) (Nat.le_of_ble_eq_true rfl) (Nat.le_of_ble_eq_true rfl) ?_
      rintro x94 _ _ ⟨o0x94, o1x94, p0x94, rfl, rfl⟩
      have p0x94 := p0x94 r0_1 R_r0_1
      have gx94 := rg x94
      try simp only [q93, e77, e78, e79, e80, e81, e82, e83, e85, e87, e89, e91] at p0x94
      try have q0x94 := congrArg Int32.toInt p0x94
      have ho0 := p0x94
      refine c_VI C (a_X12_times hI74 H_r0 (by omega) (by omega) (by omega) (by omega)) rfl rfl rfl rfl rfl ⟨_, rfl, rfl, T_r0, Nat.le_of_ble_eq_true rfl⟩ rfl rfl (Nat.le_of_ble_eq_true rfl) (Nat.le_of_ble_eq_true rfl) (Nat.le_of_ble_eq_true rfl) ?_
      rintro x95 _ _ ⟨o0x95, o1x95, p0x95, p1x95, p2x95, p3x95, rfl, rfl⟩
      have p0x95 := p0x95 r0_1 R_r0_1
      have p2x95 := p2x95 r0_1 R_r0_1
      have p3x95 := p3x95 r0_1 R_r0_1
      have gx95 := rg x95
      try simp only [e77, e78, e79, e80, e81, e82, e83, e85, e87, e89, e91] at p0x95
      try have q0x95 := congrArg Int32.toInt p0x95
      try simp only [e77, e78, e79, e80, e81, e82, e83, e85, e87, e89, e91] at p1x95
      try have q1x95 := congrArg Int32.toInt p1x95
      try simp only [e77, e78, e79, e80, e81, e82, e83, e85, e87, e89, e91] at p2x95
      try have q2x95 := congrArg Int32.toInt p2x95
      try simp only [e77, e78, e79, e80, e81, e82, e83, e85, e87, e89, e91] at p3x95
      try have q3x95 := congrArg Int32.toInt p3x95
      have hm0 := p3x95
      refine k_aload_n C rfl rfl rfl ?_
      refine k_aload_n C rfl rfl rfl ?_
      refine g_I C rfl rfl rfl T_r0 rfl e87 ?_
      refine k_aload_n C rfl rfl rfl ?_
      refine k_iload_n C rfl rfl rfl ?_
      refine z_iconst C (z := 2) rfl rfl rfl (fun x96 ex96 => ?_)
      have q97 : x96.toNatClampNeg = 2 := nck (by omega)
      refine c_VI C (a_X12_ofTable hI74 H_r0 (by omega) (by omega) (by omega) (by omega)) rfl rfl rfl rfl rfl ⟨_, rfl, rfl, T_r0, Nat.le_of_ble_eq_true rfl⟩ rfl rfl (Nat.le_of_ble_eq_true rfl) (Nat.le_of_ble_eq_true rfl) (Nat.le_of_ble_eq_true rfl) ?_
      rintro x98 _ _ ⟨o0x98, o1x98, p0x98, rfl, rfl⟩
      have p0x98 := p0x98 r0_1 R_r0_1
      have gx98 := rg x98
      try simp only [q97, e77, e78, e79, e80, e81, e82, e83, e85, e87, e89, e91] at p0x98
      try have q0x98 := congrArg Int32.toInt p0x98
      have hq0 := p0x98
      refine c_VI C (a_X12_times hI74 H_r0 (by omega) (by omega) (by omega) (by omega)) rfl rfl rfl rfl rfl ⟨_, rfl, rfl, T_r0, Nat.le_of_ble_eq_true rfl⟩ rfl rfl (Nat.le_of_ble_eq_true rfl) (Nat.le_of_ble_eq_true rfl) (Nat.le_of_ble_eq_true rfl) ?_
      rintro x99 _ _ ⟨o0x99, o1x99, p0x99, p1x99, p2x99, p3x99, rfl, rfl⟩
      have p0x99 := p0x99 r0_1 R_r0_1
      have p2x99 := p2x99 r0_1 R_r0_1
      have p3x99 := p3x99 r0_1 R_r0_1
      have gx99 := rg x99
      try simp only [e77, e78, e79, e80, e81, e82, e83, e85, e87, e89, e91] at p0x99
      try have q0x99 := congrArg Int32.toInt p0x99
      try simp only [e77, e78, e79, e80, e81, e82, e83, e85, e87, e89, e91] at p1x99
      try have q1x99 := congrArg Int32.toInt p1x99
      try simp only [e77, e78, e79, e80, e81, e82, e83, e85, e87, e89, e91] at p2x99
      try have q2x99 := congrArg Int32.toInt p2x99
      try simp only [e77, e78, e79, e80, e81, e82, e83, e85, e87, e89, e91] at p3x99
      try have q3x99 := congrArg Int32.toInt p3x99
      have hn0 := p3x99
      refine c_VI C (a_X12_plus_e hI74 H_r0 (by omega) (by omega) (by omega) (by omega)) rfl rfl rfl rfl rfl ⟨_, rfl, rfl, T_r0, Nat.le_of_ble_eq_true rfl⟩ rfl rfl (Nat.le_of_ble_eq_true rfl) (Nat.le_of_ble_eq_true rfl) (Nat.le_of_ble_eq_true rfl) ?_
      rintro x100 _ _ ⟨o0x100, o1x100, p0x100, p1x100, p2x100, p3x100, rfl, rfl⟩
      have p0x100 := p0x100 r0_1 R_r0_1
      have p2x100 := p2x100 r0_1 R_r0_1
      have p3x100 := p3x100 r0_1 R_r0_1
      have gx100 := rg x100
      try simp only [e77, e78, e79, e80, e81, e82, e83, e85, e87, e89, e91] at p0x100
      try have q0x100 := congrArg Int32.toInt p0x100
      try simp only [e77, e78, e79, e80, e81, e82, e83, e85, e87, e89, e91] at p1x100
      try have q1x100 := congrArg Int32.toInt p1x100
      try simp only [e77, e78, e79, e80, e81, e82, e83, e85, e87, e89, e91] at p2x100
      try have q2x100 := congrArg Int32.toInt p2x100
      try simp only [e77, e78, e79, e80, e81, e82, e83, e85, e87, e89, e91] at p3x100
      try have q3x100 := congrArg Int32.toInt p3x100
      have hs0 := jnR.of hm0 hn0 p3x100
      refine k_istore_n C (lw := [(3, .int x100), (0, .ref r0), (1, .int n1), (2, .int n2)]) rfl rfl (Nat.le_of_ble_eq_true rfl) rfl ?_
      refine k_aload_n C rfl rfl rfl ?_
      refine k_aload_n C rfl rfl rfl ?_
      refine k_aload_n C rfl rfl rfl ?_
      refine g_I C rfl rfl rfl T_r0 rfl e85 ?_
      refine k_aload_n C rfl rfl rfl ?_
      refine k_iload_n C rfl rfl rfl ?_
      refine z_iconst C (z := 1) rfl rfl rfl (fun x101 ex101 => ?_)
      have q102 : x101.toNatClampNeg = 1 := nck (by omega)
      refine c_VI C (a_X12_ofTable hI74 H_r0 (by omega) (by omega) (by omega) (by omega)) rfl rfl rfl rfl rfl ⟨_, rfl, rfl, T_r0, Nat.le_of_ble_eq_true rfl⟩ rfl rfl (Nat.le_of_ble_eq_true rfl) (Nat.le_of_ble_eq_true rfl) (Nat.le_of_ble_eq_true rfl) ?_
      rintro x103 _ _ ⟨o0x103, o1x103, p0x103, rfl, rfl⟩
      have p0x103 := p0x103 r0_1 R_r0_1
      have gx103 := rg x103
      try simp only [q102, e77, e78, e79, e80, e81, e82, e83, e85, e87, e89, e91] at p0x103
      try have q0x103 := congrArg Int32.toInt p0x103
      have ho1 := p0x103
      refine c_VI C (a_X12_times hI74 H_r0 (by omega) (by omega) (by omega) (by omega)) rfl rfl rfl rfl rfl ⟨_, rfl, rfl, T_r0, Nat.le_of_ble_eq_true rfl⟩ rfl rfl (Nat.le_of_ble_eq_true rfl) (Nat.le_of_ble_eq_true rfl) (Nat.le_of_ble_eq_true rfl) ?_
      rintro x104 _ _ ⟨o0x104, o1x104, p0x104, p1x104, p2x104, p3x104, rfl, rfl⟩
      have p0x104 := p0x104 r0_1 R_r0_1
      have p2x104 := p2x104 r0_1 R_r0_1
      have p3x104 := p3x104 r0_1 R_r0_1
      have gx104 := rg x104
      try simp only [e77, e78, e79, e80, e81, e82, e83, e85, e87, e89, e91] at p0x104
      try have q0x104 := congrArg Int32.toInt p0x104
      try simp only [e77, e78, e79, e80, e81, e82, e83, e85, e87, e89, e91] at p1x104
      try have q1x104 := congrArg Int32.toInt p1x104
      try simp only [e77, e78, e79, e80, e81, e82, e83, e85, e87, e89, e91] at p2x104
      try have q2x104 := congrArg Int32.toInt p2x104
      try simp only [e77, e78, e79, e80, e81, e82, e83, e85, e87, e89, e91] at p3x104
      try have q3x104 := congrArg Int32.toInt p3x104
      have hm1 := p3x104
      refine k_aload_n C rfl rfl rfl ?_
      refine k_aload_n C rfl rfl rfl ?_
      refine g_I C rfl rfl rfl T_r0 rfl e87 ?_
      refine k_aload_n C rfl rfl rfl ?_
      refine k_iload_n C rfl rfl rfl ?_
      refine z_iconst C (z := 3) rfl rfl rfl (fun x105 ex105 => ?_)
      have q106 : x105.toNatClampNeg = 3 := nck (by omega)
      refine c_VI C (a_X12_ofTable hI74 H_r0 (by omega) (by omega) (by omega) (by omega)) rfl rfl rfl rfl rfl ⟨_, rfl, rfl, T_r0, Nat.le_of_ble_eq_true rfl⟩ rfl rfl (Nat.le_of_ble_eq_true rfl) (Nat.le_of_ble_eq_true rfl) (Nat.le_of_ble_eq_true rfl) ?_
      rintro x107 _ _ ⟨o0x107, o1x107, p0x107, rfl, rfl⟩
      have p0x107 := p0x107 r0_1 R_r0_1
      have gx107 := rg x107
      try simp only [q106, e77, e78, e79, e80, e81, e82, e83, e85, e87, e89, e91] at p0x107
      try have q0x107 := congrArg Int32.toInt p0x107
      have hq1 := p0x107
      refine c_VI C (a_X12_times hI74 H_r0 (by omega) (by omega) (by omega) (by omega)) rfl rfl rfl rfl rfl ⟨_, rfl, rfl, T_r0, Nat.le_of_ble_eq_true rfl⟩ rfl rfl (Nat.le_of_ble_eq_true rfl) (Nat.le_of_ble_eq_true rfl) (Nat.le_of_ble_eq_true rfl) ?_
      rintro x108 _ _ ⟨o0x108, o1x108, p0x108, p1x108, p2x108, p3x108, rfl, rfl⟩
      have p0x108 := p0x108 r0_1 R_r0_1
      have p2x108 := p2x108 r0_1 R_r0_1
      have p3x108 := p3x108 r0_1 R_r0_1
      have gx108 := rg x108
      try simp only [e77, e78, e79, e80, e81, e82, e83, e85, e87, e89, e91] at p0x108
      try have q0x108 := congrArg Int32.toInt p0x108
      try simp only [e77, e78, e79, e80, e81, e82, e83, e85, e87, e89, e91] at p1x108
      try have q1x108 := congrArg Int32.toInt p1x108
      try simp only [e77, e78, e79, e80, e81, e82, e83, e85, e87, e89, e91] at p2x108
      try have q2x108 := congrArg Int32.toInt p2x108
      try simp only [e77, e78, e79, e80, e81, e82, e83, e85, e87, e89, e91] at p3x108
      try have q3x108 := congrArg Int32.toInt p3x108
      have hn1 := p3x108
      refine c_VI C (a_X12_plus_e hI74 H_r0 (by omega) (by omega) (by omega) (by omega)) rfl rfl rfl rfl rfl ⟨_, rfl, rfl, T_r0, Nat.le_of_ble_eq_true rfl⟩ rfl rfl (Nat.le_of_ble_eq_true rfl) (Nat.le_of_ble_eq_true rfl) (Nat.le_of_ble_eq_true rfl) ?_
      rintro x109 _ _ ⟨o0x109, o1x109, p0x109, p1x109, p2x109, p3x109, rfl, rfl⟩
      have p0x109 := p0x109 r0_1 R_r0_1
      have p2x109 := p2x109 r0_1 R_r0_1
      have p3x109 := p3x109 r0_1 R_r0_1
      have gx109 := rg x109
      try simp only [e77, e78, e79, e80, e81, e82, e83, e85, e87, e89, e91] at p0x109
      try have q0x109 := congrArg Int32.toInt p0x109
      try simp only [e77, e78, e79, e80, e81, e82, e83, e85, e87, e89, e91] at p1x109
      try have q1x109 := congrArg Int32.toInt p1x109
      try simp only [e77, e78, e79, e80, e81, e82, e83, e85, e87, e89, e91] at p2x109
      try have q2x109 := congrArg Int32.toInt p2x109
      try simp only [e77, e78, e79, e80, e81, e82, e83, e85, e87, e89, e91] at p3x109
      try have q3x109 := congrArg Int32.toInt p3x109
      have hs1 := jnR.of hm1 hn1 p3x109
      refine k_istore C (lw := [(4, .int x109), (3, .int x100), (0, .ref r0), (1, .int n1), (2, .int n2)]) rfl rfl (Nat.le_of_ble_eq_true rfl) rfl ?_
      refine k_aload_n C rfl rfl rfl ?_
      refine k_aload_n C rfl rfl rfl ?_
      refine k_aload_n C rfl rfl rfl ?_
      refine g_I C rfl rfl rfl T_r0 rfl e89 ?_
      refine k_aload_n C rfl rfl rfl ?_
      refine k_iload_n C rfl rfl rfl ?_
      refine z_iconst C (z := 0) rfl rfl rfl (fun x110 ex110 => ?_)
      have q111 : x110.toNatClampNeg = 0 := nck (by omega)
      refine c_VI C (a_X12_ofTable hI74 H_r0 (by omega) (by omega) (by omega) (by omega)) rfl rfl rfl rfl rfl ⟨_, rfl, rfl, T_r0, Nat.le_of_ble_eq_true rfl⟩ rfl rfl (Nat.le_of_ble_eq_true rfl) (Nat.le_of_ble_eq_true rfl) (Nat.le_of_ble_eq_true rfl) ?_
      rintro x112 _ _ ⟨o0x112, o1x112, p0x112, rfl, rfl⟩
      have p0x112 := p0x112 r0_1 R_r0_1
      have gx112 := rg x112
      try simp only [q111, e77, e78, e79, e80, e81, e82, e83, e85, e87, e89, e91] at p0x112
      try have q0x112 := congrArg Int32.toInt p0x112
      have ho2 := p0x112
      refine c_VI C (a_X12_times hI74 H_r0 (by omega) (by omega) (by omega) (by omega)) rfl rfl rfl rfl rfl ⟨_, rfl, rfl, T_r0, Nat.le_of_ble_eq_true rfl⟩ rfl rfl (Nat.le_of_ble_eq_true rfl) (Nat.le_of_ble_eq_true rfl) (Nat.le_of_ble_eq_true rfl) ?_
      rintro x113 _ _ ⟨o0x113, o1x113, p0x113, p1x113, p2x113, p3x113, rfl, rfl⟩
      have p0x113 := p0x113 r0_1 R_r0_1
      have p2x113 := p2x113 r0_1 R_r0_1
      have p3x113 := p3x113 r0_1 R_r0_1
      have gx113 := rg x113
      try simp only [e77, e78, e79, e80, e81, e82, e83, e85, e87, e89, e91] at p0x113
      try have q0x113 := congrArg Int32.toInt p0x113
      try simp only [e77, e78, e79, e80, e81, e82, e83, e85, e87, e89, e91] at p1x113
      try have q1x113 := congrArg Int32.toInt p1x113
      try simp only [e77, e78, e79, e80, e81, e82, e83, e85, e87, e89, e91] at p2x113
      try have q2x113 := congrArg Int32.toInt p2x113
      try simp only [e77, e78, e79, e80, e81, e82, e83, e85, e87, e89, e91] at p3x113
      try have q3x113 := congrArg Int32.toInt p3x113
      have hm2 := p3x113
      refine k_aload_n C rfl rfl rfl ?_
      refine k_aload_n C rfl rfl rfl ?_
      refine g_I C rfl rfl rfl T_r0 rfl e91 ?_
      refine k_aload_n C rfl rfl rfl ?_
      refine k_iload_n C rfl rfl rfl ?_
      refine z_iconst C (z := 2) rfl rfl rfl (fun x114 ex114 => ?_)
      have q115 : x114.toNatClampNeg = 2 := nck (by omega)
      refine c_VI C (a_X12_ofTable hI74 H_r0 (by omega) (by omega) (by omega) (by omega)) rfl rfl rfl rfl rfl ⟨_, rfl, rfl, T_r0, Nat.le_of_ble_eq_true rfl⟩ rfl rfl (Nat.le_of_ble_eq_true rfl) (Nat.le_of_ble_eq_true rfl) (Nat.le_of_ble_eq_true rfl) ?_
      rintro x116 _ _ ⟨o0x116, o1x116, p0x116, rfl, rfl⟩
      have p0x116 := p0x116 r0_1 R_r0_1
      have gx116 := rg x116
      try simp only [q115, e77, e78, e79, e80, e81, e82, e83, e85, e87, e89, e91] at p0x116
      try have q0x116 := congrArg Int32.toInt p0x116
      have hq2 := p0x116
      refine c_VI C (a_X12_times hI74 H_r0 (by omega) (by omega) (by omega) (by omega)) rfl rfl rfl rfl rfl ⟨_, rfl, rfl, T_r0, Nat.le_of_ble_eq_true rfl⟩ rfl rfl (Nat.le_of_ble_eq_true rfl) (Nat.le_of_ble_eq_true rfl) (Nat.le_of_ble_eq_true rfl) ?_
      rintro x117 _ _ ⟨o0x117, o1x117, p0x117, p1x117, p2x117, p3x117, rfl, rfl⟩
      have p0x117 := p0x117 r0_1 R_r0_1
      have p2x117 := p2x117 r0_1 R_r0_1
      have p3x117 := p3x117 r0_1 R_r0_1
      have gx117 := rg x117
      try simp only [e77, e78, e79, e80, e81, e82, e83, e85, e87, e89, e91] at p0x117
      try have q0x117 := congrArg Int32.toInt p0x117
      try simp only [e77, e78, e79, e80, e81, e82, e83, e85, e87, e89, e91] at p1x117
      try have q1x117 := congrArg Int32.toInt p1x117
      try simp only [e77, e78, e79, e80, e81, e82, e83, e85, e87, e89, e91] at p2x117
      try have q2x117 := congrArg Int32.toInt p2x117
      try simp only [e77, e78, e79, e80, e81, e82, e83, e85, e87, e89, e91] at p3x117
      try have q3x117 := congrArg Int32.toInt p3x117
      have hn2 := p3x117
      refine c_VI C (a_X12_plus_e hI74 H_r0 (by omega) (by omega) (by omega) (by omega)) rfl rfl rfl rfl rfl ⟨_, rfl, rfl, T_r0, Nat.le_of_ble_eq_true rfl⟩ rfl rfl (Nat.le_of_ble_eq_true rfl) (Nat.le_of_ble_eq_true rfl) (Nat.le_of_ble_eq_true rfl) ?_
      rintro x118 _ _ ⟨o0x118, o1x118, p0x118, p1x118, p2x118, p3x118, rfl, rfl⟩
      have p0x118 := p0x118 r0_1 R_r0_1
      have p2x118 := p2x118 r0_1 R_r0_1
      have p3x118 := p3x118 r0_1 R_r0_1
      have gx118 := rg x118
      try simp only [e77, e78, e79, e80, e81, e82, e83, e85, e87, e89, e91] at p0x118
      try have q0x118 := congrArg Int32.toInt p0x118
      try simp only [e77, e78, e79, e80, e81, e82, e83, e85, e87, e89, e91] at p1x118
      try have q1x118 := congrArg Int32.toInt p1x118
      try simp only [e77, e78, e79, e80, e81, e82, e83, e85, e87, e89, e91] at p2x118
      try have q2x118 := congrArg Int32.toInt p2x118
      try simp only [e77, e78, e79, e80, e81, e82, e83, e85, e87, e89, e91] at p3x118
      try have q3x118 := congrArg Int32.toInt p3x118
      have hs2 := jnR.of hm2 hn2 p3x118
      refine k_istore C (lw := [(5, .int x118), (4, .int x109), (3, .int x100), (0, .ref r0), (1, .int n1), (2, .int n2)]) rfl rfl (Nat.le_of_ble_eq_true rfl) rfl ?_
      refine k_aload_n C rfl rfl rfl ?_
      refine k_aload_n C rfl rfl rfl ?_
      refine k_aload_n C rfl rfl rfl ?_
      refine g_I C rfl rfl rfl T_r0 rfl e89 ?_
      refine k_aload_n C rfl rfl rfl ?_
      refine k_iload_n C rfl rfl rfl ?_
      refine z_iconst C (z := 1) rfl rfl rfl (fun x119 ex119 => ?_)
      have q120 : x119.toNatClampNeg = 1 := nck (by omega)
      refine c_VI C (a_X12_ofTable hI74 H_r0 (by omega) (by omega) (by omega) (by omega)) rfl rfl rfl rfl rfl ⟨_, rfl, rfl, T_r0, Nat.le_of_ble_eq_true rfl⟩ rfl rfl (Nat.le_of_ble_eq_true rfl) (Nat.le_of_ble_eq_true rfl) (Nat.le_of_ble_eq_true rfl) ?_
      rintro x121 _ _ ⟨o0x121, o1x121, p0x121, rfl, rfl⟩
      have p0x121 := p0x121 r0_1 R_r0_1
      have gx121 := rg x121
      try simp only [q120, e77, e78, e79, e80, e81, e82, e83, e85, e87, e89, e91] at p0x121
      try have q0x121 := congrArg Int32.toInt p0x121
      have ho3 := p0x121
      refine c_VI C (a_X12_times hI74 H_r0 (by omega) (by omega) (by omega) (by omega)) rfl rfl rfl rfl rfl ⟨_, rfl, rfl, T_r0, Nat.le_of_ble_eq_true rfl⟩ rfl rfl (Nat.le_of_ble_eq_true rfl) (Nat.le_of_ble_eq_true rfl) (Nat.le_of_ble_eq_true rfl) ?_
      rintro x122 _ _ ⟨o0x122, o1x122, p0x122, p1x122, p2x122, p3x122, rfl, rfl⟩
      have p0x122 := p0x122 r0_1 R_r0_1
      have p2x122 := p2x122 r0_1 R_r0_1
      have p3x122 := p3x122 r0_1 R_r0_1
      have gx122 := rg x122
      try simp only [e77, e78, e79, e80, e81, e82, e83, e85, e87, e89, e91] at p0x122
      try have q0x122 := congrArg Int32.toInt p0x122
      try simp only [e77, e78, e79, e80, e81, e82, e83, e85, e87, e89, e91] at p1x122
      try have q1x122 := congrArg Int32.toInt p1x122
      try simp only [e77, e78, e79, e80, e81, e82, e83, e85, e87, e89, e91] at p2x122
      try have q2x122 := congrArg Int32.toInt p2x122
      try simp only [e77, e78, e79, e80, e81, e82, e83, e85, e87, e89, e91] at p3x122
      try have q3x122 := congrArg Int32.toInt p3x122
      have hm3 := p3x122
      refine k_aload_n C rfl rfl rfl ?_
      refine k_aload_n C rfl rfl rfl ?_
      refine g_I C rfl rfl rfl T_r0 rfl e91 ?_
      refine k_aload_n C rfl rfl rfl ?_
      refine k_iload_n C rfl rfl rfl ?_
      refine z_iconst C (z := 3) rfl rfl rfl (fun x123 ex123 => ?_)
      have q124 : x123.toNatClampNeg = 3 := nck (by omega)
      refine c_VI C (a_X12_ofTable hI74 H_r0 (by omega) (by omega) (by omega) (by omega)) rfl rfl rfl rfl rfl ⟨_, rfl, rfl, T_r0, Nat.le_of_ble_eq_true rfl⟩ rfl rfl (Nat.le_of_ble_eq_true rfl) (Nat.le_of_ble_eq_true rfl) (Nat.le_of_ble_eq_true rfl) ?_
      rintro x125 _ _ ⟨o0x125, o1x125, p0x125, rfl, rfl⟩
      have p0x125 := p0x125 r0_1 R_r0_1
      have gx125 := rg x125
      try simp only [q124, e77, e78, e79, e80, e81, e82, e83, e85, e87, e89, e91] at p0x125
      try have q0x125 := congrArg Int32.toInt p0x125
      have hq3 := p0x125
      refine c_VI C (a_X12_times hI74 H_r0 (by omega) (by omega) (by omega) (by omega)) rfl rfl rfl rfl rfl ⟨_, rfl, rfl, T_r0, Nat.le_of_ble_eq_true rfl⟩ rfl rfl (Nat.le_of_ble_eq_true rfl) (Nat.le_of_ble_eq_true rfl) (Nat.le_of_ble_eq_true rfl) ?_
      rintro x126 _ _ ⟨o0x126, o1x126, p0x126, p1x126, p2x126, p3x126, rfl, rfl⟩
      have p0x126 := p0x126 r0_1 R_r0_1
      have p2x126 := p2x126 r0_1 R_r0_1
      have p3x126 := p3x126 r0_1 R_r0_1
      have gx126 := rg x126
      try simp only [e77, e78, e79, e80, e81, e82, e83, e85, e87, e89, e91] at p0x126
      try have q0x126 := congrArg Int32.toInt p0x126
      try simp only [e77, e78, e79, e80, e81, e82, e83, e85, e87, e89, e91] at p1x126
      try have q1x126 := congrArg Int32.toInt p1x126
      try simp only [e77, e78, e79, e80, e81, e82, e83, e85, e87, e89, e91] at p2x126
      try have q2x126 := congrArg Int32.toInt p2x126
      try simp only [e77, e78, e79, e80, e81, e82, e83, e85, e87, e89, e91] at p3x126
      try have q3x126 := congrArg Int32.toInt p3x126
      have hn3 := p3x126
      refine c_VI C (a_X12_plus_e hI74 H_r0 (by omega) (by omega) (by omega) (by omega)) rfl rfl rfl rfl rfl ⟨_, rfl, rfl, T_r0, Nat.le_of_ble_eq_true rfl⟩ rfl rfl (Nat.le_of_ble_eq_true rfl) (Nat.le_of_ble_eq_true rfl) (Nat.le_of_ble_eq_true rfl) ?_
      rintro x127 _ _ ⟨o0x127, o1x127, p0x127, p1x127, p2x127, p3x127, rfl, rfl⟩
      have p0x127 := p0x127 r0_1 R_r0_1
      have p2x127 := p2x127 r0_1 R_r0_1
      have p3x127 := p3x127 r0_1 R_r0_1
      have gx127 := rg x127
      try simp only [e77, e78, e79, e80, e81, e82, e83, e85, e87, e89, e91] at p0x127
      try have q0x127 := congrArg Int32.toInt p0x127
      try simp only [e77, e78, e79, e80, e81, e82, e83, e85, e87, e89, e91] at p1x127
      try have q1x127 := congrArg Int32.toInt p1x127
      try simp only [e77, e78, e79, e80, e81, e82, e83, e85, e87, e89, e91] at p2x127
      try have q2x127 := congrArg Int32.toInt p2x127
      try simp only [e77, e78, e79, e80, e81, e82, e83, e85, e87, e89, e91] at p3x127
      try have q3x127 := congrArg Int32.toInt p3x127
      have hs3 := jnR.of hm3 hn3 p3x127
      refine k_istore C (lw := [(6, .int x127), (5, .int x118), (4, .int x109), (3, .int x100), (0, .ref r0), (1, .int n1), (2, .int n2)]) rfl rfl (Nat.le_of_ble_eq_true rfl) rfl ?_
      refine k_aload_n C rfl rfl rfl ?_
      refine k_iload_n C rfl rfl rfl ?_
      refine k_iload C rfl rfl rfl ?_
      refine k_iload C rfl rfl rfl ?_
      refine k_iload C rfl rfl rfl ?_
      refine c_VV C (a_X12_takesTable_e hI74 H_r0 (by omega) (by omega) (by omega) (by omega) (by omega) (by omega) (by omega) (by omega)) rfl rfl rfl rfl rfl ⟨_, rfl, rfl, T_r0, Nat.le_of_ble_eq_true rfl⟩ rfl rfl (Nat.le_of_ble_eq_true rfl) (Nat.le_of_ble_eq_true rfl) (Nat.le_of_ble_eq_true rfl) ?_
      rintro I129 L130 ⟨p0v128, p1v128, p2v128, p3v128, hI129, S131⟩
      have e132 := CM.j S131 R_r0_1 (by decide) e77
      have e133 := CM.j S131 R_r0_1 (by decide) e78
      have e134 := CM.j S131 R_r0_1 (by decide) e79
      have e135 := CM.j S131 R_r0_1 (by decide) e80
      have e136 := CM.j S131 R_r0_1 (by decide) e81
      have e137 := CM.j S131 R_r0_1 (by decide) e82
      have e138 := CM.k S131 (by decide) e83
      obtain ⟨x143, e144⟩ : ∃ x, I129 r0 6 = x := ⟨_, rfl⟩
      have gx143 := rg x143
      have ox143 := IM.f6 hI129 e144
      obtain ⟨x145, e146⟩ : ∃ x, I129 r0 7 = x := ⟨_, rfl⟩
      have gx145 := rg x145
      have ox145 := IM.f7 hI129 e146
      obtain ⟨x147, e148⟩ : ∃ x, I129 r0 8 = x := ⟨_, rfl⟩
      have gx147 := rg x147
      have ox147 := IM.f8 hI129 e148
      obtain ⟨x149, e150⟩ : ∃ x, I129 r0 9 = x := ⟨_, rfl⟩
      have gx149 := rg x149
      have ox149 := IM.f9 hI129 e150
      try simp only [e77, e78, e79, e80, e81, e82, e83, e85, e87, e89, e91, e144, e146, e148, e150] at p0v128
      try have q0v128 := congrArg Int32.toInt p0v128
      try simp only [e77, e78, e79, e80, e81, e82, e83, e85, e87, e89, e91, e144, e146, e148, e150] at p1v128
      try have q1v128 := congrArg Int32.toInt p1v128
      try simp only [e77, e78, e79, e80, e81, e82, e83, e85, e87, e89, e91, e144, e146, e148, e150] at p2v128
      try have q2v128 := congrArg Int32.toInt p2v128
      try simp only [e77, e78, e79, e80, e81, e82, e83, e85, e87, e89, e91, e144, e146, e148, e150] at p3v128
      try have q3v128 := congrArg Int32.toInt p3v128
      have hk6 := p0v128
      have hk7 := p1v128
      have hk8 := p2v128
      have hk9 := p3v128
      refine k_aload_n C rfl rfl rfl ?_
      have hw212 := CM.j0 (W := [0, 6, 7, 8, 9]) (WA := []) (CM.cons S3 (CM.cons S41 (CM.cons S62 (CM.cons S76 (CM.mono S131 (by decide) (by decide)) (by decide) (by decide)) (by decide) (by decide)) (by decide) (by decide)) (by decide) (by decide)) R_r0_1 (by decide)
      refine c_VI C (a_X12_lays_x hI129 H_r0 (fun a1 h1 => by cases (R_r0_1.symm.trans h1); first | omega | (simp only [e132, e133, e134, e135, e136, e137, e138, e144, e146, e148, e150, and_true, true_and, or_true, true_or, and_false, false_and, or_false, false_or] <;> omega))) rfl rfl rfl rfl rfl ⟨_, rfl, rfl, T_r0, Nat.le_of_ble_eq_true rfl⟩ rfl rfl (Nat.le_of_ble_eq_true rfl) (Nat.le_of_ble_eq_true rfl) (Nat.le_of_ble_eq_true rfl) ?_
      rintro x151 I152 L153 ⟨o0x151, o1x151, p0x151, p1x151, p2x151, p3x151, p4x151, hI152, S154⟩
      have p0x151 := p0x151 r0_1 R_r0_1
      have p1x151 := p1x151 r0_1 R_r0_1
      have p2x151 := p2x151 r0_1 R_r0_1
      have p3x151 := p3x151 r0_1 R_r0_1
      have p4x151 := p4x151 r0_1 R_r0_1
      have F155 : ∀ r : Nat, r ≠ 2 ∧ r < 166 → I152 r0_1 r = I129 r0_1 r := fun r z0 => p4x151 r z0
      have e156 := (p4x151 0 (by decide)).trans e132
      have e157 := (p4x151 1 (by decide)).trans e133
      have e159 := (p4x151 3 (by decide)).trans e135
      have e160 := (p4x151 4 (by decide)).trans e136
      have e161 := (p4x151 5 (by decide)).trans e137
      have e162 := CM.k S154 (by decide) e138
      have e163 := CM.k S154 (by decide) e144
      have e164 := CM.k S154 (by decide) e146
      have e165 := CM.k S154 (by decide) e148
      have e166 := CM.k S154 (by decide) e150
      have gx151 := rg x151
      obtain ⟨x167, e168⟩ : ∃ x, I152 r0_1 2 = x := ⟨_, rfl⟩
      have gx167 := rg x167
      have ox167 := IM.c2 hI152 R_r0_1 e168
      try simp only [e132, e133, e134, e135, e136, e137, e138, e144, e146, e148, e150, e168] at p0x151
      try have q0x151 := congrArg Int32.toInt p0x151
      try simp only [e132, e133, e134, e135, e136, e137, e138, e144, e146, e148, e150, e168] at p1x151
      try have q1x151 := congrArg Int32.toInt p1x151
      try simp only [e132, e133, e134, e135, e136, e137, e138, e144, e146, e148, e150, e168] at p2x151
      try have q2x151 := congrArg Int32.toInt p2x151
      try simp only [e132, e133, e134, e135, e136, e137, e138, e144, e146, e148, e150, e168] at p3x151
      try have q3x151 := congrArg Int32.toInt p3x151
      have hTW := p3x151
      exact k_iret C rfl (Or.inl rfl) (Nat.le_of_ble_eq_true rfl) (Nat.le_of_ble_eq_true rfl) ⟨_, _, _, rfl, rfl, by omega, by omega, fun a1 h1 => by cases (R_r0_1.symm.trans h1); first | omega | (simp only [e156, e157, e159, e160, e161, e162, e163, e164, e165, e166, e168, k0_r0_1_0, k0_r0_1_1, k0_r0_1_2, k0_r0_1_3, k0_r0_1_4, k0_r0_1_5, and_true, true_and, or_true, true_or, and_false, false_and, or_false, false_or] <;> omega), fun a1 h1 => by cases (R_r0_1.symm.trans h1); first | omega | (simp only [e156, e157, e159, e160, e161, e162, e163, e164, e165, e166, e168, k0_r0_1_0, k0_r0_1_1, k0_r0_1_2, k0_r0_1_3, k0_r0_1_4, k0_r0_1_5, and_true, true_and, or_true, true_or, and_false, false_and, or_false, false_or] <;> omega), fun a1 h1 => by cases (R_r0_1.symm.trans h1); unfold TBj; simp only [k0_r0_1_0]; exact TBX.y (by rw [e162]; omega) hw212 hTW (by rw [hk6, hs0, ht6, ho0, ht7, hq0, hw62, hw6]; rfl) (by rw [hk7, hs1, ht6, ho1, ht7, hq1, hw62, hw6]; rfl) (by rw [hk8, hs2, ht8, ho2, ht9, hq2, hw62, hw6]; rfl) (by rw [hk9, hs3, ht8, ho3, ht9, hq3, hw62, hw6]; rfl), fun a1 h1 => by cases (R_r0_1.symm.trans h1); exact (fun r z0 => ((F155 r z0).trans ((congrFun (CM.j0 S131 R_r0_1 (by decide)) r).trans ((congrFun (CM.j0 S76 R_r0_1 (by decide)) r).trans ((congrFun (CM.j0 S62 R_r0_1 (by decide)) r).trans ((congrFun (CM.j0 S41 R_r0_1 (by decide)) r).trans (congrFun (CM.j0 S3 R_r0_1 (by decide)) r))))))), hI152, (CM.cons S3 (CM.cons S41 (CM.cons S62 (CM.cons S76 (CM.cons S131 (CM.mono S154 (by decide) (by decide)) (by decide) (by decide)) (by decide) (by decide)) (by decide) (by decide)) (by decide) (by decide)) (by decide) (by decide))⟩
    first | (replace p0x38 := p0x38.resolve_left (by omega)) | (replace p0x38 := p0x38.resolve_right (by omega)) | (replace p0x38 := p0x38 (by omega)) | (have hno := imp_no p0x38 (by omega); clear hno; clear p0x38) | skip
    first | (replace p1x38 := p1x38.resolve_left (by omega)) | (replace p1x38 := p1x38.resolve_right (by omega)) | (replace p1x38 := p1x38 (by omega)) | (have hno := imp_no p1x38 (by omega); clear hno; clear p1x38) | skip
    refine z_iconst C (z := 1) rfl rfl rfl (fun x169 ex169 => ?_)
    refine k_goto C (pc2 := 51) rfl rfl ?_
    refine z_iconst C (z := 2) rfl rfl rfl (fun x170 ex170 => ?_)
    have q171 : x169.toNatClampNeg = 1 := nck (by omega)
    have q172 : x170.toNatClampNeg = 2 := nck (by omega)
    refine c_VI C (a_X12_throwsIf_e hI39 H_r0 (by omega) (by omega)) rfl rfl rfl rfl rfl ⟨_, rfl, rfl, T_r0, Nat.le_of_ble_eq_true rfl⟩ rfl rfl (Nat.le_of_ble_eq_true rfl) (Nat.le_of_ble_eq_true rfl) (Nat.le_of_ble_eq_true rfl) ?_
    rintro x173 I174 L175 ⟨o0x173, o1x173, p0x173, p1x173, hI174, S176⟩
    have e177 := CM.j S176 R_r0_1 (by decide) e42
    have e178 := CM.j S176 R_r0_1 (by decide) e43
    have e179 := CM.j S176 R_r0_1 (by decide) e44
    have e180 := CM.j S176 R_r0_1 (by decide) e45
    have e181 := CM.j S176 R_r0_1 (by decide) e46
    have e182 := CM.j S176 R_r0_1 (by decide) e47
    have gx173 := rg x173
    obtain ⟨x184, e185⟩ : ∃ x, I174 r0 0 = x := ⟨_, rfl⟩
    have gx184 := rg x184
    try simp only [q171, q172, e42, e43, e44, e45, e46, e47, e50, e185] at p0x173
    try have q0x173 := congrArg Int32.toInt p0x173
    try simp only [q171, q172, e42, e43, e44, e45, e46, e47, e50, e185] at p1x173
    try have q1x173 := congrArg Int32.toInt p1x173
    refine b_if_eq C (t := 60) rfl rfl rfl (fun c186 => by exfalso; omega) (fun c186 => ?_)
    first | (replace p0x173 := p0x173.resolve_left (by omega)) | (replace p0x173 := p0x173.resolve_right (by omega)) | (replace p0x173 := p0x173 (by omega)) | (have hno := imp_no p0x173 (by omega); clear hno; clear p0x173) | skip
    first | (replace p1x173 := p1x173.resolve_left (by omega)) | (replace p1x173 := p1x173.resolve_right (by omega)) | (replace p1x173 := p1x173 (by omega)) | (have hno := imp_no p1x173 (by omega); clear hno; clear p1x173) | skip
    refine z_iconst C (z := 0) rfl rfl rfl (fun x187 ex187 => ?_)
    exact k_iret C rfl (Or.inl rfl) (Nat.le_of_ble_eq_true rfl) (Nat.le_of_ble_eq_true rfl) ⟨_, _, _, rfl, rfl, by omega, by omega, fun a1 h1 => by cases (R_r0_1.symm.trans h1); first | omega | (simp only [e177, e178, e179, e180, e181, e182, e185, k0_r0_1_0, k0_r0_1_1, k0_r0_1_2, k0_r0_1_3, k0_r0_1_4, k0_r0_1_5, and_true, true_and, or_true, true_or, and_false, false_and, or_false, false_or] <;> omega), fun a1 h1 => by cases (R_r0_1.symm.trans h1); first | omega | (simp only [e177, e178, e179, e180, e181, e182, e185, k0_r0_1_0, k0_r0_1_1, k0_r0_1_2, k0_r0_1_3, k0_r0_1_4, k0_r0_1_5, and_true, true_and, or_true, true_or, and_false, false_and, or_false, false_or] <;> omega), fun a1 h1 => by cases (R_r0_1.symm.trans h1); unfold TBj; simp only [k0_r0_1_0]; exact TBX.n (by rw [e185]; omega) (CM.j0 (W := [0, 6, 7, 8, 9]) (WA := []) (CM.cons S3 (CM.cons S41 (CM.mono S176 (by decide) (by decide)) (by decide) (by decide)) (by decide) (by decide)) R_r0_1 (by decide)), fun a1 h1 => by cases (R_r0_1.symm.trans h1); exact (fun r z0 => ((congrFun (CM.j0 S176 R_r0_1 (by decide)) r).trans ((congrFun (CM.j0 S41 R_r0_1 (by decide)) r).trans (congrFun (CM.j0 S3 R_r0_1 (by decide)) r)))), hI174, (CM.cons S3 (CM.cons S41 (CM.mono S176 (by decide) (by decide)) (by decide) (by decide)) (by decide) (by decide))⟩
  first | (replace p0x32 := p0x32.resolve_left (by omega)) | (replace p0x32 := p0x32.resolve_right (by omega)) | (replace p0x32 := p0x32 (by omega)) | (have hno := imp_no p0x32 (by omega); clear hno; clear p0x32) | skip
  refine z_iconst C (z := 1) rfl rfl rfl (fun x188 ex188 => ?_)
  refine k_goto C (pc2 := 27) rfl rfl ?_
  refine z_iconst C (z := 1) rfl rfl rfl (fun x189 ex189 => ?_)
  have q190 : x188.toNatClampNeg = 1 := nck (by omega)
  have q191 : x189.toNatClampNeg = 1 := nck (by omega)
  refine c_VI C (a_X12_throwsIf_e hI2 H_r0 (by omega) (by omega)) rfl rfl rfl rfl rfl ⟨_, rfl, rfl, T_r0, Nat.le_of_ble_eq_true rfl⟩ rfl rfl (Nat.le_of_ble_eq_true rfl) (Nat.le_of_ble_eq_true rfl) (Nat.le_of_ble_eq_true rfl) ?_
  rintro x192 I193 L194 ⟨o0x192, o1x192, p0x192, p1x192, hI193, S195⟩
  have e196 := CM.j S195 R_r0_1 (by decide) e4
  have e197 := CM.j S195 R_r0_1 (by decide) e5
  have e198 := CM.j S195 R_r0_1 (by decide) e6
  have e199 := CM.j S195 R_r0_1 (by decide) e7
  have e200 := CM.j S195 R_r0_1 (by decide) e8
  have e201 := CM.j S195 R_r0_1 (by decide) e9
  have gx192 := rg x192
  obtain ⟨x203, e204⟩ : ∃ x, I193 r0 0 = x := ⟨_, rfl⟩
  have gx203 := rg x203
  try simp only [q190, q191, e4, e5, e6, e7, e8, e9, e10, e204] at p0x192
  try have q0x192 := congrArg Int32.toInt p0x192
  try simp only [q190, q191, e4, e5, e6, e7, e8, e9, e10, e204] at p1x192
  try have q1x192 := congrArg Int32.toInt p1x192
  refine b_if_ne C (t := 58) rfl rfl rfl (fun c205 => ?_) (fun c205 => by exfalso; omega)
  first | (replace p0x192 := p0x192.resolve_left (by omega)) | (replace p0x192 := p0x192.resolve_right (by omega)) | (replace p0x192 := p0x192 (by omega)) | (have hno := imp_no p0x192 (by omega); clear hno; clear p0x192) | skip
  first | (replace p1x192 := p1x192.resolve_left (by omega)) | (replace p1x192 := p1x192.resolve_right (by omega)) | (replace p1x192 := p1x192 (by omega)) | (have hno := imp_no p1x192 (by omega); clear hno; clear p1x192) | skip
  refine z_iconst C (z := 0) rfl rfl rfl (fun x206 ex206 => ?_)
  exact k_iret C rfl (Or.inl rfl) (Nat.le_of_ble_eq_true rfl) (Nat.le_of_ble_eq_true rfl) ⟨_, _, _, rfl, rfl, by omega, by omega, fun a1 h1 => by cases (R_r0_1.symm.trans h1); first | omega | (simp only [e196, e197, e198, e199, e200, e201, e204, k0_r0_1_0, k0_r0_1_1, k0_r0_1_2, k0_r0_1_3, k0_r0_1_4, k0_r0_1_5, and_true, true_and, or_true, true_or, and_false, false_and, or_false, false_or] <;> omega), fun a1 h1 => by cases (R_r0_1.symm.trans h1); first | omega | (simp only [e196, e197, e198, e199, e200, e201, e204, k0_r0_1_0, k0_r0_1_1, k0_r0_1_2, k0_r0_1_3, k0_r0_1_4, k0_r0_1_5, and_true, true_and, or_true, true_or, and_false, false_and, or_false, false_or] <;> omega), fun a1 h1 => by cases (R_r0_1.symm.trans h1); unfold TBj; simp only [k0_r0_1_0]; exact TBX.n (by rw [e204]; omega) (CM.j0 (W := [0, 6, 7, 8, 9]) (WA := []) (CM.cons S3 (CM.mono S195 (by decide) (by decide)) (by decide) (by decide)) R_r0_1 (by decide)), fun a1 h1 => by cases (R_r0_1.symm.trans h1); exact (fun r z0 => ((congrFun (CM.j0 S195 R_r0_1 (by decide)) r).trans (congrFun (CM.j0 S3 R_r0_1 (by decide)) r))), hI193, (CM.cons S3 (CM.mono S195 (by decide) (by decide)) (by decide) (by decide))⟩

set_option maxHeartbeats 8000000 in
theorem a_X12_turn_x {d : Nat} {T N : Nat → Nat} {I : IT} {L : LT} {R : RT} {A : Nat → Prop} {r0 : Nat} {n1 : Int32} (hI : IM R r0 I) (H_r0 : (h_MD T N R A) r0) : Ex (d + 6) 238 [.ref r0, .int n1] (T, N, I, L, R) 0 0 (pI T N R (fun x9 I9 L9 => (-1 ≤ x9.toInt) ∧ (x9.toInt ≤ 7) ∧ (∀ a1, R r0 1 = some a1 → (I a1 4).toInt + (I a1 5).toInt ≤ 40 → (I9 a1 4).toInt + (I9 a1 5).toInt ≤ 40) ∧ (∀ a1, R r0 1 = some a1 → (n1.toInt < 0 ∨ (I a1 2).toInt ≤ n1.toInt) ∧ (I9 r0 0).toInt = 1 ∧ (I9 a1 2).toInt = (I a1 2).toInt ∨ ¬ (n1.toInt < 0 ∨ (I a1 2).toInt ≤ n1.toInt) ∧ (I a1 2).toInt = 8 ∧ (I9 r0 0).toInt = 2 ∧ (I9 a1 2).toInt = (I a1 2).toInt ∨ ¬ (n1.toInt < 0 ∨ (I a1 2).toInt ≤ n1.toInt) ∧ (I a1 2).toInt < 8 ∧ (I9 r0 0).toInt = 0 ∧ x9.toInt = (I a1 2).toInt ∧ (I9 a1 2).toInt = (I a1 2).toInt + 1) ∧ (∀ a1, R r0 1 = some a1 → TBt (I9 a1) (I a1) (I9 r0 0).toInt n1.toNatClampNeg) ∧ (∀ a1, R r0 1 = some a1 → ∀ r : Nat, r ≠ 2 ∧ r < 166 → I9 a1 r = I a1 r) ∧ (IM R r0 I9 ∧ CM A R r0 [0, 6, 7, 8, 9] [1] I L I9 L9))) := by
  refine ⟨_, rfl, Nat.le_of_ble_eq_true rfl, fun V C S => ?_⟩
  show V 0 [(0, .ref r0), (1, .int n1)] [] (T, N, I, L, R) 0 0
  have gn1 := rg n1
  obtain ⟨T_r0, A_r0, ⟨r0_1, R_r0_1, H_r0_1⟩, ⟨r0_2, R_r0_2, H_r0_2⟩, ⟨r0_4, R_r0_4, H_r0_4⟩, ⟨r0_5, R_r0_5, H_r0_5⟩, ⟨r0_10, R_r0_10, H_r0_10⟩, ⟨r0_18, R_r0_18, H_r0_18⟩, ⟨r0_20, R_r0_20, H_r0_20⟩, ⟨r0_21, R_r0_21, H_r0_21⟩, ⟨r0_22, R_r0_22, H_r0_22⟩, ⟨r0_23, R_r0_23, H_r0_23⟩, ⟨r0_25, R_r0_25, H_r0_25⟩, ⟨r0_26, R_r0_26, H_r0_26⟩, ⟨r0_27, R_r0_27, H_r0_27⟩, ⟨r0_28, R_r0_28, H_r0_28⟩, ⟨r0_34, R_r0_34, H_r0_34⟩, J_r0, Y_r0⟩ := id H_r0
  have G_r0 : mF T R r0 := ⟨J_r0, Y_r0, T_r0⟩
  obtain ⟨w_r0_1_0, k0_r0_1_0⟩ : ∃ x, I r0_1 0 = x := ⟨_, rfl⟩
  have gw_r0_1_0 := rg w_r0_1_0
  have ow_r0_1_0 := IM.pi hI R_r0_1 k0_r0_1_0
  obtain ⟨w_r0_1_1, k0_r0_1_1⟩ : ∃ x, I r0_1 1 = x := ⟨_, rfl⟩
  have gw_r0_1_1 := rg w_r0_1_1
  have ow_r0_1_1 := IM.c1 hI R_r0_1 k0_r0_1_1
  obtain ⟨w_r0_1_2, k0_r0_1_2⟩ : ∃ x, I r0_1 2 = x := ⟨_, rfl⟩
  have gw_r0_1_2 := rg w_r0_1_2
  have ow_r0_1_2 := IM.c2 hI R_r0_1 k0_r0_1_2
  obtain ⟨w_r0_1_3, k0_r0_1_3⟩ : ∃ x, I r0_1 3 = x := ⟨_, rfl⟩
  have gw_r0_1_3 := rg w_r0_1_3
  have ow_r0_1_3 := IM.c3 hI R_r0_1 k0_r0_1_3
  obtain ⟨w_r0_1_4, k0_r0_1_4⟩ : ∃ x, I r0_1 4 = x := ⟨_, rfl⟩
  have gw_r0_1_4 := rg w_r0_1_4
  have ow_r0_1_4 := IM.c4 hI R_r0_1 k0_r0_1_4
  obtain ⟨w_r0_1_5, k0_r0_1_5⟩ : ∃ x, I r0_1 5 = x := ⟨_, rfl⟩
  have gw_r0_1_5 := rg w_r0_1_5
  have ow_r0_1_5 := IM.c5 hI R_r0_1 k0_r0_1_5
  refine k_aload_n C rfl rfl rfl ?_
  refine z_iconst C (z := 0) rfl rfl rfl (fun x1 ex1 => ?_)
  refine z_pI C rfl rfl rfl T_r0 (Or.inr rfl) rfl (fun I2 uI2 => ?_)
  have hI2 : IM R r0 I2 := IM.fld hI G_r0 ⟨(fun h => absurd h (by decide)), (fun h => absurd h (by decide)), (fun h => absurd h (by decide)), (fun h => absurd h (by decide)), (fun h => absurd h (by decide))⟩ uI2
  have S3 : CM A R r0 [0] [] I L I2 L := CM.f G_r0 A_r0 uI2
  have e4 := u2_n uI2 (mF.ne G_r0 R_r0_1) k0_r0_1_0
  have e5 := u2_n uI2 (mF.ne G_r0 R_r0_1) k0_r0_1_1
  have e6 := u2_n uI2 (mF.ne G_r0 R_r0_1) k0_r0_1_2
  have e7 := u2_n uI2 (mF.ne G_r0 R_r0_1) k0_r0_1_3
  have e8 := u2_n uI2 (mF.ne G_r0 R_r0_1) k0_r0_1_4
  have e9 := u2_n uI2 (mF.ne G_r0 R_r0_1) k0_r0_1_5
  have e10 := u2_e uI2
  refine k_aload_n C rfl rfl rfl ?_
  refine k_aload_n C rfl rfl rfl ?_
  refine k_iload_n C rfl rfl rfl ?_
  refine c_VI C (a_X12_noTable_e hI2 H_r0) rfl rfl rfl rfl rfl ⟨_, rfl, rfl, T_r0, Nat.le_of_ble_eq_true rfl⟩ rfl rfl (Nat.le_of_ble_eq_true rfl) (Nat.le_of_ble_eq_true rfl) (Nat.le_of_ble_eq_true rfl) ?_
  rintro x11 _ _ ⟨o0x11, o1x11, p0x11, rfl, rfl⟩
  have p0x11 := p0x11 r0_1 R_r0_1
  have gx11 := rg x11
  try simp only [e4, e5, e6, e7, e8, e9, e10, e6] at p0x11
  try have q0x11 := congrArg Int32.toInt p0x11
  refine z_iconst C (z := 1) rfl rfl rfl (fun x12 ex12 => ?_)
  have q13 : x12.toNatClampNeg = 1 := nck (by omega)
  refine c_VI C (a_X12_throwsIf_e hI2 H_r0 (by omega) (by omega)) rfl rfl rfl rfl rfl ⟨_, rfl, rfl, T_r0, Nat.le_of_ble_eq_true rfl⟩ rfl rfl (Nat.le_of_ble_eq_true rfl) (Nat.le_of_ble_eq_true rfl) (Nat.le_of_ble_eq_true rfl) ?_
  rintro x14 I15 L16 ⟨o0x14, o1x14, p0x14, p1x14, hI15, S17⟩
  have e18 := CM.j S17 R_r0_1 (by decide) e4
  have e19 := CM.j S17 R_r0_1 (by decide) e5
  have e20 := CM.j S17 R_r0_1 (by decide) e6
  have e21 := CM.j S17 R_r0_1 (by decide) e7
  have e22 := CM.j S17 R_r0_1 (by decide) e8
  have e23 := CM.j S17 R_r0_1 (by decide) e9
  have gx14 := rg x14
  obtain ⟨x25, e26⟩ : ∃ x, I15 r0 0 = x := ⟨_, rfl⟩
  have gx25 := rg x25
  try simp only [q13, e4, e5, e6, e7, e8, e9, e10, e26] at p0x14
  try have q0x14 := congrArg Int32.toInt p0x14
  try simp only [q13, e4, e5, e6, e7, e8, e9, e10, e26] at p1x14
  try have q1x14 := congrArg Int32.toInt p1x14
  refine b_if_ne C (t := 42) rfl rfl rfl (fun c27 => ?_) (fun c27 => ?_)
  · skip
    first | (replace p0x11 := p0x11.resolve_left (by omega)) | (replace p0x11 := p0x11.resolve_right (by omega)) | (replace p0x11 := p0x11 (by omega)) | (have hno := imp_no p0x11 (by omega); clear hno; clear p0x11) | skip
    first | (replace p0x14 := p0x14.resolve_left (by omega)) | (replace p0x14 := p0x14.resolve_right (by omega)) | (replace p0x14 := p0x14 (by omega)) | (have hno := imp_no p0x14 (by omega); clear hno; clear p0x14) | skip
    first | (replace p1x14 := p1x14.resolve_left (by omega)) | (replace p1x14 := p1x14.resolve_right (by omega)) | (replace p1x14 := p1x14 (by omega)) | (have hno := imp_no p1x14 (by omega); clear hno; clear p1x14) | skip
    refine z_iconst C (z := 0) rfl rfl rfl (fun x28 ex28 => ?_)
    exact k_iret C rfl (Or.inl rfl) (Nat.le_of_ble_eq_true rfl) (Nat.le_of_ble_eq_true rfl) ⟨_, _, _, rfl, rfl, by omega, by omega, fun a1 h1 => by cases (R_r0_1.symm.trans h1); first | omega | (simp only [e18, e19, e20, e21, e22, e23, e26, k0_r0_1_0, k0_r0_1_1, k0_r0_1_2, k0_r0_1_3, k0_r0_1_4, k0_r0_1_5, and_true, true_and, or_true, true_or, and_false, false_and, or_false, false_or] <;> omega), fun a1 h1 => by cases (R_r0_1.symm.trans h1); first | omega | (simp only [e18, e19, e20, e21, e22, e23, e26, k0_r0_1_0, k0_r0_1_1, k0_r0_1_2, k0_r0_1_3, k0_r0_1_4, k0_r0_1_5, and_true, true_and, or_true, true_or, and_false, false_and, or_false, false_or] <;> omega), fun a1 h1 => by cases (R_r0_1.symm.trans h1); exact TBt.n (by rw [e26]; omega) (CM.j0 (W := [0, 6, 7, 8, 9]) (WA := []) (CM.cons S3 (CM.mono S17 (by decide) (by decide)) (by decide) (by decide)) R_r0_1 (by decide)), fun a1 h1 => by cases (R_r0_1.symm.trans h1); exact (fun r z0 => ((congrFun (CM.j0 S17 R_r0_1 (by decide)) r).trans (congrFun (CM.j0 S3 R_r0_1 (by decide)) r))), hI15, (CM.cons S3 (CM.mono S17 (by decide) (by decide)) (by decide) (by decide))⟩
  first | (replace p0x11 := p0x11.resolve_left (by omega)) | (replace p0x11 := p0x11.resolve_right (by omega)) | (replace p0x11 := p0x11 (by omega)) | (have hno := imp_no p0x11 (by omega); clear hno; clear p0x11) | skip
  first | (replace p0x14 := p0x14.resolve_left (by omega)) | (replace p0x14 := p0x14.resolve_right (by omega)) | (replace p0x14 := p0x14 (by omega)) | (have hno := imp_no p0x14 (by omega); clear hno; clear p0x14) | skip
  first | (replace p1x14 := p1x14.resolve_left (by omega)) | (replace p1x14 := p1x14.resolve_right (by omega)) | (replace p1x14 := p1x14 (by omega)) | (have hno := imp_no p1x14 (by omega); clear hno; clear p1x14) | skip
  refine k_aload_n C rfl rfl rfl ?_
  refine k_aload_n C rfl rfl rfl ?_
  refine g_R C rfl rfl rfl T_r0 rfl R_r0_1 ?_
  refine z_iconst C (z := 2) rfl rfl rfl (fun x29 ex29 => ?_)
  obtain ⟨T_r0_1, N_r0_1, A_r0_1⟩ := id H_r0_1
  refine a_I C rfl rfl T_r0_1 (by rw [N_r0_1]; exact vpi (by omega) (by omega)) ((congrArg (I15 r0_1) (nck (n := 2) (by omega))).trans e20) ?_
  refine z_bipush C (z := 8) rfl rfl rfl (fun x30 ex30 => ?_)
  refine b_icmp_ne C (t := 34) rfl rfl rfl (fun c31 => ?_) (fun c31 => ?_)
  · skip
    first | (replace p0x11 := p0x11.resolve_left (by omega)) | (replace p0x11 := p0x11.resolve_right (by omega)) | (replace p0x11 := p0x11 (by omega)) | (have hno := imp_no p0x11 (by omega); clear hno; clear p0x11) | skip
    first | (replace p0x14 := p0x14.resolve_left (by omega)) | (replace p0x14 := p0x14.resolve_right (by omega)) | (replace p0x14 := p0x14 (by omega)) | (have hno := imp_no p0x14 (by omega); clear hno; clear p0x14) | skip
    first | (replace p1x14 := p1x14.resolve_left (by omega)) | (replace p1x14 := p1x14.resolve_right (by omega)) | (replace p1x14 := p1x14 (by omega)) | (have hno := imp_no p1x14 (by omega); clear hno; clear p1x14) | skip
    refine z_iconst C (z := 0) rfl rfl rfl (fun x32 ex32 => ?_)
    refine z_iconst C (z := 2) rfl rfl rfl (fun x33 ex33 => ?_)
    have q34 : x32.toNatClampNeg = 0 := nck (by omega)
    have q35 : x33.toNatClampNeg = 2 := nck (by omega)
    refine c_VI C (a_X12_throwsIf_e hI15 H_r0 (by omega) (by omega)) rfl rfl rfl rfl rfl ⟨_, rfl, rfl, T_r0, Nat.le_of_ble_eq_true rfl⟩ rfl rfl (Nat.le_of_ble_eq_true rfl) (Nat.le_of_ble_eq_true rfl) (Nat.le_of_ble_eq_true rfl) ?_
    rintro x36 I37 L38 ⟨o0x36, o1x36, p0x36, p1x36, hI37, S39⟩
    have e40 := CM.j S39 R_r0_1 (by decide) e18
    have e41 := CM.j S39 R_r0_1 (by decide) e19
    have e42 := CM.j S39 R_r0_1 (by decide) e20
    have e43 := CM.j S39 R_r0_1 (by decide) e21
    have e44 := CM.j S39 R_r0_1 (by decide) e22
    have e45 := CM.j S39 R_r0_1 (by decide) e23
    have gx36 := rg x36
    obtain ⟨x47, e48⟩ : ∃ x, I37 r0 0 = x := ⟨_, rfl⟩
    have gx47 := rg x47
    try simp only [q34, q35, e18, e19, e20, e21, e22, e23, e26, e48] at p0x36
    try have q0x36 := congrArg Int32.toInt p0x36
    try simp only [q34, q35, e18, e19, e20, e21, e22, e23, e26, e48] at p1x36
    try have q1x36 := congrArg Int32.toInt p1x36
    refine b_if_eq C (t := 44) rfl rfl rfl (fun c49 => ?_) (fun c49 => by exfalso; omega)
    first | (replace p0x36 := p0x36.resolve_left (by omega)) | (replace p0x36 := p0x36.resolve_right (by omega)) | (replace p0x36 := p0x36 (by omega)) | (have hno := imp_no p0x36 (by omega); clear hno; clear p0x36) | skip
    first | (replace p1x36 := p1x36.resolve_left (by omega)) | (replace p1x36 := p1x36.resolve_right (by omega)) | (replace p1x36 := p1x36 (by omega)) | (have hno := imp_no p1x36 (by omega); clear hno; clear p1x36) | skip
    refine k_aload_n C rfl rfl rfl ?_
    refine k_iload_n C rfl rfl rfl ?_
    have hw46 := CM.j0 (W := [0, 6, 7, 8, 9]) (WA := []) (CM.cons S3 (CM.cons S17 (CM.mono S39 (by decide) (by decide)) (by decide) (by decide)) (by decide) (by decide)) R_r0_1 (by decide)
    refine c_VV C (a_X12_tables_x hI37 H_r0 (by omega) (by omega)) rfl rfl rfl rfl rfl ⟨_, rfl, rfl, T_r0, Nat.le_of_ble_eq_true rfl⟩ rfl rfl (Nat.le_of_ble_eq_true rfl) (Nat.le_of_ble_eq_true rfl) (Nat.le_of_ble_eq_true rfl) ?_
    rintro I51 L52 ⟨p0v50, p1v50, p2v50, p3v50, hI51, S53⟩
    have p0v50 := p0v50 r0_1 R_r0_1
    have p1v50 := p1v50 r0_1 R_r0_1
    have p2v50 := p2v50 r0_1 R_r0_1
    have p3v50 := p3v50 r0_1 R_r0_1
    have e54 := CM.j S53 R_r0_1 (by decide) e40
    have e55 := CM.j S53 R_r0_1 (by decide) e41
    have e56 := CM.j S53 R_r0_1 (by decide) e42
    have e57 := CM.j S53 R_r0_1 (by decide) e43
    have e58 := CM.j S53 R_r0_1 (by decide) e44
    have e59 := CM.j S53 R_r0_1 (by decide) e45
    have e60 := CM.k S53 (by decide) e48
    obtain ⟨x61, e62⟩ : ∃ x, I51 r0 6 = x := ⟨_, rfl⟩
    have gx61 := rg x61
    have ox61 := IM.f6 hI51 e62
    obtain ⟨x63, e64⟩ : ∃ x, I51 r0 7 = x := ⟨_, rfl⟩
    have gx63 := rg x63
    have ox63 := IM.f7 hI51 e64
    obtain ⟨x65, e66⟩ : ∃ x, I51 r0 8 = x := ⟨_, rfl⟩
    have gx65 := rg x65
    have ox65 := IM.f8 hI51 e66
    obtain ⟨x67, e68⟩ : ∃ x, I51 r0 9 = x := ⟨_, rfl⟩
    have gx67 := rg x67
    have ox67 := IM.f9 hI51 e68
    try simp only [e40, e41, e42, e43, e44, e45, e48, e62, e64, e66, e68] at p0v50
    try have q0v50 := congrArg Int32.toInt p0v50
    try simp only [e40, e41, e42, e43, e44, e45, e48, e62, e64, e66, e68] at p1v50
    try have q1v50 := congrArg Int32.toInt p1v50
    try simp only [e40, e41, e42, e43, e44, e45, e48, e62, e64, e66, e68] at p2v50
    try have q2v50 := congrArg Int32.toInt p2v50
    try simp only [e40, e41, e42, e43, e44, e45, e48, e62, e64, e66, e68] at p3v50
    try have q3v50 := congrArg Int32.toInt p3v50
    have ht6 := p0v50
    have ht7 := p1v50
    have ht8 := p2v50
    have ht9 := p3v50
    refine k_aload_n C rfl rfl rfl ?_
    refine c_VV C (a_X12_turnsBack_x hI51 H_r0) rfl rfl rfl rfl rfl ⟨_, rfl, rfl, T_r0, Nat.le_of_ble_eq_true rfl⟩ rfl rfl (Nat.le_of_ble_eq_true rfl) (Nat.le_of_ble_eq_true rfl) (Nat.le_of_ble_eq_true rfl) ?_
    rintro I70 L71 ⟨p0v69, hI70, S72⟩
    have p0v69 := p0v69 r0_1 R_r0_1
    have e73 := CM.j S72 R_r0_1 (by decide) e54
    have e74 := CM.j S72 R_r0_1 (by decide) e55
    have e75 := CM.j S72 R_r0_1 (by decide) e56
    have e76 := CM.j S72 R_r0_1 (by decide) e57
    have e77 := CM.j S72 R_r0_1 (by decide) e58
    have e78 := CM.j S72 R_r0_1 (by decide) e59
    have e79 := CM.k S72 (by decide) e60
    obtain ⟨x84, e85⟩ : ∃ x, I70 r0 6 = x := ⟨_, rfl⟩
    have gx84 := rg x84
    have ox84 := IM.f6 hI70 e85
    obtain ⟨x86, e87⟩ : ∃ x, I70 r0 7 = x := ⟨_, rfl⟩
    have gx86 := rg x86
    have ox86 := IM.f7 hI70 e87
    obtain ⟨x88, e89⟩ : ∃ x, I70 r0 8 = x := ⟨_, rfl⟩
    have gx88 := rg x88
    have ox88 := IM.f8 hI70 e89
    obtain ⟨x90, e91⟩ : ∃ x, I70 r0 9 = x := ⟨_, rfl⟩
    have gx90 := rg x90
    have ox90 := IM.f9 hI70 e91
    try simp only [e54, e55, e56, e57, e58, e59, e60, e62, e64, e66, e68, e85, e87, e89, e91] at p0v69
    try have q0v69 := congrArg Int32.toInt p0v69
    have hTK := p0v69
    refine k_aload_n C rfl rfl rfl ?_
    have hw54 := CM.j0 (W := [0, 6, 7, 8, 9]) (WA := []) (CM.cons S3 (CM.cons S17 (CM.cons S39 (CM.cons S53 (CM.mono S72 (by decide) (by decide)) (by decide) (by decide)) (by decide) (by decide)) (by decide) (by decide)) (by decide) (by decide)) R_r0_1 (by decide)
    refine c_VI C (a_X12_lays_x hI70 H_r0 (fun a1 h1 => by cases (R_r0_1.symm.trans h1); first | omega | (simp only [e73, e74, e75, e76, e77, e78, e79, e85, e87, e89, e91, and_true, true_and, or_true, true_or, and_false, false_and, or_false, false_or] <;> omega))) rfl rfl rfl rfl rfl ⟨_, rfl, rfl, T_r0, Nat.le_of_ble_eq_true rfl⟩ rfl rfl (Nat.le_of_ble_eq_true rfl) (Nat.le_of_ble_eq_true rfl) (Nat.le_of_ble_eq_true rfl) ?_
    rintro x92 I93 L94 ⟨o0x92, o1x92, p0x92, p1x92, p2x92, p3x92, p4x92, hI93, S95⟩
    have p0x92 := p0x92 r0_1 R_r0_1
    have p1x92 := p1x92 r0_1 R_r0_1
    have p2x92 := p2x92 r0_1 R_r0_1
    have p3x92 := p3x92 r0_1 R_r0_1
    have p4x92 := p4x92 r0_1 R_r0_1
    have F96 : ∀ r : Nat, r ≠ 2 ∧ r < 166 → I93 r0_1 r = I70 r0_1 r := fun r z0 => p4x92 r z0
    have e97 := (p4x92 0 (by decide)).trans e73
    have e98 := (p4x92 1 (by decide)).trans e74
    have e100 := (p4x92 3 (by decide)).trans e76
    have e101 := (p4x92 4 (by decide)).trans e77
    have e102 := (p4x92 5 (by decide)).trans e78
    have e103 := CM.k S95 (by decide) e79
    have e104 := CM.k S95 (by decide) e85
    have e105 := CM.k S95 (by decide) e87
    have e106 := CM.k S95 (by decide) e89
    have e107 := CM.k S95 (by decide) e91
    have gx92 := rg x92
    obtain ⟨x108, e109⟩ : ∃ x, I93 r0_1 2 = x := ⟨_, rfl⟩
    have gx108 := rg x108
    have ox108 := IM.c2 hI93 R_r0_1 e109
    try simp only [e73, e74, e75, e76, e77, e78, e79, e85, e87, e89, e91, e109] at p0x92
    try have q0x92 := congrArg Int32.toInt p0x92
    try simp only [e73, e74, e75, e76, e77, e78, e79, e85, e87, e89, e91, e109] at p1x92
    try have q1x92 := congrArg Int32.toInt p1x92
    try simp only [e73, e74, e75, e76, e77, e78, e79, e85, e87, e89, e91, e109] at p2x92
    try have q2x92 := congrArg Int32.toInt p2x92
    try simp only [e73, e74, e75, e76, e77, e78, e79, e85, e87, e89, e91, e109] at p3x92
    try have q3x92 := congrArg Int32.toInt p3x92
    have hTW := p3x92
    exact k_iret C rfl (Or.inl rfl) (Nat.le_of_ble_eq_true rfl) (Nat.le_of_ble_eq_true rfl) ⟨_, _, _, rfl, rfl, by omega, by omega, fun a1 h1 => by cases (R_r0_1.symm.trans h1); first | omega | (simp only [e97, e98, e100, e101, e102, e103, e104, e105, e106, e107, e109, k0_r0_1_0, k0_r0_1_1, k0_r0_1_2, k0_r0_1_3, k0_r0_1_4, k0_r0_1_5, and_true, true_and, or_true, true_or, and_false, false_and, or_false, false_or] <;> omega), fun a1 h1 => by cases (R_r0_1.symm.trans h1); first | omega | (simp only [e97, e98, e100, e101, e102, e103, e104, e105, e106, e107, e109, k0_r0_1_0, k0_r0_1_1, k0_r0_1_2, k0_r0_1_3, k0_r0_1_4, k0_r0_1_5, and_true, true_and, or_true, true_or, and_false, false_and, or_false, false_or] <;> omega), fun a1 h1 => by cases (R_r0_1.symm.trans h1); rw [hw46] at ht6 ht7 ht8 ht9; exact TBt.y (by rw [e103]; omega) hw54 hTW rfl rfl rfl rfl hTK (by rw [ht6]; rfl) (by rw [ht7]; rfl) (by rw [ht8]; rfl) (by rw [ht9]; rfl) (by rw [k0_r0_1_0]), fun a1 h1 => by cases (R_r0_1.symm.trans h1); exact (fun r z0 => ((F96 r z0).trans ((congrFun (CM.j0 S72 R_r0_1 (by decide)) r).trans ((congrFun (CM.j0 S53 R_r0_1 (by decide)) r).trans ((congrFun (CM.j0 S39 R_r0_1 (by decide)) r).trans ((congrFun (CM.j0 S17 R_r0_1 (by decide)) r).trans (congrFun (CM.j0 S3 R_r0_1 (by decide)) r))))))), hI93, (CM.cons S3 (CM.cons S17 (CM.cons S39 (CM.cons S53 (CM.cons S72 (CM.mono S95 (by decide) (by decide)) (by decide) (by decide)) (by decide) (by decide)) (by decide) (by decide)) (by decide) (by decide)) (by decide) (by decide))⟩
  first | (replace p0x11 := p0x11.resolve_left (by omega)) | (replace p0x11 := p0x11.resolve_right (by omega)) | (replace p0x11 := p0x11 (by omega)) | (have hno := imp_no p0x11 (by omega); clear hno; clear p0x11) | skip
  first | (replace p0x14 := p0x14.resolve_left (by omega)) | (replace p0x14 := p0x14.resolve_right (by omega)) | (replace p0x14 := p0x14 (by omega)) | (have hno := imp_no p0x14 (by omega); clear hno; clear p0x14) | skip
  first | (replace p1x14 := p1x14.resolve_left (by omega)) | (replace p1x14 := p1x14.resolve_right (by omega)) | (replace p1x14 := p1x14 (by omega)) | (have hno := imp_no p1x14 (by omega); clear hno; clear p1x14) | skip
  refine z_iconst C (z := 1) rfl rfl rfl (fun x110 ex110 => ?_)
  refine k_goto C (pc2 := 35) rfl rfl ?_
  refine z_iconst C (z := 2) rfl rfl rfl (fun x111 ex111 => ?_)
  have q112 : x110.toNatClampNeg = 1 := nck (by omega)
  have q113 : x111.toNatClampNeg = 2 := nck (by omega)
  refine c_VI C (a_X12_throwsIf_e hI15 H_r0 (by omega) (by omega)) rfl rfl rfl rfl rfl ⟨_, rfl, rfl, T_r0, Nat.le_of_ble_eq_true rfl⟩ rfl rfl (Nat.le_of_ble_eq_true rfl) (Nat.le_of_ble_eq_true rfl) (Nat.le_of_ble_eq_true rfl) ?_
  rintro x114 I115 L116 ⟨o0x114, o1x114, p0x114, p1x114, hI115, S117⟩
  have e118 := CM.j S117 R_r0_1 (by decide) e18
  have e119 := CM.j S117 R_r0_1 (by decide) e19
  have e120 := CM.j S117 R_r0_1 (by decide) e20
  have e121 := CM.j S117 R_r0_1 (by decide) e21
  have e122 := CM.j S117 R_r0_1 (by decide) e22
  have e123 := CM.j S117 R_r0_1 (by decide) e23
  have gx114 := rg x114
  obtain ⟨x125, e126⟩ : ∃ x, I115 r0 0 = x := ⟨_, rfl⟩
  have gx125 := rg x125
  try simp only [q112, q113, e18, e19, e20, e21, e22, e23, e26, e126] at p0x114
  try have q0x114 := congrArg Int32.toInt p0x114
  try simp only [q112, q113, e18, e19, e20, e21, e22, e23, e26, e126] at p1x114
  try have q1x114 := congrArg Int32.toInt p1x114
  refine b_if_eq C (t := 44) rfl rfl rfl (fun c127 => by exfalso; omega) (fun c127 => ?_)
  first | (replace p0x114 := p0x114.resolve_left (by omega)) | (replace p0x114 := p0x114.resolve_right (by omega)) | (replace p0x114 := p0x114 (by omega)) | (have hno := imp_no p0x114 (by omega); clear hno; clear p0x114) | skip
  first | (replace p1x114 := p1x114.resolve_left (by omega)) | (replace p1x114 := p1x114.resolve_right (by omega)) | (replace p1x114 := p1x114 (by omega)) | (have hno := imp_no p1x114 (by omega); clear hno; clear p1x114) | skip
  refine z_iconst C (z := 0) rfl rfl rfl (fun x128 ex128 => ?_)
  exact k_iret C rfl (Or.inl rfl) (Nat.le_of_ble_eq_true rfl) (Nat.le_of_ble_eq_true rfl) ⟨_, _, _, rfl, rfl, by omega, by omega, fun a1 h1 => by cases (R_r0_1.symm.trans h1); first | omega | (simp only [e118, e119, e120, e121, e122, e123, e126, k0_r0_1_0, k0_r0_1_1, k0_r0_1_2, k0_r0_1_3, k0_r0_1_4, k0_r0_1_5, and_true, true_and, or_true, true_or, and_false, false_and, or_false, false_or] <;> omega), fun a1 h1 => by cases (R_r0_1.symm.trans h1); first | omega | (simp only [e118, e119, e120, e121, e122, e123, e126, k0_r0_1_0, k0_r0_1_1, k0_r0_1_2, k0_r0_1_3, k0_r0_1_4, k0_r0_1_5, and_true, true_and, or_true, true_or, and_false, false_and, or_false, false_or] <;> omega), fun a1 h1 => by cases (R_r0_1.symm.trans h1); exact TBt.n (by rw [e126]; omega) (CM.j0 (W := [0, 6, 7, 8, 9]) (WA := []) (CM.cons S3 (CM.cons S17 (CM.mono S117 (by decide) (by decide)) (by decide) (by decide)) (by decide) (by decide)) R_r0_1 (by decide)), fun a1 h1 => by cases (R_r0_1.symm.trans h1); exact (fun r z0 => ((congrFun (CM.j0 S117 R_r0_1 (by decide)) r).trans ((congrFun (CM.j0 S17 R_r0_1 (by decide)) r).trans (congrFun (CM.j0 S3 R_r0_1 (by decide)) r)))), hI115, (CM.cons S3 (CM.cons S17 (CM.mono S117 (by decide) (by decide)) (by decide) (by decide)) (by decide) (by decide))⟩

theorem a_X12_mixesForm_x {d : Nat} {T N : Nat → Nat} {I : IT} {L : LT} {R : RT} {A : Nat → Prop} {r0 : Nat} {n1 : Int32} (hI : IM R r0 I) (H_r0 : (h_MD T N R A) r0) (b0_n1 : 0 ≤ n1.toInt) (b1_n1 : n1.toInt ≤ 15) : Ex (d + 5) 243 [.ref r0, .int n1] (T, N, I, L, R) 0 0 (pI T N R (fun x9 I9 L9 => (0 ≤ x9.toInt) ∧ (x9.toInt ≤ 1) ∧ (∀ a1, R r0 1 = some a1 → (I a1 4).toInt + (I a1 5).toInt ≤ 40 → (I9 a1 4).toInt + (I9 a1 5).toInt ≤ 40) ∧ (∀ a1, R r0 1 = some a1 → MFD (I9 a1) (I a1) n1.toNatClampNeg (I r0 6).toInt (I r0 7).toInt (I r0 8).toInt (I r0 9).toInt (I a1 0).toInt) ∧ (∀ a1, R r0 1 = some a1 → MFX x9.toInt (I9 a1) (I a1) n1.toNatClampNeg) ∧ (∀ a1, R r0 1 = some a1 → ∀ r : Nat, r < 4 → I9 a1 r = I a1 r) ∧ (IM R r0 I9 ∧ CM A R r0 [] [1, 4, 5] I L I9 L9))) := by
  refine ⟨_, rfl, Nat.le_of_ble_eq_true rfl, fun V C S => ?_⟩
  show V 0 [(0, .ref r0), (1, .int n1)] [] (T, N, I, L, R) 0 0
  have gn1 := rg n1
  obtain ⟨T_r0, A_r0, ⟨r0_1, R_r0_1, H_r0_1⟩, ⟨r0_2, R_r0_2, H_r0_2⟩, ⟨r0_4, R_r0_4, H_r0_4⟩, ⟨r0_5, R_r0_5, H_r0_5⟩, ⟨r0_10, R_r0_10, H_r0_10⟩, ⟨r0_18, R_r0_18, H_r0_18⟩, ⟨r0_20, R_r0_20, H_r0_20⟩, ⟨r0_21, R_r0_21, H_r0_21⟩, ⟨r0_22, R_r0_22, H_r0_22⟩, ⟨r0_23, R_r0_23, H_r0_23⟩, ⟨r0_25, R_r0_25, H_r0_25⟩, ⟨r0_26, R_r0_26, H_r0_26⟩, ⟨r0_27, R_r0_27, H_r0_27⟩, ⟨r0_28, R_r0_28, H_r0_28⟩, ⟨r0_34, R_r0_34, H_r0_34⟩, J_r0, Y_r0⟩ := id H_r0
  have G_r0 : mF T R r0 := ⟨J_r0, Y_r0, T_r0⟩
  obtain ⟨w_r0_1_4, k0_r0_1_4⟩ : ∃ x, I r0_1 4 = x := ⟨_, rfl⟩
  have gw_r0_1_4 := rg w_r0_1_4
  have ow_r0_1_4 := IM.c4 hI R_r0_1 k0_r0_1_4
  obtain ⟨w_r0_1_5, k0_r0_1_5⟩ : ∃ x, I r0_1 5 = x := ⟨_, rfl⟩
  have gw_r0_1_5 := rg w_r0_1_5
  have ow_r0_1_5 := IM.c5 hI R_r0_1 k0_r0_1_5
  obtain ⟨w_r0_1_0, k0_r0_1_0⟩ : ∃ x, I r0_1 0 = x := ⟨_, rfl⟩
  have gw_r0_1_0 := rg w_r0_1_0
  have ow_r0_1_0 := IM.pi hI R_r0_1 k0_r0_1_0
  obtain ⟨w_r0_6, k0_r0_6⟩ : ∃ x, I r0 6 = x := ⟨_, rfl⟩
  have gw_r0_6 := rg w_r0_6
  have ow_r0_6 := IM.f6 hI k0_r0_6
  obtain ⟨w_r0_7, k0_r0_7⟩ : ∃ x, I r0 7 = x := ⟨_, rfl⟩
  have gw_r0_7 := rg w_r0_7
  have ow_r0_7 := IM.f7 hI k0_r0_7
  obtain ⟨w_r0_8, k0_r0_8⟩ : ∃ x, I r0 8 = x := ⟨_, rfl⟩
  have gw_r0_8 := rg w_r0_8
  have ow_r0_8 := IM.f8 hI k0_r0_8
  obtain ⟨w_r0_9, k0_r0_9⟩ : ∃ x, I r0 9 = x := ⟨_, rfl⟩
  have gw_r0_9 := rg w_r0_9
  have ow_r0_9 := IM.f9 hI k0_r0_9
  obtain ⟨w_r0_1_E_6_10_n1_toNatClampNeg, k0_r0_1_E_6_10_n1_toNatClampNeg⟩ : ∃ x, I r0_1 (6 + 10 * n1.toNatClampNeg) = x := ⟨_, rfl⟩
  have gw_r0_1_E_6_10_n1_toNatClampNeg := rg w_r0_1_E_6_10_n1_toNatClampNeg
  refine k_aload_n C rfl rfl rfl ?_
  refine z_bipush C (z := 40) rfl rfl rfl (fun x1 ex1 => ?_)
  refine k_iload_n C rfl rfl rfl ?_
  obtain ⟨x2, e3⟩ : ∃ x, I r0_1 1 = x := ⟨_, rfl⟩
  have gx2 := rg x2
  have ox2 := IM.c1 hI R_r0_1 e3
  have q4 : x1.toNatClampNeg = 40 := nck (by omega)
  refine c_VV C (a_X12_takes_e hI H_r0 (by omega) (by omega) (by omega) (by omega)) rfl rfl rfl rfl rfl ⟨_, rfl, rfl, T_r0, Nat.le_of_ble_eq_true rfl⟩ rfl rfl (Nat.le_of_ble_eq_true rfl) (Nat.le_of_ble_eq_true rfl) (Nat.le_of_ble_eq_true rfl) ?_
  rintro I6 L7 ⟨p0v5, p1v5, p2v5, p3v5, p4v5, p5v5, hI6, S8⟩
  have p0v5 := p0v5 r0_4 R_r0_4
  have p1v5 := p1v5 r0_1 r0_4 R_r0_1 R_r0_4
  have p2v5 := p2v5 r0_1 r0_4 r0_5 R_r0_1 R_r0_4 R_r0_5
  have p3v5 := p3v5 r0_1 r0_4 r0_5 R_r0_1 R_r0_4 R_r0_5
  have p4v5 := p4v5 r0_4 R_r0_4
  have p5v5 := p5v5 r0_5 R_r0_5
  try simp only [q4] at p4v5
  try simp only [q4] at p5v5
  have e9 := CM.j S8 R_r0_1 (by decide) k0_r0_1_4
  have e10 := CM.j S8 R_r0_1 (by decide) k0_r0_1_5
  have e11 := CM.j S8 R_r0_1 (by decide) k0_r0_1_0
  have e12 := CM.k S8 (by decide) k0_r0_6
  have e13 := CM.k S8 (by decide) k0_r0_7
  have e14 := CM.k S8 (by decide) k0_r0_8
  have e15 := CM.k S8 (by decide) k0_r0_9
  have e16 := CM.j S8 R_r0_1 (by decide) k0_r0_1_E_6_10_n1_toNatClampNeg
  have e17 := CM.j S8 R_r0_1 (by decide) e3
  obtain ⟨x18, e19⟩ : ∃ x, I6 r0_4 40 = x := ⟨_, rfl⟩
  have gx18 := rg x18
  have ox18 := IM.dgR hI6 R_r0_4 e19
  try simp only [q4, k0_r0_1_4, k0_r0_1_5, k0_r0_1_0, k0_r0_6, k0_r0_7, k0_r0_8, k0_r0_9, k0_r0_1_E_6_10_n1_toNatClampNeg, e3, e19] at p0v5
  try have q0v5 := congrArg Int32.toInt p0v5
  try simp only [q4, k0_r0_1_4, k0_r0_1_5, k0_r0_1_0, k0_r0_6, k0_r0_7, k0_r0_8, k0_r0_9, k0_r0_1_E_6_10_n1_toNatClampNeg, e3, e19] at p1v5
  try have q1v5 := congrArg Int32.toInt p1v5
  try simp only [q4, k0_r0_1_4, k0_r0_1_5, k0_r0_1_0, k0_r0_6, k0_r0_7, k0_r0_8, k0_r0_9, k0_r0_1_E_6_10_n1_toNatClampNeg, e3, e19] at p2v5
  try have q2v5 := congrArg Int32.toInt p2v5
  try simp only [q4, k0_r0_1_4, k0_r0_1_5, k0_r0_1_0, k0_r0_6, k0_r0_7, k0_r0_8, k0_r0_9, k0_r0_1_E_6_10_n1_toNatClampNeg, e3, e19] at p3v5
  try have q3v5 := congrArg Int32.toInt p3v5
  have hTK := p3v5
  have hD4 := p1v5
  refine k_aload_n C rfl rfl rfl ?_
  refine z_bipush C (z := 40) rfl rfl rfl (fun x20 ex20 => ?_)
  refine z_bipush C (z := 41) rfl rfl rfl (fun x21 ex21 => ?_)
  have q22 : x20.toNatClampNeg = 40 := nck (by omega)
  have q23 : x21.toNatClampNeg = 41 := nck (by omega)
  refine c_VV C (a_X12_mixes_e hI6 H_r0 (by omega) (by omega) (by omega) (by omega) (by first | omega | (simp only [q22, q23, e9, e10, e11, e12, e13, e14, e15, e16, e17, e19, and_true, true_and, or_true, true_or, and_false, false_and, or_false, false_or] <;> omega))) rfl rfl rfl rfl rfl ⟨_, rfl, rfl, T_r0, Nat.le_of_ble_eq_true rfl⟩ rfl rfl (Nat.le_of_ble_eq_true rfl) (Nat.le_of_ble_eq_true rfl) (Nat.le_of_ble_eq_true rfl) ?_
  rintro I25 L26 ⟨p0v24, p1v24, p2v24, p3v24, p4v24, hI25, S27⟩
  have p0v24 := p0v24 r0_4 R_r0_4
  have p1v24 := p1v24 r0_1 r0_4 r0_5 R_r0_1 R_r0_4 R_r0_5
  have p2v24 := p2v24 r0_1 r0_4 r0_5 R_r0_1 R_r0_4 R_r0_5
  have p3v24 := p3v24 r0_4 R_r0_4
  have p4v24 := p4v24 r0_5 R_r0_5
  try simp only [q22, q23] at p3v24
  try simp only [q22, q23] at p4v24
  have e28 := CM.j S27 R_r0_1 (by decide) e9
  have e29 := CM.j S27 R_r0_1 (by decide) e10
  have e30 := CM.j S27 R_r0_1 (by decide) e11
  have e31 := CM.k S27 (by decide) e12
  have e32 := CM.k S27 (by decide) e13
  have e33 := CM.k S27 (by decide) e14
  have e34 := CM.k S27 (by decide) e15
  have e35 := CM.j S27 R_r0_1 (by decide) e16
  have e36 := CM.j S27 R_r0_1 (by decide) e17
  have e37 := (p3v24 40 (by first | decide | exact ncne (by omega) (by omega) (by omega) | exact nckn (by omega) (by omega) | exact (nckn (by omega) (by omega)).symm) (by first | decide | exact ncne (by omega) (by omega) (by omega) | exact nckn (by omega) (by omega) | exact (nckn (by omega) (by omega)).symm)).trans e19
  obtain ⟨x38, e39⟩ : ∃ x, I25 r0_4 41 = x := ⟨_, rfl⟩
  have gx38 := rg x38
  have ox38 := IM.dgR hI25 R_r0_4 e39
  try simp only [q22, q23, e9, e10, e11, e12, e13, e14, e15, e16, e17, e19, e39] at p0v24
  try have q0v24 := congrArg Int32.toInt p0v24
  try simp only [q22, q23, e9, e10, e11, e12, e13, e14, e15, e16, e17, e19, e39] at p1v24
  try have q1v24 := congrArg Int32.toInt p1v24
  try simp only [q22, q23, e9, e10, e11, e12, e13, e14, e15, e16, e17, e19, e39] at p2v24
  try have q2v24 := congrArg Int32.toInt p2v24
  have hQ := p1v24
  have hMX := p2v24
  have hD12 := p0v24
  have hQ40 := fun k (hk : k < 41) => p4v24 (41 * 40 + k) (by omega) (by omega)
  refine z_iconst C (z := 0) rfl rfl rfl (fun x40 ex40 => ?_)
  have J41 : ∀ (nn42 : Nat) (I43 : IT) (L44 : LT) (x45 : Int32) (x51 : Int32) (x55 : Int32) (x59 : Int32), (MN (41 - x45.toInt) nn42) → (IM R r0 I43) → (CM A R r0 [] [1] I25 L26 I43 L44) → (∀ r : Nat, r < 4 → I43 r0_1 r = I25 r0_1 r) → (0 ≤ x45.toInt) → (x45.toInt ≤ 41) → (I43 r0_1 0 = x51) → (11 ≤ x51.toInt) → (x51.toInt ≤ 19) → (I43 r0_1 4 = x55) → (0 ≤ x55.toInt) → (x55.toInt ≤ 40) → (I43 r0_1 5 = x59) → (0 ≤ x59.toInt) → (x59.toInt ≤ 40) → (x51.toInt = w_r0_1_0.toInt) → (x55.toInt = w_r0_1_4.toInt) → (x59.toInt = w_r0_1_5.toInt) → (QN I43 r0_5 41 (x38.toInt + 1) w_r0_1_0.toInt) → (MFL (I43 r0_1) (I43 r0_5) (I r0_1) n1.toNatClampNeg x45.toInt) → (x45.toInt ≤ x38.toInt + 1) → V 17 [(0, .ref r0), (1, .int n1), (2, .int x45)] [] (T, N, I43, L44, R) 0 0 := by
    intro nn42
    induction nn42 using Nat.strongRecOn with
    | _ nn42 ihJ41 =>
      intro I43 L44 x45 x51 x55 x59 hmnn42 hI49 S48 F50 b46 b47 e52 b53 b54 e56 b57 b58 e60 b61 b62 ff17_0 ff17_1 ff17_2 ff17_3 ff17_4 ff17_5
      have gx45 := rg x45
      have gx51 := rg x51
      have gx55 := rg x55
      have gx59 := rg x59
      have e63 := CM.k S48 (by decide) e31
      have e64 := CM.k S48 (by decide) e32
      have e65 := CM.k S48 (by decide) e33
      have e66 := CM.k S48 (by decide) e34
      have e67 := CM.j S48 R_r0_4 (by decide) e37
      have e68 := CM.j S48 R_r0_4 (by decide) e39
      refine k_iload_n C rfl rfl rfl ?_
      refine k_aload_n C rfl rfl rfl ?_
      refine g_R C rfl rfl rfl T_r0 rfl R_r0_4 ?_
      refine z_bipush C (z := 41) rfl rfl rfl (fun x69 ex69 => ?_)
      obtain ⟨T_r0_4, N_r0_4, A_r0_4⟩ := id H_r0_4
      refine a_I C rfl rfl T_r0_4 (by rw [N_r0_4]; exact vpi (by omega) (by omega)) ((congrArg (I43 r0_4) (nck (n := 41) (by omega))).trans e68) ?_
      refine b_icmp_gt C (t := 54) rfl rfl rfl (fun c70 => ?_) (fun c70 => ?_)
      · skip
        refine k_aload_n C rfl rfl rfl ?_
        refine z_bipush C (z := 40) rfl rfl rfl (fun x71 ex71 => ?_)
        refine z_bipush C (z := 41) rfl rfl rfl (fun x72 ex72 => ?_)
        have q73 : x71.toNatClampNeg = 40 := nck (by omega)
        have q74 : x72.toNatClampNeg = 41 := nck (by omega)
        refine c_VI C (a_X12_isLike_e hI49 H_r0 (by omega) (by omega) (by omega) (by omega)) rfl rfl rfl rfl rfl ⟨_, rfl, rfl, T_r0, Nat.le_of_ble_eq_true rfl⟩ rfl rfl (Nat.le_of_ble_eq_true rfl) (Nat.le_of_ble_eq_true rfl) (Nat.le_of_ble_eq_true rfl) ?_
        rintro x75 _ _ ⟨o0x75, o1x75, p0x75, rfl, rfl⟩
        have p0x75 := p0x75 r0_4 r0_5 R_r0_4 R_r0_5
        have gx75 := rg x75
        try simp only [q73, q74, e63, e64, e65, e66, e67, e68, e52, e56, e60] at p0x75
        try have q0x75 := congrArg Int32.toInt p0x75
        have hLK := p0x75
        refine b_if_ne C (t := 69) rfl rfl rfl (fun c76 => ?_) (fun c76 => ?_)
        · skip
          first | (replace p0x75 := p0x75.resolve_left (by omega)) | (replace p0x75 := p0x75.resolve_right (by omega)) | (replace p0x75 := p0x75 (by omega)) | (have hno := imp_no p0x75 (by omega); clear hno; clear p0x75) | skip
          refine z_iconst C (z := 0) rfl rfl rfl (fun x77 ex77 => ?_)
          exact k_iret C rfl (Or.inr ⟨rfl, z01 (by omega) (by omega)⟩) (Nat.le_of_ble_eq_true rfl) (Nat.le_of_ble_eq_true rfl) ⟨_, _, _, rfl, rfl, by omega, by omega, fun a1 h1 => by cases (R_r0_1.symm.trans h1); first | omega | (simp only [e63, e64, e65, e66, e67, e68, e52, e56, e60, k0_r0_1_4, k0_r0_1_5, k0_r0_1_0, k0_r0_6, k0_r0_7, k0_r0_8, k0_r0_9, k0_r0_1_E_6_10_n1_toNatClampNeg, and_true, true_and, or_true, true_or, and_false, false_and, or_false, false_or] <;> omega), fun a1 h1 => by cases (R_r0_1.symm.trans h1); simp only [k0_r0_6, k0_r0_7, k0_r0_8, k0_r0_9, k0_r0_1_0]; exact MFD.of ff17_4 k0_r0_1_E_6_10_n1_toNatClampNeg hD4 (by omega) hTK hMX (CM.j0 S48 R_r0_5 (by decide)) (by omega), fun a1 h1 => by cases (R_r0_1.symm.trans h1); exact MFX.of ff17_4 k0_r0_1_E_6_10_n1_toNatClampNeg hD4 hTK hQ40 (CM.j0 S48 R_r0_5 (by decide)) (by omega) (by omega) (by rw [e67]) (by rw [e68]; omega) hLK (by omega), fun a1 h1 => by cases (R_r0_1.symm.trans h1); exact (fun r z0 => ((F50 r z0).trans ((congrFun (CM.j0 S27 R_r0_1 (by decide)) r).trans (congrFun (CM.j0 S8 R_r0_1 (by decide)) r)))), hI49, (CM.cons S8 (CM.cons S27 (CM.mono S48 (by decide) (by decide)) (by decide) (by decide)) (by decide) (by decide))⟩
        first | (replace p0x75 := p0x75.resolve_left (by omega)) | (replace p0x75 := p0x75.resolve_right (by omega)) | (replace p0x75 := p0x75 (by omega)) | (have hno := imp_no p0x75 (by omega); clear hno; clear p0x75) | skip
        refine z_iconst C (z := 1) rfl rfl rfl (fun x78 ex78 => ?_)
        refine k_goto C (pc2 := 70) rfl rfl ?_
        exact k_iret C rfl (Or.inr ⟨rfl, z01 (by omega) (by omega)⟩) (Nat.le_of_ble_eq_true rfl) (Nat.le_of_ble_eq_true rfl) ⟨_, _, _, rfl, rfl, by omega, by omega, fun a1 h1 => by cases (R_r0_1.symm.trans h1); first | omega | (simp only [e63, e64, e65, e66, e67, e68, e52, e56, e60, k0_r0_1_4, k0_r0_1_5, k0_r0_1_0, k0_r0_6, k0_r0_7, k0_r0_8, k0_r0_9, k0_r0_1_E_6_10_n1_toNatClampNeg, and_true, true_and, or_true, true_or, and_false, false_and, or_false, false_or] <;> omega), fun a1 h1 => by cases (R_r0_1.symm.trans h1); simp only [k0_r0_6, k0_r0_7, k0_r0_8, k0_r0_9, k0_r0_1_0]; exact MFD.of ff17_4 k0_r0_1_E_6_10_n1_toNatClampNeg hD4 (by omega) hTK hMX (CM.j0 S48 R_r0_5 (by decide)) (by omega), fun a1 h1 => by cases (R_r0_1.symm.trans h1); exact MFX.of ff17_4 k0_r0_1_E_6_10_n1_toNatClampNeg hD4 hTK hQ40 (CM.j0 S48 R_r0_5 (by decide)) (by omega) (by omega) (by rw [e67]) (by rw [e68]; omega) hLK (by omega), fun a1 h1 => by cases (R_r0_1.symm.trans h1); exact (fun r z0 => ((F50 r z0).trans ((congrFun (CM.j0 S27 R_r0_1 (by decide)) r).trans (congrFun (CM.j0 S8 R_r0_1 (by decide)) r)))), hI49, (CM.cons S8 (CM.cons S27 (CM.mono S48 (by decide) (by decide)) (by decide) (by decide)) (by decide) (by decide))⟩
      refine k_aload_n C rfl rfl rfl ?_
      refine g_R C rfl rfl rfl T_r0 rfl R_r0_1 ?_
      refine k_iload_n C rfl rfl rfl ?_
      refine c_SI C (a_X12_formAt (by omega) (by omega)) rfl rfl rfl rfl rfl rfl rfl (Nat.le_of_ble_eq_true rfl) (Nat.le_of_ble_eq_true rfl) (Nat.le_of_ble_eq_true rfl) ?_
      rintro x79 _ _ ⟨o0x79, o1x79, p0x79, rfl, rfl⟩
      have gx79 := rg x79
      try simp only [e63, e64, e65, e66, e67, e68, e52, e56, e60] at p0x79
      try have q0x79 := congrArg Int32.toInt p0x79
      refine z_iconst C (z := 1) rfl rfl rfl (fun x80 ex80 => ?_)
      refine z_iadd C rfl rfl ⟨by omega, by omega⟩ (fun x81 ex81 => ?_)
      refine k_iload_n C rfl rfl rfl ?_
      refine z_iadd C rfl rfl ⟨by omega, by omega⟩ (fun x82 ex82 => ?_)
      refine k_aload_n C rfl rfl rfl ?_
      refine z_bipush C (z := 41) rfl rfl rfl (fun x83 ex83 => ?_)
      refine k_iload_n C rfl rfl rfl ?_
      have q84 : x83.toNatClampNeg = 41 := nck (by omega)
      refine c_VI C (a_X12_of hI49 H_r0 (by omega) (by omega) (by omega) (by omega)) rfl rfl rfl rfl rfl ⟨_, rfl, rfl, T_r0, Nat.le_of_ble_eq_true rfl⟩ rfl rfl (Nat.le_of_ble_eq_true rfl) (Nat.le_of_ble_eq_true rfl) (Nat.le_of_ble_eq_true rfl) ?_
      rintro x85 _ _ ⟨o0x85, o1x85, p0x85, rfl, rfl⟩
      have p0x85 := p0x85 r0_5 R_r0_5
      have gx85 := rg x85
      try simp only [q84, e63, e64, e65, e66, e67, e68, e52, e56, e60] at p0x85
      try have q0x85 := congrArg Int32.toInt p0x85
      have hO := p0x85
      have hb := ff17_3 x45.toNatClampNeg (by have := ncz (x := x45) (by omega); omega)
      obtain ⟨T_r0_1, N_r0_1, A_r0_1⟩ := id H_r0_1
      refine z_sI C rfl rfl T_r0_1 N_r0_1 (by omega) (by omega) (fun I86 uI86 => ?_)
      have hI86 : IM R r0 I86 := IM.arr hI49 G_r0 R_r0_1 ⟨(fun h => absurd h (by decide)), (fun h => absurd h (by decide)), (fun h => absurd h (by decide))⟩ (fun _ => WOK.num (IM.w hI49 R_r0_1) (f := n1) (k := x45) ⟨by omega, by omega⟩ ⟨by omega, by omega⟩ (by omega) (by rw [e52]; omega) (by rw [e52]; omega)) uI86
      have S87 : CM A R r0 [] [1] I43 L44 I86 L44 := CM.a G_r0 R_r0_1 A_r0_1 uI86
      have F88 : ∀ r : Nat, r < 4 → I86 r0_1 r = I43 r0_1 r := fun r z0 => by rw [uI86]; exact u2_k (by have h2 := ncz (x := x82) (by omega); omega)
      have e89 := u2_n uI86 (fun e => (mF.ne G_r0 R_r0_1) e.symm) e63
      have e90 := u2_n uI86 (fun e => (mF.ne G_r0 R_r0_1) e.symm) e64
      have e91 := u2_n uI86 (fun e => (mF.ne G_r0 R_r0_1) e.symm) e65
      have e92 := u2_n uI86 (fun e => (mF.ne G_r0 R_r0_1) e.symm) e66
      have e93 := u2_n uI86 (mF.nq G_r0 R_r0_4 R_r0_1 (by decide)) e67
      have e94 := u2_n uI86 (mF.nq G_r0 R_r0_4 R_r0_1 (by decide)) e68
      have e95 := u2_j uI86 (by first | decide | exact ncne (by omega) (by omega) (by omega) | exact nckn (by omega) (by omega) | exact (nckn (by omega) (by omega)).symm) e52
      have e96 := u2_j uI86 (by first | decide | exact ncne (by omega) (by omega) (by omega) | exact nckn (by omega) (by omega) | exact (nckn (by omega) (by omega)).symm) e56
      have e97 := u2_j uI86 (by first | decide | exact ncne (by omega) (by omega) (by omega) | exact nckn (by omega) (by omega) | exact (nckn (by omega) (by omega)).symm) e60
      have e98 := u2_e uI86
      have hu47 := uI86
      refine z_iinc C (z := 1) (lw := fun x99 => [(2, .int x99), (0, .ref r0), (1, .int n1)]) rfl rfl rfl (Nat.le_of_ble_eq_true rfl) rfl ⟨by omega, by omega⟩ (fun _ => rfl) (fun x99 ex99 => ?_)
      show V 51 [(2, .int x99), (0, .ref r0), (1, .int n1)] _ _ _ _
      refine k_goto C (pc2 := 17) rfl rfl ?_
      refine k_sub S [(0, .ref r0), (1, .int n1), (2, .int x99)] (List.forall_mem_cons.mpr ⟨List.mem_of_getElem? (i := 1) rfl, List.forall_mem_cons.mpr ⟨List.mem_of_getElem? (i := 2) rfl, List.forall_mem_cons.mpr ⟨List.mem_of_getElem? (i := 0) rfl, fun _ h => nomatch h⟩⟩⟩) ?_
      exact ihJ41 _ (MN.lt hmnn42 (by omega) (by omega)) I86 L44 x99 x51 x55 x59 rfl hI86 (CM.cons S48 (CM.mono S87 (by decide) (by decide)) (by decide) (by decide)) (fun r z0 => ((F88 r z0).trans (F50 r z0))) (by omega) (by omega) e95 (by omega) (by omega) e96 (by omega) (by omega) e97 (by omega) (by omega) (by omega) (by omega) (by omega) (by exact QN.eq ff17_3 (CM.j0 S87 R_r0_5 (by decide))) (by exact MFL.s ff17_4 hu47 (CM.j0 S87 R_r0_5 (by decide)) hO (by omega) (by omega) (by omega) (by omega)) (by omega)
  refine k_istore_n C (lw := [(2, .int x40), (0, .ref r0), (1, .int n1)]) rfl rfl (Nat.le_of_ble_eq_true rfl) rfl ?_
  refine k_sub S [(0, .ref r0), (1, .int n1), (2, .int x40)] (List.forall_mem_cons.mpr ⟨List.mem_of_getElem? (i := 1) rfl, List.forall_mem_cons.mpr ⟨List.mem_of_getElem? (i := 2) rfl, List.forall_mem_cons.mpr ⟨List.mem_of_getElem? (i := 0) rfl, fun _ h => nomatch h⟩⟩⟩) ?_
  exact J41 _ I25 L26 x40 w_r0_1_0 w_r0_1_4 w_r0_1_5 rfl hI25 CM.rf (fun r z0 => rfl) (by omega) (by omega) e30 (by omega) (by omega) e28 (by omega) (by omega) e29 (by omega) (by omega) (by omega) (by omega) (by omega) (by exact hQ) (by exact MFL.z (CM.j0 (W := []) (WA := [4, 5]) (CM.cons S8 (CM.mono S27 (by decide) (by decide)) (by decide) (by decide)) R_r0_1 (by decide)) (by omega)) (by omega)

set_option maxHeartbeats 8000000 in
theorem a_X12_mix_x {d : Nat} {T N : Nat → Nat} {I : IT} {L : LT} {R : RT} {A : Nat → Prop} {r0 : Nat} {n1 n2 : Int32} (hI : IM R r0 I) (H_r0 : (h_MD T N R A) r0) : Ex (d + 6) 244 [.ref r0, .int n1, .int n2] (T, N, I, L, R) 0 0 (pI T N R (fun x9 I9 L9 => (0 ≤ x9.toInt) ∧ (x9.toInt ≤ 1) ∧ (∀ a1, R r0 1 = some a1 → (I a1 4).toInt + (I a1 5).toInt ≤ 40 → (I9 a1 4).toInt + (I9 a1 5).toInt ≤ 40) ∧ (∀ a1, R r0 1 = some a1 → (I9 r0 0).toInt = 0 → MXT (I9 a1) (I a1) n1 n2) ∧ (∀ a1, R r0 1 = some a1 → (I9 r0 0).toInt = 0 → MFX x9.toInt (I9 a1) (I a1) n1.toNatClampNeg) ∧ (∀ a1, R r0 1 = some a1 → (I9 r0 0).toInt ≠ 0 → I9 a1 = I a1) ∧ (∀ a1, R r0 1 = some a1 → ¬ (n1.toInt < 0 ∨ (I a1 1).toInt ≤ n1.toInt ∨ n2.toInt < 0 ∨ (I a1 2).toInt ≤ n2.toInt) ∧ (I9 r0 0).toInt = 0 ∨ (n1.toInt < 0 ∨ (I a1 1).toInt ≤ n1.toInt ∨ n2.toInt < 0 ∨ (I a1 2).toInt ≤ n2.toInt) ∧ (I9 r0 0).toInt = 1) ∧ (∀ a1, R r0 1 = some a1 → ∀ r : Nat, r < 4 → I9 a1 r = I a1 r) ∧ (IM R r0 I9 ∧ CM A R r0 [0, 6, 7, 8, 9] [1, 4, 5] I L I9 L9))) := by
  refine ⟨_, rfl, Nat.le_of_ble_eq_true rfl, fun V C S => ?_⟩
  show V 0 [(0, .ref r0), (1, .int n1), (2, .int n2)] [] (T, N, I, L, R) 0 0
  have gn1 := rg n1
  have gn2 := rg n2
  obtain ⟨T_r0, A_r0, ⟨r0_1, R_r0_1, H_r0_1⟩, ⟨r0_2, R_r0_2, H_r0_2⟩, ⟨r0_4, R_r0_4, H_r0_4⟩, ⟨r0_5, R_r0_5, H_r0_5⟩, ⟨r0_10, R_r0_10, H_r0_10⟩, ⟨r0_18, R_r0_18, H_r0_18⟩, ⟨r0_20, R_r0_20, H_r0_20⟩, ⟨r0_21, R_r0_21, H_r0_21⟩, ⟨r0_22, R_r0_22, H_r0_22⟩, ⟨r0_23, R_r0_23, H_r0_23⟩, ⟨r0_25, R_r0_25, H_r0_25⟩, ⟨r0_26, R_r0_26, H_r0_26⟩, ⟨r0_27, R_r0_27, H_r0_27⟩, ⟨r0_28, R_r0_28, H_r0_28⟩, ⟨r0_34, R_r0_34, H_r0_34⟩, J_r0, Y_r0⟩ := id H_r0
  have G_r0 : mF T R r0 := ⟨J_r0, Y_r0, T_r0⟩
  obtain ⟨w_r0_1_4, k0_r0_1_4⟩ : ∃ x, I r0_1 4 = x := ⟨_, rfl⟩
  have gw_r0_1_4 := rg w_r0_1_4
  have ow_r0_1_4 := IM.c4 hI R_r0_1 k0_r0_1_4
  obtain ⟨w_r0_1_5, k0_r0_1_5⟩ : ∃ x, I r0_1 5 = x := ⟨_, rfl⟩
  have gw_r0_1_5 := rg w_r0_1_5
  have ow_r0_1_5 := IM.c5 hI R_r0_1 k0_r0_1_5
  obtain ⟨w_r0_1_1, k0_r0_1_1⟩ : ∃ x, I r0_1 1 = x := ⟨_, rfl⟩
  have gw_r0_1_1 := rg w_r0_1_1
  have ow_r0_1_1 := IM.c1 hI R_r0_1 k0_r0_1_1
  obtain ⟨w_r0_1_2, k0_r0_1_2⟩ : ∃ x, I r0_1 2 = x := ⟨_, rfl⟩
  have gw_r0_1_2 := rg w_r0_1_2
  have ow_r0_1_2 := IM.c2 hI R_r0_1 k0_r0_1_2
  obtain ⟨w_r0_1_0, k0_r0_1_0⟩ : ∃ x, I r0_1 0 = x := ⟨_, rfl⟩
  have gw_r0_1_0 := rg w_r0_1_0
  have ow_r0_1_0 := IM.pi hI R_r0_1 k0_r0_1_0
  refine k_aload_n C rfl rfl rfl ?_
  refine z_iconst C (z := 0) rfl rfl rfl (fun x1 ex1 => ?_)
  refine z_pI C rfl rfl rfl T_r0 (Or.inr rfl) rfl (fun I2 uI2 => ?_)
  have hI2 : IM R r0 I2 := IM.fld hI G_r0 ⟨(fun h => absurd h (by decide)), (fun h => absurd h (by decide)), (fun h => absurd h (by decide)), (fun h => absurd h (by decide)), (fun h => absurd h (by decide))⟩ uI2
  have S3 : CM A R r0 [0] [] I L I2 L := CM.f G_r0 A_r0 uI2
  have e4 := u2_n uI2 (mF.ne G_r0 R_r0_1) k0_r0_1_4
  have e5 := u2_n uI2 (mF.ne G_r0 R_r0_1) k0_r0_1_5
  have e6 := u2_n uI2 (mF.ne G_r0 R_r0_1) k0_r0_1_1
  have e7 := u2_n uI2 (mF.ne G_r0 R_r0_1) k0_r0_1_2
  have e8 := u2_n uI2 (mF.ne G_r0 R_r0_1) k0_r0_1_0
  have e9 := u2_e uI2
  refine k_aload_n C rfl rfl rfl ?_
  refine k_aload_n C rfl rfl rfl ?_
  refine k_iload_n C rfl rfl rfl ?_
  refine c_VI C (a_X12_noForm_e hI2 H_r0) rfl rfl rfl rfl rfl ⟨_, rfl, rfl, T_r0, Nat.le_of_ble_eq_true rfl⟩ rfl rfl (Nat.le_of_ble_eq_true rfl) (Nat.le_of_ble_eq_true rfl) (Nat.le_of_ble_eq_true rfl) ?_
  rintro x10 _ _ ⟨o0x10, o1x10, p0x10, rfl, rfl⟩
  have p0x10 := p0x10 r0_1 R_r0_1
  have gx10 := rg x10
  try simp only [e4, e5, e6, e7, e8, e9, e6] at p0x10
  try have q0x10 := congrArg Int32.toInt p0x10
  refine b_if_ne C (t := 22) rfl rfl rfl (fun c11 => ?_) (fun c11 => ?_)
  · skip
    first | (replace p0x10 := p0x10.resolve_left (by omega)) | (replace p0x10 := p0x10.resolve_right (by omega)) | (replace p0x10 := p0x10 (by omega)) | (have hno := imp_no p0x10 (by omega); clear hno; clear p0x10) | skip
    refine z_iconst C (z := 1) rfl rfl rfl (fun x12 ex12 => ?_)
    refine k_goto C (pc2 := 27) rfl rfl ?_
    refine z_iconst C (z := 1) rfl rfl rfl (fun x13 ex13 => ?_)
    have q14 : x12.toNatClampNeg = 1 := nck (by omega)
    have q15 : x13.toNatClampNeg = 1 := nck (by omega)
    refine c_VI C (a_X12_throwsIf_e hI2 H_r0 (by omega) (by omega)) rfl rfl rfl rfl rfl ⟨_, rfl, rfl, T_r0, Nat.le_of_ble_eq_true rfl⟩ rfl rfl (Nat.le_of_ble_eq_true rfl) (Nat.le_of_ble_eq_true rfl) (Nat.le_of_ble_eq_true rfl) ?_
    rintro x16 I17 L18 ⟨o0x16, o1x16, p0x16, p1x16, hI17, S19⟩
    have e20 := CM.j S19 R_r0_1 (by decide) e4
    have e21 := CM.j S19 R_r0_1 (by decide) e5
    have e22 := CM.j S19 R_r0_1 (by decide) e6
    have e23 := CM.j S19 R_r0_1 (by decide) e7
    have e24 := CM.j S19 R_r0_1 (by decide) e8
    have gx16 := rg x16
    obtain ⟨x26, e27⟩ : ∃ x, I17 r0 0 = x := ⟨_, rfl⟩
    have gx26 := rg x26
    try simp only [q14, q15, e4, e5, e6, e7, e8, e9, e27] at p0x16
    try have q0x16 := congrArg Int32.toInt p0x16
    try simp only [q14, q15, e4, e5, e6, e7, e8, e9, e27] at p1x16
    try have q1x16 := congrArg Int32.toInt p1x16
    refine b_if_eq C (t := 36) rfl rfl rfl (fun c28 => by exfalso; omega) (fun c28 => ?_)
    first | (replace p0x10 := p0x10.resolve_left (by omega)) | (replace p0x10 := p0x10.resolve_right (by omega)) | (replace p0x10 := p0x10 (by omega)) | (have hno := imp_no p0x10 (by omega); clear hno; clear p0x10) | skip
    first | (replace p0x16 := p0x16.resolve_left (by omega)) | (replace p0x16 := p0x16.resolve_right (by omega)) | (replace p0x16 := p0x16 (by omega)) | (have hno := imp_no p0x16 (by omega); clear hno; clear p0x16) | skip
    first | (replace p1x16 := p1x16.resolve_left (by omega)) | (replace p1x16 := p1x16.resolve_right (by omega)) | (replace p1x16 := p1x16 (by omega)) | (have hno := imp_no p1x16 (by omega); clear hno; clear p1x16) | skip
    refine z_iconst C (z := 0) rfl rfl rfl (fun x29 ex29 => ?_)
    exact k_iret C rfl (Or.inr ⟨rfl, z01 (by omega) (by omega)⟩) (Nat.le_of_ble_eq_true rfl) (Nat.le_of_ble_eq_true rfl) ⟨_, _, _, rfl, rfl, by omega, by omega, fun a1 h1 => by cases (R_r0_1.symm.trans h1); first | omega | (simp only [e20, e21, e22, e23, e24, e27, k0_r0_1_4, k0_r0_1_5, k0_r0_1_1, k0_r0_1_2, k0_r0_1_0, and_true, true_and, or_true, true_or, and_false, false_and, or_false, false_or] <;> omega), fun a1 h1 => by cases (R_r0_1.symm.trans h1); intro h; rw [e27] at h; exfalso; omega, fun a1 h1 => by cases (R_r0_1.symm.trans h1); intro h; rw [e27] at h; exfalso; omega, fun a1 h1 => by cases (R_r0_1.symm.trans h1); intro _; exact CM.j0 (W := [0]) (WA := []) (CM.cons S3 (CM.mono S19 (by decide) (by decide)) (by decide) (by decide)) R_r0_1 (by decide), fun a1 h1 => by cases (R_r0_1.symm.trans h1); first | omega | (simp only [e20, e21, e22, e23, e24, e27, k0_r0_1_4, k0_r0_1_5, k0_r0_1_1, k0_r0_1_2, k0_r0_1_0, and_true, true_and, or_true, true_or, and_false, false_and, or_false, false_or] <;> omega), fun a1 h1 => by cases (R_r0_1.symm.trans h1); exact (fun r z0 => ((congrFun (CM.j0 S19 R_r0_1 (by decide)) r).trans (congrFun (CM.j0 S3 R_r0_1 (by decide)) r))), hI17, (CM.cons S3 (CM.mono S19 (by decide) (by decide)) (by decide) (by decide))⟩
  first | (replace p0x10 := p0x10.resolve_left (by omega)) | (replace p0x10 := p0x10.resolve_right (by omega)) | (replace p0x10 := p0x10 (by omega)) | (have hno := imp_no p0x10 (by omega); clear hno; clear p0x10) | skip
  refine k_aload_n C rfl rfl rfl ?_
  refine k_iload_n C rfl rfl rfl ?_
  refine c_VI C (a_X12_noTable_e hI2 H_r0) rfl rfl rfl rfl rfl ⟨_, rfl, rfl, T_r0, Nat.le_of_ble_eq_true rfl⟩ rfl rfl (Nat.le_of_ble_eq_true rfl) (Nat.le_of_ble_eq_true rfl) (Nat.le_of_ble_eq_true rfl) ?_
  rintro x30 _ _ ⟨o0x30, o1x30, p0x30, rfl, rfl⟩
  have p0x30 := p0x30 r0_1 R_r0_1
  have gx30 := rg x30
  try simp only [e4, e5, e6, e7, e8, e9, e7] at p0x30
  try have q0x30 := congrArg Int32.toInt p0x30
  refine b_if_eq C (t := 26) rfl rfl rfl (fun c31 => ?_) (fun c31 => ?_)
  · skip
    first | (replace p0x30 := p0x30.resolve_left (by omega)) | (replace p0x30 := p0x30.resolve_right (by omega)) | (replace p0x30 := p0x30 (by omega)) | (have hno := imp_no p0x30 (by omega); clear hno; clear p0x30) | skip
    refine z_iconst C (z := 0) rfl rfl rfl (fun x32 ex32 => ?_)
    refine z_iconst C (z := 1) rfl rfl rfl (fun x33 ex33 => ?_)
    have q34 : x32.toNatClampNeg = 0 := nck (by omega)
    have q35 : x33.toNatClampNeg = 1 := nck (by omega)
    refine c_VI C (a_X12_throwsIf_e hI2 H_r0 (by omega) (by omega)) rfl rfl rfl rfl rfl ⟨_, rfl, rfl, T_r0, Nat.le_of_ble_eq_true rfl⟩ rfl rfl (Nat.le_of_ble_eq_true rfl) (Nat.le_of_ble_eq_true rfl) (Nat.le_of_ble_eq_true rfl) ?_
    rintro x36 I37 L38 ⟨o0x36, o1x36, p0x36, p1x36, hI37, S39⟩
    have e40 := CM.j S39 R_r0_1 (by decide) e4
    have e41 := CM.j S39 R_r0_1 (by decide) e5
    have e42 := CM.j S39 R_r0_1 (by decide) e6
    have e43 := CM.j S39 R_r0_1 (by decide) e7
    have e44 := CM.j S39 R_r0_1 (by decide) e8
    have gx36 := rg x36
    obtain ⟨x46, e47⟩ : ∃ x, I37 r0 0 = x := ⟨_, rfl⟩
    have gx46 := rg x46
    try simp only [q34, q35, e4, e5, e6, e7, e8, e9, e47] at p0x36
    try have q0x36 := congrArg Int32.toInt p0x36
    try simp only [q34, q35, e4, e5, e6, e7, e8, e9, e47] at p1x36
    try have q1x36 := congrArg Int32.toInt p1x36
    refine b_if_eq C (t := 36) rfl rfl rfl (fun c48 => ?_) (fun c48 => by exfalso; omega)
    first | (replace p0x30 := p0x30.resolve_left (by omega)) | (replace p0x30 := p0x30.resolve_right (by omega)) | (replace p0x30 := p0x30 (by omega)) | (have hno := imp_no p0x30 (by omega); clear hno; clear p0x30) | skip
    first | (replace p0x36 := p0x36.resolve_left (by omega)) | (replace p0x36 := p0x36.resolve_right (by omega)) | (replace p0x36 := p0x36 (by omega)) | (have hno := imp_no p0x36 (by omega); clear hno; clear p0x36) | skip
    first | (replace p1x36 := p1x36.resolve_left (by omega)) | (replace p1x36 := p1x36.resolve_right (by omega)) | (replace p1x36 := p1x36 (by omega)) | (have hno := imp_no p1x36 (by omega); clear hno; clear p1x36) | skip
    refine k_aload_n C rfl rfl rfl ?_
    refine g_R C rfl rfl rfl T_r0 rfl R_r0_1 ?_
    refine z_iconst C (z := 4) rfl rfl rfl (fun x49 ex49 => ?_)
    obtain ⟨T_r0_1, N_r0_1, A_r0_1⟩ := id H_r0_1
    refine a_I C rfl rfl T_r0_1 (by rw [N_r0_1]; exact vpi (by omega) (by omega)) ((congrArg (I37 r0_1) (nck (n := 4) (by omega))).trans e40) ?_
    refine z_bipush C (z := 40) rfl rfl rfl (fun x50 ex50 => ?_)
    refine b_icmp_ne C (t := 83) rfl rfl rfl (fun c51 => ?_) (fun c51 => ?_)
    · skip
      first | (replace p0x36 := p0x36.resolve_left (by omega)) | (replace p0x36 := p0x36.resolve_right (by omega)) | (replace p0x36 := p0x36 (by omega)) | (have hno := imp_no p0x36 (by omega); clear hno; clear p0x36) | skip
      first | (replace p1x36 := p1x36.resolve_left (by omega)) | (replace p1x36 := p1x36.resolve_right (by omega)) | (replace p1x36 := p1x36 (by omega)) | (have hno := imp_no p1x36 (by omega); clear hno; clear p1x36) | skip
      refine k_aload_n C rfl rfl rfl ?_
      refine g_R C rfl rfl rfl T_r0 rfl R_r0_1 ?_
      refine z_iconst C (z := 4) rfl rfl rfl (fun x52 ex52 => ?_)
      refine k_dup2 C rfl rfl rfl rfl ?_
      refine a_I C rfl rfl T_r0_1 (by rw [N_r0_1]; exact vpi (by omega) (by omega)) ((congrArg (I37 r0_1) (nck (n := 4) (by omega))).trans e40) ?_
      refine z_iconst C (z := 1) rfl rfl rfl (fun x53 ex53 => ?_)
      refine z_iadd C rfl rfl ⟨by omega, by omega⟩ (fun x54 ex54 => ?_)
      have hw92 := CM.j0 (W := [0]) (WA := []) (CM.cons S3 (CM.mono S39 (by decide) (by decide)) (by decide) (by decide)) R_r0_1 (by decide)
      refine z_sI C rfl rfl T_r0_1 N_r0_1 (by omega) (by omega) (fun I55 uI55 => ?_)
      have uI55 : I55 = u2 I37 r0_1 4 (x54) := by rw [uI55, nck (n := 4) (by omega)]
      have hI55 : IM R r0 I55 := IM.arr hI37 G_r0 R_r0_1 ⟨(fun h => absurd h (by decide)), (fun h => absurd h (by decide)), (fun h => absurd h (by decide))⟩ (fun _ => WOK.c4 (IM.w hI37 R_r0_1) (by omega) (by omega)) uI55
      have S56 : CM A R r0 [] [1] I37 L38 I55 L38 := CM.a G_r0 R_r0_1 A_r0_1 uI55
      have F57 : ∀ r : Nat, r < 4 → I55 r0_1 r = I37 r0_1 r := fun r z0 => by rw [uI55]; exact u2_k (by have h2 := ncz (x := x52) (by omega); omega)
      have e59 := u2_j uI55 (by first | decide | exact ncne (by omega) (by omega) (by omega) | exact nckn (by omega) (by omega) | exact (nckn (by omega) (by omega)).symm) e41
      have e60 := u2_j uI55 (by first | decide | exact ncne (by omega) (by omega) (by omega) | exact nckn (by omega) (by omega) | exact (nckn (by omega) (by omega)).symm) e42
      have e61 := u2_j uI55 (by first | decide | exact ncne (by omega) (by omega) (by omega) | exact nckn (by omega) (by omega) | exact (nckn (by omega) (by omega)).symm) e43
      have e62 := u2_j uI55 (by first | decide | exact ncne (by omega) (by omega) (by omega) | exact nckn (by omega) (by omega) | exact (nckn (by omega) (by omega)).symm) e44
      have e63 := u2_n uI55 (fun e => (mF.ne G_r0 R_r0_1) e.symm) e47
      have e64 := u2_e uI55
      have hu92 := uI55
      refine z_sipush C (z := 3406) rfl rfl rfl (fun x65 ex65 => ?_)
      refine z_iconst C (z := 5) rfl rfl rfl (fun x66 ex66 => ?_)
      refine k_aload_n C rfl rfl rfl ?_
      refine g_R C rfl rfl rfl T_r0 rfl R_r0_1 ?_
      refine z_iconst C (z := 4) rfl rfl rfl (fun x67 ex67 => ?_)
      refine a_I C rfl rfl T_r0_1 (by rw [N_r0_1]; exact vpi (by omega) (by omega)) ((congrArg (I55 r0_1) (nck (n := 4) (by omega))).trans e64) ?_
      refine z_iconst C (z := 1) rfl rfl rfl (fun x68 ex68 => ?_)
      refine z_isub C rfl rfl ⟨by omega, by omega⟩ (fun x69 ex69 => ?_)
      refine z_imulL C (c := 5) rfl rfl (by omega) ⟨by omega, by omega⟩ (fun x70 ex70 => ?_)
      refine z_iadd C rfl rfl ⟨by omega, by omega⟩ (fun x71 ex71 => ?_)
      refine k_istore_n C (lw := [(3, .int x71), (0, .ref r0), (1, .int n1), (2, .int n2)]) rfl rfl (Nat.le_of_ble_eq_true rfl) rfl ?_
      refine k_aload_n C rfl rfl rfl ?_
      refine g_R C rfl rfl rfl T_r0 rfl R_r0_1 ?_
      refine k_iload_n C rfl rfl rfl ?_
      refine k_iload_n C rfl rfl rfl ?_
      have hk114 := e64
      refine z_sI C rfl rfl T_r0_1 N_r0_1 (by omega) (by omega) (fun I72 uI72 => ?_)
      have hI72 : IM R r0 I72 := IM.arr hI55 G_r0 R_r0_1 ⟨(fun h => absurd h (by decide)), (fun h => absurd h (by decide)), (fun h => absurd h (by decide))⟩ (fun _ => WOK.act (IM.w hI55 R_r0_1) (b := x54.toInt - 1) (c := 0) ⟨by omega, by omega⟩ ⟨by decide, by decide⟩ (by omega) (by omega) (by omega) (fun _ => ⟨by omega, by omega⟩)) uI72
      have S73 : CM A R r0 [] [1] I55 L38 I72 L38 := CM.a G_r0 R_r0_1 A_r0_1 uI72
      have F74 : ∀ r : Nat, r < 4 → I72 r0_1 r = I55 r0_1 r := fun r z0 => by rw [uI72]; exact u2_k (by have h2 := ncz (x := x71) (by omega); omega)
      have e75 := u2_j uI72 (by first | decide | exact ncne (by omega) (by omega) (by omega) | exact nckn (by omega) (by omega) | exact (nckn (by omega) (by omega)).symm) e59
      have e76 := u2_j uI72 (by first | decide | exact ncne (by omega) (by omega) (by omega) | exact nckn (by omega) (by omega) | exact (nckn (by omega) (by omega)).symm) e60
      have e77 := u2_j uI72 (by first | decide | exact ncne (by omega) (by omega) (by omega) | exact nckn (by omega) (by omega) | exact (nckn (by omega) (by omega)).symm) e61
      have e78 := u2_j uI72 (by first | decide | exact ncne (by omega) (by omega) (by omega) | exact nckn (by omega) (by omega) | exact (nckn (by omega) (by omega)).symm) e62
      have e79 := u2_n uI72 (fun e => (mF.ne G_r0 R_r0_1) e.symm) e63
      have e80 := u2_j uI72 (by first | decide | exact ncne (by omega) (by omega) (by omega) | exact nckn (by omega) (by omega) | exact (nckn (by omega) (by omega)).symm) e64
      have e81 := u2_e uI72
      have hu114 := uI72
      refine z_iconst C (z := 0) rfl rfl rfl (fun x82 ex82 => ?_)
      have J83 : ∀ (nn84 : Nat) (I85 : IT) (L86 : LT) (x87 : Int32) (x93 : Int32) (x97 : Int32), (MN (4 - x87.toInt) nn84) → (IM R r0 I85) → (CM A R r0 [] [1] I72 L38 I85 L86) → (∀ r : Nat, r < 4 → I85 r0_1 r = I72 r0_1 r) → (0 ≤ x87.toInt) → (x87.toInt ≤ 4) → (I85 r0_1 4 = x93) → (0 ≤ x93.toInt) → (x93.toInt ≤ 40) → (I85 r0_1 5 = x97) → (0 ≤ x97.toInt) → (x97.toInt ≤ 40) → (x93.toInt = x54.toInt) → (x97.toInt = w_r0_1_5.toInt) → (AC2 (I85 r0_1) (I r0_1) n1 n2 x71.toInt x87.toInt) → V 118 [(0, .ref r0), (1, .int n1), (2, .int n2), (3, .int x71), (4, .int x87)] [] (T, N, I85, L86, R) 0 0 := by
        intro nn84
        induction nn84 using Nat.strongRecOn with
        | _ nn84 ihJ83 =>
          intro I85 L86 x87 x93 x97 hmnn84 hI91 S90 F92 b88 b89 e94 b95 b96 e98 b99 b100 ff118_0 ff118_1 ff118_2
          have gx87 := rg x87
          have gx93 := rg x93
          have gx97 := rg x97
          have e101 := CM.k S90 (by decide) e79
          refine k_iload C rfl rfl rfl ?_
          refine z_iconst C (z := 4) rfl rfl rfl (fun x102 ex102 => ?_)
          refine b_icmp_ge C (t := 148) rfl rfl rfl (fun c103 => ?_) (fun c103 => ?_)
          · skip
            refine k_aload_n C rfl rfl rfl ?_
            refine g_R C rfl rfl rfl T_r0 rfl R_r0_1 ?_
            refine z_iconst C (z := 5) rfl rfl rfl (fun x104 ex104 => ?_)
            refine z_iconst C (z := 0) rfl rfl rfl (fun x105 ex105 => ?_)
            refine z_sI C rfl rfl T_r0_1 N_r0_1 (by omega) (by omega) (fun I106 uI106 => ?_)
            have uI106 : I106 = u2 I85 r0_1 5 (x105) := by rw [uI106, nck (n := 5) (by omega)]
            have hI106 : IM R r0 I106 := IM.arr hI91 G_r0 R_r0_1 ⟨(fun h => absurd h (by decide)), (fun h => absurd h (by decide)), (fun h => absurd h (by decide))⟩ (fun _ => WOK.c5 (IM.w hI91 R_r0_1) (by omega) (by omega)) uI106
            have S107 : CM A R r0 [] [1] I85 L86 I106 L86 := CM.a G_r0 R_r0_1 A_r0_1 uI106
            have F108 : ∀ r : Nat, r < 4 → I106 r0_1 r = I85 r0_1 r := fun r z0 => by rw [uI106]; exact u2_k (by have h2 := ncz (x := x104) (by omega); omega)
            have e109 := u2_n uI106 (fun e => (mF.ne G_r0 R_r0_1) e.symm) e101
            have e110 := u2_j uI106 (by first | decide | exact ncne (by omega) (by omega) (by omega) | exact nckn (by omega) (by omega) | exact (nckn (by omega) (by omega)).symm) e94
            have e112 := u2_e uI106
            have hu154 := uI106
            refine k_aload_n C rfl rfl rfl ?_
            refine k_iload_n C rfl rfl rfl ?_
            refine c_VV C (a_X12_tables_x hI106 H_r0 (by omega) (by omega)) rfl rfl rfl rfl rfl ⟨_, rfl, rfl, T_r0, Nat.le_of_ble_eq_true rfl⟩ rfl rfl (Nat.le_of_ble_eq_true rfl) (Nat.le_of_ble_eq_true rfl) (Nat.le_of_ble_eq_true rfl) ?_
            rintro I114 L115 ⟨p0v113, p1v113, p2v113, p3v113, hI114, S116⟩
            have p0v113 := p0v113 r0_1 R_r0_1
            have p1v113 := p1v113 r0_1 R_r0_1
            have p2v113 := p2v113 r0_1 R_r0_1
            have p3v113 := p3v113 r0_1 R_r0_1
            have e117 := CM.k S116 (by decide) e109
            have e118 := CM.j S116 R_r0_1 (by decide) e110
            have e119 := CM.j S116 R_r0_1 (by decide) e112
            obtain ⟨x120, e121⟩ : ∃ x, I114 r0 6 = x := ⟨_, rfl⟩
            have gx120 := rg x120
            have ox120 := IM.f6 hI114 e121
            obtain ⟨x122, e123⟩ : ∃ x, I114 r0 7 = x := ⟨_, rfl⟩
            have gx122 := rg x122
            have ox122 := IM.f7 hI114 e123
            obtain ⟨x124, e125⟩ : ∃ x, I114 r0 8 = x := ⟨_, rfl⟩
            have gx124 := rg x124
            have ox124 := IM.f8 hI114 e125
            obtain ⟨x126, e127⟩ : ∃ x, I114 r0 9 = x := ⟨_, rfl⟩
            have gx126 := rg x126
            have ox126 := IM.f9 hI114 e127
            try simp only [e109, e110, e112, e121, e123, e125, e127] at p0v113
            try have q0v113 := congrArg Int32.toInt p0v113
            try simp only [e109, e110, e112, e121, e123, e125, e127] at p1v113
            try have q1v113 := congrArg Int32.toInt p1v113
            try simp only [e109, e110, e112, e121, e123, e125, e127] at p2v113
            try have q2v113 := congrArg Int32.toInt p2v113
            try simp only [e109, e110, e112, e121, e123, e125, e127] at p3v113
            try have q3v113 := congrArg Int32.toInt p3v113
            have ht6 := p0v113
            have ht7 := p1v113
            have ht8 := p2v113
            have ht9 := p3v113
            have hw157 := CM.j0 S116 R_r0_1 (by decide)
            refine k_aload_n C rfl rfl rfl ?_
            refine k_iload_n C rfl rfl rfl ?_
            obtain ⟨x128, e129⟩ : ∃ x, I114 r0_1 0 = x := ⟨_, rfl⟩
            have gx128 := rg x128
            have ox128 := IM.pi hI114 R_r0_1 e129
            obtain ⟨x130, e131⟩ : ∃ x, I114 r0_1 (6 + 10 * n1.toNatClampNeg) = x := ⟨_, rfl⟩
            have gx130 := rg x130
            refine c_VI C (a_X12_mixesForm_x hI114 H_r0 (by omega) (by omega)) rfl rfl rfl rfl rfl ⟨_, rfl, rfl, T_r0, Nat.le_of_ble_eq_true rfl⟩ rfl rfl (Nat.le_of_ble_eq_true rfl) (Nat.le_of_ble_eq_true rfl) (Nat.le_of_ble_eq_true rfl) ?_
            rintro x132 I133 L134 ⟨o0x132, o1x132, p0x132, p1x132, p2x132, p3x132, hI133, S135⟩
            have p0x132 := p0x132 r0_1 R_r0_1
            have p1x132 := p1x132 r0_1 R_r0_1
            have p2x132 := p2x132 r0_1 R_r0_1
            have p3x132 := p3x132 r0_1 R_r0_1
            have F136 : ∀ r : Nat, r < 4 → I133 r0_1 r = I114 r0_1 r := fun r z0 => p3x132 r z0
            have e137 := CM.k S135 (by decide) e117
            have e140 := CM.k S135 (by decide) e121
            have e141 := CM.k S135 (by decide) e123
            have e142 := CM.k S135 (by decide) e125
            have e143 := CM.k S135 (by decide) e127
            have e144 := (p3x132 0 (by decide)).trans e129
            have gx132 := rg x132
            obtain ⟨x146, e147⟩ : ∃ x, I133 r0_1 4 = x := ⟨_, rfl⟩
            have gx146 := rg x146
            have ox146 := IM.c4 hI133 R_r0_1 e147
            obtain ⟨x148, e149⟩ : ∃ x, I133 r0_1 5 = x := ⟨_, rfl⟩
            have gx148 := rg x148
            have ox148 := IM.c5 hI133 R_r0_1 e149
            try simp only [e117, e118, e119, e121, e123, e125, e127, e129, e131, e147, e149] at p0x132
            try have q0x132 := congrArg Int32.toInt p0x132
            try simp only [e117, e118, e119, e121, e123, e125, e127, e129, e131, e147, e149] at p1x132
            try have q1x132 := congrArg Int32.toInt p1x132
            try simp only [e117, e118, e119, e121, e123, e125, e127, e129, e131, e147, e149] at p2x132
            try have q2x132 := congrArg Int32.toInt p2x132
            have hMF := p1x132
            have hMQ := p2x132
            exact k_iret C rfl (Or.inr ⟨rfl, z01 (by omega) (by omega)⟩) (Nat.le_of_ble_eq_true rfl) (Nat.le_of_ble_eq_true rfl) ⟨_, _, _, rfl, rfl, by omega, by omega, fun a1 h1 => by cases (R_r0_1.symm.trans h1); first | omega | (simp only [e137, e140, e141, e142, e143, e144, e147, e149, k0_r0_1_4, k0_r0_1_5, k0_r0_1_1, k0_r0_1_2, k0_r0_1_0, and_true, true_and, or_true, true_or, and_false, false_and, or_false, false_or] <;> omega), fun a1 h1 => by cases (R_r0_1.symm.trans h1); intro _; exact MXT.of (MXA.of ff118_2 hu154 (by omega) (by omega) k0_r0_1_4 (by omega) (by omega)) hw157 hMF ⟨by omega, by omega⟩ (by first | exact ht6 | omega) (by first | exact ht7 | omega) (by first | exact ht8 | omega) (by first | exact ht9 | omega) (by rw [e144]), fun a1 h1 => by cases (R_r0_1.symm.trans h1); intro _; rw [hw157] at hMQ; exact MFX.cg hMQ (MXA.of ff118_2 hu154 (by omega) (by omega) k0_r0_1_4 (by omega) (by omega)).1 (by have := ncz (x := n1) (by omega); omega) (by (have h9 := ((IM.w hI R_r0_1).2.2.1 n1.toNatClampNeg (by have := ncz (x := n1) (by omega); omega)).2.1; omega)), fun a1 h1 => by cases (R_r0_1.symm.trans h1); intro h; rw [e137] at h; exfalso; omega, fun a1 h1 => by cases (R_r0_1.symm.trans h1); first | omega | (simp only [e137, e140, e141, e142, e143, e144, e147, e149, k0_r0_1_4, k0_r0_1_5, k0_r0_1_1, k0_r0_1_2, k0_r0_1_0, and_true, true_and, or_true, true_or, and_false, false_and, or_false, false_or] <;> omega), fun a1 h1 => by cases (R_r0_1.symm.trans h1); exact (fun r z0 => ((F136 r z0).trans ((congrFun (CM.j0 S116 R_r0_1 (by decide)) r).trans ((F108 r z0).trans ((F92 r z0).trans ((F74 r z0).trans ((F57 r z0).trans ((congrFun (CM.j0 S39 R_r0_1 (by decide)) r).trans (congrFun (CM.j0 S3 R_r0_1 (by decide)) r))))))))), hI133, (CM.cons S3 (CM.cons S39 (CM.cons S56 (CM.cons S73 (CM.cons S90 (CM.cons S107 (CM.cons S116 (CM.mono S135 (by decide) (by decide)) (by decide) (by decide)) (by decide) (by decide)) (by decide) (by decide)) (by decide) (by decide)) (by decide) (by decide)) (by decide) (by decide)) (by decide) (by decide))⟩
          refine k_aload_n C rfl rfl rfl ?_
          refine g_R C rfl rfl rfl T_r0 rfl R_r0_1 ?_
          refine k_iload_n C rfl rfl rfl ?_
          refine z_iconst C (z := 1) rfl rfl rfl (fun x150 ex150 => ?_)
          refine z_iadd C rfl rfl ⟨by omega, by omega⟩ (fun x151 ex151 => ?_)
          refine k_iload C rfl rfl rfl ?_
          refine z_iadd C rfl rfl ⟨by omega, by omega⟩ (fun x152 ex152 => ?_)
          refine k_aload_n C rfl rfl rfl ?_
          refine k_iload_n C rfl rfl rfl ?_
          refine k_iload C rfl rfl rfl ?_
          refine c_VI C (a_X12_ofTable hI91 H_r0 (by omega) (by omega) (by omega) (by omega)) rfl rfl rfl rfl rfl ⟨_, rfl, rfl, T_r0, Nat.le_of_ble_eq_true rfl⟩ rfl rfl (Nat.le_of_ble_eq_true rfl) (Nat.le_of_ble_eq_true rfl) (Nat.le_of_ble_eq_true rfl) ?_
          rintro x153 _ _ ⟨o0x153, o1x153, p0x153, rfl, rfl⟩
          have p0x153 := p0x153 r0_1 R_r0_1
          have gx153 := rg x153
          try simp only [e101, e94, e98] at p0x153
          try have q0x153 := congrArg Int32.toInt p0x153
          have hOT := p0x153
          refine z_sI C rfl rfl T_r0_1 N_r0_1 (by omega) (by omega) (fun I154 uI154 => ?_)
          have hI154 : IM R r0 I154 := IM.arr hI91 G_r0 R_r0_1 ⟨(fun h => absurd h (by decide)), (fun h => absurd h (by decide)), (fun h => absurd h (by decide))⟩ (fun _ => WOK.act (IM.w hI91 R_r0_1) (b := x93.toInt - 1) (c := x87.toInt + 1) ⟨by omega, by omega⟩ ⟨by omega, by omega⟩ (by omega) (by omega) (by omega) (fun h => absurd h (by omega))) uI154
          have S155 : CM A R r0 [] [1] I85 L86 I154 L86 := CM.a G_r0 R_r0_1 A_r0_1 uI154
          have F156 : ∀ r : Nat, r < 4 → I154 r0_1 r = I85 r0_1 r := fun r z0 => by rw [uI154]; exact u2_k (by have h2 := ncz (x := x152) (by omega); omega)
          have e157 := u2_n uI154 (fun e => (mF.ne G_r0 R_r0_1) e.symm) e101
          have e158 := u2_j uI154 (by first | decide | exact ncne (by omega) (by omega) (by omega) | exact nckn (by omega) (by omega) | exact (nckn (by omega) (by omega)).symm) e94
          have e159 := u2_j uI154 (by first | decide | exact ncne (by omega) (by omega) (by omega) | exact nckn (by omega) (by omega) | exact (nckn (by omega) (by omega)).symm) e98
          have e160 := u2_e uI154
          have hu141 := uI154
          refine z_iinc C (z := 1) (lw := fun x161 => [(4, .int x161), (0, .ref r0), (1, .int n1), (2, .int n2), (3, .int x71)]) rfl rfl rfl (Nat.le_of_ble_eq_true rfl) rfl ⟨by omega, by omega⟩ (fun _ => rfl) (fun x161 ex161 => ?_)
          show V 145 [(4, .int x161), (0, .ref r0), (1, .int n1), (2, .int n2), (3, .int x71)] _ _ _ _
          refine k_goto C (pc2 := 118) rfl rfl ?_
          refine k_sub S [(0, .ref r0), (1, .int n1), (2, .int n2), (3, .int x71), (4, .int x161)] (List.forall_mem_cons.mpr ⟨List.mem_of_getElem? (i := 1) rfl, List.forall_mem_cons.mpr ⟨List.mem_of_getElem? (i := 2) rfl, List.forall_mem_cons.mpr ⟨List.mem_of_getElem? (i := 3) rfl, List.forall_mem_cons.mpr ⟨List.mem_of_getElem? (i := 4) rfl, List.forall_mem_cons.mpr ⟨List.mem_of_getElem? (i := 0) rfl, fun _ h => nomatch h⟩⟩⟩⟩⟩) ?_
          exact ihJ83 _ (MN.lt hmnn84 (by omega) (by omega)) I154 L86 x161 x93 x97 rfl hI154 (CM.cons S90 (CM.mono S155 (by decide) (by decide)) (by decide) (by decide)) (fun r z0 => ((F156 r z0).trans (F92 r z0))) (by omega) (by omega) e158 (by omega) (by omega) e159 (by omega) (by omega) (by omega) (by omega) (by exact AC2.s ff118_2 hu141 hOT ⟨by omega, by omega⟩ (by omega) (by omega) (by omega) (by omega) (by omega))
      refine k_istore C (lw := [(4, .int x82), (3, .int x71), (0, .ref r0), (1, .int n1), (2, .int n2)]) rfl rfl (Nat.le_of_ble_eq_true rfl) rfl ?_
      refine k_sub S [(0, .ref r0), (1, .int n1), (2, .int n2), (3, .int x71), (4, .int x82)] (List.forall_mem_cons.mpr ⟨List.mem_of_getElem? (i := 2) rfl, List.forall_mem_cons.mpr ⟨List.mem_of_getElem? (i := 3) rfl, List.forall_mem_cons.mpr ⟨List.mem_of_getElem? (i := 4) rfl, List.forall_mem_cons.mpr ⟨List.mem_of_getElem? (i := 1) rfl, List.forall_mem_cons.mpr ⟨List.mem_of_getElem? (i := 0) rfl, fun _ h => nomatch h⟩⟩⟩⟩⟩) ?_
      exact J83 _ I72 L38 x82 x54 w_r0_1_5 rfl hI72 CM.rf (fun r z0 => rfl) (by omega) (by omega) e80 (by omega) (by omega) e75 (by omega) (by omega) (by omega) (by omega) (by first | exact AC2.z (AC1.sh ff51_2 (by omega) k0_r0_1_4 (by omega)) hu114 hk114 (by omega) (by omega) (by omega) | exact AC2.z (AC1.in hw92 hu92 k0_r0_1_4 (by omega) (by omega)) hu114 hk114 (by omega) (by omega) (by omega))
    first | (replace p0x36 := p0x36.resolve_left (by omega)) | (replace p0x36 := p0x36.resolve_right (by omega)) | (replace p0x36 := p0x36 (by omega)) | (have hno := imp_no p0x36 (by omega); clear hno; clear p0x36) | skip
    first | (replace p1x36 := p1x36.resolve_left (by omega)) | (replace p1x36 := p1x36.resolve_right (by omega)) | (replace p1x36 := p1x36 (by omega)) | (have hno := imp_no p1x36 (by omega); clear hno; clear p1x36) | skip
    refine z_sipush C (z := 3406) rfl rfl rfl (fun x162 ex162 => ?_)
    have J163 : ∀ (nn164 : Nat) (I165 : IT) (L166 : LT) (x167 : Int32) (x173 : Int32) (x177 : Int32), (MN (3606 - x167.toInt) nn164) → (IM R r0 I165) → (CM A R r0 [] [1] I37 L38 I165 L166) → (∀ r : Nat, r < 4 → I165 r0_1 r = I37 r0_1 r) → (3406 ≤ x167.toInt) → (x167.toInt ≤ 3606) → (I165 r0_1 4 = x173) → (0 ≤ x173.toInt) → (x173.toInt ≤ 40) → (I165 r0_1 5 = x177) → (0 ≤ x177.toInt) → (x177.toInt ≤ 40) → (x173.toInt = w_r0_1_4.toInt) → (x177.toInt = w_r0_1_5.toInt) → (SHF (I165 r0_1) (I r0_1) x167.toInt) → V 51 [(0, .ref r0), (1, .int n1), (2, .int n2), (3, .int x167)] [] (T, N, I165, L166, R) 0 0 := by
      intro nn164
      induction nn164 using Nat.strongRecOn with
      | _ nn164 ihJ163 =>
        intro I165 L166 x167 x173 x177 hmnn164 hI171 S170 F172 b168 b169 e174 b175 b176 e178 b179 b180 ff51_0 ff51_1 ff51_2
        have gx167 := rg x167
        have gx173 := rg x173
        have gx177 := rg x177
        have e181 := CM.k S170 (by decide) e47
        refine k_iload_n C rfl rfl rfl ?_
        refine z_iconst C (z := 5) rfl rfl rfl (fun x182 ex182 => ?_)
        refine z_iadd C rfl rfl ⟨by omega, by omega⟩ (fun x183 ex183 => ?_)
        refine z_sipush C (z := 3606) rfl rfl rfl (fun x184 ex184 => ?_)
        refine b_icmp_ge C (t := 80) rfl rfl rfl (fun c185 => ?_) (fun c185 => ?_)
        · skip
          refine k_goto C (pc2 := 93) rfl rfl ?_
          refine z_sipush C (z := 3406) rfl rfl rfl (fun x186 ex186 => ?_)
          refine z_iconst C (z := 5) rfl rfl rfl (fun x187 ex187 => ?_)
          refine k_aload_n C rfl rfl rfl ?_
          refine g_R C rfl rfl rfl T_r0 rfl R_r0_1 ?_
          refine z_iconst C (z := 4) rfl rfl rfl (fun x188 ex188 => ?_)
          refine a_I C rfl rfl T_r0_1 (by rw [N_r0_1]; exact vpi (by omega) (by omega)) ((congrArg (I165 r0_1) (nck (n := 4) (by omega))).trans e174) ?_
          refine z_iconst C (z := 1) rfl rfl rfl (fun x189 ex189 => ?_)
          refine z_isub C rfl rfl ⟨by omega, by omega⟩ (fun x190 ex190 => ?_)
          refine z_imulL C (c := 5) rfl rfl (by omega) ⟨by omega, by omega⟩ (fun x191 ex191 => ?_)
          refine z_iadd C rfl rfl ⟨by omega, by omega⟩ (fun x192 ex192 => ?_)
          refine k_istore_n C (lw := [(3, .int x192), (0, .ref r0), (1, .int n1), (2, .int n2)]) rfl rfl (Nat.le_of_ble_eq_true rfl) rfl ?_
          refine k_aload_n C rfl rfl rfl ?_
          refine g_R C rfl rfl rfl T_r0 rfl R_r0_1 ?_
          refine k_iload_n C rfl rfl rfl ?_
          refine k_iload_n C rfl rfl rfl ?_
          have hk114 := e174
          refine z_sI C rfl rfl T_r0_1 N_r0_1 (by omega) (by omega) (fun I193 uI193 => ?_)
          have hI193 : IM R r0 I193 := IM.arr hI171 G_r0 R_r0_1 ⟨(fun h => absurd h (by decide)), (fun h => absurd h (by decide)), (fun h => absurd h (by decide))⟩ (fun _ => WOK.act (IM.w hI171 R_r0_1) (b := x173.toInt - 1) (c := 0) ⟨by omega, by omega⟩ ⟨by decide, by decide⟩ (by omega) (by omega) (by omega) (fun _ => ⟨by omega, by omega⟩)) uI193
          have S194 : CM A R r0 [] [1] I165 L166 I193 L166 := CM.a G_r0 R_r0_1 A_r0_1 uI193
          have F195 : ∀ r : Nat, r < 4 → I193 r0_1 r = I165 r0_1 r := fun r z0 => by rw [uI193]; exact u2_k (by have h2 := ncz (x := x192) (by omega); omega)
          have e196 := u2_n uI193 (fun e => (mF.ne G_r0 R_r0_1) e.symm) e181
          have e197 := u2_j uI193 (by first | decide | exact ncne (by omega) (by omega) (by omega) | exact nckn (by omega) (by omega) | exact (nckn (by omega) (by omega)).symm) e174
          have e198 := u2_j uI193 (by first | decide | exact ncne (by omega) (by omega) (by omega) | exact nckn (by omega) (by omega) | exact (nckn (by omega) (by omega)).symm) e178
          have e199 := u2_e uI193
          have hu114 := uI193
          refine z_iconst C (z := 0) rfl rfl rfl (fun x200 ex200 => ?_)
          have J201 : ∀ (nn202 : Nat) (I203 : IT) (L204 : LT) (x205 : Int32) (x211 : Int32) (x215 : Int32), (MN (4 - x205.toInt) nn202) → (IM R r0 I203) → (CM A R r0 [] [1] I193 L166 I203 L204) → (∀ r : Nat, r < 4 → I203 r0_1 r = I193 r0_1 r) → (0 ≤ x205.toInt) → (x205.toInt ≤ 4) → (I203 r0_1 4 = x211) → (0 ≤ x211.toInt) → (x211.toInt ≤ 40) → (I203 r0_1 5 = x215) → (0 ≤ x215.toInt) → (x215.toInt ≤ 40) → (x211.toInt = x173.toInt) → (x215.toInt = x177.toInt) → (AC2 (I203 r0_1) (I r0_1) n1 n2 x192.toInt x205.toInt) → V 118 [(0, .ref r0), (1, .int n1), (2, .int n2), (3, .int x192), (4, .int x205)] [] (T, N, I203, L204, R) 0 0 := by
            intro nn202
            induction nn202 using Nat.strongRecOn with
            | _ nn202 ihJ201 =>
              intro I203 L204 x205 x211 x215 hmnn202 hI209 S208 F210 b206 b207 e212 b213 b214 e216 b217 b218 ff118_0 ff118_1 ff118_2
              have gx205 := rg x205
              have gx211 := rg x211
              have gx215 := rg x215
              have e219 := CM.k S208 (by decide) e196
              refine k_iload C rfl rfl rfl ?_
              refine z_iconst C (z := 4) rfl rfl rfl (fun x220 ex220 => ?_)
              refine b_icmp_ge C (t := 148) rfl rfl rfl (fun c221 => ?_) (fun c221 => ?_)
              · skip
                refine k_aload_n C rfl rfl rfl ?_
                refine g_R C rfl rfl rfl T_r0 rfl R_r0_1 ?_
                refine z_iconst C (z := 5) rfl rfl rfl (fun x222 ex222 => ?_)
                refine z_iconst C (z := 0) rfl rfl rfl (fun x223 ex223 => ?_)
                refine z_sI C rfl rfl T_r0_1 N_r0_1 (by omega) (by omega) (fun I224 uI224 => ?_)
                have uI224 : I224 = u2 I203 r0_1 5 (x223) := by rw [uI224, nck (n := 5) (by omega)]
                have hI224 : IM R r0 I224 := IM.arr hI209 G_r0 R_r0_1 ⟨(fun h => absurd h (by decide)), (fun h => absurd h (by decide)), (fun h => absurd h (by decide))⟩ (fun _ => WOK.c5 (IM.w hI209 R_r0_1) (by omega) (by omega)) uI224
                have S225 : CM A R r0 [] [1] I203 L204 I224 L204 := CM.a G_r0 R_r0_1 A_r0_1 uI224
                have F226 : ∀ r : Nat, r < 4 → I224 r0_1 r = I203 r0_1 r := fun r z0 => by rw [uI224]; exact u2_k (by have h2 := ncz (x := x222) (by omega); omega)
                have e227 := u2_n uI224 (fun e => (mF.ne G_r0 R_r0_1) e.symm) e219
                have e228 := u2_j uI224 (by first | decide | exact ncne (by omega) (by omega) (by omega) | exact nckn (by omega) (by omega) | exact (nckn (by omega) (by omega)).symm) e212
                have e230 := u2_e uI224
                have hu154 := uI224
                refine k_aload_n C rfl rfl rfl ?_
                refine k_iload_n C rfl rfl rfl ?_
                refine c_VV C (a_X12_tables_x hI224 H_r0 (by omega) (by omega)) rfl rfl rfl rfl rfl ⟨_, rfl, rfl, T_r0, Nat.le_of_ble_eq_true rfl⟩ rfl rfl (Nat.le_of_ble_eq_true rfl) (Nat.le_of_ble_eq_true rfl) (Nat.le_of_ble_eq_true rfl) ?_
                rintro I232 L233 ⟨p0v231, p1v231, p2v231, p3v231, hI232, S234⟩
                have p0v231 := p0v231 r0_1 R_r0_1
                have p1v231 := p1v231 r0_1 R_r0_1
                have p2v231 := p2v231 r0_1 R_r0_1
                have p3v231 := p3v231 r0_1 R_r0_1
                have e235 := CM.k S234 (by decide) e227
                have e236 := CM.j S234 R_r0_1 (by decide) e228
                have e237 := CM.j S234 R_r0_1 (by decide) e230
                obtain ⟨x238, e239⟩ : ∃ x, I232 r0 6 = x := ⟨_, rfl⟩
                have gx238 := rg x238
                have ox238 := IM.f6 hI232 e239
                obtain ⟨x240, e241⟩ : ∃ x, I232 r0 7 = x := ⟨_, rfl⟩
                have gx240 := rg x240
                have ox240 := IM.f7 hI232 e241
                obtain ⟨x242, e243⟩ : ∃ x, I232 r0 8 = x := ⟨_, rfl⟩
                have gx242 := rg x242
                have ox242 := IM.f8 hI232 e243
                obtain ⟨x244, e245⟩ : ∃ x, I232 r0 9 = x := ⟨_, rfl⟩
                have gx244 := rg x244
                have ox244 := IM.f9 hI232 e245
                try simp only [e227, e228, e230, e239, e241, e243, e245] at p0v231
                try have q0v231 := congrArg Int32.toInt p0v231
                try simp only [e227, e228, e230, e239, e241, e243, e245] at p1v231
                try have q1v231 := congrArg Int32.toInt p1v231
                try simp only [e227, e228, e230, e239, e241, e243, e245] at p2v231
                try have q2v231 := congrArg Int32.toInt p2v231
                try simp only [e227, e228, e230, e239, e241, e243, e245] at p3v231
                try have q3v231 := congrArg Int32.toInt p3v231
                have ht6 := p0v231
                have ht7 := p1v231
                have ht8 := p2v231
                have ht9 := p3v231
                have hw157 := CM.j0 S234 R_r0_1 (by decide)
                refine k_aload_n C rfl rfl rfl ?_
                refine k_iload_n C rfl rfl rfl ?_
                obtain ⟨x246, e247⟩ : ∃ x, I232 r0_1 0 = x := ⟨_, rfl⟩
                have gx246 := rg x246
                have ox246 := IM.pi hI232 R_r0_1 e247
                obtain ⟨x248, e249⟩ : ∃ x, I232 r0_1 (6 + 10 * n1.toNatClampNeg) = x := ⟨_, rfl⟩
                have gx248 := rg x248
                refine c_VI C (a_X12_mixesForm_x hI232 H_r0 (by omega) (by omega)) rfl rfl rfl rfl rfl ⟨_, rfl, rfl, T_r0, Nat.le_of_ble_eq_true rfl⟩ rfl rfl (Nat.le_of_ble_eq_true rfl) (Nat.le_of_ble_eq_true rfl) (Nat.le_of_ble_eq_true rfl) ?_
                rintro x250 I251 L252 ⟨o0x250, o1x250, p0x250, p1x250, p2x250, p3x250, hI251, S253⟩
                have p0x250 := p0x250 r0_1 R_r0_1
                have p1x250 := p1x250 r0_1 R_r0_1
                have p2x250 := p2x250 r0_1 R_r0_1
                have p3x250 := p3x250 r0_1 R_r0_1
                have F254 : ∀ r : Nat, r < 4 → I251 r0_1 r = I232 r0_1 r := fun r z0 => p3x250 r z0
                have e255 := CM.k S253 (by decide) e235
                have e258 := CM.k S253 (by decide) e239
                have e259 := CM.k S253 (by decide) e241
                have e260 := CM.k S253 (by decide) e243
                have e261 := CM.k S253 (by decide) e245
                have e262 := (p3x250 0 (by decide)).trans e247
                have gx250 := rg x250
                obtain ⟨x264, e265⟩ : ∃ x, I251 r0_1 4 = x := ⟨_, rfl⟩
                have gx264 := rg x264
                have ox264 := IM.c4 hI251 R_r0_1 e265
                obtain ⟨x266, e267⟩ : ∃ x, I251 r0_1 5 = x := ⟨_, rfl⟩
                have gx266 := rg x266
                have ox266 := IM.c5 hI251 R_r0_1 e267
                try simp only [e235, e236, e237, e239, e241, e243, e245, e247, e249, e265, e267] at p0x250
                try have q0x250 := congrArg Int32.toInt p0x250
                try simp only [e235, e236, e237, e239, e241, e243, e245, e247, e249, e265, e267] at p1x250
                try have q1x250 := congrArg Int32.toInt p1x250
                try simp only [e235, e236, e237, e239, e241, e243, e245, e247, e249, e265, e267] at p2x250
                try have q2x250 := congrArg Int32.toInt p2x250
                have hMF := p1x250
                have hMQ := p2x250
                exact k_iret C rfl (Or.inr ⟨rfl, z01 (by omega) (by omega)⟩) (Nat.le_of_ble_eq_true rfl) (Nat.le_of_ble_eq_true rfl) ⟨_, _, _, rfl, rfl, by omega, by omega, fun a1 h1 => by cases (R_r0_1.symm.trans h1); first | omega | (simp only [e255, e258, e259, e260, e261, e262, e265, e267, k0_r0_1_4, k0_r0_1_5, k0_r0_1_1, k0_r0_1_2, k0_r0_1_0, and_true, true_and, or_true, true_or, and_false, false_and, or_false, false_or] <;> omega), fun a1 h1 => by cases (R_r0_1.symm.trans h1); intro _; exact MXT.of (MXA.of ff118_2 hu154 (by omega) (by omega) k0_r0_1_4 (by omega) (by omega)) hw157 hMF ⟨by omega, by omega⟩ (by first | exact ht6 | omega) (by first | exact ht7 | omega) (by first | exact ht8 | omega) (by first | exact ht9 | omega) (by rw [e262]), fun a1 h1 => by cases (R_r0_1.symm.trans h1); intro _; rw [hw157] at hMQ; exact MFX.cg hMQ (MXA.of ff118_2 hu154 (by omega) (by omega) k0_r0_1_4 (by omega) (by omega)).1 (by have := ncz (x := n1) (by omega); omega) (by (have h9 := ((IM.w hI R_r0_1).2.2.1 n1.toNatClampNeg (by have := ncz (x := n1) (by omega); omega)).2.1; omega)), fun a1 h1 => by cases (R_r0_1.symm.trans h1); intro h; rw [e255] at h; exfalso; omega, fun a1 h1 => by cases (R_r0_1.symm.trans h1); first | omega | (simp only [e255, e258, e259, e260, e261, e262, e265, e267, k0_r0_1_4, k0_r0_1_5, k0_r0_1_1, k0_r0_1_2, k0_r0_1_0, and_true, true_and, or_true, true_or, and_false, false_and, or_false, false_or] <;> omega), fun a1 h1 => by cases (R_r0_1.symm.trans h1); exact (fun r z0 => ((F254 r z0).trans ((congrFun (CM.j0 S234 R_r0_1 (by decide)) r).trans ((F226 r z0).trans ((F210 r z0).trans ((F195 r z0).trans ((F172 r z0).trans ((congrFun (CM.j0 S39 R_r0_1 (by decide)) r).trans (congrFun (CM.j0 S3 R_r0_1 (by decide)) r))))))))), hI251, (CM.cons S3 (CM.cons S39 (CM.cons S170 (CM.cons S194 (CM.cons S208 (CM.cons S225 (CM.cons S234 (CM.mono S253 (by decide) (by decide)) (by decide) (by decide)) (by decide) (by decide)) (by decide) (by decide)) (by decide) (by decide)) (by decide) (by decide)) (by decide) (by decide)) (by decide) (by decide))⟩
              refine k_aload_n C rfl rfl rfl ?_
              refine g_R C rfl rfl rfl T_r0 rfl R_r0_1 ?_
              refine k_iload_n C rfl rfl rfl ?_
              refine z_iconst C (z := 1) rfl rfl rfl (fun x268 ex268 => ?_)
              refine z_iadd C rfl rfl ⟨by omega, by omega⟩ (fun x269 ex269 => ?_)
              refine k_iload C rfl rfl rfl ?_
              refine z_iadd C rfl rfl ⟨by omega, by omega⟩ (fun x270 ex270 => ?_)
              refine k_aload_n C rfl rfl rfl ?_
              refine k_iload_n C rfl rfl rfl ?_
              refine k_iload C rfl rfl rfl ?_
              refine c_VI C (a_X12_ofTable hI209 H_r0 (by omega) (by omega) (by omega) (by omega)) rfl rfl rfl rfl rfl ⟨_, rfl, rfl, T_r0, Nat.le_of_ble_eq_true rfl⟩ rfl rfl (Nat.le_of_ble_eq_true rfl) (Nat.le_of_ble_eq_true rfl) (Nat.le_of_ble_eq_true rfl) ?_
              rintro x271 _ _ ⟨o0x271, o1x271, p0x271, rfl, rfl⟩
              have p0x271 := p0x271 r0_1 R_r0_1
              have gx271 := rg x271
              try simp only [e219, e212, e216] at p0x271
              try have q0x271 := congrArg Int32.toInt p0x271
              have hOT := p0x271
              refine z_sI C rfl rfl T_r0_1 N_r0_1 (by omega) (by omega) (fun I272 uI272 => ?_)
              have hI272 : IM R r0 I272 := IM.arr hI209 G_r0 R_r0_1 ⟨(fun h => absurd h (by decide)), (fun h => absurd h (by decide)), (fun h => absurd h (by decide))⟩ (fun _ => WOK.act (IM.w hI209 R_r0_1) (b := x211.toInt - 1) (c := x205.toInt + 1) ⟨by omega, by omega⟩ ⟨by omega, by omega⟩ (by omega) (by omega) (by omega) (fun h => absurd h (by omega))) uI272
              have S273 : CM A R r0 [] [1] I203 L204 I272 L204 := CM.a G_r0 R_r0_1 A_r0_1 uI272
              have F274 : ∀ r : Nat, r < 4 → I272 r0_1 r = I203 r0_1 r := fun r z0 => by rw [uI272]; exact u2_k (by have h2 := ncz (x := x270) (by omega); omega)
              have e275 := u2_n uI272 (fun e => (mF.ne G_r0 R_r0_1) e.symm) e219
              have e276 := u2_j uI272 (by first | decide | exact ncne (by omega) (by omega) (by omega) | exact nckn (by omega) (by omega) | exact (nckn (by omega) (by omega)).symm) e212
              have e277 := u2_j uI272 (by first | decide | exact ncne (by omega) (by omega) (by omega) | exact nckn (by omega) (by omega) | exact (nckn (by omega) (by omega)).symm) e216
              have e278 := u2_e uI272
              have hu141 := uI272
              refine z_iinc C (z := 1) (lw := fun x279 => [(4, .int x279), (0, .ref r0), (1, .int n1), (2, .int n2), (3, .int x192)]) rfl rfl rfl (Nat.le_of_ble_eq_true rfl) rfl ⟨by omega, by omega⟩ (fun _ => rfl) (fun x279 ex279 => ?_)
              show V 145 [(4, .int x279), (0, .ref r0), (1, .int n1), (2, .int n2), (3, .int x192)] _ _ _ _
              refine k_goto C (pc2 := 118) rfl rfl ?_
              refine k_sub S [(0, .ref r0), (1, .int n1), (2, .int n2), (3, .int x192), (4, .int x279)] (List.forall_mem_cons.mpr ⟨List.mem_of_getElem? (i := 1) rfl, List.forall_mem_cons.mpr ⟨List.mem_of_getElem? (i := 2) rfl, List.forall_mem_cons.mpr ⟨List.mem_of_getElem? (i := 3) rfl, List.forall_mem_cons.mpr ⟨List.mem_of_getElem? (i := 4) rfl, List.forall_mem_cons.mpr ⟨List.mem_of_getElem? (i := 0) rfl, fun _ h => nomatch h⟩⟩⟩⟩⟩) ?_
              exact ihJ201 _ (MN.lt hmnn202 (by omega) (by omega)) I272 L204 x279 x211 x215 rfl hI272 (CM.cons S208 (CM.mono S273 (by decide) (by decide)) (by decide) (by decide)) (fun r z0 => ((F274 r z0).trans (F210 r z0))) (by omega) (by omega) e276 (by omega) (by omega) e277 (by omega) (by omega) (by omega) (by omega) (by exact AC2.s ff118_2 hu141 hOT ⟨by omega, by omega⟩ (by omega) (by omega) (by omega) (by omega) (by omega))
          refine k_istore C (lw := [(4, .int x200), (3, .int x192), (0, .ref r0), (1, .int n1), (2, .int n2)]) rfl rfl (Nat.le_of_ble_eq_true rfl) rfl ?_
          refine k_sub S [(0, .ref r0), (1, .int n1), (2, .int n2), (3, .int x192), (4, .int x200)] (List.forall_mem_cons.mpr ⟨List.mem_of_getElem? (i := 2) rfl, List.forall_mem_cons.mpr ⟨List.mem_of_getElem? (i := 3) rfl, List.forall_mem_cons.mpr ⟨List.mem_of_getElem? (i := 4) rfl, List.forall_mem_cons.mpr ⟨List.mem_of_getElem? (i := 1) rfl, List.forall_mem_cons.mpr ⟨List.mem_of_getElem? (i := 0) rfl, fun _ h => nomatch h⟩⟩⟩⟩⟩) ?_
          exact J201 _ I193 L166 x200 x173 x177 rfl hI193 CM.rf (fun r z0 => rfl) (by omega) (by omega) e197 (by omega) (by omega) e198 (by omega) (by omega) (by omega) (by omega) (by first | exact AC2.z (AC1.sh ff51_2 (by omega) k0_r0_1_4 (by omega)) hu114 hk114 (by omega) (by omega) (by omega) | exact AC2.z (AC1.in hw92 hu92 k0_r0_1_4 (by omega) (by omega)) hu114 hk114 (by omega) (by omega) (by omega))
        refine k_aload_n C rfl rfl rfl ?_
        refine g_R C rfl rfl rfl T_r0 rfl R_r0_1 ?_
        refine k_iload_n C rfl rfl rfl ?_
        refine k_aload_n C rfl rfl rfl ?_
        refine g_R C rfl rfl rfl T_r0 rfl R_r0_1 ?_
        refine k_iload_n C rfl rfl rfl ?_
        refine z_iconst C (z := 5) rfl rfl rfl (fun x280 ex280 => ?_)
        refine z_iadd C rfl rfl ⟨by omega, by omega⟩ (fun x281 ex281 => ?_)
        refine z_aI C rfl rfl T_r0_1 N_r0_1 (by omega) (by omega) (fun x282 ex282 => ?_)
        have gx282 := rg x282
        have hr := ex282
        refine z_sI C rfl rfl T_r0_1 N_r0_1 (by omega) (by omega) (fun I283 uI283 => ?_)
        have hI283 : IM R r0 I283 := IM.arr hI171 G_r0 R_r0_1 ⟨(fun h => absurd h (by decide)), (fun h => absurd h (by decide)), (fun h => absurd h (by decide))⟩ (fun _ => WOK.sh (IM.w hI171 R_r0_1) ⟨by omega, by omega⟩ (by omega) hr) uI283
        have S284 : CM A R r0 [] [1] I165 L166 I283 L166 := CM.a G_r0 R_r0_1 A_r0_1 uI283
        have F285 : ∀ r : Nat, r < 4 → I283 r0_1 r = I165 r0_1 r := fun r z0 => by rw [uI283]; exact u2_k (by have h2 := ncz (x := x167) (by omega); omega)
        have e286 := u2_n uI283 (fun e => (mF.ne G_r0 R_r0_1) e.symm) e181
        have e287 := u2_j uI283 (by first | decide | exact ncne (by omega) (by omega) (by omega) | exact nckn (by omega) (by omega) | exact (nckn (by omega) (by omega)).symm) e174
        have e288 := u2_j uI283 (by first | decide | exact ncne (by omega) (by omega) (by omega) | exact nckn (by omega) (by omega) | exact (nckn (by omega) (by omega)).symm) e178
        have e290 := u2_e uI283
        have hu73 := uI283
        refine z_iinc C (z := 1) (lw := fun x291 => [(3, .int x291), (0, .ref r0), (1, .int n1), (2, .int n2)]) rfl rfl rfl (Nat.le_of_ble_eq_true rfl) rfl ⟨by omega, by omega⟩ (fun _ => rfl) (fun x291 ex291 => ?_)
        show V 77 [(3, .int x291), (0, .ref r0), (1, .int n1), (2, .int n2)] _ _ _ _
        refine k_goto C (pc2 := 51) rfl rfl ?_
        refine k_sub S [(0, .ref r0), (1, .int n1), (2, .int n2), (3, .int x291)] (List.forall_mem_cons.mpr ⟨List.mem_of_getElem? (i := 1) rfl, List.forall_mem_cons.mpr ⟨List.mem_of_getElem? (i := 2) rfl, List.forall_mem_cons.mpr ⟨List.mem_of_getElem? (i := 3) rfl, List.forall_mem_cons.mpr ⟨List.mem_of_getElem? (i := 0) rfl, fun _ h => nomatch h⟩⟩⟩⟩) ?_
        exact ihJ163 _ (MN.lt hmnn164 (by omega) (by omega)) I283 L166 x291 x173 x177 rfl hI283 (CM.cons S170 (CM.mono S284 (by decide) (by decide)) (by decide) (by decide)) (fun r z0 => ((F285 r z0).trans (F172 r z0))) (by omega) (by omega) e287 (by omega) (by omega) e288 (by omega) (by omega) (by omega) (by omega) (by exact SHF.s ff51_2 hu73 hr (by omega) (by omega) (by omega))
    refine k_istore_n C (lw := [(3, .int x162), (0, .ref r0), (1, .int n1), (2, .int n2)]) rfl rfl (Nat.le_of_ble_eq_true rfl) rfl ?_
    refine k_sub S [(0, .ref r0), (1, .int n1), (2, .int n2), (3, .int x162)] (List.forall_mem_cons.mpr ⟨List.mem_of_getElem? (i := 1) rfl, List.forall_mem_cons.mpr ⟨List.mem_of_getElem? (i := 2) rfl, List.forall_mem_cons.mpr ⟨List.mem_of_getElem? (i := 3) rfl, List.forall_mem_cons.mpr ⟨List.mem_of_getElem? (i := 0) rfl, fun _ h => nomatch h⟩⟩⟩⟩) ?_
    exact J163 _ I37 L38 x162 w_r0_1_4 w_r0_1_5 rfl hI37 CM.rf (fun r z0 => rfl) (by omega) (by omega) e40 (by omega) (by omega) e41 (by omega) (by omega) (by omega) (by omega) (by exact SHF.z (CM.j0 (W := [0]) (WA := []) (CM.cons S3 (CM.mono S39 (by decide) (by decide)) (by decide) (by decide)) R_r0_1 (by decide)) (by omega))
  first | (replace p0x30 := p0x30.resolve_left (by omega)) | (replace p0x30 := p0x30.resolve_right (by omega)) | (replace p0x30 := p0x30 (by omega)) | (have hno := imp_no p0x30 (by omega); clear hno; clear p0x30) | skip
  refine z_iconst C (z := 1) rfl rfl rfl (fun x292 ex292 => ?_)
  refine k_goto C (pc2 := 27) rfl rfl ?_
  refine z_iconst C (z := 1) rfl rfl rfl (fun x293 ex293 => ?_)
  have q294 : x292.toNatClampNeg = 1 := nck (by omega)
  have q295 : x293.toNatClampNeg = 1 := nck (by omega)
  refine c_VI C (a_X12_throwsIf_e hI2 H_r0 (by omega) (by omega)) rfl rfl rfl rfl rfl ⟨_, rfl, rfl, T_r0, Nat.le_of_ble_eq_true rfl⟩ rfl rfl (Nat.le_of_ble_eq_true rfl) (Nat.le_of_ble_eq_true rfl) (Nat.le_of_ble_eq_true rfl) ?_
  rintro x296 I297 L298 ⟨o0x296, o1x296, p0x296, p1x296, hI297, S299⟩
  have e300 := CM.j S299 R_r0_1 (by decide) e4
  have e301 := CM.j S299 R_r0_1 (by decide) e5
  have e302 := CM.j S299 R_r0_1 (by decide) e6
  have e303 := CM.j S299 R_r0_1 (by decide) e7
  have e304 := CM.j S299 R_r0_1 (by decide) e8
  have gx296 := rg x296
  obtain ⟨x306, e307⟩ : ∃ x, I297 r0 0 = x := ⟨_, rfl⟩
  have gx306 := rg x306
  try simp only [q294, q295, e4, e5, e6, e7, e8, e9, e307] at p0x296
  try have q0x296 := congrArg Int32.toInt p0x296
  try simp only [q294, q295, e4, e5, e6, e7, e8, e9, e307] at p1x296
  try have q1x296 := congrArg Int32.toInt p1x296
  refine b_if_eq C (t := 36) rfl rfl rfl (fun c308 => by exfalso; omega) (fun c308 => ?_)
  first | (replace p0x296 := p0x296.resolve_left (by omega)) | (replace p0x296 := p0x296.resolve_right (by omega)) | (replace p0x296 := p0x296 (by omega)) | (have hno := imp_no p0x296 (by omega); clear hno; clear p0x296) | skip
  first | (replace p1x296 := p1x296.resolve_left (by omega)) | (replace p1x296 := p1x296.resolve_right (by omega)) | (replace p1x296 := p1x296 (by omega)) | (have hno := imp_no p1x296 (by omega); clear hno; clear p1x296) | skip
  refine z_iconst C (z := 0) rfl rfl rfl (fun x309 ex309 => ?_)
  exact k_iret C rfl (Or.inr ⟨rfl, z01 (by omega) (by omega)⟩) (Nat.le_of_ble_eq_true rfl) (Nat.le_of_ble_eq_true rfl) ⟨_, _, _, rfl, rfl, by omega, by omega, fun a1 h1 => by cases (R_r0_1.symm.trans h1); first | omega | (simp only [e300, e301, e302, e303, e304, e307, k0_r0_1_4, k0_r0_1_5, k0_r0_1_1, k0_r0_1_2, k0_r0_1_0, and_true, true_and, or_true, true_or, and_false, false_and, or_false, false_or] <;> omega), fun a1 h1 => by cases (R_r0_1.symm.trans h1); intro h; rw [e307] at h; exfalso; omega, fun a1 h1 => by cases (R_r0_1.symm.trans h1); intro h; rw [e307] at h; exfalso; omega, fun a1 h1 => by cases (R_r0_1.symm.trans h1); intro _; exact CM.j0 (W := [0]) (WA := []) (CM.cons S3 (CM.mono S299 (by decide) (by decide)) (by decide) (by decide)) R_r0_1 (by decide), fun a1 h1 => by cases (R_r0_1.symm.trans h1); first | omega | (simp only [e300, e301, e302, e303, e304, e307, k0_r0_1_4, k0_r0_1_5, k0_r0_1_1, k0_r0_1_2, k0_r0_1_0, and_true, true_and, or_true, true_or, and_false, false_and, or_false, false_or] <;> omega), fun a1 h1 => by cases (R_r0_1.symm.trans h1); exact (fun r z0 => ((congrFun (CM.j0 S299 R_r0_1 (by decide)) r).trans (congrFun (CM.j0 S3 R_r0_1 (by decide)) r))), hI297, (CM.cons S3 (CM.mono S299 (by decide) (by decide)) (by decide) (by decide))⟩

theorem a_X12_again_x {d : Nat} {T N : Nat → Nat} {I : IT} {L : LT} {R : RT} {A : Nat → Prop} {r0 : Nat} {n1 n2 : Int32} (hI : IM R r0 I) (H_r0 : (h_MD T N R A) r0) (b0_n1 : 0 ≤ n1.toInt) (b1_n1 : n1.toInt ≤ 39) (b0_n2 : 0 ≤ n2.toInt) (b1_n2 : n2.toInt ≤ 1) : Ex (d + 6) 245 [.ref r0, .int n1, .int n2] (T, N, I, L, R) 0 0 (pI T N R (fun x9 I9 L9 => (∀ a1, R r0 1 = some a1 → (I a1 4).toInt + (I a1 5).toInt ≤ 40 → (I9 a1 4).toInt + (I9 a1 5).toInt ≤ 40) ∧ (∀ a1, R r0 1 = some a1 → AGX (I9 a1) (I a1) n1.toNatClampNeg n2.toInt x9.toInt) ∧ (∀ a1, R r0 1 = some a1 → ∀ r : Nat, r < 4 → I9 a1 r = I a1 r) ∧ (IM R r0 I9 ∧ CM A R r0 [6, 7, 8, 9] [1, 4, 5] I L I9 L9))) := by
  refine ⟨_, rfl, Nat.le_of_ble_eq_true rfl, fun V C S => ?_⟩
  show V 0 [(0, .ref r0), (1, .int n1), (2, .int n2)] [] (T, N, I, L, R) 0 0
  have gn1 := rg n1
  have gn2 := rg n2
  obtain ⟨T_r0, A_r0, ⟨r0_1, R_r0_1, H_r0_1⟩, ⟨r0_2, R_r0_2, H_r0_2⟩, ⟨r0_4, R_r0_4, H_r0_4⟩, ⟨r0_5, R_r0_5, H_r0_5⟩, ⟨r0_10, R_r0_10, H_r0_10⟩, ⟨r0_18, R_r0_18, H_r0_18⟩, ⟨r0_20, R_r0_20, H_r0_20⟩, ⟨r0_21, R_r0_21, H_r0_21⟩, ⟨r0_22, R_r0_22, H_r0_22⟩, ⟨r0_23, R_r0_23, H_r0_23⟩, ⟨r0_25, R_r0_25, H_r0_25⟩, ⟨r0_26, R_r0_26, H_r0_26⟩, ⟨r0_27, R_r0_27, H_r0_27⟩, ⟨r0_28, R_r0_28, H_r0_28⟩, ⟨r0_34, R_r0_34, H_r0_34⟩, J_r0, Y_r0⟩ := id H_r0
  have G_r0 : mF T R r0 := ⟨J_r0, Y_r0, T_r0⟩
  obtain ⟨w_r0_1_4, k0_r0_1_4⟩ : ∃ x, I r0_1 4 = x := ⟨_, rfl⟩
  have gw_r0_1_4 := rg w_r0_1_4
  have ow_r0_1_4 := IM.c4 hI R_r0_1 k0_r0_1_4
  obtain ⟨w_r0_1_5, k0_r0_1_5⟩ : ∃ x, I r0_1 5 = x := ⟨_, rfl⟩
  have gw_r0_1_5 := rg w_r0_1_5
  have ow_r0_1_5 := IM.c5 hI R_r0_1 k0_r0_1_5
  obtain ⟨w_r0_1_0, k0_r0_1_0⟩ : ∃ x, I r0_1 0 = x := ⟨_, rfl⟩
  have gw_r0_1_0 := rg w_r0_1_0
  have ow_r0_1_0 := IM.pi hI R_r0_1 k0_r0_1_0
  refine z_sipush C (z := 3406) rfl rfl rfl (fun x1 ex1 => ?_)
  refine z_iconst C (z := 5) rfl rfl rfl (fun x2 ex2 => ?_)
  refine k_iload_n C rfl rfl rfl ?_
  refine z_imulL C (c := 5) rfl rfl (by omega) ⟨by omega, by omega⟩ (fun x3 ex3 => ?_)
  refine z_iadd C rfl rfl ⟨by omega, by omega⟩ (fun x4 ex4 => ?_)
  refine k_istore_n C (lw := [(3, .int x4), (0, .ref r0), (1, .int n1), (2, .int n2)]) rfl rfl (Nat.le_of_ble_eq_true rfl) rfl ?_
  refine k_aload_n C rfl rfl rfl ?_
  refine k_aload_n C rfl rfl rfl ?_
  refine g_R C rfl rfl rfl T_r0 rfl R_r0_1 ?_
  refine k_iload_n C rfl rfl rfl ?_
  refine z_iconst C (z := 1) rfl rfl rfl (fun x5 ex5 => ?_)
  refine z_iadd C rfl rfl ⟨by omega, by omega⟩ (fun x6 ex6 => ?_)
  obtain ⟨T_r0_1, N_r0_1, A_r0_1⟩ := id H_r0_1
  refine z_aI C rfl rfl T_r0_1 N_r0_1 (by omega) (by omega) (fun x7 ex7 => ?_)
  have gx7 := rg x7
  have dx7 := IM.actn hI R_r0_1 (b := n1.toInt) (i := 1) ⟨by omega, by omega⟩ ⟨by decide, by decide⟩ (by omega) ex7
  have k1 := ex7
  refine k_aload_n C rfl rfl rfl ?_
  refine g_R C rfl rfl rfl T_r0 rfl R_r0_1 ?_
  refine k_iload_n C rfl rfl rfl ?_
  refine z_iconst C (z := 2) rfl rfl rfl (fun x8 ex8 => ?_)
  refine z_iadd C rfl rfl ⟨by omega, by omega⟩ (fun x9 ex9 => ?_)
  refine z_aI C rfl rfl T_r0_1 N_r0_1 (by omega) (by omega) (fun x10 ex10 => ?_)
  have gx10 := rg x10
  have dx10 := IM.actn hI R_r0_1 (b := n1.toInt) (i := 2) ⟨by omega, by omega⟩ ⟨by decide, by decide⟩ (by omega) ex10
  have k2 := ex10
  refine k_aload_n C rfl rfl rfl ?_
  refine g_R C rfl rfl rfl T_r0 rfl R_r0_1 ?_
  refine k_iload_n C rfl rfl rfl ?_
  refine z_iconst C (z := 3) rfl rfl rfl (fun x11 ex11 => ?_)
  refine z_iadd C rfl rfl ⟨by omega, by omega⟩ (fun x12 ex12 => ?_)
  refine z_aI C rfl rfl T_r0_1 N_r0_1 (by omega) (by omega) (fun x13 ex13 => ?_)
  have gx13 := rg x13
  have dx13 := IM.actn hI R_r0_1 (b := n1.toInt) (i := 3) ⟨by omega, by omega⟩ ⟨by decide, by decide⟩ (by omega) ex13
  have k3 := ex13
  refine k_aload_n C rfl rfl rfl ?_
  refine g_R C rfl rfl rfl T_r0 rfl R_r0_1 ?_
  refine k_iload_n C rfl rfl rfl ?_
  refine z_iconst C (z := 4) rfl rfl rfl (fun x14 ex14 => ?_)
  refine z_iadd C rfl rfl ⟨by omega, by omega⟩ (fun x15 ex15 => ?_)
  refine z_aI C rfl rfl T_r0_1 N_r0_1 (by omega) (by omega) (fun x16 ex16 => ?_)
  have gx16 := rg x16
  have dx16 := IM.actn hI R_r0_1 (b := n1.toInt) (i := 4) ⟨by omega, by omega⟩ ⟨by decide, by decide⟩ (by omega) ex16
  have k4 := ex16
  refine c_VV C (a_X12_takesTable_e hI H_r0 (by omega) (by omega) (by omega) (by omega) (by omega) (by omega) (by omega) (by omega)) rfl rfl rfl rfl rfl ⟨_, rfl, rfl, T_r0, Nat.le_of_ble_eq_true rfl⟩ rfl rfl (Nat.le_of_ble_eq_true rfl) (Nat.le_of_ble_eq_true rfl) (Nat.le_of_ble_eq_true rfl) ?_
  rintro I18 L19 ⟨p0v17, p1v17, p2v17, p3v17, hI18, S20⟩
  have e21 := CM.j S20 R_r0_1 (by decide) k0_r0_1_4
  have e22 := CM.j S20 R_r0_1 (by decide) k0_r0_1_5
  have e23 := CM.j S20 R_r0_1 (by decide) k0_r0_1_0
  have e24 := CM.j S20 R_r0_1 (by decide) ex7
  have e25 := CM.j S20 R_r0_1 (by decide) ex10
  have e26 := CM.j S20 R_r0_1 (by decide) ex13
  have e27 := CM.j S20 R_r0_1 (by decide) ex16
  obtain ⟨x28, e29⟩ : ∃ x, I18 r0 6 = x := ⟨_, rfl⟩
  have gx28 := rg x28
  have ox28 := IM.f6 hI18 e29
  obtain ⟨x30, e31⟩ : ∃ x, I18 r0 7 = x := ⟨_, rfl⟩
  have gx30 := rg x30
  have ox30 := IM.f7 hI18 e31
  obtain ⟨x32, e33⟩ : ∃ x, I18 r0 8 = x := ⟨_, rfl⟩
  have gx32 := rg x32
  have ox32 := IM.f8 hI18 e33
  obtain ⟨x34, e35⟩ : ∃ x, I18 r0 9 = x := ⟨_, rfl⟩
  have gx34 := rg x34
  have ox34 := IM.f9 hI18 e35
  try simp only [k0_r0_1_4, k0_r0_1_5, k0_r0_1_0, ex7, ex10, ex13, ex16, e29, e31, e33, e35] at p0v17
  try have q0v17 := congrArg Int32.toInt p0v17
  try simp only [k0_r0_1_4, k0_r0_1_5, k0_r0_1_0, ex7, ex10, ex13, ex16, e29, e31, e33, e35] at p1v17
  try have q1v17 := congrArg Int32.toInt p1v17
  try simp only [k0_r0_1_4, k0_r0_1_5, k0_r0_1_0, ex7, ex10, ex13, ex16, e29, e31, e33, e35] at p2v17
  try have q2v17 := congrArg Int32.toInt p2v17
  try simp only [k0_r0_1_4, k0_r0_1_5, k0_r0_1_0, ex7, ex10, ex13, ex16, e29, e31, e33, e35] at p3v17
  try have q3v17 := congrArg Int32.toInt p3v17
  have ht6 := p0v17
  have ht7 := p1v17
  have ht8 := p2v17
  have ht9 := p3v17
  refine k_iload_n C rfl rfl rfl ?_
  refine b_if_eq C (t := 52) rfl rfl rfl (fun c36 => ?_) (fun c36 => ?_)
  · skip
    refine k_aload_n C rfl rfl rfl ?_
    refine k_aload_n C rfl rfl rfl ?_
    refine g_R C rfl rfl rfl T_r0 rfl R_r0_1 ?_
    refine k_iload_n C rfl rfl rfl ?_
    have hw58 := CM.j0 (W := [6, 7, 8, 9]) (WA := []) (CM.mono S20 (by decide) (by decide)) R_r0_1 (by decide)
    refine z_aI C rfl rfl T_r0_1 N_r0_1 (by omega) (by omega) (fun x37 ex37 => ?_)
    have gx37 := rg x37
    have dx37 := IM.act hI18 R_r0_1 (b := n1.toInt) ⟨by omega, by omega⟩ (by omega) ex37
    have kf := ex37
    rw [hw58] at kf
    obtain ⟨x38, e39⟩ : ∃ x, I18 r0_1 (6 + 10 * x37.toNatClampNeg) = x := ⟨_, rfl⟩
    have gx38 := rg x38
    refine c_VI C (a_X12_mixesForm_x hI18 H_r0 (by omega) (by omega)) rfl rfl rfl rfl rfl ⟨_, rfl, rfl, T_r0, Nat.le_of_ble_eq_true rfl⟩ rfl rfl (Nat.le_of_ble_eq_true rfl) (Nat.le_of_ble_eq_true rfl) (Nat.le_of_ble_eq_true rfl) ?_
    rintro x40 I41 L42 ⟨o0x40, o1x40, p0x40, p1x40, p2x40, p3x40, hI41, S43⟩
    have p0x40 := p0x40 r0_1 R_r0_1
    have p1x40 := p1x40 r0_1 R_r0_1
    have p2x40 := p2x40 r0_1 R_r0_1
    have p3x40 := p3x40 r0_1 R_r0_1
    have F44 : ∀ r : Nat, r < 4 → I41 r0_1 r = I18 r0_1 r := fun r z0 => p3x40 r z0
    have e47 := (p3x40 0 (by decide)).trans e23
    have e52 := CM.k S43 (by decide) e29
    have e53 := CM.k S43 (by decide) e31
    have e54 := CM.k S43 (by decide) e33
    have e55 := CM.k S43 (by decide) e35
    have gx40 := rg x40
    obtain ⟨x58, e59⟩ : ∃ x, I41 r0_1 4 = x := ⟨_, rfl⟩
    have gx58 := rg x58
    have ox58 := IM.c4 hI41 R_r0_1 e59
    obtain ⟨x60, e61⟩ : ∃ x, I41 r0_1 5 = x := ⟨_, rfl⟩
    have gx60 := rg x60
    have ox60 := IM.c5 hI41 R_r0_1 e61
    try simp only [e21, e22, e23, e24, e25, e26, e27, e29, e31, e33, e35, ex37, e39, e59, e61] at p0x40
    try have q0x40 := congrArg Int32.toInt p0x40
    try simp only [e21, e22, e23, e24, e25, e26, e27, e29, e31, e33, e35, ex37, e39, e59, e61] at p1x40
    try have q1x40 := congrArg Int32.toInt p1x40
    try simp only [e21, e22, e23, e24, e25, e26, e27, e29, e31, e33, e35, ex37, e39, e59, e61] at p2x40
    try have q2x40 := congrArg Int32.toInt p2x40
    have hMF := p1x40
    refine k_pop C rfl rfl rfl ?_
    refine k_aload_n C rfl rfl rfl ?_
    refine g_R C rfl rfl rfl T_r0 rfl R_r0_1 ?_
    refine k_iload_n C rfl rfl rfl ?_
    refine z_aI C rfl rfl T_r0_1 N_r0_1 (by omega) (by omega) (fun x62 ex62 => ?_)
    have gx62 := rg x62
    have kx := ex62
    exact k_iret C rfl (Or.inl rfl) (Nat.le_of_ble_eq_true rfl) (Nat.le_of_ble_eq_true rfl) ⟨_, _, _, rfl, rfl, fun a1 h1 => by cases (R_r0_1.symm.trans h1); first | omega | (simp only [e47, e52, e53, e54, e55, e59, e61, ex62, k0_r0_1_4, k0_r0_1_5, k0_r0_1_0, and_true, true_and, or_true, true_or, and_false, false_and, or_false, false_or] <;> omega), fun a1 h1 => by cases (R_r0_1.symm.trans h1); first | exact AGX.z (by omega) hw58 hMF ⟨by omega, by omega⟩ (by omega) kf (by omega) kx (by omega) (by omega) (by omega) (by omega) k1 k2 k3 k4 (by omega) (by omega) (by omega) (by omega) (by rw [k0_r0_1_0]) (fun f9 hf9 => ((IM.w hI R_r0_1).2.2.1 f9 hf9).2.1) | exact AGX.b (by omega) hw58 hMF ⟨by omega, by omega⟩ (by omega) kf (by omega) kx (by omega) (by omega) (by omega) (by omega) k1 k2 k3 k4 hTK rfl rfl rfl rfl (by omega) (by omega) (by omega) (by omega) (by rw [k0_r0_1_0]) (by rw [k0_r0_1_0]) (fun f9 hf9 => ((IM.w hI R_r0_1).2.2.1 f9 hf9).2.1), fun a1 h1 => by cases (R_r0_1.symm.trans h1); exact (fun r z0 => ((F44 r z0).trans (congrFun (CM.j0 S20 R_r0_1 (by decide)) r))), hI41, (CM.cons S20 (CM.mono S43 (by decide) (by decide)) (by decide) (by decide))⟩
  refine k_aload_n C rfl rfl rfl ?_
  refine c_VV C (a_X12_turnsBack_x hI18 H_r0) rfl rfl rfl rfl rfl ⟨_, rfl, rfl, T_r0, Nat.le_of_ble_eq_true rfl⟩ rfl rfl (Nat.le_of_ble_eq_true rfl) (Nat.le_of_ble_eq_true rfl) (Nat.le_of_ble_eq_true rfl) ?_
  rintro I64 L65 ⟨p0v63, hI64, S66⟩
  have p0v63 := p0v63 r0_1 R_r0_1
  have e67 := CM.j S66 R_r0_1 (by decide) e21
  have e68 := CM.j S66 R_r0_1 (by decide) e22
  have e69 := CM.j S66 R_r0_1 (by decide) e23
  have e70 := CM.j S66 R_r0_1 (by decide) e24
  have e71 := CM.j S66 R_r0_1 (by decide) e25
  have e72 := CM.j S66 R_r0_1 (by decide) e26
  have e73 := CM.j S66 R_r0_1 (by decide) e27
  obtain ⟨x78, e79⟩ : ∃ x, I64 r0 6 = x := ⟨_, rfl⟩
  have gx78 := rg x78
  have ox78 := IM.f6 hI64 e79
  obtain ⟨x80, e81⟩ : ∃ x, I64 r0 7 = x := ⟨_, rfl⟩
  have gx80 := rg x80
  have ox80 := IM.f7 hI64 e81
  obtain ⟨x82, e83⟩ : ∃ x, I64 r0 8 = x := ⟨_, rfl⟩
  have gx82 := rg x82
  have ox82 := IM.f8 hI64 e83
  obtain ⟨x84, e85⟩ : ∃ x, I64 r0 9 = x := ⟨_, rfl⟩
  have gx84 := rg x84
  have ox84 := IM.f9 hI64 e85
  try simp only [e21, e22, e23, e24, e25, e26, e27, e29, e31, e33, e35, e79, e81, e83, e85] at p0v63
  try have q0v63 := congrArg Int32.toInt p0v63
  have hTK := p0v63
  refine k_aload_n C rfl rfl rfl ?_
  refine k_aload_n C rfl rfl rfl ?_
  refine g_R C rfl rfl rfl T_r0 rfl R_r0_1 ?_
  refine k_iload_n C rfl rfl rfl ?_
  have hw58 := CM.j0 (W := [6, 7, 8, 9]) (WA := []) (CM.cons S20 (CM.mono S66 (by decide) (by decide)) (by decide) (by decide)) R_r0_1 (by decide)
  refine z_aI C rfl rfl T_r0_1 N_r0_1 (by omega) (by omega) (fun x86 ex86 => ?_)
  have gx86 := rg x86
  have dx86 := IM.act hI64 R_r0_1 (b := n1.toInt) ⟨by omega, by omega⟩ (by omega) ex86
  have kf := ex86
  rw [hw58] at kf
  obtain ⟨x87, e88⟩ : ∃ x, I64 r0_1 (6 + 10 * x86.toNatClampNeg) = x := ⟨_, rfl⟩
  have gx87 := rg x87
  refine c_VI C (a_X12_mixesForm_x hI64 H_r0 (by omega) (by omega)) rfl rfl rfl rfl rfl ⟨_, rfl, rfl, T_r0, Nat.le_of_ble_eq_true rfl⟩ rfl rfl (Nat.le_of_ble_eq_true rfl) (Nat.le_of_ble_eq_true rfl) (Nat.le_of_ble_eq_true rfl) ?_
  rintro x89 I90 L91 ⟨o0x89, o1x89, p0x89, p1x89, p2x89, p3x89, hI90, S92⟩
  have p0x89 := p0x89 r0_1 R_r0_1
  have p1x89 := p1x89 r0_1 R_r0_1
  have p2x89 := p2x89 r0_1 R_r0_1
  have p3x89 := p3x89 r0_1 R_r0_1
  have F93 : ∀ r : Nat, r < 4 → I90 r0_1 r = I64 r0_1 r := fun r z0 => p3x89 r z0
  have e96 := (p3x89 0 (by decide)).trans e69
  have e101 := CM.k S92 (by decide) e79
  have e102 := CM.k S92 (by decide) e81
  have e103 := CM.k S92 (by decide) e83
  have e104 := CM.k S92 (by decide) e85
  have gx89 := rg x89
  obtain ⟨x107, e108⟩ : ∃ x, I90 r0_1 4 = x := ⟨_, rfl⟩
  have gx107 := rg x107
  have ox107 := IM.c4 hI90 R_r0_1 e108
  obtain ⟨x109, e110⟩ : ∃ x, I90 r0_1 5 = x := ⟨_, rfl⟩
  have gx109 := rg x109
  have ox109 := IM.c5 hI90 R_r0_1 e110
  try simp only [e67, e68, e69, e70, e71, e72, e73, e79, e81, e83, e85, ex86, e88, e108, e110] at p0x89
  try have q0x89 := congrArg Int32.toInt p0x89
  try simp only [e67, e68, e69, e70, e71, e72, e73, e79, e81, e83, e85, ex86, e88, e108, e110] at p1x89
  try have q1x89 := congrArg Int32.toInt p1x89
  try simp only [e67, e68, e69, e70, e71, e72, e73, e79, e81, e83, e85, ex86, e88, e108, e110] at p2x89
  try have q2x89 := congrArg Int32.toInt p2x89
  have hMF := p1x89
  refine k_pop C rfl rfl rfl ?_
  refine k_aload_n C rfl rfl rfl ?_
  refine g_R C rfl rfl rfl T_r0 rfl R_r0_1 ?_
  refine k_iload_n C rfl rfl rfl ?_
  refine z_aI C rfl rfl T_r0_1 N_r0_1 (by omega) (by omega) (fun x111 ex111 => ?_)
  have gx111 := rg x111
  have kx := ex111
  exact k_iret C rfl (Or.inl rfl) (Nat.le_of_ble_eq_true rfl) (Nat.le_of_ble_eq_true rfl) ⟨_, _, _, rfl, rfl, fun a1 h1 => by cases (R_r0_1.symm.trans h1); first | omega | (simp only [e96, e101, e102, e103, e104, e108, e110, ex111, k0_r0_1_4, k0_r0_1_5, k0_r0_1_0, and_true, true_and, or_true, true_or, and_false, false_and, or_false, false_or] <;> omega), fun a1 h1 => by cases (R_r0_1.symm.trans h1); first | exact AGX.z (by omega) hw58 hMF ⟨by omega, by omega⟩ (by omega) kf (by omega) kx (by omega) (by omega) (by omega) (by omega) k1 k2 k3 k4 (by omega) (by omega) (by omega) (by omega) (by rw [k0_r0_1_0]) (fun f9 hf9 => ((IM.w hI R_r0_1).2.2.1 f9 hf9).2.1) | exact AGX.b (by omega) hw58 hMF ⟨by omega, by omega⟩ (by omega) kf (by omega) kx (by omega) (by omega) (by omega) (by omega) k1 k2 k3 k4 hTK rfl rfl rfl rfl (by omega) (by omega) (by omega) (by omega) (by rw [k0_r0_1_0]) (by rw [k0_r0_1_0]) (fun f9 hf9 => ((IM.w hI R_r0_1).2.2.1 f9 hf9).2.1), fun a1 h1 => by cases (R_r0_1.symm.trans h1); exact (fun r z0 => ((F93 r z0).trans ((congrFun (CM.j0 S66 R_r0_1 (by decide)) r).trans (congrFun (CM.j0 S20 R_r0_1 (by decide)) r)))), hI90, (CM.cons S20 (CM.cons S66 (CM.mono S92 (by decide) (by decide)) (by decide) (by decide)) (by decide) (by decide))⟩

theorem a_X12_undo_x {d : Nat} {T N : Nat → Nat} {I : IT} {L : LT} {R : RT} {A : Nat → Prop} {r0 : Nat} (hI : IM R r0 I) (H_r0 : (h_MD T N R A) r0) (hp0 : ∀ a1, R r0 1 = some a1 → (I a1 4).toInt + (I a1 5).toInt ≤ 40) : Ex (d + 7) 246 [.ref r0] (T, N, I, L, R) 0 0 (pI T N R (fun x9 I9 L9 => (∀ a1, R r0 1 = some a1 → (I9 a1 4).toInt + (I9 a1 5).toInt ≤ 40) ∧ (∀ a1, R r0 1 = some a1 → UNX (I9 a1) (I a1) x9.toInt) ∧ (∀ a1, R r0 1 = some a1 → ∀ r : Nat, r < 4 → I9 a1 r = I a1 r) ∧ (IM R r0 I9 ∧ CM A R r0 [0, 6, 7, 8, 9] [1, 4, 5] I L I9 L9))) := by
  refine ⟨_, rfl, Nat.le_of_ble_eq_true rfl, fun V C S => ?_⟩
  show V 0 [(0, .ref r0)] [] (T, N, I, L, R) 0 0
  obtain ⟨T_r0, A_r0, ⟨r0_1, R_r0_1, H_r0_1⟩, ⟨r0_2, R_r0_2, H_r0_2⟩, ⟨r0_4, R_r0_4, H_r0_4⟩, ⟨r0_5, R_r0_5, H_r0_5⟩, ⟨r0_10, R_r0_10, H_r0_10⟩, ⟨r0_18, R_r0_18, H_r0_18⟩, ⟨r0_20, R_r0_20, H_r0_20⟩, ⟨r0_21, R_r0_21, H_r0_21⟩, ⟨r0_22, R_r0_22, H_r0_22⟩, ⟨r0_23, R_r0_23, H_r0_23⟩, ⟨r0_25, R_r0_25, H_r0_25⟩, ⟨r0_26, R_r0_26, H_r0_26⟩, ⟨r0_27, R_r0_27, H_r0_27⟩, ⟨r0_28, R_r0_28, H_r0_28⟩, ⟨r0_34, R_r0_34, H_r0_34⟩, J_r0, Y_r0⟩ := id H_r0
  have G_r0 : mF T R r0 := ⟨J_r0, Y_r0, T_r0⟩
  obtain ⟨w_r0_1_4, k0_r0_1_4⟩ : ∃ x, I r0_1 4 = x := ⟨_, rfl⟩
  have gw_r0_1_4 := rg w_r0_1_4
  have ow_r0_1_4 := IM.c4 hI R_r0_1 k0_r0_1_4
  obtain ⟨w_r0_1_5, k0_r0_1_5⟩ : ∃ x, I r0_1 5 = x := ⟨_, rfl⟩
  have gw_r0_1_5 := rg w_r0_1_5
  have ow_r0_1_5 := IM.c5 hI R_r0_1 k0_r0_1_5
  have hp0 := hp0 r0_1 R_r0_1
  try simp only [k0_r0_1_4, k0_r0_1_5] at hp0
  refine k_aload_n C rfl rfl rfl ?_
  refine z_iconst C (z := 0) rfl rfl rfl (fun x1 ex1 => ?_)
  refine z_pI C rfl rfl rfl T_r0 (Or.inr rfl) rfl (fun I2 uI2 => ?_)
  have hI2 : IM R r0 I2 := IM.fld hI G_r0 ⟨(fun h => absurd h (by decide)), (fun h => absurd h (by decide)), (fun h => absurd h (by decide)), (fun h => absurd h (by decide)), (fun h => absurd h (by decide))⟩ uI2
  have S3 : CM A R r0 [0] [] I L I2 L := CM.f G_r0 A_r0 uI2
  have e4 := u2_n uI2 (mF.ne G_r0 R_r0_1) k0_r0_1_4
  have e5 := u2_n uI2 (mF.ne G_r0 R_r0_1) k0_r0_1_5
  have e6 := u2_e uI2
  refine k_aload_n C rfl rfl rfl ?_
  refine g_R C rfl rfl rfl T_r0 rfl R_r0_1 ?_
  refine z_iconst C (z := 4) rfl rfl rfl (fun x7 ex7 => ?_)
  obtain ⟨T_r0_1, N_r0_1, A_r0_1⟩ := id H_r0_1
  refine a_I C rfl rfl T_r0_1 (by rw [N_r0_1]; exact vpi (by omega) (by omega)) ((congrArg (I2 r0_1) (nck (n := 4) (by omega))).trans e4) ?_
  refine b_if_ne C (t := 16) rfl rfl rfl (fun c8 => ?_) (fun c8 => ?_)
  · skip
    refine k_aload_n C rfl rfl rfl ?_
    refine g_R C rfl rfl rfl T_r0 rfl R_r0_1 ?_
    refine z_iconst C (z := 4) rfl rfl rfl (fun x9 ex9 => ?_)
    refine k_dup2 C rfl rfl rfl rfl ?_
    refine a_I C rfl rfl T_r0_1 (by rw [N_r0_1]; exact vpi (by omega) (by omega)) ((congrArg (I2 r0_1) (nck (n := 4) (by omega))).trans e4) ?_
    refine z_iconst C (z := 1) rfl rfl rfl (fun x10 ex10 => ?_)
    refine z_isub C rfl rfl ⟨by omega, by omega⟩ (fun x11 ex11 => ?_)
    have hw25 := CM.j0 (W := [0]) (WA := []) (CM.mono S3 (by decide) (by decide)) R_r0_1 (by decide)
    refine z_sI C rfl rfl T_r0_1 N_r0_1 (by omega) (by omega) (fun I12 uI12 => ?_)
    have uI12 : I12 = u2 I2 r0_1 4 (x11) := by rw [uI12, nck (n := 4) (by omega)]
    have hI12 : IM R r0 I12 := IM.arr hI2 G_r0 R_r0_1 ⟨(fun h => absurd h (by decide)), (fun h => absurd h (by decide)), (fun h => absurd h (by decide))⟩ (fun _ => WOK.c4 (IM.w hI2 R_r0_1) (by omega) (by omega)) uI12
    have S13 : CM A R r0 [] [1] I2 L I12 L := CM.a G_r0 R_r0_1 A_r0_1 uI12
    have F14 : ∀ r : Nat, r < 4 → I12 r0_1 r = I2 r0_1 r := fun r z0 => by rw [uI12]; exact u2_k (by have h2 := ncz (x := x9) (by omega); omega)
    have e16 := u2_j uI12 (by first | decide | exact ncne (by omega) (by omega) (by omega) | exact nckn (by omega) (by omega) | exact (nckn (by omega) (by omega)).symm) e5
    have e17 := u2_n uI12 (fun e => (mF.ne G_r0 R_r0_1) e.symm) e6
    have e18 := u2_e uI12
    have hu25 := uI12
    refine k_aload_n C rfl rfl rfl ?_
    refine g_R C rfl rfl rfl T_r0 rfl R_r0_1 ?_
    refine z_iconst C (z := 5) rfl rfl rfl (fun x19 ex19 => ?_)
    refine k_dup2 C rfl rfl rfl rfl ?_
    refine a_I C rfl rfl T_r0_1 (by rw [N_r0_1]; exact vpi (by omega) (by omega)) ((congrArg (I12 r0_1) (nck (n := 5) (by omega))).trans e16) ?_
    refine z_iconst C (z := 1) rfl rfl rfl (fun x20 ex20 => ?_)
    refine z_iadd C rfl rfl ⟨by omega, by omega⟩ (fun x21 ex21 => ?_)
    refine z_sI C rfl rfl T_r0_1 N_r0_1 (by omega) (by omega) (fun I22 uI22 => ?_)
    have uI22 : I22 = u2 I12 r0_1 5 (x21) := by rw [uI22, nck (n := 5) (by omega)]
    have hI22 : IM R r0 I22 := IM.arr hI12 G_r0 R_r0_1 ⟨(fun h => absurd h (by decide)), (fun h => absurd h (by decide)), (fun h => absurd h (by decide))⟩ (fun _ => WOK.c5 (IM.w hI12 R_r0_1) (by omega) (by omega)) uI22
    have S23 : CM A R r0 [] [1] I12 L I22 L := CM.a G_r0 R_r0_1 A_r0_1 uI22
    have F24 : ∀ r : Nat, r < 4 → I22 r0_1 r = I12 r0_1 r := fun r z0 => by rw [uI22]; exact u2_k (by have h2 := ncz (x := x19) (by omega); omega)
    have e26 := u2_n uI22 (fun e => (mF.ne G_r0 R_r0_1) e.symm) e17
    have e27 := u2_j uI22 (by first | decide | exact ncne (by omega) (by omega) (by omega) | exact nckn (by omega) (by omega) | exact (nckn (by omega) (by omega)).symm) e18
    have e28 := u2_e uI22
    have hu35 := uI22
    refine k_aload_n C rfl rfl rfl ?_
    refine k_aload_n C rfl rfl rfl ?_
    refine g_R C rfl rfl rfl T_r0 rfl R_r0_1 ?_
    refine z_iconst C (z := 4) rfl rfl rfl (fun x29 ex29 => ?_)
    refine a_I C rfl rfl T_r0_1 (by rw [N_r0_1]; exact vpi (by omega) (by omega)) ((congrArg (I22 r0_1) (nck (n := 4) (by omega))).trans e27) ?_
    refine z_iconst C (z := 1) rfl rfl rfl (fun x30 ex30 => ?_)
    have q31 : x30.toNatClampNeg = 1 := nck (by omega)
    refine c_VI C (a_X12_again_x hI22 H_r0 (by omega) (by omega) (by omega) (by omega)) rfl rfl rfl rfl rfl ⟨_, rfl, rfl, T_r0, Nat.le_of_ble_eq_true rfl⟩ rfl rfl (Nat.le_of_ble_eq_true rfl) (Nat.le_of_ble_eq_true rfl) (Nat.le_of_ble_eq_true rfl) ?_
    rintro x32 I33 L34 ⟨p0x32, p1x32, p2x32, hI33, S35⟩
    have p0x32 := p0x32 r0_1 R_r0_1
    have p1x32 := p1x32 r0_1 R_r0_1
    have p2x32 := p2x32 r0_1 R_r0_1
    have F36 : ∀ r : Nat, r < 4 → I33 r0_1 r = I22 r0_1 r := fun r z0 => p2x32 r z0
    have e37 := CM.k S35 (by decide) e26
    have gx32 := rg x32
    obtain ⟨x40, e41⟩ : ∃ x, I33 r0_1 4 = x := ⟨_, rfl⟩
    have gx40 := rg x40
    have ox40 := IM.c4 hI33 R_r0_1 e41
    obtain ⟨x42, e43⟩ : ∃ x, I33 r0_1 5 = x := ⟨_, rfl⟩
    have gx42 := rg x42
    have ox42 := IM.c5 hI33 R_r0_1 e43
    try simp only [q31, e26, e27, e28, e41, e43] at p0x32
    try have q0x32 := congrArg Int32.toInt p0x32
    try simp only [q31, e26, e27, e28, e41, e43] at p1x32
    try have q1x32 := congrArg Int32.toInt p1x32
    have hAG := p1x32
    exact k_iret C rfl (Or.inl rfl) (Nat.le_of_ble_eq_true rfl) (Nat.le_of_ble_eq_true rfl) ⟨_, _, _, rfl, rfl, fun a1 h1 => by cases (R_r0_1.symm.trans h1); first | omega | (simp only [e37, e41, e43, k0_r0_1_4, k0_r0_1_5, and_true, true_and, or_true, true_or, and_false, false_and, or_false, false_or] <;> omega), fun a1 h1 => by cases (R_r0_1.symm.trans h1); exact UNX.y hw25 k0_r0_1_4 k0_r0_1_5 (by omega) (by omega) hu25 hu35 (by omega) (by omega) hAG (by omega) (by omega), fun a1 h1 => by cases (R_r0_1.symm.trans h1); exact (fun r z0 => ((F36 r z0).trans ((F24 r z0).trans ((F14 r z0).trans (congrFun (CM.j0 S3 R_r0_1 (by decide)) r))))), hI33, (CM.cons S3 (CM.cons S13 (CM.cons S23 (CM.mono S35 (by decide) (by decide)) (by decide) (by decide)) (by decide) (by decide)) (by decide) (by decide))⟩
  refine z_iconst C (z := -1) rfl rfl rfl (fun x44 ex44 => ?_)
  exact k_iret C rfl (Or.inl rfl) (Nat.le_of_ble_eq_true rfl) (Nat.le_of_ble_eq_true rfl) ⟨_, _, _, rfl, rfl, fun a1 h1 => by cases (R_r0_1.symm.trans h1); first | omega | (simp only [e4, e5, e6, k0_r0_1_4, k0_r0_1_5, and_true, true_and, or_true, true_or, and_false, false_and, or_false, false_or] <;> omega), fun a1 h1 => by cases (R_r0_1.symm.trans h1); exact UNX.z k0_r0_1_4 (by omega) (by omega) (CM.j0 (W := [0]) (WA := []) (CM.mono S3 (by decide) (by decide)) R_r0_1 (by decide)), fun a1 h1 => by cases (R_r0_1.symm.trans h1); exact (fun r z0 => (congrFun (CM.j0 S3 R_r0_1 (by decide)) r)), hI2, (CM.mono S3 (by decide) (by decide))⟩

theorem a_X12_redo_x {d : Nat} {T N : Nat → Nat} {I : IT} {L : LT} {R : RT} {A : Nat → Prop} {r0 : Nat} (hI : IM R r0 I) (H_r0 : (h_MD T N R A) r0) (hp0 : ∀ a1, R r0 1 = some a1 → (I a1 4).toInt + (I a1 5).toInt ≤ 40) : Ex (d + 7) 247 [.ref r0] (T, N, I, L, R) 0 0 (pI T N R (fun x9 I9 L9 => (∀ a1, R r0 1 = some a1 → (I9 a1 4).toInt + (I9 a1 5).toInt ≤ 40) ∧ (∀ a1, R r0 1 = some a1 → RDX (I9 a1) (I a1) x9.toInt) ∧ (∀ a1, R r0 1 = some a1 → ∀ r : Nat, r < 4 → I9 a1 r = I a1 r) ∧ (IM R r0 I9 ∧ CM A R r0 [0, 6, 7, 8, 9] [1, 4, 5] I L I9 L9))) := by
  refine ⟨_, rfl, Nat.le_of_ble_eq_true rfl, fun V C S => ?_⟩
  show V 0 [(0, .ref r0)] [] (T, N, I, L, R) 0 0
  obtain ⟨T_r0, A_r0, ⟨r0_1, R_r0_1, H_r0_1⟩, ⟨r0_2, R_r0_2, H_r0_2⟩, ⟨r0_4, R_r0_4, H_r0_4⟩, ⟨r0_5, R_r0_5, H_r0_5⟩, ⟨r0_10, R_r0_10, H_r0_10⟩, ⟨r0_18, R_r0_18, H_r0_18⟩, ⟨r0_20, R_r0_20, H_r0_20⟩, ⟨r0_21, R_r0_21, H_r0_21⟩, ⟨r0_22, R_r0_22, H_r0_22⟩, ⟨r0_23, R_r0_23, H_r0_23⟩, ⟨r0_25, R_r0_25, H_r0_25⟩, ⟨r0_26, R_r0_26, H_r0_26⟩, ⟨r0_27, R_r0_27, H_r0_27⟩, ⟨r0_28, R_r0_28, H_r0_28⟩, ⟨r0_34, R_r0_34, H_r0_34⟩, J_r0, Y_r0⟩ := id H_r0
  have G_r0 : mF T R r0 := ⟨J_r0, Y_r0, T_r0⟩
  obtain ⟨w_r0_1_4, k0_r0_1_4⟩ : ∃ x, I r0_1 4 = x := ⟨_, rfl⟩
  have gw_r0_1_4 := rg w_r0_1_4
  have ow_r0_1_4 := IM.c4 hI R_r0_1 k0_r0_1_4
  obtain ⟨w_r0_1_5, k0_r0_1_5⟩ : ∃ x, I r0_1 5 = x := ⟨_, rfl⟩
  have gw_r0_1_5 := rg w_r0_1_5
  have ow_r0_1_5 := IM.c5 hI R_r0_1 k0_r0_1_5
  have hp0 := hp0 r0_1 R_r0_1
  try simp only [k0_r0_1_4, k0_r0_1_5] at hp0
  refine k_aload_n C rfl rfl rfl ?_
  refine z_iconst C (z := 0) rfl rfl rfl (fun x1 ex1 => ?_)
  refine z_pI C rfl rfl rfl T_r0 (Or.inr rfl) rfl (fun I2 uI2 => ?_)
  have hI2 : IM R r0 I2 := IM.fld hI G_r0 ⟨(fun h => absurd h (by decide)), (fun h => absurd h (by decide)), (fun h => absurd h (by decide)), (fun h => absurd h (by decide)), (fun h => absurd h (by decide))⟩ uI2
  have S3 : CM A R r0 [0] [] I L I2 L := CM.f G_r0 A_r0 uI2
  have e4 := u2_n uI2 (mF.ne G_r0 R_r0_1) k0_r0_1_4
  have e5 := u2_n uI2 (mF.ne G_r0 R_r0_1) k0_r0_1_5
  have e6 := u2_e uI2
  refine k_aload_n C rfl rfl rfl ?_
  refine g_R C rfl rfl rfl T_r0 rfl R_r0_1 ?_
  refine z_iconst C (z := 5) rfl rfl rfl (fun x7 ex7 => ?_)
  obtain ⟨T_r0_1, N_r0_1, A_r0_1⟩ := id H_r0_1
  refine a_I C rfl rfl T_r0_1 (by rw [N_r0_1]; exact vpi (by omega) (by omega)) ((congrArg (I2 r0_1) (nck (n := 5) (by omega))).trans e5) ?_
  refine b_if_ne C (t := 16) rfl rfl rfl (fun c8 => ?_) (fun c8 => ?_)
  · skip
    refine k_aload_n C rfl rfl rfl ?_
    refine g_R C rfl rfl rfl T_r0 rfl R_r0_1 ?_
    refine z_iconst C (z := 4) rfl rfl rfl (fun x9 ex9 => ?_)
    refine k_dup2 C rfl rfl rfl rfl ?_
    refine a_I C rfl rfl T_r0_1 (by rw [N_r0_1]; exact vpi (by omega) (by omega)) ((congrArg (I2 r0_1) (nck (n := 4) (by omega))).trans e4) ?_
    refine z_iconst C (z := 1) rfl rfl rfl (fun x10 ex10 => ?_)
    refine z_iadd C rfl rfl ⟨by omega, by omega⟩ (fun x11 ex11 => ?_)
    have hw25 := CM.j0 (W := [0]) (WA := []) (CM.mono S3 (by decide) (by decide)) R_r0_1 (by decide)
    refine z_sI C rfl rfl T_r0_1 N_r0_1 (by omega) (by omega) (fun I12 uI12 => ?_)
    have uI12 : I12 = u2 I2 r0_1 4 (x11) := by rw [uI12, nck (n := 4) (by omega)]
    have hI12 : IM R r0 I12 := IM.arr hI2 G_r0 R_r0_1 ⟨(fun h => absurd h (by decide)), (fun h => absurd h (by decide)), (fun h => absurd h (by decide))⟩ (fun _ => WOK.c4 (IM.w hI2 R_r0_1) (by omega) (by omega)) uI12
    have S13 : CM A R r0 [] [1] I2 L I12 L := CM.a G_r0 R_r0_1 A_r0_1 uI12
    have F14 : ∀ r : Nat, r < 4 → I12 r0_1 r = I2 r0_1 r := fun r z0 => by rw [uI12]; exact u2_k (by have h2 := ncz (x := x9) (by omega); omega)
    have e16 := u2_j uI12 (by first | decide | exact ncne (by omega) (by omega) (by omega) | exact nckn (by omega) (by omega) | exact (nckn (by omega) (by omega)).symm) e5
    have e17 := u2_n uI12 (fun e => (mF.ne G_r0 R_r0_1) e.symm) e6
    have e18 := u2_e uI12
    have hu25 := uI12
    refine k_aload_n C rfl rfl rfl ?_
    refine g_R C rfl rfl rfl T_r0 rfl R_r0_1 ?_
    refine z_iconst C (z := 5) rfl rfl rfl (fun x19 ex19 => ?_)
    refine k_dup2 C rfl rfl rfl rfl ?_
    refine a_I C rfl rfl T_r0_1 (by rw [N_r0_1]; exact vpi (by omega) (by omega)) ((congrArg (I12 r0_1) (nck (n := 5) (by omega))).trans e16) ?_
    refine z_iconst C (z := 1) rfl rfl rfl (fun x20 ex20 => ?_)
    refine z_isub C rfl rfl ⟨by omega, by omega⟩ (fun x21 ex21 => ?_)
    refine z_sI C rfl rfl T_r0_1 N_r0_1 (by omega) (by omega) (fun I22 uI22 => ?_)
    have uI22 : I22 = u2 I12 r0_1 5 (x21) := by rw [uI22, nck (n := 5) (by omega)]
    have hI22 : IM R r0 I22 := IM.arr hI12 G_r0 R_r0_1 ⟨(fun h => absurd h (by decide)), (fun h => absurd h (by decide)), (fun h => absurd h (by decide))⟩ (fun _ => WOK.c5 (IM.w hI12 R_r0_1) (by omega) (by omega)) uI22
    have S23 : CM A R r0 [] [1] I12 L I22 L := CM.a G_r0 R_r0_1 A_r0_1 uI22
    have F24 : ∀ r : Nat, r < 4 → I22 r0_1 r = I12 r0_1 r := fun r z0 => by rw [uI22]; exact u2_k (by have h2 := ncz (x := x19) (by omega); omega)
    have e26 := u2_n uI22 (fun e => (mF.ne G_r0 R_r0_1) e.symm) e17
    have e27 := u2_j uI22 (by first | decide | exact ncne (by omega) (by omega) (by omega) | exact nckn (by omega) (by omega) | exact (nckn (by omega) (by omega)).symm) e18
    have e28 := u2_e uI22
    have hu35 := uI22
    refine k_aload_n C rfl rfl rfl ?_
    refine k_aload_n C rfl rfl rfl ?_
    refine g_R C rfl rfl rfl T_r0 rfl R_r0_1 ?_
    refine z_iconst C (z := 4) rfl rfl rfl (fun x29 ex29 => ?_)
    refine a_I C rfl rfl T_r0_1 (by rw [N_r0_1]; exact vpi (by omega) (by omega)) ((congrArg (I22 r0_1) (nck (n := 4) (by omega))).trans e27) ?_
    refine z_iconst C (z := 1) rfl rfl rfl (fun x30 ex30 => ?_)
    refine z_isub C rfl rfl ⟨by omega, by omega⟩ (fun x31 ex31 => ?_)
    refine z_iconst C (z := 0) rfl rfl rfl (fun x32 ex32 => ?_)
    have q33 : x32.toNatClampNeg = 0 := nck (by omega)
    refine c_VI C (a_X12_again_x hI22 H_r0 (by omega) (by omega) (by omega) (by omega)) rfl rfl rfl rfl rfl ⟨_, rfl, rfl, T_r0, Nat.le_of_ble_eq_true rfl⟩ rfl rfl (Nat.le_of_ble_eq_true rfl) (Nat.le_of_ble_eq_true rfl) (Nat.le_of_ble_eq_true rfl) ?_
    rintro x34 I35 L36 ⟨p0x34, p1x34, p2x34, hI35, S37⟩
    have p0x34 := p0x34 r0_1 R_r0_1
    have p1x34 := p1x34 r0_1 R_r0_1
    have p2x34 := p2x34 r0_1 R_r0_1
    have F38 : ∀ r : Nat, r < 4 → I35 r0_1 r = I22 r0_1 r := fun r z0 => p2x34 r z0
    have e39 := CM.k S37 (by decide) e26
    have gx34 := rg x34
    obtain ⟨x42, e43⟩ : ∃ x, I35 r0_1 4 = x := ⟨_, rfl⟩
    have gx42 := rg x42
    have ox42 := IM.c4 hI35 R_r0_1 e43
    obtain ⟨x44, e45⟩ : ∃ x, I35 r0_1 5 = x := ⟨_, rfl⟩
    have gx44 := rg x44
    have ox44 := IM.c5 hI35 R_r0_1 e45
    try simp only [q33, e26, e27, e28, e43, e45] at p0x34
    try have q0x34 := congrArg Int32.toInt p0x34
    try simp only [q33, e26, e27, e28, e43, e45] at p1x34
    try have q1x34 := congrArg Int32.toInt p1x34
    have hAG := p1x34
    exact k_iret C rfl (Or.inl rfl) (Nat.le_of_ble_eq_true rfl) (Nat.le_of_ble_eq_true rfl) ⟨_, _, _, rfl, rfl, fun a1 h1 => by cases (R_r0_1.symm.trans h1); first | omega | (simp only [e39, e43, e45, k0_r0_1_4, k0_r0_1_5, and_true, true_and, or_true, true_or, and_false, false_and, or_false, false_or] <;> omega), fun a1 h1 => by cases (R_r0_1.symm.trans h1); exact RDX.y hw25 k0_r0_1_4 k0_r0_1_5 (by omega) (by omega) hu25 hu35 (by omega) (by omega) hAG (by omega) (by omega), fun a1 h1 => by cases (R_r0_1.symm.trans h1); exact (fun r z0 => ((F38 r z0).trans ((F24 r z0).trans ((F14 r z0).trans (congrFun (CM.j0 S3 R_r0_1 (by decide)) r))))), hI35, (CM.cons S3 (CM.cons S13 (CM.cons S23 (CM.mono S37 (by decide) (by decide)) (by decide) (by decide)) (by decide) (by decide)) (by decide) (by decide))⟩
  refine z_iconst C (z := -1) rfl rfl rfl (fun x46 ex46 => ?_)
  exact k_iret C rfl (Or.inl rfl) (Nat.le_of_ble_eq_true rfl) (Nat.le_of_ble_eq_true rfl) ⟨_, _, _, rfl, rfl, fun a1 h1 => by cases (R_r0_1.symm.trans h1); first | omega | (simp only [e4, e5, e6, k0_r0_1_4, k0_r0_1_5, and_true, true_and, or_true, true_or, and_false, false_and, or_false, false_or] <;> omega), fun a1 h1 => by cases (R_r0_1.symm.trans h1); exact RDX.z k0_r0_1_5 (by omega) (by omega) (CM.j0 (W := [0]) (WA := []) (CM.mono S3 (by decide) (by decide)) R_r0_1 (by decide)), fun a1 h1 => by cases (R_r0_1.symm.trans h1); exact (fun r z0 => (congrFun (CM.j0 S3 R_r0_1 (by decide)) r)), hI2, (CM.mono S3 (by decide) (by decide))⟩

theorem a_X12_feed_x {d : Nat} {T N : Nat → Nat} {I : IT} {L : LT} {R : RT} {A : Nat → Prop} {r0 : Nat} {n1 n2 n3 n4 n5 : Int32} (hI : IM R r0 I) (H_r0 : (h_MD T N R A) r0) : Ex (d + 1) 216 [.ref r0, .int n1, .int n2, .int n3, .int n4, .int n5] (T, N, I, L, R) 0 0 (pI T N R (fun x9 I9 L9 => (-1 ≤ x9.toInt) ∧ (x9.toInt ≤ 400) ∧ (380 < (I r0 11).toInt ∧ x9.toInt = -1 ∧ (I9 r0 11).toInt = (I r0 11).toInt ∨ (I r0 11).toInt ≤ 380 ∧ x9.toInt = (I r0 11).toInt + 20 ∧ (I9 r0 11).toInt = (I r0 11).toInt + 20) ∧ (∀ a10, R r0 10 = some a10 → TFX (I9 a10) (I a10) (I r0 11) (F5 n1 n2 n3 n4 n5)) ∧ (∀ a10, R r0 10 = some a10 → TBY (I a10) → TBY (I9 a10)) ∧ (IM R r0 I9 ∧ CM A R r0 [0, 11] [10, 18] I L I9 L9))) := by
  refine ⟨_, rfl, Nat.le_of_ble_eq_true rfl, fun V C S => ?_⟩
  show V 0 [(0, .ref r0), (1, .int n1), (2, .int n2), (3, .int n3), (4, .int n4), (5, .int n5)] [] (T, N, I, L, R) 0 0
  have gn1 := rg n1
  have gn2 := rg n2
  have gn3 := rg n3
  have gn4 := rg n4
  have gn5 := rg n5
  obtain ⟨T_r0, A_r0, ⟨r0_1, R_r0_1, H_r0_1⟩, ⟨r0_2, R_r0_2, H_r0_2⟩, ⟨r0_4, R_r0_4, H_r0_4⟩, ⟨r0_5, R_r0_5, H_r0_5⟩, ⟨r0_10, R_r0_10, H_r0_10⟩, ⟨r0_18, R_r0_18, H_r0_18⟩, ⟨r0_20, R_r0_20, H_r0_20⟩, ⟨r0_21, R_r0_21, H_r0_21⟩, ⟨r0_22, R_r0_22, H_r0_22⟩, ⟨r0_23, R_r0_23, H_r0_23⟩, ⟨r0_25, R_r0_25, H_r0_25⟩, ⟨r0_26, R_r0_26, H_r0_26⟩, ⟨r0_27, R_r0_27, H_r0_27⟩, ⟨r0_28, R_r0_28, H_r0_28⟩, ⟨r0_34, R_r0_34, H_r0_34⟩, J_r0, Y_r0⟩ := id H_r0
  have G_r0 : mF T R r0 := ⟨J_r0, Y_r0, T_r0⟩
  obtain ⟨w_r0_11, k0_r0_11⟩ : ∃ x, I r0 11 = x := ⟨_, rfl⟩
  have gw_r0_11 := rg w_r0_11
  have ow_r0_11 := IM.f11 hI k0_r0_11
  refine k_aload_n C rfl rfl rfl ?_
  refine z_iconst C (z := 0) rfl rfl rfl (fun x1 ex1 => ?_)
  refine z_pI C rfl rfl rfl T_r0 (Or.inr rfl) rfl (fun I2 uI2 => ?_)
  have hI2 : IM R r0 I2 := IM.fld hI G_r0 ⟨(fun h => absurd h (by decide)), (fun h => absurd h (by decide)), (fun h => absurd h (by decide)), (fun h => absurd h (by decide)), (fun h => absurd h (by decide))⟩ uI2
  have S3 : CM A R r0 [0] [] I L I2 L := CM.f G_r0 A_r0 uI2
  have e4 := u2_j uI2 (by first | decide | exact ncne (by omega) (by omega) (by omega) | exact nckn (by omega) (by omega) | exact (nckn (by omega) (by omega)).symm) k0_r0_11
  have e5 := u2_e uI2
  refine k_aload_n C rfl rfl rfl ?_
  refine g_I C rfl rfl rfl T_r0 rfl e4 ?_
  refine z_bipush C (z := 20) rfl rfl rfl (fun x6 ex6 => ?_)
  refine z_iadd C rfl rfl ⟨by omega, by omega⟩ (fun x7 ex7 => ?_)
  refine z_sipush C (z := 400) rfl rfl rfl (fun x8 ex8 => ?_)
  refine b_icmp_le C (t := 20) rfl rfl rfl (fun c9 => ?_) (fun c9 => ?_)
  · skip
    refine k_aload_n C rfl rfl rfl ?_
    refine g_R C rfl rfl rfl T_r0 rfl R_r0_18 ?_
    refine z_iconst C (z := 0) rfl rfl rfl (fun x10 ex10 => ?_)
    refine k_iload_n C rfl rfl rfl ?_
    obtain ⟨T_r0_18, N_r0_18, A_r0_18⟩ := id H_r0_18
    refine z_sI C rfl rfl T_r0_18 N_r0_18 (by omega) (by omega) (fun I11 uI11 => ?_)
    have uI11 : I11 = u2 I2 r0_18 0 (n1) := by rw [uI11, nck (n := 0) (by omega)]
    have hI11 : IM R r0 I11 := IM.arr hI2 G_r0 R_r0_18 ⟨(fun h => absurd h (by decide)), (fun h => absurd h (by decide)), (fun h => absurd h (by decide))⟩ (fun h => absurd h (by decide)) uI11
    have S12 : CM A R r0 [] [18] I2 L I11 L := CM.a G_r0 R_r0_18 A_r0_18 uI11
    have e13 := u2_n uI11 (fun e => (mF.ne G_r0 R_r0_18) e.symm) e4
    have e14 := u2_n uI11 (fun e => (mF.ne G_r0 R_r0_18) e.symm) e5
    have e15 := u2_e uI11
    refine k_aload_n C rfl rfl rfl ?_
    refine g_R C rfl rfl rfl T_r0 rfl R_r0_18 ?_
    refine z_iconst C (z := 1) rfl rfl rfl (fun x16 ex16 => ?_)
    refine k_iload_n C rfl rfl rfl ?_
    refine z_sI C rfl rfl T_r0_18 N_r0_18 (by omega) (by omega) (fun I17 uI17 => ?_)
    have uI17 : I17 = u2 I11 r0_18 1 (n2) := by rw [uI17, nck (n := 1) (by omega)]
    have hI17 : IM R r0 I17 := IM.arr hI11 G_r0 R_r0_18 ⟨(fun h => absurd h (by decide)), (fun h => absurd h (by decide)), (fun h => absurd h (by decide))⟩ (fun h => absurd h (by decide)) uI17
    have S18 : CM A R r0 [] [18] I11 L I17 L := CM.a G_r0 R_r0_18 A_r0_18 uI17
    have e19 := u2_n uI17 (fun e => (mF.ne G_r0 R_r0_18) e.symm) e13
    have e20 := u2_n uI17 (fun e => (mF.ne G_r0 R_r0_18) e.symm) e14
    have e21 := u2_j uI17 (by first | decide | exact ncne (by omega) (by omega) (by omega) | exact nckn (by omega) (by omega) | exact (nckn (by omega) (by omega)).symm) e15
    have e22 := u2_e uI17
    refine k_aload_n C rfl rfl rfl ?_
    refine g_R C rfl rfl rfl T_r0 rfl R_r0_18 ?_
    refine z_iconst C (z := 2) rfl rfl rfl (fun x23 ex23 => ?_)
    refine k_iload_n C rfl rfl rfl ?_
    refine z_sI C rfl rfl T_r0_18 N_r0_18 (by omega) (by omega) (fun I24 uI24 => ?_)
    have uI24 : I24 = u2 I17 r0_18 2 (n3) := by rw [uI24, nck (n := 2) (by omega)]
    have hI24 : IM R r0 I24 := IM.arr hI17 G_r0 R_r0_18 ⟨(fun h => absurd h (by decide)), (fun h => absurd h (by decide)), (fun h => absurd h (by decide))⟩ (fun h => absurd h (by decide)) uI24
    have S25 : CM A R r0 [] [18] I17 L I24 L := CM.a G_r0 R_r0_18 A_r0_18 uI24
    have e26 := u2_n uI24 (fun e => (mF.ne G_r0 R_r0_18) e.symm) e19
    have e27 := u2_n uI24 (fun e => (mF.ne G_r0 R_r0_18) e.symm) e20
    have e28 := u2_j uI24 (by first | decide | exact ncne (by omega) (by omega) (by omega) | exact nckn (by omega) (by omega) | exact (nckn (by omega) (by omega)).symm) e21
    have e29 := u2_j uI24 (by first | decide | exact ncne (by omega) (by omega) (by omega) | exact nckn (by omega) (by omega) | exact (nckn (by omega) (by omega)).symm) e22
    have e30 := u2_e uI24
    refine k_aload_n C rfl rfl rfl ?_
    refine g_R C rfl rfl rfl T_r0 rfl R_r0_18 ?_
    refine z_iconst C (z := 3) rfl rfl rfl (fun x31 ex31 => ?_)
    refine k_iload C rfl rfl rfl ?_
    refine z_sI C rfl rfl T_r0_18 N_r0_18 (by omega) (by omega) (fun I32 uI32 => ?_)
    have uI32 : I32 = u2 I24 r0_18 3 (n4) := by rw [uI32, nck (n := 3) (by omega)]
    have hI32 : IM R r0 I32 := IM.arr hI24 G_r0 R_r0_18 ⟨(fun h => absurd h (by decide)), (fun h => absurd h (by decide)), (fun h => absurd h (by decide))⟩ (fun h => absurd h (by decide)) uI32
    have S33 : CM A R r0 [] [18] I24 L I32 L := CM.a G_r0 R_r0_18 A_r0_18 uI32
    have e34 := u2_n uI32 (fun e => (mF.ne G_r0 R_r0_18) e.symm) e26
    have e35 := u2_n uI32 (fun e => (mF.ne G_r0 R_r0_18) e.symm) e27
    have e36 := u2_j uI32 (by first | decide | exact ncne (by omega) (by omega) (by omega) | exact nckn (by omega) (by omega) | exact (nckn (by omega) (by omega)).symm) e28
    have e37 := u2_j uI32 (by first | decide | exact ncne (by omega) (by omega) (by omega) | exact nckn (by omega) (by omega) | exact (nckn (by omega) (by omega)).symm) e29
    have e38 := u2_j uI32 (by first | decide | exact ncne (by omega) (by omega) (by omega) | exact nckn (by omega) (by omega) | exact (nckn (by omega) (by omega)).symm) e30
    have e39 := u2_e uI32
    refine k_aload_n C rfl rfl rfl ?_
    refine g_R C rfl rfl rfl T_r0 rfl R_r0_18 ?_
    refine z_iconst C (z := 4) rfl rfl rfl (fun x40 ex40 => ?_)
    refine k_iload C rfl rfl rfl ?_
    refine z_sI C rfl rfl T_r0_18 N_r0_18 (by omega) (by omega) (fun I41 uI41 => ?_)
    have uI41 : I41 = u2 I32 r0_18 4 (n5) := by rw [uI41, nck (n := 4) (by omega)]
    have hI41 : IM R r0 I41 := IM.arr hI32 G_r0 R_r0_18 ⟨(fun h => absurd h (by decide)), (fun h => absurd h (by decide)), (fun h => absurd h (by decide))⟩ (fun h => absurd h (by decide)) uI41
    have S42 : CM A R r0 [] [18] I32 L I41 L := CM.a G_r0 R_r0_18 A_r0_18 uI41
    have e43 := u2_n uI41 (fun e => (mF.ne G_r0 R_r0_18) e.symm) e34
    have e44 := u2_n uI41 (fun e => (mF.ne G_r0 R_r0_18) e.symm) e35
    have e45 := u2_j uI41 (by first | decide | exact ncne (by omega) (by omega) (by omega) | exact nckn (by omega) (by omega) | exact (nckn (by omega) (by omega)).symm) e36
    have e46 := u2_j uI41 (by first | decide | exact ncne (by omega) (by omega) (by omega) | exact nckn (by omega) (by omega) | exact (nckn (by omega) (by omega)).symm) e37
    have e47 := u2_j uI41 (by first | decide | exact ncne (by omega) (by omega) (by omega) | exact nckn (by omega) (by omega) | exact (nckn (by omega) (by omega)).symm) e38
    have e48 := u2_j uI41 (by first | decide | exact ncne (by omega) (by omega) (by omega) | exact nckn (by omega) (by omega) | exact (nckn (by omega) (by omega)).symm) e39
    have e49 := u2_e uI41
    refine z_iconst C (z := 0) rfl rfl rfl (fun x50 ex50 => ?_)
    have J51 : ∀ (nn52 : Nat) (I53 : IT) (L54 : LT) (x55 : Int32), (MN (20 - x55.toInt) nn52) → (IM R r0 I53) → (CM A R r0 [] [10] I41 L I53 L54) → (0 ≤ x55.toInt) → (x55.toInt ≤ 20) → (TFD (I53 r0_10) (I r0_10) w_r0_11.toNatClampNeg (F5 n1 n2 n3 n4 n5) x55.toInt) → (TBY (I r0_10) → TBY (I53 r0_10)) → V 60 [(0, .ref r0), (6, .int x55)] [] (T, N, I53, L54, R) 0 0 := by
      intro nn52
      induction nn52 using Nat.strongRecOn with
      | _ nn52 ihJ51 =>
        intro I53 L54 x55 hmnn52 hI59 S58 b56 b57 ff60_0 ff60_1
        have gx55 := rg x55
        have e60 := CM.k S58 (by decide) e43
        have e61 := CM.k S58 (by decide) e44
        have e62 := CM.j S58 R_r0_18 (by decide) e45
        have e63 := CM.j S58 R_r0_18 (by decide) e46
        have e64 := CM.j S58 R_r0_18 (by decide) e47
        have e65 := CM.j S58 R_r0_18 (by decide) e48
        have e66 := CM.j S58 R_r0_18 (by decide) e49
        refine k_iload C rfl rfl rfl ?_
        refine z_bipush C (z := 20) rfl rfl rfl (fun x67 ex67 => ?_)
        refine b_icmp_ge C (t := 106) rfl rfl rfl (fun c68 => ?_) (fun c68 => ?_)
        · skip
          refine k_aload_n C rfl rfl rfl ?_
          refine k_dup C rfl rfl rfl ?_
          refine g_I C rfl rfl rfl T_r0 rfl e60 ?_
          refine z_bipush C (z := 20) rfl rfl rfl (fun x69 ex69 => ?_)
          refine z_iadd C rfl rfl ⟨by omega, by omega⟩ (fun x70 ex70 => ?_)
          refine z_pI C rfl rfl rfl T_r0 (Or.inr rfl) rfl (fun I71 uI71 => ?_)
          have hI71 : IM R r0 I71 := IM.fld hI59 G_r0 ⟨(fun _ => ⟨by omega, by omega⟩), (fun h => absurd h (by decide)), (fun h => absurd h (by decide)), (fun h => absurd h (by decide)), (fun h => absurd h (by decide))⟩ uI71
          have S72 : CM A R r0 [11] [] I53 L54 I71 L54 := CM.f G_r0 A_r0 uI71
          have e74 := u2_j uI71 (by first | decide | exact ncne (by omega) (by omega) (by omega) | exact nckn (by omega) (by omega) | exact (nckn (by omega) (by omega)).symm) e61
          have e75 := u2_n uI71 (mF.ne G_r0 R_r0_18) e62
          have e76 := u2_n uI71 (mF.ne G_r0 R_r0_18) e63
          have e77 := u2_n uI71 (mF.ne G_r0 R_r0_18) e64
          have e78 := u2_n uI71 (mF.ne G_r0 R_r0_18) e65
          have e79 := u2_n uI71 (mF.ne G_r0 R_r0_18) e66
          have e80 := u2_e uI71
          refine k_aload_n C rfl rfl rfl ?_
          refine g_I C rfl rfl rfl T_r0 rfl e80 ?_
          exact k_iret C rfl (Or.inl rfl) (Nat.le_of_ble_eq_true rfl) (Nat.le_of_ble_eq_true rfl) ⟨_, _, _, rfl, rfl, by omega, by omega, by first | omega | (simp only [e74, e75, e76, e77, e78, e79, e80, k0_r0_11, and_true, true_and, or_true, true_or, and_false, false_and, or_false, false_or] <;> omega), fun a10 h10 => by cases (R_r0_10.symm.trans h10); simp only [k0_r0_11]; exact ⟨fun h => by omega, fun _ => by have h9 : x55.toInt = 20 := (by omega); rw [← h9, CM.j0 S72 R_r0_10 (by decide)]; exact ff60_0⟩, fun a10 h10 => by cases (R_r0_10.symm.trans h10); rw [CM.j0 S72 R_r0_10 (by decide)]; exact ff60_1, hI71, (CM.cons S3 (CM.cons S12 (CM.cons S18 (CM.cons S25 (CM.cons S33 (CM.cons S42 (CM.cons S58 (CM.mono S72 (by decide) (by decide)) (by decide) (by decide)) (by decide) (by decide)) (by decide) (by decide)) (by decide) (by decide)) (by decide) (by decide)) (by decide) (by decide)) (by decide) (by decide))⟩
        refine k_aload_n C rfl rfl rfl ?_
        refine g_R C rfl rfl rfl T_r0 rfl R_r0_10 ?_
        refine k_aload_n C rfl rfl rfl ?_
        refine g_I C rfl rfl rfl T_r0 rfl e60 ?_
        refine k_iload C rfl rfl rfl ?_
        refine z_iadd C rfl rfl ⟨by omega, by omega⟩ (fun x81 ex81 => ?_)
        refine k_aload_n C rfl rfl rfl ?_
        refine g_R C rfl rfl rfl T_r0 rfl R_r0_18 ?_
        refine k_iload C rfl rfl rfl ?_
        refine z_iconst C (z := 4) rfl rfl rfl (fun x82 ex82 => ?_)
        refine z_idivR C (c := 4) rfl rfl (by omega) (by omega) (by omega) (fun x83 ex83 => ?_)
        have hg5 : ∀ i, i < 5 → I53 r0_18 i = F5 n1 n2 n3 n4 n5 i := fun i hi => F5.of e62 e63 e64 e65 e66 hi
        refine z_aI C rfl rfl T_r0_18 N_r0_18 (by omega) (by omega) (fun x84 ex84 => ?_)
        have gx84 := rg x84
        have hr86 := ex84
        refine z_bipush C (z := 24) rfl rfl rfl (fun x85 ex85 => ?_)
        refine z_bipush C (z := 8) rfl rfl rfl (fun x86 ex86 => ?_)
        refine k_iload C rfl rfl rfl ?_
        refine z_iconst C (z := 4) rfl rfl rfl (fun x87 ex87 => ?_)
        refine z_iremR C (c := 4) rfl rfl (by omega) (by omega) (by omega) (fun x88 ex88 => ?_)
        refine z_imulL C (c := 8) rfl rfl (by omega) ⟨by omega, by omega⟩ (fun x89 ex89 => ?_)
        refine z_isub C rfl rfl ⟨by omega, by omega⟩ (fun x90 ex90 => ?_)
        refine z_ishrX C rfl rfl (fun x91 ex91 => ?_)
        have gx91 := rg x91
        have m97 := ex91
        refine z_i2bX C rfl rfl (fun x92 ex92 => ?_)
        have m98 := ex92.1
        obtain ⟨T_r0_10, N_r0_10, A_r0_10⟩ := id H_r0_10
        refine z_sB C rfl rfl T_r0_10 N_r0_10 (by omega) (by omega) (fun I93 uI93 => ?_)
        have hI93 : IM R r0 I93 := IM.arr hI59 G_r0 R_r0_10 ⟨(fun h => absurd h (by decide)), (fun h => absurd h (by decide)), (fun h => absurd h (by decide))⟩ (fun h => absurd h (by decide)) uI93
        have S94 : CM A R r0 [] [10] I53 L54 I93 L54 := CM.a G_r0 R_r0_10 A_r0_10 uI93
        have e95 := u2_n uI93 (fun e => (mF.ne G_r0 R_r0_10) e.symm) e60
        have e96 := u2_n uI93 (fun e => (mF.ne G_r0 R_r0_10) e.symm) e61
        have e97 := u2_n uI93 (mF.nq G_r0 R_r0_18 R_r0_10 (by decide)) e62
        have e98 := u2_n uI93 (mF.nq G_r0 R_r0_18 R_r0_10 (by decide)) e63
        have e99 := u2_n uI93 (mF.nq G_r0 R_r0_18 R_r0_10 (by decide)) e64
        have e100 := u2_n uI93 (mF.nq G_r0 R_r0_18 R_r0_10 (by decide)) e65
        have e101 := u2_n uI93 (mF.nq G_r0 R_r0_18 R_r0_10 (by decide)) e66
        have e102 := u2_n uI93 (mF.nq G_r0 R_r0_18 R_r0_10 (by decide)) ex84
        have hu99 := uI93
        refine z_iinc C (z := 1) (lw := fun x103 => [(6, .int x103), (0, .ref r0)]) rfl rfl rfl (Nat.le_of_ble_eq_true rfl) rfl ⟨by omega, by omega⟩ (fun _ => rfl) (fun x103 ex103 => ?_)
        show V 103 [(6, .int x103), (0, .ref r0)] _ _ _ _
        refine k_goto C (pc2 := 60) rfl rfl ?_
        refine k_sub S [(0, .ref r0), (6, .int x103)] (List.forall_mem_cons.mpr ⟨List.mem_of_getElem? (i := 1) rfl, List.forall_mem_cons.mpr ⟨List.mem_of_getElem? (i := 0) rfl, fun _ h => nomatch h⟩⟩) ?_
        exact ihJ51 _ (MN.lt hmnn52 (by omega) (by omega)) I93 L54 x103 rfl hI93 (CM.cons S58 (CM.mono S94 (by decide) (by decide)) (by decide) (by decide)) (by omega) (by omega) (by exact TFD.s ff60_0 hu99 m98 m97 hr86 hg5 (by omega) (by omega) (by omega) (by omega) (by omega) (by omega) (by omega)) (by exact fun h9 => TBY.u (ff60_1 h9) hu99)
    refine k_istore C (lw := [(6, .int x50), (0, .ref r0), (1, .int n1), (2, .int n2), (3, .int n3), (4, .int n4), (5, .int n5)]) rfl rfl (Nat.le_of_ble_eq_true rfl) rfl ?_
    refine k_sub S [(0, .ref r0), (6, .int x50)] (List.forall_mem_cons.mpr ⟨List.mem_of_getElem? (i := 1) rfl, List.forall_mem_cons.mpr ⟨List.mem_of_getElem? (i := 0) rfl, fun _ h => nomatch h⟩⟩) ?_
    exact J51 _ I41 L x50 rfl hI41 CM.rf (by omega) (by omega) (by exact TFD.z (CM.j0 (W := [0]) (WA := [18]) (CM.cons S3 (CM.cons S12 (CM.cons S18 (CM.cons S25 (CM.cons S33 (CM.mono S42 (by decide) (by decide)) (by decide) (by decide)) (by decide) (by decide)) (by decide) (by decide)) (by decide) (by decide)) (by decide) (by decide)) R_r0_10 (by decide)) (by omega)) (by rw [CM.j0 (W := [0]) (WA := [18]) (CM.cons S3 (CM.cons S12 (CM.cons S18 (CM.cons S25 (CM.cons S33 (CM.mono S42 (by decide) (by decide)) (by decide) (by decide)) (by decide) (by decide)) (by decide) (by decide)) (by decide) (by decide)) (by decide) (by decide)) R_r0_10 (by decide)]; exact fun h9 => h9)
  refine z_iconst C (z := -1) rfl rfl rfl (fun x104 ex104 => ?_)
  exact k_iret C rfl (Or.inl rfl) (Nat.le_of_ble_eq_true rfl) (Nat.le_of_ble_eq_true rfl) ⟨_, _, _, rfl, rfl, by omega, by omega, by first | omega | (simp only [e4, e5, k0_r0_11, and_true, true_and, or_true, true_or, and_false, false_and, or_false, false_or] <;> omega), fun a10 h10 => by cases (R_r0_10.symm.trans h10); simp only [k0_r0_11]; exact ⟨fun _ => CM.j0 (W := [0]) (WA := []) (CM.mono S3 (by decide) (by decide)) R_r0_10 (by decide), fun h => by omega⟩, fun a10 h10 => by cases (R_r0_10.symm.trans h10); rw [CM.j0 (W := [0]) (WA := []) (CM.mono S3 (by decide) (by decide)) R_r0_10 (by decide)]; exact fun h9 => h9, hI2, (CM.mono S3 (by decide) (by decide))⟩

theorem a_X12_form_x {d : Nat} {T N : Nat → Nat} {I : IT} {L : LT} {R : RT} {A : Nat → Prop} {r0 : Nat} (hI : IM R r0 I) (H_r0 : (h_MD T N R A) r0) : Ex (d + 4) 233 [.ref r0] (T, N, I, L, R) 0 0 (pI T N R (fun x9 I9 L9 => (0 ≤ x9.toInt) ∧ (x9.toInt ≤ 16) ∧ (∀ a1, R r0 1 = some a1 → (I a1 4).toInt + (I a1 5).toInt ≤ 40 → (I9 a1 4).toInt + (I9 a1 5).toInt ≤ 40) ∧ ((I9 r0 11).toInt = 0) ∧ (∀ a1, R r0 1 = some a1 → (I9 a1 0).toInt = (I a1 0).toInt) ∧ (∀ a1, R r0 1 = some a1 → (I9 a1 2).toInt = (I a1 2).toInt) ∧ (∀ a1, R r0 1 = some a1 → (I9 a1 3).toInt = (I a1 3).toInt) ∧ (∀ a1, R r0 1 = some a1 → ((I r0 11).toInt < 1 ∨ 9 < (I r0 11).toInt) ∧ (I9 r0 0).toInt = 1 ∧ (I9 a1 1).toInt = (I a1 1).toInt ∨ 1 ≤ (I r0 11).toInt ∧ (I r0 11).toInt ≤ 9 ∧ (I a1 1).toInt = 16 ∧ (I9 r0 0).toInt = 2 ∧ (I9 a1 1).toInt = (I a1 1).toInt ∨ 1 ≤ (I r0 11).toInt ∧ (I r0 11).toInt ≤ 9 ∧ (I a1 1).toInt < 16 ∧ (I9 r0 0).toInt = 0 ∧ x9.toInt = (I a1 1).toInt ∧ (I9 a1 1).toInt = (I a1 1).toInt + 1) ∧ (∀ a1 a10, R r0 1 = some a1 → R r0 10 = some a10 → FMX (I9 a1) (I a1) (I a10) (I r0 11).toInt (I9 r0 0).toInt) ∧ (IM R r0 I9 ∧ CM A R r0 [0, 11, 12, 13] [1] I L I9 L9))) := by
  refine ⟨_, rfl, Nat.le_of_ble_eq_true rfl, fun V C S => ?_⟩
  show V 0 [(0, .ref r0)] [] (T, N, I, L, R) 0 0
  obtain ⟨T_r0, A_r0, ⟨r0_1, R_r0_1, H_r0_1⟩, ⟨r0_2, R_r0_2, H_r0_2⟩, ⟨r0_4, R_r0_4, H_r0_4⟩, ⟨r0_5, R_r0_5, H_r0_5⟩, ⟨r0_10, R_r0_10, H_r0_10⟩, ⟨r0_18, R_r0_18, H_r0_18⟩, ⟨r0_20, R_r0_20, H_r0_20⟩, ⟨r0_21, R_r0_21, H_r0_21⟩, ⟨r0_22, R_r0_22, H_r0_22⟩, ⟨r0_23, R_r0_23, H_r0_23⟩, ⟨r0_25, R_r0_25, H_r0_25⟩, ⟨r0_26, R_r0_26, H_r0_26⟩, ⟨r0_27, R_r0_27, H_r0_27⟩, ⟨r0_28, R_r0_28, H_r0_28⟩, ⟨r0_34, R_r0_34, H_r0_34⟩, J_r0, Y_r0⟩ := id H_r0
  have G_r0 : mF T R r0 := ⟨J_r0, Y_r0, T_r0⟩
  obtain ⟨w_r0_1_0, k0_r0_1_0⟩ : ∃ x, I r0_1 0 = x := ⟨_, rfl⟩
  have gw_r0_1_0 := rg w_r0_1_0
  have ow_r0_1_0 := IM.pi hI R_r0_1 k0_r0_1_0
  obtain ⟨w_r0_1_1, k0_r0_1_1⟩ : ∃ x, I r0_1 1 = x := ⟨_, rfl⟩
  have gw_r0_1_1 := rg w_r0_1_1
  have ow_r0_1_1 := IM.c1 hI R_r0_1 k0_r0_1_1
  obtain ⟨w_r0_1_2, k0_r0_1_2⟩ : ∃ x, I r0_1 2 = x := ⟨_, rfl⟩
  have gw_r0_1_2 := rg w_r0_1_2
  have ow_r0_1_2 := IM.c2 hI R_r0_1 k0_r0_1_2
  obtain ⟨w_r0_1_3, k0_r0_1_3⟩ : ∃ x, I r0_1 3 = x := ⟨_, rfl⟩
  have gw_r0_1_3 := rg w_r0_1_3
  have ow_r0_1_3 := IM.c3 hI R_r0_1 k0_r0_1_3
  obtain ⟨w_r0_1_4, k0_r0_1_4⟩ : ∃ x, I r0_1 4 = x := ⟨_, rfl⟩
  have gw_r0_1_4 := rg w_r0_1_4
  have ow_r0_1_4 := IM.c4 hI R_r0_1 k0_r0_1_4
  obtain ⟨w_r0_1_5, k0_r0_1_5⟩ : ∃ x, I r0_1 5 = x := ⟨_, rfl⟩
  have gw_r0_1_5 := rg w_r0_1_5
  have ow_r0_1_5 := IM.c5 hI R_r0_1 k0_r0_1_5
  obtain ⟨w_r0_11, k0_r0_11⟩ : ∃ x, I r0 11 = x := ⟨_, rfl⟩
  have gw_r0_11 := rg w_r0_11
  have ow_r0_11 := IM.f11 hI k0_r0_11
  refine k_aload_n C rfl rfl rfl ?_
  refine c_VV C (a_X12_uses_e hI H_r0) rfl rfl rfl rfl rfl ⟨_, rfl, rfl, T_r0, Nat.le_of_ble_eq_true rfl⟩ rfl rfl (Nat.le_of_ble_eq_true rfl) (Nat.le_of_ble_eq_true rfl) (Nat.le_of_ble_eq_true rfl) ?_
  rintro I2 L3 ⟨p0v1, p1v1, p2v1, hI2, S4⟩
  have e5 := CM.j S4 R_r0_1 (by decide) k0_r0_1_0
  have e6 := CM.j S4 R_r0_1 (by decide) k0_r0_1_1
  have e7 := CM.j S4 R_r0_1 (by decide) k0_r0_1_2
  have e8 := CM.j S4 R_r0_1 (by decide) k0_r0_1_3
  have e9 := CM.j S4 R_r0_1 (by decide) k0_r0_1_4
  have e10 := CM.j S4 R_r0_1 (by decide) k0_r0_1_5
  obtain ⟨x12, e13⟩ : ∃ x, I2 r0 13 = x := ⟨_, rfl⟩
  have gx12 := rg x12
  have ox12 := IM.f13 hI2 e13
  obtain ⟨x14, e15⟩ : ∃ x, I2 r0 11 = x := ⟨_, rfl⟩
  have gx14 := rg x14
  have ox14 := IM.f11 hI2 e15
  obtain ⟨x16, e17⟩ : ∃ x, I2 r0 0 = x := ⟨_, rfl⟩
  have gx16 := rg x16
  try simp only [k0_r0_1_0, k0_r0_1_1, k0_r0_1_2, k0_r0_1_3, k0_r0_1_4, k0_r0_1_5, k0_r0_11, e13, e15, e17] at p0v1
  try have q0v1 := congrArg Int32.toInt p0v1
  try simp only [k0_r0_1_0, k0_r0_1_1, k0_r0_1_2, k0_r0_1_3, k0_r0_1_4, k0_r0_1_5, k0_r0_11, e13, e15, e17] at p1v1
  try have q1v1 := congrArg Int32.toInt p1v1
  try simp only [k0_r0_1_0, k0_r0_1_1, k0_r0_1_2, k0_r0_1_3, k0_r0_1_4, k0_r0_1_5, k0_r0_11, e13, e15, e17] at p2v1
  try have q2v1 := congrArg Int32.toInt p2v1
  refine k_aload_n C rfl rfl rfl ?_
  refine k_aload_n C rfl rfl rfl ?_
  refine g_I C rfl rfl rfl T_r0 rfl e13 ?_
  refine z_iconst C (z := 1) rfl rfl rfl (fun x18 ex18 => ?_)
  refine z_bipush C (z := 9) rfl rfl rfl (fun x19 ex19 => ?_)
  have q20 : x18.toNatClampNeg = 1 := nck (by omega)
  have q21 : x19.toNatClampNeg = 9 := nck (by omega)
  refine c_SI C a_X12_in rfl rfl rfl rfl rfl rfl rfl (Nat.le_of_ble_eq_true rfl) (Nat.le_of_ble_eq_true rfl) (Nat.le_of_ble_eq_true rfl) ?_
  rintro x22 _ _ ⟨o0x22, o1x22, p0x22, rfl, rfl⟩
  have gx22 := rg x22
  try simp only [q20, q21, e5, e6, e7, e8, e9, e10, e13, e15, e17] at p0x22
  try have q0x22 := congrArg Int32.toInt p0x22
  refine b_if_ne C (t := 22) rfl rfl rfl (fun c23 => ?_) (fun c23 => ?_)
  · skip
    first | (replace p0x22 := p0x22.resolve_left (by omega)) | (replace p0x22 := p0x22.resolve_right (by omega)) | (replace p0x22 := p0x22 (by omega)) | (have hno := imp_no p0x22 (by omega); clear hno; clear p0x22) | skip
    refine z_iconst C (z := 0) rfl rfl rfl (fun x24 ex24 => ?_)
    refine z_iconst C (z := 1) rfl rfl rfl (fun x25 ex25 => ?_)
    have q26 : x24.toNatClampNeg = 0 := nck (by omega)
    have q27 : x25.toNatClampNeg = 1 := nck (by omega)
    refine c_VI C (a_X12_throwsIf_e hI2 H_r0 (by omega) (by omega)) rfl rfl rfl rfl rfl ⟨_, rfl, rfl, T_r0, Nat.le_of_ble_eq_true rfl⟩ rfl rfl (Nat.le_of_ble_eq_true rfl) (Nat.le_of_ble_eq_true rfl) (Nat.le_of_ble_eq_true rfl) ?_
    rintro x28 I29 L30 ⟨o0x28, o1x28, p0x28, p1x28, hI29, S31⟩
    have e32 := CM.j S31 R_r0_1 (by decide) e5
    have e33 := CM.j S31 R_r0_1 (by decide) e6
    have e34 := CM.j S31 R_r0_1 (by decide) e7
    have e35 := CM.j S31 R_r0_1 (by decide) e8
    have e36 := CM.j S31 R_r0_1 (by decide) e9
    have e37 := CM.j S31 R_r0_1 (by decide) e10
    have e38 := CM.k S31 (by decide) e13
    have e39 := CM.k S31 (by decide) e15
    have gx28 := rg x28
    obtain ⟨x41, e42⟩ : ∃ x, I29 r0 0 = x := ⟨_, rfl⟩
    have gx41 := rg x41
    try simp only [q26, q27, e5, e6, e7, e8, e9, e10, e13, e15, e17, e42] at p0x28
    try have q0x28 := congrArg Int32.toInt p0x28
    try simp only [q26, q27, e5, e6, e7, e8, e9, e10, e13, e15, e17, e42] at p1x28
    try have q1x28 := congrArg Int32.toInt p1x28
    refine b_if_ne C (t := 54) rfl rfl rfl (fun c43 => by exfalso; omega) (fun c43 => ?_)
    first | (replace p0x22 := p0x22.resolve_left (by omega)) | (replace p0x22 := p0x22.resolve_right (by omega)) | (replace p0x22 := p0x22 (by omega)) | (have hno := imp_no p0x22 (by omega); clear hno; clear p0x22) | skip
    first | (replace p0x28 := p0x28.resolve_left (by omega)) | (replace p0x28 := p0x28.resolve_right (by omega)) | (replace p0x28 := p0x28 (by omega)) | (have hno := imp_no p0x28 (by omega); clear hno; clear p0x28) | skip
    first | (replace p1x28 := p1x28.resolve_left (by omega)) | (replace p1x28 := p1x28.resolve_right (by omega)) | (replace p1x28 := p1x28 (by omega)) | (have hno := imp_no p1x28 (by omega); clear hno; clear p1x28) | skip
    refine k_aload_n C rfl rfl rfl ?_
    refine k_aload_n C rfl rfl rfl ?_
    refine g_R C rfl rfl rfl T_r0 rfl R_r0_1 ?_
    refine z_iconst C (z := 1) rfl rfl rfl (fun x44 ex44 => ?_)
    obtain ⟨T_r0_1, N_r0_1, A_r0_1⟩ := id H_r0_1
    refine a_I C rfl rfl T_r0_1 (by rw [N_r0_1]; exact vpi (by omega) (by omega)) ((congrArg (I29 r0_1) (nck (n := 1) (by omega))).trans e33) ?_
    refine z_bipush C (z := 16) rfl rfl rfl (fun x45 ex45 => ?_)
    refine b_icmp_ne C (t := 46) rfl rfl rfl (fun c46 => ?_) (fun c46 => ?_)
    · skip
      first | (replace p0x28 := p0x28.resolve_left (by omega)) | (replace p0x28 := p0x28.resolve_right (by omega)) | (replace p0x28 := p0x28 (by omega)) | (have hno := imp_no p0x28 (by omega); clear hno; clear p0x28) | skip
      first | (replace p1x28 := p1x28.resolve_left (by omega)) | (replace p1x28 := p1x28.resolve_right (by omega)) | (replace p1x28 := p1x28 (by omega)) | (have hno := imp_no p1x28 (by omega); clear hno; clear p1x28) | skip
      refine z_iconst C (z := 0) rfl rfl rfl (fun x47 ex47 => ?_)
      refine z_iconst C (z := 2) rfl rfl rfl (fun x48 ex48 => ?_)
      have q49 : x47.toNatClampNeg = 0 := nck (by omega)
      have q50 : x48.toNatClampNeg = 2 := nck (by omega)
      refine c_VI C (a_X12_throwsIf_e hI29 H_r0 (by omega) (by omega)) rfl rfl rfl rfl rfl ⟨_, rfl, rfl, T_r0, Nat.le_of_ble_eq_true rfl⟩ rfl rfl (Nat.le_of_ble_eq_true rfl) (Nat.le_of_ble_eq_true rfl) (Nat.le_of_ble_eq_true rfl) ?_
      rintro x51 I52 L53 ⟨o0x51, o1x51, p0x51, p1x51, hI52, S54⟩
      have e55 := CM.j S54 R_r0_1 (by decide) e32
      have e56 := CM.j S54 R_r0_1 (by decide) e33
      have e57 := CM.j S54 R_r0_1 (by decide) e34
      have e58 := CM.j S54 R_r0_1 (by decide) e35
      have e59 := CM.j S54 R_r0_1 (by decide) e36
      have e60 := CM.j S54 R_r0_1 (by decide) e37
      have e61 := CM.k S54 (by decide) e38
      have e62 := CM.k S54 (by decide) e39
      have gx51 := rg x51
      obtain ⟨x64, e65⟩ : ∃ x, I52 r0 0 = x := ⟨_, rfl⟩
      have gx64 := rg x64
      try simp only [q49, q50, e32, e33, e34, e35, e36, e37, e38, e39, e42, e65] at p0x51
      try have q0x51 := congrArg Int32.toInt p0x51
      try simp only [q49, q50, e32, e33, e34, e35, e36, e37, e38, e39, e42, e65] at p1x51
      try have q1x51 := congrArg Int32.toInt p1x51
      refine b_if_eq C (t := 56) rfl rfl rfl (fun c66 => ?_) (fun c66 => by exfalso; omega)
      first | (replace p0x51 := p0x51.resolve_left (by omega)) | (replace p0x51 := p0x51.resolve_right (by omega)) | (replace p0x51 := p0x51 (by omega)) | (have hno := imp_no p0x51 (by omega); clear hno; clear p0x51) | skip
      first | (replace p1x51 := p1x51.resolve_left (by omega)) | (replace p1x51 := p1x51.resolve_right (by omega)) | (replace p1x51 := p1x51 (by omega)) | (have hno := imp_no p1x51 (by omega); clear hno; clear p1x51) | skip
      refine k_aload_n C rfl rfl rfl ?_
      refine g_R C rfl rfl rfl T_r0 rfl R_r0_1 ?_
      refine z_iconst C (z := 1) rfl rfl rfl (fun x67 ex67 => ?_)
      refine a_I C rfl rfl T_r0_1 (by rw [N_r0_1]; exact vpi (by omega) (by omega)) ((congrArg (I52 r0_1) (nck (n := 1) (by omega))).trans e56) ?_
      refine k_istore_n C (lw := [(1, .int w_r0_1_1), (0, .ref r0)]) rfl rfl (Nat.le_of_ble_eq_true rfl) rfl ?_
      refine k_aload_n C rfl rfl rfl ?_
      refine g_R C rfl rfl rfl T_r0 rfl R_r0_1 ?_
      refine k_iload_n C rfl rfl rfl ?_
      refine c_SI C (a_X12_formAt (by omega) (by omega)) rfl rfl rfl rfl rfl rfl rfl (Nat.le_of_ble_eq_true rfl) (Nat.le_of_ble_eq_true rfl) (Nat.le_of_ble_eq_true rfl) ?_
      rintro x68 _ _ ⟨o0x68, o1x68, p0x68, rfl, rfl⟩
      have gx68 := rg x68
      try simp only [e55, e56, e57, e58, e59, e60, e61, e62, e65] at p0x68
      try have q0x68 := congrArg Int32.toInt p0x68
      refine k_aload_n C rfl rfl rfl ?_
      refine g_I C rfl rfl rfl T_r0 rfl e61 ?_
      refine z_iconst C (z := 1) rfl rfl rfl (fun x69 ex69 => ?_)
      refine z_isub C rfl rfl ⟨by omega, by omega⟩ (fun x70 ex70 => ?_)
      have hw77 := CM.j0 (W := [0, 11, 12, 13]) (WA := []) (CM.cons S4 (CM.cons S31 (CM.mono S54 (by decide) (by decide)) (by decide) (by decide)) (by decide) (by decide)) R_r0_1 (by decide)
      refine z_sI C rfl rfl T_r0_1 N_r0_1 (by omega) (by omega) (fun I71 uI71 => ?_)
      have hI71 : IM R r0 I71 := IM.arr hI52 G_r0 R_r0_1 ⟨(fun h => absurd h (by decide)), (fun h => absurd h (by decide)), (fun h => absurd h (by decide))⟩ (fun _ => WOK.dg (IM.w hI52 R_r0_1) (f := w_r0_1_1) ⟨by rw [e56]; omega, by omega⟩ (by omega) (by omega) (by omega)) uI71
      have S72 : CM A R r0 [] [1] I52 L53 I71 L53 := CM.a G_r0 R_r0_1 A_r0_1 uI71
      have e73 := u2_j uI71 (by first | decide | exact ncne (by omega) (by omega) (by omega) | exact nckn (by omega) (by omega) | exact (nckn (by omega) (by omega)).symm) e55
      have e74 := u2_j uI71 (by first | decide | exact ncne (by omega) (by omega) (by omega) | exact nckn (by omega) (by omega) | exact (nckn (by omega) (by omega)).symm) e56
      have e75 := u2_j uI71 (by first | decide | exact ncne (by omega) (by omega) (by omega) | exact nckn (by omega) (by omega) | exact (nckn (by omega) (by omega)).symm) e57
      have e76 := u2_j uI71 (by first | decide | exact ncne (by omega) (by omega) (by omega) | exact nckn (by omega) (by omega) | exact (nckn (by omega) (by omega)).symm) e58
      have e77 := u2_j uI71 (by first | decide | exact ncne (by omega) (by omega) (by omega) | exact nckn (by omega) (by omega) | exact (nckn (by omega) (by omega)).symm) e59
      have e78 := u2_j uI71 (by first | decide | exact ncne (by omega) (by omega) (by omega) | exact nckn (by omega) (by omega) | exact (nckn (by omega) (by omega)).symm) e60
      have e79 := u2_n uI71 (fun e => (mF.ne G_r0 R_r0_1) e.symm) e61
      have e80 := u2_n uI71 (fun e => (mF.ne G_r0 R_r0_1) e.symm) e62
      have e81 := u2_n uI71 (fun e => (mF.ne G_r0 R_r0_1) e.symm) e65
      have e82 := u2_e uI71
      have hu77 := uI71
      refine z_iconst C (z := 0) rfl rfl rfl (fun x83 ex83 => ?_)
      have J84 : ∀ (nn85 : Nat) (I86 : IT) (L87 : LT) (x88 : Int32) (x93 : Int32) (x97 : Int32) (x101 : Int32) (x105 : Int32) (x109 : Int32) (x113 : Int32), (MN (400 - x88.toInt) nn85) → (IM R r0 I86) → (CM A R r0 [] [1] I71 L53 I86 L87) → (0 ≤ x88.toInt) → (x88.toInt ≤ 400) → (I86 r0_1 0 = x93) → (11 ≤ x93.toInt) → (x93.toInt ≤ 19) → (I86 r0_1 1 = x97) → (0 ≤ x97.toInt) → (x97.toInt ≤ 16) → (I86 r0_1 2 = x101) → (0 ≤ x101.toInt) → (x101.toInt ≤ 8) → (I86 r0_1 3 = x105) → (0 ≤ x105.toInt) → (x105.toInt ≤ 8) → (I86 r0_1 4 = x109) → (0 ≤ x109.toInt) → (x109.toInt ≤ 40) → (I86 r0_1 5 = x113) → (0 ≤ x113.toInt) → (x113.toInt ≤ 40) → (x93.toInt = w_r0_1_0.toInt) → (x97.toInt = w_r0_1_1.toInt) → (x101.toInt = w_r0_1_2.toInt) → (x105.toInt = w_r0_1_3.toInt) → (x109.toInt = w_r0_1_4.toInt) → (x113.toInt = w_r0_1_5.toInt) → (FRM I86 r0_1 w_r0_1_1.toNatClampNeg x88.toInt (x12.toInt - 1) w_r0_1_0.toInt) → (FMW (I86 r0_1) (I r0_1) (I r0_10) w_r0_1_1.toNatClampNeg x88.toInt w_r0_11.toInt w_r0_1_0.toInt) → (x88.toInt ≤ w_r0_11.toInt) → V 80 [(0, .ref r0), (1, .int w_r0_1_1), (2, .int x88)] [] (T, N, I86, L87, R) 0 0 := by
        intro nn85
        induction nn85 using Nat.strongRecOn with
        | _ nn85 ihJ84 =>
          intro I86 L87 x88 x93 x97 x101 x105 x109 x113 hmnn85 hI92 S91 b89 b90 e94 b95 b96 e98 b99 b100 e102 b103 b104 e106 b107 b108 e110 b111 b112 e114 b115 b116 ff80_0 ff80_1 ff80_2 ff80_3 ff80_4 ff80_5 ff80_6 ff80_7 ff80_8
          have gx88 := rg x88
          have gx93 := rg x93
          have gx97 := rg x97
          have gx101 := rg x101
          have gx105 := rg x105
          have gx109 := rg x109
          have gx113 := rg x113
          have e117 := CM.k S91 (by decide) e79
          have e118 := CM.k S91 (by decide) e80
          have e119 := CM.k S91 (by decide) e81
          refine k_iload_n C rfl rfl rfl ?_
          refine k_aload_n C rfl rfl rfl ?_
          refine g_I C rfl rfl rfl T_r0 rfl e117 ?_
          refine b_icmp_ge C (t := 122) rfl rfl rfl (fun c120 => ?_) (fun c120 => ?_)
          · skip
            refine k_aload_n C rfl rfl rfl ?_
            refine g_R C rfl rfl rfl T_r0 rfl R_r0_1 ?_
            refine z_iconst C (z := 1) rfl rfl rfl (fun x121 ex121 => ?_)
            refine k_dup2 C rfl rfl rfl rfl ?_
            refine a_I C rfl rfl T_r0_1 (by rw [N_r0_1]; exact vpi (by omega) (by omega)) ((congrArg (I86 r0_1) (nck (n := 1) (by omega))).trans e98) ?_
            refine z_iconst C (z := 1) rfl rfl rfl (fun x122 ex122 => ?_)
            refine z_iadd C rfl rfl ⟨by omega, by omega⟩ (fun x123 ex123 => ?_)
            refine z_sI C rfl rfl T_r0_1 N_r0_1 (by omega) (by omega) (fun I124 uI124 => ?_)
            have uI124 : I124 = u2 I86 r0_1 1 (x123) := by rw [uI124, nck (n := 1) (by omega)]
            have hI124 : IM R r0 I124 := IM.arr hI92 G_r0 R_r0_1 ⟨(fun h => absurd h (by decide)), (fun h => absurd h (by decide)), (fun h => absurd h (by decide))⟩ (fun _ => WOK.c1 (IM.w hI92 R_r0_1) (f := w_r0_1_1) (by rw [e98]; omega) (by omega) (by omega) (fun k9 hk9 => FRM.e ff80_6 k9 hk9 (by omega) (by rw [e94]; omega))) uI124
            have S125 : CM A R r0 [] [1] I86 L87 I124 L87 := CM.a G_r0 R_r0_1 A_r0_1 uI124
            have e126 := u2_n uI124 (fun e => (mF.ne G_r0 R_r0_1) e.symm) e117
            have e127 := u2_n uI124 (fun e => (mF.ne G_r0 R_r0_1) e.symm) e118
            have e128 := u2_n uI124 (fun e => (mF.ne G_r0 R_r0_1) e.symm) e119
            have e129 := u2_j uI124 (by first | decide | exact ncne (by omega) (by omega) (by omega) | exact nckn (by omega) (by omega) | exact (nckn (by omega) (by omega)).symm) e94
            have e131 := u2_j uI124 (by first | decide | exact ncne (by omega) (by omega) (by omega) | exact nckn (by omega) (by omega) | exact (nckn (by omega) (by omega)).symm) e102
            have e132 := u2_j uI124 (by first | decide | exact ncne (by omega) (by omega) (by omega) | exact nckn (by omega) (by omega) | exact (nckn (by omega) (by omega)).symm) e106
            have e133 := u2_j uI124 (by first | decide | exact ncne (by omega) (by omega) (by omega) | exact nckn (by omega) (by omega) | exact (nckn (by omega) (by omega)).symm) e110
            have e134 := u2_j uI124 (by first | decide | exact ncne (by omega) (by omega) (by omega) | exact nckn (by omega) (by omega) | exact (nckn (by omega) (by omega)).symm) e114
            have e135 := u2_e uI124
            have hu131 := uI124
            refine k_aload_n C rfl rfl rfl ?_
            refine g_R C rfl rfl rfl T_r0 rfl R_r0_1 ?_
            refine z_iconst C (z := 5) rfl rfl rfl (fun x136 ex136 => ?_)
            refine z_iconst C (z := 0) rfl rfl rfl (fun x137 ex137 => ?_)
            refine z_sI C rfl rfl T_r0_1 N_r0_1 (by omega) (by omega) (fun I138 uI138 => ?_)
            have uI138 : I138 = u2 I124 r0_1 5 (x137) := by rw [uI138, nck (n := 5) (by omega)]
            have hI138 : IM R r0 I138 := IM.arr hI124 G_r0 R_r0_1 ⟨(fun h => absurd h (by decide)), (fun h => absurd h (by decide)), (fun h => absurd h (by decide))⟩ (fun _ => WOK.c5 (IM.w hI124 R_r0_1) (by omega) (by omega)) uI138
            have S139 : CM A R r0 [] [1] I124 L87 I138 L87 := CM.a G_r0 R_r0_1 A_r0_1 uI138
            have e140 := u2_n uI138 (fun e => (mF.ne G_r0 R_r0_1) e.symm) e126
            have e141 := u2_n uI138 (fun e => (mF.ne G_r0 R_r0_1) e.symm) e127
            have e142 := u2_n uI138 (fun e => (mF.ne G_r0 R_r0_1) e.symm) e128
            have e143 := u2_j uI138 (by first | decide | exact ncne (by omega) (by omega) (by omega) | exact nckn (by omega) (by omega) | exact (nckn (by omega) (by omega)).symm) e129
            have e144 := u2_j uI138 (by first | decide | exact ncne (by omega) (by omega) (by omega) | exact nckn (by omega) (by omega) | exact (nckn (by omega) (by omega)).symm) e131
            have e145 := u2_j uI138 (by first | decide | exact ncne (by omega) (by omega) (by omega) | exact nckn (by omega) (by omega) | exact (nckn (by omega) (by omega)).symm) e132
            have e146 := u2_j uI138 (by first | decide | exact ncne (by omega) (by omega) (by omega) | exact nckn (by omega) (by omega) | exact (nckn (by omega) (by omega)).symm) e133
            have e148 := u2_j uI138 (by first | decide | exact ncne (by omega) (by omega) (by omega) | exact nckn (by omega) (by omega) | exact (nckn (by omega) (by omega)).symm) e135
            have e149 := u2_e uI138
            have hu138 := uI138
            refine k_iload_n C rfl rfl rfl ?_
            exact k_iret C rfl (Or.inl rfl) (Nat.le_of_ble_eq_true rfl) (Nat.le_of_ble_eq_true rfl) ⟨_, _, _, rfl, rfl, by omega, by omega, fun a1 h1 => by cases (R_r0_1.symm.trans h1); first | omega | (simp only [e140, e141, e142, e143, e144, e145, e146, e148, e149, k0_r0_1_0, k0_r0_1_1, k0_r0_1_2, k0_r0_1_3, k0_r0_1_4, k0_r0_1_5, k0_r0_11, and_true, true_and, or_true, true_or, and_false, false_and, or_false, false_or] <;> omega), by first | omega | (simp only [e140, e141, e142, e143, e144, e145, e146, e148, e149, k0_r0_1_0, k0_r0_1_1, k0_r0_1_2, k0_r0_1_3, k0_r0_1_4, k0_r0_1_5, k0_r0_11, and_true, true_and, or_true, true_or, and_false, false_and, or_false, false_or] <;> omega), fun a1 h1 => by cases (R_r0_1.symm.trans h1); first | omega | (simp only [e140, e141, e142, e143, e144, e145, e146, e148, e149, k0_r0_1_0, k0_r0_1_1, k0_r0_1_2, k0_r0_1_3, k0_r0_1_4, k0_r0_1_5, k0_r0_11, and_true, true_and, or_true, true_or, and_false, false_and, or_false, false_or] <;> omega), fun a1 h1 => by cases (R_r0_1.symm.trans h1); first | omega | (simp only [e140, e141, e142, e143, e144, e145, e146, e148, e149, k0_r0_1_0, k0_r0_1_1, k0_r0_1_2, k0_r0_1_3, k0_r0_1_4, k0_r0_1_5, k0_r0_11, and_true, true_and, or_true, true_or, and_false, false_and, or_false, false_or] <;> omega), fun a1 h1 => by cases (R_r0_1.symm.trans h1); first | omega | (simp only [e140, e141, e142, e143, e144, e145, e146, e148, e149, k0_r0_1_0, k0_r0_1_1, k0_r0_1_2, k0_r0_1_3, k0_r0_1_4, k0_r0_1_5, k0_r0_11, and_true, true_and, or_true, true_or, and_false, false_and, or_false, false_or] <;> omega), fun a1 h1 => by cases (R_r0_1.symm.trans h1); first | omega | (simp only [e140, e141, e142, e143, e144, e145, e146, e148, e149, k0_r0_1_0, k0_r0_1_1, k0_r0_1_2, k0_r0_1_3, k0_r0_1_4, k0_r0_1_5, k0_r0_11, and_true, true_and, or_true, true_or, and_false, false_and, or_false, false_or] <;> omega), fun a1 a10 h1 h10 => by cases (R_r0_1.symm.trans h1); cases (R_r0_10.symm.trans h10); simp only [k0_r0_11]; exact FMX.y (by rw [e142]; omega) ff80_7 hu131 hu138 (by omega) k0_r0_1_1 (by omega) (by omega) (by omega) (by omega) (by rw [k0_r0_1_0]), hI138, (CM.cons S4 (CM.cons S31 (CM.cons S54 (CM.cons S72 (CM.cons S91 (CM.cons S125 (CM.mono S139 (by decide) (by decide)) (by decide) (by decide)) (by decide) (by decide)) (by decide) (by decide)) (by decide) (by decide)) (by decide) (by decide)) (by decide) (by decide))⟩
          refine k_aload_n C rfl rfl rfl ?_
          refine g_R C rfl rfl rfl T_r0 rfl R_r0_1 ?_
          refine k_iload_n C rfl rfl rfl ?_
          refine c_SI C (a_X12_formAt (by omega) (by omega)) rfl rfl rfl rfl rfl rfl rfl (Nat.le_of_ble_eq_true rfl) (Nat.le_of_ble_eq_true rfl) (Nat.le_of_ble_eq_true rfl) ?_
          rintro x150 _ _ ⟨o0x150, o1x150, p0x150, rfl, rfl⟩
          have gx150 := rg x150
          try simp only [e117, e118, e119, e94, e98, e102, e106, e110, e114] at p0x150
          try have q0x150 := congrArg Int32.toInt p0x150
          refine z_iconst C (z := 1) rfl rfl rfl (fun x151 ex151 => ?_)
          refine z_iadd C rfl rfl ⟨by omega, by omega⟩ (fun x152 ex152 => ?_)
          refine k_iload_n C rfl rfl rfl ?_
          refine z_iadd C rfl rfl ⟨by omega, by omega⟩ (fun x153 ex153 => ?_)
          refine k_aload_n C rfl rfl rfl ?_
          refine k_aload_n C rfl rfl rfl ?_
          refine g_R C rfl rfl rfl T_r0 rfl R_r0_10 ?_
          refine k_iload_n C rfl rfl rfl ?_
          obtain ⟨T_r0_10, N_r0_10, A_r0_10⟩ := id H_r0_10
          refine z_aB C rfl rfl T_r0_10 N_r0_10 (by omega) (by omega) (fun x154 ex154 => ?_)
          have gx154 := rg x154
          have hb106 := ex154
          have ht10 := CM.j0 (W := [0, 11, 12, 13]) (WA := [1]) (CM.cons S4 (CM.cons S31 (CM.cons S54 (CM.cons S72 (CM.mono S91 (by decide) (by decide)) (by decide) (by decide)) (by decide) (by decide)) (by decide) (by decide)) (by decide) (by decide)) R_r0_10 (by decide)
          rw [ht10] at hb106
          refine z_sipush C (z := 255) rfl rfl rfl (fun x155 ex155 => ?_)
          refine z_iand255 C rfl rfl (by omega) (fun x156 ex156 => ?_)
          have gx156 := rg x156
          have m110 := ex156
          refine z_i2l C rfl rfl (fun lg157 elg157 => ?_)
          have hl112 := elg157
          refine c_VI C (a_X12_mod_e hI92 H_r0) rfl rfl rfl rfl rfl ⟨_, rfl, rfl, T_r0, Nat.le_of_ble_eq_true rfl⟩ rfl rfl (Nat.le_of_ble_eq_true rfl) (Nat.le_of_ble_eq_true rfl) (Nat.le_of_ble_eq_true rfl) ?_
          rintro x158 _ _ ⟨o0x158, o1x158, p0x158, p1x158, rfl, rfl⟩
          have p0x158 := p0x158 r0_1 R_r0_1
          have p1x158 := p1x158 r0_1 R_r0_1
          have gx158 := rg x158
          try simp only [e117, e118, e119, e94, e98, e102, e106, e110, e114, ex154] at p0x158
          try have q0x158 := congrArg Int32.toInt p0x158
          try simp only [e117, e118, e119, e94, e98, e102, e106, e110, e114, ex154] at p1x158
          try have q1x158 := congrArg Int32.toInt p1x158
          have hm112 := p1x158
          refine z_sI C rfl rfl T_r0_1 N_r0_1 (by omega) (by omega) (fun I159 uI159 => ?_)
          have hI159 : IM R r0 I159 := IM.arr hI92 G_r0 R_r0_1 ⟨(fun h => absurd h (by decide)), (fun h => absurd h (by decide)), (fun h => absurd h (by decide))⟩ (fun _ => WOK.num (IM.w hI92 R_r0_1) (f := w_r0_1_1) (k := x88) ⟨by omega, by omega⟩ ⟨by omega, by omega⟩ (by omega) (by rw [e94]; omega) (by rw [e94]; omega)) uI159
          have S160 : CM A R r0 [] [1] I86 L87 I159 L87 := CM.a G_r0 R_r0_1 A_r0_1 uI159
          have e161 := u2_n uI159 (fun e => (mF.ne G_r0 R_r0_1) e.symm) e117
          have e162 := u2_n uI159 (fun e => (mF.ne G_r0 R_r0_1) e.symm) e118
          have e163 := u2_n uI159 (fun e => (mF.ne G_r0 R_r0_1) e.symm) e119
          have e164 := u2_j uI159 (by first | decide | exact ncne (by omega) (by omega) (by omega) | exact nckn (by omega) (by omega) | exact (nckn (by omega) (by omega)).symm) e94
          have e165 := u2_j uI159 (by first | decide | exact ncne (by omega) (by omega) (by omega) | exact nckn (by omega) (by omega) | exact (nckn (by omega) (by omega)).symm) e98
          have e166 := u2_j uI159 (by first | decide | exact ncne (by omega) (by omega) (by omega) | exact nckn (by omega) (by omega) | exact (nckn (by omega) (by omega)).symm) e102
          have e167 := u2_j uI159 (by first | decide | exact ncne (by omega) (by omega) (by omega) | exact nckn (by omega) (by omega) | exact (nckn (by omega) (by omega)).symm) e106
          have e168 := u2_j uI159 (by first | decide | exact ncne (by omega) (by omega) (by omega) | exact nckn (by omega) (by omega) | exact (nckn (by omega) (by omega)).symm) e110
          have e169 := u2_j uI159 (by first | decide | exact ncne (by omega) (by omega) (by omega) | exact nckn (by omega) (by omega) | exact (nckn (by omega) (by omega)).symm) e114
          have e170 := u2_n uI159 (mF.nq G_r0 R_r0_10 R_r0_1 (by decide)) ex154
          have e171 := u2_e uI159
          have hu115 := uI159
          refine z_iinc C (z := 1) (lw := fun x172 => [(2, .int x172), (0, .ref r0), (1, .int w_r0_1_1)]) rfl rfl rfl (Nat.le_of_ble_eq_true rfl) rfl ⟨by omega, by omega⟩ (fun _ => rfl) (fun x172 ex172 => ?_)
          show V 119 [(2, .int x172), (0, .ref r0), (1, .int w_r0_1_1)] _ _ _ _
          refine k_goto C (pc2 := 80) rfl rfl ?_
          refine k_sub S [(0, .ref r0), (1, .int w_r0_1_1), (2, .int x172)] (List.forall_mem_cons.mpr ⟨List.mem_of_getElem? (i := 1) rfl, List.forall_mem_cons.mpr ⟨List.mem_of_getElem? (i := 2) rfl, List.forall_mem_cons.mpr ⟨List.mem_of_getElem? (i := 0) rfl, fun _ h => nomatch h⟩⟩⟩) ?_
          exact ihJ84 _ (MN.lt hmnn85 (by omega) (by omega)) I159 L87 x172 x93 x97 x101 x105 x109 x113 rfl hI159 (CM.cons S91 (CM.mono S160 (by decide) (by decide)) (by decide) (by decide)) (by omega) (by omega) e164 (by omega) (by omega) e165 (by omega) (by omega) e166 (by omega) (by omega) e167 (by omega) (by omega) e168 (by omega) (by omega) e169 (by omega) (by omega) (by omega) (by omega) (by omega) (by omega) (by omega) (by omega) (by exact FRM.s ff80_6 hu115 (by omega) (by omega) (by omega) (by omega) (by omega) (by omega) (by omega)) (by exact FMW.s ff80_7 hu115 hm112 (by first | rfl | omega) hl112 m110 hb106 (by omega) (by omega) (by omega) (by omega)) (by omega)
      refine k_istore_n C (lw := [(2, .int x83), (1, .int w_r0_1_1), (0, .ref r0)]) rfl rfl (Nat.le_of_ble_eq_true rfl) rfl ?_
      refine k_sub S [(0, .ref r0), (1, .int w_r0_1_1), (2, .int x83)] (List.forall_mem_cons.mpr ⟨List.mem_of_getElem? (i := 2) rfl, List.forall_mem_cons.mpr ⟨List.mem_of_getElem? (i := 1) rfl, List.forall_mem_cons.mpr ⟨List.mem_of_getElem? (i := 0) rfl, fun _ h => nomatch h⟩⟩⟩) ?_
      exact J84 _ I71 L53 x83 w_r0_1_0 w_r0_1_1 w_r0_1_2 w_r0_1_3 w_r0_1_4 w_r0_1_5 rfl hI71 CM.rf (by omega) (by omega) e73 (by omega) (by omega) e74 (by omega) (by omega) e75 (by omega) (by omega) e76 (by omega) (by omega) e77 (by omega) (by omega) e78 (by omega) (by omega) (by omega) (by omega) (by omega) (by omega) (by omega) (by omega) (by exact FRM.z hu77 (by omega) (by omega) (by omega) (by omega)) (by exact FMW.z hw77 hu77 (by omega) (by omega) (by omega) (by omega)) (by omega)
    first | (replace p0x28 := p0x28.resolve_left (by omega)) | (replace p0x28 := p0x28.resolve_right (by omega)) | (replace p0x28 := p0x28 (by omega)) | (have hno := imp_no p0x28 (by omega); clear hno; clear p0x28) | skip
    first | (replace p1x28 := p1x28.resolve_left (by omega)) | (replace p1x28 := p1x28.resolve_right (by omega)) | (replace p1x28 := p1x28 (by omega)) | (have hno := imp_no p1x28 (by omega); clear hno; clear p1x28) | skip
    refine z_iconst C (z := 1) rfl rfl rfl (fun x173 ex173 => ?_)
    refine k_goto C (pc2 := 47) rfl rfl ?_
    refine z_iconst C (z := 2) rfl rfl rfl (fun x174 ex174 => ?_)
    have q175 : x173.toNatClampNeg = 1 := nck (by omega)
    have q176 : x174.toNatClampNeg = 2 := nck (by omega)
    refine c_VI C (a_X12_throwsIf_e hI29 H_r0 (by omega) (by omega)) rfl rfl rfl rfl rfl ⟨_, rfl, rfl, T_r0, Nat.le_of_ble_eq_true rfl⟩ rfl rfl (Nat.le_of_ble_eq_true rfl) (Nat.le_of_ble_eq_true rfl) (Nat.le_of_ble_eq_true rfl) ?_
    rintro x177 I178 L179 ⟨o0x177, o1x177, p0x177, p1x177, hI178, S180⟩
    have e181 := CM.j S180 R_r0_1 (by decide) e32
    have e182 := CM.j S180 R_r0_1 (by decide) e33
    have e183 := CM.j S180 R_r0_1 (by decide) e34
    have e184 := CM.j S180 R_r0_1 (by decide) e35
    have e185 := CM.j S180 R_r0_1 (by decide) e36
    have e186 := CM.j S180 R_r0_1 (by decide) e37
    have e187 := CM.k S180 (by decide) e38
    have e188 := CM.k S180 (by decide) e39
    have gx177 := rg x177
    obtain ⟨x190, e191⟩ : ∃ x, I178 r0 0 = x := ⟨_, rfl⟩
    have gx190 := rg x190
    try simp only [q175, q176, e32, e33, e34, e35, e36, e37, e38, e39, e42, e191] at p0x177
    try have q0x177 := congrArg Int32.toInt p0x177
    try simp only [q175, q176, e32, e33, e34, e35, e36, e37, e38, e39, e42, e191] at p1x177
    try have q1x177 := congrArg Int32.toInt p1x177
    refine b_if_eq C (t := 56) rfl rfl rfl (fun c192 => by exfalso; omega) (fun c192 => ?_)
    first | (replace p0x177 := p0x177.resolve_left (by omega)) | (replace p0x177 := p0x177.resolve_right (by omega)) | (replace p0x177 := p0x177 (by omega)) | (have hno := imp_no p0x177 (by omega); clear hno; clear p0x177) | skip
    first | (replace p1x177 := p1x177.resolve_left (by omega)) | (replace p1x177 := p1x177.resolve_right (by omega)) | (replace p1x177 := p1x177 (by omega)) | (have hno := imp_no p1x177 (by omega); clear hno; clear p1x177) | skip
    refine z_iconst C (z := 0) rfl rfl rfl (fun x193 ex193 => ?_)
    exact k_iret C rfl (Or.inl rfl) (Nat.le_of_ble_eq_true rfl) (Nat.le_of_ble_eq_true rfl) ⟨_, _, _, rfl, rfl, by omega, by omega, fun a1 h1 => by cases (R_r0_1.symm.trans h1); first | omega | (simp only [e181, e182, e183, e184, e185, e186, e187, e188, e191, k0_r0_1_0, k0_r0_1_1, k0_r0_1_2, k0_r0_1_3, k0_r0_1_4, k0_r0_1_5, k0_r0_11, and_true, true_and, or_true, true_or, and_false, false_and, or_false, false_or] <;> omega), by first | omega | (simp only [e181, e182, e183, e184, e185, e186, e187, e188, e191, k0_r0_1_0, k0_r0_1_1, k0_r0_1_2, k0_r0_1_3, k0_r0_1_4, k0_r0_1_5, k0_r0_11, and_true, true_and, or_true, true_or, and_false, false_and, or_false, false_or] <;> omega), fun a1 h1 => by cases (R_r0_1.symm.trans h1); first | omega | (simp only [e181, e182, e183, e184, e185, e186, e187, e188, e191, k0_r0_1_0, k0_r0_1_1, k0_r0_1_2, k0_r0_1_3, k0_r0_1_4, k0_r0_1_5, k0_r0_11, and_true, true_and, or_true, true_or, and_false, false_and, or_false, false_or] <;> omega), fun a1 h1 => by cases (R_r0_1.symm.trans h1); first | omega | (simp only [e181, e182, e183, e184, e185, e186, e187, e188, e191, k0_r0_1_0, k0_r0_1_1, k0_r0_1_2, k0_r0_1_3, k0_r0_1_4, k0_r0_1_5, k0_r0_11, and_true, true_and, or_true, true_or, and_false, false_and, or_false, false_or] <;> omega), fun a1 h1 => by cases (R_r0_1.symm.trans h1); first | omega | (simp only [e181, e182, e183, e184, e185, e186, e187, e188, e191, k0_r0_1_0, k0_r0_1_1, k0_r0_1_2, k0_r0_1_3, k0_r0_1_4, k0_r0_1_5, k0_r0_11, and_true, true_and, or_true, true_or, and_false, false_and, or_false, false_or] <;> omega), fun a1 h1 => by cases (R_r0_1.symm.trans h1); first | omega | (simp only [e181, e182, e183, e184, e185, e186, e187, e188, e191, k0_r0_1_0, k0_r0_1_1, k0_r0_1_2, k0_r0_1_3, k0_r0_1_4, k0_r0_1_5, k0_r0_11, and_true, true_and, or_true, true_or, and_false, false_and, or_false, false_or] <;> omega), fun a1 a10 h1 h10 => by cases (R_r0_1.symm.trans h1); cases (R_r0_10.symm.trans h10); exact FMX.n (by rw [e191]; omega) (CM.j0 (W := [0, 11, 12, 13]) (WA := []) (CM.cons S4 (CM.cons S31 (CM.mono S180 (by decide) (by decide)) (by decide) (by decide)) (by decide) (by decide)) R_r0_1 (by decide)), hI178, (CM.cons S4 (CM.cons S31 (CM.mono S180 (by decide) (by decide)) (by decide) (by decide)) (by decide) (by decide))⟩
  first | (replace p0x22 := p0x22.resolve_left (by omega)) | (replace p0x22 := p0x22.resolve_right (by omega)) | (replace p0x22 := p0x22 (by omega)) | (have hno := imp_no p0x22 (by omega); clear hno; clear p0x22) | skip
  refine z_iconst C (z := 1) rfl rfl rfl (fun x194 ex194 => ?_)
  refine k_goto C (pc2 := 23) rfl rfl ?_
  refine z_iconst C (z := 1) rfl rfl rfl (fun x195 ex195 => ?_)
  have q196 : x194.toNatClampNeg = 1 := nck (by omega)
  have q197 : x195.toNatClampNeg = 1 := nck (by omega)
  refine c_VI C (a_X12_throwsIf_e hI2 H_r0 (by omega) (by omega)) rfl rfl rfl rfl rfl ⟨_, rfl, rfl, T_r0, Nat.le_of_ble_eq_true rfl⟩ rfl rfl (Nat.le_of_ble_eq_true rfl) (Nat.le_of_ble_eq_true rfl) (Nat.le_of_ble_eq_true rfl) ?_
  rintro x198 I199 L200 ⟨o0x198, o1x198, p0x198, p1x198, hI199, S201⟩
  have e202 := CM.j S201 R_r0_1 (by decide) e5
  have e203 := CM.j S201 R_r0_1 (by decide) e6
  have e204 := CM.j S201 R_r0_1 (by decide) e7
  have e205 := CM.j S201 R_r0_1 (by decide) e8
  have e206 := CM.j S201 R_r0_1 (by decide) e9
  have e207 := CM.j S201 R_r0_1 (by decide) e10
  have e208 := CM.k S201 (by decide) e13
  have e209 := CM.k S201 (by decide) e15
  have gx198 := rg x198
  obtain ⟨x211, e212⟩ : ∃ x, I199 r0 0 = x := ⟨_, rfl⟩
  have gx211 := rg x211
  try simp only [q196, q197, e5, e6, e7, e8, e9, e10, e13, e15, e17, e212] at p0x198
  try have q0x198 := congrArg Int32.toInt p0x198
  try simp only [q196, q197, e5, e6, e7, e8, e9, e10, e13, e15, e17, e212] at p1x198
  try have q1x198 := congrArg Int32.toInt p1x198
  refine b_if_ne C (t := 54) rfl rfl rfl (fun c213 => ?_) (fun c213 => by exfalso; omega)
  first | (replace p0x198 := p0x198.resolve_left (by omega)) | (replace p0x198 := p0x198.resolve_right (by omega)) | (replace p0x198 := p0x198 (by omega)) | (have hno := imp_no p0x198 (by omega); clear hno; clear p0x198) | skip
  first | (replace p1x198 := p1x198.resolve_left (by omega)) | (replace p1x198 := p1x198.resolve_right (by omega)) | (replace p1x198 := p1x198 (by omega)) | (have hno := imp_no p1x198 (by omega); clear hno; clear p1x198) | skip
  refine z_iconst C (z := 0) rfl rfl rfl (fun x214 ex214 => ?_)
  exact k_iret C rfl (Or.inl rfl) (Nat.le_of_ble_eq_true rfl) (Nat.le_of_ble_eq_true rfl) ⟨_, _, _, rfl, rfl, by omega, by omega, fun a1 h1 => by cases (R_r0_1.symm.trans h1); first | omega | (simp only [e202, e203, e204, e205, e206, e207, e208, e209, e212, k0_r0_1_0, k0_r0_1_1, k0_r0_1_2, k0_r0_1_3, k0_r0_1_4, k0_r0_1_5, k0_r0_11, and_true, true_and, or_true, true_or, and_false, false_and, or_false, false_or] <;> omega), by first | omega | (simp only [e202, e203, e204, e205, e206, e207, e208, e209, e212, k0_r0_1_0, k0_r0_1_1, k0_r0_1_2, k0_r0_1_3, k0_r0_1_4, k0_r0_1_5, k0_r0_11, and_true, true_and, or_true, true_or, and_false, false_and, or_false, false_or] <;> omega), fun a1 h1 => by cases (R_r0_1.symm.trans h1); first | omega | (simp only [e202, e203, e204, e205, e206, e207, e208, e209, e212, k0_r0_1_0, k0_r0_1_1, k0_r0_1_2, k0_r0_1_3, k0_r0_1_4, k0_r0_1_5, k0_r0_11, and_true, true_and, or_true, true_or, and_false, false_and, or_false, false_or] <;> omega), fun a1 h1 => by cases (R_r0_1.symm.trans h1); first | omega | (simp only [e202, e203, e204, e205, e206, e207, e208, e209, e212, k0_r0_1_0, k0_r0_1_1, k0_r0_1_2, k0_r0_1_3, k0_r0_1_4, k0_r0_1_5, k0_r0_11, and_true, true_and, or_true, true_or, and_false, false_and, or_false, false_or] <;> omega), fun a1 h1 => by cases (R_r0_1.symm.trans h1); first | omega | (simp only [e202, e203, e204, e205, e206, e207, e208, e209, e212, k0_r0_1_0, k0_r0_1_1, k0_r0_1_2, k0_r0_1_3, k0_r0_1_4, k0_r0_1_5, k0_r0_11, and_true, true_and, or_true, true_or, and_false, false_and, or_false, false_or] <;> omega), fun a1 h1 => by cases (R_r0_1.symm.trans h1); first | omega | (simp only [e202, e203, e204, e205, e206, e207, e208, e209, e212, k0_r0_1_0, k0_r0_1_1, k0_r0_1_2, k0_r0_1_3, k0_r0_1_4, k0_r0_1_5, k0_r0_11, and_true, true_and, or_true, true_or, and_false, false_and, or_false, false_or] <;> omega), fun a1 a10 h1 h10 => by cases (R_r0_1.symm.trans h1); cases (R_r0_10.symm.trans h10); exact FMX.n (by rw [e212]; omega) (CM.j0 (W := [0, 11, 12, 13]) (WA := []) (CM.cons S4 (CM.mono S201 (by decide) (by decide)) (by decide) (by decide)) R_r0_1 (by decide)), hI199, (CM.cons S4 (CM.mono S201 (by decide) (by decide)) (by decide) (by decide))⟩

