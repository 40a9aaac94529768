/-! the reference: exact answers where tables are tried -/
def RI (I : IT) (nu r k : Nat) : Int := (I nu (41 * r + k)).toInt
def PLD (x a b p : Int) : Prop := x = (a + b).tmod p
theorem PLD.of {w x y : Int32} {a b p : Int} (h : RMD w x y) (e : x.toInt = a + b) (ep : y.toInt = p) : PLD w.toInt a b p := by
  unfold PLD; rw [← e]; have h1 : w.toInt = x.toInt.tmod y.toInt := h; rw [ep] at h1; exact h1
def IFF (x : Int) (P : Prop) : Prop := (x = 1 → P) ∧ (x = 0 → ¬ P)
def RLK (I : IT) (dg nu a b : Nat) : Prop := (I dg a).toInt = (I dg b).toInt ∧ ∀ k : Nat, (k : Int) ≤ (I dg a).toInt → RI I nu a k = RI I nu b k
def LKL (I : IT) (dg nu a b : Nat) (is k : Int) : Prop := (is = 1 → (I dg a).toInt = (I dg b).toInt ∧ ∀ j : Nat, (j : Int) < k → RI I nu a j = RI I nu b j) ∧ (is = 0 → ¬ RLK I dg nu a b)
theorem LKL.z1 {I : IT} {dg nu a b : Nat} {is k : Int} (h : (I dg a).toInt = (I dg b).toInt) (hi : is = 1) (hk : k = 0) : LKL I dg nu a b is k := ⟨fun _ => ⟨h, fun j hj => by omega⟩, fun h => by omega⟩
theorem LKL.z0 {I : IT} {dg nu a b : Nat} {is k : Int} (h : (I dg a).toInt ≠ (I dg b).toInt) (hi : is = 0) : LKL I dg nu a b is k := ⟨fun h => by omega, fun _ g => h g.1⟩
theorem LKL.s1 {I : IT} {dg nu a b : Nat} {is is' : Int} {k k' u v : Int32} (h : LKL I dg nu a b is k.toInt) (hi : is = 1) (h0 : 0 ≤ k.toInt) (oa : u.toInt = (I nu (41 * a + k.toNatClampNeg)).toInt) (ob : v.toInt = (I nu (41 * b + k.toNatClampNeg)).toInt) (e : u.toInt = v.toInt) (hi' : is' = 1) (hk : k'.toInt = k.toInt + 1) : LKL I dg nu a b is' k'.toInt := by
  have k1 := ncz h0
  refine ⟨fun _ => ⟨(h.1 hi).1, fun j hj => ?_⟩, fun h => by omega⟩
  by_cases q : j = k.toNatClampNeg
  · subst q; show (I nu _).toInt = (I nu _).toInt; omega
  · exact (h.1 hi).2 j (by omega)
theorem LKL.s0 {I : IT} {dg nu a b : Nat} {is' : Int} {k k' u v : Int32} (h0 : 0 ≤ k.toInt) (hk : k.toInt ≤ (I dg a).toInt) (oa : u.toInt = (I nu (41 * a + k.toNatClampNeg)).toInt) (ob : v.toInt = (I nu (41 * b + k.toNatClampNeg)).toInt) (e : u.toInt ≠ v.toInt) (hi' : is' = 0) : LKL I dg nu a b is' k'.toInt := by
  have k1 := ncz h0
  refine ⟨fun h => by omega, fun _ g => ?_⟩
  have h2 : (I nu (41 * a + k.toNatClampNeg)).toInt = (I nu (41 * b + k.toNatClampNeg)).toInt := g.2 k.toNatClampNeg (by omega)
  omega
theorem LKL.e1 {I : IT} {dg nu a b : Nat} {is k : Int} (h : LKL I dg nu a b is k) (hk : (I dg a).toInt < k) : IFF is (RLK I dg nu a b) := ⟨fun q => ⟨(h.1 q).1, fun j hj => (h.1 q).2 j (by omega)⟩, h.2⟩
theorem LKL.e0 {I : IT} {dg nu a b : Nat} {is k : Int} (h : LKL I dg nu a b is k) (hi : is = 0) : IFF is (RLK I dg nu a b) := ⟨fun q => by omega, h.2⟩
def NQA (I : IT) (dg nu r : Nat) : Prop := ∀ k : Nat, (k : Int) ≤ (I dg r).toInt → RI I nu r k = 0
def NQL (I : IT) (nu r : Nat) (is k : Int) : Prop := (is = 1 → ∀ j : Nat, (j : Int) < k → RI I nu r j = 0) ∧ (is = 0 → ∃ j : Nat, (j : Int) < k ∧ RI I nu r j ≠ 0)
theorem NQL.z {I : IT} {nu r : Nat} {is k : Int} (hi : is = 1) (hk : k = 0) : NQL I nu r is k := ⟨fun _ j hj => by omega, fun h => by omega⟩
theorem NQL.s1 {I : IT} {nu r : Nat} {is is' : Int} {k k' u : Int32} (h : NQL I nu r is k.toInt) (hi : is = 1) (h0 : 0 ≤ k.toInt) (oa : u.toInt = (I nu (41 * r + k.toNatClampNeg)).toInt) (e : u.toInt = 0) (hi' : is' = 1) (hk : k'.toInt = k.toInt + 1) : NQL I nu r is' k'.toInt := by
  have k1 := ncz h0
  refine ⟨fun _ j hj => ?_, fun h => by omega⟩
  by_cases q : j = k.toNatClampNeg
  · subst q; show (I nu _).toInt = 0; omega
  · exact h.1 hi j (by omega)
theorem NQL.s0 {I : IT} {nu r : Nat} {is' : Int} {k k' u : Int32} (h0 : 0 ≤ k.toInt) (oa : u.toInt = (I nu (41 * r + k.toNatClampNeg)).toInt) (e : u.toInt ≠ 0) (hi' : is' = 0) (hk : k'.toInt = k.toInt + 1) : NQL I nu r is' k'.toInt := by
  have k1 := ncz h0
  exact ⟨fun h => by omega, fun _ => ⟨k.toNatClampNeg, by omega, by show (I nu _).toInt ≠ 0; omega⟩⟩
theorem NQL.n {I : IT} {nu r : Nat} {is is' k : Int} {k' : Int} (h : NQL I nu r is k) (hi : is = 0) (hi' : is' = 0) (hk : k ≤ k') : NQL I nu r is' k' := by
  refine ⟨fun h => by omega, fun _ => ?_⟩
  obtain ⟨j, h1, h2⟩ := h.2 hi
  exact ⟨j, by omega, h2⟩
theorem NQL.e {I : IT} {dg nu r : Nat} {is k D : Int} (h : NQL I nu r is k) (hD : (I dg r).toInt = D) (hk : k = D + 1) : IFF is (NQA I dg nu r) := by
  refine ⟨fun q j hj => h.1 q j (by omega), fun q g => ?_⟩
  obtain ⟨j, h1, h2⟩ := h.2 q
  exact h2 (g j (by omega))
def TKE (I' I : IT) (w nu r b : Nat) (D : Int) : Prop := ∀ j : Nat, (j : Int) ≤ D → RI I' nu r j = (I w (b + j)).toInt
theorem TKE.z {I' I : IT} {w nu r b : Nat} {k : Int} (h : k = 0) : TKE I' I w nu r b (k - 1) := fun j hj => by omega
theorem TKE.s {I1 I' I : IT} {w nu r b : Nat} {k k' v : Int32} (h : TKE I1 I w nu r b (k.toInt - 1)) (h0 : 0 ≤ k.toInt) (hN : v.toInt = (I w (b + k.toNatClampNeg)).toInt) (hP : PUTD I1 I' nu r k.toNatClampNeg v) (hk : k'.toInt = k.toInt + 1) : TKE I' I w nu r b (k'.toInt - 1) := fun j hj => by
  have k1 := ncz h0
  show (I' nu _).toInt = _
  by_cases q : j = k.toNatClampNeg
  · subst q; rw [hP.1]; exact hN
  · rw [hP.2 _ (by omega)]; exact h j (by omega)
theorem TKE.le {I' I : IT} {w nu r b : Nat} {D D' : Int} (h : TKE I' I w nu r b D) (e : D' ≤ D) : TKE I' I w nu r b D' := fun j hj => h j (by omega)
/-- a row widened -/
def ctF (D : Int) (f : Nat → Int) (j : Nat) : Int := if (j : Int) ≤ D then f j else 0
def wdF (p u v : Int) (f : Nat → Int) (k : Nat) : Int := ((f k * u).tmod p + (if k = 0 then 0 else (f (k - 1) * v).tmod p)).tmod p
def WDE (I I' : IT) (nu r : Nat) (D u v p : Int) : Prop := ∀ j : Nat, (j : Int) ≤ D + 1 → RI I' nu r j = wdF p u v (ctF D (RI I nu r)) j
def WDL (I I' : IT) (nu r : Nat) (D u v p l : Int) : Prop := (∀ j : Nat, l < j → (j : Int) ≤ D + 1 → RI I' nu r j = wdF p u v (ctF D (RI I nu r)) j) ∧ ∀ j : Nat, (j : Int) ≤ l → RI I' nu r j = ctF D (RI I nu r) j
theorem WDL.z {I I1 I' : IT} {nu r : Nat} {D u v p : Int} {k z l : Int32} (w : PUTD I I1 nu r k.toNatClampNeg z) (e : I' nu = I1 nu) (hz : z.toInt = 0) (h0 : 0 ≤ k.toInt) (hk : k.toInt = D + 1) (hl : l.toInt = D + 1) : WDL I I' nu r D u v p l.toInt := by
  have k1 := ncz h0
  refine ⟨fun j h1 h2 => by omega, fun j hj => ?_⟩
  show (I' nu _).toInt = _
  rw [e]
  unfold ctF
  by_cases q : j = k.toNatClampNeg
  · subst q; rw [w.1, if_neg (by omega)]; exact hz
  · rw [w.2 _ (by omega), if_pos (by omega)]; rfl
theorem WDL.s {I I1 I' : IT} {nu r : Nat} {D u v p : Int} {l l1 l' a b t s w : Int32} (h : WDL I I1 nu r D u v p l.toInt) (oa : a.toInt = (I1 nu (41 * r + l.toNatClampNeg)).toInt) (ta : TMD t.toInt a.toInt u p) (ob : b.toInt = (I1 nu (41 * r + l1.toNatClampNeg)).toInt) (tb : TMD s.toInt b.toInt v p) (pl : PLD w.toInt t.toInt s.toInt p) (hP : PUTD I1 I' nu r l.toNatClampNeg w) (hl : 0 < l.toInt) (hl1 : l1.toInt = l.toInt - 1) (hl' : l'.toInt = l.toInt - 1) (hD : l.toInt ≤ D + 1) : WDL I I' nu r D u v p l'.toInt := by
  have k1 := ncz (x := l) (by omega)
  have k2 := ncz (x := l1) (by omega)
  refine ⟨fun j h1 h2 => ?_, fun j hj => ?_⟩
  · show (I' nu _).toInt = _
    by_cases q : j = l.toNatClampNeg
    · subst q
      rw [hP.1]
      unfold PLD at pl; unfold TMD at ta tb
      rw [pl, ta, tb, oa, ob]
      have e1 : (I1 nu (41 * r + l.toNatClampNeg)).toInt = ctF D (RI I nu r) l.toNatClampNeg := h.2 _ (by omega)
      have e2 : (I1 nu (41 * r + l1.toNatClampNeg)).toInt = ctF D (RI I nu r) l1.toNatClampNeg := h.2 _ (by omega)
      rw [e1, e2]
      unfold wdF
      rw [if_neg (by omega), show l1.toNatClampNeg = l.toNatClampNeg - 1 from by omega]
    · rw [hP.2 _ (by omega)]; exact h.1 j (by omega) h2
  · show (I' nu _).toInt = _
    rw [hP.2 _ (by omega)]; exact h.2 j (by omega)
theorem WDL.s0 {I I1 I' : IT} {nu r : Nat} {D u v p : Int} {l l' a t s w : Int32} (h : WDL I I1 nu r D u v p l.toInt) (oa : a.toInt = (I1 nu (41 * r + l.toNatClampNeg)).toInt) (ta : TMD t.toInt a.toInt u p) (hs : s.toInt = 0) (pl : PLD w.toInt t.toInt s.toInt p) (hP : PUTD I1 I' nu r 0 w) (hl : l.toInt = 0) (hl' : l'.toInt = l.toInt - 1) : WDL I I' nu r D u v p l'.toInt := by
  have k1 := nck (x := l) (n := 0) hl
  refine ⟨fun j h1 h2 => ?_, fun j hj => by omega⟩
  show (I' nu _).toInt = _
  rw [k1] at oa
  by_cases q : j = 0
  · subst q
    rw [hP.1]
    unfold PLD at pl; unfold TMD at ta
    rw [pl, ta, oa, hs]
    have e1 : (I1 nu (41 * r + 0)).toInt = ctF D (RI I nu r) 0 := h.2 _ (by omega)
    rw [e1]; rfl
  · rw [hP.2 _ (by omega)]; exact h.1 j (by omega) h2
theorem WDL.e {I I' : IT} {nu r : Nat} {D u v p l : Int} (h : WDL I I' nu r D u v p l) (hl : l < 0) : WDE I I' nu r D u v p := fun j hj => h.1 j (by omega) hj
/-- mixing -/
def wdN (p u v : Int) : Nat → Nat → (Nat → Int) → Nat → Int
  | 0, _, f => f
  | n + 1, D, f => wdF p u v (ctF ((D + n : Nat) : Int) (wdN p u v n D f))
def mxG (p a b c d : Int) (D : Nat) (f : Nat → Int) (k : Nat) : Nat → Int := wdN p c d k (D - k) (wdN p a b (D - k) 0 (fun _ => f k))
def mxS (p a b c d : Int) (D : Nat) (f : Nat → Int) : Nat → Nat → Int
  | 0, _ => 0
  | k + 1, i => (mxS p a b c d D f k i + mxG p a b c d D f k i).tmod p
theorem mxS.s {p a b c d : Int} {D : Nat} {f : Nat → Int} {k i : Nat} : mxS p a b c d D f (k + 1) i = (mxS p a b c d D f k i + mxG p a b c d D f k i).tmod p := rfl
def RWF (I : IT) (nu r : Nat) (D : Int) (g : Nat → Int) : Prop := ∀ j : Nat, (j : Int) ≤ D → RI I nu r j = g j
theorem RWF.le {I : IT} {nu r : Nat} {D D' : Int} {g : Nat → Int} (h : RWF I nu r D g) (e : D' ≤ D) : RWF I nu r D' g := fun j hj => h j (by omega)
theorem RWF.sm {I I' : IT} {nu r : Nat} {D : Int} {g : Nat → Int} (h : RWF I nu r D g) (e : ∀ k, k < 41 → I' nu (41 * r + k) = I nu (41 * r + k)) (hD : D ≤ 40) : RWF I' nu r D g := fun j hj => by
  show (I' nu _).toInt = _; rw [e j (by omega)]; exact h j hj
theorem RWF.ct {I : IT} {nu r : Nat} {D : Int} {g : Nat → Int} (h : RWF I nu r D g) : ctF D (RI I nu r) = ctF D g := funext fun j => by
  unfold ctF
  by_cases q : (j : Int) ≤ D
  · rw [if_pos q, if_pos q]; exact h j q
  · rw [if_neg q, if_neg q]
theorem RWF.p0 {I I' : IT} {nu r : Nat} {v : Int32} {g : Nat → Int} (w : PUTD I I' nu r 0 v) (e : v.toInt = g 0) : RWF I' nu r 0 g := fun j hj => by
  have : j = 0 := by omega
  subst this
  show (I' nu _).toInt = _; rw [w.1]; exact e
def MXL (I : IT) (nu r : Nat) (D : Int) (g g' : Nat → Int) (l : Int) : Prop := ∀ j : Nat, (j : Int) ≤ D → RI I nu r j = if (j : Int) < l then g' j else g j
theorem MXL.z {I : IT} {nu r : Nat} {D l : Int} {g g' : Nat → Int} (h : RWF I nu r D g) (hl : l = 0) : MXL I nu r D g g' l := fun j hj => by rw [if_neg (by omega)]; exact h j hj
theorem MXL.e {I : IT} {nu r : Nat} {D l : Int} {g g' : Nat → Int} (h : MXL I nu r D g g' l) (hl : D < l) : RWF I nu r D g' := fun j hj => by rw [h j hj, if_pos (by omega)]
theorem MXL.s {I I' : IT} {nu r : Nat} {D p : Int} {g g' h9 : Nat → Int} {l l' a b w : Int32} (h : MXL I nu r D g g' l.toInt) (G : RWF I nu 45 D h9) (oa : a.toInt = (I nu (41 * r + l.toNatClampNeg)).toInt) (ob : b.toInt = (I nu (41 * 45 + l.toNatClampNeg)).toInt) (pl : PLD w.toInt a.toInt b.toInt p) (hP : PUTD I I' nu r l.toNatClampNeg w) (h0 : 0 ≤ l.toInt) (hD : l.toInt ≤ D) (hl : l'.toInt = l.toInt + 1) (hg : ∀ j, g' j = (g j + h9 j).tmod p) : MXL I' nu r D g g' l'.toInt := fun j hj => by
  have k1 := ncz h0
  show (I' nu _).toInt = _
  by_cases q : j = l.toNatClampNeg
  · subst q
    rw [hP.1, if_pos (by omega), hg]
    unfold PLD at pl
    have e1 : (I nu (41 * r + l.toNatClampNeg)).toInt = if ((l.toNatClampNeg : Nat) : Int) < l.toInt then g' l.toNatClampNeg else g l.toNatClampNeg := h _ (by omega)
    rw [if_neg (by omega)] at e1
    have e2 : (I nu (41 * 45 + l.toNatClampNeg)).toInt = h9 l.toNatClampNeg := G _ (by omega)
    rw [pl, oa, ob, e1, e2]
  · rw [hP.2 _ (by omega)]
    have e1 : (I nu (41 * r + j)).toInt = if ((j : Nat) : Int) < l.toInt then g' j else g j := h _ (by omega)
    rw [e1]
    by_cases z : (j : Int) < l.toInt
    · rw [if_pos z, if_pos (by omega)]
    · rw [if_neg z, if_neg (by omega)]
theorem RWF.put {I I' : IT} {nu r r' k : Nat} {D : Int} {g : Nat → Int} {x : Int32} (h : RWF I nu r D g) (w : PUTD I I' nu r' k x) (hk : k < 41) (hD : D ≤ 40) (hn : r ≠ r') : RWF I' nu r D g := fun j hj => by
  show (I' nu _).toInt = _; rw [w.2 _ (by omega)]; exact h j hj
theorem RWF.cg {I : IT} {nu r : Nat} {D D' : Int} {g g' : Nat → Int} (h : RWF I nu r D g) (e : g = g') (eD : D = D') : RWF I nu r D' g' := by rw [← e, ← eD]; exact h
/-- the table 1 0 0 1 -/
theorem tm0 {x p : Int} (h1 : -p < x) (h2 : x < p) : x.tmod p = x := by
  rcases Int.lt_or_le x 0 with h | h
  · have : (-x).tmod p = -x := Int.tmod_eq_of_lt (by omega) (by omega)
    rw [Int.neg_tmod] at this; omega
  · exact Int.tmod_eq_of_lt h h2
theorem wdN.i {p x : Int} (h1 : -p < x) (h2 : x < p) : ∀ n j : Nat, wdN p 1 0 n 0 (fun _ => x) j = if n = 0 then x else if j = 0 then x else 0
  | 0, j => by simp [wdN]
  | n + 1, j => by
    have ih := fun j => wdN.i h1 h2 n j
    show wdF p 1 0 (ctF ((0 + n : Nat) : Int) (wdN p 1 0 n 0 (fun _ => x))) j = _
    unfold wdF ctF
    by_cases q : j = 0
    · subst q
      have i0 := ih 0
      rw [if_pos (by omega), i0]
      by_cases z : n = 0 <;> simp [z, tm0 h1 h2]
    · by_cases z : j ≤ n
      · rw [if_pos (by omega), ih j]
        have : n ≠ 0 := by omega
        simp [q, this]
      · rw [if_neg (by omega)]; simp [q]
theorem wdN.o {p : Int} {D : Nat} {g : Nat → Int} (hg : ∀ j, -p < g j ∧ g j < p) : ∀ n j : Nat, j ≤ D + n → wdN p 0 1 n D g j = if j < n then 0 else g (j - n)
  | 0, j, _ => by simp [wdN]
  | n + 1, j, hj => by
    have ih := fun (j : Nat) (h : j ≤ D + n) => wdN.o (D := D) hg n j h
    show wdF p 0 1 (ctF ((D + n : Nat) : Int) (wdN p 0 1 n D g)) j = _
    unfold wdF
    rw [Int.mul_zero, Int.zero_tmod, Int.zero_add]
    by_cases q : j = 0
    · subst q; simp
    · rw [if_neg q, Int.mul_one]
      unfold ctF
      rw [if_pos (show ((j - 1 : Nat) : Int) ≤ ((D + n : Nat) : Int) by omega), ih (j - 1) (by omega)]
      by_cases z : j < n + 1
      · rw [if_pos z, if_pos (show j - 1 < n by omega)]; simp
      · rw [if_neg z, if_neg (show ¬ j - 1 < n by omega), show j - 1 - n = j - (n + 1) from by omega, tm0 (hg _).1 (hg _).2, tm0 (hg _).1 (hg _).2]
theorem mxG.i {p : Int} (hp : 0 < p) {D : Nat} {f : Nat → Int} {k : Nat} (hk : k ≤ D) (h1 : -p < f k) (h2 : f k < p) (j : Nat) (hj : j ≤ D) : mxG p 1 0 0 1 D f k j = if j = k then f k else 0 := by
  unfold mxG
  have hz := wdN.i h1 h2 (D - k)
  have hb : ∀ j, -p < wdN p 1 0 (D - k) 0 (fun _ => f k) j ∧ wdN p 1 0 (D - k) 0 (fun _ => f k) j < p := fun j => by
    rw [hz j]; split
    · exact ⟨h1, h2⟩
    · split
      · exact ⟨h1, h2⟩
      · omega
  rw [wdN.o hb k j (by omega)]
  by_cases q : j < k
  · rw [if_pos q, if_neg (by omega)]
  · rw [if_neg q, hz]
    by_cases z : D - k = 0
    · rw [if_pos z, if_pos (by omega)]
    · rw [if_neg z]
      by_cases y : j = k
      · rw [if_pos (by omega), if_pos y]
      · rw [if_neg (by omega), if_neg y]
theorem mxS.i {p : Int} (hp : 0 < p) {D : Nat} {f : Nat → Int} (h : ∀ k, k ≤ D → -p < f k ∧ f k < p) : ∀ k j : Nat, k ≤ D + 1 → j ≤ D → mxS p 1 0 0 1 D f k j = if j < k then f j else 0
  | 0, j, _, _ => by simp [mxS]
  | k + 1, j, hk, hj => by
    show (mxS p 1 0 0 1 D f k j + mxG p 1 0 0 1 D f k j).tmod p = _
    rw [mxS.i hp h k j (by omega) hj, mxG.i hp (by omega) (h k (by omega)).1 (h k (by omega)).2 j hj]
    by_cases q : j < k
    · rw [if_pos q, if_neg (by omega), if_pos (by omega), Int.add_zero, tm0 (h j hj).1 (h j hj).2]
    · rw [if_neg q]
      by_cases z : j = k
      · subst z; rw [if_pos rfl, if_pos (by omega), Int.zero_add, tm0 (h j hj).1 (h j hj).2]
      · rw [if_neg z, if_neg (by omega)]; simp
def MXE (I I' : IT) (nu r r' : Nat) (D a b c d p : Int) : Prop := RWF I' nu r' D (mxS p a b c d D.toNat (RI I nu r) (D.toNat + 1))
/-- a row's value at x, y -/
def vaS (p : Int) (f : Nat → Int) (x y : Int) (D : Nat) : Nat → Int
  | 0 => 0
  | k + 1 => (vaS p f x y D k + (f k * (PWI x p (D - k) * PWI y p k).tmod p).tmod p).tmod p
def VAL (s p : Int) (f : Nat → Int) (x y D k : Int) : Prop := s = vaS p f x y D.toNat k.toNat
def VAD (s p : Int) (f : Nat → Int) (x y D : Int) : Prop := s = vaS p f x y D.toNat (D.toNat + 1)
theorem VAL.z {s p : Int} {f : Nat → Int} {x y D k : Int} (hs : s = 0) (hk : k = 0) : VAL s p f x y D k := by subst hs; subst hk; rfl
theorem VAL.s {I : IT} {nu r : Nat} {s s' k k' a u v m n : Int32} {x y D p e : Int} (h : VAL s.toInt p (RI I nu r) x y D k.toInt) (oa : a.toInt = (I nu (41 * r + k.toNatClampNeg)).toInt) (pu : PWQ u.toInt x p e) (he : e = D - k.toInt) (pv : PWQ v.toInt y p k.toInt) (t1 : TMD m.toInt u.toInt v.toInt p) (t2 : TMD n.toInt a.toInt m.toInt p) (pl : PLD s'.toInt s.toInt n.toInt p) (h0 : 0 ≤ k.toInt) (hD : k.toInt ≤ D) (hk : k'.toInt = k.toInt + 1) : VAL s'.toInt p (RI I nu r) x y D k'.toInt := by
  have k1 := ncz h0
  unfold VAL PWQ TMD PLD at *
  rw [show k'.toInt.toNat = k.toNatClampNeg + 1 from by omega]
  show _ = (vaS p (RI I nu r) x y D.toNat k.toNatClampNeg + (RI I nu r k.toNatClampNeg * (PWI x p (D.toNat - k.toNatClampNeg) * PWI y p k.toNatClampNeg).tmod p).tmod p).tmod p
  rw [pl, t2, t1, h, pu, pv, oa, he, show k.toInt.toNat = k.toNatClampNeg from rfl, show (D - k.toInt).toNat = D.toNat - k.toNatClampNeg from by omega]; rfl
theorem VAL.e {s p : Int} {f : Nat → Int} {x y D k : Int} (h : VAL s p f x y D k) (h0 : 0 ≤ D) (hk : k = D + 1) : VAD s p f x y D := by
  unfold VAL at h; unfold VAD; rw [h, show k.toNat = D.toNat + 1 from by omega]
theorem VAD.eq {I I' : IT} {nu r : Nat} {s p x y D : Int} (h : VAD s p (RI I' nu r) x y D) (e : I' nu = I nu) : VAD s p (RI I nu r) x y D := by
  have e2 : RI I' nu r = RI I nu r := funext fun k => by show (I' nu _).toInt = (I nu _).toInt; rw [e]
  rw [e2] at h; exact h
theorem PWI.one {p : Int} (hp : 1 < p) : ∀ n, PWI 1 p n = 1
  | 0 => rfl
  | n + 1 => by show (PWI 1 p n * 1).tmod p = 1; rw [PWI.one hp n]; exact Int.tmod_eq_of_lt (by decide) hp
theorem PWI.nul {p : Int} (n : Nat) (h : n ≠ 0) : PWI 0 p n = 0 := by
  cases n with
  | zero => exact absurd rfl h
  | succ n => show (PWI 0 p n * 0).tmod p = 0; simp
theorem vaS.x {p : Int} (hp : 1 < p) {f : Nat → Int} (D : Nat) (h1 : -p < f 0) (h2 : f 0 < p) : ∀ k, vaS p f 1 0 D (k + 1) = f 0
  | 0 => by
    show (0 + (f 0 * (PWI 1 p (D - 0) * PWI 0 p 0).tmod p).tmod p).tmod p = f 0
    rw [PWI.one hp, show PWI 0 p 0 = 1 from rfl, Int.mul_one, tm0 (by omega) hp, Int.mul_one, Int.zero_add, tm0 h1 h2, tm0 h1 h2]
  | k + 1 => by
    show (vaS p f 1 0 D (k + 1) + (f (k + 1) * (PWI 1 p (D - (k + 1)) * PWI 0 p (k + 1)).tmod p).tmod p).tmod p = f 0
    rw [vaS.x hp D h1 h2 k, PWI.nul (k + 1) (by omega)]; simp [tm0 h1 h2]
theorem vaS.y0 {p : Int} {f : Nat → Int} (D : Nat) : ∀ k, k ≤ D → vaS p f 0 1 D k = 0
  | 0, _ => rfl
  | k + 1, h => by
    show (vaS p f 0 1 D k + (f k * (PWI 0 p (D - k) * PWI 1 p k).tmod p).tmod p).tmod p = 0
    rw [vaS.y0 D k (by omega), PWI.nul (D - k) (by omega)]; simp
theorem vaS.y {p : Int} (hp : 1 < p) {f : Nat → Int} (D : Nat) (h1 : -p < f D) (h2 : f D < p) : vaS p f 0 1 D (D + 1) = f D := by
  show (vaS p f 0 1 D D + (f D * (PWI 0 p (D - D) * PWI 1 p D).tmod p).tmod p).tmod p = f D
  rw [vaS.y0 D D (by omega), PWI.one hp, Nat.sub_self, show PWI 0 p 0 = 1 from rfl, Int.mul_one, tm0 (by omega) hp, Int.mul_one, Int.zero_add, tm0 h1 h2, tm0 h1 h2]
def VLF (I' : IT) (vd : Nat) (p : Int) (f : Nat → Int) (D x y : Int) : Prop := ∀ i j : Nat, (j : Int) < p → ((i : Int) < x ∨ (i : Int) = x ∧ (j : Int) < y) → VAD (I' vd (19 * i + j)).toInt p f i j D
theorem VLF.z {I' : IT} {vd : Nat} {p : Int} {f : Nat → Int} {D x y : Int} (hx : x = 0) (hy : y = 0) : VLF I' vd p f D x y := fun i j _ h => by omega
theorem VLF.n {I' : IT} {vd : Nat} {p : Int} {f : Nat → Int} {D x y x' y' : Int} (h : VLF I' vd p f D x y) (hy : p ≤ y) (hx : x' = x + 1) (hy' : y' = 0) : VLF I' vd p f D x' y' := fun i j hj hi => h i j hj (by omega)
theorem VLF.c {I' : IT} {vd : Nat} {p : Int} {f : Nat → Int} {D x y x' y' : Int} (h : VLF I' vd p f D x y) (hx : x' = x) (hy : y' = y) : VLF I' vd p f D x' y' := by subst hx; subst hy; exact h
theorem VLF.s {I I' : IT} {vd : Nat} {p : Int} {f : Nat → Int} {D : Int} {x y y' j v : Int32} (h : VLF I vd p f D x.toInt y.toInt) (u : I' = u2 I vd j.toNatClampNeg v) (hv : VAD v.toInt p f x.toInt y.toInt D) (hj : j.toInt = 19 * x.toInt + y.toInt) (hx : 0 ≤ x.toInt) (hy : 0 ≤ y.toInt) (hp : p ≤ 19) (hyp : y.toInt < p) (hy' : y'.toInt = y.toInt + 1) : VLF I' vd p f D x.toInt y'.toInt := fun i k hk hi => by
  have x1 := ncz hx
  have y1 := ncz hy
  have j1 := ncz (x := j) (by omega)
  subst u
  by_cases q : i = x.toNatClampNeg ∧ k = y.toNatClampNeg
  · obtain ⟨q1, q2⟩ := q
    rw [show 19 * i + k = j.toNatClampNeg from by omega, u2_s, show ((i : Nat) : Int) = x.toInt from by omega, show ((k : Nat) : Int) = y.toInt from by omega]; exact hv
  · rw [u2_k (by omega)]; exact h i k hk (by omega)
def VLE (I' : IT) (vd : Nat) (p : Int) (f : Nat → Int) (D : Int) : Prop := ∀ i j : Nat, (i : Int) < p → (j : Int) < p → VAD (I' vd (19 * i + j)).toInt p f i j D
theorem VLF.e {I' : IT} {vd : Nat} {p : Int} {f : Nat → Int} {D x y : Int} (h : VLF I' vd p f D x y) (hx : p ≤ x) : VLE I' vd p f D := fun i j hi hj => h i j hj (by omega)
/-- two rows alike, numbers within p -/
def EQR (I : IT) (dg nu : Nat) (p : Int) : Prop := (I dg 40).toInt = (I dg 41).toInt ∧ (∀ k : Nat, (k : Int) ≤ (I dg 40).toInt → RI I nu 40 k = RI I nu 41 k) ∧ QN I nu 40 ((I dg 40).toInt + 1) p
theorem EQR.high {I I' : IT} {dg nu vd : Nat} {p D : Int} {l z w : Int32} (E : EQR I dg nu p) (V : VLE I' vd p (RI I nu 40) D) (hw : I' vd 1 = w) (hp : 1 < p) (hD : (I dg 40).toInt = D) (h0 : 0 ≤ D) (hz : z.toInt = (I dg 41).toInt) (ol : l.toInt = (I nu (41 * 41 + z.toNatClampNeg)).toInt) : w.toInt = l.toInt := by
  have h1 := V 0 1 (by omega) (by omega)
  have hz2 : z.toNatClampNeg = D.toNat := by have h4 := E.1; have := ncz (x := z) (by omega); omega
  have h2 := E.2.2 D.toNat (by omega)
  rw [show 19 * 0 + 1 = 1 from rfl, hw] at h1
  have h3 : w.toInt = vaS p (RI I nu 40) 0 1 D.toNat (D.toNat + 1) := h1
  rw [vaS.y hp _ h2.1 h2.2] at h3
  rw [h3, ol, hz2]; exact E.2.1 D.toNat (by omega)
def DTN (x a b c d p : Int) : Prop := x = ((a * d).tmod p - (b * c).tmod p + p).tmod p
theorem DTN.of {x s t a b c d p : Int} (h1 : TMD s a d p) (h2 : TMD t b c p) (h3 : LSD x s t p) : DTN x a b c d p := by unfold DTN; unfold TMD at h1 h2; unfold LSD at h3; rw [h3, h1, h2]
theorem DTN.i {x a b c d p : Int} (h : DTN x a b c d p) (hp : 1 < p) (ha : a = 1) (hb : b = 0) (hc : c = 0) (hd : d = 1) : x = 1 := by
  subst ha; subst hb; subst hc; subst hd
  unfold DTN at h
  rw [h, Int.mul_one, Int.mul_zero, Int.zero_tmod, tm0 (x := 1) (by omega) hp, Int.sub_zero, show (1 : Int) + p = 1 + p * 1 from by omega, Int.tmod_eq_emod_of_nonneg (by omega), Int.add_mul_emod_self_left]; exact Int.emod_eq_of_lt (by decide) hp
def TF (E : Prop) (f n v : Int) : Prop := E → 6860 < v → f = 0 ∧ 1 ≤ n
theorem TF.z {E : Prop} {f n v : Int} (h : v ≤ 6860) : TF E f n v := fun _ h => by omega
theorem TF.c {E : Prop} {f n v v' : Int} (h : TF E f n v) (c : 6860 < v' → 6860 < v) : TF E f n v' := fun e q => h e (c q)
theorem TF.of {E : Prop} {f n v v' : Int} (h : TF E f n v) (c : E → v ≤ 6860 → 6860 < v' → False) : TF E f n v' := fun e q => by
  by_cases z : 6860 < v
  · exact h e z
  · exact (c e (by omega) q).elim
theorem TF.up {E : Prop} {f n v : Int} (h : f = 0) (c : 1 ≤ n) : TF E f n v := fun _ _ => ⟨h, c⟩
def TRP (I : IT) (dg nu : Nat) (p f x : Int) : Prop := EQR I dg nu p → (f ≠ 0 → 0 ≤ x) ∧ (f = 0 → 1 ≤ x)
theorem TRP.r {I : IT} {dg nu : Nat} {p f x : Int} (hf : f ≠ 0) (hx : 0 ≤ x) : TRP I dg nu p f x := fun _ => ⟨fun _ => hx, fun h => absurd h hf⟩
theorem TRP.e {I : IT} {dg nu : Nat} {p f n v x : Int} (h : TF (EQR I dg nu p) f n v) (hv : 6860 < v) (c : f = 0 → x = n) : TRP I dg nu p f x := fun E => ⟨fun q => absurd (h E hv).1 q, fun q => by have := (h E hv).2; have := c q; omega⟩
section AutoR
variable {d : Nat} {q : mm_T} {mc ms : Nat} {Post : Po} {V : V_T} {pc pc2 : Nat} {lv : List (Nat × Value)} {r : List Value} {ck sk : Nat} {T N : Nat → Nat} {I : IT} {L : LT} {R : RT}
end AutoR
