/-! the reference: exact answers where tables are tried -/
def RI (I : IT) (nu r k : Nat) : Int := (I nu (41 * r + k)).toInt
def PLD (x a b p : Int) : Prop := x = (a + b).tmod p
theorem PLD.of {w x y : Int32} {a b p : Int} (h : RMD w x y) (e : x.toInt = a + b) (ep : y.toInt = p) : PLD w.toInt a b p := by
  unfold PLD; rw [← e]; have h1 : w.toInt = x.toInt.tmod y.toInt := h; rw [ep] at h1; exact h1
def IFF (x : Int) (P : Prop) : Prop := (x = 1 → P) ∧ (x = 0 → ¬ P)
def RLK (I : IT) (dg nu a b : Nat) : Prop := (I dg a).toInt = (I dg b).toInt ∧ ∀ k : Nat, (k : Int) ≤ (I dg a).toInt → RI I nu a k = RI I nu b k
def LKL (I : IT) (dg nu a b : Nat) (is k : Int) : Prop := (is = 1 → (I dg a).toInt = (I dg b).toInt ∧ ∀ j : Nat, (j : Int) < k → RI I nu a j = RI I nu b j) ∧ (is = 0 → ¬ RLK I dg nu a b)
theorem LKL.z1 {I : IT} {dg nu a b : Nat} {is k : Int} (h : (I dg a).toInt = (I dg b).toInt) (hi : is = 1) (hk : k = 0) : LKL I dg nu a b is k := ⟨fun _ => ⟨h, fun j hj => by omega⟩, fun h => by omega⟩
theorem LKL.z0 {I : IT} {dg nu a b : Nat} {is k : Int} (h : (I dg a).toInt ≠ (I dg b).toInt) (hi : is = 0) : LKL I dg nu a b is k := ⟨fun h => by omega, fun _ g => h g.1⟩
theorem LKL.s1 {I : IT} {dg nu a b : Nat} {is is' : Int} {k k' u v : Int32} (h : LKL I dg nu a b is k.toInt) (hi : is = 1) (h0 : 0 ≤ k.toInt) (oa : u.toInt = (I nu (41 * a + k.toNatClampNeg)).toInt) (ob : v.toInt = (I nu (41 * b + k.toNatClampNeg)).toInt) (e : u.toInt = v.toInt) (hi' : is' = 1) (hk : k'.toInt = k.toInt + 1) : LKL I dg nu a b is' k'.toInt := by
  have k1 := ncz h0
  refine ⟨fun _ => ⟨(h.1 hi).1, fun j hj => ?_⟩, fun h => by omega⟩
  by_cases q : j = k.toNatClampNeg
  · subst q; show (I nu _).toInt = (I nu _).toInt; omega
  · exact (h.1 hi).2 j (by omega)
theorem LKL.s0 {I : IT} {dg nu a b : Nat} {is' : Int} {k k' u v : Int32} (h0 : 0 ≤ k.toInt) (hk : k.toInt ≤ (I dg a).toInt) (oa : u.toInt = (I nu (41 * a + k.toNatClampNeg)).toInt) (ob : v.toInt = (I nu (41 * b + k.toNatClampNeg)).toInt) (e : u.toInt ≠ v.toInt) (hi' : is' = 0) : LKL I dg nu a b is' k'.toInt := by
  have k1 := ncz h0
  refine ⟨fun h => by omega, fun _ g => ?_⟩
  have h2 : (I nu (41 * a + k.toNatClampNeg)).toInt = (I nu (41 * b + k.toNatClampNeg)).toInt := g.2 k.toNatClampNeg (by omega)
  omega
theorem LKL.e1 {I : IT} {dg nu a b : Nat} {is k : Int} (h : LKL I dg nu a b is k) (hk : (I dg a).toInt < k) : IFF is (RLK I dg nu a b) := ⟨fun q => ⟨(h.1 q).1, fun j hj => (h.1 q).2 j (by omega)⟩, h.2⟩
theorem LKL.e0 {I : IT} {dg nu a b : Nat} {is k : Int} (h : LKL I dg nu a b is k) (hi : is = 0) : IFF is (RLK I dg nu a b) := ⟨fun q => by omega, h.2⟩
def NQA (I : IT) (dg nu r : Nat) : Prop := ∀ k : Nat, (k : Int) ≤ (I dg r).toInt → RI I nu r k = 0
def NQL (I : IT) (nu r : Nat) (is k : Int) : Prop := (is = 1 → ∀ j : Nat, (j : Int) < k → RI I nu r j = 0) ∧ (is = 0 → ∃ j : Nat, (j : Int) < k ∧ RI I nu r j ≠ 0)
theorem NQL.z {I : IT} {nu r : Nat} {is k : Int} (hi : is = 1) (hk : k = 0) : NQL I nu r is k := ⟨fun _ j hj => by omega, fun h => by omega⟩
theorem NQL.s1 {I : IT} {nu r : Nat} {is is' : Int} {k k' u : Int32} (h : NQL I nu r is k.toInt) (hi : is = 1) (h0 : 0 ≤ k.toInt) (oa : u.toInt = (I nu (41 * r + k.toNatClampNeg)).toInt) (e : u.toInt = 0) (hi' : is' = 1) (hk : k'.toInt = k.toInt + 1) : NQL I nu r is' k'.toInt := by
  have k1 := ncz h0
  refine ⟨fun _ j hj => ?_, fun h => by omega⟩
  by_cases q : j = k.toNatClampNeg
  · subst q; show (I nu _).toInt = 0; omega
  · exact h.1 hi j (by omega)
theorem NQL.s0 {I : IT} {nu r : Nat} {is' : Int} {k k' u : Int32} (h0 : 0 ≤ k.toInt) (oa : u.toInt = (I nu (41 * r + k.toNatClampNeg)).toInt) (e : u.toInt ≠ 0) (hi' : is' = 0) (hk : k'.toInt = k.toInt + 1) : NQL I nu r is' k'.toInt := by
  have k1 := ncz h0
  exact ⟨fun h => by omega, fun _ => ⟨k.toNatClampNeg, by omega, by show (I nu _).toInt ≠ 0; omega⟩⟩
theorem NQL.n {I : IT} {nu r : Nat} {is is' k : Int} {k' : Int} (h : NQL I nu r is k) (hi : is = 0) (hi' : is' = 0) (hk : k ≤ k') : NQL I nu r is' k' := by
  refine ⟨fun h => by omega, fun _ => ?_⟩
  obtain ⟨j, h1, h2⟩ := h.2 hi
  exact ⟨j, by omega, h2⟩
theorem NQL.e {I : IT} {dg nu r : Nat} {is k D : Int} (h : NQL I nu r is k) (hD : (I dg r).toInt = D) (hk : k = D + 1) : IFF is (NQA I dg nu r) := by
  refine ⟨fun q j hj => h.1 q j (by omega), fun q g => ?_⟩
  obtain ⟨j, h1, h2⟩ := h.2 q
  exact h2 (g j (by omega))
def TKE (I' I : IT) (w nu r b : Nat) (D : Int) : Prop := ∀ j : Nat, (j : Int) ≤ D → RI I' nu r j = (I w (b + j)).toInt
theorem TKE.z {I' I : IT} {w nu r b : Nat} {k : Int} (h : k = 0) : TKE I' I w nu r b (k - 1) := fun j hj => by omega
theorem TKE.s {I1 I' I : IT} {w nu r b : Nat} {k k' v : Int32} (h : TKE I1 I w nu r b (k.toInt - 1)) (h0 : 0 ≤ k.toInt) (hN : v.toInt = (I w (b + k.toNatClampNeg)).toInt) (hP : PUTD I1 I' nu r k.toNatClampNeg v) (hk : k'.toInt = k.toInt + 1) : TKE I' I w nu r b (k'.toInt - 1) := fun j hj => by
  have k1 := ncz h0
  show (I' nu _).toInt = _
  by_cases q : j = k.toNatClampNeg
  · subst q; rw [hP.1]; exact hN
  · rw [hP.2 _ (by omega)]; exact h j (by omega)
theorem TKE.le {I' I : IT} {w nu r b : Nat} {D D' : Int} (h : TKE I' I w nu r b D) (e : D' ≤ D) : TKE I' I w nu r b D' := fun j hj => h j (by omega)
/-- a row widened -/
def ctF (D : Int) (f : Nat → Int) (j : Nat) : Int := if (j : Int) ≤ D then f j else 0
def wdF (p u v : Int) (f : Nat → Int) (k : Nat) : Int := ((f k * u).tmod p + (if k = 0 then 0 else (f (k - 1) * v).tmod p)).tmod p
def WDE (I I' : IT) (nu r : Nat) (D u v p : Int) : Prop := ∀ j : Nat, (j : Int) ≤ D + 1 → RI I' nu r j = wdF p u v (ctF D (RI I nu r)) j
def WDL (I I' : IT) (nu r : Nat) (D u v p l : Int) : Prop := (∀ j : Nat, l < j → (j : Int) ≤ D + 1 → RI I' nu r j = wdF p u v (ctF D (RI I nu r)) j) ∧ ∀ j : Nat, (j : Int) ≤ l → RI I' nu r j = ctF D (RI I nu r) j
theorem WDL.z {I I1 I' : IT} {nu r : Nat} {D u v p : Int} {k z l : Int32} (w : PUTD I I1 nu r k.toNatClampNeg z) (e : I' nu = I1 nu) (hz : z.toInt = 0) (h0 : 0 ≤ k.toInt) (hk : k.toInt = D + 1) (hl : l.toInt = D + 1) : WDL I I' nu r D u v p l.toInt := by
  have k1 := ncz h0
  refine ⟨fun j h1 h2 => by omega, fun j hj => ?_⟩
  show (I' nu _).toInt = _
  rw [e]
  unfold ctF
  by_cases q : j = k.toNatClampNeg
  · subst q; rw [w.1, if_neg (by omega)]; exact hz
  · rw [w.2 _ (by omega), if_pos (by omega)]; rfl
theorem WDL.s {I I1 I' : IT} {nu r : Nat} {D u v p : Int} {l l1 l' a b t s w : Int32} (h : WDL I I1 nu r D u v p l.toInt) (oa : a.toInt = (I1 nu (41 * r + l.toNatClampNeg)).toInt) (ta : TMD t.toInt a.toInt u p) (ob : b.toInt = (I1 nu (41 * r + l1.toNatClampNeg)).toInt) (tb : TMD s.toInt b.toInt v p) (pl : PLD w.toInt t.toInt s.toInt p) (hP : PUTD I1 I' nu r l.toNatClampNeg w) (hl : 0 < l.toInt) (hl1 : l1.toInt = l.toInt - 1) (hl' : l'.toInt = l.toInt - 1) (hD : l.toInt ≤ D + 1) : WDL I I' nu r D u v p l'.toInt := by
  have k1 := ncz (x := l) (by omega)
  have k2 := ncz (x := l1) (by omega)
  refine ⟨fun j h1 h2 => ?_, fun j hj => ?_⟩
  · show (I' nu _).toInt = _
    by_cases q : j = l.toNatClampNeg
    · subst q
      rw [hP.1]
      unfold PLD at pl; unfold TMD at ta tb
      rw [pl, ta, tb, oa, ob]
      have e1 : (I1 nu (41 * r + l.toNatClampNeg)).toInt = ctF D (RI I nu r) l.toNatClampNeg := h.2 _ (by omega)
      have e2 : (I1 nu (41 * r + l1.toNatClampNeg)).toInt = ctF D (RI I nu r) l1.toNatClampNeg := h.2 _ (by omega)
      rw [e1, e2]
      unfold wdF
      rw [if_neg (by omega), show l1.toNatClampNeg = l.toNatClampNeg - 1 from by omega]
    · rw [hP.2 _ (by omega)]; exact h.1 j (by omega) h2
  · show (I' nu _).toInt = _
    rw [hP.2 _ (by omega)]; exact h.2 j (by omega)
theorem WDL.s0 {I I1 I' : IT} {nu r : Nat} {D u v p : Int} {l l' a t s w : Int32} (h : WDL I I1 nu r D u v p l.toInt) (oa : a.toInt = (I1 nu (41 * r + l.toNatClampNeg)).toInt) (ta : TMD t.toInt a.toInt u p) (hs : s.toInt = 0) (pl : PLD w.toInt t.toInt s.toInt p) (hP : PUTD I1 I' nu r 0 w) (hl : l.toInt = 0) (hl' : l'.toInt = l.toInt - 1) : WDL I I' nu r D u v p l'.toInt := by
  have k1 := nck (x := l) (n := 0) hl
  refine ⟨fun j h1 h2 => ?_, fun j hj => by omega⟩
  show (I' nu _).toInt = _
  rw [k1] at oa
  by_cases q : j = 0
  · subst q
    rw [hP.1]
    unfold PLD at pl; unfold TMD at ta
    rw [pl, ta, oa, hs]
    have e1 : (I1 nu (41 * r + 0)).toInt = ctF D (RI I nu r) 0 := h.2 _ (by omega)
    rw [e1]; rfl
  · rw [hP.2 _ (by omega)]; exact h.1 j (by omega) h2
theorem WDL.e {I I' : IT} {nu r : Nat} {D u v p l : Int} (h : WDL I I' nu r D u v p l) (hl : l < 0) : WDE I I' nu r D u v p := fun j hj => h.1 j (by omega) hj
/-- mixing -/
def wdN (p u v : Int) : Nat → Nat → (Nat → Int) → Nat → Int
  | 0, _, f => f
  | n + 1, D, f => wdF p u v (ctF ((D + n : Nat) : Int) (wdN p u v n D f))
def mxG (p a b c d : Int) (D : Nat) (f : Nat → Int) (k : Nat) : Nat → Int := wdN p c d k (D - k) (wdN p a b (D - k) 0 (fun _ => f k))
def mxS (p a b c d : Int) (D : Nat) (f : Nat → Int) : Nat → Nat → Int
  | 0, _ => 0
  | k + 1, i => (mxS p a b c d D f k i + mxG p a b c d D f k i).tmod p
theorem mxS.s {p a b c d : Int} {D : Nat} {f : Nat → Int} {k i : Nat} : mxS p a b c d D f (k + 1) i = (mxS p a b c d D f k i + mxG p a b c d D f k i).tmod p := rfl
def RWF (I : IT) (nu r : Nat) (D : Int) (g : Nat → Int) : Prop := ∀ j : Nat, (j : Int) ≤ D → RI I nu r j = g j
theorem RWF.le {I : IT} {nu r : Nat} {D D' : Int} {g : Nat → Int} (h : RWF I nu r D g) (e : D' ≤ D) : RWF I nu r D' g := fun j hj => h j (by omega)
theorem RWF.sm {I I' : IT} {nu r : Nat} {D : Int} {g : Nat → Int} (h : RWF I nu r D g) (e : ∀ k, k < 41 → I' nu (41 * r + k) = I nu (41 * r + k)) (hD : D ≤ 40) : RWF I' nu r D g := fun j hj => by
  show (I' nu _).toInt = _; rw [e j (by omega)]; exact h j hj
theorem RWF.ct {I : IT} {nu r : Nat} {D : Int} {g : Nat → Int} (h : RWF I nu r D g) : ctF D (RI I nu r) = ctF D g := funext fun j => by
  unfold ctF
  by_cases q : (j : Int) ≤ D
  · rw [if_pos q, if_pos q]; exact h j q
  · rw [if_neg q, if_neg q]
theorem RWF.wd {I I' : IT} {nu r n D : Nat} {E E' u v p : Int} {f : Nat → Int} (h : RWF I nu r E (wdN p u v n D f)) (w : WDE I I' nu r E' u v p) (he : E' = E) (hE : E = ((D + n : Nat) : Int)) : RWF I' nu r (E + 1) (wdN p u v (n + 1) D f) := fun j hj => by
  subst he
  rw [w j hj, h.ct, hE]; rfl
theorem RWF.az {I : IT} {nu r : Nat} {D n : Int} {g : Nat → Int} (h : AZ I nu (41 * r) n) (hn : D < n) (hg : ∀ j, g j = 0) : RWF I nu r D g := fun j hj => by rw [hg]; exact h j (by omega)
theorem RWF.p0 {I I' : IT} {nu r : Nat} {v : Int32} {g : Nat → Int} (w : PUTD I I' nu r 0 v) (e : v.toInt = g 0) : RWF I' nu r 0 g := fun j hj => by
  have : j = 0 := by omega
  subst this
  show (I' nu _).toInt = _; rw [w.1]; exact e
def MXL (I : IT) (nu r : Nat) (D : Int) (g g' : Nat → Int) (l : Int) : Prop := ∀ j : Nat, (j : Int) ≤ D → RI I nu r j = if (j : Int) < l then g' j else g j
theorem MXL.z {I : IT} {nu r : Nat} {D l : Int} {g g' : Nat → Int} (h : RWF I nu r D g) (hl : l = 0) : MXL I nu r D g g' l := fun j hj => by rw [if_neg (by omega)]; exact h j hj
theorem MXL.e {I : IT} {nu r : Nat} {D l : Int} {g g' : Nat → Int} (h : MXL I nu r D g g' l) (hl : D < l) : RWF I nu r D g' := fun j hj => by rw [h j hj, if_pos (by omega)]
theorem MXL.s {I I' : IT} {nu r : Nat} {D p : Int} {g g' h9 : Nat → Int} {l l' a b w : Int32} (h : MXL I nu r D g g' l.toInt) (G : RWF I nu 45 D h9) (oa : a.toInt = (I nu (41 * r + l.toNatClampNeg)).toInt) (ob : b.toInt = (I nu (41 * 45 + l.toNatClampNeg)).toInt) (pl : PLD w.toInt a.toInt b.toInt p) (hP : PUTD I I' nu r l.toNatClampNeg w) (h0 : 0 ≤ l.toInt) (hD : l.toInt ≤ D) (hl : l'.toInt = l.toInt + 1) (hg : ∀ j, g' j = (g j + h9 j).tmod p) : MXL I' nu r D g g' l'.toInt := fun j hj => by
  have k1 := ncz h0
  show (I' nu _).toInt = _
  by_cases q : j = l.toNatClampNeg
  · subst q
    rw [hP.1, if_pos (by omega), hg]
    unfold PLD at pl
    have e1 : (I nu (41 * r + l.toNatClampNeg)).toInt = if ((l.toNatClampNeg : Nat) : Int) < l.toInt then g' l.toNatClampNeg else g l.toNatClampNeg := h _ (by omega)
    rw [if_neg (by omega)] at e1
    have e2 : (I nu (41 * 45 + l.toNatClampNeg)).toInt = h9 l.toNatClampNeg := G _ (by omega)
    rw [pl, oa, ob, e1, e2]
  · rw [hP.2 _ (by omega)]
    have e1 : (I nu (41 * r + j)).toInt = if ((j : Nat) : Int) < l.toInt then g' j else g j := h _ (by omega)
    rw [e1]
    by_cases z : (j : Int) < l.toInt
    · rw [if_pos z, if_pos (by omega)]
    · rw [if_neg z, if_neg (by omega)]
theorem RWF.put {I I' : IT} {nu r r' k : Nat} {D : Int} {g : Nat → Int} {x : Int32} (h : RWF I nu r D g) (w : PUTD I I' nu r' k x) (hk : k < 41) (hD : D ≤ 40) (hn : r ≠ r') : RWF I' nu r D g := fun j hj => by
  show (I' nu _).toInt = _; rw [w.2 _ (by omega)]; exact h j hj
theorem RWF.cg {I : IT} {nu r : Nat} {D D' : Int} {g g' : Nat → Int} (h : RWF I nu r D g) (e : g = g') (eD : D = D') : RWF I nu r D' g' := by rw [← e, ← eD]; exact h
theorem SMR.cs {I I1 I' : IT} {nu r : Nat} (h : SMR I I1 nu r) (e : ∀ k, k < 41 → I' nu (41 * r + k) = I1 nu (41 * r + k)) : SMR I I' nu r := fun k hk => (e k hk).trans (h k hk)
/-- the table 1 0 0 1 -/
theorem tm0 {x p : Int} (h1 : -p < x) (h2 : x < p) : x.tmod p = x := by
  rcases Int.lt_or_le x 0 with h | h
  · have : (-x).tmod p = -x := Int.tmod_eq_of_lt (by omega) (by omega)
    rw [Int.neg_tmod] at this; omega
  · exact Int.tmod_eq_of_lt h h2
theorem wdN.i {p x : Int} (h1 : -p < x) (h2 : x < p) : ∀ n j : Nat, wdN p 1 0 n 0 (fun _ => x) j = if n = 0 then x else if j = 0 then x else 0
  | 0, j => by simp [wdN]
  | n + 1, j => by
    have ih := fun j => wdN.i h1 h2 n j
    show wdF p 1 0 (ctF ((0 + n : Nat) : Int) (wdN p 1 0 n 0 (fun _ => x))) j = _
    unfold wdF ctF
    by_cases q : j = 0
    · subst q
      have i0 := ih 0
      rw [if_pos (by omega), i0]
      by_cases z : n = 0 <;> simp [z, tm0 h1 h2]
    · by_cases z : j ≤ n
      · rw [if_pos (by omega), ih j]
        have : n ≠ 0 := by omega
        simp [q, this]
      · rw [if_neg (by omega)]; simp [q]
theorem wdN.o {p : Int} {D : Nat} {g : Nat → Int} (hg : ∀ j, -p < g j ∧ g j < p) : ∀ n j : Nat, j ≤ D + n → wdN p 0 1 n D g j = if j < n then 0 else g (j - n)
  | 0, j, _ => by simp [wdN]
  | n + 1, j, hj => by
    have ih := fun (j : Nat) (h : j ≤ D + n) => wdN.o (D := D) hg n j h
    show wdF p 0 1 (ctF ((D + n : Nat) : Int) (wdN p 0 1 n D g)) j = _
    unfold wdF
    rw [Int.mul_zero, Int.zero_tmod, Int.zero_add]
    by_cases q : j = 0
    · subst q; simp
    · rw [if_neg q, Int.mul_one]
      unfold ctF
      rw [if_pos (show ((j - 1 : Nat) : Int) ≤ ((D + n : Nat) : Int) by omega), ih (j - 1) (by omega)]
      by_cases z : j < n + 1
      · rw [if_pos z, if_pos (show j - 1 < n by omega)]; simp
      · rw [if_neg z, if_neg (show ¬ j - 1 < n by omega), show j - 1 - n = j - (n + 1) from by omega, tm0 (hg _).1 (hg _).2, tm0 (hg _).1 (hg _).2]
theorem mxG.i {p : Int} (hp : 0 < p) {D : Nat} {f : Nat → Int} {k : Nat} (hk : k ≤ D) (h1 : -p < f k) (h2 : f k < p) (j : Nat) (hj : j ≤ D) : mxG p 1 0 0 1 D f k j = if j = k then f k else 0 := by
  unfold mxG
  have hz := wdN.i h1 h2 (D - k)
  have hb : ∀ j, -p < wdN p 1 0 (D - k) 0 (fun _ => f k) j ∧ wdN p 1 0 (D - k) 0 (fun _ => f k) j < p := fun j => by
    rw [hz j]; split
    · exact ⟨h1, h2⟩
    · split
      · exact ⟨h1, h2⟩
      · omega
  rw [wdN.o hb k j (by omega)]
  by_cases q : j < k
  · rw [if_pos q, if_neg (by omega)]
  · rw [if_neg q, hz]
    by_cases z : D - k = 0
    · rw [if_pos z, if_pos (by omega)]
    · rw [if_neg z]
      by_cases y : j = k
      · rw [if_pos (by omega), if_pos y]
      · rw [if_neg (by omega), if_neg y]
theorem mxS.i {p : Int} (hp : 0 < p) {D : Nat} {f : Nat → Int} (h : ∀ k, k ≤ D → -p < f k ∧ f k < p) : ∀ k j : Nat, k ≤ D + 1 → j ≤ D → mxS p 1 0 0 1 D f k j = if j < k then f j else 0
  | 0, j, _, _ => by simp [mxS]
  | k + 1, j, hk, hj => by
    show (mxS p 1 0 0 1 D f k j + mxG p 1 0 0 1 D f k j).tmod p = _
    rw [mxS.i hp h k j (by omega) hj, mxG.i hp (by omega) (h k (by omega)).1 (h k (by omega)).2 j hj]
    by_cases q : j < k
    · rw [if_pos q, if_neg (by omega), if_pos (by omega), Int.add_zero, tm0 (h j hj).1 (h j hj).2]
    · rw [if_neg q]
      by_cases z : j = k
      · subst z; rw [if_pos rfl, if_pos (by omega), Int.zero_add, tm0 (h j hj).1 (h j hj).2]
      · rw [if_neg z, if_neg (by omega)]; simp
def MXE (I I' : IT) (nu r r' : Nat) (D a b c d p : Int) : Prop := RWF I' nu r' D (mxS p a b c d D.toNat (RI I nu r) (D.toNat + 1))
/-- a row's value at x, y -/
def vaS (p : Int) (f : Nat → Int) (x y : Int) (D : Nat) : Nat → Int
  | 0 => 0
  | k + 1 => (vaS p f x y D k + (f k * (PWI x p (D - k) * PWI y p k).tmod p).tmod p).tmod p
def VAL (s p : Int) (f : Nat → Int) (x y D k : Int) : Prop := s = vaS p f x y D.toNat k.toNat
def VAD (s p : Int) (f : Nat → Int) (x y D : Int) : Prop := s = vaS p f x y D.toNat (D.toNat + 1)
theorem VAL.z {s p : Int} {f : Nat → Int} {x y D k : Int} (hs : s = 0) (hk : k = 0) : VAL s p f x y D k := by subst hs; subst hk; rfl
theorem VAL.s {I : IT} {nu r : Nat} {s s' k k' a u v m n : Int32} {x y D p e : Int} (h : VAL s.toInt p (RI I nu r) x y D k.toInt) (oa : a.toInt = (I nu (41 * r + k.toNatClampNeg)).toInt) (pu : PWQ u.toInt x p e) (he : e = D - k.toInt) (pv : PWQ v.toInt y p k.toInt) (t1 : TMD m.toInt u.toInt v.toInt p) (t2 : TMD n.toInt a.toInt m.toInt p) (pl : PLD s'.toInt s.toInt n.toInt p) (h0 : 0 ≤ k.toInt) (hD : k.toInt ≤ D) (hk : k'.toInt = k.toInt + 1) : VAL s'.toInt p (RI I nu r) x y D k'.toInt := by
  have k1 := ncz h0
  unfold VAL PWQ TMD PLD at *
  rw [show k'.toInt.toNat = k.toNatClampNeg + 1 from by omega]
  show _ = (vaS p (RI I nu r) x y D.toNat k.toNatClampNeg + (RI I nu r k.toNatClampNeg * (PWI x p (D.toNat - k.toNatClampNeg) * PWI y p k.toNatClampNeg).tmod p).tmod p).tmod p
  rw [pl, t2, t1, h, pu, pv, oa, he, show k.toInt.toNat = k.toNatClampNeg from rfl, show (D - k.toInt).toNat = D.toNat - k.toNatClampNeg from by omega]; rfl
theorem VAL.e {s p : Int} {f : Nat → Int} {x y D k : Int} (h : VAL s p f x y D k) (h0 : 0 ≤ D) (hk : k = D + 1) : VAD s p f x y D := by
  unfold VAL at h; unfold VAD; rw [h, show k.toNat = D.toNat + 1 from by omega]
theorem VAD.eq {I I' : IT} {nu r : Nat} {s p x y D : Int} (h : VAD s p (RI I' nu r) x y D) (e : I' nu = I nu) : VAD s p (RI I nu r) x y D := by
  have e2 : RI I' nu r = RI I nu r := funext fun k => by show (I' nu _).toInt = (I nu _).toInt; rw [e]
  rw [e2] at h; exact h
theorem PWI.one {p : Int} (hp : 1 < p) : ∀ n, PWI 1 p n = 1
  | 0 => rfl
  | n + 1 => by show (PWI 1 p n * 1).tmod p = 1; rw [PWI.one hp n]; exact Int.tmod_eq_of_lt (by decide) hp
theorem PWI.nul {p : Int} (n : Nat) (h : n ≠ 0) : PWI 0 p n = 0 := by
  cases n with
  | zero => exact absurd rfl h
  | succ n => show (PWI 0 p n * 0).tmod p = 0; simp
theorem vaS.x {p : Int} (hp : 1 < p) {f : Nat → Int} (D : Nat) (h1 : -p < f 0) (h2 : f 0 < p) : ∀ k, vaS p f 1 0 D (k + 1) = f 0
  | 0 => by
    show (0 + (f 0 * (PWI 1 p (D - 0) * PWI 0 p 0).tmod p).tmod p).tmod p = f 0
    rw [PWI.one hp, show PWI 0 p 0 = 1 from rfl, Int.mul_one, tm0 (by omega) hp, Int.mul_one, Int.zero_add, tm0 h1 h2, tm0 h1 h2]
  | k + 1 => by
    show (vaS p f 1 0 D (k + 1) + (f (k + 1) * (PWI 1 p (D - (k + 1)) * PWI 0 p (k + 1)).tmod p).tmod p).tmod p = f 0
    rw [vaS.x hp D h1 h2 k, PWI.nul (k + 1) (by omega)]; simp [tm0 h1 h2]
theorem vaS.y0 {p : Int} {f : Nat → Int} (D : Nat) : ∀ k, k ≤ D → vaS p f 0 1 D k = 0
  | 0, _ => rfl
  | k + 1, h => by
    show (vaS p f 0 1 D k + (f k * (PWI 0 p (D - k) * PWI 1 p k).tmod p).tmod p).tmod p = 0
    rw [vaS.y0 D k (by omega), PWI.nul (D - k) (by omega)]; simp
theorem vaS.y {p : Int} (hp : 1 < p) {f : Nat → Int} (D : Nat) (h1 : -p < f D) (h2 : f D < p) : vaS p f 0 1 D (D + 1) = f D := by
  show (vaS p f 0 1 D D + (f D * (PWI 0 p (D - D) * PWI 1 p D).tmod p).tmod p).tmod p = f D
  rw [vaS.y0 D D (by omega), PWI.one hp, Nat.sub_self, show PWI 0 p 0 = 1 from rfl, Int.mul_one, tm0 (by omega) hp, Int.mul_one, Int.zero_add, tm0 h1 h2, tm0 h1 h2]
def VLF (I' : IT) (vd : Nat) (p : Int) (f : Nat → Int) (D x y : Int) : Prop := ∀ i j : Nat, (j : Int) < p → ((i : Int) < x ∨ (i : Int) = x ∧ (j : Int) < y) → VAD (I' vd (19 * i + j)).toInt p f i j D
theorem VLF.z {I' : IT} {vd : Nat} {p : Int} {f : Nat → Int} {D x y : Int} (hx : x = 0) (hy : y = 0) : VLF I' vd p f D x y := fun i j _ h => by omega
theorem VLF.n {I' : IT} {vd : Nat} {p : Int} {f : Nat → Int} {D x y x' y' : Int} (h : VLF I' vd p f D x y) (hy : p ≤ y) (hx : x' = x + 1) (hy' : y' = 0) : VLF I' vd p f D x' y' := fun i j hj hi => h i j hj (by omega)
theorem VLF.c {I' : IT} {vd : Nat} {p : Int} {f : Nat → Int} {D x y x' y' : Int} (h : VLF I' vd p f D x y) (hx : x' = x) (hy : y' = y) : VLF I' vd p f D x' y' := by subst hx; subst hy; exact h
theorem VLF.s {I I' : IT} {vd : Nat} {p : Int} {f : Nat → Int} {D : Int} {x y y' j v : Int32} (h : VLF I vd p f D x.toInt y.toInt) (u : I' = u2 I vd j.toNatClampNeg v) (hv : VAD v.toInt p f x.toInt y.toInt D) (hj : j.toInt = 19 * x.toInt + y.toInt) (hx : 0 ≤ x.toInt) (hy : 0 ≤ y.toInt) (hp : p ≤ 19) (hyp : y.toInt < p) (hy' : y'.toInt = y.toInt + 1) : VLF I' vd p f D x.toInt y'.toInt := fun i k hk hi => by
  have x1 := ncz hx
  have y1 := ncz hy
  have j1 := ncz (x := j) (by omega)
  subst u
  by_cases q : i = x.toNatClampNeg ∧ k = y.toNatClampNeg
  · obtain ⟨q1, q2⟩ := q
    rw [show 19 * i + k = j.toNatClampNeg from by omega, u2_s, show ((i : Nat) : Int) = x.toInt from by omega, show ((k : Nat) : Int) = y.toInt from by omega]; exact hv
  · rw [u2_k (by omega)]; exact h i k hk (by omega)
def VLE (I' : IT) (vd : Nat) (p : Int) (f : Nat → Int) (D : Int) : Prop := ∀ i j : Nat, (i : Int) < p → (j : Int) < p → VAD (I' vd (19 * i + j)).toInt p f i j D
theorem VLF.e {I' : IT} {vd : Nat} {p : Int} {f : Nat → Int} {D x y : Int} (h : VLF I' vd p f D x y) (hx : p ≤ x) : VLE I' vd p f D := fun i j hi hj => h i j hj (by omega)
/-- two rows alike, numbers within p -/
def EQR (I : IT) (dg nu : Nat) (p : Int) : Prop := (I dg 40).toInt = (I dg 41).toInt ∧ (∀ k : Nat, (k : Int) ≤ (I dg 40).toInt → RI I nu 40 k = RI I nu 41 k) ∧ QN I nu 40 ((I dg 40).toInt + 1) p
theorem EQR.low {I I' : IT} {dg nu vd : Nat} {p D : Int} {l w : Int32} (E : EQR I dg nu p) (V : VLE I' vd p (RI I nu 40) D) (hw : I' vd 19 = w) (hp : 1 < p) (hD : (I dg 40).toInt = D) (h0 : 0 ≤ D) (ol : l.toInt = (I nu (41 * 41 + 0)).toInt) : w.toInt = l.toInt := by
  have h1 := V 1 0 (by omega) (by omega)
  have h2 := E.2.2 0 (by omega)
  rw [show 19 * 1 + 0 = 19 from rfl, hw] at h1
  have h3 : w.toInt = vaS p (RI I nu 40) 1 0 D.toNat (D.toNat + 1) := h1
  rw [vaS.x hp _ h2.1 h2.2] at h3
  rw [h3, ol]; exact E.2.1 0 (by omega)
theorem EQR.high {I I' : IT} {dg nu vd : Nat} {p D : Int} {l z w : Int32} (E : EQR I dg nu p) (V : VLE I' vd p (RI I nu 40) D) (hw : I' vd 1 = w) (hp : 1 < p) (hD : (I dg 40).toInt = D) (h0 : 0 ≤ D) (hz : z.toInt = (I dg 41).toInt) (ol : l.toInt = (I nu (41 * 41 + z.toNatClampNeg)).toInt) : w.toInt = l.toInt := by
  have h1 := V 0 1 (by omega) (by omega)
  have hz2 : z.toNatClampNeg = D.toNat := by have h4 := E.1; have := ncz (x := z) (by omega); omega
  have h2 := E.2.2 D.toNat (by omega)
  rw [show 19 * 0 + 1 = 1 from rfl, hw] at h1
  have h3 : w.toInt = vaS p (RI I nu 40) 0 1 D.toNat (D.toNat + 1) := h1
  rw [vaS.y hp _ h2.1 h2.2] at h3
  rw [h3, ol, hz2]; exact E.2.1 D.toNat (by omega)
theorem EQR.mix {I I1 I' : IT} {dg nu : Nat} {p D a b c d : Int} (E : EQR I dg nu p) (s40 : SMR I I1 nu 40) (s41 : SMR I I' nu 41) (M : MXE I1 I' nu 40 42 D a b c d p) (hp : 1 < p) (hD : (I dg 40).toInt = D) (h0 : 0 ≤ D) (h40 : D ≤ 40) (d41 : (I' dg 41).toInt = (I dg 41).toInt) (d42 : (I' dg 42).toInt = D) (ha : a = 1) (hb : b = 0) (hc : c = 0) (hd : d = 1) : RLK I' dg nu 41 42 := by
  subst ha; subst hb; subst hc; subst hd
  have h4 := E.1
  refine ⟨by omega, fun k hk => ?_⟩
  have e1 := M k (by omega)
  have hr : ∀ j : Nat, (j : Int) ≤ D → RI I1 nu 40 j = RI I nu 40 j := fun j hj => by show (I1 nu _).toInt = (I nu _).toInt; rw [s40 j (by omega)]
  have hq : ∀ j : Nat, j ≤ D.toNat → -p < RI I1 nu 40 j ∧ RI I1 nu 40 j < p := fun j hj => by rw [hr j (by omega)]; exact E.2.2 j (by omega)
  rw [mxS.i (by omega) hq (D.toNat + 1) k (by omega) (by omega), if_pos (by omega), hr k (by omega)] at e1
  rw [e1, E.2.1 k (by omega)]
  show (I' nu _).toInt = (I nu _).toInt
  rw [s41 k (by omega)]
def DTN (x a b c d p : Int) : Prop := x = ((a * d).tmod p - (b * c).tmod p + p).tmod p
theorem DTN.of {x s t a b c d p : Int} (h1 : TMD s a d p) (h2 : TMD t b c p) (h3 : LSD x s t p) : DTN x a b c d p := by unfold DTN; unfold TMD at h1 h2; unfold LSD at h3; rw [h3, h1, h2]
theorem DTN.i {x a b c d p : Int} (h : DTN x a b c d p) (hp : 1 < p) (ha : a = 1) (hb : b = 0) (hc : c = 0) (hd : d = 1) : x = 1 := by
  subst ha; subst hb; subst hc; subst hd
  unfold DTN at h
  rw [h, Int.mul_one, Int.mul_zero, Int.zero_tmod, tm0 (x := 1) (by omega) hp, Int.sub_zero, show (1 : Int) + p = 1 + p * 1 from by omega, Int.tmod_eq_emod_of_nonneg (by omega), Int.add_mul_emod_self_left]; exact Int.emod_eq_of_lt (by decide) hp
def TF (E : Prop) (f n v : Int) : Prop := E → 6860 < v → f = 0 ∧ 1 ≤ n
theorem TF.z {E : Prop} {f n v : Int} (h : v ≤ 6860) : TF E f n v := fun _ h => by omega
theorem TF.c {E : Prop} {f n v v' : Int} (h : TF E f n v) (c : 6860 < v' → 6860 < v) : TF E f n v' := fun e q => h e (c q)
theorem TF.of {E : Prop} {f n v v' : Int} (h : TF E f n v) (c : E → v ≤ 6860 → 6860 < v' → False) : TF E f n v' := fun e q => by
  by_cases z : 6860 < v
  · exact h e z
  · exact (c e (by omega) q).elim
theorem TF.up {E : Prop} {f n v : Int} (h : f = 0) (c : 1 ≤ n) : TF E f n v := fun _ _ => ⟨h, c⟩
def TRP (I : IT) (dg nu : Nat) (p f x : Int) : Prop := EQR I dg nu p → (f ≠ 0 → 0 ≤ x) ∧ (f = 0 → 1 ≤ x)
theorem TRP.r {I : IT} {dg nu : Nat} {p f x : Int} (hf : f ≠ 0) (hx : 0 ≤ x) : TRP I dg nu p f x := fun _ => ⟨fun _ => hx, fun h => absurd h hf⟩
theorem TRP.e {I : IT} {dg nu : Nat} {p f n v x : Int} (h : TF (EQR I dg nu p) f n v) (hv : 6860 < v) (c : f = 0 → x = n) : TRP I dg nu p f x := fun E => ⟨fun q => absurd (h E hv).1 q, fun q => by have := (h E hv).2; have := c q; omega⟩
section AutoR
variable {d : Nat} {q : mm_T} {mc ms : Nat} {Post : Po} {V : V_T} {pc pc2 : Nat} {lv : List (Nat × Value)} {r : List Value} {ck sk : Nat} {T N : Nat → Nat} {I : IT} {L : LT} {R : RT}
theorem z_imulJ (C : Cl d q mc ms Post V) {M : Mm} {x y : Int32} {a a' b b' c c' : Int} (hi : cdf q.2.2.2.2.2.2 pc = some (.imul, 1)) (hp : pc + 1 = pc2) (hx : a' ≤ x.toInt ∧ x.toInt ≤ a) (hy : b' ≤ y.toInt ∧ y.toInt ≤ b) (ha : 0 ≤ a') (hb : 0 ≤ b') (hc : a * b = c) (hc' : a' * b' = c') (hc2 : c ≤ 2147483647) (h : ∀ w : Int32, c' ≤ w.toInt ∧ w.toInt ≤ c → V pc2 lv (.int w :: r) M ck sk) : V pc lv (.int y :: .int x :: r) M ck sk := k_imul C hi hp (h _ (by
  have h0 : a' * b' ≤ x.toInt * y.toInt := Int.mul_le_mul hx.1 hy.1 hb (by omega)
  have h1 : 0 ≤ x.toInt * y.toInt := Int.mul_nonneg (by omega) (by omega)
  have h2 : x.toInt * y.toInt ≤ a * b := Int.mul_le_mul hx.2 hy.2 (by omega) (by omega)
  rw [ii_mul (by omega)]; omega))
end AutoR
theorem a_X12_plus_e {d : Nat} {T N : Nat → Nat} {I : IT} {L : LT} {R : RT} {A : Nat → Prop} {r0 : Nat} {n1 n2 : Int32} (hI : IM R r0 I) (H_r0 : (h_MD T N R A) r0) (b0_n1 : -18 ≤ n1.toInt) (b1_n1 : n1.toInt ≤ 18) (b0_n2 : -18 ≤ n2.toInt) (b1_n2 : n2.toInt ≤ 18) : Ex (d + 2) 194 [.ref r0, .int n1, .int n2] (T, N, I, L, R) 0 0 (pI T N R (fun x9 I9 L9 => (-18 ≤ x9.toInt) ∧ (x9.toInt ≤ 18) ∧ (∀ a1, R r0 1 = some a1 → x9.toInt < (I a1 0).toInt) ∧ ((0 : Int) ≤ 0) ∧ (∀ a1, R r0 1 = some a1 → -(I a1 0).toInt < x9.toInt) ∧ (∀ a1, R r0 1 = some a1 → PLD x9.toInt n1.toInt n2.toInt (I a1 0).toInt) ∧ (I = I9 ∧ L = L9))) := by
  refine ⟨_, rfl, Nat.le_of_ble_eq_true rfl, fun V C S => ?_⟩
  show V 0 [(0, .ref r0), (1, .int n1), (2, .int n2)] [] (T, N, I, L, R) 0 0
  have gn1 := rg n1
  have gn2 := rg n2
  obtain ⟨T_r0, A_r0, ⟨r0_1, R_r0_1, H_r0_1⟩, ⟨r0_2, R_r0_2, H_r0_2⟩, ⟨r0_4, R_r0_4, H_r0_4⟩, ⟨r0_5, R_r0_5, H_r0_5⟩, ⟨r0_10, R_r0_10, H_r0_10⟩, ⟨r0_18, R_r0_18, H_r0_18⟩, ⟨r0_20, R_r0_20, H_r0_20⟩, ⟨r0_21, R_r0_21, H_r0_21⟩, ⟨r0_22, R_r0_22, H_r0_22⟩, ⟨r0_23, R_r0_23, H_r0_23⟩, ⟨r0_25, R_r0_25, H_r0_25⟩, ⟨r0_26, R_r0_26, H_r0_26⟩, ⟨r0_27, R_r0_27, H_r0_27⟩, ⟨r0_28, R_r0_28, H_r0_28⟩, ⟨r0_34, R_r0_34, H_r0_34⟩, J_r0, Y_r0⟩ := id H_r0
  have G_r0 : mF T R r0 := ⟨J_r0, Y_r0, T_r0⟩
  obtain ⟨w_r0_1_0, k0_r0_1_0⟩ : ∃ x, I r0_1 0 = x := ⟨_, rfl⟩
  have gw_r0_1_0 := rg w_r0_1_0
  have ow_r0_1_0 := IM.pi hI R_r0_1 k0_r0_1_0
  refine k_iload_n C rfl rfl rfl ?_
  refine k_iload_n C rfl rfl rfl ?_
  refine z_iadd C rfl rfl ⟨by omega, by omega⟩ (fun x1 ex1 => ?_)
  refine k_aload_n C rfl rfl rfl ?_
  refine c_VI C (a_X12_p hI H_r0) rfl rfl rfl rfl rfl ⟨_, rfl, rfl, T_r0, Nat.le_of_ble_eq_true rfl⟩ rfl rfl (Nat.le_of_ble_eq_true rfl) (Nat.le_of_ble_eq_true rfl) (Nat.le_of_ble_eq_true rfl) ?_
  rintro x2 _ _ ⟨o0x2, o1x2, p0x2, rfl, rfl⟩
  have p0x2 := p0x2 r0_1 R_r0_1
  have gx2 := rg x2
  try simp only [k0_r0_1_0, k0_r0_1_0] at p0x2
  try have q0x2 := congrArg Int32.toInt p0x2
  refine z_iremB C rfl rfl (by omega) (fun x3 ex3 => ?_)
  have bx3 : -18 ≤ x3.toInt ∧ x3.toInt ≤ 18 := by omega
  exact k_iret C rfl (Or.inl rfl) (Nat.le_of_ble_eq_true rfl) (Nat.le_of_ble_eq_true rfl) ⟨_, _, _, rfl, rfl, by omega, by omega, fun a1 h1 => by cases (R_r0_1.symm.trans h1); first | omega | (simp only [k0_r0_1_0] <;> omega), by first | omega | (simp only [k0_r0_1_0] <;> omega), fun a1 h1 => by cases (R_r0_1.symm.trans h1); first | omega | (simp only [k0_r0_1_0] <;> omega), fun a1 h1 => by cases (R_r0_1.symm.trans h1); simp only [k0_r0_1_0]; exact PLD.of ex3.2.2.2 (by omega) p0x2, rfl, rfl⟩

theorem a_X12_isLike_e {d : Nat} {T N : Nat → Nat} {I : IT} {L : LT} {R : RT} {A : Nat → Prop} {r0 : Nat} {n1 n2 : Int32} (hI : IM R r0 I) (H_r0 : (h_MD T N R A) r0) (b0_n1 : 0 ≤ n1.toInt) (b1_n1 : n1.toInt ≤ 47) (b0_n2 : 0 ≤ n2.toInt) (b1_n2 : n2.toInt ≤ 47) : Ex (d + 2) 204 [.ref r0, .int n1, .int n2] (T, N, I, L, R) 0 0 (pI T N R (fun x9 I9 L9 => (0 ≤ x9.toInt) ∧ (x9.toInt ≤ 1) ∧ (∀ a4 a5, R r0 4 = some a4 → R r0 5 = some a5 → IFF x9.toInt (RLK I a4 a5 n1.toNatClampNeg n2.toNatClampNeg)) ∧ (I = I9 ∧ L = L9))) := by
  refine ⟨_, rfl, Nat.le_of_ble_eq_true rfl, fun V C S => ?_⟩
  show V 0 [(0, .ref r0), (1, .int n1), (2, .int n2)] [] (T, N, I, L, R) 0 0
  have gn1 := rg n1
  have gn2 := rg n2
  obtain ⟨T_r0, A_r0, ⟨r0_1, R_r0_1, H_r0_1⟩, ⟨r0_2, R_r0_2, H_r0_2⟩, ⟨r0_4, R_r0_4, H_r0_4⟩, ⟨r0_5, R_r0_5, H_r0_5⟩, ⟨r0_10, R_r0_10, H_r0_10⟩, ⟨r0_18, R_r0_18, H_r0_18⟩, ⟨r0_20, R_r0_20, H_r0_20⟩, ⟨r0_21, R_r0_21, H_r0_21⟩, ⟨r0_22, R_r0_22, H_r0_22⟩, ⟨r0_23, R_r0_23, H_r0_23⟩, ⟨r0_25, R_r0_25, H_r0_25⟩, ⟨r0_26, R_r0_26, H_r0_26⟩, ⟨r0_27, R_r0_27, H_r0_27⟩, ⟨r0_28, R_r0_28, H_r0_28⟩, ⟨r0_34, R_r0_34, H_r0_34⟩, J_r0, Y_r0⟩ := id H_r0
  have G_r0 : mF T R r0 := ⟨J_r0, Y_r0, T_r0⟩
  obtain ⟨w_r0_4_n1, k0_r0_4_n1⟩ : ∃ x, I r0_4 n1.toNatClampNeg = x := ⟨_, rfl⟩
  have gw_r0_4_n1 := rg w_r0_4_n1
  have ow_r0_4_n1 := IM.dgR hI R_r0_4 k0_r0_4_n1
  obtain ⟨w_r0_4_n2, k0_r0_4_n2⟩ : ∃ x, I r0_4 n2.toNatClampNeg = x := ⟨_, rfl⟩
  have gw_r0_4_n2 := rg w_r0_4_n2
  have ow_r0_4_n2 := IM.dgR hI R_r0_4 k0_r0_4_n2
  refine k_aload_n C rfl rfl rfl ?_
  refine g_R C rfl rfl rfl T_r0 rfl R_r0_4 ?_
  refine k_iload_n C rfl rfl rfl ?_
  obtain ⟨T_r0_4, N_r0_4, A_r0_4⟩ := id H_r0_4
  refine a_I C rfl rfl T_r0_4 (by rw [N_r0_4]; exact vpi (by omega) (by omega)) k0_r0_4_n1 ?_
  refine k_aload_n C rfl rfl rfl ?_
  refine g_R C rfl rfl rfl T_r0 rfl R_r0_4 ?_
  refine k_iload_n C rfl rfl rfl ?_
  refine a_I C rfl rfl T_r0_4 (by rw [N_r0_4]; exact vpi (by omega) (by omega)) k0_r0_4_n2 ?_
  refine b_icmp_ne C (t := 19) rfl rfl rfl (fun c1 => ?_) (fun c1 => ?_)
  · skip
    refine z_iconst C (z := 0) rfl rfl rfl (fun x2 ex2 => ?_)
    refine k_istore_n C (lw := [(3, .int x2), (0, .ref r0), (1, .int n1), (2, .int n2)]) rfl rfl (Nat.le_of_ble_eq_true rfl) rfl ?_
    refine z_iconst C (z := 0) rfl rfl rfl (fun x3 ex3 => ?_)
    have J4 : ∀ (nn5 : Nat) (x6 : Int32) (x9 : Int32), (MN (41 - x9.toInt) nn5) → (0 ≤ x6.toInt) → (x6.toInt ≤ 1) → (0 ≤ x9.toInt) → (x9.toInt ≤ 41) → (LKL I r0_4 r0_5 n1.toNatClampNeg n2.toNatClampNeg x6.toInt x9.toInt) → V 24 [(0, .ref r0), (1, .int n1), (2, .int n2), (3, .int x6), (4, .int x9)] [] (T, N, I, L, R) 0 0 := by
      intro nn5
      induction nn5 using Nat.strongRecOn with
      | _ nn5 ihJ4 =>
        intro x6 x9 hmnn5 b7 b8 b10 b11 ff24_0
        have gx6 := rg x6
        have gx9 := rg x9
        refine k_iload_n C rfl rfl rfl ?_
        refine b_if_eq C (t := 68) rfl rfl rfl (fun c12 => ?_) (fun c12 => ?_)
        · skip
          refine k_iload_n C rfl rfl rfl ?_
          exact k_iret C rfl (Or.inr ⟨rfl, z01 (by omega) (by omega)⟩) (Nat.le_of_ble_eq_true rfl) (Nat.le_of_ble_eq_true rfl) ⟨_, _, _, rfl, rfl, by omega, by omega, fun a4 a5 h4 h5 => by cases (R_r0_4.symm.trans h4); cases (R_r0_5.symm.trans h5); first | exact LKL.e0 ff24_0 (by omega) | exact LKL.e1 ff24_0 (by rw [k0_r0_4_n1]; omega), rfl, rfl⟩
        refine k_iload C rfl rfl rfl ?_
        refine k_aload_n C rfl rfl rfl ?_
        refine g_R C rfl rfl rfl T_r0 rfl R_r0_4 ?_
        refine k_iload_n C rfl rfl rfl ?_
        refine a_I C rfl rfl T_r0_4 (by rw [N_r0_4]; exact vpi (by omega) (by omega)) k0_r0_4_n1 ?_
        refine b_icmp_gt C (t := 68) rfl rfl rfl (fun c13 => ?_) (fun c13 => ?_)
        · skip
          refine k_iload_n C rfl rfl rfl ?_
          exact k_iret C rfl (Or.inr ⟨rfl, z01 (by omega) (by omega)⟩) (Nat.le_of_ble_eq_true rfl) (Nat.le_of_ble_eq_true rfl) ⟨_, _, _, rfl, rfl, by omega, by omega, fun a4 a5 h4 h5 => by cases (R_r0_4.symm.trans h4); cases (R_r0_5.symm.trans h5); first | exact LKL.e0 ff24_0 (by omega) | exact LKL.e1 ff24_0 (by rw [k0_r0_4_n1]; omega), rfl, rfl⟩
        refine k_aload_n C rfl rfl rfl ?_
        refine k_iload_n C rfl rfl rfl ?_
        refine k_iload C rfl rfl rfl ?_
        refine c_VI C (a_X12_of hI H_r0 (by omega) (by omega) (by omega) (by omega)) rfl rfl rfl rfl rfl ⟨_, rfl, rfl, T_r0, Nat.le_of_ble_eq_true rfl⟩ rfl rfl (Nat.le_of_ble_eq_true rfl) (Nat.le_of_ble_eq_true rfl) (Nat.le_of_ble_eq_true rfl) ?_
        rintro x14 _ _ ⟨o0x14, o1x14, p0x14, rfl, rfl⟩
        have p0x14 := p0x14 r0_5 R_r0_5
        have gx14 := rg x14
        try simp only [k0_r0_4_n1, k0_r0_4_n2] at p0x14
        try have q0x14 := congrArg Int32.toInt p0x14
        have hA := p0x14
        refine k_aload_n C rfl rfl rfl ?_
        refine k_iload_n C rfl rfl rfl ?_
        refine k_iload C rfl rfl rfl ?_
        refine c_VI C (a_X12_of hI H_r0 (by omega) (by omega) (by omega) (by omega)) rfl rfl rfl rfl rfl ⟨_, rfl, rfl, T_r0, Nat.le_of_ble_eq_true rfl⟩ rfl rfl (Nat.le_of_ble_eq_true rfl) (Nat.le_of_ble_eq_true rfl) (Nat.le_of_ble_eq_true rfl) ?_
        rintro x15 _ _ ⟨o0x15, o1x15, p0x15, rfl, rfl⟩
        have p0x15 := p0x15 r0_5 R_r0_5
        have gx15 := rg x15
        try simp only [k0_r0_4_n1, k0_r0_4_n2] at p0x15
        try have q0x15 := congrArg Int32.toInt p0x15
        have hB := p0x15
        refine b_icmp_ne C (t := 60) rfl rfl rfl (fun c16 => ?_) (fun c16 => ?_)
        · skip
          refine z_iconst C (z := 0) rfl rfl rfl (fun x17 ex17 => ?_)
          refine k_istore_n C (lw := [(3, .int x17), (0, .ref r0), (1, .int n1), (2, .int n2), (4, .int x9)]) rfl rfl (Nat.le_of_ble_eq_true rfl) rfl ?_
          refine z_iinc C (z := 1) (lw := fun x18 => [(4, .int x18), (3, .int x17), (0, .ref r0), (1, .int n1), (2, .int n2)]) rfl rfl rfl (Nat.le_of_ble_eq_true rfl) rfl ⟨by omega, by omega⟩ (fun _ => rfl) (fun x18 ex18 => ?_)
          show V 65 [(4, .int x18), (3, .int x17), (0, .ref r0), (1, .int n1), (2, .int n2)] _ _ _ _
          refine k_goto C (pc2 := 24) rfl rfl ?_
          refine k_sub S [(0, .ref r0), (1, .int n1), (2, .int n2), (3, .int x17), (4, .int x18)] (List.forall_mem_cons.mpr ⟨List.mem_of_getElem? (i := 2) rfl, List.forall_mem_cons.mpr ⟨List.mem_of_getElem? (i := 3) rfl, List.forall_mem_cons.mpr ⟨List.mem_of_getElem? (i := 4) rfl, List.forall_mem_cons.mpr ⟨List.mem_of_getElem? (i := 1) rfl, List.forall_mem_cons.mpr ⟨List.mem_of_getElem? (i := 0) rfl, fun _ h => nomatch h⟩⟩⟩⟩⟩) ?_
          exact ihJ4 _ (MN.lt hmnn5 (by omega) (by omega)) x17 x18 rfl (by omega) (by omega) (by omega) (by omega) (by first | exact LKL.s1 ff24_0 (by omega) (by omega) hA hB (by omega) (by omega) (by omega) | exact LKL.s0 (k := x9) (by omega) (by rw [k0_r0_4_n1]; omega) hA hB (by omega) (by omega))
        refine z_iconst C (z := 1) rfl rfl rfl (fun x19 ex19 => ?_)
        refine k_goto C (pc2 := 61) rfl rfl ?_
        refine k_istore_n C (lw := [(3, .int x19), (0, .ref r0), (1, .int n1), (2, .int n2), (4, .int x9)]) rfl rfl (Nat.le_of_ble_eq_true rfl) rfl ?_
        refine z_iinc C (z := 1) (lw := fun x20 => [(4, .int x20), (3, .int x19), (0, .ref r0), (1, .int n1), (2, .int n2)]) rfl rfl rfl (Nat.le_of_ble_eq_true rfl) rfl ⟨by omega, by omega⟩ (fun _ => rfl) (fun x20 ex20 => ?_)
        show V 65 [(4, .int x20), (3, .int x19), (0, .ref r0), (1, .int n1), (2, .int n2)] _ _ _ _
        refine k_goto C (pc2 := 24) rfl rfl ?_
        refine k_sub S [(0, .ref r0), (1, .int n1), (2, .int n2), (3, .int x19), (4, .int x20)] (List.forall_mem_cons.mpr ⟨List.mem_of_getElem? (i := 2) rfl, List.forall_mem_cons.mpr ⟨List.mem_of_getElem? (i := 3) rfl, List.forall_mem_cons.mpr ⟨List.mem_of_getElem? (i := 4) rfl, List.forall_mem_cons.mpr ⟨List.mem_of_getElem? (i := 1) rfl, List.forall_mem_cons.mpr ⟨List.mem_of_getElem? (i := 0) rfl, fun _ h => nomatch h⟩⟩⟩⟩⟩) ?_
        exact ihJ4 _ (MN.lt hmnn5 (by omega) (by omega)) x19 x20 rfl (by omega) (by omega) (by omega) (by omega) (by first | exact LKL.s1 ff24_0 (by omega) (by omega) hA hB (by omega) (by omega) (by omega) | exact LKL.s0 (k := x9) (by omega) (by rw [k0_r0_4_n1]; omega) hA hB (by omega) (by omega))
    refine k_istore C (lw := [(4, .int x3), (3, .int x2), (0, .ref r0), (1, .int n1), (2, .int n2)]) rfl rfl (Nat.le_of_ble_eq_true rfl) rfl ?_
    refine k_sub S [(0, .ref r0), (1, .int n1), (2, .int n2), (3, .int x2), (4, .int x3)] (List.forall_mem_cons.mpr ⟨List.mem_of_getElem? (i := 2) rfl, List.forall_mem_cons.mpr ⟨List.mem_of_getElem? (i := 3) rfl, List.forall_mem_cons.mpr ⟨List.mem_of_getElem? (i := 4) rfl, List.forall_mem_cons.mpr ⟨List.mem_of_getElem? (i := 1) rfl, List.forall_mem_cons.mpr ⟨List.mem_of_getElem? (i := 0) rfl, fun _ h => nomatch h⟩⟩⟩⟩⟩) ?_
    exact J4 _ x2 x3 rfl (by omega) (by omega) (by omega) (by omega) (by first | exact LKL.z1 (by rw [k0_r0_4_n1, k0_r0_4_n2]; omega) (by omega) (by omega) | exact LKL.z0 (by rw [k0_r0_4_n1, k0_r0_4_n2]; omega) (by omega))
  refine z_iconst C (z := 1) rfl rfl rfl (fun x21 ex21 => ?_)
  refine k_goto C (pc2 := 20) rfl rfl ?_
  refine k_istore_n C (lw := [(3, .int x21), (0, .ref r0), (1, .int n1), (2, .int n2)]) rfl rfl (Nat.le_of_ble_eq_true rfl) rfl ?_
  refine z_iconst C (z := 0) rfl rfl rfl (fun x22 ex22 => ?_)
  have J23 : ∀ (nn24 : Nat) (x25 : Int32) (x28 : Int32), (MN (41 - x28.toInt) nn24) → (0 ≤ x25.toInt) → (x25.toInt ≤ 1) → (0 ≤ x28.toInt) → (x28.toInt ≤ 41) → (LKL I r0_4 r0_5 n1.toNatClampNeg n2.toNatClampNeg x25.toInt x28.toInt) → V 24 [(0, .ref r0), (1, .int n1), (2, .int n2), (3, .int x25), (4, .int x28)] [] (T, N, I, L, R) 0 0 := by
    intro nn24
    induction nn24 using Nat.strongRecOn with
    | _ nn24 ihJ23 =>
      intro x25 x28 hmnn24 b26 b27 b29 b30 ff24_0
      have gx25 := rg x25
      have gx28 := rg x28
      refine k_iload_n C rfl rfl rfl ?_
      refine b_if_eq C (t := 68) rfl rfl rfl (fun c31 => ?_) (fun c31 => ?_)
      · skip
        refine k_iload_n C rfl rfl rfl ?_
        exact k_iret C rfl (Or.inr ⟨rfl, z01 (by omega) (by omega)⟩) (Nat.le_of_ble_eq_true rfl) (Nat.le_of_ble_eq_true rfl) ⟨_, _, _, rfl, rfl, by omega, by omega, fun a4 a5 h4 h5 => by cases (R_r0_4.symm.trans h4); cases (R_r0_5.symm.trans h5); first | exact LKL.e0 ff24_0 (by omega) | exact LKL.e1 ff24_0 (by rw [k0_r0_4_n1]; omega), rfl, rfl⟩
      refine k_iload C rfl rfl rfl ?_
      refine k_aload_n C rfl rfl rfl ?_
      refine g_R C rfl rfl rfl T_r0 rfl R_r0_4 ?_
      refine k_iload_n C rfl rfl rfl ?_
      refine a_I C rfl rfl T_r0_4 (by rw [N_r0_4]; exact vpi (by omega) (by omega)) k0_r0_4_n1 ?_
      refine b_icmp_gt C (t := 68) rfl rfl rfl (fun c32 => ?_) (fun c32 => ?_)
      · skip
        refine k_iload_n C rfl rfl rfl ?_
        exact k_iret C rfl (Or.inr ⟨rfl, z01 (by omega) (by omega)⟩) (Nat.le_of_ble_eq_true rfl) (Nat.le_of_ble_eq_true rfl) ⟨_, _, _, rfl, rfl, by omega, by omega, fun a4 a5 h4 h5 => by cases (R_r0_4.symm.trans h4); cases (R_r0_5.symm.trans h5); first | exact LKL.e0 ff24_0 (by omega) | exact LKL.e1 ff24_0 (by rw [k0_r0_4_n1]; omega), rfl, rfl⟩
      refine k_aload_n C rfl rfl rfl ?_
      refine k_iload_n C rfl rfl rfl ?_
      refine k_iload C rfl rfl rfl ?_
      refine c_VI C (a_X12_of hI H_r0 (by omega) (by omega) (by omega) (by omega)) rfl rfl rfl rfl rfl ⟨_, rfl, rfl, T_r0, Nat.le_of_ble_eq_true rfl⟩ rfl rfl (Nat.le_of_ble_eq_true rfl) (Nat.le_of_ble_eq_true rfl) (Nat.le_of_ble_eq_true rfl) ?_
      rintro x33 _ _ ⟨o0x33, o1x33, p0x33, rfl, rfl⟩
      have p0x33 := p0x33 r0_5 R_r0_5
      have gx33 := rg x33
      try simp only [k0_r0_4_n1, k0_r0_4_n2] at p0x33
      try have q0x33 := congrArg Int32.toInt p0x33
      have hA := p0x33
      refine k_aload_n C rfl rfl rfl ?_
      refine k_iload_n C rfl rfl rfl ?_
      refine k_iload C rfl rfl rfl ?_
      refine c_VI C (a_X12_of hI H_r0 (by omega) (by omega) (by omega) (by omega)) rfl rfl rfl rfl rfl ⟨_, rfl, rfl, T_r0, Nat.le_of_ble_eq_true rfl⟩ rfl rfl (Nat.le_of_ble_eq_true rfl) (Nat.le_of_ble_eq_true rfl) (Nat.le_of_ble_eq_true rfl) ?_
      rintro x34 _ _ ⟨o0x34, o1x34, p0x34, rfl, rfl⟩
      have p0x34 := p0x34 r0_5 R_r0_5
      have gx34 := rg x34
      try simp only [k0_r0_4_n1, k0_r0_4_n2] at p0x34
      try have q0x34 := congrArg Int32.toInt p0x34
      have hB := p0x34
      refine b_icmp_ne C (t := 60) rfl rfl rfl (fun c35 => ?_) (fun c35 => ?_)
      · skip
        refine z_iconst C (z := 0) rfl rfl rfl (fun x36 ex36 => ?_)
        refine k_istore_n C (lw := [(3, .int x36), (0, .ref r0), (1, .int n1), (2, .int n2), (4, .int x28)]) rfl rfl (Nat.le_of_ble_eq_true rfl) rfl ?_
        refine z_iinc C (z := 1) (lw := fun x37 => [(4, .int x37), (3, .int x36), (0, .ref r0), (1, .int n1), (2, .int n2)]) rfl rfl rfl (Nat.le_of_ble_eq_true rfl) rfl ⟨by omega, by omega⟩ (fun _ => rfl) (fun x37 ex37 => ?_)
        show V 65 [(4, .int x37), (3, .int x36), (0, .ref r0), (1, .int n1), (2, .int n2)] _ _ _ _
        refine k_goto C (pc2 := 24) rfl rfl ?_
        refine k_sub S [(0, .ref r0), (1, .int n1), (2, .int n2), (3, .int x36), (4, .int x37)] (List.forall_mem_cons.mpr ⟨List.mem_of_getElem? (i := 2) rfl, List.forall_mem_cons.mpr ⟨List.mem_of_getElem? (i := 3) rfl, List.forall_mem_cons.mpr ⟨List.mem_of_getElem? (i := 4) rfl, List.forall_mem_cons.mpr ⟨List.mem_of_getElem? (i := 1) rfl, List.forall_mem_cons.mpr ⟨List.mem_of_getElem? (i := 0) rfl, fun _ h => nomatch h⟩⟩⟩⟩⟩) ?_
        exact ihJ23 _ (MN.lt hmnn24 (by omega) (by omega)) x36 x37 rfl (by omega) (by omega) (by omega) (by omega) (by first | exact LKL.s1 ff24_0 (by omega) (by omega) hA hB (by omega) (by omega) (by omega) | exact LKL.s0 (k := x28) (by omega) (by rw [k0_r0_4_n1]; omega) hA hB (by omega) (by omega))
      refine z_iconst C (z := 1) rfl rfl rfl (fun x38 ex38 => ?_)
      refine k_goto C (pc2 := 61) rfl rfl ?_
      refine k_istore_n C (lw := [(3, .int x38), (0, .ref r0), (1, .int n1), (2, .int n2), (4, .int x28)]) rfl rfl (Nat.le_of_ble_eq_true rfl) rfl ?_
      refine z_iinc C (z := 1) (lw := fun x39 => [(4, .int x39), (3, .int x38), (0, .ref r0), (1, .int n1), (2, .int n2)]) rfl rfl rfl (Nat.le_of_ble_eq_true rfl) rfl ⟨by omega, by omega⟩ (fun _ => rfl) (fun x39 ex39 => ?_)
      show V 65 [(4, .int x39), (3, .int x38), (0, .ref r0), (1, .int n1), (2, .int n2)] _ _ _ _
      refine k_goto C (pc2 := 24) rfl rfl ?_
      refine k_sub S [(0, .ref r0), (1, .int n1), (2, .int n2), (3, .int x38), (4, .int x39)] (List.forall_mem_cons.mpr ⟨List.mem_of_getElem? (i := 2) rfl, List.forall_mem_cons.mpr ⟨List.mem_of_getElem? (i := 3) rfl, List.forall_mem_cons.mpr ⟨List.mem_of_getElem? (i := 4) rfl, List.forall_mem_cons.mpr ⟨List.mem_of_getElem? (i := 1) rfl, List.forall_mem_cons.mpr ⟨List.mem_of_getElem? (i := 0) rfl, fun _ h => nomatch h⟩⟩⟩⟩⟩) ?_
      exact ihJ23 _ (MN.lt hmnn24 (by omega) (by omega)) x38 x39 rfl (by omega) (by omega) (by omega) (by omega) (by first | exact LKL.s1 ff24_0 (by omega) (by omega) hA hB (by omega) (by omega) (by omega) | exact LKL.s0 (k := x28) (by omega) (by rw [k0_r0_4_n1]; omega) hA hB (by omega) (by omega))
  refine k_istore C (lw := [(4, .int x22), (3, .int x21), (0, .ref r0), (1, .int n1), (2, .int n2)]) rfl rfl (Nat.le_of_ble_eq_true rfl) rfl ?_
  refine k_sub S [(0, .ref r0), (1, .int n1), (2, .int n2), (3, .int x21), (4, .int x22)] (List.forall_mem_cons.mpr ⟨List.mem_of_getElem? (i := 2) rfl, List.forall_mem_cons.mpr ⟨List.mem_of_getElem? (i := 3) rfl, List.forall_mem_cons.mpr ⟨List.mem_of_getElem? (i := 4) rfl, List.forall_mem_cons.mpr ⟨List.mem_of_getElem? (i := 1) rfl, List.forall_mem_cons.mpr ⟨List.mem_of_getElem? (i := 0) rfl, fun _ h => nomatch h⟩⟩⟩⟩⟩) ?_
  exact J23 _ x21 x22 rfl (by omega) (by omega) (by omega) (by omega) (by first | exact LKL.z1 (by rw [k0_r0_4_n1, k0_r0_4_n2]; omega) (by omega) (by omega) | exact LKL.z0 (by rw [k0_r0_4_n1, k0_r0_4_n2]; omega) (by omega))

theorem a_X12_isNought_e {d : Nat} {T N : Nat → Nat} {I : IT} {L : LT} {R : RT} {A : Nat → Prop} {r0 : Nat} {n1 : Int32} (hI : IM R r0 I) (H_r0 : (h_MD T N R A) r0) (b0_n1 : 0 ≤ n1.toInt) (b1_n1 : n1.toInt ≤ 47) : Ex (d + 2) 203 [.ref r0, .int n1] (T, N, I, L, R) 0 0 (pI T N R (fun x9 I9 L9 => (0 ≤ x9.toInt) ∧ (x9.toInt ≤ 1) ∧ (∀ a4 a5, R r0 4 = some a4 → R r0 5 = some a5 → x9.toInt = 0 → NZ I a5 n1.toNatClampNeg (I a4 n1.toNatClampNeg).toInt) ∧ (∀ a4 a5, R r0 4 = some a4 → R r0 5 = some a5 → IFF x9.toInt (NQA I a4 a5 n1.toNatClampNeg)) ∧ (I = I9 ∧ L = L9))) := by
  refine ⟨_, rfl, Nat.le_of_ble_eq_true rfl, fun V C S => ?_⟩
  show V 0 [(0, .ref r0), (1, .int n1)] [] (T, N, I, L, R) 0 0
  have gn1 := rg n1
  obtain ⟨T_r0, A_r0, ⟨r0_1, R_r0_1, H_r0_1⟩, ⟨r0_2, R_r0_2, H_r0_2⟩, ⟨r0_4, R_r0_4, H_r0_4⟩, ⟨r0_5, R_r0_5, H_r0_5⟩, ⟨r0_10, R_r0_10, H_r0_10⟩, ⟨r0_18, R_r0_18, H_r0_18⟩, ⟨r0_20, R_r0_20, H_r0_20⟩, ⟨r0_21, R_r0_21, H_r0_21⟩, ⟨r0_22, R_r0_22, H_r0_22⟩, ⟨r0_23, R_r0_23, H_r0_23⟩, ⟨r0_25, R_r0_25, H_r0_25⟩, ⟨r0_26, R_r0_26, H_r0_26⟩, ⟨r0_27, R_r0_27, H_r0_27⟩, ⟨r0_28, R_r0_28, H_r0_28⟩, ⟨r0_34, R_r0_34, H_r0_34⟩, J_r0, Y_r0⟩ := id H_r0
  have G_r0 : mF T R r0 := ⟨J_r0, Y_r0, T_r0⟩
  obtain ⟨w_r0_4_n1, k0_r0_4_n1⟩ : ∃ x, I r0_4 n1.toNatClampNeg = x := ⟨_, rfl⟩
  have gw_r0_4_n1 := rg w_r0_4_n1
  have ow_r0_4_n1 := IM.dgR hI R_r0_4 k0_r0_4_n1
  refine z_iconst C (z := 1) rfl rfl rfl (fun x1 ex1 => ?_)
  refine k_istore_n C (lw := [(2, .int x1), (0, .ref r0), (1, .int n1)]) rfl rfl (Nat.le_of_ble_eq_true rfl) rfl ?_
  refine z_iconst C (z := 0) rfl rfl rfl (fun x2 ex2 => ?_)
  have J3 : ∀ (nn4 : Nat) (x5 : Int32) (x8 : Int32), (MN (41 - x8.toInt) nn4) → (0 ≤ x5.toInt) → (x5.toInt ≤ 1) → (0 ≤ x8.toInt) → (x8.toInt ≤ 41) → (x5.toInt = 0 → NZ I r0_5 n1.toNatClampNeg w_r0_4_n1.toInt) → (NQL I r0_5 n1.toNatClampNeg x5.toInt x8.toInt) → (x8.toInt ≤ w_r0_4_n1.toInt + 1) → V 4 [(0, .ref r0), (1, .int n1), (2, .int x5), (3, .int x8)] [] (T, N, I, L, R) 0 0 := by
    intro nn4
    induction nn4 using Nat.strongRecOn with
    | _ nn4 ihJ3 =>
      intro x5 x8 hmnn4 b6 b7 b9 b10 ff4_0 ff4_1 ff4_2
      have gx5 := rg x5
      have gx8 := rg x8
      refine k_iload_n C rfl rfl rfl ?_
      refine k_aload_n C rfl rfl rfl ?_
      refine g_R C rfl rfl rfl T_r0 rfl R_r0_4 ?_
      refine k_iload_n C rfl rfl rfl ?_
      obtain ⟨T_r0_4, N_r0_4, A_r0_4⟩ := id H_r0_4
      refine a_I C rfl rfl T_r0_4 (by rw [N_r0_4]; exact vpi (by omega) (by omega)) k0_r0_4_n1 ?_
      refine b_icmp_gt C (t := 39) rfl rfl rfl (fun c11 => ?_) (fun c11 => ?_)
      · skip
        refine k_iload_n C rfl rfl rfl ?_
        exact k_iret C rfl (Or.inr ⟨rfl, z01 (by omega) (by omega)⟩) (Nat.le_of_ble_eq_true rfl) (Nat.le_of_ble_eq_true rfl) ⟨_, _, _, rfl, rfl, by omega, by omega, fun a4 a5 h4 h5 => by cases (R_r0_4.symm.trans h4); cases (R_r0_5.symm.trans h5); simp only [k0_r0_4_n1]; exact ff4_0, fun a4 a5 h4 h5 => by cases (R_r0_4.symm.trans h4); cases (R_r0_5.symm.trans h5); exact NQL.e ff4_1 (D := w_r0_4_n1.toInt) (by rw [k0_r0_4_n1]) (by omega), rfl, rfl⟩
      refine k_iload_n C rfl rfl rfl ?_
      refine b_if_eq C (t := 31) rfl rfl rfl (fun c12 => ?_) (fun c12 => ?_)
      · skip
        refine z_iconst C (z := 0) rfl rfl rfl (fun x13 ex13 => ?_)
        refine k_istore_n C (lw := [(2, .int x13), (0, .ref r0), (1, .int n1), (3, .int x8)]) rfl rfl (Nat.le_of_ble_eq_true rfl) rfl ?_
        refine z_iinc C (z := 1) (lw := fun x14 => [(3, .int x14), (2, .int x13), (0, .ref r0), (1, .int n1)]) rfl rfl rfl (Nat.le_of_ble_eq_true rfl) rfl ⟨by omega, by omega⟩ (fun _ => rfl) (fun x14 ex14 => ?_)
        show V 36 [(3, .int x14), (2, .int x13), (0, .ref r0), (1, .int n1)] _ _ _ _
        refine k_goto C (pc2 := 4) rfl rfl ?_
        refine k_sub S [(0, .ref r0), (1, .int n1), (2, .int x13), (3, .int x14)] (List.forall_mem_cons.mpr ⟨List.mem_of_getElem? (i := 2) rfl, List.forall_mem_cons.mpr ⟨List.mem_of_getElem? (i := 3) rfl, List.forall_mem_cons.mpr ⟨List.mem_of_getElem? (i := 1) rfl, List.forall_mem_cons.mpr ⟨List.mem_of_getElem? (i := 0) rfl, fun _ h => nomatch h⟩⟩⟩⟩) ?_
        exact ihJ3 _ (MN.lt hmnn4 (by omega) (by omega)) x13 x14 rfl (by omega) (by omega) (by omega) (by omega) (by first | (intro h; exfalso; omega) | exact (fun _ => ff4_0 (by omega)) | exact (fun _ => ⟨x8.toNatClampNeg, by have := ncz (x := x8) (by omega); omega, by omega⟩)) (by first | exact NQL.s1 ff4_1 (by omega) (by omega) hA (by omega) (by omega) (by omega) | exact NQL.s0 (by omega) hA (by omega) (by omega) (by omega) | exact NQL.n ff4_1 (by omega) (by omega) (by omega)) (by omega)
      refine k_aload_n C rfl rfl rfl ?_
      refine k_iload_n C rfl rfl rfl ?_
      refine k_iload_n C rfl rfl rfl ?_
      refine c_VI C (a_X12_of hI H_r0 (by omega) (by omega) (by omega) (by omega)) rfl rfl rfl rfl rfl ⟨_, rfl, rfl, T_r0, Nat.le_of_ble_eq_true rfl⟩ rfl rfl (Nat.le_of_ble_eq_true rfl) (Nat.le_of_ble_eq_true rfl) (Nat.le_of_ble_eq_true rfl) ?_
      rintro x15 _ _ ⟨o0x15, o1x15, p0x15, rfl, rfl⟩
      have p0x15 := p0x15 r0_5 R_r0_5
      have gx15 := rg x15
      try simp only [k0_r0_4_n1] at p0x15
      try have q0x15 := congrArg Int32.toInt p0x15
      have hA := p0x15
      refine b_if_ne C (t := 31) rfl rfl rfl (fun c16 => ?_) (fun c16 => ?_)
      · skip
        refine z_iconst C (z := 0) rfl rfl rfl (fun x17 ex17 => ?_)
        refine k_istore_n C (lw := [(2, .int x17), (0, .ref r0), (1, .int n1), (3, .int x8)]) rfl rfl (Nat.le_of_ble_eq_true rfl) rfl ?_
        refine z_iinc C (z := 1) (lw := fun x18 => [(3, .int x18), (2, .int x17), (0, .ref r0), (1, .int n1)]) rfl rfl rfl (Nat.le_of_ble_eq_true rfl) rfl ⟨by omega, by omega⟩ (fun _ => rfl) (fun x18 ex18 => ?_)
        show V 36 [(3, .int x18), (2, .int x17), (0, .ref r0), (1, .int n1)] _ _ _ _
        refine k_goto C (pc2 := 4) rfl rfl ?_
        refine k_sub S [(0, .ref r0), (1, .int n1), (2, .int x17), (3, .int x18)] (List.forall_mem_cons.mpr ⟨List.mem_of_getElem? (i := 2) rfl, List.forall_mem_cons.mpr ⟨List.mem_of_getElem? (i := 3) rfl, List.forall_mem_cons.mpr ⟨List.mem_of_getElem? (i := 1) rfl, List.forall_mem_cons.mpr ⟨List.mem_of_getElem? (i := 0) rfl, fun _ h => nomatch h⟩⟩⟩⟩) ?_
        exact ihJ3 _ (MN.lt hmnn4 (by omega) (by omega)) x17 x18 rfl (by omega) (by omega) (by omega) (by omega) (by first | (intro h; exfalso; omega) | exact (fun _ => ff4_0 (by omega)) | exact (fun _ => ⟨x8.toNatClampNeg, by have := ncz (x := x8) (by omega); omega, by omega⟩)) (by first | exact NQL.s1 ff4_1 (by omega) (by omega) hA (by omega) (by omega) (by omega) | exact NQL.s0 (by omega) hA (by omega) (by omega) (by omega) | exact NQL.n ff4_1 (by omega) (by omega) (by omega)) (by omega)
      refine z_iconst C (z := 1) rfl rfl rfl (fun x19 ex19 => ?_)
      refine k_goto C (pc2 := 32) rfl rfl ?_
      refine k_istore_n C (lw := [(2, .int x19), (0, .ref r0), (1, .int n1), (3, .int x8)]) rfl rfl (Nat.le_of_ble_eq_true rfl) rfl ?_
      refine z_iinc C (z := 1) (lw := fun x20 => [(3, .int x20), (2, .int x19), (0, .ref r0), (1, .int n1)]) rfl rfl rfl (Nat.le_of_ble_eq_true rfl) rfl ⟨by omega, by omega⟩ (fun _ => rfl) (fun x20 ex20 => ?_)
      show V 36 [(3, .int x20), (2, .int x19), (0, .ref r0), (1, .int n1)] _ _ _ _
      refine k_goto C (pc2 := 4) rfl rfl ?_
      refine k_sub S [(0, .ref r0), (1, .int n1), (2, .int x19), (3, .int x20)] (List.forall_mem_cons.mpr ⟨List.mem_of_getElem? (i := 2) rfl, List.forall_mem_cons.mpr ⟨List.mem_of_getElem? (i := 3) rfl, List.forall_mem_cons.mpr ⟨List.mem_of_getElem? (i := 1) rfl, List.forall_mem_cons.mpr ⟨List.mem_of_getElem? (i := 0) rfl, fun _ h => nomatch h⟩⟩⟩⟩) ?_
      exact ihJ3 _ (MN.lt hmnn4 (by omega) (by omega)) x19 x20 rfl (by omega) (by omega) (by omega) (by omega) (by first | (intro h; exfalso; omega) | exact (fun _ => ff4_0 (by omega)) | exact (fun _ => ⟨x8.toNatClampNeg, by have := ncz (x := x8) (by omega); omega, by omega⟩)) (by first | exact NQL.s1 ff4_1 (by omega) (by omega) hA (by omega) (by omega) (by omega) | exact NQL.s0 (by omega) hA (by omega) (by omega) (by omega) | exact NQL.n ff4_1 (by omega) (by omega) (by omega)) (by omega)
  refine k_istore_n C (lw := [(3, .int x2), (2, .int x1), (0, .ref r0), (1, .int n1)]) rfl rfl (Nat.le_of_ble_eq_true rfl) rfl ?_
  refine k_sub S [(0, .ref r0), (1, .int n1), (2, .int x1), (3, .int x2)] (List.forall_mem_cons.mpr ⟨List.mem_of_getElem? (i := 2) rfl, List.forall_mem_cons.mpr ⟨List.mem_of_getElem? (i := 3) rfl, List.forall_mem_cons.mpr ⟨List.mem_of_getElem? (i := 1) rfl, List.forall_mem_cons.mpr ⟨List.mem_of_getElem? (i := 0) rfl, fun _ h => nomatch h⟩⟩⟩⟩) ?_
  exact J3 _ x1 x2 rfl (by omega) (by omega) (by omega) (by omega) (by intro h; exfalso; omega) (by exact NQL.z (by omega) (by omega)) (by omega)

theorem a_X12_takes_e {d : Nat} {T N : Nat → Nat} {I : IT} {L : LT} {R : RT} {A : Nat → Prop} {r0 : Nat} {n1 n2 : Int32} (hI : IM R r0 I) (H_r0 : (h_MD T N R A) r0) (b0_n1 : 0 ≤ n1.toInt) (b1_n1 : n1.toInt ≤ 47) (b0_n2 : 0 ≤ n2.toInt) (b1_n2 : n2.toInt ≤ 15) : Ex (d + 3) 200 [.ref r0, .int n1, .int n2] (T, N, I, L, R) 0 0 (pV T N R (fun I9 L9 => (∀ a4, R r0 4 = some a4 → 0 ≤ (I9 a4 n1.toNatClampNeg).toInt ∧ (I9 a4 n1.toNatClampNeg).toInt ≤ 8) ∧ (∀ a1 a4, R r0 1 = some a1 → R r0 4 = some a4 → (I9 a4 n1.toNatClampNeg).toInt = (I a1 (6 + 10 * n2.toNatClampNeg)).toInt) ∧ (∀ a1 a4 a5, R r0 1 = some a1 → R r0 4 = some a4 → R r0 5 = some a5 → n2.toInt < (I a1 1).toInt → QN I9 a5 n1.toNatClampNeg ((I9 a4 n1.toNatClampNeg).toInt + 1) (I a1 0).toInt) ∧ (∀ a1 a4 a5, R r0 1 = some a1 → R r0 4 = some a4 → R r0 5 = some a5 → TKE I9 I a1 a5 n1.toNatClampNeg (6 + 10 * n2.toNatClampNeg + 1) (I9 a4 n1.toNatClampNeg).toInt) ∧ (∀ a4, R r0 4 = some a4 → ∀ r : Nat, r ≠ n1.toNatClampNeg → I9 a4 r = I a4 r) ∧ (∀ a5, R r0 5 = some a5 → ∀ r : Nat, (r < 41 * n1.toNatClampNeg ∨ 41 * n1.toNatClampNeg + 41 ≤ r) → I9 a5 r = I a5 r) ∧ (IM R r0 I9 ∧ CM A R r0 [] [4, 5] I L I9 L9))) := by
  refine ⟨_, rfl, Nat.le_of_ble_eq_true rfl, fun V C S => ?_⟩
  show V 0 [(0, .ref r0), (1, .int n1), (2, .int n2)] [] (T, N, I, L, R) 0 0
  have gn1 := rg n1
  have gn2 := rg n2
  obtain ⟨T_r0, A_r0, ⟨r0_1, R_r0_1, H_r0_1⟩, ⟨r0_2, R_r0_2, H_r0_2⟩, ⟨r0_4, R_r0_4, H_r0_4⟩, ⟨r0_5, R_r0_5, H_r0_5⟩, ⟨r0_10, R_r0_10, H_r0_10⟩, ⟨r0_18, R_r0_18, H_r0_18⟩, ⟨r0_20, R_r0_20, H_r0_20⟩, ⟨r0_21, R_r0_21, H_r0_21⟩, ⟨r0_22, R_r0_22, H_r0_22⟩, ⟨r0_23, R_r0_23, H_r0_23⟩, ⟨r0_25, R_r0_25, H_r0_25⟩, ⟨r0_26, R_r0_26, H_r0_26⟩, ⟨r0_27, R_r0_27, H_r0_27⟩, ⟨r0_28, R_r0_28, H_r0_28⟩, ⟨r0_34, R_r0_34, H_r0_34⟩, J_r0, Y_r0⟩ := id H_r0
  have G_r0 : mF T R r0 := ⟨J_r0, Y_r0, T_r0⟩
  obtain ⟨w_r0_1_E_6_10_n2_toNatClampNeg, k0_r0_1_E_6_10_n2_toNatClampNeg⟩ : ∃ x, I r0_1 (6 + 10 * n2.toNatClampNeg) = x := ⟨_, rfl⟩
  have gw_r0_1_E_6_10_n2_toNatClampNeg := rg w_r0_1_E_6_10_n2_toNatClampNeg
  obtain ⟨w_r0_1_0, k0_r0_1_0⟩ : ∃ x, I r0_1 0 = x := ⟨_, rfl⟩
  have gw_r0_1_0 := rg w_r0_1_0
  have ow_r0_1_0 := IM.pi hI R_r0_1 k0_r0_1_0
  obtain ⟨w_r0_1_1, k0_r0_1_1⟩ : ∃ x, I r0_1 1 = x := ⟨_, rfl⟩
  have gw_r0_1_1 := rg w_r0_1_1
  have ow_r0_1_1 := IM.c1 hI R_r0_1 k0_r0_1_1
  refine k_aload_n C rfl rfl rfl ?_
  refine g_R C rfl rfl rfl T_r0 rfl R_r0_4 ?_
  refine k_iload_n C rfl rfl rfl ?_
  refine k_aload_n C rfl rfl rfl ?_
  refine k_iload_n C rfl rfl rfl ?_
  refine c_VI C (a_X12_degreeOf hI H_r0 (by omega) (by omega)) rfl rfl rfl rfl rfl ⟨_, rfl, rfl, T_r0, Nat.le_of_ble_eq_true rfl⟩ rfl rfl (Nat.le_of_ble_eq_true rfl) (Nat.le_of_ble_eq_true rfl) (Nat.le_of_ble_eq_true rfl) ?_
  rintro x1 _ _ ⟨o0x1, o1x1, p0x1, rfl, rfl⟩
  have p0x1 := p0x1 r0_1 R_r0_1
  have gx1 := rg x1
  try simp only [k0_r0_1_E_6_10_n2_toNatClampNeg, k0_r0_1_0, k0_r0_1_1, k0_r0_1_E_6_10_n2_toNatClampNeg] at p0x1
  try have q0x1 := congrArg Int32.toInt p0x1
  obtain ⟨T_r0_4, N_r0_4, A_r0_4⟩ := id H_r0_4
  refine z_sI C rfl rfl T_r0_4 N_r0_4 (by omega) (by omega) (fun I2 uI2 => ?_)
  have hI2 : IM R r0 I2 := IM.arr hI G_r0 R_r0_4 ⟨(fun _ => ⟨by omega, by omega⟩), (fun h => absurd h (by decide)), (fun h => absurd h (by decide))⟩ (fun h => absurd h (by decide)) uI2
  have S3 : CM A R r0 [] [4] I L I2 L := CM.a G_r0 R_r0_4 A_r0_4 uI2
  have F4 : ∀ r : Nat, r ≠ n1.toNatClampNeg → I2 r0_4 r = I r0_4 r := fun r z0 => by rw [uI2]; first | exact u2_k z0
  have e5 := u2_n uI2 (mF.nq G_r0 R_r0_1 R_r0_4 (by decide)) k0_r0_1_E_6_10_n2_toNatClampNeg
  have e6 := u2_n uI2 (mF.nq G_r0 R_r0_1 R_r0_4 (by decide)) k0_r0_1_0
  have e7 := u2_n uI2 (mF.nq G_r0 R_r0_1 R_r0_4 (by decide)) k0_r0_1_1
  have e8 := u2_e uI2
  refine z_iconst C (z := 0) rfl rfl rfl (fun x9 ex9 => ?_)
  have J10 : ∀ (nn11 : Nat) (I12 : IT) (L13 : LT) (x14 : Int32), (MN (41 - x14.toInt) nn11) → (IM R r0 I12) → (CM A R r0 [] [5] I2 L I12 L13) → (∀ r : Nat, (r < 41 * n1.toNatClampNeg ∨ 41 * n1.toNatClampNeg + 41 ≤ r) → I12 r0_5 r = I2 r0_5 r) → (0 ≤ x14.toInt) → (x14.toInt ≤ 41) → (n2.toInt < w_r0_1_1.toInt → QN I12 r0_5 n1.toNatClampNeg x14.toInt w_r0_1_0.toInt) → (TKE I12 I r0_1 r0_5 n1.toNatClampNeg (6 + 10 * n2.toNatClampNeg + 1) (x14.toInt - 1)) → V 13 [(0, .ref r0), (1, .int n1), (2, .int n2), (3, .int x14)] [] (T, N, I12, L13, R) 0 0 := by
    intro nn11
    induction nn11 using Nat.strongRecOn with
    | _ nn11 ihJ10 =>
      intro I12 L13 x14 hmnn11 hI18 S17 F19 b15 b16 ff13_0 ff13_1
      have gx14 := rg x14
      have e20 := CM.j S17 R_r0_1 (by decide) e5
      have e21 := CM.j S17 R_r0_1 (by decide) e6
      have e22 := CM.j S17 R_r0_1 (by decide) e7
      have e23 := CM.j S17 R_r0_4 (by decide) e8
      refine k_iload_n C rfl rfl rfl ?_
      refine k_aload_n C rfl rfl rfl ?_
      refine g_R C rfl rfl rfl T_r0 rfl R_r0_4 ?_
      refine k_iload_n C rfl rfl rfl ?_
      refine a_I C rfl rfl T_r0_4 (by rw [N_r0_4]; exact vpi (by omega) (by omega)) e23 ?_
      refine b_icmp_gt C (t := 41) rfl rfl rfl (fun c24 => ?_) (fun c24 => ?_)
      · skip
        exact k_vret C rfl rfl (Nat.le_of_ble_eq_true rfl) (Nat.le_of_ble_eq_true rfl) ⟨_, _, rfl, rfl, fun a4 h4 => by cases (R_r0_4.symm.trans h4); first | omega | (simp only [e20, e21, e22, e23, k0_r0_1_E_6_10_n2_toNatClampNeg, k0_r0_1_0, k0_r0_1_1] <;> omega), fun a1 a4 h1 h4 => by cases (R_r0_1.symm.trans h1); cases (R_r0_4.symm.trans h4); first | omega | (simp only [e20, e21, e22, e23, k0_r0_1_E_6_10_n2_toNatClampNeg, k0_r0_1_0, k0_r0_1_1] <;> omega), fun a1 a4 a5 h1 h4 h5 => by cases (R_r0_1.symm.trans h1); cases (R_r0_4.symm.trans h4); cases (R_r0_5.symm.trans h5); intro hc; simp only [k0_r0_1_1] at hc; simp only [e23, k0_r0_1_0]; exact QN.le (ff13_0 hc) (by omega), fun a1 a4 a5 h1 h4 h5 => by cases (R_r0_1.symm.trans h1); cases (R_r0_4.symm.trans h4); cases (R_r0_5.symm.trans h5); simp only [e23]; exact TKE.le ff13_1 (by omega), fun a4 h4 => by cases (R_r0_4.symm.trans h4); exact (fun r z0 => ((congrFun (CM.j0 S17 R_r0_4 (by decide)) r).trans (F4 r z0))), fun a5 h5 => by cases (R_r0_5.symm.trans h5); exact (fun r z0 => ((F19 r z0).trans (congrFun (CM.j0 S3 R_r0_5 (by decide)) r))), hI18, (CM.cons S3 (CM.mono S17 (by decide) (by decide)) (by decide) (by decide))⟩
      refine k_aload_n C rfl rfl rfl ?_
      refine k_iload_n C rfl rfl rfl ?_
      refine k_iload_n C rfl rfl rfl ?_
      refine k_aload_n C rfl rfl rfl ?_
      refine k_iload_n C rfl rfl rfl ?_
      refine k_iload_n C rfl rfl rfl ?_
      refine c_VI C (a_X12_numberOf hI18 H_r0 (by omega) (by omega) (by omega) (by omega)) rfl rfl rfl rfl rfl ⟨_, rfl, rfl, T_r0, Nat.le_of_ble_eq_true rfl⟩ rfl rfl (Nat.le_of_ble_eq_true rfl) (Nat.le_of_ble_eq_true rfl) (Nat.le_of_ble_eq_true rfl) ?_
      rintro x25 _ _ ⟨o0x25, o1x25, p0x25, rfl, rfl⟩
      have p0x25 := p0x25 r0_1 R_r0_1
      have gx25 := rg x25
      try simp only [e20, e21, e22, e23] at p0x25
      try have q0x25 := congrArg Int32.toInt p0x25
      rw [(CM.j0 (I := I) (L := L) (I' := I12) (L' := L13) (A := A) (W := []) (WA := [4, 5]) (CM.cons S3 (CM.mono S17 (by decide) (by decide)) (by decide) (by decide)) R_r0_1 (by decide))] at p0x25
      have hN := p0x25
      refine c_VV C (a_X12_put hI18 H_r0 (by omega) (by omega) (by omega) (by omega) (by omega) (by omega)) rfl rfl rfl rfl rfl ⟨_, rfl, rfl, T_r0, Nat.le_of_ble_eq_true rfl⟩ rfl rfl (Nat.le_of_ble_eq_true rfl) (Nat.le_of_ble_eq_true rfl) (Nat.le_of_ble_eq_true rfl) ?_
      rintro I27 L28 ⟨p0v26, p1v26, hI27, S29⟩
      have p0v26 := p0v26 r0_5 R_r0_5
      have p1v26 := p1v26 r0_5 R_r0_5
      have F30 : ∀ r : Nat, (r < 41 * n1.toNatClampNeg ∨ 41 * n1.toNatClampNeg + 41 ≤ r) → I27 r0_5 r = I12 r0_5 r := fun r z0 => p1v26 r (by first | exact z0)
      have e31 := CM.j S29 R_r0_1 (by decide) e20
      have e32 := CM.j S29 R_r0_1 (by decide) e21
      have e33 := CM.j S29 R_r0_1 (by decide) e22
      have e34 := CM.j S29 R_r0_4 (by decide) e23
      try simp only [e20, e21, e22, e23] at p0v26
      try have q0v26 := congrArg Int32.toInt p0v26
      have hP := p0v26
      refine z_iinc C (z := 1) (lw := fun x35 => [(3, .int x35), (0, .ref r0), (1, .int n1), (2, .int n2)]) rfl rfl rfl (Nat.le_of_ble_eq_true rfl) rfl ⟨by omega, by omega⟩ (fun _ => rfl) (fun x35 ex35 => ?_)
      show V 38 [(3, .int x35), (0, .ref r0), (1, .int n1), (2, .int n2)] _ _ _ _
      refine k_goto C (pc2 := 13) rfl rfl ?_
      refine k_sub S [(0, .ref r0), (1, .int n1), (2, .int n2), (3, .int x35)] (List.forall_mem_cons.mpr ⟨List.mem_of_getElem? (i := 1) rfl, List.forall_mem_cons.mpr ⟨List.mem_of_getElem? (i := 2) rfl, List.forall_mem_cons.mpr ⟨List.mem_of_getElem? (i := 3) rfl, List.forall_mem_cons.mpr ⟨List.mem_of_getElem? (i := 0) rfl, fun _ h => nomatch h⟩⟩⟩⟩) ?_
      exact ihJ10 _ (MN.lt hmnn11 (by omega) (by omega)) I27 L28 x35 rfl hI27 (CM.cons S17 (CM.mono S29 (by decide) (by decide)) (by decide) (by decide)) (fun r z0 => ((F30 r z0).trans (F19 r z0))) (by omega) (by omega) (by intro hc; (have h4 := (IM.w hI R_r0_1).2.2.2.1 n2.toNatClampNeg (by have := ncz (x := n2) (by omega); simp only [k0_r0_1_1]; omega) x14.toNatClampNeg (by have := ncz (x := x14) (by omega); simp only [k0_r0_1_E_6_10_n2_toNatClampNeg]; omega)); simp only [k0_r0_1_0] at h4; exact QN.s (ff13_0 hc) hP (by omega) (by omega) (by omega) (by omega)) (by exact TKE.s ff13_1 (by omega) hN hP (by omega))
  refine k_istore_n C (lw := [(3, .int x9), (0, .ref r0), (1, .int n1), (2, .int n2)]) rfl rfl (Nat.le_of_ble_eq_true rfl) rfl ?_
  refine k_sub S [(0, .ref r0), (1, .int n1), (2, .int n2), (3, .int x9)] (List.forall_mem_cons.mpr ⟨List.mem_of_getElem? (i := 1) rfl, List.forall_mem_cons.mpr ⟨List.mem_of_getElem? (i := 2) rfl, List.forall_mem_cons.mpr ⟨List.mem_of_getElem? (i := 3) rfl, List.forall_mem_cons.mpr ⟨List.mem_of_getElem? (i := 0) rfl, fun _ h => nomatch h⟩⟩⟩⟩) ?_
  exact J10 _ I2 L x9 rfl hI2 CM.rf (fun r z0 => rfl) (by omega) (by omega) (by intro _; exact QN.z (by omega)) (by exact TKE.z (by omega))

theorem a_X12_takesTable_e {d : Nat} {T N : Nat → Nat} {I : IT} {L : LT} {R : RT} {A : Nat → Prop} {r0 : Nat} {n1 n2 n3 n4 : Int32} (hI : IM R r0 I) (H_r0 : (h_MD T N R A) r0) (b0_n1 : -18 ≤ n1.toInt) (b1_n1 : n1.toInt ≤ 18) (b0_n2 : -18 ≤ n2.toInt) (b1_n2 : n2.toInt ≤ 18) (b0_n3 : -18 ≤ n3.toInt) (b1_n3 : n3.toInt ≤ 18) (b0_n4 : -18 ≤ n4.toInt) (b1_n4 : n4.toInt ≤ 18) : Ex (d + 1) 210 [.ref r0, .int n1, .int n2, .int n3, .int n4] (T, N, I, L, R) 0 0 (pV T N R (fun I9 L9 => ((I9 r0 6).toInt = n1.toInt) ∧ ((I9 r0 7).toInt = n2.toInt) ∧ ((I9 r0 8).toInt = n3.toInt) ∧ ((I9 r0 9).toInt = n4.toInt) ∧ (IM R r0 I9 ∧ CM A R r0 [6, 7, 8, 9] [] I L I9 L9))) := by
  refine ⟨_, rfl, Nat.le_of_ble_eq_true rfl, fun V C S => ?_⟩
  show V 0 [(0, .ref r0), (1, .int n1), (2, .int n2), (3, .int n3), (4, .int n4)] [] (T, N, I, L, R) 0 0
  have gn1 := rg n1
  have gn2 := rg n2
  have gn3 := rg n3
  have gn4 := rg n4
  obtain ⟨T_r0, A_r0, ⟨r0_1, R_r0_1, H_r0_1⟩, ⟨r0_2, R_r0_2, H_r0_2⟩, ⟨r0_4, R_r0_4, H_r0_4⟩, ⟨r0_5, R_r0_5, H_r0_5⟩, ⟨r0_10, R_r0_10, H_r0_10⟩, ⟨r0_18, R_r0_18, H_r0_18⟩, ⟨r0_20, R_r0_20, H_r0_20⟩, ⟨r0_21, R_r0_21, H_r0_21⟩, ⟨r0_22, R_r0_22, H_r0_22⟩, ⟨r0_23, R_r0_23, H_r0_23⟩, ⟨r0_25, R_r0_25, H_r0_25⟩, ⟨r0_26, R_r0_26, H_r0_26⟩, ⟨r0_27, R_r0_27, H_r0_27⟩, ⟨r0_28, R_r0_28, H_r0_28⟩, ⟨r0_34, R_r0_34, H_r0_34⟩, J_r0, Y_r0⟩ := id H_r0
  have G_r0 : mF T R r0 := ⟨J_r0, Y_r0, T_r0⟩
  refine k_aload_n C rfl rfl rfl ?_
  refine k_iload_n C rfl rfl rfl ?_
  refine z_pI C rfl rfl rfl T_r0 (Or.inr rfl) rfl (fun I1 uI1 => ?_)
  have hI1 : IM R r0 I1 := IM.fld hI G_r0 ⟨(fun h => absurd h (by decide)), (fun h => absurd h (by decide)), (fun h => absurd h (by decide)), (fun h => absurd h (by decide)), (fun _ => ⟨by omega, by omega⟩)⟩ uI1
  have S2 : CM A R r0 [6] [] I L I1 L := CM.f G_r0 A_r0 uI1
  have e3 := u2_e uI1
  refine k_aload_n C rfl rfl rfl ?_
  refine k_iload_n C rfl rfl rfl ?_
  refine z_pI C rfl rfl rfl T_r0 (Or.inr rfl) rfl (fun I4 uI4 => ?_)
  have hI4 : IM R r0 I4 := IM.fld hI1 G_r0 ⟨(fun h => absurd h (by decide)), (fun h => absurd h (by decide)), (fun h => absurd h (by decide)), (fun h => absurd h (by decide)), (fun _ => ⟨by omega, by omega⟩)⟩ uI4
  have S5 : CM A R r0 [7] [] I1 L I4 L := CM.f G_r0 A_r0 uI4
  have e6 := u2_j uI4 (by first | decide | exact ncne (by omega) (by omega) (by omega) | exact nckn (by omega) (by omega) | exact (nckn (by omega) (by omega)).symm) e3
  have e7 := u2_e uI4
  refine k_aload_n C rfl rfl rfl ?_
  refine k_iload_n C rfl rfl rfl ?_
  refine z_pI C rfl rfl rfl T_r0 (Or.inr rfl) rfl (fun I8 uI8 => ?_)
  have hI8 : IM R r0 I8 := IM.fld hI4 G_r0 ⟨(fun h => absurd h (by decide)), (fun h => absurd h (by decide)), (fun h => absurd h (by decide)), (fun h => absurd h (by decide)), (fun _ => ⟨by omega, by omega⟩)⟩ uI8
  have S9 : CM A R r0 [8] [] I4 L I8 L := CM.f G_r0 A_r0 uI8
  have e10 := u2_j uI8 (by first | decide | exact ncne (by omega) (by omega) (by omega) | exact nckn (by omega) (by omega) | exact (nckn (by omega) (by omega)).symm) e6
  have e11 := u2_j uI8 (by first | decide | exact ncne (by omega) (by omega) (by omega) | exact nckn (by omega) (by omega) | exact (nckn (by omega) (by omega)).symm) e7
  have e12 := u2_e uI8
  refine k_aload_n C rfl rfl rfl ?_
  refine k_iload C rfl rfl rfl ?_
  refine z_pI C rfl rfl rfl T_r0 (Or.inr rfl) rfl (fun I13 uI13 => ?_)
  have hI13 : IM R r0 I13 := IM.fld hI8 G_r0 ⟨(fun h => absurd h (by decide)), (fun h => absurd h (by decide)), (fun h => absurd h (by decide)), (fun h => absurd h (by decide)), (fun _ => ⟨by omega, by omega⟩)⟩ uI13
  have S14 : CM A R r0 [9] [] I8 L I13 L := CM.f G_r0 A_r0 uI13
  have e15 := u2_j uI13 (by first | decide | exact ncne (by omega) (by omega) (by omega) | exact nckn (by omega) (by omega) | exact (nckn (by omega) (by omega)).symm) e10
  have e16 := u2_j uI13 (by first | decide | exact ncne (by omega) (by omega) (by omega) | exact nckn (by omega) (by omega) | exact (nckn (by omega) (by omega)).symm) e11
  have e17 := u2_j uI13 (by first | decide | exact ncne (by omega) (by omega) (by omega) | exact nckn (by omega) (by omega) | exact (nckn (by omega) (by omega)).symm) e12
  have e18 := u2_e uI13
  exact k_vret C rfl rfl (Nat.le_of_ble_eq_true rfl) (Nat.le_of_ble_eq_true rfl) ⟨_, _, rfl, rfl, by first | omega | (simp only [e15, e16, e17, e18] <;> omega), by first | omega | (simp only [e15, e16, e17, e18] <;> omega), by first | omega | (simp only [e15, e16, e17, e18] <;> omega), by first | omega | (simp only [e15, e16, e17, e18] <;> omega), hI13, (CM.cons S2 (CM.cons S5 (CM.cons S9 (CM.mono S14 (by decide) (by decide)) (by decide) (by decide)) (by decide) (by decide)) (by decide) (by decide))⟩

theorem a_X12_detNow_e {d : Nat} {T N : Nat → Nat} {I : IT} {L : LT} {R : RT} {A : Nat → Prop} {r0 : Nat} (hI : IM R r0 I) (H_r0 : (h_MD T N R A) r0) : Ex (d + 3) 212 [.ref r0] (T, N, I, L, R) 0 0 (pI T N R (fun x9 I9 L9 => (-18 ≤ x9.toInt) ∧ (x9.toInt ≤ 18) ∧ (∀ a1, R r0 1 = some a1 → DTN x9.toInt (I r0 6).toInt (I r0 7).toInt (I r0 8).toInt (I r0 9).toInt (I a1 0).toInt) ∧ (I = I9 ∧ L = L9))) := by
  refine ⟨_, rfl, Nat.le_of_ble_eq_true rfl, fun V C S => ?_⟩
  show V 0 [(0, .ref r0)] [] (T, N, I, L, R) 0 0
  obtain ⟨T_r0, A_r0, ⟨r0_1, R_r0_1, H_r0_1⟩, ⟨r0_2, R_r0_2, H_r0_2⟩, ⟨r0_4, R_r0_4, H_r0_4⟩, ⟨r0_5, R_r0_5, H_r0_5⟩, ⟨r0_10, R_r0_10, H_r0_10⟩, ⟨r0_18, R_r0_18, H_r0_18⟩, ⟨r0_20, R_r0_20, H_r0_20⟩, ⟨r0_21, R_r0_21, H_r0_21⟩, ⟨r0_22, R_r0_22, H_r0_22⟩, ⟨r0_23, R_r0_23, H_r0_23⟩, ⟨r0_25, R_r0_25, H_r0_25⟩, ⟨r0_26, R_r0_26, H_r0_26⟩, ⟨r0_27, R_r0_27, H_r0_27⟩, ⟨r0_28, R_r0_28, H_r0_28⟩, ⟨r0_34, R_r0_34, H_r0_34⟩, J_r0, Y_r0⟩ := id H_r0
  have G_r0 : mF T R r0 := ⟨J_r0, Y_r0, T_r0⟩
  obtain ⟨w_r0_6, k0_r0_6⟩ : ∃ x, I r0 6 = x := ⟨_, rfl⟩
  have gw_r0_6 := rg w_r0_6
  have ow_r0_6 := IM.f6 hI k0_r0_6
  obtain ⟨w_r0_7, k0_r0_7⟩ : ∃ x, I r0 7 = x := ⟨_, rfl⟩
  have gw_r0_7 := rg w_r0_7
  have ow_r0_7 := IM.f7 hI k0_r0_7
  obtain ⟨w_r0_8, k0_r0_8⟩ : ∃ x, I r0 8 = x := ⟨_, rfl⟩
  have gw_r0_8 := rg w_r0_8
  have ow_r0_8 := IM.f8 hI k0_r0_8
  obtain ⟨w_r0_9, k0_r0_9⟩ : ∃ x, I r0 9 = x := ⟨_, rfl⟩
  have gw_r0_9 := rg w_r0_9
  have ow_r0_9 := IM.f9 hI k0_r0_9
  obtain ⟨w_r0_1_0, k0_r0_1_0⟩ : ∃ x, I r0_1 0 = x := ⟨_, rfl⟩
  have gw_r0_1_0 := rg w_r0_1_0
  have ow_r0_1_0 := IM.pi hI R_r0_1 k0_r0_1_0
  refine k_aload_n C rfl rfl rfl ?_
  refine k_aload_n C rfl rfl rfl ?_
  refine k_aload_n C rfl rfl rfl ?_
  refine g_I C rfl rfl rfl T_r0 rfl k0_r0_6 ?_
  refine k_aload_n C rfl rfl rfl ?_
  refine g_I C rfl rfl rfl T_r0 rfl k0_r0_9 ?_
  refine c_VI C (a_X12_times hI H_r0 (by omega) (by omega) (by omega) (by omega)) rfl rfl rfl rfl rfl ⟨_, rfl, rfl, T_r0, Nat.le_of_ble_eq_true rfl⟩ rfl rfl (Nat.le_of_ble_eq_true rfl) (Nat.le_of_ble_eq_true rfl) (Nat.le_of_ble_eq_true rfl) ?_
  rintro x1 _ _ ⟨o0x1, o1x1, p0x1, p1x1, p2x1, p3x1, rfl, rfl⟩
  have p0x1 := p0x1 r0_1 R_r0_1
  have p2x1 := p2x1 r0_1 R_r0_1
  have p3x1 := p3x1 r0_1 R_r0_1
  have gx1 := rg x1
  try simp only [k0_r0_6, k0_r0_7, k0_r0_8, k0_r0_9, k0_r0_1_0] at p0x1
  try have q0x1 := congrArg Int32.toInt p0x1
  try simp only [k0_r0_6, k0_r0_7, k0_r0_8, k0_r0_9, k0_r0_1_0] at p1x1
  try have q1x1 := congrArg Int32.toInt p1x1
  try simp only [k0_r0_6, k0_r0_7, k0_r0_8, k0_r0_9, k0_r0_1_0] at p2x1
  try have q2x1 := congrArg Int32.toInt p2x1
  try simp only [k0_r0_6, k0_r0_7, k0_r0_8, k0_r0_9, k0_r0_1_0] at p3x1
  try have q3x1 := congrArg Int32.toInt p3x1
  have hT1 := p3x1
  refine k_aload_n C rfl rfl rfl ?_
  refine k_aload_n C rfl rfl rfl ?_
  refine g_I C rfl rfl rfl T_r0 rfl k0_r0_7 ?_
  refine k_aload_n C rfl rfl rfl ?_
  refine g_I C rfl rfl rfl T_r0 rfl k0_r0_8 ?_
  refine c_VI C (a_X12_times hI H_r0 (by omega) (by omega) (by omega) (by omega)) rfl rfl rfl rfl rfl ⟨_, rfl, rfl, T_r0, Nat.le_of_ble_eq_true rfl⟩ rfl rfl (Nat.le_of_ble_eq_true rfl) (Nat.le_of_ble_eq_true rfl) (Nat.le_of_ble_eq_true rfl) ?_
  rintro x2 _ _ ⟨o0x2, o1x2, p0x2, p1x2, p2x2, p3x2, rfl, rfl⟩
  have p0x2 := p0x2 r0_1 R_r0_1
  have p2x2 := p2x2 r0_1 R_r0_1
  have p3x2 := p3x2 r0_1 R_r0_1
  have gx2 := rg x2
  try simp only [k0_r0_6, k0_r0_7, k0_r0_8, k0_r0_9, k0_r0_1_0] at p0x2
  try have q0x2 := congrArg Int32.toInt p0x2
  try simp only [k0_r0_6, k0_r0_7, k0_r0_8, k0_r0_9, k0_r0_1_0] at p1x2
  try have q1x2 := congrArg Int32.toInt p1x2
  try simp only [k0_r0_6, k0_r0_7, k0_r0_8, k0_r0_9, k0_r0_1_0] at p2x2
  try have q2x2 := congrArg Int32.toInt p2x2
  try simp only [k0_r0_6, k0_r0_7, k0_r0_8, k0_r0_9, k0_r0_1_0] at p3x2
  try have q3x2 := congrArg Int32.toInt p3x2
  have hT2 := p3x2
  refine c_VI C (a_X12_less hI H_r0 (by omega) (by omega) (by omega) (by omega)) rfl rfl rfl rfl rfl ⟨_, rfl, rfl, T_r0, Nat.le_of_ble_eq_true rfl⟩ rfl rfl (Nat.le_of_ble_eq_true rfl) (Nat.le_of_ble_eq_true rfl) (Nat.le_of_ble_eq_true rfl) ?_
  rintro x3 _ _ ⟨o0x3, o1x3, p0x3, p1x3, p2x3, p3x3, rfl, rfl⟩
  have p0x3 := p0x3 r0_1 R_r0_1
  have p2x3 := p2x3 r0_1 R_r0_1
  have p3x3 := p3x3 r0_1 R_r0_1
  have gx3 := rg x3
  try simp only [k0_r0_6, k0_r0_7, k0_r0_8, k0_r0_9, k0_r0_1_0] at p0x3
  try have q0x3 := congrArg Int32.toInt p0x3
  try simp only [k0_r0_6, k0_r0_7, k0_r0_8, k0_r0_9, k0_r0_1_0] at p1x3
  try have q1x3 := congrArg Int32.toInt p1x3
  try simp only [k0_r0_6, k0_r0_7, k0_r0_8, k0_r0_9, k0_r0_1_0] at p2x3
  try have q2x3 := congrArg Int32.toInt p2x3
  try simp only [k0_r0_6, k0_r0_7, k0_r0_8, k0_r0_9, k0_r0_1_0] at p3x3
  try have q3x3 := congrArg Int32.toInt p3x3
  have hL := p3x3
  exact k_iret C rfl (Or.inl rfl) (Nat.le_of_ble_eq_true rfl) (Nat.le_of_ble_eq_true rfl) ⟨_, _, _, rfl, rfl, by omega, by omega, fun a1 h1 => by cases (R_r0_1.symm.trans h1); simp only [k0_r0_6, k0_r0_7, k0_r0_8, k0_r0_9, k0_r0_1_0]; exact DTN.of hT1 hT2 hL, rfl, rfl⟩

theorem a_X12_widens_e {d : Nat} {T N : Nat → Nat} {I : IT} {L : LT} {R : RT} {A : Nat → Prop} {r0 : Nat} {n1 n2 n3 : Int32} (hI : IM R r0 I) (H_r0 : (h_MD T N R A) r0) (b0_n1 : 0 ≤ n1.toInt) (b1_n1 : n1.toInt ≤ 47) (b0_n2 : -18 ≤ n2.toInt) (b1_n2 : n2.toInt ≤ 18) (b0_n3 : -18 ≤ n3.toInt) (b1_n3 : n3.toInt ≤ 18) (hp0 : ∀ a4, R r0 4 = some a4 → (I a4 n1.toNatClampNeg).toInt ≤ 39) : Ex (d + 3) 213 [.ref r0, .int n1, .int n2, .int n3] (T, N, I, L, R) 0 0 (pV T N R (fun I9 L9 => (∀ a4, R r0 4 = some a4 → (I9 a4 n1.toNatClampNeg).toInt = (I a4 n1.toNatClampNeg).toInt + 1) ∧ (∀ a1 a4 a5, R r0 1 = some a1 → R r0 4 = some a4 → R r0 5 = some a5 → WDE I I9 a5 n1.toNatClampNeg (I a4 n1.toNatClampNeg).toInt n2.toInt n3.toInt (I a1 0).toInt) ∧ (∀ a4, R r0 4 = some a4 → ∀ r : Nat, r ≠ n1.toNatClampNeg → I9 a4 r = I a4 r) ∧ (∀ a5, R r0 5 = some a5 → ∀ r : Nat, (r < 41 * n1.toNatClampNeg ∨ 41 * n1.toNatClampNeg + 41 ≤ r) → I9 a5 r = I a5 r) ∧ (IM R r0 I9 ∧ CM A R r0 [] [4, 5] I L I9 L9))) := by
  refine ⟨_, rfl, Nat.le_of_ble_eq_true rfl, fun V C S => ?_⟩
  show V 0 [(0, .ref r0), (1, .int n1), (2, .int n2), (3, .int n3)] [] (T, N, I, L, R) 0 0
  have gn1 := rg n1
  have gn2 := rg n2
  have gn3 := rg n3
  obtain ⟨T_r0, A_r0, ⟨r0_1, R_r0_1, H_r0_1⟩, ⟨r0_2, R_r0_2, H_r0_2⟩, ⟨r0_4, R_r0_4, H_r0_4⟩, ⟨r0_5, R_r0_5, H_r0_5⟩, ⟨r0_10, R_r0_10, H_r0_10⟩, ⟨r0_18, R_r0_18, H_r0_18⟩, ⟨r0_20, R_r0_20, H_r0_20⟩, ⟨r0_21, R_r0_21, H_r0_21⟩, ⟨r0_22, R_r0_22, H_r0_22⟩, ⟨r0_23, R_r0_23, H_r0_23⟩, ⟨r0_25, R_r0_25, H_r0_25⟩, ⟨r0_26, R_r0_26, H_r0_26⟩, ⟨r0_27, R_r0_27, H_r0_27⟩, ⟨r0_28, R_r0_28, H_r0_28⟩, ⟨r0_34, R_r0_34, H_r0_34⟩, J_r0, Y_r0⟩ := id H_r0
  have G_r0 : mF T R r0 := ⟨J_r0, Y_r0, T_r0⟩
  obtain ⟨w_r0_4_n1, k0_r0_4_n1⟩ : ∃ x, I r0_4 n1.toNatClampNeg = x := ⟨_, rfl⟩
  have gw_r0_4_n1 := rg w_r0_4_n1
  have ow_r0_4_n1 := IM.dgR hI R_r0_4 k0_r0_4_n1
  obtain ⟨w_r0_1_0, k0_r0_1_0⟩ : ∃ x, I r0_1 0 = x := ⟨_, rfl⟩
  have gw_r0_1_0 := rg w_r0_1_0
  have ow_r0_1_0 := IM.pi hI R_r0_1 k0_r0_1_0
  have hp0 := hp0 r0_4 R_r0_4
  try simp only [k0_r0_4_n1, k0_r0_1_0] at hp0
  refine k_aload_n C rfl rfl rfl ?_
  refine k_iload_n C rfl rfl rfl ?_
  refine k_aload_n C rfl rfl rfl ?_
  refine g_R C rfl rfl rfl T_r0 rfl R_r0_4 ?_
  refine k_iload_n C rfl rfl rfl ?_
  obtain ⟨T_r0_4, N_r0_4, A_r0_4⟩ := id H_r0_4
  refine a_I C rfl rfl T_r0_4 (by rw [N_r0_4]; exact vpi (by omega) (by omega)) k0_r0_4_n1 ?_
  refine z_iconst C (z := 1) rfl rfl rfl (fun x1 ex1 => ?_)
  refine z_iadd C rfl rfl ⟨by omega, by omega⟩ (fun x2 ex2 => ?_)
  refine z_iconst C (z := 0) rfl rfl rfl (fun x3 ex3 => ?_)
  have q4 : x3.toNatClampNeg = 0 := nck (by omega)
  refine c_VV C (a_X12_put hI H_r0 (by omega) (by omega) (by omega) (by omega) (by omega) (by omega)) rfl rfl rfl rfl rfl ⟨_, rfl, rfl, T_r0, Nat.le_of_ble_eq_true rfl⟩ rfl rfl (Nat.le_of_ble_eq_true rfl) (Nat.le_of_ble_eq_true rfl) (Nat.le_of_ble_eq_true rfl) ?_
  rintro I6 L7 ⟨p0v5, p1v5, hI6, S8⟩
  have p0v5 := p0v5 r0_5 R_r0_5
  have p1v5 := p1v5 r0_5 R_r0_5
  try simp only [q4] at p1v5
  have F9 : ∀ r : Nat, (r < 41 * n1.toNatClampNeg ∨ 41 * n1.toNatClampNeg + 41 ≤ r) → I6 r0_5 r = I r0_5 r := fun r z0 => p1v5 r (by first | exact z0)
  have e10 := CM.j S8 R_r0_4 (by decide) k0_r0_4_n1
  have e11 := CM.j S8 R_r0_1 (by decide) k0_r0_1_0
  try simp only [q4, k0_r0_4_n1, k0_r0_1_0] at p0v5
  try have q0v5 := congrArg Int32.toInt p0v5
  have hP0 := p0v5
  refine k_aload_n C rfl rfl rfl ?_
  refine g_R C rfl rfl rfl T_r0 rfl R_r0_4 ?_
  refine k_iload_n C rfl rfl rfl ?_
  refine k_dup2 C rfl rfl rfl rfl ?_
  refine a_I C rfl rfl T_r0_4 (by rw [N_r0_4]; exact vpi (by omega) (by omega)) e10 ?_
  refine z_iconst C (z := 1) rfl rfl rfl (fun x12 ex12 => ?_)
  refine z_iadd C rfl rfl ⟨by omega, by omega⟩ (fun x13 ex13 => ?_)
  refine z_sI C rfl rfl T_r0_4 N_r0_4 (by omega) (by omega) (fun I14 uI14 => ?_)
  have hI14 : IM R r0 I14 := IM.arr hI6 G_r0 R_r0_4 ⟨(fun _ => ⟨by omega, by omega⟩), (fun h => absurd h (by decide)), (fun h => absurd h (by decide))⟩ (fun h => absurd h (by decide)) uI14
  have S15 : CM A R r0 [] [4] I6 L7 I14 L7 := CM.a G_r0 R_r0_4 A_r0_4 uI14
  have F16 : ∀ r : Nat, r ≠ n1.toNatClampNeg → I14 r0_4 r = I6 r0_4 r := fun r z0 => by rw [uI14]; first | exact u2_k z0
  have e18 := u2_n uI14 (mF.nq G_r0 R_r0_1 R_r0_4 (by decide)) e11
  have e19 := u2_e uI14
  refine k_aload_n C rfl rfl rfl ?_
  refine g_R C rfl rfl rfl T_r0 rfl R_r0_4 ?_
  refine k_iload_n C rfl rfl rfl ?_
  refine a_I C rfl rfl T_r0_4 (by rw [N_r0_4]; exact vpi (by omega) (by omega)) e19 ?_
  have J20 : ∀ (nn21 : Nat) (I22 : IT) (L23 : LT) (x24 : Int32) (x30 : Int32), (MN (x24.toInt - (-1)) nn21) → (IM R r0 I22) → (CM A R r0 [] [5] I14 L7 I22 L23) → (∀ r : Nat, (r < 41 * n1.toNatClampNeg ∨ 41 * n1.toNatClampNeg + 41 ≤ r) → I22 r0_5 r = I14 r0_5 r) → (-1 ≤ x24.toInt) → (x24.toInt ≤ 40) → (I22 r0_4 n1.toNatClampNeg = x30) → (0 ≤ x30.toInt) → (x30.toInt ≤ 40) → (x30.toInt = w_r0_4_n1.toInt + 1) → (WDL I I22 r0_5 n1.toNatClampNeg w_r0_4_n1.toInt n2.toInt n3.toInt w_r0_1_0.toInt x24.toInt) → (x24.toInt ≤ w_r0_4_n1.toInt + 1) → V 32 [(0, .ref r0), (1, .int n1), (2, .int n2), (3, .int n3), (4, .int x24)] [] (T, N, I22, L23, R) 0 0 := by
    intro nn21
    induction nn21 using Nat.strongRecOn with
    | _ nn21 ihJ20 =>
      intro I22 L23 x24 x30 hmnn21 hI28 S27 F29 b25 b26 e31 b32 b33 ff32_0 ff32_1 ff32_2
      have gx24 := rg x24
      have gx30 := rg x30
      have e34 := CM.j S27 R_r0_1 (by decide) e18
      have e35 := CM.j S27 R_r0_4 (by decide) e19
      refine k_iload C rfl rfl rfl ?_
      refine b_if_lt C (t := 89) rfl rfl rfl (fun c36 => ?_) (fun c36 => ?_)
      · skip
        exact k_vret C rfl rfl (Nat.le_of_ble_eq_true rfl) (Nat.le_of_ble_eq_true rfl) ⟨_, _, rfl, rfl, fun a4 h4 => by cases (R_r0_4.symm.trans h4); first | omega | (simp only [e34, e31, k0_r0_4_n1, k0_r0_1_0] <;> omega), fun a1 a4 a5 h1 h4 h5 => by cases (R_r0_1.symm.trans h1); cases (R_r0_4.symm.trans h4); cases (R_r0_5.symm.trans h5); simp only [k0_r0_4_n1, k0_r0_1_0]; exact WDL.e ff32_1 (by omega), fun a4 h4 => by cases (R_r0_4.symm.trans h4); exact (fun r z0 => ((congrFun (CM.j0 S27 R_r0_4 (by decide)) r).trans ((F16 r z0).trans (congrFun (CM.j0 S8 R_r0_4 (by decide)) r)))), fun a5 h5 => by cases (R_r0_5.symm.trans h5); exact (fun r z0 => ((F29 r z0).trans ((congrFun (CM.j0 S15 R_r0_5 (by decide)) r).trans (F9 r z0)))), hI28, (CM.cons S8 (CM.cons S15 (CM.mono S27 (by decide) (by decide)) (by decide) (by decide)) (by decide) (by decide))⟩
      refine k_aload_n C rfl rfl rfl ?_
      refine k_iload_n C rfl rfl rfl ?_
      refine k_iload C rfl rfl rfl ?_
      refine k_aload_n C rfl rfl rfl ?_
      refine k_aload_n C rfl rfl rfl ?_
      refine k_aload_n C rfl rfl rfl ?_
      refine k_iload_n C rfl rfl rfl ?_
      refine k_iload C rfl rfl rfl ?_
      refine c_VI C (a_X12_of hI28 H_r0 (by omega) (by omega) (by omega) (by omega)) rfl rfl rfl rfl rfl ⟨_, rfl, rfl, T_r0, Nat.le_of_ble_eq_true rfl⟩ rfl rfl (Nat.le_of_ble_eq_true rfl) (Nat.le_of_ble_eq_true rfl) (Nat.le_of_ble_eq_true rfl) ?_
      rintro x37 _ _ ⟨o0x37, o1x37, p0x37, rfl, rfl⟩
      have p0x37 := p0x37 r0_5 R_r0_5
      have gx37 := rg x37
      try simp only [e34, e31] at p0x37
      try have q0x37 := congrArg Int32.toInt p0x37
      have hA := p0x37
      refine k_iload_n C rfl rfl rfl ?_
      refine c_VI C (a_X12_times hI28 H_r0 (by omega) (by omega) (by omega) (by omega)) rfl rfl rfl rfl rfl ⟨_, rfl, rfl, T_r0, Nat.le_of_ble_eq_true rfl⟩ rfl rfl (Nat.le_of_ble_eq_true rfl) (Nat.le_of_ble_eq_true rfl) (Nat.le_of_ble_eq_true rfl) ?_
      rintro x38 _ _ ⟨o0x38, o1x38, p0x38, p1x38, p2x38, p3x38, rfl, rfl⟩
      have p0x38 := p0x38 r0_1 R_r0_1
      have p2x38 := p2x38 r0_1 R_r0_1
      have p3x38 := p3x38 r0_1 R_r0_1
      have gx38 := rg x38
      try simp only [e34, e31] at p0x38
      try have q0x38 := congrArg Int32.toInt p0x38
      try simp only [e34, e31] at p1x38
      try have q1x38 := congrArg Int32.toInt p1x38
      try simp only [e34, e31] at p2x38
      try have q2x38 := congrArg Int32.toInt p2x38
      try simp only [e34, e31] at p3x38
      try have q3x38 := congrArg Int32.toInt p3x38
      have hT := p3x38
      refine k_iload C rfl rfl rfl ?_
      refine b_if_le C (t := 76) rfl rfl rfl (fun c39 => ?_) (fun c39 => ?_)
      · skip
        refine z_iconst C (z := 0) rfl rfl rfl (fun x40 ex40 => ?_)
        have q41 : x40.toNatClampNeg = 0 := nck (by omega)
        refine c_VI C (a_X12_plus_e hI28 H_r0 (by omega) (by omega) (by omega) (by omega)) rfl rfl rfl rfl rfl ⟨_, rfl, rfl, T_r0, Nat.le_of_ble_eq_true rfl⟩ rfl rfl (Nat.le_of_ble_eq_true rfl) (Nat.le_of_ble_eq_true rfl) (Nat.le_of_ble_eq_true rfl) ?_
        rintro x42 _ _ ⟨o0x42, o1x42, p0x42, p1x42, p2x42, p3x42, rfl, rfl⟩
        have p0x42 := p0x42 r0_1 R_r0_1
        have p2x42 := p2x42 r0_1 R_r0_1
        have p3x42 := p3x42 r0_1 R_r0_1
        have gx42 := rg x42
        try simp only [q41, e34, e31] at p0x42
        try have q0x42 := congrArg Int32.toInt p0x42
        try simp only [q41, e34, e31] at p1x42
        try have q1x42 := congrArg Int32.toInt p1x42
        try simp only [q41, e34, e31] at p2x42
        try have q2x42 := congrArg Int32.toInt p2x42
        try simp only [q41, e34, e31] at p3x42
        try have q3x42 := congrArg Int32.toInt p3x42
        have hS := p3x42
        have q43 : x24.toNatClampNeg = 0 := nck (by omega)
        refine c_VV C (a_X12_put hI28 H_r0 (by omega) (by omega) (by omega) (by omega) (by omega) (by omega)) rfl rfl rfl rfl rfl ⟨_, rfl, rfl, T_r0, Nat.le_of_ble_eq_true rfl⟩ rfl rfl (Nat.le_of_ble_eq_true rfl) (Nat.le_of_ble_eq_true rfl) (Nat.le_of_ble_eq_true rfl) ?_
        rintro I45 L46 ⟨p0v44, p1v44, hI45, S47⟩
        have p0v44 := p0v44 r0_5 R_r0_5
        have p1v44 := p1v44 r0_5 R_r0_5
        try simp only [q43] at p1v44
        have F48 : ∀ r : Nat, (r < 41 * n1.toNatClampNeg ∨ 41 * n1.toNatClampNeg + 41 ≤ r) → I45 r0_5 r = I22 r0_5 r := fun r z0 => p1v44 r (by first | exact z0)
        have e49 := CM.j S47 R_r0_1 (by decide) e34
        have e50 := CM.j S47 R_r0_4 (by decide) e31
        try simp only [q43, e34, e31] at p0v44
        try have q0v44 := congrArg Int32.toInt p0v44
        have hP := p0v44
        refine z_iinc C (z := -1) (lw := fun x51 => [(4, .int x51), (0, .ref r0), (1, .int n1), (2, .int n2), (3, .int n3)]) rfl rfl rfl (Nat.le_of_ble_eq_true rfl) rfl ⟨by omega, by omega⟩ (fun _ => rfl) (fun x51 ex51 => ?_)
        show V 86 [(4, .int x51), (0, .ref r0), (1, .int n1), (2, .int n2), (3, .int n3)] _ _ _ _
        refine k_goto C (pc2 := 32) rfl rfl ?_
        refine k_sub S [(0, .ref r0), (1, .int n1), (2, .int n2), (3, .int n3), (4, .int x51)] (List.forall_mem_cons.mpr ⟨List.mem_of_getElem? (i := 1) rfl, List.forall_mem_cons.mpr ⟨List.mem_of_getElem? (i := 2) rfl, List.forall_mem_cons.mpr ⟨List.mem_of_getElem? (i := 3) rfl, List.forall_mem_cons.mpr ⟨List.mem_of_getElem? (i := 4) rfl, List.forall_mem_cons.mpr ⟨List.mem_of_getElem? (i := 0) rfl, fun _ h => nomatch h⟩⟩⟩⟩⟩) ?_
        exact ihJ20 _ (MN.lt hmnn21 (by omega) (by omega)) I45 L46 x51 x30 rfl hI45 (CM.cons S27 (CM.mono S47 (by decide) (by decide)) (by decide) (by decide)) (fun r z0 => ((F48 r z0).trans (F29 r z0))) (by omega) (by omega) e50 (by omega) (by omega) (by omega) (by first | exact WDL.s ff32_1 hA hT hB hU hS hP (by omega) (by omega) (by omega) (by omega) | exact WDL.s0 ff32_1 hA hT (by omega) hS hP (by omega) (by omega)) (by omega)
      refine k_aload_n C rfl rfl rfl ?_
      refine k_aload_n C rfl rfl rfl ?_
      refine k_iload_n C rfl rfl rfl ?_
      refine k_iload C rfl rfl rfl ?_
      refine z_iconst C (z := 1) rfl rfl rfl (fun x52 ex52 => ?_)
      refine z_isub C rfl rfl ⟨by omega, by omega⟩ (fun x53 ex53 => ?_)
      refine c_VI C (a_X12_of hI28 H_r0 (by omega) (by omega) (by omega) (by omega)) rfl rfl rfl rfl rfl ⟨_, rfl, rfl, T_r0, Nat.le_of_ble_eq_true rfl⟩ rfl rfl (Nat.le_of_ble_eq_true rfl) (Nat.le_of_ble_eq_true rfl) (Nat.le_of_ble_eq_true rfl) ?_
      rintro x54 _ _ ⟨o0x54, o1x54, p0x54, rfl, rfl⟩
      have p0x54 := p0x54 r0_5 R_r0_5
      have gx54 := rg x54
      try simp only [e34, e31] at p0x54
      try have q0x54 := congrArg Int32.toInt p0x54
      have hB := p0x54
      refine k_iload_n C rfl rfl rfl ?_
      refine c_VI C (a_X12_times hI28 H_r0 (by omega) (by omega) (by omega) (by omega)) rfl rfl rfl rfl rfl ⟨_, rfl, rfl, T_r0, Nat.le_of_ble_eq_true rfl⟩ rfl rfl (Nat.le_of_ble_eq_true rfl) (Nat.le_of_ble_eq_true rfl) (Nat.le_of_ble_eq_true rfl) ?_
      rintro x55 _ _ ⟨o0x55, o1x55, p0x55, p1x55, p2x55, p3x55, rfl, rfl⟩
      have p0x55 := p0x55 r0_1 R_r0_1
      have p2x55 := p2x55 r0_1 R_r0_1
      have p3x55 := p3x55 r0_1 R_r0_1
      have gx55 := rg x55
      try simp only [e34, e31] at p0x55
      try have q0x55 := congrArg Int32.toInt p0x55
      try simp only [e34, e31] at p1x55
      try have q1x55 := congrArg Int32.toInt p1x55
      try simp only [e34, e31] at p2x55
      try have q2x55 := congrArg Int32.toInt p2x55
      try simp only [e34, e31] at p3x55
      try have q3x55 := congrArg Int32.toInt p3x55
      have hU := p3x55
      refine k_goto C (pc2 := 77) rfl rfl ?_
      refine c_VI C (a_X12_plus_e hI28 H_r0 (by omega) (by omega) (by omega) (by omega)) rfl rfl rfl rfl rfl ⟨_, rfl, rfl, T_r0, Nat.le_of_ble_eq_true rfl⟩ rfl rfl (Nat.le_of_ble_eq_true rfl) (Nat.le_of_ble_eq_true rfl) (Nat.le_of_ble_eq_true rfl) ?_
      rintro x56 _ _ ⟨o0x56, o1x56, p0x56, p1x56, p2x56, p3x56, rfl, rfl⟩
      have p0x56 := p0x56 r0_1 R_r0_1
      have p2x56 := p2x56 r0_1 R_r0_1
      have p3x56 := p3x56 r0_1 R_r0_1
      have gx56 := rg x56
      try simp only [e34, e31] at p0x56
      try have q0x56 := congrArg Int32.toInt p0x56
      try simp only [e34, e31] at p1x56
      try have q1x56 := congrArg Int32.toInt p1x56
      try simp only [e34, e31] at p2x56
      try have q2x56 := congrArg Int32.toInt p2x56
      try simp only [e34, e31] at p3x56
      try have q3x56 := congrArg Int32.toInt p3x56
      have hS := p3x56
      refine c_VV C (a_X12_put hI28 H_r0 (by omega) (by omega) (by omega) (by omega) (by omega) (by omega)) rfl rfl rfl rfl rfl ⟨_, rfl, rfl, T_r0, Nat.le_of_ble_eq_true rfl⟩ rfl rfl (Nat.le_of_ble_eq_true rfl) (Nat.le_of_ble_eq_true rfl) (Nat.le_of_ble_eq_true rfl) ?_
      rintro I58 L59 ⟨p0v57, p1v57, hI58, S60⟩
      have p0v57 := p0v57 r0_5 R_r0_5
      have p1v57 := p1v57 r0_5 R_r0_5
      have F61 : ∀ r : Nat, (r < 41 * n1.toNatClampNeg ∨ 41 * n1.toNatClampNeg + 41 ≤ r) → I58 r0_5 r = I22 r0_5 r := fun r z0 => p1v57 r (by first | exact z0)
      have e62 := CM.j S60 R_r0_1 (by decide) e34
      have e63 := CM.j S60 R_r0_4 (by decide) e31
      try simp only [e34, e31] at p0v57
      try have q0v57 := congrArg Int32.toInt p0v57
      have hP := p0v57
      refine z_iinc C (z := -1) (lw := fun x64 => [(4, .int x64), (0, .ref r0), (1, .int n1), (2, .int n2), (3, .int n3)]) rfl rfl rfl (Nat.le_of_ble_eq_true rfl) rfl ⟨by omega, by omega⟩ (fun _ => rfl) (fun x64 ex64 => ?_)
      show V 86 [(4, .int x64), (0, .ref r0), (1, .int n1), (2, .int n2), (3, .int n3)] _ _ _ _
      refine k_goto C (pc2 := 32) rfl rfl ?_
      refine k_sub S [(0, .ref r0), (1, .int n1), (2, .int n2), (3, .int n3), (4, .int x64)] (List.forall_mem_cons.mpr ⟨List.mem_of_getElem? (i := 1) rfl, List.forall_mem_cons.mpr ⟨List.mem_of_getElem? (i := 2) rfl, List.forall_mem_cons.mpr ⟨List.mem_of_getElem? (i := 3) rfl, List.forall_mem_cons.mpr ⟨List.mem_of_getElem? (i := 4) rfl, List.forall_mem_cons.mpr ⟨List.mem_of_getElem? (i := 0) rfl, fun _ h => nomatch h⟩⟩⟩⟩⟩) ?_
      exact ihJ20 _ (MN.lt hmnn21 (by omega) (by omega)) I58 L59 x64 x30 rfl hI58 (CM.cons S27 (CM.mono S60 (by decide) (by decide)) (by decide) (by decide)) (fun r z0 => ((F61 r z0).trans (F29 r z0))) (by omega) (by omega) e63 (by omega) (by omega) (by omega) (by first | exact WDL.s ff32_1 hA hT hB hU hS hP (by omega) (by omega) (by omega) (by omega) | exact WDL.s0 ff32_1 hA hT (by omega) hS hP (by omega) (by omega)) (by omega)
  refine k_istore C (lw := [(4, .int x13), (0, .ref r0), (1, .int n1), (2, .int n2), (3, .int n3)]) rfl rfl (Nat.le_of_ble_eq_true rfl) rfl ?_
  refine k_sub S [(0, .ref r0), (1, .int n1), (2, .int n2), (3, .int n3), (4, .int x13)] (List.forall_mem_cons.mpr ⟨List.mem_of_getElem? (i := 1) rfl, List.forall_mem_cons.mpr ⟨List.mem_of_getElem? (i := 2) rfl, List.forall_mem_cons.mpr ⟨List.mem_of_getElem? (i := 3) rfl, List.forall_mem_cons.mpr ⟨List.mem_of_getElem? (i := 4) rfl, List.forall_mem_cons.mpr ⟨List.mem_of_getElem? (i := 0) rfl, fun _ h => nomatch h⟩⟩⟩⟩⟩) ?_
  exact J20 _ I14 L7 x13 x13 rfl hI14 CM.rf (fun r z0 => rfl) (by omega) (by omega) e19 (by omega) (by omega) (by omega) (by exact WDL.z hP0 (CM.j0 S15 R_r0_5 (by decide)) (by omega) (by omega) (by omega) (by omega)) (by omega)

