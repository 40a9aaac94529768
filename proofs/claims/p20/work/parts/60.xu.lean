/-! rank: exactly -/
/-- a total laid, two joined -/
def TLD (c9 c : Int) (f9 f : Nat → Int32) (v x : Int) : Prop := (c < 20 → x = 1 ∧ c9 = c + 1 ∧ (f9 c.toNat).toInt = v ∧ ∀ j, j ≠ c.toNat → f9 j = f j) ∧ (20 ≤ c → x = 0)
theorem TLD.n {c9 c v x : Int} {f9 f : Nat → Int32} (h : 20 ≤ c) (hx : x = 0) : TLD c9 c f9 f v x := ⟨fun q => by omega, fun _ => hx⟩
theorem TLD.y {I I1 I2 : IT} {a r : Nat} {t v y : Int32} {x : Int} (e : I r 5 = t) (u : I1 = u2 I a t.toNatClampNeg v) (u' : I2 = u2 I1 r 5 y) (hn : a ≠ r) (h0 : 0 ≤ t.toInt) (h : t.toInt < 20) (hy : y.toInt = t.toInt + 1) (hx : x = 1) : TLD (I2 r 5).toInt (I r 5).toInt (I2 a) (I a) v.toInt x := by
  have n0 := ncz h0
  have ea : I2 a = I1 a := by rw [u', u2_r hn]
  refine ⟨fun _ => ⟨hx, ?_, ?_, fun j hj => ?_⟩, fun q => by rw [e] at q; omega⟩
  · rw [u', u2_s, e]; exact hy
  · rw [ea, e, show t.toInt.toNat = t.toNatClampNeg from by omega, u, u2_s]
  · rw [ea, u, u2_k (by rw [e] at hj; omega)]
def TJD (c9 c : Int) (f9 f : Nat → Int32) (k n x : Int) : Prop := (2 ≤ c → c9 = c - 1 ∧ (k = 2 → (∀ j, f9 j = f j) ∧ (x = 1 ∧ (f (c - 2).toNat).toInt = (f (c - 1).toNat).toInt ∨ x = 0 ∧ (f (c - 2).toNat).toInt ≠ (f (c - 1).toNat).toInt)) ∧ (k ≠ 2 → x = 1 ∧ (f9 (c - 2).toNat).toInt = (f (c - 2).toNat).toInt + ((f (c - 1).toNat).toInt + n) ∧ ∀ j, j ≠ (c - 2).toNat → f9 j = f j)) ∧ (c < 2 → x = 0)
def TJB (f : Nat → Int32) (c : Int) : Prop := 2 ≤ c → 0 ≤ (f (c - 2).toNat).toInt ∧ 0 ≤ (f (c - 1).toNat).toInt ∧ (f (c - 2).toNat).toInt + (f (c - 1).toNat).toInt ≤ 200000
theorem TJD.n {c9 c k n x : Int} {f9 f : Nat → Int32} (h : c < 2) (hx : x = 0) : TJD c9 c f9 f k n x := ⟨fun q => by omega, fun _ => hx⟩
theorem TJD.rd {I I1 : IT} {a r : Nat} {t y i v : Int32} {d : Int} (u : I1 = u2 I r 5 y) (hn : a ≠ r) (ra : I1 a i.toNatClampNeg = v) (hi : i.toInt = t.toInt - d) (h0 : 0 ≤ i.toInt) : I a (t.toInt - d).toNat = v := by
  have n0 := ncz h0
  rw [show (t.toInt - d).toNat = i.toNatClampNeg from by omega, ← ra, u, u2_r hn]
theorem TJB.of {I I1 : IT} {a r : Nat} {t y i j v w : Int32} (h : TJB (I a) t.toInt) (u : I1 = u2 I r 5 y) (hn : a ≠ r) (ra : I1 a i.toNatClampNeg = v) (rb : I1 a j.toNatClampNeg = w) (hi : i.toInt = t.toInt - 2) (hj : j.toInt = t.toInt - 1) (h2 : 2 ≤ t.toInt) : 0 ≤ v.toInt ∧ 0 ≤ w.toInt ∧ v.toInt + w.toInt ≤ 200000 := by
  have q := h h2
  rw [TJD.rd u hn ra hi (by omega), TJD.rd u hn rb hj (by omega)] at q; exact q
theorem TJD.su {I I1 : IT} {a r : Nat} {t y i j v w : Int32} {k n x : Int} (e : I r 5 = t) (u : I1 = u2 I r 5 y) (hn : a ≠ r) (ra : I1 a i.toNatClampNeg = v) (rb : I1 a j.toNatClampNeg = w) (hi : i.toInt = t.toInt - 2) (hj : j.toInt = t.toInt - 1) (h2 : 2 ≤ t.toInt) (hy : y.toInt = t.toInt - 1) (hk : k = 2) (hx : x = 1 ∧ v.toInt = w.toInt ∨ x = 0 ∧ v.toInt ≠ w.toInt) : TJD (I1 r 5).toInt (I r 5).toInt (I1 a) (I a) k n x := by
  rw [e]
  refine ⟨fun _ => ⟨by rw [u, u2_s]; exact hy, fun _ => ⟨fun j => by rw [u, u2_r hn], ?_⟩, fun q => absurd hk q⟩, fun q => by omega⟩
  rw [TJD.rd u hn ra hi (by omega), TJD.rd u hn rb hj (by omega)]; exact hx
theorem TJD.pr {I I1 I2 : IT} {a r : Nat} {t y i j v w s : Int32} {k n x : Int} (e : I r 5 = t) (u : I1 = u2 I r 5 y) (hn : a ≠ r) (ra : I1 a i.toNatClampNeg = v) (rb : I1 a j.toNatClampNeg = w) (u' : I2 = u2 I1 a i.toNatClampNeg s) (hi : i.toInt = t.toInt - 2) (hj : j.toInt = t.toInt - 1) (h2 : 2 ≤ t.toInt) (hy : y.toInt = t.toInt - 1) (hk : k ≠ 2) (hs : s.toInt = v.toInt + (w.toInt + n)) (hx : x = 1) : TJD (I2 r 5).toInt (I r 5).toInt (I2 a) (I a) k n x := by
  have n0 := ncz (x := i) (by omega)
  have er : I2 r 5 = I1 r 5 := by rw [u', u2_r (Ne.symm hn)]
  rw [e, er]
  refine ⟨fun _ => ⟨by rw [u, u2_s]; exact hy, fun q => absurd q hk, fun _ => ⟨hx, ?_, fun z hz => ?_⟩⟩, fun q => by omega⟩
  · rw [TJD.rd u hn ra hi (by omega), TJD.rd u hn rb hj (by omega), show (t.toInt - 2).toNat = i.toNatClampNeg from by omega, u', u2_s]; exact hs
  · rw [u', u2_k (by omega), u, u2_r hn]
def SMT (g : Nat → Int) : Nat → Int
  | 0 => 0
  | n + 1 => SMT g n + g n
theorem SMT.cg {g h : Nat → Int} : ∀ n, (∀ j, j < n → g j = h j) → SMT g n = SMT h n
  | 0, _ => rfl
  | n + 1, e => by
    show SMT g n + g n = SMT h n + h n
    rw [SMT.cg n (fun j hj => e j (by omega)), e n (by omega)]
theorem SMT.ge {g : Nat → Int} : ∀ n, (∀ j, j < n → 0 ≤ g j) → 0 ≤ SMT g n
  | 0, _ => Int.le_refl 0
  | n + 1, e => by
    have a := SMT.ge n (fun j hj => e j (by omega))
    have b := e n (by omega)
    show 0 ≤ SMT g n + g n; omega
theorem SMT.two {g : Nat → Int} {n : Nat} (h : 2 ≤ n) : SMT g n = SMT g (n - 2) + g (n - 2) + g (n - 1) := by
  obtain ⟨m, rfl⟩ : ∃ m, n = m + 2 := ⟨n - 2, by omega⟩
  rfl
def SZL (l : List (Int × Int)) : Prop := ∀ (k : Nat) (x : Int × Int), l[k]? = some x → 0 ≤ x.1 ∧ x.1 ≤ 5 ∧ 0 ≤ x.2 ∧ x.2 ≤ 999
theorem DRP {l : List (Int × Int)} {k : Nat} {x : Int × Int} (h : l[k]? = some x) : l.drop k = x :: l.drop (k + 1) := by
  obtain ⟨hk, e⟩ := List.getElem?_eq_some_iff.mp h
  rw [List.drop_eq_getElem_cons hk, e]
/-- so far -/
def TOI (w : Int) (l : List (Int × Int)) (k top : Int) (f : Nat → Int32) : Prop := ∃ s : TSt, top = s.1 ∧ s.1 ≤ 20 ∧ (∀ j, j < s.1 → (f j).toInt = s.2 j ∧ 0 ≤ s.2 j) ∧ SMT s.2 s.1 ≤ 1000 * k ∧ TCL w l (0, fun _ => 0) = TCL w (l.drop k.toNat) s
theorem TOI.z {w k top : Int} {l : List (Int × Int)} {f : Nat → Int32} (hk : k = 0) (ht : top = 0) : TOI w l k top f := by
  subst hk; subst ht
  exact ⟨(0, fun _ => 0), rfl, by decide, fun j hj => by have hj : j < 0 := hj; omega, by decide, rfl⟩
theorem TOI.b {w k top : Int} {l : List (Int × Int)} {f : Nat → Int32} (h : TOI w l k top f) (hk : k ≤ 160) : 0 ≤ top ∧ top ≤ 20 ∧ TJB f top := by
  obtain ⟨⟨n, g⟩, e, b, c, d, -⟩ := h
  have e : top = (n : Int) := e
  have b : n ≤ 20 := b
  have c : ∀ j, j < n → (f j).toInt = g j ∧ 0 ≤ g j := c
  have d : SMT g n ≤ 1000 * k := d
  refine ⟨by omega, by omega, fun q => ?_⟩
  rw [show (top - 2).toNat = n - 2 from by omega, show (top - 1).toNat = n - 1 from by omega]
  obtain ⟨c1, c2⟩ := c (n - 2) (by omega)
  obtain ⟨c3, c4⟩ := c (n - 1) (by omega)
  have t := SMT.two (g := g) (n := n) (by omega)
  have z := SMT.ge (g := g) (n - 2) (fun j hj => (c j (by omega)).2)
  exact ⟨by omega, by omega, by omega⟩
theorem TOI.end {w k top x : Int} {l : List (Int × Int)} {f : Nat → Int32} (h : TOI w l k top f) (hk : k = l.length) (hx : top = 1 ∧ x = (f 0).toInt ∨ top ≠ 1 ∧ x = -1) : x = RKC (TCL w l (0, fun _ => 0)) := by
  obtain ⟨s, e, b, c, d, r⟩ := h
  rw [r, hk, show ((l.length : Nat) : Int).toNat = l.length from by omega, List.drop_length]
  show x = (if s.1 = 1 then s.2 0 else -1)
  rcases hx with ⟨h1, h2⟩ | ⟨h1, h2⟩
  · rw [if_pos (by omega), h2]; exact (c 0 (by omega)).1
  · rw [if_neg (by omega)]; exact h2
theorem TOI.st {w k : Int} {l : List (Int × Int)} {x : Int × Int} {s : TSt} (r : TCL w l (0, fun _ => 0) = TCL w (l.drop k.toNat) s) (hx : l[k.toNat]? = some x) : TCL w l (0, fun _ => 0) = (TC1 w x s).bind (TCL w (l.drop (k.toNat + 1))) := by rw [r, DRP hx]; rfl
theorem TOI.less {w k k' top : Int} {l : List (Int × Int)} {f f' : Nat → Int32} {x : Int × Int} (h : TOI w l k top f) (hx : l[k.toNat]? = some x) (h5 : x.1 = 5) (hf : f' = f) (h0 : 0 ≤ k) (hk : k' = k + 1) : TOI w l k' top f' := by
  subst hf
  obtain ⟨s, e, b, m, d, r⟩ := h
  have rs := TOI.st r hx
  have t1 : TC1 w x s = some s := by unfold TC1; rw [if_neg (by omega), if_pos h5]
  rw [t1] at rs
  exact ⟨s, e, b, m, by omega, by rw [rs, show k'.toNat = k.toNat + 1 from by omega]; rfl⟩
theorem STL.get {R : RT} {I : IT} {o a b : Nat} {k n : Int32} (za : rA R o 0 = a) (zb : rA R o 1 = b) (e : I o 2 = n) (h0 : 0 ≤ k.toInt) (h1 : k.toInt < n.toInt) : (STL R I o)[k.toInt.toNat]? = some ((I a k.toNatClampNeg).toInt, (I b k.toNatClampNeg).toInt) := by
  have n0 := ncz h0
  subst za; subst zb; subst e
  unfold STL
  rw [List.getElem?_map, List.getElem?_range (by omega), show k.toInt.toNat = k.toNatClampNeg from by omega]
  rfl
theorem TOJ.less {w k k' top kd z : Int} {l : List (Int × Int)} {f f' : Nat → Int32} (h : TOI w l k top f) (hx : l[k.toNat]? = some (kd, z)) (h5 : kd = 5) (hf : f' = f) (h0 : 0 ≤ k) (hk : k' = k + 1) : TOI w l k' top f' := TOI.less h hx h5 hf h0 hk
