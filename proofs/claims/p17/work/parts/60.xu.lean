/-! rank: exactly -/
/-- a total laid, two joined -/
def TLD (c9 c : Int) (f9 f : Nat → Int32) (v x : Int) : Prop := (c < 20 → x = 1 ∧ c9 = c + 1 ∧ (f9 c.toNat).toInt = v ∧ ∀ j, j ≠ c.toNat → f9 j = f j) ∧ (20 ≤ c → x = 0)
theorem TLD.n {c9 c v x : Int} {f9 f : Nat → Int32} (h : 20 ≤ c) (hx : x = 0) : TLD c9 c f9 f v x := ⟨fun q => by omega, fun _ => hx⟩
theorem TLD.y {I I1 I2 : IT} {a r : Nat} {t v y : Int32} {x : Int} (e : I r 5 = t) (u : I1 = u2 I a t.toNatClampNeg v) (u' : I2 = u2 I1 r 5 y) (hn : a ≠ r) (h0 : 0 ≤ t.toInt) (h : t.toInt < 20) (hy : y.toInt = t.toInt + 1) (hx : x = 1) : TLD (I2 r 5).toInt (I r 5).toInt (I2 a) (I a) v.toInt x := by
  have n0 := ncz h0
  have ea : I2 a = I1 a := by rw [u', u2_r hn]
  refine ⟨fun _ => ⟨hx, ?_, ?_, fun j hj => ?_⟩, fun q => by rw [e] at q; omega⟩
  · rw [u', u2_s, e]; exact hy
  · rw [ea, e, show t.toInt.toNat = t.toNatClampNeg from by omega, u, u2_s]
  · rw [ea, u, u2_k (by rw [e] at hj; omega)]
def TJD (c9 c : Int) (f9 f : Nat → Int32) (k n x : Int) : Prop := (2 ≤ c → c9 = c - 1 ∧ (k = 2 → (∀ j, f9 j = f j) ∧ (x = 1 ∧ (f (c - 2).toNat).toInt = (f (c - 1).toNat).toInt ∨ x = 0 ∧ (f (c - 2).toNat).toInt ≠ (f (c - 1).toNat).toInt)) ∧ (k ≠ 2 → x = 1 ∧ (f9 (c - 2).toNat).toInt = (f (c - 2).toNat).toInt + ((f (c - 1).toNat).toInt + n) ∧ ∀ j, j ≠ (c - 2).toNat → f9 j = f j)) ∧ (c < 2 → x = 0)
def TJB (f : Nat → Int32) (c : Int) : Prop := 2 ≤ c → 0 ≤ (f (c - 2).toNat).toInt ∧ 0 ≤ (f (c - 1).toNat).toInt ∧ (f (c - 2).toNat).toInt + (f (c - 1).toNat).toInt ≤ 200000
theorem TJD.n {c9 c k n x : Int} {f9 f : Nat → Int32} (h : c < 2) (hx : x = 0) : TJD c9 c f9 f k n x := ⟨fun q => by omega, fun _ => hx⟩
theorem TJD.rd {I I1 : IT} {a r : Nat} {t y i v : Int32} {d : Int} (u : I1 = u2 I r 5 y) (hn : a ≠ r) (ra : I1 a i.toNatClampNeg = v) (hi : i.toInt = t.toInt - d) (h0 : 0 ≤ i.toInt) : I a (t.toInt - d).toNat = v := by
  have n0 := ncz h0
  rw [show (t.toInt - d).toNat = i.toNatClampNeg from by omega, ← ra, u, u2_r hn]
theorem TJB.of {I I1 : IT} {a r : Nat} {t y i j v w : Int32} (h : TJB (I a) t.toInt) (u : I1 = u2 I r 5 y) (hn : a ≠ r) (ra : I1 a i.toNatClampNeg = v) (rb : I1 a j.toNatClampNeg = w) (hi : i.toInt = t.toInt - 2) (hj : j.toInt = t.toInt - 1) (h2 : 2 ≤ t.toInt) : 0 ≤ v.toInt ∧ 0 ≤ w.toInt ∧ v.toInt + w.toInt ≤ 200000 := by
  have q := h h2
  rw [TJD.rd u hn ra hi (by omega), TJD.rd u hn rb hj (by omega)] at q; exact q
theorem TJD.su {I I1 : IT} {a r : Nat} {t y i j v w : Int32} {k n x : Int} (e : I r 5 = t) (u : I1 = u2 I r 5 y) (hn : a ≠ r) (ra : I1 a i.toNatClampNeg = v) (rb : I1 a j.toNatClampNeg = w) (hi : i.toInt = t.toInt - 2) (hj : j.toInt = t.toInt - 1) (h2 : 2 ≤ t.toInt) (hy : y.toInt = t.toInt - 1) (hk : k = 2) (hx : x = 1 ∧ v.toInt = w.toInt ∨ x = 0 ∧ v.toInt ≠ w.toInt) : TJD (I1 r 5).toInt (I r 5).toInt (I1 a) (I a) k n x := by
  rw [e]
  refine ⟨fun _ => ⟨by rw [u, u2_s]; exact hy, fun _ => ⟨fun j => by rw [u, u2_r hn], ?_⟩, fun q => absurd hk q⟩, fun q => by omega⟩
  rw [TJD.rd u hn ra hi (by omega), TJD.rd u hn rb hj (by omega)]; exact hx
theorem TJD.pr {I I1 I2 : IT} {a r : Nat} {t y i j v w s : Int32} {k n x : Int} (e : I r 5 = t) (u : I1 = u2 I r 5 y) (hn : a ≠ r) (ra : I1 a i.toNatClampNeg = v) (rb : I1 a j.toNatClampNeg = w) (u' : I2 = u2 I1 a i.toNatClampNeg s) (hi : i.toInt = t.toInt - 2) (hj : j.toInt = t.toInt - 1) (h2 : 2 ≤ t.toInt) (hy : y.toInt = t.toInt - 1) (hk : k ≠ 2) (hs : s.toInt = v.toInt + (w.toInt + n)) (hx : x = 1) : TJD (I2 r 5).toInt (I r 5).toInt (I2 a) (I a) k n x := by
  have n0 := ncz (x := i) (by omega)
  have er : I2 r 5 = I1 r 5 := by rw [u', u2_r (Ne.symm hn)]
  rw [e, er]
  refine ⟨fun _ => ⟨by rw [u, u2_s]; exact hy, fun q => absurd q hk, fun _ => ⟨hx, ?_, fun z hz => ?_⟩⟩, fun q => by omega⟩
  · rw [TJD.rd u hn ra hi (by omega), TJD.rd u hn rb hj (by omega), show (t.toInt - 2).toNat = i.toNatClampNeg from by omega, u', u2_s]; exact hs
  · rw [u', u2_k (by omega), u, u2_r hn]
def SMT (g : Nat → Int) : Nat → Int
  | 0 => 0
  | n + 1 => SMT g n + g n
theorem SMT.cg {g h : Nat → Int} : ∀ n, (∀ j, j < n → g j = h j) → SMT g n = SMT h n
  | 0, _ => rfl
  | n + 1, e => by
    show SMT g n + g n = SMT h n + h n
    rw [SMT.cg n (fun j hj => e j (by omega)), e n (by omega)]
theorem SMT.ge {g : Nat → Int} : ∀ n, (∀ j, j < n → 0 ≤ g j) → 0 ≤ SMT g n
  | 0, _ => Int.le_refl 0
  | n + 1, e => by
    have a := SMT.ge n (fun j hj => e j (by omega))
    have b := e n (by omega)
    show 0 ≤ SMT g n + g n; omega
theorem SMT.two {g : Nat → Int} {n : Nat} (h : 2 ≤ n) : SMT g n = SMT g (n - 2) + g (n - 2) + g (n - 1) := by
  obtain ⟨m, rfl⟩ : ∃ m, n = m + 2 := ⟨n - 2, by omega⟩
  rfl
def SZL (l : List (Int × Int)) : Prop := ∀ (k : Nat) (x : Int × Int), l[k]? = some x → 0 ≤ x.1 ∧ x.1 ≤ 5 ∧ 0 ≤ x.2 ∧ x.2 ≤ 999
theorem DRP {l : List (Int × Int)} {k : Nat} {x : Int × Int} (h : l[k]? = some x) : l.drop k = x :: l.drop (k + 1) := by
  obtain ⟨hk, e⟩ := List.getElem?_eq_some_iff.mp h
  rw [List.drop_eq_getElem_cons hk, e]
/-- so far -/
def TOI (w : Int) (l : List (Int × Int)) (k top : Int) (f : Nat → Int32) : Prop := ∃ s : TSt, top = s.1 ∧ s.1 ≤ 20 ∧ (∀ j, j < s.1 → (f j).toInt = s.2 j ∧ 0 ≤ s.2 j) ∧ SMT s.2 s.1 ≤ 1000 * k ∧ TCL w l (0, fun _ => 0) = TCL w (l.drop k.toNat) s
theorem TOI.z {w k top : Int} {l : List (Int × Int)} {f : Nat → Int32} (hk : k = 0) (ht : top = 0) : TOI w l k top f := by
  subst hk; subst ht
  exact ⟨(0, fun _ => 0), rfl, by decide, fun j hj => by have hj : j < 0 := hj; omega, by decide, rfl⟩
theorem TOI.b {w k top : Int} {l : List (Int × Int)} {f : Nat → Int32} (h : TOI w l k top f) (hk : k ≤ 160) : 0 ≤ top ∧ top ≤ 20 ∧ TJB f top := by
  obtain ⟨⟨n, g⟩, e, b, c, d, -⟩ := h
  have e : top = (n : Int) := e
  have b : n ≤ 20 := b
  have c : ∀ j, j < n → (f j).toInt = g j ∧ 0 ≤ g j := c
  have d : SMT g n ≤ 1000 * k := d
  refine ⟨by omega, by omega, fun q => ?_⟩
  rw [show (top - 2).toNat = n - 2 from by omega, show (top - 1).toNat = n - 1 from by omega]
  obtain ⟨c1, c2⟩ := c (n - 2) (by omega)
  obtain ⟨c3, c4⟩ := c (n - 1) (by omega)
  have t := SMT.two (g := g) (n := n) (by omega)
  have z := SMT.ge (g := g) (n - 2) (fun j hj => (c j (by omega)).2)
  exact ⟨by omega, by omega, by omega⟩
theorem TOI.end {w k top x : Int} {l : List (Int × Int)} {f : Nat → Int32} (h : TOI w l k top f) (hk : k = l.length) (hx : top = 1 ∧ x = (f 0).toInt ∨ top ≠ 1 ∧ x = -1) : x = RKC (TCL w l (0, fun _ => 0)) := by
  obtain ⟨s, e, b, c, d, r⟩ := h
  rw [r, hk, show ((l.length : Nat) : Int).toNat = l.length from by omega, List.drop_length]
  show x = (if s.1 = 1 then s.2 0 else -1)
  rcases hx with ⟨h1, h2⟩ | ⟨h1, h2⟩
  · rw [if_pos (by omega), h2]; exact (c 0 (by omega)).1
  · rw [if_neg (by omega)]; exact h2
theorem TOI.st {w k : Int} {l : List (Int × Int)} {x : Int × Int} {s : TSt} (r : TCL w l (0, fun _ => 0) = TCL w (l.drop k.toNat) s) (hx : l[k.toNat]? = some x) : TCL w l (0, fun _ => 0) = (TC1 w x s).bind (TCL w (l.drop (k.toNat + 1))) := by rw [r, DRP hx]; rfl
theorem TOI.lay {w k k' top top' v y : Int} {l : List (Int × Int)} {f f' : Nat → Int32} {x : Int × Int} (h : TOI w l k top f) (hx : l[k.toNat]? = some x) (h1 : x.1 ≤ 1) (c : TLD top' top f' f v y) (hy : y ≠ 0) (hv : v = if x.1 = 0 ∧ w = 0 then 1 else 0) (h0 : 0 ≤ k) (hk : k' = k + 1) : TOI w l k' top' f' := by
  obtain ⟨s, e, b, m, d, r⟩ := h
  have lt : s.1 < 20 := by
    by_cases q : s.1 < 20
    · exact q
    · exact absurd (c.2 (by omega)) hy
  obtain ⟨-, c2, c3, c4⟩ := c.1 (by omega)
  have rs := TOI.st r hx
  have t1 : TC1 w x s = some (s.1 + 1, UPD s.2 s.1 (if x.1 = 0 ∧ w = 0 then 1 else 0)) := by unfold TC1; rw [if_pos h1, if_pos lt]
  rw [t1] at rs
  have v0 : 0 ≤ v ∧ v ≤ 1 := by rw [hv]; split <;> omega
  refine ⟨(s.1 + 1, UPD s.2 s.1 (if x.1 = 0 ∧ w = 0 then 1 else 0)), by show top' = ((s.1 + 1 : Nat) : Int); omega, by show s.1 + 1 ≤ 20; omega, fun j hj => ?_, ?_, ?_⟩
  · have hj : j < s.1 + 1 := hj
    show (f' j).toInt = UPD s.2 s.1 _ j ∧ 0 ≤ UPD s.2 s.1 _ j
    by_cases q : j = s.1
    · rw [q, UPD.s, ← hv]
      rw [show top.toNat = s.1 from by omega] at c3
      exact ⟨c3, v0.1⟩
    · rw [UPD.k q, c4 j (by omega)]; exact m j (by omega)
  · show SMT (UPD s.2 s.1 _) s.1 + UPD s.2 s.1 _ s.1 ≤ 1000 * k'
    rw [UPD.s, ← hv, SMT.cg (h := s.2) s.1 (fun j hj => UPD.k (by omega))]; omega
  · rw [rs, show k'.toNat = k.toNat + 1 from by omega]; rfl
theorem TOI.lay0 {w k top top' v y z : Int} {l : List (Int × Int)} {f f' : Nat → Int32} {x : Int × Int} (h : TOI w l k top f) (hx : l[k.toNat]? = some x) (h1 : x.1 ≤ 1) (c : TLD top' top f' f v y) (hy : y = 0) (hz : z = -1) : z = RKC (TCL w l (0, fun _ => 0)) := by
  obtain ⟨s, e, b, m, d, r⟩ := h
  have ge : ¬ s.1 < 20 := fun q => by have := (c.1 (by omega)).1; omega
  have rs := TOI.st r hx
  have t1 : TC1 w x s = none := by unfold TC1; rw [if_pos h1, if_neg ge]
  rw [t1] at rs; rw [rs]; exact hz
theorem TOI.less {w k k' top : Int} {l : List (Int × Int)} {f f' : Nat → Int32} {x : Int × Int} (h : TOI w l k top f) (hx : l[k.toNat]? = some x) (h5 : x.1 = 5) (hf : f' = f) (h0 : 0 ≤ k) (hk : k' = k + 1) : TOI w l k' top f' := by
  subst hf
  obtain ⟨s, e, b, m, d, r⟩ := h
  have rs := TOI.st r hx
  have t1 : TC1 w x s = some s := by unfold TC1; rw [if_neg (by omega), if_pos h5]
  rw [t1] at rs
  exact ⟨s, e, b, m, by omega, by rw [rs, show k'.toNat = k.toNat + 1 from by omega]; rfl⟩
theorem TOI.jn {w k k' top top' n y : Int} {l : List (Int × Int)} {f f' : Nat → Int32} {x : Int × Int} (h : TOI w l k top f) (hx : l[k.toNat]? = some x) (h1 : 1 < x.1) (h5 : x.1 ≠ 5) (c : TJD top' top f' f x.1 n y) (hy : y ≠ 0) (hn : n = if x.1 = 4 ∧ w ≠ 0 then x.2 else 0) (hz : 0 ≤ x.2 ∧ x.2 ≤ 999) (h0 : 0 ≤ k) (hk : k' = k + 1) : TOI w l k' top' f' := by
  obtain ⟨s, e, b, m, d, r⟩ := h
  have ge : 2 ≤ s.1 := by
    by_cases q : 2 ≤ s.1
    · exact q
    · exact absurd (c.2 (by omega)) hy
  obtain ⟨c1, c2, c3⟩ := c.1 (by omega)
  rw [show (top - 2).toNat = s.1 - 2 from by omega, show (top - 1).toNat = s.1 - 1 from by omega] at c2
  rw [show (top - 2).toNat = s.1 - 2 from by omega, show (top - 1).toNat = s.1 - 1 from by omega] at c3
  have rs := TOI.st r hx
  obtain ⟨a1, a2⟩ := m (s.1 - 2) (by omega)
  obtain ⟨b1, b2⟩ := m (s.1 - 1) (by omega)
  have tw := SMT.two (g := s.2) (n := s.1) ge
  by_cases q : x.1 = 2
  · obtain ⟨g1, g2⟩ := c2 q
    have eq : s.2 (s.1 - 2) = s.2 (s.1 - 1) := by rcases g2 with g | g <;> omega
    have t1 : TC1 w x s = some (s.1 - 1, s.2) := by unfold TC1; rw [if_neg (by omega), if_neg h5, if_neg (by omega), if_pos q, if_pos eq]
    rw [t1] at rs
    refine ⟨(s.1 - 1, s.2), by show top' = ((s.1 - 1 : Nat) : Int); omega, by show s.1 - 1 ≤ 20; omega, fun j hj => ?_, ?_, ?_⟩
    · have hj : j < s.1 - 1 := hj
      rw [g1 j]; exact m j (by omega)
    · show SMT s.2 (s.1 - 1) ≤ 1000 * k'
      have z : SMT s.2 (s.1 - 2 + 1) = SMT s.2 (s.1 - 2) + s.2 (s.1 - 2) := rfl
      rw [show s.1 - 2 + 1 = s.1 - 1 from by omega] at z
      omega
    · rw [rs, show k'.toNat = k.toNat + 1 from by omega]; rfl
  · obtain ⟨-, g1, g2⟩ := c3 q
    have t1 : TC1 w x s = some (s.1 - 1, UPD s.2 (s.1 - 2) (s.2 (s.1 - 2) + (s.2 (s.1 - 1) + n))) := by unfold TC1; rw [if_neg (by omega), if_neg h5, if_neg (by omega), if_neg q, hn]
    rw [t1] at rs
    have n0 : 0 ≤ n ∧ n ≤ 999 := by rw [hn]; split <;> omega
    refine ⟨(s.1 - 1, UPD s.2 (s.1 - 2) (s.2 (s.1 - 2) + (s.2 (s.1 - 1) + n))), by show top' = ((s.1 - 1 : Nat) : Int); omega, by show s.1 - 1 ≤ 20; omega, fun j hj => ?_, ?_, ?_⟩
    · have hj : j < s.1 - 1 := hj
      show (f' j).toInt = UPD s.2 (s.1 - 2) _ j ∧ 0 ≤ UPD s.2 (s.1 - 2) _ j
      by_cases z : j = s.1 - 2
      · rw [z, UPD.s]; exact ⟨by omega, by omega⟩
      · rw [UPD.k z, g2 j z]; exact m j (by omega)
    · show SMT (UPD s.2 (s.1 - 2) (s.2 (s.1 - 2) + (s.2 (s.1 - 1) + n))) (s.1 - 1) ≤ 1000 * k'
      have z : SMT (UPD s.2 (s.1 - 2) (s.2 (s.1 - 2) + (s.2 (s.1 - 1) + n))) (s.1 - 2 + 1) = SMT (UPD s.2 (s.1 - 2) (s.2 (s.1 - 2) + (s.2 (s.1 - 1) + n))) (s.1 - 2) + UPD s.2 (s.1 - 2) (s.2 (s.1 - 2) + (s.2 (s.1 - 1) + n)) (s.1 - 2) := rfl
      rw [UPD.s, SMT.cg (h := s.2) (s.1 - 2) (fun j hj => UPD.k (by omega)), show s.1 - 2 + 1 = s.1 - 1 from by omega] at z
      omega
    · rw [rs, show k'.toNat = k.toNat + 1 from by omega]; rfl
theorem TOI.jn0 {w k top top' n y z : Int} {l : List (Int × Int)} {f f' : Nat → Int32} {x : Int × Int} (h : TOI w l k top f) (hx : l[k.toNat]? = some x) (h1 : 1 < x.1) (h5 : x.1 ≠ 5) (c : TJD top' top f' f x.1 n y) (hy : y = 0) (hz : z = -1) : z = RKC (TCL w l (0, fun _ => 0)) := by
  obtain ⟨s, e, b, m, d, r⟩ := h
  have rs := TOI.st r hx
  have t1 : TC1 w x s = none := by
    unfold TC1
    rw [if_neg (by omega), if_neg h5]
    by_cases ge : 2 ≤ s.1
    · obtain ⟨c1, c2, c3⟩ := c.1 (by omega)
      rw [show (top - 2).toNat = s.1 - 2 from by omega, show (top - 1).toNat = s.1 - 1 from by omega] at c2
      obtain ⟨a1, a2⟩ := m (s.1 - 2) (by omega)
      obtain ⟨b1, b2⟩ := m (s.1 - 1) (by omega)
      rw [if_neg (by omega)]
      by_cases q : x.1 = 2
      · rw [if_pos q, if_neg (by rcases (c2 q).2 with g | g <;> omega)]
      · have := (c3 q).1
        omega
    · rw [if_pos (by omega)]
  rw [t1] at rs; rw [rs]; exact hz
theorem STL.get {R : RT} {I : IT} {o a b : Nat} {k n : Int32} (za : rA R o 0 = a) (zb : rA R o 1 = b) (e : I o 2 = n) (h0 : 0 ≤ k.toInt) (h1 : k.toInt < n.toInt) : (STL R I o)[k.toInt.toNat]? = some ((I a k.toNatClampNeg).toInt, (I b k.toNatClampNeg).toInt) := by
  have n0 := ncz h0
  subst za; subst zb; subst e
  unfold STL
  rw [List.getElem?_map, List.getElem?_range (by omega), show k.toInt.toNat = k.toNatClampNeg from by omega]
  rfl
theorem TOJ.less {w k k' top kd z : Int} {l : List (Int × Int)} {f f' : Nat → Int32} (h : TOI w l k top f) (hx : l[k.toNat]? = some (kd, z)) (h5 : kd = 5) (hf : f' = f) (h0 : 0 ≤ k) (hk : k' = k + 1) : TOI w l k' top f' := TOI.less h hx h5 hf h0 hk
theorem TOJ.lay {w k k' top top' v y kd z : Int} {l : List (Int × Int)} {f f' : Nat → Int32} (h : TOI w l k top f) (hx : l[k.toNat]? = some (kd, z)) (h1 : kd ≤ 1) (c : TLD top' top f' f v y) (hy : y ≠ 0) (hv : v = if kd = 0 ∧ w = 0 then 1 else 0) (h0 : 0 ≤ k) (hk : k' = k + 1) : TOI w l k' top' f' := TOI.lay h hx h1 c hy hv h0 hk
theorem TOJ.lay0 {w k top top' v y u kd z : Int} {l : List (Int × Int)} {f f' : Nat → Int32} (h : TOI w l k top f) (hx : l[k.toNat]? = some (kd, z)) (h1 : kd ≤ 1) (c : TLD top' top f' f v y) (hy : y = 0) (hu : u = -1) : u = RKC (TCL w l (0, fun _ => 0)) := TOI.lay0 h hx h1 c hy hu
theorem TOJ.jn {w k k' top top' n y kd z : Int} {l : List (Int × Int)} {f f' : Nat → Int32} (h : TOI w l k top f) (hx : l[k.toNat]? = some (kd, z)) (h1 : 1 < kd) (h5 : kd ≠ 5) (c : TJD top' top f' f kd n y) (hy : y ≠ 0) (hn : n = if kd = 4 ∧ w ≠ 0 then z else 0) (hz : 0 ≤ z ∧ z ≤ 999) (h0 : 0 ≤ k) (hk : k' = k + 1) : TOI w l k' top' f' := TOI.jn h hx h1 h5 c hy hn hz h0 hk
theorem TOJ.jn0 {w k top top' n y u kd z : Int} {l : List (Int × Int)} {f f' : Nat → Int32} (h : TOI w l k top f) (hx : l[k.toNat]? = some (kd, z)) (h1 : 1 < kd) (h5 : kd ≠ 5) (c : TJD top' top f' f kd n y) (hy : y = 0) (hu : u = -1) : u = RKC (TCL w l (0, fun _ => 0)) := TOI.jn0 h hx h1 h5 c hy hu
theorem s_X1_isTotalLaid_x {d : Nat} {T N : Nat → Nat} {I : IT} {L : LT} {R : RT} {A B : Nat → Prop} {r0 : Nat} {n1 : Int32} (hS : SUB B A) (hI : IX A T I) (H_r0 : (hs_Cc T N R A B) r0) (hp0 : 0 ≤ (I r0 5).toInt ∧ (I r0 5).toInt ≤ 20) : Ex (d + 1) 42 [.ref r0, .int n1] (T, N, I, L, R) 0 0 (pI T N R (fun x9 I9 L9 => (0 ≤ x9.toInt) ∧ (x9.toInt ≤ 1) ∧ (TLD (I9 r0 5).toInt (I r0 5).toInt (I9 (rA R r0 2)) (I (rA R r0 2)) n1.toInt x9.toInt) ∧ (0 ≤ (I9 r0 5).toInt ∧ (I9 r0 5).toInt ≤ 20) ∧ (IX A T I9 ∧ Chg (SL [r0, (rA R r0 2)]) T [(2, 5)] I L I9 L9))) := by
  refine ⟨_, rfl, Nat.le_of_ble_eq_true rfl, fun V C S => ?_⟩
  show V 0 [(0, .ref r0), (1, .int n1)] [] (T, N, I, L, R) 0 0
  have gn1 := rg n1
  obtain ⟨T_r0, A_r0, B_r0, ⟨r0_0, R_r0_0, H_r0_0⟩, ⟨r0_1, R_r0_1, H_r0_1⟩, ⟨r0_2, R_r0_2, H_r0_2⟩, ⟨r0_3, R_r0_3, H_r0_3⟩, ⟨r0_4, R_r0_4, H_r0_4⟩⟩ := id H_r0
  have z_r0_0 : rA R r0 0 = r0_0 := rA_e R_r0_0
  have z_r0_1 : rA R r0 1 = r0_1 := rA_e R_r0_1
  have z_r0_2 : rA R r0 2 = r0_2 := rA_e R_r0_2
  have z_r0_3 : rA R r0 3 = r0_3 := rA_e R_r0_3
  have z_r0_4 : rA R r0 4 = r0_4 := rA_e R_r0_4
  obtain ⟨T_r0_2, N_r0_2, A_r0_2⟩ := id H_r0_2
  try simp only [z_r0_0, z_r0_1, z_r0_2, z_r0_3, z_r0_4] at hp0
  obtain ⟨w_r0_5, k0_r0_5⟩ : ∃ x, I r0 5 = x := ⟨_, rfl⟩
  have gw_r0_5 := rg w_r0_5
  try simp only [k0_r0_5] at hp0
  refine k_aload_n C rfl rfl rfl ?_
  refine g_I C rfl rfl rfl T_r0 rfl k0_r0_5 ?_
  refine b_if_lt C (t := 19) rfl rfl rfl (fun c1 => by exfalso; omega) (fun c1 => ?_)
  refine k_aload_n C rfl rfl rfl ?_
  refine g_I C rfl rfl rfl T_r0 rfl k0_r0_5 ?_
  refine k_aload_n C rfl rfl rfl ?_
  refine g_R C rfl rfl rfl T_r0 rfl R_r0_2 ?_
  refine z_len C (n := 20) rfl rfl (by rw [T_r0_2]; exact Nat.le_of_ble_eq_true rfl) N_r0_2 (Nat.le_of_ble_eq_true rfl) (fun x2 ex2 => ?_)
  refine b_icmp_lt C (t := 21) rfl rfl rfl (fun c3 => ?_) (fun c3 => ?_)
  · skip
    refine k_aload_n C rfl rfl rfl ?_
    refine g_R C rfl rfl rfl T_r0 rfl R_r0_2 ?_
    refine k_aload_n C rfl rfl rfl ?_
    refine g_I C rfl rfl rfl T_r0 rfl k0_r0_5 ?_
    refine k_iload_n C rfl rfl rfl ?_
    refine z_sI C rfl rfl T_r0_2 N_r0_2 (by omega) (by omega) (fun I4 uI4 => ?_)
    have hI4 : IX A T I4 := IX.a hI T_r0_2 (Nat.le_of_ble_eq_true rfl) uI4
    have S5 : Chg (SL [r0_2]) T [] I L I4 L := Chg.a List.mem_cons_self T_r0_2 (Nat.le_of_ble_eq_true rfl) uI4
    have e6 := u2_n uI4 (t_nq T_r0 T_r0_2 (by decide)) k0_r0_5
    have hq30 := uI4
    refine k_aload_n C rfl rfl rfl ?_
    refine k_dup C rfl rfl rfl ?_
    refine g_I C rfl rfl rfl T_r0 rfl e6 ?_
    refine z_iconst C (z := 1) rfl rfl rfl (fun x7 ex7 => ?_)
    refine z_iadd C rfl rfl ⟨by omega, by omega⟩ (fun x8 ex8 => ?_)
    refine z_pI C rfl rfl rfl T_r0 (Or.inr rfl) rfl (fun I9 uI9 => ?_)
    have hI9 : IX A T I9 := IX.f hI4 T_r0 (boX.tr (by decide) (by decide)) uI9
    have S10 : Chg (SL [r0]) T [(2, 5)] I4 L I9 L := Chg.f List.mem_cons_self T_r0 uI9
    have e11 := u2_e uI9
    have hq38 := uI9
    refine z_iconst C (z := 1) rfl rfl rfl (fun x12 ex12 => ?_)
    exact k_iret C rfl (Or.inr ⟨rfl, z01 (by omega) (by omega)⟩) (Nat.le_of_ble_eq_true rfl) (Nat.le_of_ble_eq_true rfl) ⟨_, _, _, rfl, rfl, by omega, by omega, by (try simp only [z_r0_0, z_r0_1, z_r0_2, z_r0_3, z_r0_4]); (try simp only [z_r0_0, z_r0_1, z_r0_2, z_r0_3, z_r0_4]); exact TLD.y k0_r0_5 hq30 hq38 (t_nq T_r0_2 T_r0 (by decide)) (by omega) (by omega) (by omega) (by omega), by (try simp only [z_r0_0, z_r0_1, z_r0_2, z_r0_3, z_r0_4]); rw [e11]; omega, hI9, (by (try simp only [z_r0_0, z_r0_1, z_r0_2, z_r0_3, z_r0_4]); exact (Chg.cons (Chg.up S5 (List.forall_mem_cons.mpr ⟨List.mem_of_getElem? (i := 1) rfl, fun _ h => nomatch h⟩)) (Chg.mono (Chg.up S10 (List.forall_mem_cons.mpr ⟨List.mem_of_getElem? (i := 0) rfl, fun _ h => nomatch h⟩)) (by decide)) (by decide)))⟩
  refine z_iconst C (z := 0) rfl rfl rfl (fun x13 ex13 => ?_)
  exact k_iret C rfl (Or.inr ⟨rfl, z01 (by omega) (by omega)⟩) (Nat.le_of_ble_eq_true rfl) (Nat.le_of_ble_eq_true rfl) ⟨_, _, _, rfl, rfl, by omega, by omega, by (try simp only [z_r0_0, z_r0_1, z_r0_2, z_r0_3, z_r0_4]); exact TLD.n (by rw [k0_r0_5]; omega) (by omega), by (try simp only [z_r0_0, z_r0_1, z_r0_2, z_r0_3, z_r0_4]); rw [k0_r0_5]; omega, hI, (by (try simp only [z_r0_0, z_r0_1, z_r0_2, z_r0_3, z_r0_4]); exact Chg.rf)⟩

theorem s_X1_isTotalJoined_x {d : Nat} {T N : Nat → Nat} {I : IT} {L : LT} {R : RT} {A B : Nat → Prop} {r0 : Nat} {n1 n2 : Int32} (hS : SUB B A) (hI : IX A T I) (H_r0 : (hs_Cc T N R A B) r0) (b0_n2 : 0 ≤ n2.toInt) (b1_n2 : n2.toInt ≤ 999) (hp0 : 0 ≤ (I r0 5).toInt ∧ (I r0 5).toInt ≤ 20) (hp1 : TJB (I (rA R r0 2)) (I r0 5).toInt) : Ex (d + 1) 43 [.ref r0, .int n1, .int n2] (T, N, I, L, R) 0 0 (pI T N R (fun x9 I9 L9 => (0 ≤ x9.toInt) ∧ (x9.toInt ≤ 1) ∧ (TJD (I9 r0 5).toInt (I r0 5).toInt (I9 (rA R r0 2)) (I (rA R r0 2)) n1.toInt n2.toInt x9.toInt) ∧ (0 ≤ (I9 r0 5).toInt ∧ (I9 r0 5).toInt ≤ 20) ∧ (IX A T I9 ∧ Chg (SL [r0, (rA R r0 2)]) T [(2, 5)] I L I9 L9))) := by
  refine ⟨_, rfl, Nat.le_of_ble_eq_true rfl, fun V C S => ?_⟩
  show V 0 [(0, .ref r0), (1, .int n1), (2, .int n2)] [] (T, N, I, L, R) 0 0
  have gn1 := rg n1
  have gn2 := rg n2
  obtain ⟨T_r0, A_r0, B_r0, ⟨r0_0, R_r0_0, H_r0_0⟩, ⟨r0_1, R_r0_1, H_r0_1⟩, ⟨r0_2, R_r0_2, H_r0_2⟩, ⟨r0_3, R_r0_3, H_r0_3⟩, ⟨r0_4, R_r0_4, H_r0_4⟩⟩ := id H_r0
  have z_r0_0 : rA R r0 0 = r0_0 := rA_e R_r0_0
  have z_r0_1 : rA R r0 1 = r0_1 := rA_e R_r0_1
  have z_r0_2 : rA R r0 2 = r0_2 := rA_e R_r0_2
  have z_r0_3 : rA R r0 3 = r0_3 := rA_e R_r0_3
  have z_r0_4 : rA R r0 4 = r0_4 := rA_e R_r0_4
  obtain ⟨T_r0_2, N_r0_2, A_r0_2⟩ := id H_r0_2
  try simp only [z_r0_0, z_r0_1, z_r0_2, z_r0_3, z_r0_4] at hp0
  try simp only [z_r0_0, z_r0_1, z_r0_2, z_r0_3, z_r0_4] at hp1
  obtain ⟨w_r0_5, k0_r0_5⟩ : ∃ x, I r0 5 = x := ⟨_, rfl⟩
  have gw_r0_5 := rg w_r0_5
  try simp only [k0_r0_5] at hp0
  try simp only [k0_r0_5] at hp1
  refine k_aload_n C rfl rfl rfl ?_
  refine g_I C rfl rfl rfl T_r0 rfl k0_r0_5 ?_
  refine z_iconst C (z := 2) rfl rfl rfl (fun x1 ex1 => ?_)
  refine b_icmp_lt C (t := 20) rfl rfl rfl (fun c2 => ?_) (fun c2 => ?_)
  · skip
    refine z_iconst C (z := 0) rfl rfl rfl (fun x3 ex3 => ?_)
    exact k_iret C rfl (Or.inr ⟨rfl, z01 (by omega) (by omega)⟩) (Nat.le_of_ble_eq_true rfl) (Nat.le_of_ble_eq_true rfl) ⟨_, _, _, rfl, rfl, by omega, by omega, by (try simp only [z_r0_0, z_r0_1, z_r0_2, z_r0_3, z_r0_4]); exact TJD.n (by rw [k0_r0_5]; omega) (by omega), by (try simp only [z_r0_0, z_r0_1, z_r0_2, z_r0_3, z_r0_4]); rw [k0_r0_5]; omega, hI, (by (try simp only [z_r0_0, z_r0_1, z_r0_2, z_r0_3, z_r0_4]); exact Chg.rf)⟩
  refine k_aload_n C rfl rfl rfl ?_
  refine g_I C rfl rfl rfl T_r0 rfl k0_r0_5 ?_
  refine k_aload_n C rfl rfl rfl ?_
  refine g_R C rfl rfl rfl T_r0 rfl R_r0_2 ?_
  refine z_len C (n := 20) rfl rfl (by rw [T_r0_2]; exact Nat.le_of_ble_eq_true rfl) N_r0_2 (Nat.le_of_ble_eq_true rfl) (fun x4 ex4 => ?_)
  refine b_icmp_le C (t := 22) rfl rfl rfl (fun c5 => ?_) (fun c5 => by exfalso; omega)
  refine k_aload_n C rfl rfl rfl ?_
  refine k_dup C rfl rfl rfl ?_
  refine g_I C rfl rfl rfl T_r0 rfl k0_r0_5 ?_
  refine z_iconst C (z := 1) rfl rfl rfl (fun x6 ex6 => ?_)
  refine z_isub C rfl rfl ⟨by omega, by omega⟩ (fun x7 ex7 => ?_)
  refine z_pI C rfl rfl rfl T_r0 (Or.inr rfl) rfl (fun I8 uI8 => ?_)
  have hI8 : IX A T I8 := IX.f hI T_r0 (boX.tr (by decide) (by decide)) uI8
  have S9 : Chg (SL [r0]) T [(2, 5)] I L I8 L := Chg.f List.mem_cons_self T_r0 uI8
  have e10 := u2_e uI8
  have hq29 := uI8
  refine k_iload_n C rfl rfl rfl ?_
  refine z_iconst C (z := 2) rfl rfl rfl (fun x11 ex11 => ?_)
  refine b_icmp_ne C (t := 66) rfl rfl rfl (fun c12 => ?_) (fun c12 => ?_)
  · skip
    refine k_aload_n C rfl rfl rfl ?_
    refine g_R C rfl rfl rfl T_r0 rfl R_r0_2 ?_
    refine k_aload_n C rfl rfl rfl ?_
    refine g_I C rfl rfl rfl T_r0 rfl e10 ?_
    refine z_iconst C (z := 1) rfl rfl rfl (fun x13 ex13 => ?_)
    refine z_isub C rfl rfl ⟨by omega, by omega⟩ (fun x14 ex14 => ?_)
    refine k_dup2 C rfl rfl rfl rfl ?_
    refine z_aI C rfl rfl T_r0_2 N_r0_2 (by omega) (by omega) (fun x15 ex15 => ?_)
    have gx15 := rg x15
    have ra78 := ex15
    refine k_aload_n C rfl rfl rfl ?_
    refine g_R C rfl rfl rfl T_r0 rfl R_r0_2 ?_
    refine k_aload_n C rfl rfl rfl ?_
    refine g_I C rfl rfl rfl T_r0 rfl e10 ?_
    refine z_aI C rfl rfl T_r0_2 N_r0_2 (by omega) (by omega) (fun x16 ex16 => ?_)
    have gx16 := rg x16
    have rb87 := ex16; have hb87 := TJB.of hp1 hq29 (t_nq T_r0_2 T_r0 (by decide)) ra78 rb87 (by omega) (by omega) (by omega)
    refine k_iload_n C rfl rfl rfl ?_
    refine z_iadd C rfl rfl ⟨by omega, by omega⟩ (fun x17 ex17 => ?_)
    have gx17 := rg x17
    have m88 := ex17
    refine z_iadd C rfl rfl ⟨by omega, by omega⟩ (fun x18 ex18 => ?_)
    have gx18 := rg x18
    have m89 := ex18
    refine z_sI C rfl rfl T_r0_2 N_r0_2 (by omega) (by omega) (fun I19 uI19 => ?_)
    have hI19 : IX A T I19 := IX.a hI8 T_r0_2 (Nat.le_of_ble_eq_true rfl) uI19
    have S20 : Chg (SL [r0_2]) T [] I8 L I19 L := Chg.a List.mem_cons_self T_r0_2 (Nat.le_of_ble_eq_true rfl) uI19
    have e21 := u2_n uI19 (t_nq T_r0 T_r0_2 (by decide)) e10
    have hq90 := uI19
    refine z_iconst C (z := 1) rfl rfl rfl (fun x22 ex22 => ?_)
    exact k_iret C rfl (Or.inr ⟨rfl, z01 (by omega) (by omega)⟩) (Nat.le_of_ble_eq_true rfl) (Nat.le_of_ble_eq_true rfl) ⟨_, _, _, rfl, rfl, by omega, by omega, by (try simp only [z_r0_0, z_r0_1, z_r0_2, z_r0_3, z_r0_4]); (try simp only [z_r0_0, z_r0_1, z_r0_2, z_r0_3, z_r0_4]); exact TJD.pr k0_r0_5 hq29 (t_nq T_r0_2 T_r0 (by decide)) ra78 rb87 hq90 (by omega) (by omega) (by omega) (by omega) (by omega) (by omega) (by omega), by (try simp only [z_r0_0, z_r0_1, z_r0_2, z_r0_3, z_r0_4]); rw [e21]; omega, hI19, (by (try simp only [z_r0_0, z_r0_1, z_r0_2, z_r0_3, z_r0_4]); exact (Chg.cons (Chg.up S9 (List.forall_mem_cons.mpr ⟨List.mem_of_getElem? (i := 0) rfl, fun _ h => nomatch h⟩)) (Chg.mono (Chg.up S20 (List.forall_mem_cons.mpr ⟨List.mem_of_getElem? (i := 1) rfl, fun _ h => nomatch h⟩)) (by decide)) (by decide)))⟩
  refine k_aload_n C rfl rfl rfl ?_
  refine g_R C rfl rfl rfl T_r0 rfl R_r0_2 ?_
  refine k_aload_n C rfl rfl rfl ?_
  refine g_I C rfl rfl rfl T_r0 rfl e10 ?_
  refine z_iconst C (z := 1) rfl rfl rfl (fun x23 ex23 => ?_)
  refine z_isub C rfl rfl ⟨by omega, by omega⟩ (fun x24 ex24 => ?_)
  refine z_aI C rfl rfl T_r0_2 N_r0_2 (by omega) (by omega) (fun x25 ex25 => ?_)
  have gx25 := rg x25
  have ra48 := ex25
  refine k_aload_n C rfl rfl rfl ?_
  refine g_R C rfl rfl rfl T_r0 rfl R_r0_2 ?_
  refine k_aload_n C rfl rfl rfl ?_
  refine g_I C rfl rfl rfl T_r0 rfl e10 ?_
  refine z_aI C rfl rfl T_r0_2 N_r0_2 (by omega) (by omega) (fun x26 ex26 => ?_)
  have gx26 := rg x26
  have rb57 := ex26
  refine b_icmp_ne C (t := 64) rfl rfl rfl (fun c27 => ?_) (fun c27 => ?_)
  · skip
    refine z_iconst C (z := 0) rfl rfl rfl (fun x28 ex28 => ?_)
    exact k_iret C rfl (Or.inr ⟨rfl, z01 (by omega) (by omega)⟩) (Nat.le_of_ble_eq_true rfl) (Nat.le_of_ble_eq_true rfl) ⟨_, _, _, rfl, rfl, by omega, by omega, by (try simp only [z_r0_0, z_r0_1, z_r0_2, z_r0_3, z_r0_4]); (try simp only [z_r0_0, z_r0_1, z_r0_2, z_r0_3, z_r0_4]); exact TJD.su k0_r0_5 hq29 (t_nq T_r0_2 T_r0 (by decide)) ra48 rb57 (by omega) (by omega) (by omega) (by omega) (by omega) (by omega), by (try simp only [z_r0_0, z_r0_1, z_r0_2, z_r0_3, z_r0_4]); rw [e10]; omega, hI8, (by (try simp only [z_r0_0, z_r0_1, z_r0_2, z_r0_3, z_r0_4]); exact (Chg.mono (Chg.up S9 (List.forall_mem_cons.mpr ⟨List.mem_of_getElem? (i := 0) rfl, fun _ h => nomatch h⟩)) (by decide)))⟩
  refine z_iconst C (z := 1) rfl rfl rfl (fun x29 ex29 => ?_)
  refine k_goto C (pc2 := 65) rfl rfl ?_
  exact k_iret C rfl (Or.inr ⟨rfl, z01 (by omega) (by omega)⟩) (Nat.le_of_ble_eq_true rfl) (Nat.le_of_ble_eq_true rfl) ⟨_, _, _, rfl, rfl, by omega, by omega, by (try simp only [z_r0_0, z_r0_1, z_r0_2, z_r0_3, z_r0_4]); (try simp only [z_r0_0, z_r0_1, z_r0_2, z_r0_3, z_r0_4]); exact TJD.su k0_r0_5 hq29 (t_nq T_r0_2 T_r0 (by decide)) ra48 rb57 (by omega) (by omega) (by omega) (by omega) (by omega) (by omega), by (try simp only [z_r0_0, z_r0_1, z_r0_2, z_r0_3, z_r0_4]); rw [e10]; omega, hI8, (by (try simp only [z_r0_0, z_r0_1, z_r0_2, z_r0_3, z_r0_4]); exact (Chg.mono (Chg.up S9 (List.forall_mem_cons.mpr ⟨List.mem_of_getElem? (i := 0) rfl, fun _ h => nomatch h⟩)) (by decide)))⟩

theorem s_X1_total_x {d : Nat} {T N : Nat → Nat} {I : IT} {L : LT} {R : RT} {A B : Nat → Prop} {r0 r1 : Nat} {n2 : Int32} (hS : SUB B A) (hI : IX A T I) (H_r0 : (hs_Cc T N R A B) r0) (H_r1 : (hs_Sg T N R A B) r1) (b0_n2 : 0 ≤ n2.toInt) (b1_n2 : n2.toInt ≤ 1) (hU : UPR T R) (hp0 : 0 ≤ (I r1 2).toInt ∧ (I r1 2).toInt ≤ 160) (hp1 : SZL (STL R I r1)) : Ex (d + 2) 44 [.ref r0, .ref r1, .int n2] (T, N, I, L, R) 0 0 (pI T N R (fun x9 I9 L9 => (x9.toInt = RKC (TCL n2.toInt (STL R I r1) (0, fun _ => 0))) ∧ (IX A T I9 ∧ Chg (SL [r0, (rA R r0 2)]) T [(2, 5)] I L I9 L9))) := by
  refine ⟨_, rfl, Nat.le_of_ble_eq_true rfl, fun V C S => ?_⟩
  show V 0 [(0, .ref r0), (1, .ref r1), (2, .int n2)] [] (T, N, I, L, R) 0 0
  have gn2 := rg n2
  obtain ⟨T_r0, A_r0, B_r0, ⟨r0_0, R_r0_0, H_r0_0⟩, ⟨r0_1, R_r0_1, H_r0_1⟩, ⟨r0_2, R_r0_2, H_r0_2⟩, ⟨r0_3, R_r0_3, H_r0_3⟩, ⟨r0_4, R_r0_4, H_r0_4⟩⟩ := id H_r0
  have z_r0_0 : rA R r0 0 = r0_0 := rA_e R_r0_0
  have z_r0_1 : rA R r0 1 = r0_1 := rA_e R_r0_1
  have z_r0_2 : rA R r0 2 = r0_2 := rA_e R_r0_2
  have z_r0_3 : rA R r0 3 = r0_3 := rA_e R_r0_3
  have z_r0_4 : rA R r0 4 = r0_4 := rA_e R_r0_4
  obtain ⟨T_r0_2, N_r0_2, A_r0_2⟩ := id H_r0_2
  obtain ⟨T_r1, A_r1, ⟨r1_0, R_r1_0, H_r1_0⟩, ⟨r1_1, R_r1_1, H_r1_1⟩⟩ := id H_r1
  have z_r1_0 : rA R r1 0 = r1_0 := rA_e R_r1_0
  have z_r1_1 : rA R r1 1 = r1_1 := rA_e R_r1_1
  obtain ⟨T_r1_0, N_r1_0, A_r1_0⟩ := id H_r1_0
  obtain ⟨T_r1_1, N_r1_1, A_r1_1⟩ := id H_r1_1
  have qa : NQ8 r0_2 r1_0 := hU.ne (t20 T_r0_2) R_r0_2 R_r1_0 (Or.inl (t_nq T_r0 T_r1 (by decide)))
  have qb : NQ8 r0_2 r1_1 := hU.ne (t20 T_r0_2) R_r0_2 R_r1_1 (Or.inl (t_nq T_r0 T_r1 (by decide)))
  try simp only [z_r0_0, z_r0_1, z_r0_2, z_r0_3, z_r0_4, z_r1_0, z_r1_1] at hp0
  try simp only [z_r0_0, z_r0_1, z_r0_2, z_r0_3, z_r0_4, z_r1_0, z_r1_1] at hp1
  obtain ⟨w_r1_2, k0_r1_2⟩ : ∃ x, I r1 2 = x := ⟨_, rfl⟩
  have gw_r1_2 := rg w_r1_2
  try simp only [k0_r1_2] at hp0
  try simp only [k0_r1_2] at hp1
  refine k_aload_n C rfl rfl rfl ?_
  refine z_iconst C (z := 0) rfl rfl rfl (fun x1 ex1 => ?_)
  refine z_pI C rfl rfl rfl T_r0 (Or.inr rfl) rfl (fun I2 uI2 => ?_)
  have hI2 : IX A T I2 := IX.f hI T_r0 (boX.tr (by decide) (by decide)) uI2
  have S3 : Chg (SL [r0]) T [(2, 5)] I L I2 L := Chg.f List.mem_cons_self T_r0 uI2
  have e4 := u2_j uI2 (by decide) k0_r1_2
  have e5 := u2_e uI2
  refine z_iconst C (z := 0) rfl rfl rfl (fun x6 ex6 => ?_)
  have J7 : ∀ (nn8 : Nat) (I9 : IT) (L10 : LT) (x11 : Int32) (x15 : Int32) (x19 : Int32), (MN (2147483647 - x11.toInt) nn8) → (IX A T I9) → (Chg (SL [r0, r0_2]) T [(2, 5)] I2 L I9 L10) → (0 ≤ x11.toInt) → (I9 r0 5 = x15) → (0 ≤ x15.toInt) → (x15.toInt ≤ 20) → (I9 r1 2 = x19) → (0 ≤ x19.toInt) → (x19.toInt ≤ 160) → (TOI n2.toInt (STL R I r1) x11.toInt x15.toInt (I9 r0_2)) → (x11.toInt ≤ w_r1_2.toInt) → (x19.toInt = w_r1_2.toInt) → V 7 [(0, .ref r0), (1, .ref r1), (2, .int n2), (3, .int x11)] [] (T, N, I9, L10, R) 0 0 := by
    intro nn8
    induction nn8 using Nat.strongRecOn with
    | _ nn8 ihJ7 =>
      intro I9 L10 x11 x15 x19 hmnn8 hI14 S13 b12 e16 b17 b18 e20 b21 b22 ff7_0 ff7_1 ff7_2
      have gx11 := rg x11
      have gx15 := rg x15
      have gx19 := rg x19
      have e26 := Chg.k S13 T_r1 (by decide) (by decide) e4
      refine k_iload_n C rfl rfl rfl ?_
      refine k_aload_n C rfl rfl rfl ?_
      refine g_I C rfl rfl rfl T_r1 rfl e20 ?_
      refine b_icmp_ge C (t := 105) rfl rfl rfl (fun c27 => ?_) (fun c27 => ?_)
      · skip
        refine k_aload_n C rfl rfl rfl ?_
        refine g_I C rfl rfl rfl T_r0 rfl e16 ?_
        refine z_iconst C (z := 1) rfl rfl rfl (fun x28 ex28 => ?_)
        refine b_icmp_ne C (t := 130) rfl rfl rfl (fun c29 => ?_) (fun c29 => ?_)
        · skip
          refine z_iconst C (z := -1) rfl rfl rfl (fun x30 ex30 => ?_)
          exact k_iret C rfl (Or.inl rfl) (Nat.le_of_ble_eq_true rfl) (Nat.le_of_ble_eq_true rfl) ⟨_, _, _, rfl, rfl, by (try simp only [z_r0_0, z_r0_1, z_r0_2, z_r0_3, z_r0_4, z_r1_0, z_r1_1]); exact TOI.end ff7_0 (by have h9 := STL.len (R := R) (I := I) (o := r1); rw [k0_r1_2] at h9; omega) (by first | exact Or.inr ⟨by omega, by omega⟩ | exact Or.inl ⟨by omega, by rw [hf0]⟩), hI14, (by (try simp only [z_r0_0, z_r0_1, z_r0_2, z_r0_3, z_r0_4, z_r1_0, z_r1_1]); exact (Chg.cons (Chg.up S3 (List.forall_mem_cons.mpr ⟨List.mem_of_getElem? (i := 0) rfl, fun _ h => nomatch h⟩)) (Chg.mono S13 (by decide)) (by decide)))⟩
        refine k_aload_n C rfl rfl rfl ?_
        refine g_R C rfl rfl rfl T_r0 rfl R_r0_2 ?_
        refine z_len C (n := 20) rfl rfl (by rw [T_r0_2]; exact Nat.le_of_ble_eq_true rfl) N_r0_2 (Nat.le_of_ble_eq_true rfl) (fun x31 ex31 => ?_)
        refine b_if_le C (t := 130) rfl rfl rfl (fun c32 => by exfalso; omega) (fun c32 => ?_)
        refine k_aload_n C rfl rfl rfl ?_
        refine g_R C rfl rfl rfl T_r0 rfl R_r0_2 ?_
        refine z_iconst C (z := 0) rfl rfl rfl (fun x33 ex33 => ?_)
        refine z_aI C rfl rfl T_r0_2 N_r0_2 (by omega) (by omega) (fun x34 ex34 => ?_)
        have gx34 := rg x34
        have hf0 : I9 r0_2 0 = x34 := (congrArg (I9 r0_2) (nck (n := 0) (by omega)).symm).trans ex34
        refine k_goto C (pc2 := 131) rfl rfl ?_
        exact k_iret C rfl (Or.inl rfl) (Nat.le_of_ble_eq_true rfl) (Nat.le_of_ble_eq_true rfl) ⟨_, _, _, rfl, rfl, by (try simp only [z_r0_0, z_r0_1, z_r0_2, z_r0_3, z_r0_4, z_r1_0, z_r1_1]); exact TOI.end ff7_0 (by have h9 := STL.len (R := R) (I := I) (o := r1); rw [k0_r1_2] at h9; omega) (by first | exact Or.inr ⟨by omega, by omega⟩ | exact Or.inl ⟨by omega, by rw [hf0]⟩), hI14, (by (try simp only [z_r0_0, z_r0_1, z_r0_2, z_r0_3, z_r0_4, z_r1_0, z_r1_1]); exact (Chg.cons (Chg.up S3 (List.forall_mem_cons.mpr ⟨List.mem_of_getElem? (i := 0) rfl, fun _ h => nomatch h⟩)) (Chg.mono S13 (by decide)) (by decide)))⟩
      refine k_aload_n C rfl rfl rfl ?_
      refine k_iload_n C rfl rfl rfl ?_
      refine c_VI C (s_X7_kindAt_x hS hI14 H_r1) rfl rfl rfl rfl rfl ⟨_, rfl, rfl, T_r1, Nat.le_of_ble_eq_true rfl⟩ rfl rfl (Nat.le_of_ble_eq_true rfl) (Nat.le_of_ble_eq_true rfl) (Nat.le_of_ble_eq_true rfl) ?_
      rintro x35 _ _ ⟨p0x35, rfl, rfl⟩
      have gx35 := rg x35
      try simp only [z_r0_0, z_r0_1, z_r0_2, z_r0_3, z_r0_4, z_r1_0, z_r1_1] at p0x35
      try simp only [e20, e16] at p0x35
      try have q0x35 := congrArg Int32.toInt p0x35
      have hkd := p0x35; have hk0 := (Chg.at ((Chg.cons (Chg.up S3 (List.forall_mem_cons.mpr ⟨List.mem_of_getElem? (i := 0) rfl, fun _ h => nomatch h⟩)) (Chg.mono S13 (by decide)) (by decide)) : Chg (SL [r0, r0_2]) T [(2, 5)] I L I9 L10) (nm_2 (t_nq T_r1_0 T_r0 (by decide)) (by first | exact qa | exact fun e => qa e.symm))); have hk1 := (Chg.at ((Chg.cons (Chg.up S3 (List.forall_mem_cons.mpr ⟨List.mem_of_getElem? (i := 0) rfl, fun _ h => nomatch h⟩)) (Chg.mono S13 (by decide)) (by decide)) : Chg (SL [r0, r0_2]) T [(2, 5)] I L I9 L10) (nm_2 (t_nq T_r1_1 T_r0 (by decide)) (by first | exact qb | exact fun e => qb e.symm))); have hel := STL.get (R := R) (I := I) (k := x11) z_r1_0 z_r1_1 k0_r1_2 (by omega) (by omega); have hsz : 0 ≤ (I r1_0 x11.toNatClampNeg).toInt ∧ (I r1_0 x11.toNatClampNeg).toInt ≤ 5 ∧ 0 ≤ (I r1_1 x11.toNatClampNeg).toInt ∧ (I r1_1 x11.toNatClampNeg).toInt ≤ 999 := hp1 _ _ hel; have hkd := hkd (by omega) (by omega); rw [hk0] at hkd; rw [hkd] at hel hsz; have htb := ff7_0.b (by omega)
      refine k_istore C (lw := [(4, .int x35), (0, .ref r0), (1, .ref r1), (2, .int n2), (3, .int x11)]) rfl rfl (Nat.le_of_ble_eq_true rfl) rfl ?_
      refine z_iconst C (z := 1) rfl rfl rfl (fun x36 ex36 => ?_)
      refine k_istore C (lw := [(5, .int x36), (4, .int x35), (0, .ref r0), (1, .ref r1), (2, .int n2), (3, .int x11)]) rfl rfl (Nat.le_of_ble_eq_true rfl) rfl ?_
      refine k_iload C rfl rfl rfl ?_
      refine b_if_eq C (t := 36) rfl rfl rfl (fun c37 => ?_) (fun c37 => ?_)
      · skip
        refine k_aload_n C rfl rfl rfl ?_
        refine k_iload C rfl rfl rfl ?_
        refine b_if_ne C (t := 50) rfl rfl rfl (fun c38 => by exfalso; omega) (fun c38 => ?_)
        refine k_iload_n C rfl rfl rfl ?_
        refine b_if_ne C (t := 50) rfl rfl rfl (fun c39 => ?_) (fun c39 => ?_)
        · skip
          refine z_iconst C (z := 0) rfl rfl rfl (fun x40 ex40 => ?_)
          refine c_VI C (s_X1_isTotalLaid_x hS hI14 H_r0 (by rw [e16]; omega)) rfl rfl rfl rfl rfl ⟨_, rfl, rfl, T_r0, Nat.le_of_ble_eq_true rfl⟩ rfl rfl (Nat.le_of_ble_eq_true rfl) (Nat.le_of_ble_eq_true rfl) (Nat.le_of_ble_eq_true rfl) ?_
          rintro x41 I42 L43 ⟨o0x41, o1x41, p0x41, p1x41, hI42, S44⟩
          try simp only [z_r0_0, z_r0_1, z_r0_2, z_r0_3, z_r0_4, z_r1_0, z_r1_1] at S44
          have e45 := Chg.k S44 T_r1 (by decide) (by decide) e20
          have gx41 := rg x41
          obtain ⟨x46, e47⟩ : ∃ x, I42 r0 5 = x := ⟨_, rfl⟩
          have gx46 := rg x46
          try simp only [z_r0_0, z_r0_1, z_r0_2, z_r0_3, z_r0_4, z_r1_0, z_r1_1] at p0x41
          try simp only [z_r0_0, z_r0_1, z_r0_2, z_r0_3, z_r0_4, z_r1_0, z_r1_1] at p1x41
          try simp only [e20, e16, e47] at p0x41
          try have q0x41 := congrArg Int32.toInt p0x41
          try simp only [e20, e16, e47] at p1x41
          try have q1x41 := congrArg Int32.toInt p1x41
          have hc51 := p0x41
          refine k_istore C (lw := [(5, .int x41), (4, .int x35), (0, .ref r0), (1, .ref r1), (2, .int n2), (3, .int x11)]) rfl rfl (Nat.le_of_ble_eq_true rfl) rfl ?_
          refine k_goto C (pc2 := 92) rfl rfl ?_
          refine k_iload C rfl rfl rfl ?_
          refine b_if_ne C (t := 99) rfl rfl rfl (fun c48 => ?_) (fun c48 => ?_)
          · skip
            refine z_iinc C (z := 1) (lw := fun x49 => [(3, .int x49), (5, .int x41), (4, .int x35), (0, .ref r0), (1, .ref r1), (2, .int n2)]) rfl rfl rfl (Nat.le_of_ble_eq_true rfl) rfl ⟨by omega, by omega⟩ (fun _ => rfl) (fun x49 ex49 => ?_)
            show V 102 [(3, .int x49), (5, .int x41), (4, .int x35), (0, .ref r0), (1, .ref r1), (2, .int n2)] _ _ _ _
            refine k_goto C (pc2 := 7) rfl rfl ?_
            refine k_sub S [(0, .ref r0), (1, .ref r1), (2, .int n2), (3, .int x49)] (List.forall_mem_cons.mpr ⟨List.mem_of_getElem? (i := 3) rfl, List.forall_mem_cons.mpr ⟨List.mem_of_getElem? (i := 4) rfl, List.forall_mem_cons.mpr ⟨List.mem_of_getElem? (i := 5) rfl, List.forall_mem_cons.mpr ⟨List.mem_of_getElem? (i := 0) rfl, fun _ h => nomatch h⟩⟩⟩⟩) ?_
            exact ihJ7 _ (MN.lt hmnn8 (by omega) (by omega)) I42 L43 x49 x46 x19 rfl hI42 (Chg.cons S13 (Chg.mono (Chg.up S44 (List.forall_mem_cons.mpr ⟨List.mem_of_getElem? (i := 0) rfl, List.forall_mem_cons.mpr ⟨List.mem_of_getElem? (i := 1) rfl, fun _ h => nomatch h⟩⟩)) (by decide)) (by decide)) (by omega) e47 (by omega) (by omega) e45 (by omega) (by omega) (by first | exact TOJ.less ff7_0 hel (by omega) rfl (by omega) (by omega) | exact TOJ.lay ff7_0 hel (by omega) hc51 (by omega) (by first | (rw [if_pos (by omega)] <;> omega) | (rw [if_neg (by omega)] <;> omega)) (by omega) (by omega) | exact TOJ.jn ff7_0 hel (by omega) (by omega) hc87 (by omega) (by first | (rw [if_neg (by omega)] <;> omega) | (rw [if_pos (by omega)]; show _ = (I r1_1 _).toInt; rw [hsz80])) ⟨hsz.2.2.1, hsz.2.2.2⟩ (by omega) (by omega)) (by omega) (by omega)
          refine z_iconst C (z := -1) rfl rfl rfl (fun x50 ex50 => ?_)
          exact k_iret C rfl (Or.inl rfl) (Nat.le_of_ble_eq_true rfl) (Nat.le_of_ble_eq_true rfl) ⟨_, _, _, rfl, rfl, by (try simp only [z_r0_0, z_r0_1, z_r0_2, z_r0_3, z_r0_4, z_r1_0, z_r1_1]); first | exact TOJ.lay0 ff7_0 hel (by omega) hc51 (by omega) (by omega) | exact TOJ.jn0 ff7_0 hel (by omega) (by omega) hc87 (by omega) (by omega), hI42, (by (try simp only [z_r0_0, z_r0_1, z_r0_2, z_r0_3, z_r0_4, z_r1_0, z_r1_1]); exact (Chg.cons (Chg.up S3 (List.forall_mem_cons.mpr ⟨List.mem_of_getElem? (i := 0) rfl, fun _ h => nomatch h⟩)) (Chg.cons S13 (Chg.mono (Chg.up S44 (List.forall_mem_cons.mpr ⟨List.mem_of_getElem? (i := 0) rfl, List.forall_mem_cons.mpr ⟨List.mem_of_getElem? (i := 1) rfl, fun _ h => nomatch h⟩⟩)) (by decide)) (by decide)) (by decide)))⟩
        refine z_iconst C (z := 1) rfl rfl rfl (fun x51 ex51 => ?_)
        refine k_goto C (pc2 := 51) rfl rfl ?_
        refine c_VI C (s_X1_isTotalLaid_x hS hI14 H_r0 (by rw [e16]; omega)) rfl rfl rfl rfl rfl ⟨_, rfl, rfl, T_r0, Nat.le_of_ble_eq_true rfl⟩ rfl rfl (Nat.le_of_ble_eq_true rfl) (Nat.le_of_ble_eq_true rfl) (Nat.le_of_ble_eq_true rfl) ?_
        rintro x52 I53 L54 ⟨o0x52, o1x52, p0x52, p1x52, hI53, S55⟩
        try simp only [z_r0_0, z_r0_1, z_r0_2, z_r0_3, z_r0_4, z_r1_0, z_r1_1] at S55
        have e56 := Chg.k S55 T_r1 (by decide) (by decide) e20
        have gx52 := rg x52
        obtain ⟨x57, e58⟩ : ∃ x, I53 r0 5 = x := ⟨_, rfl⟩
        have gx57 := rg x57
        try simp only [z_r0_0, z_r0_1, z_r0_2, z_r0_3, z_r0_4, z_r1_0, z_r1_1] at p0x52
        try simp only [z_r0_0, z_r0_1, z_r0_2, z_r0_3, z_r0_4, z_r1_0, z_r1_1] at p1x52
        try simp only [e20, e16, e58] at p0x52
        try have q0x52 := congrArg Int32.toInt p0x52
        try simp only [e20, e16, e58] at p1x52
        try have q1x52 := congrArg Int32.toInt p1x52
        have hc51 := p0x52
        refine k_istore C (lw := [(5, .int x52), (4, .int x35), (0, .ref r0), (1, .ref r1), (2, .int n2), (3, .int x11)]) rfl rfl (Nat.le_of_ble_eq_true rfl) rfl ?_
        refine k_goto C (pc2 := 92) rfl rfl ?_
        refine k_iload C rfl rfl rfl ?_
        refine b_if_ne C (t := 99) rfl rfl rfl (fun c59 => ?_) (fun c59 => ?_)
        · skip
          refine z_iinc C (z := 1) (lw := fun x60 => [(3, .int x60), (5, .int x52), (4, .int x35), (0, .ref r0), (1, .ref r1), (2, .int n2)]) rfl rfl rfl (Nat.le_of_ble_eq_true rfl) rfl ⟨by omega, by omega⟩ (fun _ => rfl) (fun x60 ex60 => ?_)
          show V 102 [(3, .int x60), (5, .int x52), (4, .int x35), (0, .ref r0), (1, .ref r1), (2, .int n2)] _ _ _ _
          refine k_goto C (pc2 := 7) rfl rfl ?_
          refine k_sub S [(0, .ref r0), (1, .ref r1), (2, .int n2), (3, .int x60)] (List.forall_mem_cons.mpr ⟨List.mem_of_getElem? (i := 3) rfl, List.forall_mem_cons.mpr ⟨List.mem_of_getElem? (i := 4) rfl, List.forall_mem_cons.mpr ⟨List.mem_of_getElem? (i := 5) rfl, List.forall_mem_cons.mpr ⟨List.mem_of_getElem? (i := 0) rfl, fun _ h => nomatch h⟩⟩⟩⟩) ?_
          exact ihJ7 _ (MN.lt hmnn8 (by omega) (by omega)) I53 L54 x60 x57 x19 rfl hI53 (Chg.cons S13 (Chg.mono (Chg.up S55 (List.forall_mem_cons.mpr ⟨List.mem_of_getElem? (i := 0) rfl, List.forall_mem_cons.mpr ⟨List.mem_of_getElem? (i := 1) rfl, fun _ h => nomatch h⟩⟩)) (by decide)) (by decide)) (by omega) e58 (by omega) (by omega) e56 (by omega) (by omega) (by first | exact TOJ.less ff7_0 hel (by omega) rfl (by omega) (by omega) | exact TOJ.lay ff7_0 hel (by omega) hc51 (by omega) (by first | (rw [if_pos (by omega)] <;> omega) | (rw [if_neg (by omega)] <;> omega)) (by omega) (by omega) | exact TOJ.jn ff7_0 hel (by omega) (by omega) hc87 (by omega) (by first | (rw [if_neg (by omega)] <;> omega) | (rw [if_pos (by omega)]; show _ = (I r1_1 _).toInt; rw [hsz80])) ⟨hsz.2.2.1, hsz.2.2.2⟩ (by omega) (by omega)) (by omega) (by omega)
        refine z_iconst C (z := -1) rfl rfl rfl (fun x61 ex61 => ?_)
        exact k_iret C rfl (Or.inl rfl) (Nat.le_of_ble_eq_true rfl) (Nat.le_of_ble_eq_true rfl) ⟨_, _, _, rfl, rfl, by (try simp only [z_r0_0, z_r0_1, z_r0_2, z_r0_3, z_r0_4, z_r1_0, z_r1_1]); first | exact TOJ.lay0 ff7_0 hel (by omega) hc51 (by omega) (by omega) | exact TOJ.jn0 ff7_0 hel (by omega) (by omega) hc87 (by omega) (by omega), hI53, (by (try simp only [z_r0_0, z_r0_1, z_r0_2, z_r0_3, z_r0_4, z_r1_0, z_r1_1]); exact (Chg.cons (Chg.up S3 (List.forall_mem_cons.mpr ⟨List.mem_of_getElem? (i := 0) rfl, fun _ h => nomatch h⟩)) (Chg.cons S13 (Chg.mono (Chg.up S55 (List.forall_mem_cons.mpr ⟨List.mem_of_getElem? (i := 0) rfl, List.forall_mem_cons.mpr ⟨List.mem_of_getElem? (i := 1) rfl, fun _ h => nomatch h⟩⟩)) (by decide)) (by decide)) (by decide)))⟩
      refine k_iload C rfl rfl rfl ?_
      refine z_iconst C (z := 1) rfl rfl rfl (fun x62 ex62 => ?_)
      refine b_icmp_ne C (t := 59) rfl rfl rfl (fun c63 => ?_) (fun c63 => ?_)
      · skip
        refine k_iload C rfl rfl rfl ?_
        refine z_iconst C (z := 5) rfl rfl rfl (fun x64 ex64 => ?_)
        refine b_icmp_eq C (t := 92) rfl rfl rfl (fun c65 => ?_) (fun c65 => ?_)
        · skip
          refine k_iload C rfl rfl rfl ?_
          refine b_if_ne C (t := 99) rfl rfl rfl (fun c66 => ?_) (fun c66 => by exfalso; omega)
          refine z_iinc C (z := 1) (lw := fun x67 => [(3, .int x67), (5, .int x36), (4, .int x35), (0, .ref r0), (1, .ref r1), (2, .int n2)]) rfl rfl rfl (Nat.le_of_ble_eq_true rfl) rfl ⟨by omega, by omega⟩ (fun _ => rfl) (fun x67 ex67 => ?_)
          show V 102 [(3, .int x67), (5, .int x36), (4, .int x35), (0, .ref r0), (1, .ref r1), (2, .int n2)] _ _ _ _
          refine k_goto C (pc2 := 7) rfl rfl ?_
          refine k_sub S [(0, .ref r0), (1, .ref r1), (2, .int n2), (3, .int x67)] (List.forall_mem_cons.mpr ⟨List.mem_of_getElem? (i := 3) rfl, List.forall_mem_cons.mpr ⟨List.mem_of_getElem? (i := 4) rfl, List.forall_mem_cons.mpr ⟨List.mem_of_getElem? (i := 5) rfl, List.forall_mem_cons.mpr ⟨List.mem_of_getElem? (i := 0) rfl, fun _ h => nomatch h⟩⟩⟩⟩) ?_
          exact ihJ7 _ (MN.lt hmnn8 (by omega) (by omega)) I9 L10 x67 x15 x19 rfl hI14 (Chg.mono S13 (by decide)) (by omega) e16 (by omega) (by omega) e20 (by omega) (by omega) (by first | exact TOJ.less ff7_0 hel (by omega) rfl (by omega) (by omega) | exact TOJ.lay ff7_0 hel (by omega) hc51 (by omega) (by first | (rw [if_pos (by omega)] <;> omega) | (rw [if_neg (by omega)] <;> omega)) (by omega) (by omega) | exact TOJ.jn ff7_0 hel (by omega) (by omega) hc87 (by omega) (by first | (rw [if_neg (by omega)] <;> omega) | (rw [if_pos (by omega)]; show _ = (I r1_1 _).toInt; rw [hsz80])) ⟨hsz.2.2.1, hsz.2.2.2⟩ (by omega) (by omega)) (by omega) (by omega)
        refine k_aload_n C rfl rfl rfl ?_
        refine k_iload C rfl rfl rfl ?_
        refine k_iload C rfl rfl rfl ?_
        refine z_iconst C (z := 4) rfl rfl rfl (fun x68 ex68 => ?_)
        refine b_icmp_ne C (t := 86) rfl rfl rfl (fun c69 => ?_) (fun c69 => ?_)
        · skip
          refine z_iconst C (z := 0) rfl rfl rfl (fun x70 ex70 => ?_)
          refine c_VI C (s_X1_isTotalJoined_x hS hI14 H_r0 (by omega) (by omega) (by rw [e16]; omega) (by rw [e16, z_r0_2]; exact htb.2.2)) rfl rfl rfl rfl rfl ⟨_, rfl, rfl, T_r0, Nat.le_of_ble_eq_true rfl⟩ rfl rfl (Nat.le_of_ble_eq_true rfl) (Nat.le_of_ble_eq_true rfl) (Nat.le_of_ble_eq_true rfl) ?_
          rintro x71 I72 L73 ⟨o0x71, o1x71, p0x71, p1x71, hI72, S74⟩
          try simp only [z_r0_0, z_r0_1, z_r0_2, z_r0_3, z_r0_4, z_r1_0, z_r1_1] at S74
          have e75 := Chg.k S74 T_r1 (by decide) (by decide) e20
          have gx71 := rg x71
          obtain ⟨x76, e77⟩ : ∃ x, I72 r0 5 = x := ⟨_, rfl⟩
          have gx76 := rg x76
          try simp only [z_r0_0, z_r0_1, z_r0_2, z_r0_3, z_r0_4, z_r1_0, z_r1_1] at p0x71
          try simp only [z_r0_0, z_r0_1, z_r0_2, z_r0_3, z_r0_4, z_r1_0, z_r1_1] at p1x71
          try simp only [e20, e16, e77] at p0x71
          try have q0x71 := congrArg Int32.toInt p0x71
          try simp only [e20, e16, e77] at p1x71
          try have q1x71 := congrArg Int32.toInt p1x71
          have hc87 := p0x71
          refine k_istore C (lw := [(5, .int x71), (4, .int x35), (0, .ref r0), (1, .ref r1), (2, .int n2), (3, .int x11)]) rfl rfl (Nat.le_of_ble_eq_true rfl) rfl ?_
          refine k_iload C rfl rfl rfl ?_
          refine b_if_ne C (t := 99) rfl rfl rfl (fun c78 => ?_) (fun c78 => ?_)
          · skip
            refine z_iinc C (z := 1) (lw := fun x79 => [(3, .int x79), (5, .int x71), (4, .int x35), (0, .ref r0), (1, .ref r1), (2, .int n2)]) rfl rfl rfl (Nat.le_of_ble_eq_true rfl) rfl ⟨by omega, by omega⟩ (fun _ => rfl) (fun x79 ex79 => ?_)
            show V 102 [(3, .int x79), (5, .int x71), (4, .int x35), (0, .ref r0), (1, .ref r1), (2, .int n2)] _ _ _ _
            refine k_goto C (pc2 := 7) rfl rfl ?_
            refine k_sub S [(0, .ref r0), (1, .ref r1), (2, .int n2), (3, .int x79)] (List.forall_mem_cons.mpr ⟨List.mem_of_getElem? (i := 3) rfl, List.forall_mem_cons.mpr ⟨List.mem_of_getElem? (i := 4) rfl, List.forall_mem_cons.mpr ⟨List.mem_of_getElem? (i := 5) rfl, List.forall_mem_cons.mpr ⟨List.mem_of_getElem? (i := 0) rfl, fun _ h => nomatch h⟩⟩⟩⟩) ?_
            exact ihJ7 _ (MN.lt hmnn8 (by omega) (by omega)) I72 L73 x79 x76 x19 rfl hI72 (Chg.cons S13 (Chg.mono (Chg.up S74 (List.forall_mem_cons.mpr ⟨List.mem_of_getElem? (i := 0) rfl, List.forall_mem_cons.mpr ⟨List.mem_of_getElem? (i := 1) rfl, fun _ h => nomatch h⟩⟩)) (by decide)) (by decide)) (by omega) e77 (by omega) (by omega) e75 (by omega) (by omega) (by first | exact TOJ.less ff7_0 hel (by omega) rfl (by omega) (by omega) | exact TOJ.lay ff7_0 hel (by omega) hc51 (by omega) (by first | (rw [if_pos (by omega)] <;> omega) | (rw [if_neg (by omega)] <;> omega)) (by omega) (by omega) | exact TOJ.jn ff7_0 hel (by omega) (by omega) hc87 (by omega) (by first | (rw [if_neg (by omega)] <;> omega) | (rw [if_pos (by omega)]; show _ = (I r1_1 _).toInt; rw [hsz80])) ⟨hsz.2.2.1, hsz.2.2.2⟩ (by omega) (by omega)) (by omega) (by omega)
          refine z_iconst C (z := -1) rfl rfl rfl (fun x80 ex80 => ?_)
          exact k_iret C rfl (Or.inl rfl) (Nat.le_of_ble_eq_true rfl) (Nat.le_of_ble_eq_true rfl) ⟨_, _, _, rfl, rfl, by (try simp only [z_r0_0, z_r0_1, z_r0_2, z_r0_3, z_r0_4, z_r1_0, z_r1_1]); first | exact TOJ.lay0 ff7_0 hel (by omega) hc51 (by omega) (by omega) | exact TOJ.jn0 ff7_0 hel (by omega) (by omega) hc87 (by omega) (by omega), hI72, (by (try simp only [z_r0_0, z_r0_1, z_r0_2, z_r0_3, z_r0_4, z_r1_0, z_r1_1]); exact (Chg.cons (Chg.up S3 (List.forall_mem_cons.mpr ⟨List.mem_of_getElem? (i := 0) rfl, fun _ h => nomatch h⟩)) (Chg.cons S13 (Chg.mono (Chg.up S74 (List.forall_mem_cons.mpr ⟨List.mem_of_getElem? (i := 0) rfl, List.forall_mem_cons.mpr ⟨List.mem_of_getElem? (i := 1) rfl, fun _ h => nomatch h⟩⟩)) (by decide)) (by decide)) (by decide)))⟩
        refine k_iload_n C rfl rfl rfl ?_
        refine b_if_eq C (t := 86) rfl rfl rfl (fun c81 => ?_) (fun c81 => ?_)
        · skip
          refine z_iconst C (z := 0) rfl rfl rfl (fun x82 ex82 => ?_)
          refine c_VI C (s_X1_isTotalJoined_x hS hI14 H_r0 (by omega) (by omega) (by rw [e16]; omega) (by rw [e16, z_r0_2]; exact htb.2.2)) rfl rfl rfl rfl rfl ⟨_, rfl, rfl, T_r0, Nat.le_of_ble_eq_true rfl⟩ rfl rfl (Nat.le_of_ble_eq_true rfl) (Nat.le_of_ble_eq_true rfl) (Nat.le_of_ble_eq_true rfl) ?_
          rintro x83 I84 L85 ⟨o0x83, o1x83, p0x83, p1x83, hI84, S86⟩
          try simp only [z_r0_0, z_r0_1, z_r0_2, z_r0_3, z_r0_4, z_r1_0, z_r1_1] at S86
          have e87 := Chg.k S86 T_r1 (by decide) (by decide) e20
          have gx83 := rg x83
          obtain ⟨x88, e89⟩ : ∃ x, I84 r0 5 = x := ⟨_, rfl⟩
          have gx88 := rg x88
          try simp only [z_r0_0, z_r0_1, z_r0_2, z_r0_3, z_r0_4, z_r1_0, z_r1_1] at p0x83
          try simp only [z_r0_0, z_r0_1, z_r0_2, z_r0_3, z_r0_4, z_r1_0, z_r1_1] at p1x83
          try simp only [e20, e16, e89] at p0x83
          try have q0x83 := congrArg Int32.toInt p0x83
          try simp only [e20, e16, e89] at p1x83
          try have q1x83 := congrArg Int32.toInt p1x83
          have hc87 := p0x83
          refine k_istore C (lw := [(5, .int x83), (4, .int x35), (0, .ref r0), (1, .ref r1), (2, .int n2), (3, .int x11)]) rfl rfl (Nat.le_of_ble_eq_true rfl) rfl ?_
          refine k_iload C rfl rfl rfl ?_
          refine b_if_ne C (t := 99) rfl rfl rfl (fun c90 => ?_) (fun c90 => ?_)
          · skip
            refine z_iinc C (z := 1) (lw := fun x91 => [(3, .int x91), (5, .int x83), (4, .int x35), (0, .ref r0), (1, .ref r1), (2, .int n2)]) rfl rfl rfl (Nat.le_of_ble_eq_true rfl) rfl ⟨by omega, by omega⟩ (fun _ => rfl) (fun x91 ex91 => ?_)
            show V 102 [(3, .int x91), (5, .int x83), (4, .int x35), (0, .ref r0), (1, .ref r1), (2, .int n2)] _ _ _ _
            refine k_goto C (pc2 := 7) rfl rfl ?_
            refine k_sub S [(0, .ref r0), (1, .ref r1), (2, .int n2), (3, .int x91)] (List.forall_mem_cons.mpr ⟨List.mem_of_getElem? (i := 3) rfl, List.forall_mem_cons.mpr ⟨List.mem_of_getElem? (i := 4) rfl, List.forall_mem_cons.mpr ⟨List.mem_of_getElem? (i := 5) rfl, List.forall_mem_cons.mpr ⟨List.mem_of_getElem? (i := 0) rfl, fun _ h => nomatch h⟩⟩⟩⟩) ?_
            exact ihJ7 _ (MN.lt hmnn8 (by omega) (by omega)) I84 L85 x91 x88 x19 rfl hI84 (Chg.cons S13 (Chg.mono (Chg.up S86 (List.forall_mem_cons.mpr ⟨List.mem_of_getElem? (i := 0) rfl, List.forall_mem_cons.mpr ⟨List.mem_of_getElem? (i := 1) rfl, fun _ h => nomatch h⟩⟩)) (by decide)) (by decide)) (by omega) e89 (by omega) (by omega) e87 (by omega) (by omega) (by first | exact TOJ.less ff7_0 hel (by omega) rfl (by omega) (by omega) | exact TOJ.lay ff7_0 hel (by omega) hc51 (by omega) (by first | (rw [if_pos (by omega)] <;> omega) | (rw [if_neg (by omega)] <;> omega)) (by omega) (by omega) | exact TOJ.jn ff7_0 hel (by omega) (by omega) hc87 (by omega) (by first | (rw [if_neg (by omega)] <;> omega) | (rw [if_pos (by omega)]; show _ = (I r1_1 _).toInt; rw [hsz80])) ⟨hsz.2.2.1, hsz.2.2.2⟩ (by omega) (by omega)) (by omega) (by omega)
          refine z_iconst C (z := -1) rfl rfl rfl (fun x92 ex92 => ?_)
          exact k_iret C rfl (Or.inl rfl) (Nat.le_of_ble_eq_true rfl) (Nat.le_of_ble_eq_true rfl) ⟨_, _, _, rfl, rfl, by (try simp only [z_r0_0, z_r0_1, z_r0_2, z_r0_3, z_r0_4, z_r1_0, z_r1_1]); first | exact TOJ.lay0 ff7_0 hel (by omega) hc51 (by omega) (by omega) | exact TOJ.jn0 ff7_0 hel (by omega) (by omega) hc87 (by omega) (by omega), hI84, (by (try simp only [z_r0_0, z_r0_1, z_r0_2, z_r0_3, z_r0_4, z_r1_0, z_r1_1]); exact (Chg.cons (Chg.up S3 (List.forall_mem_cons.mpr ⟨List.mem_of_getElem? (i := 0) rfl, fun _ h => nomatch h⟩)) (Chg.cons S13 (Chg.mono (Chg.up S86 (List.forall_mem_cons.mpr ⟨List.mem_of_getElem? (i := 0) rfl, List.forall_mem_cons.mpr ⟨List.mem_of_getElem? (i := 1) rfl, fun _ h => nomatch h⟩⟩)) (by decide)) (by decide)) (by decide)))⟩
        refine k_aload_n C rfl rfl rfl ?_
        refine k_iload_n C rfl rfl rfl ?_
        refine c_VI C (s_X7_sizeAt_x hS hI14 H_r1) rfl rfl rfl rfl rfl ⟨_, rfl, rfl, T_r1, Nat.le_of_ble_eq_true rfl⟩ rfl rfl (Nat.le_of_ble_eq_true rfl) (Nat.le_of_ble_eq_true rfl) (Nat.le_of_ble_eq_true rfl) ?_
        rintro x93 _ _ ⟨p0x93, rfl, rfl⟩
        have gx93 := rg x93
        try simp only [z_r0_0, z_r0_1, z_r0_2, z_r0_3, z_r0_4, z_r1_0, z_r1_1] at p0x93
        try simp only [e20, e16] at p0x93
        try have q0x93 := congrArg Int32.toInt p0x93
        have hsz80 := p0x93; have hk80 := (Chg.at ((Chg.cons (Chg.up S3 (List.forall_mem_cons.mpr ⟨List.mem_of_getElem? (i := 0) rfl, fun _ h => nomatch h⟩)) (Chg.mono S13 (by decide)) (by decide)) : Chg (SL [r0, r0_2]) T [(2, 5)] I L I9 L10) (nm_2 (t_nq T_r1_1 T_r0 (by decide)) (by first | exact qb | exact fun e => qb e.symm))); have hsz80 := hsz80 (by omega) (by omega); rw [hk80] at hsz80; have hsz9 : 0 ≤ x93.toInt ∧ x93.toInt ≤ 999 := (by rw [← hsz80]; exact ⟨hsz.2.2.1, hsz.2.2.2⟩)
        refine k_goto C (pc2 := 87) rfl rfl ?_
        refine c_VI C (s_X1_isTotalJoined_x hS hI14 H_r0 (by omega) (by omega) (by rw [e16]; omega) (by rw [e16, z_r0_2]; exact htb.2.2)) rfl rfl rfl rfl rfl ⟨_, rfl, rfl, T_r0, Nat.le_of_ble_eq_true rfl⟩ rfl rfl (Nat.le_of_ble_eq_true rfl) (Nat.le_of_ble_eq_true rfl) (Nat.le_of_ble_eq_true rfl) ?_
        rintro x94 I95 L96 ⟨o0x94, o1x94, p0x94, p1x94, hI95, S97⟩
        try simp only [z_r0_0, z_r0_1, z_r0_2, z_r0_3, z_r0_4, z_r1_0, z_r1_1] at S97
        have e98 := Chg.k S97 T_r1 (by decide) (by decide) e20
        have gx94 := rg x94
        obtain ⟨x99, e100⟩ : ∃ x, I95 r0 5 = x := ⟨_, rfl⟩
        have gx99 := rg x99
        try simp only [z_r0_0, z_r0_1, z_r0_2, z_r0_3, z_r0_4, z_r1_0, z_r1_1] at p0x94
        try simp only [z_r0_0, z_r0_1, z_r0_2, z_r0_3, z_r0_4, z_r1_0, z_r1_1] at p1x94
        try simp only [e20, e16, e100] at p0x94
        try have q0x94 := congrArg Int32.toInt p0x94
        try simp only [e20, e16, e100] at p1x94
        try have q1x94 := congrArg Int32.toInt p1x94
        have hc87 := p0x94
        refine k_istore C (lw := [(5, .int x94), (4, .int x35), (0, .ref r0), (1, .ref r1), (2, .int n2), (3, .int x11)]) rfl rfl (Nat.le_of_ble_eq_true rfl) rfl ?_
        refine k_iload C rfl rfl rfl ?_
        refine b_if_ne C (t := 99) rfl rfl rfl (fun c101 => ?_) (fun c101 => ?_)
        · skip
          refine z_iinc C (z := 1) (lw := fun x102 => [(3, .int x102), (5, .int x94), (4, .int x35), (0, .ref r0), (1, .ref r1), (2, .int n2)]) rfl rfl rfl (Nat.le_of_ble_eq_true rfl) rfl ⟨by omega, by omega⟩ (fun _ => rfl) (fun x102 ex102 => ?_)
          show V 102 [(3, .int x102), (5, .int x94), (4, .int x35), (0, .ref r0), (1, .ref r1), (2, .int n2)] _ _ _ _
          refine k_goto C (pc2 := 7) rfl rfl ?_
          refine k_sub S [(0, .ref r0), (1, .ref r1), (2, .int n2), (3, .int x102)] (List.forall_mem_cons.mpr ⟨List.mem_of_getElem? (i := 3) rfl, List.forall_mem_cons.mpr ⟨List.mem_of_getElem? (i := 4) rfl, List.forall_mem_cons.mpr ⟨List.mem_of_getElem? (i := 5) rfl, List.forall_mem_cons.mpr ⟨List.mem_of_getElem? (i := 0) rfl, fun _ h => nomatch h⟩⟩⟩⟩) ?_
          exact ihJ7 _ (MN.lt hmnn8 (by omega) (by omega)) I95 L96 x102 x99 x19 rfl hI95 (Chg.cons S13 (Chg.mono (Chg.up S97 (List.forall_mem_cons.mpr ⟨List.mem_of_getElem? (i := 0) rfl, List.forall_mem_cons.mpr ⟨List.mem_of_getElem? (i := 1) rfl, fun _ h => nomatch h⟩⟩)) (by decide)) (by decide)) (by omega) e100 (by omega) (by omega) e98 (by omega) (by omega) (by first | exact TOJ.less ff7_0 hel (by omega) rfl (by omega) (by omega) | exact TOJ.lay ff7_0 hel (by omega) hc51 (by omega) (by first | (rw [if_pos (by omega)] <;> omega) | (rw [if_neg (by omega)] <;> omega)) (by omega) (by omega) | exact TOJ.jn ff7_0 hel (by omega) (by omega) hc87 (by omega) (by first | (rw [if_neg (by omega)] <;> omega) | (rw [if_pos (by omega)]; show _ = (I r1_1 _).toInt; rw [hsz80])) ⟨hsz.2.2.1, hsz.2.2.2⟩ (by omega) (by omega)) (by omega) (by omega)
        refine z_iconst C (z := -1) rfl rfl rfl (fun x103 ex103 => ?_)
        exact k_iret C rfl (Or.inl rfl) (Nat.le_of_ble_eq_true rfl) (Nat.le_of_ble_eq_true rfl) ⟨_, _, _, rfl, rfl, by (try simp only [z_r0_0, z_r0_1, z_r0_2, z_r0_3, z_r0_4, z_r1_0, z_r1_1]); first | exact TOJ.lay0 ff7_0 hel (by omega) hc51 (by omega) (by omega) | exact TOJ.jn0 ff7_0 hel (by omega) (by omega) hc87 (by omega) (by omega), hI95, (by (try simp only [z_r0_0, z_r0_1, z_r0_2, z_r0_3, z_r0_4, z_r1_0, z_r1_1]); exact (Chg.cons (Chg.up S3 (List.forall_mem_cons.mpr ⟨List.mem_of_getElem? (i := 0) rfl, fun _ h => nomatch h⟩)) (Chg.cons S13 (Chg.mono (Chg.up S97 (List.forall_mem_cons.mpr ⟨List.mem_of_getElem? (i := 0) rfl, List.forall_mem_cons.mpr ⟨List.mem_of_getElem? (i := 1) rfl, fun _ h => nomatch h⟩⟩)) (by decide)) (by decide)) (by decide)))⟩
      refine k_aload_n C rfl rfl rfl ?_
      refine k_iload C rfl rfl rfl ?_
      refine b_if_ne C (t := 50) rfl rfl rfl (fun c104 => ?_) (fun c104 => by exfalso; omega)
      refine z_iconst C (z := 0) rfl rfl rfl (fun x105 ex105 => ?_)
      refine c_VI C (s_X1_isTotalLaid_x hS hI14 H_r0 (by rw [e16]; omega)) rfl rfl rfl rfl rfl ⟨_, rfl, rfl, T_r0, Nat.le_of_ble_eq_true rfl⟩ rfl rfl (Nat.le_of_ble_eq_true rfl) (Nat.le_of_ble_eq_true rfl) (Nat.le_of_ble_eq_true rfl) ?_
      rintro x106 I107 L108 ⟨o0x106, o1x106, p0x106, p1x106, hI107, S109⟩
      try simp only [z_r0_0, z_r0_1, z_r0_2, z_r0_3, z_r0_4, z_r1_0, z_r1_1] at S109
      have e110 := Chg.k S109 T_r1 (by decide) (by decide) e20
      have gx106 := rg x106
      obtain ⟨x111, e112⟩ : ∃ x, I107 r0 5 = x := ⟨_, rfl⟩
      have gx111 := rg x111
      try simp only [z_r0_0, z_r0_1, z_r0_2, z_r0_3, z_r0_4, z_r1_0, z_r1_1] at p0x106
      try simp only [z_r0_0, z_r0_1, z_r0_2, z_r0_3, z_r0_4, z_r1_0, z_r1_1] at p1x106
      try simp only [e20, e16, e112] at p0x106
      try have q0x106 := congrArg Int32.toInt p0x106
      try simp only [e20, e16, e112] at p1x106
      try have q1x106 := congrArg Int32.toInt p1x106
      have hc51 := p0x106
      refine k_istore C (lw := [(5, .int x106), (4, .int x35), (0, .ref r0), (1, .ref r1), (2, .int n2), (3, .int x11)]) rfl rfl (Nat.le_of_ble_eq_true rfl) rfl ?_
      refine k_goto C (pc2 := 92) rfl rfl ?_
      refine k_iload C rfl rfl rfl ?_
      refine b_if_ne C (t := 99) rfl rfl rfl (fun c113 => ?_) (fun c113 => ?_)
      · skip
        refine z_iinc C (z := 1) (lw := fun x114 => [(3, .int x114), (5, .int x106), (4, .int x35), (0, .ref r0), (1, .ref r1), (2, .int n2)]) rfl rfl rfl (Nat.le_of_ble_eq_true rfl) rfl ⟨by omega, by omega⟩ (fun _ => rfl) (fun x114 ex114 => ?_)
        show V 102 [(3, .int x114), (5, .int x106), (4, .int x35), (0, .ref r0), (1, .ref r1), (2, .int n2)] _ _ _ _
        refine k_goto C (pc2 := 7) rfl rfl ?_
        refine k_sub S [(0, .ref r0), (1, .ref r1), (2, .int n2), (3, .int x114)] (List.forall_mem_cons.mpr ⟨List.mem_of_getElem? (i := 3) rfl, List.forall_mem_cons.mpr ⟨List.mem_of_getElem? (i := 4) rfl, List.forall_mem_cons.mpr ⟨List.mem_of_getElem? (i := 5) rfl, List.forall_mem_cons.mpr ⟨List.mem_of_getElem? (i := 0) rfl, fun _ h => nomatch h⟩⟩⟩⟩) ?_
        exact ihJ7 _ (MN.lt hmnn8 (by omega) (by omega)) I107 L108 x114 x111 x19 rfl hI107 (Chg.cons S13 (Chg.mono (Chg.up S109 (List.forall_mem_cons.mpr ⟨List.mem_of_getElem? (i := 0) rfl, List.forall_mem_cons.mpr ⟨List.mem_of_getElem? (i := 1) rfl, fun _ h => nomatch h⟩⟩)) (by decide)) (by decide)) (by omega) e112 (by omega) (by omega) e110 (by omega) (by omega) (by first | exact TOJ.less ff7_0 hel (by omega) rfl (by omega) (by omega) | exact TOJ.lay ff7_0 hel (by omega) hc51 (by omega) (by first | (rw [if_pos (by omega)] <;> omega) | (rw [if_neg (by omega)] <;> omega)) (by omega) (by omega) | exact TOJ.jn ff7_0 hel (by omega) (by omega) hc87 (by omega) (by first | (rw [if_neg (by omega)] <;> omega) | (rw [if_pos (by omega)]; show _ = (I r1_1 _).toInt; rw [hsz80])) ⟨hsz.2.2.1, hsz.2.2.2⟩ (by omega) (by omega)) (by omega) (by omega)
      refine z_iconst C (z := -1) rfl rfl rfl (fun x115 ex115 => ?_)
      exact k_iret C rfl (Or.inl rfl) (Nat.le_of_ble_eq_true rfl) (Nat.le_of_ble_eq_true rfl) ⟨_, _, _, rfl, rfl, by (try simp only [z_r0_0, z_r0_1, z_r0_2, z_r0_3, z_r0_4, z_r1_0, z_r1_1]); first | exact TOJ.lay0 ff7_0 hel (by omega) hc51 (by omega) (by omega) | exact TOJ.jn0 ff7_0 hel (by omega) (by omega) hc87 (by omega) (by omega), hI107, (by (try simp only [z_r0_0, z_r0_1, z_r0_2, z_r0_3, z_r0_4, z_r1_0, z_r1_1]); exact (Chg.cons (Chg.up S3 (List.forall_mem_cons.mpr ⟨List.mem_of_getElem? (i := 0) rfl, fun _ h => nomatch h⟩)) (Chg.cons S13 (Chg.mono (Chg.up S109 (List.forall_mem_cons.mpr ⟨List.mem_of_getElem? (i := 0) rfl, List.forall_mem_cons.mpr ⟨List.mem_of_getElem? (i := 1) rfl, fun _ h => nomatch h⟩⟩)) (by decide)) (by decide)) (by decide)))⟩
  refine k_istore_n C (lw := [(3, .int x6), (0, .ref r0), (1, .ref r1), (2, .int n2)]) rfl rfl (Nat.le_of_ble_eq_true rfl) rfl ?_
  refine k_sub S [(0, .ref r0), (1, .ref r1), (2, .int n2), (3, .int x6)] (List.forall_mem_cons.mpr ⟨List.mem_of_getElem? (i := 1) rfl, List.forall_mem_cons.mpr ⟨List.mem_of_getElem? (i := 2) rfl, List.forall_mem_cons.mpr ⟨List.mem_of_getElem? (i := 3) rfl, List.forall_mem_cons.mpr ⟨List.mem_of_getElem? (i := 0) rfl, fun _ h => nomatch h⟩⟩⟩⟩) ?_
  exact J7 _ I2 L x6 x1 w_r1_2 rfl hI2 Chg.rf (by omega) e5 (by omega) (by omega) e4 (by omega) (by omega) (by exact TOI.z (by omega) (by omega)) (by omega) (by omega)

theorem s_X11_toldSigns_x {d : Nat} {T N : Nat → Nat} {I : IT} {L : LT} {R : RT} {A B : Nat → Prop} {r0 : Nat} {n1 : Int32} (hS : SUB B A) (hI : IX A T I) (H_r0 : (hs_LF T N R A B) r0) : Ex (d + 2) 135 [.ref r0, .int n1] (T, N, I, L, R) 1 6 (pW2 [3] T N R (pR T N R (fun x9 I9 L9 => (∃ b, x9 = some b ∧ (hs_Sg T N R A B) b) ∧ (x9 = R (rA R (rA R r0 1) 10) n1.toNatClampNeg) ∧ (0 ≤ n1.toInt ∧ n1.toInt < (I (rA R r0 1) 3).toInt ∧ n1.toInt < 8) ∧ (I = I9 ∧ L = L9))) (fun e9 I9 L9 => (I = I9 ∧ L = L9) ∧ (e9 = 3 → n1.toInt < 0 ∨ (I (rA R r0 1) 3).toInt ≤ n1.toInt ∨ 8 ≤ n1.toInt))) := by
  refine ⟨_, rfl, Nat.le_of_ble_eq_true rfl, fun V C S => ?_⟩
  show V 0 [(0, .ref r0), (1, .int n1)] [] (T, N, I, L, R) 0 0
  have gn1 := rg n1
  obtain ⟨T_r0, A_r0, B_r0, ⟨r0_0, R_r0_0, H_r0_0⟩, ⟨r0_1, R_r0_1, H_r0_1⟩, ⟨r0_2, R_r0_2, H_r0_2⟩, ⟨r0_5, R_r0_5, H_r0_5⟩, ⟨r0_6, R_r0_6, H_r0_6⟩, ⟨r0_7, R_r0_7, H_r0_7⟩, ⟨r0_8, R_r0_8, H_r0_8⟩, ⟨r0_9, R_r0_9, H_r0_9⟩, ⟨r0_10, R_r0_10, H_r0_10⟩, ⟨r0_11, R_r0_11, H_r0_11⟩, ⟨r0_12, R_r0_12, H_r0_12⟩, ⟨r0_13, R_r0_13, H_r0_13⟩⟩ := id H_r0
  have z_r0_0 : rA R r0 0 = r0_0 := rA_e R_r0_0
  have z_r0_1 : rA R r0 1 = r0_1 := rA_e R_r0_1
  have z_r0_2 : rA R r0 2 = r0_2 := rA_e R_r0_2
  have z_r0_5 : rA R r0 5 = r0_5 := rA_e R_r0_5
  have z_r0_6 : rA R r0 6 = r0_6 := rA_e R_r0_6
  have z_r0_7 : rA R r0 7 = r0_7 := rA_e R_r0_7
  have z_r0_8 : rA R r0 8 = r0_8 := rA_e R_r0_8
  have z_r0_9 : rA R r0 9 = r0_9 := rA_e R_r0_9
  have z_r0_10 : rA R r0 10 = r0_10 := rA_e R_r0_10
  have z_r0_11 : rA R r0 11 = r0_11 := rA_e R_r0_11
  have z_r0_12 : rA R r0 12 = r0_12 := rA_e R_r0_12
  have z_r0_13 : rA R r0 13 = r0_13 := rA_e R_r0_13
  obtain ⟨T_r0_1, A_r0_1, B_r0_1, ⟨r0_1_6, R_r0_1_6, H_r0_1_6⟩, ⟨r0_1_7, R_r0_1_7, H_r0_1_7⟩, ⟨r0_1_8, R_r0_1_8, H_r0_1_8⟩, ⟨r0_1_9, R_r0_1_9, H_r0_1_9⟩, ⟨r0_1_10, R_r0_1_10, H_r0_1_10⟩⟩ := id H_r0_1
  have z_r0_1_6 : rA R r0_1 6 = r0_1_6 := rA_e R_r0_1_6
  have z_r0_1_7 : rA R r0_1 7 = r0_1_7 := rA_e R_r0_1_7
  have z_r0_1_8 : rA R r0_1 8 = r0_1_8 := rA_e R_r0_1_8
  have z_r0_1_9 : rA R r0_1 9 = r0_1_9 := rA_e R_r0_1_9
  have z_r0_1_10 : rA R r0_1 10 = r0_1_10 := rA_e R_r0_1_10
  obtain ⟨T_r0_1_10, N_r0_1_10, A_r0_1_10, E_r0_1_10⟩ := id H_r0_1_10
  obtain ⟨w_r0_1_3, k0_r0_1_3⟩ : ∃ x, I r0_1 3 = x := ⟨_, rfl⟩
  have gw_r0_1_3 := rg w_r0_1_3
  refine k_aload_n C rfl rfl rfl ?_
  refine g_R C rfl rfl rfl T_r0 rfl R_r0_1 ?_
  refine k_iload_n C rfl rfl rfl ?_
  refine c_VR C (s_X8_signsAt_x hS hI H_r0_1) rfl rfl rfl rfl rfl ⟨_, rfl, rfl, T_r0_1, Nat.le_of_ble_eq_true rfl⟩ rfl rfl (Nat.le_of_ble_eq_true rfl) (Nat.le_of_ble_eq_true rfl) (Nat.le_of_ble_eq_true rfl) ?_
  rintro yy1 _ _ ⟨hyy1, p0yy1, rfl, rfl⟩
  try simp only [z_r0_0, z_r0_1, z_r0_2, z_r0_5, z_r0_6, z_r0_7, z_r0_8, z_r0_9, z_r0_10, z_r0_11, z_r0_12, z_r0_13, z_r0_1_6, z_r0_1_7, z_r0_1_8, z_r0_1_9, z_r0_1_10] at p0yy1
  try simp only [k0_r0_1_3] at p0yy1
  try have q0yy1 := congrArg Int32.toInt p0yy1
  have hfA := p0yy1
  refine k_astore_nV C (x := yy1) (lw := [(2, va_rf yy1), (0, .ref r0), (1, .int n1)]) rfl rfl (Nat.le_of_ble_eq_true rfl) rfl ?_
  refine k_aload_nV C (x := yy1) rfl rfl rfl ?_
  refine k_ifnonnull C (x := yy1) (t := 21) rfl rfl rfl (fun c2 => ?_) (fun rr3 c2 => ?_)
  · skip
    subst c2
    exact k_throw C rfl rfl rfl rfl rfl rfl (Nat.le_of_ble_eq_true rfl) (Nat.le_of_ble_eq_true rfl) (Nat.le_of_ble_eq_true rfl) (Or.inr ⟨_, _, _, (by decide : 3 ∈ [3]), rfl, rfl, ⟨⟨rfl, rfl⟩, (fun _ => by simp only [z_r0_1, k0_r0_1_3]; have q9 := FAD.no hfA E_r0_1_10; omega)⟩⟩)
  subst c2
  have H_rr3 := hyy1 rr3 rfl
  refine k_aload_n C rfl rfl rfl ?_
  exact k_aret C (x := some _) rfl (Or.inl ⟨_, rfl⟩) (Nat.le_of_ble_eq_true rfl) (Nat.le_of_ble_eq_true rfl) (Or.inl ⟨_, _, _, rfl, rfl, ⟨_, rfl, H_rr3⟩, by (try simp only [z_r0_0, z_r0_1, z_r0_2, z_r0_5, z_r0_6, z_r0_7, z_r0_8, z_r0_9, z_r0_10, z_r0_11, z_r0_12, z_r0_13, z_r0_1_6, z_r0_1_7, z_r0_1_8, z_r0_1_9, z_r0_1_10]); exact (FAD.q hfA).2.2.2.symm, by (try simp only [z_r0_0, z_r0_1, z_r0_2, z_r0_5, z_r0_6, z_r0_7, z_r0_8, z_r0_9, z_r0_10, z_r0_11, z_r0_12, z_r0_13, z_r0_1_6, z_r0_1_7, z_r0_1_8, z_r0_1_9, z_r0_1_10]); simp only [k0_r0_1_3]; have q9 := FAD.q hfA; omega, rfl, rfl⟩)

