/-! mixing, exactly -/
def BNX (I : IT) (b : Nat) (D p : Int) : Prop := ∀ j : Nat, (j : Int) ≤ D → 0 ≤ (I b j).toInt ∧ (I b j).toInt < p
def NF (I : IT) (b : Nat) (j : Nat) : Int := (I b j).toInt
def MLD (I' : IT) (b : Nat) (I : IT) (D u v p k : Int) : Prop := (∀ j : Nat, k < (j : Int) → (j : Int) ≤ D + 1 → (I' b j).toInt = PmW u v (ctF D (NF I b)) j % p) ∧ ∀ j : Nat, (j : Int) ≤ k → (I' b j).toInt = ctF D (NF I b) j
def MLE (I' : IT) (b : Nat) (I : IT) (D u v p : Int) : Prop := ∀ j : Nat, (j : Int) ≤ D + 1 → (I' b j).toInt = PmW u v (ctF D (NF I b)) j % p
theorem MLD.z {I I1 I2 : IT} {b st : Nat} {D u v p : Int} {k k' x y : Int32} (hb : b ≠ st) (e1 : I1 = u2 I st 0 y) (t : STD I1 I2 b k x) (hx : x.toInt = 0) (h0 : 0 ≤ k.toInt) (h41 : k.toInt < 41) (hk : k.toInt = D + 1) (hk' : k'.toInt = D + 1) : MLD I2 b I D u v p k'.toInt := by
  have n0 := ncz h0
  have e2 := t.1 h0 h41
  have eb : I1 b = I b := by rw [e1]; exact u2_r hb
  refine ⟨fun j h1 h2 => by omega, fun j hj => ?_⟩
  rw [e2]
  unfold ctF NF
  by_cases q : j = k.toNatClampNeg
  · subst q; rw [u2_s, if_neg (by omega)]; exact hx
  · rw [u2_k q, eb, if_pos (by omega)]
theorem MLD.s {I I1 I2 : IT} {b : Nat} {D u v p E : Int} {x y a c w1 w2 s o k k1 k' : Int32} {l : Int64} (h : MLD I1 b I D u v p k.toInt) (hB : BNX I b D p) (hp : p ≤ 19) (hp0 : 0 < p) (hx : x.toInt = u) (hy : y.toInt = v) (hu : 0 ≤ u ∧ u ≤ 18) (hv : 0 ≤ v ∧ v ≤ 18) (g1 : GTD a.toInt E (fun j => (I1 b j).toInt) k.toInt) (g2 : GTD c.toInt E (fun j => (I1 b j).toInt) k1.toInt) (m1 : MXD w1 x a) (m2 : MXD w2 y c) (ad : ADX s w1 w2) (el : l.toInt = s.toInt) (ho : o.toInt = l.toInt % p) (t : STD I1 I2 b k o) (h0 : 0 ≤ k.toInt) (hE : E = D + 1) (hk9 : k.toInt ≤ D + 1) (hD : 0 ≤ D ∧ D < 40) (e1 : k1.toInt = k.toInt - 1) (hk : k'.toInt = k.toInt - 1) : MLD I2 b I D u v p k'.toInt := by
  have n0 := ncz h0
  have ga := g1.i h0 (by omega)
  have ha : a.toInt = ctF D (NF I b) k.toNatClampNeg := ga.trans (h.2 _ (by omega))
  have hc : c.toInt = if k.toNatClampNeg = 0 then 0 else ctF D (NF I b) (k.toNatClampNeg - 1) := by
    by_cases q : k.toNatClampNeg = 0
    · rw [if_pos q]; exact g2.2 (Or.inl (by omega))
    · have n1 := ncz (x := k1) (by omega)
      have gc := g2.i (by omega) (by omega)
      rw [if_neg q, show k.toNatClampNeg - 1 = k1.toNatClampNeg from by omega]
      exact gc.trans (h.2 _ (by omega))
  have bd : ∀ j, 0 ≤ ctF D (NF I b) j ∧ ctF D (NF I b) j ≤ 18 := fun j => by
    unfold ctF
    by_cases q : (j : Int) ≤ D
    · rw [if_pos q]; have := hB j q; unfold NF; omega
    · rw [if_neg q]; omega
  have ba := bd k.toNatClampNeg
  have bc : 0 ≤ c.toInt ∧ c.toInt ≤ 18 := by
    rw [hc]
    by_cases q : k.toNatClampNeg = 0
    · rw [if_pos q]; omega
    · rw [if_neg q]; exact bd _
  have q1 := m1 (by omega) (by omega) (by omega) (by omega)
  have q2 := m2 (by omega) (by omega) (by omega) (by omega)
  have r1 := mul_ab (u := x.toInt) (v := a.toInt) (by omega) (by omega) (by omega) (by omega)
  have r2 := mul_ab (u := y.toInt) (v := c.toInt) (by omega) (by omega) (by omega) (by omega)
  have q3 := ad (by omega) (by omega)
  have e2 := t.1 h0 (by omega)
  refine ⟨fun j h1 h2 => ?_, fun j hj => ?_⟩
  · rw [e2]
    by_cases q : j = k.toNatClampNeg
    · subst q
      rw [u2_s, ho, el, q3, q1, q2, ha, hc, hx, hy]
      rfl
    · rw [u2_k q]; exact h.1 j (by omega) h2
  · rw [e2, u2_k (by omega)]; exact h.2 j (by omega)
theorem MLD.e {I' I : IT} {b : Nat} {D u v p k : Int} (h : MLD I' b I D u v p k) (hk : k < 0) : MLE I' b I D u v p := fun j hj => h.1 j (by omega) hj
/-- a row that is g modulo p, each number in 0 .. p - 1 -/
def VRX (I' : IT) (b : Nat) (p n : Int) (g : Nat → Int) : Prop := ∀ j : Nat, (j : Int) ≤ n → 0 ≤ (I' b j).toInt ∧ (I' b j).toInt < p ∧ PmE p (I' b j).toInt (g j)
theorem VRX.eq {I1 I2 : IT} {b : Nat} {p n : Int} {g : Nat → Int} (h : VRX I1 b p n g) (e : I2 b = I1 b) : VRX I2 b p n g := fun j hj => by rw [e]; exact h j hj
theorem BNX.of {I1 : IT} {b : Nat} {p n n' : Int} {g : Nat → Int} (h : VRX I1 b p n g) (e : n' = n) : BNX I1 b n' p := fun j hj => ⟨(h j (by omega)).1, (h j (by omega)).2.1⟩
theorem BNX.eq {I1 I2 : IT} {b : Nat} {p n : Int} (h : BNX I1 b n p) (e : I2 b = I1 b) : BNX I2 b n p := fun j hj => by rw [e]; exact h j hj
def VRS (I' : IT) (b : Nat) (p k j : Int) (g h : Nat → Int) : Prop := ∀ i : Nat, (i : Int) ≤ k → 0 ≤ (I' b i).toInt ∧ (I' b i).toInt < p ∧ PmE p (I' b i).toInt (if (i : Int) < j then g i else h i)
theorem VRS.z {I1 I2 : IT} {b : Nat} {p n k j : Int} {g h : Nat → Int} (v : VRX I1 b p n h) (e : I2 b = I1 b) (hn : n = k) (hj : j = 0) : VRS I2 b p k j g h := fun i hi => by
  obtain ⟨a1, a2, a3⟩ := v i (by omega)
  rw [e, if_neg (by omega)]
  exact ⟨a1, a2, a3⟩
theorem VRS.s {I I1 I2 : IT} {b br bf : Nat} {p A B C E Dd Er Ef E0 : Int} {a f c w s o k j' j : Int32} {l : Int64} {n : Nat} (h : VRS I1 b p k.toInt j.toInt (PmX A B C E (NF I bf) (n + 1)) (PmW A B (PmX A B C E (NF I bf) n))) (hr : VRX I1 br p k.toInt (PmN C E (n + 1) PmD)) (hn : k.toInt = (n : Int) + 1) (hB : BNX I bf E0 p) (hp : p ≤ 19) (hp0 : 0 < p) (g1 : GTD a.toInt Dd (fun i => (I1 b i).toInt) j.toInt) (g2 : GTD f.toInt Ef (fun i => (I1 bf i).toInt) k.toInt) (g3 : GTD c.toInt Er (fun i => (I1 br i).toInt) j.toInt) (ef : I1 bf = I bf) (m : MXD w f c) (ad : ADX s a w) (el : l.toInt = s.toInt) (ho : o.toInt = l.toInt % p) (t : STD I1 I2 b j o) (h0 : 0 ≤ j.toInt) (hjk : j.toInt ≤ k.toInt) (hD : Dd = k.toInt) (hEr : Er = k.toInt) (hkf : k.toInt ≤ Ef) (hkE : k.toInt ≤ E0) (hk : k.toInt ≤ 40) (hj' : j'.toInt = j.toInt + 1) : VRS I2 b p k.toInt j'.toInt (PmX A B C E (NF I bf) (n + 1)) (PmW A B (PmX A B C E (NF I bf) n)) := by
  have n0 := ncz h0
  have nk := ncz (x := k) (by omega)
  have ga : a.toInt = (I1 b j.toNatClampNeg).toInt := g1.i h0 (by omega)
  have gf : f.toInt = (I1 bf k.toNatClampNeg).toInt := g2.i (by omega) (by omega)
  have gc : c.toInt = (I1 br j.toNatClampNeg).toInt := g3.i h0 (by omega)
  have hk1 : k.toNatClampNeg = n + 1 := by omega
  rw [ef, hk1] at gf
  obtain ⟨a1, a2, a3⟩ := h j.toNatClampNeg (by omega)
  rw [if_neg (by omega)] at a3
  obtain ⟨c1, c2, c3⟩ := hr j.toNatClampNeg (by omega)
  have bf := hB (n + 1) (by omega)
  have q1 := m (by omega) (by omega) (by omega) (by omega)
  have r1 := mul_ab (u := f.toInt) (v := c.toInt) (by omega) (by omega) (by omega) (by omega)
  have q2 := ad (by omega) (by omega)
  have e2 := t.1 h0 (by omega)
  intro i hi
  rw [e2]
  by_cases q : i = j.toNatClampNeg
  · subst q
    rw [u2_s, if_pos (by omega), ho, el, q2, q1]
    refine ⟨Int.emod_nonneg _ (by omega), Int.emod_lt_of_pos _ hp0, (PmE.em _).tr ?_⟩
    show PmE p (a.toInt + f.toInt * c.toInt) (1 * PmW A B (PmX A B C E (NF I _) n) j.toNatClampNeg + NF I _ (n + 1) * PmN C E (n + 1) PmD j.toNatClampNeg)
    rw [Int.one_mul]
    refine PmE.ad (by rw [ga]; exact a3) (PmE.ml ?_ (by rw [gc]; exact c3))
    rw [gf]; exact PmE.rf
  · rw [u2_k q]
    obtain ⟨b1, b2, b3⟩ := h i hi
    refine ⟨b1, b2, ?_⟩
    by_cases q2 : (i : Int) < j.toInt
    · rw [if_pos q2] at b3; rw [if_pos (by omega)]; exact b3
    · rw [if_neg q2] at b3; rw [if_neg (by omega)]; exact b3
theorem VRS.e {I1 : IT} {b : Nat} {p k j n : Int} {g h g' : Nat → Int} (v : VRS I1 b p k j g h) (hj : k < j) (hn : n = k) (hg : g = g') : VRX I1 b p n g' := fun i hi => by
  obtain ⟨a1, a2, a3⟩ := v i (by omega)
  rw [if_pos (by omega)] at a3
  rw [← hg]
  exact ⟨a1, a2, a3⟩
