/-! tables told, joined, turned; the tape: exactly -/
def PRM (p : Int) : Prop := p = 11 ∨ p = 13 ∨ p = 17 ∨ p = 19
def INC (x n p : Int) : Prop := (0 ≤ x ∧ x < p) ∧ (0 ≤ n → n < p → n ≠ 0 → (n * x) % p = 1)
theorem INC.of {x n p k : Int} (hp : PRM p) (h : PmE p x (POW n k.toNat)) (hk : k = p - 2) (b : 0 ≤ x ∧ x < p) : INC x n p := by
  refine ⟨b, fun h0 h1 hn => ?_⟩
  obtain ⟨i, hi⟩ : ∃ i : Nat, n = (i : Int) := ⟨n.toNat, by omega⟩
  obtain ⟨q, hq⟩ : ∃ q : Nat, p = (q : Int) := ⟨p.toNat, by unfold PRM at hp; omega⟩
  unfold PRM at hp
  have h9 := POW.inv q (by have : q = 11 ∨ q = 13 ∨ q = 17 ∨ q = 19 := by omega
                           rcases this with r | r | r | r <;> subst r <;> decide) i (by omega) (by omega)
  have e : PmE p (n * x) (n * POW n k.toNat) := PmE.rf.ml h
  unfold PmE at e
  rw [e, hk, hi, hq, show ((q : Int) - 2).toNat = q - 2 from by omega]
  exact h9
/-- the class's table turned: what it lays -/
def TBC (a' b' c' d' a b c d p : Int) : Prop := ∃ x, INC x (dt p a b c d) p ∧ a' = (d * x) % p ∧ b' = (-b * x) % p ∧ c' = (-c * x) % p ∧ d' = (a * x) % p
theorem mx2 {u a b : Int32} (m1 : MXD u a b) (ha : -18 ≤ a.toInt ∧ a.toInt ≤ 18) (hb : -18 ≤ b.toInt ∧ b.toInt ≤ 18) : u.toInt = a.toInt * b.toInt := m1 ha.1 ha.2 hb.1 hb.2
theorem TBC.of {p a b c d a' b' c' d' z : Int} {xa xb xc xd x u1 u2 u3 u4 m2 m3 : Int32} (hx : INC x.toInt z p) (hz : z = dt p a b c d) (h18 : p ≤ 19) (ea : xa.toInt = a) (eb : xb.toInt = b) (ec : xc.toInt = c) (ed : xd.toInt = d) (ba : 0 ≤ a ∧ a < p) (bb : 0 ≤ b ∧ b < p) (bc : 0 ≤ c ∧ c < p) (bd : 0 ≤ d ∧ d < p) (n2 : m2.toInt = -xb.toInt) (n3 : m3.toInt = -xc.toInt) (k1 : MXD u1 xd x) (k2 : MXD u2 m2 x) (k3 : MXD u3 m3 x) (k4 : MXD u4 xa x) (e1 : a' = u1.toInt % p) (e2 : b' = u2.toInt % p) (e3 : c' = u3.toInt % p) (e4 : d' = u4.toInt % p) : TBC a' b' c' d' a b c d p := by
  have hb := hx.1
  subst hz; subst ea; subst eb; subst ec; subst ed
  refine ⟨x.toInt, hx, ?_, ?_, ?_, ?_⟩
  · rw [e1, mx2 k1 ⟨by omega, by omega⟩ ⟨by omega, by omega⟩]
  · rw [e2, mx2 k2 ⟨by omega, by omega⟩ ⟨by omega, by omega⟩, n2]
  · rw [e3, mx2 k3 ⟨by omega, by omega⟩ ⟨by omega, by omega⟩, n3]
  · rw [e4, mx2 k4 ⟨by omega, by omega⟩ ⟨by omega, by omega⟩]
/-- a byte of a number -/
def USR (w x y : Int32) : Prop := (y.toInt = 0 ∨ y.toInt = 8 ∨ y.toInt = 16 ∨ y.toInt = 24) → w.toInt % 256 = x.toInt / 2 ^ y.toInt.toNat % 256
def PTD (b' b : Nat → Int32) (n : Nat) (v : Int) (k : Int) : Prop := (∀ j : Nat, (j : Int) < k → (b' (n + j)).toInt = BYT v j) ∧ ∀ j : Nat, (j < n ∨ n + k.toNat ≤ j) → b' j = b j
theorem PTD.z {I1 I : IT} {b n : Nat} {v k : Int} (h : I1 b = I b) (hk : k = 0) : PTD (I1 b) (I b) n v k := ⟨fun j hj => by omega, fun j _ => by rw [h]⟩
theorem PTD.s {I1 I2 I3 : IT} {b n : Nat} {t : Nat → Int32} {v j y w z : Int32} {k k' s : Int} (h : PTD (I1 b) t n v.toInt k) (u : I2 = u2 I1 b j.toNatClampNeg z) (hn : I3 b = I2 b) (hz : z.toInt = w.toInt % 256) (hw : USR w v y) (hs : y.toInt = s) (hk : s = 24 - 8 * k) (h0 : 0 ≤ k ∧ k ≤ 3) (hj : j.toInt = (n : Int) + k) (hk' : k' = k + 1) : PTD (I3 b) t n v.toInt k' := by
  have nj := ncz (x := j) (by omega)
  refine ⟨fun i hi => ?_, fun i hi => ?_⟩
  · rw [hn, u]
    by_cases q : i = k.toNat
    · subst q
      rw [show n + k.toNat = j.toNatClampNeg from by omega, u2_s, hz, hw (by omega)]
      unfold BYT
      rw [show y.toInt.toNat = 24 - 8 * k.toNat from by omega]
    · rw [u2_k (by omega)]; exact h.1 i (by omega)
  · rw [hn, u, u2_k (by omega)]; exact h.2 i (by omega)
/-- five numbers' bytes behind the others -/
def FDC (b' b : Nat → Int32) (n : Nat) (g : Nat → Int32) (m : Nat) : Prop := (∀ j : Nat, j < 4 * m → (b' (n + j)).toInt = BYT (g (j / 4)).toInt (j % 4)) ∧ ∀ j : Nat, (j < n ∨ n + 4 * m ≤ j) → b' j = b j
theorem FDC.z {b' b : Nat → Int32} {n : Nat} {g : Nat → Int32} (h : b' = b) : FDC b' b n g 0 := ⟨fun j hj => by omega, fun j _ => by rw [h]⟩
theorem FDC.s {b2 b1 b : Nat → Int32} {n m : Nat} {x : Int32} {g : Nat → Int32} {v : Int} (h : FDC b1 b n g m) (p : PTD b2 b1 x.toNatClampNeg v 4) (hn : x.toInt = (n : Int) + 4 * (m : Int)) (hv : v = (g m).toInt) : FDC b2 b n g (m + 1) := by
  subst hv
  have hn : x.toNatClampNeg = n + 4 * m := by have := ncz (x := x) (by omega); omega
  rw [hn] at p
  refine ⟨fun j hj => ?_, fun j hj => by rw [p.2 j (by omega)]; exact h.2 j (by omega)⟩
  by_cases q : j < 4 * m
  · rw [p.2 _ (by omega)]; exact h.1 j q
  · have e := p.1 (j - 4 * m) (by omega)
    rw [show n + 4 * m + (j - 4 * m) = n + j from by omega] at e
    rw [e, show j / 4 = m from by omega, show j % 4 = j - 4 * m from by omega]
