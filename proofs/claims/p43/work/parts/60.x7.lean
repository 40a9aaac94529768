/-! tables, exactly -/
def POW (s : Int) : Nat → Int
  | 0 => 1
  | n + 1 => POW s n * s
theorem POW.dbl (s : Int) : ∀ n, POW s (2 * n) = POW (s * s) n
  | 0 => rfl
  | n + 1 => by
    show POW s (2 * n) * s * s = POW (s * s) n * (s * s)
    rw [POW.dbl s n]; grind
theorem POW.e {p s t : Int} (h : PmE p s t) : ∀ n, PmE p (POW s n) (POW t n)
  | 0 => PmE.rf
  | n + 1 => (POW.e h n).ml h
def PWR (p r s k v : Int) : Prop := PmE p (r * POW s k.toNat) v
theorem PWR.z {p r s k v n : Int} (hr : r = 1) (hs : s = n % p) (hv : v = POW n k.toNat) : PWR p r s k v := by
  unfold PWR
  rw [hr, hs, hv, Int.one_mul]
  exact POW.e (PmE.em n) _
theorem PWR.s1 {p v : Int} {r s k r' s' k' w1 w2 : Int32} {l1 l2 : Int64} (h : PWR p r.toInt s.toInt k.toInt v) (m1 : MXD w1 r s) (m2 : MXD w2 s s) (e1 : l1.toInt = w1.toInt) (e2 : l2.toInt = w2.toInt) (o1 : r'.toInt = l1.toInt % p) (o2 : s'.toInt = l2.toInt % p) (br : 0 ≤ r.toInt ∧ r.toInt ≤ 18) (bs : 0 ≤ s.toInt ∧ s.toInt ≤ 18) (hk : 0 < k.toInt) (hk' : k'.toInt = k.toInt / 2) (ho : k.toInt % 2 = 1) : PWR p r'.toInt s'.toInt k'.toInt v := by
  unfold PWR at *
  have q1 := m1 (by omega) (by omega) (by omega) (by omega)
  have q2 := m2 (by omega) (by omega) (by omega) (by omega)
  rw [o1, o2, e1, e2, q1, q2]
  refine PmE.tr (PmE.ml (PmE.em _) (POW.e (PmE.em _) _)) ?_
  rw [← POW.dbl]
  have e : k.toInt.toNat = 2 * k'.toInt.toNat + 1 := by omega
  rw [e] at h
  have h : PmE p (r.toInt * (POW s.toInt (2 * k'.toInt.toNat) * s.toInt)) v := h
  rwa [show r.toInt * s.toInt * POW s.toInt (2 * k'.toInt.toNat) = r.toInt * (POW s.toInt (2 * k'.toInt.toNat) * s.toInt) from by grind]
theorem PWR.s0 {p v : Int} {r s k s' k' w2 : Int32} {l2 : Int64} (h : PWR p r.toInt s.toInt k.toInt v) (m2 : MXD w2 s s) (e2 : l2.toInt = w2.toInt) (o2 : s'.toInt = l2.toInt % p) (bs : 0 ≤ s.toInt ∧ s.toInt ≤ 18) (hk : 0 < k.toInt) (hk' : k'.toInt = k.toInt / 2) (ho : k.toInt % 2 ≠ 1) : PWR p r.toInt s'.toInt k'.toInt v := by
  unfold PWR at *
  have q2 := m2 (by omega) (by omega) (by omega) (by omega)
  rw [o2, e2, q2]
  refine PmE.tr (PmE.ml PmE.rf (POW.e (PmE.em _) _)) ?_
  rw [← POW.dbl]
  have e : k.toInt.toNat = 2 * k'.toInt.toNat := by omega
  rwa [e] at h
theorem PWR.e {p r s k v : Int} (h : PWR p r s k v) (hk : k ≤ 0) : PmE p r v := by
  unfold PWR at h
  rw [show k.toNat = 0 from by omega] at h
  have h : PmE p (r * 1) v := h
  rwa [Int.mul_one] at h
theorem POW.inv : ∀ p ∈ ([11, 13, 17, 19] : List Nat), ∀ n : Nat, n < p → n ≠ 0 → ((n : Int) * POW n (p - 2)) % p = 1 := by decide +kernel
