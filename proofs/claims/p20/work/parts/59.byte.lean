/-! bytes of numbers -/
/-- bytes -/
theorem and255 (x : Int32) : (x &&& 255).toInt = x.toInt % 256 := by
  have e2 : (x &&& 255).toInt = ((x.toBitVec &&& 255#32).toNat : Int) := by
    rw [← Int32.toInt_toBitVec, Int32.toBitVec_and]
    show (x.toBitVec &&& 255#32).toInt = _
    rw [BitVec.toInt_eq_toNat_cond, if_pos]
    rw [BitVec.toNat_and]
    have : x.toBitVec.toNat &&& (255#32).toNat ≤ (255#32).toNat := Nat.and_le_right
    have e : (255#32).toNat = 255 := rfl
    omega
  have e1 : x.toInt = (x.toBitVec.toNat : Int) ∨ x.toInt = (x.toBitVec.toNat : Int) - 4294967296 := by
    rw [← Int32.toInt_toBitVec, BitVec.toInt_eq_toNat_cond]
    by_cases q : 2 * x.toBitVec.toNat < 2 ^ 32
    · rw [if_pos q]; exact Or.inl rfl
    · rw [if_neg q]; exact Or.inr rfl
  have e : (255#32).toNat = 2 ^ 8 - 1 := rfl
  rw [e2, BitVec.toNat_and, e, Nat.and_two_pow_sub_one_eq_mod]
  omega
def BYT (n : Int) (i : Nat) : Int := (n / 2 ^ (24 - 8 * i)) % 256
def SHR (w x y : Int32) : Prop := 0 ≤ y.toInt → y.toInt ≤ 31 → w.toInt = x.toInt / 2 ^ y.toInt.toNat
theorem shr_n {x y : Int32} : SHR (x >>> (y &&& 31)) x y := fun h0 h1 => by
  have hy : y &&& 31 = y := by
    apply Int32.toInt_inj.mp
    have e2 : (y &&& 31).toInt = ((y.toBitVec &&& 31#32).toNat : Int) := by
      rw [← Int32.toInt_toBitVec, Int32.toBitVec_and]
      show (y.toBitVec &&& 31#32).toInt = _
      rw [BitVec.toInt_eq_toNat_cond, if_pos]
      rw [BitVec.toNat_and]
      have : y.toBitVec.toNat &&& (31#32).toNat ≤ (31#32).toNat := Nat.and_le_right
      have e : (31#32).toNat = 31 := rfl
      omega
    have e1 : y.toInt = (y.toBitVec.toNat : Int) ∨ y.toInt = (y.toBitVec.toNat : Int) - 4294967296 := by
      rw [← Int32.toInt_toBitVec, BitVec.toInt_eq_toNat_cond]
      by_cases q : 2 * y.toBitVec.toNat < 2 ^ 32
      · rw [if_pos q]; exact Or.inl rfl
      · rw [if_neg q]; exact Or.inr rfl
    have lt := y.toBitVec.isLt
    have e : (31#32).toNat = 2 ^ 5 - 1 := rfl
    rw [e2, BitVec.toNat_and, e, Nat.and_two_pow_sub_one_eq_mod]
    omega
  rw [hy, ← Int32.toInt_toBitVec, Int32.toBitVec_shiftRight]
  have lt := y.toBitVec.isLt
  have e1 : y.toInt = (y.toBitVec.toNat : Int) := by
    rw [← Int32.toInt_toBitVec] at h0 h1 ⊢
    rw [BitVec.toInt_eq_toNat_cond] at h0 h1 ⊢
    by_cases q : 2 * y.toBitVec.toNat < 2 ^ 32
    · rw [if_pos q]
    · rw [if_neg q] at h0; omega
  show (x.toBitVec.sshiftRight' (y.toBitVec.smod 32#32)).toInt = _
  have e3 : y.toBitVec.smod 32#32 = y.toBitVec := by
    apply BitVec.eq_of_toInt_eq
    rw [BitVec.toInt_smod, Int32.toInt_toBitVec, show (32#32 : BitVec 32).toInt = 32 from rfl, Int.fmod_eq_emod_of_nonneg _ (by decide)]
    omega
  rw [e3, BitVec.toInt_sshiftRight', Int32.toInt_toBitVec, Int.shiftRight_eq_div_pow, show y.toInt.toNat = y.toBitVec.toNat from by omega]
  rfl
theorem z_iand255 {d : Nat} {q : mm_T} {mc ms : Nat} {Post : Po} {V : V_T} {pc pc2 : Nat} {lv : List (Nat × Value)} {r : List Value} {ck sk : Nat} (C : Cl d q mc ms Post V) {M : Mm} {x y : Int32} (hi : cdf q.2.2.2.2.2.2 pc = some (.iand, 1)) (hp : pc + 1 = pc2) (hy : y.toInt = 255) (h : ∀ w : Int32, w.toInt = x.toInt % 256 → V pc2 lv (.int w :: r) M ck sk) : V pc lv (.int y :: .int x :: r) M ck sk := by
  have e : y = 255 := Int32.toInt_inj.mp hy
  subst e
  exact k_iand C hi hp (h _ (and255 x))
theorem z_ishrX {d : Nat} {q : mm_T} {mc ms : Nat} {Post : Po} {V : V_T} {pc pc2 : Nat} {lv : List (Nat × Value)} {r : List Value} {ck sk : Nat} (C : Cl d q mc ms Post V) {M : Mm} {x y : Int32} (hi : cdf q.2.2.2.2.2.2 pc = some (.ishr, 1)) (hp : pc + 1 = pc2) (h : ∀ w : Int32, SHR w x y → V pc2 lv (.int w :: r) M ck sk) : V pc lv (.int y :: .int x :: r) M ck sk := k_ishr C hi hp (h _ shr_n)
theorem byte_m (x : Int32) : x.toInt8.toInt32.toInt % 256 = x.toInt % 256 ∧ -128 ≤ x.toInt8.toInt32.toInt ∧ x.toInt8.toInt32.toInt ≤ 127 := by
  have e : x.toInt8.toInt32.toInt = x.toInt.bmod (2 ^ 8) := by rw [Int8.toInt_toInt32, Int32.toInt_toInt8]
  rw [e, show (2 ^ 8 : Nat) = 256 from rfl]
  unfold Int.bmod
  have e9 : (((256 : Nat) : Int) + 1) / 2 = 128 := rfl
  rw [e9]
  by_cases q : x.toInt % ((256 : Nat) : Int) < 128
  · rw [if_pos q]; omega
  · rw [if_neg q]; omega
theorem z_i2bX {d : Nat} {q : mm_T} {mc ms : Nat} {Post : Po} {V : V_T} {pc pc2 : Nat} {lv : List (Nat × Value)} {r : List Value} {ck sk : Nat} (C : Cl d q mc ms Post V) {M : Mm} {x : Int32} (hi : cdf q.2.2.2.2.2.2 pc = some (.i2b, 1)) (hp : pc + 1 = pc2) (h : ∀ w : Int32, w.toInt % 256 = x.toInt % 256 ∧ -128 ≤ w.toInt ∧ w.toInt ≤ 127 → V pc2 lv (.int w :: r) M ck sk) : V pc lv (.int x :: r) M ck sk := k_i2b C hi hp (h _ (byte_m x))
def F5 (n1 n2 n3 n4 n5 : Int32) (j : Nat) : Int32 := if j = 0 then n1 else if j = 1 then n2 else if j = 2 then n3 else if j = 3 then n4 else n5
theorem F5.of {g : Nat → Int32} {n1 n2 n3 n4 n5 : Int32} (h0 : g 0 = n1) (h1 : g 1 = n2) (h2 : g 2 = n3) (h3 : g 3 = n4) (h4 : g 4 = n5) {j : Nat} (hj : j < 5) : g j = F5 n1 n2 n3 n4 n5 j := by
  match j, hj with
  | 0, _ => exact h0
  | 1, _ => exact h1
  | 2, _ => exact h2
  | 3, _ => exact h3
  | 4, _ => exact h4
/-- the tape's new bytes, k of them -/
def TFD (t' t : Nat → Int32) (n : Nat) (g : Nat → Int32) (k : Int) : Prop := (∀ j : Nat, (j : Int) < k → (t' (n + j)).toInt % 256 = BYT (g (j / 4)).toInt (j % 4)) ∧ ∀ j : Nat, (j < n ∨ n + k.toNat ≤ j) → t' j = t j
theorem TFD.z {t' t : Nat → Int32} {n : Nat} {g : Nat → Int32} {k : Int} (h : t' = t) (hk : k = 0) : TFD t' t n g k := ⟨fun j hj => by omega, fun j _ => by rw [h]⟩
theorem TFD.s {I1 I2 : IT} {b f : Nat} {t : Nat → Int32} {n k k' j q x y w v : Int32} {g : Nat → Int32} (h : TFD (I1 b) t n.toNatClampNeg g k.toInt) (u : I2 = u2 I1 b j.toNatClampNeg v.toInt8.toInt32) (hv : v.toInt % 256 = w.toInt % 256) (hw : SHR w x y) (hx : I1 f q.toNatClampNeg = x) (hg : ∀ i, i < 5 → I1 f i = g i) (h0 : 0 ≤ k.toInt) (h20 : k.toInt < 20) (hn : 0 ≤ n.toInt) (hq : q.toInt = k.toInt / 4) (hy : y.toInt = 24 - 8 * (k.toInt % 4)) (hj : j.toInt = n.toInt + k.toInt) (hk : k'.toInt = k.toInt + 1) : TFD (I2 b) t n.toNatClampNeg g k'.toInt := by
  have n0 := ncz h0
  have nn := ncz hn
  have nj := ncz (x := j) (by omega)
  have nq := ncz (x := q) (by omega)
  refine ⟨fun i hi => ?_, fun i hi => ?_⟩
  · rw [u]
    by_cases z : i = k.toNatClampNeg
    · subst z
      rw [show n.toNatClampNeg + k.toNatClampNeg = j.toNatClampNeg from by omega, u2_s, (byte_m v).1, hv, hw (by omega) (by omega), ← hx, hg _ (by omega), show q.toNatClampNeg = k.toNatClampNeg / 4 from by omega]
      unfold BYT
      rw [show y.toInt.toNat = 24 - 8 * (k.toNatClampNeg % 4) from by omega]
    · rw [u2_k (by omega)]; exact h.1 i (by omega)
  · rw [u, u2_k (by omega)]; exact h.2 i (by omega)
/-- bytes, all of them -/
def TBY (f : Nat → Int32) : Prop := ∀ k, -128 ≤ (f k).toInt ∧ (f k).toInt ≤ 127
theorem TBY.u {I1 I2 : IT} {b j : Nat} {v : Int32} (h : TBY (I1 b)) (u : I2 = u2 I1 b j v.toInt8.toInt32) : TBY (I2 b) := fun k => by
  rw [u]
  by_cases q : k = j
  · rw [q, u2_s]; exact (byte_m v).2
  · rw [u2_k (by omega)]; exact h k
