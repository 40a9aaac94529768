/-! overlaps: exactly -/
/-- two addresses apart (hidden from omega) -/
def NQ9 (a b : Nat) : Prop := a ≠ b
/-- whole products told exactly -/
def LMX (w x y : Int64) : Prop := -9223372036854775808 ≤ x.toInt * y.toInt → x.toInt * y.toInt < 9223372036854775808 → w.toInt = x.toInt * y.toInt
def IMX (w x y : Int32) : Prop := -2147483648 ≤ x.toInt * y.toInt → x.toInt * y.toInt < 2147483648 → w.toInt = x.toInt * y.toInt
def IDX (w x y : Int32) : Prop := 0 ≤ x.toInt → 0 < y.toInt → w.toInt = x.toInt / y.toInt
section AutoB
variable {d : Nat} {q : mm_T} {mc ms : Nat} {Post : Po} {V : V_T} {pc pc2 : Nat} {lv : List (Nat × Value)} {r : List Value} {ck sk : Nat}
theorem z_lmulE (C : Cl d q mc ms Post V) {M : Mm} {x y : Int64} (hi : cdf q.2.2.2.2.2.2 pc = some (.lmul, 1)) (hp : pc + 1 = pc2) (h : ∀ w : Int64, LMX w x y → V pc2 lv (.long w :: r) M ck sk) : V pc lv (.long y :: .long x :: r) M ck sk := k_lmul C hi hp (h _ (fun h1 h2 => li_mul ⟨h1, h2⟩))
theorem z_imulE (C : Cl d q mc ms Post V) {M : Mm} {x y : Int32} (hi : cdf q.2.2.2.2.2.2 pc = some (.imul, 1)) (hp : pc + 1 = pc2) (h : ∀ w : Int32, IMX w x y → V pc2 lv (.int w :: r) M ck sk) : V pc lv (.int y :: .int x :: r) M ck sk := k_imul C hi hp (h _ (fun h1 h2 => ii_mul ⟨h1, h2⟩))
theorem z_idivE (C : Cl d q mc ms Post V) {M : Mm} {x y : Int32} (hi : cdf q.2.2.2.2.2.2 pc = some (.idiv, 1)) (hp : pc + 1 = pc2) (hy : 0 < y.toInt) (h : ∀ w : Int32, IDX w x y → V pc2 lv (.int w :: r) M ck sk) : V pc lv (.int y :: .int x :: r) M ck sk := k_idiv C hi hp (i_ne0 (by omega)) (h _ (fun h0 _ => by rw [Int32.toInt_div_of_ne_right x y (by intro e; subst e; exact absurd hy (by decide)), Int.tdiv_eq_ediv_of_nonneg h0]))
end AutoB
/-- a falling product of m factors -/
def FFP (n : Int) : Nat → Int
  | 0 => 1
  | m + 1 => FFP n m * (n - m)
theorem FFP.b {n : Int} (h40 : n ≤ 40) : ∀ m : Nat, (m : Int) ≤ n → 0 ≤ FFP n m ∧ FFP n m ≤ 40 ^ m
  | 0, _ => by show (0 : Int) ≤ 1 ∧ (1 : Int) ≤ 1; decide
  | m + 1, h => by
    have ih := FFP.b h40 m (by omega)
    show 0 ≤ FFP n m * (n - m) ∧ FFP n m * (n - m) ≤ 40 ^ (m + 1)
    rw [Int.pow_succ]
    exact ⟨Int.mul_nonneg ih.1 (by omega), Int.mul_le_mul ih.2 (by omega) (by omega) (Int.le_trans ih.1 ih.2)⟩
/-- a form differentiated -/
def DIF (f : Nat → Int) (D : Int) (a b j : Nat) : Int := f (j + b) * FFP (D - b - j) a * FFP ((j : Int) + b) b
theorem pw8 {e m : Nat} (h : e + m ≤ 8) : (40 : Int) ^ e * 40 ^ m ≤ 6553600000000 := by
  rw [← Int.pow_add]
  generalize e + m = k at h
  match k, h with
  | 0, _ => decide
  | 1, _ => decide
  | 2, _ => decide
  | 3, _ => decide
  | 4, _ => decide
  | 5, _ => decide
  | 6, _ => decide
  | 7, _ => decide
  | 8, _ => decide
theorem LTM.s {w t y : Int64} {z n : Int} {i i' : Int32} {e : Nat} (h : t.toInt = z * FFP n i.toNatClampNeg) (m : LMX w t y) (hy : y.toInt = n - i.toInt) (h0 : 0 ≤ i.toInt) (hi : i'.toInt = i.toInt + 1) (hz : 0 ≤ z) (hb : z ≤ 18 * 40 ^ e) (he : (e : Int) + i.toInt < 8) (hn : i.toInt < n) (h40 : n ≤ 40) : w.toInt = z * FFP n i'.toNatClampNeg := by
  have n0 := ncz h0
  have n1 := ncz (x := i') (by omega)
  have ei : i'.toNatClampNeg = i.toNatClampNeg + 1 := by omega
  have b := FFP.b h40 (i.toNatClampNeg + 1) (by omega)
  have es : z * FFP n (i.toNatClampNeg + 1) = t.toInt * y.toInt := by
    rw [h, hy]
    show z * (FFP n i.toNatClampNeg * (n - i.toNatClampNeg)) = _
    rw [Int.mul_assoc, n0]
  have g0 : 0 ≤ z * FFP n (i.toNatClampNeg + 1) := Int.mul_nonneg hz b.1
  have p1 : (0 : Int) ≤ 40 ^ e := Int.pow_nonneg (by decide)
  have g1 : z * FFP n (i.toNatClampNeg + 1) ≤ 18 * 40 ^ e * 40 ^ (i.toNatClampNeg + 1) := Int.mul_le_mul hb b.2 b.1 (by omega)
  have g2 := pw8 (e := e) (m := i.toNatClampNeg + 1) (by omega)
  have g3 : (18 : Int) * 40 ^ e * 40 ^ (i.toNatClampNeg + 1) = 18 * (40 ^ e * 40 ^ (i.toNatClampNeg + 1)) := Int.mul_assoc _ _ _
  rw [ei, es]
  exact m (by omega) (by omega)
theorem LTM.z {t : Int64} {z n : Int} {i : Int32} (h : t.toInt = z) (hi : i.toInt = 0) : t.toInt = z * FFP n i.toNatClampNeg := by
  rw [nck (x := i) (n := 0) hi]
  show t.toInt = z * 1
  omega
theorem LTM.b {z n : Int} {m : Nat} (h0 : 0 ≤ z) (h1 : z ≤ 18) (hn : (m : Int) ≤ n) (h40 : n ≤ 40) : 0 ≤ z * FFP n m ∧ z * FFP n m ≤ 18 * 40 ^ m := by
  have b := FFP.b h40 m hn
  exact ⟨Int.mul_nonneg h0 b.1, Int.mul_le_mul h1 b.2 b.1 (by decide)⟩
def DFL (I' : IT) (b' : Nat) (p : Int) (g : Nat → Int) (k : Int) : Prop := VRX I' b' p (k - 1) g
theorem DFL.z {I' : IT} {b' : Nat} {p k : Int} {g : Nat → Int} (h : k = 0) : DFL I' b' p g k := fun j hj => by omega
theorem DFL.s {I1 I2 : IT} {b' : Nat} {p : Int} {g : Nat → Int} {k k' v : Int32} {t : Int64} (h : DFL I1 b' p g k.toInt) (st : STD I1 I2 b' k v) (hv : v.toInt = t.toInt % p) (ht : t.toInt = g k.toNatClampNeg) (hp : 0 < p) (h0 : 0 ≤ k.toInt) (h1 : k.toInt < 41) (hk : k'.toInt = k.toInt + 1) : DFL I2 b' p g k'.toInt := fun j hj => by
  have n0 := ncz h0
  rw [st.1 h0 h1]
  by_cases q : j = k.toNatClampNeg
  · subst q
    rw [u2_s, hv, ht]
    exact ⟨Int.emod_nonneg _ (by omega), Int.emod_lt_of_pos _ hp, PmE.em _⟩
  · rw [u2_k q]; exact h j (by omega)
theorem DFL.e {I' : IT} {b' : Nat} {p k D : Int} {g : Nat → Int} (h : DFL I' b' p g k) (hk : D < k) : VRX I' b' p D g := fun j hj => h j (by omega)
/-- two forms multiplied: the numbers of the first n of the first one -/
def CVI (g : Nat → Int) (i : Nat) (j : Int) (m : Nat) : Int := if i ≤ m ∧ ((m - i : Nat) : Int) < j then g (m - i) else 0
def CVS (f g : Nat → Int) (E : Int) : Nat → Nat → Int
  | 0, _ => 0
  | n + 1, m => CVS f g E n m + f n * CVI g n (E + 1) m
theorem CVI.pe {p : Int} {g g' : Nat → Int} {i m : Nat} {j : Int} (h : ∀ k : Nat, (k : Int) < j → PmE p (g k) (g' k)) : PmE p (CVI g i j m) (CVI g' i j m) := by
  unfold CVI
  by_cases q : i ≤ m ∧ ((m - i : Nat) : Int) < j
  · rw [if_pos q, if_pos q]; exact h _ q.2
  · rw [if_neg q, if_neg q]; exact PmE.rf
theorem CVS.pe {p E : Int} {f f' g g' : Nat → Int} {m : Nat} : ∀ n, (∀ k, k < n → PmE p (f k) (f' k)) → (∀ k : Nat, (k : Int) ≤ E → PmE p (g k) (g' k)) → PmE p (CVS f g E n m) (CVS f' g' E n m)
  | 0, _, _ => PmE.rf
  | n + 1, hf, hg => (CVS.pe n (fun k hk => hf k (by omega)) hg).ad ((hf n (by omega)).ml (CVI.pe (fun k hk => hg k (by omega))))
theorem CVI.z {g : Nat → Int} {i m : Nat} {j : Int} (h : j ≤ 0) : CVI g i j m = 0 := if_neg (by omega)
theorem CVI.o {g : Nat → Int} {i m : Nat} {j j' : Int} (hj : 0 ≤ j) (e : j' = j + 1) (h : (m : Int) ≠ i + j) : CVI g i j' m = CVI g i j m := by
  unfold CVI
  by_cases q : i ≤ m ∧ ((m - i : Nat) : Int) < j
  · rw [if_pos q, if_pos (by omega)]
  · rw [if_neg q, if_neg (by omega)]
theorem CVI.n {g : Nat → Int} {i m : Nat} {j j' : Int} (hj : 0 ≤ j) (e : j' = j + 1) (h : (m : Int) = i + j) : CVI g i j m = 0 ∧ CVI g i j' m = g j.toNat := by
  unfold CVI
  rw [if_neg (by omega), if_pos (by omega), show m - i = j.toNat from by omega]
  exact ⟨rfl, rfl⟩
/-- addProduct: i of the first form's numbers are through -/
def APX (I' : IT) (b : Nat) (p D t E : Int) (o f g : Nat → Int) (i : Int) : Prop := VRX I' b p D (fun m => o m + t * CVS f g E i.toNat m)
def APJ (I' : IT) (b : Nat) (p D t E : Int) (o f g : Nat → Int) (i u j : Int) : Prop := VRX I' b p D (fun m => o m + t * CVS f g E i.toNat m + u * CVI g i.toNat j m)
theorem APX.z {I' : IT} {b : Nat} {p D t E i : Int} {f g : Nat → Int} (h : BNX I' b D p) (hi : i = 0) : APX I' b p D t E (NF I' b) f g i := fun m hm => by
  subst hi
  have q := h m hm
  refine ⟨q.1, q.2, ?_⟩
  show PmE p (I' b m).toInt ((I' b m).toInt + t * 0)
  rw [Int.mul_zero, Int.add_zero]; exact PmE.rf
theorem APJ.z {I' : IT} {b : Nat} {p D t E i u j : Int} {o f g : Nat → Int} (h : APX I' b p D t E o f g i) (hj : j = 0) : APJ I' b p D t E o f g i u j := fun m hm => by
  have q := h m hm
  refine ⟨q.1, q.2.1, ?_⟩
  show PmE p _ (o m + t * CVS f g E i.toNat m + u * CVI g i.toNat j m)
  rw [CVI.z (by omega), Int.mul_zero, Int.add_zero]; exact q.2.2
theorem APJ.e {I' : IT} {b : Nat} {p D t E i u j i' : Int} {o f g : Nat → Int} (h : APJ I' b p D t E o f g i u j) (hu : PmE p u (f i.toNat * t)) (hx : u = 0 ∨ E < j) (hj : j ≤ E + 1) (h0 : 0 ≤ i) (hi : i' = i + 1) : APX I' b p D t E o f g i' := fun m hm => by
  have q := h m hm
  refine ⟨q.1, q.2.1, q.2.2.tr ?_⟩
  show PmE p (o m + t * CVS f g E i.toNat m + u * CVI g i.toNat j m) (o m + t * CVS f g E i'.toNat m)
  rw [show i'.toNat = i.toNat + 1 from by omega]
  show PmE p _ (o m + t * (CVS f g E i.toNat m + f i.toNat * CVI g i.toNat (E + 1) m))
  rw [show o m + t * (CVS f g E i.toNat m + f i.toNat * CVI g i.toNat (E + 1) m) = o m + t * CVS f g E i.toNat m + f i.toNat * t * CVI g i.toNat (E + 1) m from by grind]
  refine PmE.rf.ad ?_
  rcases hx with hx | hx
  · rw [hx] at hu ⊢
    rw [Int.zero_mul]
    have := hu.ml (PmE.rf (x := CVI g i.toNat (E + 1) m))
    rwa [Int.zero_mul] at this
  · rw [show j = E + 1 from by omega]; exact hu.ml PmE.rf
theorem APJ.s {I1 I2 : IT} {b gb : Nat} {p D D2 t E : Int} {o f : Nat → Int} {i u j j' k k2 a c m s v : Int32} {l : Int64} {I0 : IT} (h : APJ I1 b p D t E o f (NF I0 gb) i.toInt u.toInt j.toInt) (ga : GTD a.toInt D2 (fun n => (I1 b n).toInt) k.toInt) (gc : GTD c.toInt E (fun n => (I1 gb n).toInt) j.toInt) (eg : I1 gb = I0 gb) (hg : BNX I0 gb E p) (mm : MXD m u c) (ad : ADX s a m) (hl : l.toInt = s.toInt) (ho : v.toInt = l.toInt % p) (st : STD I1 I2 b k2 v) (hk2 : k2.toInt = i.toInt + j.toInt) (hp : 0 < p ∧ p ≤ 19) (hu : 0 ≤ u.toInt ∧ u.toInt ≤ 18) (hi : 0 ≤ i.toInt) (hj : 0 ≤ j.toInt) (hjE : j.toInt ≤ E) (hk : k.toInt = i.toInt + j.toInt) (hkD : k.toInt ≤ D) (hkD2 : k.toInt ≤ D2) (h40 : k.toInt < 41) (hj' : j'.toInt = j.toInt + 1) : APJ I2 b p D t E o f (NF I0 gb) i.toInt u.toInt j'.toInt := fun n hn => by
  have ek : k2 = k := Int32.toInt_inj.mp (by omega)
  subst ek
  have n0 := ncz (x := k2) (by omega)
  have nj := ncz hj
  have q := h n hn
  rw [st.1 (by omega) h40]
  by_cases z : n = k2.toNatClampNeg
  · subst z
    rw [u2_s]
    have va : a.toInt = (I1 b k2.toNatClampNeg).toInt := ga.i (by omega) hkD2
    have vc : c.toInt = NF I0 gb j.toNatClampNeg := by
      have x : c.toInt = (I1 gb j.toNatClampNeg).toInt := gc.i hj hjE
      rw [x, eg]; rfl
    have bc := hg j.toNatClampNeg (by omega)
    have bc : 0 ≤ NF I0 gb j.toNatClampNeg ∧ NF I0 gb j.toNatClampNeg < p := bc
    have q1 := mm (by omega) (by omega) (by omega) (by omega)
    have r1 := mul_ab (u := u.toInt) (v := c.toInt) (by omega) (by omega) (by omega) (by omega)
    have q2 := ad (by omega) (by omega)
    obtain ⟨c0, c1⟩ := CVI.n (g := NF I0 gb) (i := i.toInt.toNat) (m := k2.toNatClampNeg) hj hj' (by omega)
    refine ⟨by rw [ho]; exact Int.emod_nonneg _ (by omega), by rw [ho]; exact Int.emod_lt_of_pos _ hp.1, ?_⟩
    show PmE p v.toInt (o k2.toNatClampNeg + t * CVS f (NF I0 gb) E i.toInt.toNat k2.toNatClampNeg + u.toInt * CVI (NF I0 gb) i.toInt.toNat j'.toInt k2.toNatClampNeg)
    have q3 : PmE p (I1 b k2.toNatClampNeg).toInt (o k2.toNatClampNeg + t * CVS f (NF I0 gb) E i.toInt.toNat k2.toNatClampNeg + u.toInt * CVI (NF I0 gb) i.toInt.toNat j.toInt k2.toNatClampNeg) := q.2.2
    rw [c0, Int.mul_zero, Int.add_zero] at q3
    rw [c1, ho, hl, q2, q1, va, vc]
    exact (PmE.em _).tr (q3.ad PmE.rf)
  · rw [u2_k z]
    refine ⟨q.1, q.2.1, ?_⟩
    show PmE p _ (o n + t * CVS f (NF I0 gb) E i.toInt.toNat n + u.toInt * CVI (NF I0 gb) i.toInt.toNat j'.toInt n)
    rw [CVI.o hj hj' (by omega)]; exact q.2.2
theorem APX.e {I' : IT} {b : Nat} {p D t E i D1 : Int} {o f g : Nat → Int} (h : APX I' b p D t E o f g i) (hi : i = D1 + 1) : VRX I' b p D (fun m => o m + t * CVS f g E (D1 + 1).toNat m) := by subst hi; exact h
theorem IMX.t {w x t : Int32} (m : IMX w x t) (hx : 0 ≤ x.toInt ∧ x.toInt ≤ 18) (ht : -100 ≤ t.toInt ∧ t.toInt ≤ 100) : w.toInt = x.toInt * t.toInt := by
  have a : x.toInt * t.toInt ≤ 18 * 100 := by
    rcases Int.lt_or_le t.toInt 0 with c | c
    · have := Int.mul_nonneg hx.1 (show 0 ≤ -t.toInt by omega)
      rw [Int.mul_neg] at this; omega
    · exact Int.mul_le_mul hx.2 ht.2 c (by decide)
  have b : -(18 * 100) ≤ x.toInt * t.toInt := by
    rcases Int.lt_or_le t.toInt 0 with c | c
    · have := Int.mul_le_mul hx.2 (show -t.toInt ≤ 100 by omega) (by omega) (by decide)
      rw [Int.mul_neg] at this; omega
    · have := Int.mul_nonneg hx.1 c; omega
  exact m (by omega) (by omega)
theorem APN {I1 I0 : IT} {b : Nat} {D p : Int} {x m t u k : Int32} {l : Int64} (g : GTD x.toInt D (fun j => (I1 b j).toInt) k.toInt) (e : I1 b = I0 b) (hb : BNX I0 b D p) (hp : p ≤ 19) (h0 : 0 ≤ k.toInt) (hD : k.toInt ≤ D) (mm : IMX m x t) (ht : -100 ≤ t.toInt ∧ t.toInt ≤ 100) (hl : l.toInt = m.toInt) (ho : u.toInt = l.toInt % p) : PmE p u.toInt (NF I0 b k.toInt.toNat * t.toInt) := by
  have n0 := ncz h0
  have v : x.toInt = NF I0 b k.toNatClampNeg := by
    have q : x.toInt = (I1 b k.toNatClampNeg).toInt := g.i h0 hD
    rw [q, e]; rfl
  have bx := hb k.toNatClampNeg (by omega)
  have bx : 0 ≤ NF I0 b k.toNatClampNeg ∧ NF I0 b k.toNatClampNeg < p := bx
  rw [ho, hl, mm.t (by omega) ht, v]; exact PmE.em _
/-- numbers of an overlap -/
def BNI (k : Int) : Nat → Int
  | 0 => 1
  | i + 1 => BNI k i * (k - i) / (i + 1)
def SGI (i : Nat) : Int := if i % 2 = 0 then 1 else -1
theorem BNI.b {k : Int} {i : Nat} (h0 : 0 ≤ k) (h8 : k ≤ 8) (hi : (i : Int) ≤ k + 1) : 0 ≤ BNI k i ∧ BNI k i ≤ 70 := by
  have h : ∀ a : Nat, a < 9 → ∀ b : Nat, b < 10 → 0 ≤ BNI a b ∧ BNI a b ≤ 70 := by decide
  have := h k.toNat (by omega) i (by omega)
  rwa [show ((k.toNat : Nat) : Int) = k from by omega] at this
def OVS (f g : Nat → Int) (D E k : Int) : Nat → Nat → Int
  | 0, _ => 0
  | i + 1, m => OVS f g D E k i m + SGI i * BNI k i * CVS (DIF f D (k.toNat - i) i) (DIF g E i (k.toNat - i)) (E - k) (D - k + 1).toNat m
theorem OVS.s {f g : Nat → Int} {D E k : Int} {i m : Nat} : OVS f g D E k (i + 1) m = OVS f g D E k i m + SGI i * BNI k i * CVS (DIF f D (k.toNat - i) i) (DIF g E i (k.toNat - i)) (E - k) (D - k + 1).toNat m := rfl
theorem OVX.z {I' : IT} {b : Nat} {p W : Int} {f g : Nat → Int} {D E k n : Int} (h : ∀ j : Nat, j < 41 → (I' b j).toInt = 0) (hW : W ≤ 40) (hp : 0 < p) (hn : n = 0) : VRX I' b p W (OVS f g D E k n.toNat) := fun j hj => by
  subst hn
  rw [h j (by omega)]
  exact ⟨by decide, hp, PmE.rf⟩
theorem VRX.cn {I' : IT} {b : Nat} {p W : Int} {f g : Nat → Int} {D E k : Int} {i : Int32} (h : ∀ j : Nat, j < 41 → (I' b j).toInt = 0) (hW : W ≤ 40) (hp : 0 < p) (hn : i.toInt = 0) : VRX I' b p W (OVS f g D E k i.toNatClampNeg) := by
  rw [nck (x := i) (n := 0) hn]
  exact OVX.z (n := 0) h hW hp rfl
theorem OVX.s {I1 I2 : IT} {b lb rb : Nat} {p W : Int} {f g : Nat → Int} {D E k : Int} {i i' u : Int32} {lD rD W' : Int} (h : VRX I1 b p W (OVS f g D E k i.toNatClampNeg)) (a : VRX I2 b p W' (fun m => NF I1 b m + u.toInt * CVS (NF I1 lb) (NF I1 rb) rD (lD + 1).toNat m)) (hL : VRX I1 lb p lD (DIF f D (k.toNat - i.toNatClampNeg) i.toNatClampNeg)) (hR : VRX I1 rb p rD (DIF g E i.toNatClampNeg (k.toNat - i.toNatClampNeg))) (hu : u.toInt = SGI i.toNatClampNeg * BNI k i.toNatClampNeg) (hlD : lD = D - k) (hrD : rD = E - k) (hW : W' = W) (h0 : 0 ≤ i.toInt) (hi : i'.toInt = i.toInt + 1) : VRX I2 b p W (OVS f g D E k i'.toNatClampNeg) := fun j hj => by
  subst hW
  have n0 := ncz h0
  have n1 := ncz (x := i') (by omega)
  have q := a j hj
  refine ⟨q.1, q.2.1, q.2.2.tr ?_⟩
  rw [show i'.toNatClampNeg = i.toNatClampNeg + 1 from by omega, OVS.s, hu]
  subst hlD; subst hrD
  refine ((h j hj).2.2).ad (PmE.rf.ml (CVS.pe _ (fun m hm => ?_) (fun m hm => ?_)))
  · exact (hL m (by omega)).2.2
  · exact (hR m hm).2.2
theorem SGI.y {i : Int32} {x c : Int32} (hc : c.toInt = i.toInt % 2) (h0 : 0 ≤ i.toInt) {t : Int} (h : c.toInt = 0) (hx : x.toInt = t) : x.toInt = SGI i.toNatClampNeg * t := by
  have n0 := ncz h0
  unfold SGI
  rw [if_pos (by omega)]; omega
theorem SGI.n {i : Int32} {x c : Int32} (hc : c.toInt = i.toInt % 2) (h0 : 0 ≤ i.toInt) {t : Int} (h : c.toInt ≠ 0) (hx : x.toInt = -t) : x.toInt = SGI i.toNatClampNeg * t := by
  have n0 := ncz h0
  unfold SGI
  rw [if_neg (by omega)]; omega
theorem BNI.s {k : Int} {i i' u w d m : Int32} {y : Int32} (h : u.toInt = BNI k i.toNatClampNeg) (mm : IMX m u y) (hy : y.toInt = k - i.toInt) (dd : IDX w m d) (hd : d.toInt = i.toInt + 1) (h0 : 0 ≤ i.toInt) (hk : i.toInt ≤ k) (h8 : k ≤ 8) (hi : i'.toInt = i.toInt + 1) : w.toInt = BNI k i'.toNatClampNeg := by
  have n0 := ncz h0
  have n1 := ncz (x := i') (by omega)
  have b := BNI.b (i := i.toNatClampNeg) (by omega) h8 (by omega)
  have g0 : 0 ≤ u.toInt * y.toInt := Int.mul_nonneg (by omega) (by omega)
  have g1 : u.toInt * y.toInt ≤ 70 * 8 := Int.mul_le_mul (by omega) (by omega) (by omega) (by decide)
  have e := mm (by omega) (by omega)
  have e2 := dd (by omega) (by omega)
  rw [e2, e, show i'.toNatClampNeg = i.toNatClampNeg + 1 from by omega]
  show u.toInt * y.toInt / d.toInt = BNI k i.toNatClampNeg * (k - i.toNatClampNeg) / ((i.toNatClampNeg : Int) + 1)
  rw [hy, hd, h, n0]
theorem DZ {I1 I : IT} {b : Nat} {x y k c : Int32} {D : Int} (g : GTD x.toInt D (fun j => (I1 b j).toInt) y.toInt) (e : I1 b = I b) (hy : y.toInt = k.toInt + c.toInt) (h0 : 0 ≤ k.toInt) (hc : 0 ≤ c.toInt) (hD : y.toInt ≤ D) : x.toInt = NF I b (k.toNatClampNeg + c.toNatClampNeg) := by
  have n0 := ncz h0
  have n1 := ncz hc
  have n2 := ncz (x := y) (by omega)
  have q : x.toInt = (I1 b y.toNatClampNeg).toInt := g.i (by omega) hD
  rw [q, e, show y.toNatClampNeg = k.toNatClampNeg + c.toNatClampNeg from by omega]; rfl
theorem DIF.e {f : Nat → Int} {D : Int} {a b k i : Int32} {t : Int} (h : t = f (k.toNatClampNeg + b.toNatClampNeg) * FFP (D - b.toInt - k.toInt) a.toNatClampNeg * FFP (k.toInt + b.toInt) i.toNatClampNeg) (hi : i.toInt = b.toInt) (h0 : 0 ≤ k.toInt) (hb : 0 ≤ b.toInt) : t = DIF f D a.toNatClampNeg b.toNatClampNeg k.toNatClampNeg := by
  have n0 := ncz h0
  have n1 := ncz hb
  rw [h, Int32.toInt_inj.mp hi]
  unfold DIF
  rw [n0, n1]
theorem BNX.c {I I' : IT} {b : Nat} {D D' p : Int} (h : BNX I b D p) (e : I' b = I b) (eD : D' = D) : BNX I' b D' p := by subst eD; exact h.eq e
theorem VRX.df {I9 I1 I0 : IT} {b fb a c : Nat} {p D D' E : Int} {u v : Int32} (h : VRX I9 b p (D' - u.toInt - v.toInt) (DIF (NF I1 fb) D' u.toNatClampNeg v.toNatClampNeg)) (e : I1 fb = I0 fb) (eD : D' = D) (hu : u.toNatClampNeg = a) (hv : v.toNatClampNeg = c) (hE : D - u.toInt - v.toInt = E) : VRX I9 b p E (DIF (NF I0 fb) D a c) := by
  subst eD; subst hu; subst hv; subst hE
  have q : NF I1 fb = NF I0 fb := by unfold NF; rw [e]
  rw [q] at h; exact h
theorem VRX.pc {I' : IT} {b : Nat} {p n n' : Int} {g : Nat → Int} (h : VRX I' b p n g) (e : n' = n) : VRX I' b p n' g := by subst e; exact h
theorem DON.eq' {x y D : Int} {f g : Nat → Int} {k : Int} (h : DON x D f k) (g9 : DON y D g k) (e : ∀ i : Nat, (i : Int) ≤ D → f i = g i) : x = y := by
  by_cases z : k = -1
  · rw [h.1 z, g9.1 z]
  · by_cases q : k < 0 ∨ D < k
    · rw [h.2.1 z q, g9.2.1 z q]
    · rw [h.2.2 (by omega) (by omega), g9.2.2 (by omega) (by omega)]; exact e _ (by omega)
/-- the k-th number of an overlap, its degree, or none -/
def OVQ (x p W k : Int) (g : Nat → Int) : Prop := ∃ v : Nat → Int, (∀ j : Nat, (j : Int) ≤ W → 0 ≤ v j ∧ v j < p ∧ PmE p (v j) (g j)) ∧ DON x W v k
theorem OVQ.of {I' : IT} {b : Nat} {x p W W' k : Int} {g : Nat → Int} (h : VRX I' b p W g) (d : DON x W' (fun j => (I' b j).toInt) k) (e : W' = W) : OVQ x p W k g := by
  subst e
  exact ⟨_, h, d⟩
theorem OVQ.u {x y p W k : Int} {f g : Nat → Int} (h : OVQ x p W k f) (h2 : OVQ y p W k g) (e : ∀ j : Nat, (j : Int) ≤ W → PmE p (f j) (g j)) : x = y := by
  obtain ⟨v, v1, v2⟩ := h
  obtain ⟨w, w1, w2⟩ := h2
  refine DON.eq' v2 w2 (fun j hj => ?_)
  obtain ⟨a1, a2, a3⟩ := v1 j hj
  obtain ⟨b1, b2, b3⟩ := w1 j hj
  exact (a3.tr ((e j hj).tr b3.sy)).eq a1 a2 b1 b2
theorem s_X0_differentiate_x {d : Nat} {T N : Nat → Nat} {I : IT} {L : LT} {R : RT} {A B : Nat → Prop} {r0 r1 r4 : Nat} {n2 n3 : Int32} (hS : SUB B A) (hI : IX A T I) (H_r0 : (hs_Al T N R A B) r0) (H_r1 : (hs_F T N R A B) r1) (b0_n2 : 0 ≤ n2.toInt) (b1_n2 : n2.toInt ≤ 8) (b0_n3 : 0 ≤ n3.toInt) (b1_n3 : n3.toInt ≤ 8) (H_r4 : (hs_F T N R A B) r4) (hU : UPR T R) (hp0 : NQ9 r1 r4) (hp1 : n2.toInt + n3.toInt ≤ 8) (hp2 : n2.toInt + n3.toInt ≤ (I r1 0).toInt) (hp3 : BNX I (rA R r1 1) (I r1 0).toInt (I (rA R r0 0) 0).toInt) : Ex (d + 3) 21 [.ref r0, .ref r1, .int n2, .int n3, .ref r4] (T, N, I, L, R) 0 0 (pV T N R (fun I9 L9 => ((I9 r4 0).toInt = (I r1 0).toInt - n2.toInt - n3.toInt) ∧ (VRX I9 (rA R r4 1) (I (rA R r0 0) 0).toInt ((I r1 0).toInt - n2.toInt - n3.toInt) (DIF (NF I (rA R r1 1)) (I r1 0).toInt n2.toNatClampNeg n3.toNatClampNeg)) ∧ (IX A T I9 ∧ Chg (SL [r4, (rA R r4 1)]) T [(3, 0)] I L I9 L9))) := by
  refine ⟨_, rfl, Nat.le_of_ble_eq_true rfl, fun V C S => ?_⟩
  show V 0 [(0, .ref r0), (1, .ref r1), (2, .int n2), (3, .int n3), (4, .ref r4)] [] (T, N, I, L, R) 0 0
  have gn2 := rg n2
  have gn3 := rg n3
  obtain ⟨T_r0, A_r0, B_r0, ⟨r0_0, R_r0_0, H_r0_0⟩, ⟨r0_1, R_r0_1, H_r0_1⟩, ⟨r0_2, R_r0_2, H_r0_2⟩⟩ := id H_r0
  have z_r0_0 : rA R r0 0 = r0_0 := rA_e R_r0_0
  have z_r0_1 : rA R r0 1 = r0_1 := rA_e R_r0_1
  have z_r0_2 : rA R r0 2 = r0_2 := rA_e R_r0_2
  obtain ⟨T_r1, A_r1, ⟨r1_1, R_r1_1, H_r1_1⟩⟩ := id H_r1
  have z_r1_1 : rA R r1 1 = r1_1 := rA_e R_r1_1
  obtain ⟨T_r4, A_r4, ⟨r4_1, R_r4_1, H_r4_1⟩⟩ := id H_r4
  have z_r4_1 : rA R r4 1 = r4_1 := rA_e R_r4_1
  obtain ⟨T_r0_0, A_r0_0, B_r0_0, ⟨r0_0_6, R_r0_0_6, H_r0_0_6⟩, ⟨r0_0_7, R_r0_0_7, H_r0_0_7⟩, ⟨r0_0_8, R_r0_0_8, H_r0_0_8⟩, ⟨r0_0_9, R_r0_0_9, H_r0_0_9⟩, ⟨r0_0_10, R_r0_0_10, H_r0_0_10⟩⟩ := id H_r0_0
  have z_r0_0_6 : rA R r0_0 6 = r0_0_6 := rA_e R_r0_0_6
  have z_r0_0_7 : rA R r0_0 7 = r0_0_7 := rA_e R_r0_0_7
  have z_r0_0_8 : rA R r0_0 8 = r0_0_8 := rA_e R_r0_0_8
  have z_r0_0_9 : rA R r0_0 9 = r0_0_9 := rA_e R_r0_0_9
  have z_r0_0_10 : rA R r0_0 10 = r0_0_10 := rA_e R_r0_0_10
  obtain ⟨T_r1_1, N_r1_1, A_r1_1⟩ := id H_r1_1
  obtain ⟨T_r4_1, N_r4_1, A_r4_1⟩ := id H_r4_1
  try simp only [z_r0_0, z_r0_1, z_r0_2, z_r1_1, z_r4_1, z_r0_0_6, z_r0_0_7, z_r0_0_8, z_r0_0_9, z_r0_0_10] at hp0
  try simp only [z_r0_0, z_r0_1, z_r0_2, z_r1_1, z_r4_1, z_r0_0_6, z_r0_0_7, z_r0_0_8, z_r0_0_9, z_r0_0_10] at hp1
  try simp only [z_r0_0, z_r0_1, z_r0_2, z_r1_1, z_r4_1, z_r0_0_6, z_r0_0_7, z_r0_0_8, z_r0_0_9, z_r0_0_10] at hp2
  try simp only [z_r0_0, z_r0_1, z_r0_2, z_r1_1, z_r4_1, z_r0_0_6, z_r0_0_7, z_r0_0_8, z_r0_0_9, z_r0_0_10] at hp3
  obtain ⟨w_r1_0, k0_r1_0⟩ : ∃ x, I r1 0 = x := ⟨_, rfl⟩
  have gw_r1_0 := rg w_r1_0
  have ow_r1_0 := IX.deg hI A_r1 T_r1 k0_r1_0
  obtain ⟨w_r0_0_0, k0_r0_0_0⟩ : ∃ x, I r0_0 0 = x := ⟨_, rfl⟩
  have gw_r0_0_0 := rg w_r0_0_0
  have ow_r0_0_0 := IX.p hI A_r0_0 T_r0_0 k0_r0_0_0
  try simp only [k0_r1_0, k0_r0_0_0] at hp0
  try simp only [k0_r1_0, k0_r0_0_0] at hp1
  try simp only [k0_r1_0, k0_r0_0_0] at hp2
  try simp only [k0_r1_0, k0_r0_0_0] at hp3
  have nb : NQ9 r1_1 r4_1 := hU.ne (Or.inr (Or.inr (Or.inr (by omega)))) R_r1_1 R_r4_1 (Or.inl hp0)
  try simp only [k0_r1_0, k0_r0_0_0] at hp3
  have k2n := ncz (x := n2) (by omega)
  have k3n := ncz (x := n3) (by omega)
  refine k_aload_n C rfl rfl rfl ?_
  refine g_I C rfl rfl rfl T_r1 rfl k0_r1_0 ?_
  refine k_iload_n C rfl rfl rfl ?_
  refine z_isub C rfl rfl ⟨by omega, by omega⟩ (fun x1 ex1 => ?_)
  refine k_iload_n C rfl rfl rfl ?_
  refine z_isub C rfl rfl ⟨by omega, by omega⟩ (fun x2 ex2 => ?_)
  refine k_istore C (lw := [(5, .int x2), (0, .ref r0), (1, .ref r1), (2, .int n2), (3, .int n3), (4, .ref r4)]) rfl rfl (Nat.le_of_ble_eq_true rfl) rfl ?_
  refine k_aload C rfl rfl rfl ?_
  refine k_iload C rfl rfl rfl ?_
  refine c_VV C (s_X2_begin_x hS hI H_r4) rfl rfl rfl rfl rfl ⟨_, rfl, rfl, T_r4, Nat.le_of_ble_eq_true rfl⟩ rfl rfl (Nat.le_of_ble_eq_true rfl) (Nat.le_of_ble_eq_true rfl) (Nat.le_of_ble_eq_true rfl) ?_
  rintro I4 L5 ⟨p0v3, p1v3, hI4, S6⟩
  try simp only [z_r0_0, z_r0_1, z_r0_2, z_r1_1, z_r4_1, z_r0_0_6, z_r0_0_7, z_r0_0_8, z_r0_0_9, z_r0_0_10] at S6
  have e7 := (congrFun (Chg.at S6 (nm_2 (by first | exact hp0 | exact fun e => hp0 e.symm) (t_nq T_r1 T_r4_1 (by decide)))) 0).trans k0_r1_0
  have e8 := Chg.k S6 T_r0_0 (by decide) (by decide) k0_r0_0_0
  obtain ⟨x9, e10⟩ : ∃ x, I4 r4 0 = x := ⟨_, rfl⟩
  have gx9 := rg x9
  have ox9 := IX.deg hI4 A_r4 T_r4 e10
  try simp only [z_r0_0, z_r0_1, z_r0_2, z_r1_1, z_r4_1, z_r0_0_6, z_r0_0_7, z_r0_0_8, z_r0_0_9, z_r0_0_10] at p0v3
  try simp only [z_r0_0, z_r0_1, z_r0_2, z_r1_1, z_r4_1, z_r0_0_6, z_r0_0_7, z_r0_0_8, z_r0_0_9, z_r0_0_10] at p1v3
  try simp only [k0_r1_0, k0_r0_0_0, e10] at p0v3
  try have q0v3 := congrArg Int32.toInt p0v3
  try simp only [k0_r1_0, k0_r0_0_0, e10] at p1v3
  try have q1v3 := congrArg Int32.toInt p1v3
  have hbg := p0v3.2.2 (by omega) (by omega); (try rw [e10] at hbg)
  refine z_iconst C (z := 0) rfl rfl rfl (fun x11 ex11 => ?_)
  have J12 : ∀ (nn13 : Nat) (I14 : IT) (L15 : LT) (x16 : Int32), (MN (41 - x16.toInt) nn13) → (IX A T I14) → (Chg (SL [r4, r4_1]) T [] I4 L5 I14 L15) → (0 ≤ x16.toInt) → (x16.toInt ≤ 41) → (DFL I14 r4_1 w_r0_0_0.toInt (DIF (NF I r1_1) w_r1_0.toInt n2.toNatClampNeg n3.toNatClampNeg) x16.toInt) → (x2.toInt = w_r1_0.toInt - n2.toInt - n3.toInt) → (x16.toInt ≤ x2.toInt + 1) → V 20 [(0, .ref r0), (1, .ref r1), (2, .int n2), (3, .int n3), (4, .ref r4), (5, .int x2), (6, .int x16)] [] (T, N, I14, L15, R) 0 0 := by
    intro nn13
    induction nn13 using Nat.strongRecOn with
    | _ nn13 ihJ12 =>
      intro I14 L15 x16 hmnn13 hI20 S19 b17 b18 ff20_0 ff20_1 ff20_2
      have gx16 := rg x16
      have e24 := Chg.k S19 T_r1 (by decide) (by decide) e7
      have e25 := Chg.k S19 T_r0_0 (by decide) (by decide) e8
      have e26 := Chg.k S19 T_r4 (by decide) (by decide) e10
      refine k_iload C rfl rfl rfl ?_
      refine k_iload C rfl rfl rfl ?_
      refine b_icmp_gt C (t := 116) rfl rfl rfl (fun c27 => ?_) (fun c27 => ?_)
      · skip
        exact k_vret C rfl rfl (Nat.le_of_ble_eq_true rfl) (Nat.le_of_ble_eq_true rfl) ⟨_, _, rfl, rfl, by (try simp only [z_r0_0, z_r0_1, z_r0_2, z_r1_1, z_r4_1, z_r0_0_6, z_r0_0_7, z_r0_0_8, z_r0_0_9, z_r0_0_10]); rw [e26]; simp only [k0_r1_0]; omega, by (try simp only [z_r0_0, z_r0_1, z_r0_2, z_r1_1, z_r4_1, z_r0_0_6, z_r0_0_7, z_r0_0_8, z_r0_0_9, z_r0_0_10]); simp only [k0_r1_0, k0_r0_0_0]; exact DFL.e ff20_0 (by omega), hI20, (by (try simp only [z_r0_0, z_r0_1, z_r0_2, z_r1_1, z_r4_1, z_r0_0_6, z_r0_0_7, z_r0_0_8, z_r0_0_9, z_r0_0_10]); exact (Chg.cons (Chg.up S6 (List.forall_mem_cons.mpr ⟨List.mem_of_getElem? (i := 0) rfl, List.forall_mem_cons.mpr ⟨List.mem_of_getElem? (i := 1) rfl, fun _ h => nomatch h⟩⟩)) (Chg.mono S19 (by decide)) (by decide)))⟩
      refine k_aload_n C rfl rfl rfl ?_
      refine k_iload C rfl rfl rfl ?_
      refine k_iload_n C rfl rfl rfl ?_
      refine z_iadd C rfl rfl ⟨by omega, by omega⟩ (fun x28 ex28 => ?_)
      refine c_VI C (s_X2_get_x hS hI20 H_r1) rfl rfl rfl rfl rfl ⟨_, rfl, rfl, T_r1, Nat.le_of_ble_eq_true rfl⟩ rfl rfl (Nat.le_of_ble_eq_true rfl) (Nat.le_of_ble_eq_true rfl) (Nat.le_of_ble_eq_true rfl) ?_
      rintro x29 _ _ ⟨p0x29, rfl, rfl⟩
      have gx29 := rg x29
      try simp only [z_r0_0, z_r0_1, z_r0_2, z_r1_1, z_r4_1, z_r0_0_6, z_r0_0_7, z_r0_0_8, z_r0_0_9, z_r0_0_10] at p0x29
      try simp only [e24, e25, e26] at p0x29
      try have q0x29 := congrArg Int32.toInt p0x29
      have hga := p0x29; (try simp only [e24] at hga); have hz := DZ (k := x16) (c := n3) hga (Chg.at ((Chg.cons (Chg.up S6 (List.forall_mem_cons.mpr ⟨List.mem_of_getElem? (i := 0) rfl, List.forall_mem_cons.mpr ⟨List.mem_of_getElem? (i := 1) rfl, fun _ h => nomatch h⟩⟩)) (Chg.mono S19 (by decide)) (by decide)) : Chg (SL [r4, r4_1]) T [(3, 0)] I L I14 L15) (nm_2 (t_nq T_r1_1 T_r4 (by decide)) (by first | exact nb | exact fun e => nb e.symm))) (by omega) (by omega) (by omega) (by omega); have hzb : 0 ≤ NF I r1_1 (x16.toNatClampNeg + n3.toNatClampNeg) ∧ NF I r1_1 (x16.toNatClampNeg + n3.toNatClampNeg) < w_r0_0_0.toInt := hp3 _ (by have h9 := ncz (x := x16) (by omega); omega)
      refine z_i2l C rfl rfl (fun lg30 elg30 => ?_)
      have hl35 := elg30
      refine k_lstore C (lw := [(7, .long lg30), (0, .ref r0), (1, .ref r1), (2, .int n2), (3, .int n3), (4, .ref r4), (5, .int x2), (6, .int x16)]) rfl rfl (Nat.le_of_ble_eq_true rfl) rfl ?_
      refine z_iconst C (z := 0) rfl rfl rfl (fun x31 ex31 => ?_)
      have J32 : ∀ (nn33 : Nat) (lg34 : Int64) (x35 : Int32), (MN (8 - x35.toInt) nn33) → (0 ≤ x35.toInt) → (x35.toInt ≤ 8) → (lg34.toInt = NF I r1_1 (x16.toNatClampNeg + n3.toNatClampNeg) * FFP (w_r1_0.toInt - n3.toInt - x16.toInt) x35.toNatClampNeg) → (x35.toInt ≤ n2.toInt) → V 41 [(0, .ref r0), (1, .ref r1), (2, .int n2), (3, .int n3), (4, .ref r4), (5, .int x2), (6, .int x16), (7, .long lg34), (9, .int x35)] [] (T, N, I14, L15, R) 0 0 := by
        intro nn33
        induction nn33 using Nat.strongRecOn with
        | _ nn33 ihJ32 =>
          intro lg34 x35 hmnn33 b36 b37 ff41_0 ff41_1
          have gx35 := rg x35
          refine k_iload C rfl rfl rfl ?_
          refine k_iload_n C rfl rfl rfl ?_
          refine b_icmp_ge C (t := 69) rfl rfl rfl (fun c40 => ?_) (fun c40 => ?_)
          · skip
            have h69 : lg34.toInt = NF I r1_1 (x16.toNatClampNeg + n3.toNatClampNeg) * FFP (w_r1_0.toInt - n3.toInt - x16.toInt) n2.toNatClampNeg := (by rw [ff41_0, show x35 = n2 from Int32.toInt_inj.mp (by omega)]); have hzz := LTM.b (n := (w_r1_0.toInt - n3.toInt - x16.toInt)) (m := n2.toNatClampNeg) hzb.1 (by omega) (by omega) (by omega)
            refine z_iconst C (z := 0) rfl rfl rfl (fun x41 ex41 => ?_)
            have J42 : ∀ (nn43 : Nat) (lg44 : Int64) (x45 : Int32), (MN (8 - x45.toInt) nn43) → (0 ≤ x45.toInt) → (x45.toInt ≤ 8) → (lg44.toInt = NF I r1_1 (x16.toNatClampNeg + n3.toNatClampNeg) * FFP (w_r1_0.toInt - n3.toInt - x16.toInt) n2.toNatClampNeg * FFP (x16.toInt + n3.toInt) x45.toNatClampNeg) → (x45.toInt ≤ n3.toInt) → V 72 [(0, .ref r0), (1, .ref r1), (2, .int n2), (3, .int n3), (4, .ref r4), (5, .int x2), (6, .int x16), (7, .long lg44), (9, .int x45)] [] (T, N, I14, L15, R) 0 0 := by
              intro nn43
              induction nn43 using Nat.strongRecOn with
              | _ nn43 ihJ42 =>
                intro lg44 x45 hmnn43 b46 b47 ff72_0 ff72_1
                have gx45 := rg x45
                refine k_iload C rfl rfl rfl ?_
                refine k_iload_n C rfl rfl rfl ?_
                refine b_icmp_ge C (t := 97) rfl rfl rfl (fun c50 => ?_) (fun c50 => ?_)
                · skip
                  refine k_aload C rfl rfl rfl ?_
                  refine k_iload C rfl rfl rfl ?_
                  refine k_aload_n C rfl rfl rfl ?_
                  refine k_lload C rfl rfl rfl ?_
                  refine c_VI C (s_X0_of_x hS hI20 H_r0) rfl rfl rfl rfl rfl ⟨_, rfl, rfl, T_r0, Nat.le_of_ble_eq_true rfl⟩ rfl rfl (Nat.le_of_ble_eq_true rfl) (Nat.le_of_ble_eq_true rfl) (Nat.le_of_ble_eq_true rfl) ?_
                  rintro x51 _ _ ⟨o0x51, o1x51, p0x51, p1x51, rfl, rfl⟩
                  have gx51 := rg x51
                  try simp only [z_r0_0, z_r0_1, z_r0_2, z_r1_1, z_r4_1, z_r0_0_6, z_r0_0_7, z_r0_0_8, z_r0_0_9, z_r0_0_10] at p0x51
                  try simp only [z_r0_0, z_r0_1, z_r0_2, z_r1_1, z_r4_1, z_r0_0_6, z_r0_0_7, z_r0_0_8, z_r0_0_9, z_r0_0_10] at p1x51
                  try simp only [e24, e25, e26] at p0x51
                  try have q0x51 := congrArg Int32.toInt p0x51
                  try simp only [e24, e25, e26] at p1x51
                  try have q1x51 := congrArg Int32.toInt p1x51
                  have hof := p0x51; (try simp only [e25] at hof)
                  refine c_VV C (s_X2_set_x hS hI20 H_r4) rfl rfl rfl rfl rfl ⟨_, rfl, rfl, T_r4, Nat.le_of_ble_eq_true rfl⟩ rfl rfl (Nat.le_of_ble_eq_true rfl) (Nat.le_of_ble_eq_true rfl) (Nat.le_of_ble_eq_true rfl) ?_
                  rintro I53 L54 ⟨p0v52, hI53, S55⟩
                  try simp only [z_r0_0, z_r0_1, z_r0_2, z_r1_1, z_r4_1, z_r0_0_6, z_r0_0_7, z_r0_0_8, z_r0_0_9, z_r0_0_10] at S55
                  have e56 := Chg.k S55 T_r1 (by decide) (by decide) e24
                  have e57 := Chg.k S55 T_r0_0 (by decide) (by decide) e25
                  have e58 := Chg.k S55 T_r4 (by decide) (by decide) e26
                  try simp only [z_r0_0, z_r0_1, z_r0_2, z_r1_1, z_r4_1, z_r0_0_6, z_r0_0_7, z_r0_0_8, z_r0_0_9, z_r0_0_10] at p0v52
                  try simp only [e24, e25, e26] at p0v52
                  try have q0v52 := congrArg Int32.toInt p0v52
                  have hse := p0v52
                  refine z_iinc C (z := 1) (lw := fun x59 => [(6, .int x59), (0, .ref r0), (1, .ref r1), (2, .int n2), (3, .int n3), (4, .ref r4), (5, .int x2), (7, .long lg44), (9, .int x45)]) rfl rfl rfl (Nat.le_of_ble_eq_true rfl) rfl ⟨by omega, by omega⟩ (fun _ => rfl) (fun x59 ex59 => ?_)
                  show V 113 [(6, .int x59), (0, .ref r0), (1, .ref r1), (2, .int n2), (3, .int n3), (4, .ref r4), (5, .int x2), (7, .long lg44), (9, .int x45)] _ _ _ _
                  refine k_goto C (pc2 := 20) rfl rfl ?_
                  refine k_sub S [(0, .ref r0), (1, .ref r1), (2, .int n2), (3, .int n3), (4, .ref r4), (5, .int x2), (6, .int x59)] (List.forall_mem_cons.mpr ⟨List.mem_of_getElem? (i := 1) rfl, List.forall_mem_cons.mpr ⟨List.mem_of_getElem? (i := 2) rfl, List.forall_mem_cons.mpr ⟨List.mem_of_getElem? (i := 3) rfl, List.forall_mem_cons.mpr ⟨List.mem_of_getElem? (i := 4) rfl, List.forall_mem_cons.mpr ⟨List.mem_of_getElem? (i := 5) rfl, List.forall_mem_cons.mpr ⟨List.mem_of_getElem? (i := 6) rfl, List.forall_mem_cons.mpr ⟨List.mem_of_getElem? (i := 0) rfl, fun _ h => nomatch h⟩⟩⟩⟩⟩⟩⟩) ?_
                  exact ihJ12 _ (MN.lt hmnn13 (by omega) (by omega)) I53 L54 x59 rfl hI53 (Chg.cons S19 (Chg.mono (Chg.up S55 (List.forall_mem_cons.mpr ⟨List.mem_of_getElem? (i := 1) rfl, fun _ h => nomatch h⟩)) (by decide)) (by decide)) (by omega) (by omega) (by exact DFL.s ff20_0 hse hof (DIF.e ff72_0 (by omega) (by omega) (by omega)) (by omega) (by omega) (by omega) (by omega)) (by omega) (by omega)
                refine k_lload C rfl rfl rfl ?_
                refine k_iload C rfl rfl rfl ?_
                refine k_iload_n C rfl rfl rfl ?_
                refine z_iadd C rfl rfl ⟨by omega, by omega⟩ (fun x60 ex60 => ?_)
                refine k_iload C rfl rfl rfl ?_
                refine z_isub C rfl rfl ⟨by omega, by omega⟩ (fun x61 ex61 => ?_)
                refine z_i2l C rfl rfl (fun lg62 elg62 => ?_)
                have hy88 := elg62
                refine z_lmulE C rfl rfl (fun lg63 elg63 => ?_)
                have m88 := elg63
                refine k_lstore C (lw := [(7, .long lg63), (0, .ref r0), (1, .ref r1), (2, .int n2), (3, .int n3), (4, .ref r4), (5, .int x2), (6, .int x16), (9, .int x45)]) rfl rfl (Nat.le_of_ble_eq_true rfl) rfl ?_
                refine z_iinc C (z := 1) (lw := fun x64 => [(9, .int x64), (7, .long lg63), (0, .ref r0), (1, .ref r1), (2, .int n2), (3, .int n3), (4, .ref r4), (5, .int x2), (6, .int x16)]) rfl rfl rfl (Nat.le_of_ble_eq_true rfl) rfl ⟨by omega, by omega⟩ (fun _ => rfl) (fun x64 ex64 => ?_)
                show V 94 [(9, .int x64), (7, .long lg63), (0, .ref r0), (1, .ref r1), (2, .int n2), (3, .int n3), (4, .ref r4), (5, .int x2), (6, .int x16)] _ _ _ _
                refine k_goto C (pc2 := 72) rfl rfl ?_
                refine k_sub S [(0, .ref r0), (1, .ref r1), (2, .int n2), (3, .int n3), (4, .ref r4), (5, .int x2), (6, .int x16), (7, .long lg63), (9, .int x64)] (List.forall_mem_cons.mpr ⟨List.mem_of_getElem? (i := 2) rfl, List.forall_mem_cons.mpr ⟨List.mem_of_getElem? (i := 3) rfl, List.forall_mem_cons.mpr ⟨List.mem_of_getElem? (i := 4) rfl, List.forall_mem_cons.mpr ⟨List.mem_of_getElem? (i := 5) rfl, List.forall_mem_cons.mpr ⟨List.mem_of_getElem? (i := 6) rfl, List.forall_mem_cons.mpr ⟨List.mem_of_getElem? (i := 7) rfl, List.forall_mem_cons.mpr ⟨List.mem_of_getElem? (i := 8) rfl, List.forall_mem_cons.mpr ⟨List.mem_of_getElem? (i := 1) rfl, List.forall_mem_cons.mpr ⟨List.mem_of_getElem? (i := 0) rfl, fun _ h => nomatch h⟩⟩⟩⟩⟩⟩⟩⟩⟩) ?_
                exact ihJ42 _ (MN.lt hmnn43 (by omega) (by omega)) lg63 x64 rfl (by omega) (by omega) (by exact LTM.s (e := n2.toNatClampNeg) ff72_0 m88 (by omega) (by omega) (by omega) hzz.1 hzz.2 (by omega) (by omega) (by omega)) (by omega)
            refine k_istore C (lw := [(9, .int x41), (0, .ref r0), (1, .ref r1), (2, .int n2), (3, .int n3), (4, .ref r4), (5, .int x2), (6, .int x16), (7, .long lg34)]) rfl rfl (Nat.le_of_ble_eq_true rfl) rfl ?_
            refine k_sub S [(0, .ref r0), (1, .ref r1), (2, .int n2), (3, .int n3), (4, .ref r4), (5, .int x2), (6, .int x16), (7, .long lg34), (9, .int x41)] (List.forall_mem_cons.mpr ⟨List.mem_of_getElem? (i := 1) rfl, List.forall_mem_cons.mpr ⟨List.mem_of_getElem? (i := 2) rfl, List.forall_mem_cons.mpr ⟨List.mem_of_getElem? (i := 3) rfl, List.forall_mem_cons.mpr ⟨List.mem_of_getElem? (i := 4) rfl, List.forall_mem_cons.mpr ⟨List.mem_of_getElem? (i := 5) rfl, List.forall_mem_cons.mpr ⟨List.mem_of_getElem? (i := 6) rfl, List.forall_mem_cons.mpr ⟨List.mem_of_getElem? (i := 7) rfl, List.forall_mem_cons.mpr ⟨List.mem_of_getElem? (i := 8) rfl, List.forall_mem_cons.mpr ⟨List.mem_of_getElem? (i := 0) rfl, fun _ h => nomatch h⟩⟩⟩⟩⟩⟩⟩⟩⟩) ?_
            exact J42 _ lg34 x41 rfl (by omega) (by omega) (by exact LTM.z h69 (by omega)) (by omega)
          refine k_lload C rfl rfl rfl ?_
          refine k_iload C rfl rfl rfl ?_
          refine k_iload C rfl rfl rfl ?_
          refine z_isub C rfl rfl ⟨by omega, by omega⟩ (fun x65 ex65 => ?_)
          refine k_iload_n C rfl rfl rfl ?_
          refine z_iadd C rfl rfl ⟨by omega, by omega⟩ (fun x66 ex66 => ?_)
          refine k_iload C rfl rfl rfl ?_
          refine z_isub C rfl rfl ⟨by omega, by omega⟩ (fun x67 ex67 => ?_)
          refine z_i2l C rfl rfl (fun lg68 elg68 => ?_)
          have hy60 := elg68
          refine z_lmulE C rfl rfl (fun lg69 elg69 => ?_)
          have m60 := elg69
          refine k_lstore C (lw := [(7, .long lg69), (0, .ref r0), (1, .ref r1), (2, .int n2), (3, .int n3), (4, .ref r4), (5, .int x2), (6, .int x16), (9, .int x35)]) rfl rfl (Nat.le_of_ble_eq_true rfl) rfl ?_
          refine z_iinc C (z := 1) (lw := fun x70 => [(9, .int x70), (7, .long lg69), (0, .ref r0), (1, .ref r1), (2, .int n2), (3, .int n3), (4, .ref r4), (5, .int x2), (6, .int x16)]) rfl rfl rfl (Nat.le_of_ble_eq_true rfl) rfl ⟨by omega, by omega⟩ (fun _ => rfl) (fun x70 ex70 => ?_)
          show V 66 [(9, .int x70), (7, .long lg69), (0, .ref r0), (1, .ref r1), (2, .int n2), (3, .int n3), (4, .ref r4), (5, .int x2), (6, .int x16)] _ _ _ _
          refine k_goto C (pc2 := 41) rfl rfl ?_
          refine k_sub S [(0, .ref r0), (1, .ref r1), (2, .int n2), (3, .int n3), (4, .ref r4), (5, .int x2), (6, .int x16), (7, .long lg69), (9, .int x70)] (List.forall_mem_cons.mpr ⟨List.mem_of_getElem? (i := 2) rfl, List.forall_mem_cons.mpr ⟨List.mem_of_getElem? (i := 3) rfl, List.forall_mem_cons.mpr ⟨List.mem_of_getElem? (i := 4) rfl, List.forall_mem_cons.mpr ⟨List.mem_of_getElem? (i := 5) rfl, List.forall_mem_cons.mpr ⟨List.mem_of_getElem? (i := 6) rfl, List.forall_mem_cons.mpr ⟨List.mem_of_getElem? (i := 7) rfl, List.forall_mem_cons.mpr ⟨List.mem_of_getElem? (i := 8) rfl, List.forall_mem_cons.mpr ⟨List.mem_of_getElem? (i := 1) rfl, List.forall_mem_cons.mpr ⟨List.mem_of_getElem? (i := 0) rfl, fun _ h => nomatch h⟩⟩⟩⟩⟩⟩⟩⟩⟩) ?_
          exact ihJ32 _ (MN.lt hmnn33 (by omega) (by omega)) lg69 x70 rfl (by omega) (by omega) (by exact LTM.s (e := 0) ff41_0 m60 (by omega) (by omega) (by omega) hzb.1 (by rw [show (40 : Int) ^ 0 = 1 from rfl]; omega) (by omega) (by omega) (by omega)) (by omega)
      refine k_istore C (lw := [(9, .int x31), (7, .long lg30), (0, .ref r0), (1, .ref r1), (2, .int n2), (3, .int n3), (4, .ref r4), (5, .int x2), (6, .int x16)]) rfl rfl (Nat.le_of_ble_eq_true rfl) rfl ?_
      refine k_sub S [(0, .ref r0), (1, .ref r1), (2, .int n2), (3, .int n3), (4, .ref r4), (5, .int x2), (6, .int x16), (7, .long lg30), (9, .int x31)] (List.forall_mem_cons.mpr ⟨List.mem_of_getElem? (i := 2) rfl, List.forall_mem_cons.mpr ⟨List.mem_of_getElem? (i := 3) rfl, List.forall_mem_cons.mpr ⟨List.mem_of_getElem? (i := 4) rfl, List.forall_mem_cons.mpr ⟨List.mem_of_getElem? (i := 5) rfl, List.forall_mem_cons.mpr ⟨List.mem_of_getElem? (i := 6) rfl, List.forall_mem_cons.mpr ⟨List.mem_of_getElem? (i := 7) rfl, List.forall_mem_cons.mpr ⟨List.mem_of_getElem? (i := 8) rfl, List.forall_mem_cons.mpr ⟨List.mem_of_getElem? (i := 1) rfl, List.forall_mem_cons.mpr ⟨List.mem_of_getElem? (i := 0) rfl, fun _ h => nomatch h⟩⟩⟩⟩⟩⟩⟩⟩⟩) ?_
      exact J32 _ lg30 x31 rfl (by omega) (by omega) (by exact LTM.z (hl35.trans hz) (by omega)) (by omega)
  refine k_istore C (lw := [(6, .int x11), (5, .int x2), (0, .ref r0), (1, .ref r1), (2, .int n2), (3, .int n3), (4, .ref r4)]) rfl rfl (Nat.le_of_ble_eq_true rfl) rfl ?_
  refine k_sub S [(0, .ref r0), (1, .ref r1), (2, .int n2), (3, .int n3), (4, .ref r4), (5, .int x2), (6, .int x11)] (List.forall_mem_cons.mpr ⟨List.mem_of_getElem? (i := 2) rfl, List.forall_mem_cons.mpr ⟨List.mem_of_getElem? (i := 3) rfl, List.forall_mem_cons.mpr ⟨List.mem_of_getElem? (i := 4) rfl, List.forall_mem_cons.mpr ⟨List.mem_of_getElem? (i := 5) rfl, List.forall_mem_cons.mpr ⟨List.mem_of_getElem? (i := 6) rfl, List.forall_mem_cons.mpr ⟨List.mem_of_getElem? (i := 1) rfl, List.forall_mem_cons.mpr ⟨List.mem_of_getElem? (i := 0) rfl, fun _ h => nomatch h⟩⟩⟩⟩⟩⟩⟩) ?_
  exact J12 _ I4 L5 x11 rfl hI4 Chg.rf (by omega) (by omega) (by exact DFL.z (by omega)) (by omega) (by omega)

theorem s_X0_addProduct_x {d : Nat} {T N : Nat → Nat} {I : IT} {L : LT} {R : RT} {A B : Nat → Prop} {r0 r1 r2 r4 : Nat} {n3 : Int32} (hS : SUB B A) (hI : IX A T I) (H_r0 : (hs_Al T N R A B) r0) (H_r1 : (hs_F T N R A B) r1) (H_r2 : (hs_F T N R A B) r2) (b0_n3 : -100 ≤ n3.toInt) (b1_n3 : n3.toInt ≤ 100) (H_r4 : (hs_F T N R A B) r4) (hU : UPR T R) (hp0 : NQ9 r1 r4) (hp1 : NQ9 r2 r4) (hp2 : (I r1 0).toInt + (I r2 0).toInt ≤ (I r4 0).toInt) (hp3 : BNX I (rA R r1 1) (I r1 0).toInt (I (rA R r0 0) 0).toInt) (hp4 : BNX I (rA R r2 1) (I r2 0).toInt (I (rA R r0 0) 0).toInt) (hp5 : BNX I (rA R r4 1) (I r4 0).toInt (I (rA R r0 0) 0).toInt) : Ex (d + 2) 19 [.ref r0, .ref r1, .ref r2, .int n3, .ref r4] (T, N, I, L, R) 0 0 (pV T N R (fun I9 L9 => (VRX I9 (rA R r4 1) (I (rA R r0 0) 0).toInt (I r4 0).toInt (fun m => NF I (rA R r4 1) m + n3.toInt * CVS (NF I (rA R r1 1)) (NF I (rA R r2 1)) (I r2 0).toInt ((I r1 0).toInt + 1).toNat m)) ∧ (IX A T I9 ∧ Chg (SL [(rA R r4 1)]) T [] I L I9 L9))) := by
  refine ⟨_, rfl, Nat.le_of_ble_eq_true rfl, fun V C S => ?_⟩
  show V 0 [(0, .ref r0), (1, .ref r1), (2, .ref r2), (3, .int n3), (4, .ref r4)] [] (T, N, I, L, R) 0 0
  have gn3 := rg n3
  obtain ⟨T_r0, A_r0, B_r0, ⟨r0_0, R_r0_0, H_r0_0⟩, ⟨r0_1, R_r0_1, H_r0_1⟩, ⟨r0_2, R_r0_2, H_r0_2⟩⟩ := id H_r0
  have z_r0_0 : rA R r0 0 = r0_0 := rA_e R_r0_0
  have z_r0_1 : rA R r0 1 = r0_1 := rA_e R_r0_1
  have z_r0_2 : rA R r0 2 = r0_2 := rA_e R_r0_2
  obtain ⟨T_r1, A_r1, ⟨r1_1, R_r1_1, H_r1_1⟩⟩ := id H_r1
  have z_r1_1 : rA R r1 1 = r1_1 := rA_e R_r1_1
  obtain ⟨T_r2, A_r2, ⟨r2_1, R_r2_1, H_r2_1⟩⟩ := id H_r2
  have z_r2_1 : rA R r2 1 = r2_1 := rA_e R_r2_1
  obtain ⟨T_r4, A_r4, ⟨r4_1, R_r4_1, H_r4_1⟩⟩ := id H_r4
  have z_r4_1 : rA R r4 1 = r4_1 := rA_e R_r4_1
  obtain ⟨T_r0_0, A_r0_0, B_r0_0, ⟨r0_0_6, R_r0_0_6, H_r0_0_6⟩, ⟨r0_0_7, R_r0_0_7, H_r0_0_7⟩, ⟨r0_0_8, R_r0_0_8, H_r0_0_8⟩, ⟨r0_0_9, R_r0_0_9, H_r0_0_9⟩, ⟨r0_0_10, R_r0_0_10, H_r0_0_10⟩⟩ := id H_r0_0
  have z_r0_0_6 : rA R r0_0 6 = r0_0_6 := rA_e R_r0_0_6
  have z_r0_0_7 : rA R r0_0 7 = r0_0_7 := rA_e R_r0_0_7
  have z_r0_0_8 : rA R r0_0 8 = r0_0_8 := rA_e R_r0_0_8
  have z_r0_0_9 : rA R r0_0 9 = r0_0_9 := rA_e R_r0_0_9
  have z_r0_0_10 : rA R r0_0 10 = r0_0_10 := rA_e R_r0_0_10
  obtain ⟨T_r1_1, N_r1_1, A_r1_1⟩ := id H_r1_1
  obtain ⟨T_r2_1, N_r2_1, A_r2_1⟩ := id H_r2_1
  obtain ⟨T_r4_1, N_r4_1, A_r4_1⟩ := id H_r4_1
  try simp only [z_r0_0, z_r0_1, z_r0_2, z_r1_1, z_r2_1, z_r4_1, z_r0_0_6, z_r0_0_7, z_r0_0_8, z_r0_0_9, z_r0_0_10] at hp0
  try simp only [z_r0_0, z_r0_1, z_r0_2, z_r1_1, z_r2_1, z_r4_1, z_r0_0_6, z_r0_0_7, z_r0_0_8, z_r0_0_9, z_r0_0_10] at hp1
  try simp only [z_r0_0, z_r0_1, z_r0_2, z_r1_1, z_r2_1, z_r4_1, z_r0_0_6, z_r0_0_7, z_r0_0_8, z_r0_0_9, z_r0_0_10] at hp2
  try simp only [z_r0_0, z_r0_1, z_r0_2, z_r1_1, z_r2_1, z_r4_1, z_r0_0_6, z_r0_0_7, z_r0_0_8, z_r0_0_9, z_r0_0_10] at hp3
  try simp only [z_r0_0, z_r0_1, z_r0_2, z_r1_1, z_r2_1, z_r4_1, z_r0_0_6, z_r0_0_7, z_r0_0_8, z_r0_0_9, z_r0_0_10] at hp4
  try simp only [z_r0_0, z_r0_1, z_r0_2, z_r1_1, z_r2_1, z_r4_1, z_r0_0_6, z_r0_0_7, z_r0_0_8, z_r0_0_9, z_r0_0_10] at hp5
  obtain ⟨w_r1_0, k0_r1_0⟩ : ∃ x, I r1 0 = x := ⟨_, rfl⟩
  have gw_r1_0 := rg w_r1_0
  have ow_r1_0 := IX.deg hI A_r1 T_r1 k0_r1_0
  obtain ⟨w_r2_0, k0_r2_0⟩ : ∃ x, I r2 0 = x := ⟨_, rfl⟩
  have gw_r2_0 := rg w_r2_0
  have ow_r2_0 := IX.deg hI A_r2 T_r2 k0_r2_0
  obtain ⟨w_r4_0, k0_r4_0⟩ : ∃ x, I r4 0 = x := ⟨_, rfl⟩
  have gw_r4_0 := rg w_r4_0
  have ow_r4_0 := IX.deg hI A_r4 T_r4 k0_r4_0
  obtain ⟨w_r0_0_0, k0_r0_0_0⟩ : ∃ x, I r0_0 0 = x := ⟨_, rfl⟩
  have gw_r0_0_0 := rg w_r0_0_0
  have ow_r0_0_0 := IX.p hI A_r0_0 T_r0_0 k0_r0_0_0
  try simp only [k0_r1_0, k0_r2_0, k0_r4_0, k0_r0_0_0] at hp0
  try simp only [k0_r1_0, k0_r2_0, k0_r4_0, k0_r0_0_0] at hp1
  try simp only [k0_r1_0, k0_r2_0, k0_r4_0, k0_r0_0_0] at hp2
  try simp only [k0_r1_0, k0_r2_0, k0_r4_0, k0_r0_0_0] at hp3
  try simp only [k0_r1_0, k0_r2_0, k0_r4_0, k0_r0_0_0] at hp4
  try simp only [k0_r1_0, k0_r2_0, k0_r4_0, k0_r0_0_0] at hp5
  have nb1 : NQ9 r1_1 r4_1 := hU.ne (Or.inr (Or.inr (Or.inr (by omega)))) R_r1_1 R_r4_1 (Or.inl hp0)
  have nb2 : NQ9 r2_1 r4_1 := hU.ne (Or.inr (Or.inr (Or.inr (by omega)))) R_r2_1 R_r4_1 (Or.inl hp1)
  try simp only [k0_r1_0, k0_r0_0_0] at hp3
  try simp only [k0_r2_0, k0_r0_0_0] at hp4
  try simp only [k0_r4_0, k0_r0_0_0] at hp5
  refine z_iconst C (z := 0) rfl rfl rfl (fun x1 ex1 => ?_)
  have J2 : ∀ (nn3 : Nat) (I4 : IT) (L5 : LT) (x6 : Int32), (MN (41 - x6.toInt) nn3) → (IX A T I4) → (Chg (SL [r4_1]) T [] I L I4 L5) → (0 ≤ x6.toInt) → (x6.toInt ≤ 41) → (APX I4 r4_1 w_r0_0_0.toInt w_r4_0.toInt n3.toInt w_r2_0.toInt (NF I r4_1) (NF I r1_1) (NF I r2_1) x6.toInt) → (x6.toInt ≤ w_r1_0.toInt + 1) → V 3 [(0, .ref r0), (1, .ref r1), (2, .ref r2), (3, .int n3), (4, .ref r4), (5, .int x6)] [] (T, N, I4, L5, R) 0 0 := by
    intro nn3
    induction nn3 using Nat.strongRecOn with
    | _ nn3 ihJ2 =>
      intro I4 L5 x6 hmnn3 hI10 S9 b7 b8 ff3_0 ff3_1
      have gx6 := rg x6
      have e13 := Chg.k S9 T_r1 (by decide) (by decide) k0_r1_0
      have e14 := Chg.k S9 T_r2 (by decide) (by decide) k0_r2_0
      have e15 := Chg.k S9 T_r4 (by decide) (by decide) k0_r4_0
      have e16 := Chg.k S9 T_r0_0 (by decide) (by decide) k0_r0_0_0
      refine k_iload C rfl rfl rfl ?_
      refine k_aload_n C rfl rfl rfl ?_
      refine g_I C rfl rfl rfl T_r1 rfl e13 ?_
      refine b_icmp_gt C (t := 91) rfl rfl rfl (fun c17 => ?_) (fun c17 => ?_)
      · skip
        exact k_vret C rfl rfl (Nat.le_of_ble_eq_true rfl) (Nat.le_of_ble_eq_true rfl) ⟨_, _, rfl, rfl, by (try simp only [z_r0_0, z_r0_1, z_r0_2, z_r1_1, z_r2_1, z_r4_1, z_r0_0_6, z_r0_0_7, z_r0_0_8, z_r0_0_9, z_r0_0_10]); simp only [k0_r4_0, k0_r1_0, k0_r2_0, k0_r0_0_0]; exact APX.e ff3_0 (by omega), hI10, (by (try simp only [z_r0_0, z_r0_1, z_r0_2, z_r1_1, z_r2_1, z_r4_1, z_r0_0_6, z_r0_0_7, z_r0_0_8, z_r0_0_9, z_r0_0_10]); exact (Chg.mono S9 (by decide)))⟩
      refine k_aload_n C rfl rfl rfl ?_
      refine k_aload_n C rfl rfl rfl ?_
      refine k_iload C rfl rfl rfl ?_
      refine c_VI C (s_X2_get_x hS hI10 H_r1) rfl rfl rfl rfl rfl ⟨_, rfl, rfl, T_r1, Nat.le_of_ble_eq_true rfl⟩ rfl rfl (Nat.le_of_ble_eq_true rfl) (Nat.le_of_ble_eq_true rfl) (Nat.le_of_ble_eq_true rfl) ?_
      rintro x18 _ _ ⟨p0x18, rfl, rfl⟩
      have gx18 := rg x18
      try simp only [z_r0_0, z_r0_1, z_r0_2, z_r1_1, z_r2_1, z_r4_1, z_r0_0_6, z_r0_0_7, z_r0_0_8, z_r0_0_9, z_r0_0_10] at p0x18
      try simp only [e13, e14, e15, e16] at p0x18
      try have q0x18 := congrArg Int32.toInt p0x18
      have hga := p0x18; (try simp only [e13] at hga); have he16 := (Chg.at ((Chg.mono S9 (by decide)) : Chg (SL [r4_1]) T [] I L I4 L5) (nm_1 (by first | exact nb1 | exact fun e => nb1 e.symm)))
      refine k_iload_n C rfl rfl rfl ?_
      refine z_imulE C rfl rfl (fun x19 ex19 => ?_)
      have gx19 := rg x19
      have m20 := ex19
      refine z_i2l C rfl rfl (fun lg20 elg20 => ?_)
      have hl22 := elg20
      refine c_VI C (s_X0_of_x hS hI10 H_r0) rfl rfl rfl rfl rfl ⟨_, rfl, rfl, T_r0, Nat.le_of_ble_eq_true rfl⟩ rfl rfl (Nat.le_of_ble_eq_true rfl) (Nat.le_of_ble_eq_true rfl) (Nat.le_of_ble_eq_true rfl) ?_
      rintro x21 _ _ ⟨o0x21, o1x21, p0x21, p1x21, rfl, rfl⟩
      have gx21 := rg x21
      try simp only [z_r0_0, z_r0_1, z_r0_2, z_r1_1, z_r2_1, z_r4_1, z_r0_0_6, z_r0_0_7, z_r0_0_8, z_r0_0_9, z_r0_0_10] at p0x21
      try simp only [z_r0_0, z_r0_1, z_r0_2, z_r1_1, z_r2_1, z_r4_1, z_r0_0_6, z_r0_0_7, z_r0_0_8, z_r0_0_9, z_r0_0_10] at p1x21
      try simp only [e13, e14, e15, e16] at p0x21
      try have q0x21 := congrArg Int32.toInt p0x21
      try simp only [e13, e14, e15, e16] at p1x21
      try have q1x21 := congrArg Int32.toInt p1x21
      have hof := p0x21; (try simp only [e16] at hof); have hun := APN hga he16 hp3 (by omega) (by omega) (by omega) m20 (by omega) hl22 hof
      refine k_istore C (lw := [(6, .int x21), (0, .ref r0), (1, .ref r1), (2, .ref r2), (3, .int n3), (4, .ref r4), (5, .int x6)]) rfl rfl (Nat.le_of_ble_eq_true rfl) rfl ?_
      refine z_iconst C (z := 0) rfl rfl rfl (fun x22 ex22 => ?_)
      have J23 : ∀ (nn24 : Nat) (I25 : IT) (L26 : LT) (x27 : Int32), (MN (41 - x27.toInt) nn24) → (IX A T I25) → (Chg (SL [r4_1]) T [] I4 L5 I25 L26) → (0 ≤ x27.toInt) → (x27.toInt ≤ 41) → (APJ I25 r4_1 w_r0_0_0.toInt w_r4_0.toInt n3.toInt w_r2_0.toInt (NF I r4_1) (NF I r1_1) (NF I r2_1) x6.toInt x21.toInt x27.toInt) → (x27.toInt ≤ w_r2_0.toInt + 1) → V 30 [(0, .ref r0), (1, .ref r1), (2, .ref r2), (3, .int n3), (4, .ref r4), (5, .int x6), (6, .int x21), (7, .int x27)] [] (T, N, I25, L26, R) 0 0 := by
        intro nn24
        induction nn24 using Nat.strongRecOn with
        | _ nn24 ihJ23 =>
          intro I25 L26 x27 hmnn24 hI31 S30 b28 b29 ff30_0 ff30_1
          have gx27 := rg x27
          have e34 := Chg.k S30 T_r1 (by decide) (by decide) e13
          have e35 := Chg.k S30 T_r2 (by decide) (by decide) e14
          have e36 := Chg.k S30 T_r4 (by decide) (by decide) e15
          have e37 := Chg.k S30 T_r0_0 (by decide) (by decide) e16
          refine k_iload C rfl rfl rfl ?_
          refine b_if_eq C (t := 85) rfl rfl rfl (fun c38 => ?_) (fun c38 => ?_)
          · skip
            refine z_iinc C (z := 1) (lw := fun x39 => [(5, .int x39), (0, .ref r0), (1, .ref r1), (2, .ref r2), (3, .int n3), (4, .ref r4), (6, .int x21), (7, .int x27)]) rfl rfl rfl (Nat.le_of_ble_eq_true rfl) rfl ⟨by omega, by omega⟩ (fun _ => rfl) (fun x39 ex39 => ?_)
            show V 88 [(5, .int x39), (0, .ref r0), (1, .ref r1), (2, .ref r2), (3, .int n3), (4, .ref r4), (6, .int x21), (7, .int x27)] _ _ _ _
            refine k_goto C (pc2 := 3) rfl rfl ?_
            refine k_sub S [(0, .ref r0), (1, .ref r1), (2, .ref r2), (3, .int n3), (4, .ref r4), (5, .int x39)] (List.forall_mem_cons.mpr ⟨List.mem_of_getElem? (i := 1) rfl, List.forall_mem_cons.mpr ⟨List.mem_of_getElem? (i := 2) rfl, List.forall_mem_cons.mpr ⟨List.mem_of_getElem? (i := 3) rfl, List.forall_mem_cons.mpr ⟨List.mem_of_getElem? (i := 4) rfl, List.forall_mem_cons.mpr ⟨List.mem_of_getElem? (i := 5) rfl, List.forall_mem_cons.mpr ⟨List.mem_of_getElem? (i := 0) rfl, fun _ h => nomatch h⟩⟩⟩⟩⟩⟩) ?_
            exact ihJ2 _ (MN.lt hmnn3 (by omega) (by omega)) I25 L26 x39 rfl hI31 (Chg.cons S9 (Chg.mono S30 (by decide)) (by decide)) (by omega) (by omega) (by exact APJ.e ff30_0 hun (by omega) (by omega) (by omega) (by omega)) (by omega)
          refine k_iload C rfl rfl rfl ?_
          refine k_aload_n C rfl rfl rfl ?_
          refine g_I C rfl rfl rfl T_r2 rfl e35 ?_
          refine b_icmp_gt C (t := 85) rfl rfl rfl (fun c40 => ?_) (fun c40 => ?_)
          · skip
            refine z_iinc C (z := 1) (lw := fun x41 => [(5, .int x41), (0, .ref r0), (1, .ref r1), (2, .ref r2), (3, .int n3), (4, .ref r4), (6, .int x21), (7, .int x27)]) rfl rfl rfl (Nat.le_of_ble_eq_true rfl) rfl ⟨by omega, by omega⟩ (fun _ => rfl) (fun x41 ex41 => ?_)
            show V 88 [(5, .int x41), (0, .ref r0), (1, .ref r1), (2, .ref r2), (3, .int n3), (4, .ref r4), (6, .int x21), (7, .int x27)] _ _ _ _
            refine k_goto C (pc2 := 3) rfl rfl ?_
            refine k_sub S [(0, .ref r0), (1, .ref r1), (2, .ref r2), (3, .int n3), (4, .ref r4), (5, .int x41)] (List.forall_mem_cons.mpr ⟨List.mem_of_getElem? (i := 1) rfl, List.forall_mem_cons.mpr ⟨List.mem_of_getElem? (i := 2) rfl, List.forall_mem_cons.mpr ⟨List.mem_of_getElem? (i := 3) rfl, List.forall_mem_cons.mpr ⟨List.mem_of_getElem? (i := 4) rfl, List.forall_mem_cons.mpr ⟨List.mem_of_getElem? (i := 5) rfl, List.forall_mem_cons.mpr ⟨List.mem_of_getElem? (i := 0) rfl, fun _ h => nomatch h⟩⟩⟩⟩⟩⟩) ?_
            exact ihJ2 _ (MN.lt hmnn3 (by omega) (by omega)) I25 L26 x41 rfl hI31 (Chg.cons S9 (Chg.mono S30 (by decide)) (by decide)) (by omega) (by omega) (by exact APJ.e ff30_0 hun (by omega) (by omega) (by omega) (by omega)) (by omega)
          refine k_aload C rfl rfl rfl ?_
          refine k_iload C rfl rfl rfl ?_
          refine k_iload C rfl rfl rfl ?_
          refine z_iadd C rfl rfl ⟨by omega, by omega⟩ (fun x42 ex42 => ?_)
          refine k_aload_n C rfl rfl rfl ?_
          refine k_aload C rfl rfl rfl ?_
          refine k_iload C rfl rfl rfl ?_
          refine k_iload C rfl rfl rfl ?_
          refine z_iadd C rfl rfl ⟨by omega, by omega⟩ (fun x43 ex43 => ?_)
          refine c_VI C (s_X2_get_x hS hI31 H_r4) rfl rfl rfl rfl rfl ⟨_, rfl, rfl, T_r4, Nat.le_of_ble_eq_true rfl⟩ rfl rfl (Nat.le_of_ble_eq_true rfl) (Nat.le_of_ble_eq_true rfl) (Nat.le_of_ble_eq_true rfl) ?_
          rintro x44 _ _ ⟨p0x44, rfl, rfl⟩
          have gx44 := rg x44
          try simp only [z_r0_0, z_r0_1, z_r0_2, z_r1_1, z_r2_1, z_r4_1, z_r0_0_6, z_r0_0_7, z_r0_0_8, z_r0_0_9, z_r0_0_10] at p0x44
          try simp only [e34, e35, e36, e37] at p0x44
          try have q0x44 := congrArg Int32.toInt p0x44
          have hgr := p0x44; (try simp only [e36] at hgr)
          refine k_iload C rfl rfl rfl ?_
          refine k_aload_n C rfl rfl rfl ?_
          refine k_iload C rfl rfl rfl ?_
          refine c_VI C (s_X2_get_x hS hI31 H_r2) rfl rfl rfl rfl rfl ⟨_, rfl, rfl, T_r2, Nat.le_of_ble_eq_true rfl⟩ rfl rfl (Nat.le_of_ble_eq_true rfl) (Nat.le_of_ble_eq_true rfl) (Nat.le_of_ble_eq_true rfl) ?_
          rintro x45 _ _ ⟨p0x45, rfl, rfl⟩
          have gx45 := rg x45
          try simp only [z_r0_0, z_r0_1, z_r0_2, z_r1_1, z_r2_1, z_r4_1, z_r0_0_6, z_r0_0_7, z_r0_0_8, z_r0_0_9, z_r0_0_10] at p0x45
          try simp only [e34, e35, e36, e37] at p0x45
          try have q0x45 := congrArg Int32.toInt p0x45
          have hgc := p0x45; (try simp only [e35] at hgc); have he67 := (Chg.at ((Chg.cons S9 (Chg.mono S30 (by decide)) (by decide)) : Chg (SL [r4_1]) T [] I L I25 L26) (nm_1 (by first | exact nb2 | exact fun e => nb2 e.symm)))
          refine z_imulN C rfl rfl (fun x46 hm70 => ?_)
          have gx46 := rg x46
          have mm70 := hm70.2
          clear hm70
          refine z_iaddX C rfl rfl (fun x47 ad71 => ?_)
          have gx47 := rg x47
          refine z_i2l C rfl rfl (fun lg48 elg48 => ?_)
          have hl73 := elg48
          refine c_VI C (s_X0_of_x hS hI31 H_r0) rfl rfl rfl rfl rfl ⟨_, rfl, rfl, T_r0, Nat.le_of_ble_eq_true rfl⟩ rfl rfl (Nat.le_of_ble_eq_true rfl) (Nat.le_of_ble_eq_true rfl) (Nat.le_of_ble_eq_true rfl) ?_
          rintro x49 _ _ ⟨o0x49, o1x49, p0x49, p1x49, rfl, rfl⟩
          have gx49 := rg x49
          try simp only [z_r0_0, z_r0_1, z_r0_2, z_r1_1, z_r2_1, z_r4_1, z_r0_0_6, z_r0_0_7, z_r0_0_8, z_r0_0_9, z_r0_0_10] at p0x49
          try simp only [z_r0_0, z_r0_1, z_r0_2, z_r1_1, z_r2_1, z_r4_1, z_r0_0_6, z_r0_0_7, z_r0_0_8, z_r0_0_9, z_r0_0_10] at p1x49
          try simp only [e34, e35, e36, e37] at p0x49
          try have q0x49 := congrArg Int32.toInt p0x49
          try simp only [e34, e35, e36, e37] at p1x49
          try have q1x49 := congrArg Int32.toInt p1x49
          have hof2 := p0x49; (try simp only [e37] at hof2)
          refine c_VV C (s_X2_set_x hS hI31 H_r4) rfl rfl rfl rfl rfl ⟨_, rfl, rfl, T_r4, Nat.le_of_ble_eq_true rfl⟩ rfl rfl (Nat.le_of_ble_eq_true rfl) (Nat.le_of_ble_eq_true rfl) (Nat.le_of_ble_eq_true rfl) ?_
          rintro I51 L52 ⟨p0v50, hI51, S53⟩
          try simp only [z_r0_0, z_r0_1, z_r0_2, z_r1_1, z_r2_1, z_r4_1, z_r0_0_6, z_r0_0_7, z_r0_0_8, z_r0_0_9, z_r0_0_10] at S53
          have e54 := Chg.k S53 T_r1 (by decide) (by decide) e34
          have e55 := Chg.k S53 T_r2 (by decide) (by decide) e35
          have e56 := Chg.k S53 T_r4 (by decide) (by decide) e36
          have e57 := Chg.k S53 T_r0_0 (by decide) (by decide) e37
          try simp only [z_r0_0, z_r0_1, z_r0_2, z_r1_1, z_r2_1, z_r4_1, z_r0_0_6, z_r0_0_7, z_r0_0_8, z_r0_0_9, z_r0_0_10] at p0v50
          try simp only [e34, e35, e36, e37] at p0v50
          try have q0v50 := congrArg Int32.toInt p0v50
          have hse := p0v50
          refine z_iinc C (z := 1) (lw := fun x58 => [(7, .int x58), (0, .ref r0), (1, .ref r1), (2, .ref r2), (3, .int n3), (4, .ref r4), (5, .int x6), (6, .int x21)]) rfl rfl rfl (Nat.le_of_ble_eq_true rfl) rfl ⟨by omega, by omega⟩ (fun _ => rfl) (fun x58 ex58 => ?_)
          show V 82 [(7, .int x58), (0, .ref r0), (1, .ref r1), (2, .ref r2), (3, .int n3), (4, .ref r4), (5, .int x6), (6, .int x21)] _ _ _ _
          refine k_goto C (pc2 := 30) rfl rfl ?_
          refine k_sub S [(0, .ref r0), (1, .ref r1), (2, .ref r2), (3, .int n3), (4, .ref r4), (5, .int x6), (6, .int x21), (7, .int x58)] (List.forall_mem_cons.mpr ⟨List.mem_of_getElem? (i := 1) rfl, List.forall_mem_cons.mpr ⟨List.mem_of_getElem? (i := 2) rfl, List.forall_mem_cons.mpr ⟨List.mem_of_getElem? (i := 3) rfl, List.forall_mem_cons.mpr ⟨List.mem_of_getElem? (i := 4) rfl, List.forall_mem_cons.mpr ⟨List.mem_of_getElem? (i := 5) rfl, List.forall_mem_cons.mpr ⟨List.mem_of_getElem? (i := 6) rfl, List.forall_mem_cons.mpr ⟨List.mem_of_getElem? (i := 7) rfl, List.forall_mem_cons.mpr ⟨List.mem_of_getElem? (i := 0) rfl, fun _ h => nomatch h⟩⟩⟩⟩⟩⟩⟩⟩) ?_
          exact ihJ23 _ (MN.lt hmnn24 (by omega) (by omega)) I51 L52 x58 rfl hI51 (Chg.cons S30 (Chg.mono (Chg.up S53 (List.forall_mem_cons.mpr ⟨List.mem_of_getElem? (i := 0) rfl, fun _ h => nomatch h⟩)) (by decide)) (by decide)) (by omega) (by omega) (by exact APJ.s ff30_0 hgr hgc he67 hp4 mm70 ad71 hl73 hof2 hse (by omega) (by omega) (by omega) (by omega) (by omega) (by omega) (by omega) (by omega) (by omega) (by omega) (by omega)) (by omega)
      refine k_istore C (lw := [(7, .int x22), (6, .int x21), (0, .ref r0), (1, .ref r1), (2, .ref r2), (3, .int n3), (4, .ref r4), (5, .int x6)]) rfl rfl (Nat.le_of_ble_eq_true rfl) rfl ?_
      refine k_sub S [(0, .ref r0), (1, .ref r1), (2, .ref r2), (3, .int n3), (4, .ref r4), (5, .int x6), (6, .int x21), (7, .int x22)] (List.forall_mem_cons.mpr ⟨List.mem_of_getElem? (i := 2) rfl, List.forall_mem_cons.mpr ⟨List.mem_of_getElem? (i := 3) rfl, List.forall_mem_cons.mpr ⟨List.mem_of_getElem? (i := 4) rfl, List.forall_mem_cons.mpr ⟨List.mem_of_getElem? (i := 5) rfl, List.forall_mem_cons.mpr ⟨List.mem_of_getElem? (i := 6) rfl, List.forall_mem_cons.mpr ⟨List.mem_of_getElem? (i := 7) rfl, List.forall_mem_cons.mpr ⟨List.mem_of_getElem? (i := 1) rfl, List.forall_mem_cons.mpr ⟨List.mem_of_getElem? (i := 0) rfl, fun _ h => nomatch h⟩⟩⟩⟩⟩⟩⟩⟩) ?_
      exact J23 _ I4 L5 x22 rfl hI10 Chg.rf (by omega) (by omega) (by exact APJ.z ff3_0 (by omega)) (by omega)
  refine k_istore C (lw := [(5, .int x1), (0, .ref r0), (1, .ref r1), (2, .ref r2), (3, .int n3), (4, .ref r4)]) rfl rfl (Nat.le_of_ble_eq_true rfl) rfl ?_
  refine k_sub S [(0, .ref r0), (1, .ref r1), (2, .ref r2), (3, .int n3), (4, .ref r4), (5, .int x1)] (List.forall_mem_cons.mpr ⟨List.mem_of_getElem? (i := 1) rfl, List.forall_mem_cons.mpr ⟨List.mem_of_getElem? (i := 2) rfl, List.forall_mem_cons.mpr ⟨List.mem_of_getElem? (i := 3) rfl, List.forall_mem_cons.mpr ⟨List.mem_of_getElem? (i := 4) rfl, List.forall_mem_cons.mpr ⟨List.mem_of_getElem? (i := 5) rfl, List.forall_mem_cons.mpr ⟨List.mem_of_getElem? (i := 0) rfl, fun _ h => nomatch h⟩⟩⟩⟩⟩⟩) ?_
  exact J2 _ I L x1 rfl hI Chg.rf (by omega) (by omega) (by exact APX.z hp5 (by omega)) (by omega)

theorem s_X0_overlapInto_x {d : Nat} {T N : Nat → Nat} {I : IT} {L : LT} {R : RT} {A B : Nat → Prop} {r0 r1 r2 r4 : Nat} {n3 : Int32} (hS : SUB B A) (hI : IX A T I) (H_r0 : (hs_Al T N R A B) r0) (H_r1 : (hs_F T N R A B) r1) (H_r2 : (hs_F T N R A B) r2) (H_r4 : (hs_F T N R A B) r4) (hU : UPR T R) (hp0 : NQ9 r1 r4) (hp1 : NQ9 r2 r4) (hp2 : NQ9 r4 (rA R r0 1)) (hp3 : NQ9 r4 (rA R r0 2)) (hp4 : NQ9 r1 (rA R r0 1)) (hp5 : NQ9 r1 (rA R r0 2)) (hp6 : NQ9 r2 (rA R r0 1)) (hp7 : NQ9 r2 (rA R r0 2)) (hp8 : NQ9 (rA R r0 1) (rA R r0 2)) (hp9 : n3.toInt ≤ 8 ∨ (I r1 0).toInt ≤ 8) (hp10 : BNX I (rA R r1 1) (I r1 0).toInt (I (rA R r0 0) 0).toInt) (hp11 : BNX I (rA R r2 1) (I r2 0).toInt (I (rA R r0 0) 0).toInt) : Ex (d + 4) 22 [.ref r0, .ref r1, .ref r2, .int n3, .ref r4] (T, N, I, L, R) 0 0 (pI T N R (fun x9 I9 L9 => (0 ≤ x9.toInt) ∧ (x9.toInt ≤ 1) ∧ (x9.toInt = 0 → n3.toInt < 0 ∨ (I r1 0).toInt < n3.toInt ∨ (I r2 0).toInt < n3.toInt ∨ 40 < (I r1 0).toInt + (I r2 0).toInt - 2 * n3.toInt) ∧ (x9.toInt = 1 → ¬ (n3.toInt < 0 ∨ (I r1 0).toInt < n3.toInt ∨ (I r2 0).toInt < n3.toInt ∨ 40 < (I r1 0).toInt + (I r2 0).toInt - 2 * n3.toInt)) ∧ (x9.toInt = 1 → (I9 r4 0).toInt = (I r1 0).toInt + (I r2 0).toInt - 2 * n3.toInt) ∧ (x9.toInt = 1 → VRX I9 (rA R r4 1) (I (rA R r0 0) 0).toInt ((I r1 0).toInt + (I r2 0).toInt - 2 * n3.toInt) (OVS (NF I (rA R r1 1)) (NF I (rA R r2 1)) (I r1 0).toInt (I r2 0).toInt n3.toInt (n3.toNatClampNeg + 1))) ∧ (IX A T I9 ∧ Chg (SL [r4, (rA R r4 1), (rA R r0 1), (rA R (rA R r0 1) 1), (rA R r0 2), (rA R (rA R r0 2) 1)]) T [(3, 0)] I L I9 L9))) := by
  refine ⟨_, rfl, Nat.le_of_ble_eq_true rfl, fun V C S => ?_⟩
  show V 0 [(0, .ref r0), (1, .ref r1), (2, .ref r2), (3, .int n3), (4, .ref r4)] [] (T, N, I, L, R) 0 0
  have gn3 := rg n3
  obtain ⟨T_r0, A_r0, B_r0, ⟨r0_0, R_r0_0, H_r0_0⟩, ⟨r0_1, R_r0_1, H_r0_1⟩, ⟨r0_2, R_r0_2, H_r0_2⟩⟩ := id H_r0
  have z_r0_0 : rA R r0 0 = r0_0 := rA_e R_r0_0
  have z_r0_1 : rA R r0 1 = r0_1 := rA_e R_r0_1
  have z_r0_2 : rA R r0 2 = r0_2 := rA_e R_r0_2
  obtain ⟨T_r1, A_r1, ⟨r1_1, R_r1_1, H_r1_1⟩⟩ := id H_r1
  have z_r1_1 : rA R r1 1 = r1_1 := rA_e R_r1_1
  obtain ⟨T_r2, A_r2, ⟨r2_1, R_r2_1, H_r2_1⟩⟩ := id H_r2
  have z_r2_1 : rA R r2 1 = r2_1 := rA_e R_r2_1
  obtain ⟨T_r4, A_r4, ⟨r4_1, R_r4_1, H_r4_1⟩⟩ := id H_r4
  have z_r4_1 : rA R r4 1 = r4_1 := rA_e R_r4_1
  obtain ⟨T_r0_0, A_r0_0, B_r0_0, ⟨r0_0_6, R_r0_0_6, H_r0_0_6⟩, ⟨r0_0_7, R_r0_0_7, H_r0_0_7⟩, ⟨r0_0_8, R_r0_0_8, H_r0_0_8⟩, ⟨r0_0_9, R_r0_0_9, H_r0_0_9⟩, ⟨r0_0_10, R_r0_0_10, H_r0_0_10⟩⟩ := id H_r0_0
  have z_r0_0_6 : rA R r0_0 6 = r0_0_6 := rA_e R_r0_0_6
  have z_r0_0_7 : rA R r0_0 7 = r0_0_7 := rA_e R_r0_0_7
  have z_r0_0_8 : rA R r0_0 8 = r0_0_8 := rA_e R_r0_0_8
  have z_r0_0_9 : rA R r0_0 9 = r0_0_9 := rA_e R_r0_0_9
  have z_r0_0_10 : rA R r0_0 10 = r0_0_10 := rA_e R_r0_0_10
  obtain ⟨T_r0_1, A_r0_1, B_r0_1, ⟨r0_1_1, R_r0_1_1, H_r0_1_1⟩⟩ := id H_r0_1
  have z_r0_1_1 : rA R r0_1 1 = r0_1_1 := rA_e R_r0_1_1
  obtain ⟨T_r0_2, A_r0_2, B_r0_2, ⟨r0_2_1, R_r0_2_1, H_r0_2_1⟩⟩ := id H_r0_2
  have z_r0_2_1 : rA R r0_2 1 = r0_2_1 := rA_e R_r0_2_1
  obtain ⟨T_r1_1, N_r1_1, A_r1_1⟩ := id H_r1_1
  obtain ⟨T_r2_1, N_r2_1, A_r2_1⟩ := id H_r2_1
  obtain ⟨T_r4_1, N_r4_1, A_r4_1⟩ := id H_r4_1
  obtain ⟨T_r0_1_1, N_r0_1_1, A_r0_1_1⟩ := id H_r0_1_1
  obtain ⟨T_r0_2_1, N_r0_2_1, A_r0_2_1⟩ := id H_r0_2_1
  try simp only [z_r0_0, z_r0_1, z_r0_2, z_r1_1, z_r2_1, z_r4_1, z_r0_0_6, z_r0_0_7, z_r0_0_8, z_r0_0_9, z_r0_0_10, z_r0_1_1, z_r0_2_1] at hp0
  try simp only [z_r0_0, z_r0_1, z_r0_2, z_r1_1, z_r2_1, z_r4_1, z_r0_0_6, z_r0_0_7, z_r0_0_8, z_r0_0_9, z_r0_0_10, z_r0_1_1, z_r0_2_1] at hp1
  try simp only [z_r0_0, z_r0_1, z_r0_2, z_r1_1, z_r2_1, z_r4_1, z_r0_0_6, z_r0_0_7, z_r0_0_8, z_r0_0_9, z_r0_0_10, z_r0_1_1, z_r0_2_1] at hp2
  try simp only [z_r0_0, z_r0_1, z_r0_2, z_r1_1, z_r2_1, z_r4_1, z_r0_0_6, z_r0_0_7, z_r0_0_8, z_r0_0_9, z_r0_0_10, z_r0_1_1, z_r0_2_1] at hp3
  try simp only [z_r0_0, z_r0_1, z_r0_2, z_r1_1, z_r2_1, z_r4_1, z_r0_0_6, z_r0_0_7, z_r0_0_8, z_r0_0_9, z_r0_0_10, z_r0_1_1, z_r0_2_1] at hp4
  try simp only [z_r0_0, z_r0_1, z_r0_2, z_r1_1, z_r2_1, z_r4_1, z_r0_0_6, z_r0_0_7, z_r0_0_8, z_r0_0_9, z_r0_0_10, z_r0_1_1, z_r0_2_1] at hp5
  try simp only [z_r0_0, z_r0_1, z_r0_2, z_r1_1, z_r2_1, z_r4_1, z_r0_0_6, z_r0_0_7, z_r0_0_8, z_r0_0_9, z_r0_0_10, z_r0_1_1, z_r0_2_1] at hp6
  try simp only [z_r0_0, z_r0_1, z_r0_2, z_r1_1, z_r2_1, z_r4_1, z_r0_0_6, z_r0_0_7, z_r0_0_8, z_r0_0_9, z_r0_0_10, z_r0_1_1, z_r0_2_1] at hp7
  try simp only [z_r0_0, z_r0_1, z_r0_2, z_r1_1, z_r2_1, z_r4_1, z_r0_0_6, z_r0_0_7, z_r0_0_8, z_r0_0_9, z_r0_0_10, z_r0_1_1, z_r0_2_1] at hp8
  try simp only [z_r0_0, z_r0_1, z_r0_2, z_r1_1, z_r2_1, z_r4_1, z_r0_0_6, z_r0_0_7, z_r0_0_8, z_r0_0_9, z_r0_0_10, z_r0_1_1, z_r0_2_1] at hp9
  try simp only [z_r0_0, z_r0_1, z_r0_2, z_r1_1, z_r2_1, z_r4_1, z_r0_0_6, z_r0_0_7, z_r0_0_8, z_r0_0_9, z_r0_0_10, z_r0_1_1, z_r0_2_1] at hp10
  try simp only [z_r0_0, z_r0_1, z_r0_2, z_r1_1, z_r2_1, z_r4_1, z_r0_0_6, z_r0_0_7, z_r0_0_8, z_r0_0_9, z_r0_0_10, z_r0_1_1, z_r0_2_1] at hp11
  obtain ⟨w_r1_0, k0_r1_0⟩ : ∃ x, I r1 0 = x := ⟨_, rfl⟩
  have gw_r1_0 := rg w_r1_0
  have ow_r1_0 := IX.deg hI A_r1 T_r1 k0_r1_0
  obtain ⟨w_r2_0, k0_r2_0⟩ : ∃ x, I r2 0 = x := ⟨_, rfl⟩
  have gw_r2_0 := rg w_r2_0
  have ow_r2_0 := IX.deg hI A_r2 T_r2 k0_r2_0
  obtain ⟨w_r0_0_0, k0_r0_0_0⟩ : ∃ x, I r0_0 0 = x := ⟨_, rfl⟩
  have gw_r0_0_0 := rg w_r0_0_0
  have ow_r0_0_0 := IX.p hI A_r0_0 T_r0_0 k0_r0_0_0
  try simp only [k0_r1_0, k0_r2_0, k0_r0_0_0] at hp0
  try simp only [k0_r1_0, k0_r2_0, k0_r0_0_0] at hp1
  try simp only [k0_r1_0, k0_r2_0, k0_r0_0_0] at hp2
  try simp only [k0_r1_0, k0_r2_0, k0_r0_0_0] at hp3
  try simp only [k0_r1_0, k0_r2_0, k0_r0_0_0] at hp4
  try simp only [k0_r1_0, k0_r2_0, k0_r0_0_0] at hp5
  try simp only [k0_r1_0, k0_r2_0, k0_r0_0_0] at hp6
  try simp only [k0_r1_0, k0_r2_0, k0_r0_0_0] at hp7
  try simp only [k0_r1_0, k0_r2_0, k0_r0_0_0] at hp8
  try simp only [k0_r1_0, k0_r2_0, k0_r0_0_0] at hp9
  try simp only [k0_r1_0, k0_r2_0, k0_r0_0_0] at hp10
  try simp only [k0_r1_0, k0_r2_0, k0_r0_0_0] at hp11
  have nb_r1_r4 : NQ9 r1_1 r4_1 := hU.ne (Or.inr (Or.inr (Or.inr (by omega)))) R_r1_1 R_r4_1 (Or.inl hp0)
  have nb_r2_r4 : NQ9 r2_1 r4_1 := hU.ne (Or.inr (Or.inr (Or.inr (by omega)))) R_r2_1 R_r4_1 (Or.inl hp1)
  have nb_r4_r0_1 : NQ9 r4_1 r0_1_1 := hU.ne (Or.inr (Or.inr (Or.inr (by omega)))) R_r4_1 R_r0_1_1 (Or.inl hp2)
  have nb_r4_r0_2 : NQ9 r4_1 r0_2_1 := hU.ne (Or.inr (Or.inr (Or.inr (by omega)))) R_r4_1 R_r0_2_1 (Or.inl hp3)
  have nb_r1_r0_1 : NQ9 r1_1 r0_1_1 := hU.ne (Or.inr (Or.inr (Or.inr (by omega)))) R_r1_1 R_r0_1_1 (Or.inl hp4)
  have nb_r1_r0_2 : NQ9 r1_1 r0_2_1 := hU.ne (Or.inr (Or.inr (Or.inr (by omega)))) R_r1_1 R_r0_2_1 (Or.inl hp5)
  have nb_r2_r0_1 : NQ9 r2_1 r0_1_1 := hU.ne (Or.inr (Or.inr (Or.inr (by omega)))) R_r2_1 R_r0_1_1 (Or.inl hp6)
  have nb_r2_r0_2 : NQ9 r2_1 r0_2_1 := hU.ne (Or.inr (Or.inr (Or.inr (by omega)))) R_r2_1 R_r0_2_1 (Or.inl hp7)
  have nb_r0_1_r0_2 : NQ9 r0_1_1 r0_2_1 := hU.ne (Or.inr (Or.inr (Or.inr (by omega)))) R_r0_1_1 R_r0_2_1 (Or.inl hp8)
  try simp only [k0_r1_0, k0_r0_0_0] at hp10
  try simp only [k0_r2_0, k0_r0_0_0] at hp11
  refine k_iload_n C rfl rfl rfl ?_
  refine b_if_lt C (t := 38) rfl rfl rfl (fun c1 => ?_) (fun c1 => ?_)
  · skip
    refine z_iconst C (z := 0) rfl rfl rfl (fun x2 ex2 => ?_)
    exact k_iret C rfl (Or.inr ⟨rfl, z01 (by omega) (by omega)⟩) (Nat.le_of_ble_eq_true rfl) (Nat.le_of_ble_eq_true rfl) ⟨_, _, _, rfl, rfl, by omega, by omega, by (try simp only [z_r0_0, z_r0_1, z_r0_2, z_r1_1, z_r2_1, z_r4_1, z_r0_0_6, z_r0_0_7, z_r0_0_8, z_r0_0_9, z_r0_0_10, z_r0_1_1, z_r0_2_1]); simp only [k0_r1_0, k0_r2_0]; intro _; omega, by (try simp only [z_r0_0, z_r0_1, z_r0_2, z_r1_1, z_r2_1, z_r4_1, z_r0_0_6, z_r0_0_7, z_r0_0_8, z_r0_0_9, z_r0_0_10, z_r0_1_1, z_r0_2_1]); intro h; exfalso; omega, by (try simp only [z_r0_0, z_r0_1, z_r0_2, z_r1_1, z_r2_1, z_r4_1, z_r0_0_6, z_r0_0_7, z_r0_0_8, z_r0_0_9, z_r0_0_10, z_r0_1_1, z_r0_2_1]); intro h; exfalso; omega, by (try simp only [z_r0_0, z_r0_1, z_r0_2, z_r1_1, z_r2_1, z_r4_1, z_r0_0_6, z_r0_0_7, z_r0_0_8, z_r0_0_9, z_r0_0_10, z_r0_1_1, z_r0_2_1]); intro h; exfalso; omega, hI, (by (try simp only [z_r0_0, z_r0_1, z_r0_2, z_r1_1, z_r2_1, z_r4_1, z_r0_0_6, z_r0_0_7, z_r0_0_8, z_r0_0_9, z_r0_0_10, z_r0_1_1, z_r0_2_1]); exact Chg.rf)⟩
  refine k_iload_n C rfl rfl rfl ?_
  refine k_aload_n C rfl rfl rfl ?_
  refine g_I C rfl rfl rfl T_r1 rfl k0_r1_0 ?_
  refine b_icmp_gt C (t := 38) rfl rfl rfl (fun c3 => ?_) (fun c3 => ?_)
  · skip
    refine z_iconst C (z := 0) rfl rfl rfl (fun x4 ex4 => ?_)
    exact k_iret C rfl (Or.inr ⟨rfl, z01 (by omega) (by omega)⟩) (Nat.le_of_ble_eq_true rfl) (Nat.le_of_ble_eq_true rfl) ⟨_, _, _, rfl, rfl, by omega, by omega, by (try simp only [z_r0_0, z_r0_1, z_r0_2, z_r1_1, z_r2_1, z_r4_1, z_r0_0_6, z_r0_0_7, z_r0_0_8, z_r0_0_9, z_r0_0_10, z_r0_1_1, z_r0_2_1]); simp only [k0_r1_0, k0_r2_0]; intro _; omega, by (try simp only [z_r0_0, z_r0_1, z_r0_2, z_r1_1, z_r2_1, z_r4_1, z_r0_0_6, z_r0_0_7, z_r0_0_8, z_r0_0_9, z_r0_0_10, z_r0_1_1, z_r0_2_1]); intro h; exfalso; omega, by (try simp only [z_r0_0, z_r0_1, z_r0_2, z_r1_1, z_r2_1, z_r4_1, z_r0_0_6, z_r0_0_7, z_r0_0_8, z_r0_0_9, z_r0_0_10, z_r0_1_1, z_r0_2_1]); intro h; exfalso; omega, by (try simp only [z_r0_0, z_r0_1, z_r0_2, z_r1_1, z_r2_1, z_r4_1, z_r0_0_6, z_r0_0_7, z_r0_0_8, z_r0_0_9, z_r0_0_10, z_r0_1_1, z_r0_2_1]); intro h; exfalso; omega, hI, (by (try simp only [z_r0_0, z_r0_1, z_r0_2, z_r1_1, z_r2_1, z_r4_1, z_r0_0_6, z_r0_0_7, z_r0_0_8, z_r0_0_9, z_r0_0_10, z_r0_1_1, z_r0_2_1]); exact Chg.rf)⟩
  refine k_iload_n C rfl rfl rfl ?_
  refine k_aload_n C rfl rfl rfl ?_
  refine g_I C rfl rfl rfl T_r2 rfl k0_r2_0 ?_
  refine b_icmp_gt C (t := 38) rfl rfl rfl (fun c5 => ?_) (fun c5 => ?_)
  · skip
    refine z_iconst C (z := 0) rfl rfl rfl (fun x6 ex6 => ?_)
    exact k_iret C rfl (Or.inr ⟨rfl, z01 (by omega) (by omega)⟩) (Nat.le_of_ble_eq_true rfl) (Nat.le_of_ble_eq_true rfl) ⟨_, _, _, rfl, rfl, by omega, by omega, by (try simp only [z_r0_0, z_r0_1, z_r0_2, z_r1_1, z_r2_1, z_r4_1, z_r0_0_6, z_r0_0_7, z_r0_0_8, z_r0_0_9, z_r0_0_10, z_r0_1_1, z_r0_2_1]); simp only [k0_r1_0, k0_r2_0]; intro _; omega, by (try simp only [z_r0_0, z_r0_1, z_r0_2, z_r1_1, z_r2_1, z_r4_1, z_r0_0_6, z_r0_0_7, z_r0_0_8, z_r0_0_9, z_r0_0_10, z_r0_1_1, z_r0_2_1]); intro h; exfalso; omega, by (try simp only [z_r0_0, z_r0_1, z_r0_2, z_r1_1, z_r2_1, z_r4_1, z_r0_0_6, z_r0_0_7, z_r0_0_8, z_r0_0_9, z_r0_0_10, z_r0_1_1, z_r0_2_1]); intro h; exfalso; omega, by (try simp only [z_r0_0, z_r0_1, z_r0_2, z_r1_1, z_r2_1, z_r4_1, z_r0_0_6, z_r0_0_7, z_r0_0_8, z_r0_0_9, z_r0_0_10, z_r0_1_1, z_r0_2_1]); intro h; exfalso; omega, hI, (by (try simp only [z_r0_0, z_r0_1, z_r0_2, z_r1_1, z_r2_1, z_r4_1, z_r0_0_6, z_r0_0_7, z_r0_0_8, z_r0_0_9, z_r0_0_10, z_r0_1_1, z_r0_2_1]); exact Chg.rf)⟩
  refine k_aload_n C rfl rfl rfl ?_
  refine g_I C rfl rfl rfl T_r1 rfl k0_r1_0 ?_
  refine k_aload_n C rfl rfl rfl ?_
  refine g_I C rfl rfl rfl T_r2 rfl k0_r2_0 ?_
  refine z_iadd C rfl rfl ⟨by omega, by omega⟩ (fun x7 ex7 => ?_)
  refine z_iconst C (z := 2) rfl rfl rfl (fun x8 ex8 => ?_)
  refine k_iload_n C rfl rfl rfl ?_
  refine z_imulL C (c := 2) rfl rfl (by omega) ⟨by omega, by omega⟩ (fun x9 ex9 => ?_)
  refine z_isub C rfl rfl ⟨by omega, by omega⟩ (fun x10 ex10 => ?_)
  refine z_bipush C (z := 40) rfl rfl rfl (fun x11 ex11 => ?_)
  refine b_icmp_le C (t := 40) rfl rfl rfl (fun c12 => ?_) (fun c12 => ?_)
  · skip
    refine k_aload C rfl rfl rfl ?_
    refine k_aload_n C rfl rfl rfl ?_
    refine g_I C rfl rfl rfl T_r1 rfl k0_r1_0 ?_
    refine k_aload_n C rfl rfl rfl ?_
    refine g_I C rfl rfl rfl T_r2 rfl k0_r2_0 ?_
    refine z_iadd C rfl rfl ⟨by omega, by omega⟩ (fun x13 ex13 => ?_)
    refine z_iconst C (z := 2) rfl rfl rfl (fun x14 ex14 => ?_)
    refine k_iload_n C rfl rfl rfl ?_
    refine z_imulL C (c := 2) rfl rfl (by omega) ⟨by omega, by omega⟩ (fun x15 ex15 => ?_)
    refine z_isub C rfl rfl ⟨by omega, by omega⟩ (fun x16 ex16 => ?_)
    refine c_VV C (s_X2_begin_x hS hI H_r4) rfl rfl rfl rfl rfl ⟨_, rfl, rfl, T_r4, Nat.le_of_ble_eq_true rfl⟩ rfl rfl (Nat.le_of_ble_eq_true rfl) (Nat.le_of_ble_eq_true rfl) (Nat.le_of_ble_eq_true rfl) ?_
    rintro I18 L19 ⟨p0v17, p1v17, hI18, S20⟩
    try simp only [z_r0_0, z_r0_1, z_r0_2, z_r1_1, z_r2_1, z_r4_1, z_r0_0_6, z_r0_0_7, z_r0_0_8, z_r0_0_9, z_r0_0_10, z_r0_1_1, z_r0_2_1] at S20
    have e21 := (congrFun (Chg.at S20 (nm_2 (by first | exact hp0 | exact fun e => hp0 e.symm) (t_nq T_r1 T_r4_1 (by decide)))) 0).trans k0_r1_0
    have e22 := (congrFun (Chg.at S20 (nm_2 (by first | exact hp1 | exact fun e => hp1 e.symm) (t_nq T_r2 T_r4_1 (by decide)))) 0).trans k0_r2_0
    have e23 := Chg.k S20 T_r0_0 (by decide) (by decide) k0_r0_0_0
    obtain ⟨x24, e25⟩ : ∃ x, I18 r4 0 = x := ⟨_, rfl⟩
    have gx24 := rg x24
    have ox24 := IX.deg hI18 A_r4 T_r4 e25
    try simp only [z_r0_0, z_r0_1, z_r0_2, z_r1_1, z_r2_1, z_r4_1, z_r0_0_6, z_r0_0_7, z_r0_0_8, z_r0_0_9, z_r0_0_10, z_r0_1_1, z_r0_2_1] at p0v17
    try simp only [z_r0_0, z_r0_1, z_r0_2, z_r1_1, z_r2_1, z_r4_1, z_r0_0_6, z_r0_0_7, z_r0_0_8, z_r0_0_9, z_r0_0_10, z_r0_1_1, z_r0_2_1] at p1v17
    try simp only [k0_r1_0, k0_r2_0, k0_r0_0_0, e25] at p0v17
    try have q0v17 := congrArg Int32.toInt p0v17
    try simp only [k0_r1_0, k0_r2_0, k0_r0_0_0, e25] at p1v17
    try have q1v17 := congrArg Int32.toInt p1v17
    have hbg := p0v17.2.2 (by omega) (by omega); (try rw [e25] at hbg); have hbz := p1v17
    refine z_iconst C (z := 1) rfl rfl rfl (fun x26 ex26 => ?_)
    refine k_istore C (lw := [(5, .int x26), (0, .ref r0), (1, .ref r1), (2, .ref r2), (3, .int n3), (4, .ref r4)]) rfl rfl (Nat.le_of_ble_eq_true rfl) rfl ?_
    refine z_iconst C (z := 0) rfl rfl rfl (fun x27 ex27 => ?_)
    have J28 : ∀ (nn29 : Nat) (I30 : IT) (L31 : LT) (x32 : Int32) (x33 : Int32) (x38 : Int32) (x42 : Int32) (x46 : Int32), (MN (41 - x33.toInt) nn29) → (IX A T I30) → (Chg (SL [r4, r4_1, r0_1, r0_1_1, r0_2, r0_2_1]) T [(3, 0)] I18 L19 I30 L31) → (0 ≤ x33.toInt) → (x33.toInt ≤ 41) → (I30 r4 0 = x38) → (0 ≤ x38.toInt) → (x38.toInt ≤ 40) → (I30 r1 0 = x42) → (0 ≤ x42.toInt) → (x42.toInt ≤ 40) → (I30 r2 0 = x46) → (0 ≤ x46.toInt) → (x46.toInt ≤ 40) → (VRX I30 r4_1 w_r0_0_0.toInt (w_r1_0.toInt + w_r2_0.toInt - 2 * n3.toInt) (OVS (NF I r1_1) (NF I r2_1) w_r1_0.toInt w_r2_0.toInt n3.toInt x33.toNatClampNeg)) → (x38.toInt = (w_r1_0.toInt + w_r2_0.toInt - 2 * n3.toInt)) → (x32.toInt = BNI n3.toInt x33.toNatClampNeg) → (0 ≤ x32.toInt ∧ x32.toInt ≤ 70) → (x33.toInt ≤ n3.toInt + 1) → (x42.toInt = w_r1_0.toInt) → (x46.toInt = w_r2_0.toInt) → V 64 [(0, .ref r0), (1, .ref r1), (2, .ref r2), (3, .int n3), (4, .ref r4), (5, .int x32), (6, .int x33)] [] (T, N, I30, L31, R) 0 0 := by
      intro nn29
      induction nn29 using Nat.strongRecOn with
      | _ nn29 ihJ28 =>
        intro I30 L31 x32 x33 x38 x42 x46 hmnn29 hI37 S36 b34 b35 e39 b40 b41 e43 b44 b45 e47 b48 b49 ff64_0 ff64_1 ff64_2 ff64_3 ff64_4 ff64_5 ff64_6
        have gx32 := rg x32
        have gx33 := rg x33
        have gx38 := rg x38
        have gx42 := rg x42
        have gx46 := rg x46
        have e57 := Chg.k S36 T_r0_0 (by decide) (by decide) e23
        refine k_iload C rfl rfl rfl ?_
        refine k_iload_n C rfl rfl rfl ?_
        refine b_icmp_gt C (t := 149) rfl rfl rfl (fun c58 => ?_) (fun c58 => ?_)
        · skip
          refine z_iconst C (z := 1) rfl rfl rfl (fun x59 ex59 => ?_)
          exact k_iret C rfl (Or.inr ⟨rfl, z01 (by omega) (by omega)⟩) (Nat.le_of_ble_eq_true rfl) (Nat.le_of_ble_eq_true rfl) ⟨_, _, _, rfl, rfl, by omega, by omega, by (try simp only [z_r0_0, z_r0_1, z_r0_2, z_r1_1, z_r2_1, z_r4_1, z_r0_0_6, z_r0_0_7, z_r0_0_8, z_r0_0_9, z_r0_0_10, z_r0_1_1, z_r0_2_1]); intro h; exfalso; omega, by (try simp only [z_r0_0, z_r0_1, z_r0_2, z_r1_1, z_r2_1, z_r4_1, z_r0_0_6, z_r0_0_7, z_r0_0_8, z_r0_0_9, z_r0_0_10, z_r0_1_1, z_r0_2_1]); simp only [k0_r1_0, k0_r2_0]; intro _; omega, by (try simp only [z_r0_0, z_r0_1, z_r0_2, z_r1_1, z_r2_1, z_r4_1, z_r0_0_6, z_r0_0_7, z_r0_0_8, z_r0_0_9, z_r0_0_10, z_r0_1_1, z_r0_2_1]); intro _; rw [e39]; simp only [k0_r1_0, k0_r2_0]; omega, by (try simp only [z_r0_0, z_r0_1, z_r0_2, z_r1_1, z_r2_1, z_r4_1, z_r0_0_6, z_r0_0_7, z_r0_0_8, z_r0_0_9, z_r0_0_10, z_r0_1_1, z_r0_2_1]); intro _; simp only [k0_r1_0, k0_r2_0, k0_r0_0_0]; have e9 : n3.toNatClampNeg + 1 = x33.toNatClampNeg := (by have h9 := ncz (x := x33) (by omega); have h8 := ncz (x := n3) (by omega); omega); rw [e9]; exact ff64_0, hI37, (by (try simp only [z_r0_0, z_r0_1, z_r0_2, z_r1_1, z_r2_1, z_r4_1, z_r0_0_6, z_r0_0_7, z_r0_0_8, z_r0_0_9, z_r0_0_10, z_r0_1_1, z_r0_2_1]); exact (Chg.cons (Chg.up S20 (List.forall_mem_cons.mpr ⟨List.mem_of_getElem? (i := 0) rfl, List.forall_mem_cons.mpr ⟨List.mem_of_getElem? (i := 1) rfl, fun _ h => nomatch h⟩⟩)) (Chg.mono S36 (by decide)) (by decide)))⟩
        refine k_aload_n C rfl rfl rfl ?_
        refine k_aload_n C rfl rfl rfl ?_
        refine k_iload_n C rfl rfl rfl ?_
        refine k_iload C rfl rfl rfl ?_
        refine z_isub C rfl rfl ⟨by omega, by omega⟩ (fun x60 ex60 => ?_)
        refine k_iload C rfl rfl rfl ?_
        refine k_aload_n C rfl rfl rfl ?_
        refine g_R C rfl rfl rfl T_r0 rfl R_r0_1 ?_
        have hko := e43; have hkp := e57; have hqo := (Chg.at ((Chg.cons (Chg.up S20 (List.forall_mem_cons.mpr ⟨List.mem_of_getElem? (i := 0) rfl, List.forall_mem_cons.mpr ⟨List.mem_of_getElem? (i := 1) rfl, fun _ h => nomatch h⟩⟩)) (Chg.mono S36 (by decide)) (by decide)) : Chg (SL [r4, r4_1, r0_1, r0_1_1, r0_2, r0_2_1]) T [(3, 0)] I L I30 L31) (nm_6 (t_nq T_r1_1 T_r4 (by decide)) (by first | exact nb_r1_r4 | exact fun e => nb_r1_r4 e.symm) (t_nq T_r1_1 T_r0_1 (by decide)) (by first | exact nb_r1_r0_1 | exact fun e => nb_r1_r0_1 e.symm) (t_nq T_r1_1 T_r0_2 (by decide)) (by first | exact nb_r1_r0_2 | exact fun e => nb_r1_r0_2 e.symm))); have hux := x60; have hu82 := ncz (x := x60) (by omega)
        refine c_VV C (s_X0_differentiate_x hS hI37 H_r0 H_r1 (by omega) (by omega) (by omega) (by omega) (hs_GF hS H_r0_1) hU hp4 (by omega) (by rw [e43]; omega) (by rw [z_r1_1, z_r0_0, e43, e57]; exact BNX.c hp10 (Chg.at ((Chg.cons (Chg.up S20 (List.forall_mem_cons.mpr ⟨List.mem_of_getElem? (i := 0) rfl, List.forall_mem_cons.mpr ⟨List.mem_of_getElem? (i := 1) rfl, fun _ h => nomatch h⟩⟩)) (Chg.mono S36 (by decide)) (by decide)) : Chg (SL [r4, r4_1, r0_1, r0_1_1, r0_2, r0_2_1]) T [(3, 0)] I L I30 L31) (nm_6 (t_nq T_r1_1 T_r4 (by decide)) (by first | exact nb_r1_r4 | exact fun e => nb_r1_r4 e.symm) (t_nq T_r1_1 T_r0_1 (by decide)) (by first | exact nb_r1_r0_1 | exact fun e => nb_r1_r0_1 e.symm) (t_nq T_r1_1 T_r0_2 (by decide)) (by first | exact nb_r1_r0_2 | exact fun e => nb_r1_r0_2 e.symm))) (by omega))) rfl rfl rfl rfl rfl ⟨_, rfl, rfl, T_r0, Nat.le_of_ble_eq_true rfl⟩ rfl rfl (Nat.le_of_ble_eq_true rfl) (Nat.le_of_ble_eq_true rfl) (Nat.le_of_ble_eq_true rfl) ?_
        rintro I62 L63 ⟨p0v61, p1v61, hI62, S64⟩
        try simp only [z_r0_0, z_r0_1, z_r0_2, z_r1_1, z_r2_1, z_r4_1, z_r0_0_6, z_r0_0_7, z_r0_0_8, z_r0_0_9, z_r0_0_10, z_r0_1_1, z_r0_2_1] at S64
        have e65 := Chg.k S64 T_r0_0 (by decide) (by decide) e57
        have e66 := (congrFun (Chg.at S64 (nm_2 (by first | exact hp2 | exact fun e => hp2 e.symm) (t_nq T_r4 T_r0_1_1 (by decide)))) 0).trans e39
        have e67 := (congrFun (Chg.at S64 (nm_2 (by first | exact hp4 | exact fun e => hp4 e.symm) (t_nq T_r1 T_r0_1_1 (by decide)))) 0).trans e43
        have e68 := (congrFun (Chg.at S64 (nm_2 (by first | exact hp6 | exact fun e => hp6 e.symm) (t_nq T_r2 T_r0_1_1 (by decide)))) 0).trans e47
        obtain ⟨x69, e70⟩ : ∃ x, I62 r0_1 0 = x := ⟨_, rfl⟩
        have gx69 := rg x69
        have ox69 := IX.deg hI62 A_r0_1 T_r0_1 e70
        try simp only [z_r0_0, z_r0_1, z_r0_2, z_r1_1, z_r2_1, z_r4_1, z_r0_0_6, z_r0_0_7, z_r0_0_8, z_r0_0_9, z_r0_0_10, z_r0_1_1, z_r0_2_1] at p0v61
        try simp only [z_r0_0, z_r0_1, z_r0_2, z_r1_1, z_r2_1, z_r4_1, z_r0_0_6, z_r0_0_7, z_r0_0_8, z_r0_0_9, z_r0_0_10, z_r0_1_1, z_r0_2_1] at p1v61
        try simp only [e57, e39, e43, e47, e70] at p0v61
        try have q0v61 := congrArg Int32.toInt p0v61
        try simp only [e57, e39, e43, e47, e70] at p1v61
        try have q1v61 := congrArg Int32.toInt p1v61
        have hL := p1v61; (try simp only [hko, hkp] at hL); have hL := VRX.df (D := w_r1_0.toInt) (a := n3.toInt.toNat - x33.toNatClampNeg) (c := x33.toNatClampNeg) (E := w_r1_0.toInt - n3.toInt) hL hqo (by omega) (by have h9 := ncz (x := x33) (by omega); omega) rfl (by omega); have hLd := p0v61; (try rw [e70] at hLd); (try rw [hko] at hLd); have h4a := VRX.eq ff64_0 (Chg.at S64 (nm_2 (t_nq T_r4_1 T_r0_1 (by decide)) nb_r4_r0_1))
        refine k_aload_n C rfl rfl rfl ?_
        refine k_aload_n C rfl rfl rfl ?_
        refine k_iload C rfl rfl rfl ?_
        refine k_iload_n C rfl rfl rfl ?_
        refine k_iload C rfl rfl rfl ?_
        refine z_isub C rfl rfl ⟨by omega, by omega⟩ (fun x71 ex71 => ?_)
        refine k_aload_n C rfl rfl rfl ?_
        refine g_R C rfl rfl rfl T_r0 rfl R_r0_2 ?_
        have hko2 := e68; have hkp2 := e65; have hqo2 := (Chg.at ((Chg.cons (Chg.up S20 (List.forall_mem_cons.mpr ⟨List.mem_of_getElem? (i := 0) rfl, List.forall_mem_cons.mpr ⟨List.mem_of_getElem? (i := 1) rfl, fun _ h => nomatch h⟩⟩)) (Chg.cons S36 (Chg.mono (Chg.up S64 (List.forall_mem_cons.mpr ⟨List.mem_of_getElem? (i := 2) rfl, List.forall_mem_cons.mpr ⟨List.mem_of_getElem? (i := 3) rfl, fun _ h => nomatch h⟩⟩)) (by decide)) (by decide)) (by decide)) : Chg (SL [r4, r4_1, r0_1, r0_1_1, r0_2, r0_2_1]) T [(3, 0)] I L I62 L63) (nm_6 (t_nq T_r2_1 T_r4 (by decide)) (by first | exact nb_r2_r4 | exact fun e => nb_r2_r4 e.symm) (t_nq T_r2_1 T_r0_1 (by decide)) (by first | exact nb_r2_r0_1 | exact fun e => nb_r2_r0_1 e.symm) (t_nq T_r2_1 T_r0_2 (by decide)) (by first | exact nb_r2_r0_2 | exact fun e => nb_r2_r0_2 e.symm))); have hu97 := ncz (x := x71) (by omega)
        refine c_VV C (s_X0_differentiate_x hS hI62 H_r0 H_r2 (by omega) (by omega) (by omega) (by omega) (hs_GF hS H_r0_2) hU hp7 (by omega) (by rw [e68]; omega) (by rw [z_r2_1, z_r0_0, e68, e65]; exact BNX.c hp11 (Chg.at ((Chg.cons (Chg.up S20 (List.forall_mem_cons.mpr ⟨List.mem_of_getElem? (i := 0) rfl, List.forall_mem_cons.mpr ⟨List.mem_of_getElem? (i := 1) rfl, fun _ h => nomatch h⟩⟩)) (Chg.cons S36 (Chg.mono (Chg.up S64 (List.forall_mem_cons.mpr ⟨List.mem_of_getElem? (i := 2) rfl, List.forall_mem_cons.mpr ⟨List.mem_of_getElem? (i := 3) rfl, fun _ h => nomatch h⟩⟩)) (by decide)) (by decide)) (by decide)) : Chg (SL [r4, r4_1, r0_1, r0_1_1, r0_2, r0_2_1]) T [(3, 0)] I L I62 L63) (nm_6 (t_nq T_r2_1 T_r4 (by decide)) (by first | exact nb_r2_r4 | exact fun e => nb_r2_r4 e.symm) (t_nq T_r2_1 T_r0_1 (by decide)) (by first | exact nb_r2_r0_1 | exact fun e => nb_r2_r0_1 e.symm) (t_nq T_r2_1 T_r0_2 (by decide)) (by first | exact nb_r2_r0_2 | exact fun e => nb_r2_r0_2 e.symm))) (by omega))) rfl rfl rfl rfl rfl ⟨_, rfl, rfl, T_r0, Nat.le_of_ble_eq_true rfl⟩ rfl rfl (Nat.le_of_ble_eq_true rfl) (Nat.le_of_ble_eq_true rfl) (Nat.le_of_ble_eq_true rfl) ?_
        rintro I73 L74 ⟨p0v72, p1v72, hI73, S75⟩
        try simp only [z_r0_0, z_r0_1, z_r0_2, z_r1_1, z_r2_1, z_r4_1, z_r0_0_6, z_r0_0_7, z_r0_0_8, z_r0_0_9, z_r0_0_10, z_r0_1_1, z_r0_2_1] at S75
        have e76 := Chg.k S75 T_r0_0 (by decide) (by decide) e65
        have e77 := (congrFun (Chg.at S75 (nm_2 (by first | exact hp3 | exact fun e => hp3 e.symm) (t_nq T_r4 T_r0_2_1 (by decide)))) 0).trans e66
        have e78 := (congrFun (Chg.at S75 (nm_2 (by first | exact hp5 | exact fun e => hp5 e.symm) (t_nq T_r1 T_r0_2_1 (by decide)))) 0).trans e67
        have e79 := (congrFun (Chg.at S75 (nm_2 (by first | exact hp7 | exact fun e => hp7 e.symm) (t_nq T_r2 T_r0_2_1 (by decide)))) 0).trans e68
        have e80 := (congrFun (Chg.at S75 (nm_2 (by first | exact hp8 | exact fun e => hp8 e.symm) (t_nq T_r0_1 T_r0_2_1 (by decide)))) 0).trans e70
        obtain ⟨x81, e82⟩ : ∃ x, I73 r0_2 0 = x := ⟨_, rfl⟩
        have gx81 := rg x81
        have ox81 := IX.deg hI73 A_r0_2 T_r0_2 e82
        try simp only [z_r0_0, z_r0_1, z_r0_2, z_r1_1, z_r2_1, z_r4_1, z_r0_0_6, z_r0_0_7, z_r0_0_8, z_r0_0_9, z_r0_0_10, z_r0_1_1, z_r0_2_1] at p0v72
        try simp only [z_r0_0, z_r0_1, z_r0_2, z_r1_1, z_r2_1, z_r4_1, z_r0_0_6, z_r0_0_7, z_r0_0_8, z_r0_0_9, z_r0_0_10, z_r0_1_1, z_r0_2_1] at p1v72
        try simp only [e65, e66, e67, e68, e70, e82] at p0v72
        try have q0v72 := congrArg Int32.toInt p0v72
        try simp only [e65, e66, e67, e68, e70, e82] at p1v72
        try have q1v72 := congrArg Int32.toInt p1v72
        have hR := p1v72; (try simp only [hko2, hkp2] at hR); have hR := VRX.df (D := w_r2_0.toInt) (a := x33.toNatClampNeg) (c := n3.toInt.toNat - x33.toNatClampNeg) (E := w_r2_0.toInt - n3.toInt) hR hqo2 (by omega) rfl (by have h9 := ncz (x := x33) (by omega); omega) (by omega); have hRd := p0v72; (try rw [e82] at hRd); (try rw [hko2] at hRd); have h4b := VRX.eq h4a (Chg.at S75 (nm_2 (t_nq T_r4_1 T_r0_2 (by decide)) nb_r4_r0_2)); have hL2 := VRX.eq hL (Chg.at S75 (nm_2 (t_nq T_r0_1_1 T_r0_2 (by decide)) nb_r0_1_r0_2))
        refine k_aload_n C rfl rfl rfl ?_
        refine k_aload_n C rfl rfl rfl ?_
        refine g_R C rfl rfl rfl T_r0 rfl R_r0_1 ?_
        refine k_aload_n C rfl rfl rfl ?_
        refine g_R C rfl rfl rfl T_r0 rfl R_r0_2 ?_
        refine k_iload C rfl rfl rfl ?_
        refine z_iconst C (z := 1) rfl rfl rfl (fun x83 ex83 => ?_)
        refine z_iand1 C rfl rfl (by omega) (by omega) (fun x84 ex84 => ?_)
        have gx84 := rg x84
        have hpar := ex84
        refine b_if_ne C (t := 121) rfl rfl rfl (fun c85 => ?_) (fun c85 => ?_)
        · skip
          refine k_iload C rfl rfl rfl ?_
          refine z_ineg C rfl rfl (by omega) (fun x86 ex86 => ?_)
          refine k_aload C rfl rfl rfl ?_
          have hk4 := e77; have hk01 := e80; have hk02 := e82; have hkp3 := e76
          refine c_VV C (s_X0_addProduct_x hS hI73 H_r0 (hs_GF hS H_r0_1) (hs_GF hS H_r0_2) (by omega) (by omega) H_r4 hU (Ne.symm hp2) (Ne.symm hp3) (by rw [e80, e82, e77]; omega) (by rw [z_r0_1_1, z_r0_0, e80, e76]; exact BNX.of hL2 (by omega)) (by rw [z_r0_2_1, z_r0_0, e82, e76]; exact BNX.of hR (by omega)) (by rw [z_r4_1, z_r0_0, e77, e76]; exact BNX.of h4b (by omega))) rfl rfl rfl rfl rfl ⟨_, rfl, rfl, T_r0, Nat.le_of_ble_eq_true rfl⟩ rfl rfl (Nat.le_of_ble_eq_true rfl) (Nat.le_of_ble_eq_true rfl) (Nat.le_of_ble_eq_true rfl) ?_
          rintro I88 L89 ⟨p0v87, hI88, S90⟩
          try simp only [z_r0_0, z_r0_1, z_r0_2, z_r1_1, z_r2_1, z_r4_1, z_r0_0_6, z_r0_0_7, z_r0_0_8, z_r0_0_9, z_r0_0_10, z_r0_1_1, z_r0_2_1] at S90
          have e91 := Chg.k S90 T_r0_0 (by decide) (by decide) e76
          have e92 := Chg.k S90 T_r4 (by decide) (by decide) e77
          have e93 := Chg.k S90 T_r1 (by decide) (by decide) e78
          have e94 := Chg.k S90 T_r2 (by decide) (by decide) e79
          have e95 := Chg.k S90 T_r0_1 (by decide) (by decide) e80
          have e96 := Chg.k S90 T_r0_2 (by decide) (by decide) e82
          try simp only [z_r0_0, z_r0_1, z_r0_2, z_r1_1, z_r2_1, z_r4_1, z_r0_0_6, z_r0_0_7, z_r0_0_8, z_r0_0_9, z_r0_0_10, z_r0_1_1, z_r0_2_1] at p0v87
          try simp only [e76, e77, e78, e79, e80, e82] at p0v87
          try have q0v87 := congrArg Int32.toInt p0v87
          have hap := p0v87; (try simp only [hk4, hk01, hk02, hkp3] at hap)
          refine k_iload C rfl rfl rfl ?_
          refine k_iload_n C rfl rfl rfl ?_
          refine k_iload C rfl rfl rfl ?_
          refine z_isub C rfl rfl ⟨by omega, by omega⟩ (fun x97 ex97 => ?_)
          refine z_imulE C rfl rfl (fun x98 ex98 => ?_)
          have gx98 := rg x98
          have m135 := ex98
          refine k_iload C rfl rfl rfl ?_
          refine z_iconst C (z := 1) rfl rfl rfl (fun x99 ex99 => ?_)
          refine z_iadd C rfl rfl ⟨by omega, by omega⟩ (fun x100 ex100 => ?_)
          refine z_idivE C rfl rfl (by omega) (fun x101 ex101 => ?_)
          have gx101 := rg x101
          have m140 := ex101
          refine k_istore C (lw := [(5, .int x101), (0, .ref r0), (1, .ref r1), (2, .ref r2), (3, .int n3), (4, .ref r4), (6, .int x33)]) rfl rfl (Nat.le_of_ble_eq_true rfl) rfl ?_
          refine z_iinc C (z := 1) (lw := fun x102 => [(6, .int x102), (5, .int x101), (0, .ref r0), (1, .ref r1), (2, .ref r2), (3, .int n3), (4, .ref r4)]) rfl rfl rfl (Nat.le_of_ble_eq_true rfl) rfl ⟨by omega, by omega⟩ (fun _ => rfl) (fun x102 ex102 => ?_)
          show V 146 [(6, .int x102), (5, .int x101), (0, .ref r0), (1, .ref r1), (2, .ref r2), (3, .int n3), (4, .ref r4)] _ _ _ _
          refine k_goto C (pc2 := 64) rfl rfl ?_
          refine k_sub S [(0, .ref r0), (1, .ref r1), (2, .ref r2), (3, .int n3), (4, .ref r4), (5, .int x101), (6, .int x102)] (List.forall_mem_cons.mpr ⟨List.mem_of_getElem? (i := 2) rfl, List.forall_mem_cons.mpr ⟨List.mem_of_getElem? (i := 3) rfl, List.forall_mem_cons.mpr ⟨List.mem_of_getElem? (i := 4) rfl, List.forall_mem_cons.mpr ⟨List.mem_of_getElem? (i := 5) rfl, List.forall_mem_cons.mpr ⟨List.mem_of_getElem? (i := 6) rfl, List.forall_mem_cons.mpr ⟨List.mem_of_getElem? (i := 1) rfl, List.forall_mem_cons.mpr ⟨List.mem_of_getElem? (i := 0) rfl, fun _ h => nomatch h⟩⟩⟩⟩⟩⟩⟩) ?_
          exact ihJ28 _ (MN.lt hmnn29 (by omega) (by omega)) I88 L89 x101 x102 x38 x42 x46 rfl hI88 (Chg.cons S36 (Chg.cons (Chg.up S64 (List.forall_mem_cons.mpr ⟨List.mem_of_getElem? (i := 2) rfl, List.forall_mem_cons.mpr ⟨List.mem_of_getElem? (i := 3) rfl, fun _ h => nomatch h⟩⟩)) (Chg.cons (Chg.up S75 (List.forall_mem_cons.mpr ⟨List.mem_of_getElem? (i := 4) rfl, List.forall_mem_cons.mpr ⟨List.mem_of_getElem? (i := 5) rfl, fun _ h => nomatch h⟩⟩)) (Chg.mono (Chg.up S90 (List.forall_mem_cons.mpr ⟨List.mem_of_getElem? (i := 1) rfl, fun _ h => nomatch h⟩)) (by decide)) (by decide)) (by decide)) (by decide)) (by omega) (by omega) e92 (by omega) (by omega) e93 (by omega) (by omega) e94 (by omega) (by omega) (by exact OVX.s h4b hap (VRX.pc hL2 (by omega)) (VRX.pc hR (by omega)) (by first | exact SGI.y hpar (by omega) (by omega) ff64_2 | exact SGI.n hpar (by omega) (by omega) (by omega)) (by omega) (by omega) (by omega) (by omega) (by omega)) (by omega) (by exact BNI.s ff64_2 m135 (by omega) m140 (by omega) (by omega) (by omega) (by omega) (by omega)) (by have h9 := BNI.s (i' := x102) ff64_2 m135 (by omega) m140 (by omega) (by omega) (by omega) (by omega) (by omega); rw [h9]; exact BNI.b (by omega) (by omega) (by have h8 := ncz (x := x102) (by omega); omega)) (by omega) (by omega) (by omega)
        refine k_iload C rfl rfl rfl ?_
        refine k_goto C (pc2 := 124) rfl rfl ?_
        refine k_aload C rfl rfl rfl ?_
        have hk4 := e77; have hk01 := e80; have hk02 := e82; have hkp3 := e76
        refine c_VV C (s_X0_addProduct_x hS hI73 H_r0 (hs_GF hS H_r0_1) (hs_GF hS H_r0_2) (by omega) (by omega) H_r4 hU (Ne.symm hp2) (Ne.symm hp3) (by rw [e80, e82, e77]; omega) (by rw [z_r0_1_1, z_r0_0, e80, e76]; exact BNX.of hL2 (by omega)) (by rw [z_r0_2_1, z_r0_0, e82, e76]; exact BNX.of hR (by omega)) (by rw [z_r4_1, z_r0_0, e77, e76]; exact BNX.of h4b (by omega))) rfl rfl rfl rfl rfl ⟨_, rfl, rfl, T_r0, Nat.le_of_ble_eq_true rfl⟩ rfl rfl (Nat.le_of_ble_eq_true rfl) (Nat.le_of_ble_eq_true rfl) (Nat.le_of_ble_eq_true rfl) ?_
        rintro I104 L105 ⟨p0v103, hI104, S106⟩
        try simp only [z_r0_0, z_r0_1, z_r0_2, z_r1_1, z_r2_1, z_r4_1, z_r0_0_6, z_r0_0_7, z_r0_0_8, z_r0_0_9, z_r0_0_10, z_r0_1_1, z_r0_2_1] at S106
        have e107 := Chg.k S106 T_r0_0 (by decide) (by decide) e76
        have e108 := Chg.k S106 T_r4 (by decide) (by decide) e77
        have e109 := Chg.k S106 T_r1 (by decide) (by decide) e78
        have e110 := Chg.k S106 T_r2 (by decide) (by decide) e79
        have e111 := Chg.k S106 T_r0_1 (by decide) (by decide) e80
        have e112 := Chg.k S106 T_r0_2 (by decide) (by decide) e82
        try simp only [z_r0_0, z_r0_1, z_r0_2, z_r1_1, z_r2_1, z_r4_1, z_r0_0_6, z_r0_0_7, z_r0_0_8, z_r0_0_9, z_r0_0_10, z_r0_1_1, z_r0_2_1] at p0v103
        try simp only [e76, e77, e78, e79, e80, e82] at p0v103
        try have q0v103 := congrArg Int32.toInt p0v103
        have hap := p0v103; (try simp only [hk4, hk01, hk02, hkp3] at hap)
        refine k_iload C rfl rfl rfl ?_
        refine k_iload_n C rfl rfl rfl ?_
        refine k_iload C rfl rfl rfl ?_
        refine z_isub C rfl rfl ⟨by omega, by omega⟩ (fun x113 ex113 => ?_)
        refine z_imulE C rfl rfl (fun x114 ex114 => ?_)
        have gx114 := rg x114
        have m135 := ex114
        refine k_iload C rfl rfl rfl ?_
        refine z_iconst C (z := 1) rfl rfl rfl (fun x115 ex115 => ?_)
        refine z_iadd C rfl rfl ⟨by omega, by omega⟩ (fun x116 ex116 => ?_)
        refine z_idivE C rfl rfl (by omega) (fun x117 ex117 => ?_)
        have gx117 := rg x117
        have m140 := ex117
        refine k_istore C (lw := [(5, .int x117), (0, .ref r0), (1, .ref r1), (2, .ref r2), (3, .int n3), (4, .ref r4), (6, .int x33)]) rfl rfl (Nat.le_of_ble_eq_true rfl) rfl ?_
        refine z_iinc C (z := 1) (lw := fun x118 => [(6, .int x118), (5, .int x117), (0, .ref r0), (1, .ref r1), (2, .ref r2), (3, .int n3), (4, .ref r4)]) rfl rfl rfl (Nat.le_of_ble_eq_true rfl) rfl ⟨by omega, by omega⟩ (fun _ => rfl) (fun x118 ex118 => ?_)
        show V 146 [(6, .int x118), (5, .int x117), (0, .ref r0), (1, .ref r1), (2, .ref r2), (3, .int n3), (4, .ref r4)] _ _ _ _
        refine k_goto C (pc2 := 64) rfl rfl ?_
        refine k_sub S [(0, .ref r0), (1, .ref r1), (2, .ref r2), (3, .int n3), (4, .ref r4), (5, .int x117), (6, .int x118)] (List.forall_mem_cons.mpr ⟨List.mem_of_getElem? (i := 2) rfl, List.forall_mem_cons.mpr ⟨List.mem_of_getElem? (i := 3) rfl, List.forall_mem_cons.mpr ⟨List.mem_of_getElem? (i := 4) rfl, List.forall_mem_cons.mpr ⟨List.mem_of_getElem? (i := 5) rfl, List.forall_mem_cons.mpr ⟨List.mem_of_getElem? (i := 6) rfl, List.forall_mem_cons.mpr ⟨List.mem_of_getElem? (i := 1) rfl, List.forall_mem_cons.mpr ⟨List.mem_of_getElem? (i := 0) rfl, fun _ h => nomatch h⟩⟩⟩⟩⟩⟩⟩) ?_
        exact ihJ28 _ (MN.lt hmnn29 (by omega) (by omega)) I104 L105 x117 x118 x38 x42 x46 rfl hI104 (Chg.cons S36 (Chg.cons (Chg.up S64 (List.forall_mem_cons.mpr ⟨List.mem_of_getElem? (i := 2) rfl, List.forall_mem_cons.mpr ⟨List.mem_of_getElem? (i := 3) rfl, fun _ h => nomatch h⟩⟩)) (Chg.cons (Chg.up S75 (List.forall_mem_cons.mpr ⟨List.mem_of_getElem? (i := 4) rfl, List.forall_mem_cons.mpr ⟨List.mem_of_getElem? (i := 5) rfl, fun _ h => nomatch h⟩⟩)) (Chg.mono (Chg.up S106 (List.forall_mem_cons.mpr ⟨List.mem_of_getElem? (i := 1) rfl, fun _ h => nomatch h⟩)) (by decide)) (by decide)) (by decide)) (by decide)) (by omega) (by omega) e108 (by omega) (by omega) e109 (by omega) (by omega) e110 (by omega) (by omega) (by exact OVX.s h4b hap (VRX.pc hL2 (by omega)) (VRX.pc hR (by omega)) (by first | exact SGI.y hpar (by omega) (by omega) ff64_2 | exact SGI.n hpar (by omega) (by omega) (by omega)) (by omega) (by omega) (by omega) (by omega) (by omega)) (by omega) (by exact BNI.s ff64_2 m135 (by omega) m140 (by omega) (by omega) (by omega) (by omega) (by omega)) (by have h9 := BNI.s (i' := x118) ff64_2 m135 (by omega) m140 (by omega) (by omega) (by omega) (by omega) (by omega); rw [h9]; exact BNI.b (by omega) (by omega) (by have h8 := ncz (x := x118) (by omega); omega)) (by omega) (by omega) (by omega)
    refine k_istore C (lw := [(6, .int x27), (5, .int x26), (0, .ref r0), (1, .ref r1), (2, .ref r2), (3, .int n3), (4, .ref r4)]) rfl rfl (Nat.le_of_ble_eq_true rfl) rfl ?_
    refine k_sub S [(0, .ref r0), (1, .ref r1), (2, .ref r2), (3, .int n3), (4, .ref r4), (5, .int x26), (6, .int x27)] (List.forall_mem_cons.mpr ⟨List.mem_of_getElem? (i := 2) rfl, List.forall_mem_cons.mpr ⟨List.mem_of_getElem? (i := 3) rfl, List.forall_mem_cons.mpr ⟨List.mem_of_getElem? (i := 4) rfl, List.forall_mem_cons.mpr ⟨List.mem_of_getElem? (i := 5) rfl, List.forall_mem_cons.mpr ⟨List.mem_of_getElem? (i := 6) rfl, List.forall_mem_cons.mpr ⟨List.mem_of_getElem? (i := 1) rfl, List.forall_mem_cons.mpr ⟨List.mem_of_getElem? (i := 0) rfl, fun _ h => nomatch h⟩⟩⟩⟩⟩⟩⟩) ?_
    exact J28 _ I18 L19 x26 x27 x24 w_r1_0 w_r2_0 rfl hI18 Chg.rf (by omega) (by omega) e25 (by omega) (by omega) e21 (by omega) (by omega) e22 (by omega) (by omega) (by exact VRX.cn hbz (by omega) (by omega) (by omega)) (by omega) (by rw [nck (x := x27) (n := 0) (by omega)]; show _ = (1 : Int); omega) (by omega) (by omega) (by omega) (by omega)
  refine z_iconst C (z := 0) rfl rfl rfl (fun x119 ex119 => ?_)
  exact k_iret C rfl (Or.inr ⟨rfl, z01 (by omega) (by omega)⟩) (Nat.le_of_ble_eq_true rfl) (Nat.le_of_ble_eq_true rfl) ⟨_, _, _, rfl, rfl, by omega, by omega, by (try simp only [z_r0_0, z_r0_1, z_r0_2, z_r1_1, z_r2_1, z_r4_1, z_r0_0_6, z_r0_0_7, z_r0_0_8, z_r0_0_9, z_r0_0_10, z_r0_1_1, z_r0_2_1]); simp only [k0_r1_0, k0_r2_0]; intro _; omega, by (try simp only [z_r0_0, z_r0_1, z_r0_2, z_r1_1, z_r2_1, z_r4_1, z_r0_0_6, z_r0_0_7, z_r0_0_8, z_r0_0_9, z_r0_0_10, z_r0_1_1, z_r0_2_1]); intro h; exfalso; omega, by (try simp only [z_r0_0, z_r0_1, z_r0_2, z_r1_1, z_r2_1, z_r4_1, z_r0_0_6, z_r0_0_7, z_r0_0_8, z_r0_0_9, z_r0_0_10, z_r0_1_1, z_r0_2_1]); intro h; exfalso; omega, by (try simp only [z_r0_0, z_r0_1, z_r0_2, z_r1_1, z_r2_1, z_r4_1, z_r0_0_6, z_r0_0_7, z_r0_0_8, z_r0_0_9, z_r0_0_10, z_r0_1_1, z_r0_2_1]); intro h; exfalso; omega, hI, (by (try simp only [z_r0_0, z_r0_1, z_r0_2, z_r1_1, z_r2_1, z_r4_1, z_r0_0_6, z_r0_0_7, z_r0_0_8, z_r0_0_9, z_r0_0_10, z_r0_1_1, z_r0_2_1]); exact Chg.rf)⟩

