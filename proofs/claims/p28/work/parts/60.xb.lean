/-! overlaps: exactly -/
/-- whole products told exactly -/
def LMX (w x y : Int64) : Prop := -9223372036854775808 ≤ x.toInt * y.toInt → x.toInt * y.toInt < 9223372036854775808 → w.toInt = x.toInt * y.toInt
def IMX (w x y : Int32) : Prop := -2147483648 ≤ x.toInt * y.toInt → x.toInt * y.toInt < 2147483648 → w.toInt = x.toInt * y.toInt
def IDX (w x y : Int32) : Prop := 0 ≤ x.toInt → 0 < y.toInt → w.toInt = x.toInt / y.toInt
section AutoB
variable {d : Nat} {q : mm_T} {mc ms : Nat} {Post : Po} {V : V_T} {pc pc2 : Nat} {lv : List (Nat × Value)} {r : List Value} {ck sk : Nat}
theorem z_lmulE (C : Cl d q mc ms Post V) {M : Mm} {x y : Int64} (hi : cdf q.2.2.2.2.2.2 pc = some (.lmul, 1)) (hp : pc + 1 = pc2) (h : ∀ w : Int64, LMX w x y → V pc2 lv (.long w :: r) M ck sk) : V pc lv (.long y :: .long x :: r) M ck sk := k_lmul C hi hp (h _ (fun h1 h2 => li_mul ⟨h1, h2⟩))
theorem z_imulE (C : Cl d q mc ms Post V) {M : Mm} {x y : Int32} (hi : cdf q.2.2.2.2.2.2 pc = some (.imul, 1)) (hp : pc + 1 = pc2) (h : ∀ w : Int32, IMX w x y → V pc2 lv (.int w :: r) M ck sk) : V pc lv (.int y :: .int x :: r) M ck sk := k_imul C hi hp (h _ (fun h1 h2 => ii_mul ⟨h1, h2⟩))
end AutoB
/-- a falling product of m factors -/
def FFP (n : Int) : Nat → Int
  | 0 => 1
  | m + 1 => FFP n m * (n - m)
theorem FFP.b {n : Int} (h40 : n ≤ 40) : ∀ m : Nat, (m : Int) ≤ n → 0 ≤ FFP n m ∧ FFP n m ≤ 40 ^ m
  | 0, _ => by show (0 : Int) ≤ 1 ∧ (1 : Int) ≤ 1; decide
  | m + 1, h => by
    have ih := FFP.b h40 m (by omega)
    show 0 ≤ FFP n m * (n - m) ∧ FFP n m * (n - m) ≤ 40 ^ (m + 1)
    rw [Int.pow_succ]
    exact ⟨Int.mul_nonneg ih.1 (by omega), Int.mul_le_mul ih.2 (by omega) (by omega) (Int.le_trans ih.1 ih.2)⟩
/-- a form differentiated -/
def DIF (f : Nat → Int) (D : Int) (a b j : Nat) : Int := f (j + b) * FFP (D - b - j) a * FFP ((j : Int) + b) b
theorem pw8 {e m : Nat} (h : e + m ≤ 8) : (40 : Int) ^ e * 40 ^ m ≤ 6553600000000 := by
  rw [← Int.pow_add]
  generalize e + m = k at h
  match k, h with
  | 0, _ => decide
  | 1, _ => decide
  | 2, _ => decide
  | 3, _ => decide
  | 4, _ => decide
  | 5, _ => decide
  | 6, _ => decide
  | 7, _ => decide
  | 8, _ => decide
theorem LTM.s {w t y : Int64} {z n : Int} {i i' : Int32} {e : Nat} (h : t.toInt = z * FFP n i.toNatClampNeg) (m : LMX w t y) (hy : y.toInt = n - i.toInt) (h0 : 0 ≤ i.toInt) (hi : i'.toInt = i.toInt + 1) (hz : 0 ≤ z) (hb : z ≤ 18 * 40 ^ e) (he : (e : Int) + i.toInt < 8) (hn : i.toInt < n) (h40 : n ≤ 40) : w.toInt = z * FFP n i'.toNatClampNeg := by
  have n0 := ncz h0
  have n1 := ncz (x := i') (by omega)
  have ei : i'.toNatClampNeg = i.toNatClampNeg + 1 := by omega
  have b := FFP.b h40 (i.toNatClampNeg + 1) (by omega)
  have es : z * FFP n (i.toNatClampNeg + 1) = t.toInt * y.toInt := by
    rw [h, hy]
    show z * (FFP n i.toNatClampNeg * (n - i.toNatClampNeg)) = _
    rw [Int.mul_assoc, n0]
  have g0 : 0 ≤ z * FFP n (i.toNatClampNeg + 1) := Int.mul_nonneg hz b.1
  have p1 : (0 : Int) ≤ 40 ^ e := Int.pow_nonneg (by decide)
  have g1 : z * FFP n (i.toNatClampNeg + 1) ≤ 18 * 40 ^ e * 40 ^ (i.toNatClampNeg + 1) := Int.mul_le_mul hb b.2 b.1 (by omega)
  have g2 := pw8 (e := e) (m := i.toNatClampNeg + 1) (by omega)
  have g3 : (18 : Int) * 40 ^ e * 40 ^ (i.toNatClampNeg + 1) = 18 * (40 ^ e * 40 ^ (i.toNatClampNeg + 1)) := Int.mul_assoc _ _ _
  rw [ei, es]
  exact m (by omega) (by omega)
theorem LTM.z {t : Int64} {z n : Int} {i : Int32} (h : t.toInt = z) (hi : i.toInt = 0) : t.toInt = z * FFP n i.toNatClampNeg := by
  rw [nck (x := i) (n := 0) hi]
  show t.toInt = z * 1
  omega
theorem LTM.b {z n : Int} {m : Nat} (h0 : 0 ≤ z) (h1 : z ≤ 18) (hn : (m : Int) ≤ n) (h40 : n ≤ 40) : 0 ≤ z * FFP n m ∧ z * FFP n m ≤ 18 * 40 ^ m := by
  have b := FFP.b h40 m hn
  exact ⟨Int.mul_nonneg h0 b.1, Int.mul_le_mul h1 b.2 b.1 (by decide)⟩
def DFL (I' : IT) (b' : Nat) (p : Int) (g : Nat → Int) (k : Int) : Prop := VRX I' b' p (k - 1) g
theorem DFL.z {I' : IT} {b' : Nat} {p k : Int} {g : Nat → Int} (h : k = 0) : DFL I' b' p g k := fun j hj => by omega
theorem DFL.s {I1 I2 : IT} {b' : Nat} {p : Int} {g : Nat → Int} {k k' v : Int32} {t : Int64} (h : DFL I1 b' p g k.toInt) (st : STD I1 I2 b' k v) (hv : v.toInt = t.toInt % p) (ht : t.toInt = g k.toNatClampNeg) (hp : 0 < p) (h0 : 0 ≤ k.toInt) (h1 : k.toInt < 41) (hk : k'.toInt = k.toInt + 1) : DFL I2 b' p g k'.toInt := fun j hj => by
  have n0 := ncz h0
  rw [st.1 h0 h1]
  by_cases q : j = k.toNatClampNeg
  · subst q
    rw [u2_s, hv, ht]
    exact ⟨Int.emod_nonneg _ (by omega), Int.emod_lt_of_pos _ hp, PmE.em _⟩
  · rw [u2_k q]; exact h j (by omega)
theorem DFL.e {I' : IT} {b' : Nat} {p k D : Int} {g : Nat → Int} (h : DFL I' b' p g k) (hk : D < k) : VRX I' b' p D g := fun j hj => h j (by omega)
/-- two forms multiplied: the numbers of the first n of the first one -/
def CVI (g : Nat → Int) (i : Nat) (j : Int) (m : Nat) : Int := if i ≤ m ∧ ((m - i : Nat) : Int) < j then g (m - i) else 0
def CVS (f g : Nat → Int) (E : Int) : Nat → Nat → Int
  | 0, _ => 0
  | n + 1, m => CVS f g E n m + f n * CVI g n (E + 1) m
theorem CVI.pe {p : Int} {g g' : Nat → Int} {i m : Nat} {j : Int} (h : ∀ k : Nat, (k : Int) < j → PmE p (g k) (g' k)) : PmE p (CVI g i j m) (CVI g' i j m) := by
  unfold CVI
  by_cases q : i ≤ m ∧ ((m - i : Nat) : Int) < j
  · rw [if_pos q, if_pos q]; exact h _ q.2
  · rw [if_neg q, if_neg q]; exact PmE.rf
theorem CVS.pe {p E : Int} {f f' g g' : Nat → Int} {m : Nat} : ∀ n, (∀ k, k < n → PmE p (f k) (f' k)) → (∀ k : Nat, (k : Int) ≤ E → PmE p (g k) (g' k)) → PmE p (CVS f g E n m) (CVS f' g' E n m)
  | 0, _, _ => PmE.rf
  | n + 1, hf, hg => (CVS.pe n (fun k hk => hf k (by omega)) hg).ad ((hf n (by omega)).ml (CVI.pe (fun k hk => hg k (by omega))))
theorem CVI.z {g : Nat → Int} {i m : Nat} {j : Int} (h : j ≤ 0) : CVI g i j m = 0 := if_neg (by omega)
theorem CVI.o {g : Nat → Int} {i m : Nat} {j j' : Int} (hj : 0 ≤ j) (e : j' = j + 1) (h : (m : Int) ≠ i + j) : CVI g i j' m = CVI g i j m := by
  unfold CVI
  by_cases q : i ≤ m ∧ ((m - i : Nat) : Int) < j
  · rw [if_pos q, if_pos (by omega)]
  · rw [if_neg q, if_neg (by omega)]
theorem CVI.n {g : Nat → Int} {i m : Nat} {j j' : Int} (hj : 0 ≤ j) (e : j' = j + 1) (h : (m : Int) = i + j) : CVI g i j m = 0 ∧ CVI g i j' m = g j.toNat := by
  unfold CVI
  rw [if_neg (by omega), if_pos (by omega), show m - i = j.toNat from by omega]
  exact ⟨rfl, rfl⟩
/-- addProduct: i of the first form's numbers are through -/
def APX (I' : IT) (b : Nat) (p D t E : Int) (o f g : Nat → Int) (i : Int) : Prop := VRX I' b p D (fun m => o m + t * CVS f g E i.toNat m)
def APJ (I' : IT) (b : Nat) (p D t E : Int) (o f g : Nat → Int) (i u j : Int) : Prop := VRX I' b p D (fun m => o m + t * CVS f g E i.toNat m + u * CVI g i.toNat j m)
theorem APX.z {I' : IT} {b : Nat} {p D t E i : Int} {f g : Nat → Int} (h : BNX I' b D p) (hi : i = 0) : APX I' b p D t E (NF I' b) f g i := fun m hm => by
  subst hi
  have q := h m hm
  refine ⟨q.1, q.2, ?_⟩
  show PmE p (I' b m).toInt ((I' b m).toInt + t * 0)
  rw [Int.mul_zero, Int.add_zero]; exact PmE.rf
theorem APJ.z {I' : IT} {b : Nat} {p D t E i u j : Int} {o f g : Nat → Int} (h : APX I' b p D t E o f g i) (hj : j = 0) : APJ I' b p D t E o f g i u j := fun m hm => by
  have q := h m hm
  refine ⟨q.1, q.2.1, ?_⟩
  show PmE p _ (o m + t * CVS f g E i.toNat m + u * CVI g i.toNat j m)
  rw [CVI.z (by omega), Int.mul_zero, Int.add_zero]; exact q.2.2
theorem APJ.e {I' : IT} {b : Nat} {p D t E i u j i' : Int} {o f g : Nat → Int} (h : APJ I' b p D t E o f g i u j) (hu : PmE p u (f i.toNat * t)) (hx : u = 0 ∨ E < j) (hj : j ≤ E + 1) (h0 : 0 ≤ i) (hi : i' = i + 1) : APX I' b p D t E o f g i' := fun m hm => by
  have q := h m hm
  refine ⟨q.1, q.2.1, q.2.2.tr ?_⟩
  show PmE p (o m + t * CVS f g E i.toNat m + u * CVI g i.toNat j m) (o m + t * CVS f g E i'.toNat m)
  rw [show i'.toNat = i.toNat + 1 from by omega]
  show PmE p _ (o m + t * (CVS f g E i.toNat m + f i.toNat * CVI g i.toNat (E + 1) m))
  rw [show o m + t * (CVS f g E i.toNat m + f i.toNat * CVI g i.toNat (E + 1) m) = o m + t * CVS f g E i.toNat m + f i.toNat * t * CVI g i.toNat (E + 1) m from by grind]
  refine PmE.rf.ad ?_
  rcases hx with hx | hx
  · rw [hx] at hu ⊢
    rw [Int.zero_mul]
    have := hu.ml (PmE.rf (x := CVI g i.toNat (E + 1) m))
    rwa [Int.zero_mul] at this
  · rw [show j = E + 1 from by omega]; exact hu.ml PmE.rf
theorem APJ.s {I1 I2 : IT} {b gb : Nat} {p D D2 t E : Int} {o f : Nat → Int} {i u j j' k k2 a c m s v : Int32} {l : Int64} {I0 : IT} (h : APJ I1 b p D t E o f (NF I0 gb) i.toInt u.toInt j.toInt) (ga : GTD a.toInt D2 (fun n => (I1 b n).toInt) k.toInt) (gc : GTD c.toInt E (fun n => (I1 gb n).toInt) j.toInt) (eg : I1 gb = I0 gb) (hg : BNX I0 gb E p) (mm : MXD m u c) (ad : ADX s a m) (hl : l.toInt = s.toInt) (ho : v.toInt = l.toInt % p) (st : STD I1 I2 b k2 v) (hk2 : k2.toInt = i.toInt + j.toInt) (hp : 0 < p ∧ p ≤ 19) (hu : 0 ≤ u.toInt ∧ u.toInt ≤ 18) (hi : 0 ≤ i.toInt) (hj : 0 ≤ j.toInt) (hjE : j.toInt ≤ E) (hk : k.toInt = i.toInt + j.toInt) (hkD : k.toInt ≤ D) (hkD2 : k.toInt ≤ D2) (h40 : k.toInt < 41) (hj' : j'.toInt = j.toInt + 1) : APJ I2 b p D t E o f (NF I0 gb) i.toInt u.toInt j'.toInt := fun n hn => by
  have ek : k2 = k := Int32.toInt_inj.mp (by omega)
  subst ek
  have n0 := ncz (x := k2) (by omega)
  have nj := ncz hj
  have q := h n hn
  rw [st.1 (by omega) h40]
  by_cases z : n = k2.toNatClampNeg
  · subst z
    rw [u2_s]
    have va : a.toInt = (I1 b k2.toNatClampNeg).toInt := ga.i (by omega) hkD2
    have vc : c.toInt = NF I0 gb j.toNatClampNeg := by
      have x : c.toInt = (I1 gb j.toNatClampNeg).toInt := gc.i hj hjE
      rw [x, eg]; rfl
    have bc := hg j.toNatClampNeg (by omega)
    have bc : 0 ≤ NF I0 gb j.toNatClampNeg ∧ NF I0 gb j.toNatClampNeg < p := bc
    have q1 := mm (by omega) (by omega) (by omega) (by omega)
    have r1 := mul_ab (u := u.toInt) (v := c.toInt) (by omega) (by omega) (by omega) (by omega)
    have q2 := ad (by omega) (by omega)
    obtain ⟨c0, c1⟩ := CVI.n (g := NF I0 gb) (i := i.toInt.toNat) (m := k2.toNatClampNeg) hj hj' (by omega)
    refine ⟨by rw [ho]; exact Int.emod_nonneg _ (by omega), by rw [ho]; exact Int.emod_lt_of_pos _ hp.1, ?_⟩
    show PmE p v.toInt (o k2.toNatClampNeg + t * CVS f (NF I0 gb) E i.toInt.toNat k2.toNatClampNeg + u.toInt * CVI (NF I0 gb) i.toInt.toNat j'.toInt k2.toNatClampNeg)
    have q3 : PmE p (I1 b k2.toNatClampNeg).toInt (o k2.toNatClampNeg + t * CVS f (NF I0 gb) E i.toInt.toNat k2.toNatClampNeg + u.toInt * CVI (NF I0 gb) i.toInt.toNat j.toInt k2.toNatClampNeg) := q.2.2
    rw [c0, Int.mul_zero, Int.add_zero] at q3
    rw [c1, ho, hl, q2, q1, va, vc]
    exact (PmE.em _).tr (q3.ad PmE.rf)
  · rw [u2_k z]
    refine ⟨q.1, q.2.1, ?_⟩
    show PmE p _ (o n + t * CVS f (NF I0 gb) E i.toInt.toNat n + u.toInt * CVI (NF I0 gb) i.toInt.toNat j'.toInt n)
    rw [CVI.o hj hj' (by omega)]; exact q.2.2
theorem APX.e {I' : IT} {b : Nat} {p D t E i D1 : Int} {o f g : Nat → Int} (h : APX I' b p D t E o f g i) (hi : i = D1 + 1) : VRX I' b p D (fun m => o m + t * CVS f g E (D1 + 1).toNat m) := by subst hi; exact h
theorem IMX.t {w x t : Int32} (m : IMX w x t) (hx : 0 ≤ x.toInt ∧ x.toInt ≤ 18) (ht : -100 ≤ t.toInt ∧ t.toInt ≤ 100) : w.toInt = x.toInt * t.toInt := by
  have a : x.toInt * t.toInt ≤ 18 * 100 := by
    rcases Int.lt_or_le t.toInt 0 with c | c
    · have := Int.mul_nonneg hx.1 (show 0 ≤ -t.toInt by omega)
      rw [Int.mul_neg] at this; omega
    · exact Int.mul_le_mul hx.2 ht.2 c (by decide)
  have b : -(18 * 100) ≤ x.toInt * t.toInt := by
    rcases Int.lt_or_le t.toInt 0 with c | c
    · have := Int.mul_le_mul hx.2 (show -t.toInt ≤ 100 by omega) (by omega) (by decide)
      rw [Int.mul_neg] at this; omega
    · have := Int.mul_nonneg hx.1 c; omega
  exact m (by omega) (by omega)
/-- numbers of an overlap -/
def BNI (k : Int) : Nat → Int
  | 0 => 1
  | i + 1 => BNI k i * (k - i) / (i + 1)
def SGI (i : Nat) : Int := if i % 2 = 0 then 1 else -1
theorem BNI.b {k : Int} {i : Nat} (h0 : 0 ≤ k) (h8 : k ≤ 8) (hi : (i : Int) ≤ k + 1) : 0 ≤ BNI k i ∧ BNI k i ≤ 70 := by
  have h : ∀ a : Nat, a < 9 → ∀ b : Nat, b < 10 → 0 ≤ BNI a b ∧ BNI a b ≤ 70 := by decide
  have := h k.toNat (by omega) i (by omega)
  rwa [show ((k.toNat : Nat) : Int) = k from by omega] at this
def OVS (f g : Nat → Int) (D E k : Int) : Nat → Nat → Int
  | 0, _ => 0
  | i + 1, m => OVS f g D E k i m + SGI i * BNI k i * CVS (DIF f D (k.toNat - i) i) (DIF g E i (k.toNat - i)) (E - k) (D - k + 1).toNat m
theorem OVS.s {f g : Nat → Int} {D E k : Int} {i m : Nat} : OVS f g D E k (i + 1) m = OVS f g D E k i m + SGI i * BNI k i * CVS (DIF f D (k.toNat - i) i) (DIF g E i (k.toNat - i)) (E - k) (D - k + 1).toNat m := rfl
theorem OVX.z {I' : IT} {b : Nat} {p W : Int} {f g : Nat → Int} {D E k n : Int} (h : ∀ j : Nat, j < 41 → (I' b j).toInt = 0) (hW : W ≤ 40) (hp : 0 < p) (hn : n = 0) : VRX I' b p W (OVS f g D E k n.toNat) := fun j hj => by
  subst hn
  rw [h j (by omega)]
  exact ⟨by decide, hp, PmE.rf⟩
theorem VRX.cn {I' : IT} {b : Nat} {p W : Int} {f g : Nat → Int} {D E k : Int} {i : Int32} (h : ∀ j : Nat, j < 41 → (I' b j).toInt = 0) (hW : W ≤ 40) (hp : 0 < p) (hn : i.toInt = 0) : VRX I' b p W (OVS f g D E k i.toNatClampNeg) := by
  rw [nck (x := i) (n := 0) hn]
  exact OVX.z (n := 0) h hW hp rfl
theorem OVX.s {I1 I2 : IT} {b lb rb : Nat} {p W : Int} {f g : Nat → Int} {D E k : Int} {i i' u : Int32} {lD rD W' : Int} (h : VRX I1 b p W (OVS f g D E k i.toNatClampNeg)) (a : VRX I2 b p W' (fun m => NF I1 b m + u.toInt * CVS (NF I1 lb) (NF I1 rb) rD (lD + 1).toNat m)) (hL : VRX I1 lb p lD (DIF f D (k.toNat - i.toNatClampNeg) i.toNatClampNeg)) (hR : VRX I1 rb p rD (DIF g E i.toNatClampNeg (k.toNat - i.toNatClampNeg))) (hu : u.toInt = SGI i.toNatClampNeg * BNI k i.toNatClampNeg) (hlD : lD = D - k) (hrD : rD = E - k) (hW : W' = W) (h0 : 0 ≤ i.toInt) (hi : i'.toInt = i.toInt + 1) : VRX I2 b p W (OVS f g D E k i'.toNatClampNeg) := fun j hj => by
  subst hW
  have n0 := ncz h0
  have n1 := ncz (x := i') (by omega)
  have q := a j hj
  refine ⟨q.1, q.2.1, q.2.2.tr ?_⟩
  rw [show i'.toNatClampNeg = i.toNatClampNeg + 1 from by omega, OVS.s, hu]
  subst hlD; subst hrD
  refine ((h j hj).2.2).ad (PmE.rf.ml (CVS.pe _ (fun m hm => ?_) (fun m hm => ?_)))
  · exact (hL m (by omega)).2.2
  · exact (hR m hm).2.2
theorem SGI.y {i : Int32} {x c : Int32} (hc : c.toInt = i.toInt % 2) (h0 : 0 ≤ i.toInt) {t : Int} (h : c.toInt = 0) (hx : x.toInt = t) : x.toInt = SGI i.toNatClampNeg * t := by
  have n0 := ncz h0
  unfold SGI
  rw [if_pos (by omega)]; omega
theorem SGI.n {i : Int32} {x c : Int32} (hc : c.toInt = i.toInt % 2) (h0 : 0 ≤ i.toInt) {t : Int} (h : c.toInt ≠ 0) (hx : x.toInt = -t) : x.toInt = SGI i.toNatClampNeg * t := by
  have n0 := ncz h0
  unfold SGI
  rw [if_neg (by omega)]; omega
theorem BNI.s {k : Int} {i i' u w d m : Int32} {y : Int32} (h : u.toInt = BNI k i.toNatClampNeg) (mm : IMX m u y) (hy : y.toInt = k - i.toInt) (dd : IDX w m d) (hd : d.toInt = i.toInt + 1) (h0 : 0 ≤ i.toInt) (hk : i.toInt ≤ k) (h8 : k ≤ 8) (hi : i'.toInt = i.toInt + 1) : w.toInt = BNI k i'.toNatClampNeg := by
  have n0 := ncz h0
  have n1 := ncz (x := i') (by omega)
  have b := BNI.b (i := i.toNatClampNeg) (by omega) h8 (by omega)
  have g0 : 0 ≤ u.toInt * y.toInt := Int.mul_nonneg (by omega) (by omega)
  have g1 : u.toInt * y.toInt ≤ 70 * 8 := Int.mul_le_mul (by omega) (by omega) (by omega) (by decide)
  have e := mm (by omega) (by omega)
  have e2 := dd (by omega) (by omega)
  rw [e2, e, show i'.toNatClampNeg = i.toNatClampNeg + 1 from by omega]
  show u.toInt * y.toInt / d.toInt = BNI k i.toNatClampNeg * (k - i.toNatClampNeg) / ((i.toNatClampNeg : Int) + 1)
  rw [hy, hd, h, n0]
theorem DZ {I1 I : IT} {b : Nat} {x y k c : Int32} {D : Int} (g : GTD x.toInt D (fun j => (I1 b j).toInt) y.toInt) (e : I1 b = I b) (hy : y.toInt = k.toInt + c.toInt) (h0 : 0 ≤ k.toInt) (hc : 0 ≤ c.toInt) (hD : y.toInt ≤ D) : x.toInt = NF I b (k.toNatClampNeg + c.toNatClampNeg) := by
  have n0 := ncz h0
  have n1 := ncz hc
  have n2 := ncz (x := y) (by omega)
  have q : x.toInt = (I1 b y.toNatClampNeg).toInt := g.i (by omega) hD
  rw [q, e, show y.toNatClampNeg = k.toNatClampNeg + c.toNatClampNeg from by omega]; rfl
theorem DIF.e {f : Nat → Int} {D : Int} {a b k i : Int32} {t : Int} (h : t = f (k.toNatClampNeg + b.toNatClampNeg) * FFP (D - b.toInt - k.toInt) a.toNatClampNeg * FFP (k.toInt + b.toInt) i.toNatClampNeg) (hi : i.toInt = b.toInt) (h0 : 0 ≤ k.toInt) (hb : 0 ≤ b.toInt) : t = DIF f D a.toNatClampNeg b.toNatClampNeg k.toNatClampNeg := by
  have n0 := ncz h0
  have n1 := ncz hb
  rw [h, Int32.toInt_inj.mp hi]
  unfold DIF
  rw [n0, n1]
theorem BNX.c {I I' : IT} {b : Nat} {D D' p : Int} (h : BNX I b D p) (e : I' b = I b) (eD : D' = D) : BNX I' b D' p := by subst eD; exact h.eq e
theorem VRX.df {I9 I1 I0 : IT} {b fb a c : Nat} {p D D' E : Int} {u v : Int32} (h : VRX I9 b p (D' - u.toInt - v.toInt) (DIF (NF I1 fb) D' u.toNatClampNeg v.toNatClampNeg)) (e : I1 fb = I0 fb) (eD : D' = D) (hu : u.toNatClampNeg = a) (hv : v.toNatClampNeg = c) (hE : D - u.toInt - v.toInt = E) : VRX I9 b p E (DIF (NF I0 fb) D a c) := by
  subst eD; subst hu; subst hv; subst hE
  have q : NF I1 fb = NF I0 fb := by unfold NF; rw [e]
  rw [q] at h; exact h
theorem VRX.pc {I' : IT} {b : Nat} {p n n' : Int} {g : Nat → Int} (h : VRX I' b p n g) (e : n' = n) : VRX I' b p n' g := by subst e; exact h
theorem DON.eq' {x y D : Int} {f g : Nat → Int} {k : Int} (h : DON x D f k) (g9 : DON y D g k) (e : ∀ i : Nat, (i : Int) ≤ D → f i = g i) : x = y := by
  by_cases z : k = -1
  · rw [h.1 z, g9.1 z]
  · by_cases q : k < 0 ∨ D < k
    · rw [h.2.1 z q, g9.2.1 z q]
    · rw [h.2.2 (by omega) (by omega), g9.2.2 (by omega) (by omega)]; exact e _ (by omega)
/-- the k-th number of an overlap, its degree, or none -/
def OVQ (x p W k : Int) (g : Nat → Int) : Prop := ∃ v : Nat → Int, (∀ j : Nat, (j : Int) ≤ W → 0 ≤ v j ∧ v j < p ∧ PmE p (v j) (g j)) ∧ DON x W v k
theorem OVQ.of {I' : IT} {b : Nat} {x p W W' k : Int} {g : Nat → Int} (h : VRX I' b p W g) (d : DON x W' (fun j => (I' b j).toInt) k) (e : W' = W) : OVQ x p W k g := by
  subst e
  exact ⟨_, h, d⟩
theorem OVQ.u {x y p W k : Int} {f g : Nat → Int} (h : OVQ x p W k f) (h2 : OVQ y p W k g) (e : ∀ j : Nat, (j : Int) ≤ W → PmE p (f j) (g j)) : x = y := by
  obtain ⟨v, v1, v2⟩ := h
  obtain ⟨w, w1, w2⟩ := h2
  refine DON.eq' v2 w2 (fun j hj => ?_)
  obtain ⟨a1, a2, a3⟩ := v1 j hj
  obtain ⟨b1, b2, b3⟩ := w1 j hj
  exact (a3.tr ((e j hj).tr b3.sy)).eq a1 a2 b1 b2
theorem s_X0_differentiate_x {d : Nat} {T N : Nat → Nat} {I : IT} {L : LT} {R : RT} {A B : Nat → Prop} {r0 r1 r4 : Nat} {n2 n3 : Int32} (hS : SUB B A) (hI : IX A T I) (H_r0 : (hs_Al T N R A B) r0) (H_r1 : (hs_F T N R A B) r1) (b0_n2 : 0 ≤ n2.toInt) (b1_n2 : n2.toInt ≤ 8) (b0_n3 : 0 ≤ n3.toInt) (b1_n3 : n3.toInt ≤ 8) (H_r4 : (hs_F T N R A B) r4) (hU : UPR T R) (hp0 : NQ9 r1 r4) (hp1 : n2.toInt + n3.toInt ≤ 8) (hp2 : n2.toInt + n3.toInt ≤ (I r1 0).toInt) (hp3 : BNX I (rA R r1 1) (I r1 0).toInt (I (rA R r0 0) 0).toInt) : Ex (d + 3) 21 [.ref r0, .ref r1, .int n2, .int n3, .ref r4] (T, N, I, L, R) 0 0 (pV T N R (fun I9 L9 => ((I9 r4 0).toInt = (I r1 0).toInt - n2.toInt - n3.toInt) ∧ (VRX I9 (rA R r4 1) (I (rA R r0 0) 0).toInt ((I r1 0).toInt - n2.toInt - n3.toInt) (DIF (NF I (rA R r1 1)) (I r1 0).toInt n2.toNatClampNeg n3.toNatClampNeg)) ∧ (IX A T I9 ∧ Chg (SL [r4, (rA R r4 1)]) T [(3, 0)] I L I9 L9))) := by
  refine ⟨_, rfl, Nat.le_of_ble_eq_true rfl, fun V C S => ?_⟩
  show V 0 [(0, .ref r0), (1, .ref r1), (2, .int n2), (3, .int n3), (4, .ref r4)] [] (T, N, I, L, R) 0 0
  have gn2 := rg n2
  have gn3 := rg n3
  obtain ⟨T_r0, A_r0, B_r0, ⟨r0_0, R_r0_0, H_r0_0⟩, ⟨r0_1, R_r0_1, H_r0_1⟩, ⟨r0_2, R_r0_2, H_r0_2⟩⟩ := id H_r0
  have z_r0_0 : rA R r0 0 = r0_0 := rA_e R_r0_0
  have z_r0_1 : rA R r0 1 = r0_1 := rA_e R_r0_1
  have z_r0_2 : rA R r0 2 = r0_2 := rA_e R_r0_2
  obtain ⟨T_r1, A_r1, ⟨r1_1, R_r1_1, H_r1_1⟩⟩ := id H_r1
  have z_r1_1 : rA R r1 1 = r1_1 := rA_e R_r1_1
  obtain ⟨T_r4, A_r4, ⟨r4_1, R_r4_1, H_r4_1⟩⟩ := id H_r4
  have z_r4_1 : rA R r4 1 = r4_1 := rA_e R_r4_1
  obtain ⟨T_r0_0, A_r0_0, B_r0_0, ⟨r0_0_6, R_r0_0_6, H_r0_0_6⟩, ⟨r0_0_7, R_r0_0_7, H_r0_0_7⟩, ⟨r0_0_8, R_r0_0_8, H_r0_0_8⟩, ⟨r0_0_9, R_r0_0_9, H_r0_0_9⟩, ⟨r0_0_10, R_r0_0_10, H_r0_0_10⟩⟩ := id H_r0_0
  have z_r0_0_6 : rA R r0_0 6 = r0_0_6 := rA_e R_r0_0_6
  have z_r0_0_7 : rA R r0_0 7 = r0_0_7 := rA_e R_r0_0_7
  have z_r0_0_8 : rA R r0_0 8 = r0_0_8 := rA_e R_r0_0_8
  have z_r0_0_9 : rA R r0_0 9 = r0_0_9 := rA_e R_r0_0_9
  have z_r0_0_10 : rA R r0_0 10 = r0_0_10 := rA_e R_r0_0_10
  obtain ⟨T_r1_1, N_r1_1, A_r1_1⟩ := id H_r1_1
  obtain ⟨T_r4_1, N_r4_1, A_r4_1⟩ := id H_r4_1
  try simp only [z_r0_0, z_r0_1, z_r0_2, z_r1_1, z_r4_1, z_r0_0_6, z_r0_0_7, z_r0_0_8, z_r0_0_9, z_r0_0_10] at hp0
  try simp only [z_r0_0, z_r0_1, z_r0_2, z_r1_1, z_r4_1, z_r0_0_6, z_r0_0_7, z_r0_0_8, z_r0_0_9, z_r0_0_10] at hp1
  try simp only [z_r0_0, z_r0_1, z_r0_2, z_r1_1, z_r4_1, z_r0_0_6, z_r0_0_7, z_r0_0_8, z_r0_0_9, z_r0_0_10] at hp2
  try simp only [z_r0_0, z_r0_1, z_r0_2, z_r1_1, z_r4_1, z_r0_0_6, z_r0_0_7, z_r0_0_8, z_r0_0_9, z_r0_0_10] at hp3
  obtain ⟨w_r1_0, k0_r1_0⟩ : ∃ x, I r1 0 = x := ⟨_, rfl⟩
  have gw_r1_0 := rg w_r1_0
  have ow_r1_0 := IX.deg hI A_r1 T_r1 k0_r1_0
  obtain ⟨w_r0_0_0, k0_r0_0_0⟩ : ∃ x, I r0_0 0 = x := ⟨_, rfl⟩
  have gw_r0_0_0 := rg w_r0_0_0
  have ow_r0_0_0 := IX.p hI A_r0_0 T_r0_0 k0_r0_0_0
  try simp only [k0_r1_0, k0_r0_0_0] at hp0
  try simp only [k0_r1_0, k0_r0_0_0] at hp1
  try simp only [k0_r1_0, k0_r0_0_0] at hp2
  try simp only [k0_r1_0, k0_r0_0_0] at hp3
  have nb : NQ9 r1_1 r4_1 := hU.ne (Or.inr (Or.inr (Or.inr (by omega)))) R_r1_1 R_r4_1 (Or.inl hp0)
  try simp only [k0_r1_0, k0_r0_0_0] at hp3
  have k2n := ncz (x := n2) (by omega)
  have k3n := ncz (x := n3) (by omega)
  refine k_aload_n C rfl rfl rfl ?_
  refine g_I C rfl rfl rfl T_r1 rfl k0_r1_0 ?_
  refine k_iload_n C rfl rfl rfl ?_
  refine z_isub C rfl rfl ⟨by omega, by omega⟩ (fun x1 ex1 => ?_)
  refine k_iload_n C rfl rfl rfl ?_
  refine z_isub C rfl rfl ⟨by omega, by omega⟩ (fun x2 ex2 => ?_)
  refine k_istore C (lw := [(5, .int x2), (0, .ref r0), (1, .ref r1), (2, .int n2), (3, .int n3), (4, .ref r4)]) rfl rfl (Nat.le_of_ble_eq_true rfl) rfl ?_
  refine k_aload C rfl rfl rfl ?_
  refine k_iload C rfl rfl rfl ?_
  refine c_VV C (s_X2_begin_x hS hI H_r4) rfl rfl rfl rfl rfl ⟨_, rfl, rfl, T_r4, Nat.le_of_ble_eq_true rfl⟩ rfl rfl (Nat.le_of_ble_eq_true rfl) (Nat.le_of_ble_eq_true rfl) (Nat.le_of_ble_eq_true rfl) ?_
  rintro I4 L5 ⟨p0v3, p1v3, hI4, S6⟩
  try simp only [z_r0_0, z_r0_1, z_r0_2, z_r1_1, z_r4_1, z_r0_0_6, z_r0_0_7, z_r0_0_8, z_r0_0_9, z_r0_0_10] at S6
  have e7 := (congrFun (Chg.at S6 (nm_2 (by first | exact hp0 | exact fun e => hp0 e.symm) (t_nq T_r1 T_r4_1 (by decide)))) 0).trans k0_r1_0
  have e8 := Chg.k S6 T_r0_0 (by decide) (by decide) k0_r0_0_0
  obtain ⟨x9, e10⟩ : ∃ x, I4 r4 0 = x := ⟨_, rfl⟩
  have gx9 := rg x9
  have ox9 := IX.deg hI4 A_r4 T_r4 e10
  try simp only [z_r0_0, z_r0_1, z_r0_2, z_r1_1, z_r4_1, z_r0_0_6, z_r0_0_7, z_r0_0_8, z_r0_0_9, z_r0_0_10] at p0v3
  try simp only [z_r0_0, z_r0_1, z_r0_2, z_r1_1, z_r4_1, z_r0_0_6, z_r0_0_7, z_r0_0_8, z_r0_0_9, z_r0_0_10] at p1v3
  try simp only [k0_r1_0, k0_r0_0_0, e10] at p0v3
  try have q0v3 := congrArg Int32.toInt p0v3
  try simp only [k0_r1_0, k0_r0_0_0, e10] at p1v3
  try have q1v3 := congrArg Int32.toInt p1v3
  have hbg := p0v3.2.2 (by omega) (by omega); (try rw [e10] at hbg)
  refine z_iconst C (z := 0) rfl rfl rfl (fun x11 ex11 => ?_)
  have J12 : ∀ (nn13 : Nat) (I14 : IT) (L15 : LT) (x16 : Int32), (MN (41 - x16.toInt) nn13) → (IX A T I14) → (Chg (SL [r4, r4_1]) T [] I4 L5 I14 L15) → (0 ≤ x16.toInt) → (x16.toInt ≤ 41) → (DFL I14 r4_1 w_r0_0_0.toInt (DIF (NF I r1_1) w_r1_0.toInt n2.toNatClampNeg n3.toNatClampNeg) x16.toInt) → (x2.toInt = w_r1_0.toInt - n2.toInt - n3.toInt) → (x16.toInt ≤ x2.toInt + 1) → V 20 [(0, .ref r0), (1, .ref r1), (2, .int n2), (3, .int n3), (4, .ref r4), (5, .int x2), (6, .int x16)] [] (T, N, I14, L15, R) 0 0 := by
    intro nn13
    induction nn13 using Nat.strongRecOn with
    | _ nn13 ihJ12 =>
      intro I14 L15 x16 hmnn13 hI20 S19 b17 b18 ff20_0 ff20_1 ff20_2
      have gx16 := rg x16
      have e24 := Chg.k S19 T_r1 (by decide) (by decide) e7
      have e25 := Chg.k S19 T_r0_0 (by decide) (by decide) e8
      have e26 := Chg.k S19 T_r4 (by decide) (by decide) e10
      refine k_iload C rfl rfl rfl ?_
      refine k_iload C rfl rfl rfl ?_
      refine b_icmp_gt C (t := 116) rfl rfl rfl (fun c27 => ?_) (fun c27 => ?_)
      · skip
        exact k_vret C rfl rfl (Nat.le_of_ble_eq_true rfl) (Nat.le_of_ble_eq_true rfl) ⟨_, _, rfl, rfl, by (try simp only [z_r0_0, z_r0_1, z_r0_2, z_r1_1, z_r4_1, z_r0_0_6, z_r0_0_7, z_r0_0_8, z_r0_0_9, z_r0_0_10]); rw [e26]; simp only [k0_r1_0]; omega, by (try simp only [z_r0_0, z_r0_1, z_r0_2, z_r1_1, z_r4_1, z_r0_0_6, z_r0_0_7, z_r0_0_8, z_r0_0_9, z_r0_0_10]); simp only [k0_r1_0, k0_r0_0_0]; exact DFL.e ff20_0 (by omega), hI20, (by (try simp only [z_r0_0, z_r0_1, z_r0_2, z_r1_1, z_r4_1, z_r0_0_6, z_r0_0_7, z_r0_0_8, z_r0_0_9, z_r0_0_10]); exact (Chg.cons (Chg.up S6 (List.forall_mem_cons.mpr ⟨List.mem_of_getElem? (i := 0) rfl, List.forall_mem_cons.mpr ⟨List.mem_of_getElem? (i := 1) rfl, fun _ h => nomatch h⟩⟩)) (Chg.mono S19 (by decide)) (by decide)))⟩
      refine k_aload_n C rfl rfl rfl ?_
      refine k_iload C rfl rfl rfl ?_
      refine k_iload_n C rfl rfl rfl ?_
      refine z_iadd C rfl rfl ⟨by omega, by omega⟩ (fun x28 ex28 => ?_)
      refine c_VI C (s_X2_get_x hS hI20 H_r1) rfl rfl rfl rfl rfl ⟨_, rfl, rfl, T_r1, Nat.le_of_ble_eq_true rfl⟩ rfl rfl (Nat.le_of_ble_eq_true rfl) (Nat.le_of_ble_eq_true rfl) (Nat.le_of_ble_eq_true rfl) ?_
      rintro x29 _ _ ⟨p0x29, rfl, rfl⟩
      have gx29 := rg x29
      try simp only [z_r0_0, z_r0_1, z_r0_2, z_r1_1, z_r4_1, z_r0_0_6, z_r0_0_7, z_r0_0_8, z_r0_0_9, z_r0_0_10] at p0x29
      try simp only [e24, e25, e26] at p0x29
      try have q0x29 := congrArg Int32.toInt p0x29
      have hga := p0x29; (try simp only [e24] at hga); have hz := DZ (k := x16) (c := n3) hga (Chg.at ((Chg.cons (Chg.up S6 (List.forall_mem_cons.mpr ⟨List.mem_of_getElem? (i := 0) rfl, List.forall_mem_cons.mpr ⟨List.mem_of_getElem? (i := 1) rfl, fun _ h => nomatch h⟩⟩)) (Chg.mono S19 (by decide)) (by decide)) : Chg (SL [r4, r4_1]) T [(3, 0)] I L I14 L15) (nm_2 (t_nq T_r1_1 T_r4 (by decide)) (by first | exact nb | exact fun e => nb e.symm))) (by omega) (by omega) (by omega) (by omega); have hzb : 0 ≤ NF I r1_1 (x16.toNatClampNeg + n3.toNatClampNeg) ∧ NF I r1_1 (x16.toNatClampNeg + n3.toNatClampNeg) < w_r0_0_0.toInt := hp3 _ (by have h9 := ncz (x := x16) (by omega); omega)
      refine z_i2l C rfl rfl (fun lg30 elg30 => ?_)
      have hl35 := elg30
      refine k_lstore C (lw := [(7, .long lg30), (0, .ref r0), (1, .ref r1), (2, .int n2), (3, .int n3), (4, .ref r4), (5, .int x2), (6, .int x16)]) rfl rfl (Nat.le_of_ble_eq_true rfl) rfl ?_
      refine z_iconst C (z := 0) rfl rfl rfl (fun x31 ex31 => ?_)
      have J32 : ∀ (nn33 : Nat) (lg34 : Int64) (x35 : Int32), (MN (8 - x35.toInt) nn33) → (0 ≤ x35.toInt) → (x35.toInt ≤ 8) → (lg34.toInt = NF I r1_1 (x16.toNatClampNeg + n3.toNatClampNeg) * FFP (w_r1_0.toInt - n3.toInt - x16.toInt) x35.toNatClampNeg) → (x35.toInt ≤ n2.toInt) → V 41 [(0, .ref r0), (1, .ref r1), (2, .int n2), (3, .int n3), (4, .ref r4), (5, .int x2), (6, .int x16), (7, .long lg34), (9, .int x35)] [] (T, N, I14, L15, R) 0 0 := by
        intro nn33
        induction nn33 using Nat.strongRecOn with
        | _ nn33 ihJ32 =>
          intro lg34 x35 hmnn33 b36 b37 ff41_0 ff41_1
          have gx35 := rg x35
          refine k_iload C rfl rfl rfl ?_
          refine k_iload_n C rfl rfl rfl ?_
          refine b_icmp_ge C (t := 69) rfl rfl rfl (fun c40 => ?_) (fun c40 => ?_)
          · skip
            have h69 : lg34.toInt = NF I r1_1 (x16.toNatClampNeg + n3.toNatClampNeg) * FFP (w_r1_0.toInt - n3.toInt - x16.toInt) n2.toNatClampNeg := (by rw [ff41_0, show x35 = n2 from Int32.toInt_inj.mp (by omega)]); have hzz := LTM.b (n := (w_r1_0.toInt - n3.toInt - x16.toInt)) (m := n2.toNatClampNeg) hzb.1 (by omega) (by omega) (by omega)
            refine z_iconst C (z := 0) rfl rfl rfl (fun x41 ex41 => ?_)
            have J42 : ∀ (nn43 : Nat) (lg44 : Int64) (x45 : Int32), (MN (8 - x45.toInt) nn43) → (0 ≤ x45.toInt) → (x45.toInt ≤ 8) → (lg44.toInt = NF I r1_1 (x16.toNatClampNeg + n3.toNatClampNeg) * FFP (w_r1_0.toInt - n3.toInt - x16.toInt) n2.toNatClampNeg * FFP (x16.toInt + n3.toInt) x45.toNatClampNeg) → (x45.toInt ≤ n3.toInt) → V 72 [(0, .ref r0), (1, .ref r1), (2, .int n2), (3, .int n3), (4, .ref r4), (5, .int x2), (6, .int x16), (7, .long lg44), (9, .int x45)] [] (T, N, I14, L15, R) 0 0 := by
              intro nn43
              induction nn43 using Nat.strongRecOn with
              | _ nn43 ihJ42 =>
                intro lg44 x45 hmnn43 b46 b47 ff72_0 ff72_1
                have gx45 := rg x45
                refine k_iload C rfl rfl rfl ?_
                refine k_iload_n C rfl rfl rfl ?_
                refine b_icmp_ge C (t := 97) rfl rfl rfl (fun c50 => ?_) (fun c50 => ?_)
                · skip
                  refine k_aload C rfl rfl rfl ?_
                  refine k_iload C rfl rfl rfl ?_
                  refine k_aload_n C rfl rfl rfl ?_
                  refine k_lload C rfl rfl rfl ?_
                  refine c_VI C (s_X0_of_x hS hI20 H_r0) rfl rfl rfl rfl rfl ⟨_, rfl, rfl, T_r0, Nat.le_of_ble_eq_true rfl⟩ rfl rfl (Nat.le_of_ble_eq_true rfl) (Nat.le_of_ble_eq_true rfl) (Nat.le_of_ble_eq_true rfl) ?_
                  rintro x51 _ _ ⟨o0x51, o1x51, p0x51, p1x51, rfl, rfl⟩
                  have gx51 := rg x51
                  try simp only [z_r0_0, z_r0_1, z_r0_2, z_r1_1, z_r4_1, z_r0_0_6, z_r0_0_7, z_r0_0_8, z_r0_0_9, z_r0_0_10] at p0x51
                  try simp only [z_r0_0, z_r0_1, z_r0_2, z_r1_1, z_r4_1, z_r0_0_6, z_r0_0_7, z_r0_0_8, z_r0_0_9, z_r0_0_10] at p1x51
                  try simp only [e24, e25, e26] at p0x51
                  try have q0x51 := congrArg Int32.toInt p0x51
                  try simp only [e24, e25, e26] at p1x51
                  try have q1x51 := congrArg Int32.toInt p1x51
                  have hof := p0x51; (try simp only [e25] at hof)
                  refine c_VV C (s_X2_set_x hS hI20 H_r4) rfl rfl rfl rfl rfl ⟨_, rfl, rfl, T_r4, Nat.le_of_ble_eq_true rfl⟩ rfl rfl (Nat.le_of_ble_eq_true rfl) (Nat.le_of_ble_eq_true rfl) (Nat.le_of_ble_eq_true rfl) ?_
                  rintro I53 L54 ⟨p0v52, hI53, S55⟩
                  try simp only [z_r0_0, z_r0_1, z_r0_2, z_r1_1, z_r4_1, z_r0_0_6, z_r0_0_7, z_r0_0_8, z_r0_0_9, z_r0_0_10] at S55
                  have e56 := Chg.k S55 T_r1 (by decide) (by decide) e24
                  have e57 := Chg.k S55 T_r0_0 (by decide) (by decide) e25
                  have e58 := Chg.k S55 T_r4 (by decide) (by decide) e26
                  try simp only [z_r0_0, z_r0_1, z_r0_2, z_r1_1, z_r4_1, z_r0_0_6, z_r0_0_7, z_r0_0_8, z_r0_0_9, z_r0_0_10] at p0v52
                  try simp only [e24, e25, e26] at p0v52
                  try have q0v52 := congrArg Int32.toInt p0v52
                  have hse := p0v52
                  refine z_iinc C (z := 1) (lw := fun x59 => [(6, .int x59), (0, .ref r0), (1, .ref r1), (2, .int n2), (3, .int n3), (4, .ref r4), (5, .int x2), (7, .long lg44), (9, .int x45)]) rfl rfl rfl (Nat.le_of_ble_eq_true rfl) rfl ⟨by omega, by omega⟩ (fun _ => rfl) (fun x59 ex59 => ?_)
                  show V 113 [(6, .int x59), (0, .ref r0), (1, .ref r1), (2, .int n2), (3, .int n3), (4, .ref r4), (5, .int x2), (7, .long lg44), (9, .int x45)] _ _ _ _
                  refine k_goto C (pc2 := 20) rfl rfl ?_
                  refine k_sub S [(0, .ref r0), (1, .ref r1), (2, .int n2), (3, .int n3), (4, .ref r4), (5, .int x2), (6, .int x59)] (List.forall_mem_cons.mpr ⟨List.mem_of_getElem? (i := 1) rfl, List.forall_mem_cons.mpr ⟨List.mem_of_getElem? (i := 2) rfl, List.forall_mem_cons.mpr ⟨List.mem_of_getElem? (i := 3) rfl, List.forall_mem_cons.mpr ⟨List.mem_of_getElem? (i := 4) rfl, List.forall_mem_cons.mpr ⟨List.mem_of_getElem? (i := 5) rfl, List.forall_mem_cons.mpr ⟨List.mem_of_getElem? (i := 6) rfl, List.forall_mem_cons.mpr ⟨List.mem_of_getElem? (i := 0) rfl, fun _ h => nomatch h⟩⟩⟩⟩⟩⟩⟩) ?_
                  exact ihJ12 _ (MN.lt hmnn13 (by omega) (by omega)) I53 L54 x59 rfl hI53 (Chg.cons S19 (Chg.mono (Chg.up S55 (List.forall_mem_cons.mpr ⟨List.mem_of_getElem? (i := 1) rfl, fun _ h => nomatch h⟩)) (by decide)) (by decide)) (by omega) (by omega) (by exact DFL.s ff20_0 hse hof (DIF.e ff72_0 (by omega) (by omega) (by omega)) (by omega) (by omega) (by omega) (by omega)) (by omega) (by omega)
                refine k_lload C rfl rfl rfl ?_
                refine k_iload C rfl rfl rfl ?_
                refine k_iload_n C rfl rfl rfl ?_
                refine z_iadd C rfl rfl ⟨by omega, by omega⟩ (fun x60 ex60 => ?_)
                refine k_iload C rfl rfl rfl ?_
                refine z_isub C rfl rfl ⟨by omega, by omega⟩ (fun x61 ex61 => ?_)
                refine z_i2l C rfl rfl (fun lg62 elg62 => ?_)
                have hy88 := elg62
                refine z_lmulE C rfl rfl (fun lg63 elg63 => ?_)
                have m88 := elg63
                refine k_lstore C (lw := [(7, .long lg63), (0, .ref r0), (1, .ref r1), (2, .int n2), (3, .int n3), (4, .ref r4), (5, .int x2), (6, .int x16), (9, .int x45)]) rfl rfl (Nat.le_of_ble_eq_true rfl) rfl ?_
                refine z_iinc C (z := 1) (lw := fun x64 => [(9, .int x64), (7, .long lg63), (0, .ref r0), (1, .ref r1), (2, .int n2), (3, .int n3), (4, .ref r4), (5, .int x2), (6, .int x16)]) rfl rfl rfl (Nat.le_of_ble_eq_true rfl) rfl ⟨by omega, by omega⟩ (fun _ => rfl) (fun x64 ex64 => ?_)
                show V 94 [(9, .int x64), (7, .long lg63), (0, .ref r0), (1, .ref r1), (2, .int n2), (3, .int n3), (4, .ref r4), (5, .int x2), (6, .int x16)] _ _ _ _
                refine k_goto C (pc2 := 72) rfl rfl ?_
                refine k_sub S [(0, .ref r0), (1, .ref r1), (2, .int n2), (3, .int n3), (4, .ref r4), (5, .int x2), (6, .int x16), (7, .long lg63), (9, .int x64)] (List.forall_mem_cons.mpr ⟨List.mem_of_getElem? (i := 2) rfl, List.forall_mem_cons.mpr ⟨List.mem_of_getElem? (i := 3) rfl, List.forall_mem_cons.mpr ⟨List.mem_of_getElem? (i := 4) rfl, List.forall_mem_cons.mpr ⟨List.mem_of_getElem? (i := 5) rfl, List.forall_mem_cons.mpr ⟨List.mem_of_getElem? (i := 6) rfl, List.forall_mem_cons.mpr ⟨List.mem_of_getElem? (i := 7) rfl, List.forall_mem_cons.mpr ⟨List.mem_of_getElem? (i := 8) rfl, List.forall_mem_cons.mpr ⟨List.mem_of_getElem? (i := 1) rfl, List.forall_mem_cons.mpr ⟨List.mem_of_getElem? (i := 0) rfl, fun _ h => nomatch h⟩⟩⟩⟩⟩⟩⟩⟩⟩) ?_
                exact ihJ42 _ (MN.lt hmnn43 (by omega) (by omega)) lg63 x64 rfl (by omega) (by omega) (by exact LTM.s (e := n2.toNatClampNeg) ff72_0 m88 (by omega) (by omega) (by omega) hzz.1 hzz.2 (by omega) (by omega) (by omega)) (by omega)
            refine k_istore C (lw := [(9, .int x41), (0, .ref r0), (1, .ref r1), (2, .int n2), (3, .int n3), (4, .ref r4), (5, .int x2), (6, .int x16), (7, .long lg34)]) rfl rfl (Nat.le_of_ble_eq_true rfl) rfl ?_
            refine k_sub S [(0, .ref r0), (1, .ref r1), (2, .int n2), (3, .int n3), (4, .ref r4), (5, .int x2), (6, .int x16), (7, .long lg34), (9, .int x41)] (List.forall_mem_cons.mpr ⟨List.mem_of_getElem? (i := 1) rfl, List.forall_mem_cons.mpr ⟨List.mem_of_getElem? (i := 2) rfl, List.forall_mem_cons.mpr ⟨List.mem_of_getElem? (i := 3) rfl, List.forall_mem_cons.mpr ⟨List.mem_of_getElem? (i := 4) rfl, List.forall_mem_cons.mpr ⟨List.mem_of_getElem? (i := 5) rfl, List.forall_mem_cons.mpr ⟨List.mem_of_getElem? (i := 6) rfl, List.forall_mem_cons.mpr ⟨List.mem_of_getElem? (i := 7) rfl, List.forall_mem_cons.mpr ⟨List.mem_of_getElem? (i := 8) rfl, List.forall_mem_cons.mpr ⟨List.mem_of_getElem? (i := 0) rfl, fun _ h => nomatch h⟩⟩⟩⟩⟩⟩⟩⟩⟩) ?_
            exact J42 _ lg34 x41 rfl (by omega) (by omega) (by exact LTM.z h69 (by omega)) (by omega)
          refine k_lload C rfl rfl rfl ?_
          refine k_iload C rfl rfl rfl ?_
          refine k_iload C rfl rfl rfl ?_
          refine z_isub C rfl rfl ⟨by omega, by omega⟩ (fun x65 ex65 => ?_)
          refine k_iload_n C rfl rfl rfl ?_
          refine z_iadd C rfl rfl ⟨by omega, by omega⟩ (fun x66 ex66 => ?_)
          refine k_iload C rfl rfl rfl ?_
          refine z_isub C rfl rfl ⟨by omega, by omega⟩ (fun x67 ex67 => ?_)
          refine z_i2l C rfl rfl (fun lg68 elg68 => ?_)
          have hy60 := elg68
          refine z_lmulE C rfl rfl (fun lg69 elg69 => ?_)
          have m60 := elg69
          refine k_lstore C (lw := [(7, .long lg69), (0, .ref r0), (1, .ref r1), (2, .int n2), (3, .int n3), (4, .ref r4), (5, .int x2), (6, .int x16), (9, .int x35)]) rfl rfl (Nat.le_of_ble_eq_true rfl) rfl ?_
          refine z_iinc C (z := 1) (lw := fun x70 => [(9, .int x70), (7, .long lg69), (0, .ref r0), (1, .ref r1), (2, .int n2), (3, .int n3), (4, .ref r4), (5, .int x2), (6, .int x16)]) rfl rfl rfl (Nat.le_of_ble_eq_true rfl) rfl ⟨by omega, by omega⟩ (fun _ => rfl) (fun x70 ex70 => ?_)
          show V 66 [(9, .int x70), (7, .long lg69), (0, .ref r0), (1, .ref r1), (2, .int n2), (3, .int n3), (4, .ref r4), (5, .int x2), (6, .int x16)] _ _ _ _
          refine k_goto C (pc2 := 41) rfl rfl ?_
          refine k_sub S [(0, .ref r0), (1, .ref r1), (2, .int n2), (3, .int n3), (4, .ref r4), (5, .int x2), (6, .int x16), (7, .long lg69), (9, .int x70)] (List.forall_mem_cons.mpr ⟨List.mem_of_getElem? (i := 2) rfl, List.forall_mem_cons.mpr ⟨List.mem_of_getElem? (i := 3) rfl, List.forall_mem_cons.mpr ⟨List.mem_of_getElem? (i := 4) rfl, List.forall_mem_cons.mpr ⟨List.mem_of_getElem? (i := 5) rfl, List.forall_mem_cons.mpr ⟨List.mem_of_getElem? (i := 6) rfl, List.forall_mem_cons.mpr ⟨List.mem_of_getElem? (i := 7) rfl, List.forall_mem_cons.mpr ⟨List.mem_of_getElem? (i := 8) rfl, List.forall_mem_cons.mpr ⟨List.mem_of_getElem? (i := 1) rfl, List.forall_mem_cons.mpr ⟨List.mem_of_getElem? (i := 0) rfl, fun _ h => nomatch h⟩⟩⟩⟩⟩⟩⟩⟩⟩) ?_
          exact ihJ32 _ (MN.lt hmnn33 (by omega) (by omega)) lg69 x70 rfl (by omega) (by omega) (by exact LTM.s (e := 0) ff41_0 m60 (by omega) (by omega) (by omega) hzb.1 (by rw [show (40 : Int) ^ 0 = 1 from rfl]; omega) (by omega) (by omega) (by omega)) (by omega)
      refine k_istore C (lw := [(9, .int x31), (7, .long lg30), (0, .ref r0), (1, .ref r1), (2, .int n2), (3, .int n3), (4, .ref r4), (5, .int x2), (6, .int x16)]) rfl rfl (Nat.le_of_ble_eq_true rfl) rfl ?_
      refine k_sub S [(0, .ref r0), (1, .ref r1), (2, .int n2), (3, .int n3), (4, .ref r4), (5, .int x2), (6, .int x16), (7, .long lg30), (9, .int x31)] (List.forall_mem_cons.mpr ⟨List.mem_of_getElem? (i := 2) rfl, List.forall_mem_cons.mpr ⟨List.mem_of_getElem? (i := 3) rfl, List.forall_mem_cons.mpr ⟨List.mem_of_getElem? (i := 4) rfl, List.forall_mem_cons.mpr ⟨List.mem_of_getElem? (i := 5) rfl, List.forall_mem_cons.mpr ⟨List.mem_of_getElem? (i := 6) rfl, List.forall_mem_cons.mpr ⟨List.mem_of_getElem? (i := 7) rfl, List.forall_mem_cons.mpr ⟨List.mem_of_getElem? (i := 8) rfl, List.forall_mem_cons.mpr ⟨List.mem_of_getElem? (i := 1) rfl, List.forall_mem_cons.mpr ⟨List.mem_of_getElem? (i := 0) rfl, fun _ h => nomatch h⟩⟩⟩⟩⟩⟩⟩⟩⟩) ?_
      exact J32 _ lg30 x31 rfl (by omega) (by omega) (by exact LTM.z (hl35.trans hz) (by omega)) (by omega)
  refine k_istore C (lw := [(6, .int x11), (5, .int x2), (0, .ref r0), (1, .ref r1), (2, .int n2), (3, .int n3), (4, .ref r4)]) rfl rfl (Nat.le_of_ble_eq_true rfl) rfl ?_
  refine k_sub S [(0, .ref r0), (1, .ref r1), (2, .int n2), (3, .int n3), (4, .ref r4), (5, .int x2), (6, .int x11)] (List.forall_mem_cons.mpr ⟨List.mem_of_getElem? (i := 2) rfl, List.forall_mem_cons.mpr ⟨List.mem_of_getElem? (i := 3) rfl, List.forall_mem_cons.mpr ⟨List.mem_of_getElem? (i := 4) rfl, List.forall_mem_cons.mpr ⟨List.mem_of_getElem? (i := 5) rfl, List.forall_mem_cons.mpr ⟨List.mem_of_getElem? (i := 6) rfl, List.forall_mem_cons.mpr ⟨List.mem_of_getElem? (i := 1) rfl, List.forall_mem_cons.mpr ⟨List.mem_of_getElem? (i := 0) rfl, fun _ h => nomatch h⟩⟩⟩⟩⟩⟩⟩) ?_
  exact J12 _ I4 L5 x11 rfl hI4 Chg.rf (by omega) (by omega) (by exact DFL.z (by omega)) (by omega) (by omega)

