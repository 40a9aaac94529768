/-! products: exactly -/
/-- whole products told exactly -/
def LMX (w x y : Int64) : Prop := -9223372036854775808 ≤ x.toInt * y.toInt → x.toInt * y.toInt < 9223372036854775808 → w.toInt = x.toInt * y.toInt
def IMX (w x y : Int32) : Prop := -2147483648 ≤ x.toInt * y.toInt → x.toInt * y.toInt < 2147483648 → w.toInt = x.toInt * y.toInt
def IDX (w x y : Int32) : Prop := 0 ≤ x.toInt → 0 < y.toInt → w.toInt = x.toInt / y.toInt
section AutoB
variable {d : Nat} {q : mm_T} {mc ms : Nat} {Post : Po} {V : V_T} {pc pc2 : Nat} {lv : List (Nat × Value)} {r : List Value} {ck sk : Nat}
theorem z_imulE (C : Cl d q mc ms Post V) {M : Mm} {x y : Int32} (hi : cdf q.2.2.2.2.2.2 pc = some (.imul, 1)) (hp : pc + 1 = pc2) (h : ∀ w : Int32, IMX w x y → V pc2 lv (.int w :: r) M ck sk) : V pc lv (.int y :: .int x :: r) M ck sk := k_imul C hi hp (h _ (fun h1 h2 => ii_mul ⟨h1, h2⟩))
theorem z_idivE (C : Cl d q mc ms Post V) {M : Mm} {x y : Int32} (hi : cdf q.2.2.2.2.2.2 pc = some (.idiv, 1)) (hp : pc + 1 = pc2) (hy : 0 < y.toInt) (h : ∀ w : Int32, IDX w x y → V pc2 lv (.int w :: r) M ck sk) : V pc lv (.int y :: .int x :: r) M ck sk := k_idiv C hi hp (i_ne0 (by omega)) (h _ (fun h0 _ => by rw [Int32.toInt_div_of_ne_right x y (by intro e; subst e; exact absurd hy (by decide)), Int.tdiv_eq_ediv_of_nonneg h0]))
end AutoB
/-- a falling product of m factors -/
def FFP (n : Int) : Nat → Int
  | 0 => 1
  | m + 1 => FFP n m * (n - m)
theorem FFP.b {n : Int} (h40 : n ≤ 40) : ∀ m : Nat, (m : Int) ≤ n → 0 ≤ FFP n m ∧ FFP n m ≤ 40 ^ m
  | 0, _ => by show (0 : Int) ≤ 1 ∧ (1 : Int) ≤ 1; decide
  | m + 1, h => by
    have ih := FFP.b h40 m (by omega)
    show 0 ≤ FFP n m * (n - m) ∧ FFP n m * (n - m) ≤ 40 ^ (m + 1)
    rw [Int.pow_succ]
    exact ⟨Int.mul_nonneg ih.1 (by omega), Int.mul_le_mul ih.2 (by omega) (by omega) (Int.le_trans ih.1 ih.2)⟩
/-- a form differentiated -/
def DIF (f : Nat → Int) (D : Int) (a b j : Nat) : Int := f (j + b) * FFP (D - b - j) a * FFP ((j : Int) + b) b
theorem pw8 {e m : Nat} (h : e + m ≤ 8) : (40 : Int) ^ e * 40 ^ m ≤ 6553600000000 := by
  rw [← Int.pow_add]
  generalize e + m = k at h
  match k, h with
  | 0, _ => decide
  | 1, _ => decide
  | 2, _ => decide
  | 3, _ => decide
  | 4, _ => decide
  | 5, _ => decide
  | 6, _ => decide
  | 7, _ => decide
  | 8, _ => decide
theorem LTM.s {w t y : Int64} {z n : Int} {i i' : Int32} {e : Nat} (h : t.toInt = z * FFP n i.toNatClampNeg) (m : LMX w t y) (hy : y.toInt = n - i.toInt) (h0 : 0 ≤ i.toInt) (hi : i'.toInt = i.toInt + 1) (hz : 0 ≤ z) (hb : z ≤ 18 * 40 ^ e) (he : (e : Int) + i.toInt < 8) (hn : i.toInt < n) (h40 : n ≤ 40) : w.toInt = z * FFP n i'.toNatClampNeg := by
  have n0 := ncz h0
  have n1 := ncz (x := i') (by omega)
  have ei : i'.toNatClampNeg = i.toNatClampNeg + 1 := by omega
  have b := FFP.b h40 (i.toNatClampNeg + 1) (by omega)
  have es : z * FFP n (i.toNatClampNeg + 1) = t.toInt * y.toInt := by
    rw [h, hy]
    show z * (FFP n i.toNatClampNeg * (n - i.toNatClampNeg)) = _
    rw [Int.mul_assoc, n0]
  have g0 : 0 ≤ z * FFP n (i.toNatClampNeg + 1) := Int.mul_nonneg hz b.1
  have p1 : (0 : Int) ≤ 40 ^ e := Int.pow_nonneg (by decide)
  have g1 : z * FFP n (i.toNatClampNeg + 1) ≤ 18 * 40 ^ e * 40 ^ (i.toNatClampNeg + 1) := Int.mul_le_mul hb b.2 b.1 (by omega)
  have g2 := pw8 (e := e) (m := i.toNatClampNeg + 1) (by omega)
  have g3 : (18 : Int) * 40 ^ e * 40 ^ (i.toNatClampNeg + 1) = 18 * (40 ^ e * 40 ^ (i.toNatClampNeg + 1)) := Int.mul_assoc _ _ _
  rw [ei, es]
  exact m (by omega) (by omega)
theorem LTM.z {t : Int64} {z n : Int} {i : Int32} (h : t.toInt = z) (hi : i.toInt = 0) : t.toInt = z * FFP n i.toNatClampNeg := by
  rw [nck (x := i) (n := 0) hi]
  show t.toInt = z * 1
  omega
theorem LTM.b {z n : Int} {m : Nat} (h0 : 0 ≤ z) (h1 : z ≤ 18) (hn : (m : Int) ≤ n) (h40 : n ≤ 40) : 0 ≤ z * FFP n m ∧ z * FFP n m ≤ 18 * 40 ^ m := by
  have b := FFP.b h40 m hn
  exact ⟨Int.mul_nonneg h0 b.1, Int.mul_le_mul h1 b.2 b.1 (by decide)⟩
def DFL (I' : IT) (b' : Nat) (p : Int) (g : Nat → Int) (k : Int) : Prop := VRX I' b' p (k - 1) g
theorem DFL.z {I' : IT} {b' : Nat} {p k : Int} {g : Nat → Int} (h : k = 0) : DFL I' b' p g k := fun j hj => by omega
theorem DFL.s {I1 I2 : IT} {b' : Nat} {p : Int} {g : Nat → Int} {k k' v : Int32} {t : Int64} (h : DFL I1 b' p g k.toInt) (st : STD I1 I2 b' k v) (hv : v.toInt = t.toInt % p) (ht : t.toInt = g k.toNatClampNeg) (hp : 0 < p) (h0 : 0 ≤ k.toInt) (h1 : k.toInt < 41) (hk : k'.toInt = k.toInt + 1) : DFL I2 b' p g k'.toInt := fun j hj => by
  have n0 := ncz h0
  rw [st.1 h0 h1]
  by_cases q : j = k.toNatClampNeg
  · subst q
    rw [u2_s, hv, ht]
    exact ⟨Int.emod_nonneg _ (by omega), Int.emod_lt_of_pos _ hp, PmE.em _⟩
  · rw [u2_k q]; exact h j (by omega)
theorem DFL.e {I' : IT} {b' : Nat} {p k D : Int} {g : Nat → Int} (h : DFL I' b' p g k) (hk : D < k) : VRX I' b' p D g := fun j hj => h j (by omega)
/-- two forms multiplied: the numbers of the first n of the first one -/
def CVI (g : Nat → Int) (i : Nat) (j : Int) (m : Nat) : Int := if i ≤ m ∧ ((m - i : Nat) : Int) < j then g (m - i) else 0
def CVS (f g : Nat → Int) (E : Int) : Nat → Nat → Int
  | 0, _ => 0
  | n + 1, m => CVS f g E n m + f n * CVI g n (E + 1) m
theorem CVI.pe {p : Int} {g g' : Nat → Int} {i m : Nat} {j : Int} (h : ∀ k : Nat, (k : Int) < j → PmE p (g k) (g' k)) : PmE p (CVI g i j m) (CVI g' i j m) := by
  unfold CVI
  by_cases q : i ≤ m ∧ ((m - i : Nat) : Int) < j
  · rw [if_pos q, if_pos q]; exact h _ q.2
  · rw [if_neg q, if_neg q]; exact PmE.rf
theorem CVS.pe {p E : Int} {f f' g g' : Nat → Int} {m : Nat} : ∀ n, (∀ k, k < n → PmE p (f k) (f' k)) → (∀ k : Nat, (k : Int) ≤ E → PmE p (g k) (g' k)) → PmE p (CVS f g E n m) (CVS f' g' E n m)
  | 0, _, _ => PmE.rf
  | n + 1, hf, hg => (CVS.pe n (fun k hk => hf k (by omega)) hg).ad ((hf n (by omega)).ml (CVI.pe (fun k hk => hg k (by omega))))
theorem CVI.z {g : Nat → Int} {i m : Nat} {j : Int} (h : j ≤ 0) : CVI g i j m = 0 := if_neg (by omega)
theorem CVI.o {g : Nat → Int} {i m : Nat} {j j' : Int} (hj : 0 ≤ j) (e : j' = j + 1) (h : (m : Int) ≠ i + j) : CVI g i j' m = CVI g i j m := by
  unfold CVI
  by_cases q : i ≤ m ∧ ((m - i : Nat) : Int) < j
  · rw [if_pos q, if_pos (by omega)]
  · rw [if_neg q, if_neg (by omega)]
theorem CVI.n {g : Nat → Int} {i m : Nat} {j j' : Int} (hj : 0 ≤ j) (e : j' = j + 1) (h : (m : Int) = i + j) : CVI g i j m = 0 ∧ CVI g i j' m = g j.toNat := by
  unfold CVI
  rw [if_neg (by omega), if_pos (by omega), show m - i = j.toNat from by omega]
  exact ⟨rfl, rfl⟩
/-- addProduct: i of the first form's numbers are through -/
def APX (I' : IT) (b : Nat) (p D t E : Int) (o f g : Nat → Int) (i : Int) : Prop := VRX I' b p D (fun m => o m + t * CVS f g E i.toNat m)
def APJ (I' : IT) (b : Nat) (p D t E : Int) (o f g : Nat → Int) (i u j : Int) : Prop := VRX I' b p D (fun m => o m + t * CVS f g E i.toNat m + u * CVI g i.toNat j m)
theorem APX.z {I' : IT} {b : Nat} {p D t E i : Int} {f g : Nat → Int} (h : BNX I' b D p) (hi : i = 0) : APX I' b p D t E (NF I' b) f g i := fun m hm => by
  subst hi
  have q := h m hm
  refine ⟨q.1, q.2, ?_⟩
  show PmE p (I' b m).toInt ((I' b m).toInt + t * 0)
  rw [Int.mul_zero, Int.add_zero]; exact PmE.rf
theorem APJ.z {I' : IT} {b : Nat} {p D t E i u j : Int} {o f g : Nat → Int} (h : APX I' b p D t E o f g i) (hj : j = 0) : APJ I' b p D t E o f g i u j := fun m hm => by
  have q := h m hm
  refine ⟨q.1, q.2.1, ?_⟩
  show PmE p _ (o m + t * CVS f g E i.toNat m + u * CVI g i.toNat j m)
  rw [CVI.z (by omega), Int.mul_zero, Int.add_zero]; exact q.2.2
theorem APJ.e {I' : IT} {b : Nat} {p D t E i u j i' : Int} {o f g : Nat → Int} (h : APJ I' b p D t E o f g i u j) (hu : PmE p u (f i.toNat * t)) (hx : u = 0 ∨ E < j) (hj : j ≤ E + 1) (h0 : 0 ≤ i) (hi : i' = i + 1) : APX I' b p D t E o f g i' := fun m hm => by
  have q := h m hm
  refine ⟨q.1, q.2.1, q.2.2.tr ?_⟩
  show PmE p (o m + t * CVS f g E i.toNat m + u * CVI g i.toNat j m) (o m + t * CVS f g E i'.toNat m)
  rw [show i'.toNat = i.toNat + 1 from by omega]
  show PmE p _ (o m + t * (CVS f g E i.toNat m + f i.toNat * CVI g i.toNat (E + 1) m))
  rw [show o m + t * (CVS f g E i.toNat m + f i.toNat * CVI g i.toNat (E + 1) m) = o m + t * CVS f g E i.toNat m + f i.toNat * t * CVI g i.toNat (E + 1) m from by grind]
  refine PmE.rf.ad ?_
  rcases hx with hx | hx
  · rw [hx] at hu ⊢
    rw [Int.zero_mul]
    have := hu.ml (PmE.rf (x := CVI g i.toNat (E + 1) m))
    rwa [Int.zero_mul] at this
  · rw [show j = E + 1 from by omega]; exact hu.ml PmE.rf
theorem APJ.s {I1 I2 : IT} {b gb : Nat} {p D D2 t E : Int} {o f : Nat → Int} {i u j j' k k2 a c m s v : Int32} {l : Int64} {I0 : IT} (h : APJ I1 b p D t E o f (NF I0 gb) i.toInt u.toInt j.toInt) (ga : GTD a.toInt D2 (fun n => (I1 b n).toInt) k.toInt) (gc : GTD c.toInt E (fun n => (I1 gb n).toInt) j.toInt) (eg : I1 gb = I0 gb) (hg : BNX I0 gb E p) (mm : MXD m u c) (ad : ADX s a m) (hl : l.toInt = s.toInt) (ho : v.toInt = l.toInt % p) (st : STD I1 I2 b k2 v) (hk2 : k2.toInt = i.toInt + j.toInt) (hp : 0 < p ∧ p ≤ 19) (hu : 0 ≤ u.toInt ∧ u.toInt ≤ 18) (hi : 0 ≤ i.toInt) (hj : 0 ≤ j.toInt) (hjE : j.toInt ≤ E) (hk : k.toInt = i.toInt + j.toInt) (hkD : k.toInt ≤ D) (hkD2 : k.toInt ≤ D2) (h40 : k.toInt < 41) (hj' : j'.toInt = j.toInt + 1) : APJ I2 b p D t E o f (NF I0 gb) i.toInt u.toInt j'.toInt := fun n hn => by
  have ek : k2 = k := Int32.toInt_inj.mp (by omega)
  subst ek
  have n0 := ncz (x := k2) (by omega)
  have nj := ncz hj
  have q := h n hn
  rw [st.1 (by omega) h40]
  by_cases z : n = k2.toNatClampNeg
  · subst z
    rw [u2_s]
    have va : a.toInt = (I1 b k2.toNatClampNeg).toInt := ga.i (by omega) hkD2
    have vc : c.toInt = NF I0 gb j.toNatClampNeg := by
      have x : c.toInt = (I1 gb j.toNatClampNeg).toInt := gc.i hj hjE
      rw [x, eg]; rfl
    have bc := hg j.toNatClampNeg (by omega)
    have bc : 0 ≤ NF I0 gb j.toNatClampNeg ∧ NF I0 gb j.toNatClampNeg < p := bc
    have q1 := mm (by omega) (by omega) (by omega) (by omega)
    have r1 := mul_ab (u := u.toInt) (v := c.toInt) (by omega) (by omega) (by omega) (by omega)
    have q2 := ad (by omega) (by omega)
    obtain ⟨c0, c1⟩ := CVI.n (g := NF I0 gb) (i := i.toInt.toNat) (m := k2.toNatClampNeg) hj hj' (by omega)
    refine ⟨by rw [ho]; exact Int.emod_nonneg _ (by omega), by rw [ho]; exact Int.emod_lt_of_pos _ hp.1, ?_⟩
    show PmE p v.toInt (o k2.toNatClampNeg + t * CVS f (NF I0 gb) E i.toInt.toNat k2.toNatClampNeg + u.toInt * CVI (NF I0 gb) i.toInt.toNat j'.toInt k2.toNatClampNeg)
    have q3 : PmE p (I1 b k2.toNatClampNeg).toInt (o k2.toNatClampNeg + t * CVS f (NF I0 gb) E i.toInt.toNat k2.toNatClampNeg + u.toInt * CVI (NF I0 gb) i.toInt.toNat j.toInt k2.toNatClampNeg) := q.2.2
    rw [c0, Int.mul_zero, Int.add_zero] at q3
    rw [c1, ho, hl, q2, q1, va, vc]
    exact (PmE.em _).tr (q3.ad PmE.rf)
  · rw [u2_k z]
    refine ⟨q.1, q.2.1, ?_⟩
    show PmE p _ (o n + t * CVS f (NF I0 gb) E i.toInt.toNat n + u.toInt * CVI (NF I0 gb) i.toInt.toNat j'.toInt n)
    rw [CVI.o hj hj' (by omega)]; exact q.2.2
theorem APX.e {I' : IT} {b : Nat} {p D t E i D1 : Int} {o f g : Nat → Int} (h : APX I' b p D t E o f g i) (hi : i = D1 + 1) : VRX I' b p D (fun m => o m + t * CVS f g E (D1 + 1).toNat m) := by subst hi; exact h
theorem IMX.t {w x t : Int32} (m : IMX w x t) (hx : 0 ≤ x.toInt ∧ x.toInt ≤ 18) (ht : -100 ≤ t.toInt ∧ t.toInt ≤ 100) : w.toInt = x.toInt * t.toInt := by
  have a : x.toInt * t.toInt ≤ 18 * 100 := by
    rcases Int.lt_or_le t.toInt 0 with c | c
    · have := Int.mul_nonneg hx.1 (show 0 ≤ -t.toInt by omega)
      rw [Int.mul_neg] at this; omega
    · exact Int.mul_le_mul hx.2 ht.2 c (by decide)
  have b : -(18 * 100) ≤ x.toInt * t.toInt := by
    rcases Int.lt_or_le t.toInt 0 with c | c
    · have := Int.mul_le_mul hx.2 (show -t.toInt ≤ 100 by omega) (by omega) (by decide)
      rw [Int.mul_neg] at this; omega
    · have := Int.mul_nonneg hx.1 c; omega
  exact m (by omega) (by omega)
/-- numbers of an overlap -/
def BNI (k : Int) : Nat → Int
  | 0 => 1
  | i + 1 => BNI k i * (k - i) / (i + 1)
def SGI (i : Nat) : Int := if i % 2 = 0 then 1 else -1
theorem BNI.b {k : Int} {i : Nat} (h0 : 0 ≤ k) (h8 : k ≤ 8) (hi : (i : Int) ≤ k + 1) : 0 ≤ BNI k i ∧ BNI k i ≤ 70 := by
  have h : ∀ a : Nat, a < 9 → ∀ b : Nat, b < 10 → 0 ≤ BNI a b ∧ BNI a b ≤ 70 := by decide
  have := h k.toNat (by omega) i (by omega)
  rwa [show ((k.toNat : Nat) : Int) = k from by omega] at this
def OVS (f g : Nat → Int) (D E k : Int) : Nat → Nat → Int
  | 0, _ => 0
  | i + 1, m => OVS f g D E k i m + SGI i * BNI k i * CVS (DIF f D (k.toNat - i) i) (DIF g E i (k.toNat - i)) (E - k) (D - k + 1).toNat m
theorem OVS.s {f g : Nat → Int} {D E k : Int} {i m : Nat} : OVS f g D E k (i + 1) m = OVS f g D E k i m + SGI i * BNI k i * CVS (DIF f D (k.toNat - i) i) (DIF g E i (k.toNat - i)) (E - k) (D - k + 1).toNat m := rfl
theorem OVX.z {I' : IT} {b : Nat} {p W : Int} {f g : Nat → Int} {D E k n : Int} (h : ∀ j : Nat, j < 41 → (I' b j).toInt = 0) (hW : W ≤ 40) (hp : 0 < p) (hn : n = 0) : VRX I' b p W (OVS f g D E k n.toNat) := fun j hj => by
  subst hn
  rw [h j (by omega)]
  exact ⟨by decide, hp, PmE.rf⟩
theorem VRX.cn {I' : IT} {b : Nat} {p W : Int} {f g : Nat → Int} {D E k : Int} {i : Int32} (h : ∀ j : Nat, j < 41 → (I' b j).toInt = 0) (hW : W ≤ 40) (hp : 0 < p) (hn : i.toInt = 0) : VRX I' b p W (OVS f g D E k i.toNatClampNeg) := by
  rw [nck (x := i) (n := 0) hn]
  exact OVX.z (n := 0) h hW hp rfl
theorem OVX.s {I1 I2 : IT} {b lb rb : Nat} {p W : Int} {f g : Nat → Int} {D E k : Int} {i i' u : Int32} {lD rD W' : Int} (h : VRX I1 b p W (OVS f g D E k i.toNatClampNeg)) (a : VRX I2 b p W' (fun m => NF I1 b m + u.toInt * CVS (NF I1 lb) (NF I1 rb) rD (lD + 1).toNat m)) (hL : VRX I1 lb p lD (DIF f D (k.toNat - i.toNatClampNeg) i.toNatClampNeg)) (hR : VRX I1 rb p rD (DIF g E i.toNatClampNeg (k.toNat - i.toNatClampNeg))) (hu : u.toInt = SGI i.toNatClampNeg * BNI k i.toNatClampNeg) (hlD : lD = D - k) (hrD : rD = E - k) (hW : W' = W) (h0 : 0 ≤ i.toInt) (hi : i'.toInt = i.toInt + 1) : VRX I2 b p W (OVS f g D E k i'.toNatClampNeg) := fun j hj => by
  subst hW
  have n0 := ncz h0
  have n1 := ncz (x := i') (by omega)
  have q := a j hj
  refine ⟨q.1, q.2.1, q.2.2.tr ?_⟩
  rw [show i'.toNatClampNeg = i.toNatClampNeg + 1 from by omega, OVS.s, hu]
  subst hlD; subst hrD
  refine ((h j hj).2.2).ad (PmE.rf.ml (CVS.pe _ (fun m hm => ?_) (fun m hm => ?_)))
  · exact (hL m (by omega)).2.2
  · exact (hR m hm).2.2
theorem SGI.y {i : Int32} {x c : Int32} (hc : c.toInt = i.toInt % 2) (h0 : 0 ≤ i.toInt) {t : Int} (h : c.toInt = 0) (hx : x.toInt = t) : x.toInt = SGI i.toNatClampNeg * t := by
  have n0 := ncz h0
  unfold SGI
  rw [if_pos (by omega)]; omega
theorem SGI.n {i : Int32} {x c : Int32} (hc : c.toInt = i.toInt % 2) (h0 : 0 ≤ i.toInt) {t : Int} (h : c.toInt ≠ 0) (hx : x.toInt = -t) : x.toInt = SGI i.toNatClampNeg * t := by
  have n0 := ncz h0
  unfold SGI
  rw [if_neg (by omega)]; omega
theorem BNI.s {k : Int} {i i' u w d m : Int32} {y : Int32} (h : u.toInt = BNI k i.toNatClampNeg) (mm : IMX m u y) (hy : y.toInt = k - i.toInt) (dd : IDX w m d) (hd : d.toInt = i.toInt + 1) (h0 : 0 ≤ i.toInt) (hk : i.toInt ≤ k) (h8 : k ≤ 8) (hi : i'.toInt = i.toInt + 1) : w.toInt = BNI k i'.toNatClampNeg := by
  have n0 := ncz h0
  have n1 := ncz (x := i') (by omega)
  have b := BNI.b (i := i.toNatClampNeg) (by omega) h8 (by omega)
  have g0 : 0 ≤ u.toInt * y.toInt := Int.mul_nonneg (by omega) (by omega)
  have g1 : u.toInt * y.toInt ≤ 70 * 8 := Int.mul_le_mul (by omega) (by omega) (by omega) (by decide)
  have e := mm (by omega) (by omega)
  have e2 := dd (by omega) (by omega)
  rw [e2, e, show i'.toNatClampNeg = i.toNatClampNeg + 1 from by omega]
  show u.toInt * y.toInt / d.toInt = BNI k i.toNatClampNeg * (k - i.toNatClampNeg) / ((i.toNatClampNeg : Int) + 1)
  rw [hy, hd, h, n0]
theorem DIF.e {f : Nat → Int} {D : Int} {a b k i : Int32} {t : Int} (h : t = f (k.toNatClampNeg + b.toNatClampNeg) * FFP (D - b.toInt - k.toInt) a.toNatClampNeg * FFP (k.toInt + b.toInt) i.toNatClampNeg) (hi : i.toInt = b.toInt) (h0 : 0 ≤ k.toInt) (hb : 0 ≤ b.toInt) : t = DIF f D a.toNatClampNeg b.toNatClampNeg k.toNatClampNeg := by
  have n0 := ncz h0
  have n1 := ncz hb
  rw [h, Int32.toInt_inj.mp hi]
  unfold DIF
  rw [n0, n1]
theorem BNX.c {I I' : IT} {b : Nat} {D D' p : Int} (h : BNX I b D p) (e : I' b = I b) (eD : D' = D) : BNX I' b D' p := by subst eD; exact h.eq e
theorem VRX.df {I9 I1 I0 : IT} {b fb a c : Nat} {p D D' E : Int} {u v : Int32} (h : VRX I9 b p (D' - u.toInt - v.toInt) (DIF (NF I1 fb) D' u.toNatClampNeg v.toNatClampNeg)) (e : I1 fb = I0 fb) (eD : D' = D) (hu : u.toNatClampNeg = a) (hv : v.toNatClampNeg = c) (hE : D - u.toInt - v.toInt = E) : VRX I9 b p E (DIF (NF I0 fb) D a c) := by
  subst eD; subst hu; subst hv; subst hE
  have q : NF I1 fb = NF I0 fb := by unfold NF; rw [e]
  rw [q] at h; exact h
theorem VRX.pc {I' : IT} {b : Nat} {p n n' : Int} {g : Nat → Int} (h : VRX I' b p n g) (e : n' = n) : VRX I' b p n' g := by subst e; exact h
theorem DON.eq' {x y D : Int} {f g : Nat → Int} {k : Int} (h : DON x D f k) (g9 : DON y D g k) (e : ∀ i : Nat, (i : Int) ≤ D → f i = g i) : x = y := by
  by_cases z : k = -1
  · rw [h.1 z, g9.1 z]
  · by_cases q : k < 0 ∨ D < k
    · rw [h.2.1 z q, g9.2.1 z q]
    · rw [h.2.2 (by omega) (by omega), g9.2.2 (by omega) (by omega)]; exact e _ (by omega)
/-- the k-th number of an overlap, its degree, or none -/
def OVQ (x p W k : Int) (g : Nat → Int) : Prop := ∃ v : Nat → Int, (∀ j : Nat, (j : Int) ≤ W → 0 ≤ v j ∧ v j < p ∧ PmE p (v j) (g j)) ∧ DON x W v k
theorem OVQ.of {I' : IT} {b : Nat} {x p W W' k : Int} {g : Nat → Int} (h : VRX I' b p W g) (d : DON x W' (fun j => (I' b j).toInt) k) (e : W' = W) : OVQ x p W k g := by
  subst e
  exact ⟨_, h, d⟩
theorem OVQ.u {x y p W k : Int} {f g : Nat → Int} (h : OVQ x p W k f) (h2 : OVQ y p W k g) (e : ∀ j : Nat, (j : Int) ≤ W → PmE p (f j) (g j)) : x = y := by
  obtain ⟨v, v1, v2⟩ := h
  obtain ⟨w, w1, w2⟩ := h2
  refine DON.eq' v2 w2 (fun j hj => ?_)
  obtain ⟨a1, a2, a3⟩ := v1 j hj
  obtain ⟨b1, b2, b3⟩ := w1 j hj
  exact (a3.tr ((e j hj).tr b3.sy)).eq a1 a2 b1 b2

