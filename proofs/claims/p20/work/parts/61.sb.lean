/-! the reference: independent signs: exactly -/
/-- the numbers drawn as they lie -/
def DRG (g : Nat → Int) (d : Int) (k : Nat) : FVV := (d, fun j => g (k * (d.toNat + 1) + j))
def RWG (p : Int) (g : Nat → Int) (d : Int) (l : List (Int × Int)) (D : Int) (k : Nat) : Int :=
  match VWF (DRG g d (k / (D.toNat + 1))) l with
  | some v => v.2 (k % (D.toNat + 1)) % p
  | none => 0
theorem RWG.f {p : Int} {s : Int32} {d D : Int} {l : List (Int × Int)} {k : Nat} : RWV p s d l D k = RWG p (DRN s) d l D k := rfl
theorem RWG.e {p : Int} {g : Nat → Int} {d D : Int} {l : List (Int × Int)} {v : FVV} {x j k : Nat} (h : VWF (DRG g d x) l = some v) (hk : k = x * (D.toNat + 1) + j) (hj : j < D.toNat + 1) : RWG p g d l D k = v.2 j % p := by
  have e1 : k / (D.toNat + 1) = x := by rw [hk, Nat.mul_comm, Nat.mul_add_div (by omega), Nat.div_eq_of_lt hj]; rfl
  have e2 : k % (D.toNat + 1) = j := by rw [hk, Nat.mul_comm, Nat.mul_add_mod, Nat.mod_eq_of_lt hj]
  unfold RWG
  rw [e1, e2, h]
theorem DRG.q {p : Int} {g g' : Nat → Int} {d : Int} {x : Nat} (hg : ∀ j, j < 12 * (d.toNat + 1) → PmE p (g j) (g' j)) (hx : x < 12) (hd : 0 ≤ d) : FQV p (DRG g d x) (DRG g' d x) := ⟨rfl, fun m hm => hg _ (by
  have hm : (m : Int) ≤ d := hm
  have : x * (d.toNat + 1) ≤ 11 * (d.toNat + 1) := Nat.mul_le_mul_right _ (by omega)
  omega)⟩
theorem RWG.cg {p : Int} {g g' : Nat → Int} {d D : Int} {l : List (Int × Int)} {k : Nat} (hg : ∀ j, j < 12 * (d.toNat + 1) → PmE p (g j) (g' j)) (h : HOV l 0) (hd : 0 ≤ d) (hD : DGL l d = some D) (h0 : 0 ≤ D) (hk : k < 12 * (D.toNat + 1)) : RWG p g d l D k = RWG p g' d l D k := by
  have hx : k / (D.toNat + 1) < 12 := Nat.div_lt_of_lt_mul (by rw [Nat.mul_comm]; exact hk)
  have q := VWF.cg (DRG.q hg hx hd) (show 0 ≤ (DRG g d (k / (D.toNat + 1))).1 from hd) h
  unfold RWG
  rcases q with ⟨q1, q2⟩ | ⟨v, w, q1, q2, q3⟩
  · rw [q1, q2]
  · rw [q1, q2]
    have vd : DGL l d = some v.1 := DGL.y (f := DRG g d (k / (D.toNat + 1))) q1
    rw [hD] at vd
    have vd := Option.some.inj vd
    have := Nat.mod_lt k (show 0 < D.toNat + 1 by omega)
    exact q3.2 _ (by omega)
theorem DRK.w {I1 I2 : IT} {b : Nat} {p : Int} {s k k' v a pp : Int32} (h : DRK I1 b p s 0 k.toInt) (u : I2 = u2 I1 b k.toNatClampNeg v) (hr : RMD v a pp) (hp : pp.toInt = p) (ha : a.toInt = DRN s (0 + k.toNatClampNeg)) (h0 : 0 ≤ k.toInt) (hk : k'.toInt = k.toInt + 1) : DRK I2 b p s 0 k'.toInt := fun j hj => by
  have n0 := ncz h0
  rw [u]
  by_cases z : j = k.toNatClampNeg
  · subst z
    have b := DRN.b (s := s) (n := 0 + k.toNatClampNeg)
    rw [u2_s, hr, hp, ha, Int.tmod_eq_emod_of_nonneg b.1]
  · rw [u2_k z]; exact h j (by omega)
theorem DRK.le {I : IT} {b m : Nat} {p k k' : Int} {s : Int32} (h : DRK I b p s m k) (e : k' ≤ k) : DRK I b p s m k' := fun j hj => h j (by omega)
section AutoS
variable {d : Nat} {q : mm_T} {mc ms : Nat} {Post : Po} {V : V_T} {pc pc2 : Nat} {lv : List (Nat × Value)} {r : List Value} {ck sk : Nat}
theorem z_imulF (C : Cl d q mc ms Post V) {M : Mm} {x y : Int32} {a b c : Int} (hi : cdf q.2.2.2.2.2.2 pc = some (.imul, 1)) (hp : pc + 1 = pc2) (hx : 0 ≤ x.toInt ∧ x.toInt ≤ a) (hy : 0 ≤ y.toInt ∧ y.toInt ≤ b) (hc : a * b = c) (hc2 : c ≤ 2147483647) (h : ∀ w : Int32, (0 ≤ w.toInt ∧ w.toInt ≤ c) ∧ w.toInt = x.toInt * y.toInt → V pc2 lv (.int w :: r) M ck sk) : V pc lv (.int y :: .int x :: r) M ck sk := k_imul C hi hp (h _ (by
  have h1 : 0 ≤ x.toInt * y.toInt := Int.mul_nonneg hx.1 hy.1
  have h2 : x.toInt * y.toInt ≤ a * b := Int.mul_le_mul hx.2 hy.2 hy.1 (by omega)
  rw [ii_mul (by omega)]; exact ⟨by omega, rfl⟩))
end AutoS
/-- rows so far -/
def ROP (rs : Nat → Int32) (a : Nat) (p : Int) (g : Nat → Int) (d : Int) (l : List (Int × Int)) (D n : Int) : Prop := ∀ j : Nat, (j : Int) < n → (rs (a + j)).toInt = RWG p g d l D j
def RWO (rs : Nat → Int32) (a : Nat) (p : Int) (g : Nat → Int) (d : Int) (l : List (Int × Int)) (n4 x : Int) : Prop := x = 0 ∨ (0 < x ∧ ∃ D, DGL l d = some D ∧ (0 ≤ D ∧ D ≤ 40) ∧ (n4 = -1 ∨ D = n4) ∧ ROP rs a p g d l D (x * (D + 1)))
def RWL (l : List (Int × Int)) (d dg lg x : Int) : Prop := x = 0 ∨ ∃ D, DGL l d = some D ∧ dg = D ∧ lg = 12 * (D + 1)
def RGF (I : IT) (nu r : Nat) (g : Nat → Int) (m : Nat) (k : Int) : Prop := ∀ j : Nat, (j : Int) < k → RI I nu r j = g (m + j)
theorem RGF.s {I1 I2 : IT} {nu r m : Nat} {g : Nat → Int} {k k' v : Int32} (h : RGF I1 nu r g m k.toInt) (P : PUTD I1 I2 nu r k.toNatClampNeg v) (hv : v.toInt = g (m + k.toNatClampNeg)) (h0 : 0 ≤ k.toInt) (hk : k'.toInt = k.toInt + 1) : RGF I2 nu r g m k'.toInt := fun j hj => by
  have n0 := ncz h0
  show (I2 nu (41 * r + j)).toInt = _
  by_cases z : j = k.toNatClampNeg
  · subst z; rw [P.1]; exact hv
  · rw [P.2 _ (by omega)]; exact h j (by omega)
theorem RGF.z {I : IT} {nu r m : Nat} {g : Nat → Int} {k : Int} (h : k = 0) : RGF I nu r g m k := fun j hj => by omega
theorem RGF.r {I1 I : IT} {b : Nat} {x y d k i w : Int32} {v : Int32} (e : I1 b i.toNatClampNeg = v) (eb : I1 b = I b) (m : w.toInt = x.toInt * y.toInt) (hy : y.toInt = d.toInt + 1) (hi : i.toInt = w.toInt + k.toInt) (hx : 0 ≤ x.toInt) (hd : 0 ≤ d.toInt) (hk : 0 ≤ k.toInt) : v.toInt = (I b (x.toNatClampNeg * (d.toInt.toNat + 1) + k.toNatClampNeg)).toInt := by
  have n0 := ncz hx
  have n1 := ncz hk
  have em : w.toInt = ((x.toNatClampNeg * (d.toInt.toNat + 1) : Nat) : Int) := by
    rw [m, hy, Int.natCast_mul, n0, show ((d.toInt.toNat + 1 : Nat) : Int) = d.toInt + 1 from by omega]
  have n2 := ncz (x := i) (by omega)
  rw [← e, eb, show i.toNatClampNeg = x.toNatClampNeg * (d.toInt.toNat + 1) + k.toNatClampNeg from by omega]
theorem RWO.eq {rs rs' : Nat → Int32} {a : Nat} {p d n4 x : Int} {g : Nat → Int} {l : List (Int × Int)} (h : RWO rs a p g d l n4 x) (e : rs' = rs) : RWO rs' a p g d l n4 x := by subst e; exact h
theorem VRW.dr {I : IT} {dg nu r x : Nat} {g : Nat → Int} {p d k : Int} (h : RGF I nu r g (x * (d.toNat + 1)) k) (hd : (I dg r).toInt = d) (hk : d < k) (h0 : 0 ≤ d ∧ d ≤ 8) (hx : x < 12) (hc : ∀ j : Nat, (j : Int) < 12 * (d + 1) → 0 ≤ g j ∧ g j < p) : VRW I dg nu r p (DRG g d x) := ⟨hd, h0.1, by show d ≤ 40; omega, fun j hj => by
  have hj : (j : Int) ≤ d := hj
  have : x * (d.toNat + 1) ≤ 11 * (d.toNat + 1) := Nat.mul_le_mul_right _ (by omega)
  have b := hc (x * (d.toNat + 1) + j) (by omega)
  rw [h j (by omega)]; exact ⟨b.1, b.2, PmE.rf⟩⟩
theorem ROP.z {rs : Nat → Int32} {a : Nat} {p d n4 x D : Int} {g : Nat → Int} {l : List (Int × Int)} (h : RWO rs a p g d l n4 x) (hD : DGL l d = some D) : ROP rs a p g d l D (x * (D + 1)) := by
  rcases h with h | ⟨h, D', h1, h2, h3, h4⟩
  · rw [h, Int.zero_mul]; exact fun j hj => by omega
  · rw [hD] at h1
    have h1 := Option.some.inj h1
    rw [h1]; exact h4
theorem ROP.k {rs : Nat → Int32} {a : Nat} {p d D n n' : Int} {g : Nat → Int} {l : List (Int × Int)} (h : ROP rs a p g d l D n) (e : n' = n) : ROP rs a p g d l D n' := by subst e; exact h
theorem ROP.s {I1 I2 I : IT} {rs dg nu : Nat} {p d : Int} {g : Nat → Int} {l : List (Int × Int)} {v : FVV} {x a k k' i w : Int32} (h : ROP (I1 rs) a.toNatClampNeg p g d l v.1 (x.toInt * (v.1 + 1) + k.toInt)) (hvo : VWF (DRG g d x.toNatClampNeg) l = some v) (hw : VRW I dg nu 0 p v) (u : I2 = u2 I1 rs i.toNatClampNeg w) (hi : i.toInt = a.toInt + x.toInt * (v.1 + 1) + k.toInt) (ho : w.toInt = RI I nu 0 k.toNatClampNeg) (h0 : 0 ≤ k.toInt) (hx : 0 ≤ x.toInt) (ha : 0 ≤ a.toInt) (hk : k.toInt ≤ v.1) (e : k'.toInt = k.toInt + 1) (hp : 0 < p) : ROP (I2 rs) a.toNatClampNeg p g d l v.1 (x.toInt * (v.1 + 1) + k'.toInt) := fun j hj => by
  have n0 := ncz h0
  have n1 := ncz hx
  have n2 := ncz ha
  have hm : 0 ≤ x.toInt * (v.1 + 1) := Int.mul_nonneg hx (by have := hw.2.1; omega)
  have n3 := ncz (x := i) (by omega)
  have em : x.toInt * (v.1 + 1) = ((x.toNatClampNeg * (v.1.toNat + 1) : Nat) : Int) := by
    rw [Int.natCast_mul, n1, show ((v.1.toNat + 1 : Nat) : Int) = v.1 + 1 from by have := hw.2.1; omega]
  rw [u]
  by_cases z : (j : Int) = x.toInt * (v.1 + 1) + k.toInt
  · have ej : j = x.toNatClampNeg * (v.1.toNat + 1) + k.toNatClampNeg := by omega
    rw [show a.toNatClampNeg + j = i.toNatClampNeg from by omega, u2_s, ho, RWG.e hvo ej (by omega)]
    obtain ⟨b1, b2, b3⟩ := hw.2.2.2 k.toNatClampNeg (by omega)
    exact PmE.eq (b3.tr (PmE.em _).sy) b1 b2 (Int.emod_nonneg _ (by omega)) (Int.emod_lt_of_pos _ hp)
  · rw [u2_k (by omega)]; exact h j (by omega)
theorem RWO.s {rs : Nat → Int32} {a : Nat} {p d n4 D : Int} {g : Nat → Int} {l : List (Int × Int)} {x x' k : Int32} (h : ROP rs a p g d l D (x.toInt * (D + 1) + k.toInt)) (hD : DGL l d = some D) (b : 0 ≤ D ∧ D ≤ 40) (hn : n4 = -1 ∨ D = n4) (hk : D < k.toInt) (h0 : 0 ≤ x.toInt) (e : x'.toInt = x.toInt + 1) : RWO rs a p g d l n4 x'.toInt := Or.inr ⟨by omega, D, hD, b, hn, fun j hj => h j (by
  rw [e, Int.add_mul, Int.one_mul] at hj
  omega)⟩
/-- what a row told comes to -/
def RWE (I9 : IT) (dg rs : Nat) (lg : Int32) (a : Nat) (p : Int) (g : Nat → Int) (d : Int) (l : List (Int × Int)) (n4 : Int) : Prop := ∃ D, DGL l d = some D ∧ (0 ≤ D ∧ D ≤ 40) ∧ (n4 = -1 ∨ D = n4) ∧ (I9 dg 0).toInt = D ∧ lg.toInt = 12 * (D + 1) ∧ ROP (I9 rs) a p g d l D (12 * (D + 1))
theorem RWE.of {I9 : IT} {dg rs : Nat} {a : Nat} {p d n4 : Int} {g : Nat → Int} {l : List (Int × Int)} {x : Int32} {y lg : Int32} (h : RWO (I9 rs) a p g d l n4 x.toInt) (h2 : RWL l d y.toInt lg.toInt x.toInt) (hx : x.toInt = 12) (e : I9 dg 0 = y) : RWE I9 dg rs lg a p g d l n4 := by
  rw [hx] at h h2
  rcases h with h | ⟨h, D, h1, h2', h3, h4⟩
  · omega
  · rcases h2 with q | ⟨D', q1, q2, q3⟩
    · omega
    · rw [h1] at q1
      have q1 := Option.some.inj q1
      exact ⟨D, h1, h2', h3, by rw [e]; omega, by omega, h4⟩
/-- a row within the rows -/
def OFS (f : Nat → Int32) (a : Nat) : IT := fun _ j => f (a + j)
theorem EDM.o {I1 I2 : IT} {b a : Nat} {E1 E0 : Nat → Int} {w : Int} {k k' i v : Int32} (q : EDM (OFS (I1 b) a) 0 E1 E0 w k.toInt) (u : I2 = u2 I1 b i.toNatClampNeg v) (hi : i.toNatClampNeg = a + k.toNatClampNeg) (hv : v.toInt = E1 k.toNatClampNeg) (h0 : 0 ≤ k.toInt) (hk : k'.toInt = k.toInt + 1) : EDM (OFS (I2 b) a) 0 E1 E0 w k'.toInt := fun j hj => by
  have n0 := ncz h0
  show (I2 b (a + j)).toInt = _
  rw [u]
  by_cases z : j = k.toNatClampNeg
  · subst z
    rw [← hi, u2_s, if_pos (by omega)]; exact hv
  · rw [u2_k (by omega)]
    have e := q j hj
    have e : (I1 b (a + j)).toInt = _ := e
    rw [e]
    by_cases c : (j : Int) < k.toInt
    · rw [if_pos c, if_pos (by omega)]
    · rw [if_neg c, if_neg (by omega)]
/-- a row as it lies -/
def RRW (rs : Nat → Int32) (r k : Nat) : Int := (rs (492 * r + k)).toInt
def REL (rs : Nat → Int32) (p : Int) (w m n : Nat) : Nat → Int := ELM p (fun r => NRW p (RRW rs r) (FSW (RRW rs r) w)) (fun r => FSW (RRW rs r) w) (RRW rs m) n
def RCX (rs : Nat → Int32) (p w : Int) (m : Nat) : Prop := ∀ r, r ≤ m → ∀ k : Nat, (k : Int) < w → 0 ≤ RRW rs r k ∧ RRW rs r k < p
theorem REL.b {rs : Nat → Int32} {p w : Int} {m n k : Nat} (h : RCX rs p w m) (hp : 0 < p) (hk : (k : Int) < w) : 0 ≤ REL rs p w.toNat m n k ∧ REL rs p w.toNat m n k < p := ELM.b hp (h m (Nat.le_refl _) k hk) n
theorem EDN.zo {I' I : IT} {b a m : Nat} {p w : Int} {k : Int32} (e : I' b = I b) (ha : a = 492 * m) (hk : k.toInt = 0) : EDN (OFS (I' b) a) 0 (REL (I b) p w.toNat m k.toNatClampNeg) w := fun j _ => by
  have n0 := ncz (x := k) (by omega)
  rw [show k.toNatClampNeg = 0 from by omega]
  show (I' b (a + j)).toInt = (I b (492 * m + j)).toInt
  rw [e, ha]
theorem REL.l {I1 I : IT} {b a r : Nat} {i x : Int32} {lg : Int} (fr : ∀ j, j < a → I1 b j = I b j) (az : AZ I1 b i.toNatClampNeg x.toInt) (ne : x.toInt < lg → NE1 I1 b (i.toNatClampNeg + x.toNatClampNeg)) (hi : i.toNatClampNeg = 492 * r) (ha : 492 * r + 492 ≤ a) (h0 : 0 ≤ x.toInt) (hx : x.toInt < lg) (hl : lg ≤ 492) : FSW (RRW (I b) r) lg.toNat = x.toNatClampNeg := by
  have n0 := ncz h0
  refine FSX.w (row := RRW (I b) r) ⟨by omega, fun j hj => ?_, fun _ => ?_⟩ (fun j _ => rfl)
  · show (I b (492 * r + j)).toInt = 0
    rw [← fr _ (by omega), ← hi]; exact az j (by omega)
  · show (I b (492 * r + x.toNatClampNeg)).toInt ≠ 0
    rw [← fr _ (by omega), ← hi]; exact ne hx
theorem IVP.c {p a x : Int} (hp : PRM p) (h0 : 0 < a) (h1 : a < p) (h : (a * x) % p = 1) : PmE p x (IVP p a) := by
  have p0 : 0 < p := by omega
  have b : 0 ≤ x % p ∧ x % p < p := ⟨Int.emod_nonneg _ (by omega), Int.emod_lt_of_pos _ p0⟩
  have e : PmE p (a * (x % p)) (a * x) := PmE.rf.ml (PmE.em x)
  have g := IVP.u hp h0 h1 b (e.trans h)
  unfold PmE
  rw [← g, Int.emod_emod_of_dvd x (Int.dvd_refl p)]
theorem TMD.n {w a b p : Int} (t : TMD w a b p) (ha : 0 ≤ a) (hb : 0 ≤ b) : w = (a * b) % p := by
  unfold TMD at t
  rw [t, Int.tmod_eq_emod_of_nonneg (Int.mul_nonneg ha hb)]
theorem REL.v {rs : Nat → Int32} {p w : Int} {m n k : Nat} {by9 a o t v x ol : Int} (h : RCX rs p w m) (hP : PRM p) (hn : n < m) (hk : (k : Int) < w) {f : Nat} (hf : FSW (RRW rs n) w.toNat = f) (fw : (f : Int) < w) (hl : RRW rs n f = ol) (h0 : ol ≠ 0) (hx : INVQ x ol p) (x0 : 0 ≤ x) (hby : TMD by9 (REL rs p w.toNat m n f) x p) (ha : a = REL rs p w.toNat m n k) (ho : o = RRW rs n k) (ht : TMD t by9 o p) (hv : LSD v a t p) : v = REL rs p w.toNat m (n + 1) k := by
  have p0 : 0 < p := by unfold PRM at hP; omega
  have bl := h n (by omega) f fw
  rw [hl] at bl
  have bo := h n (by omega) k hk
  rw [← ho] at bo
  have bf := REL.b (n := n) (k := f) h p0 fw
  have bk := REL.b (n := n) (k := k) h p0 hk
  rw [← ha] at bk
  have iv := IVP.c hP (by omega) bl.2 (hx (by omega) bl.2 h0)
  have e1 := hby.n bf.1 x0
  have b1 : 0 ≤ by9 ∧ by9 < p := by rw [e1]; exact ⟨Int.emod_nonneg _ (by omega), Int.emod_lt_of_pos _ p0⟩
  have e2 := ht.n b1.1 bo.1
  have b2 : 0 ≤ t ∧ t < p := by rw [e2]; exact ⟨Int.emod_nonneg _ (by omega), Int.emod_lt_of_pos _ p0⟩
  unfold LSD at hv
  rw [Int.tmod_eq_emod_of_nonneg (by omega)] at hv
  show v = (REL rs p w.toNat m n k - REL rs p w.toNat m n (FSW (RRW rs n) w.toNat) * NRW p (RRW rs n) (FSW (RRW rs n) w.toNat) k) % p
  rw [hf, ← ha, hv]
  have q1 : PmE p by9 (REL rs p w.toNat m n f * IVP p ol) := by
    rw [e1]; exact (PmE.em _).tr (PmE.rf.ml iv)
  have q2 : PmE p t (REL rs p w.toNat m n f * NRW p (RRW rs n) f k) := by
    rw [e2]
    refine (PmE.em _).tr ((q1.ml (PmE.rf (x := o))).tr ?_)
    unfold NRW
    rw [hl, ← ho, Int.mul_assoc, Int.mul_comm (IVP p ol) o]
    exact PmE.rf.ml (PmE.em _).sy
  have q3 : PmE p (a - t + p) (a - REL rs p w.toNat m n f * NRW p (RRW rs n) f k) := by
    have z : PmE p (a - t + p) (a - t) := by
      unfold PmE
      rw [show a - t + p = a - t + p * 1 from by omega, Int.add_mul_emod_self_left]
    refine z.tr ?_
    unfold PmE at *
    rw [Int.sub_emod, q2, ← Int.sub_emod]
  exact q3
theorem EDN.so {I' : IT} {rs : Nat → Int32} {b a m : Nat} {p : Int} {w : Int} {k k' : Int32} (q : EDN (OFS (I' b) a) 0 (REL rs p w.toNat m (k.toNatClampNeg + 1)) w) (h0 : 0 ≤ k.toInt) (hk : k'.toInt = k.toInt + 1) : EDN (OFS (I' b) a) 0 (REL rs p w.toNat m k'.toNatClampNeg) w := by
  have n0 := ncz h0
  have n1 := ncz (x := k') (by omega)
  rw [show k'.toNatClampNeg = k.toNatClampNeg + 1 from by omega]; exact q
theorem RWG.b {p : Int} {g : Nat → Int} {d D : Int} {l : List (Int × Int)} {k : Nat} (hp : 0 < p) : 0 ≤ RWG p g d l D k ∧ RWG p g d l D k < p := by
  unfold RWG
  cases VWF (DRG g d (k / (D.toNat + 1))) l with
  | none => exact ⟨Int.le_refl 0, hp⟩
  | some v => exact ⟨Int.emod_nonneg _ (by omega), Int.emod_lt_of_pos _ hp⟩
theorem NRW.cg {p : Int} {r r' : Nat → Int} {f w : Nat} (h : ∀ k, k < w → r k = r' k) (hf : f < w) {k : Nat} (hk : k < w) : NRW p r f k = NRW p r' f k := by
  unfold NRW; rw [h k hk, h f hf]
/-- the rows that lie are the rows told -/
def SPR (rs : Nat → Int32) (p : Int) (o : Option SPS) (x : Int32) (n mn D : Int) : Prop := ∃ t, o = some (t, x, D) ∧ mn = ((t.1 : Nat) : Int) ∧ mn ≤ n ∧ (-1 ≤ D ∧ D ≤ 40) ∧ (D = -1 → t.1 = 0) ∧ ∀ i, i < t.1 → (∀ k, k < 12 * (D.toNat + 1) → NRW p (RRW rs i) (FSW (RRW rs i) (12 * (D.toNat + 1))) k = t.2.1 i k ∧ 0 ≤ RRW rs i k ∧ RRW rs i k < p) ∧ FSW (RRW rs i) (12 * (D.toNat + 1)) = t.2.2 i ∧ t.2.2 i < 12 * (D.toNat + 1)
theorem SPR.z {rs : Nat → Int32} {p n mn D : Int} {x s : Int32} {d set nS : Int} {L : Nat → List (Int × Int)} {k : Int32} (hx : x.toInt = 0) (hk : k.toInt = 0) (hm : mn = 0) (hn : n = 0) (hD : D = -1) : SPR rs p (SPF p s d set nS L k.toNatClampNeg) x n mn D := by
  have n0 := ncz (x := k) (by omega)
  rw [show k.toNatClampNeg = 0 from by omega, ceq0 hx]
  subst hD
  exact ⟨_, rfl, hm, by omega, by omega, fun _ => rfl, fun i hi => absurd hi (Nat.not_lt_zero _)⟩
theorem SPR.k {rs : Nat → Int32} {p mn D : Int} {x s : Int32} {d set nS : Int} {L : Nat → List (Int × Int)} {k k' : Int32} (h : SPR rs p (SPF p s d set nS L k.toNatClampNeg) x k.toInt mn D) (hq : ¬ set / 2 ^ k.toNatClampNeg % 2 = 1) (h0 : 0 ≤ k.toInt) (hk : k'.toInt = k.toInt + 1) : SPR rs p (SPF p s d set nS L k'.toNatClampNeg) x k'.toInt mn D := by
  have n0 := ncz h0
  have n1 := ncz (x := k') (by omega)
  obtain ⟨t, h1, h2, h3, h4⟩ := h
  rw [show k'.toNatClampNeg = k.toNatClampNeg + 1 from by omega, SPF.k h1 (fun q => hq q.1)]
  exact ⟨t, rfl, h2, by omega, h4⟩
theorem SPR.no {rs : Nat → Int32} {p mn D : Int} {x s : Int32} {d set nS : Int} {L : Nat → List (Int × Int)} {k : Int32} (h : SPR rs p (SPF p s d set nS L k.toNatClampNeg) x k.toInt mn D) (hq : set / 2 ^ k.toNatClampNeg % 2 = 1) (hn : k.toInt < nS) (h0 : 0 ≤ k.toInt) (h8 : k.toInt < 8) (hd : DGL (L k.toNatClampNeg) d = none ∨ ∃ D', DGL (L k.toNatClampNeg) d = some D' ∧ D ≠ -1 ∧ D' ≠ D) : SPF p s d set nS L 8 = none := by
  have n0 := ncz h0
  obtain ⟨t, h1, h2, h3, h4⟩ := h
  have hz : SPF p s d set nS L (k.toNatClampNeg + 1) = none := by
    rw [SPF.s h1 hq (by omega)]
    rcases hd with g | ⟨D', g, g1, g2⟩
    · unfold SPB; rw [g]
    · unfold SPB; rw [g]
      show (if D ≠ -1 ∧ D' ≠ D then none else _) = none
      rw [if_pos ⟨g1, g2⟩]
  have := SPF.n hz (8 - (k.toNatClampNeg + 1))
  rw [show k.toNatClampNeg + 1 + (8 - (k.toNatClampNeg + 1)) = 8 from by omega] at this
  exact this
theorem SPR.q {rs : Nat → Int32} {p n mn D : Int} {x s : Int32} {d set nS : Int} {L : Nat → List (Int × Int)} {k : Int32} (h : SPR rs p (SPF p s d set nS L k.toNatClampNeg) x n mn D) (hk : nS ≤ k.toInt) (h0 : 0 ≤ k.toInt) (h8 : k.toInt ≤ 8) : SPQ x (SPF p s d set nS L 8) := by
  have n0 := ncz h0
  obtain ⟨t, h1, -⟩ := h
  have := SPF.e (p := p) (s := s) (d := d) (set := set) (L := L) (n := k.toNatClampNeg) (nS := nS) (by omega) (8 - k.toNatClampNeg)
  rw [show k.toNatClampNeg + (8 - k.toNatClampNeg) = 8 from by omega] at this
  exact Or.inr ⟨_, this.trans h1, rfl⟩
theorem SPR.c {rs1 rs2 : Nat → Int32} {p n D D' : Int} {o : Option SPS} {x mn : Int32} {d : Int} {g : Nat → Int} {l : List (Int × Int)} {lg : Int} (h : SPR rs1 p o x n mn.toInt D) (fr1 : ∀ r : Nat, (r < 492 * mn.toNatClampNeg ∨ 492 * mn.toNatClampNeg + 492 ≤ r) → rs2 r = rs1 r) (hp : 0 < p) (hdd : D = -1 ∨ D' = D) (b : 0 ≤ D' ∧ D' ≤ 40) (rop : ROP rs2 (492 * mn.toNatClampNeg) p g d l D' (12 * (D' + 1))) (hl : lg = 12 * (D' + 1)) : RCX rs2 p lg mn.toNatClampNeg := fun r hr k hk => by
  obtain ⟨t, h1, h2, h3, h4, h5, h6⟩ := h
  have m0 := ncz (x := mn) (by omega)
  by_cases q : r = mn.toNatClampNeg
  · subst q
    have e : RRW rs2 mn.toNatClampNeg k = RWG p g d l D' k := rop k (by omega)
    rw [e]; exact RWG.b hp
  · obtain ⟨a1, -⟩ := h6 r (by omega)
    have hD : D = D' := by
      rcases hdd with c | c
      · have := h5 c; omega
      · exact c.symm
    rw [hD] at a1
    obtain ⟨-, a2, a3⟩ := a1 k (by omega)
    have e : RRW rs2 r k = RRW rs1 r k := congrArg Int32.toInt (fr1 _ (by omega))
    rw [e]; exact ⟨a2, a3⟩
theorem SPR.h {rs1 rs2 rs3 : Nat → Int32} {p set nS d D D' lg : Int} {x x2 s v mn mn2 n n' : Int32} {LL : Nat → List (Int × Int)} {g : Nat → Int} (h : SPR rs1 p (SPF p s d set nS LL n.toNatClampNeg) x n.toInt mn.toInt D) (hq : set / 2 ^ n.toNatClampNeg % 2 = 1) (hn : n.toInt < nS) (h0 : 0 ≤ n.toInt) (hp : 0 < p) (hd : 0 ≤ d) (hov : HOV (LL n.toNatClampNeg) 0) (hg : ∀ j, j < 12 * (d.toNat + 1) → PmE p (g j) (DRN s j)) (fr1 : ∀ r : Nat, (r < 492 * mn.toNatClampNeg ∨ 492 * mn.toNatClampNeg + 492 ≤ r) → rs2 r = rs1 r) (g1 : DGL (LL n.toNatClampNeg) d = some D') (b : 0 ≤ D' ∧ D' ≤ 40) (hdd : D = -1 ∨ D' = D) (rop : ROP rs2 (492 * mn.toNatClampNeg) p g d (LL n.toNatClampNeg) D' (12 * (D' + 1))) (hl : lg = 12 * (D' + 1))
    (fr2 : ∀ r : Nat, (r < 492 * mn.toNatClampNeg ∨ 492 * mn.toNatClampNeg + 492 ≤ r) → rs3 r = rs2 r) (edn : EDN (OFS rs3 (492 * mn.toNatClampNeg)) 0 (REL rs2 p lg.toNat mn.toNatClampNeg mn.toNatClampNeg) lg) (p1 : v.toInt = 1 → FSW (REL rs2 p lg.toNat mn.toNatClampNeg mn.toNatClampNeg) lg.toNat < lg.toNat) (p0 : v.toInt = 0 → ¬ (FSW (REL rs2 p lg.toNat mn.toNatClampNeg mn.toNatClampNeg) lg.toNat < lg.toNat))
    (hx : (v.toInt = 0 ∧ x2 = x ∧ mn2.toInt = mn.toInt) ∨ (v.toInt = 1 ∧ x2 = x ||| BTN (Int32.ofNat n.toNatClampNeg) ∧ mn2.toInt = mn.toInt + 1)) (hn' : n'.toInt = n.toInt + 1) : SPR rs3 p (SPF p s d set nS LL n'.toNatClampNeg) x2 n'.toInt mn2.toInt D' := by
  have n0 := ncz h0
  have n1 := ncz (x := n') (by omega)
  obtain ⟨t, h1, h2, h3, h4, h5, h6⟩ := h
  have m0 := ncz (x := mn) (by omega)
  have mt : mn.toNatClampNeg = t.1 := by omega
  rw [mt] at fr1 fr2 rop edn p1 p0
  have ew : lg.toNat = 12 * (D'.toNat + 1) := by omega
  rw [ew] at edn p1 p0
  have hD : ∀ i, i < t.1 → D = D' := fun i hi => by
    rcases hdd with c | c
    · have := h5 c; omega
    · exact c.symm
  have e2 : ∀ i, i < t.1 → ∀ k, k < 12 * (D'.toNat + 1) → RRW rs2 i k = RRW rs1 i k := fun i hi k hk => congrArg Int32.toInt (fr1 _ (by omega))
  have e3 : ∀ i, i < t.1 → ∀ k, k < 12 * (D'.toNat + 1) → RRW rs3 i k = RRW rs1 i k := fun i hi k hk => (congrArg Int32.toInt (fr2 (492 * i + k) (by omega))).trans (e2 i hi k hk)
  have g6 : ∀ i, i < t.1 → (∀ k, k < 12 * (D'.toNat + 1) → NRW p (RRW rs1 i) (FSW (RRW rs1 i) (12 * (D'.toNat + 1))) k = t.2.1 i k ∧ 0 ≤ RRW rs1 i k ∧ RRW rs1 i k < p) ∧ FSW (RRW rs1 i) (12 * (D'.toNat + 1)) = t.2.2 i ∧ t.2.2 i < 12 * (D'.toNat + 1) := fun i hi => by
    have := h6 i hi
    rw [hD i hi] at this; exact this
  have E : ∀ k, k < 12 * (D'.toNat + 1) → REL rs2 p (12 * (D'.toNat + 1)) t.1 t.1 k = ELM p t.2.1 t.2.2 (RWV p s d (LL n.toNatClampNeg) D') t.1 k := by
    unfold REL
    refine ELM.cg (fun k hk => ?_) t.1 (fun i hi => ?_)
    · have e : RRW rs2 t.1 k = RWG p g d (LL n.toNatClampNeg) D' k := rop k (by omega)
      rw [e, RWG.f]; exact RWG.cg hg hov hd g1 b.1 hk
    · obtain ⟨a1, a2, a3⟩ := g6 i hi
      have ef : FSW (RRW rs2 i) (12 * (D'.toNat + 1)) = t.2.2 i := (FSW.cg (e2 i hi)).trans a2
      refine ⟨fun k hk => ?_, ef, by show FSW (RRW rs2 i) _ < _; rw [ef]; exact a3⟩
      show NRW p (RRW rs2 i) (FSW (RRW rs2 i) (12 * (D'.toNat + 1))) k = _
      rw [ef, NRW.cg (e2 i hi) a3 hk, ← a2]; exact (a1 k hk).1
  have F := FSW.cg E
  have hs : SPF p s d set nS LL n'.toNatClampNeg = some ((SPA p (12 * (D'.toNat + 1)) (RWV p s d (LL n.toNatClampNeg) D') t).2, (if (SPA p (12 * (D'.toNat + 1)) (RWV p s d (LL n.toNatClampNeg) D') t).1 = true then x ||| BTN (Int32.ofNat n.toNatClampNeg) else x), D') := by
    rw [show n'.toNatClampNeg = n.toNatClampNeg + 1 from by omega, SPF.s h1 hq (by omega)]
    unfold SPB; rw [g1]
    show (if D ≠ -1 ∧ D' ≠ D then none else _) = _
    rw [if_neg (fun q => by omega)]
  rw [hs]
  rw [F] at p0 p1
  have gD : ∀ i, i < t.1 → (∀ k, k < 12 * (D'.toNat + 1) → NRW p (RRW rs3 i) (FSW (RRW rs3 i) (12 * (D'.toNat + 1))) k = t.2.1 i k ∧ 0 ≤ RRW rs3 i k ∧ RRW rs3 i k < p) ∧ FSW (RRW rs3 i) (12 * (D'.toNat + 1)) = t.2.2 i ∧ t.2.2 i < 12 * (D'.toNat + 1) := fun i hi => by
    obtain ⟨a1, a2, a3⟩ := g6 i hi
    have ef : FSW (RRW rs3 i) (12 * (D'.toNat + 1)) = t.2.2 i := (FSW.cg (e3 i hi)).trans a2
    refine ⟨fun k hk => ?_, ef, a3⟩
    obtain ⟨b1, b2, b3⟩ := a1 k hk
    rw [ef, NRW.cg (e3 i hi) a3 hk, e3 i hi k hk, ← a2]
    exact ⟨b1, b2, b3⟩
  rcases hx with ⟨x0, x1, x3⟩ | ⟨x0, x1, x3⟩
  · have sp : SPA p (12 * (D'.toNat + 1)) (RWV p s d (LL n.toNatClampNeg) D') t = (false, t) := if_neg (p0 x0)
    rw [sp, x1]
    exact ⟨t, rfl, by omega, by omega, by omega, fun q => by omega, gD⟩
  · have q1 := p1 x0
    have sp : SPA p (12 * (D'.toNat + 1)) (RWV p s d (LL n.toNatClampNeg) D') t = (true, (t.1 + 1, (fun i => if i = t.1 then NRW p (ELM p t.2.1 t.2.2 (RWV p s d (LL n.toNatClampNeg) D') t.1) (FSW (ELM p t.2.1 t.2.2 (RWV p s d (LL n.toNatClampNeg) D') t.1) (12 * (D'.toNat + 1))) else t.2.1 i), (fun i => if i = t.1 then FSW (ELM p t.2.1 t.2.2 (RWV p s d (LL n.toNatClampNeg) D') t.1) (12 * (D'.toNat + 1)) else t.2.2 i))) := if_pos q1
    rw [sp, x1]
    have e9 : ∀ k, k < 12 * (D'.toNat + 1) → RRW rs3 t.1 k = ELM p t.2.1 t.2.2 (RWV p s d (LL n.toNatClampNeg) D') t.1 k := fun k hk => (edn k (by omega)).trans (E k hk)
    have f9 := FSW.cg e9
    refine ⟨_, rfl, by show mn2.toInt = ((t.1 + 1 : Nat) : Int); omega, by omega, by omega, fun q => by omega, fun i hi => ?_⟩
    have hi : i < t.1 + 1 := hi
    show (∀ k, k < 12 * (D'.toNat + 1) → NRW p (RRW rs3 i) (FSW (RRW rs3 i) (12 * (D'.toNat + 1))) k = (if i = t.1 then NRW p (ELM p t.2.1 t.2.2 (RWV p s d (LL n.toNatClampNeg) D') t.1) (FSW (ELM p t.2.1 t.2.2 (RWV p s d (LL n.toNatClampNeg) D') t.1) (12 * (D'.toNat + 1))) else t.2.1 i) k ∧ 0 ≤ RRW rs3 i k ∧ RRW rs3 i k < p) ∧ FSW (RRW rs3 i) (12 * (D'.toNat + 1)) = (if i = t.1 then FSW (ELM p t.2.1 t.2.2 (RWV p s d (LL n.toNatClampNeg) D') t.1) (12 * (D'.toNat + 1)) else t.2.2 i) ∧ (if i = t.1 then FSW (ELM p t.2.1 t.2.2 (RWV p s d (LL n.toNatClampNeg) D') t.1) (12 * (D'.toNat + 1)) else t.2.2 i) < 12 * (D'.toNat + 1)
    by_cases z : i = t.1
    · subst z
      rw [if_pos rfl, if_pos rfl]
      refine ⟨fun k hk => ?_, f9, q1⟩
      rw [f9, NRW.cg e9 q1 hk, e9 k hk]
      exact ⟨rfl, ELM.b hp (RWV.b hp) _⟩
    · rw [if_neg z, if_neg z]; exact gD i (by omega)
theorem SBT.a {w x y v c : Int32} (m : SHR w x y) (a : v = w &&& c) (hc : c.toInt = 1) (h0 : 0 ≤ y.toInt) (h1 : y.toInt ≤ 8) : v.toInt = x.toInt / 2 ^ y.toNatClampNeg % 2 := by
  have n0 := ncz h0
  rw [a, ceq1 hc, and01, m h0 (by omega), show y.toNatClampNeg = y.toInt.toNat from by omega]
theorem DRK.c {I : IT} {b : Nat} {p k : Int} {s : Int32} (h : DRK I b p s 0 k) (hp : 0 < p) : ∀ j : Nat, (j : Int) < k → 0 ≤ (I b j).toInt ∧ (I b j).toInt < p := fun j hj => by
  rw [h j hj]; exact ⟨Int.emod_nonneg _ (by omega), Int.emod_lt_of_pos _ hp⟩
theorem DRK.g {I : IT} {b : Nat} {p d : Int} {s : Int32} (h : DRK I b p s 0 (12 * (d + 1))) (hd : 0 ≤ d) : ∀ j, j < 12 * (d.toNat + 1) → PmE p (I b j).toInt (DRN s j) := fun j hj => by
  rw [h j (by omega), Nat.zero_add]; exact PmE.em _
theorem DRK.eq {I I' : IT} {b m : Nat} {p k : Int} {s : Int32} (h : DRK I b p s m k) (e : I' b = I b) : DRK I' b p s m k := fun j hj => by rw [e]; exact h j hj
theorem a_X12_draws_x {d : Nat} {T N : Nat → Nat} {I : IT} {L : LT} {R : RT} {A : Nat → Prop} {r0 : Nat} {n1 n2 : Int32} (hI : IM R r0 I) (H_r0 : (h_MD T N R A) r0) (b0_n1 : 1 ≤ n1.toInt) (b1_n1 : n1.toInt ≤ 8) : Ex (d + 2) 260 [.ref r0, .int n1, .int n2] (T, N, I, L, R) 0 0 (pV T N R (fun I9 L9 => (∀ a1 a23, R r0 1 = some a1 → R r0 23 = some a23 → DRK I9 a23 (I a1 0).toInt n2 0 (12 * (n1.toInt + 1))) ∧ (IM R r0 I9 ∧ CM A R r0 [] [23] I L I9 L9))) := by
  refine ⟨_, rfl, Nat.le_of_ble_eq_true rfl, fun V C S => ?_⟩
  show V 0 [(0, .ref r0), (1, .int n1), (2, .int n2)] [] (T, N, I, L, R) 0 0
  have gn1 := rg n1
  have gn2 := rg n2
  obtain ⟨T_r0, A_r0, ⟨r0_1, R_r0_1, H_r0_1⟩, ⟨r0_2, R_r0_2, H_r0_2⟩, ⟨r0_4, R_r0_4, H_r0_4⟩, ⟨r0_5, R_r0_5, H_r0_5⟩, ⟨r0_10, R_r0_10, H_r0_10⟩, ⟨r0_18, R_r0_18, H_r0_18⟩, ⟨r0_20, R_r0_20, H_r0_20⟩, ⟨r0_21, R_r0_21, H_r0_21⟩, ⟨r0_22, R_r0_22, H_r0_22⟩, ⟨r0_23, R_r0_23, H_r0_23⟩, ⟨r0_25, R_r0_25, H_r0_25⟩, ⟨r0_26, R_r0_26, H_r0_26⟩, ⟨r0_27, R_r0_27, H_r0_27⟩, ⟨r0_28, R_r0_28, H_r0_28⟩, ⟨r0_34, R_r0_34, H_r0_34⟩, J_r0, Y_r0⟩ := id H_r0
  have G_r0 : mF T R r0 := ⟨J_r0, Y_r0, T_r0⟩
  obtain ⟨w_r0_1_0, k0_r0_1_0⟩ : ∃ x, I r0_1 0 = x := ⟨_, rfl⟩
  have gw_r0_1_0 := rg w_r0_1_0
  have ow_r0_1_0 := IM.pi hI R_r0_1 k0_r0_1_0
  refine k_iload_n C rfl rfl rfl ?_
  refine k_istore_n C (lw := [(3, .int n2), (0, .ref r0), (1, .int n1), (2, .int n2)]) rfl rfl (Nat.le_of_ble_eq_true rfl) rfl ?_
  refine z_iconst C (z := 0) rfl rfl rfl (fun x1 ex1 => ?_)
  have J2 : ∀ (nn3 : Nat) (I4 : IT) (L5 : LT) (x6 : Int32) (x7 : Int32), (MN (108 - x7.toInt) nn3) → (IM R r0 I4) → (CM A R r0 [] [23] I L I4 L5) → (0 ≤ x7.toInt) → (x7.toInt ≤ 108) → (x6 = LCG n2 (0 + x7.toNatClampNeg)) → (DRK I4 r0_23 w_r0_1_0.toInt n2 0 x7.toInt) → V 5 [(0, .ref r0), (1, .int n1), (3, .int x6), (4, .int x7)] [] (T, N, I4, L5, R) 0 0 := by
    intro nn3
    induction nn3 using Nat.strongRecOn with
    | _ nn3 ihJ2 =>
      intro I4 L5 x6 x7 hmnn3 hI11 S10 b8 b9 ff5_0 ff5_1
      have gx6 := rg x6
      have gx7 := rg x7
      have e12 := CM.j S10 R_r0_1 (by decide) k0_r0_1_0
      refine k_iload C rfl rfl rfl ?_
      refine z_bipush C (z := 12) rfl rfl rfl (fun x13 ex13 => ?_)
      refine k_iload_n C rfl rfl rfl ?_
      refine z_iconst C (z := 1) rfl rfl rfl (fun x14 ex14 => ?_)
      refine z_iadd C rfl rfl ⟨by omega, by omega⟩ (fun x15 ex15 => ?_)
      refine z_imulL C (c := 12) rfl rfl (by omega) ⟨by omega, by omega⟩ (fun x16 ex16 => ?_)
      refine b_icmp_ge C (t := 52) rfl rfl rfl (fun c17 => ?_) (fun c17 => ?_)
      · skip
        exact k_vret C rfl rfl (Nat.le_of_ble_eq_true rfl) (Nat.le_of_ble_eq_true rfl) ⟨_, _, rfl, rfl, fun a1 a23 h1 h23 => by cases (R_r0_1.symm.trans h1); cases (R_r0_23.symm.trans h23); simp only [k0_r0_1_0]; exact ff5_1.le (by omega), hI11, (CM.mono S10 (by decide) (by decide))⟩
      refine z_ldc_w C (y := 1103515245) rfl rfl rfl (fun x18 ex18 => ?_)
      have gx18 := rg x18
      have c16 : x18.toInt = 1103515245 := ex18.trans (by decide)
      clear ex18
      refine k_iload_n C rfl rfl rfl ?_
      refine z_imulQ C rfl rfl (fun x19 ex19 => ?_)
      have gx19 := rg x19
      have m20 := ex19
      refine z_sipush C (z := 12345) rfl rfl rfl (fun x20 ex20 => ?_)
      have c24 : x20.toInt = 12345 := by omega
      refine z_iaddQ C rfl rfl (fun x21 ex21 => ?_)
      have gx21 := rg x21
      have m24 := ex21
      refine k_istore_n C (lw := [(3, .int x21), (0, .ref r0), (1, .int n1), (4, .int x7)]) rfl rfl (Nat.le_of_ble_eq_true rfl) rfl ?_
      refine k_aload_n C rfl rfl rfl ?_
      refine g_R C rfl rfl rfl T_r0 rfl R_r0_23 ?_
      refine k_iload C rfl rfl rfl ?_
      refine k_iload_n C rfl rfl rfl ?_
      refine z_bipush C (z := 16) rfl rfl rfl (fun x22 ex22 => ?_)
      have c35 : x22.toInt = 16 := by omega
      refine z_ishrX C rfl rfl (fun x23 ex23 => ?_)
      have gx23 := rg x23
      have m35 := ex23
      refine z_sipush C (z := 32767) rfl rfl rfl (fun x24 ex24 => ?_)
      have c39 := ceq3 (c := x24) (by omega)
      refine z_iandQ C rfl rfl (fun x25 ex25 => ?_)
      have gx25 := rg x25
      have m39 := ex25
      refine k_aload_n C rfl rfl rfl ?_
      refine c_VI C (a_X12_p hI11 H_r0) rfl rfl rfl rfl rfl ⟨_, rfl, rfl, T_r0, Nat.le_of_ble_eq_true rfl⟩ rfl rfl (Nat.le_of_ble_eq_true rfl) (Nat.le_of_ble_eq_true rfl) (Nat.le_of_ble_eq_true rfl) ?_
      rintro x26 _ _ ⟨o0x26, o1x26, p0x26, rfl, rfl⟩
      have p0x26 := p0x26 r0_1 R_r0_1
      have gx26 := rg x26
      try simp only [e12, e12] at p0x26
      try have q0x26 := congrArg Int32.toInt p0x26
      have hp41 : x26.toInt = w_r0_1_0.toInt := by omega
      refine z_iremB C rfl rfl (by omega) (fun x27 ex27 => ?_)
      have bx27 : -18 ≤ x27.toInt ∧ x27.toInt ≤ 18 := by omega
      have hr45 := ex27.2.2.2
      obtain ⟨T_r0_23, N_r0_23, A_r0_23⟩ := id H_r0_23
      refine z_sI C rfl rfl T_r0_23 N_r0_23 (by omega) (by omega) (fun I28 uI28 => ?_)
      have hI28 : IM R r0 I28 := IM.arr hI11 G_r0 R_r0_23 ⟨(fun h => absurd h (by decide)), (fun h => absurd h (by decide)), (fun _ => ⟨by omega, by omega⟩)⟩ (fun h => absurd h (by decide)) uI28
      have S29 : CM A R r0 [] [23] I4 L5 I28 L5 := CM.a G_r0 R_r0_23 A_r0_23 uI28
      have e30 := u2_n uI28 (mF.nq G_r0 R_r0_1 R_r0_23 (by decide)) e12
      have e31 := u2_e uI28
      have hu45 := uI28
      refine z_iinc C (z := 1) (lw := fun x32 => [(4, .int x32), (3, .int x21), (0, .ref r0), (1, .int n1)]) rfl rfl rfl (Nat.le_of_ble_eq_true rfl) rfl ⟨by omega, by omega⟩ (fun _ => rfl) (fun x32 ex32 => ?_)
      show V 49 [(4, .int x32), (3, .int x21), (0, .ref r0), (1, .int n1)] _ _ _ _
      refine k_goto C (pc2 := 5) rfl rfl ?_
      refine k_sub S [(0, .ref r0), (1, .int n1), (3, .int x21), (4, .int x32)] (List.forall_mem_cons.mpr ⟨List.mem_of_getElem? (i := 2) rfl, List.forall_mem_cons.mpr ⟨List.mem_of_getElem? (i := 3) rfl, List.forall_mem_cons.mpr ⟨List.mem_of_getElem? (i := 1) rfl, List.forall_mem_cons.mpr ⟨List.mem_of_getElem? (i := 0) rfl, fun _ h => nomatch h⟩⟩⟩⟩) ?_
      exact ihJ2 _ (MN.lt hmnn3 (by omega) (by omega)) I28 L5 x21 x32 rfl hI28 (CM.cons S10 (CM.mono S29 (by decide) (by decide)) (by decide) (by decide)) (by omega) (by omega) (by exact LCG.t ff5_0 m20 m24 c16 c24 (by omega) (by omega)) (by exact ff5_1.w hu45 hr45 hp41 (DRN.a (LCG.n ff5_0 m20 m24 c16 c24) c35 m35 m39 c39) (by omega) (by omega))
  refine k_istore C (lw := [(4, .int x1), (3, .int n2), (0, .ref r0), (1, .int n1), (2, .int n2)]) rfl rfl (Nat.le_of_ble_eq_true rfl) rfl ?_
  refine k_sub S [(0, .ref r0), (1, .int n1), (3, .int n2), (4, .int x1)] (List.forall_mem_cons.mpr ⟨List.mem_of_getElem? (i := 2) rfl, List.forall_mem_cons.mpr ⟨List.mem_of_getElem? (i := 3) rfl, List.forall_mem_cons.mpr ⟨List.mem_of_getElem? (i := 1) rfl, List.forall_mem_cons.mpr ⟨List.mem_of_getElem? (i := 0) rfl, fun _ h => nomatch h⟩⟩⟩⟩) ?_
  exact J2 _ I L n2 x1 rfl hI CM.rf (by omega) (by omega) (by exact LCG.a (m := 0) rfl (by omega)) (by exact DRK.z (by omega))

theorem a_X12_rowOf_x {d : Nat} {T N : Nat → Nat} {I : IT} {L : LT} {R : RT} {A : Nat → Prop} {r0 : Nat} {n1 n2 n3 n4 : Int32} (hI : IM R r0 I) (H_r0 : (h_MD T N R A) r0) (b0_n1 : 0 ≤ n1.toInt) (b1_n1 : n1.toInt ≤ 7) (b0_n2 : 1 ≤ n2.toInt) (b1_n2 : n2.toInt ≤ 8) (b0_n3 : 0 ≤ n3.toInt) (b1_n3 : n3.toInt ≤ 3444) (b0_n4 : -1 ≤ n4.toInt) (b1_n4 : n4.toInt ≤ 40) (hp0 : ∀ a1, R r0 1 = some a1 → n1.toInt < (I a1 3).toInt) (hp1 : ∀ a1, R r0 1 = some a1 → HOV (WSL (I a1) n1.toNatClampNeg) 0) (hp2 : ∀ a1 a23, R r0 1 = some a1 → R r0 23 = some a23 → ∀ j : Nat, (j : Int) < 12 * (n2.toInt + 1) → 0 ≤ (I a23 j).toInt ∧ (I a23 j).toInt < (I a1 0).toInt) : Ex (d + 9) 261 [.ref r0, .int n1, .int n2, .int n3, .int n4] (T, N, I, L, R) 0 0 (pI T N R (fun x9 I9 L9 => (0 ≤ x9.toInt) ∧ (x9.toInt ≤ 1) ∧ (∀ a4, R r0 4 = some a4 → x9.toInt = 1 → (I9 r0 24).toInt = 12 * ((I9 a4 0).toInt + 1) ∧ (n4.toInt = -1 ∨ (I9 a4 0).toInt = n4.toInt)) ∧ (∀ a1, R r0 1 = some a1 → x9.toInt = 0 → DGL (WSL (I a1) n1.toNatClampNeg) n2.toInt = none ∨ ∃ D, DGL (WSL (I a1) n1.toNatClampNeg) n2.toInt = some D ∧ n4.toInt ≠ -1 ∧ D ≠ n4.toInt) ∧ (∀ a1 a4 a22 a23, R r0 1 = some a1 → R r0 4 = some a4 → R r0 22 = some a22 → R r0 23 = some a23 → x9.toInt = 1 → RWE I9 a4 a22 (I9 r0 24) n3.toNatClampNeg (I a1 0).toInt (fun j => (I a23 j).toInt) n2.toInt (WSL (I a1) n1.toNatClampNeg) n4.toInt) ∧ (∀ a22, R r0 22 = some a22 → ∀ r : Nat, (r < n3.toNatClampNeg ∨ n3.toNatClampNeg + 492 ≤ r) → I9 a22 r = I a22 r) ∧ (IM R r0 I9 ∧ CM A R r0 [24] [4, 5, 22] I L I9 L9))) := by
  refine ⟨_, rfl, Nat.le_of_ble_eq_true rfl, fun V C S => ?_⟩
  show V 0 [(0, .ref r0), (1, .int n1), (2, .int n2), (3, .int n3), (4, .int n4)] [] (T, N, I, L, R) 0 0
  have gn1 := rg n1
  have gn2 := rg n2
  have gn3 := rg n3
  have gn4 := rg n4
  obtain ⟨T_r0, A_r0, ⟨r0_1, R_r0_1, H_r0_1⟩, ⟨r0_2, R_r0_2, H_r0_2⟩, ⟨r0_4, R_r0_4, H_r0_4⟩, ⟨r0_5, R_r0_5, H_r0_5⟩, ⟨r0_10, R_r0_10, H_r0_10⟩, ⟨r0_18, R_r0_18, H_r0_18⟩, ⟨r0_20, R_r0_20, H_r0_20⟩, ⟨r0_21, R_r0_21, H_r0_21⟩, ⟨r0_22, R_r0_22, H_r0_22⟩, ⟨r0_23, R_r0_23, H_r0_23⟩, ⟨r0_25, R_r0_25, H_r0_25⟩, ⟨r0_26, R_r0_26, H_r0_26⟩, ⟨r0_27, R_r0_27, H_r0_27⟩, ⟨r0_28, R_r0_28, H_r0_28⟩, ⟨r0_34, R_r0_34, H_r0_34⟩, J_r0, Y_r0⟩ := id H_r0
  have G_r0 : mF T R r0 := ⟨J_r0, Y_r0, T_r0⟩
  obtain ⟨w_r0_1_3, k0_r0_1_3⟩ : ∃ x, I r0_1 3 = x := ⟨_, rfl⟩
  have gw_r0_1_3 := rg w_r0_1_3
  have ow_r0_1_3 := IM.c3 hI R_r0_1 k0_r0_1_3
  obtain ⟨w_r0_24, k0_r0_24⟩ : ∃ x, I r0 24 = x := ⟨_, rfl⟩
  have gw_r0_24 := rg w_r0_24
  have ow_r0_24 := IM.f24 hI k0_r0_24
  obtain ⟨w_r0_4_0, k0_r0_4_0⟩ : ∃ x, I r0_4 0 = x := ⟨_, rfl⟩
  have gw_r0_4_0 := rg w_r0_4_0
  have ow_r0_4_0 := IM.dgR hI R_r0_4 k0_r0_4_0
  obtain ⟨w_r0_1_0, k0_r0_1_0⟩ : ∃ x, I r0_1 0 = x := ⟨_, rfl⟩
  have gw_r0_1_0 := rg w_r0_1_0
  have ow_r0_1_0 := IM.pi hI R_r0_1 k0_r0_1_0
  have hp0 := hp0 r0_1 R_r0_1
  have hp1 := hp1 r0_1 R_r0_1
  have hp2 := hp2 r0_1 r0_23 R_r0_1 R_r0_23
  try simp only [k0_r0_1_3, k0_r0_24, k0_r0_4_0, k0_r0_1_0] at hp0
  try simp only [k0_r0_1_3, k0_r0_24, k0_r0_4_0, k0_r0_1_0] at hp1
  try simp only [k0_r0_1_3, k0_r0_24, k0_r0_4_0, k0_r0_1_0] at hp2
  refine z_iconst C (z := 0) rfl rfl rfl (fun x1 ex1 => ?_)
  have J2 : ∀ (nn3 : Nat) (I4 : IT) (L5 : LT) (x6 : Int32) (x12 : Int32) (x16 : Int32), (MN (12 - x6.toInt) nn3) → (IM R r0 I4) → (CM A R r0 [24] [4, 5, 22] I L I4 L5) → (∀ r : Nat, (r < n3.toNatClampNeg ∨ n3.toNatClampNeg + 492 ≤ r) → I4 r0_22 r = I r0_22 r) → (0 ≤ x6.toInt) → (x6.toInt ≤ 12) → (I4 r0 24 = x12) → (0 ≤ x12.toInt) → (x12.toInt ≤ 492) → (I4 r0_4 0 = x16) → (0 ≤ x16.toInt) → (x16.toInt ≤ 40) → (x6.toInt = 0 ∨ x12.toInt = 12 * (x16.toInt + 1) ∧ (n4.toInt = -1 ∨ x16.toInt = n4.toInt)) → (RWO (I4 r0_22) n3.toNatClampNeg w_r0_1_0.toInt (fun j => (I r0_23 j).toInt) n2.toInt (WSL (I r0_1) n1.toNatClampNeg) n4.toInt x6.toInt) → (RWL (WSL (I r0_1) n1.toNatClampNeg) n2.toInt x16.toInt x12.toInt x6.toInt) → V 3 [(0, .ref r0), (1, .int n1), (2, .int n2), (3, .int n3), (4, .int n4), (5, .int x6)] [] (T, N, I4, L5, R) 0 0 := by
    intro nn3
    induction nn3 using Nat.strongRecOn with
    | _ nn3 ihJ2 =>
      intro I4 L5 x6 x12 x16 hmnn3 hI10 S9 F11 b7 b8 e13 b14 b15 e17 b18 b19 ff3_0 ff3_1 ff3_2
      have gx6 := rg x6
      have gx12 := rg x12
      have gx16 := rg x16
      have e20 := CM.j S9 R_r0_1 (by decide) k0_r0_1_3
      have e21 := CM.j S9 R_r0_1 (by decide) k0_r0_1_0
      refine k_iload C rfl rfl rfl ?_
      refine z_bipush C (z := 12) rfl rfl rfl (fun x22 ex22 => ?_)
      refine b_icmp_ge C (t := 151) rfl rfl rfl (fun c23 => ?_) (fun c23 => ?_)
      · skip
        refine z_iconst C (z := 1) rfl rfl rfl (fun x24 ex24 => ?_)
        exact k_iret C rfl (Or.inr ⟨rfl, z01 (by omega) (by omega)⟩) (Nat.le_of_ble_eq_true rfl) (Nat.le_of_ble_eq_true rfl) ⟨_, _, _, rfl, rfl, by omega, by omega, fun a4 h4 => by cases (R_r0_4.symm.trans h4); first | omega | (simp only [e20, e21, e13, e17, k0_r0_1_3, k0_r0_24, k0_r0_4_0, k0_r0_1_0, and_true, true_and, or_true, true_or, and_false, false_and, or_false, false_or] <;> omega), fun a1 h1 => by cases (R_r0_1.symm.trans h1); intro h; exfalso; omega, fun a1 a4 a22 a23 h1 h4 h22 h23 => by cases (R_r0_1.symm.trans h1); cases (R_r0_4.symm.trans h4); cases (R_r0_22.symm.trans h22); cases (R_r0_23.symm.trans h23); intro _; simp only [k0_r0_1_0]; rw [e13]; exact RWE.of ff3_1 ff3_2 (by omega) e17, fun a22 h22 => by cases (R_r0_22.symm.trans h22); exact (fun r z0 => (F11 r z0)), hI10, (CM.mono S9 (by decide) (by decide))⟩
      refine k_aload_n C rfl rfl rfl ?_
      refine g_R C rfl rfl rfl T_r0 rfl R_r0_4 ?_
      refine z_bipush C (z := 44) rfl rfl rfl (fun x25 ex25 => ?_)
      refine k_iload_n C rfl rfl rfl ?_
      obtain ⟨T_r0_4, N_r0_4, A_r0_4⟩ := id H_r0_4
      refine z_sI C rfl rfl T_r0_4 N_r0_4 (by omega) (by omega) (fun I26 uI26 => ?_)
      have uI26 : I26 = u2 I4 r0_4 44 (n2) := by rw [uI26, nck (n := 44) (by omega)]
      have hI26 : IM R r0 I26 := IM.arr hI10 G_r0 R_r0_4 ⟨(fun _ => ⟨by omega, by omega⟩), (fun h => absurd h (by decide)), (fun h => absurd h (by decide))⟩ (fun h => absurd h (by decide)) uI26
      have S27 : CM A R r0 [] [4] I4 L5 I26 L5 := CM.a G_r0 R_r0_4 A_r0_4 uI26
      have e28 := u2_n uI26 (mF.nq G_r0 R_r0_1 R_r0_4 (by decide)) e20
      have e29 := u2_n uI26 (mF.nq G_r0 R_r0_1 R_r0_4 (by decide)) e21
      have e30 := u2_n uI26 (fun e => (mF.ne G_r0 R_r0_4) e.symm) e13
      have e31 := u2_j uI26 (by first | decide | exact ncne (by omega) (by omega) (by omega) | exact nckn (by omega) (by omega) | exact (nckn (by omega) (by omega)).symm) e17
      have e32 := u2_e uI26
      have hu17 := uI26
      refine z_iconst C (z := 0) rfl rfl rfl (fun x33 ex33 => ?_)
      have J34 : ∀ (nn35 : Nat) (I36 : IT) (L37 : LT) (x38 : Int32), (MN (9 - x38.toInt) nn35) → (IM R r0 I36) → (CM A R r0 [] [5] I26 L5 I36 L37) → (0 ≤ x38.toInt) → (x38.toInt ≤ 9) → (RWO (I36 r0_22) n3.toNatClampNeg w_r0_1_0.toInt (fun j => (I r0_23 j).toInt) n2.toInt (WSL (I r0_1) n1.toNatClampNeg) n4.toInt x6.toInt) → (RGF I36 r0_5 44 (fun j => (I r0_23 j).toInt) (x6.toNatClampNeg * (n2.toInt.toNat + 1)) x38.toInt) → (x38.toInt ≤ n2.toInt + 1) → V 21 [(0, .ref r0), (1, .int n1), (2, .int n2), (3, .int n3), (4, .int n4), (5, .int x6), (6, .int x38)] [] (T, N, I36, L37, R) 0 0 := by
        intro nn35
        induction nn35 using Nat.strongRecOn with
        | _ nn35 ihJ34 =>
          intro I36 L37 x38 hmnn35 hI42 S41 b39 b40 ff21_0 ff21_1 ff21_2
          have gx38 := rg x38
          have e43 := CM.j S41 R_r0_1 (by decide) e28
          have e44 := CM.j S41 R_r0_1 (by decide) e29
          have e45 := CM.k S41 (by decide) e30
          have e46 := CM.j S41 R_r0_4 (by decide) e31
          have e47 := CM.j S41 R_r0_4 (by decide) e32
          refine k_iload C rfl rfl rfl ?_
          refine k_iload_n C rfl rfl rfl ?_
          refine b_icmp_gt C (t := 55) rfl rfl rfl (fun c48 => ?_) (fun c48 => ?_)
          · skip
            refine k_aload_n C rfl rfl rfl ?_
            refine k_iload_n C rfl rfl rfl ?_
            have hw57 := CM.j0 (W := [24]) (WA := [4, 5, 22]) (CM.cons S9 (CM.cons S27 (CM.mono S41 (by decide) (by decide)) (by decide) (by decide)) (by decide) (by decide)) R_r0_1 (by decide)
            have hk57 := e47
            have hF57 : VRW I36 r0_4 r0_5 44 w_r0_1_0.toInt (DRG (fun j => (I r0_23 j).toInt) n2.toInt x6.toNatClampNeg) := VRW.dr ff21_1 (congrArg Int32.toInt hk57) (by omega) (by omega) (by have h9 := ncz (x := x6) (by omega); omega) hp2
            refine c_VI C (a_X12_makes_x hI42 H_r0 (by omega) (by omega) (fun a1 h1 => by cases (R_r0_1.symm.trans h1); first | omega | (simp only [e43, e44, e45, e46, e47, and_true, true_and, or_true, true_or, and_false, false_and, or_false, false_or] <;> omega)) (fun a1 h1 => by cases (R_r0_1.symm.trans h1); rw [hw57]; exact hp1) (fun a1 a4 a5 h1 h4 h5 => by cases (R_r0_1.symm.trans h1); cases (R_r0_4.symm.trans h4); cases (R_r0_5.symm.trans h5); rw [e44]; exact hF57.cn) (fun a4 h4 => by cases (R_r0_4.symm.trans h4); exact ⟨by rw [hF57.1]; exact hF57.2.1, by rw [hF57.1]; exact hF57.2.2.1⟩)) rfl rfl rfl rfl rfl ⟨_, rfl, rfl, T_r0, Nat.le_of_ble_eq_true rfl⟩ rfl rfl (Nat.le_of_ble_eq_true rfl) (Nat.le_of_ble_eq_true rfl) (Nat.le_of_ble_eq_true rfl) ?_
            rintro x49 I50 L51 ⟨o0x49, o1x49, p0x49, p1x49, p2x49, p3x49, p4x49, hI50, S52⟩
            have p0x49 := p0x49 r0_1 r0_4 r0_5 R_r0_1 R_r0_4 R_r0_5
            have p1x49 := p1x49 r0_5 R_r0_5
            have p2x49 := p2x49 r0_4 R_r0_4
            have p3x49 := p3x49 r0_5 R_r0_5
            have p4x49 := p4x49 r0_4 R_r0_4
            have e53 := CM.j S52 R_r0_1 (by decide) e43
            have e54 := CM.j S52 R_r0_1 (by decide) e44
            have e55 := CM.k S52 (by decide) e45
            have gx49 := rg x49
            try simp only [e43, e44, e45, e46, e47] at p0x49
            try have q0x49 := congrArg Int32.toInt p0x49
            try simp only [e43, e44, e45, e46, e47] at p1x49
            try have q1x49 := congrArg Int32.toInt p1x49
            try simp only [e43, e44, e45, e46, e47] at p2x49
            try have q2x49 := congrArg Int32.toInt p2x49
            try simp only [e43, e44, e45, e46, e47] at p3x49
            try have q3x49 := congrArg Int32.toInt p3x49
            try simp only [e43, e44, e45, e46, e47] at p4x49
            try have q4x49 := congrArg Int32.toInt p4x49
            have hmk := p0x49
            rw [hw57] at hmk
            have hfq := hF57.fq
            try rw [hk57] at hfq
            have hv57 := VPR.cg hmk (VWF.cg hfq (by show (0 : Int) ≤ _; omega) hp1)
            have hr57 := CM.j0 S52 R_r0_22 (by decide)
            refine b_if_eq C (t := 80) rfl rfl rfl (fun c58 => ?_) (fun c58 => ?_)
            · skip
              refine z_iconst C (z := 0) rfl rfl rfl (fun x59 ex59 => ?_)
              exact k_iret C rfl (Or.inr ⟨rfl, z01 (by omega) (by omega)⟩) (Nat.le_of_ble_eq_true rfl) (Nat.le_of_ble_eq_true rfl) ⟨_, _, _, rfl, rfl, by omega, by omega, fun a4 h4 => by cases (R_r0_4.symm.trans h4); first | omega | (simp only [e53, e54, e55, k0_r0_1_3, k0_r0_24, k0_r0_4_0, k0_r0_1_0, and_true, true_and, or_true, true_or, and_false, false_and, or_false, false_or] <;> omega), fun a1 h1 => by cases (R_r0_1.symm.trans h1); intro _; first | exact Or.inl (DGL.n (f := DRG (fun j => (I r0_23 j).toInt) n2.toInt x6.toNatClampNeg) (hv57.1 (by omega))) | (obtain ⟨v, hvo, hvw⟩ := hv57.2 (by omega); have hvD := DGL.y hvo; have hv9 := hvw.1; rw [hUnknown] at hv9; exact Or.inr ⟨v.1, hvD, by omega, by omega⟩), fun a1 a4 a22 a23 h1 h4 h22 h23 => by cases (R_r0_1.symm.trans h1); cases (R_r0_4.symm.trans h4); cases (R_r0_22.symm.trans h22); cases (R_r0_23.symm.trans h23); intro h; exfalso; omega, fun a22 h22 => by cases (R_r0_22.symm.trans h22); exact (fun r z0 => ((congrFun (CM.j0 S52 R_r0_22 (by decide)) r).trans ((congrFun (CM.j0 S41 R_r0_22 (by decide)) r).trans ((congrFun (CM.j0 S27 R_r0_22 (by decide)) r).trans (F11 r z0))))), hI50, (CM.cons S9 (CM.cons S27 (CM.cons S41 (CM.mono S52 (by decide) (by decide)) (by decide) (by decide)) (by decide) (by decide)) (by decide) (by decide))⟩
            refine k_iload C rfl rfl rfl ?_
            refine z_iconst C (z := -1) rfl rfl rfl (fun x60 ex60 => ?_)
            refine b_icmp_eq C (t := 82) rfl rfl rfl (fun c61 => ?_) (fun c61 => ?_)
            · skip
              obtain ⟨v, hvo, hvw⟩ := hv57.2 (by omega)
              have hvD : DGL (WSL (I r0_1) n1.toNatClampNeg) n2.toInt = some v.1 := DGL.y (f := DRG (fun j => (I r0_23 j).toInt) n2.toInt x6.toNatClampNeg) hvo
              refine k_aload_n C rfl rfl rfl ?_
              refine z_bipush C (z := 12) rfl rfl rfl (fun x62 ex62 => ?_)
              refine k_aload_n C rfl rfl rfl ?_
              refine g_R C rfl rfl rfl T_r0 rfl R_r0_4 ?_
              refine z_iconst C (z := 0) rfl rfl rfl (fun x63 ex63 => ?_)
              refine z_aI C rfl rfl T_r0_4 N_r0_4 (by omega) (by omega) (fun x64 ex64 => ?_)
              have gx64 := rg x64
              have nx64 : I50 r0_4 0 = x64 := (congrArg (I50 r0_4) (nck (n := 0) (by omega))).symm.trans ex64
              have ox64 := IM.dgR hI50 R_r0_4 nx64
              refine z_iconst C (z := 1) rfl rfl rfl (fun x65 ex65 => ?_)
              refine z_iadd C rfl rfl ⟨by omega, by omega⟩ (fun x66 ex66 => ?_)
              refine z_imulL C (c := 12) rfl rfl (by omega) ⟨by omega, by omega⟩ (fun x67 ex67 => ?_)
              have hv94 := hvw.1
              rw [nx64] at hv94
              refine z_pI C rfl rfl rfl T_r0 (Or.inr rfl) rfl (fun I68 uI68 => ?_)
              have hI68 : IM R r0 I68 := IM.fld hI50 G_r0 ⟨(fun h => absurd h (by decide)), (fun h => absurd h (by decide)), (fun h => absurd h (by decide)), (fun _ => ⟨by omega, by omega⟩), (fun h => absurd h (by decide))⟩ uI68
              have S69 : CM A R r0 [24] [] I50 L51 I68 L51 := CM.f G_r0 A_r0 uI68
              have e70 := u2_n uI68 (mF.ne G_r0 R_r0_1) e53
              have e71 := u2_n uI68 (mF.ne G_r0 R_r0_1) e54
              have e73 := u2_n uI68 (mF.ne G_r0 R_r0_4) nx64
              have e74 := u2_e uI68
              have hu94 := uI68
              refine z_iconst C (z := 0) rfl rfl rfl (fun x75 ex75 => ?_)
              have J76 : ∀ (nn77 : Nat) (I78 : IT) (L79 : LT) (x80 : Int32), (MN (41 - x80.toInt) nn77) → (IM R r0 I78) → (CM A R r0 [] [22] I68 L51 I78 L79) → (∀ r : Nat, (r < n3.toNatClampNeg ∨ n3.toNatClampNeg + 492 ≤ r) → I78 r0_22 r = I68 r0_22 r) → (0 ≤ x80.toInt) → (x80.toInt ≤ 41) → (ROP (I78 r0_22) n3.toNatClampNeg w_r0_1_0.toInt (fun j => (I r0_23 j).toInt) n2.toInt (WSL (I r0_1) n1.toNatClampNeg) v.1 (x6.toInt * (v.1 + 1) + x80.toInt)) → (VRW I78 r0_4 r0_5 0 w_r0_1_0.toInt v) → (x80.toInt ≤ v.1 + 1) → V 100 [(0, .ref r0), (1, .int n1), (2, .int n2), (3, .int n3), (4, .int n4), (5, .int x6), (6, .int x80)] [] (T, N, I78, L79, R) 0 0 := by
                intro nn77
                induction nn77 using Nat.strongRecOn with
                | _ nn77 ihJ76 =>
                  intro I78 L79 x80 hmnn77 hI84 S83 F85 b81 b82 ff100_0 ff100_1 ff100_2
                  have gx80 := rg x80
                  have e86 := CM.j S83 R_r0_1 (by decide) e70
                  have e87 := CM.j S83 R_r0_1 (by decide) e71
                  have e88 := CM.j S83 R_r0_4 (by decide) e73
                  have e89 := CM.k S83 (by decide) e74
                  refine k_iload C rfl rfl rfl ?_
                  refine k_aload_n C rfl rfl rfl ?_
                  refine g_R C rfl rfl rfl T_r0 rfl R_r0_4 ?_
                  refine z_iconst C (z := 0) rfl rfl rfl (fun x90 ex90 => ?_)
                  refine a_I C rfl rfl T_r0_4 (by rw [N_r0_4]; exact vpi (by omega) (by omega)) ((congrArg (I78 r0_4) (nck (n := 0) (by omega))).trans e88) ?_
                  refine b_icmp_gt C (t := 145) rfl rfl rfl (fun c91 => ?_) (fun c91 => ?_)
                  · skip
                    refine z_iinc C (z := 1) (lw := fun x92 => [(5, .int x92), (0, .ref r0), (1, .int n1), (2, .int n2), (3, .int n3), (4, .int n4), (6, .int x80)]) rfl rfl rfl (Nat.le_of_ble_eq_true rfl) rfl ⟨by omega, by omega⟩ (fun _ => rfl) (fun x92 ex92 => ?_)
                    show V 148 [(5, .int x92), (0, .ref r0), (1, .int n1), (2, .int n2), (3, .int n3), (4, .int n4), (6, .int x80)] _ _ _ _
                    refine k_goto C (pc2 := 3) rfl rfl ?_
                    refine k_sub S [(0, .ref r0), (1, .int n1), (2, .int n2), (3, .int n3), (4, .int n4), (5, .int x92)] (List.forall_mem_cons.mpr ⟨List.mem_of_getElem? (i := 1) rfl, List.forall_mem_cons.mpr ⟨List.mem_of_getElem? (i := 2) rfl, List.forall_mem_cons.mpr ⟨List.mem_of_getElem? (i := 3) rfl, List.forall_mem_cons.mpr ⟨List.mem_of_getElem? (i := 4) rfl, List.forall_mem_cons.mpr ⟨List.mem_of_getElem? (i := 5) rfl, List.forall_mem_cons.mpr ⟨List.mem_of_getElem? (i := 0) rfl, fun _ h => nomatch h⟩⟩⟩⟩⟩⟩) ?_
                    exact ihJ2 _ (MN.lt hmnn3 (by omega) (by omega)) I78 L79 x92 x67 x64 rfl hI84 (CM.cons S9 (CM.cons S27 (CM.cons S41 (CM.cons S52 (CM.cons S69 (CM.mono S83 (by decide) (by decide)) (by decide) (by decide)) (by decide) (by decide)) (by decide) (by decide)) (by decide) (by decide)) (by decide) (by decide)) (fun r z0 => ((F85 r z0).trans ((congrFun (CM.j0 S69 R_r0_22 (by decide)) r).trans ((congrFun (CM.j0 S52 R_r0_22 (by decide)) r).trans ((congrFun (CM.j0 S41 R_r0_22 (by decide)) r).trans ((congrFun (CM.j0 S27 R_r0_22 (by decide)) r).trans (F11 r z0))))))) (by omega) (by omega) e89 (by omega) (by omega) e88 (by omega) (by omega) (by omega) (by exact RWO.s ff100_0 hvD ⟨hvw.2.1, hvw.2.2.1⟩ (by omega) (by omega) (by omega) (by omega)) (by exact Or.inr ⟨v.1, hvD, by omega, by omega⟩)
                  refine k_aload_n C rfl rfl rfl ?_
                  refine g_R C rfl rfl rfl T_r0 rfl R_r0_22 ?_
                  refine k_iload_n C rfl rfl rfl ?_
                  refine k_iload C rfl rfl rfl ?_
                  refine k_aload_n C rfl rfl rfl ?_
                  refine g_R C rfl rfl rfl T_r0 rfl R_r0_4 ?_
                  refine z_iconst C (z := 0) rfl rfl rfl (fun x93 ex93 => ?_)
                  refine a_I C rfl rfl T_r0_4 (by rw [N_r0_4]; exact vpi (by omega) (by omega)) ((congrArg (I78 r0_4) (nck (n := 0) (by omega))).trans e88) ?_
                  refine z_iconst C (z := 1) rfl rfl rfl (fun x94 ex94 => ?_)
                  refine z_iadd C rfl rfl ⟨by omega, by omega⟩ (fun x95 ex95 => ?_)
                  refine z_imulF C (a := 11) (b := 41) (c := 451) rfl rfl ⟨by omega, by omega⟩ ⟨by omega, by omega⟩ (by decide) (by decide) (fun x96 ex96 => ?_)
                  have gx96 := rg x96
                  have m126 := ex96
                  refine z_iadd C rfl rfl ⟨by omega, by omega⟩ (fun x97 ex97 => ?_)
                  refine k_iload C rfl rfl rfl ?_
                  refine z_iadd C rfl rfl ⟨by omega, by omega⟩ (fun x98 ex98 => ?_)
                  refine k_aload_n C rfl rfl rfl ?_
                  refine z_iconst C (z := 0) rfl rfl rfl (fun x99 ex99 => ?_)
                  refine k_iload C rfl rfl rfl ?_
                  have q100 : x99.toNatClampNeg = 0 := nck (by omega)
                  refine c_VI C (a_X12_of hI84 H_r0 (by omega) (by omega) (by omega) (by omega)) rfl rfl rfl rfl rfl ⟨_, rfl, rfl, T_r0, Nat.le_of_ble_eq_true rfl⟩ rfl rfl (Nat.le_of_ble_eq_true rfl) (Nat.le_of_ble_eq_true rfl) (Nat.le_of_ble_eq_true rfl) ?_
                  rintro x101 _ _ ⟨o0x101, o1x101, p0x101, rfl, rfl⟩
                  have p0x101 := p0x101 r0_5 R_r0_5
                  have gx101 := rg x101
                  try simp only [q100, e86, e87, e88, e89] at p0x101
                  try have q0x101 := congrArg Int32.toInt p0x101
                  have hO := p0x101
                  have hm138 := (m126.2).trans (congrArg (fun t => x6.toInt * t) (show _ = v.1 + 1 from by omega))
                  have hi138 : x98.toInt = n3.toInt + x6.toInt * (v.1 + 1) + x80.toInt := by omega
                  obtain ⟨T_r0_22, N_r0_22, A_r0_22⟩ := id H_r0_22
                  refine z_sI C rfl rfl T_r0_22 N_r0_22 (by omega) (by omega) (fun I102 uI102 => ?_)
                  have hI102 : IM R r0 I102 := IM.arr hI84 G_r0 R_r0_22 ⟨(fun h => absurd h (by decide)), (fun h => absurd h (by decide)), (fun _ => ⟨by omega, by omega⟩)⟩ (fun h => absurd h (by decide)) uI102
                  have S103 : CM A R r0 [] [22] I78 L79 I102 L79 := CM.a G_r0 R_r0_22 A_r0_22 uI102
                  have F104 : ∀ r : Nat, (r < n3.toNatClampNeg ∨ n3.toNatClampNeg + 492 ≤ r) → I102 r0_22 r = I78 r0_22 r := fun r z0 => by rw [uI102]; exact u2_k (by have h1 := ncz (x := n3) (by omega); have h2 := ncz (x := x98) (by omega); omega)
                  have e105 := u2_n uI102 (mF.nq G_r0 R_r0_1 R_r0_22 (by decide)) e86
                  have e106 := u2_n uI102 (mF.nq G_r0 R_r0_1 R_r0_22 (by decide)) e87
                  have e107 := u2_n uI102 (mF.nq G_r0 R_r0_4 R_r0_22 (by decide)) e88
                  have e108 := u2_n uI102 (fun e => (mF.ne G_r0 R_r0_22) e.symm) e89
                  have e109 := u2_e uI102
                  have hu138 := uI102
                  refine z_iinc C (z := 1) (lw := fun x110 => [(6, .int x110), (0, .ref r0), (1, .int n1), (2, .int n2), (3, .int n3), (4, .int n4), (5, .int x6)]) rfl rfl rfl (Nat.le_of_ble_eq_true rfl) rfl ⟨by omega, by omega⟩ (fun _ => rfl) (fun x110 ex110 => ?_)
                  show V 142 [(6, .int x110), (0, .ref r0), (1, .int n1), (2, .int n2), (3, .int n3), (4, .int n4), (5, .int x6)] _ _ _ _
                  refine k_goto C (pc2 := 100) rfl rfl ?_
                  refine k_sub S [(0, .ref r0), (1, .int n1), (2, .int n2), (3, .int n3), (4, .int n4), (5, .int x6), (6, .int x110)] (List.forall_mem_cons.mpr ⟨List.mem_of_getElem? (i := 1) rfl, List.forall_mem_cons.mpr ⟨List.mem_of_getElem? (i := 2) rfl, List.forall_mem_cons.mpr ⟨List.mem_of_getElem? (i := 3) rfl, List.forall_mem_cons.mpr ⟨List.mem_of_getElem? (i := 4) rfl, List.forall_mem_cons.mpr ⟨List.mem_of_getElem? (i := 5) rfl, List.forall_mem_cons.mpr ⟨List.mem_of_getElem? (i := 6) rfl, List.forall_mem_cons.mpr ⟨List.mem_of_getElem? (i := 0) rfl, fun _ h => nomatch h⟩⟩⟩⟩⟩⟩⟩) ?_
                  exact ihJ76 _ (MN.lt hmnn77 (by omega) (by omega)) I102 L79 x110 rfl hI102 (CM.cons S83 (CM.mono S103 (by decide) (by decide)) (by decide) (by decide)) (fun r z0 => ((F104 r z0).trans (F85 r z0))) (by omega) (by omega) (by exact ROP.s ff100_0 hvo ff100_1 hu138 hi138 hO (by omega) (by omega) (by omega) (by omega) (by omega) (by omega)) (by exact ff100_1.sm (by rw [hu138, u2_r (mF.nq G_r0 R_r0_4 R_r0_22 (by decide))]) (SMR.eq (by rw [hu138]; exact u2_r (mF.nq G_r0 R_r0_5 R_r0_22 (by decide))))) (by omega)
              refine k_istore C (lw := [(6, .int x75), (0, .ref r0), (1, .int n1), (2, .int n2), (3, .int n3), (4, .int n4), (5, .int x6)]) rfl rfl (Nat.le_of_ble_eq_true rfl) rfl ?_
              refine k_sub S [(0, .ref r0), (1, .int n1), (2, .int n2), (3, .int n3), (4, .int n4), (5, .int x6), (6, .int x75)] (List.forall_mem_cons.mpr ⟨List.mem_of_getElem? (i := 1) rfl, List.forall_mem_cons.mpr ⟨List.mem_of_getElem? (i := 2) rfl, List.forall_mem_cons.mpr ⟨List.mem_of_getElem? (i := 3) rfl, List.forall_mem_cons.mpr ⟨List.mem_of_getElem? (i := 4) rfl, List.forall_mem_cons.mpr ⟨List.mem_of_getElem? (i := 5) rfl, List.forall_mem_cons.mpr ⟨List.mem_of_getElem? (i := 6) rfl, List.forall_mem_cons.mpr ⟨List.mem_of_getElem? (i := 0) rfl, fun _ h => nomatch h⟩⟩⟩⟩⟩⟩⟩) ?_
              exact J76 _ I68 L51 x75 rfl hI68 CM.rf (fun r z0 => rfl) (by omega) (by omega) (by exact (ROP.z (ff21_0.eq (by rw [hu94, u2_r (mF.ne G_r0 R_r0_22), hr57])) hvD).k (by omega)) (by exact hvw.sm (by rw [hu94, u2_r (mF.ne G_r0 R_r0_4)]) (SMR.eq (by rw [hu94]; exact u2_r (mF.ne G_r0 R_r0_5)))) (by have h9 := hvw.2.1; omega)
            refine k_aload_n C rfl rfl rfl ?_
            refine g_R C rfl rfl rfl T_r0 rfl R_r0_4 ?_
            refine z_iconst C (z := 0) rfl rfl rfl (fun x111 ex111 => ?_)
            refine z_aI C rfl rfl T_r0_4 N_r0_4 (by omega) (by omega) (fun x112 ex112 => ?_)
            have gx112 := rg x112
            have nx112 : I50 r0_4 0 = x112 := (congrArg (I50 r0_4) (nck (n := 0) (by omega))).symm.trans ex112
            have ox112 := IM.dgR hI50 R_r0_4 nx112
            refine k_iload C rfl rfl rfl ?_
            refine b_icmp_eq C (t := 82) rfl rfl rfl (fun c113 => ?_) (fun c113 => ?_)
            · skip
              obtain ⟨v, hvo, hvw⟩ := hv57.2 (by omega)
              have hvD : DGL (WSL (I r0_1) n1.toNatClampNeg) n2.toInt = some v.1 := DGL.y (f := DRG (fun j => (I r0_23 j).toInt) n2.toInt x6.toNatClampNeg) hvo
              refine k_aload_n C rfl rfl rfl ?_
              refine z_bipush C (z := 12) rfl rfl rfl (fun x114 ex114 => ?_)
              refine k_aload_n C rfl rfl rfl ?_
              refine g_R C rfl rfl rfl T_r0 rfl R_r0_4 ?_
              refine z_iconst C (z := 0) rfl rfl rfl (fun x115 ex115 => ?_)
              refine a_I C rfl rfl T_r0_4 (by rw [N_r0_4]; exact vpi (by omega) (by omega)) ((congrArg (I50 r0_4) (nck (n := 0) (by omega))).trans nx112) ?_
              refine z_iconst C (z := 1) rfl rfl rfl (fun x116 ex116 => ?_)
              refine z_iadd C rfl rfl ⟨by omega, by omega⟩ (fun x117 ex117 => ?_)
              refine z_imulL C (c := 12) rfl rfl (by omega) ⟨by omega, by omega⟩ (fun x118 ex118 => ?_)
              have hv94 := hvw.1
              rw [nx112] at hv94
              refine z_pI C rfl rfl rfl T_r0 (Or.inr rfl) rfl (fun I119 uI119 => ?_)
              have hI119 : IM R r0 I119 := IM.fld hI50 G_r0 ⟨(fun h => absurd h (by decide)), (fun h => absurd h (by decide)), (fun h => absurd h (by decide)), (fun _ => ⟨by omega, by omega⟩), (fun h => absurd h (by decide))⟩ uI119
              have S120 : CM A R r0 [24] [] I50 L51 I119 L51 := CM.f G_r0 A_r0 uI119
              have e121 := u2_n uI119 (mF.ne G_r0 R_r0_1) e53
              have e122 := u2_n uI119 (mF.ne G_r0 R_r0_1) e54
              have e124 := u2_n uI119 (mF.ne G_r0 R_r0_4) nx112
              have e125 := u2_e uI119
              have hu94 := uI119
              refine z_iconst C (z := 0) rfl rfl rfl (fun x126 ex126 => ?_)
              have J127 : ∀ (nn128 : Nat) (I129 : IT) (L130 : LT) (x131 : Int32), (MN (41 - x131.toInt) nn128) → (IM R r0 I129) → (CM A R r0 [] [22] I119 L51 I129 L130) → (∀ r : Nat, (r < n3.toNatClampNeg ∨ n3.toNatClampNeg + 492 ≤ r) → I129 r0_22 r = I119 r0_22 r) → (0 ≤ x131.toInt) → (x131.toInt ≤ 41) → (ROP (I129 r0_22) n3.toNatClampNeg w_r0_1_0.toInt (fun j => (I r0_23 j).toInt) n2.toInt (WSL (I r0_1) n1.toNatClampNeg) v.1 (x6.toInt * (v.1 + 1) + x131.toInt)) → (VRW I129 r0_4 r0_5 0 w_r0_1_0.toInt v) → (x131.toInt ≤ v.1 + 1) → V 100 [(0, .ref r0), (1, .int n1), (2, .int n2), (3, .int n3), (4, .int n4), (5, .int x6), (6, .int x131)] [] (T, N, I129, L130, R) 0 0 := by
                intro nn128
                induction nn128 using Nat.strongRecOn with
                | _ nn128 ihJ127 =>
                  intro I129 L130 x131 hmnn128 hI135 S134 F136 b132 b133 ff100_0 ff100_1 ff100_2
                  have gx131 := rg x131
                  have e137 := CM.j S134 R_r0_1 (by decide) e121
                  have e138 := CM.j S134 R_r0_1 (by decide) e122
                  have e139 := CM.j S134 R_r0_4 (by decide) e124
                  have e140 := CM.k S134 (by decide) e125
                  refine k_iload C rfl rfl rfl ?_
                  refine k_aload_n C rfl rfl rfl ?_
                  refine g_R C rfl rfl rfl T_r0 rfl R_r0_4 ?_
                  refine z_iconst C (z := 0) rfl rfl rfl (fun x141 ex141 => ?_)
                  refine a_I C rfl rfl T_r0_4 (by rw [N_r0_4]; exact vpi (by omega) (by omega)) ((congrArg (I129 r0_4) (nck (n := 0) (by omega))).trans e139) ?_
                  refine b_icmp_gt C (t := 145) rfl rfl rfl (fun c142 => ?_) (fun c142 => ?_)
                  · skip
                    refine z_iinc C (z := 1) (lw := fun x143 => [(5, .int x143), (0, .ref r0), (1, .int n1), (2, .int n2), (3, .int n3), (4, .int n4), (6, .int x131)]) rfl rfl rfl (Nat.le_of_ble_eq_true rfl) rfl ⟨by omega, by omega⟩ (fun _ => rfl) (fun x143 ex143 => ?_)
                    show V 148 [(5, .int x143), (0, .ref r0), (1, .int n1), (2, .int n2), (3, .int n3), (4, .int n4), (6, .int x131)] _ _ _ _
                    refine k_goto C (pc2 := 3) rfl rfl ?_
                    refine k_sub S [(0, .ref r0), (1, .int n1), (2, .int n2), (3, .int n3), (4, .int n4), (5, .int x143)] (List.forall_mem_cons.mpr ⟨List.mem_of_getElem? (i := 1) rfl, List.forall_mem_cons.mpr ⟨List.mem_of_getElem? (i := 2) rfl, List.forall_mem_cons.mpr ⟨List.mem_of_getElem? (i := 3) rfl, List.forall_mem_cons.mpr ⟨List.mem_of_getElem? (i := 4) rfl, List.forall_mem_cons.mpr ⟨List.mem_of_getElem? (i := 5) rfl, List.forall_mem_cons.mpr ⟨List.mem_of_getElem? (i := 0) rfl, fun _ h => nomatch h⟩⟩⟩⟩⟩⟩) ?_
                    exact ihJ2 _ (MN.lt hmnn3 (by omega) (by omega)) I129 L130 x143 x118 x112 rfl hI135 (CM.cons S9 (CM.cons S27 (CM.cons S41 (CM.cons S52 (CM.cons S120 (CM.mono S134 (by decide) (by decide)) (by decide) (by decide)) (by decide) (by decide)) (by decide) (by decide)) (by decide) (by decide)) (by decide) (by decide)) (fun r z0 => ((F136 r z0).trans ((congrFun (CM.j0 S120 R_r0_22 (by decide)) r).trans ((congrFun (CM.j0 S52 R_r0_22 (by decide)) r).trans ((congrFun (CM.j0 S41 R_r0_22 (by decide)) r).trans ((congrFun (CM.j0 S27 R_r0_22 (by decide)) r).trans (F11 r z0))))))) (by omega) (by omega) e140 (by omega) (by omega) e139 (by omega) (by omega) (by omega) (by exact RWO.s ff100_0 hvD ⟨hvw.2.1, hvw.2.2.1⟩ (by omega) (by omega) (by omega) (by omega)) (by exact Or.inr ⟨v.1, hvD, by omega, by omega⟩)
                  refine k_aload_n C rfl rfl rfl ?_
                  refine g_R C rfl rfl rfl T_r0 rfl R_r0_22 ?_
                  refine k_iload_n C rfl rfl rfl ?_
                  refine k_iload C rfl rfl rfl ?_
                  refine k_aload_n C rfl rfl rfl ?_
                  refine g_R C rfl rfl rfl T_r0 rfl R_r0_4 ?_
                  refine z_iconst C (z := 0) rfl rfl rfl (fun x144 ex144 => ?_)
                  refine a_I C rfl rfl T_r0_4 (by rw [N_r0_4]; exact vpi (by omega) (by omega)) ((congrArg (I129 r0_4) (nck (n := 0) (by omega))).trans e139) ?_
                  refine z_iconst C (z := 1) rfl rfl rfl (fun x145 ex145 => ?_)
                  refine z_iadd C rfl rfl ⟨by omega, by omega⟩ (fun x146 ex146 => ?_)
                  refine z_imulF C (a := 11) (b := 41) (c := 451) rfl rfl ⟨by omega, by omega⟩ ⟨by omega, by omega⟩ (by decide) (by decide) (fun x147 ex147 => ?_)
                  have gx147 := rg x147
                  have m126 := ex147
                  refine z_iadd C rfl rfl ⟨by omega, by omega⟩ (fun x148 ex148 => ?_)
                  refine k_iload C rfl rfl rfl ?_
                  refine z_iadd C rfl rfl ⟨by omega, by omega⟩ (fun x149 ex149 => ?_)
                  refine k_aload_n C rfl rfl rfl ?_
                  refine z_iconst C (z := 0) rfl rfl rfl (fun x150 ex150 => ?_)
                  refine k_iload C rfl rfl rfl ?_
                  have q151 : x150.toNatClampNeg = 0 := nck (by omega)
                  refine c_VI C (a_X12_of hI135 H_r0 (by omega) (by omega) (by omega) (by omega)) rfl rfl rfl rfl rfl ⟨_, rfl, rfl, T_r0, Nat.le_of_ble_eq_true rfl⟩ rfl rfl (Nat.le_of_ble_eq_true rfl) (Nat.le_of_ble_eq_true rfl) (Nat.le_of_ble_eq_true rfl) ?_
                  rintro x152 _ _ ⟨o0x152, o1x152, p0x152, rfl, rfl⟩
                  have p0x152 := p0x152 r0_5 R_r0_5
                  have gx152 := rg x152
                  try simp only [q151, e137, e138, e139, e140] at p0x152
                  try have q0x152 := congrArg Int32.toInt p0x152
                  have hO := p0x152
                  have hm138 := (m126.2).trans (congrArg (fun t => x6.toInt * t) (show _ = v.1 + 1 from by omega))
                  have hi138 : x149.toInt = n3.toInt + x6.toInt * (v.1 + 1) + x131.toInt := by omega
                  obtain ⟨T_r0_22, N_r0_22, A_r0_22⟩ := id H_r0_22
                  refine z_sI C rfl rfl T_r0_22 N_r0_22 (by omega) (by omega) (fun I153 uI153 => ?_)
                  have hI153 : IM R r0 I153 := IM.arr hI135 G_r0 R_r0_22 ⟨(fun h => absurd h (by decide)), (fun h => absurd h (by decide)), (fun _ => ⟨by omega, by omega⟩)⟩ (fun h => absurd h (by decide)) uI153
                  have S154 : CM A R r0 [] [22] I129 L130 I153 L130 := CM.a G_r0 R_r0_22 A_r0_22 uI153
                  have F155 : ∀ r : Nat, (r < n3.toNatClampNeg ∨ n3.toNatClampNeg + 492 ≤ r) → I153 r0_22 r = I129 r0_22 r := fun r z0 => by rw [uI153]; exact u2_k (by have h1 := ncz (x := n3) (by omega); have h2 := ncz (x := x149) (by omega); omega)
                  have e156 := u2_n uI153 (mF.nq G_r0 R_r0_1 R_r0_22 (by decide)) e137
                  have e157 := u2_n uI153 (mF.nq G_r0 R_r0_1 R_r0_22 (by decide)) e138
                  have e158 := u2_n uI153 (mF.nq G_r0 R_r0_4 R_r0_22 (by decide)) e139
                  have e159 := u2_n uI153 (fun e => (mF.ne G_r0 R_r0_22) e.symm) e140
                  have e160 := u2_e uI153
                  have hu138 := uI153
                  refine z_iinc C (z := 1) (lw := fun x161 => [(6, .int x161), (0, .ref r0), (1, .int n1), (2, .int n2), (3, .int n3), (4, .int n4), (5, .int x6)]) rfl rfl rfl (Nat.le_of_ble_eq_true rfl) rfl ⟨by omega, by omega⟩ (fun _ => rfl) (fun x161 ex161 => ?_)
                  show V 142 [(6, .int x161), (0, .ref r0), (1, .int n1), (2, .int n2), (3, .int n3), (4, .int n4), (5, .int x6)] _ _ _ _
                  refine k_goto C (pc2 := 100) rfl rfl ?_
                  refine k_sub S [(0, .ref r0), (1, .int n1), (2, .int n2), (3, .int n3), (4, .int n4), (5, .int x6), (6, .int x161)] (List.forall_mem_cons.mpr ⟨List.mem_of_getElem? (i := 1) rfl, List.forall_mem_cons.mpr ⟨List.mem_of_getElem? (i := 2) rfl, List.forall_mem_cons.mpr ⟨List.mem_of_getElem? (i := 3) rfl, List.forall_mem_cons.mpr ⟨List.mem_of_getElem? (i := 4) rfl, List.forall_mem_cons.mpr ⟨List.mem_of_getElem? (i := 5) rfl, List.forall_mem_cons.mpr ⟨List.mem_of_getElem? (i := 6) rfl, List.forall_mem_cons.mpr ⟨List.mem_of_getElem? (i := 0) rfl, fun _ h => nomatch h⟩⟩⟩⟩⟩⟩⟩) ?_
                  exact ihJ127 _ (MN.lt hmnn128 (by omega) (by omega)) I153 L130 x161 rfl hI153 (CM.cons S134 (CM.mono S154 (by decide) (by decide)) (by decide) (by decide)) (fun r z0 => ((F155 r z0).trans (F136 r z0))) (by omega) (by omega) (by exact ROP.s ff100_0 hvo ff100_1 hu138 hi138 hO (by omega) (by omega) (by omega) (by omega) (by omega) (by omega)) (by exact ff100_1.sm (by rw [hu138, u2_r (mF.nq G_r0 R_r0_4 R_r0_22 (by decide))]) (SMR.eq (by rw [hu138]; exact u2_r (mF.nq G_r0 R_r0_5 R_r0_22 (by decide))))) (by omega)
              refine k_istore C (lw := [(6, .int x126), (0, .ref r0), (1, .int n1), (2, .int n2), (3, .int n3), (4, .int n4), (5, .int x6)]) rfl rfl (Nat.le_of_ble_eq_true rfl) rfl ?_
              refine k_sub S [(0, .ref r0), (1, .int n1), (2, .int n2), (3, .int n3), (4, .int n4), (5, .int x6), (6, .int x126)] (List.forall_mem_cons.mpr ⟨List.mem_of_getElem? (i := 1) rfl, List.forall_mem_cons.mpr ⟨List.mem_of_getElem? (i := 2) rfl, List.forall_mem_cons.mpr ⟨List.mem_of_getElem? (i := 3) rfl, List.forall_mem_cons.mpr ⟨List.mem_of_getElem? (i := 4) rfl, List.forall_mem_cons.mpr ⟨List.mem_of_getElem? (i := 5) rfl, List.forall_mem_cons.mpr ⟨List.mem_of_getElem? (i := 6) rfl, List.forall_mem_cons.mpr ⟨List.mem_of_getElem? (i := 0) rfl, fun _ h => nomatch h⟩⟩⟩⟩⟩⟩⟩) ?_
              exact J127 _ I119 L51 x126 rfl hI119 CM.rf (fun r z0 => rfl) (by omega) (by omega) (by exact (ROP.z (ff21_0.eq (by rw [hu94, u2_r (mF.ne G_r0 R_r0_22), hr57])) hvD).k (by omega)) (by exact hvw.sm (by rw [hu94, u2_r (mF.ne G_r0 R_r0_4)]) (SMR.eq (by rw [hu94]; exact u2_r (mF.ne G_r0 R_r0_5)))) (by have h9 := hvw.2.1; omega)
            refine z_iconst C (z := 0) rfl rfl rfl (fun x162 ex162 => ?_)
            exact k_iret C rfl (Or.inr ⟨rfl, z01 (by omega) (by omega)⟩) (Nat.le_of_ble_eq_true rfl) (Nat.le_of_ble_eq_true rfl) ⟨_, _, _, rfl, rfl, by omega, by omega, fun a4 h4 => by cases (R_r0_4.symm.trans h4); first | omega | (simp only [e53, e54, e55, nx112, k0_r0_1_3, k0_r0_24, k0_r0_4_0, k0_r0_1_0, and_true, true_and, or_true, true_or, and_false, false_and, or_false, false_or] <;> omega), fun a1 h1 => by cases (R_r0_1.symm.trans h1); intro _; first | exact Or.inl (DGL.n (f := DRG (fun j => (I r0_23 j).toInt) n2.toInt x6.toNatClampNeg) (hv57.1 (by omega))) | (obtain ⟨v, hvo, hvw⟩ := hv57.2 (by omega); have hvD := DGL.y hvo; have hv9 := hvw.1; rw [nx112] at hv9; exact Or.inr ⟨v.1, hvD, by omega, by omega⟩), fun a1 a4 a22 a23 h1 h4 h22 h23 => by cases (R_r0_1.symm.trans h1); cases (R_r0_4.symm.trans h4); cases (R_r0_22.symm.trans h22); cases (R_r0_23.symm.trans h23); intro h; exfalso; omega, fun a22 h22 => by cases (R_r0_22.symm.trans h22); exact (fun r z0 => ((congrFun (CM.j0 S52 R_r0_22 (by decide)) r).trans ((congrFun (CM.j0 S41 R_r0_22 (by decide)) r).trans ((congrFun (CM.j0 S27 R_r0_22 (by decide)) r).trans (F11 r z0))))), hI50, (CM.cons S9 (CM.cons S27 (CM.cons S41 (CM.mono S52 (by decide) (by decide)) (by decide) (by decide)) (by decide) (by decide)) (by decide) (by decide))⟩
          refine k_aload_n C rfl rfl rfl ?_
          refine z_bipush C (z := 44) rfl rfl rfl (fun x163 ex163 => ?_)
          refine k_iload C rfl rfl rfl ?_
          refine k_aload_n C rfl rfl rfl ?_
          refine g_R C rfl rfl rfl T_r0 rfl R_r0_23 ?_
          refine k_iload C rfl rfl rfl ?_
          refine k_iload_n C rfl rfl rfl ?_
          refine z_iconst C (z := 1) rfl rfl rfl (fun x164 ex164 => ?_)
          refine z_iadd C rfl rfl ⟨by omega, by omega⟩ (fun x165 ex165 => ?_)
          refine z_imulF C (a := 11) (b := 9) (c := 99) rfl rfl ⟨by omega, by omega⟩ ⟨by omega, by omega⟩ (by decide) (by decide) (fun x166 ex166 => ?_)
          have gx166 := rg x166
          have m41 := ex166
          refine k_iload C rfl rfl rfl ?_
          refine z_iadd C rfl rfl ⟨by omega, by omega⟩ (fun x167 ex167 => ?_)
          have hw45 := CM.j0 (W := [24]) (WA := [4, 5, 22]) (CM.cons S9 (CM.cons S27 (CM.mono S41 (by decide) (by decide)) (by decide) (by decide)) (by decide) (by decide)) R_r0_23 (by decide)
          obtain ⟨T_r0_23, N_r0_23, A_r0_23⟩ := id H_r0_23
          refine z_aI C rfl rfl T_r0_23 N_r0_23 (by omega) (by omega) (fun x168 ex168 => ?_)
          have gx168 := rg x168
          have ox168 := IM.dnR hI42 R_r0_23 ex168
          have hd45 := ex168
          have hv45 := RGF.r (I := I) (d := n2) (k := x38) hd45 hw45 m41.2 (by omega) (by omega) (by omega) (by omega) (by omega)
          have q169 : x163.toNatClampNeg = 44 := nck (by omega)
          refine c_VV C (a_X12_put hI42 H_r0 (by omega) (by omega) (by omega) (by omega) (by omega) (by omega)) rfl rfl rfl rfl rfl ⟨_, rfl, rfl, T_r0, Nat.le_of_ble_eq_true rfl⟩ rfl rfl (Nat.le_of_ble_eq_true rfl) (Nat.le_of_ble_eq_true rfl) (Nat.le_of_ble_eq_true rfl) ?_
          rintro I171 L172 ⟨p0v170, p1v170, hI171, S173⟩
          have p0v170 := p0v170 r0_5 R_r0_5
          have p1v170 := p1v170 r0_5 R_r0_5
          try simp only [q169] at p1v170
          have e174 := CM.j S173 R_r0_1 (by decide) e43
          have e175 := CM.j S173 R_r0_1 (by decide) e44
          have e176 := CM.k S173 (by decide) e45
          have e177 := CM.j S173 R_r0_4 (by decide) e46
          have e178 := CM.j S173 R_r0_4 (by decide) e47
          have e179 := CM.j S173 R_r0_23 (by decide) ex168
          try simp only [q169, e43, e44, e45, e46, e47, ex168] at p0v170
          try have q0v170 := congrArg Int32.toInt p0v170
          have hP := p0v170
          have hr46 := CM.j0 S173 R_r0_22 (by decide)
          refine z_iinc C (z := 1) (lw := fun x180 => [(6, .int x180), (0, .ref r0), (1, .int n1), (2, .int n2), (3, .int n3), (4, .int n4), (5, .int x6)]) rfl rfl rfl (Nat.le_of_ble_eq_true rfl) rfl ⟨by omega, by omega⟩ (fun _ => rfl) (fun x180 ex180 => ?_)
          show V 52 [(6, .int x180), (0, .ref r0), (1, .int n1), (2, .int n2), (3, .int n3), (4, .int n4), (5, .int x6)] _ _ _ _
          refine k_goto C (pc2 := 21) rfl rfl ?_
          refine k_sub S [(0, .ref r0), (1, .int n1), (2, .int n2), (3, .int n3), (4, .int n4), (5, .int x6), (6, .int x180)] (List.forall_mem_cons.mpr ⟨List.mem_of_getElem? (i := 1) rfl, List.forall_mem_cons.mpr ⟨List.mem_of_getElem? (i := 2) rfl, List.forall_mem_cons.mpr ⟨List.mem_of_getElem? (i := 3) rfl, List.forall_mem_cons.mpr ⟨List.mem_of_getElem? (i := 4) rfl, List.forall_mem_cons.mpr ⟨List.mem_of_getElem? (i := 5) rfl, List.forall_mem_cons.mpr ⟨List.mem_of_getElem? (i := 6) rfl, List.forall_mem_cons.mpr ⟨List.mem_of_getElem? (i := 0) rfl, fun _ h => nomatch h⟩⟩⟩⟩⟩⟩⟩) ?_
          exact ihJ34 _ (MN.lt hmnn35 (by omega) (by omega)) I171 L172 x180 rfl hI171 (CM.cons S41 (CM.mono S173 (by decide) (by decide)) (by decide) (by decide)) (by omega) (by omega) (by exact ff21_0.eq hr46) (by exact ff21_1.s hP hv45 (by omega) (by omega)) (by omega)
      refine k_istore C (lw := [(6, .int x33), (0, .ref r0), (1, .int n1), (2, .int n2), (3, .int n3), (4, .int n4), (5, .int x6)]) rfl rfl (Nat.le_of_ble_eq_true rfl) rfl ?_
      refine k_sub S [(0, .ref r0), (1, .int n1), (2, .int n2), (3, .int n3), (4, .int n4), (5, .int x6), (6, .int x33)] (List.forall_mem_cons.mpr ⟨List.mem_of_getElem? (i := 1) rfl, List.forall_mem_cons.mpr ⟨List.mem_of_getElem? (i := 2) rfl, List.forall_mem_cons.mpr ⟨List.mem_of_getElem? (i := 3) rfl, List.forall_mem_cons.mpr ⟨List.mem_of_getElem? (i := 4) rfl, List.forall_mem_cons.mpr ⟨List.mem_of_getElem? (i := 5) rfl, List.forall_mem_cons.mpr ⟨List.mem_of_getElem? (i := 6) rfl, List.forall_mem_cons.mpr ⟨List.mem_of_getElem? (i := 0) rfl, fun _ h => nomatch h⟩⟩⟩⟩⟩⟩⟩) ?_
      exact J34 _ I26 L5 x33 rfl hI26 CM.rf (by omega) (by omega) (by exact ff3_1.eq (by rw [hu17]; exact u2_r (mF.nq G_r0 R_r0_22 R_r0_4 (by decide)))) (by exact RGF.z (by omega)) (by omega)
  refine k_istore C (lw := [(5, .int x1), (0, .ref r0), (1, .int n1), (2, .int n2), (3, .int n3), (4, .int n4)]) rfl rfl (Nat.le_of_ble_eq_true rfl) rfl ?_
  refine k_sub S [(0, .ref r0), (1, .int n1), (2, .int n2), (3, .int n3), (4, .int n4), (5, .int x1)] (List.forall_mem_cons.mpr ⟨List.mem_of_getElem? (i := 1) rfl, List.forall_mem_cons.mpr ⟨List.mem_of_getElem? (i := 2) rfl, List.forall_mem_cons.mpr ⟨List.mem_of_getElem? (i := 3) rfl, List.forall_mem_cons.mpr ⟨List.mem_of_getElem? (i := 4) rfl, List.forall_mem_cons.mpr ⟨List.mem_of_getElem? (i := 5) rfl, List.forall_mem_cons.mpr ⟨List.mem_of_getElem? (i := 0) rfl, fun _ h => nomatch h⟩⟩⟩⟩⟩⟩) ?_
  exact J2 _ I L x1 w_r0_24 w_r0_4_0 rfl hI CM.rf (fun r z0 => rfl) (by omega) (by omega) k0_r0_24 (by omega) (by omega) k0_r0_4_0 (by omega) (by omega) (by omega) (by exact Or.inl (by omega)) (by exact Or.inl (by omega))

theorem a_X12_isNew_x {d : Nat} {T N : Nat → Nat} {I : IT} {L : LT} {R : RT} {A : Nat → Prop} {r0 : Nat} {n1 n2 : Int32} (hI : IM R r0 I) (H_r0 : (h_MD T N R A) r0) (b0_n1 : 0 ≤ n1.toInt) (b1_n1 : n1.toInt ≤ 3444) (b0_n2 : 0 ≤ n2.toInt) (b1_n2 : n2.toInt ≤ 7) (hp0 : n1.toInt = 492 * n2.toInt) (hp1 : ∀ a22, R r0 22 = some a22 → RWS I a22 n2.toNatClampNeg (I r0 24).toInt) (hp2 : ∀ a1 a22, R r0 1 = some a1 → R r0 22 = some a22 → RCX (I a22) (I a1 0).toInt (I r0 24).toInt n2.toNatClampNeg) : Ex (d + 5) 263 [.ref r0, .int n1, .int n2] (T, N, I, L, R) 0 0 (pI T N R (fun x9 I9 L9 => (0 ≤ x9.toInt) ∧ (x9.toInt ≤ 1) ∧ (∀ a22, R r0 22 = some a22 → x9.toInt = 1 → RW1 I9 a22 n1.toNatClampNeg (I9 r0 24).toInt) ∧ (∀ a1 a22, R r0 1 = some a1 → R r0 22 = some a22 → x9.toInt = 1 → FSW (REL (I a22) (I a1 0).toInt (I r0 24).toInt.toNat n2.toNatClampNeg n2.toNatClampNeg) (I r0 24).toInt.toNat < (I r0 24).toInt.toNat) ∧ (∀ a1 a22, R r0 1 = some a1 → R r0 22 = some a22 → x9.toInt = 0 → ¬ (FSW (REL (I a22) (I a1 0).toInt (I r0 24).toInt.toNat n2.toNatClampNeg n2.toNatClampNeg) (I r0 24).toInt.toNat < (I r0 24).toInt.toNat)) ∧ (∀ a1 a22, R r0 1 = some a1 → R r0 22 = some a22 → EDN (OFS (I9 a22) n1.toNatClampNeg) 0 (REL (I a22) (I a1 0).toInt (I r0 24).toInt.toNat n2.toNatClampNeg n2.toNatClampNeg) (I r0 24).toInt) ∧ (∀ a22, R r0 22 = some a22 → ∀ r : Nat, (r < n1.toNatClampNeg ∨ n1.toNatClampNeg + 492 ≤ r) → I9 a22 r = I a22 r) ∧ (IM R r0 I9 ∧ CM A R r0 [] [22] I L I9 L9))) := by
  refine ⟨_, rfl, Nat.le_of_ble_eq_true rfl, fun V C S => ?_⟩
  show V 0 [(0, .ref r0), (1, .int n1), (2, .int n2)] [] (T, N, I, L, R) 0 0
  have gn1 := rg n1
  have gn2 := rg n2
  obtain ⟨T_r0, A_r0, ⟨r0_1, R_r0_1, H_r0_1⟩, ⟨r0_2, R_r0_2, H_r0_2⟩, ⟨r0_4, R_r0_4, H_r0_4⟩, ⟨r0_5, R_r0_5, H_r0_5⟩, ⟨r0_10, R_r0_10, H_r0_10⟩, ⟨r0_18, R_r0_18, H_r0_18⟩, ⟨r0_20, R_r0_20, H_r0_20⟩, ⟨r0_21, R_r0_21, H_r0_21⟩, ⟨r0_22, R_r0_22, H_r0_22⟩, ⟨r0_23, R_r0_23, H_r0_23⟩, ⟨r0_25, R_r0_25, H_r0_25⟩, ⟨r0_26, R_r0_26, H_r0_26⟩, ⟨r0_27, R_r0_27, H_r0_27⟩, ⟨r0_28, R_r0_28, H_r0_28⟩, ⟨r0_34, R_r0_34, H_r0_34⟩, J_r0, Y_r0⟩ := id H_r0
  have G_r0 : mF T R r0 := ⟨J_r0, Y_r0, T_r0⟩
  obtain ⟨w_r0_24, k0_r0_24⟩ : ∃ x, I r0 24 = x := ⟨_, rfl⟩
  have gw_r0_24 := rg w_r0_24
  have ow_r0_24 := IM.f24 hI k0_r0_24
  obtain ⟨w_r0_1_0, k0_r0_1_0⟩ : ∃ x, I r0_1 0 = x := ⟨_, rfl⟩
  have gw_r0_1_0 := rg w_r0_1_0
  have ow_r0_1_0 := IM.pi hI R_r0_1 k0_r0_1_0
  have hp1 := hp1 r0_22 R_r0_22
  have hp2 := hp2 r0_1 r0_22 R_r0_1 R_r0_22
  try simp only [k0_r0_24, k0_r0_1_0] at hp0
  try simp only [k0_r0_24, k0_r0_1_0] at hp1
  try simp only [k0_r0_24, k0_r0_1_0] at hp2
  have hn1 := ncz (x := n1) (by omega)
  have hn2 := ncz (x := n2) (by omega)
  have hnn : n1.toNatClampNeg = 492 * n2.toNatClampNeg := by omega
  have hPM : PRM w_r0_1_0.toInt := IM.p hI R_r0_1 k0_r0_1_0
  refine z_iconst C (z := 0) rfl rfl rfl (fun x1 ex1 => ?_)
  have J2 : ∀ (nn3 : Nat) (I4 : IT) (L5 : LT) (x6 : Int32), (MN (7 - x6.toInt) nn3) → (IM R r0 I4) → (CM A R r0 [] [22] I L I4 L5) → (∀ r : Nat, (r < n1.toNatClampNeg ∨ n1.toNatClampNeg + 492 ≤ r) → I4 r0_22 r = I r0_22 r) → (0 ≤ x6.toInt) → (x6.toInt ≤ 7) → (RWS I4 r0_22 n2.toNatClampNeg w_r0_24.toInt) → (EDN (OFS (I4 r0_22) n1.toNatClampNeg) 0 (REL (I r0_22) w_r0_1_0.toInt w_r0_24.toInt.toNat n2.toNatClampNeg x6.toNatClampNeg) w_r0_24.toInt) → (∀ j : Nat, j < n1.toNatClampNeg → I4 r0_22 j = I r0_22 j) → (x6.toInt ≤ n2.toInt) → V 2 [(0, .ref r0), (1, .int n1), (2, .int n2), (3, .int x6)] [] (T, N, I4, L5, R) 0 0 := by
    intro nn3
    induction nn3 using Nat.strongRecOn with
    | _ nn3 ihJ2 =>
      intro I4 L5 x6 hmnn3 hI10 S9 F11 b7 b8 ff2_0 ff2_1 ff2_2 ff2_3
      have gx6 := rg x6
      have e12 := CM.k S9 (by decide) k0_r0_24
      have e13 := CM.j S9 R_r0_1 (by decide) k0_r0_1_0
      refine k_iload_n C rfl rfl rfl ?_
      refine k_iload_n C rfl rfl rfl ?_
      refine b_icmp_ge C (t := 115) rfl rfl rfl (fun c14 => ?_) (fun c14 => ?_)
      · skip
        refine k_aload_n C rfl rfl rfl ?_
        refine k_iload_n C rfl rfl rfl ?_
        have hE : EDN (OFS (I4 r0_22) n1.toNatClampNeg) 0 (REL (I r0_22) w_r0_1_0.toInt w_r0_24.toInt.toNat n2.toNatClampNeg n2.toNatClampNeg) w_r0_24.toInt := by (rw [show x6.toNatClampNeg = n2.toNatClampNeg from by (have h2 := ncz (x := x6) (by omega)); omega] at ff2_1); exact ff2_1
        refine c_VI C (a_X12_firstOf hI10 H_r0 (by omega) (by omega)) rfl rfl rfl rfl rfl ⟨_, rfl, rfl, T_r0, Nat.le_of_ble_eq_true rfl⟩ rfl rfl (Nat.le_of_ble_eq_true rfl) (Nat.le_of_ble_eq_true rfl) (Nat.le_of_ble_eq_true rfl) ?_
        rintro x15 _ _ ⟨o0x15, o1x15, p0x15, p1x15, p2x15, rfl, rfl⟩
        have p1x15 := p1x15 r0_22 R_r0_22
        have p2x15 := p2x15 r0_22 R_r0_22
        have gx15 := rg x15
        try simp only [e12, e13] at p0x15
        try have q0x15 := congrArg Int32.toInt p0x15
        try simp only [e12, e13] at p1x15
        try have q1x15 := congrArg Int32.toInt p1x15
        try simp only [e12, e13] at p2x15
        try have q2x15 := congrArg Int32.toInt p2x15
        have hF := fun (z : x15.toInt < w_r0_24.toInt) => RW1.of (p2x15 z) (by omega) z
        have hf117 := FSW.h hE p1x15 (by omega) (by omega) (fun z => by (rw [show x15.toInt.toNat = x15.toNatClampNeg from by (have h2 := ncz (x := x15) (by omega)); omega]); exact p2x15 z)
        refine k_aload_n C rfl rfl rfl ?_
        refine g_I C rfl rfl rfl T_r0 rfl e12 ?_
        refine b_icmp_ge C (t := 131) rfl rfl rfl (fun c16 => ?_) (fun c16 => ?_)
        · skip
          refine z_iconst C (z := 0) rfl rfl rfl (fun x17 ex17 => ?_)
          exact k_iret C rfl (Or.inr ⟨rfl, z01 (by omega) (by omega)⟩) (Nat.le_of_ble_eq_true rfl) (Nat.le_of_ble_eq_true rfl) ⟨_, _, _, rfl, rfl, by omega, by omega, fun a22 h22 => by cases (R_r0_22.symm.trans h22); first | (intro h; exfalso; omega) | (intro _; rw [e12]; exact hF (by omega)), fun a1 a22 h1 h22 => by cases (R_r0_1.symm.trans h1); cases (R_r0_22.symm.trans h22); intro h; simp only [k0_r0_1_0, k0_r0_24]; rw [hf117]; omega, fun a1 a22 h1 h22 => by cases (R_r0_1.symm.trans h1); cases (R_r0_22.symm.trans h22); intro h; simp only [k0_r0_1_0, k0_r0_24]; rw [hf117]; omega, fun a1 a22 h1 h22 => by cases (R_r0_1.symm.trans h1); cases (R_r0_22.symm.trans h22); simp only [k0_r0_1_0, k0_r0_24]; exact hE, fun a22 h22 => by cases (R_r0_22.symm.trans h22); exact (fun r z0 => (F11 r z0)), hI10, (CM.mono S9 (by decide) (by decide))⟩
        refine z_iconst C (z := 1) rfl rfl rfl (fun x18 ex18 => ?_)
        refine k_goto C (pc2 := 132) rfl rfl ?_
        exact k_iret C rfl (Or.inr ⟨rfl, z01 (by omega) (by omega)⟩) (Nat.le_of_ble_eq_true rfl) (Nat.le_of_ble_eq_true rfl) ⟨_, _, _, rfl, rfl, by omega, by omega, fun a22 h22 => by cases (R_r0_22.symm.trans h22); first | (intro h; exfalso; omega) | (intro _; rw [e12]; exact hF (by omega)), fun a1 a22 h1 h22 => by cases (R_r0_1.symm.trans h1); cases (R_r0_22.symm.trans h22); intro h; simp only [k0_r0_1_0, k0_r0_24]; rw [hf117]; omega, fun a1 a22 h1 h22 => by cases (R_r0_1.symm.trans h1); cases (R_r0_22.symm.trans h22); intro h; simp only [k0_r0_1_0, k0_r0_24]; rw [hf117]; omega, fun a1 a22 h1 h22 => by cases (R_r0_1.symm.trans h1); cases (R_r0_22.symm.trans h22); simp only [k0_r0_1_0, k0_r0_24]; exact hE, fun a22 h22 => by cases (R_r0_22.symm.trans h22); exact (fun r z0 => (F11 r z0)), hI10, (CM.mono S9 (by decide) (by decide))⟩
      refine k_aload_n C rfl rfl rfl ?_
      refine z_sipush C (z := 492) rfl rfl rfl (fun x19 ex19 => ?_)
      refine k_iload_n C rfl rfl rfl ?_
      refine z_imulL C (c := 492) rfl rfl (by omega) ⟨by omega, by omega⟩ (fun x20 ex20 => ?_)
      have hl3 := ncz (x := x6) (by omega)
      have hi13 : x20.toNatClampNeg = 492 * x6.toNatClampNeg := by (have hj := ncz (x := x20) (by omega)); omega
      refine c_VI C (a_X12_firstOf hI10 H_r0 (by omega) (by omega)) rfl rfl rfl rfl rfl ⟨_, rfl, rfl, T_r0, Nat.le_of_ble_eq_true rfl⟩ rfl rfl (Nat.le_of_ble_eq_true rfl) (Nat.le_of_ble_eq_true rfl) (Nat.le_of_ble_eq_true rfl) ?_
      rintro x21 _ _ ⟨o0x21, o1x21, p0x21, p1x21, p2x21, rfl, rfl⟩
      have p1x21 := p1x21 r0_22 R_r0_22
      have p2x21 := p2x21 r0_22 R_r0_22
      have gx21 := rg x21
      try simp only [e12, e13] at p0x21
      try have q0x21 := congrArg Int32.toInt p0x21
      try simp only [e12, e13] at p1x21
      try have q1x21 := congrArg Int32.toInt p1x21
      try simp only [e12, e13] at p2x21
      try have q2x21 := congrArg Int32.toInt p2x21
      have hlt := RWS.lt (r := x6) ff2_0 p1x21 (by omega) (by omega) (by omega)
      have hl4 := ncz (x := x21) (by omega)
      have hf13 := REL.l (I := I) (r := x6.toNatClampNeg) ff2_2 p1x21 p2x21 hi13 (by omega) (by omega) hlt (by omega)
      have hz13 : RRW (I r0_22) x6.toNatClampNeg x21.toNatClampNeg ≠ 0 := by (show (I r0_22 (492 * x6.toNatClampNeg + x21.toNatClampNeg)).toInt ≠ 0); rw [← ff2_2 _ (by omega), ← hi13]; exact p2x21 hlt
      refine k_istore C (lw := [(4, .int x21), (0, .ref r0), (1, .int n1), (2, .int n2), (3, .int x6)]) rfl rfl (Nat.le_of_ble_eq_true rfl) rfl ?_
      refine k_aload_n C rfl rfl rfl ?_
      refine k_aload_n C rfl rfl rfl ?_
      refine g_R C rfl rfl rfl T_r0 rfl R_r0_22 ?_
      refine k_iload_n C rfl rfl rfl ?_
      refine k_iload C rfl rfl rfl ?_
      refine z_iadd C rfl rfl ⟨by omega, by omega⟩ (fun x22 ex22 => ?_)
      obtain ⟨T_r0_22, N_r0_22, A_r0_22⟩ := id H_r0_22
      refine z_aI C rfl rfl T_r0_22 N_r0_22 (by omega) (by omega) (fun x23 ex23 => ?_)
      have gx23 := rg x23
      have ox23 := IM.rsR hI10 R_r0_22 ex23
      have hb27 : x22.toNatClampNeg = n1.toNatClampNeg + x21.toNatClampNeg := by (have h1 := ncz (x := n1) (by omega)); (have h2 := ncz (x := x6) (by omega)); (have h3 := ncz (x := x21) (by omega)); (have hj := ncz (x := x22) (by omega)); omega
      have hv27 := EDN.g (k := x21) ff2_1 ((congrArg (I4 r0_22) hb27.symm).trans ex23) (by omega) (by omega)
      refine k_aload_n C rfl rfl rfl ?_
      refine k_aload_n C rfl rfl rfl ?_
      refine g_R C rfl rfl rfl T_r0 rfl R_r0_22 ?_
      refine z_sipush C (z := 492) rfl rfl rfl (fun x24 ex24 => ?_)
      refine k_iload_n C rfl rfl rfl ?_
      refine z_imulL C (c := 492) rfl rfl (by omega) ⟨by omega, by omega⟩ (fun x25 ex25 => ?_)
      refine k_iload C rfl rfl rfl ?_
      refine z_iadd C rfl rfl ⟨by omega, by omega⟩ (fun x26 ex26 => ?_)
      refine z_aI C rfl rfl T_r0_22 N_r0_22 (by omega) (by omega) (fun x27 ex27 => ?_)
      have gx27 := rg x27
      have ox27 := IM.rsR hI10 R_r0_22 ex27
      have hb41 : x26.toNatClampNeg = 492 * x6.toNatClampNeg + x21.toNatClampNeg := by (have h1 := ncz (x := n1) (by omega)); (have h2 := ncz (x := x6) (by omega)); (have h3 := ncz (x := x21) (by omega)); (have hj := ncz (x := x26) (by omega)); omega
      have hv41 : RRW (I r0_22) x6.toNatClampNeg x21.toNatClampNeg = _ := congrArg Int32.toInt ((ff2_2 (492 * x6.toNatClampNeg + x21.toNatClampNeg) (by omega)).symm.trans ((congrArg (I4 r0_22) hb41.symm).trans ex27))
      have hb41b := hp2 x6.toNatClampNeg (by omega) x21.toNatClampNeg (by omega)
      rw [hv41] at hb41b hz13
      refine c_VI C (a_X12_inverse_x hI10 H_r0 (by omega) (by omega)) rfl rfl rfl rfl rfl ⟨_, rfl, rfl, T_r0, Nat.le_of_ble_eq_true rfl⟩ rfl rfl (Nat.le_of_ble_eq_true rfl) (Nat.le_of_ble_eq_true rfl) (Nat.le_of_ble_eq_true rfl) ?_
      rintro x28 _ _ ⟨o0x28, o1x28, p0x28, p1x28, rfl, rfl⟩
      have p0x28 := p0x28 r0_1 R_r0_1
      have gx28 := rg x28
      try simp only [e12, e13, ex23, ex27] at p0x28
      try have q0x28 := congrArg Int32.toInt p0x28
      try simp only [e12, e13, ex23, ex27] at p1x28
      try have q1x28 := congrArg Int32.toInt p1x28
      have hiv := p0x28
      have hix := p1x28 (by omega)
      refine c_VI C (a_X12_times hI10 H_r0 (by omega) (by omega) (by omega) (by omega)) rfl rfl rfl rfl rfl ⟨_, rfl, rfl, T_r0, Nat.le_of_ble_eq_true rfl⟩ rfl rfl (Nat.le_of_ble_eq_true rfl) (Nat.le_of_ble_eq_true rfl) (Nat.le_of_ble_eq_true rfl) ?_
      rintro x29 _ _ ⟨o0x29, o1x29, p0x29, p1x29, p2x29, p3x29, rfl, rfl⟩
      have p0x29 := p0x29 r0_1 R_r0_1
      have p2x29 := p2x29 r0_1 R_r0_1
      have p3x29 := p3x29 r0_1 R_r0_1
      have gx29 := rg x29
      try simp only [e12, e13, ex23, ex27] at p0x29
      try have q0x29 := congrArg Int32.toInt p0x29
      try simp only [e12, e13, ex23, ex27] at p1x29
      try have q1x29 := congrArg Int32.toInt p1x29
      try simp only [e12, e13, ex23, ex27] at p2x29
      try have q2x29 := congrArg Int32.toInt p2x29
      try simp only [e12, e13, ex23, ex27] at p3x29
      try have q3x29 := congrArg Int32.toInt p3x29
      have ht45 := p3x29
      refine k_istore C (lw := [(5, .int x29), (4, .int x21), (0, .ref r0), (1, .int n1), (2, .int n2), (3, .int x6)]) rfl rfl (Nat.le_of_ble_eq_true rfl) rfl ?_
      refine z_iconst C (z := 0) rfl rfl rfl (fun x30 ex30 => ?_)
      have J31 : ∀ (nn32 : Nat) (I33 : IT) (L34 : LT) (x35 : Int32), (MN (492 - x35.toInt) nn32) → (IM R r0 I33) → (CM A R r0 [] [22] I4 L5 I33 L34) → (∀ r : Nat, (r < n1.toNatClampNeg ∨ n1.toNatClampNeg + 492 ≤ r) → I33 r0_22 r = I4 r0_22 r) → (0 ≤ x35.toInt) → (x35.toInt ≤ 492) → (RWS I33 r0_22 n2.toNatClampNeg w_r0_24.toInt) → (EDM (OFS (I33 r0_22) n1.toNatClampNeg) 0 (REL (I r0_22) w_r0_1_0.toInt w_r0_24.toInt.toNat n2.toNatClampNeg (x6.toNatClampNeg + 1)) (REL (I r0_22) w_r0_1_0.toInt w_r0_24.toInt.toNat n2.toNatClampNeg x6.toNatClampNeg) w_r0_24.toInt x35.toInt) → (∀ j : Nat, j < n1.toNatClampNeg → I33 r0_22 j = I r0_22 j) → (x35.toInt ≤ w_r0_24.toInt) → V 53 [(0, .ref r0), (1, .int n1), (2, .int n2), (3, .int x6), (5, .int x29), (6, .int x35)] [] (T, N, I33, L34, R) 0 0 := by
        intro nn32
        induction nn32 using Nat.strongRecOn with
        | _ nn32 ihJ31 =>
          intro I33 L34 x35 hmnn32 hI39 S38 F40 b36 b37 ff53_0 ff53_1 ff53_2 ff53_3
          have gx35 := rg x35
          have e41 := CM.k S38 (by decide) e12
          have e42 := CM.j S38 R_r0_1 (by decide) e13
          refine k_iload C rfl rfl rfl ?_
          refine k_aload_n C rfl rfl rfl ?_
          refine g_I C rfl rfl rfl T_r0 rfl e41 ?_
          refine b_icmp_ge C (t := 109) rfl rfl rfl (fun c43 => ?_) (fun c43 => ?_)
          · skip
            refine z_iinc C (z := 1) (lw := fun x44 => [(3, .int x44), (0, .ref r0), (1, .int n1), (2, .int n2), (5, .int x29), (6, .int x35)]) rfl rfl rfl (Nat.le_of_ble_eq_true rfl) rfl ⟨by omega, by omega⟩ (fun _ => rfl) (fun x44 ex44 => ?_)
            show V 112 [(3, .int x44), (0, .ref r0), (1, .int n1), (2, .int n2), (5, .int x29), (6, .int x35)] _ _ _ _
            refine k_goto C (pc2 := 2) rfl rfl ?_
            refine k_sub S [(0, .ref r0), (1, .int n1), (2, .int n2), (3, .int x44)] (List.forall_mem_cons.mpr ⟨List.mem_of_getElem? (i := 1) rfl, List.forall_mem_cons.mpr ⟨List.mem_of_getElem? (i := 2) rfl, List.forall_mem_cons.mpr ⟨List.mem_of_getElem? (i := 3) rfl, List.forall_mem_cons.mpr ⟨List.mem_of_getElem? (i := 0) rfl, fun _ h => nomatch h⟩⟩⟩⟩) ?_
            exact ihJ2 _ (MN.lt hmnn3 (by omega) (by omega)) I33 L34 x44 rfl hI39 (CM.cons S9 (CM.mono S38 (by decide) (by decide)) (by decide) (by decide)) (fun r z0 => ((F40 r z0).trans (F11 r z0))) (by omega) (by omega) (by exact ff53_0) (by exact EDN.so (EDM.e ff53_1 (by omega)) (by omega) (by omega)) (by exact ff53_2) (by omega)
          refine k_aload_n C rfl rfl rfl ?_
          refine g_R C rfl rfl rfl T_r0 rfl R_r0_22 ?_
          refine k_iload_n C rfl rfl rfl ?_
          refine k_iload C rfl rfl rfl ?_
          refine z_iadd C rfl rfl ⟨by omega, by omega⟩ (fun x45 ex45 => ?_)
          refine k_aload_n C rfl rfl rfl ?_
          refine k_aload_n C rfl rfl rfl ?_
          refine g_R C rfl rfl rfl T_r0 rfl R_r0_22 ?_
          refine k_iload_n C rfl rfl rfl ?_
          refine k_iload C rfl rfl rfl ?_
          refine z_iadd C rfl rfl ⟨by omega, by omega⟩ (fun x46 ex46 => ?_)
          refine z_aI C rfl rfl T_r0_22 N_r0_22 (by omega) (by omega) (fun x47 ex47 => ?_)
          have gx47 := rg x47
          have ox47 := IM.rsR hI39 R_r0_22 ex47
          have hb79 : x46.toNatClampNeg = n1.toNatClampNeg + x35.toNatClampNeg := by (have h1 := ncz (x := n1) (by omega)); (have h2 := ncz (x := x6) (by omega)); (have h3 := ncz (x := x35) (by omega)); (have hj := ncz (x := x46) (by omega)); omega
          have hv79 := EDM.g (k := x35) ff53_1 ((congrArg (I33 r0_22) hb79.symm).trans ex47) (by omega) (by omega)
          refine k_aload_n C rfl rfl rfl ?_
          refine k_iload C rfl rfl rfl ?_
          refine k_aload_n C rfl rfl rfl ?_
          refine g_R C rfl rfl rfl T_r0 rfl R_r0_22 ?_
          refine z_sipush C (z := 492) rfl rfl rfl (fun x48 ex48 => ?_)
          refine k_iload_n C rfl rfl rfl ?_
          refine z_imulL C (c := 492) rfl rfl (by omega) ⟨by omega, by omega⟩ (fun x49 ex49 => ?_)
          refine k_iload C rfl rfl rfl ?_
          refine z_iadd C rfl rfl ⟨by omega, by omega⟩ (fun x50 ex50 => ?_)
          refine z_aI C rfl rfl T_r0_22 N_r0_22 (by omega) (by omega) (fun x51 ex51 => ?_)
          have gx51 := rg x51
          have ox51 := IM.rsR hI39 R_r0_22 ex51
          have hb95 : x50.toNatClampNeg = 492 * x6.toNatClampNeg + x35.toNatClampNeg := by (have h1 := ncz (x := n1) (by omega)); (have h2 := ncz (x := x6) (by omega)); (have h3 := ncz (x := x35) (by omega)); (have hj := ncz (x := x50) (by omega)); omega
          have hv95 : RRW (I r0_22) x6.toNatClampNeg x35.toNatClampNeg = _ := congrArg Int32.toInt ((ff53_2 (492 * x6.toNatClampNeg + x35.toNatClampNeg) (by have h3 := ncz (x := x35) (by omega); omega)).symm.trans ((congrArg (I33 r0_22) hb95.symm).trans ex51))
          refine c_VI C (a_X12_times hI39 H_r0 (by omega) (by omega) (by omega) (by omega)) rfl rfl rfl rfl rfl ⟨_, rfl, rfl, T_r0, Nat.le_of_ble_eq_true rfl⟩ rfl rfl (Nat.le_of_ble_eq_true rfl) (Nat.le_of_ble_eq_true rfl) (Nat.le_of_ble_eq_true rfl) ?_
          rintro x52 _ _ ⟨o0x52, o1x52, p0x52, p1x52, p2x52, p3x52, rfl, rfl⟩
          have p0x52 := p0x52 r0_1 R_r0_1
          have p2x52 := p2x52 r0_1 R_r0_1
          have p3x52 := p3x52 r0_1 R_r0_1
          have gx52 := rg x52
          try simp only [e41, e42, ex47, ex51] at p0x52
          try have q0x52 := congrArg Int32.toInt p0x52
          try simp only [e41, e42, ex47, ex51] at p1x52
          try have q1x52 := congrArg Int32.toInt p1x52
          try simp only [e41, e42, ex47, ex51] at p2x52
          try have q2x52 := congrArg Int32.toInt p2x52
          try simp only [e41, e42, ex47, ex51] at p3x52
          try have q3x52 := congrArg Int32.toInt p3x52
          have ht96 := p3x52
          refine c_VI C (a_X12_less hI39 H_r0 (by omega) (by omega) (by omega) (by omega)) rfl rfl rfl rfl rfl ⟨_, rfl, rfl, T_r0, Nat.le_of_ble_eq_true rfl⟩ rfl rfl (Nat.le_of_ble_eq_true rfl) (Nat.le_of_ble_eq_true rfl) (Nat.le_of_ble_eq_true rfl) ?_
          rintro x53 _ _ ⟨o0x53, o1x53, p0x53, p1x53, p2x53, p3x53, rfl, rfl⟩
          have p0x53 := p0x53 r0_1 R_r0_1
          have p2x53 := p2x53 r0_1 R_r0_1
          have p3x53 := p3x53 r0_1 R_r0_1
          have gx53 := rg x53
          try simp only [e41, e42, ex47, ex51] at p0x53
          try have q0x53 := congrArg Int32.toInt p0x53
          try simp only [e41, e42, ex47, ex51] at p1x53
          try have q1x53 := congrArg Int32.toInt p1x53
          try simp only [e41, e42, ex47, ex51] at p2x53
          try have q2x53 := congrArg Int32.toInt p2x53
          try simp only [e41, e42, ex47, ex51] at p3x53
          try have q3x53 := congrArg Int32.toInt p3x53
          have hl99 := p3x53
          have hb102 : x45.toNatClampNeg = n1.toNatClampNeg + x35.toNatClampNeg := by (have h1 := ncz (x := n1) (by omega)); (have h2 := ncz (x := x6) (by omega)); (have h3 := ncz (x := x35) (by omega)); (have hj := ncz (x := x45) (by omega)); omega
          have hk102 := ncz (x := x35) (by omega)
          refine z_sI C rfl rfl T_r0_22 N_r0_22 (by omega) (by omega) (fun I54 uI54 => ?_)
          have hI54 : IM R r0 I54 := IM.arr hI39 G_r0 R_r0_22 ⟨(fun h => absurd h (by decide)), (fun h => absurd h (by decide)), (fun _ => ⟨by omega, by omega⟩)⟩ (fun h => absurd h (by decide)) uI54
          have S55 : CM A R r0 [] [22] I33 L34 I54 L34 := CM.a G_r0 R_r0_22 A_r0_22 uI54
          have F56 : ∀ r : Nat, (r < n1.toNatClampNeg ∨ n1.toNatClampNeg + 492 ≤ r) → I54 r0_22 r = I33 r0_22 r := fun r z0 => by rw [uI54]; exact u2_k (by have h1 := ncz (x := n1) (by omega); have h2 := ncz (x := x45) (by omega); omega)
          have e57 := u2_n uI54 (fun e => (mF.ne G_r0 R_r0_22) e.symm) e41
          have e58 := u2_n uI54 (mF.nq G_r0 R_r0_1 R_r0_22 (by decide)) e42
          have e61 := u2_e uI54
          have hu102 := uI54
          refine z_iinc C (z := 1) (lw := fun x62 => [(6, .int x62), (0, .ref r0), (1, .int n1), (2, .int n2), (3, .int x6), (5, .int x29)]) rfl rfl rfl (Nat.le_of_ble_eq_true rfl) rfl ⟨by omega, by omega⟩ (fun _ => rfl) (fun x62 ex62 => ?_)
          show V 106 [(6, .int x62), (0, .ref r0), (1, .int n1), (2, .int n2), (3, .int x6), (5, .int x29)] _ _ _ _
          refine k_goto C (pc2 := 53) rfl rfl ?_
          refine k_sub S [(0, .ref r0), (1, .int n1), (2, .int n2), (3, .int x6), (5, .int x29), (6, .int x62)] (List.forall_mem_cons.mpr ⟨List.mem_of_getElem? (i := 1) rfl, List.forall_mem_cons.mpr ⟨List.mem_of_getElem? (i := 2) rfl, List.forall_mem_cons.mpr ⟨List.mem_of_getElem? (i := 3) rfl, List.forall_mem_cons.mpr ⟨List.mem_of_getElem? (i := 4) rfl, List.forall_mem_cons.mpr ⟨List.mem_of_getElem? (i := 5) rfl, List.forall_mem_cons.mpr ⟨List.mem_of_getElem? (i := 0) rfl, fun _ h => nomatch h⟩⟩⟩⟩⟩⟩) ?_
          exact ihJ31 _ (MN.lt hmnn32 (by omega) (by omega)) I54 L34 x62 rfl hI54 (CM.cons S38 (CM.mono S55 (by decide) (by decide)) (by decide) (by decide)) (fun r z0 => ((F56 r z0).trans (F40 r z0))) (by omega) (by omega) (by exact RWS.fr ff53_0 (fun r z0 => (F56 r z0)) (by omega) (by omega) (by omega)) (by exact EDM.o ff53_1 hu102 hb102 (REL.v hp2 hPM (by omega) (by omega) hf13 (by omega) hv41 hz13 hiv hix (by rw [← hv27]; exact ht45) hv79 hv95.symm ht96 hl99) (by omega) (by omega)) (by exact fun j hj => by rw [hu102, u2_k (by omega)]; exact ff53_2 j hj) (by omega)
      refine k_istore C (lw := [(6, .int x30), (5, .int x29), (4, .int x21), (0, .ref r0), (1, .int n1), (2, .int n2), (3, .int x6)]) rfl rfl (Nat.le_of_ble_eq_true rfl) rfl ?_
      refine k_sub S [(0, .ref r0), (1, .int n1), (2, .int n2), (3, .int x6), (5, .int x29), (6, .int x30)] (List.forall_mem_cons.mpr ⟨List.mem_of_getElem? (i := 3) rfl, List.forall_mem_cons.mpr ⟨List.mem_of_getElem? (i := 4) rfl, List.forall_mem_cons.mpr ⟨List.mem_of_getElem? (i := 5) rfl, List.forall_mem_cons.mpr ⟨List.mem_of_getElem? (i := 6) rfl, List.forall_mem_cons.mpr ⟨List.mem_of_getElem? (i := 1) rfl, List.forall_mem_cons.mpr ⟨List.mem_of_getElem? (i := 0) rfl, fun _ h => nomatch h⟩⟩⟩⟩⟩⟩) ?_
      exact J31 _ I4 L5 x30 rfl hI10 CM.rf (fun r z0 => rfl) (by omega) (by omega) (by exact ff2_0) (by exact EDM.z ff2_1 (by omega)) (by exact ff2_2) (by omega)
  refine k_istore_n C (lw := [(3, .int x1), (0, .ref r0), (1, .int n1), (2, .int n2)]) rfl rfl (Nat.le_of_ble_eq_true rfl) rfl ?_
  refine k_sub S [(0, .ref r0), (1, .int n1), (2, .int n2), (3, .int x1)] (List.forall_mem_cons.mpr ⟨List.mem_of_getElem? (i := 1) rfl, List.forall_mem_cons.mpr ⟨List.mem_of_getElem? (i := 2) rfl, List.forall_mem_cons.mpr ⟨List.mem_of_getElem? (i := 3) rfl, List.forall_mem_cons.mpr ⟨List.mem_of_getElem? (i := 0) rfl, fun _ h => nomatch h⟩⟩⟩⟩) ?_
  exact J2 _ I L x1 rfl hI CM.rf (fun r z0 => rfl) (by omega) (by omega) (by exact hp1) (by exact EDN.zo rfl hnn (by omega)) (by exact fun _ _ => rfl) (by omega)

theorem a_X12_basisOf_x {d : Nat} {T N : Nat → Nat} {I : IT} {L : LT} {R : RT} {A : Nat → Prop} {r0 : Nat} {n1 n2 n3 : Int32} (hI : IM R r0 I) (H_r0 : (h_MD T N R A) r0) (b0_n2 : 1 ≤ n2.toInt) (b1_n2 : n2.toInt ≤ 8) (hp0 : ∀ a1, R r0 1 = some a1 → ∀ j : Nat, j < 8 → (j : Int) < (I a1 3).toInt → HOV (WSL (I a1) j) 0) : Ex (d + 10) 264 [.ref r0, .int n1, .int n2, .int n3] (T, N, I, L, R) 0 0 (pI T N R (fun x9 I9 L9 => (∀ a1, R r0 1 = some a1 → SPQ x9 (SPF (I a1 0).toInt n3 n2.toInt n1.toInt (I a1 3).toInt (WSL (I a1)) 8)) ∧ (IM R r0 I9 ∧ CM A R r0 [24] [4, 5, 22, 23] I L I9 L9))) := by
  refine ⟨_, rfl, Nat.le_of_ble_eq_true rfl, fun V C S => ?_⟩
  show V 0 [(0, .ref r0), (1, .int n1), (2, .int n2), (3, .int n3)] [] (T, N, I, L, R) 0 0
  have gn1 := rg n1
  have gn2 := rg n2
  have gn3 := rg n3
  obtain ⟨T_r0, A_r0, ⟨r0_1, R_r0_1, H_r0_1⟩, ⟨r0_2, R_r0_2, H_r0_2⟩, ⟨r0_4, R_r0_4, H_r0_4⟩, ⟨r0_5, R_r0_5, H_r0_5⟩, ⟨r0_10, R_r0_10, H_r0_10⟩, ⟨r0_18, R_r0_18, H_r0_18⟩, ⟨r0_20, R_r0_20, H_r0_20⟩, ⟨r0_21, R_r0_21, H_r0_21⟩, ⟨r0_22, R_r0_22, H_r0_22⟩, ⟨r0_23, R_r0_23, H_r0_23⟩, ⟨r0_25, R_r0_25, H_r0_25⟩, ⟨r0_26, R_r0_26, H_r0_26⟩, ⟨r0_27, R_r0_27, H_r0_27⟩, ⟨r0_28, R_r0_28, H_r0_28⟩, ⟨r0_34, R_r0_34, H_r0_34⟩, J_r0, Y_r0⟩ := id H_r0
  have G_r0 : mF T R r0 := ⟨J_r0, Y_r0, T_r0⟩
  obtain ⟨w_r0_24, k0_r0_24⟩ : ∃ x, I r0 24 = x := ⟨_, rfl⟩
  have gw_r0_24 := rg w_r0_24
  have ow_r0_24 := IM.f24 hI k0_r0_24
  obtain ⟨w_r0_1_0, k0_r0_1_0⟩ : ∃ x, I r0_1 0 = x := ⟨_, rfl⟩
  have gw_r0_1_0 := rg w_r0_1_0
  have ow_r0_1_0 := IM.pi hI R_r0_1 k0_r0_1_0
  obtain ⟨w_r0_1_3, k0_r0_1_3⟩ : ∃ x, I r0_1 3 = x := ⟨_, rfl⟩
  have gw_r0_1_3 := rg w_r0_1_3
  have ow_r0_1_3 := IM.c3 hI R_r0_1 k0_r0_1_3
  have hp0 := hp0 r0_1 R_r0_1
  try simp only [k0_r0_24, k0_r0_1_0, k0_r0_1_3] at hp0
  refine k_aload_n C rfl rfl rfl ?_
  refine k_iload_n C rfl rfl rfl ?_
  refine k_iload_n C rfl rfl rfl ?_
  refine c_VV C (a_X12_draws_x hI H_r0 (by omega) (by omega)) rfl rfl rfl rfl rfl ⟨_, rfl, rfl, T_r0, Nat.le_of_ble_eq_true rfl⟩ rfl rfl (Nat.le_of_ble_eq_true rfl) (Nat.le_of_ble_eq_true rfl) (Nat.le_of_ble_eq_true rfl) ?_
  rintro I2 L3 ⟨p0v1, hI2, S4⟩
  have p0v1 := p0v1 r0_1 r0_23 R_r0_1 R_r0_23
  have e5 := CM.k S4 (by decide) k0_r0_24
  have e6 := CM.j S4 R_r0_1 (by decide) k0_r0_1_0
  have e7 := CM.j S4 R_r0_1 (by decide) k0_r0_1_3
  try simp only [k0_r0_24, k0_r0_1_0, k0_r0_1_3] at p0v1
  try have q0v1 := congrArg Int32.toInt p0v1
  have hdr := p0v1
  refine z_iconst C (z := 0) rfl rfl rfl (fun x8 ex8 => ?_)
  refine k_istore C (lw := [(4, .int x8), (0, .ref r0), (1, .int n1), (2, .int n2), (3, .int n3)]) rfl rfl (Nat.le_of_ble_eq_true rfl) rfl ?_
  refine z_iconst C (z := 0) rfl rfl rfl (fun x9 ex9 => ?_)
  refine k_istore C (lw := [(5, .int x9), (4, .int x8), (0, .ref r0), (1, .int n1), (2, .int n2), (3, .int n3)]) rfl rfl (Nat.le_of_ble_eq_true rfl) rfl ?_
  refine z_iconst C (z := -1) rfl rfl rfl (fun x10 ex10 => ?_)
  refine k_istore C (lw := [(6, .int x10), (5, .int x9), (4, .int x8), (0, .ref r0), (1, .int n1), (2, .int n2), (3, .int n3)]) rfl rfl (Nat.le_of_ble_eq_true rfl) rfl ?_
  refine z_iconst C (z := 0) rfl rfl rfl (fun x11 ex11 => ?_)
  have J12 : ∀ (nn13 : Nat) (I14 : IT) (L15 : LT) (x16 : Int32) (x19 : Int32) (x20 : Int32) (x23 : Int32) (x28 : Int32), (MN (8 - x23.toInt) nn13) → (IM R r0 I14) → (CM A R r0 [24] [4, 5, 22] I2 L3 I14 L15) → (0 ≤ x16.toInt) → (x16.toInt ≤ 8) → (-1 ≤ x20.toInt) → (x20.toInt ≤ 40) → (0 ≤ x23.toInt) → (x23.toInt ≤ 8) → (I14 r0 24 = x28) → (0 ≤ x28.toInt) → (x28.toInt ≤ 492) → (x16.toInt ≤ x23.toInt) → (RWS I14 r0_22 x16.toNatClampNeg x28.toInt) → (x16.toInt = 0 ∨ x28.toInt = 12 * (x20.toInt + 1) ∧ 0 ≤ x20.toInt) → (SPR (I14 r0_22) w_r0_1_0.toInt (SPF w_r0_1_0.toInt n3 n2.toInt n1.toInt w_r0_1_3.toInt (WSL (I r0_1)) x23.toNatClampNeg) x19 x23.toInt x16.toInt x20.toInt) → (DRK I14 r0_23 w_r0_1_0.toInt n3 0 (12 * (n2.toInt + 1))) → V 18 [(0, .ref r0), (1, .int n1), (2, .int n2), (4, .int x16), (5, .int x19), (6, .int x20), (7, .int x23)] [] (T, N, I14, L15, R) 0 0 := by
    intro nn13
    induction nn13 using Nat.strongRecOn with
    | _ nn13 ihJ12 =>
      intro I14 L15 x16 x19 x20 x23 x28 hmnn13 hI27 S26 b17 b18 b21 b22 b24 b25 e29 b30 b31 ff18_0 ff18_1 ff18_2 ff18_3 ff18_4
      have gx16 := rg x16
      have gx19 := rg x19
      have gx20 := rg x20
      have gx23 := rg x23
      have gx28 := rg x28
      have e32 := CM.j S26 R_r0_1 (by decide) e6
      have e33 := CM.j S26 R_r0_1 (by decide) e7
      refine k_iload C rfl rfl rfl ?_
      refine k_aload_n C rfl rfl rfl ?_
      refine g_R C rfl rfl rfl T_r0 rfl R_r0_1 ?_
      refine z_iconst C (z := 3) rfl rfl rfl (fun x34 ex34 => ?_)
      obtain ⟨T_r0_1, N_r0_1, A_r0_1⟩ := id H_r0_1
      refine a_I C rfl rfl T_r0_1 (by rw [N_r0_1]; exact vpi (by omega) (by omega)) ((congrArg (I14 r0_1) (nck (n := 3) (by omega))).trans e33) ?_
      refine b_icmp_ge C (t := 105) rfl rfl rfl (fun c35 => ?_) (fun c35 => ?_)
      · skip
        refine k_iload C rfl rfl rfl ?_
        exact k_iret C rfl (Or.inl rfl) (Nat.le_of_ble_eq_true rfl) (Nat.le_of_ble_eq_true rfl) ⟨_, _, _, rfl, rfl, fun a1 h1 => by cases (R_r0_1.symm.trans h1); simp only [k0_r0_1_0, k0_r0_1_3]; exact ff18_3.q (by omega) (by omega) (by omega), hI27, (CM.cons S4 (CM.mono S26 (by decide) (by decide)) (by decide) (by decide))⟩
      refine k_iload_n C rfl rfl rfl ?_
      refine k_iload C rfl rfl rfl ?_
      refine z_ishrX C rfl rfl (fun x36 ex36 => ?_)
      have gx36 := rg x36
      have m32 := ex36
      refine z_iconst C (z := 1) rfl rfl rfl (fun x37 ex37 => ?_)
      have c34 : x37.toInt = 1 := by omega
      refine z_iandQ C rfl rfl (fun x38 ex38 => ?_)
      have gx38 := rg x38
      have m34 := ex38
      have hb35 := SBT.a m32 m34 c34 (by omega) (by omega)
      refine b_if_ne C (t := 41) rfl rfl rfl (fun c39 => ?_) (fun c39 => ?_)
      · skip
        refine k_aload_n C rfl rfl rfl ?_
        refine k_iload C rfl rfl rfl ?_
        refine k_iload_n C rfl rfl rfl ?_
        refine z_sipush C (z := 492) rfl rfl rfl (fun x40 ex40 => ?_)
        refine k_iload C rfl rfl rfl ?_
        refine z_imulL C (c := 492) rfl rfl (by omega) ⟨by omega, by omega⟩ (fun x41 ex41 => ?_)
        refine k_iload C rfl rfl rfl ?_
        have hw53 := CM.j0 (W := [24]) (WA := [4, 5, 22, 23]) (CM.cons S4 (CM.mono S26 (by decide) (by decide)) (by decide) (by decide)) R_r0_1 (by decide)
        have hat53 : x41.toNatClampNeg = 492 * x16.toNatClampNeg := by (have h1 := ncz (x := x16) (by omega)); (have h2 := ncz (x := x41) (by omega)); omega
        refine c_VI C (a_X12_rowOf_x hI27 H_r0 (by omega) (by omega) (by omega) (by omega) (by omega) (by omega) (by omega) (by omega) (fun a1 h1 => by cases (R_r0_1.symm.trans h1); first | omega | (simp only [e32, e33, e29, and_true, true_and, or_true, true_or, and_false, false_and, or_false, false_or] <;> omega)) (fun a1 h1 => by cases (R_r0_1.symm.trans h1); rw [hw53]; exact (hp0 _ (ncn (by omega) (by omega)) (by have h9 := ncz (x := x23) (by omega); (try simp only [k0_r0_1_3]); omega))) (fun a1 a23 h1 h23 => by cases (R_r0_1.symm.trans h1); cases (R_r0_23.symm.trans h23); (try simp only [e32, e33, e29]); exact DRK.c ff18_4 (by omega))) rfl rfl rfl rfl rfl ⟨_, rfl, rfl, T_r0, Nat.le_of_ble_eq_true rfl⟩ rfl rfl (Nat.le_of_ble_eq_true rfl) (Nat.le_of_ble_eq_true rfl) (Nat.le_of_ble_eq_true rfl) ?_
        rintro x42 I43 L44 ⟨o0x42, o1x42, p0x42, p1x42, p2x42, p3x42, hI43, S45⟩
        have p0x42 := p0x42 r0_4 R_r0_4
        have p1x42 := p1x42 r0_1 R_r0_1
        have p2x42 := p2x42 r0_1 r0_4 r0_22 r0_23 R_r0_1 R_r0_4 R_r0_22 R_r0_23
        have p3x42 := p3x42 r0_22 R_r0_22
        have e46 := CM.j S45 R_r0_1 (by decide) e32
        have e47 := CM.j S45 R_r0_1 (by decide) e33
        have gx42 := rg x42
        obtain ⟨x49, e50⟩ : ∃ x, I43 r0 24 = x := ⟨_, rfl⟩
        have gx49 := rg x49
        have ox49 := IM.f24 hI43 e50
        obtain ⟨x51, e52⟩ : ∃ x, I43 r0_4 0 = x := ⟨_, rfl⟩
        have gx51 := rg x51
        have ox51 := IM.dgR hI43 R_r0_4 e52
        try simp only [e32, e33, e29, e50, e52] at p0x42
        try have q0x42 := congrArg Int32.toInt p0x42
        try simp only [e32, e33, e29, e50, e52] at p1x42
        try have q1x42 := congrArg Int32.toInt p1x42
        try simp only [e32, e33, e29, e50, e52] at p2x42
        try have q2x42 := congrArg Int32.toInt p2x42
        have hR := RWS.fr (n2 := x16) ff18_1 p3x42 (by omega) (by omega) (by omega)
        have hQ := p0x42
        have hr1 := p1x42
        have hr2 := p2x42
        have hf53 := p3x42
        rw [hw53] at hr1 hr2
        rw [hat53] at hr2 hf53
        (try rw [k0_r0_1_0] at hr2)
        have hx53 := CM.j0 S45 R_r0_23 (by decide)
        refine b_if_ne C (t := 61) rfl rfl rfl (fun c53 => ?_) (fun c53 => ?_)
        · skip
          have hR2 := RWS.lg (lg' := x49.toInt) hR (by omega) (by omega)
          refine k_aload_n C rfl rfl rfl ?_
          refine g_R C rfl rfl rfl T_r0 rfl R_r0_4 ?_
          refine z_iconst C (z := 0) rfl rfl rfl (fun x54 ex54 => ?_)
          obtain ⟨T_r0_4, N_r0_4, A_r0_4⟩ := id H_r0_4
          refine a_I C rfl rfl T_r0_4 (by rw [N_r0_4]; exact vpi (by omega) (by omega)) ((congrArg (I43 r0_4) (nck (n := 0) (by omega))).trans e52) ?_
          refine k_istore C (lw := [(6, .int x51), (0, .ref r0), (1, .int n1), (2, .int n2), (4, .int x16), (5, .int x19), (7, .int x23)]) rfl rfl (Nat.le_of_ble_eq_true rfl) rfl ?_
          refine k_aload_n C rfl rfl rfl ?_
          refine z_sipush C (z := 492) rfl rfl rfl (fun x55 ex55 => ?_)
          refine k_iload C rfl rfl rfl ?_
          refine z_imulL C (c := 492) rfl rfl (by omega) ⟨by omega, by omega⟩ (fun x56 ex56 => ?_)
          refine k_iload C rfl rfl rfl ?_
          have hat78 : x56.toNatClampNeg = 492 * x16.toNatClampNeg := by (have h1 := ncz (x := x16) (by omega)); (have h2 := ncz (x := x56) (by omega)); omega
          obtain ⟨D9, d1, d2, d3, d4, d5, d6⟩ := hr2 (by omega)
          have hk78 := e52
          rw [hk78] at d4
          subst d4
          refine c_VI C (a_X12_isNew_x hI43 H_r0 (by omega) (by omega) (by omega) (by omega) (by first | omega | (simp only [e46, e47, e50, e52, and_true, true_and, or_true, true_or, and_false, false_and, or_false, false_or] <;> omega)) (fun a22 h22 => by cases (R_r0_22.symm.trans h22); simp only [e46, e47, e50, e52]; exact hR2) (fun a1 a22 h1 h22 => by cases (R_r0_1.symm.trans h1); cases (R_r0_22.symm.trans h22); (try simp only [e46, e47, e50, e52]); exact SPR.c ff18_3 hf53 (by omega) d3 d2 d6 d5)) rfl rfl rfl rfl rfl ⟨_, rfl, rfl, T_r0, Nat.le_of_ble_eq_true rfl⟩ rfl rfl (Nat.le_of_ble_eq_true rfl) (Nat.le_of_ble_eq_true rfl) (Nat.le_of_ble_eq_true rfl) ?_
          rintro x57 I58 L59 ⟨o0x57, o1x57, p0x57, p1x57, p2x57, p3x57, p4x57, hI58, S60⟩
          have p0x57 := p0x57 r0_22 R_r0_22
          have p1x57 := p1x57 r0_1 r0_22 R_r0_1 R_r0_22
          have p2x57 := p2x57 r0_1 r0_22 R_r0_1 R_r0_22
          have p3x57 := p3x57 r0_1 r0_22 R_r0_1 R_r0_22
          have p4x57 := p4x57 r0_22 R_r0_22
          have e61 := CM.j S60 R_r0_1 (by decide) e46
          have e62 := CM.j S60 R_r0_1 (by decide) e47
          have e63 := CM.k S60 (by decide) e50
          have e64 := CM.j S60 R_r0_4 (by decide) e52
          have gx57 := rg x57
          try simp only [e46, e47, e50, e52, e63] at p0x57
          try have q0x57 := congrArg Int32.toInt p0x57
          try simp only [e46, e47, e50, e52, e63] at p1x57
          try have q1x57 := congrArg Int32.toInt p1x57
          try simp only [e46, e47, e50, e52, e63] at p2x57
          try have q2x57 := congrArg Int32.toInt p2x57
          try simp only [e46, e47, e50, e52, e63] at p3x57
          try have q3x57 := congrArg Int32.toInt p3x57
          have hP := p0x57
          have hR3 := RWS.fr (n2 := x16) hR2 p4x57 (by omega) (by omega) (by omega)
          have hn1 := p1x57
          have hn0 := p2x57
          have he78 := p3x57
          have hf78 := p4x57
          rw [hat78] at he78 hf78
          have hx78 := CM.j0 S60 R_r0_23 (by decide)
          refine b_if_ne C (t := 87) rfl rfl rfl (fun c65 => ?_) (fun c65 => ?_)
          · skip
            have hW := hP (by omega)
            refine z_iinc C (z := 1) (lw := fun x66 => [(4, .int x66), (6, .int x51), (0, .ref r0), (1, .int n1), (2, .int n2), (5, .int x19), (7, .int x23)]) rfl rfl rfl (Nat.le_of_ble_eq_true rfl) rfl ⟨by omega, by omega⟩ (fun _ => rfl) (fun x66 ex66 => ?_)
            show V 90 [(4, .int x66), (6, .int x51), (0, .ref r0), (1, .int n1), (2, .int n2), (5, .int x19), (7, .int x23)] _ _ _ _
            refine k_iload C rfl rfl rfl ?_
            refine z_iconst C (z := 1) rfl rfl rfl (fun x67 ex67 => ?_)
            refine k_iload C rfl rfl rfl ?_
            have c95 : x67.toInt = 1 := by omega
            refine z_ishlQ C rfl rfl (fun x68 ex68 => ?_)
            have gx68 := rg x68
            have m95 := ex68
            refine z_iorQ C rfl rfl (fun x69 ex69 => ?_)
            have gx69 := rg x69
            have m96 := ex69
            refine k_istore C (lw := [(5, .int x69), (4, .int x66), (6, .int x51), (0, .ref r0), (1, .int n1), (2, .int n2), (7, .int x23)]) rfl rfl (Nat.le_of_ble_eq_true rfl) rfl ?_
            refine z_iinc C (z := 1) (lw := fun x70 => [(7, .int x70), (5, .int x69), (4, .int x66), (6, .int x51), (0, .ref r0), (1, .int n1), (2, .int n2)]) rfl rfl rfl (Nat.le_of_ble_eq_true rfl) rfl ⟨by omega, by omega⟩ (fun _ => rfl) (fun x70 ex70 => ?_)
            show V 102 [(7, .int x70), (5, .int x69), (4, .int x66), (6, .int x51), (0, .ref r0), (1, .int n1), (2, .int n2)] _ _ _ _
            refine k_goto C (pc2 := 18) rfl rfl ?_
            refine k_sub S [(0, .ref r0), (1, .int n1), (2, .int n2), (4, .int x66), (5, .int x69), (6, .int x51), (7, .int x70)] (List.forall_mem_cons.mpr ⟨List.mem_of_getElem? (i := 4) rfl, List.forall_mem_cons.mpr ⟨List.mem_of_getElem? (i := 5) rfl, List.forall_mem_cons.mpr ⟨List.mem_of_getElem? (i := 6) rfl, List.forall_mem_cons.mpr ⟨List.mem_of_getElem? (i := 2) rfl, List.forall_mem_cons.mpr ⟨List.mem_of_getElem? (i := 1) rfl, List.forall_mem_cons.mpr ⟨List.mem_of_getElem? (i := 3) rfl, List.forall_mem_cons.mpr ⟨List.mem_of_getElem? (i := 0) rfl, fun _ h => nomatch h⟩⟩⟩⟩⟩⟩⟩) ?_
            exact ihJ12 _ (MN.lt hmnn13 (by omega) (by omega)) I58 L59 x66 x69 x51 x70 x49 rfl hI58 (CM.cons S26 (CM.cons S45 (CM.mono S60 (by decide) (by decide)) (by decide) (by decide)) (by decide) (by decide)) (by omega) (by omega) (by omega) (by omega) (by omega) (by omega) e63 (by omega) (by omega) (by omega) (by first | exact RWS.s hR3 hW (by omega) (by omega) (by omega) | exact hR3 | exact ff18_1) (by omega) (by first | exact SPR.k ff18_3 (fun q => absurd q (by rw [← hb35]; omega)) (by omega) (by omega) | exact SPR.h ff18_3 (by rw [← hb35]; omega) (by omega) (by omega) (by omega) (by omega) (hp0 _ (ncn (by omega) (by omega)) (by have h9 := ncz (x := x23) (by omega); (try simp only [k0_r0_1_3]); omega)) (DRK.g ff18_4 (by omega)) hf53 d1 d2 d3 d6 d5 hf78 he78 hn1 hn0 (by first | exact Or.inl ⟨by omega, rfl, rfl⟩ | exact Or.inr ⟨by omega, by rw [m96, BTN.e m95 c95 (by omega) (by omega)], by omega⟩) (by omega)) (by first | exact ff18_4 | exact (ff18_4.eq hx53).eq hx78)
          refine k_goto C (pc2 := 99) rfl rfl ?_
          refine z_iinc C (z := 1) (lw := fun x71 => [(7, .int x71), (6, .int x51), (0, .ref r0), (1, .int n1), (2, .int n2), (4, .int x16), (5, .int x19)]) rfl rfl rfl (Nat.le_of_ble_eq_true rfl) rfl ⟨by omega, by omega⟩ (fun _ => rfl) (fun x71 ex71 => ?_)
          show V 102 [(7, .int x71), (6, .int x51), (0, .ref r0), (1, .int n1), (2, .int n2), (4, .int x16), (5, .int x19)] _ _ _ _
          refine k_goto C (pc2 := 18) rfl rfl ?_
          refine k_sub S [(0, .ref r0), (1, .int n1), (2, .int n2), (4, .int x16), (5, .int x19), (6, .int x51), (7, .int x71)] (List.forall_mem_cons.mpr ⟨List.mem_of_getElem? (i := 2) rfl, List.forall_mem_cons.mpr ⟨List.mem_of_getElem? (i := 3) rfl, List.forall_mem_cons.mpr ⟨List.mem_of_getElem? (i := 4) rfl, List.forall_mem_cons.mpr ⟨List.mem_of_getElem? (i := 5) rfl, List.forall_mem_cons.mpr ⟨List.mem_of_getElem? (i := 6) rfl, List.forall_mem_cons.mpr ⟨List.mem_of_getElem? (i := 1) rfl, List.forall_mem_cons.mpr ⟨List.mem_of_getElem? (i := 0) rfl, fun _ h => nomatch h⟩⟩⟩⟩⟩⟩⟩) ?_
          exact ihJ12 _ (MN.lt hmnn13 (by omega) (by omega)) I58 L59 x16 x19 x51 x71 x49 rfl hI58 (CM.cons S26 (CM.cons S45 (CM.mono S60 (by decide) (by decide)) (by decide) (by decide)) (by decide) (by decide)) (by omega) (by omega) (by omega) (by omega) (by omega) (by omega) e63 (by omega) (by omega) (by omega) (by first | exact RWS.s hR3 hW (by omega) (by omega) (by omega) | exact hR3 | exact ff18_1) (by omega) (by first | exact SPR.k ff18_3 (fun q => absurd q (by rw [← hb35]; omega)) (by omega) (by omega) | exact SPR.h ff18_3 (by rw [← hb35]; omega) (by omega) (by omega) (by omega) (by omega) (hp0 _ (ncn (by omega) (by omega)) (by have h9 := ncz (x := x23) (by omega); (try simp only [k0_r0_1_3]); omega)) (DRK.g ff18_4 (by omega)) hf53 d1 d2 d3 d6 d5 hf78 he78 hn1 hn0 (by first | exact Or.inl ⟨by omega, rfl, rfl⟩ | exact Or.inr ⟨by omega, by rw [m96, BTN.e m95 c95 (by omega) (by omega)], by omega⟩) (by omega)) (by first | exact ff18_4 | exact (ff18_4.eq hx53).eq hx78)
        refine z_iconst C (z := -1) rfl rfl rfl (fun x72 ex72 => ?_)
        exact k_iret C rfl (Or.inl rfl) (Nat.le_of_ble_eq_true rfl) (Nat.le_of_ble_eq_true rfl) ⟨_, _, _, rfl, rfl, fun a1 h1 => by cases (R_r0_1.symm.trans h1); simp only [k0_r0_1_0, k0_r0_1_3]; exact Or.inl ⟨SPR.no ff18_3 (by rw [← hb35]; omega) (by omega) (by omega) (by omega) (hr1 (by omega)), by omega⟩, hI43, (CM.cons S4 (CM.cons S26 (CM.mono S45 (by decide) (by decide)) (by decide) (by decide)) (by decide) (by decide))⟩
      refine k_goto C (pc2 := 99) rfl rfl ?_
      refine z_iinc C (z := 1) (lw := fun x73 => [(7, .int x73), (0, .ref r0), (1, .int n1), (2, .int n2), (4, .int x16), (5, .int x19), (6, .int x20)]) rfl rfl rfl (Nat.le_of_ble_eq_true rfl) rfl ⟨by omega, by omega⟩ (fun _ => rfl) (fun x73 ex73 => ?_)
      show V 102 [(7, .int x73), (0, .ref r0), (1, .int n1), (2, .int n2), (4, .int x16), (5, .int x19), (6, .int x20)] _ _ _ _
      refine k_goto C (pc2 := 18) rfl rfl ?_
      refine k_sub S [(0, .ref r0), (1, .int n1), (2, .int n2), (4, .int x16), (5, .int x19), (6, .int x20), (7, .int x73)] (List.forall_mem_cons.mpr ⟨List.mem_of_getElem? (i := 1) rfl, List.forall_mem_cons.mpr ⟨List.mem_of_getElem? (i := 2) rfl, List.forall_mem_cons.mpr ⟨List.mem_of_getElem? (i := 3) rfl, List.forall_mem_cons.mpr ⟨List.mem_of_getElem? (i := 4) rfl, List.forall_mem_cons.mpr ⟨List.mem_of_getElem? (i := 5) rfl, List.forall_mem_cons.mpr ⟨List.mem_of_getElem? (i := 6) rfl, List.forall_mem_cons.mpr ⟨List.mem_of_getElem? (i := 0) rfl, fun _ h => nomatch h⟩⟩⟩⟩⟩⟩⟩) ?_
      exact ihJ12 _ (MN.lt hmnn13 (by omega) (by omega)) I14 L15 x16 x19 x20 x73 x28 rfl hI27 (CM.mono S26 (by decide) (by decide)) (by omega) (by omega) (by omega) (by omega) (by omega) (by omega) e29 (by omega) (by omega) (by omega) (by first | exact RWS.s hR3 hW (by omega) (by omega) (by omega) | exact hR3 | exact ff18_1) (by omega) (by first | exact SPR.k ff18_3 (fun q => absurd q (by rw [← hb35]; omega)) (by omega) (by omega) | exact SPR.h ff18_3 (by rw [← hb35]; omega) (by omega) (by omega) (by omega) (by omega) (hp0 _ (ncn (by omega) (by omega)) (by have h9 := ncz (x := x23) (by omega); (try simp only [k0_r0_1_3]); omega)) (DRK.g ff18_4 (by omega)) hf53 d1 d2 d3 d6 d5 hf78 he78 hn1 hn0 (by first | exact Or.inl ⟨by omega, rfl, rfl⟩ | exact Or.inr ⟨by omega, by rw [m96, BTN.e m95 c95 (by omega) (by omega)], by omega⟩) (by omega)) (by first | exact ff18_4 | exact (ff18_4.eq hx53).eq hx78)
  refine k_istore C (lw := [(7, .int x11), (6, .int x10), (5, .int x9), (4, .int x8), (0, .ref r0), (1, .int n1), (2, .int n2), (3, .int n3)]) rfl rfl (Nat.le_of_ble_eq_true rfl) rfl ?_
  refine k_sub S [(0, .ref r0), (1, .int n1), (2, .int n2), (4, .int x8), (5, .int x9), (6, .int x10), (7, .int x11)] (List.forall_mem_cons.mpr ⟨List.mem_of_getElem? (i := 4) rfl, List.forall_mem_cons.mpr ⟨List.mem_of_getElem? (i := 5) rfl, List.forall_mem_cons.mpr ⟨List.mem_of_getElem? (i := 6) rfl, List.forall_mem_cons.mpr ⟨List.mem_of_getElem? (i := 3) rfl, List.forall_mem_cons.mpr ⟨List.mem_of_getElem? (i := 2) rfl, List.forall_mem_cons.mpr ⟨List.mem_of_getElem? (i := 1) rfl, List.forall_mem_cons.mpr ⟨List.mem_of_getElem? (i := 0) rfl, fun _ h => nomatch h⟩⟩⟩⟩⟩⟩⟩) ?_
  exact J12 _ I2 L3 x8 x9 x10 x11 w_r0_24 rfl hI2 CM.rf (by omega) (by omega) (by omega) (by omega) (by omega) (by omega) e5 (by omega) (by omega) (by omega) (by exact RWS.z (by omega)) (by omega) (by exact SPR.z (by omega) (by omega) (by omega) (by omega) (by omega)) (by exact hdr)

