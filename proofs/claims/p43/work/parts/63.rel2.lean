/-! tables turned and joined, forms mixed: both sides' numbers are the same; acts -/
theorem PmE.sb {p x y z w : Int} (h : PmE p x y) (g : PmE p z w) : PmE p (x - z) (y - w) := by unfold PmE at *; rw [Int.sub_emod, h, g, ← Int.sub_emod]
theorem dt.e {p a b c d : Int} : PmE p (dt p a b c d) (a * d - b * c) := by
  unfold dt
  exact (PmE.em _).tr (((PmE.em a).ml (PmE.em d)).sb ((PmE.em b).ml (PmE.em c)))
theorem dt.b {p a b c d : Int} (hp : 0 < p) : 0 ≤ dt p a b c d ∧ dt p a b c d < p := ⟨Int.emod_nonneg _ (by omega), Int.emod_lt_of_pos _ hp⟩
theorem dn_eq {p a b c d : Int} (hp : 0 < p) (ha : 0 ≤ a) (hb : 0 ≤ b) (hc : 0 ≤ c) (hd : 0 ≤ d) : dnR p a b c d = dt p a b c d := by
  have q1 : 0 ≤ (a * d).tmod p := Int.tmod_nonneg _ (Int.mul_nonneg ha hd)
  have q2 : (b * c).tmod p < p := Int.tmod_lt_of_pos _ hp
  refine PmE.eq ?_ (Int.tmod_nonneg _ (by omega)) (Int.tmod_lt_of_pos _ hp) (dt.b hp).1 (dt.b hp).2
  unfold dnR
  refine (PmE.tm _).tr (PmE.tr ?_ dt.e.sy)
  have e : PmE p ((a * d).tmod p - (b * c).tmod p + p) ((a * d - b * c) + p) := ((PmE.tm _).sb (PmE.tm _)).ad PmE.rf
  refine e.tr ?_
  unfold PmE
  rw [show a * d - b * c + p = a * d - b * c + p * 1 from by omega, Int.add_mul_emod_self_left]
theorem pm1 {p : Int} (hp : 1 < p) : (1 : Int) % p = 1 := Int.emod_eq_of_lt (by decide) hp
/-- what a table turned is -/
def TBI (a' b' c' d' a b c d p : Int) : Prop := ∃ x, PmE p (dt p a b c d * x) 1 ∧ PmE p a' (d * x) ∧ PmE p b' (-b * x) ∧ PmE p c' (-c * x) ∧ PmE p d' (a * x) ∧ (0 ≤ a' ∧ a' < p) ∧ (0 ≤ b' ∧ b' < p) ∧ (0 ≤ c' ∧ c' < p) ∧ 0 ≤ d' ∧ d' < p
theorem TBK.f {a' b' c' d' a b c d p : Int} (h : TBK a' b' c' d' a b c d p) (hp : 1 < p) (ha : 0 ≤ a ∧ a < p) (hb : 0 ≤ b ∧ b < p) (hc : 0 ≤ c ∧ c < p) (hd : 0 ≤ d ∧ d < p) (hz : dt p a b c d ≠ 0) : TBI a' b' c' d' a b c d p := by
  obtain ⟨x, hi, ea, eb, ec, ed⟩ := h
  rw [dn_eq (by omega) ha.1 hb.1 hc.1 hd.1] at hi
  have bz := dt.b (p := p) (a := a) (b := b) (c := c) (d := d) (by omega)
  have hx := hi.2 bz.1
  have h1 := hi.1 (by omega) bz.2 hz
  have lf : ∀ b : Int, 0 ≤ b ∧ b < p → PmE p (((0 - b + p).tmod p * x).tmod p) (-b * x) ∧ 0 ≤ ((0 - b + p).tmod p * x).tmod p ∧ ((0 - b + p).tmod p * x).tmod p < p := fun b hb => by
    refine ⟨(PmE.tm _).tr (PmE.ml ((PmE.tm _).tr ?_) PmE.rf), Int.tmod_nonneg _ (Int.mul_nonneg (Int.tmod_nonneg _ (by omega)) hx), Int.tmod_lt_of_pos _ (by omega)⟩
    unfold PmE
    rw [show 0 - b + p = -b + p * 1 from by omega, Int.add_mul_emod_self_left]
  refine ⟨x, by unfold PmE; rw [h1, pm1 hp], by rw [ea]; exact PmE.tm _, by rw [eb]; exact (lf b hb).1, by rw [ec]; exact (lf c hc).1, by rw [ed]; exact PmE.tm _, ?_, by rw [eb]; exact (lf b hb).2, by rw [ec]; exact (lf c hc).2, ?_⟩
  · rw [ea]; exact ⟨Int.tmod_nonneg _ (Int.mul_nonneg hd.1 hx), Int.tmod_lt_of_pos _ (by omega)⟩
  · rw [ed]; exact ⟨Int.tmod_nonneg _ (Int.mul_nonneg ha.1 hx), Int.tmod_lt_of_pos _ (by omega)⟩
theorem TBC.f {a' b' c' d' a b c d p : Int} (h : TBC a' b' c' d' a b c d p) (hp : 1 < p) (hz : dt p a b c d ≠ 0) : TBI a' b' c' d' a b c d p := by
  obtain ⟨x, hi, ea, eb, ec, ed⟩ := h
  have bz := dt.b (p := p) (a := a) (b := b) (c := c) (d := d) (by omega)
  have h1 := hi.2 bz.1 bz.2 hz
  have q : ∀ y : Int, PmE p (y % p) y ∧ 0 ≤ y % p ∧ y % p < p := fun y => ⟨PmE.em _, Int.emod_nonneg _ (by omega), Int.emod_lt_of_pos _ (by omega)⟩
  exact ⟨x, by unfold PmE; rw [h1, pm1 hp], by rw [ea]; exact (q _).1, by rw [eb]; exact (q _).1, by rw [ec]; exact (q _).1, by rw [ed]; exact (q _).1, by rw [ea]; exact (q _).2, by rw [eb]; exact (q _).2, by rw [ec]; exact (q _).2, by rw [ed]; exact (q _).2⟩
theorem tb_eq {z x y u v w p : Int} (hx : PmE p (z * x) 1) (hy : PmE p (z * y) 1) (hu : PmE p u (w * x)) (hv : PmE p v (w * y)) (bu : 0 ≤ u ∧ u < p) (bv : 0 ≤ v ∧ v < p) : u = v := by
  have e : PmE p x y := by
    have a1 : PmE p (x * (z * y)) (x * 1) := PmE.rf.ml hy
    have a2 : PmE p ((z * x) * y) (1 * y) := hx.ml PmE.rf
    rw [Int.mul_one] at a1
    rw [Int.one_mul] at a2
    rw [show x * (z * y) = z * x * y from by grind] at a1
    exact a1.sy.tr a2
  exact ((hu.tr (PmE.rf.ml e)).tr hv.sy).eq bu.1 bu.2 bv.1 bv.2
theorem TBI.eq {a1 b1 c1 d1 a2 b2 c2 d2 a b c d p : Int} (h : TBI a1 b1 c1 d1 a b c d p) (g : TBI a2 b2 c2 d2 a b c d p) : a1 = a2 ∧ b1 = b2 ∧ c1 = c2 ∧ d1 = d2 := by
  obtain ⟨x, h0, h1, h2, h3, h4, h5, h6, h7, h8⟩ := h
  obtain ⟨y, g0, g1, g2, g3, g4, g5, g6, g7, g8⟩ := g
  exact ⟨tb_eq h0 g0 h1 g1 h5 g5, tb_eq h0 g0 h2 g2 h6 g6, tb_eq h0 g0 h3 g3 h7 g7, tb_eq h0 g0 h4 g4 h8 g8⟩
theorem TBI.ok {a' b' c' d' a b c d p : Int} (h : TBI a' b' c' d' a b c d p) (hp : 1 < p) : dt p a' b' c' d' ≠ 0 := fun q => by
  obtain ⟨x, h0, h1, h2, h3, h4, -⟩ := h
  have e1 : PmE p 0 (a' * d' - b' * c') := by have := dt.e (p := p) (a := a') (b := b') (c := c') (d := d'); rwa [q] at this
  have e2 : PmE p (a' * d' - b' * c') (d * x * (a * x) - -b * x * (-c * x)) := (h1.ml h4).sb (h2.ml h3)
  have e3 : PmE p (dt p a b c d) (a * d - b * c) := dt.e
  have e4 : PmE p 0 (x * x * (a * d - b * c)) := by
    have := e1.tr e2
    rwa [show d * x * (a * x) - -b * x * (-c * x) = x * x * (a * d - b * c) from by grind] at this
  have e5 : PmE p 0 (x * x * dt p a b c d) := e4.tr (PmE.rf.ml e3.sy)
  have e6 : PmE p (dt p a b c d * 0) (dt p a b c d * (x * x * dt p a b c d)) := PmE.rf.ml e5
  rw [show dt p a b c d * (x * x * dt p a b c d) = (dt p a b c d * x) * (dt p a b c d * x) from by grind, Int.mul_zero] at e6
  have e7 := e6.tr (h0.ml h0)
  unfold PmE at e7
  rw [Int.mul_one, pm1 hp, Int.zero_emod] at e7
  cases e7
/-- turned, and mixed again: what it was -/
theorem TBI.back {a' b' c' d' a b c d p : Int} (h : TBI a' b' c' d' a b c d p) : PmE p (a * a' + b * c') 1 ∧ PmE p (a * b' + b * d') 0 ∧ PmE p (c * a' + d * c') 0 ∧ PmE p (c * b' + d * d') 1 := by
  obtain ⟨x, h0, h1, h2, h3, h4, -⟩ := h
  have e3 : PmE p ((a * d - b * c) * x) 1 := (PmE.ml dt.e.sy PmE.rf).tr h0
  refine ⟨?_, ?_, ?_, ?_⟩
  · refine ((PmE.rf.ml h1).ad (PmE.rf.ml h3)).tr ?_
    rwa [show a * (d * x) + b * (-c * x) = (a * d - b * c) * x from by grind]
  · refine ((PmE.rf.ml h2).ad (PmE.rf.ml h4)).tr ?_
    rw [show a * (-b * x) + b * (a * x) = 0 from by grind]; exact PmE.rf
  · refine ((PmE.rf.ml h1).ad (PmE.rf.ml h3)).tr ?_
    rw [show c * (d * x) + d * (-c * x) = 0 from by grind]; exact PmE.rf
  · refine ((PmE.rf.ml h2).ad (PmE.rf.ml h4)).tr ?_
    rwa [show c * (-b * x) + d * (a * x) = (a * d - b * c) * x from by grind]
theorem PRM.inv {p z : Int} (hp : p = 11 ∨ p = 13 ∨ p = 17 ∨ p = 19) (h : 0 ≤ z ∧ z < p) (h0 : z ≠ 0) : ∃ x, PmE p (z * x) 1 := by
  obtain ⟨i, hi⟩ : ∃ i : Nat, z = (i : Int) := ⟨z.toNat, by omega⟩
  obtain ⟨q, hq⟩ : ∃ q : Nat, p = (q : Int) := ⟨p.toNat, by omega⟩
  have h9 := POW.inv q (by have : q = 11 ∨ q = 13 ∨ q = 17 ∨ q = 19 := by omega
                           rcases this with r | r | r | r <;> subst r <;> decide) i (by omega) (by omega)
  refine ⟨POW i (q - 2), ?_⟩
  unfold PmE
  rw [hi, hq, h9, pm1 (by omega)]
/-- a form mixed by the reference is what is so modulo p -/
theorem mx_new {p a b c d x : Int} {D : Nat} {f : Nat → Int} {k : Nat} (hp : 0 < p) (ha : 0 ≤ a) (hb : 0 ≤ b) (hc : 0 ≤ c) (hd : 0 ≤ d) (hf : ∀ i, i ≤ D → 0 ≤ f i) (hk : k ≤ D) (hx : 0 ≤ x ∧ x < p) (e : PmE p x (PmX a b c d f D k)) : mxS p a b c d D f (D + 1) k = x := by
  have h1 := mxS.p (p := p) (a := a) (b := b) (c := c) (d := d) (D := D) (f := f) hp ha hb hc hd (i := k) (D + 1) (fun i hi => hf i (by omega))
  have h2 : mxS p a b c d D f (D + 1) k < p := by rw [mxS.s]; exact Int.tmod_lt_of_pos _ hp
  exact ((mxS.x hk).tr e.sy).eq h1 h2 hx.1 hx.2
section Rel2
variable {R : RT} {I I' : IT} {st st' : Nat} {W W' : Nat → Int32}
/-- the forms' numbers at each time, a new act's behind -/
def VMX (V : Nat → Nat → Nat → Int) (s u1 F : Nat) (g' : Nat → Int) (j g k : Nat) : Int := if j ≤ u1 then V (j + s) g k else if g = F then g' k else V (u1 + s) g k
theorem VMX.le {V : Nat → Nat → Nat → Int} {s u1 F : Nat} {g' : Nat → Int} {j : Nat} (h : j ≤ u1) : VMX V s u1 F g' j = V (j + s) := by
  funext g k
  unfold VMX
  rw [if_pos h]
theorem VMX.f {V : Nat → Nat → Nat → Int} {s u1 F : Nat} {g' : Nat → Int} {j : Nat} (h : ¬ j ≤ u1) : VMX V s u1 F g' j F = g' := by
  funext k
  unfold VMX
  rw [if_neg h, if_pos rfl]
theorem VMX.o {V : Nat → Nat → Nat → Int} {s u1 F : Nat} {g' : Nat → Int} {j g : Nat} (h : ¬ j ≤ u1) (hg : g ≠ F) : VMX V s u1 F g' j g = V (u1 + s) g := by
  funext k
  unfold VMX
  rw [if_neg h, if_neg hg]
/-- an act undone, or done again: from a to the other side of it -/
theorem RST.step {a : Nat} {d9 u9 : Int} {f : Int32} {ta tb tc td : Int} (h : RST R I st W) (hW : WOS W) (ha : (a : Int) < (W 4).toInt + (W 5).toInt) (hd : (W 4).toInt = a ∧ d9 = (a : Int) + 1 ∨ (W 4).toInt = (a : Int) + 1 ∧ d9 = a) (hu : d9 + u9 = (W 4).toInt + (W 5).toInt) (ef : W (3406 + 5 * a) = f)
    (hx : (W 4).toInt = a ∧ ta = wac W a 0 ∧ tb = wac W a 1 ∧ tc = wac W a 2 ∧ td = wac W a 3 ∨ (W 4).toInt = (a : Int) + 1 ∧ TBK ta tb tc td (wac W a 0) (wac W a 1) (wac W a 2) (wac W a 3) (W 0).toInt)
    (ik : ∀ k, k < 3 → (I' st k).toInt = (I st k).toInt) (i4 : (I' st 4).toInt = d9) (i5 : (I' st 5).toInt = u9) (iT : ∀ j, j < 8 → ∀ k, k < 4 → I' (TA R st j) k = I (TA R st j) k) (S : SBD R I' I st (FA R st f.toNatClampNeg) a) (c6 : FSM R I' I st f.toInt)
    (w4 : (W' 4).toInt = d9) (w5 : (W' 5).toInt = u9) (wr : ∀ r : Nat, r ≠ 4 → r ≠ 5 → (r < 7 + 10 * f.toNatClampNeg ∨ 7 + 10 * f.toNatClampNeg + (WD W f.toNatClampNeg).toNat + 1 ≤ r) → W' r = W r)
    (M : ∀ k : Nat, (k : Int) ≤ WD W f.toNatClampNeg → WN W' f.toNatClampNeg k = mxS (W 0).toInt ta tb tc td (WD W f.toNatClampNeg).toNat (WN W f.toNatClampNeg) ((WD W f.toNatClampNeg).toNat + 1) k) : RST R I' st W' := by
  obtain ⟨b1, b2, b4, bD⟩ := hW.b
  have hp := hW.pr
  obtain ⟨⟨h0, h1, h2, h4, h5⟩, hF, hT, V, v1, v2, v3⟩ := h
  have X := v3 a ha
  rw [ef] at X
  obtain ⟨y1, y2, y3, y4, y5, y6⟩ := X
  have nf : (f.toNatClampNeg : Int) = f.toInt := ncz y2.1
  have df := bD f.toNatClampNeg (by omega)
  obtain ⟨F1, F2⟩ := hF f.toNatClampNeg (by omega)
  have Vn : ∀ k : Nat, (k : Int) ≤ WD W f.toNatClampNeg → V (W 4).toInt.toNat f.toNatClampNeg k = WN W f.toNatClampNeg k := fun k hk => v1 _ (by omega) k hk
  -- the other side's numbers
  have key : ∀ k : Nat, (k : Int) ≤ WD W f.toNatClampNeg → WN W' f.toNatClampNeg k = V d9.toNat f.toNatClampNeg k := fun k hk => by
    rw [M k hk]
    have bx := v2 d9.toNat f.toNatClampNeg (by omega) (by omega) k hk
    rcases hx with ⟨q1, q2, q3, q4, q5⟩ | ⟨q1, q2⟩
    · have e9 : d9.toNat = a + 1 := by omega
      have e8 : (W 4).toInt.toNat = a := by omega
      rw [e9] at bx ⊢
      rw [e8] at Vn
      rw [q2, q3, q4, q5]
      refine mx_new (by omega) (y3.1 0 (by decide)).1 (y3.1 1 (by decide)).1 (y3.1 2 (by decide)).1 (y3.1 3 (by decide)).1 (fun i hi => (F2 i (by omega)).1) (by omega) bx ?_
      exact (y5 k hk).tr (PmX.e PmE.rf PmE.rf PmE.rf PmE.rf _ (fun i hi => by rw [Vn i (by omega)]; exact PmE.rf) k)
    · have e9 : d9.toNat = a := by omega
      have e8 : (W 4).toInt.toNat = a + 1 := by omega
      rw [e9] at bx ⊢
      rw [e8] at Vn
      have bi := q2.f (by omega) (y3.1 0 (by decide)) (y3.1 1 (by decide)) (y3.1 2 (by decide)) (y3.1 3 (by decide)) y3.2
      obtain ⟨g1, g2, g3, g4⟩ := bi.back
      obtain ⟨-, -, -, -, -, -, p1, p2, p3, p4⟩ := bi
      refine mx_new (by omega) p1.1 p2.1 p3.1 p4.1 (fun i hi => (F2 i (by omega)).1) (by omega) bx ?_
      exact (PmX.back g1 g2 g3 g4 (fun i hi => by rw [← Vn i (by omega)]; exact y5 i (by omega)) (by omega)).sy
  have eo : ∀ k : Nat, (k : Int) ≤ WD W f.toNatClampNeg → V (if (a : Int) < (W 4).toInt then a else a + 1) f.toNatClampNeg k = V d9.toNat f.toNatClampNeg k := fun k hk => by
    rcases hd with ⟨q1, q2⟩ | ⟨q1, q2⟩
    · rw [if_neg (by omega), show d9.toNat = a + 1 from by omega]
    · rw [if_pos (by omega), show d9.toNat = a from by omega]
  have w0 : W' 0 = W 0 := wr 0 (by decide) (by decide) (by omega)
  have w1 : W' 1 = W 1 := wr 1 (by decide) (by decide) (by omega)
  have w2 : W' 2 = W 2 := wr 2 (by decide) (by decide) (by omega)
  have eD : ∀ g : Nat, g < 16 → WD W' g = WD W g := fun g hg => by unfold WD; rw [wr _ (by omega) (by omega) (by omega)]
  have eN : ∀ g : Nat, g < 16 → g ≠ f.toNatClampNeg → ∀ k : Nat, k ≤ 8 → WN W' g k = WN W g k := fun g hg hn k hk => by unfold WN; rw [wr _ (by omega) (by omega) (by omega)]
  have eA : ∀ j : Nat, W' (3406 + 5 * j) = W (3406 + 5 * j) := fun j => wr _ (by omega) (by omega) (by omega)
  have et : ∀ j k : Nat, wac W' j k = wac W j k := fun j k => by unfold wac; rw [wr _ (by omega) (by omega) (by omega)]
  have Vo : ∀ g : Nat, g ≠ f.toNatClampNeg → V d9.toNat g = V (W 4).toInt.toNat g := fun g hg => by
    have := y6 g hg
    rcases hd with ⟨q1, q2⟩ | ⟨q1, q2⟩
    · rw [show d9.toNat = a + 1 from by omega, show (W 4).toInt.toNat = a from by omega]; exact this
    · rw [show d9.toNat = a from by omega, show (W 4).toInt.toNat = a + 1 from by omega]; exact this.symm
  refine ⟨⟨by rw [ik 0 (by decide), w0]; exact h0, by rw [ik 1 (by decide), w1]; exact h1, by rw [ik 2 (by decide), w2]; exact h2, by rw [i4, w4], by rw [i5, w5]⟩, fun g q => ?_, fun t9 q => ?_, V, fun g q k hk => ?_, fun j g hj q k hk => ?_, fun j hj => ?_⟩
  · rw [w1] at q
    rw [w0, eD g (by omega)]
    by_cases z : g = f.toNatClampNeg
    · subst z
      refine ⟨(y4.fe S.2.1).cg rfl (fun k hk => by rw [eo k hk, key k hk]), fun k hk => ?_⟩
      rw [key k hk]; exact v2 _ _ (by omega) q k hk
    · have dg := bD g (by omega)
      exact ⟨((hF g q).1.fe (c6 g (by omega) (by omega))).cg rfl (fun k hk => (eN g (by omega) z k (by omega)).symm), fun k hk => by rw [eN g (by omega) z k (by omega)]; exact (hF g q).2 k hk⟩
  · rw [w2] at q
    have e9 : ∀ k, k < 4 → wtb W' t9 k = wtb W t9 k := fun k hk => by unfold wtb; rw [wr _ (by omega) (by omega) (by omega)]
    rw [w0]
    exact ⟨fun k hk => by rw [e9 k hk, iT t9 (by omega) k hk]; exact (hT t9 q).1 k hk, (hT t9 q).2.cg e9⟩
  · rw [w1] at q
    rw [eD g (by omega)] at hk
    rw [w4]
    by_cases z : g = f.toNatClampNeg
    · subst z; exact (key k hk).symm
    · have dg := bD g (by omega)
      rw [eN g (by omega) z k (by omega), Vo g z]; exact v1 g q k hk
  · rw [w1] at q
    rw [w4, w5, hu] at hj
    rw [eD g (by omega)] at hk
    rw [w0]; exact v2 j g hj q k hk
  · rw [w4, w5, hu] at hj
    have X := v3 j hj
    rw [w0, w1, w4, eA j]
    have lf : ((W (3406 + 5 * j)).toNatClampNeg : Int) < (W 1).toInt := by
      have := X.2.1
      have : (W (3406 + 5 * j)).toNatClampNeg = (W (3406 + 5 * j)).toInt.toNat := rfl
      omega
    refine AX.cg (D := WD W) (t := wac W j) ?_ (eD _ (by omega)) (fun k _ => et j k)
    by_cases z : j = a
    · subst z
      rw [ef]
      refine ⟨by rw [S.2.2.1]; exact y1, y2, y3, ?_, y5, y6⟩
      refine (F1.fe S.1).cg rfl (fun k hk => ?_)
      rw [← Vn k hk]
      rcases hd with ⟨q1, q2⟩ | ⟨q1, q2⟩
      · rw [if_pos (by omega), show (W 4).toInt.toNat = j from by omega]
      · rw [if_neg (by omega), show (W 4).toInt.toNat = j + 1 from by omega]
    · refine X.i (S.2.2.2 j (by omega) z) (fun k _ => ?_) rfl rfl
      by_cases q : (j : Int) < (W 4).toInt
      · rw [if_pos q, if_pos (by omega)]
      · rw [if_neg q, if_neg (by omega)]
end Rel2
