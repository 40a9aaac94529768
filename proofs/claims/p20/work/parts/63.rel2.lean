/-! tables turned and joined, forms mixed: both sides' numbers are the same; acts -/
theorem PmE.sb {p x y z w : Int} (h : PmE p x y) (g : PmE p z w) : PmE p (x - z) (y - w) := by unfold PmE at *; rw [Int.sub_emod, h, g, ← Int.sub_emod]
theorem dt.e {p a b c d : Int} : PmE p (dt p a b c d) (a * d - b * c) := by
  unfold dt
  exact (PmE.em _).tr (((PmE.em a).ml (PmE.em d)).sb ((PmE.em b).ml (PmE.em c)))
theorem dt.b {p a b c d : Int} (hp : 0 < p) : 0 ≤ dt p a b c d ∧ dt p a b c d < p := ⟨Int.emod_nonneg _ (by omega), Int.emod_lt_of_pos _ hp⟩
theorem dn_eq {p a b c d : Int} (hp : 0 < p) (ha : 0 ≤ a) (hb : 0 ≤ b) (hc : 0 ≤ c) (hd : 0 ≤ d) : dnR p a b c d = dt p a b c d := by
  have q1 : 0 ≤ (a * d).tmod p := Int.tmod_nonneg _ (Int.mul_nonneg ha hd)
  have q2 : (b * c).tmod p < p := Int.tmod_lt_of_pos _ hp
  refine PmE.eq ?_ (Int.tmod_nonneg _ (by omega)) (Int.tmod_lt_of_pos _ hp) (dt.b hp).1 (dt.b hp).2
  unfold dnR
  refine (PmE.tm _).tr (PmE.tr ?_ dt.e.sy)
  have e : PmE p ((a * d).tmod p - (b * c).tmod p + p) ((a * d - b * c) + p) := ((PmE.tm _).sb (PmE.tm _)).ad PmE.rf
  refine e.tr ?_
  unfold PmE
  rw [show a * d - b * c + p = a * d - b * c + p * 1 from by omega, Int.add_mul_emod_self_left]
theorem pm1 {p : Int} (hp : 1 < p) : (1 : Int) % p = 1 := Int.emod_eq_of_lt (by decide) hp
/-- what a table turned is -/
def TBI (a' b' c' d' a b c d p : Int) : Prop := ∃ x, PmE p (dt p a b c d * x) 1 ∧ PmE p a' (d * x) ∧ PmE p b' (-b * x) ∧ PmE p c' (-c * x) ∧ PmE p d' (a * x) ∧ (0 ≤ a' ∧ a' < p) ∧ (0 ≤ b' ∧ b' < p) ∧ (0 ≤ c' ∧ c' < p) ∧ 0 ≤ d' ∧ d' < p
theorem TBK.f {a' b' c' d' a b c d p : Int} (h : TBK a' b' c' d' a b c d p) (hp : 1 < p) (ha : 0 ≤ a ∧ a < p) (hb : 0 ≤ b ∧ b < p) (hc : 0 ≤ c ∧ c < p) (hd : 0 ≤ d ∧ d < p) (hz : dt p a b c d ≠ 0) : TBI a' b' c' d' a b c d p := by
  obtain ⟨x, hi, ea, eb, ec, ed⟩ := h
  rw [dn_eq (by omega) ha.1 hb.1 hc.1 hd.1] at hi
  have bz := dt.b (p := p) (a := a) (b := b) (c := c) (d := d) (by omega)
  have hx := hi.2 bz.1
  have h1 := hi.1 (by omega) bz.2 hz
  have lf : ∀ b : Int, 0 ≤ b ∧ b < p → PmE p (((0 - b + p).tmod p * x).tmod p) (-b * x) ∧ 0 ≤ ((0 - b + p).tmod p * x).tmod p ∧ ((0 - b + p).tmod p * x).tmod p < p := fun b hb => by
    refine ⟨(PmE.tm _).tr (PmE.ml ((PmE.tm _).tr ?_) PmE.rf), Int.tmod_nonneg _ (Int.mul_nonneg (Int.tmod_nonneg _ (by omega)) hx), Int.tmod_lt_of_pos _ (by omega)⟩
    unfold PmE
    rw [show 0 - b + p = -b + p * 1 from by omega, Int.add_mul_emod_self_left]
  refine ⟨x, by unfold PmE; rw [h1, pm1 hp], by rw [ea]; exact PmE.tm _, by rw [eb]; exact (lf b hb).1, by rw [ec]; exact (lf c hc).1, by rw [ed]; exact PmE.tm _, ?_, by rw [eb]; exact (lf b hb).2, by rw [ec]; exact (lf c hc).2, ?_⟩
  · rw [ea]; exact ⟨Int.tmod_nonneg _ (Int.mul_nonneg hd.1 hx), Int.tmod_lt_of_pos _ (by omega)⟩
  · rw [ed]; exact ⟨Int.tmod_nonneg _ (Int.mul_nonneg ha.1 hx), Int.tmod_lt_of_pos _ (by omega)⟩
theorem TBC.f {a' b' c' d' a b c d p : Int} (h : TBC a' b' c' d' a b c d p) (hp : 1 < p) (hz : dt p a b c d ≠ 0) : TBI a' b' c' d' a b c d p := by
  obtain ⟨x, hi, ea, eb, ec, ed⟩ := h
  have bz := dt.b (p := p) (a := a) (b := b) (c := c) (d := d) (by omega)
  have h1 := hi.2 bz.1 bz.2 hz
  have q : ∀ y : Int, PmE p (y % p) y ∧ 0 ≤ y % p ∧ y % p < p := fun y => ⟨PmE.em _, Int.emod_nonneg _ (by omega), Int.emod_lt_of_pos _ (by omega)⟩
  exact ⟨x, by unfold PmE; rw [h1, pm1 hp], by rw [ea]; exact (q _).1, by rw [eb]; exact (q _).1, by rw [ec]; exact (q _).1, by rw [ed]; exact (q _).1, by rw [ea]; exact (q _).2, by rw [eb]; exact (q _).2, by rw [ec]; exact (q _).2, by rw [ed]; exact (q _).2⟩
theorem tb_eq {z x y u v w p : Int} (hx : PmE p (z * x) 1) (hy : PmE p (z * y) 1) (hu : PmE p u (w * x)) (hv : PmE p v (w * y)) (bu : 0 ≤ u ∧ u < p) (bv : 0 ≤ v ∧ v < p) : u = v := by
  have e : PmE p x y := by
    have a1 : PmE p (x * (z * y)) (x * 1) := PmE.rf.ml hy
    have a2 : PmE p ((z * x) * y) (1 * y) := hx.ml PmE.rf
    rw [Int.mul_one] at a1
    rw [Int.one_mul] at a2
    rw [show x * (z * y) = z * x * y from by grind] at a1
    exact a1.sy.tr a2
  exact ((hu.tr (PmE.rf.ml e)).tr hv.sy).eq bu.1 bu.2 bv.1 bv.2
theorem TBI.eq {a1 b1 c1 d1 a2 b2 c2 d2 a b c d p : Int} (h : TBI a1 b1 c1 d1 a b c d p) (g : TBI a2 b2 c2 d2 a b c d p) : a1 = a2 ∧ b1 = b2 ∧ c1 = c2 ∧ d1 = d2 := by
  obtain ⟨x, h0, h1, h2, h3, h4, h5, h6, h7, h8⟩ := h
  obtain ⟨y, g0, g1, g2, g3, g4, g5, g6, g7, g8⟩ := g
  exact ⟨tb_eq h0 g0 h1 g1 h5 g5, tb_eq h0 g0 h2 g2 h6 g6, tb_eq h0 g0 h3 g3 h7 g7, tb_eq h0 g0 h4 g4 h8 g8⟩
theorem TBI.ok {a' b' c' d' a b c d p : Int} (h : TBI a' b' c' d' a b c d p) (hp : 1 < p) : dt p a' b' c' d' ≠ 0 := fun q => by
  obtain ⟨x, h0, h1, h2, h3, h4, -⟩ := h
  have e1 : PmE p 0 (a' * d' - b' * c') := by have := dt.e (p := p) (a := a') (b := b') (c := c') (d := d'); rwa [q] at this
  have e2 : PmE p (a' * d' - b' * c') (d * x * (a * x) - -b * x * (-c * x)) := (h1.ml h4).sb (h2.ml h3)
  have e3 : PmE p (dt p a b c d) (a * d - b * c) := dt.e
  have e4 : PmE p 0 (x * x * (a * d - b * c)) := by
    have := e1.tr e2
    rwa [show d * x * (a * x) - -b * x * (-c * x) = x * x * (a * d - b * c) from by grind] at this
  have e5 : PmE p 0 (x * x * dt p a b c d) := e4.tr (PmE.rf.ml e3.sy)
  have e6 : PmE p (dt p a b c d * 0) (dt p a b c d * (x * x * dt p a b c d)) := PmE.rf.ml e5
  rw [show dt p a b c d * (x * x * dt p a b c d) = (dt p a b c d * x) * (dt p a b c d * x) from by grind, Int.mul_zero] at e6
  have e7 := e6.tr (h0.ml h0)
  unfold PmE at e7
  rw [Int.mul_one, pm1 hp, Int.zero_emod] at e7
  cases e7
/-- turned, and mixed again: what it was -/
theorem TBI.back {a' b' c' d' a b c d p : Int} (h : TBI a' b' c' d' a b c d p) : PmE p (a * a' + b * c') 1 ∧ PmE p (a * b' + b * d') 0 ∧ PmE p (c * a' + d * c') 0 ∧ PmE p (c * b' + d * d') 1 := by
  obtain ⟨x, h0, h1, h2, h3, h4, -⟩ := h
  have e3 : PmE p ((a * d - b * c) * x) 1 := (PmE.ml dt.e.sy PmE.rf).tr h0
  refine ⟨?_, ?_, ?_, ?_⟩
  · refine ((PmE.rf.ml h1).ad (PmE.rf.ml h3)).tr ?_
    rwa [show a * (d * x) + b * (-c * x) = (a * d - b * c) * x from by grind]
  · refine ((PmE.rf.ml h2).ad (PmE.rf.ml h4)).tr ?_
    rw [show a * (-b * x) + b * (a * x) = 0 from by grind]; exact PmE.rf
  · refine ((PmE.rf.ml h1).ad (PmE.rf.ml h3)).tr ?_
    rw [show c * (d * x) + d * (-c * x) = 0 from by grind]; exact PmE.rf
  · refine ((PmE.rf.ml h2).ad (PmE.rf.ml h4)).tr ?_
    rwa [show c * (-b * x) + d * (a * x) = (a * d - b * c) * x from by grind]
theorem PRM.inv {p z : Int} (hp : p = 11 ∨ p = 13 ∨ p = 17 ∨ p = 19) (h : 0 ≤ z ∧ z < p) (h0 : z ≠ 0) : ∃ x, PmE p (z * x) 1 := by
  obtain ⟨i, hi⟩ : ∃ i : Nat, z = (i : Int) := ⟨z.toNat, by omega⟩
  obtain ⟨q, hq⟩ : ∃ q : Nat, p = (q : Int) := ⟨p.toNat, by omega⟩
  have h9 := POW.inv q (by have : q = 11 ∨ q = 13 ∨ q = 17 ∨ q = 19 := by omega
                           rcases this with r | r | r | r <;> subst r <;> decide) i (by omega) (by omega)
  refine ⟨POW i (q - 2), ?_⟩
  unfold PmE
  rw [hi, hq, h9, pm1 (by omega)]
theorem jn_eq {p a x b y : Int} (hp : 0 < p) (ha : 0 ≤ a) (hx : 0 ≤ x) (hb : 0 ≤ b) (hy : 0 ≤ y) : jnR p a x b y = (a * x + b * y) % p := by
  refine PmE.eq ((PmE.tm _).tr (((PmE.tm _).ad (PmE.tm _)).tr (PmE.em _).sy)) (Int.tmod_nonneg _ (Int.add_nonneg (Int.tmod_nonneg _ (Int.mul_nonneg ha hx)) (Int.tmod_nonneg _ (Int.mul_nonneg hb hy)))) (Int.tmod_lt_of_pos _ hp) (Int.emod_nonneg _ (by omega)) (Int.emod_lt_of_pos _ hp)
theorem jn_ok {p a b c d x y z w : Int} (hp : p = 11 ∨ p = 13 ∨ p = 17 ∨ p = 19) (h1 : dt p a b c d ≠ 0) (h2 : dt p x y z w ≠ 0) : dt p ((a * x + b * z) % p) ((a * y + b * w) % p) ((c * x + d * z) % p) ((c * y + d * w) % p) ≠ 0 := fun q => by
  have e1 : PmE p 0 (((a * x + b * z) % p) * ((c * y + d * w) % p) - ((a * y + b * w) % p) * ((c * x + d * z) % p)) := by have := dt.e (p := p) (a := (a * x + b * z) % p) (b := (a * y + b * w) % p) (c := (c * x + d * z) % p) (d := (c * y + d * w) % p); rwa [q] at this
  have e2 : PmE p 0 ((a * x + b * z) * (c * y + d * w) - (a * y + b * w) * (c * x + d * z)) := e1.tr (((PmE.em _).ml (PmE.em _)).sb ((PmE.em _).ml (PmE.em _)))
  rw [show (a * x + b * z) * (c * y + d * w) - (a * y + b * w) * (c * x + d * z) = (a * d - b * c) * (x * w - y * z) from by grind] at e2
  have e3 : PmE p 0 (dt p a b c d * dt p x y z w) := e2.tr (PmE.ml dt.e.sy dt.e.sy)
  obtain ⟨i, hi⟩ := PRM.inv hp (dt.b (by omega)) h1
  have e4 : PmE p (i * 0) (i * (dt p a b c d * dt p x y z w)) := PmE.rf.ml e3
  rw [Int.mul_zero, show i * (dt p a b c d * dt p x y z w) = dt p a b c d * i * dt p x y z w from by grind] at e4
  have e5 : PmE p 0 (1 * dt p x y z w) := e4.tr (hi.ml PmE.rf)
  rw [Int.one_mul] at e5
  have b := dt.b (p := p) (a := x) (b := y) (c := z) (d := w) (by omega)
  exact h2 (e5.eq (Int.le_refl 0) (by omega) b.1 b.2).symm
theorem dt_m {p a b c d : Int} : dt p (a % p) (b % p) (c % p) (d % p) = dt p a b c d := by
  unfold dt
  rw [Int.emod_emod_of_dvd a (Int.dvd_refl p), Int.emod_emod_of_dvd b (Int.dvd_refl p), Int.emod_emod_of_dvd c (Int.dvd_refl p), Int.emod_emod_of_dvd d (Int.dvd_refl p)]
/-- a form mixed by the reference is what is so modulo p -/
theorem mx_new {p a b c d x : Int} {D : Nat} {f : Nat → Int} {k : Nat} (hp : 0 < p) (ha : 0 ≤ a) (hb : 0 ≤ b) (hc : 0 ≤ c) (hd : 0 ≤ d) (hf : ∀ i, i ≤ D → 0 ≤ f i) (hk : k ≤ D) (hx : 0 ≤ x ∧ x < p) (e : PmE p x (PmX a b c d f D k)) : mxS p a b c d D f (D + 1) k = x := by
  have h1 := mxS.p (p := p) (a := a) (b := b) (c := c) (d := d) (D := D) (f := f) hp ha hb hc hd (i := k) (D + 1) (fun i hi => hf i (by omega))
  have h2 : mxS p a b c d D f (D + 1) k < p := by rw [mxS.s]; exact Int.tmod_lt_of_pos _ hp
  exact ((mxS.x hk).tr e.sy).eq h1 h2 hx.1 hx.2
section Rel2
variable {R : RT} {I I' : IT} {st st' : Nat} {W W' : Nat → Int32}
/-- the forms' numbers at each time, a new act's behind -/
def VMX (V : Nat → Nat → Nat → Int) (s u1 F : Nat) (g' : Nat → Int) (j g k : Nat) : Int := if j ≤ u1 then V (j + s) g k else if g = F then g' k else V (u1 + s) g k
theorem VMX.le {V : Nat → Nat → Nat → Int} {s u1 F : Nat} {g' : Nat → Int} {j : Nat} (h : j ≤ u1) : VMX V s u1 F g' j = V (j + s) := by
  funext g k
  unfold VMX
  rw [if_pos h]
theorem VMX.f {V : Nat → Nat → Nat → Int} {s u1 F : Nat} {g' : Nat → Int} {j : Nat} (h : ¬ j ≤ u1) : VMX V s u1 F g' j F = g' := by
  funext k
  unfold VMX
  rw [if_neg h, if_pos rfl]
theorem VMX.o {V : Nat → Nat → Nat → Int} {s u1 F : Nat} {g' : Nat → Int} {j g : Nat} (h : ¬ j ≤ u1) (hg : g ≠ F) : VMX V s u1 F g' j g = V (u1 + s) g := by
  funext k
  unfold VMX
  rw [if_neg h, if_neg hg]
/-- a new act behind the others (the first one forgotten, if there is no room: s) -/
theorem RST.mix0 {f : Int32} {t : Nat → Int} {s u1 : Nat} (h : RST R I st W) (hW : WOS W) (hs : s ≤ 1) (hu : (W 4).toInt = (u1 : Int) + s) (hu9 : u1 < 40) (hf : 0 ≤ f.toInt ∧ f.toInt < (W 1).toInt) (ok : TOK (W 0).toInt t)
    (ik : ∀ k, k < 3 → (I' st k).toInt = (I st k).toInt) (i4 : (I' st 4).toInt = (u1 : Int) + 1) (i5 : (I' st 5).toInt = 0) (iD : (I' (FA R st f.toNatClampNeg) 0).toInt = WD W f.toNatClampNeg)
    (iN : ∀ k : Nat, (k : Int) ≤ WD W f.toNatClampNeg → (I' (rA R (FA R st f.toNatClampNeg) 1) k).toInt = WN W' f.toNatClampNeg k) (nN : ∀ k : Nat, (k : Int) ≤ WD W f.toNatClampNeg → (0 ≤ WN W' f.toNatClampNeg k ∧ WN W' f.toNatClampNeg k < (W 0).toInt) ∧ PmE (W 0).toInt (WN W' f.toNatClampNeg k) (PmX (t 0) (t 1) (t 2) (t 3) (WN W f.toNatClampNeg) (WD W f.toNatClampNeg).toNat k))
    (ht : ∀ j, j < 8 → ∀ k, k < 4 → I' (TA R st j) k = I (TA R st j) k) (hfs : FSM R I' I st f.toInt) (ho : ∀ j, j < u1 → AEQ R I' st j I st (j + s)) (oW : (I' (WH R st) u1).toInt = f.toInt) (oF : FEQ R I' (OA R st u1) I (FA R st f.toNatClampNeg))
    (w4 : (W' 4).toInt = (u1 : Int) + 1) (w5 : (W' 5).toInt = 0) (wk : ∀ r : Nat, r < 4 → W' r = W r) (wT : ∀ r : Nat, 166 ≤ r → r < 198 → W' r = W r) (wF : ∀ g : Nat, g < 16 → WD W' g = WD W g ∧ (g ≠ f.toNatClampNeg → ∀ k : Nat, k ≤ 8 → WN W' g k = WN W g k)) (wA : ∀ j : Nat, j < u1 → W' (3406 + 5 * j) = W (3406 + 5 * (j + s)) ∧ ∀ k, k < 4 → wac W' j k = wac W (j + s) k) (wf : W' (3406 + 5 * u1) = f) (wt : ∀ k, k < 4 → wac W' u1 k = t k) : RST R I' st W' := by
  obtain ⟨b1, b2, b4, bD⟩ := hW.b
  obtain ⟨⟨h0, h1, h2, h4, h5⟩, hF, hT, V, v1, v2, v3⟩ := h
  have w0 := wk 0 (by decide)
  have w1 := wk 1 (by decide)
  have w2 := wk 2 (by decide)
  have nf : (f.toNatClampNeg : Int) = f.toInt := ncz hf.1
  have df := bD f.toNatClampNeg (by omega)
  have lW : ∀ g : Nat, (g : Int) < (W 1).toInt → g < 16 := fun g hg => by omega
  have tn : (W 4).toInt.toNat = u1 + s := by omega
  have V1 : ∀ g : Nat, (g : Int) < (W 1).toInt → ∀ k : Nat, (k : Int) ≤ WD W g → V (u1 + s) g k = WN W g k := fun g hg k hk => by rw [← tn]; exact v1 g hg k hk
  refine ⟨⟨by rw [ik 0 (by decide), w0]; exact h0, by rw [ik 1 (by decide), w1]; exact h1, by rw [ik 2 (by decide), w2]; exact h2, by rw [i4, w4], by rw [i5, w5]⟩, fun g q => ?_, fun t9 q => ?_, VMX V s u1 f.toNatClampNeg (WN W' f.toNatClampNeg), fun g q k hk => ?_, fun j g hj q k hk => ?_, fun j hj => ?_⟩
  · rw [w1] at q
    rw [w0, (wF g (lW g q)).1]
    by_cases z : g = f.toNatClampNeg
    · subst z
      exact ⟨⟨iD, iN⟩, fun k hk => (nN k hk).1⟩
    · have e := (wF g (lW g q)).2 z
      have dg := bD g (lW g q)
      exact ⟨((hF g q).1.fe (hfs g (lW g q) (by omega))).cg rfl (fun k hk => (e k (by omega)).symm), fun k hk => by rw [e k (by omega)]; exact (hF g q).2 k hk⟩
  · rw [w2] at q
    have et : ∀ k, k < 4 → wtb W' t9 k = wtb W t9 k := fun k hk => by unfold wtb; rw [wT _ (by omega) (by omega)]
    rw [w0]
    exact ⟨fun k hk => by rw [et k hk, ht t9 (by omega) k hk]; exact (hT t9 q).1 k hk, (hT t9 q).2.cg et⟩
  · rw [w1] at q
    rw [(wF g (lW g q)).1] at hk
    have dg := bD g (lW g q)
    by_cases z : g = f.toNatClampNeg
    · subst z; rw [VMX.f (by omega)]
    · rw [VMX.o (by omega) z, (wF g (lW g q)).2 z k (by omega)]; exact V1 g q k hk
  · rw [w1] at q
    rw [w4, w5] at hj
    rw [(wF g (lW g q)).1] at hk
    rw [w0]
    by_cases z : j ≤ u1
    · rw [VMX.le z]; exact v2 (j + s) g (by omega) q k hk
    · by_cases y : g = f.toNatClampNeg
      · subst y; rw [VMX.f z]; exact (nN k hk).1
      · rw [VMX.o z y]; exact v2 (u1 + s) g (by omega) q k hk
  · rw [w4, w5] at hj
    rw [w0, w1, w4]
    by_cases z : j < u1
    · have a := v3 (j + s) (by omega)
      have q := a.2.1
      rw [(wA j z).1]
      have lf : ((W (3406 + 5 * (j + s))).toNatClampNeg : Int) < (W 1).toInt := by
        have : (W (3406 + 5 * (j + s))).toNatClampNeg = (W (3406 + 5 * (j + s))).toInt.toNat := rfl
        omega
      refine AX.cg (D := WD W) (t := wac W (j + s)) (a.i (ho j z) (fun k hk => ?_) ?_ ?_) ((wF _ (lW _ lf)).1) (fun k hk => (wA j z).2 k hk)
      · rw [if_pos (show ((j + s : Nat) : Int) < (W 4).toInt from by omega), if_pos (show (j : Int) < (u1 : Int) + 1 from by omega), VMX.le (by omega)]
      · exact VMX.le (by omega)
      · rw [VMX.le (by omega), show j + 1 + s = j + s + 1 from by omega]
    · have e : j = u1 := by omega
      subst e
      rw [wf]
      have eD := (wF f.toNatClampNeg (by omega)).1
      refine ⟨oW, hf, ok.cg wt, ?_, fun k hk => ?_, fun g hg => ?_⟩
      · rw [if_pos (show (j : Int) < (j : Int) + 1 from by omega), eD, VMX.le (Nat.le_refl _)]
        exact ((hF _ (by omega)).1.fe oF).cg rfl (fun k hk => (V1 _ (by omega) k hk).symm)
      · rw [eD] at hk ⊢
        rw [VMX.f (show ¬ j + 1 ≤ j from by omega), VMX.le (Nat.le_refl _), wt 0 (by decide), wt 1 (by decide), wt 2 (by decide), wt 3 (by decide)]
        refine (nN k hk).2.tr (PmX.e PmE.rf PmE.rf PmE.rf PmE.rf _ (fun i hi => ?_) k)
        rw [V1 _ (by omega) i (by omega)]; exact PmE.rf
      · rw [VMX.o (show ¬ j + 1 ≤ j from by omega) hg, VMX.le (Nat.le_refl _)]
theorem RST.mix {f t : Int32} (h : RST R I st W) (hW : WOS W) (hf : 0 ≤ f.toInt ∧ f.toInt < (W 1).toInt) (ht : 0 ≤ t.toInt ∧ t.toInt < (W 2).toInt) (ik : ∀ k, k < 3 → (I' st k).toInt = (I st k).toInt) (i5 : (I' st 5).toInt = 0) (iT : ∀ j, j < 8 → ∀ k, k < 4 → I' (TA R st j) k = I (TA R st j) k)
    (c2 : (I' (FA R st f.toNatClampNeg) 0).toInt = (I (FA R st f.toNatClampNeg) 0).toInt) (c3 : VRX I' (rA R (FA R st f.toNatClampNeg) 1) (I st 0).toInt (I (FA R st f.toNatClampNeg) 0).toInt (PmX (I (TA R st t.toNatClampNeg) 0).toInt (I (TA R st t.toNatClampNeg) 1).toInt (I (TA R st t.toNatClampNeg) 2).toInt (I (TA R st t.toNatClampNeg) 3).toInt (NF I (rA R (FA R st f.toNatClampNeg) 1)) (I (FA R st f.toNatClampNeg) 0).toInt.toNat))
    (c4 : WRD R I' I st f (FA R st f.toNatClampNeg) (I st 4).toInt) (c6 : FSM R I' I st f.toInt) (X : MXT W' W f t) : RST R I' st W' := by
  obtain ⟨b1, b2, b4, bD⟩ := hW.b
  have hp := hW.pr
  have hr := h
  obtain ⟨⟨h0, h1, h2, h4, h5⟩, hF, hT, -⟩ := hr
  obtain ⟨W1, ⟨x1, x5, xa, xb⟩, M1, M2⟩ := X
  have nf : (f.toNatClampNeg : Int) = f.toInt := ncz hf.1
  have nt : (t.toNatClampNeg : Int) = t.toInt := ncz ht.1
  have df := bD f.toNatClampNeg (by omega)
  obtain ⟨F1, F2⟩ := hF f.toNatClampNeg (by omega)
  obtain ⟨T1, T2⟩ := hT t.toNatClampNeg (by omega)
  have eD1 : (W1 (6 + 10 * f.toNatClampNeg)).toInt = WD W f.toNatClampNeg := by rw [x1 _ (by omega) (by omega) (by omega)]; rfl
  rw [eD1] at M1 M2
  have eg : ∀ i : Nat, i ≤ (WD W f.toNatClampNeg).toNat → (W1 (7 + 10 * f.toNatClampNeg + i)).toInt = WN W f.toNatClampNeg i := fun i hi => by rw [x1 _ (by omega) (by omega) (by omega)]; rfl
  have mk : ∀ r : Nat, (r < 7 + 10 * f.toNatClampNeg ∨ 7 + 10 * f.toNatClampNeg + (WD W f.toNatClampNeg).toNat + 1 ≤ r) → r ≠ 4 → r ≠ 5 → r < 3406 → W' r = W r := fun r hr a b c => by rw [M2 r hr, x1 r a b c]
  have mA : ∀ r : Nat, 166 ≤ r → W' r = W1 r := fun r hr => M2 r (by omega)
  rw [F1.1, h0, T1 0 (by decide), T1 1 (by decide), T1 2 (by decide), T1 3 (by decide)] at c3
  have key : ∀ k : Nat, (k : Int) ≤ WD W f.toNatClampNeg → (I' (rA R (FA R st f.toNatClampNeg) 1) k).toInt = WN W' f.toNatClampNeg k ∧ (0 ≤ WN W' f.toNatClampNeg k ∧ WN W' f.toNatClampNeg k < (W 0).toInt) ∧ PmE (W 0).toInt (WN W' f.toNatClampNeg k) (PmX (wtb W t.toNatClampNeg 0) (wtb W t.toNatClampNeg 1) (wtb W t.toNatClampNeg 2) (wtb W t.toNatClampNeg 3) (WN W f.toNatClampNeg) (WD W f.toNatClampNeg).toNat k) := fun k hk => by
    obtain ⟨c5, c7, c8⟩ := c3 k hk
    have c8' : PmE (W 0).toInt (I' (rA R (FA R st f.toNatClampNeg) 1) k).toInt (PmX (wtb W t.toNatClampNeg 0) (wtb W t.toNatClampNeg 1) (wtb W t.toNatClampNeg 2) (wtb W t.toNatClampNeg 3) (WN W f.toNatClampNeg) (WD W f.toNatClampNeg).toNat k) :=
      c8.tr (PmX.e PmE.rf PmE.rf PmE.rf PmE.rf _ (fun i hi => by unfold NF; rw [F1.2 i (by omega)]; exact PmE.rf) k)
    have m := M1 k hk
    have e9 := mx_new (p := (W 0).toInt) (a := wtb W t.toNatClampNeg 0) (b := wtb W t.toNatClampNeg 1) (c := wtb W t.toNatClampNeg 2) (d := wtb W t.toNatClampNeg 3) (D := (WD W f.toNatClampNeg).toNat) (f := fun i => (W1 (7 + 10 * f.toNatClampNeg + i)).toInt) (k := k) (x := (I' (rA R (FA R st f.toNatClampNeg) 1) k).toInt) (by omega) (T2.1 0 (by decide)).1 (T2.1 1 (by decide)).1 (T2.1 2 (by decide)).1 (T2.1 3 (by decide)).1 (fun i hi => by show 0 ≤ (W1 (7 + 10 * f.toNatClampNeg + i)).toInt; rw [eg i hi]; exact (F2 i (by omega)).1) (by omega) ⟨c5, c7⟩ (c8'.tr (PmX.e PmE.rf PmE.rf PmE.rf PmE.rf _ (fun i hi => by show PmE _ _ (W1 (7 + 10 * f.toNatClampNeg + i)).toInt; rw [eg i hi]; exact PmE.rf) k))
    have e : WN W' f.toNatClampNeg k = (I' (rA R (FA R st f.toNatClampNeg) 1) k).toInt := by
      show (W' (7 + 10 * f.toNatClampNeg + k)).toInt = _
      rw [m]; exact e9
    rw [e]
    exact ⟨rfl, ⟨c5, c7⟩, c8'⟩
  have wF : ∀ g : Nat, g < 16 → WD W' g = WD W g ∧ (g ≠ f.toNatClampNeg → ∀ k : Nat, k ≤ 8 → WN W' g k = WN W g k) := fun g hg => by
    refine ⟨?_, fun hn k hk => ?_⟩
    · unfold WD; rw [mk _ (by omega) (by omega) (by omega) (by omega)]
    · unfold WN; rw [mk _ (by omega) (by omega) (by omega) (by omega)]
  have w5 : (W' 5).toInt = 0 := by rw [M2 5 (by omega)]; exact x5
  have wk : ∀ r : Nat, r < 4 → W' r = W r := fun r hr => mk r (by omega) (by omega) (by omega) (by omega)
  have wT : ∀ r : Nat, 166 ≤ r → r < 198 → W' r = W r := fun r q1 q2 => mk r (by omega) (by omega) (by omega) (by omega)
  have w4 : W' 4 = W1 4 := M2 4 (by omega)
  rw [h4] at c4
  by_cases q : (W 4).toInt < 40
  · obtain ⟨y1, y2, y3, y4⟩ := xa q
    obtain ⟨d1, d2, d3, d4⟩ := c4.1 b4.1 q
    refine RST.mix0 (f := f) (t := wtb W t.toNatClampNeg) (s := 0) (u1 := (W 4).toInt.toNat) h hW (by decide) (by omega) (by omega) hf T2 ik (by omega) i5 (c2.trans F1.1) (fun k hk => (key k hk).1) (fun k hk => (key k hk).2) iT c6 (fun j hj => d3 j (by omega) (by omega)) (by rw [d1]) d2 (by rw [w4, y1]; omega) w5 wk wT wF (fun j hj => ⟨?_, fun k hk => ?_⟩) ?_ (fun k hk => ?_)
    · rw [mA _ (by omega), y2 _ (by omega) (by omega)]; rfl
    · unfold wac; rw [mA _ (by omega), y2 _ (by omega) (by omega)]; rfl
    · rw [mA _ (by omega)]; exact y3
    · unfold wac; rw [mA _ (by omega)]; exact y4 k hk
  · obtain ⟨y1, y2, y3, y4⟩ := xb (by omega)
    obtain ⟨d1, d2, d3, d4⟩ := c4.2 (by omega)
    refine RST.mix0 (f := f) (t := wtb W t.toNatClampNeg) (s := 1) (u1 := 39) h hW (by decide) (by omega) (by omega) hf T2 ik (by omega) i5 (c2.trans F1.1) (fun k hk => (key k hk).1) (fun k hk => (key k hk).2) iT c6 (fun j hj => d3 j hj) (by rw [d1]) d2 (by rw [w4, y1]; omega) w5 wk wT wF (fun j hj => ⟨?_, fun k hk => ?_⟩) ?_ (fun k hk => ?_)
    · rw [mA _ (by omega), y2 _ (by omega) (by omega), show 3406 + 5 * j + 5 = 3406 + 5 * (j + 1) from by omega]
    · unfold wac; rw [mA _ (by omega), y2 _ (by omega) (by omega), show 3407 + 5 * j + k + 5 = 3407 + 5 * (j + 1) + k from by omega]
    · rw [mA _ (by omega)]; exact y3
    · unfold wac; rw [mA _ (by omega)]; exact y4 k hk
/-- an act undone, or done again: from a to the other side of it -/
theorem RST.step {a : Nat} {d9 u9 : Int} {f : Int32} {ta tb tc td : Int} (h : RST R I st W) (hW : WOS W) (ha : (a : Int) < (W 4).toInt + (W 5).toInt) (hd : (W 4).toInt = a ∧ d9 = (a : Int) + 1 ∨ (W 4).toInt = (a : Int) + 1 ∧ d9 = a) (hu : d9 + u9 = (W 4).toInt + (W 5).toInt) (ef : W (3406 + 5 * a) = f)
    (hx : (W 4).toInt = a ∧ ta = wac W a 0 ∧ tb = wac W a 1 ∧ tc = wac W a 2 ∧ td = wac W a 3 ∨ (W 4).toInt = (a : Int) + 1 ∧ TBK ta tb tc td (wac W a 0) (wac W a 1) (wac W a 2) (wac W a 3) (W 0).toInt)
    (ik : ∀ k, k < 3 → (I' st k).toInt = (I st k).toInt) (i4 : (I' st 4).toInt = d9) (i5 : (I' st 5).toInt = u9) (iT : ∀ j, j < 8 → ∀ k, k < 4 → I' (TA R st j) k = I (TA R st j) k) (S : SBD R I' I st (FA R st f.toNatClampNeg) a) (c6 : FSM R I' I st f.toInt)
    (w4 : (W' 4).toInt = d9) (w5 : (W' 5).toInt = u9) (wr : ∀ r : Nat, r ≠ 4 → r ≠ 5 → (r < 7 + 10 * f.toNatClampNeg ∨ 7 + 10 * f.toNatClampNeg + (WD W f.toNatClampNeg).toNat + 1 ≤ r) → W' r = W r)
    (M : ∀ k : Nat, (k : Int) ≤ WD W f.toNatClampNeg → WN W' f.toNatClampNeg k = mxS (W 0).toInt ta tb tc td (WD W f.toNatClampNeg).toNat (WN W f.toNatClampNeg) ((WD W f.toNatClampNeg).toNat + 1) k) : RST R I' st W' := by
  obtain ⟨b1, b2, b4, bD⟩ := hW.b
  have hp := hW.pr
  obtain ⟨⟨h0, h1, h2, h4, h5⟩, hF, hT, V, v1, v2, v3⟩ := h
  have X := v3 a ha
  rw [ef] at X
  obtain ⟨y1, y2, y3, y4, y5, y6⟩ := X
  have nf : (f.toNatClampNeg : Int) = f.toInt := ncz y2.1
  have df := bD f.toNatClampNeg (by omega)
  obtain ⟨F1, F2⟩ := hF f.toNatClampNeg (by omega)
  have Vn : ∀ k : Nat, (k : Int) ≤ WD W f.toNatClampNeg → V (W 4).toInt.toNat f.toNatClampNeg k = WN W f.toNatClampNeg k := fun k hk => v1 _ (by omega) k hk
  -- the other side's numbers
  have key : ∀ k : Nat, (k : Int) ≤ WD W f.toNatClampNeg → WN W' f.toNatClampNeg k = V d9.toNat f.toNatClampNeg k := fun k hk => by
    rw [M k hk]
    have bx := v2 d9.toNat f.toNatClampNeg (by omega) (by omega) k hk
    rcases hx with ⟨q1, q2, q3, q4, q5⟩ | ⟨q1, q2⟩
    · have e9 : d9.toNat = a + 1 := by omega
      have e8 : (W 4).toInt.toNat = a := by omega
      rw [e9] at bx ⊢
      rw [e8] at Vn
      rw [q2, q3, q4, q5]
      refine mx_new (by omega) (y3.1 0 (by decide)).1 (y3.1 1 (by decide)).1 (y3.1 2 (by decide)).1 (y3.1 3 (by decide)).1 (fun i hi => (F2 i (by omega)).1) (by omega) bx ?_
      exact (y5 k hk).tr (PmX.e PmE.rf PmE.rf PmE.rf PmE.rf _ (fun i hi => by rw [Vn i (by omega)]; exact PmE.rf) k)
    · have e9 : d9.toNat = a := by omega
      have e8 : (W 4).toInt.toNat = a + 1 := by omega
      rw [e9] at bx ⊢
      rw [e8] at Vn
      have bi := q2.f (by omega) (y3.1 0 (by decide)) (y3.1 1 (by decide)) (y3.1 2 (by decide)) (y3.1 3 (by decide)) y3.2
      obtain ⟨g1, g2, g3, g4⟩ := bi.back
      obtain ⟨-, -, -, -, -, -, p1, p2, p3, p4⟩ := bi
      refine mx_new (by omega) p1.1 p2.1 p3.1 p4.1 (fun i hi => (F2 i (by omega)).1) (by omega) bx ?_
      exact (PmX.back g1 g2 g3 g4 (fun i hi => by rw [← Vn i (by omega)]; exact y5 i (by omega)) (by omega)).sy
  have eo : ∀ k : Nat, (k : Int) ≤ WD W f.toNatClampNeg → V (if (a : Int) < (W 4).toInt then a else a + 1) f.toNatClampNeg k = V d9.toNat f.toNatClampNeg k := fun k hk => by
    rcases hd with ⟨q1, q2⟩ | ⟨q1, q2⟩
    · rw [if_neg (by omega), show d9.toNat = a + 1 from by omega]
    · rw [if_pos (by omega), show d9.toNat = a from by omega]
  have w0 : W' 0 = W 0 := wr 0 (by decide) (by decide) (by omega)
  have w1 : W' 1 = W 1 := wr 1 (by decide) (by decide) (by omega)
  have w2 : W' 2 = W 2 := wr 2 (by decide) (by decide) (by omega)
  have eD : ∀ g : Nat, g < 16 → WD W' g = WD W g := fun g hg => by unfold WD; rw [wr _ (by omega) (by omega) (by omega)]
  have eN : ∀ g : Nat, g < 16 → g ≠ f.toNatClampNeg → ∀ k : Nat, k ≤ 8 → WN W' g k = WN W g k := fun g hg hn k hk => by unfold WN; rw [wr _ (by omega) (by omega) (by omega)]
  have eA : ∀ j : Nat, W' (3406 + 5 * j) = W (3406 + 5 * j) := fun j => wr _ (by omega) (by omega) (by omega)
  have et : ∀ j k : Nat, wac W' j k = wac W j k := fun j k => by unfold wac; rw [wr _ (by omega) (by omega) (by omega)]
  have Vo : ∀ g : Nat, g ≠ f.toNatClampNeg → V d9.toNat g = V (W 4).toInt.toNat g := fun g hg => by
    have := y6 g hg
    rcases hd with ⟨q1, q2⟩ | ⟨q1, q2⟩
    · rw [show d9.toNat = a + 1 from by omega, show (W 4).toInt.toNat = a from by omega]; exact this
    · rw [show d9.toNat = a from by omega, show (W 4).toInt.toNat = a + 1 from by omega]; exact this.symm
  refine ⟨⟨by rw [ik 0 (by decide), w0]; exact h0, by rw [ik 1 (by decide), w1]; exact h1, by rw [ik 2 (by decide), w2]; exact h2, by rw [i4, w4], by rw [i5, w5]⟩, fun g q => ?_, fun t9 q => ?_, V, fun g q k hk => ?_, fun j g hj q k hk => ?_, fun j hj => ?_⟩
  · rw [w1] at q
    rw [w0, eD g (by omega)]
    by_cases z : g = f.toNatClampNeg
    · subst z
      refine ⟨(y4.fe S.2.1).cg rfl (fun k hk => by rw [eo k hk, key k hk]), fun k hk => ?_⟩
      rw [key k hk]; exact v2 _ _ (by omega) q k hk
    · have dg := bD g (by omega)
      exact ⟨((hF g q).1.fe (c6 g (by omega) (by omega))).cg rfl (fun k hk => (eN g (by omega) z k (by omega)).symm), fun k hk => by rw [eN g (by omega) z k (by omega)]; exact (hF g q).2 k hk⟩
  · rw [w2] at q
    have e9 : ∀ k, k < 4 → wtb W' t9 k = wtb W t9 k := fun k hk => by unfold wtb; rw [wr _ (by omega) (by omega) (by omega)]
    rw [w0]
    exact ⟨fun k hk => by rw [e9 k hk, iT t9 (by omega) k hk]; exact (hT t9 q).1 k hk, (hT t9 q).2.cg e9⟩
  · rw [w1] at q
    rw [eD g (by omega)] at hk
    rw [w4]
    by_cases z : g = f.toNatClampNeg
    · subst z; exact (key k hk).symm
    · have dg := bD g (by omega)
      rw [eN g (by omega) z k (by omega), Vo g z]; exact v1 g q k hk
  · rw [w1] at q
    rw [w4, w5, hu] at hj
    rw [eD g (by omega)] at hk
    rw [w0]; exact v2 j g hj q k hk
  · rw [w4, w5, hu] at hj
    have X := v3 j hj
    rw [w0, w1, w4, eA j]
    have lf : ((W (3406 + 5 * j)).toNatClampNeg : Int) < (W 1).toInt := by
      have := X.2.1
      have : (W (3406 + 5 * j)).toNatClampNeg = (W (3406 + 5 * j)).toInt.toNat := rfl
      omega
    refine AX.cg (D := WD W) (t := wac W j) ?_ (eD _ (by omega)) (fun k _ => et j k)
    by_cases z : j = a
    · subst z
      rw [ef]
      refine ⟨by rw [S.2.2.1]; exact y1, y2, y3, ?_, y5, y6⟩
      refine (F1.fe S.1).cg rfl (fun k hk => ?_)
      rw [← Vn k hk]
      rcases hd with ⟨q1, q2⟩ | ⟨q1, q2⟩
      · rw [if_pos (by omega), show (W 4).toInt.toNat = j from by omega]
      · rw [if_neg (by omega), show (W 4).toInt.toNat = j + 1 from by omega]
    · refine X.i (S.2.2.2 j (by omega) z) (fun k _ => ?_) rfl rfl
      by_cases q : (j : Int) < (W 4).toInt
      · rw [if_pos q, if_pos (by omega)]
      · rw [if_neg q, if_neg (by omega)]
end Rel2
