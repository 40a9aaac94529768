/-! the reference: tables looked for: exactly -/
def RCN (I : IT) (nu r : Nat) (p D : Int) : Prop := ∀ k : Nat, (k : Int) ≤ D → 0 ≤ RI I nu r k ∧ RI I nu r k < p
theorem VAD.ev {x p X Y D : Int} {f : Nat → Int} (h : VAD x p f X Y D) (hp : 0 < p) (hX : 0 ≤ X) (hY : 0 ≤ Y) (hD : 0 ≤ D) (hf : ∀ k : Nat, (k : Int) ≤ D → 0 ≤ f k) : x = EV p f D X Y := by
  unfold VAD at h
  have e := vaS.h (p := p) (x := X) (y := Y) (f := f) (D := D.toNat) (D.toNat + 1) (Nat.le_refl _)
  rw [Nat.sub_self] at e
  have e : PmE p (vaS p f X Y D.toNat (D.toNat + 1)) (HRV X Y f (D.toNat + 1) * 1) := e
  rw [Int.mul_one, ← h] at e
  have b := vaS.b (p := p) (x := X) (y := Y) (f := f) (D := D.toNat) hp hX hY (fun k hk => hf k (by omega)) (D.toNat + 1) (Nat.le_refl _)
  rw [← h] at b
  unfold EV
  rw [show (D + 1).toNat = D.toNat + 1 from by omega]
  exact (e.tr (PmE.em _).sy).eq b.1 b.2 (Int.emod_nonneg _ (by omega)) (Int.emod_lt_of_pos _ hp)
theorem HRV.e2 (f : Nat → Int) (n : Nat) : HRV 0 1 f (n + 1) = f n := by
  show HRV 0 1 f n * 0 + f n * POW 1 n = f n
  rw [POW.one]; omega
theorem MTB.lo {p D : Int} {f g : Nat → Int} {a b c d : Nat} (h : MTB p D f g a b c d) (hD : 0 ≤ D) (hg : 0 ≤ g 0 ∧ g 0 < p) : EV p f D a c = g 0 := by
  have e := HRV.x 1 0 a b c d f D.toNat
  rw [Int.mul_one, Int.mul_one, Int.mul_zero, Int.mul_zero, Int.add_zero, Int.add_zero, HRV.e1] at e
  unfold EV
  rw [show (D + 1).toNat = D.toNat + 1 from by omega, ← e, ← Int.emod_eq_of_lt hg.1 hg.2]
  exact h.2 0 (by omega)
theorem MTB.hi {p D : Int} {f g : Nat → Int} {a b c d : Nat} (h : MTB p D f g a b c d) (hD : 0 ≤ D) (hg : 0 ≤ g D.toNat ∧ g D.toNat < p) : EV p f D b d = g D.toNat := by
  have e := HRV.x 0 1 a b c d f D.toNat
  rw [Int.mul_one, Int.mul_one, Int.mul_zero, Int.mul_zero, Int.zero_add, Int.zero_add, HRV.e2] at e
  unfold EV
  rw [show (D + 1).toNat = D.toNat + 1 from by omega, ← e, ← Int.emod_eq_of_lt hg.1 hg.2]
  exact h.2 D.toNat (by omega)
/-- tables gone through up to a, b, c, d: how many -/
noncomputable def KCT1 (p : Nat) (P : Nat → Nat → Nat → Nat → Prop) (a b c : Nat) : Int := SUMN (fun d => IND (P a b c d)) p
noncomputable def KCT2 (p : Nat) (P : Nat → Nat → Nat → Nat → Prop) (a b : Nat) : Int := SUMN (fun c => KCT1 p P a b c) p
noncomputable def KCT3 (p : Nat) (P : Nat → Nat → Nat → Nat → Prop) (a : Nat) : Int := SUMN (fun b => KCT2 p P a b) p
noncomputable def KCT (p : Nat) (P : Nat → Nat → Nat → Nat → Prop) (a b c d : Nat) : Int := SUMN (fun a => KCT3 p P a) a + SUMN (fun b => KCT2 p P a b) b + SUMN (fun c => KCT1 p P a b c) c + SUMN (fun d => IND (P a b c d)) d
theorem KCT.e {p : Nat} {P : Nat → Nat → Nat → Nat → Prop} : KCT p P p 0 0 0 = CN4 p P := by
  show SUMN (fun a => KCT3 p P a) p + 0 + 0 + 0 = _
  rw [Int.add_zero, Int.add_zero, Int.add_zero]; rfl
theorem KCT.a {p : Nat} {P : Nat → Nat → Nat → Nat → Prop} {a : Nat} : KCT p P (a + 1) 0 0 0 = KCT p P a p 0 0 := by
  show (SUMN (fun a => KCT3 p P a) a + KCT3 p P a) + 0 + 0 + 0 = SUMN (fun a => KCT3 p P a) a + SUMN (fun b => KCT2 p P a b) p + 0 + 0
  have e : SUMN (fun b => KCT2 p P a b) p = KCT3 p P a := rfl
  rw [e]; omega
theorem KCT.b {p : Nat} {P : Nat → Nat → Nat → Nat → Prop} {a b : Nat} : KCT p P a (b + 1) 0 0 = KCT p P a b p 0 := by
  show SUMN (fun a => KCT3 p P a) a + (SUMN (fun b => KCT2 p P a b) b + KCT2 p P a b) + 0 + 0 = SUMN (fun a => KCT3 p P a) a + SUMN (fun b => KCT2 p P a b) b + SUMN (fun c => KCT1 p P a b c) p + 0
  have e : SUMN (fun c => KCT1 p P a b c) p = KCT2 p P a b := rfl
  rw [e]; omega
theorem KCT.c {p : Nat} {P : Nat → Nat → Nat → Nat → Prop} {a b c : Nat} : KCT p P a b (c + 1) 0 = KCT p P a b c p := by
  show SUMN (fun a => KCT3 p P a) a + SUMN (fun b => KCT2 p P a b) b + (SUMN (fun c => KCT1 p P a b c) c + KCT1 p P a b c) + 0 = SUMN (fun a => KCT3 p P a) a + SUMN (fun b => KCT2 p P a b) b + SUMN (fun c => KCT1 p P a b c) c + SUMN (fun d => IND (P a b c d)) p
  have e : SUMN (fun d => IND (P a b c d)) p = KCT1 p P a b c := rfl
  rw [e]; omega
theorem KCT.d {p : Nat} {P : Nat → Nat → Nat → Nat → Prop} {a b c d : Nat} : KCT p P a b c (d + 1) = KCT p P a b c d + IND (P a b c d) := by
  show _ + (SUMN (fun d => IND (P a b c d)) d + IND (P a b c d)) = _ + SUMN (fun d => IND (P a b c d)) d + IND (P a b c d)
  omega
theorem KCT.c0 {p : Nat} {P : Nat → Nat → Nat → Nat → Prop} {a b c : Nat} (h : ∀ d, d < p → ¬ P a b c d) : KCT p P a b c p = KCT p P a b c 0 := by
  have e : SUMN (fun d => IND (P a b c d)) p = SUMN (fun _ => 0) p := SUMN.cg _ (fun d hd => IND.n (h d hd))
  show _ + SUMN (fun d => IND (P a b c d)) p = _ + 0
  rw [e, SUMN.z]
/-- what the loops know -/
def CTL (P : Nat → Nat → Nat → Nat → Prop) (f n p a b c d : Int) : Prop := n = (if f = 1 then 0 else KCT p.toNat P a.toNat b.toNat c.toNat d.toNat) ∧ (f = 1 → KCT p.toNat P a.toNat b.toNat c.toNat d.toNat = 0)
theorem CTL.cg {P : Nat → Nat → Nat → Nat → Prop} {f n p a b c d a' b' c' d' : Int} (h : CTL P f n p a b c d) (e : KCT p.toNat P a'.toNat b'.toNat c'.toNat d'.toNat = KCT p.toNat P a.toNat b.toNat c.toNat d.toNat) : CTL P f n p a' b' c' d' := by
  unfold CTL; rw [e]; exact h
theorem CTL.z {P : Nat → Nat → Nat → Nat → Prop} {f n p a b c d : Int} (hn : n = 0) (ha : a = 0) (hb : b = 0) (hc : c = 0) (hd : d = 0) : CTL P f n p a b c d := by
  subst ha; subst hb; subst hc; subst hd
  have e : KCT p.toNat P (0 : Int).toNat (0 : Int).toNat (0 : Int).toNat (0 : Int).toNat = 0 := rfl
  refine ⟨?_, fun _ => e⟩
  rw [e, hn]; split <;> rfl
theorem CTL.a {P : Nat → Nat → Nat → Nat → Prop} {f n p a b a' : Int} (h : CTL P f n p a b 0 0) (hb : b = p) (h0 : 0 ≤ a) (ha : a' = a + 1) : CTL P f n p a' 0 0 0 := h.cg (by
  rw [show a'.toNat = a.toNat + 1 from by omega, hb]; exact KCT.a)
theorem CTL.b {P : Nat → Nat → Nat → Nat → Prop} {f n p a b c b' : Int} (h : CTL P f n p a b c 0) (hc : c = p) (h0 : 0 ≤ b) (hb : b' = b + 1) : CTL P f n p a b' 0 0 := h.cg (by
  rw [show b'.toNat = b.toNat + 1 from by omega, hc]; exact KCT.b)
theorem CTL.c {P : Nat → Nat → Nat → Nat → Prop} {f n p a b c d c' : Int} (h : CTL P f n p a b c d) (hd : d = p) (h0 : 0 ≤ c) (hc : c' = c + 1) : CTL P f n p a b c' 0 := h.cg (by
  rw [show c'.toNat = c.toNat + 1 from by omega, hd]; exact KCT.c)
theorem CTL.cn {P : Nat → Nat → Nat → Nat → Prop} {f n p a b c c' : Int} (h : CTL P f n p a b c 0) (q : ∀ d, d < p.toNat → ¬ P a.toNat b.toNat c.toNat d) (h0 : 0 ≤ c) (hc : c' = c + 1) : CTL P f n p a b c' 0 := h.cg (by
  rw [show c'.toNat = c.toNat + 1 from by omega]; exact KCT.c.trans (KCT.c0 q))
theorem CTL.n {P : Nat → Nat → Nat → Nat → Prop} {f n p a b c d d' : Int} (h : CTL P f n p a b c d) (q : ¬ P a.toNat b.toNat c.toNat d.toNat) (h0 : 0 ≤ d) (hd : d' = d + 1) : CTL P f n p a b c d' := h.cg (by
  rw [show d'.toNat = d.toNat + 1 from by omega, KCT.d, IND.n q, Int.add_zero])
theorem CTL.y {P : Nat → Nat → Nat → Nat → Prop} {f n n' p a b c d d' : Int} (h : CTL P f n p a b c d) (q : P a.toNat b.toNat c.toNat d.toNat) (hf : f ≠ 1) (hn : n' = n + 1) (h0 : 0 ≤ d) (hd : d' = d + 1) : CTL P f n' p a b c d' := by
  refine ⟨?_, fun z => absurd z hf⟩
  rw [if_neg hf, show d'.toNat = d.toNat + 1 from by omega, KCT.d, IND.y q, hn, h.1, if_neg hf]
theorem CTL.e {P : Nat → Nat → Nat → Nat → Prop} {f n p a : Int} (h : CTL P f n p a 0 0 0) (ha : a = p) : (f ≠ 1 → n = CN4 p.toNat P) ∧ (f = 1 → MNC p.toNat P (-1)) := by
  subst ha
  refine ⟨fun q => by have := h.1; rw [if_neg q] at this; rw [this]; exact KCT.e, fun q => Or.inl ⟨rfl, fun a b c d ha hb hc hd hP => ?_⟩⟩
  have z := h.2 q
  have z : CN4 _ P = 0 := KCT.e.symm.trans z
  have := CN4.pos.mpr ⟨a, b, c, d, ha, hb, hc, hd, hP⟩
  omega
theorem CTL.f {P : Nat → Nat → Nat → Nat → Prop} {f n p a b c d x : Int} (h : CTL P f n p a b c d) (hf : f = 1) (q : P a.toNat b.toNat c.toNat d.toNat) (ha : 0 ≤ a ∧ a < p) (hb : 0 ≤ b ∧ b < p) (hc : 0 ≤ c ∧ c < p) (hd : 0 ≤ d ∧ d < p) (hp : p ≤ 19) (hx : x = ((20 * a + b) * 20 + c) * 20 + d) : MNC p.toNat P x := by
  refine Or.inr ⟨⟨a.toNat, b.toNat, c.toNat, d.toNat, by omega, by omega, by omega, by omega, q, by unfold cod; omega⟩, fun a' b' c' d' ha' hb' hc' hd' hP => ?_⟩
  have z := h.2 hf
  unfold KCT at z
  have n3 := fun a => SUMN.p (F := fun b => KCT2 p.toNat P a b) (fun b => SUMN.p (fun c => SUMN.p (fun d => (IND.p _).1) _) _) p.toNat
  have n2 := fun a b => SUMN.p (F := fun c => KCT1 p.toNat P a b c) (fun c => SUMN.p (fun d => (IND.p _).1) _) p.toNat
  have n1 := fun a b c => SUMN.p (F := fun d => IND (P a b c d)) (fun d => (IND.p _).1) p.toNat
  have s1 := SUMN.p (F := fun a => KCT3 p.toNat P a) n3 a.toNat
  have s2 := SUMN.p (F := fun b => KCT2 p.toNat P a.toNat b) (n2 a.toNat) b.toNat
  have s3 := SUMN.p (F := fun c => KCT1 p.toNat P a.toNat b.toNat c) (n1 a.toNat b.toNat) c.toNat
  have s4 := SUMN.p (F := fun d => IND (P a.toNat b.toNat c.toNat d)) (fun d => (IND.p _).1) d.toNat
  have g1 := SUMN.ge (F := fun d => IND (P a' b' c' d)) (fun d => (IND.p _).1) hd'
  have g2 := SUMN.ge (F := fun c => KCT1 p.toNat P a' b' c) (n1 a' b') hc'
  have g3 := SUMN.ge (F := fun b => KCT2 p.toNat P a' b) (n2 a') hb'
  (try dsimp only at g1); (try dsimp only at g2); (try dsimp only at g3); (try dsimp only at n1); (try dsimp only at n2); (try dsimp only at n3); (try dsimp only at s1); (try dsimp only at s2); (try dsimp only at s3); (try dsimp only at s4)
  rw [IND.y hP] at g1
  have g1 : 1 ≤ KCT1 p.toNat P a' b' c' := g1
  have g2 : KCT1 p.toNat P a' b' c' ≤ KCT2 p.toNat P a' b' := g2
  have g3 : KCT2 p.toNat P a' b' ≤ KCT3 p.toNat P a' := g3
  rw [hx]
  unfold cod
  apply Int.not_lt.mp
  intro lt
  rcases Int.lt_trichotomy (a' : Int) a with c1 | c1 | c1
  · have := SUMN.ge (F := fun a => KCT3 p.toNat P a) n3 (n := a.toNat) (i := a') (by omega)
    (try dsimp only at this); omega
  · rw [show a' = a.toNat from by omega] at g1 g2 g3 hP
    rcases Int.lt_trichotomy (b' : Int) b with c2 | c2 | c2
    · have := SUMN.ge (F := fun b => KCT2 p.toNat P a.toNat b) (n2 a.toNat) (n := b.toNat) (i := b') (by omega)
      (try dsimp only at this); omega
    · rw [show b' = b.toNat from by omega] at g1 g2 g3 hP
      rcases Int.lt_trichotomy (c' : Int) c with c3 | c3 | c3
      · have := SUMN.ge (F := fun c => KCT1 p.toNat P a.toNat b.toNat c) (n1 a.toNat b.toNat) (n := c.toNat) (i := c') (by omega)
        (try dsimp only at this); omega
      · rw [show c' = c.toNat from by omega] at hP
        have := SUMN.ge (F := fun d => IND (P a.toNat b.toNat c.toNat d)) (fun d => (IND.p _).1) (n := d.toNat) (i := d') (by omega)
        (try dsimp only at this)
        rw [IND.y hP] at this; omega
      · omega
    · omega
  · omega
/-- rows alike behind the mixing, in other words -/
theorem MTB.lk {I1 I' : IT} {dg nu : Nat} {p D x y X : Int} {a b c d : Int} {f g : Nat → Int} (M : MXE I1 I' nu 40 42 D a b c d p) (hF : ∀ k : Nat, (k : Int) ≤ D → RI I1 nu 40 k = f k) (hf : ∀ k : Nat, (k : Int) ≤ D → 0 ≤ f k) (hG : ∀ k : Nat, (k : Int) ≤ D → RI I' nu 41 k = g k) (hg : ∀ k : Nat, (k : Int) ≤ D → 0 ≤ g k ∧ g k < p) (L : IFF x (RLK I' dg nu 41 42)) (d1 : (I' dg 41).toInt = D) (d2 : (I' dg 42).toInt = D) (hy : y = dnR p a b c d) (h0 : 0 ≤ D) (hp : 0 < p) (ha : 0 ≤ a ∧ a < p) (hb : 0 ≤ b ∧ b < p) (hc : 0 ≤ c ∧ c < p) (hd : 0 ≤ d ∧ d < p) (hx : x = 0 ∨ x = 1) (hX : X = 1) : (y ≠ 0 ∧ x = X) ↔ MTB p D f g a.toNat b.toNat c.toNat d.toNat := by
  have ed : y = dt p a b c d := by rw [hy, dn_eq hp ha.1 hb.1 hc.1 hd.1]
  have row : ∀ k : Nat, (k : Int) ≤ D → (RI I' nu 42 k = g k ↔ PmE p (PmX a b c d f D.toNat k) (g k)) := fun k hk => by
    have m : RI I' nu 42 k = mxS p a b c d D.toNat (RI I1 nu 40) (D.toNat + 1) k := M k hk
    have e1 : mxS p a b c d D.toNat (RI I1 nu 40) (D.toNat + 1) k = mxS p a b c d D.toNat f (D.toNat + 1) k := mxS.cg _ (fun j hj => hF j (by omega))
    rw [m, e1]
    have b0 := mxS.p (p := p) (D := D.toNat) (f := f) (i := k) hp ha.1 hb.1 hc.1 hd.1 (D.toNat + 1) (fun j hj => hf j (by omega))
    have b1 : mxS p a b c d D.toNat f (D.toNat + 1) k < p := by rw [mxS.s]; exact Int.tmod_lt_of_pos _ hp
    have cg := mxS.x (p := p) (a := a) (b := b) (c := c) (d := d) (D := D.toNat) (f := f) (i := k) (by omega)
    exact ⟨fun q => by rw [← q]; exact cg.sy, fun q => (cg.tr q).eq b0 b1 (hg k hk).1 (hg k hk).2⟩
  have lk : RLK I' dg nu 41 42 ↔ ∀ k : Nat, (k : Int) ≤ D → PmE p (PmX a b c d f D.toNat k) (g k) := by
    unfold RLK
    rw [d1, d2]
    exact ⟨fun q k hk => (row k hk).mp (by rw [← q.2 k hk]; exact hG k hk), fun q => ⟨rfl, fun k hk => by rw [hG k hk]; exact ((row k hk).mpr (q k hk)).symm⟩⟩
  unfold MTB
  rw [show ((a.toNat : Nat) : Int) = a from by omega, show ((b.toNat : Nat) : Int) = b from by omega, show ((c.toNat : Nat) : Int) = c from by omega, show ((d.toNat : Nat) : Int) = d from by omega, ← ed, hX]
  refine ⟨fun ⟨q1, q2⟩ => ⟨q1, lk.mp (L.1 q2)⟩, fun ⟨q1, q2⟩ => ⟨q1, ?_⟩⟩
  rcases hx with c0 | c0
  · exact absurd (lk.mpr q2) (L.2 c0)
  · exact c0
theorem MTB.dn {p D y a b c d : Int} {f g : Nat → Int} (hy : y = dnR p a b c d) (h : y = 0) (hp : 0 < p) (ha : 0 ≤ a ∧ a < p) (hb : 0 ≤ b ∧ b < p) (hc : 0 ≤ c ∧ c < p) (hd : 0 ≤ d ∧ d < p) : ¬ MTB p D f g a.toNat b.toNat c.toNat d.toNat := fun q => q.1 (by
  rw [show ((a.toNat : Nat) : Int) = a from by omega, show ((b.toNat : Nat) : Int) = b from by omega, show ((c.toNat : Nat) : Int) = c from by omega, show ((d.toNat : Nat) : Int) = d from by omega, ← dn_eq hp ha.1 hb.1 hc.1 hd.1, ← hy]; exact h)
/-- degree 0, or nought: every table does -/
theorem MNC.all {p : Int} {P : Nat → Nat → Nat → Nat → Prop} {x : Int} (hp : PRM p) (h : MNC p.toNat P x) (e : ∀ a b c d : Nat, a < p.toNat → b < p.toNat → c < p.toNat → d < p.toNat → (P a b c d ↔ dt p a b c d ≠ 0)) : x = 420 := by
  have p0 : 11 ≤ p ∧ p ≤ 19 := by unfold PRM at hp; omega
  have w : P 0 1 1 0 := (e 0 1 1 0 (by omega) (by omega) (by omega) (by omega)).mpr (by rcases hp with h | h | h | h <;> (subst h; decide))
  rcases h with ⟨h1, h2⟩ | ⟨⟨a, b, c, d, ha, hb, hc, hd, hP, hx⟩, h2⟩
  · exact absurd w (h2 0 1 1 0 (by omega) (by omega) (by omega) (by omega))
  · have l := h2 0 1 1 0 (by omega) (by omega) (by omega) (by omega) w
    have n := (e a b c d ha hb hc hd).mp hP
    have c420 : cod 0 1 1 0 = 420 := rfl
    have z1 : ¬ (a = 0 ∧ b = 0) := fun ⟨q1, q2⟩ => n (by subst q1; subst q2; unfold dt; simp)
    have z2 : ¬ (a = 0 ∧ c = 0) := fun ⟨q1, q2⟩ => n (by subst q1; subst q2; unfold dt; simp)
    rw [c420] at l
    rw [hx] at l ⊢
    unfold cod at l ⊢
    omega
theorem PmX.nq {p a b c d : Int} {f : Nat → Int} {n : Nat} (h : ∀ k, k ≤ n → f k = 0) (k : Nat) : PmE p (PmX a b c d f n k) 0 := by
  have e := PmX.e (p := p) (a := a) (b := b) (c := c) (d := d) (a' := 1) (b' := 0) (c' := 0) (d' := 1) (f := f) (g := f)
  have z : ∀ n, (∀ k, k ≤ n → f k = 0) → ∀ k, PmX a b c d f n k = 0 := fun n => by
    induction n with
    | zero => intro h k; show f 0 * PmD k = 0; rw [h 0 (by omega), Int.zero_mul]
    | succ n ih =>
      intro h k
      have i := ih (fun j hj => h j (by omega))
      have q : PmX a b c d f (n + 1) k = 1 * PmW a b (PmX a b c d f n) k + f (n + 1) * PmN c d (n + 1) PmD k := rfl
      have w : PmW a b (PmX a b c d f n) k = 0 := by
        unfold PmW
        rw [i k]
        split
        · omega
        · rw [i (k - 1)]; omega
      rw [q, w, h (n + 1) (by omega)]; omega
  rw [z n h k]; exact PmE.rf
theorem SMX.t {x p D : Int} {f g : Nat → Int} (hp : PRM p) (h : MNC p.toNat (MTB p D f g) x) (h0 : 0 ≤ D) (hf : ∀ k : Nat, (k : Int) ≤ D → 0 ≤ f k ∧ f k < p) (hg : ∀ k : Nat, (k : Int) ≤ D → 0 ≤ g k ∧ g k < p) (nq : ZRL f (D + 1) ↔ ZRL g (D + 1)) : SMX x p D D f g := by
  have p0 : 11 ≤ p ∧ p ≤ 19 := by unfold PRM at hp; omega
  refine ⟨fun q => absurd rfl q, fun _ z => ?_, fun _ _ => h⟩
  have key : ALK f g D → ∀ a b c d : Nat, a < p.toNat → b < p.toNat → c < p.toNat → d < p.toNat → (MTB p D f g a b c d ↔ dt p a b c d ≠ 0) := fun al a b c d _ _ _ _ => by
    refine ⟨fun q => q.1, fun q => ⟨q, fun k hk => ?_⟩⟩
    rcases z with z | z
    · subst z
      have e : k = 0 := by omega
      subst e
      rw [← al 0 (by omega)]
      show PmE p (f 0 * PmD 0) (f 0)
      rw [show PmD 0 = 1 from rfl, Int.mul_one]; exact PmE.rf
    · rw [nq.mp z k (by omega)]
      exact PmX.nq (fun j hj => z j (by omega)) k
  refine ⟨fun al => h.all hp (key al), fun al => ?_⟩
  rcases h with ⟨h1, -⟩ | ⟨⟨a, b, c, d, ha, hb, hc, hd, hP, hx⟩, -⟩
  · exact h1
  · exfalso
    refine al (fun k hk => ?_)
    rcases z with z | z
    · subst z
      have e : k = 0 := by omega
      subst e
      have q : PmE p (f 0 * PmD 0) (g 0) := hP.2 0 (by omega)
      rw [show PmD 0 = 1 from rfl, Int.mul_one] at q
      exact q.eq (hf 0 (by omega)).1 (hf 0 (by omega)).2 (hg 0 (by omega)).1 (hg 0 (by omega)).2
    · rw [z k (by omega), nq.mp z k (by omega)]
theorem SMX.q0 {p D : Int} {f g : Nat → Int} {a b c d : Nat} (hp : PRM p) (h : MTB p D f g a b c d) (zg : ZRL g (D + 1)) (hf : ∀ k : Nat, (k : Int) ≤ D → 0 ≤ f k ∧ f k < p) : ZRL f (D + 1) := fun k hk => by
  have p0 : 0 < p := by unfold PRM at hp; omega
  obtain ⟨i, hi⟩ := PRM.inv hp (dt.b p0) h.1
  have ed : PmE p (dt p a b c d) ((a : Int) * d - b * c) := (PmE.em _).tr (PmE.sbt ((PmE.em _).ml (PmE.em _)) ((PmE.em _).ml (PmE.em _)))
  have hi : PmE p (((a : Int) * d - b * c) * i) 1 := (ed.sy.ml PmE.rf).tr hi
  have bk := PmX.back (p := p) (s := a) (t := b) (u := c) (v := d) (a := d * i) (b := -(b * i)) (c := -(c * i)) (d := a * i) (f := f) (g := g) (n := D.toNat)
    (by rw [show (a : Int) * (d * i) + b * -(c * i) = ((a : Int) * d - b * c) * i from by grind]; exact hi)
    (by rw [show (a : Int) * -(b * i) + b * (a * i) = 0 from by grind]; exact PmE.rf)
    (by rw [show (c : Int) * (d * i) + d * -(c * i) = 0 from by grind]; exact PmE.rf)
    (by rw [show (c : Int) * -(b * i) + d * (a * i) = ((a : Int) * d - b * c) * i from by grind]; exact hi)
    (fun k hk => (h.2 k (by omega)).sy) (k := k) (by omega)
  have z : PmE p (f k) 0 := bk.sy.tr (PmX.nq (fun j hj => zg j (by omega)) k)
  exact z.eq (hf k (by omega)).1 (hf k (by omega)).2 (Int.le_refl 0) p0
theorem SMX.q {x p D : Int} {f g : Nat → Int} (hp : PRM p) (h : x = -1) (nq : ¬ (ZRL f (D + 1) ↔ ZRL g (D + 1))) (hf : ∀ k : Nat, (k : Int) ≤ D → 0 ≤ f k ∧ f k < p) : SMX x p D D f g := by
  have al : ¬ ALK f g D := fun q => nq ⟨fun z => z.cg (fun k hk => q k (by omega)), fun z => z.cg (fun k hk => (q k (by omega)).symm)⟩
  refine ⟨fun _ => h, fun _ _ => ⟨fun q => absurd q al, fun _ => h⟩, fun _ z => Or.inl ⟨h, fun a b c d ha hb hc hd hP => ?_⟩⟩
  have zf : ¬ ZRL f (D + 1) := fun q => z (Or.inr q)
  have zg : ZRL g (D + 1) := Classical.byContradiction (fun q => nq ⟨fun y => absurd y zf, fun y => absurd y q⟩)
  exact zf (SMX.q0 hp hP zg hf)
theorem SMX.fin {x p D1 D2 : Int} {f g f' g' : Nat → Int} (h : SMX x p D1 D1 f g) (e : D1 = D2) (hf : ∀ k : Nat, (k : Int) ≤ D1 → f k = f' k) (hg : ∀ k : Nat, (k : Int) ≤ D1 → g k = g' k) (h0 : 0 ≤ D1) : SMX x p D1 D2 f' g' := by subst e; exact h.cg hf hg h0
theorem NQP {x y : Int} {P Q : Prop} (h1 : IFF x P) (h2 : IFF y Q) (hx : x = 0 ∨ x = 1) (hy : y = 0 ∨ y = 1) : x = y ↔ (P ↔ Q) := by
  rcases hx with a | a <;> rcases hy with b | b
  · exact ⟨fun _ => ⟨fun q => absurd q (h1.2 a), fun q => absurd q (h2.2 b)⟩, fun _ => by omega⟩
  · exact ⟨fun q => by omega, fun e => absurd (e.mpr (h2.1 b)) (h1.2 a)⟩
  · exact ⟨fun q => by omega, fun e => absurd (e.mp (h1.1 a)) (h2.2 b)⟩
  · exact ⟨fun _ => ⟨fun _ => h2.1 b, fun _ => h1.1 a⟩, fun _ => by omega⟩
theorem NQI {I : IT} {dg nu r : Nat} {x D : Int} (h : IFF x (NQA I dg nu r)) (e : (I dg r).toInt = D) : IFF x (ZRL (RI I nu r) (D + 1)) := ⟨fun q => NQA.z (h.1 q) e, fun q => NQA.n (h.2 q) e⟩
theorem RWF.b {I : IT} {nu r : Nat} {p D : Int} {f : Nat → Int} (r1 : RWF I nu r D f) (c : ∀ k : Nat, (k : Int) ≤ D → 0 ≤ f k ∧ f k < p) : ∀ k : Nat, (k : Int) ≤ D → 0 ≤ RI I nu r k ∧ RI I nu r k < p := fun k hk => by rw [r1 k hk]; exact c k hk
/-- rows told apart by one being nought -/
theorem SMX.ta {I : IT} {dg nu : Nat} {x u v p D1 D2 : Int} {f g : Nat → Int} (hp : PRM p) (N1 : IFF u (NQA I dg nu 40)) (N2 : IFF v (NQA I dg nu 41)) (hu : u = 0 ∨ u = 1) (hv : v = 0 ∨ v = 1) (e40 : (I dg 40).toInt = D1) (e41 : (I dg 41).toInt = D1) (r1 : RWF I nu 40 D1 f) (r2 : RWF I nu 41 D2 g) (c1 : ∀ k : Nat, (k : Int) ≤ D1 → 0 ≤ f k ∧ f k < p) (h0 : 0 ≤ D1) (eD : D1 = D2) (ne : u ≠ v) (hx : x = -1) : SMX x p D1 D2 f g := by
  have nq := NQP (NQI N1 e40) (NQI N2 e41) hu hv
  exact SMX.fin (SMX.q hp hx (fun z => ne (nq.mpr z)) (r1.b c1)) eD r1 (fun k hk => r2 k (by omega)) h0
theorem SMX.tb {I : IT} {dg nu : Nat} {x u v p D1 D2 D3 : Int} {f g : Nat → Int} (hp : PRM p) (N1 : IFF u (NQA I dg nu 40)) (N2 : IFF v (NQA I dg nu 41)) (hu : u = 0 ∨ u = 1) (hv : v = 0 ∨ v = 1) (e40 : (I dg 40).toInt = D1) (e41 : (I dg 41).toInt = D1) (r1 : RWF I nu 40 D1 f) (r2 : RWF I nu 41 D2 g) (c1 : ∀ k : Nat, (k : Int) ≤ D1 → 0 ≤ f k ∧ f k < p) (c2 : ∀ k : Nat, (k : Int) ≤ D2 → 0 ≤ g k ∧ g k < p) (h0 : 0 ≤ D1) (eD : D1 = D2) (eq : u = v) (m : MNC p.toNat (MTB p D3 (RI I nu 40) (RI I nu 41)) x) (e3 : D3 = D1) : SMX x p D1 D2 f g := by
  subst e3
  have nq := NQP (NQI N1 e40) (NQI N2 e41) hu hv
  exact SMX.fin (SMX.t hp m h0 (r1.b c1) (fun k hk => (r2.b c2) k (by omega)) (nq.mp eq)) eD r1 (fun k hk => r2 k (by omega)) h0
theorem FNX.ka {I : IT} {dg nu : Nat} {x u p D : Int} {f : Nat → Int} (N1 : IFF u (NQA I dg nu 40)) (e40 : (I dg 40).toInt = D) (r1 : RWF I nu 40 D f) (hu : u = 1 ∨ D = 0) (hx : x = TAB p) : FNX x p D D f f := by
  have z0 : D = 0 ∨ ZRL f (D + 1) := by
    rcases hu with c | c
    · exact Or.inr ((NQA.z (N1.1 c) e40).cg (fun k hk => r1 k (by omega)))
    · exact Or.inl c
  exact ⟨fun q => absurd rfl q, fun _ _ => ⟨fun _ => hx, fun q => absurd (fun k _ => rfl) q⟩, fun _ z => absurd z0 z⟩
theorem FNX.kb {I : IT} {dg nu : Nat} {x u p D D3 : Int} {f : Nat → Int} (N1 : IFF u (NQA I dg nu 40)) (e40 : (I dg 40).toInt = D) (r1 : RWF I nu 40 D f) (r2 : RWF I nu 41 D f) (hu : u = 0) (hD : D ≠ 0) (m : x = CN4 p.toNat (MTB p D3 (RI I nu 40) (RI I nu 41))) (e3 : D3 = D) (h0 : 0 ≤ D) : FNX x p D D f f := by
  subst e3
  have z0 : ¬ (D3 = 0 ∨ ZRL f (D3 + 1)) := by
    rintro (c | c)
    · exact hD c
    · exact NQA.n (N1.2 hu) e40 (c.cg (fun k hk => (r1 k (by omega)).symm))
  exact ⟨fun q => absurd rfl q, fun _ z => absurd z z0, fun _ _ => m.trans (CN4.cg (fun a b c d _ _ _ _ => MTB.cgi r1 r2 h0 a b c d))⟩
theorem SMB.i {p D : Int} {f : Nat → Int} (hp : PRM p) : SMB p D D f f := by
  have p0 : 11 ≤ p ∧ p ≤ 19 := by unfold PRM at hp; omega
  refine ⟨rfl, ?_⟩
  by_cases z : D = 0 ∨ ZRL f (D + 1)
  · exact Or.inl ⟨z, fun k _ => rfl⟩
  · refine Or.inr ⟨z, 1, 0, 0, 1, by omega, by omega, by omega, by omega, by rcases hp with h | h | h | h <;> (subst h; decide), fun k hk => ?_⟩
    have e : PmX ((1 : Nat) : Int) ((0 : Nat) : Int) ((0 : Nat) : Int) ((1 : Nat) : Int) f D.toNat k = f k := (PmX.i f D.toNat k).trans (if_pos (by omega))
    rw [e]; exact PmE.rf
theorem FNX.pos {x p D : Int} {f : Nat → Int} (h : FNX x p D D f f) (hp : PRM p) : 1 ≤ x := (h.b hp).mpr (SMB.i hp)
theorem IMX.sq2 {w x y : Int32} {p : Int} (m : IMX w x y) (ex : x.toInt = p) (ey : y.toInt = p) (hp : PRM p) : w.toInt = p * p ∧ 121 ≤ w.toInt ∧ w.toInt ≤ 361 := by
  have e : x = y := Int32.toInt_inj.mp (by omega)
  subst e; subst ex
  exact IMX.sq m hp
theorem TAB.of2 {w a b u v q : Int32} {p : Int} (m : IMX w a b) (hu : u.toInt = p * p) (hv : v.toInt = p * p) (ha : a.toInt = u.toInt - 1) (hb : b.toInt = v.toInt - q.toInt) (hq : q.toInt = p) (hp : PRM p) : w.toInt = TAB p := by
  subst hq
  exact TAB.of m hu hv ha hb hp
theorem VLE.at {I1 I2 : IT} {vd : Nat} {p D : Int} {f : Nat → Int} {V : Nat → Int32} {j x a c : Int32} (h : VLE I1 vd p f D) (e1 : I1 vd = V) (e2 : I2 vd = V) (o : I2 vd j.toNatClampNeg = x) (hj : j.toInt = 19 * a.toInt + c.toInt) (ha : 0 ≤ a.toInt ∧ a.toInt < p) (hc : 0 ≤ c.toInt ∧ c.toInt < p) (hp : 0 < p) (hD : 0 ≤ D) (hf : ∀ k : Nat, (k : Int) ≤ D → 0 ≤ f k) : x.toInt = EV p f D a.toInt c.toInt := by
  have n0 := ncz (x := j) (by omega)
  have na := ncz ha.1
  have nc := ncz hc.1
  have v := VAD.ev (h a.toNatClampNeg c.toNatClampNeg (by omega) (by omega)) hp (by omega) (by omega) hD hf
  rw [show 19 * a.toNatClampNeg + c.toNatClampNeg = j.toNatClampNeg from by omega, e1, ← e2, o, na, nc] at v
  exact v
theorem RI.hi {I : IT} {nu : Nat} {l z : Int32} {D : Int} (h : l.toInt = (I nu (41 * 41 + z.toNatClampNeg)).toInt) (hz : z.toInt = D) (h0 : 0 ≤ D) : l.toInt = RI I nu 41 D.toNat := by
  have n0 := ncz (x := z) (by omega)
  rw [h, show z.toNatClampNeg = D.toNat from by omega]; rfl
theorem MTB.nlo {p D x l A C : Int} {f g : Nat → Int} {a b c d : Nat} (hx : x = EV p f D A C) (hl : l = g 0) (hg : 0 ≤ g 0 ∧ g 0 < p) (ne : x ≠ l) (eA : (a : Int) = A) (eC : (c : Int) = C) (hD : 0 ≤ D) : ¬ MTB p D f g a b c d := fun q => ne (by rw [hx, hl, ← eA, ← eC]; exact q.lo hD hg)
theorem MTB.nhi {p D x l B E : Int} {f g : Nat → Int} {a b c d : Nat} (hx : x = EV p f D B E) (hl : l = g D.toNat) (hg : 0 ≤ g D.toNat ∧ g D.toNat < p) (ne : x ≠ l) (eB : (b : Int) = B) (eE : (d : Int) = E) (hD : 0 ≤ D) : ¬ MTB p D f g a b c d := fun q => ne (by rw [hx, hl, ← eB, ← eE]; exact q.hi hD hg)
theorem MTB.ndt {p D y A B C E a b c d : Int} {f g : Nat → Int} (hy : DTN y A B C E p) (h : y = 0) (eA : A = a) (eB : B = b) (eC : C = c) (eE : E = d) (hp : 0 < p) (ha : 0 ≤ a ∧ a < p) (hb : 0 ≤ b ∧ b < p) (hc : 0 ≤ c ∧ c < p) (hd : 0 ≤ d ∧ d < p) : ¬ MTB p D f g a.toNat b.toNat c.toNat d.toNat := by
  subst eA; subst eB; subst eC; subst eE
  exact MTB.dn (hy : y = dnR p A B C E) h hp ha hb hc hd
theorem MTB.lke {I I1 I' : IT} {dg nu : Nat} {p D D' x y A B C E A' B' C' E' a b c d : Int} (M : MXE I1 I' nu 40 42 D' A B C E p) (s1 : SMR I I1 nu 40) (s2 : SMR I I' nu 41) (cf : RCN I nu 40 p D) (cg : RCN I nu 41 p D) (L : IFF x (RLK I' dg nu 41 42)) (d1 : (I' dg 41).toInt = D) (d2 : (I' dg 42).toInt = D) (hy : DTN y A' B' C' E' p) (eD : D' = D) (eA : A = a) (eB : B = b) (eC : C = c) (eE : E = d) (eA' : A' = a) (eB' : B' = b) (eC' : C' = c) (eE' : E' = d) (h0 : 0 ≤ D) (h40 : D ≤ 40) (hp : 0 < p) (ha : 0 ≤ a ∧ a < p) (hb : 0 ≤ b ∧ b < p) (hc : 0 ≤ c ∧ c < p) (hd : 0 ≤ d ∧ d < p) (hx : x = 0 ∨ x = 1) : (y ≠ 0 ∧ x = 1) ↔ MTB p D (RI I nu 40) (RI I nu 41) a.toNat b.toNat c.toNat d.toNat := by
  subst eD; subst eA; subst eB; subst eC; subst eE; subst eA'; subst eB'; subst eC'; subst eE'
  have sm : ∀ {J : IT} {r : Nat}, SMR I J nu r → ∀ k : Nat, (k : Int) ≤ D' → RI J nu r k = RI I nu r k := fun s k hk => by
    show (_ : Int32).toInt = (_ : Int32).toInt
    rw [s k (by omega)]
  exact MTB.lk M (sm s1) (fun k hk => (cf k hk).1) (sm s2) cg L d1 d2 hy h0 hp ha hb hc hd hx rfl
theorem CTL.qb {P : Nat → Nat → Nat → Nat → Prop} {f n p a b : Int} (h : CTL P f n p a 0 0 0) (e : b = 0) : CTL P f n p a b 0 0 := by subst e; exact h
theorem CTL.qc {P : Nat → Nat → Nat → Nat → Prop} {f n p a b c : Int} (h : CTL P f n p a b 0 0) (e : c = 0) : CTL P f n p a b c 0 := by subst e; exact h
theorem CTL.qd {P : Nat → Nat → Nat → Nat → Prop} {f n p a b c d : Int} (h : CTL P f n p a b c 0) (e : d = 0) : CTL P f n p a b c d := by subst e; exact h
theorem MNC.eq {p : Nat} {P : Nat → Nat → Nat → Nat → Prop} {x y : Int} (h : MNC p P x) (e : y = x) : MNC p P y := by subst e; exact h
theorem CTL.h {P : Nat → Nat → Nat → Nat → Prop} {f n p a x : Int} (h : CTL P f n p a 0 0 0) (ha : a = p) (hx : f = 1 → x = -1) : f = 1 → MNC p.toNat P x := fun q => ((h.e ha).2 q).eq (hx q)
theorem CTL.g {P : Nat → Nat → Nat → Nat → Prop} {f n p a x : Int} (h : CTL P f n p a 0 0 0) (ha : a = p) (hx : f = 0 → x = n) : f = 0 → x = CN4 p.toNat P := fun q => (hx q).trans ((h.e ha).1 (by omega))
theorem a_X12_allTables_x {d : Nat} {T N : Nat → Nat} {I : IT} {L : LT} {R : RT} {A : Nat → Prop} {r0 : Nat} (hI : IM R r0 I) (H_r0 : (h_MD T N R A) r0) (hp0 : ∀ a1, R r0 1 = some a1 → PRM (I a1 0).toInt) : Ex (d + 2) 276 [.ref r0] (T, N, I, L, R) 0 0 (pI T N R (fun x9 I9 L9 => (∀ a1, R r0 1 = some a1 → x9.toInt = TAB (I a1 0).toInt) ∧ (I = I9 ∧ L = L9))) := by
  refine ⟨_, rfl, Nat.le_of_ble_eq_true rfl, fun V C S => ?_⟩
  show V 0 [(0, .ref r0)] [] (T, N, I, L, R) 0 0
  obtain ⟨T_r0, A_r0, ⟨r0_1, R_r0_1, H_r0_1⟩, ⟨r0_2, R_r0_2, H_r0_2⟩, ⟨r0_4, R_r0_4, H_r0_4⟩, ⟨r0_5, R_r0_5, H_r0_5⟩, ⟨r0_10, R_r0_10, H_r0_10⟩, ⟨r0_18, R_r0_18, H_r0_18⟩, ⟨r0_20, R_r0_20, H_r0_20⟩, ⟨r0_21, R_r0_21, H_r0_21⟩, ⟨r0_22, R_r0_22, H_r0_22⟩, ⟨r0_23, R_r0_23, H_r0_23⟩, ⟨r0_25, R_r0_25, H_r0_25⟩, ⟨r0_26, R_r0_26, H_r0_26⟩, ⟨r0_27, R_r0_27, H_r0_27⟩, ⟨r0_28, R_r0_28, H_r0_28⟩, ⟨r0_34, R_r0_34, H_r0_34⟩, J_r0, Y_r0⟩ := id H_r0
  have G_r0 : mF T R r0 := ⟨J_r0, Y_r0, T_r0⟩
  obtain ⟨w_r0_1_0, k0_r0_1_0⟩ : ∃ x, I r0_1 0 = x := ⟨_, rfl⟩
  have gw_r0_1_0 := rg w_r0_1_0
  have ow_r0_1_0 := IM.pi hI R_r0_1 k0_r0_1_0
  have hp0 := hp0 r0_1 R_r0_1
  try simp only [k0_r0_1_0] at hp0
  try simp only [k0_r0_1_0] at hp0
  refine k_aload_n C rfl rfl rfl ?_
  refine c_VI C (a_X12_p hI H_r0) rfl rfl rfl rfl rfl ⟨_, rfl, rfl, T_r0, Nat.le_of_ble_eq_true rfl⟩ rfl rfl (Nat.le_of_ble_eq_true rfl) (Nat.le_of_ble_eq_true rfl) (Nat.le_of_ble_eq_true rfl) ?_
  rintro x1 _ _ ⟨o0x1, o1x1, p0x1, rfl, rfl⟩
  have p0x1 := p0x1 r0_1 R_r0_1
  have gx1 := rg x1
  try simp only [k0_r0_1_0, k0_r0_1_0] at p0x1
  try have q0x1 := congrArg Int32.toInt p0x1
  refine k_aload_n C rfl rfl rfl ?_
  refine c_VI C (a_X12_p hI H_r0) rfl rfl rfl rfl rfl ⟨_, rfl, rfl, T_r0, Nat.le_of_ble_eq_true rfl⟩ rfl rfl (Nat.le_of_ble_eq_true rfl) (Nat.le_of_ble_eq_true rfl) (Nat.le_of_ble_eq_true rfl) ?_
  rintro x2 _ _ ⟨o0x2, o1x2, p0x2, rfl, rfl⟩
  have p0x2 := p0x2 r0_1 R_r0_1
  have gx2 := rg x2
  try simp only [k0_r0_1_0, k0_r0_1_0] at p0x2
  try have q0x2 := congrArg Int32.toInt p0x2
  refine z_imulE C rfl rfl (fun x3 ex3 => ?_)
  have gx3 := rg x3
  have m8 := ex3
  have t8 := IMX.sq2 (p := w_r0_1_0.toInt) m8 (by omega) (by omega) hp0
  refine z_iconst C (z := 1) rfl rfl rfl (fun x4 ex4 => ?_)
  refine z_isub C rfl rfl ⟨by omega, by omega⟩ (fun x5 ex5 => ?_)
  refine k_aload_n C rfl rfl rfl ?_
  refine c_VI C (a_X12_p hI H_r0) rfl rfl rfl rfl rfl ⟨_, rfl, rfl, T_r0, Nat.le_of_ble_eq_true rfl⟩ rfl rfl (Nat.le_of_ble_eq_true rfl) (Nat.le_of_ble_eq_true rfl) (Nat.le_of_ble_eq_true rfl) ?_
  rintro x6 _ _ ⟨o0x6, o1x6, p0x6, rfl, rfl⟩
  have p0x6 := p0x6 r0_1 R_r0_1
  have gx6 := rg x6
  try simp only [k0_r0_1_0, k0_r0_1_0] at p0x6
  try have q0x6 := congrArg Int32.toInt p0x6
  refine k_aload_n C rfl rfl rfl ?_
  refine c_VI C (a_X12_p hI H_r0) rfl rfl rfl rfl rfl ⟨_, rfl, rfl, T_r0, Nat.le_of_ble_eq_true rfl⟩ rfl rfl (Nat.le_of_ble_eq_true rfl) (Nat.le_of_ble_eq_true rfl) (Nat.le_of_ble_eq_true rfl) ?_
  rintro x7 _ _ ⟨o0x7, o1x7, p0x7, rfl, rfl⟩
  have p0x7 := p0x7 r0_1 R_r0_1
  have gx7 := rg x7
  try simp only [k0_r0_1_0, k0_r0_1_0] at p0x7
  try have q0x7 := congrArg Int32.toInt p0x7
  refine z_imulE C rfl rfl (fun x8 ex8 => ?_)
  have gx8 := rg x8
  have m19 := ex8
  have t19 := IMX.sq2 (p := w_r0_1_0.toInt) m19 (by omega) (by omega) hp0
  refine k_aload_n C rfl rfl rfl ?_
  refine c_VI C (a_X12_p hI H_r0) rfl rfl rfl rfl rfl ⟨_, rfl, rfl, T_r0, Nat.le_of_ble_eq_true rfl⟩ rfl rfl (Nat.le_of_ble_eq_true rfl) (Nat.le_of_ble_eq_true rfl) (Nat.le_of_ble_eq_true rfl) ?_
  rintro x9 _ _ ⟨o0x9, o1x9, p0x9, rfl, rfl⟩
  have p0x9 := p0x9 r0_1 R_r0_1
  have gx9 := rg x9
  try simp only [k0_r0_1_0, k0_r0_1_0] at p0x9
  try have q0x9 := congrArg Int32.toInt p0x9
  refine z_isub C rfl rfl ⟨by omega, by omega⟩ (fun x10 ex10 => ?_)
  refine z_imulE C rfl rfl (fun x11 ex11 => ?_)
  have gx11 := rg x11
  have m25 := ex11
  exact k_iret C rfl (Or.inl rfl) (Nat.le_of_ble_eq_true rfl) (Nat.le_of_ble_eq_true rfl) ⟨_, _, _, rfl, rfl, fun a1 h1 => by cases (R_r0_1.symm.trans h1); simp only [k0_r0_1_0]; exact TAB.of2 m25 t8.1 t19.1 (by omega) (by omega) (by omega) hp0, rfl, rfl⟩

set_option maxHeartbeats 16000000 in
theorem a_X12_tried_x {d : Nat} {T N : Nat → Nat} {I : IT} {L : LT} {R : RT} {A : Nat → Prop} {r0 : Nat} {n1 : Int32} (hI : IM R r0 I) (H_r0 : (h_MD T N R A) r0) (b0_n1 : 0 ≤ n1.toInt) (b1_n1 : n1.toInt ≤ 1) (hp0 : ∀ a4, R r0 4 = some a4 → (I a4 40).toInt = (I a4 41).toInt) (hp1 : ∀ a1 a4 a5, R r0 1 = some a1 → R r0 4 = some a4 → R r0 5 = some a5 → RCN I a5 40 (I a1 0).toInt (I a4 40).toInt) (hp2 : ∀ a1 a4 a5, R r0 1 = some a1 → R r0 4 = some a4 → R r0 5 = some a5 → RCN I a5 41 (I a1 0).toInt (I a4 40).toInt) : Ex (d + 6) 273 [.ref r0, .int n1] (T, N, I, L, R) 0 0 (pI T N R (fun x9 I9 L9 => (∀ a1 a4 a5, R r0 1 = some a1 → R r0 4 = some a4 → R r0 5 = some a5 → n1.toInt = 1 → MNC (I a1 0).toInt.toNat (MTB (I a1 0).toInt (I a4 40).toInt (RI I a5 40) (RI I a5 41)) x9.toInt) ∧ (∀ a1 a4 a5, R r0 1 = some a1 → R r0 4 = some a4 → R r0 5 = some a5 → n1.toInt = 0 → x9.toInt = CN4 (I a1 0).toInt.toNat (MTB (I a1 0).toInt (I a4 40).toInt (RI I a5 40) (RI I a5 41))) ∧ (IM R r0 I9 ∧ CM A R r0 [6, 7, 8, 9] [4, 5, 25] I L I9 L9))) := by
  refine ⟨_, rfl, Nat.le_of_ble_eq_true rfl, fun V C S => ?_⟩
  show V 0 [(0, .ref r0), (1, .int n1)] [] (T, N, I, L, R) 0 0
  have gn1 := rg n1
  obtain ⟨T_r0, A_r0, ⟨r0_1, R_r0_1, H_r0_1⟩, ⟨r0_2, R_r0_2, H_r0_2⟩, ⟨r0_4, R_r0_4, H_r0_4⟩, ⟨r0_5, R_r0_5, H_r0_5⟩, ⟨r0_10, R_r0_10, H_r0_10⟩, ⟨r0_18, R_r0_18, H_r0_18⟩, ⟨r0_20, R_r0_20, H_r0_20⟩, ⟨r0_21, R_r0_21, H_r0_21⟩, ⟨r0_22, R_r0_22, H_r0_22⟩, ⟨r0_23, R_r0_23, H_r0_23⟩, ⟨r0_25, R_r0_25, H_r0_25⟩, ⟨r0_26, R_r0_26, H_r0_26⟩, ⟨r0_27, R_r0_27, H_r0_27⟩, ⟨r0_28, R_r0_28, H_r0_28⟩, ⟨r0_34, R_r0_34, H_r0_34⟩, J_r0, Y_r0⟩ := id H_r0
  have G_r0 : mF T R r0 := ⟨J_r0, Y_r0, T_r0⟩
  obtain ⟨w_r0_4_40, k0_r0_4_40⟩ : ∃ x, I r0_4 40 = x := ⟨_, rfl⟩
  have gw_r0_4_40 := rg w_r0_4_40
  have ow_r0_4_40 := IM.dgR hI R_r0_4 k0_r0_4_40
  obtain ⟨w_r0_4_41, k0_r0_4_41⟩ : ∃ x, I r0_4 41 = x := ⟨_, rfl⟩
  have gw_r0_4_41 := rg w_r0_4_41
  have ow_r0_4_41 := IM.dgR hI R_r0_4 k0_r0_4_41
  obtain ⟨w_r0_1_0, k0_r0_1_0⟩ : ∃ x, I r0_1 0 = x := ⟨_, rfl⟩
  have gw_r0_1_0 := rg w_r0_1_0
  have ow_r0_1_0 := IM.pi hI R_r0_1 k0_r0_1_0
  have hp0 := hp0 r0_4 R_r0_4
  have hp1 := hp1 r0_1 r0_4 r0_5 R_r0_1 R_r0_4 R_r0_5
  have hp2 := hp2 r0_1 r0_4 r0_5 R_r0_1 R_r0_4 R_r0_5
  try simp only [k0_r0_4_40, k0_r0_4_41, k0_r0_1_0] at hp0
  try simp only [k0_r0_4_40, k0_r0_4_41, k0_r0_1_0] at hp1
  try simp only [k0_r0_4_40, k0_r0_4_41, k0_r0_1_0] at hp2
  try simp only [k0_r0_4_40, k0_r0_4_41] at hp0
  try simp only [k0_r0_1_0, k0_r0_4_40] at hp1
  try simp only [k0_r0_1_0, k0_r0_4_40] at hp2
  have hF0 : ∀ k : Nat, (k : Int) ≤ w_r0_4_40.toInt → 0 ≤ (RI I r0_5 40) k := fun k hk => (hp1 k hk).1
  have hgl : 0 ≤ (RI I r0_5 41) 0 ∧ (RI I r0_5 41) 0 < w_r0_1_0.toInt := hp2 0 (by omega)
  have hgh : 0 ≤ (RI I r0_5 41) w_r0_4_40.toInt.toNat ∧ (RI I r0_5 41) w_r0_4_40.toInt.toNat < w_r0_1_0.toInt := hp2 _ (by omega)
  refine z_iconst C (z := 0) rfl rfl rfl (fun x1 ex1 => ?_)
  refine k_istore_n C (lw := [(2, .int x1), (0, .ref r0), (1, .int n1)]) rfl rfl (Nat.le_of_ble_eq_true rfl) rfl ?_
  refine k_aload_n C rfl rfl rfl ?_
  refine z_bipush C (z := 40) rfl rfl rfl (fun x2 ex2 => ?_)
  have q3 : x2.toNatClampNeg = 40 := nck (by omega)
  refine c_VV C (a_X12_values_e hI H_r0 (by omega) (by omega)) rfl rfl rfl rfl rfl ⟨_, rfl, rfl, T_r0, Nat.le_of_ble_eq_true rfl⟩ rfl rfl (Nat.le_of_ble_eq_true rfl) (Nat.le_of_ble_eq_true rfl) (Nat.le_of_ble_eq_true rfl) ?_
  rintro I5 L6 ⟨p0v4, hI5, S7⟩
  have p0v4 := p0v4 r0_1 r0_4 r0_5 r0_25 R_r0_1 R_r0_4 R_r0_5 R_r0_25
  have e8 := CM.j S7 R_r0_4 (by decide) k0_r0_4_40
  have e9 := CM.j S7 R_r0_4 (by decide) k0_r0_4_41
  have e10 := CM.j S7 R_r0_1 (by decide) k0_r0_1_0
  obtain ⟨x11, e12⟩ : ∃ x, I5 r0_25 19 = x := ⟨_, rfl⟩
  have gx11 := rg x11
  obtain ⟨x13, e14⟩ : ∃ x, I5 r0_25 1 = x := ⟨_, rfl⟩
  have gx13 := rg x13
  try simp only [q3, k0_r0_4_40, k0_r0_4_41, k0_r0_1_0, e12, e14] at p0v4
  try have q0v4 := congrArg Int32.toInt p0v4
  have hVL := p0v4
  have hV5 := CM.j0 S7 R_r0_5 (by decide)
  obtain ⟨VA, eVA⟩ : ∃ V : Nat → Int32, I5 r0_25 = V := ⟨_, rfl⟩
  refine k_aload_n C rfl rfl rfl ?_
  refine z_bipush C (z := 41) rfl rfl rfl (fun x15 ex15 => ?_)
  refine z_iconst C (z := 0) rfl rfl rfl (fun x16 ex16 => ?_)
  have q17 : x15.toNatClampNeg = 41 := nck (by omega)
  have q18 : x16.toNatClampNeg = 0 := nck (by omega)
  refine c_VI C (a_X12_of hI5 H_r0 (by omega) (by omega) (by omega) (by omega)) rfl rfl rfl rfl rfl ⟨_, rfl, rfl, T_r0, Nat.le_of_ble_eq_true rfl⟩ rfl rfl (Nat.le_of_ble_eq_true rfl) (Nat.le_of_ble_eq_true rfl) (Nat.le_of_ble_eq_true rfl) ?_
  rintro x19 _ _ ⟨o0x19, o1x19, p0x19, rfl, rfl⟩
  have p0x19 := p0x19 r0_5 R_r0_5
  have gx19 := rg x19
  try simp only [q17, q18, e8, e9, e10, e12, e14] at p0x19
  try have q0x19 := congrArg Int32.toInt p0x19
  have hlow := p0x19
  rw [hV5] at hlow
  refine k_istore_n C (lw := [(3, .int x19), (2, .int x1), (0, .ref r0), (1, .int n1)]) rfl rfl (Nat.le_of_ble_eq_true rfl) rfl ?_
  refine k_aload_n C rfl rfl rfl ?_
  refine z_bipush C (z := 41) rfl rfl rfl (fun x20 ex20 => ?_)
  refine k_aload_n C rfl rfl rfl ?_
  refine g_R C rfl rfl rfl T_r0 rfl R_r0_4 ?_
  refine z_bipush C (z := 41) rfl rfl rfl (fun x21 ex21 => ?_)
  obtain ⟨T_r0_4, N_r0_4, A_r0_4⟩ := id H_r0_4
  refine a_I C rfl rfl T_r0_4 (by rw [N_r0_4]; exact vpi (by omega) (by omega)) ((congrArg (I5 r0_4) (nck (n := 41) (by omega))).trans e9) ?_
  have q22 : x20.toNatClampNeg = 41 := nck (by omega)
  refine c_VI C (a_X12_of hI5 H_r0 (by omega) (by omega) (by omega) (by omega)) rfl rfl rfl rfl rfl ⟨_, rfl, rfl, T_r0, Nat.le_of_ble_eq_true rfl⟩ rfl rfl (Nat.le_of_ble_eq_true rfl) (Nat.le_of_ble_eq_true rfl) (Nat.le_of_ble_eq_true rfl) ?_
  rintro x23 _ _ ⟨o0x23, o1x23, p0x23, rfl, rfl⟩
  have p0x23 := p0x23 r0_5 R_r0_5
  have gx23 := rg x23
  try simp only [q22, e8, e9, e10, e12, e14] at p0x23
  try have q0x23 := congrArg Int32.toInt p0x23
  have hhigh := p0x23
  rw [hV5] at hhigh
  have hhi2 := RI.hi (D := w_r0_4_40.toInt) hhigh (by omega) (by omega)
  refine k_istore C (lw := [(4, .int x23), (3, .int x19), (2, .int x1), (0, .ref r0), (1, .int n1)]) rfl rfl (Nat.le_of_ble_eq_true rfl) rfl ?_
  refine z_iconst C (z := 0) rfl rfl rfl (fun x24 ex24 => ?_)
  have J25 : ∀ (nn26 : Nat) (I27 : IT) (L28 : LT) (x29 : Int32) (x32 : Int32), ((19 - x32.toInt).toNat = nn26) → (IM R r0 I27) → (CM A R r0 [6, 7, 8, 9] [4, 5] I5 L6 I27 L28) → (∀ r : Nat, r ≠ 42 → r ≠ 45 → I27 r0_4 r = I5 r0_4 r) → (∀ r : Nat, (r < 41 * 42 ∨ 41 * 42 + 41 ≤ r) → (r < 41 * 45 ∨ 41 * 45 + 41 ≤ r) → I27 r0_5 r = I5 r0_5 r) → (0 ≤ x29.toInt) → (x29.toInt ≤ 130321) → (0 ≤ x32.toInt) → (x32.toInt ≤ 19) → (x29.toInt ≤ 6859 * x32.toInt) → (CTL (MTB w_r0_1_0.toInt w_r0_4_40.toInt (RI I r0_5 40) (RI I r0_5 41)) n1.toInt x29.toInt w_r0_1_0.toInt x32.toInt 0 0 0) → (SMR I I27 r0_5 40) → (SMR I I27 r0_5 41) → (I27 r0_25 = VA) → (x32.toInt ≤ w_r0_1_0.toInt) → V 34 [(0, .ref r0), (1, .int n1), (2, .int x29), (3, .int x19), (4, .int x23), (5, .int x32)] [] (T, N, I27, L28, R) 0 0 := by
    intro nn26
    induction nn26 using Nat.strongRecOn with
    | _ nn26 ihJ25 =>
      intro I27 L28 x29 x32 hmnn26 hI36 S35 F37 F38 b30 b31 b33 b34 ff34_0 ff34_1 ff34_2 ff34_3 ff34_4 ff34_5
      have gx29 := rg x29
      have gx32 := rg x32
      have e39 := (F37 40 (by first | decide | exact ncne (by omega) (by omega) (by omega) | exact nckn (by omega) (by omega) | exact (nckn (by omega) (by omega)).symm) (by first | decide | exact ncne (by omega) (by omega) (by omega) | exact nckn (by omega) (by omega) | exact (nckn (by omega) (by omega)).symm)).trans e8
      have e40 := (F37 41 (by first | decide | exact ncne (by omega) (by omega) (by omega) | exact nckn (by omega) (by omega) | exact (nckn (by omega) (by omega)).symm) (by first | decide | exact ncne (by omega) (by omega) (by omega) | exact nckn (by omega) (by omega) | exact (nckn (by omega) (by omega)).symm)).trans e9
      have e41 := CM.j S35 R_r0_1 (by decide) e10
      have e42 := CM.j S35 R_r0_25 (by decide) e12
      have e43 := CM.j S35 R_r0_25 (by decide) e14
      refine k_iload C rfl rfl rfl ?_
      refine k_aload_n C rfl rfl rfl ?_
      refine c_VI C (a_X12_p hI36 H_r0) rfl rfl rfl rfl rfl ⟨_, rfl, rfl, T_r0, Nat.le_of_ble_eq_true rfl⟩ rfl rfl (Nat.le_of_ble_eq_true rfl) (Nat.le_of_ble_eq_true rfl) (Nat.le_of_ble_eq_true rfl) ?_
      rintro x44 _ _ ⟨o0x44, o1x44, p0x44, rfl, rfl⟩
      have p0x44 := p0x44 r0_1 R_r0_1
      have gx44 := rg x44
      try simp only [e39, e40, e41, e42, e43, e41] at p0x44
      try have q0x44 := congrArg Int32.toInt p0x44
      refine b_icmp_ge C (t := 216) rfl rfl rfl (fun c45 => ?_) (fun c45 => ?_)
      · skip
        refine k_iload_n C rfl rfl rfl ?_
        refine b_if_eq C (t := 224) rfl rfl rfl (fun c46 => ?_) (fun c46 => ?_)
        · skip
          refine k_iload_n C rfl rfl rfl ?_
          exact k_iret C rfl (Or.inl rfl) (Nat.le_of_ble_eq_true rfl) (Nat.le_of_ble_eq_true rfl) ⟨_, _, _, rfl, rfl, fun a1 a4 a5 h1 h4 h5 => by cases (R_r0_1.symm.trans h1); cases (R_r0_4.symm.trans h4); cases (R_r0_5.symm.trans h5); simp only [k0_r0_1_0, k0_r0_4_40]; exact CTL.h ff34_1 (by omega) (fun h9 => by omega), fun a1 a4 a5 h1 h4 h5 => by cases (R_r0_1.symm.trans h1); cases (R_r0_4.symm.trans h4); cases (R_r0_5.symm.trans h5); simp only [k0_r0_1_0, k0_r0_4_40]; exact CTL.g ff34_1 (by omega) (fun h9 => by omega), hI36, (CM.cons S7 (CM.mono S35 (by decide) (by decide)) (by decide) (by decide))⟩
        refine z_iconst C (z := -1) rfl rfl rfl (fun x47 ex47 => ?_)
        refine k_goto C (pc2 := 225) rfl rfl ?_
        exact k_iret C rfl (Or.inl rfl) (Nat.le_of_ble_eq_true rfl) (Nat.le_of_ble_eq_true rfl) ⟨_, _, _, rfl, rfl, fun a1 a4 a5 h1 h4 h5 => by cases (R_r0_1.symm.trans h1); cases (R_r0_4.symm.trans h4); cases (R_r0_5.symm.trans h5); simp only [k0_r0_1_0, k0_r0_4_40]; exact CTL.h ff34_1 (by omega) (fun h9 => by omega), fun a1 a4 a5 h1 h4 h5 => by cases (R_r0_1.symm.trans h1); cases (R_r0_4.symm.trans h4); cases (R_r0_5.symm.trans h5); simp only [k0_r0_1_0, k0_r0_4_40]; exact CTL.g ff34_1 (by omega) (fun h9 => by omega), hI36, (CM.cons S7 (CM.mono S35 (by decide) (by decide)) (by decide) (by decide))⟩
      refine z_iconst C (z := 0) rfl rfl rfl (fun x48 ex48 => ?_)
      have J49 : ∀ (nn50 : Nat) (I51 : IT) (L52 : LT) (x53 : Int32) (x56 : Int32), ((19 - x56.toInt).toNat = nn50) → (IM R r0 I51) → (CM A R r0 [6, 7, 8, 9] [4, 5] I27 L28 I51 L52) → (∀ r : Nat, r ≠ 42 → r ≠ 45 → I51 r0_4 r = I27 r0_4 r) → (∀ r : Nat, (r < 41 * 42 ∨ 41 * 42 + 41 ≤ r) → (r < 41 * 45 ∨ 41 * 45 + 41 ≤ r) → I51 r0_5 r = I27 r0_5 r) → (0 ≤ x53.toInt) → (x53.toInt ≤ 130321) → (0 ≤ x56.toInt) → (x56.toInt ≤ 19) → (x53.toInt ≤ 6859 * x32.toInt + 361 * x56.toInt) → (CTL (MTB w_r0_1_0.toInt w_r0_4_40.toInt (RI I r0_5 40) (RI I r0_5 41)) n1.toInt x53.toInt w_r0_1_0.toInt x32.toInt x56.toInt 0 0) → (SMR I I51 r0_5 40) → (SMR I I51 r0_5 41) → (I51 r0_25 = VA) → (x32.toInt < w_r0_1_0.toInt) → (x56.toInt ≤ w_r0_1_0.toInt) → V 46 [(0, .ref r0), (1, .int n1), (2, .int x53), (3, .int x19), (4, .int x23), (5, .int x32), (6, .int x56)] [] (T, N, I51, L52, R) 0 0 := by
        intro nn50
        induction nn50 using Nat.strongRecOn with
        | _ nn50 ihJ49 =>
          intro I51 L52 x53 x56 hmnn50 hI60 S59 F61 F62 b54 b55 b57 b58 ff46_0 ff46_1 ff46_2 ff46_3 ff46_4 ff46_5 ff46_6
          have gx53 := rg x53
          have gx56 := rg x56
          have e63 := (F61 40 (by first | decide | exact ncne (by omega) (by omega) (by omega) | exact nckn (by omega) (by omega) | exact (nckn (by omega) (by omega)).symm) (by first | decide | exact ncne (by omega) (by omega) (by omega) | exact nckn (by omega) (by omega) | exact (nckn (by omega) (by omega)).symm)).trans e39
          have e64 := (F61 41 (by first | decide | exact ncne (by omega) (by omega) (by omega) | exact nckn (by omega) (by omega) | exact (nckn (by omega) (by omega)).symm) (by first | decide | exact ncne (by omega) (by omega) (by omega) | exact nckn (by omega) (by omega) | exact (nckn (by omega) (by omega)).symm)).trans e40
          have e65 := CM.j S59 R_r0_1 (by decide) e41
          have e66 := CM.j S59 R_r0_25 (by decide) e42
          have e67 := CM.j S59 R_r0_25 (by decide) e43
          refine k_iload C rfl rfl rfl ?_
          refine k_aload_n C rfl rfl rfl ?_
          refine c_VI C (a_X12_p hI60 H_r0) rfl rfl rfl rfl rfl ⟨_, rfl, rfl, T_r0, Nat.le_of_ble_eq_true rfl⟩ rfl rfl (Nat.le_of_ble_eq_true rfl) (Nat.le_of_ble_eq_true rfl) (Nat.le_of_ble_eq_true rfl) ?_
          rintro x68 _ _ ⟨o0x68, o1x68, p0x68, rfl, rfl⟩
          have p0x68 := p0x68 r0_1 R_r0_1
          have gx68 := rg x68
          try simp only [e63, e64, e65, e66, e67, e65] at p0x68
          try have q0x68 := congrArg Int32.toInt p0x68
          refine b_icmp_ge C (t := 210) rfl rfl rfl (fun c69 => ?_) (fun c69 => ?_)
          · skip
            refine z_iinc C (z := 1) (lw := fun x70 => [(5, .int x70), (0, .ref r0), (1, .int n1), (2, .int x53), (3, .int x19), (4, .int x23), (6, .int x56)]) rfl rfl rfl (Nat.le_of_ble_eq_true rfl) rfl ⟨by omega, by omega⟩ (fun _ => rfl) (fun x70 ex70 => ?_)
            show V 213 [(5, .int x70), (0, .ref r0), (1, .int n1), (2, .int x53), (3, .int x19), (4, .int x23), (6, .int x56)] _ _ _ _
            refine k_goto C (pc2 := 34) rfl rfl ?_
            refine k_sub S [(0, .ref r0), (1, .int n1), (2, .int x53), (3, .int x19), (4, .int x23), (5, .int x70)] (List.forall_mem_cons.mpr ⟨List.mem_of_getElem? (i := 1) rfl, List.forall_mem_cons.mpr ⟨List.mem_of_getElem? (i := 2) rfl, List.forall_mem_cons.mpr ⟨List.mem_of_getElem? (i := 3) rfl, List.forall_mem_cons.mpr ⟨List.mem_of_getElem? (i := 4) rfl, List.forall_mem_cons.mpr ⟨List.mem_of_getElem? (i := 5) rfl, List.forall_mem_cons.mpr ⟨List.mem_of_getElem? (i := 0) rfl, fun _ h => nomatch h⟩⟩⟩⟩⟩⟩) ?_
            exact ihJ25 _ (by omega) I51 L52 x53 x70 rfl hI60 (CM.cons S35 (CM.mono S59 (by decide) (by decide)) (by decide) (by decide)) (fun r z0 z1 => ((F61 r z0 z1).trans (F37 r z0 z1))) (fun r z0 z1 => ((F62 r z0 z1).trans (F38 r z0 z1))) (by omega) (by omega) (by omega) (by omega) (by omega) (by exact CTL.a ff46_1 (by omega) (by omega) (by omega)) (by exact ff46_2) (by exact ff46_3) (by exact ff46_4) (by omega)
          refine z_iconst C (z := 0) rfl rfl rfl (fun x71 ex71 => ?_)
          have J72 : ∀ (nn73 : Nat) (I74 : IT) (L75 : LT) (x76 : Int32) (x79 : Int32), ((19 - x79.toInt).toNat = nn73) → (IM R r0 I74) → (CM A R r0 [6, 7, 8, 9] [4, 5] I51 L52 I74 L75) → (∀ r : Nat, r ≠ 42 → r ≠ 45 → I74 r0_4 r = I51 r0_4 r) → (∀ r : Nat, (r < 41 * 42 ∨ 41 * 42 + 41 ≤ r) → (r < 41 * 45 ∨ 41 * 45 + 41 ≤ r) → I74 r0_5 r = I51 r0_5 r) → (0 ≤ x76.toInt) → (x76.toInt ≤ 130321) → (0 ≤ x79.toInt) → (x79.toInt ≤ 19) → (x76.toInt ≤ 6859 * x32.toInt + 361 * x56.toInt + 19 * x79.toInt) → (CTL (MTB w_r0_1_0.toInt w_r0_4_40.toInt (RI I r0_5 40) (RI I r0_5 41)) n1.toInt x76.toInt w_r0_1_0.toInt x32.toInt x56.toInt x79.toInt 0) → (SMR I I74 r0_5 40) → (SMR I I74 r0_5 41) → (I74 r0_25 = VA) → (x32.toInt < w_r0_1_0.toInt) → (x56.toInt < w_r0_1_0.toInt) → (x79.toInt ≤ w_r0_1_0.toInt) → V 58 [(0, .ref r0), (1, .int n1), (2, .int x76), (3, .int x19), (4, .int x23), (5, .int x32), (6, .int x56), (7, .int x79)] [] (T, N, I74, L75, R) 0 0 := by
            intro nn73
            induction nn73 using Nat.strongRecOn with
            | _ nn73 ihJ72 =>
              intro I74 L75 x76 x79 hmnn73 hI83 S82 F84 F85 b77 b78 b80 b81 ff58_0 ff58_1 ff58_2 ff58_3 ff58_4 ff58_5 ff58_6 ff58_7
              have gx76 := rg x76
              have gx79 := rg x79
              have e86 := (F84 40 (by first | decide | exact ncne (by omega) (by omega) (by omega) | exact nckn (by omega) (by omega) | exact (nckn (by omega) (by omega)).symm) (by first | decide | exact ncne (by omega) (by omega) (by omega) | exact nckn (by omega) (by omega) | exact (nckn (by omega) (by omega)).symm)).trans e63
              have e87 := (F84 41 (by first | decide | exact ncne (by omega) (by omega) (by omega) | exact nckn (by omega) (by omega) | exact (nckn (by omega) (by omega)).symm) (by first | decide | exact ncne (by omega) (by omega) (by omega) | exact nckn (by omega) (by omega) | exact (nckn (by omega) (by omega)).symm)).trans e64
              have e88 := CM.j S82 R_r0_1 (by decide) e65
              have e89 := CM.j S82 R_r0_25 (by decide) e66
              have e90 := CM.j S82 R_r0_25 (by decide) e67
              refine k_iload C rfl rfl rfl ?_
              refine k_aload_n C rfl rfl rfl ?_
              refine c_VI C (a_X12_p hI83 H_r0) rfl rfl rfl rfl rfl ⟨_, rfl, rfl, T_r0, Nat.le_of_ble_eq_true rfl⟩ rfl rfl (Nat.le_of_ble_eq_true rfl) (Nat.le_of_ble_eq_true rfl) (Nat.le_of_ble_eq_true rfl) ?_
              rintro x91 _ _ ⟨o0x91, o1x91, p0x91, rfl, rfl⟩
              have p0x91 := p0x91 r0_1 R_r0_1
              have gx91 := rg x91
              try simp only [e86, e87, e88, e89, e90, e88] at p0x91
              try have q0x91 := congrArg Int32.toInt p0x91
              refine b_icmp_ge C (t := 204) rfl rfl rfl (fun c92 => ?_) (fun c92 => ?_)
              · skip
                refine z_iinc C (z := 1) (lw := fun x93 => [(6, .int x93), (0, .ref r0), (1, .int n1), (2, .int x76), (3, .int x19), (4, .int x23), (5, .int x32), (7, .int x79)]) rfl rfl rfl (Nat.le_of_ble_eq_true rfl) rfl ⟨by omega, by omega⟩ (fun _ => rfl) (fun x93 ex93 => ?_)
                show V 207 [(6, .int x93), (0, .ref r0), (1, .int n1), (2, .int x76), (3, .int x19), (4, .int x23), (5, .int x32), (7, .int x79)] _ _ _ _
                refine k_goto C (pc2 := 46) rfl rfl ?_
                refine k_sub S [(0, .ref r0), (1, .int n1), (2, .int x76), (3, .int x19), (4, .int x23), (5, .int x32), (6, .int x93)] (List.forall_mem_cons.mpr ⟨List.mem_of_getElem? (i := 1) rfl, List.forall_mem_cons.mpr ⟨List.mem_of_getElem? (i := 2) rfl, List.forall_mem_cons.mpr ⟨List.mem_of_getElem? (i := 3) rfl, List.forall_mem_cons.mpr ⟨List.mem_of_getElem? (i := 4) rfl, List.forall_mem_cons.mpr ⟨List.mem_of_getElem? (i := 5) rfl, List.forall_mem_cons.mpr ⟨List.mem_of_getElem? (i := 6) rfl, List.forall_mem_cons.mpr ⟨List.mem_of_getElem? (i := 0) rfl, fun _ h => nomatch h⟩⟩⟩⟩⟩⟩⟩) ?_
                exact ihJ49 _ (by omega) I74 L75 x76 x93 rfl hI83 (CM.cons S59 (CM.mono S82 (by decide) (by decide)) (by decide) (by decide)) (fun r z0 z1 => ((F84 r z0 z1).trans (F61 r z0 z1))) (fun r z0 z1 => ((F85 r z0 z1).trans (F62 r z0 z1))) (by omega) (by omega) (by omega) (by omega) (by omega) (by exact CTL.b ff58_1 (by omega) (by omega) (by omega)) (by exact ff58_2) (by exact ff58_3) (by exact ff58_4) (by omega) (by omega)
              refine k_aload_n C rfl rfl rfl ?_
              refine g_R C rfl rfl rfl T_r0 rfl R_r0_25 ?_
              refine z_bipush C (z := 19) rfl rfl rfl (fun x94 ex94 => ?_)
              refine k_iload C rfl rfl rfl ?_
              refine z_imulL C (c := 19) rfl rfl (by omega) ⟨by omega, by omega⟩ (fun x95 ex95 => ?_)
              refine k_iload C rfl rfl rfl ?_
              refine z_iadd C rfl rfl ⟨by omega, by omega⟩ (fun x96 ex96 => ?_)
              obtain ⟨T_r0_25, N_r0_25, A_r0_25⟩ := id H_r0_25
              refine z_aI C rfl rfl T_r0_25 N_r0_25 (by omega) (by omega) (fun x97 ex97 => ?_)
              have gx97 := rg x97
              have hr79 := VLE.at (a := x32) (c := x79) hVL eVA ff58_4 ex97 (by omega) ⟨by omega, by omega⟩ ⟨by omega, by omega⟩ (by omega) (by omega) hF0
              refine k_iload_n C rfl rfl rfl ?_
              refine b_icmp_eq C (t := 87) rfl rfl rfl (fun c98 => ?_) (fun c98 => ?_)
              · skip
                refine z_iconst C (z := 0) rfl rfl rfl (fun x99 ex99 => ?_)
                have J100 : ∀ (nn101 : Nat) (I102 : IT) (L103 : LT) (x104 : Int32) (x107 : Int32), ((19 - x107.toInt).toNat = nn101) → (IM R r0 I102) → (CM A R r0 [6, 7, 8, 9] [4, 5] I74 L75 I102 L103) → (∀ r : Nat, r ≠ 42 → r ≠ 45 → I102 r0_4 r = I74 r0_4 r) → (∀ r : Nat, (r < 41 * 42 ∨ 41 * 42 + 41 ≤ r) → (r < 41 * 45 ∨ 41 * 45 + 41 ≤ r) → I102 r0_5 r = I74 r0_5 r) → (0 ≤ x104.toInt) → (x104.toInt ≤ 130321) → (0 ≤ x107.toInt) → (x107.toInt ≤ 19) → (x104.toInt ≤ 6859 * x32.toInt + 361 * x56.toInt + 19 * x79.toInt + x107.toInt) → (CTL (MTB w_r0_1_0.toInt w_r0_4_40.toInt (RI I r0_5 40) (RI I r0_5 41)) n1.toInt x104.toInt w_r0_1_0.toInt x32.toInt x56.toInt x79.toInt x107.toInt) → (SMR I I102 r0_5 40) → (SMR I I102 r0_5 41) → (I102 r0_25 = VA) → (x32.toInt < w_r0_1_0.toInt) → (x56.toInt < w_r0_1_0.toInt) → (x79.toInt < w_r0_1_0.toInt) → (x107.toInt ≤ w_r0_1_0.toInt) → V 90 [(0, .ref r0), (1, .int n1), (2, .int x104), (3, .int x19), (4, .int x23), (5, .int x32), (6, .int x56), (7, .int x79), (8, .int x107)] [] (T, N, I102, L103, R) 0 0 := by
                  intro nn101
                  induction nn101 using Nat.strongRecOn with
                  | _ nn101 ihJ100 =>
                    intro I102 L103 x104 x107 hmnn101 hI111 S110 F112 F113 b105 b106 b108 b109 ff90_0 ff90_1 ff90_2 ff90_3 ff90_4 ff90_5 ff90_6 ff90_7 ff90_8
                    have gx104 := rg x104
                    have gx107 := rg x107
                    have e114 := (F112 40 (by first | decide | exact ncne (by omega) (by omega) (by omega) | exact nckn (by omega) (by omega) | exact (nckn (by omega) (by omega)).symm) (by first | decide | exact ncne (by omega) (by omega) (by omega) | exact nckn (by omega) (by omega) | exact (nckn (by omega) (by omega)).symm)).trans e86
                    have e115 := (F112 41 (by first | decide | exact ncne (by omega) (by omega) (by omega) | exact nckn (by omega) (by omega) | exact (nckn (by omega) (by omega)).symm) (by first | decide | exact ncne (by omega) (by omega) (by omega) | exact nckn (by omega) (by omega) | exact (nckn (by omega) (by omega)).symm)).trans e87
                    have e116 := CM.j S110 R_r0_1 (by decide) e88
                    have e117 := CM.j S110 R_r0_25 (by decide) e89
                    have e118 := CM.j S110 R_r0_25 (by decide) e90
                    have e119 := CM.j S110 R_r0_25 (by decide) ex97
                    refine k_iload C rfl rfl rfl ?_
                    refine k_aload_n C rfl rfl rfl ?_
                    refine c_VI C (a_X12_p hI111 H_r0) rfl rfl rfl rfl rfl ⟨_, rfl, rfl, T_r0, Nat.le_of_ble_eq_true rfl⟩ rfl rfl (Nat.le_of_ble_eq_true rfl) (Nat.le_of_ble_eq_true rfl) (Nat.le_of_ble_eq_true rfl) ?_
                    rintro x120 _ _ ⟨o0x120, o1x120, p0x120, rfl, rfl⟩
                    have p0x120 := p0x120 r0_1 R_r0_1
                    have gx120 := rg x120
                    try simp only [e114, e115, e116, e117, e118, e119, e116] at p0x120
                    try have q0x120 := congrArg Int32.toInt p0x120
                    refine b_icmp_ge C (t := 198) rfl rfl rfl (fun c121 => ?_) (fun c121 => ?_)
                    · skip
                      refine z_iinc C (z := 1) (lw := fun x122 => [(7, .int x122), (0, .ref r0), (1, .int n1), (2, .int x104), (3, .int x19), (4, .int x23), (5, .int x32), (6, .int x56), (8, .int x107)]) rfl rfl rfl (Nat.le_of_ble_eq_true rfl) rfl ⟨by omega, by omega⟩ (fun _ => rfl) (fun x122 ex122 => ?_)
                      show V 201 [(7, .int x122), (0, .ref r0), (1, .int n1), (2, .int x104), (3, .int x19), (4, .int x23), (5, .int x32), (6, .int x56), (8, .int x107)] _ _ _ _
                      refine k_goto C (pc2 := 58) rfl rfl ?_
                      refine k_sub S [(0, .ref r0), (1, .int n1), (2, .int x104), (3, .int x19), (4, .int x23), (5, .int x32), (6, .int x56), (7, .int x122)] (List.forall_mem_cons.mpr ⟨List.mem_of_getElem? (i := 1) rfl, List.forall_mem_cons.mpr ⟨List.mem_of_getElem? (i := 2) rfl, List.forall_mem_cons.mpr ⟨List.mem_of_getElem? (i := 3) rfl, List.forall_mem_cons.mpr ⟨List.mem_of_getElem? (i := 4) rfl, List.forall_mem_cons.mpr ⟨List.mem_of_getElem? (i := 5) rfl, List.forall_mem_cons.mpr ⟨List.mem_of_getElem? (i := 6) rfl, List.forall_mem_cons.mpr ⟨List.mem_of_getElem? (i := 7) rfl, List.forall_mem_cons.mpr ⟨List.mem_of_getElem? (i := 0) rfl, fun _ h => nomatch h⟩⟩⟩⟩⟩⟩⟩⟩) ?_
                      exact ihJ72 _ (by omega) I102 L103 x104 x122 rfl hI111 (CM.cons S82 (CM.mono S110 (by decide) (by decide)) (by decide) (by decide)) (fun r z0 z1 => ((F112 r z0 z1).trans (F84 r z0 z1))) (fun r z0 z1 => ((F113 r z0 z1).trans (F85 r z0 z1))) (by omega) (by omega) (by omega) (by omega) (by omega) (by first | exact CTL.cn ff58_1 (fun d9 h9 => MTB.nlo hr79 hlow hgl (by omega) (by omega) (by omega) (by omega)) (by omega) (by omega) | exact CTL.c ff90_1 (by omega) (by omega) (by omega)) (by first | exact ff90_2 | exact ff58_2) (by first | exact ff90_3 | exact ff58_3) (by first | exact ff90_4 | exact ff58_4) (by omega) (by omega) (by omega)
                    refine k_aload_n C rfl rfl rfl ?_
                    refine g_R C rfl rfl rfl T_r0 rfl R_r0_25 ?_
                    refine z_bipush C (z := 19) rfl rfl rfl (fun x123 ex123 => ?_)
                    refine k_iload C rfl rfl rfl ?_
                    refine z_imulL C (c := 19) rfl rfl (by omega) ⟨by omega, by omega⟩ (fun x124 ex124 => ?_)
                    refine k_iload C rfl rfl rfl ?_
                    refine z_iadd C rfl rfl ⟨by omega, by omega⟩ (fun x125 ex125 => ?_)
                    refine z_aI C rfl rfl T_r0_25 N_r0_25 (by omega) (by omega) (fun x126 ex126 => ?_)
                    have gx126 := rg x126
                    have hr111 := VLE.at (a := x56) (c := x107) hVL eVA ff90_4 ex126 (by omega) ⟨by omega, by omega⟩ ⟨by omega, by omega⟩ (by omega) (by omega) hF0
                    refine k_iload C rfl rfl rfl ?_
                    refine b_icmp_eq C (t := 120) rfl rfl rfl (fun c127 => ?_) (fun c127 => ?_)
                    · skip
                      refine k_aload_n C rfl rfl rfl ?_
                      refine k_iload C rfl rfl rfl ?_
                      refine k_iload C rfl rfl rfl ?_
                      refine k_iload C rfl rfl rfl ?_
                      refine k_iload C rfl rfl rfl ?_
                      refine c_VV C (a_X12_takesTable_e hI111 H_r0 (by omega) (by omega) (by omega) (by omega) (by omega) (by omega) (by omega) (by omega)) rfl rfl rfl rfl rfl ⟨_, rfl, rfl, T_r0, Nat.le_of_ble_eq_true rfl⟩ rfl rfl (Nat.le_of_ble_eq_true rfl) (Nat.le_of_ble_eq_true rfl) (Nat.le_of_ble_eq_true rfl) ?_
                      rintro I129 L130 ⟨p0v128, p1v128, p2v128, p3v128, hI129, S131⟩
                      have e132 := CM.j S131 R_r0_4 (by decide) e114
                      have e133 := CM.j S131 R_r0_4 (by decide) e115
                      have e134 := CM.j S131 R_r0_1 (by decide) e116
                      have e135 := CM.j S131 R_r0_25 (by decide) e117
                      have e136 := CM.j S131 R_r0_25 (by decide) e118
                      have e137 := CM.j S131 R_r0_25 (by decide) e119
                      have e138 := CM.j S131 R_r0_25 (by decide) ex126
                      obtain ⟨x139, e140⟩ : ∃ x, I129 r0 6 = x := ⟨_, rfl⟩
                      have gx139 := rg x139
                      have ox139 := IM.f6 hI129 e140
                      obtain ⟨x141, e142⟩ : ∃ x, I129 r0 7 = x := ⟨_, rfl⟩
                      have gx141 := rg x141
                      have ox141 := IM.f7 hI129 e142
                      obtain ⟨x143, e144⟩ : ∃ x, I129 r0 8 = x := ⟨_, rfl⟩
                      have gx143 := rg x143
                      have ox143 := IM.f8 hI129 e144
                      obtain ⟨x145, e146⟩ : ∃ x, I129 r0 9 = x := ⟨_, rfl⟩
                      have gx145 := rg x145
                      have ox145 := IM.f9 hI129 e146
                      try simp only [e114, e115, e116, e117, e118, e119, ex126, e140, e142, e144, e146] at p0v128
                      try have q0v128 := congrArg Int32.toInt p0v128
                      try simp only [e114, e115, e116, e117, e118, e119, ex126, e140, e142, e144, e146] at p1v128
                      try have q1v128 := congrArg Int32.toInt p1v128
                      try simp only [e114, e115, e116, e117, e118, e119, ex126, e140, e142, e144, e146] at p2v128
                      try have q2v128 := congrArg Int32.toInt p2v128
                      try simp only [e114, e115, e116, e117, e118, e119, ex126, e140, e142, e144, e146] at p3v128
                      try have q3v128 := congrArg Int32.toInt p3v128
                      have hM40 : SMR I I129 r0_5 40 := SMR.tr ff90_2 (SMR.eq (CM.j0 S131 R_r0_5 (by decide)))
                      have hM41 : SMR I I129 r0_5 41 := SMR.tr ff90_3 (SMR.eq (CM.j0 S131 R_r0_5 (by decide)))
                      have hA1 := (CM.j0 S131 R_r0_25 (by decide)).trans ff90_4
                      refine k_aload_n C rfl rfl rfl ?_
                      refine c_VI C (a_X12_detNow_e hI129 H_r0) rfl rfl rfl rfl rfl ⟨_, rfl, rfl, T_r0, Nat.le_of_ble_eq_true rfl⟩ rfl rfl (Nat.le_of_ble_eq_true rfl) (Nat.le_of_ble_eq_true rfl) (Nat.le_of_ble_eq_true rfl) ?_
                      rintro x147 _ _ ⟨o0x147, o1x147, p0x147, rfl, rfl⟩
                      have p0x147 := p0x147 r0_1 R_r0_1
                      have gx147 := rg x147
                      try simp only [e132, e133, e134, e135, e136, e137, e138, e140, e142, e144, e146] at p0x147
                      try have q0x147 := congrArg Int32.toInt p0x147
                      have hDT := p0x147
                      refine b_if_ne C (t := 142) rfl rfl rfl (fun c148 => ?_) (fun c148 => ?_)
                      · skip
                        refine k_aload_n C rfl rfl rfl ?_
                        refine z_bipush C (z := 40) rfl rfl rfl (fun x149 ex149 => ?_)
                        refine z_bipush C (z := 42) rfl rfl rfl (fun x150 ex150 => ?_)
                        have q151 : x149.toNatClampNeg = 40 := nck (by omega)
                        have q152 : x150.toNatClampNeg = 42 := nck (by omega)
                        refine c_VV C (a_X12_mixes_e hI129 H_r0 (by omega) (by omega) (by omega) (by omega) (by first | omega | (simp only [q151, q152, e132, e133, e134, e135, e136, e137, e138, e140, e142, e144, e146, and_true, true_and, or_true, true_or, and_false, false_and, or_false, false_or] <;> omega))) rfl rfl rfl rfl rfl ⟨_, rfl, rfl, T_r0, Nat.le_of_ble_eq_true rfl⟩ rfl rfl (Nat.le_of_ble_eq_true rfl) (Nat.le_of_ble_eq_true rfl) (Nat.le_of_ble_eq_true rfl) ?_
                        rintro I154 L155 ⟨p0v153, p1v153, p2v153, p3v153, p4v153, hI154, S156⟩
                        have p0v153 := p0v153 r0_4 R_r0_4
                        have p1v153 := p1v153 r0_1 r0_4 r0_5 R_r0_1 R_r0_4 R_r0_5
                        have p2v153 := p2v153 r0_1 r0_4 r0_5 R_r0_1 R_r0_4 R_r0_5
                        have p3v153 := p3v153 r0_4 R_r0_4
                        have p4v153 := p4v153 r0_5 R_r0_5
                        try simp only [q151, q152] at p3v153
                        have F157 : ∀ r : Nat, r ≠ 42 → r ≠ 45 → I154 r0_4 r = I129 r0_4 r := fun r z0 z1 => p3v153 r (by first | exact z0 | exact z1) (by first | exact z0 | exact z1)
                        try simp only [q151, q152] at p4v153
                        have F158 : ∀ r : Nat, (r < 41 * 42 ∨ 41 * 42 + 41 ≤ r) → (r < 41 * 45 ∨ 41 * 45 + 41 ≤ r) → I154 r0_5 r = I129 r0_5 r := fun r z0 z1 => p4v153 r (by first | exact z0 | exact z1) (by first | exact z0 | exact z1)
                        have e159 := (p3v153 40 (by first | decide | exact ncne (by omega) (by omega) (by omega) | exact nckn (by omega) (by omega) | exact (nckn (by omega) (by omega)).symm) (by first | decide | exact ncne (by omega) (by omega) (by omega) | exact nckn (by omega) (by omega) | exact (nckn (by omega) (by omega)).symm)).trans e132
                        have e160 := (p3v153 41 (by first | decide | exact ncne (by omega) (by omega) (by omega) | exact nckn (by omega) (by omega) | exact (nckn (by omega) (by omega)).symm) (by first | decide | exact ncne (by omega) (by omega) (by omega) | exact nckn (by omega) (by omega) | exact (nckn (by omega) (by omega)).symm)).trans e133
                        have e161 := CM.j S156 R_r0_1 (by decide) e134
                        have e162 := CM.j S156 R_r0_25 (by decide) e135
                        have e163 := CM.j S156 R_r0_25 (by decide) e136
                        have e164 := CM.j S156 R_r0_25 (by decide) e137
                        have e165 := CM.j S156 R_r0_25 (by decide) e138
                        have e166 := CM.k S156 (by decide) e140
                        have e167 := CM.k S156 (by decide) e142
                        have e168 := CM.k S156 (by decide) e144
                        have e169 := CM.k S156 (by decide) e146
                        obtain ⟨x170, e171⟩ : ∃ x, I154 r0_4 42 = x := ⟨_, rfl⟩
                        have gx170 := rg x170
                        have ox170 := IM.dgR hI154 R_r0_4 e171
                        try simp only [q151, q152, e132, e133, e134, e135, e136, e137, e138, e140, e142, e144, e146, e171] at p0v153
                        try have q0v153 := congrArg Int32.toInt p0v153
                        try simp only [q151, q152, e132, e133, e134, e135, e136, e137, e138, e140, e142, e144, e146, e171] at p1v153
                        try have q1v153 := congrArg Int32.toInt p1v153
                        try simp only [q151, q152, e132, e133, e134, e135, e136, e137, e138, e140, e142, e144, e146, e171] at p2v153
                        try have q2v153 := congrArg Int32.toInt p2v153
                        have hMX := p2v153
                        have hN40 := SMR.cs hM40 (fun k hk => p4v153 _ (by omega) (by omega))
                        have hN41 := SMR.cs hM41 (fun k hk => p4v153 _ (by omega) (by omega))
                        have hA2 := (CM.j0 S156 R_r0_25 (by decide)).trans hA1
                        refine k_aload_n C rfl rfl rfl ?_
                        refine z_bipush C (z := 41) rfl rfl rfl (fun x172 ex172 => ?_)
                        refine z_bipush C (z := 42) rfl rfl rfl (fun x173 ex173 => ?_)
                        have q174 : x172.toNatClampNeg = 41 := nck (by omega)
                        have q175 : x173.toNatClampNeg = 42 := nck (by omega)
                        refine c_VI C (a_X12_isLike_e hI154 H_r0 (by omega) (by omega) (by omega) (by omega)) rfl rfl rfl rfl rfl ⟨_, rfl, rfl, T_r0, Nat.le_of_ble_eq_true rfl⟩ rfl rfl (Nat.le_of_ble_eq_true rfl) (Nat.le_of_ble_eq_true rfl) (Nat.le_of_ble_eq_true rfl) ?_
                        rintro x176 _ _ ⟨o0x176, o1x176, p0x176, rfl, rfl⟩
                        have p0x176 := p0x176 r0_4 r0_5 R_r0_4 R_r0_5
                        have gx176 := rg x176
                        try simp only [q174, q175, e159, e160, e161, e162, e163, e164, e165, e166, e167, e168, e169, e171] at p0x176
                        try have q0x176 := congrArg Int32.toInt p0x176
                        have hLK := p0x176
                        refine b_if_ne C (t := 164) rfl rfl rfl (fun c177 => ?_) (fun c177 => ?_)
                        · skip
                          refine k_iload_n C rfl rfl rfl ?_
                          refine b_if_eq C (t := 189) rfl rfl rfl (fun c178 => ?_) (fun c178 => ?_)
                          · skip
                            refine z_iinc C (z := 1) (lw := fun x179 => [(2, .int x179), (0, .ref r0), (1, .int n1), (3, .int x19), (4, .int x23), (5, .int x32), (6, .int x56), (7, .int x79), (8, .int x107)]) rfl rfl rfl (Nat.le_of_ble_eq_true rfl) rfl ⟨by omega, by omega⟩ (fun _ => rfl) (fun x179 ex179 => ?_)
                            show V 192 [(2, .int x179), (0, .ref r0), (1, .int n1), (3, .int x19), (4, .int x23), (5, .int x32), (6, .int x56), (7, .int x79), (8, .int x107)] _ _ _ _
                            refine z_iinc C (z := 1) (lw := fun x180 => [(8, .int x180), (2, .int x179), (0, .ref r0), (1, .int n1), (3, .int x19), (4, .int x23), (5, .int x32), (6, .int x56), (7, .int x79)]) rfl rfl rfl (Nat.le_of_ble_eq_true rfl) rfl ⟨by omega, by omega⟩ (fun _ => rfl) (fun x180 ex180 => ?_)
                            show V 195 [(8, .int x180), (2, .int x179), (0, .ref r0), (1, .int n1), (3, .int x19), (4, .int x23), (5, .int x32), (6, .int x56), (7, .int x79)] _ _ _ _
                            refine k_goto C (pc2 := 90) rfl rfl ?_
                            refine k_sub S [(0, .ref r0), (1, .int n1), (2, .int x179), (3, .int x19), (4, .int x23), (5, .int x32), (6, .int x56), (7, .int x79), (8, .int x180)] (List.forall_mem_cons.mpr ⟨List.mem_of_getElem? (i := 2) rfl, List.forall_mem_cons.mpr ⟨List.mem_of_getElem? (i := 3) rfl, List.forall_mem_cons.mpr ⟨List.mem_of_getElem? (i := 1) rfl, List.forall_mem_cons.mpr ⟨List.mem_of_getElem? (i := 4) rfl, List.forall_mem_cons.mpr ⟨List.mem_of_getElem? (i := 5) rfl, List.forall_mem_cons.mpr ⟨List.mem_of_getElem? (i := 6) rfl, List.forall_mem_cons.mpr ⟨List.mem_of_getElem? (i := 7) rfl, List.forall_mem_cons.mpr ⟨List.mem_of_getElem? (i := 8) rfl, List.forall_mem_cons.mpr ⟨List.mem_of_getElem? (i := 0) rfl, fun _ h => nomatch h⟩⟩⟩⟩⟩⟩⟩⟩⟩) ?_
                            exact ihJ100 _ (by omega) I154 L155 x179 x180 rfl hI154 (CM.cons S110 (CM.cons S131 (CM.mono S156 (by decide) (by decide)) (by decide) (by decide)) (by decide) (by decide)) (fun r z0 z1 => ((F157 r z0 z1).trans ((congrFun (CM.j0 S131 R_r0_4 (by decide)) r).trans (F112 r z0 z1)))) (fun r z0 z1 => ((F158 r z0 z1).trans ((congrFun (CM.j0 S131 R_r0_5 (by decide)) r).trans (F113 r z0 z1)))) (by omega) (by omega) (by omega) (by omega) (by omega) (by first | exact CTL.n ff90_1 (MTB.nhi hr111 hhi2 hgh (by omega) (by omega) (by omega) (by omega)) (by omega) (by omega) | exact CTL.n ff90_1 (MTB.ndt hDT (by omega) (by omega) (by omega) (by omega) (by omega) (by omega) ⟨by omega, by omega⟩ ⟨by omega, by omega⟩ ⟨by omega, by omega⟩ ⟨by omega, by omega⟩) (by omega) (by omega) | exact CTL.n ff90_1 (fun z9 => by have h9 := (MTB.lke hMX hM40 hN41 hp1 hp2 hLK (by rw [e160]; omega) (by rw [e171]; omega) hDT (by first | rfl | omega) (by omega) (by omega) (by omega) (by omega) (by omega) (by omega) (by omega) (by omega) (by omega) (by omega) (by omega) ⟨by omega, by omega⟩ ⟨by omega, by omega⟩ ⟨by omega, by omega⟩ ⟨by omega, by omega⟩ (by omega)).mpr z9; omega) (by omega) (by omega) | exact CTL.y ff90_1 ((MTB.lke hMX hM40 hN41 hp1 hp2 hLK (by rw [e160]; omega) (by rw [e171]; omega) hDT (by first | rfl | omega) (by omega) (by omega) (by omega) (by omega) (by omega) (by omega) (by omega) (by omega) (by omega) (by omega) (by omega) ⟨by omega, by omega⟩ ⟨by omega, by omega⟩ ⟨by omega, by omega⟩ ⟨by omega, by omega⟩ (by omega)).mp ⟨by omega, by omega⟩) (by omega) (by omega) (by omega) (by omega)) (by first | exact hN40 | exact hM40 | exact ff90_2) (by first | exact hN41 | exact hM41 | exact ff90_3) (by first | exact hA2 | exact hA1 | exact ff90_4) (by omega) (by omega) (by omega) (by omega)
                          refine z_bipush C (z := 20) rfl rfl rfl (fun x181 ex181 => ?_)
                          refine k_iload C rfl rfl rfl ?_
                          refine z_imulL C (c := 20) rfl rfl (by omega) ⟨by omega, by omega⟩ (fun x182 ex182 => ?_)
                          refine k_iload C rfl rfl rfl ?_
                          refine z_iadd C rfl rfl ⟨by omega, by omega⟩ (fun x183 ex183 => ?_)
                          refine z_bipush C (z := 20) rfl rfl rfl (fun x184 ex184 => ?_)
                          refine z_imulR C (c := 20) rfl rfl (by omega) ⟨by omega, by omega⟩ (fun x185 ex185 => ?_)
                          refine k_iload C rfl rfl rfl ?_
                          refine z_iadd C rfl rfl ⟨by omega, by omega⟩ (fun x186 ex186 => ?_)
                          refine z_bipush C (z := 20) rfl rfl rfl (fun x187 ex187 => ?_)
                          refine z_imulR C (c := 20) rfl rfl (by omega) ⟨by omega, by omega⟩ (fun x188 ex188 => ?_)
                          refine k_iload C rfl rfl rfl ?_
                          refine z_iadd C rfl rfl ⟨by omega, by omega⟩ (fun x189 ex189 => ?_)
                          exact k_iret C rfl (Or.inl rfl) (Nat.le_of_ble_eq_true rfl) (Nat.le_of_ble_eq_true rfl) ⟨_, _, _, rfl, rfl, fun a1 a4 a5 h1 h4 h5 => by cases (R_r0_1.symm.trans h1); cases (R_r0_4.symm.trans h4); cases (R_r0_5.symm.trans h5); simp only [k0_r0_1_0, k0_r0_4_40]; intro _; exact CTL.f ff90_1 (by omega) ((MTB.lke hMX hM40 hN41 hp1 hp2 hLK (by rw [e160]; omega) (by rw [e171]; omega) hDT (by first | rfl | omega) (by omega) (by omega) (by omega) (by omega) (by omega) (by omega) (by omega) (by omega) (by omega) (by omega) (by omega) ⟨by omega, by omega⟩ ⟨by omega, by omega⟩ ⟨by omega, by omega⟩ ⟨by omega, by omega⟩ (by omega)).mp ⟨by omega, by omega⟩) ⟨by omega, by omega⟩ ⟨by omega, by omega⟩ ⟨by omega, by omega⟩ ⟨by omega, by omega⟩ (by omega) (by omega), fun a1 a4 a5 h1 h4 h5 => by cases (R_r0_1.symm.trans h1); cases (R_r0_4.symm.trans h4); cases (R_r0_5.symm.trans h5); intro h9; exfalso; omega, hI154, (CM.cons S7 (CM.cons S35 (CM.cons S59 (CM.cons S82 (CM.cons S110 (CM.cons S131 (CM.mono S156 (by decide) (by decide)) (by decide) (by decide)) (by decide) (by decide)) (by decide) (by decide)) (by decide) (by decide)) (by decide) (by decide)) (by decide) (by decide))⟩
                        refine k_goto C (pc2 := 192) rfl rfl ?_
                        refine z_iinc C (z := 1) (lw := fun x190 => [(8, .int x190), (0, .ref r0), (1, .int n1), (2, .int x104), (3, .int x19), (4, .int x23), (5, .int x32), (6, .int x56), (7, .int x79)]) rfl rfl rfl (Nat.le_of_ble_eq_true rfl) rfl ⟨by omega, by omega⟩ (fun _ => rfl) (fun x190 ex190 => ?_)
                        show V 195 [(8, .int x190), (0, .ref r0), (1, .int n1), (2, .int x104), (3, .int x19), (4, .int x23), (5, .int x32), (6, .int x56), (7, .int x79)] _ _ _ _
                        refine k_goto C (pc2 := 90) rfl rfl ?_
                        refine k_sub S [(0, .ref r0), (1, .int n1), (2, .int x104), (3, .int x19), (4, .int x23), (5, .int x32), (6, .int x56), (7, .int x79), (8, .int x190)] (List.forall_mem_cons.mpr ⟨List.mem_of_getElem? (i := 1) rfl, List.forall_mem_cons.mpr ⟨List.mem_of_getElem? (i := 2) rfl, List.forall_mem_cons.mpr ⟨List.mem_of_getElem? (i := 3) rfl, List.forall_mem_cons.mpr ⟨List.mem_of_getElem? (i := 4) rfl, List.forall_mem_cons.mpr ⟨List.mem_of_getElem? (i := 5) rfl, List.forall_mem_cons.mpr ⟨List.mem_of_getElem? (i := 6) rfl, List.forall_mem_cons.mpr ⟨List.mem_of_getElem? (i := 7) rfl, List.forall_mem_cons.mpr ⟨List.mem_of_getElem? (i := 8) rfl, List.forall_mem_cons.mpr ⟨List.mem_of_getElem? (i := 0) rfl, fun _ h => nomatch h⟩⟩⟩⟩⟩⟩⟩⟩⟩) ?_
                        exact ihJ100 _ (by omega) I154 L155 x104 x190 rfl hI154 (CM.cons S110 (CM.cons S131 (CM.mono S156 (by decide) (by decide)) (by decide) (by decide)) (by decide) (by decide)) (fun r z0 z1 => ((F157 r z0 z1).trans ((congrFun (CM.j0 S131 R_r0_4 (by decide)) r).trans (F112 r z0 z1)))) (fun r z0 z1 => ((F158 r z0 z1).trans ((congrFun (CM.j0 S131 R_r0_5 (by decide)) r).trans (F113 r z0 z1)))) (by omega) (by omega) (by omega) (by omega) (by omega) (by first | exact CTL.n ff90_1 (MTB.nhi hr111 hhi2 hgh (by omega) (by omega) (by omega) (by omega)) (by omega) (by omega) | exact CTL.n ff90_1 (MTB.ndt hDT (by omega) (by omega) (by omega) (by omega) (by omega) (by omega) ⟨by omega, by omega⟩ ⟨by omega, by omega⟩ ⟨by omega, by omega⟩ ⟨by omega, by omega⟩) (by omega) (by omega) | exact CTL.n ff90_1 (fun z9 => by have h9 := (MTB.lke hMX hM40 hN41 hp1 hp2 hLK (by rw [e160]; omega) (by rw [e171]; omega) hDT (by first | rfl | omega) (by omega) (by omega) (by omega) (by omega) (by omega) (by omega) (by omega) (by omega) (by omega) (by omega) (by omega) ⟨by omega, by omega⟩ ⟨by omega, by omega⟩ ⟨by omega, by omega⟩ ⟨by omega, by omega⟩ (by omega)).mpr z9; omega) (by omega) (by omega) | exact CTL.y ff90_1 ((MTB.lke hMX hM40 hN41 hp1 hp2 hLK (by rw [e160]; omega) (by rw [e171]; omega) hDT (by first | rfl | omega) (by omega) (by omega) (by omega) (by omega) (by omega) (by omega) (by omega) (by omega) (by omega) (by omega) (by omega) ⟨by omega, by omega⟩ ⟨by omega, by omega⟩ ⟨by omega, by omega⟩ ⟨by omega, by omega⟩ (by omega)).mp ⟨by omega, by omega⟩) (by omega) (by omega) (by omega) (by omega)) (by first | exact hN40 | exact hM40 | exact ff90_2) (by first | exact hN41 | exact hM41 | exact ff90_3) (by first | exact hA2 | exact hA1 | exact ff90_4) (by omega) (by omega) (by omega) (by omega)
                      refine k_goto C (pc2 := 192) rfl rfl ?_
                      refine z_iinc C (z := 1) (lw := fun x191 => [(8, .int x191), (0, .ref r0), (1, .int n1), (2, .int x104), (3, .int x19), (4, .int x23), (5, .int x32), (6, .int x56), (7, .int x79)]) rfl rfl rfl (Nat.le_of_ble_eq_true rfl) rfl ⟨by omega, by omega⟩ (fun _ => rfl) (fun x191 ex191 => ?_)
                      show V 195 [(8, .int x191), (0, .ref r0), (1, .int n1), (2, .int x104), (3, .int x19), (4, .int x23), (5, .int x32), (6, .int x56), (7, .int x79)] _ _ _ _
                      refine k_goto C (pc2 := 90) rfl rfl ?_
                      refine k_sub S [(0, .ref r0), (1, .int n1), (2, .int x104), (3, .int x19), (4, .int x23), (5, .int x32), (6, .int x56), (7, .int x79), (8, .int x191)] (List.forall_mem_cons.mpr ⟨List.mem_of_getElem? (i := 1) rfl, List.forall_mem_cons.mpr ⟨List.mem_of_getElem? (i := 2) rfl, List.forall_mem_cons.mpr ⟨List.mem_of_getElem? (i := 3) rfl, List.forall_mem_cons.mpr ⟨List.mem_of_getElem? (i := 4) rfl, List.forall_mem_cons.mpr ⟨List.mem_of_getElem? (i := 5) rfl, List.forall_mem_cons.mpr ⟨List.mem_of_getElem? (i := 6) rfl, List.forall_mem_cons.mpr ⟨List.mem_of_getElem? (i := 7) rfl, List.forall_mem_cons.mpr ⟨List.mem_of_getElem? (i := 8) rfl, List.forall_mem_cons.mpr ⟨List.mem_of_getElem? (i := 0) rfl, fun _ h => nomatch h⟩⟩⟩⟩⟩⟩⟩⟩⟩) ?_
                      exact ihJ100 _ (by omega) I129 L130 x104 x191 rfl hI129 (CM.cons S110 (CM.mono S131 (by decide) (by decide)) (by decide) (by decide)) (fun r z0 z1 => ((congrFun (CM.j0 S131 R_r0_4 (by decide)) r).trans (F112 r z0 z1))) (fun r z0 z1 => ((congrFun (CM.j0 S131 R_r0_5 (by decide)) r).trans (F113 r z0 z1))) (by omega) (by omega) (by omega) (by omega) (by omega) (by first | exact CTL.n ff90_1 (MTB.nhi hr111 hhi2 hgh (by omega) (by omega) (by omega) (by omega)) (by omega) (by omega) | exact CTL.n ff90_1 (MTB.ndt hDT (by omega) (by omega) (by omega) (by omega) (by omega) (by omega) ⟨by omega, by omega⟩ ⟨by omega, by omega⟩ ⟨by omega, by omega⟩ ⟨by omega, by omega⟩) (by omega) (by omega) | exact CTL.n ff90_1 (fun z9 => by have h9 := (MTB.lke hMX hM40 hN41 hp1 hp2 hLK (by rw [e133]; omega) (by rw [hUnknown]; omega) hDT (by first | rfl | omega) (by omega) (by omega) (by omega) (by omega) (by omega) (by omega) (by omega) (by omega) (by omega) (by omega) (by omega) ⟨by omega, by omega⟩ ⟨by omega, by omega⟩ ⟨by omega, by omega⟩ ⟨by omega, by omega⟩ (by omega)).mpr z9; omega) (by omega) (by omega) | exact CTL.y ff90_1 ((MTB.lke hMX hM40 hN41 hp1 hp2 hLK (by rw [e133]; omega) (by rw [hUnknown]; omega) hDT (by first | rfl | omega) (by omega) (by omega) (by omega) (by omega) (by omega) (by omega) (by omega) (by omega) (by omega) (by omega) (by omega) ⟨by omega, by omega⟩ ⟨by omega, by omega⟩ ⟨by omega, by omega⟩ ⟨by omega, by omega⟩ (by omega)).mp ⟨by omega, by omega⟩) (by omega) (by omega) (by omega) (by omega)) (by first | exact hN40 | exact hM40 | exact ff90_2) (by first | exact hN41 | exact hM41 | exact ff90_3) (by first | exact hA2 | exact hA1 | exact ff90_4) (by omega) (by omega) (by omega) (by omega)
                    refine k_goto C (pc2 := 192) rfl rfl ?_
                    refine z_iinc C (z := 1) (lw := fun x192 => [(8, .int x192), (0, .ref r0), (1, .int n1), (2, .int x104), (3, .int x19), (4, .int x23), (5, .int x32), (6, .int x56), (7, .int x79)]) rfl rfl rfl (Nat.le_of_ble_eq_true rfl) rfl ⟨by omega, by omega⟩ (fun _ => rfl) (fun x192 ex192 => ?_)
                    show V 195 [(8, .int x192), (0, .ref r0), (1, .int n1), (2, .int x104), (3, .int x19), (4, .int x23), (5, .int x32), (6, .int x56), (7, .int x79)] _ _ _ _
                    refine k_goto C (pc2 := 90) rfl rfl ?_
                    refine k_sub S [(0, .ref r0), (1, .int n1), (2, .int x104), (3, .int x19), (4, .int x23), (5, .int x32), (6, .int x56), (7, .int x79), (8, .int x192)] (List.forall_mem_cons.mpr ⟨List.mem_of_getElem? (i := 1) rfl, List.forall_mem_cons.mpr ⟨List.mem_of_getElem? (i := 2) rfl, List.forall_mem_cons.mpr ⟨List.mem_of_getElem? (i := 3) rfl, List.forall_mem_cons.mpr ⟨List.mem_of_getElem? (i := 4) rfl, List.forall_mem_cons.mpr ⟨List.mem_of_getElem? (i := 5) rfl, List.forall_mem_cons.mpr ⟨List.mem_of_getElem? (i := 6) rfl, List.forall_mem_cons.mpr ⟨List.mem_of_getElem? (i := 7) rfl, List.forall_mem_cons.mpr ⟨List.mem_of_getElem? (i := 8) rfl, List.forall_mem_cons.mpr ⟨List.mem_of_getElem? (i := 0) rfl, fun _ h => nomatch h⟩⟩⟩⟩⟩⟩⟩⟩⟩) ?_
                    exact ihJ100 _ (by omega) I102 L103 x104 x192 rfl hI111 (CM.mono S110 (by decide) (by decide)) (fun r z0 z1 => (F112 r z0 z1)) (fun r z0 z1 => (F113 r z0 z1)) (by omega) (by omega) (by omega) (by omega) (by omega) (by first | exact CTL.n ff90_1 (MTB.nhi hr111 hhi2 hgh (by omega) (by omega) (by omega) (by omega)) (by omega) (by omega) | exact CTL.n ff90_1 (MTB.ndt hDT (by omega) (by omega) (by omega) (by omega) (by omega) (by omega) ⟨by omega, by omega⟩ ⟨by omega, by omega⟩ ⟨by omega, by omega⟩ ⟨by omega, by omega⟩) (by omega) (by omega) | exact CTL.n ff90_1 (fun z9 => by have h9 := (MTB.lke hMX hM40 hN41 hp1 hp2 hLK (by rw [e115]; omega) (by rw [hUnknown]; omega) hDT (by first | rfl | omega) (by omega) (by omega) (by omega) (by omega) (by omega) (by omega) (by omega) (by omega) (by omega) (by omega) (by omega) ⟨by omega, by omega⟩ ⟨by omega, by omega⟩ ⟨by omega, by omega⟩ ⟨by omega, by omega⟩ (by omega)).mpr z9; omega) (by omega) (by omega) | exact CTL.y ff90_1 ((MTB.lke hMX hM40 hN41 hp1 hp2 hLK (by rw [e115]; omega) (by rw [hUnknown]; omega) hDT (by first | rfl | omega) (by omega) (by omega) (by omega) (by omega) (by omega) (by omega) (by omega) (by omega) (by omega) (by omega) (by omega) ⟨by omega, by omega⟩ ⟨by omega, by omega⟩ ⟨by omega, by omega⟩ ⟨by omega, by omega⟩ (by omega)).mp ⟨by omega, by omega⟩) (by omega) (by omega) (by omega) (by omega)) (by first | exact hN40 | exact hM40 | exact ff90_2) (by first | exact hN41 | exact hM41 | exact ff90_3) (by first | exact hA2 | exact hA1 | exact ff90_4) (by omega) (by omega) (by omega) (by omega)
                refine k_istore C (lw := [(8, .int x99), (0, .ref r0), (1, .int n1), (2, .int x76), (3, .int x19), (4, .int x23), (5, .int x32), (6, .int x56), (7, .int x79)]) rfl rfl (Nat.le_of_ble_eq_true rfl) rfl ?_
                refine k_sub S [(0, .ref r0), (1, .int n1), (2, .int x76), (3, .int x19), (4, .int x23), (5, .int x32), (6, .int x56), (7, .int x79), (8, .int x99)] (List.forall_mem_cons.mpr ⟨List.mem_of_getElem? (i := 1) rfl, List.forall_mem_cons.mpr ⟨List.mem_of_getElem? (i := 2) rfl, List.forall_mem_cons.mpr ⟨List.mem_of_getElem? (i := 3) rfl, List.forall_mem_cons.mpr ⟨List.mem_of_getElem? (i := 4) rfl, List.forall_mem_cons.mpr ⟨List.mem_of_getElem? (i := 5) rfl, List.forall_mem_cons.mpr ⟨List.mem_of_getElem? (i := 6) rfl, List.forall_mem_cons.mpr ⟨List.mem_of_getElem? (i := 7) rfl, List.forall_mem_cons.mpr ⟨List.mem_of_getElem? (i := 8) rfl, List.forall_mem_cons.mpr ⟨List.mem_of_getElem? (i := 0) rfl, fun _ h => nomatch h⟩⟩⟩⟩⟩⟩⟩⟩⟩) ?_
                exact J100 _ I74 L75 x76 x99 rfl hI83 CM.rf (fun r z0 z1 => rfl) (fun r z0 z1 => rfl) (by omega) (by omega) (by omega) (by omega) (by omega) (by exact CTL.qd ff58_1 (by omega)) (by exact ff58_2) (by exact ff58_3) (by exact ff58_4) (by omega) (by omega) (by omega) (by omega)
              refine k_goto C (pc2 := 198) rfl rfl ?_
              refine z_iinc C (z := 1) (lw := fun x193 => [(7, .int x193), (0, .ref r0), (1, .int n1), (2, .int x76), (3, .int x19), (4, .int x23), (5, .int x32), (6, .int x56)]) rfl rfl rfl (Nat.le_of_ble_eq_true rfl) rfl ⟨by omega, by omega⟩ (fun _ => rfl) (fun x193 ex193 => ?_)
              show V 201 [(7, .int x193), (0, .ref r0), (1, .int n1), (2, .int x76), (3, .int x19), (4, .int x23), (5, .int x32), (6, .int x56)] _ _ _ _
              refine k_goto C (pc2 := 58) rfl rfl ?_
              refine k_sub S [(0, .ref r0), (1, .int n1), (2, .int x76), (3, .int x19), (4, .int x23), (5, .int x32), (6, .int x56), (7, .int x193)] (List.forall_mem_cons.mpr ⟨List.mem_of_getElem? (i := 1) rfl, List.forall_mem_cons.mpr ⟨List.mem_of_getElem? (i := 2) rfl, List.forall_mem_cons.mpr ⟨List.mem_of_getElem? (i := 3) rfl, List.forall_mem_cons.mpr ⟨List.mem_of_getElem? (i := 4) rfl, List.forall_mem_cons.mpr ⟨List.mem_of_getElem? (i := 5) rfl, List.forall_mem_cons.mpr ⟨List.mem_of_getElem? (i := 6) rfl, List.forall_mem_cons.mpr ⟨List.mem_of_getElem? (i := 7) rfl, List.forall_mem_cons.mpr ⟨List.mem_of_getElem? (i := 0) rfl, fun _ h => nomatch h⟩⟩⟩⟩⟩⟩⟩⟩) ?_
              exact ihJ72 _ (by omega) I74 L75 x76 x193 rfl hI83 (CM.mono S82 (by decide) (by decide)) (fun r z0 z1 => (F84 r z0 z1)) (fun r z0 z1 => (F85 r z0 z1)) (by omega) (by omega) (by omega) (by omega) (by omega) (by first | exact CTL.cn ff58_1 (fun d9 h9 => MTB.nlo hr79 hlow hgl (by omega) (by omega) (by omega) (by omega)) (by omega) (by omega) | exact CTL.c ff90_1 (by omega) (by omega) (by omega)) (by first | exact ff90_2 | exact ff58_2) (by first | exact ff90_3 | exact ff58_3) (by first | exact ff90_4 | exact ff58_4) (by omega) (by omega) (by omega)
          refine k_istore C (lw := [(7, .int x71), (0, .ref r0), (1, .int n1), (2, .int x53), (3, .int x19), (4, .int x23), (5, .int x32), (6, .int x56)]) rfl rfl (Nat.le_of_ble_eq_true rfl) rfl ?_
          refine k_sub S [(0, .ref r0), (1, .int n1), (2, .int x53), (3, .int x19), (4, .int x23), (5, .int x32), (6, .int x56), (7, .int x71)] (List.forall_mem_cons.mpr ⟨List.mem_of_getElem? (i := 1) rfl, List.forall_mem_cons.mpr ⟨List.mem_of_getElem? (i := 2) rfl, List.forall_mem_cons.mpr ⟨List.mem_of_getElem? (i := 3) rfl, List.forall_mem_cons.mpr ⟨List.mem_of_getElem? (i := 4) rfl, List.forall_mem_cons.mpr ⟨List.mem_of_getElem? (i := 5) rfl, List.forall_mem_cons.mpr ⟨List.mem_of_getElem? (i := 6) rfl, List.forall_mem_cons.mpr ⟨List.mem_of_getElem? (i := 7) rfl, List.forall_mem_cons.mpr ⟨List.mem_of_getElem? (i := 0) rfl, fun _ h => nomatch h⟩⟩⟩⟩⟩⟩⟩⟩) ?_
          exact J72 _ I51 L52 x53 x71 rfl hI60 CM.rf (fun r z0 z1 => rfl) (fun r z0 z1 => rfl) (by omega) (by omega) (by omega) (by omega) (by omega) (by exact CTL.qc ff46_1 (by omega)) (by exact ff46_2) (by exact ff46_3) (by exact ff46_4) (by omega) (by omega) (by omega)
      refine k_istore C (lw := [(6, .int x48), (0, .ref r0), (1, .int n1), (2, .int x29), (3, .int x19), (4, .int x23), (5, .int x32)]) rfl rfl (Nat.le_of_ble_eq_true rfl) rfl ?_
      refine k_sub S [(0, .ref r0), (1, .int n1), (2, .int x29), (3, .int x19), (4, .int x23), (5, .int x32), (6, .int x48)] (List.forall_mem_cons.mpr ⟨List.mem_of_getElem? (i := 1) rfl, List.forall_mem_cons.mpr ⟨List.mem_of_getElem? (i := 2) rfl, List.forall_mem_cons.mpr ⟨List.mem_of_getElem? (i := 3) rfl, List.forall_mem_cons.mpr ⟨List.mem_of_getElem? (i := 4) rfl, List.forall_mem_cons.mpr ⟨List.mem_of_getElem? (i := 5) rfl, List.forall_mem_cons.mpr ⟨List.mem_of_getElem? (i := 6) rfl, List.forall_mem_cons.mpr ⟨List.mem_of_getElem? (i := 0) rfl, fun _ h => nomatch h⟩⟩⟩⟩⟩⟩⟩) ?_
      exact J49 _ I27 L28 x29 x48 rfl hI36 CM.rf (fun r z0 z1 => rfl) (fun r z0 z1 => rfl) (by omega) (by omega) (by omega) (by omega) (by omega) (by exact CTL.qb ff34_1 (by omega)) (by exact ff34_2) (by exact ff34_3) (by exact ff34_4) (by omega) (by omega)
  refine k_istore C (lw := [(5, .int x24), (4, .int x23), (3, .int x19), (2, .int x1), (0, .ref r0), (1, .int n1)]) rfl rfl (Nat.le_of_ble_eq_true rfl) rfl ?_
  refine k_sub S [(0, .ref r0), (1, .int n1), (2, .int x1), (3, .int x19), (4, .int x23), (5, .int x24)] (List.forall_mem_cons.mpr ⟨List.mem_of_getElem? (i := 4) rfl, List.forall_mem_cons.mpr ⟨List.mem_of_getElem? (i := 5) rfl, List.forall_mem_cons.mpr ⟨List.mem_of_getElem? (i := 3) rfl, List.forall_mem_cons.mpr ⟨List.mem_of_getElem? (i := 2) rfl, List.forall_mem_cons.mpr ⟨List.mem_of_getElem? (i := 1) rfl, List.forall_mem_cons.mpr ⟨List.mem_of_getElem? (i := 0) rfl, fun _ h => nomatch h⟩⟩⟩⟩⟩⟩) ?_
  exact J25 _ I5 L6 x1 x24 rfl hI5 CM.rf (fun r z0 z1 => rfl) (fun r z0 z1 => rfl) (by omega) (by omega) (by omega) (by omega) (by omega) (by exact CTL.z (by omega) (by omega) rfl rfl rfl) (by exact SMR.eq (CM.j0 S7 R_r0_5 (by decide))) (by exact SMR.eq (CM.j0 S7 R_r0_5 (by decide))) (by exact eVA) (by omega)

theorem a_X12_keeps_x {d : Nat} {T N : Nat → Nat} {I : IT} {L : LT} {R : RT} {A : Nat → Prop} {r0 : Nat} {n1 : Int32} (hI : IM R r0 I) (H_r0 : (h_MD T N R A) r0) (b0_n1 : 0 ≤ n1.toInt) (b1_n1 : n1.toInt ≤ 15) (hp0 : ∀ a1, R r0 1 = some a1 → n1.toInt < (I a1 1).toInt) (hp1 : ∀ a1, R r0 1 = some a1 → CNW (I a1)) (hp2 : ∀ a1, R r0 1 = some a1 → PRM (I a1 0).toInt) : Ex (d + 7) 277 [.ref r0, .int n1] (T, N, I, L, R) 0 0 (pI T N R (fun x9 I9 L9 => (1 ≤ x9.toInt) ∧ (∀ a1, R r0 1 = some a1 → FNX x9.toInt (I a1 0).toInt (I a1 (6 + 10 * n1.toNatClampNeg)).toInt (I a1 (6 + 10 * n1.toNatClampNeg)).toInt (fun k => (I a1 (7 + 10 * n1.toNatClampNeg + k)).toInt) (fun k => (I a1 (7 + 10 * n1.toNatClampNeg + k)).toInt)) ∧ (IM R r0 I9 ∧ CM A R r0 [6, 7, 8, 9] [4, 5, 25] I L I9 L9))) := by
  refine ⟨_, rfl, Nat.le_of_ble_eq_true rfl, fun V C S => ?_⟩
  show V 0 [(0, .ref r0), (1, .int n1)] [] (T, N, I, L, R) 0 0
  have gn1 := rg n1
  obtain ⟨T_r0, A_r0, ⟨r0_1, R_r0_1, H_r0_1⟩, ⟨r0_2, R_r0_2, H_r0_2⟩, ⟨r0_4, R_r0_4, H_r0_4⟩, ⟨r0_5, R_r0_5, H_r0_5⟩, ⟨r0_10, R_r0_10, H_r0_10⟩, ⟨r0_18, R_r0_18, H_r0_18⟩, ⟨r0_20, R_r0_20, H_r0_20⟩, ⟨r0_21, R_r0_21, H_r0_21⟩, ⟨r0_22, R_r0_22, H_r0_22⟩, ⟨r0_23, R_r0_23, H_r0_23⟩, ⟨r0_25, R_r0_25, H_r0_25⟩, ⟨r0_26, R_r0_26, H_r0_26⟩, ⟨r0_27, R_r0_27, H_r0_27⟩, ⟨r0_28, R_r0_28, H_r0_28⟩, ⟨r0_34, R_r0_34, H_r0_34⟩, J_r0, Y_r0⟩ := id H_r0
  have G_r0 : mF T R r0 := ⟨J_r0, Y_r0, T_r0⟩
  obtain ⟨w_r0_1_1, k0_r0_1_1⟩ : ∃ x, I r0_1 1 = x := ⟨_, rfl⟩
  have gw_r0_1_1 := rg w_r0_1_1
  have ow_r0_1_1 := IM.c1 hI R_r0_1 k0_r0_1_1
  obtain ⟨w_r0_1_0, k0_r0_1_0⟩ : ∃ x, I r0_1 0 = x := ⟨_, rfl⟩
  have gw_r0_1_0 := rg w_r0_1_0
  have ow_r0_1_0 := IM.pi hI R_r0_1 k0_r0_1_0
  obtain ⟨w_r0_1_E_6_10_n1_toNatClampNeg, k0_r0_1_E_6_10_n1_toNatClampNeg⟩ : ∃ x, I r0_1 (6 + 10 * n1.toNatClampNeg) = x := ⟨_, rfl⟩
  have gw_r0_1_E_6_10_n1_toNatClampNeg := rg w_r0_1_E_6_10_n1_toNatClampNeg
  have hp0 := hp0 r0_1 R_r0_1
  have hp1 := hp1 r0_1 R_r0_1
  have hp2 := hp2 r0_1 R_r0_1
  try simp only [k0_r0_1_1, k0_r0_1_0, k0_r0_1_E_6_10_n1_toNatClampNeg] at hp0
  try simp only [k0_r0_1_1, k0_r0_1_0, k0_r0_1_E_6_10_n1_toNatClampNeg] at hp1
  try simp only [k0_r0_1_1, k0_r0_1_0, k0_r0_1_E_6_10_n1_toNatClampNeg] at hp2
  try simp only [k0_r0_1_0] at hp2
  have hpC := hp1
  have hpP := hp2
  refine k_aload_n C rfl rfl rfl ?_
  refine z_bipush C (z := 40) rfl rfl rfl (fun x1 ex1 => ?_)
  refine k_iload_n C rfl rfl rfl ?_
  have hw4 : I r0_1 = I r0_1 := rfl
  have q2 : x1.toNatClampNeg = 40 := nck (by omega)
  refine c_VV C (a_X12_takes_e hI H_r0 (by omega) (by omega) (by omega) (by omega)) rfl rfl rfl rfl rfl ⟨_, rfl, rfl, T_r0, Nat.le_of_ble_eq_true rfl⟩ rfl rfl (Nat.le_of_ble_eq_true rfl) (Nat.le_of_ble_eq_true rfl) (Nat.le_of_ble_eq_true rfl) ?_
  rintro I4 L5 ⟨p0v3, p1v3, p2v3, p3v3, p4v3, p5v3, hI4, S6⟩
  have p0v3 := p0v3 r0_4 R_r0_4
  have p1v3 := p1v3 r0_1 r0_4 R_r0_1 R_r0_4
  have p2v3 := p2v3 r0_1 r0_4 r0_5 R_r0_1 R_r0_4 R_r0_5
  have p3v3 := p3v3 r0_1 r0_4 r0_5 R_r0_1 R_r0_4 R_r0_5
  have p4v3 := p4v3 r0_4 R_r0_4
  have p5v3 := p5v3 r0_5 R_r0_5
  try simp only [q2] at p4v3
  try simp only [q2] at p5v3
  have e7 := CM.j S6 R_r0_1 (by decide) k0_r0_1_1
  have e8 := CM.j S6 R_r0_1 (by decide) k0_r0_1_0
  have e9 := CM.j S6 R_r0_1 (by decide) k0_r0_1_E_6_10_n1_toNatClampNeg
  obtain ⟨x10, e11⟩ : ∃ x, I4 r0_4 40 = x := ⟨_, rfl⟩
  have gx10 := rg x10
  have ox10 := IM.dgR hI4 R_r0_4 e11
  try simp only [q2, k0_r0_1_1, k0_r0_1_0, k0_r0_1_E_6_10_n1_toNatClampNeg, e11] at p0v3
  try have q0v3 := congrArg Int32.toInt p0v3
  try simp only [q2, k0_r0_1_1, k0_r0_1_0, k0_r0_1_E_6_10_n1_toNatClampNeg, e11] at p1v3
  try have q1v3 := congrArg Int32.toInt p1v3
  try simp only [q2, k0_r0_1_1, k0_r0_1_0, k0_r0_1_E_6_10_n1_toNatClampNeg, e11] at p2v3
  try have q2v3 := congrArg Int32.toInt p2v3
  try simp only [q2, k0_r0_1_1, k0_r0_1_0, k0_r0_1_E_6_10_n1_toNatClampNeg, e11] at p3v3
  try have q3v3 := congrArg Int32.toInt p3v3
  have hd940 := p1v3
  have hT940 := TKE.w p3v3 hw4
  have hcr1 := CNW.g (f := n1) hpC (by rw [k0_r0_1_E_6_10_n1_toNatClampNeg]) (by rw [k0_r0_1_0]) (by omega) (by simp only [k0_r0_1_1]; omega)
  have hRW40 : RWF I4 r0_5 40 w_r0_1_E_6_10_n1_toNatClampNeg.toInt (fun k => (I r0_1 (7 + 10 * n1.toNatClampNeg + k)).toInt) := fun k hk => by (rw [hT940 k (by omega), show 6 + 10 * n1.toNatClampNeg + 1 + k = 7 + 10 * n1.toNatClampNeg + k from by omega])
  refine k_aload_n C rfl rfl rfl ?_
  refine z_bipush C (z := 41) rfl rfl rfl (fun x12 ex12 => ?_)
  refine k_iload_n C rfl rfl rfl ?_
  have hw11 := CM.j0 (W := []) (WA := [4, 5]) (CM.mono S6 (by decide) (by decide)) R_r0_1 (by decide)
  have q13 : x12.toNatClampNeg = 41 := nck (by omega)
  refine c_VV C (a_X12_takes_e hI4 H_r0 (by omega) (by omega) (by omega) (by omega)) rfl rfl rfl rfl rfl ⟨_, rfl, rfl, T_r0, Nat.le_of_ble_eq_true rfl⟩ rfl rfl (Nat.le_of_ble_eq_true rfl) (Nat.le_of_ble_eq_true rfl) (Nat.le_of_ble_eq_true rfl) ?_
  rintro I15 L16 ⟨p0v14, p1v14, p2v14, p3v14, p4v14, p5v14, hI15, S17⟩
  have p0v14 := p0v14 r0_4 R_r0_4
  have p1v14 := p1v14 r0_1 r0_4 R_r0_1 R_r0_4
  have p2v14 := p2v14 r0_1 r0_4 r0_5 R_r0_1 R_r0_4 R_r0_5
  have p3v14 := p3v14 r0_1 r0_4 r0_5 R_r0_1 R_r0_4 R_r0_5
  have p4v14 := p4v14 r0_4 R_r0_4
  have p5v14 := p5v14 r0_5 R_r0_5
  try simp only [q13] at p4v14
  try simp only [q13] at p5v14
  have e18 := CM.j S17 R_r0_1 (by decide) e7
  have e19 := CM.j S17 R_r0_1 (by decide) e8
  have e20 := CM.j S17 R_r0_1 (by decide) e9
  have e21 := (p4v14 40 (by first | decide | exact ncne (by omega) (by omega) (by omega) | exact nckn (by omega) (by omega) | exact (nckn (by omega) (by omega)).symm)).trans e11
  obtain ⟨x22, e23⟩ : ∃ x, I15 r0_4 41 = x := ⟨_, rfl⟩
  have gx22 := rg x22
  have ox22 := IM.dgR hI15 R_r0_4 e23
  try simp only [q13, e7, e8, e9, e11, e23] at p0v14
  try have q0v14 := congrArg Int32.toInt p0v14
  try simp only [q13, e7, e8, e9, e11, e23] at p1v14
  try have q1v14 := congrArg Int32.toInt p1v14
  try simp only [q13, e7, e8, e9, e11, e23] at p2v14
  try have q2v14 := congrArg Int32.toInt p2v14
  try simp only [q13, e7, e8, e9, e11, e23] at p3v14
  try have q3v14 := congrArg Int32.toInt p3v14
  have hd941 := p1v14
  have hT941 := TKE.w p3v14 hw11
  have hcr1 := CNW.g (f := n1) hpC (by rw [k0_r0_1_E_6_10_n1_toNatClampNeg]) (by rw [k0_r0_1_0]) (by omega) (by simp only [k0_r0_1_1]; omega)
  have hRW41 : RWF I15 r0_5 41 w_r0_1_E_6_10_n1_toNatClampNeg.toInt (fun k => (I r0_1 (7 + 10 * n1.toNatClampNeg + k)).toInt) := fun k hk => by (rw [hT941 k (by omega), show 6 + 10 * n1.toNatClampNeg + 1 + k = 7 + 10 * n1.toNatClampNeg + k from by omega])
  have hRW40b := RWF.sm hRW40 (fun k hk => p5v14 _ (by omega)) (by omega)
  refine k_aload_n C rfl rfl rfl ?_
  refine z_bipush C (z := 40) rfl rfl rfl (fun x24 ex24 => ?_)
  have q25 : x24.toNatClampNeg = 40 := nck (by omega)
  refine c_VI C (a_X12_isNought_e hI15 H_r0 (by omega) (by omega)) rfl rfl rfl rfl rfl ⟨_, rfl, rfl, T_r0, Nat.le_of_ble_eq_true rfl⟩ rfl rfl (Nat.le_of_ble_eq_true rfl) (Nat.le_of_ble_eq_true rfl) (Nat.le_of_ble_eq_true rfl) ?_
  rintro x26 _ _ ⟨o0x26, o1x26, p0x26, p1x26, rfl, rfl⟩
  have p0x26 := p0x26 r0_4 r0_5 R_r0_4 R_r0_5
  have p1x26 := p1x26 r0_4 r0_5 R_r0_4 R_r0_5
  have gx26 := rg x26
  try simp only [q25, e18, e19, e20, e21, e23] at p0x26
  try have q0x26 := congrArg Int32.toInt p0x26
  try simp only [q25, e18, e19, e20, e21, e23] at p1x26
  try have q1x26 := congrArg Int32.toInt p1x26
  have hN1 := p1x26
  have hE40 : (I15 r0_4 40).toInt = w_r0_1_E_6_10_n1_toNatClampNeg.toInt := by (rw [e21]; omega)
  have hE41 : (I15 r0_4 41).toInt = w_r0_1_E_6_10_n1_toNatClampNeg.toInt := by (rw [e23]; omega)
  refine b_if_ne C (t := 33) rfl rfl rfl (fun c27 => ?_) (fun c27 => ?_)
  · skip
    refine k_aload_n C rfl rfl rfl ?_
    refine c_VI C (a_X12_allTables_x hI15 H_r0 (fun a1 h1 => by cases (R_r0_1.symm.trans h1); simp only [e18, e19, e20, e21, e23]; exact hpP)) rfl rfl rfl rfl rfl ⟨_, rfl, rfl, T_r0, Nat.le_of_ble_eq_true rfl⟩ rfl rfl (Nat.le_of_ble_eq_true rfl) (Nat.le_of_ble_eq_true rfl) (Nat.le_of_ble_eq_true rfl) ?_
    rintro x28 _ _ ⟨p0x28, rfl, rfl⟩
    have p0x28 := p0x28 r0_1 R_r0_1
    have gx28 := rg x28
    try simp only [e18, e19, e20, e21, e23] at p0x28
    try have q0x28 := congrArg Int32.toInt p0x28
    have htb := p0x28
    refine k_goto C (pc2 := 45) rfl rfl ?_
    exact k_iret C rfl (Or.inl rfl) (Nat.le_of_ble_eq_true rfl) (Nat.le_of_ble_eq_true rfl) ⟨_, _, _, rfl, rfl, by refine FNX.pos (p := w_r0_1_0.toInt) (D := w_r0_1_E_6_10_n1_toNatClampNeg.toInt) (f := (fun k => (I r0_1 (7 + 10 * n1.toNatClampNeg + k)).toInt)) ?_ hpP; first | exact FNX.ka hN1 hE40 hRW40b (by omega) (by omega) | exact FNX.kb hN1 hE40 hRW40b hRW41 (by omega) (by omega) (by first | exact hMN | exact hMN rfl | exact hMN (by omega) | exact hMN (by decide)) (by first | rfl | omega) (by omega), fun a1 h1 => by cases (R_r0_1.symm.trans h1); simp only [k0_r0_1_0, k0_r0_1_E_6_10_n1_toNatClampNeg]; first | exact FNX.ka hN1 hE40 hRW40b (by omega) (by omega) | exact FNX.kb hN1 hE40 hRW40b hRW41 (by omega) (by omega) (by first | exact hMN | exact hMN rfl | exact hMN (by omega) | exact hMN (by decide)) (by first | rfl | omega) (by omega), hI15, (CM.cons S6 (CM.mono S17 (by decide) (by decide)) (by decide) (by decide))⟩
  refine k_aload_n C rfl rfl rfl ?_
  refine g_R C rfl rfl rfl T_r0 rfl R_r0_4 ?_
  refine z_bipush C (z := 40) rfl rfl rfl (fun x29 ex29 => ?_)
  obtain ⟨T_r0_4, N_r0_4, A_r0_4⟩ := id H_r0_4
  refine a_I C rfl rfl T_r0_4 (by rw [N_r0_4]; exact vpi (by omega) (by omega)) ((congrArg (I15 r0_4) (nck (n := 40) (by omega))).trans e21) ?_
  refine b_if_ne C (t := 40) rfl rfl rfl (fun c30 => ?_) (fun c30 => ?_)
  · skip
    refine k_aload_n C rfl rfl rfl ?_
    refine z_iconst C (z := 0) rfl rfl rfl (fun x31 ex31 => ?_)
    have q32 : x31.toNatClampNeg = 0 := nck (by omega)
    refine c_VI C (a_X12_tried_x hI15 H_r0 (by omega) (by omega) (fun a4 h4 => by cases (R_r0_4.symm.trans h4); first | omega | (simp only [q32, e18, e19, e20, e21, e23]; omega) | (rw [e21, e23]; omega)) (fun a1 a4 a5 h1 h4 h5 => by cases (R_r0_1.symm.trans h1); cases (R_r0_4.symm.trans h4); cases (R_r0_5.symm.trans h5); simp only [q32, e18, e19, e20, e21, e23]; intro k hk; exact (RWF.cn hRW40b hcr1) k (by omega)) (fun a1 a4 a5 h1 h4 h5 => by cases (R_r0_1.symm.trans h1); cases (R_r0_4.symm.trans h4); cases (R_r0_5.symm.trans h5); simp only [q32, e18, e19, e20, e21, e23]; intro k hk; exact (RWF.cn hRW41 hcr1) k (by omega))) rfl rfl rfl rfl rfl ⟨_, rfl, rfl, T_r0, Nat.le_of_ble_eq_true rfl⟩ rfl rfl (Nat.le_of_ble_eq_true rfl) (Nat.le_of_ble_eq_true rfl) (Nat.le_of_ble_eq_true rfl) ?_
    rintro x33 I34 L35 ⟨p0x33, p1x33, hI34, S36⟩
    have p0x33 := p0x33 r0_1 r0_4 r0_5 R_r0_1 R_r0_4 R_r0_5
    have p1x33 := p1x33 r0_1 r0_4 r0_5 R_r0_1 R_r0_4 R_r0_5
    have e37 := CM.j S36 R_r0_1 (by decide) e18
    have e38 := CM.j S36 R_r0_1 (by decide) e19
    have e39 := CM.j S36 R_r0_1 (by decide) e20
    have gx33 := rg x33
    try simp only [q32, e18, e19, e20, e21, e23] at p0x33
    try have q0x33 := congrArg Int32.toInt p0x33
    try simp only [q32, e18, e19, e20, e21, e23] at p1x33
    try have q1x33 := congrArg Int32.toInt p1x33
    have hMN := p1x33
    exact k_iret C rfl (Or.inl rfl) (Nat.le_of_ble_eq_true rfl) (Nat.le_of_ble_eq_true rfl) ⟨_, _, _, rfl, rfl, by refine FNX.pos (p := w_r0_1_0.toInt) (D := w_r0_1_E_6_10_n1_toNatClampNeg.toInt) (f := (fun k => (I r0_1 (7 + 10 * n1.toNatClampNeg + k)).toInt)) ?_ hpP; first | exact FNX.ka hN1 hE40 hRW40b (by omega) (by omega) | exact FNX.kb hN1 hE40 hRW40b hRW41 (by omega) (by omega) (by first | exact hMN | exact hMN rfl | exact hMN (by omega) | exact hMN (by decide)) (by first | rfl | omega) (by omega), fun a1 h1 => by cases (R_r0_1.symm.trans h1); simp only [k0_r0_1_0, k0_r0_1_E_6_10_n1_toNatClampNeg]; first | exact FNX.ka hN1 hE40 hRW40b (by omega) (by omega) | exact FNX.kb hN1 hE40 hRW40b hRW41 (by omega) (by omega) (by first | exact hMN | exact hMN rfl | exact hMN (by omega) | exact hMN (by decide)) (by first | rfl | omega) (by omega), hI34, (CM.cons S6 (CM.cons S17 (CM.mono S36 (by decide) (by decide)) (by decide) (by decide)) (by decide) (by decide))⟩
  refine k_aload_n C rfl rfl rfl ?_
  refine c_VI C (a_X12_allTables_x hI15 H_r0 (fun a1 h1 => by cases (R_r0_1.symm.trans h1); simp only [e18, e19, e20, e21, e23]; exact hpP)) rfl rfl rfl rfl rfl ⟨_, rfl, rfl, T_r0, Nat.le_of_ble_eq_true rfl⟩ rfl rfl (Nat.le_of_ble_eq_true rfl) (Nat.le_of_ble_eq_true rfl) (Nat.le_of_ble_eq_true rfl) ?_
  rintro x42 _ _ ⟨p0x42, rfl, rfl⟩
  have p0x42 := p0x42 r0_1 R_r0_1
  have gx42 := rg x42
  try simp only [e18, e19, e20, e21, e23] at p0x42
  try have q0x42 := congrArg Int32.toInt p0x42
  have htb := p0x42
  refine k_goto C (pc2 := 45) rfl rfl ?_
  exact k_iret C rfl (Or.inl rfl) (Nat.le_of_ble_eq_true rfl) (Nat.le_of_ble_eq_true rfl) ⟨_, _, _, rfl, rfl, by refine FNX.pos (p := w_r0_1_0.toInt) (D := w_r0_1_E_6_10_n1_toNatClampNeg.toInt) (f := (fun k => (I r0_1 (7 + 10 * n1.toNatClampNeg + k)).toInt)) ?_ hpP; first | exact FNX.ka hN1 hE40 hRW40b (by omega) (by omega) | exact FNX.kb hN1 hE40 hRW40b hRW41 (by omega) (by omega) (by first | exact hMN | exact hMN rfl | exact hMN (by omega) | exact hMN (by decide)) (by first | rfl | omega) (by omega), fun a1 h1 => by cases (R_r0_1.symm.trans h1); simp only [k0_r0_1_0, k0_r0_1_E_6_10_n1_toNatClampNeg]; first | exact FNX.ka hN1 hE40 hRW40b (by omega) (by omega) | exact FNX.kb hN1 hE40 hRW40b hRW41 (by omega) (by omega) (by first | exact hMN | exact hMN rfl | exact hMN (by omega) | exact hMN (by decide)) (by first | rfl | omega) (by omega), hI15, (CM.cons S6 (CM.mono S17 (by decide) (by decide)) (by decide) (by decide))⟩

theorem a_X12_orbit_x {d : Nat} {T N : Nat → Nat} {I : IT} {L : LT} {R : RT} {A : Nat → Prop} {r0 : Nat} {n1 : Int32} (hI : IM R r0 I) (H_r0 : (h_MD T N R A) r0) (hp0 : ∀ a1, R r0 1 = some a1 → CNW (I a1)) (hp1 : ∀ a1, R r0 1 = some a1 → PRM (I a1 0).toInt) : Ex (d + 8) 279 [.ref r0, .int n1] (T, N, I, L, R) 0 0 (pI T N R (fun x9 I9 L9 => (∀ a1, R r0 1 = some a1 → (n1.toInt < 0 ∨ (I a1 1).toInt ≤ n1.toInt) ∧ (I9 r0 0).toInt = 1 ∨ ¬ (n1.toInt < 0 ∨ (I a1 1).toInt ≤ n1.toInt) ∧ (I9 r0 0).toInt = 0 ∧ OBX x9.toInt (I a1 0).toInt (I a1 (6 + 10 * n1.toNatClampNeg)).toInt (fun k => (I a1 (7 + 10 * n1.toNatClampNeg + k)).toInt)) ∧ (IM R r0 I9 ∧ CM A R r0 [0, 6, 7, 8, 9] [4, 5, 25] I L I9 L9))) := by
  refine ⟨_, rfl, Nat.le_of_ble_eq_true rfl, fun V C S => ?_⟩
  show V 0 [(0, .ref r0), (1, .int n1)] [] (T, N, I, L, R) 0 0
  have gn1 := rg n1
  obtain ⟨T_r0, A_r0, ⟨r0_1, R_r0_1, H_r0_1⟩, ⟨r0_2, R_r0_2, H_r0_2⟩, ⟨r0_4, R_r0_4, H_r0_4⟩, ⟨r0_5, R_r0_5, H_r0_5⟩, ⟨r0_10, R_r0_10, H_r0_10⟩, ⟨r0_18, R_r0_18, H_r0_18⟩, ⟨r0_20, R_r0_20, H_r0_20⟩, ⟨r0_21, R_r0_21, H_r0_21⟩, ⟨r0_22, R_r0_22, H_r0_22⟩, ⟨r0_23, R_r0_23, H_r0_23⟩, ⟨r0_25, R_r0_25, H_r0_25⟩, ⟨r0_26, R_r0_26, H_r0_26⟩, ⟨r0_27, R_r0_27, H_r0_27⟩, ⟨r0_28, R_r0_28, H_r0_28⟩, ⟨r0_34, R_r0_34, H_r0_34⟩, J_r0, Y_r0⟩ := id H_r0
  have G_r0 : mF T R r0 := ⟨J_r0, Y_r0, T_r0⟩
  obtain ⟨w_r0_1_1, k0_r0_1_1⟩ : ∃ x, I r0_1 1 = x := ⟨_, rfl⟩
  have gw_r0_1_1 := rg w_r0_1_1
  have ow_r0_1_1 := IM.c1 hI R_r0_1 k0_r0_1_1
  obtain ⟨w_r0_1_0, k0_r0_1_0⟩ : ∃ x, I r0_1 0 = x := ⟨_, rfl⟩
  have gw_r0_1_0 := rg w_r0_1_0
  have ow_r0_1_0 := IM.pi hI R_r0_1 k0_r0_1_0
  have hp0 := hp0 r0_1 R_r0_1
  have hp1 := hp1 r0_1 R_r0_1
  try simp only [k0_r0_1_1, k0_r0_1_0] at hp0
  try simp only [k0_r0_1_1, k0_r0_1_0] at hp1
  try simp only [k0_r0_1_0] at hp1
  refine k_aload_n C rfl rfl rfl ?_
  refine z_iconst C (z := 0) rfl rfl rfl (fun x1 ex1 => ?_)
  refine z_pI C rfl rfl rfl T_r0 (Or.inr rfl) rfl (fun I2 uI2 => ?_)
  have hI2 : IM R r0 I2 := IM.fld hI G_r0 ⟨(fun h => absurd h (by decide)), (fun h => absurd h (by decide)), (fun h => absurd h (by decide)), (fun h => absurd h (by decide)), (fun h => absurd h (by decide))⟩ uI2
  have S3 : CM A R r0 [0] [] I L I2 L := CM.f G_r0 A_r0 uI2
  have e4 := u2_n uI2 (mF.ne G_r0 R_r0_1) k0_r0_1_1
  have e5 := u2_n uI2 (mF.ne G_r0 R_r0_1) k0_r0_1_0
  have e6 := u2_e uI2
  refine k_aload_n C rfl rfl rfl ?_
  refine k_aload_n C rfl rfl rfl ?_
  refine k_iload_n C rfl rfl rfl ?_
  refine c_VI C (a_X12_noForm_e hI2 H_r0) rfl rfl rfl rfl rfl ⟨_, rfl, rfl, T_r0, Nat.le_of_ble_eq_true rfl⟩ rfl rfl (Nat.le_of_ble_eq_true rfl) (Nat.le_of_ble_eq_true rfl) (Nat.le_of_ble_eq_true rfl) ?_
  rintro x7 _ _ ⟨o0x7, o1x7, p0x7, rfl, rfl⟩
  have p0x7 := p0x7 r0_1 R_r0_1
  have gx7 := rg x7
  try simp only [e4, e5, e6, e4] at p0x7
  try have q0x7 := congrArg Int32.toInt p0x7
  refine z_iconst C (z := 1) rfl rfl rfl (fun x8 ex8 => ?_)
  have q9 : x8.toNatClampNeg = 1 := nck (by omega)
  refine c_VI C (a_X12_throwsIf_e hI2 H_r0 (by omega) (by omega)) rfl rfl rfl rfl rfl ⟨_, rfl, rfl, T_r0, Nat.le_of_ble_eq_true rfl⟩ rfl rfl (Nat.le_of_ble_eq_true rfl) (Nat.le_of_ble_eq_true rfl) (Nat.le_of_ble_eq_true rfl) ?_
  rintro x10 I11 L12 ⟨o0x10, o1x10, p0x10, p1x10, hI11, S13⟩
  have e14 := CM.j S13 R_r0_1 (by decide) e4
  have e15 := CM.j S13 R_r0_1 (by decide) e5
  have gx10 := rg x10
  obtain ⟨x17, e18⟩ : ∃ x, I11 r0 0 = x := ⟨_, rfl⟩
  have gx17 := rg x17
  try simp only [q9, e4, e5, e6, e18] at p0x10
  try have q0x10 := congrArg Int32.toInt p0x10
  try simp only [q9, e4, e5, e6, e18] at p1x10
  try have q1x10 := congrArg Int32.toInt p1x10
  refine b_if_eq C (t := 22) rfl rfl rfl (fun c19 => ?_) (fun c19 => ?_)
  · skip
    refine k_aload_n C rfl rfl rfl ?_
    refine c_VI C (a_X12_allTables_x hI11 H_r0 (fun a1 h1 => by cases (R_r0_1.symm.trans h1); simp only [e14, e15, e18]; exact hp1)) rfl rfl rfl rfl rfl ⟨_, rfl, rfl, T_r0, Nat.le_of_ble_eq_true rfl⟩ rfl rfl (Nat.le_of_ble_eq_true rfl) (Nat.le_of_ble_eq_true rfl) (Nat.le_of_ble_eq_true rfl) ?_
    rintro x20 _ _ ⟨p0x20, rfl, rfl⟩
    have p0x20 := p0x20 r0_1 R_r0_1
    have gx20 := rg x20
    try simp only [e14, e15, e18] at p0x20
    try have q0x20 := congrArg Int32.toInt p0x20
    have htb := p0x20
    refine k_aload_n C rfl rfl rfl ?_
    refine k_iload_n C rfl rfl rfl ?_
    have hw28 := CM.j0 (W := [0]) (WA := []) (CM.cons S3 (CM.mono S13 (by decide) (by decide)) (by decide) (by decide)) R_r0_1 (by decide)
    refine c_VI C (a_X12_keeps_x hI11 H_r0 (by omega) (by omega) (fun a1 h1 => by cases (R_r0_1.symm.trans h1); first | omega | (simp only [e14, e15, e18]; omega)) (fun a1 h1 => by cases (R_r0_1.symm.trans h1); rw [hw28]; exact hp0) (fun a1 h1 => by cases (R_r0_1.symm.trans h1); simp only [e14, e15, e18]; exact hp1)) rfl rfl rfl rfl rfl ⟨_, rfl, rfl, T_r0, Nat.le_of_ble_eq_true rfl⟩ rfl rfl (Nat.le_of_ble_eq_true rfl) (Nat.le_of_ble_eq_true rfl) (Nat.le_of_ble_eq_true rfl) ?_
    rintro x21 I22 L23 ⟨p0x21, p1x21, hI22, S24⟩
    have p1x21 := p1x21 r0_1 R_r0_1
    have e25 := CM.j S24 R_r0_1 (by decide) e14
    have e26 := CM.j S24 R_r0_1 (by decide) e15
    have e27 := CM.k S24 (by decide) e18
    have gx21 := rg x21
    try simp only [e14, e15, e18] at p0x21
    try have q0x21 := congrArg Int32.toInt p0x21
    try simp only [e14, e15, e18] at p1x21
    try have q1x21 := congrArg Int32.toInt p1x21
    have hS := p1x21
    rw [hw28] at hS
    try simp only [k0_r0_1_0] at hS
    have h1k := p0x21
    refine z_idivE C rfl rfl (by omega) (fun x28 ex28 => ?_)
    have gx28 := rg x28
    have m31 := ex28
    exact k_iret C rfl (Or.inl rfl) (Nat.le_of_ble_eq_true rfl) (Nat.le_of_ble_eq_true rfl) ⟨_, _, _, rfl, rfl, fun a1 h1 => by cases (R_r0_1.symm.trans h1); first | exact Or.inl ⟨by simp only [k0_r0_1_1]; omega, by rw [e27]; omega⟩ | (refine Or.inr ⟨by simp only [k0_r0_1_1]; omega, by rw [e27]; omega, ?_⟩; (try simp only [k0_r0_1_0]); exact ⟨_, hS, fun q9 => (m31 (by have h9 := (TAB.p hp1).1; omega) q9).trans (by rw [htb]), fun q9 => by exfalso; omega⟩), hI22, (CM.cons S3 (CM.cons S13 (CM.mono S24 (by decide) (by decide)) (by decide) (by decide)) (by decide) (by decide))⟩
  refine z_iconst C (z := 0) rfl rfl rfl (fun x29 ex29 => ?_)
  refine k_goto C (pc2 := 32) rfl rfl ?_
  exact k_iret C rfl (Or.inl rfl) (Nat.le_of_ble_eq_true rfl) (Nat.le_of_ble_eq_true rfl) ⟨_, _, _, rfl, rfl, fun a1 h1 => by cases (R_r0_1.symm.trans h1); first | exact Or.inl ⟨by simp only [k0_r0_1_1]; omega, by rw [e18]; omega⟩ | (refine Or.inr ⟨by simp only [k0_r0_1_1]; omega, by rw [e18]; omega, ?_⟩; (try simp only [k0_r0_1_0]); exact ⟨_, hS, fun q9 => (m31 (by have h9 := (TAB.p hp1).1; omega) q9).trans (by rw [htb]), fun q9 => by exfalso; omega⟩), hI11, (CM.cons S3 (CM.mono S13 (by decide) (by decide)) (by decide) (by decide))⟩

