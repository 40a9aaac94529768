/-! the values of signs: exactly -/
/-- a row's numbers, the first k of them times t -/
def SCX (I' : IT) (b : Nat) (p D t : Int) (g : Nat → Int) (k : Int) : Prop := VRX I' b p D (fun j => if (j : Int) < k then t * g j else g j)
theorem SCX.z {I' : IT} {b : Nat} {p D t k : Int} (h : BNX I' b D p) (hk : k = 0) : SCX I' b p D t (NF I' b) k := fun j hj => by
  have q := h j hj
  refine ⟨q.1, q.2, ?_⟩
  show PmE p _ (if (j : Int) < k then _ else _)
  rw [if_neg (by omega)]; exact PmE.rf
theorem SCX.s {I1 I2 : IT} {b : Nat} {p D D2 : Int} {g : Nat → Int} {t x m u k k' : Int32} {l : Int64} (h : SCX I1 b p D t.toInt g k.toInt) (ga : GTD x.toInt D2 (fun j => (I1 b j).toInt) k.toInt) (mm : IMX m x t) (ht : -100 ≤ t.toInt ∧ t.toInt ≤ 100) (hl : l.toInt = m.toInt) (ho : u.toInt = l.toInt % p) (st : STD I1 I2 b k u) (hp : 0 < p ∧ p ≤ 19) (h0 : 0 ≤ k.toInt) (hD : k.toInt ≤ D) (hD2 : k.toInt ≤ D2) (h40 : k.toInt < 41) (hk : k'.toInt = k.toInt + 1) : SCX I2 b p D t.toInt g k'.toInt := fun j hj => by
  have n0 := ncz h0
  rw [st.1 h0 h40]
  by_cases z : j = k.toNatClampNeg
  · subst z
    have q := h k.toNatClampNeg (by omega)
    rw [u2_s]
    have vx : x.toInt = (I1 b k.toNatClampNeg).toInt := ga.i h0 hD2
    have e := mm.t (by omega) ht
    refine ⟨by rw [ho]; exact Int.emod_nonneg _ (by omega), by rw [ho]; exact Int.emod_lt_of_pos _ hp.1, ?_⟩
    have q3 : PmE p (I1 b k.toNatClampNeg).toInt (if ((k.toNatClampNeg : Nat) : Int) < k.toInt then t.toInt * g k.toNatClampNeg else g k.toNatClampNeg) := q.2.2
    rw [if_neg (by omega)] at q3
    show PmE p u.toInt (if ((k.toNatClampNeg : Nat) : Int) < k'.toInt then t.toInt * g k.toNatClampNeg else g k.toNatClampNeg)
    rw [if_pos (by omega), ho, hl, e, Int.mul_comm x.toInt t.toInt, vx]
    exact (PmE.em _).tr (PmE.rf.ml q3)
  · rw [u2_k z]
    have q := h j hj
    refine ⟨q.1, q.2.1, q.2.2.tr ?_⟩
    show PmE p (if (j : Int) < k.toInt then t.toInt * g j else g j) (if (j : Int) < k'.toInt then t.toInt * g j else g j)
    by_cases c : (j : Int) < k.toInt
    · rw [if_pos c, if_pos (by omega)]; exact PmE.rf
    · rw [if_neg c, if_neg (by omega)]; exact PmE.rf
theorem SCX.e {I' : IT} {b : Nat} {p D t k : Int} {g : Nat → Int} (h : SCX I' b p D t g k) (hk : D < k) : VRX I' b p D (fun m => t * g m) := fun j hj => by
  have q := h j hj
  refine ⟨q.1, q.2.1, q.2.2.tr ?_⟩
  show PmE p (if (j : Int) < k then t * g j else g j) (t * g j)
  rw [if_pos (by omega)]; exact PmE.rf
def ADV (I' : IT) (b : Nat) (p D : Int) (g h9 : Nat → Int) (k : Int) : Prop := VRX I' b p D (fun j => if (j : Int) < k then g j + h9 j else g j)
theorem ADV.z {I' : IT} {b : Nat} {p D k : Int} {h9 : Nat → Int} (h : BNX I' b D p) (hk : k = 0) : ADV I' b p D (NF I' b) h9 k := fun j hj => by
  have q := h j hj
  refine ⟨q.1, q.2, ?_⟩
  show PmE p _ (if (j : Int) < k then _ else _)
  rw [if_neg (by omega)]; exact PmE.rf
theorem ADV.s {I1 I2 I0 : IT} {b b2 : Nat} {p D D2 D3 : Int} {g : Nat → Int} {x y s u k k' : Int32} {l : Int64} (h : ADV I1 b p D g (NF I0 b2) k.toInt) (ga : GTD x.toInt D2 (fun j => (I1 b j).toInt) k.toInt) (gb : GTD y.toInt D3 (fun j => (I1 b2 j).toInt) k.toInt) (eb : I1 b2 = I0 b2) (hb : BNX I0 b2 D p) (ad : ADX s x y) (hl : l.toInt = s.toInt) (ho : u.toInt = l.toInt % p) (st : STD I1 I2 b k u) (hp : 0 < p ∧ p ≤ 19) (h0 : 0 ≤ k.toInt) (hD : k.toInt ≤ D) (hD2 : k.toInt ≤ D2) (hD3 : k.toInt ≤ D3) (h40 : k.toInt < 41) (hk : k'.toInt = k.toInt + 1) : ADV I2 b p D g (NF I0 b2) k'.toInt := fun j hj => by
  have n0 := ncz h0
  rw [st.1 h0 h40]
  by_cases z : j = k.toNatClampNeg
  · subst z
    have q := h k.toNatClampNeg (by omega)
    rw [u2_s]
    have vx : x.toInt = (I1 b k.toNatClampNeg).toInt := ga.i h0 hD2
    have vy : y.toInt = NF I0 b2 k.toNatClampNeg := by
      have z9 : y.toInt = (I1 b2 k.toNatClampNeg).toInt := gb.i h0 hD3
      rw [z9, eb]; rfl
    have by9 := hb k.toNatClampNeg (by omega)
    have by9 : 0 ≤ NF I0 b2 k.toNatClampNeg ∧ NF I0 b2 k.toNatClampNeg < p := by9
    have e := ad (by omega) (by omega)
    refine ⟨by rw [ho]; exact Int.emod_nonneg _ (by omega), by rw [ho]; exact Int.emod_lt_of_pos _ hp.1, ?_⟩
    have q3 : PmE p (I1 b k.toNatClampNeg).toInt (if ((k.toNatClampNeg : Nat) : Int) < k.toInt then g k.toNatClampNeg + NF I0 b2 k.toNatClampNeg else g k.toNatClampNeg) := q.2.2
    rw [if_neg (by omega)] at q3
    show PmE p u.toInt (if ((k.toNatClampNeg : Nat) : Int) < k'.toInt then g k.toNatClampNeg + NF I0 b2 k.toNatClampNeg else g k.toNatClampNeg)
    rw [if_pos (by omega), ho, hl, e, vx, vy]
    exact (PmE.em _).tr (q3.ad PmE.rf)
  · rw [u2_k z]
    have q := h j hj
    refine ⟨q.1, q.2.1, q.2.2.tr ?_⟩
    show PmE p (if (j : Int) < k.toInt then g j + NF I0 b2 j else g j) (if (j : Int) < k'.toInt then g j + NF I0 b2 j else g j)
    by_cases c : (j : Int) < k.toInt
    · rw [if_pos c, if_pos (by omega)]; exact PmE.rf
    · rw [if_neg c, if_neg (by omega)]; exact PmE.rf
theorem ADV.e {I' : IT} {b : Nat} {p D k : Int} {g h9 : Nat → Int} (h : ADV I' b p D g h9 k) (hk : D < k) : VRX I' b p D (fun m => g m + h9 m) := fun j hj => by
  have q := h j hj
  refine ⟨q.1, q.2.1, q.2.2.tr ?_⟩
  show PmE p (if (j : Int) < k then g j + h9 j else g j) (g j + h9 j)
  rw [if_pos (by omega)]; exact PmE.rf
theorem VRX.z1 {I9 I1 I : IT} {b b1 b2 : Nat} {p D D' E E' t : Int} {n n' : Nat} (h : VRX I9 b p D' (fun m => NF I1 b m + t * CVS (NF I1 b1) (NF I1 b2) E' n' m)) (ht : t = 1) (hz : ∀ j : Nat, j < 41 → (I1 b j).toInt = 0) (e1 : I1 b1 = I b1) (e2 : I1 b2 = I b2) (hD' : D' = D) (hD : D ≤ 40) (hE : E' = E) (hn : n' = n) : VRX I9 b p D (CVS (NF I b1) (NF I b2) E n) := fun j hj => by
  subst hD'; subst hE; subst hn; subst ht
  have q := h j hj
  refine ⟨q.1, q.2.1, q.2.2.tr ?_⟩
  have f1 : NF I1 b1 = NF I b1 := by unfold NF; rw [e1]
  have f2 : NF I1 b2 = NF I b2 := by unfold NF; rw [e2]
  have z : NF I1 b j = 0 := hz j (by omega)
  show PmE p (NF I1 b j + 1 * CVS (NF I1 b1) (NF I1 b2) E' n' j) _
  rw [f1, f2, z, Int.zero_add, Int.one_mul]; exact PmE.rf
/-- the calculator's forms -/
def KA (R : RT) (c j : Nat) : Nat := rA R (rA R c 1) j
theorem KA_e {R : RT} {c st o j : Nat} (z : rA R c 1 = st) (h : R st j = some o) : KA R c j = o := by unfold KA; rw [z]; exact rA_e h
def GK (T : Nat → Nat) (R : RT) (c : Nat) : Prop := T c = 2 ∧ (R c 1 = some (rA R c 1) ∧ T (rA R c 1) = 23) ∧ (∀ j, j < 20 → R (rA R c 1) j = some (KA R c j) ∧ FO T R (KA R c j)) ∧ (R c 3 = some (rA R c 3) ∧ FO T R (rA R c 3)) ∧ (R c 4 = some (rA R c 4) ∧ FO T R (rA R c 4)) ∧ (T (rA R c 0) = 1 ∧ (R (rA R c 0) 1 = some (rA R (rA R c 0) 1) ∧ FO T R (rA R (rA R c 0) 1)) ∧ R (rA R c 0) 2 = some (rA R (rA R c 0) 2) ∧ FO T R (rA R (rA R c 0) 2))
theorem GK.of {T N : Nat → Nat} {R : RT} {A B : Nat → Prop} {c : Nat} (hS : SUB B A) (h : hs_Cc T N R A B c) : GK T R c := by
  obtain ⟨h1, -, -, ⟨al, R0, H0⟩, ⟨st, R1, T1, -, -, E1⟩, -, ⟨nu, R3, H3⟩, ⟨re, R4, H4⟩⟩ := h
  obtain ⟨g1, -, -, -, ⟨lf, Rl, Hl⟩, ⟨rg, Rr, Hr⟩⟩ := H0
  have z0 := rA_e R0
  have z1 := rA_e R1
  have z3 := rA_e R3
  have z4 := rA_e R4
  have zl := rA_e Rl
  have zr := rA_e Rr
  refine ⟨h1, ⟨by rw [z1]; exact R1, by rw [z1]; exact T1⟩, fun j hj => ?_, ⟨by rw [z3]; exact R3, by rw [z3]; exact FO.of (hs_GF hS H3)⟩, ⟨by rw [z4]; exact R4, by rw [z4]; exact FO.of (hs_GF hS H4)⟩, by rw [z0]; exact g1, ⟨by rw [z0, zl]; exact Rl, by rw [z0, zl]; exact FO.of (hs_GF hS Hl)⟩, by rw [z0, zr]; exact Rr, by rw [z0, zr]; exact FO.of (hs_GF hS Hr)⟩
  obtain ⟨f, f1, f2⟩ := E1 j hj
  unfold KA
  rw [z1, rA_e f1]; exact ⟨f1, FO.of (hs_GF hS f2)⟩
/-- a form's degree and numbers, these up to p's multiples -/
abbrev FVV := Int × (Nat → Int)
def VFR (R : RT) (I : IT) (f : Nat) (p : Int) (v : FVV) : Prop := (I f 0).toInt = v.1 ∧ 0 ≤ v.1 ∧ v.1 ≤ 40 ∧ VRX I (rA R f 1) p v.1 v.2
theorem VFR.sm {R : RT} {I I' : IT} {f : Nat} {p : Int} {v : FVV} (h : VFR R I f p v) (e1 : I' f = I f) (e2 : I' (rA R f 1) = I (rA R f 1)) : VFR R I' f p v := ⟨by rw [e1]; exact h.1, h.2.1, h.2.2.1, h.2.2.2.eq e2⟩
theorem VFR.cp {R : RT} {I I' : IT} {f f' : Nat} {p : Int} {v : FVV} (h : VFR R I f p v) (e : FEQ R I' f' I f) : VFR R I' f' p v := ⟨e.1.trans h.1, h.2.1, h.2.2.1, fun j hj => by
  rw [e.2 j (by have := h.1; omega)]; exact h.2.2.2 j hj⟩
theorem VFR.bn {R : RT} {I : IT} {f : Nat} {p : Int} {v : FVV} (h : VFR R I f p v) : BNX I (rA R f 1) (I f 0).toInt p := BNX.of h.2.2.2 h.1
/-- two forms joined: a sum, a product, an overlap by z; none -/
def VJN (k z : Int) (a b : FVV) : Option FVV :=
  if k = 2 then (if a.1 = b.1 then some (a.1, fun m => a.2 m + b.2 m) else none)
  else if k = 3 then (if a.1 + b.1 ≤ 40 then some (a.1 + b.1, CVS a.2 b.2 b.1 (a.1 + 1).toNat) else none)
  else (if z ≤ a.1 ∧ z ≤ b.1 ∧ a.1 + b.1 - 2 * z ≤ 40 then some (a.1 + b.1 - 2 * z, OVS a.2 b.2 a.1 b.1 z (z.toNat + 1)) else none)
def JND (R : RT) (I9 I : IT) (a b : Nat) (k z x p : Int) : Prop := (x = 0 → VJN k z ((I a 0).toInt, NF I (rA R a 1)) ((I b 0).toInt, NF I (rA R b 1)) = none) ∧ (x = 1 → ∃ v, VJN k z ((I a 0).toInt, NF I (rA R a 1)) ((I b 0).toInt, NF I (rA R b 1)) = some v ∧ VFR R I9 a p v)
theorem JND.ad {R : RT} {I9 I2 I : IT} {a b c : Nat} {k z x p : Int} {y : Int32} (u : I2 = u2 I c 5 y) (na : a ≠ c) (nab : rA R a 1 ≠ c) (nb : b ≠ c) (nbb : rA R b 1 ≠ c) (hk : k = 2) (h0 : x = 0 → (I2 a 0).toInt ≠ (I2 b 0).toInt) (h1 : x = 1 → (I2 a 0).toInt = (I2 b 0).toInt) (h2 : x = 1 → VRX I9 (rA R a 1) p (I2 a 0).toInt (fun m => NF I2 (rA R a 1) m + NF I2 (rA R b 1) m)) (e9 : I9 a = I2 a) (hd : 0 ≤ (I a 0).toInt ∧ (I a 0).toInt ≤ 40) : JND R I9 I a b k z x p := by
  have ea : I2 a = I a := by rw [u, u2_r na]
  have eb : I2 b = I b := by rw [u, u2_r nb]
  have fa : NF I2 (rA R a 1) = NF I (rA R a 1) := by unfold NF; rw [u, u2_r nab]
  have fb : NF I2 (rA R b 1) = NF I (rA R b 1) := by unfold NF; rw [u, u2_r nbb]
  rw [ea, eb] at h0 h1
  rw [ea, fa, fb] at h2
  subst hk
  refine ⟨fun hx => ?_, fun hx => ⟨((I a 0).toInt, fun m => NF I (rA R a 1) m + NF I (rA R b 1) m), ?_, by rw [e9, ea], hd.1, hd.2, h2 hx⟩⟩
  · show (if (I a 0).toInt = (I b 0).toInt then _ else none) = none
    rw [if_neg (h0 hx)]
  · show (if (I a 0).toInt = (I b 0).toInt then _ else none) = _
    rw [if_pos (h1 hx)]
theorem JND.mu {R : RT} {I9 I5 I2 I : IT} {a b c r : Nat} {k z x p : Int} {y : Int32} (u : I2 = u2 I c 5 y) (na : a ≠ c) (nab : rA R a 1 ≠ c) (nb : b ≠ c) (nbb : rA R b 1 ≠ c) (hk : k = 3) (h0 : x = 0 → 40 < (I2 a 0).toInt + (I2 b 0).toInt) (h1 : x = 1 → (I2 a 0).toInt + (I2 b 0).toInt ≤ 40) (h2 : x = 1 → (I5 r 0).toInt = (I2 a 0).toInt + (I2 b 0).toInt) (h3 : x = 1 → VRX I5 (rA R r 1) p ((I2 a 0).toInt + (I2 b 0).toInt) (CVS (NF I2 (rA R a 1)) (NF I2 (rA R b 1)) (I2 b 0).toInt ((I2 a 0).toInt + 1).toNat)) (cp : FEQ R I9 a I5 r) (ha : 0 ≤ (I a 0).toInt ∧ (I a 0).toInt ≤ 40) (hb : 0 ≤ (I b 0).toInt ∧ (I b 0).toInt ≤ 40) : JND R I9 I a b k z x p := by
  have ea : I2 a = I a := by rw [u, u2_r na]
  have eb : I2 b = I b := by rw [u, u2_r nb]
  have fa : NF I2 (rA R a 1) = NF I (rA R a 1) := by unfold NF; rw [u, u2_r nab]
  have fb : NF I2 (rA R b 1) = NF I (rA R b 1) := by unfold NF; rw [u, u2_r nbb]
  rw [ea, eb] at h0 h1 h2
  rw [ea, eb, fa, fb] at h3
  subst hk
  refine ⟨fun hx => ?_, fun hx => ⟨((I a 0).toInt + (I b 0).toInt, CVS (NF I (rA R a 1)) (NF I (rA R b 1)) (I b 0).toInt ((I a 0).toInt + 1).toNat), ?_, ?_⟩⟩
  · show (if (I a 0).toInt + (I b 0).toInt ≤ 40 then _ else none) = none
    rw [if_neg (by have := h0 hx; omega)]
  · show (if (I a 0).toInt + (I b 0).toInt ≤ 40 then _ else none) = _
    rw [if_pos (h1 hx)]
  · exact VFR.cp ⟨h2 hx, by show (0 : Int) ≤ _ + _; omega, h1 hx, h3 hx⟩ cp
theorem JND.ov {R : RT} {I9 I5 I2 I : IT} {a b c r : Nat} {k z x p : Int} {n y : Int32} (u : I2 = u2 I c 5 y) (na : a ≠ c) (nab : rA R a 1 ≠ c) (nb : b ≠ c) (nbb : rA R b 1 ≠ c) (k2 : k ≠ 2) (k3 : k ≠ 3) (hz : z = n.toInt) (hn : 0 ≤ n.toInt) (h0 : x = 0 → n.toInt < 0 ∨ (I2 a 0).toInt < n.toInt ∨ (I2 b 0).toInt < n.toInt ∨ 40 < (I2 a 0).toInt + (I2 b 0).toInt - 2 * n.toInt) (h1 : x = 1 → ¬ (n.toInt < 0 ∨ (I2 a 0).toInt < n.toInt ∨ (I2 b 0).toInt < n.toInt ∨ 40 < (I2 a 0).toInt + (I2 b 0).toInt - 2 * n.toInt)) (h2 : x = 1 → (I5 r 0).toInt = (I2 a 0).toInt + (I2 b 0).toInt - 2 * n.toInt) (h3 : x = 1 → VRX I5 (rA R r 1) p ((I2 a 0).toInt + (I2 b 0).toInt - 2 * n.toInt) (OVS (NF I2 (rA R a 1)) (NF I2 (rA R b 1)) (I2 a 0).toInt (I2 b 0).toInt n.toInt (n.toNatClampNeg + 1))) (cp : FEQ R I9 a I5 r) : JND R I9 I a b k z x p := by
  have ea : I2 a = I a := by rw [u, u2_r na]
  have eb : I2 b = I b := by rw [u, u2_r nb]
  have fa : NF I2 (rA R a 1) = NF I (rA R a 1) := by unfold NF; rw [u, u2_r nab]
  have fb : NF I2 (rA R b 1) = NF I (rA R b 1) := by unfold NF; rw [u, u2_r nbb]
  rw [ea, eb] at h0 h1 h2
  rw [ea, eb, fa, fb] at h3
  subst hz
  have n0 := ncz hn
  rw [show n.toNatClampNeg = n.toInt.toNat from by omega] at h3
  refine ⟨fun hx => ?_, fun hx => ⟨((I a 0).toInt + (I b 0).toInt - 2 * n.toInt, OVS (NF I (rA R a 1)) (NF I (rA R b 1)) (I a 0).toInt (I b 0).toInt n.toInt (n.toInt.toNat + 1)), ?_, ?_⟩⟩
  · unfold VJN
    rw [if_neg k2, if_neg k3]
    show (if n.toInt ≤ (I a 0).toInt ∧ n.toInt ≤ (I b 0).toInt ∧ (I a 0).toInt + (I b 0).toInt - 2 * n.toInt ≤ 40 then _ else none) = none
    rw [if_neg (by have := h0 hx; omega)]
  · unfold VJN
    rw [if_neg k2, if_neg k3]
    show (if n.toInt ≤ (I a 0).toInt ∧ n.toInt ≤ (I b 0).toInt ∧ (I a 0).toInt + (I b 0).toInt - 2 * n.toInt ≤ 40 then _ else none) = _
    rw [if_pos (by have := h1 hx; omega)]
  · have q := h1 hx
    exact VFR.cp ⟨h2 hx, by show (0 : Int) ≤ _ + _ - _; omega, by show _ + _ - _ ≤ (40 : Int); omega, h3 hx⟩ cp
theorem VRX.tn {I9 I : IT} {b fb : Nat} {p D t : Int} (h : VRX I9 b p D (fun m => t * NF I fb m)) (ht : t = -1) : VRX I9 b p D (fun m => -1 * NF I fb m) := by subst ht; exact h
theorem VRX.pp {I9 : IT} {b : Nat} {p p' : Int32} {D : Int} {g : Nat → Int} (h : VRX I9 b p'.toInt D g) (e : p' = p) : VRX I9 b p.toInt D g := by subst e; exact h
theorem BNX.pt {R : RT} {I I2 : IT} {f q c k : Nat} {y : Int32} (h : BNX I (rA R f 1) (I f 0).toInt (I q 0).toInt) (u : I2 = u2 I c k y) (n1 : rA R f 1 ≠ c) (n2 : f ≠ c) (n3 : q ≠ c) : BNX I2 (rA R f 1) (I2 f 0).toInt (I2 q 0).toInt := by
  subst u
  have e1 : u2 I c k y f = I f := u2_r n2
  have e2 : u2 I c k y q = I q := u2_r n3
  have e3 : u2 I c k y (rA R f 1) = I (rA R f 1) := u2_r n1
  rw [e1, e2]
  exact fun j hj => by rw [e3]; exact h j hj
theorem s_X0_scale_x {d : Nat} {T N : Nat → Nat} {I : IT} {L : LT} {R : RT} {A B : Nat → Prop} {r0 r1 : Nat} {n2 : Int32} (hS : SUB B A) (hI : IX A T I) (H_r0 : (hs_Al T N R A B) r0) (H_r1 : (hs_F T N R A B) r1) (b0_n2 : -1 ≤ n2.toInt) (b1_n2 : n2.toInt ≤ 18) (hU : UPR T R) (hp0 : BNX I (rA R r1 1) (I r1 0).toInt (I (rA R r0 0) 0).toInt) : Ex (d + 2) 13 [.ref r0, .ref r1, .int n2] (T, N, I, L, R) 0 0 (pV T N R (fun I9 L9 => (VRX I9 (rA R r1 1) (I (rA R r0 0) 0).toInt (I r1 0).toInt (fun m => n2.toInt * NF I (rA R r1 1) m)) ∧ (IX A T I9 ∧ Chg (SL [(rA R r1 1)]) T [] I L I9 L9))) := by
  refine ⟨_, rfl, Nat.le_of_ble_eq_true rfl, fun V C S => ?_⟩
  show V 0 [(0, .ref r0), (1, .ref r1), (2, .int n2)] [] (T, N, I, L, R) 0 0
  have gn2 := rg n2
  obtain ⟨T_r0, A_r0, B_r0, ⟨r0_0, R_r0_0, H_r0_0⟩, ⟨r0_1, R_r0_1, H_r0_1⟩, ⟨r0_2, R_r0_2, H_r0_2⟩⟩ := id H_r0
  have z_r0_0 : rA R r0 0 = r0_0 := rA_e R_r0_0
  have z_r0_1 : rA R r0 1 = r0_1 := rA_e R_r0_1
  have z_r0_2 : rA R r0 2 = r0_2 := rA_e R_r0_2
  obtain ⟨T_r1, A_r1, ⟨r1_1, R_r1_1, H_r1_1⟩⟩ := id H_r1
  have z_r1_1 : rA R r1 1 = r1_1 := rA_e R_r1_1
  obtain ⟨T_r0_0, A_r0_0, B_r0_0, ⟨r0_0_6, R_r0_0_6, H_r0_0_6⟩, ⟨r0_0_7, R_r0_0_7, H_r0_0_7⟩, ⟨r0_0_8, R_r0_0_8, H_r0_0_8⟩, ⟨r0_0_9, R_r0_0_9, H_r0_0_9⟩, ⟨r0_0_10, R_r0_0_10, H_r0_0_10⟩⟩ := id H_r0_0
  have z_r0_0_6 : rA R r0_0 6 = r0_0_6 := rA_e R_r0_0_6
  have z_r0_0_7 : rA R r0_0 7 = r0_0_7 := rA_e R_r0_0_7
  have z_r0_0_8 : rA R r0_0 8 = r0_0_8 := rA_e R_r0_0_8
  have z_r0_0_9 : rA R r0_0 9 = r0_0_9 := rA_e R_r0_0_9
  have z_r0_0_10 : rA R r0_0 10 = r0_0_10 := rA_e R_r0_0_10
  obtain ⟨T_r1_1, N_r1_1, A_r1_1⟩ := id H_r1_1
  try simp only [z_r0_0, z_r0_1, z_r0_2, z_r1_1, z_r0_0_6, z_r0_0_7, z_r0_0_8, z_r0_0_9, z_r0_0_10] at hp0
  obtain ⟨w_r1_0, k0_r1_0⟩ : ∃ x, I r1 0 = x := ⟨_, rfl⟩
  have gw_r1_0 := rg w_r1_0
  have ow_r1_0 := IX.deg hI A_r1 T_r1 k0_r1_0
  obtain ⟨w_r0_0_0, k0_r0_0_0⟩ : ∃ x, I r0_0 0 = x := ⟨_, rfl⟩
  have gw_r0_0_0 := rg w_r0_0_0
  have ow_r0_0_0 := IX.p hI A_r0_0 T_r0_0 k0_r0_0_0
  try simp only [k0_r1_0, k0_r0_0_0] at hp0
  try simp only [k0_r1_0, k0_r0_0_0] at hp0
  refine z_iconst C (z := 0) rfl rfl rfl (fun x1 ex1 => ?_)
  have J2 : ∀ (nn3 : Nat) (I4 : IT) (L5 : LT) (x6 : Int32), (MN (41 - x6.toInt) nn3) → (IX A T I4) → (Chg (SL [r1_1]) T [] I L I4 L5) → (0 ≤ x6.toInt) → (x6.toInt ≤ 41) → (SCX I4 r1_1 w_r0_0_0.toInt w_r1_0.toInt n2.toInt (NF I r1_1) x6.toInt) → (x6.toInt ≤ w_r1_0.toInt + 1) → V 2 [(0, .ref r0), (1, .ref r1), (2, .int n2), (3, .int x6)] [] (T, N, I4, L5, R) 0 0 := by
    intro nn3
    induction nn3 using Nat.strongRecOn with
    | _ nn3 ihJ2 =>
      intro I4 L5 x6 hmnn3 hI10 S9 b7 b8 ff2_0 ff2_1
      have gx6 := rg x6
      have e13 := Chg.k S9 T_r1 (by decide) (by decide) k0_r1_0
      have e14 := Chg.k S9 T_r0_0 (by decide) (by decide) k0_r0_0_0
      refine k_iload_n C rfl rfl rfl ?_
      refine k_aload_n C rfl rfl rfl ?_
      refine g_I C rfl rfl rfl T_r1 rfl e13 ?_
      refine b_icmp_gt C (t := 33) rfl rfl rfl (fun c15 => ?_) (fun c15 => ?_)
      · skip
        exact k_vret C rfl rfl (Nat.le_of_ble_eq_true rfl) (Nat.le_of_ble_eq_true rfl) ⟨_, _, rfl, rfl, by (try simp only [z_r0_0, z_r0_1, z_r0_2, z_r1_1, z_r0_0_6, z_r0_0_7, z_r0_0_8, z_r0_0_9, z_r0_0_10]); simp only [k0_r1_0, k0_r0_0_0]; exact SCX.e ff2_0 (by omega), hI10, (by (try simp only [z_r0_0, z_r0_1, z_r0_2, z_r1_1, z_r0_0_6, z_r0_0_7, z_r0_0_8, z_r0_0_9, z_r0_0_10]); exact (Chg.mono S9 (by decide)))⟩
      refine k_aload_n C rfl rfl rfl ?_
      refine k_iload_n C rfl rfl rfl ?_
      refine k_aload_n C rfl rfl rfl ?_
      refine k_aload_n C rfl rfl rfl ?_
      refine k_iload_n C rfl rfl rfl ?_
      refine c_VI C (s_X2_get_x hS hI10 H_r1) rfl rfl rfl rfl rfl ⟨_, rfl, rfl, T_r1, Nat.le_of_ble_eq_true rfl⟩ rfl rfl (Nat.le_of_ble_eq_true rfl) (Nat.le_of_ble_eq_true rfl) (Nat.le_of_ble_eq_true rfl) ?_
      rintro x16 _ _ ⟨p0x16, rfl, rfl⟩
      have gx16 := rg x16
      try simp only [z_r0_0, z_r0_1, z_r0_2, z_r1_1, z_r0_0_6, z_r0_0_7, z_r0_0_8, z_r0_0_9, z_r0_0_10] at p0x16
      try simp only [e13, e14] at p0x16
      try have q0x16 := congrArg Int32.toInt p0x16
      have hga := p0x16; (try simp only [e13] at hga)
      refine k_iload_n C rfl rfl rfl ?_
      refine z_imulE C rfl rfl (fun x17 ex17 => ?_)
      have gx17 := rg x17
      have m19 := ex17
      refine z_i2l C rfl rfl (fun lg18 elg18 => ?_)
      have hl21 := elg18
      refine c_VI C (s_X0_of_x hS hI10 H_r0) rfl rfl rfl rfl rfl ⟨_, rfl, rfl, T_r0, Nat.le_of_ble_eq_true rfl⟩ rfl rfl (Nat.le_of_ble_eq_true rfl) (Nat.le_of_ble_eq_true rfl) (Nat.le_of_ble_eq_true rfl) ?_
      rintro x19 _ _ ⟨o0x19, o1x19, p0x19, p1x19, rfl, rfl⟩
      have gx19 := rg x19
      try simp only [z_r0_0, z_r0_1, z_r0_2, z_r1_1, z_r0_0_6, z_r0_0_7, z_r0_0_8, z_r0_0_9, z_r0_0_10] at p0x19
      try simp only [z_r0_0, z_r0_1, z_r0_2, z_r1_1, z_r0_0_6, z_r0_0_7, z_r0_0_8, z_r0_0_9, z_r0_0_10] at p1x19
      try simp only [e13, e14] at p0x19
      try have q0x19 := congrArg Int32.toInt p0x19
      try simp only [e13, e14] at p1x19
      try have q1x19 := congrArg Int32.toInt p1x19
      have hof := p0x19; (try simp only [e14] at hof)
      refine c_VV C (s_X2_set_x hS hI10 H_r1) rfl rfl rfl rfl rfl ⟨_, rfl, rfl, T_r1, Nat.le_of_ble_eq_true rfl⟩ rfl rfl (Nat.le_of_ble_eq_true rfl) (Nat.le_of_ble_eq_true rfl) (Nat.le_of_ble_eq_true rfl) ?_
      rintro I21 L22 ⟨p0v20, hI21, S23⟩
      try simp only [z_r0_0, z_r0_1, z_r0_2, z_r1_1, z_r0_0_6, z_r0_0_7, z_r0_0_8, z_r0_0_9, z_r0_0_10] at S23
      have e24 := Chg.k S23 T_r1 (by decide) (by decide) e13
      have e25 := Chg.k S23 T_r0_0 (by decide) (by decide) e14
      try simp only [z_r0_0, z_r0_1, z_r0_2, z_r1_1, z_r0_0_6, z_r0_0_7, z_r0_0_8, z_r0_0_9, z_r0_0_10] at p0v20
      try simp only [e13, e14] at p0v20
      try have q0v20 := congrArg Int32.toInt p0v20
      have hse := p0v20
      refine z_iinc C (z := 1) (lw := fun x26 => [(3, .int x26), (0, .ref r0), (1, .ref r1), (2, .int n2)]) rfl rfl rfl (Nat.le_of_ble_eq_true rfl) rfl ⟨by omega, by omega⟩ (fun _ => rfl) (fun x26 ex26 => ?_)
      show V 30 [(3, .int x26), (0, .ref r0), (1, .ref r1), (2, .int n2)] _ _ _ _
      refine k_goto C (pc2 := 2) rfl rfl ?_
      refine k_sub S [(0, .ref r0), (1, .ref r1), (2, .int n2), (3, .int x26)] (List.forall_mem_cons.mpr ⟨List.mem_of_getElem? (i := 1) rfl, List.forall_mem_cons.mpr ⟨List.mem_of_getElem? (i := 2) rfl, List.forall_mem_cons.mpr ⟨List.mem_of_getElem? (i := 3) rfl, List.forall_mem_cons.mpr ⟨List.mem_of_getElem? (i := 0) rfl, fun _ h => nomatch h⟩⟩⟩⟩) ?_
      exact ihJ2 _ (MN.lt hmnn3 (by omega) (by omega)) I21 L22 x26 rfl hI21 (Chg.cons S9 (Chg.mono (Chg.up S23 (List.forall_mem_cons.mpr ⟨List.mem_of_getElem? (i := 0) rfl, fun _ h => nomatch h⟩)) (by decide)) (by decide)) (by omega) (by omega) (by exact SCX.s ff2_0 hga m19 (by omega) hl21 hof hse (by omega) (by omega) (by omega) (by omega) (by omega) (by omega)) (by omega)
  refine k_istore_n C (lw := [(3, .int x1), (0, .ref r0), (1, .ref r1), (2, .int n2)]) rfl rfl (Nat.le_of_ble_eq_true rfl) rfl ?_
  refine k_sub S [(0, .ref r0), (1, .ref r1), (2, .int n2), (3, .int x1)] (List.forall_mem_cons.mpr ⟨List.mem_of_getElem? (i := 1) rfl, List.forall_mem_cons.mpr ⟨List.mem_of_getElem? (i := 2) rfl, List.forall_mem_cons.mpr ⟨List.mem_of_getElem? (i := 3) rfl, List.forall_mem_cons.mpr ⟨List.mem_of_getElem? (i := 0) rfl, fun _ h => nomatch h⟩⟩⟩⟩) ?_
  exact J2 _ I L x1 rfl hI Chg.rf (by omega) (by omega) (by exact SCX.z hp0 (by omega)) (by omega)

theorem s_X0_addTo_x {d : Nat} {T N : Nat → Nat} {I : IT} {L : LT} {R : RT} {A B : Nat → Prop} {r0 r1 r2 : Nat} (hS : SUB B A) (hI : IX A T I) (H_r0 : (hs_Al T N R A B) r0) (H_r1 : (hs_F T N R A B) r1) (H_r2 : (hs_F T N R A B) r2) (hU : UPR T R) (hp0 : NQ9 (rA R r1 1) (rA R r2 1)) (hp1 : BNX I (rA R r1 1) (I r1 0).toInt (I (rA R r0 0) 0).toInt) (hp2 : BNX I (rA R r2 1) (I r2 0).toInt (I (rA R r0 0) 0).toInt) : Ex (d + 2) 14 [.ref r0, .ref r1, .ref r2] (T, N, I, L, R) 0 0 (pI T N R (fun x9 I9 L9 => (0 ≤ x9.toInt) ∧ (x9.toInt ≤ 1) ∧ (x9.toInt = 0 → (I r1 0).toInt ≠ (I r2 0).toInt) ∧ (x9.toInt = 1 → (I r1 0).toInt = (I r2 0).toInt) ∧ (x9.toInt = 1 → VRX I9 (rA R r1 1) (I (rA R r0 0) 0).toInt (I r1 0).toInt (fun m => NF I (rA R r1 1) m + NF I (rA R r2 1) m)) ∧ (IX A T I9 ∧ Chg (SL [(rA R r1 1)]) T [] I L I9 L9))) := by
  refine ⟨_, rfl, Nat.le_of_ble_eq_true rfl, fun V C S => ?_⟩
  show V 0 [(0, .ref r0), (1, .ref r1), (2, .ref r2)] [] (T, N, I, L, R) 0 0
  obtain ⟨T_r0, A_r0, B_r0, ⟨r0_0, R_r0_0, H_r0_0⟩, ⟨r0_1, R_r0_1, H_r0_1⟩, ⟨r0_2, R_r0_2, H_r0_2⟩⟩ := id H_r0
  have z_r0_0 : rA R r0 0 = r0_0 := rA_e R_r0_0
  have z_r0_1 : rA R r0 1 = r0_1 := rA_e R_r0_1
  have z_r0_2 : rA R r0 2 = r0_2 := rA_e R_r0_2
  obtain ⟨T_r1, A_r1, ⟨r1_1, R_r1_1, H_r1_1⟩⟩ := id H_r1
  have z_r1_1 : rA R r1 1 = r1_1 := rA_e R_r1_1
  obtain ⟨T_r2, A_r2, ⟨r2_1, R_r2_1, H_r2_1⟩⟩ := id H_r2
  have z_r2_1 : rA R r2 1 = r2_1 := rA_e R_r2_1
  obtain ⟨T_r0_0, A_r0_0, B_r0_0, ⟨r0_0_6, R_r0_0_6, H_r0_0_6⟩, ⟨r0_0_7, R_r0_0_7, H_r0_0_7⟩, ⟨r0_0_8, R_r0_0_8, H_r0_0_8⟩, ⟨r0_0_9, R_r0_0_9, H_r0_0_9⟩, ⟨r0_0_10, R_r0_0_10, H_r0_0_10⟩⟩ := id H_r0_0
  have z_r0_0_6 : rA R r0_0 6 = r0_0_6 := rA_e R_r0_0_6
  have z_r0_0_7 : rA R r0_0 7 = r0_0_7 := rA_e R_r0_0_7
  have z_r0_0_8 : rA R r0_0 8 = r0_0_8 := rA_e R_r0_0_8
  have z_r0_0_9 : rA R r0_0 9 = r0_0_9 := rA_e R_r0_0_9
  have z_r0_0_10 : rA R r0_0 10 = r0_0_10 := rA_e R_r0_0_10
  obtain ⟨T_r1_1, N_r1_1, A_r1_1⟩ := id H_r1_1
  obtain ⟨T_r2_1, N_r2_1, A_r2_1⟩ := id H_r2_1
  try simp only [z_r0_0, z_r0_1, z_r0_2, z_r1_1, z_r2_1, z_r0_0_6, z_r0_0_7, z_r0_0_8, z_r0_0_9, z_r0_0_10] at hp0
  try simp only [z_r0_0, z_r0_1, z_r0_2, z_r1_1, z_r2_1, z_r0_0_6, z_r0_0_7, z_r0_0_8, z_r0_0_9, z_r0_0_10] at hp1
  try simp only [z_r0_0, z_r0_1, z_r0_2, z_r1_1, z_r2_1, z_r0_0_6, z_r0_0_7, z_r0_0_8, z_r0_0_9, z_r0_0_10] at hp2
  obtain ⟨w_r1_0, k0_r1_0⟩ : ∃ x, I r1 0 = x := ⟨_, rfl⟩
  have gw_r1_0 := rg w_r1_0
  have ow_r1_0 := IX.deg hI A_r1 T_r1 k0_r1_0
  obtain ⟨w_r2_0, k0_r2_0⟩ : ∃ x, I r2 0 = x := ⟨_, rfl⟩
  have gw_r2_0 := rg w_r2_0
  have ow_r2_0 := IX.deg hI A_r2 T_r2 k0_r2_0
  obtain ⟨w_r0_0_0, k0_r0_0_0⟩ : ∃ x, I r0_0 0 = x := ⟨_, rfl⟩
  have gw_r0_0_0 := rg w_r0_0_0
  have ow_r0_0_0 := IX.p hI A_r0_0 T_r0_0 k0_r0_0_0
  try simp only [k0_r1_0, k0_r2_0, k0_r0_0_0] at hp0
  try simp only [k0_r1_0, k0_r2_0, k0_r0_0_0] at hp1
  try simp only [k0_r1_0, k0_r2_0, k0_r0_0_0] at hp2
  try simp only [k0_r1_0, k0_r0_0_0] at hp1
  try simp only [k0_r2_0, k0_r0_0_0] at hp2
  refine k_aload_n C rfl rfl rfl ?_
  refine g_I C rfl rfl rfl T_r1 rfl k0_r1_0 ?_
  refine k_aload_n C rfl rfl rfl ?_
  refine g_I C rfl rfl rfl T_r2 rfl k0_r2_0 ?_
  refine b_icmp_eq C (t := 13) rfl rfl rfl (fun c1 => ?_) (fun c1 => ?_)
  · skip
    refine z_iconst C (z := 0) rfl rfl rfl (fun x2 ex2 => ?_)
    have J3 : ∀ (nn4 : Nat) (I5 : IT) (L6 : LT) (x7 : Int32), (MN (41 - x7.toInt) nn4) → (IX A T I5) → (Chg (SL [r1_1]) T [] I L I5 L6) → (0 ≤ x7.toInt) → (x7.toInt ≤ 41) → (ADV I5 r1_1 w_r0_0_0.toInt w_r1_0.toInt (NF I r1_1) (NF I r2_1) x7.toInt) → (x7.toInt ≤ w_r1_0.toInt + 1) → V 15 [(0, .ref r0), (1, .ref r1), (2, .ref r2), (3, .int x7)] [] (T, N, I5, L6, R) 0 0 := by
      intro nn4
      induction nn4 using Nat.strongRecOn with
      | _ nn4 ihJ3 =>
        intro I5 L6 x7 hmnn4 hI11 S10 b8 b9 ff15_0 ff15_1
        have gx7 := rg x7
        have e14 := Chg.k S10 T_r1 (by decide) (by decide) k0_r1_0
        have e15 := Chg.k S10 T_r2 (by decide) (by decide) k0_r2_0
        have e16 := Chg.k S10 T_r0_0 (by decide) (by decide) k0_r0_0_0
        refine k_iload_n C rfl rfl rfl ?_
        refine k_aload_n C rfl rfl rfl ?_
        refine g_I C rfl rfl rfl T_r1 rfl e14 ?_
        refine b_icmp_gt C (t := 50) rfl rfl rfl (fun c17 => ?_) (fun c17 => ?_)
        · skip
          refine z_iconst C (z := 1) rfl rfl rfl (fun x18 ex18 => ?_)
          exact k_iret C rfl (Or.inr ⟨rfl, z01 (by omega) (by omega)⟩) (Nat.le_of_ble_eq_true rfl) (Nat.le_of_ble_eq_true rfl) ⟨_, _, _, rfl, rfl, by omega, by omega, by (try simp only [z_r0_0, z_r0_1, z_r0_2, z_r1_1, z_r2_1, z_r0_0_6, z_r0_0_7, z_r0_0_8, z_r0_0_9, z_r0_0_10]); intro h; exfalso; omega, by (try simp only [z_r0_0, z_r0_1, z_r0_2, z_r1_1, z_r2_1, z_r0_0_6, z_r0_0_7, z_r0_0_8, z_r0_0_9, z_r0_0_10]); simp only [k0_r1_0, k0_r2_0]; intro _; omega, by (try simp only [z_r0_0, z_r0_1, z_r0_2, z_r1_1, z_r2_1, z_r0_0_6, z_r0_0_7, z_r0_0_8, z_r0_0_9, z_r0_0_10]); intro _; simp only [k0_r1_0, k0_r0_0_0]; exact ADV.e ff15_0 (by omega), hI11, (by (try simp only [z_r0_0, z_r0_1, z_r0_2, z_r1_1, z_r2_1, z_r0_0_6, z_r0_0_7, z_r0_0_8, z_r0_0_9, z_r0_0_10]); exact (Chg.mono S10 (by decide)))⟩
        refine k_aload_n C rfl rfl rfl ?_
        refine k_iload_n C rfl rfl rfl ?_
        refine k_aload_n C rfl rfl rfl ?_
        refine k_aload_n C rfl rfl rfl ?_
        refine k_iload_n C rfl rfl rfl ?_
        refine c_VI C (s_X2_get_x hS hI11 H_r1) rfl rfl rfl rfl rfl ⟨_, rfl, rfl, T_r1, Nat.le_of_ble_eq_true rfl⟩ rfl rfl (Nat.le_of_ble_eq_true rfl) (Nat.le_of_ble_eq_true rfl) (Nat.le_of_ble_eq_true rfl) ?_
        rintro x19 _ _ ⟨p0x19, rfl, rfl⟩
        have gx19 := rg x19
        try simp only [z_r0_0, z_r0_1, z_r0_2, z_r1_1, z_r2_1, z_r0_0_6, z_r0_0_7, z_r0_0_8, z_r0_0_9, z_r0_0_10] at p0x19
        try simp only [e14, e15, e16] at p0x19
        try have q0x19 := congrArg Int32.toInt p0x19
        have hga := p0x19; (try simp only [e14] at hga)
        refine k_aload_n C rfl rfl rfl ?_
        refine k_iload_n C rfl rfl rfl ?_
        refine c_VI C (s_X2_get_x hS hI11 H_r2) rfl rfl rfl rfl rfl ⟨_, rfl, rfl, T_r2, Nat.le_of_ble_eq_true rfl⟩ rfl rfl (Nat.le_of_ble_eq_true rfl) (Nat.le_of_ble_eq_true rfl) (Nat.le_of_ble_eq_true rfl) ?_
        rintro x20 _ _ ⟨p0x20, rfl, rfl⟩
        have gx20 := rg x20
        try simp only [z_r0_0, z_r0_1, z_r0_2, z_r1_1, z_r2_1, z_r0_0_6, z_r0_0_7, z_r0_0_8, z_r0_0_9, z_r0_0_10] at p0x20
        try simp only [e14, e15, e16] at p0x20
        try have q0x20 := congrArg Int32.toInt p0x20
        have hgb := p0x20; (try simp only [e15] at hgb); have heb := (Chg.at ((Chg.mono S10 (by decide)) : Chg (SL [r1_1]) T [] I L I5 L6) (nm_1 (by first | exact hp0 | exact fun e => hp0 e.symm)))
        refine z_iaddX C rfl rfl (fun x21 ad36 => ?_)
        have gx21 := rg x21
        refine z_i2l C rfl rfl (fun lg22 elg22 => ?_)
        have hl38 := elg22
        refine c_VI C (s_X0_of_x hS hI11 H_r0) rfl rfl rfl rfl rfl ⟨_, rfl, rfl, T_r0, Nat.le_of_ble_eq_true rfl⟩ rfl rfl (Nat.le_of_ble_eq_true rfl) (Nat.le_of_ble_eq_true rfl) (Nat.le_of_ble_eq_true rfl) ?_
        rintro x23 _ _ ⟨o0x23, o1x23, p0x23, p1x23, rfl, rfl⟩
        have gx23 := rg x23
        try simp only [z_r0_0, z_r0_1, z_r0_2, z_r1_1, z_r2_1, z_r0_0_6, z_r0_0_7, z_r0_0_8, z_r0_0_9, z_r0_0_10] at p0x23
        try simp only [z_r0_0, z_r0_1, z_r0_2, z_r1_1, z_r2_1, z_r0_0_6, z_r0_0_7, z_r0_0_8, z_r0_0_9, z_r0_0_10] at p1x23
        try simp only [e14, e15, e16] at p0x23
        try have q0x23 := congrArg Int32.toInt p0x23
        try simp only [e14, e15, e16] at p1x23
        try have q1x23 := congrArg Int32.toInt p1x23
        have hof := p0x23; (try simp only [e16] at hof)
        refine c_VV C (s_X2_set_x hS hI11 H_r1) rfl rfl rfl rfl rfl ⟨_, rfl, rfl, T_r1, Nat.le_of_ble_eq_true rfl⟩ rfl rfl (Nat.le_of_ble_eq_true rfl) (Nat.le_of_ble_eq_true rfl) (Nat.le_of_ble_eq_true rfl) ?_
        rintro I25 L26 ⟨p0v24, hI25, S27⟩
        try simp only [z_r0_0, z_r0_1, z_r0_2, z_r1_1, z_r2_1, z_r0_0_6, z_r0_0_7, z_r0_0_8, z_r0_0_9, z_r0_0_10] at S27
        have e28 := Chg.k S27 T_r1 (by decide) (by decide) e14
        have e29 := Chg.k S27 T_r2 (by decide) (by decide) e15
        have e30 := Chg.k S27 T_r0_0 (by decide) (by decide) e16
        try simp only [z_r0_0, z_r0_1, z_r0_2, z_r1_1, z_r2_1, z_r0_0_6, z_r0_0_7, z_r0_0_8, z_r0_0_9, z_r0_0_10] at p0v24
        try simp only [e14, e15, e16] at p0v24
        try have q0v24 := congrArg Int32.toInt p0v24
        have hse := p0v24
        refine z_iinc C (z := 1) (lw := fun x31 => [(3, .int x31), (0, .ref r0), (1, .ref r1), (2, .ref r2)]) rfl rfl rfl (Nat.le_of_ble_eq_true rfl) rfl ⟨by omega, by omega⟩ (fun _ => rfl) (fun x31 ex31 => ?_)
        show V 47 [(3, .int x31), (0, .ref r0), (1, .ref r1), (2, .ref r2)] _ _ _ _
        refine k_goto C (pc2 := 15) rfl rfl ?_
        refine k_sub S [(0, .ref r0), (1, .ref r1), (2, .ref r2), (3, .int x31)] (List.forall_mem_cons.mpr ⟨List.mem_of_getElem? (i := 1) rfl, List.forall_mem_cons.mpr ⟨List.mem_of_getElem? (i := 2) rfl, List.forall_mem_cons.mpr ⟨List.mem_of_getElem? (i := 3) rfl, List.forall_mem_cons.mpr ⟨List.mem_of_getElem? (i := 0) rfl, fun _ h => nomatch h⟩⟩⟩⟩) ?_
        exact ihJ3 _ (MN.lt hmnn4 (by omega) (by omega)) I25 L26 x31 rfl hI25 (Chg.cons S10 (Chg.mono (Chg.up S27 (List.forall_mem_cons.mpr ⟨List.mem_of_getElem? (i := 0) rfl, fun _ h => nomatch h⟩)) (by decide)) (by decide)) (by omega) (by omega) (by exact ADV.s ff15_0 hga hgb heb (BNX.c hp2 rfl (by omega)) ad36 hl38 hof hse (by omega) (by omega) (by omega) (by omega) (by omega) (by omega) (by omega)) (by omega)
    refine k_istore_n C (lw := [(3, .int x2), (0, .ref r0), (1, .ref r1), (2, .ref r2)]) rfl rfl (Nat.le_of_ble_eq_true rfl) rfl ?_
    refine k_sub S [(0, .ref r0), (1, .ref r1), (2, .ref r2), (3, .int x2)] (List.forall_mem_cons.mpr ⟨List.mem_of_getElem? (i := 1) rfl, List.forall_mem_cons.mpr ⟨List.mem_of_getElem? (i := 2) rfl, List.forall_mem_cons.mpr ⟨List.mem_of_getElem? (i := 3) rfl, List.forall_mem_cons.mpr ⟨List.mem_of_getElem? (i := 0) rfl, fun _ h => nomatch h⟩⟩⟩⟩) ?_
    exact J3 _ I L x2 rfl hI Chg.rf (by omega) (by omega) (by exact ADV.z hp1 (by omega)) (by omega)
  refine z_iconst C (z := 0) rfl rfl rfl (fun x32 ex32 => ?_)
  exact k_iret C rfl (Or.inr ⟨rfl, z01 (by omega) (by omega)⟩) (Nat.le_of_ble_eq_true rfl) (Nat.le_of_ble_eq_true rfl) ⟨_, _, _, rfl, rfl, by omega, by omega, by (try simp only [z_r0_0, z_r0_1, z_r0_2, z_r1_1, z_r2_1, z_r0_0_6, z_r0_0_7, z_r0_0_8, z_r0_0_9, z_r0_0_10]); simp only [k0_r1_0, k0_r2_0]; intro _; omega, by (try simp only [z_r0_0, z_r0_1, z_r0_2, z_r1_1, z_r2_1, z_r0_0_6, z_r0_0_7, z_r0_0_8, z_r0_0_9, z_r0_0_10]); intro h; exfalso; omega, by (try simp only [z_r0_0, z_r0_1, z_r0_2, z_r1_1, z_r2_1, z_r0_0_6, z_r0_0_7, z_r0_0_8, z_r0_0_9, z_r0_0_10]); intro h; exfalso; omega, hI, (by (try simp only [z_r0_0, z_r0_1, z_r0_2, z_r1_1, z_r2_1, z_r0_0_6, z_r0_0_7, z_r0_0_8, z_r0_0_9, z_r0_0_10]); exact Chg.rf)⟩

theorem s_X0_multiplyInto_x {d : Nat} {T N : Nat → Nat} {I : IT} {L : LT} {R : RT} {A B : Nat → Prop} {r0 r1 r2 r3 : Nat} (hS : SUB B A) (hI : IX A T I) (H_r0 : (hs_Al T N R A B) r0) (H_r1 : (hs_F T N R A B) r1) (H_r2 : (hs_F T N R A B) r2) (H_r3 : (hs_F T N R A B) r3) (hU : UPR T R) (hp0 : NQ9 r1 r3) (hp1 : NQ9 r2 r3) (hp2 : BNX I (rA R r1 1) (I r1 0).toInt (I (rA R r0 0) 0).toInt) (hp3 : BNX I (rA R r2 1) (I r2 0).toInt (I (rA R r0 0) 0).toInt) : Ex (d + 3) 20 [.ref r0, .ref r1, .ref r2, .ref r3] (T, N, I, L, R) 0 0 (pI T N R (fun x9 I9 L9 => (0 ≤ x9.toInt) ∧ (x9.toInt ≤ 1) ∧ (x9.toInt = 0 → 40 < (I r1 0).toInt + (I r2 0).toInt) ∧ (x9.toInt = 1 → (I r1 0).toInt + (I r2 0).toInt ≤ 40) ∧ (x9.toInt = 1 → (I9 r3 0).toInt = (I r1 0).toInt + (I r2 0).toInt) ∧ (x9.toInt = 1 → VRX I9 (rA R r3 1) (I (rA R r0 0) 0).toInt ((I r1 0).toInt + (I r2 0).toInt) (CVS (NF I (rA R r1 1)) (NF I (rA R r2 1)) (I r2 0).toInt ((I r1 0).toInt + 1).toNat)) ∧ (IX A T I9 ∧ Chg (SL [r3, (rA R r3 1)]) T [(3, 0)] I L I9 L9))) := by
  refine ⟨_, rfl, Nat.le_of_ble_eq_true rfl, fun V C S => ?_⟩
  show V 0 [(0, .ref r0), (1, .ref r1), (2, .ref r2), (3, .ref r3)] [] (T, N, I, L, R) 0 0
  obtain ⟨T_r0, A_r0, B_r0, ⟨r0_0, R_r0_0, H_r0_0⟩, ⟨r0_1, R_r0_1, H_r0_1⟩, ⟨r0_2, R_r0_2, H_r0_2⟩⟩ := id H_r0
  have z_r0_0 : rA R r0 0 = r0_0 := rA_e R_r0_0
  have z_r0_1 : rA R r0 1 = r0_1 := rA_e R_r0_1
  have z_r0_2 : rA R r0 2 = r0_2 := rA_e R_r0_2
  obtain ⟨T_r1, A_r1, ⟨r1_1, R_r1_1, H_r1_1⟩⟩ := id H_r1
  have z_r1_1 : rA R r1 1 = r1_1 := rA_e R_r1_1
  obtain ⟨T_r2, A_r2, ⟨r2_1, R_r2_1, H_r2_1⟩⟩ := id H_r2
  have z_r2_1 : rA R r2 1 = r2_1 := rA_e R_r2_1
  obtain ⟨T_r3, A_r3, ⟨r3_1, R_r3_1, H_r3_1⟩⟩ := id H_r3
  have z_r3_1 : rA R r3 1 = r3_1 := rA_e R_r3_1
  obtain ⟨T_r0_0, A_r0_0, B_r0_0, ⟨r0_0_6, R_r0_0_6, H_r0_0_6⟩, ⟨r0_0_7, R_r0_0_7, H_r0_0_7⟩, ⟨r0_0_8, R_r0_0_8, H_r0_0_8⟩, ⟨r0_0_9, R_r0_0_9, H_r0_0_9⟩, ⟨r0_0_10, R_r0_0_10, H_r0_0_10⟩⟩ := id H_r0_0
  have z_r0_0_6 : rA R r0_0 6 = r0_0_6 := rA_e R_r0_0_6
  have z_r0_0_7 : rA R r0_0 7 = r0_0_7 := rA_e R_r0_0_7
  have z_r0_0_8 : rA R r0_0 8 = r0_0_8 := rA_e R_r0_0_8
  have z_r0_0_9 : rA R r0_0 9 = r0_0_9 := rA_e R_r0_0_9
  have z_r0_0_10 : rA R r0_0 10 = r0_0_10 := rA_e R_r0_0_10
  obtain ⟨T_r1_1, N_r1_1, A_r1_1⟩ := id H_r1_1
  obtain ⟨T_r2_1, N_r2_1, A_r2_1⟩ := id H_r2_1
  obtain ⟨T_r3_1, N_r3_1, A_r3_1⟩ := id H_r3_1
  try simp only [z_r0_0, z_r0_1, z_r0_2, z_r1_1, z_r2_1, z_r3_1, z_r0_0_6, z_r0_0_7, z_r0_0_8, z_r0_0_9, z_r0_0_10] at hp0
  try simp only [z_r0_0, z_r0_1, z_r0_2, z_r1_1, z_r2_1, z_r3_1, z_r0_0_6, z_r0_0_7, z_r0_0_8, z_r0_0_9, z_r0_0_10] at hp1
  try simp only [z_r0_0, z_r0_1, z_r0_2, z_r1_1, z_r2_1, z_r3_1, z_r0_0_6, z_r0_0_7, z_r0_0_8, z_r0_0_9, z_r0_0_10] at hp2
  try simp only [z_r0_0, z_r0_1, z_r0_2, z_r1_1, z_r2_1, z_r3_1, z_r0_0_6, z_r0_0_7, z_r0_0_8, z_r0_0_9, z_r0_0_10] at hp3
  obtain ⟨w_r1_0, k0_r1_0⟩ : ∃ x, I r1 0 = x := ⟨_, rfl⟩
  have gw_r1_0 := rg w_r1_0
  have ow_r1_0 := IX.deg hI A_r1 T_r1 k0_r1_0
  obtain ⟨w_r2_0, k0_r2_0⟩ : ∃ x, I r2 0 = x := ⟨_, rfl⟩
  have gw_r2_0 := rg w_r2_0
  have ow_r2_0 := IX.deg hI A_r2 T_r2 k0_r2_0
  obtain ⟨w_r0_0_0, k0_r0_0_0⟩ : ∃ x, I r0_0 0 = x := ⟨_, rfl⟩
  have gw_r0_0_0 := rg w_r0_0_0
  have ow_r0_0_0 := IX.p hI A_r0_0 T_r0_0 k0_r0_0_0
  try simp only [k0_r1_0, k0_r2_0, k0_r0_0_0] at hp0
  try simp only [k0_r1_0, k0_r2_0, k0_r0_0_0] at hp1
  try simp only [k0_r1_0, k0_r2_0, k0_r0_0_0] at hp2
  try simp only [k0_r1_0, k0_r2_0, k0_r0_0_0] at hp3
  have nb1 : NQ9 r1_1 r3_1 := hU.ne (Or.inr (Or.inr (Or.inr (by omega)))) R_r1_1 R_r3_1 (Or.inl hp0)
  have nb2 : NQ9 r2_1 r3_1 := hU.ne (Or.inr (Or.inr (Or.inr (by omega)))) R_r2_1 R_r3_1 (Or.inl hp1)
  try simp only [k0_r1_0, k0_r0_0_0] at hp2
  try simp only [k0_r2_0, k0_r0_0_0] at hp3
  refine k_aload_n C rfl rfl rfl ?_
  refine g_I C rfl rfl rfl T_r1 rfl k0_r1_0 ?_
  refine k_aload_n C rfl rfl rfl ?_
  refine g_I C rfl rfl rfl T_r2 rfl k0_r2_0 ?_
  refine z_iadd C rfl rfl ⟨by omega, by omega⟩ (fun x1 ex1 => ?_)
  refine z_bipush C (z := 40) rfl rfl rfl (fun x2 ex2 => ?_)
  refine b_icmp_le C (t := 16) rfl rfl rfl (fun c3 => ?_) (fun c3 => ?_)
  · skip
    refine k_aload_n C rfl rfl rfl ?_
    refine k_aload_n C rfl rfl rfl ?_
    refine g_I C rfl rfl rfl T_r1 rfl k0_r1_0 ?_
    refine k_aload_n C rfl rfl rfl ?_
    refine g_I C rfl rfl rfl T_r2 rfl k0_r2_0 ?_
    refine z_iadd C rfl rfl ⟨by omega, by omega⟩ (fun x4 ex4 => ?_)
    refine c_VV C (s_X2_begin_x hS hI H_r3) rfl rfl rfl rfl rfl ⟨_, rfl, rfl, T_r3, Nat.le_of_ble_eq_true rfl⟩ rfl rfl (Nat.le_of_ble_eq_true rfl) (Nat.le_of_ble_eq_true rfl) (Nat.le_of_ble_eq_true rfl) ?_
    rintro I6 L7 ⟨p0v5, p1v5, hI6, S8⟩
    try simp only [z_r0_0, z_r0_1, z_r0_2, z_r1_1, z_r2_1, z_r3_1, z_r0_0_6, z_r0_0_7, z_r0_0_8, z_r0_0_9, z_r0_0_10] at S8
    have e9 := (congrFun (Chg.at S8 (nm_2 (by first | exact hp0 | exact fun e => hp0 e.symm) (t_nq T_r1 T_r3_1 (by decide)))) 0).trans k0_r1_0
    have e10 := (congrFun (Chg.at S8 (nm_2 (by first | exact hp1 | exact fun e => hp1 e.symm) (t_nq T_r2 T_r3_1 (by decide)))) 0).trans k0_r2_0
    have e11 := Chg.k S8 T_r0_0 (by decide) (by decide) k0_r0_0_0
    obtain ⟨x12, e13⟩ : ∃ x, I6 r3 0 = x := ⟨_, rfl⟩
    have gx12 := rg x12
    have ox12 := IX.deg hI6 A_r3 T_r3 e13
    try simp only [z_r0_0, z_r0_1, z_r0_2, z_r1_1, z_r2_1, z_r3_1, z_r0_0_6, z_r0_0_7, z_r0_0_8, z_r0_0_9, z_r0_0_10] at p0v5
    try simp only [z_r0_0, z_r0_1, z_r0_2, z_r1_1, z_r2_1, z_r3_1, z_r0_0_6, z_r0_0_7, z_r0_0_8, z_r0_0_9, z_r0_0_10] at p1v5
    try simp only [k0_r1_0, k0_r2_0, k0_r0_0_0, e13] at p0v5
    try have q0v5 := congrArg Int32.toInt p0v5
    try simp only [k0_r1_0, k0_r2_0, k0_r0_0_0, e13] at p1v5
    try have q1v5 := congrArg Int32.toInt p1v5
    have hbg := p0v5.2.2 (by omega) (by omega); (try rw [e13] at hbg); have hbz := p1v5
    refine k_aload_n C rfl rfl rfl ?_
    refine k_aload_n C rfl rfl rfl ?_
    refine k_aload_n C rfl rfl rfl ?_
    refine z_iconst C (z := 1) rfl rfl rfl (fun x14 ex14 => ?_)
    refine k_aload_n C rfl rfl rfl ?_
    have hk1 := e9; have hk2 := e10; have hk3 := e13; have hkp := e11; have hq1 := (Chg.at ((Chg.mono (Chg.up S8 (List.forall_mem_cons.mpr ⟨List.mem_of_getElem? (i := 0) rfl, List.forall_mem_cons.mpr ⟨List.mem_of_getElem? (i := 1) rfl, fun _ h => nomatch h⟩⟩)) (by decide)) : Chg (SL [r3, r3_1]) T [(3, 0)] I L I6 L7) (nm_2 (t_nq T_r1_1 T_r3 (by decide)) (by first | exact nb1 | exact fun e => nb1 e.symm))); have hq2 := (Chg.at ((Chg.mono (Chg.up S8 (List.forall_mem_cons.mpr ⟨List.mem_of_getElem? (i := 0) rfl, List.forall_mem_cons.mpr ⟨List.mem_of_getElem? (i := 1) rfl, fun _ h => nomatch h⟩⟩)) (by decide)) : Chg (SL [r3, r3_1]) T [(3, 0)] I L I6 L7) (nm_2 (t_nq T_r2_1 T_r3 (by decide)) (by first | exact nb2 | exact fun e => nb2 e.symm)))
    refine c_VV C (s_X0_addProduct_x hS hI6 H_r0 H_r1 H_r2 (by omega) (by omega) H_r3 hU hp0 hp1 (by rw [e9, e10, e13]; omega) (by rw [z_r1_1, z_r0_0, e9, e11]; exact BNX.c hp2 (Chg.at ((Chg.mono (Chg.up S8 (List.forall_mem_cons.mpr ⟨List.mem_of_getElem? (i := 0) rfl, List.forall_mem_cons.mpr ⟨List.mem_of_getElem? (i := 1) rfl, fun _ h => nomatch h⟩⟩)) (by decide)) : Chg (SL [r3, r3_1]) T [(3, 0)] I L I6 L7) (nm_2 (t_nq T_r1_1 T_r3 (by decide)) (by first | exact nb1 | exact fun e => nb1 e.symm))) (by omega)) (by rw [z_r2_1, z_r0_0, e10, e11]; exact BNX.c hp3 (Chg.at ((Chg.mono (Chg.up S8 (List.forall_mem_cons.mpr ⟨List.mem_of_getElem? (i := 0) rfl, List.forall_mem_cons.mpr ⟨List.mem_of_getElem? (i := 1) rfl, fun _ h => nomatch h⟩⟩)) (by decide)) : Chg (SL [r3, r3_1]) T [(3, 0)] I L I6 L7) (nm_2 (t_nq T_r2_1 T_r3 (by decide)) (by first | exact nb2 | exact fun e => nb2 e.symm))) (by omega)) (by rw [z_r3_1, z_r0_0, e13, e11]; exact fun j hj => by rw [hbz j (by omega)]; omega)) rfl rfl rfl rfl rfl ⟨_, rfl, rfl, T_r0, Nat.le_of_ble_eq_true rfl⟩ rfl rfl (Nat.le_of_ble_eq_true rfl) (Nat.le_of_ble_eq_true rfl) (Nat.le_of_ble_eq_true rfl) ?_
    rintro I16 L17 ⟨p0v15, hI16, S18⟩
    try simp only [z_r0_0, z_r0_1, z_r0_2, z_r1_1, z_r2_1, z_r3_1, z_r0_0_6, z_r0_0_7, z_r0_0_8, z_r0_0_9, z_r0_0_10] at S18
    have e19 := Chg.k S18 T_r1 (by decide) (by decide) e9
    have e20 := Chg.k S18 T_r2 (by decide) (by decide) e10
    have e21 := Chg.k S18 T_r0_0 (by decide) (by decide) e11
    have e22 := Chg.k S18 T_r3 (by decide) (by decide) e13
    try simp only [z_r0_0, z_r0_1, z_r0_2, z_r1_1, z_r2_1, z_r3_1, z_r0_0_6, z_r0_0_7, z_r0_0_8, z_r0_0_9, z_r0_0_10] at p0v15
    try simp only [e9, e10, e11, e13] at p0v15
    try have q0v15 := congrArg Int32.toInt p0v15
    have hap := p0v15; (try simp only [hk1, hk2, hk3, hkp] at hap)
    refine z_iconst C (z := 1) rfl rfl rfl (fun x23 ex23 => ?_)
    exact k_iret C rfl (Or.inr ⟨rfl, z01 (by omega) (by omega)⟩) (Nat.le_of_ble_eq_true rfl) (Nat.le_of_ble_eq_true rfl) ⟨_, _, _, rfl, rfl, by omega, by omega, by (try simp only [z_r0_0, z_r0_1, z_r0_2, z_r1_1, z_r2_1, z_r3_1, z_r0_0_6, z_r0_0_7, z_r0_0_8, z_r0_0_9, z_r0_0_10]); intro h; exfalso; omega, by (try simp only [z_r0_0, z_r0_1, z_r0_2, z_r1_1, z_r2_1, z_r3_1, z_r0_0_6, z_r0_0_7, z_r0_0_8, z_r0_0_9, z_r0_0_10]); simp only [k0_r1_0, k0_r2_0]; intro _; omega, by (try simp only [z_r0_0, z_r0_1, z_r0_2, z_r1_1, z_r2_1, z_r3_1, z_r0_0_6, z_r0_0_7, z_r0_0_8, z_r0_0_9, z_r0_0_10]); intro _; rw [e22]; simp only [k0_r1_0, k0_r2_0]; omega, by (try simp only [z_r0_0, z_r0_1, z_r0_2, z_r1_1, z_r2_1, z_r3_1, z_r0_0_6, z_r0_0_7, z_r0_0_8, z_r0_0_9, z_r0_0_10]); intro _; simp only [k0_r1_0, k0_r2_0, k0_r0_0_0]; exact VRX.z1 hap (by omega) hbz hq1 hq2 (by omega) (by omega) rfl rfl, hI16, (by (try simp only [z_r0_0, z_r0_1, z_r0_2, z_r1_1, z_r2_1, z_r3_1, z_r0_0_6, z_r0_0_7, z_r0_0_8, z_r0_0_9, z_r0_0_10]); exact (Chg.cons (Chg.up S8 (List.forall_mem_cons.mpr ⟨List.mem_of_getElem? (i := 0) rfl, List.forall_mem_cons.mpr ⟨List.mem_of_getElem? (i := 1) rfl, fun _ h => nomatch h⟩⟩)) (Chg.mono (Chg.up S18 (List.forall_mem_cons.mpr ⟨List.mem_of_getElem? (i := 1) rfl, fun _ h => nomatch h⟩)) (by decide)) (by decide)))⟩
  refine z_iconst C (z := 0) rfl rfl rfl (fun x24 ex24 => ?_)
  exact k_iret C rfl (Or.inr ⟨rfl, z01 (by omega) (by omega)⟩) (Nat.le_of_ble_eq_true rfl) (Nat.le_of_ble_eq_true rfl) ⟨_, _, _, rfl, rfl, by omega, by omega, by (try simp only [z_r0_0, z_r0_1, z_r0_2, z_r1_1, z_r2_1, z_r3_1, z_r0_0_6, z_r0_0_7, z_r0_0_8, z_r0_0_9, z_r0_0_10]); simp only [k0_r1_0, k0_r2_0]; intro _; omega, by (try simp only [z_r0_0, z_r0_1, z_r0_2, z_r1_1, z_r2_1, z_r3_1, z_r0_0_6, z_r0_0_7, z_r0_0_8, z_r0_0_9, z_r0_0_10]); intro h; exfalso; omega, by (try simp only [z_r0_0, z_r0_1, z_r0_2, z_r1_1, z_r2_1, z_r3_1, z_r0_0_6, z_r0_0_7, z_r0_0_8, z_r0_0_9, z_r0_0_10]); intro h; exfalso; omega, by (try simp only [z_r0_0, z_r0_1, z_r0_2, z_r1_1, z_r2_1, z_r3_1, z_r0_0_6, z_r0_0_7, z_r0_0_8, z_r0_0_9, z_r0_0_10]); intro h; exfalso; omega, hI, (by (try simp only [z_r0_0, z_r0_1, z_r0_2, z_r1_1, z_r2_1, z_r3_1, z_r0_0_6, z_r0_0_7, z_r0_0_8, z_r0_0_9, z_r0_0_10]); exact Chg.rf)⟩

theorem s_X2_pick_Row20_x {d : Nat} {T N : Nat → Nat} {I : IT} {L : LT} {R : RT} {A B : Nat → Prop} {r0 : Nat} {n1 : Int32} (hS : SUB B A) (hI : IX A T I) (H_r0 : (hs_Row20 T N R A B) r0) : Ex (d + 1) 36 [.ref r0, .int n1] (T, N, I, L, R) 0 0 (pR T N R (fun x9 I9 L9 => (∀ b, x9 = some b → (hs_G T N R A B) b) ∧ (PKD R x9 r0 n1 (N r0)) ∧ (I = I9 ∧ L = L9))) := by
  refine ⟨_, rfl, Nat.le_of_ble_eq_true rfl, fun V C S => ?_⟩
  show V 0 [(0, .ref r0), (1, .int n1)] [] (T, N, I, L, R) 0 0
  have gn1 := rg n1
  obtain ⟨T_r0, N_r0, A_r0, E_r0⟩ := id H_r0
  refine k_iload_n C rfl rfl rfl ?_
  refine b_if_lt C (t := 10) rfl rfl rfl (fun c1 => ?_) (fun c1 => ?_)
  · skip
    refine k_null C rfl rfl ?_
    refine k_goto C (pc2 := 17) rfl rfl ?_
    exact k_aret C (x := none) rfl (Or.inl ⟨_, rfl⟩) (Nat.le_of_ble_eq_true rfl) (Nat.le_of_ble_eq_true rfl) ⟨_, _, _, rfl, rfl, fz, by rw [N_r0]; first | exact PKD.r Q_none (by omega) (by omega) | exact PKD.z (by omega), rfl, rfl⟩
  refine k_iload_n C rfl rfl rfl ?_
  refine k_aload_n C rfl rfl rfl ?_
  refine z_len C (n := 20) rfl rfl (by rw [T_r0]; exact Nat.le_of_ble_eq_true rfl) N_r0 (Nat.le_of_ble_eq_true rfl) (fun x2 ex2 => ?_)
  refine b_icmp_lt C (t := 14) rfl rfl rfl (fun c3 => ?_) (fun c3 => ?_)
  · skip
    refine k_aload_n C rfl rfl rfl ?_
    refine k_iload_n C rfl rfl rfl ?_
    refine z_aRe C (t := 0) rfl rfl (Nat.le_of_ble_eq_true rfl) T_r0 N_r0 E_r0 (by omega) (by omega) (fun rr4 Q_rr4 H_rr4 => ?_)
    exact k_aret C (x := some _) rfl (Or.inl ⟨_, rfl⟩) (Nat.le_of_ble_eq_true rfl) (Nat.le_of_ble_eq_true rfl) ⟨_, _, _, rfl, rfl, fb H_rr4, by rw [N_r0]; first | exact PKD.r Q_rr4 (by omega) (by omega) | exact PKD.z (by omega), rfl, rfl⟩
  refine k_null C rfl rfl ?_
  refine k_goto C (pc2 := 17) rfl rfl ?_
  exact k_aret C (x := none) rfl (Or.inl ⟨_, rfl⟩) (Nat.le_of_ble_eq_true rfl) (Nat.le_of_ble_eq_true rfl) ⟨_, _, _, rfl, rfl, fz, by rw [N_r0]; first | exact PKD.r Q_none (by omega) (by omega) | exact PKD.z (by omega), rfl, rfl⟩

theorem s_X1_isLaid_x {d : Nat} {T N : Nat → Nat} {I : IT} {L : LT} {R : RT} {A B : Nat → Prop} {r0 r1 : Nat} (hS : SUB B A) (hI : IX A T I) (H_r0 : (hs_Cc T N R A B) r0) (H_r1 : (hs_F T N R A B) r1) (hU : UPR T R) (hp0 : 0 ≤ (I r0 5).toInt ∧ (I r0 5).toInt < 20) (hp1 : ∀ j, j < 20 → KA R r0 j ≠ r1) : Ex (d + 3) 37 [.ref r0, .ref r1] (T, N, I, L, R) 0 0 (pI T N R (fun x9 I9 L9 => (0 ≤ x9.toInt) ∧ (x9.toInt ≤ 1) ∧ (x9.toInt = 1) ∧ ((I9 r0 5).toInt = (I r0 5).toInt + 1) ∧ (FEQ R I9 (KA R r0 (I r0 5).toNatClampNeg) I r1) ∧ (IX A T I9 ∧ Chg (fun a => a = r0 ∨ a = KA R r0 (I r0 5).toNatClampNeg ∨ a = rA R (KA R r0 (I r0 5).toNatClampNeg) 1) T [(2, 5), (3, 0)] I L I9 L9))) := by
  refine ⟨_, rfl, Nat.le_of_ble_eq_true rfl, fun V C S => ?_⟩
  show V 0 [(0, .ref r0), (1, .ref r1)] [] (T, N, I, L, R) 0 0
  obtain ⟨T_r0, A_r0, B_r0, ⟨r0_0, R_r0_0, H_r0_0⟩, ⟨r0_1, R_r0_1, H_r0_1⟩, ⟨r0_2, R_r0_2, H_r0_2⟩, ⟨r0_3, R_r0_3, H_r0_3⟩, ⟨r0_4, R_r0_4, H_r0_4⟩⟩ := id H_r0
  have z_r0_0 : rA R r0 0 = r0_0 := rA_e R_r0_0
  have z_r0_1 : rA R r0 1 = r0_1 := rA_e R_r0_1
  have z_r0_2 : rA R r0 2 = r0_2 := rA_e R_r0_2
  have z_r0_3 : rA R r0 3 = r0_3 := rA_e R_r0_3
  have z_r0_4 : rA R r0 4 = r0_4 := rA_e R_r0_4
  obtain ⟨T_r0_1, N_r0_1, A_r0_1, E_r0_1⟩ := id H_r0_1
  obtain ⟨T_r1, A_r1, ⟨r1_1, R_r1_1, H_r1_1⟩⟩ := id H_r1
  have z_r1_1 : rA R r1 1 = r1_1 := rA_e R_r1_1
  try simp only [z_r0_0, z_r0_1, z_r0_2, z_r0_3, z_r0_4, z_r1_1] at hp0
  try simp only [z_r0_0, z_r0_1, z_r0_2, z_r0_3, z_r0_4, z_r1_1] at hp1
  obtain ⟨w_r0_5, k0_r0_5⟩ : ∃ x, I r0 5 = x := ⟨_, rfl⟩
  have gw_r0_5 := rg w_r0_5
  try simp only [k0_r0_5] at hp0
  try simp only [k0_r0_5] at hp1
  refine k_aload_n C rfl rfl rfl ?_
  refine g_R C rfl rfl rfl T_r0 rfl R_r0_1 ?_
  refine k_aload_n C rfl rfl rfl ?_
  refine g_I C rfl rfl rfl T_r0 rfl k0_r0_5 ?_
  have iA9 := ncn (n := 20) (j := w_r0_5) (by omega) (by omega)
  refine c_SR C (s_X2_pick_Row20_x hS hI H_r0_1) rfl rfl rfl rfl rfl rfl rfl (Nat.le_of_ble_eq_true rfl) (Nat.le_of_ble_eq_true rfl) (Nat.le_of_ble_eq_true rfl) ?_
  rintro yy1 _ _ ⟨hyy1, p0yy1, rfl, rfl⟩
  try simp only [z_r0_0, z_r0_1, z_r0_2, z_r0_3, z_r0_4, z_r1_1] at p0yy1
  try simp only [k0_r0_5] at p0yy1
  try have q0yy1 := congrArg Int32.toInt p0yy1
  have hpA := p0yy1; rw [N_r0_1] at hpA
  refine k_astore_nV C (x := yy1) (lw := [(2, va_rf yy1), (0, .ref r0), (1, .ref r1)]) rfl rfl (Nat.le_of_ble_eq_true rfl) rfl ?_
  refine k_aload_nV C (x := yy1) rfl rfl rfl ?_
  refine k_ifnonnull C (x := yy1) (t := 18) rfl rfl rfl (fun c2 => ?_) (fun rr3 c2 => ?_)
  · skip
    subst c2
    exact (PKD.no hpA (by omega) (by omega) E_r0_1).elim
  subst c2
  have H_rr3 := hyy1 rr3 rfl
  have oA := KA_e z_r0_1 (PKD.q hpA (by omega) (by omega)); have fA := FO.of (hs_GF hS H_rr3); have f1 := FO.of H_r1; have mA : rr3 ≠ r1 := (fun e => hp1 _ iA9 (oA.trans e))
  refine k_aload_n C rfl rfl rfl ?_
  refine k_aload_n C rfl rfl rfl ?_
  obtain ⟨T_rr3, A_rr3, B_rr3, ⟨rr3_1, R_rr3_1, H_rr3_1⟩⟩ := id H_rr3
  have z_rr3_1 : rA R rr3 1 = rr3_1 := rA_e R_rr3_1
  refine c_VV C (s_X2_copyFrom_x hS hI (hs_GF hS H_rr3) H_r1 mA (obneq hU fA f1 mA)) rfl rfl rfl rfl rfl ⟨_, rfl, rfl, T_rr3, Nat.le_of_ble_eq_true rfl⟩ rfl rfl (Nat.le_of_ble_eq_true rfl) (Nat.le_of_ble_eq_true rfl) (Nat.le_of_ble_eq_true rfl) ?_
  rintro I5 L6 ⟨p0v4, hI5, S7⟩
  try simp only [z_r0_0, z_r0_1, z_r0_2, z_r0_3, z_r0_4, z_r1_1, z_rr3_1] at S7
  have e8 := Chg.k S7 T_r0 (by decide) (by decide) k0_r0_5
  obtain ⟨x9, e10⟩ : ∃ x, I5 rr3 0 = x := ⟨_, rfl⟩
  have gx9 := rg x9
  have ox9 := IX.deg hI5 A_rr3 T_rr3 e10
  try simp only [z_r0_0, z_r0_1, z_r0_2, z_r0_3, z_r0_4, z_r1_1, z_rr3_1] at p0v4
  try simp only [k0_r0_5, e10] at p0v4
  try have q0v4 := congrArg Int32.toInt p0v4
  have hcp := p0v4
  refine k_aload_n C rfl rfl rfl ?_
  refine k_dup C rfl rfl rfl ?_
  refine g_I C rfl rfl rfl T_r0 rfl e8 ?_
  refine z_iconst C (z := 1) rfl rfl rfl (fun x11 ex11 => ?_)
  refine z_iadd C rfl rfl ⟨by omega, by omega⟩ (fun x12 ex12 => ?_)
  refine z_pI C rfl rfl rfl T_r0 (Or.inr rfl) rfl (fun I13 uI13 => ?_)
  have hI13 : IX A T I13 := IX.f hI5 T_r0 (boX.tr (by decide) (by decide)) uI13
  have S14 : Chg (SL [r0]) T [(2, 5)] I5 L6 I13 L6 := Chg.f List.mem_cons_self T_r0 uI13
  have e15 := u2_j uI13 (by decide) e10
  have e16 := u2_e uI13
  have hu30 := uI13
  refine z_iconst C (z := 1) rfl rfl rfl (fun x17 ex17 => ?_)
  exact k_iret C rfl (Or.inr ⟨rfl, z01 (by omega) (by omega)⟩) (Nat.le_of_ble_eq_true rfl) (Nat.le_of_ble_eq_true rfl) ⟨_, _, _, rfl, rfl, by omega, by omega, by (try simp only [z_r0_0, z_r0_1, z_r0_2, z_r0_3, z_r0_4, z_r1_1, z_rr3_1]); omega, by (try simp only [z_r0_0, z_r0_1, z_r0_2, z_r0_3, z_r0_4, z_r1_1, z_rr3_1]); rw [e16]; simp only [k0_r0_5]; omega, by (try simp only [z_r0_0, z_r0_1, z_r0_2, z_r0_3, z_r0_4, z_r1_1, z_rr3_1]); rw [k0_r0_5, oA]; exact hcp.l (by rw [hu30]; exact u2_r (t_nq fA.1 T_r0 (by decide))) (by rw [hu30]; exact u2_r (t_nq fA.2.2 T_r0 (by decide))), hI13, (Chg.cons (Chg.up S7 (sl_2 (Or.inr (Or.inl (by rw [k0_r0_5, oA]))) (Or.inr (Or.inr (z_rr3_1.symm.trans (by rw [k0_r0_5, oA])))))) (Chg.mono (Chg.up S14 (sl_1 (Or.inl rfl))) (by decide)) (by decide))⟩

theorem s_X1_isTurned_x {d : Nat} {T N : Nat → Nat} {I : IT} {L : LT} {R : RT} {A B : Nat → Prop} {r0 : Nat} (hS : SUB B A) (hI : IX A T I) (H_r0 : (hs_Cc T N R A B) r0) (hU : UPR T R) (hp0 : 1 ≤ (I r0 5).toInt ∧ (I r0 5).toInt ≤ 20) (hp1 : BNX I (rA R (KA R r0 ((I r0 5).toInt - 1).toNat) 1) (I (KA R r0 ((I r0 5).toInt - 1).toNat) 0).toInt (I (rA R (rA R r0 0) 0) 0).toInt) : Ex (d + 3) 39 [.ref r0] (T, N, I, L, R) 0 0 (pI T N R (fun x9 I9 L9 => (0 ≤ x9.toInt) ∧ (x9.toInt ≤ 1) ∧ (x9.toInt = 1) ∧ (VRX I9 (rA R (KA R r0 ((I r0 5).toInt - 1).toNat) 1) (I (rA R (rA R r0 0) 0) 0).toInt (I (KA R r0 ((I r0 5).toInt - 1).toNat) 0).toInt (fun m => -1 * NF I (rA R (KA R r0 ((I r0 5).toInt - 1).toNat) 1) m)) ∧ (IX A T I9 ∧ Chg (fun a => a = rA R (KA R r0 ((I r0 5).toInt - 1).toNat) 1) T [] I L I9 L9))) := by
  refine ⟨_, rfl, Nat.le_of_ble_eq_true rfl, fun V C S => ?_⟩
  show V 0 [(0, .ref r0)] [] (T, N, I, L, R) 0 0
  obtain ⟨T_r0, A_r0, B_r0, ⟨r0_0, R_r0_0, H_r0_0⟩, ⟨r0_1, R_r0_1, H_r0_1⟩, ⟨r0_2, R_r0_2, H_r0_2⟩, ⟨r0_3, R_r0_3, H_r0_3⟩, ⟨r0_4, R_r0_4, H_r0_4⟩⟩ := id H_r0
  have z_r0_0 : rA R r0 0 = r0_0 := rA_e R_r0_0
  have z_r0_1 : rA R r0 1 = r0_1 := rA_e R_r0_1
  have z_r0_2 : rA R r0 2 = r0_2 := rA_e R_r0_2
  have z_r0_3 : rA R r0 3 = r0_3 := rA_e R_r0_3
  have z_r0_4 : rA R r0 4 = r0_4 := rA_e R_r0_4
  obtain ⟨T_r0_1, N_r0_1, A_r0_1, E_r0_1⟩ := id H_r0_1
  obtain ⟨T_r0_0, A_r0_0, B_r0_0, ⟨r0_0_0, R_r0_0_0, H_r0_0_0⟩, ⟨r0_0_1, R_r0_0_1, H_r0_0_1⟩, ⟨r0_0_2, R_r0_0_2, H_r0_0_2⟩⟩ := id H_r0_0
  have z_r0_0_0 : rA R r0_0 0 = r0_0_0 := rA_e R_r0_0_0
  have z_r0_0_1 : rA R r0_0 1 = r0_0_1 := rA_e R_r0_0_1
  have z_r0_0_2 : rA R r0_0 2 = r0_0_2 := rA_e R_r0_0_2
  obtain ⟨T_r0_0_0, A_r0_0_0, B_r0_0_0, ⟨r0_0_0_6, R_r0_0_0_6, H_r0_0_0_6⟩, ⟨r0_0_0_7, R_r0_0_0_7, H_r0_0_0_7⟩, ⟨r0_0_0_8, R_r0_0_0_8, H_r0_0_0_8⟩, ⟨r0_0_0_9, R_r0_0_0_9, H_r0_0_0_9⟩, ⟨r0_0_0_10, R_r0_0_0_10, H_r0_0_0_10⟩⟩ := id H_r0_0_0
  have z_r0_0_0_6 : rA R r0_0_0 6 = r0_0_0_6 := rA_e R_r0_0_0_6
  have z_r0_0_0_7 : rA R r0_0_0 7 = r0_0_0_7 := rA_e R_r0_0_0_7
  have z_r0_0_0_8 : rA R r0_0_0 8 = r0_0_0_8 := rA_e R_r0_0_0_8
  have z_r0_0_0_9 : rA R r0_0_0 9 = r0_0_0_9 := rA_e R_r0_0_0_9
  have z_r0_0_0_10 : rA R r0_0_0 10 = r0_0_0_10 := rA_e R_r0_0_0_10
  try simp only [z_r0_0, z_r0_1, z_r0_2, z_r0_3, z_r0_4, z_r0_0_0, z_r0_0_1, z_r0_0_2, z_r0_0_0_6, z_r0_0_0_7, z_r0_0_0_8, z_r0_0_0_9, z_r0_0_0_10] at hp0
  try simp only [z_r0_0, z_r0_1, z_r0_2, z_r0_3, z_r0_4, z_r0_0_0, z_r0_0_1, z_r0_0_2, z_r0_0_0_6, z_r0_0_0_7, z_r0_0_0_8, z_r0_0_0_9, z_r0_0_0_10] at hp1
  obtain ⟨w_r0_5, k0_r0_5⟩ : ∃ x, I r0 5 = x := ⟨_, rfl⟩
  have gw_r0_5 := rg w_r0_5
  try simp only [k0_r0_5] at hp0
  try simp only [k0_r0_5] at hp1
  refine k_aload_n C rfl rfl rfl ?_
  refine g_R C rfl rfl rfl T_r0 rfl R_r0_1 ?_
  refine k_aload_n C rfl rfl rfl ?_
  refine g_I C rfl rfl rfl T_r0 rfl k0_r0_5 ?_
  refine z_iconst C (z := 1) rfl rfl rfl (fun x1 ex1 => ?_)
  refine z_isub C rfl rfl ⟨by omega, by omega⟩ (fun x2 ex2 => ?_)
  have iA9 := ncn (n := 20) (j := x2) (by omega) (by omega); have iAi : x2.toNatClampNeg = (w_r0_5.toInt - 1).toNat := by (have := ncz (x := x2) (by omega); omega)
  refine c_SR C (s_X2_pick_Row20_x hS hI H_r0_1) rfl rfl rfl rfl rfl rfl rfl (Nat.le_of_ble_eq_true rfl) (Nat.le_of_ble_eq_true rfl) (Nat.le_of_ble_eq_true rfl) ?_
  rintro yy3 _ _ ⟨hyy3, p0yy3, rfl, rfl⟩
  try simp only [z_r0_0, z_r0_1, z_r0_2, z_r0_3, z_r0_4, z_r0_0_0, z_r0_0_1, z_r0_0_2, z_r0_0_0_6, z_r0_0_0_7, z_r0_0_0_8, z_r0_0_0_9, z_r0_0_0_10] at p0yy3
  try simp only [k0_r0_5] at p0yy3
  try have q0yy3 := congrArg Int32.toInt p0yy3
  have hpA := p0yy3; rw [N_r0_1] at hpA
  refine k_astore_nV C (x := yy3) (lw := [(1, va_rf yy3), (0, .ref r0)]) rfl rfl (Nat.le_of_ble_eq_true rfl) rfl ?_
  refine k_aload_nV C (x := yy3) rfl rfl rfl ?_
  refine k_ifnonnull C (x := yy3) (t := 20) rfl rfl rfl (fun c4 => ?_) (fun rr5 c4 => ?_)
  · skip
    subst c4
    exact (PKD.no hpA (by omega) (by omega) E_r0_1).elim
  subst c4
  have H_rr5 := hyy3 rr5 rfl
  have oA := KA_e z_r0_1 (PKD.q hpA (by omega) (by omega)); rw [iAi] at oA; have fA := FO.of (hs_GF hS H_rr5); rw [oA] at hp1
  refine k_aload_n C rfl rfl rfl ?_
  refine g_R C rfl rfl rfl T_r0 rfl R_r0_0 ?_
  refine k_aload_n C rfl rfl rfl ?_
  refine z_iconst C (z := -1) rfl rfl rfl (fun x6 ex6 => ?_)
  obtain ⟨T_rr5, A_rr5, B_rr5, ⟨rr5_1, R_rr5_1, H_rr5_1⟩⟩ := id H_rr5
  have z_rr5_1 : rA R rr5 1 = rr5_1 := rA_e R_rr5_1
  refine c_VV C (s_X0_scale_x hS hI H_r0_0 (hs_GF hS H_rr5) (by omega) (by omega) hU (by rw [z_r0_0_0]; exact hp1)) rfl rfl rfl rfl rfl ⟨_, rfl, rfl, T_r0_0, Nat.le_of_ble_eq_true rfl⟩ rfl rfl (Nat.le_of_ble_eq_true rfl) (Nat.le_of_ble_eq_true rfl) (Nat.le_of_ble_eq_true rfl) ?_
  rintro I8 L9 ⟨p0v7, hI8, S10⟩
  try simp only [z_r0_0, z_r0_1, z_r0_2, z_r0_3, z_r0_4, z_r0_0_0, z_r0_0_1, z_r0_0_2, z_r0_0_0_6, z_r0_0_0_7, z_r0_0_0_8, z_r0_0_0_9, z_r0_0_0_10, z_rr5_1] at S10
  have e11 := Chg.k S10 T_r0 (by decide) (by decide) k0_r0_5
  try simp only [z_r0_0, z_r0_1, z_r0_2, z_r0_3, z_r0_4, z_r0_0_0, z_r0_0_1, z_r0_0_2, z_r0_0_0_6, z_r0_0_0_7, z_r0_0_0_8, z_r0_0_0_9, z_r0_0_0_10, z_rr5_1] at p0v7
  try simp only [k0_r0_5] at p0v7
  try have q0v7 := congrArg Int32.toInt p0v7
  have hsc := p0v7; (try rw [z_r0_0_0] at hsc); rw [← z_rr5_1] at hsc
  refine z_iconst C (z := 1) rfl rfl rfl (fun x12 ex12 => ?_)
  exact k_iret C rfl (Or.inr ⟨rfl, z01 (by omega) (by omega)⟩) (Nat.le_of_ble_eq_true rfl) (Nat.le_of_ble_eq_true rfl) ⟨_, _, _, rfl, rfl, by omega, by omega, by (try simp only [z_r0_0, z_r0_1, z_r0_2, z_r0_3, z_r0_4, z_r0_0_0, z_r0_0_1, z_r0_0_2, z_r0_0_0_6, z_r0_0_0_7, z_r0_0_0_8, z_r0_0_0_9, z_r0_0_0_10, z_rr5_1]); omega, by (try simp only [z_r0_0, z_r0_1, z_r0_2, z_r0_3, z_r0_4, z_r0_0_0, z_r0_0_1, z_r0_0_2, z_r0_0_0_6, z_r0_0_0_7, z_r0_0_0_8, z_r0_0_0_9, z_r0_0_0_10, z_rr5_1]); rw [k0_r0_5, oA]; exact VRX.tn hsc (by omega), hI8, (Chg.mono (Chg.up S10 (sl_1 (z_rr5_1.symm.trans (by rw [k0_r0_5, oA])))) (by decide))⟩

theorem s_X1_isJoined_x {d : Nat} {T N : Nat → Nat} {I : IT} {L : LT} {R : RT} {A B : Nat → Prop} {r0 : Nat} {n1 n2 : Int32} (hS : SUB B A) (hI : IX A T I) (H_r0 : (hs_Cc T N R A B) r0) (hU : UPR T R) (hp0 : 2 ≤ (I r0 5).toInt ∧ (I r0 5).toInt ≤ 20) (hp1 : BNX I (rA R (KA R r0 ((I r0 5).toInt - 2).toNat) 1) (I (KA R r0 ((I r0 5).toInt - 2).toNat) 0).toInt (I (rA R (rA R r0 0) 0) 0).toInt) (hp2 : BNX I (rA R (KA R r0 ((I r0 5).toInt - 1).toNat) 1) (I (KA R r0 ((I r0 5).toInt - 1).toNat) 0).toInt (I (rA R (rA R r0 0) 0) 0).toInt) (hp3 : n1.toInt ≠ 2 → n1.toInt ≠ 3 → 0 ≤ n2.toInt ∧ n2.toInt ≤ 8) : Ex (d + 5) 40 [.ref r0, .int n1, .int n2] (T, N, I, L, R) 0 0 (pI T N R (fun x9 I9 L9 => (0 ≤ x9.toInt) ∧ (x9.toInt ≤ 1) ∧ ((I9 r0 5).toInt = (I r0 5).toInt - 1) ∧ (JND R I9 I (KA R r0 ((I r0 5).toInt - 2).toNat) (KA R r0 ((I r0 5).toInt - 1).toNat) n1.toInt n2.toInt x9.toInt (I (rA R (rA R r0 0) 0) 0).toInt) ∧ (IX A T I9 ∧ Chg (fun a => a = r0 ∨ a = KA R r0 ((I r0 5).toInt - 2).toNat ∨ a = rA R (KA R r0 ((I r0 5).toInt - 2).toNat) 1 ∨ SL [(rA R r0 4), (rA R (rA R r0 4) 1), (rA R (rA R r0 0) 1), (rA R (rA R (rA R r0 0) 1) 1), (rA R (rA R r0 0) 2), (rA R (rA R (rA R r0 0) 2) 1)] a) T [(2, 5), (3, 0)] I L I9 L9))) := by
  refine ⟨_, rfl, Nat.le_of_ble_eq_true rfl, fun V C S => ?_⟩
  show V 0 [(0, .ref r0), (1, .int n1), (2, .int n2)] [] (T, N, I, L, R) 0 0
  have gn1 := rg n1
  have gn2 := rg n2
  obtain ⟨T_r0, A_r0, B_r0, ⟨r0_0, R_r0_0, H_r0_0⟩, ⟨r0_1, R_r0_1, H_r0_1⟩, ⟨r0_2, R_r0_2, H_r0_2⟩, ⟨r0_3, R_r0_3, H_r0_3⟩, ⟨r0_4, R_r0_4, H_r0_4⟩⟩ := id H_r0
  have z_r0_0 : rA R r0 0 = r0_0 := rA_e R_r0_0
  have z_r0_1 : rA R r0 1 = r0_1 := rA_e R_r0_1
  have z_r0_2 : rA R r0 2 = r0_2 := rA_e R_r0_2
  have z_r0_3 : rA R r0 3 = r0_3 := rA_e R_r0_3
  have z_r0_4 : rA R r0 4 = r0_4 := rA_e R_r0_4
  obtain ⟨T_r0_0, A_r0_0, B_r0_0, ⟨r0_0_0, R_r0_0_0, H_r0_0_0⟩, ⟨r0_0_1, R_r0_0_1, H_r0_0_1⟩, ⟨r0_0_2, R_r0_0_2, H_r0_0_2⟩⟩ := id H_r0_0
  have z_r0_0_0 : rA R r0_0 0 = r0_0_0 := rA_e R_r0_0_0
  have z_r0_0_1 : rA R r0_0 1 = r0_0_1 := rA_e R_r0_0_1
  have z_r0_0_2 : rA R r0_0 2 = r0_0_2 := rA_e R_r0_0_2
  obtain ⟨T_r0_0_0, A_r0_0_0, B_r0_0_0, ⟨r0_0_0_6, R_r0_0_0_6, H_r0_0_0_6⟩, ⟨r0_0_0_7, R_r0_0_0_7, H_r0_0_0_7⟩, ⟨r0_0_0_8, R_r0_0_0_8, H_r0_0_0_8⟩, ⟨r0_0_0_9, R_r0_0_0_9, H_r0_0_0_9⟩, ⟨r0_0_0_10, R_r0_0_0_10, H_r0_0_0_10⟩⟩ := id H_r0_0_0
  have z_r0_0_0_6 : rA R r0_0_0 6 = r0_0_0_6 := rA_e R_r0_0_0_6
  have z_r0_0_0_7 : rA R r0_0_0 7 = r0_0_0_7 := rA_e R_r0_0_0_7
  have z_r0_0_0_8 : rA R r0_0_0 8 = r0_0_0_8 := rA_e R_r0_0_0_8
  have z_r0_0_0_9 : rA R r0_0_0 9 = r0_0_0_9 := rA_e R_r0_0_0_9
  have z_r0_0_0_10 : rA R r0_0_0 10 = r0_0_0_10 := rA_e R_r0_0_0_10
  obtain ⟨T_r0_0_1, A_r0_0_1, B_r0_0_1, ⟨r0_0_1_1, R_r0_0_1_1, H_r0_0_1_1⟩⟩ := id H_r0_0_1
  have z_r0_0_1_1 : rA R r0_0_1 1 = r0_0_1_1 := rA_e R_r0_0_1_1
  obtain ⟨T_r0_0_1_1, N_r0_0_1_1, A_r0_0_1_1⟩ := id H_r0_0_1_1
  obtain ⟨T_r0_0_2, A_r0_0_2, B_r0_0_2, ⟨r0_0_2_1, R_r0_0_2_1, H_r0_0_2_1⟩⟩ := id H_r0_0_2
  have z_r0_0_2_1 : rA R r0_0_2 1 = r0_0_2_1 := rA_e R_r0_0_2_1
  obtain ⟨T_r0_0_2_1, N_r0_0_2_1, A_r0_0_2_1⟩ := id H_r0_0_2_1
  obtain ⟨T_r0_1, N_r0_1, A_r0_1, E_r0_1⟩ := id H_r0_1
  obtain ⟨T_r0_4, A_r0_4, B_r0_4, ⟨r0_4_1, R_r0_4_1, H_r0_4_1⟩⟩ := id H_r0_4
  have z_r0_4_1 : rA R r0_4 1 = r0_4_1 := rA_e R_r0_4_1
  obtain ⟨T_r0_4_1, N_r0_4_1, A_r0_4_1⟩ := id H_r0_4_1
  try simp only [z_r0_0, z_r0_1, z_r0_2, z_r0_3, z_r0_4, z_r0_0_0, z_r0_0_1, z_r0_0_2, z_r0_0_0_6, z_r0_0_0_7, z_r0_0_0_8, z_r0_0_0_9, z_r0_0_0_10, z_r0_0_1_1, z_r0_0_2_1, z_r0_4_1] at hp0
  try simp only [z_r0_0, z_r0_1, z_r0_2, z_r0_3, z_r0_4, z_r0_0_0, z_r0_0_1, z_r0_0_2, z_r0_0_0_6, z_r0_0_0_7, z_r0_0_0_8, z_r0_0_0_9, z_r0_0_0_10, z_r0_0_1_1, z_r0_0_2_1, z_r0_4_1] at hp1
  try simp only [z_r0_0, z_r0_1, z_r0_2, z_r0_3, z_r0_4, z_r0_0_0, z_r0_0_1, z_r0_0_2, z_r0_0_0_6, z_r0_0_0_7, z_r0_0_0_8, z_r0_0_0_9, z_r0_0_0_10, z_r0_0_1_1, z_r0_0_2_1, z_r0_4_1] at hp2
  try simp only [z_r0_0, z_r0_1, z_r0_2, z_r0_3, z_r0_4, z_r0_0_0, z_r0_0_1, z_r0_0_2, z_r0_0_0_6, z_r0_0_0_7, z_r0_0_0_8, z_r0_0_0_9, z_r0_0_0_10, z_r0_0_1_1, z_r0_0_2_1, z_r0_4_1] at hp3
  obtain ⟨w_r0_5, k0_r0_5⟩ : ∃ x, I r0 5 = x := ⟨_, rfl⟩
  have gw_r0_5 := rg w_r0_5
  try simp only [k0_r0_5] at hp0
  try simp only [k0_r0_5] at hp1
  try simp only [k0_r0_5] at hp2
  try simp only [k0_r0_5] at hp3
  have wl : NQ9 _ _ := hU.ne (Or.inl T_r0_4) R_r0_4 R_r0_0_1 (Or.inl (t_nq T_r0 T_r0_0 (by decide)))
  have wr : NQ9 _ _ := hU.ne (Or.inl T_r0_4) R_r0_4 R_r0_0_2 (Or.inl (t_nq T_r0 T_r0_0 (by decide)))
  have lr : NQ9 _ _ := hU.ne (Or.inl T_r0_0_1) R_r0_0_1 R_r0_0_2 (Or.inr (by decide))
  refine k_aload_n C rfl rfl rfl ?_
  refine g_R C rfl rfl rfl T_r0 rfl R_r0_1 ?_
  refine k_aload_n C rfl rfl rfl ?_
  refine g_I C rfl rfl rfl T_r0 rfl k0_r0_5 ?_
  refine z_iconst C (z := 2) rfl rfl rfl (fun x1 ex1 => ?_)
  refine z_isub C rfl rfl ⟨by omega, by omega⟩ (fun x2 ex2 => ?_)
  have iA9 := ncn (n := 20) (j := x2) (by omega) (by omega); have iAi : x2.toNatClampNeg = (w_r0_5.toInt - 2).toNat := by (have := ncz (x := x2) (by omega); omega)
  refine c_SR C (s_X2_pick_Row20_x hS hI H_r0_1) rfl rfl rfl rfl rfl rfl rfl (Nat.le_of_ble_eq_true rfl) (Nat.le_of_ble_eq_true rfl) (Nat.le_of_ble_eq_true rfl) ?_
  rintro yy3 _ _ ⟨hyy3, p0yy3, rfl, rfl⟩
  try simp only [z_r0_0, z_r0_1, z_r0_2, z_r0_3, z_r0_4, z_r0_0_0, z_r0_0_1, z_r0_0_2, z_r0_0_0_6, z_r0_0_0_7, z_r0_0_0_8, z_r0_0_0_9, z_r0_0_0_10, z_r0_0_1_1, z_r0_0_2_1, z_r0_4_1] at p0yy3
  try simp only [k0_r0_5] at p0yy3
  try have q0yy3 := congrArg Int32.toInt p0yy3
  have hpA := p0yy3; rw [N_r0_1] at hpA
  refine k_astore_nV C (x := yy3) (lw := [(3, va_rf yy3), (0, .ref r0), (1, .int n1), (2, .int n2)]) rfl rfl (Nat.le_of_ble_eq_true rfl) rfl ?_
  refine k_aload_n C rfl rfl rfl ?_
  refine g_R C rfl rfl rfl T_r0 rfl R_r0_1 ?_
  refine k_aload_n C rfl rfl rfl ?_
  refine g_I C rfl rfl rfl T_r0 rfl k0_r0_5 ?_
  refine z_iconst C (z := 1) rfl rfl rfl (fun x4 ex4 => ?_)
  refine z_isub C rfl rfl ⟨by omega, by omega⟩ (fun x5 ex5 => ?_)
  have iB9 := ncn (n := 20) (j := x5) (by omega) (by omega); have iBi : x5.toNatClampNeg = (w_r0_5.toInt - 1).toNat := by (have := ncz (x := x5) (by omega); omega)
  refine c_SR C (s_X2_pick_Row20_x hS hI H_r0_1) rfl rfl rfl rfl rfl rfl rfl (Nat.le_of_ble_eq_true rfl) (Nat.le_of_ble_eq_true rfl) (Nat.le_of_ble_eq_true rfl) ?_
  rintro yy6 _ _ ⟨hyy6, p0yy6, rfl, rfl⟩
  try simp only [z_r0_0, z_r0_1, z_r0_2, z_r0_3, z_r0_4, z_r0_0_0, z_r0_0_1, z_r0_0_2, z_r0_0_0_6, z_r0_0_0_7, z_r0_0_0_8, z_r0_0_0_9, z_r0_0_0_10, z_r0_0_1_1, z_r0_0_2_1, z_r0_4_1] at p0yy6
  try simp only [k0_r0_5] at p0yy6
  try have q0yy6 := congrArg Int32.toInt p0yy6
  have hpB := p0yy6; rw [N_r0_1] at hpB
  refine k_astoreV C (x := yy6) (lw := [(4, va_rf yy6), (3, va_rf yy3), (0, .ref r0), (1, .int n1), (2, .int n2)]) rfl rfl (Nat.le_of_ble_eq_true rfl) (by cases yy3 <;> rfl) ?_
  refine k_aload_nV C (x := yy3) rfl rfl rfl ?_
  refine k_ifnull C (x := yy3) (t := 38) rfl rfl rfl (fun c7 => ?_) (fun rr8 c7 => ?_)
  · skip
    subst c7
    exact (PKD.no hpA (by omega) (by omega) E_r0_1).elim
  subst c7
  have H_rr8 := hyy3 rr8 rfl
  have hRA := PKD.q hpA (by omega) (by omega); have oA := KA_e z_r0_1 hRA; rw [iAi] at oA; have fA := FO.of (hs_GF hS H_rr8); have dA := IX.deg hI H_rr8.2.1 H_rr8.1 rfl; rw [oA] at hp1; have mw1 : NQ9 _ _ := hU.ne (Or.inl fA.1) hRA R_r0_4 (Or.inl (t_nq T_r0_1 T_r0 (by decide))); have ml1 : NQ9 _ _ := hU.ne (Or.inl fA.1) hRA R_r0_0_1 (Or.inl (t_nq T_r0_1 T_r0_0 (by decide))); have mr1 : NQ9 _ _ := hU.ne (Or.inl fA.1) hRA R_r0_0_2 (Or.inl (t_nq T_r0_1 T_r0_0 (by decide)))
  refine k_aloadV C (x := yy6) rfl rfl rfl ?_
  refine k_ifnonnull C (x := yy6) (t := 40) rfl rfl rfl (fun c9 => ?_) (fun rr10 c9 => ?_)
  · skip
    subst c9
    exact (PKD.no hpB (by omega) (by omega) E_r0_1).elim
  subst c9
  have H_rr10 := hyy6 rr10 rfl
  have hRB := PKD.q hpB (by omega) (by omega); have oB := KA_e z_r0_1 hRB; rw [iBi] at oB; have fB := FO.of (hs_GF hS H_rr10); have dB := IX.deg hI H_rr10.2.1 H_rr10.1 rfl; rw [oB] at hp2; have mw2 : NQ9 _ _ := hU.ne (Or.inl fB.1) hRB R_r0_4 (Or.inl (t_nq T_r0_1 T_r0 (by decide))); have ml2 : NQ9 _ _ := hU.ne (Or.inl fB.1) hRB R_r0_0_1 (Or.inl (t_nq T_r0_1 T_r0_0 (by decide))); have mr2 : NQ9 _ _ := hU.ne (Or.inl fB.1) hRB R_r0_0_2 (Or.inl (t_nq T_r0_1 T_r0_0 (by decide))); have mab : NQ9 _ _ := hU.ne (Or.inl fA.1) hRA hRB (Or.inr (by omega))
  refine k_aload_n C rfl rfl rfl ?_
  refine k_dup C rfl rfl rfl ?_
  refine g_I C rfl rfl rfl T_r0 rfl k0_r0_5 ?_
  refine z_iconst C (z := 1) rfl rfl rfl (fun x11 ex11 => ?_)
  refine z_isub C rfl rfl ⟨by omega, by omega⟩ (fun x12 ex12 => ?_)
  refine z_pI C rfl rfl rfl T_r0 (Or.inr rfl) rfl (fun I13 uI13 => ?_)
  have hI13 : IX A T I13 := IX.f hI T_r0 (boX.tr (by decide) (by decide)) uI13
  have S14 : Chg (SL [r0]) T [(2, 5)] I L I13 L := Chg.f List.mem_cons_self T_r0 uI13
  have e15 := u2_e uI13
  have hu47 := uI13
  refine k_iload_n C rfl rfl rfl ?_
  refine z_iconst C (z := 2) rfl rfl rfl (fun x16 ex16 => ?_)
  refine b_icmp_ne C (t := 66) rfl rfl rfl (fun c17 => ?_) (fun c17 => ?_)
  · skip
    refine k_iload_n C rfl rfl rfl ?_
    refine z_iconst C (z := 3) rfl rfl rfl (fun x18 ex18 => ?_)
    refine b_icmp_ne C (t := 88) rfl rfl rfl (fun c19 => ?_) (fun c19 => ?_)
    · skip
      refine k_aload_n C rfl rfl rfl ?_
      refine g_R C rfl rfl rfl T_r0 rfl R_r0_0 ?_
      refine k_aload_n C rfl rfl rfl ?_
      refine k_aload C rfl rfl rfl ?_
      refine k_iload_n C rfl rfl rfl ?_
      refine k_aload_n C rfl rfl rfl ?_
      refine g_R C rfl rfl rfl T_r0 rfl R_r0_4 ?_
      have hp3 := hp3 (by omega) (by omega)
      obtain ⟨T_rr8, A_rr8, B_rr8, ⟨rr8_1, R_rr8_1, H_rr8_1⟩⟩ := id H_rr8
      have z_rr8_1 : rA R rr8 1 = rr8_1 := rA_e R_rr8_1
      obtain ⟨T_rr10, A_rr10, B_rr10, ⟨rr10_1, R_rr10_1, H_rr10_1⟩⟩ := id H_rr10
      have z_rr10_1 : rA R rr10 1 = rr10_1 := rA_e R_rr10_1
      refine c_VI C (s_X0_overlapInto_x hS hI13 H_r0_0 (hs_GF hS H_rr8) (hs_GF hS H_rr10) (hs_GF hS H_r0_4) hU mw1 mw2 (by rw [z_r0_0_1]; exact wl) (by rw [z_r0_0_2]; exact wr) (by rw [z_r0_0_1]; exact ml1) (by rw [z_r0_0_2]; exact mr1) (by rw [z_r0_0_1]; exact ml2) (by rw [z_r0_0_2]; exact mr2) (by rw [z_r0_0_1, z_r0_0_2]; exact lr) (Or.inl (by omega)) (by rw [z_r0_0_0]; exact BNX.pt hp1 hu47 (t_nq fA.2.2 T_r0 (by decide)) (t_nq fA.1 T_r0 (by decide)) (t_nq T_r0_0_0 T_r0 (by decide))) (by rw [z_r0_0_0]; exact BNX.pt hp2 hu47 (t_nq fB.2.2 T_r0 (by decide)) (t_nq fB.1 T_r0 (by decide)) (t_nq T_r0_0_0 T_r0 (by decide)))) rfl rfl rfl rfl rfl ⟨_, rfl, rfl, T_r0_0, Nat.le_of_ble_eq_true rfl⟩ rfl rfl (Nat.le_of_ble_eq_true rfl) (Nat.le_of_ble_eq_true rfl) (Nat.le_of_ble_eq_true rfl) ?_
      rintro x20 I21 L22 ⟨o0x20, o1x20, p0x20, p1x20, p2x20, p3x20, hI21, S23⟩
      try simp only [z_r0_0, z_r0_1, z_r0_2, z_r0_3, z_r0_4, z_r0_0_0, z_r0_0_1, z_r0_0_2, z_r0_0_0_6, z_r0_0_0_7, z_r0_0_0_8, z_r0_0_0_9, z_r0_0_0_10, z_r0_0_1_1, z_r0_0_2_1, z_r0_4_1, z_rr8_1, z_rr10_1] at S23
      have e24 := Chg.k S23 T_r0 (by decide) (by decide) e15
      have gx20 := rg x20
      obtain ⟨x25, e26⟩ : ∃ x, I21 r0_4 0 = x := ⟨_, rfl⟩
      have gx25 := rg x25
      have ox25 := IX.deg hI21 A_r0_4 T_r0_4 e26
      try simp only [z_r0_0, z_r0_1, z_r0_2, z_r0_3, z_r0_4, z_r0_0_0, z_r0_0_1, z_r0_0_2, z_r0_0_0_6, z_r0_0_0_7, z_r0_0_0_8, z_r0_0_0_9, z_r0_0_0_10, z_r0_0_1_1, z_r0_0_2_1, z_r0_4_1, z_rr8_1, z_rr10_1] at p0x20
      try simp only [z_r0_0, z_r0_1, z_r0_2, z_r0_3, z_r0_4, z_r0_0_0, z_r0_0_1, z_r0_0_2, z_r0_0_0_6, z_r0_0_0_7, z_r0_0_0_8, z_r0_0_0_9, z_r0_0_0_10, z_r0_0_1_1, z_r0_0_2_1, z_r0_4_1, z_rr8_1, z_rr10_1] at p1x20
      try simp only [z_r0_0, z_r0_1, z_r0_2, z_r0_3, z_r0_4, z_r0_0_0, z_r0_0_1, z_r0_0_2, z_r0_0_0_6, z_r0_0_0_7, z_r0_0_0_8, z_r0_0_0_9, z_r0_0_0_10, z_r0_0_1_1, z_r0_0_2_1, z_r0_4_1, z_rr8_1, z_rr10_1] at p2x20
      try simp only [z_r0_0, z_r0_1, z_r0_2, z_r0_3, z_r0_4, z_r0_0_0, z_r0_0_1, z_r0_0_2, z_r0_0_0_6, z_r0_0_0_7, z_r0_0_0_8, z_r0_0_0_9, z_r0_0_0_10, z_r0_0_1_1, z_r0_0_2_1, z_r0_4_1, z_rr8_1, z_rr10_1] at p3x20
      try simp only [e15, e26] at p0x20
      try have q0x20 := congrArg Int32.toInt p0x20
      try simp only [e15, e26] at p1x20
      try have q1x20 := congrArg Int32.toInt p1x20
      try simp only [e15, e26] at p2x20
      try have q2x20 := congrArg Int32.toInt p2x20
      try simp only [e15, e26] at p3x20
      try have q3x20 := congrArg Int32.toInt p3x20
      have hv0 := p0x20; have hv1 := p1x20; have hv2 := p2x20; (try rw [← e26] at hv2); have hv3 := p3x20; (try rw [z_r0_0_0] at hv3); rw [← z_r0_4_1, ← z_rr8_1, ← z_rr10_1] at hv3
      refine k_istore C (lw := [(5, .int x20), (4, .ref rr10), (3, .ref rr8), (0, .ref r0), (1, .int n1), (2, .int n2)]) rfl rfl (Nat.le_of_ble_eq_true rfl) rfl ?_
      refine k_aload_n C rfl rfl rfl ?_
      refine k_aload_n C rfl rfl rfl ?_
      refine g_R C rfl rfl rfl T_r0 rfl R_r0_4 ?_
      refine c_VV C (s_X2_copyFrom_x hS hI21 (hs_GF hS H_rr8) (hs_GF hS H_r0_4) mw1 (obneq hU fA (FO.of (hs_GF hS H_r0_4)) mw1)) rfl rfl rfl rfl rfl ⟨_, rfl, rfl, T_rr8, Nat.le_of_ble_eq_true rfl⟩ rfl rfl (Nat.le_of_ble_eq_true rfl) (Nat.le_of_ble_eq_true rfl) (Nat.le_of_ble_eq_true rfl) ?_
      rintro I28 L29 ⟨p0v27, hI28, S30⟩
      try simp only [z_r0_0, z_r0_1, z_r0_2, z_r0_3, z_r0_4, z_r0_0_0, z_r0_0_1, z_r0_0_2, z_r0_0_0_6, z_r0_0_0_7, z_r0_0_0_8, z_r0_0_0_9, z_r0_0_0_10, z_r0_0_1_1, z_r0_0_2_1, z_r0_4_1, z_rr8_1, z_rr10_1] at S30
      have e31 := Chg.k S30 T_r0 (by decide) (by decide) e24
      obtain ⟨x32, e33⟩ : ∃ x, I28 rr8 0 = x := ⟨_, rfl⟩
      have gx32 := rg x32
      have ox32 := IX.deg hI28 A_rr8 T_rr8 e33
      try simp only [z_r0_0, z_r0_1, z_r0_2, z_r0_3, z_r0_4, z_r0_0_0, z_r0_0_1, z_r0_0_2, z_r0_0_0_6, z_r0_0_0_7, z_r0_0_0_8, z_r0_0_0_9, z_r0_0_0_10, z_r0_0_1_1, z_r0_0_2_1, z_r0_4_1, z_rr8_1, z_rr10_1] at p0v27
      try simp only [e24, e26, e33] at p0v27
      try have q0v27 := congrArg Int32.toInt p0v27
      have hcp := p0v27
      refine k_iload C rfl rfl rfl ?_
      exact k_iret C rfl (Or.inr ⟨rfl, z01 (by omega) (by omega)⟩) (Nat.le_of_ble_eq_true rfl) (Nat.le_of_ble_eq_true rfl) ⟨_, _, _, rfl, rfl, by omega, by omega, by (try simp only [z_r0_0, z_r0_1, z_r0_2, z_r0_3, z_r0_4, z_r0_0_0, z_r0_0_1, z_r0_0_2, z_r0_0_0_6, z_r0_0_0_7, z_r0_0_0_8, z_r0_0_0_9, z_r0_0_0_10, z_r0_0_1_1, z_r0_0_2_1, z_r0_4_1, z_rr8_1, z_rr10_1]); rw [e31]; simp only [k0_r0_5]; omega, by (try simp only [z_r0_0, z_r0_1, z_r0_2, z_r0_3, z_r0_4, z_r0_0_0, z_r0_0_1, z_r0_0_2, z_r0_0_0_6, z_r0_0_0_7, z_r0_0_0_8, z_r0_0_0_9, z_r0_0_0_10, z_r0_0_1_1, z_r0_0_2_1, z_r0_4_1, z_rr8_1, z_rr10_1]); rw [k0_r0_5, oA, oB]; first | exact JND.mu hu47 (t_nq fA.1 T_r0 (by decide)) (t_nq fA.2.2 T_r0 (by decide)) (t_nq fB.1 T_r0 (by decide)) (t_nq fB.2.2 T_r0 (by decide)) (by omega) hm0 hm1 hm2 (fun q => VRX.pp (hm3 q) (congrFun (hu47.symm ▸ (u2_r (t_nq T_r0_0_0 T_r0 (by decide)))) 0)) hcp dA dB | exact JND.ov hu47 (t_nq fA.1 T_r0 (by decide)) (t_nq fA.2.2 T_r0 (by decide)) (t_nq fB.1 T_r0 (by decide)) (t_nq fB.2.2 T_r0 (by decide)) (by omega) (by omega) rfl hp3.1 hv0 hv1 hv2 (fun q => VRX.pp (hv3 q) (congrFun (hu47.symm ▸ (u2_r (t_nq T_r0_0_0 T_r0 (by decide)))) 0)) hcp, hI28, (by (try simp only [z_r0_0, z_r0_1, z_r0_2, z_r0_3, z_r0_4, z_r0_0_0, z_r0_0_1, z_r0_0_2, z_r0_0_0_6, z_r0_0_0_7, z_r0_0_0_8, z_r0_0_0_9, z_r0_0_0_10, z_r0_0_1_1, z_r0_0_2_1, z_r0_4_1, z_rr8_1, z_rr10_1]); exact (Chg.cons (Chg.up S14 (sl_1 (Or.inl rfl))) (Chg.cons (Chg.up S23 (sl_6 (Or.inr (Or.inr (Or.inr (List.Mem.head _)))) (Or.inr (Or.inr (Or.inr (List.Mem.tail _ (List.Mem.head _))))) (Or.inr (Or.inr (Or.inr (List.Mem.tail _ (List.Mem.tail _ (List.Mem.head _)))))) (Or.inr (Or.inr (Or.inr (List.Mem.tail _ (List.Mem.tail _ (List.Mem.tail _ (List.Mem.head _))))))) (Or.inr (Or.inr (Or.inr (List.Mem.tail _ (List.Mem.tail _ (List.Mem.tail _ (List.Mem.tail _ (List.Mem.head _)))))))) (Or.inr (Or.inr (Or.inr (List.Mem.tail _ (List.Mem.tail _ (List.Mem.tail _ (List.Mem.tail _ (List.Mem.tail _ (List.Mem.head _))))))))))) (Chg.mono (Chg.up S30 (sl_2 (Or.inr (Or.inl (by rw [k0_r0_5, oA]))) (Or.inr (Or.inr (Or.inl (z_rr8_1.symm.trans (by rw [k0_r0_5, oA]))))))) (by decide)) (by decide)) (by decide)))⟩
    refine k_aload_n C rfl rfl rfl ?_
    refine g_R C rfl rfl rfl T_r0 rfl R_r0_0 ?_
    refine k_aload_n C rfl rfl rfl ?_
    refine k_aload C rfl rfl rfl ?_
    refine k_aload_n C rfl rfl rfl ?_
    refine g_R C rfl rfl rfl T_r0 rfl R_r0_4 ?_
    obtain ⟨T_rr8, A_rr8, B_rr8, ⟨rr8_1, R_rr8_1, H_rr8_1⟩⟩ := id H_rr8
    have z_rr8_1 : rA R rr8 1 = rr8_1 := rA_e R_rr8_1
    obtain ⟨T_rr10, A_rr10, B_rr10, ⟨rr10_1, R_rr10_1, H_rr10_1⟩⟩ := id H_rr10
    have z_rr10_1 : rA R rr10 1 = rr10_1 := rA_e R_rr10_1
    refine c_VI C (s_X0_multiplyInto_x hS hI13 H_r0_0 (hs_GF hS H_rr8) (hs_GF hS H_rr10) (hs_GF hS H_r0_4) hU mw1 mw2 (by rw [z_r0_0_0]; exact BNX.pt hp1 hu47 (t_nq fA.2.2 T_r0 (by decide)) (t_nq fA.1 T_r0 (by decide)) (t_nq T_r0_0_0 T_r0 (by decide))) (by rw [z_r0_0_0]; exact BNX.pt hp2 hu47 (t_nq fB.2.2 T_r0 (by decide)) (t_nq fB.1 T_r0 (by decide)) (t_nq T_r0_0_0 T_r0 (by decide)))) rfl rfl rfl rfl rfl ⟨_, rfl, rfl, T_r0_0, Nat.le_of_ble_eq_true rfl⟩ rfl rfl (Nat.le_of_ble_eq_true rfl) (Nat.le_of_ble_eq_true rfl) (Nat.le_of_ble_eq_true rfl) ?_
    rintro x34 I35 L36 ⟨o0x34, o1x34, p0x34, p1x34, p2x34, p3x34, hI35, S37⟩
    try simp only [z_r0_0, z_r0_1, z_r0_2, z_r0_3, z_r0_4, z_r0_0_0, z_r0_0_1, z_r0_0_2, z_r0_0_0_6, z_r0_0_0_7, z_r0_0_0_8, z_r0_0_0_9, z_r0_0_0_10, z_r0_0_1_1, z_r0_0_2_1, z_r0_4_1, z_rr8_1, z_rr10_1] at S37
    have e38 := Chg.k S37 T_r0 (by decide) (by decide) e15
    have gx34 := rg x34
    obtain ⟨x39, e40⟩ : ∃ x, I35 r0_4 0 = x := ⟨_, rfl⟩
    have gx39 := rg x39
    have ox39 := IX.deg hI35 A_r0_4 T_r0_4 e40
    try simp only [z_r0_0, z_r0_1, z_r0_2, z_r0_3, z_r0_4, z_r0_0_0, z_r0_0_1, z_r0_0_2, z_r0_0_0_6, z_r0_0_0_7, z_r0_0_0_8, z_r0_0_0_9, z_r0_0_0_10, z_r0_0_1_1, z_r0_0_2_1, z_r0_4_1, z_rr8_1, z_rr10_1] at p0x34
    try simp only [z_r0_0, z_r0_1, z_r0_2, z_r0_3, z_r0_4, z_r0_0_0, z_r0_0_1, z_r0_0_2, z_r0_0_0_6, z_r0_0_0_7, z_r0_0_0_8, z_r0_0_0_9, z_r0_0_0_10, z_r0_0_1_1, z_r0_0_2_1, z_r0_4_1, z_rr8_1, z_rr10_1] at p1x34
    try simp only [z_r0_0, z_r0_1, z_r0_2, z_r0_3, z_r0_4, z_r0_0_0, z_r0_0_1, z_r0_0_2, z_r0_0_0_6, z_r0_0_0_7, z_r0_0_0_8, z_r0_0_0_9, z_r0_0_0_10, z_r0_0_1_1, z_r0_0_2_1, z_r0_4_1, z_rr8_1, z_rr10_1] at p2x34
    try simp only [z_r0_0, z_r0_1, z_r0_2, z_r0_3, z_r0_4, z_r0_0_0, z_r0_0_1, z_r0_0_2, z_r0_0_0_6, z_r0_0_0_7, z_r0_0_0_8, z_r0_0_0_9, z_r0_0_0_10, z_r0_0_1_1, z_r0_0_2_1, z_r0_4_1, z_rr8_1, z_rr10_1] at p3x34
    try simp only [e15, e40] at p0x34
    try have q0x34 := congrArg Int32.toInt p0x34
    try simp only [e15, e40] at p1x34
    try have q1x34 := congrArg Int32.toInt p1x34
    try simp only [e15, e40] at p2x34
    try have q2x34 := congrArg Int32.toInt p2x34
    try simp only [e15, e40] at p3x34
    try have q3x34 := congrArg Int32.toInt p3x34
    have hm0 := p0x34; have hm1 := p1x34; have hm2 := p2x34; (try rw [← e40] at hm2); have hm3 := p3x34; (try rw [z_r0_0_0] at hm3); rw [← z_r0_4_1, ← z_rr8_1, ← z_rr10_1] at hm3
    refine k_goto C (pc2 := 103) rfl rfl ?_
    refine k_istore C (lw := [(5, .int x34), (4, .ref rr10), (3, .ref rr8), (0, .ref r0), (1, .int n1), (2, .int n2)]) rfl rfl (Nat.le_of_ble_eq_true rfl) rfl ?_
    refine k_aload_n C rfl rfl rfl ?_
    refine k_aload_n C rfl rfl rfl ?_
    refine g_R C rfl rfl rfl T_r0 rfl R_r0_4 ?_
    refine c_VV C (s_X2_copyFrom_x hS hI35 (hs_GF hS H_rr8) (hs_GF hS H_r0_4) mw1 (obneq hU fA (FO.of (hs_GF hS H_r0_4)) mw1)) rfl rfl rfl rfl rfl ⟨_, rfl, rfl, T_rr8, Nat.le_of_ble_eq_true rfl⟩ rfl rfl (Nat.le_of_ble_eq_true rfl) (Nat.le_of_ble_eq_true rfl) (Nat.le_of_ble_eq_true rfl) ?_
    rintro I42 L43 ⟨p0v41, hI42, S44⟩
    try simp only [z_r0_0, z_r0_1, z_r0_2, z_r0_3, z_r0_4, z_r0_0_0, z_r0_0_1, z_r0_0_2, z_r0_0_0_6, z_r0_0_0_7, z_r0_0_0_8, z_r0_0_0_9, z_r0_0_0_10, z_r0_0_1_1, z_r0_0_2_1, z_r0_4_1, z_rr8_1, z_rr10_1] at S44
    have e45 := Chg.k S44 T_r0 (by decide) (by decide) e38
    obtain ⟨x46, e47⟩ : ∃ x, I42 rr8 0 = x := ⟨_, rfl⟩
    have gx46 := rg x46
    have ox46 := IX.deg hI42 A_rr8 T_rr8 e47
    try simp only [z_r0_0, z_r0_1, z_r0_2, z_r0_3, z_r0_4, z_r0_0_0, z_r0_0_1, z_r0_0_2, z_r0_0_0_6, z_r0_0_0_7, z_r0_0_0_8, z_r0_0_0_9, z_r0_0_0_10, z_r0_0_1_1, z_r0_0_2_1, z_r0_4_1, z_rr8_1, z_rr10_1] at p0v41
    try simp only [e38, e40, e47] at p0v41
    try have q0v41 := congrArg Int32.toInt p0v41
    have hcp := p0v41
    refine k_iload C rfl rfl rfl ?_
    exact k_iret C rfl (Or.inr ⟨rfl, z01 (by omega) (by omega)⟩) (Nat.le_of_ble_eq_true rfl) (Nat.le_of_ble_eq_true rfl) ⟨_, _, _, rfl, rfl, by omega, by omega, by (try simp only [z_r0_0, z_r0_1, z_r0_2, z_r0_3, z_r0_4, z_r0_0_0, z_r0_0_1, z_r0_0_2, z_r0_0_0_6, z_r0_0_0_7, z_r0_0_0_8, z_r0_0_0_9, z_r0_0_0_10, z_r0_0_1_1, z_r0_0_2_1, z_r0_4_1, z_rr8_1, z_rr10_1]); rw [e45]; simp only [k0_r0_5]; omega, by (try simp only [z_r0_0, z_r0_1, z_r0_2, z_r0_3, z_r0_4, z_r0_0_0, z_r0_0_1, z_r0_0_2, z_r0_0_0_6, z_r0_0_0_7, z_r0_0_0_8, z_r0_0_0_9, z_r0_0_0_10, z_r0_0_1_1, z_r0_0_2_1, z_r0_4_1, z_rr8_1, z_rr10_1]); rw [k0_r0_5, oA, oB]; first | exact JND.mu hu47 (t_nq fA.1 T_r0 (by decide)) (t_nq fA.2.2 T_r0 (by decide)) (t_nq fB.1 T_r0 (by decide)) (t_nq fB.2.2 T_r0 (by decide)) (by omega) hm0 hm1 hm2 (fun q => VRX.pp (hm3 q) (congrFun (hu47.symm ▸ (u2_r (t_nq T_r0_0_0 T_r0 (by decide)))) 0)) hcp dA dB | exact JND.ov hu47 (t_nq fA.1 T_r0 (by decide)) (t_nq fA.2.2 T_r0 (by decide)) (t_nq fB.1 T_r0 (by decide)) (t_nq fB.2.2 T_r0 (by decide)) (by omega) (by omega) rfl hp3.1 hv0 hv1 hv2 (fun q => VRX.pp (hv3 q) (congrFun (hu47.symm ▸ (u2_r (t_nq T_r0_0_0 T_r0 (by decide)))) 0)) hcp, hI42, (by (try simp only [z_r0_0, z_r0_1, z_r0_2, z_r0_3, z_r0_4, z_r0_0_0, z_r0_0_1, z_r0_0_2, z_r0_0_0_6, z_r0_0_0_7, z_r0_0_0_8, z_r0_0_0_9, z_r0_0_0_10, z_r0_0_1_1, z_r0_0_2_1, z_r0_4_1, z_rr8_1, z_rr10_1]); exact (Chg.cons (Chg.up S14 (sl_1 (Or.inl rfl))) (Chg.cons (Chg.up S37 (sl_2 (Or.inr (Or.inr (Or.inr (List.Mem.head _)))) (Or.inr (Or.inr (Or.inr (List.Mem.tail _ (List.Mem.head _))))))) (Chg.mono (Chg.up S44 (sl_2 (Or.inr (Or.inl (by rw [k0_r0_5, oA]))) (Or.inr (Or.inr (Or.inl (z_rr8_1.symm.trans (by rw [k0_r0_5, oA]))))))) (by decide)) (by decide)) (by decide)))⟩
  refine k_aload_n C rfl rfl rfl ?_
  refine g_R C rfl rfl rfl T_r0 rfl R_r0_0 ?_
  refine k_aload_n C rfl rfl rfl ?_
  refine k_aload C rfl rfl rfl ?_
  obtain ⟨T_rr8, A_rr8, B_rr8, ⟨rr8_1, R_rr8_1, H_rr8_1⟩⟩ := id H_rr8
  have z_rr8_1 : rA R rr8 1 = rr8_1 := rA_e R_rr8_1
  obtain ⟨T_rr10, A_rr10, B_rr10, ⟨rr10_1, R_rr10_1, H_rr10_1⟩⟩ := id H_rr10
  have z_rr10_1 : rA R rr10 1 = rr10_1 := rA_e R_rr10_1
  refine c_VI C (s_X0_addTo_x hS hI13 H_r0_0 (hs_GF hS H_rr8) (hs_GF hS H_rr10) hU (obneq hU fA fB mab) (by rw [z_r0_0_0]; exact BNX.pt hp1 hu47 (t_nq fA.2.2 T_r0 (by decide)) (t_nq fA.1 T_r0 (by decide)) (t_nq T_r0_0_0 T_r0 (by decide))) (by rw [z_r0_0_0]; exact BNX.pt hp2 hu47 (t_nq fB.2.2 T_r0 (by decide)) (t_nq fB.1 T_r0 (by decide)) (t_nq T_r0_0_0 T_r0 (by decide)))) rfl rfl rfl rfl rfl ⟨_, rfl, rfl, T_r0_0, Nat.le_of_ble_eq_true rfl⟩ rfl rfl (Nat.le_of_ble_eq_true rfl) (Nat.le_of_ble_eq_true rfl) (Nat.le_of_ble_eq_true rfl) ?_
  rintro x48 I49 L50 ⟨o0x48, o1x48, p0x48, p1x48, p2x48, hI49, S51⟩
  try simp only [z_r0_0, z_r0_1, z_r0_2, z_r0_3, z_r0_4, z_r0_0_0, z_r0_0_1, z_r0_0_2, z_r0_0_0_6, z_r0_0_0_7, z_r0_0_0_8, z_r0_0_0_9, z_r0_0_0_10, z_r0_0_1_1, z_r0_0_2_1, z_r0_4_1, z_rr8_1, z_rr10_1] at S51
  have e52 := Chg.k S51 T_r0 (by decide) (by decide) e15
  have gx48 := rg x48
  try simp only [z_r0_0, z_r0_1, z_r0_2, z_r0_3, z_r0_4, z_r0_0_0, z_r0_0_1, z_r0_0_2, z_r0_0_0_6, z_r0_0_0_7, z_r0_0_0_8, z_r0_0_0_9, z_r0_0_0_10, z_r0_0_1_1, z_r0_0_2_1, z_r0_4_1, z_rr8_1, z_rr10_1] at p0x48
  try simp only [z_r0_0, z_r0_1, z_r0_2, z_r0_3, z_r0_4, z_r0_0_0, z_r0_0_1, z_r0_0_2, z_r0_0_0_6, z_r0_0_0_7, z_r0_0_0_8, z_r0_0_0_9, z_r0_0_0_10, z_r0_0_1_1, z_r0_0_2_1, z_r0_4_1, z_rr8_1, z_rr10_1] at p1x48
  try simp only [z_r0_0, z_r0_1, z_r0_2, z_r0_3, z_r0_4, z_r0_0_0, z_r0_0_1, z_r0_0_2, z_r0_0_0_6, z_r0_0_0_7, z_r0_0_0_8, z_r0_0_0_9, z_r0_0_0_10, z_r0_0_1_1, z_r0_0_2_1, z_r0_4_1, z_rr8_1, z_rr10_1] at p2x48
  try simp only [e15] at p0x48
  try have q0x48 := congrArg Int32.toInt p0x48
  try simp only [e15] at p1x48
  try have q1x48 := congrArg Int32.toInt p1x48
  try simp only [e15] at p2x48
  try have q2x48 := congrArg Int32.toInt p2x48
  have ha0 := p0x48; have ha1 := p1x48; have ha2 := p2x48; (try rw [z_r0_0_0] at ha2); rw [← z_rr8_1, ← z_rr10_1] at ha2; have hS62 := S51
  exact k_iret C rfl (Or.inr ⟨rfl, z01 (by omega) (by omega)⟩) (Nat.le_of_ble_eq_true rfl) (Nat.le_of_ble_eq_true rfl) ⟨_, _, _, rfl, rfl, by omega, by omega, by (try simp only [z_r0_0, z_r0_1, z_r0_2, z_r0_3, z_r0_4, z_r0_0_0, z_r0_0_1, z_r0_0_2, z_r0_0_0_6, z_r0_0_0_7, z_r0_0_0_8, z_r0_0_0_9, z_r0_0_0_10, z_r0_0_1_1, z_r0_0_2_1, z_r0_4_1, z_rr8_1, z_rr10_1]); rw [e52]; simp only [k0_r0_5]; omega, by (try simp only [z_r0_0, z_r0_1, z_r0_2, z_r0_3, z_r0_4, z_r0_0_0, z_r0_0_1, z_r0_0_2, z_r0_0_0_6, z_r0_0_0_7, z_r0_0_0_8, z_r0_0_0_9, z_r0_0_0_10, z_r0_0_1_1, z_r0_0_2_1, z_r0_4_1, z_rr8_1, z_rr10_1]); rw [k0_r0_5, oA, oB]; exact JND.ad hu47 (t_nq fA.1 T_r0 (by decide)) (t_nq fA.2.2 T_r0 (by decide)) (t_nq fB.1 T_r0 (by decide)) (t_nq fB.2.2 T_r0 (by decide)) (by omega) ha0 ha1 (fun q => VRX.pp (ha2 q) (congrFun (hu47.symm ▸ (u2_r (t_nq T_r0_0_0 T_r0 (by decide)))) 0)) (Chg.at hS62 (nm_1 (by rw [← z_rr8_1]; exact t_nq fA.1 fA.2.2 (by decide)))) dA, hI49, (by (try simp only [z_r0_0, z_r0_1, z_r0_2, z_r0_3, z_r0_4, z_r0_0_0, z_r0_0_1, z_r0_0_2, z_r0_0_0_6, z_r0_0_0_7, z_r0_0_0_8, z_r0_0_0_9, z_r0_0_0_10, z_r0_0_1_1, z_r0_0_2_1, z_r0_4_1, z_rr8_1, z_rr10_1]); exact (Chg.cons (Chg.up S14 (sl_1 (Or.inl rfl))) (Chg.mono (Chg.up S51 (sl_1 (Or.inr (Or.inr (Or.inl (z_rr8_1.symm.trans (by rw [k0_r0_5, oA]))))))) (by decide)) (by decide)))⟩

