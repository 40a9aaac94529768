/-! a state laid into the other, tables, exactly -/
def SA (R : RT) (st j : Nat) : Nat := rA R (rA R st 10) j
def GG (T : Nat → Nat) (R : RT) (st : Nat) : Prop := R st 10 = some (rA R st 10) ∧ T (rA R st 10) = 25 ∧ ∀ j, j < 8 → R (rA R st 10) j = some (SA R st j) ∧ T (SA R st j) = 8 ∧ (R (SA R st j) 0 = some (rA R (SA R st j) 0) ∧ T (rA R (SA R st j) 0) = 20) ∧ R (SA R st j) 1 = some (rA R (SA R st j) 1) ∧ T (rA R (SA R st j) 1) = 20
theorem GG.of {T N : Nat → Nat} {R : RT} {A B : Nat → Prop} {st : Nat} (h : hs_St T N R A B st) : GG T R st := by
  obtain ⟨h1, -, -, -, -, -, -, ⟨tt, R9, T9, -, -, E9⟩⟩ := h
  have z9 := rA_e R9
  refine ⟨by rw [z9]; exact R9, by rw [z9]; exact T9, fun j hj => ?_⟩
  obtain ⟨f, f1, f2, -, ⟨a, a1, a2, -, -⟩, ⟨b, b1, b2, -, -⟩⟩ := E9 j hj
  unfold SA
  rw [z9, rA_e f1, rA_e a1, rA_e b1]
  exact ⟨f1, f2, ⟨a1, a2⟩, b1, b2⟩
/-- all that a state holds -/
def OWN (R : RT) (st a : Nat) : Prop := WSX R st a ∨ (∃ j, j < 16 ∧ (a = FA R st j ∨ a = rA R (FA R st j) 1)) ∨ (∃ j, j < 8 ∧ a = TA R st j) ∨ ∃ j, j < 8 ∧ (a = SA R st j ∨ a = rA R (SA R st j) 0 ∨ a = rA R (SA R st j) 1)
theorem OWN.f {R : RT} {st j f : Nat} (h : FA R st j = f) (hj : j < 16) : OWN R st f := Or.inr (Or.inl ⟨j, hj, Or.inl h.symm⟩)
theorem OWN.fb {R : RT} {st j f : Nat} (h : FA R st j = f) (hj : j < 16) : OWN R st (rA R f 1) := Or.inr (Or.inl ⟨j, hj, Or.inr (by rw [h])⟩)
theorem OWN.t {R : RT} {st j t : Nat} (h : TA R st j = t) (hj : j < 8) : OWN R st t := Or.inr (Or.inr (Or.inl ⟨j, hj, h.symm⟩))
theorem OWN.s {R : RT} {st j t : Nat} (h : SA R st j = t) (hj : j < 8) : OWN R st t := Or.inr (Or.inr (Or.inr ⟨j, hj, Or.inl h.symm⟩))
theorem OWN.s0 {R : RT} {st j t : Nat} (h : SA R st j = t) (hj : j < 8) : OWN R st (rA R t 0) := Or.inr (Or.inr (Or.inr ⟨j, hj, Or.inr (Or.inl (by rw [h]))⟩))
theorem OWN.s1 {R : RT} {st j t : Nat} (h : SA R st j = t) (hj : j < 8) : OWN R st (rA R t 1) := Or.inr (Or.inr (Or.inr ⟨j, hj, Or.inr (Or.inr (by rw [h]))⟩))
def t20 {t : Nat} (h : t = 20) : t = 3 ∨ t = 8 ∨ t = 10 ∨ 20 ≤ t := Or.inr (Or.inr (Or.inr (by omega)))
theorem GS.r87 {T : Nat → Nat} {R : RT} {st st' : Nat} (hU : UPR T R) (hG : GS T R st) (hG' : GS T R st') : rA R st' 8 ≠ rA R st 7 := hU.ne (Or.inr (Or.inr (Or.inr (by have := hG'.2.2.2.1.2; omega)))) hG'.2.2.2.1.1 hG.2.2.1.1 (Or.inr (by decide))
theorem GS.r8 {T : Nat → Nat} {R : RT} {st st' : Nat} (hU : UPR T R) (hG : GS T R st) (hG' : GS T R st') (hn : st' ≠ st) : rA R st' 8 ≠ rA R st 8 := hU.ne (Or.inr (Or.inr (Or.inr (by have := hG'.2.2.2.1.2; omega)))) hG'.2.2.2.1.1 hG.2.2.2.1.1 (Or.inl hn)
theorem GS.r9 {T : Nat → Nat} {R : RT} {st st' : Nat} (hU : UPR T R) (hG : GS T R st) (hG' : GS T R st') (hn : st' ≠ st) : rA R st' 9 ≠ rA R st 9 := hU.ne (Or.inr (Or.inr (Or.inr (by have := hG'.2.2.2.2.1.2; omega)))) hG'.2.2.2.2.1.1 hG.2.2.2.2.1.1 (Or.inl hn)
/-- a form held elsewhere than in the state's two rows is none of its cells -/
theorem OWN.nf {T : Nat → Nat} {R : RT} {st f a k : Nat} (hU : UPR T R) (hG : GS T R st) (hg : GG T R st) (hf : T f = 3) (hR : R a k = some f) (h7 : a ≠ rA R st 7) (h8 : a ≠ rA R st 8) : ¬ OWN R st f := by
  have hF := hG.2.2.2.2.2.2.1
  have hT := hG.2.2.2.2.2.2.2
  rintro (e | ⟨j, hj, e | e⟩ | ⟨j, hj, e⟩ | ⟨j, hj, e | e | e⟩)
  · exact WSX.nf hU hG hf hR h7 e
  · exact hU.ne (Or.inl hf) hR (hF j hj).1 (Or.inl h8) e
  · have := (hF j hj).2.2.2; rw [← e] at this; omega
  · have := (hT j hj).2; rw [← e] at this; omega
  · have := (hg.2.2 j hj).2.1; rw [← e] at this; omega
  · have := (hg.2.2 j hj).2.2.1.2; rw [← e] at this; omega
  · have := (hg.2.2 j hj).2.2.2.2; rw [← e] at this; omega
theorem OWN.nb {T : Nat → Nat} {R : RT} {st f a k : Nat} (hU : UPR T R) (hG : GS T R st) (hg : GG T R st) (hf : FO T R f) (hR : R a k = some f) (h7 : a ≠ rA R st 7) (h8 : a ≠ rA R st 8) : ¬ OWN R st (rA R f 1) := by
  have h0 := OWN.nf hU hG hg hf.1 hR h7 h8
  obtain ⟨Tf, Rf, Tb⟩ := id hf
  have hF := hG.2.2.2.2.2.2.1
  have hT := hG.2.2.2.2.2.2.2
  rintro (e | ⟨j, hj, e | e⟩ | ⟨j, hj, e⟩ | ⟨j, hj, e | e | e⟩)
  · exact WSX.nb hU hG hf hR h7 e
  · have := (hF j hj).2.1; rw [← e] at this; omega
  · exact hU.ne (t20 Tb) Rf (hF j hj).2.2.1 (Or.inl (fun q => h0 (Or.inr (Or.inl ⟨j, hj, Or.inl q⟩)))) e
  · have := (hT j hj).2; rw [← e] at this; omega
  · have := (hg.2.2 j hj).2.1; rw [← e] at this; omega
  · exact hU.ne (t20 Tb) Rf (hg.2.2 j hj).2.2.1.1 (Or.inl (fun q => by have := (hg.2.2 j hj).2.1; rw [← q] at this; omega)) e
  · exact hU.ne (t20 Tb) Rf (hg.2.2 j hj).2.2.2.1 (Or.inl (fun q => by have := (hg.2.2 j hj).2.1; rw [← q] at this; omega)) e
theorem OWN.nt {T : Nat → Nat} {R : RT} {st t a k : Nat} (hU : UPR T R) (hG : GS T R st) (hg : GG T R st) (ht : T t = 10) (hR : R a k = some t) (h9 : a ≠ rA R st 9) : ¬ OWN R st t := by
  have hF := hG.2.2.2.2.2.2.1
  have hT := hG.2.2.2.2.2.2.2
  rintro ((e | e | ⟨j, hj, e | e⟩) | ⟨j, hj, e | e⟩ | ⟨j, hj, e⟩ | ⟨j, hj, e | e | e⟩)
  · have := hG.1; rw [← e] at this; omega
  · have := hG.2.1.2; rw [← e] at this; omega
  · have := (hG.2.2.2.2.2.1 j hj).2.1; rw [← e] at this; omega
  · have := (hG.2.2.2.2.2.1 j hj).2.2.2; rw [← e] at this; omega
  · have := (hF j hj).2.1; rw [← e] at this; omega
  · have := (hF j hj).2.2.2; rw [← e] at this; omega
  · exact hU.ne (Or.inr (Or.inr (Or.inl ht))) hR (hT j hj).1 (Or.inl h9) e
  · have := (hg.2.2 j hj).2.1; rw [← e] at this; omega
  · have := (hg.2.2 j hj).2.2.1.2; rw [← e] at this; omega
  · have := (hg.2.2 j hj).2.2.2.2; rw [← e] at this; omega
theorem CAL.at {T : Nat → Nat} {R : RT} {I I1 I2 : IT} {L1 L2 : LT} {W : List (Nat × Nat)} {S : Nat → Prop} {r0 r1 : Nat} {k : Int} (h : CAL R I1 I r0 r1 k) (c : Chg S T W I1 L1 I2 L2) (hS : ∀ a, S a → ¬ WSX R r0 a) : CAL R I2 I r0 r1 k := fun j hj h9 =>
  (AEQ.at c (fun q => hS _ q (Or.inr (Or.inl rfl))) (fun q => hS _ q (Or.inr (Or.inr ⟨j, h9, Or.inl rfl⟩))) (fun q => hS _ q (Or.inr (Or.inr ⟨j, h9, Or.inr rfl⟩)))).tr (h j hj h9)
def FLL (R : RT) (I' I : IT) (r0 r1 : Nat) (k : Int) : Prop := ∀ j : Nat, (j : Int) < k → j < 16 → FEQ R I' (FA R r0 j) I (FA R r1 j)
theorem FLL.z {R : RT} {I' I : IT} {r0 r1 : Nat} {k : Int} (h : k = 0) : FLL R I' I r0 r1 k := fun j hj _ => by omega
theorem FLL.at {T : Nat → Nat} {R : RT} {I I1 I2 : IT} {L1 L2 : LT} {W : List (Nat × Nat)} {S : Nat → Prop} {r0 r1 : Nat} {k : Int} (h : FLL R I1 I r0 r1 k) (c : Chg S T W I1 L1 I2 L2) (hS : ∀ j, j < 16 → ¬ S (FA R r0 j) ∧ ¬ S (rA R (FA R r0 j) 1)) : FLL R I2 I r0 r1 k := fun j hj h9 => (FEQ.rf.l (Chg.at c (hS j h9).1) (Chg.at c (hS j h9).2)).tr (h j hj h9)
def TLL (R : RT) (I' I : IT) (r0 r1 : Nat) (k : Int) : Prop := ∀ j : Nat, (j : Int) < k → j < 8 → ∀ i, i < 4 → I' (TA R r0 j) i = I (TA R r1 j) i
theorem TLL.z {R : RT} {I' I : IT} {r0 r1 : Nat} {k : Int} (h : k = 0) : TLL R I' I r0 r1 k := fun j hj _ => by omega
theorem TLL.at {T : Nat → Nat} {R : RT} {I I1 I2 : IT} {L1 L2 : LT} {W : List (Nat × Nat)} {S : Nat → Prop} {r0 r1 : Nat} {k : Int} (h : TLL R I1 I r0 r1 k) (c : Chg S T W I1 L1 I2 L2) (hS : ∀ j, j < 8 → ¬ S (TA R r0 j)) : TLL R I2 I r0 r1 k := fun j hj h9 i hi => (congrFun (Chg.at c (hS j h9)) i).trans (h j hj h9 i hi)
theorem FLL.s {T : Nat → Nat} {R : RT} {I I1 I2 : IT} {L L1 L2 : LT} {W W1 : List (Nat × Nat)} {r0 r1 f f' fb : Nat} {k k' : Int32} (h : FLL R I1 I r0 r1 k.toInt) (hU : UPR T R) (hG : GS T R r0) (hG1 : GS T R r1) (hg : GG T R r0) (hn : r0 ≠ r1) (F : Chg (OWN R r0) T W1 I L I1 L1) (hf : FA R r0 k.toNatClampNeg = f) (hf' : FA R r1 k.toNatClampNeg = f') (hfb : rA R f 1 = fb) (e : FEQ R I2 f I1 f') (S : Chg (SL [f, fb]) T W I1 L1 I2 L2) (h0 : 0 ≤ k.toInt) (h16 : k.toInt < 16) (hk : k'.toInt = k.toInt + 1) : FLL R I2 I r0 r1 k'.toInt := by
  have n0 := ncz h0
  have hF := hG.2.2.2.2.2.2.1
  have hF1 := hG1.2.2.2.2.2.2.1
  subst hf; subst hf'; subst hfb
  intro j hj h9
  by_cases q : j = k.toNatClampNeg
  · subst q
    have o := hF1 k.toNatClampNeg (by omega)
    have n7 := GS.r87 hU hG hG1
    have n8 := GS.r8 hU hG hG1 (Ne.symm hn)
    exact e.tr (FEQ.rf.l (Chg.at F (OWN.nf hU hG hg o.2.1 o.1 n7 n8)) (Chg.at F (OWN.nb hU hG hg o.2 o.1 n7 n8)))
  · have a := hF j h9
    have b := hF k.toNatClampNeg (by omega)
    have n1 : FA R r0 j ≠ FA R r0 k.toNatClampNeg := hU.ne (Or.inl a.2.1) a.1 b.1 (Or.inr q)
    have n2 : FA R r0 j ≠ rA R (FA R r0 k.toNatClampNeg) 1 := fun e => by have := a.2.1; rw [e] at this; have := b.2.2.2; omega
    have n3 : rA R (FA R r0 j) 1 ≠ FA R r0 k.toNatClampNeg := fun e => by have := a.2.2.2; rw [e] at this; have := b.2.1; omega
    have n4 : rA R (FA R r0 j) 1 ≠ rA R (FA R r0 k.toNatClampNeg) 1 := hU.ne (t20 a.2.2.2) a.2.2.1 b.2.2.1 (Or.inl n1)
    exact (FEQ.rf.l (Chg.at S (nm_2 n1 n2)) (Chg.at S (nm_2 n3 n4))).tr (h j (by omega) h9)
theorem TLL.s {T : Nat → Nat} {R : RT} {I I1 I2 : IT} {L L1 L2 : LT} {W W1 : List (Nat × Nat)} {r0 r1 t t' : Nat} {k k' x0 x1 x2 x3 : Int32} (h : TLL R I1 I r0 r1 k.toInt) (hU : UPR T R) (hG : GS T R r0) (hG1 : GS T R r1) (hg : GG T R r0) (hn : r0 ≠ r1) (F : Chg (OWN R r0) T W1 I L I1 L1) (ht : TA R r0 k.toNatClampNeg = t) (ht' : TA R r1 k.toNatClampNeg = t') (a0 : I2 t 0 = x0) (a1 : I2 t 1 = x1) (a2 : I2 t 2 = x2) (a3 : I2 t 3 = x3) (b0 : I1 t' 0 = x0) (b1 : I1 t' 1 = x1) (b2 : I1 t' 2 = x2) (b3 : I1 t' 3 = x3) (S : Chg (SL [t]) T W I1 L1 I2 L2) (h0 : 0 ≤ k.toInt) (h16 : k.toInt < 8) (hk : k'.toInt = k.toInt + 1) : TLL R I2 I r0 r1 k'.toInt := by
  have n0 := ncz h0
  have hT := hG.2.2.2.2.2.2.2
  have hT1 := hG1.2.2.2.2.2.2.2
  subst ht; subst ht'
  intro j hj h9 i hi
  by_cases q : j = k.toNatClampNeg
  · subst q
    have o := hT1 k.toNatClampNeg (by omega)
    rw [← Chg.at F (OWN.nt hU hG hg o.2 o.1 (GS.r9 hU hG hG1 (Ne.symm hn)))]
    match i, hi with
    | 0, _ => rw [a0, b0]
    | 1, _ => rw [a1, b1]
    | 2, _ => rw [a2, b2]
    | 3, _ => rw [a3, b3]
  · have a := hT j h9
    have b := hT k.toNatClampNeg (by omega)
    have n1 : TA R r0 j ≠ TA R r0 k.toNatClampNeg := hU.ne (Or.inr (Or.inr (Or.inl a.2))) a.1 b.1 (Or.inr q)
    exact (congrFun (Chg.at S (nm_1 n1)) i).trans (h j (by omega) h9 i hi)
