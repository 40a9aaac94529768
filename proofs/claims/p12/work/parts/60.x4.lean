/-! a state laid into the other, tables, exactly -/
def SA (R : RT) (st j : Nat) : Nat := rA R (rA R st 10) j
def GG (T : Nat → Nat) (R : RT) (st : Nat) : Prop := R st 10 = some (rA R st 10) ∧ T (rA R st 10) = 25 ∧ ∀ j, j < 8 → R (rA R st 10) j = some (SA R st j) ∧ T (SA R st j) = 8 ∧ (R (SA R st j) 0 = some (rA R (SA R st j) 0) ∧ T (rA R (SA R st j) 0) = 20) ∧ R (SA R st j) 1 = some (rA R (SA R st j) 1) ∧ T (rA R (SA R st j) 1) = 20
theorem GG.of {T N : Nat → Nat} {R : RT} {A B : Nat → Prop} {st : Nat} (h : hs_St T N R A B st) : GG T R st := by
  obtain ⟨h1, -, -, -, -, -, -, ⟨tt, R9, T9, -, -, E9⟩⟩ := h
  have z9 := rA_e R9
  refine ⟨by rw [z9]; exact R9, by rw [z9]; exact T9, fun j hj => ?_⟩
  obtain ⟨f, f1, f2, -, ⟨a, a1, a2, -, -⟩, ⟨b, b1, b2, -, -⟩⟩ := E9 j hj
  unfold SA
  rw [z9, rA_e f1, rA_e a1, rA_e b1]
  exact ⟨f1, f2, ⟨a1, a2⟩, b1, b2⟩
/-- all that a state holds -/
def OWN (R : RT) (st a : Nat) : Prop := WSX R st a ∨ (∃ j, j < 16 ∧ (a = FA R st j ∨ a = rA R (FA R st j) 1)) ∨ (∃ j, j < 8 ∧ a = TA R st j) ∨ ∃ j, j < 8 ∧ (a = SA R st j ∨ a = rA R (SA R st j) 0 ∨ a = rA R (SA R st j) 1)
theorem OWN.f {R : RT} {st j f : Nat} (h : FA R st j = f) (hj : j < 16) : OWN R st f := Or.inr (Or.inl ⟨j, hj, Or.inl h.symm⟩)
theorem OWN.fb {R : RT} {st j f : Nat} (h : FA R st j = f) (hj : j < 16) : OWN R st (rA R f 1) := Or.inr (Or.inl ⟨j, hj, Or.inr (by rw [h])⟩)
theorem OWN.t {R : RT} {st j t : Nat} (h : TA R st j = t) (hj : j < 8) : OWN R st t := Or.inr (Or.inr (Or.inl ⟨j, hj, h.symm⟩))
theorem OWN.s {R : RT} {st j t : Nat} (h : SA R st j = t) (hj : j < 8) : OWN R st t := Or.inr (Or.inr (Or.inr ⟨j, hj, Or.inl h.symm⟩))
theorem OWN.s0 {R : RT} {st j t : Nat} (h : SA R st j = t) (hj : j < 8) : OWN R st (rA R t 0) := Or.inr (Or.inr (Or.inr ⟨j, hj, Or.inr (Or.inl (by rw [h]))⟩))
theorem OWN.s1 {R : RT} {st j t : Nat} (h : SA R st j = t) (hj : j < 8) : OWN R st (rA R t 1) := Or.inr (Or.inr (Or.inr ⟨j, hj, Or.inr (Or.inr (by rw [h]))⟩))
theorem SA_e {R : RT} {st ot o j : Nat} (z : rA R st 10 = ot) (h : R ot j = some o) : SA R st j = o := by unfold SA; rw [z]; exact rA_e h
def t20 {t : Nat} (h : t = 20) : t = 3 ∨ t = 8 ∨ t = 10 ∨ 20 ≤ t := Or.inr (Or.inr (Or.inr (by omega)))
theorem GS.r87 {T : Nat → Nat} {R : RT} {st st' : Nat} (hU : UPR T R) (hG : GS T R st) (hG' : GS T R st') : rA R st' 8 ≠ rA R st 7 := hU.ne (Or.inr (Or.inr (Or.inr (by have := hG'.2.2.2.1.2; omega)))) hG'.2.2.2.1.1 hG.2.2.1.1 (Or.inr (by decide))
theorem GS.r8 {T : Nat → Nat} {R : RT} {st st' : Nat} (hU : UPR T R) (hG : GS T R st) (hG' : GS T R st') (hn : st' ≠ st) : rA R st' 8 ≠ rA R st 8 := hU.ne (Or.inr (Or.inr (Or.inr (by have := hG'.2.2.2.1.2; omega)))) hG'.2.2.2.1.1 hG.2.2.2.1.1 (Or.inl hn)
theorem GS.r9 {T : Nat → Nat} {R : RT} {st st' : Nat} (hU : UPR T R) (hG : GS T R st) (hG' : GS T R st') (hn : st' ≠ st) : rA R st' 9 ≠ rA R st 9 := hU.ne (Or.inr (Or.inr (Or.inr (by have := hG'.2.2.2.2.1.2; omega)))) hG'.2.2.2.2.1.1 hG.2.2.2.2.1.1 (Or.inl hn)
/-- a form held elsewhere than in the state's two rows is none of its cells -/
theorem OWN.nf {T : Nat → Nat} {R : RT} {st f a k : Nat} (hU : UPR T R) (hG : GS T R st) (hg : GG T R st) (hf : T f = 3) (hR : R a k = some f) (h7 : a ≠ rA R st 7) (h8 : a ≠ rA R st 8) : ¬ OWN R st f := by
  have hF := hG.2.2.2.2.2.2.1
  have hT := hG.2.2.2.2.2.2.2
  rintro (e | ⟨j, hj, e | e⟩ | ⟨j, hj, e⟩ | ⟨j, hj, e | e | e⟩)
  · exact WSX.nf hU hG hf hR h7 e
  · exact hU.ne (Or.inl hf) hR (hF j hj).1 (Or.inl h8) e
  · have := (hF j hj).2.2.2; rw [← e] at this; omega
  · have := (hT j hj).2; rw [← e] at this; omega
  · have := (hg.2.2 j hj).2.1; rw [← e] at this; omega
  · have := (hg.2.2 j hj).2.2.1.2; rw [← e] at this; omega
  · have := (hg.2.2 j hj).2.2.2.2; rw [← e] at this; omega
theorem OWN.nb {T : Nat → Nat} {R : RT} {st f a k : Nat} (hU : UPR T R) (hG : GS T R st) (hg : GG T R st) (hf : FO T R f) (hR : R a k = some f) (h7 : a ≠ rA R st 7) (h8 : a ≠ rA R st 8) : ¬ OWN R st (rA R f 1) := by
  have h0 := OWN.nf hU hG hg hf.1 hR h7 h8
  obtain ⟨Tf, Rf, Tb⟩ := id hf
  have hF := hG.2.2.2.2.2.2.1
  have hT := hG.2.2.2.2.2.2.2
  rintro (e | ⟨j, hj, e | e⟩ | ⟨j, hj, e⟩ | ⟨j, hj, e | e | e⟩)
  · exact WSX.nb hU hG hf hR h7 e
  · have := (hF j hj).2.1; rw [← e] at this; omega
  · exact hU.ne (t20 Tb) Rf (hF j hj).2.2.1 (Or.inl (fun q => h0 (Or.inr (Or.inl ⟨j, hj, Or.inl q⟩)))) e
  · have := (hT j hj).2; rw [← e] at this; omega
  · have := (hg.2.2 j hj).2.1; rw [← e] at this; omega
  · exact hU.ne (t20 Tb) Rf (hg.2.2 j hj).2.2.1.1 (Or.inl (fun q => by have := (hg.2.2 j hj).2.1; rw [← q] at this; omega)) e
  · exact hU.ne (t20 Tb) Rf (hg.2.2 j hj).2.2.2.1 (Or.inl (fun q => by have := (hg.2.2 j hj).2.1; rw [← q] at this; omega)) e
theorem OWN.nt {T : Nat → Nat} {R : RT} {st t a k : Nat} (hU : UPR T R) (hG : GS T R st) (hg : GG T R st) (ht : T t = 10) (hR : R a k = some t) (h9 : a ≠ rA R st 9) : ¬ OWN R st t := by
  have hF := hG.2.2.2.2.2.2.1
  have hT := hG.2.2.2.2.2.2.2
  rintro ((e | e | ⟨j, hj, e | e⟩) | ⟨j, hj, e | e⟩ | ⟨j, hj, e⟩ | ⟨j, hj, e | e | e⟩)
  · have := hG.1; rw [← e] at this; omega
  · have := hG.2.1.2; rw [← e] at this; omega
  · have := (hG.2.2.2.2.2.1 j hj).2.1; rw [← e] at this; omega
  · have := (hG.2.2.2.2.2.1 j hj).2.2.2; rw [← e] at this; omega
  · have := (hF j hj).2.1; rw [← e] at this; omega
  · have := (hF j hj).2.2.2; rw [← e] at this; omega
  · exact hU.ne (Or.inr (Or.inr (Or.inl ht))) hR (hT j hj).1 (Or.inl h9) e
  · have := (hg.2.2 j hj).2.1; rw [← e] at this; omega
  · have := (hg.2.2 j hj).2.2.1.2; rw [← e] at this; omega
  · have := (hg.2.2 j hj).2.2.2.2; rw [← e] at this; omega
theorem CAL.at {T : Nat → Nat} {R : RT} {I I1 I2 : IT} {L1 L2 : LT} {W : List (Nat × Nat)} {S : Nat → Prop} {r0 r1 : Nat} {k : Int} (h : CAL R I1 I r0 r1 k) (c : Chg S T W I1 L1 I2 L2) (hS : ∀ a, S a → ¬ WSX R r0 a) : CAL R I2 I r0 r1 k := fun j hj h9 =>
  (AEQ.at c (fun q => hS _ q (Or.inr (Or.inl rfl))) (fun q => hS _ q (Or.inr (Or.inr ⟨j, h9, Or.inl rfl⟩))) (fun q => hS _ q (Or.inr (Or.inr ⟨j, h9, Or.inr rfl⟩)))).tr (h j hj h9)
def FLL (R : RT) (I' I : IT) (r0 r1 : Nat) (k : Int) : Prop := ∀ j : Nat, (j : Int) < k → j < 16 → FEQ R I' (FA R r0 j) I (FA R r1 j)
theorem FLL.z {R : RT} {I' I : IT} {r0 r1 : Nat} {k : Int} (h : k = 0) : FLL R I' I r0 r1 k := fun j hj _ => by omega
theorem FLL.at {T : Nat → Nat} {R : RT} {I I1 I2 : IT} {L1 L2 : LT} {W : List (Nat × Nat)} {S : Nat → Prop} {r0 r1 : Nat} {k : Int} (h : FLL R I1 I r0 r1 k) (c : Chg S T W I1 L1 I2 L2) (hS : ∀ j, j < 16 → ¬ S (FA R r0 j) ∧ ¬ S (rA R (FA R r0 j) 1)) : FLL R I2 I r0 r1 k := fun j hj h9 => (FEQ.rf.l (Chg.at c (hS j h9).1) (Chg.at c (hS j h9).2)).tr (h j hj h9)
def TLL (R : RT) (I' I : IT) (r0 r1 : Nat) (k : Int) : Prop := ∀ j : Nat, (j : Int) < k → j < 8 → ∀ i, i < 4 → I' (TA R r0 j) i = I (TA R r1 j) i
theorem TLL.z {R : RT} {I' I : IT} {r0 r1 : Nat} {k : Int} (h : k = 0) : TLL R I' I r0 r1 k := fun j hj _ => by omega
theorem TLL.at {T : Nat → Nat} {R : RT} {I I1 I2 : IT} {L1 L2 : LT} {W : List (Nat × Nat)} {S : Nat → Prop} {r0 r1 : Nat} {k : Int} (h : TLL R I1 I r0 r1 k) (c : Chg S T W I1 L1 I2 L2) (hS : ∀ j, j < 8 → ¬ S (TA R r0 j)) : TLL R I2 I r0 r1 k := fun j hj h9 i hi => (congrFun (Chg.at c (hS j h9)) i).trans (h j hj h9 i hi)
theorem FLL.s {T : Nat → Nat} {R : RT} {I I1 I2 : IT} {L L1 L2 : LT} {W W1 : List (Nat × Nat)} {r0 r1 f f' fb : Nat} {k k' : Int32} (h : FLL R I1 I r0 r1 k.toInt) (hU : UPR T R) (hG : GS T R r0) (hG1 : GS T R r1) (hg : GG T R r0) (hn : r0 ≠ r1) (F : Chg (OWN R r0) T W1 I L I1 L1) (hf : FA R r0 k.toNatClampNeg = f) (hf' : FA R r1 k.toNatClampNeg = f') (hfb : rA R f 1 = fb) (e : FEQ R I2 f I1 f') (S : Chg (SL [f, fb]) T W I1 L1 I2 L2) (h0 : 0 ≤ k.toInt) (h16 : k.toInt < 16) (hk : k'.toInt = k.toInt + 1) : FLL R I2 I r0 r1 k'.toInt := by
  have n0 := ncz h0
  have hF := hG.2.2.2.2.2.2.1
  have hF1 := hG1.2.2.2.2.2.2.1
  subst hf; subst hf'; subst hfb
  intro j hj h9
  by_cases q : j = k.toNatClampNeg
  · subst q
    have o := hF1 k.toNatClampNeg (by omega)
    have n7 := GS.r87 hU hG hG1
    have n8 := GS.r8 hU hG hG1 (Ne.symm hn)
    exact e.tr (FEQ.rf.l (Chg.at F (OWN.nf hU hG hg o.2.1 o.1 n7 n8)) (Chg.at F (OWN.nb hU hG hg o.2 o.1 n7 n8)))
  · have a := hF j h9
    have b := hF k.toNatClampNeg (by omega)
    have n1 : FA R r0 j ≠ FA R r0 k.toNatClampNeg := hU.ne (Or.inl a.2.1) a.1 b.1 (Or.inr q)
    have n2 : FA R r0 j ≠ rA R (FA R r0 k.toNatClampNeg) 1 := fun e => by have := a.2.1; rw [e] at this; have := b.2.2.2; omega
    have n3 : rA R (FA R r0 j) 1 ≠ FA R r0 k.toNatClampNeg := fun e => by have := a.2.2.2; rw [e] at this; have := b.2.1; omega
    have n4 : rA R (FA R r0 j) 1 ≠ rA R (FA R r0 k.toNatClampNeg) 1 := hU.ne (t20 a.2.2.2) a.2.2.1 b.2.2.1 (Or.inl n1)
    exact (FEQ.rf.l (Chg.at S (nm_2 n1 n2)) (Chg.at S (nm_2 n3 n4))).tr (h j (by omega) h9)
theorem TLL.s {T : Nat → Nat} {R : RT} {I I1 I2 : IT} {L L1 L2 : LT} {W W1 : List (Nat × Nat)} {r0 r1 t t' : Nat} {k k' x0 x1 x2 x3 : Int32} (h : TLL R I1 I r0 r1 k.toInt) (hU : UPR T R) (hG : GS T R r0) (hG1 : GS T R r1) (hg : GG T R r0) (hn : r0 ≠ r1) (F : Chg (OWN R r0) T W1 I L I1 L1) (ht : TA R r0 k.toNatClampNeg = t) (ht' : TA R r1 k.toNatClampNeg = t') (a0 : I2 t 0 = x0) (a1 : I2 t 1 = x1) (a2 : I2 t 2 = x2) (a3 : I2 t 3 = x3) (b0 : I1 t' 0 = x0) (b1 : I1 t' 1 = x1) (b2 : I1 t' 2 = x2) (b3 : I1 t' 3 = x3) (S : Chg (SL [t]) T W I1 L1 I2 L2) (h0 : 0 ≤ k.toInt) (h16 : k.toInt < 8) (hk : k'.toInt = k.toInt + 1) : TLL R I2 I r0 r1 k'.toInt := by
  have n0 := ncz h0
  have hT := hG.2.2.2.2.2.2.2
  have hT1 := hG1.2.2.2.2.2.2.2
  subst ht; subst ht'
  intro j hj h9 i hi
  by_cases q : j = k.toNatClampNeg
  · subst q
    have o := hT1 k.toNatClampNeg (by omega)
    rw [← Chg.at F (OWN.nt hU hG hg o.2 o.1 (GS.r9 hU hG hG1 (Ne.symm hn)))]
    match i, hi with
    | 0, _ => rw [a0, b0]
    | 1, _ => rw [a1, b1]
    | 2, _ => rw [a2, b2]
    | 3, _ => rw [a3, b3]
  · have a := hT j h9
    have b := hT k.toNatClampNeg (by omega)
    have n1 : TA R r0 j ≠ TA R r0 k.toNatClampNeg := hU.ne (Or.inr (Or.inr (Or.inl a.2))) a.1 b.1 (Or.inr q)
    exact (congrFun (Chg.at S (nm_1 n1)) i).trans (h j (by omega) h9 i hi)
/-- a form of the state's row is no act's cell -/
theorem nWf {T : Nat → Nat} {R : RT} {st j f fb : Nat} (hU : UPR T R) (hG : GS T R st) (h : FA R st j = f) (hj : j < 16) (z : rA R f 1 = fb) : ∀ a, SL [f, fb] a → ¬ WSX R st a := by
  subst h; subst z
  have o := hG.2.2.2.2.2.2.1 j hj
  exact sl_2 (B := fun a => ¬ WSX R st a) (WSX.nf hU hG o.2.1 o.1 (GS.r87 hU hG hG)) (WSX.nb hU hG o.2 o.1 (GS.r87 hU hG hG))
theorem nWt {T : Nat → Nat} {R : RT} {st t : Nat} (hG : GS T R st) (ht : T t = 10) : ∀ a, SL [t] a → ¬ WSX R st a := by
  refine sl_1 (B := fun a => ¬ WSX R st a) ?_
  rintro (e | e | ⟨j, hj, e | e⟩)
  · have := hG.1; rw [← e] at this; omega
  · have := hG.2.1.2; rw [← e] at this; omega
  · have := (hG.2.2.2.2.2.1 j hj).2.1; rw [← e] at this; omega
  · have := (hG.2.2.2.2.2.1 j hj).2.2.2; rw [← e] at this; omega
theorem nFt {T : Nat → Nat} {R : RT} {st t : Nat} (hG : GS T R st) (ht : T t = 10) : ∀ j, j < 16 → ¬ SL [t] (FA R st j) ∧ ¬ SL [t] (rA R (FA R st j) 1) := fun j hj => by
  have o := hG.2.2.2.2.2.2.1 j hj
  exact ⟨nm_1 (fun e => by have := o.2.1; rw [e] at this; omega), nm_1 (fun e => by have := o.2.2.2; rw [e] at this; omega)⟩
theorem nWs {T : Nat → Nat} {R : RT} {st s a b j : Nat} (hU : UPR T R) (hG : GS T R st) (hg : GG T R st) (h : SA R st j = s) (hj : j < 8) (z : rA R s 0 = a) (z1 : rA R s 1 = b) : ∀ x, SL [s, a, b] x → ¬ WSX R st x := by
  subst h; subst z; subst z1
  obtain ⟨o1, o2, ⟨o3, o4⟩, o5, o6⟩ := hg.2.2 j hj
  have hw := hG.2.1
  have ho := hG.2.2.2.2.2.1
  have gen : ∀ c k, T c = 20 → R (SA R st j) k = some c → ¬ WSX R st c := fun c k hc hR => by
    rintro (e | e | ⟨i, hi, e | e⟩)
    · have := hG.1; rw [← e] at this; omega
    · exact hU.ne (t20 hc) hR hw.1 (Or.inl (fun q => by have := hG.1; rw [← q] at this; omega)) e
    · have := (ho i hi).2.1; rw [← e] at this; omega
    · exact hU.ne (t20 hc) hR (ho i hi).2.2.1 (Or.inl (fun q => by have := (ho i hi).2.1; rw [← q] at this; omega)) e
  refine sl_3 (B := fun a => ¬ WSX R st a) ?_ (gen _ _ o4 o3) (gen _ _ o6 o5)
  rintro (e | e | ⟨i, hi, e | e⟩)
  · have := hG.1; rw [← e] at this; omega
  · have := hw.2; rw [← e] at this; omega
  · have := (ho i hi).2.1; rw [← e] at this; omega
  · have := (ho i hi).2.2.2; rw [← e] at this; omega
theorem nFs {T : Nat → Nat} {R : RT} {st s a b j : Nat} (hU : UPR T R) (hG : GS T R st) (hg : GG T R st) (h : SA R st j = s) (hj : j < 8) (z : rA R s 0 = a) (z1 : rA R s 1 = b) : ∀ i, i < 16 → ¬ SL [s, a, b] (FA R st i) ∧ ¬ SL [s, a, b] (rA R (FA R st i) 1) := fun i hi => by
  subst h; subst z; subst z1
  obtain ⟨o1, o2, ⟨o3, o4⟩, o5, o6⟩ := hg.2.2 j hj
  have f := hG.2.2.2.2.2.2.1 i hi
  have k : ∀ c, T c = 20 → FA R st i ≠ c := fun c hc e => by have := f.2.1; rw [e] at this; omega
  refine ⟨nm_3 (fun e => by have := f.2.1; rw [e] at this; omega) (k _ o4) (k _ o6), nm_3 (fun e => by have := f.2.2.2; rw [e] at this; omega) (hU.ne (t20 f.2.2.2) f.2.2.1 o3 (Or.inl (fun e => by have := f.2.1; rw [e] at this; omega))) (hU.ne (t20 f.2.2.2) f.2.2.1 o5 (Or.inl (fun e => by have := f.2.1; rw [e] at this; omega)))⟩
theorem nTs {T : Nat → Nat} {R : RT} {st s a b j : Nat} (hG : GS T R st) (hg : GG T R st) (h : SA R st j = s) (hj : j < 8) (z : rA R s 0 = a) (z1 : rA R s 1 = b) : ∀ i, i < 8 → ¬ SL [s, a, b] (TA R st i) := fun i hi => by
  subst h; subst z; subst z1
  obtain ⟨o1, o2, ⟨o3, o4⟩, o5, o6⟩ := hg.2.2 j hj
  have f := hG.2.2.2.2.2.2.2 i hi
  exact nm_3 (fun e => by have := f.2; rw [e] at this; omega) (fun e => by have := f.2; rw [e] at this; omega) (fun e => by have := f.2; rw [e] at this; omega)
theorem ffne {T : Nat → Nat} {R : RT} {r0 r1 o o' j : Nat} (hU : UPR T R) (hG : GS T R r0) (hG1 : GS T R r1) (hn : r0 ≠ r1) (h : FA R r0 j = o) (h' : FA R r1 j = o') (hj : j < 16) : o ≠ o' := by
  subst h; subst h'
  obtain ⟨R1, F1⟩ := hG.2.2.2.2.2.2.1 j hj
  exact hU.ne (Or.inl F1.1) R1 (hG1.2.2.2.2.2.2.1 j hj).1 (Or.inl (GS.r8 hU hG1 hG hn))
theorem s_X7_put_x {d : Nat} {T N : Nat → Nat} {I : IT} {L : LT} {R : RT} {A B : Nat → Prop} {r0 : Nat} {n1 n2 : Int32} (hS : SUB B A) (hI : IX A T I) (H_r0 : (hs_Sg T N R A B) r0) : Ex (d + 1) 66 [.ref r0, .int n1, .int n2] (T, N, I, L, R) 0 0 (pV T N R (fun I9 L9 => (IX A T I9 ∧ Chg (SL [r0, (rA R r0 0), (rA R r0 1)]) T [(8, 2)] I L I9 L9))) := by
  refine ⟨_, rfl, Nat.le_of_ble_eq_true rfl, fun V C S => ?_⟩
  show V 0 [(0, .ref r0), (1, .int n1), (2, .int n2)] [] (T, N, I, L, R) 0 0
  have gn1 := rg n1
  have gn2 := rg n2
  obtain ⟨T_r0, A_r0, ⟨r0_0, R_r0_0, H_r0_0⟩, ⟨r0_1, R_r0_1, H_r0_1⟩⟩ := id H_r0
  have z_r0_0 : rA R r0 0 = r0_0 := rA_e R_r0_0
  have z_r0_1 : rA R r0 1 = r0_1 := rA_e R_r0_1
  obtain ⟨T_r0_0, N_r0_0, A_r0_0⟩ := id H_r0_0
  obtain ⟨T_r0_1, N_r0_1, A_r0_1⟩ := id H_r0_1
  refine k_aload_n C rfl rfl rfl ?_
  refine z_gI C rfl rfl rfl T_r0 rfl (fun x1 ex1 => ?_)
  have gx1 := rg x1
  refine b_if_lt C (t := 61) rfl rfl rfl (fun c2 => ?_) (fun c2 => ?_)
  · skip
    exact k_vret C rfl rfl (Nat.le_of_ble_eq_true rfl) (Nat.le_of_ble_eq_true rfl) ⟨_, _, rfl, rfl, hI, (by (try simp only [z_r0_0, z_r0_1]); exact Chg.rf)⟩
  refine k_aload_n C rfl rfl rfl ?_
  refine g_I C rfl rfl rfl T_r0 rfl ex1 ?_
  refine k_aload_n C rfl rfl rfl ?_
  refine g_R C rfl rfl rfl T_r0 rfl R_r0_0 ?_
  refine z_len C (n := 160) rfl rfl (by rw [T_r0_0]; exact Nat.le_of_ble_eq_true rfl) N_r0_0 (Nat.le_of_ble_eq_true rfl) (fun x3 ex3 => ?_)
  refine b_icmp_ge C (t := 61) rfl rfl rfl (fun c4 => ?_) (fun c4 => ?_)
  · skip
    exact k_vret C rfl rfl (Nat.le_of_ble_eq_true rfl) (Nat.le_of_ble_eq_true rfl) ⟨_, _, rfl, rfl, hI, (by (try simp only [z_r0_0, z_r0_1]); exact Chg.rf)⟩
  refine k_aload_n C rfl rfl rfl ?_
  refine g_I C rfl rfl rfl T_r0 rfl ex1 ?_
  refine k_aload_n C rfl rfl rfl ?_
  refine g_R C rfl rfl rfl T_r0 rfl R_r0_1 ?_
  refine z_len C (n := 160) rfl rfl (by rw [T_r0_1]; exact Nat.le_of_ble_eq_true rfl) N_r0_1 (Nat.le_of_ble_eq_true rfl) (fun x5 ex5 => ?_)
  refine b_icmp_ge C (t := 61) rfl rfl rfl (fun c6 => by exfalso; omega) (fun c6 => ?_)
  refine k_aload_n C rfl rfl rfl ?_
  refine g_R C rfl rfl rfl T_r0 rfl R_r0_0 ?_
  refine k_aload_n C rfl rfl rfl ?_
  refine g_I C rfl rfl rfl T_r0 rfl ex1 ?_
  refine k_iload_n C rfl rfl rfl ?_
  refine z_sI C rfl rfl T_r0_0 N_r0_0 (by omega) (by omega) (fun I7 uI7 => ?_)
  have hI7 : IX A T I7 := IX.a hI T_r0_0 (Nat.le_of_ble_eq_true rfl) uI7
  have S8 : Chg (SL [r0_0]) T [] I L I7 L := Chg.a List.mem_cons_self T_r0_0 (Nat.le_of_ble_eq_true rfl) uI7
  have e9 := u2_n uI7 (t_nq T_r0 T_r0_0 (by decide)) ex1
  refine k_aload_n C rfl rfl rfl ?_
  refine g_R C rfl rfl rfl T_r0 rfl R_r0_1 ?_
  refine k_aload_n C rfl rfl rfl ?_
  refine g_I C rfl rfl rfl T_r0 rfl e9 ?_
  refine k_iload_n C rfl rfl rfl ?_
  refine z_sI C rfl rfl T_r0_1 N_r0_1 (by omega) (by omega) (fun I10 uI10 => ?_)
  have hI10 : IX A T I10 := IX.a hI7 T_r0_1 (Nat.le_of_ble_eq_true rfl) uI10
  have S11 : Chg (SL [r0_1]) T [] I7 L I10 L := Chg.a List.mem_cons_self T_r0_1 (Nat.le_of_ble_eq_true rfl) uI10
  have e12 := u2_n uI10 (t_nq T_r0 T_r0_1 (by decide)) e9
  refine k_aload_n C rfl rfl rfl ?_
  refine k_dup C rfl rfl rfl ?_
  refine g_I C rfl rfl rfl T_r0 rfl e12 ?_
  refine z_iconst C (z := 1) rfl rfl rfl (fun x13 ex13 => ?_)
  refine z_iadd C rfl rfl ⟨by omega, by omega⟩ (fun x14 ex14 => ?_)
  refine z_pI C rfl rfl rfl T_r0 (Or.inr rfl) rfl (fun I15 uI15 => ?_)
  have hI15 : IX A T I15 := IX.f hI10 T_r0 (boX.tr (by decide) (by decide)) uI15
  have S16 : Chg (SL [r0]) T [(8, 2)] I10 L I15 L := Chg.f List.mem_cons_self T_r0 uI15
  have e17 := u2_e uI15
  exact k_vret C rfl rfl (Nat.le_of_ble_eq_true rfl) (Nat.le_of_ble_eq_true rfl) ⟨_, _, rfl, rfl, hI15, (by (try simp only [z_r0_0, z_r0_1]); exact (Chg.cons (Chg.up S8 (List.forall_mem_cons.mpr ⟨List.mem_of_getElem? (i := 1) rfl, fun _ h => nomatch h⟩)) (Chg.cons (Chg.up S11 (List.forall_mem_cons.mpr ⟨List.mem_of_getElem? (i := 2) rfl, fun _ h => nomatch h⟩)) (Chg.mono (Chg.up S16 (List.forall_mem_cons.mpr ⟨List.mem_of_getElem? (i := 0) rfl, fun _ h => nomatch h⟩)) (by decide)) (by decide)) (by decide)))⟩

theorem s_X7_copyFrom_x {d : Nat} {T N : Nat → Nat} {I : IT} {L : LT} {R : RT} {A B : Nat → Prop} {r0 r1 : Nat} (hS : SUB B A) (hI : IX A T I) (H_r0 : (hs_Sg T N R A B) r0) (H_r1 : (hs_Sg T N R A B) r1) : Ex (d + 2) 93 [.ref r0, .ref r1] (T, N, I, L, R) 0 0 (pV T N R (fun I9 L9 => (IX A T I9 ∧ Chg (SL [r0, (rA R r0 0), (rA R r0 1)]) T [(8, 2)] I L I9 L9))) := by
  refine ⟨_, rfl, Nat.le_of_ble_eq_true rfl, fun V C S => ?_⟩
  show V 0 [(0, .ref r0), (1, .ref r1)] [] (T, N, I, L, R) 0 0
  obtain ⟨T_r0, A_r0, ⟨r0_0, R_r0_0, H_r0_0⟩, ⟨r0_1, R_r0_1, H_r0_1⟩⟩ := id H_r0
  have z_r0_0 : rA R r0 0 = r0_0 := rA_e R_r0_0
  have z_r0_1 : rA R r0 1 = r0_1 := rA_e R_r0_1
  obtain ⟨T_r0_0, N_r0_0, A_r0_0⟩ := id H_r0_0
  obtain ⟨T_r0_1, N_r0_1, A_r0_1⟩ := id H_r0_1
  refine k_aload_n C rfl rfl rfl ?_
  refine z_iconst C (z := 0) rfl rfl rfl (fun x1 ex1 => ?_)
  refine z_pI C rfl rfl rfl T_r0 (Or.inr rfl) rfl (fun I2 uI2 => ?_)
  have hI2 : IX A T I2 := IX.f hI T_r0 (boX.tr (by decide) (by decide)) uI2
  have S3 : Chg (SL [r0]) T [(8, 2)] I L I2 L := Chg.f List.mem_cons_self T_r0 uI2
  have e4 := u2_e uI2
  refine z_iconst C (z := 0) rfl rfl rfl (fun x5 ex5 => ?_)
  have J6 : ∀ (nn7 : Nat) (I8 : IT) (L9 : LT) (x10 : Int32), (MN (2147483647 - x10.toInt) nn7) → (IX A T I8) → (Chg (SL [r0, r0_0, r0_1]) T [(8, 2)] I2 L I8 L9) → (0 ≤ x10.toInt) → V 7 [(0, .ref r0), (1, .ref r1), (2, .int x10)] [] (T, N, I8, L9, R) 0 0 := by
    intro nn7
    induction nn7 using Nat.strongRecOn with
    | _ nn7 ihJ6 =>
      intro I8 L9 x10 hmnn7 hI13 S12 b11
      have gx10 := rg x10
      refine k_iload_n C rfl rfl rfl ?_
      refine k_aload_n C rfl rfl rfl ?_
      obtain ⟨T_r1, A_r1, ⟨r1_0, R_r1_0, H_r1_0⟩, ⟨r1_1, R_r1_1, H_r1_1⟩⟩ := id H_r1
      have z_r1_0 : rA R r1 0 = r1_0 := rA_e R_r1_0
      have z_r1_1 : rA R r1 1 = r1_1 := rA_e R_r1_1
      refine z_gI C rfl rfl rfl T_r1 rfl (fun x14 ex14 => ?_)
      have gx14 := rg x14
      refine b_icmp_ge C (t := 35) rfl rfl rfl (fun c15 => ?_) (fun c15 => ?_)
      · skip
        exact k_vret C rfl rfl (Nat.le_of_ble_eq_true rfl) (Nat.le_of_ble_eq_true rfl) ⟨_, _, rfl, rfl, hI13, (by (try simp only [z_r0_0, z_r0_1, z_r1_0, z_r1_1]); exact (Chg.cons (Chg.up S3 (List.forall_mem_cons.mpr ⟨List.mem_of_getElem? (i := 0) rfl, fun _ h => nomatch h⟩)) (Chg.mono S12 (by decide)) (by decide)))⟩
      refine k_aload_n C rfl rfl rfl ?_
      refine k_aload_n C rfl rfl rfl ?_
      refine k_iload_n C rfl rfl rfl ?_
      refine c_VI C (s_X7_kindAt hS hI13 H_r1) rfl rfl rfl rfl rfl ⟨_, rfl, rfl, T_r1, Nat.le_of_ble_eq_true rfl⟩ rfl rfl (Nat.le_of_ble_eq_true rfl) (Nat.le_of_ble_eq_true rfl) (Nat.le_of_ble_eq_true rfl) ?_
      rintro x16 _ _ ⟨rfl, rfl⟩
      have gx16 := rg x16
      refine k_aload_n C rfl rfl rfl ?_
      refine k_iload_n C rfl rfl rfl ?_
      refine c_VI C (s_X7_sizeAt hS hI13 H_r1) rfl rfl rfl rfl rfl ⟨_, rfl, rfl, T_r1, Nat.le_of_ble_eq_true rfl⟩ rfl rfl (Nat.le_of_ble_eq_true rfl) (Nat.le_of_ble_eq_true rfl) (Nat.le_of_ble_eq_true rfl) ?_
      rintro x17 _ _ ⟨rfl, rfl⟩
      have gx17 := rg x17
      refine c_VV C (s_X7_put_x hS hI13 H_r0) rfl rfl rfl rfl rfl ⟨_, rfl, rfl, T_r0, Nat.le_of_ble_eq_true rfl⟩ rfl rfl (Nat.le_of_ble_eq_true rfl) (Nat.le_of_ble_eq_true rfl) (Nat.le_of_ble_eq_true rfl) ?_
      rintro I19 L20 ⟨hI19, S21⟩
      try simp only [z_r0_0, z_r0_1, z_r1_0, z_r1_1] at S21
      refine z_iinc C (z := 1) (lw := fun x22 => [(2, .int x22), (0, .ref r0), (1, .ref r1)]) rfl rfl rfl (Nat.le_of_ble_eq_true rfl) rfl ⟨by omega, by omega⟩ (fun _ => rfl) (fun x22 ex22 => ?_)
      show V 32 [(2, .int x22), (0, .ref r0), (1, .ref r1)] _ _ _ _
      refine k_goto C (pc2 := 7) rfl rfl ?_
      refine k_sub S [(0, .ref r0), (1, .ref r1), (2, .int x22)] (List.forall_mem_cons.mpr ⟨List.mem_of_getElem? (i := 1) rfl, List.forall_mem_cons.mpr ⟨List.mem_of_getElem? (i := 2) rfl, List.forall_mem_cons.mpr ⟨List.mem_of_getElem? (i := 0) rfl, fun _ h => nomatch h⟩⟩⟩) ?_
      exact ihJ6 _ (MN.lt hmnn7 (by omega) (by omega)) I19 L20 x22 rfl hI19 (Chg.cons S12 (Chg.mono (Chg.up S21 (List.forall_mem_cons.mpr ⟨List.mem_of_getElem? (i := 0) rfl, List.forall_mem_cons.mpr ⟨List.mem_of_getElem? (i := 1) rfl, List.forall_mem_cons.mpr ⟨List.mem_of_getElem? (i := 2) rfl, fun _ h => nomatch h⟩⟩⟩)) (by decide)) (by decide)) (by omega)
  refine k_istore_n C (lw := [(2, .int x5), (0, .ref r0), (1, .ref r1)]) rfl rfl (Nat.le_of_ble_eq_true rfl) rfl ?_
  refine k_sub S [(0, .ref r0), (1, .ref r1), (2, .int x5)] (List.forall_mem_cons.mpr ⟨List.mem_of_getElem? (i := 1) rfl, List.forall_mem_cons.mpr ⟨List.mem_of_getElem? (i := 2) rfl, List.forall_mem_cons.mpr ⟨List.mem_of_getElem? (i := 0) rfl, fun _ h => nomatch h⟩⟩⟩) ?_
  exact J6 _ I2 L x5 rfl hI2 Chg.rf (by omega)

theorem s_X9_set_x {d : Nat} {T N : Nat → Nat} {I : IT} {L : LT} {R : RT} {A B : Nat → Prop} {r0 : Nat} {n1 n2 n3 n4 : Int32} (hS : SUB B A) (hI : IX A T I) (H_r0 : (hs_Tb T N R A B) r0) : Ex (d + 1) 7 [.ref r0, .int n1, .int n2, .int n3, .int n4] (T, N, I, L, R) 0 0 (pV T N R (fun I9 L9 => (I9 r0 0 = n1) ∧ (I9 r0 1 = n2) ∧ (I9 r0 2 = n3) ∧ (I9 r0 3 = n4) ∧ (IX A T I9 ∧ Chg (SL [r0]) T [(10, 0), (10, 1), (10, 2), (10, 3)] I L I9 L9))) := by
  refine ⟨_, rfl, Nat.le_of_ble_eq_true rfl, fun V C S => ?_⟩
  show V 0 [(0, .ref r0), (1, .int n1), (2, .int n2), (3, .int n3), (4, .int n4)] [] (T, N, I, L, R) 0 0
  have gn1 := rg n1
  have gn2 := rg n2
  have gn3 := rg n3
  have gn4 := rg n4
  obtain ⟨T_r0, A_r0, B_r0⟩ := id H_r0
  refine k_aload_n C rfl rfl rfl ?_
  refine k_iload_n C rfl rfl rfl ?_
  refine z_pI C rfl rfl rfl T_r0 (Or.inr rfl) rfl (fun I1 uI1 => ?_)
  have hI1 : IX A T I1 := IX.f hI T_r0 (boX.tr (by decide) (by decide)) uI1
  have S2 : Chg (SL [r0]) T [(10, 0)] I L I1 L := Chg.f List.mem_cons_self T_r0 uI1
  have e3 := u2_e uI1
  refine k_aload_n C rfl rfl rfl ?_
  refine k_iload_n C rfl rfl rfl ?_
  refine z_pI C rfl rfl rfl T_r0 (Or.inr rfl) rfl (fun I4 uI4 => ?_)
  have hI4 : IX A T I4 := IX.f hI1 T_r0 (boX.tr (by decide) (by decide)) uI4
  have S5 : Chg (SL [r0]) T [(10, 1)] I1 L I4 L := Chg.f List.mem_cons_self T_r0 uI4
  have e6 := u2_j uI4 (by decide) e3
  have e7 := u2_e uI4
  refine k_aload_n C rfl rfl rfl ?_
  refine k_iload_n C rfl rfl rfl ?_
  refine z_pI C rfl rfl rfl T_r0 (Or.inr rfl) rfl (fun I8 uI8 => ?_)
  have hI8 : IX A T I8 := IX.f hI4 T_r0 (boX.tr (by decide) (by decide)) uI8
  have S9 : Chg (SL [r0]) T [(10, 2)] I4 L I8 L := Chg.f List.mem_cons_self T_r0 uI8
  have e10 := u2_j uI8 (by decide) e6
  have e11 := u2_j uI8 (by decide) e7
  have e12 := u2_e uI8
  refine k_aload_n C rfl rfl rfl ?_
  refine k_iload C rfl rfl rfl ?_
  refine z_pI C rfl rfl rfl T_r0 (Or.inr rfl) rfl (fun I13 uI13 => ?_)
  have hI13 : IX A T I13 := IX.f hI8 T_r0 (boX.tr (by decide) (by decide)) uI13
  have S14 : Chg (SL [r0]) T [(10, 3)] I8 L I13 L := Chg.f List.mem_cons_self T_r0 uI13
  have e15 := u2_j uI13 (by decide) e10
  have e16 := u2_j uI13 (by decide) e11
  have e17 := u2_j uI13 (by decide) e12
  have e18 := u2_e uI13
  exact k_vret C rfl rfl (Nat.le_of_ble_eq_true rfl) (Nat.le_of_ble_eq_true rfl) ⟨_, _, rfl, rfl, by (try simp only []); exact e15, by (try simp only []); exact e16, by (try simp only []); exact e17, by (try simp only []); exact e18, hI13, (Chg.cons (Chg.up S2 (List.forall_mem_cons.mpr ⟨List.mem_of_getElem? (i := 0) rfl, fun _ h => nomatch h⟩)) (Chg.cons (Chg.up S5 (List.forall_mem_cons.mpr ⟨List.mem_of_getElem? (i := 0) rfl, fun _ h => nomatch h⟩)) (Chg.cons (Chg.up S9 (List.forall_mem_cons.mpr ⟨List.mem_of_getElem? (i := 0) rfl, fun _ h => nomatch h⟩)) (Chg.mono (Chg.up S14 (List.forall_mem_cons.mpr ⟨List.mem_of_getElem? (i := 0) rfl, fun _ h => nomatch h⟩)) (by decide)) (by decide)) (by decide)) (by decide))⟩

theorem s_X0_fill_x {d : Nat} {T N : Nat → Nat} {I : IT} {L : LT} {R : RT} {A B : Nat → Prop} {r0 r1 : Nat} {n2 n3 n4 n5 : Int32} (hS : SUB B A) (hI : IX A T I) (H_r0 : (hs_Al T N R A B) r0) (H_r1 : (hs_Tb T N R A B) r1) : Ex (d + 2) 8 [.ref r0, .ref r1, .int n2, .int n3, .int n4, .int n5] (T, N, I, L, R) 0 0 (pV T N R (fun I9 L9 => ((I9 r1 0).toInt = n2.toInt % (I (rA R r0 0) 0).toInt) ∧ ((I9 r1 1).toInt = n3.toInt % (I (rA R r0 0) 0).toInt) ∧ ((I9 r1 2).toInt = n4.toInt % (I (rA R r0 0) 0).toInt) ∧ ((I9 r1 3).toInt = n5.toInt % (I (rA R r0 0) 0).toInt) ∧ (IX A T I9 ∧ Chg (SL [r1]) T [(10, 0), (10, 1), (10, 2), (10, 3)] I L I9 L9))) := by
  refine ⟨_, rfl, Nat.le_of_ble_eq_true rfl, fun V C S => ?_⟩
  show V 0 [(0, .ref r0), (1, .ref r1), (2, .int n2), (3, .int n3), (4, .int n4), (5, .int n5)] [] (T, N, I, L, R) 0 0
  have gn2 := rg n2
  have gn3 := rg n3
  have gn4 := rg n4
  have gn5 := rg n5
  obtain ⟨T_r0, A_r0, B_r0, ⟨r0_0, R_r0_0, H_r0_0⟩, ⟨r0_1, R_r0_1, H_r0_1⟩, ⟨r0_2, R_r0_2, H_r0_2⟩⟩ := id H_r0
  have z_r0_0 : rA R r0 0 = r0_0 := rA_e R_r0_0
  have z_r0_1 : rA R r0 1 = r0_1 := rA_e R_r0_1
  have z_r0_2 : rA R r0 2 = r0_2 := rA_e R_r0_2
  obtain ⟨T_r1, A_r1, B_r1⟩ := id H_r1
  obtain ⟨T_r0_0, A_r0_0, B_r0_0, ⟨r0_0_6, R_r0_0_6, H_r0_0_6⟩, ⟨r0_0_7, R_r0_0_7, H_r0_0_7⟩, ⟨r0_0_8, R_r0_0_8, H_r0_0_8⟩, ⟨r0_0_9, R_r0_0_9, H_r0_0_9⟩, ⟨r0_0_10, R_r0_0_10, H_r0_0_10⟩⟩ := id H_r0_0
  have z_r0_0_6 : rA R r0_0 6 = r0_0_6 := rA_e R_r0_0_6
  have z_r0_0_7 : rA R r0_0 7 = r0_0_7 := rA_e R_r0_0_7
  have z_r0_0_8 : rA R r0_0 8 = r0_0_8 := rA_e R_r0_0_8
  have z_r0_0_9 : rA R r0_0 9 = r0_0_9 := rA_e R_r0_0_9
  have z_r0_0_10 : rA R r0_0 10 = r0_0_10 := rA_e R_r0_0_10
  obtain ⟨w_r0_0_0, k0_r0_0_0⟩ : ∃ x, I r0_0 0 = x := ⟨_, rfl⟩
  have gw_r0_0_0 := rg w_r0_0_0
  have ow_r0_0_0 := IX.p hI A_r0_0 T_r0_0 k0_r0_0_0
  refine k_aload_n C rfl rfl rfl ?_
  refine k_aload_n C rfl rfl rfl ?_
  refine k_iload_n C rfl rfl rfl ?_
  refine z_i2l C rfl rfl (fun lg1 elg1 => ?_)
  have hl0 := elg1
  refine c_VI C (s_X0_of_x hS hI H_r0) rfl rfl rfl rfl rfl ⟨_, rfl, rfl, T_r0, Nat.le_of_ble_eq_true rfl⟩ rfl rfl (Nat.le_of_ble_eq_true rfl) (Nat.le_of_ble_eq_true rfl) (Nat.le_of_ble_eq_true rfl) ?_
  rintro x2 _ _ ⟨o0x2, o1x2, p0x2, p1x2, rfl, rfl⟩
  have gx2 := rg x2
  try simp only [z_r0_0, z_r0_1, z_r0_2, z_r0_0_6, z_r0_0_7, z_r0_0_8, z_r0_0_9, z_r0_0_10] at p0x2
  try simp only [z_r0_0, z_r0_1, z_r0_2, z_r0_0_6, z_r0_0_7, z_r0_0_8, z_r0_0_9, z_r0_0_10] at p1x2
  try simp only [k0_r0_0_0] at p0x2
  try have q0x2 := congrArg Int32.toInt p0x2
  try simp only [k0_r0_0_0] at p1x2
  try have q1x2 := congrArg Int32.toInt p1x2
  have hf0 := p0x2; (try simp only [k0_r0_0_0] at hf0)
  refine k_aload_n C rfl rfl rfl ?_
  refine k_iload_n C rfl rfl rfl ?_
  refine z_i2l C rfl rfl (fun lg3 elg3 => ?_)
  have hl1 := elg3
  refine c_VI C (s_X0_of_x hS hI H_r0) rfl rfl rfl rfl rfl ⟨_, rfl, rfl, T_r0, Nat.le_of_ble_eq_true rfl⟩ rfl rfl (Nat.le_of_ble_eq_true rfl) (Nat.le_of_ble_eq_true rfl) (Nat.le_of_ble_eq_true rfl) ?_
  rintro x4 _ _ ⟨o0x4, o1x4, p0x4, p1x4, rfl, rfl⟩
  have gx4 := rg x4
  try simp only [z_r0_0, z_r0_1, z_r0_2, z_r0_0_6, z_r0_0_7, z_r0_0_8, z_r0_0_9, z_r0_0_10] at p0x4
  try simp only [z_r0_0, z_r0_1, z_r0_2, z_r0_0_6, z_r0_0_7, z_r0_0_8, z_r0_0_9, z_r0_0_10] at p1x4
  try simp only [k0_r0_0_0] at p0x4
  try have q0x4 := congrArg Int32.toInt p0x4
  try simp only [k0_r0_0_0] at p1x4
  try have q1x4 := congrArg Int32.toInt p1x4
  have hf1 := p0x4; (try simp only [k0_r0_0_0] at hf1)
  refine k_aload_n C rfl rfl rfl ?_
  refine k_iload C rfl rfl rfl ?_
  refine z_i2l C rfl rfl (fun lg5 elg5 => ?_)
  have hl2 := elg5
  refine c_VI C (s_X0_of_x hS hI H_r0) rfl rfl rfl rfl rfl ⟨_, rfl, rfl, T_r0, Nat.le_of_ble_eq_true rfl⟩ rfl rfl (Nat.le_of_ble_eq_true rfl) (Nat.le_of_ble_eq_true rfl) (Nat.le_of_ble_eq_true rfl) ?_
  rintro x6 _ _ ⟨o0x6, o1x6, p0x6, p1x6, rfl, rfl⟩
  have gx6 := rg x6
  try simp only [z_r0_0, z_r0_1, z_r0_2, z_r0_0_6, z_r0_0_7, z_r0_0_8, z_r0_0_9, z_r0_0_10] at p0x6
  try simp only [z_r0_0, z_r0_1, z_r0_2, z_r0_0_6, z_r0_0_7, z_r0_0_8, z_r0_0_9, z_r0_0_10] at p1x6
  try simp only [k0_r0_0_0] at p0x6
  try have q0x6 := congrArg Int32.toInt p0x6
  try simp only [k0_r0_0_0] at p1x6
  try have q1x6 := congrArg Int32.toInt p1x6
  have hf2 := p0x6; (try simp only [k0_r0_0_0] at hf2)
  refine k_aload_n C rfl rfl rfl ?_
  refine k_iload C rfl rfl rfl ?_
  refine z_i2l C rfl rfl (fun lg7 elg7 => ?_)
  have hl3 := elg7
  refine c_VI C (s_X0_of_x hS hI H_r0) rfl rfl rfl rfl rfl ⟨_, rfl, rfl, T_r0, Nat.le_of_ble_eq_true rfl⟩ rfl rfl (Nat.le_of_ble_eq_true rfl) (Nat.le_of_ble_eq_true rfl) (Nat.le_of_ble_eq_true rfl) ?_
  rintro x8 _ _ ⟨o0x8, o1x8, p0x8, p1x8, rfl, rfl⟩
  have gx8 := rg x8
  try simp only [z_r0_0, z_r0_1, z_r0_2, z_r0_0_6, z_r0_0_7, z_r0_0_8, z_r0_0_9, z_r0_0_10] at p0x8
  try simp only [z_r0_0, z_r0_1, z_r0_2, z_r0_0_6, z_r0_0_7, z_r0_0_8, z_r0_0_9, z_r0_0_10] at p1x8
  try simp only [k0_r0_0_0] at p0x8
  try have q0x8 := congrArg Int32.toInt p0x8
  try simp only [k0_r0_0_0] at p1x8
  try have q1x8 := congrArg Int32.toInt p1x8
  have hf3 := p0x8; (try simp only [k0_r0_0_0] at hf3)
  refine c_VV C (s_X9_set_x hS hI H_r1) rfl rfl rfl rfl rfl ⟨_, rfl, rfl, T_r1, Nat.le_of_ble_eq_true rfl⟩ rfl rfl (Nat.le_of_ble_eq_true rfl) (Nat.le_of_ble_eq_true rfl) (Nat.le_of_ble_eq_true rfl) ?_
  rintro I10 L11 ⟨p0v9, p1v9, p2v9, p3v9, hI10, S12⟩
  try simp only [z_r0_0, z_r0_1, z_r0_2, z_r0_0_6, z_r0_0_7, z_r0_0_8, z_r0_0_9, z_r0_0_10] at S12
  have e13 := Chg.k S12 T_r0_0 (by decide) (by decide) k0_r0_0_0
  try simp only [z_r0_0, z_r0_1, z_r0_2, z_r0_0_6, z_r0_0_7, z_r0_0_8, z_r0_0_9, z_r0_0_10] at p0v9
  try simp only [z_r0_0, z_r0_1, z_r0_2, z_r0_0_6, z_r0_0_7, z_r0_0_8, z_r0_0_9, z_r0_0_10] at p1v9
  try simp only [z_r0_0, z_r0_1, z_r0_2, z_r0_0_6, z_r0_0_7, z_r0_0_8, z_r0_0_9, z_r0_0_10] at p2v9
  try simp only [z_r0_0, z_r0_1, z_r0_2, z_r0_0_6, z_r0_0_7, z_r0_0_8, z_r0_0_9, z_r0_0_10] at p3v9
  try simp only [k0_r0_0_0] at p0v9
  try have q0v9 := congrArg Int32.toInt p0v9
  try simp only [k0_r0_0_0] at p1v9
  try have q1v9 := congrArg Int32.toInt p1v9
  try simp only [k0_r0_0_0] at p2v9
  try have q2v9 := congrArg Int32.toInt p2v9
  try simp only [k0_r0_0_0] at p3v9
  try have q3v9 := congrArg Int32.toInt p3v9
  have hs0 := p0v9; have hs1 := p1v9; have hs2 := p2v9; have hs3 := p3v9
  exact k_vret C rfl rfl (Nat.le_of_ble_eq_true rfl) (Nat.le_of_ble_eq_true rfl) ⟨_, _, rfl, rfl, by (try simp only [z_r0_0, z_r0_1, z_r0_2, z_r0_0_6, z_r0_0_7, z_r0_0_8, z_r0_0_9, z_r0_0_10]); simp only [k0_r0_0_0]; rw [hs0, hf0, hl0], by (try simp only [z_r0_0, z_r0_1, z_r0_2, z_r0_0_6, z_r0_0_7, z_r0_0_8, z_r0_0_9, z_r0_0_10]); simp only [k0_r0_0_0]; rw [hs1, hf1, hl1], by (try simp only [z_r0_0, z_r0_1, z_r0_2, z_r0_0_6, z_r0_0_7, z_r0_0_8, z_r0_0_9, z_r0_0_10]); simp only [k0_r0_0_0]; rw [hs2, hf2, hl2], by (try simp only [z_r0_0, z_r0_1, z_r0_2, z_r0_0_6, z_r0_0_7, z_r0_0_8, z_r0_0_9, z_r0_0_10]); simp only [k0_r0_0_0]; rw [hs3, hf3, hl3], hI10, (by (try simp only [z_r0_0, z_r0_1, z_r0_2, z_r0_0_6, z_r0_0_7, z_r0_0_8, z_r0_0_9, z_r0_0_10]); exact (Chg.mono (Chg.up S12 (List.forall_mem_cons.mpr ⟨List.mem_of_getElem? (i := 0) rfl, fun _ h => nomatch h⟩)) (by decide)))⟩

theorem s_X8_signsAt_x {d : Nat} {T N : Nat → Nat} {I : IT} {L : LT} {R : RT} {A B : Nat → Prop} {r0 : Nat} {n1 : Int32} (hS : SUB B A) (hI : IX A T I) (H_r0 : (hs_St T N R A B) r0) : Ex (d + 1) 77 [.ref r0, .int n1] (T, N, I, L, R) 0 0 (pR T N R (fun x9 I9 L9 => (∀ b, x9 = some b → (hs_Sg T N R A B) b) ∧ (FAD R x9 (rA R r0 10) n1 (I r0 3).toInt 8) ∧ (I = I9 ∧ L = L9))) := by
  refine ⟨_, rfl, Nat.le_of_ble_eq_true rfl, fun V C S => ?_⟩
  show V 0 [(0, .ref r0), (1, .int n1)] [] (T, N, I, L, R) 0 0
  have gn1 := rg n1
  obtain ⟨T_r0, A_r0, B_r0, ⟨r0_6, R_r0_6, H_r0_6⟩, ⟨r0_7, R_r0_7, H_r0_7⟩, ⟨r0_8, R_r0_8, H_r0_8⟩, ⟨r0_9, R_r0_9, H_r0_9⟩, ⟨r0_10, R_r0_10, H_r0_10⟩⟩ := id H_r0
  have z_r0_6 : rA R r0 6 = r0_6 := rA_e R_r0_6
  have z_r0_7 : rA R r0 7 = r0_7 := rA_e R_r0_7
  have z_r0_8 : rA R r0 8 = r0_8 := rA_e R_r0_8
  have z_r0_9 : rA R r0 9 = r0_9 := rA_e R_r0_9
  have z_r0_10 : rA R r0 10 = r0_10 := rA_e R_r0_10
  obtain ⟨w_r0_3, k0_r0_3⟩ : ∃ x, I r0 3 = x := ⟨_, rfl⟩
  have gw_r0_3 := rg w_r0_3
  refine k_iload_n C rfl rfl rfl ?_
  refine b_if_lt C (t := 21) rfl rfl rfl (fun c1 => ?_) (fun c1 => ?_)
  · skip
    refine k_null C rfl rfl ?_
    refine k_goto C (pc2 := 31) rfl rfl ?_
    exact k_aret C (x := none) rfl (Or.inl ⟨_, rfl⟩) (Nat.le_of_ble_eq_true rfl) (Nat.le_of_ble_eq_true rfl) ⟨_, _, _, rfl, rfl, fz, by (try simp only [z_r0_6, z_r0_7, z_r0_8, z_r0_9, z_r0_10]); simp only [k0_r0_3]; first | exact FAD.r Q_none (by omega) (by omega) (by omega) | exact FAD.z (by omega), rfl, rfl⟩
  refine k_iload_n C rfl rfl rfl ?_
  refine k_aload_n C rfl rfl rfl ?_
  refine g_I C rfl rfl rfl T_r0 rfl k0_r0_3 ?_
  refine b_icmp_ge C (t := 21) rfl rfl rfl (fun c2 => ?_) (fun c2 => ?_)
  · skip
    refine k_null C rfl rfl ?_
    refine k_goto C (pc2 := 31) rfl rfl ?_
    exact k_aret C (x := none) rfl (Or.inl ⟨_, rfl⟩) (Nat.le_of_ble_eq_true rfl) (Nat.le_of_ble_eq_true rfl) ⟨_, _, _, rfl, rfl, fz, by (try simp only [z_r0_6, z_r0_7, z_r0_8, z_r0_9, z_r0_10]); simp only [k0_r0_3]; first | exact FAD.r Q_none (by omega) (by omega) (by omega) | exact FAD.z (by omega), rfl, rfl⟩
  refine k_iload_n C rfl rfl rfl ?_
  refine k_aload_n C rfl rfl rfl ?_
  refine g_R C rfl rfl rfl T_r0 rfl R_r0_10 ?_
  obtain ⟨T_r0_10, N_r0_10, A_r0_10, E_r0_10⟩ := id H_r0_10
  refine z_len C (n := 8) rfl rfl (by rw [T_r0_10]; exact Nat.le_of_ble_eq_true rfl) N_r0_10 (Nat.le_of_ble_eq_true rfl) (fun x3 ex3 => ?_)
  refine b_icmp_lt C (t := 25) rfl rfl rfl (fun c4 => ?_) (fun c4 => ?_)
  · skip
    refine k_aload_n C rfl rfl rfl ?_
    refine g_R C rfl rfl rfl T_r0 rfl R_r0_10 ?_
    refine k_iload_n C rfl rfl rfl ?_
    refine z_aRe C (t := 2) rfl rfl (Nat.le_of_ble_eq_true rfl) T_r0_10 N_r0_10 E_r0_10 (by omega) (by omega) (fun rr5 Q_rr5 H_rr5 => ?_)
    exact k_aret C (x := some _) rfl (Or.inl ⟨_, rfl⟩) (Nat.le_of_ble_eq_true rfl) (Nat.le_of_ble_eq_true rfl) ⟨_, _, _, rfl, rfl, fb H_rr5, by (try simp only [z_r0_6, z_r0_7, z_r0_8, z_r0_9, z_r0_10]); simp only [k0_r0_3]; first | exact FAD.r Q_rr5 (by omega) (by omega) (by omega) | exact FAD.z (by omega), rfl, rfl⟩
  refine k_null C rfl rfl ?_
  refine k_goto C (pc2 := 31) rfl rfl ?_
  exact k_aret C (x := none) rfl (Or.inl ⟨_, rfl⟩) (Nat.le_of_ble_eq_true rfl) (Nat.le_of_ble_eq_true rfl) ⟨_, _, _, rfl, rfl, fz, by (try simp only [z_r0_6, z_r0_7, z_r0_8, z_r0_9, z_r0_10]); simp only [k0_r0_3]; first | exact FAD.r Q_none (by omega) (by omega) (by omega) | exact FAD.z (by omega), rfl, rfl⟩

theorem s_X8_copyFrom_x {d : Nat} {T N : Nat → Nat} {I : IT} {L : LT} {R : RT} {A B : Nat → Prop} {r0 r1 : Nat} (hS : SUB B A) (hI : IX A T I) (H_r0 : (hs_St T N R A B) r0) (H_r1 : (hs_St T N R A B) r1) (hU : UPR T R) (hp0 : r0 ≠ r1) (hp1 : (I r1 1).toInt ≤ 16) (hp2 : (I r1 2).toInt ≤ 8) : Ex (d + 4) 110 [.ref r0, .ref r1] (T, N, I, L, R) 0 0 (pV T N R (fun I9 L9 => ((I9 r0 0).toInt = (I r1 0).toInt) ∧ ((I9 r0 1).toInt = (I r1 1).toInt) ∧ ((I9 r0 2).toInt = (I r1 2).toInt) ∧ ((I9 r0 3).toInt = (I r1 3).toInt) ∧ ((I9 r0 4).toInt = (I r1 4).toInt) ∧ ((I9 r0 5).toInt = (I r1 5).toInt) ∧ (CAL R I9 I r0 r1 40) ∧ (FLL R I9 I r0 r1 (I r1 1).toInt) ∧ (TLL R I9 I r0 r1 (I r1 2).toInt) ∧ (IX A T I9 ∧ Chg (OWN R r0) T [(3, 0), (8, 2), (9, 0), (9, 1), (9, 2), (9, 3), (9, 4), (9, 5), (10, 0), (10, 1), (10, 2), (10, 3)] I L I9 L9))) := by
  refine ⟨_, rfl, Nat.le_of_ble_eq_true rfl, fun V C S => ?_⟩
  show V 0 [(0, .ref r0), (1, .ref r1)] [] (T, N, I, L, R) 0 0
  obtain ⟨T_r0, A_r0, B_r0, ⟨r0_6, R_r0_6, H_r0_6⟩, ⟨r0_7, R_r0_7, H_r0_7⟩, ⟨r0_8, R_r0_8, H_r0_8⟩, ⟨r0_9, R_r0_9, H_r0_9⟩, ⟨r0_10, R_r0_10, H_r0_10⟩⟩ := id H_r0
  have z_r0_6 : rA R r0 6 = r0_6 := rA_e R_r0_6
  have z_r0_7 : rA R r0 7 = r0_7 := rA_e R_r0_7
  have z_r0_8 : rA R r0 8 = r0_8 := rA_e R_r0_8
  have z_r0_9 : rA R r0 9 = r0_9 := rA_e R_r0_9
  have z_r0_10 : rA R r0 10 = r0_10 := rA_e R_r0_10
  obtain ⟨T_r1, A_r1, B_r1, ⟨r1_6, R_r1_6, H_r1_6⟩, ⟨r1_7, R_r1_7, H_r1_7⟩, ⟨r1_8, R_r1_8, H_r1_8⟩, ⟨r1_9, R_r1_9, H_r1_9⟩, ⟨r1_10, R_r1_10, H_r1_10⟩⟩ := id H_r1
  have z_r1_6 : rA R r1 6 = r1_6 := rA_e R_r1_6
  have z_r1_7 : rA R r1 7 = r1_7 := rA_e R_r1_7
  have z_r1_8 : rA R r1 8 = r1_8 := rA_e R_r1_8
  have z_r1_9 : rA R r1 9 = r1_9 := rA_e R_r1_9
  have z_r1_10 : rA R r1 10 = r1_10 := rA_e R_r1_10
  have hG := GS.of H_r0
  have hG1 := GS.of H_r1
  have hg := GG.of H_r0
  obtain ⟨T_r0_8, N_r0_8, A_r0_8, E_r0_8⟩ := id H_r0_8
  obtain ⟨T_r0_9, N_r0_9, A_r0_9, E_r0_9⟩ := id H_r0_9
  obtain ⟨T_r0_10, N_r0_10, A_r0_10, E_r0_10⟩ := id H_r0_10
  obtain ⟨T_r1_8, N_r1_8, A_r1_8, E_r1_8⟩ := id H_r1_8
  obtain ⟨T_r1_9, N_r1_9, A_r1_9, E_r1_9⟩ := id H_r1_9
  obtain ⟨T_r1_10, N_r1_10, A_r1_10, E_r1_10⟩ := id H_r1_10
  try simp only [z_r0_6, z_r0_7, z_r0_8, z_r0_9, z_r0_10, z_r1_6, z_r1_7, z_r1_8, z_r1_9, z_r1_10] at hp0
  try simp only [z_r0_6, z_r0_7, z_r0_8, z_r0_9, z_r0_10, z_r1_6, z_r1_7, z_r1_8, z_r1_9, z_r1_10] at hp1
  try simp only [z_r0_6, z_r0_7, z_r0_8, z_r0_9, z_r0_10, z_r1_6, z_r1_7, z_r1_8, z_r1_9, z_r1_10] at hp2
  obtain ⟨w_r1_0, k0_r1_0⟩ : ∃ x, I r1 0 = x := ⟨_, rfl⟩
  have gw_r1_0 := rg w_r1_0
  have ow_r1_0 := IX.p hI A_r1 T_r1 k0_r1_0
  obtain ⟨w_r1_1, k0_r1_1⟩ : ∃ x, I r1 1 = x := ⟨_, rfl⟩
  have gw_r1_1 := rg w_r1_1
  obtain ⟨w_r1_2, k0_r1_2⟩ : ∃ x, I r1 2 = x := ⟨_, rfl⟩
  have gw_r1_2 := rg w_r1_2
  obtain ⟨w_r1_3, k0_r1_3⟩ : ∃ x, I r1 3 = x := ⟨_, rfl⟩
  have gw_r1_3 := rg w_r1_3
  obtain ⟨w_r1_4, k0_r1_4⟩ : ∃ x, I r1 4 = x := ⟨_, rfl⟩
  have gw_r1_4 := rg w_r1_4
  obtain ⟨w_r1_5, k0_r1_5⟩ : ∃ x, I r1 5 = x := ⟨_, rfl⟩
  have gw_r1_5 := rg w_r1_5
  try simp only [k0_r1_0, k0_r1_1, k0_r1_2, k0_r1_3, k0_r1_4, k0_r1_5] at hp0
  try simp only [k0_r1_0, k0_r1_1, k0_r1_2, k0_r1_3, k0_r1_4, k0_r1_5] at hp1
  try simp only [k0_r1_0, k0_r1_1, k0_r1_2, k0_r1_3, k0_r1_4, k0_r1_5] at hp2
  refine k_aload_n C rfl rfl rfl ?_
  refine k_aload_n C rfl rfl rfl ?_
  refine g_I C rfl rfl rfl T_r1 rfl k0_r1_0 ?_
  refine z_pI C rfl rfl rfl T_r0 (Or.inr rfl) rfl (fun I1 uI1 => ?_)
  have hI1 : IX A T I1 := IX.f hI T_r0 ⟨fun h => absurd h (by decide), fun _ _ => ⟨by omega, by omega⟩⟩ uI1
  have S2 : Chg (SL [r0]) T [(9, 0)] I L I1 L := Chg.f List.mem_cons_self T_r0 uI1
  have e3 := u2_n uI1 (by first | exact hp0 | exact fun e => hp0 e.symm) k0_r1_0
  have e4 := u2_j uI1 (by decide) k0_r1_1
  have e5 := u2_j uI1 (by decide) k0_r1_2
  have e6 := u2_j uI1 (by decide) k0_r1_3
  have e7 := u2_j uI1 (by decide) k0_r1_4
  have e8 := u2_j uI1 (by decide) k0_r1_5
  have e9 := u2_e uI1
  have hq0 := uI1
  refine k_aload_n C rfl rfl rfl ?_
  refine k_aload_n C rfl rfl rfl ?_
  refine g_I C rfl rfl rfl T_r1 rfl e4 ?_
  refine z_pI C rfl rfl rfl T_r0 (Or.inr rfl) rfl (fun I10 uI10 => ?_)
  have hI10 : IX A T I10 := IX.f hI1 T_r0 (boX.tr (by decide) (by decide)) uI10
  have S11 : Chg (SL [r0]) T [(9, 1)] I1 L I10 L := Chg.f List.mem_cons_self T_r0 uI10
  have e12 := u2_j uI10 (by decide) e3
  have e13 := u2_n uI10 (by first | exact hp0 | exact fun e => hp0 e.symm) e4
  have e14 := u2_j uI10 (by decide) e5
  have e15 := u2_j uI10 (by decide) e6
  have e16 := u2_j uI10 (by decide) e7
  have e17 := u2_j uI10 (by decide) e8
  have e18 := u2_j uI10 (by decide) e9
  have e19 := u2_e uI10
  have hq1 := uI10
  refine k_aload_n C rfl rfl rfl ?_
  refine k_aload_n C rfl rfl rfl ?_
  refine g_I C rfl rfl rfl T_r1 rfl e14 ?_
  refine z_pI C rfl rfl rfl T_r0 (Or.inr rfl) rfl (fun I20 uI20 => ?_)
  have hI20 : IX A T I20 := IX.f hI10 T_r0 (boX.tr (by decide) (by decide)) uI20
  have S21 : Chg (SL [r0]) T [(9, 2)] I10 L I20 L := Chg.f List.mem_cons_self T_r0 uI20
  have e22 := u2_j uI20 (by decide) e12
  have e23 := u2_j uI20 (by decide) e13
  have e24 := u2_n uI20 (by first | exact hp0 | exact fun e => hp0 e.symm) e14
  have e25 := u2_j uI20 (by decide) e15
  have e26 := u2_j uI20 (by decide) e16
  have e27 := u2_j uI20 (by decide) e17
  have e28 := u2_j uI20 (by decide) e18
  have e29 := u2_j uI20 (by decide) e19
  have e30 := u2_e uI20
  have hq2 := uI20
  refine k_aload_n C rfl rfl rfl ?_
  refine k_aload_n C rfl rfl rfl ?_
  refine g_I C rfl rfl rfl T_r1 rfl e25 ?_
  refine z_pI C rfl rfl rfl T_r0 (Or.inr rfl) rfl (fun I31 uI31 => ?_)
  have hI31 : IX A T I31 := IX.f hI20 T_r0 (boX.tr (by decide) (by decide)) uI31
  have S32 : Chg (SL [r0]) T [(9, 3)] I20 L I31 L := Chg.f List.mem_cons_self T_r0 uI31
  have e33 := u2_j uI31 (by decide) e22
  have e34 := u2_j uI31 (by decide) e23
  have e35 := u2_j uI31 (by decide) e24
  have e36 := u2_n uI31 (by first | exact hp0 | exact fun e => hp0 e.symm) e25
  have e37 := u2_j uI31 (by decide) e26
  have e38 := u2_j uI31 (by decide) e27
  have e39 := u2_j uI31 (by decide) e28
  have e40 := u2_j uI31 (by decide) e29
  have e41 := u2_j uI31 (by decide) e30
  have e42 := u2_e uI31
  have hq3 := uI31
  refine k_aload_n C rfl rfl rfl ?_
  refine k_aload_n C rfl rfl rfl ?_
  refine c_VV C (s_X8_copyActs_x hS hI31 H_r0 H_r1 hU hp0) rfl rfl rfl rfl rfl ⟨_, rfl, rfl, T_r0, Nat.le_of_ble_eq_true rfl⟩ rfl rfl (Nat.le_of_ble_eq_true rfl) (Nat.le_of_ble_eq_true rfl) (Nat.le_of_ble_eq_true rfl) ?_
  rintro I44 L45 ⟨p0v43, p1v43, p2v43, hI44, S46⟩
  try simp only [z_r0_6, z_r0_7, z_r0_8, z_r0_9, z_r0_10, z_r1_6, z_r1_7, z_r1_8, z_r1_9, z_r1_10] at S46
  have e47 := Chg.k S46 T_r1 (by decide) (by decide) e33
  have e48 := Chg.k S46 T_r1 (by decide) (by decide) e34
  have e49 := Chg.k S46 T_r1 (by decide) (by decide) e35
  have e50 := Chg.k S46 T_r1 (by decide) (by decide) e36
  have e51 := Chg.k S46 T_r0 (by decide) (by decide) e39
  have e52 := Chg.k S46 T_r0 (by decide) (by decide) e40
  have e53 := Chg.k S46 T_r0 (by decide) (by decide) e41
  have e54 := Chg.k S46 T_r0 (by decide) (by decide) e42
  obtain ⟨x55, e56⟩ : ∃ x, I44 r0 4 = x := ⟨_, rfl⟩
  have gx55 := rg x55
  obtain ⟨x57, e58⟩ : ∃ x, I44 r0 5 = x := ⟨_, rfl⟩
  have gx57 := rg x57
  try simp only [z_r0_6, z_r0_7, z_r0_8, z_r0_9, z_r0_10, z_r1_6, z_r1_7, z_r1_8, z_r1_9, z_r1_10] at p0v43
  try simp only [z_r0_6, z_r0_7, z_r0_8, z_r0_9, z_r0_10, z_r1_6, z_r1_7, z_r1_8, z_r1_9, z_r1_10] at p1v43
  try simp only [z_r0_6, z_r0_7, z_r0_8, z_r0_9, z_r0_10, z_r1_6, z_r1_7, z_r1_8, z_r1_9, z_r1_10] at p2v43
  try simp only [e33, e34, e35, e36, e37, e38, e39, e40, e41, e42, e56, e58] at p0v43
  try have q0v43 := congrArg Int32.toInt p0v43
  try simp only [e33, e34, e35, e36, e37, e38, e39, e40, e41, e42, e56, e58] at p1v43
  try have q1v43 := congrArg Int32.toInt p1v43
  try simp only [e33, e34, e35, e36, e37, e38, e39, e40, e41, e42, e56, e58] at p2v43
  try have q2v43 := congrArg Int32.toInt p2v43
  have hca := p0v43
  refine z_iconst C (z := 0) rfl rfl rfl (fun x59 ex59 => ?_)
  have J60 : ∀ (nn61 : Nat) (I62 : IT) (L63 : LT) (x64 : Int32) (x68 : Int32) (x70 : Int32) (x72 : Int32) (x74 : Int32) (x76 : Int32) (x78 : Int32), (MN (2147483647 - x64.toInt) nn61) → (IX A T I62) → (Chg (OWN R r0) T [(3, 0)] I44 L45 I62 L63) → (0 ≤ x64.toInt) → (I62 r0 0 = x68) → (I62 r0 1 = x70) → (I62 r0 2 = x72) → (I62 r0 3 = x74) → (I62 r0 4 = x76) → (I62 r0 5 = x78) → (CAL R I62 I r0 r1 40) → (FLL R I62 I r0 r1 x64.toInt) → (x68.toInt = w_r1_0.toInt) → (x70.toInt = w_r1_1.toInt) → (x72.toInt = w_r1_2.toInt) → (x74.toInt = w_r1_3.toInt) → (x76.toInt = w_r1_4.toInt) → (x78.toInt = w_r1_5.toInt) → V 39 [(0, .ref r0), (1, .ref r1), (2, .int x64)] [] (T, N, I62, L63, R) 0 0 := by
    intro nn61
    induction nn61 using Nat.strongRecOn with
    | _ nn61 ihJ60 =>
      intro I62 L63 x64 x68 x70 x72 x74 x76 x78 hmnn61 hI67 S66 b65 e69 e71 e73 e75 e77 e79 ff39_0 ff39_1 ff39_2 ff39_3 ff39_4 ff39_5 ff39_6 ff39_7
      have gx64 := rg x64
      have gx68 := rg x68
      have gx70 := rg x70
      have gx72 := rg x72
      have gx74 := rg x74
      have gx76 := rg x76
      have gx78 := rg x78
      have e88 := Chg.k S66 T_r1 (by decide) (by decide) e47
      have e89 := Chg.k S66 T_r1 (by decide) (by decide) e48
      have e90 := Chg.k S66 T_r1 (by decide) (by decide) e49
      have e91 := Chg.k S66 T_r1 (by decide) (by decide) e50
      have e92 := Chg.k S66 T_r0 (by decide) (by decide) e51
      have e93 := Chg.k S66 T_r0 (by decide) (by decide) e52
      have e94 := Chg.k S66 T_r0 (by decide) (by decide) e53
      have e95 := Chg.k S66 T_r0 (by decide) (by decide) e54
      have e96 := Chg.k S66 T_r0 (by decide) (by decide) e56
      have e97 := Chg.k S66 T_r0 (by decide) (by decide) e58
      refine k_iload_n C rfl rfl rfl ?_
      refine k_aload_n C rfl rfl rfl ?_
      refine g_I C rfl rfl rfl T_r0 rfl e71 ?_
      refine b_icmp_ge C (t := 81) rfl rfl rfl (fun c98 => ?_) (fun c98 => ?_)
      · skip
        refine z_iconst C (z := 0) rfl rfl rfl (fun x99 ex99 => ?_)
        have J100 : ∀ (nn101 : Nat) (I102 : IT) (L103 : LT) (x104 : Int32) (x108 : Int32) (x110 : Int32) (x112 : Int32) (x114 : Int32) (x116 : Int32) (x118 : Int32), (MN (2147483647 - x104.toInt) nn101) → (IX A T I102) → (Chg (OWN R r0) T [(10, 0), (10, 1), (10, 2), (10, 3)] I62 L63 I102 L103) → (0 ≤ x104.toInt) → (I102 r0 0 = x108) → (I102 r0 1 = x110) → (I102 r0 2 = x112) → (I102 r0 3 = x114) → (I102 r0 4 = x116) → (I102 r0 5 = x118) → (CAL R I102 I r0 r1 40) → (FLL R I102 I r0 r1 w_r1_1.toInt) → (TLL R I102 I r0 r1 x104.toInt) → (x108.toInt = w_r1_0.toInt) → (x110.toInt = w_r1_1.toInt) → (x112.toInt = w_r1_2.toInt) → (x114.toInt = w_r1_3.toInt) → (x116.toInt = w_r1_4.toInt) → (x118.toInt = w_r1_5.toInt) → V 83 [(0, .ref r0), (1, .ref r1), (2, .int x104)] [] (T, N, I102, L103, R) 0 0 := by
          intro nn101
          induction nn101 using Nat.strongRecOn with
          | _ nn101 ihJ100 =>
            intro I102 L103 x104 x108 x110 x112 x114 x116 x118 hmnn101 hI107 S106 b105 e109 e111 e113 e115 e117 e119 ff83_0 ff83_1 ff83_2 ff83_3 ff83_4 ff83_5 ff83_6 ff83_7 ff83_8
            have gx104 := rg x104
            have gx108 := rg x108
            have gx110 := rg x110
            have gx112 := rg x112
            have gx114 := rg x114
            have gx116 := rg x116
            have gx118 := rg x118
            have e129 := Chg.k S106 T_r1 (by decide) (by decide) e88
            have e130 := Chg.k S106 T_r1 (by decide) (by decide) e89
            have e131 := Chg.k S106 T_r1 (by decide) (by decide) e90
            have e132 := Chg.k S106 T_r1 (by decide) (by decide) e91
            have e133 := Chg.k S106 T_r0 (by decide) (by decide) e69
            have e134 := Chg.k S106 T_r0 (by decide) (by decide) e71
            have e135 := Chg.k S106 T_r0 (by decide) (by decide) e73
            have e136 := Chg.k S106 T_r0 (by decide) (by decide) e75
            have e137 := Chg.k S106 T_r0 (by decide) (by decide) e77
            have e138 := Chg.k S106 T_r0 (by decide) (by decide) e79
            refine k_iload_n C rfl rfl rfl ?_
            refine k_aload_n C rfl rfl rfl ?_
            refine g_I C rfl rfl rfl T_r0 rfl e113 ?_
            refine b_icmp_ge C (t := 143) rfl rfl rfl (fun c139 => ?_) (fun c139 => ?_)
            · skip
              refine z_iconst C (z := 0) rfl rfl rfl (fun x140 ex140 => ?_)
              have J141 : ∀ (nn142 : Nat) (I143 : IT) (L144 : LT) (x145 : Int32) (x149 : Int32) (x151 : Int32) (x153 : Int32) (x155 : Int32) (x157 : Int32) (x159 : Int32), (MN (2147483647 - x145.toInt) nn142) → (IX A T I143) → (Chg (OWN R r0) T [(8, 2)] I102 L103 I143 L144) → (0 ≤ x145.toInt) → (I143 r0 0 = x149) → (I143 r0 1 = x151) → (I143 r0 2 = x153) → (I143 r0 3 = x155) → (I143 r0 4 = x157) → (I143 r0 5 = x159) → (CAL R I143 I r0 r1 40) → (FLL R I143 I r0 r1 w_r1_1.toInt) → (TLL R I143 I r0 r1 w_r1_2.toInt) → (x149.toInt = w_r1_0.toInt) → (x151.toInt = w_r1_1.toInt) → (x153.toInt = w_r1_2.toInt) → (x155.toInt = w_r1_3.toInt) → (x157.toInt = w_r1_4.toInt) → (x159.toInt = w_r1_5.toInt) → V 145 [(0, .ref r0), (1, .ref r1), (2, .int x145)] [] (T, N, I143, L144, R) 0 0 := by
                intro nn142
                induction nn142 using Nat.strongRecOn with
                | _ nn142 ihJ141 =>
                  intro I143 L144 x145 x149 x151 x153 x155 x157 x159 hmnn142 hI148 S147 b146 e150 e152 e154 e156 e158 e160 ff145_0 ff145_1 ff145_2 ff145_3 ff145_4 ff145_5 ff145_6 ff145_7 ff145_8
                  have gx145 := rg x145
                  have gx149 := rg x149
                  have gx151 := rg x151
                  have gx153 := rg x153
                  have gx155 := rg x155
                  have gx157 := rg x157
                  have gx159 := rg x159
                  have e170 := Chg.k S147 T_r1 (by decide) (by decide) e129
                  have e171 := Chg.k S147 T_r1 (by decide) (by decide) e130
                  have e172 := Chg.k S147 T_r1 (by decide) (by decide) e131
                  have e173 := Chg.k S147 T_r1 (by decide) (by decide) e132
                  have e174 := Chg.k S147 T_r0 (by decide) (by decide) e109
                  have e175 := Chg.k S147 T_r0 (by decide) (by decide) e111
                  have e176 := Chg.k S147 T_r0 (by decide) (by decide) e113
                  have e177 := Chg.k S147 T_r0 (by decide) (by decide) e115
                  have e178 := Chg.k S147 T_r0 (by decide) (by decide) e117
                  have e179 := Chg.k S147 T_r0 (by decide) (by decide) e119
                  refine k_iload_n C rfl rfl rfl ?_
                  refine k_aload_n C rfl rfl rfl ?_
                  refine g_I C rfl rfl rfl T_r0 rfl e156 ?_
                  refine b_icmp_ge C (t := 187) rfl rfl rfl (fun c180 => ?_) (fun c180 => ?_)
                  · skip
                    exact k_vret C rfl rfl (Nat.le_of_ble_eq_true rfl) (Nat.le_of_ble_eq_true rfl) ⟨_, _, rfl, rfl, by (try simp only [z_r0_6, z_r0_7, z_r0_8, z_r0_9, z_r0_10, z_r1_6, z_r1_7, z_r1_8, z_r1_9, z_r1_10]); rw [e150]; simp only [k0_r1_0]; omega, by (try simp only [z_r0_6, z_r0_7, z_r0_8, z_r0_9, z_r0_10, z_r1_6, z_r1_7, z_r1_8, z_r1_9, z_r1_10]); rw [e152]; simp only [k0_r1_1]; omega, by (try simp only [z_r0_6, z_r0_7, z_r0_8, z_r0_9, z_r0_10, z_r1_6, z_r1_7, z_r1_8, z_r1_9, z_r1_10]); rw [e154]; simp only [k0_r1_2]; omega, by (try simp only [z_r0_6, z_r0_7, z_r0_8, z_r0_9, z_r0_10, z_r1_6, z_r1_7, z_r1_8, z_r1_9, z_r1_10]); rw [e156]; simp only [k0_r1_3]; omega, by (try simp only [z_r0_6, z_r0_7, z_r0_8, z_r0_9, z_r0_10, z_r1_6, z_r1_7, z_r1_8, z_r1_9, z_r1_10]); rw [e158]; simp only [k0_r1_4]; omega, by (try simp only [z_r0_6, z_r0_7, z_r0_8, z_r0_9, z_r0_10, z_r1_6, z_r1_7, z_r1_8, z_r1_9, z_r1_10]); rw [e160]; simp only [k0_r1_5]; omega, by (try simp only [z_r0_6, z_r0_7, z_r0_8, z_r0_9, z_r0_10, z_r1_6, z_r1_7, z_r1_8, z_r1_9, z_r1_10]); exact ff145_0, by (try simp only [z_r0_6, z_r0_7, z_r0_8, z_r0_9, z_r0_10, z_r1_6, z_r1_7, z_r1_8, z_r1_9, z_r1_10]); simp only [k0_r1_1]; exact ff145_1, by (try simp only [z_r0_6, z_r0_7, z_r0_8, z_r0_9, z_r0_10, z_r1_6, z_r1_7, z_r1_8, z_r1_9, z_r1_10]); simp only [k0_r1_2]; exact ff145_2, hI148, (Chg.cons (Chg.up S2 (sl_1 (Or.inl (Or.inl rfl)))) (Chg.cons (Chg.up S11 (sl_1 (Or.inl (Or.inl rfl)))) (Chg.cons (Chg.up S21 (sl_1 (Or.inl (Or.inl rfl)))) (Chg.cons (Chg.up S32 (sl_1 (Or.inl (Or.inl rfl)))) (Chg.cons (Chg.up S46 (fun _ h => Or.inl h)) (Chg.cons S66 (Chg.cons S106 (Chg.mono S147 (by decide)) (by decide)) (by decide)) (by decide)) (by decide)) (by decide)) (by decide)) (by decide))⟩
                  refine k_aload_n C rfl rfl rfl ?_
                  refine k_iload_n C rfl rfl rfl ?_
                  have hA9 := fun h => ncn (n := 8) (j := x145) (by omega) h
                  refine c_VR C (s_X8_signsAt_x hS hI148 H_r0) rfl rfl rfl rfl rfl ⟨_, rfl, rfl, T_r0, Nat.le_of_ble_eq_true rfl⟩ rfl rfl (Nat.le_of_ble_eq_true rfl) (Nat.le_of_ble_eq_true rfl) (Nat.le_of_ble_eq_true rfl) ?_
                  rintro yy181 _ _ ⟨hyy181, p0yy181, rfl, rfl⟩
                  try simp only [z_r0_6, z_r0_7, z_r0_8, z_r0_9, z_r0_10, z_r1_6, z_r1_7, z_r1_8, z_r1_9, z_r1_10] at p0yy181
                  try simp only [e170, e171, e172, e173, e150, e152, e154, e156, e158, e160] at p0yy181
                  try have q0yy181 := congrArg Int32.toInt p0yy181
                  have hgA := p0yy181
                  refine k_astore_nV C (x := yy181) (lw := [(3, va_rf yy181), (0, .ref r0), (1, .ref r1), (2, .int x145)]) rfl rfl (Nat.le_of_ble_eq_true rfl) rfl ?_
                  refine k_aload_n C rfl rfl rfl ?_
                  refine k_iload_n C rfl rfl rfl ?_
                  refine c_VR C (s_X8_signsAt_x hS hI148 H_r1) rfl rfl rfl rfl rfl ⟨_, rfl, rfl, T_r1, Nat.le_of_ble_eq_true rfl⟩ rfl rfl (Nat.le_of_ble_eq_true rfl) (Nat.le_of_ble_eq_true rfl) (Nat.le_of_ble_eq_true rfl) ?_
                  rintro yy182 _ _ ⟨hyy182, p0yy182, rfl, rfl⟩
                  try simp only [z_r0_6, z_r0_7, z_r0_8, z_r0_9, z_r0_10, z_r1_6, z_r1_7, z_r1_8, z_r1_9, z_r1_10] at p0yy182
                  try simp only [e170, e171, e172, e173, e150, e152, e154, e156, e158, e160] at p0yy182
                  try have q0yy182 := congrArg Int32.toInt p0yy182
                  refine k_astoreV C (x := yy182) (lw := [(4, va_rf yy182), (3, va_rf yy181), (0, .ref r0), (1, .ref r1), (2, .int x145)]) rfl rfl (Nat.le_of_ble_eq_true rfl) (by cases yy181 <;> rfl) ?_
                  refine k_aload_nV C (x := yy181) rfl rfl rfl ?_
                  refine k_ifnull C (x := yy181) (t := 181) rfl rfl rfl (fun c183 => ?_) (fun rr184 c183 => ?_)
                  · skip
                    subst c183
                    refine z_iinc C (z := 1) (lw := fun x185 => [(2, .int x185), (4, va_rf yy182), (3, va_rf none), (0, .ref r0), (1, .ref r1)]) rfl rfl rfl (Nat.le_of_ble_eq_true rfl) rfl ⟨by omega, by omega⟩ (fun _ => rfl) (fun x185 ex185 => ?_)
                    show V 184 [(2, .int x185), (4, va_rf yy182), (3, va_rf none), (0, .ref r0), (1, .ref r1)] _ _ _ _
                    refine k_goto C (pc2 := 145) rfl rfl ?_
                    refine k_sub S [(0, .ref r0), (1, .ref r1), (2, .int x185)] (List.forall_mem_cons.mpr ⟨List.mem_of_getElem? (i := 3) rfl, List.forall_mem_cons.mpr ⟨List.mem_of_getElem? (i := 4) rfl, List.forall_mem_cons.mpr ⟨List.mem_of_getElem? (i := 0) rfl, fun _ h => nomatch h⟩⟩⟩) ?_
                    exact ihJ141 _ (MN.lt hmnn142 (by omega) (by omega)) I143 L144 x185 x149 x151 x153 x155 x157 x159 rfl hI148 (Chg.mono S147 (by decide)) (by omega) e150 e152 e154 e156 e158 e160 (by first | exact ff145_0 | exact CAL.at ff145_0 hsS (nWs hU hG hg oA h8 (by assumption) (by assumption))) (by first | exact ff145_1 | exact FLL.at ff145_1 hsS (nFs hU hG hg oA h8 (by assumption) (by assumption))) (by first | exact ff145_2 | exact TLL.at ff145_2 hsS (nTs hG hg oA h8 (by assumption) (by assumption))) (by omega) (by omega) (by omega) (by omega) (by omega) (by omega)
                  subst c183
                  have H_rr184 := hyy181 rr184 rfl
                  have oA := SA_e z_r0_10 (FAD.q hgA).2.2.2; have h8 := hA9 (by have := FAD.q hgA; omega); have W9rr184 := OWN.s oA h8; have W9rr184_0 := OWN.s0 oA h8; have W9rr184_1 := OWN.s1 oA h8
                  refine k_aloadV C (x := yy182) rfl rfl rfl ?_
                  refine k_ifnull C (x := yy182) (t := 181) rfl rfl rfl (fun c186 => ?_) (fun rr187 c186 => ?_)
                  · skip
                    subst c186
                    refine z_iinc C (z := 1) (lw := fun x188 => [(2, .int x188), (4, va_rf none), (3, .ref rr184), (0, .ref r0), (1, .ref r1)]) rfl rfl rfl (Nat.le_of_ble_eq_true rfl) rfl ⟨by omega, by omega⟩ (fun _ => rfl) (fun x188 ex188 => ?_)
                    show V 184 [(2, .int x188), (4, va_rf none), (3, .ref rr184), (0, .ref r0), (1, .ref r1)] _ _ _ _
                    refine k_goto C (pc2 := 145) rfl rfl ?_
                    refine k_sub S [(0, .ref r0), (1, .ref r1), (2, .int x188)] (List.forall_mem_cons.mpr ⟨List.mem_of_getElem? (i := 3) rfl, List.forall_mem_cons.mpr ⟨List.mem_of_getElem? (i := 4) rfl, List.forall_mem_cons.mpr ⟨List.mem_of_getElem? (i := 0) rfl, fun _ h => nomatch h⟩⟩⟩) ?_
                    exact ihJ141 _ (MN.lt hmnn142 (by omega) (by omega)) I143 L144 x188 x149 x151 x153 x155 x157 x159 rfl hI148 (Chg.mono S147 (by decide)) (by omega) e150 e152 e154 e156 e158 e160 (by first | exact ff145_0 | exact CAL.at ff145_0 hsS (nWs hU hG hg oA h8 (by assumption) (by assumption))) (by first | exact ff145_1 | exact FLL.at ff145_1 hsS (nFs hU hG hg oA h8 (by assumption) (by assumption))) (by first | exact ff145_2 | exact TLL.at ff145_2 hsS (nTs hG hg oA h8 (by assumption) (by assumption))) (by omega) (by omega) (by omega) (by omega) (by omega) (by omega)
                  subst c186
                  have H_rr187 := hyy182 rr187 rfl
                  refine k_aload_n C rfl rfl rfl ?_
                  refine k_aload C rfl rfl rfl ?_
                  obtain ⟨T_rr184, A_rr184, ⟨rr184_0, R_rr184_0, H_rr184_0⟩, ⟨rr184_1, R_rr184_1, H_rr184_1⟩⟩ := id H_rr184
                  have z_rr184_0 : rA R rr184 0 = rr184_0 := rA_e R_rr184_0
                  have z_rr184_1 : rA R rr184 1 = rr184_1 := rA_e R_rr184_1
                  refine c_VV C (s_X7_copyFrom_x hS hI148 H_rr184 H_rr187) rfl rfl rfl rfl rfl ⟨_, rfl, rfl, T_rr184, Nat.le_of_ble_eq_true rfl⟩ rfl rfl (Nat.le_of_ble_eq_true rfl) (Nat.le_of_ble_eq_true rfl) (Nat.le_of_ble_eq_true rfl) ?_
                  rintro I190 L191 ⟨hI190, S192⟩
                  try simp only [z_r0_6, z_r0_7, z_r0_8, z_r0_9, z_r0_10, z_r1_6, z_r1_7, z_r1_8, z_r1_9, z_r1_10, z_rr184_0, z_rr184_1] at S192
                  have e193 := Chg.k S192 T_r1 (by decide) (by decide) e170
                  have e194 := Chg.k S192 T_r1 (by decide) (by decide) e171
                  have e195 := Chg.k S192 T_r1 (by decide) (by decide) e172
                  have e196 := Chg.k S192 T_r1 (by decide) (by decide) e173
                  have e197 := Chg.k S192 T_r0 (by decide) (by decide) e150
                  have e198 := Chg.k S192 T_r0 (by decide) (by decide) e152
                  have e199 := Chg.k S192 T_r0 (by decide) (by decide) e154
                  have e200 := Chg.k S192 T_r0 (by decide) (by decide) e156
                  have e201 := Chg.k S192 T_r0 (by decide) (by decide) e158
                  have e202 := Chg.k S192 T_r0 (by decide) (by decide) e160
                  have hsS := S192
                  refine z_iinc C (z := 1) (lw := fun x203 => [(2, .int x203), (4, .ref rr187), (3, .ref rr184), (0, .ref r0), (1, .ref r1)]) rfl rfl rfl (Nat.le_of_ble_eq_true rfl) rfl ⟨by omega, by omega⟩ (fun _ => rfl) (fun x203 ex203 => ?_)
                  show V 184 [(2, .int x203), (4, .ref rr187), (3, .ref rr184), (0, .ref r0), (1, .ref r1)] _ _ _ _
                  refine k_goto C (pc2 := 145) rfl rfl ?_
                  refine k_sub S [(0, .ref r0), (1, .ref r1), (2, .int x203)] (List.forall_mem_cons.mpr ⟨List.mem_of_getElem? (i := 3) rfl, List.forall_mem_cons.mpr ⟨List.mem_of_getElem? (i := 4) rfl, List.forall_mem_cons.mpr ⟨List.mem_of_getElem? (i := 0) rfl, fun _ h => nomatch h⟩⟩⟩) ?_
                  exact ihJ141 _ (MN.lt hmnn142 (by omega) (by omega)) I190 L191 x203 x149 x151 x153 x155 x157 x159 rfl hI190 (Chg.cons S147 (Chg.mono (Chg.up S192 (sl_3 (W9rr184) ((z_rr184_0 ▸ W9rr184_0)) ((z_rr184_1 ▸ W9rr184_1)))) (by decide)) (by decide)) (by omega) e197 e198 e199 e200 e201 e202 (by first | exact ff145_0 | exact CAL.at ff145_0 hsS (nWs hU hG hg oA h8 (by assumption) (by assumption))) (by first | exact ff145_1 | exact FLL.at ff145_1 hsS (nFs hU hG hg oA h8 (by assumption) (by assumption))) (by first | exact ff145_2 | exact TLL.at ff145_2 hsS (nTs hG hg oA h8 (by assumption) (by assumption))) (by omega) (by omega) (by omega) (by omega) (by omega) (by omega)
              refine k_istore_n C (lw := [(2, .int x140), (0, .ref r0), (1, .ref r1)]) rfl rfl (Nat.le_of_ble_eq_true rfl) rfl ?_
              refine k_sub S [(0, .ref r0), (1, .ref r1), (2, .int x140)] (List.forall_mem_cons.mpr ⟨List.mem_of_getElem? (i := 1) rfl, List.forall_mem_cons.mpr ⟨List.mem_of_getElem? (i := 2) rfl, List.forall_mem_cons.mpr ⟨List.mem_of_getElem? (i := 0) rfl, fun _ h => nomatch h⟩⟩⟩) ?_
              exact J141 _ I102 L103 x140 x108 x110 x112 x114 x116 x118 rfl hI107 Chg.rf (by omega) e109 e111 e113 e115 e117 e119 (by exact ff83_0) (by exact ff83_1) (by exact fun j hj h9 => ff83_2 j (by omega) h9) (by omega) (by omega) (by omega) (by omega) (by omega) (by omega)
            refine k_aload_n C rfl rfl rfl ?_
            refine k_iload_n C rfl rfl rfl ?_
            have hFR := (((Chg.cons (Chg.up S2 (sl_1 (Or.inl (Or.inl rfl)))) (Chg.cons (Chg.up S11 (sl_1 (Or.inl (Or.inl rfl)))) (Chg.cons (Chg.up S21 (sl_1 (Or.inl (Or.inl rfl)))) (Chg.cons (Chg.up S32 (sl_1 (Or.inl (Or.inl rfl)))) (Chg.cons (Chg.up S46 (fun _ h => Or.inl h)) (Chg.cons S66 (Chg.mono S106 (by decide)) (by decide)) (by decide)) (by decide)) (by decide)) (by decide)) (by decide)) : Chg (OWN R r0) T [(3, 0), (8, 2), (9, 0), (9, 1), (9, 2), (9, 3), (9, 4), (9, 5), (10, 0), (10, 1), (10, 2), (10, 3)] I L I102 L103)); have hA9 := fun h => ncn (n := 8) (j := x104) (by omega) h
            refine c_VR C (s_X8_tableAt_x hS hI107 H_r0) rfl rfl rfl rfl rfl ⟨_, rfl, rfl, T_r0, Nat.le_of_ble_eq_true rfl⟩ rfl rfl (Nat.le_of_ble_eq_true rfl) (Nat.le_of_ble_eq_true rfl) (Nat.le_of_ble_eq_true rfl) ?_
            rintro yy204 _ _ ⟨hyy204, p0yy204, rfl, rfl⟩
            try simp only [z_r0_6, z_r0_7, z_r0_8, z_r0_9, z_r0_10, z_r1_6, z_r1_7, z_r1_8, z_r1_9, z_r1_10] at p0yy204
            try simp only [e129, e130, e131, e132, e109, e111, e113, e115, e117, e119] at p0yy204
            try have q0yy204 := congrArg Int32.toInt p0yy204
            have htA := p0yy204
            refine k_astore_nV C (x := yy204) (lw := [(3, va_rf yy204), (0, .ref r0), (1, .ref r1), (2, .int x104)]) rfl rfl (Nat.le_of_ble_eq_true rfl) rfl ?_
            refine k_aload_n C rfl rfl rfl ?_
            refine k_iload_n C rfl rfl rfl ?_
            refine c_VR C (s_X8_tableAt_x hS hI107 H_r1) rfl rfl rfl rfl rfl ⟨_, rfl, rfl, T_r1, Nat.le_of_ble_eq_true rfl⟩ rfl rfl (Nat.le_of_ble_eq_true rfl) (Nat.le_of_ble_eq_true rfl) (Nat.le_of_ble_eq_true rfl) ?_
            rintro yy205 _ _ ⟨hyy205, p0yy205, rfl, rfl⟩
            try simp only [z_r0_6, z_r0_7, z_r0_8, z_r0_9, z_r0_10, z_r1_6, z_r1_7, z_r1_8, z_r1_9, z_r1_10] at p0yy205
            try simp only [e129, e130, e131, e132, e109, e111, e113, e115, e117, e119] at p0yy205
            try have q0yy205 := congrArg Int32.toInt p0yy205
            have htB := p0yy205
            refine k_astoreV C (x := yy205) (lw := [(4, va_rf yy205), (3, va_rf yy204), (0, .ref r0), (1, .ref r1), (2, .int x104)]) rfl rfl (Nat.le_of_ble_eq_true rfl) (by cases yy204 <;> rfl) ?_
            refine k_aload_nV C (x := yy204) rfl rfl rfl ?_
            refine k_ifnull C (x := yy204) (t := 137) rfl rfl rfl (fun c206 => ?_) (fun rr207 c206 => ?_)
            · skip
              subst c206
              exfalso; have q9 := FAD.no htA E_r0_9; omega
            subst c206
            have H_rr207 := hyy204 rr207 rfl
            have oA := TA_e z_r0_9 (FAD.q htA).2.2.2; have h8 := hA9 (by omega); have W9rr207 := OWN.t oA h8; have tA := H_rr207.1
            refine k_aloadV C (x := yy205) rfl rfl rfl ?_
            refine k_ifnull C (x := yy205) (t := 137) rfl rfl rfl (fun c208 => ?_) (fun rr209 c208 => ?_)
            · skip
              subst c208
              exfalso; have q9 := FAD.no htB E_r1_9; omega
            subst c208
            have H_rr209 := hyy205 rr209 rfl
            have oB := TA_e z_r1_9 (FAD.q htB).2.2.2
            refine k_aload_n C rfl rfl rfl ?_
            refine k_aload C rfl rfl rfl ?_
            obtain ⟨T_rr209, A_rr209, B_rr209⟩ := id H_rr209
            refine z_gI C rfl rfl rfl T_rr209 rfl (fun x210 ex210 => ?_)
            have gx210 := rg x210
            refine k_aload C rfl rfl rfl ?_
            refine z_gI C rfl rfl rfl T_rr209 rfl (fun x211 ex211 => ?_)
            have gx211 := rg x211
            refine k_aload C rfl rfl rfl ?_
            refine z_gI C rfl rfl rfl T_rr209 rfl (fun x212 ex212 => ?_)
            have gx212 := rg x212
            refine k_aload C rfl rfl rfl ?_
            refine z_gI C rfl rfl rfl T_rr209 rfl (fun x213 ex213 => ?_)
            have gx213 := rg x213
            obtain ⟨T_rr207, A_rr207, B_rr207⟩ := id H_rr207
            refine c_VV C (s_X9_set_x hS hI107 H_rr207) rfl rfl rfl rfl rfl ⟨_, rfl, rfl, T_rr207, Nat.le_of_ble_eq_true rfl⟩ rfl rfl (Nat.le_of_ble_eq_true rfl) (Nat.le_of_ble_eq_true rfl) (Nat.le_of_ble_eq_true rfl) ?_
            rintro I215 L216 ⟨p0v214, p1v214, p2v214, p3v214, hI215, S217⟩
            try simp only [z_r0_6, z_r0_7, z_r0_8, z_r0_9, z_r0_10, z_r1_6, z_r1_7, z_r1_8, z_r1_9, z_r1_10] at S217
            have e218 := Chg.k S217 T_r1 (by decide) (by decide) e129
            have e219 := Chg.k S217 T_r1 (by decide) (by decide) e130
            have e220 := Chg.k S217 T_r1 (by decide) (by decide) e131
            have e221 := Chg.k S217 T_r1 (by decide) (by decide) e132
            have e222 := Chg.k S217 T_r0 (by decide) (by decide) e109
            have e223 := Chg.k S217 T_r0 (by decide) (by decide) e111
            have e224 := Chg.k S217 T_r0 (by decide) (by decide) e113
            have e225 := Chg.k S217 T_r0 (by decide) (by decide) e115
            have e226 := Chg.k S217 T_r0 (by decide) (by decide) e117
            have e227 := Chg.k S217 T_r0 (by decide) (by decide) e119
            try simp only [z_r0_6, z_r0_7, z_r0_8, z_r0_9, z_r0_10, z_r1_6, z_r1_7, z_r1_8, z_r1_9, z_r1_10] at p0v214
            try simp only [z_r0_6, z_r0_7, z_r0_8, z_r0_9, z_r0_10, z_r1_6, z_r1_7, z_r1_8, z_r1_9, z_r1_10] at p1v214
            try simp only [z_r0_6, z_r0_7, z_r0_8, z_r0_9, z_r0_10, z_r1_6, z_r1_7, z_r1_8, z_r1_9, z_r1_10] at p2v214
            try simp only [z_r0_6, z_r0_7, z_r0_8, z_r0_9, z_r0_10, z_r1_6, z_r1_7, z_r1_8, z_r1_9, z_r1_10] at p3v214
            try simp only [e129, e130, e131, e132, e109, e111, e113, e115, e117, e119, ex210, ex211, ex212, ex213] at p0v214
            try have q0v214 := congrArg Int32.toInt p0v214
            try simp only [e129, e130, e131, e132, e109, e111, e113, e115, e117, e119, ex210, ex211, ex212, ex213] at p1v214
            try have q1v214 := congrArg Int32.toInt p1v214
            try simp only [e129, e130, e131, e132, e109, e111, e113, e115, e117, e119, ex210, ex211, ex212, ex213] at p2v214
            try have q2v214 := congrArg Int32.toInt p2v214
            try simp only [e129, e130, e131, e132, e109, e111, e113, e115, e117, e119, ex210, ex211, ex212, ex213] at p3v214
            try have q3v214 := congrArg Int32.toInt p3v214
            have hs0 := p0v214; have hs1 := p1v214; have hs2 := p2v214; have hs3 := p3v214; have hsS := S217
            refine z_iinc C (z := 1) (lw := fun x228 => [(2, .int x228), (4, .ref rr209), (3, .ref rr207), (0, .ref r0), (1, .ref r1)]) rfl rfl rfl (Nat.le_of_ble_eq_true rfl) rfl ⟨by omega, by omega⟩ (fun _ => rfl) (fun x228 ex228 => ?_)
            show V 140 [(2, .int x228), (4, .ref rr209), (3, .ref rr207), (0, .ref r0), (1, .ref r1)] _ _ _ _
            refine k_goto C (pc2 := 83) rfl rfl ?_
            refine k_sub S [(0, .ref r0), (1, .ref r1), (2, .int x228)] (List.forall_mem_cons.mpr ⟨List.mem_of_getElem? (i := 3) rfl, List.forall_mem_cons.mpr ⟨List.mem_of_getElem? (i := 4) rfl, List.forall_mem_cons.mpr ⟨List.mem_of_getElem? (i := 0) rfl, fun _ h => nomatch h⟩⟩⟩) ?_
            exact ihJ100 _ (MN.lt hmnn101 (by omega) (by omega)) I215 L216 x228 x108 x110 x112 x114 x116 x118 rfl hI215 (Chg.cons S106 (Chg.mono (Chg.up S217 (sl_1 (W9rr207))) (by decide)) (by decide)) (by omega) e222 e223 e224 e225 e226 e227 (by exact CAL.at ff83_0 hsS (nWt hG tA)) (by exact FLL.at ff83_1 hsS (nFt hG tA)) (by exact TLL.s ff83_2 hU hG hG1 hg hp0 hFR oA oB hs0 hs1 hs2 hs3 (by assumption) (by assumption) (by assumption) (by assumption) hsS (by omega) (by omega) (by omega)) (by omega) (by omega) (by omega) (by omega) (by omega) (by omega)
        refine k_istore_n C (lw := [(2, .int x99), (0, .ref r0), (1, .ref r1)]) rfl rfl (Nat.le_of_ble_eq_true rfl) rfl ?_
        refine k_sub S [(0, .ref r0), (1, .ref r1), (2, .int x99)] (List.forall_mem_cons.mpr ⟨List.mem_of_getElem? (i := 1) rfl, List.forall_mem_cons.mpr ⟨List.mem_of_getElem? (i := 2) rfl, List.forall_mem_cons.mpr ⟨List.mem_of_getElem? (i := 0) rfl, fun _ h => nomatch h⟩⟩⟩) ?_
        exact J100 _ I62 L63 x99 x68 x70 x72 x74 x76 x78 rfl hI67 Chg.rf (by omega) e69 e71 e73 e75 e77 e79 (by exact ff39_0) (by exact fun j hj h9 => ff39_1 j (by omega) h9) (by exact TLL.z (by omega)) (by omega) (by omega) (by omega) (by omega) (by omega) (by omega)
      refine k_aload_n C rfl rfl rfl ?_
      refine k_iload_n C rfl rfl rfl ?_
      have hFR := (((Chg.cons (Chg.up S2 (sl_1 (Or.inl (Or.inl rfl)))) (Chg.cons (Chg.up S11 (sl_1 (Or.inl (Or.inl rfl)))) (Chg.cons (Chg.up S21 (sl_1 (Or.inl (Or.inl rfl)))) (Chg.cons (Chg.up S32 (sl_1 (Or.inl (Or.inl rfl)))) (Chg.cons (Chg.up S46 (fun _ h => Or.inl h)) (Chg.mono S66 (by decide)) (by decide)) (by decide)) (by decide)) (by decide)) (by decide)) : Chg (OWN R r0) T [(3, 0), (8, 2), (9, 0), (9, 1), (9, 2), (9, 3), (9, 4), (9, 5), (10, 0), (10, 1), (10, 2), (10, 3)] I L I62 L63)); have hA9 := fun h => ncn (n := 16) (j := x64) (by omega) h
      refine c_VR C (s_X8_formAt_x hS hI67 H_r0) rfl rfl rfl rfl rfl ⟨_, rfl, rfl, T_r0, Nat.le_of_ble_eq_true rfl⟩ rfl rfl (Nat.le_of_ble_eq_true rfl) (Nat.le_of_ble_eq_true rfl) (Nat.le_of_ble_eq_true rfl) ?_
      rintro yy229 _ _ ⟨hyy229, p0yy229, rfl, rfl⟩
      try simp only [z_r0_6, z_r0_7, z_r0_8, z_r0_9, z_r0_10, z_r1_6, z_r1_7, z_r1_8, z_r1_9, z_r1_10] at p0yy229
      try simp only [e88, e89, e90, e91, e69, e71, e73, e75, e77, e79] at p0yy229
      try have q0yy229 := congrArg Int32.toInt p0yy229
      have hfA := p0yy229
      refine k_astore_nV C (x := yy229) (lw := [(3, va_rf yy229), (0, .ref r0), (1, .ref r1), (2, .int x64)]) rfl rfl (Nat.le_of_ble_eq_true rfl) rfl ?_
      refine k_aload_n C rfl rfl rfl ?_
      refine k_iload_n C rfl rfl rfl ?_
      refine c_VR C (s_X8_formAt_x hS hI67 H_r1) rfl rfl rfl rfl rfl ⟨_, rfl, rfl, T_r1, Nat.le_of_ble_eq_true rfl⟩ rfl rfl (Nat.le_of_ble_eq_true rfl) (Nat.le_of_ble_eq_true rfl) (Nat.le_of_ble_eq_true rfl) ?_
      rintro yy230 _ _ ⟨hyy230, p0yy230, rfl, rfl⟩
      try simp only [z_r0_6, z_r0_7, z_r0_8, z_r0_9, z_r0_10, z_r1_6, z_r1_7, z_r1_8, z_r1_9, z_r1_10] at p0yy230
      try simp only [e88, e89, e90, e91, e69, e71, e73, e75, e77, e79] at p0yy230
      try have q0yy230 := congrArg Int32.toInt p0yy230
      have hfB := p0yy230
      refine k_astoreV C (x := yy230) (lw := [(4, va_rf yy230), (3, va_rf yy229), (0, .ref r0), (1, .ref r1), (2, .int x64)]) rfl rfl (Nat.le_of_ble_eq_true rfl) (by cases yy229 <;> rfl) ?_
      refine k_aload_nV C (x := yy229) rfl rfl rfl ?_
      refine k_ifnull C (x := yy229) (t := 75) rfl rfl rfl (fun c231 => ?_) (fun rr232 c231 => ?_)
      · skip
        subst c231
        exfalso; have q9 := FAD.no hfA E_r0_8; omega
      subst c231
      have H_rr232 := hyy229 rr232 rfl
      have oA := FA_e z_r0_8 (FAD.q hfA).2.2.2; have h16 := hA9 (by omega); have W9rr232 := OWN.f oA h16; have W9rr232_1 := OWN.fb oA h16; have fA := FO.of H_rr232
      refine k_aloadV C (x := yy230) rfl rfl rfl ?_
      refine k_ifnull C (x := yy230) (t := 75) rfl rfl rfl (fun c233 => ?_) (fun rr234 c233 => ?_)
      · skip
        subst c233
        exfalso; have q9 := FAD.no hfB E_r1_8; omega
      subst c233
      have H_rr234 := hyy230 rr234 rfl
      have oB := FA_e z_r1_8 (FAD.q hfB).2.2.2; have fB := FO.of H_rr234
      refine k_aload_n C rfl rfl rfl ?_
      refine k_aload C rfl rfl rfl ?_
      obtain ⟨T_rr232, A_rr232, ⟨rr232_1, R_rr232_1, H_rr232_1⟩⟩ := id H_rr232
      have z_rr232_1 : rA R rr232 1 = rr232_1 := rA_e R_rr232_1
      obtain ⟨T_rr234, A_rr234, ⟨rr234_1, R_rr234_1, H_rr234_1⟩⟩ := id H_rr234
      have z_rr234_1 : rA R rr234 1 = rr234_1 := rA_e R_rr234_1
      refine c_VV C (s_X2_copyFrom_x hS hI67 H_rr232 H_rr234 (ffne hU hG hG1 hp0 oA oB h16) (obneq hU fA fB (ffne hU hG hG1 hp0 oA oB h16))) rfl rfl rfl rfl rfl ⟨_, rfl, rfl, T_rr232, Nat.le_of_ble_eq_true rfl⟩ rfl rfl (Nat.le_of_ble_eq_true rfl) (Nat.le_of_ble_eq_true rfl) (Nat.le_of_ble_eq_true rfl) ?_
      rintro I236 L237 ⟨p0v235, hI236, S238⟩
      try simp only [z_r0_6, z_r0_7, z_r0_8, z_r0_9, z_r0_10, z_r1_6, z_r1_7, z_r1_8, z_r1_9, z_r1_10, z_rr232_1, z_rr234_1] at S238
      have e239 := Chg.k S238 T_r1 (by decide) (by decide) e88
      have e240 := Chg.k S238 T_r1 (by decide) (by decide) e89
      have e241 := Chg.k S238 T_r1 (by decide) (by decide) e90
      have e242 := Chg.k S238 T_r1 (by decide) (by decide) e91
      have e243 := Chg.k S238 T_r0 (by decide) (by decide) e69
      have e244 := Chg.k S238 T_r0 (by decide) (by decide) e71
      have e245 := Chg.k S238 T_r0 (by decide) (by decide) e73
      have e246 := Chg.k S238 T_r0 (by decide) (by decide) e75
      have e247 := Chg.k S238 T_r0 (by decide) (by decide) e77
      have e248 := Chg.k S238 T_r0 (by decide) (by decide) e79
      obtain ⟨x249, e250⟩ : ∃ x, I236 rr232 0 = x := ⟨_, rfl⟩
      have gx249 := rg x249
      have ox249 := IX.deg hI236 A_rr232 T_rr232 e250
      try simp only [z_r0_6, z_r0_7, z_r0_8, z_r0_9, z_r0_10, z_r1_6, z_r1_7, z_r1_8, z_r1_9, z_r1_10, z_rr232_1, z_rr234_1] at p0v235
      try simp only [e88, e89, e90, e91, e69, e71, e73, e75, e77, e79, e250] at p0v235
      try have q0v235 := congrArg Int32.toInt p0v235
      have hcp := p0v235; have hcS := S238
      refine z_iinc C (z := 1) (lw := fun x251 => [(2, .int x251), (4, .ref rr234), (3, .ref rr232), (0, .ref r0), (1, .ref r1)]) rfl rfl rfl (Nat.le_of_ble_eq_true rfl) rfl ⟨by omega, by omega⟩ (fun _ => rfl) (fun x251 ex251 => ?_)
      show V 78 [(2, .int x251), (4, .ref rr234), (3, .ref rr232), (0, .ref r0), (1, .ref r1)] _ _ _ _
      refine k_goto C (pc2 := 39) rfl rfl ?_
      refine k_sub S [(0, .ref r0), (1, .ref r1), (2, .int x251)] (List.forall_mem_cons.mpr ⟨List.mem_of_getElem? (i := 3) rfl, List.forall_mem_cons.mpr ⟨List.mem_of_getElem? (i := 4) rfl, List.forall_mem_cons.mpr ⟨List.mem_of_getElem? (i := 0) rfl, fun _ h => nomatch h⟩⟩⟩) ?_
      exact ihJ60 _ (MN.lt hmnn61 (by omega) (by omega)) I236 L237 x251 x68 x70 x72 x74 x76 x78 rfl hI236 (Chg.cons S66 (Chg.mono (Chg.up S238 (sl_2 (W9rr232) ((z_rr232_1 ▸ W9rr232_1)))) (by decide)) (by decide)) (by omega) e243 e244 e245 e246 e247 e248 (by exact CAL.at ff39_0 hcS (nWf hU hG oA h16 (by assumption))) (by exact FLL.s ff39_1 hU hG hG1 hg hp0 hFR oA oB (by assumption) hcp hcS (by omega) (by omega) (by omega)) (by omega) (by omega) (by omega) (by omega) (by omega) (by omega)
  refine k_istore_n C (lw := [(2, .int x59), (0, .ref r0), (1, .ref r1)]) rfl rfl (Nat.le_of_ble_eq_true rfl) rfl ?_
  refine k_sub S [(0, .ref r0), (1, .ref r1), (2, .int x59)] (List.forall_mem_cons.mpr ⟨List.mem_of_getElem? (i := 1) rfl, List.forall_mem_cons.mpr ⟨List.mem_of_getElem? (i := 2) rfl, List.forall_mem_cons.mpr ⟨List.mem_of_getElem? (i := 0) rfl, fun _ h => nomatch h⟩⟩⟩) ?_
  exact J60 _ I44 L45 x59 w_r1_0 w_r1_1 w_r1_2 w_r1_3 x55 x57 rfl hI44 Chg.rf (by omega) e51 e52 e53 e54 e56 e58 (by exact fun j h8 h9 => (hca j h8 h9).tr ((AEQ.put hG1 T_r0 hq3 h9).tr ((AEQ.put hG1 T_r0 hq2 h9).tr ((AEQ.put hG1 T_r0 hq1 h9).tr (AEQ.put hG1 T_r0 hq0 h9))))) (by exact FLL.z (by omega)) (by omega) (by omega) (by omega) (by omega) (by omega) (by omega)

