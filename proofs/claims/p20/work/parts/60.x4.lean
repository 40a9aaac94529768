/-! a state laid into the other, tables, exactly -/
def SA (R : RT) (st j : Nat) : Nat := rA R (rA R st 10) j
def GG (T : Nat → Nat) (R : RT) (st : Nat) : Prop := R st 10 = some (rA R st 10) ∧ T (rA R st 10) = 25 ∧ ∀ j, j < 8 → R (rA R st 10) j = some (SA R st j) ∧ T (SA R st j) = 8 ∧ (R (SA R st j) 0 = some (rA R (SA R st j) 0) ∧ T (rA R (SA R st j) 0) = 20) ∧ R (SA R st j) 1 = some (rA R (SA R st j) 1) ∧ T (rA R (SA R st j) 1) = 20
theorem GG.of {T N : Nat → Nat} {R : RT} {A B : Nat → Prop} {st : Nat} (h : hs_St T N R A B st) : GG T R st := by
  obtain ⟨h1, -, -, -, -, -, -, ⟨tt, R9, T9, -, -, E9⟩⟩ := h
  have z9 := rA_e R9
  refine ⟨by rw [z9]; exact R9, by rw [z9]; exact T9, fun j hj => ?_⟩
  obtain ⟨f, f1, f2, -, ⟨a, a1, a2, -, -⟩, ⟨b, b1, b2, -, -⟩⟩ := E9 j hj
  unfold SA
  rw [z9, rA_e f1, rA_e a1, rA_e b1]
  exact ⟨f1, f2, ⟨a1, a2⟩, b1, b2⟩
/-- all that a state holds -/
def OWN (R : RT) (st a : Nat) : Prop := WSX R st a ∨ (∃ j, j < 16 ∧ (a = FA R st j ∨ a = rA R (FA R st j) 1)) ∨ (∃ j, j < 8 ∧ a = TA R st j) ∨ ∃ j, j < 8 ∧ (a = SA R st j ∨ a = rA R (SA R st j) 0 ∨ a = rA R (SA R st j) 1)
theorem OWN.f {R : RT} {st j f : Nat} (h : FA R st j = f) (hj : j < 16) : OWN R st f := Or.inr (Or.inl ⟨j, hj, Or.inl h.symm⟩)
theorem OWN.fb {R : RT} {st j f : Nat} (h : FA R st j = f) (hj : j < 16) : OWN R st (rA R f 1) := Or.inr (Or.inl ⟨j, hj, Or.inr (by rw [h])⟩)
theorem OWN.t {R : RT} {st j t : Nat} (h : TA R st j = t) (hj : j < 8) : OWN R st t := Or.inr (Or.inr (Or.inl ⟨j, hj, h.symm⟩))
theorem OWN.s {R : RT} {st j t : Nat} (h : SA R st j = t) (hj : j < 8) : OWN R st t := Or.inr (Or.inr (Or.inr ⟨j, hj, Or.inl h.symm⟩))
theorem OWN.s0 {R : RT} {st j t : Nat} (h : SA R st j = t) (hj : j < 8) : OWN R st (rA R t 0) := Or.inr (Or.inr (Or.inr ⟨j, hj, Or.inr (Or.inl (by rw [h]))⟩))
theorem OWN.s1 {R : RT} {st j t : Nat} (h : SA R st j = t) (hj : j < 8) : OWN R st (rA R t 1) := Or.inr (Or.inr (Or.inr ⟨j, hj, Or.inr (Or.inr (by rw [h]))⟩))
theorem SA_e {R : RT} {st ot o j : Nat} (z : rA R st 10 = ot) (h : R ot j = some o) : SA R st j = o := by unfold SA; rw [z]; exact rA_e h
def t20 {t : Nat} (h : t = 20) : t = 3 ∨ t = 8 ∨ t = 10 ∨ 20 ≤ t := Or.inr (Or.inr (Or.inr (by omega)))
theorem GS.r87 {T : Nat → Nat} {R : RT} {st st' : Nat} (hU : UPR T R) (hG : GS T R st) (hG' : GS T R st') : rA R st' 8 ≠ rA R st 7 := hU.ne (Or.inr (Or.inr (Or.inr (by have := hG'.2.2.2.1.2; omega)))) hG'.2.2.2.1.1 hG.2.2.1.1 (Or.inr (by decide))
theorem GS.r8 {T : Nat → Nat} {R : RT} {st st' : Nat} (hU : UPR T R) (hG : GS T R st) (hG' : GS T R st') (hn : st' ≠ st) : rA R st' 8 ≠ rA R st 8 := hU.ne (Or.inr (Or.inr (Or.inr (by have := hG'.2.2.2.1.2; omega)))) hG'.2.2.2.1.1 hG.2.2.2.1.1 (Or.inl hn)
theorem GS.r9 {T : Nat → Nat} {R : RT} {st st' : Nat} (hU : UPR T R) (hG : GS T R st) (hG' : GS T R st') (hn : st' ≠ st) : rA R st' 9 ≠ rA R st 9 := hU.ne (Or.inr (Or.inr (Or.inr (by have := hG'.2.2.2.2.1.2; omega)))) hG'.2.2.2.2.1.1 hG.2.2.2.2.1.1 (Or.inl hn)
/-- a form held elsewhere than in the state's two rows is none of its cells -/
theorem OWN.nf {T : Nat → Nat} {R : RT} {st f a k : Nat} (hU : UPR T R) (hG : GS T R st) (hg : GG T R st) (hf : T f = 3) (hR : R a k = some f) (h7 : a ≠ rA R st 7) (h8 : a ≠ rA R st 8) : ¬ OWN R st f := by
  have hF := hG.2.2.2.2.2.2.1
  have hT := hG.2.2.2.2.2.2.2
  rintro (e | ⟨j, hj, e | e⟩ | ⟨j, hj, e⟩ | ⟨j, hj, e | e | e⟩)
  · exact WSX.nf hU hG hf hR h7 e
  · exact hU.ne (Or.inl hf) hR (hF j hj).1 (Or.inl h8) e
  · have := (hF j hj).2.2.2; rw [← e] at this; omega
  · have := (hT j hj).2; rw [← e] at this; omega
  · have := (hg.2.2 j hj).2.1; rw [← e] at this; omega
  · have := (hg.2.2 j hj).2.2.1.2; rw [← e] at this; omega
  · have := (hg.2.2 j hj).2.2.2.2; rw [← e] at this; omega
theorem OWN.nb {T : Nat → Nat} {R : RT} {st f a k : Nat} (hU : UPR T R) (hG : GS T R st) (hg : GG T R st) (hf : FO T R f) (hR : R a k = some f) (h7 : a ≠ rA R st 7) (h8 : a ≠ rA R st 8) : ¬ OWN R st (rA R f 1) := by
  have h0 := OWN.nf hU hG hg hf.1 hR h7 h8
  obtain ⟨Tf, Rf, Tb⟩ := id hf
  have hF := hG.2.2.2.2.2.2.1
  have hT := hG.2.2.2.2.2.2.2
  rintro (e | ⟨j, hj, e | e⟩ | ⟨j, hj, e⟩ | ⟨j, hj, e | e | e⟩)
  · exact WSX.nb hU hG hf hR h7 e
  · have := (hF j hj).2.1; rw [← e] at this; omega
  · exact hU.ne (t20 Tb) Rf (hF j hj).2.2.1 (Or.inl (fun q => h0 (Or.inr (Or.inl ⟨j, hj, Or.inl q⟩)))) e
  · have := (hT j hj).2; rw [← e] at this; omega
  · have := (hg.2.2 j hj).2.1; rw [← e] at this; omega
  · exact hU.ne (t20 Tb) Rf (hg.2.2 j hj).2.2.1.1 (Or.inl (fun q => by have := (hg.2.2 j hj).2.1; rw [← q] at this; omega)) e
  · exact hU.ne (t20 Tb) Rf (hg.2.2 j hj).2.2.2.1 (Or.inl (fun q => by have := (hg.2.2 j hj).2.1; rw [← q] at this; omega)) e
theorem OWN.nt {T : Nat → Nat} {R : RT} {st t a k : Nat} (hU : UPR T R) (hG : GS T R st) (hg : GG T R st) (ht : T t = 10) (hR : R a k = some t) (h9 : a ≠ rA R st 9) : ¬ OWN R st t := by
  have hF := hG.2.2.2.2.2.2.1
  have hT := hG.2.2.2.2.2.2.2
  rintro ((e | e | ⟨j, hj, e | e⟩) | ⟨j, hj, e | e⟩ | ⟨j, hj, e⟩ | ⟨j, hj, e | e | e⟩)
  · have := hG.1; rw [← e] at this; omega
  · have := hG.2.1.2; rw [← e] at this; omega
  · have := (hG.2.2.2.2.2.1 j hj).2.1; rw [← e] at this; omega
  · have := (hG.2.2.2.2.2.1 j hj).2.2.2; rw [← e] at this; omega
  · have := (hF j hj).2.1; rw [← e] at this; omega
  · have := (hF j hj).2.2.2; rw [← e] at this; omega
  · exact hU.ne (Or.inr (Or.inr (Or.inl ht))) hR (hT j hj).1 (Or.inl h9) e
  · have := (hg.2.2 j hj).2.1; rw [← e] at this; omega
  · have := (hg.2.2 j hj).2.2.1.2; rw [← e] at this; omega
  · have := (hg.2.2 j hj).2.2.2.2; rw [← e] at this; omega
theorem CAL.at {T : Nat → Nat} {R : RT} {I I1 I2 : IT} {L1 L2 : LT} {W : List (Nat × Nat)} {S : Nat → Prop} {r0 r1 : Nat} {k : Int} (h : CAL R I1 I r0 r1 k) (c : Chg S T W I1 L1 I2 L2) (hS : ∀ a, S a → ¬ WSX R r0 a) : CAL R I2 I r0 r1 k := fun j hj h9 =>
  (AEQ.at c (fun q => hS _ q (Or.inr (Or.inl rfl))) (fun q => hS _ q (Or.inr (Or.inr ⟨j, h9, Or.inl rfl⟩))) (fun q => hS _ q (Or.inr (Or.inr ⟨j, h9, Or.inr rfl⟩)))).tr (h j hj h9)
def FLL (R : RT) (I' I : IT) (r0 r1 : Nat) (k : Int) : Prop := ∀ j : Nat, (j : Int) < k → j < 16 → FEQ R I' (FA R r0 j) I (FA R r1 j)
theorem FLL.z {R : RT} {I' I : IT} {r0 r1 : Nat} {k : Int} (h : k = 0) : FLL R I' I r0 r1 k := fun j hj _ => by omega
theorem FLL.at {T : Nat → Nat} {R : RT} {I I1 I2 : IT} {L1 L2 : LT} {W : List (Nat × Nat)} {S : Nat → Prop} {r0 r1 : Nat} {k : Int} (h : FLL R I1 I r0 r1 k) (c : Chg S T W I1 L1 I2 L2) (hS : ∀ j, j < 16 → ¬ S (FA R r0 j) ∧ ¬ S (rA R (FA R r0 j) 1)) : FLL R I2 I r0 r1 k := fun j hj h9 => (FEQ.rf.l (Chg.at c (hS j h9).1) (Chg.at c (hS j h9).2)).tr (h j hj h9)
def TLL (R : RT) (I' I : IT) (r0 r1 : Nat) (k : Int) : Prop := ∀ j : Nat, (j : Int) < k → j < 8 → ∀ i, i < 4 → I' (TA R r0 j) i = I (TA R r1 j) i
theorem TLL.z {R : RT} {I' I : IT} {r0 r1 : Nat} {k : Int} (h : k = 0) : TLL R I' I r0 r1 k := fun j hj _ => by omega
theorem TLL.at {T : Nat → Nat} {R : RT} {I I1 I2 : IT} {L1 L2 : LT} {W : List (Nat × Nat)} {S : Nat → Prop} {r0 r1 : Nat} {k : Int} (h : TLL R I1 I r0 r1 k) (c : Chg S T W I1 L1 I2 L2) (hS : ∀ j, j < 8 → ¬ S (TA R r0 j)) : TLL R I2 I r0 r1 k := fun j hj h9 i hi => (congrFun (Chg.at c (hS j h9)) i).trans (h j hj h9 i hi)
theorem FLL.s {T : Nat → Nat} {R : RT} {I I1 I2 : IT} {L L1 L2 : LT} {W W1 : List (Nat × Nat)} {r0 r1 f f' fb : Nat} {k k' : Int32} (h : FLL R I1 I r0 r1 k.toInt) (hU : UPR T R) (hG : GS T R r0) (hG1 : GS T R r1) (hg : GG T R r0) (hn : r0 ≠ r1) (F : Chg (OWN R r0) T W1 I L I1 L1) (hf : FA R r0 k.toNatClampNeg = f) (hf' : FA R r1 k.toNatClampNeg = f') (hfb : rA R f 1 = fb) (e : FEQ R I2 f I1 f') (S : Chg (SL [f, fb]) T W I1 L1 I2 L2) (h0 : 0 ≤ k.toInt) (h16 : k.toInt < 16) (hk : k'.toInt = k.toInt + 1) : FLL R I2 I r0 r1 k'.toInt := by
  have n0 := ncz h0
  have hF := hG.2.2.2.2.2.2.1
  have hF1 := hG1.2.2.2.2.2.2.1
  subst hf; subst hf'; subst hfb
  intro j hj h9
  by_cases q : j = k.toNatClampNeg
  · subst q
    have o := hF1 k.toNatClampNeg (by omega)
    have n7 := GS.r87 hU hG hG1
    have n8 := GS.r8 hU hG hG1 (Ne.symm hn)
    exact e.tr (FEQ.rf.l (Chg.at F (OWN.nf hU hG hg o.2.1 o.1 n7 n8)) (Chg.at F (OWN.nb hU hG hg o.2 o.1 n7 n8)))
  · have a := hF j h9
    have b := hF k.toNatClampNeg (by omega)
    have n1 : FA R r0 j ≠ FA R r0 k.toNatClampNeg := hU.ne (Or.inl a.2.1) a.1 b.1 (Or.inr q)
    have n2 : FA R r0 j ≠ rA R (FA R r0 k.toNatClampNeg) 1 := fun e => by have := a.2.1; rw [e] at this; have := b.2.2.2; omega
    have n3 : rA R (FA R r0 j) 1 ≠ FA R r0 k.toNatClampNeg := fun e => by have := a.2.2.2; rw [e] at this; have := b.2.1; omega
    have n4 : rA R (FA R r0 j) 1 ≠ rA R (FA R r0 k.toNatClampNeg) 1 := hU.ne (t20 a.2.2.2) a.2.2.1 b.2.2.1 (Or.inl n1)
    exact (FEQ.rf.l (Chg.at S (nm_2 n1 n2)) (Chg.at S (nm_2 n3 n4))).tr (h j (by omega) h9)
theorem TLL.s {T : Nat → Nat} {R : RT} {I I1 I2 : IT} {L L1 L2 : LT} {W W1 : List (Nat × Nat)} {r0 r1 t t' : Nat} {k k' x0 x1 x2 x3 : Int32} (h : TLL R I1 I r0 r1 k.toInt) (hU : UPR T R) (hG : GS T R r0) (hG1 : GS T R r1) (hg : GG T R r0) (hn : r0 ≠ r1) (F : Chg (OWN R r0) T W1 I L I1 L1) (ht : TA R r0 k.toNatClampNeg = t) (ht' : TA R r1 k.toNatClampNeg = t') (a0 : I2 t 0 = x0) (a1 : I2 t 1 = x1) (a2 : I2 t 2 = x2) (a3 : I2 t 3 = x3) (b0 : I1 t' 0 = x0) (b1 : I1 t' 1 = x1) (b2 : I1 t' 2 = x2) (b3 : I1 t' 3 = x3) (S : Chg (SL [t]) T W I1 L1 I2 L2) (h0 : 0 ≤ k.toInt) (h16 : k.toInt < 8) (hk : k'.toInt = k.toInt + 1) : TLL R I2 I r0 r1 k'.toInt := by
  have n0 := ncz h0
  have hT := hG.2.2.2.2.2.2.2
  have hT1 := hG1.2.2.2.2.2.2.2
  subst ht; subst ht'
  intro j hj h9 i hi
  by_cases q : j = k.toNatClampNeg
  · subst q
    have o := hT1 k.toNatClampNeg (by omega)
    rw [← Chg.at F (OWN.nt hU hG hg o.2 o.1 (GS.r9 hU hG hG1 (Ne.symm hn)))]
    match i, hi with
    | 0, _ => rw [a0, b0]
    | 1, _ => rw [a1, b1]
    | 2, _ => rw [a2, b2]
    | 3, _ => rw [a3, b3]
  · have a := hT j h9
    have b := hT k.toNatClampNeg (by omega)
    have n1 : TA R r0 j ≠ TA R r0 k.toNatClampNeg := hU.ne (Or.inr (Or.inr (Or.inl a.2))) a.1 b.1 (Or.inr q)
    exact (congrFun (Chg.at S (nm_1 n1)) i).trans (h j (by omega) h9 i hi)
/-- a form of the state's row is no act's cell -/
theorem nWf {T : Nat → Nat} {R : RT} {st j f fb : Nat} (hU : UPR T R) (hG : GS T R st) (h : FA R st j = f) (hj : j < 16) (z : rA R f 1 = fb) : ∀ a, SL [f, fb] a → ¬ WSX R st a := by
  subst h; subst z
  have o := hG.2.2.2.2.2.2.1 j hj
  exact sl_2 (B := fun a => ¬ WSX R st a) (WSX.nf hU hG o.2.1 o.1 (GS.r87 hU hG hG)) (WSX.nb hU hG o.2 o.1 (GS.r87 hU hG hG))
theorem nWt {T : Nat → Nat} {R : RT} {st t : Nat} (hG : GS T R st) (ht : T t = 10) : ∀ a, SL [t] a → ¬ WSX R st a := by
  refine sl_1 (B := fun a => ¬ WSX R st a) ?_
  rintro (e | e | ⟨j, hj, e | e⟩)
  · have := hG.1; rw [← e] at this; omega
  · have := hG.2.1.2; rw [← e] at this; omega
  · have := (hG.2.2.2.2.2.1 j hj).2.1; rw [← e] at this; omega
  · have := (hG.2.2.2.2.2.1 j hj).2.2.2; rw [← e] at this; omega
theorem nFt {T : Nat → Nat} {R : RT} {st t : Nat} (hG : GS T R st) (ht : T t = 10) : ∀ j, j < 16 → ¬ SL [t] (FA R st j) ∧ ¬ SL [t] (rA R (FA R st j) 1) := fun j hj => by
  have o := hG.2.2.2.2.2.2.1 j hj
  exact ⟨nm_1 (fun e => by have := o.2.1; rw [e] at this; omega), nm_1 (fun e => by have := o.2.2.2; rw [e] at this; omega)⟩
theorem nWs {T : Nat → Nat} {R : RT} {st s a b j : Nat} (hU : UPR T R) (hG : GS T R st) (hg : GG T R st) (h : SA R st j = s) (hj : j < 8) (z : rA R s 0 = a) (z1 : rA R s 1 = b) : ∀ x, SL [s, a, b] x → ¬ WSX R st x := by
  subst h; subst z; subst z1
  obtain ⟨o1, o2, ⟨o3, o4⟩, o5, o6⟩ := hg.2.2 j hj
  have hw := hG.2.1
  have ho := hG.2.2.2.2.2.1
  have gen : ∀ c k, T c = 20 → R (SA R st j) k = some c → ¬ WSX R st c := fun c k hc hR => by
    rintro (e | e | ⟨i, hi, e | e⟩)
    · have := hG.1; rw [← e] at this; omega
    · exact hU.ne (t20 hc) hR hw.1 (Or.inl (fun q => by have := hG.1; rw [← q] at this; omega)) e
    · have := (ho i hi).2.1; rw [← e] at this; omega
    · exact hU.ne (t20 hc) hR (ho i hi).2.2.1 (Or.inl (fun q => by have := (ho i hi).2.1; rw [← q] at this; omega)) e
  refine sl_3 (B := fun a => ¬ WSX R st a) ?_ (gen _ _ o4 o3) (gen _ _ o6 o5)
  rintro (e | e | ⟨i, hi, e | e⟩)
  · have := hG.1; rw [← e] at this; omega
  · have := hw.2; rw [← e] at this; omega
  · have := (ho i hi).2.1; rw [← e] at this; omega
  · have := (ho i hi).2.2.2; rw [← e] at this; omega
theorem nFs {T : Nat → Nat} {R : RT} {st s a b j : Nat} (hU : UPR T R) (hG : GS T R st) (hg : GG T R st) (h : SA R st j = s) (hj : j < 8) (z : rA R s 0 = a) (z1 : rA R s 1 = b) : ∀ i, i < 16 → ¬ SL [s, a, b] (FA R st i) ∧ ¬ SL [s, a, b] (rA R (FA R st i) 1) := fun i hi => by
  subst h; subst z; subst z1
  obtain ⟨o1, o2, ⟨o3, o4⟩, o5, o6⟩ := hg.2.2 j hj
  have f := hG.2.2.2.2.2.2.1 i hi
  have k : ∀ c, T c = 20 → FA R st i ≠ c := fun c hc e => by have := f.2.1; rw [e] at this; omega
  refine ⟨nm_3 (fun e => by have := f.2.1; rw [e] at this; omega) (k _ o4) (k _ o6), nm_3 (fun e => by have := f.2.2.2; rw [e] at this; omega) (hU.ne (t20 f.2.2.2) f.2.2.1 o3 (Or.inl (fun e => by have := f.2.1; rw [e] at this; omega))) (hU.ne (t20 f.2.2.2) f.2.2.1 o5 (Or.inl (fun e => by have := f.2.1; rw [e] at this; omega)))⟩
theorem nTs {T : Nat → Nat} {R : RT} {st s a b j : Nat} (hG : GS T R st) (hg : GG T R st) (h : SA R st j = s) (hj : j < 8) (z : rA R s 0 = a) (z1 : rA R s 1 = b) : ∀ i, i < 8 → ¬ SL [s, a, b] (TA R st i) := fun i hi => by
  subst h; subst z; subst z1
  obtain ⟨o1, o2, ⟨o3, o4⟩, o5, o6⟩ := hg.2.2 j hj
  have f := hG.2.2.2.2.2.2.2 i hi
  exact nm_3 (fun e => by have := f.2; rw [e] at this; omega) (fun e => by have := f.2; rw [e] at this; omega) (fun e => by have := f.2; rw [e] at this; omega)
theorem ffne {T : Nat → Nat} {R : RT} {r0 r1 o o' j : Nat} (hU : UPR T R) (hG : GS T R r0) (hG1 : GS T R r1) (hn : r0 ≠ r1) (h : FA R r0 j = o) (h' : FA R r1 j = o') (hj : j < 16) : o ≠ o' := by
  subst h; subst h'
  obtain ⟨R1, F1⟩ := hG.2.2.2.2.2.2.1 j hj
  exact hU.ne (Or.inl F1.1) R1 (hG1.2.2.2.2.2.2.1 j hj).1 (Or.inl (GS.r8 hU hG1 hG hn))
theorem s_X9_set_x {d : Nat} {T N : Nat → Nat} {I : IT} {L : LT} {R : RT} {A B : Nat → Prop} {r0 : Nat} {n1 n2 n3 n4 : Int32} (hS : SUB B A) (hI : IX A T I) (H_r0 : (hs_Tb T N R A B) r0) : Ex (d + 1) 7 [.ref r0, .int n1, .int n2, .int n3, .int n4] (T, N, I, L, R) 0 0 (pV T N R (fun I9 L9 => (I9 r0 0 = n1) ∧ (I9 r0 1 = n2) ∧ (I9 r0 2 = n3) ∧ (I9 r0 3 = n4) ∧ (IX A T I9 ∧ Chg (SL [r0]) T [(10, 0), (10, 1), (10, 2), (10, 3)] I L I9 L9))) := by
  refine ⟨_, rfl, Nat.le_of_ble_eq_true rfl, fun V C S => ?_⟩
  show V 0 [(0, .ref r0), (1, .int n1), (2, .int n2), (3, .int n3), (4, .int n4)] [] (T, N, I, L, R) 0 0
  have gn1 := rg n1
  have gn2 := rg n2
  have gn3 := rg n3
  have gn4 := rg n4
  obtain ⟨T_r0, A_r0, B_r0⟩ := id H_r0
  refine k_aload_n C rfl rfl rfl ?_
  refine k_iload_n C rfl rfl rfl ?_
  refine z_pI C rfl rfl rfl T_r0 (Or.inr rfl) rfl (fun I1 uI1 => ?_)
  have hI1 : IX A T I1 := IX.f hI T_r0 (boX.tr (by decide) (by decide)) uI1
  have S2 : Chg (SL [r0]) T [(10, 0)] I L I1 L := Chg.f List.mem_cons_self T_r0 uI1
  have e3 := u2_e uI1
  refine k_aload_n C rfl rfl rfl ?_
  refine k_iload_n C rfl rfl rfl ?_
  refine z_pI C rfl rfl rfl T_r0 (Or.inr rfl) rfl (fun I4 uI4 => ?_)
  have hI4 : IX A T I4 := IX.f hI1 T_r0 (boX.tr (by decide) (by decide)) uI4
  have S5 : Chg (SL [r0]) T [(10, 1)] I1 L I4 L := Chg.f List.mem_cons_self T_r0 uI4
  have e6 := u2_j uI4 (by decide) e3
  have e7 := u2_e uI4
  refine k_aload_n C rfl rfl rfl ?_
  refine k_iload_n C rfl rfl rfl ?_
  refine z_pI C rfl rfl rfl T_r0 (Or.inr rfl) rfl (fun I8 uI8 => ?_)
  have hI8 : IX A T I8 := IX.f hI4 T_r0 (boX.tr (by decide) (by decide)) uI8
  have S9 : Chg (SL [r0]) T [(10, 2)] I4 L I8 L := Chg.f List.mem_cons_self T_r0 uI8
  have e10 := u2_j uI8 (by decide) e6
  have e11 := u2_j uI8 (by decide) e7
  have e12 := u2_e uI8
  refine k_aload_n C rfl rfl rfl ?_
  refine k_iload C rfl rfl rfl ?_
  refine z_pI C rfl rfl rfl T_r0 (Or.inr rfl) rfl (fun I13 uI13 => ?_)
  have hI13 : IX A T I13 := IX.f hI8 T_r0 (boX.tr (by decide) (by decide)) uI13
  have S14 : Chg (SL [r0]) T [(10, 3)] I8 L I13 L := Chg.f List.mem_cons_self T_r0 uI13
  have e15 := u2_j uI13 (by decide) e10
  have e16 := u2_j uI13 (by decide) e11
  have e17 := u2_j uI13 (by decide) e12
  have e18 := u2_e uI13
  exact k_vret C rfl rfl (Nat.le_of_ble_eq_true rfl) (Nat.le_of_ble_eq_true rfl) ⟨_, _, rfl, rfl, by (try simp only []); exact e15, by (try simp only []); exact e16, by (try simp only []); exact e17, by (try simp only []); exact e18, hI13, (Chg.cons (Chg.up S2 (List.forall_mem_cons.mpr ⟨List.mem_of_getElem? (i := 0) rfl, fun _ h => nomatch h⟩)) (Chg.cons (Chg.up S5 (List.forall_mem_cons.mpr ⟨List.mem_of_getElem? (i := 0) rfl, fun _ h => nomatch h⟩)) (Chg.cons (Chg.up S9 (List.forall_mem_cons.mpr ⟨List.mem_of_getElem? (i := 0) rfl, fun _ h => nomatch h⟩)) (Chg.mono (Chg.up S14 (List.forall_mem_cons.mpr ⟨List.mem_of_getElem? (i := 0) rfl, fun _ h => nomatch h⟩)) (by decide)) (by decide)) (by decide)) (by decide))⟩

theorem s_X0_fill_x {d : Nat} {T N : Nat → Nat} {I : IT} {L : LT} {R : RT} {A B : Nat → Prop} {r0 r1 : Nat} {n2 n3 n4 n5 : Int32} (hS : SUB B A) (hI : IX A T I) (H_r0 : (hs_Al T N R A B) r0) (H_r1 : (hs_Tb T N R A B) r1) : Ex (d + 2) 8 [.ref r0, .ref r1, .int n2, .int n3, .int n4, .int n5] (T, N, I, L, R) 0 0 (pV T N R (fun I9 L9 => ((I9 r1 0).toInt = n2.toInt % (I (rA R r0 0) 0).toInt) ∧ ((I9 r1 1).toInt = n3.toInt % (I (rA R r0 0) 0).toInt) ∧ ((I9 r1 2).toInt = n4.toInt % (I (rA R r0 0) 0).toInt) ∧ ((I9 r1 3).toInt = n5.toInt % (I (rA R r0 0) 0).toInt) ∧ (IX A T I9 ∧ Chg (SL [r1]) T [(10, 0), (10, 1), (10, 2), (10, 3)] I L I9 L9))) := by
  refine ⟨_, rfl, Nat.le_of_ble_eq_true rfl, fun V C S => ?_⟩
  show V 0 [(0, .ref r0), (1, .ref r1), (2, .int n2), (3, .int n3), (4, .int n4), (5, .int n5)] [] (T, N, I, L, R) 0 0
  have gn2 := rg n2
  have gn3 := rg n3
  have gn4 := rg n4
  have gn5 := rg n5
  obtain ⟨T_r0, A_r0, B_r0, ⟨r0_0, R_r0_0, H_r0_0⟩, ⟨r0_1, R_r0_1, H_r0_1⟩, ⟨r0_2, R_r0_2, H_r0_2⟩⟩ := id H_r0
  have z_r0_0 : rA R r0 0 = r0_0 := rA_e R_r0_0
  have z_r0_1 : rA R r0 1 = r0_1 := rA_e R_r0_1
  have z_r0_2 : rA R r0 2 = r0_2 := rA_e R_r0_2
  obtain ⟨T_r1, A_r1, B_r1⟩ := id H_r1
  obtain ⟨T_r0_0, A_r0_0, B_r0_0, ⟨r0_0_6, R_r0_0_6, H_r0_0_6⟩, ⟨r0_0_7, R_r0_0_7, H_r0_0_7⟩, ⟨r0_0_8, R_r0_0_8, H_r0_0_8⟩, ⟨r0_0_9, R_r0_0_9, H_r0_0_9⟩, ⟨r0_0_10, R_r0_0_10, H_r0_0_10⟩⟩ := id H_r0_0
  have z_r0_0_6 : rA R r0_0 6 = r0_0_6 := rA_e R_r0_0_6
  have z_r0_0_7 : rA R r0_0 7 = r0_0_7 := rA_e R_r0_0_7
  have z_r0_0_8 : rA R r0_0 8 = r0_0_8 := rA_e R_r0_0_8
  have z_r0_0_9 : rA R r0_0 9 = r0_0_9 := rA_e R_r0_0_9
  have z_r0_0_10 : rA R r0_0 10 = r0_0_10 := rA_e R_r0_0_10
  obtain ⟨w_r0_0_0, k0_r0_0_0⟩ : ∃ x, I r0_0 0 = x := ⟨_, rfl⟩
  have gw_r0_0_0 := rg w_r0_0_0
  have ow_r0_0_0 := IX.p hI A_r0_0 T_r0_0 k0_r0_0_0
  refine k_aload_n C rfl rfl rfl ?_
  refine k_aload_n C rfl rfl rfl ?_
  refine k_iload_n C rfl rfl rfl ?_
  refine z_i2l C rfl rfl (fun lg1 elg1 => ?_)
  have hl0 := elg1
  refine c_VI C (s_X0_of_x hS hI H_r0) rfl rfl rfl rfl rfl ⟨_, rfl, rfl, T_r0, Nat.le_of_ble_eq_true rfl⟩ rfl rfl (Nat.le_of_ble_eq_true rfl) (Nat.le_of_ble_eq_true rfl) (Nat.le_of_ble_eq_true rfl) ?_
  rintro x2 _ _ ⟨o0x2, o1x2, p0x2, p1x2, rfl, rfl⟩
  have gx2 := rg x2
  try simp only [z_r0_0, z_r0_1, z_r0_2, z_r0_0_6, z_r0_0_7, z_r0_0_8, z_r0_0_9, z_r0_0_10] at p0x2
  try simp only [z_r0_0, z_r0_1, z_r0_2, z_r0_0_6, z_r0_0_7, z_r0_0_8, z_r0_0_9, z_r0_0_10] at p1x2
  try simp only [k0_r0_0_0] at p0x2
  try have q0x2 := congrArg Int32.toInt p0x2
  try simp only [k0_r0_0_0] at p1x2
  try have q1x2 := congrArg Int32.toInt p1x2
  have hf0 := p0x2; (try simp only [k0_r0_0_0] at hf0)
  refine k_aload_n C rfl rfl rfl ?_
  refine k_iload_n C rfl rfl rfl ?_
  refine z_i2l C rfl rfl (fun lg3 elg3 => ?_)
  have hl1 := elg3
  refine c_VI C (s_X0_of_x hS hI H_r0) rfl rfl rfl rfl rfl ⟨_, rfl, rfl, T_r0, Nat.le_of_ble_eq_true rfl⟩ rfl rfl (Nat.le_of_ble_eq_true rfl) (Nat.le_of_ble_eq_true rfl) (Nat.le_of_ble_eq_true rfl) ?_
  rintro x4 _ _ ⟨o0x4, o1x4, p0x4, p1x4, rfl, rfl⟩
  have gx4 := rg x4
  try simp only [z_r0_0, z_r0_1, z_r0_2, z_r0_0_6, z_r0_0_7, z_r0_0_8, z_r0_0_9, z_r0_0_10] at p0x4
  try simp only [z_r0_0, z_r0_1, z_r0_2, z_r0_0_6, z_r0_0_7, z_r0_0_8, z_r0_0_9, z_r0_0_10] at p1x4
  try simp only [k0_r0_0_0] at p0x4
  try have q0x4 := congrArg Int32.toInt p0x4
  try simp only [k0_r0_0_0] at p1x4
  try have q1x4 := congrArg Int32.toInt p1x4
  have hf1 := p0x4; (try simp only [k0_r0_0_0] at hf1)
  refine k_aload_n C rfl rfl rfl ?_
  refine k_iload C rfl rfl rfl ?_
  refine z_i2l C rfl rfl (fun lg5 elg5 => ?_)
  have hl2 := elg5
  refine c_VI C (s_X0_of_x hS hI H_r0) rfl rfl rfl rfl rfl ⟨_, rfl, rfl, T_r0, Nat.le_of_ble_eq_true rfl⟩ rfl rfl (Nat.le_of_ble_eq_true rfl) (Nat.le_of_ble_eq_true rfl) (Nat.le_of_ble_eq_true rfl) ?_
  rintro x6 _ _ ⟨o0x6, o1x6, p0x6, p1x6, rfl, rfl⟩
  have gx6 := rg x6
  try simp only [z_r0_0, z_r0_1, z_r0_2, z_r0_0_6, z_r0_0_7, z_r0_0_8, z_r0_0_9, z_r0_0_10] at p0x6
  try simp only [z_r0_0, z_r0_1, z_r0_2, z_r0_0_6, z_r0_0_7, z_r0_0_8, z_r0_0_9, z_r0_0_10] at p1x6
  try simp only [k0_r0_0_0] at p0x6
  try have q0x6 := congrArg Int32.toInt p0x6
  try simp only [k0_r0_0_0] at p1x6
  try have q1x6 := congrArg Int32.toInt p1x6
  have hf2 := p0x6; (try simp only [k0_r0_0_0] at hf2)
  refine k_aload_n C rfl rfl rfl ?_
  refine k_iload C rfl rfl rfl ?_
  refine z_i2l C rfl rfl (fun lg7 elg7 => ?_)
  have hl3 := elg7
  refine c_VI C (s_X0_of_x hS hI H_r0) rfl rfl rfl rfl rfl ⟨_, rfl, rfl, T_r0, Nat.le_of_ble_eq_true rfl⟩ rfl rfl (Nat.le_of_ble_eq_true rfl) (Nat.le_of_ble_eq_true rfl) (Nat.le_of_ble_eq_true rfl) ?_
  rintro x8 _ _ ⟨o0x8, o1x8, p0x8, p1x8, rfl, rfl⟩
  have gx8 := rg x8
  try simp only [z_r0_0, z_r0_1, z_r0_2, z_r0_0_6, z_r0_0_7, z_r0_0_8, z_r0_0_9, z_r0_0_10] at p0x8
  try simp only [z_r0_0, z_r0_1, z_r0_2, z_r0_0_6, z_r0_0_7, z_r0_0_8, z_r0_0_9, z_r0_0_10] at p1x8
  try simp only [k0_r0_0_0] at p0x8
  try have q0x8 := congrArg Int32.toInt p0x8
  try simp only [k0_r0_0_0] at p1x8
  try have q1x8 := congrArg Int32.toInt p1x8
  have hf3 := p0x8; (try simp only [k0_r0_0_0] at hf3)
  refine c_VV C (s_X9_set_x hS hI H_r1) rfl rfl rfl rfl rfl ⟨_, rfl, rfl, T_r1, Nat.le_of_ble_eq_true rfl⟩ rfl rfl (Nat.le_of_ble_eq_true rfl) (Nat.le_of_ble_eq_true rfl) (Nat.le_of_ble_eq_true rfl) ?_
  rintro I10 L11 ⟨p0v9, p1v9, p2v9, p3v9, hI10, S12⟩
  try simp only [z_r0_0, z_r0_1, z_r0_2, z_r0_0_6, z_r0_0_7, z_r0_0_8, z_r0_0_9, z_r0_0_10] at S12
  have e13 := Chg.k S12 T_r0_0 (by decide) (by decide) k0_r0_0_0
  try simp only [z_r0_0, z_r0_1, z_r0_2, z_r0_0_6, z_r0_0_7, z_r0_0_8, z_r0_0_9, z_r0_0_10] at p0v9
  try simp only [z_r0_0, z_r0_1, z_r0_2, z_r0_0_6, z_r0_0_7, z_r0_0_8, z_r0_0_9, z_r0_0_10] at p1v9
  try simp only [z_r0_0, z_r0_1, z_r0_2, z_r0_0_6, z_r0_0_7, z_r0_0_8, z_r0_0_9, z_r0_0_10] at p2v9
  try simp only [z_r0_0, z_r0_1, z_r0_2, z_r0_0_6, z_r0_0_7, z_r0_0_8, z_r0_0_9, z_r0_0_10] at p3v9
  try simp only [k0_r0_0_0] at p0v9
  try have q0v9 := congrArg Int32.toInt p0v9
  try simp only [k0_r0_0_0] at p1v9
  try have q1v9 := congrArg Int32.toInt p1v9
  try simp only [k0_r0_0_0] at p2v9
  try have q2v9 := congrArg Int32.toInt p2v9
  try simp only [k0_r0_0_0] at p3v9
  try have q3v9 := congrArg Int32.toInt p3v9
  have hs0 := p0v9; have hs1 := p1v9; have hs2 := p2v9; have hs3 := p3v9
  exact k_vret C rfl rfl (Nat.le_of_ble_eq_true rfl) (Nat.le_of_ble_eq_true rfl) ⟨_, _, rfl, rfl, by (try simp only [z_r0_0, z_r0_1, z_r0_2, z_r0_0_6, z_r0_0_7, z_r0_0_8, z_r0_0_9, z_r0_0_10]); simp only [k0_r0_0_0]; rw [hs0, hf0, hl0], by (try simp only [z_r0_0, z_r0_1, z_r0_2, z_r0_0_6, z_r0_0_7, z_r0_0_8, z_r0_0_9, z_r0_0_10]); simp only [k0_r0_0_0]; rw [hs1, hf1, hl1], by (try simp only [z_r0_0, z_r0_1, z_r0_2, z_r0_0_6, z_r0_0_7, z_r0_0_8, z_r0_0_9, z_r0_0_10]); simp only [k0_r0_0_0]; rw [hs2, hf2, hl2], by (try simp only [z_r0_0, z_r0_1, z_r0_2, z_r0_0_6, z_r0_0_7, z_r0_0_8, z_r0_0_9, z_r0_0_10]); simp only [k0_r0_0_0]; rw [hs3, hf3, hl3], hI10, (by (try simp only [z_r0_0, z_r0_1, z_r0_2, z_r0_0_6, z_r0_0_7, z_r0_0_8, z_r0_0_9, z_r0_0_10]); exact (Chg.mono (Chg.up S12 (List.forall_mem_cons.mpr ⟨List.mem_of_getElem? (i := 0) rfl, fun _ h => nomatch h⟩)) (by decide)))⟩

theorem s_X8_signsAt_x {d : Nat} {T N : Nat → Nat} {I : IT} {L : LT} {R : RT} {A B : Nat → Prop} {r0 : Nat} {n1 : Int32} (hS : SUB B A) (hI : IX A T I) (H_r0 : (hs_St T N R A B) r0) : Ex (d + 1) 77 [.ref r0, .int n1] (T, N, I, L, R) 0 0 (pR T N R (fun x9 I9 L9 => (∀ b, x9 = some b → (hs_Sg T N R A B) b) ∧ (FAD R x9 (rA R r0 10) n1 (I r0 3).toInt 8) ∧ (I = I9 ∧ L = L9))) := by
  refine ⟨_, rfl, Nat.le_of_ble_eq_true rfl, fun V C S => ?_⟩
  show V 0 [(0, .ref r0), (1, .int n1)] [] (T, N, I, L, R) 0 0
  have gn1 := rg n1
  obtain ⟨T_r0, A_r0, B_r0, ⟨r0_6, R_r0_6, H_r0_6⟩, ⟨r0_7, R_r0_7, H_r0_7⟩, ⟨r0_8, R_r0_8, H_r0_8⟩, ⟨r0_9, R_r0_9, H_r0_9⟩, ⟨r0_10, R_r0_10, H_r0_10⟩⟩ := id H_r0
  have z_r0_6 : rA R r0 6 = r0_6 := rA_e R_r0_6
  have z_r0_7 : rA R r0 7 = r0_7 := rA_e R_r0_7
  have z_r0_8 : rA R r0 8 = r0_8 := rA_e R_r0_8
  have z_r0_9 : rA R r0 9 = r0_9 := rA_e R_r0_9
  have z_r0_10 : rA R r0 10 = r0_10 := rA_e R_r0_10
  obtain ⟨w_r0_3, k0_r0_3⟩ : ∃ x, I r0 3 = x := ⟨_, rfl⟩
  have gw_r0_3 := rg w_r0_3
  refine k_iload_n C rfl rfl rfl ?_
  refine b_if_lt C (t := 21) rfl rfl rfl (fun c1 => ?_) (fun c1 => ?_)
  · skip
    refine k_null C rfl rfl ?_
    refine k_goto C (pc2 := 31) rfl rfl ?_
    exact k_aret C (x := none) rfl (Or.inl ⟨_, rfl⟩) (Nat.le_of_ble_eq_true rfl) (Nat.le_of_ble_eq_true rfl) ⟨_, _, _, rfl, rfl, fz, by (try simp only [z_r0_6, z_r0_7, z_r0_8, z_r0_9, z_r0_10]); simp only [k0_r0_3]; first | exact FAD.r Q_none (by omega) (by omega) (by omega) | exact FAD.z (by omega), rfl, rfl⟩
  refine k_iload_n C rfl rfl rfl ?_
  refine k_aload_n C rfl rfl rfl ?_
  refine g_I C rfl rfl rfl T_r0 rfl k0_r0_3 ?_
  refine b_icmp_ge C (t := 21) rfl rfl rfl (fun c2 => ?_) (fun c2 => ?_)
  · skip
    refine k_null C rfl rfl ?_
    refine k_goto C (pc2 := 31) rfl rfl ?_
    exact k_aret C (x := none) rfl (Or.inl ⟨_, rfl⟩) (Nat.le_of_ble_eq_true rfl) (Nat.le_of_ble_eq_true rfl) ⟨_, _, _, rfl, rfl, fz, by (try simp only [z_r0_6, z_r0_7, z_r0_8, z_r0_9, z_r0_10]); simp only [k0_r0_3]; first | exact FAD.r Q_none (by omega) (by omega) (by omega) | exact FAD.z (by omega), rfl, rfl⟩
  refine k_iload_n C rfl rfl rfl ?_
  refine k_aload_n C rfl rfl rfl ?_
  refine g_R C rfl rfl rfl T_r0 rfl R_r0_10 ?_
  obtain ⟨T_r0_10, N_r0_10, A_r0_10, E_r0_10⟩ := id H_r0_10
  refine z_len C (n := 8) rfl rfl (by rw [T_r0_10]; exact Nat.le_of_ble_eq_true rfl) N_r0_10 (Nat.le_of_ble_eq_true rfl) (fun x3 ex3 => ?_)
  refine b_icmp_lt C (t := 25) rfl rfl rfl (fun c4 => ?_) (fun c4 => ?_)
  · skip
    refine k_aload_n C rfl rfl rfl ?_
    refine g_R C rfl rfl rfl T_r0 rfl R_r0_10 ?_
    refine k_iload_n C rfl rfl rfl ?_
    refine z_aRe C (t := 2) rfl rfl (Nat.le_of_ble_eq_true rfl) T_r0_10 N_r0_10 E_r0_10 (by omega) (by omega) (fun rr5 Q_rr5 H_rr5 => ?_)
    exact k_aret C (x := some _) rfl (Or.inl ⟨_, rfl⟩) (Nat.le_of_ble_eq_true rfl) (Nat.le_of_ble_eq_true rfl) ⟨_, _, _, rfl, rfl, fb H_rr5, by (try simp only [z_r0_6, z_r0_7, z_r0_8, z_r0_9, z_r0_10]); simp only [k0_r0_3]; first | exact FAD.r Q_rr5 (by omega) (by omega) (by omega) | exact FAD.z (by omega), rfl, rfl⟩
  refine k_null C rfl rfl ?_
  refine k_goto C (pc2 := 31) rfl rfl ?_
  exact k_aret C (x := none) rfl (Or.inl ⟨_, rfl⟩) (Nat.le_of_ble_eq_true rfl) (Nat.le_of_ble_eq_true rfl) ⟨_, _, _, rfl, rfl, fz, by (try simp only [z_r0_6, z_r0_7, z_r0_8, z_r0_9, z_r0_10]); simp only [k0_r0_3]; first | exact FAD.r Q_none (by omega) (by omega) (by omega) | exact FAD.z (by omega), rfl, rfl⟩

