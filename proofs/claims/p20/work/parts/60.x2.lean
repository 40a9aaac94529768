/-! the states, exactly -/
def UPR (T : Nat → Nat) (R : RT) : Prop := ∀ a k a' k' b, (T b = 3 ∨ T b = 8 ∨ T b = 10 ∨ 20 ≤ T b) → R a k = some b → R a' k' = some b → a = a' ∧ k = k'
theorem UPR.ne {T : Nat → Nat} {R : RT} (h : UPR T R) {a k a' k' b b' : Nat} (ht : T b = 3 ∨ T b = 8 ∨ T b = 10 ∨ 20 ≤ T b) (e : R a k = some b) (e' : R a' k' = some b') (n : a ≠ a' ∨ k ≠ k') : b ≠ b' := by
  rintro rfl
  obtain ⟨h1, h2⟩ := h a k a' k' b ht e e'
  rcases n with n | n
  · exact n h1
  · exact n h2
def WH (R : RT) (st : Nat) : Nat := rA R st 6
def OA (R : RT) (st j : Nat) : Nat := rA R (rA R st 7) j
def FA (R : RT) (st j : Nat) : Nat := rA R (rA R st 8) j
def TA (R : RT) (st j : Nat) : Nat := rA R (rA R st 9) j
def FO (T : Nat → Nat) (R : RT) (f : Nat) : Prop := T f = 3 ∧ R f 1 = some (rA R f 1) ∧ T (rA R f 1) = 20
theorem FO.of {T N : Nat → Nat} {R : RT} {A B : Nat → Prop} {f : Nat} (h : hs_F T N R A B f) : FO T R f := by
  obtain ⟨h1, -, b, h2, h3, -, -⟩ := h
  exact ⟨h1, by rw [rA_e h2]; exact h2, by rw [rA_e h2]; exact h3⟩
def GS (T : Nat → Nat) (R : RT) (st : Nat) : Prop := T st = 9 ∧ (R st 6 = some (WH R st) ∧ T (WH R st) = 20) ∧ (R st 7 = some (rA R st 7) ∧ T (rA R st 7) = 23) ∧ (R st 8 = some (rA R st 8) ∧ T (rA R st 8) = 23) ∧ (R st 9 = some (rA R st 9) ∧ T (rA R st 9) = 24) ∧ (∀ j, j < 40 → R (rA R st 7) j = some (OA R st j) ∧ FO T R (OA R st j)) ∧ (∀ j, j < 16 → R (rA R st 8) j = some (FA R st j) ∧ FO T R (FA R st j)) ∧ (∀ j, j < 8 → R (rA R st 9) j = some (TA R st j) ∧ T (TA R st j) = 10)
theorem GS.of {T N : Nat → Nat} {R : RT} {A B : Nat → Prop} {st : Nat} (h : hs_St T N R A B st) : GS T R st := by
  obtain ⟨h1, -, -, ⟨wh, R6, T6, -, -⟩, ⟨ot, R7, T7, -, -, E7⟩, ⟨ft, R8, T8, -, -, E8⟩, ⟨tt, R9, T9, -, -, E9⟩, -⟩ := h
  have z6 : WH R st = wh := rA_e R6
  have z7 := rA_e R7
  have z8 := rA_e R8
  have z9 := rA_e R9
  refine ⟨h1, ⟨by rw [z6]; exact R6, by rw [z6]; exact T6⟩, ⟨by rw [z7]; exact R7, by rw [z7]; exact T7⟩, ⟨by rw [z8]; exact R8, by rw [z8]; exact T8⟩, ⟨by rw [z9]; exact R9, by rw [z9]; exact T9⟩, fun j hj => ?_, fun j hj => ?_, fun j hj => ?_⟩
  · obtain ⟨f, f1, f2⟩ := E7 j hj
    unfold OA
    rw [z7, rA_e f1]; exact ⟨f1, FO.of f2⟩
  · obtain ⟨f, f1, f2⟩ := E8 j hj
    unfold FA
    rw [z8, rA_e f1]; exact ⟨f1, FO.of f2⟩
  · obtain ⟨f, f1, f2⟩ := E9 j hj
    unfold TA
    rw [z9, rA_e f1]; exact ⟨f1, f2.1⟩
def AEQ (R : RT) (I' : IT) (st' k' : Nat) (I : IT) (st k : Nat) : Prop := I' (WH R st') k' = I (WH R st) k ∧ FEQ R I' (OA R st' k') I (OA R st k)
theorem AEQ.rf {R : RT} {I : IT} {st k : Nat} : AEQ R I st k I st k := ⟨rfl, FEQ.rf⟩
theorem AEQ.tr {R : RT} {I1 I2 I3 : IT} {s1 k1 s2 k2 s3 k3 : Nat} (h : AEQ R I1 s1 k1 I2 s2 k2) (g : AEQ R I2 s2 k2 I3 s3 k3) : AEQ R I1 s1 k1 I3 s3 k3 := ⟨h.1.trans g.1, h.2.tr g.2⟩
theorem AEQ.put {T : Nat → Nat} {R : RT} {I I' : IT} {st st' f k : Nat} {x : Int32} (hG : GS T R st) (hT : T st' = 9) (e : I' = u2 I st' f x) (hk : k < 40) : AEQ R I' st k I st k := by
  obtain ⟨Tst, ⟨R6, T6⟩, -, -, -, hO, -, -⟩ := hG
  obtain ⟨Rj, Tj, Rjb, Tjb⟩ := hO k hk
  subst e
  exact ⟨congrFun (u2_r (fun e => by rw [e] at T6; omega)) k, FEQ.rf.l (u2_r (fun e => by rw [e] at Tj; omega)) (u2_r (fun e => by rw [e] at Tjb; omega))⟩
/-- what an act's cells may be changed by: nothing of a list that is apart -/
theorem AEQ.at {T : Nat → Nat} {R : RT} {I I' : IT} {L L' : LT} {W : List (Nat × Nat)} {S : Nat → Prop} {st k : Nat} (h : Chg S T W I L I' L') (h1 : ¬ S (WH R st)) (h2 : ¬ S (OA R st k)) (h3 : ¬ S (rA R (OA R st k) 1)) : AEQ R I' st k I st k := ⟨congrFun (Chg.at h h1) k, FEQ.rf.l (Chg.at h h2) (Chg.at h h3)⟩
theorem ACT1 {T : Nat → Nat} {R : RT} {I I1 I2 : IT} {L L2 : LT} {W : List (Nat × Nat)} {st src : Nat} {v : Int32} (hU : UPR T R) (hG : GS T R st) {d : Nat} (hd : d < 40) (hput : I1 = u2 I (WH R st) d v) (hf : FEQ R I2 (OA R st d) I1 src) (S : Chg (SL [OA R st d, rA R (OA R st d) 1]) T W I1 L I2 L2) (hs : FO T R src) : I2 (WH R st) d = v ∧ FEQ R I2 (OA R st d) I src ∧ ∀ j, j < 40 → j ≠ d → AEQ R I2 st j I st j := by
  obtain ⟨Tst, ⟨R6, T6⟩, -, -, -, hO, -, -⟩ := hG
  obtain ⟨Rd, To, Rob, Tob⟩ := hO d hd
  have w1 : WH R st ≠ OA R st d := fun e => by rw [e] at T6; omega
  have w2 : WH R st ≠ rA R (OA R st d) 1 := hU.ne (Or.inr (Or.inr (Or.inr (by omega)))) R6 Rob (Or.inl (fun e => by rw [e] at Tst; omega))
  have ew : I2 (WH R st) = I1 (WH R st) := Chg.at S (nm_2 w1 w2)
  obtain ⟨Ts, Rs, Tsb⟩ := hs
  have e1 : I1 src = I src := by rw [hput]; exact u2_r (fun e => by rw [e] at Ts; omega)
  have e2 : I1 (rA R src 1) = I (rA R src 1) := by rw [hput]; exact u2_r (hU.ne (Or.inr (Or.inr (Or.inr (by omega)))) Rs R6 (Or.inl (fun e => by rw [e] at Ts; omega)))
  refine ⟨by rw [ew, hput]; exact u2_s, hf.r e1.symm e2.symm, fun j hj hn => ⟨?_, ?_⟩⟩
  · rw [ew, hput]; exact u2_k hn
  · obtain ⟨Rj, Tj, Rjb, Tjb⟩ := hO j hj
    have o1 : OA R st j ≠ OA R st d := hU.ne (Or.inl Tj) Rj Rd (Or.inr hn)
    have o2 : OA R st j ≠ rA R (OA R st d) 1 := fun e => by rw [e] at Tj; omega
    have b1 : rA R (OA R st j) 1 ≠ OA R st d := fun e => by rw [e] at Tjb; omega
    have b2 : rA R (OA R st j) 1 ≠ rA R (OA R st d) 1 := hU.ne (Or.inr (Or.inr (Or.inr (by omega)))) Rjb Rob (Or.inl o1)
    have c1 : I2 (OA R st j) = I (OA R st j) := (Chg.at S (nm_2 o1 o2)).trans (by rw [hput]; exact u2_r (fun e => by rw [e] at Tj; omega))
    have c2 : I2 (rA R (OA R st j) 1) = I (rA R (OA R st j) 1) := (Chg.at S (nm_2 b1 b2)).trans (by rw [hput]; exact u2_r (hU.ne (Or.inr (Or.inr (Or.inr (by omega)))) Rjb R6 (Or.inl (fun e => by rw [e] at Tj; omega))))
    exact FEQ.rf.l c1 c2
/-- the cells of a state's acts -/
def WSX (R : RT) (st a : Nat) : Prop := a = st ∨ a = WH R st ∨ ∃ j, j < 40 ∧ (a = OA R st j ∨ a = rA R (OA R st j) 1)
theorem OA_e {R : RT} {st ot o j : Nat} (z : rA R st 7 = ot) (h : R ot j = some o) : OA R st j = o := by unfold OA; rw [z]; exact rA_e h
theorem FA_e {R : RT} {st ot o j : Nat} (z : rA R st 8 = ot) (h : R ot j = some o) : FA R st j = o := by unfold FA; rw [z]; exact rA_e h
theorem TA_e {R : RT} {st ot o j : Nat} (z : rA R st 9 = ot) (h : R ot j = some o) : TA R st j = o := by unfold TA; rw [z]; exact rA_e h
theorem WSX.o {R : RT} {st o j : Nat} (h : OA R st j = o) (hj : j < 40) : WSX R st o := Or.inr (Or.inr ⟨j, hj, Or.inl h.symm⟩)
theorem WSX.a {R : RT} {st o b j : Nat} (h : OA R st j = o) (z : rA R o 1 = b) (hj : j < 40) : WSX R st b := Or.inr (Or.inr ⟨j, hj, Or.inr (by rw [h]; exact z.symm)⟩)
theorem WSX.w {R : RT} {st w : Nat} (z : rA R st 6 = w) : WSX R st w := Or.inr (Or.inl z.symm)
/-- not among them: a form's address that is held elsewhere, its numbers -/
theorem WSX.nf {T : Nat → Nat} {R : RT} {st f a k : Nat} (hU : UPR T R) (hG : GS T R st) (hf : T f = 3) (hR : R a k = some f) (hn : a ≠ rA R st 7) : ¬ WSX R st f := by
  obtain ⟨Tst, ⟨R6, T6⟩, -, -, -, hO, -, -⟩ := hG
  rintro (e | e | ⟨j, hj, e | e⟩)
  · rw [e] at hf; omega
  · rw [e] at hf; omega
  · exact hU.ne (Or.inl hf) hR (hO j hj).1 (Or.inl hn) e
  · have := (hO j hj).2.2.2; rw [← e] at this; omega
theorem WSX.nb {T : Nat → Nat} {R : RT} {st f a k : Nat} (hU : UPR T R) (hG : GS T R st) (hf : FO T R f) (hR : R a k = some f) (hn : a ≠ rA R st 7) : ¬ WSX R st (rA R f 1) := by
  obtain ⟨Tf, Rf, Tb⟩ := hf
  have h0 := WSX.nf hU hG Tf hR hn
  obtain ⟨Tst, ⟨R6, T6⟩, -, -, -, hO, -, -⟩ := hG
  rintro (e | e | ⟨j, hj, e | e⟩)
  · rw [e] at Tb; omega
  · exact hU.ne (Or.inr (Or.inr (Or.inr (by omega)))) Rf R6 (Or.inl (fun q => by rw [q] at Tf; omega)) e
  · have := (hO j hj).2.1; rw [← e] at this; omega
  · exact hU.ne (Or.inr (Or.inr (Or.inr (by omega)))) Rf (hO j hj).2.2.1 (Or.inl (fun q => h0 (Or.inr (Or.inr ⟨j, hj, Or.inl q⟩)))) e
theorem GS.r7 {T : Nat → Nat} {R : RT} {st st' : Nat} (hU : UPR T R) (hG : GS T R st) (hG' : GS T R st') (hn : st' ≠ st) : rA R st' 7 ≠ rA R st 7 := hU.ne (Or.inr (Or.inr (Or.inr (by have := hG'.2.2.1.2; omega)))) hG'.2.2.1.1 hG.2.2.1.1 (Or.inl hn)
theorem WSX.nw {T : Nat → Nat} {R : RT} {st st' : Nat} (hU : UPR T R) (hG : GS T R st) (hG' : GS T R st') (hn : st' ≠ st) : ¬ WSX R st (WH R st') := by
  obtain ⟨Tst, ⟨R6, T6⟩, -, -, -, hO, -, -⟩ := hG
  obtain ⟨Tst', ⟨R6', T6'⟩, -⟩ := hG'
  rintro (e | e | ⟨j, hj, e | e⟩)
  · rw [e] at T6'; omega
  · exact hU.ne (Or.inr (Or.inr (Or.inr (by omega)))) R6' R6 (Or.inl hn) e
  · have := (hO j hj).2.1; rw [← e] at this; omega
  · exact hU.ne (Or.inr (Or.inr (Or.inr (by omega)))) R6' (hO j hj).2.2.1 (Or.inl (fun q => by have := (hO j hj).2.1; rw [← q] at this; omega)) e
theorem AEQ.ot {T : Nat → Nat} {R : RT} {I I' : IT} {L L' : LT} {W : List (Nat × Nat)} {st st' k : Nat} (hU : UPR T R) (hG : GS T R st) (hG' : GS T R st') (hn : st' ≠ st) (h : Chg (WSX R st) T W I L I' L') (hk : k < 40) : AEQ R I' st' k I st' k := by
  have hO := hG'.2.2.2.2.2.1 k hk
  exact AEQ.at h (WSX.nw hU hG hG' hn) (WSX.nf hU hG hO.2.1 hO.1 (GS.r7 hU hG hG' hn)) (WSX.nb hU hG hO.2 hO.1 (GS.r7 hU hG hG' hn))
def FFL (R : RT) (I' I : IT) (st : Nat) (k : Int) : Prop := (∀ j : Nat, (j : Int) < k → j < 39 → AEQ R I' st j I st (j + 1)) ∧ ∀ j : Nat, k ≤ (j : Int) → j < 40 → AEQ R I' st j I st j
theorem FFL.z {R : RT} {I : IT} {st : Nat} {k : Int} (h : k = 0) : FFL R I I st k := ⟨fun j hj _ => by omega, fun _ _ _ => AEQ.rf⟩
theorem FFL.s {T : Nat → Nat} {R : RT} {I I1 I2 I3 : IT} {L2 L3 : LT} {W : List (Nat × Nat)} {st wh o o' ob : Nat} {k k1 k2 k' v : Int32} (h : FFL R I1 I st k.toInt) (hU : UPR T R) (hG : GS T R st) (hw : rA R st 6 = wh) (hput : I2 = u2 I1 wh k.toNatClampNeg v) (hv : I1 wh k1.toNatClampNeg = v) (ho : OA R st k.toNatClampNeg = o) (ho' : OA R st k2.toNatClampNeg = o') (hob : rA R o 1 = ob) (hf : FEQ R I3 o I2 o') (S : Chg (SL [o, ob]) T W I2 L2 I3 L3) (h0 : 0 ≤ k.toInt) (h39 : k.toInt < 39) (e1 : k1.toInt = k.toInt + 1) (e2 : k2.toInt = k.toInt + 1) (hk : k'.toInt = k.toInt + 1) : FFL R I3 I st k'.toInt := by
  have n0 := ncz h0
  have n1 : k1.toNatClampNeg = k.toNatClampNeg + 1 := by have := ncz (x := k1) (by omega); omega
  have n2 : k2.toNatClampNeg = k.toNatClampNeg + 1 := by have := ncz (x := k2) (by omega); omega
  rw [n2] at ho'; rw [n1] at hv
  subst ho; subst ho'; subst hob; subst hw
  obtain ⟨a1, a2, a3⟩ := ACT1 hU hG (d := k.toNatClampNeg) (by omega) hput hf S (hG.2.2.2.2.2.1 _ (by omega)).2
  refine ⟨fun j hj h9 => ?_, fun j hj h9 => ?_⟩
  · by_cases q : j = k.toNatClampNeg
    · subst q
      have b := h.2 (k.toNatClampNeg + 1) (by omega) (by omega)
      exact ⟨by rw [a1, ← hv]; exact b.1, a2.tr b.2⟩
    · exact (a3 j (by omega) q).tr (h.1 j (by omega) h9)
  · exact (a3 j h9 (by omega)).tr (h.2 j (by omega) h9)
def FFD (R : RT) (I' I : IT) (st : Nat) : Prop := ∀ j : Nat, j < 39 → AEQ R I' st j I st (j + 1)
theorem FFL.e {T : Nat → Nat} {R : RT} {I I1 I2 : IT} {st f : Nat} {k : Int} {x : Int32} (h : FFL R I1 I st k) (hk : 39 ≤ k) (hG : GS T R st) (e : I2 = u2 I1 st f x) : FFD R I2 I st := fun j hj => (AEQ.put hG hG.1 e (by omega)).tr (h.1 j (by omega) hj)
def FAD (R : RT) (x : Option Nat) (r : Nat) (k : Int32) (fc : Int) (n : Nat) : Prop := (0 ≤ k.toInt → k.toInt < fc → k.toInt < (n : Int) → x = R r k.toNatClampNeg) ∧ ((k.toInt < 0 ∨ fc ≤ k.toInt ∨ (n : Int) ≤ k.toInt) → x = none)
theorem FAD.p {R : RT} {x : Option Nat} {r n : Nat} {k : Int32} {fc : Int} (h : PKD R x r k n) (c : k.toInt < fc) : FAD R x r k fc n := ⟨fun h0 _ h2 => h.1 h0 h2, fun q => h.2 (by omega)⟩
theorem FAD.r {R : RT} {r n b : Nat} {k : Int32} {fc : Int} (h : R r k.toNatClampNeg = some b) (h0 : 0 ≤ k.toInt) (h1 : k.toInt < fc) (h2 : k.toInt < (n : Int)) : FAD R (some b) r k fc n := ⟨fun _ _ _ => h.symm, fun q => by omega⟩
theorem FAD.z {R : RT} {r n : Nat} {k : Int32} {fc : Int} (h : k.toInt < 0 ∨ fc ≤ k.toInt ∨ (n : Int) ≤ k.toInt) : FAD R none r k fc n := ⟨fun _ _ _ => by omega, fun _ => rfl⟩
theorem FAD.q {R : RT} {r n b : Nat} {k : Int32} {fc : Int} (h : FAD R (some b) r k fc n) : 0 ≤ k.toInt ∧ k.toInt < fc ∧ k.toInt < (n : Int) ∧ R r k.toNatClampNeg = some b := by
  by_cases q : k.toInt < 0 ∨ fc ≤ k.toInt ∨ (n : Int) ≤ k.toInt
  · cases h.2 q
  · exact ⟨by omega, by omega, by omega, (h.1 (by omega) (by omega) (by omega)).symm⟩
theorem FAD.no {R : RT} {r n : Nat} {k : Int32} {fc : Int} {P : Nat → Prop} (h : FAD R none r k fc n) (he : ∀ j, j < n → ∃ f, R r j = some f ∧ P f) : k.toInt < 0 ∨ fc ≤ k.toInt ∨ (n : Int) ≤ k.toInt := by
  by_cases q : k.toInt < 0 ∨ fc ≤ k.toInt ∨ (n : Int) ≤ k.toInt
  · exact q
  · obtain ⟨f, f1, -⟩ := he k.toNatClampNeg (ncn (by omega) (by omega))
    have := h.1 (by omega) (by omega) (by omega)
    rw [f1] at this; cases this
def NXD (R : RT) (x : Option Nat) (r : Nat) (c : Int32) (c9 : Int) (n : Nat) : Prop := (c.toInt < (n : Int) → x = R r c.toNatClampNeg ∧ c9 = c.toInt + 1) ∧ ((n : Int) ≤ c.toInt → x = none ∧ c9 = c.toInt)
theorem NXD.z {R : RT} {x : Option Nat} {r n : Nat} {c : Int32} {c9 : Int} (h : x = none) (e : c9 = c.toInt) (hn : (n : Int) ≤ c.toInt) : NXD R x r c c9 n := ⟨fun q => by omega, fun _ => ⟨h, e⟩⟩
theorem NXD.p {R : RT} {x : Option Nat} {r n : Nat} {c k : Int32} {c9 fc : Int} (h : FAD R x r k fc n) (hk : k.toInt = c.toInt) (hf : 0 ≤ c.toInt ∧ c.toInt < fc ∧ c.toInt < (n : Int)) (e : c9 = c.toInt + 1) : NXD R x r c c9 n := by
  have ek : k = c := Int32.toInt_inj.mp hk
  subst ek
  exact ⟨fun _ => ⟨h.1 hf.1 hf.2.1 hf.2.2, e⟩, fun q => by omega⟩
def NBD (w : Nat → Int32) (x : Int32) (d : Int) : Prop := (1 ≤ d → d ≤ 40 → w (d - 1).toNat = x) ∧ (d ≤ 0 → x.toInt = -1)
theorem NBD.r {w : Nat → Int32} {x j : Int32} {d : Int} (e : w j.toNatClampNeg = x) (hj : j.toInt = d - 1) (h : 1 ≤ d) : NBD w x d := ⟨fun _ _ => by rw [← hj]; exact e, fun q => by omega⟩
theorem NBD.z {w : Nat → Int32} {x : Int32} {d : Int} (e : x.toInt = -1) (h : d ≤ 0 ∨ 40 < d) : NBD w x d := ⟨fun _ _ => by omega, fun _ => e⟩
def NOD (w : Nat → Int32) (x d : Int32) (u : Int) : Prop := (0 < u → 0 ≤ d.toInt → d.toInt < 40 → w d.toNatClampNeg = x) ∧ (u ≤ 0 ∨ d.toInt < 0 ∨ 40 ≤ d.toInt → x.toInt = -1)
theorem NOD.r {w : Nat → Int32} {x d : Int32} {u : Int} (e : w d.toNatClampNeg = x) (h : 0 < u ∧ 0 ≤ d.toInt ∧ d.toInt < 40) : NOD w x d u := ⟨fun _ _ _ => e, fun q => by omega⟩
theorem NOD.z {w : Nat → Int32} {x d : Int32} {u : Int} (e : x.toInt = -1) (h : u ≤ 0 ∨ d.toInt < 0 ∨ 40 ≤ d.toInt) : NOD w x d u := ⟨fun _ _ _ => by omega, fun _ => e⟩
theorem oneq {T : Nat → Nat} {R : RT} {st o o' j j' : Nat} (hU : UPR T R) (hG : GS T R st) (h : OA R st j = o) (h' : OA R st j' = o') (hj : j < 40) (hj' : j' < 40) (hn : j ≠ j') : o ≠ o' := by
  subst h; subst h'
  obtain ⟨R1, F1⟩ := hG.2.2.2.2.2.1 j hj
  exact hU.ne (Or.inl F1.1) R1 (hG.2.2.2.2.2.1 j' hj').1 (Or.inr hn)
theorem obneq {T : Nat → Nat} {R : RT} {o o' : Nat} (hU : UPR T R) (F1 : FO T R o) (F2 : FO T R o') (hn : o ≠ o') : rA R o 1 ≠ rA R o' 1 := hU.ne (Or.inr (Or.inr (Or.inr (by have := F1.2.2; omega)))) F1.2.1 F2.2.1 (Or.inl hn)
theorem FEQ.put {T : Nat → Nat} {R : RT} {I I' : IT} {st' f k : Nat} {x : Int32} (hf : FO T R f) (hT : T st' = 9) (e : I' = u2 I st' k x) : FEQ R I' f I f := by
  obtain ⟨Tf, Rf, Tb⟩ := hf
  subst e
  exact FEQ.rf.l (u2_r (fun e => by rw [e] at Tf; omega)) (u2_r (fun e => by rw [e] at Tb; omega))
theorem WRT {T : Nat → Nat} {R : RT} {If I2 I3 I4 : IT} {L2 L3 : LT} {W : List (Nat × Nat)} {st src wh o ob : Nat} {n y dd : Int32} (hU : UPR T R) (hG : GS T R st) (hs : FO T R src) (hw : rA R st 6 = wh) (hput : I2 = u2 If wh dd.toNatClampNeg n) (ho : OA R st dd.toNatClampNeg = o) (hob : rA R o 1 = ob) (hf : FEQ R I3 o I2 src) (S : Chg (SL [o, ob]) T W I2 L2 I3 L3) (e4 : I4 = u2 I3 st 4 y) (hd : dd.toNatClampNeg < 40) : I4 (WH R st) dd.toNatClampNeg = n ∧ FEQ R I4 (OA R st dd.toNatClampNeg) If src ∧ (∀ j, j < 40 → j ≠ dd.toNatClampNeg → AEQ R I4 st j If st j) ∧ I4 st 4 = y := by
  subst ho; subst hob; subst hw
  obtain ⟨a1, a2, a3⟩ := ACT1 hU hG hd hput hf S hs
  have p := AEQ.put hG hG.1 e4 hd
  refine ⟨p.1.trans a1, p.2.tr a2, fun j hj hn => (AEQ.put hG hG.1 e4 hj).tr (a3 j hj hn), by rw [e4]; exact u2_s⟩
def WRD (R : RT) (I' I : IT) (st : Nat) (n : Int32) (f : Nat) (d : Int) : Prop := (0 ≤ d → d < 40 → I' (WH R st) d.toNat = n ∧ FEQ R I' (OA R st d.toNat) I f ∧ (∀ j, j < 40 → j ≠ d.toNat → AEQ R I' st j I st j) ∧ (I' st 4).toInt = d + 1) ∧ (d = 40 → I' (WH R st) 39 = n ∧ FEQ R I' (OA R st 39) I f ∧ (∀ j, j < 39 → AEQ R I' st j I st (j + 1)) ∧ (I' st 4).toInt = 40)
theorem WRD.a {T : Nat → Nat} {R : RT} {I I1 I2 I3 I4 : IT} {L2 L3 : LT} {W : List (Nat × Nat)} {st src wh o ob : Nat} {n y z dd : Int32} {d : Int} (hU : UPR T R) (hG : GS T R st) (hs : FO T R src) (e1 : I1 = u2 I st 5 z) (hw : rA R st 6 = wh) (hput : I2 = u2 I1 wh dd.toNatClampNeg n) (ho : OA R st dd.toNatClampNeg = o) (hob : rA R o 1 = ob) (hf : FEQ R I3 o I2 src) (S : Chg (SL [o, ob]) T W I2 L2 I3 L3) (e4 : I4 = u2 I3 st 4 y) (hd0 : 0 ≤ d ∧ d < 40) (hd : dd.toInt = d) (hy : y.toInt = d + 1) : WRD R I4 I st n src d := by
  have hn : dd.toNatClampNeg = d.toNat := by have := ncz (x := dd) (by omega); omega
  obtain ⟨a1, a2, a3, a4⟩ := WRT hU hG hs hw hput ho hob hf S e4 (by omega)
  rw [hn] at a1 a2 a3
  exact ⟨fun _ _ => ⟨a1, a2.tr (FEQ.put hs hG.1 e1), fun j hj hn => (a3 j hj hn).tr (AEQ.put hG hG.1 e1 hj), by rw [a4]; exact hy⟩, fun h => by omega⟩
theorem WRD.b {T : Nat → Nat} {R : RT} {I I1 If I2 I3 I4 : IT} {L1 Lf L2 L3 : LT} {W Wf : List (Nat × Nat)} {st src wh o ob : Nat} {n y z dd : Int32} {d : Int} (hU : UPR T R) (hG : GS T R st) (hp : ¬ WSX R st src) (hp2 : ¬ WSX R st (rA R src 1)) (hs : FO T R src) (e1 : I1 = u2 I st 5 z) (hff : FFD R If I1 st) (Sf : Chg (WSX R st) T Wf I1 L1 If Lf) (hw : rA R st 6 = wh) (hput : I2 = u2 If wh dd.toNatClampNeg n) (ho : OA R st dd.toNatClampNeg = o) (hob : rA R o 1 = ob) (hf : FEQ R I3 o I2 src) (S : Chg (SL [o, ob]) T W I2 L2 I3 L3) (e4 : I4 = u2 I3 st 4 y) (hd0 : d = 40) (hd : dd.toInt = 39) (hy : y.toInt = 40) : WRD R I4 I st n src d := by
  have hn : dd.toNatClampNeg = 39 := by have := ncz (x := dd) (by omega); omega
  obtain ⟨a1, a2, a3, a4⟩ := WRT hU hG hs hw hput ho hob hf S e4 (by omega)
  rw [hn] at a1 a2 a3
  have es : FEQ R If src I1 src := FEQ.rf.l (Chg.at Sf hp) (Chg.at Sf hp2)
  exact ⟨fun h0 h1 => by omega, fun _ => ⟨a1, (a2.tr es).tr (FEQ.put hs hG.1 e1), fun j hj => ((a3 j (by omega) (by omega)).tr (hff j hj)).tr (AEQ.put hG hG.1 e1 (by omega)), by rw [a4]; exact hy⟩⟩
/-- an act's form and the form told change places -/
def SBD (R : RT) (I' I : IT) (st f d : Nat) : Prop := FEQ R I' (OA R st d) I f ∧ FEQ R I' f I (OA R st d) ∧ I' (WH R st) = I (WH R st) ∧ ∀ j, j < 40 → j ≠ d → AEQ R I' st j I st j
theorem SBD.of {T : Nat → Nat} {R : RT} {I I1 I2 I3 : IT} {L2 L3 : LT} {W : List (Nat × Nat)} {st f o ob fb d f1 f2 : Nat} {x y : Int32} (hU : UPR T R) (hG : GS T R st) (hf : FO T R f) (hp : ¬ WSX R st f) (hp2 : ¬ WSX R st (rA R f 1)) (e1 : I1 = u2 I st f1 x) (e2 : I2 = u2 I1 st f2 y) (ho : OA R st d = o) (hd : d < 40) (zo : rA R o 1 = ob) (zf : rA R f 1 = fb) (h : SWD I3 ob fb I2 ((I2 o 0).toInt + 1)) (S : Chg (SL [ob, fb]) T W I2 L2 I3 L3) (hq : (I o 0).toInt = (I f 0).toInt) : SBD R I3 I st f d := by
  subst ho; subst zo; subst zf
  have hO := hG.2.2.2.2.2.1
  obtain ⟨Rd, To, Rob, Tob⟩ := hO d hd
  obtain ⟨Tf, Rf, Tfb⟩ := hf
  obtain ⟨Tst, ⟨R6, T6⟩, -⟩ := id hG
  have k2 : ∀ b, b ≠ st → I2 b = I b := fun b hb => by rw [e2, u2_r hb, e1, u2_r hb]
  have eo : I3 (OA R st d) = I2 (OA R st d) := Chg.at S (nm_2 (fun e => by rw [e] at To; omega) (fun e => by rw [e] at To; omega))
  have ef : I3 f = I2 f := Chg.at S (nm_2 (fun e => by rw [e] at Tf; omega) (fun e => by rw [e] at Tf; omega))
  have o2 := k2 (OA R st d) (fun e => by rw [e] at To; omega)
  have f2 := k2 f (fun e => by rw [e] at Tf; omega)
  have ob2 := k2 (rA R (OA R st d) 1) (fun e => by rw [e] at Tob; omega)
  have fb2 := k2 (rA R f 1) (fun e => by rw [e] at Tfb; omega)
  refine ⟨⟨by rw [eo, o2]; exact hq, fun k hk => ?_⟩, ⟨by rw [ef, f2]; exact hq.symm, fun k hk => ?_⟩, ?_, fun j hj hn => ?_⟩
  · rw [(h.1 k (by rw [o2]; omega)).1, fb2]
  · rw [(h.1 k (by rw [o2]; omega)).2, ob2]
  · have w1 : WH R st ≠ rA R (OA R st d) 1 := hU.ne (Or.inr (Or.inr (Or.inr (by omega)))) R6 Rob (Or.inl (fun e => by rw [e] at Tst; omega))
    have w2 : WH R st ≠ rA R f 1 := fun e => hp2 (Or.inr (Or.inl e.symm))
    rw [Chg.at S (nm_2 w1 w2)]
    exact k2 _ (fun e => by rw [e] at T6; omega)
  · obtain ⟨Rj, Tj, Rjb, Tjb⟩ := hO j hj
    have o1 : OA R st j ≠ OA R st d := hU.ne (Or.inl Tj) Rj Rd (Or.inr hn)
    have w1 : WH R st ≠ rA R (OA R st d) 1 := hU.ne (Or.inr (Or.inr (Or.inr (by omega)))) R6 Rob (Or.inl (fun e => by rw [e] at Tst; omega))
    have w2 : WH R st ≠ rA R f 1 := fun e => hp2 (Or.inr (Or.inl e.symm))
    have a := AEQ.at (st := st) (k := j) S (nm_2 w1 w2) (nm_2 (fun e => by rw [e] at Tj; omega) (fun e => by rw [e] at Tj; omega)) (nm_2 (hU.ne (Or.inr (Or.inr (Or.inr (by omega)))) Rjb Rob (Or.inl o1)) (fun e => hp2 (Or.inr (Or.inr ⟨j, hj, Or.inr e.symm⟩))))
    exact (a.tr (AEQ.put hG Tst e2 hj)).tr (AEQ.put hG Tst e1 hj)
/-- the acts of one state laid into the other -/
def CAL (R : RT) (I' I : IT) (r0 r1 : Nat) (k : Int) : Prop := ∀ j : Nat, (j : Int) < k → j < 40 → AEQ R I' r0 j I r1 j
theorem CAL.z {R : RT} {I' I : IT} {r0 r1 : Nat} {k : Int} (h : k = 0) : CAL R I' I r0 r1 k := fun j hj _ => by omega
theorem CAL.s {T : Nat → Nat} {R : RT} {I I1 I2 I3 : IT} {L L1 L2 L3 : LT} {W W1 : List (Nat × Nat)} {r0 r1 wh w1 o o' ob : Nat} {k k' v : Int32} (h : CAL R I1 I r0 r1 k.toInt) (hU : UPR T R) (hG : GS T R r0) (hG1 : GS T R r1) (hn : r0 ≠ r1) (F : Chg (WSX R r0) T W1 I L I1 L1) (hw : rA R r0 6 = wh) (hw1 : rA R r1 6 = w1) (hput : I2 = u2 I1 wh k.toNatClampNeg v) (hv : I1 w1 k.toNatClampNeg = v) (ho : OA R r0 k.toNatClampNeg = o) (ho' : OA R r1 k.toNatClampNeg = o') (hob : rA R o 1 = ob) (hf : FEQ R I3 o I2 o') (S : Chg (SL [o, ob]) T W I2 L2 I3 L3) (h0 : 0 ≤ k.toInt) (h39 : k.toInt < 40) (hk : k'.toInt = k.toInt + 1) : CAL R I3 I r0 r1 k'.toInt := by
  have n0 := ncz h0
  subst ho; subst ho'; subst hob; subst hw; subst hw1
  obtain ⟨a1, a2, a3⟩ := ACT1 hU hG (d := k.toNatClampNeg) (by omega) hput hf S (hG1.2.2.2.2.2.1 _ (by omega)).2
  have b := AEQ.ot hU hG hG1 (Ne.symm hn) F (k := k.toNatClampNeg) (by omega)
  intro j hj h9
  by_cases q : j = k.toNatClampNeg
  · subst q
    exact ⟨by rw [a1, ← hv]; exact b.1, a2.tr b.2⟩
  · exact (a3 j h9 q).tr (h j (by omega) h9)
theorem ooneq {T : Nat → Nat} {R : RT} {r0 r1 o o' j : Nat} (hU : UPR T R) (hG : GS T R r0) (hG1 : GS T R r1) (hn : r0 ≠ r1) (h : OA R r0 j = o) (h' : OA R r1 j = o') (hj : j < 40) : o ≠ o' := by
  subst h; subst h'
  obtain ⟨R1, F1⟩ := hG.2.2.2.2.2.1 j hj
  exact hU.ne (Or.inl F1.1) R1 (hG1.2.2.2.2.2.1 j hj).1 (Or.inl (GS.r7 hU hG1 hG hn))
theorem SB3 {T : Nat → Nat} {I I1 I2 : IT} {st o f1 f2 : Nat} {x y : Int32} (To : T o = 3) (Ts : T st = 9) (e1 : I1 = u2 I st f1 x) (e2 : I2 = u2 I1 st f2 y) : I2 o 0 = I o 0 := by
  have hb : o ≠ st := fun e => by rw [e] at To; omega
  rw [e2, u2_r hb, e1, u2_r hb]
theorem s_X8_formAt_x {d : Nat} {T N : Nat → Nat} {I : IT} {L : LT} {R : RT} {A B : Nat → Prop} {r0 : Nat} {n1 : Int32} (hS : SUB B A) (hI : IX A T I) (H_r0 : (hs_St T N R A B) r0) : Ex (d + 2) 96 [.ref r0, .int n1] (T, N, I, L, R) 0 0 (pR T N R (fun x9 I9 L9 => (∀ b, x9 = some b → (hs_F T N R A B) b) ∧ (FAD R x9 (rA R r0 8) n1 (I r0 1).toInt 16) ∧ (I = I9 ∧ L = L9))) := by
  refine ⟨_, rfl, Nat.le_of_ble_eq_true rfl, fun V C S => ?_⟩
  show V 0 [(0, .ref r0), (1, .int n1)] [] (T, N, I, L, R) 0 0
  have gn1 := rg n1
  obtain ⟨T_r0, A_r0, B_r0, ⟨r0_6, R_r0_6, H_r0_6⟩, ⟨r0_7, R_r0_7, H_r0_7⟩, ⟨r0_8, R_r0_8, H_r0_8⟩, ⟨r0_9, R_r0_9, H_r0_9⟩, ⟨r0_10, R_r0_10, H_r0_10⟩⟩ := id H_r0
  have z_r0_6 : rA R r0 6 = r0_6 := rA_e R_r0_6
  have z_r0_7 : rA R r0 7 = r0_7 := rA_e R_r0_7
  have z_r0_8 : rA R r0 8 = r0_8 := rA_e R_r0_8
  have z_r0_9 : rA R r0 9 = r0_9 := rA_e R_r0_9
  have z_r0_10 : rA R r0 10 = r0_10 := rA_e R_r0_10
  obtain ⟨T_r0_8, N_r0_8, A_r0_8, E_r0_8⟩ := id H_r0_8
  obtain ⟨w_r0_1, k0_r0_1⟩ : ∃ x, I r0 1 = x := ⟨_, rfl⟩
  have gw_r0_1 := rg w_r0_1
  refine k_iload_n C rfl rfl rfl ?_
  refine k_aload_n C rfl rfl rfl ?_
  refine g_I C rfl rfl rfl T_r0 rfl k0_r0_1 ?_
  refine b_icmp_ge C (t := 19) rfl rfl rfl (fun c1 => ?_) (fun c1 => ?_)
  · skip
    refine k_null C rfl rfl ?_
    exact k_aret C (x := none) rfl (Or.inl ⟨_, rfl⟩) (Nat.le_of_ble_eq_true rfl) (Nat.le_of_ble_eq_true rfl) ⟨_, _, _, rfl, rfl, fz, by (try simp only [z_r0_6, z_r0_7, z_r0_8, z_r0_9, z_r0_10]); simp only [k0_r0_1]; first | exact FAD.p hpick (by omega) | exact FAD.z (by omega), rfl, rfl⟩
  refine k_aload_n C rfl rfl rfl ?_
  refine g_R C rfl rfl rfl T_r0 rfl R_r0_8 ?_
  refine k_iload_n C rfl rfl rfl ?_
  refine c_SR C (s_X2_pick_Row16_x hS hI H_r0_8) rfl rfl rfl rfl rfl rfl rfl (Nat.le_of_ble_eq_true rfl) (Nat.le_of_ble_eq_true rfl) (Nat.le_of_ble_eq_true rfl) ?_
  rintro yy2 _ _ ⟨hyy2, p0yy2, rfl, rfl⟩
  try simp only [z_r0_6, z_r0_7, z_r0_8, z_r0_9, z_r0_10] at p0yy2
  try simp only [k0_r0_1] at p0yy2
  try have q0yy2 := congrArg Int32.toInt p0yy2
  have hpick := p0yy2; rw [N_r0_8] at hpick
  refine k_goto C (pc2 := 20) rfl rfl ?_
  exact k_aret C (x := yy2) rfl (Or.inl ⟨_, rfl⟩) (Nat.le_of_ble_eq_true rfl) (Nat.le_of_ble_eq_true rfl) ⟨_, _, _, rfl, rfl, hyy2, by (try simp only [z_r0_6, z_r0_7, z_r0_8, z_r0_9, z_r0_10]); simp only [k0_r0_1]; first | exact FAD.p hpick (by omega) | exact FAD.z (by omega), rfl, rfl⟩

theorem s_X8_tableAt_x {d : Nat} {T N : Nat → Nat} {I : IT} {L : LT} {R : RT} {A B : Nat → Prop} {r0 : Nat} {n1 : Int32} (hS : SUB B A) (hI : IX A T I) (H_r0 : (hs_St T N R A B) r0) : Ex (d + 1) 97 [.ref r0, .int n1] (T, N, I, L, R) 0 0 (pR T N R (fun x9 I9 L9 => (∀ b, x9 = some b → (hs_Tb T N R A B) b) ∧ (FAD R x9 (rA R r0 9) n1 (I r0 2).toInt 8) ∧ (I = I9 ∧ L = L9))) := by
  refine ⟨_, rfl, Nat.le_of_ble_eq_true rfl, fun V C S => ?_⟩
  show V 0 [(0, .ref r0), (1, .int n1)] [] (T, N, I, L, R) 0 0
  have gn1 := rg n1
  obtain ⟨T_r0, A_r0, B_r0, ⟨r0_6, R_r0_6, H_r0_6⟩, ⟨r0_7, R_r0_7, H_r0_7⟩, ⟨r0_8, R_r0_8, H_r0_8⟩, ⟨r0_9, R_r0_9, H_r0_9⟩, ⟨r0_10, R_r0_10, H_r0_10⟩⟩ := id H_r0
  have z_r0_6 : rA R r0 6 = r0_6 := rA_e R_r0_6
  have z_r0_7 : rA R r0 7 = r0_7 := rA_e R_r0_7
  have z_r0_8 : rA R r0 8 = r0_8 := rA_e R_r0_8
  have z_r0_9 : rA R r0 9 = r0_9 := rA_e R_r0_9
  have z_r0_10 : rA R r0 10 = r0_10 := rA_e R_r0_10
  obtain ⟨w_r0_2, k0_r0_2⟩ : ∃ x, I r0 2 = x := ⟨_, rfl⟩
  have gw_r0_2 := rg w_r0_2
  refine k_iload_n C rfl rfl rfl ?_
  refine b_if_lt C (t := 21) rfl rfl rfl (fun c1 => ?_) (fun c1 => ?_)
  · skip
    refine k_null C rfl rfl ?_
    refine k_goto C (pc2 := 31) rfl rfl ?_
    exact k_aret C (x := none) rfl (Or.inl ⟨_, rfl⟩) (Nat.le_of_ble_eq_true rfl) (Nat.le_of_ble_eq_true rfl) ⟨_, _, _, rfl, rfl, fz, by (try simp only [z_r0_6, z_r0_7, z_r0_8, z_r0_9, z_r0_10]); simp only [k0_r0_2]; first | exact FAD.r Q_none (by omega) (by omega) (by omega) | exact FAD.z (by omega), rfl, rfl⟩
  refine k_iload_n C rfl rfl rfl ?_
  refine k_aload_n C rfl rfl rfl ?_
  refine g_I C rfl rfl rfl T_r0 rfl k0_r0_2 ?_
  refine b_icmp_ge C (t := 21) rfl rfl rfl (fun c2 => ?_) (fun c2 => ?_)
  · skip
    refine k_null C rfl rfl ?_
    refine k_goto C (pc2 := 31) rfl rfl ?_
    exact k_aret C (x := none) rfl (Or.inl ⟨_, rfl⟩) (Nat.le_of_ble_eq_true rfl) (Nat.le_of_ble_eq_true rfl) ⟨_, _, _, rfl, rfl, fz, by (try simp only [z_r0_6, z_r0_7, z_r0_8, z_r0_9, z_r0_10]); simp only [k0_r0_2]; first | exact FAD.r Q_none (by omega) (by omega) (by omega) | exact FAD.z (by omega), rfl, rfl⟩
  refine k_iload_n C rfl rfl rfl ?_
  refine k_aload_n C rfl rfl rfl ?_
  refine g_R C rfl rfl rfl T_r0 rfl R_r0_9 ?_
  obtain ⟨T_r0_9, N_r0_9, A_r0_9, E_r0_9⟩ := id H_r0_9
  refine z_len C (n := 8) rfl rfl (by rw [T_r0_9]; exact Nat.le_of_ble_eq_true rfl) N_r0_9 (Nat.le_of_ble_eq_true rfl) (fun x3 ex3 => ?_)
  refine b_icmp_lt C (t := 25) rfl rfl rfl (fun c4 => ?_) (fun c4 => ?_)
  · skip
    refine k_aload_n C rfl rfl rfl ?_
    refine g_R C rfl rfl rfl T_r0 rfl R_r0_9 ?_
    refine k_iload_n C rfl rfl rfl ?_
    refine z_aRe C (t := 1) rfl rfl (Nat.le_of_ble_eq_true rfl) T_r0_9 N_r0_9 E_r0_9 (by omega) (by omega) (fun rr5 Q_rr5 H_rr5 => ?_)
    exact k_aret C (x := some _) rfl (Or.inl ⟨_, rfl⟩) (Nat.le_of_ble_eq_true rfl) (Nat.le_of_ble_eq_true rfl) ⟨_, _, _, rfl, rfl, fb H_rr5, by (try simp only [z_r0_6, z_r0_7, z_r0_8, z_r0_9, z_r0_10]); simp only [k0_r0_2]; first | exact FAD.r Q_rr5 (by omega) (by omega) (by omega) | exact FAD.z (by omega), rfl, rfl⟩
  refine k_null C rfl rfl ?_
  refine k_goto C (pc2 := 31) rfl rfl ?_
  exact k_aret C (x := none) rfl (Or.inl ⟨_, rfl⟩) (Nat.le_of_ble_eq_true rfl) (Nat.le_of_ble_eq_true rfl) ⟨_, _, _, rfl, rfl, fz, by (try simp only [z_r0_6, z_r0_7, z_r0_8, z_r0_9, z_r0_10]); simp only [k0_r0_2]; first | exact FAD.r Q_none (by omega) (by omega) (by omega) | exact FAD.z (by omega), rfl, rfl⟩

theorem s_X8_nextForm_x {d : Nat} {T N : Nat → Nat} {I : IT} {L : LT} {R : RT} {A B : Nat → Prop} {r0 : Nat} (hS : SUB B A) (hI : IX A T I) (H_r0 : (hs_St T N R A B) r0) (hp0 : 0 ≤ (I r0 1).toInt) : Ex (d + 3) 98 [.ref r0] (T, N, I, L, R) 0 0 (pR T N R (fun x9 I9 L9 => (∀ b, x9 = some b → (hs_F T N R A B) b) ∧ (NXD R x9 (rA R r0 8) (I r0 1) (I9 r0 1).toInt 16) ∧ (IX A T I9 ∧ Chg (SL [r0]) T [(9, 1)] I L I9 L9))) := by
  refine ⟨_, rfl, Nat.le_of_ble_eq_true rfl, fun V C S => ?_⟩
  show V 0 [(0, .ref r0)] [] (T, N, I, L, R) 0 0
  obtain ⟨T_r0, A_r0, B_r0, ⟨r0_6, R_r0_6, H_r0_6⟩, ⟨r0_7, R_r0_7, H_r0_7⟩, ⟨r0_8, R_r0_8, H_r0_8⟩, ⟨r0_9, R_r0_9, H_r0_9⟩, ⟨r0_10, R_r0_10, H_r0_10⟩⟩ := id H_r0
  have z_r0_6 : rA R r0 6 = r0_6 := rA_e R_r0_6
  have z_r0_7 : rA R r0 7 = r0_7 := rA_e R_r0_7
  have z_r0_8 : rA R r0 8 = r0_8 := rA_e R_r0_8
  have z_r0_9 : rA R r0 9 = r0_9 := rA_e R_r0_9
  have z_r0_10 : rA R r0 10 = r0_10 := rA_e R_r0_10
  try simp only [z_r0_6, z_r0_7, z_r0_8, z_r0_9, z_r0_10] at hp0
  obtain ⟨w_r0_1, k0_r0_1⟩ : ∃ x, I r0 1 = x := ⟨_, rfl⟩
  have gw_r0_1 := rg w_r0_1
  try simp only [k0_r0_1] at hp0
  refine k_aload_n C rfl rfl rfl ?_
  refine g_I C rfl rfl rfl T_r0 rfl k0_r0_1 ?_
  refine z_bipush C (z := 16) rfl rfl rfl (fun x1 ex1 => ?_)
  refine b_icmp_lt C (t := 11) rfl rfl rfl (fun c2 => ?_) (fun c2 => ?_)
  · skip
    refine k_aload_n C rfl rfl rfl ?_
    refine k_dup C rfl rfl rfl ?_
    refine g_I C rfl rfl rfl T_r0 rfl k0_r0_1 ?_
    refine z_iconst C (z := 1) rfl rfl rfl (fun x3 ex3 => ?_)
    refine z_iadd C rfl rfl ⟨by omega, by omega⟩ (fun x4 ex4 => ?_)
    refine z_pI C rfl rfl rfl T_r0 (Or.inr rfl) rfl (fun I5 uI5 => ?_)
    have hI5 : IX A T I5 := IX.f hI T_r0 (boX.tr (by decide) (by decide)) uI5
    have S6 : Chg (SL [r0]) T [(9, 1)] I L I5 L := Chg.f List.mem_cons_self T_r0 uI5
    have e7 := u2_e uI5
    refine k_aload_n C rfl rfl rfl ?_
    refine k_aload_n C rfl rfl rfl ?_
    refine g_I C rfl rfl rfl T_r0 rfl e7 ?_
    refine z_iconst C (z := 1) rfl rfl rfl (fun x8 ex8 => ?_)
    refine z_isub C rfl rfl ⟨by omega, by omega⟩ (fun x9 ex9 => ?_)
    refine c_VR C (s_X8_formAt_x hS hI5 H_r0) rfl rfl rfl rfl rfl ⟨_, rfl, rfl, T_r0, Nat.le_of_ble_eq_true rfl⟩ rfl rfl (Nat.le_of_ble_eq_true rfl) (Nat.le_of_ble_eq_true rfl) (Nat.le_of_ble_eq_true rfl) ?_
    rintro yy10 _ _ ⟨hyy10, p0yy10, rfl, rfl⟩
    try simp only [z_r0_6, z_r0_7, z_r0_8, z_r0_9, z_r0_10] at p0yy10
    try simp only [e7] at p0yy10
    try have q0yy10 := congrArg Int32.toInt p0yy10
    have hfa := p0yy10
    exact k_aret C (x := yy10) rfl (Or.inl ⟨_, rfl⟩) (Nat.le_of_ble_eq_true rfl) (Nat.le_of_ble_eq_true rfl) ⟨_, _, _, rfl, rfl, hyy10, by (try simp only [z_r0_6, z_r0_7, z_r0_8, z_r0_9, z_r0_10]); rw [e7]; simp only [k0_r0_1]; exact NXD.p hfa (by omega) (by omega) (by omega), hI5, (by (try simp only [z_r0_6, z_r0_7, z_r0_8, z_r0_9, z_r0_10]); exact (Chg.mono (Chg.up S6 (List.forall_mem_cons.mpr ⟨List.mem_of_getElem? (i := 0) rfl, fun _ h => nomatch h⟩)) (by decide)))⟩
  refine k_null C rfl rfl ?_
  exact k_aret C (x := none) rfl (Or.inl ⟨_, rfl⟩) (Nat.le_of_ble_eq_true rfl) (Nat.le_of_ble_eq_true rfl) ⟨_, _, _, rfl, rfl, fz, by (try simp only [z_r0_6, z_r0_7, z_r0_8, z_r0_9, z_r0_10]); simp only [k0_r0_1]; exact NXD.z rfl rfl (by omega), hI, (by (try simp only [z_r0_6, z_r0_7, z_r0_8, z_r0_9, z_r0_10]); exact Chg.rf)⟩

theorem s_X8_nextTable_x {d : Nat} {T N : Nat → Nat} {I : IT} {L : LT} {R : RT} {A B : Nat → Prop} {r0 : Nat} (hS : SUB B A) (hI : IX A T I) (H_r0 : (hs_St T N R A B) r0) (hp0 : 0 ≤ (I r0 2).toInt) : Ex (d + 2) 99 [.ref r0] (T, N, I, L, R) 0 0 (pR T N R (fun x9 I9 L9 => (∀ b, x9 = some b → (hs_Tb T N R A B) b) ∧ (NXD R x9 (rA R r0 9) (I r0 2) (I9 r0 2).toInt 8) ∧ (IX A T I9 ∧ Chg (SL [r0]) T [(9, 2)] I L I9 L9))) := by
  refine ⟨_, rfl, Nat.le_of_ble_eq_true rfl, fun V C S => ?_⟩
  show V 0 [(0, .ref r0)] [] (T, N, I, L, R) 0 0
  obtain ⟨T_r0, A_r0, B_r0, ⟨r0_6, R_r0_6, H_r0_6⟩, ⟨r0_7, R_r0_7, H_r0_7⟩, ⟨r0_8, R_r0_8, H_r0_8⟩, ⟨r0_9, R_r0_9, H_r0_9⟩, ⟨r0_10, R_r0_10, H_r0_10⟩⟩ := id H_r0
  have z_r0_6 : rA R r0 6 = r0_6 := rA_e R_r0_6
  have z_r0_7 : rA R r0 7 = r0_7 := rA_e R_r0_7
  have z_r0_8 : rA R r0 8 = r0_8 := rA_e R_r0_8
  have z_r0_9 : rA R r0 9 = r0_9 := rA_e R_r0_9
  have z_r0_10 : rA R r0 10 = r0_10 := rA_e R_r0_10
  try simp only [z_r0_6, z_r0_7, z_r0_8, z_r0_9, z_r0_10] at hp0
  obtain ⟨w_r0_2, k0_r0_2⟩ : ∃ x, I r0 2 = x := ⟨_, rfl⟩
  have gw_r0_2 := rg w_r0_2
  try simp only [k0_r0_2] at hp0
  refine k_aload_n C rfl rfl rfl ?_
  refine g_I C rfl rfl rfl T_r0 rfl k0_r0_2 ?_
  refine z_bipush C (z := 8) rfl rfl rfl (fun x1 ex1 => ?_)
  refine b_icmp_lt C (t := 11) rfl rfl rfl (fun c2 => ?_) (fun c2 => ?_)
  · skip
    refine k_aload_n C rfl rfl rfl ?_
    refine k_dup C rfl rfl rfl ?_
    refine g_I C rfl rfl rfl T_r0 rfl k0_r0_2 ?_
    refine z_iconst C (z := 1) rfl rfl rfl (fun x3 ex3 => ?_)
    refine z_iadd C rfl rfl ⟨by omega, by omega⟩ (fun x4 ex4 => ?_)
    refine z_pI C rfl rfl rfl T_r0 (Or.inr rfl) rfl (fun I5 uI5 => ?_)
    have hI5 : IX A T I5 := IX.f hI T_r0 (boX.tr (by decide) (by decide)) uI5
    have S6 : Chg (SL [r0]) T [(9, 2)] I L I5 L := Chg.f List.mem_cons_self T_r0 uI5
    have e7 := u2_e uI5
    refine k_aload_n C rfl rfl rfl ?_
    refine k_aload_n C rfl rfl rfl ?_
    refine g_I C rfl rfl rfl T_r0 rfl e7 ?_
    refine z_iconst C (z := 1) rfl rfl rfl (fun x8 ex8 => ?_)
    refine z_isub C rfl rfl ⟨by omega, by omega⟩ (fun x9 ex9 => ?_)
    refine c_VR C (s_X8_tableAt_x hS hI5 H_r0) rfl rfl rfl rfl rfl ⟨_, rfl, rfl, T_r0, Nat.le_of_ble_eq_true rfl⟩ rfl rfl (Nat.le_of_ble_eq_true rfl) (Nat.le_of_ble_eq_true rfl) (Nat.le_of_ble_eq_true rfl) ?_
    rintro yy10 _ _ ⟨hyy10, p0yy10, rfl, rfl⟩
    try simp only [z_r0_6, z_r0_7, z_r0_8, z_r0_9, z_r0_10] at p0yy10
    try simp only [e7] at p0yy10
    try have q0yy10 := congrArg Int32.toInt p0yy10
    have hfa := p0yy10
    exact k_aret C (x := yy10) rfl (Or.inl ⟨_, rfl⟩) (Nat.le_of_ble_eq_true rfl) (Nat.le_of_ble_eq_true rfl) ⟨_, _, _, rfl, rfl, hyy10, by (try simp only [z_r0_6, z_r0_7, z_r0_8, z_r0_9, z_r0_10]); rw [e7]; simp only [k0_r0_2]; exact NXD.p hfa (by omega) (by omega) (by omega), hI5, (by (try simp only [z_r0_6, z_r0_7, z_r0_8, z_r0_9, z_r0_10]); exact (Chg.mono (Chg.up S6 (List.forall_mem_cons.mpr ⟨List.mem_of_getElem? (i := 0) rfl, fun _ h => nomatch h⟩)) (by decide)))⟩
  refine k_null C rfl rfl ?_
  exact k_aret C (x := none) rfl (Or.inl ⟨_, rfl⟩) (Nat.le_of_ble_eq_true rfl) (Nat.le_of_ble_eq_true rfl) ⟨_, _, _, rfl, rfl, fz, by (try simp only [z_r0_6, z_r0_7, z_r0_8, z_r0_9, z_r0_10]); simp only [k0_r0_2]; exact NXD.z rfl rfl (by omega), hI, (by (try simp only [z_r0_6, z_r0_7, z_r0_8, z_r0_9, z_r0_10]); exact Chg.rf)⟩

theorem s_X8_nextBack_x {d : Nat} {T N : Nat → Nat} {I : IT} {L : LT} {R : RT} {A B : Nat → Prop} {r0 : Nat} (hS : SUB B A) (hI : IX A T I) (H_r0 : (hs_St T N R A B) r0) : Ex (d + 1) 105 [.ref r0] (T, N, I, L, R) 0 0 (pI T N R (fun x9 I9 L9 => (NBD (I (rA R r0 6)) x9 (I r0 4).toInt) ∧ (I = I9 ∧ L = L9))) := by
  refine ⟨_, rfl, Nat.le_of_ble_eq_true rfl, fun V C S => ?_⟩
  show V 0 [(0, .ref r0)] [] (T, N, I, L, R) 0 0
  obtain ⟨T_r0, A_r0, B_r0, ⟨r0_6, R_r0_6, H_r0_6⟩, ⟨r0_7, R_r0_7, H_r0_7⟩, ⟨r0_8, R_r0_8, H_r0_8⟩, ⟨r0_9, R_r0_9, H_r0_9⟩, ⟨r0_10, R_r0_10, H_r0_10⟩⟩ := id H_r0
  have z_r0_6 : rA R r0 6 = r0_6 := rA_e R_r0_6
  have z_r0_7 : rA R r0 7 = r0_7 := rA_e R_r0_7
  have z_r0_8 : rA R r0 8 = r0_8 := rA_e R_r0_8
  have z_r0_9 : rA R r0 9 = r0_9 := rA_e R_r0_9
  have z_r0_10 : rA R r0 10 = r0_10 := rA_e R_r0_10
  obtain ⟨w_r0_4, k0_r0_4⟩ : ∃ x, I r0 4 = x := ⟨_, rfl⟩
  have gw_r0_4 := rg w_r0_4
  refine k_aload_n C rfl rfl rfl ?_
  refine g_I C rfl rfl rfl T_r0 rfl k0_r0_4 ?_
  refine b_if_le C (t := 33) rfl rfl rfl (fun c1 => ?_) (fun c1 => ?_)
  · skip
    refine z_iconst C (z := -1) rfl rfl rfl (fun x2 ex2 => ?_)
    exact k_iret C rfl (Or.inl rfl) (Nat.le_of_ble_eq_true rfl) (Nat.le_of_ble_eq_true rfl) ⟨_, _, _, rfl, rfl, by (try simp only [z_r0_6, z_r0_7, z_r0_8, z_r0_9, z_r0_10]); simp only [k0_r0_4]; first | exact NBD.r ex2 (by omega) (by omega) | exact NBD.z ex2 (by omega), rfl, rfl⟩
  refine k_aload_n C rfl rfl rfl ?_
  refine g_I C rfl rfl rfl T_r0 rfl k0_r0_4 ?_
  refine k_aload_n C rfl rfl rfl ?_
  refine g_R C rfl rfl rfl T_r0 rfl R_r0_6 ?_
  obtain ⟨T_r0_6, N_r0_6, A_r0_6⟩ := id H_r0_6
  refine z_len C (n := 40) rfl rfl (by rw [T_r0_6]; exact Nat.le_of_ble_eq_true rfl) N_r0_6 (Nat.le_of_ble_eq_true rfl) (fun x3 ex3 => ?_)
  refine b_icmp_gt C (t := 33) rfl rfl rfl (fun c4 => ?_) (fun c4 => ?_)
  · skip
    refine z_iconst C (z := -1) rfl rfl rfl (fun x5 ex5 => ?_)
    exact k_iret C rfl (Or.inl rfl) (Nat.le_of_ble_eq_true rfl) (Nat.le_of_ble_eq_true rfl) ⟨_, _, _, rfl, rfl, by (try simp only [z_r0_6, z_r0_7, z_r0_8, z_r0_9, z_r0_10]); simp only [k0_r0_4]; first | exact NBD.r ex5 (by omega) (by omega) | exact NBD.z ex5 (by omega), rfl, rfl⟩
  refine k_aload_n C rfl rfl rfl ?_
  refine g_R C rfl rfl rfl T_r0 rfl R_r0_6 ?_
  refine k_aload_n C rfl rfl rfl ?_
  refine g_I C rfl rfl rfl T_r0 rfl k0_r0_4 ?_
  refine z_iconst C (z := 1) rfl rfl rfl (fun x6 ex6 => ?_)
  refine z_isub C rfl rfl ⟨by omega, by omega⟩ (fun x7 ex7 => ?_)
  refine z_aI C rfl rfl T_r0_6 N_r0_6 (by omega) (by omega) (fun x8 ex8 => ?_)
  have gx8 := rg x8
  refine k_goto C (pc2 := 34) rfl rfl ?_
  exact k_iret C rfl (Or.inl rfl) (Nat.le_of_ble_eq_true rfl) (Nat.le_of_ble_eq_true rfl) ⟨_, _, _, rfl, rfl, by (try simp only [z_r0_6, z_r0_7, z_r0_8, z_r0_9, z_r0_10]); simp only [k0_r0_4]; first | exact NBD.r ex8 (by omega) (by omega) | exact NBD.z ex8 (by omega), rfl, rfl⟩

theorem s_X8_nextOn_x {d : Nat} {T N : Nat → Nat} {I : IT} {L : LT} {R : RT} {A B : Nat → Prop} {r0 : Nat} (hS : SUB B A) (hI : IX A T I) (H_r0 : (hs_St T N R A B) r0) : Ex (d + 1) 106 [.ref r0] (T, N, I, L, R) 0 0 (pI T N R (fun x9 I9 L9 => (NOD (I (rA R r0 6)) x9 (I r0 4) (I r0 5).toInt) ∧ (I = I9 ∧ L = L9))) := by
  refine ⟨_, rfl, Nat.le_of_ble_eq_true rfl, fun V C S => ?_⟩
  show V 0 [(0, .ref r0)] [] (T, N, I, L, R) 0 0
  obtain ⟨T_r0, A_r0, B_r0, ⟨r0_6, R_r0_6, H_r0_6⟩, ⟨r0_7, R_r0_7, H_r0_7⟩, ⟨r0_8, R_r0_8, H_r0_8⟩, ⟨r0_9, R_r0_9, H_r0_9⟩, ⟨r0_10, R_r0_10, H_r0_10⟩⟩ := id H_r0
  have z_r0_6 : rA R r0 6 = r0_6 := rA_e R_r0_6
  have z_r0_7 : rA R r0 7 = r0_7 := rA_e R_r0_7
  have z_r0_8 : rA R r0 8 = r0_8 := rA_e R_r0_8
  have z_r0_9 : rA R r0 9 = r0_9 := rA_e R_r0_9
  have z_r0_10 : rA R r0 10 = r0_10 := rA_e R_r0_10
  obtain ⟨w_r0_4, k0_r0_4⟩ : ∃ x, I r0 4 = x := ⟨_, rfl⟩
  have gw_r0_4 := rg w_r0_4
  obtain ⟨w_r0_5, k0_r0_5⟩ : ∃ x, I r0 5 = x := ⟨_, rfl⟩
  have gw_r0_5 := rg w_r0_5
  refine k_aload_n C rfl rfl rfl ?_
  refine g_I C rfl rfl rfl T_r0 rfl k0_r0_5 ?_
  refine b_if_le C (t := 38) rfl rfl rfl (fun c1 => ?_) (fun c1 => ?_)
  · skip
    refine z_iconst C (z := -1) rfl rfl rfl (fun x2 ex2 => ?_)
    exact k_iret C rfl (Or.inl rfl) (Nat.le_of_ble_eq_true rfl) (Nat.le_of_ble_eq_true rfl) ⟨_, _, _, rfl, rfl, by (try simp only [z_r0_6, z_r0_7, z_r0_8, z_r0_9, z_r0_10]); simp only [k0_r0_4, k0_r0_5]; first | exact NOD.r ex2 (by omega) | exact NOD.z ex2 (by omega), rfl, rfl⟩
  refine k_aload_n C rfl rfl rfl ?_
  refine g_I C rfl rfl rfl T_r0 rfl k0_r0_4 ?_
  refine b_if_lt C (t := 38) rfl rfl rfl (fun c3 => ?_) (fun c3 => ?_)
  · skip
    refine z_iconst C (z := -1) rfl rfl rfl (fun x4 ex4 => ?_)
    exact k_iret C rfl (Or.inl rfl) (Nat.le_of_ble_eq_true rfl) (Nat.le_of_ble_eq_true rfl) ⟨_, _, _, rfl, rfl, by (try simp only [z_r0_6, z_r0_7, z_r0_8, z_r0_9, z_r0_10]); simp only [k0_r0_4, k0_r0_5]; first | exact NOD.r ex4 (by omega) | exact NOD.z ex4 (by omega), rfl, rfl⟩
  refine k_aload_n C rfl rfl rfl ?_
  refine g_I C rfl rfl rfl T_r0 rfl k0_r0_4 ?_
  refine k_aload_n C rfl rfl rfl ?_
  refine g_R C rfl rfl rfl T_r0 rfl R_r0_6 ?_
  obtain ⟨T_r0_6, N_r0_6, A_r0_6⟩ := id H_r0_6
  refine z_len C (n := 40) rfl rfl (by rw [T_r0_6]; exact Nat.le_of_ble_eq_true rfl) N_r0_6 (Nat.le_of_ble_eq_true rfl) (fun x5 ex5 => ?_)
  refine b_icmp_ge C (t := 38) rfl rfl rfl (fun c6 => ?_) (fun c6 => ?_)
  · skip
    refine z_iconst C (z := -1) rfl rfl rfl (fun x7 ex7 => ?_)
    exact k_iret C rfl (Or.inl rfl) (Nat.le_of_ble_eq_true rfl) (Nat.le_of_ble_eq_true rfl) ⟨_, _, _, rfl, rfl, by (try simp only [z_r0_6, z_r0_7, z_r0_8, z_r0_9, z_r0_10]); simp only [k0_r0_4, k0_r0_5]; first | exact NOD.r ex7 (by omega) | exact NOD.z ex7 (by omega), rfl, rfl⟩
  refine k_aload_n C rfl rfl rfl ?_
  refine g_R C rfl rfl rfl T_r0 rfl R_r0_6 ?_
  refine k_aload_n C rfl rfl rfl ?_
  refine g_I C rfl rfl rfl T_r0 rfl k0_r0_4 ?_
  refine z_aI C rfl rfl T_r0_6 N_r0_6 (by omega) (by omega) (fun x8 ex8 => ?_)
  have gx8 := rg x8
  refine k_goto C (pc2 := 39) rfl rfl ?_
  exact k_iret C rfl (Or.inl rfl) (Nat.le_of_ble_eq_true rfl) (Nat.le_of_ble_eq_true rfl) ⟨_, _, _, rfl, rfl, by (try simp only [z_r0_6, z_r0_7, z_r0_8, z_r0_9, z_r0_10]); simp only [k0_r0_4, k0_r0_5]; first | exact NOD.r ex8 (by omega) | exact NOD.z ex8 (by omega), rfl, rfl⟩

theorem s_X8_forgetFirst_x {d : Nat} {T N : Nat → Nat} {I : IT} {L : LT} {R : RT} {A B : Nat → Prop} {r0 : Nat} (hS : SUB B A) (hI : IX A T I) (H_r0 : (hs_St T N R A B) r0) (hU : UPR T R) (hp0 : 1 ≤ (I r0 4).toInt) (hp1 : (I r0 4).toInt ≤ 40) : Ex (d + 3) 102 [.ref r0] (T, N, I, L, R) 0 0 (pV T N R (fun I9 L9 => (FFD R I9 I r0) ∧ ((I9 r0 4).toInt = (I r0 4).toInt - 1) ∧ (IX A T I9 ∧ Chg (WSX R r0) T [(3, 0), (9, 4)] I L I9 L9))) := by
  refine ⟨_, rfl, Nat.le_of_ble_eq_true rfl, fun V C S => ?_⟩
  show V 0 [(0, .ref r0)] [] (T, N, I, L, R) 0 0
  obtain ⟨T_r0, A_r0, B_r0, ⟨r0_6, R_r0_6, H_r0_6⟩, ⟨r0_7, R_r0_7, H_r0_7⟩, ⟨r0_8, R_r0_8, H_r0_8⟩, ⟨r0_9, R_r0_9, H_r0_9⟩, ⟨r0_10, R_r0_10, H_r0_10⟩⟩ := id H_r0
  have z_r0_6 : rA R r0 6 = r0_6 := rA_e R_r0_6
  have z_r0_7 : rA R r0 7 = r0_7 := rA_e R_r0_7
  have z_r0_8 : rA R r0 8 = r0_8 := rA_e R_r0_8
  have z_r0_9 : rA R r0 9 = r0_9 := rA_e R_r0_9
  have z_r0_10 : rA R r0 10 = r0_10 := rA_e R_r0_10
  obtain ⟨T_r0_6, N_r0_6, A_r0_6⟩ := id H_r0_6
  obtain ⟨T_r0_7, N_r0_7, A_r0_7, E_r0_7⟩ := id H_r0_7
  have hG := GS.of H_r0
  try simp only [z_r0_6, z_r0_7, z_r0_8, z_r0_9, z_r0_10] at hp0
  try simp only [z_r0_6, z_r0_7, z_r0_8, z_r0_9, z_r0_10] at hp1
  obtain ⟨w_r0_4, k0_r0_4⟩ : ∃ x, I r0 4 = x := ⟨_, rfl⟩
  have gw_r0_4 := rg w_r0_4
  try simp only [k0_r0_4] at hp0
  try simp only [k0_r0_4] at hp1
  refine z_iconst C (z := 0) rfl rfl rfl (fun x1 ex1 => ?_)
  have J2 : ∀ (nn3 : Nat) (I4 : IT) (L5 : LT) (x6 : Int32) (x11 : Int32), (MN (39 - x6.toInt) nn3) → (IX A T I4) → (Chg (WSX R r0) T [(3, 0)] I L I4 L5) → (0 ≤ x6.toInt) → (x6.toInt ≤ 39) → (I4 r0 4 = x11) → (1 ≤ x11.toInt) → (x11.toInt ≤ 40) → (FFL R I4 I r0 x6.toInt) → (x11.toInt = w_r0_4.toInt) → V 2 [(0, .ref r0), (1, .int x6)] [] (T, N, I4, L5, R) 0 0 := by
    intro nn3
    induction nn3 using Nat.strongRecOn with
    | _ nn3 ihJ2 =>
      intro I4 L5 x6 x11 hmnn3 hI10 S9 b7 b8 e12 b13 b14 ff2_0 ff2_1
      have gx6 := rg x6
      have gx11 := rg x11
      have e17 := Chg.k S9 T_r0 (by decide) (by decide) k0_r0_4
      refine k_iload_n C rfl rfl rfl ?_
      refine z_iconst C (z := 1) rfl rfl rfl (fun x18 ex18 => ?_)
      refine z_iadd C rfl rfl ⟨by omega, by omega⟩ (fun x19 ex19 => ?_)
      refine k_aload_n C rfl rfl rfl ?_
      refine g_R C rfl rfl rfl T_r0 rfl R_r0_6 ?_
      refine z_len C (n := 40) rfl rfl (by rw [T_r0_6]; exact Nat.le_of_ble_eq_true rfl) N_r0_6 (Nat.le_of_ble_eq_true rfl) (fun x20 ex20 => ?_)
      refine b_icmp_ge C (t := 66) rfl rfl rfl (fun c21 => ?_) (fun c21 => ?_)
      · skip
        refine k_aload_n C rfl rfl rfl ?_
        refine k_dup C rfl rfl rfl ?_
        refine g_I C rfl rfl rfl T_r0 rfl e12 ?_
        refine z_iconst C (z := 1) rfl rfl rfl (fun x22 ex22 => ?_)
        refine z_isub C rfl rfl ⟨by omega, by omega⟩ (fun x23 ex23 => ?_)
        refine z_pI C rfl rfl rfl T_r0 (Or.inr rfl) rfl (fun I24 uI24 => ?_)
        have hI24 : IX A T I24 := IX.f hI10 T_r0 (boX.tr (by decide) (by decide)) uI24
        have S25 : Chg (SL [r0]) T [(9, 4)] I4 L5 I24 L5 := Chg.f List.mem_cons_self T_r0 uI24
        have e26 := u2_e uI24
        have hput4 := uI24
        exact k_vret C rfl rfl (Nat.le_of_ble_eq_true rfl) (Nat.le_of_ble_eq_true rfl) ⟨_, _, rfl, rfl, by (try simp only [z_r0_6, z_r0_7, z_r0_8, z_r0_9, z_r0_10]); exact FFL.e ff2_0 (by omega) hG hput4, by first | omega | (simp only [e26, k0_r0_4, and_true, true_and, or_true, true_or, and_false, false_and, or_false, false_or] <;> omega), hI24, (Chg.cons S9 (Chg.mono (Chg.up S25 (sl_1 (Or.inl rfl))) (by decide)) (by decide))⟩
      refine k_aload_n C rfl rfl rfl ?_
      refine g_R C rfl rfl rfl T_r0 rfl R_r0_6 ?_
      refine k_iload_n C rfl rfl rfl ?_
      refine k_aload_n C rfl rfl rfl ?_
      refine g_R C rfl rfl rfl T_r0 rfl R_r0_6 ?_
      refine k_iload_n C rfl rfl rfl ?_
      refine z_iconst C (z := 1) rfl rfl rfl (fun x27 ex27 => ?_)
      refine z_iadd C rfl rfl ⟨by omega, by omega⟩ (fun x28 ex28 => ?_)
      refine z_aI C rfl rfl T_r0_6 N_r0_6 (by omega) (by omega) (fun x29 ex29 => ?_)
      have gx29 := rg x29
      have hrd := ex29
      refine z_sI C rfl rfl T_r0_6 N_r0_6 (by omega) (by omega) (fun I30 uI30 => ?_)
      have hI30 : IX A T I30 := IX.a hI10 T_r0_6 (Nat.le_of_ble_eq_true rfl) uI30
      have S31 : Chg (SL [r0_6]) T [] I4 L5 I30 L5 := Chg.a List.mem_cons_self T_r0_6 (Nat.le_of_ble_eq_true rfl) uI30
      have e32 := u2_n uI30 (t_nq T_r0 T_r0_6 (by decide)) e12
      have hput := uI30
      refine k_aload_n C rfl rfl rfl ?_
      refine g_R C rfl rfl rfl T_r0 rfl R_r0_7 ?_
      refine k_iload_n C rfl rfl rfl ?_
      have nA := ncz (x := x6) (by omega); have hA9 := ncn (n := 40) (j := x6) (by omega) (by omega)
      refine c_SR C (s_X2_pick_Row40_x hS hI30 H_r0_7) rfl rfl rfl rfl rfl rfl rfl (Nat.le_of_ble_eq_true rfl) (Nat.le_of_ble_eq_true rfl) (Nat.le_of_ble_eq_true rfl) ?_
      rintro yy33 _ _ ⟨hyy33, p0yy33, rfl, rfl⟩
      try simp only [z_r0_6, z_r0_7, z_r0_8, z_r0_9, z_r0_10] at p0yy33
      try simp only [e32] at p0yy33
      try have q0yy33 := congrArg Int32.toInt p0yy33
      have hpA := p0yy33; rw [N_r0_7] at hpA
      refine k_astore_nV C (x := yy33) (lw := [(2, va_rf yy33), (0, .ref r0), (1, .int x6)]) rfl rfl (Nat.le_of_ble_eq_true rfl) rfl ?_
      refine k_aload_n C rfl rfl rfl ?_
      refine g_R C rfl rfl rfl T_r0 rfl R_r0_7 ?_
      refine k_iload_n C rfl rfl rfl ?_
      refine z_iconst C (z := 1) rfl rfl rfl (fun x34 ex34 => ?_)
      refine z_iadd C rfl rfl ⟨by omega, by omega⟩ (fun x35 ex35 => ?_)
      have nB := ncz (x := x35) (by omega); have hB9 := ncn (n := 40) (j := x35) (by omega) (by omega)
      refine c_SR C (s_X2_pick_Row40_x hS hI30 H_r0_7) rfl rfl rfl rfl rfl rfl rfl (Nat.le_of_ble_eq_true rfl) (Nat.le_of_ble_eq_true rfl) (Nat.le_of_ble_eq_true rfl) ?_
      rintro yy36 _ _ ⟨hyy36, p0yy36, rfl, rfl⟩
      try simp only [z_r0_6, z_r0_7, z_r0_8, z_r0_9, z_r0_10] at p0yy36
      try simp only [e32] at p0yy36
      try have q0yy36 := congrArg Int32.toInt p0yy36
      have hpB := p0yy36; rw [N_r0_7] at hpB
      refine k_astore_nV C (x := yy36) (lw := [(3, va_rf yy36), (2, va_rf yy33), (0, .ref r0), (1, .int x6)]) rfl rfl (Nat.le_of_ble_eq_true rfl) (by cases yy33 <;> rfl) ?_
      refine k_aload_nV C (x := yy33) rfl rfl rfl ?_
      refine k_ifnull C (x := yy33) (t := 60) rfl rfl rfl (fun c37 => ?_) (fun rr38 c37 => ?_)
      · skip
        subst c37
        exact (PKD.no hpA (by omega) (by omega) E_r0_7).elim
      subst c37
      have H_rr38 := hyy33 rr38 rfl
      have oA := OA_e z_r0_7 (PKD.q hpA (by omega) (by omega)); have O9rr38 := oA; have H9rr38 := hA9; have fA := FO.of H_rr38
      refine k_aload_nV C (x := yy36) rfl rfl rfl ?_
      refine k_ifnull C (x := yy36) (t := 60) rfl rfl rfl (fun c39 => ?_) (fun rr40 c39 => ?_)
      · skip
        subst c39
        exact (PKD.no hpB (by omega) (by omega) E_r0_7).elim
      subst c39
      have H_rr40 := hyy36 rr40 rfl
      have oB := OA_e z_r0_7 (PKD.q hpB (by omega) (by omega)); have fB := FO.of H_rr40
      refine k_aload_n C rfl rfl rfl ?_
      refine k_aload_n C rfl rfl rfl ?_
      obtain ⟨T_rr38, A_rr38, ⟨rr38_1, R_rr38_1, H_rr38_1⟩⟩ := id H_rr38
      have z_rr38_1 : rA R rr38 1 = rr38_1 := rA_e R_rr38_1
      obtain ⟨T_rr40, A_rr40, ⟨rr40_1, R_rr40_1, H_rr40_1⟩⟩ := id H_rr40
      have z_rr40_1 : rA R rr40 1 = rr40_1 := rA_e R_rr40_1
      refine c_VV C (s_X2_copyFrom_x hS hI30 H_rr38 H_rr40 (oneq hU hG oA oB hA9 hB9 (by omega)) (obneq hU fA fB (oneq hU hG oA oB hA9 hB9 (by omega)))) rfl rfl rfl rfl rfl ⟨_, rfl, rfl, T_rr38, Nat.le_of_ble_eq_true rfl⟩ rfl rfl (Nat.le_of_ble_eq_true rfl) (Nat.le_of_ble_eq_true rfl) (Nat.le_of_ble_eq_true rfl) ?_
      rintro I42 L43 ⟨p0v41, hI42, S44⟩
      try simp only [z_r0_6, z_r0_7, z_r0_8, z_r0_9, z_r0_10, z_rr38_1, z_rr40_1] at S44
      have e45 := Chg.k S44 T_r0 (by decide) (by decide) e32
      obtain ⟨x46, e47⟩ : ∃ x, I42 rr38 0 = x := ⟨_, rfl⟩
      have gx46 := rg x46
      have ox46 := IX.deg hI42 A_rr38 T_rr38 e47
      try simp only [z_r0_6, z_r0_7, z_r0_8, z_r0_9, z_r0_10, z_rr38_1, z_rr40_1] at p0v41
      try simp only [e32, e47] at p0v41
      try have q0v41 := congrArg Int32.toInt p0v41
      have hcp := p0v41; have hcS := S44
      refine z_iinc C (z := 1) (lw := fun x48 => [(1, .int x48), (3, .ref rr40), (2, .ref rr38), (0, .ref r0)]) rfl rfl rfl (Nat.le_of_ble_eq_true rfl) rfl ⟨by omega, by omega⟩ (fun _ => rfl) (fun x48 ex48 => ?_)
      show V 63 [(1, .int x48), (3, .ref rr40), (2, .ref rr38), (0, .ref r0)] _ _ _ _
      refine k_goto C (pc2 := 2) rfl rfl ?_
      refine k_sub S [(0, .ref r0), (1, .int x48)] (List.forall_mem_cons.mpr ⟨List.mem_of_getElem? (i := 3) rfl, List.forall_mem_cons.mpr ⟨List.mem_of_getElem? (i := 0) rfl, fun _ h => nomatch h⟩⟩) ?_
      exact ihJ2 _ (MN.lt hmnn3 (by omega) (by omega)) I42 L43 x48 x11 rfl hI42 (Chg.cons S9 (Chg.cons (Chg.up S31 (sl_1 (WSX.w z_r0_6))) (Chg.mono (Chg.up S44 (sl_2 (WSX.o O9rr38 H9rr38) (WSX.a O9rr38 z_rr38_1 H9rr38))) (by decide)) (by decide)) (by decide)) (by omega) (by omega) e45 (by omega) (by omega) (by exact FFL.s ff2_0 hU hG z_r0_6 hput hrd oA oB (by assumption) hcp hcS (by omega) (by omega) (by omega) (by omega) (by omega)) (by omega)
  refine k_istore_n C (lw := [(1, .int x1), (0, .ref r0)]) rfl rfl (Nat.le_of_ble_eq_true rfl) rfl ?_
  refine k_sub S [(0, .ref r0), (1, .int x1)] (List.forall_mem_cons.mpr ⟨List.mem_of_getElem? (i := 1) rfl, List.forall_mem_cons.mpr ⟨List.mem_of_getElem? (i := 0) rfl, fun _ h => nomatch h⟩⟩) ?_
  exact J2 _ I L x1 w_r0_4 rfl hI Chg.rf (by omega) (by omega) k0_r0_4 (by omega) (by omega) (by exact FFL.z (by omega)) (by omega)

theorem s_X8_write_x {d : Nat} {T N : Nat → Nat} {I : IT} {L : LT} {R : RT} {A B : Nat → Prop} {r0 r2 : Nat} {n1 : Int32} (hS : SUB B A) (hI : IX A T I) (H_r0 : (hs_St T N R A B) r0) (H_r2 : (hs_F T N R A B) r2) (hU : UPR T R) (hp0 : 0 ≤ (I r0 4).toInt) (hp1 : (I r0 4).toInt ≤ 40) (hp2 : ¬ WSX R r0 r2) (hp3 : ¬ WSX R r0 (rA R r2 1)) : Ex (d + 4) 103 [.ref r0, .int n1, .ref r2] (T, N, I, L, R) 0 0 (pV T N R (fun I9 L9 => (WRD R I9 I r0 n1 r2 (I r0 4).toInt) ∧ ((I9 r0 5).toInt = 0) ∧ (IX A T I9 ∧ Chg (WSX R r0) T [(3, 0), (9, 4), (9, 5)] I L I9 L9))) := by
  refine ⟨_, rfl, Nat.le_of_ble_eq_true rfl, fun V C S => ?_⟩
  show V 0 [(0, .ref r0), (1, .int n1), (2, .ref r2)] [] (T, N, I, L, R) 0 0
  have gn1 := rg n1
  obtain ⟨T_r0, A_r0, B_r0, ⟨r0_6, R_r0_6, H_r0_6⟩, ⟨r0_7, R_r0_7, H_r0_7⟩, ⟨r0_8, R_r0_8, H_r0_8⟩, ⟨r0_9, R_r0_9, H_r0_9⟩, ⟨r0_10, R_r0_10, H_r0_10⟩⟩ := id H_r0
  have z_r0_6 : rA R r0 6 = r0_6 := rA_e R_r0_6
  have z_r0_7 : rA R r0 7 = r0_7 := rA_e R_r0_7
  have z_r0_8 : rA R r0 8 = r0_8 := rA_e R_r0_8
  have z_r0_9 : rA R r0 9 = r0_9 := rA_e R_r0_9
  have z_r0_10 : rA R r0 10 = r0_10 := rA_e R_r0_10
  obtain ⟨T_r0_6, N_r0_6, A_r0_6⟩ := id H_r0_6
  obtain ⟨T_r0_7, N_r0_7, A_r0_7, E_r0_7⟩ := id H_r0_7
  have hG := GS.of H_r0
  obtain ⟨T_r2, A_r2, ⟨r2_1, R_r2_1, H_r2_1⟩⟩ := id H_r2
  have z_r2_1 : rA R r2 1 = r2_1 := rA_e R_r2_1
  try simp only [z_r0_6, z_r0_7, z_r0_8, z_r0_9, z_r0_10, z_r2_1] at hp0
  try simp only [z_r0_6, z_r0_7, z_r0_8, z_r0_9, z_r0_10, z_r2_1] at hp1
  try simp only [z_r0_6, z_r0_7, z_r0_8, z_r0_9, z_r0_10, z_r2_1] at hp2
  try simp only [z_r0_6, z_r0_7, z_r0_8, z_r0_9, z_r0_10, z_r2_1] at hp3
  obtain ⟨w_r0_4, k0_r0_4⟩ : ∃ x, I r0 4 = x := ⟨_, rfl⟩
  have gw_r0_4 := rg w_r0_4
  try simp only [k0_r0_4] at hp0
  try simp only [k0_r0_4] at hp1
  try simp only [k0_r0_4] at hp2
  try simp only [k0_r0_4] at hp3
  refine k_aload_n C rfl rfl rfl ?_
  refine z_iconst C (z := 0) rfl rfl rfl (fun x1 ex1 => ?_)
  refine z_pI C rfl rfl rfl T_r0 (Or.inr rfl) rfl (fun I2 uI2 => ?_)
  have hI2 : IX A T I2 := IX.f hI T_r0 (boX.tr (by decide) (by decide)) uI2
  have S3 : Chg (SL [r0]) T [(9, 5)] I L I2 L := Chg.f List.mem_cons_self T_r0 uI2
  have e4 := u2_j uI2 (by decide) k0_r0_4
  have e5 := u2_e uI2
  have hu5 := uI2
  refine k_aload_n C rfl rfl rfl ?_
  refine g_I C rfl rfl rfl T_r0 rfl e4 ?_
  refine z_bipush C (z := 40) rfl rfl rfl (fun x6 ex6 => ?_)
  refine b_icmp_lt C (t := 18) rfl rfl rfl (fun c7 => ?_) (fun c7 => ?_)
  · skip
    refine k_aload_n C rfl rfl rfl ?_
    refine g_R C rfl rfl rfl T_r0 rfl R_r0_7 ?_
    refine k_aload_n C rfl rfl rfl ?_
    refine g_I C rfl rfl rfl T_r0 rfl e4 ?_
    have hA9 : w_r0_4.toInt < 40 → w_r0_4.toNatClampNeg < 40 := fun h => ncn (n := 40) (j := w_r0_4) (by omega) h
    refine c_SR C (s_X2_pick_Row40_x hS hI2 H_r0_7) rfl rfl rfl rfl rfl rfl rfl (Nat.le_of_ble_eq_true rfl) (Nat.le_of_ble_eq_true rfl) (Nat.le_of_ble_eq_true rfl) ?_
    rintro yy8 _ _ ⟨hyy8, p0yy8, rfl, rfl⟩
    try simp only [z_r0_6, z_r0_7, z_r0_8, z_r0_9, z_r0_10, z_r2_1] at p0yy8
    try simp only [e4, e5] at p0yy8
    try have q0yy8 := congrArg Int32.toInt p0yy8
    have hpA := p0yy8; rw [N_r0_7] at hpA
    refine k_astore_nV C (x := yy8) (lw := [(3, va_rf yy8), (0, .ref r0), (1, .int n1), (2, .ref r2)]) rfl rfl (Nat.le_of_ble_eq_true rfl) rfl ?_
    refine k_aload_nV C (x := yy8) rfl rfl rfl ?_
    refine k_ifnull C (x := yy8) (t := 78) rfl rfl rfl (fun c9 => ?_) (fun rr10 c9 => ?_)
    · skip
      subst c9
      exact (PKD.no hpA (by omega) (by omega) E_r0_7).elim
    subst c9
    have H_rr10 := hyy8 rr10 rfl
    have oA := OA_e z_r0_7 (PKD.q hpA (by omega) (by omega)); have O9rr10 := oA; have H9rr10 := hA9 (by omega); have fA := FO.of H_rr10
    refine k_aload_n C rfl rfl rfl ?_
    refine g_I C rfl rfl rfl T_r0 rfl e4 ?_
    refine b_if_lt C (t := 78) rfl rfl rfl (fun c11 => by exfalso; omega) (fun c11 => ?_)
    refine k_aload_n C rfl rfl rfl ?_
    refine g_I C rfl rfl rfl T_r0 rfl e4 ?_
    refine k_aload_n C rfl rfl rfl ?_
    refine g_R C rfl rfl rfl T_r0 rfl R_r0_6 ?_
    refine z_len C (n := 40) rfl rfl (by rw [T_r0_6]; exact Nat.le_of_ble_eq_true rfl) N_r0_6 (Nat.le_of_ble_eq_true rfl) (fun x12 ex12 => ?_)
    refine b_icmp_ge C (t := 78) rfl rfl rfl (fun c13 => by exfalso; omega) (fun c13 => ?_)
    refine k_aload_n C rfl rfl rfl ?_
    refine g_R C rfl rfl rfl T_r0 rfl R_r0_6 ?_
    refine k_aload_n C rfl rfl rfl ?_
    refine g_I C rfl rfl rfl T_r0 rfl e4 ?_
    refine k_iload_n C rfl rfl rfl ?_
    refine z_sI C rfl rfl T_r0_6 N_r0_6 (by omega) (by omega) (fun I14 uI14 => ?_)
    have hI14 : IX A T I14 := IX.a hI2 T_r0_6 (Nat.le_of_ble_eq_true rfl) uI14
    have S15 : Chg (SL [r0_6]) T [] I2 L I14 L := Chg.a List.mem_cons_self T_r0_6 (Nat.le_of_ble_eq_true rfl) uI14
    have e16 := u2_n uI14 (t_nq T_r0 T_r0_6 (by decide)) e4
    have e17 := u2_n uI14 (t_nq T_r0 T_r0_6 (by decide)) e5
    have hput := uI14
    refine k_aload_n C rfl rfl rfl ?_
    refine k_aload_n C rfl rfl rfl ?_
    obtain ⟨T_rr10, A_rr10, ⟨rr10_1, R_rr10_1, H_rr10_1⟩⟩ := id H_rr10
    have z_rr10_1 : rA R rr10 1 = rr10_1 := rA_e R_rr10_1
    refine c_VV C (s_X2_copyFrom_x hS hI14 H_rr10 H_r2 (fun e => hp2 (WSX.o (oA.trans e) (hA9 (by omega)))) (fun e => hp3 (WSX.a oA (e.trans z_r2_1) (hA9 (by omega))))) rfl rfl rfl rfl rfl ⟨_, rfl, rfl, T_rr10, Nat.le_of_ble_eq_true rfl⟩ rfl rfl (Nat.le_of_ble_eq_true rfl) (Nat.le_of_ble_eq_true rfl) (Nat.le_of_ble_eq_true rfl) ?_
    rintro I19 L20 ⟨p0v18, hI19, S21⟩
    try simp only [z_r0_6, z_r0_7, z_r0_8, z_r0_9, z_r0_10, z_r2_1, z_rr10_1] at S21
    have e22 := Chg.k S21 T_r0 (by decide) (by decide) e16
    have e23 := Chg.k S21 T_r0 (by decide) (by decide) e17
    obtain ⟨x24, e25⟩ : ∃ x, I19 rr10 0 = x := ⟨_, rfl⟩
    have gx24 := rg x24
    have ox24 := IX.deg hI19 A_rr10 T_rr10 e25
    try simp only [z_r0_6, z_r0_7, z_r0_8, z_r0_9, z_r0_10, z_r2_1, z_rr10_1] at p0v18
    try simp only [e16, e17, e25] at p0v18
    try have q0v18 := congrArg Int32.toInt p0v18
    have hcp := p0v18; have hcS := S21
    refine k_aload_n C rfl rfl rfl ?_
    refine k_dup C rfl rfl rfl ?_
    refine g_I C rfl rfl rfl T_r0 rfl e22 ?_
    refine z_iconst C (z := 1) rfl rfl rfl (fun x26 ex26 => ?_)
    refine z_iadd C rfl rfl ⟨by omega, by omega⟩ (fun x27 ex27 => ?_)
    refine z_pI C rfl rfl rfl T_r0 (Or.inr rfl) rfl (fun I28 uI28 => ?_)
    have hI28 : IX A T I28 := IX.f hI19 T_r0 (boX.tr (by decide) (by decide)) uI28
    have S29 : Chg (SL [r0]) T [(9, 4)] I19 L20 I28 L20 := Chg.f List.mem_cons_self T_r0 uI28
    have e30 := u2_j uI28 (by decide) e23
    have e31 := u2_j uI28 (by decide) e25
    have e32 := u2_e uI28
    have hput4 := uI28
    exact k_vret C rfl rfl (Nat.le_of_ble_eq_true rfl) (Nat.le_of_ble_eq_true rfl) ⟨_, _, rfl, rfl, by (try simp only [z_r0_6, z_r0_7, z_r0_8, z_r0_9, z_r0_10, z_r2_1, z_rr10_1]); first | (exfalso; omega) | (simp only [k0_r0_4]; first | exact WRD.b hU hG hp2 (by rw [z_r2_1]; exact hp3) (FO.of H_r2) hu5 hff hffS z_r0_6 hput oA (by assumption) hcp hcS hput4 (by omega) (by omega) (by omega) | exact WRD.a hU hG (FO.of H_r2) hu5 z_r0_6 hput oA (by assumption) hcp hcS hput4 (by omega) (by omega) (by omega)), by first | omega | (simp only [e30, e31, e32, k0_r0_4, and_true, true_and, or_true, true_or, and_false, false_and, or_false, false_or] <;> omega), hI28, (Chg.cons (Chg.up S3 (sl_1 (Or.inl rfl))) (Chg.cons (Chg.up S15 (sl_1 (WSX.w z_r0_6))) (Chg.cons (Chg.up S21 (sl_2 (WSX.o O9rr10 H9rr10) (WSX.a O9rr10 z_rr10_1 H9rr10))) (Chg.mono (Chg.up S29 (sl_1 (Or.inl rfl))) (by decide)) (by decide)) (by decide)) (by decide))⟩
  refine k_aload_n C rfl rfl rfl ?_
  refine c_VV C (s_X8_forgetFirst_x hS hI2 H_r0 hU (by first | omega | (simp only [e4, e5, and_true, true_and, or_true, true_or, and_false, false_and, or_false, false_or] <;> omega)) (by first | omega | (simp only [e4, e5, and_true, true_and, or_true, true_or, and_false, false_and, or_false, false_or] <;> omega))) rfl rfl rfl rfl rfl ⟨_, rfl, rfl, T_r0, Nat.le_of_ble_eq_true rfl⟩ rfl rfl (Nat.le_of_ble_eq_true rfl) (Nat.le_of_ble_eq_true rfl) (Nat.le_of_ble_eq_true rfl) ?_
  rintro I34 L35 ⟨p0v33, p1v33, hI34, S36⟩
  try simp only [z_r0_6, z_r0_7, z_r0_8, z_r0_9, z_r0_10, z_r2_1] at S36
  have e37 := Chg.k S36 T_r0 (by decide) (by decide) e5
  obtain ⟨x38, e39⟩ : ∃ x, I34 r0 4 = x := ⟨_, rfl⟩
  have gx38 := rg x38
  try simp only [z_r0_6, z_r0_7, z_r0_8, z_r0_9, z_r0_10, z_r2_1] at p0v33
  try simp only [z_r0_6, z_r0_7, z_r0_8, z_r0_9, z_r0_10, z_r2_1] at p1v33
  try simp only [e4, e5, e39] at p0v33
  try have q0v33 := congrArg Int32.toInt p0v33
  try simp only [e4, e5, e39] at p1v33
  try have q1v33 := congrArg Int32.toInt p1v33
  have hff := p0v33; have hffS := S36
  refine k_aload_n C rfl rfl rfl ?_
  refine g_R C rfl rfl rfl T_r0 rfl R_r0_7 ?_
  refine k_aload_n C rfl rfl rfl ?_
  refine g_I C rfl rfl rfl T_r0 rfl e39 ?_
  have hA9 : x38.toInt < 40 → x38.toNatClampNeg < 40 := fun h => ncn (n := 40) (j := x38) (by omega) h
  refine c_SR C (s_X2_pick_Row40_x hS hI34 H_r0_7) rfl rfl rfl rfl rfl rfl rfl (Nat.le_of_ble_eq_true rfl) (Nat.le_of_ble_eq_true rfl) (Nat.le_of_ble_eq_true rfl) ?_
  rintro yy40 _ _ ⟨hyy40, p0yy40, rfl, rfl⟩
  try simp only [z_r0_6, z_r0_7, z_r0_8, z_r0_9, z_r0_10, z_r2_1] at p0yy40
  try simp only [e37, e39] at p0yy40
  try have q0yy40 := congrArg Int32.toInt p0yy40
  have hpA := p0yy40; rw [N_r0_7] at hpA
  refine k_astore_nV C (x := yy40) (lw := [(3, va_rf yy40), (0, .ref r0), (1, .int n1), (2, .ref r2)]) rfl rfl (Nat.le_of_ble_eq_true rfl) rfl ?_
  refine k_aload_nV C (x := yy40) rfl rfl rfl ?_
  refine k_ifnull C (x := yy40) (t := 78) rfl rfl rfl (fun c41 => ?_) (fun rr42 c41 => ?_)
  · skip
    subst c41
    exact (PKD.no hpA (by omega) (by omega) E_r0_7).elim
  subst c41
  have H_rr42 := hyy40 rr42 rfl
  have oA := OA_e z_r0_7 (PKD.q hpA (by omega) (by omega)); have O9rr42 := oA; have H9rr42 := hA9 (by omega); have fA := FO.of H_rr42
  refine k_aload_n C rfl rfl rfl ?_
  refine g_I C rfl rfl rfl T_r0 rfl e39 ?_
  refine b_if_lt C (t := 78) rfl rfl rfl (fun c43 => by exfalso; omega) (fun c43 => ?_)
  refine k_aload_n C rfl rfl rfl ?_
  refine g_I C rfl rfl rfl T_r0 rfl e39 ?_
  refine k_aload_n C rfl rfl rfl ?_
  refine g_R C rfl rfl rfl T_r0 rfl R_r0_6 ?_
  refine z_len C (n := 40) rfl rfl (by rw [T_r0_6]; exact Nat.le_of_ble_eq_true rfl) N_r0_6 (Nat.le_of_ble_eq_true rfl) (fun x44 ex44 => ?_)
  refine b_icmp_ge C (t := 78) rfl rfl rfl (fun c45 => by exfalso; omega) (fun c45 => ?_)
  refine k_aload_n C rfl rfl rfl ?_
  refine g_R C rfl rfl rfl T_r0 rfl R_r0_6 ?_
  refine k_aload_n C rfl rfl rfl ?_
  refine g_I C rfl rfl rfl T_r0 rfl e39 ?_
  refine k_iload_n C rfl rfl rfl ?_
  refine z_sI C rfl rfl T_r0_6 N_r0_6 (by omega) (by omega) (fun I46 uI46 => ?_)
  have hI46 : IX A T I46 := IX.a hI34 T_r0_6 (Nat.le_of_ble_eq_true rfl) uI46
  have S47 : Chg (SL [r0_6]) T [] I34 L35 I46 L35 := Chg.a List.mem_cons_self T_r0_6 (Nat.le_of_ble_eq_true rfl) uI46
  have e48 := u2_n uI46 (t_nq T_r0 T_r0_6 (by decide)) e37
  have e49 := u2_n uI46 (t_nq T_r0 T_r0_6 (by decide)) e39
  have hput := uI46
  refine k_aload_n C rfl rfl rfl ?_
  refine k_aload_n C rfl rfl rfl ?_
  obtain ⟨T_rr42, A_rr42, ⟨rr42_1, R_rr42_1, H_rr42_1⟩⟩ := id H_rr42
  have z_rr42_1 : rA R rr42 1 = rr42_1 := rA_e R_rr42_1
  refine c_VV C (s_X2_copyFrom_x hS hI46 H_rr42 H_r2 (fun e => hp2 (WSX.o (oA.trans e) (hA9 (by omega)))) (fun e => hp3 (WSX.a oA (e.trans z_r2_1) (hA9 (by omega))))) rfl rfl rfl rfl rfl ⟨_, rfl, rfl, T_rr42, Nat.le_of_ble_eq_true rfl⟩ rfl rfl (Nat.le_of_ble_eq_true rfl) (Nat.le_of_ble_eq_true rfl) (Nat.le_of_ble_eq_true rfl) ?_
  rintro I51 L52 ⟨p0v50, hI51, S53⟩
  try simp only [z_r0_6, z_r0_7, z_r0_8, z_r0_9, z_r0_10, z_r2_1, z_rr42_1] at S53
  have e54 := Chg.k S53 T_r0 (by decide) (by decide) e48
  have e55 := Chg.k S53 T_r0 (by decide) (by decide) e49
  obtain ⟨x56, e57⟩ : ∃ x, I51 rr42 0 = x := ⟨_, rfl⟩
  have gx56 := rg x56
  have ox56 := IX.deg hI51 A_rr42 T_rr42 e57
  try simp only [z_r0_6, z_r0_7, z_r0_8, z_r0_9, z_r0_10, z_r2_1, z_rr42_1] at p0v50
  try simp only [e48, e49, e57] at p0v50
  try have q0v50 := congrArg Int32.toInt p0v50
  have hcp := p0v50; have hcS := S53
  refine k_aload_n C rfl rfl rfl ?_
  refine k_dup C rfl rfl rfl ?_
  refine g_I C rfl rfl rfl T_r0 rfl e55 ?_
  refine z_iconst C (z := 1) rfl rfl rfl (fun x58 ex58 => ?_)
  refine z_iadd C rfl rfl ⟨by omega, by omega⟩ (fun x59 ex59 => ?_)
  refine z_pI C rfl rfl rfl T_r0 (Or.inr rfl) rfl (fun I60 uI60 => ?_)
  have hI60 : IX A T I60 := IX.f hI51 T_r0 (boX.tr (by decide) (by decide)) uI60
  have S61 : Chg (SL [r0]) T [(9, 4)] I51 L52 I60 L52 := Chg.f List.mem_cons_self T_r0 uI60
  have e62 := u2_j uI60 (by decide) e54
  have e63 := u2_j uI60 (by decide) e57
  have e64 := u2_e uI60
  have hput4 := uI60
  exact k_vret C rfl rfl (Nat.le_of_ble_eq_true rfl) (Nat.le_of_ble_eq_true rfl) ⟨_, _, rfl, rfl, by (try simp only [z_r0_6, z_r0_7, z_r0_8, z_r0_9, z_r0_10, z_r2_1, z_rr42_1]); first | (exfalso; omega) | (simp only [k0_r0_4]; first | exact WRD.b hU hG hp2 (by rw [z_r2_1]; exact hp3) (FO.of H_r2) hu5 hff hffS z_r0_6 hput oA (by assumption) hcp hcS hput4 (by omega) (by omega) (by omega) | exact WRD.a hU hG (FO.of H_r2) hu5 z_r0_6 hput oA (by assumption) hcp hcS hput4 (by omega) (by omega) (by omega)), by first | omega | (simp only [e62, e63, e64, k0_r0_4, and_true, true_and, or_true, true_or, and_false, false_and, or_false, false_or] <;> omega), hI60, (Chg.cons (Chg.up S3 (sl_1 (Or.inl rfl))) (Chg.cons (Chg.up S36 (fun _ h => h)) (Chg.cons (Chg.up S47 (sl_1 (WSX.w z_r0_6))) (Chg.cons (Chg.up S53 (sl_2 (WSX.o O9rr42 H9rr42) (WSX.a O9rr42 z_rr42_1 H9rr42))) (Chg.mono (Chg.up S61 (sl_1 (Or.inl rfl))) (by decide)) (by decide)) (by decide)) (by decide)) (by decide))⟩

theorem s_X8_stepBack_x {d : Nat} {T N : Nat → Nat} {I : IT} {L : LT} {R : RT} {A B : Nat → Prop} {r0 r1 : Nat} (hS : SUB B A) (hI : IX A T I) (H_r0 : (hs_St T N R A B) r0) (H_r1 : (hs_F T N R A B) r1) (hU : UPR T R) (hp0 : 1 ≤ (I r0 4).toInt) (hp1 : (I r0 4).toInt ≤ 40) (hp2 : 0 ≤ (I r0 5).toInt ∧ (I r0 5).toInt ≤ 40) (hp3 : ¬ WSX R r0 r1) (hp4 : ¬ WSX R r0 (rA R r1 1)) (hp5 : (I (OA R r0 ((I r0 4).toInt - 1).toNat) 0).toInt = (I r1 0).toInt) : Ex (d + 3) 107 [.ref r0, .ref r1] (T, N, I, L, R) 0 0 (pV T N R (fun I9 L9 => (SBD R I9 I r0 r1 ((I r0 4).toInt - 1).toNat) ∧ ((I9 r0 4).toInt = (I r0 4).toInt - 1) ∧ ((I9 r0 5).toInt = (I r0 5).toInt + 1) ∧ (IX A T I9 ∧ Chg (fun a => WSX R r0 a ∨ a = rA R r1 1) T [(9, 4), (9, 5)] I L I9 L9))) := by
  refine ⟨_, rfl, Nat.le_of_ble_eq_true rfl, fun V C S => ?_⟩
  show V 0 [(0, .ref r0), (1, .ref r1)] [] (T, N, I, L, R) 0 0
  obtain ⟨T_r0, A_r0, B_r0, ⟨r0_6, R_r0_6, H_r0_6⟩, ⟨r0_7, R_r0_7, H_r0_7⟩, ⟨r0_8, R_r0_8, H_r0_8⟩, ⟨r0_9, R_r0_9, H_r0_9⟩, ⟨r0_10, R_r0_10, H_r0_10⟩⟩ := id H_r0
  have z_r0_6 : rA R r0 6 = r0_6 := rA_e R_r0_6
  have z_r0_7 : rA R r0 7 = r0_7 := rA_e R_r0_7
  have z_r0_8 : rA R r0 8 = r0_8 := rA_e R_r0_8
  have z_r0_9 : rA R r0 9 = r0_9 := rA_e R_r0_9
  have z_r0_10 : rA R r0 10 = r0_10 := rA_e R_r0_10
  obtain ⟨T_r0_6, N_r0_6, A_r0_6⟩ := id H_r0_6
  obtain ⟨T_r0_7, N_r0_7, A_r0_7, E_r0_7⟩ := id H_r0_7
  have hG := GS.of H_r0
  obtain ⟨T_r1, A_r1, ⟨r1_1, R_r1_1, H_r1_1⟩⟩ := id H_r1
  have z_r1_1 : rA R r1 1 = r1_1 := rA_e R_r1_1
  try simp only [z_r0_6, z_r0_7, z_r0_8, z_r0_9, z_r0_10, z_r1_1] at hp0
  try simp only [z_r0_6, z_r0_7, z_r0_8, z_r0_9, z_r0_10, z_r1_1] at hp1
  try simp only [z_r0_6, z_r0_7, z_r0_8, z_r0_9, z_r0_10, z_r1_1] at hp2
  try simp only [z_r0_6, z_r0_7, z_r0_8, z_r0_9, z_r0_10, z_r1_1] at hp3
  try simp only [z_r0_6, z_r0_7, z_r0_8, z_r0_9, z_r0_10, z_r1_1] at hp4
  try simp only [z_r0_6, z_r0_7, z_r0_8, z_r0_9, z_r0_10, z_r1_1] at hp5
  obtain ⟨w_r0_4, k0_r0_4⟩ : ∃ x, I r0 4 = x := ⟨_, rfl⟩
  have gw_r0_4 := rg w_r0_4
  obtain ⟨w_r0_5, k0_r0_5⟩ : ∃ x, I r0 5 = x := ⟨_, rfl⟩
  have gw_r0_5 := rg w_r0_5
  try simp only [k0_r0_4, k0_r0_5] at hp0
  try simp only [k0_r0_4, k0_r0_5] at hp1
  try simp only [k0_r0_4, k0_r0_5] at hp2
  try simp only [k0_r0_4, k0_r0_5] at hp3
  try simp only [k0_r0_4, k0_r0_5] at hp4
  try simp only [k0_r0_4, k0_r0_5] at hp5
  refine k_aload_n C rfl rfl rfl ?_
  refine g_R C rfl rfl rfl T_r0 rfl R_r0_7 ?_
  refine k_aload_n C rfl rfl rfl ?_
  refine g_I C rfl rfl rfl T_r0 rfl k0_r0_4 ?_
  refine z_iconst C (z := 1) rfl rfl rfl (fun x1 ex1 => ?_)
  refine z_isub C rfl rfl ⟨by omega, by omega⟩ (fun x2 ex2 => ?_)
  have hA9 := ncn (n := 40) (j := x2) (by omega) (by omega); have hAi : x2.toNatClampNeg = (w_r0_4.toInt - 1).toNat := by (have := ncz (x := x2) (by omega); omega)
  refine c_SR C (s_X2_pick_Row40_x hS hI H_r0_7) rfl rfl rfl rfl rfl rfl rfl (Nat.le_of_ble_eq_true rfl) (Nat.le_of_ble_eq_true rfl) (Nat.le_of_ble_eq_true rfl) ?_
  rintro yy3 _ _ ⟨hyy3, p0yy3, rfl, rfl⟩
  try simp only [z_r0_6, z_r0_7, z_r0_8, z_r0_9, z_r0_10, z_r1_1] at p0yy3
  try simp only [k0_r0_4, k0_r0_5] at p0yy3
  try have q0yy3 := congrArg Int32.toInt p0yy3
  have hpA := p0yy3; rw [N_r0_7] at hpA
  refine k_astore_nV C (x := yy3) (lw := [(2, va_rf yy3), (0, .ref r0), (1, .ref r1)]) rfl rfl (Nat.le_of_ble_eq_true rfl) rfl ?_
  refine k_aload_nV C (x := yy3) rfl rfl rfl ?_
  refine k_ifnull C (x := yy3) (t := 43) rfl rfl rfl (fun c4 => ?_) (fun rr5 c4 => ?_)
  · skip
    subst c4
    exact (PKD.no hpA (by omega) (by omega) E_r0_7).elim
  subst c4
  have H_rr5 := hyy3 rr5 rfl
  have oA := OA_e z_r0_7 (PKD.q hpA (by omega) (by omega)); have O9rr5 := oA; have H9rr5 := hA9; have fA := FO.of H_rr5; have oAd := oA; rw [hAi] at oAd; rw [oAd] at hp5
  refine k_aload_n C rfl rfl rfl ?_
  refine k_dup C rfl rfl rfl ?_
  refine g_I C rfl rfl rfl T_r0 rfl k0_r0_4 ?_
  refine z_iconst C (z := 1) rfl rfl rfl (fun x6 ex6 => ?_)
  refine z_isub C rfl rfl ⟨by omega, by omega⟩ (fun x7 ex7 => ?_)
  refine z_pI C rfl rfl rfl T_r0 (Or.inr rfl) rfl (fun I8 uI8 => ?_)
  have hI8 : IX A T I8 := IX.f hI T_r0 (boX.tr (by decide) (by decide)) uI8
  have S9 : Chg (SL [r0]) T [(9, 4)] I L I8 L := Chg.f List.mem_cons_self T_r0 uI8
  have e10 := u2_j uI8 (by decide) k0_r0_5
  have e11 := u2_e uI8
  have hu4 := uI8
  refine k_aload_n C rfl rfl rfl ?_
  refine k_dup C rfl rfl rfl ?_
  refine g_I C rfl rfl rfl T_r0 rfl e10 ?_
  refine z_iconst C (z := 1) rfl rfl rfl (fun x12 ex12 => ?_)
  refine z_iadd C rfl rfl ⟨by omega, by omega⟩ (fun x13 ex13 => ?_)
  refine z_pI C rfl rfl rfl T_r0 (Or.inr rfl) rfl (fun I14 uI14 => ?_)
  have hI14 : IX A T I14 := IX.f hI8 T_r0 (boX.tr (by decide) (by decide)) uI14
  have S15 : Chg (SL [r0]) T [(9, 5)] I8 L I14 L := Chg.f List.mem_cons_self T_r0 uI14
  have e16 := u2_j uI14 (by decide) e11
  have e17 := u2_e uI14
  have hu5 := uI14
  refine k_aload_n C rfl rfl rfl ?_
  refine k_aload_n C rfl rfl rfl ?_
  obtain ⟨T_rr5, A_rr5, ⟨rr5_1, R_rr5_1, H_rr5_1⟩⟩ := id H_rr5
  have z_rr5_1 : rA R rr5 1 = rr5_1 := rA_e R_rr5_1
  refine c_VV C (s_X2_swapWith_x hS hI14 H_rr5 H_r1 (fun e => hp4 (WSX.a oA (e.trans z_r1_1) hA9)) (by rw [SB3 fA.1 T_r0 hu4 hu5, SB3 T_r1 T_r0 hu4 hu5]; exact hp5)) rfl rfl rfl rfl rfl ⟨_, rfl, rfl, T_rr5, Nat.le_of_ble_eq_true rfl⟩ rfl rfl (Nat.le_of_ble_eq_true rfl) (Nat.le_of_ble_eq_true rfl) (Nat.le_of_ble_eq_true rfl) ?_
  rintro I19 L20 ⟨p0v18, hI19, S21⟩
  try simp only [z_r0_6, z_r0_7, z_r0_8, z_r0_9, z_r0_10, z_r1_1, z_rr5_1] at S21
  have e22 := Chg.k S21 T_r0 (by decide) (by decide) e16
  have e23 := Chg.k S21 T_r0 (by decide) (by decide) e17
  try simp only [z_r0_6, z_r0_7, z_r0_8, z_r0_9, z_r0_10, z_r1_1, z_rr5_1] at p0v18
  try simp only [e16, e17] at p0v18
  try have q0v18 := congrArg Int32.toInt p0v18
  have hsw := p0v18; have hsS := S21
  exact k_vret C rfl rfl (Nat.le_of_ble_eq_true rfl) (Nat.le_of_ble_eq_true rfl) ⟨_, _, rfl, rfl, by (try simp only [z_r0_6, z_r0_7, z_r0_8, z_r0_9, z_r0_10, z_r1_1, z_rr5_1]); first | (exfalso; omega) | (simp only [k0_r0_4]; exact SBD.of hU hG (FO.of H_r1) hp3 (by rw [z_r1_1]; exact hp4) hu4 hu5 oAd (by omega) (by assumption) z_r1_1 hsw hsS hp5), by first | omega | (simp only [e22, e23, k0_r0_4, k0_r0_5, and_true, true_and, or_true, true_or, and_false, false_and, or_false, false_or] <;> omega), by first | omega | (simp only [e22, e23, k0_r0_4, k0_r0_5, and_true, true_and, or_true, true_or, and_false, false_and, or_false, false_or] <;> omega), hI19, (Chg.cons (Chg.up S9 (sl_1 (Or.inl (Or.inl rfl)))) (Chg.cons (Chg.up S15 (sl_1 (Or.inl (Or.inl rfl)))) (Chg.mono (Chg.up S21 (sl_2 (Or.inl (WSX.a O9rr5 z_rr5_1 H9rr5)) (Or.inr z_r1_1.symm))) (by decide)) (by decide)) (by decide))⟩

theorem s_X8_stepOn_x {d : Nat} {T N : Nat → Nat} {I : IT} {L : LT} {R : RT} {A B : Nat → Prop} {r0 r1 : Nat} (hS : SUB B A) (hI : IX A T I) (H_r0 : (hs_St T N R A B) r0) (H_r1 : (hs_F T N R A B) r1) (hU : UPR T R) (hp0 : 0 ≤ (I r0 4).toInt) (hp1 : (I r0 4).toInt < 40) (hp2 : 0 < (I r0 5).toInt ∧ (I r0 5).toInt ≤ 40) (hp3 : ¬ WSX R r0 r1) (hp4 : ¬ WSX R r0 (rA R r1 1)) (hp5 : (I (OA R r0 (I r0 4).toInt.toNat) 0).toInt = (I r1 0).toInt) : Ex (d + 3) 108 [.ref r0, .ref r1] (T, N, I, L, R) 0 0 (pV T N R (fun I9 L9 => (SBD R I9 I r0 r1 (I r0 4).toInt.toNat) ∧ ((I9 r0 4).toInt = (I r0 4).toInt + 1) ∧ ((I9 r0 5).toInt = (I r0 5).toInt - 1) ∧ (IX A T I9 ∧ Chg (fun a => WSX R r0 a ∨ a = rA R r1 1) T [(9, 4), (9, 5)] I L I9 L9))) := by
  refine ⟨_, rfl, Nat.le_of_ble_eq_true rfl, fun V C S => ?_⟩
  show V 0 [(0, .ref r0), (1, .ref r1)] [] (T, N, I, L, R) 0 0
  obtain ⟨T_r0, A_r0, B_r0, ⟨r0_6, R_r0_6, H_r0_6⟩, ⟨r0_7, R_r0_7, H_r0_7⟩, ⟨r0_8, R_r0_8, H_r0_8⟩, ⟨r0_9, R_r0_9, H_r0_9⟩, ⟨r0_10, R_r0_10, H_r0_10⟩⟩ := id H_r0
  have z_r0_6 : rA R r0 6 = r0_6 := rA_e R_r0_6
  have z_r0_7 : rA R r0 7 = r0_7 := rA_e R_r0_7
  have z_r0_8 : rA R r0 8 = r0_8 := rA_e R_r0_8
  have z_r0_9 : rA R r0 9 = r0_9 := rA_e R_r0_9
  have z_r0_10 : rA R r0 10 = r0_10 := rA_e R_r0_10
  obtain ⟨T_r0_6, N_r0_6, A_r0_6⟩ := id H_r0_6
  obtain ⟨T_r0_7, N_r0_7, A_r0_7, E_r0_7⟩ := id H_r0_7
  have hG := GS.of H_r0
  obtain ⟨T_r1, A_r1, ⟨r1_1, R_r1_1, H_r1_1⟩⟩ := id H_r1
  have z_r1_1 : rA R r1 1 = r1_1 := rA_e R_r1_1
  try simp only [z_r0_6, z_r0_7, z_r0_8, z_r0_9, z_r0_10, z_r1_1] at hp0
  try simp only [z_r0_6, z_r0_7, z_r0_8, z_r0_9, z_r0_10, z_r1_1] at hp1
  try simp only [z_r0_6, z_r0_7, z_r0_8, z_r0_9, z_r0_10, z_r1_1] at hp2
  try simp only [z_r0_6, z_r0_7, z_r0_8, z_r0_9, z_r0_10, z_r1_1] at hp3
  try simp only [z_r0_6, z_r0_7, z_r0_8, z_r0_9, z_r0_10, z_r1_1] at hp4
  try simp only [z_r0_6, z_r0_7, z_r0_8, z_r0_9, z_r0_10, z_r1_1] at hp5
  obtain ⟨w_r0_4, k0_r0_4⟩ : ∃ x, I r0 4 = x := ⟨_, rfl⟩
  have gw_r0_4 := rg w_r0_4
  obtain ⟨w_r0_5, k0_r0_5⟩ : ∃ x, I r0 5 = x := ⟨_, rfl⟩
  have gw_r0_5 := rg w_r0_5
  try simp only [k0_r0_4, k0_r0_5] at hp0
  try simp only [k0_r0_4, k0_r0_5] at hp1
  try simp only [k0_r0_4, k0_r0_5] at hp2
  try simp only [k0_r0_4, k0_r0_5] at hp3
  try simp only [k0_r0_4, k0_r0_5] at hp4
  try simp only [k0_r0_4, k0_r0_5] at hp5
  refine k_aload_n C rfl rfl rfl ?_
  refine g_R C rfl rfl rfl T_r0 rfl R_r0_7 ?_
  refine k_aload_n C rfl rfl rfl ?_
  refine g_I C rfl rfl rfl T_r0 rfl k0_r0_4 ?_
  have hA9 := ncn (n := 40) (j := w_r0_4) (by omega) (by omega); have hAi : w_r0_4.toNatClampNeg = w_r0_4.toInt.toNat := by (have := ncz (x := w_r0_4) (by omega); omega)
  refine c_SR C (s_X2_pick_Row40_x hS hI H_r0_7) rfl rfl rfl rfl rfl rfl rfl (Nat.le_of_ble_eq_true rfl) (Nat.le_of_ble_eq_true rfl) (Nat.le_of_ble_eq_true rfl) ?_
  rintro yy1 _ _ ⟨hyy1, p0yy1, rfl, rfl⟩
  try simp only [z_r0_6, z_r0_7, z_r0_8, z_r0_9, z_r0_10, z_r1_1] at p0yy1
  try simp only [k0_r0_4, k0_r0_5] at p0yy1
  try have q0yy1 := congrArg Int32.toInt p0yy1
  have hpA := p0yy1; rw [N_r0_7] at hpA
  refine k_astore_nV C (x := yy1) (lw := [(2, va_rf yy1), (0, .ref r0), (1, .ref r1)]) rfl rfl (Nat.le_of_ble_eq_true rfl) rfl ?_
  refine k_aload_nV C (x := yy1) rfl rfl rfl ?_
  refine k_ifnull C (x := yy1) (t := 48) rfl rfl rfl (fun c2 => ?_) (fun rr3 c2 => ?_)
  · skip
    subst c2
    exact (PKD.no hpA (by omega) (by omega) E_r0_7).elim
  subst c2
  have H_rr3 := hyy1 rr3 rfl
  have oA := OA_e z_r0_7 (PKD.q hpA (by omega) (by omega)); have O9rr3 := oA; have H9rr3 := hA9; have fA := FO.of H_rr3; have oAd := oA; rw [hAi] at oAd; rw [oAd] at hp5
  refine k_aload_n C rfl rfl rfl ?_
  refine g_I C rfl rfl rfl T_r0 rfl k0_r0_5 ?_
  refine b_if_le C (t := 48) rfl rfl rfl (fun c4 => ?_) (fun c4 => ?_)
  · skip
    exact k_vret C rfl rfl (Nat.le_of_ble_eq_true rfl) (Nat.le_of_ble_eq_true rfl) ⟨_, _, rfl, rfl, by (try simp only [z_r0_6, z_r0_7, z_r0_8, z_r0_9, z_r0_10, z_r1_1]); first | (exfalso; omega) | (simp only [k0_r0_4]; exact SBD.of hU hG (FO.of H_r1) hp3 (by rw [z_r1_1]; exact hp4) hu4 hu5 oAd (by omega) (by assumption) z_r1_1 hsw hsS hp5), by first | omega | (simp only [k0_r0_4, k0_r0_5, and_true, true_and, or_true, true_or, and_false, false_and, or_false, false_or] <;> omega), by first | omega | (simp only [k0_r0_4, k0_r0_5, and_true, true_and, or_true, true_or, and_false, false_and, or_false, false_or] <;> omega), hI, Chg.rf⟩
  refine k_aload_n C rfl rfl rfl ?_
  refine k_dup C rfl rfl rfl ?_
  refine g_I C rfl rfl rfl T_r0 rfl k0_r0_4 ?_
  refine z_iconst C (z := 1) rfl rfl rfl (fun x5 ex5 => ?_)
  refine z_iadd C rfl rfl ⟨by omega, by omega⟩ (fun x6 ex6 => ?_)
  refine z_pI C rfl rfl rfl T_r0 (Or.inr rfl) rfl (fun I7 uI7 => ?_)
  have hI7 : IX A T I7 := IX.f hI T_r0 (boX.tr (by decide) (by decide)) uI7
  have S8 : Chg (SL [r0]) T [(9, 4)] I L I7 L := Chg.f List.mem_cons_self T_r0 uI7
  have e9 := u2_j uI7 (by decide) k0_r0_5
  have e10 := u2_e uI7
  have hu4 := uI7
  refine k_aload_n C rfl rfl rfl ?_
  refine k_dup C rfl rfl rfl ?_
  refine g_I C rfl rfl rfl T_r0 rfl e9 ?_
  refine z_iconst C (z := 1) rfl rfl rfl (fun x11 ex11 => ?_)
  refine z_isub C rfl rfl ⟨by omega, by omega⟩ (fun x12 ex12 => ?_)
  refine z_pI C rfl rfl rfl T_r0 (Or.inr rfl) rfl (fun I13 uI13 => ?_)
  have hI13 : IX A T I13 := IX.f hI7 T_r0 (boX.tr (by decide) (by decide)) uI13
  have S14 : Chg (SL [r0]) T [(9, 5)] I7 L I13 L := Chg.f List.mem_cons_self T_r0 uI13
  have e15 := u2_j uI13 (by decide) e10
  have e16 := u2_e uI13
  have hu5 := uI13
  refine k_aload_n C rfl rfl rfl ?_
  refine k_aload_n C rfl rfl rfl ?_
  obtain ⟨T_rr3, A_rr3, ⟨rr3_1, R_rr3_1, H_rr3_1⟩⟩ := id H_rr3
  have z_rr3_1 : rA R rr3 1 = rr3_1 := rA_e R_rr3_1
  refine c_VV C (s_X2_swapWith_x hS hI13 H_rr3 H_r1 (fun e => hp4 (WSX.a oA (e.trans z_r1_1) hA9)) (by rw [SB3 fA.1 T_r0 hu4 hu5, SB3 T_r1 T_r0 hu4 hu5]; exact hp5)) rfl rfl rfl rfl rfl ⟨_, rfl, rfl, T_rr3, Nat.le_of_ble_eq_true rfl⟩ rfl rfl (Nat.le_of_ble_eq_true rfl) (Nat.le_of_ble_eq_true rfl) (Nat.le_of_ble_eq_true rfl) ?_
  rintro I18 L19 ⟨p0v17, hI18, S20⟩
  try simp only [z_r0_6, z_r0_7, z_r0_8, z_r0_9, z_r0_10, z_r1_1, z_rr3_1] at S20
  have e21 := Chg.k S20 T_r0 (by decide) (by decide) e15
  have e22 := Chg.k S20 T_r0 (by decide) (by decide) e16
  try simp only [z_r0_6, z_r0_7, z_r0_8, z_r0_9, z_r0_10, z_r1_1, z_rr3_1] at p0v17
  try simp only [e15, e16] at p0v17
  try have q0v17 := congrArg Int32.toInt p0v17
  have hsw := p0v17; have hsS := S20
  exact k_vret C rfl rfl (Nat.le_of_ble_eq_true rfl) (Nat.le_of_ble_eq_true rfl) ⟨_, _, rfl, rfl, by (try simp only [z_r0_6, z_r0_7, z_r0_8, z_r0_9, z_r0_10, z_r1_1, z_rr3_1]); first | (exfalso; omega) | (simp only [k0_r0_4]; exact SBD.of hU hG (FO.of H_r1) hp3 (by rw [z_r1_1]; exact hp4) hu4 hu5 oAd (by omega) (by assumption) z_r1_1 hsw hsS hp5), by first | omega | (simp only [e21, e22, k0_r0_4, k0_r0_5, and_true, true_and, or_true, true_or, and_false, false_and, or_false, false_or] <;> omega), by first | omega | (simp only [e21, e22, k0_r0_4, k0_r0_5, and_true, true_and, or_true, true_or, and_false, false_and, or_false, false_or] <;> omega), hI18, (Chg.cons (Chg.up S8 (sl_1 (Or.inl (Or.inl rfl)))) (Chg.cons (Chg.up S14 (sl_1 (Or.inl (Or.inl rfl)))) (Chg.mono (Chg.up S20 (sl_2 (Or.inl (WSX.a O9rr3 z_rr3_1 H9rr3)) (Or.inr z_r1_1.symm))) (by decide)) (by decide)) (by decide))⟩

theorem s_X8_copyActs_x {d : Nat} {T N : Nat → Nat} {I : IT} {L : LT} {R : RT} {A B : Nat → Prop} {r0 r1 : Nat} (hS : SUB B A) (hI : IX A T I) (H_r0 : (hs_St T N R A B) r0) (H_r1 : (hs_St T N R A B) r1) (hU : UPR T R) (hp0 : r0 ≠ r1) : Ex (d + 3) 109 [.ref r0, .ref r1] (T, N, I, L, R) 0 0 (pV T N R (fun I9 L9 => (CAL R I9 I r0 r1 40) ∧ ((I9 r0 4).toInt = (I r1 4).toInt) ∧ ((I9 r0 5).toInt = (I r1 5).toInt) ∧ (IX A T I9 ∧ Chg (WSX R r0) T [(3, 0), (9, 4), (9, 5)] I L I9 L9))) := by
  refine ⟨_, rfl, Nat.le_of_ble_eq_true rfl, fun V C S => ?_⟩
  show V 0 [(0, .ref r0), (1, .ref r1)] [] (T, N, I, L, R) 0 0
  obtain ⟨T_r0, A_r0, B_r0, ⟨r0_6, R_r0_6, H_r0_6⟩, ⟨r0_7, R_r0_7, H_r0_7⟩, ⟨r0_8, R_r0_8, H_r0_8⟩, ⟨r0_9, R_r0_9, H_r0_9⟩, ⟨r0_10, R_r0_10, H_r0_10⟩⟩ := id H_r0
  have z_r0_6 : rA R r0 6 = r0_6 := rA_e R_r0_6
  have z_r0_7 : rA R r0 7 = r0_7 := rA_e R_r0_7
  have z_r0_8 : rA R r0 8 = r0_8 := rA_e R_r0_8
  have z_r0_9 : rA R r0 9 = r0_9 := rA_e R_r0_9
  have z_r0_10 : rA R r0 10 = r0_10 := rA_e R_r0_10
  obtain ⟨T_r1, A_r1, B_r1, ⟨r1_6, R_r1_6, H_r1_6⟩, ⟨r1_7, R_r1_7, H_r1_7⟩, ⟨r1_8, R_r1_8, H_r1_8⟩, ⟨r1_9, R_r1_9, H_r1_9⟩, ⟨r1_10, R_r1_10, H_r1_10⟩⟩ := id H_r1
  have z_r1_6 : rA R r1 6 = r1_6 := rA_e R_r1_6
  have z_r1_7 : rA R r1 7 = r1_7 := rA_e R_r1_7
  have z_r1_8 : rA R r1 8 = r1_8 := rA_e R_r1_8
  have z_r1_9 : rA R r1 9 = r1_9 := rA_e R_r1_9
  have z_r1_10 : rA R r1 10 = r1_10 := rA_e R_r1_10
  obtain ⟨T_r0_6, N_r0_6, A_r0_6⟩ := id H_r0_6
  obtain ⟨T_r0_7, N_r0_7, A_r0_7, E_r0_7⟩ := id H_r0_7
  obtain ⟨T_r1_6, N_r1_6, A_r1_6⟩ := id H_r1_6
  obtain ⟨T_r1_7, N_r1_7, A_r1_7, E_r1_7⟩ := id H_r1_7
  have hG := GS.of H_r0
  have hG1 := GS.of H_r1
  try simp only [z_r0_6, z_r0_7, z_r0_8, z_r0_9, z_r0_10, z_r1_6, z_r1_7, z_r1_8, z_r1_9, z_r1_10] at hp0
  obtain ⟨w_r1_4, k0_r1_4⟩ : ∃ x, I r1 4 = x := ⟨_, rfl⟩
  have gw_r1_4 := rg w_r1_4
  obtain ⟨w_r1_5, k0_r1_5⟩ : ∃ x, I r1 5 = x := ⟨_, rfl⟩
  have gw_r1_5 := rg w_r1_5
  try simp only [k0_r1_4, k0_r1_5] at hp0
  refine k_aload_n C rfl rfl rfl ?_
  refine k_aload_n C rfl rfl rfl ?_
  refine g_I C rfl rfl rfl T_r1 rfl k0_r1_4 ?_
  refine z_pI C rfl rfl rfl T_r0 (Or.inr rfl) rfl (fun I1 uI1 => ?_)
  have hI1 : IX A T I1 := IX.f hI T_r0 (boX.tr (by decide) (by decide)) uI1
  have S2 : Chg (SL [r0]) T [(9, 4)] I L I1 L := Chg.f List.mem_cons_self T_r0 uI1
  have e3 := u2_n uI1 (by first | exact hp0 | exact fun e => hp0 e.symm) k0_r1_4
  have e4 := u2_j uI1 (by decide) k0_r1_5
  have e5 := u2_e uI1
  refine k_aload_n C rfl rfl rfl ?_
  refine k_aload_n C rfl rfl rfl ?_
  refine g_I C rfl rfl rfl T_r1 rfl e4 ?_
  refine z_pI C rfl rfl rfl T_r0 (Or.inr rfl) rfl (fun I6 uI6 => ?_)
  have hI6 : IX A T I6 := IX.f hI1 T_r0 (boX.tr (by decide) (by decide)) uI6
  have S7 : Chg (SL [r0]) T [(9, 5)] I1 L I6 L := Chg.f List.mem_cons_self T_r0 uI6
  have e8 := u2_j uI6 (by decide) e3
  have e9 := u2_n uI6 (by first | exact hp0 | exact fun e => hp0 e.symm) e4
  have e10 := u2_j uI6 (by decide) e5
  have e11 := u2_e uI6
  refine z_iconst C (z := 0) rfl rfl rfl (fun x12 ex12 => ?_)
  have J13 : ∀ (nn14 : Nat) (I15 : IT) (L16 : LT) (x17 : Int32) (x22 : Int32) (x24 : Int32), (MN (40 - x17.toInt) nn14) → (IX A T I15) → (Chg (WSX R r0) T [(3, 0)] I6 L I15 L16) → (0 ≤ x17.toInt) → (x17.toInt ≤ 40) → (I15 r0 4 = x22) → (I15 r0 5 = x24) → (CAL R I15 I r0 r1 x17.toInt) → (x22.toInt = w_r1_4.toInt) → (x24.toInt = w_r1_5.toInt) → V 18 [(0, .ref r0), (1, .ref r1), (2, .int x17)] [] (T, N, I15, L16, R) 0 0 := by
    intro nn14
    induction nn14 using Nat.strongRecOn with
    | _ nn14 ihJ13 =>
      intro I15 L16 x17 x22 x24 hmnn14 hI21 S20 b18 b19 e23 e25 ff18_0 ff18_1 ff18_2
      have gx17 := rg x17
      have gx22 := rg x22
      have gx24 := rg x24
      have e29 := Chg.k S20 T_r1 (by decide) (by decide) e8
      have e30 := Chg.k S20 T_r1 (by decide) (by decide) e9
      have e31 := Chg.k S20 T_r0 (by decide) (by decide) e10
      have e32 := Chg.k S20 T_r0 (by decide) (by decide) e11
      refine k_iload_n C rfl rfl rfl ?_
      refine k_aload_n C rfl rfl rfl ?_
      refine g_R C rfl rfl rfl T_r0 rfl R_r0_6 ?_
      refine z_len C (n := 40) rfl rfl (by rw [T_r0_6]; exact Nat.le_of_ble_eq_true rfl) N_r0_6 (Nat.le_of_ble_eq_true rfl) (fun x33 ex33 => ?_)
      refine b_icmp_ge C (t := 88) rfl rfl rfl (fun c34 => ?_) (fun c34 => ?_)
      · skip
        exact k_vret C rfl rfl (Nat.le_of_ble_eq_true rfl) (Nat.le_of_ble_eq_true rfl) ⟨_, _, rfl, rfl, by (try simp only [z_r0_6, z_r0_7, z_r0_8, z_r0_9, z_r0_10, z_r1_6, z_r1_7, z_r1_8, z_r1_9, z_r1_10]); exact fun j hj h9 => ff18_0 j (by omega) h9, by first | omega | (simp only [e29, e30, e23, e25, k0_r1_4, k0_r1_5, and_true, true_and, or_true, true_or, and_false, false_and, or_false, false_or] <;> omega), by first | omega | (simp only [e29, e30, e23, e25, k0_r1_4, k0_r1_5, and_true, true_and, or_true, true_or, and_false, false_and, or_false, false_or] <;> omega), hI21, (Chg.cons (Chg.up S2 (sl_1 (Or.inl rfl))) (Chg.cons (Chg.up S7 (sl_1 (Or.inl rfl))) (Chg.mono S20 (by decide)) (by decide)) (by decide))⟩
      refine k_iload_n C rfl rfl rfl ?_
      refine k_aload_n C rfl rfl rfl ?_
      refine g_R C rfl rfl rfl T_r1 rfl R_r1_6 ?_
      refine z_len C (n := 40) rfl rfl (by rw [T_r1_6]; exact Nat.le_of_ble_eq_true rfl) N_r1_6 (Nat.le_of_ble_eq_true rfl) (fun x35 ex35 => ?_)
      refine b_icmp_ge C (t := 88) rfl rfl rfl (fun c36 => by exfalso; omega) (fun c36 => ?_)
      refine k_aload_n C rfl rfl rfl ?_
      refine g_R C rfl rfl rfl T_r0 rfl R_r0_6 ?_
      refine k_iload_n C rfl rfl rfl ?_
      refine k_aload_n C rfl rfl rfl ?_
      refine g_R C rfl rfl rfl T_r1 rfl R_r1_6 ?_
      refine k_iload_n C rfl rfl rfl ?_
      refine z_aI C rfl rfl T_r1_6 N_r1_6 (by omega) (by omega) (fun x37 ex37 => ?_)
      have gx37 := rg x37
      have hrd := ex37; have hFR := (((Chg.cons (Chg.up S2 (sl_1 (Or.inl rfl))) (Chg.cons (Chg.up S7 (sl_1 (Or.inl rfl))) (Chg.mono S20 (by decide)) (by decide)) (by decide)) : Chg (WSX R r0) T [(3, 0), (9, 4), (9, 5)] I L I15 L16))
      refine z_sI C rfl rfl T_r0_6 N_r0_6 (by omega) (by omega) (fun I38 uI38 => ?_)
      have hI38 : IX A T I38 := IX.a hI21 T_r0_6 (Nat.le_of_ble_eq_true rfl) uI38
      have S39 : Chg (SL [r0_6]) T [] I15 L16 I38 L16 := Chg.a List.mem_cons_self T_r0_6 (Nat.le_of_ble_eq_true rfl) uI38
      have e40 := u2_n uI38 (t_nq T_r1 T_r0_6 (by decide)) e29
      have e41 := u2_n uI38 (t_nq T_r1 T_r0_6 (by decide)) e30
      have e42 := u2_n uI38 (t_nq T_r0 T_r0_6 (by decide)) e23
      have e43 := u2_n uI38 (t_nq T_r0 T_r0_6 (by decide)) e25
      have hput := uI38
      refine k_aload_n C rfl rfl rfl ?_
      refine g_R C rfl rfl rfl T_r0 rfl R_r0_7 ?_
      refine k_iload_n C rfl rfl rfl ?_
      have hA9 := ncn (n := 40) (j := x17) (by omega) (by omega)
      refine c_SR C (s_X2_pick_Row40_x hS hI38 H_r0_7) rfl rfl rfl rfl rfl rfl rfl (Nat.le_of_ble_eq_true rfl) (Nat.le_of_ble_eq_true rfl) (Nat.le_of_ble_eq_true rfl) ?_
      rintro yy44 _ _ ⟨hyy44, p0yy44, rfl, rfl⟩
      try simp only [z_r0_6, z_r0_7, z_r0_8, z_r0_9, z_r0_10, z_r1_6, z_r1_7, z_r1_8, z_r1_9, z_r1_10] at p0yy44
      try simp only [e40, e41, e42, e43] at p0yy44
      try have q0yy44 := congrArg Int32.toInt p0yy44
      have hpA := p0yy44; rw [N_r0_7] at hpA
      refine k_astore_nV C (x := yy44) (lw := [(3, va_rf yy44), (0, .ref r0), (1, .ref r1), (2, .int x17)]) rfl rfl (Nat.le_of_ble_eq_true rfl) rfl ?_
      refine k_aload_n C rfl rfl rfl ?_
      refine g_R C rfl rfl rfl T_r1 rfl R_r1_7 ?_
      refine k_iload_n C rfl rfl rfl ?_
      refine c_SR C (s_X2_pick_Row40_x hS hI38 H_r1_7) rfl rfl rfl rfl rfl rfl rfl (Nat.le_of_ble_eq_true rfl) (Nat.le_of_ble_eq_true rfl) (Nat.le_of_ble_eq_true rfl) ?_
      rintro yy45 _ _ ⟨hyy45, p0yy45, rfl, rfl⟩
      try simp only [z_r0_6, z_r0_7, z_r0_8, z_r0_9, z_r0_10, z_r1_6, z_r1_7, z_r1_8, z_r1_9, z_r1_10] at p0yy45
      try simp only [e40, e41, e42, e43] at p0yy45
      try have q0yy45 := congrArg Int32.toInt p0yy45
      have hpB := p0yy45; rw [N_r1_7] at hpB
      refine k_astoreV C (x := yy45) (lw := [(4, va_rf yy45), (3, va_rf yy44), (0, .ref r0), (1, .ref r1), (2, .int x17)]) rfl rfl (Nat.le_of_ble_eq_true rfl) (by cases yy44 <;> rfl) ?_
      refine k_aload_nV C (x := yy44) rfl rfl rfl ?_
      refine k_ifnull C (x := yy44) (t := 82) rfl rfl rfl (fun c46 => ?_) (fun rr47 c46 => ?_)
      · skip
        subst c46
        exact (PKD.no hpA (by omega) (by omega) E_r0_7).elim
      subst c46
      have H_rr47 := hyy44 rr47 rfl
      have oA := OA_e z_r0_7 (PKD.q hpA (by omega) (by omega)); have O9rr47 := oA; have H9rr47 := hA9; have fA := FO.of H_rr47
      refine k_aloadV C (x := yy45) rfl rfl rfl ?_
      refine k_ifnull C (x := yy45) (t := 82) rfl rfl rfl (fun c48 => ?_) (fun rr49 c48 => ?_)
      · skip
        subst c48
        exact (PKD.no hpB (by omega) (by omega) E_r1_7).elim
      subst c48
      have H_rr49 := hyy45 rr49 rfl
      have oB := OA_e z_r1_7 (PKD.q hpB (by omega) (by omega)); have fB := FO.of H_rr49
      refine k_aload_n C rfl rfl rfl ?_
      refine k_aload C rfl rfl rfl ?_
      obtain ⟨T_rr47, A_rr47, ⟨rr47_1, R_rr47_1, H_rr47_1⟩⟩ := id H_rr47
      have z_rr47_1 : rA R rr47 1 = rr47_1 := rA_e R_rr47_1
      obtain ⟨T_rr49, A_rr49, ⟨rr49_1, R_rr49_1, H_rr49_1⟩⟩ := id H_rr49
      have z_rr49_1 : rA R rr49 1 = rr49_1 := rA_e R_rr49_1
      refine c_VV C (s_X2_copyFrom_x hS hI38 H_rr47 H_rr49 (ooneq hU hG hG1 hp0 oA oB hA9) (obneq hU fA fB (ooneq hU hG hG1 hp0 oA oB hA9))) rfl rfl rfl rfl rfl ⟨_, rfl, rfl, T_rr47, Nat.le_of_ble_eq_true rfl⟩ rfl rfl (Nat.le_of_ble_eq_true rfl) (Nat.le_of_ble_eq_true rfl) (Nat.le_of_ble_eq_true rfl) ?_
      rintro I51 L52 ⟨p0v50, hI51, S53⟩
      try simp only [z_r0_6, z_r0_7, z_r0_8, z_r0_9, z_r0_10, z_r1_6, z_r1_7, z_r1_8, z_r1_9, z_r1_10, z_rr47_1, z_rr49_1] at S53
      have e54 := Chg.k S53 T_r1 (by decide) (by decide) e40
      have e55 := Chg.k S53 T_r1 (by decide) (by decide) e41
      have e56 := Chg.k S53 T_r0 (by decide) (by decide) e42
      have e57 := Chg.k S53 T_r0 (by decide) (by decide) e43
      obtain ⟨x58, e59⟩ : ∃ x, I51 rr47 0 = x := ⟨_, rfl⟩
      have gx58 := rg x58
      have ox58 := IX.deg hI51 A_rr47 T_rr47 e59
      try simp only [z_r0_6, z_r0_7, z_r0_8, z_r0_9, z_r0_10, z_r1_6, z_r1_7, z_r1_8, z_r1_9, z_r1_10, z_rr47_1, z_rr49_1] at p0v50
      try simp only [e40, e41, e42, e43, e59] at p0v50
      try have q0v50 := congrArg Int32.toInt p0v50
      have hcp := p0v50; have hcS := S53
      refine z_iinc C (z := 1) (lw := fun x60 => [(2, .int x60), (4, .ref rr49), (3, .ref rr47), (0, .ref r0), (1, .ref r1)]) rfl rfl rfl (Nat.le_of_ble_eq_true rfl) rfl ⟨by omega, by omega⟩ (fun _ => rfl) (fun x60 ex60 => ?_)
      show V 85 [(2, .int x60), (4, .ref rr49), (3, .ref rr47), (0, .ref r0), (1, .ref r1)] _ _ _ _
      refine k_goto C (pc2 := 18) rfl rfl ?_
      refine k_sub S [(0, .ref r0), (1, .ref r1), (2, .int x60)] (List.forall_mem_cons.mpr ⟨List.mem_of_getElem? (i := 3) rfl, List.forall_mem_cons.mpr ⟨List.mem_of_getElem? (i := 4) rfl, List.forall_mem_cons.mpr ⟨List.mem_of_getElem? (i := 0) rfl, fun _ h => nomatch h⟩⟩⟩) ?_
      exact ihJ13 _ (MN.lt hmnn14 (by omega) (by omega)) I51 L52 x60 x22 x24 rfl hI51 (Chg.cons S20 (Chg.cons (Chg.up S39 (sl_1 (WSX.w z_r0_6))) (Chg.mono (Chg.up S53 (sl_2 (WSX.o O9rr47 H9rr47) (WSX.a O9rr47 z_rr47_1 H9rr47))) (by decide)) (by decide)) (by decide)) (by omega) (by omega) e56 e57 (by exact CAL.s ff18_0 hU hG hG1 hp0 hFR z_r0_6 z_r1_6 hput hrd oA oB (by assumption) hcp hcS (by omega) (by omega) (by omega)) (by omega) (by omega)
  refine k_istore_n C (lw := [(2, .int x12), (0, .ref r0), (1, .ref r1)]) rfl rfl (Nat.le_of_ble_eq_true rfl) rfl ?_
  refine k_sub S [(0, .ref r0), (1, .ref r1), (2, .int x12)] (List.forall_mem_cons.mpr ⟨List.mem_of_getElem? (i := 1) rfl, List.forall_mem_cons.mpr ⟨List.mem_of_getElem? (i := 2) rfl, List.forall_mem_cons.mpr ⟨List.mem_of_getElem? (i := 0) rfl, fun _ h => nomatch h⟩⟩⟩) ?_
  exact J13 _ I6 L x12 w_r1_4 w_r1_5 rfl hI6 Chg.rf (by omega) (by omega) e10 e11 (by exact CAL.z (by omega)) (by omega) (by omega)

