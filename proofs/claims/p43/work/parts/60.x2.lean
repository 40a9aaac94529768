/-! the states, exactly -/
def UPR (T : Nat → Nat) (R : RT) : Prop := ∀ a k a' k' b, (T b = 3 ∨ T b = 8 ∨ T b = 10 ∨ 20 ≤ T b) → R a k = some b → R a' k' = some b → a = a' ∧ k = k'
theorem UPR.ne {T : Nat → Nat} {R : RT} (h : UPR T R) {a k a' k' b b' : Nat} (ht : T b = 3 ∨ T b = 8 ∨ T b = 10 ∨ 20 ≤ T b) (e : R a k = some b) (e' : R a' k' = some b') (n : a ≠ a' ∨ k ≠ k') : b ≠ b' := by
  rintro rfl
  obtain ⟨h1, h2⟩ := h a k a' k' b ht e e'
  rcases n with n | n
  · exact n h1
  · exact n h2
def WH (R : RT) (st : Nat) : Nat := rA R st 6
def OA (R : RT) (st j : Nat) : Nat := rA R (rA R st 7) j
def FA (R : RT) (st j : Nat) : Nat := rA R (rA R st 8) j
def TA (R : RT) (st j : Nat) : Nat := rA R (rA R st 9) j
def FO (T : Nat → Nat) (R : RT) (f : Nat) : Prop := T f = 3 ∧ R f 1 = some (rA R f 1) ∧ T (rA R f 1) = 20
theorem FO.of {T N : Nat → Nat} {R : RT} {A B : Nat → Prop} {f : Nat} (h : hs_F T N R A B f) : FO T R f := by
  obtain ⟨h1, -, b, h2, h3, -, -⟩ := h
  exact ⟨h1, by rw [rA_e h2]; exact h2, by rw [rA_e h2]; exact h3⟩
def GS (T : Nat → Nat) (R : RT) (st : Nat) : Prop := T st = 9 ∧ (R st 6 = some (WH R st) ∧ T (WH R st) = 20) ∧ (R st 7 = some (rA R st 7) ∧ T (rA R st 7) = 23) ∧ (R st 8 = some (rA R st 8) ∧ T (rA R st 8) = 23) ∧ (R st 9 = some (rA R st 9) ∧ T (rA R st 9) = 24) ∧ (∀ j, j < 40 → R (rA R st 7) j = some (OA R st j) ∧ FO T R (OA R st j)) ∧ (∀ j, j < 16 → R (rA R st 8) j = some (FA R st j) ∧ FO T R (FA R st j)) ∧ (∀ j, j < 8 → R (rA R st 9) j = some (TA R st j) ∧ T (TA R st j) = 10)
theorem GS.of {T N : Nat → Nat} {R : RT} {A B : Nat → Prop} {st : Nat} (h : hs_St T N R A B st) : GS T R st := by
  obtain ⟨h1, -, -, ⟨wh, R6, T6, -, -⟩, ⟨ot, R7, T7, -, -, E7⟩, ⟨ft, R8, T8, -, -, E8⟩, ⟨tt, R9, T9, -, -, E9⟩, -⟩ := h
  have z6 : WH R st = wh := rA_e R6
  have z7 := rA_e R7
  have z8 := rA_e R8
  have z9 := rA_e R9
  refine ⟨h1, ⟨by rw [z6]; exact R6, by rw [z6]; exact T6⟩, ⟨by rw [z7]; exact R7, by rw [z7]; exact T7⟩, ⟨by rw [z8]; exact R8, by rw [z8]; exact T8⟩, ⟨by rw [z9]; exact R9, by rw [z9]; exact T9⟩, fun j hj => ?_, fun j hj => ?_, fun j hj => ?_⟩
  · obtain ⟨f, f1, f2⟩ := E7 j hj
    unfold OA
    rw [z7, rA_e f1]; exact ⟨f1, FO.of f2⟩
  · obtain ⟨f, f1, f2⟩ := E8 j hj
    unfold FA
    rw [z8, rA_e f1]; exact ⟨f1, FO.of f2⟩
  · obtain ⟨f, f1, f2⟩ := E9 j hj
    unfold TA
    rw [z9, rA_e f1]; exact ⟨f1, f2.1⟩
def AEQ (R : RT) (I' : IT) (st' k' : Nat) (I : IT) (st k : Nat) : Prop := I' (WH R st') k' = I (WH R st) k ∧ FEQ R I' (OA R st' k') I (OA R st k)
theorem AEQ.rf {R : RT} {I : IT} {st k : Nat} : AEQ R I st k I st k := ⟨rfl, FEQ.rf⟩
theorem AEQ.tr {R : RT} {I1 I2 I3 : IT} {s1 k1 s2 k2 s3 k3 : Nat} (h : AEQ R I1 s1 k1 I2 s2 k2) (g : AEQ R I2 s2 k2 I3 s3 k3) : AEQ R I1 s1 k1 I3 s3 k3 := ⟨h.1.trans g.1, h.2.tr g.2⟩
theorem AEQ.put {T : Nat → Nat} {R : RT} {I I' : IT} {st st' f k : Nat} {x : Int32} (hG : GS T R st) (hT : T st' = 9) (e : I' = u2 I st' f x) (hk : k < 40) : AEQ R I' st k I st k := by
  obtain ⟨Tst, ⟨R6, T6⟩, -, -, -, hO, -, -⟩ := hG
  obtain ⟨Rj, Tj, Rjb, Tjb⟩ := hO k hk
  subst e
  exact ⟨congrFun (u2_r (fun e => by rw [e] at T6; omega)) k, FEQ.rf.l (u2_r (fun e => by rw [e] at Tj; omega)) (u2_r (fun e => by rw [e] at Tjb; omega))⟩
/-- what an act's cells may be changed by: nothing of a list that is apart -/
theorem AEQ.at {T : Nat → Nat} {R : RT} {I I' : IT} {L L' : LT} {W : List (Nat × Nat)} {S : Nat → Prop} {st k : Nat} (h : Chg S T W I L I' L') (h1 : ¬ S (WH R st)) (h2 : ¬ S (OA R st k)) (h3 : ¬ S (rA R (OA R st k) 1)) : AEQ R I' st k I st k := ⟨congrFun (Chg.at h h1) k, FEQ.rf.l (Chg.at h h2) (Chg.at h h3)⟩
theorem ACT1 {T : Nat → Nat} {R : RT} {I I1 I2 : IT} {L L2 : LT} {W : List (Nat × Nat)} {st src : Nat} {v : Int32} (hU : UPR T R) (hG : GS T R st) {d : Nat} (hd : d < 40) (hput : I1 = u2 I (WH R st) d v) (hf : FEQ R I2 (OA R st d) I1 src) (S : Chg (SL [OA R st d, rA R (OA R st d) 1]) T W I1 L I2 L2) (hs : FO T R src) : I2 (WH R st) d = v ∧ FEQ R I2 (OA R st d) I src ∧ ∀ j, j < 40 → j ≠ d → AEQ R I2 st j I st j := by
  obtain ⟨Tst, ⟨R6, T6⟩, -, -, -, hO, -, -⟩ := hG
  obtain ⟨Rd, To, Rob, Tob⟩ := hO d hd
  have w1 : WH R st ≠ OA R st d := fun e => by rw [e] at T6; omega
  have w2 : WH R st ≠ rA R (OA R st d) 1 := hU.ne (Or.inr (Or.inr (Or.inr (by omega)))) R6 Rob (Or.inl (fun e => by rw [e] at Tst; omega))
  have ew : I2 (WH R st) = I1 (WH R st) := Chg.at S (nm_2 w1 w2)
  obtain ⟨Ts, Rs, Tsb⟩ := hs
  have e1 : I1 src = I src := by rw [hput]; exact u2_r (fun e => by rw [e] at Ts; omega)
  have e2 : I1 (rA R src 1) = I (rA R src 1) := by rw [hput]; exact u2_r (hU.ne (Or.inr (Or.inr (Or.inr (by omega)))) Rs R6 (Or.inl (fun e => by rw [e] at Ts; omega)))
  refine ⟨by rw [ew, hput]; exact u2_s, hf.r e1.symm e2.symm, fun j hj hn => ⟨?_, ?_⟩⟩
  · rw [ew, hput]; exact u2_k hn
  · obtain ⟨Rj, Tj, Rjb, Tjb⟩ := hO j hj
    have o1 : OA R st j ≠ OA R st d := hU.ne (Or.inl Tj) Rj Rd (Or.inr hn)
    have o2 : OA R st j ≠ rA R (OA R st d) 1 := fun e => by rw [e] at Tj; omega
    have b1 : rA R (OA R st j) 1 ≠ OA R st d := fun e => by rw [e] at Tjb; omega
    have b2 : rA R (OA R st j) 1 ≠ rA R (OA R st d) 1 := hU.ne (Or.inr (Or.inr (Or.inr (by omega)))) Rjb Rob (Or.inl o1)
    have c1 : I2 (OA R st j) = I (OA R st j) := (Chg.at S (nm_2 o1 o2)).trans (by rw [hput]; exact u2_r (fun e => by rw [e] at Tj; omega))
    have c2 : I2 (rA R (OA R st j) 1) = I (rA R (OA R st j) 1) := (Chg.at S (nm_2 b1 b2)).trans (by rw [hput]; exact u2_r (hU.ne (Or.inr (Or.inr (Or.inr (by omega)))) Rjb R6 (Or.inl (fun e => by rw [e] at Tj; omega))))
    exact FEQ.rf.l c1 c2
/-- the cells of a state's acts -/
def WSX (R : RT) (st a : Nat) : Prop := a = st ∨ a = WH R st ∨ ∃ j, j < 40 ∧ (a = OA R st j ∨ a = rA R (OA R st j) 1)
theorem WSX.o {R : RT} {st o j : Nat} (h : OA R st j = o) (hj : j < 40) : WSX R st o := Or.inr (Or.inr ⟨j, hj, Or.inl h.symm⟩)
theorem WSX.a {R : RT} {st o b j : Nat} (h : OA R st j = o) (z : rA R o 1 = b) (hj : j < 40) : WSX R st b := Or.inr (Or.inr ⟨j, hj, Or.inr (by rw [h]; exact z.symm)⟩)
theorem WSX.w {R : RT} {st w : Nat} (z : rA R st 6 = w) : WSX R st w := Or.inr (Or.inl z.symm)
/-- not among them: a form's address that is held elsewhere, its numbers -/
theorem WSX.nf {T : Nat → Nat} {R : RT} {st f a k : Nat} (hU : UPR T R) (hG : GS T R st) (hf : T f = 3) (hR : R a k = some f) (hn : a ≠ rA R st 7) : ¬ WSX R st f := by
  obtain ⟨Tst, ⟨R6, T6⟩, -, -, -, hO, -, -⟩ := hG
  rintro (e | e | ⟨j, hj, e | e⟩)
  · rw [e] at hf; omega
  · rw [e] at hf; omega
  · exact hU.ne (Or.inl hf) hR (hO j hj).1 (Or.inl hn) e
  · have := (hO j hj).2.2.2; rw [← e] at this; omega
theorem WSX.nb {T : Nat → Nat} {R : RT} {st f a k : Nat} (hU : UPR T R) (hG : GS T R st) (hf : FO T R f) (hR : R a k = some f) (hn : a ≠ rA R st 7) : ¬ WSX R st (rA R f 1) := by
  obtain ⟨Tf, Rf, Tb⟩ := hf
  have h0 := WSX.nf hU hG Tf hR hn
  obtain ⟨Tst, ⟨R6, T6⟩, -, -, -, hO, -, -⟩ := hG
  rintro (e | e | ⟨j, hj, e | e⟩)
  · rw [e] at Tb; omega
  · exact hU.ne (Or.inr (Or.inr (Or.inr (by omega)))) Rf R6 (Or.inl (fun q => by rw [q] at Tf; omega)) e
  · have := (hO j hj).2.1; rw [← e] at this; omega
  · exact hU.ne (Or.inr (Or.inr (Or.inr (by omega)))) Rf (hO j hj).2.2.1 (Or.inl (fun q => h0 (Or.inr (Or.inr ⟨j, hj, Or.inl q⟩)))) e
theorem GS.r7 {T : Nat → Nat} {R : RT} {st st' : Nat} (hU : UPR T R) (hG : GS T R st) (hG' : GS T R st') (hn : st' ≠ st) : rA R st' 7 ≠ rA R st 7 := hU.ne (Or.inr (Or.inr (Or.inr (by have := hG'.2.2.1.2; omega)))) hG'.2.2.1.1 hG.2.2.1.1 (Or.inl hn)
theorem WSX.nw {T : Nat → Nat} {R : RT} {st st' : Nat} (hU : UPR T R) (hG : GS T R st) (hG' : GS T R st') (hn : st' ≠ st) : ¬ WSX R st (WH R st') := by
  obtain ⟨Tst, ⟨R6, T6⟩, -, -, -, hO, -, -⟩ := hG
  obtain ⟨Tst', ⟨R6', T6'⟩, -⟩ := hG'
  rintro (e | e | ⟨j, hj, e | e⟩)
  · rw [e] at T6'; omega
  · exact hU.ne (Or.inr (Or.inr (Or.inr (by omega)))) R6' R6 (Or.inl hn) e
  · have := (hO j hj).2.1; rw [← e] at this; omega
  · exact hU.ne (Or.inr (Or.inr (Or.inr (by omega)))) R6' (hO j hj).2.2.1 (Or.inl (fun q => by have := (hO j hj).2.1; rw [← q] at this; omega)) e
theorem AEQ.ot {T : Nat → Nat} {R : RT} {I I' : IT} {L L' : LT} {W : List (Nat × Nat)} {st st' k : Nat} (hU : UPR T R) (hG : GS T R st) (hG' : GS T R st') (hn : st' ≠ st) (h : Chg (WSX R st) T W I L I' L') (hk : k < 40) : AEQ R I' st' k I st' k := by
  have hO := hG'.2.2.2.2.2.1 k hk
  exact AEQ.at h (WSX.nw hU hG hG' hn) (WSX.nf hU hG hO.2.1 hO.1 (GS.r7 hU hG hG' hn)) (WSX.nb hU hG hO.2 hO.1 (GS.r7 hU hG hG' hn))
def FFL (R : RT) (I' I : IT) (st : Nat) (k : Int) : Prop := (∀ j : Nat, (j : Int) < k → j < 39 → AEQ R I' st j I st (j + 1)) ∧ ∀ j : Nat, k ≤ (j : Int) → j < 40 → AEQ R I' st j I st j
theorem FFL.z {R : RT} {I : IT} {st : Nat} {k : Int} (h : k = 0) : FFL R I I st k := ⟨fun j hj _ => by omega, fun _ _ _ => AEQ.rf⟩
theorem FFL.s {T : Nat → Nat} {R : RT} {I I1 I2 I3 : IT} {L2 L3 : LT} {W : List (Nat × Nat)} {st wh o o' ob : Nat} {k k1 k2 k' v : Int32} (h : FFL R I1 I st k.toInt) (hU : UPR T R) (hG : GS T R st) (hw : rA R st 6 = wh) (hput : I2 = u2 I1 wh k.toNatClampNeg v) (hv : I1 wh k1.toNatClampNeg = v) (ho : OA R st k.toNatClampNeg = o) (ho' : OA R st k2.toNatClampNeg = o') (hob : rA R o 1 = ob) (hf : FEQ R I3 o I2 o') (S : Chg (SL [o, ob]) T W I2 L2 I3 L3) (h0 : 0 ≤ k.toInt) (h39 : k.toInt < 39) (e1 : k1.toInt = k.toInt + 1) (e2 : k2.toInt = k.toInt + 1) (hk : k'.toInt = k.toInt + 1) : FFL R I3 I st k'.toInt := by
  have n0 := ncz h0
  have n1 : k1.toNatClampNeg = k.toNatClampNeg + 1 := by have := ncz (x := k1) (by omega); omega
  have n2 : k2.toNatClampNeg = k.toNatClampNeg + 1 := by have := ncz (x := k2) (by omega); omega
  rw [n2] at ho'; rw [n1] at hv
  subst ho; subst ho'; subst hob; subst hw
  obtain ⟨a1, a2, a3⟩ := ACT1 hU hG (d := k.toNatClampNeg) (by omega) hput hf S (hG.2.2.2.2.2.1 _ (by omega)).2
  refine ⟨fun j hj h9 => ?_, fun j hj h9 => ?_⟩
  · by_cases q : j = k.toNatClampNeg
    · subst q
      have b := h.2 (k.toNatClampNeg + 1) (by omega) (by omega)
      exact ⟨by rw [a1, ← hv]; exact b.1, a2.tr b.2⟩
    · exact (a3 j (by omega) q).tr (h.1 j (by omega) h9)
  · exact (a3 j h9 (by omega)).tr (h.2 j (by omega) h9)
def FFD (R : RT) (I' I : IT) (st : Nat) : Prop := ∀ j : Nat, j < 39 → AEQ R I' st j I st (j + 1)
theorem FFL.e {T : Nat → Nat} {R : RT} {I I1 I2 : IT} {st f : Nat} {k : Int} {x : Int32} (h : FFL R I1 I st k) (hk : 39 ≤ k) (hG : GS T R st) (e : I2 = u2 I1 st f x) : FFD R I2 I st := fun j hj => (AEQ.put hG hG.1 e (by omega)).tr (h.1 j (by omega) hj)
def FAD (R : RT) (x : Option Nat) (r : Nat) (k : Int32) (fc : Int) (n : Nat) : Prop := (0 ≤ k.toInt → k.toInt < fc → k.toInt < (n : Int) → x = R r k.toNatClampNeg) ∧ ((k.toInt < 0 ∨ fc ≤ k.toInt ∨ (n : Int) ≤ k.toInt) → x = none)
theorem FAD.p {R : RT} {x : Option Nat} {r n : Nat} {k : Int32} {fc : Int} (h : PKD R x r k n) (c : k.toInt < fc) : FAD R x r k fc n := ⟨fun h0 _ h2 => h.1 h0 h2, fun q => h.2 (by omega)⟩
theorem FAD.r {R : RT} {r n b : Nat} {k : Int32} {fc : Int} (h : R r k.toNatClampNeg = some b) (h0 : 0 ≤ k.toInt) (h1 : k.toInt < fc) (h2 : k.toInt < (n : Int)) : FAD R (some b) r k fc n := ⟨fun _ _ _ => h.symm, fun q => by omega⟩
theorem FAD.z {R : RT} {r n : Nat} {k : Int32} {fc : Int} (h : k.toInt < 0 ∨ fc ≤ k.toInt ∨ (n : Int) ≤ k.toInt) : FAD R none r k fc n := ⟨fun _ _ _ => by omega, fun _ => rfl⟩
theorem FAD.q {R : RT} {r n b : Nat} {k : Int32} {fc : Int} (h : FAD R (some b) r k fc n) : 0 ≤ k.toInt ∧ k.toInt < fc ∧ k.toInt < (n : Int) ∧ R r k.toNatClampNeg = some b := by
  by_cases q : k.toInt < 0 ∨ fc ≤ k.toInt ∨ (n : Int) ≤ k.toInt
  · cases h.2 q
  · exact ⟨by omega, by omega, by omega, (h.1 (by omega) (by omega) (by omega)).symm⟩
theorem FAD.no {R : RT} {r n : Nat} {k : Int32} {fc : Int} {P : Nat → Prop} (h : FAD R none r k fc n) (he : ∀ j, j < n → ∃ f, R r j = some f ∧ P f) : k.toInt < 0 ∨ fc ≤ k.toInt ∨ (n : Int) ≤ k.toInt := by
  by_cases q : k.toInt < 0 ∨ fc ≤ k.toInt ∨ (n : Int) ≤ k.toInt
  · exact q
  · obtain ⟨f, f1, -⟩ := he k.toNatClampNeg (ncn (by omega) (by omega))
    have := h.1 (by omega) (by omega) (by omega)
    rw [f1] at this; cases this
def NXD (R : RT) (x : Option Nat) (r : Nat) (c : Int32) (c9 : Int) (n : Nat) : Prop := (c.toInt < (n : Int) → x = R r c.toNatClampNeg ∧ c9 = c.toInt + 1) ∧ ((n : Int) ≤ c.toInt → x = none ∧ c9 = c.toInt)
theorem NXD.z {R : RT} {x : Option Nat} {r n : Nat} {c : Int32} {c9 : Int} (h : x = none) (e : c9 = c.toInt) (hn : (n : Int) ≤ c.toInt) : NXD R x r c c9 n := ⟨fun q => by omega, fun _ => ⟨h, e⟩⟩
theorem NXD.p {R : RT} {x : Option Nat} {r n : Nat} {c k : Int32} {c9 fc : Int} (h : FAD R x r k fc n) (hk : k.toInt = c.toInt) (hf : 0 ≤ c.toInt ∧ c.toInt < fc ∧ c.toInt < (n : Int)) (e : c9 = c.toInt + 1) : NXD R x r c c9 n := by
  have ek : k = c := Int32.toInt_inj.mp hk
  subst ek
  exact ⟨fun _ => ⟨h.1 hf.1 hf.2.1 hf.2.2, e⟩, fun q => by omega⟩
def NBD (w : Nat → Int32) (x : Int32) (d : Int) : Prop := (1 ≤ d → d ≤ 40 → w (d - 1).toNat = x) ∧ (d ≤ 0 → x.toInt = -1)
theorem NBD.r {w : Nat → Int32} {x j : Int32} {d : Int} (e : w j.toNatClampNeg = x) (hj : j.toInt = d - 1) (h : 1 ≤ d) : NBD w x d := ⟨fun _ _ => by rw [← hj]; exact e, fun q => by omega⟩
theorem NBD.z {w : Nat → Int32} {x : Int32} {d : Int} (e : x.toInt = -1) (h : d ≤ 0 ∨ 40 < d) : NBD w x d := ⟨fun _ _ => by omega, fun _ => e⟩
def NOD (w : Nat → Int32) (x d : Int32) (u : Int) : Prop := (0 < u → 0 ≤ d.toInt → d.toInt < 40 → w d.toNatClampNeg = x) ∧ (u ≤ 0 ∨ d.toInt < 0 ∨ 40 ≤ d.toInt → x.toInt = -1)
theorem NOD.r {w : Nat → Int32} {x d : Int32} {u : Int} (e : w d.toNatClampNeg = x) (h : 0 < u ∧ 0 ≤ d.toInt ∧ d.toInt < 40) : NOD w x d u := ⟨fun _ _ _ => e, fun q => by omega⟩
theorem NOD.z {w : Nat → Int32} {x d : Int32} {u : Int} (e : x.toInt = -1) (h : u ≤ 0 ∨ d.toInt < 0 ∨ 40 ≤ d.toInt) : NOD w x d u := ⟨fun _ _ _ => by omega, fun _ => e⟩
theorem FEQ.put {T : Nat → Nat} {R : RT} {I I' : IT} {st' f k : Nat} {x : Int32} (hf : FO T R f) (hT : T st' = 9) (e : I' = u2 I st' k x) : FEQ R I' f I f := by
  obtain ⟨Tf, Rf, Tb⟩ := hf
  subst e
  exact FEQ.rf.l (u2_r (fun e => by rw [e] at Tf; omega)) (u2_r (fun e => by rw [e] at Tb; omega))
theorem WRT {T : Nat → Nat} {R : RT} {If I2 I3 I4 : IT} {L2 L3 : LT} {W : List (Nat × Nat)} {st src wh o ob : Nat} {n y dd : Int32} (hU : UPR T R) (hG : GS T R st) (hs : FO T R src) (hw : rA R st 6 = wh) (hput : I2 = u2 If wh dd.toNatClampNeg n) (ho : OA R st dd.toNatClampNeg = o) (hob : rA R o 1 = ob) (hf : FEQ R I3 o I2 src) (S : Chg (SL [o, ob]) T W I2 L2 I3 L3) (e4 : I4 = u2 I3 st 4 y) (hd : dd.toNatClampNeg < 40) : I4 (WH R st) dd.toNatClampNeg = n ∧ FEQ R I4 (OA R st dd.toNatClampNeg) If src ∧ (∀ j, j < 40 → j ≠ dd.toNatClampNeg → AEQ R I4 st j If st j) ∧ I4 st 4 = y := by
  subst ho; subst hob; subst hw
  obtain ⟨a1, a2, a3⟩ := ACT1 hU hG hd hput hf S hs
  have p := AEQ.put hG hG.1 e4 hd
  refine ⟨p.1.trans a1, p.2.tr a2, fun j hj hn => (AEQ.put hG hG.1 e4 hj).tr (a3 j hj hn), by rw [e4]; exact u2_s⟩
def WRD (R : RT) (I' I : IT) (st : Nat) (n : Int32) (f : Nat) (d : Int) : Prop := (0 ≤ d → d < 40 → I' (WH R st) d.toNat = n ∧ FEQ R I' (OA R st d.toNat) I f ∧ (∀ j, j < 40 → j ≠ d.toNat → AEQ R I' st j I st j) ∧ (I' st 4).toInt = d + 1) ∧ (d = 40 → I' (WH R st) 39 = n ∧ FEQ R I' (OA R st 39) I f ∧ (∀ j, j < 39 → AEQ R I' st j I st (j + 1)) ∧ (I' st 4).toInt = 40)
theorem WRD.a {T : Nat → Nat} {R : RT} {I I1 I2 I3 I4 : IT} {L2 L3 : LT} {W : List (Nat × Nat)} {st src wh o ob : Nat} {n y z dd : Int32} {d : Int} (hU : UPR T R) (hG : GS T R st) (hs : FO T R src) (e1 : I1 = u2 I st 5 z) (hw : rA R st 6 = wh) (hput : I2 = u2 I1 wh dd.toNatClampNeg n) (ho : OA R st dd.toNatClampNeg = o) (hob : rA R o 1 = ob) (hf : FEQ R I3 o I2 src) (S : Chg (SL [o, ob]) T W I2 L2 I3 L3) (e4 : I4 = u2 I3 st 4 y) (hd0 : 0 ≤ d ∧ d < 40) (hd : dd.toInt = d) (hy : y.toInt = d + 1) : WRD R I4 I st n src d := by
  have hn : dd.toNatClampNeg = d.toNat := by have := ncz (x := dd) (by omega); omega
  obtain ⟨a1, a2, a3, a4⟩ := WRT hU hG hs hw hput ho hob hf S e4 (by omega)
  rw [hn] at a1 a2 a3
  exact ⟨fun _ _ => ⟨a1, a2.tr (FEQ.put hs hG.1 e1), fun j hj hn => (a3 j hj hn).tr (AEQ.put hG hG.1 e1 hj), by rw [a4]; exact hy⟩, fun h => by omega⟩
theorem WRD.b {T : Nat → Nat} {R : RT} {I I1 If I2 I3 I4 : IT} {L1 Lf L2 L3 : LT} {W Wf : List (Nat × Nat)} {st src wh o ob : Nat} {n y z dd : Int32} {d : Int} (hU : UPR T R) (hG : GS T R st) (hp : ¬ WSX R st src) (hp2 : ¬ WSX R st (rA R src 1)) (hs : FO T R src) (e1 : I1 = u2 I st 5 z) (hff : FFD R If I1 st) (Sf : Chg (WSX R st) T Wf I1 L1 If Lf) (hw : rA R st 6 = wh) (hput : I2 = u2 If wh dd.toNatClampNeg n) (ho : OA R st dd.toNatClampNeg = o) (hob : rA R o 1 = ob) (hf : FEQ R I3 o I2 src) (S : Chg (SL [o, ob]) T W I2 L2 I3 L3) (e4 : I4 = u2 I3 st 4 y) (hd0 : d = 40) (hd : dd.toInt = 39) (hy : y.toInt = 40) : WRD R I4 I st n src d := by
  have hn : dd.toNatClampNeg = 39 := by have := ncz (x := dd) (by omega); omega
  obtain ⟨a1, a2, a3, a4⟩ := WRT hU hG hs hw hput ho hob hf S e4 (by omega)
  rw [hn] at a1 a2 a3
  have es : FEQ R If src I1 src := FEQ.rf.l (Chg.at Sf hp) (Chg.at Sf hp2)
  exact ⟨fun h0 h1 => by omega, fun _ => ⟨a1, (a2.tr es).tr (FEQ.put hs hG.1 e1), fun j hj => ((a3 j (by omega) (by omega)).tr (hff j hj)).tr (AEQ.put hG hG.1 e1 (by omega)), by rw [a4]; exact hy⟩⟩
/-- an act's form and the form told change places -/
def SBD (R : RT) (I' I : IT) (st f d : Nat) : Prop := FEQ R I' (OA R st d) I f ∧ FEQ R I' f I (OA R st d) ∧ I' (WH R st) = I (WH R st) ∧ ∀ j, j < 40 → j ≠ d → AEQ R I' st j I st j
theorem SBD.of {T : Nat → Nat} {R : RT} {I I1 I2 I3 : IT} {L2 L3 : LT} {W : List (Nat × Nat)} {st f o ob fb d f1 f2 : Nat} {x y : Int32} (hU : UPR T R) (hG : GS T R st) (hf : FO T R f) (hp : ¬ WSX R st f) (hp2 : ¬ WSX R st (rA R f 1)) (e1 : I1 = u2 I st f1 x) (e2 : I2 = u2 I1 st f2 y) (ho : OA R st d = o) (hd : d < 40) (zo : rA R o 1 = ob) (zf : rA R f 1 = fb) (h : SWD I3 ob fb I2 ((I2 o 0).toInt + 1)) (S : Chg (SL [ob, fb]) T W I2 L2 I3 L3) (hq : (I o 0).toInt = (I f 0).toInt) : SBD R I3 I st f d := by
  subst ho; subst zo; subst zf
  have hO := hG.2.2.2.2.2.1
  obtain ⟨Rd, To, Rob, Tob⟩ := hO d hd
  obtain ⟨Tf, Rf, Tfb⟩ := hf
  obtain ⟨Tst, ⟨R6, T6⟩, -⟩ := id hG
  have k2 : ∀ b, b ≠ st → I2 b = I b := fun b hb => by rw [e2, u2_r hb, e1, u2_r hb]
  have eo : I3 (OA R st d) = I2 (OA R st d) := Chg.at S (nm_2 (fun e => by rw [e] at To; omega) (fun e => by rw [e] at To; omega))
  have ef : I3 f = I2 f := Chg.at S (nm_2 (fun e => by rw [e] at Tf; omega) (fun e => by rw [e] at Tf; omega))
  have o2 := k2 (OA R st d) (fun e => by rw [e] at To; omega)
  have f2 := k2 f (fun e => by rw [e] at Tf; omega)
  have ob2 := k2 (rA R (OA R st d) 1) (fun e => by rw [e] at Tob; omega)
  have fb2 := k2 (rA R f 1) (fun e => by rw [e] at Tfb; omega)
  refine ⟨⟨by rw [eo, o2]; exact hq, fun k hk => ?_⟩, ⟨by rw [ef, f2]; exact hq.symm, fun k hk => ?_⟩, ?_, fun j hj hn => ?_⟩
  · rw [(h.1 k (by rw [o2]; omega)).1, fb2]
  · rw [(h.1 k (by rw [o2]; omega)).2, ob2]
  · have w1 : WH R st ≠ rA R (OA R st d) 1 := hU.ne (Or.inr (Or.inr (Or.inr (by omega)))) R6 Rob (Or.inl (fun e => by rw [e] at Tst; omega))
    have w2 : WH R st ≠ rA R f 1 := fun e => hp2 (Or.inr (Or.inl e.symm))
    rw [Chg.at S (nm_2 w1 w2)]
    exact k2 _ (fun e => by rw [e] at T6; omega)
  · obtain ⟨Rj, Tj, Rjb, Tjb⟩ := hO j hj
    have o1 : OA R st j ≠ OA R st d := hU.ne (Or.inl Tj) Rj Rd (Or.inr hn)
    have w1 : WH R st ≠ rA R (OA R st d) 1 := hU.ne (Or.inr (Or.inr (Or.inr (by omega)))) R6 Rob (Or.inl (fun e => by rw [e] at Tst; omega))
    have w2 : WH R st ≠ rA R f 1 := fun e => hp2 (Or.inr (Or.inl e.symm))
    have a := AEQ.at (st := st) (k := j) S (nm_2 w1 w2) (nm_2 (fun e => by rw [e] at Tj; omega) (fun e => by rw [e] at Tj; omega)) (nm_2 (hU.ne (Or.inr (Or.inr (Or.inr (by omega)))) Rjb Rob (Or.inl o1)) (fun e => hp2 (Or.inr (Or.inr ⟨j, hj, Or.inr e.symm⟩))))
    exact (a.tr (AEQ.put hG Tst e2 hj)).tr (AEQ.put hG Tst e1 hj)
/-- the acts of one state laid into the other -/
def CAL (R : RT) (I' I : IT) (r0 r1 : Nat) (k : Int) : Prop := ∀ j : Nat, (j : Int) < k → j < 40 → AEQ R I' r0 j I r1 j
theorem CAL.z {R : RT} {I' I : IT} {r0 r1 : Nat} {k : Int} (h : k = 0) : CAL R I' I r0 r1 k := fun j hj _ => by omega
theorem CAL.s {T : Nat → Nat} {R : RT} {I I1 I2 I3 : IT} {L L1 L2 L3 : LT} {W W1 : List (Nat × Nat)} {r0 r1 wh w1 o o' ob : Nat} {k k' v : Int32} (h : CAL R I1 I r0 r1 k.toInt) (hU : UPR T R) (hG : GS T R r0) (hG1 : GS T R r1) (hn : r0 ≠ r1) (F : Chg (WSX R r0) T W1 I L I1 L1) (hw : rA R r0 6 = wh) (hw1 : rA R r1 6 = w1) (hput : I2 = u2 I1 wh k.toNatClampNeg v) (hv : I1 w1 k.toNatClampNeg = v) (ho : OA R r0 k.toNatClampNeg = o) (ho' : OA R r1 k.toNatClampNeg = o') (hob : rA R o 1 = ob) (hf : FEQ R I3 o I2 o') (S : Chg (SL [o, ob]) T W I2 L2 I3 L3) (h0 : 0 ≤ k.toInt) (h39 : k.toInt < 40) (hk : k'.toInt = k.toInt + 1) : CAL R I3 I r0 r1 k'.toInt := by
  have n0 := ncz h0
  subst ho; subst ho'; subst hob; subst hw; subst hw1
  obtain ⟨a1, a2, a3⟩ := ACT1 hU hG (d := k.toNatClampNeg) (by omega) hput hf S (hG1.2.2.2.2.2.1 _ (by omega)).2
  have b := AEQ.ot hU hG hG1 (Ne.symm hn) F (k := k.toNatClampNeg) (by omega)
  intro j hj h9
  by_cases q : j = k.toNatClampNeg
  · subst q
    exact ⟨by rw [a1, ← hv]; exact b.1, a2.tr b.2⟩
  · exact (a3 j h9 q).tr (h j (by omega) h9)
