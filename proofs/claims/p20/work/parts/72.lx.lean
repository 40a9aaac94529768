/-! what both sides hold alike, call by call -/
def KFs (T : Nat → Nat) (R : RT) (st f : Nat) : Prop := T f = 3 ∧ ∃ row k c, R row k = some f ∧ T row = 23 ∧ R st c = some row ∧ T st = 9
/-- no form, no act of the state st -/
def NOK (T : Nat → Nat) (R : RT) (st a : Nat) : Prop := T a = 5 ∨ T a = 8 ∨ T a = 9 ∨ T a = 10 ∨ T a = 12 ∨ ¬ KEEP T R a ∨ (T a = 20 ∧ ∃ c k, R c k = some a ∧ (T c = 5 ∨ T c = 8)) ∨ ∃ st', st' ≠ st ∧ (KFs T R st' a ∨ (T a = 20 ∧ ∃ f, KFs T R st' f ∧ R f 1 = some a) ∨ (T a = 20 ∧ R st' 6 = some a ∧ T st' = 9))
section Lx
variable {T N : Nat → Nat} {R : RT} {A : Nat → Prop} {st st' : Nat} {I I' I1 : IT} {L L' L1 : LT} {W W' : Nat → Int32}
theorem KFs.k {f : Nat} (h : KFs T R st f) : KF T R f := by
  obtain ⟨h1, row, k, c, h2, h3, h4, h5⟩ := h
  exact ⟨h1, row, k, h2, h3, st, c, h4, h5⟩
theorem KFs.u (hU : UPR T R) {f : Nat} (h : KFs T R st f) (g : KFs T R st' f) : st = st' := by
  obtain ⟨h1, row, k, c, h2, h3, h4, h5⟩ := h
  obtain ⟨g1, row', k', c', g2, g3, g4, g5⟩ := g
  have e := (hU row k row' k' f (Or.inl h1) h2 g2).1
  subst e
  exact (hU st c st' c' row (Or.inr (Or.inr (Or.inr (by omega)))) h4 g4).1
theorem KFs.fa {j : Nat} (hG : GS T R st) (hj : j < 16) : KFs T R st (FA R st j) := by
  obtain ⟨h1, h2⟩ := hG.2.2.2.2.2.2.1 j hj
  exact ⟨h2.1, _, j, 8, h1, hG.2.2.2.1.2, hG.2.2.2.1.1, hG.1⟩
theorem KFs.oa {j : Nat} (hG : GS T R st) (hj : j < 40) : KFs T R st (OA R st j) := by
  obtain ⟨h1, h2⟩ := hG.2.2.2.2.2.1 j hj
  exact ⟨h2.1, _, j, 7, h1, hG.2.2.1.2, hG.2.2.1.1, hG.1⟩
theorem NOK.f (hU : UPR T R) {f : Nat} (h : KFs T R st f) : ¬ NOK T R st f := by
  have t := h.1
  rintro (q | q | q | q | q | q | ⟨q, -⟩ | ⟨st', n, q | ⟨q, -⟩ | ⟨q, -⟩⟩)
  · omega
  · omega
  · omega
  · omega
  · omega
  · exact q (KEEP.f h.k)
  · omega
  · exact n (q.u hU h)
  · omega
  · omega
theorem NOK.b (hU : UPR T R) {f : Nat} (h : KFs T R st f) (ho : FO T R f) : ¬ NOK T R st (rA R f 1) := by
  obtain ⟨Tf, Rf, Tb⟩ := id ho
  rintro (q | q | q | q | q | q | ⟨q, c, k, q2, q3⟩ | ⟨st', n, q | ⟨q, f', q2, q3⟩ | ⟨q, q2, q3⟩⟩)
  · omega
  · omega
  · omega
  · omega
  · omega
  · exact q (KEEP.fb h.k ho)
  · have e := (hU f 1 c k _ (t20 Tb) Rf q2).1
    subst e; omega
  · have := q.1; omega
  · have e := (hU f 1 f' 1 _ (t20 Tb) Rf q3).1
    subst e; exact n (q2.u hU h)
  · have e := (hU f 1 st' 6 _ (t20 Tb) Rf q2).1
    subst e; omega
theorem NOK.w (hU : UPR T R) (hG : GS T R st) : ¬ NOK T R st (WH R st) := by
  obtain ⟨t9, ⟨R6, T6⟩, -⟩ := id hG
  rintro (q | q | q | q | q | q | ⟨q, c, k, q2, q3⟩ | ⟨st', n, q | ⟨q, f', q2, q3⟩ | ⟨q, q2, q3⟩⟩)
  · omega
  · omega
  · omega
  · omega
  · omega
  · exact q (KEEP.wh hG)
  · have e := (hU st 6 c k _ (t20 T6) R6 q2).1
    subst e; omega
  · have := q.1; omega
  · have e := (hU st 6 f' 1 _ (t20 T6) R6 q3).1
    subst e; have := q2.1; omega
  · exact n (hU st' 6 st 6 _ (t20 T6) q2 R6).1
/-- what changes is none of its forms, its acts -/
theorem RST.n {S : Nat → Prop} {Wl : List (Nat × Nat)} (hU : UPR T R) (hG : GS T R st) (h : RST R I st W) (hW : WOS W) (c : Chg S T Wl I L I1 L1) (hS : ∀ a, S a → NOK T R st a) (hc : ∀ k, k < 6 → k ≠ 3 → (I1 st k).toInt = (I st k).toInt) (ht : ∀ j, j < 8 → ∀ k, k < 4 → I1 (TA R st j) k = I (TA R st j) k) : RST R I1 st W := by
  refine h.i hW hc ht (fun j hj => ?_) (fun j hj => ?_)
  · exact AEQ.at c (fun q => NOK.w hU hG (hS _ q)) (fun q => NOK.f hU (KFs.oa hG hj) (hS _ q)) (fun q => NOK.b hU (KFs.oa hG hj) (hG.2.2.2.2.2.1 j hj).2 (hS _ q))
  · exact FEQ.at c (fun q => NOK.f hU (KFs.fa hG hj) (hS _ q)) (fun q => NOK.b hU (KFs.fa hG hj) (hG.2.2.2.2.2.2.1 j hj).2 (hS _ q))
theorem NOK.ao {S : Nat → Prop} {Wl : List (Nat × Nat)} (hU : UPR T R) (hG : GS T R st) (c : Chg S T Wl I L I1 L1) (hS : ∀ a, S a → NOK T R st a) : (∀ j, j < 40 → AEQ R I1 st j I st j) ∧ ∀ j, j < 16 → FEQ R I1 (FA R st j) I (FA R st j) :=
  ⟨fun j hj => AEQ.at c (fun q => NOK.w hU hG (hS _ q)) (fun q => NOK.f hU (KFs.oa hG hj) (hS _ q)) (fun q => NOK.b hU (KFs.oa hG hj) (hG.2.2.2.2.2.1 j hj).2 (hS _ q)), fun j hj => FEQ.at c (fun q => NOK.f hU (KFs.fa hG hj) (hS _ q)) (fun q => NOK.b hU (KFs.fa hG hj) (hG.2.2.2.2.2.2.1 j hj).2 (hS _ q))⟩
theorem NOK.q {a : Nat} (h : BS T R A a) : NOK T R st a := Or.inr (Or.inr (Or.inr (Or.inr (Or.inr (Or.inl h.2)))))
/-- the other state's cells -/
theorem NOK.own (hn : st' ≠ st) (hG : GS T R st') (hg : GG T R st') {a : Nat} (h : OWN R st' a) : NOK T R st a := by
  rcases h with (rfl | rfl | ⟨j, hj, rfl | rfl⟩) | ⟨j, hj, rfl | rfl⟩ | ⟨j, hj, rfl⟩ | ⟨j, hj, rfl | rfl | rfl⟩
  · exact Or.inr (Or.inr (Or.inl hG.1))
  · exact Or.inr (Or.inr (Or.inr (Or.inr (Or.inr (Or.inr (Or.inr ⟨st', hn, Or.inr (Or.inr ⟨hG.2.1.2, hG.2.1.1, hG.1⟩)⟩))))))
  · exact Or.inr (Or.inr (Or.inr (Or.inr (Or.inr (Or.inr (Or.inr ⟨st', hn, Or.inl (KFs.oa hG hj)⟩))))))
  · have o := (hG.2.2.2.2.2.1 j hj).2
    exact Or.inr (Or.inr (Or.inr (Or.inr (Or.inr (Or.inr (Or.inr ⟨st', hn, Or.inr (Or.inl ⟨o.2.2, _, KFs.oa hG hj, o.2.1⟩)⟩))))))
  · exact Or.inr (Or.inr (Or.inr (Or.inr (Or.inr (Or.inr (Or.inr ⟨st', hn, Or.inl (KFs.fa hG hj)⟩))))))
  · have o := (hG.2.2.2.2.2.2.1 j hj).2
    exact Or.inr (Or.inr (Or.inr (Or.inr (Or.inr (Or.inr (Or.inr ⟨st', hn, Or.inr (Or.inl ⟨o.2.2, _, KFs.fa hG hj, o.2.1⟩)⟩))))))
  · exact Or.inr (Or.inr (Or.inr (Or.inl (hG.2.2.2.2.2.2.2 j hj).2)))
  · exact Or.inr (Or.inl (hg.2.2 j hj).2.1)
  · exact Or.inr (Or.inr (Or.inr (Or.inr (Or.inr (Or.inr (Or.inl ⟨(hg.2.2 j hj).2.2.1.2, _, 0, (hg.2.2 j hj).2.2.1.1, Or.inr (hg.2.2 j hj).2.1⟩))))))
  · exact Or.inr (Or.inr (Or.inr (Or.inr (Or.inr (Or.inr (Or.inl ⟨(hg.2.2 j hj).2.2.2.2, _, 1, (hg.2.2 j hj).2.2.2.1, Or.inr (hg.2.2 j hj).2.1⟩))))))
/-- a state's cells are the class's -/
theorem ST.a9 (h : h_St T N R A st) : A st ∧ A (WH R st) ∧ (∀ j, j < 40 → A (OA R st j) ∧ A (rA R (OA R st j) 1)) ∧ (∀ j, j < 16 → A (FA R st j) ∧ A (rA R (FA R st j) 1)) ∧ (∀ j, j < 8 → A (TA R st j)) ∧ ∀ j, j < 8 → A (SA R st j) ∧ A (rA R (SA R st j) 0) ∧ A (rA R (SA R st j) 1) := by
  obtain ⟨h1, h2, ⟨wh, w1, -, -, w4⟩, ⟨o, o1, -, -, -, o5⟩, ⟨f, f1, -, -, -, f5⟩, ⟨t, t1, -, -, -, t5⟩, ⟨s, s1, -, -, -, s5⟩⟩ := h
  refine ⟨h2, by unfold WH; rw [rA_e w1]; exact w4, fun j hj => ?_, fun j hj => ?_, fun j hj => ?_, fun j hj => ?_⟩
  · obtain ⟨b, b1, -, b3, c, c1, -, -, c4⟩ := o5 j hj
    unfold OA
    rw [rA_e o1, rA_e b1, rA_e c1]; exact ⟨b3, c4⟩
  · obtain ⟨b, b1, -, b3, c, c1, -, -, c4⟩ := f5 j hj
    unfold FA
    rw [rA_e f1, rA_e b1, rA_e c1]; exact ⟨b3, c4⟩
  · obtain ⟨b, b1, -, b3⟩ := t5 j hj
    unfold TA
    rw [rA_e t1, rA_e b1]; exact b3
  · obtain ⟨b, b1, -, b3, ⟨c, c1, -, -, c4⟩, ⟨d, d1, -, -, d4⟩⟩ := s5 j hj
    unfold SA
    rw [rA_e s1, rA_e b1, rA_e c1, rA_e d1]; exact ⟨b3, c4, d4⟩
theorem RST.b (hs : h_St T N R A st) (h : RST R I st W) (hW : WOS W) (e : ∀ a, A a → I1 a = I a) : RST R I1 st W := by
  obtain ⟨a1, a2, a3, a4, a5, -⟩ := ST.a9 hs
  exact h.i hW (fun k _ _ => by rw [e _ a1]) (fun j hj k _ => by rw [e _ (a5 j hj)]) (fun j hj => ⟨by rw [e _ a2], FEQ.rf.l (e _ (a3 j hj).1) (e _ (a3 j hj).2)⟩) (fun j hj => FEQ.rf.l (e _ (a4 j hj).1) (e _ (a4 j hj).2))
end Lx
/-- what changes of the class's cells in a call: of a set alone, of objects few fields -/
def CB (S : Nat → Prop) (T : Nat → Nat) (Wl : List (Nat × Nat)) (I I' : IT) : Prop := (∀ a, ¬ S a → I' a = I a) ∧ ∀ a k, T a < 20 → (T a, k) ∉ Wl → I' a k = I a k
theorem Chg.cb {S : Nat → Prop} {T : Nat → Nat} {Wl : List (Nat × Nat)} {I I' : IT} {L L' : LT} (h : Chg S T Wl I L I' L') : CB S T Wl I I' := ⟨fun a ha => (h.1 a ha).1, h.2⟩
theorem CB.ch {S : Nat → Prop} {T : Nat → Nat} {Wl : List (Nat × Nat)} {I I' : IT} {L : LT} (h : CB S T Wl I I') : Chg S T Wl I L I' L := ⟨fun a ha => ⟨h.1 a ha, rfl⟩, h.2⟩
theorem CB.rf {S : Nat → Prop} {T : Nat → Nat} {Wl : List (Nat × Nat)} {I : IT} : CB S T Wl I I := ⟨fun _ _ => rfl, fun _ _ _ _ => rfl⟩
/-- the counts of signs -/
def SGX (nw kp m : Nat) (I : IT) : Prop := (0 ≤ (I nw 3).toInt ∧ (I nw 3).toInt ≤ 8) ∧ ((I m 3).toInt = 0 ∨ (0 ≤ (I kp 3).toInt ∧ (I kp 3).toInt ≤ 8))
theorem SGX.k {nw kp m : Nat} {I I1 : IT} (h : SGX nw kp m I) (e1 : I1 nw 3 = I nw 3) (e2 : I1 kp 3 = I kp 3) (e3 : I1 m 3 = I m 3) : SGX nw kp m I1 := by unfold SGX; rw [e1, e2, e3]; exact h
def RX (R : RT) (nw kp cb m w im tp : Nat) (I : IT) : Prop := (∀ k : Nat, (k : Int) < (I m 11).toInt → (I cb k).toInt = (I tp k).toInt % 256) ∧ RST R I nw (I w) ∧ ((I m 3).toInt = 0 ∨ RST R I kp (I im)) ∧ SGX nw kp m I
/-- whose algebra is whose -/
def AXX (R : RT) (x nw : Nat) : Prop := rA R (rA R (rA R x 8) 2) 0 = nw ∧ rA R (rA R (rA R x 6) 0) 0 = nw ∧ rA R (rA R (rA R x 9) 1) 0 = nw ∧ rA R (rA R (rA R x 7) 0) 0 = nw ∧ rA R (rA R (rA R (rA R x 7) 1) 0) 0 = nw
/-- the law's surroundings, with who holds whom -/
def LX (T N : Nat → Nat) (R : RT) (A B : Nat → Prop) (x nw kp rd al m w im o cb tp : Nat) : Prop := LW T N R A B x nw kp rd al m w im o ∧ UPR T R ∧ R rd 2 = some cb ∧ R m 10 = some tp ∧ AXX R x nw
section LX
variable {T N : Nat → Nat} {R : RT} {A B : Nat → Prop} {x nw kp rd al m w im o cb tp : Nat} {I I1 I2 : IT} {L L1 L2 : LT}
theorem LX.s (E : LX T N R A B x nw kp rd al m w im o cb tp) : h_St T N R A nw ∧ h_St T N R A kp := by
  obtain ⟨⟨hx, -, -, -, r1, r2, -⟩, -⟩ := E
  obtain ⟨b, e, h⟩ := hx.2.2.2.1
  obtain ⟨b', e', h'⟩ := hx.2.2.2.2.1
  cases e.symm.trans r1
  cases e'.symm.trans r2
  exact ⟨h, h'⟩
theorem LX.h (E : LX T N R A B x nw kp rd al m w im o cb tp) : hs_LF T N R A (BS T R A) x := bs_LF E.2.1 E.1.1
theorem LX.g (E : LX T N R A B x nw kp rd al m w im o cb tp) : (GS T R nw ∧ GG T R nw) ∧ GS T R kp ∧ GG T R kp := ⟨⟨GS.of (bs_St E.s.1), GG.of (bs_St E.s.1)⟩, GS.of (bs_St E.s.2), GG.of (bs_St E.s.2)⟩
theorem LX.c (E : LX T N R A B x nw kp rd al m w im o cb tp) : T cb = 20 ∧ A cb := by
  obtain ⟨⟨hx, -, -, -, -, -, r0, -⟩, -, rc, -⟩ := E
  obtain ⟨b, e, h⟩ := hx.2.2.1
  cases e.symm.trans r0
  obtain ⟨-, -, -, c, c1, c2, -, c4⟩ := h
  cases c1.symm.trans rc
  exact ⟨c2, c4⟩
theorem LX.tb (E : LX T N R A B x nw kp rd al m w im o cb tp) : B tp := by
  obtain ⟨⟨-, hm, -⟩, -, -, rt, -⟩ := E
  obtain ⟨-, -, -, -, -, -, ⟨a10, b10, c10⟩, -⟩ := hm
  cases b10.symm.trans rt
  exact c10.2.2
theorem LX.z (E : LX T N R A B x nw kp rd al m w im o cb tp) : rA R x 0 = rd ∧ rA R x 1 = nw ∧ rA R x 2 = kp ∧ rA R x 5 = al ∧ rA R al 0 = nw ∧ rA R rd 2 = cb := by
  obtain ⟨⟨-, -, -, -, r1, r2, r0, -, r5, ra, -⟩, -, rc, -⟩ := E
  exact ⟨rA_e r0, rA_e r1, rA_e r2, rA_e r5, rA_e ra, rA_e rc⟩
theorem LX.kc (E : LX T N R A B x nw kp rd al m w im o cb tp) : KEEP T R cb := KEEP.tp E.1.t.1.2.2.2 E.2.2.1 E.c.1
theorem LI.wos (E : LX T N R A B x nw kp rd al m w im o cb tp) (h : LI T R A m I) : WOS (I w) ∧ ((I m 3).toInt ≠ 0 → WOS (I im)) := by
  obtain ⟨⟨-, -, -, -, -, -, -, -, -, -, w1, w2⟩, -⟩ := E
  exact ⟨⟨h.2.1.w w1, h.2.2.1 w w1⟩, h.2.2.2 im w2⟩
/-- behind a question of the class -/
theorem RX.q {Wl : List (Nat × Nat)} (E : LX T N R A B x nw kp rd al m w im o cb tp) (hl : LI T R A m I) (h : RX R nw kp cb m w im tp I) (c : CB (BS T R A) T Wl I I1) (h9 : ∀ k, k < 6 → (9, k) ∉ Wl) (h10 : ∀ k, k < 4 → (10, k) ∉ Wl) : RX R nw kp cb m w im tp I1 := by
  obtain ⟨⟨g1, -⟩, g2, -⟩ := E.g
  obtain ⟨hw, hi⟩ := LI.wos E hl
  have hB := E.1.t.2.2
  have nAB := E.1.2.2.2.1
  have eB : ∀ a, B a → I1 a = I a := fun a ha => c.1 a (fun q => nAB a q.1 ha)
  have e9 : ∀ st, T st = 9 → ∀ k, k < 6 → I1 st k = I st k := fun st hst k hk => c.2 st k (by omega) (by rw [hst]; exact h9 k hk)
  have e10 : ∀ st, GS T R st → ∀ j, j < 8 → ∀ k, k < 4 → I1 (TA R st j) k = I (TA R st j) k := fun st hg j hj k hk => by
    have t := (hg.2.2.2.2.2.2.2 j hj).2
    exact c.2 _ k (by omega) (by rw [t]; exact h10 k hk)
  refine ⟨fun k hk => ?_, ?_, ?_, h.2.2.2.k (e9 nw g1.1 3 (by decide)) (e9 kp g2.1 3 (by decide)) (by rw [eB m hB.1])⟩
  · rw [eB m hB.1] at hk
    rw [c.1 cb (fun q => q.2 E.kc), eB tp E.tb]; exact h.1 k hk
  · rw [eB w hB.2.1]
    exact RST.n E.2.1 g1 h.2.1 hw (c.ch (L := fun _ _ => 0)) (fun a ha => NOK.q ha) (fun k hk _ => by rw [e9 nw g1.1 k hk]) (e10 nw g1)
  · rw [eB m hB.1, eB im hB.2.2]
    by_cases z : (I m 3).toInt = 0
    · exact Or.inl z
    · exact Or.inr (RST.n E.2.1 g2 (h.2.2.1.resolve_left z) (hi z) (c.ch (L := fun _ _ => 0)) (fun a ha => NOK.q ha) (fun k hk _ => by rw [e9 kp g2.1 k hk]) (e10 kp g2))
/-- behind a call of the reference that leaves its world's forms, tables, acts -/
theorem RX.r {Wf WA : List Nat} (E : LX T N R A B x nw kp rd al m w im o cb tp) (hl : LI T R A m I) (h : RX R nw kp cb m w im tp I) (c : CM B R m Wf WA I L I1 L1) (h11 : (I1 m 11).toInt ≤ (I m 11).toInt) (h3 : 3 ∉ Wf) (h2 : 2 ∉ WA) (h10 : 10 ∉ WA) (f : ∀ r, r < 3606 → r ≠ 3 → (r < 198 ∨ 3406 ≤ r) → I1 w r = I w r) : RX R nw kp cb m w im tp I1 := by
  obtain ⟨hw, hi⟩ := LI.wos E hl
  obtain ⟨-, ⟨a1, a2, a3, a4⟩, -⟩ := E.1.t
  have nAB := E.1.2.2.2.1
  have eA : ∀ a, A a → I1 a = I a := fun a ha => (c.1 a (nAB a ha)).1
  have w2 := E.1.2.2.2.2.2.2.2.2.2.2.2
  refine ⟨fun k hk => ?_, ?_, ?_, h.2.2.2.k (by rw [eA nw a2]) (by rw [eA kp a3]) (c.2.1 3 h3)⟩
  · rw [eA cb E.c.2, (c.2.2 10 tp E.2.2.2.1 h10).1]; exact h.1 k (by omega)
  · exact (RST.b E.s.1 h.2.1 hw eA).w hw f
  · rw [c.2.1 3 h3, (c.2.2 2 im w2 h2).1]
    by_cases z : (I m 3).toInt = 0
    · exact Or.inl z
    · exact Or.inr (RST.b E.s.2 (h.2.2.1.resolve_left z) (hi z) eA)
end LX
