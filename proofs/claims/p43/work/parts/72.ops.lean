/-! calls that change what is told: both sides alike behind them -/
/-- the law's relation -/
def RYo (R : RT) (x nw kp rd cb m w im tp : Nat) (I : IT) : Prop := (I rd 1).toInt = (I m 11).toInt ∧ (I x 3).toInt = (I m 3).toInt ∧ RX R nw kp cb m w im tp I
theorem AGX.w {W' W1 W : Nat → Int32} {a : Nat} {b x : Int} {f : Int32} (h : AGX W' W1 a b x) (e : ∀ r : Nat, r ≠ 4 → r ≠ 5 → W1 r = W r) (ef : W (3406 + 5 * a) = f) : ∃ ta tb tc td : Int, (b = 0 → ta = wac W a 0 ∧ tb = wac W a 1 ∧ tc = wac W a 2 ∧ td = wac W a 3) ∧ (b = 1 → TBK ta tb tc td (wac W a 0) (wac W a 1) (wac W a 2) (wac W a 3) (W 0).toInt) ∧ (∀ k : Nat, (k : Int) ≤ WD W f.toNatClampNeg → WN W' f.toNatClampNeg k = mxS (W 0).toInt ta tb tc td (WD W f.toNatClampNeg).toNat (WN W f.toNatClampNeg) ((WD W f.toNatClampNeg).toNat + 1) k) ∧ (∀ r : Nat, r ≠ 4 → r ≠ 5 → (r < 7 + 10 * f.toNatClampNeg ∨ 7 + 10 * f.toNatClampNeg + (WD W f.toNatClampNeg).toNat + 1 ≤ r) → W' r = W r) ∧ W' 4 = W1 4 ∧ W' 5 = W1 5 ∧ x = f.toInt := by
  obtain ⟨ta, tb, tc, td, h0, h1, ⟨M1, M2⟩, hx⟩ := h
  have g : ∀ k : Nat, W1 (3407 + 5 * a + k) = W (3407 + 5 * a + k) := fun k => e _ (by omega) (by omega)
  have g0 : (W1 (3407 + 5 * a)).toInt = wac W a 0 := by rw [e _ (by omega) (by omega)]; rfl
  have g1 : (W1 (3408 + 5 * a)).toInt = wac W a 1 := by rw [e _ (by omega) (by omega)]; unfold wac; rw [show 3407 + 5 * a + 1 = 3408 + 5 * a from by omega]
  have g2 : (W1 (3409 + 5 * a)).toInt = wac W a 2 := by rw [e _ (by omega) (by omega)]; unfold wac; rw [show 3407 + 5 * a + 2 = 3409 + 5 * a from by omega]
  have g3 : (W1 (3410 + 5 * a)).toInt = wac W a 3 := by rw [e _ (by omega) (by omega)]; unfold wac; rw [show 3407 + 5 * a + 3 = 3410 + 5 * a from by omega]
  have gf : W1 (3406 + 5 * a) = f := (e _ (by omega) (by omega)).trans ef
  have gp : W1 0 = W 0 := e 0 (by decide) (by decide)
  rw [g0, g1, g2, g3] at h0
  rw [g0, g1, g2, g3, gp] at h1
  rw [gf, gp] at M1
  rw [gf] at M2 hx
  have gD : (W1 (6 + 10 * f.toNatClampNeg)).toInt = WD W f.toNatClampNeg := by rw [e _ (by omega) (by omega)]; rfl
  have gN : (fun i => (W1 (7 + 10 * f.toNatClampNeg + i)).toInt) = WN W f.toNatClampNeg := funext fun i => by show (W1 (7 + 10 * f.toNatClampNeg + i)).toInt = (W (7 + 10 * f.toNatClampNeg + i)).toInt; rw [e _ (by omega) (by omega)]
  rw [gD, gN] at M1
  rw [gD] at M2
  exact ⟨ta, tb, tc, td, h0, h1, M1, fun r h4 h5 hr => (M2 r hr).trans (e r h4 h5), M2 4 (Or.inl (by omega)), M2 5 (Or.inl (by omega)), hx⟩
section Ops
variable {T N : Nat → Nat} {R : RT} {A B : Nat → Prop} {x nw kp rd al m w im o cb tp : Nat} {I I1 I2 : IT} {L L1 L2 : LT} {Wf WA : List Nat} {S : Nat → Prop} {Wl : List (Nat × Nat)}
theorem RYo.q (E : LX T N R A B x nw kp rd al m w im o cb tp) (hl : LI T R A m I) (h : RYo R x nw kp rd cb m w im tp I) (c : CB (BS T R A) T Wl I I1) (h5 : (5, 1) ∉ Wl) (h12 : (12, 3) ∉ Wl) (h9 : ∀ k, k < 6 → (9, k) ∉ Wl) (h10 : ∀ k, k < 4 → (10, k) ∉ Wl) : RYo R x nw kp rd cb m w im tp I1 := by
  obtain ⟨⟨t1, t2, t3, t4⟩, -, b1, -⟩ := E.1.t
  have em : I1 m = I m := c.1 m (fun q => E.1.2.2.2.1 m q.1 b1)
  exact ⟨by rw [c.2 rd 1 (by omega) (by rw [t4]; exact h5), em]; exact h.1, by rw [c.2 x 3 (by omega) (by rw [t1]; exact h12), em]; exact h.2.1, RX.q E hl h.2.2 c h9 h10⟩
theorem RYo.r (E : LX T N R A B x nw kp rd al m w im o cb tp) (hl : LI T R A m I) (h : RYo R x nw kp rd cb m w im tp I) (c : CM B R m Wf WA I L I1 L1) (h11 : 11 ∉ Wf) (h3 : 3 ∉ Wf) (h2 : 2 ∉ WA) (h10 : 10 ∉ WA) (f : ∀ r, r < 3606 → r ≠ 3 → (r < 198 ∨ 3406 ≤ r) → I1 w r = I w r) : RYo R x nw kp rd cb m w im tp I1 := by
  obtain ⟨-, ⟨a1, a2, a3, a4⟩, -⟩ := E.1.t
  have nAB := E.1.2.2.2.1
  exact ⟨by rw [(c.1 rd (nAB _ a4)).1, c.2.1 11 h11]; exact h.1, by rw [(c.1 x (nAB _ a1)).1, c.2.1 3 h3]; exact h.2.1, RX.r E hl h.2.2 c (by rw [c.2.1 11 h11]; exact Int.le_refl _) h3 h2 h10 f⟩
theorem RYo.r0 (E : LX T N R A B x nw kp rd al m w im o cb tp) (hl : LI T R A m I) (h : RYo R x nw kp rd cb m w im tp I) (c : CM B R m Wf WA I L I1 L1) (h11 : 11 ∉ Wf) (h3 : 3 ∉ Wf) (h1 : 1 ∉ WA) (h2 : 2 ∉ WA) (h10 : 10 ∉ WA) : RYo R x nw kp rd cb m w im tp I1 := by
  have w1 := E.1.2.2.2.2.2.2.2.2.2.2.1
  exact RYo.r E hl h c h11 h3 h2 h10 (fun r _ _ _ => by rw [(c.2.2 1 w w1 h1).1])
theorem RYo.rf (E : LX T N R A B x nw kp rd al m w im o cb tp) (hl : LI T R A m I) (h : RYo R x nw kp rd cb m w im tp I) (f : Fr (fun a => a = m ∨ R m 21 = some a ∨ R m 34 = some a) I L I1 L1) (k : IKm m I I1) : RYo R x nw kp rd cb m w im tp I1 := by
  obtain ⟨hw, hi⟩ := LI.wos E hl
  obtain ⟨-, ⟨a1, a2, a3, a4⟩, b1, b2, b3⟩ := E.1.t
  have G := MD.G E.1.2.1
  have w1 := E.1.2.2.2.2.2.2.2.2.2.2.1
  have w2 := E.1.2.2.2.2.2.2.2.2.2.2.2
  have eA : ∀ a, A a → I1 a = I a := fun a ha => (f a (fun q => by
    rcases q with q | q | q
    · subst q; exact E.1.2.2.2.1 _ ha b1
    · exact E.1.2.2.2.1 a ha (MD.B E.1.2.1 (by decide) q)
    · exact E.1.2.2.2.1 a ha (MD.B E.1.2.1 (by decide) q))).1
  have e : ∀ g a, R m g = some a → g ≠ 21 → g ≠ 34 → I1 a = I a := fun g a ha h1 h2 => (f a (fun q => by
    rcases q with q | q | q
    · exact G.ne ha q
    · exact h1 (G.1 _ _ _ ha q)
    · exact h2 (G.1 _ _ _ ha q))).1
  refine ⟨by rw [eA rd a4, k 11 (by decide) (by decide)]; exact h.1, by rw [eA x a1, k 3 (by decide) (by decide)]; exact h.2.1, fun j hj => by rw [k 11 (by decide) (by decide)] at hj; rw [eA cb E.c.2, e 10 tp E.2.2.2 (by decide) (by decide)]; exact h.2.2.1 j hj, by rw [e 1 w w1 (by decide) (by decide)]; exact RST.b E.s.1 h.2.2.2.1 hw eA, ?_, h.2.2.2.2.2.k (by rw [eA nw a2]) (by rw [eA kp a3]) (k 3 (by decide) (by decide))⟩
  rw [k 3 (by decide) (by decide), e 2 im w2 (by decide) (by decide)]
  by_cases z : (I m 3).toInt = 0
  · exact Or.inl z
  · exact Or.inr (RST.b E.s.2 (h.2.2.2.2.1.resolve_left z) (hi z) eA)
/-- an exception, or nothing to do: nothing changed but the reader -/
theorem RX.ex (E : LX T N R A B x nw kp rd al m w im o cb tp) (hl : LI T R A m I) (h : RX R nw kp cb m w im tp I) (e : ∀ a, a ≠ rd → ∀ k, I1 a k = I a k) : RX R nw kp cb m w im tp I1 := by
  obtain ⟨hw, hi⟩ := LI.wos E hl
  obtain ⟨⟨g1, -⟩, g2, -⟩ := E.g
  obtain ⟨⟨t1, t2, t3, t4⟩, ⟨a1, a2, a3, a4⟩, b1, b2, b3⟩ := E.1.t
  have nAB := E.1.2.2.2.1
  have eB : ∀ a, B a → I1 a = I a := fun a ha => funext (e a (fun q => by subst q; exact nAB _ a4 ha))
  have eT : ∀ a, T a ≠ 5 → I1 a = I a := fun a ha => funext (e a (fun q => by subst q; exact ha t4))
  have st : ∀ st W, GS T R st → RST R I st W → WOS W → RST R I1 st W := fun st W g hr hW => by
    refine hr.i hW (fun k _ _ => by rw [eT st (by have := g.1; omega)]) (fun j hj k _ => by rw [eT _ (by have := (g.2.2.2.2.2.2.2 j hj).2; omega)]) (fun j hj => ?_) (fun j hj => ?_)
    · have q := (g.2.2.2.2.2.1 j hj).2
      exact ⟨by rw [eT _ (by have := g.2.1.2; omega)], FEQ.rf.l (eT _ (by have := q.1; omega)) (eT _ (by have := q.2.2; omega))⟩
    · have q := (g.2.2.2.2.2.2.1 j hj).2
      exact FEQ.rf.l (eT _ (by have := q.1; omega)) (eT _ (by have := q.2.2; omega))
  refine ⟨fun k hk => by rw [eB m b1] at hk; rw [eT cb (by have := E.c.1; omega), eB tp E.tb]; exact h.1 k hk, by rw [eB w b2]; exact st nw _ g1 h.2.1 hw, ?_, h.2.2.2.k (by rw [eT nw (by omega)]) (by rw [eT kp (by omega)]) (by rw [eB m b1])⟩
  rw [eB m b1, eB im b3]
  by_cases z : (I m 3).toInt = 0
  · exact Or.inl z
  · exact Or.inr (st kp _ g2 (h.2.2.1.resolve_left z) (hi z))
/-- a state's cells are no other state's tables, no object of another kind -/
theorem OWN.ty {st a : Nat} (g : GS T R st) (gg : GG T R st) (q : OWN R st a) : a = st ∨ T a = 3 ∨ T a = 8 ∨ T a = 10 ∨ T a = 20 := by
  rcases q with (e | e | ⟨j, hj, e | e⟩) | ⟨j, hj, e | e⟩ | ⟨j, hj, e⟩ | ⟨j, hj, e | e | e⟩
  · exact Or.inl e
  · rw [e]; have := g.2.1.2; omega
  · rw [e]; have := (g.2.2.2.2.2.1 j hj).2.1; omega
  · rw [e]; have := (g.2.2.2.2.2.1 j hj).2.2.2; omega
  · rw [e]; have := (g.2.2.2.2.2.2.1 j hj).2.1; omega
  · rw [e]; have := (g.2.2.2.2.2.2.1 j hj).2.2.2; omega
  · rw [e]; have := (g.2.2.2.2.2.2.2 j hj).2; omega
  · rw [e]; have := (gg.2.2 j hj).2.1; omega
  · rw [e]; have := (gg.2.2 j hj).2.2.1.2; omega
  · rw [e]; have := (gg.2.2 j hj).2.2.2.2; omega
theorem OWN.a9 {st : Nat} (h : h_St T N R A st) {a : Nat} (q : OWN R st a) : A a := by
  obtain ⟨a1, a2, a3, a4, a5, a6⟩ := ST.a9 h
  rcases q with (rfl | rfl | ⟨j, hj, rfl | rfl⟩) | ⟨j, hj, rfl | rfl⟩ | ⟨j, hj, rfl⟩ | ⟨j, hj, rfl | rfl | rfl⟩
  · exact a1
  · exact a2
  · exact (a3 j hj).1
  · exact (a3 j hj).2
  · exact (a4 j hj).1
  · exact (a4 j hj).2
  · exact a5 j hj
  · exact (a6 j hj).1
  · exact (a6 j hj).2.1
  · exact (a6 j hj).2.2
/-! what the class's calls ask -/
theorem RYo.b (E : LX T N R A B x nw kp rd al m w im o cb tp) (hl : LI T R A m I) (h : RYo R x nw kp rd cb m w im tp I) : (0 ≤ (I nw 1).toInt ∧ (I nw 1).toInt ≤ 16) ∧ (0 ≤ (I nw 2).toInt ∧ (I nw 2).toInt ≤ 8) ∧ (0 ≤ (I nw 4).toInt ∧ 0 ≤ (I nw 5).toInt ∧ (I nw 4).toInt + (I nw 5).toInt ≤ 40) ∧ (0 ≤ (I rd 1).toInt ∧ (I rd 1).toInt ≤ 400) ∧ (0 ≤ (I nw 3).toInt ∧ (I nw 3).toInt ≤ 8) ∧ PRM (I nw 0).toInt := by
  obtain ⟨hw, hi⟩ := LI.wos E hl
  obtain ⟨b1, b2, b4, -⟩ := hw.b
  have hp := hw.pr
  obtain ⟨r1, r2, r3, ⟨⟨e0, e1, e2, e4, e5⟩, -⟩, -, s, -⟩ := h
  have b := hl.2.1.f11 (x := I m 11) rfl
  unfold PRM
  rw [e0, e1, e2, e4, e5, r1]
  exact ⟨b1, b2, b4, b, s, hp⟩
theorem RYo.bf (E : LX T N R A B x nw kp rd al m w im o cb tp) (h : RYo R x nw kp rd cb m w im tp I) : ∀ j : Nat, (j : Int) < (I nw 1).toInt → BNX I (rA R (FA R nw j) 1) (I (FA R nw j) 0).toInt (I nw 0).toInt := fun j hj => by
  obtain ⟨-, -, -, ⟨⟨e0, e1, -⟩, hF, -⟩, -⟩ := h
  obtain ⟨f1, f2⟩ := hF j (by omega)
  intro k hk
  rw [f1.1] at hk
  rw [f1.2 k hk, e0]
  exact f2 k hk
theorem RYo.ba (E : LX T N R A B x nw kp rd al m w im o cb tp) (hl : LI T R A m I) (h : RYo R x nw kp rd cb m w im tp I) : ∀ k : Nat, (k : Int) < (I nw 4).toInt + (I nw 5).toInt → 0 ≤ (I (WH R nw) k).toInt ∧ (I (WH R nw) k).toInt < (I nw 1).toInt ∧ (I (OA R nw k) 0).toInt = (I (FA R nw (I (WH R nw) k).toNatClampNeg) 0).toInt := fun k hk => by
  obtain ⟨-, -, -, ⟨⟨e0, e1, e2, e4, e5⟩, hF, -, V, -, -, v3⟩, -⟩ := h
  obtain ⟨y1, y2, -, y4, -⟩ := v3 k (by omega)
  have ex : I (WH R nw) k = I w (3406 + 5 * k) := Int32.toInt_inj.mp y1
  have nf := ncz (x := I w (3406 + 5 * k)) y2.1
  rw [ex, y4.1, (hF (I w (3406 + 5 * k)).toNatClampNeg (by omega)).1.1, e1]
  exact ⟨y2.1, y2.2, rfl⟩
theorem LX.nb (E : LX T N R A B x nw kp rd al m w im o cb tp) : ∀ j, j < 16 → ¬ BS T R A (FA R nw j) ∧ ¬ BS T R A (rA R (FA R nw j) 1) := fun j hj => by
  obtain ⟨⟨g1, -⟩, -⟩ := E.g
  have k := KEEP.fa g1 hj
  exact ⟨fun q => q.2 (KEEP.f k), fun q => q.2 (KEEP.fb k (g1.2.2.2.2.2.2.1 j hj).2)⟩
/-! the tape -/
theorem SL.a {l : List Nat} {a : Nat} (h : SL l a) : a ∈ l := h
/-! the field -/
def sFm (R : RT) (rd nw n a : Nat) : Prop := a = rd ∨ a = nw ∨ a = FA R nw n ∨ a = rA R (FA R nw n) 1
theorem sFm.a9 (E : LX T N R A B x nw kp rd al m w im o cb tp) {n : Nat} (hn : n < 16) {a : Nat} (h : sFm R rd nw n a) : A a := by
  obtain ⟨-, ⟨a1, a2, a3, a4⟩, -⟩ := E.1.t
  rcases h with rfl | rfl | rfl | rfl
  · exact a4
  · exact a2
  · exact OWN.a9 E.s.1 (OWN.f rfl hn)
  · exact OWN.a9 E.s.1 (OWN.fb rfl hn)
def sTb (R : RT) (nw n a : Nat) : Prop := a = nw ∨ a = TA R nw n
theorem sTb.a9 (E : LX T N R A B x nw kp rd al m w im o cb tp) {n : Nat} (hn : n < 8) {a : Nat} (h : sTb R nw n a) : A a := by
  rcases h with q | q
  · rw [q]; exact E.1.t.2.1.2.1
  · rw [q]; exact OWN.a9 E.s.1 (OWN.t rfl hn)
def G4 (a b c d : Int) (k : Nat) : Int := if k = 0 then a else if k = 1 then b else if k = 2 then c else d
theorem G4.of {P : Nat → Int → Prop} {a b c d : Int} (h0 : P 0 a) (h1 : P 1 b) (h2 : P 2 c) (h3 : P 3 d) : ∀ k, k < 4 → P k (G4 a b c d k) := fun k hk => by
  match k, hk with
  | 0, _ => exact h0
  | 1, _ => exact h1
  | 2, _ => exact h2
  | 3, _ => exact h3
/-! forms mixed, acts undone and done again -/
def sMx (T : Nat → Nat) (R : RT) (A : Nat → Prop) (nw f a : Nat) : Prop := (BS T R A a ∧ T a ≠ 9) ∨ WSX R nw a ∨ a = FA R nw f ∨ a = rA R (FA R nw f) 1
theorem sMx.a9 (E : LX T N R A B x nw kp rd al m w im o cb tp) {f : Nat} (hf : f < 16) {a : Nat} (h : sMx T R A nw f a) : A a := by
  rcases h with q | q | q | q
  · exact q.1.1
  · exact OWN.a9 E.s.1 (Or.inl q)
  · exact OWN.a9 E.s.1 (OWN.f q.symm hf)
  · rw [q]; exact OWN.a9 E.s.1 (OWN.fb rfl hf)
/-! the image -/
/-! signs -/
def sSN (T : Nat → Nat) (R : RT) (A : Nat → Prop) (nw a : Nat) : Prop := (BS T R A a ∧ (T a ≠ 9 ∨ a = nw)) ∨ ∃ j, j < 8 ∧ (a = SA R nw j ∨ a = rA R (SA R nw j) 0 ∨ a = rA R (SA R nw j) 1)
theorem sSN.a9 (E : LX T N R A B x nw kp rd al m w im o cb tp) {a : Nat} (h : sSN T R A nw a) : A a := by
  rcases h with q | q
  · exact q.1.1
  · exact OWN.a9 E.s.1 (Or.inr (Or.inr (Or.inr q)))
end Ops
