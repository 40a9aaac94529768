/-! calls that change what is told: both sides alike behind them -/
/-- the law's relation -/
def RYo (R : RT) (x nw kp rd cb m w im tp : Nat) (I : IT) : Prop := (I rd 1).toInt = (I m 11).toInt ∧ (I x 3).toInt = (I m 3).toInt ∧ RX R nw kp cb m w im tp I
theorem AGX.w {W' W1 W : Nat → Int32} {a : Nat} {b x : Int} {f : Int32} (h : AGX W' W1 a b x) (e : ∀ r : Nat, r ≠ 4 → r ≠ 5 → W1 r = W r) (ef : W (3406 + 5 * a) = f) : ∃ ta tb tc td : Int, (b = 0 → ta = wac W a 0 ∧ tb = wac W a 1 ∧ tc = wac W a 2 ∧ td = wac W a 3) ∧ (b = 1 → TBK ta tb tc td (wac W a 0) (wac W a 1) (wac W a 2) (wac W a 3) (W 0).toInt) ∧ (∀ k : Nat, (k : Int) ≤ WD W f.toNatClampNeg → WN W' f.toNatClampNeg k = mxS (W 0).toInt ta tb tc td (WD W f.toNatClampNeg).toNat (WN W f.toNatClampNeg) ((WD W f.toNatClampNeg).toNat + 1) k) ∧ (∀ r : Nat, r ≠ 4 → r ≠ 5 → (r < 7 + 10 * f.toNatClampNeg ∨ 7 + 10 * f.toNatClampNeg + (WD W f.toNatClampNeg).toNat + 1 ≤ r) → W' r = W r) ∧ W' 4 = W1 4 ∧ W' 5 = W1 5 ∧ x = f.toInt := by
  obtain ⟨ta, tb, tc, td, h0, h1, ⟨M1, M2⟩, hx⟩ := h
  have g : ∀ k : Nat, W1 (3407 + 5 * a + k) = W (3407 + 5 * a + k) := fun k => e _ (by omega) (by omega)
  have g0 : (W1 (3407 + 5 * a)).toInt = wac W a 0 := by rw [e _ (by omega) (by omega)]; rfl
  have g1 : (W1 (3408 + 5 * a)).toInt = wac W a 1 := by rw [e _ (by omega) (by omega)]; unfold wac; rw [show 3407 + 5 * a + 1 = 3408 + 5 * a from by omega]
  have g2 : (W1 (3409 + 5 * a)).toInt = wac W a 2 := by rw [e _ (by omega) (by omega)]; unfold wac; rw [show 3407 + 5 * a + 2 = 3409 + 5 * a from by omega]
  have g3 : (W1 (3410 + 5 * a)).toInt = wac W a 3 := by rw [e _ (by omega) (by omega)]; unfold wac; rw [show 3407 + 5 * a + 3 = 3410 + 5 * a from by omega]
  have gf : W1 (3406 + 5 * a) = f := (e _ (by omega) (by omega)).trans ef
  have gp : W1 0 = W 0 := e 0 (by decide) (by decide)
  rw [g0, g1, g2, g3] at h0
  rw [g0, g1, g2, g3, gp] at h1
  rw [gf, gp] at M1
  rw [gf] at M2 hx
  have gD : (W1 (6 + 10 * f.toNatClampNeg)).toInt = WD W f.toNatClampNeg := by rw [e _ (by omega) (by omega)]; rfl
  have gN : (fun i => (W1 (7 + 10 * f.toNatClampNeg + i)).toInt) = WN W f.toNatClampNeg := funext fun i => by show (W1 (7 + 10 * f.toNatClampNeg + i)).toInt = (W (7 + 10 * f.toNatClampNeg + i)).toInt; rw [e _ (by omega) (by omega)]
  rw [gD, gN] at M1
  rw [gD] at M2
  exact ⟨ta, tb, tc, td, h0, h1, M1, fun r h4 h5 hr => (M2 r hr).trans (e r h4 h5), M2 4 (Or.inl (by omega)), M2 5 (Or.inl (by omega)), hx⟩
section Ops
variable {T N : Nat → Nat} {R : RT} {A B : Nat → Prop} {x nw kp rd al m w im o cb tp : Nat} {I I1 I2 : IT} {L L1 L2 : LT} {Wf WA : List Nat} {S : Nat → Prop} {Wl : List (Nat × Nat)}
theorem RYo.q (E : LX T N R A B x nw kp rd al m w im o cb tp) (hl : LI T R A m I) (h : RYo R x nw kp rd cb m w im tp I) (c : CB (BS T R A) T Wl I I1) (h5 : (5, 1) ∉ Wl) (h12 : (12, 3) ∉ Wl) (h9 : ∀ k, k < 6 → (9, k) ∉ Wl) (h10 : ∀ k, k < 4 → (10, k) ∉ Wl) : RYo R x nw kp rd cb m w im tp I1 := by
  obtain ⟨⟨t1, t2, t3, t4⟩, -, b1, -⟩ := E.1.t
  have em : I1 m = I m := c.1 m (fun q => E.1.2.2.2.1 m q.1 b1)
  exact ⟨by rw [c.2 rd 1 (by omega) (by rw [t4]; exact h5), em]; exact h.1, by rw [c.2 x 3 (by omega) (by rw [t1]; exact h12), em]; exact h.2.1, RX.q E hl h.2.2 c h9 h10⟩
theorem RYo.r (E : LX T N R A B x nw kp rd al m w im o cb tp) (hl : LI T R A m I) (h : RYo R x nw kp rd cb m w im tp I) (c : CM B R m Wf WA I L I1 L1) (h11 : 11 ∉ Wf) (h3 : 3 ∉ Wf) (h2 : 2 ∉ WA) (h10 : 10 ∉ WA) (f : ∀ r, r < 3606 → r ≠ 3 → (r < 198 ∨ 3406 ≤ r) → I1 w r = I w r) : RYo R x nw kp rd cb m w im tp I1 := by
  obtain ⟨-, ⟨a1, a2, a3, a4⟩, -⟩ := E.1.t
  have nAB := E.1.2.2.2.1
  exact ⟨by rw [(c.1 rd (nAB _ a4)).1, c.2.1 11 h11]; exact h.1, by rw [(c.1 x (nAB _ a1)).1, c.2.1 3 h3]; exact h.2.1, RX.r E hl h.2.2 c (by rw [c.2.1 11 h11]; exact Int.le_refl _) h3 h2 h10 f⟩
theorem RYo.r0 (E : LX T N R A B x nw kp rd al m w im o cb tp) (hl : LI T R A m I) (h : RYo R x nw kp rd cb m w im tp I) (c : CM B R m Wf WA I L I1 L1) (h11 : 11 ∉ Wf) (h3 : 3 ∉ Wf) (h1 : 1 ∉ WA) (h2 : 2 ∉ WA) (h10 : 10 ∉ WA) : RYo R x nw kp rd cb m w im tp I1 := by
  have w1 := E.1.2.2.2.2.2.2.2.2.2.2.1
  exact RYo.r E hl h c h11 h3 h2 h10 (fun r _ _ _ => by rw [(c.2.2 1 w w1 h1).1])
/-- behind the whole numbers' calls -/
theorem RYo.cf {A9 : Nat → Prop} (E : LX T N R A B x nw kp rd al m w im o cb tp) (hl : LI T R A m I) (h : RYo R x nw kp rd cb m w im tp I) (hA : ∀ a, A9 a → A a ∧ (T a = 11 ∨ T a = 21)) (f : Fr A9 I L I1 L1) : RYo R x nw kp rd cb m w im tp I1 := by
  obtain ⟨hw, hi⟩ := LI.wos E hl
  obtain ⟨⟨g1, -⟩, g2, -⟩ := E.g
  obtain ⟨⟨t1, t2, t3, t4⟩, -, b1, b2, b3⟩ := E.1.t
  have e : ∀ a, (B a ∨ T a ≠ 11 ∧ T a ≠ 21) → I1 a = I a := fun a ha => (f a (fun q => by
    have := hA a q
    rcases ha with z | z
    · exact E.1.2.2.2.1 a this.1 z
    · omega)).1
  have st : ∀ st W, GS T R st → RST R I st W → WOS W → RST R I1 st W := fun st W g hr hW => by
    refine hr.i hW (fun k _ _ => by rw [e st (Or.inr (by have := g.1; omega))]) (fun j hj k _ => by rw [e _ (Or.inr (by have := (g.2.2.2.2.2.2.2 j hj).2; omega))]) (fun j hj => ?_) (fun j hj => ?_)
    · have q := (g.2.2.2.2.2.1 j hj).2
      exact ⟨by rw [e _ (Or.inr (by have := g.2.1.2; omega))], FEQ.rf.l (e _ (Or.inr (by have := q.1; omega))) (e _ (Or.inr (by have := q.2.2; omega)))⟩
    · have q := (g.2.2.2.2.2.2.1 j hj).2
      exact FEQ.rf.l (e _ (Or.inr (by have := q.1; omega))) (e _ (Or.inr (by have := q.2.2; omega)))
  have em := e m (Or.inl b1)
  refine ⟨by rw [e rd (Or.inr (by omega)), em]; exact h.1, by rw [e x (Or.inr (by omega)), em]; exact h.2.1, fun k hk => by rw [em] at hk; rw [e cb (Or.inr (by have := E.c.1; omega)), e tp (Or.inl E.tb)]; exact h.2.2.1 k hk, by rw [e w (Or.inl b2)]; exact st nw _ g1 h.2.2.2.1 hw, ?_, h.2.2.2.2.2.k (by rw [e nw (Or.inr (by omega))]) (by rw [e kp (Or.inr (by omega))]) (by rw [em])⟩
  rw [em, e im (Or.inl b3)]
  by_cases z : (I m 3).toInt = 0
  · exact Or.inl z
  · exact Or.inr (st kp _ g2 (h.2.2.2.2.1.resolve_left z) (hi z))
theorem RYo.rf (E : LX T N R A B x nw kp rd al m w im o cb tp) (hl : LI T R A m I) (h : RYo R x nw kp rd cb m w im tp I) (f : Fr (fun a => a = m ∨ R m 21 = some a ∨ R m 34 = some a) I L I1 L1) (k : IKm m I I1) : RYo R x nw kp rd cb m w im tp I1 := by
  obtain ⟨hw, hi⟩ := LI.wos E hl
  obtain ⟨-, ⟨a1, a2, a3, a4⟩, b1, b2, b3⟩ := E.1.t
  have G := MD.G E.1.2.1
  have w1 := E.1.2.2.2.2.2.2.2.2.2.2.1
  have w2 := E.1.2.2.2.2.2.2.2.2.2.2.2
  have eA : ∀ a, A a → I1 a = I a := fun a ha => (f a (fun q => by
    rcases q with q | q | q
    · subst q; exact E.1.2.2.2.1 _ ha b1
    · exact E.1.2.2.2.1 a ha (MD.B E.1.2.1 (by decide) q)
    · exact E.1.2.2.2.1 a ha (MD.B E.1.2.1 (by decide) q))).1
  have e : ∀ g a, R m g = some a → g ≠ 21 → g ≠ 34 → I1 a = I a := fun g a ha h1 h2 => (f a (fun q => by
    rcases q with q | q | q
    · exact G.ne ha q
    · exact h1 (G.1 _ _ _ ha q)
    · exact h2 (G.1 _ _ _ ha q))).1
  refine ⟨by rw [eA rd a4, k 11 (by decide) (by decide)]; exact h.1, by rw [eA x a1, k 3 (by decide) (by decide)]; exact h.2.1, fun j hj => by rw [k 11 (by decide) (by decide)] at hj; rw [eA cb E.c.2, e 10 tp E.2.2.2.1 (by decide) (by decide)]; exact h.2.2.1 j hj, by rw [e 1 w w1 (by decide) (by decide)]; exact RST.b E.s.1 h.2.2.2.1 hw eA, ?_, h.2.2.2.2.2.k (by rw [eA nw a2]) (by rw [eA kp a3]) (k 3 (by decide) (by decide))⟩
  rw [k 3 (by decide) (by decide), e 2 im w2 (by decide) (by decide)]
  by_cases z : (I m 3).toInt = 0
  · exact Or.inl z
  · exact Or.inr (RST.b E.s.2 (h.2.2.2.2.1.resolve_left z) (hi z) eA)
/-- an exception, or nothing to do: nothing changed but the reader -/
theorem RX.ex (E : LX T N R A B x nw kp rd al m w im o cb tp) (hl : LI T R A m I) (h : RX R nw kp cb m w im tp I) (e : ∀ a, a ≠ rd → ∀ k, I1 a k = I a k) : RX R nw kp cb m w im tp I1 := by
  obtain ⟨hw, hi⟩ := LI.wos E hl
  obtain ⟨⟨g1, -⟩, g2, -⟩ := E.g
  obtain ⟨⟨t1, t2, t3, t4⟩, ⟨a1, a2, a3, a4⟩, b1, b2, b3⟩ := E.1.t
  have nAB := E.1.2.2.2.1
  have eB : ∀ a, B a → I1 a = I a := fun a ha => funext (e a (fun q => by subst q; exact nAB _ a4 ha))
  have eT : ∀ a, T a ≠ 5 → I1 a = I a := fun a ha => funext (e a (fun q => by subst q; exact ha t4))
  have st : ∀ st W, GS T R st → RST R I st W → WOS W → RST R I1 st W := fun st W g hr hW => by
    refine hr.i hW (fun k _ _ => by rw [eT st (by have := g.1; omega)]) (fun j hj k _ => by rw [eT _ (by have := (g.2.2.2.2.2.2.2 j hj).2; omega)]) (fun j hj => ?_) (fun j hj => ?_)
    · have q := (g.2.2.2.2.2.1 j hj).2
      exact ⟨by rw [eT _ (by have := g.2.1.2; omega)], FEQ.rf.l (eT _ (by have := q.1; omega)) (eT _ (by have := q.2.2; omega))⟩
    · have q := (g.2.2.2.2.2.2.1 j hj).2
      exact FEQ.rf.l (eT _ (by have := q.1; omega)) (eT _ (by have := q.2.2; omega))
  refine ⟨fun k hk => by rw [eB m b1] at hk; rw [eT cb (by have := E.c.1; omega), eB tp E.tb]; exact h.1 k hk, by rw [eB w b2]; exact st nw _ g1 h.2.1 hw, ?_, h.2.2.2.k (by rw [eT nw (by omega)]) (by rw [eT kp (by omega)]) (by rw [eB m b1])⟩
  rw [eB m b1, eB im b3]
  by_cases z : (I m 3).toInt = 0
  · exact Or.inl z
  · exact Or.inr (st kp _ g2 (h.2.2.1.resolve_left z) (hi z))
theorem RYo.fin (E : LX T N R A B x nw kp rd al m w im o cb tp) (hl : LI T R A m I) (hl2 : LI T R A m I2) (cm : CM B R m Wf WA I1 L1 I2 L2) (h3 : 3 ∉ Wf) (h2 : 2 ∉ WA) (eB : ∀ a, B a → I1 a = I a) (len : (I1 rd 1).toInt = (I2 m 11).toInt) (fl : (I1 x 3).toInt = (I m 3).toInt) (tape : ∀ k : Nat, (k : Int) < (I2 m 11).toInt → (I1 cb k).toInt = (I2 tp k).toInt % 256) (n : RST R I1 nw (I2 w)) (k : (I m 3).toInt = 0 ∨ RST R I1 kp (I im)) (s : SGX nw kp m I1) : RYo R x nw kp rd cb m w im tp I2 := by
  obtain ⟨hw, hi⟩ := LI.wos E hl
  obtain ⟨hw2, -⟩ := LI.wos E hl2
  obtain ⟨-, ⟨a1, a2, a3, a4⟩, b1, b2, b3⟩ := E.1.t
  have nAB := E.1.2.2.2.1
  have w2 := E.1.2.2.2.2.2.2.2.2.2.2.2
  have eA : ∀ a, A a → I2 a = I1 a := fun a ha => (cm.1 a (nAB a ha)).1
  have e3 : I2 m 3 = I m 3 := by rw [cm.2.1 3 h3, eB m b1]
  refine ⟨by rw [eA rd a4]; exact len, by rw [eA x a1, e3]; exact fl, fun j hj => by rw [eA cb E.c.2]; exact tape j hj, RST.b E.s.1 n hw2 eA, ?_, s.k (by rw [eA nw a2]) (by rw [eA kp a3]) (cm.2.1 3 h3)⟩
  rw [e3, (cm.2.2 2 im w2 h2).1, eB im b3]
  by_cases z : (I m 3).toInt = 0
  · exact Or.inl z
  · exact Or.inr (RST.b E.s.2 (k.resolve_left z) (hi z) eA)
theorem RX.kp9 (E : LX T N R A B x nw kp rd al m w im o cb tp) (hl : LI T R A m I) (h : RX R nw kp cb m w im tp I) (c : CB S T Wl I I1) (hS : ∀ a, S a → NOK T R kp a) (hk : ∀ k, k < 6 → k ≠ 3 → (I1 kp k).toInt = (I kp k).toInt) (ht : ∀ j, j < 8 → ∀ k, k < 4 → I1 (TA R kp j) k = I (TA R kp j) k) : (I m 3).toInt = 0 ∨ RST R I1 kp (I im) := by
  obtain ⟨hw, hi⟩ := LI.wos E hl
  obtain ⟨-, g2, -⟩ := E.g
  by_cases z : (I m 3).toInt = 0
  · exact Or.inl z
  · exact Or.inr (RST.n E.2.1 g2 (h.2.2.1.resolve_left z) (hi z) (c.ch (L := fun _ _ => 0)) hS hk ht)
theorem RX.nw9 (E : LX T N R A B x nw kp rd al m w im o cb tp) (hl : LI T R A m I) (h : RX R nw kp cb m w im tp I) (c : CB S T Wl I I1) (hS : ∀ a, S a → NOK T R nw a) (hk : ∀ k, k < 6 → k ≠ 3 → (I1 nw k).toInt = (I nw k).toInt) (ht : ∀ j, j < 8 → ∀ k, k < 4 → I1 (TA R nw j) k = I (TA R nw j) k) : RST R I1 nw (I w) := by
  obtain ⟨hw, hi⟩ := LI.wos E hl
  obtain ⟨⟨g1, -⟩, -⟩ := E.g
  exact RST.n E.2.1 g1 h.2.1 hw (c.ch (L := fun _ _ => 0)) hS hk ht
/-- the world as it was -/
theorem RYo.mk2 (E : LX T N R A B x nw kp rd al m w im o cb tp) (hl : LI T R A m I1) (r : RX R nw kp cb m w im tp I1) (cm : CM B R m Wf WA I1 L1 I2 L2) (le : (I2 m 11).toInt ≤ (I1 m 11).toInt) (h3 : 3 ∉ Wf) (h2 : 2 ∉ WA) (h10 : 10 ∉ WA) (f : ∀ r, r < 3606 → r ≠ 3 → (r < 198 ∨ 3406 ≤ r) → I2 w r = I1 w r) (len : (I1 rd 1).toInt = (I2 m 11).toInt) (fl : (I1 x 3).toInt = (I1 m 3).toInt) : RYo R x nw kp rd cb m w im tp I2 := by
  obtain ⟨-, ⟨a1, a2, a3, a4⟩, -⟩ := E.1.t
  have nAB := E.1.2.2.2.1
  exact ⟨by rw [(cm.1 rd (nAB _ a4)).1]; exact len, by rw [(cm.1 x (nAB _ a1)).1, cm.2.1 3 h3]; exact fl, RX.r E hl r cm le h3 h2 h10 f⟩
/-- the tape's bytes are no state's -/
theorem LX.cbo (E : LX T N R A B x nw kp rd al m w im o cb tp) {st : Nat} (g : GS T R st) (gg : GG T R st) : ¬ OWN R st cb := by
  obtain ⟨t, -⟩ := E.c
  have rc := E.2.2.1
  have t4 := E.1.t.1.2.2.2
  have hU := E.2.1
  rintro ((e | e | ⟨j, hj, e | e⟩) | ⟨j, hj, e | e⟩ | ⟨j, hj, e⟩ | ⟨j, hj, e | e | e⟩)
  · have := g.1; rw [← e] at this; omega
  · have q := (hU rd 2 st 6 cb (t20 t) rc (by rw [e]; exact g.2.1.1)).1
    subst q; have := g.1; omega
  · have := (g.2.2.2.2.2.1 j hj).2.1; rw [← e] at this; omega
  · have r := (g.2.2.2.2.2.1 j hj).2
    have q := (hU rd 2 _ 1 cb (t20 t) rc (by rw [e]; exact r.2.1)).1
    have := r.1; rw [← q] at this; omega
  · have := (g.2.2.2.2.2.2.1 j hj).2.1; rw [← e] at this; omega
  · have r := (g.2.2.2.2.2.2.1 j hj).2
    have q := (hU rd 2 _ 1 cb (t20 t) rc (by rw [e]; exact r.2.1)).1
    have := r.1; rw [← q] at this; omega
  · have := (g.2.2.2.2.2.2.2 j hj).2; rw [← e] at this; omega
  · have := (gg.2.2 j hj).2.1; rw [← e] at this; omega
  · have r := gg.2.2 j hj
    have q := (hU rd 2 _ 0 cb (t20 t) rc (by rw [e]; exact r.2.2.1.1)).1
    have := r.2.1; rw [← q] at this; omega
  · have r := gg.2.2 j hj
    have q := (hU rd 2 _ 1 cb (t20 t) rc (by rw [e]; exact r.2.2.2.1)).1
    have := r.2.1; rw [← q] at this; omega
/-- a state's cells are no other state's tables, no object of another kind -/
theorem OWN.ty {st a : Nat} (g : GS T R st) (gg : GG T R st) (q : OWN R st a) : a = st ∨ T a = 3 ∨ T a = 8 ∨ T a = 10 ∨ T a = 20 := by
  rcases q with (e | e | ⟨j, hj, e | e⟩) | ⟨j, hj, e | e⟩ | ⟨j, hj, e⟩ | ⟨j, hj, e | e | e⟩
  · exact Or.inl e
  · rw [e]; have := g.2.1.2; omega
  · rw [e]; have := (g.2.2.2.2.2.1 j hj).2.1; omega
  · rw [e]; have := (g.2.2.2.2.2.1 j hj).2.2.2; omega
  · rw [e]; have := (g.2.2.2.2.2.2.1 j hj).2.1; omega
  · rw [e]; have := (g.2.2.2.2.2.2.1 j hj).2.2.2; omega
  · rw [e]; have := (g.2.2.2.2.2.2.2 j hj).2; omega
  · rw [e]; have := (gg.2.2 j hj).2.1; omega
  · rw [e]; have := (gg.2.2 j hj).2.2.1.2; omega
  · rw [e]; have := (gg.2.2 j hj).2.2.2.2; omega
theorem OWN.nts {st st' : Nat} (hU : UPR T R) (g : GS T R st) (gg : GG T R st) (g' : GS T R st') (hn : st' ≠ st) {j : Nat} (hj : j < 8) : ¬ OWN R st (TA R st' j) := OWN.nt hU g gg (g'.2.2.2.2.2.2.2 j hj).2 (g'.2.2.2.2.2.2.2 j hj).1 (GS.r9 hU g g' hn)
theorem OWN.a9 {st : Nat} (h : h_St T N R A st) {a : Nat} (q : OWN R st a) : A a := by
  obtain ⟨a1, a2, a3, a4, a5, a6⟩ := ST.a9 h
  rcases q with (rfl | rfl | ⟨j, hj, rfl | rfl⟩) | ⟨j, hj, rfl | rfl⟩ | ⟨j, hj, rfl⟩ | ⟨j, hj, rfl | rfl | rfl⟩
  · exact a1
  · exact a2
  · exact (a3 j hj).1
  · exact (a3 j hj).2
  · exact (a4 j hj).1
  · exact (a4 j hj).2
  · exact a5 j hj
  · exact (a6 j hj).1
  · exact (a6 j hj).2.1
  · exact (a6 j hj).2.2
theorem OWN.ud {st a : Nat} (q : UDX R st a) : OWN R st a := by
  rcases q with q | ⟨j, hj, e⟩
  · exact Or.inl q
  · exact Or.inr (Or.inl ⟨j, hj, Or.inr e⟩)
/-! what the class's calls ask -/
theorem RYo.b (E : LX T N R A B x nw kp rd al m w im o cb tp) (hl : LI T R A m I) (h : RYo R x nw kp rd cb m w im tp I) : (0 ≤ (I nw 1).toInt ∧ (I nw 1).toInt ≤ 16) ∧ (0 ≤ (I nw 2).toInt ∧ (I nw 2).toInt ≤ 8) ∧ (0 ≤ (I nw 4).toInt ∧ 0 ≤ (I nw 5).toInt ∧ (I nw 4).toInt + (I nw 5).toInt ≤ 40) ∧ (0 ≤ (I rd 1).toInt ∧ (I rd 1).toInt ≤ 400) ∧ (0 ≤ (I nw 3).toInt ∧ (I nw 3).toInt ≤ 8) ∧ PRM (I nw 0).toInt := by
  obtain ⟨hw, hi⟩ := LI.wos E hl
  obtain ⟨b1, b2, b4, -⟩ := hw.b
  have hp := hw.pr
  obtain ⟨r1, r2, r3, ⟨⟨e0, e1, e2, e4, e5⟩, -⟩, -, s, -⟩ := h
  have b := hl.2.1.f11 (x := I m 11) rfl
  unfold PRM
  rw [e0, e1, e2, e4, e5, r1]
  exact ⟨b1, b2, b4, b, s, hp⟩
theorem RYo.bk (E : LX T N R A B x nw kp rd al m w im o cb tp) (hl : LI T R A m I) (h : RYo R x nw kp rd cb m w im tp I) : (I x 3).toInt ≠ 0 → (I kp 1).toInt ≤ 16 ∧ (I kp 2).toInt ≤ 8 := fun z => by
  obtain ⟨-, hi⟩ := LI.wos E hl
  rw [h.2.1] at z
  have b := (hi z).b
  obtain ⟨⟨e0, e1, e2, e4, e5⟩, -⟩ := h.2.2.2.2.1.resolve_left z
  omega
theorem RYo.bf (E : LX T N R A B x nw kp rd al m w im o cb tp) (h : RYo R x nw kp rd cb m w im tp I) : ∀ j : Nat, (j : Int) < (I nw 1).toInt → BNX I (rA R (FA R nw j) 1) (I (FA R nw j) 0).toInt (I nw 0).toInt := fun j hj => by
  obtain ⟨-, -, -, ⟨⟨e0, e1, -⟩, hF, -⟩, -⟩ := h
  obtain ⟨f1, f2⟩ := hF j (by omega)
  intro k hk
  rw [f1.1] at hk
  rw [f1.2 k hk, e0]
  exact f2 k hk
theorem RYo.bt (E : LX T N R A B x nw kp rd al m w im o cb tp) (h : RYo R x nw kp rd cb m w im tp I) : ∀ j : Nat, (j : Int) < (I nw 2).toInt → ∀ k : Nat, k < 4 → 0 ≤ (I (TA R nw j) k).toInt ∧ (I (TA R nw j) k).toInt < (I nw 0).toInt := fun j hj k hk => by
  obtain ⟨-, -, -, ⟨⟨e0, -, e2, -⟩, -, hT, -⟩, -⟩ := h
  obtain ⟨f1, f2⟩ := hT j (by omega)
  rw [f1 k hk, e0]
  exact f2.1 k hk
theorem RYo.ba (E : LX T N R A B x nw kp rd al m w im o cb tp) (hl : LI T R A m I) (h : RYo R x nw kp rd cb m w im tp I) : ∀ k : Nat, (k : Int) < (I nw 4).toInt + (I nw 5).toInt → 0 ≤ (I (WH R nw) k).toInt ∧ (I (WH R nw) k).toInt < (I nw 1).toInt ∧ (I (OA R nw k) 0).toInt = (I (FA R nw (I (WH R nw) k).toNatClampNeg) 0).toInt := fun k hk => by
  obtain ⟨-, -, -, ⟨⟨e0, e1, e2, e4, e5⟩, hF, -, V, -, -, v3⟩, -⟩ := h
  obtain ⟨y1, y2, -, y4, -⟩ := v3 k (by omega)
  have ex : I (WH R nw) k = I w (3406 + 5 * k) := Int32.toInt_inj.mp y1
  have nf := ncz (x := I w (3406 + 5 * k)) y2.1
  rw [ex, y4.1, (hF (I w (3406 + 5 * k)).toNatClampNeg (by omega)).1.1, e1]
  exact ⟨y2.1, y2.2, rfl⟩
theorem LX.nb (E : LX T N R A B x nw kp rd al m w im o cb tp) : ∀ j, j < 16 → ¬ BS T R A (FA R nw j) ∧ ¬ BS T R A (rA R (FA R nw j) 1) := fun j hj => by
  obtain ⟨⟨g1, -⟩, -⟩ := E.g
  have k := KEEP.fa g1 hj
  exact ⟨fun q => q.2 (KEEP.f k), fun q => q.2 (KEEP.fb k (g1.2.2.2.2.2.2.1 j hj).2)⟩
/-! the tape -/
theorem SL.a {l : List Nat} {a : Nat} (h : SL l a) : a ∈ l := h
theorem OPo_end {n u v : Int32} (E : LX T N R A B x nw kp rd al m w im o cb tp) (hl : LI T R A m I) (hl1 : LI T R A m I1) (_ : LI T R A m I2) (h : RYo R x nw kp rd cb m w im tp I) (c : CB (SL [rd]) T [(5, 1)] I I1) (_ : 0 ≤ u.toInt) (_ : u.toInt ≤ 1) (q2 : (n.toInt < 0 ∨ (I rd 1).toInt < n.toInt) ∧ u.toInt = 0 ∧ (I1 rd 1).toInt = (I rd 1).toInt ∨ 0 ≤ n.toInt ∧ n.toInt ≤ (I rd 1).toInt ∧ u.toInt = 1 ∧ (I1 rd 1).toInt = n.toInt) (cm : CM B R m [0, 11] [] I1 L1 I2 L2) (_ : 0 ≤ v.toInt) (_ : v.toInt ≤ 1) (p2 : (n.toInt < 0 ∨ (I1 m 11).toInt < n.toInt) ∧ v.toInt = 0 ∧ (I2 m 11).toInt = (I1 m 11).toInt ∨ 0 ≤ n.toInt ∧ n.toInt ≤ (I1 m 11).toInt ∧ v.toInt = 1 ∧ (I2 m 11).toInt = n.toInt) : RYo R x nw kp rd cb m w im tp I2 := by
  obtain ⟨⟨t1, t2, t3, t4⟩, ⟨a1, a2, a3, a4⟩, b1, b2, b3⟩ := E.1.t
  have w1 := E.1.2.2.2.2.2.2.2.2.2.2.1
  have n1 : ∀ a, a ≠ rd → I1 a = I a := fun a ha => c.1 a (fun q => ha (List.mem_singleton.mp (SL.a q)))
  have em : I1 m = I m := n1 m (fun e => E.1.2.2.2.1 _ a4 (e ▸ b1))
  have ex : I1 x = I x := n1 x (fun e => by rw [e] at t1; omega)
  rw [em] at p2
  have r1 := h.1
  exact RYo.mk2 E hl1 (RX.ex E hl h.2.2 (fun a ha k => by rw [n1 a ha])) cm (by rw [em]; omega) (by decide) (by decide) (by decide) (fun r _ _ _ => by rw [(cm.2.2 1 w w1 (by decide)).1]) (by omega) (by rw [ex, em]; exact h.2.1)
theorem OPo_feed {n1 n2 n3 n4 n5 u v : Int32} (E : LX T N R A B x nw kp rd al m w im o cb tp) (hl : LI T R A m I) (_ : LI T R A m I1) (hl2 : LI T R A m I2) (h : RYo R x nw kp rd cb m w im tp I) (c : CB (SL [rd, cb]) T [(5, 1)] I I1) (q0 : 380 < (I rd 1).toInt ∧ u.toInt = -1 ∧ (I1 rd 1).toInt = (I rd 1).toInt ∧ I1 cb = I cb ∨ (I rd 1).toInt ≤ 380 ∧ u.toInt = (I rd 1).toInt + 20 ∧ (I1 rd 1).toInt = (I rd 1).toInt + 20 ∧ FDC (I1 cb) (I cb) (I rd 1).toNatClampNeg (F5 n1 n2 n3 n4 n5) 5) (cm : CM B R m [0, 11] [10, 18] I1 L1 I2 L2) (_ : -1 ≤ v.toInt) (_ : v.toInt ≤ 400) (p2 : 380 < (I1 m 11).toInt ∧ v.toInt = -1 ∧ (I2 m 11).toInt = (I1 m 11).toInt ∨ (I1 m 11).toInt ≤ 380 ∧ v.toInt = (I1 m 11).toInt + 20 ∧ (I2 m 11).toInt = (I1 m 11).toInt + 20) (p3 : ∀ a10, R m 10 = some a10 → TFX (I2 a10) (I1 a10) (I1 m 11) (F5 n1 n2 n3 n4 n5)) : RYo R x nw kp rd cb m w im tp I2 := by
  obtain ⟨⟨g1, -⟩, g2, -⟩ := E.g
  obtain ⟨⟨t1, t2, t3, t4⟩, ⟨a1, a2, a3, a4⟩, b1, b2, b3⟩ := E.1.t
  have w1 := E.1.2.2.2.2.2.2.2.2.2.2.1
  have nAB := E.1.2.2.2.1
  have tc := E.c.1
  have hS : ∀ a, SL [rd, cb] a → a = rd ∨ a = cb := fun a q => by
    have q := SL.a q
    simpa only [List.mem_cons, List.not_mem_nil, or_false] using q
  have n0 : ∀ a, a ≠ rd → a ≠ cb → I1 a = I a := fun a h1 h2 => c.1 a (fun q => (hS a q).elim h1 h2)
  have eB : ∀ a, B a → I1 a = I a := fun a ha => n0 a (fun e => nAB _ a4 (e ▸ ha)) (fun e => nAB _ E.c.2 (e ▸ ha))
  have X := p3 tp E.2.2.2.1
  rw [eB m b1, eB tp E.tb] at X
  rw [eB m b1] at p2
  have r1 := h.1
  have hb := hl.2.1.f11 (x := I m 11) rfl
  have nn : (I rd 1).toNatClampNeg = (I m 11).toNatClampNeg := by
    have e1 : (I rd 1).toNatClampNeg = (I rd 1).toInt.toNat := rfl
    have e2 : (I m 11).toNatClampNeg = (I m 11).toInt.toNat := rfl
    omega
  have hT : ∀ a, SL [rd, cb] a → ∀ st, NOK T R st a := fun a q st => by
    rcases hS a q with e | e
    · rw [e]; exact Or.inl t4
    · rw [e]; exact Or.inr (Or.inr (Or.inr (Or.inr (Or.inr (Or.inr (Or.inl ⟨tc, rd, 2, E.2.2.1, Or.inl t4⟩))))))
  have e9 : I1 nw = I nw := n0 nw (fun e => by rw [e] at t2; omega) (fun e => by rw [e] at t2; omega)
  have e9' : I1 kp = I kp := n0 kp (fun e => by rw [e] at t3; omega) (fun e => by rw [e] at t3; omega)
  have e10 : ∀ a, T a = 10 → I1 a = I a := fun a ha => n0 a (fun e => by rw [e] at ha; omega) (fun e => by rw [e] at ha; omega)
  refine RYo.fin E hl hl2 cm (by decide) (by decide) eB (by omega) (by rw [n0 x (fun e => by rw [e] at t1; omega) (fun e => by rw [e] at t1; omega)]; exact h.2.1) (fun k hk => ?_) ?_ ?_ (h.2.2.2.2.2.k (by rw [e9]) (by rw [e9']) (by rw [eB m b1]))
  · have h0 := h.2.2.1
    rcases q0 with ⟨z1, -, -, z4⟩ | ⟨z1, -, -, z4, z5⟩
    · rw [z4, X.1 (by omega)]; exact h0 k (by omega)
    · obtain ⟨y1, y2⟩ := X.2 (by omega)
      rw [nn] at z4 z5
      by_cases z : k < (I m 11).toNatClampNeg ∨ (I m 11).toNatClampNeg + 20 ≤ k
      · have e2 : (I m 11).toNatClampNeg = (I m 11).toInt.toNat := rfl
        rw [z5 k (by omega), y2 k (by omega)]; exact h0 k (by omega)
      · obtain ⟨j, rfl⟩ : ∃ j, k = (I m 11).toNatClampNeg + j := ⟨k - (I m 11).toNatClampNeg, by omega⟩
        rw [z4 j (by omega), y1 j (by omega)]
  · rw [(cm.2.2 1 w w1 (by decide)).1, eB w b2]
    exact RX.nw9 E hl h.2.2 c (fun a q => hT a q nw) (fun k _ _ => by rw [e9]) (fun j hj k _ => by rw [e10 _ (g1.2.2.2.2.2.2.2 j hj).2])
  · exact RX.kp9 E hl h.2.2 c (fun a q => hT a q kp) (fun k _ _ => by rw [e9']) (fun j hj k _ => by rw [e10 _ (g2.2.2.2.2.2.2.2 j hj).2])
/-! the field -/
theorem OPo_field {n : Int32} {P0 : Prop} (E : LX T N R A B x nw kp rd al m w im o cb tp) (hl : LI T R A m I) (_ : LI T R A m I1) (hl2 : LI T R A m I2) (h : RYo R x nw kp rd cb m w im tp I) (c : CB (SL [nw]) T [(9, 0)] I I1) (q0 : (n.toInt = 11 ∨ n.toInt = 13 ∨ n.toInt = 17 ∨ n.toInt = 19) ∧ (I nw 1).toInt ≤ 0 ∧ (I nw 2).toInt ≤ 0) (q1 : (I1 nw 0).toInt = n.toInt) (cm : CM B R m [0] [1] I1 L1 I2 L2) (_ : P0) (p1 : ∀ a1, R m 1 = some a1 → ¬ (n.toInt = 11 ∨ n.toInt = 13 ∨ n.toInt = 17 ∨ n.toInt = 19) ∧ (I2 m 0).toInt = 1 ∧ (I2 a1 0).toInt = (I1 a1 0).toInt ∨ (n.toInt = 11 ∨ n.toInt = 13 ∨ n.toInt = 17 ∨ n.toInt = 19) ∧ 0 < (I1 a1 1).toInt + (I1 a1 2).toInt ∧ (I2 m 0).toInt = 2 ∧ (I2 a1 0).toInt = (I1 a1 0).toInt ∨ (n.toInt = 11 ∨ n.toInt = 13 ∨ n.toInt = 17 ∨ n.toInt = 19) ∧ (I1 a1 1).toInt + (I1 a1 2).toInt ≤ 0 ∧ (I2 m 0).toInt = 0 ∧ (I2 a1 0).toInt = n.toInt) (p2 : ∀ a1, R m 1 = some a1 → ∀ r : Nat, r ≠ 0 → I2 a1 r = I1 a1 r) : RYo R x nw kp rd cb m w im tp I2 := by
  obtain ⟨⟨g1, -⟩, g2, -⟩ := E.g
  obtain ⟨⟨t1, t2, t3, t4⟩, ⟨a1, a2, a3, a4⟩, b1, b2, b3⟩ := E.1.t
  have w1 := E.1.2.2.2.2.2.2.2.2.2.2.1
  have nAB := E.1.2.2.2.1
  have hnk := E.1.2.2.2.2.2.2.2.1
  have n0 : ∀ a, a ≠ nw → I1 a = I a := fun a ha => c.1 a (fun q => ha (List.mem_singleton.mp (SL.a q)))
  have eB : ∀ a, B a → I1 a = I a := fun a ha => n0 a (fun e => nAB _ a2 (e ▸ ha))
  have X := p1 w w1
  have Y := p2 w w1
  rw [eB w b2] at X Y
  have e := h.2.2.2.1.1
  have bw := (LI.wos E hl).1.b
  have e10 : ∀ a, T a = 10 → I1 a = I a := fun a ha => n0 a (fun e => by rw [e] at ha; omega)
  have hS : ∀ a, SL [nw] a → ∀ st, NOK T R st a := fun a q st => by
    have e := List.mem_singleton.mp (SL.a q)
    rw [e]; exact Or.inr (Or.inr (Or.inl t2))
  refine RYo.fin E hl hl2 cm (by decide) (by decide) eB (by rw [n0 rd (fun e => by rw [e] at t4; omega), cm.2.1 11 (by decide), eB m b1]; exact h.1) (by rw [n0 x (fun e => by rw [e] at t1; omega)]; exact h.2.1) (fun k hk => by rw [cm.2.1 11 (by decide), eB m b1] at hk; rw [n0 cb (fun e => by have := E.c.1; rw [e] at this; omega), (cm.2.2 10 tp E.2.2.2.1 (by decide)).1, eB tp E.tb]; exact h.2.2.1 k hk) ?_ ?_ (h.2.2.2.2.2.k (c.2 nw 3 (by omega) (by rw [t2]; decide)) (by rw [n0 kp hnk]) (by rw [eB m b1]))
  · exact h.2.2.2.1.field (by omega) (by omega) (by omega) (fun k hk h0 h3 => by
      rw [c.2 nw k (by omega) (by
        rw [t2]
        match k, hk with
        | 0, _ => exact absurd rfl h0
        | 1, _ => decide
        | 2, _ => decide
        | 3, _ => decide
        | 4, _ => decide
        | 5, _ => decide)]) Y
  · exact RX.kp9 E hl h.2.2 c (fun a q => hS a q kp) (fun k _ _ => by rw [n0 kp hnk]) (fun j hj k _ => by rw [e10 _ (g2.2.2.2.2.2.2.2 j hj).2])
theorem OPo_same (E : LX T N R A B x nw kp rd al m w im o cb tp) (hl : LI T R A m I) (h : RYo R x nw kp rd cb m w im tp I) (q : ∀ a k, I1 a k = I a k) (cm : CM B R m Wf WA I1 L1 I2 L2) (h11 : 11 ∉ Wf) (h3 : 3 ∉ Wf) (h2 : 2 ∉ WA) (h10 : 10 ∉ WA) (f : I2 w = I1 w) : RYo R x nw kp rd cb m w im tp I2 := by
  have e : I1 = I := funext fun a => funext (q a)
  subst e
  exact RYo.r E hl h cm h11 h3 h2 h10 (fun r _ _ _ => by rw [f])
theorem OPo_fieldx {n : Int32} (E : LX T N R A B x nw kp rd al m w im o cb tp) (hl : LI T R A m I) (h : RYo R x nw kp rd cb m w im tp I) (q1 : ∀ a k, I1 a k = I a k) (z : ¬ (n.toInt = 11 ∨ n.toInt = 13 ∨ n.toInt = 17 ∨ n.toInt = 19) ∨ 0 < (I nw 1).toInt ∨ 0 < (I nw 2).toInt) (cm : CM B R m [0] [1] I1 L1 I2 L2) (p1 : ∀ a1, R m 1 = some a1 → ¬ (n.toInt = 11 ∨ n.toInt = 13 ∨ n.toInt = 17 ∨ n.toInt = 19) ∧ (I2 m 0).toInt = 1 ∧ (I2 a1 0).toInt = (I1 a1 0).toInt ∨ (n.toInt = 11 ∨ n.toInt = 13 ∨ n.toInt = 17 ∨ n.toInt = 19) ∧ 0 < (I1 a1 1).toInt + (I1 a1 2).toInt ∧ (I2 m 0).toInt = 2 ∧ (I2 a1 0).toInt = (I1 a1 0).toInt ∨ (n.toInt = 11 ∨ n.toInt = 13 ∨ n.toInt = 17 ∨ n.toInt = 19) ∧ (I1 a1 1).toInt + (I1 a1 2).toInt ≤ 0 ∧ (I2 m 0).toInt = 0 ∧ (I2 a1 0).toInt = n.toInt) (p2 : ∀ a1, R m 1 = some a1 → ∀ r : Nat, r ≠ 0 → I2 a1 r = I1 a1 r) : RYo R x nw kp rd cb m w im tp I2 := by
  have w1 := E.1.2.2.2.2.2.2.2.2.2.2.1
  have e : I1 = I := funext fun a => funext (q1 a)
  subst e
  have X := p1 w w1
  have Y := p2 w w1
  have e := h.2.2.2.1.1
  have bw := (LI.wos E hl).1.b
  refine OPo_same E hl h q1 cm (by decide) (by decide) (by decide) (by decide) (funext fun r => ?_)
  by_cases q : r = 0
  · subst q; exact Int32.toInt_inj.mp (by omega)
  · exact Y r q
theorem OPo_field_0 {n : Int32} {P0 : Prop} (E : LX T N R A B x nw kp rd al m w im o cb tp) (hl : LI T R A m I) (hl1 : LI T R A m I1) (hl2 : LI T R A m I2) (h : RYo R x nw kp rd cb m w im tp I) (_ : CB (SL [nw]) T [(9, 0)] I I1) (q0 : ¬ (n.toInt = 11 ∨ n.toInt = 13 ∨ n.toInt = 17 ∨ n.toInt = 19)) (q1 : ∀ a k, I1 a k = I a k) (cm : CM B R m [0] [1] I1 L1 I2 L2) (_ : P0) (p1 : ∀ a1, R m 1 = some a1 → ¬ (n.toInt = 11 ∨ n.toInt = 13 ∨ n.toInt = 17 ∨ n.toInt = 19) ∧ (I2 m 0).toInt = 1 ∧ (I2 a1 0).toInt = (I1 a1 0).toInt ∨ (n.toInt = 11 ∨ n.toInt = 13 ∨ n.toInt = 17 ∨ n.toInt = 19) ∧ 0 < (I1 a1 1).toInt + (I1 a1 2).toInt ∧ (I2 m 0).toInt = 2 ∧ (I2 a1 0).toInt = (I1 a1 0).toInt ∨ (n.toInt = 11 ∨ n.toInt = 13 ∨ n.toInt = 17 ∨ n.toInt = 19) ∧ (I1 a1 1).toInt + (I1 a1 2).toInt ≤ 0 ∧ (I2 m 0).toInt = 0 ∧ (I2 a1 0).toInt = n.toInt) (p2 : ∀ a1, R m 1 = some a1 → ∀ r : Nat, r ≠ 0 → I2 a1 r = I1 a1 r) : RYo R x nw kp rd cb m w im tp I2 := OPo_fieldx E hl h q1 (Or.inl q0) cm p1 p2
theorem OPo_field_1 {n : Int32} {P0 : Prop} (E : LX T N R A B x nw kp rd al m w im o cb tp) (hl : LI T R A m I) (hl1 : LI T R A m I1) (hl2 : LI T R A m I2) (h : RYo R x nw kp rd cb m w im tp I) (_ : CB (SL [nw]) T [(9, 0)] I I1) (q0 : (n.toInt = 11 ∨ n.toInt = 13 ∨ n.toInt = 17 ∨ n.toInt = 19) ∧ (0 < (I nw 1).toInt ∨ 0 < (I nw 2).toInt)) (q1 : ∀ a k, I1 a k = I a k) (cm : CM B R m [0] [1] I1 L1 I2 L2) (_ : P0) (p1 : ∀ a1, R m 1 = some a1 → ¬ (n.toInt = 11 ∨ n.toInt = 13 ∨ n.toInt = 17 ∨ n.toInt = 19) ∧ (I2 m 0).toInt = 1 ∧ (I2 a1 0).toInt = (I1 a1 0).toInt ∨ (n.toInt = 11 ∨ n.toInt = 13 ∨ n.toInt = 17 ∨ n.toInt = 19) ∧ 0 < (I1 a1 1).toInt + (I1 a1 2).toInt ∧ (I2 m 0).toInt = 2 ∧ (I2 a1 0).toInt = (I1 a1 0).toInt ∨ (n.toInt = 11 ∨ n.toInt = 13 ∨ n.toInt = 17 ∨ n.toInt = 19) ∧ (I1 a1 1).toInt + (I1 a1 2).toInt ≤ 0 ∧ (I2 m 0).toInt = 0 ∧ (I2 a1 0).toInt = n.toInt) (p2 : ∀ a1, R m 1 = some a1 → ∀ r : Nat, r ≠ 0 → I2 a1 r = I1 a1 r) : RYo R x nw kp rd cb m w im tp I2 := OPo_fieldx E hl h q1 (Or.inr q0.2) cm p1 p2
def sFm (R : RT) (rd nw n a : Nat) : Prop := a = rd ∨ a = nw ∨ a = FA R nw n ∨ a = rA R (FA R nw n) 1
theorem sFm.a9 (E : LX T N R A B x nw kp rd al m w im o cb tp) {n : Nat} (hn : n < 16) {a : Nat} (h : sFm R rd nw n a) : A a := by
  obtain ⟨-, ⟨a1, a2, a3, a4⟩, -⟩ := E.1.t
  rcases h with rfl | rfl | rfl | rfl
  · exact a4
  · exact a2
  · exact OWN.a9 E.s.1 (OWN.f rfl hn)
  · exact OWN.a9 E.s.1 (OWN.fb rfl hn)
theorem OPo_form {u v : Int32} {P0 P1 P2 P4 P5 P6 : Prop} (E : LX T N R A B x nw kp rd al m w im o cb tp) (hl : LI T R A m I) (hl1 : LI T R A m I1) (hl2 : LI T R A m I2) (h : RYo R x nw kp rd cb m w im tp I) (c : CB (sFm R rd nw (I nw 1).toNatClampNeg) T [(3, 0), (5, 1), (9, 1), (9, 5)] I I1) (q0 : (I1 rd 1).toInt = 0) (q1 : 1 ≤ (I rd 1).toInt ∧ (I rd 1).toInt ≤ 9 ∧ (I nw 1).toInt < 16 ∧ u.toInt = (I nw 1).toInt) (q2 : (I1 nw 1).toInt = (I nw 1).toInt + 1) (q3 : (I1 nw 5).toInt = 0) (q4 : (I1 (FA R nw (I nw 1).toNatClampNeg) 0).toInt = (I rd 1).toInt - 1) (q5 : NMF I1 (rA R (FA R nw (I nw 1).toNatClampNeg) 1) (I rd 1).toInt (fun j => (I cb j).toInt % (I nw 0).toInt)) (cm : CM B R m [0, 11, 12, 13] [1] I1 L1 I2 L2) (_ : P0) (_ : P1) (_ : P2) (p3 : (I2 m 11).toInt = 0) (_ : P4) (_ : P5) (_ : P6) (p7 : ∀ a1, R m 1 = some a1 → ((I1 m 11).toInt < 1 ∨ 9 < (I1 m 11).toInt) ∧ (I2 m 0).toInt = 1 ∧ (I2 a1 1).toInt = (I1 a1 1).toInt ∨ 1 ≤ (I1 m 11).toInt ∧ (I1 m 11).toInt ≤ 9 ∧ (I1 a1 1).toInt = 16 ∧ (I2 m 0).toInt = 2 ∧ (I2 a1 1).toInt = (I1 a1 1).toInt ∨ 1 ≤ (I1 m 11).toInt ∧ (I1 m 11).toInt ≤ 9 ∧ (I1 a1 1).toInt < 16 ∧ (I2 m 0).toInt = 0 ∧ v.toInt = (I1 a1 1).toInt ∧ (I2 a1 1).toInt = (I1 a1 1).toInt + 1) (p8 : ∀ a1 a10, R m 1 = some a1 → R m 10 = some a10 → FMX (I2 a1) (I1 a1) (I1 a10) (I1 m 11).toInt (I2 m 0).toInt) : RYo R x nw kp rd cb m w im tp I2 := by
  obtain ⟨hw, hi⟩ := LI.wos E hl
  obtain ⟨⟨g1, gg1⟩, g2, gg2⟩ := E.g
  obtain ⟨⟨t1, t2, t3, t4⟩, ⟨a1, a2, a3, a4⟩, b1, b2, b3⟩ := E.1.t
  have w1 := E.1.2.2.2.2.2.2.2.2.2.2.1
  have nAB := E.1.2.2.2.1
  have hnk := E.1.2.2.2.2.2.2.2.1
  have hU := E.2.1
  obtain ⟨r1, r2, r3⟩ := id h
  have e1 := r3.2.1.1.2.1
  have hb := hw.b
  have n16 : (I nw 1).toNatClampNeg < 16 := ncn (by omega) (by omega)
  have nn := ncz (x := I nw 1) (by omega)
  have eB : ∀ a, B a → I1 a = I a := fun a ha => c.1 a (fun q => nAB a (sFm.a9 E n16 q) ha)
  have X := p8 w tp w1 E.2.2.2.1
  have Z := p7 w w1
  rw [eB w b2, eB tp E.tb, eB m b1, ← r1] at X
  rw [eB w b2, eB m b1] at Z
  have z : (I2 m 0).toInt = 0 := by omega
  rw [z] at X
  have F := (g1.2.2.2.2.2.2.1 _ n16).2
  have ncb : ¬ sFm R rd nw (I nw 1).toNatClampNeg cb := fun q => by
    have t := E.c.1
    rcases q with q | q | q | q
    · rw [q] at t; omega
    · rw [q] at t; omega
    · exact E.cbo g1 gg1 (OWN.f q.symm n16)
    · exact E.cbo g1 gg1 (q ▸ OWN.fb rfl n16)
  have eT : ∀ a k, T a = 10 → I1 a k = I a k := fun a k ht => c.2 a k (by omega) (by rw [ht]; simp)
  have e9 : ∀ k, k = 0 ∨ k = 2 ∨ k = 3 ∨ k = 4 → I1 nw k = I nw k := fun k hk => c.2 nw k (by omega) (by rw [t2]; rcases hk with rfl | rfl | rfl | rfl <;> decide)
  have nA : ∀ y, WSX R nw y → y ≠ nw → T y ≠ 5 → ¬ sFm R rd nw (I nw 1).toNatClampNeg y := fun y hy hn h5 q => by
    rcases q with q | q | q | q
    · subst q; exact h5 t4
    · exact hn q
    · exact nWf hU g1 rfl n16 rfl _ (by subst q; simp [SL]) hy
    · exact nWf hU g1 rfl n16 rfl _ (by subst q; simp [SL]) hy
  have ho : ∀ j, j < 40 → AEQ R I1 nw j I nw j := fun j hj => by
    have q := (g1.2.2.2.2.2.1 j hj).2
    have tw := g1.2.1.2
    refine ⟨by rw [c.1 _ (nA _ (Or.inr (Or.inl rfl)) (fun e => by rw [e] at tw; omega) (by omega))], FEQ.rf.l (c.1 _ (nA _ (Or.inr (Or.inr ⟨j, hj, Or.inl rfl⟩)) (fun e => by have := q.1; rw [e] at this; omega) (by have := q.1; omega))) (c.1 _ (nA _ (Or.inr (Or.inr ⟨j, hj, Or.inr rfl⟩)) (fun e => by have := q.2.2; rw [e] at this; omega) (by have := q.2.2; omega)))⟩
  have hf : ∀ j : Nat, j < 16 → (j : Int) ≠ (I nw 1).toInt → FEQ R I1 (FA R nw j) I (FA R nw j) := fun j hj hn => by
    have q := (g1.2.2.2.2.2.2.1 j hj).2
    have z := nSM (B := fun a => a = rd) hU g1 (j := j) (k := (I nw 1).toNatClampNeg) ⟨fun e => by have := q.1; rw [e] at this; omega, fun e => by have := q.2.2; rw [e] at this; omega⟩ hj n16 (by omega)
    refine FEQ.rf.l (c.1 _ (fun y => z.1 ?_)) (c.1 _ (fun y => z.2 ?_))
    · rcases y with y | y | y | y
      · exact Or.inl y
      · exact Or.inr (Or.inl (Or.inl y))
      · exact Or.inr (Or.inr (Or.inl y))
      · exact Or.inr (Or.inr (Or.inr y))
    · rcases y with y | y | y | y
      · exact Or.inl y
      · exact Or.inr (Or.inl (Or.inl y))
      · exact Or.inr (Or.inr (Or.inl y))
      · exact Or.inr (Or.inr (Or.inr y))
  have nkp : ¬ sFm R rd nw (I nw 1).toNatClampNeg kp := fun q => by
    rcases q with q | q | q | q
    · rw [q] at t3; omega
    · exact hnk q
    · have := F.1; rw [← q] at this; omega
    · have := F.2.2; rw [← q] at this; omega
  refine RYo.fin E hl hl2 cm (by decide) (by decide) eB (by rw [q0, p3]) (by rw [c.2 x 3 (by omega) (by rw [t1]; decide)]; exact r2) (fun k hk => by rw [p3] at hk; omega) ?_ ?_ (r3.2.2.2.k (e9 3 (by decide)) (by rw [c.1 kp nkp]) (by rw [eB m b1]))
  · exact r3.2.1.form hw ⟨q1.1, q1.2.1⟩ (by omega) q2 q3 (fun k hk => by rw [e9 k (by omega)]) q4 q5 (fun j hj k _ => eT _ k (g1.2.2.2.2.2.2.2 j hj).2) ho hf X (fun k hk => r3.1 k (by omega))
  · refine RX.kp9 E hl r3 c (fun a q => ?_) (fun k _ _ => by rw [c.1 kp nkp]) (fun j hj k _ => eT _ k (g2.2.2.2.2.2.2.2 j hj).2)
    rcases q with q | q | q | q
    · exact Or.inl (by rw [q]; exact t4)
    · exact Or.inr (Or.inr (Or.inl (by rw [q]; exact t2)))
    · exact NOK.own (Ne.symm hnk) g1 gg1 (OWN.f q.symm n16)
    · exact NOK.own (Ne.symm hnk) g1 gg1 (q ▸ OWN.fb rfl n16)
theorem OPo_formx {v : Int32} (E : LX T N R A B x nw kp rd al m w im o cb tp) (hl : LI T R A m I) (hl1 : LI T R A m I1) (hl2 : LI T R A m I2) (h : RYo R x nw kp rd cb m w im tp I) (q0 : (I rd 1).toInt < 1 ∨ 9 < (I rd 1).toInt ∨ 16 ≤ (I nw 1).toInt) (q1 : (I1 rd 1).toInt = 0) (q2 : ∀ a, a ≠ rd → ∀ k, I1 a k = I a k) (cm : CM B R m [0, 11, 12, 13] [1] I1 L1 I2 L2) (p3 : (I2 m 11).toInt = 0) (p7 : ∀ a1, R m 1 = some a1 → ((I1 m 11).toInt < 1 ∨ 9 < (I1 m 11).toInt) ∧ (I2 m 0).toInt = 1 ∧ (I2 a1 1).toInt = (I1 a1 1).toInt ∨ 1 ≤ (I1 m 11).toInt ∧ (I1 m 11).toInt ≤ 9 ∧ (I1 a1 1).toInt = 16 ∧ (I2 m 0).toInt = 2 ∧ (I2 a1 1).toInt = (I1 a1 1).toInt ∨ 1 ≤ (I1 m 11).toInt ∧ (I1 m 11).toInt ≤ 9 ∧ (I1 a1 1).toInt < 16 ∧ (I2 m 0).toInt = 0 ∧ v.toInt = (I1 a1 1).toInt ∧ (I2 a1 1).toInt = (I1 a1 1).toInt + 1) (p8 : ∀ a1 a10, R m 1 = some a1 → R m 10 = some a10 → FMX (I2 a1) (I1 a1) (I1 a10) (I1 m 11).toInt (I2 m 0).toInt) : RYo R x nw kp rd cb m w im tp I2 := by
  obtain ⟨hw, hi⟩ := LI.wos E hl
  obtain ⟨⟨g1, gg1⟩, g2, gg2⟩ := E.g
  obtain ⟨⟨t1, t2, t3, t4⟩, ⟨a1, a2, a3, a4⟩, b1, b2, b3⟩ := E.1.t
  have w1 := E.1.2.2.2.2.2.2.2.2.2.2.1
  have nAB := E.1.2.2.2.1
  have hnk := E.1.2.2.2.2.2.2.2.1
  have hU := E.2.1
  obtain ⟨r1, r2, r3⟩ := id h
  have e1 := r3.2.1.1.2.1
  have hb := hw.b
  have n1 : ∀ a, a ≠ rd → I1 a = I a := fun a ha => funext (q2 a ha)
  have eB : ∀ a, B a → I1 a = I a := fun a ha => n1 a (fun e => nAB _ a4 (e ▸ ha))
  have X := p8 w tp w1 E.2.2.2.1
  have Z := p7 w w1
  rw [eB w b2, eB m b1] at Z
  have z : (I2 m 0).toInt ≠ 0 := by omega
  have e2 := X.1 z
  exact RYo.mk2 E hl1 (RX.ex E hl r3 q2) cm (by have := hl1.2.1.f11 (x := I1 m 11) rfl; omega) (by decide) (by decide) (by decide) (fun r _ _ _ => by rw [e2]) (by rw [q1, p3]) (by rw [n1 x (fun e => by rw [e] at t1; omega), eB m b1]; exact r2)
theorem OPo_form_0 {v : Int32} {P0 P1 P2 P4 P5 P6 : Prop} (E : LX T N R A B x nw kp rd al m w im o cb tp) (hl : LI T R A m I) (hl1 : LI T R A m I1) (hl2 : LI T R A m I2) (h : RYo R x nw kp rd cb m w im tp I) (_ : CB (sFm R rd nw (I nw 1).toNatClampNeg) T [(3, 0), (5, 1), (9, 1), (9, 5)] I I1) (q0 : (I rd 1).toInt < 1 ∨ 9 < (I rd 1).toInt) (q1 : (I1 rd 1).toInt = 0) (q2 : ∀ a, a ≠ rd → ∀ k, I1 a k = I a k) (cm : CM B R m [0, 11, 12, 13] [1] I1 L1 I2 L2) (_ : P0) (_ : P1) (_ : P2) (p3 : (I2 m 11).toInt = 0) (_ : P4) (_ : P5) (_ : P6) (p7 : ∀ a1, R m 1 = some a1 → ((I1 m 11).toInt < 1 ∨ 9 < (I1 m 11).toInt) ∧ (I2 m 0).toInt = 1 ∧ (I2 a1 1).toInt = (I1 a1 1).toInt ∨ 1 ≤ (I1 m 11).toInt ∧ (I1 m 11).toInt ≤ 9 ∧ (I1 a1 1).toInt = 16 ∧ (I2 m 0).toInt = 2 ∧ (I2 a1 1).toInt = (I1 a1 1).toInt ∨ 1 ≤ (I1 m 11).toInt ∧ (I1 m 11).toInt ≤ 9 ∧ (I1 a1 1).toInt < 16 ∧ (I2 m 0).toInt = 0 ∧ v.toInt = (I1 a1 1).toInt ∧ (I2 a1 1).toInt = (I1 a1 1).toInt + 1) (p8 : ∀ a1 a10, R m 1 = some a1 → R m 10 = some a10 → FMX (I2 a1) (I1 a1) (I1 a10) (I1 m 11).toInt (I2 m 0).toInt) : RYo R x nw kp rd cb m w im tp I2 := OPo_formx E hl hl1 hl2 h (by omega) q1 q2 cm p3 p7 p8
theorem OPo_form_2 {v : Int32} {P0 P1 P2 P4 P5 P6 : Prop} (E : LX T N R A B x nw kp rd al m w im o cb tp) (hl : LI T R A m I) (hl1 : LI T R A m I1) (hl2 : LI T R A m I2) (h : RYo R x nw kp rd cb m w im tp I) (_ : CB (sFm R rd nw (I nw 1).toNatClampNeg) T [(3, 0), (5, 1), (9, 1), (9, 5)] I I1) (q0 : 1 ≤ (I rd 1).toInt ∧ (I rd 1).toInt ≤ 9 ∧ 16 ≤ (I nw 1).toInt) (q1 : (I1 rd 1).toInt = 0) (q2 : ∀ a, a ≠ rd → ∀ k, I1 a k = I a k) (cm : CM B R m [0, 11, 12, 13] [1] I1 L1 I2 L2) (_ : P0) (_ : P1) (_ : P2) (p3 : (I2 m 11).toInt = 0) (_ : P4) (_ : P5) (_ : P6) (p7 : ∀ a1, R m 1 = some a1 → ((I1 m 11).toInt < 1 ∨ 9 < (I1 m 11).toInt) ∧ (I2 m 0).toInt = 1 ∧ (I2 a1 1).toInt = (I1 a1 1).toInt ∨ 1 ≤ (I1 m 11).toInt ∧ (I1 m 11).toInt ≤ 9 ∧ (I1 a1 1).toInt = 16 ∧ (I2 m 0).toInt = 2 ∧ (I2 a1 1).toInt = (I1 a1 1).toInt ∨ 1 ≤ (I1 m 11).toInt ∧ (I1 m 11).toInt ≤ 9 ∧ (I1 a1 1).toInt < 16 ∧ (I2 m 0).toInt = 0 ∧ v.toInt = (I1 a1 1).toInt ∧ (I2 a1 1).toInt = (I1 a1 1).toInt + 1) (p8 : ∀ a1 a10, R m 1 = some a1 → R m 10 = some a10 → FMX (I2 a1) (I1 a1) (I1 a10) (I1 m 11).toInt (I2 m 0).toInt) : RYo R x nw kp rd cb m w im tp I2 := OPo_formx E hl hl1 hl2 h (by omega) q1 q2 cm p3 p7 p8
def sTb (R : RT) (nw n a : Nat) : Prop := a = nw ∨ a = TA R nw n
theorem sTb.a9 (E : LX T N R A B x nw kp rd al m w im o cb tp) {n : Nat} (hn : n < 8) {a : Nat} (h : sTb R nw n a) : A a := by
  rcases h with q | q
  · rw [q]; exact E.1.t.2.1.2.1
  · rw [q]; exact OWN.a9 E.s.1 (OWN.t rfl hn)
def G4 (a b c d : Int) (k : Nat) : Int := if k = 0 then a else if k = 1 then b else if k = 2 then c else d
theorem G4.of {P : Nat → Int → Prop} {a b c d : Int} (h0 : P 0 a) (h1 : P 1 b) (h2 : P 2 c) (h3 : P 3 d) : ∀ k, k < 4 → P k (G4 a b c d k) := fun k hk => by
  match k, hk with
  | 0, _ => exact h0
  | 1, _ => exact h1
  | 2, _ => exact h2
  | 3, _ => exact h3
theorem RYo.tab {g : Nat → Int} (E : LX T N R A B x nw kp rd al m w im o cb tp) (hl : LI T R A m I) (hl1 : LI T R A m I1) (hl2 : LI T R A m I2) (h : RYo R x nw kp rd cb m w im tp I) (c : CB (sTb R nw (I nw 2).toNatClampNeg) T [(9, 2), (10, 0), (10, 1), (10, 2), (10, 3)] I I1) (q1 : (I nw 2).toInt < 8) (q2 : (I1 nw 2).toInt = (I nw 2).toInt + 1) (q3 : ∀ k, k < 4 → (I1 (TA R nw (I nw 2).toNatClampNeg) k).toInt = g k) (ok : TOK (I w 0).toInt g) (cm : CM B R m [0, 6, 7, 8, 9] [1] I1 L1 I2 L2) (X : TBW (I2 w) (I w) (g 0) (g 1) (g 2) (g 3)) (w2 : (I2 w 2).toInt = (I w 2).toInt + 1) : RYo R x nw kp rd cb m w im tp I2 := by
  obtain ⟨hw, hi⟩ := LI.wos E hl
  obtain ⟨⟨g1, gg1⟩, g2, gg2⟩ := E.g
  obtain ⟨⟨t1, t2, t3, t4⟩, ⟨a1, a2, a3, a4⟩, b1, b2, b3⟩ := E.1.t
  have w1 := E.1.2.2.2.2.2.2.2.2.2.2.1
  have nAB := E.1.2.2.2.1
  have hnk := E.1.2.2.2.2.2.2.2.1
  have hU := E.2.1
  obtain ⟨r1, r2, r3⟩ := id h
  have e2 := r3.2.1.1.2.2.1
  have hb := hw.b
  have n8 : (I nw 2).toNatClampNeg < 8 := ncn (by omega) (by omega)
  have nn := ncz (x := I nw 2) (by omega)
  have F := g1.2.2.2.2.2.2.2 _ n8
  have hT : ∀ a, sTb R nw (I nw 2).toNatClampNeg a → T a = 9 ∨ T a = 10 := fun a q => by
    rcases q with q | q
    · rw [q]; exact Or.inl t2
    · rw [q]; exact Or.inr F.2
  have nT : ∀ a, T a ≠ 9 → T a ≠ 10 → I1 a = I a := fun a h9 h10 => c.1 a (fun q => by have := hT a q; omega)
  have eB : ∀ a, B a → I1 a = I a := fun a ha => c.1 a (fun q => nAB a (sTb.a9 E n8 q) ha)
  have nok : ∀ st a, sTb R nw (I nw 2).toNatClampNeg a → NOK T R st a := fun st a q => by
    rcases hT a q with z | z
    · exact Or.inr (Or.inr (Or.inl z))
    · exact Or.inr (Or.inr (Or.inr (Or.inl z)))
  obtain ⟨ho, hf⟩ := NOK.ao hU g1 (c.ch (L := fun _ _ => 0)) (nok nw)
  have em : I1 m = I m := eB m b1
  have nkp : ¬ sTb R nw (I nw 2).toNatClampNeg kp := fun q => by
    rcases q with q | q
    · exact hnk q
    · have := F.2; rw [← q] at this; omega
  have e9 : ∀ k, k < 6 → k ≠ 2 → I1 nw k = I nw k := fun k hk h2 => c.2 nw k (by omega) (by
    rw [t2]
    match k, hk with
    | 0, _ => decide
    | 1, _ => decide
    | 2, _ => exact absurd rfl h2
    | 3, _ => decide
    | 4, _ => decide
    | 5, _ => decide)
  refine RYo.fin E hl hl2 cm (by decide) (by decide) eB (by rw [nT rd (by omega) (by omega), cm.2.1 11 (by decide), em]; exact r1) (by rw [nT x (by omega) (by omega)]; exact r2) (fun k hk => by rw [cm.2.1 11 (by decide), em] at hk; rw [nT cb (by have := E.c.1; omega) (by have := E.c.1; omega), (cm.2.2 10 tp E.2.2.2.1 (by decide)).1, eB tp E.tb]; exact r3.1 k hk) ?_ ?_ (r3.2.2.2.k (e9 3 (by decide) (by decide)) (by rw [c.1 kp nkp]) (by rw [em]))
  · refine r3.2.1.tab hw (by omega) q2 (fun k hk h2 _ => by rw [e9 k hk h2]) q3 ok (fun j hj hn k _ => ?_) ho hf X w2
    have q := g1.2.2.2.2.2.2.2 j hj
    rw [c.1 _ (fun z => by
      rcases z with z | z
      · have := q.2; rw [z] at this; omega
      · exact hU.ne (Or.inr (Or.inr (Or.inl q.2))) q.1 F.1 (Or.inr (by omega)) z)]
  · refine RX.kp9 E hl r3 c (nok kp) (fun k _ _ => by rw [c.1 kp nkp]) (fun j hj k _ => ?_)
    have q := g2.2.2.2.2.2.2.2 j hj
    rw [c.1 _ (fun z => by
      rcases z with z | z
      · have := q.2; rw [z] at this; omega
      · exact hU.ne (Or.inr (Or.inr (Or.inl q.2))) q.1 F.1 (Or.inl (GS.r9 hU g1 g2 hnk)) z)]
theorem OPo_table {n1 n2 n3 n4 u v : Int32} {P0 P1 P2 P5 : Prop} (E : LX T N R A B x nw kp rd al m w im o cb tp) (hl : LI T R A m I) (hl1 : LI T R A m I1) (hl2 : LI T R A m I2) (h : RYo R x nw kp rd cb m w im tp I) (c : CB (sTb R nw (I nw 2).toNatClampNeg) T [(9, 2), (10, 0), (10, 1), (10, 2), (10, 3)] I I1) (q0 : dt (I nw 0).toInt n1.toInt n2.toInt n3.toInt n4.toInt ≠ 0 ∧ (I nw 2).toInt < 8 ∧ u.toInt = (I nw 2).toInt) (q1 : (I1 nw 2).toInt = (I nw 2).toInt + 1) (q2 : (I1 (TA R nw (I nw 2).toNatClampNeg) 0).toInt = n1.toInt % (I nw 0).toInt) (q3 : (I1 (TA R nw (I nw 2).toNatClampNeg) 1).toInt = n2.toInt % (I nw 0).toInt) (q4 : (I1 (TA R nw (I nw 2).toNatClampNeg) 2).toInt = n3.toInt % (I nw 0).toInt) (q5 : (I1 (TA R nw (I nw 2).toNatClampNeg) 3).toInt = n4.toInt % (I nw 0).toInt) (cm : CM B R m [0, 6, 7, 8, 9] [1] I1 L1 I2 L2) (_ : P0) (_ : P1) (_ : P2) (p3 : ∀ a1, R m 1 = some a1 → TBD (dtR (I1 a1 0).toInt n1.toInt n2.toInt n3.toInt n4.toInt) (I1 a1 2).toInt (I2 a1 2).toInt (I2 m 0).toInt v.toInt) (p4 : ∀ a1, R m 1 = some a1 → TBX (I2 a1) (I1 a1) (I2 m 0).toInt (n1.toInt % (I1 a1 0).toInt) (n2.toInt % (I1 a1 0).toInt) (n3.toInt % (I1 a1 0).toInt) (n4.toInt % (I1 a1 0).toInt)) (_ : P5) : RYo R x nw kp rd cb m w im tp I2 := by
  obtain ⟨hw, hi⟩ := LI.wos E hl
  obtain ⟨⟨g1, gg1⟩, g2, gg2⟩ := E.g
  obtain ⟨⟨t1, t2, t3, t4⟩, ⟨a1, a2, a3, a4⟩, b1, b2, b3⟩ := E.1.t
  have w1 := E.1.2.2.2.2.2.2.2.2.2.2.1
  have nAB := E.1.2.2.2.1
  have hnk := E.1.2.2.2.2.2.2.2.1
  have hU := E.2.1
  obtain ⟨r1, r2, r3⟩ := id h
  have e2 := r3.2.1.1.2.2.1
  have e0 := r3.2.1.1.1
  have hb := hw.b
  have hp := hw.pr
  have n8 : (I nw 2).toNatClampNeg < 8 := ncn (by omega) (by omega)
  have eB : ∀ a, B a → I1 a = I a := fun a ha => c.1 a (fun q => nAB a (sTb.a9 E n8 q) ha)
  have X := p4 w w1
  have Z := p3 w w1
  rw [eB w b2] at X Z
  rw [dtR_eq (by omega)] at Z
  unfold TBD at Z
  rw [e0] at q0 q2 q3 q4 q5
  have z : (I2 m 0).toInt = 0 := by omega
  have Y := X.2 z
  refine RYo.tab (g := G4 (n1.toInt % (I w 0).toInt) (n2.toInt % (I w 0).toInt) (n3.toInt % (I w 0).toInt) (n4.toInt % (I w 0).toInt)) E hl hl1 hl2 h c q0.2.1 q1 (G4.of (P := fun k g => (I1 (TA R nw (I nw 2).toNatClampNeg) k).toInt = g) q2 q3 q4 q5) ⟨?_, ?_⟩ cm Y (by omega)
  · exact G4.of (P := fun k g => 0 ≤ g ∧ g < (I w 0).toInt) ⟨Int.emod_nonneg _ (by omega), Int.emod_lt_of_pos _ (by omega)⟩ ⟨Int.emod_nonneg _ (by omega), Int.emod_lt_of_pos _ (by omega)⟩ ⟨Int.emod_nonneg _ (by omega), Int.emod_lt_of_pos _ (by omega)⟩ ⟨Int.emod_nonneg _ (by omega), Int.emod_lt_of_pos _ (by omega)⟩
  · show dt (I w 0).toInt (n1.toInt % (I w 0).toInt) (n2.toInt % (I w 0).toInt) (n3.toInt % (I w 0).toInt) (n4.toInt % (I w 0).toInt) ≠ 0
    rw [dt_m]; exact q0.1
theorem OPo_table_0 {n1 n2 n3 n4 v : Int32} {P0 P1 P2 P5 : Prop} (E : LX T N R A B x nw kp rd al m w im o cb tp) (hl : LI T R A m I) (hl1 : LI T R A m I1) (hl2 : LI T R A m I2) (h : RYo R x nw kp rd cb m w im tp I) (_ : CB (sTb R nw (I nw 2).toNatClampNeg) T [(9, 2), (10, 0), (10, 1), (10, 2), (10, 3)] I I1) (q0 : dt (I nw 0).toInt n1.toInt n2.toInt n3.toInt n4.toInt = 0) (q1 : ∀ a k, I1 a k = I a k) (cm : CM B R m [0, 6, 7, 8, 9] [1] I1 L1 I2 L2) (_ : P0) (_ : P1) (_ : P2) (p3 : ∀ a1, R m 1 = some a1 → TBD (dtR (I1 a1 0).toInt n1.toInt n2.toInt n3.toInt n4.toInt) (I1 a1 2).toInt (I2 a1 2).toInt (I2 m 0).toInt v.toInt) (p4 : ∀ a1, R m 1 = some a1 → TBX (I2 a1) (I1 a1) (I2 m 0).toInt (n1.toInt % (I1 a1 0).toInt) (n2.toInt % (I1 a1 0).toInt) (n3.toInt % (I1 a1 0).toInt) (n4.toInt % (I1 a1 0).toInt)) (_ : P5) : RYo R x nw kp rd cb m w im tp I2 := by
  obtain ⟨hw, hi⟩ := LI.wos E hl
  obtain ⟨⟨g1, gg1⟩, g2, gg2⟩ := E.g
  obtain ⟨⟨t1, t2, t3, t4⟩, ⟨a1, a2, a3, a4⟩, b1, b2, b3⟩ := E.1.t
  have w1 := E.1.2.2.2.2.2.2.2.2.2.2.1
  have nAB := E.1.2.2.2.1
  have hnk := E.1.2.2.2.2.2.2.2.1
  have hU := E.2.1
  obtain ⟨r1, r2, r3⟩ := id h
  have e : I1 = I := funext fun a => funext (q1 a)
  subst e
  have hp := hw.pr
  have e0 := r3.2.1.1.1
  have Z := p3 w w1
  rw [dtR_eq (by omega), ← e0] at Z
  unfold TBD at Z
  exact OPo_same E hl h q1 cm (by decide) (by decide) (by decide) (by decide) ((p4 w w1).1 (by omega))
theorem OPo_table_2 {n1 n2 n3 n4 v : Int32} {P0 P1 P2 P5 : Prop} (E : LX T N R A B x nw kp rd al m w im o cb tp) (hl : LI T R A m I) (hl1 : LI T R A m I1) (hl2 : LI T R A m I2) (h : RYo R x nw kp rd cb m w im tp I) (_ : CB (sTb R nw (I nw 2).toNatClampNeg) T [(9, 2), (10, 0), (10, 1), (10, 2), (10, 3)] I I1) (q0 : dt (I nw 0).toInt n1.toInt n2.toInt n3.toInt n4.toInt ≠ 0 ∧ 8 ≤ (I nw 2).toInt) (q1 : ∀ a k, I1 a k = I a k) (cm : CM B R m [0, 6, 7, 8, 9] [1] I1 L1 I2 L2) (_ : P0) (_ : P1) (_ : P2) (p3 : ∀ a1, R m 1 = some a1 → TBD (dtR (I1 a1 0).toInt n1.toInt n2.toInt n3.toInt n4.toInt) (I1 a1 2).toInt (I2 a1 2).toInt (I2 m 0).toInt v.toInt) (p4 : ∀ a1, R m 1 = some a1 → TBX (I2 a1) (I1 a1) (I2 m 0).toInt (n1.toInt % (I1 a1 0).toInt) (n2.toInt % (I1 a1 0).toInt) (n3.toInt % (I1 a1 0).toInt) (n4.toInt % (I1 a1 0).toInt)) (_ : P5) : RYo R x nw kp rd cb m w im tp I2 := by
  obtain ⟨hw, hi⟩ := LI.wos E hl
  obtain ⟨⟨g1, gg1⟩, g2, gg2⟩ := E.g
  obtain ⟨⟨t1, t2, t3, t4⟩, ⟨a1, a2, a3, a4⟩, b1, b2, b3⟩ := E.1.t
  have w1 := E.1.2.2.2.2.2.2.2.2.2.2.1
  have nAB := E.1.2.2.2.1
  have hnk := E.1.2.2.2.2.2.2.2.1
  have hU := E.2.1
  obtain ⟨r1, r2, r3⟩ := id h
  have e : I1 = I := funext fun a => funext (q1 a)
  subst e
  have hp := hw.pr
  have e0 := r3.2.1.1.1
  have e2 := r3.2.1.1.2.2.1
  have Z := p3 w w1
  rw [dtR_eq (by omega), ← e0] at Z
  unfold TBD at Z
  exact OPo_same E hl h q1 cm (by decide) (by decide) (by decide) (by decide) ((p4 w w1).1 (by omega))
theorem OPo_join {n1 n2 u v : Int32} {P0 P1 P2 P5 : Prop} (E : LX T N R A B x nw kp rd al m w im o cb tp) (hl : LI T R A m I) (hl1 : LI T R A m I1) (hl2 : LI T R A m I2) (h : RYo R x nw kp rd cb m w im tp I) (c : CB (sTb R nw (I nw 2).toNatClampNeg) T [(9, 2), (10, 0), (10, 1), (10, 2), (10, 3)] I I1) (q0 : ¬ ((n1.toInt < 0 ∨ (I nw 2).toInt ≤ n1.toInt ∨ 8 ≤ n1.toInt) ∨ (n2.toInt < 0 ∨ (I nw 2).toInt ≤ n2.toInt ∨ 8 ≤ n2.toInt)) ∧ (I nw 2).toInt < 8 ∧ u.toInt = (I nw 2).toInt) (q1 : (I1 nw 2).toInt = (I nw 2).toInt + 1) (q2 : (I1 (TA R nw (I nw 2).toNatClampNeg) 0).toInt = ((I (TA R nw n1.toNatClampNeg) 0).toInt * (I (TA R nw n2.toNatClampNeg) 0).toInt + (I (TA R nw n1.toNatClampNeg) 1).toInt * (I (TA R nw n2.toNatClampNeg) 2).toInt) % (I nw 0).toInt) (q3 : (I1 (TA R nw (I nw 2).toNatClampNeg) 1).toInt = ((I (TA R nw n1.toNatClampNeg) 0).toInt * (I (TA R nw n2.toNatClampNeg) 1).toInt + (I (TA R nw n1.toNatClampNeg) 1).toInt * (I (TA R nw n2.toNatClampNeg) 3).toInt) % (I nw 0).toInt) (q4 : (I1 (TA R nw (I nw 2).toNatClampNeg) 2).toInt = ((I (TA R nw n1.toNatClampNeg) 2).toInt * (I (TA R nw n2.toNatClampNeg) 0).toInt + (I (TA R nw n1.toNatClampNeg) 3).toInt * (I (TA R nw n2.toNatClampNeg) 2).toInt) % (I nw 0).toInt) (q5 : (I1 (TA R nw (I nw 2).toNatClampNeg) 3).toInt = ((I (TA R nw n1.toNatClampNeg) 2).toInt * (I (TA R nw n2.toNatClampNeg) 1).toInt + (I (TA R nw n1.toNatClampNeg) 3).toInt * (I (TA R nw n2.toNatClampNeg) 3).toInt) % (I nw 0).toInt) (cm : CM B R m [0, 6, 7, 8, 9] [1] I1 L1 I2 L2) (_ : P0) (_ : P1) (_ : P2) (p3 : ∀ a1, R m 1 = some a1 → (n1.toInt < 0 ∨ (I1 a1 2).toInt ≤ n1.toInt ∨ n2.toInt < 0 ∨ (I1 a1 2).toInt ≤ n2.toInt) ∧ (I2 m 0).toInt = 1 ∧ (I2 a1 2).toInt = (I1 a1 2).toInt ∨ ¬ (n1.toInt < 0 ∨ (I1 a1 2).toInt ≤ n1.toInt ∨ n2.toInt < 0 ∨ (I1 a1 2).toInt ≤ n2.toInt) ∧ (I1 a1 2).toInt = 8 ∧ (I2 m 0).toInt = 2 ∧ (I2 a1 2).toInt = (I1 a1 2).toInt ∨ ¬ (n1.toInt < 0 ∨ (I1 a1 2).toInt ≤ n1.toInt ∨ n2.toInt < 0 ∨ (I1 a1 2).toInt ≤ n2.toInt) ∧ (I1 a1 2).toInt < 8 ∧ (I2 m 0).toInt = 0 ∧ v.toInt = (I1 a1 2).toInt ∧ (I2 a1 2).toInt = (I1 a1 2).toInt + 1) (p4 : ∀ a1, R m 1 = some a1 → TBj (I2 a1) (I1 a1) (I2 m 0).toInt n1.toNatClampNeg n2.toNatClampNeg) (_ : P5) : RYo R x nw kp rd cb m w im tp I2 := by
  obtain ⟨hw, hi⟩ := LI.wos E hl
  obtain ⟨⟨g1, gg1⟩, g2, gg2⟩ := E.g
  obtain ⟨⟨t1, t2, t3, t4⟩, ⟨a1, a2, a3, a4⟩, b1, b2, b3⟩ := E.1.t
  have w1 := E.1.2.2.2.2.2.2.2.2.2.2.1
  have nAB := E.1.2.2.2.1
  have hnk := E.1.2.2.2.2.2.2.2.1
  have hU := E.2.1
  obtain ⟨r1, r2, r3⟩ := id h
  have e2 := r3.2.1.1.2.2.1
  have e0 := r3.2.1.1.1
  have hb := hw.b
  have hp := hw.pr
  have n8 : (I nw 2).toNatClampNeg < 8 := ncn (by omega) (by omega)
  have eB : ∀ a, B a → I1 a = I a := fun a ha => c.1 a (fun q => nAB a (sTb.a9 E n8 q) ha)
  have k1 := ncz (x := n1) (by omega)
  have k2 := ncz (x := n2) (by omega)
  obtain ⟨y1, o1⟩ := r3.2.1.2.2.1 n1.toNatClampNeg (by omega)
  obtain ⟨y2, o2⟩ := r3.2.1.2.2.1 n2.toNatClampNeg (by omega)
  have X := p4 w w1
  have Z := p3 w w1
  rw [eB w b2] at X Z
  have z : (I2 m 0).toInt = 0 := by omega
  have Y := X.2 z
  rw [jn_eq (by omega) (o1.1 0 (by decide)).1 (o2.1 0 (by decide)).1 (o1.1 1 (by decide)).1 (o2.1 2 (by decide)).1, jn_eq (by omega) (o1.1 0 (by decide)).1 (o2.1 1 (by decide)).1 (o1.1 1 (by decide)).1 (o2.1 3 (by decide)).1, jn_eq (by omega) (o1.1 2 (by decide)).1 (o2.1 0 (by decide)).1 (o1.1 3 (by decide)).1 (o2.1 2 (by decide)).1, jn_eq (by omega) (o1.1 2 (by decide)).1 (o2.1 1 (by decide)).1 (o1.1 3 (by decide)).1 (o2.1 3 (by decide)).1] at Y
  rw [y1 0 (by decide), y1 1 (by decide), y2 0 (by decide), y2 2 (by decide), e0] at q2
  rw [y1 0 (by decide), y1 1 (by decide), y2 1 (by decide), y2 3 (by decide), e0] at q3
  rw [y1 2 (by decide), y1 3 (by decide), y2 0 (by decide), y2 2 (by decide), e0] at q4
  rw [y1 2 (by decide), y1 3 (by decide), y2 1 (by decide), y2 3 (by decide), e0] at q5
  refine RYo.tab (g := G4 ((wtb (I w) n1.toNatClampNeg 0 * wtb (I w) n2.toNatClampNeg 0 + wtb (I w) n1.toNatClampNeg 1 * wtb (I w) n2.toNatClampNeg 2) % (I w 0).toInt) ((wtb (I w) n1.toNatClampNeg 0 * wtb (I w) n2.toNatClampNeg 1 + wtb (I w) n1.toNatClampNeg 1 * wtb (I w) n2.toNatClampNeg 3) % (I w 0).toInt) ((wtb (I w) n1.toNatClampNeg 2 * wtb (I w) n2.toNatClampNeg 0 + wtb (I w) n1.toNatClampNeg 3 * wtb (I w) n2.toNatClampNeg 2) % (I w 0).toInt) ((wtb (I w) n1.toNatClampNeg 2 * wtb (I w) n2.toNatClampNeg 1 + wtb (I w) n1.toNatClampNeg 3 * wtb (I w) n2.toNatClampNeg 3) % (I w 0).toInt)) E hl hl1 hl2 h c q0.2.1 q1 (G4.of (P := fun k g => (I1 (TA R nw (I nw 2).toNatClampNeg) k).toInt = g) q2 q3 q4 q5) ⟨?_, ?_⟩ cm Y (by omega)
  · exact G4.of (P := fun k g => 0 ≤ g ∧ g < (I w 0).toInt) ⟨Int.emod_nonneg _ (by omega), Int.emod_lt_of_pos _ (by omega)⟩ ⟨Int.emod_nonneg _ (by omega), Int.emod_lt_of_pos _ (by omega)⟩ ⟨Int.emod_nonneg _ (by omega), Int.emod_lt_of_pos _ (by omega)⟩ ⟨Int.emod_nonneg _ (by omega), Int.emod_lt_of_pos _ (by omega)⟩
  · exact jn_ok hp o1.2 o2.2
theorem OPo_join_2 {n1 n2 v : Int32} {P0 P1 P2 P5 : Prop} (E : LX T N R A B x nw kp rd al m w im o cb tp) (hl : LI T R A m I) (hl1 : LI T R A m I1) (hl2 : LI T R A m I2) (h : RYo R x nw kp rd cb m w im tp I) (_ : CB (sTb R nw (I nw 2).toNatClampNeg) T [(9, 2), (10, 0), (10, 1), (10, 2), (10, 3)] I I1) (q0 : ¬ ((n1.toInt < 0 ∨ (I nw 2).toInt ≤ n1.toInt ∨ 8 ≤ n1.toInt) ∨ (n2.toInt < 0 ∨ (I nw 2).toInt ≤ n2.toInt ∨ 8 ≤ n2.toInt)) ∧ 8 ≤ (I nw 2).toInt) (q1 : ∀ a k, I1 a k = I a k) (cm : CM B R m [0, 6, 7, 8, 9] [1] I1 L1 I2 L2) (_ : P0) (_ : P1) (_ : P2) (p3 : ∀ a1, R m 1 = some a1 → (n1.toInt < 0 ∨ (I1 a1 2).toInt ≤ n1.toInt ∨ n2.toInt < 0 ∨ (I1 a1 2).toInt ≤ n2.toInt) ∧ (I2 m 0).toInt = 1 ∧ (I2 a1 2).toInt = (I1 a1 2).toInt ∨ ¬ (n1.toInt < 0 ∨ (I1 a1 2).toInt ≤ n1.toInt ∨ n2.toInt < 0 ∨ (I1 a1 2).toInt ≤ n2.toInt) ∧ (I1 a1 2).toInt = 8 ∧ (I2 m 0).toInt = 2 ∧ (I2 a1 2).toInt = (I1 a1 2).toInt ∨ ¬ (n1.toInt < 0 ∨ (I1 a1 2).toInt ≤ n1.toInt ∨ n2.toInt < 0 ∨ (I1 a1 2).toInt ≤ n2.toInt) ∧ (I1 a1 2).toInt < 8 ∧ (I2 m 0).toInt = 0 ∧ v.toInt = (I1 a1 2).toInt ∧ (I2 a1 2).toInt = (I1 a1 2).toInt + 1) (p4 : ∀ a1, R m 1 = some a1 → TBj (I2 a1) (I1 a1) (I2 m 0).toInt n1.toNatClampNeg n2.toNatClampNeg) (_ : P5) : RYo R x nw kp rd cb m w im tp I2 := by
  obtain ⟨hw, hi⟩ := LI.wos E hl
  obtain ⟨⟨g1, gg1⟩, g2, gg2⟩ := E.g
  obtain ⟨⟨t1, t2, t3, t4⟩, ⟨a1, a2, a3, a4⟩, b1, b2, b3⟩ := E.1.t
  have w1 := E.1.2.2.2.2.2.2.2.2.2.2.1
  have nAB := E.1.2.2.2.1
  have hnk := E.1.2.2.2.2.2.2.2.1
  have hU := E.2.1
  obtain ⟨r1, r2, r3⟩ := id h
  have e : I1 = I := funext fun a => funext (q1 a)
  subst e
  have hb := hw.b
  have e2 := r3.2.1.1.2.2.1
  have Z := p3 w w1
  exact OPo_same E hl h q1 cm (by decide) (by decide) (by decide) (by decide) ((p4 w w1).1 (by omega))
theorem OPo_join_3 {n1 n2 v : Int32} {P0 P1 P2 P5 : Prop} (E : LX T N R A B x nw kp rd al m w im o cb tp) (hl : LI T R A m I) (hl1 : LI T R A m I1) (hl2 : LI T R A m I2) (h : RYo R x nw kp rd cb m w im tp I) (_ : CB (sTb R nw (I nw 2).toNatClampNeg) T [(9, 2), (10, 0), (10, 1), (10, 2), (10, 3)] I I1) (q0 : (n1.toInt < 0 ∨ (I nw 2).toInt ≤ n1.toInt ∨ 8 ≤ n1.toInt) ∨ (n2.toInt < 0 ∨ (I nw 2).toInt ≤ n2.toInt ∨ 8 ≤ n2.toInt)) (q1 : ∀ a k, I1 a k = I a k) (cm : CM B R m [0, 6, 7, 8, 9] [1] I1 L1 I2 L2) (_ : P0) (_ : P1) (_ : P2) (p3 : ∀ a1, R m 1 = some a1 → (n1.toInt < 0 ∨ (I1 a1 2).toInt ≤ n1.toInt ∨ n2.toInt < 0 ∨ (I1 a1 2).toInt ≤ n2.toInt) ∧ (I2 m 0).toInt = 1 ∧ (I2 a1 2).toInt = (I1 a1 2).toInt ∨ ¬ (n1.toInt < 0 ∨ (I1 a1 2).toInt ≤ n1.toInt ∨ n2.toInt < 0 ∨ (I1 a1 2).toInt ≤ n2.toInt) ∧ (I1 a1 2).toInt = 8 ∧ (I2 m 0).toInt = 2 ∧ (I2 a1 2).toInt = (I1 a1 2).toInt ∨ ¬ (n1.toInt < 0 ∨ (I1 a1 2).toInt ≤ n1.toInt ∨ n2.toInt < 0 ∨ (I1 a1 2).toInt ≤ n2.toInt) ∧ (I1 a1 2).toInt < 8 ∧ (I2 m 0).toInt = 0 ∧ v.toInt = (I1 a1 2).toInt ∧ (I2 a1 2).toInt = (I1 a1 2).toInt + 1) (p4 : ∀ a1, R m 1 = some a1 → TBj (I2 a1) (I1 a1) (I2 m 0).toInt n1.toNatClampNeg n2.toNatClampNeg) (_ : P5) : RYo R x nw kp rd cb m w im tp I2 := by
  obtain ⟨hw, hi⟩ := LI.wos E hl
  obtain ⟨⟨g1, gg1⟩, g2, gg2⟩ := E.g
  obtain ⟨⟨t1, t2, t3, t4⟩, ⟨a1, a2, a3, a4⟩, b1, b2, b3⟩ := E.1.t
  have w1 := E.1.2.2.2.2.2.2.2.2.2.2.1
  have nAB := E.1.2.2.2.1
  have hnk := E.1.2.2.2.2.2.2.2.1
  have hU := E.2.1
  obtain ⟨r1, r2, r3⟩ := id h
  have e : I1 = I := funext fun a => funext (q1 a)
  subst e
  have hb := hw.b
  have e2 := r3.2.1.1.2.2.1
  have Z := p3 w w1
  exact OPo_same E hl h q1 cm (by decide) (by decide) (by decide) (by decide) ((p4 w w1).1 (by omega))
theorem OPo_turn {n1 u v : Int32} {P0 P1 P2 P5 : Prop} (E : LX T N R A B x nw kp rd al m w im o cb tp) (hl : LI T R A m I) (hl1 : LI T R A m I1) (hl2 : LI T R A m I2) (h : RYo R x nw kp rd cb m w im tp I) (c : CB (sTb R nw (I nw 2).toNatClampNeg) T [(9, 2), (10, 0), (10, 1), (10, 2), (10, 3)] I I1) (q0 : ¬ (n1.toInt < 0 ∨ (I nw 2).toInt ≤ n1.toInt ∨ 8 ≤ n1.toInt) ∧ (I nw 2).toInt < 8 ∧ u.toInt = (I nw 2).toInt) (q1 : (I1 nw 2).toInt = (I nw 2).toInt + 1) (q2 : TBC (I1 (TA R nw (I nw 2).toNatClampNeg) 0).toInt (I1 (TA R nw (I nw 2).toNatClampNeg) 1).toInt (I1 (TA R nw (I nw 2).toNatClampNeg) 2).toInt (I1 (TA R nw (I nw 2).toNatClampNeg) 3).toInt (I (TA R nw n1.toNatClampNeg) 0).toInt (I (TA R nw n1.toNatClampNeg) 1).toInt (I (TA R nw n1.toNatClampNeg) 2).toInt (I (TA R nw n1.toNatClampNeg) 3).toInt (I nw 0).toInt) (cm : CM B R m [0, 6, 7, 8, 9] [1] I1 L1 I2 L2) (_ : P0) (_ : P1) (_ : P2) (p3 : ∀ a1, R m 1 = some a1 → (n1.toInt < 0 ∨ (I1 a1 2).toInt ≤ n1.toInt) ∧ (I2 m 0).toInt = 1 ∧ (I2 a1 2).toInt = (I1 a1 2).toInt ∨ ¬ (n1.toInt < 0 ∨ (I1 a1 2).toInt ≤ n1.toInt) ∧ (I1 a1 2).toInt = 8 ∧ (I2 m 0).toInt = 2 ∧ (I2 a1 2).toInt = (I1 a1 2).toInt ∨ ¬ (n1.toInt < 0 ∨ (I1 a1 2).toInt ≤ n1.toInt) ∧ (I1 a1 2).toInt < 8 ∧ (I2 m 0).toInt = 0 ∧ v.toInt = (I1 a1 2).toInt ∧ (I2 a1 2).toInt = (I1 a1 2).toInt + 1) (p4 : ∀ a1, R m 1 = some a1 → TBt (I2 a1) (I1 a1) (I2 m 0).toInt n1.toNatClampNeg) (_ : P5) : RYo R x nw kp rd cb m w im tp I2 := by
  obtain ⟨hw, hi⟩ := LI.wos E hl
  obtain ⟨⟨g1, gg1⟩, g2, gg2⟩ := E.g
  obtain ⟨⟨t1, t2, t3, t4⟩, ⟨a1, a2, a3, a4⟩, b1, b2, b3⟩ := E.1.t
  have w1 := E.1.2.2.2.2.2.2.2.2.2.2.1
  have nAB := E.1.2.2.2.1
  have hnk := E.1.2.2.2.2.2.2.2.1
  have hU := E.2.1
  obtain ⟨r1, r2, r3⟩ := id h
  have e2 := r3.2.1.1.2.2.1
  have e0 := r3.2.1.1.1
  have hb := hw.b
  have hp := hw.pr
  have n8 : (I nw 2).toNatClampNeg < 8 := ncn (by omega) (by omega)
  have eB : ∀ a, B a → I1 a = I a := fun a ha => c.1 a (fun q => nAB a (sTb.a9 E n8 q) ha)
  have k1 := ncz (x := n1) (by omega)
  obtain ⟨y1, o1⟩ := r3.2.1.2.2.1 n1.toNatClampNeg (by omega)
  have X := p4 w w1
  have Z := p3 w w1
  rw [eB w b2] at X Z
  have z : (I2 m 0).toInt = 0 := by omega
  obtain ⟨a, b, c9, d, K, Y⟩ := X.2 z
  rw [y1 0 (by decide), y1 1 (by decide), y1 2 (by decide), y1 3 (by decide), e0] at q2
  have f1 := q2.f (by omega) o1.2
  have f2 := K.f (by omega) (o1.1 0 (by decide)) (o1.1 1 (by decide)) (o1.1 2 (by decide)) (o1.1 3 (by decide)) o1.2
  obtain ⟨s0, s1, s2, s3⟩ := f2.eq f1
  rw [s0, s1, s2, s3] at Y
  obtain ⟨-, -, -, -, -, -, d0, d1, d2, d3⟩ := id f1
  refine RYo.tab (g := fun k => (I1 (TA R nw (I nw 2).toNatClampNeg) k).toInt) E hl hl1 hl2 h c q0.2.1 q1 (fun k _ => rfl) ⟨fun k hk => ?_, f1.ok (by omega)⟩ cm Y (by omega)
  match k, hk with
  | 0, _ => exact d0
  | 1, _ => exact d1
  | 2, _ => exact d2
  | 3, _ => exact d3
theorem OPo_turn_2 {n1 v : Int32} {P0 P1 P2 P5 : Prop} (E : LX T N R A B x nw kp rd al m w im o cb tp) (hl : LI T R A m I) (hl1 : LI T R A m I1) (hl2 : LI T R A m I2) (h : RYo R x nw kp rd cb m w im tp I) (_ : CB (sTb R nw (I nw 2).toNatClampNeg) T [(9, 2), (10, 0), (10, 1), (10, 2), (10, 3)] I I1) (q0 : ¬ (n1.toInt < 0 ∨ (I nw 2).toInt ≤ n1.toInt ∨ 8 ≤ n1.toInt) ∧ 8 ≤ (I nw 2).toInt) (q1 : ∀ a k, I1 a k = I a k) (cm : CM B R m [0, 6, 7, 8, 9] [1] I1 L1 I2 L2) (_ : P0) (_ : P1) (_ : P2) (p3 : ∀ a1, R m 1 = some a1 → (n1.toInt < 0 ∨ (I1 a1 2).toInt ≤ n1.toInt) ∧ (I2 m 0).toInt = 1 ∧ (I2 a1 2).toInt = (I1 a1 2).toInt ∨ ¬ (n1.toInt < 0 ∨ (I1 a1 2).toInt ≤ n1.toInt) ∧ (I1 a1 2).toInt = 8 ∧ (I2 m 0).toInt = 2 ∧ (I2 a1 2).toInt = (I1 a1 2).toInt ∨ ¬ (n1.toInt < 0 ∨ (I1 a1 2).toInt ≤ n1.toInt) ∧ (I1 a1 2).toInt < 8 ∧ (I2 m 0).toInt = 0 ∧ v.toInt = (I1 a1 2).toInt ∧ (I2 a1 2).toInt = (I1 a1 2).toInt + 1) (p4 : ∀ a1, R m 1 = some a1 → TBt (I2 a1) (I1 a1) (I2 m 0).toInt n1.toNatClampNeg) (_ : P5) : RYo R x nw kp rd cb m w im tp I2 := by
  obtain ⟨hw, hi⟩ := LI.wos E hl
  obtain ⟨⟨g1, gg1⟩, g2, gg2⟩ := E.g
  obtain ⟨⟨t1, t2, t3, t4⟩, ⟨a1, a2, a3, a4⟩, b1, b2, b3⟩ := E.1.t
  have w1 := E.1.2.2.2.2.2.2.2.2.2.2.1
  have nAB := E.1.2.2.2.1
  have hnk := E.1.2.2.2.2.2.2.2.1
  have hU := E.2.1
  obtain ⟨r1, r2, r3⟩ := id h
  have e : I1 = I := funext fun a => funext (q1 a)
  subst e
  have hb := hw.b
  have e2 := r3.2.1.1.2.2.1
  have Z := p3 w w1
  exact OPo_same E hl h q1 cm (by decide) (by decide) (by decide) (by decide) ((p4 w w1).1 (by omega))
theorem OPo_turn_3 {n1 v : Int32} {P0 P1 P2 P5 : Prop} (E : LX T N R A B x nw kp rd al m w im o cb tp) (hl : LI T R A m I) (hl1 : LI T R A m I1) (hl2 : LI T R A m I2) (h : RYo R x nw kp rd cb m w im tp I) (_ : CB (sTb R nw (I nw 2).toNatClampNeg) T [(9, 2), (10, 0), (10, 1), (10, 2), (10, 3)] I I1) (q0 : (n1.toInt < 0 ∨ (I nw 2).toInt ≤ n1.toInt ∨ 8 ≤ n1.toInt)) (q1 : ∀ a k, I1 a k = I a k) (cm : CM B R m [0, 6, 7, 8, 9] [1] I1 L1 I2 L2) (_ : P0) (_ : P1) (_ : P2) (p3 : ∀ a1, R m 1 = some a1 → (n1.toInt < 0 ∨ (I1 a1 2).toInt ≤ n1.toInt) ∧ (I2 m 0).toInt = 1 ∧ (I2 a1 2).toInt = (I1 a1 2).toInt ∨ ¬ (n1.toInt < 0 ∨ (I1 a1 2).toInt ≤ n1.toInt) ∧ (I1 a1 2).toInt = 8 ∧ (I2 m 0).toInt = 2 ∧ (I2 a1 2).toInt = (I1 a1 2).toInt ∨ ¬ (n1.toInt < 0 ∨ (I1 a1 2).toInt ≤ n1.toInt) ∧ (I1 a1 2).toInt < 8 ∧ (I2 m 0).toInt = 0 ∧ v.toInt = (I1 a1 2).toInt ∧ (I2 a1 2).toInt = (I1 a1 2).toInt + 1) (p4 : ∀ a1, R m 1 = some a1 → TBt (I2 a1) (I1 a1) (I2 m 0).toInt n1.toNatClampNeg) (_ : P5) : RYo R x nw kp rd cb m w im tp I2 := by
  obtain ⟨hw, hi⟩ := LI.wos E hl
  obtain ⟨⟨g1, gg1⟩, g2, gg2⟩ := E.g
  obtain ⟨⟨t1, t2, t3, t4⟩, ⟨a1, a2, a3, a4⟩, b1, b2, b3⟩ := E.1.t
  have w1 := E.1.2.2.2.2.2.2.2.2.2.2.1
  have nAB := E.1.2.2.2.1
  have hnk := E.1.2.2.2.2.2.2.2.1
  have hU := E.2.1
  obtain ⟨r1, r2, r3⟩ := id h
  have e : I1 = I := funext fun a => funext (q1 a)
  subst e
  have hb := hw.b
  have e2 := r3.2.1.1.2.2.1
  have Z := p3 w w1
  exact OPo_same E hl h q1 cm (by decide) (by decide) (by decide) (by decide) ((p4 w w1).1 (by omega))
/-! forms mixed, acts undone and done again -/
def sMx (T : Nat → Nat) (R : RT) (A : Nat → Prop) (nw f a : Nat) : Prop := (BS T R A a ∧ T a ≠ 9) ∨ WSX R nw a ∨ a = FA R nw f ∨ a = rA R (FA R nw f) 1
theorem sMx.a9 (E : LX T N R A B x nw kp rd al m w im o cb tp) {f : Nat} (hf : f < 16) {a : Nat} (h : sMx T R A nw f a) : A a := by
  rcases h with q | q | q | q
  · exact q.1.1
  · exact OWN.a9 E.s.1 (Or.inl q)
  · exact OWN.a9 E.s.1 (OWN.f q.symm hf)
  · rw [q]; exact OWN.a9 E.s.1 (OWN.fb rfl hf)
theorem OPo_mix {n1 n2 : Int32} {P0 P1 P2 P4 P7 Q0 Q1 Q8 : Prop} (E : LX T N R A B x nw kp rd al m w im o cb tp) (hl : LI T R A m I) (hl1 : LI T R A m I1) (hl2 : LI T R A m I2) (h : RYo R x nw kp rd cb m w im tp I) (c : CB (sMx T R A nw n1.toNatClampNeg) T [(3, 0), (9, 4), (9, 5)] I I1) (_ : Q0) (_ : Q1) (q2 : ¬ ((n1.toInt < 0 ∨ (I nw 1).toInt ≤ n1.toInt ∨ 16 ≤ n1.toInt) ∨ (n2.toInt < 0 ∨ (I nw 2).toInt ≤ n2.toInt ∨ 8 ≤ n2.toInt))) (q3 : (I1 (FA R nw n1.toNatClampNeg) 0).toInt = (I (FA R nw n1.toNatClampNeg) 0).toInt) (q4 : VRX I1 (rA R (FA R nw n1.toNatClampNeg) 1) (I nw 0).toInt (I (FA R nw n1.toNatClampNeg) 0).toInt (PmX (I (TA R nw n2.toNatClampNeg) 0).toInt (I (TA R nw n2.toNatClampNeg) 1).toInt (I (TA R nw n2.toNatClampNeg) 2).toInt (I (TA R nw n2.toNatClampNeg) 3).toInt (NF I (rA R (FA R nw n1.toNatClampNeg) 1)) (I (FA R nw n1.toNatClampNeg) 0).toInt.toNat)) (q5 : WRD R I1 I nw n1 (FA R nw n1.toNatClampNeg) (I nw 4).toInt) (q6 : (I1 nw 5).toInt = 0) (q7 : FSM R I1 I nw n1.toInt) (_ : Q8) (cm : CM B R m [0, 6, 7, 8, 9] [1, 4, 5] I1 L1 I2 L2) (_ : P0) (_ : P1) (_ : P2) (p3 : ∀ a1, R m 1 = some a1 → (I2 m 0).toInt = 0 → MXT (I2 a1) (I1 a1) n1 n2) (_ : P4) (p5 : ∀ a1, R m 1 = some a1 → (I2 m 0).toInt ≠ 0 → I2 a1 = I1 a1) (p6 : ∀ a1, R m 1 = some a1 → ¬ (n1.toInt < 0 ∨ (I1 a1 1).toInt ≤ n1.toInt ∨ n2.toInt < 0 ∨ (I1 a1 2).toInt ≤ n2.toInt) ∧ (I2 m 0).toInt = 0 ∨ (n1.toInt < 0 ∨ (I1 a1 1).toInt ≤ n1.toInt ∨ n2.toInt < 0 ∨ (I1 a1 2).toInt ≤ n2.toInt) ∧ (I2 m 0).toInt = 1) (_ : P7) : RYo R x nw kp rd cb m w im tp I2 := by
  obtain ⟨hw, hi⟩ := LI.wos E hl
  obtain ⟨⟨g1, gg1⟩, g2, gg2⟩ := E.g
  obtain ⟨⟨t1, t2, t3, t4⟩, ⟨a1, a2, a3, a4⟩, b1, b2, b3⟩ := E.1.t
  have w1 := E.1.2.2.2.2.2.2.2.2.2.2.1
  have nAB := E.1.2.2.2.1
  have hnk := E.1.2.2.2.2.2.2.2.1
  have hU := E.2.1
  obtain ⟨r1, r2, r3⟩ := id h
  have e1 := r3.2.1.1.2.1
  have e2 := r3.2.1.1.2.2.1
  have hb := hw.b
  have f16 : n1.toNatClampNeg < 16 := ncn (by omega) (by omega)
  have eB : ∀ a, B a → I1 a = I a := fun a ha => c.1 a (fun q => nAB a (sMx.a9 E f16 q) ha)
  have X := p3 w w1
  have Z := p6 w w1
  rw [eB w b2] at X Z
  have z : (I2 m 0).toInt = 0 := by omega
  have X := X z
  have F := (g1.2.2.2.2.2.2.1 _ f16).2
  have own : ∀ a, sMx T R A nw n1.toNatClampNeg a → (BS T R A a ∧ T a ≠ 9) ∨ OWN R nw a := fun a q => by
    rcases q with q | q | q | q
    · exact Or.inl q
    · exact Or.inr (Or.inl q)
    · exact Or.inr (OWN.f q.symm f16)
    · exact Or.inr (by rw [q]; exact OWN.fb rfl f16)
  have ncb : ¬ sMx T R A nw n1.toNatClampNeg cb := fun q => (own cb q).elim (fun q => q.1.2 E.kc) (E.cbo g1 gg1)
  have nkp : ¬ sMx T R A nw n1.toNatClampNeg kp := fun q => (own kp q).elim (fun q => q.2 t3) (fun q => by
    rcases OWN.ty g1 gg1 q with e | e | e | e | e
    · exact hnk e
    · omega
    · omega
    · omega
    · omega)
  have e9 : ∀ k, k < 4 → I1 nw k = I nw k := fun k hk => c.2 nw k (by omega) (by
    rw [t2]
    match k, hk with
    | 0, _ => decide
    | 1, _ => decide
    | 2, _ => decide
    | 3, _ => decide)
  have eT : ∀ a k, T a = 10 → I1 a k = I a k := fun a k ht => c.2 a k (by omega) (by rw [ht]; simp)
  refine RYo.fin E hl hl2 cm (by decide) (by decide) eB (by rw [c.2 rd 1 (by omega) (by rw [t4]; decide), cm.2.1 11 (by decide), eB m b1]; exact r1) (by rw [c.2 x 3 (by omega) (by rw [t1]; decide)]; exact r2) (fun k hk => by rw [cm.2.1 11 (by decide), eB m b1] at hk; rw [c.1 cb ncb, (cm.2.2 10 tp E.2.2.2.1 (by decide)).1, eB tp E.tb]; exact r3.1 k hk) ?_ ?_ (r3.2.2.2.k (e9 3 (by decide)) (by rw [c.1 kp nkp]) (by rw [eB m b1]))
  · exact r3.2.1.mix hw (by omega) (by omega) (fun k hk => by rw [e9 k (by omega)]) q6 (fun j hj k _ => eT _ k (g1.2.2.2.2.2.2.2 j hj).2) q3 q4 q5 q7 X
  · refine RX.kp9 E hl r3 c (fun a q => ?_) (fun k _ _ => by rw [c.1 kp nkp]) (fun j hj k _ => eT _ k (g2.2.2.2.2.2.2.2 j hj).2)
    exact (own a q).elim (fun q => NOK.q q.1) (fun q => NOK.own (Ne.symm hnk) g1 gg1 q)
theorem OPo_mix_3 {n1 n2 : Int32} {P0 P1 P2 P4 P7 : Prop} (E : LX T N R A B x nw kp rd al m w im o cb tp) (hl : LI T R A m I) (hl1 : LI T R A m I1) (hl2 : LI T R A m I2) (h : RYo R x nw kp rd cb m w im tp I) (_ : CB (sMx T R A nw n1.toNatClampNeg) T [(3, 0), (9, 4), (9, 5)] I I1) (q0 : (n1.toInt < 0 ∨ (I nw 1).toInt ≤ n1.toInt ∨ 16 ≤ n1.toInt) ∨ (n2.toInt < 0 ∨ (I nw 2).toInt ≤ n2.toInt ∨ 8 ≤ n2.toInt)) (q1 : ∀ a k, I1 a k = I a k) (cm : CM B R m [0, 6, 7, 8, 9] [1, 4, 5] I1 L1 I2 L2) (_ : P0) (_ : P1) (_ : P2) (p3 : ∀ a1, R m 1 = some a1 → (I2 m 0).toInt = 0 → MXT (I2 a1) (I1 a1) n1 n2) (_ : P4) (p5 : ∀ a1, R m 1 = some a1 → (I2 m 0).toInt ≠ 0 → I2 a1 = I1 a1) (p6 : ∀ a1, R m 1 = some a1 → ¬ (n1.toInt < 0 ∨ (I1 a1 1).toInt ≤ n1.toInt ∨ n2.toInt < 0 ∨ (I1 a1 2).toInt ≤ n2.toInt) ∧ (I2 m 0).toInt = 0 ∨ (n1.toInt < 0 ∨ (I1 a1 1).toInt ≤ n1.toInt ∨ n2.toInt < 0 ∨ (I1 a1 2).toInt ≤ n2.toInt) ∧ (I2 m 0).toInt = 1) (_ : P7) : RYo R x nw kp rd cb m w im tp I2 := by
  obtain ⟨hw, hi⟩ := LI.wos E hl
  obtain ⟨⟨g1, gg1⟩, g2, gg2⟩ := E.g
  obtain ⟨⟨t1, t2, t3, t4⟩, ⟨a1, a2, a3, a4⟩, b1, b2, b3⟩ := E.1.t
  have w1 := E.1.2.2.2.2.2.2.2.2.2.2.1
  have nAB := E.1.2.2.2.1
  have hnk := E.1.2.2.2.2.2.2.2.1
  have hU := E.2.1
  obtain ⟨r1, r2, r3⟩ := id h
  have e : I1 = I := funext fun a => funext (q1 a)
  subst e
  have e1 := r3.2.1.1.2.1
  have e2 := r3.2.1.1.2.2.1
  have hb := hw.b
  have Z := p6 w w1
  exact OPo_same E hl h q1 cm (by decide) (by decide) (by decide) (by decide) (p5 w w1 (by omega))
theorem OPo_undo {u v : Int32} {P0 P2 : Prop} (E : LX T N R A B x nw kp rd al m w im o cb tp) (hl : LI T R A m I) (hl1 : LI T R A m I1) (hl2 : LI T R A m I2) (h : RYo R x nw kp rd cb m w im tp I) (c : CB (UDX R nw) T [(9, 4), (9, 5)] I I1) (q0 : UND R I1 I nw u (I nw 4).toInt (I nw 5).toInt) (cm : CM B R m [0, 6, 7, 8, 9] [1, 4, 5] I1 L1 I2 L2) (_ : P0) (p1 : ∀ a1, R m 1 = some a1 → UNX (I2 a1) (I1 a1) v.toInt) (_ : P2) : RYo R x nw kp rd cb m w im tp I2 := by
  obtain ⟨hw, hi⟩ := LI.wos E hl
  obtain ⟨⟨g1, gg1⟩, g2, gg2⟩ := E.g
  obtain ⟨⟨t1, t2, t3, t4⟩, ⟨a1, a2, a3, a4⟩, b1, b2, b3⟩ := E.1.t
  have w1 := E.1.2.2.2.2.2.2.2.2.2.2.1
  have nAB := E.1.2.2.2.1
  have hnk := E.1.2.2.2.2.2.2.2.1
  have hU := E.2.1
  obtain ⟨r1, r2, r3⟩ := id h
  obtain ⟨e0, e1, e2, e4, e5⟩ := r3.2.1.1
  have hb := hw.b
  have eB : ∀ a, B a → I1 a = I a := fun a ha => c.1 a (fun q => nAB a (OWN.a9 E.s.1 (OWN.ud q)) ha)
  have X := p1 w w1
  rw [eB w b2] at X
  have ncb : ¬ UDX R nw cb := fun q => E.cbo g1 gg1 (OWN.ud q)
  have nkp : ¬ UDX R nw kp := fun q => by
    rcases OWN.ty g1 gg1 (OWN.ud q) with e | e | e | e | e
    · exact hnk e
    · omega
    · omega
    · omega
    · omega
  have e9 : ∀ k, k < 4 → I1 nw k = I nw k := fun k hk => c.2 nw k (by omega) (by
    rw [t2]
    match k, hk with
    | 0, _ => decide
    | 1, _ => decide
    | 2, _ => decide
    | 3, _ => decide)
  have eT : ∀ a k, T a = 10 → I1 a k = I a k := fun a k ht => c.2 a k (by omega) (by rw [ht]; simp)
  by_cases d : (I w 4).toInt = 0
  · obtain ⟨-, eW⟩ := X.1 d
    obtain ⟨-, eI⟩ := q0.1 (by omega)
    exact OPo_same E hl h (fun a k => by rw [eI]) cm (by decide) (by decide) (by decide) (by decide) (by rw [eW, eI])
  · obtain ⟨W1, y4, y5, yr, yA⟩ := X.2 (by omega)
    obtain ⟨s1, s2, s3, s4, s5⟩ := q0.2 (by omega)
    obtain ⟨a, ea⟩ : ∃ a : Nat, (I w 4).toInt = (a : Int) + 1 := ⟨((I w 4).toInt - 1).toNat, by omega⟩
    have k1 : ((I w 4).toInt - 1).toNat = a := by omega
    have k2 : ((I nw 4).toInt - 1).toNat = a := by omega
    rw [k1] at yA
    rw [k2] at s1 s2
    obtain ⟨V, -, -, v3⟩ := r3.2.1.2.2.2
    obtain ⟨x1, -⟩ := v3 a (by omega)
    have ef : I w (3406 + 5 * a) = u := by rw [← s1]; exact (Int32.toInt_inj.mp x1).symm
    obtain ⟨ta, tb, tc, td, z0, z1, M, wr, w4, w5, -⟩ := yA.w yr ef
    refine RYo.fin E hl hl2 cm (by decide) (by decide) eB (by rw [c.2 rd 1 (by omega) (by rw [t4]; decide), cm.2.1 11 (by decide), eB m b1]; exact r1) (by rw [c.2 x 3 (by omega) (by rw [t1]; decide)]; exact r2) (fun k hk => by rw [cm.2.1 11 (by decide), eB m b1] at hk; rw [c.1 cb ncb, (cm.2.2 10 tp E.2.2.2.1 (by decide)).1, eB tp E.tb]; exact r3.1 k hk) ?_ ?_ (r3.2.2.2.k (e9 3 (by decide)) (by rw [c.1 kp nkp]) (by rw [eB m b1]))
    · exact RST.step (a := a) (d9 := (a : Int)) (u9 := (I w 5).toInt + 1) (f := u) r3.2.1 hw (by omega) (Or.inr ⟨ea, rfl⟩) (by omega) ef (Or.inr ⟨ea, z1 rfl⟩) (fun k hk => by rw [e9 k (by omega)]) (by omega) (by omega) (fun j hj k _ => eT _ k (g1.2.2.2.2.2.2.2 j hj).2) s2 s5 (by rw [w4]; omega) (by rw [w5]; omega) wr M
    · exact RX.kp9 E hl r3 c (fun a q => NOK.own (Ne.symm hnk) g1 gg1 (OWN.ud q)) (fun k _ _ => by rw [c.1 kp nkp]) (fun j hj k _ => eT _ k (g2.2.2.2.2.2.2.2 j hj).2)
theorem OPo_redo {u v : Int32} {P0 P2 : Prop} (E : LX T N R A B x nw kp rd al m w im o cb tp) (hl : LI T R A m I) (hl1 : LI T R A m I1) (hl2 : LI T R A m I2) (h : RYo R x nw kp rd cb m w im tp I) (c : CB (UDX R nw) T [(9, 4), (9, 5)] I I1) (q0 : RDD R I1 I nw u (I nw 4).toInt (I nw 5).toInt) (cm : CM B R m [0, 6, 7, 8, 9] [1, 4, 5] I1 L1 I2 L2) (_ : P0) (p1 : ∀ a1, R m 1 = some a1 → RDX (I2 a1) (I1 a1) v.toInt) (_ : P2) : RYo R x nw kp rd cb m w im tp I2 := by
  obtain ⟨hw, hi⟩ := LI.wos E hl
  obtain ⟨⟨g1, gg1⟩, g2, gg2⟩ := E.g
  obtain ⟨⟨t1, t2, t3, t4⟩, ⟨a1, a2, a3, a4⟩, b1, b2, b3⟩ := E.1.t
  have w1 := E.1.2.2.2.2.2.2.2.2.2.2.1
  have nAB := E.1.2.2.2.1
  have hnk := E.1.2.2.2.2.2.2.2.1
  have hU := E.2.1
  obtain ⟨r1, r2, r3⟩ := id h
  obtain ⟨e0, e1, e2, e4, e5⟩ := r3.2.1.1
  have hb := hw.b
  have eB : ∀ a, B a → I1 a = I a := fun a ha => c.1 a (fun q => nAB a (OWN.a9 E.s.1 (OWN.ud q)) ha)
  have X := p1 w w1
  rw [eB w b2] at X
  have ncb : ¬ UDX R nw cb := fun q => E.cbo g1 gg1 (OWN.ud q)
  have nkp : ¬ UDX R nw kp := fun q => by
    rcases OWN.ty g1 gg1 (OWN.ud q) with e | e | e | e | e
    · exact hnk e
    · omega
    · omega
    · omega
    · omega
  have e9 : ∀ k, k < 4 → I1 nw k = I nw k := fun k hk => c.2 nw k (by omega) (by
    rw [t2]
    match k, hk with
    | 0, _ => decide
    | 1, _ => decide
    | 2, _ => decide
    | 3, _ => decide)
  have eT : ∀ a k, T a = 10 → I1 a k = I a k := fun a k ht => c.2 a k (by omega) (by rw [ht]; simp)
  by_cases d : (I w 5).toInt = 0
  · obtain ⟨-, eW⟩ := X.1 d
    obtain ⟨-, eI⟩ := q0.1 (by omega)
    exact OPo_same E hl h (fun a k => by rw [eI]) cm (by decide) (by decide) (by decide) (by decide) (by rw [eW, eI])
  · obtain ⟨W1, y4, y5, yr, yA⟩ := X.2 (by omega)
    obtain ⟨s1, s2, s3, s4, s5⟩ := q0.2 (by omega)
    obtain ⟨a, ea⟩ : ∃ a : Nat, (I w 4).toInt = (a : Int) := ⟨(I w 4).toInt.toNat, by omega⟩
    have k1 : (I w 4).toInt.toNat = a := by omega
    have k2 : (I nw 4).toInt.toNat = a := by omega
    rw [k1] at yA
    rw [k2] at s1 s2
    obtain ⟨V, -, -, v3⟩ := r3.2.1.2.2.2
    obtain ⟨x1, -⟩ := v3 a (by omega)
    have ef : I w (3406 + 5 * a) = u := by rw [← s1]; exact (Int32.toInt_inj.mp x1).symm
    obtain ⟨ta, tb, tc, td, z0, z1, M, wr, w4, w5, -⟩ := yA.w yr ef
    refine RYo.fin E hl hl2 cm (by decide) (by decide) eB (by rw [c.2 rd 1 (by omega) (by rw [t4]; decide), cm.2.1 11 (by decide), eB m b1]; exact r1) (by rw [c.2 x 3 (by omega) (by rw [t1]; decide)]; exact r2) (fun k hk => by rw [cm.2.1 11 (by decide), eB m b1] at hk; rw [c.1 cb ncb, (cm.2.2 10 tp E.2.2.2.1 (by decide)).1, eB tp E.tb]; exact r3.1 k hk) ?_ ?_ (r3.2.2.2.k (e9 3 (by decide)) (by rw [c.1 kp nkp]) (by rw [eB m b1]))
    · exact RST.step (a := a) (d9 := (a : Int) + 1) (u9 := (I w 5).toInt - 1) (f := u) r3.2.1 hw (by omega) (Or.inl ⟨ea, rfl⟩) (by omega) ef (Or.inl ⟨ea, z0 rfl⟩) (fun k hk => by rw [e9 k (by omega)]) (by omega) (by omega) (fun j hj k _ => eT _ k (g1.2.2.2.2.2.2.2 j hj).2) s2 s5 (by rw [w4]; omega) (by rw [w5]; omega) wr M
    · exact RX.kp9 E hl r3 c (fun a q => NOK.own (Ne.symm hnk) g1 gg1 (OWN.ud q)) (fun k _ _ => by rw [c.1 kp nkp]) (fun j hj k _ => eT _ k (g2.2.2.2.2.2.2.2 j hj).2)
/-! the image -/
def sIm (R : RT) (kp x a : Nat) : Prop := OWN R kp a ∨ a = x
theorem OPo_image {P0 : Prop} (E : LX T N R A B x nw kp rd al m w im o cb tp) (hl : LI T R A m I) (hl1 : LI T R A m I1) (hl2 : LI T R A m I2) (h : RYo R x nw kp rd cb m w im tp I) (c : CB (sIm R kp x) T [(3, 0), (8, 2), (9, 0), (9, 1), (9, 2), (9, 3), (9, 4), (9, 5), (10, 0), (10, 1), (10, 2), (10, 3), (12, 3)] I I1) (q0 : (I1 x 3).toInt = 1) (q1 : (I1 kp 0).toInt = (I nw 0).toInt) (q2 : (I1 kp 1).toInt = (I nw 1).toInt) (q3 : (I1 kp 2).toInt = (I nw 2).toInt) (q4 : (I1 kp 3).toInt = (I nw 3).toInt) (q5 : (I1 kp 4).toInt = (I nw 4).toInt) (q6 : (I1 kp 5).toInt = (I nw 5).toInt) (q7 : CAL R I1 I kp nw 40) (q8 : FLL R I1 I kp nw (I nw 1).toInt) (q9 : TLL R I1 I kp nw (I nw 2).toInt) (cm : CM B R m [0, 3] [2] I1 L1 I2 L2) (_ : P0) (p1 : (I2 m 3).toInt = 1) (p2 : ∀ a1 a2, R m 1 = some a1 → R m 2 = some a2 → CPA I2 I1 a2 a1) : RYo R x nw kp rd cb m w im tp I2 := by
  obtain ⟨hw, hi⟩ := LI.wos E hl
  obtain ⟨⟨g1, gg1⟩, g2, gg2⟩ := E.g
  obtain ⟨⟨t1, t2, t3, t4⟩, ⟨a1, a2, a3, a4⟩, b1, b2, b3⟩ := E.1.t
  have w1 := E.1.2.2.2.2.2.2.2.2.2.2.1
  have nAB := E.1.2.2.2.1
  have hnk := E.1.2.2.2.2.2.2.2.1
  have hU := E.2.1
  obtain ⟨r1, r2, r3⟩ := id h
  have w2 := E.1.2.2.2.2.2.2.2.2.2.2.2
  obtain ⟨-, hi2⟩ := LI.wos E hl2
  have nT : ∀ a, T a ≠ 3 → T a ≠ 8 → T a ≠ 10 → T a ≠ 20 → a ≠ kp → a ≠ x → I1 a = I a := fun a h3 h8 h10 h20 hk hx => c.1 a (fun q => q.elim (fun q => by
    rcases OWN.ty g2 gg2 q with e | e | e | e | e
    · exact hk e
    · exact h3 e
    · exact h8 e
    · exact h10 e
    · exact h20 e) hx)
  have eB : ∀ a, B a → I1 a = I a := fun a ha => c.1 a (fun q => q.elim (fun q => nAB a (OWN.a9 E.s.2 q) ha) (fun e => nAB _ a1 (e ▸ ha)))
  have enw : I1 nw = I nw := nT nw (by omega) (by omega) (by omega) (by omega) (Ne.symm hnk) (fun e => by rw [e] at t2; omega)
  have erd : I1 rd = I rd := nT rd (by omega) (by omega) (by omega) (by omega) (fun e => by rw [e] at t4; omega) (fun e => by rw [e] at t4; omega)
  have ecb : I1 cb = I cb := c.1 cb (fun q => q.elim (E.cbo g2 gg2) (fun e => by have := E.c.1; rw [e] at this; omega))
  have eA : ∀ a, A a → I2 a = I1 a := fun a ha => (cm.1 a (nAB a ha)).1
  have X := p2 w im w1 w2
  have Y : ∀ r, r < 3606 → I2 im r = I w r := fun r hr => by rw [X r hr, eB w b2]
  have ew : I2 w = I w := ((cm.2.2 1 w w1 (by decide)).1).trans (eB w b2)
  refine ⟨by rw [eA rd a4, erd, cm.2.1 11 (by decide), eB m b1]; exact r1, by rw [eA x a1, q0, p1], fun k hk => by rw [cm.2.1 11 (by decide), eB m b1] at hk; rw [eA cb E.c.2, ecb, (cm.2.2 10 tp E.2.2.2.1 (by decide)).1, eB tp E.tb]; exact r3.1 k hk, ?_, Or.inr ?_, ?_, Or.inr ?_⟩
  · rw [ew]
    exact RST.b E.s.1 (RX.nw9 E hl r3 c (fun a q => q.elim (fun q => NOK.own hnk g2 gg2 q) (fun e => by rw [e]; exact Or.inr (Or.inr (Or.inr (Or.inr (Or.inl t1)))))) (fun k _ _ => by rw [enw]) (fun j hj k _ => by rw [c.1 _ (fun q => q.elim (OWN.nts hU g2 gg2 g1 (Ne.symm hnk) hj) (fun e => by have := (g1.2.2.2.2.2.2.2 j hj).2; rw [e] at this; omega))])) hw eA
  · have K : RST R I1 kp (I w) := r3.2.1.copy hw (k6 (P := fun k => (I1 kp k).toInt = (I nw k).toInt) q1 q2 q3 q4 q5 q6) q7 q8 q9
    exact RST.b E.s.2 (K.w hw (fun r hr _ _ => Y r hr)) (hi2 (by omega)) eA
  · rw [eA nw a2, enw]; exact r3.2.2.2.1
  · rw [eA kp a3, q4]; exact r3.2.2.2.1
theorem OPo_back {u v : Int32} {P0 P1 P2 Q0 Q1 : Prop} (E : LX T N R A B x nw kp rd al m w im o cb tp) (hl : LI T R A m I) (hl1 : LI T R A m I1) (hl2 : LI T R A m I2) (h : RYo R x nw kp rd cb m w im tp I) (c : CB (OWN R nw) T [(3, 0), (8, 2), (9, 0), (9, 1), (9, 2), (9, 3), (9, 4), (9, 5), (10, 0), (10, 1), (10, 2), (10, 3)] I I1) (_ : Q0) (_ : Q1) (q2 : BKX R I1 I nw kp u.toInt (I x 3).toInt) (cm : CM B R m [0] [1] I1 L1 I2 L2) (_ : P0) (_ : P1) (_ : P2) (p3 : ∀ a1 a2, R m 1 = some a1 → R m 2 = some a2 → BKD I2 I1 a1 a2 v.toInt (I1 m 3).toInt) : RYo R x nw kp rd cb m w im tp I2 := by
  obtain ⟨hw, hi⟩ := LI.wos E hl
  obtain ⟨⟨g1, gg1⟩, g2, gg2⟩ := E.g
  obtain ⟨⟨t1, t2, t3, t4⟩, ⟨a1, a2, a3, a4⟩, b1, b2, b3⟩ := E.1.t
  have w1 := E.1.2.2.2.2.2.2.2.2.2.2.1
  have nAB := E.1.2.2.2.1
  have hnk := E.1.2.2.2.2.2.2.2.1
  have hU := E.2.1
  obtain ⟨r1, r2, r3⟩ := id h
  have w2 := E.1.2.2.2.2.2.2.2.2.2.2.2
  have eB : ∀ a, B a → I1 a = I a := fun a ha => c.1 a (fun q => nAB a (OWN.a9 E.s.1 q) ha)
  have nT : ∀ a, T a ≠ 3 → T a ≠ 8 → T a ≠ 10 → T a ≠ 20 → a ≠ nw → I1 a = I a := fun a h3 h8 h10 h20 hk => c.1 a (fun q => by
    rcases OWN.ty g1 gg1 q with e | e | e | e | e
    · exact hk e
    · exact h3 e
    · exact h8 e
    · exact h10 e
    · exact h20 e)
  have X := p3 w im w1 w2
  rw [eB m b1] at X
  by_cases z : (I m 3).toInt = 0
  · obtain ⟨-, eI⟩ := q2.1 (by omega)
    rw [eI] at cm
    rcases X with ⟨-, -, C⟩ | ⟨-, n, -⟩
    · exact RYo.r E hl h cm (by decide) (by decide) (by decide) (by decide) (fun r hr _ _ => by rw [C r hr, eI])
    · exact absurd z n
  · obtain ⟨-, i6, ca, fl9, tl⟩ := q2.2 (by omega)
    rcases X with ⟨-, n, -⟩ | ⟨-, -, C⟩
    · exact absurd n z
    have ekp : I1 kp = I kp := nT kp (by omega) (by omega) (by omega) (by omega) hnk
    have Y : ∀ r, r < 3606 → I2 w r = I im r := fun r hr => by rw [C r hr, eB im b3]
    have K : RST R I1 nw (I im) := (r3.2.2.1.resolve_left z).copy (hi z) i6 ca fl9 tl
    have s3 := r3.2.2.2.2.resolve_left z
    have i3 := i6 3 (by decide)
    refine RYo.fin E hl hl2 cm (by decide) (by decide) eB (by rw [nT rd (by omega) (by omega) (by omega) (by omega) (fun e => by rw [e] at t4; omega), cm.2.1 11 (by decide), eB m b1]; exact r1) (by rw [nT x (by omega) (by omega) (by omega) (by omega) (fun e => by rw [e] at t1; omega)]; exact r2) (fun k hk => by rw [cm.2.1 11 (by decide), eB m b1] at hk; rw [c.1 cb (E.cbo g1 gg1), (cm.2.2 10 tp E.2.2.2.1 (by decide)).1, eB tp E.tb]; exact r3.1 k hk) (K.w (hi z) (fun r hr _ _ => Y r hr)) ?_ ⟨by omega, Or.inr (by rw [ekp]; exact s3)⟩
    exact RX.kp9 E hl r3 c (fun a q => NOK.own (Ne.symm hnk) g1 gg1 q) (fun k _ _ => by rw [ekp]) (fun j hj k _ => by rw [c.1 _ (OWN.nts hU g1 gg1 g2 hnk hj)])
/-! signs -/
def sSN (T : Nat → Nat) (R : RT) (A : Nat → Prop) (nw a : Nat) : Prop := (BS T R A a ∧ (T a ≠ 9 ∨ a = nw)) ∨ ∃ j, j < 8 ∧ (a = SA R nw j ∨ a = rA R (SA R nw j) 0 ∨ a = rA R (SA R nw j) 1)
theorem sSN.a9 (E : LX T N R A B x nw kp rd al m w im o cb tp) {a : Nat} (h : sSN T R A nw a) : A a := by
  rcases h with q | q
  · exact q.1.1
  · exact OWN.a9 E.s.1 (Or.inr (Or.inr (Or.inr q)))
theorem OPo_signsx (E : LX T N R A B x nw kp rd al m w im o cb tp) (hl : LI T R A m I) (hl1 : LI T R A m I1) (hl2 : LI T R A m I2) (h : RYo R x nw kp rd cb m w im tp I) (c : CB (sSN T R A nw) T [(5, 1), (5, 3), (5, 4), (5, 5), (8, 2), (9, 3), (12, 4)] I I1) (q0 : (I1 rd 1).toInt = 0) (q2 : 0 ≤ (I1 nw 3).toInt ∧ (I1 nw 3).toInt ≤ 8) (cm : CM B R m [0, 11, 12, 13, 14, 15, 16, 17, 19] [1] I1 L1 I2 L2) (p3 : (I2 m 11).toInt = 0) (p7 : ∀ a1, R m 1 = some a1 → ∀ r : Nat, r ≠ 3 ∧ (r < 198 ∨ 3406 ≤ r) ∧ r < 3606 → I2 a1 r = I1 a1 r) : RYo R x nw kp rd cb m w im tp I2 := by
  obtain ⟨hw, hi⟩ := LI.wos E hl
  obtain ⟨⟨g1, gg1⟩, g2, gg2⟩ := E.g
  obtain ⟨⟨t1, t2, t3, t4⟩, ⟨a1, a2, a3, a4⟩, b1, b2, b3⟩ := E.1.t
  have w1 := E.1.2.2.2.2.2.2.2.2.2.2.1
  have nAB := E.1.2.2.2.1
  have hnk := E.1.2.2.2.2.2.2.2.1
  have hU := E.2.1
  obtain ⟨r1, r2, r3⟩ := id h
  have eB : ∀ a, B a → I1 a = I a := fun a ha => c.1 a (fun q => nAB a (sSN.a9 E q) ha)
  have hS : ∀ a, sSN T R A nw a → ∀ st, NOK T R st a := fun a q st => by
    rcases q with q | ⟨j, hj, e | e | e⟩
    · exact NOK.q q.1
    · rw [e]; exact Or.inr (Or.inl (gg1.2.2 j hj).2.1)
    · rw [e]; exact Or.inr (Or.inr (Or.inr (Or.inr (Or.inr (Or.inr (Or.inl ⟨(gg1.2.2 j hj).2.2.1.2, _, 0, (gg1.2.2 j hj).2.2.1.1, Or.inr (gg1.2.2 j hj).2.1⟩))))))
    · rw [e]; exact Or.inr (Or.inr (Or.inr (Or.inr (Or.inr (Or.inr (Or.inl ⟨(gg1.2.2 j hj).2.2.2.2, _, 1, (gg1.2.2 j hj).2.2.2.1, Or.inr (gg1.2.2 j hj).2.1⟩))))))
  have ncb : ¬ sSN T R A nw cb := fun q => q.elim (fun q => q.1.2 E.kc) (fun q => E.cbo g1 gg1 (Or.inr (Or.inr (Or.inr q))))
  have nkp : ¬ sSN T R A nw kp := fun q => by
    rcases q with q | q
    · exact q.2.elim (fun e => e t3) hnk
    · rcases OWN.ty g1 gg1 (Or.inr (Or.inr (Or.inr q))) with e | e | e | e | e
      · exact hnk e
      · omega
      · omega
      · omega
      · omega
  have e9 : ∀ k, k < 6 → k ≠ 3 → I1 nw k = I nw k := fun k hk h3 => c.2 nw k (by omega) (by
    rw [t2]
    match k, hk with
    | 0, _ => decide
    | 1, _ => decide
    | 2, _ => decide
    | 3, _ => exact absurd rfl h3
    | 4, _ => decide
    | 5, _ => decide)
  have eT : ∀ a k, T a = 10 → I1 a k = I a k := fun a k ht => c.2 a k (by omega) (by rw [ht]; simp)
  refine RYo.mk2 E hl1 ⟨fun k hk => by rw [eB m b1] at hk; rw [c.1 cb ncb, eB tp E.tb]; exact r3.1 k hk, ?_, ?_, q2, ?_⟩ cm (by have := hl1.2.1.f11 (x := I1 m 11) rfl; omega) (by decide) (by decide) (by decide) (fun r hr h3 hx => p7 w w1 r ⟨h3, hx, hr⟩) (by rw [q0, p3]) (by rw [c.2 x 3 (by omega) (by rw [t1]; decide), eB m b1]; exact r2)
  · rw [eB w b2]
    exact RX.nw9 E hl r3 c (fun a q => hS a q nw) (fun k hk h3 => by rw [e9 k hk h3]) (fun j hj k _ => eT _ k (g1.2.2.2.2.2.2.2 j hj).2)
  · rw [eB m b1, eB im b3]
    exact RX.kp9 E hl r3 c (fun a q => hS a q kp) (fun k _ _ => by rw [c.1 kp nkp]) (fun j hj k _ => eT _ k (g2.2.2.2.2.2.2.2 j hj).2)
  · rw [eB m b1, c.1 kp nkp]; exact r3.2.2.2.2
end Ops
