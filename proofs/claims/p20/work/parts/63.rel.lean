/-! the class's state and the reference's world: the same forms, tables, acts -/
def WD (W : Nat → Int32) (f : Nat) : Int := (W (6 + 10 * f)).toInt
def WN (W : Nat → Int32) (f k : Nat) : Int := (W (7 + 10 * f + k)).toInt
def wac (W : Nat → Int32) (j k : Nat) : Int := (W (3407 + 5 * j + k)).toInt
def RFm (R : RT) (I : IT) (f : Nat) (D : Int) (g : Nat → Int) : Prop := (I f 0).toInt = D ∧ ∀ k : Nat, (k : Int) ≤ D → (I (rA R f 1) k).toInt = g k
theorem RFm.fe {R : RT} {I I' : IT} {f f' : Nat} {D : Int} {g : Nat → Int} (h : RFm R I f D g) (e : FEQ R I' f' I f) : RFm R I' f' D g := ⟨e.1.trans h.1, fun k hk => (e.2 k (by rw [h.1]; exact hk)).trans (h.2 k hk)⟩
theorem RFm.cg {R : RT} {I : IT} {f : Nat} {D D' : Int} {g g' : Nat → Int} (h : RFm R I f D g) (eD : D = D') (e : ∀ k : Nat, (k : Int) ≤ D → g k = g' k) : RFm R I f D' g' := by
  subst eD
  exact ⟨h.1, fun k hk => (h.2 k hk).trans (e k hk)⟩
def TOK (p : Int) (t : Nat → Int) : Prop := (∀ k : Nat, k < 4 → 0 ≤ t k ∧ t k < p) ∧ dt p (t 0) (t 1) (t 2) (t 3) ≠ 0
theorem TOK.cg {p : Int} {t t' : Nat → Int} (h : TOK p t) (e : ∀ k, k < 4 → t' k = t k) : TOK p t' := ⟨fun k hk => by rw [e k hk]; exact h.1 k hk, by rw [e 0 (by decide), e 1 (by decide), e 2 (by decide), e 3 (by decide)]; exact h.2⟩
/-- an act: its form, its table, what the form was ahead of it, and behind -/
def AX (R : RT) (I : IT) (st j : Nat) (p fc d : Int) (D : Nat → Int) (V : Nat → Nat → Nat → Int) (f : Int32) (t : Nat → Int) : Prop :=
  (I (WH R st) j).toInt = f.toInt ∧ (0 ≤ f.toInt ∧ f.toInt < fc) ∧ TOK p t ∧ RFm R I (OA R st j) (D f.toNatClampNeg) (V (if (j : Int) < d then j else j + 1) f.toNatClampNeg) ∧ (∀ k : Nat, (k : Int) ≤ D f.toNatClampNeg → PmE p (V (j + 1) f.toNatClampNeg k) (PmX (t 0) (t 1) (t 2) (t 3) (V j f.toNatClampNeg) (D f.toNatClampNeg).toNat k)) ∧ ∀ g, g ≠ f.toNatClampNeg → V (j + 1) g = V j g
theorem AX.cg {R : RT} {I : IT} {st j : Nat} {p fc d : Int} {D D' : Nat → Int} {V : Nat → Nat → Nat → Int} {f : Int32} {t t' : Nat → Int} (h : AX R I st j p fc d D V f t) (hD : D' f.toNatClampNeg = D f.toNatClampNeg) (ht : ∀ k, k < 4 → t' k = t k) : AX R I st j p fc d D' V f t' := by
  obtain ⟨a1, a2, a3, a4, a5, a6⟩ := h
  refine ⟨a1, a2, a3.cg ht, ?_, ?_, a6⟩
  · rw [hD]; exact a4
  · rw [hD, ht 0 (by decide), ht 1 (by decide), ht 2 (by decide), ht 3 (by decide)]; exact a5
theorem AX.i {R : RT} {I I' : IT} {st st' j j' : Nat} {p fc d d' : Int} {D : Nat → Int} {V V' : Nat → Nat → Nat → Int} {f : Int32} {t : Nat → Int} (h : AX R I st j p fc d D V f t) (e : AEQ R I' st' j' I st j) (eV : ∀ k : Nat, (k : Int) ≤ D f.toNatClampNeg → V (if (j : Int) < d then j else j + 1) f.toNatClampNeg k = V' (if (j' : Int) < d' then j' else j' + 1) f.toNatClampNeg k) (e0 : V' j' = V j) (e1 : V' (j' + 1) = V (j + 1)) : AX R I' st' j' p fc d' D V' f t := by
  obtain ⟨a1, a2, a3, a4, a5, a6⟩ := h
  exact ⟨by rw [e.1]; exact a1, a2, a3, (a4.fe e.2).cg rfl eV, by rw [e0, e1]; exact a5, by rw [e0, e1]; exact a6⟩
def RST (R : RT) (I : IT) (st : Nat) (W : Nat → Int32) : Prop :=
  ((I st 0).toInt = (W 0).toInt ∧ (I st 1).toInt = (W 1).toInt ∧ (I st 2).toInt = (W 2).toInt ∧ (I st 4).toInt = (W 4).toInt ∧ (I st 5).toInt = (W 5).toInt)
  ∧ (∀ f : Nat, (f : Int) < (W 1).toInt → RFm R I (FA R st f) (WD W f) (WN W f) ∧ ∀ k : Nat, (k : Int) ≤ WD W f → 0 ≤ WN W f k ∧ WN W f k < (W 0).toInt)
  ∧ (∀ t : Nat, (t : Int) < (W 2).toInt → (∀ k, k < 4 → (I (TA R st t) k).toInt = wtb W t k) ∧ TOK (W 0).toInt (wtb W t))
  ∧ ∃ V : Nat → Nat → Nat → Int, (∀ f : Nat, (f : Int) < (W 1).toInt → ∀ k : Nat, (k : Int) ≤ WD W f → V (W 4).toInt.toNat f k = WN W f k)
    ∧ (∀ j f : Nat, (j : Int) ≤ (W 4).toInt + (W 5).toInt → (f : Int) < (W 1).toInt → ∀ k : Nat, (k : Int) ≤ WD W f → 0 ≤ V j f k ∧ V j f k < (W 0).toInt)
    ∧ ∀ j : Nat, (j : Int) < (W 4).toInt + (W 5).toInt → AX R I st j (W 0).toInt (W 1).toInt (W 4).toInt (WD W) V (W (3406 + 5 * j)) (wac W j)
section Rel
variable {R : RT} {I I' : IT} {st st' : Nat} {W W' : Nat → Int32}
theorem WOS.b (h : WOS W) : (0 ≤ (W 1).toInt ∧ (W 1).toInt ≤ 16) ∧ (0 ≤ (W 2).toInt ∧ (W 2).toInt ≤ 8) ∧ (0 ≤ (W 4).toInt ∧ 0 ≤ (W 5).toInt ∧ (W 4).toInt + (W 5).toInt ≤ 40) ∧ ∀ f, f < 16 → 0 ≤ WD W f ∧ WD W f ≤ 8 := by
  have a := h.1.2.1
  have b := h.2
  have c := h.1.2.2.1
  unfold WO2 at a
  exact ⟨a.1, a.2.1, ⟨a.2.2.2.1.1, a.2.2.2.2.1, b⟩, fun f hf => ⟨(c f hf).1, (c f hf).2.1⟩⟩
theorem WOS.pr (h : WOS W) : (W 0).toInt = 11 ∨ (W 0).toInt = 13 ∨ (W 0).toInt = 17 ∨ (W 0).toInt = 19 := h.1.1
theorem RST.w (h : RST R I st W) (hW : WOS W) (e : ∀ r, r < 3606 → r ≠ 3 → (r < 198 ∨ 3406 ≤ r) → W' r = W r) : RST R I st W' := by
  obtain ⟨b1, b2, b4, bD⟩ := hW.b
  obtain ⟨⟨h0, h1, h2, h4, h5⟩, hF, hT, V, v1, v2, v3⟩ := h
  have e0 := e 0 (by decide) (by decide) (by decide)
  have e1 := e 1 (by decide) (by decide) (by decide)
  have e2 := e 2 (by decide) (by decide) (by decide)
  have e4 := e 4 (by decide) (by decide) (by decide)
  have e5 := e 5 (by decide) (by decide) (by decide)
  have eD : ∀ f : Nat, (f : Int) < (W 1).toInt → WD W' f = WD W f := fun f hf => by unfold WD; rw [e _ (by omega) (by omega) (by omega)]
  have eN : ∀ f k : Nat, (f : Int) < (W 1).toInt → (k : Int) ≤ WD W f → WN W' f k = WN W f k := fun f k hf hk => by
    have := (bD f (by omega)).2
    unfold WN; rw [e _ (by omega) (by omega) (by omega)]
  have eT : ∀ t k : Nat, (t : Int) < (W 2).toInt → k < 4 → wtb W' t k = wtb W t k := fun t k ht hk => by unfold wtb; rw [e _ (by omega) (by omega) (by omega)]
  refine ⟨⟨by rw [e0]; exact h0, by rw [e1]; exact h1, by rw [e2]; exact h2, by rw [e4]; exact h4, by rw [e5]; exact h5⟩, fun f hf => ?_, fun t ht => ?_, V, fun f hf k hk => ?_, fun j f hj hf k hk => ?_, fun j hj => ?_⟩
  · rw [e1] at hf
    rw [e0, eD f hf]
    exact ⟨(hF f hf).1.cg rfl (fun k hk => (eN f k hf hk).symm), fun k hk => by rw [eN f k hf hk]; exact (hF f hf).2 k hk⟩
  · rw [e2] at ht
    rw [e0]
    exact ⟨fun k hk => by rw [eT t k ht hk]; exact (hT t ht).1 k hk, (hT t ht).2.cg (fun k hk => eT t k ht hk)⟩
  · rw [e1] at hf
    rw [eD f hf] at hk
    rw [e4, eN f k hf hk]; exact v1 f hf k hk
  · rw [e4, e5] at hj
    rw [e1] at hf
    rw [eD f hf] at hk
    rw [e0]; exact v2 j f hj hf k hk
  · rw [e4, e5] at hj
    have a := v3 j hj
    have q := a.2.1
    rw [e0, e1, e4, e (3406 + 5 * j) (by omega) (by omega) (by omega)]
    refine a.cg (eD _ ?_) (fun k hk => ?_)
    · have : (W (3406 + 5 * j)).toNatClampNeg = (W (3406 + 5 * j)).toInt.toNat := rfl
      omega
    · unfold wac; rw [e _ (by omega) (by omega) (by omega)]
theorem RST.i (h : RST R I st W) (hW : WOS W) (hc : ∀ k, k < 6 → k ≠ 3 → (I' st k).toInt = (I st k).toInt) (ht : ∀ j, j < 8 → ∀ k, k < 4 → I' (TA R st j) k = I (TA R st j) k) (ho : ∀ j, j < 40 → AEQ R I' st j I st j) (hf : ∀ j, j < 16 → FEQ R I' (FA R st j) I (FA R st j)) : RST R I' st W := by
  obtain ⟨b1, b2, b4, bD⟩ := hW.b
  obtain ⟨⟨h0, h1, h2, h4, h5⟩, hF, hT, V, v1, v2, v3⟩ := h
  refine ⟨⟨(hc 0 (by decide) (by decide)).trans h0, (hc 1 (by decide) (by decide)).trans h1, (hc 2 (by decide) (by decide)).trans h2, (hc 4 (by decide) (by decide)).trans h4, (hc 5 (by decide) (by decide)).trans h5⟩, fun f q => ⟨(hF f q).1.fe (hf f (by omega)), (hF f q).2⟩, fun t q => ⟨fun k hk => by rw [ht t (by omega) k hk]; exact (hT t q).1 k hk, (hT t q).2⟩, V, v1, v2, fun j hj => (v3 j hj).i (ho j (by omega)) (fun _ _ => rfl) rfl rfl⟩
/-- a state laid into the other -/
theorem RST.copy (h : RST R I st W) (hW : WOS W) (hc : ∀ k, k < 6 → (I' st' k).toInt = (I st k).toInt) (ho : CAL R I' I st' st 40) (hf : FLL R I' I st' st (I st 1).toInt) (ht : TLL R I' I st' st (I st 2).toInt) : RST R I' st' W := by
  obtain ⟨b1, b2, b4, bD⟩ := hW.b
  obtain ⟨⟨h0, h1, h2, h4, h5⟩, hF, hT, V, v1, v2, v3⟩ := h
  refine ⟨⟨(hc 0 (by decide)).trans h0, (hc 1 (by decide)).trans h1, (hc 2 (by decide)).trans h2, (hc 4 (by decide)).trans h4, (hc 5 (by decide)).trans h5⟩, fun f q => ⟨(hF f q).1.fe (hf f (by omega) (by omega)), (hF f q).2⟩, fun t q => ⟨fun k hk => by rw [ht t (by omega) (by omega) k hk]; exact (hT t q).1 k hk, (hT t q).2⟩, V, v1, v2, fun j hj => (v3 j hj).i (ho j (by omega) (by omega)) (fun _ _ => rfl) rfl rfl⟩
theorem RST.field (h : RST R I st W) (hc : (W 1).toInt ≤ 0) (ht : (W 2).toInt ≤ 0) (i0 : (I' st 0).toInt = (W' 0).toInt) (ik : ∀ k, k < 6 → k ≠ 0 → k ≠ 3 → (I' st k).toInt = (I st k).toInt) (e : ∀ r : Nat, r ≠ 0 → W' r = W r) : RST R I' st W' := by
  obtain ⟨⟨h0, h1, h2, h4, h5⟩, hF, hT, V, v1, v2, v3⟩ := h
  refine ⟨⟨i0, by rw [e 1 (by decide), ik 1 (by decide) (by decide) (by decide)]; exact h1, by rw [e 2 (by decide), ik 2 (by decide) (by decide) (by decide)]; exact h2, by rw [e 4 (by decide), ik 4 (by decide) (by decide) (by decide)]; exact h4, by rw [e 5 (by decide), ik 5 (by decide) (by decide) (by decide)]; exact h5⟩, fun f q => ?_, fun t q => ?_, V, fun f q => ?_, fun j f _ q => ?_, fun j hj => ?_⟩
  · rw [e 1 (by decide)] at q; omega
  · rw [e 2 (by decide)] at q; omega
  · rw [e 1 (by decide)] at q; omega
  · rw [e 1 (by decide)] at q; omega
  · rw [e 4 (by decide), e 5 (by decide)] at hj
    have := (v3 j hj).2.1
    omega
theorem RST.form {n : Int} {c tp : Nat → Int32} (h : RST R I st W) (hW : WOS W) (hn : 1 ≤ n ∧ n ≤ 9) (h16 : (W 1).toInt < 16) (i1 : (I' st 1).toInt = (I st 1).toInt + 1) (i5 : (I' st 5).toInt = 0) (ik : ∀ k, k = 0 ∨ k = 2 ∨ k = 4 → (I' st k).toInt = (I st k).toInt) (iF : (I' (FA R st (I st 1).toNatClampNeg) 0).toInt = n - 1) (iN : NMF I' (rA R (FA R st (I st 1).toNatClampNeg) 1) n (fun j => (c j).toInt % (I st 0).toInt)) (ht : ∀ j, j < 8 → ∀ k, k < 4 → I' (TA R st j) k = I (TA R st j) k) (ho : ∀ j, j < 40 → AEQ R I' st j I st j) (hf : ∀ j : Nat, j < 16 → (j : Int) ≠ (I st 1).toInt → FEQ R I' (FA R st j) I (FA R st j)) (X : FMX W' W tp n 0) (tc : ∀ k : Nat, (k : Int) < n → (c k).toInt = (tp k).toInt % 256) : RST R I' st W' := by
  obtain ⟨b1, b2, b4, bD⟩ := hW.b
  have hp := hW.pr
  obtain ⟨⟨h0, h1, h2, h4, h5⟩, hF, hT, V, v1, v2, v3⟩ := h
  obtain ⟨x1, x5, xD, xN, xr⟩ := X.2 rfl
  have en : (I st 1).toNatClampNeg = (W 1).toInt.toNat := by have : (I st 1).toNatClampNeg = (I st 1).toInt.toNat := rfl; omega
  rw [en] at iF iN
  have w0 : W' 0 = W 0 := xr 0 (by decide) (by decide) (by omega)
  have w2 : W' 2 = W 2 := xr 2 (by decide) (by decide) (by omega)
  have w4 : W' 4 = W 4 := xr 4 (by decide) (by decide) (by omega)
  have eD : ∀ f : Nat, (f : Int) < (W 1).toInt → WD W' f = WD W f := fun f q => by unfold WD; rw [xr _ (by omega) (by omega) (by omega)]
  have eN : ∀ f k : Nat, (f : Int) < (W 1).toInt → (k : Int) ≤ WD W f → WN W' f k = WN W f k := fun f k q hk => by
    have := (bD f (by omega)).2
    unfold WN; rw [xr _ (by omega) (by omega) (by omega)]
  have nD : WD W' (W 1).toInt.toNat = n - 1 := xD
  have nN : ∀ k : Nat, (k : Int) < n → WN W' (W 1).toInt.toNat k = ((tp k).toInt % 256) % (W 0).toInt := fun k hk => xN k hk
  have nb : ∀ k : Nat, (k : Int) < n → 0 ≤ WN W' (W 1).toInt.toNat k ∧ WN W' (W 1).toInt.toNat k < (W 0).toInt := fun k hk => by
    rw [nN k hk]; exact ⟨Int.emod_nonneg _ (by omega), Int.emod_lt_of_pos _ (by omega)⟩
  refine ⟨⟨by rw [ik 0 (by omega), w0]; exact h0, by rw [i1, x1, h1], by rw [ik 2 (by omega), w2]; exact h2, by rw [ik 4 (by omega), w4]; exact h4, by rw [i5, x5]⟩, fun f q => ?_, fun t q => ?_, fun j f k => if f = (W 1).toInt.toNat then WN W' (W 1).toInt.toNat k else V j f k, fun f q k hk => ?_, fun j f hj q k hk => ?_, fun j hj => ?_⟩
  · rw [x1] at q
    rw [w0]
    by_cases z : f = (W 1).toInt.toNat
    · subst z
      rw [nD]
      exact ⟨⟨iF, fun k hk => by rw [iN k (by omega), nN k (by omega)]; show (c k).toInt % (I st 0).toInt = _; rw [tc k (by omega), h0]⟩, fun k hk => nb k (by omega)⟩
    · have q' : (f : Int) < (W 1).toInt := by omega
      rw [eD f q']
      exact ⟨((hF f q').1.fe (hf f (by omega) (by omega))).cg rfl (fun k hk => (eN f k q' hk).symm), fun k hk => by rw [eN f k q' hk]; exact (hF f q').2 k hk⟩
  · rw [w2] at q
    have et : ∀ k, k < 4 → wtb W' t k = wtb W t k := fun k hk => by unfold wtb; rw [xr _ (by omega) (by omega) (by omega)]
    rw [w0]
    exact ⟨fun k hk => by rw [et k hk, ht t (by omega) k hk]; exact (hT t q).1 k hk, (hT t q).2.cg et⟩
  · rw [x1] at q
    show (if f = (W 1).toInt.toNat then WN W' (W 1).toInt.toNat k else V _ f k) = _
    by_cases z : f = (W 1).toInt.toNat
    · subst z; rw [if_pos rfl]
    · have q' : (f : Int) < (W 1).toInt := by omega
      rw [eD f q'] at hk
      rw [if_neg z, w4, eN f k q' hk]; exact v1 f q' k hk
  · rw [x1] at q
    rw [w4, x5] at hj
    rw [w0]
    show 0 ≤ (if f = (W 1).toInt.toNat then WN W' (W 1).toInt.toNat k else V j f k) ∧ (if f = (W 1).toInt.toNat then WN W' (W 1).toInt.toNat k else V j f k) < _
    by_cases z : f = (W 1).toInt.toNat
    · subst z; rw [nD] at hk; rw [if_pos rfl]; exact nb k (by omega)
    · have q' : (f : Int) < (W 1).toInt := by omega
      rw [eD f q'] at hk
      rw [if_neg z]; exact v2 j f (by omega) q' k hk
  · rw [w4, x5] at hj
    have a := v3 j (by omega)
    have q := a.2.1
    have ef : W' (3406 + 5 * j) = W (3406 + 5 * j) := xr _ (by omega) (by omega) (by omega)
    have nf : (W (3406 + 5 * j)).toNatClampNeg ≠ (W 1).toInt.toNat := by
      have : (W (3406 + 5 * j)).toNatClampNeg = (W (3406 + 5 * j)).toInt.toNat := rfl
      omega
    have lf : ((W (3406 + 5 * j)).toNatClampNeg : Int) < (W 1).toInt := by
      have : (W (3406 + 5 * j)).toNatClampNeg = (W (3406 + 5 * j)).toInt.toNat := rfl
      omega
    rw [w0, w4, x1, ef]
    obtain ⟨a1, a2, a3, a4, a5, a6⟩ := a
    have eo := ho j (by omega)
    refine ⟨by rw [eo.1]; exact a1, ⟨a2.1, by omega⟩, a3.cg (fun k hk => by unfold wac; rw [xr _ (by omega) (by omega) (by omega)]), ?_, fun k hk => ?_, fun g hg => ?_⟩
    · rw [eD _ lf]
      refine (a4.fe eo.2).cg rfl (fun k hk => ?_)
      show _ = (if _ then _ else _)
      rw [if_neg nf]
    · rw [eD _ lf] at hk ⊢
      have e1 : wac W' j 0 = wac W j 0 := by unfold wac; rw [xr _ (by omega) (by omega) (by omega)]
      have e2 : wac W' j 1 = wac W j 1 := by unfold wac; rw [xr _ (by omega) (by omega) (by omega)]
      have e3 : wac W' j 2 = wac W j 2 := by unfold wac; rw [xr _ (by omega) (by omega) (by omega)]
      have e4 : wac W' j 3 = wac W j 3 := by unfold wac; rw [xr _ (by omega) (by omega) (by omega)]
      have eV : (fun k => if (W (3406 + 5 * j)).toNatClampNeg = (W 1).toInt.toNat then WN W' (W 1).toInt.toNat k else V j (W (3406 + 5 * j)).toNatClampNeg k) = V j (W (3406 + 5 * j)).toNatClampNeg := funext fun k => if_neg nf
      show PmE _ (if (W (3406 + 5 * j)).toNatClampNeg = (W 1).toInt.toNat then WN W' (W 1).toInt.toNat k else V (j + 1) (W (3406 + 5 * j)).toNatClampNeg k) (PmX _ _ _ _ (fun k => if (W (3406 + 5 * j)).toNatClampNeg = (W 1).toInt.toNat then WN W' (W 1).toInt.toNat k else V j (W (3406 + 5 * j)).toNatClampNeg k) _ k)
      rw [if_neg nf, eV, e1, e2, e3, e4]; exact a5 k hk
    · funext k
      show (if g = (W 1).toInt.toNat then WN W' (W 1).toInt.toNat k else V (j + 1) g k) = (if g = (W 1).toInt.toNat then WN W' (W 1).toInt.toNat k else V j g k)
      rw [a6 g hg]
theorem RST.tab {g : Nat → Int} (h : RST R I st W) (hW : WOS W) (h8 : (W 2).toInt < 8) (i2 : (I' st 2).toInt = (I st 2).toInt + 1) (ik : ∀ k, k < 6 → k ≠ 2 → k ≠ 3 → (I' st k).toInt = (I st k).toInt) (iT : ∀ k, k < 4 → (I' (TA R st (I st 2).toNatClampNeg) k).toInt = g k) (ok : TOK (W 0).toInt g) (ht : ∀ j : Nat, j < 8 → (j : Int) ≠ (I st 2).toInt → ∀ k, k < 4 → I' (TA R st j) k = I (TA R st j) k) (ho : ∀ j, j < 40 → AEQ R I' st j I st j) (hf : ∀ j, j < 16 → FEQ R I' (FA R st j) I (FA R st j)) (X : TBW W' W (g 0) (g 1) (g 2) (g 3)) (w2 : (W' 2).toInt = (W 2).toInt + 1) : RST R I' st W' := by
  obtain ⟨b1, b2, b4, bD⟩ := hW.b
  obtain ⟨⟨h0, h1, h2, h4, h5⟩, hF, hT, V, v1, v2, v3⟩ := h
  obtain ⟨⟨x0, x1, x2, x3⟩, xr⟩ := X
  have en : (I st 2).toNatClampNeg = (W 2).toInt.toNat := by have : (I st 2).toNatClampNeg = (I st 2).toInt.toNat := rfl; omega
  rw [en] at iT
  have w0 : W' 0 = W 0 := xr 0 (by decide) (by omega)
  have w1 : W' 1 = W 1 := xr 1 (by decide) (by omega)
  have w4 : W' 4 = W 4 := xr 4 (by decide) (by omega)
  have w5 : W' 5 = W 5 := xr 5 (by decide) (by omega)
  have eD : ∀ f : Nat, (f : Int) < (W 1).toInt → WD W' f = WD W f := fun f q => by unfold WD; rw [xr _ (by omega) (by omega)]
  have eN : ∀ f k : Nat, (f : Int) < (W 1).toInt → (k : Int) ≤ WD W f → WN W' f k = WN W f k := fun f k q hk => by
    have := (bD f (by omega)).2
    unfold WN; rw [xr _ (by omega) (by omega)]
  have nT : ∀ k, k < 4 → wtb W' (W 2).toInt.toNat k = g k := fun k hk => by
    unfold wtb
    match k, hk with
    | 0, _ => exact x0
    | 1, _ => rw [show 166 + 4 * (W 2).toInt.toNat + 1 = 167 + 4 * (W 2).toInt.toNat from by omega]; exact x1
    | 2, _ => rw [show 166 + 4 * (W 2).toInt.toNat + 2 = 168 + 4 * (W 2).toInt.toNat from by omega]; exact x2
    | 3, _ => rw [show 166 + 4 * (W 2).toInt.toNat + 3 = 169 + 4 * (W 2).toInt.toNat from by omega]; exact x3
  have ik' := fun k h1 h2 h3 => ik k h1 h2 h3
  refine ⟨⟨by rw [ik 0 (by decide) (by decide) (by decide), w0]; exact h0, by rw [ik 1 (by decide) (by decide) (by decide), w1]; exact h1, by rw [i2, w2, h2], by rw [ik 4 (by decide) (by decide) (by decide), w4]; exact h4, by rw [ik 5 (by decide) (by decide) (by decide), w5]; exact h5⟩, fun f q => ?_, fun t q => ?_, V, fun f q k hk => ?_, fun j f hj q k hk => ?_, fun j hj => ?_⟩
  · rw [w1] at q
    rw [w0, eD f q]
    exact ⟨((hF f q).1.fe (hf f (by omega))).cg rfl (fun k hk => (eN f k q hk).symm), fun k hk => by rw [eN f k q hk]; exact (hF f q).2 k hk⟩
  · rw [w2] at q
    rw [w0]
    by_cases z : t = (W 2).toInt.toNat
    · subst z
      exact ⟨fun k hk => by rw [nT k hk]; exact iT k hk, ok.cg nT⟩
    · have et : ∀ k, k < 4 → wtb W' t k = wtb W t k := fun k hk => by unfold wtb; rw [xr _ (by omega) (by omega)]
      exact ⟨fun k hk => by rw [et k hk, ht t (by omega) (by omega) k hk]; exact (hT t (by omega)).1 k hk, (hT t (by omega)).2.cg et⟩
  · rw [w1] at q
    rw [eD f q] at hk
    rw [w4, eN f k q hk]; exact v1 f q k hk
  · rw [w1] at q
    rw [w4, w5] at hj
    rw [eD f q] at hk
    rw [w0]; exact v2 j f hj q k hk
  · rw [w4, w5] at hj
    have a := v3 j hj
    have q := a.2.1
    rw [w0, w1, w4, xr (3406 + 5 * j) (by omega) (by omega)]
    refine (a.i (ho j (by omega)) (fun _ _ => rfl) rfl rfl).cg (eD _ ?_) (fun k hk => ?_)
    · have : (W (3406 + 5 * j)).toNatClampNeg = (W (3406 + 5 * j)).toInt.toNat := rfl
      omega
    · unfold wac; rw [xr _ (by omega) (by omega)]
end Rel
