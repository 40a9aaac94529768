/-! the calls that change forms, exactly -/
/-- the forms of a row but one stay -/
def FSM (R : RT) (I' I : IT) (st : Nat) (n : Int) : Prop := ∀ j : Nat, j < 16 → (j : Int) ≠ n → FEQ R I' (FA R st j) I (FA R st j)
theorem FEQ.at {T : Nat → Nat} {R : RT} {I I' : IT} {L L' : LT} {W : List (Nat × Nat)} {S : Nat → Prop} {f : Nat} (h : Chg S T W I L I' L') (h1 : ¬ S f) (h2 : ¬ S (rA R f 1)) : FEQ R I' f I f := FEQ.rf.l (Chg.at h h1) (Chg.at h h2)
def UND (R : RT) (I' I : IT) (st : Nat) (x : Int32) (d u : Int) : Prop := (d ≤ 0 → x.toInt = -1 ∧ I' = I) ∧ (0 < d → I (WH R st) (d - 1).toNat = x ∧ SBD R I' I st (FA R st x.toNatClampNeg) (d - 1).toNat ∧ (I' st 4).toInt = d - 1 ∧ (I' st 5).toInt = u + 1 ∧ FSM R I' I st x.toInt)
def RDD (R : RT) (I' I : IT) (st : Nat) (x : Int32) (d u : Int) : Prop := (u ≤ 0 → x.toInt = -1 ∧ I' = I) ∧ (0 < u → I (WH R st) d.toNat = x ∧ SBD R I' I st (FA R st x.toNatClampNeg) d.toNat ∧ (I' st 4).toInt = d + 1 ∧ (I' st 5).toInt = u - 1 ∧ FSM R I' I st x.toInt)
theorem FSM.sb {T : Nat → Nat} {R : RT} {I I' : IT} {L L' : LT} {W : List (Nat × Nat)} {st f fb k : Nat} {n : Int} (hU : UPR T R) (hG : GS T R st) (S : Chg (fun a => WSX R st a ∨ a = fb) T W I L I' L') (oF : FA R st k = f) (zf : rA R f 1 = fb) (hk : k < 16) (hn : (k : Int) = n) : FSM R I' I st n := fun j hj hne => by
  subst oF; subst zf
  have a := hG.2.2.2.2.2.2.1 j hj
  have b := hG.2.2.2.2.2.2.1 k hk
  have n1 : FA R st j ≠ FA R st k := hU.ne (Or.inl a.2.1) a.1 b.1 (Or.inr (by omega))
  refine FEQ.at S ?_ ?_
  · rintro (e | e)
    · exact WSX.nf hU hG a.2.1 a.1 (GS.r87 hU hG hG) e
    · have := a.2.1; rw [e] at this; have := b.2.2.2; omega
  · rintro (e | e)
    · exact WSX.nb hU hG a.2 a.1 (GS.r87 hU hG hG) e
    · exact hU.ne (t20 a.2.2.2) a.2.2.1 b.2.2.1 (Or.inl n1) e
theorem k6 {P : Nat → Prop} (h0 : P 0) (h1 : P 1) (h2 : P 2) (h3 : P 3) (h4 : P 4) (h5 : P 5) : ∀ k, k < 6 → P k := fun k hk => by
  match k, hk with
  | 0, _ => exact h0
  | 1, _ => exact h1
  | 2, _ => exact h2
  | 3, _ => exact h3
  | 4, _ => exact h4
  | 5, _ => exact h5
theorem UND.z {R : RT} {I : IT} {st w fc9 : Nat} {x y : Int32} {d u fc : Int} (h : NBD (I w) x d) (hn : x.toInt < 0 ∨ fc ≤ x.toInt ∨ ((16 : Nat) : Int) ≤ x.toInt) (h0 : 0 ≤ d) (h40 : d ≤ 40) (hs : d + u ≤ 40) (h16 : fc ≤ 16) (ha : ∀ k : Nat, (k : Int) < d + u → 0 ≤ (I (WH R st) k).toInt ∧ (I (WH R st) k).toInt < fc ∧ (I (OA R st k) 0).toInt = (I (FA R st (I (WH R st) k).toNatClampNeg) 0).toInt) (hu : 0 ≤ u) (w6 : WH R st = w) (e : y.toInt = -1) : UND R I I st y d u := by
  refine ⟨fun _ => ⟨e, rfl⟩, fun hd => ?_⟩
  have hx := h.1 (by omega) h40
  have hk := ha (d - 1).toNat (by omega)
  rw [w6, hx] at hk
  omega
theorem RDD.z {R : RT} {I : IT} {st w fc9 : Nat} {x y d : Int32} {u fc : Int} (h : NOD (I w) x d u) (hn : x.toInt < 0 ∨ fc ≤ x.toInt ∨ ((16 : Nat) : Int) ≤ x.toInt) (h0 : 0 ≤ d.toInt) (h40 : d.toInt ≤ 40) (hs : d.toInt + u ≤ 40) (h16 : fc ≤ 16) (ha : ∀ k : Nat, (k : Int) < d.toInt + u → 0 ≤ (I (WH R st) k).toInt ∧ (I (WH R st) k).toInt < fc ∧ (I (OA R st k) 0).toInt = (I (FA R st (I (WH R st) k).toNatClampNeg) 0).toInt) (hu : 0 ≤ u) (w6 : WH R st = w) (e : y.toInt = -1) : RDD R I I st y d.toInt u := by
  refine ⟨fun _ => ⟨e, rfl⟩, fun hd => ?_⟩
  have hx := h.1 hd h0 (by omega)
  have hk := ha d.toInt.toNat (by omega)
  rw [w6, show d.toInt.toNat = d.toNatClampNeg from rfl, hx] at hk
  omega
/-- two forms alike: what the loop knows -/
def MTL (R : RT) (I : IT) (a b : Nat) (is k : Int) : Prop := (is = 1 → (I a 0).toInt = (I b 0).toInt ∧ ∀ j : Nat, (j : Int) < k → (I (rA R a 1) j).toInt = (I (rA R b 1) j).toInt) ∧ (is = 0 → ¬ FEQ R I a I b)
theorem MTL.z1 {R : RT} {I : IT} {a b : Nat} {is k : Int} (h : (I a 0).toInt = (I b 0).toInt) (hi : is = 1) (hk : k = 0) : MTL R I a b is k := ⟨fun _ => ⟨h, fun j hj => by omega⟩, fun h => by omega⟩
theorem MTL.z0 {R : RT} {I : IT} {a b : Nat} {is k : Int} (h : (I a 0).toInt ≠ (I b 0).toInt) (hi : is = 0) : MTL R I a b is k := ⟨fun h => by omega, fun _ g => h g.1⟩
theorem MTL.s1 {R : RT} {I : IT} {a b ab bb : Nat} {is is' D1 D2 : Int} {x y k k' : Int32} (h : MTL R I a b is k.toInt) (hi : is = 1) (za : rA R a 1 = ab) (zb : rA R b 1 = bb) (g1 : GTD x.toInt D1 (fun j => (I ab j).toInt) k.toInt) (g2 : GTD y.toInt D2 (fun j => (I bb j).toInt) k.toInt) (e : x.toInt = y.toInt) (h0 : 0 ≤ k.toInt) (h1 : k.toInt ≤ D1) (h2 : k.toInt ≤ D2) (hi' : is' = 1) (hk : k'.toInt = k.toInt + 1) : MTL R I a b is' k'.toInt := by
  have n0 := ncz h0
  refine ⟨fun _ => ⟨(h.1 hi).1, fun j hj => ?_⟩, fun q => by omega⟩
  by_cases q : j = k.toNatClampNeg
  · subst q
    have a1 := g1.i h0 h1
    have a2 := g2.i h0 h2
    rw [za, zb]
    have a1 : x.toInt = (I ab k.toNatClampNeg).toInt := a1
    have a2 : y.toInt = (I bb k.toNatClampNeg).toInt := a2
    omega
  · exact (h.1 hi).2 j (by omega)
theorem MTL.s0 {R : RT} {I : IT} {a b ab bb : Nat} {is' D1 D2 : Int} {x y k : Int32} {k' : Int} (za : rA R a 1 = ab) (zb : rA R b 1 = bb) (g1 : GTD x.toInt D1 (fun j => (I ab j).toInt) k.toInt) (g2 : GTD y.toInt D2 (fun j => (I bb j).toInt) k.toInt) (e : x.toInt ≠ y.toInt) (h0 : 0 ≤ k.toInt) (h1 : k.toInt ≤ D1) (h2 : k.toInt ≤ D2) (hd : (I b 0).toInt = D2) (hi' : is' = 0) : MTL R I a b is' k' := by
  have n0 := ncz h0
  refine ⟨fun q => by omega, fun _ f => ?_⟩
  have a1 : x.toInt = (I ab k.toNatClampNeg).toInt := g1.i h0 h1
  have a2 : y.toInt = (I bb k.toNatClampNeg).toInt := g2.i h0 h2
  have c := f.2 k.toNatClampNeg (by omega)
  rw [za, zb] at c
  omega
theorem MTL.e1 {R : RT} {I : IT} {a b : Nat} {is k : Int} (h : MTL R I a b is k) (hk : (I a 0).toInt < k) : IFF is (FEQ R I a I b) := ⟨fun q => ⟨(h.1 q).1, fun j hj => (h.1 q).2 j (by have := (h.1 q).1; omega)⟩, h.2⟩
theorem MTL.e0 {R : RT} {I : IT} {a b : Nat} {is k : Int} (h : MTL R I a b is k) (hi : is = 0) : IFF is (FEQ R I a I b) := ⟨fun q => by omega, h.2⟩
