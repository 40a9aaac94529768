/-! two values: exactly -/
/-- two values: alike or not -/
theorem VFR.fe {R : RT} {I : IT} {f g : Nat} {p : Int} {v w : FVV} (hf : VFR R I f p v) (hg : VFR R I g p w) : FEQ R I f I g ↔ FQV p v w := by
  obtain ⟨a1, a2, a3, a4⟩ := hf
  obtain ⟨b1, b2, b3, b4⟩ := hg
  refine ⟨fun e => ⟨by have := e.1; omega, fun m hm => ?_⟩, fun e => ⟨by have := e.1; omega, fun m hm => ?_⟩⟩
  · have z := e.2 m (by have := e.1; omega)
    have y1 := (a4 m hm).2.2
    have y2 := (b4 m (by have := e.1; omega)).2.2
    rw [z] at y1
    exact y1.sy.tr y2
  · have h1 := a4 m (by have := e.1; omega)
    have h2 := b4 m (by omega)
    exact (h1.2.2.tr ((e.2 m (by have := e.1; omega)).tr h2.2.2.sy)).eq h1.1 h1.2.1 h2.1 h2.2.1
theorem OV.nn {R : RT} {I2 I4 : IT} {c : Nat} {x p : Int} {o1 o2 : Option FVV} (h1 : VPO R I2 c none p o1) (h2 : VPO R I4 c none p o2) (hx : x = 1) : IFF x (OQV p o1 o2) := by
  rcases h1 with ⟨-, e1⟩ | ⟨v, e1, -⟩
  · rcases h2 with ⟨-, e2⟩ | ⟨v, e2, -⟩
    · exact ⟨fun _ => Or.inl ⟨e1, e2⟩, fun q => by omega⟩
    · cases e2
  · cases e1
theorem OV.sn {R : RT} {I2 I4 : IT} {c b : Nat} {x p : Int} {o1 o2 : Option FVV} (h1 : VPO R I2 c (some b) p o1) (h2 : VPO R I4 c none p o2) (hx : x = 0) : IFF x (OQV p o1 o2) := by
  rcases h1 with ⟨e1, -⟩ | ⟨v, -, e1, -⟩
  · cases e1
  · rcases h2 with ⟨-, e2⟩ | ⟨w, e2, -⟩
    · refine ⟨fun q => by omega, fun _ q => ?_⟩
      rw [e1, e2] at q
      rcases q with ⟨q, -⟩ | ⟨v9, w9, -, q, -⟩ <;> cases q
    · cases e2
theorem OV.ns {R : RT} {I2 I4 : IT} {c b : Nat} {x p : Int} {o1 o2 : Option FVV} (h1 : VPO R I2 c none p o1) (h2 : VPO R I4 c (some b) p o2) (hx : x = 0) : IFF x (OQV p o1 o2) := by
  rcases h2 with ⟨e1, -⟩ | ⟨v, -, e1, -⟩
  · cases e1
  · rcases h1 with ⟨-, e2⟩ | ⟨w, e2, -⟩
    · refine ⟨fun q => by omega, fun _ q => ?_⟩
      rw [e1, e2] at q
      rcases q with ⟨-, q⟩ | ⟨v9, w9, q, -⟩ <;> cases q
    · cases e2
/-- the first for which it doesn't hold -/
def AGQ (Q : Nat → Prop) (n x : Int) : Prop := (x = -1 ∧ ∀ j : Nat, (j : Int) < n → Q j) ∨ (0 ≤ x ∧ x < n ∧ ¬ Q x.toNat ∧ ∀ j : Nat, (j : Int) < x → Q j)
theorem AGQ.u {Q Q' : Nat → Prop} {n x y : Int} (e : ∀ j : Nat, (j : Int) < n → (Q j ↔ Q' j)) (h : AGQ Q n x) (g : AGQ Q' n y) : x = y := by
  rcases h with ⟨h1, h2⟩ | ⟨h1, h2, h3, h4⟩
  · rcases g with ⟨g1, g2⟩ | ⟨g1, g2, g3, g4⟩
    · omega
    · exact absurd ((e _ (by omega)).mp (h2 _ (by omega))) g3
  · rcases g with ⟨g1, g2⟩ | ⟨g1, g2, g3, g4⟩
    · exact absurd ((e _ (by omega)).mpr (g2 _ (by omega))) h3
    · rcases Int.lt_trichotomy x y with c | c | c
      · exact absurd ((e _ (by omega)).mpr (g4 x.toNat (by omega))) h3
      · exact c
      · exact absurd ((e _ (by omega)).mp (h4 y.toNat (by omega))) g3
def AGP (R : RT) (I : IT) (st : Nat) (p d : Int) (ls lt : List (Int × Int)) (j : Nat) : Prop := (I (FA R st j) 0).toInt = d → OQV p (VWF ((I (FA R st j) 0).toInt, NF I (rA R (FA R st j) 1)) ls) (VWF ((I (FA R st j) 0).toInt, NF I (rA R (FA R st j) 1)) lt)
def AGI (Q : Nat → Prop) (n : Int) : Prop := ∀ j : Nat, (j : Int) < n → Q j
theorem AGI.z {Q : Nat → Prop} {n : Int} (h : n = 0) : AGI Q n := fun j hj => by omega
theorem AGI.s {Q : Nat → Prop} {k k' : Int32} (h : AGI Q k.toInt) (q : Q k.toNatClampNeg) (h0 : 0 ≤ k.toInt) (e : k'.toInt = k.toInt + 1) : AGI Q k'.toInt := fun j hj => by
  have n0 := ncz h0
  by_cases z : j = k.toNatClampNeg
  · subst z; exact q
  · exact h j (by omega)
theorem AGQ.n {Q : Nat → Prop} {k n x : Int} (h : AGI Q k) (hk : n ≤ k) (hx : x = -1) : AGQ Q n x := Or.inl ⟨hx, fun j hj => h j (by omega)⟩
theorem AGQ.y {Q : Nat → Prop} {k : Int32} {n x : Int} (h : AGI Q k.toInt) (q : ¬ Q k.toNatClampNeg) (h0 : 0 ≤ k.toInt) (hn : k.toInt < n) (hx : x = k.toInt) : AGQ Q n x := Or.inr ⟨by omega, by omega, by
  have n0 := ncz h0
  rw [show x.toNat = k.toNatClampNeg from by omega]; exact q, fun j hj => h j (by omega)⟩
theorem WCX.sg {T N : Nat → Nat} {R : RT} {A B : Nat → Prop} {c wk wb s : Nat} {I I' : IT} (hU : UPR T R) (hG : GK T R c) (tw : T wk = 3) (rw9 : R wk 1 = some wb) (tb : T wb = 20) (hs : hs_Sg T N R A B s) (k9 : ∀ a, ¬ (CSX R c a ∨ a = wk ∨ a = wb) → I' a = I a) : STL R I' s = STL R I s ∧ I' s = I s := by
  obtain ⟨ts, -, ⟨a, ra, ta, -, -⟩, ⟨b, rb, tb9, -, -⟩⟩ := hs
  have na := CSX.na hU hG ta ra (by omega)
  have nb := CSX.na hU hG tb9 rb (by omega)
  have ns := CSX.nt (a := s) hG (by omega) (by omega) (by omega)
  have wa : a ≠ wb := hU.ne (Or.inr (Or.inr (Or.inr (by omega)))) ra rw9 (Or.inl (fun e => by rw [e] at ts; omega))
  have w2 : b ≠ wb := hU.ne (Or.inr (Or.inr (Or.inr (by omega)))) rb rw9 (Or.inl (fun e => by rw [e] at ts; omega))
  have es : I' s = I s := k9 s (fun q => q.elim ns (fun q => q.elim (fun e => by rw [e] at ts; omega) (fun e => by rw [e] at ts; omega)))
  have ea : I' a = I a := k9 a (fun q => q.elim na (fun q => q.elim (fun e => by rw [e] at ta; omega) wa))
  have eb : I' b = I b := k9 b (fun q => q.elim nb (fun q => q.elim (fun e => by rw [e] at tb9; omega) w2))
  exact ⟨STL.fr (rA_e ra) (rA_e rb) (congrFun es 2) ea eb, es⟩
theorem WCX.fo {T : Nat → Nat} {R : RT} {c wk wb f : Nat} {I I' : IT} (hn : (¬ CSX R c f) ∧ ¬ CSX R c (rA R f 1)) (hf : FO T R f) (tw : T wk = 3) (tb : T wb = 20) (n1 : f ≠ wk) (n2 : rA R f 1 ≠ wb) (k9 : ∀ a, ¬ (CSX R c a ∨ a = wk ∨ a = wb) → I' a = I a) : I' f = I f ∧ I' (rA R f 1) = I (rA R f 1) := ⟨k9 f (fun q => q.elim hn.1 (fun q => q.elim n1 (fun e => by have := hf.1; rw [e] at this; omega))), k9 _ (fun q => q.elim hn.2 (fun q => q.elim (fun e => by have := hf.2.2; rw [e] at this; omega) n2))⟩
theorem AGP.of {R : RT} {I I' : IT} {st f fb j : Nat} {p d x D : Int} {ls lt : List (Int × Int)} (o : FA R st j = f) (z : rA R f 1 = fb) (h : IFF x (OQV p (VWF (D, NF I' fb) ls) (VWF (D, NF I' fb) lt))) (hD : (I' f 0).toInt = D) (e1 : I' f = I f) (e2 : I' (rA R f 1) = I (rA R f 1)) : (x = 1 → AGP R I st p d ls lt j) ∧ (x = 0 → D = d → ¬ AGP R I st p d ls lt j) := by
  subst z; subst hD
  have f1 : NF I' (rA R f 1) = NF I (rA R f 1) := by unfold NF; rw [e2]
  rw [e1, f1] at h
  unfold AGP
  rw [o, e1]
  exact ⟨fun q _ => h.1 q, fun q hd z => h.2 q (z hd)⟩
theorem AGP.no {R : RT} {I I' : IT} {st f j : Nat} {p d : Int} {ls lt : List (Int × Int)} (o : FA R st j = f) (e1 : I' f = I f) (hd : (I' f 0).toInt ≠ d) : AGP R I st p d ls lt j := fun q => by
  rw [o, ← e1] at q
  exact absurd q hd
