/-! stays: exactly -/
/-- stays: all that it changes -/
def STX (R : RT) (c al wk mw a : Nat) : Prop := CSX R c a ∨ SL [rA R c 2, wk, rA R wk 1, mw, rA R mw 1, rA R al 2, rA R (rA R al 2) 1] a
theorem STX.t {R : RT} {c al wk mw t2 a : Nat} (z : rA R c 2 = t2) (h : SL [c, t2] a) : STX R c al wk mw a := by
  simp only [SL, List.mem_cons, List.not_mem_nil, or_false] at h
  rcases h with h | h
  · exact Or.inl (Or.inl h)
  · refine Or.inr ?_
    simp only [SL, List.mem_cons, List.not_mem_nil, or_false]
    exact Or.inl (h.trans z.symm)
theorem STX.w {R : RT} {c al wk mw wb rg rb a : Nat} (z : rA R wk 1 = wb) (z2 : rA R al 2 = rg) (z3 : rA R rg 1 = rb) (h : SL [wk, wb, rg, rb] a) : STX R c al wk mw a := by
  subst z; subst z2; subst z3
  simp only [SL, List.mem_cons, List.not_mem_nil, or_false] at h
  refine Or.inr ?_
  simp only [SL, List.mem_cons, List.not_mem_nil, or_false]
  rcases h with h | h | h | h
  · exact Or.inr (Or.inl h)
  · exact Or.inr (Or.inr (Or.inl h))
  · exact Or.inr (Or.inr (Or.inr (Or.inr (Or.inr (Or.inl h)))))
  · exact Or.inr (Or.inr (Or.inr (Or.inr (Or.inr (Or.inr h)))))
theorem STX.m {R : RT} {c al wk mw mb rg rb a : Nat} (z : rA R mw 1 = mb) (z2 : rA R al 2 = rg) (z3 : rA R rg 1 = rb) (h : SL [mw, mb, rg, rb] a) : STX R c al wk mw a := by
  subst z; subst z2; subst z3
  simp only [SL, List.mem_cons, List.not_mem_nil, or_false] at h
  refine Or.inr ?_
  simp only [SL, List.mem_cons, List.not_mem_nil, or_false]
  rcases h with h | h | h | h
  · exact Or.inr (Or.inr (Or.inr (Or.inl h)))
  · exact Or.inr (Or.inr (Or.inr (Or.inr (Or.inl h))))
  · exact Or.inr (Or.inr (Or.inr (Or.inr (Or.inr (Or.inl h)))))
  · exact Or.inr (Or.inr (Or.inr (Or.inr (Or.inr (Or.inr h)))))
theorem STX.s {R : RT} {c al wk mw wb a : Nat} (z : rA R wk 1 = wb) (h : SL [wb] a) : STX R c al wk mw a := by
  subst z
  simp only [SL, List.mem_cons, List.not_mem_nil, or_false] at h
  refine Or.inr ?_
  simp only [SL, List.mem_cons, List.not_mem_nil, or_false]
  exact Or.inr (Or.inr (Or.inl h))
theorem STX.nt {T : Nat → Nat} {R : RT} {c al wk mw a : Nat} (hG : GK T R c) (t2 : T (rA R c 2) = 20) (fw : FO T R wk) (fm : FO T R mw) (fr : FO T R (rA R al 2)) (h2 : T a ≠ 2) (h3 : T a ≠ 3) (h20 : T a ≠ 20) : ¬ STX R c al wk mw a := by
  rintro (e | e)
  · exact CSX.nt hG h2 h3 h20 e
  · simp only [SL, List.mem_cons, List.not_mem_nil, or_false] at e
    rcases e with e | e | e | e | e | e | e
    · rw [e] at h20; exact h20 t2
    · rw [e] at h3; exact h3 fw.1
    · rw [e] at h20; exact h20 fw.2.2
    · rw [e] at h3; exact h3 fm.1
    · rw [e] at h20; exact h20 fm.2.2
    · rw [e] at h3; exact h3 fr.1
    · rw [e] at h20; exact h20 fr.2.2
theorem STX.na {T : Nat → Nat} {R : RT} {c al wk mw a q k : Nat} (hU : UPR T R) (hG : GK T R c) (r2 : R c 2 = some (rA R c 2)) (fw : FO T R wk) (fm : FO T R mw) (fr : FO T R (rA R al 2)) (Ta : T a = 20) (Rq : R q k = some a) (Tq : T q = 8) : ¬ STX R c al wk mw a := by
  have nf : ∀ f, FO T R f → a ≠ f ∧ a ≠ rA R f 1 := fun f hf => ⟨fun e => by rw [e] at Ta; have := hf.1; omega, hU.ne (Or.inr (Or.inr (Or.inr (by omega)))) Rq hf.2.1 (Or.inl (fun e => by rw [e] at Tq; have := hf.1; omega))⟩
  rintro (e | e)
  · exact CSX.na hU hG Ta Rq (by omega) e
  · simp only [SL, List.mem_cons, List.not_mem_nil, or_false] at e
    rcases e with e | e | e | e | e | e | e
    · exact hU.ne (Or.inr (Or.inr (Or.inr (by omega)))) Rq r2 (Or.inl (fun e => by have := hG.1; rw [e] at Tq; omega)) e
    · exact (nf _ fw).1 e
    · exact (nf _ fw).2 e
    · exact (nf _ fm).1 e
    · exact (nf _ fm).2 e
    · exact (nf _ fr).1 e
    · exact (nf _ fr).2 e
theorem STX.fo {T : Nat → Nat} {R : RT} {c al wk mw f : Nat} (hn : (¬ CSX R c f) ∧ ¬ CSX R c (rA R f 1)) (hf : FO T R f) (hU : UPR T R) (hG : GK T R c) (r2 : R c 2 = some (rA R c 2)) (t2 : T (rA R c 2) = 20) (fw : FO T R wk) (fm : FO T R mw) (fr : FO T R (rA R al 2)) (nw : f ≠ wk) (nm : f ≠ mw) (nr : f ≠ rA R al 2) : (¬ STX R c al wk mw f) ∧ ¬ STX R c al wk mw (rA R f 1) := by
  have w := fone hU hf fw nw
  have m := fone hU hf fm nm
  have r := fone hU hf fr nr
  have n2 : rA R f 1 ≠ rA R c 2 := hU.ne (Or.inr (Or.inr (Or.inr (by have := hf.2.2; omega)))) hf.2.1 r2 (Or.inl (fun e => by have := hf.1; rw [e] at this; have := hG.1; omega))
  refine ⟨?_, ?_⟩
  · rintro (e | e)
    · exact hn.1 e
    · simp only [SL, List.mem_cons, List.not_mem_nil, or_false] at e
      rcases e with e | e | e | e | e | e | e
      · have := hf.1; rw [e] at this; omega
      · exact w.1 e
      · exact w.2.1 e
      · exact m.1 e
      · exact m.2.1 e
      · exact r.1 e
      · exact r.2.1 e
  · rintro (e | e)
    · exact hn.2 e
    · simp only [SL, List.mem_cons, List.not_mem_nil, or_false] at e
      rcases e with e | e | e | e | e | e | e
      · exact n2 e
      · exact w.2.2.1 e
      · exact w.2.2.2 e
      · exact m.2.2.1 e
      · exact m.2.2.2 e
      · exact r.2.2.1 e
      · exact r.2.2.2 e
theorem VPO.g {R : RT} {I : IT} {c b : Nat} {p : Int} {o : Option FVV} (h : VPO R I c (some b) p o) : ∃ v, o = some v ∧ VFR R I b p v := by
  rcases h with ⟨h, -⟩ | ⟨v, h, h2, h3⟩
  · cases h
  · cases h; exact ⟨v, h2, h3⟩
theorem VPO.cg {R : RT} {I : IT} {c : Nat} {x : Option Nat} {p : Int} {o o' : Option FVV} (h : VPO R I c x p o) (e : OQV p o o') : VPO R I c x p o' := by
  rcases e with ⟨e1, e2⟩ | ⟨v, w, e1, e2, e3⟩
  · rcases h with ⟨h, -⟩ | ⟨v, h, h2, -⟩
    · exact Or.inl ⟨h, e2⟩
    · rw [e1] at h2; cases h2
  · rcases h with ⟨h, h2⟩ | ⟨v', h, h2, h3⟩
    · rw [e1] at h2; cases h2
    · rw [e1] at h2; cases h2
      exact Or.inr ⟨w, h, e2, h3.tr e3⟩
theorem VFR.mx {R : RT} {I2 I3 : IT} {f g fb gb : Nat} {p q a b c d a' b' c' d' : Int} {v : FVV} (hv : VFR R I2 f p v) (zf : rA R f 1 = fb) (zg : rA R g 1 = gb) (h0 : (I3 g 0).toInt = (I2 f 0).toInt) (h1 : VRX I3 gb q (I2 f 0).toInt (PmX a b c d (NF I2 fb) (I2 f 0).toInt.toNat)) (ha : a = a') (hb : b = b') (hc : c = c') (hd : d = d') (hq : q = p) : VFR R I3 g p (v.1, PmX a' b' c' d' v.2 v.1.toNat) := by
  subst zf; subst zg; subst hq; subst ha; subst hb; subst hc; subst hd
  have e := hv.1
  rw [e] at h1
  refine ⟨h0.trans e, hv.2.1, hv.2.2.1, fun j hj => ?_⟩
  have hj : (j : Int) ≤ v.1 := hj
  have z := h1 j hj
  exact ⟨z.1, z.2.1, z.2.2.tr (PmX.e PmE.rf PmE.rf PmE.rf PmE.rf v.1.toNat (fun k hk => (hv.2.2.2 k (by have := hv.2.1; omega)).2.2) j)⟩
theorem VFR.sc {R : RT} {I3 I4 : IT} {g gb : Nat} {p q t t' D : Int} {u : FVV} (hv : VFR R I3 g p u) (zg : rA R g 1 = gb) (h1 : VRX I4 gb q D (fun m => t * NF I3 gb m)) (hD : (I3 g 0).toInt = D) (e : I4 g = I3 g) (ht : PmE p t t') (hq : q = p) : VFR R I4 g p (u.1, fun m => t' * u.2 m) := by
  subst zg; subst hq
  have e1 := hv.1
  rw [← hD, e1] at h1
  refine ⟨by rw [e]; exact e1, hv.2.1, hv.2.2.1, fun j hj => ?_⟩
  have hj : (j : Int) ≤ u.1 := hj
  have z := h1 j hj
  exact ⟨z.1, z.2.1, z.2.2.tr (ht.ml (hv.2.2.2 j hj).2.2)⟩
/-- a value stays, but for its weight, when the letters are mixed -/
def SYQ (p w dt9 a b c d : Int) (f : FVV) (l : List (Int × Int)) : Prop := w ≠ -1 ∧ ∃ v u, VWF f l = some v ∧ VWF (f.1, PmX a b c d f.2 f.1.toNat) l = some u ∧ FQV p u (v.1, fun m => POW dt9 w.toNat * PmX a b c d v.2 v.1.toNat m)
theorem SYQ.n0 {p w dt9 a b c d x : Int} {f : FVV} {l : List (Int × Int)} (hw : w = -1) (hx : x = 0) : IFF x (SYQ p w dt9 a b c d f l) := ⟨fun q => by omega, fun _ q => q.1 hw⟩
theorem SYQ.n1 {R : RT} {I : IT} {c9 : Nat} {p w dt9 a b c d x : Int} {f : FVV} {l : List (Int × Int)} (h : VPO R I c9 none p (VWF f l)) (hx : x = 0) : IFF x (SYQ p w dt9 a b c d f l) := ⟨fun q => by omega, fun _ q => by
  obtain ⟨-, v, u, q1, -⟩ := q
  rcases h with ⟨-, e⟩ | ⟨v', e, -⟩
  · rw [q1] at e; cases e
  · cases e⟩
theorem SYQ.n2 {R : RT} {I : IT} {c9 : Nat} {p w dt9 a b c d x : Int} {f : FVV} {l : List (Int × Int)} (h : VPO R I c9 none p (VWF (f.1, PmX a b c d f.2 f.1.toNat) l)) (hx : x = 0) : IFF x (SYQ p w dt9 a b c d f l) := ⟨fun q => by omega, fun _ q => by
  obtain ⟨-, v, u, -, q1, -⟩ := q
  rcases h with ⟨-, e⟩ | ⟨v', e, -⟩
  · rw [q1] at e; cases e
  · cases e⟩
theorem SYQ.y {R : RT} {I : IT} {c9 b9 wk : Nat} {p w dt9 a b c d x y : Int} {f v : FVV} {l : List (Int × Int)} (hw : w ≠ -1) (e : VWF f l = some v) (h : VPO R I c9 (some b9) p (VWF (f.1, PmX a b c d f.2 f.1.toNat) l)) (hk : VFR R I wk p (v.1, fun m => POW dt9 w.toNat * PmX a b c d v.2 v.1.toNat m)) (m : IFF y (FEQ R I b9 I wk)) (hx : x = 1 ∧ y = 1 ∨ x = 0 ∧ y = 0) : IFF x (SYQ p w dt9 a b c d f l) := by
  obtain ⟨u, h2, h3⟩ := h.g
  have fe := VFR.fe h3 hk
  rcases hx with ⟨x1, y1⟩ | ⟨x0, y0⟩
  · exact ⟨fun _ => ⟨hw, v, u, e, h2, fe.mp (m.1 y1)⟩, fun q => by omega⟩
  · refine ⟨fun q => by omega, fun _ q => m.2 y0 (fe.mpr ?_)⟩
    obtain ⟨-, v', u', q1, q2, q3⟩ := q
    rw [e] at q1; cases q1
    rw [h2] at q2; cases q2
    exact q3
theorem s_X11_stays_x {d : Nat} {T N : Nat → Nat} {I : IT} {L : LT} {R : RT} {A B : Nat → Prop} {r0 : Nat} {n1 n2 n3 : Int32} (hS : SUB B A) (hI : IX A T I) (H_r0 : (hs_LF T N R A B) r0) (hU : UPR T R) (hp0 : rA R (rA R r0 5) 0 = (rA R r0 1)) (hp1 : rA R (rA R (rA R r0 6) 0) 0 = (rA R r0 1)) (hp2 : ∀ j : Nat, (j : Int) < (I (rA R r0 1) 1).toInt → BNX I (rA R (FA R (rA R r0 1) j) 1) (I (FA R (rA R r0 1) j) 0).toInt (I (rA R r0 1) 0).toInt) (hp3 : ∀ j : Nat, j < 8 → (j : Int) < (I (rA R r0 1) 3).toInt → (0 ≤ (I (SA R (rA R r0 1) j) 2).toInt ∧ (I (SA R (rA R r0 1) j) 2).toInt ≤ 160) ∧ HOV (STL R I (SA R (rA R r0 1) j)) 0) (hp4 : ∀ j : Nat, j < 8 → (j : Int) < (I (rA R r0 1) 3).toInt → (0 ≤ (I (SA R (rA R r0 1) j) 2).toInt ∧ (I (SA R (rA R r0 1) j) 2).toInt ≤ 160) ∧ SZL (STL R I (SA R (rA R r0 1) j))) (hp5 : ∀ j : Nat, (j : Int) < (I (rA R r0 1) 2).toInt → ∀ k : Nat, k < 4 → 0 ≤ (I (TA R (rA R r0 1) j) k).toInt ∧ (I (TA R (rA R r0 1) j) k).toInt < (I (rA R r0 1) 0).toInt) : Ex (d + 7) 148 [.ref r0, .int n1, .int n2, .int n3] (T, N, I, L, R) 3 18 (pW2 [3] T N R (pI T N R (fun x9 I9 L9 => (0 ≤ x9.toInt) ∧ (x9.toInt ≤ 1) ∧ (¬ ((n1.toInt < 0 ∨ (I (rA R r0 1) 3).toInt ≤ n1.toInt ∨ 8 ≤ n1.toInt) ∨ (n2.toInt < 0 ∨ (I (rA R r0 1) 1).toInt ≤ n2.toInt ∨ 16 ≤ n2.toInt) ∨ (n3.toInt < 0 ∨ (I (rA R r0 1) 2).toInt ≤ n3.toInt ∨ 8 ≤ n3.toInt))) ∧ (IFF x9.toInt (SYQ (I (rA R r0 1) 0).toInt (RKC (TCL 1 (STL R I (SA R (rA R r0 1) n1.toNatClampNeg)) (0, fun _ => 0))) (dt (I (rA R r0 1) 0).toInt (I (TA R (rA R r0 1) n3.toNatClampNeg) 0).toInt (I (TA R (rA R r0 1) n3.toNatClampNeg) 1).toInt (I (TA R (rA R r0 1) n3.toNatClampNeg) 2).toInt (I (TA R (rA R r0 1) n3.toNatClampNeg) 3).toInt) (I (TA R (rA R r0 1) n3.toNatClampNeg) 0).toInt (I (TA R (rA R r0 1) n3.toNatClampNeg) 1).toInt (I (TA R (rA R r0 1) n3.toNatClampNeg) 2).toInt (I (TA R (rA R r0 1) n3.toNatClampNeg) 3).toInt ((I (FA R (rA R r0 1) n2.toNatClampNeg) 0).toInt, NF I (rA R (FA R (rA R r0 1) n2.toNatClampNeg) 1)) (STL R I (SA R (rA R r0 1) n1.toNatClampNeg)))) ∧ (IX A T I9 ∧ Chg B T [(2, 5), (3, 0)] I L I9 L9))) (fun e9 I9 L9 => (IX A T I9 ∧ Chg B T [(2, 5), (3, 0)] I L I9 L9) ∧ (e9 = 3 → (n1.toInt < 0 ∨ (I (rA R r0 1) 3).toInt ≤ n1.toInt ∨ 8 ≤ n1.toInt) ∨ (n2.toInt < 0 ∨ (I (rA R r0 1) 1).toInt ≤ n2.toInt ∨ 16 ≤ n2.toInt) ∨ (n3.toInt < 0 ∨ (I (rA R r0 1) 2).toInt ≤ n3.toInt ∨ 8 ≤ n3.toInt)))) := by
  refine ⟨_, rfl, Nat.le_of_ble_eq_true rfl, fun V C S => ?_⟩
  show V 0 [(0, .ref r0), (1, .int n1), (2, .int n2), (3, .int n3)] [] (T, N, I, L, R) 0 0
  have gn1 := rg n1
  have gn2 := rg n2
  have gn3 := rg n3
  obtain ⟨T_r0, A_r0, B_r0, ⟨r0_0, R_r0_0, H_r0_0⟩, ⟨r0_1, R_r0_1, H_r0_1⟩, ⟨r0_2, R_r0_2, H_r0_2⟩, ⟨r0_5, R_r0_5, H_r0_5⟩, ⟨r0_6, R_r0_6, H_r0_6⟩, ⟨r0_7, R_r0_7, H_r0_7⟩, ⟨r0_8, R_r0_8, H_r0_8⟩, ⟨r0_9, R_r0_9, H_r0_9⟩, ⟨r0_10, R_r0_10, H_r0_10⟩, ⟨r0_11, R_r0_11, H_r0_11⟩, ⟨r0_12, R_r0_12, H_r0_12⟩, ⟨r0_13, R_r0_13, H_r0_13⟩⟩ := id H_r0
  have z_r0_0 : rA R r0 0 = r0_0 := rA_e R_r0_0
  have z_r0_1 : rA R r0 1 = r0_1 := rA_e R_r0_1
  have z_r0_2 : rA R r0 2 = r0_2 := rA_e R_r0_2
  have z_r0_5 : rA R r0 5 = r0_5 := rA_e R_r0_5
  have z_r0_6 : rA R r0 6 = r0_6 := rA_e R_r0_6
  have z_r0_7 : rA R r0 7 = r0_7 := rA_e R_r0_7
  have z_r0_8 : rA R r0 8 = r0_8 := rA_e R_r0_8
  have z_r0_9 : rA R r0 9 = r0_9 := rA_e R_r0_9
  have z_r0_10 : rA R r0 10 = r0_10 := rA_e R_r0_10
  have z_r0_11 : rA R r0 11 = r0_11 := rA_e R_r0_11
  have z_r0_12 : rA R r0 12 = r0_12 := rA_e R_r0_12
  have z_r0_13 : rA R r0 13 = r0_13 := rA_e R_r0_13
  obtain ⟨T_r0_1, A_r0_1, B_r0_1, ⟨r0_1_6, R_r0_1_6, H_r0_1_6⟩, ⟨r0_1_7, R_r0_1_7, H_r0_1_7⟩, ⟨r0_1_8, R_r0_1_8, H_r0_1_8⟩, ⟨r0_1_9, R_r0_1_9, H_r0_1_9⟩, ⟨r0_1_10, R_r0_1_10, H_r0_1_10⟩⟩ := id H_r0_1
  have z_r0_1_6 : rA R r0_1 6 = r0_1_6 := rA_e R_r0_1_6
  have z_r0_1_7 : rA R r0_1 7 = r0_1_7 := rA_e R_r0_1_7
  have z_r0_1_8 : rA R r0_1 8 = r0_1_8 := rA_e R_r0_1_8
  have z_r0_1_9 : rA R r0_1 9 = r0_1_9 := rA_e R_r0_1_9
  have z_r0_1_10 : rA R r0_1 10 = r0_1_10 := rA_e R_r0_1_10
  obtain ⟨T_r0_1_8, N_r0_1_8, A_r0_1_8, E_r0_1_8⟩ := id H_r0_1_8
  obtain ⟨T_r0_1_9, N_r0_1_9, A_r0_1_9, E_r0_1_9⟩ := id H_r0_1_9
  obtain ⟨T_r0_1_10, N_r0_1_10, A_r0_1_10, E_r0_1_10⟩ := id H_r0_1_10
  obtain ⟨T_r0_5, A_r0_5, B_r0_5, ⟨r0_5_0, R_r0_5_0, H_r0_5_0⟩, ⟨r0_5_1, R_r0_5_1, H_r0_5_1⟩, ⟨r0_5_2, R_r0_5_2, H_r0_5_2⟩⟩ := id H_r0_5
  have z_r0_5_0 : rA R r0_5 0 = r0_5_0 := rA_e R_r0_5_0
  have z_r0_5_1 : rA R r0_5 1 = r0_5_1 := rA_e R_r0_5_1
  have z_r0_5_2 : rA R r0_5 2 = r0_5_2 := rA_e R_r0_5_2
  obtain ⟨T_r0_5_0, A_r0_5_0, B_r0_5_0, ⟨r0_5_0_6, R_r0_5_0_6, H_r0_5_0_6⟩, ⟨r0_5_0_7, R_r0_5_0_7, H_r0_5_0_7⟩, ⟨r0_5_0_8, R_r0_5_0_8, H_r0_5_0_8⟩, ⟨r0_5_0_9, R_r0_5_0_9, H_r0_5_0_9⟩, ⟨r0_5_0_10, R_r0_5_0_10, H_r0_5_0_10⟩⟩ := id H_r0_5_0
  have z_r0_5_0_6 : rA R r0_5_0 6 = r0_5_0_6 := rA_e R_r0_5_0_6
  have z_r0_5_0_7 : rA R r0_5_0 7 = r0_5_0_7 := rA_e R_r0_5_0_7
  have z_r0_5_0_8 : rA R r0_5_0 8 = r0_5_0_8 := rA_e R_r0_5_0_8
  have z_r0_5_0_9 : rA R r0_5_0 9 = r0_5_0_9 := rA_e R_r0_5_0_9
  have z_r0_5_0_10 : rA R r0_5_0 10 = r0_5_0_10 := rA_e R_r0_5_0_10
  obtain ⟨T_r0_5_2, A_r0_5_2, B_r0_5_2, ⟨r0_5_2_1, R_r0_5_2_1, H_r0_5_2_1⟩⟩ := id H_r0_5_2
  have z_r0_5_2_1 : rA R r0_5_2 1 = r0_5_2_1 := rA_e R_r0_5_2_1
  obtain ⟨T_r0_5_2_1, N_r0_5_2_1, A_r0_5_2_1⟩ := id H_r0_5_2_1
  obtain ⟨T_r0_6, A_r0_6, B_r0_6, ⟨r0_6_0, R_r0_6_0, H_r0_6_0⟩, ⟨r0_6_1, R_r0_6_1, H_r0_6_1⟩, ⟨r0_6_2, R_r0_6_2, H_r0_6_2⟩, ⟨r0_6_3, R_r0_6_3, H_r0_6_3⟩, ⟨r0_6_4, R_r0_6_4, H_r0_6_4⟩⟩ := id H_r0_6
  have z_r0_6_0 : rA R r0_6 0 = r0_6_0 := rA_e R_r0_6_0
  have z_r0_6_1 : rA R r0_6 1 = r0_6_1 := rA_e R_r0_6_1
  have z_r0_6_2 : rA R r0_6 2 = r0_6_2 := rA_e R_r0_6_2
  have z_r0_6_3 : rA R r0_6 3 = r0_6_3 := rA_e R_r0_6_3
  have z_r0_6_4 : rA R r0_6 4 = r0_6_4 := rA_e R_r0_6_4
  obtain ⟨T_r0_6_2, N_r0_6_2, A_r0_6_2⟩ := id H_r0_6_2
  obtain ⟨T_r0_11, A_r0_11, B_r0_11, ⟨r0_11_1, R_r0_11_1, H_r0_11_1⟩⟩ := id H_r0_11
  have z_r0_11_1 : rA R r0_11 1 = r0_11_1 := rA_e R_r0_11_1
  obtain ⟨T_r0_11_1, N_r0_11_1, A_r0_11_1⟩ := id H_r0_11_1
  obtain ⟨T_r0_12, A_r0_12, B_r0_12, ⟨r0_12_1, R_r0_12_1, H_r0_12_1⟩⟩ := id H_r0_12
  have z_r0_12_1 : rA R r0_12 1 = r0_12_1 := rA_e R_r0_12_1
  obtain ⟨T_r0_12_1, N_r0_12_1, A_r0_12_1⟩ := id H_r0_12_1
  have hG := GS.of H_r0_1
  have hg := GG.of H_r0_1
  have gK := GK.of hS H_r0_6
  try simp only [z_r0_0, z_r0_1, z_r0_2, z_r0_5, z_r0_6, z_r0_7, z_r0_8, z_r0_9, z_r0_10, z_r0_11, z_r0_12, z_r0_13, z_r0_1_6, z_r0_1_7, z_r0_1_8, z_r0_1_9, z_r0_1_10, z_r0_5_0, z_r0_5_1, z_r0_5_2, z_r0_5_0_6, z_r0_5_0_7, z_r0_5_0_8, z_r0_5_0_9, z_r0_5_0_10, z_r0_5_2_1, z_r0_6_0, z_r0_6_1, z_r0_6_2, z_r0_6_3, z_r0_6_4, z_r0_11_1, z_r0_12_1] at hp0
  try simp only [z_r0_0, z_r0_1, z_r0_2, z_r0_5, z_r0_6, z_r0_7, z_r0_8, z_r0_9, z_r0_10, z_r0_11, z_r0_12, z_r0_13, z_r0_1_6, z_r0_1_7, z_r0_1_8, z_r0_1_9, z_r0_1_10, z_r0_5_0, z_r0_5_1, z_r0_5_2, z_r0_5_0_6, z_r0_5_0_7, z_r0_5_0_8, z_r0_5_0_9, z_r0_5_0_10, z_r0_5_2_1, z_r0_6_0, z_r0_6_1, z_r0_6_2, z_r0_6_3, z_r0_6_4, z_r0_11_1, z_r0_12_1] at hp1
  try simp only [z_r0_0, z_r0_1, z_r0_2, z_r0_5, z_r0_6, z_r0_7, z_r0_8, z_r0_9, z_r0_10, z_r0_11, z_r0_12, z_r0_13, z_r0_1_6, z_r0_1_7, z_r0_1_8, z_r0_1_9, z_r0_1_10, z_r0_5_0, z_r0_5_1, z_r0_5_2, z_r0_5_0_6, z_r0_5_0_7, z_r0_5_0_8, z_r0_5_0_9, z_r0_5_0_10, z_r0_5_2_1, z_r0_6_0, z_r0_6_1, z_r0_6_2, z_r0_6_3, z_r0_6_4, z_r0_11_1, z_r0_12_1] at hp2
  try simp only [z_r0_0, z_r0_1, z_r0_2, z_r0_5, z_r0_6, z_r0_7, z_r0_8, z_r0_9, z_r0_10, z_r0_11, z_r0_12, z_r0_13, z_r0_1_6, z_r0_1_7, z_r0_1_8, z_r0_1_9, z_r0_1_10, z_r0_5_0, z_r0_5_1, z_r0_5_2, z_r0_5_0_6, z_r0_5_0_7, z_r0_5_0_8, z_r0_5_0_9, z_r0_5_0_10, z_r0_5_2_1, z_r0_6_0, z_r0_6_1, z_r0_6_2, z_r0_6_3, z_r0_6_4, z_r0_11_1, z_r0_12_1] at hp3
  try simp only [z_r0_0, z_r0_1, z_r0_2, z_r0_5, z_r0_6, z_r0_7, z_r0_8, z_r0_9, z_r0_10, z_r0_11, z_r0_12, z_r0_13, z_r0_1_6, z_r0_1_7, z_r0_1_8, z_r0_1_9, z_r0_1_10, z_r0_5_0, z_r0_5_1, z_r0_5_2, z_r0_5_0_6, z_r0_5_0_7, z_r0_5_0_8, z_r0_5_0_9, z_r0_5_0_10, z_r0_5_2_1, z_r0_6_0, z_r0_6_1, z_r0_6_2, z_r0_6_3, z_r0_6_4, z_r0_11_1, z_r0_12_1] at hp4
  try simp only [z_r0_0, z_r0_1, z_r0_2, z_r0_5, z_r0_6, z_r0_7, z_r0_8, z_r0_9, z_r0_10, z_r0_11, z_r0_12, z_r0_13, z_r0_1_6, z_r0_1_7, z_r0_1_8, z_r0_1_9, z_r0_1_10, z_r0_5_0, z_r0_5_1, z_r0_5_2, z_r0_5_0_6, z_r0_5_0_7, z_r0_5_0_8, z_r0_5_0_9, z_r0_5_0_10, z_r0_5_2_1, z_r0_6_0, z_r0_6_1, z_r0_6_2, z_r0_6_3, z_r0_6_4, z_r0_11_1, z_r0_12_1] at hp5
  obtain ⟨w_r0_1_0, k0_r0_1_0⟩ : ∃ x, I r0_1 0 = x := ⟨_, rfl⟩
  have gw_r0_1_0 := rg w_r0_1_0
  have ow_r0_1_0 := IX.p hI A_r0_1 T_r0_1 k0_r0_1_0
  try simp only [k0_r0_1_0] at hp0
  try simp only [k0_r0_1_0] at hp1
  try simp only [k0_r0_1_0] at hp2
  try simp only [k0_r0_1_0] at hp3
  try simp only [k0_r0_1_0] at hp4
  try simp only [k0_r0_1_0] at hp5
  have fW := FO.of (hs_GF hS H_r0_11)
  have fM := FO.of (hs_GF hS H_r0_12)
  have fR : FO T R (rA R r0_5 2) := (by rw [z_r0_5_2]; exact FO.of (hs_GF hS H_r0_5_2))
  have q12 : T r0 = 12 := T_r0
  have nW := CSX.fo hU gK fW R_r0_11 (fun e => by have z9 := gK.2.1.2; rw [← e] at z9; omega) (by omega) (by omega)
  have nM := CSX.fo hU gK fM R_r0_12 (fun e => by have z9 := gK.2.1.2; rw [← e] at z9; omega) (by omega) (by omega)
  have rc2 : R r0_6 2 = some (rA R r0_6 2) := (by rw [z_r0_6_2]; exact R_r0_6_2)
  have tc2 : T (rA R r0_6 2) = 20 := (by rw [z_r0_6_2]; exact T_r0_6_2)
  have mWM : r0_11 ≠ r0_12 := hU.ne (Or.inl T_r0_11) R_r0_11 R_r0_12 (Or.inr (by decide))
  have mWR : r0_11 ≠ r0_5_2 := hU.ne (Or.inl T_r0_11) R_r0_11 R_r0_5_2 (Or.inl (t_nq T_r0 T_r0_5 (by decide)))
  have mMR : r0_12 ≠ r0_5_2 := hU.ne (Or.inl T_r0_12) R_r0_12 R_r0_5_2 (Or.inl (t_nq T_r0 T_r0_5 (by decide)))
  have nst : ¬ STX R r0_6 r0_5 r0_11 r0_12 r0_1 := STX.nt gK tc2 fW fM fR (by omega) (by omega) (by omega)
  refine k_aload_n C rfl rfl rfl ?_
  refine k_iload_n C rfl rfl rfl ?_
  refine w2_VR C (s_X11_toldSigns_x hS hI H_r0) rfl rfl rfl rfl rfl ⟨_, rfl, rfl, T_r0, Nat.le_of_ble_eq_true rfl⟩ rfl rfl (Nat.le_of_ble_eq_true rfl) (Nat.le_of_ble_eq_true rfl) (Nat.le_of_ble_eq_true rfl) (by decide) (fun e9 he I9 L9 hq => by obtain ⟨⟨rfl, rfl⟩, hq⟩ := hq; exact Or.inl ⟨rfl, Or.inr ⟨e9, _, _, (by decide : ∀ z ∈ [3], z ∈ [3]) e9 he, rfl, rfl, ⟨⟨hI, Chg.rf⟩, (fun h9 => by subst h9; first | exact absurd he (by decide) | (have hx := hq rfl; exact Or.inl hx))⟩⟩⟩) ?_
  rintro yy1 _ _ ⟨hyy1, p0yy1, p1yy1, rfl, rfl⟩
  obtain ⟨rr2, err2, H_rr2⟩ := hyy1
  subst err2
  try simp only [z_r0_0, z_r0_1, z_r0_2, z_r0_5, z_r0_6, z_r0_7, z_r0_8, z_r0_9, z_r0_10, z_r0_11, z_r0_12, z_r0_13, z_r0_1_6, z_r0_1_7, z_r0_1_8, z_r0_1_9, z_r0_1_10, z_r0_5_0, z_r0_5_1, z_r0_5_2, z_r0_5_0_6, z_r0_5_0_7, z_r0_5_0_8, z_r0_5_0_9, z_r0_5_0_10, z_r0_5_2_1, z_r0_6_0, z_r0_6_1, z_r0_6_2, z_r0_6_3, z_r0_6_4, z_r0_11_1, z_r0_12_1] at p0yy1
  try simp only [z_r0_0, z_r0_1, z_r0_2, z_r0_5, z_r0_6, z_r0_7, z_r0_8, z_r0_9, z_r0_10, z_r0_11, z_r0_12, z_r0_13, z_r0_1_6, z_r0_1_7, z_r0_1_8, z_r0_1_9, z_r0_1_10, z_r0_5_0, z_r0_5_1, z_r0_5_2, z_r0_5_0_6, z_r0_5_0_7, z_r0_5_0_8, z_r0_5_0_9, z_r0_5_0_10, z_r0_5_2_1, z_r0_6_0, z_r0_6_1, z_r0_6_2, z_r0_6_3, z_r0_6_4, z_r0_11_1, z_r0_12_1] at p1yy1
  try simp only [k0_r0_1_0] at p0yy1
  try have q0yy1 := congrArg Int32.toInt p0yy1
  try simp only [k0_r0_1_0] at p1yy1
  try have q1yy1 := congrArg Int32.toInt p1yy1
  have hF := p0yy1.symm; have hF2 := p1yy1; have oF := SA_e z_r0_1_10 hF; have nF := ncn (n := 8) (j := n1) (by omega) (by omega); have nF1 := ncz (x := n1) (by omega)
  refine k_astore C (lw := [(4, .ref rr2), (0, .ref r0), (1, .int n1), (2, .int n2), (3, .int n3)]) rfl rfl (Nat.le_of_ble_eq_true rfl) rfl ?_
  refine k_aload_n C rfl rfl rfl ?_
  refine k_iload_n C rfl rfl rfl ?_
  refine w2_VR C (s_X11_toldForm_x hS hI H_r0) rfl rfl rfl rfl rfl ⟨_, rfl, rfl, T_r0, Nat.le_of_ble_eq_true rfl⟩ rfl rfl (Nat.le_of_ble_eq_true rfl) (Nat.le_of_ble_eq_true rfl) (Nat.le_of_ble_eq_true rfl) (by decide) (fun e9 he I9 L9 hq => by obtain ⟨⟨rfl, rfl⟩, hq⟩ := hq; exact Or.inl ⟨rfl, Or.inr ⟨e9, _, _, (by decide : ∀ z ∈ [3], z ∈ [3]) e9 he, rfl, rfl, ⟨⟨hI, Chg.rf⟩, (fun h9 => by subst h9; first | exact absurd he (by decide) | (have hx := hq rfl; exact Or.inr (Or.inl hx)))⟩⟩⟩) ?_
  rintro yy3 _ _ ⟨hyy3, p0yy3, p1yy3, rfl, rfl⟩
  obtain ⟨rr4, err4, H_rr4⟩ := hyy3
  subst err4
  try simp only [z_r0_0, z_r0_1, z_r0_2, z_r0_5, z_r0_6, z_r0_7, z_r0_8, z_r0_9, z_r0_10, z_r0_11, z_r0_12, z_r0_13, z_r0_1_6, z_r0_1_7, z_r0_1_8, z_r0_1_9, z_r0_1_10, z_r0_5_0, z_r0_5_1, z_r0_5_2, z_r0_5_0_6, z_r0_5_0_7, z_r0_5_0_8, z_r0_5_0_9, z_r0_5_0_10, z_r0_5_2_1, z_r0_6_0, z_r0_6_1, z_r0_6_2, z_r0_6_3, z_r0_6_4, z_r0_11_1, z_r0_12_1] at p0yy3
  try simp only [z_r0_0, z_r0_1, z_r0_2, z_r0_5, z_r0_6, z_r0_7, z_r0_8, z_r0_9, z_r0_10, z_r0_11, z_r0_12, z_r0_13, z_r0_1_6, z_r0_1_7, z_r0_1_8, z_r0_1_9, z_r0_1_10, z_r0_5_0, z_r0_5_1, z_r0_5_2, z_r0_5_0_6, z_r0_5_0_7, z_r0_5_0_8, z_r0_5_0_9, z_r0_5_0_10, z_r0_5_2_1, z_r0_6_0, z_r0_6_1, z_r0_6_2, z_r0_6_3, z_r0_6_4, z_r0_11_1, z_r0_12_1] at p1yy3
  try simp only [k0_r0_1_0] at p0yy3
  try have q0yy3 := congrArg Int32.toInt p0yy3
  try simp only [k0_r0_1_0] at p1yy3
  try have q1yy3 := congrArg Int32.toInt p1yy3
  have hG9 := p0yy3.symm; have hG2 := p1yy3; have oG := FA_e z_r0_1_8 hG9; have nG := ncn (n := 16) (j := n2) (by omega) (by omega); have nG1 := ncz (x := n2) (by omega); have fG := FO.of H_rr4; have TG := fG.1
  refine k_astore C (lw := [(5, .ref rr4), (4, .ref rr2), (0, .ref r0), (1, .int n1), (2, .int n2), (3, .int n3)]) rfl rfl (Nat.le_of_ble_eq_true rfl) rfl ?_
  refine k_aload_n C rfl rfl rfl ?_
  refine k_iload_n C rfl rfl rfl ?_
  refine w2_VR C (s_X11_toldTable_x hS hI H_r0) rfl rfl rfl rfl rfl ⟨_, rfl, rfl, T_r0, Nat.le_of_ble_eq_true rfl⟩ rfl rfl (Nat.le_of_ble_eq_true rfl) (Nat.le_of_ble_eq_true rfl) (Nat.le_of_ble_eq_true rfl) (by decide) (fun e9 he I9 L9 hq => by obtain ⟨⟨rfl, rfl⟩, hq⟩ := hq; exact Or.inl ⟨rfl, Or.inr ⟨e9, _, _, (by decide : ∀ z ∈ [3], z ∈ [3]) e9 he, rfl, rfl, ⟨⟨hI, Chg.rf⟩, (fun h9 => by subst h9; first | exact absurd he (by decide) | (have hx := hq rfl; exact Or.inr (Or.inr hx)))⟩⟩⟩) ?_
  rintro yy5 _ _ ⟨hyy5, p0yy5, p1yy5, rfl, rfl⟩
  obtain ⟨rr6, err6, H_rr6⟩ := hyy5
  subst err6
  try simp only [z_r0_0, z_r0_1, z_r0_2, z_r0_5, z_r0_6, z_r0_7, z_r0_8, z_r0_9, z_r0_10, z_r0_11, z_r0_12, z_r0_13, z_r0_1_6, z_r0_1_7, z_r0_1_8, z_r0_1_9, z_r0_1_10, z_r0_5_0, z_r0_5_1, z_r0_5_2, z_r0_5_0_6, z_r0_5_0_7, z_r0_5_0_8, z_r0_5_0_9, z_r0_5_0_10, z_r0_5_2_1, z_r0_6_0, z_r0_6_1, z_r0_6_2, z_r0_6_3, z_r0_6_4, z_r0_11_1, z_r0_12_1] at p0yy5
  try simp only [z_r0_0, z_r0_1, z_r0_2, z_r0_5, z_r0_6, z_r0_7, z_r0_8, z_r0_9, z_r0_10, z_r0_11, z_r0_12, z_r0_13, z_r0_1_6, z_r0_1_7, z_r0_1_8, z_r0_1_9, z_r0_1_10, z_r0_5_0, z_r0_5_1, z_r0_5_2, z_r0_5_0_6, z_r0_5_0_7, z_r0_5_0_8, z_r0_5_0_9, z_r0_5_0_10, z_r0_5_2_1, z_r0_6_0, z_r0_6_1, z_r0_6_2, z_r0_6_3, z_r0_6_4, z_r0_11_1, z_r0_12_1] at p1yy5
  try simp only [k0_r0_1_0] at p0yy5
  try have q0yy5 := congrArg Int32.toInt p0yy5
  try simp only [k0_r0_1_0] at p1yy5
  try have q1yy5 := congrArg Int32.toInt p1yy5
  have hT := p0yy5.symm; have hT2 := p1yy5; have oT := TA_e z_r0_1_9 hT; have nT := ncn (n := 8) (j := n3) (by omega) (by omega); have nT1 := ncz (x := n3) (by omega)
  refine k_astore C (lw := [(6, .ref rr6), (5, .ref rr4), (4, .ref rr2), (0, .ref r0), (1, .int n1), (2, .int n2), (3, .int n3)]) rfl rfl (Nat.le_of_ble_eq_true rfl) rfl ?_
  refine k_aload_n C rfl rfl rfl ?_
  refine g_R C rfl rfl rfl T_r0 rfl R_r0_6 ?_
  refine k_aload C rfl rfl rfl ?_
  refine z_iconst C (z := 1) rfl rfl rfl (fun x7 ex7 => ?_)
  have hc28 := ex7; have ts9 := H_rr2.1; have tt9 := H_rr6.1; have ns : ¬ STX R r0_6 r0_5 r0_11 r0_12 rr2 := STX.nt gK tc2 fW fM fR (by omega) (by omega) (by omega); have ntt : ¬ STX R r0_6 r0_5 r0_11 r0_12 rr6 := STX.nt gK tc2 fW fM fR (by omega) (by omega) (by omega); have nfm : rr4 ≠ r0_12 := hU.ne (Or.inl fG.1) hG9 R_r0_12 (Or.inl (t_nq T_r0_1_8 T_r0 (by decide))); have nfr : rr4 ≠ r0_5_2 := hU.ne (Or.inl fG.1) hG9 R_r0_5_2 (Or.inl (t_nq T_r0_1_8 T_r0_5 (by decide))); have cf := CSX.fa hU gK hG fG z_r0_1_8 hG9; have nf := STX.fo (al := r0_5) cf fG hU gK rc2 tc2 fW fM fR (hU.ne (Or.inl fG.1) hG9 R_r0_11 (Or.inl (t_nq T_r0_1_8 T_r0 (by decide)))) nfm (by rw [z_r0_5_2]; exact nfr); have hbf := hp2 n2.toNatClampNeg (by omega); rw [oG] at hbf; have dF := IX.deg hI H_rr4.2.1 H_rr4.1 rfl
  obtain ⟨T_rr2, A_rr2, ⟨rr2_0, R_rr2_0, H_rr2_0⟩, ⟨rr2_1, R_rr2_1, H_rr2_1⟩⟩ := id H_rr2
  have z_rr2_0 : rA R rr2 0 = rr2_0 := rA_e R_rr2_0
  have z_rr2_1 : rA R rr2 1 = rr2_1 := rA_e R_rr2_1
  refine c_VI C (s_X1_total_x hS hI H_r0_6 H_rr2 (by omega) (by omega) hU (by rw [← oF]; exact (hp3 _ nF (by omega)).1) (by rw [← oF]; exact (hp4 _ nF (by omega)).2)) rfl rfl rfl rfl rfl ⟨_, rfl, rfl, T_r0_6, Nat.le_of_ble_eq_true rfl⟩ rfl rfl (Nat.le_of_ble_eq_true rfl) (Nat.le_of_ble_eq_true rfl) (Nat.le_of_ble_eq_true rfl) ?_
  rintro x8 I9 L10 ⟨p0x8, hI9, S11⟩
  try simp only [z_r0_0, z_r0_1, z_r0_2, z_r0_5, z_r0_6, z_r0_7, z_r0_8, z_r0_9, z_r0_10, z_r0_11, z_r0_12, z_r0_13, z_r0_1_6, z_r0_1_7, z_r0_1_8, z_r0_1_9, z_r0_1_10, z_r0_5_0, z_r0_5_1, z_r0_5_2, z_r0_5_0_6, z_r0_5_0_7, z_r0_5_0_8, z_r0_5_0_9, z_r0_5_0_10, z_r0_5_2_1, z_r0_6_0, z_r0_6_1, z_r0_6_2, z_r0_6_3, z_r0_6_4, z_r0_11_1, z_r0_12_1, z_rr2_0, z_rr2_1] at S11
  have e12 := Chg.k S11 T_r0_1 (by decide) (by decide) k0_r0_1_0
  have gx8 := rg x8
  try simp only [z_r0_0, z_r0_1, z_r0_2, z_r0_5, z_r0_6, z_r0_7, z_r0_8, z_r0_9, z_r0_10, z_r0_11, z_r0_12, z_r0_13, z_r0_1_6, z_r0_1_7, z_r0_1_8, z_r0_1_9, z_r0_1_10, z_r0_5_0, z_r0_5_1, z_r0_5_2, z_r0_5_0_6, z_r0_5_0_7, z_r0_5_0_8, z_r0_5_0_9, z_r0_5_0_10, z_r0_5_2_1, z_r0_6_0, z_r0_6_1, z_r0_6_2, z_r0_6_3, z_r0_6_4, z_r0_11_1, z_r0_12_1, z_rr2_0, z_rr2_1] at p0x8
  try simp only [k0_r0_1_0] at p0x8
  try have q0x8 := congrArg Int32.toInt p0x8
  have na0 := STX.na (al := r0_5) hU gK rc2 fW fM fR H_rr2_0.1 R_rr2_0 ts9; have na1 := STX.na (al := r0_5) hU gK rc2 fW fM fR H_rr2_1.1 R_rr2_1 ts9; have hrk := p0x8; rw [hc28] at hrk; have hS28 := S11; have hX28 : ∀ a, ¬ STX R r0_6 r0_5 r0_11 r0_12 a → I9 a = I a := (fun a h => Chg.at hS28 (fun q => h (STX.t z_r0_6_2 q))); have es28 := STL.fr (rA_e R_rr2_0) (rA_e R_rr2_1) (congrFun (hX28 _ ns) 2) (hX28 _ na0) (hX28 _ na1); have ef28 := hX28 _ nf.1; have eb28 := hX28 _ nf.2; have et28 := hX28 _ ntt; have ew28 := hX28 _ nst; have en28 : NF I9 (rA R rr4 1) = NF I (rA R rr4 1) := (by unfold NF; rw [eb28])
  refine k_istore C (lw := [(7, .int x8), (6, .ref rr6), (5, .ref rr4), (4, .ref rr2), (0, .ref r0), (1, .int n1), (2, .int n2), (3, .int n3)]) rfl rfl (Nat.le_of_ble_eq_true rfl) rfl ?_
  refine k_iload C rfl rfl rfl ?_
  refine z_iconst C (z := -1) rfl rfl rfl (fun x13 ex13 => ?_)
  refine b_icmp_ne C (t := 41) rfl rfl rfl (fun c14 => ?_) (fun c14 => ?_)
  · skip
    refine k_aload_n C rfl rfl rfl ?_
    refine g_R C rfl rfl rfl T_r0 rfl R_r0_6 ?_
    refine k_aload C rfl rfl rfl ?_
    refine k_aload C rfl rfl rfl ?_
    obtain ⟨T_rr4, A_rr4, ⟨rr4_1, R_rr4_1, H_rr4_1⟩⟩ := id H_rr4
    have z_rr4_1 : rA R rr4 1 = rr4_1 := rA_e R_rr4_1
    refine c_VR C (s_X1_valueOf_x hS hI9 H_r0_6 H_rr2 H_rr4 hU (by rw [hX28 _ ns, ← oF]; exact (hp3 _ nF (by omega)).1) (by rw [es28, ← oF]; exact (hp3 _ nF (by omega)).2) cf (by rw [z_r0_6_0, hp1, ef28, ew28, k0_r0_1_0]; exact BNX.eq hbf (hX28 _ nf.2))) rfl rfl rfl rfl rfl ⟨_, rfl, rfl, T_r0_6, Nat.le_of_ble_eq_true rfl⟩ rfl rfl (Nat.le_of_ble_eq_true rfl) (Nat.le_of_ble_eq_true rfl) (Nat.le_of_ble_eq_true rfl) ?_
    rintro yy15 I16 L17 ⟨hyy15, p0yy15, hI16, S18⟩
    try simp only [z_r0_0, z_r0_1, z_r0_2, z_r0_5, z_r0_6, z_r0_7, z_r0_8, z_r0_9, z_r0_10, z_r0_11, z_r0_12, z_r0_13, z_r0_1_6, z_r0_1_7, z_r0_1_8, z_r0_1_9, z_r0_1_10, z_r0_5_0, z_r0_5_1, z_r0_5_2, z_r0_5_0_6, z_r0_5_0_7, z_r0_5_0_8, z_r0_5_0_9, z_r0_5_0_10, z_r0_5_2_1, z_r0_6_0, z_r0_6_1, z_r0_6_2, z_r0_6_3, z_r0_6_4, z_r0_11_1, z_r0_12_1, z_rr2_0, z_rr2_1, z_rr4_1] at S18
    have e19 := Chg.k S18 T_r0_1 (by decide) (by decide) e12
    try simp only [z_r0_0, z_r0_1, z_r0_2, z_r0_5, z_r0_6, z_r0_7, z_r0_8, z_r0_9, z_r0_10, z_r0_11, z_r0_12, z_r0_13, z_r0_1_6, z_r0_1_7, z_r0_1_8, z_r0_1_9, z_r0_1_10, z_r0_5_0, z_r0_5_1, z_r0_5_2, z_r0_5_0_6, z_r0_5_0_7, z_r0_5_0_8, z_r0_5_0_9, z_r0_5_0_10, z_r0_5_2_1, z_r0_6_0, z_r0_6_1, z_r0_6_2, z_r0_6_3, z_r0_6_4, z_r0_11_1, z_r0_12_1, z_rr2_0, z_rr2_1, z_rr4_1] at p0yy15
    try simp only [e12] at p0yy15
    try have q0yy15 := congrArg Int32.toInt p0yy15
    rw [z_rr4_1] at eb28 en28; have hv1 := p0yy15; (try simp only [z_r0_0, z_r0_1, z_r0_2, z_r0_5, z_r0_6, z_r0_7, z_r0_8, z_r0_9, z_r0_10, z_r0_11, z_r0_12, z_r0_13, z_r0_1_6, z_r0_1_7, z_r0_1_8, z_r0_1_9, z_r0_1_10, z_r0_5_0, z_r0_5_1, z_r0_5_2, z_r0_5_0_6, z_r0_5_0_7, z_r0_5_0_8, z_r0_5_0_9, z_r0_5_0_10, z_r0_5_2_1, z_r0_6_0, z_r0_6_1, z_r0_6_2, z_r0_6_3, z_r0_6_4, z_r0_11_1, z_r0_12_1, z_rr2_0, z_rr2_1, z_rr4_1] at hv1); rw [hp1, ew28, ef28, en28, es28, k0_r0_1_0] at hv1; have hS49 := S18; have hX49 : ∀ a, ¬ STX R r0_6 r0_5 r0_11 r0_12 a → I16 a = I a := (fun a h => (Chg.at hS49 (fun q => h (Or.inl q))).trans (hX28 a h)); have es49 := STL.fr (rA_e R_rr2_0) (rA_e R_rr2_1) (congrFun (hX49 _ ns) 2) (hX49 _ na0) (hX49 _ na1); have ef49 := hX49 _ nf.1; have eb49 := hX49 _ (by have z9 := nf.2; rw [z_rr4_1] at z9; exact z9); have et49 := hX49 _ ntt; have ew49 := hX49 _ nst; have en49 : NF I16 rr4_1 = NF I rr4_1 := (by unfold NF; rw [eb49])
    refine k_astoreV C (x := yy15) (lw := [(8, va_rf yy15), (7, .int x8), (6, .ref rr6), (5, .ref rr4), (4, .ref rr2), (0, .ref r0), (1, .int n1), (2, .int n2), (3, .int n3)]) rfl rfl (Nat.le_of_ble_eq_true rfl) rfl ?_
    refine k_aloadV C (x := yy15) rfl rfl rfl ?_
    refine k_ifnonnull C (x := yy15) (t := 61) rfl rfl rfl (fun c20 => ?_) (fun rr21 c20 => ?_)
    · skip
      subst c20
      refine z_iconst C (z := 0) rfl rfl rfl (fun x22 ex22 => ?_)
      exact k_iret C rfl (Or.inr ⟨rfl, z01 (by omega) (by omega)⟩) (Nat.le_of_ble_eq_true rfl) (Nat.le_of_ble_eq_true rfl) (Or.inl ⟨_, _, _, rfl, rfl, by omega, by omega, by (try simp only [z_r0_0, z_r0_1, z_r0_2, z_r0_5, z_r0_6, z_r0_7, z_r0_8, z_r0_9, z_r0_10, z_r0_11, z_r0_12, z_r0_13, z_r0_1_6, z_r0_1_7, z_r0_1_8, z_r0_1_9, z_r0_1_10, z_r0_5_0, z_r0_5_1, z_r0_5_2, z_r0_5_0_6, z_r0_5_0_7, z_r0_5_0_8, z_r0_5_0_9, z_r0_5_0_10, z_r0_5_2_1, z_r0_6_0, z_r0_6_1, z_r0_6_2, z_r0_6_3, z_r0_6_4, z_r0_11_1, z_r0_12_1, z_rr2_0, z_rr2_1, z_rr4_1]); omega, by (try simp only [z_r0_0, z_r0_1, z_r0_2, z_r0_5, z_r0_6, z_r0_7, z_r0_8, z_r0_9, z_r0_10, z_r0_11, z_r0_12, z_r0_13, z_r0_1_6, z_r0_1_7, z_r0_1_8, z_r0_1_9, z_r0_1_10, z_r0_5_0, z_r0_5_1, z_r0_5_2, z_r0_5_0_6, z_r0_5_0_7, z_r0_5_0_8, z_r0_5_0_9, z_r0_5_0_10, z_r0_5_2_1, z_r0_6_0, z_r0_6_1, z_r0_6_2, z_r0_6_3, z_r0_6_4, z_r0_11_1, z_r0_12_1, z_rr2_0, z_rr2_1, z_rr4_1]); rw [oF, oG, oT, z_rr4_1]; simp only [k0_r0_1_0]; exact SYQ.n1 hv1 (by omega), hI16, (Chg.cons (Chg.up S11 (sl_2 (B_r0_6) (A_r0_6_2))) (Chg.mono (Chg.up S18 (CSX.b H_r0_6)) (by decide)) (by decide))⟩)
    subst c20
    have H_rr21 := hyy15 rr21 rfl
    obtain ⟨v, hvo, hvw⟩ := VPO.g hv1; have bV := VPO.b hv1; have fV := FO.of (hs_GF hS H_rr21); have mVW : rr21 ≠ r0_11 := (fun e => nW.1 (CSX.f (j := 0) (by decide) (bV.trans e))); have mVR : rr21 ≠ r0_5_2 := hU.ne (Or.inl fV.1) (by rw [← bV]; exact (gK.2.2.1 0 (by decide)).1) R_r0_5_2 (Or.inl (fun e => by have z9 := gK.2.1.2; rw [e] at z9; omega))
    refine k_aload_n C rfl rfl rfl ?_
    refine g_R C rfl rfl rfl T_r0 rfl R_r0_5 ?_
    refine k_aload C rfl rfl rfl ?_
    refine k_aload C rfl rfl rfl ?_
    refine k_aload_n C rfl rfl rfl ?_
    refine g_R C rfl rfl rfl T_r0 rfl R_r0_11 ?_
    obtain ⟨T_rr21, A_rr21, B_rr21, ⟨rr21_1, R_rr21_1, H_rr21_1⟩⟩ := id H_rr21
    have z_rr21_1 : rA R rr21 1 = rr21_1 := rA_e R_rr21_1
    obtain ⟨T_rr6, A_rr6, B_rr6⟩ := id H_rr6
    refine c_VV C (s_X0_mixInto_x hS hI16 H_r0_5 (hs_GF hS H_rr21) H_rr6 (hs_GF hS H_r0_11) hU mVW (by rw [z_r0_5_2]; exact mWR) (by rw [z_r0_5_2]; exact mVR) (by rw [z_r0_5_0, hp0, ew49, k0_r0_1_0]; exact hvw.bn) (by rw [et49, z_r0_5_0, hp0, ew49, k0_r0_1_0, ← oT]; exact hp5 n3.toNatClampNeg (by omega))) rfl rfl rfl rfl rfl ⟨_, rfl, rfl, T_r0_5, Nat.le_of_ble_eq_true rfl⟩ rfl rfl (Nat.le_of_ble_eq_true rfl) (Nat.le_of_ble_eq_true rfl) (Nat.le_of_ble_eq_true rfl) ?_
    rintro I24 L25 ⟨p0v23, p1v23, hI24, S26⟩
    try simp only [z_r0_0, z_r0_1, z_r0_2, z_r0_5, z_r0_6, z_r0_7, z_r0_8, z_r0_9, z_r0_10, z_r0_11, z_r0_12, z_r0_13, z_r0_1_6, z_r0_1_7, z_r0_1_8, z_r0_1_9, z_r0_1_10, z_r0_5_0, z_r0_5_1, z_r0_5_2, z_r0_5_0_6, z_r0_5_0_7, z_r0_5_0_8, z_r0_5_0_9, z_r0_5_0_10, z_r0_5_2_1, z_r0_6_0, z_r0_6_1, z_r0_6_2, z_r0_6_3, z_r0_6_4, z_r0_11_1, z_r0_12_1, z_rr2_0, z_rr2_1, z_rr4_1, z_rr21_1] at S26
    have e27 := Chg.k S26 T_r0_1 (by decide) (by decide) e19
    obtain ⟨x28, e29⟩ : ∃ x, I24 r0_11 0 = x := ⟨_, rfl⟩
    have gx28 := rg x28
    have ox28 := IX.deg hI24 A_r0_11 T_r0_11 e29
    try simp only [z_r0_0, z_r0_1, z_r0_2, z_r0_5, z_r0_6, z_r0_7, z_r0_8, z_r0_9, z_r0_10, z_r0_11, z_r0_12, z_r0_13, z_r0_1_6, z_r0_1_7, z_r0_1_8, z_r0_1_9, z_r0_1_10, z_r0_5_0, z_r0_5_1, z_r0_5_2, z_r0_5_0_6, z_r0_5_0_7, z_r0_5_0_8, z_r0_5_0_9, z_r0_5_0_10, z_r0_5_2_1, z_r0_6_0, z_r0_6_1, z_r0_6_2, z_r0_6_3, z_r0_6_4, z_r0_11_1, z_r0_12_1, z_rr2_0, z_rr2_1, z_rr4_1, z_rr21_1] at p0v23
    try simp only [z_r0_0, z_r0_1, z_r0_2, z_r0_5, z_r0_6, z_r0_7, z_r0_8, z_r0_9, z_r0_10, z_r0_11, z_r0_12, z_r0_13, z_r0_1_6, z_r0_1_7, z_r0_1_8, z_r0_1_9, z_r0_1_10, z_r0_5_0, z_r0_5_1, z_r0_5_2, z_r0_5_0_6, z_r0_5_0_7, z_r0_5_0_8, z_r0_5_0_9, z_r0_5_0_10, z_r0_5_2_1, z_r0_6_0, z_r0_6_1, z_r0_6_2, z_r0_6_3, z_r0_6_4, z_r0_11_1, z_r0_12_1, z_rr2_0, z_rr2_1, z_rr4_1, z_rr21_1] at p1v23
    try simp only [e19, e29] at p0v23
    try have q0v23 := congrArg Int32.toInt p0v23
    try simp only [e19, e29] at p1v23
    try have q1v23 := congrArg Int32.toInt p1v23
    have hm0 := p0v23; (try rw [← e29] at hm0); have hm1 := p1v23; (try simp only [z_r0_0, z_r0_1, z_r0_2, z_r0_5, z_r0_6, z_r0_7, z_r0_8, z_r0_9, z_r0_10, z_r0_11, z_r0_12, z_r0_13, z_r0_1_6, z_r0_1_7, z_r0_1_8, z_r0_1_9, z_r0_1_10, z_r0_5_0, z_r0_5_1, z_r0_5_2, z_r0_5_0_6, z_r0_5_0_7, z_r0_5_0_8, z_r0_5_0_9, z_r0_5_0_10, z_r0_5_2_1, z_r0_6_0, z_r0_6_1, z_r0_6_2, z_r0_6_3, z_r0_6_4, z_r0_11_1, z_r0_12_1, z_rr2_0, z_rr2_1, z_rr4_1, z_rr21_1] at hm1); have hS73 := S26; have hX73 : ∀ a, ¬ STX R r0_6 r0_5 r0_11 r0_12 a → I24 a = I a := (fun a h => (Chg.at hS73 (fun q => h (STX.w z_r0_11_1 z_r0_5_2 z_r0_5_2_1 q))).trans (hX49 a h)); have es73 := STL.fr (rA_e R_rr2_0) (rA_e R_rr2_1) (congrFun (hX73 _ ns) 2) (hX73 _ na0) (hX73 _ na1); have ef73 := hX73 _ nf.1; have eb73 := hX73 _ (by have z9 := nf.2; rw [z_rr4_1] at z9; exact z9); have et73 := hX73 _ ntt; have ew73 := hX73 _ nst; have en73 : NF I24 rr4_1 = NF I rr4_1 := (by unfold NF; rw [eb73]); have hw73 := VFR.mx hvw z_rr21_1 z_r0_11_1 hm0 hm1 (congrArg Int32.toInt (congrFun et49 0)) (congrArg Int32.toInt (congrFun et49 1)) (congrArg Int32.toInt (congrFun et49 2)) (congrArg Int32.toInt (congrFun et49 3)) (by first | rfl | rw [hp0, ew49, k0_r0_1_0] | rw [ew49, k0_r0_1_0])
    refine k_aload_n C rfl rfl rfl ?_
    refine g_R C rfl rfl rfl T_r0 rfl R_r0_5 ?_
    refine k_aload_n C rfl rfl rfl ?_
    refine g_R C rfl rfl rfl T_r0 rfl R_r0_5 ?_
    refine k_aload C rfl rfl rfl ?_
    refine z_gI C rfl rfl rfl T_rr6 rfl (fun x30 ex30 => ?_)
    have gx30 := rg x30
    refine k_aload C rfl rfl rfl ?_
    refine z_gI C rfl rfl rfl T_rr6 rfl (fun x31 ex31 => ?_)
    have gx31 := rg x31
    refine k_aload C rfl rfl rfl ?_
    refine z_gI C rfl rfl rfl T_rr6 rfl (fun x32 ex32 => ?_)
    have gx32 := rg x32
    refine k_aload C rfl rfl rfl ?_
    refine z_gI C rfl rfl rfl T_rr6 rfl (fun x33 ex33 => ?_)
    have gx33 := rg x33
    have hta := congrArg Int32.toInt ((congrFun et73 0).symm.trans ex30); have htb := congrArg Int32.toInt ((congrFun et73 1).symm.trans ex31); have htc := congrArg Int32.toInt ((congrFun et73 2).symm.trans ex32); have htd := congrArg Int32.toInt ((congrFun et73 3).symm.trans ex33)
    refine c_VI C (s_X0_detOf_x hS hI24 H_r0_5) rfl rfl rfl rfl rfl ⟨_, rfl, rfl, T_r0_5, Nat.le_of_ble_eq_true rfl⟩ rfl rfl (Nat.le_of_ble_eq_true rfl) (Nat.le_of_ble_eq_true rfl) (Nat.le_of_ble_eq_true rfl) ?_
    rintro x34 _ _ ⟨o0x34, o1x34, p0x34, rfl, rfl⟩
    have gx34 := rg x34
    try simp only [z_r0_0, z_r0_1, z_r0_2, z_r0_5, z_r0_6, z_r0_7, z_r0_8, z_r0_9, z_r0_10, z_r0_11, z_r0_12, z_r0_13, z_r0_1_6, z_r0_1_7, z_r0_1_8, z_r0_1_9, z_r0_1_10, z_r0_5_0, z_r0_5_1, z_r0_5_2, z_r0_5_0_6, z_r0_5_0_7, z_r0_5_0_8, z_r0_5_0_9, z_r0_5_0_10, z_r0_5_2_1, z_r0_6_0, z_r0_6_1, z_r0_6_2, z_r0_6_3, z_r0_6_4, z_r0_11_1, z_r0_12_1, z_rr2_0, z_rr2_1, z_rr4_1, z_rr21_1] at p0x34
    try simp only [e27, e29, ex30, ex31, ex32, ex33] at p0x34
    try have q0x34 := congrArg Int32.toInt p0x34
    have hdt := p0x34; rw [← hta, ← htb, ← htc, ← htd] at hdt; (try simp only [z_r0_0, z_r0_1, z_r0_2, z_r0_5, z_r0_6, z_r0_7, z_r0_8, z_r0_9, z_r0_10, z_r0_11, z_r0_12, z_r0_13, z_r0_1_6, z_r0_1_7, z_r0_1_8, z_r0_1_9, z_r0_1_10, z_r0_5_0, z_r0_5_1, z_r0_5_2, z_r0_5_0_6, z_r0_5_0_7, z_r0_5_0_8, z_r0_5_0_9, z_r0_5_0_10, z_r0_5_2_1, z_r0_6_0, z_r0_6_1, z_r0_6_2, z_r0_6_3, z_r0_6_4, z_r0_11_1, z_r0_12_1, z_rr2_0, z_rr2_1, z_rr4_1, z_rr21_1] at hdt); (try rw [hp0] at hdt); (try rw [ew73, k0_r0_1_0] at hdt)
    refine k_iload C rfl rfl rfl ?_
    refine c_VI C (s_X0_power_x hS hI24 H_r0_5 (by omega) (by omega)) rfl rfl rfl rfl rfl ⟨_, rfl, rfl, T_r0_5, Nat.le_of_ble_eq_true rfl⟩ rfl rfl (Nat.le_of_ble_eq_true rfl) (Nat.le_of_ble_eq_true rfl) (Nat.le_of_ble_eq_true rfl) ?_
    rintro x35 _ _ ⟨o0x35, o1x35, p0x35, p1x35, rfl, rfl⟩
    have gx35 := rg x35
    try simp only [z_r0_0, z_r0_1, z_r0_2, z_r0_5, z_r0_6, z_r0_7, z_r0_8, z_r0_9, z_r0_10, z_r0_11, z_r0_12, z_r0_13, z_r0_1_6, z_r0_1_7, z_r0_1_8, z_r0_1_9, z_r0_1_10, z_r0_5_0, z_r0_5_1, z_r0_5_2, z_r0_5_0_6, z_r0_5_0_7, z_r0_5_0_8, z_r0_5_0_9, z_r0_5_0_10, z_r0_5_2_1, z_r0_6_0, z_r0_6_1, z_r0_6_2, z_r0_6_3, z_r0_6_4, z_r0_11_1, z_r0_12_1, z_rr2_0, z_rr2_1, z_rr4_1, z_rr21_1] at p0x35
    try simp only [z_r0_0, z_r0_1, z_r0_2, z_r0_5, z_r0_6, z_r0_7, z_r0_8, z_r0_9, z_r0_10, z_r0_11, z_r0_12, z_r0_13, z_r0_1_6, z_r0_1_7, z_r0_1_8, z_r0_1_9, z_r0_1_10, z_r0_5_0, z_r0_5_1, z_r0_5_2, z_r0_5_0_6, z_r0_5_0_7, z_r0_5_0_8, z_r0_5_0_9, z_r0_5_0_10, z_r0_5_2_1, z_r0_6_0, z_r0_6_1, z_r0_6_2, z_r0_6_3, z_r0_6_4, z_r0_11_1, z_r0_12_1, z_rr2_0, z_rr2_1, z_rr4_1, z_rr21_1] at p1x35
    try simp only [e27, e29, ex30, ex31, ex32, ex33] at p0x35
    try have q0x35 := congrArg Int32.toInt p0x35
    try simp only [e27, e29, ex30, ex31, ex32, ex33] at p1x35
    try have q1x35 := congrArg Int32.toInt p1x35
    have hpw := p0x35; (try simp only [z_r0_0, z_r0_1, z_r0_2, z_r0_5, z_r0_6, z_r0_7, z_r0_8, z_r0_9, z_r0_10, z_r0_11, z_r0_12, z_r0_13, z_r0_1_6, z_r0_1_7, z_r0_1_8, z_r0_1_9, z_r0_1_10, z_r0_5_0, z_r0_5_1, z_r0_5_2, z_r0_5_0_6, z_r0_5_0_7, z_r0_5_0_8, z_r0_5_0_9, z_r0_5_0_10, z_r0_5_2_1, z_r0_6_0, z_r0_6_1, z_r0_6_2, z_r0_6_3, z_r0_6_4, z_r0_11_1, z_r0_12_1, z_rr2_0, z_rr2_1, z_rr4_1, z_rr21_1] at hpw); (try rw [hp0] at hpw); (try rw [ew73, k0_r0_1_0] at hpw)
    refine k_istore C (lw := [(9, .int x35), (8, .ref rr21), (7, .int x8), (6, .ref rr6), (5, .ref rr4), (4, .ref rr2), (0, .ref r0), (1, .int n1), (2, .int n2), (3, .int n3)]) rfl rfl (Nat.le_of_ble_eq_true rfl) rfl ?_
    refine k_aload_n C rfl rfl rfl ?_
    refine g_R C rfl rfl rfl T_r0 rfl R_r0_5 ?_
    refine k_aload_n C rfl rfl rfl ?_
    refine g_R C rfl rfl rfl T_r0 rfl R_r0_11 ?_
    refine k_iload C rfl rfl rfl ?_
    have h124 := e29
    refine c_VV C (s_X0_scale_x hS hI24 H_r0_5 (hs_GF hS H_r0_11) (by omega) (by omega) hU (by rw [z_r0_5_0, hp0, ew73, k0_r0_1_0]; exact hw73.bn)) rfl rfl rfl rfl rfl ⟨_, rfl, rfl, T_r0_5, Nat.le_of_ble_eq_true rfl⟩ rfl rfl (Nat.le_of_ble_eq_true rfl) (Nat.le_of_ble_eq_true rfl) (Nat.le_of_ble_eq_true rfl) ?_
    rintro I37 L38 ⟨p0v36, hI37, S39⟩
    try simp only [z_r0_0, z_r0_1, z_r0_2, z_r0_5, z_r0_6, z_r0_7, z_r0_8, z_r0_9, z_r0_10, z_r0_11, z_r0_12, z_r0_13, z_r0_1_6, z_r0_1_7, z_r0_1_8, z_r0_1_9, z_r0_1_10, z_r0_5_0, z_r0_5_1, z_r0_5_2, z_r0_5_0_6, z_r0_5_0_7, z_r0_5_0_8, z_r0_5_0_9, z_r0_5_0_10, z_r0_5_2_1, z_r0_6_0, z_r0_6_1, z_r0_6_2, z_r0_6_3, z_r0_6_4, z_r0_11_1, z_r0_12_1, z_rr2_0, z_rr2_1, z_rr4_1, z_rr21_1] at S39
    have e40 := Chg.k S39 T_r0_1 (by decide) (by decide) e27
    have e41 := Chg.k S39 T_r0_11 (by decide) (by decide) e29
    have e42 := Chg.k S39 T_rr6 (by decide) (by decide) ex30
    have e43 := Chg.k S39 T_rr6 (by decide) (by decide) ex31
    have e44 := Chg.k S39 T_rr6 (by decide) (by decide) ex32
    have e45 := Chg.k S39 T_rr6 (by decide) (by decide) ex33
    try simp only [z_r0_0, z_r0_1, z_r0_2, z_r0_5, z_r0_6, z_r0_7, z_r0_8, z_r0_9, z_r0_10, z_r0_11, z_r0_12, z_r0_13, z_r0_1_6, z_r0_1_7, z_r0_1_8, z_r0_1_9, z_r0_1_10, z_r0_5_0, z_r0_5_1, z_r0_5_2, z_r0_5_0_6, z_r0_5_0_7, z_r0_5_0_8, z_r0_5_0_9, z_r0_5_0_10, z_r0_5_2_1, z_r0_6_0, z_r0_6_1, z_r0_6_2, z_r0_6_3, z_r0_6_4, z_r0_11_1, z_r0_12_1, z_rr2_0, z_rr2_1, z_rr4_1, z_rr21_1] at p0v36
    try simp only [e27, e29, ex30, ex31, ex32, ex33] at p0v36
    try have q0v36 := congrArg Int32.toInt p0v36
    have hsc := p0v36; (try simp only [z_r0_0, z_r0_1, z_r0_2, z_r0_5, z_r0_6, z_r0_7, z_r0_8, z_r0_9, z_r0_10, z_r0_11, z_r0_12, z_r0_13, z_r0_1_6, z_r0_1_7, z_r0_1_8, z_r0_1_9, z_r0_1_10, z_r0_5_0, z_r0_5_1, z_r0_5_2, z_r0_5_0_6, z_r0_5_0_7, z_r0_5_0_8, z_r0_5_0_9, z_r0_5_0_10, z_r0_5_2_1, z_r0_6_0, z_r0_6_1, z_r0_6_2, z_r0_6_3, z_r0_6_4, z_r0_11_1, z_r0_12_1, z_rr2_0, z_rr2_1, z_rr4_1, z_rr21_1] at hsc); have hS124 := S39; have hX124 : ∀ a, ¬ STX R r0_6 r0_5 r0_11 r0_12 a → I37 a = I a := (fun a h => (Chg.at hS124 (fun q => h (STX.s z_r0_11_1 q))).trans (hX73 a h)); have es124 := STL.fr (rA_e R_rr2_0) (rA_e R_rr2_1) (congrFun (hX124 _ ns) 2) (hX124 _ na0) (hX124 _ na1); have ef124 := hX124 _ nf.1; have eb124 := hX124 _ (by have z9 := nf.2; rw [z_rr4_1] at z9; exact z9); have et124 := hX124 _ ntt; have ew124 := hX124 _ nst; have en124 : NF I37 rr4_1 = NF I rr4_1 := (by unfold NF; rw [eb124]); have hw124 := VFR.sc hw73 z_r0_11_1 hsc (by first | rfl | exact congrArg Int32.toInt h124) (Chg.at hS124 (nm_1 (t_nq T_r0_11 T_r0_11_1 (by decide)))) hpw (by first | rfl | rw [hp0, ew73, k0_r0_1_0] | rw [ew73, k0_r0_1_0])
    refine k_aload_n C rfl rfl rfl ?_
    refine g_R C rfl rfl rfl T_r0 rfl R_r0_5 ?_
    refine k_aload C rfl rfl rfl ?_
    refine k_aload C rfl rfl rfl ?_
    refine k_aload_n C rfl rfl rfl ?_
    refine g_R C rfl rfl rfl T_r0 rfl R_r0_12 ?_
    refine c_VV C (s_X0_mixInto_x hS hI37 H_r0_5 H_rr4 H_rr6 (hs_GF hS H_r0_12) hU nfm (by rw [z_r0_5_2]; exact mMR) (by rw [z_r0_5_2]; exact nfr) (by rw [ef124, z_r0_5_0, hp0, ew124, k0_r0_1_0]; exact BNX.eq hbf (hX124 _ nf.2)) (by rw [et124, z_r0_5_0, hp0, ew124, k0_r0_1_0, ← oT]; exact hp5 n3.toNatClampNeg (by omega))) rfl rfl rfl rfl rfl ⟨_, rfl, rfl, T_r0_5, Nat.le_of_ble_eq_true rfl⟩ rfl rfl (Nat.le_of_ble_eq_true rfl) (Nat.le_of_ble_eq_true rfl) (Nat.le_of_ble_eq_true rfl) ?_
    rintro I47 L48 ⟨p0v46, p1v46, hI47, S49⟩
    try simp only [z_r0_0, z_r0_1, z_r0_2, z_r0_5, z_r0_6, z_r0_7, z_r0_8, z_r0_9, z_r0_10, z_r0_11, z_r0_12, z_r0_13, z_r0_1_6, z_r0_1_7, z_r0_1_8, z_r0_1_9, z_r0_1_10, z_r0_5_0, z_r0_5_1, z_r0_5_2, z_r0_5_0_6, z_r0_5_0_7, z_r0_5_0_8, z_r0_5_0_9, z_r0_5_0_10, z_r0_5_2_1, z_r0_6_0, z_r0_6_1, z_r0_6_2, z_r0_6_3, z_r0_6_4, z_r0_11_1, z_r0_12_1, z_rr2_0, z_rr2_1, z_rr4_1, z_rr21_1] at S49
    have e50 := Chg.k S49 T_r0_1 (by decide) (by decide) e40
    have e51 := Chg.k S49 T_rr6 (by decide) (by decide) e42
    have e52 := Chg.k S49 T_rr6 (by decide) (by decide) e43
    have e53 := Chg.k S49 T_rr6 (by decide) (by decide) e44
    have e54 := Chg.k S49 T_rr6 (by decide) (by decide) e45
    obtain ⟨x55, e56⟩ : ∃ x, I47 r0_12 0 = x := ⟨_, rfl⟩
    have gx55 := rg x55
    have ox55 := IX.deg hI47 A_r0_12 T_r0_12 e56
    try simp only [z_r0_0, z_r0_1, z_r0_2, z_r0_5, z_r0_6, z_r0_7, z_r0_8, z_r0_9, z_r0_10, z_r0_11, z_r0_12, z_r0_13, z_r0_1_6, z_r0_1_7, z_r0_1_8, z_r0_1_9, z_r0_1_10, z_r0_5_0, z_r0_5_1, z_r0_5_2, z_r0_5_0_6, z_r0_5_0_7, z_r0_5_0_8, z_r0_5_0_9, z_r0_5_0_10, z_r0_5_2_1, z_r0_6_0, z_r0_6_1, z_r0_6_2, z_r0_6_3, z_r0_6_4, z_r0_11_1, z_r0_12_1, z_rr2_0, z_rr2_1, z_rr4_1, z_rr21_1] at p0v46
    try simp only [z_r0_0, z_r0_1, z_r0_2, z_r0_5, z_r0_6, z_r0_7, z_r0_8, z_r0_9, z_r0_10, z_r0_11, z_r0_12, z_r0_13, z_r0_1_6, z_r0_1_7, z_r0_1_8, z_r0_1_9, z_r0_1_10, z_r0_5_0, z_r0_5_1, z_r0_5_2, z_r0_5_0_6, z_r0_5_0_7, z_r0_5_0_8, z_r0_5_0_9, z_r0_5_0_10, z_r0_5_2_1, z_r0_6_0, z_r0_6_1, z_r0_6_2, z_r0_6_3, z_r0_6_4, z_r0_11_1, z_r0_12_1, z_rr2_0, z_rr2_1, z_rr4_1, z_rr21_1] at p1v46
    try simp only [e40, e41, e42, e43, e44, e45, e56] at p0v46
    try have q0v46 := congrArg Int32.toInt p0v46
    try simp only [e40, e41, e42, e43, e44, e45, e56] at p1v46
    try have q1v46 := congrArg Int32.toInt p1v46
    have hn0 := p0v46; (try rw [← e56] at hn0); have hn1 := p1v46; (try simp only [z_r0_0, z_r0_1, z_r0_2, z_r0_5, z_r0_6, z_r0_7, z_r0_8, z_r0_9, z_r0_10, z_r0_11, z_r0_12, z_r0_13, z_r0_1_6, z_r0_1_7, z_r0_1_8, z_r0_1_9, z_r0_1_10, z_r0_5_0, z_r0_5_1, z_r0_5_2, z_r0_5_0_6, z_r0_5_0_7, z_r0_5_0_8, z_r0_5_0_9, z_r0_5_0_10, z_r0_5_2_1, z_r0_6_0, z_r0_6_1, z_r0_6_2, z_r0_6_3, z_r0_6_4, z_r0_11_1, z_r0_12_1, z_rr2_0, z_rr2_1, z_rr4_1, z_rr21_1] at hn1); have hS139 := S49; have hX139 : ∀ a, ¬ STX R r0_6 r0_5 r0_11 r0_12 a → I47 a = I a := (fun a h => (Chg.at hS139 (fun q => h (STX.m z_r0_12_1 z_r0_5_2 z_r0_5_2_1 q))).trans (hX124 a h)); have es139 := STL.fr (rA_e R_rr2_0) (rA_e R_rr2_1) (congrFun (hX139 _ ns) 2) (hX139 _ na0) (hX139 _ na1); have ef139 := hX139 _ nf.1; have eb139 := hX139 _ (by have z9 := nf.2; rw [z_rr4_1] at z9; exact z9); have et139 := hX139 _ ntt; have ew139 := hX139 _ nst; have en139 : NF I47 rr4_1 = NF I rr4_1 := (by unfold NF; rw [eb139]); have hvF := VFR.src ef124 eb124 z_rr4_1 (by rw [← z_rr4_1]; exact hbf) dF; have hwm := VFR.mx hvF z_rr4_1 z_r0_12_1 hn0 hn1 hta.symm htb.symm htc.symm htd.symm (by first | rfl | rw [hp0, ew124, k0_r0_1_0] | rw [ew124, k0_r0_1_0]); have hw139 := hw124.sm (Chg.at hS139 (nm_4 mWM (t_nq T_r0_11 T_r0_12_1 (by decide)) mWR (t_nq T_r0_11 T_r0_5_2_1 (by decide)))) (by rw [z_r0_11_1]; exact Chg.at hS139 (nm_4 (t_nq T_r0_11_1 T_r0_12 (by decide)) (by have z9 := obneq hU fW fM mWM; rw [z_r0_11_1, z_r0_12_1] at z9; exact z9) (t_nq T_r0_11_1 T_r0_5_2 (by decide)) (by have z9 := obneq hU fW (FO.of (hs_GF hS H_r0_5_2)) mWR; rw [z_r0_11_1, z_r0_5_2_1] at z9; exact z9)))
    refine k_aload_n C rfl rfl rfl ?_
    refine g_R C rfl rfl rfl T_r0 rfl R_r0_6 ?_
    refine k_aload C rfl rfl rfl ?_
    refine k_aload_n C rfl rfl rfl ?_
    refine g_R C rfl rfl rfl T_r0 rfl R_r0_12 ?_
    have h152 := e56
    refine c_VR C (s_X1_valueOf_x hS hI47 H_r0_6 H_rr2 (hs_GF hS H_r0_12) hU (by rw [hX139 _ ns, ← oF]; exact (hp3 _ nF (by omega)).1) (by rw [es139, ← oF]; exact (hp3 _ nF (by omega)).2) nM (by rw [z_r0_6_0, hp1, ew139, k0_r0_1_0]; exact hwm.bn)) rfl rfl rfl rfl rfl ⟨_, rfl, rfl, T_r0_6, Nat.le_of_ble_eq_true rfl⟩ rfl rfl (Nat.le_of_ble_eq_true rfl) (Nat.le_of_ble_eq_true rfl) (Nat.le_of_ble_eq_true rfl) ?_
    rintro yy57 I58 L59 ⟨hyy57, p0yy57, hI58, S60⟩
    try simp only [z_r0_0, z_r0_1, z_r0_2, z_r0_5, z_r0_6, z_r0_7, z_r0_8, z_r0_9, z_r0_10, z_r0_11, z_r0_12, z_r0_13, z_r0_1_6, z_r0_1_7, z_r0_1_8, z_r0_1_9, z_r0_1_10, z_r0_5_0, z_r0_5_1, z_r0_5_2, z_r0_5_0_6, z_r0_5_0_7, z_r0_5_0_8, z_r0_5_0_9, z_r0_5_0_10, z_r0_5_2_1, z_r0_6_0, z_r0_6_1, z_r0_6_2, z_r0_6_3, z_r0_6_4, z_r0_11_1, z_r0_12_1, z_rr2_0, z_rr2_1, z_rr4_1, z_rr21_1] at S60
    have e61 := Chg.k S60 T_r0_1 (by decide) (by decide) e50
    have e62 := Chg.k S60 T_rr6 (by decide) (by decide) e51
    have e63 := Chg.k S60 T_rr6 (by decide) (by decide) e52
    have e64 := Chg.k S60 T_rr6 (by decide) (by decide) e53
    have e65 := Chg.k S60 T_rr6 (by decide) (by decide) e54
    try simp only [z_r0_0, z_r0_1, z_r0_2, z_r0_5, z_r0_6, z_r0_7, z_r0_8, z_r0_9, z_r0_10, z_r0_11, z_r0_12, z_r0_13, z_r0_1_6, z_r0_1_7, z_r0_1_8, z_r0_1_9, z_r0_1_10, z_r0_5_0, z_r0_5_1, z_r0_5_2, z_r0_5_0_6, z_r0_5_0_7, z_r0_5_0_8, z_r0_5_0_9, z_r0_5_0_10, z_r0_5_2_1, z_r0_6_0, z_r0_6_1, z_r0_6_2, z_r0_6_3, z_r0_6_4, z_r0_11_1, z_r0_12_1, z_rr2_0, z_rr2_1, z_rr4_1, z_rr21_1] at p0yy57
    try simp only [e50, e51, e52, e53, e54, e56] at p0yy57
    try have q0yy57 := congrArg Int32.toInt p0yy57
    have hv2 := p0yy57; (try simp only [z_r0_0, z_r0_1, z_r0_2, z_r0_5, z_r0_6, z_r0_7, z_r0_8, z_r0_9, z_r0_10, z_r0_11, z_r0_12, z_r0_13, z_r0_1_6, z_r0_1_7, z_r0_1_8, z_r0_1_9, z_r0_1_10, z_r0_5_0, z_r0_5_1, z_r0_5_2, z_r0_5_0_6, z_r0_5_0_7, z_r0_5_0_8, z_r0_5_0_9, z_r0_5_0_10, z_r0_5_2_1, z_r0_6_0, z_r0_6_1, z_r0_6_2, z_r0_6_3, z_r0_6_4, z_r0_11_1, z_r0_12_1, z_rr2_0, z_rr2_1, z_rr4_1, z_rr21_1] at hv2); rw [hp1, ew139, es139, k0_r0_1_0] at hv2; have hq12 := hwm.fq; rw [z_r0_12_1] at hq12; (try rw [h152] at hq12); have hv2 := VPO.cg hv2 (VWF.cg hq12 (by have z9 := hwm.1; have z8 := hwm.2.1; show (0 : Int) ≤ _; omega) (by rw [← oF]; exact (hp3 _ nF (by omega)).2)); have hS152 := S60; have hw152 := hw139.sm (Chg.at hS152 nW.1) (Chg.at hS152 nW.2)
    refine k_astoreV C (x := yy57) (lw := [(10, va_rf yy57), (9, .int x35), (8, .ref rr21), (7, .int x8), (6, .ref rr6), (5, .ref rr4), (4, .ref rr2), (0, .ref r0), (1, .int n1), (2, .int n2), (3, .int n3)]) rfl rfl (Nat.le_of_ble_eq_true rfl) rfl ?_
    refine k_aloadV C (x := yy57) rfl rfl rfl ?_
    refine k_ifnull C (x := yy57) (t := 178) rfl rfl rfl (fun c66 => ?_) (fun rr67 c66 => ?_)
    · skip
      subst c66
      refine z_iconst C (z := 0) rfl rfl rfl (fun x68 ex68 => ?_)
      exact k_iret C rfl (Or.inr ⟨rfl, z01 (by omega) (by omega)⟩) (Nat.le_of_ble_eq_true rfl) (Nat.le_of_ble_eq_true rfl) (Or.inl ⟨_, _, _, rfl, rfl, by omega, by omega, by (try simp only [z_r0_0, z_r0_1, z_r0_2, z_r0_5, z_r0_6, z_r0_7, z_r0_8, z_r0_9, z_r0_10, z_r0_11, z_r0_12, z_r0_13, z_r0_1_6, z_r0_1_7, z_r0_1_8, z_r0_1_9, z_r0_1_10, z_r0_5_0, z_r0_5_1, z_r0_5_2, z_r0_5_0_6, z_r0_5_0_7, z_r0_5_0_8, z_r0_5_0_9, z_r0_5_0_10, z_r0_5_2_1, z_r0_6_0, z_r0_6_1, z_r0_6_2, z_r0_6_3, z_r0_6_4, z_r0_11_1, z_r0_12_1, z_rr2_0, z_rr2_1, z_rr4_1, z_rr21_1]); omega, by (try simp only [z_r0_0, z_r0_1, z_r0_2, z_r0_5, z_r0_6, z_r0_7, z_r0_8, z_r0_9, z_r0_10, z_r0_11, z_r0_12, z_r0_13, z_r0_1_6, z_r0_1_7, z_r0_1_8, z_r0_1_9, z_r0_1_10, z_r0_5_0, z_r0_5_1, z_r0_5_2, z_r0_5_0_6, z_r0_5_0_7, z_r0_5_0_8, z_r0_5_0_9, z_r0_5_0_10, z_r0_5_2_1, z_r0_6_0, z_r0_6_1, z_r0_6_2, z_r0_6_3, z_r0_6_4, z_r0_11_1, z_r0_12_1, z_rr2_0, z_rr2_1, z_rr4_1, z_rr21_1]); rw [oF, oG, oT, z_rr4_1]; simp only [k0_r0_1_0]; rw [← hrk, ← hdt]; first | exact SYQ.n2 hv2 (by omega) | exact SYQ.y (by omega) hvo hv2 hw152 hmt (by omega), hI58, (Chg.cons (Chg.up S11 (sl_2 (B_r0_6) (A_r0_6_2))) (Chg.cons (Chg.up S18 (CSX.b H_r0_6)) (Chg.cons (Chg.up S26 (sl_4 (B_r0_11) (A_r0_11_1) (B_r0_5_2) (A_r0_5_2_1))) (Chg.cons (Chg.up S39 (sl_1 (A_r0_11_1))) (Chg.cons (Chg.up S49 (sl_4 (B_r0_12) (A_r0_12_1) (B_r0_5_2) (A_r0_5_2_1))) (Chg.mono (Chg.up S60 (CSX.b H_r0_6)) (by decide)) (by decide)) (by decide)) (by decide)) (by decide)) (by decide))⟩)
    subst c66
    have H_rr67 := hyy57 rr67 rfl
    refine k_aload C rfl rfl rfl ?_
    refine k_aload_n C rfl rfl rfl ?_
    refine g_R C rfl rfl rfl T_r0 rfl R_r0_11 ?_
    obtain ⟨T_rr67, A_rr67, B_rr67, ⟨rr67_1, R_rr67_1, H_rr67_1⟩⟩ := id H_rr67
    have z_rr67_1 : rA R rr67 1 = rr67_1 := rA_e R_rr67_1
    refine c_VI C (s_X2_matches_x hS hI58 (hs_GF hS H_rr67) (hs_GF hS H_r0_11)) rfl rfl rfl rfl rfl ⟨_, rfl, rfl, T_rr67, Nat.le_of_ble_eq_true rfl⟩ rfl rfl (Nat.le_of_ble_eq_true rfl) (Nat.le_of_ble_eq_true rfl) (Nat.le_of_ble_eq_true rfl) ?_
    rintro x69 _ _ ⟨o0x69, o1x69, p0x69, rfl, rfl⟩
    have gx69 := rg x69
    try simp only [z_r0_0, z_r0_1, z_r0_2, z_r0_5, z_r0_6, z_r0_7, z_r0_8, z_r0_9, z_r0_10, z_r0_11, z_r0_12, z_r0_13, z_r0_1_6, z_r0_1_7, z_r0_1_8, z_r0_1_9, z_r0_1_10, z_r0_5_0, z_r0_5_1, z_r0_5_2, z_r0_5_0_6, z_r0_5_0_7, z_r0_5_0_8, z_r0_5_0_9, z_r0_5_0_10, z_r0_5_2_1, z_r0_6_0, z_r0_6_1, z_r0_6_2, z_r0_6_3, z_r0_6_4, z_r0_11_1, z_r0_12_1, z_rr2_0, z_rr2_1, z_rr4_1, z_rr21_1, z_rr67_1] at p0x69
    try simp only [e61, e62, e63, e64, e65] at p0x69
    try have q0x69 := congrArg Int32.toInt p0x69
    have hmt := p0x69
    refine b_if_eq C (t := 178) rfl rfl rfl (fun c70 => ?_) (fun c70 => ?_)
    · skip
      refine z_iconst C (z := 0) rfl rfl rfl (fun x71 ex71 => ?_)
      exact k_iret C rfl (Or.inr ⟨rfl, z01 (by omega) (by omega)⟩) (Nat.le_of_ble_eq_true rfl) (Nat.le_of_ble_eq_true rfl) (Or.inl ⟨_, _, _, rfl, rfl, by omega, by omega, by (try simp only [z_r0_0, z_r0_1, z_r0_2, z_r0_5, z_r0_6, z_r0_7, z_r0_8, z_r0_9, z_r0_10, z_r0_11, z_r0_12, z_r0_13, z_r0_1_6, z_r0_1_7, z_r0_1_8, z_r0_1_9, z_r0_1_10, z_r0_5_0, z_r0_5_1, z_r0_5_2, z_r0_5_0_6, z_r0_5_0_7, z_r0_5_0_8, z_r0_5_0_9, z_r0_5_0_10, z_r0_5_2_1, z_r0_6_0, z_r0_6_1, z_r0_6_2, z_r0_6_3, z_r0_6_4, z_r0_11_1, z_r0_12_1, z_rr2_0, z_rr2_1, z_rr4_1, z_rr21_1, z_rr67_1]); omega, by (try simp only [z_r0_0, z_r0_1, z_r0_2, z_r0_5, z_r0_6, z_r0_7, z_r0_8, z_r0_9, z_r0_10, z_r0_11, z_r0_12, z_r0_13, z_r0_1_6, z_r0_1_7, z_r0_1_8, z_r0_1_9, z_r0_1_10, z_r0_5_0, z_r0_5_1, z_r0_5_2, z_r0_5_0_6, z_r0_5_0_7, z_r0_5_0_8, z_r0_5_0_9, z_r0_5_0_10, z_r0_5_2_1, z_r0_6_0, z_r0_6_1, z_r0_6_2, z_r0_6_3, z_r0_6_4, z_r0_11_1, z_r0_12_1, z_rr2_0, z_rr2_1, z_rr4_1, z_rr21_1, z_rr67_1]); rw [oF, oG, oT, z_rr4_1]; simp only [k0_r0_1_0]; rw [← hrk, ← hdt]; first | exact SYQ.n2 hv2 (by omega) | exact SYQ.y (by omega) hvo hv2 hw152 hmt (by omega), hI58, (Chg.cons (Chg.up S11 (sl_2 (B_r0_6) (A_r0_6_2))) (Chg.cons (Chg.up S18 (CSX.b H_r0_6)) (Chg.cons (Chg.up S26 (sl_4 (B_r0_11) (A_r0_11_1) (B_r0_5_2) (A_r0_5_2_1))) (Chg.cons (Chg.up S39 (sl_1 (A_r0_11_1))) (Chg.cons (Chg.up S49 (sl_4 (B_r0_12) (A_r0_12_1) (B_r0_5_2) (A_r0_5_2_1))) (Chg.mono (Chg.up S60 (CSX.b H_r0_6)) (by decide)) (by decide)) (by decide)) (by decide)) (by decide)) (by decide))⟩)
    refine z_iconst C (z := 1) rfl rfl rfl (fun x72 ex72 => ?_)
    refine k_goto C (pc2 := 179) rfl rfl ?_
    exact k_iret C rfl (Or.inr ⟨rfl, z01 (by omega) (by omega)⟩) (Nat.le_of_ble_eq_true rfl) (Nat.le_of_ble_eq_true rfl) (Or.inl ⟨_, _, _, rfl, rfl, by omega, by omega, by (try simp only [z_r0_0, z_r0_1, z_r0_2, z_r0_5, z_r0_6, z_r0_7, z_r0_8, z_r0_9, z_r0_10, z_r0_11, z_r0_12, z_r0_13, z_r0_1_6, z_r0_1_7, z_r0_1_8, z_r0_1_9, z_r0_1_10, z_r0_5_0, z_r0_5_1, z_r0_5_2, z_r0_5_0_6, z_r0_5_0_7, z_r0_5_0_8, z_r0_5_0_9, z_r0_5_0_10, z_r0_5_2_1, z_r0_6_0, z_r0_6_1, z_r0_6_2, z_r0_6_3, z_r0_6_4, z_r0_11_1, z_r0_12_1, z_rr2_0, z_rr2_1, z_rr4_1, z_rr21_1, z_rr67_1]); omega, by (try simp only [z_r0_0, z_r0_1, z_r0_2, z_r0_5, z_r0_6, z_r0_7, z_r0_8, z_r0_9, z_r0_10, z_r0_11, z_r0_12, z_r0_13, z_r0_1_6, z_r0_1_7, z_r0_1_8, z_r0_1_9, z_r0_1_10, z_r0_5_0, z_r0_5_1, z_r0_5_2, z_r0_5_0_6, z_r0_5_0_7, z_r0_5_0_8, z_r0_5_0_9, z_r0_5_0_10, z_r0_5_2_1, z_r0_6_0, z_r0_6_1, z_r0_6_2, z_r0_6_3, z_r0_6_4, z_r0_11_1, z_r0_12_1, z_rr2_0, z_rr2_1, z_rr4_1, z_rr21_1, z_rr67_1]); rw [oF, oG, oT, z_rr4_1]; simp only [k0_r0_1_0]; rw [← hrk, ← hdt]; first | exact SYQ.n2 hv2 (by omega) | exact SYQ.y (by omega) hvo hv2 hw152 hmt (by omega), hI58, (Chg.cons (Chg.up S11 (sl_2 (B_r0_6) (A_r0_6_2))) (Chg.cons (Chg.up S18 (CSX.b H_r0_6)) (Chg.cons (Chg.up S26 (sl_4 (B_r0_11) (A_r0_11_1) (B_r0_5_2) (A_r0_5_2_1))) (Chg.cons (Chg.up S39 (sl_1 (A_r0_11_1))) (Chg.cons (Chg.up S49 (sl_4 (B_r0_12) (A_r0_12_1) (B_r0_5_2) (A_r0_5_2_1))) (Chg.mono (Chg.up S60 (CSX.b H_r0_6)) (by decide)) (by decide)) (by decide)) (by decide)) (by decide)) (by decide))⟩)
  refine z_iconst C (z := 0) rfl rfl rfl (fun x73 ex73 => ?_)
  exact k_iret C rfl (Or.inr ⟨rfl, z01 (by omega) (by omega)⟩) (Nat.le_of_ble_eq_true rfl) (Nat.le_of_ble_eq_true rfl) (Or.inl ⟨_, _, _, rfl, rfl, by omega, by omega, by (try simp only [z_r0_0, z_r0_1, z_r0_2, z_r0_5, z_r0_6, z_r0_7, z_r0_8, z_r0_9, z_r0_10, z_r0_11, z_r0_12, z_r0_13, z_r0_1_6, z_r0_1_7, z_r0_1_8, z_r0_1_9, z_r0_1_10, z_r0_5_0, z_r0_5_1, z_r0_5_2, z_r0_5_0_6, z_r0_5_0_7, z_r0_5_0_8, z_r0_5_0_9, z_r0_5_0_10, z_r0_5_2_1, z_r0_6_0, z_r0_6_1, z_r0_6_2, z_r0_6_3, z_r0_6_4, z_r0_11_1, z_r0_12_1, z_rr2_0, z_rr2_1]); omega, by (try simp only [z_r0_0, z_r0_1, z_r0_2, z_r0_5, z_r0_6, z_r0_7, z_r0_8, z_r0_9, z_r0_10, z_r0_11, z_r0_12, z_r0_13, z_r0_1_6, z_r0_1_7, z_r0_1_8, z_r0_1_9, z_r0_1_10, z_r0_5_0, z_r0_5_1, z_r0_5_2, z_r0_5_0_6, z_r0_5_0_7, z_r0_5_0_8, z_r0_5_0_9, z_r0_5_0_10, z_r0_5_2_1, z_r0_6_0, z_r0_6_1, z_r0_6_2, z_r0_6_3, z_r0_6_4, z_r0_11_1, z_r0_12_1, z_rr2_0, z_rr2_1]); rw [oF, oG, oT]; rw [← hrk]; exact SYQ.n0 (by omega) (by omega), hI9, (Chg.mono (Chg.up S11 (sl_2 (B_r0_6) (A_r0_6_2))) (by decide))⟩)

