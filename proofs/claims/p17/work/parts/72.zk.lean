/-! the law's invariants behind a call of the class -/
section Hl
variable {T N : Nat → Nat} {R : RT} {A B : Nat → Prop} {x nw kp rd al m w im o cb tp : Nat} {I I1 I2 : IT} {L L1 L2 : LT} {S : Nat → Prop} {Wl : List (Nat × Nat)}
theorem HL.c (E : LX T N R A B x nw kp rd al m w im o cb tp) (hl : LI T R A m I) (hx : IX A T I1) (c : CB S T Wl I I1) (hS : ∀ a, S a → A a) : LI T R A m I1 := hl.same E.1.2.1 hx (fun a ha => c.1 a (fun q => E.1.2.2.2.1 a (hS a q) ha))
theorem HL.rd9 (E : LX T N R A B x nw kp rd al m w im o cb tp) (hl : LI T R A m I) (hx : IX A T I1) (e : ∀ a, a ≠ rd → ∀ k, I1 a k = I a k) : LI T R A m I1 := hl.same E.1.2.1 hx (fun a ha => funext (e a (fun q => E.1.2.2.2.1 _ E.1.t.2.1.2.2.2 (q ▸ ha))))
theorem HL.s (_ : LX T N R A B x nw kp rd al m w im o cb tp) (hl : LI T R A m I) (e : ∀ a k, I1 a k = I a k) : LI T R A m I1 := by
  have q : I1 = I := funext fun a => funext (e a)
  rw [q]; exact hl
theorem SLf.a9 (E : LX T N R A B x nw kp rd al m w im o cb tp) {a : Nat} (q : SL [rd, cb] a) : A a := by
  have q := SL.a q
  simp only [List.mem_cons, List.not_mem_nil, or_false] at q
  rcases q with q | q
  · rw [q]; exact E.1.t.2.1.2.2.2
  · rw [q]; exact E.c.2
/-- a number looked at -/
theorem DON.eq {x y D : Int} {f g : Nat → Int} {k : Int} (h : DON x D f k) (g9 : DON y D g k) (e : ∀ i : Nat, (i : Int) ≤ D → f i = g i) : x = y := by
  by_cases z : k = -1
  · rw [h.1 z, g9.1 z]
  · by_cases q : k < 0 ∨ D < k
    · rw [h.2.1 z q, g9.2.1 z q]
    · rw [h.2.2 (by omega) (by omega), g9.2.2 (by omega) (by omega)]; exact e _ (by omega)
end Hl
/-! values of signs: both sides -/
section Val
variable {T N : Nat → Nat} {R : RT} {A B : Nat → Prop} {x nw kp rd al m w im o cb tp : Nat} {I I1 I2 : IT}
theorem RY.cn (E : LX T N R A B x nw kp rd al m w im o cb tp) (h : RY R x nw kp rd cb m w im tp I) : ∀ a1, R m 1 = some a1 → CNW (I a1) := fun a1 h1 => by
  have w1 := E.1.2.2.2.2.2.2.2.2.2.2.1
  have q : w = a1 := Option.some.inj (w1.symm.trans h1)
  subst q
  exact fun f hf k hk => (h.1.2.2.2.1.2.1 f hf).2 k hk
theorem RY.hw (E : LX T N R A B x nw kp rd al m w im o cb tp) (hl : LI T R A m I) (h : RY R x nw kp rd cb m w im tp I) (j : Nat) (hj : j < 8) (hk : (j : Int) < (I nw 3).toInt) : HOV (WSL (I w) j) 0 := by
  have hW := (LI.wos E hl).1.1
  have e := h.2.2.1.1
  exact HOV.w (hW.2.2.2.2.2.1 j (by omega)) (h.2.2.1.2 j hj hk).2.2.2
theorem RY.hv (E : LX T N R A B x nw kp rd al m w im o cb tp) (hl : LI T R A m I) (h : RY R x nw kp rd cb m w im tp I) : ∀ a1, R m 1 = some a1 → ∀ j : Nat, j < 8 → (j : Int) < (I a1 3).toInt → HOV (WSL (I a1) j) 0 := fun a1 h1 j hj hk => by
  have w1 := E.1.2.2.2.2.2.2.2.2.2.2.1
  have q : w = a1 := Option.some.inj (w1.symm.trans h1)
  subst q
  have e := h.2.2.1.1
  exact RY.hw E hl h j hj (by omega)
theorem RY.vs (E : LX T N R A B x nw kp rd al m w im o cb tp) (hl : LI T R A m I) (h : RY R x nw kp rd cb m w im tp I) : ∀ j : Nat, j < 8 → (j : Int) < (I nw 3).toInt → (0 ≤ (I (SA R nw j) 2).toInt ∧ (I (SA R nw j) 2).toInt ≤ 160) ∧ HOV (STL R I (SA R nw j)) 0 := fun j hj hk => by
  obtain ⟨h1, h2, h3, -⟩ := h.2.2.1.2 j hj hk
  exact ⟨⟨h2, h3⟩, by rw [h1]; exact RY.hw E hl h j hj hk⟩
/-- a form is the same on both sides -/
theorem RY.fv (E : LX T N R A B x nw kp rd al m w im o cb tp) (hl : LI T R A m I) (h : RY R x nw kp rd cb m w im tp I) (j : Nat) (hj : (j : Int) < (I nw 1).toInt) (p : Int) : FQV p ((I (FA R nw j) 0).toInt, NF I (rA R (FA R nw j) 1)) ((I w (6 + 10 * j)).toInt, fun k => (I w (7 + 10 * j + k)).toInt) ∧ 0 ≤ (I (FA R nw j) 0).toInt := by
  have hb := (LI.wos E hl).1.b
  have r := h.1.2.2.2.1
  have e1 := r.1.2.1
  obtain ⟨f1, -⟩ := r.2.1 j (by omega)
  have d := (hb.2.2.2 j (by omega)).1
  have e := f1.1
  refine ⟨⟨e, fun k hk => ?_⟩, by omega⟩
  have hk : (k : Int) ≤ (I (FA R nw j) 0).toInt := hk
  have z := f1.2 k (by omega)
  exact congrArg (fun z => z % p) z
end Val
/-! stays: both sides -/
section Sta
variable {T N : Nat → Nat} {R : RT} {A B : Nat → Prop} {x nw kp rd al m w im o cb tp : Nat} {I I1 I2 : IT}
theorem SYQ.to {p w9 D a b c d : Int} {f f' : FVV} {l : List (Int × Int)} (hf : FQV p f f') (h0 : 0 ≤ f.1) (h : HOV l 0) (q : SYQ p w9 D a b c d f l) : SYQ p w9 D a b c d f' l := by
  obtain ⟨q0, v, u, q1, q2, q3⟩ := q
  have e := hf.1
  have mf : FQV p (f.1, PmX a b c d f.2 f.1.toNat) (f'.1, PmX a b c d f'.2 f'.1.toNat) := ⟨e, fun k hk => by
    have hk : (k : Int) ≤ f.1 := hk
    show PmE p (PmX a b c d f.2 f.1.toNat k) (PmX a b c d f'.2 f'.1.toNat k)
    rw [← e]
    exact PmX.e PmE.rf PmE.rf PmE.rf PmE.rf f.1.toNat (fun i hi => hf.2 i (by omega)) k⟩
  have r1 := VWF.cg hf h0 h
  have r2 := VWF.cg mf h0 h
  rcases r1 with ⟨z, -⟩ | ⟨v0, v', z1, z2, z3⟩
  · rw [q1] at z; cases z
  · rw [q1] at z1; cases z1
    rcases r2 with ⟨z, -⟩ | ⟨u0, u', y1, y2, y3⟩
    · rw [q2] at z; cases z
    · rw [q2] at y1; cases y1
      refine ⟨q0, v', u', z2, y2, y3.sy.tr (q3.tr ⟨z3.1, fun k hk => ?_⟩)⟩
      have hk : (k : Int) ≤ v.1 := hk
      show PmE p (POW D w9.toNat * PmX a b c d v.2 v.1.toNat k) (POW D w9.toNat * PmX a b c d v'.2 v'.1.toNat k)
      rw [← z3.1]
      exact PmE.rf.ml (PmX.e PmE.rf PmE.rf PmE.rf PmE.rf v.1.toNat (fun i hi => z3.2 i (by omega)) k)
theorem SYQ.cg {p w9 D a b c d : Int} {f f' : FVV} {l : List (Int × Int)} (hf : FQV p f f') (h0 : 0 ≤ f.1) (h : HOV l 0) : SYQ p w9 D a b c d f l ↔ SYQ p w9 D a b c d f' l := ⟨SYQ.to hf h0 h, SYQ.to hf.sy (by have := hf.1; omega) h⟩
theorem IFF.u {x y : Int} {P Q : Prop} (h : IFF x P) (g : IFF y Q) (e : P ↔ Q) (hx : 0 ≤ x ∧ x ≤ 1) (hy : 0 ≤ y ∧ y ≤ 1) : x = y := by
  by_cases a : x = 1
  · by_cases b : y = 1
    · omega
    · exact absurd (e.mp (h.1 a)) (g.2 (by omega))
  · by_cases b : y = 1
    · exact absurd (e.mpr (g.1 b)) (h.2 (by omega))
    · omega
theorem RY.sgn9 (E : LX T N R A B x nw kp rd al m w im o cb tp) (hl : LI T R A m I) (h : RY R x nw kp rd cb m w im tp I) (j : Nat) (_ : j < 8) (hk : (j : Int) < (I nw 3).toInt) : SGN (I w) (198 + 401 * j) := by
  have hW := (LI.wos E hl).1.1
  have e := h.2.2.1.1
  exact hW.2.2.2.2.2.1 j (by omega)
theorem RY.rk (E : LX T N R A B x nw kp rd al m w im o cb tp) (hl : LI T R A m I) (h : RY R x nw kp rd cb m w im tp I) : ∀ j : Nat, j < 8 → (j : Int) < (I nw 3).toInt → (0 ≤ (I (SA R nw j) 2).toInt ∧ (I (SA R nw j) 2).toInt ≤ 160) ∧ SZL (STL R I (SA R nw j)) := fun j hj hk => by
  obtain ⟨h1, h2, h3, -⟩ := h.2.2.1.2 j hj hk
  exact ⟨⟨h2, h3⟩, by rw [h1]; exact SZL.w (RY.sgn9 E hl h j hj hk)⟩
theorem RY.tn (E : LX T N R A B x nw kp rd al m w im o cb tp) (h : RY R x nw kp rd cb m w im tp I) : ∀ a1, R m 1 = some a1 → TNW (I a1) := fun a1 h1 => by
  have w1 := E.1.2.2.2.2.2.2.2.2.2.2.1
  have q : w = a1 := Option.some.inj (w1.symm.trans h1)
  subst q
  exact fun t ht k hk => by
    obtain ⟨-, o1⟩ := h.1.2.2.2.1.2.2.1 t ht
    exact o1.1 k hk
theorem CMP_stays {n1 n2 n3 u v : Int32} (E : LX T N R A B x nw kp rd al m w im o cb tp) (hl : LI T R A m I) (h : RY R x nw kp rd cb m w im tp I) (c : CB (BS T R A) T [(2, 5), (3, 0)] I I1) (u0 : 0 ≤ u.toInt) (u1 : u.toInt ≤ 1) (q0 : ¬ ((n1.toInt < 0 ∨ (I nw 3).toInt ≤ n1.toInt ∨ 8 ≤ n1.toInt) ∨ (n2.toInt < 0 ∨ (I nw 1).toInt ≤ n2.toInt ∨ 16 ≤ n2.toInt) ∨ (n3.toInt < 0 ∨ (I nw 2).toInt ≤ n3.toInt ∨ 8 ≤ n3.toInt))) (q1 : IFF u.toInt (SYQ (I nw 0).toInt (RKC (TCL 1 (STL R I (SA R nw n1.toNatClampNeg)) (0, fun _ => 0))) (dt (I nw 0).toInt (I (TA R nw n3.toNatClampNeg) 0).toInt (I (TA R nw n3.toNatClampNeg) 1).toInt (I (TA R nw n3.toNatClampNeg) 2).toInt (I (TA R nw n3.toNatClampNeg) 3).toInt) (I (TA R nw n3.toNatClampNeg) 0).toInt (I (TA R nw n3.toNatClampNeg) 1).toInt (I (TA R nw n3.toNatClampNeg) 2).toInt (I (TA R nw n3.toNatClampNeg) 3).toInt ((I (FA R nw n2.toNatClampNeg) 0).toInt, NF I (rA R (FA R nw n2.toNatClampNeg) 1)) (STL R I (SA R nw n1.toNatClampNeg)))) (v0 : 0 ≤ v.toInt) (v1 : v.toInt ≤ 1) (p0 : ∀ a1, R m 1 = some a1 → (n1.toInt < 0 ∨ (I1 a1 3).toInt ≤ n1.toInt ∨ n2.toInt < 0 ∨ (I1 a1 1).toInt ≤ n2.toInt ∨ n3.toInt < 0 ∨ (I1 a1 2).toInt ≤ n3.toInt) ∧ (I2 m 0).toInt = 1 ∨ ¬ (n1.toInt < 0 ∨ (I1 a1 3).toInt ≤ n1.toInt ∨ n2.toInt < 0 ∨ (I1 a1 1).toInt ≤ n2.toInt ∨ n3.toInt < 0 ∨ (I1 a1 2).toInt ≤ n3.toInt) ∧ (I2 m 0).toInt = 0 ∧ IFF v.toInt (SYQ (I1 a1 0).toInt ((TRL 1 (WSL (I1 a1) n1.toNatClampNeg) (0, fun _ => 0)).2 0) (dt (I1 a1 0).toInt (I1 a1 (166 + 4 * n3.toNatClampNeg + 0)).toInt (I1 a1 (166 + 4 * n3.toNatClampNeg + 1)).toInt (I1 a1 (166 + 4 * n3.toNatClampNeg + 2)).toInt (I1 a1 (166 + 4 * n3.toNatClampNeg + 3)).toInt) (I1 a1 (166 + 4 * n3.toNatClampNeg + 0)).toInt (I1 a1 (166 + 4 * n3.toNatClampNeg + 1)).toInt (I1 a1 (166 + 4 * n3.toNatClampNeg + 2)).toInt (I1 a1 (166 + 4 * n3.toNatClampNeg + 3)).toInt ((I1 a1 (6 + 10 * n2.toNatClampNeg)).toInt, (fun k => (I1 a1 (7 + 10 * n2.toNatClampNeg + k)).toInt)) (WSL (I1 a1) n1.toNatClampNeg))) : (I2 m 0).toInt = 0 ∧ v.toInt = u.toInt := by
  have w1 := E.1.2.2.2.2.2.2.2.2.2.2.1
  obtain ⟨-, -, b1, b2, b3⟩ := E.1.t
  have ew : I1 w = I w := c.1 w (fun q => E.1.2.2.2.1 _ q.1 b2)
  have P := p0 w w1
  rw [ew] at P
  have e := h.2.2.1.1
  have r := h.1.2.2.2.1
  have e0 := r.1.1
  have e1 := r.1.2.1
  have e2 := r.1.2.2.1
  have k1 := ncz (x := n1) (by omega)
  have k2 := ncz (x := n2) (by omega)
  have k3 := ncz (x := n3) (by omega)
  obtain ⟨h1, h2, h3, h4⟩ := h.2.2.1.2 n1.toNatClampNeg (by omega) (by omega)
  have hh := RY.hw E hl h n1.toNatClampNeg (by omega) (by omega)
  obtain ⟨fv, f0⟩ := RY.fv E hl h n2.toNatClampNeg (by omega) (I nw 0).toInt
  obtain ⟨y1, o1⟩ := r.2.2.1 n3.toNatClampNeg (by omega)
  have g : ∀ k, k < 4 → (I (TA R nw n3.toNatClampNeg) k).toInt = (I w (166 + 4 * n3.toNatClampNeg + k)).toInt := fun k hk => y1 k hk
  rw [h1, RK.eq (RY.sgn9 E hl h n1.toNatClampNeg (by omega) (by omega)) h4, g 0 (by decide), g 1 (by decide), g 2 (by decide), g 3 (by decide)] at q1
  rcases P with ⟨z, -⟩ | ⟨-, z, k⟩
  · exfalso; omega
  · refine ⟨z, ?_⟩
    rw [← e0] at k
    exact (IFF.u q1 k (SYQ.cg fv f0 hh) ⟨u0, u1⟩ ⟨v0, v1⟩).symm
theorem CMP_stays_3 {n1 n2 n3 v : Int32} {Q8 Q9 : Prop} (E : LX T N R A B x nw kp rd al m w im o cb tp) (hl : LI T R A m I) (h : RY R x nw kp rd cb m w im tp I) (c : CB (BS T R A) T [(2, 5), (3, 0)] I I1) (q0 : (n1.toInt < 0 ∨ (I nw 3).toInt ≤ n1.toInt ∨ 8 ≤ n1.toInt) ∨ (n2.toInt < 0 ∨ (I nw 1).toInt ≤ n2.toInt ∨ 16 ≤ n2.toInt) ∨ (n3.toInt < 0 ∨ (I nw 2).toInt ≤ n3.toInt ∨ 8 ≤ n3.toInt)) (_ : Q8) (_ : Q9) (p0 : ∀ a1, R m 1 = some a1 → (n1.toInt < 0 ∨ (I1 a1 3).toInt ≤ n1.toInt ∨ n2.toInt < 0 ∨ (I1 a1 1).toInt ≤ n2.toInt ∨ n3.toInt < 0 ∨ (I1 a1 2).toInt ≤ n3.toInt) ∧ (I2 m 0).toInt = 1 ∨ ¬ (n1.toInt < 0 ∨ (I1 a1 3).toInt ≤ n1.toInt ∨ n2.toInt < 0 ∨ (I1 a1 1).toInt ≤ n2.toInt ∨ n3.toInt < 0 ∨ (I1 a1 2).toInt ≤ n3.toInt) ∧ (I2 m 0).toInt = 0 ∧ IFF v.toInt (SYQ (I1 a1 0).toInt ((TRL 1 (WSL (I1 a1) n1.toNatClampNeg) (0, fun _ => 0)).2 0) (dt (I1 a1 0).toInt (I1 a1 (166 + 4 * n3.toNatClampNeg + 0)).toInt (I1 a1 (166 + 4 * n3.toNatClampNeg + 1)).toInt (I1 a1 (166 + 4 * n3.toNatClampNeg + 2)).toInt (I1 a1 (166 + 4 * n3.toNatClampNeg + 3)).toInt) (I1 a1 (166 + 4 * n3.toNatClampNeg + 0)).toInt (I1 a1 (166 + 4 * n3.toNatClampNeg + 1)).toInt (I1 a1 (166 + 4 * n3.toNatClampNeg + 2)).toInt (I1 a1 (166 + 4 * n3.toNatClampNeg + 3)).toInt ((I1 a1 (6 + 10 * n2.toNatClampNeg)).toInt, (fun k => (I1 a1 (7 + 10 * n2.toNatClampNeg + k)).toInt)) (WSL (I1 a1) n1.toNatClampNeg))) : (I2 m 0).toInt = 1 := by
  have w1 := E.1.2.2.2.2.2.2.2.2.2.2.1
  obtain ⟨-, -, b1, b2, b3⟩ := E.1.t
  have ew : I1 w = I w := c.1 w (fun q => E.1.2.2.2.1 _ q.1 b2)
  have P := p0 w w1
  rw [ew] at P
  have e := h.2.2.1.1
  have r := h.1.2.2.2.1
  have e1 := r.1.2.1
  have e2 := r.1.2.2.1
  have hb := (RY.b E hl h)
  have hq := (LI.wos E hl).1.b
  rcases P with ⟨-, z⟩ | ⟨z, -⟩
  · exact z
  · exfalso; omega
end Sta
/-! the class's calls, in the law's words -/
theorem kc_back {d : Nat} {T N : Nat → Nat} {I : IT} {L : LT} {R : RT} {A B : Nat → Prop} {x nw kp rd al m w im o cb tp : Nat} (E : LX T N R A B x nw kp rd al m w im o cb tp) (hl : LI T R A m I) (h : RY R x nw kp rd cb m w im tp I) : Ex (d + 5) 175 [.ref x] (T, N, I, L, R) 0 0 (pI T N R (fun x9 I9 L9 => (0 ≤ x9.toInt) ∧ (x9.toInt ≤ 1) ∧ (BKX R I9 I nw kp x9.toInt (I x 3).toInt) ∧ (x9.toInt ≠ 0 → SLL R I9 I nw kp (I kp 3).toInt) ∧ (IX A T I9 ∧ Chg (OWN R nw) T [(3, 0), (8, 2), (9, 0), (9, 1), (9, 2), (9, 3), (9, 4), (9, 5), (10, 0), (10, 1), (10, 2), (10, 3)] I L I9 L9))) := by
  obtain ⟨b1, b2, b3, b4, b5, b6⟩ := RY.b E hl h
  have hnk := E.1.2.2.2.2.2.2.2.1
  have bk := RY.bk E hl h
  have bk3 := RY.bk3 h
  obtain ⟨rfl, rfl, rfl, rfl, za, rfl⟩ := E.z
  exact s_X11_back_p BS.sub hl.1 E.h E.2.1 (Ne.symm hnk) (fun z => (bk z).1) (fun z => (bk z).2) (fun z => (bk3 z).1) (fun z => (bk3 z).2)

theorem kc_end {d : Nat} {T N : Nat → Nat} {I : IT} {L : LT} {R : RT} {A B : Nat → Prop} {x nw kp rd al m w im o cb tp : Nat} {n1 : Int32} (E : LX T N R A B x nw kp rd al m w im o cb tp) (hl : LI T R A m I) (h : RY R x nw kp rd cb m w im tp I) : Ex (d + 1) 127 [.ref x, .int n1] (T, N, I, L, R) 0 0 (pI T N R (fun x9 I9 L9 => (0 ≤ x9.toInt) ∧ (x9.toInt ≤ 1) ∧ ((n1.toInt < 0 ∨ (I rd 1).toInt < n1.toInt) ∧ x9.toInt = 0 ∧ (I9 rd 1).toInt = (I rd 1).toInt ∨ 0 ≤ n1.toInt ∧ n1.toInt ≤ (I rd 1).toInt ∧ x9.toInt = 1 ∧ (I9 rd 1).toInt = n1.toInt) ∧ (IX A T I9 ∧ Chg (SL [rd]) T [(5, 1)] I L I9 L9))) := by
  obtain ⟨b1, b2, b3, b4, b5, b6⟩ := RY.b E hl h
  have hnk := E.1.2.2.2.2.2.2.2.1
  obtain ⟨rfl, rfl, rfl, rfl, za, rfl⟩ := E.z
  exact s_X11_end_x BS.sub hl.1 E.h

theorem kc_feed {d : Nat} {T N : Nat → Nat} {I : IT} {L : LT} {R : RT} {A B : Nat → Prop} {x nw kp rd al m w im o cb tp : Nat} {n1 n2 n3 n4 n5 : Int32} (E : LX T N R A B x nw kp rd al m w im o cb tp) (hl : LI T R A m I) (h : RY R x nw kp rd cb m w im tp I) : Ex (d + 2) 126 [.ref x, .int n1, .int n2, .int n3, .int n4, .int n5] (T, N, I, L, R) 0 0 (pI T N R (fun x9 I9 L9 => (380 < (I rd 1).toInt ∧ x9.toInt = -1 ∧ (I9 rd 1).toInt = (I rd 1).toInt ∧ I9 cb = I cb ∨ (I rd 1).toInt ≤ 380 ∧ x9.toInt = (I rd 1).toInt + 20 ∧ (I9 rd 1).toInt = (I rd 1).toInt + 20 ∧ FDC (I9 cb) (I cb) (I rd 1).toNatClampNeg (F5 n1 n2 n3 n4 n5) 5) ∧ (IX A T I9 ∧ Chg (SL [rd, cb]) T [(5, 1)] I L I9 L9))) := by
  obtain ⟨b1, b2, b3, b4, b5, b6⟩ := RY.b E hl h
  have hnk := E.1.2.2.2.2.2.2.2.1
  obtain ⟨rfl, rfl, rfl, rfl, za, rfl⟩ := E.z
  exact s_X11_feed_x BS.sub hl.1 E.h (by omega) (by omega)

theorem kc_field {d : Nat} {T N : Nat → Nat} {I : IT} {L : LT} {R : RT} {A B : Nat → Prop} {x nw kp rd al m w im o cb tp : Nat} {n1 : Int32} (E : LX T N R A B x nw kp rd al m w im o cb tp) (hl : LI T R A m I) (h : RY R x nw kp rd cb m w im tp I) : Ex (d + 1) 128 [.ref x, .int n1] (T, N, I, L, R) 1 6 (pW2 [0, 1] T N R (pV T N R (fun I9 L9 => ((n1.toInt = 11 ∨ n1.toInt = 13 ∨ n1.toInt = 17 ∨ n1.toInt = 19) ∧ (I nw 1).toInt ≤ 0 ∧ (I nw 2).toInt ≤ 0) ∧ ((I9 nw 0).toInt = n1.toInt) ∧ (IX A T I9 ∧ Chg (SL [nw]) T [(9, 0)] I L I9 L9))) (fun e9 I9 L9 => (IX A T I9 ∧ Chg (SL [nw]) T [(9, 0)] I L I9 L9) ∧ (e9 = 0 → ¬ (n1.toInt = 11 ∨ n1.toInt = 13 ∨ n1.toInt = 17 ∨ n1.toInt = 19)) ∧ (e9 = 0 → ∀ a k, I9 a k = I a k) ∧ (e9 = 1 → (n1.toInt = 11 ∨ n1.toInt = 13 ∨ n1.toInt = 17 ∨ n1.toInt = 19) ∧ (0 < (I nw 1).toInt ∨ 0 < (I nw 2).toInt)) ∧ (e9 = 1 → ∀ a k, I9 a k = I a k))) := by
  obtain ⟨b1, b2, b3, b4, b5, b6⟩ := RY.b E hl h
  have hnk := E.1.2.2.2.2.2.2.2.1
  obtain ⟨rfl, rfl, rfl, rfl, za, rfl⟩ := E.z
  exact s_X11_field_x BS.sub hl.1 E.h

theorem kc_form {d : Nat} {T N : Nat → Nat} {I : IT} {L : LT} {R : RT} {A B : Nat → Prop} {x nw kp rd al m w im o cb tp : Nat} (E : LX T N R A B x nw kp rd al m w im o cb tp) (hl : LI T R A m I) (h : RY R x nw kp rd cb m w im tp I) : Ex (d + 4) 129 [.ref x] (T, N, I, L, R) 1 6 (pW2 [0, 2] T N R (pI T N R (fun x9 I9 L9 => ((I9 rd 1).toInt = 0) ∧ (1 ≤ (I rd 1).toInt ∧ (I rd 1).toInt ≤ 9 ∧ (I nw 1).toInt < 16 ∧ x9.toInt = (I nw 1).toInt) ∧ ((I9 nw 1).toInt = (I nw 1).toInt + 1) ∧ ((I9 nw 5).toInt = 0) ∧ ((I9 (FA R nw (I nw 1).toNatClampNeg) 0).toInt = (I rd 1).toInt - 1) ∧ (NMF I9 (rA R (FA R nw (I nw 1).toNatClampNeg) 1) (I rd 1).toInt (fun j => (I cb j).toInt % (I nw 0).toInt)) ∧ (IX A T I9 ∧ Chg (fun a => a = rd ∨ a = nw ∨ a = FA R nw (I nw 1).toNatClampNeg ∨ a = rA R (FA R nw (I nw 1).toNatClampNeg) 1) T [(3, 0), (5, 1), (9, 1), (9, 5)] I L I9 L9))) (fun e9 I9 L9 => (IX A T I9 ∧ Chg (fun a => a = rd ∨ a = nw ∨ a = FA R nw (I nw 1).toNatClampNeg ∨ a = rA R (FA R nw (I nw 1).toNatClampNeg) 1) T [(3, 0), (5, 1), (9, 1), (9, 5)] I L I9 L9) ∧ (e9 = 0 → (I rd 1).toInt < 1 ∨ 9 < (I rd 1).toInt) ∧ (e9 = 0 → (I9 rd 1).toInt = 0) ∧ (e9 = 0 → ∀ a, a ≠ rd → ∀ k, I9 a k = I a k) ∧ (e9 = 2 → 1 ≤ (I rd 1).toInt ∧ (I rd 1).toInt ≤ 9 ∧ 16 ≤ (I nw 1).toInt) ∧ (e9 = 2 → (I9 rd 1).toInt = 0) ∧ (e9 = 2 → ∀ a, a ≠ rd → ∀ k, I9 a k = I a k))) := by
  obtain ⟨b1, b2, b3, b4, b5, b6⟩ := RY.b E hl h
  have hnk := E.1.2.2.2.2.2.2.2.1
  obtain ⟨rfl, rfl, rfl, rfl, za, rfl⟩ := E.z
  exact s_X11_form_x BS.sub hl.1 E.h E.2.1 (by omega) (by omega) (by omega) za

theorem kc_image {d : Nat} {T N : Nat → Nat} {I : IT} {L : LT} {R : RT} {A B : Nat → Prop} {x nw kp rd al m w im o cb tp : Nat} (E : LX T N R A B x nw kp rd al m w im o cb tp) (hl : LI T R A m I) (h : RY R x nw kp rd cb m w im tp I) : Ex (d + 5) 174 [.ref x] (T, N, I, L, R) 0 0 (pV T N R (fun I9 L9 => ((I9 x 3).toInt = 1) ∧ ((I9 kp 0).toInt = (I nw 0).toInt) ∧ ((I9 kp 1).toInt = (I nw 1).toInt) ∧ ((I9 kp 2).toInt = (I nw 2).toInt) ∧ ((I9 kp 3).toInt = (I nw 3).toInt) ∧ ((I9 kp 4).toInt = (I nw 4).toInt) ∧ ((I9 kp 5).toInt = (I nw 5).toInt) ∧ (CAL R I9 I kp nw 40) ∧ (FLL R I9 I kp nw (I nw 1).toInt) ∧ (TLL R I9 I kp nw (I nw 2).toInt) ∧ (SLL R I9 I kp nw (I nw 3).toInt) ∧ (IX A T I9 ∧ Chg (fun a => OWN R kp a ∨ a = x) T [(3, 0), (8, 2), (9, 0), (9, 1), (9, 2), (9, 3), (9, 4), (9, 5), (10, 0), (10, 1), (10, 2), (10, 3), (12, 3)] I L I9 L9))) := by
  obtain ⟨b1, b2, b3, b4, b5, b6⟩ := RY.b E hl h
  have hnk := E.1.2.2.2.2.2.2.2.1
  have sl := RY.sl h
  obtain ⟨rfl, rfl, rfl, rfl, za, rfl⟩ := E.z
  exact s_X11_image_p BS.sub hl.1 E.h E.2.1 hnk (by omega) (by omega) (by omega) sl

theorem kc_join {d : Nat} {T N : Nat → Nat} {I : IT} {L : LT} {R : RT} {A B : Nat → Prop} {x nw kp rd al m w im o cb tp : Nat} {n1 n2 : Int32} (E : LX T N R A B x nw kp rd al m w im o cb tp) (hl : LI T R A m I) (h : RY R x nw kp rd cb m w im tp I) : Ex (d + 3) 141 [.ref x, .int n1, .int n2] (T, N, I, L, R) 3 18 (pW2 [2, 3] T N R (pI T N R (fun x9 I9 L9 => (¬ ((n1.toInt < 0 ∨ (I nw 2).toInt ≤ n1.toInt ∨ 8 ≤ n1.toInt) ∨ (n2.toInt < 0 ∨ (I nw 2).toInt ≤ n2.toInt ∨ 8 ≤ n2.toInt)) ∧ (I nw 2).toInt < 8 ∧ x9.toInt = (I nw 2).toInt) ∧ ((I9 nw 2).toInt = (I nw 2).toInt + 1) ∧ ((I9 (TA R nw (I nw 2).toNatClampNeg) 0).toInt = ((I (TA R nw n1.toNatClampNeg) 0).toInt * (I (TA R nw n2.toNatClampNeg) 0).toInt + (I (TA R nw n1.toNatClampNeg) 1).toInt * (I (TA R nw n2.toNatClampNeg) 2).toInt) % (I nw 0).toInt) ∧ ((I9 (TA R nw (I nw 2).toNatClampNeg) 1).toInt = ((I (TA R nw n1.toNatClampNeg) 0).toInt * (I (TA R nw n2.toNatClampNeg) 1).toInt + (I (TA R nw n1.toNatClampNeg) 1).toInt * (I (TA R nw n2.toNatClampNeg) 3).toInt) % (I nw 0).toInt) ∧ ((I9 (TA R nw (I nw 2).toNatClampNeg) 2).toInt = ((I (TA R nw n1.toNatClampNeg) 2).toInt * (I (TA R nw n2.toNatClampNeg) 0).toInt + (I (TA R nw n1.toNatClampNeg) 3).toInt * (I (TA R nw n2.toNatClampNeg) 2).toInt) % (I nw 0).toInt) ∧ ((I9 (TA R nw (I nw 2).toNatClampNeg) 3).toInt = ((I (TA R nw n1.toNatClampNeg) 2).toInt * (I (TA R nw n2.toNatClampNeg) 1).toInt + (I (TA R nw n1.toNatClampNeg) 3).toInt * (I (TA R nw n2.toNatClampNeg) 3).toInt) % (I nw 0).toInt) ∧ (IX A T I9 ∧ Chg (fun a => a = nw ∨ a = TA R nw (I nw 2).toNatClampNeg) T [(9, 2), (10, 0), (10, 1), (10, 2), (10, 3)] I L I9 L9))) (fun e9 I9 L9 => (IX A T I9 ∧ Chg (fun a => a = nw ∨ a = TA R nw (I nw 2).toNatClampNeg) T [(9, 2), (10, 0), (10, 1), (10, 2), (10, 3)] I L I9 L9) ∧ (e9 = 2 → ¬ ((n1.toInt < 0 ∨ (I nw 2).toInt ≤ n1.toInt ∨ 8 ≤ n1.toInt) ∨ (n2.toInt < 0 ∨ (I nw 2).toInt ≤ n2.toInt ∨ 8 ≤ n2.toInt)) ∧ 8 ≤ (I nw 2).toInt) ∧ (e9 = 2 → ∀ a k, I9 a k = I a k) ∧ (e9 = 3 → (n1.toInt < 0 ∨ (I nw 2).toInt ≤ n1.toInt ∨ 8 ≤ n1.toInt) ∨ (n2.toInt < 0 ∨ (I nw 2).toInt ≤ n2.toInt ∨ 8 ≤ n2.toInt)) ∧ (e9 = 3 → ∀ a k, I9 a k = I a k))) := by
  obtain ⟨b1, b2, b3, b4, b5, b6⟩ := RY.b E hl h
  have hnk := E.1.2.2.2.2.2.2.2.1
  have bt := RY.bt E h
  obtain ⟨rfl, rfl, rfl, rfl, za, rfl⟩ := E.z
  exact s_X11_join_x BS.sub hl.1 E.h E.2.1 (by omega) (by omega) za bt

theorem kc_mix {d : Nat} {T N : Nat → Nat} {I : IT} {L : LT} {R : RT} {A B : Nat → Prop} {x nw kp rd al m w im o cb tp : Nat} {n1 n2 : Int32} (E : LX T N R A B x nw kp rd al m w im o cb tp) (hl : LI T R A m I) (h : RY R x nw kp rd cb m w im tp I) : Ex (d + 5) 143 [.ref x, .int n1, .int n2] (T, N, I, L, R) 2 12 (pW2 [3] T N R (pI T N R (fun x9 I9 L9 => (0 ≤ x9.toInt) ∧ (x9.toInt ≤ 1) ∧ (¬ ((n1.toInt < 0 ∨ (I nw 1).toInt ≤ n1.toInt ∨ 16 ≤ n1.toInt) ∨ (n2.toInt < 0 ∨ (I nw 2).toInt ≤ n2.toInt ∨ 8 ≤ n2.toInt))) ∧ ((I9 (FA R nw n1.toNatClampNeg) 0).toInt = (I (FA R nw n1.toNatClampNeg) 0).toInt) ∧ (VRX I9 (rA R (FA R nw n1.toNatClampNeg) 1) (I nw 0).toInt (I (FA R nw n1.toNatClampNeg) 0).toInt (PmX (I (TA R nw n2.toNatClampNeg) 0).toInt (I (TA R nw n2.toNatClampNeg) 1).toInt (I (TA R nw n2.toNatClampNeg) 2).toInt (I (TA R nw n2.toNatClampNeg) 3).toInt (NF I (rA R (FA R nw n1.toNatClampNeg) 1)) (I (FA R nw n1.toNatClampNeg) 0).toInt.toNat)) ∧ (WRD R I9 I nw n1 (FA R nw n1.toNatClampNeg) (I nw 4).toInt) ∧ ((I9 nw 5).toInt = 0) ∧ (FSM R I9 I nw n1.toInt) ∧ (IFF (1 - x9.toInt) (∀ k : Nat, (k : Int) ≤ (I (FA R nw n1.toNatClampNeg) 0).toInt → (I9 (rA R (FA R nw n1.toNatClampNeg) 1) k).toInt = (I (rA R (FA R nw n1.toNatClampNeg) 1) k).toInt)) ∧ (IX A T I9 ∧ Chg (fun a => (BS T R A a ∧ T a ≠ 9) ∨ WSX R nw a ∨ a = FA R nw n1.toNatClampNeg ∨ a = rA R (FA R nw n1.toNatClampNeg) 1) T [(3, 0), (9, 4), (9, 5)] I L I9 L9))) (fun e9 I9 L9 => (IX A T I9 ∧ Chg (fun a => (BS T R A a ∧ T a ≠ 9) ∨ WSX R nw a ∨ a = FA R nw n1.toNatClampNeg ∨ a = rA R (FA R nw n1.toNatClampNeg) 1) T [(3, 0), (9, 4), (9, 5)] I L I9 L9) ∧ (e9 = 3 → ((n1.toInt < 0 ∨ (I nw 1).toInt ≤ n1.toInt ∨ 16 ≤ n1.toInt) ∨ (n2.toInt < 0 ∨ (I nw 2).toInt ≤ n2.toInt ∨ 8 ≤ n2.toInt))) ∧ (e9 = 3 → ∀ a k, I9 a k = I a k))) := by
  obtain ⟨b1, b2, b3, b4, b5, b6⟩ := RY.b E hl h
  have hnk := E.1.2.2.2.2.2.2.2.1
  have bt := RY.bt E h
  have bf := RY.bf E h
  have nb := LX.nb E
  obtain ⟨rfl, rfl, rfl, rfl, za, rfl⟩ := E.z
  exact s_X11_mix_x BS.sub hl.1 E.h E.2.1 (by omega) (by omega) za bf bt nb

theorem kc_redo {d : Nat} {T N : Nat → Nat} {I : IT} {L : LT} {R : RT} {A B : Nat → Prop} {x nw kp rd al m w im o cb tp : Nat} (E : LX T N R A B x nw kp rd al m w im o cb tp) (hl : LI T R A m I) (h : RY R x nw kp rd cb m w im tp I) : Ex (d + 4) 145 [.ref x] (T, N, I, L, R) 0 0 (pI T N R (fun x9 I9 L9 => (RDD R I9 I nw x9 (I nw 4).toInt (I nw 5).toInt) ∧ (IX A T I9 ∧ Chg (UDX R nw) T [(9, 4), (9, 5)] I L I9 L9))) := by
  obtain ⟨b1, b2, b3, b4, b5, b6⟩ := RY.b E hl h
  have hnk := E.1.2.2.2.2.2.2.2.1
  have ba := RY.ba E hl h
  obtain ⟨rfl, rfl, rfl, rfl, za, rfl⟩ := E.z
  exact s_X11_redo_x BS.sub hl.1 E.h E.2.1 (by omega) (by omega) (by omega) (by omega) (by omega) ba

theorem kc_signs {d : Nat} {T N : Nat → Nat} {I : IT} {L : LT} {R : RT} {A B : Nat → Prop} {x nw kp rd al m w im o cb tp : Nat} (E : LX T N R A B x nw kp rd al m w im o cb tp) (hl : LI T R A m I) (h : RY R x nw kp rd cb m w im tp I) : Ex (d + 31) 131 [.ref x] (T, N, I, L, R) 1 6 (pW2 [0, 2] T N R (pI T N R (fun x9 I9 L9 => ((I9 rd 1).toInt = 0) ∧ ((I nw 3).toInt < 8 ∧ x9.toInt = (I nw 3).toInt) ∧ ((I9 nw 3).toInt = (I nw 3).toInt + 1) ∧ (RDA 160 (BCH (I cb) (I rd 1).toInt) = some (STL R I9 (SA R nw (I nw 3).toNatClampNeg))) ∧ (0 ≤ (I9 (SA R nw (I nw 3).toNatClampNeg) 2).toInt ∧ (I9 (SA R nw (I nw 3).toNatClampNeg) 2).toInt ≤ 160) ∧ (IX A T I9 ∧ Chg (fun a => a = x ∨ a = rd ∨ a = (rA R rd 0) ∨ a = rA R (rA R rd 0) 0 ∨ a = rA R (rA R rd 0) 1 ∨ a = nw ∨ a = SA R nw (I nw 3).toNatClampNeg ∨ a = rA R (SA R nw (I nw 3).toNatClampNeg) 0 ∨ a = rA R (SA R nw (I nw 3).toNatClampNeg) 1) T [(5, 1), (5, 3), (5, 4), (5, 5), (8, 2), (9, 3), (12, 4)] I L I9 L9))) (fun e9 I9 L9 => (IX A T I9 ∧ Chg (fun a => a = x ∨ a = rd ∨ a = (rA R rd 0) ∨ a = rA R (rA R rd 0) 0 ∨ a = rA R (rA R rd 0) 1 ∨ a = nw ∨ a = SA R nw (I nw 3).toNatClampNeg ∨ a = rA R (SA R nw (I nw 3).toNatClampNeg) 0 ∨ a = rA R (SA R nw (I nw 3).toNatClampNeg) 1) T [(5, 1), (5, 3), (5, 4), (5, 5), (8, 2), (9, 3), (12, 4)] I L I9 L9) ∧ (e9 = 0 → (I9 rd 1).toInt = 0) ∧ (e9 = 0 → RDA 160 (BCH (I cb) (I rd 1).toInt) = none) ∧ (e9 = 0 → ∀ a, ¬ (a = x ∨ a = rd ∨ a = (rA R rd 0) ∨ a = rA R (rA R rd 0) 0 ∨ a = rA R (rA R rd 0) 1) → I9 a = I a) ∧ (e9 = 2 → (I9 rd 1).toInt = 0) ∧ (e9 = 2 → 8 ≤ (I nw 3).toInt) ∧ (e9 = 2 → RDA 160 (BCH (I cb) (I rd 1).toInt) ≠ none) ∧ (e9 = 2 → ∀ a, ¬ (a = x ∨ a = rd ∨ a = (rA R rd 0) ∨ a = rA R (rA R rd 0) 0 ∨ a = rA R (rA R rd 0) 1) → I9 a = I a))) := by
  obtain ⟨b1, b2, b3, b4, b5, b6⟩ := RY.b E hl h
  have hnk := E.1.2.2.2.2.2.2.2.1
  obtain ⟨rfl, rfl, rfl, rfl, za, rfl⟩ := E.z
  exact s_X11_signs_p BS.sub hl.1 E.h E.2.1 (by omega) (by omega) (by omega) (by omega)

theorem kc_stays {d : Nat} {T N : Nat → Nat} {I : IT} {L : LT} {R : RT} {A B : Nat → Prop} {x nw kp rd al m w im o cb tp : Nat} {n1 n2 n3 : Int32} (E : LX T N R A B x nw kp rd al m w im o cb tp) (hl : LI T R A m I) (h : RY R x nw kp rd cb m w im tp I) : Ex (d + 7) 148 [.ref x, .int n1, .int n2, .int n3] (T, N, I, L, R) 3 18 (pW2 [3] T N R (pI T N R (fun x9 I9 L9 => (0 ≤ x9.toInt) ∧ (x9.toInt ≤ 1) ∧ (¬ ((n1.toInt < 0 ∨ (I nw 3).toInt ≤ n1.toInt ∨ 8 ≤ n1.toInt) ∨ (n2.toInt < 0 ∨ (I nw 1).toInt ≤ n2.toInt ∨ 16 ≤ n2.toInt) ∨ (n3.toInt < 0 ∨ (I nw 2).toInt ≤ n3.toInt ∨ 8 ≤ n3.toInt))) ∧ (IFF x9.toInt (SYQ (I nw 0).toInt (RKC (TCL 1 (STL R I (SA R nw n1.toNatClampNeg)) (0, fun _ => 0))) (dt (I nw 0).toInt (I (TA R nw n3.toNatClampNeg) 0).toInt (I (TA R nw n3.toNatClampNeg) 1).toInt (I (TA R nw n3.toNatClampNeg) 2).toInt (I (TA R nw n3.toNatClampNeg) 3).toInt) (I (TA R nw n3.toNatClampNeg) 0).toInt (I (TA R nw n3.toNatClampNeg) 1).toInt (I (TA R nw n3.toNatClampNeg) 2).toInt (I (TA R nw n3.toNatClampNeg) 3).toInt ((I (FA R nw n2.toNatClampNeg) 0).toInt, NF I (rA R (FA R nw n2.toNatClampNeg) 1)) (STL R I (SA R nw n1.toNatClampNeg)))) ∧ (IX A T I9 ∧ Chg (BS T R A) T [(2, 5), (3, 0)] I L I9 L9))) (fun e9 I9 L9 => (IX A T I9 ∧ Chg (BS T R A) T [(2, 5), (3, 0)] I L I9 L9) ∧ (e9 = 3 → (n1.toInt < 0 ∨ (I nw 3).toInt ≤ n1.toInt ∨ 8 ≤ n1.toInt) ∨ (n2.toInt < 0 ∨ (I nw 1).toInt ≤ n2.toInt ∨ 16 ≤ n2.toInt) ∨ (n3.toInt < 0 ∨ (I nw 2).toInt ≤ n3.toInt ∨ 8 ≤ n3.toInt)))) := by
  obtain ⟨b1, b2, b3, b4, b5, b6⟩ := RY.b E hl h
  have hnk := E.1.2.2.2.2.2.2.2.1
  have bt := RY.bt E h
  have bf := RY.bf E h
  have rk := RY.rk E hl h
  have vs := RY.vs E hl h
  obtain ⟨rfl, rfl, rfl, rfl, za, rfl⟩ := E.z
  exact s_X11_stays_x BS.sub hl.1 E.h E.2.1 za E.2.2.2.2.2.1 bf vs rk bt

theorem kc_table {d : Nat} {T N : Nat → Nat} {I : IT} {L : LT} {R : RT} {A B : Nat → Prop} {x nw kp rd al m w im o cb tp : Nat} {n1 n2 n3 n4 : Int32} (E : LX T N R A B x nw kp rd al m w im o cb tp) (hl : LI T R A m I) (h : RY R x nw kp rd cb m w im tp I) : Ex (d + 3) 130 [.ref x, .int n1, .int n2, .int n3, .int n4] (T, N, I, L, R) 1 6 (pW2 [0, 2] T N R (pI T N R (fun x9 I9 L9 => (dt (I nw 0).toInt n1.toInt n2.toInt n3.toInt n4.toInt ≠ 0 ∧ (I nw 2).toInt < 8 ∧ x9.toInt = (I nw 2).toInt) ∧ ((I9 nw 2).toInt = (I nw 2).toInt + 1) ∧ ((I9 (TA R nw (I nw 2).toNatClampNeg) 0).toInt = n1.toInt % (I nw 0).toInt) ∧ ((I9 (TA R nw (I nw 2).toNatClampNeg) 1).toInt = n2.toInt % (I nw 0).toInt) ∧ ((I9 (TA R nw (I nw 2).toNatClampNeg) 2).toInt = n3.toInt % (I nw 0).toInt) ∧ ((I9 (TA R nw (I nw 2).toNatClampNeg) 3).toInt = n4.toInt % (I nw 0).toInt) ∧ (IX A T I9 ∧ Chg (fun a => a = nw ∨ a = TA R nw (I nw 2).toNatClampNeg) T [(9, 2), (10, 0), (10, 1), (10, 2), (10, 3)] I L I9 L9))) (fun e9 I9 L9 => (IX A T I9 ∧ Chg (fun a => a = nw ∨ a = TA R nw (I nw 2).toNatClampNeg) T [(9, 2), (10, 0), (10, 1), (10, 2), (10, 3)] I L I9 L9) ∧ (e9 = 0 → dt (I nw 0).toInt n1.toInt n2.toInt n3.toInt n4.toInt = 0) ∧ (e9 = 0 → ∀ a k, I9 a k = I a k) ∧ (e9 = 2 → dt (I nw 0).toInt n1.toInt n2.toInt n3.toInt n4.toInt ≠ 0 ∧ 8 ≤ (I nw 2).toInt) ∧ (e9 = 2 → ∀ a k, I9 a k = I a k))) := by
  obtain ⟨b1, b2, b3, b4, b5, b6⟩ := RY.b E hl h
  have hnk := E.1.2.2.2.2.2.2.2.1
  obtain ⟨rfl, rfl, rfl, rfl, za, rfl⟩ := E.z
  exact s_X11_table_x BS.sub hl.1 E.h E.2.1 (by omega) (by omega) za

theorem kc_turn {d : Nat} {T N : Nat → Nat} {I : IT} {L : LT} {R : RT} {A B : Nat → Prop} {x nw kp rd al m w im o cb tp : Nat} {n1 : Int32} (E : LX T N R A B x nw kp rd al m w im o cb tp) (hl : LI T R A m I) (h : RY R x nw kp rd cb m w im tp I) : Ex (d + 4) 142 [.ref x, .int n1] (T, N, I, L, R) 2 12 (pW2 [2, 3] T N R (pI T N R (fun x9 I9 L9 => (¬ (n1.toInt < 0 ∨ (I nw 2).toInt ≤ n1.toInt ∨ 8 ≤ n1.toInt) ∧ (I nw 2).toInt < 8 ∧ x9.toInt = (I nw 2).toInt) ∧ ((I9 nw 2).toInt = (I nw 2).toInt + 1) ∧ (TBC (I9 (TA R nw (I nw 2).toNatClampNeg) 0).toInt (I9 (TA R nw (I nw 2).toNatClampNeg) 1).toInt (I9 (TA R nw (I nw 2).toNatClampNeg) 2).toInt (I9 (TA R nw (I nw 2).toNatClampNeg) 3).toInt (I (TA R nw n1.toNatClampNeg) 0).toInt (I (TA R nw n1.toNatClampNeg) 1).toInt (I (TA R nw n1.toNatClampNeg) 2).toInt (I (TA R nw n1.toNatClampNeg) 3).toInt (I nw 0).toInt) ∧ (IX A T I9 ∧ Chg (fun a => a = nw ∨ a = TA R nw (I nw 2).toNatClampNeg) T [(9, 2), (10, 0), (10, 1), (10, 2), (10, 3)] I L I9 L9))) (fun e9 I9 L9 => (IX A T I9 ∧ Chg (fun a => a = nw ∨ a = TA R nw (I nw 2).toNatClampNeg) T [(9, 2), (10, 0), (10, 1), (10, 2), (10, 3)] I L I9 L9) ∧ (e9 = 2 → ¬ (n1.toInt < 0 ∨ (I nw 2).toInt ≤ n1.toInt ∨ 8 ≤ n1.toInt) ∧ 8 ≤ (I nw 2).toInt) ∧ (e9 = 2 → ∀ a k, I9 a k = I a k) ∧ (e9 = 3 → (n1.toInt < 0 ∨ (I nw 2).toInt ≤ n1.toInt ∨ 8 ≤ n1.toInt)) ∧ (e9 = 3 → ∀ a k, I9 a k = I a k))) := by
  obtain ⟨b1, b2, b3, b4, b5, b6⟩ := RY.b E hl h
  have hnk := E.1.2.2.2.2.2.2.2.1
  have bt := RY.bt E h
  obtain ⟨rfl, rfl, rfl, rfl, za, rfl⟩ := E.z
  exact s_X11_turn_x BS.sub hl.1 E.h E.2.1 (by omega) (by omega) za bt b6

theorem kc_undo {d : Nat} {T N : Nat → Nat} {I : IT} {L : LT} {R : RT} {A B : Nat → Prop} {x nw kp rd al m w im o cb tp : Nat} (E : LX T N R A B x nw kp rd al m w im o cb tp) (hl : LI T R A m I) (h : RY R x nw kp rd cb m w im tp I) : Ex (d + 4) 144 [.ref x] (T, N, I, L, R) 0 0 (pI T N R (fun x9 I9 L9 => (UND R I9 I nw x9 (I nw 4).toInt (I nw 5).toInt) ∧ (IX A T I9 ∧ Chg (UDX R nw) T [(9, 4), (9, 5)] I L I9 L9))) := by
  obtain ⟨b1, b2, b3, b4, b5, b6⟩ := RY.b E hl h
  have hnk := E.1.2.2.2.2.2.2.2.1
  have ba := RY.ba E hl h
  obtain ⟨rfl, rfl, rfl, rfl, za, rfl⟩ := E.z
  exact s_X11_undo_x BS.sub hl.1 E.h E.2.1 (by omega) (by omega) (by omega) (by omega) (by omega) ba
