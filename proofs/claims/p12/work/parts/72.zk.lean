/-! the law's invariants behind a call of the class -/
section Hl
variable {T N : Nat → Nat} {R : RT} {A B : Nat → Prop} {x nw kp rd al m w im o cb tp : Nat} {I I1 I2 : IT} {L L1 L2 : LT} {S : Nat → Prop} {Wl : List (Nat × Nat)}
theorem HL.c (E : LX T N R A B x nw kp rd al m w im o cb tp) (hl : LI T R A m I) (hx : IX A T I1) (c : CB S T Wl I I1) (hS : ∀ a, S a → A a) : LI T R A m I1 := hl.same E.1.2.1 hx (fun a ha => c.1 a (fun q => E.1.2.2.2.1 a (hS a q) ha))
theorem HL.rd9 (E : LX T N R A B x nw kp rd al m w im o cb tp) (hl : LI T R A m I) (hx : IX A T I1) (e : ∀ a, a ≠ rd → ∀ k, I1 a k = I a k) : LI T R A m I1 := hl.same E.1.2.1 hx (fun a ha => funext (e a (fun q => E.1.2.2.2.1 _ E.1.t.2.1.2.2.2 (q ▸ ha))))
theorem HL.s (_ : LX T N R A B x nw kp rd al m w im o cb tp) (hl : LI T R A m I) (e : ∀ a k, I1 a k = I a k) : LI T R A m I1 := by
  have q : I1 = I := funext fun a => funext (e a)
  rw [q]; exact hl
theorem SLf.a9 (E : LX T N R A B x nw kp rd al m w im o cb tp) {a : Nat} (q : SL [rd, cb] a) : A a := by
  have q := SL.a q
  simp only [List.mem_cons, List.not_mem_nil, or_false] at q
  rcases q with q | q
  · rw [q]; exact E.1.t.2.1.2.2.2
  · rw [q]; exact E.c.2
/-- a number looked at -/
theorem DON.eq {x y D : Int} {f g : Nat → Int} {k : Int} (h : DON x D f k) (g9 : DON y D g k) (e : ∀ i : Nat, (i : Int) ≤ D → f i = g i) : x = y := by
  by_cases z : k = -1
  · rw [h.1 z, g9.1 z]
  · by_cases q : k < 0 ∨ D < k
    · rw [h.2.1 z q, g9.2.1 z q]
    · rw [h.2.2 (by omega) (by omega), g9.2.2 (by omega) (by omega)]; exact e _ (by omega)
end Hl
/-! at, det, told, undo, redo, mix: both sides' answers are the same -/
theorem VAD.hr {s t p x y D : Int} {f : Nat → Int} (h : VAD s p f x y D) (g : PmE p t (HRV x y f (D + 1).toNat)) (b : 0 ≤ t ∧ t < p) (hD : 0 ≤ D) (hx : 0 ≤ x) (hy : 0 ≤ y) (hf : ∀ k : Nat, (k : Int) ≤ D → 0 ≤ f k) : s = t := by
  unfold VAD at h
  have e := vaS.h (p := p) (x := x) (y := y) (f := f) (D := D.toNat) (D.toNat + 1) (Nat.le_refl _)
  rw [Nat.sub_self] at e
  have e : PmE p (vaS p f x y D.toNat (D.toNat + 1)) (HRV x y f (D.toNat + 1) * 1) := e
  rw [Int.mul_one, ← h] at e
  rw [show (D + 1).toNat = D.toNat + 1 from by omega] at g
  have bs := vaS.b (p := p) (x := x) (y := y) (f := f) (D := D.toNat) (by omega) hx hy (fun k hk => hf k (by omega)) (D.toNat + 1) (Nat.le_refl _)
  rw [← h] at bs
  exact (e.tr g.sy).eq bs.1 bs.2 b.1 b.2
section Cmp
variable {T N : Nat → Nat} {R : RT} {A B : Nat → Prop} {x nw kp rd al m w im o cb tp : Nat} {I I1 I2 : IT} {L L1 L2 : LT}
theorem RY.b18 (E : LX T N R A B x nw kp rd al m w im o cb tp) (hl : LI T R A m I) (h : RY R x nw kp rd cb m w im tp I) : ∀ j : Nat, (j : Int) < (I nw 1).toInt → ∀ k : Nat, (k : Int) ≤ (I (FA R nw j) 0).toInt → 0 ≤ (I (rA R (FA R nw j) 1) k).toInt ∧ (I (rA R (FA R nw j) 1) k).toInt ≤ 18 := fun j hj k hk => by
  have hp := (LI.wos E hl).1.pr
  have b := RY.bf E h j hj k hk
  have e0 := h.2.2.2.1.1.1
  omega
theorem CMP_mix {n1 n2 u v : Int32} {Q4 Q5 Q6 Q7 P2 P3 P5 : Prop} (E : LX T N R A B x nw kp rd al m w im o cb tp) (hl : LI T R A m I) (h : RY R x nw kp rd cb m w im tp I) (h2 : RY R x nw kp rd cb m w im tp I2) (c : CB (sMx T R A nw n1.toNatClampNeg) T [(3, 0), (9, 4), (9, 5)] I I1) (cm : CM B R m [0, 6, 7, 8, 9] [1, 4, 5] I1 L1 I2 L2) (q0 : 0 ≤ u.toInt) (q1 : u.toInt ≤ 1) (q2 : ¬ ((n1.toInt < 0 ∨ (I nw 1).toInt ≤ n1.toInt ∨ 16 ≤ n1.toInt) ∨ (n2.toInt < 0 ∨ (I nw 2).toInt ≤ n2.toInt ∨ 8 ≤ n2.toInt))) (q3 : (I1 (FA R nw n1.toNatClampNeg) 0).toInt = (I (FA R nw n1.toNatClampNeg) 0).toInt) (_ : Q4) (_ : Q5) (_ : Q6) (_ : Q7) (q8 : IFF (1 - u.toInt) (∀ k : Nat, (k : Int) ≤ (I (FA R nw n1.toNatClampNeg) 0).toInt → (I1 (rA R (FA R nw n1.toNatClampNeg) 1) k).toInt = (I (rA R (FA R nw n1.toNatClampNeg) 1) k).toInt)) (p0 : 0 ≤ v.toInt) (p1 : v.toInt ≤ 1) (_ : P2) (_ : P3) (p4 : ∀ a1, R m 1 = some a1 → (I2 m 0).toInt = 0 → MFX v.toInt (I2 a1) (I1 a1) n1.toNatClampNeg) (_ : P5) (p6 : ∀ a1, R m 1 = some a1 → ¬ (n1.toInt < 0 ∨ (I1 a1 1).toInt ≤ n1.toInt ∨ n2.toInt < 0 ∨ (I1 a1 2).toInt ≤ n2.toInt) ∧ (I2 m 0).toInt = 0 ∨ (n1.toInt < 0 ∨ (I1 a1 1).toInt ≤ n1.toInt ∨ n2.toInt < 0 ∨ (I1 a1 2).toInt ≤ n2.toInt) ∧ (I2 m 0).toInt = 1) (p7 : ∀ a1, R m 1 = some a1 → ∀ r : Nat, r < 4 → I2 a1 r = I1 a1 r) : (I2 m 0).toInt = 0 ∧ v.toInt = u.toInt := by
  have w1 := E.1.2.2.2.2.2.2.2.2.2.2.1
  have hb := (LI.wos E hl).1.b
  have hp := (LI.wos E hl).1.pr
  have r := h.2.2.2.1
  have e0 := r.1.1
  have e1 := r.1.2.1
  have e2 := r.1.2.2.1
  have f16 : n1.toNatClampNeg < 16 := ncn (by omega) (by omega)
  have k1 := ncz (x := n1) (by omega)
  have nAB := E.1.2.2.2.1
  have eB : I1 w = I w := c.1 w (fun q => nAB w (sMx.a9 E f16 q) E.1.t.2.2.2.1)
  have eA : ∀ a, A a → I2 a = I1 a := fun a ha => (cm.1 a (nAB a ha)).1
  have Z := p6 w w1
  rw [eB] at Z
  have z : (I2 m 0).toInt = 0 := by omega
  have X := p4 w w1 z
  have W1 := p7 w w1 1 (by decide)
  rw [eB] at X W1
  obtain ⟨f1, -⟩ := r.2.1 n1.toNatClampNeg (by omega)
  obtain ⟨g1, -⟩ := h2.2.2.2.1.2.1 n1.toNatClampNeg (by rw [W1]; omega)
  have a1 := eA (FA R nw n1.toNatClampNeg) (OWN.a9 E.s.1 (OWN.f rfl f16))
  have a2 := eA (rA R (FA R nw n1.toNatClampNeg) 1) (OWN.a9 E.s.1 (OWN.fb rfl f16))
  have d1 := f1.1
  have d2 := g1.1
  rw [a1, q3, d1] at d2
  have key : (∀ k : Nat, (k : Int) ≤ (I (FA R nw n1.toNatClampNeg) 0).toInt → (I1 (rA R (FA R nw n1.toNatClampNeg) 1) k).toInt = (I (rA R (FA R nw n1.toNatClampNeg) 1) k).toInt) ↔ (∀ k : Nat, (k : Int) ≤ (I w (6 + 10 * n1.toNatClampNeg)).toInt → (I2 w (7 + 10 * n1.toNatClampNeg + k)).toInt = (I w (7 + 10 * n1.toNatClampNeg + k)).toInt) := by
    have e9 : ∀ k : Nat, (k : Int) ≤ WD (I w) n1.toNatClampNeg → (I1 (rA R (FA R nw n1.toNatClampNeg) 1) k).toInt = WN (I2 w) n1.toNatClampNeg k ∧ (I (rA R (FA R nw n1.toNatClampNeg) 1) k).toInt = WN (I w) n1.toNatClampNeg k := fun k hk => by
      refine ⟨?_, f1.2 k hk⟩
      rw [← a2]; exact g1.2 k (by rw [← d2]; exact hk)
    rw [d1]
    exact ⟨fun g k hk => by have := e9 k hk; have g9 := g k hk; show WN (I2 w) n1.toNatClampNeg k = WN (I w) n1.toNatClampNeg k; rw [← this.1, ← this.2]; exact g9, fun g k hk => by have := e9 k hk; rw [this.1, this.2]; exact g k hk⟩
  refine ⟨z, ?_⟩
  unfold MFX at X
  by_cases y : u.toInt = 0
  · have P := key.mp (q8.1 (by omega))
    by_cases y2 : v.toInt = 0
    · omega
    · exact absurd P (X.2 (by omega))
  · have P : ¬ _ := q8.2 (by omega)
    by_cases y2 : v.toInt = 0
    · exact absurd (key.mpr (X.1 (by omega))) P
    · omega
theorem CMP_mix_3 {n1 n2 : Int32} {P0 P1 P2 P3 P4 P5 P7 : Prop} (E : LX T N R A B x nw kp rd al m w im o cb tp) (hl : LI T R A m I) (h : RY R x nw kp rd cb m w im tp I) (q0 : (n1.toInt < 0 ∨ (I nw 1).toInt ≤ n1.toInt ∨ 16 ≤ n1.toInt) ∨ (n2.toInt < 0 ∨ (I nw 2).toInt ≤ n2.toInt ∨ 8 ≤ n2.toInt)) (q1 : ∀ a k, I1 a k = I a k) (_ : P0) (_ : P1) (_ : P2) (_ : P3) (_ : P4) (_ : P5) (p6 : ∀ a1, R m 1 = some a1 → ¬ (n1.toInt < 0 ∨ (I1 a1 1).toInt ≤ n1.toInt ∨ n2.toInt < 0 ∨ (I1 a1 2).toInt ≤ n2.toInt) ∧ (I2 m 0).toInt = 0 ∨ (n1.toInt < 0 ∨ (I1 a1 1).toInt ≤ n1.toInt ∨ n2.toInt < 0 ∨ (I1 a1 2).toInt ≤ n2.toInt) ∧ (I2 m 0).toInt = 1) (_ : P7) : (I2 m 0).toInt = 1 := by
  have w1 := E.1.2.2.2.2.2.2.2.2.2.2.1
  have hb := (LI.wos E hl).1.b
  have r := h.2.2.2.1
  have e1 := r.1.2.1
  have e2 := r.1.2.2.1
  have Z := p6 w w1
  rw [q1 w 1, q1 w 2] at Z
  rcases Z with ⟨z, -⟩ | ⟨-, z⟩
  · exfalso; omega
  · exact z
end Cmp
/-! the class's calls, in the law's words -/
theorem kc_back {d : Nat} {T N : Nat → Nat} {I : IT} {L : LT} {R : RT} {A B : Nat → Prop} {x nw kp rd al m w im o cb tp : Nat} (E : LX T N R A B x nw kp rd al m w im o cb tp) (hl : LI T R A m I) (h : RY R x nw kp rd cb m w im tp I) : Ex (d + 5) 175 [.ref x] (T, N, I, L, R) 0 0 (pI T N R (fun x9 I9 L9 => (0 ≤ x9.toInt) ∧ (x9.toInt ≤ 1) ∧ (BKX R I9 I nw kp x9.toInt (I x 3).toInt) ∧ (IX A T I9 ∧ Chg (OWN R nw) T [(3, 0), (8, 2), (9, 0), (9, 1), (9, 2), (9, 3), (9, 4), (9, 5), (10, 0), (10, 1), (10, 2), (10, 3)] I L I9 L9))) := by
  obtain ⟨b1, b2, b3, b4, b5, b6⟩ := RY.b E hl h
  have hnk := E.1.2.2.2.2.2.2.2.1
  have bk := RY.bk E hl h
  obtain ⟨rfl, rfl, rfl, rfl, za, rfl⟩ := E.z
  exact s_X11_back_y BS.sub hl.1 E.h E.2.1 (Ne.symm hnk) (fun z => (bk z).1) (fun z => (bk z).2)

theorem kc_end {d : Nat} {T N : Nat → Nat} {I : IT} {L : LT} {R : RT} {A B : Nat → Prop} {x nw kp rd al m w im o cb tp : Nat} {n1 : Int32} (E : LX T N R A B x nw kp rd al m w im o cb tp) (hl : LI T R A m I) (h : RY R x nw kp rd cb m w im tp I) : Ex (d + 1) 127 [.ref x, .int n1] (T, N, I, L, R) 0 0 (pI T N R (fun x9 I9 L9 => (0 ≤ x9.toInt) ∧ (x9.toInt ≤ 1) ∧ ((n1.toInt < 0 ∨ (I rd 1).toInt < n1.toInt) ∧ x9.toInt = 0 ∧ (I9 rd 1).toInt = (I rd 1).toInt ∨ 0 ≤ n1.toInt ∧ n1.toInt ≤ (I rd 1).toInt ∧ x9.toInt = 1 ∧ (I9 rd 1).toInt = n1.toInt) ∧ (IX A T I9 ∧ Chg (SL [rd]) T [(5, 1)] I L I9 L9))) := by
  obtain ⟨b1, b2, b3, b4, b5, b6⟩ := RY.b E hl h
  have hnk := E.1.2.2.2.2.2.2.2.1
  obtain ⟨rfl, rfl, rfl, rfl, za, rfl⟩ := E.z
  exact s_X11_end_x BS.sub hl.1 E.h

theorem kc_feed {d : Nat} {T N : Nat → Nat} {I : IT} {L : LT} {R : RT} {A B : Nat → Prop} {x nw kp rd al m w im o cb tp : Nat} {n1 n2 n3 n4 n5 : Int32} (E : LX T N R A B x nw kp rd al m w im o cb tp) (hl : LI T R A m I) (h : RY R x nw kp rd cb m w im tp I) : Ex (d + 2) 126 [.ref x, .int n1, .int n2, .int n3, .int n4, .int n5] (T, N, I, L, R) 0 0 (pI T N R (fun x9 I9 L9 => (380 < (I rd 1).toInt ∧ x9.toInt = -1 ∧ (I9 rd 1).toInt = (I rd 1).toInt ∧ I9 cb = I cb ∨ (I rd 1).toInt ≤ 380 ∧ x9.toInt = (I rd 1).toInt + 20 ∧ (I9 rd 1).toInt = (I rd 1).toInt + 20 ∧ FDC (I9 cb) (I cb) (I rd 1).toNatClampNeg (F5 n1 n2 n3 n4 n5) 5) ∧ (IX A T I9 ∧ Chg (SL [rd, cb]) T [(5, 1)] I L I9 L9))) := by
  obtain ⟨b1, b2, b3, b4, b5, b6⟩ := RY.b E hl h
  have hnk := E.1.2.2.2.2.2.2.2.1
  obtain ⟨rfl, rfl, rfl, rfl, za, rfl⟩ := E.z
  exact s_X11_feed_x BS.sub hl.1 E.h (by omega) (by omega)

theorem kc_field {d : Nat} {T N : Nat → Nat} {I : IT} {L : LT} {R : RT} {A B : Nat → Prop} {x nw kp rd al m w im o cb tp : Nat} {n1 : Int32} (E : LX T N R A B x nw kp rd al m w im o cb tp) (hl : LI T R A m I) (h : RY R x nw kp rd cb m w im tp I) : Ex (d + 1) 128 [.ref x, .int n1] (T, N, I, L, R) 1 6 (pW2 [0, 1] T N R (pV T N R (fun I9 L9 => ((n1.toInt = 11 ∨ n1.toInt = 13 ∨ n1.toInt = 17 ∨ n1.toInt = 19) ∧ (I nw 1).toInt ≤ 0 ∧ (I nw 2).toInt ≤ 0) ∧ ((I9 nw 0).toInt = n1.toInt) ∧ (IX A T I9 ∧ Chg (SL [nw]) T [(9, 0)] I L I9 L9))) (fun e9 I9 L9 => (IX A T I9 ∧ Chg (SL [nw]) T [(9, 0)] I L I9 L9) ∧ (e9 = 0 → ¬ (n1.toInt = 11 ∨ n1.toInt = 13 ∨ n1.toInt = 17 ∨ n1.toInt = 19)) ∧ (e9 = 0 → ∀ a k, I9 a k = I a k) ∧ (e9 = 1 → (n1.toInt = 11 ∨ n1.toInt = 13 ∨ n1.toInt = 17 ∨ n1.toInt = 19) ∧ (0 < (I nw 1).toInt ∨ 0 < (I nw 2).toInt)) ∧ (e9 = 1 → ∀ a k, I9 a k = I a k))) := by
  obtain ⟨b1, b2, b3, b4, b5, b6⟩ := RY.b E hl h
  have hnk := E.1.2.2.2.2.2.2.2.1
  obtain ⟨rfl, rfl, rfl, rfl, za, rfl⟩ := E.z
  exact s_X11_field_x BS.sub hl.1 E.h

theorem kc_form {d : Nat} {T N : Nat → Nat} {I : IT} {L : LT} {R : RT} {A B : Nat → Prop} {x nw kp rd al m w im o cb tp : Nat} (E : LX T N R A B x nw kp rd al m w im o cb tp) (hl : LI T R A m I) (h : RY R x nw kp rd cb m w im tp I) : Ex (d + 4) 129 [.ref x] (T, N, I, L, R) 1 6 (pW2 [0, 2] T N R (pI T N R (fun x9 I9 L9 => ((I9 rd 1).toInt = 0) ∧ (1 ≤ (I rd 1).toInt ∧ (I rd 1).toInt ≤ 9 ∧ (I nw 1).toInt < 16 ∧ x9.toInt = (I nw 1).toInt) ∧ ((I9 nw 1).toInt = (I nw 1).toInt + 1) ∧ ((I9 nw 5).toInt = 0) ∧ ((I9 (FA R nw (I nw 1).toNatClampNeg) 0).toInt = (I rd 1).toInt - 1) ∧ (NMF I9 (rA R (FA R nw (I nw 1).toNatClampNeg) 1) (I rd 1).toInt (fun j => (I cb j).toInt % (I nw 0).toInt)) ∧ (IX A T I9 ∧ Chg (fun a => a = rd ∨ a = nw ∨ a = FA R nw (I nw 1).toNatClampNeg ∨ a = rA R (FA R nw (I nw 1).toNatClampNeg) 1) T [(3, 0), (5, 1), (9, 1), (9, 5)] I L I9 L9))) (fun e9 I9 L9 => (IX A T I9 ∧ Chg (fun a => a = rd ∨ a = nw ∨ a = FA R nw (I nw 1).toNatClampNeg ∨ a = rA R (FA R nw (I nw 1).toNatClampNeg) 1) T [(3, 0), (5, 1), (9, 1), (9, 5)] I L I9 L9) ∧ (e9 = 0 → (I rd 1).toInt < 1 ∨ 9 < (I rd 1).toInt) ∧ (e9 = 0 → (I9 rd 1).toInt = 0) ∧ (e9 = 0 → ∀ a, a ≠ rd → ∀ k, I9 a k = I a k) ∧ (e9 = 2 → 1 ≤ (I rd 1).toInt ∧ (I rd 1).toInt ≤ 9 ∧ 16 ≤ (I nw 1).toInt) ∧ (e9 = 2 → (I9 rd 1).toInt = 0) ∧ (e9 = 2 → ∀ a, a ≠ rd → ∀ k, I9 a k = I a k))) := by
  obtain ⟨b1, b2, b3, b4, b5, b6⟩ := RY.b E hl h
  have hnk := E.1.2.2.2.2.2.2.2.1
  obtain ⟨rfl, rfl, rfl, rfl, za, rfl⟩ := E.z
  exact s_X11_form_x BS.sub hl.1 E.h E.2.1 (by omega) (by omega) (by omega) za

theorem kc_image {d : Nat} {T N : Nat → Nat} {I : IT} {L : LT} {R : RT} {A B : Nat → Prop} {x nw kp rd al m w im o cb tp : Nat} (E : LX T N R A B x nw kp rd al m w im o cb tp) (hl : LI T R A m I) (h : RY R x nw kp rd cb m w im tp I) : Ex (d + 5) 174 [.ref x] (T, N, I, L, R) 0 0 (pV T N R (fun I9 L9 => ((I9 x 3).toInt = 1) ∧ ((I9 kp 0).toInt = (I nw 0).toInt) ∧ ((I9 kp 1).toInt = (I nw 1).toInt) ∧ ((I9 kp 2).toInt = (I nw 2).toInt) ∧ ((I9 kp 3).toInt = (I nw 3).toInt) ∧ ((I9 kp 4).toInt = (I nw 4).toInt) ∧ ((I9 kp 5).toInt = (I nw 5).toInt) ∧ (CAL R I9 I kp nw 40) ∧ (FLL R I9 I kp nw (I nw 1).toInt) ∧ (TLL R I9 I kp nw (I nw 2).toInt) ∧ (IX A T I9 ∧ Chg (fun a => OWN R kp a ∨ a = x) T [(3, 0), (8, 2), (9, 0), (9, 1), (9, 2), (9, 3), (9, 4), (9, 5), (10, 0), (10, 1), (10, 2), (10, 3), (12, 3)] I L I9 L9))) := by
  obtain ⟨b1, b2, b3, b4, b5, b6⟩ := RY.b E hl h
  have hnk := E.1.2.2.2.2.2.2.2.1
  obtain ⟨rfl, rfl, rfl, rfl, za, rfl⟩ := E.z
  exact s_X11_image_x BS.sub hl.1 E.h E.2.1 hnk (by omega) (by omega)

theorem kc_join {d : Nat} {T N : Nat → Nat} {I : IT} {L : LT} {R : RT} {A B : Nat → Prop} {x nw kp rd al m w im o cb tp : Nat} {n1 n2 : Int32} (E : LX T N R A B x nw kp rd al m w im o cb tp) (hl : LI T R A m I) (h : RY R x nw kp rd cb m w im tp I) : Ex (d + 3) 141 [.ref x, .int n1, .int n2] (T, N, I, L, R) 3 18 (pW2 [2, 3] T N R (pI T N R (fun x9 I9 L9 => (¬ ((n1.toInt < 0 ∨ (I nw 2).toInt ≤ n1.toInt ∨ 8 ≤ n1.toInt) ∨ (n2.toInt < 0 ∨ (I nw 2).toInt ≤ n2.toInt ∨ 8 ≤ n2.toInt)) ∧ (I nw 2).toInt < 8 ∧ x9.toInt = (I nw 2).toInt) ∧ ((I9 nw 2).toInt = (I nw 2).toInt + 1) ∧ ((I9 (TA R nw (I nw 2).toNatClampNeg) 0).toInt = ((I (TA R nw n1.toNatClampNeg) 0).toInt * (I (TA R nw n2.toNatClampNeg) 0).toInt + (I (TA R nw n1.toNatClampNeg) 1).toInt * (I (TA R nw n2.toNatClampNeg) 2).toInt) % (I nw 0).toInt) ∧ ((I9 (TA R nw (I nw 2).toNatClampNeg) 1).toInt = ((I (TA R nw n1.toNatClampNeg) 0).toInt * (I (TA R nw n2.toNatClampNeg) 1).toInt + (I (TA R nw n1.toNatClampNeg) 1).toInt * (I (TA R nw n2.toNatClampNeg) 3).toInt) % (I nw 0).toInt) ∧ ((I9 (TA R nw (I nw 2).toNatClampNeg) 2).toInt = ((I (TA R nw n1.toNatClampNeg) 2).toInt * (I (TA R nw n2.toNatClampNeg) 0).toInt + (I (TA R nw n1.toNatClampNeg) 3).toInt * (I (TA R nw n2.toNatClampNeg) 2).toInt) % (I nw 0).toInt) ∧ ((I9 (TA R nw (I nw 2).toNatClampNeg) 3).toInt = ((I (TA R nw n1.toNatClampNeg) 2).toInt * (I (TA R nw n2.toNatClampNeg) 1).toInt + (I (TA R nw n1.toNatClampNeg) 3).toInt * (I (TA R nw n2.toNatClampNeg) 3).toInt) % (I nw 0).toInt) ∧ (IX A T I9 ∧ Chg (fun a => a = nw ∨ a = TA R nw (I nw 2).toNatClampNeg) T [(9, 2), (10, 0), (10, 1), (10, 2), (10, 3)] I L I9 L9))) (fun e9 I9 L9 => (IX A T I9 ∧ Chg (fun a => a = nw ∨ a = TA R nw (I nw 2).toNatClampNeg) T [(9, 2), (10, 0), (10, 1), (10, 2), (10, 3)] I L I9 L9) ∧ (e9 = 2 → ¬ ((n1.toInt < 0 ∨ (I nw 2).toInt ≤ n1.toInt ∨ 8 ≤ n1.toInt) ∨ (n2.toInt < 0 ∨ (I nw 2).toInt ≤ n2.toInt ∨ 8 ≤ n2.toInt)) ∧ 8 ≤ (I nw 2).toInt) ∧ (e9 = 2 → ∀ a k, I9 a k = I a k) ∧ (e9 = 3 → (n1.toInt < 0 ∨ (I nw 2).toInt ≤ n1.toInt ∨ 8 ≤ n1.toInt) ∨ (n2.toInt < 0 ∨ (I nw 2).toInt ≤ n2.toInt ∨ 8 ≤ n2.toInt)) ∧ (e9 = 3 → ∀ a k, I9 a k = I a k))) := by
  obtain ⟨b1, b2, b3, b4, b5, b6⟩ := RY.b E hl h
  have hnk := E.1.2.2.2.2.2.2.2.1
  have bt := RY.bt E h
  obtain ⟨rfl, rfl, rfl, rfl, za, rfl⟩ := E.z
  exact s_X11_join_x BS.sub hl.1 E.h E.2.1 (by omega) (by omega) za bt

theorem kc_mix {d : Nat} {T N : Nat → Nat} {I : IT} {L : LT} {R : RT} {A B : Nat → Prop} {x nw kp rd al m w im o cb tp : Nat} {n1 n2 : Int32} (E : LX T N R A B x nw kp rd al m w im o cb tp) (hl : LI T R A m I) (h : RY R x nw kp rd cb m w im tp I) : Ex (d + 5) 143 [.ref x, .int n1, .int n2] (T, N, I, L, R) 2 12 (pW2 [3] T N R (pI T N R (fun x9 I9 L9 => (0 ≤ x9.toInt) ∧ (x9.toInt ≤ 1) ∧ (¬ ((n1.toInt < 0 ∨ (I nw 1).toInt ≤ n1.toInt ∨ 16 ≤ n1.toInt) ∨ (n2.toInt < 0 ∨ (I nw 2).toInt ≤ n2.toInt ∨ 8 ≤ n2.toInt))) ∧ ((I9 (FA R nw n1.toNatClampNeg) 0).toInt = (I (FA R nw n1.toNatClampNeg) 0).toInt) ∧ (VRX I9 (rA R (FA R nw n1.toNatClampNeg) 1) (I nw 0).toInt (I (FA R nw n1.toNatClampNeg) 0).toInt (PmX (I (TA R nw n2.toNatClampNeg) 0).toInt (I (TA R nw n2.toNatClampNeg) 1).toInt (I (TA R nw n2.toNatClampNeg) 2).toInt (I (TA R nw n2.toNatClampNeg) 3).toInt (NF I (rA R (FA R nw n1.toNatClampNeg) 1)) (I (FA R nw n1.toNatClampNeg) 0).toInt.toNat)) ∧ (WRD R I9 I nw n1 (FA R nw n1.toNatClampNeg) (I nw 4).toInt) ∧ ((I9 nw 5).toInt = 0) ∧ (FSM R I9 I nw n1.toInt) ∧ (IFF (1 - x9.toInt) (∀ k : Nat, (k : Int) ≤ (I (FA R nw n1.toNatClampNeg) 0).toInt → (I9 (rA R (FA R nw n1.toNatClampNeg) 1) k).toInt = (I (rA R (FA R nw n1.toNatClampNeg) 1) k).toInt)) ∧ (IX A T I9 ∧ Chg (fun a => (BS T R A a ∧ T a ≠ 9) ∨ WSX R nw a ∨ a = FA R nw n1.toNatClampNeg ∨ a = rA R (FA R nw n1.toNatClampNeg) 1) T [(3, 0), (9, 4), (9, 5)] I L I9 L9))) (fun e9 I9 L9 => (IX A T I9 ∧ Chg (fun a => (BS T R A a ∧ T a ≠ 9) ∨ WSX R nw a ∨ a = FA R nw n1.toNatClampNeg ∨ a = rA R (FA R nw n1.toNatClampNeg) 1) T [(3, 0), (9, 4), (9, 5)] I L I9 L9) ∧ (e9 = 3 → ((n1.toInt < 0 ∨ (I nw 1).toInt ≤ n1.toInt ∨ 16 ≤ n1.toInt) ∨ (n2.toInt < 0 ∨ (I nw 2).toInt ≤ n2.toInt ∨ 8 ≤ n2.toInt))) ∧ (e9 = 3 → ∀ a k, I9 a k = I a k))) := by
  obtain ⟨b1, b2, b3, b4, b5, b6⟩ := RY.b E hl h
  have hnk := E.1.2.2.2.2.2.2.2.1
  have bt := RY.bt E h
  have bf := RY.bf E h
  have nb := LX.nb E
  obtain ⟨rfl, rfl, rfl, rfl, za, rfl⟩ := E.z
  exact s_X11_mix_x BS.sub hl.1 E.h E.2.1 (by omega) (by omega) za bf bt nb

theorem kc_redo {d : Nat} {T N : Nat → Nat} {I : IT} {L : LT} {R : RT} {A B : Nat → Prop} {x nw kp rd al m w im o cb tp : Nat} (E : LX T N R A B x nw kp rd al m w im o cb tp) (hl : LI T R A m I) (h : RY R x nw kp rd cb m w im tp I) : Ex (d + 4) 145 [.ref x] (T, N, I, L, R) 0 0 (pI T N R (fun x9 I9 L9 => (RDD R I9 I nw x9 (I nw 4).toInt (I nw 5).toInt) ∧ (IX A T I9 ∧ Chg (UDX R nw) T [(9, 4), (9, 5)] I L I9 L9))) := by
  obtain ⟨b1, b2, b3, b4, b5, b6⟩ := RY.b E hl h
  have hnk := E.1.2.2.2.2.2.2.2.1
  have ba := RY.ba E hl h
  obtain ⟨rfl, rfl, rfl, rfl, za, rfl⟩ := E.z
  exact s_X11_redo_x BS.sub hl.1 E.h E.2.1 (by omega) (by omega) (by omega) (by omega) (by omega) ba

theorem kc_signs {d : Nat} {T N : Nat → Nat} {I : IT} {L : LT} {R : RT} {A B : Nat → Prop} {x nw kp rd al m w im o cb tp : Nat} (E : LX T N R A B x nw kp rd al m w im o cb tp) (hl : LI T R A m I) (h : RY R x nw kp rd cb m w im tp I) : Ex (d + 31) 131 [.ref x] (T, N, I, L, R) 1 6 (pW2 [0, 2] T N R (pI T N R (fun x9 I9 L9 => ((I9 rd 1).toInt = 0) ∧ ((I nw 3).toInt < 8 ∧ x9.toInt = (I nw 3).toInt) ∧ ((I9 nw 3).toInt = (I nw 3).toInt + 1) ∧ (IX A T I9 ∧ Chg (fun a => (BS T R A a ∧ (T a ≠ 9 ∨ a = nw)) ∨ ∃ j, j < 8 ∧ (a = SA R nw j ∨ a = rA R (SA R nw j) 0 ∨ a = rA R (SA R nw j) 1)) T [(5, 1), (5, 3), (5, 4), (5, 5), (8, 2), (9, 3), (12, 4)] I L I9 L9))) (fun e9 I9 L9 => (IX A T I9 ∧ Chg (fun a => (BS T R A a ∧ (T a ≠ 9 ∨ a = nw)) ∨ ∃ j, j < 8 ∧ (a = SA R nw j ∨ a = rA R (SA R nw j) 0 ∨ a = rA R (SA R nw j) 1)) T [(5, 1), (5, 3), (5, 4), (5, 5), (8, 2), (9, 3), (12, 4)] I L I9 L9) ∧ (e9 = 0 → (I9 rd 1).toInt = 0) ∧ (e9 = 0 → (I9 nw 3).toInt = (I nw 3).toInt) ∧ (e9 = 2 → (I9 rd 1).toInt = 0) ∧ (e9 = 2 → 8 ≤ (I nw 3).toInt) ∧ (e9 = 2 → (I9 nw 3).toInt = (I nw 3).toInt))) := by
  obtain ⟨b1, b2, b3, b4, b5, b6⟩ := RY.b E hl h
  have hnk := E.1.2.2.2.2.2.2.2.1
  obtain ⟨rfl, rfl, rfl, rfl, za, rfl⟩ := E.z
  exact s_X11_signs_y BS.sub hl.1 E.h E.2.1 (by omega) (by omega)

theorem kc_table {d : Nat} {T N : Nat → Nat} {I : IT} {L : LT} {R : RT} {A B : Nat → Prop} {x nw kp rd al m w im o cb tp : Nat} {n1 n2 n3 n4 : Int32} (E : LX T N R A B x nw kp rd al m w im o cb tp) (hl : LI T R A m I) (h : RY R x nw kp rd cb m w im tp I) : Ex (d + 3) 130 [.ref x, .int n1, .int n2, .int n3, .int n4] (T, N, I, L, R) 1 6 (pW2 [0, 2] T N R (pI T N R (fun x9 I9 L9 => (dt (I nw 0).toInt n1.toInt n2.toInt n3.toInt n4.toInt ≠ 0 ∧ (I nw 2).toInt < 8 ∧ x9.toInt = (I nw 2).toInt) ∧ ((I9 nw 2).toInt = (I nw 2).toInt + 1) ∧ ((I9 (TA R nw (I nw 2).toNatClampNeg) 0).toInt = n1.toInt % (I nw 0).toInt) ∧ ((I9 (TA R nw (I nw 2).toNatClampNeg) 1).toInt = n2.toInt % (I nw 0).toInt) ∧ ((I9 (TA R nw (I nw 2).toNatClampNeg) 2).toInt = n3.toInt % (I nw 0).toInt) ∧ ((I9 (TA R nw (I nw 2).toNatClampNeg) 3).toInt = n4.toInt % (I nw 0).toInt) ∧ (IX A T I9 ∧ Chg (fun a => a = nw ∨ a = TA R nw (I nw 2).toNatClampNeg) T [(9, 2), (10, 0), (10, 1), (10, 2), (10, 3)] I L I9 L9))) (fun e9 I9 L9 => (IX A T I9 ∧ Chg (fun a => a = nw ∨ a = TA R nw (I nw 2).toNatClampNeg) T [(9, 2), (10, 0), (10, 1), (10, 2), (10, 3)] I L I9 L9) ∧ (e9 = 0 → dt (I nw 0).toInt n1.toInt n2.toInt n3.toInt n4.toInt = 0) ∧ (e9 = 0 → ∀ a k, I9 a k = I a k) ∧ (e9 = 2 → dt (I nw 0).toInt n1.toInt n2.toInt n3.toInt n4.toInt ≠ 0 ∧ 8 ≤ (I nw 2).toInt) ∧ (e9 = 2 → ∀ a k, I9 a k = I a k))) := by
  obtain ⟨b1, b2, b3, b4, b5, b6⟩ := RY.b E hl h
  have hnk := E.1.2.2.2.2.2.2.2.1
  obtain ⟨rfl, rfl, rfl, rfl, za, rfl⟩ := E.z
  exact s_X11_table_x BS.sub hl.1 E.h E.2.1 (by omega) (by omega) za

theorem kc_turn {d : Nat} {T N : Nat → Nat} {I : IT} {L : LT} {R : RT} {A B : Nat → Prop} {x nw kp rd al m w im o cb tp : Nat} {n1 : Int32} (E : LX T N R A B x nw kp rd al m w im o cb tp) (hl : LI T R A m I) (h : RY R x nw kp rd cb m w im tp I) : Ex (d + 4) 142 [.ref x, .int n1] (T, N, I, L, R) 2 12 (pW2 [2, 3] T N R (pI T N R (fun x9 I9 L9 => (¬ (n1.toInt < 0 ∨ (I nw 2).toInt ≤ n1.toInt ∨ 8 ≤ n1.toInt) ∧ (I nw 2).toInt < 8 ∧ x9.toInt = (I nw 2).toInt) ∧ ((I9 nw 2).toInt = (I nw 2).toInt + 1) ∧ (TBC (I9 (TA R nw (I nw 2).toNatClampNeg) 0).toInt (I9 (TA R nw (I nw 2).toNatClampNeg) 1).toInt (I9 (TA R nw (I nw 2).toNatClampNeg) 2).toInt (I9 (TA R nw (I nw 2).toNatClampNeg) 3).toInt (I (TA R nw n1.toNatClampNeg) 0).toInt (I (TA R nw n1.toNatClampNeg) 1).toInt (I (TA R nw n1.toNatClampNeg) 2).toInt (I (TA R nw n1.toNatClampNeg) 3).toInt (I nw 0).toInt) ∧ (IX A T I9 ∧ Chg (fun a => a = nw ∨ a = TA R nw (I nw 2).toNatClampNeg) T [(9, 2), (10, 0), (10, 1), (10, 2), (10, 3)] I L I9 L9))) (fun e9 I9 L9 => (IX A T I9 ∧ Chg (fun a => a = nw ∨ a = TA R nw (I nw 2).toNatClampNeg) T [(9, 2), (10, 0), (10, 1), (10, 2), (10, 3)] I L I9 L9) ∧ (e9 = 2 → ¬ (n1.toInt < 0 ∨ (I nw 2).toInt ≤ n1.toInt ∨ 8 ≤ n1.toInt) ∧ 8 ≤ (I nw 2).toInt) ∧ (e9 = 2 → ∀ a k, I9 a k = I a k) ∧ (e9 = 3 → (n1.toInt < 0 ∨ (I nw 2).toInt ≤ n1.toInt ∨ 8 ≤ n1.toInt)) ∧ (e9 = 3 → ∀ a k, I9 a k = I a k))) := by
  obtain ⟨b1, b2, b3, b4, b5, b6⟩ := RY.b E hl h
  have hnk := E.1.2.2.2.2.2.2.2.1
  have bt := RY.bt E h
  obtain ⟨rfl, rfl, rfl, rfl, za, rfl⟩ := E.z
  exact s_X11_turn_x BS.sub hl.1 E.h E.2.1 (by omega) (by omega) za bt b6

theorem kc_undo {d : Nat} {T N : Nat → Nat} {I : IT} {L : LT} {R : RT} {A B : Nat → Prop} {x nw kp rd al m w im o cb tp : Nat} (E : LX T N R A B x nw kp rd al m w im o cb tp) (hl : LI T R A m I) (h : RY R x nw kp rd cb m w im tp I) : Ex (d + 4) 144 [.ref x] (T, N, I, L, R) 0 0 (pI T N R (fun x9 I9 L9 => (UND R I9 I nw x9 (I nw 4).toInt (I nw 5).toInt) ∧ (IX A T I9 ∧ Chg (UDX R nw) T [(9, 4), (9, 5)] I L I9 L9))) := by
  obtain ⟨b1, b2, b3, b4, b5, b6⟩ := RY.b E hl h
  have hnk := E.1.2.2.2.2.2.2.2.1
  have ba := RY.ba E hl h
  obtain ⟨rfl, rfl, rfl, rfl, za, rfl⟩ := E.z
  exact s_X11_undo_x BS.sub hl.1 E.h E.2.1 (by omega) (by omega) (by omega) (by omega) (by omega) ba
