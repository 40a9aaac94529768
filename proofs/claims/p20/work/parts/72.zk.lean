/-! the law's invariants behind a call of the class -/
section Hl
variable {T N : Nat → Nat} {R : RT} {A B : Nat → Prop} {x nw kp rd al m w im o cb tp : Nat} {I I1 I2 : IT} {L L1 L2 : LT} {S : Nat → Prop} {Wl : List (Nat × Nat)}
theorem HL.c (E : LX T N R A B x nw kp rd al m w im o cb tp) (hl : LI T R A m I) (hx : IX A T I1) (c : CB S T Wl I I1) (hS : ∀ a, S a → A a) : LI T R A m I1 := hl.same E.1.2.1 hx (fun a ha => c.1 a (fun q => E.1.2.2.2.1 a (hS a q) ha))
theorem HL.rd9 (E : LX T N R A B x nw kp rd al m w im o cb tp) (hl : LI T R A m I) (hx : IX A T I1) (e : ∀ a, a ≠ rd → ∀ k, I1 a k = I a k) : LI T R A m I1 := hl.same E.1.2.1 hx (fun a ha => funext (e a (fun q => E.1.2.2.2.1 _ E.1.t.2.1.2.2.2 (q ▸ ha))))
theorem HL.s (_ : LX T N R A B x nw kp rd al m w im o cb tp) (hl : LI T R A m I) (e : ∀ a k, I1 a k = I a k) : LI T R A m I1 := by
  have q : I1 = I := funext fun a => funext (e a)
  rw [q]; exact hl
theorem SLf.a9 (E : LX T N R A B x nw kp rd al m w im o cb tp) {a : Nat} (q : SL [rd, cb] a) : A a := by
  have q := SL.a q
  simp only [List.mem_cons, List.not_mem_nil, or_false] at q
  rcases q with q | q
  · rw [q]; exact E.1.t.2.1.2.2.2
  · rw [q]; exact E.c.2
/-- a number looked at -/
theorem DON.eq {x y D : Int} {f g : Nat → Int} {k : Int} (h : DON x D f k) (g9 : DON y D g k) (e : ∀ i : Nat, (i : Int) ≤ D → f i = g i) : x = y := by
  by_cases z : k = -1
  · rw [h.1 z, g9.1 z]
  · by_cases q : k < 0 ∨ D < k
    · rw [h.2.1 z q, g9.2.1 z q]
    · rw [h.2.2 (by omega) (by omega), g9.2.2 (by omega) (by omega)]; exact e _ (by omega)
end Hl
/-! values of signs: both sides -/
section Val
variable {T N : Nat → Nat} {R : RT} {A B : Nat → Prop} {x nw kp rd al m w im o cb tp : Nat} {I I1 I2 : IT}
theorem RY.cn (E : LX T N R A B x nw kp rd al m w im o cb tp) (h : RY R x nw kp rd cb m w im tp I) : ∀ a1, R m 1 = some a1 → CNW (I a1) := fun a1 h1 => by
  have w1 := E.1.2.2.2.2.2.2.2.2.2.2.1
  have q : w = a1 := Option.some.inj (w1.symm.trans h1)
  subst q
  exact fun f hf k hk => (h.1.2.2.2.1.2.1 f hf).2 k hk
theorem RY.hw (E : LX T N R A B x nw kp rd al m w im o cb tp) (hl : LI T R A m I) (h : RY R x nw kp rd cb m w im tp I) (j : Nat) (hj : j < 8) (hk : (j : Int) < (I nw 3).toInt) : HOV (WSL (I w) j) 0 := by
  have hW := (LI.wos E hl).1.1
  have e := h.2.2.1.1
  exact HOV.w (hW.2.2.2.2.2.1 j (by omega)) (h.2.2.1.2 j hj hk).2.2.2
theorem RY.hv (E : LX T N R A B x nw kp rd al m w im o cb tp) (hl : LI T R A m I) (h : RY R x nw kp rd cb m w im tp I) : ∀ a1, R m 1 = some a1 → ∀ j : Nat, j < 8 → (j : Int) < (I a1 3).toInt → HOV (WSL (I a1) j) 0 := fun a1 h1 j hj hk => by
  have w1 := E.1.2.2.2.2.2.2.2.2.2.2.1
  have q : w = a1 := Option.some.inj (w1.symm.trans h1)
  subst q
  have e := h.2.2.1.1
  exact RY.hw E hl h j hj (by omega)
theorem RY.vs (E : LX T N R A B x nw kp rd al m w im o cb tp) (hl : LI T R A m I) (h : RY R x nw kp rd cb m w im tp I) : ∀ j : Nat, j < 8 → (j : Int) < (I nw 3).toInt → (0 ≤ (I (SA R nw j) 2).toInt ∧ (I (SA R nw j) 2).toInt ≤ 160) ∧ HOV (STL R I (SA R nw j)) 0 := fun j hj hk => by
  obtain ⟨h1, h2, h3, -⟩ := h.2.2.1.2 j hj hk
  exact ⟨⟨h2, h3⟩, by rw [h1]; exact RY.hw E hl h j hj hk⟩
/-- a form is the same on both sides -/
theorem RY.fv (E : LX T N R A B x nw kp rd al m w im o cb tp) (hl : LI T R A m I) (h : RY R x nw kp rd cb m w im tp I) (j : Nat) (hj : (j : Int) < (I nw 1).toInt) (p : Int) : FQV p ((I (FA R nw j) 0).toInt, NF I (rA R (FA R nw j) 1)) ((I w (6 + 10 * j)).toInt, fun k => (I w (7 + 10 * j + k)).toInt) ∧ 0 ≤ (I (FA R nw j) 0).toInt := by
  have hb := (LI.wos E hl).1.b
  have r := h.1.2.2.2.1
  have e1 := r.1.2.1
  obtain ⟨f1, -⟩ := r.2.1 j (by omega)
  have d := (hb.2.2.2 j (by omega)).1
  have e := f1.1
  refine ⟨⟨e, fun k hk => ?_⟩, by omega⟩
  have hk : (k : Int) ≤ (I (FA R nw j) 0).toInt := hk
  have z := f1.2 k (by omega)
  exact congrArg (fun z => z % p) z
end Val
/-! span: both sides -/
section Bas
variable {T N : Nat → Nat} {R : RT} {A B : Nat → Prop} {x nw kp rd al m w im o cb tp : Nat} {I I1 I2 : IT}
theorem SPF.c8 {p : Int} {s : Int32} {d set nS : Int} {L L' : Nat → List (Int × Int)} (e : ∀ n : Nat, n < 8 → (n : Int) < nS → L n = L' n) : ∀ n, n ≤ 8 → SPF p s d set nS L n = SPF p s d set nS L' n
  | 0, _ => rfl
  | n + 1, hn => by
    show (SPF p s d set nS L n).bind _ = (SPF p s d set nS L' n).bind _
    rw [SPF.c8 e n (by omega)]
    cases SPF p s d set nS L' n with
    | none => rfl
    | some z =>
      show (if set / 2 ^ n % 2 = 1 ∧ (n : Int) < nS then SPB p s d (L n) n z else some z) = (if set / 2 ^ n % 2 = 1 ∧ (n : Int) < nS then SPB p s d (L' n) n z else some z)
      by_cases q : set / 2 ^ n % 2 = 1 ∧ (n : Int) < nS
      · rw [if_pos q, if_pos q, e n (by omega) q.2]
      · rw [if_neg q, if_neg q]
theorem RY.sp (h : RY R x nw kp rd cb m w im tp I) {s : Int32} {d set : Int} : SPF (I nw 0).toInt s d set (I nw 3).toInt (SL5 R I nw) 8 = SPF (I w 0).toInt s d set (I w 3).toInt (WSL (I w)) 8 := by
  have e3 := h.2.2.1.1
  have e0 := h.1.2.2.2.1.1.1
  rw [← e0, ← e3]
  exact SPF.c8 (fun n h8 hk => (h.2.2.1.2 n h8 hk).1) 8 (Nat.le_refl 8)
theorem CMP_span {n1 n2 n3 u v : Int32} (E : LX T N R A B x nw kp rd al m w im o cb tp) (hl : LI T R A m I) (h : RY R x nw kp rd cb m w im tp I) (c : CB (BS T R A) T [(2, 5), (3, 0), (6, 6), (6, 7), (6, 8)] I I1) (q0 : ¬ (n2.toInt < 1 ∨ 8 < n2.toInt)) (q1 : ∃ y, SPQ y (SPF (I nw 0).toInt n3 n2.toInt n1.toInt (I nw 3).toInt (SL5 R I nw) 8) ∧ (y.toInt = -1 ∧ u.toInt = -1 ∨ y.toInt ≠ -1 ∧ u = BTC y)) (p0 : ∀ a1, R m 1 = some a1 → (n2.toInt < 1 ∨ 8 < n2.toInt) ∧ (I2 m 0).toInt = 1 ∨ ¬ (n2.toInt < 1 ∨ 8 < n2.toInt) ∧ (I2 m 0).toInt = 0 ∧ ∃ y, SPQ y (SPF (I1 a1 0).toInt n3 n2.toInt n1.toInt (I1 a1 3).toInt (WSL (I1 a1)) 8) ∧ (y.toInt < 0 ∧ v.toInt = -1 ∨ 0 ≤ y.toInt ∧ v = BTC y)) : (I2 m 0).toInt = 0 ∧ v.toInt = u.toInt := by
  have w1 := E.1.2.2.2.2.2.2.2.2.2.2.1
  obtain ⟨-, -, b1, b2, b3⟩ := E.1.t
  have ew : I1 w = I w := c.1 w (fun q => E.1.2.2.2.1 _ q.1 b2)
  have P := p0 w w1
  rw [ew] at P
  rcases P with ⟨z, -⟩ | ⟨-, z, y, k, k2⟩
  · exact absurd z q0
  · refine ⟨z, ?_⟩
    rw [← RY.sp h] at k
    obtain ⟨y', g, g2⟩ := q1
    have e := SPQ.u k g
    subst e
    have nn := SPQ.nn g (by decide)
    rcases k2 with ⟨a1, a2⟩ | ⟨a1, a2⟩
    · rcases g2 with ⟨c1, c2⟩ | ⟨c1, c2⟩
      · omega
      · exfalso; omega
    · rcases g2 with ⟨c1, c2⟩ | ⟨c1, c2⟩
      · exfalso; omega
      · rw [a2, c2]
theorem CMP_span_0 {n1 n2 n3 v : Int32} (E : LX T N R A B x nw kp rd al m w im o cb tp) (hl : LI T R A m I) (h : RY R x nw kp rd cb m w im tp I) (c : CB (BS T R A) T [(2, 5), (3, 0), (6, 6), (6, 7), (6, 8)] I I1) (q0 : n2.toInt < 1 ∨ 8 < n2.toInt) (p0 : ∀ a1, R m 1 = some a1 → (n2.toInt < 1 ∨ 8 < n2.toInt) ∧ (I2 m 0).toInt = 1 ∨ ¬ (n2.toInt < 1 ∨ 8 < n2.toInt) ∧ (I2 m 0).toInt = 0 ∧ ∃ y, SPQ y (SPF (I1 a1 0).toInt n3 n2.toInt n1.toInt (I1 a1 3).toInt (WSL (I1 a1)) 8) ∧ (y.toInt < 0 ∧ v.toInt = -1 ∨ 0 ≤ y.toInt ∧ v = BTC y)) : (I2 m 0).toInt = 1 := by
  have w1 := E.1.2.2.2.2.2.2.2.2.2.2.1
  obtain ⟨-, -, b1, b2, b3⟩ := E.1.t
  have ew : I1 w = I w := c.1 w (fun q => E.1.2.2.2.1 _ q.1 b2)
  have P := p0 w w1
  rw [ew] at P
  rcases P with ⟨-, z⟩ | ⟨z, -⟩
  · exact z
  · exact absurd q0 z
end Bas
/-! the class's calls, in the law's words -/
theorem kc_back {d : Nat} {T N : Nat → Nat} {I : IT} {L : LT} {R : RT} {A B : Nat → Prop} {x nw kp rd al m w im o cb tp : Nat} (E : LX T N R A B x nw kp rd al m w im o cb tp) (hl : LI T R A m I) (h : RY R x nw kp rd cb m w im tp I) : Ex (d + 5) 175 [.ref x] (T, N, I, L, R) 0 0 (pI T N R (fun x9 I9 L9 => (0 ≤ x9.toInt) ∧ (x9.toInt ≤ 1) ∧ (BKX R I9 I nw kp x9.toInt (I x 3).toInt) ∧ (x9.toInt ≠ 0 → SLL R I9 I nw kp (I kp 3).toInt) ∧ (IX A T I9 ∧ Chg (OWN R nw) T [(3, 0), (8, 2), (9, 0), (9, 1), (9, 2), (9, 3), (9, 4), (9, 5), (10, 0), (10, 1), (10, 2), (10, 3)] I L I9 L9))) := by
  obtain ⟨b1, b2, b3, b4, b5, b6⟩ := RY.b E hl h
  have hnk := E.1.2.2.2.2.2.2.2.1
  have bk := RY.bk E hl h
  have bk3 := RY.bk3 h
  obtain ⟨rfl, rfl, rfl, rfl, za, rfl⟩ := E.z
  exact s_X11_back_p BS.sub hl.1 E.h E.2.1 (Ne.symm hnk) (fun z => (bk z).1) (fun z => (bk z).2) (fun z => (bk3 z).1) (fun z => (bk3 z).2)

theorem kc_end {d : Nat} {T N : Nat → Nat} {I : IT} {L : LT} {R : RT} {A B : Nat → Prop} {x nw kp rd al m w im o cb tp : Nat} {n1 : Int32} (E : LX T N R A B x nw kp rd al m w im o cb tp) (hl : LI T R A m I) (h : RY R x nw kp rd cb m w im tp I) : Ex (d + 1) 127 [.ref x, .int n1] (T, N, I, L, R) 0 0 (pI T N R (fun x9 I9 L9 => (0 ≤ x9.toInt) ∧ (x9.toInt ≤ 1) ∧ ((n1.toInt < 0 ∨ (I rd 1).toInt < n1.toInt) ∧ x9.toInt = 0 ∧ (I9 rd 1).toInt = (I rd 1).toInt ∨ 0 ≤ n1.toInt ∧ n1.toInt ≤ (I rd 1).toInt ∧ x9.toInt = 1 ∧ (I9 rd 1).toInt = n1.toInt) ∧ (IX A T I9 ∧ Chg (SL [rd]) T [(5, 1)] I L I9 L9))) := by
  obtain ⟨b1, b2, b3, b4, b5, b6⟩ := RY.b E hl h
  have hnk := E.1.2.2.2.2.2.2.2.1
  obtain ⟨rfl, rfl, rfl, rfl, za, rfl⟩ := E.z
  exact s_X11_end_x BS.sub hl.1 E.h

theorem kc_feed {d : Nat} {T N : Nat → Nat} {I : IT} {L : LT} {R : RT} {A B : Nat → Prop} {x nw kp rd al m w im o cb tp : Nat} {n1 n2 n3 n4 n5 : Int32} (E : LX T N R A B x nw kp rd al m w im o cb tp) (hl : LI T R A m I) (h : RY R x nw kp rd cb m w im tp I) : Ex (d + 2) 126 [.ref x, .int n1, .int n2, .int n3, .int n4, .int n5] (T, N, I, L, R) 0 0 (pI T N R (fun x9 I9 L9 => (380 < (I rd 1).toInt ∧ x9.toInt = -1 ∧ (I9 rd 1).toInt = (I rd 1).toInt ∧ I9 cb = I cb ∨ (I rd 1).toInt ≤ 380 ∧ x9.toInt = (I rd 1).toInt + 20 ∧ (I9 rd 1).toInt = (I rd 1).toInt + 20 ∧ FDC (I9 cb) (I cb) (I rd 1).toNatClampNeg (F5 n1 n2 n3 n4 n5) 5) ∧ (IX A T I9 ∧ Chg (SL [rd, cb]) T [(5, 1)] I L I9 L9))) := by
  obtain ⟨b1, b2, b3, b4, b5, b6⟩ := RY.b E hl h
  have hnk := E.1.2.2.2.2.2.2.2.1
  obtain ⟨rfl, rfl, rfl, rfl, za, rfl⟩ := E.z
  exact s_X11_feed_x BS.sub hl.1 E.h (by omega) (by omega)

theorem kc_field {d : Nat} {T N : Nat → Nat} {I : IT} {L : LT} {R : RT} {A B : Nat → Prop} {x nw kp rd al m w im o cb tp : Nat} {n1 : Int32} (E : LX T N R A B x nw kp rd al m w im o cb tp) (hl : LI T R A m I) (h : RY R x nw kp rd cb m w im tp I) : Ex (d + 1) 128 [.ref x, .int n1] (T, N, I, L, R) 1 6 (pW2 [0, 1] T N R (pV T N R (fun I9 L9 => ((n1.toInt = 11 ∨ n1.toInt = 13 ∨ n1.toInt = 17 ∨ n1.toInt = 19) ∧ (I nw 1).toInt ≤ 0 ∧ (I nw 2).toInt ≤ 0) ∧ ((I9 nw 0).toInt = n1.toInt) ∧ (IX A T I9 ∧ Chg (SL [nw]) T [(9, 0)] I L I9 L9))) (fun e9 I9 L9 => (IX A T I9 ∧ Chg (SL [nw]) T [(9, 0)] I L I9 L9) ∧ (e9 = 0 → ¬ (n1.toInt = 11 ∨ n1.toInt = 13 ∨ n1.toInt = 17 ∨ n1.toInt = 19)) ∧ (e9 = 0 → ∀ a k, I9 a k = I a k) ∧ (e9 = 1 → (n1.toInt = 11 ∨ n1.toInt = 13 ∨ n1.toInt = 17 ∨ n1.toInt = 19) ∧ (0 < (I nw 1).toInt ∨ 0 < (I nw 2).toInt)) ∧ (e9 = 1 → ∀ a k, I9 a k = I a k))) := by
  obtain ⟨b1, b2, b3, b4, b5, b6⟩ := RY.b E hl h
  have hnk := E.1.2.2.2.2.2.2.2.1
  obtain ⟨rfl, rfl, rfl, rfl, za, rfl⟩ := E.z
  exact s_X11_field_x BS.sub hl.1 E.h

theorem kc_form {d : Nat} {T N : Nat → Nat} {I : IT} {L : LT} {R : RT} {A B : Nat → Prop} {x nw kp rd al m w im o cb tp : Nat} (E : LX T N R A B x nw kp rd al m w im o cb tp) (hl : LI T R A m I) (h : RY R x nw kp rd cb m w im tp I) : Ex (d + 4) 129 [.ref x] (T, N, I, L, R) 1 6 (pW2 [0, 2] T N R (pI T N R (fun x9 I9 L9 => ((I9 rd 1).toInt = 0) ∧ (1 ≤ (I rd 1).toInt ∧ (I rd 1).toInt ≤ 9 ∧ (I nw 1).toInt < 16 ∧ x9.toInt = (I nw 1).toInt) ∧ ((I9 nw 1).toInt = (I nw 1).toInt + 1) ∧ ((I9 nw 5).toInt = 0) ∧ ((I9 (FA R nw (I nw 1).toNatClampNeg) 0).toInt = (I rd 1).toInt - 1) ∧ (NMF I9 (rA R (FA R nw (I nw 1).toNatClampNeg) 1) (I rd 1).toInt (fun j => (I cb j).toInt % (I nw 0).toInt)) ∧ (IX A T I9 ∧ Chg (fun a => a = rd ∨ a = nw ∨ a = FA R nw (I nw 1).toNatClampNeg ∨ a = rA R (FA R nw (I nw 1).toNatClampNeg) 1) T [(3, 0), (5, 1), (9, 1), (9, 5)] I L I9 L9))) (fun e9 I9 L9 => (IX A T I9 ∧ Chg (fun a => a = rd ∨ a = nw ∨ a = FA R nw (I nw 1).toNatClampNeg ∨ a = rA R (FA R nw (I nw 1).toNatClampNeg) 1) T [(3, 0), (5, 1), (9, 1), (9, 5)] I L I9 L9) ∧ (e9 = 0 → (I rd 1).toInt < 1 ∨ 9 < (I rd 1).toInt) ∧ (e9 = 0 → (I9 rd 1).toInt = 0) ∧ (e9 = 0 → ∀ a, a ≠ rd → ∀ k, I9 a k = I a k) ∧ (e9 = 2 → 1 ≤ (I rd 1).toInt ∧ (I rd 1).toInt ≤ 9 ∧ 16 ≤ (I nw 1).toInt) ∧ (e9 = 2 → (I9 rd 1).toInt = 0) ∧ (e9 = 2 → ∀ a, a ≠ rd → ∀ k, I9 a k = I a k))) := by
  obtain ⟨b1, b2, b3, b4, b5, b6⟩ := RY.b E hl h
  have hnk := E.1.2.2.2.2.2.2.2.1
  obtain ⟨rfl, rfl, rfl, rfl, za, rfl⟩ := E.z
  exact s_X11_form_x BS.sub hl.1 E.h E.2.1 (by omega) (by omega) (by omega) za

theorem kc_image {d : Nat} {T N : Nat → Nat} {I : IT} {L : LT} {R : RT} {A B : Nat → Prop} {x nw kp rd al m w im o cb tp : Nat} (E : LX T N R A B x nw kp rd al m w im o cb tp) (hl : LI T R A m I) (h : RY R x nw kp rd cb m w im tp I) : Ex (d + 5) 174 [.ref x] (T, N, I, L, R) 0 0 (pV T N R (fun I9 L9 => ((I9 x 3).toInt = 1) ∧ ((I9 kp 0).toInt = (I nw 0).toInt) ∧ ((I9 kp 1).toInt = (I nw 1).toInt) ∧ ((I9 kp 2).toInt = (I nw 2).toInt) ∧ ((I9 kp 3).toInt = (I nw 3).toInt) ∧ ((I9 kp 4).toInt = (I nw 4).toInt) ∧ ((I9 kp 5).toInt = (I nw 5).toInt) ∧ (CAL R I9 I kp nw 40) ∧ (FLL R I9 I kp nw (I nw 1).toInt) ∧ (TLL R I9 I kp nw (I nw 2).toInt) ∧ (SLL R I9 I kp nw (I nw 3).toInt) ∧ (IX A T I9 ∧ Chg (fun a => OWN R kp a ∨ a = x) T [(3, 0), (8, 2), (9, 0), (9, 1), (9, 2), (9, 3), (9, 4), (9, 5), (10, 0), (10, 1), (10, 2), (10, 3), (12, 3)] I L I9 L9))) := by
  obtain ⟨b1, b2, b3, b4, b5, b6⟩ := RY.b E hl h
  have hnk := E.1.2.2.2.2.2.2.2.1
  have sl := RY.sl h
  obtain ⟨rfl, rfl, rfl, rfl, za, rfl⟩ := E.z
  exact s_X11_image_p BS.sub hl.1 E.h E.2.1 hnk (by omega) (by omega) (by omega) sl

theorem kc_join {d : Nat} {T N : Nat → Nat} {I : IT} {L : LT} {R : RT} {A B : Nat → Prop} {x nw kp rd al m w im o cb tp : Nat} {n1 n2 : Int32} (E : LX T N R A B x nw kp rd al m w im o cb tp) (hl : LI T R A m I) (h : RY R x nw kp rd cb m w im tp I) : Ex (d + 3) 141 [.ref x, .int n1, .int n2] (T, N, I, L, R) 3 18 (pW2 [2, 3] T N R (pI T N R (fun x9 I9 L9 => (¬ ((n1.toInt < 0 ∨ (I nw 2).toInt ≤ n1.toInt ∨ 8 ≤ n1.toInt) ∨ (n2.toInt < 0 ∨ (I nw 2).toInt ≤ n2.toInt ∨ 8 ≤ n2.toInt)) ∧ (I nw 2).toInt < 8 ∧ x9.toInt = (I nw 2).toInt) ∧ ((I9 nw 2).toInt = (I nw 2).toInt + 1) ∧ ((I9 (TA R nw (I nw 2).toNatClampNeg) 0).toInt = ((I (TA R nw n1.toNatClampNeg) 0).toInt * (I (TA R nw n2.toNatClampNeg) 0).toInt + (I (TA R nw n1.toNatClampNeg) 1).toInt * (I (TA R nw n2.toNatClampNeg) 2).toInt) % (I nw 0).toInt) ∧ ((I9 (TA R nw (I nw 2).toNatClampNeg) 1).toInt = ((I (TA R nw n1.toNatClampNeg) 0).toInt * (I (TA R nw n2.toNatClampNeg) 1).toInt + (I (TA R nw n1.toNatClampNeg) 1).toInt * (I (TA R nw n2.toNatClampNeg) 3).toInt) % (I nw 0).toInt) ∧ ((I9 (TA R nw (I nw 2).toNatClampNeg) 2).toInt = ((I (TA R nw n1.toNatClampNeg) 2).toInt * (I (TA R nw n2.toNatClampNeg) 0).toInt + (I (TA R nw n1.toNatClampNeg) 3).toInt * (I (TA R nw n2.toNatClampNeg) 2).toInt) % (I nw 0).toInt) ∧ ((I9 (TA R nw (I nw 2).toNatClampNeg) 3).toInt = ((I (TA R nw n1.toNatClampNeg) 2).toInt * (I (TA R nw n2.toNatClampNeg) 1).toInt + (I (TA R nw n1.toNatClampNeg) 3).toInt * (I (TA R nw n2.toNatClampNeg) 3).toInt) % (I nw 0).toInt) ∧ (IX A T I9 ∧ Chg (fun a => a = nw ∨ a = TA R nw (I nw 2).toNatClampNeg) T [(9, 2), (10, 0), (10, 1), (10, 2), (10, 3)] I L I9 L9))) (fun e9 I9 L9 => (IX A T I9 ∧ Chg (fun a => a = nw ∨ a = TA R nw (I nw 2).toNatClampNeg) T [(9, 2), (10, 0), (10, 1), (10, 2), (10, 3)] I L I9 L9) ∧ (e9 = 2 → ¬ ((n1.toInt < 0 ∨ (I nw 2).toInt ≤ n1.toInt ∨ 8 ≤ n1.toInt) ∨ (n2.toInt < 0 ∨ (I nw 2).toInt ≤ n2.toInt ∨ 8 ≤ n2.toInt)) ∧ 8 ≤ (I nw 2).toInt) ∧ (e9 = 2 → ∀ a k, I9 a k = I a k) ∧ (e9 = 3 → (n1.toInt < 0 ∨ (I nw 2).toInt ≤ n1.toInt ∨ 8 ≤ n1.toInt) ∨ (n2.toInt < 0 ∨ (I nw 2).toInt ≤ n2.toInt ∨ 8 ≤ n2.toInt)) ∧ (e9 = 3 → ∀ a k, I9 a k = I a k))) := by
  obtain ⟨b1, b2, b3, b4, b5, b6⟩ := RY.b E hl h
  have hnk := E.1.2.2.2.2.2.2.2.1
  have bt := RY.bt E h
  obtain ⟨rfl, rfl, rfl, rfl, za, rfl⟩ := E.z
  exact s_X11_join_x BS.sub hl.1 E.h E.2.1 (by omega) (by omega) za bt

theorem kc_mix {d : Nat} {T N : Nat → Nat} {I : IT} {L : LT} {R : RT} {A B : Nat → Prop} {x nw kp rd al m w im o cb tp : Nat} {n1 n2 : Int32} (E : LX T N R A B x nw kp rd al m w im o cb tp) (hl : LI T R A m I) (h : RY R x nw kp rd cb m w im tp I) : Ex (d + 5) 143 [.ref x, .int n1, .int n2] (T, N, I, L, R) 2 12 (pW2 [3] T N R (pI T N R (fun x9 I9 L9 => (0 ≤ x9.toInt) ∧ (x9.toInt ≤ 1) ∧ (¬ ((n1.toInt < 0 ∨ (I nw 1).toInt ≤ n1.toInt ∨ 16 ≤ n1.toInt) ∨ (n2.toInt < 0 ∨ (I nw 2).toInt ≤ n2.toInt ∨ 8 ≤ n2.toInt))) ∧ ((I9 (FA R nw n1.toNatClampNeg) 0).toInt = (I (FA R nw n1.toNatClampNeg) 0).toInt) ∧ (VRX I9 (rA R (FA R nw n1.toNatClampNeg) 1) (I nw 0).toInt (I (FA R nw n1.toNatClampNeg) 0).toInt (PmX (I (TA R nw n2.toNatClampNeg) 0).toInt (I (TA R nw n2.toNatClampNeg) 1).toInt (I (TA R nw n2.toNatClampNeg) 2).toInt (I (TA R nw n2.toNatClampNeg) 3).toInt (NF I (rA R (FA R nw n1.toNatClampNeg) 1)) (I (FA R nw n1.toNatClampNeg) 0).toInt.toNat)) ∧ (WRD R I9 I nw n1 (FA R nw n1.toNatClampNeg) (I nw 4).toInt) ∧ ((I9 nw 5).toInt = 0) ∧ (FSM R I9 I nw n1.toInt) ∧ (IFF (1 - x9.toInt) (∀ k : Nat, (k : Int) ≤ (I (FA R nw n1.toNatClampNeg) 0).toInt → (I9 (rA R (FA R nw n1.toNatClampNeg) 1) k).toInt = (I (rA R (FA R nw n1.toNatClampNeg) 1) k).toInt)) ∧ (IX A T I9 ∧ Chg (fun a => (BS T R A a ∧ T a ≠ 9) ∨ WSX R nw a ∨ a = FA R nw n1.toNatClampNeg ∨ a = rA R (FA R nw n1.toNatClampNeg) 1) T [(3, 0), (9, 4), (9, 5)] I L I9 L9))) (fun e9 I9 L9 => (IX A T I9 ∧ Chg (fun a => (BS T R A a ∧ T a ≠ 9) ∨ WSX R nw a ∨ a = FA R nw n1.toNatClampNeg ∨ a = rA R (FA R nw n1.toNatClampNeg) 1) T [(3, 0), (9, 4), (9, 5)] I L I9 L9) ∧ (e9 = 3 → ((n1.toInt < 0 ∨ (I nw 1).toInt ≤ n1.toInt ∨ 16 ≤ n1.toInt) ∨ (n2.toInt < 0 ∨ (I nw 2).toInt ≤ n2.toInt ∨ 8 ≤ n2.toInt))) ∧ (e9 = 3 → ∀ a k, I9 a k = I a k))) := by
  obtain ⟨b1, b2, b3, b4, b5, b6⟩ := RY.b E hl h
  have hnk := E.1.2.2.2.2.2.2.2.1
  have bt := RY.bt E h
  have bf := RY.bf E h
  have nb := LX.nb E
  obtain ⟨rfl, rfl, rfl, rfl, za, rfl⟩ := E.z
  exact s_X11_mix_x BS.sub hl.1 E.h E.2.1 (by omega) (by omega) za bf bt nb

theorem kc_redo {d : Nat} {T N : Nat → Nat} {I : IT} {L : LT} {R : RT} {A B : Nat → Prop} {x nw kp rd al m w im o cb tp : Nat} (E : LX T N R A B x nw kp rd al m w im o cb tp) (hl : LI T R A m I) (h : RY R x nw kp rd cb m w im tp I) : Ex (d + 4) 145 [.ref x] (T, N, I, L, R) 0 0 (pI T N R (fun x9 I9 L9 => (RDD R I9 I nw x9 (I nw 4).toInt (I nw 5).toInt) ∧ (IX A T I9 ∧ Chg (UDX R nw) T [(9, 4), (9, 5)] I L I9 L9))) := by
  obtain ⟨b1, b2, b3, b4, b5, b6⟩ := RY.b E hl h
  have hnk := E.1.2.2.2.2.2.2.2.1
  have ba := RY.ba E hl h
  obtain ⟨rfl, rfl, rfl, rfl, za, rfl⟩ := E.z
  exact s_X11_redo_x BS.sub hl.1 E.h E.2.1 (by omega) (by omega) (by omega) (by omega) (by omega) ba

theorem kc_signs {d : Nat} {T N : Nat → Nat} {I : IT} {L : LT} {R : RT} {A B : Nat → Prop} {x nw kp rd al m w im o cb tp : Nat} (E : LX T N R A B x nw kp rd al m w im o cb tp) (hl : LI T R A m I) (h : RY R x nw kp rd cb m w im tp I) : Ex (d + 31) 131 [.ref x] (T, N, I, L, R) 1 6 (pW2 [0, 2] T N R (pI T N R (fun x9 I9 L9 => ((I9 rd 1).toInt = 0) ∧ ((I nw 3).toInt < 8 ∧ x9.toInt = (I nw 3).toInt) ∧ ((I9 nw 3).toInt = (I nw 3).toInt + 1) ∧ (RDA 160 (BCH (I cb) (I rd 1).toInt) = some (STL R I9 (SA R nw (I nw 3).toNatClampNeg))) ∧ (0 ≤ (I9 (SA R nw (I nw 3).toNatClampNeg) 2).toInt ∧ (I9 (SA R nw (I nw 3).toNatClampNeg) 2).toInt ≤ 160) ∧ (IX A T I9 ∧ Chg (fun a => a = x ∨ a = rd ∨ a = (rA R rd 0) ∨ a = rA R (rA R rd 0) 0 ∨ a = rA R (rA R rd 0) 1 ∨ a = nw ∨ a = SA R nw (I nw 3).toNatClampNeg ∨ a = rA R (SA R nw (I nw 3).toNatClampNeg) 0 ∨ a = rA R (SA R nw (I nw 3).toNatClampNeg) 1) T [(5, 1), (5, 3), (5, 4), (5, 5), (8, 2), (9, 3), (12, 4)] I L I9 L9))) (fun e9 I9 L9 => (IX A T I9 ∧ Chg (fun a => a = x ∨ a = rd ∨ a = (rA R rd 0) ∨ a = rA R (rA R rd 0) 0 ∨ a = rA R (rA R rd 0) 1 ∨ a = nw ∨ a = SA R nw (I nw 3).toNatClampNeg ∨ a = rA R (SA R nw (I nw 3).toNatClampNeg) 0 ∨ a = rA R (SA R nw (I nw 3).toNatClampNeg) 1) T [(5, 1), (5, 3), (5, 4), (5, 5), (8, 2), (9, 3), (12, 4)] I L I9 L9) ∧ (e9 = 0 → (I9 rd 1).toInt = 0) ∧ (e9 = 0 → RDA 160 (BCH (I cb) (I rd 1).toInt) = none) ∧ (e9 = 0 → ∀ a, ¬ (a = x ∨ a = rd ∨ a = (rA R rd 0) ∨ a = rA R (rA R rd 0) 0 ∨ a = rA R (rA R rd 0) 1) → I9 a = I a) ∧ (e9 = 2 → (I9 rd 1).toInt = 0) ∧ (e9 = 2 → 8 ≤ (I nw 3).toInt) ∧ (e9 = 2 → RDA 160 (BCH (I cb) (I rd 1).toInt) ≠ none) ∧ (e9 = 2 → ∀ a, ¬ (a = x ∨ a = rd ∨ a = (rA R rd 0) ∨ a = rA R (rA R rd 0) 0 ∨ a = rA R (rA R rd 0) 1) → I9 a = I a))) := by
  obtain ⟨b1, b2, b3, b4, b5, b6⟩ := RY.b E hl h
  have hnk := E.1.2.2.2.2.2.2.2.1
  obtain ⟨rfl, rfl, rfl, rfl, za, rfl⟩ := E.z
  exact s_X11_signs_p BS.sub hl.1 E.h E.2.1 (by omega) (by omega) (by omega) (by omega)

theorem kc_span {d : Nat} {T N : Nat → Nat} {I : IT} {L : LT} {R : RT} {A B : Nat → Prop} {x nw kp rd al m w im o cb tp : Nat} {n1 n2 n3 : Int32} (E : LX T N R A B x nw kp rd al m w im o cb tp) (hl : LI T R A m I) (h : RY R x nw kp rd cb m w im tp I) : Ex (d + 8) 153 [.ref x, .int n1, .int n2, .int n3] (T, N, I, L, R) 1 6 (pW2 [0] T N R (pI T N R (fun x9 I9 L9 => (¬ (n2.toInt < 1 ∨ 8 < n2.toInt)) ∧ (∃ y, SPQ y (SPF (I nw 0).toInt n3 n2.toInt n1.toInt (I nw 3).toInt (SL5 R I nw) 8) ∧ (y.toInt = -1 ∧ x9.toInt = -1 ∨ y.toInt ≠ -1 ∧ x9 = BTC y)) ∧ (IX A T I9 ∧ Chg (BS T R A) T [(2, 5), (3, 0), (6, 6), (6, 7), (6, 8)] I L I9 L9))) (fun e9 I9 L9 => (IX A T I9 ∧ Chg (BS T R A) T [(2, 5), (3, 0), (6, 6), (6, 7), (6, 8)] I L I9 L9) ∧ (e9 = 0 → n2.toInt < 1 ∨ 8 < n2.toInt))) := by
  obtain ⟨b1, b2, b3, b4, b5, b6⟩ := RY.b E hl h
  have hnk := E.1.2.2.2.2.2.2.2.1
  have vs := RY.vs E hl h
  obtain ⟨rfl, rfl, rfl, rfl, za, rfl⟩ := E.z
  exact s_X11_span_x BS.sub hl.1 E.h E.2.1 E.2.2.2.2.2.2.2.1 E.2.2.2.2.2.2.2.2 vs b6

theorem kc_table {d : Nat} {T N : Nat → Nat} {I : IT} {L : LT} {R : RT} {A B : Nat → Prop} {x nw kp rd al m w im o cb tp : Nat} {n1 n2 n3 n4 : Int32} (E : LX T N R A B x nw kp rd al m w im o cb tp) (hl : LI T R A m I) (h : RY R x nw kp rd cb m w im tp I) : Ex (d + 3) 130 [.ref x, .int n1, .int n2, .int n3, .int n4] (T, N, I, L, R) 1 6 (pW2 [0, 2] T N R (pI T N R (fun x9 I9 L9 => (dt (I nw 0).toInt n1.toInt n2.toInt n3.toInt n4.toInt ≠ 0 ∧ (I nw 2).toInt < 8 ∧ x9.toInt = (I nw 2).toInt) ∧ ((I9 nw 2).toInt = (I nw 2).toInt + 1) ∧ ((I9 (TA R nw (I nw 2).toNatClampNeg) 0).toInt = n1.toInt % (I nw 0).toInt) ∧ ((I9 (TA R nw (I nw 2).toNatClampNeg) 1).toInt = n2.toInt % (I nw 0).toInt) ∧ ((I9 (TA R nw (I nw 2).toNatClampNeg) 2).toInt = n3.toInt % (I nw 0).toInt) ∧ ((I9 (TA R nw (I nw 2).toNatClampNeg) 3).toInt = n4.toInt % (I nw 0).toInt) ∧ (IX A T I9 ∧ Chg (fun a => a = nw ∨ a = TA R nw (I nw 2).toNatClampNeg) T [(9, 2), (10, 0), (10, 1), (10, 2), (10, 3)] I L I9 L9))) (fun e9 I9 L9 => (IX A T I9 ∧ Chg (fun a => a = nw ∨ a = TA R nw (I nw 2).toNatClampNeg) T [(9, 2), (10, 0), (10, 1), (10, 2), (10, 3)] I L I9 L9) ∧ (e9 = 0 → dt (I nw 0).toInt n1.toInt n2.toInt n3.toInt n4.toInt = 0) ∧ (e9 = 0 → ∀ a k, I9 a k = I a k) ∧ (e9 = 2 → dt (I nw 0).toInt n1.toInt n2.toInt n3.toInt n4.toInt ≠ 0 ∧ 8 ≤ (I nw 2).toInt) ∧ (e9 = 2 → ∀ a k, I9 a k = I a k))) := by
  obtain ⟨b1, b2, b3, b4, b5, b6⟩ := RY.b E hl h
  have hnk := E.1.2.2.2.2.2.2.2.1
  obtain ⟨rfl, rfl, rfl, rfl, za, rfl⟩ := E.z
  exact s_X11_table_x BS.sub hl.1 E.h E.2.1 (by omega) (by omega) za

theorem kc_turn {d : Nat} {T N : Nat → Nat} {I : IT} {L : LT} {R : RT} {A B : Nat → Prop} {x nw kp rd al m w im o cb tp : Nat} {n1 : Int32} (E : LX T N R A B x nw kp rd al m w im o cb tp) (hl : LI T R A m I) (h : RY R x nw kp rd cb m w im tp I) : Ex (d + 4) 142 [.ref x, .int n1] (T, N, I, L, R) 2 12 (pW2 [2, 3] T N R (pI T N R (fun x9 I9 L9 => (¬ (n1.toInt < 0 ∨ (I nw 2).toInt ≤ n1.toInt ∨ 8 ≤ n1.toInt) ∧ (I nw 2).toInt < 8 ∧ x9.toInt = (I nw 2).toInt) ∧ ((I9 nw 2).toInt = (I nw 2).toInt + 1) ∧ (TBC (I9 (TA R nw (I nw 2).toNatClampNeg) 0).toInt (I9 (TA R nw (I nw 2).toNatClampNeg) 1).toInt (I9 (TA R nw (I nw 2).toNatClampNeg) 2).toInt (I9 (TA R nw (I nw 2).toNatClampNeg) 3).toInt (I (TA R nw n1.toNatClampNeg) 0).toInt (I (TA R nw n1.toNatClampNeg) 1).toInt (I (TA R nw n1.toNatClampNeg) 2).toInt (I (TA R nw n1.toNatClampNeg) 3).toInt (I nw 0).toInt) ∧ (IX A T I9 ∧ Chg (fun a => a = nw ∨ a = TA R nw (I nw 2).toNatClampNeg) T [(9, 2), (10, 0), (10, 1), (10, 2), (10, 3)] I L I9 L9))) (fun e9 I9 L9 => (IX A T I9 ∧ Chg (fun a => a = nw ∨ a = TA R nw (I nw 2).toNatClampNeg) T [(9, 2), (10, 0), (10, 1), (10, 2), (10, 3)] I L I9 L9) ∧ (e9 = 2 → ¬ (n1.toInt < 0 ∨ (I nw 2).toInt ≤ n1.toInt ∨ 8 ≤ n1.toInt) ∧ 8 ≤ (I nw 2).toInt) ∧ (e9 = 2 → ∀ a k, I9 a k = I a k) ∧ (e9 = 3 → (n1.toInt < 0 ∨ (I nw 2).toInt ≤ n1.toInt ∨ 8 ≤ n1.toInt)) ∧ (e9 = 3 → ∀ a k, I9 a k = I a k))) := by
  obtain ⟨b1, b2, b3, b4, b5, b6⟩ := RY.b E hl h
  have hnk := E.1.2.2.2.2.2.2.2.1
  have bt := RY.bt E h
  obtain ⟨rfl, rfl, rfl, rfl, za, rfl⟩ := E.z
  exact s_X11_turn_x BS.sub hl.1 E.h E.2.1 (by omega) (by omega) za bt b6

theorem kc_undo {d : Nat} {T N : Nat → Nat} {I : IT} {L : LT} {R : RT} {A B : Nat → Prop} {x nw kp rd al m w im o cb tp : Nat} (E : LX T N R A B x nw kp rd al m w im o cb tp) (hl : LI T R A m I) (h : RY R x nw kp rd cb m w im tp I) : Ex (d + 4) 144 [.ref x] (T, N, I, L, R) 0 0 (pI T N R (fun x9 I9 L9 => (UND R I9 I nw x9 (I nw 4).toInt (I nw 5).toInt) ∧ (IX A T I9 ∧ Chg (UDX R nw) T [(9, 4), (9, 5)] I L I9 L9))) := by
  obtain ⟨b1, b2, b3, b4, b5, b6⟩ := RY.b E hl h
  have hnk := E.1.2.2.2.2.2.2.2.1
  have ba := RY.ba E hl h
  obtain ⟨rfl, rfl, rfl, rfl, za, rfl⟩ := E.z
  exact s_X11_undo_x BS.sub hl.1 E.h E.2.1 (by omega) (by omega) (by omega) (by omega) (by omega) ba
