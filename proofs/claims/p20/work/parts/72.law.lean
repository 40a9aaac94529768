/-! the law: what both sides tell alike -/
def CI (T : Nat → Nat) (W : List (Nat × Nat)) (I I' : IT) : Prop := ∀ a k, T a < 20 → (T a, k) ∉ W → I' a k = I a k
theorem CI.rf {T : Nat → Nat} {W : List (Nat × Nat)} {I : IT} : CI T W I I := fun _ _ _ _ => rfl
/-- where the told things stand: the class's (x, its states now and kept, its reader), the reference's (m, its world, its image) -/
def SC (x nw kp rd : Nat) (I I' : IT) : Prop := (I' rd 1).toInt = (I rd 1).toInt ∧ (I' nw 0).toInt = (I nw 0).toInt ∧ (I' nw 1).toInt = (I nw 1).toInt ∧ (I' nw 2).toInt = (I nw 2).toInt ∧ (I' kp 0).toInt = (I kp 0).toInt ∧ (I' kp 1).toInt = (I kp 1).toInt ∧ (I' kp 2).toInt = (I kp 2).toInt ∧ (I' x 3).toInt = (I x 3).toInt
def SM (m w im : Nat) (I I' : IT) : Prop := (I' m 11).toInt = (I m 11).toInt ∧ (I' w 0).toInt = (I w 0).toInt ∧ (I' w 1).toInt = (I w 1).toInt ∧ (I' w 2).toInt = (I w 2).toInt ∧ (I' im 0).toInt = (I im 0).toInt ∧ (I' im 1).toInt = (I im 1).toInt ∧ (I' im 2).toInt = (I im 2).toInt ∧ (I' m 3).toInt = (I m 3).toInt
def RLT (x nw kp rd m w im : Nat) (I : IT) : Prop := (I rd 1).toInt = (I m 11).toInt ∧ (I nw 0).toInt = (I w 0).toInt ∧ (I nw 1).toInt = (I w 1).toInt ∧ (I nw 2).toInt = (I w 2).toInt ∧ (I x 3).toInt = (I m 3).toInt ∧ ((I m 3).toInt = 0 ∨ (I kp 0).toInt = (I im 0).toInt ∧ (I kp 1).toInt = (I im 1).toInt ∧ (I kp 2).toInt = (I im 2).toInt)
theorem RLT.keep {x nw kp rd m w im : Nat} {I I1 I2 : IT} (h : RLT x nw kp rd m w im I) (c1 : SC x nw kp rd I I1) (m1 : SM m w im I I1) (c2 : SC x nw kp rd I1 I2) (m2 : SM m w im I1 I2) : RLT x nw kp rd m w im I2 := by
  unfold RLT SC SM at *; omega
/-- the law's surroundings: where things stand -/
def LW (T N : Nat → Nat) (R : RT) (A B : Nat → Prop) (x nw kp rd al m w im o : Nat) : Prop := h_LF T N R A x ∧ h_MD T N R B m ∧ (T o = 21 ∧ N o = 1 ∧ A o) ∧ (∀ a, A a → ¬ B a) ∧ R x 1 = some nw ∧ R x 2 = some kp ∧ R x 0 = some rd ∧ kp ≠ nw ∧ R x 5 = some al ∧ R al 0 = some nw ∧ R m 1 = some w ∧ R m 2 = some im
section LW
variable {T N : Nat → Nat} {R : RT} {A B : Nat → Prop} {x nw kp rd al m w im o : Nat} {I I1 : IT} {L L1 : LT}
theorem LW.t (E : LW T N R A B x nw kp rd al m w im o) : (T x = 12 ∧ T nw = 9 ∧ T kp = 9 ∧ T rd = 5) ∧ (A x ∧ A nw ∧ A kp ∧ A rd) ∧ B m ∧ B w ∧ B im := by
  obtain ⟨hx, hm, -, -, r1, r2, r0, -, -, -, w1, w2⟩ := E
  refine ⟨⟨hx.1, ?_, ?_, ?_⟩, ⟨hx.2.1, ?_, ?_, ?_⟩, hm.2.1, MD.B hm (by decide) w1, MD.B hm (by decide) w2⟩
  · obtain ⟨b, e, h⟩ := hx.2.2.2.1; cases (e.symm.trans r1); exact h.1
  · obtain ⟨b, e, h⟩ := hx.2.2.2.2.1; cases (e.symm.trans r2); exact h.1
  · obtain ⟨b, e, h⟩ := hx.2.2.1; cases (e.symm.trans r0); exact h.1
  · obtain ⟨b, e, h⟩ := hx.2.2.2.1; cases (e.symm.trans r1); exact h.2.1
  · obtain ⟨b, e, h⟩ := hx.2.2.2.2.1; cases (e.symm.trans r2); exact h.2.1
  · obtain ⟨b, e, h⟩ := hx.2.2.1; cases (e.symm.trans r0); exact h.2.1
theorem SM.fr (E : LW T N R A B x nw kp rd al m w im o) (f : Fr A I L I1 L1) : SM m w im I I1 := by
  have e : ∀ a, B a → I1 a = I a := fun a ha => (f a (fun q => E.2.2.2.1 a q ha)).1
  obtain ⟨-, -, b1, b2, b3⟩ := E.t
  unfold SM
  rw [e m b1, e w b2, e im b3]; exact ⟨rfl, rfl, rfl, rfl, rfl, rfl, rfl, rfl⟩
theorem SC.b (E : LW T N R A B x nw kp rd al m w im o) (e : ∀ a, ¬ B a → I1 a = I a) : SC x nw kp rd I I1 := by
  obtain ⟨-, ⟨a1, a2, a3, a4⟩, -⟩ := E.t
  have nAB := E.2.2.2.1
  unfold SC
  rw [e x (nAB _ a1), e nw (nAB _ a2), e kp (nAB _ a3), e rd (nAB _ a4)]; exact ⟨rfl, rfl, rfl, rfl, rfl, rfl, rfl, rfl⟩
theorem SC.cm {W WA : List Nat} (E : LW T N R A B x nw kp rd al m w im o) (c : CM B R m W WA I L I1 L1) : SC x nw kp rd I I1 := SC.b E (fun a ha => (c.1 a ha).1)
theorem SC.ci {W : List (Nat × Nat)} (E : LW T N R A B x nw kp rd al m w im o) (c : CI T W I I1) (h1 : (5, 1) ∉ W) (h2 : (9, 0) ∉ W) (h3 : (9, 1) ∉ W) (h4 : (9, 2) ∉ W) (h5 : (12, 3) ∉ W) : SC x nw kp rd I I1 := by
  obtain ⟨⟨t1, t2, t3, t4⟩, -⟩ := E.t
  unfold SC
  rw [c rd 1 (by omega) (by rw [t4]; exact h1), c nw 0 (by omega) (by rw [t2]; exact h2), c nw 1 (by omega) (by rw [t2]; exact h3), c nw 2 (by omega) (by rw [t2]; exact h4), c kp 0 (by omega) (by rw [t3]; exact h2), c kp 1 (by omega) (by rw [t3]; exact h3), c kp 2 (by omega) (by rw [t3]; exact h4), c x 3 (by omega) (by rw [t1]; exact h5)]
  exact ⟨rfl, rfl, rfl, rfl, rfl, rfl, rfl, rfl⟩
theorem CI.hrd {W : List (Nat × Nat)} (E : LW T N R A B x nw kp rd al m w im o) (c : CI T W I I1) (h : (5, 1) ∉ W) : (I1 rd 1).toInt = (I rd 1).toInt := by
  obtain ⟨⟨t1, t2, t3, t4⟩, -⟩ := E.t
  rw [c rd 1 (by omega) (by rw [t4]; exact h)]
theorem CI.x3 {W : List (Nat × Nat)} (E : LW T N R A B x nw kp rd al m w im o) (c : CI T W I I1) (h : (12, 3) ∉ W) : (I1 x 3).toInt = (I x 3).toInt := by
  obtain ⟨⟨t1, t2, t3, t4⟩, -⟩ := E.t
  rw [c x 3 (by omega) (by rw [t1]; exact h)]
theorem CI.s {W : List (Nat × Nat)} (E : LW T N R A B x nw kp rd al m w im o) (c : CI T W I I1) (h2 : (9, 0) ∉ W) (h3 : (9, 1) ∉ W) (h4 : (9, 2) ∉ W) : (I1 nw 0).toInt = (I nw 0).toInt ∧ (I1 nw 1).toInt = (I nw 1).toInt ∧ (I1 nw 2).toInt = (I nw 2).toInt ∧ (I1 kp 0).toInt = (I kp 0).toInt ∧ (I1 kp 1).toInt = (I kp 1).toInt ∧ (I1 kp 2).toInt = (I kp 2).toInt := by
  obtain ⟨⟨t1, t2, t3, t4⟩, -⟩ := E.t
  rw [c nw 0 (by omega) (by rw [t2]; exact h2), c nw 1 (by omega) (by rw [t2]; exact h3), c nw 2 (by omega) (by rw [t2]; exact h4), c kp 0 (by omega) (by rw [t3]; exact h2), c kp 1 (by omega) (by rw [t3]; exact h3), c kp 2 (by omega) (by rw [t3]; exact h4)]
  exact ⟨rfl, rfl, rfl, rfl, rfl, rfl⟩
theorem SM.cm {W WA : List Nat} (E : LW T N R A B x nw kp rd al m w im o) (c : CM B R m W WA I L I1 L1) (h11 : 11 ∉ W) (h3 : 3 ∉ W) (h1 : 1 ∉ WA) (h2 : 2 ∉ WA) : SM m w im I I1 := by
  obtain ⟨-, -, -, -, -, -, -, -, -, -, w1, w2⟩ := E
  unfold SM
  rw [c.2.1 11 h11, c.2.1 3 h3, (c.2.2 1 w w1 h1).1, (c.2.2 2 im w2 h2).1]; exact ⟨rfl, rfl, rfl, rfl, rfl, rfl, rfl, rfl⟩
theorem SM.xr {W WA : List Nat} (E : LW T N R A B x nw kp rd al m w im o) (c : CM B R m W WA I L I1 L1) (h11 : 11 ∉ W) (h3 : 3 ∉ W) (h2 : 2 ∉ WA) (f : ∀ a1, R m 1 = some a1 → ∀ r : Nat, r < 4 → I1 a1 r = I a1 r) : SM m w im I I1 := by
  obtain ⟨-, -, -, -, -, -, -, -, -, -, w1, w2⟩ := E
  unfold SM
  rw [c.2.1 11 h11, c.2.1 3 h3, f w w1 0 (by decide), f w w1 1 (by decide), f w w1 2 (by decide), (c.2.2 2 im w2 h2).1]; exact ⟨rfl, rfl, rfl, rfl, rfl, rfl, rfl, rfl⟩
theorem CM.m3 {W WA : List Nat} (c : CM B R m W WA I L I1 L1) (h : 3 ∉ W) : (I1 m 3).toInt = (I m 3).toInt := by rw [c.2.1 3 h]
theorem CM.cw {W WA : List Nat} (E : LW T N R A B x nw kp rd al m w im o) (c : CM B R m W WA I L I1 L1) (h1 : 1 ∉ WA) : (I1 w 0).toInt = (I w 0).toInt ∧ (I1 w 1).toInt = (I w 1).toInt ∧ (I1 w 2).toInt = (I w 2).toInt := by
  obtain ⟨-, -, -, -, -, -, -, -, -, -, w1, w2⟩ := E
  rw [(c.2.2 1 w w1 h1).1]; exact ⟨rfl, rfl, rfl⟩
theorem LI.bd (E : LW T N R A B x nw kp rd al m w im o) (h : LI T R A m I) : (11 ≤ (I w 0).toInt ∧ (I w 0).toInt ≤ 19) ∧ (0 ≤ (I w 1).toInt ∧ (I w 1).toInt ≤ 16) ∧ (0 ≤ (I w 2).toInt ∧ (I w 2).toInt ≤ 8) ∧ (0 ≤ (I m 11).toInt ∧ (I m 11).toInt ≤ 400) ∧ (11 ≤ (I nw 0).toInt ∧ (I nw 0).toInt ≤ 19) := by
  have ht := E.t
  obtain ⟨-, -, -, -, -, -, -, -, -, -, w1, w2⟩ := E
  exact ⟨h.2.1.pi w1 rfl, h.2.1.c1 w1 rfl, h.2.1.c2 w1 rfl, h.2.1.f11 rfl, (h.1 nw ht.2.1.2.1 0).2 ht.1.2.1 rfl⟩
end LW
theorem dtR_eq {p a b c d : Int} (hp : 0 < p) : dtR p a b c d = dt p a b c d := by
  unfold dtR dt
  have h1 : ∀ u v : Int, 0 ≤ (u % p) * (v % p) := fun u v => Int.mul_nonneg (Int.emod_nonneg _ (by omega)) (Int.emod_nonneg _ (by omega))
  rw [Int.tmod_eq_emod_of_nonneg (h1 a d), Int.tmod_eq_emod_of_nonneg (h1 b c)]
  have b1 := Int.emod_nonneg ((a % p) * (d % p)) (show p ≠ 0 by omega)
  have b2 := Int.emod_lt_of_pos ((b % p) * (c % p)) hp
  rw [Int.tmod_eq_emod_of_nonneg (by omega)]
  have e1 : ((a % p) * (d % p)) % p - ((b % p) * (c % p)) % p + p = ((a % p) * (d % p) - (b % p) * (c % p)) + p * (1 - ((a % p) * (d % p)) / p + ((b % p) * (c % p)) / p) := by
    have q1 := Int.mul_ediv_add_emod ((a % p) * (d % p)) p
    have q2 := Int.mul_ediv_add_emod ((b % p) * (c % p)) p
    rw [Int.mul_add, Int.mul_sub]; omega
  rw [e1, Int.add_mul_emod_self_left]
