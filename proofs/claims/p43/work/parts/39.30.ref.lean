-- 39.30.ref.lean.txt
section
/-! the reference on a new object: what throws, and small calls -/
end
-- 39.31.ref.lean.txt
section
/-! the reference: an empty text, tables, the stock -/
end
-- 39.32.ref.lean.txt
section
/-! the reference: the tape, the image, span and basis without signs -/
end
-- 39.33.cnt.lean.txt
section
/-! COUNT, the calls -/
/-! fields of the reference that stay -/
def IKm (m : Nat) (I I' : IT) : Prop := ∀ k, k ≠ 0 → k < 35 → I' m k = I m k
theorem IKm.rf {m : Nat} {I : IT} : IKm m I I := fun _ _ _ => rfl
theorem IKm.i {m : Nat} {I I1 : IT} {x : Int32} (h : IKm m I I1) : IKm m I (u2 I1 m 0 x) := fun k h0 hk => (u2_k h0).trans (h k h0 hk)
def IK3 (m : Nat) (I I' : IT) : Prop := ∀ k, k < 35 → I' m k = I m k
theorem IK3.h {m : Nat} {I I1 : IT} {a b c : Int32} (h : IK3 m I I1) : IK3 m I (u2 (u2 (u2 I1 m 35 a) m 36 b) m 37 c) := fun k hk => by rw [u2_k (by omega), u2_k (by omega), u2_k (by omega)]; exact h k hk
theorem IKm.s {m : Nat} {I I1 : IT} {x : Int32} (h : IK3 m (u2 I m 0 x) I1) : IKm m I I1 := fun k h0 hk => (h k hk).trans (u2_k h0)
end
-- 39.34.red.lean.txt
section
/-! WHOLE FORMS are reduced: the state as eight longs -/
abbrev S8 : Type := Nat → Int64
def turned (s : S8) : Prop := s 2 < s 0 ∨ (s 0 = s 2 ∧ s 1 < 0)
end
-- 39.35.red.lean.txt
section
/-! WHOLE FORMS in the class -/
def st0 (a b c : Int32) : S8 := fun k => match k with
  | 0 => a.toInt64
  | 1 => b.toInt64
  | 2 => c.toInt64
  | 4 => 1
  | 7 => 1
  | _ => 0
end
-- 39.36.red.lean.txt
section
/-! WHOLE FORMS in the reference -/
end
-- 39.37.red.lean.txt
section
/-! reduced, the calls -/
end
-- 39.38.gcd.lean.txt
section
/-! greatest divisors -/
end
-- 39.39.seek.lean.txt
section
/-! CLASSES: the reduced ones, in their order -/
abbrev SG : Type := Int32 × Int32 × Int32 × Int32
set_option maxHeartbeats 2000000 in
theorem lt_step {k n : Int32} (h : k < n + 1) (c : ¬ n = k) : k < n := by
  have h1 := rg k
  have h2 := rg n
  rw [i_lt] at h ⊢
  by_cases q : n.toInt = 2147483647
  · have e : n = 2147483647 := Int32.toInt_inj.mp q
    subst e
    have e2 : ((2147483647 : Int32) + 1).toInt = -2147483648 := rfl
    omega
  · have e1 : (1 : Int32).toInt = 1 := rfl
    rw [ii_add (by omega), e1] at h
    have : n.toInt ≠ k.toInt := fun e => c (Int32.toInt_inj.mp e)
    omega
def SKc (k : Int32) (s : SG) (L : LT) (w : Nat) : Prop := 0 ≤ k → k < s.1 → L w 0 = s.2.1.toInt64 ∧ L w 1 = s.2.2.1.toInt64 ∧ L w 2 = s.2.2.2.toInt64
theorem SKc.z {k a b c : Int32} {L : LT} {w : Nat} : SKc k (0, a, b, c) L w := fun h1 h2 => absurd h2 (Int32.not_lt.mpr h1)
theorem SKc.h {k n a b c : Int32} {L : LT} {w : Nat} : SKc k (n, a, b, c) (u2 (u2 (u2 L w 0 a.toInt64) w 1 b.toInt64) w 2 c.toInt64) w := fun _ _ => ⟨(u2_k (by decide)).trans ((u2_k (by decide)).trans (u2_s)), (u2_k (by decide)).trans (u2_s), u2_s⟩
theorem SKc.m {k : Int32} {s : SG} {L : LT} {w : Nat} (h : SKc k s L w) (c : ¬ s.1 = k) : SKc k (s.1 + 1, s.2) L w := fun h1 h2 => h h1 (lt_step h2 c)
def SKi (k : Int32) (s : SG) (I : IT) (m : Nat) : Prop := 0 ≤ k → k < s.1 → I m 35 = s.2.1 ∧ I m 36 = s.2.2.1 ∧ I m 37 = s.2.2.2
theorem SKi.z {k a b c : Int32} {I : IT} {m : Nat} : SKi k (0, a, b, c) I m := fun h1 h2 => absurd h2 (Int32.not_lt.mpr h1)
theorem SKi.h {k n a b c : Int32} {I : IT} {m : Nat} : SKi k (n, a, b, c) (u2 (u2 (u2 I m 35 a) m 36 b) m 37 c) m := fun _ _ => ⟨(u2_k (by decide)).trans ((u2_k (by decide)).trans (u2_s)), (u2_k (by decide)).trans (u2_s), u2_s⟩
theorem SKi.m {k : Int32} {s : SG} {I : IT} {m : Nat} (h : SKi k s I m) (c : ¬ s.1 = k) : SKi k (s.1 + 1, s.2) I m := fun h1 h2 => h h1 (lt_step h2 c)
end
-- 39.41.seek.lean.txt
section
/-! CLASSES, the calls -/
end
-- 39.42.real.lean.txt
section
/-! roots of real numbers -/
end
