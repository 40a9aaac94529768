-- 39.30.ref.lean.txt
section
/-! the reference on a new object: what throws, and small calls -/
theorem e_in {d : Nat} {T N : Nat → Nat} {I : IT} {L : LT} {R : RT} {v lo hi : Int32}  : Ex (d + 1) 179 [.int v, .int lo, .int hi] (T, N, I, L, R) 0 0 (pI T N R (fun x9 I9 L9 => x9 = (if lo ≤ v ∧ v ≤ hi then (1 : Int32) else 0) ∧ I9 = I ∧ L9 = L)) := by
  refine ⟨_, rfl, Nat.le_of_ble_eq_true rfl, fun V C S => ?_⟩
  show V 0 [(0, .int v), (1, .int lo), (2, .int hi)] [] (T, N, I, L, R) 0 0
  refine k_iload_n C rfl rfl rfl ?_
  refine k_iload_n C rfl rfl rfl ?_
  refine k_icmp_lt C (t := 14) rfl rfl rfl (fun c2 => ?_) (fun c2 => ?_)
  · skip
    refine k_iconst C (x := 0) rfl rfl rfl ?_
    exact k_iret C rfl (Or.inr ⟨rfl, by first | exact Or.inl rfl | exact Or.inr rfl⟩) (Nat.le_of_ble_eq_true rfl) (Nat.le_of_ble_eq_true rfl) ⟨_, _, _, rfl, rfl, ⟨by first | exact (if_pos ⟨Int32.not_lt.mp c2, Int32.not_lt.mp c7⟩).symm | exact (if_neg (fun h => Int32.not_lt.mpr h.2 c7)).symm | exact (if_neg (fun h => Int32.not_lt.mpr h.1 c2)).symm, rfl, rfl⟩⟩
  refine k_iload_n C rfl rfl rfl ?_
  refine k_iload_n C rfl rfl rfl ?_
  refine k_icmp_gt C (t := 14) rfl rfl rfl (fun c7 => ?_) (fun c7 => ?_)
  · skip
    refine k_iconst C (x := 0) rfl rfl rfl ?_
    exact k_iret C rfl (Or.inr ⟨rfl, by first | exact Or.inl rfl | exact Or.inr rfl⟩) (Nat.le_of_ble_eq_true rfl) (Nat.le_of_ble_eq_true rfl) ⟨_, _, _, rfl, rfl, ⟨by first | exact (if_pos ⟨Int32.not_lt.mp c2, Int32.not_lt.mp c7⟩).symm | exact (if_neg (fun h => Int32.not_lt.mpr h.2 c7)).symm | exact (if_neg (fun h => Int32.not_lt.mpr h.1 c2)).symm, rfl, rfl⟩⟩
  refine k_iconst C (x := 1) rfl rfl rfl ?_
  refine k_goto C (pc2 := 15) rfl rfl ?_
  exact k_iret C rfl (Or.inr ⟨rfl, by first | exact Or.inl rfl | exact Or.inr rfl⟩) (Nat.le_of_ble_eq_true rfl) (Nat.le_of_ble_eq_true rfl) ⟨_, _, _, rfl, rfl, ⟨by first | exact (if_pos ⟨Int32.not_lt.mp c2, Int32.not_lt.mp c7⟩).symm | exact (if_neg (fun h => Int32.not_lt.mpr h.2 c7)).symm | exact (if_neg (fun h => Int32.not_lt.mpr h.1 c2)).symm, rfl, rfl⟩⟩

theorem e_throwsIf1 {d : Nat} {T N : Nat → Nat} {I : IT} {L : LT} {R : RT} {m : Nat} {z c : Int32} (T_m : T m = 13) (hz : z = 1) : Ex (d + 1) 178 [.ref m, .int z, .int c] (T, N, I, L, R) 0 0 (pI T N R (fun x9 I9 L9 => x9 = (1) ∧ I9 = (u2 I m 0 c) ∧ L9 = (L))) := by
  refine ⟨_, rfl, Nat.le_of_ble_eq_true rfl, fun V C S => ?_⟩
  show V 0 [(0, .ref m), (1, .int z), (2, .int c)] [] (T, N, I, L, R) 0 0
  refine k_iload_n C rfl rfl rfl ?_
  refine k_if_eq C (t := 9) rfl rfl rfl (fun c1 => ?_) (fun c1 => ?_)
  · skip
    exact absurd (hz ▸ c1) (by decide)
  refine k_aload_n C rfl rfl rfl ?_
  refine k_iload_n C rfl rfl rfl ?_
  refine p_I C rfl rfl rfl T_m (Or.inr rfl) rfl ?_
  refine k_iload_n C rfl rfl rfl ?_
  exact k_iret C rfl (Or.inr ⟨rfl, Or.inr hz⟩) (Nat.le_of_ble_eq_true rfl) (Nat.le_of_ble_eq_true rfl) ⟨_, _, _, rfl, rfl, ⟨hz, rfl, rfl⟩⟩

theorem e_throwsIf0 {d : Nat} {T N : Nat → Nat} {I : IT} {L : LT} {R : RT} {m : Nat} {z c : Int32} (T_m : T m = 13) (hz : z = 0) : Ex (d + 1) 178 [.ref m, .int z, .int c] (T, N, I, L, R) 0 0 (pI T N R (fun x9 I9 L9 => x9 = (0) ∧ I9 = (I) ∧ L9 = (L))) := by
  refine ⟨_, rfl, Nat.le_of_ble_eq_true rfl, fun V C S => ?_⟩
  show V 0 [(0, .ref m), (1, .int z), (2, .int c)] [] (T, N, I, L, R) 0 0
  refine k_iload_n C rfl rfl rfl ?_
  refine k_if_eq C (t := 9) rfl rfl rfl (fun c1 => ?_) (fun c1 => ?_)
  · skip
    refine k_iload_n C rfl rfl rfl ?_
    exact k_iret C rfl (Or.inr ⟨rfl, Or.inl hz⟩) (Nat.le_of_ble_eq_true rfl) (Nat.le_of_ble_eq_true rfl) ⟨_, _, _, rfl, rfl, ⟨hz, rfl, rfl⟩⟩
  exact absurd hz c1

theorem e_thrown {d : Nat} {T N : Nat → Nat} {I : IT} {L : LT} {R : RT} {m : Nat} (T_m : T m = 13) : Ex (d + 1) 177 [.ref m] (T, N, I, L, R) 0 0 (pI T N R (fun x9 I9 L9 => x9 = (I m 0) ∧ I9 = I ∧ L9 = L)) := by
  refine ⟨_, rfl, Nat.le_of_ble_eq_true rfl, fun V C S => ?_⟩
  show V 0 [(0, .ref m)] [] (T, N, I, L, R) 0 0
  refine k_aload_n C rfl rfl rfl ?_
  refine g_I C rfl rfl rfl T_m rfl (rfl) ?_
  exact k_iret C rfl (Or.inl rfl) (Nat.le_of_ble_eq_true rfl) (Nat.le_of_ble_eq_true rfl) ⟨_, _, _, rfl, rfl, ⟨rfl, rfl, rfl⟩⟩
end
-- 39.31.ref.lean.txt
section
/-! the reference: an empty text, tables, the stock -/
end
-- 39.32.ref.lean.txt
section
/-! the reference: the tape, the image, span and basis without signs -/
end
-- 39.33.cnt.lean.txt
section
/-! COUNT, the calls -/
/-! fields of the reference that stay -/
def IKm (m : Nat) (I I' : IT) : Prop := ∀ k, k ≠ 0 → k < 35 → I' m k = I m k
theorem IKm.rf {m : Nat} {I : IT} : IKm m I I := fun _ _ _ => rfl
theorem IKm.i {m : Nat} {I I1 : IT} {x : Int32} (h : IKm m I I1) : IKm m I (u2 I1 m 0 x) := fun k h0 hk => (u2_k h0).trans (h k h0 hk)
def IK3 (m : Nat) (I I' : IT) : Prop := ∀ k, k < 35 → I' m k = I m k
theorem IK3.h {m : Nat} {I I1 : IT} {a b c : Int32} (h : IK3 m I I1) : IK3 m I (u2 (u2 (u2 I1 m 35 a) m 36 b) m 37 c) := fun k hk => by rw [u2_k (by omega), u2_k (by omega), u2_k (by omega)]; exact h k hk
theorem IKm.s {m : Nat} {I I1 : IT} {x : Int32} (h : IK3 m (u2 I m 0 x) I1) : IKm m I I1 := fun k h0 hk => (h k hk).trans (u2_k h0)
def okCnt (r e m : Int32) : Prop := (0 ≤ r ∧ r ≤ 12) ∧ (1 ≤ e ∧ e ≤ 8) ∧ (0 ≤ m ∧ m ≤ 96)
theorem n_sub_lt {a b : Nat} (h : a < b) (hb : b < 1000000) : Int32.ofNat a - Int32.ofNat b < 0 := by
  have e0 : (0 : Int32).toInt = 0 := rfl
  rw [i_lt, ii_sub (by rw [n_int (by omega), n_int (by omega)]; omega), n_int (by omega), n_int (by omega), e0]; omega
theorem inY {p : Prop} {D : Decidable p} (c : ¬ (if p then (1 : Int32) else 0) = 0) : p := Decidable.byContradiction (fun h => c (if_neg h))
theorem inN {p : Prop} {D : Decidable p} (h : p) : ¬ (if p then (1 : Int32) else 0) = 0 := by rw [if_pos h]; decide
theorem e_count_no {d : Nat} {T N : Nat → Nat} {I : IT} {L : LT} {R : RT} {x : Nat} {rI eI mI : Int32} (T_x : T x = 12) (h : ¬ okCnt rI eI mI) : Ex (d + 1) 151 [.ref x, .int rI, .int eI, .int mI] (T, N, I, L, R) 1 6 (pX 0 T N R (fun I9 L9 => I9 = I ∧ L9 = L)) := by
  refine ⟨_, rfl, Nat.le_of_ble_eq_true rfl, fun V C S => ?_⟩
  show V 0 [(0, .ref x), (1, .int rI), (2, .int eI), (3, .int mI)] [] (T, N, I, L, R) 0 0
  refine k_iload_n C rfl rfl rfl ?_
  refine k_if_lt C (t := 31) rfl rfl rfl (fun c1 => ?_) (fun c1 => ?_)
  · skip
    exact k_throw C rfl rfl rfl rfl rfl rfl (Nat.le_of_ble_eq_true rfl) (Nat.le_of_ble_eq_true rfl) (Nat.le_of_ble_eq_true rfl) ⟨_, _, rfl, rfl, ⟨rfl, rfl⟩⟩
  refine k_iload_n C rfl rfl rfl ?_
  refine k_bipush C (x := 12) rfl rfl rfl ?_
  refine k_icmp_gt C (t := 31) rfl rfl rfl (fun c7 => ?_) (fun c7 => ?_)
  · skip
    exact k_throw C rfl rfl rfl rfl rfl rfl (Nat.le_of_ble_eq_true rfl) (Nat.le_of_ble_eq_true rfl) (Nat.le_of_ble_eq_true rfl) ⟨_, _, rfl, rfl, ⟨rfl, rfl⟩⟩
  refine k_iload_n C rfl rfl rfl ?_
  refine k_iconst C (x := 1) rfl rfl rfl ?_
  refine k_icmp_lt C (t := 31) rfl rfl rfl (fun c12 => ?_) (fun c12 => ?_)
  · skip
    exact k_throw C rfl rfl rfl rfl rfl rfl (Nat.le_of_ble_eq_true rfl) (Nat.le_of_ble_eq_true rfl) (Nat.le_of_ble_eq_true rfl) ⟨_, _, rfl, rfl, ⟨rfl, rfl⟩⟩
  refine k_iload_n C rfl rfl rfl ?_
  refine k_bipush C (x := 8) rfl rfl rfl ?_
  refine k_icmp_gt C (t := 31) rfl rfl rfl (fun c18 => ?_) (fun c18 => ?_)
  · skip
    exact k_throw C rfl rfl rfl rfl rfl rfl (Nat.le_of_ble_eq_true rfl) (Nat.le_of_ble_eq_true rfl) (Nat.le_of_ble_eq_true rfl) ⟨_, _, rfl, rfl, ⟨rfl, rfl⟩⟩
  refine k_iload_n C rfl rfl rfl ?_
  refine k_if_lt C (t := 31) rfl rfl rfl (fun c22 => ?_) (fun c22 => ?_)
  · skip
    exact k_throw C rfl rfl rfl rfl rfl rfl (Nat.le_of_ble_eq_true rfl) (Nat.le_of_ble_eq_true rfl) (Nat.le_of_ble_eq_true rfl) ⟨_, _, rfl, rfl, ⟨rfl, rfl⟩⟩
  refine k_iload_n C rfl rfl rfl ?_
  refine k_bipush C (x := 96) rfl rfl rfl ?_
  refine k_icmp_le C (t := 39) rfl rfl rfl (fun c28 => ?_) (fun c28 => ?_)
  · skip
    exact absurd ⟨⟨Int32.not_lt.mp c1, Int32.not_lt.mp c7⟩, ⟨Int32.not_lt.mp c12, Int32.not_lt.mp c18⟩, Int32.not_lt.mp c22, c28⟩ h
  exact k_throw C rfl rfl rfl rfl rfl rfl (Nat.le_of_ble_eq_true rfl) (Nat.le_of_ble_eq_true rfl) (Nat.le_of_ble_eq_true rfl) ⟨_, _, rfl, rfl, ⟨rfl, rfl⟩⟩

theorem e_count_a {d : Nat} {T N : Nat → Nat} {I : IT} {L : LT} {R : RT} {A : Nat → Prop} {x rw wy : Nat} {rI eI mI : Int32} (T_x : T x = 12) (R_x_7 : R x 7 = some rw) (T_rw : T rw = 6) (R_rw_5 : R rw 5 = some wy) (T_wy : T wy = 21) (N_wy : N wy = 637) (A_wy : A wy) {r e n : Nat} (hrI : rI = Int32.ofNat r) (heI : eI = Int32.ofNat e) (hmI : mI = Int32.ofNat n) (hr9 : r ≤ 12) (he1 : 1 ≤ e) (he : e ≤ 8) (hm : n ≤ 96) (hq : e * r < n) : Ex (d + 1) 151 [.ref x, .int rI, .int eI, .int mI] (T, N, I, L, R) 0 0 (pL T N R (fun x9 I9 L9 => x9 = 0 ∧ Fr A I L I9 L9)) := by
  refine ⟨_, rfl, Nat.le_of_ble_eq_true rfl, fun V C S => ?_⟩
  show V 0 [(0, .ref x), (1, .int rI), (2, .int eI), (3, .int mI)] [] (T, N, I, L, R) 0 0
  subst hrI heI hmI
  have hb : e * r ≤ 96 := Nat.le_trans (Nat.mul_le_mul he hr9) (by decide)
  refine k_iload_n C rfl rfl rfl ?_
  refine k_if_lt C (t := 31) rfl rfl rfl (fun c1 => ?_) (fun c1 => ?_)
  · skip
    exact absurd c1 (n_nn (by omega))
  refine k_iload_n C rfl rfl rfl ?_
  refine k_bipush C (x := 12) rfl rfl rfl ?_
  refine k_icmp_gt C (t := 31) rfl rfl rfl (fun c7 => ?_) (fun c7 => ?_)
  · skip
    exact absurd ((n_lt (a := 12) (b := r) (by omega) (by omega)).mp c7) (by omega)
  refine k_iload_n C rfl rfl rfl ?_
  refine k_iconst C (x := 1) rfl rfl rfl ?_
  refine k_icmp_lt C (t := 31) rfl rfl rfl (fun c12 => ?_) (fun c12 => ?_)
  · skip
    exact absurd ((n_lt (a := e) (b := 1) (by omega) (by omega)).mp c12) (by omega)
  refine k_iload_n C rfl rfl rfl ?_
  refine k_bipush C (x := 8) rfl rfl rfl ?_
  refine k_icmp_gt C (t := 31) rfl rfl rfl (fun c18 => ?_) (fun c18 => ?_)
  · skip
    exact absurd ((n_lt (a := 8) (b := e) (by omega) (by omega)).mp c18) (by omega)
  refine k_iload_n C rfl rfl rfl ?_
  refine k_if_lt C (t := 31) rfl rfl rfl (fun c22 => ?_) (fun c22 => ?_)
  · skip
    exact absurd c22 (n_nn (by omega))
  refine k_iload_n C rfl rfl rfl ?_
  refine k_bipush C (x := 96) rfl rfl rfl ?_
  refine k_icmp_le C (t := 39) rfl rfl rfl (fun c28 => ?_) (fun c28 => ?_)
  · skip
    refine k_iload_n C rfl rfl rfl ?_
    refine k_iload_n C rfl rfl rfl ?_
    refine k_imul C rfl rfl ?_
    refine k_iload_n C rfl rfl rfl ?_
    refine k_isub C rfl rfl ?_
    rw [n_mul]
    refine k_istore C (lw := [(4, .int _), (0, _), (1, .int _), (2, .int _), (3, .int _)]) rfl rfl (Nat.le_of_ble_eq_true rfl) rfl ?_
    refine k_iload C rfl rfl rfl ?_
    refine k_if_lt C (t := 58) rfl rfl rfl (fun c48 => ?_) (fun c48 => ?_)
    · skip
      refine k_lconst C (x := 0) rfl rfl rfl ?_
      exact k_lret C rfl rfl (Nat.le_of_ble_eq_true rfl) (Nat.le_of_ble_eq_true rfl) ⟨_, _, _, rfl, rfl, ⟨rfl, Fr.rf⟩⟩
    exact absurd (n_sub_lt hq (by omega)) c48
  exact absurd ((n_le (a := n) (b := 96) (by omega) (by omega)).mpr hm) c28

theorem e_count_b {d : Nat} {T N : Nat → Nat} {I : IT} {L : LT} {R : RT} {A : Nat → Prop} {x rw wy : Nat} {rI eI mI : Int32} (T_x : T x = 12) (R_x_7 : R x 7 = some rw) (T_rw : T rw = 6) (R_rw_5 : R rw 5 = some wy) (T_wy : T wy = 21) (N_wy : N wy = 637) (A_wy : A wy) {r e n : Nat} (hrI : rI = Int32.ofNat r) (heI : eI = Int32.ofNat e) (hmI : mI = Int32.ofNat n) (hr9 : r ≤ 12) (he1 : 1 ≤ e) (he : e ≤ 8) (hm : n ≤ 96) (hge : n ≤ e * r) (hodd : (e * r - n) % 2 = 1) : Ex (d + 1) 151 [.ref x, .int rI, .int eI, .int mI] (T, N, I, L, R) 0 0 (pL T N R (fun x9 I9 L9 => x9 = 0 ∧ Fr A I L I9 L9)) := by
  refine ⟨_, rfl, Nat.le_of_ble_eq_true rfl, fun V C S => ?_⟩
  show V 0 [(0, .ref x), (1, .int rI), (2, .int eI), (3, .int mI)] [] (T, N, I, L, R) 0 0
  subst hrI heI hmI
  have hb : e * r ≤ 96 := Nat.le_trans (Nat.mul_le_mul he hr9) (by decide)
  refine k_iload_n C rfl rfl rfl ?_
  refine k_if_lt C (t := 31) rfl rfl rfl (fun c1 => ?_) (fun c1 => ?_)
  · skip
    exact absurd c1 (n_nn (by omega))
  refine k_iload_n C rfl rfl rfl ?_
  refine k_bipush C (x := 12) rfl rfl rfl ?_
  refine k_icmp_gt C (t := 31) rfl rfl rfl (fun c7 => ?_) (fun c7 => ?_)
  · skip
    exact absurd ((n_lt (a := 12) (b := r) (by omega) (by omega)).mp c7) (by omega)
  refine k_iload_n C rfl rfl rfl ?_
  refine k_iconst C (x := 1) rfl rfl rfl ?_
  refine k_icmp_lt C (t := 31) rfl rfl rfl (fun c12 => ?_) (fun c12 => ?_)
  · skip
    exact absurd ((n_lt (a := e) (b := 1) (by omega) (by omega)).mp c12) (by omega)
  refine k_iload_n C rfl rfl rfl ?_
  refine k_bipush C (x := 8) rfl rfl rfl ?_
  refine k_icmp_gt C (t := 31) rfl rfl rfl (fun c18 => ?_) (fun c18 => ?_)
  · skip
    exact absurd ((n_lt (a := 8) (b := e) (by omega) (by omega)).mp c18) (by omega)
  refine k_iload_n C rfl rfl rfl ?_
  refine k_if_lt C (t := 31) rfl rfl rfl (fun c22 => ?_) (fun c22 => ?_)
  · skip
    exact absurd c22 (n_nn (by omega))
  refine k_iload_n C rfl rfl rfl ?_
  refine k_bipush C (x := 96) rfl rfl rfl ?_
  refine k_icmp_le C (t := 39) rfl rfl rfl (fun c28 => ?_) (fun c28 => ?_)
  · skip
    refine k_iload_n C rfl rfl rfl ?_
    refine k_iload_n C rfl rfl rfl ?_
    refine k_imul C rfl rfl ?_
    refine k_iload_n C rfl rfl rfl ?_
    refine k_isub C rfl rfl ?_
    rw [n_mul]
    refine k_istore C (lw := [(4, .int _), (0, _), (1, .int _), (2, .int _), (3, .int _)]) rfl rfl (Nat.le_of_ble_eq_true rfl) rfl ?_
    refine k_iload C rfl rfl rfl ?_
    refine k_if_lt C (t := 58) rfl rfl rfl (fun c48 => ?_) (fun c48 => ?_)
    · skip
      rw [n_sub hge] at c48; exact absurd c48 (n_nn (by omega))
    refine k_iload C rfl rfl rfl ?_
    rw [n_sub hge]
    refine k_iconst C (x := 2) rfl rfl rfl ?_
    refine k_irem C rfl rfl (by decide) ?_
    rw [n_rem2 (by omega)]
    refine k_if_eq C (t := 60) rfl rfl rfl (fun c55 => ?_) (fun c55 => ?_)
    · skip
      rw [hodd] at c55; exact absurd c55 (by decide)
    refine k_lconst C (x := 0) rfl rfl rfl ?_
    exact k_lret C rfl rfl (Nat.le_of_ble_eq_true rfl) (Nat.le_of_ble_eq_true rfl) ⟨_, _, _, rfl, rfl, ⟨rfl, Fr.rf⟩⟩
  exact absurd ((n_le (a := n) (b := 96) (by omega) (by omega)).mpr hm) c28

theorem e_count_c {d : Nat} {T N : Nat → Nat} {I : IT} {L : LT} {R : RT} {A : Nat → Prop} {x rw wy : Nat} {rI eI mI : Int32} (T_x : T x = 12) (R_x_7 : R x 7 = some rw) (T_rw : T rw = 6) (R_rw_5 : R rw 5 = some wy) (T_wy : T wy = 21) (N_wy : N wy = 637) (A_wy : A wy) {r e n : Nat} (hrI : rI = Int32.ofNat r) (heI : eI = Int32.ofNat e) (hmI : mI = Int32.ofNat n) (hr9 : r ≤ 12) (he1 : 1 ≤ e) (he : e ≤ 8) (hm : n ≤ 96) (hge : n ≤ e * r) (hev : (e * r - n) % 2 = 0) (hz : (e * r - n) / 2 = 0) : Ex (d + 3) 151 [.ref x, .int rI, .int eI, .int mI] (T, N, I, L, R) 0 0 (pL T N R (fun x9 I9 L9 => x9 = waysP 0 r e - 0 ∧ Fr A I L I9 L9)) := by
  refine ⟨_, rfl, Nat.le_of_ble_eq_true rfl, fun V C S => ?_⟩
  show V 0 [(0, .ref x), (1, .int rI), (2, .int eI), (3, .int mI)] [] (T, N, I, L, R) 0 0
  subst hrI heI hmI
  have hb : e * r ≤ 96 := Nat.le_trans (Nat.mul_le_mul he hr9) (by decide)
  refine k_iload_n C rfl rfl rfl ?_
  refine k_if_lt C (t := 31) rfl rfl rfl (fun c1 => ?_) (fun c1 => ?_)
  · skip
    exact absurd c1 (n_nn (by omega))
  refine k_iload_n C rfl rfl rfl ?_
  refine k_bipush C (x := 12) rfl rfl rfl ?_
  refine k_icmp_gt C (t := 31) rfl rfl rfl (fun c7 => ?_) (fun c7 => ?_)
  · skip
    exact absurd ((n_lt (a := 12) (b := r) (by omega) (by omega)).mp c7) (by omega)
  refine k_iload_n C rfl rfl rfl ?_
  refine k_iconst C (x := 1) rfl rfl rfl ?_
  refine k_icmp_lt C (t := 31) rfl rfl rfl (fun c12 => ?_) (fun c12 => ?_)
  · skip
    exact absurd ((n_lt (a := e) (b := 1) (by omega) (by omega)).mp c12) (by omega)
  refine k_iload_n C rfl rfl rfl ?_
  refine k_bipush C (x := 8) rfl rfl rfl ?_
  refine k_icmp_gt C (t := 31) rfl rfl rfl (fun c18 => ?_) (fun c18 => ?_)
  · skip
    exact absurd ((n_lt (a := 8) (b := e) (by omega) (by omega)).mp c18) (by omega)
  refine k_iload_n C rfl rfl rfl ?_
  refine k_if_lt C (t := 31) rfl rfl rfl (fun c22 => ?_) (fun c22 => ?_)
  · skip
    exact absurd c22 (n_nn (by omega))
  refine k_iload_n C rfl rfl rfl ?_
  refine k_bipush C (x := 96) rfl rfl rfl ?_
  refine k_icmp_le C (t := 39) rfl rfl rfl (fun c28 => ?_) (fun c28 => ?_)
  · skip
    refine k_iload_n C rfl rfl rfl ?_
    refine k_iload_n C rfl rfl rfl ?_
    refine k_imul C rfl rfl ?_
    refine k_iload_n C rfl rfl rfl ?_
    refine k_isub C rfl rfl ?_
    rw [n_mul]
    refine k_istore C (lw := [(4, .int _), (0, _), (1, .int _), (2, .int _), (3, .int _)]) rfl rfl (Nat.le_of_ble_eq_true rfl) rfl ?_
    refine k_iload C rfl rfl rfl ?_
    refine k_if_lt C (t := 58) rfl rfl rfl (fun c48 => ?_) (fun c48 => ?_)
    · skip
      rw [n_sub hge] at c48; exact absurd c48 (n_nn (by omega))
    refine k_iload C rfl rfl rfl ?_
    rw [n_sub hge]
    refine k_iconst C (x := 2) rfl rfl rfl ?_
    refine k_irem C rfl rfl (by decide) ?_
    rw [n_rem2 (by omega)]
    refine k_if_eq C (t := 60) rfl rfl rfl (fun c55 => ?_) (fun c55 => ?_)
    · skip
      refine k_aload_n C rfl rfl rfl ?_
      refine g_R C rfl rfl rfl T_x rfl R_x_7 ?_
      refine k_iload C rfl rfl rfl ?_
      refine k_iconst C (x := 2) rfl rfl rfl ?_
      refine k_idiv C rfl rfl (by decide) ?_
      rw [n_div2 (by omega)]
      refine k_iload_n C rfl rfl rfl ?_
      refine k_iload_n C rfl rfl rfl ?_
      refine c_VL C (e_ways_nat T_rw R_rw_5 T_wy N_wy A_wy (w := 0) (congrArg Int32.ofNat hz) rfl rfl (by omega) hr9 he) rfl rfl rfl rfl rfl ⟨_, rfl, rfl, T_rw, Nat.le_of_ble_eq_true rfl⟩ rfl rfl (Nat.le_of_ble_eq_true rfl) (Nat.le_of_ble_eq_true rfl) (Nat.le_of_ble_eq_true rfl) ?_
      rintro _ _ L1 ⟨rfl, hI8, hF1⟩
      have hI8 := hI8.symm; subst hI8
      refine k_aload_n C rfl rfl rfl ?_
      refine g_R C rfl rfl rfl T_x rfl R_x_7 ?_
      refine k_iload C rfl rfl rfl ?_
      refine k_iconst C (x := 2) rfl rfl rfl ?_
      refine k_idiv C rfl rfl (by decide) ?_
      rw [n_div2 (by omega)]
      refine k_iconst C (x := 1) rfl rfl rfl ?_
      refine k_isub C rfl rfl ?_
      refine k_iload_n C rfl rfl rfl ?_
      refine k_iload_n C rfl rfl rfl ?_
      refine c_VL C (e_ways_neg  (by rw [hz]; decide)) rfl rfl rfl rfl rfl ⟨_, rfl, rfl, T_rw, Nat.le_of_ble_eq_true rfl⟩ rfl rfl (Nat.le_of_ble_eq_true rfl) (Nat.le_of_ble_eq_true rfl) (Nat.le_of_ble_eq_true rfl) ?_
      rintro _ _ _ ⟨hx7, hI8, hL9⟩
      have hx7 := hx7.symm; subst hx7
      have hI8 := hI8.symm; subst hI8; have hL9 := hL9.symm; subst hL9
      refine k_lsub C rfl rfl ?_
      exact k_lret C rfl rfl (Nat.le_of_ble_eq_true rfl) (Nat.le_of_ble_eq_true rfl) ⟨_, _, _, rfl, rfl, ⟨rfl, hF1⟩⟩
    rw [hev] at c55; exact absurd rfl c55
  exact absurd ((n_le (a := n) (b := 96) (by omega) (by omega)).mpr hm) c28

theorem e_count_d {d : Nat} {T N : Nat → Nat} {I : IT} {L : LT} {R : RT} {A : Nat → Prop} {x rw wy : Nat} {rI eI mI : Int32} (T_x : T x = 12) (R_x_7 : R x 7 = some rw) (T_rw : T rw = 6) (R_rw_5 : R rw 5 = some wy) (T_wy : T wy = 21) (N_wy : N wy = 637) (A_wy : A wy) {r e n : Nat} (hrI : rI = Int32.ofNat r) (heI : eI = Int32.ofNat e) (hmI : mI = Int32.ofNat n) (hr9 : r ≤ 12) (he1 : 1 ≤ e) (he : e ≤ 8) (hm : n ≤ 96) (hge : n ≤ e * r) (hev : (e * r - n) % 2 = 0) (hz : 1 ≤ (e * r - n) / 2) : Ex (d + 3) 151 [.ref x, .int rI, .int eI, .int mI] (T, N, I, L, R) 0 0 (pL T N R (fun x9 I9 L9 => x9 = waysP ((e * r - n) / 2) r e - waysP ((e * r - n) / 2 - 1) r e ∧ Fr A I L I9 L9)) := by
  refine ⟨_, rfl, Nat.le_of_ble_eq_true rfl, fun V C S => ?_⟩
  show V 0 [(0, .ref x), (1, .int rI), (2, .int eI), (3, .int mI)] [] (T, N, I, L, R) 0 0
  subst hrI heI hmI
  have hb : e * r ≤ 96 := Nat.le_trans (Nat.mul_le_mul he hr9) (by decide)
  refine k_iload_n C rfl rfl rfl ?_
  refine k_if_lt C (t := 31) rfl rfl rfl (fun c1 => ?_) (fun c1 => ?_)
  · skip
    exact absurd c1 (n_nn (by omega))
  refine k_iload_n C rfl rfl rfl ?_
  refine k_bipush C (x := 12) rfl rfl rfl ?_
  refine k_icmp_gt C (t := 31) rfl rfl rfl (fun c7 => ?_) (fun c7 => ?_)
  · skip
    exact absurd ((n_lt (a := 12) (b := r) (by omega) (by omega)).mp c7) (by omega)
  refine k_iload_n C rfl rfl rfl ?_
  refine k_iconst C (x := 1) rfl rfl rfl ?_
  refine k_icmp_lt C (t := 31) rfl rfl rfl (fun c12 => ?_) (fun c12 => ?_)
  · skip
    exact absurd ((n_lt (a := e) (b := 1) (by omega) (by omega)).mp c12) (by omega)
  refine k_iload_n C rfl rfl rfl ?_
  refine k_bipush C (x := 8) rfl rfl rfl ?_
  refine k_icmp_gt C (t := 31) rfl rfl rfl (fun c18 => ?_) (fun c18 => ?_)
  · skip
    exact absurd ((n_lt (a := 8) (b := e) (by omega) (by omega)).mp c18) (by omega)
  refine k_iload_n C rfl rfl rfl ?_
  refine k_if_lt C (t := 31) rfl rfl rfl (fun c22 => ?_) (fun c22 => ?_)
  · skip
    exact absurd c22 (n_nn (by omega))
  refine k_iload_n C rfl rfl rfl ?_
  refine k_bipush C (x := 96) rfl rfl rfl ?_
  refine k_icmp_le C (t := 39) rfl rfl rfl (fun c28 => ?_) (fun c28 => ?_)
  · skip
    refine k_iload_n C rfl rfl rfl ?_
    refine k_iload_n C rfl rfl rfl ?_
    refine k_imul C rfl rfl ?_
    refine k_iload_n C rfl rfl rfl ?_
    refine k_isub C rfl rfl ?_
    rw [n_mul]
    refine k_istore C (lw := [(4, .int _), (0, _), (1, .int _), (2, .int _), (3, .int _)]) rfl rfl (Nat.le_of_ble_eq_true rfl) rfl ?_
    refine k_iload C rfl rfl rfl ?_
    refine k_if_lt C (t := 58) rfl rfl rfl (fun c48 => ?_) (fun c48 => ?_)
    · skip
      rw [n_sub hge] at c48; exact absurd c48 (n_nn (by omega))
    refine k_iload C rfl rfl rfl ?_
    rw [n_sub hge]
    refine k_iconst C (x := 2) rfl rfl rfl ?_
    refine k_irem C rfl rfl (by decide) ?_
    rw [n_rem2 (by omega)]
    refine k_if_eq C (t := 60) rfl rfl rfl (fun c55 => ?_) (fun c55 => ?_)
    · skip
      refine k_aload_n C rfl rfl rfl ?_
      refine g_R C rfl rfl rfl T_x rfl R_x_7 ?_
      refine k_iload C rfl rfl rfl ?_
      refine k_iconst C (x := 2) rfl rfl rfl ?_
      refine k_idiv C rfl rfl (by decide) ?_
      rw [n_div2 (by omega)]
      refine k_iload_n C rfl rfl rfl ?_
      refine k_iload_n C rfl rfl rfl ?_
      refine c_VL C (e_ways_nat T_rw R_rw_5 T_wy N_wy A_wy (w := (e * r - n) / 2) rfl rfl rfl (by omega) hr9 he) rfl rfl rfl rfl rfl ⟨_, rfl, rfl, T_rw, Nat.le_of_ble_eq_true rfl⟩ rfl rfl (Nat.le_of_ble_eq_true rfl) (Nat.le_of_ble_eq_true rfl) (Nat.le_of_ble_eq_true rfl) ?_
      rintro _ _ L1 ⟨rfl, hI8, hF1⟩
      have hI8 := hI8.symm; subst hI8
      refine k_aload_n C rfl rfl rfl ?_
      refine g_R C rfl rfl rfl T_x rfl R_x_7 ?_
      refine k_iload C rfl rfl rfl ?_
      refine k_iconst C (x := 2) rfl rfl rfl ?_
      refine k_idiv C rfl rfl (by decide) ?_
      rw [n_div2 (by omega)]
      refine k_iconst C (x := 1) rfl rfl rfl ?_
      refine k_isub C rfl rfl ?_
      rw [show (1 : Int32) = Int32.ofNat 1 from rfl, n_sub (by omega)]
      refine k_iload_n C rfl rfl rfl ?_
      refine k_iload_n C rfl rfl rfl ?_
      refine c_VL C (e_ways_nat T_rw R_rw_5 T_wy N_wy A_wy (w := (e * r - n) / 2 - 1) rfl rfl rfl (by omega) hr9 he) rfl rfl rfl rfl rfl ⟨_, rfl, rfl, T_rw, Nat.le_of_ble_eq_true rfl⟩ rfl rfl (Nat.le_of_ble_eq_true rfl) (Nat.le_of_ble_eq_true rfl) (Nat.le_of_ble_eq_true rfl) ?_
      rintro _ _ L2 ⟨rfl, hI8, hF2⟩
      have hI8 := hI8.symm; subst hI8
      refine k_lsub C rfl rfl ?_
      exact k_lret C rfl rfl (Nat.le_of_ble_eq_true rfl) (Nat.le_of_ble_eq_true rfl) ⟨_, _, _, rfl, rfl, ⟨rfl, Fr.tr hF1 hF2⟩⟩
    rw [hev] at c55; exact absurd rfl c55
  exact absurd ((n_le (a := n) (b := 96) (by omega) (by omega)).mpr hm) c28

theorem e_m_count_no {d : Nat} {T N : Nat → Nat} {I : IT} {L : LT} {R : RT} {A : Nat → Prop} {m : Nat} {rI eI mI : Int32} (T_m : T m = 13) (A_m : A m) (h : ¬ okCnt rI eI mI) : Ex (d + 2) 259 [.ref m, .int rI, .int eI, .int mI] (T, N, I, L, R) 0 0 (pL T N R (fun x9 I9 L9 => Fr A I L I9 L9 ∧ I9 m 0 = 1 ∧ IKm m I I9)) := by
  refine ⟨_, rfl, Nat.le_of_ble_eq_true rfl, fun V C S => ?_⟩
  show V 0 [(0, .ref m), (1, .int rI), (2, .int eI), (3, .int mI)] [] (T, N, I, L, R) 0 0
  refine k_aload_n C rfl rfl rfl ?_
  refine k_iconst C (x := 0) rfl rfl rfl ?_
  refine p_I C rfl rfl rfl T_m (Or.inr rfl) rfl ?_
  refine k_aload_n C rfl rfl rfl ?_
  refine k_iload_n C rfl rfl rfl ?_
  refine k_iconst C (x := 0) rfl rfl rfl ?_
  refine k_bipush C (x := 12) rfl rfl rfl ?_
  refine c_SI C e_in rfl rfl rfl rfl rfl rfl rfl (Nat.le_of_ble_eq_true rfl) (Nat.le_of_ble_eq_true rfl) (Nat.le_of_ble_eq_true rfl) ?_
  rintro _ _ _ ⟨hx7, hI8, hL9⟩
  have hx7 := hx7.symm; subst hx7
  have hI8 := hI8.symm; subst hI8; have hL9 := hL9.symm; subst hL9
  refine k_if_eq C (t := 36) rfl rfl rfl (fun c13 => ?_) (fun c13 => ?_)
  · skip
    refine k_iconst C (x := 1) rfl rfl rfl ?_
    refine k_goto C (pc2 := 41) rfl rfl ?_
    refine k_iconst C (x := 1) rfl rfl rfl ?_
    refine c_VI C (e_throwsIf1 T_m rfl) rfl rfl rfl rfl rfl ⟨_, rfl, rfl, T_m, Nat.le_of_ble_eq_true rfl⟩ rfl rfl (Nat.le_of_ble_eq_true rfl) (Nat.le_of_ble_eq_true rfl) (Nat.le_of_ble_eq_true rfl) ?_
    rintro _ _ _ ⟨hx7, hI8, hL9⟩
    have hx7 := hx7.symm; subst hx7
    have hI8 := hI8.symm; subst hI8; have hL9 := hL9.symm; subst hL9
    refine k_if_eq C (t := 50) rfl rfl rfl (fun c45 => absurd c45 (by decide)) (fun _ => ?_)
    refine k_lconst C (x := 0) rfl rfl rfl ?_
    exact k_lret C rfl rfl (Nat.le_of_ble_eq_true rfl) (Nat.le_of_ble_eq_true rfl) ⟨_, _, _, rfl, rfl, ⟨(Fr.i (Fr.i Fr.rf A_m) A_m), u2_s, (by first | exact IKm.i IKm.rf | exact IKm.i (IKm.i IKm.rf))⟩⟩
  have q1 := inY c13
  refine k_iload_n C rfl rfl rfl ?_
  refine k_iconst C (x := 1) rfl rfl rfl ?_
  refine k_bipush C (x := 8) rfl rfl rfl ?_
  refine c_SI C e_in rfl rfl rfl rfl rfl rfl rfl (Nat.le_of_ble_eq_true rfl) (Nat.le_of_ble_eq_true rfl) (Nat.le_of_ble_eq_true rfl) ?_
  rintro _ _ _ ⟨hx7, hI8, hL9⟩
  have hx7 := hx7.symm; subst hx7
  have hI8 := hI8.symm; subst hI8; have hL9 := hL9.symm; subst hL9
  refine k_if_eq C (t := 36) rfl rfl rfl (fun c23 => ?_) (fun c23 => ?_)
  · skip
    refine k_iconst C (x := 1) rfl rfl rfl ?_
    refine k_goto C (pc2 := 41) rfl rfl ?_
    refine k_iconst C (x := 1) rfl rfl rfl ?_
    refine c_VI C (e_throwsIf1 T_m rfl) rfl rfl rfl rfl rfl ⟨_, rfl, rfl, T_m, Nat.le_of_ble_eq_true rfl⟩ rfl rfl (Nat.le_of_ble_eq_true rfl) (Nat.le_of_ble_eq_true rfl) (Nat.le_of_ble_eq_true rfl) ?_
    rintro _ _ _ ⟨hx7, hI8, hL9⟩
    have hx7 := hx7.symm; subst hx7
    have hI8 := hI8.symm; subst hI8; have hL9 := hL9.symm; subst hL9
    refine k_if_eq C (t := 50) rfl rfl rfl (fun c45 => absurd c45 (by decide)) (fun _ => ?_)
    refine k_lconst C (x := 0) rfl rfl rfl ?_
    exact k_lret C rfl rfl (Nat.le_of_ble_eq_true rfl) (Nat.le_of_ble_eq_true rfl) ⟨_, _, _, rfl, rfl, ⟨(Fr.i (Fr.i Fr.rf A_m) A_m), u2_s, (by first | exact IKm.i IKm.rf | exact IKm.i (IKm.i IKm.rf))⟩⟩
  have q2 := inY c23
  refine k_iload_n C rfl rfl rfl ?_
  refine k_iconst C (x := 0) rfl rfl rfl ?_
  refine k_bipush C (x := 96) rfl rfl rfl ?_
  refine c_SI C e_in rfl rfl rfl rfl rfl rfl rfl (Nat.le_of_ble_eq_true rfl) (Nat.le_of_ble_eq_true rfl) (Nat.le_of_ble_eq_true rfl) ?_
  rintro _ _ _ ⟨hx7, hI8, hL9⟩
  have hx7 := hx7.symm; subst hx7
  have hI8 := hI8.symm; subst hI8; have hL9 := hL9.symm; subst hL9
  refine k_if_ne C (t := 40) rfl rfl rfl (fun c33 => ?_) (fun c33 => ?_)
  · skip
    exact absurd ⟨q1, q2, inY c33⟩ h
  refine k_iconst C (x := 1) rfl rfl rfl ?_
  refine k_goto C (pc2 := 41) rfl rfl ?_
  refine k_iconst C (x := 1) rfl rfl rfl ?_
  refine c_VI C (e_throwsIf1 T_m rfl) rfl rfl rfl rfl rfl ⟨_, rfl, rfl, T_m, Nat.le_of_ble_eq_true rfl⟩ rfl rfl (Nat.le_of_ble_eq_true rfl) (Nat.le_of_ble_eq_true rfl) (Nat.le_of_ble_eq_true rfl) ?_
  rintro _ _ _ ⟨hx7, hI8, hL9⟩
  have hx7 := hx7.symm; subst hx7
  have hI8 := hI8.symm; subst hI8; have hL9 := hL9.symm; subst hL9
  refine k_if_eq C (t := 50) rfl rfl rfl (fun c45 => absurd c45 (by decide)) (fun _ => ?_)
  refine k_lconst C (x := 0) rfl rfl rfl ?_
  exact k_lret C rfl rfl (Nat.le_of_ble_eq_true rfl) (Nat.le_of_ble_eq_true rfl) ⟨_, _, _, rfl, rfl, ⟨(Fr.i (Fr.i Fr.rf A_m) A_m), u2_s, (by first | exact IKm.i IKm.rf | exact IKm.i (IKm.i IKm.rf))⟩⟩

theorem e_m_count_a {d : Nat} {T N : Nat → Nat} {I : IT} {L : LT} {R : RT} {A : Nat → Prop} {m wy : Nat} {rI eI mI : Int32} (T_m : T m = 13) (A_m : A m) (R_m_21 : R m 21 = some wy) (T_wy : T wy = 21) (N_wy : N wy = 1261) (A_wy : A wy) {r e n : Nat} (hrI : rI = Int32.ofNat r) (heI : eI = Int32.ofNat e) (hmI : mI = Int32.ofNat n) (hr9 : r ≤ 12) (he1 : 1 ≤ e) (he : e ≤ 8) (hm : n ≤ 96) (hq : e * r < n) : Ex (d + 2) 259 [.ref m, .int rI, .int eI, .int mI] (T, N, I, L, R) 0 0 (pL T N R (fun x9 I9 L9 => x9 = 0 ∧ Fr A I L I9 L9 ∧ I9 m 0 = 0 ∧ IKm m I I9)) := by
  refine ⟨_, rfl, Nat.le_of_ble_eq_true rfl, fun V C S => ?_⟩
  show V 0 [(0, .ref m), (1, .int rI), (2, .int eI), (3, .int mI)] [] (T, N, I, L, R) 0 0
  subst hrI heI hmI
  have hb : e * r ≤ 96 := Nat.le_trans (Nat.mul_le_mul he hr9) (by decide)
  refine k_aload_n C rfl rfl rfl ?_
  refine k_iconst C (x := 0) rfl rfl rfl ?_
  refine p_I C rfl rfl rfl T_m (Or.inr rfl) rfl ?_
  refine k_aload_n C rfl rfl rfl ?_
  refine k_iload_n C rfl rfl rfl ?_
  refine k_iconst C (x := 0) rfl rfl rfl ?_
  refine k_bipush C (x := 12) rfl rfl rfl ?_
  refine c_SI C e_in rfl rfl rfl rfl rfl rfl rfl (Nat.le_of_ble_eq_true rfl) (Nat.le_of_ble_eq_true rfl) (Nat.le_of_ble_eq_true rfl) ?_
  rintro _ _ _ ⟨hx7, hI8, hL9⟩
  have hx7 := hx7.symm; subst hx7
  have hI8 := hI8.symm; subst hI8; have hL9 := hL9.symm; subst hL9
  refine k_if_eq C (t := 36) rfl rfl rfl (fun c13 => ?_) (fun c13 => ?_)
  · skip
    exact absurd c13 (inN ⟨(n_le (a := 0) (b := r) (by omega) (by omega)).mpr (by omega), (n_le (a := r) (b := 12) (by omega) (by omega)).mpr (by omega)⟩)
  refine k_iload_n C rfl rfl rfl ?_
  refine k_iconst C (x := 1) rfl rfl rfl ?_
  refine k_bipush C (x := 8) rfl rfl rfl ?_
  refine c_SI C e_in rfl rfl rfl rfl rfl rfl rfl (Nat.le_of_ble_eq_true rfl) (Nat.le_of_ble_eq_true rfl) (Nat.le_of_ble_eq_true rfl) ?_
  rintro _ _ _ ⟨hx7, hI8, hL9⟩
  have hx7 := hx7.symm; subst hx7
  have hI8 := hI8.symm; subst hI8; have hL9 := hL9.symm; subst hL9
  refine k_if_eq C (t := 36) rfl rfl rfl (fun c23 => ?_) (fun c23 => ?_)
  · skip
    exact absurd c23 (inN ⟨(n_le (a := 1) (b := e) (by omega) (by omega)).mpr (by omega), (n_le (a := e) (b := 8) (by omega) (by omega)).mpr (by omega)⟩)
  refine k_iload_n C rfl rfl rfl ?_
  refine k_iconst C (x := 0) rfl rfl rfl ?_
  refine k_bipush C (x := 96) rfl rfl rfl ?_
  refine c_SI C e_in rfl rfl rfl rfl rfl rfl rfl (Nat.le_of_ble_eq_true rfl) (Nat.le_of_ble_eq_true rfl) (Nat.le_of_ble_eq_true rfl) ?_
  rintro _ _ _ ⟨hx7, hI8, hL9⟩
  have hx7 := hx7.symm; subst hx7
  have hI8 := hI8.symm; subst hI8; have hL9 := hL9.symm; subst hL9
  refine k_if_ne C (t := 40) rfl rfl rfl (fun c33 => ?_) (fun c33 => ?_)
  · skip
    refine k_iconst C (x := 0) rfl rfl rfl ?_
    refine k_iconst C (x := 1) rfl rfl rfl ?_
    refine c_VI C (e_throwsIf0 T_m rfl) rfl rfl rfl rfl rfl ⟨_, rfl, rfl, T_m, Nat.le_of_ble_eq_true rfl⟩ rfl rfl (Nat.le_of_ble_eq_true rfl) (Nat.le_of_ble_eq_true rfl) (Nat.le_of_ble_eq_true rfl) ?_
    rintro _ _ _ ⟨hx7, hI8, hL9⟩
    have hx7 := hx7.symm; subst hx7
    have hI8 := hI8.symm; subst hI8; have hL9 := hL9.symm; subst hL9
    refine k_if_eq C (t := 50) rfl rfl rfl (fun _ => ?_) (fun c45 => absurd (by decide) c45)
    refine k_iload_n C rfl rfl rfl ?_
    refine k_iload_n C rfl rfl rfl ?_
    refine k_imul C rfl rfl ?_
    refine k_iload_n C rfl rfl rfl ?_
    refine k_isub C rfl rfl ?_
    rw [n_mul]
    refine k_istore C (lw := [(4, .int _), (0, _), (1, .int _), (2, .int _), (3, .int _)]) rfl rfl (Nat.le_of_ble_eq_true rfl) rfl ?_
    refine k_iload C rfl rfl rfl ?_
    refine k_if_lt C (t := 69) rfl rfl rfl (fun c59 => ?_) (fun c59 => ?_)
    · skip
      refine k_lconst C (x := 0) rfl rfl rfl ?_
      refine k_goto C (pc2 := 96) rfl rfl ?_
      exact k_lret C rfl rfl (Nat.le_of_ble_eq_true rfl) (Nat.le_of_ble_eq_true rfl) ⟨_, _, _, rfl, rfl, ⟨rfl, Fr.i Fr.rf A_m, u2_s, (by first | exact IKm.i IKm.rf | exact IKm.i (IKm.i IKm.rf))⟩⟩
    exact absurd (n_sub_lt hq (by omega)) c59
  exact absurd (inN ⟨(n_le (a := 0) (b := n) (by omega) (by omega)).mpr (by omega), (n_le (a := n) (b := 96) (by omega) (by omega)).mpr (by omega)⟩) c33

theorem e_m_count_b {d : Nat} {T N : Nat → Nat} {I : IT} {L : LT} {R : RT} {A : Nat → Prop} {m wy : Nat} {rI eI mI : Int32} (T_m : T m = 13) (A_m : A m) (R_m_21 : R m 21 = some wy) (T_wy : T wy = 21) (N_wy : N wy = 1261) (A_wy : A wy) {r e n : Nat} (hrI : rI = Int32.ofNat r) (heI : eI = Int32.ofNat e) (hmI : mI = Int32.ofNat n) (hr9 : r ≤ 12) (he1 : 1 ≤ e) (he : e ≤ 8) (hm : n ≤ 96) (hge : n ≤ e * r) (hodd : (e * r - n) % 2 = 1) : Ex (d + 2) 259 [.ref m, .int rI, .int eI, .int mI] (T, N, I, L, R) 0 0 (pL T N R (fun x9 I9 L9 => x9 = 0 ∧ Fr A I L I9 L9 ∧ I9 m 0 = 0 ∧ IKm m I I9)) := by
  refine ⟨_, rfl, Nat.le_of_ble_eq_true rfl, fun V C S => ?_⟩
  show V 0 [(0, .ref m), (1, .int rI), (2, .int eI), (3, .int mI)] [] (T, N, I, L, R) 0 0
  subst hrI heI hmI
  have hb : e * r ≤ 96 := Nat.le_trans (Nat.mul_le_mul he hr9) (by decide)
  refine k_aload_n C rfl rfl rfl ?_
  refine k_iconst C (x := 0) rfl rfl rfl ?_
  refine p_I C rfl rfl rfl T_m (Or.inr rfl) rfl ?_
  refine k_aload_n C rfl rfl rfl ?_
  refine k_iload_n C rfl rfl rfl ?_
  refine k_iconst C (x := 0) rfl rfl rfl ?_
  refine k_bipush C (x := 12) rfl rfl rfl ?_
  refine c_SI C e_in rfl rfl rfl rfl rfl rfl rfl (Nat.le_of_ble_eq_true rfl) (Nat.le_of_ble_eq_true rfl) (Nat.le_of_ble_eq_true rfl) ?_
  rintro _ _ _ ⟨hx7, hI8, hL9⟩
  have hx7 := hx7.symm; subst hx7
  have hI8 := hI8.symm; subst hI8; have hL9 := hL9.symm; subst hL9
  refine k_if_eq C (t := 36) rfl rfl rfl (fun c13 => ?_) (fun c13 => ?_)
  · skip
    exact absurd c13 (inN ⟨(n_le (a := 0) (b := r) (by omega) (by omega)).mpr (by omega), (n_le (a := r) (b := 12) (by omega) (by omega)).mpr (by omega)⟩)
  refine k_iload_n C rfl rfl rfl ?_
  refine k_iconst C (x := 1) rfl rfl rfl ?_
  refine k_bipush C (x := 8) rfl rfl rfl ?_
  refine c_SI C e_in rfl rfl rfl rfl rfl rfl rfl (Nat.le_of_ble_eq_true rfl) (Nat.le_of_ble_eq_true rfl) (Nat.le_of_ble_eq_true rfl) ?_
  rintro _ _ _ ⟨hx7, hI8, hL9⟩
  have hx7 := hx7.symm; subst hx7
  have hI8 := hI8.symm; subst hI8; have hL9 := hL9.symm; subst hL9
  refine k_if_eq C (t := 36) rfl rfl rfl (fun c23 => ?_) (fun c23 => ?_)
  · skip
    exact absurd c23 (inN ⟨(n_le (a := 1) (b := e) (by omega) (by omega)).mpr (by omega), (n_le (a := e) (b := 8) (by omega) (by omega)).mpr (by omega)⟩)
  refine k_iload_n C rfl rfl rfl ?_
  refine k_iconst C (x := 0) rfl rfl rfl ?_
  refine k_bipush C (x := 96) rfl rfl rfl ?_
  refine c_SI C e_in rfl rfl rfl rfl rfl rfl rfl (Nat.le_of_ble_eq_true rfl) (Nat.le_of_ble_eq_true rfl) (Nat.le_of_ble_eq_true rfl) ?_
  rintro _ _ _ ⟨hx7, hI8, hL9⟩
  have hx7 := hx7.symm; subst hx7
  have hI8 := hI8.symm; subst hI8; have hL9 := hL9.symm; subst hL9
  refine k_if_ne C (t := 40) rfl rfl rfl (fun c33 => ?_) (fun c33 => ?_)
  · skip
    refine k_iconst C (x := 0) rfl rfl rfl ?_
    refine k_iconst C (x := 1) rfl rfl rfl ?_
    refine c_VI C (e_throwsIf0 T_m rfl) rfl rfl rfl rfl rfl ⟨_, rfl, rfl, T_m, Nat.le_of_ble_eq_true rfl⟩ rfl rfl (Nat.le_of_ble_eq_true rfl) (Nat.le_of_ble_eq_true rfl) (Nat.le_of_ble_eq_true rfl) ?_
    rintro _ _ _ ⟨hx7, hI8, hL9⟩
    have hx7 := hx7.symm; subst hx7
    have hI8 := hI8.symm; subst hI8; have hL9 := hL9.symm; subst hL9
    refine k_if_eq C (t := 50) rfl rfl rfl (fun _ => ?_) (fun c45 => absurd (by decide) c45)
    refine k_iload_n C rfl rfl rfl ?_
    refine k_iload_n C rfl rfl rfl ?_
    refine k_imul C rfl rfl ?_
    refine k_iload_n C rfl rfl rfl ?_
    refine k_isub C rfl rfl ?_
    rw [n_mul]
    refine k_istore C (lw := [(4, .int _), (0, _), (1, .int _), (2, .int _), (3, .int _)]) rfl rfl (Nat.le_of_ble_eq_true rfl) rfl ?_
    refine k_iload C rfl rfl rfl ?_
    refine k_if_lt C (t := 69) rfl rfl rfl (fun c59 => ?_) (fun c59 => ?_)
    · skip
      rw [n_sub hge] at c59; exact absurd c59 (n_nn (by omega))
    refine k_iload C rfl rfl rfl ?_
    rw [n_sub hge]
    refine k_iconst C (x := 2) rfl rfl rfl ?_
    refine k_irem C rfl rfl (by decide) ?_
    rw [n_rem2 (by omega)]
    refine k_if_eq C (t := 73) rfl rfl rfl (fun c66 => ?_) (fun c66 => ?_)
    · skip
      rw [hodd] at c66; exact absurd c66 (by decide)
    refine k_lconst C (x := 0) rfl rfl rfl ?_
    refine k_goto C (pc2 := 96) rfl rfl ?_
    exact k_lret C rfl rfl (Nat.le_of_ble_eq_true rfl) (Nat.le_of_ble_eq_true rfl) ⟨_, _, _, rfl, rfl, ⟨rfl, Fr.i Fr.rf A_m, u2_s, (by first | exact IKm.i IKm.rf | exact IKm.i (IKm.i IKm.rf))⟩⟩
  exact absurd (inN ⟨(n_le (a := 0) (b := n) (by omega) (by omega)).mpr (by omega), (n_le (a := n) (b := 96) (by omega) (by omega)).mpr (by omega)⟩) c33

theorem e_m_count_c {d : Nat} {T N : Nat → Nat} {I : IT} {L : LT} {R : RT} {A : Nat → Prop} {m wy : Nat} {rI eI mI : Int32} (T_m : T m = 13) (A_m : A m) (R_m_21 : R m 21 = some wy) (T_wy : T wy = 21) (N_wy : N wy = 1261) (A_wy : A wy) {r e n : Nat} (hrI : rI = Int32.ofNat r) (heI : eI = Int32.ofNat e) (hmI : mI = Int32.ofNat n) (hr9 : r ≤ 12) (he1 : 1 ≤ e) (he : e ≤ 8) (hm : n ≤ 96) (hge : n ≤ e * r) (hev : (e * r - n) % 2 = 0) (hz : (e * r - n) / 2 = 0) : Ex (d + 3) 259 [.ref m, .int rI, .int eI, .int mI] (T, N, I, L, R) 0 0 (pL T N R (fun x9 I9 L9 => x9 = waysP 0 r e - 0 ∧ Fr A I L I9 L9 ∧ I9 m 0 = 0 ∧ IKm m I I9)) := by
  refine ⟨_, rfl, Nat.le_of_ble_eq_true rfl, fun V C S => ?_⟩
  show V 0 [(0, .ref m), (1, .int rI), (2, .int eI), (3, .int mI)] [] (T, N, I, L, R) 0 0
  subst hrI heI hmI
  have hb : e * r ≤ 96 := Nat.le_trans (Nat.mul_le_mul he hr9) (by decide)
  refine k_aload_n C rfl rfl rfl ?_
  refine k_iconst C (x := 0) rfl rfl rfl ?_
  refine p_I C rfl rfl rfl T_m (Or.inr rfl) rfl ?_
  refine k_aload_n C rfl rfl rfl ?_
  refine k_iload_n C rfl rfl rfl ?_
  refine k_iconst C (x := 0) rfl rfl rfl ?_
  refine k_bipush C (x := 12) rfl rfl rfl ?_
  refine c_SI C e_in rfl rfl rfl rfl rfl rfl rfl (Nat.le_of_ble_eq_true rfl) (Nat.le_of_ble_eq_true rfl) (Nat.le_of_ble_eq_true rfl) ?_
  rintro _ _ _ ⟨hx7, hI8, hL9⟩
  have hx7 := hx7.symm; subst hx7
  have hI8 := hI8.symm; subst hI8; have hL9 := hL9.symm; subst hL9
  refine k_if_eq C (t := 36) rfl rfl rfl (fun c13 => ?_) (fun c13 => ?_)
  · skip
    exact absurd c13 (inN ⟨(n_le (a := 0) (b := r) (by omega) (by omega)).mpr (by omega), (n_le (a := r) (b := 12) (by omega) (by omega)).mpr (by omega)⟩)
  refine k_iload_n C rfl rfl rfl ?_
  refine k_iconst C (x := 1) rfl rfl rfl ?_
  refine k_bipush C (x := 8) rfl rfl rfl ?_
  refine c_SI C e_in rfl rfl rfl rfl rfl rfl rfl (Nat.le_of_ble_eq_true rfl) (Nat.le_of_ble_eq_true rfl) (Nat.le_of_ble_eq_true rfl) ?_
  rintro _ _ _ ⟨hx7, hI8, hL9⟩
  have hx7 := hx7.symm; subst hx7
  have hI8 := hI8.symm; subst hI8; have hL9 := hL9.symm; subst hL9
  refine k_if_eq C (t := 36) rfl rfl rfl (fun c23 => ?_) (fun c23 => ?_)
  · skip
    exact absurd c23 (inN ⟨(n_le (a := 1) (b := e) (by omega) (by omega)).mpr (by omega), (n_le (a := e) (b := 8) (by omega) (by omega)).mpr (by omega)⟩)
  refine k_iload_n C rfl rfl rfl ?_
  refine k_iconst C (x := 0) rfl rfl rfl ?_
  refine k_bipush C (x := 96) rfl rfl rfl ?_
  refine c_SI C e_in rfl rfl rfl rfl rfl rfl rfl (Nat.le_of_ble_eq_true rfl) (Nat.le_of_ble_eq_true rfl) (Nat.le_of_ble_eq_true rfl) ?_
  rintro _ _ _ ⟨hx7, hI8, hL9⟩
  have hx7 := hx7.symm; subst hx7
  have hI8 := hI8.symm; subst hI8; have hL9 := hL9.symm; subst hL9
  refine k_if_ne C (t := 40) rfl rfl rfl (fun c33 => ?_) (fun c33 => ?_)
  · skip
    refine k_iconst C (x := 0) rfl rfl rfl ?_
    refine k_iconst C (x := 1) rfl rfl rfl ?_
    refine c_VI C (e_throwsIf0 T_m rfl) rfl rfl rfl rfl rfl ⟨_, rfl, rfl, T_m, Nat.le_of_ble_eq_true rfl⟩ rfl rfl (Nat.le_of_ble_eq_true rfl) (Nat.le_of_ble_eq_true rfl) (Nat.le_of_ble_eq_true rfl) ?_
    rintro _ _ _ ⟨hx7, hI8, hL9⟩
    have hx7 := hx7.symm; subst hx7
    have hI8 := hI8.symm; subst hI8; have hL9 := hL9.symm; subst hL9
    refine k_if_eq C (t := 50) rfl rfl rfl (fun _ => ?_) (fun c45 => absurd (by decide) c45)
    refine k_iload_n C rfl rfl rfl ?_
    refine k_iload_n C rfl rfl rfl ?_
    refine k_imul C rfl rfl ?_
    refine k_iload_n C rfl rfl rfl ?_
    refine k_isub C rfl rfl ?_
    rw [n_mul]
    refine k_istore C (lw := [(4, .int _), (0, _), (1, .int _), (2, .int _), (3, .int _)]) rfl rfl (Nat.le_of_ble_eq_true rfl) rfl ?_
    refine k_iload C rfl rfl rfl ?_
    refine k_if_lt C (t := 69) rfl rfl rfl (fun c59 => ?_) (fun c59 => ?_)
    · skip
      rw [n_sub hge] at c59; exact absurd c59 (n_nn (by omega))
    refine k_iload C rfl rfl rfl ?_
    rw [n_sub hge]
    refine k_iconst C (x := 2) rfl rfl rfl ?_
    refine k_irem C rfl rfl (by decide) ?_
    rw [n_rem2 (by omega)]
    refine k_if_eq C (t := 73) rfl rfl rfl (fun c66 => ?_) (fun c66 => ?_)
    · skip
      refine k_aload_n C rfl rfl rfl ?_
      refine k_iload C rfl rfl rfl ?_
      refine k_iconst C (x := 2) rfl rfl rfl ?_
      refine k_idiv C rfl rfl (by decide) ?_
      rw [n_div2 (by omega)]
      refine k_iload_n C rfl rfl rfl ?_
      refine k_iload_n C rfl rfl rfl ?_
      refine c_VL C (e_m_ways_nat T_m R_m_21 T_wy N_wy A_wy (w := 0) (congrArg Int32.ofNat hz) rfl rfl (by omega) hr9 he) rfl rfl rfl rfl rfl ⟨_, rfl, rfl, T_m, Nat.le_of_ble_eq_true rfl⟩ rfl rfl (Nat.le_of_ble_eq_true rfl) (Nat.le_of_ble_eq_true rfl) (Nat.le_of_ble_eq_true rfl) ?_
      rintro _ _ L1 ⟨rfl, hI8, hF1⟩
      have hI8 := hI8.symm; subst hI8
      refine k_aload_n C rfl rfl rfl ?_
      refine k_iload C rfl rfl rfl ?_
      refine k_iconst C (x := 2) rfl rfl rfl ?_
      refine k_idiv C rfl rfl (by decide) ?_
      rw [n_div2 (by omega)]
      refine k_iconst C (x := 1) rfl rfl rfl ?_
      refine k_isub C rfl rfl ?_
      refine k_iload_n C rfl rfl rfl ?_
      refine k_iload_n C rfl rfl rfl ?_
      refine c_VL C (e_m_ways_neg  (by rw [hz]; decide)) rfl rfl rfl rfl rfl ⟨_, rfl, rfl, T_m, Nat.le_of_ble_eq_true rfl⟩ rfl rfl (Nat.le_of_ble_eq_true rfl) (Nat.le_of_ble_eq_true rfl) (Nat.le_of_ble_eq_true rfl) ?_
      rintro _ _ _ ⟨hx7, hI8, hL9⟩
      have hx7 := hx7.symm; subst hx7
      have hI8 := hI8.symm; subst hI8; have hL9 := hL9.symm; subst hL9
      refine k_lsub C rfl rfl ?_
      exact k_lret C rfl rfl (Nat.le_of_ble_eq_true rfl) (Nat.le_of_ble_eq_true rfl) ⟨_, _, _, rfl, rfl, ⟨rfl, Fr.tr (Fr.i Fr.rf A_m) hF1, u2_s, (by first | exact IKm.i IKm.rf | exact IKm.i (IKm.i IKm.rf))⟩⟩
    rw [hev] at c66; exact absurd rfl c66
  exact absurd (inN ⟨(n_le (a := 0) (b := n) (by omega) (by omega)).mpr (by omega), (n_le (a := n) (b := 96) (by omega) (by omega)).mpr (by omega)⟩) c33

theorem e_m_count_d {d : Nat} {T N : Nat → Nat} {I : IT} {L : LT} {R : RT} {A : Nat → Prop} {m wy : Nat} {rI eI mI : Int32} (T_m : T m = 13) (A_m : A m) (R_m_21 : R m 21 = some wy) (T_wy : T wy = 21) (N_wy : N wy = 1261) (A_wy : A wy) {r e n : Nat} (hrI : rI = Int32.ofNat r) (heI : eI = Int32.ofNat e) (hmI : mI = Int32.ofNat n) (hr9 : r ≤ 12) (he1 : 1 ≤ e) (he : e ≤ 8) (hm : n ≤ 96) (hge : n ≤ e * r) (hev : (e * r - n) % 2 = 0) (hz : 1 ≤ (e * r - n) / 2) : Ex (d + 3) 259 [.ref m, .int rI, .int eI, .int mI] (T, N, I, L, R) 0 0 (pL T N R (fun x9 I9 L9 => x9 = waysP ((e * r - n) / 2) r e - waysP ((e * r - n) / 2 - 1) r e ∧ Fr A I L I9 L9 ∧ I9 m 0 = 0 ∧ IKm m I I9)) := by
  refine ⟨_, rfl, Nat.le_of_ble_eq_true rfl, fun V C S => ?_⟩
  show V 0 [(0, .ref m), (1, .int rI), (2, .int eI), (3, .int mI)] [] (T, N, I, L, R) 0 0
  subst hrI heI hmI
  have hb : e * r ≤ 96 := Nat.le_trans (Nat.mul_le_mul he hr9) (by decide)
  refine k_aload_n C rfl rfl rfl ?_
  refine k_iconst C (x := 0) rfl rfl rfl ?_
  refine p_I C rfl rfl rfl T_m (Or.inr rfl) rfl ?_
  refine k_aload_n C rfl rfl rfl ?_
  refine k_iload_n C rfl rfl rfl ?_
  refine k_iconst C (x := 0) rfl rfl rfl ?_
  refine k_bipush C (x := 12) rfl rfl rfl ?_
  refine c_SI C e_in rfl rfl rfl rfl rfl rfl rfl (Nat.le_of_ble_eq_true rfl) (Nat.le_of_ble_eq_true rfl) (Nat.le_of_ble_eq_true rfl) ?_
  rintro _ _ _ ⟨hx7, hI8, hL9⟩
  have hx7 := hx7.symm; subst hx7
  have hI8 := hI8.symm; subst hI8; have hL9 := hL9.symm; subst hL9
  refine k_if_eq C (t := 36) rfl rfl rfl (fun c13 => ?_) (fun c13 => ?_)
  · skip
    exact absurd c13 (inN ⟨(n_le (a := 0) (b := r) (by omega) (by omega)).mpr (by omega), (n_le (a := r) (b := 12) (by omega) (by omega)).mpr (by omega)⟩)
  refine k_iload_n C rfl rfl rfl ?_
  refine k_iconst C (x := 1) rfl rfl rfl ?_
  refine k_bipush C (x := 8) rfl rfl rfl ?_
  refine c_SI C e_in rfl rfl rfl rfl rfl rfl rfl (Nat.le_of_ble_eq_true rfl) (Nat.le_of_ble_eq_true rfl) (Nat.le_of_ble_eq_true rfl) ?_
  rintro _ _ _ ⟨hx7, hI8, hL9⟩
  have hx7 := hx7.symm; subst hx7
  have hI8 := hI8.symm; subst hI8; have hL9 := hL9.symm; subst hL9
  refine k_if_eq C (t := 36) rfl rfl rfl (fun c23 => ?_) (fun c23 => ?_)
  · skip
    exact absurd c23 (inN ⟨(n_le (a := 1) (b := e) (by omega) (by omega)).mpr (by omega), (n_le (a := e) (b := 8) (by omega) (by omega)).mpr (by omega)⟩)
  refine k_iload_n C rfl rfl rfl ?_
  refine k_iconst C (x := 0) rfl rfl rfl ?_
  refine k_bipush C (x := 96) rfl rfl rfl ?_
  refine c_SI C e_in rfl rfl rfl rfl rfl rfl rfl (Nat.le_of_ble_eq_true rfl) (Nat.le_of_ble_eq_true rfl) (Nat.le_of_ble_eq_true rfl) ?_
  rintro _ _ _ ⟨hx7, hI8, hL9⟩
  have hx7 := hx7.symm; subst hx7
  have hI8 := hI8.symm; subst hI8; have hL9 := hL9.symm; subst hL9
  refine k_if_ne C (t := 40) rfl rfl rfl (fun c33 => ?_) (fun c33 => ?_)
  · skip
    refine k_iconst C (x := 0) rfl rfl rfl ?_
    refine k_iconst C (x := 1) rfl rfl rfl ?_
    refine c_VI C (e_throwsIf0 T_m rfl) rfl rfl rfl rfl rfl ⟨_, rfl, rfl, T_m, Nat.le_of_ble_eq_true rfl⟩ rfl rfl (Nat.le_of_ble_eq_true rfl) (Nat.le_of_ble_eq_true rfl) (Nat.le_of_ble_eq_true rfl) ?_
    rintro _ _ _ ⟨hx7, hI8, hL9⟩
    have hx7 := hx7.symm; subst hx7
    have hI8 := hI8.symm; subst hI8; have hL9 := hL9.symm; subst hL9
    refine k_if_eq C (t := 50) rfl rfl rfl (fun _ => ?_) (fun c45 => absurd (by decide) c45)
    refine k_iload_n C rfl rfl rfl ?_
    refine k_iload_n C rfl rfl rfl ?_
    refine k_imul C rfl rfl ?_
    refine k_iload_n C rfl rfl rfl ?_
    refine k_isub C rfl rfl ?_
    rw [n_mul]
    refine k_istore C (lw := [(4, .int _), (0, _), (1, .int _), (2, .int _), (3, .int _)]) rfl rfl (Nat.le_of_ble_eq_true rfl) rfl ?_
    refine k_iload C rfl rfl rfl ?_
    refine k_if_lt C (t := 69) rfl rfl rfl (fun c59 => ?_) (fun c59 => ?_)
    · skip
      rw [n_sub hge] at c59; exact absurd c59 (n_nn (by omega))
    refine k_iload C rfl rfl rfl ?_
    rw [n_sub hge]
    refine k_iconst C (x := 2) rfl rfl rfl ?_
    refine k_irem C rfl rfl (by decide) ?_
    rw [n_rem2 (by omega)]
    refine k_if_eq C (t := 73) rfl rfl rfl (fun c66 => ?_) (fun c66 => ?_)
    · skip
      refine k_aload_n C rfl rfl rfl ?_
      refine k_iload C rfl rfl rfl ?_
      refine k_iconst C (x := 2) rfl rfl rfl ?_
      refine k_idiv C rfl rfl (by decide) ?_
      rw [n_div2 (by omega)]
      refine k_iload_n C rfl rfl rfl ?_
      refine k_iload_n C rfl rfl rfl ?_
      refine c_VL C (e_m_ways_nat T_m R_m_21 T_wy N_wy A_wy (w := (e * r - n) / 2) rfl rfl rfl (by omega) hr9 he) rfl rfl rfl rfl rfl ⟨_, rfl, rfl, T_m, Nat.le_of_ble_eq_true rfl⟩ rfl rfl (Nat.le_of_ble_eq_true rfl) (Nat.le_of_ble_eq_true rfl) (Nat.le_of_ble_eq_true rfl) ?_
      rintro _ _ L1 ⟨rfl, hI8, hF1⟩
      have hI8 := hI8.symm; subst hI8
      refine k_aload_n C rfl rfl rfl ?_
      refine k_iload C rfl rfl rfl ?_
      refine k_iconst C (x := 2) rfl rfl rfl ?_
      refine k_idiv C rfl rfl (by decide) ?_
      rw [n_div2 (by omega)]
      refine k_iconst C (x := 1) rfl rfl rfl ?_
      refine k_isub C rfl rfl ?_
      rw [show (1 : Int32) = Int32.ofNat 1 from rfl, n_sub (by omega)]
      refine k_iload_n C rfl rfl rfl ?_
      refine k_iload_n C rfl rfl rfl ?_
      refine c_VL C (e_m_ways_nat T_m R_m_21 T_wy N_wy A_wy (w := (e * r - n) / 2 - 1) rfl rfl rfl (by omega) hr9 he) rfl rfl rfl rfl rfl ⟨_, rfl, rfl, T_m, Nat.le_of_ble_eq_true rfl⟩ rfl rfl (Nat.le_of_ble_eq_true rfl) (Nat.le_of_ble_eq_true rfl) (Nat.le_of_ble_eq_true rfl) ?_
      rintro _ _ L2 ⟨rfl, hI8, hF2⟩
      have hI8 := hI8.symm; subst hI8
      refine k_lsub C rfl rfl ?_
      exact k_lret C rfl rfl (Nat.le_of_ble_eq_true rfl) (Nat.le_of_ble_eq_true rfl) ⟨_, _, _, rfl, rfl, ⟨rfl, Fr.tr (Fr.i Fr.rf A_m) (Fr.tr hF1 hF2), u2_s, (by first | exact IKm.i IKm.rf | exact IKm.i (IKm.i IKm.rf))⟩⟩
    rw [hev] at c66; exact absurd rfl c66
  exact absurd (inN ⟨(n_le (a := 0) (b := n) (by omega) (by omega)).mpr (by omega), (n_le (a := n) (b := 96) (by omega) (by omega)).mpr (by omega)⟩) c33
end
-- 39.34.red.lean.txt
section
/-! WHOLE FORMS are reduced: the state as eight longs -/
abbrev S8 : Type := Nat → Int64
def nOf (s : S8) : Int64 := Int64.ofInt ((s 0 - s 1).toInt / (2 * s 0).toInt)
def shS (s : S8) : S8 := fun k => match k with
  | 0 => s 0
  | 1 => s 1 + 2 * s 0 * nOf s
  | 2 => s 2 + nOf s * (s 0 * nOf s + s 1)
  | 3 => s 3 + 1
  | 4 => s 4
  | 5 => s 5 + nOf s * s 4
  | 6 => s 6
  | 7 => s 7 + nOf s * s 6
  | _ => 0
def swS (s : S8) : S8 := fun k => match k with
  | 0 => s 2
  | 1 => -s 1
  | 2 => s 0
  | 3 => s 3 + 1
  | 4 => s 5
  | 5 => -s 4
  | 6 => s 7
  | 7 => -s 6
  | _ => 0
def wide (s : S8) : Prop := s 0 < s 1 ∨ s 1 ≤ -s 0
def turned (s : S8) : Prop := s 2 < s 0 ∨ (s 0 = s 2 ∧ s 1 < 0)
def wideD (s : S8) : Decidable (wide s) := inferInstanceAs (Decidable (s 0 < s 1 ∨ s 1 ≤ -s 0))
def turnedD (s : S8) : Decidable (turned s) := inferInstanceAs (Decidable (s 2 < s 0 ∨ (s 0 = s 2 ∧ s 1 < 0)))
def sh1 (s : S8) : S8 := @ite _ (wide s) (wideD s) (shS s) s
def sw1 (s : S8) : S8 := @ite _ (turned s) (turnedD s) (swS s) s
def red (s : S8) : Prop := ¬ wide s ∧ ¬ turned s
def redD (s : S8) : Decidable (red s) := @instDecidableAnd _ _ (@instDecidableNot _ (wideD s)) (@instDecidableNot _ (turnedD s))
def run : Nat → S8 → S8
  | 0, s => s
  | n + 1, s => @ite _ (red s) (redD s) s (run n (sw1 (sh1 s)))
theorem run_done {s : S8} (h : red s) : ∀ n, run n s = s
  | 0 => rfl
  | n + 1 => by unfold run; rw [if_pos h]
theorem run_step {s : S8} (h : ¬ red s) (n : Nat) : run (n + 1) s = run n (sw1 (sh1 s)) := by
  show @ite _ (red s) (redD s) s (run n (sw1 (sh1 s))) = _
  rw [if_neg h]
theorem sh1_y {s : S8} (h : wide s) : sh1 s = shS s := by unfold sh1; rw [if_pos h]
theorem sh1_n {s : S8} (h : ¬ wide s) : sh1 s = s := by unfold sh1; rw [if_neg h]
theorem sw1_y {s : S8} (h : turned s) : sw1 s = swS s := by unfold sw1; rw [if_pos h]
theorem sw1_n {s : S8} (h : ¬ turned s) : sw1 s = s := by unfold sw1; rw [if_neg h]
theorem bdm {x y X Y : Int} (hx : -X ≤ x ∧ x ≤ X) (hy : -Y ≤ y ∧ y ≤ Y) : -(X * Y) ≤ x * y ∧ x * y ≤ X * Y := by
  have h1 : x.natAbs ≤ X.toNat := by omega
  have h2 : y.natAbs ≤ Y.toNat := by omega
  have h3 : (x * y).natAbs ≤ X.toNat * Y.toNat := by rw [Int.natAbs_mul]; exact Nat.mul_le_mul h1 h2
  have h4 : ((X.toNat * Y.toNat : Nat) : Int) = X * Y := by rw [Int.natCast_mul, Int.toNat_of_nonneg (by omega), Int.toNat_of_nonneg (by omega)]
  omega
/-- bounds that hold all along -/
def JJ (K : Int) (s : S8) : Prop := (1 ≤ (s 0).toInt ∧ (s 0).toInt ≤ 999) ∧ (-999 ≤ (s 1).toInt ∧ (s 1).toInt ≤ 999) ∧ (1 ≤ (s 2).toInt ∧ (s 2).toInt ≤ 2000000) ∧ (s 1).toInt * (s 1).toInt - 4 * ((s 0).toInt * (s 2).toInt) = -K
theorem sq_bd {x X : Int} (h : -X ≤ x ∧ x ≤ X) : 0 ≤ x * x ∧ x * x ≤ X * X := ⟨by rcases Int.le_total 0 x with q | q; exact Int.mul_nonneg q q; exact Int.mul_nonneg_of_nonpos_of_nonpos q q, (bdm h h).2⟩
theorem two_mul_int {x : Int64} (h : -1000000 ≤ x.toInt ∧ x.toInt ≤ 1000000) : (2 * x).toInt = 2 * x.toInt := li_mul (by show _ ≤ (2 : Int) * _ ∧ (2 : Int) * _ < _; omega)
theorem nOf_int {K : Int} {s : S8} (h : JJ K s) : (nOf s).toInt = ((s 0).toInt - (s 1).toInt) / (2 * (s 0).toInt) ∧ -2000 ≤ (nOf s).toInt ∧ (nOf s).toInt ≤ 2000 := by
  obtain ⟨h0, h1, h2, h3⟩ := h
  have e1 : (s 0 - s 1).toInt = (s 0).toInt - (s 1).toInt := li_sub (by omega)
  have e2 : (2 * s 0).toInt = 2 * (s 0).toInt := two_mul_int (by omega)
  have b1 : -2000 ≤ ((s 0).toInt - (s 1).toInt) / (2 * (s 0).toInt) := Int.le_ediv_of_mul_le (by omega) (by omega)
  have b2 : ((s 0).toInt - (s 1).toInt) / (2 * (s 0).toInt) < 2000 := Int.ediv_lt_of_lt_mul (by omega) (by omega)
  have e3 : (nOf s).toInt = ((s 0).toInt - (s 1).toInt) / (2 * (s 0).toInt) := by
    unfold nOf; rw [e1, e2, Int64.toInt_ofInt_of_le (by omega) (by omega)]
  omega
theorem sh_int {K : Int} (hK : 0 < K ∧ K ≤ 4000000) {s : S8} (h : JJ K s) : JJ K (shS s) ∧ (shS s 0).toInt = (s 0).toInt ∧ -(s 0).toInt < (shS s 1).toInt ∧ (shS s 1).toInt ≤ (s 0).toInt := by
  obtain ⟨n1, n2, n3⟩ := nOf_int h
  obtain ⟨h0, h1, h2, h3⟩ := h
  have hn := Int.mul_ediv_add_emod ((s 0).toInt - (s 1).toInt) (2 * (s 0).toInt)
  have hr1 := Int.emod_nonneg ((s 0).toInt - (s 1).toInt) (show 2 * (s 0).toInt ≠ 0 by omega)
  have hr2 := Int.emod_lt_of_pos ((s 0).toInt - (s 1).toInt) (show 0 < 2 * (s 0).toInt by omega)
  rw [← n1] at hn
  generalize ((s 0).toInt - (s 1).toInt) % (2 * (s 0).toInt) = r at hn hr1 hr2
  generalize hnn : nOf s = n at n1 n2 n3 hn
  have e2 : (2 * s 0).toInt = 2 * (s 0).toInt := two_mul_int (by omega)
  have m1 := bdm (x := 2 * (s 0).toInt) (y := n.toInt) (X := 2000) (Y := 2000) (by omega) (by omega)
  have e3 : (2 * s 0 * n).toInt = 2 * (s 0).toInt * n.toInt := by rw [li_mul (by rw [e2]; omega), e2]
  have hb : (s 1 + 2 * s 0 * n).toInt = (s 1).toInt + 2 * (s 0).toInt * n.toInt := by rw [li_add (by rw [e3]; omega), e3]
  have m2 := bdm (x := (s 0).toInt) (y := n.toInt) (X := 1000) (Y := 2000) (by omega) (by omega)
  have e4 : (s 0 * n).toInt = (s 0).toInt * n.toInt := li_mul (by omega)
  have e5 : (s 0 * n + s 1).toInt = (s 0).toInt * n.toInt + (s 1).toInt := by rw [li_add (by rw [e4]; omega), e4]
  have m3 := bdm (x := n.toInt) (y := (s 0).toInt * n.toInt + (s 1).toInt) (X := 2000) (Y := 2001000) (by omega) (by omega)
  have e6 : (n * (s 0 * n + s 1)).toInt = n.toInt * ((s 0).toInt * n.toInt + (s 1).toInt) := by rw [li_mul (by rw [e5]; omega), e5]
  have hc : (s 2 + n * (s 0 * n + s 1)).toInt = (s 2).toInt + n.toInt * ((s 0).toInt * n.toInt + (s 1).toInt) := by rw [li_add (by rw [e6]; omega), e6]
  have b0 : shS s 0 = s 0 := rfl
  have b1 : shS s 1 = s 1 + 2 * s 0 * n := by rw [← hnn]; rfl
  have b2 : shS s 2 = s 2 + n * (s 0 * n + s 1) := by rw [← hnn]; rfl
  have hdisc : ((s 1).toInt + 2 * (s 0).toInt * n.toInt) * ((s 1).toInt + 2 * (s 0).toInt * n.toInt) - 4 * ((s 0).toInt * ((s 2).toInt + n.toInt * ((s 0).toInt * n.toInt + (s 1).toInt))) = -K := by
    rw [← h3]; grind
  have hbb : -(s 0).toInt < (s 1).toInt + 2 * (s 0).toInt * n.toInt ∧ (s 1).toInt + 2 * (s 0).toInt * n.toInt ≤ (s 0).toInt := by omega
  have sq := sq_bd (x := (s 1).toInt + 2 * (s 0).toInt * n.toInt) (X := 999) (by omega)
  have hc1 : 1 ≤ (s 2).toInt + n.toInt * ((s 0).toInt * n.toInt + (s 1).toInt) := by
    rcases Int.lt_or_le 0 ((s 2).toInt + n.toInt * ((s 0).toInt * n.toInt + (s 1).toInt)) with q | q
    · omega
    · have := Int.mul_nonpos_of_nonneg_of_nonpos (show 0 ≤ (s 0).toInt by omega) q
      omega
  have hc2 : (s 2).toInt + n.toInt * ((s 0).toInt * n.toInt + (s 1).toInt) ≤ 2000000 := by
    have := Int.mul_le_mul_of_nonneg_right (show 1 ≤ (s 0).toInt by omega) (show 0 ≤ (s 2).toInt + n.toInt * ((s 0).toInt * n.toInt + (s 1).toInt) by omega)
    omega
  refine ⟨⟨?_, ?_, ?_, ?_⟩, ?_, ?_, ?_⟩
  · rw [b0]; exact h0
  · rw [b1, hb]; omega
  · rw [b2, hc]; exact ⟨hc1, hc2⟩
  · rw [b0, b1, b2, hb, hc]; exact hdisc
  · rw [b0]
  · rw [b1, hb]; exact hbb.1
  · rw [b1, hb]; exact hbb.2
theorem neg_int {x : Int64} (h : -3000000 ≤ x.toInt ∧ x.toInt ≤ 3000000) : (-x).toInt = -x.toInt := by
  rw [Int64.toInt_neg]; exact Int.bmod_eq_of_le (by omega) (by omega)
theorem wide_int {K : Int} {s : S8} (h : JJ K s) : wide s ↔ ((s 0).toInt < (s 1).toInt ∨ (s 1).toInt ≤ -(s 0).toInt) := by
  unfold wide; rw [l_lt, l_le, neg_int (by have := h.1; omega)]
theorem turned_int {s : S8} : turned s ↔ ((s 2).toInt < (s 0).toInt ∨ ((s 0).toInt = (s 2).toInt ∧ (s 1).toInt < 0)) := by
  unfold turned; rw [l_lt, l_lt, ← Int64.toInt_inj]; rfl
theorem stp_int {K : Int} (hK : 0 < K ∧ K ≤ 4000000) {s : S8} (h : JJ K s) (hr : ¬ red s) : JJ K (sh1 s) ∧ JJ K (sw1 (sh1 s)) ∧ (red (sw1 (sh1 s)) ∨ (sw1 (sh1 s) 0).toInt < (s 0).toInt) := by
  have h1 : JJ K (sh1 s) ∧ (sh1 s 0).toInt = (s 0).toInt ∧ -(s 0).toInt < (sh1 s 1).toInt ∧ (sh1 s 1).toInt ≤ (s 0).toInt := by
    by_cases hw : wide s
    · rw [sh1_y hw]; exact sh_int hK h
    · rw [sh1_n hw]
      have hq : ¬ ((s 0).toInt < (s 1).toInt ∨ (s 1).toInt ≤ -(s 0).toInt) := fun q => hw ((wide_int h).mpr q)
      exact ⟨h, rfl, by omega, by omega⟩
  obtain ⟨j1, a1, b1, b2⟩ := h1
  refine ⟨j1, ?_⟩
  generalize sh1 s = u at j1 a1 b1 b2
  have hnw : ¬ wide u := fun q => by have := (wide_int j1).mp q; omega
  by_cases ht : turned u
  · rw [sw1_y ht]
    obtain ⟨k0, k1, k2, k3⟩ := j1
    have e0 : swS u 0 = u 2 := rfl
    have e1 : swS u 1 = -u 1 := rfl
    have e2 : swS u 2 = u 0 := rfl
    have en : (-u 1).toInt = -(u 1).toInt := neg_int (by omega)
    have ht2 := turned_int.mp ht
    have hj : JJ K (swS u) := by
      refine ⟨?_, ?_, ?_, ?_⟩
      · rw [e0]; omega
      · rw [e1, en]; omega
      · rw [e2]; omega
      · rw [e0, e1, e2, en, Int.neg_mul_neg, Int.mul_comm (u 2).toInt]; exact k3
    refine ⟨hj, ?_⟩
    rcases Int.lt_or_le (u 2).toInt (u 0).toInt with q | q
    · right; rw [e0]; omega
    · left
      refine ⟨fun w => ?_, fun w => ?_⟩
      · have := (wide_int hj).mp w
        rw [e0, e1, en] at this; omega
      · have := turned_int.mp w
        rw [e0, e1, e2, en] at this; omega
  · rw [sw1_n ht]; exact ⟨j1, Or.inl ⟨hnw, ht⟩⟩
theorem c_ring (a b c n : Int64) : a * n * n + b * n + c = c + n * (a * n + b) := by grind
theorem j1_ring (x y n : Int64) : x * n + y * 1 = y + n * x := by grind
theorem j0_ring (x y : Int64) : x * 1 + y * 0 = x := by grind
theorem s0_ring (x y : Int64) : x * 0 + y * 1 = y := by grind
theorem s1_ring (x y : Int64) : x * (-1) + y * 0 = -x := by grind
end
-- 39.35.red.lean.txt
section
/-! WHOLE FORMS in the class -/
def smS (g : Nat → Int64) (s : S8) : Prop := ∀ k, k < 8 → g k = s k
theorem lt_of_ne {x y : Int64} (h : ¬ x < y) (hn : ¬ x = y) : y < x := by
  rw [l_lt] at h ⊢
  have : x.toInt ≠ y.toInt := fun e => hn (Int64.toInt_inj.mp e)
  omega
theorem e_isReduced {d : Nat} {T N : Nat → Nat} {I : IT} {L : LT} {R : RT} {wh : Nat}{s : S8} (T_wh : T wh = 11) (J_wh_0 : L wh 0 = s 0) (J_wh_1 : L wh 1 = s 1) (J_wh_2 : L wh 2 = s 2) : Ex (d + 1) 112 [.ref wh] (T, N, I, L, R) 0 0 (pI T N R (fun x9 I9 L9 => x9 = (@ite _ (red s) (redD s) (1 : Int32) 0) ∧ I9 = I ∧ L9 = L)) := by
  refine ⟨_, rfl, Nat.le_of_ble_eq_true rfl, fun V C S => ?_⟩
  show V 0 [(0, .ref wh)] [] (T, N, I, L, R) 0 0
  refine k_aload_n C rfl rfl rfl ?_
  refine g_L C rfl rfl rfl T_wh rfl (J_wh_1) ?_
  refine k_aload_n C rfl rfl rfl ?_
  refine g_L C rfl rfl rfl T_wh rfl (J_wh_0) ?_
  refine k_lcmp C rfl rfl ?_
  refine k_if_gt C (t := 62) rfl rfl rfl (fun c9 => ?_) (fun c9 => ?_)
  · skip
    have q : ¬ red s := fun h => h.1 (Or.inl ((lg_cmp_gt _ _).mp c9))
    refine k_iconst C (x := 0) rfl rfl rfl ?_
    exact k_iret C rfl (Or.inr ⟨rfl, by first | exact Or.inl rfl | exact Or.inr rfl⟩) (Nat.le_of_ble_eq_true rfl) (Nat.le_of_ble_eq_true rfl) ⟨_, _, _, rfl, rfl, ⟨by first | exact (if_pos q).symm | exact (if_neg q).symm, rfl, rfl⟩⟩
  refine k_aload_n C rfl rfl rfl ?_
  refine g_L C rfl rfl rfl T_wh rfl (J_wh_1) ?_
  refine k_aload_n C rfl rfl rfl ?_
  refine g_L C rfl rfl rfl T_wh rfl (J_wh_0) ?_
  refine k_lneg C rfl rfl ?_
  refine k_lcmp C rfl rfl ?_
  refine k_if_le C (t := 62) rfl rfl rfl (fun c22 => ?_) (fun c22 => ?_)
  · skip
    have q : ¬ red s := fun h => h.1 (Or.inr ((lg_cmp_le _ _).mp c22))
    refine k_iconst C (x := 0) rfl rfl rfl ?_
    exact k_iret C rfl (Or.inr ⟨rfl, by first | exact Or.inl rfl | exact Or.inr rfl⟩) (Nat.le_of_ble_eq_true rfl) (Nat.le_of_ble_eq_true rfl) ⟨_, _, _, rfl, rfl, ⟨by first | exact (if_pos q).symm | exact (if_neg q).symm, rfl, rfl⟩⟩
  have qw : ¬ wide s := fun h => h.elim (fun h => c9 ((lg_cmp_gt _ _).mpr h)) (fun h => c22 ((lg_cmp_le _ _).mpr h))
  refine k_aload_n C rfl rfl rfl ?_
  refine g_L C rfl rfl rfl T_wh rfl (J_wh_0) ?_
  refine k_aload_n C rfl rfl rfl ?_
  refine g_L C rfl rfl rfl T_wh rfl (J_wh_2) ?_
  refine k_lcmp C rfl rfl ?_
  refine k_if_lt C (t := 58) rfl rfl rfl (fun c34 => ?_) (fun c34 => ?_)
  · skip
    have q : red s := ⟨qw, fun h => h.elim (fun h => absurd ((lg_cmp_lt _ _).mp c34) (fun e => Int64.lt_irrefl (Int64.lt_trans e h))) (fun h => absurd ((lg_cmp_lt _ _).mp c34) (by rw [h.1]; exact Int64.lt_irrefl))⟩
    refine k_iconst C (x := 1) rfl rfl rfl ?_
    refine k_goto C (pc2 := 63) rfl rfl ?_
    exact k_iret C rfl (Or.inr ⟨rfl, by first | exact Or.inl rfl | exact Or.inr rfl⟩) (Nat.le_of_ble_eq_true rfl) (Nat.le_of_ble_eq_true rfl) ⟨_, _, _, rfl, rfl, ⟨by first | exact (if_pos q).symm | exact (if_neg q).symm, rfl, rfl⟩⟩
  refine k_aload_n C rfl rfl rfl ?_
  refine g_L C rfl rfl rfl T_wh rfl (J_wh_0) ?_
  refine k_aload_n C rfl rfl rfl ?_
  refine g_L C rfl rfl rfl T_wh rfl (J_wh_2) ?_
  refine k_lcmp C rfl rfl ?_
  refine k_if_ne C (t := 62) rfl rfl rfl (fun c46 => ?_) (fun c46 => ?_)
  · skip
    have q : ¬ red s := fun h => (c46 ((lg_cmp_eq _ _).mpr (Decidable.byContradiction (fun e => h.2 (Or.inl (lt_of_ne (fun x => c34 ((lg_cmp_lt _ _).mpr x)) e))))))
    refine k_iconst C (x := 0) rfl rfl rfl ?_
    exact k_iret C rfl (Or.inr ⟨rfl, by first | exact Or.inl rfl | exact Or.inr rfl⟩) (Nat.le_of_ble_eq_true rfl) (Nat.le_of_ble_eq_true rfl) ⟨_, _, _, rfl, rfl, ⟨by first | exact (if_pos q).symm | exact (if_neg q).symm, rfl, rfl⟩⟩
  have e46 := (lg_cmp_eq _ _).mp (Decidable.not_not.mp c46)
  refine k_aload_n C rfl rfl rfl ?_
  refine g_L C rfl rfl rfl T_wh rfl (J_wh_1) ?_
  refine k_lconst C (x := 0) rfl rfl rfl ?_
  refine k_lcmp C rfl rfl ?_
  refine k_if_lt C (t := 62) rfl rfl rfl (fun c55 => ?_) (fun c55 => ?_)
  · skip
    have q : ¬ red s := fun h => h.2 (Or.inr ⟨e46, (lg_cmp_lt _ _).mp c55⟩)
    refine k_iconst C (x := 0) rfl rfl rfl ?_
    exact k_iret C rfl (Or.inr ⟨rfl, by first | exact Or.inl rfl | exact Or.inr rfl⟩) (Nat.le_of_ble_eq_true rfl) (Nat.le_of_ble_eq_true rfl) ⟨_, _, _, rfl, rfl, ⟨by first | exact (if_pos q).symm | exact (if_neg q).symm, rfl, rfl⟩⟩
  have q : red s := ⟨qw, fun h => h.elim (fun h => absurd h (by rw [e46]; exact Int64.lt_irrefl)) (fun h => c55 ((lg_cmp_lt _ _).mpr h.2))⟩
  refine k_iconst C (x := 1) rfl rfl rfl ?_
  refine k_goto C (pc2 := 63) rfl rfl ?_
  exact k_iret C rfl (Or.inr ⟨rfl, by first | exact Or.inl rfl | exact Or.inr rfl⟩) (Nat.le_of_ble_eq_true rfl) (Nat.le_of_ble_eq_true rfl) ⟨_, _, _, rfl, rfl, ⟨by first | exact (if_pos q).symm | exact (if_neg q).symm, rfl, rfl⟩⟩

theorem e_shift {d : Nat} {T N : Nat → Nat} {I : IT} {L : LT} {R : RT} {A : Nat → Prop} {wh : Nat}{s : S8} (T_wh : T wh = 11) (A_wh : A wh) (J_wh_0 : L wh 0 = s 0) (J_wh_1 : L wh 1 = s 1) (J_wh_2 : L wh 2 = s 2) (J_wh_3 : L wh 3 = s 3) (J_wh_4 : L wh 4 = s 4) (J_wh_5 : L wh 5 = s 5) (J_wh_6 : L wh 6 = s 6) (J_wh_7 : L wh 7 = s 7) {K : Int} (hJ : JJ K s) : Ex (d + 2) 114 [.ref wh] (T, N, I, L, R) 0 0 (pV T N R (fun I9 L9 => I9 = I ∧ Fr A I L I9 L9 ∧ smS (L9 wh) (shS s))) := by
  refine ⟨_, rfl, Nat.le_of_ble_eq_true rfl, fun V C S => ?_⟩
  show V 0 [(0, .ref wh)] [] (T, N, I, L, R) 0 0
  refine k_aload_n C rfl rfl rfl ?_
  refine g_L C rfl rfl rfl T_wh rfl (J_wh_0) ?_
  refine k_lconst C (x := 0) rfl rfl rfl ?_
  refine k_lcmp C rfl rfl ?_
  refine k_if_gt C (t := 10) rfl rfl rfl (fun c6 => ?_) (fun c6 => ?_)
  · skip
    refine k_aload_n C rfl rfl rfl ?_
    refine g_L C rfl rfl rfl T_wh rfl (J_wh_0) ?_
    refine k_aload_n C rfl rfl rfl ?_
    refine g_L C rfl rfl rfl T_wh rfl (J_wh_1) ?_
    refine k_lsub C rfl rfl ?_
    refine k_ldc2_w C rfl rfl rfl ?_
    refine k_aload_n C rfl rfl rfl ?_
    refine g_L C rfl rfl rfl T_wh rfl (J_wh_0) ?_
    refine k_lmul C rfl rfl ?_
    refine c_SL C (e_fdL  (by rw [two_mul_int (by have := hJ.1; omega)]; have := hJ.1; omega)) rfl rfl rfl rfl rfl rfl rfl (Nat.le_of_ble_eq_true rfl) (Nat.le_of_ble_eq_true rfl) (Nat.le_of_ble_eq_true rfl) ?_
    rintro x27 _ _ ⟨hI8, hL9, h27⟩
    have hI8 := hI8.symm; subst hI8; have hL9 := hL9.symm; subst hL9
    have e27 : x27 = nOf s := by unfold nOf; rw [← h27, Int64.ofInt_toInt]
    subst e27
    refine k_lstore_n C (lw := [(1, .long _), (0, _)]) rfl rfl (Nat.le_of_ble_eq_true rfl) rfl ?_
    refine k_aload_n C rfl rfl rfl ?_
    refine k_dup C rfl rfl rfl ?_
    refine g_L C rfl rfl rfl T_wh rfl (J_wh_2) ?_
    refine k_lload_n C rfl rfl rfl ?_
    refine k_aload_n C rfl rfl rfl ?_
    refine g_L C rfl rfl rfl T_wh rfl (J_wh_0) ?_
    refine k_lload_n C rfl rfl rfl ?_
    refine k_lmul C rfl rfl ?_
    refine k_aload_n C rfl rfl rfl ?_
    refine g_L C rfl rfl rfl T_wh rfl (J_wh_1) ?_
    refine k_ladd C rfl rfl ?_
    refine k_lmul C rfl rfl ?_
    refine k_ladd C rfl rfl ?_
    refine p_L C rfl rfl rfl T_wh (Or.inr rfl) rfl ?_
    refine k_aload_n C rfl rfl rfl ?_
    refine k_dup C rfl rfl rfl ?_
    refine g_L C rfl rfl rfl T_wh rfl ((u2_k (by decide)).trans (J_wh_1)) ?_
    refine k_ldc2_w C rfl rfl rfl ?_
    refine k_aload_n C rfl rfl rfl ?_
    refine g_L C rfl rfl rfl T_wh rfl ((u2_k (by decide)).trans (J_wh_0)) ?_
    refine k_lmul C rfl rfl ?_
    refine k_lload_n C rfl rfl rfl ?_
    refine k_lmul C rfl rfl ?_
    refine k_ladd C rfl rfl ?_
    refine p_L C rfl rfl rfl T_wh (Or.inr rfl) rfl ?_
    refine k_aload_n C rfl rfl rfl ?_
    refine k_dup C rfl rfl rfl ?_
    refine g_L C rfl rfl rfl T_wh rfl ((u2_k (by decide)).trans ((u2_k (by decide)).trans (J_wh_5))) ?_
    refine k_lload_n C rfl rfl rfl ?_
    refine k_aload_n C rfl rfl rfl ?_
    refine g_L C rfl rfl rfl T_wh rfl ((u2_k (by decide)).trans ((u2_k (by decide)).trans (J_wh_4))) ?_
    refine k_lmul C rfl rfl ?_
    refine k_ladd C rfl rfl ?_
    refine p_L C rfl rfl rfl T_wh (Or.inr rfl) rfl ?_
    refine k_aload_n C rfl rfl rfl ?_
    refine k_dup C rfl rfl rfl ?_
    refine g_L C rfl rfl rfl T_wh rfl ((u2_k (by decide)).trans ((u2_k (by decide)).trans ((u2_k (by decide)).trans (J_wh_7)))) ?_
    refine k_lload_n C rfl rfl rfl ?_
    refine k_aload_n C rfl rfl rfl ?_
    refine g_L C rfl rfl rfl T_wh rfl ((u2_k (by decide)).trans ((u2_k (by decide)).trans ((u2_k (by decide)).trans (J_wh_6)))) ?_
    refine k_lmul C rfl rfl ?_
    refine k_ladd C rfl rfl ?_
    refine p_L C rfl rfl rfl T_wh (Or.inr rfl) rfl ?_
    refine k_aload_n C rfl rfl rfl ?_
    refine k_dup C rfl rfl rfl ?_
    refine g_L C rfl rfl rfl T_wh rfl ((u2_k (by decide)).trans ((u2_k (by decide)).trans ((u2_k (by decide)).trans ((u2_k (by decide)).trans (J_wh_3))))) ?_
    refine k_lconst C (x := 1) rfl rfl rfl ?_
    refine k_ladd C rfl rfl ?_
    refine p_L C rfl rfl rfl T_wh (Or.inr rfl) rfl ?_
    exact k_vret C rfl rfl (Nat.le_of_ble_eq_true rfl) (Nat.le_of_ble_eq_true rfl) ⟨_, _, rfl, rfl, ⟨rfl, (Fr.l (Fr.l (Fr.l (Fr.l (Fr.l Fr.rf A_wh) A_wh) A_wh) A_wh) A_wh), fun k hk => match k, hk with | 0, _ => (u2_k (by decide)).trans ((u2_k (by decide)).trans ((u2_k (by decide)).trans ((u2_k (by decide)).trans ((u2_k (by decide)).trans (J_wh_0))))) | 1, _ => (u2_k (by decide)).trans ((u2_k (by decide)).trans ((u2_k (by decide)).trans (u2_s))) | 2, _ => (u2_k (by decide)).trans ((u2_k (by decide)).trans ((u2_k (by decide)).trans ((u2_k (by decide)).trans (u2_s)))) | 3, _ => u2_s | 4, _ => (u2_k (by decide)).trans ((u2_k (by decide)).trans ((u2_k (by decide)).trans ((u2_k (by decide)).trans ((u2_k (by decide)).trans (J_wh_4))))) | 5, _ => (u2_k (by decide)).trans ((u2_k (by decide)).trans (u2_s)) | 6, _ => (u2_k (by decide)).trans ((u2_k (by decide)).trans ((u2_k (by decide)).trans ((u2_k (by decide)).trans ((u2_k (by decide)).trans (J_wh_6))))) | 7, _ => (u2_k (by decide)).trans (u2_s) | k + 8, hk => absurd hk (by omega)⟩⟩
  exact absurd ((lg_cmp_gt _ _).mpr (l_lt.mpr (show (0 : Int) < _ by have := hJ.1; omega))) c6

theorem e_swap {d : Nat} {T N : Nat → Nat} {I : IT} {L : LT} {R : RT} {A : Nat → Prop} {wh : Nat}{s : S8} (T_wh : T wh = 11) (A_wh : A wh) (J_wh_0 : L wh 0 = s 0) (J_wh_1 : L wh 1 = s 1) (J_wh_2 : L wh 2 = s 2) (J_wh_3 : L wh 3 = s 3) (J_wh_4 : L wh 4 = s 4) (J_wh_5 : L wh 5 = s 5) (J_wh_6 : L wh 6 = s 6) (J_wh_7 : L wh 7 = s 7) : Ex (d + 1) 115 [.ref wh] (T, N, I, L, R) 0 0 (pV T N R (fun I9 L9 => I9 = I ∧ Fr A I L I9 L9 ∧ smS (L9 wh) (swS s))) := by
  refine ⟨_, rfl, Nat.le_of_ble_eq_true rfl, fun V C S => ?_⟩
  show V 0 [(0, .ref wh)] [] (T, N, I, L, R) 0 0
  refine k_aload_n C rfl rfl rfl ?_
  refine g_L C rfl rfl rfl T_wh rfl (J_wh_0) ?_
  refine k_lstore_n C (lw := [(1, .long _), (0, _)]) rfl rfl (Nat.le_of_ble_eq_true rfl) rfl ?_
  refine k_aload_n C rfl rfl rfl ?_
  refine k_aload_n C rfl rfl rfl ?_
  refine g_L C rfl rfl rfl T_wh rfl (J_wh_2) ?_
  refine p_L C rfl rfl rfl T_wh (Or.inr rfl) rfl ?_
  refine k_aload_n C rfl rfl rfl ?_
  refine k_aload_n C rfl rfl rfl ?_
  refine g_L C rfl rfl rfl T_wh rfl ((u2_k (by decide)).trans (J_wh_1)) ?_
  refine k_lneg C rfl rfl ?_
  refine p_L C rfl rfl rfl T_wh (Or.inr rfl) rfl ?_
  refine k_aload_n C rfl rfl rfl ?_
  refine k_lload_n C rfl rfl rfl ?_
  refine p_L C rfl rfl rfl T_wh (Or.inr rfl) rfl ?_
  refine k_aload_n C rfl rfl rfl ?_
  refine g_L C rfl rfl rfl T_wh rfl ((u2_k (by decide)).trans ((u2_k (by decide)).trans ((u2_k (by decide)).trans (J_wh_4)))) ?_
  refine k_lstore_n C (lw := [(3, .long _), (1, .long _), (0, _)]) rfl rfl (Nat.le_of_ble_eq_true rfl) rfl ?_
  refine k_aload_n C rfl rfl rfl ?_
  refine k_aload_n C rfl rfl rfl ?_
  refine g_L C rfl rfl rfl T_wh rfl ((u2_k (by decide)).trans ((u2_k (by decide)).trans ((u2_k (by decide)).trans (J_wh_5)))) ?_
  refine p_L C rfl rfl rfl T_wh (Or.inr rfl) rfl ?_
  refine k_aload_n C rfl rfl rfl ?_
  refine k_lload_n C rfl rfl rfl ?_
  refine k_lneg C rfl rfl ?_
  refine p_L C rfl rfl rfl T_wh (Or.inr rfl) rfl ?_
  refine k_aload_n C rfl rfl rfl ?_
  refine g_L C rfl rfl rfl T_wh rfl ((u2_k (by decide)).trans ((u2_k (by decide)).trans ((u2_k (by decide)).trans ((u2_k (by decide)).trans ((u2_k (by decide)).trans (J_wh_6)))))) ?_
  refine k_lstore C (lw := [(5, .long _), (3, .long _), (1, .long _), (0, _)]) rfl rfl (Nat.le_of_ble_eq_true rfl) rfl ?_
  refine k_aload_n C rfl rfl rfl ?_
  refine k_aload_n C rfl rfl rfl ?_
  refine g_L C rfl rfl rfl T_wh rfl ((u2_k (by decide)).trans ((u2_k (by decide)).trans ((u2_k (by decide)).trans ((u2_k (by decide)).trans ((u2_k (by decide)).trans (J_wh_7)))))) ?_
  refine p_L C rfl rfl rfl T_wh (Or.inr rfl) rfl ?_
  refine k_aload_n C rfl rfl rfl ?_
  refine k_lload C rfl rfl rfl ?_
  refine k_lneg C rfl rfl ?_
  refine p_L C rfl rfl rfl T_wh (Or.inr rfl) rfl ?_
  refine k_aload_n C rfl rfl rfl ?_
  refine k_dup C rfl rfl rfl ?_
  refine g_L C rfl rfl rfl T_wh rfl ((u2_k (by decide)).trans ((u2_k (by decide)).trans ((u2_k (by decide)).trans ((u2_k (by decide)).trans ((u2_k (by decide)).trans ((u2_k (by decide)).trans ((u2_k (by decide)).trans (J_wh_3)))))))) ?_
  refine k_lconst C (x := 1) rfl rfl rfl ?_
  refine k_ladd C rfl rfl ?_
  refine p_L C rfl rfl rfl T_wh (Or.inr rfl) rfl ?_
  exact k_vret C rfl rfl (Nat.le_of_ble_eq_true rfl) (Nat.le_of_ble_eq_true rfl) ⟨_, _, rfl, rfl, ⟨rfl, (Fr.l (Fr.l (Fr.l (Fr.l (Fr.l (Fr.l (Fr.l (Fr.l Fr.rf A_wh) A_wh) A_wh) A_wh) A_wh) A_wh) A_wh) A_wh), fun k hk => match k, hk with | 0, _ => (u2_k (by decide)).trans ((u2_k (by decide)).trans ((u2_k (by decide)).trans ((u2_k (by decide)).trans ((u2_k (by decide)).trans ((u2_k (by decide)).trans ((u2_k (by decide)).trans (u2_s))))))) | 1, _ => (u2_k (by decide)).trans ((u2_k (by decide)).trans ((u2_k (by decide)).trans ((u2_k (by decide)).trans ((u2_k (by decide)).trans ((u2_k (by decide)).trans (u2_s)))))) | 2, _ => (u2_k (by decide)).trans ((u2_k (by decide)).trans ((u2_k (by decide)).trans ((u2_k (by decide)).trans ((u2_k (by decide)).trans (u2_s))))) | 3, _ => u2_s | 4, _ => (u2_k (by decide)).trans ((u2_k (by decide)).trans ((u2_k (by decide)).trans ((u2_k (by decide)).trans (u2_s)))) | 5, _ => (u2_k (by decide)).trans ((u2_k (by decide)).trans ((u2_k (by decide)).trans (u2_s))) | 6, _ => (u2_k (by decide)).trans ((u2_k (by decide)).trans (u2_s)) | 7, _ => (u2_k (by decide)).trans (u2_s) | k + 8, hk => absurd hk (by omega)⟩⟩

def st0 (a b c : Int32) : S8 := fun k => match k with
  | 0 => a.toInt64
  | 1 => b.toInt64
  | 2 => c.toInt64
  | 4 => 1
  | 7 => 1
  | _ => 0
def okRed (a b c : Int32) : Prop := (-999 ≤ a.toInt ∧ a.toInt ≤ 999) ∧ (-999 ≤ b.toInt ∧ b.toInt ≤ 999) ∧ (-999 ≤ c.toInt ∧ c.toInt ≤ 999) ∧ 0 < a.toInt ∧ b.toInt * b.toInt - 4 * (a.toInt * c.toInt) < 0
theorem st0_J {a b c : Int32} (h : okRed a b c) : JJ (4 * (a.toInt * c.toInt) - b.toInt * b.toInt) (st0 a b c) ∧ 0 < 4 * (a.toInt * c.toInt) - b.toInt * b.toInt ∧ 4 * (a.toInt * c.toInt) - b.toInt * b.toInt ≤ 4000000 := by
  obtain ⟨h1, h2, h3, h4, h5⟩ := h
  have e0 : (st0 a b c 0).toInt = a.toInt := i2l_eq a
  have e1 : (st0 a b c 1).toInt = b.toInt := i2l_eq b
  have e2 : (st0 a b c 2).toInt = c.toInt := i2l_eq c
  have sq := sq_bd h2
  have m := bdm h1 h3
  have hc : 1 ≤ c.toInt := by
    rcases Int.lt_or_le 0 c.toInt with q | q
    · omega
    · have := Int.mul_nonpos_of_nonneg_of_nonpos (show 0 ≤ a.toInt by omega) q
      omega
  refine ⟨⟨?_, ?_, ?_, ?_⟩, by omega, by omega⟩
  · rw [e0]; omega
  · rw [e1]; omega
  · rw [e2]; omega
  · rw [e0, e1, e2]; omega
theorem e_reduce {d : Nat} {T N : Nat → Nat} {I : IT} {L : LT} {R : RT} {A : Nat → Prop} {wh : Nat} {a b c : Int32} (T_wh : T wh = 11) (A_wh : A wh) (hok : okRed a b c) : Ex (d + 3) 116 [.ref wh, .int a, .int b, .int c] (T, N, I, L, R) 0 0 (pV T N R (fun I9 L9 => I9 = I ∧ Fr A I L I9 L9 ∧ smS (L9 wh) (run 1000 (st0 a b c)))) := by
  refine ⟨_, rfl, Nat.le_of_ble_eq_true rfl, fun V C S => ?_⟩
  show V 0 [(0, .ref wh), (1, .int a), (2, .int b), (3, .int c)] [] (T, N, I, L, R) 0 0
  obtain ⟨hJ0, hK⟩ := st0_J hok
  generalize 4 * (a.toInt * c.toInt) - b.toInt * b.toInt = K at hJ0 hK
  have loop : ∀ (n i : Nat) (L1 : LT) (s : S8), JJ K s → (red s ∨ (s 0).toInt ≤ n) → i + n ≤ 5000 → n ≤ 1000 → Fr A I L I L1 → smS (L1 wh) s → (∀ L2, Fr A I L I L2 → smS (L2 wh) (run (n + 1) s) → ∀ x4 : Int32, V 132 [(4, .int x4), (0, .ref wh), (1, .int a), (2, .int b), (3, .int c)] [] (T, N, I, L2, R) 0 0) → V 46 [(4, .int (Int32.ofNat i)), (0, .ref wh), (1, .int a), (2, .int b), (3, .int c)] [] (T, N, I, L1, R) 0 0 := by
    intro n
    induction n with
    | zero =>
      intro i L1 s hJ hd hi hn hF hs Kk
      have hr : red s := hd.elim id (fun h => absurd h (by have := hJ.1; omega))
      refine k_iload C rfl rfl rfl ?_
      refine k_ldc C rfl rfl rfl ?_
      refine k_icmp_ge C (t := 132) rfl rfl rfl (fun c9 => absurd ((n_le (a := 1000000) (b := i) (by omega) (by omega)).mp c9) (by omega)) (fun _ => ?_)
      refine k_aload_n C rfl rfl rfl ?_
      refine c_VI C (e_isReduced (s := s) T_wh (hs 0 (Nat.le_of_ble_eq_true rfl)) (hs 1 (Nat.le_of_ble_eq_true rfl)) (hs 2 (Nat.le_of_ble_eq_true rfl))) rfl rfl rfl rfl rfl ⟨_, rfl, rfl, T_wh, Nat.le_of_ble_eq_true rfl⟩ rfl rfl (Nat.le_of_ble_eq_true rfl) (Nat.le_of_ble_eq_true rfl) (Nat.le_of_ble_eq_true rfl) ?_
      rintro _ _ _ ⟨hx7, hI8, hL9⟩
      have hx7 := hx7.symm; subst hx7
      have hI8 := hI8.symm; subst hI8; have hL9 := hL9.symm; subst hL9
      refine k_if_ne C (t := 132) rfl rfl rfl (fun cc => ?_) (fun cc => ?_)
      · have hr : red s := Classical.byContradiction (fun h => by rw [if_neg h] at cc; exact cc rfl)
        exact Kk L1 hF (by rw [run_done hr]; exact hs) _
      · rw [if_pos hr] at cc
        exact absurd (by decide) cc
    | succ n ih =>
      intro i L1 s hJ hd hi hn hF hs Kk
      refine k_iload C rfl rfl rfl ?_
      refine k_ldc C rfl rfl rfl ?_
      refine k_icmp_ge C (t := 132) rfl rfl rfl (fun c9 => absurd ((n_le (a := 1000000) (b := i) (by omega) (by omega)).mp c9) (by omega)) (fun _ => ?_)
      refine k_aload_n C rfl rfl rfl ?_
      refine c_VI C (e_isReduced (s := s) T_wh (hs 0 (Nat.le_of_ble_eq_true rfl)) (hs 1 (Nat.le_of_ble_eq_true rfl)) (hs 2 (Nat.le_of_ble_eq_true rfl))) rfl rfl rfl rfl rfl ⟨_, rfl, rfl, T_wh, Nat.le_of_ble_eq_true rfl⟩ rfl rfl (Nat.le_of_ble_eq_true rfl) (Nat.le_of_ble_eq_true rfl) (Nat.le_of_ble_eq_true rfl) ?_
      rintro _ _ _ ⟨hx7, hI8, hL9⟩
      have hx7 := hx7.symm; subst hx7
      have hI8 := hI8.symm; subst hI8; have hL9 := hL9.symm; subst hL9
      refine k_if_ne C (t := 132) rfl rfl rfl (fun cc => ?_) (fun cc => ?_)
      · have hr : red s := Classical.byContradiction (fun h => by rw [if_neg h] at cc; exact cc rfl)
        exact Kk L1 hF (by rw [run_done hr]; exact hs) _
      · have hnr : ¬ red s := fun h => by rw [if_pos h] at cc; exact absurd (by decide) cc
        obtain ⟨j1, j2, j3⟩ := stp_int hK hJ hnr
        have K126 : ∀ (L2 : LT), Fr A I L I L2 → smS (L2 wh) (sw1 (sh1 s)) → V 126 [(4, .int (Int32.ofNat i)), (0, .ref wh), (1, .int a), (2, .int b), (3, .int c)] [] (T, N, I, L2, R) 0 0 := by
          intro L2 hF2 hs2
          refine k_inc1 C (lw := [(4, .int _), (0, _), (1, .int _), (2, .int _), (3, .int _)]) rfl rfl rfl (Nat.le_of_ble_eq_true rfl) rfl ?_
          refine k_goto C (pc2 := 46) rfl rfl ?_
          rw [n_s]
          have hA := hd.resolve_left hnr
          exact ih (i + 1) L2 _ j2 (j3.elim Or.inl (fun h => Or.inr (by omega))) (by omega) (by omega) hF2 hs2 (fun L3 hF3 hs3 => Kk L3 hF3 (by rw [run_step hnr]; exact hs3))
        have K89 : ∀ (L2 : LT), Fr A I L I L2 → smS (L2 wh) (sh1 s) → V 89 [(4, .int (Int32.ofNat i)), (0, .ref wh), (1, .int a), (2, .int b), (3, .int c)] [] (T, N, I, L2, R) 0 0 := by
          intro L2 hF2 hs2
          have J_wh_0 : L2 wh 0 = sh1 s 0 := hs2 0 (Nat.le_of_ble_eq_true rfl)
          have J_wh_1 : L2 wh 1 = sh1 s 1 := hs2 1 (Nat.le_of_ble_eq_true rfl)
          have J_wh_2 : L2 wh 2 = sh1 s 2 := hs2 2 (Nat.le_of_ble_eq_true rfl)
          have J_wh_3 : L2 wh 3 = sh1 s 3 := hs2 3 (Nat.le_of_ble_eq_true rfl)
          have J_wh_4 : L2 wh 4 = sh1 s 4 := hs2 4 (Nat.le_of_ble_eq_true rfl)
          have J_wh_5 : L2 wh 5 = sh1 s 5 := hs2 5 (Nat.le_of_ble_eq_true rfl)
          have J_wh_6 : L2 wh 6 = sh1 s 6 := hs2 6 (Nat.le_of_ble_eq_true rfl)
          have J_wh_7 : L2 wh 7 = sh1 s 7 := hs2 7 (Nat.le_of_ble_eq_true rfl)
          refine k_aload_n C rfl rfl rfl ?_
          refine g_L C rfl rfl rfl T_wh rfl (J_wh_0) ?_
          refine k_aload_n C rfl rfl rfl ?_
          refine g_L C rfl rfl rfl T_wh rfl (J_wh_2) ?_
          refine k_lcmp C rfl rfl ?_
          refine k_if_gt C (t := 122) rfl rfl rfl (fun c98 => ?_) (fun c98 => ?_)
          · skip
            have ht : turned (sh1 s) := Or.inl ((lg_cmp_gt _ _).mp c98)
            refine k_aload_n C rfl rfl rfl ?_
            refine c_VV C (e_swap T_wh A_wh (J_wh_0) (J_wh_1) (J_wh_2) (J_wh_3) (J_wh_4) (J_wh_5) (J_wh_6) (J_wh_7) (s := sh1 s)) rfl rfl rfl rfl rfl ⟨_, rfl, rfl, T_wh, Nat.le_of_ble_eq_true rfl⟩ rfl rfl (Nat.le_of_ble_eq_true rfl) (Nat.le_of_ble_eq_true rfl) (Nat.le_of_ble_eq_true rfl) ?_
            rintro I3 L3 ⟨hI8, hF9, hs9⟩
            have hI8 := hI8.symm; subst hI8
            have hF3 := Fr.tr hF2 hF9
            have hs3 : smS (L3 wh) (sw1 (sh1 s)) := by rw [sw1_y ht]; exact hs9
            exact K126 _ hF3 hs3
          refine k_aload_n C rfl rfl rfl ?_
          refine g_L C rfl rfl rfl T_wh rfl (J_wh_0) ?_
          refine k_aload_n C rfl rfl rfl ?_
          refine g_L C rfl rfl rfl T_wh rfl (J_wh_2) ?_
          refine k_lcmp C rfl rfl ?_
          refine k_if_ne C (t := 126) rfl rfl rfl (fun c110 => ?_) (fun c110 => ?_)
          · skip
            have ht : ¬ turned (sh1 s) := fun h => h.elim (fun h => c98 ((lg_cmp_gt _ _).mpr h)) (fun h => c110 ((lg_cmp_eq _ _).mpr h.1))
            have hF3 := hF2
            have hs3 : smS (L2 wh) (sw1 (sh1 s)) := by rw [sw1_n ht]; exact hs2
            exact K126 _ hF3 hs3
          have e110 := (lg_cmp_eq _ _).mp (Decidable.not_not.mp c110)
          refine k_aload_n C rfl rfl rfl ?_
          refine g_L C rfl rfl rfl T_wh rfl (J_wh_1) ?_
          refine k_lconst C (x := 0) rfl rfl rfl ?_
          refine k_lcmp C rfl rfl ?_
          refine k_if_ge C (t := 126) rfl rfl rfl (fun c119 => ?_) (fun c119 => ?_)
          · skip
            have ht : ¬ turned (sh1 s) := fun h => h.elim (fun h => c98 ((lg_cmp_gt _ _).mpr h)) (fun h => absurd ((lg_cmp_lt _ _).mpr h.2) (Int32.not_lt.mpr c119))
            have hF3 := hF2
            have hs3 : smS (L2 wh) (sw1 (sh1 s)) := by rw [sw1_n ht]; exact hs2
            exact K126 _ hF3 hs3
          have ht : turned (sh1 s) := Or.inr ⟨e110, (lg_cmp_lt _ _).mp (Int32.not_le.mp c119)⟩
          refine k_aload_n C rfl rfl rfl ?_
          refine c_VV C (e_swap T_wh A_wh (J_wh_0) (J_wh_1) (J_wh_2) (J_wh_3) (J_wh_4) (J_wh_5) (J_wh_6) (J_wh_7) (s := sh1 s)) rfl rfl rfl rfl rfl ⟨_, rfl, rfl, T_wh, Nat.le_of_ble_eq_true rfl⟩ rfl rfl (Nat.le_of_ble_eq_true rfl) (Nat.le_of_ble_eq_true rfl) (Nat.le_of_ble_eq_true rfl) ?_
          rintro I3 L3 ⟨hI8, hF9, hs9⟩
          have hI8 := hI8.symm; subst hI8
          have hF3 := Fr.tr hF2 hF9
          have hs3 : smS (L3 wh) (sw1 (sh1 s)) := by rw [sw1_y ht]; exact hs9
          exact K126 _ hF3 hs3
        have J_wh_0 : L1 wh 0 = s 0 := hs 0 (Nat.le_of_ble_eq_true rfl)
        have J_wh_1 : L1 wh 1 = s 1 := hs 1 (Nat.le_of_ble_eq_true rfl)
        have J_wh_2 : L1 wh 2 = s 2 := hs 2 (Nat.le_of_ble_eq_true rfl)
        have J_wh_3 : L1 wh 3 = s 3 := hs 3 (Nat.le_of_ble_eq_true rfl)
        have J_wh_4 : L1 wh 4 = s 4 := hs 4 (Nat.le_of_ble_eq_true rfl)
        have J_wh_5 : L1 wh 5 = s 5 := hs 5 (Nat.le_of_ble_eq_true rfl)
        have J_wh_6 : L1 wh 6 = s 6 := hs 6 (Nat.le_of_ble_eq_true rfl)
        have J_wh_7 : L1 wh 7 = s 7 := hs 7 (Nat.le_of_ble_eq_true rfl)
        refine k_aload_n C rfl rfl rfl ?_
        refine g_L C rfl rfl rfl T_wh rfl (J_wh_1) ?_
        refine k_aload_n C rfl rfl rfl ?_
        refine g_L C rfl rfl rfl T_wh rfl (J_wh_0) ?_
        refine k_lcmp C rfl rfl ?_
        refine k_if_gt C (t := 85) rfl rfl rfl (fun c69 => ?_) (fun c69 => ?_)
        · skip
          have hw : wide s := Or.inl ((lg_cmp_gt _ _).mp c69)
          refine k_aload_n C rfl rfl rfl ?_
          refine c_VV C (e_shift T_wh A_wh (J_wh_0) (J_wh_1) (J_wh_2) (J_wh_3) (J_wh_4) (J_wh_5) (J_wh_6) (J_wh_7) (s := s) hJ) rfl rfl rfl rfl rfl ⟨_, rfl, rfl, T_wh, Nat.le_of_ble_eq_true rfl⟩ rfl rfl (Nat.le_of_ble_eq_true rfl) (Nat.le_of_ble_eq_true rfl) (Nat.le_of_ble_eq_true rfl) ?_
          rintro I2 L2 ⟨hI8, hF9, hs9⟩
          have hI8 := hI8.symm; subst hI8
          have hF2 := Fr.tr hF hF9
          have hs2 : smS (L2 wh) (sh1 s) := by rw [sh1_y hw]; exact hs9
          exact K89 _ hF2 hs2
        refine k_aload_n C rfl rfl rfl ?_
        refine g_L C rfl rfl rfl T_wh rfl (J_wh_1) ?_
        refine k_aload_n C rfl rfl rfl ?_
        refine g_L C rfl rfl rfl T_wh rfl (J_wh_0) ?_
        refine k_lneg C rfl rfl ?_
        refine k_lcmp C rfl rfl ?_
        refine k_if_gt C (t := 89) rfl rfl rfl (fun c82 => ?_) (fun c82 => ?_)
        · skip
          have hw : ¬ wide s := fun h => h.elim (fun h => c69 ((lg_cmp_gt _ _).mpr h)) (fun h => absurd ((lg_cmp_le _ _).mpr h) (Int32.not_le.mpr c82))
          have hF2 := hF
          have hs2 : smS (L1 wh) (sh1 s) := by rw [sh1_n hw]; exact hs
          exact K89 _ hF2 hs2
        have hw : wide s := Or.inr ((lg_cmp_le _ _).mp (Int32.not_lt.mp c82))
        refine k_aload_n C rfl rfl rfl ?_
        refine c_VV C (e_shift T_wh A_wh (J_wh_0) (J_wh_1) (J_wh_2) (J_wh_3) (J_wh_4) (J_wh_5) (J_wh_6) (J_wh_7) (s := s) hJ) rfl rfl rfl rfl rfl ⟨_, rfl, rfl, T_wh, Nat.le_of_ble_eq_true rfl⟩ rfl rfl (Nat.le_of_ble_eq_true rfl) (Nat.le_of_ble_eq_true rfl) (Nat.le_of_ble_eq_true rfl) ?_
        rintro I2 L2 ⟨hI8, hF9, hs9⟩
        have hI8 := hI8.symm; subst hI8
        have hF2 := Fr.tr hF hF9
        have hs2 : smS (L2 wh) (sh1 s) := by rw [sh1_y hw]; exact hs9
        exact K89 _ hF2 hs2
  refine k_aload_n C rfl rfl rfl ?_
  refine k_iload_n C rfl rfl rfl ?_
  refine k_i2l C rfl rfl ?_
  refine p_L C rfl rfl rfl T_wh (Or.inr rfl) rfl ?_
  refine k_aload_n C rfl rfl rfl ?_
  refine k_iload_n C rfl rfl rfl ?_
  refine k_i2l C rfl rfl ?_
  refine p_L C rfl rfl rfl T_wh (Or.inr rfl) rfl ?_
  refine k_aload_n C rfl rfl rfl ?_
  refine k_iload_n C rfl rfl rfl ?_
  refine k_i2l C rfl rfl ?_
  refine p_L C rfl rfl rfl T_wh (Or.inr rfl) rfl ?_
  refine k_aload_n C rfl rfl rfl ?_
  refine k_lconst C (x := 0) rfl rfl rfl ?_
  refine p_L C rfl rfl rfl T_wh (Or.inr rfl) rfl ?_
  refine k_aload_n C rfl rfl rfl ?_
  refine k_lconst C (x := 1) rfl rfl rfl ?_
  refine p_L C rfl rfl rfl T_wh (Or.inr rfl) rfl ?_
  refine k_aload_n C rfl rfl rfl ?_
  refine k_lconst C (x := 0) rfl rfl rfl ?_
  refine p_L C rfl rfl rfl T_wh (Or.inr rfl) rfl ?_
  refine k_aload_n C rfl rfl rfl ?_
  refine k_lconst C (x := 0) rfl rfl rfl ?_
  refine p_L C rfl rfl rfl T_wh (Or.inr rfl) rfl ?_
  refine k_aload_n C rfl rfl rfl ?_
  refine k_lconst C (x := 1) rfl rfl rfl ?_
  refine p_L C rfl rfl rfl T_wh (Or.inr rfl) rfl ?_
  refine k_iconst C (x := 0) rfl rfl rfl ?_
  refine k_istore C (lw := [(4, .int _), (0, _), (1, .int _), (2, .int _), (3, .int _)]) rfl rfl (Nat.le_of_ble_eq_true rfl) rfl ?_
  refine loop 999 0 _ (st0 a b c) hJ0 (Or.inr (by have := hJ0.1; omega)) (by omega) (by omega) (Fr.l (Fr.l (Fr.l (Fr.l (Fr.l (Fr.l (Fr.l (Fr.l Fr.rf A_wh) A_wh) A_wh) A_wh) A_wh) A_wh) A_wh) A_wh) (fun k hk => match k, hk with | 0, _ => (u2_k (by decide)).trans ((u2_k (by decide)).trans ((u2_k (by decide)).trans ((u2_k (by decide)).trans ((u2_k (by decide)).trans ((u2_k (by decide)).trans ((u2_k (by decide)).trans (u2_s))))))) | 1, _ => (u2_k (by decide)).trans ((u2_k (by decide)).trans ((u2_k (by decide)).trans ((u2_k (by decide)).trans ((u2_k (by decide)).trans ((u2_k (by decide)).trans (u2_s)))))) | 2, _ => (u2_k (by decide)).trans ((u2_k (by decide)).trans ((u2_k (by decide)).trans ((u2_k (by decide)).trans ((u2_k (by decide)).trans (u2_s))))) | 3, _ => (u2_k (by decide)).trans ((u2_k (by decide)).trans ((u2_k (by decide)).trans ((u2_k (by decide)).trans (u2_s)))) | 4, _ => (u2_k (by decide)).trans ((u2_k (by decide)).trans ((u2_k (by decide)).trans (u2_s))) | 5, _ => (u2_k (by decide)).trans ((u2_k (by decide)).trans (u2_s)) | 6, _ => (u2_k (by decide)).trans (u2_s) | 7, _ => u2_s | k + 8, hk => absurd hk (by omega)) (fun L2 hF2 hs2 x4 => ?_)
  exact k_vret C rfl rfl (Nat.le_of_ble_eq_true rfl) (Nat.le_of_ble_eq_true rfl) ⟨_, _, rfl, rfl, rfl, hF2, hs2⟩

def trn (s : S8) : Int32 := if ¬ s 0 = s 2 then 2 else if s 1 = 0 then 4 else if s 1 = s 0 then 6 else 2
def tlS (s : S8) (n : Int) : Int64 := if n = 8 then (trn s).toInt64 else s n.toNat
theorem e_turns {d : Nat} {T N : Nat → Nat} {I : IT} {L : LT} {R : RT} {wh : Nat}{s : S8} (T_wh : T wh = 11) (J_wh_0 : L wh 0 = s 0) (J_wh_1 : L wh 1 = s 1) (J_wh_2 : L wh 2 = s 2) : Ex (d + 1) 117 [.ref wh] (T, N, I, L, R) 0 0 (pI T N R (fun x9 I9 L9 => x9 = (trn s) ∧ I9 = I ∧ L9 = L)) := by
  refine ⟨_, rfl, Nat.le_of_ble_eq_true rfl, fun V C S => ?_⟩
  show V 0 [(0, .ref wh)] [] (T, N, I, L, R) 0 0
  refine k_aload_n C rfl rfl rfl ?_
  refine g_L C rfl rfl rfl T_wh rfl (J_wh_0) ?_
  refine k_aload_n C rfl rfl rfl ?_
  refine g_L C rfl rfl rfl T_wh rfl (J_wh_2) ?_
  refine k_lcmp C rfl rfl ?_
  refine k_if_eq C (t := 14) rfl rfl rfl (fun c9 => ?_) (fun c9 => ?_)
  · skip
    have e9 := (lg_cmp_eq _ _).mp c9
    refine k_aload_n C rfl rfl rfl ?_
    refine g_L C rfl rfl rfl T_wh rfl (J_wh_1) ?_
    refine k_lconst C (x := 0) rfl rfl rfl ?_
    refine k_lcmp C rfl rfl ?_
    refine k_if_ne C (t := 25) rfl rfl rfl (fun c20 => ?_) (fun c20 => ?_)
    · skip
      have e20 : ¬ s 1 = 0 := fun h => c20 ((lg_cmp_eq _ _).mpr h)
      refine k_aload_n C rfl rfl rfl ?_
      refine g_L C rfl rfl rfl T_wh rfl (J_wh_1) ?_
      refine k_aload_n C rfl rfl rfl ?_
      refine g_L C rfl rfl rfl T_wh rfl (J_wh_0) ?_
      refine k_lcmp C rfl rfl ?_
      refine k_if_ne C (t := 42) rfl rfl rfl (fun c34 => ?_) (fun c34 => ?_)
      · skip
        have e34 : trn s = 2 := by unfold trn; rw [if_neg (fun h => h e9), if_neg e20, if_neg (fun h => c34 ((lg_cmp_eq _ _).mpr h))]
        refine k_iconst C (x := 2) rfl rfl rfl ?_
        exact k_iret C rfl (Or.inl rfl) (Nat.le_of_ble_eq_true rfl) (Nat.le_of_ble_eq_true rfl) ⟨_, _, _, rfl, rfl, ⟨e34.symm, rfl, rfl⟩⟩
      have e34 : trn s = 6 := by unfold trn; rw [if_neg (fun h => h e9), if_neg e20, if_pos ((lg_cmp_eq _ _).mp (Decidable.not_not.mp c34))]
      refine k_bipush C (x := 6) rfl rfl rfl ?_
      refine k_goto C (pc2 := 43) rfl rfl ?_
      exact k_iret C rfl (Or.inl rfl) (Nat.le_of_ble_eq_true rfl) (Nat.le_of_ble_eq_true rfl) ⟨_, _, _, rfl, rfl, ⟨e34.symm, rfl, rfl⟩⟩
    have e20 := (lg_cmp_eq _ _).mp (Decidable.not_not.mp c20)
    refine k_iconst C (x := 4) rfl rfl rfl ?_
    exact k_iret C rfl (Or.inl rfl) (Nat.le_of_ble_eq_true rfl) (Nat.le_of_ble_eq_true rfl) ⟨_, _, _, rfl, rfl, ⟨by unfold trn; rw [if_neg (fun h => h e9), if_pos e20], rfl, rfl⟩⟩
  have e9 : ¬ s 0 = s 2 := fun h => c9 ((lg_cmp_eq _ _).mpr h)
  refine k_iconst C (x := 2) rfl rfl rfl ?_
  exact k_iret C rfl (Or.inl rfl) (Nat.le_of_ble_eq_true rfl) (Nat.le_of_ble_eq_true rfl) ⟨_, _, _, rfl, rfl, ⟨by unfold trn; rw [if_pos e9], rfl, rfl⟩⟩

theorem e_tell {d : Nat} {T N : Nat → Nat} {I : IT} {L : LT} {R : RT} {wh : Nat} {n : Int32}{s : S8} (T_wh : T wh = 11) (J_wh_0 : L wh 0 = s 0) (J_wh_1 : L wh 1 = s 1) (J_wh_2 : L wh 2 = s 2) (J_wh_3 : L wh 3 = s 3) (J_wh_4 : L wh 4 = s 4) (J_wh_5 : L wh 5 = s 5) (J_wh_6 : L wh 6 = s 6) (J_wh_7 : L wh 7 = s 7) (hn : 0 ≤ n.toInt ∧ n.toInt ≤ 8) : Ex (d + 2) 118 [.ref wh, .int n] (T, N, I, L, R) 0 0 (pL T N R (fun x9 I9 L9 => x9 = (tlS s n.toInt) ∧ I9 = I ∧ L9 = L)) := by
  refine ⟨_, rfl, Nat.le_of_ble_eq_true rfl, fun V C S => ?_⟩
  show V 0 [(0, .ref wh), (1, .int n)] [] (T, N, I, L, R) 0 0
  refine k_iload_n C rfl rfl rfl ?_
  refine k_table C rfl (by decide) (fun h => by omega) (fun h1 h2 => ?_)
  have h3 : n.toInt = 0 ∨ n.toInt = 1 ∨ n.toInt = 2 ∨ n.toInt = 3 ∨ n.toInt = 4 ∨ n.toInt = 5 ∨ n.toInt = 6 ∨ n.toInt = 7 ∨ n.toInt = 8 := by omega
  rcases h3 with e | e | e | e | e | e | e | e | e <;> rw [e]
  · refine ⟨51, rfl, by decide, ?_⟩
    show V 52 [(0, .ref wh), (1, .int n)] [] _ _ _
    refine k_aload_n C rfl rfl rfl ?_
    refine g_L C rfl rfl rfl T_wh rfl (J_wh_0) ?_
    exact k_lret C rfl rfl (Nat.le_of_ble_eq_true rfl) (Nat.le_of_ble_eq_true rfl) ⟨_, _, _, rfl, rfl, ⟨by rw [e]; rfl, rfl, rfl⟩⟩
  · refine ⟨56, rfl, by decide, ?_⟩
    show V 57 [(0, .ref wh), (1, .int n)] [] _ _ _
    refine k_aload_n C rfl rfl rfl ?_
    refine g_L C rfl rfl rfl T_wh rfl (J_wh_1) ?_
    exact k_lret C rfl rfl (Nat.le_of_ble_eq_true rfl) (Nat.le_of_ble_eq_true rfl) ⟨_, _, _, rfl, rfl, ⟨by rw [e]; rfl, rfl, rfl⟩⟩
  · refine ⟨61, rfl, by decide, ?_⟩
    show V 62 [(0, .ref wh), (1, .int n)] [] _ _ _
    refine k_aload_n C rfl rfl rfl ?_
    refine g_L C rfl rfl rfl T_wh rfl (J_wh_2) ?_
    exact k_lret C rfl rfl (Nat.le_of_ble_eq_true rfl) (Nat.le_of_ble_eq_true rfl) ⟨_, _, _, rfl, rfl, ⟨by rw [e]; rfl, rfl, rfl⟩⟩
  · refine ⟨66, rfl, by decide, ?_⟩
    show V 67 [(0, .ref wh), (1, .int n)] [] _ _ _
    refine k_aload_n C rfl rfl rfl ?_
    refine g_L C rfl rfl rfl T_wh rfl (J_wh_3) ?_
    exact k_lret C rfl rfl (Nat.le_of_ble_eq_true rfl) (Nat.le_of_ble_eq_true rfl) ⟨_, _, _, rfl, rfl, ⟨by rw [e]; rfl, rfl, rfl⟩⟩
  · refine ⟨71, rfl, by decide, ?_⟩
    show V 72 [(0, .ref wh), (1, .int n)] [] _ _ _
    refine k_aload_n C rfl rfl rfl ?_
    refine g_L C rfl rfl rfl T_wh rfl (J_wh_4) ?_
    exact k_lret C rfl rfl (Nat.le_of_ble_eq_true rfl) (Nat.le_of_ble_eq_true rfl) ⟨_, _, _, rfl, rfl, ⟨by rw [e]; rfl, rfl, rfl⟩⟩
  · refine ⟨76, rfl, by decide, ?_⟩
    show V 77 [(0, .ref wh), (1, .int n)] [] _ _ _
    refine k_aload_n C rfl rfl rfl ?_
    refine g_L C rfl rfl rfl T_wh rfl (J_wh_5) ?_
    exact k_lret C rfl rfl (Nat.le_of_ble_eq_true rfl) (Nat.le_of_ble_eq_true rfl) ⟨_, _, _, rfl, rfl, ⟨by rw [e]; rfl, rfl, rfl⟩⟩
  · refine ⟨81, rfl, by decide, ?_⟩
    show V 82 [(0, .ref wh), (1, .int n)] [] _ _ _
    refine k_aload_n C rfl rfl rfl ?_
    refine g_L C rfl rfl rfl T_wh rfl (J_wh_6) ?_
    exact k_lret C rfl rfl (Nat.le_of_ble_eq_true rfl) (Nat.le_of_ble_eq_true rfl) ⟨_, _, _, rfl, rfl, ⟨by rw [e]; rfl, rfl, rfl⟩⟩
  · refine ⟨86, rfl, by decide, ?_⟩
    show V 87 [(0, .ref wh), (1, .int n)] [] _ _ _
    refine k_aload_n C rfl rfl rfl ?_
    refine g_L C rfl rfl rfl T_wh rfl (J_wh_7) ?_
    exact k_lret C rfl rfl (Nat.le_of_ble_eq_true rfl) (Nat.le_of_ble_eq_true rfl) ⟨_, _, _, rfl, rfl, ⟨by rw [e]; rfl, rfl, rfl⟩⟩
  · refine ⟨91, rfl, by decide, ?_⟩
    show V 92 [(0, .ref wh), (1, .int n)] [] _ _ _
    refine k_aload_n C rfl rfl rfl ?_
    refine c_VI C (e_turns T_wh (J_wh_0) (J_wh_1) (J_wh_2) (s := s)) rfl rfl rfl rfl rfl ⟨_, rfl, rfl, T_wh, Nat.le_of_ble_eq_true rfl⟩ rfl rfl (Nat.le_of_ble_eq_true rfl) (Nat.le_of_ble_eq_true rfl) (Nat.le_of_ble_eq_true rfl) ?_
    rintro _ _ _ ⟨hx7, hI8, hL9⟩
    have hx7 := hx7.symm; subst hx7
    have hI8 := hI8.symm; subst hI8; have hL9 := hL9.symm; subst hL9
    refine k_i2l C rfl rfl ?_
    exact k_lret C rfl rfl (Nat.le_of_ble_eq_true rfl) (Nat.le_of_ble_eq_true rfl) ⟨_, _, _, rfl, rfl, ⟨by rw [e]; rfl, rfl, rfl⟩⟩
end
-- 39.36.red.lean.txt
section
/-! WHOLE FORMS in the reference -/
theorem e_m_isWide {d : Nat} {T N : Nat → Nat} {I : IT} {L : LT} {R : RT} {m : Nat}{s : S8} (T_m : T m = 13) (J_m_30 : L m 30 = s 0) (J_m_31 : L m 31 = s 1) : Ex (d + 1) 298 [.ref m] (T, N, I, L, R) 0 0 (pI T N R (fun x9 I9 L9 => x9 = (@ite _ (wide s) (wideD s) (1 : Int32) 0) ∧ I9 = I ∧ L9 = L)) := by
  refine ⟨_, rfl, Nat.le_of_ble_eq_true rfl, fun V C S => ?_⟩
  show V 0 [(0, .ref m)] [] (T, N, I, L, R) 0 0
  refine k_aload_n C rfl rfl rfl ?_
  refine g_L C rfl rfl rfl T_m rfl (J_m_31) ?_
  refine k_aload_n C rfl rfl rfl ?_
  refine g_L C rfl rfl rfl T_m rfl (J_m_30) ?_
  refine k_lcmp C rfl rfl ?_
  refine k_if_gt C (t := 25) rfl rfl rfl (fun c9 => ?_) (fun c9 => ?_)
  · skip
    have q : wide s := Or.inl ((lg_cmp_gt _ _).mp c9)
    refine k_iconst C (x := 1) rfl rfl rfl ?_
    refine k_goto C (pc2 := 30) rfl rfl ?_
    exact k_iret C rfl (Or.inr ⟨rfl, by first | exact Or.inl rfl | exact Or.inr rfl⟩) (Nat.le_of_ble_eq_true rfl) (Nat.le_of_ble_eq_true rfl) ⟨_, _, _, rfl, rfl, ⟨by first | exact (if_pos q).symm | exact (if_neg q).symm, rfl, rfl⟩⟩
  refine k_aload_n C rfl rfl rfl ?_
  refine g_L C rfl rfl rfl T_m rfl (J_m_31) ?_
  refine k_aload_n C rfl rfl rfl ?_
  refine g_L C rfl rfl rfl T_m rfl (J_m_30) ?_
  refine k_lneg C rfl rfl ?_
  refine k_lcmp C rfl rfl ?_
  refine k_if_gt C (t := 29) rfl rfl rfl (fun c22 => ?_) (fun c22 => ?_)
  · skip
    have q : ¬ wide s := fun h => h.elim (fun h => c9 ((lg_cmp_gt _ _).mpr h)) (fun h => absurd ((lg_cmp_le _ _).mpr h) (Int32.not_le.mpr c22))
    refine k_iconst C (x := 0) rfl rfl rfl ?_
    exact k_iret C rfl (Or.inr ⟨rfl, by first | exact Or.inl rfl | exact Or.inr rfl⟩) (Nat.le_of_ble_eq_true rfl) (Nat.le_of_ble_eq_true rfl) ⟨_, _, _, rfl, rfl, ⟨by first | exact (if_pos q).symm | exact (if_neg q).symm, rfl, rfl⟩⟩
  have q : wide s := Or.inr ((lg_cmp_le _ _).mp (Int32.not_lt.mp c22))
  refine k_iconst C (x := 1) rfl rfl rfl ?_
  refine k_goto C (pc2 := 30) rfl rfl ?_
  exact k_iret C rfl (Or.inr ⟨rfl, by first | exact Or.inl rfl | exact Or.inr rfl⟩) (Nat.le_of_ble_eq_true rfl) (Nat.le_of_ble_eq_true rfl) ⟨_, _, _, rfl, rfl, ⟨by first | exact (if_pos q).symm | exact (if_neg q).symm, rfl, rfl⟩⟩

theorem e_m_isTurned {d : Nat} {T N : Nat → Nat} {I : IT} {L : LT} {R : RT} {m : Nat}{s : S8} (T_m : T m = 13) (J_m_30 : L m 30 = s 0) (J_m_31 : L m 31 = s 1) (J_m_32 : L m 32 = s 2) : Ex (d + 1) 299 [.ref m] (T, N, I, L, R) 0 0 (pI T N R (fun x9 I9 L9 => x9 = (@ite _ (turned s) (turnedD s) (1 : Int32) 0) ∧ I9 = I ∧ L9 = L)) := by
  refine ⟨_, rfl, Nat.le_of_ble_eq_true rfl, fun V C S => ?_⟩
  show V 0 [(0, .ref m)] [] (T, N, I, L, R) 0 0
  refine k_aload_n C rfl rfl rfl ?_
  refine g_L C rfl rfl rfl T_m rfl (J_m_30) ?_
  refine k_aload_n C rfl rfl rfl ?_
  refine g_L C rfl rfl rfl T_m rfl (J_m_32) ?_
  refine k_lcmp C rfl rfl ?_
  refine k_if_gt C (t := 33) rfl rfl rfl (fun c9 => ?_) (fun c9 => ?_)
  · skip
    have q : turned s := Or.inl ((lg_cmp_gt _ _).mp c9)
    refine k_iconst C (x := 1) rfl rfl rfl ?_
    refine k_goto C (pc2 := 38) rfl rfl ?_
    exact k_iret C rfl (Or.inr ⟨rfl, by first | exact Or.inl rfl | exact Or.inr rfl⟩) (Nat.le_of_ble_eq_true rfl) (Nat.le_of_ble_eq_true rfl) ⟨_, _, _, rfl, rfl, ⟨by first | exact (if_pos q).symm | exact (if_neg q).symm, rfl, rfl⟩⟩
  refine k_aload_n C rfl rfl rfl ?_
  refine g_L C rfl rfl rfl T_m rfl (J_m_30) ?_
  refine k_aload_n C rfl rfl rfl ?_
  refine g_L C rfl rfl rfl T_m rfl (J_m_32) ?_
  refine k_lcmp C rfl rfl ?_
  refine k_if_ne C (t := 37) rfl rfl rfl (fun c21 => ?_) (fun c21 => ?_)
  · skip
    have q : ¬ turned s := fun h => h.elim (fun h => c9 ((lg_cmp_gt _ _).mpr h)) (fun h => c21 ((lg_cmp_eq _ _).mpr h.1))
    refine k_iconst C (x := 0) rfl rfl rfl ?_
    exact k_iret C rfl (Or.inr ⟨rfl, by first | exact Or.inl rfl | exact Or.inr rfl⟩) (Nat.le_of_ble_eq_true rfl) (Nat.le_of_ble_eq_true rfl) ⟨_, _, _, rfl, rfl, ⟨by first | exact (if_pos q).symm | exact (if_neg q).symm, rfl, rfl⟩⟩
  have e21 := (lg_cmp_eq _ _).mp (Decidable.not_not.mp c21)
  refine k_aload_n C rfl rfl rfl ?_
  refine g_L C rfl rfl rfl T_m rfl (J_m_31) ?_
  refine k_lconst C (x := 0) rfl rfl rfl ?_
  refine k_lcmp C rfl rfl ?_
  refine k_if_ge C (t := 37) rfl rfl rfl (fun c30 => ?_) (fun c30 => ?_)
  · skip
    have q : ¬ turned s := fun h => h.elim (fun h => c9 ((lg_cmp_gt _ _).mpr h)) (fun h => absurd ((lg_cmp_lt _ _).mpr h.2) (Int32.not_lt.mpr c30))
    refine k_iconst C (x := 0) rfl rfl rfl ?_
    exact k_iret C rfl (Or.inr ⟨rfl, by first | exact Or.inl rfl | exact Or.inr rfl⟩) (Nat.le_of_ble_eq_true rfl) (Nat.le_of_ble_eq_true rfl) ⟨_, _, _, rfl, rfl, ⟨by first | exact (if_pos q).symm | exact (if_neg q).symm, rfl, rfl⟩⟩
  have q : turned s := Or.inr ⟨e21, (lg_cmp_lt _ _).mp (Int32.not_le.mp c30)⟩
  refine k_iconst C (x := 1) rfl rfl rfl ?_
  refine k_goto C (pc2 := 38) rfl rfl ?_
  exact k_iret C rfl (Or.inr ⟨rfl, by first | exact Or.inl rfl | exact Or.inr rfl⟩) (Nat.le_of_ble_eq_true rfl) (Nat.le_of_ble_eq_true rfl) ⟨_, _, _, rfl, rfl, ⟨by first | exact (if_pos q).symm | exact (if_neg q).symm, rfl, rfl⟩⟩

theorem e_m_joins {d : Nat} {T N : Nat → Nat} {I : IT} {L : LT} {R : RT} {A : Nat → Prop} {m wl : Nat} {p q r t : Int64}{s : S8} (T_m : T m = 13) (A_m : A m) (R_m_34 : R m 34 = some wl) (T_wl : T wl = 21) (N_wl : N wl = 4) (A_wl : A wl) (J_wl_0 : L wl 0 = s 4) (J_wl_1 : L wl 1 = s 5) (J_wl_2 : L wl 2 = s 6) (J_wl_3 : L wl 3 = s 7) (J_m_33 : L m 33 = s 3) : Ex (d + 1) 297 [.ref m, .long p, .long q, .long r, .long t] (T, N, I, L, R) 0 0 (pV T N R (fun I9 L9 => I9 = I ∧ Fr A I L I9 L9 ∧ L9 wl 0 = s 4 * p + s 5 * r ∧ L9 wl 1 = s 4 * q + s 5 * t ∧ L9 wl 2 = s 6 * p + s 7 * r ∧ L9 wl 3 = s 6 * q + s 7 * t ∧ L9 m 33 = s 3 + 1 ∧ ∀ k, k ≠ 33 → L9 m k = L m k)) := by
  refine ⟨_, rfl, Nat.le_of_ble_eq_true rfl, fun V C S => ?_⟩
  show V 0 [(0, .ref m), (1, .long p), (3, .long q), (5, .long r), (7, .long t)] [] (T, N, I, L, R) 0 0
  have hmw : m ≠ wl := t_nq T_m T_wl (by decide)
  refine k_aload_n C rfl rfl rfl ?_
  refine g_R C rfl rfl rfl T_m rfl R_m_34 ?_
  refine k_iconst C (x := 0) rfl rfl rfl ?_
  refine a_L C rfl rfl T_wl (vin (n := 0) rfl (by rw [N_wl]; exact Nat.le_of_ble_eq_true rfl) (by rw [N_wl]; exact Nat.le_of_ble_eq_true rfl)) J_wl_0 ?_
  refine k_lstore C (lw := [(9, .long _), (0, _), (1, .long _), (3, .long _), (5, .long _), (7, .long _)]) rfl rfl (Nat.le_of_ble_eq_true rfl) rfl ?_
  refine k_aload_n C rfl rfl rfl ?_
  refine g_R C rfl rfl rfl T_m rfl R_m_34 ?_
  refine k_iconst C (x := 1) rfl rfl rfl ?_
  refine a_L C rfl rfl T_wl (vin (n := 1) rfl (by rw [N_wl]; exact Nat.le_of_ble_eq_true rfl) (by rw [N_wl]; exact Nat.le_of_ble_eq_true rfl)) J_wl_1 ?_
  refine k_lstore C (lw := [(11, .long _), (9, .long _), (0, _), (1, .long _), (3, .long _), (5, .long _), (7, .long _)]) rfl rfl (Nat.le_of_ble_eq_true rfl) rfl ?_
  refine k_aload_n C rfl rfl rfl ?_
  refine g_R C rfl rfl rfl T_m rfl R_m_34 ?_
  refine k_iconst C (x := 2) rfl rfl rfl ?_
  refine a_L C rfl rfl T_wl (vin (n := 2) rfl (by rw [N_wl]; exact Nat.le_of_ble_eq_true rfl) (by rw [N_wl]; exact Nat.le_of_ble_eq_true rfl)) J_wl_2 ?_
  refine k_lstore C (lw := [(13, .long _), (11, .long _), (9, .long _), (0, _), (1, .long _), (3, .long _), (5, .long _), (7, .long _)]) rfl rfl (Nat.le_of_ble_eq_true rfl) rfl ?_
  refine k_aload_n C rfl rfl rfl ?_
  refine g_R C rfl rfl rfl T_m rfl R_m_34 ?_
  refine k_iconst C (x := 3) rfl rfl rfl ?_
  refine a_L C rfl rfl T_wl (vin (n := 3) rfl (by rw [N_wl]; exact Nat.le_of_ble_eq_true rfl) (by rw [N_wl]; exact Nat.le_of_ble_eq_true rfl)) J_wl_3 ?_
  refine k_lstore C (lw := [(15, .long _), (13, .long _), (11, .long _), (9, .long _), (0, _), (1, .long _), (3, .long _), (5, .long _), (7, .long _)]) rfl rfl (Nat.le_of_ble_eq_true rfl) rfl ?_
  refine k_aload_n C rfl rfl rfl ?_
  refine g_R C rfl rfl rfl T_m rfl R_m_34 ?_
  refine k_iconst C (x := 0) rfl rfl rfl ?_
  refine k_lload C rfl rfl rfl ?_
  refine k_lload_n C rfl rfl rfl ?_
  refine k_lmul C rfl rfl ?_
  refine k_lload C rfl rfl rfl ?_
  refine k_lload C rfl rfl rfl ?_
  refine k_lmul C rfl rfl ?_
  refine k_ladd C rfl rfl ?_
  refine s_L C rfl rfl T_wl (vin (n := 0) rfl (by rw [N_wl]; exact Nat.le_of_ble_eq_true rfl) (by rw [N_wl]; exact Nat.le_of_ble_eq_true rfl)) (show (0 : Int32).toNatClampNeg = 0 from by decide) ?_
  refine k_aload_n C rfl rfl rfl ?_
  refine g_R C rfl rfl rfl T_m rfl R_m_34 ?_
  refine k_iconst C (x := 1) rfl rfl rfl ?_
  refine k_lload C rfl rfl rfl ?_
  refine k_lload_n C rfl rfl rfl ?_
  refine k_lmul C rfl rfl ?_
  refine k_lload C rfl rfl rfl ?_
  refine k_lload C rfl rfl rfl ?_
  refine k_lmul C rfl rfl ?_
  refine k_ladd C rfl rfl ?_
  refine s_L C rfl rfl T_wl (vin (n := 1) rfl (by rw [N_wl]; exact Nat.le_of_ble_eq_true rfl) (by rw [N_wl]; exact Nat.le_of_ble_eq_true rfl)) (show (1 : Int32).toNatClampNeg = 1 from by decide) ?_
  refine k_aload_n C rfl rfl rfl ?_
  refine g_R C rfl rfl rfl T_m rfl R_m_34 ?_
  refine k_iconst C (x := 2) rfl rfl rfl ?_
  refine k_lload C rfl rfl rfl ?_
  refine k_lload_n C rfl rfl rfl ?_
  refine k_lmul C rfl rfl ?_
  refine k_lload C rfl rfl rfl ?_
  refine k_lload C rfl rfl rfl ?_
  refine k_lmul C rfl rfl ?_
  refine k_ladd C rfl rfl ?_
  refine s_L C rfl rfl T_wl (vin (n := 2) rfl (by rw [N_wl]; exact Nat.le_of_ble_eq_true rfl) (by rw [N_wl]; exact Nat.le_of_ble_eq_true rfl)) (show (2 : Int32).toNatClampNeg = 2 from by decide) ?_
  refine k_aload_n C rfl rfl rfl ?_
  refine g_R C rfl rfl rfl T_m rfl R_m_34 ?_
  refine k_iconst C (x := 3) rfl rfl rfl ?_
  refine k_lload C rfl rfl rfl ?_
  refine k_lload_n C rfl rfl rfl ?_
  refine k_lmul C rfl rfl ?_
  refine k_lload C rfl rfl rfl ?_
  refine k_lload C rfl rfl rfl ?_
  refine k_lmul C rfl rfl ?_
  refine k_ladd C rfl rfl ?_
  refine s_L C rfl rfl T_wl (vin (n := 3) rfl (by rw [N_wl]; exact Nat.le_of_ble_eq_true rfl) (by rw [N_wl]; exact Nat.le_of_ble_eq_true rfl)) (show (3 : Int32).toNatClampNeg = 3 from by decide) ?_
  refine k_aload_n C rfl rfl rfl ?_
  refine k_dup C rfl rfl rfl ?_
  refine g_L C rfl rfl rfl T_m rfl ((u2_a (t_nq T_m T_wl (by decide))).trans ((u2_a (t_nq T_m T_wl (by decide))).trans ((u2_a (t_nq T_m T_wl (by decide))).trans ((u2_a (t_nq T_m T_wl (by decide))).trans (J_m_33))))) ?_
  refine k_lconst C (x := 1) rfl rfl rfl ?_
  refine k_ladd C rfl rfl ?_
  refine p_L C rfl rfl rfl T_m (Or.inr rfl) rfl ?_
  exact k_vret C rfl rfl (Nat.le_of_ble_eq_true rfl) (Nat.le_of_ble_eq_true rfl) ⟨_, _, rfl, rfl, ⟨rfl, (Fr.l (Fr.l (Fr.l (Fr.l (Fr.l Fr.rf A_wl) A_wl) A_wl) A_wl) A_m), (u2_a (t_nq T_wl T_m (by decide))).trans ((u2_k (by decide)).trans ((u2_k (by decide)).trans ((u2_k (by decide)).trans (u2_s)))), (u2_a (t_nq T_wl T_m (by decide))).trans ((u2_k (by decide)).trans ((u2_k (by decide)).trans (u2_s))), (u2_a (t_nq T_wl T_m (by decide))).trans ((u2_k (by decide)).trans (u2_s)), (u2_a (t_nq T_wl T_m (by decide))).trans (u2_s), u2_s, fun k hk => (u2_k hk).trans ((u2_a hmw).trans ((u2_a hmw).trans ((u2_a hmw).trans (u2_a hmw))))⟩⟩

def smM (L : LT) (m wl : Nat) (s : S8) : Prop := L m 30 = s 0 ∧ L m 31 = s 1 ∧ L m 32 = s 2 ∧ L m 33 = s 3 ∧ L wl 0 = s 4 ∧ L wl 1 = s 5 ∧ L wl 2 = s 6 ∧ L wl 3 = s 7
theorem m_red_loop {d : Nat} {V : V_T} {q : mm_T} {Post : Po} {T N : Nat → Nat} {R : RT} {A : Nat → Prop} {I : IT} {L : LT} {m wl : Nat} (hq : P_mq 300 = some q) (C : Cl (d + 1) q 0 0 Post V) (S : SB V) (T_m : T m = 13) (A_m : A m) (R_m_34 : R m 34 = some wl) (T_wl : T wl = 21) (N_wl : N wl = 4) (A_wl : A wl) {K : Int} (hK : 0 < K ∧ K ≤ 4000000) : ∀ (n : Nat) (L1 : LT) (s : S8), JJ K s → (red s ∨ (s 0).toInt ≤ n) → Fr A I L I L1 → smM L1 m wl s → (∀ L2, Fr A I L I L2 → smM L2 m wl (run (n + 1) s) → V 173 [(0, .ref m)] [] (T, N, I, L2, R) 0 0) → V 33 [(0, .ref m)] [] (T, N, I, L1, R) 0 0 := by
  cases hq
  have chk : ∀ (L1 : LT) (s : S8), smM L1 m wl s → (red s → V 173 [(0, .ref m)] [] (T, N, I, L1, R) 0 0) → (¬ red s → V 47 [(0, .ref m)] [] (T, N, I, L1, R) 0 0) → V 33 [(0, .ref m)] [] (T, N, I, L1, R) 0 0 := by
    intro L1 s hs k1 k2
    obtain ⟨J_m_30, J_m_31, J_m_32, J_m_33, J_wl_0, J_wl_1, J_wl_2, J_wl_3⟩ := hs
    refine k_aload_n C rfl rfl rfl ?_
    refine c_VI C (e_m_isWide (s := s) T_m J_m_30 J_m_31) rfl rfl rfl rfl rfl ⟨_, rfl, rfl, T_m, Nat.le_of_ble_eq_true rfl⟩ rfl rfl (Nat.le_of_ble_eq_true rfl) (Nat.le_of_ble_eq_true rfl) (Nat.le_of_ble_eq_true rfl) ?_
    rintro _ _ _ ⟨hx7, hI8, hL9⟩
    have hx7 := hx7.symm; subst hx7
    have hI8 := hI8.symm; subst hI8; have hL9 := hL9.symm; subst hL9
    refine k_if_ne C (t := 47) rfl rfl rfl (fun c => ?_) (fun c => ?_)
    · exact k2 (fun h => c (if_neg h.1))
    · have hw : ¬ wide s := fun h => by rw [if_pos h] at c; exact absurd (by decide) c
      refine k_aload_n C rfl rfl rfl ?_
      refine c_VI C (e_m_isTurned (s := s) T_m J_m_30 J_m_31 J_m_32) rfl rfl rfl rfl rfl ⟨_, rfl, rfl, T_m, Nat.le_of_ble_eq_true rfl⟩ rfl rfl (Nat.le_of_ble_eq_true rfl) (Nat.le_of_ble_eq_true rfl) (Nat.le_of_ble_eq_true rfl) ?_
      rintro _ _ _ ⟨hx7, hI8, hL9⟩
      have hx7 := hx7.symm; subst hx7
      have hI8 := hI8.symm; subst hI8; have hL9 := hL9.symm; subst hL9
      refine k_if_eq C (t := 173) rfl rfl rfl (fun c2 => ?_) (fun c2 => ?_)
      · exact k1 ⟨hw, fun h => by rw [if_pos h] at c2; exact absurd c2 (by decide)⟩
      · exact k2 (fun h => c2 (if_neg h.2))
  intro n
  induction n with
  | zero =>
    intro L1 s hJ hd hF hs Kk
    have hr : red s := hd.elim id (fun h => absurd h (by have := hJ.1; omega))
    exact chk L1 s hs (fun _ => Kk L1 hF (by rw [run_done hr]; exact hs)) (fun h => absurd hr h)
  | succ n ih =>
    intro L1 s hJ hd hF hs Kk
    refine chk L1 s hs (fun hr => Kk L1 hF (by rw [run_done hr]; exact hs)) (fun hnr => ?_)
    obtain ⟨j1, j2, j3⟩ := stp_int hK hJ hnr
    have K33 : ∀ (L2 : LT), Fr A I L I L2 → smM L2 m wl (sw1 (sh1 s)) → V 33 [(0, .ref m)] [] (T, N, I, L2, R) 0 0 := by
      intro L2 hF2 hs2
      have hA := hd.resolve_left hnr
      exact ih L2 _ j2 (j3.elim Or.inl (fun h => Or.inr (by omega))) hF2 hs2 (fun L3 hF3 hs3 => Kk L3 hF3 (by rw [run_step hnr]; exact hs3))
    have K126 : ∀ (L2 : LT), Fr A I L I L2 → smM L2 m wl (sh1 s) → V 126 [(0, .ref m)] [] (T, N, I, L2, R) 0 0 := by
      intro L2 hF2 hs2
      generalize sh1 s = u at j1 j2 j3 hs2 K33
      have hs3 := hs2
      obtain ⟨J_m_30, J_m_31, J_m_32, J_m_33, J_wl_0, J_wl_1, J_wl_2, J_wl_3⟩ := hs2
      refine k_aload_n C rfl rfl rfl ?_
      refine c_VI C (e_m_isTurned (s := u) T_m J_m_30 J_m_31 J_m_32) rfl rfl rfl rfl rfl ⟨_, rfl, rfl, T_m, Nat.le_of_ble_eq_true rfl⟩ rfl rfl (Nat.le_of_ble_eq_true rfl) (Nat.le_of_ble_eq_true rfl) (Nat.le_of_ble_eq_true rfl) ?_
      rintro _ _ _ ⟨hx7, hI8, hL9⟩
      have hx7 := hx7.symm; subst hx7
      have hI8 := hI8.symm; subst hI8; have hL9 := hL9.symm; subst hL9
      refine k_if_eq C (t := 33) rfl rfl rfl (fun c2 => ?_) (fun c2 => ?_)
      · have ht : ¬ turned u := fun h => by rw [if_pos h] at c2; exact absurd c2 (by decide)
        exact K33 _ hF2 (by rw [sw1_n ht]; exact hs3)
      · have ht : turned u := Classical.byContradiction (fun h => c2 (if_neg h))
        refine k_aload_n C rfl rfl rfl ?_
        refine g_L C rfl rfl rfl T_m rfl (J_m_30) ?_
        refine k_lstore_n C (lw := [(1, .long _), (0, _)]) rfl rfl (Nat.le_of_ble_eq_true rfl) rfl ?_
        refine k_aload_n C rfl rfl rfl ?_
        refine k_aload_n C rfl rfl rfl ?_
        refine g_L C rfl rfl rfl T_m rfl (J_m_32) ?_
        refine p_L C rfl rfl rfl T_m (Or.inr rfl) rfl ?_
        refine k_aload_n C rfl rfl rfl ?_
        refine k_lload_n C rfl rfl rfl ?_
        refine p_L C rfl rfl rfl T_m (Or.inr rfl) rfl ?_
        refine k_aload_n C rfl rfl rfl ?_
        refine k_aload_n C rfl rfl rfl ?_
        refine g_L C rfl rfl rfl T_m rfl ((u2_k (by decide)).trans ((u2_k (by decide)).trans (J_m_31))) ?_
        refine k_lneg C rfl rfl ?_
        refine p_L C rfl rfl rfl T_m (Or.inr rfl) rfl ?_
        refine k_aload_n C rfl rfl rfl ?_
        refine k_lconst C (x := 0) rfl rfl rfl ?_
        refine k_ldc2_w C rfl rfl rfl ?_
        refine k_lconst C (x := 1) rfl rfl rfl ?_
        refine k_lconst C (x := 0) rfl rfl rfl ?_
        refine c_VV C (e_m_joins T_m A_m R_m_34 T_wl N_wl A_wl ((u2_a (t_nq T_wl T_m (by decide))).trans ((u2_a (t_nq T_wl T_m (by decide))).trans ((u2_a (t_nq T_wl T_m (by decide))).trans (J_wl_0)))) ((u2_a (t_nq T_wl T_m (by decide))).trans ((u2_a (t_nq T_wl T_m (by decide))).trans ((u2_a (t_nq T_wl T_m (by decide))).trans (J_wl_1)))) ((u2_a (t_nq T_wl T_m (by decide))).trans ((u2_a (t_nq T_wl T_m (by decide))).trans ((u2_a (t_nq T_wl T_m (by decide))).trans (J_wl_2)))) ((u2_a (t_nq T_wl T_m (by decide))).trans ((u2_a (t_nq T_wl T_m (by decide))).trans ((u2_a (t_nq T_wl T_m (by decide))).trans (J_wl_3)))) ((u2_k (by decide)).trans ((u2_k (by decide)).trans ((u2_k (by decide)).trans (J_m_33)))) (s := u)) rfl rfl rfl rfl rfl ⟨_, rfl, rfl, T_m, Nat.le_of_ble_eq_true rfl⟩ rfl rfl (Nat.le_of_ble_eq_true rfl) (Nat.le_of_ble_eq_true rfl) (Nat.le_of_ble_eq_true rfl) ?_
        rintro I4 L4 ⟨hI8, hF9, w0, w1, w2, w3, w4, w5⟩
        have hI8 := hI8.symm; subst hI8
        refine k_goto C (pc2 := 33) rfl rfl ?_
        refine k_sub S [(0, .ref m)] (List.forall_mem_cons.mpr ⟨List.mem_of_getElem? (i := 1) rfl, fun _ h => nomatch h⟩) ?_
        refine K33 L4 (Fr.tr (Fr.l (Fr.l (Fr.l hF2 A_m) A_m) A_m) hF9) ?_
        rw [sw1_y ht]
        exact ⟨(w5 30 (by decide)).trans ((u2_k (by decide)).trans ((u2_k (by decide)).trans u2_s)), (w5 31 (by decide)).trans u2_s, (w5 32 (by decide)).trans ((u2_k (by decide)).trans u2_s), w4, w0.trans (s0_ring _ _), w1.trans (s1_ring _ _), w2.trans (s0_ring _ _), w3.trans (s1_ring _ _)⟩
    have hs3 := hs
    obtain ⟨J_m_30, J_m_31, J_m_32, J_m_33, J_wl_0, J_wl_1, J_wl_2, J_wl_3⟩ := hs
    refine k_aload_n C rfl rfl rfl ?_
    refine c_VI C (e_m_isWide (s := s) T_m J_m_30 J_m_31) rfl rfl rfl rfl rfl ⟨_, rfl, rfl, T_m, Nat.le_of_ble_eq_true rfl⟩ rfl rfl (Nat.le_of_ble_eq_true rfl) (Nat.le_of_ble_eq_true rfl) (Nat.le_of_ble_eq_true rfl) ?_
    rintro _ _ _ ⟨hx7, hI8, hL9⟩
    have hx7 := hx7.symm; subst hx7
    have hI8 := hI8.symm; subst hI8; have hL9 := hL9.symm; subst hL9
    refine k_if_eq C (t := 126) rfl rfl rfl (fun c => ?_) (fun c => ?_)
    · have hw : ¬ wide s := fun h => by rw [if_pos h] at c; exact absurd c (by decide)
      exact K126 _ hF (by rw [sh1_n hw]; exact hs3)
    · have hw : wide s := Classical.byContradiction (fun h => c (if_neg h))
      refine k_aload_n C rfl rfl rfl ?_
      refine g_L C rfl rfl rfl T_m rfl (J_m_30) ?_
      refine k_aload_n C rfl rfl rfl ?_
      refine g_L C rfl rfl rfl T_m rfl (J_m_31) ?_
      refine k_lsub C rfl rfl ?_
      refine k_ldc2_w C rfl rfl rfl ?_
      refine k_aload_n C rfl rfl rfl ?_
      refine g_L C rfl rfl rfl T_m rfl (J_m_30) ?_
      refine k_lmul C rfl rfl ?_
      refine c_SL C (e_fdL  (by rw [two_mul_int (by have := hJ.1; omega)]; have := hJ.1; omega)) rfl rfl rfl rfl rfl rfl rfl (Nat.le_of_ble_eq_true rfl) (Nat.le_of_ble_eq_true rfl) (Nat.le_of_ble_eq_true rfl) ?_
      rintro x71 _ _ ⟨hI8, hL9, h71⟩
      have hI8 := hI8.symm; subst hI8; have hL9 := hL9.symm; subst hL9
      have e71 : x71 = nOf s := by unfold nOf; rw [← h71, Int64.ofInt_toInt]
      subst e71
      refine k_lstore_n C (lw := [(1, .long _), (0, _)]) rfl rfl (Nat.le_of_ble_eq_true rfl) rfl ?_
      refine k_aload_n C rfl rfl rfl ?_
      refine k_aload_n C rfl rfl rfl ?_
      refine g_L C rfl rfl rfl T_m rfl (J_m_30) ?_
      refine k_lload_n C rfl rfl rfl ?_
      refine k_lmul C rfl rfl ?_
      refine k_lload_n C rfl rfl rfl ?_
      refine k_lmul C rfl rfl ?_
      refine k_aload_n C rfl rfl rfl ?_
      refine g_L C rfl rfl rfl T_m rfl (J_m_31) ?_
      refine k_lload_n C rfl rfl rfl ?_
      refine k_lmul C rfl rfl ?_
      refine k_ladd C rfl rfl ?_
      refine k_aload_n C rfl rfl rfl ?_
      refine g_L C rfl rfl rfl T_m rfl (J_m_32) ?_
      refine k_ladd C rfl rfl ?_
      refine p_L C rfl rfl rfl T_m (Or.inr rfl) rfl ?_
      refine k_aload_n C rfl rfl rfl ?_
      refine k_dup C rfl rfl rfl ?_
      refine g_L C rfl rfl rfl T_m rfl ((u2_k (by decide)).trans (J_m_31)) ?_
      refine k_ldc2_w C rfl rfl rfl ?_
      refine k_aload_n C rfl rfl rfl ?_
      refine g_L C rfl rfl rfl T_m rfl ((u2_k (by decide)).trans (J_m_30)) ?_
      refine k_lmul C rfl rfl ?_
      refine k_lload_n C rfl rfl rfl ?_
      refine k_lmul C rfl rfl ?_
      refine k_ladd C rfl rfl ?_
      refine p_L C rfl rfl rfl T_m (Or.inr rfl) rfl ?_
      refine k_aload_n C rfl rfl rfl ?_
      refine k_lconst C (x := 1) rfl rfl rfl ?_
      refine k_lload_n C rfl rfl rfl ?_
      refine k_lconst C (x := 0) rfl rfl rfl ?_
      refine k_lconst C (x := 1) rfl rfl rfl ?_
      refine c_VV C (e_m_joins T_m A_m R_m_34 T_wl N_wl A_wl ((u2_a (t_nq T_wl T_m (by decide))).trans ((u2_a (t_nq T_wl T_m (by decide))).trans (J_wl_0))) ((u2_a (t_nq T_wl T_m (by decide))).trans ((u2_a (t_nq T_wl T_m (by decide))).trans (J_wl_1))) ((u2_a (t_nq T_wl T_m (by decide))).trans ((u2_a (t_nq T_wl T_m (by decide))).trans (J_wl_2))) ((u2_a (t_nq T_wl T_m (by decide))).trans ((u2_a (t_nq T_wl T_m (by decide))).trans (J_wl_3))) ((u2_k (by decide)).trans ((u2_k (by decide)).trans (J_m_33))) (s := s)) rfl rfl rfl rfl rfl ⟨_, rfl, rfl, T_m, Nat.le_of_ble_eq_true rfl⟩ rfl rfl (Nat.le_of_ble_eq_true rfl) (Nat.le_of_ble_eq_true rfl) (Nat.le_of_ble_eq_true rfl) ?_
      rintro I3 L3 ⟨hI8, hF9, w0, w1, w2, w3, w4, w5⟩
      have hI8 := hI8.symm; subst hI8
      have hF2 : Fr A I L I L3 := Fr.tr (Fr.l (Fr.l hF A_m) A_m) hF9
      have hs2 : smM L3 m wl (sh1 s) := by
        rw [sh1_y hw]
        refine ⟨(w5 30 (by decide)).trans ((u2_k (by decide)).trans ((u2_k (by decide)).trans J_m_30)), (w5 31 (by decide)).trans u2_s, (w5 32 (by decide)).trans ((u2_k (by decide)).trans (u2_s.trans (c_ring _ _ _ _))), w4, w0.trans (j0_ring _ _), w1.trans (j1_ring _ _ _), w2.trans (j0_ring _ _), w3.trans (j1_ring _ _ _)⟩
      refine k_sub S [(0, .ref m)] (List.forall_mem_cons.mpr ⟨List.mem_of_getElem? (i := 1) rfl, fun _ h => nomatch h⟩) ?_
      exact K126 _ hF2 hs2
theorem e_m_reduces {d : Nat} {T N : Nat → Nat} {I : IT} {L : LT} {R : RT} {A : Nat → Prop} {m wl : Nat}{s : S8} (T_m : T m = 13) (A_m : A m) (R_m_34 : R m 34 = some wl) (T_wl : T wl = 21) (N_wl : N wl = 4) (A_wl : A wl) (J_m_30 : L m 30 = s 0) (J_m_31 : L m 31 = s 1) (J_m_32 : L m 32 = s 2) {K : Int} (hK : 0 < K ∧ K ≤ 4000000) (hJ : JJ K s) (h3 : s 3 = 0) (h4 : s 4 = 1) (h5 : s 5 = 0) (h6 : s 6 = 0) (h7 : s 7 = 1) : Ex (d + 2) 300 [.ref m] (T, N, I, L, R) 0 0 (pV T N R (fun I9 L9 => I9 = I ∧ Fr A I L I9 L9 ∧ smM L9 m wl (run 1000 s))) := by
  refine ⟨_, rfl, Nat.le_of_ble_eq_true rfl, fun V C S => ?_⟩
  show V 0 [(0, .ref m)] [] (T, N, I, L, R) 0 0
  refine k_aload_n C rfl rfl rfl ?_
  refine k_lconst C (x := 0) rfl rfl rfl ?_
  refine p_L C rfl rfl rfl T_m (Or.inr rfl) rfl ?_
  refine k_aload_n C rfl rfl rfl ?_
  refine g_R C rfl rfl rfl T_m rfl R_m_34 ?_
  refine k_iconst C (x := 0) rfl rfl rfl ?_
  refine k_lconst C (x := 1) rfl rfl rfl ?_
  refine s_L C rfl rfl T_wl (vin (n := 0) rfl (by rw [N_wl]; exact Nat.le_of_ble_eq_true rfl) (by rw [N_wl]; exact Nat.le_of_ble_eq_true rfl)) (show (0 : Int32).toNatClampNeg = 0 from by decide) ?_
  refine k_aload_n C rfl rfl rfl ?_
  refine g_R C rfl rfl rfl T_m rfl R_m_34 ?_
  refine k_iconst C (x := 1) rfl rfl rfl ?_
  refine k_lconst C (x := 0) rfl rfl rfl ?_
  refine s_L C rfl rfl T_wl (vin (n := 1) rfl (by rw [N_wl]; exact Nat.le_of_ble_eq_true rfl) (by rw [N_wl]; exact Nat.le_of_ble_eq_true rfl)) (show (1 : Int32).toNatClampNeg = 1 from by decide) ?_
  refine k_aload_n C rfl rfl rfl ?_
  refine g_R C rfl rfl rfl T_m rfl R_m_34 ?_
  refine k_iconst C (x := 2) rfl rfl rfl ?_
  refine k_lconst C (x := 0) rfl rfl rfl ?_
  refine s_L C rfl rfl T_wl (vin (n := 2) rfl (by rw [N_wl]; exact Nat.le_of_ble_eq_true rfl) (by rw [N_wl]; exact Nat.le_of_ble_eq_true rfl)) (show (2 : Int32).toNatClampNeg = 2 from by decide) ?_
  refine k_aload_n C rfl rfl rfl ?_
  refine g_R C rfl rfl rfl T_m rfl R_m_34 ?_
  refine k_iconst C (x := 3) rfl rfl rfl ?_
  refine k_lconst C (x := 1) rfl rfl rfl ?_
  refine s_L C rfl rfl T_wl (vin (n := 3) rfl (by rw [N_wl]; exact Nat.le_of_ble_eq_true rfl) (by rw [N_wl]; exact Nat.le_of_ble_eq_true rfl)) (show (3 : Int32).toNatClampNeg = 3 from by decide) ?_
  refine m_red_loop rfl C S T_m A_m R_m_34 T_wl N_wl A_wl hK 999 _ s hJ (Or.inr (by have := hJ.1; omega)) (Fr.l (Fr.l (Fr.l (Fr.l (Fr.l Fr.rf A_m) A_wl) A_wl) A_wl) A_wl) ⟨(u2_a (t_nq T_m T_wl (by decide))).trans ((u2_a (t_nq T_m T_wl (by decide))).trans ((u2_a (t_nq T_m T_wl (by decide))).trans ((u2_a (t_nq T_m T_wl (by decide))).trans ((u2_k (by decide)).trans (J_m_30))))), (u2_a (t_nq T_m T_wl (by decide))).trans ((u2_a (t_nq T_m T_wl (by decide))).trans ((u2_a (t_nq T_m T_wl (by decide))).trans ((u2_a (t_nq T_m T_wl (by decide))).trans ((u2_k (by decide)).trans (J_m_31))))), (u2_a (t_nq T_m T_wl (by decide))).trans ((u2_a (t_nq T_m T_wl (by decide))).trans ((u2_a (t_nq T_m T_wl (by decide))).trans ((u2_a (t_nq T_m T_wl (by decide))).trans ((u2_k (by decide)).trans (J_m_32))))), ((u2_a (t_nq T_m T_wl (by decide))).trans ((u2_a (t_nq T_m T_wl (by decide))).trans ((u2_a (t_nq T_m T_wl (by decide))).trans ((u2_a (t_nq T_m T_wl (by decide))).trans (u2_s))))).trans h3.symm, ((u2_k (by decide)).trans ((u2_k (by decide)).trans ((u2_k (by decide)).trans (u2_s)))).trans h4.symm, ((u2_k (by decide)).trans ((u2_k (by decide)).trans (u2_s))).trans h5.symm, ((u2_k (by decide)).trans (u2_s)).trans h6.symm, (u2_s).trans h7.symm⟩ (fun L2 hF2 hs2 => ?_)
  exact k_vret C rfl rfl (Nat.le_of_ble_eq_true rfl) (Nat.le_of_ble_eq_true rfl) ⟨_, _, rfl, rfl, rfl, hF2, hs2⟩
end
-- 39.37.red.lean.txt
section
/-! reduced, the calls -/
theorem disc32 {a b c : Int32} (h1 : -999 ≤ a.toInt ∧ a.toInt ≤ 999) (h2 : -999 ≤ b.toInt ∧ b.toInt ≤ 999) (h3 : -999 ≤ c.toInt ∧ c.toInt ≤ 999) : (b * b - 4 * a * c).toInt = b.toInt * b.toInt - 4 * (a.toInt * c.toInt) := by
  have m1 := bdm h2 h2
  have m2 := bdm (x := 4 * a.toInt) (X := 4000) (by omega) h3
  have m3 := bdm h1 h3
  have e1 := ii_mul (x := b) (y := b) (by omega)
  have e4 : (4 : Int32).toInt = 4 := rfl
  have e2 : (4 * a).toInt = 4 * a.toInt := by rw [ii_mul (by rw [e4]; omega), e4]
  have e3 : (4 * a * c).toInt = 4 * a.toInt * c.toInt := by rw [ii_mul (by rw [e2]; omega), e2]
  rw [ii_sub (by rw [e1, e3, Int.mul_assoc]; omega), e1, e3, Int.mul_assoc]
theorem disc64 {a b c : Int32} (h1 : -999 ≤ a.toInt ∧ a.toInt ≤ 999) (h2 : -999 ≤ b.toInt ∧ b.toInt ≤ 999) (h3 : -999 ≤ c.toInt ∧ c.toInt ≤ 999) : lg_cmp (b.toInt64 * b.toInt64) (4 * a.toInt64 * c.toInt64) < 0 ↔ b.toInt * b.toInt - 4 * (a.toInt * c.toInt) < 0 := by
  have m1 := bdm h2 h2
  have m2 := bdm (x := 4 * a.toInt) (X := 4000) (by omega) h3
  have m3 := bdm h1 h3
  have e1 : (b.toInt64 * b.toInt64).toInt = b.toInt * b.toInt := by rw [li_mul (by rw [i2l_eq]; omega), i2l_eq]
  have e4 : (4 : Int64).toInt = 4 := rfl
  have e2 : (4 * a.toInt64).toInt = 4 * a.toInt := by rw [li_mul (by rw [e4, i2l_eq]; omega), e4, i2l_eq]
  have e3 : (4 * a.toInt64 * c.toInt64).toInt = 4 * a.toInt * c.toInt := by rw [li_mul (by rw [e2, i2l_eq]; omega), e2, i2l_eq]
  rw [lg_cmp_lt, l_lt, e1, e3, Int.mul_assoc]; omega
theorem wh_i {v : Int32} : (-(999 : Int32) ≤ v ∧ v ≤ 999) ↔ (-999 ≤ v.toInt ∧ v.toInt ≤ 999) := by
  rw [i_le, i_le]; exact Iff.rfl
theorem e_reduced_no {d : Nat} {T N : Nat → Nat} {I : IT} {L : LT} {R : RT} {x : Nat} {a b c n : Int32} (T_x : T x = 12) (h : ¬ okRed a b c) : Ex (d + 2) 168 [.ref x, .int a, .int b, .int c, .int n] (T, N, I, L, R) 1 6 (pX 0 T N R (fun I9 L9 => I9 = I ∧ L9 = L)) := by
  refine ⟨_, rfl, Nat.le_of_ble_eq_true rfl, fun V C S => ?_⟩
  show V 0 [(0, .ref x), (1, .int a), (2, .int b), (3, .int c), (4, .int n)] [] (T, N, I, L, R) 0 0
  refine k_iload_n C rfl rfl rfl ?_
  refine k_sipush C (x := 999) rfl rfl rfl ?_
  refine c_SI C e_isWhole rfl rfl rfl rfl rfl rfl rfl (Nat.le_of_ble_eq_true rfl) (Nat.le_of_ble_eq_true rfl) (Nat.le_of_ble_eq_true rfl) ?_
  rintro _ _ _ ⟨hx7, hI8, hL9⟩
  have hx7 := hx7.symm; subst hx7
  have hI8 := hI8.symm; subst hI8; have hL9 := hL9.symm; subst hL9
  refine k_if_eq C (t := 30) rfl rfl rfl (fun c7 => ?_) (fun c7 => ?_)
  · skip
    exact k_throw C rfl rfl rfl rfl rfl rfl (Nat.le_of_ble_eq_true rfl) (Nat.le_of_ble_eq_true rfl) (Nat.le_of_ble_eq_true rfl) ⟨_, _, rfl, rfl, ⟨rfl, rfl⟩⟩
  have q1 := wh_i.mp (inY c7)
  refine k_iload_n C rfl rfl rfl ?_
  refine k_sipush C (x := 999) rfl rfl rfl ?_
  refine c_SI C e_isWhole rfl rfl rfl rfl rfl rfl rfl (Nat.le_of_ble_eq_true rfl) (Nat.le_of_ble_eq_true rfl) (Nat.le_of_ble_eq_true rfl) ?_
  rintro _ _ _ ⟨hx7, hI8, hL9⟩
  have hx7 := hx7.symm; subst hx7
  have hI8 := hI8.symm; subst hI8; have hL9 := hL9.symm; subst hL9
  refine k_if_eq C (t := 30) rfl rfl rfl (fun c17 => ?_) (fun c17 => ?_)
  · skip
    exact k_throw C rfl rfl rfl rfl rfl rfl (Nat.le_of_ble_eq_true rfl) (Nat.le_of_ble_eq_true rfl) (Nat.le_of_ble_eq_true rfl) ⟨_, _, rfl, rfl, ⟨rfl, rfl⟩⟩
  have q2 := wh_i.mp (inY c17)
  refine k_iload_n C rfl rfl rfl ?_
  refine k_sipush C (x := 999) rfl rfl rfl ?_
  refine c_SI C e_isWhole rfl rfl rfl rfl rfl rfl rfl (Nat.le_of_ble_eq_true rfl) (Nat.le_of_ble_eq_true rfl) (Nat.le_of_ble_eq_true rfl) ?_
  rintro _ _ _ ⟨hx7, hI8, hL9⟩
  have hx7 := hx7.symm; subst hx7
  have hI8 := hI8.symm; subst hI8; have hL9 := hL9.symm; subst hL9
  refine k_if_ne C (t := 38) rfl rfl rfl (fun c27 => ?_) (fun c27 => ?_)
  · skip
    have q3 := wh_i.mp (inY c27)
    refine k_iload_n C rfl rfl rfl ?_
    refine k_if_le C (t := 54) rfl rfl rfl (fun c39 => ?_) (fun c39 => ?_)
    · skip
      exact k_throw C rfl rfl rfl rfl rfl rfl (Nat.le_of_ble_eq_true rfl) (Nat.le_of_ble_eq_true rfl) (Nat.le_of_ble_eq_true rfl) ⟨_, _, rfl, rfl, ⟨rfl, rfl⟩⟩
    have q4 : 0 < a.toInt := by have := i_lt.mp (Int32.not_le.mp c39); exact this
    refine k_iload_n C rfl rfl rfl ?_
    refine k_iload_n C rfl rfl rfl ?_
    refine k_imul C rfl rfl ?_
    refine k_iconst C (x := 4) rfl rfl rfl ?_
    refine k_iload_n C rfl rfl rfl ?_
    refine k_imul C rfl rfl ?_
    refine k_iload_n C rfl rfl rfl ?_
    refine k_imul C rfl rfl ?_
    refine k_isub C rfl rfl ?_
    refine k_if_lt C (t := 62) rfl rfl rfl (fun c51 => ?_) (fun c51 => ?_)
    · skip
      exact absurd ⟨q1, q2, q3, q4, by have := i_lt.mp c51; rw [disc32 q1 q2 q3] at this; exact this⟩ h
    exact k_throw C rfl rfl rfl rfl rfl rfl (Nat.le_of_ble_eq_true rfl) (Nat.le_of_ble_eq_true rfl) (Nat.le_of_ble_eq_true rfl) ⟨_, _, rfl, rfl, ⟨rfl, rfl⟩⟩
  exact k_throw C rfl rfl rfl rfl rfl rfl (Nat.le_of_ble_eq_true rfl) (Nat.le_of_ble_eq_true rfl) (Nat.le_of_ble_eq_true rfl) ⟨_, _, rfl, rfl, ⟨rfl, rfl⟩⟩

theorem e_reduced_nse {d : Nat} {T N : Nat → Nat} {I : IT} {L : LT} {R : RT} {x : Nat} {a b c n : Int32} (T_x : T x = 12) (hok : okRed a b c) (hn : ¬ (0 ≤ n.toInt ∧ n.toInt ≤ 8)) : Ex (d + 2) 168 [.ref x, .int a, .int b, .int c, .int n] (T, N, I, L, R) 1 6 (pX 4 T N R (fun I9 L9 => I9 = I ∧ L9 = L)) := by
  refine ⟨_, rfl, Nat.le_of_ble_eq_true rfl, fun V C S => ?_⟩
  show V 0 [(0, .ref x), (1, .int a), (2, .int b), (3, .int c), (4, .int n)] [] (T, N, I, L, R) 0 0
  refine k_iload_n C rfl rfl rfl ?_
  refine k_sipush C (x := 999) rfl rfl rfl ?_
  refine c_SI C e_isWhole rfl rfl rfl rfl rfl rfl rfl (Nat.le_of_ble_eq_true rfl) (Nat.le_of_ble_eq_true rfl) (Nat.le_of_ble_eq_true rfl) ?_
  rintro _ _ _ ⟨hx7, hI8, hL9⟩
  have hx7 := hx7.symm; subst hx7
  have hI8 := hI8.symm; subst hI8; have hL9 := hL9.symm; subst hL9
  refine k_if_eq C (t := 30) rfl rfl rfl (fun c7 => ?_) (fun c7 => ?_)
  · skip
    exact absurd c7 (inN (wh_i.mpr hok.1))
  refine k_iload_n C rfl rfl rfl ?_
  refine k_sipush C (x := 999) rfl rfl rfl ?_
  refine c_SI C e_isWhole rfl rfl rfl rfl rfl rfl rfl (Nat.le_of_ble_eq_true rfl) (Nat.le_of_ble_eq_true rfl) (Nat.le_of_ble_eq_true rfl) ?_
  rintro _ _ _ ⟨hx7, hI8, hL9⟩
  have hx7 := hx7.symm; subst hx7
  have hI8 := hI8.symm; subst hI8; have hL9 := hL9.symm; subst hL9
  refine k_if_eq C (t := 30) rfl rfl rfl (fun c17 => ?_) (fun c17 => ?_)
  · skip
    exact absurd c17 (inN (wh_i.mpr hok.2.1))
  refine k_iload_n C rfl rfl rfl ?_
  refine k_sipush C (x := 999) rfl rfl rfl ?_
  refine c_SI C e_isWhole rfl rfl rfl rfl rfl rfl rfl (Nat.le_of_ble_eq_true rfl) (Nat.le_of_ble_eq_true rfl) (Nat.le_of_ble_eq_true rfl) ?_
  rintro _ _ _ ⟨hx7, hI8, hL9⟩
  have hx7 := hx7.symm; subst hx7
  have hI8 := hI8.symm; subst hI8; have hL9 := hL9.symm; subst hL9
  refine k_if_ne C (t := 38) rfl rfl rfl (fun c27 => ?_) (fun c27 => ?_)
  · skip
    refine k_iload_n C rfl rfl rfl ?_
    refine k_if_le C (t := 54) rfl rfl rfl (fun c39 => ?_) (fun c39 => ?_)
    · skip
      exact absurd (i_le.mp c39) (by have := hok.2.2.2.1; show ¬ _ ≤ (0 : Int); omega)
    refine k_iload_n C rfl rfl rfl ?_
    refine k_iload_n C rfl rfl rfl ?_
    refine k_imul C rfl rfl ?_
    refine k_iconst C (x := 4) rfl rfl rfl ?_
    refine k_iload_n C rfl rfl rfl ?_
    refine k_imul C rfl rfl ?_
    refine k_iload_n C rfl rfl rfl ?_
    refine k_imul C rfl rfl ?_
    refine k_isub C rfl rfl ?_
    refine k_if_lt C (t := 62) rfl rfl rfl (fun c51 => ?_) (fun c51 => ?_)
    · skip
      refine k_iload C rfl rfl rfl ?_
      refine k_if_lt C (t := 74) rfl rfl rfl (fun c64 => ?_) (fun c64 => ?_)
      · skip
        exact k_throw C rfl rfl rfl rfl rfl rfl (Nat.le_of_ble_eq_true rfl) (Nat.le_of_ble_eq_true rfl) (Nat.le_of_ble_eq_true rfl) ⟨_, _, rfl, rfl, ⟨rfl, rfl⟩⟩
      refine k_iload C rfl rfl rfl ?_
      refine k_bipush C (x := 8) rfl rfl rfl ?_
      refine k_icmp_le C (t := 82) rfl rfl rfl (fun c71 => ?_) (fun c71 => ?_)
      · skip
        exact absurd ⟨by have := i_le.mp (Int32.not_lt.mp c64); exact this, by have := i_le.mp c71; exact this⟩ hn
      exact k_throw C rfl rfl rfl rfl rfl rfl (Nat.le_of_ble_eq_true rfl) (Nat.le_of_ble_eq_true rfl) (Nat.le_of_ble_eq_true rfl) ⟨_, _, rfl, rfl, ⟨rfl, rfl⟩⟩
    exact absurd (i_lt.mpr (by rw [disc32 hok.1 hok.2.1 hok.2.2.1]; exact hok.2.2.2.2)) c51
  exact absurd (inN (wh_i.mpr hok.2.2.1)) c27

theorem e_reduced_yes {d : Nat} {T N : Nat → Nat} {I : IT} {L : LT} {R : RT} {A : Nat → Prop} {x wh : Nat} {a b c n : Int32} (T_x : T x = 12) (R_x_10 : R x 10 = some wh) (T_wh : T wh = 11) (A_wh : A wh) (hok : okRed a b c) (hn : 0 ≤ n.toInt ∧ n.toInt ≤ 8) : Ex (d + 4) 168 [.ref x, .int a, .int b, .int c, .int n] (T, N, I, L, R) 0 0 (pL T N R (fun x9 I9 L9 => x9 = tlS (run 1000 (st0 a b c)) n.toInt ∧ Fr A I L I9 L9)) := by
  refine ⟨_, rfl, Nat.le_of_ble_eq_true rfl, fun V C S => ?_⟩
  show V 0 [(0, .ref x), (1, .int a), (2, .int b), (3, .int c), (4, .int n)] [] (T, N, I, L, R) 0 0
  refine k_iload_n C rfl rfl rfl ?_
  refine k_sipush C (x := 999) rfl rfl rfl ?_
  refine c_SI C e_isWhole rfl rfl rfl rfl rfl rfl rfl (Nat.le_of_ble_eq_true rfl) (Nat.le_of_ble_eq_true rfl) (Nat.le_of_ble_eq_true rfl) ?_
  rintro _ _ _ ⟨hx7, hI8, hL9⟩
  have hx7 := hx7.symm; subst hx7
  have hI8 := hI8.symm; subst hI8; have hL9 := hL9.symm; subst hL9
  refine k_if_eq C (t := 30) rfl rfl rfl (fun c7 => ?_) (fun c7 => ?_)
  · skip
    exact absurd c7 (inN (wh_i.mpr hok.1))
  refine k_iload_n C rfl rfl rfl ?_
  refine k_sipush C (x := 999) rfl rfl rfl ?_
  refine c_SI C e_isWhole rfl rfl rfl rfl rfl rfl rfl (Nat.le_of_ble_eq_true rfl) (Nat.le_of_ble_eq_true rfl) (Nat.le_of_ble_eq_true rfl) ?_
  rintro _ _ _ ⟨hx7, hI8, hL9⟩
  have hx7 := hx7.symm; subst hx7
  have hI8 := hI8.symm; subst hI8; have hL9 := hL9.symm; subst hL9
  refine k_if_eq C (t := 30) rfl rfl rfl (fun c17 => ?_) (fun c17 => ?_)
  · skip
    exact absurd c17 (inN (wh_i.mpr hok.2.1))
  refine k_iload_n C rfl rfl rfl ?_
  refine k_sipush C (x := 999) rfl rfl rfl ?_
  refine c_SI C e_isWhole rfl rfl rfl rfl rfl rfl rfl (Nat.le_of_ble_eq_true rfl) (Nat.le_of_ble_eq_true rfl) (Nat.le_of_ble_eq_true rfl) ?_
  rintro _ _ _ ⟨hx7, hI8, hL9⟩
  have hx7 := hx7.symm; subst hx7
  have hI8 := hI8.symm; subst hI8; have hL9 := hL9.symm; subst hL9
  refine k_if_ne C (t := 38) rfl rfl rfl (fun c27 => ?_) (fun c27 => ?_)
  · skip
    refine k_iload_n C rfl rfl rfl ?_
    refine k_if_le C (t := 54) rfl rfl rfl (fun c39 => ?_) (fun c39 => ?_)
    · skip
      exact absurd (i_le.mp c39) (by have := hok.2.2.2.1; show ¬ _ ≤ (0 : Int); omega)
    refine k_iload_n C rfl rfl rfl ?_
    refine k_iload_n C rfl rfl rfl ?_
    refine k_imul C rfl rfl ?_
    refine k_iconst C (x := 4) rfl rfl rfl ?_
    refine k_iload_n C rfl rfl rfl ?_
    refine k_imul C rfl rfl ?_
    refine k_iload_n C rfl rfl rfl ?_
    refine k_imul C rfl rfl ?_
    refine k_isub C rfl rfl ?_
    refine k_if_lt C (t := 62) rfl rfl rfl (fun c51 => ?_) (fun c51 => ?_)
    · skip
      refine k_iload C rfl rfl rfl ?_
      refine k_if_lt C (t := 74) rfl rfl rfl (fun c64 => ?_) (fun c64 => ?_)
      · skip
        exact absurd (i_lt.mp c64) (by show ¬ _ < (0 : Int); omega)
      refine k_iload C rfl rfl rfl ?_
      refine k_bipush C (x := 8) rfl rfl rfl ?_
      refine k_icmp_le C (t := 82) rfl rfl rfl (fun c71 => ?_) (fun c71 => ?_)
      · skip
        refine k_aload_n C rfl rfl rfl ?_
        refine g_R C rfl rfl rfl T_x rfl R_x_10 ?_
        refine k_iload_n C rfl rfl rfl ?_
        refine k_iload_n C rfl rfl rfl ?_
        refine k_iload_n C rfl rfl rfl ?_
        refine c_VV C (e_reduce T_wh A_wh hok) rfl rfl rfl rfl rfl ⟨_, rfl, rfl, T_wh, Nat.le_of_ble_eq_true rfl⟩ rfl rfl (Nat.le_of_ble_eq_true rfl) (Nat.le_of_ble_eq_true rfl) (Nat.le_of_ble_eq_true rfl) ?_
        rintro I1 L1 ⟨hI8, hF1, hs1⟩
        have hI8 := hI8.symm; subst hI8
        refine k_aload_n C rfl rfl rfl ?_
        refine g_R C rfl rfl rfl T_x rfl R_x_10 ?_
        refine k_iload C rfl rfl rfl ?_
        refine c_VL C (e_tell T_wh (hs1 0 (Nat.le_of_ble_eq_true rfl)) (hs1 1 (Nat.le_of_ble_eq_true rfl)) (hs1 2 (Nat.le_of_ble_eq_true rfl)) (hs1 3 (Nat.le_of_ble_eq_true rfl)) (hs1 4 (Nat.le_of_ble_eq_true rfl)) (hs1 5 (Nat.le_of_ble_eq_true rfl)) (hs1 6 (Nat.le_of_ble_eq_true rfl)) (hs1 7 (Nat.le_of_ble_eq_true rfl)) hn) rfl rfl rfl rfl rfl ⟨_, rfl, rfl, T_wh, Nat.le_of_ble_eq_true rfl⟩ rfl rfl (Nat.le_of_ble_eq_true rfl) (Nat.le_of_ble_eq_true rfl) (Nat.le_of_ble_eq_true rfl) ?_
        rintro _ _ _ ⟨hx7, hI8, hL9⟩
        have hx7 := hx7.symm; subst hx7
        have hI8 := hI8.symm; subst hI8; have hL9 := hL9.symm; subst hL9
        exact k_lret C rfl rfl (Nat.le_of_ble_eq_true rfl) (Nat.le_of_ble_eq_true rfl) ⟨_, _, _, rfl, rfl, ⟨rfl, hF1⟩⟩
      exact absurd (i_le.mpr (show _ ≤ (8 : Int) from hn.2)) c71
    exact absurd (i_lt.mpr (by rw [disc32 hok.1 hok.2.1 hok.2.2.1]; exact hok.2.2.2.2)) c51
  exact absurd (inN (wh_i.mpr hok.2.2.1)) c27

theorem e_m_isThousand {d : Nat} {T N : Nat → Nat} {I : IT} {L : LT} {R : RT} {v : Int32}  : Ex (d + 2) 302 [.int v] (T, N, I, L, R) 0 0 (pI T N R (fun x9 I9 L9 => x9 = (if (-999 : Int32) ≤ v ∧ v ≤ 999 then (1 : Int32) else 0) ∧ I9 = I ∧ L9 = L)) := by
  refine ⟨_, rfl, Nat.le_of_ble_eq_true rfl, fun V C S => ?_⟩
  show V 0 [(0, .int v)] [] (T, N, I, L, R) 0 0
  refine k_iload_n C rfl rfl rfl ?_
  refine k_sipush C (x := -999) rfl rfl rfl ?_
  refine k_sipush C (x := 999) rfl rfl rfl ?_
  refine c_SI C e_in rfl rfl rfl rfl rfl rfl rfl (Nat.le_of_ble_eq_true rfl) (Nat.le_of_ble_eq_true rfl) (Nat.le_of_ble_eq_true rfl) ?_
  rintro _ _ _ ⟨hx7, hI8, hL9⟩
  have hx7 := hx7.symm; subst hx7
  have hI8 := hI8.symm; subst hI8; have hL9 := hL9.symm; subst hL9
  exact k_iret C rfl (Or.inr ⟨rfl, by by_cases h : (-999 : Int32) ≤ v ∧ v ≤ 999; exact Or.inr (if_pos h); exact Or.inl (if_neg h)⟩) (Nat.le_of_ble_eq_true rfl) (Nat.le_of_ble_eq_true rfl) ⟨_, _, _, rfl, rfl, ⟨rfl, rfl, rfl⟩⟩

theorem e_m_turnsOf {d : Nat} {T N : Nat → Nat} {I : IT} {L : LT} {R : RT} {a b c : Int64}  : Ex (d + 1) 301 [.long a, .long b, .long c] (T, N, I, L, R) 0 0 (pI T N R (fun x9 I9 L9 => x9 = (if ¬ a = c then (2 : Int32) else if b = 0 then 4 else if b = a then 6 else 2) ∧ I9 = I ∧ L9 = L)) := by
  refine ⟨_, rfl, Nat.le_of_ble_eq_true rfl, fun V C S => ?_⟩
  show V 0 [(0, .long a), (2, .long b), (4, .long c)] [] (T, N, I, L, R) 0 0
  refine k_lload_n C rfl rfl rfl ?_
  refine k_lload C rfl rfl rfl ?_
  refine k_lcmp C rfl rfl ?_
  refine k_if_eq C (t := 11) rfl rfl rfl (fun c4 => ?_) (fun c4 => ?_)
  · skip
    have e9 := (lg_cmp_eq _ _).mp c4
    refine k_lload_n C rfl rfl rfl ?_
    refine k_lconst C (x := 0) rfl rfl rfl ?_
    refine k_lcmp C rfl rfl ?_
    refine k_if_ne C (t := 21) rfl rfl rfl (fun c14 => ?_) (fun c14 => ?_)
    · skip
      have e20 : ¬ b = 0 := fun h => c14 ((lg_cmp_eq _ _).mpr h)
      refine k_lload_n C rfl rfl rfl ?_
      refine k_lload_n C rfl rfl rfl ?_
      refine k_lcmp C rfl rfl ?_
      refine k_if_ne C (t := 32) rfl rfl rfl (fun c24 => ?_) (fun c24 => ?_)
      · skip
        have q : (if ¬ a = c then (2 : Int32) else if b = 0 then 4 else if b = a then 6 else 2) = 2 := by rw [if_neg (fun h => h e9), if_neg e20, if_neg (fun h => c24 ((lg_cmp_eq _ _).mpr h))]
        refine k_iconst C (x := 2) rfl rfl rfl ?_
        exact k_iret C rfl (Or.inl rfl) (Nat.le_of_ble_eq_true rfl) (Nat.le_of_ble_eq_true rfl) ⟨_, _, _, rfl, rfl, ⟨q.symm, rfl, rfl⟩⟩
      have q : (if ¬ a = c then (2 : Int32) else if b = 0 then 4 else if b = a then 6 else 2) = 6 := by rw [if_neg (fun h => h e9), if_neg e20, if_pos ((lg_cmp_eq _ _).mp (Decidable.not_not.mp c24))]
      refine k_bipush C (x := 6) rfl rfl rfl ?_
      refine k_goto C (pc2 := 33) rfl rfl ?_
      exact k_iret C rfl (Or.inl rfl) (Nat.le_of_ble_eq_true rfl) (Nat.le_of_ble_eq_true rfl) ⟨_, _, _, rfl, rfl, ⟨q.symm, rfl, rfl⟩⟩
    have e20 := (lg_cmp_eq _ _).mp (Decidable.not_not.mp c14)
    have q : (if ¬ a = c then (2 : Int32) else if b = 0 then 4 else if b = a then 6 else 2) = 4 := by rw [if_neg (fun h => h e9), if_pos e20]
    refine k_iconst C (x := 4) rfl rfl rfl ?_
    refine k_goto C (pc2 := 33) rfl rfl ?_
    exact k_iret C rfl (Or.inl rfl) (Nat.le_of_ble_eq_true rfl) (Nat.le_of_ble_eq_true rfl) ⟨_, _, _, rfl, rfl, ⟨q.symm, rfl, rfl⟩⟩
  have e9 : ¬ a = c := fun h => c4 ((lg_cmp_eq _ _).mpr h)
  have q := (if_pos e9 : (if ¬ a = c then (2 : Int32) else if b = 0 then 4 else if b = a then 6 else 2) = 2)
  refine k_iconst C (x := 2) rfl rfl rfl ?_
  refine k_goto C (pc2 := 33) rfl rfl ?_
  exact k_iret C rfl (Or.inl rfl) (Nat.le_of_ble_eq_true rfl) (Nat.le_of_ble_eq_true rfl) ⟨_, _, _, rfl, rfl, ⟨q.symm, rfl, rfl⟩⟩

theorem e_m_reduced_no {d : Nat} {T N : Nat → Nat} {I : IT} {L : LT} {R : RT} {A : Nat → Prop} {m : Nat} {a b c n : Int32} (T_m : T m = 13) (A_m : A m) (h : ¬ okRed a b c) : Ex (d + 3) 303 [.ref m, .int a, .int b, .int c, .int n] (T, N, I, L, R) 0 0 (pL T N R (fun x9 I9 L9 => Fr A I L I9 L9 ∧ I9 m 0 = 1 ∧ IKm m I I9)) := by
  refine ⟨_, rfl, Nat.le_of_ble_eq_true rfl, fun V C S => ?_⟩
  show V 0 [(0, .ref m), (1, .int a), (2, .int b), (3, .int c), (4, .int n)] [] (T, N, I, L, R) 0 0
  refine k_aload_n C rfl rfl rfl ?_
  refine k_iconst C (x := 0) rfl rfl rfl ?_
  refine p_I C rfl rfl rfl T_m (Or.inr rfl) rfl ?_
  refine k_aload_n C rfl rfl rfl ?_
  refine k_iload_n C rfl rfl rfl ?_
  refine k_i2l C rfl rfl ?_
  refine p_L C rfl rfl rfl T_m (Or.inr rfl) rfl ?_
  refine k_aload_n C rfl rfl rfl ?_
  refine k_iload_n C rfl rfl rfl ?_
  refine k_i2l C rfl rfl ?_
  refine p_L C rfl rfl rfl T_m (Or.inr rfl) rfl ?_
  refine k_aload_n C rfl rfl rfl ?_
  refine k_iload_n C rfl rfl rfl ?_
  refine k_i2l C rfl rfl ?_
  refine p_L C rfl rfl rfl T_m (Or.inr rfl) rfl ?_
  refine k_iload_n C rfl rfl rfl ?_
  refine c_SI C e_m_isThousand rfl rfl rfl rfl rfl rfl rfl (Nat.le_of_ble_eq_true rfl) (Nat.le_of_ble_eq_true rfl) (Nat.le_of_ble_eq_true rfl) ?_
  rintro _ _ _ ⟨hx7, hI8, hL9⟩
  have hx7 := hx7.symm; subst hx7
  have hI8 := hI8.symm; subst hI8; have hL9 := hL9.symm; subst hL9
  refine k_if_eq C (t := 66) rfl rfl rfl (fun c27 => ?_) (fun c27 => ?_)
  · skip
    refine k_iconst C (x := 1) rfl rfl rfl ?_
    refine k_goto C (pc2 := 71) rfl rfl ?_
    refine k_istore C (lw := [(5, .int _), (0, _), (1, .int _), (2, .int _), (3, .int _), (4, .int _)]) rfl rfl (Nat.le_of_ble_eq_true rfl) rfl ?_
    refine k_aload_n C rfl rfl rfl ?_
    refine k_iload C rfl rfl rfl ?_
    refine k_iconst C (x := 1) rfl rfl rfl ?_
    refine c_VI C (e_throwsIf1 T_m rfl) rfl rfl rfl rfl rfl ⟨_, rfl, rfl, T_m, Nat.le_of_ble_eq_true rfl⟩ rfl rfl (Nat.le_of_ble_eq_true rfl) (Nat.le_of_ble_eq_true rfl) (Nat.le_of_ble_eq_true rfl) ?_
    rintro _ _ _ ⟨hx7, hI8, hL9⟩
    have hx7 := hx7.symm; subst hx7
    have hI8 := hI8.symm; subst hI8; have hL9 := hL9.symm; subst hL9
    refine k_if_ne C (t := 107) rfl rfl rfl (fun _ => ?_) (fun c80 => absurd (by decide) c80)
    refine k_lconst C (x := 0) rfl rfl rfl ?_
    exact k_lret C rfl rfl (Nat.le_of_ble_eq_true rfl) (Nat.le_of_ble_eq_true rfl) ⟨_, _, _, rfl, rfl, ⟨(Fr.l (Fr.l (Fr.l (Fr.i (Fr.i Fr.rf A_m) A_m) A_m) A_m) A_m), u2_s, (by first | exact IKm.i IKm.rf | exact IKm.i (IKm.i IKm.rf))⟩⟩
  have q1 := wh_i.mp (inY c27)
  refine k_iload_n C rfl rfl rfl ?_
  refine c_SI C e_m_isThousand rfl rfl rfl rfl rfl rfl rfl (Nat.le_of_ble_eq_true rfl) (Nat.le_of_ble_eq_true rfl) (Nat.le_of_ble_eq_true rfl) ?_
  rintro _ _ _ ⟨hx7, hI8, hL9⟩
  have hx7 := hx7.symm; subst hx7
  have hI8 := hI8.symm; subst hI8; have hL9 := hL9.symm; subst hL9
  refine k_if_eq C (t := 66) rfl rfl rfl (fun c34 => ?_) (fun c34 => ?_)
  · skip
    refine k_iconst C (x := 1) rfl rfl rfl ?_
    refine k_goto C (pc2 := 71) rfl rfl ?_
    refine k_istore C (lw := [(5, .int _), (0, _), (1, .int _), (2, .int _), (3, .int _), (4, .int _)]) rfl rfl (Nat.le_of_ble_eq_true rfl) rfl ?_
    refine k_aload_n C rfl rfl rfl ?_
    refine k_iload C rfl rfl rfl ?_
    refine k_iconst C (x := 1) rfl rfl rfl ?_
    refine c_VI C (e_throwsIf1 T_m rfl) rfl rfl rfl rfl rfl ⟨_, rfl, rfl, T_m, Nat.le_of_ble_eq_true rfl⟩ rfl rfl (Nat.le_of_ble_eq_true rfl) (Nat.le_of_ble_eq_true rfl) (Nat.le_of_ble_eq_true rfl) ?_
    rintro _ _ _ ⟨hx7, hI8, hL9⟩
    have hx7 := hx7.symm; subst hx7
    have hI8 := hI8.symm; subst hI8; have hL9 := hL9.symm; subst hL9
    refine k_if_ne C (t := 107) rfl rfl rfl (fun _ => ?_) (fun c80 => absurd (by decide) c80)
    refine k_lconst C (x := 0) rfl rfl rfl ?_
    exact k_lret C rfl rfl (Nat.le_of_ble_eq_true rfl) (Nat.le_of_ble_eq_true rfl) ⟨_, _, _, rfl, rfl, ⟨(Fr.l (Fr.l (Fr.l (Fr.i (Fr.i Fr.rf A_m) A_m) A_m) A_m) A_m), u2_s, (by first | exact IKm.i IKm.rf | exact IKm.i (IKm.i IKm.rf))⟩⟩
  have q2 := wh_i.mp (inY c34)
  refine k_iload_n C rfl rfl rfl ?_
  refine c_SI C e_m_isThousand rfl rfl rfl rfl rfl rfl rfl (Nat.le_of_ble_eq_true rfl) (Nat.le_of_ble_eq_true rfl) (Nat.le_of_ble_eq_true rfl) ?_
  rintro _ _ _ ⟨hx7, hI8, hL9⟩
  have hx7 := hx7.symm; subst hx7
  have hI8 := hI8.symm; subst hI8; have hL9 := hL9.symm; subst hL9
  refine k_if_eq C (t := 66) rfl rfl rfl (fun c41 => ?_) (fun c41 => ?_)
  · skip
    refine k_iconst C (x := 1) rfl rfl rfl ?_
    refine k_goto C (pc2 := 71) rfl rfl ?_
    refine k_istore C (lw := [(5, .int _), (0, _), (1, .int _), (2, .int _), (3, .int _), (4, .int _)]) rfl rfl (Nat.le_of_ble_eq_true rfl) rfl ?_
    refine k_aload_n C rfl rfl rfl ?_
    refine k_iload C rfl rfl rfl ?_
    refine k_iconst C (x := 1) rfl rfl rfl ?_
    refine c_VI C (e_throwsIf1 T_m rfl) rfl rfl rfl rfl rfl ⟨_, rfl, rfl, T_m, Nat.le_of_ble_eq_true rfl⟩ rfl rfl (Nat.le_of_ble_eq_true rfl) (Nat.le_of_ble_eq_true rfl) (Nat.le_of_ble_eq_true rfl) ?_
    rintro _ _ _ ⟨hx7, hI8, hL9⟩
    have hx7 := hx7.symm; subst hx7
    have hI8 := hI8.symm; subst hI8; have hL9 := hL9.symm; subst hL9
    refine k_if_ne C (t := 107) rfl rfl rfl (fun _ => ?_) (fun c80 => absurd (by decide) c80)
    refine k_lconst C (x := 0) rfl rfl rfl ?_
    exact k_lret C rfl rfl (Nat.le_of_ble_eq_true rfl) (Nat.le_of_ble_eq_true rfl) ⟨_, _, _, rfl, rfl, ⟨(Fr.l (Fr.l (Fr.l (Fr.i (Fr.i Fr.rf A_m) A_m) A_m) A_m) A_m), u2_s, (by first | exact IKm.i IKm.rf | exact IKm.i (IKm.i IKm.rf))⟩⟩
  have q3 := wh_i.mp (inY c41)
  refine k_iload_n C rfl rfl rfl ?_
  refine k_if_le C (t := 66) rfl rfl rfl (fun c45 => ?_) (fun c45 => ?_)
  · skip
    refine k_iconst C (x := 1) rfl rfl rfl ?_
    refine k_goto C (pc2 := 71) rfl rfl ?_
    refine k_istore C (lw := [(5, .int _), (0, _), (1, .int _), (2, .int _), (3, .int _), (4, .int _)]) rfl rfl (Nat.le_of_ble_eq_true rfl) rfl ?_
    refine k_aload_n C rfl rfl rfl ?_
    refine k_iload C rfl rfl rfl ?_
    refine k_iconst C (x := 1) rfl rfl rfl ?_
    refine c_VI C (e_throwsIf1 T_m rfl) rfl rfl rfl rfl rfl ⟨_, rfl, rfl, T_m, Nat.le_of_ble_eq_true rfl⟩ rfl rfl (Nat.le_of_ble_eq_true rfl) (Nat.le_of_ble_eq_true rfl) (Nat.le_of_ble_eq_true rfl) ?_
    rintro _ _ _ ⟨hx7, hI8, hL9⟩
    have hx7 := hx7.symm; subst hx7
    have hI8 := hI8.symm; subst hI8; have hL9 := hL9.symm; subst hL9
    refine k_if_ne C (t := 107) rfl rfl rfl (fun _ => ?_) (fun c80 => absurd (by decide) c80)
    refine k_lconst C (x := 0) rfl rfl rfl ?_
    exact k_lret C rfl rfl (Nat.le_of_ble_eq_true rfl) (Nat.le_of_ble_eq_true rfl) ⟨_, _, _, rfl, rfl, ⟨(Fr.l (Fr.l (Fr.l (Fr.i (Fr.i Fr.rf A_m) A_m) A_m) A_m) A_m), u2_s, (by first | exact IKm.i IKm.rf | exact IKm.i (IKm.i IKm.rf))⟩⟩
  have q4 : 0 < a.toInt := by have := i_lt.mp (Int32.not_le.mp c45); exact this
  refine k_iload_n C rfl rfl rfl ?_
  refine k_i2l C rfl rfl ?_
  refine k_iload_n C rfl rfl rfl ?_
  refine k_i2l C rfl rfl ?_
  refine k_lmul C rfl rfl ?_
  refine k_ldc2_w C rfl rfl rfl ?_
  refine k_iload_n C rfl rfl rfl ?_
  refine k_i2l C rfl rfl ?_
  refine k_lmul C rfl rfl ?_
  refine k_iload_n C rfl rfl rfl ?_
  refine k_i2l C rfl rfl ?_
  refine k_lmul C rfl rfl ?_
  refine k_lcmp C rfl rfl ?_
  refine k_if_lt C (t := 70) rfl rfl rfl (fun c63 => ?_) (fun c63 => ?_)
  · skip
    exact absurd ⟨q1, q2, q3, q4, (disc64 q1 q2 q3).mp c63⟩ h
  refine k_iconst C (x := 1) rfl rfl rfl ?_
  refine k_goto C (pc2 := 71) rfl rfl ?_
  refine k_istore C (lw := [(5, .int _), (0, _), (1, .int _), (2, .int _), (3, .int _), (4, .int _)]) rfl rfl (Nat.le_of_ble_eq_true rfl) rfl ?_
  refine k_aload_n C rfl rfl rfl ?_
  refine k_iload C rfl rfl rfl ?_
  refine k_iconst C (x := 1) rfl rfl rfl ?_
  refine c_VI C (e_throwsIf1 T_m rfl) rfl rfl rfl rfl rfl ⟨_, rfl, rfl, T_m, Nat.le_of_ble_eq_true rfl⟩ rfl rfl (Nat.le_of_ble_eq_true rfl) (Nat.le_of_ble_eq_true rfl) (Nat.le_of_ble_eq_true rfl) ?_
  rintro _ _ _ ⟨hx7, hI8, hL9⟩
  have hx7 := hx7.symm; subst hx7
  have hI8 := hI8.symm; subst hI8; have hL9 := hL9.symm; subst hL9
  refine k_if_ne C (t := 107) rfl rfl rfl (fun _ => ?_) (fun c80 => absurd (by decide) c80)
  refine k_lconst C (x := 0) rfl rfl rfl ?_
  exact k_lret C rfl rfl (Nat.le_of_ble_eq_true rfl) (Nat.le_of_ble_eq_true rfl) ⟨_, _, _, rfl, rfl, ⟨(Fr.l (Fr.l (Fr.l (Fr.i (Fr.i Fr.rf A_m) A_m) A_m) A_m) A_m), u2_s, (by first | exact IKm.i IKm.rf | exact IKm.i (IKm.i IKm.rf))⟩⟩

theorem in08 {n : Int32} : ((0 : Int32) ≤ n ∧ n ≤ 8) ↔ (0 ≤ n.toInt ∧ n.toInt ≤ 8) := by rw [i_le, i_le]; exact Iff.rfl
theorem e_m_reduced_nse {d : Nat} {T N : Nat → Nat} {I : IT} {L : LT} {R : RT} {A : Nat → Prop} {m : Nat} {a b c n : Int32} (T_m : T m = 13) (A_m : A m) (hok : okRed a b c) (hn : ¬ (0 ≤ n.toInt ∧ n.toInt ≤ 8)) : Ex (d + 3) 303 [.ref m, .int a, .int b, .int c, .int n] (T, N, I, L, R) 0 0 (pL T N R (fun x9 I9 L9 => Fr A I L I9 L9 ∧ I9 m 0 = 2 ∧ IKm m I I9)) := by
  refine ⟨_, rfl, Nat.le_of_ble_eq_true rfl, fun V C S => ?_⟩
  show V 0 [(0, .ref m), (1, .int a), (2, .int b), (3, .int c), (4, .int n)] [] (T, N, I, L, R) 0 0
  refine k_aload_n C rfl rfl rfl ?_
  refine k_iconst C (x := 0) rfl rfl rfl ?_
  refine p_I C rfl rfl rfl T_m (Or.inr rfl) rfl ?_
  refine k_aload_n C rfl rfl rfl ?_
  refine k_iload_n C rfl rfl rfl ?_
  refine k_i2l C rfl rfl ?_
  refine p_L C rfl rfl rfl T_m (Or.inr rfl) rfl ?_
  refine k_aload_n C rfl rfl rfl ?_
  refine k_iload_n C rfl rfl rfl ?_
  refine k_i2l C rfl rfl ?_
  refine p_L C rfl rfl rfl T_m (Or.inr rfl) rfl ?_
  refine k_aload_n C rfl rfl rfl ?_
  refine k_iload_n C rfl rfl rfl ?_
  refine k_i2l C rfl rfl ?_
  refine p_L C rfl rfl rfl T_m (Or.inr rfl) rfl ?_
  refine k_iload_n C rfl rfl rfl ?_
  refine c_SI C e_m_isThousand rfl rfl rfl rfl rfl rfl rfl (Nat.le_of_ble_eq_true rfl) (Nat.le_of_ble_eq_true rfl) (Nat.le_of_ble_eq_true rfl) ?_
  rintro _ _ _ ⟨hx7, hI8, hL9⟩
  have hx7 := hx7.symm; subst hx7
  have hI8 := hI8.symm; subst hI8; have hL9 := hL9.symm; subst hL9
  refine k_if_eq C (t := 66) rfl rfl rfl (fun c27 => ?_) (fun c27 => ?_)
  · skip
    exact absurd c27 (inN (wh_i.mpr hok.1))
  refine k_iload_n C rfl rfl rfl ?_
  refine c_SI C e_m_isThousand rfl rfl rfl rfl rfl rfl rfl (Nat.le_of_ble_eq_true rfl) (Nat.le_of_ble_eq_true rfl) (Nat.le_of_ble_eq_true rfl) ?_
  rintro _ _ _ ⟨hx7, hI8, hL9⟩
  have hx7 := hx7.symm; subst hx7
  have hI8 := hI8.symm; subst hI8; have hL9 := hL9.symm; subst hL9
  refine k_if_eq C (t := 66) rfl rfl rfl (fun c34 => ?_) (fun c34 => ?_)
  · skip
    exact absurd c34 (inN (wh_i.mpr hok.2.1))
  refine k_iload_n C rfl rfl rfl ?_
  refine c_SI C e_m_isThousand rfl rfl rfl rfl rfl rfl rfl (Nat.le_of_ble_eq_true rfl) (Nat.le_of_ble_eq_true rfl) (Nat.le_of_ble_eq_true rfl) ?_
  rintro _ _ _ ⟨hx7, hI8, hL9⟩
  have hx7 := hx7.symm; subst hx7
  have hI8 := hI8.symm; subst hI8; have hL9 := hL9.symm; subst hL9
  refine k_if_eq C (t := 66) rfl rfl rfl (fun c41 => ?_) (fun c41 => ?_)
  · skip
    exact absurd c41 (inN (wh_i.mpr hok.2.2.1))
  refine k_iload_n C rfl rfl rfl ?_
  refine k_if_le C (t := 66) rfl rfl rfl (fun c45 => ?_) (fun c45 => ?_)
  · skip
    exact absurd (i_le.mp c45) (by have := hok.2.2.2.1; show ¬ _ ≤ (0 : Int); omega)
  refine k_iload_n C rfl rfl rfl ?_
  refine k_i2l C rfl rfl ?_
  refine k_iload_n C rfl rfl rfl ?_
  refine k_i2l C rfl rfl ?_
  refine k_lmul C rfl rfl ?_
  refine k_ldc2_w C rfl rfl rfl ?_
  refine k_iload_n C rfl rfl rfl ?_
  refine k_i2l C rfl rfl ?_
  refine k_lmul C rfl rfl ?_
  refine k_iload_n C rfl rfl rfl ?_
  refine k_i2l C rfl rfl ?_
  refine k_lmul C rfl rfl ?_
  refine k_lcmp C rfl rfl ?_
  refine k_if_lt C (t := 70) rfl rfl rfl (fun c63 => ?_) (fun c63 => ?_)
  · skip
    refine k_iconst C (x := 0) rfl rfl rfl ?_
    refine k_istore C (lw := [(5, .int _), (0, _), (1, .int _), (2, .int _), (3, .int _), (4, .int _)]) rfl rfl (Nat.le_of_ble_eq_true rfl) rfl ?_
    refine k_aload_n C rfl rfl rfl ?_
    refine k_iload C rfl rfl rfl ?_
    refine k_iconst C (x := 1) rfl rfl rfl ?_
    refine c_VI C (e_throwsIf0 T_m rfl) rfl rfl rfl rfl rfl ⟨_, rfl, rfl, T_m, Nat.le_of_ble_eq_true rfl⟩ rfl rfl (Nat.le_of_ble_eq_true rfl) (Nat.le_of_ble_eq_true rfl) (Nat.le_of_ble_eq_true rfl) ?_
    rintro _ _ _ ⟨hx7, hI8, hL9⟩
    have hx7 := hx7.symm; subst hx7
    have hI8 := hI8.symm; subst hI8; have hL9 := hL9.symm; subst hL9
    refine k_if_ne C (t := 107) rfl rfl rfl (fun c80 => absurd c80 (by decide)) (fun _ => ?_)
    refine k_aload_n C rfl rfl rfl ?_
    refine k_iload C rfl rfl rfl ?_
    refine k_iconst C (x := 0) rfl rfl rfl ?_
    refine k_bipush C (x := 8) rfl rfl rfl ?_
    refine c_SI C e_in rfl rfl rfl rfl rfl rfl rfl (Nat.le_of_ble_eq_true rfl) (Nat.le_of_ble_eq_true rfl) (Nat.le_of_ble_eq_true rfl) ?_
    rintro _ _ _ ⟨hx7, hI8, hL9⟩
    have hx7 := hx7.symm; subst hx7
    have hI8 := hI8.symm; subst hI8; have hL9 := hL9.symm; subst hL9
    refine k_if_ne C (t := 99) rfl rfl rfl (fun c92 => ?_) (fun c92 => ?_)
    · skip
      exact absurd (in08.mp (inY c92)) hn
    refine k_iconst C (x := 1) rfl rfl rfl ?_
    refine k_goto C (pc2 := 100) rfl rfl ?_
    refine k_iconst C (x := 2) rfl rfl rfl ?_
    refine c_VI C (e_throwsIf1 T_m rfl) rfl rfl rfl rfl rfl ⟨_, rfl, rfl, T_m, Nat.le_of_ble_eq_true rfl⟩ rfl rfl (Nat.le_of_ble_eq_true rfl) (Nat.le_of_ble_eq_true rfl) (Nat.le_of_ble_eq_true rfl) ?_
    rintro _ _ _ ⟨hx7, hI8, hL9⟩
    have hx7 := hx7.symm; subst hx7
    have hI8 := hI8.symm; subst hI8; have hL9 := hL9.symm; subst hL9
    refine k_if_eq C (t := 109) rfl rfl rfl (fun c104 => absurd c104 (by decide)) (fun _ => ?_)
    refine k_lconst C (x := 0) rfl rfl rfl ?_
    exact k_lret C rfl rfl (Nat.le_of_ble_eq_true rfl) (Nat.le_of_ble_eq_true rfl) ⟨_, _, _, rfl, rfl, ⟨(Fr.l (Fr.l (Fr.l (Fr.i (Fr.i Fr.rf A_m) A_m) A_m) A_m) A_m), u2_s, (by first | exact IKm.i IKm.rf | exact IKm.i (IKm.i IKm.rf))⟩⟩
  exact absurd ((disc64 hok.1 hok.2.1 hok.2.2.1).mpr hok.2.2.2.2) c63

theorem e_m_reduced_yes {d : Nat} {T N : Nat → Nat} {I : IT} {L : LT} {R : RT} {A : Nat → Prop} {m wl : Nat} {a b c n : Int32} (T_m : T m = 13) (A_m : A m) (R_m_34 : R m 34 = some wl) (T_wl : T wl = 21) (N_wl : N wl = 4) (A_wl : A wl) (hok : okRed a b c) (hn : 0 ≤ n.toInt ∧ n.toInt ≤ 8) : Ex (d + 3) 303 [.ref m, .int a, .int b, .int c, .int n] (T, N, I, L, R) 0 0 (pL T N R (fun x9 I9 L9 => x9 = tlS (run 1000 (st0 a b c)) n.toInt ∧ Fr A I L I9 L9 ∧ I9 m 0 = 0 ∧ IKm m I I9)) := by
  refine ⟨_, rfl, Nat.le_of_ble_eq_true rfl, fun V C S => ?_⟩
  show V 0 [(0, .ref m), (1, .int a), (2, .int b), (3, .int c), (4, .int n)] [] (T, N, I, L, R) 0 0
  obtain ⟨hJ0, hK⟩ := st0_J hok
  refine k_aload_n C rfl rfl rfl ?_
  refine k_iconst C (x := 0) rfl rfl rfl ?_
  refine p_I C rfl rfl rfl T_m (Or.inr rfl) rfl ?_
  refine k_aload_n C rfl rfl rfl ?_
  refine k_iload_n C rfl rfl rfl ?_
  refine k_i2l C rfl rfl ?_
  refine p_L C rfl rfl rfl T_m (Or.inr rfl) rfl ?_
  refine k_aload_n C rfl rfl rfl ?_
  refine k_iload_n C rfl rfl rfl ?_
  refine k_i2l C rfl rfl ?_
  refine p_L C rfl rfl rfl T_m (Or.inr rfl) rfl ?_
  refine k_aload_n C rfl rfl rfl ?_
  refine k_iload_n C rfl rfl rfl ?_
  refine k_i2l C rfl rfl ?_
  refine p_L C rfl rfl rfl T_m (Or.inr rfl) rfl ?_
  refine k_iload_n C rfl rfl rfl ?_
  refine c_SI C e_m_isThousand rfl rfl rfl rfl rfl rfl rfl (Nat.le_of_ble_eq_true rfl) (Nat.le_of_ble_eq_true rfl) (Nat.le_of_ble_eq_true rfl) ?_
  rintro _ _ _ ⟨hx7, hI8, hL9⟩
  have hx7 := hx7.symm; subst hx7
  have hI8 := hI8.symm; subst hI8; have hL9 := hL9.symm; subst hL9
  refine k_if_eq C (t := 66) rfl rfl rfl (fun c27 => ?_) (fun c27 => ?_)
  · skip
    exact absurd c27 (inN (wh_i.mpr hok.1))
  refine k_iload_n C rfl rfl rfl ?_
  refine c_SI C e_m_isThousand rfl rfl rfl rfl rfl rfl rfl (Nat.le_of_ble_eq_true rfl) (Nat.le_of_ble_eq_true rfl) (Nat.le_of_ble_eq_true rfl) ?_
  rintro _ _ _ ⟨hx7, hI8, hL9⟩
  have hx7 := hx7.symm; subst hx7
  have hI8 := hI8.symm; subst hI8; have hL9 := hL9.symm; subst hL9
  refine k_if_eq C (t := 66) rfl rfl rfl (fun c34 => ?_) (fun c34 => ?_)
  · skip
    exact absurd c34 (inN (wh_i.mpr hok.2.1))
  refine k_iload_n C rfl rfl rfl ?_
  refine c_SI C e_m_isThousand rfl rfl rfl rfl rfl rfl rfl (Nat.le_of_ble_eq_true rfl) (Nat.le_of_ble_eq_true rfl) (Nat.le_of_ble_eq_true rfl) ?_
  rintro _ _ _ ⟨hx7, hI8, hL9⟩
  have hx7 := hx7.symm; subst hx7
  have hI8 := hI8.symm; subst hI8; have hL9 := hL9.symm; subst hL9
  refine k_if_eq C (t := 66) rfl rfl rfl (fun c41 => ?_) (fun c41 => ?_)
  · skip
    exact absurd c41 (inN (wh_i.mpr hok.2.2.1))
  refine k_iload_n C rfl rfl rfl ?_
  refine k_if_le C (t := 66) rfl rfl rfl (fun c45 => ?_) (fun c45 => ?_)
  · skip
    exact absurd (i_le.mp c45) (by have := hok.2.2.2.1; show ¬ _ ≤ (0 : Int); omega)
  refine k_iload_n C rfl rfl rfl ?_
  refine k_i2l C rfl rfl ?_
  refine k_iload_n C rfl rfl rfl ?_
  refine k_i2l C rfl rfl ?_
  refine k_lmul C rfl rfl ?_
  refine k_ldc2_w C rfl rfl rfl ?_
  refine k_iload_n C rfl rfl rfl ?_
  refine k_i2l C rfl rfl ?_
  refine k_lmul C rfl rfl ?_
  refine k_iload_n C rfl rfl rfl ?_
  refine k_i2l C rfl rfl ?_
  refine k_lmul C rfl rfl ?_
  refine k_lcmp C rfl rfl ?_
  refine k_if_lt C (t := 70) rfl rfl rfl (fun c63 => ?_) (fun c63 => ?_)
  · skip
    refine k_iconst C (x := 0) rfl rfl rfl ?_
    refine k_istore C (lw := [(5, .int _), (0, _), (1, .int _), (2, .int _), (3, .int _), (4, .int _)]) rfl rfl (Nat.le_of_ble_eq_true rfl) rfl ?_
    refine k_aload_n C rfl rfl rfl ?_
    refine k_iload C rfl rfl rfl ?_
    refine k_iconst C (x := 1) rfl rfl rfl ?_
    refine c_VI C (e_throwsIf0 T_m rfl) rfl rfl rfl rfl rfl ⟨_, rfl, rfl, T_m, Nat.le_of_ble_eq_true rfl⟩ rfl rfl (Nat.le_of_ble_eq_true rfl) (Nat.le_of_ble_eq_true rfl) (Nat.le_of_ble_eq_true rfl) ?_
    rintro _ _ _ ⟨hx7, hI8, hL9⟩
    have hx7 := hx7.symm; subst hx7
    have hI8 := hI8.symm; subst hI8; have hL9 := hL9.symm; subst hL9
    refine k_if_ne C (t := 107) rfl rfl rfl (fun c80 => absurd c80 (by decide)) (fun _ => ?_)
    refine k_aload_n C rfl rfl rfl ?_
    refine k_iload C rfl rfl rfl ?_
    refine k_iconst C (x := 0) rfl rfl rfl ?_
    refine k_bipush C (x := 8) rfl rfl rfl ?_
    refine c_SI C e_in rfl rfl rfl rfl rfl rfl rfl (Nat.le_of_ble_eq_true rfl) (Nat.le_of_ble_eq_true rfl) (Nat.le_of_ble_eq_true rfl) ?_
    rintro _ _ _ ⟨hx7, hI8, hL9⟩
    have hx7 := hx7.symm; subst hx7
    have hI8 := hI8.symm; subst hI8; have hL9 := hL9.symm; subst hL9
    refine k_if_ne C (t := 99) rfl rfl rfl (fun c92 => ?_) (fun c92 => ?_)
    · skip
      refine k_iconst C (x := 0) rfl rfl rfl ?_
      refine k_iconst C (x := 2) rfl rfl rfl ?_
      refine c_VI C (e_throwsIf0 T_m rfl) rfl rfl rfl rfl rfl ⟨_, rfl, rfl, T_m, Nat.le_of_ble_eq_true rfl⟩ rfl rfl (Nat.le_of_ble_eq_true rfl) (Nat.le_of_ble_eq_true rfl) (Nat.le_of_ble_eq_true rfl) ?_
      rintro _ _ _ ⟨hx7, hI8, hL9⟩
      have hx7 := hx7.symm; subst hx7
      have hI8 := hI8.symm; subst hI8; have hL9 := hL9.symm; subst hL9
      refine k_if_eq C (t := 109) rfl rfl rfl (fun _ => ?_) (fun c104 => absurd (by decide) c104)
      refine k_aload_n C rfl rfl rfl ?_
      refine c_VV C (e_m_reduces T_m A_m R_m_34 T_wl N_wl A_wl ((u2_k (by decide)).trans ((u2_k (by decide)).trans (u2_s))) ((u2_k (by decide)).trans (u2_s)) (u2_s) (s := st0 a b c) hK hJ0 rfl rfl rfl rfl rfl) rfl rfl rfl rfl rfl ⟨_, rfl, rfl, T_m, Nat.le_of_ble_eq_true rfl⟩ rfl rfl (Nat.le_of_ble_eq_true rfl) (Nat.le_of_ble_eq_true rfl) (Nat.le_of_ble_eq_true rfl) ?_
      rintro I1 L1 ⟨hI8, hF1, hs1⟩
      have hI8 := hI8.symm; subst hI8
      generalize hu : run 1000 (st0 a b c) = u at hs1
      obtain ⟨J_m_30, J_m_31, J_m_32, J_m_33, J_wl_0, J_wl_1, J_wl_2, J_wl_3⟩ := hs1
      have h3 : n.toInt = 0 ∨ n.toInt = 1 ∨ n.toInt = 2 ∨ n.toInt = 3 ∨ n.toInt = 4 ∨ n.toInt = 5 ∨ n.toInt = 6 ∨ n.toInt = 7 ∨ n.toInt = 8 := by omega
      rcases h3 with e | e | e | e | e | e | e | e | e
      · obtain rfl : n = 0 := Int32.toInt_inj.mp (by rw [e]; rfl)
        refine k_iload C rfl rfl rfl ?_
        refine k_if_ne C (t := 125) rfl rfl rfl (fun c115 => absurd c115 (by decide)) (fun _ => ?_)
        refine k_aload_n C rfl rfl rfl ?_
        refine g_L C rfl rfl rfl T_m rfl (J_m_30) ?_
        refine k_goto C (pc2 := 199) rfl rfl ?_
        exact k_lret C rfl rfl (Nat.le_of_ble_eq_true rfl) (Nat.le_of_ble_eq_true rfl) ⟨_, _, _, rfl, rfl, ⟨by rw [hu]; rfl, Fr.tr (Fr.l (Fr.l (Fr.l (Fr.i Fr.rf A_m) A_m) A_m) A_m) hF1, u2_s, (by first | exact IKm.i IKm.rf | exact IKm.i (IKm.i IKm.rf))⟩⟩
      · obtain rfl : n = 1 := Int32.toInt_inj.mp (by rw [e]; rfl)
        refine k_iload C rfl rfl rfl ?_
        refine k_if_ne C (t := 125) rfl rfl rfl (fun _ => ?_) (fun c115 => absurd (by decide) c115)
        refine k_iload C rfl rfl rfl ?_
        refine k_iconst C (x := 1) rfl rfl rfl ?_
        refine k_icmp_ne C (t := 138) rfl rfl rfl (fun c128 => absurd c128 (by decide)) (fun _ => ?_)
        refine k_aload_n C rfl rfl rfl ?_
        refine g_L C rfl rfl rfl T_m rfl (J_m_31) ?_
        refine k_goto C (pc2 := 199) rfl rfl ?_
        exact k_lret C rfl rfl (Nat.le_of_ble_eq_true rfl) (Nat.le_of_ble_eq_true rfl) ⟨_, _, _, rfl, rfl, ⟨by rw [hu]; rfl, Fr.tr (Fr.l (Fr.l (Fr.l (Fr.i Fr.rf A_m) A_m) A_m) A_m) hF1, u2_s, (by first | exact IKm.i IKm.rf | exact IKm.i (IKm.i IKm.rf))⟩⟩
      · obtain rfl : n = 2 := Int32.toInt_inj.mp (by rw [e]; rfl)
        refine k_iload C rfl rfl rfl ?_
        refine k_if_ne C (t := 125) rfl rfl rfl (fun _ => ?_) (fun c115 => absurd (by decide) c115)
        refine k_iload C rfl rfl rfl ?_
        refine k_iconst C (x := 1) rfl rfl rfl ?_
        refine k_icmp_ne C (t := 138) rfl rfl rfl (fun _ => ?_) (fun c128 => absurd (by decide) c128)
        refine k_iload C rfl rfl rfl ?_
        refine k_iconst C (x := 2) rfl rfl rfl ?_
        refine k_icmp_ne C (t := 151) rfl rfl rfl (fun c141 => absurd c141 (by decide)) (fun _ => ?_)
        refine k_aload_n C rfl rfl rfl ?_
        refine g_L C rfl rfl rfl T_m rfl (J_m_32) ?_
        refine k_goto C (pc2 := 199) rfl rfl ?_
        exact k_lret C rfl rfl (Nat.le_of_ble_eq_true rfl) (Nat.le_of_ble_eq_true rfl) ⟨_, _, _, rfl, rfl, ⟨by rw [hu]; rfl, Fr.tr (Fr.l (Fr.l (Fr.l (Fr.i Fr.rf A_m) A_m) A_m) A_m) hF1, u2_s, (by first | exact IKm.i IKm.rf | exact IKm.i (IKm.i IKm.rf))⟩⟩
      · obtain rfl : n = 3 := Int32.toInt_inj.mp (by rw [e]; rfl)
        refine k_iload C rfl rfl rfl ?_
        refine k_if_ne C (t := 125) rfl rfl rfl (fun _ => ?_) (fun c115 => absurd (by decide) c115)
        refine k_iload C rfl rfl rfl ?_
        refine k_iconst C (x := 1) rfl rfl rfl ?_
        refine k_icmp_ne C (t := 138) rfl rfl rfl (fun _ => ?_) (fun c128 => absurd (by decide) c128)
        refine k_iload C rfl rfl rfl ?_
        refine k_iconst C (x := 2) rfl rfl rfl ?_
        refine k_icmp_ne C (t := 151) rfl rfl rfl (fun _ => ?_) (fun c141 => absurd (by decide) c141)
        refine k_iload C rfl rfl rfl ?_
        refine k_iconst C (x := 3) rfl rfl rfl ?_
        refine k_icmp_ne C (t := 164) rfl rfl rfl (fun c154 => absurd c154 (by decide)) (fun _ => ?_)
        refine k_aload_n C rfl rfl rfl ?_
        refine g_L C rfl rfl rfl T_m rfl (J_m_33) ?_
        refine k_goto C (pc2 := 199) rfl rfl ?_
        exact k_lret C rfl rfl (Nat.le_of_ble_eq_true rfl) (Nat.le_of_ble_eq_true rfl) ⟨_, _, _, rfl, rfl, ⟨by rw [hu]; rfl, Fr.tr (Fr.l (Fr.l (Fr.l (Fr.i Fr.rf A_m) A_m) A_m) A_m) hF1, u2_s, (by first | exact IKm.i IKm.rf | exact IKm.i (IKm.i IKm.rf))⟩⟩
      · obtain rfl : n = 4 := Int32.toInt_inj.mp (by rw [e]; rfl)
        refine k_iload C rfl rfl rfl ?_
        refine k_if_ne C (t := 125) rfl rfl rfl (fun _ => ?_) (fun c115 => absurd (by decide) c115)
        refine k_iload C rfl rfl rfl ?_
        refine k_iconst C (x := 1) rfl rfl rfl ?_
        refine k_icmp_ne C (t := 138) rfl rfl rfl (fun _ => ?_) (fun c128 => absurd (by decide) c128)
        refine k_iload C rfl rfl rfl ?_
        refine k_iconst C (x := 2) rfl rfl rfl ?_
        refine k_icmp_ne C (t := 151) rfl rfl rfl (fun _ => ?_) (fun c141 => absurd (by decide) c141)
        refine k_iload C rfl rfl rfl ?_
        refine k_iconst C (x := 3) rfl rfl rfl ?_
        refine k_icmp_ne C (t := 164) rfl rfl rfl (fun _ => ?_) (fun c154 => absurd (by decide) c154)
        refine k_iload C rfl rfl rfl ?_
        refine k_bipush C (x := 8) rfl rfl rfl ?_
        refine k_icmp_ne C (t := 190) rfl rfl rfl (fun _ => ?_) (fun c168 => absurd (by decide) c168)
        refine k_aload_n C rfl rfl rfl ?_
        refine g_R C rfl rfl rfl T_m rfl R_m_34 ?_
        refine k_iload C rfl rfl rfl ?_
        refine k_iconst C (x := 4) rfl rfl rfl ?_
        refine k_isub C rfl rfl ?_
        refine a_L C rfl rfl T_wl (vin (n := 0) (by decide) (by rw [N_wl]; exact Nat.le_of_ble_eq_true rfl) (by rw [N_wl]; exact Nat.le_of_ble_eq_true rfl)) (show L1 wl _ = u 4 from J_wl_0) ?_
        exact k_lret C rfl rfl (Nat.le_of_ble_eq_true rfl) (Nat.le_of_ble_eq_true rfl) ⟨_, _, _, rfl, rfl, ⟨by rw [hu]; rfl, Fr.tr (Fr.l (Fr.l (Fr.l (Fr.i Fr.rf A_m) A_m) A_m) A_m) hF1, u2_s, (by first | exact IKm.i IKm.rf | exact IKm.i (IKm.i IKm.rf))⟩⟩
      · obtain rfl : n = 5 := Int32.toInt_inj.mp (by rw [e]; rfl)
        refine k_iload C rfl rfl rfl ?_
        refine k_if_ne C (t := 125) rfl rfl rfl (fun _ => ?_) (fun c115 => absurd (by decide) c115)
        refine k_iload C rfl rfl rfl ?_
        refine k_iconst C (x := 1) rfl rfl rfl ?_
        refine k_icmp_ne C (t := 138) rfl rfl rfl (fun _ => ?_) (fun c128 => absurd (by decide) c128)
        refine k_iload C rfl rfl rfl ?_
        refine k_iconst C (x := 2) rfl rfl rfl ?_
        refine k_icmp_ne C (t := 151) rfl rfl rfl (fun _ => ?_) (fun c141 => absurd (by decide) c141)
        refine k_iload C rfl rfl rfl ?_
        refine k_iconst C (x := 3) rfl rfl rfl ?_
        refine k_icmp_ne C (t := 164) rfl rfl rfl (fun _ => ?_) (fun c154 => absurd (by decide) c154)
        refine k_iload C rfl rfl rfl ?_
        refine k_bipush C (x := 8) rfl rfl rfl ?_
        refine k_icmp_ne C (t := 190) rfl rfl rfl (fun _ => ?_) (fun c168 => absurd (by decide) c168)
        refine k_aload_n C rfl rfl rfl ?_
        refine g_R C rfl rfl rfl T_m rfl R_m_34 ?_
        refine k_iload C rfl rfl rfl ?_
        refine k_iconst C (x := 4) rfl rfl rfl ?_
        refine k_isub C rfl rfl ?_
        refine a_L C rfl rfl T_wl (vin (n := 1) (by decide) (by rw [N_wl]; exact Nat.le_of_ble_eq_true rfl) (by rw [N_wl]; exact Nat.le_of_ble_eq_true rfl)) (show L1 wl _ = u 5 from J_wl_1) ?_
        exact k_lret C rfl rfl (Nat.le_of_ble_eq_true rfl) (Nat.le_of_ble_eq_true rfl) ⟨_, _, _, rfl, rfl, ⟨by rw [hu]; rfl, Fr.tr (Fr.l (Fr.l (Fr.l (Fr.i Fr.rf A_m) A_m) A_m) A_m) hF1, u2_s, (by first | exact IKm.i IKm.rf | exact IKm.i (IKm.i IKm.rf))⟩⟩
      · obtain rfl : n = 6 := Int32.toInt_inj.mp (by rw [e]; rfl)
        refine k_iload C rfl rfl rfl ?_
        refine k_if_ne C (t := 125) rfl rfl rfl (fun _ => ?_) (fun c115 => absurd (by decide) c115)
        refine k_iload C rfl rfl rfl ?_
        refine k_iconst C (x := 1) rfl rfl rfl ?_
        refine k_icmp_ne C (t := 138) rfl rfl rfl (fun _ => ?_) (fun c128 => absurd (by decide) c128)
        refine k_iload C rfl rfl rfl ?_
        refine k_iconst C (x := 2) rfl rfl rfl ?_
        refine k_icmp_ne C (t := 151) rfl rfl rfl (fun _ => ?_) (fun c141 => absurd (by decide) c141)
        refine k_iload C rfl rfl rfl ?_
        refine k_iconst C (x := 3) rfl rfl rfl ?_
        refine k_icmp_ne C (t := 164) rfl rfl rfl (fun _ => ?_) (fun c154 => absurd (by decide) c154)
        refine k_iload C rfl rfl rfl ?_
        refine k_bipush C (x := 8) rfl rfl rfl ?_
        refine k_icmp_ne C (t := 190) rfl rfl rfl (fun _ => ?_) (fun c168 => absurd (by decide) c168)
        refine k_aload_n C rfl rfl rfl ?_
        refine g_R C rfl rfl rfl T_m rfl R_m_34 ?_
        refine k_iload C rfl rfl rfl ?_
        refine k_iconst C (x := 4) rfl rfl rfl ?_
        refine k_isub C rfl rfl ?_
        refine a_L C rfl rfl T_wl (vin (n := 2) (by decide) (by rw [N_wl]; exact Nat.le_of_ble_eq_true rfl) (by rw [N_wl]; exact Nat.le_of_ble_eq_true rfl)) (show L1 wl _ = u 6 from J_wl_2) ?_
        exact k_lret C rfl rfl (Nat.le_of_ble_eq_true rfl) (Nat.le_of_ble_eq_true rfl) ⟨_, _, _, rfl, rfl, ⟨by rw [hu]; rfl, Fr.tr (Fr.l (Fr.l (Fr.l (Fr.i Fr.rf A_m) A_m) A_m) A_m) hF1, u2_s, (by first | exact IKm.i IKm.rf | exact IKm.i (IKm.i IKm.rf))⟩⟩
      · obtain rfl : n = 7 := Int32.toInt_inj.mp (by rw [e]; rfl)
        refine k_iload C rfl rfl rfl ?_
        refine k_if_ne C (t := 125) rfl rfl rfl (fun _ => ?_) (fun c115 => absurd (by decide) c115)
        refine k_iload C rfl rfl rfl ?_
        refine k_iconst C (x := 1) rfl rfl rfl ?_
        refine k_icmp_ne C (t := 138) rfl rfl rfl (fun _ => ?_) (fun c128 => absurd (by decide) c128)
        refine k_iload C rfl rfl rfl ?_
        refine k_iconst C (x := 2) rfl rfl rfl ?_
        refine k_icmp_ne C (t := 151) rfl rfl rfl (fun _ => ?_) (fun c141 => absurd (by decide) c141)
        refine k_iload C rfl rfl rfl ?_
        refine k_iconst C (x := 3) rfl rfl rfl ?_
        refine k_icmp_ne C (t := 164) rfl rfl rfl (fun _ => ?_) (fun c154 => absurd (by decide) c154)
        refine k_iload C rfl rfl rfl ?_
        refine k_bipush C (x := 8) rfl rfl rfl ?_
        refine k_icmp_ne C (t := 190) rfl rfl rfl (fun _ => ?_) (fun c168 => absurd (by decide) c168)
        refine k_aload_n C rfl rfl rfl ?_
        refine g_R C rfl rfl rfl T_m rfl R_m_34 ?_
        refine k_iload C rfl rfl rfl ?_
        refine k_iconst C (x := 4) rfl rfl rfl ?_
        refine k_isub C rfl rfl ?_
        refine a_L C rfl rfl T_wl (vin (n := 3) (by decide) (by rw [N_wl]; exact Nat.le_of_ble_eq_true rfl) (by rw [N_wl]; exact Nat.le_of_ble_eq_true rfl)) (show L1 wl _ = u 7 from J_wl_3) ?_
        exact k_lret C rfl rfl (Nat.le_of_ble_eq_true rfl) (Nat.le_of_ble_eq_true rfl) ⟨_, _, _, rfl, rfl, ⟨by rw [hu]; rfl, Fr.tr (Fr.l (Fr.l (Fr.l (Fr.i Fr.rf A_m) A_m) A_m) A_m) hF1, u2_s, (by first | exact IKm.i IKm.rf | exact IKm.i (IKm.i IKm.rf))⟩⟩
      · obtain rfl : n = 8 := Int32.toInt_inj.mp (by rw [e]; rfl)
        refine k_iload C rfl rfl rfl ?_
        refine k_if_ne C (t := 125) rfl rfl rfl (fun _ => ?_) (fun c115 => absurd (by decide) c115)
        refine k_iload C rfl rfl rfl ?_
        refine k_iconst C (x := 1) rfl rfl rfl ?_
        refine k_icmp_ne C (t := 138) rfl rfl rfl (fun _ => ?_) (fun c128 => absurd (by decide) c128)
        refine k_iload C rfl rfl rfl ?_
        refine k_iconst C (x := 2) rfl rfl rfl ?_
        refine k_icmp_ne C (t := 151) rfl rfl rfl (fun _ => ?_) (fun c141 => absurd (by decide) c141)
        refine k_iload C rfl rfl rfl ?_
        refine k_iconst C (x := 3) rfl rfl rfl ?_
        refine k_icmp_ne C (t := 164) rfl rfl rfl (fun _ => ?_) (fun c154 => absurd (by decide) c154)
        refine k_iload C rfl rfl rfl ?_
        refine k_bipush C (x := 8) rfl rfl rfl ?_
        refine k_icmp_ne C (t := 190) rfl rfl rfl (fun c168 => absurd c168 (by decide)) (fun _ => ?_)
        refine k_aload_n C rfl rfl rfl ?_
        refine g_L C rfl rfl rfl T_m rfl (J_m_30) ?_
        refine k_aload_n C rfl rfl rfl ?_
        refine g_L C rfl rfl rfl T_m rfl (J_m_31) ?_
        refine k_aload_n C rfl rfl rfl ?_
        refine g_L C rfl rfl rfl T_m rfl (J_m_32) ?_
        refine c_SI C e_m_turnsOf rfl rfl rfl rfl rfl rfl rfl (Nat.le_of_ble_eq_true rfl) (Nat.le_of_ble_eq_true rfl) (Nat.le_of_ble_eq_true rfl) ?_
        rintro _ _ _ ⟨hx7, hI8, hL9⟩
        have hx7 := hx7.symm; subst hx7
        have hI8 := hI8.symm; subst hI8; have hL9 := hL9.symm; subst hL9
        refine k_i2l C rfl rfl ?_
        refine k_goto C (pc2 := 199) rfl rfl ?_
        exact k_lret C rfl rfl (Nat.le_of_ble_eq_true rfl) (Nat.le_of_ble_eq_true rfl) ⟨_, _, _, rfl, rfl, ⟨by rw [hu]; rfl, Fr.tr (Fr.l (Fr.l (Fr.l (Fr.i Fr.rf A_m) A_m) A_m) A_m) hF1, u2_s, (by first | exact IKm.i IKm.rf | exact IKm.i (IKm.i IKm.rf))⟩⟩
      skip
    exact absurd (inN (in08.mpr hn)) c92
  exact absurd ((disc64 hok.1 hok.2.1 hok.2.2.1).mpr hok.2.2.2.2) c63
end
-- 39.38.gcd.lean.txt
section
/-! greatest divisors -/
theorem absN {x : Int32} (h : -2147483648 < x.toInt) : (if 0 ≤ x then x else -x) = Int32.ofNat x.toInt.natAbs := by
  have hl := x.toInt_lt
  have e0 : (0 : Int32).toInt = 0 := rfl
  apply Int32.toInt_inj.mp
  by_cases q : 0 ≤ x
  · rw [if_pos q, n_int (by omega)]
    have := i_le.mp q
    omega
  · rw [if_neg q, n_int (by omega), Int32.toInt_neg, Int.bmod_eq_of_le (by omega) (by omega)]
    have q2 : ¬ (0 : Int32).toInt ≤ x.toInt := fun e => q (i_le.mpr e)
    omega
theorem n_rem {a b : Nat} (ha : a < 2147483648) (hb : b < 2147483648) (h : b ≠ 0) : Int32.ofNat a - Int32.ofNat a / Int32.ofNat b * Int32.ofNat b = Int32.ofNat (a % b) := by
  have hm := Nat.mod_lt a (Nat.pos_of_ne_zero h)
  apply Int32.toInt_inj.mp
  rw [i_rem (by rw [n_int hb]; omega), n_int ha, n_int hb, n_int (by omega), Int.tmod_eq_emod_of_nonneg (by omega)]
  exact (Int.natCast_emod a b).symm
theorem e_divisor {d : Nat} {T N : Nat → Nat} {I : IT} {L : LT} {R : RT} {a b : Int32}  (ha : -2147483648 < a.toInt) (hb : -2147483648 < b.toInt) (hs : b.toInt.natAbs ≤ 99 ∨ a.toInt.natAbs ≤ 98) : Ex (d + 2) 119 [.int a, .int b] (T, N, I, L, R) 0 0 (pI T N R (fun x9 I9 L9 => x9 = (Int32.ofNat (Nat.gcd a.toInt.natAbs b.toInt.natAbs)) ∧ I9 = I ∧ L9 = L)) := by
  refine ⟨_, rfl, Nat.le_of_ble_eq_true rfl, fun V C S => ?_⟩
  show V 0 [(0, .int a), (1, .int b)] [] (T, N, I, L, R) 0 0
  have hal := a.toInt_lt
  have hbl := b.toInt_lt
  have loop : ∀ (y i x : Nat) (y' : Nat), y' = y → (i + y ≤ 99 ∨ i + 1 + x ≤ 99) → x < 2147483648 → y < 2147483648 → Nat.gcd x y = Nat.gcd a.toInt.natAbs b.toInt.natAbs → V 13 [(4, .int (Int32.ofNat i)), (3, .int (Int32.ofNat y)), (2, .int (Int32.ofNat x)), (0, .int a), (1, .int b)] [] (T, N, I, L, R) 0 0 := by
    intro y
    induction y using Nat.strongRecOn with
    | _ y ih =>
      intro i x y' hy' hi hx hyb hg
      refine k_iload C rfl rfl rfl ?_
      refine k_bipush C (x := 100) rfl rfl rfl ?_
      refine k_icmp_ge C (t := 40) rfl rfl rfl (fun c17 => ?_) (fun c17 => ?_)
      · skip
        exact absurd ((n_le (a := 100) (b := i) (by omega) (by omega)).mp c17) (by omega)
      refine k_iload_n C rfl rfl rfl ?_
      refine k_if_eq C (t := 40) rfl rfl rfl (fun c21 => ?_) (fun c21 => ?_)
      · skip
        have hy : y = 0 := (n_eq (b := 0) (by omega) (by omega)).mp c21
        subst hy
        refine k_iload_n C rfl rfl rfl ?_
        exact k_iret C rfl (Or.inl rfl) (Nat.le_of_ble_eq_true rfl) (Nat.le_of_ble_eq_true rfl) ⟨_, _, _, rfl, rfl, by rw [← hg, Nat.gcd_zero_right], rfl, rfl⟩
      have hy : y ≠ 0 := fun e => c21 (by rw [e]; rfl)
      refine k_iload_n C rfl rfl rfl ?_
      refine k_iload_n C rfl rfl rfl ?_
      refine k_irem C rfl rfl (i_ne0 (by rw [n_int (by omega)]; omega)) ?_
      refine k_istore C (lw := [(5, .int _), (4, .int _), (3, .int _), (2, .int _), (0, .int _), (1, .int _)]) rfl rfl (Nat.le_of_ble_eq_true rfl) rfl ?_
      refine k_iload_n C rfl rfl rfl ?_
      refine k_istore_n C (lw := [(2, .int _), (5, .int _), (4, .int _), (3, .int _), (0, .int _), (1, .int _)]) rfl rfl (Nat.le_of_ble_eq_true rfl) rfl ?_
      refine k_iload C rfl rfl rfl ?_
      refine k_istore_n C (lw := [(3, .int _), (2, .int _), (5, .int _), (4, .int _), (0, .int _), (1, .int _)]) rfl rfl (Nat.le_of_ble_eq_true rfl) rfl ?_
      rw [n_rem (by omega) (by omega) hy]
      have hm := Nat.mod_lt x (Nat.pos_of_ne_zero hy)
      have hmx := Nat.mod_le x y
      refine k_sub S [(4, .int (Int32.ofNat i)), (3, .int (Int32.ofNat (x % y))), (2, .int (Int32.ofNat y)), (0, .int a), (1, .int b)] (List.forall_mem_cons.mpr ⟨List.mem_of_getElem? (i := 3) rfl, List.forall_mem_cons.mpr ⟨List.mem_of_getElem? (i := 0) rfl, List.forall_mem_cons.mpr ⟨List.mem_of_getElem? (i := 1) rfl, List.forall_mem_cons.mpr ⟨List.mem_of_getElem? (i := 4) rfl, List.forall_mem_cons.mpr ⟨List.mem_of_getElem? (i := 5) rfl, fun _ h => nomatch h⟩⟩⟩⟩⟩) ?_
      refine k_inc1 C (lw := [(4, .int _), (3, .int _), (2, .int _), (0, .int _), (1, .int _)]) rfl rfl rfl (Nat.le_of_ble_eq_true rfl) rfl ?_
      refine k_goto C (pc2 := 13) rfl rfl ?_
      rw [n_s]
      exact ih (x % y) hm (i + 1) y _ rfl (by omega) (by omega) (by omega) (by rw [← hg, Nat.gcd_comm y, ← Nat.gcd_rec, Nat.gcd_comm])
  refine k_iload_n C rfl rfl rfl ?_
  refine c_SI C (e_abs (x := a)) rfl rfl rfl rfl rfl rfl rfl (Nat.le_of_ble_eq_true rfl) (Nat.le_of_ble_eq_true rfl) (Nat.le_of_ble_eq_true rfl) ?_
  rintro _ _ _ ⟨hx7, hI8, hL9⟩
  have hx7 := hx7.symm; subst hx7
  have hI8 := hI8.symm; subst hI8; have hL9 := hL9.symm; subst hL9
  rw [absN ha]
  refine k_istore_n C (lw := [(2, .int _), (0, .int _), (1, .int _)]) rfl rfl (Nat.le_of_ble_eq_true rfl) rfl ?_
  refine k_iload_n C rfl rfl rfl ?_
  refine c_SI C (e_abs (x := b)) rfl rfl rfl rfl rfl rfl rfl (Nat.le_of_ble_eq_true rfl) (Nat.le_of_ble_eq_true rfl) (Nat.le_of_ble_eq_true rfl) ?_
  rintro _ _ _ ⟨hx7, hI8, hL9⟩
  have hx7 := hx7.symm; subst hx7
  have hI8 := hI8.symm; subst hI8; have hL9 := hL9.symm; subst hL9
  rw [absN hb]
  refine k_istore_n C (lw := [(3, .int _), (2, .int _), (0, .int _), (1, .int _)]) rfl rfl (Nat.le_of_ble_eq_true rfl) rfl ?_
  refine k_iconst C (x := 0) rfl rfl rfl ?_
  refine k_istore C (lw := [(4, .int _), (3, .int _), (2, .int _), (0, .int _), (1, .int _)]) rfl rfl (Nat.le_of_ble_eq_true rfl) rfl ?_
  exact loop _ 0 _ _ rfl (by omega) (by omega) (by omega) rfl


theorem e_m_shared {d : Nat} {T N : Nat → Nat} {I : IT} {L : LT} {R : RT} {a b : Int32}  (ha : -2147483648 < a.toInt) (hb : -2147483648 < b.toInt) : Ex (d + 2) 304 [.int a, .int b] (T, N, I, L, R) 0 0 (pI T N R (fun x9 I9 L9 => x9 = (Int32.ofNat (Nat.gcd a.toInt.natAbs b.toInt.natAbs)) ∧ I9 = I ∧ L9 = L)) := by
  refine ⟨_, rfl, Nat.le_of_ble_eq_true rfl, fun V C S => ?_⟩
  show V 0 [(0, .int a), (1, .int b)] [] (T, N, I, L, R) 0 0
  have hal := a.toInt_lt
  have hbl := b.toInt_lt
  have loop : ∀ (y x : Nat), x < 2147483648 → y < 2147483648 → Nat.gcd x y = Nat.gcd a.toInt.natAbs b.toInt.natAbs → V 10 [(3, .int (Int32.ofNat y)), (2, .int (Int32.ofNat x)), (0, .int a), (1, .int b)] [] (T, N, I, L, R) 0 0 := by
    intro y
    induction y using Nat.strongRecOn with
    | _ y ih =>
      intro x hx hyb hg
      refine k_iload_n C rfl rfl rfl ?_
      refine k_if_eq C (t := 27) rfl rfl rfl (fun c11 => ?_) (fun c11 => ?_)
      · skip
        have hy : y = 0 := (n_eq (b := 0) (by omega) (by omega)).mp c11
        subst hy
        refine k_iload_n C rfl rfl rfl ?_
        exact k_iret C rfl (Or.inl rfl) (Nat.le_of_ble_eq_true rfl) (Nat.le_of_ble_eq_true rfl) ⟨_, _, _, rfl, rfl, by rw [← hg, Nat.gcd_zero_right], rfl, rfl⟩
      have hy : y ≠ 0 := fun e => c11 (by rw [e]; rfl)
      refine k_iload_n C rfl rfl rfl ?_
      refine k_iload_n C rfl rfl rfl ?_
      refine k_irem C rfl rfl (i_ne0 (by rw [n_int (by omega)]; omega)) ?_
      refine k_istore C (lw := [(4, .int _), (3, .int _), (2, .int _), (0, .int _), (1, .int _)]) rfl rfl (Nat.le_of_ble_eq_true rfl) rfl ?_
      refine k_iload_n C rfl rfl rfl ?_
      refine k_istore_n C (lw := [(2, .int _), (4, .int _), (3, .int _), (0, .int _), (1, .int _)]) rfl rfl (Nat.le_of_ble_eq_true rfl) rfl ?_
      refine k_iload C rfl rfl rfl ?_
      refine k_istore_n C (lw := [(3, .int _), (2, .int _), (4, .int _), (0, .int _), (1, .int _)]) rfl rfl (Nat.le_of_ble_eq_true rfl) rfl ?_
      rw [n_rem (by omega) (by omega) hy]
      have hm := Nat.mod_lt x (Nat.pos_of_ne_zero hy)
      refine k_sub S [(3, .int (Int32.ofNat (x % y))), (2, .int (Int32.ofNat y)), (0, .int a), (1, .int b)] (List.forall_mem_cons.mpr ⟨List.mem_of_getElem? (i := 0) rfl, List.forall_mem_cons.mpr ⟨List.mem_of_getElem? (i := 1) rfl, List.forall_mem_cons.mpr ⟨List.mem_of_getElem? (i := 3) rfl, List.forall_mem_cons.mpr ⟨List.mem_of_getElem? (i := 4) rfl, fun _ h => nomatch h⟩⟩⟩⟩) ?_
      refine k_goto C (pc2 := 10) rfl rfl ?_
      exact ih (x % y) hm y (by omega) (by omega) (by rw [← hg, Nat.gcd_comm y, ← Nat.gcd_rec, Nat.gcd_comm])
  refine k_iload_n C rfl rfl rfl ?_
  refine c_SI C (e_abs (x := a)) rfl rfl rfl rfl rfl rfl rfl (Nat.le_of_ble_eq_true rfl) (Nat.le_of_ble_eq_true rfl) (Nat.le_of_ble_eq_true rfl) ?_
  rintro _ _ _ ⟨hx7, hI8, hL9⟩
  have hx7 := hx7.symm; subst hx7
  have hI8 := hI8.symm; subst hI8; have hL9 := hL9.symm; subst hL9
  rw [absN ha]
  refine k_istore_n C (lw := [(2, .int _), (0, .int _), (1, .int _)]) rfl rfl (Nat.le_of_ble_eq_true rfl) rfl ?_
  refine k_iload_n C rfl rfl rfl ?_
  refine c_SI C (e_abs (x := b)) rfl rfl rfl rfl rfl rfl rfl (Nat.le_of_ble_eq_true rfl) (Nat.le_of_ble_eq_true rfl) (Nat.le_of_ble_eq_true rfl) ?_
  rintro _ _ _ ⟨hx7, hI8, hL9⟩
  have hx7 := hx7.symm; subst hx7
  have hI8 := hI8.symm; subst hI8; have hL9 := hL9.symm; subst hL9
  rw [absN hb]
  refine k_istore_n C (lw := [(3, .int _), (2, .int _), (0, .int _), (1, .int _)]) rfl rfl (Nat.le_of_ble_eq_true rfl) rfl ?_
  exact loop _ _ (by omega) (by omega) rfl
end
-- 39.39.seek.lean.txt
section
/-! CLASSES: the reduced ones, in their order -/
abbrev SG : Type := Int32 × Int32 × Int32 × Int32
def frP (D i j : Int32) : Int32 := j * j - D
def ltP (D i j : Int32) : Int32 := frP D i j / (4 * i)
def rmP (D i j : Int32) : Int32 := frP D i j - frP D i j / (4 * i) * (4 * i)
def gdP (D i j : Int32) : Nat := Nat.gcd (Int32.ofNat (Nat.gcd i.toInt.natAbs j.toInt.natAbs)).toInt.natAbs (ltP D i j).toInt.natAbs
def acP (D z i j : Int32) : Prop := rmP D i j = 0 ∧ (i < ltP D i j ∨ (ltP D i j = i ∧ 0 ≤ j)) ∧ (¬ z = 0 ∨ gdP D i j = 1)
noncomputable def sk1 (D z k i j : Int32) (s : SG) : SG := @ite _ (acP D z i j) (Classical.propDecidable _) (s.1 + 1, @ite _ (s.1 = k) (Classical.propDecidable _) (i, j, ltP D i j) s.2) s
noncomputable def itJ (D z k i : Int32) : Nat → Int32 → SG → SG
  | 0, _, s => s
  | n + 1, j, s => itJ D z k i n (j + 1) (sk1 D z k i j s)
noncomputable def itI (D z k : Int32) : Nat → Nat → SG → SG
  | 0, _, s => s
  | n + 1, i, s => @ite _ (-D < 3 * Int32.ofNat i * Int32.ofNat i) (Classical.propDecidable _) s (itI D z k n (i + 1) (itJ D z k (Int32.ofNat i) (2 * i) (1 - Int32.ofNat i) s))
theorem sk1_y {D z k i j : Int32} {s : SG} (h : acP D z i j) (hk : s.1 = k) : sk1 D z k i j s = (s.1 + 1, i, j, ltP D i j) := by unfold sk1; rw [if_pos h, if_pos hk]
theorem sk1_m {D z k i j : Int32} {s : SG} (h : acP D z i j) (hk : ¬ s.1 = k) : sk1 D z k i j s = (s.1 + 1, s.2) := by unfold sk1; rw [if_pos h, if_neg hk]
theorem sk1_n {D z k i j : Int32} {s : SG} (h : ¬ acP D z i j) : sk1 D z k i j s = s := by unfold sk1; rw [if_neg h]
theorem fr_int {D j : Int32} (hD : isDc D) (hj : -57 ≤ j.toInt ∧ j.toInt ≤ 57) (i : Int32) : (frP D i j).toInt = j.toInt * j.toInt - D.toInt ∧ 3 ≤ (frP D i j).toInt ∧ (frP D i j).toInt ≤ 20000 := by
  have sq := sq_bd hj
  have e1 := ii_mul (x := j) (y := j) (by omega)
  obtain ⟨d1, d2, -⟩ := hD
  have e2 : (frP D i j).toInt = j.toInt * j.toInt - D.toInt := by unfold frP; rw [ii_sub (by rw [e1]; omega), e1]
  omega
theorem i4_int {i : Nat} (hi : 1 ≤ i ∧ i ≤ 57) : (4 * Int32.ofNat i).toInt = 4 * (i : Int) := by
  have e4 : (4 : Int32).toInt = 4 := rfl
  rw [ii_mul (by rw [e4, n_int (by omega)]; omega), e4, n_int (by omega)]
theorem lt_int {D j : Int32} {i : Nat} (hD : isDc D) (hj : -57 ≤ j.toInt ∧ j.toInt ≤ 57) (hi : 1 ≤ i ∧ i ≤ 57) : 0 ≤ (ltP D (Int32.ofNat i) j).toInt ∧ (ltP D (Int32.ofNat i) j).toInt ≤ 20000 := by
  obtain ⟨f1, f2, f3⟩ := fr_int hD hj (Int32.ofNat i)
  have e4 := i4_int hi
  unfold ltP
  rw [Int32.toInt_div_of_ne_right _ _ (by intro h; rw [h] at e4; have : (-1 : Int32).toInt = -1 := rfl; omega), e4, Int.tdiv_eq_ediv_of_nonneg (by omega)]
  have q1 := Int.ediv_nonneg (a := (frP D (Int32.ofNat i) j).toInt) (b := 4 * (i : Int)) (by omega) (by omega)
  have q2 := Int.ediv_le_self (a := (frP D (Int32.ofNat i) j).toInt) (4 * (i : Int)) (by omega)
  omega
theorem gd_bd {i : Nat} {j : Int32} (hi : 1 ≤ i ∧ i ≤ 57) : 1 ≤ Nat.gcd (Int32.ofNat i).toInt.natAbs j.toInt.natAbs ∧ Nat.gcd (Int32.ofNat i).toInt.natAbs j.toInt.natAbs ≤ 57 := by
  rw [n_int (by omega)]
  have h1 : ((i : Int).natAbs) = i := Int.natAbs_natCast i
  rw [h1]
  have := Nat.gcd_le_left j.toInt.natAbs (show 0 < i by omega)
  have := Nat.gcd_pos_of_pos_left j.toInt.natAbs (show 0 < i by omega)
  omega
theorem gg_bd {D : Int32} {i : Nat} {j : Int32} (hi : 1 ≤ i ∧ i ≤ 57) : 1 ≤ gdP D (Int32.ofNat i) j ∧ gdP D (Int32.ofNat i) j ≤ 57 := by
  have h := gd_bd (j := j) hi
  unfold gdP
  generalize Nat.gcd (Int32.ofNat i).toInt.natAbs j.toInt.natAbs = g at h
  rw [n_int (by omega), Int.natAbs_natCast]
  have := Nat.gcd_le_left (ltP D (Int32.ofNat i) j).toInt.natAbs (show 0 < g by omega)
  have := Nat.gcd_pos_of_pos_left (ltP D (Int32.ofNat i) j).toInt.natAbs (show 0 < g by omega)
  omega
theorem i3_int {i : Nat} (hi : i ≤ 58) : (3 * Int32.ofNat i * Int32.ofNat i).toInt = 3 * ((i * i : Nat) : Int) := by
  have e4 : (3 : Int32).toInt = 3 := rfl
  have hm : i * i ≤ 58 * 58 := Nat.mul_le_mul hi hi
  have e5 : (3 * Int32.ofNat i).toInt = 3 * (i : Int) := by rw [ii_mul (by rw [e4, n_int (by omega)]; omega), e4, n_int (by omega)]
  have e6 : 3 * (i : Int) * (i : Int) = 3 * ((i * i : Nat) : Int) := by rw [Int.mul_assoc, Int.natCast_mul]
  rw [ii_mul (by rw [e5, n_int (by omega), e6]; omega), e5, n_int (by omega), e6]
theorem neg32 {D : Int32} (hD : isDc D) : (-D).toInt = -D.toInt := by
  obtain ⟨d1, d2, -⟩ := hD
  rw [Int32.toInt_neg]; exact Int.bmod_eq_of_le (by omega) (by omega)
set_option maxHeartbeats 2000000 in
theorem lt_step {k n : Int32} (h : k < n + 1) (c : ¬ n = k) : k < n := by
  have h1 := rg k
  have h2 := rg n
  rw [i_lt] at h ⊢
  by_cases q : n.toInt = 2147483647
  · have e : n = 2147483647 := Int32.toInt_inj.mp q
    subst e
    have e2 : ((2147483647 : Int32) + 1).toInt = -2147483648 := rfl
    omega
  · have e1 : (1 : Int32).toInt = 1 := rfl
    rw [ii_add (by omega), e1] at h
    have : n.toInt ≠ k.toInt := fun e => c (Int32.toInt_inj.mp e)
    omega
def SKc (k : Int32) (s : SG) (L : LT) (w : Nat) : Prop := 0 ≤ k → k < s.1 → L w 0 = s.2.1.toInt64 ∧ L w 1 = s.2.2.1.toInt64 ∧ L w 2 = s.2.2.2.toInt64
theorem SKc.z {k a b c : Int32} {L : LT} {w : Nat} : SKc k (0, a, b, c) L w := fun h1 h2 => absurd h2 (Int32.not_lt.mpr h1)
theorem SKc.h {k n a b c : Int32} {L : LT} {w : Nat} : SKc k (n, a, b, c) (u2 (u2 (u2 L w 0 a.toInt64) w 1 b.toInt64) w 2 c.toInt64) w := fun _ _ => ⟨(u2_k (by decide)).trans ((u2_k (by decide)).trans (u2_s)), (u2_k (by decide)).trans (u2_s), u2_s⟩
theorem SKc.m {k : Int32} {s : SG} {L : LT} {w : Nat} (h : SKc k s L w) (c : ¬ s.1 = k) : SKc k (s.1 + 1, s.2) L w := fun h1 h2 => h h1 (lt_step h2 c)
def SKi (k : Int32) (s : SG) (I : IT) (m : Nat) : Prop := 0 ≤ k → k < s.1 → I m 35 = s.2.1 ∧ I m 36 = s.2.2.1 ∧ I m 37 = s.2.2.2
theorem SKi.z {k a b c : Int32} {I : IT} {m : Nat} : SKi k (0, a, b, c) I m := fun h1 h2 => absurd h2 (Int32.not_lt.mpr h1)
theorem SKi.h {k n a b c : Int32} {I : IT} {m : Nat} : SKi k (n, a, b, c) (u2 (u2 (u2 I m 35 a) m 36 b) m 37 c) m := fun _ _ => ⟨(u2_k (by decide)).trans ((u2_k (by decide)).trans (u2_s)), (u2_k (by decide)).trans (u2_s), u2_s⟩
theorem SKi.m {k : Int32} {s : SG} {I : IT} {m : Nat} (h : SKi k s I m) (c : ¬ s.1 = k) : SKi k (s.1 + 1, s.2) I m := fun h1 h2 => h h1 (lt_step h2 c)
theorem cs_inner {d : Nat} {V : V_T} {q : mm_T} {Post : Po} {T N : Nat → Nat} {R : RT} {A : Nat → Prop} {I : IT} {L : LT} {wh : Nat} {D z k : Int32} {i : Nat} (hq : P_mq 120 = some q) (C : Cl (d + 2) q 0 0 Post V) (S : SB V) (T_wh : T wh = 11) (A_wh : A wh) (hD : isDc D) (hz : z = 0 ∨ z = 1) (hi : 1 ≤ i ∧ i ≤ 57) : ∀ (n : Nat) (j : Int32) (s : SG) (L1 : LT), j.toInt + n = i + 1 → -57 ≤ j.toInt → Fr A I L I L1 → SKc k s L1 wh → (∀ (L2 : LT) (t : SG), t = itJ D z k (Int32.ofNat i) n j s → Fr A I L I L2 → SKc k t L2 wh → ∀ x6 : Int32, V 146 [(6, .int x6), (5, .int (Int32.ofNat i)), (4, .int t.1), (0, .ref wh), (1, .int D), (2, .int z), (3, .int k)] [] (T, N, I, L2, R) 0 0) → V 24 [(6, .int j), (5, .int (Int32.ofNat i)), (4, .int s.1), (0, .ref wh), (1, .int D), (2, .int z), (3, .int k)] [] (T, N, I, L1, R) 0 0 := by
  cases hq
  intro n
  induction n with
  | zero =>
    intro j s L1 hjn hj0 hF hr K
    refine k_iload C rfl rfl rfl ?_
    refine k_iload C rfl rfl rfl ?_
    refine k_icmp_gt C (t := 146) rfl rfl rfl (fun _ => ?_) (fun c9 => absurd (i_lt.mpr (by rw [n_int (by omega)]; omega)) c9)
    exact K _ _ rfl hF hr _
  | succ n ih =>
    intro j s L1 hjn hj0 hF hr K
    have hj : -57 ≤ j.toInt ∧ j.toInt ≤ 57 := by omega
    have e1 : (1 : Int32).toInt = 1 := rfl
    have hj1 : (j + 1).toInt = j.toInt + 1 := by rw [ii_add (by rw [e1]; omega), e1]
    have hne : ¬ 4 * Int32.ofNat i = 0 := i_ne0 (by rw [i4_int hi]; omega)
    have hlt := lt_int hD hj hi
    have hg := gd_bd (j := j) hi
    have hgg := gg_bd (D := D) (j := j) hi
    refine k_iload C rfl rfl rfl ?_
    refine k_iload C rfl rfl rfl ?_
    refine k_icmp_gt C (t := 146) rfl rfl rfl (fun c9 => absurd (i_lt.mp c9) (by rw [n_int (by omega)]; omega)) (fun _ => ?_)
    refine k_iload C rfl rfl rfl ?_
    refine k_iload C rfl rfl rfl ?_
    refine k_imul C rfl rfl ?_
    refine k_iload_n C rfl rfl rfl ?_
    refine k_isub C rfl rfl ?_
    refine k_istore C (lw := [(7, .int _), (6, .int _), (5, .int _), (4, .int _), (0, _), (1, .int _), (2, .int _), (3, .int _)]) rfl rfl (Nat.le_of_ble_eq_true rfl) rfl ?_
    refine k_iload C rfl rfl rfl ?_
    refine k_iconst C (x := 4) rfl rfl rfl ?_
    refine k_iload C rfl rfl rfl ?_
    refine k_imul C rfl rfl ?_
    refine k_idiv C rfl rfl hne ?_
    refine k_istore C (lw := [(8, .int _), (7, .int _), (6, .int _), (5, .int _), (4, .int _), (0, _), (1, .int _), (2, .int _), (3, .int _)]) rfl rfl (Nat.le_of_ble_eq_true rfl) rfl ?_
    refine k_iload C rfl rfl rfl ?_
    refine k_iconst C (x := 4) rfl rfl rfl ?_
    refine k_iload C rfl rfl rfl ?_
    refine k_imul C rfl rfl ?_
    refine k_irem C rfl rfl hne ?_
    refine k_if_ne C (t := 82) rfl rfl rfl (fun c56 => ?_) (fun c56 => ?_)
    · skip
      have hsk : sk1 D z k (Int32.ofNat i) j s = s := sk1_n (fun h => c56 h.1)
      refine k_iconst C (x := 0) rfl rfl rfl ?_
      refine k_istore C (lw := [(9, .int _), (8, .int _), (7, .int _), (6, .int _), (5, .int _), (4, .int _), (0, _), (1, .int _), (2, .int _), (3, .int _)]) rfl rfl (Nat.le_of_ble_eq_true rfl) rfl ?_
      refine k_iload C rfl rfl rfl ?_
      refine k_if_eq C (t := 140) rfl rfl rfl (fun _ => ?_) (fun c87 => absurd (by decide) c87)
      refine k_sub S [(6, .int j), (5, .int (Int32.ofNat i)), (4, _), (0, .ref wh), (1, .int D), (2, .int z), (3, .int k)] (List.forall_mem_cons.mpr ⟨List.mem_of_getElem? (i := 3) rfl, List.forall_mem_cons.mpr ⟨List.mem_of_getElem? (i := 4) rfl, List.forall_mem_cons.mpr ⟨List.mem_of_getElem? (i := 5) rfl, List.forall_mem_cons.mpr ⟨List.mem_of_getElem? (i := 6) rfl, List.forall_mem_cons.mpr ⟨List.mem_of_getElem? (i := 7) rfl, List.forall_mem_cons.mpr ⟨List.mem_of_getElem? (i := 8) rfl, List.forall_mem_cons.mpr ⟨List.mem_of_getElem? (i := 9) rfl, fun _ h => nomatch h⟩⟩⟩⟩⟩⟩⟩) ?_
      refine k_inc1 C (lw := [(6, .int _), (5, .int _), (4, .int _), (0, _), (1, .int _), (2, .int _), (3, .int _)]) rfl rfl rfl (Nat.le_of_ble_eq_true rfl) rfl ?_
      refine k_goto C (pc2 := 24) rfl rfl ?_
      exact ih (j + 1) s _ (by rw [hj1]; omega) (by omega) hF hr (fun L2 t ht hF2 hr2 => K L2 t (ht.trans (by show _ = itJ D z k (Int32.ofNat i) n (j + 1) (sk1 D z k (Int32.ofNat i) j s); rw [hsk])) hF2 hr2)
    have h56 : rmP D (Int32.ofNat i) j = 0 := Decidable.not_not.mp c56
    refine k_iload C rfl rfl rfl ?_
    refine k_iload C rfl rfl rfl ?_
    refine k_icmp_gt C (t := 78) rfl rfl rfl (fun c63 => ?_) (fun c63 => ?_)
    · skip
      have hor : Int32.ofNat i < ltP D (Int32.ofNat i) j ∨ (ltP D (Int32.ofNat i) j = Int32.ofNat i ∧ 0 ≤ j) := Or.inl c63
      refine k_iconst C (x := 1) rfl rfl rfl ?_
      refine k_goto C (pc2 := 83) rfl rfl ?_
      refine k_istore C (lw := [(9, .int _), (8, .int _), (7, .int _), (6, .int _), (5, .int _), (4, .int _), (0, _), (1, .int _), (2, .int _), (3, .int _)]) rfl rfl (Nat.le_of_ble_eq_true rfl) rfl ?_
      refine k_iload C rfl rfl rfl ?_
      refine k_if_eq C (t := 140) rfl rfl rfl (fun c87 => absurd c87 (by decide)) (fun _ => ?_)
      refine k_iload_n C rfl rfl rfl ?_
      refine k_if_ne C (t := 110) rfl rfl rfl (fun c91 => ?_) (fun c91 => ?_)
      · skip
        have hac : acP D z (Int32.ofNat i) j := ⟨h56, hor, Or.inl c91⟩
        refine k_iload C rfl rfl rfl ?_
        refine k_iload_n C rfl rfl rfl ?_
        refine k_icmp_ne C (t := 137) rfl rfl rfl (fun c113 => ?_) (fun c113 => ?_)
        · skip
          have hsk : sk1 D z k (Int32.ofNat i) j s = (s.1 + 1, s.2) := sk1_m hac c113
          refine k_inc1 C (lw := [(4, .int _), (9, .int _), (8, .int _), (7, .int _), (6, .int _), (5, .int _), (0, _), (1, .int _), (2, .int _), (3, .int _)]) rfl rfl rfl (Nat.le_of_ble_eq_true rfl) rfl ?_
          refine k_sub S [(6, .int j), (5, .int (Int32.ofNat i)), (4, _), (0, .ref wh), (1, .int D), (2, .int z), (3, .int k)] (List.forall_mem_cons.mpr ⟨List.mem_of_getElem? (i := 4) rfl, List.forall_mem_cons.mpr ⟨List.mem_of_getElem? (i := 5) rfl, List.forall_mem_cons.mpr ⟨List.mem_of_getElem? (i := 0) rfl, List.forall_mem_cons.mpr ⟨List.mem_of_getElem? (i := 6) rfl, List.forall_mem_cons.mpr ⟨List.mem_of_getElem? (i := 7) rfl, List.forall_mem_cons.mpr ⟨List.mem_of_getElem? (i := 8) rfl, List.forall_mem_cons.mpr ⟨List.mem_of_getElem? (i := 9) rfl, fun _ h => nomatch h⟩⟩⟩⟩⟩⟩⟩) ?_
          refine k_inc1 C (lw := [(6, .int _), (5, .int _), (4, .int _), (0, _), (1, .int _), (2, .int _), (3, .int _)]) rfl rfl rfl (Nat.le_of_ble_eq_true rfl) rfl ?_
          refine k_goto C (pc2 := 24) rfl rfl ?_
          exact ih (j + 1) (s.1 + 1, s.2) _ (by rw [hj1]; omega) (by omega) hF (hr.m c113) (fun L2 t ht hF2 hr2 => K L2 t (ht.trans (by show _ = itJ D z k (Int32.ofNat i) n (j + 1) (sk1 D z k (Int32.ofNat i) j s); rw [hsk])) hF2 hr2)
        refine k_aload_n C rfl rfl rfl ?_
        refine k_iload C rfl rfl rfl ?_
        refine k_i2l C rfl rfl ?_
        refine p_L C rfl rfl rfl T_wh (Or.inr rfl) rfl ?_
        refine k_aload_n C rfl rfl rfl ?_
        refine k_iload C rfl rfl rfl ?_
        refine k_i2l C rfl rfl ?_
        refine p_L C rfl rfl rfl T_wh (Or.inr rfl) rfl ?_
        refine k_aload_n C rfl rfl rfl ?_
        refine k_iload C rfl rfl rfl ?_
        refine k_i2l C rfl rfl ?_
        refine p_L C rfl rfl rfl T_wh (Or.inr rfl) rfl ?_
        refine k_inc1 C (lw := [(4, .int _), (9, .int _), (8, .int _), (7, .int _), (6, .int _), (5, .int _), (0, _), (1, .int _), (2, .int _), (3, .int _)]) rfl rfl rfl (Nat.le_of_ble_eq_true rfl) rfl ?_
        refine k_sub S [(6, .int j), (5, .int (Int32.ofNat i)), (4, _), (0, .ref wh), (1, .int D), (2, .int z), (3, .int k)] (List.forall_mem_cons.mpr ⟨List.mem_of_getElem? (i := 4) rfl, List.forall_mem_cons.mpr ⟨List.mem_of_getElem? (i := 5) rfl, List.forall_mem_cons.mpr ⟨List.mem_of_getElem? (i := 0) rfl, List.forall_mem_cons.mpr ⟨List.mem_of_getElem? (i := 6) rfl, List.forall_mem_cons.mpr ⟨List.mem_of_getElem? (i := 7) rfl, List.forall_mem_cons.mpr ⟨List.mem_of_getElem? (i := 8) rfl, List.forall_mem_cons.mpr ⟨List.mem_of_getElem? (i := 9) rfl, fun _ h => nomatch h⟩⟩⟩⟩⟩⟩⟩) ?_
        refine k_inc1 C (lw := [(6, .int _), (5, .int _), (4, .int _), (0, _), (1, .int _), (2, .int _), (3, .int _)]) rfl rfl rfl (Nat.le_of_ble_eq_true rfl) rfl ?_
        refine k_goto C (pc2 := 24) rfl rfl ?_
        exact ih (j + 1) (s.1 + 1, Int32.ofNat i, j, ltP D (Int32.ofNat i) j) _ (by rw [hj1]; omega) (by omega) (Fr.l (Fr.l (Fr.l hF A_wh) A_wh) A_wh) SKc.h (fun L2 t ht hF2 hr2 => K L2 t (ht.trans (by show _ = itJ D z k (Int32.ofNat i) n (j + 1) (sk1 D z k (Int32.ofNat i) j s); rw [sk1_y hac (Decidable.not_not.mp c113)])) hF2 hr2)
      refine k_iload C rfl rfl rfl ?_
      refine k_iload C rfl rfl rfl ?_
      refine c_SI C (e_divisor  (by rw [n_int (by omega)]; omega) (by omega) (by omega)) rfl rfl rfl rfl rfl rfl rfl (Nat.le_of_ble_eq_true rfl) (Nat.le_of_ble_eq_true rfl) (Nat.le_of_ble_eq_true rfl) ?_
      rintro _ _ _ ⟨hx7, hI8, hL9⟩
      have hx7 := hx7.symm; subst hx7
      have hI8 := hI8.symm; subst hI8; have hL9 := hL9.symm; subst hL9
      refine k_iload C rfl rfl rfl ?_
      refine c_SI C (e_divisor  (by rw [n_int (by omega)]; omega) (show -2147483648 < (ltP D (Int32.ofNat i) j).toInt by omega) (by right; rw [n_int (by omega)]; omega)) rfl rfl rfl rfl rfl rfl rfl (Nat.le_of_ble_eq_true rfl) (Nat.le_of_ble_eq_true rfl) (Nat.le_of_ble_eq_true rfl) ?_
      rintro _ _ _ ⟨hx7, hI8, hL9⟩
      have hx7 := hx7.symm; subst hx7
      have hI8 := hI8.symm; subst hI8; have hL9 := hL9.symm; subst hL9
      refine k_iconst C (x := 1) rfl rfl rfl ?_
      refine k_icmp_ne C (t := 140) rfl rfl rfl (fun c107 => ?_) (fun c107 => ?_)
      · skip
        have hsk : sk1 D z k (Int32.ofNat i) j s = s := sk1_n (fun h => h.2.2.elim (fun h => c91 h) (fun h => c107 (show Int32.ofNat (gdP D (Int32.ofNat i) j) = 1 by rw [h]; rfl)))
        refine k_sub S [(6, .int j), (5, .int (Int32.ofNat i)), (4, _), (0, .ref wh), (1, .int D), (2, .int z), (3, .int k)] (List.forall_mem_cons.mpr ⟨List.mem_of_getElem? (i := 3) rfl, List.forall_mem_cons.mpr ⟨List.mem_of_getElem? (i := 4) rfl, List.forall_mem_cons.mpr ⟨List.mem_of_getElem? (i := 5) rfl, List.forall_mem_cons.mpr ⟨List.mem_of_getElem? (i := 6) rfl, List.forall_mem_cons.mpr ⟨List.mem_of_getElem? (i := 7) rfl, List.forall_mem_cons.mpr ⟨List.mem_of_getElem? (i := 8) rfl, List.forall_mem_cons.mpr ⟨List.mem_of_getElem? (i := 9) rfl, fun _ h => nomatch h⟩⟩⟩⟩⟩⟩⟩) ?_
        refine k_inc1 C (lw := [(6, .int _), (5, .int _), (4, .int _), (0, _), (1, .int _), (2, .int _), (3, .int _)]) rfl rfl rfl (Nat.le_of_ble_eq_true rfl) rfl ?_
        refine k_goto C (pc2 := 24) rfl rfl ?_
        exact ih (j + 1) s _ (by rw [hj1]; omega) (by omega) hF hr (fun L2 t ht hF2 hr2 => K L2 t (ht.trans (by show _ = itJ D z k (Int32.ofNat i) n (j + 1) (sk1 D z k (Int32.ofNat i) j s); rw [hsk])) hF2 hr2)
      have hac : acP D z (Int32.ofNat i) j := ⟨h56, hor, Or.inr ((n_eq (b := 1) (by omega) (by omega)).mp (show Int32.ofNat (gdP D (Int32.ofNat i) j) = Int32.ofNat 1 from Decidable.not_not.mp c107))⟩
      refine k_iload C rfl rfl rfl ?_
      refine k_iload_n C rfl rfl rfl ?_
      refine k_icmp_ne C (t := 137) rfl rfl rfl (fun c113 => ?_) (fun c113 => ?_)
      · skip
        have hsk : sk1 D z k (Int32.ofNat i) j s = (s.1 + 1, s.2) := sk1_m hac c113
        refine k_inc1 C (lw := [(4, .int _), (9, .int _), (8, .int _), (7, .int _), (6, .int _), (5, .int _), (0, _), (1, .int _), (2, .int _), (3, .int _)]) rfl rfl rfl (Nat.le_of_ble_eq_true rfl) rfl ?_
        refine k_sub S [(6, .int j), (5, .int (Int32.ofNat i)), (4, _), (0, .ref wh), (1, .int D), (2, .int z), (3, .int k)] (List.forall_mem_cons.mpr ⟨List.mem_of_getElem? (i := 4) rfl, List.forall_mem_cons.mpr ⟨List.mem_of_getElem? (i := 5) rfl, List.forall_mem_cons.mpr ⟨List.mem_of_getElem? (i := 0) rfl, List.forall_mem_cons.mpr ⟨List.mem_of_getElem? (i := 6) rfl, List.forall_mem_cons.mpr ⟨List.mem_of_getElem? (i := 7) rfl, List.forall_mem_cons.mpr ⟨List.mem_of_getElem? (i := 8) rfl, List.forall_mem_cons.mpr ⟨List.mem_of_getElem? (i := 9) rfl, fun _ h => nomatch h⟩⟩⟩⟩⟩⟩⟩) ?_
        refine k_inc1 C (lw := [(6, .int _), (5, .int _), (4, .int _), (0, _), (1, .int _), (2, .int _), (3, .int _)]) rfl rfl rfl (Nat.le_of_ble_eq_true rfl) rfl ?_
        refine k_goto C (pc2 := 24) rfl rfl ?_
        exact ih (j + 1) (s.1 + 1, s.2) _ (by rw [hj1]; omega) (by omega) hF (hr.m c113) (fun L2 t ht hF2 hr2 => K L2 t (ht.trans (by show _ = itJ D z k (Int32.ofNat i) n (j + 1) (sk1 D z k (Int32.ofNat i) j s); rw [hsk])) hF2 hr2)
      refine k_aload_n C rfl rfl rfl ?_
      refine k_iload C rfl rfl rfl ?_
      refine k_i2l C rfl rfl ?_
      refine p_L C rfl rfl rfl T_wh (Or.inr rfl) rfl ?_
      refine k_aload_n C rfl rfl rfl ?_
      refine k_iload C rfl rfl rfl ?_
      refine k_i2l C rfl rfl ?_
      refine p_L C rfl rfl rfl T_wh (Or.inr rfl) rfl ?_
      refine k_aload_n C rfl rfl rfl ?_
      refine k_iload C rfl rfl rfl ?_
      refine k_i2l C rfl rfl ?_
      refine p_L C rfl rfl rfl T_wh (Or.inr rfl) rfl ?_
      refine k_inc1 C (lw := [(4, .int _), (9, .int _), (8, .int _), (7, .int _), (6, .int _), (5, .int _), (0, _), (1, .int _), (2, .int _), (3, .int _)]) rfl rfl rfl (Nat.le_of_ble_eq_true rfl) rfl ?_
      refine k_sub S [(6, .int j), (5, .int (Int32.ofNat i)), (4, _), (0, .ref wh), (1, .int D), (2, .int z), (3, .int k)] (List.forall_mem_cons.mpr ⟨List.mem_of_getElem? (i := 4) rfl, List.forall_mem_cons.mpr ⟨List.mem_of_getElem? (i := 5) rfl, List.forall_mem_cons.mpr ⟨List.mem_of_getElem? (i := 0) rfl, List.forall_mem_cons.mpr ⟨List.mem_of_getElem? (i := 6) rfl, List.forall_mem_cons.mpr ⟨List.mem_of_getElem? (i := 7) rfl, List.forall_mem_cons.mpr ⟨List.mem_of_getElem? (i := 8) rfl, List.forall_mem_cons.mpr ⟨List.mem_of_getElem? (i := 9) rfl, fun _ h => nomatch h⟩⟩⟩⟩⟩⟩⟩) ?_
      refine k_inc1 C (lw := [(6, .int _), (5, .int _), (4, .int _), (0, _), (1, .int _), (2, .int _), (3, .int _)]) rfl rfl rfl (Nat.le_of_ble_eq_true rfl) rfl ?_
      refine k_goto C (pc2 := 24) rfl rfl ?_
      exact ih (j + 1) (s.1 + 1, Int32.ofNat i, j, ltP D (Int32.ofNat i) j) _ (by rw [hj1]; omega) (by omega) (Fr.l (Fr.l (Fr.l hF A_wh) A_wh) A_wh) SKc.h (fun L2 t ht hF2 hr2 => K L2 t (ht.trans (by show _ = itJ D z k (Int32.ofNat i) n (j + 1) (sk1 D z k (Int32.ofNat i) j s); rw [sk1_y hac (Decidable.not_not.mp c113)])) hF2 hr2)
    refine k_iload C rfl rfl rfl ?_
    refine k_iload C rfl rfl rfl ?_
    refine k_icmp_ne C (t := 82) rfl rfl rfl (fun c70 => ?_) (fun c70 => ?_)
    · skip
      have hsk : sk1 D z k (Int32.ofNat i) j s = s := sk1_n (fun h => h.2.1.elim (fun h => c63 h) (fun h => c70 h.1))
      refine k_iconst C (x := 0) rfl rfl rfl ?_
      refine k_istore C (lw := [(9, .int _), (8, .int _), (7, .int _), (6, .int _), (5, .int _), (4, .int _), (0, _), (1, .int _), (2, .int _), (3, .int _)]) rfl rfl (Nat.le_of_ble_eq_true rfl) rfl ?_
      refine k_iload C rfl rfl rfl ?_
      refine k_if_eq C (t := 140) rfl rfl rfl (fun _ => ?_) (fun c87 => absurd (by decide) c87)
      refine k_sub S [(6, .int j), (5, .int (Int32.ofNat i)), (4, _), (0, .ref wh), (1, .int D), (2, .int z), (3, .int k)] (List.forall_mem_cons.mpr ⟨List.mem_of_getElem? (i := 3) rfl, List.forall_mem_cons.mpr ⟨List.mem_of_getElem? (i := 4) rfl, List.forall_mem_cons.mpr ⟨List.mem_of_getElem? (i := 5) rfl, List.forall_mem_cons.mpr ⟨List.mem_of_getElem? (i := 6) rfl, List.forall_mem_cons.mpr ⟨List.mem_of_getElem? (i := 7) rfl, List.forall_mem_cons.mpr ⟨List.mem_of_getElem? (i := 8) rfl, List.forall_mem_cons.mpr ⟨List.mem_of_getElem? (i := 9) rfl, fun _ h => nomatch h⟩⟩⟩⟩⟩⟩⟩) ?_
      refine k_inc1 C (lw := [(6, .int _), (5, .int _), (4, .int _), (0, _), (1, .int _), (2, .int _), (3, .int _)]) rfl rfl rfl (Nat.le_of_ble_eq_true rfl) rfl ?_
      refine k_goto C (pc2 := 24) rfl rfl ?_
      exact ih (j + 1) s _ (by rw [hj1]; omega) (by omega) hF hr (fun L2 t ht hF2 hr2 => K L2 t (ht.trans (by show _ = itJ D z k (Int32.ofNat i) n (j + 1) (sk1 D z k (Int32.ofNat i) j s); rw [hsk])) hF2 hr2)
    have h70 : ltP D (Int32.ofNat i) j = Int32.ofNat i := Decidable.not_not.mp c70
    refine k_iload C rfl rfl rfl ?_
    refine k_if_lt C (t := 82) rfl rfl rfl (fun c75 => ?_) (fun c75 => ?_)
    · skip
      have hsk : sk1 D z k (Int32.ofNat i) j s = s := sk1_n (fun h => h.2.1.elim (fun h => c63 h) (fun h => absurd h.2 (Int32.not_le.mpr c75)))
      refine k_iconst C (x := 0) rfl rfl rfl ?_
      refine k_istore C (lw := [(9, .int _), (8, .int _), (7, .int _), (6, .int _), (5, .int _), (4, .int _), (0, _), (1, .int _), (2, .int _), (3, .int _)]) rfl rfl (Nat.le_of_ble_eq_true rfl) rfl ?_
      refine k_iload C rfl rfl rfl ?_
      refine k_if_eq C (t := 140) rfl rfl rfl (fun _ => ?_) (fun c87 => absurd (by decide) c87)
      refine k_sub S [(6, .int j), (5, .int (Int32.ofNat i)), (4, _), (0, .ref wh), (1, .int D), (2, .int z), (3, .int k)] (List.forall_mem_cons.mpr ⟨List.mem_of_getElem? (i := 3) rfl, List.forall_mem_cons.mpr ⟨List.mem_of_getElem? (i := 4) rfl, List.forall_mem_cons.mpr ⟨List.mem_of_getElem? (i := 5) rfl, List.forall_mem_cons.mpr ⟨List.mem_of_getElem? (i := 6) rfl, List.forall_mem_cons.mpr ⟨List.mem_of_getElem? (i := 7) rfl, List.forall_mem_cons.mpr ⟨List.mem_of_getElem? (i := 8) rfl, List.forall_mem_cons.mpr ⟨List.mem_of_getElem? (i := 9) rfl, fun _ h => nomatch h⟩⟩⟩⟩⟩⟩⟩) ?_
      refine k_inc1 C (lw := [(6, .int _), (5, .int _), (4, .int _), (0, _), (1, .int _), (2, .int _), (3, .int _)]) rfl rfl rfl (Nat.le_of_ble_eq_true rfl) rfl ?_
      refine k_goto C (pc2 := 24) rfl rfl ?_
      exact ih (j + 1) s _ (by rw [hj1]; omega) (by omega) hF hr (fun L2 t ht hF2 hr2 => K L2 t (ht.trans (by show _ = itJ D z k (Int32.ofNat i) n (j + 1) (sk1 D z k (Int32.ofNat i) j s); rw [hsk])) hF2 hr2)
    have hor : Int32.ofNat i < ltP D (Int32.ofNat i) j ∨ (ltP D (Int32.ofNat i) j = Int32.ofNat i ∧ 0 ≤ j) := Or.inr ⟨h70, Int32.not_lt.mp c75⟩
    refine k_iconst C (x := 1) rfl rfl rfl ?_
    refine k_goto C (pc2 := 83) rfl rfl ?_
    refine k_istore C (lw := [(9, .int _), (8, .int _), (7, .int _), (6, .int _), (5, .int _), (4, .int _), (0, _), (1, .int _), (2, .int _), (3, .int _)]) rfl rfl (Nat.le_of_ble_eq_true rfl) rfl ?_
    refine k_iload C rfl rfl rfl ?_
    refine k_if_eq C (t := 140) rfl rfl rfl (fun c87 => absurd c87 (by decide)) (fun _ => ?_)
    refine k_iload_n C rfl rfl rfl ?_
    refine k_if_ne C (t := 110) rfl rfl rfl (fun c91 => ?_) (fun c91 => ?_)
    · skip
      have hac : acP D z (Int32.ofNat i) j := ⟨h56, hor, Or.inl c91⟩
      refine k_iload C rfl rfl rfl ?_
      refine k_iload_n C rfl rfl rfl ?_
      refine k_icmp_ne C (t := 137) rfl rfl rfl (fun c113 => ?_) (fun c113 => ?_)
      · skip
        have hsk : sk1 D z k (Int32.ofNat i) j s = (s.1 + 1, s.2) := sk1_m hac c113
        refine k_inc1 C (lw := [(4, .int _), (9, .int _), (8, .int _), (7, .int _), (6, .int _), (5, .int _), (0, _), (1, .int _), (2, .int _), (3, .int _)]) rfl rfl rfl (Nat.le_of_ble_eq_true rfl) rfl ?_
        refine k_sub S [(6, .int j), (5, .int (Int32.ofNat i)), (4, _), (0, .ref wh), (1, .int D), (2, .int z), (3, .int k)] (List.forall_mem_cons.mpr ⟨List.mem_of_getElem? (i := 4) rfl, List.forall_mem_cons.mpr ⟨List.mem_of_getElem? (i := 5) rfl, List.forall_mem_cons.mpr ⟨List.mem_of_getElem? (i := 0) rfl, List.forall_mem_cons.mpr ⟨List.mem_of_getElem? (i := 6) rfl, List.forall_mem_cons.mpr ⟨List.mem_of_getElem? (i := 7) rfl, List.forall_mem_cons.mpr ⟨List.mem_of_getElem? (i := 8) rfl, List.forall_mem_cons.mpr ⟨List.mem_of_getElem? (i := 9) rfl, fun _ h => nomatch h⟩⟩⟩⟩⟩⟩⟩) ?_
        refine k_inc1 C (lw := [(6, .int _), (5, .int _), (4, .int _), (0, _), (1, .int _), (2, .int _), (3, .int _)]) rfl rfl rfl (Nat.le_of_ble_eq_true rfl) rfl ?_
        refine k_goto C (pc2 := 24) rfl rfl ?_
        exact ih (j + 1) (s.1 + 1, s.2) _ (by rw [hj1]; omega) (by omega) hF (hr.m c113) (fun L2 t ht hF2 hr2 => K L2 t (ht.trans (by show _ = itJ D z k (Int32.ofNat i) n (j + 1) (sk1 D z k (Int32.ofNat i) j s); rw [hsk])) hF2 hr2)
      refine k_aload_n C rfl rfl rfl ?_
      refine k_iload C rfl rfl rfl ?_
      refine k_i2l C rfl rfl ?_
      refine p_L C rfl rfl rfl T_wh (Or.inr rfl) rfl ?_
      refine k_aload_n C rfl rfl rfl ?_
      refine k_iload C rfl rfl rfl ?_
      refine k_i2l C rfl rfl ?_
      refine p_L C rfl rfl rfl T_wh (Or.inr rfl) rfl ?_
      refine k_aload_n C rfl rfl rfl ?_
      refine k_iload C rfl rfl rfl ?_
      refine k_i2l C rfl rfl ?_
      refine p_L C rfl rfl rfl T_wh (Or.inr rfl) rfl ?_
      refine k_inc1 C (lw := [(4, .int _), (9, .int _), (8, .int _), (7, .int _), (6, .int _), (5, .int _), (0, _), (1, .int _), (2, .int _), (3, .int _)]) rfl rfl rfl (Nat.le_of_ble_eq_true rfl) rfl ?_
      refine k_sub S [(6, .int j), (5, .int (Int32.ofNat i)), (4, _), (0, .ref wh), (1, .int D), (2, .int z), (3, .int k)] (List.forall_mem_cons.mpr ⟨List.mem_of_getElem? (i := 4) rfl, List.forall_mem_cons.mpr ⟨List.mem_of_getElem? (i := 5) rfl, List.forall_mem_cons.mpr ⟨List.mem_of_getElem? (i := 0) rfl, List.forall_mem_cons.mpr ⟨List.mem_of_getElem? (i := 6) rfl, List.forall_mem_cons.mpr ⟨List.mem_of_getElem? (i := 7) rfl, List.forall_mem_cons.mpr ⟨List.mem_of_getElem? (i := 8) rfl, List.forall_mem_cons.mpr ⟨List.mem_of_getElem? (i := 9) rfl, fun _ h => nomatch h⟩⟩⟩⟩⟩⟩⟩) ?_
      refine k_inc1 C (lw := [(6, .int _), (5, .int _), (4, .int _), (0, _), (1, .int _), (2, .int _), (3, .int _)]) rfl rfl rfl (Nat.le_of_ble_eq_true rfl) rfl ?_
      refine k_goto C (pc2 := 24) rfl rfl ?_
      exact ih (j + 1) (s.1 + 1, Int32.ofNat i, j, ltP D (Int32.ofNat i) j) _ (by rw [hj1]; omega) (by omega) (Fr.l (Fr.l (Fr.l hF A_wh) A_wh) A_wh) SKc.h (fun L2 t ht hF2 hr2 => K L2 t (ht.trans (by show _ = itJ D z k (Int32.ofNat i) n (j + 1) (sk1 D z k (Int32.ofNat i) j s); rw [sk1_y hac (Decidable.not_not.mp c113)])) hF2 hr2)
    refine k_iload C rfl rfl rfl ?_
    refine k_iload C rfl rfl rfl ?_
    refine c_SI C (e_divisor  (by rw [n_int (by omega)]; omega) (by omega) (by omega)) rfl rfl rfl rfl rfl rfl rfl (Nat.le_of_ble_eq_true rfl) (Nat.le_of_ble_eq_true rfl) (Nat.le_of_ble_eq_true rfl) ?_
    rintro _ _ _ ⟨hx7, hI8, hL9⟩
    have hx7 := hx7.symm; subst hx7
    have hI8 := hI8.symm; subst hI8; have hL9 := hL9.symm; subst hL9
    refine k_iload C rfl rfl rfl ?_
    refine c_SI C (e_divisor  (by rw [n_int (by omega)]; omega) (show -2147483648 < (ltP D (Int32.ofNat i) j).toInt by omega) (by right; rw [n_int (by omega)]; omega)) rfl rfl rfl rfl rfl rfl rfl (Nat.le_of_ble_eq_true rfl) (Nat.le_of_ble_eq_true rfl) (Nat.le_of_ble_eq_true rfl) ?_
    rintro _ _ _ ⟨hx7, hI8, hL9⟩
    have hx7 := hx7.symm; subst hx7
    have hI8 := hI8.symm; subst hI8; have hL9 := hL9.symm; subst hL9
    refine k_iconst C (x := 1) rfl rfl rfl ?_
    refine k_icmp_ne C (t := 140) rfl rfl rfl (fun c107 => ?_) (fun c107 => ?_)
    · skip
      have hsk : sk1 D z k (Int32.ofNat i) j s = s := sk1_n (fun h => h.2.2.elim (fun h => c91 h) (fun h => c107 (show Int32.ofNat (gdP D (Int32.ofNat i) j) = 1 by rw [h]; rfl)))
      refine k_sub S [(6, .int j), (5, .int (Int32.ofNat i)), (4, _), (0, .ref wh), (1, .int D), (2, .int z), (3, .int k)] (List.forall_mem_cons.mpr ⟨List.mem_of_getElem? (i := 3) rfl, List.forall_mem_cons.mpr ⟨List.mem_of_getElem? (i := 4) rfl, List.forall_mem_cons.mpr ⟨List.mem_of_getElem? (i := 5) rfl, List.forall_mem_cons.mpr ⟨List.mem_of_getElem? (i := 6) rfl, List.forall_mem_cons.mpr ⟨List.mem_of_getElem? (i := 7) rfl, List.forall_mem_cons.mpr ⟨List.mem_of_getElem? (i := 8) rfl, List.forall_mem_cons.mpr ⟨List.mem_of_getElem? (i := 9) rfl, fun _ h => nomatch h⟩⟩⟩⟩⟩⟩⟩) ?_
      refine k_inc1 C (lw := [(6, .int _), (5, .int _), (4, .int _), (0, _), (1, .int _), (2, .int _), (3, .int _)]) rfl rfl rfl (Nat.le_of_ble_eq_true rfl) rfl ?_
      refine k_goto C (pc2 := 24) rfl rfl ?_
      exact ih (j + 1) s _ (by rw [hj1]; omega) (by omega) hF hr (fun L2 t ht hF2 hr2 => K L2 t (ht.trans (by show _ = itJ D z k (Int32.ofNat i) n (j + 1) (sk1 D z k (Int32.ofNat i) j s); rw [hsk])) hF2 hr2)
    have hac : acP D z (Int32.ofNat i) j := ⟨h56, hor, Or.inr ((n_eq (b := 1) (by omega) (by omega)).mp (show Int32.ofNat (gdP D (Int32.ofNat i) j) = Int32.ofNat 1 from Decidable.not_not.mp c107))⟩
    refine k_iload C rfl rfl rfl ?_
    refine k_iload_n C rfl rfl rfl ?_
    refine k_icmp_ne C (t := 137) rfl rfl rfl (fun c113 => ?_) (fun c113 => ?_)
    · skip
      have hsk : sk1 D z k (Int32.ofNat i) j s = (s.1 + 1, s.2) := sk1_m hac c113
      refine k_inc1 C (lw := [(4, .int _), (9, .int _), (8, .int _), (7, .int _), (6, .int _), (5, .int _), (0, _), (1, .int _), (2, .int _), (3, .int _)]) rfl rfl rfl (Nat.le_of_ble_eq_true rfl) rfl ?_
      refine k_sub S [(6, .int j), (5, .int (Int32.ofNat i)), (4, _), (0, .ref wh), (1, .int D), (2, .int z), (3, .int k)] (List.forall_mem_cons.mpr ⟨List.mem_of_getElem? (i := 4) rfl, List.forall_mem_cons.mpr ⟨List.mem_of_getElem? (i := 5) rfl, List.forall_mem_cons.mpr ⟨List.mem_of_getElem? (i := 0) rfl, List.forall_mem_cons.mpr ⟨List.mem_of_getElem? (i := 6) rfl, List.forall_mem_cons.mpr ⟨List.mem_of_getElem? (i := 7) rfl, List.forall_mem_cons.mpr ⟨List.mem_of_getElem? (i := 8) rfl, List.forall_mem_cons.mpr ⟨List.mem_of_getElem? (i := 9) rfl, fun _ h => nomatch h⟩⟩⟩⟩⟩⟩⟩) ?_
      refine k_inc1 C (lw := [(6, .int _), (5, .int _), (4, .int _), (0, _), (1, .int _), (2, .int _), (3, .int _)]) rfl rfl rfl (Nat.le_of_ble_eq_true rfl) rfl ?_
      refine k_goto C (pc2 := 24) rfl rfl ?_
      exact ih (j + 1) (s.1 + 1, s.2) _ (by rw [hj1]; omega) (by omega) hF (hr.m c113) (fun L2 t ht hF2 hr2 => K L2 t (ht.trans (by show _ = itJ D z k (Int32.ofNat i) n (j + 1) (sk1 D z k (Int32.ofNat i) j s); rw [hsk])) hF2 hr2)
    refine k_aload_n C rfl rfl rfl ?_
    refine k_iload C rfl rfl rfl ?_
    refine k_i2l C rfl rfl ?_
    refine p_L C rfl rfl rfl T_wh (Or.inr rfl) rfl ?_
    refine k_aload_n C rfl rfl rfl ?_
    refine k_iload C rfl rfl rfl ?_
    refine k_i2l C rfl rfl ?_
    refine p_L C rfl rfl rfl T_wh (Or.inr rfl) rfl ?_
    refine k_aload_n C rfl rfl rfl ?_
    refine k_iload C rfl rfl rfl ?_
    refine k_i2l C rfl rfl ?_
    refine p_L C rfl rfl rfl T_wh (Or.inr rfl) rfl ?_
    refine k_inc1 C (lw := [(4, .int _), (9, .int _), (8, .int _), (7, .int _), (6, .int _), (5, .int _), (0, _), (1, .int _), (2, .int _), (3, .int _)]) rfl rfl rfl (Nat.le_of_ble_eq_true rfl) rfl ?_
    refine k_sub S [(6, .int j), (5, .int (Int32.ofNat i)), (4, _), (0, .ref wh), (1, .int D), (2, .int z), (3, .int k)] (List.forall_mem_cons.mpr ⟨List.mem_of_getElem? (i := 4) rfl, List.forall_mem_cons.mpr ⟨List.mem_of_getElem? (i := 5) rfl, List.forall_mem_cons.mpr ⟨List.mem_of_getElem? (i := 0) rfl, List.forall_mem_cons.mpr ⟨List.mem_of_getElem? (i := 6) rfl, List.forall_mem_cons.mpr ⟨List.mem_of_getElem? (i := 7) rfl, List.forall_mem_cons.mpr ⟨List.mem_of_getElem? (i := 8) rfl, List.forall_mem_cons.mpr ⟨List.mem_of_getElem? (i := 9) rfl, fun _ h => nomatch h⟩⟩⟩⟩⟩⟩⟩) ?_
    refine k_inc1 C (lw := [(6, .int _), (5, .int _), (4, .int _), (0, _), (1, .int _), (2, .int _), (3, .int _)]) rfl rfl rfl (Nat.le_of_ble_eq_true rfl) rfl ?_
    refine k_goto C (pc2 := 24) rfl rfl ?_
    exact ih (j + 1) (s.1 + 1, Int32.ofNat i, j, ltP D (Int32.ofNat i) j) _ (by rw [hj1]; omega) (by omega) (Fr.l (Fr.l (Fr.l hF A_wh) A_wh) A_wh) SKc.h (fun L2 t ht hF2 hr2 => K L2 t (ht.trans (by show _ = itJ D z k (Int32.ofNat i) n (j + 1) (sk1 D z k (Int32.ofNat i) j s); rw [sk1_y hac (Decidable.not_not.mp c113)])) hF2 hr2)
theorem lt_of_ne32 {x y : Int32} (h : ¬ x < y) (hn : ¬ x = y) : y < x := by
  rw [i_lt] at h ⊢
  have : x.toInt ≠ y.toInt := fun e => hn (Int32.toInt_inj.mp e)
  omega
set_option maxHeartbeats 2000000 in
theorem ms_inner {d : Nat} {V : V_T} {q : mm_T} {Post : Po} {T N : Nat → Nat} {R : RT} {A : Nat → Prop} {I : IT} {L : LT} {m : Nat} {D z k : Int32} {i : Nat} (hq : P_mq 306 = some q) (C : Cl (d + 2) q 0 0 Post V) (S : SB V) (T_m : T m = 13) (A_m : A m) (hD : isDc D) (hz : z = 0 ∨ z = 1) (hi : 1 ≤ i ∧ i ≤ 57) : ∀ (n : Nat) (j : Int32) (s : SG) (I1 : IT), j.toInt + n = i + 1 → -57 ≤ j.toInt → Fr A I L I1 L → (SKi k s I1 m ∧ IK3 m I I1) → (∀ (I2 : IT) (t : SG), t = itJ D z k (Int32.ofNat i) n j s → Fr A I L I2 L → (SKi k t I2 m ∧ IK3 m I I2) → ∀ x6 : Int32, V 138 [(6, .int x6), (5, .int (Int32.ofNat i)), (4, .int t.1), (0, .ref m), (1, .int D), (2, .int z), (3, .int k)] [] (T, N, I2, L, R) 0 0) → V 24 [(6, .int j), (5, .int (Int32.ofNat i)), (4, .int s.1), (0, .ref m), (1, .int D), (2, .int z), (3, .int k)] [] (T, N, I1, L, R) 0 0 := by
  cases hq
  intro n
  induction n with
  | zero =>
    intro j s I1 hjn hj0 hF hr K
    refine k_iload C rfl rfl rfl ?_
    refine k_iload C rfl rfl rfl ?_
    refine k_icmp_gt C (t := 138) rfl rfl rfl (fun _ => ?_) (fun c9 => absurd (i_lt.mpr (by rw [n_int (by omega)]; omega)) c9)
    exact K _ _ rfl hF hr _
  | succ n ih =>
    intro j s I1 hjn hj0 hF hr K
    have hj : -57 ≤ j.toInt ∧ j.toInt ≤ 57 := by omega
    have e1 : (1 : Int32).toInt = 1 := rfl
    have hj1 : (j + 1).toInt = j.toInt + 1 := by rw [ii_add (by rw [e1]; omega), e1]
    have hne : ¬ 4 * Int32.ofNat i = 0 := i_ne0 (by rw [i4_int hi]; omega)
    have hlt := lt_int hD hj hi
    have hg := gd_bd (j := j) hi
    have hgg := gg_bd (D := D) (j := j) hi
    refine k_iload C rfl rfl rfl ?_
    refine k_iload C rfl rfl rfl ?_
    refine k_icmp_gt C (t := 138) rfl rfl rfl (fun c9 => absurd (i_lt.mp c9) (by rw [n_int (by omega)]; omega)) (fun _ => ?_)
    refine k_iload C rfl rfl rfl ?_
    refine k_iload C rfl rfl rfl ?_
    refine k_imul C rfl rfl ?_
    refine k_iload_n C rfl rfl rfl ?_
    refine k_isub C rfl rfl ?_
    refine k_iconst C (x := 4) rfl rfl rfl ?_
    refine k_iload C rfl rfl rfl ?_
    refine k_imul C rfl rfl ?_
    refine k_irem C rfl rfl hne ?_
    refine k_if_eq C (t := 49) rfl rfl rfl (fun c43 => ?_) (fun c43 => ?_)
    · skip
      have h56 : rmP D (Int32.ofNat i) j = 0 := c43
      refine k_iload C rfl rfl rfl ?_
      refine k_iload C rfl rfl rfl ?_
      refine k_imul C rfl rfl ?_
      refine k_iload_n C rfl rfl rfl ?_
      refine k_isub C rfl rfl ?_
      refine k_iconst C (x := 4) rfl rfl rfl ?_
      refine k_iload C rfl rfl rfl ?_
      refine k_imul C rfl rfl ?_
      refine k_idiv C rfl rfl hne ?_
      refine k_istore C (lw := [(7, .int _), (6, .int _), (5, .int _), (4, .int _), (0, _), (1, .int _), (2, .int _), (3, .int _)]) rfl rfl (Nat.le_of_ble_eq_true rfl) rfl ?_
      refine k_iload C rfl rfl rfl ?_
      refine k_iload C rfl rfl rfl ?_
      refine k_icmp_lt C (t := 132) rfl rfl rfl (fun c67 => ?_) (fun c67 => ?_)
      · skip
        have hsk : sk1 D z k (Int32.ofNat i) j s = s := sk1_n (fun h => h.2.1.elim (fun h => absurd (Int32.lt_trans h c67) Int32.lt_irrefl) (fun h => absurd c67 (show ¬ ltP D (Int32.ofNat i) j < Int32.ofNat i by rw [h.1]; exact Int32.lt_irrefl)))
        refine k_sub S [(6, .int j), (5, .int (Int32.ofNat i)), (4, _), (0, .ref m), (1, .int D), (2, .int z), (3, .int k)] (List.forall_mem_cons.mpr ⟨List.mem_of_getElem? (i := 1) rfl, List.forall_mem_cons.mpr ⟨List.mem_of_getElem? (i := 2) rfl, List.forall_mem_cons.mpr ⟨List.mem_of_getElem? (i := 3) rfl, List.forall_mem_cons.mpr ⟨List.mem_of_getElem? (i := 4) rfl, List.forall_mem_cons.mpr ⟨List.mem_of_getElem? (i := 5) rfl, List.forall_mem_cons.mpr ⟨List.mem_of_getElem? (i := 6) rfl, List.forall_mem_cons.mpr ⟨List.mem_of_getElem? (i := 7) rfl, fun _ h => nomatch h⟩⟩⟩⟩⟩⟩⟩) ?_
        refine k_inc1 C (lw := [(6, .int _), (5, .int _), (4, .int _), (0, _), (1, .int _), (2, .int _), (3, .int _)]) rfl rfl rfl (Nat.le_of_ble_eq_true rfl) rfl ?_
        refine k_goto C (pc2 := 24) rfl rfl ?_
        exact ih (j + 1) s _ (by rw [hj1]; omega) (by omega) hF hr (fun L2 t ht hF2 hr2 => K L2 t (ht.trans (by show _ = itJ D z k (Int32.ofNat i) n (j + 1) (sk1 D z k (Int32.ofNat i) j s); rw [hsk])) hF2 hr2)
      refine k_iload C rfl rfl rfl ?_
      refine k_iload C rfl rfl rfl ?_
      refine k_icmp_ne C (t := 82) rfl rfl rfl (fun c74 => ?_) (fun c74 => ?_)
      · skip
        have hor : Int32.ofNat i < ltP D (Int32.ofNat i) j ∨ (ltP D (Int32.ofNat i) j = Int32.ofNat i ∧ 0 ≤ j) := Or.inl (lt_of_ne32 c67 c74)
        refine k_iload_n C rfl rfl rfl ?_
        refine k_if_ne C (t := 105) rfl rfl rfl (fun c83 => ?_) (fun c83 => ?_)
        · skip
          have hac : acP D z (Int32.ofNat i) j := ⟨h56, hor, Or.inl c83⟩
          refine k_iload C rfl rfl rfl ?_
          refine k_iload_n C rfl rfl rfl ?_
          refine k_icmp_ne C (t := 129) rfl rfl rfl (fun c108 => ?_) (fun c108 => ?_)
          · skip
            have hsk : sk1 D z k (Int32.ofNat i) j s = (s.1 + 1, s.2) := sk1_m hac c108
            refine k_inc1 C (lw := [(4, .int _), (7, .int _), (6, .int _), (5, .int _), (0, _), (1, .int _), (2, .int _), (3, .int _)]) rfl rfl rfl (Nat.le_of_ble_eq_true rfl) rfl ?_
            refine k_sub S [(6, .int j), (5, .int (Int32.ofNat i)), (4, _), (0, .ref m), (1, .int D), (2, .int z), (3, .int k)] (List.forall_mem_cons.mpr ⟨List.mem_of_getElem? (i := 2) rfl, List.forall_mem_cons.mpr ⟨List.mem_of_getElem? (i := 3) rfl, List.forall_mem_cons.mpr ⟨List.mem_of_getElem? (i := 0) rfl, List.forall_mem_cons.mpr ⟨List.mem_of_getElem? (i := 4) rfl, List.forall_mem_cons.mpr ⟨List.mem_of_getElem? (i := 5) rfl, List.forall_mem_cons.mpr ⟨List.mem_of_getElem? (i := 6) rfl, List.forall_mem_cons.mpr ⟨List.mem_of_getElem? (i := 7) rfl, fun _ h => nomatch h⟩⟩⟩⟩⟩⟩⟩) ?_
            refine k_inc1 C (lw := [(6, .int _), (5, .int _), (4, .int _), (0, _), (1, .int _), (2, .int _), (3, .int _)]) rfl rfl rfl (Nat.le_of_ble_eq_true rfl) rfl ?_
            refine k_goto C (pc2 := 24) rfl rfl ?_
            exact ih (j + 1) (s.1 + 1, s.2) _ (by rw [hj1]; omega) (by omega) hF ⟨hr.1.m c108, hr.2⟩ (fun L2 t ht hF2 hr2 => K L2 t (ht.trans (by show _ = itJ D z k (Int32.ofNat i) n (j + 1) (sk1 D z k (Int32.ofNat i) j s); rw [hsk])) hF2 hr2)
          refine k_aload_n C rfl rfl rfl ?_
          refine k_iload C rfl rfl rfl ?_
          refine p_I C rfl rfl rfl T_m (Or.inr rfl) rfl ?_
          refine k_aload_n C rfl rfl rfl ?_
          refine k_iload C rfl rfl rfl ?_
          refine p_I C rfl rfl rfl T_m (Or.inr rfl) rfl ?_
          refine k_aload_n C rfl rfl rfl ?_
          refine k_iload C rfl rfl rfl ?_
          refine p_I C rfl rfl rfl T_m (Or.inr rfl) rfl ?_
          refine k_inc1 C (lw := [(4, .int _), (7, .int _), (6, .int _), (5, .int _), (0, _), (1, .int _), (2, .int _), (3, .int _)]) rfl rfl rfl (Nat.le_of_ble_eq_true rfl) rfl ?_
          refine k_sub S [(6, .int j), (5, .int (Int32.ofNat i)), (4, _), (0, .ref m), (1, .int D), (2, .int z), (3, .int k)] (List.forall_mem_cons.mpr ⟨List.mem_of_getElem? (i := 2) rfl, List.forall_mem_cons.mpr ⟨List.mem_of_getElem? (i := 3) rfl, List.forall_mem_cons.mpr ⟨List.mem_of_getElem? (i := 0) rfl, List.forall_mem_cons.mpr ⟨List.mem_of_getElem? (i := 4) rfl, List.forall_mem_cons.mpr ⟨List.mem_of_getElem? (i := 5) rfl, List.forall_mem_cons.mpr ⟨List.mem_of_getElem? (i := 6) rfl, List.forall_mem_cons.mpr ⟨List.mem_of_getElem? (i := 7) rfl, fun _ h => nomatch h⟩⟩⟩⟩⟩⟩⟩) ?_
          refine k_inc1 C (lw := [(6, .int _), (5, .int _), (4, .int _), (0, _), (1, .int _), (2, .int _), (3, .int _)]) rfl rfl rfl (Nat.le_of_ble_eq_true rfl) rfl ?_
          refine k_goto C (pc2 := 24) rfl rfl ?_
          exact ih (j + 1) (s.1 + 1, Int32.ofNat i, j, ltP D (Int32.ofNat i) j) _ (by rw [hj1]; omega) (by omega) (Fr.i (Fr.i (Fr.i hF A_m) A_m) A_m) ⟨SKi.h, IK3.h hr.2⟩ (fun L2 t ht hF2 hr2 => K L2 t (ht.trans (by show _ = itJ D z k (Int32.ofNat i) n (j + 1) (sk1 D z k (Int32.ofNat i) j s); rw [sk1_y hac (Decidable.not_not.mp c108)])) hF2 hr2)
        refine k_iload C rfl rfl rfl ?_
        refine k_iload C rfl rfl rfl ?_
        refine c_SI C (e_m_shared  (by rw [n_int (by omega)]; omega) (by omega)) rfl rfl rfl rfl rfl rfl rfl (Nat.le_of_ble_eq_true rfl) (Nat.le_of_ble_eq_true rfl) (Nat.le_of_ble_eq_true rfl) ?_
        rintro _ _ _ ⟨hx7, hI8, hL9⟩
        have hx7 := hx7.symm; subst hx7
        have hI8 := hI8.symm; subst hI8; have hL9 := hL9.symm; subst hL9
        refine k_iload C rfl rfl rfl ?_
        refine c_SI C (e_m_shared  (by rw [n_int (by omega)]; omega) (show -2147483648 < (ltP D (Int32.ofNat i) j).toInt by omega)) rfl rfl rfl rfl rfl rfl rfl (Nat.le_of_ble_eq_true rfl) (Nat.le_of_ble_eq_true rfl) (Nat.le_of_ble_eq_true rfl) ?_
        rintro _ _ _ ⟨hx7, hI8, hL9⟩
        have hx7 := hx7.symm; subst hx7
        have hI8 := hI8.symm; subst hI8; have hL9 := hL9.symm; subst hL9
        refine k_iconst C (x := 1) rfl rfl rfl ?_
        refine k_icmp_le C (t := 105) rfl rfl rfl (fun c99 => ?_) (fun c99 => ?_)
        · skip
          have hac : acP D z (Int32.ofNat i) j := ⟨h56, hor, Or.inr (by have := (n_le (a := gdP D (Int32.ofNat i) j) (b := 1) (by omega) (by omega)).mp c99; omega)⟩
          refine k_iload C rfl rfl rfl ?_
          refine k_iload_n C rfl rfl rfl ?_
          refine k_icmp_ne C (t := 129) rfl rfl rfl (fun c108 => ?_) (fun c108 => ?_)
          · skip
            have hsk : sk1 D z k (Int32.ofNat i) j s = (s.1 + 1, s.2) := sk1_m hac c108
            refine k_inc1 C (lw := [(4, .int _), (7, .int _), (6, .int _), (5, .int _), (0, _), (1, .int _), (2, .int _), (3, .int _)]) rfl rfl rfl (Nat.le_of_ble_eq_true rfl) rfl ?_
            refine k_sub S [(6, .int j), (5, .int (Int32.ofNat i)), (4, _), (0, .ref m), (1, .int D), (2, .int z), (3, .int k)] (List.forall_mem_cons.mpr ⟨List.mem_of_getElem? (i := 2) rfl, List.forall_mem_cons.mpr ⟨List.mem_of_getElem? (i := 3) rfl, List.forall_mem_cons.mpr ⟨List.mem_of_getElem? (i := 0) rfl, List.forall_mem_cons.mpr ⟨List.mem_of_getElem? (i := 4) rfl, List.forall_mem_cons.mpr ⟨List.mem_of_getElem? (i := 5) rfl, List.forall_mem_cons.mpr ⟨List.mem_of_getElem? (i := 6) rfl, List.forall_mem_cons.mpr ⟨List.mem_of_getElem? (i := 7) rfl, fun _ h => nomatch h⟩⟩⟩⟩⟩⟩⟩) ?_
            refine k_inc1 C (lw := [(6, .int _), (5, .int _), (4, .int _), (0, _), (1, .int _), (2, .int _), (3, .int _)]) rfl rfl rfl (Nat.le_of_ble_eq_true rfl) rfl ?_
            refine k_goto C (pc2 := 24) rfl rfl ?_
            exact ih (j + 1) (s.1 + 1, s.2) _ (by rw [hj1]; omega) (by omega) hF ⟨hr.1.m c108, hr.2⟩ (fun L2 t ht hF2 hr2 => K L2 t (ht.trans (by show _ = itJ D z k (Int32.ofNat i) n (j + 1) (sk1 D z k (Int32.ofNat i) j s); rw [hsk])) hF2 hr2)
          refine k_aload_n C rfl rfl rfl ?_
          refine k_iload C rfl rfl rfl ?_
          refine p_I C rfl rfl rfl T_m (Or.inr rfl) rfl ?_
          refine k_aload_n C rfl rfl rfl ?_
          refine k_iload C rfl rfl rfl ?_
          refine p_I C rfl rfl rfl T_m (Or.inr rfl) rfl ?_
          refine k_aload_n C rfl rfl rfl ?_
          refine k_iload C rfl rfl rfl ?_
          refine p_I C rfl rfl rfl T_m (Or.inr rfl) rfl ?_
          refine k_inc1 C (lw := [(4, .int _), (7, .int _), (6, .int _), (5, .int _), (0, _), (1, .int _), (2, .int _), (3, .int _)]) rfl rfl rfl (Nat.le_of_ble_eq_true rfl) rfl ?_
          refine k_sub S [(6, .int j), (5, .int (Int32.ofNat i)), (4, _), (0, .ref m), (1, .int D), (2, .int z), (3, .int k)] (List.forall_mem_cons.mpr ⟨List.mem_of_getElem? (i := 2) rfl, List.forall_mem_cons.mpr ⟨List.mem_of_getElem? (i := 3) rfl, List.forall_mem_cons.mpr ⟨List.mem_of_getElem? (i := 0) rfl, List.forall_mem_cons.mpr ⟨List.mem_of_getElem? (i := 4) rfl, List.forall_mem_cons.mpr ⟨List.mem_of_getElem? (i := 5) rfl, List.forall_mem_cons.mpr ⟨List.mem_of_getElem? (i := 6) rfl, List.forall_mem_cons.mpr ⟨List.mem_of_getElem? (i := 7) rfl, fun _ h => nomatch h⟩⟩⟩⟩⟩⟩⟩) ?_
          refine k_inc1 C (lw := [(6, .int _), (5, .int _), (4, .int _), (0, _), (1, .int _), (2, .int _), (3, .int _)]) rfl rfl rfl (Nat.le_of_ble_eq_true rfl) rfl ?_
          refine k_goto C (pc2 := 24) rfl rfl ?_
          exact ih (j + 1) (s.1 + 1, Int32.ofNat i, j, ltP D (Int32.ofNat i) j) _ (by rw [hj1]; omega) (by omega) (Fr.i (Fr.i (Fr.i hF A_m) A_m) A_m) ⟨SKi.h, IK3.h hr.2⟩ (fun L2 t ht hF2 hr2 => K L2 t (ht.trans (by show _ = itJ D z k (Int32.ofNat i) n (j + 1) (sk1 D z k (Int32.ofNat i) j s); rw [sk1_y hac (Decidable.not_not.mp c108)])) hF2 hr2)
        have hsk : sk1 D z k (Int32.ofNat i) j s = s := sk1_n (fun h => h.2.2.elim (fun h => c83 h) (fun h => c99 ((n_le (a := gdP D (Int32.ofNat i) j) (b := 1) (by omega) (by omega)).mpr (by omega))))
        refine k_goto C (pc2 := 132) rfl rfl ?_
        refine k_sub S [(6, .int j), (5, .int (Int32.ofNat i)), (4, _), (0, .ref m), (1, .int D), (2, .int z), (3, .int k)] (List.forall_mem_cons.mpr ⟨List.mem_of_getElem? (i := 1) rfl, List.forall_mem_cons.mpr ⟨List.mem_of_getElem? (i := 2) rfl, List.forall_mem_cons.mpr ⟨List.mem_of_getElem? (i := 3) rfl, List.forall_mem_cons.mpr ⟨List.mem_of_getElem? (i := 4) rfl, List.forall_mem_cons.mpr ⟨List.mem_of_getElem? (i := 5) rfl, List.forall_mem_cons.mpr ⟨List.mem_of_getElem? (i := 6) rfl, List.forall_mem_cons.mpr ⟨List.mem_of_getElem? (i := 7) rfl, fun _ h => nomatch h⟩⟩⟩⟩⟩⟩⟩) ?_
        refine k_inc1 C (lw := [(6, .int _), (5, .int _), (4, .int _), (0, _), (1, .int _), (2, .int _), (3, .int _)]) rfl rfl rfl (Nat.le_of_ble_eq_true rfl) rfl ?_
        refine k_goto C (pc2 := 24) rfl rfl ?_
        exact ih (j + 1) s _ (by rw [hj1]; omega) (by omega) hF hr (fun L2 t ht hF2 hr2 => K L2 t (ht.trans (by show _ = itJ D z k (Int32.ofNat i) n (j + 1) (sk1 D z k (Int32.ofNat i) j s); rw [hsk])) hF2 hr2)
      have h70 : ltP D (Int32.ofNat i) j = Int32.ofNat i := Decidable.not_not.mp c74
      refine k_iload C rfl rfl rfl ?_
      refine k_if_lt C (t := 132) rfl rfl rfl (fun c79 => ?_) (fun c79 => ?_)
      · skip
        have hsk : sk1 D z k (Int32.ofNat i) j s = s := sk1_n (fun h => h.2.1.elim (fun h => absurd h (by rw [h70]; exact Int32.lt_irrefl)) (fun h => absurd h.2 (Int32.not_le.mpr c79)))
        refine k_sub S [(6, .int j), (5, .int (Int32.ofNat i)), (4, _), (0, .ref m), (1, .int D), (2, .int z), (3, .int k)] (List.forall_mem_cons.mpr ⟨List.mem_of_getElem? (i := 1) rfl, List.forall_mem_cons.mpr ⟨List.mem_of_getElem? (i := 2) rfl, List.forall_mem_cons.mpr ⟨List.mem_of_getElem? (i := 3) rfl, List.forall_mem_cons.mpr ⟨List.mem_of_getElem? (i := 4) rfl, List.forall_mem_cons.mpr ⟨List.mem_of_getElem? (i := 5) rfl, List.forall_mem_cons.mpr ⟨List.mem_of_getElem? (i := 6) rfl, List.forall_mem_cons.mpr ⟨List.mem_of_getElem? (i := 7) rfl, fun _ h => nomatch h⟩⟩⟩⟩⟩⟩⟩) ?_
        refine k_inc1 C (lw := [(6, .int _), (5, .int _), (4, .int _), (0, _), (1, .int _), (2, .int _), (3, .int _)]) rfl rfl rfl (Nat.le_of_ble_eq_true rfl) rfl ?_
        refine k_goto C (pc2 := 24) rfl rfl ?_
        exact ih (j + 1) s _ (by rw [hj1]; omega) (by omega) hF hr (fun L2 t ht hF2 hr2 => K L2 t (ht.trans (by show _ = itJ D z k (Int32.ofNat i) n (j + 1) (sk1 D z k (Int32.ofNat i) j s); rw [hsk])) hF2 hr2)
      have hor : Int32.ofNat i < ltP D (Int32.ofNat i) j ∨ (ltP D (Int32.ofNat i) j = Int32.ofNat i ∧ 0 ≤ j) := Or.inr ⟨h70, Int32.not_lt.mp c79⟩
      refine k_iload_n C rfl rfl rfl ?_
      refine k_if_ne C (t := 105) rfl rfl rfl (fun c83 => ?_) (fun c83 => ?_)
      · skip
        have hac : acP D z (Int32.ofNat i) j := ⟨h56, hor, Or.inl c83⟩
        refine k_iload C rfl rfl rfl ?_
        refine k_iload_n C rfl rfl rfl ?_
        refine k_icmp_ne C (t := 129) rfl rfl rfl (fun c108 => ?_) (fun c108 => ?_)
        · skip
          have hsk : sk1 D z k (Int32.ofNat i) j s = (s.1 + 1, s.2) := sk1_m hac c108
          refine k_inc1 C (lw := [(4, .int _), (7, .int _), (6, .int _), (5, .int _), (0, _), (1, .int _), (2, .int _), (3, .int _)]) rfl rfl rfl (Nat.le_of_ble_eq_true rfl) rfl ?_
          refine k_sub S [(6, .int j), (5, .int (Int32.ofNat i)), (4, _), (0, .ref m), (1, .int D), (2, .int z), (3, .int k)] (List.forall_mem_cons.mpr ⟨List.mem_of_getElem? (i := 2) rfl, List.forall_mem_cons.mpr ⟨List.mem_of_getElem? (i := 3) rfl, List.forall_mem_cons.mpr ⟨List.mem_of_getElem? (i := 0) rfl, List.forall_mem_cons.mpr ⟨List.mem_of_getElem? (i := 4) rfl, List.forall_mem_cons.mpr ⟨List.mem_of_getElem? (i := 5) rfl, List.forall_mem_cons.mpr ⟨List.mem_of_getElem? (i := 6) rfl, List.forall_mem_cons.mpr ⟨List.mem_of_getElem? (i := 7) rfl, fun _ h => nomatch h⟩⟩⟩⟩⟩⟩⟩) ?_
          refine k_inc1 C (lw := [(6, .int _), (5, .int _), (4, .int _), (0, _), (1, .int _), (2, .int _), (3, .int _)]) rfl rfl rfl (Nat.le_of_ble_eq_true rfl) rfl ?_
          refine k_goto C (pc2 := 24) rfl rfl ?_
          exact ih (j + 1) (s.1 + 1, s.2) _ (by rw [hj1]; omega) (by omega) hF ⟨hr.1.m c108, hr.2⟩ (fun L2 t ht hF2 hr2 => K L2 t (ht.trans (by show _ = itJ D z k (Int32.ofNat i) n (j + 1) (sk1 D z k (Int32.ofNat i) j s); rw [hsk])) hF2 hr2)
        refine k_aload_n C rfl rfl rfl ?_
        refine k_iload C rfl rfl rfl ?_
        refine p_I C rfl rfl rfl T_m (Or.inr rfl) rfl ?_
        refine k_aload_n C rfl rfl rfl ?_
        refine k_iload C rfl rfl rfl ?_
        refine p_I C rfl rfl rfl T_m (Or.inr rfl) rfl ?_
        refine k_aload_n C rfl rfl rfl ?_
        refine k_iload C rfl rfl rfl ?_
        refine p_I C rfl rfl rfl T_m (Or.inr rfl) rfl ?_
        refine k_inc1 C (lw := [(4, .int _), (7, .int _), (6, .int _), (5, .int _), (0, _), (1, .int _), (2, .int _), (3, .int _)]) rfl rfl rfl (Nat.le_of_ble_eq_true rfl) rfl ?_
        refine k_sub S [(6, .int j), (5, .int (Int32.ofNat i)), (4, _), (0, .ref m), (1, .int D), (2, .int z), (3, .int k)] (List.forall_mem_cons.mpr ⟨List.mem_of_getElem? (i := 2) rfl, List.forall_mem_cons.mpr ⟨List.mem_of_getElem? (i := 3) rfl, List.forall_mem_cons.mpr ⟨List.mem_of_getElem? (i := 0) rfl, List.forall_mem_cons.mpr ⟨List.mem_of_getElem? (i := 4) rfl, List.forall_mem_cons.mpr ⟨List.mem_of_getElem? (i := 5) rfl, List.forall_mem_cons.mpr ⟨List.mem_of_getElem? (i := 6) rfl, List.forall_mem_cons.mpr ⟨List.mem_of_getElem? (i := 7) rfl, fun _ h => nomatch h⟩⟩⟩⟩⟩⟩⟩) ?_
        refine k_inc1 C (lw := [(6, .int _), (5, .int _), (4, .int _), (0, _), (1, .int _), (2, .int _), (3, .int _)]) rfl rfl rfl (Nat.le_of_ble_eq_true rfl) rfl ?_
        refine k_goto C (pc2 := 24) rfl rfl ?_
        exact ih (j + 1) (s.1 + 1, Int32.ofNat i, j, ltP D (Int32.ofNat i) j) _ (by rw [hj1]; omega) (by omega) (Fr.i (Fr.i (Fr.i hF A_m) A_m) A_m) ⟨SKi.h, IK3.h hr.2⟩ (fun L2 t ht hF2 hr2 => K L2 t (ht.trans (by show _ = itJ D z k (Int32.ofNat i) n (j + 1) (sk1 D z k (Int32.ofNat i) j s); rw [sk1_y hac (Decidable.not_not.mp c108)])) hF2 hr2)
      refine k_iload C rfl rfl rfl ?_
      refine k_iload C rfl rfl rfl ?_
      refine c_SI C (e_m_shared  (by rw [n_int (by omega)]; omega) (by omega)) rfl rfl rfl rfl rfl rfl rfl (Nat.le_of_ble_eq_true rfl) (Nat.le_of_ble_eq_true rfl) (Nat.le_of_ble_eq_true rfl) ?_
      rintro _ _ _ ⟨hx7, hI8, hL9⟩
      have hx7 := hx7.symm; subst hx7
      have hI8 := hI8.symm; subst hI8; have hL9 := hL9.symm; subst hL9
      refine k_iload C rfl rfl rfl ?_
      refine c_SI C (e_m_shared  (by rw [n_int (by omega)]; omega) (show -2147483648 < (ltP D (Int32.ofNat i) j).toInt by omega)) rfl rfl rfl rfl rfl rfl rfl (Nat.le_of_ble_eq_true rfl) (Nat.le_of_ble_eq_true rfl) (Nat.le_of_ble_eq_true rfl) ?_
      rintro _ _ _ ⟨hx7, hI8, hL9⟩
      have hx7 := hx7.symm; subst hx7
      have hI8 := hI8.symm; subst hI8; have hL9 := hL9.symm; subst hL9
      refine k_iconst C (x := 1) rfl rfl rfl ?_
      refine k_icmp_le C (t := 105) rfl rfl rfl (fun c99 => ?_) (fun c99 => ?_)
      · skip
        have hac : acP D z (Int32.ofNat i) j := ⟨h56, hor, Or.inr (by have := (n_le (a := gdP D (Int32.ofNat i) j) (b := 1) (by omega) (by omega)).mp c99; omega)⟩
        refine k_iload C rfl rfl rfl ?_
        refine k_iload_n C rfl rfl rfl ?_
        refine k_icmp_ne C (t := 129) rfl rfl rfl (fun c108 => ?_) (fun c108 => ?_)
        · skip
          have hsk : sk1 D z k (Int32.ofNat i) j s = (s.1 + 1, s.2) := sk1_m hac c108
          refine k_inc1 C (lw := [(4, .int _), (7, .int _), (6, .int _), (5, .int _), (0, _), (1, .int _), (2, .int _), (3, .int _)]) rfl rfl rfl (Nat.le_of_ble_eq_true rfl) rfl ?_
          refine k_sub S [(6, .int j), (5, .int (Int32.ofNat i)), (4, _), (0, .ref m), (1, .int D), (2, .int z), (3, .int k)] (List.forall_mem_cons.mpr ⟨List.mem_of_getElem? (i := 2) rfl, List.forall_mem_cons.mpr ⟨List.mem_of_getElem? (i := 3) rfl, List.forall_mem_cons.mpr ⟨List.mem_of_getElem? (i := 0) rfl, List.forall_mem_cons.mpr ⟨List.mem_of_getElem? (i := 4) rfl, List.forall_mem_cons.mpr ⟨List.mem_of_getElem? (i := 5) rfl, List.forall_mem_cons.mpr ⟨List.mem_of_getElem? (i := 6) rfl, List.forall_mem_cons.mpr ⟨List.mem_of_getElem? (i := 7) rfl, fun _ h => nomatch h⟩⟩⟩⟩⟩⟩⟩) ?_
          refine k_inc1 C (lw := [(6, .int _), (5, .int _), (4, .int _), (0, _), (1, .int _), (2, .int _), (3, .int _)]) rfl rfl rfl (Nat.le_of_ble_eq_true rfl) rfl ?_
          refine k_goto C (pc2 := 24) rfl rfl ?_
          exact ih (j + 1) (s.1 + 1, s.2) _ (by rw [hj1]; omega) (by omega) hF ⟨hr.1.m c108, hr.2⟩ (fun L2 t ht hF2 hr2 => K L2 t (ht.trans (by show _ = itJ D z k (Int32.ofNat i) n (j + 1) (sk1 D z k (Int32.ofNat i) j s); rw [hsk])) hF2 hr2)
        refine k_aload_n C rfl rfl rfl ?_
        refine k_iload C rfl rfl rfl ?_
        refine p_I C rfl rfl rfl T_m (Or.inr rfl) rfl ?_
        refine k_aload_n C rfl rfl rfl ?_
        refine k_iload C rfl rfl rfl ?_
        refine p_I C rfl rfl rfl T_m (Or.inr rfl) rfl ?_
        refine k_aload_n C rfl rfl rfl ?_
        refine k_iload C rfl rfl rfl ?_
        refine p_I C rfl rfl rfl T_m (Or.inr rfl) rfl ?_
        refine k_inc1 C (lw := [(4, .int _), (7, .int _), (6, .int _), (5, .int _), (0, _), (1, .int _), (2, .int _), (3, .int _)]) rfl rfl rfl (Nat.le_of_ble_eq_true rfl) rfl ?_
        refine k_sub S [(6, .int j), (5, .int (Int32.ofNat i)), (4, _), (0, .ref m), (1, .int D), (2, .int z), (3, .int k)] (List.forall_mem_cons.mpr ⟨List.mem_of_getElem? (i := 2) rfl, List.forall_mem_cons.mpr ⟨List.mem_of_getElem? (i := 3) rfl, List.forall_mem_cons.mpr ⟨List.mem_of_getElem? (i := 0) rfl, List.forall_mem_cons.mpr ⟨List.mem_of_getElem? (i := 4) rfl, List.forall_mem_cons.mpr ⟨List.mem_of_getElem? (i := 5) rfl, List.forall_mem_cons.mpr ⟨List.mem_of_getElem? (i := 6) rfl, List.forall_mem_cons.mpr ⟨List.mem_of_getElem? (i := 7) rfl, fun _ h => nomatch h⟩⟩⟩⟩⟩⟩⟩) ?_
        refine k_inc1 C (lw := [(6, .int _), (5, .int _), (4, .int _), (0, _), (1, .int _), (2, .int _), (3, .int _)]) rfl rfl rfl (Nat.le_of_ble_eq_true rfl) rfl ?_
        refine k_goto C (pc2 := 24) rfl rfl ?_
        exact ih (j + 1) (s.1 + 1, Int32.ofNat i, j, ltP D (Int32.ofNat i) j) _ (by rw [hj1]; omega) (by omega) (Fr.i (Fr.i (Fr.i hF A_m) A_m) A_m) ⟨SKi.h, IK3.h hr.2⟩ (fun L2 t ht hF2 hr2 => K L2 t (ht.trans (by show _ = itJ D z k (Int32.ofNat i) n (j + 1) (sk1 D z k (Int32.ofNat i) j s); rw [sk1_y hac (Decidable.not_not.mp c108)])) hF2 hr2)
      have hsk : sk1 D z k (Int32.ofNat i) j s = s := sk1_n (fun h => h.2.2.elim (fun h => c83 h) (fun h => c99 ((n_le (a := gdP D (Int32.ofNat i) j) (b := 1) (by omega) (by omega)).mpr (by omega))))
      refine k_goto C (pc2 := 132) rfl rfl ?_
      refine k_sub S [(6, .int j), (5, .int (Int32.ofNat i)), (4, _), (0, .ref m), (1, .int D), (2, .int z), (3, .int k)] (List.forall_mem_cons.mpr ⟨List.mem_of_getElem? (i := 1) rfl, List.forall_mem_cons.mpr ⟨List.mem_of_getElem? (i := 2) rfl, List.forall_mem_cons.mpr ⟨List.mem_of_getElem? (i := 3) rfl, List.forall_mem_cons.mpr ⟨List.mem_of_getElem? (i := 4) rfl, List.forall_mem_cons.mpr ⟨List.mem_of_getElem? (i := 5) rfl, List.forall_mem_cons.mpr ⟨List.mem_of_getElem? (i := 6) rfl, List.forall_mem_cons.mpr ⟨List.mem_of_getElem? (i := 7) rfl, fun _ h => nomatch h⟩⟩⟩⟩⟩⟩⟩) ?_
      refine k_inc1 C (lw := [(6, .int _), (5, .int _), (4, .int _), (0, _), (1, .int _), (2, .int _), (3, .int _)]) rfl rfl rfl (Nat.le_of_ble_eq_true rfl) rfl ?_
      refine k_goto C (pc2 := 24) rfl rfl ?_
      exact ih (j + 1) s _ (by rw [hj1]; omega) (by omega) hF hr (fun L2 t ht hF2 hr2 => K L2 t (ht.trans (by show _ = itJ D z k (Int32.ofNat i) n (j + 1) (sk1 D z k (Int32.ofNat i) j s); rw [hsk])) hF2 hr2)
    have hsk : sk1 D z k (Int32.ofNat i) j s = s := sk1_n (fun h => c43 h.1)
    refine k_goto C (pc2 := 132) rfl rfl ?_
    refine k_sub S [(6, .int j), (5, .int (Int32.ofNat i)), (4, _), (0, .ref m), (1, .int D), (2, .int z), (3, .int k)] (List.forall_mem_cons.mpr ⟨List.mem_of_getElem? (i := 0) rfl, List.forall_mem_cons.mpr ⟨List.mem_of_getElem? (i := 1) rfl, List.forall_mem_cons.mpr ⟨List.mem_of_getElem? (i := 2) rfl, List.forall_mem_cons.mpr ⟨List.mem_of_getElem? (i := 3) rfl, List.forall_mem_cons.mpr ⟨List.mem_of_getElem? (i := 4) rfl, List.forall_mem_cons.mpr ⟨List.mem_of_getElem? (i := 5) rfl, List.forall_mem_cons.mpr ⟨List.mem_of_getElem? (i := 6) rfl, fun _ h => nomatch h⟩⟩⟩⟩⟩⟩⟩) ?_
    refine k_inc1 C (lw := [(6, .int _), (5, .int _), (4, .int _), (0, _), (1, .int _), (2, .int _), (3, .int _)]) rfl rfl rfl (Nat.le_of_ble_eq_true rfl) rfl ?_
    refine k_goto C (pc2 := 24) rfl rfl ?_
    exact ih (j + 1) s _ (by rw [hj1]; omega) (by omega) hF hr (fun L2 t ht hF2 hr2 => K L2 t (ht.trans (by show _ = itJ D z k (Int32.ofNat i) n (j + 1) (sk1 D z k (Int32.ofNat i) j s); rw [hsk])) hF2 hr2)
end
-- 39.41.seek.lean.txt
section
/-! CLASSES, the calls -/
theorem cs_outer {d : Nat} {V : V_T} {q : mm_T} {Post : Po} {T N : Nat → Nat} {R : RT} {A : Nat → Prop} {I : IT} {L : LT} {wh : Nat} {D z k : Int32} (hq : P_mq 120 = some q) (C : Cl (d + 2) q 0 0 Post V) (S : SB V) (T_wh : T wh = 11) (A_wh : A wh) (hD : isDc D) (hz : z = 0 ∨ z = 1) : ∀ (n i : Nat) (s : SG) (L1 : LT), n + i = 59 → 1 ≤ i → i ≤ 58 → Fr A I L I L1 → SKc k s L1 wh → (∀ (L2 : LT) (t : SG), t = itI D z k n i s → Fr A I L I L2 → SKc k t L2 wh → ∀ x5 : Int32, V 152 [(5, .int x5), (4, .int t.1), (0, .ref wh), (1, .int D), (2, .int z), (3, .int k)] [] (T, N, I, L2, R) 0 0) → V 6 [(5, .int (Int32.ofNat i)), (4, .int s.1), (0, .ref wh), (1, .int D), (2, .int z), (3, .int k)] [] (T, N, I, L1, R) 0 0 := by
  intro n
  induction n with
  | zero => intro i s L1 hn h1 h2; omega
  | succ n ih =>
    intro i s L1 hn h1 h2 hF hr K
    have hq9 := hq
    cases hq
    have e3 := i3_int h2
    have en := neg32 hD
    obtain ⟨d1, d2, d3⟩ := id hD
    refine k_iconst C (x := 3) rfl rfl rfl ?_
    refine k_iload C rfl rfl rfl ?_
    refine k_imul C rfl rfl ?_
    refine k_iload C rfl rfl rfl ?_
    refine k_imul C rfl rfl ?_
    refine k_iload_n C rfl rfl rfl ?_
    refine k_ineg C rfl rfl ?_
    refine k_icmp_gt C (t := 152) rfl rfl rfl (fun c => ?_) (fun c => ?_)
    · exact K _ s (by show _ = @ite SG _ (Classical.propDecidable _) s _; exact (if_pos c).symm) hF hr _
    · have hi57 : i ≤ 57 := by
        have c2 : ¬ (-D).toInt < (3 * Int32.ofNat i * Int32.ofNat i).toInt := fun h => c (i_lt.mpr h)
        rw [e3, en] at c2
        rcases Nat.lt_or_ge i 58 with q9 | q9
        · omega
        · have : i = 58 := by omega
          subst this; omega
      have e1 : (1 : Int32).toInt = 1 := rfl
      have hj : (1 - Int32.ofNat i).toInt = 1 - (i : Int) := by rw [ii_sub (by rw [e1, n_int (by omega)]; omega), e1, n_int (by omega)]
      refine k_iconst C (x := 1) rfl rfl rfl ?_
      refine k_iload C rfl rfl rfl ?_
      refine k_isub C rfl rfl ?_
      refine k_istore C (lw := [(6, .int _), (5, .int _), (4, .int _), (0, _), (1, .int _), (2, .int _), (3, .int _)]) rfl rfl (Nat.le_of_ble_eq_true rfl) rfl ?_
      refine cs_inner hq9 C S T_wh A_wh hD hz ⟨h1, hi57⟩ (2 * i) _ s _ (by rw [hj]; omega) (by rw [hj]; omega) hF hr (fun L2 t ht hF2 hr2 x6 => ?_)
      refine k_sub S [(5, .int (Int32.ofNat i)), (4, .int t.1), (0, .ref wh), (1, .int D), (2, .int z), (3, .int k)] (List.forall_mem_cons.mpr ⟨List.mem_of_getElem? (i := 1) rfl, List.forall_mem_cons.mpr ⟨List.mem_of_getElem? (i := 2) rfl, List.forall_mem_cons.mpr ⟨List.mem_of_getElem? (i := 3) rfl, List.forall_mem_cons.mpr ⟨List.mem_of_getElem? (i := 4) rfl, List.forall_mem_cons.mpr ⟨List.mem_of_getElem? (i := 5) rfl, List.forall_mem_cons.mpr ⟨List.mem_of_getElem? (i := 6) rfl, fun _ h => nomatch h⟩⟩⟩⟩⟩⟩) ?_
      refine k_inc1 C (lw := [(5, .int _), (4, .int _), (0, _), (1, .int _), (2, .int _), (3, .int _)]) rfl rfl rfl (Nat.le_of_ble_eq_true rfl) rfl ?_
      refine k_goto C (pc2 := 6) rfl rfl ?_
      rw [n_s]
      exact ih (i + 1) t _ (by omega) (by omega) (by omega) hF2 hr2 (fun L3 t3 ht3 hF3 hr3 => K L3 t3 (ht3.trans (by rw [ht]; show _ = @ite SG _ (Classical.propDecidable _) s _; exact (if_neg c).symm)) hF3 hr3)
theorem ms_outer {d : Nat} {V : V_T} {q : mm_T} {Post : Po} {T N : Nat → Nat} {R : RT} {A : Nat → Prop} {I : IT} {L : LT} {m : Nat} {D z k : Int32} (hq : P_mq 306 = some q) (C : Cl (d + 2) q 0 0 Post V) (S : SB V) (T_m : T m = 13) (A_m : A m) (hD : isDc D) (hz : z = 0 ∨ z = 1) : ∀ (n i : Nat) (s : SG) (I1 : IT), n + i = 59 → 1 ≤ i → i ≤ 58 → Fr A I L I1 L → (SKi k s I1 m ∧ IK3 m I I1) → (∀ (I2 : IT) (t : SG), t = itI D z k n i s → Fr A I L I2 L → (SKi k t I2 m ∧ IK3 m I I2) → ∀ x5 : Int32, V 144 [(5, .int x5), (4, .int t.1), (0, .ref m), (1, .int D), (2, .int z), (3, .int k)] [] (T, N, I2, L, R) 0 0) → V 6 [(5, .int (Int32.ofNat i)), (4, .int s.1), (0, .ref m), (1, .int D), (2, .int z), (3, .int k)] [] (T, N, I1, L, R) 0 0 := by
  intro n
  induction n with
  | zero => intro i s I1 hn h1 h2; omega
  | succ n ih =>
    intro i s I1 hn h1 h2 hF hr K
    have hq9 := hq
    cases hq
    have e3 := i3_int h2
    have en := neg32 hD
    obtain ⟨d1, d2, d3⟩ := id hD
    refine k_iconst C (x := 3) rfl rfl rfl ?_
    refine k_iload C rfl rfl rfl ?_
    refine k_imul C rfl rfl ?_
    refine k_iload C rfl rfl rfl ?_
    refine k_imul C rfl rfl ?_
    refine k_iload_n C rfl rfl rfl ?_
    refine k_ineg C rfl rfl ?_
    refine k_icmp_gt C (t := 144) rfl rfl rfl (fun c => ?_) (fun c => ?_)
    · exact K _ s (by show _ = @ite SG _ (Classical.propDecidable _) s _; exact (if_pos c).symm) hF hr _
    · have hi57 : i ≤ 57 := by
        have c2 : ¬ (-D).toInt < (3 * Int32.ofNat i * Int32.ofNat i).toInt := fun h => c (i_lt.mpr h)
        rw [e3, en] at c2
        rcases Nat.lt_or_ge i 58 with q9 | q9
        · omega
        · have : i = 58 := by omega
          subst this; omega
      have e1 : (1 : Int32).toInt = 1 := rfl
      have hj : (1 - Int32.ofNat i).toInt = 1 - (i : Int) := by rw [ii_sub (by rw [e1, n_int (by omega)]; omega), e1, n_int (by omega)]
      refine k_iconst C (x := 1) rfl rfl rfl ?_
      refine k_iload C rfl rfl rfl ?_
      refine k_isub C rfl rfl ?_
      refine k_istore C (lw := [(6, .int _), (5, .int _), (4, .int _), (0, _), (1, .int _), (2, .int _), (3, .int _)]) rfl rfl (Nat.le_of_ble_eq_true rfl) rfl ?_
      refine ms_inner hq9 C S T_m A_m hD hz ⟨h1, hi57⟩ (2 * i) _ s _ (by rw [hj]; omega) (by rw [hj]; omega) hF hr (fun I2 t ht hF2 hr2 x6 => ?_)
      refine k_sub S [(5, .int (Int32.ofNat i)), (4, .int t.1), (0, .ref m), (1, .int D), (2, .int z), (3, .int k)] (List.forall_mem_cons.mpr ⟨List.mem_of_getElem? (i := 1) rfl, List.forall_mem_cons.mpr ⟨List.mem_of_getElem? (i := 2) rfl, List.forall_mem_cons.mpr ⟨List.mem_of_getElem? (i := 3) rfl, List.forall_mem_cons.mpr ⟨List.mem_of_getElem? (i := 4) rfl, List.forall_mem_cons.mpr ⟨List.mem_of_getElem? (i := 5) rfl, List.forall_mem_cons.mpr ⟨List.mem_of_getElem? (i := 6) rfl, fun _ h => nomatch h⟩⟩⟩⟩⟩⟩) ?_
      refine k_inc1 C (lw := [(5, .int _), (4, .int _), (0, _), (1, .int _), (2, .int _), (3, .int _)]) rfl rfl rfl (Nat.le_of_ble_eq_true rfl) rfl ?_
      refine k_goto C (pc2 := 6) rfl rfl ?_
      rw [n_s]
      exact ih (i + 1) t _ (by omega) (by omega) (by omega) hF2 hr2 (fun I3 t3 ht3 hF3 hr3 => K I3 t3 (ht3.trans (by rw [ht]; show _ = @ite SG _ (Classical.propDecidable _) s _; exact (if_neg c).symm)) hF3 hr3)
noncomputable def sgP (D z k : Int32) : SG := itI D z k 58 1 (0, 0, 0, 0)
theorem e_seek {d : Nat} {T N : Nat → Nat} {I : IT} {L : LT} {R : RT} {A : Nat → Prop} {wh : Nat} {D z k : Int32} (T_wh : T wh = 11) (A_wh : A wh) (hD : isDc D) (hz : z = 0 ∨ z = 1) : Ex (d + 3) 120 [.ref wh, .int D, .int z, .int k] (T, N, I, L, R) 0 0 (pI T N R (fun x9 I9 L9 => x9 = (sgP D z k).1 ∧ I9 = I ∧ Fr A I L I9 L9 ∧ SKc k (sgP D z k) L9 wh)) := by
  refine ⟨_, rfl, Nat.le_of_ble_eq_true rfl, fun V C S => ?_⟩
  show V 0 [(0, .ref wh), (1, .int D), (2, .int z), (3, .int k)] [] (T, N, I, L, R) 0 0
  refine k_iconst C (x := 0) rfl rfl rfl ?_
  refine k_istore C (lw := [(4, .int _), (0, _), (1, .int _), (2, .int _), (3, .int _)]) rfl rfl (Nat.le_of_ble_eq_true rfl) rfl ?_
  refine k_iconst C (x := 1) rfl rfl rfl ?_
  refine k_istore C (lw := [(5, .int _), (4, .int _), (0, _), (1, .int _), (2, .int _), (3, .int _)]) rfl rfl (Nat.le_of_ble_eq_true rfl) rfl ?_
  refine cs_outer (L := L) (I := I) rfl C S T_wh A_wh hD hz 58 1 (0, 0, 0, 0) _ (by omega) (Nat.le_refl _) (by omega) Fr.rf SKc.z (fun M2 t ht hF2 hr2 x5 => ?_)
  refine k_iload C rfl rfl rfl ?_
  subst ht
  exact k_iret C rfl (Or.inl rfl) (Nat.le_of_ble_eq_true rfl) (Nat.le_of_ble_eq_true rfl) ⟨_, _, _, rfl, rfl, rfl, rfl, hF2, hr2⟩


theorem e_m_reducedMany {d : Nat} {T N : Nat → Nat} {I : IT} {L : LT} {R : RT} {A : Nat → Prop} {m : Nat} {D z k : Int32} (T_m : T m = 13) (A_m : A m) (hD : isDc D) (hz : z = 0 ∨ z = 1) : Ex (d + 3) 306 [.ref m, .int D, .int z, .int k] (T, N, I, L, R) 0 0 (pI T N R (fun x9 I9 L9 => x9 = (sgP D z k).1 ∧ L9 = L ∧ Fr A I L I9 L9 ∧ SKi k (sgP D z k) I9 m ∧ IK3 m I I9)) := by
  refine ⟨_, rfl, Nat.le_of_ble_eq_true rfl, fun V C S => ?_⟩
  show V 0 [(0, .ref m), (1, .int D), (2, .int z), (3, .int k)] [] (T, N, I, L, R) 0 0
  refine k_iconst C (x := 0) rfl rfl rfl ?_
  refine k_istore C (lw := [(4, .int _), (0, _), (1, .int _), (2, .int _), (3, .int _)]) rfl rfl (Nat.le_of_ble_eq_true rfl) rfl ?_
  refine k_iconst C (x := 1) rfl rfl rfl ?_
  refine k_istore C (lw := [(5, .int _), (4, .int _), (0, _), (1, .int _), (2, .int _), (3, .int _)]) rfl rfl (Nat.le_of_ble_eq_true rfl) rfl ?_
  refine ms_outer (L := L) (I := I) rfl C S T_m A_m hD hz 58 1 (0, 0, 0, 0) _ (by omega) (Nat.le_refl _) (by omega) Fr.rf ⟨SKi.z, fun _ _ => rfl⟩ (fun M2 t ht hF2 hr2 x5 => ?_)
  refine k_iload C rfl rfl rfl ?_
  subst ht
  exact k_iret C rfl (Or.inl rfl) (Nat.le_of_ble_eq_true rfl) (Nat.le_of_ble_eq_true rfl) ⟨_, _, _, rfl, rfl, rfl, rfl, hF2, hr2⟩


theorem e_classes_no {d : Nat} {T N : Nat → Nat} {I : IT} {L : LT} {R : RT} {x : Nat} {D z : Int32} (T_x : T x = 12) (h : ¬ isDc D) : Ex (d + 3) 171 [.ref x, .int D, .int z] (T, N, I, L, R) 1 6 (pX 0 T N R (fun I9 L9 => I9 = I ∧ L9 = L)) := by
  refine ⟨_, rfl, Nat.le_of_ble_eq_true rfl, fun V C S => ?_⟩
  show V 0 [(0, .ref x), (1, .int D), (2, .int z)] [] (T, N, I, L, R) 0 0
  refine k_iload_n C rfl rfl rfl ?_
  refine c_SI C (e_isDisc_no  h) rfl rfl rfl rfl rfl rfl rfl (Nat.le_of_ble_eq_true rfl) (Nat.le_of_ble_eq_true rfl) (Nat.le_of_ble_eq_true rfl) ?_
  rintro _ _ _ ⟨hI8, hL9, hx7⟩
  subst hx7
  have hI8 := hI8.symm; subst hI8; have hL9 := hL9.symm; subst hL9
  refine k_if_ne C (t := 15) rfl rfl rfl (fun c4 => absurd c4 (by decide)) (fun _ => ?_)
  exact k_throw C rfl rfl rfl rfl rfl rfl (Nat.le_of_ble_eq_true rfl) (Nat.le_of_ble_eq_true rfl) (Nat.le_of_ble_eq_true rfl) ⟨_, _, rfl, rfl, ⟨rfl, rfl⟩⟩

theorem e_classes_yes {d : Nat} {T N : Nat → Nat} {I : IT} {L : LT} {R : RT} {A : Nat → Prop} {x wh : Nat} {D z : Int32} (T_x : T x = 12) (R_x_10 : R x 10 = some wh) (T_wh : T wh = 11) (A_wh : A wh) (hD : isDc D) (hz : z = 0 ∨ z = 1) : Ex (d + 4) 171 [.ref x, .int D, .int z] (T, N, I, L, R) 0 0 (pI T N R (fun x9 I9 L9 => x9 = (sgP D z (-1)).1 ∧ Fr A I L I9 L9)) := by
  refine ⟨_, rfl, Nat.le_of_ble_eq_true rfl, fun V C S => ?_⟩
  show V 0 [(0, .ref x), (1, .int D), (2, .int z)] [] (T, N, I, L, R) 0 0
  refine k_iload_n C rfl rfl rfl ?_
  refine c_SI C (e_isDisc_yes  hD) rfl rfl rfl rfl rfl rfl rfl (Nat.le_of_ble_eq_true rfl) (Nat.le_of_ble_eq_true rfl) (Nat.le_of_ble_eq_true rfl) ?_
  rintro _ _ _ ⟨hI8, hL9, hx7⟩
  subst hx7
  have hI8 := hI8.symm; subst hI8; have hL9 := hL9.symm; subst hL9
  refine k_if_ne C (t := 15) rfl rfl rfl (fun _ => ?_) (fun c4 => absurd (by decide) c4)
  refine k_aload_n C rfl rfl rfl ?_
  refine g_R C rfl rfl rfl T_x rfl R_x_10 ?_
  refine k_iload_n C rfl rfl rfl ?_
  refine k_iload_n C rfl rfl rfl ?_
  refine k_iconst C (x := -1) rfl rfl rfl ?_
  refine c_VI C (e_seek T_wh A_wh hD hz) rfl rfl rfl rfl rfl ⟨_, rfl, rfl, T_wh, Nat.le_of_ble_eq_true rfl⟩ rfl rfl (Nat.le_of_ble_eq_true rfl) (Nat.le_of_ble_eq_true rfl) (Nat.le_of_ble_eq_true rfl) ?_
  rintro _ I1 L1 ⟨rfl, hI8, hF, hr⟩
  exact k_iret C rfl (Or.inl rfl) (Nat.le_of_ble_eq_true rfl) (Nat.le_of_ble_eq_true rfl) ⟨_, _, _, rfl, rfl, ⟨rfl, hF⟩⟩

noncomputable def raP (D k : Int32) (n : Int) : Int32 := @ite _ (k < (sgP D 0 k).1) (Classical.propDecidable _) (if n = 0 then (sgP D 0 k).2.1 else if n = 1 then (sgP D 0 k).2.2.1 else (sgP D 0 k).2.2.2) (-9999)
theorem in02 {n : Int32} : ((0 : Int32) ≤ n ∧ n ≤ 2) ↔ (0 ≤ n.toInt ∧ n.toInt ≤ 2) := by rw [i_le, i_le]; exact Iff.rfl
theorem e_reducedAt_no1 {d : Nat} {T N : Nat → Nat} {I : IT} {L : LT} {R : RT} {x : Nat} {D k n : Int32} (T_x : T x = 12) (h : ¬ isDc D) : Ex (d + 3) 172 [.ref x, .int D, .int k, .int n] (T, N, I, L, R) 1 6 (pX 0 T N R (fun I9 L9 => I9 = I ∧ L9 = L)) := by
  refine ⟨_, rfl, Nat.le_of_ble_eq_true rfl, fun V C S => ?_⟩
  show V 0 [(0, .ref x), (1, .int D), (2, .int k), (3, .int n)] [] (T, N, I, L, R) 0 0
  refine k_iload_n C rfl rfl rfl ?_
  refine c_SI C (e_isDisc_no  h) rfl rfl rfl rfl rfl rfl rfl (Nat.le_of_ble_eq_true rfl) (Nat.le_of_ble_eq_true rfl) (Nat.le_of_ble_eq_true rfl) ?_
  rintro _ _ _ ⟨hI8, hL9, hx7⟩
  subst hx7
  have hI8 := hI8.symm; subst hI8; have hL9 := hL9.symm; subst hL9
  refine k_if_eq C (t := 11) rfl rfl rfl (fun _ => ?_) (fun c4 => absurd (by decide) c4)
  exact k_throw C rfl rfl rfl rfl rfl rfl (Nat.le_of_ble_eq_true rfl) (Nat.le_of_ble_eq_true rfl) (Nat.le_of_ble_eq_true rfl) ⟨_, _, rfl, rfl, ⟨rfl, rfl⟩⟩

theorem e_reducedAt_no2 {d : Nat} {T N : Nat → Nat} {I : IT} {L : LT} {R : RT} {x : Nat} {D k n : Int32} (T_x : T x = 12) (hD : isDc D) (hk : k < 0) : Ex (d + 3) 172 [.ref x, .int D, .int k, .int n] (T, N, I, L, R) 1 6 (pX 0 T N R (fun I9 L9 => I9 = I ∧ L9 = L)) := by
  refine ⟨_, rfl, Nat.le_of_ble_eq_true rfl, fun V C S => ?_⟩
  show V 0 [(0, .ref x), (1, .int D), (2, .int k), (3, .int n)] [] (T, N, I, L, R) 0 0
  refine k_iload_n C rfl rfl rfl ?_
  refine c_SI C (e_isDisc_yes  hD) rfl rfl rfl rfl rfl rfl rfl (Nat.le_of_ble_eq_true rfl) (Nat.le_of_ble_eq_true rfl) (Nat.le_of_ble_eq_true rfl) ?_
  rintro _ _ _ ⟨hI8, hL9, hx7⟩
  subst hx7
  have hI8 := hI8.symm; subst hI8; have hL9 := hL9.symm; subst hL9
  refine k_if_eq C (t := 11) rfl rfl rfl (fun c4 => absurd c4 (by decide)) (fun _ => ?_)
  refine k_iload_n C rfl rfl rfl ?_
  refine k_if_ge C (t := 19) rfl rfl rfl (fun c8 => ?_) (fun c8 => ?_)
  · skip
    exact absurd hk (Int32.not_lt.mpr c8)
  exact k_throw C rfl rfl rfl rfl rfl rfl (Nat.le_of_ble_eq_true rfl) (Nat.le_of_ble_eq_true rfl) (Nat.le_of_ble_eq_true rfl) ⟨_, _, rfl, rfl, ⟨rfl, rfl⟩⟩

theorem e_reducedAt_nse {d : Nat} {T N : Nat → Nat} {I : IT} {L : LT} {R : RT} {x : Nat} {D k n : Int32} (T_x : T x = 12) (hD : isDc D) (hk : 0 ≤ k) (hn : ¬ (0 ≤ n.toInt ∧ n.toInt ≤ 2)) : Ex (d + 3) 172 [.ref x, .int D, .int k, .int n] (T, N, I, L, R) 1 6 (pX 4 T N R (fun I9 L9 => I9 = I ∧ L9 = L)) := by
  refine ⟨_, rfl, Nat.le_of_ble_eq_true rfl, fun V C S => ?_⟩
  show V 0 [(0, .ref x), (1, .int D), (2, .int k), (3, .int n)] [] (T, N, I, L, R) 0 0
  refine k_iload_n C rfl rfl rfl ?_
  refine c_SI C (e_isDisc_yes  hD) rfl rfl rfl rfl rfl rfl rfl (Nat.le_of_ble_eq_true rfl) (Nat.le_of_ble_eq_true rfl) (Nat.le_of_ble_eq_true rfl) ?_
  rintro _ _ _ ⟨hI8, hL9, hx7⟩
  subst hx7
  have hI8 := hI8.symm; subst hI8; have hL9 := hL9.symm; subst hL9
  refine k_if_eq C (t := 11) rfl rfl rfl (fun c4 => absurd c4 (by decide)) (fun _ => ?_)
  refine k_iload_n C rfl rfl rfl ?_
  refine k_if_ge C (t := 19) rfl rfl rfl (fun c8 => ?_) (fun c8 => ?_)
  · skip
    refine k_iload_n C rfl rfl rfl ?_
    refine k_if_lt C (t := 28) rfl rfl rfl (fun c20 => ?_) (fun c20 => ?_)
    · skip
      exact k_throw C rfl rfl rfl rfl rfl rfl (Nat.le_of_ble_eq_true rfl) (Nat.le_of_ble_eq_true rfl) (Nat.le_of_ble_eq_true rfl) ⟨_, _, rfl, rfl, ⟨rfl, rfl⟩⟩
    refine k_iload_n C rfl rfl rfl ?_
    refine k_iconst C (x := 2) rfl rfl rfl ?_
    refine k_icmp_le C (t := 36) rfl rfl rfl (fun c25 => ?_) (fun c25 => ?_)
    · skip
      exact absurd ⟨by have := i_le.mp (Int32.not_lt.mp c20); exact this, by have := i_le.mp c25; exact this⟩ hn
    exact k_throw C rfl rfl rfl rfl rfl rfl (Nat.le_of_ble_eq_true rfl) (Nat.le_of_ble_eq_true rfl) (Nat.le_of_ble_eq_true rfl) ⟨_, _, rfl, rfl, ⟨rfl, rfl⟩⟩
  exact absurd hk c8

theorem e_reducedAt_yes {d : Nat} {T N : Nat → Nat} {I : IT} {L : LT} {R : RT} {A : Nat → Prop} {x wh : Nat} {D k n : Int32} (T_x : T x = 12) (R_x_10 : R x 10 = some wh) (T_wh : T wh = 11) (A_wh : A wh) (hD : isDc D) (hk : 0 ≤ k) (hn : 0 ≤ n.toInt ∧ n.toInt ≤ 2) : Ex (d + 4) 172 [.ref x, .int D, .int k, .int n] (T, N, I, L, R) 0 0 (pI T N R (fun x9 I9 L9 => x9 = raP D k n.toInt ∧ Fr A I L I9 L9)) := by
  refine ⟨_, rfl, Nat.le_of_ble_eq_true rfl, fun V C S => ?_⟩
  show V 0 [(0, .ref x), (1, .int D), (2, .int k), (3, .int n)] [] (T, N, I, L, R) 0 0
  refine k_iload_n C rfl rfl rfl ?_
  refine c_SI C (e_isDisc_yes  hD) rfl rfl rfl rfl rfl rfl rfl (Nat.le_of_ble_eq_true rfl) (Nat.le_of_ble_eq_true rfl) (Nat.le_of_ble_eq_true rfl) ?_
  rintro _ _ _ ⟨hI8, hL9, hx7⟩
  subst hx7
  have hI8 := hI8.symm; subst hI8; have hL9 := hL9.symm; subst hL9
  refine k_if_eq C (t := 11) rfl rfl rfl (fun c4 => absurd c4 (by decide)) (fun _ => ?_)
  refine k_iload_n C rfl rfl rfl ?_
  refine k_if_ge C (t := 19) rfl rfl rfl (fun c8 => ?_) (fun c8 => ?_)
  · skip
    refine k_iload_n C rfl rfl rfl ?_
    refine k_if_lt C (t := 28) rfl rfl rfl (fun c20 => ?_) (fun c20 => ?_)
    · skip
      exact absurd (i_lt.mp c20) (by show ¬ _ < (0 : Int); omega)
    refine k_iload_n C rfl rfl rfl ?_
    refine k_iconst C (x := 2) rfl rfl rfl ?_
    refine k_icmp_le C (t := 36) rfl rfl rfl (fun c25 => ?_) (fun c25 => ?_)
    · skip
      refine k_aload_n C rfl rfl rfl ?_
      refine g_R C rfl rfl rfl T_x rfl R_x_10 ?_
      refine k_iload_n C rfl rfl rfl ?_
      refine k_iconst C (x := 0) rfl rfl rfl ?_
      refine k_iload_n C rfl rfl rfl ?_
      refine c_VI C (e_seek T_wh A_wh hD (Or.inl rfl)) rfl rfl rfl rfl rfl ⟨_, rfl, rfl, T_wh, Nat.le_of_ble_eq_true rfl⟩ rfl rfl (Nat.le_of_ble_eq_true rfl) (Nat.le_of_ble_eq_true rfl) (Nat.le_of_ble_eq_true rfl) ?_
      rintro _ I1 L1 ⟨rfl, hI8, hF, hr⟩
      refine k_istore C (lw := [(4, .int _), (0, _), (1, .int _), (2, .int _), (3, .int _)]) rfl rfl (Nat.le_of_ble_eq_true rfl) rfl ?_
      refine k_iload_n C rfl rfl rfl ?_
      refine k_iload C rfl rfl rfl ?_
      refine k_icmp_ge C (t := 66) rfl rfl rfl (fun c51 => ?_) (fun c51 => ?_)
      · skip
        have hv : raP D k n.toInt = -9999 := by unfold raP; rw [if_neg (Int32.not_lt.mpr c51)]
        refine k_sipush C (x := -9999) rfl rfl rfl ?_
        exact k_iret C rfl (Or.inl rfl) (Nat.le_of_ble_eq_true rfl) (Nat.le_of_ble_eq_true rfl) ⟨_, _, _, rfl, rfl, ⟨by first | exact hv | exact hv.symm, hF⟩⟩
      have c51 : k < (sgP D 0 k).1 := Int32.not_le.mp c51
      have hr := hr hk c51
      refine k_aload_n C rfl rfl rfl ?_
      refine g_R C rfl rfl rfl T_x rfl R_x_10 ?_
      refine k_iload_n C rfl rfl rfl ?_
      refine c_VL C (e_tell (s := L1 wh) T_wh rfl rfl rfl rfl rfl rfl rfl rfl (by omega)) rfl rfl rfl rfl rfl ⟨_, rfl, rfl, T_wh, Nat.le_of_ble_eq_true rfl⟩ rfl rfl (Nat.le_of_ble_eq_true rfl) (Nat.le_of_ble_eq_true rfl) (Nat.le_of_ble_eq_true rfl) ?_
      rintro _ _ _ ⟨hx7, hI8, hL9⟩
      have hx7 := hx7.symm; subst hx7
      have hI8 := hI8.symm; subst hI8; have hL9 := hL9.symm; subst hL9
      have hv : (tlS (L1 wh) n.toInt).toInt32 = raP D k n.toInt := by
        unfold raP tlS
        rw [if_pos c51, if_neg (by omega)]
        have h3 : n.toInt = 0 ∨ n.toInt = 1 ∨ n.toInt = 2 := by omega
        rcases h3 with e | e | e
        · rw [e, if_pos rfl]; show (L1 wh 0).toInt32 = _; rw [hr.1]; exact Int32.toInt32_toInt64 _
        · rw [e, if_neg (by decide), if_pos rfl]; show (L1 wh 1).toInt32 = _; rw [hr.2.1]; exact Int32.toInt32_toInt64 _
        · rw [e, if_neg (by decide), if_neg (by decide)]; show (L1 wh 2).toInt32 = _; rw [hr.2.2]; exact Int32.toInt32_toInt64 _
      refine k_l2i C rfl rfl ?_
      refine k_goto C (pc2 := 69) rfl rfl ?_
      exact k_iret C rfl (Or.inl rfl) (Nat.le_of_ble_eq_true rfl) (Nat.le_of_ble_eq_true rfl) ⟨_, _, _, rfl, rfl, ⟨by first | exact hv | exact hv.symm, hF⟩⟩
    exact absurd (i_le.mpr (show _ ≤ (2 : Int) from hn.2)) c25
  exact absurd hk c8

theorem e_m_noDisc_no {d : Nat} {T N : Nat → Nat} {I : IT} {L : LT} {R : RT} {x : Int32}  (h : isDc x) : Ex (d + 2) 305 [.int x] (T, N, I, L, R) 0 0 (pI T N R (fun x9 I9 L9 => x9 = (0) ∧ I9 = I ∧ L9 = L)) := by
  refine ⟨_, rfl, Nat.le_of_ble_eq_true rfl, fun V C S => ?_⟩
  show V 0 [(0, .int x)] [] (T, N, I, L, R) 0 0
  refine k_iload_n C rfl rfl rfl ?_
  refine k_sipush C (x := -9999) rfl rfl rfl ?_
  refine k_bipush C (x := -3) rfl rfl rfl ?_
  refine c_SI C e_in rfl rfl rfl rfl rfl rfl rfl (Nat.le_of_ble_eq_true rfl) (Nat.le_of_ble_eq_true rfl) (Nat.le_of_ble_eq_true rfl) ?_
  rintro _ _ _ ⟨hx7, hI8, hL9⟩
  have hx7 := hx7.symm; subst hx7
  have hI8 := hI8.symm; subst hI8; have hL9 := hL9.symm; subst hL9
  refine k_if_eq C (t := 21) rfl rfl rfl (fun c9 => ?_) (fun c9 => ?_)
  · skip
    exact absurd c9 (inN ⟨i_le.mpr (show (-9999 : Int) ≤ _ from h.1), i_le.mpr (show _ ≤ (-3 : Int) from h.2.1)⟩)
  refine k_iload_n C rfl rfl rfl ?_
  refine k_iconst C (x := 4) rfl rfl rfl ?_
  refine c_SI C (e_fmI  (by decide)) rfl rfl rfl rfl rfl rfl rfl (Nat.le_of_ble_eq_true rfl) (Nat.le_of_ble_eq_true rfl) (Nat.le_of_ble_eq_true rfl) ?_
  rintro x14 _ _ ⟨hI8, hL9, h14⟩
  have hI8 := hI8.symm; subst hI8; have hL9 := hL9.symm; subst hL9
  refine k_iconst C (x := 1) rfl rfl rfl ?_
  refine k_icmp_le C (t := 25) rfl rfl rfl (fun c18 => ?_) (fun c18 => ?_)
  · skip
    refine k_iconst C (x := 0) rfl rfl rfl ?_
    exact k_iret C rfl (Or.inr ⟨rfl, Or.inl rfl⟩) (Nat.le_of_ble_eq_true rfl) (Nat.le_of_ble_eq_true rfl) ⟨_, _, _, rfl, rfl, ⟨rfl, rfl, rfl⟩⟩
  exact absurd (i_le.mpr (by rw [h14]; exact h.2.2)) c18

theorem e_m_noDisc_yes {d : Nat} {T N : Nat → Nat} {I : IT} {L : LT} {R : RT} {x : Int32}  (h : ¬ isDc x) : Ex (d + 2) 305 [.int x] (T, N, I, L, R) 0 0 (pI T N R (fun x9 I9 L9 => x9 = (1) ∧ I9 = I ∧ L9 = L)) := by
  refine ⟨_, rfl, Nat.le_of_ble_eq_true rfl, fun V C S => ?_⟩
  show V 0 [(0, .int x)] [] (T, N, I, L, R) 0 0
  refine k_iload_n C rfl rfl rfl ?_
  refine k_sipush C (x := -9999) rfl rfl rfl ?_
  refine k_bipush C (x := -3) rfl rfl rfl ?_
  refine c_SI C e_in rfl rfl rfl rfl rfl rfl rfl (Nat.le_of_ble_eq_true rfl) (Nat.le_of_ble_eq_true rfl) (Nat.le_of_ble_eq_true rfl) ?_
  rintro _ _ _ ⟨hx7, hI8, hL9⟩
  have hx7 := hx7.symm; subst hx7
  have hI8 := hI8.symm; subst hI8; have hL9 := hL9.symm; subst hL9
  refine k_if_eq C (t := 21) rfl rfl rfl (fun c9 => ?_) (fun c9 => ?_)
  · skip
    refine k_iconst C (x := 1) rfl rfl rfl ?_
    refine k_goto C (pc2 := 26) rfl rfl ?_
    exact k_iret C rfl (Or.inr ⟨rfl, Or.inr rfl⟩) (Nat.le_of_ble_eq_true rfl) (Nat.le_of_ble_eq_true rfl) ⟨_, _, _, rfl, rfl, ⟨rfl, rfl, rfl⟩⟩
  refine k_iload_n C rfl rfl rfl ?_
  refine k_iconst C (x := 4) rfl rfl rfl ?_
  refine c_SI C (e_fmI  (by decide)) rfl rfl rfl rfl rfl rfl rfl (Nat.le_of_ble_eq_true rfl) (Nat.le_of_ble_eq_true rfl) (Nat.le_of_ble_eq_true rfl) ?_
  rintro x14 _ _ ⟨hI8, hL9, h14⟩
  have hI8 := hI8.symm; subst hI8; have hL9 := hL9.symm; subst hL9
  refine k_iconst C (x := 1) rfl rfl rfl ?_
  refine k_icmp_le C (t := 25) rfl rfl rfl (fun c18 => ?_) (fun c18 => ?_)
  · skip
    exact absurd ⟨i_le.mp (inY c9).1, i_le.mp (inY c9).2, by have := i_le.mp c18; rw [h14] at this; exact this⟩ h
  refine k_iconst C (x := 1) rfl rfl rfl ?_
  refine k_goto C (pc2 := 26) rfl rfl ?_
  exact k_iret C rfl (Or.inr ⟨rfl, Or.inr rfl⟩) (Nat.le_of_ble_eq_true rfl) (Nat.le_of_ble_eq_true rfl) ⟨_, _, _, rfl, rfl, ⟨rfl, rfl, rfl⟩⟩

theorem e_m_classes_no {d : Nat} {T N : Nat → Nat} {I : IT} {L : LT} {R : RT} {A : Nat → Prop} {m : Nat} {D z : Int32} (T_m : T m = 13) (A_m : A m) (h : ¬ isDc D) : Ex (d + 3) 307 [.ref m, .int D, .int z] (T, N, I, L, R) 0 0 (pI T N R (fun x9 I9 L9 => Fr A I L I9 L9 ∧ I9 m 0 = 1 ∧ IKm m I I9)) := by
  refine ⟨_, rfl, Nat.le_of_ble_eq_true rfl, fun V C S => ?_⟩
  show V 0 [(0, .ref m), (1, .int D), (2, .int z)] [] (T, N, I, L, R) 0 0
  refine k_aload_n C rfl rfl rfl ?_
  refine k_iconst C (x := 0) rfl rfl rfl ?_
  refine p_I C rfl rfl rfl T_m (Or.inr rfl) rfl ?_
  refine k_aload_n C rfl rfl rfl ?_
  refine k_iload_n C rfl rfl rfl ?_
  refine c_SI C (e_m_noDisc_yes  h) rfl rfl rfl rfl rfl rfl rfl (Nat.le_of_ble_eq_true rfl) (Nat.le_of_ble_eq_true rfl) (Nat.le_of_ble_eq_true rfl) ?_
  rintro _ _ _ ⟨hx7, hI8, hL9⟩
  have hx7 := hx7.symm; subst hx7
  have hI8 := hI8.symm; subst hI8; have hL9 := hL9.symm; subst hL9
  refine k_iconst C (x := 1) rfl rfl rfl ?_
  refine c_VI C (e_throwsIf1 T_m rfl) rfl rfl rfl rfl rfl ⟨_, rfl, rfl, T_m, Nat.le_of_ble_eq_true rfl⟩ rfl rfl (Nat.le_of_ble_eq_true rfl) (Nat.le_of_ble_eq_true rfl) (Nat.le_of_ble_eq_true rfl) ?_
  rintro _ _ _ ⟨hx7, hI8, hL9⟩
  have hx7 := hx7.symm; subst hx7
  have hI8 := hI8.symm; subst hI8; have hL9 := hL9.symm; subst hL9
  refine k_if_eq C (t := 21) rfl rfl rfl (fun c14 => absurd c14 (by decide)) (fun _ => ?_)
  refine k_iconst C (x := 0) rfl rfl rfl ?_
  refine k_goto C (pc2 := 28) rfl rfl ?_
  exact k_iret C rfl (Or.inl rfl) (Nat.le_of_ble_eq_true rfl) (Nat.le_of_ble_eq_true rfl) ⟨_, _, _, rfl, rfl, ⟨(Fr.i (Fr.i Fr.rf A_m) A_m), u2_s, (by first | exact IKm.i IKm.rf | exact IKm.i (IKm.i IKm.rf))⟩⟩

theorem e_m_classes_yes {d : Nat} {T N : Nat → Nat} {I : IT} {L : LT} {R : RT} {A : Nat → Prop} {m : Nat} {D z : Int32} (T_m : T m = 13) (A_m : A m) (hD : isDc D) (hz : z = 0 ∨ z = 1) : Ex (d + 4) 307 [.ref m, .int D, .int z] (T, N, I, L, R) 0 0 (pI T N R (fun x9 I9 L9 => x9 = (sgP D z (-1)).1 ∧ Fr A I L I9 L9 ∧ I9 m 0 = 0 ∧ IKm m I I9)) := by
  refine ⟨_, rfl, Nat.le_of_ble_eq_true rfl, fun V C S => ?_⟩
  show V 0 [(0, .ref m), (1, .int D), (2, .int z)] [] (T, N, I, L, R) 0 0
  refine k_aload_n C rfl rfl rfl ?_
  refine k_iconst C (x := 0) rfl rfl rfl ?_
  refine p_I C rfl rfl rfl T_m (Or.inr rfl) rfl ?_
  refine k_aload_n C rfl rfl rfl ?_
  refine k_iload_n C rfl rfl rfl ?_
  refine c_SI C (e_m_noDisc_no  hD) rfl rfl rfl rfl rfl rfl rfl (Nat.le_of_ble_eq_true rfl) (Nat.le_of_ble_eq_true rfl) (Nat.le_of_ble_eq_true rfl) ?_
  rintro _ _ _ ⟨hx7, hI8, hL9⟩
  have hx7 := hx7.symm; subst hx7
  have hI8 := hI8.symm; subst hI8; have hL9 := hL9.symm; subst hL9
  refine k_iconst C (x := 1) rfl rfl rfl ?_
  refine c_VI C (e_throwsIf0 T_m rfl) rfl rfl rfl rfl rfl ⟨_, rfl, rfl, T_m, Nat.le_of_ble_eq_true rfl⟩ rfl rfl (Nat.le_of_ble_eq_true rfl) (Nat.le_of_ble_eq_true rfl) (Nat.le_of_ble_eq_true rfl) ?_
  rintro _ _ _ ⟨hx7, hI8, hL9⟩
  have hx7 := hx7.symm; subst hx7
  have hI8 := hI8.symm; subst hI8; have hL9 := hL9.symm; subst hL9
  refine k_if_eq C (t := 21) rfl rfl rfl (fun _ => ?_) (fun c14 => absurd (by decide) c14)
  refine k_aload_n C rfl rfl rfl ?_
  refine k_iload_n C rfl rfl rfl ?_
  refine k_iload_n C rfl rfl rfl ?_
  refine k_iconst C (x := -1) rfl rfl rfl ?_
  refine c_VI C (e_m_reducedMany T_m A_m hD hz) rfl rfl rfl rfl rfl ⟨_, rfl, rfl, T_m, Nat.le_of_ble_eq_true rfl⟩ rfl rfl (Nat.le_of_ble_eq_true rfl) (Nat.le_of_ble_eq_true rfl) (Nat.le_of_ble_eq_true rfl) ?_
  rintro _ I1 L1 ⟨rfl, hI8, hF, hr⟩
  exact k_iret C rfl (Or.inl rfl) (Nat.le_of_ble_eq_true rfl) (Nat.le_of_ble_eq_true rfl) ⟨_, _, _, rfl, rfl, ⟨rfl, Fr.tr (Fr.i Fr.rf A_m) hF, (hr.2 0 (by decide)).trans u2_s, IKm.s hr.2⟩⟩

theorem e_m_reducedAt_no1 {d : Nat} {T N : Nat → Nat} {I : IT} {L : LT} {R : RT} {A : Nat → Prop} {m : Nat} {D k n : Int32} (T_m : T m = 13) (A_m : A m) (h : ¬ isDc D) : Ex (d + 3) 308 [.ref m, .int D, .int k, .int n] (T, N, I, L, R) 0 0 (pI T N R (fun x9 I9 L9 => Fr A I L I9 L9 ∧ I9 m 0 = 1 ∧ IKm m I I9)) := by
  refine ⟨_, rfl, Nat.le_of_ble_eq_true rfl, fun V C S => ?_⟩
  show V 0 [(0, .ref m), (1, .int D), (2, .int k), (3, .int n)] [] (T, N, I, L, R) 0 0
  refine k_aload_n C rfl rfl rfl ?_
  refine k_iconst C (x := 0) rfl rfl rfl ?_
  refine p_I C rfl rfl rfl T_m (Or.inr rfl) rfl ?_
  refine k_aload_n C rfl rfl rfl ?_
  refine k_iload_n C rfl rfl rfl ?_
  refine c_SI C (e_m_noDisc_yes  h) rfl rfl rfl rfl rfl rfl rfl (Nat.le_of_ble_eq_true rfl) (Nat.le_of_ble_eq_true rfl) (Nat.le_of_ble_eq_true rfl) ?_
  rintro _ _ _ ⟨hx7, hI8, hL9⟩
  have hx7 := hx7.symm; subst hx7
  have hI8 := hI8.symm; subst hI8; have hL9 := hL9.symm; subst hL9
  refine k_if_ne C (t := 17) rfl rfl rfl (fun _ => ?_) (fun c10 => absurd (by decide) c10)
  refine k_iconst C (x := 1) rfl rfl rfl ?_
  refine k_goto C (pc2 := 22) rfl rfl ?_
  refine k_iconst C (x := 1) rfl rfl rfl ?_
  refine c_VI C (e_throwsIf1 T_m rfl) rfl rfl rfl rfl rfl ⟨_, rfl, rfl, T_m, Nat.le_of_ble_eq_true rfl⟩ rfl rfl (Nat.le_of_ble_eq_true rfl) (Nat.le_of_ble_eq_true rfl) (Nat.le_of_ble_eq_true rfl) ?_
  rintro _ _ _ ⟨hx7, hI8, hL9⟩
  have hx7 := hx7.symm; subst hx7
  have hI8 := hI8.symm; subst hI8; have hL9 := hL9.symm; subst hL9
  refine k_if_ne C (t := 51) rfl rfl rfl (fun _ => ?_) (fun c26 => absurd (by decide) c26)
  refine k_iconst C (x := 0) rfl rfl rfl ?_
  exact k_iret C rfl (Or.inl rfl) (Nat.le_of_ble_eq_true rfl) (Nat.le_of_ble_eq_true rfl) ⟨_, _, _, rfl, rfl, ⟨(Fr.i (Fr.i Fr.rf A_m) A_m), u2_s, (by first | exact IKm.i IKm.rf | exact IKm.i (IKm.i IKm.rf))⟩⟩

theorem e_m_reducedAt_no2 {d : Nat} {T N : Nat → Nat} {I : IT} {L : LT} {R : RT} {A : Nat → Prop} {m : Nat} {D k n : Int32} (T_m : T m = 13) (A_m : A m) (hD : isDc D) (hk : k < 0) : Ex (d + 3) 308 [.ref m, .int D, .int k, .int n] (T, N, I, L, R) 0 0 (pI T N R (fun x9 I9 L9 => Fr A I L I9 L9 ∧ I9 m 0 = 1 ∧ IKm m I I9)) := by
  refine ⟨_, rfl, Nat.le_of_ble_eq_true rfl, fun V C S => ?_⟩
  show V 0 [(0, .ref m), (1, .int D), (2, .int k), (3, .int n)] [] (T, N, I, L, R) 0 0
  refine k_aload_n C rfl rfl rfl ?_
  refine k_iconst C (x := 0) rfl rfl rfl ?_
  refine p_I C rfl rfl rfl T_m (Or.inr rfl) rfl ?_
  refine k_aload_n C rfl rfl rfl ?_
  refine k_iload_n C rfl rfl rfl ?_
  refine c_SI C (e_m_noDisc_no  hD) rfl rfl rfl rfl rfl rfl rfl (Nat.le_of_ble_eq_true rfl) (Nat.le_of_ble_eq_true rfl) (Nat.le_of_ble_eq_true rfl) ?_
  rintro _ _ _ ⟨hx7, hI8, hL9⟩
  have hx7 := hx7.symm; subst hx7
  have hI8 := hI8.symm; subst hI8; have hL9 := hL9.symm; subst hL9
  refine k_if_ne C (t := 17) rfl rfl rfl (fun c10 => absurd c10 (by decide)) (fun _ => ?_)
  refine k_iload_n C rfl rfl rfl ?_
  refine k_if_ge C (t := 21) rfl rfl rfl (fun c14 => ?_) (fun c14 => ?_)
  · skip
    exact absurd hk (Int32.not_lt.mpr c14)
  refine k_iconst C (x := 1) rfl rfl rfl ?_
  refine k_goto C (pc2 := 22) rfl rfl ?_
  refine k_iconst C (x := 1) rfl rfl rfl ?_
  refine c_VI C (e_throwsIf1 T_m rfl) rfl rfl rfl rfl rfl ⟨_, rfl, rfl, T_m, Nat.le_of_ble_eq_true rfl⟩ rfl rfl (Nat.le_of_ble_eq_true rfl) (Nat.le_of_ble_eq_true rfl) (Nat.le_of_ble_eq_true rfl) ?_
  rintro _ _ _ ⟨hx7, hI8, hL9⟩
  have hx7 := hx7.symm; subst hx7
  have hI8 := hI8.symm; subst hI8; have hL9 := hL9.symm; subst hL9
  refine k_if_ne C (t := 51) rfl rfl rfl (fun _ => ?_) (fun c26 => absurd (by decide) c26)
  refine k_iconst C (x := 0) rfl rfl rfl ?_
  exact k_iret C rfl (Or.inl rfl) (Nat.le_of_ble_eq_true rfl) (Nat.le_of_ble_eq_true rfl) ⟨_, _, _, rfl, rfl, ⟨(Fr.i (Fr.i Fr.rf A_m) A_m), u2_s, (by first | exact IKm.i IKm.rf | exact IKm.i (IKm.i IKm.rf))⟩⟩

theorem e_m_reducedAt_nse {d : Nat} {T N : Nat → Nat} {I : IT} {L : LT} {R : RT} {A : Nat → Prop} {m : Nat} {D k n : Int32} (T_m : T m = 13) (A_m : A m) (hD : isDc D) (hk : 0 ≤ k) (hn : ¬ (0 ≤ n.toInt ∧ n.toInt ≤ 2)) : Ex (d + 3) 308 [.ref m, .int D, .int k, .int n] (T, N, I, L, R) 0 0 (pI T N R (fun x9 I9 L9 => Fr A I L I9 L9 ∧ I9 m 0 = 2 ∧ IKm m I I9)) := by
  refine ⟨_, rfl, Nat.le_of_ble_eq_true rfl, fun V C S => ?_⟩
  show V 0 [(0, .ref m), (1, .int D), (2, .int k), (3, .int n)] [] (T, N, I, L, R) 0 0
  refine k_aload_n C rfl rfl rfl ?_
  refine k_iconst C (x := 0) rfl rfl rfl ?_
  refine p_I C rfl rfl rfl T_m (Or.inr rfl) rfl ?_
  refine k_aload_n C rfl rfl rfl ?_
  refine k_iload_n C rfl rfl rfl ?_
  refine c_SI C (e_m_noDisc_no  hD) rfl rfl rfl rfl rfl rfl rfl (Nat.le_of_ble_eq_true rfl) (Nat.le_of_ble_eq_true rfl) (Nat.le_of_ble_eq_true rfl) ?_
  rintro _ _ _ ⟨hx7, hI8, hL9⟩
  have hx7 := hx7.symm; subst hx7
  have hI8 := hI8.symm; subst hI8; have hL9 := hL9.symm; subst hL9
  refine k_if_ne C (t := 17) rfl rfl rfl (fun c10 => absurd c10 (by decide)) (fun _ => ?_)
  refine k_iload_n C rfl rfl rfl ?_
  refine k_if_ge C (t := 21) rfl rfl rfl (fun c14 => ?_) (fun c14 => ?_)
  · skip
    refine k_iconst C (x := 0) rfl rfl rfl ?_
    refine k_iconst C (x := 1) rfl rfl rfl ?_
    refine c_VI C (e_throwsIf0 T_m rfl) rfl rfl rfl rfl rfl ⟨_, rfl, rfl, T_m, Nat.le_of_ble_eq_true rfl⟩ rfl rfl (Nat.le_of_ble_eq_true rfl) (Nat.le_of_ble_eq_true rfl) (Nat.le_of_ble_eq_true rfl) ?_
    rintro _ _ _ ⟨hx7, hI8, hL9⟩
    have hx7 := hx7.symm; subst hx7
    have hI8 := hI8.symm; subst hI8; have hL9 := hL9.symm; subst hL9
    refine k_if_ne C (t := 51) rfl rfl rfl (fun c26 => absurd c26 (by decide)) (fun _ => ?_)
    refine k_aload_n C rfl rfl rfl ?_
    refine k_iload_n C rfl rfl rfl ?_
    refine k_iconst C (x := 0) rfl rfl rfl ?_
    refine k_iconst C (x := 2) rfl rfl rfl ?_
    refine c_SI C e_in rfl rfl rfl rfl rfl rfl rfl (Nat.le_of_ble_eq_true rfl) (Nat.le_of_ble_eq_true rfl) (Nat.le_of_ble_eq_true rfl) ?_
    rintro _ _ _ ⟨hx7, hI8, hL9⟩
    have hx7 := hx7.symm; subst hx7
    have hI8 := hI8.symm; subst hI8; have hL9 := hL9.symm; subst hL9
    refine k_if_ne C (t := 43) rfl rfl rfl (fun c36 => ?_) (fun c36 => ?_)
    · skip
      exact absurd (in02.mp (inY c36)) hn
    refine k_iconst C (x := 1) rfl rfl rfl ?_
    refine k_goto C (pc2 := 44) rfl rfl ?_
    refine k_iconst C (x := 2) rfl rfl rfl ?_
    refine c_VI C (e_throwsIf1 T_m rfl) rfl rfl rfl rfl rfl ⟨_, rfl, rfl, T_m, Nat.le_of_ble_eq_true rfl⟩ rfl rfl (Nat.le_of_ble_eq_true rfl) (Nat.le_of_ble_eq_true rfl) (Nat.le_of_ble_eq_true rfl) ?_
    rintro _ _ _ ⟨hx7, hI8, hL9⟩
    have hx7 := hx7.symm; subst hx7
    have hI8 := hI8.symm; subst hI8; have hL9 := hL9.symm; subst hL9
    refine k_if_eq C (t := 53) rfl rfl rfl (fun c48 => absurd c48 (by decide)) (fun _ => ?_)
    refine k_iconst C (x := 0) rfl rfl rfl ?_
    exact k_iret C rfl (Or.inl rfl) (Nat.le_of_ble_eq_true rfl) (Nat.le_of_ble_eq_true rfl) ⟨_, _, _, rfl, rfl, ⟨(Fr.i (Fr.i Fr.rf A_m) A_m), u2_s, (by first | exact IKm.i IKm.rf | exact IKm.i (IKm.i IKm.rf))⟩⟩
  exact absurd hk c14

theorem e_m_reducedAt_yes {d : Nat} {T N : Nat → Nat} {I : IT} {L : LT} {R : RT} {A : Nat → Prop} {m : Nat} {D k n : Int32} (T_m : T m = 13) (A_m : A m) (hD : isDc D) (hk : 0 ≤ k) (hn : 0 ≤ n.toInt ∧ n.toInt ≤ 2) : Ex (d + 4) 308 [.ref m, .int D, .int k, .int n] (T, N, I, L, R) 0 0 (pI T N R (fun x9 I9 L9 => x9 = raP D k n.toInt ∧ Fr A I L I9 L9 ∧ I9 m 0 = 0 ∧ IKm m I I9)) := by
  refine ⟨_, rfl, Nat.le_of_ble_eq_true rfl, fun V C S => ?_⟩
  show V 0 [(0, .ref m), (1, .int D), (2, .int k), (3, .int n)] [] (T, N, I, L, R) 0 0
  refine k_aload_n C rfl rfl rfl ?_
  refine k_iconst C (x := 0) rfl rfl rfl ?_
  refine p_I C rfl rfl rfl T_m (Or.inr rfl) rfl ?_
  refine k_aload_n C rfl rfl rfl ?_
  refine k_iload_n C rfl rfl rfl ?_
  refine c_SI C (e_m_noDisc_no  hD) rfl rfl rfl rfl rfl rfl rfl (Nat.le_of_ble_eq_true rfl) (Nat.le_of_ble_eq_true rfl) (Nat.le_of_ble_eq_true rfl) ?_
  rintro _ _ _ ⟨hx7, hI8, hL9⟩
  have hx7 := hx7.symm; subst hx7
  have hI8 := hI8.symm; subst hI8; have hL9 := hL9.symm; subst hL9
  refine k_if_ne C (t := 17) rfl rfl rfl (fun c10 => absurd c10 (by decide)) (fun _ => ?_)
  refine k_iload_n C rfl rfl rfl ?_
  refine k_if_ge C (t := 21) rfl rfl rfl (fun c14 => ?_) (fun c14 => ?_)
  · skip
    refine k_iconst C (x := 0) rfl rfl rfl ?_
    refine k_iconst C (x := 1) rfl rfl rfl ?_
    refine c_VI C (e_throwsIf0 T_m rfl) rfl rfl rfl rfl rfl ⟨_, rfl, rfl, T_m, Nat.le_of_ble_eq_true rfl⟩ rfl rfl (Nat.le_of_ble_eq_true rfl) (Nat.le_of_ble_eq_true rfl) (Nat.le_of_ble_eq_true rfl) ?_
    rintro _ _ _ ⟨hx7, hI8, hL9⟩
    have hx7 := hx7.symm; subst hx7
    have hI8 := hI8.symm; subst hI8; have hL9 := hL9.symm; subst hL9
    refine k_if_ne C (t := 51) rfl rfl rfl (fun c26 => absurd c26 (by decide)) (fun _ => ?_)
    refine k_aload_n C rfl rfl rfl ?_
    refine k_iload_n C rfl rfl rfl ?_
    refine k_iconst C (x := 0) rfl rfl rfl ?_
    refine k_iconst C (x := 2) rfl rfl rfl ?_
    refine c_SI C e_in rfl rfl rfl rfl rfl rfl rfl (Nat.le_of_ble_eq_true rfl) (Nat.le_of_ble_eq_true rfl) (Nat.le_of_ble_eq_true rfl) ?_
    rintro _ _ _ ⟨hx7, hI8, hL9⟩
    have hx7 := hx7.symm; subst hx7
    have hI8 := hI8.symm; subst hI8; have hL9 := hL9.symm; subst hL9
    refine k_if_ne C (t := 43) rfl rfl rfl (fun c36 => ?_) (fun c36 => ?_)
    · skip
      refine k_iconst C (x := 0) rfl rfl rfl ?_
      refine k_iconst C (x := 2) rfl rfl rfl ?_
      refine c_VI C (e_throwsIf0 T_m rfl) rfl rfl rfl rfl rfl ⟨_, rfl, rfl, T_m, Nat.le_of_ble_eq_true rfl⟩ rfl rfl (Nat.le_of_ble_eq_true rfl) (Nat.le_of_ble_eq_true rfl) (Nat.le_of_ble_eq_true rfl) ?_
      rintro _ _ _ ⟨hx7, hI8, hL9⟩
      have hx7 := hx7.symm; subst hx7
      have hI8 := hI8.symm; subst hI8; have hL9 := hL9.symm; subst hL9
      refine k_if_eq C (t := 53) rfl rfl rfl (fun _ => ?_) (fun c48 => absurd (by decide) c48)
      refine k_iload_n C rfl rfl rfl ?_
      refine k_aload_n C rfl rfl rfl ?_
      refine k_iload_n C rfl rfl rfl ?_
      refine k_iconst C (x := 0) rfl rfl rfl ?_
      refine k_iload_n C rfl rfl rfl ?_
      refine c_VI C (e_m_reducedMany T_m A_m hD (Or.inl rfl)) rfl rfl rfl rfl rfl ⟨_, rfl, rfl, T_m, Nat.le_of_ble_eq_true rfl⟩ rfl rfl (Nat.le_of_ble_eq_true rfl) (Nat.le_of_ble_eq_true rfl) (Nat.le_of_ble_eq_true rfl) ?_
      rintro _ I1 L1 ⟨rfl, hI8, hF, hr⟩
      refine k_icmp_lt C (t := 70) rfl rfl rfl (fun c61 => ?_) (fun c61 => ?_)
      · skip
        refine k_iload_n C rfl rfl rfl ?_
        refine k_if_ne C (t := 81) rfl rfl rfl (fun c71 => ?_) (fun c71 => ?_)
        · skip
          have hn0 : n.toInt ≠ 0 := fun e => c71 (Int32.toInt_inj.mp e)
          refine k_iload_n C rfl rfl rfl ?_
          refine k_iconst C (x := 1) rfl rfl rfl ?_
          refine k_icmp_ne C (t := 93) rfl rfl rfl (fun c83 => ?_) (fun c83 => ?_)
          · skip
            have hn1 : n.toInt ≠ 1 := fun e => c83 (Int32.toInt_inj.mp e)
            have hv : I1 m 37 = raP D k n.toInt := by
              unfold raP; rw [if_pos c61, if_neg hn0, if_neg hn1]; exact (hr.1 hk c61).2.2
            refine k_aload_n C rfl rfl rfl ?_
            refine g_I C rfl rfl rfl T_m rfl (rfl) ?_
            exact k_iret C rfl (Or.inl rfl) (Nat.le_of_ble_eq_true rfl) (Nat.le_of_ble_eq_true rfl) ⟨_, _, _, rfl, rfl, ⟨by first | exact hv | exact hv.symm, Fr.tr (Fr.i Fr.rf A_m) hF, (hr.2 0 (by decide)).trans u2_s, IKm.s hr.2⟩⟩
          have hv : I1 m 36 = raP D k n.toInt := by
            have e : n.toInt = 1 := by rw [Decidable.not_not.mp c83]; rfl
            unfold raP; rw [if_pos c61, if_neg hn0, if_pos e]; exact (hr.1 hk c61).2.1
          refine k_aload_n C rfl rfl rfl ?_
          refine g_I C rfl rfl rfl T_m rfl (rfl) ?_
          refine k_goto C (pc2 := 97) rfl rfl ?_
          exact k_iret C rfl (Or.inl rfl) (Nat.le_of_ble_eq_true rfl) (Nat.le_of_ble_eq_true rfl) ⟨_, _, _, rfl, rfl, ⟨by first | exact hv | exact hv.symm, Fr.tr (Fr.i Fr.rf A_m) hF, (hr.2 0 (by decide)).trans u2_s, IKm.s hr.2⟩⟩
        have hv : I1 m 35 = raP D k n.toInt := by
          have e : n.toInt = 0 := by rw [Decidable.not_not.mp c71]; rfl
          unfold raP; rw [if_pos c61, if_pos e]; exact (hr.1 hk c61).1
        refine k_aload_n C rfl rfl rfl ?_
        refine g_I C rfl rfl rfl T_m rfl (rfl) ?_
        refine k_goto C (pc2 := 97) rfl rfl ?_
        exact k_iret C rfl (Or.inl rfl) (Nat.le_of_ble_eq_true rfl) (Nat.le_of_ble_eq_true rfl) ⟨_, _, _, rfl, rfl, ⟨by first | exact hv | exact hv.symm, Fr.tr (Fr.i Fr.rf A_m) hF, (hr.2 0 (by decide)).trans u2_s, IKm.s hr.2⟩⟩
      have hv : raP D k n.toInt = -9999 := by unfold raP; rw [if_neg c61]
      refine k_sipush C (x := -9999) rfl rfl rfl ?_
      refine k_goto C (pc2 := 97) rfl rfl ?_
      exact k_iret C rfl (Or.inl rfl) (Nat.le_of_ble_eq_true rfl) (Nat.le_of_ble_eq_true rfl) ⟨_, _, _, rfl, rfl, ⟨by first | exact hv | exact hv.symm, Fr.tr (Fr.i Fr.rf A_m) hF, (hr.2 0 (by decide)).trans u2_s, IKm.s hr.2⟩⟩
    exact absurd (inN (in02.mpr hn)) c36
  exact absurd hk c14
end
