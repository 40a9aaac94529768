/-! COUNT, the calls -/
/-! fields of the reference that stay -/
def IKm (m : Nat) (I I' : IT) : Prop := ∀ k, k ≠ 0 → k < 35 → I' m k = I m k
theorem IKm.rf {m : Nat} {I : IT} : IKm m I I := fun _ _ _ => rfl
theorem IKm.i {m : Nat} {I I1 : IT} {x : Int32} (h : IKm m I I1) : IKm m I (u2 I1 m 0 x) := fun k h0 hk => (u2_k h0).trans (h k h0 hk)
def IK3 (m : Nat) (I I' : IT) : Prop := ∀ k, k < 35 → I' m k = I m k
theorem IK3.h {m : Nat} {I I1 : IT} {a b c : Int32} (h : IK3 m I I1) : IK3 m I (u2 (u2 (u2 I1 m 35 a) m 36 b) m 37 c) := fun k hk => by rw [u2_k (by omega), u2_k (by omega), u2_k (by omega)]; exact h k hk
theorem IKm.s {m : Nat} {I I1 : IT} {x : Int32} (h : IK3 m (u2 I m 0 x) I1) : IKm m I I1 := fun k h0 hk => (h k hk).trans (u2_k h0)
def okCnt (r e m : Int32) : Prop := (0 ≤ r ∧ r ≤ 12) ∧ (1 ≤ e ∧ e ≤ 8) ∧ (0 ≤ m ∧ m ≤ 96)
theorem n_sub_lt {a b : Nat} (h : a < b) (hb : b < 1000000) : Int32.ofNat a - Int32.ofNat b < 0 := by
  have e0 : (0 : Int32).toInt = 0 := rfl
  rw [i_lt, ii_sub (by rw [n_int (by omega), n_int (by omega)]; omega), n_int (by omega), n_int (by omega), e0]; omega
theorem inY {p : Prop} {D : Decidable p} (c : ¬ (if p then (1 : Int32) else 0) = 0) : p := Decidable.byContradiction (fun h => c (if_neg h))
theorem inN {p : Prop} {D : Decidable p} (h : p) : ¬ (if p then (1 : Int32) else 0) = 0 := by rw [if_pos h]; decide
theorem e_count_no {d : Nat} {T N : Nat → Nat} {I : IT} {L : LT} {R : RT} {x : Nat} {rI eI mI : Int32} (T_x : T x = 12) (h : ¬ okCnt rI eI mI) : Ex (d + 1) 151 [.ref x, .int rI, .int eI, .int mI] (T, N, I, L, R) 1 6 (pX 0 T N R (fun I9 L9 => I9 = I ∧ L9 = L)) := by
  refine ⟨_, rfl, Nat.le_of_ble_eq_true rfl, fun V C S => ?_⟩
  show V 0 [(0, .ref x), (1, .int rI), (2, .int eI), (3, .int mI)] [] (T, N, I, L, R) 0 0
  refine k_iload_n C rfl rfl rfl ?_
  refine k_if_lt C (t := 31) rfl rfl rfl (fun c1 => ?_) (fun c1 => ?_)
  · skip
    exact k_throw C rfl rfl rfl rfl rfl rfl (Nat.le_of_ble_eq_true rfl) (Nat.le_of_ble_eq_true rfl) (Nat.le_of_ble_eq_true rfl) ⟨_, _, rfl, rfl, ⟨rfl, rfl⟩⟩
  refine k_iload_n C rfl rfl rfl ?_
  refine k_bipush C (x := 12) rfl rfl rfl ?_
  refine k_icmp_gt C (t := 31) rfl rfl rfl (fun c7 => ?_) (fun c7 => ?_)
  · skip
    exact k_throw C rfl rfl rfl rfl rfl rfl (Nat.le_of_ble_eq_true rfl) (Nat.le_of_ble_eq_true rfl) (Nat.le_of_ble_eq_true rfl) ⟨_, _, rfl, rfl, ⟨rfl, rfl⟩⟩
  refine k_iload_n C rfl rfl rfl ?_
  refine k_iconst C (x := 1) rfl rfl rfl ?_
  refine k_icmp_lt C (t := 31) rfl rfl rfl (fun c12 => ?_) (fun c12 => ?_)
  · skip
    exact k_throw C rfl rfl rfl rfl rfl rfl (Nat.le_of_ble_eq_true rfl) (Nat.le_of_ble_eq_true rfl) (Nat.le_of_ble_eq_true rfl) ⟨_, _, rfl, rfl, ⟨rfl, rfl⟩⟩
  refine k_iload_n C rfl rfl rfl ?_
  refine k_bipush C (x := 8) rfl rfl rfl ?_
  refine k_icmp_gt C (t := 31) rfl rfl rfl (fun c18 => ?_) (fun c18 => ?_)
  · skip
    exact k_throw C rfl rfl rfl rfl rfl rfl (Nat.le_of_ble_eq_true rfl) (Nat.le_of_ble_eq_true rfl) (Nat.le_of_ble_eq_true rfl) ⟨_, _, rfl, rfl, ⟨rfl, rfl⟩⟩
  refine k_iload_n C rfl rfl rfl ?_
  refine k_if_lt C (t := 31) rfl rfl rfl (fun c22 => ?_) (fun c22 => ?_)
  · skip
    exact k_throw C rfl rfl rfl rfl rfl rfl (Nat.le_of_ble_eq_true rfl) (Nat.le_of_ble_eq_true rfl) (Nat.le_of_ble_eq_true rfl) ⟨_, _, rfl, rfl, ⟨rfl, rfl⟩⟩
  refine k_iload_n C rfl rfl rfl ?_
  refine k_bipush C (x := 96) rfl rfl rfl ?_
  refine k_icmp_le C (t := 39) rfl rfl rfl (fun c28 => ?_) (fun c28 => ?_)
  · skip
    exact absurd ⟨⟨Int32.not_lt.mp c1, Int32.not_lt.mp c7⟩, ⟨Int32.not_lt.mp c12, Int32.not_lt.mp c18⟩, Int32.not_lt.mp c22, c28⟩ h
  exact k_throw C rfl rfl rfl rfl rfl rfl (Nat.le_of_ble_eq_true rfl) (Nat.le_of_ble_eq_true rfl) (Nat.le_of_ble_eq_true rfl) ⟨_, _, rfl, rfl, ⟨rfl, rfl⟩⟩

theorem e_count_a {d : Nat} {T N : Nat → Nat} {I : IT} {L : LT} {R : RT} {A : Nat → Prop} {x rw wy : Nat} {rI eI mI : Int32} (T_x : T x = 12) (R_x_7 : R x 7 = some rw) (T_rw : T rw = 6) (R_rw_5 : R rw 5 = some wy) (T_wy : T wy = 21) (N_wy : N wy = 637) (A_wy : A wy) {r e n : Nat} (hrI : rI = Int32.ofNat r) (heI : eI = Int32.ofNat e) (hmI : mI = Int32.ofNat n) (hr9 : r ≤ 12) (he1 : 1 ≤ e) (he : e ≤ 8) (hm : n ≤ 96) (hq : e * r < n) : Ex (d + 1) 151 [.ref x, .int rI, .int eI, .int mI] (T, N, I, L, R) 0 0 (pL T N R (fun x9 I9 L9 => x9 = 0 ∧ Fr A I L I9 L9)) := by
  refine ⟨_, rfl, Nat.le_of_ble_eq_true rfl, fun V C S => ?_⟩
  show V 0 [(0, .ref x), (1, .int rI), (2, .int eI), (3, .int mI)] [] (T, N, I, L, R) 0 0
  subst hrI heI hmI
  have hb : e * r ≤ 96 := Nat.le_trans (Nat.mul_le_mul he hr9) (by decide)
  refine k_iload_n C rfl rfl rfl ?_
  refine k_if_lt C (t := 31) rfl rfl rfl (fun c1 => ?_) (fun c1 => ?_)
  · skip
    exact absurd c1 (n_nn (by omega))
  refine k_iload_n C rfl rfl rfl ?_
  refine k_bipush C (x := 12) rfl rfl rfl ?_
  refine k_icmp_gt C (t := 31) rfl rfl rfl (fun c7 => ?_) (fun c7 => ?_)
  · skip
    exact absurd ((n_lt (a := 12) (b := r) (by omega) (by omega)).mp c7) (by omega)
  refine k_iload_n C rfl rfl rfl ?_
  refine k_iconst C (x := 1) rfl rfl rfl ?_
  refine k_icmp_lt C (t := 31) rfl rfl rfl (fun c12 => ?_) (fun c12 => ?_)
  · skip
    exact absurd ((n_lt (a := e) (b := 1) (by omega) (by omega)).mp c12) (by omega)
  refine k_iload_n C rfl rfl rfl ?_
  refine k_bipush C (x := 8) rfl rfl rfl ?_
  refine k_icmp_gt C (t := 31) rfl rfl rfl (fun c18 => ?_) (fun c18 => ?_)
  · skip
    exact absurd ((n_lt (a := 8) (b := e) (by omega) (by omega)).mp c18) (by omega)
  refine k_iload_n C rfl rfl rfl ?_
  refine k_if_lt C (t := 31) rfl rfl rfl (fun c22 => ?_) (fun c22 => ?_)
  · skip
    exact absurd c22 (n_nn (by omega))
  refine k_iload_n C rfl rfl rfl ?_
  refine k_bipush C (x := 96) rfl rfl rfl ?_
  refine k_icmp_le C (t := 39) rfl rfl rfl (fun c28 => ?_) (fun c28 => ?_)
  · skip
    refine k_iload_n C rfl rfl rfl ?_
    refine k_iload_n C rfl rfl rfl ?_
    refine k_imul C rfl rfl ?_
    refine k_iload_n C rfl rfl rfl ?_
    refine k_isub C rfl rfl ?_
    rw [n_mul]
    refine k_istore C (lw := [(4, .int _), (0, _), (1, .int _), (2, .int _), (3, .int _)]) rfl rfl (Nat.le_of_ble_eq_true rfl) rfl ?_
    refine k_iload C rfl rfl rfl ?_
    refine k_if_lt C (t := 58) rfl rfl rfl (fun c48 => ?_) (fun c48 => ?_)
    · skip
      refine k_lconst C (x := 0) rfl rfl rfl ?_
      exact k_lret C rfl rfl (Nat.le_of_ble_eq_true rfl) (Nat.le_of_ble_eq_true rfl) ⟨_, _, _, rfl, rfl, ⟨rfl, Fr.rf⟩⟩
    exact absurd (n_sub_lt hq (by omega)) c48
  exact absurd ((n_le (a := n) (b := 96) (by omega) (by omega)).mpr hm) c28

theorem e_count_b {d : Nat} {T N : Nat → Nat} {I : IT} {L : LT} {R : RT} {A : Nat → Prop} {x rw wy : Nat} {rI eI mI : Int32} (T_x : T x = 12) (R_x_7 : R x 7 = some rw) (T_rw : T rw = 6) (R_rw_5 : R rw 5 = some wy) (T_wy : T wy = 21) (N_wy : N wy = 637) (A_wy : A wy) {r e n : Nat} (hrI : rI = Int32.ofNat r) (heI : eI = Int32.ofNat e) (hmI : mI = Int32.ofNat n) (hr9 : r ≤ 12) (he1 : 1 ≤ e) (he : e ≤ 8) (hm : n ≤ 96) (hge : n ≤ e * r) (hodd : (e * r - n) % 2 = 1) : Ex (d + 1) 151 [.ref x, .int rI, .int eI, .int mI] (T, N, I, L, R) 0 0 (pL T N R (fun x9 I9 L9 => x9 = 0 ∧ Fr A I L I9 L9)) := by
  refine ⟨_, rfl, Nat.le_of_ble_eq_true rfl, fun V C S => ?_⟩
  show V 0 [(0, .ref x), (1, .int rI), (2, .int eI), (3, .int mI)] [] (T, N, I, L, R) 0 0
  subst hrI heI hmI
  have hb : e * r ≤ 96 := Nat.le_trans (Nat.mul_le_mul he hr9) (by decide)
  refine k_iload_n C rfl rfl rfl ?_
  refine k_if_lt C (t := 31) rfl rfl rfl (fun c1 => ?_) (fun c1 => ?_)
  · skip
    exact absurd c1 (n_nn (by omega))
  refine k_iload_n C rfl rfl rfl ?_
  refine k_bipush C (x := 12) rfl rfl rfl ?_
  refine k_icmp_gt C (t := 31) rfl rfl rfl (fun c7 => ?_) (fun c7 => ?_)
  · skip
    exact absurd ((n_lt (a := 12) (b := r) (by omega) (by omega)).mp c7) (by omega)
  refine k_iload_n C rfl rfl rfl ?_
  refine k_iconst C (x := 1) rfl rfl rfl ?_
  refine k_icmp_lt C (t := 31) rfl rfl rfl (fun c12 => ?_) (fun c12 => ?_)
  · skip
    exact absurd ((n_lt (a := e) (b := 1) (by omega) (by omega)).mp c12) (by omega)
  refine k_iload_n C rfl rfl rfl ?_
  refine k_bipush C (x := 8) rfl rfl rfl ?_
  refine k_icmp_gt C (t := 31) rfl rfl rfl (fun c18 => ?_) (fun c18 => ?_)
  · skip
    exact absurd ((n_lt (a := 8) (b := e) (by omega) (by omega)).mp c18) (by omega)
  refine k_iload_n C rfl rfl rfl ?_
  refine k_if_lt C (t := 31) rfl rfl rfl (fun c22 => ?_) (fun c22 => ?_)
  · skip
    exact absurd c22 (n_nn (by omega))
  refine k_iload_n C rfl rfl rfl ?_
  refine k_bipush C (x := 96) rfl rfl rfl ?_
  refine k_icmp_le C (t := 39) rfl rfl rfl (fun c28 => ?_) (fun c28 => ?_)
  · skip
    refine k_iload_n C rfl rfl rfl ?_
    refine k_iload_n C rfl rfl rfl ?_
    refine k_imul C rfl rfl ?_
    refine k_iload_n C rfl rfl rfl ?_
    refine k_isub C rfl rfl ?_
    rw [n_mul]
    refine k_istore C (lw := [(4, .int _), (0, _), (1, .int _), (2, .int _), (3, .int _)]) rfl rfl (Nat.le_of_ble_eq_true rfl) rfl ?_
    refine k_iload C rfl rfl rfl ?_
    refine k_if_lt C (t := 58) rfl rfl rfl (fun c48 => ?_) (fun c48 => ?_)
    · skip
      rw [n_sub hge] at c48; exact absurd c48 (n_nn (by omega))
    refine k_iload C rfl rfl rfl ?_
    rw [n_sub hge]
    refine k_iconst C (x := 2) rfl rfl rfl ?_
    refine k_irem C rfl rfl (by decide) ?_
    rw [n_rem2 (by omega)]
    refine k_if_eq C (t := 60) rfl rfl rfl (fun c55 => ?_) (fun c55 => ?_)
    · skip
      rw [hodd] at c55; exact absurd c55 (by decide)
    refine k_lconst C (x := 0) rfl rfl rfl ?_
    exact k_lret C rfl rfl (Nat.le_of_ble_eq_true rfl) (Nat.le_of_ble_eq_true rfl) ⟨_, _, _, rfl, rfl, ⟨rfl, Fr.rf⟩⟩
  exact absurd ((n_le (a := n) (b := 96) (by omega) (by omega)).mpr hm) c28

theorem e_count_c {d : Nat} {T N : Nat → Nat} {I : IT} {L : LT} {R : RT} {A : Nat → Prop} {x rw wy : Nat} {rI eI mI : Int32} (T_x : T x = 12) (R_x_7 : R x 7 = some rw) (T_rw : T rw = 6) (R_rw_5 : R rw 5 = some wy) (T_wy : T wy = 21) (N_wy : N wy = 637) (A_wy : A wy) {r e n : Nat} (hrI : rI = Int32.ofNat r) (heI : eI = Int32.ofNat e) (hmI : mI = Int32.ofNat n) (hr9 : r ≤ 12) (he1 : 1 ≤ e) (he : e ≤ 8) (hm : n ≤ 96) (hge : n ≤ e * r) (hev : (e * r - n) % 2 = 0) (hz : (e * r - n) / 2 = 0) : Ex (d + 3) 151 [.ref x, .int rI, .int eI, .int mI] (T, N, I, L, R) 0 0 (pL T N R (fun x9 I9 L9 => x9 = waysP 0 r e - 0 ∧ Fr A I L I9 L9)) := by
  refine ⟨_, rfl, Nat.le_of_ble_eq_true rfl, fun V C S => ?_⟩
  show V 0 [(0, .ref x), (1, .int rI), (2, .int eI), (3, .int mI)] [] (T, N, I, L, R) 0 0
  subst hrI heI hmI
  have hb : e * r ≤ 96 := Nat.le_trans (Nat.mul_le_mul he hr9) (by decide)
  refine k_iload_n C rfl rfl rfl ?_
  refine k_if_lt C (t := 31) rfl rfl rfl (fun c1 => ?_) (fun c1 => ?_)
  · skip
    exact absurd c1 (n_nn (by omega))
  refine k_iload_n C rfl rfl rfl ?_
  refine k_bipush C (x := 12) rfl rfl rfl ?_
  refine k_icmp_gt C (t := 31) rfl rfl rfl (fun c7 => ?_) (fun c7 => ?_)
  · skip
    exact absurd ((n_lt (a := 12) (b := r) (by omega) (by omega)).mp c7) (by omega)
  refine k_iload_n C rfl rfl rfl ?_
  refine k_iconst C (x := 1) rfl rfl rfl ?_
  refine k_icmp_lt C (t := 31) rfl rfl rfl (fun c12 => ?_) (fun c12 => ?_)
  · skip
    exact absurd ((n_lt (a := e) (b := 1) (by omega) (by omega)).mp c12) (by omega)
  refine k_iload_n C rfl rfl rfl ?_
  refine k_bipush C (x := 8) rfl rfl rfl ?_
  refine k_icmp_gt C (t := 31) rfl rfl rfl (fun c18 => ?_) (fun c18 => ?_)
  · skip
    exact absurd ((n_lt (a := 8) (b := e) (by omega) (by omega)).mp c18) (by omega)
  refine k_iload_n C rfl rfl rfl ?_
  refine k_if_lt C (t := 31) rfl rfl rfl (fun c22 => ?_) (fun c22 => ?_)
  · skip
    exact absurd c22 (n_nn (by omega))
  refine k_iload_n C rfl rfl rfl ?_
  refine k_bipush C (x := 96) rfl rfl rfl ?_
  refine k_icmp_le C (t := 39) rfl rfl rfl (fun c28 => ?_) (fun c28 => ?_)
  · skip
    refine k_iload_n C rfl rfl rfl ?_
    refine k_iload_n C rfl rfl rfl ?_
    refine k_imul C rfl rfl ?_
    refine k_iload_n C rfl rfl rfl ?_
    refine k_isub C rfl rfl ?_
    rw [n_mul]
    refine k_istore C (lw := [(4, .int _), (0, _), (1, .int _), (2, .int _), (3, .int _)]) rfl rfl (Nat.le_of_ble_eq_true rfl) rfl ?_
    refine k_iload C rfl rfl rfl ?_
    refine k_if_lt C (t := 58) rfl rfl rfl (fun c48 => ?_) (fun c48 => ?_)
    · skip
      rw [n_sub hge] at c48; exact absurd c48 (n_nn (by omega))
    refine k_iload C rfl rfl rfl ?_
    rw [n_sub hge]
    refine k_iconst C (x := 2) rfl rfl rfl ?_
    refine k_irem C rfl rfl (by decide) ?_
    rw [n_rem2 (by omega)]
    refine k_if_eq C (t := 60) rfl rfl rfl (fun c55 => ?_) (fun c55 => ?_)
    · skip
      refine k_aload_n C rfl rfl rfl ?_
      refine g_R C rfl rfl rfl T_x rfl R_x_7 ?_
      refine k_iload C rfl rfl rfl ?_
      refine k_iconst C (x := 2) rfl rfl rfl ?_
      refine k_idiv C rfl rfl (by decide) ?_
      rw [n_div2 (by omega)]
      refine k_iload_n C rfl rfl rfl ?_
      refine k_iload_n C rfl rfl rfl ?_
      refine c_VL C (e_ways_nat T_rw R_rw_5 T_wy N_wy A_wy (w := 0) (congrArg Int32.ofNat hz) rfl rfl (by omega) hr9 he) rfl rfl rfl rfl rfl ⟨_, rfl, rfl, T_rw, Nat.le_of_ble_eq_true rfl⟩ rfl rfl (Nat.le_of_ble_eq_true rfl) (Nat.le_of_ble_eq_true rfl) (Nat.le_of_ble_eq_true rfl) ?_
      rintro _ _ L1 ⟨rfl, hI8, hF1⟩
      have hI8 := hI8.symm; subst hI8
      refine k_aload_n C rfl rfl rfl ?_
      refine g_R C rfl rfl rfl T_x rfl R_x_7 ?_
      refine k_iload C rfl rfl rfl ?_
      refine k_iconst C (x := 2) rfl rfl rfl ?_
      refine k_idiv C rfl rfl (by decide) ?_
      rw [n_div2 (by omega)]
      refine k_iconst C (x := 1) rfl rfl rfl ?_
      refine k_isub C rfl rfl ?_
      refine k_iload_n C rfl rfl rfl ?_
      refine k_iload_n C rfl rfl rfl ?_
      refine c_VL C (e_ways_neg  (by rw [hz]; decide)) rfl rfl rfl rfl rfl ⟨_, rfl, rfl, T_rw, Nat.le_of_ble_eq_true rfl⟩ rfl rfl (Nat.le_of_ble_eq_true rfl) (Nat.le_of_ble_eq_true rfl) (Nat.le_of_ble_eq_true rfl) ?_
      rintro _ _ _ ⟨hx7, hI8, hL9⟩
      have hx7 := hx7.symm; subst hx7
      have hI8 := hI8.symm; subst hI8; have hL9 := hL9.symm; subst hL9
      refine k_lsub C rfl rfl ?_
      exact k_lret C rfl rfl (Nat.le_of_ble_eq_true rfl) (Nat.le_of_ble_eq_true rfl) ⟨_, _, _, rfl, rfl, ⟨rfl, hF1⟩⟩
    rw [hev] at c55; exact absurd rfl c55
  exact absurd ((n_le (a := n) (b := 96) (by omega) (by omega)).mpr hm) c28

theorem e_count_d {d : Nat} {T N : Nat → Nat} {I : IT} {L : LT} {R : RT} {A : Nat → Prop} {x rw wy : Nat} {rI eI mI : Int32} (T_x : T x = 12) (R_x_7 : R x 7 = some rw) (T_rw : T rw = 6) (R_rw_5 : R rw 5 = some wy) (T_wy : T wy = 21) (N_wy : N wy = 637) (A_wy : A wy) {r e n : Nat} (hrI : rI = Int32.ofNat r) (heI : eI = Int32.ofNat e) (hmI : mI = Int32.ofNat n) (hr9 : r ≤ 12) (he1 : 1 ≤ e) (he : e ≤ 8) (hm : n ≤ 96) (hge : n ≤ e * r) (hev : (e * r - n) % 2 = 0) (hz : 1 ≤ (e * r - n) / 2) : Ex (d + 3) 151 [.ref x, .int rI, .int eI, .int mI] (T, N, I, L, R) 0 0 (pL T N R (fun x9 I9 L9 => x9 = waysP ((e * r - n) / 2) r e - waysP ((e * r - n) / 2 - 1) r e ∧ Fr A I L I9 L9)) := by
  refine ⟨_, rfl, Nat.le_of_ble_eq_true rfl, fun V C S => ?_⟩
  show V 0 [(0, .ref x), (1, .int rI), (2, .int eI), (3, .int mI)] [] (T, N, I, L, R) 0 0
  subst hrI heI hmI
  have hb : e * r ≤ 96 := Nat.le_trans (Nat.mul_le_mul he hr9) (by decide)
  refine k_iload_n C rfl rfl rfl ?_
  refine k_if_lt C (t := 31) rfl rfl rfl (fun c1 => ?_) (fun c1 => ?_)
  · skip
    exact absurd c1 (n_nn (by omega))
  refine k_iload_n C rfl rfl rfl ?_
  refine k_bipush C (x := 12) rfl rfl rfl ?_
  refine k_icmp_gt C (t := 31) rfl rfl rfl (fun c7 => ?_) (fun c7 => ?_)
  · skip
    exact absurd ((n_lt (a := 12) (b := r) (by omega) (by omega)).mp c7) (by omega)
  refine k_iload_n C rfl rfl rfl ?_
  refine k_iconst C (x := 1) rfl rfl rfl ?_
  refine k_icmp_lt C (t := 31) rfl rfl rfl (fun c12 => ?_) (fun c12 => ?_)
  · skip
    exact absurd ((n_lt (a := e) (b := 1) (by omega) (by omega)).mp c12) (by omega)
  refine k_iload_n C rfl rfl rfl ?_
  refine k_bipush C (x := 8) rfl rfl rfl ?_
  refine k_icmp_gt C (t := 31) rfl rfl rfl (fun c18 => ?_) (fun c18 => ?_)
  · skip
    exact absurd ((n_lt (a := 8) (b := e) (by omega) (by omega)).mp c18) (by omega)
  refine k_iload_n C rfl rfl rfl ?_
  refine k_if_lt C (t := 31) rfl rfl rfl (fun c22 => ?_) (fun c22 => ?_)
  · skip
    exact absurd c22 (n_nn (by omega))
  refine k_iload_n C rfl rfl rfl ?_
  refine k_bipush C (x := 96) rfl rfl rfl ?_
  refine k_icmp_le C (t := 39) rfl rfl rfl (fun c28 => ?_) (fun c28 => ?_)
  · skip
    refine k_iload_n C rfl rfl rfl ?_
    refine k_iload_n C rfl rfl rfl ?_
    refine k_imul C rfl rfl ?_
    refine k_iload_n C rfl rfl rfl ?_
    refine k_isub C rfl rfl ?_
    rw [n_mul]
    refine k_istore C (lw := [(4, .int _), (0, _), (1, .int _), (2, .int _), (3, .int _)]) rfl rfl (Nat.le_of_ble_eq_true rfl) rfl ?_
    refine k_iload C rfl rfl rfl ?_
    refine k_if_lt C (t := 58) rfl rfl rfl (fun c48 => ?_) (fun c48 => ?_)
    · skip
      rw [n_sub hge] at c48; exact absurd c48 (n_nn (by omega))
    refine k_iload C rfl rfl rfl ?_
    rw [n_sub hge]
    refine k_iconst C (x := 2) rfl rfl rfl ?_
    refine k_irem C rfl rfl (by decide) ?_
    rw [n_rem2 (by omega)]
    refine k_if_eq C (t := 60) rfl rfl rfl (fun c55 => ?_) (fun c55 => ?_)
    · skip
      refine k_aload_n C rfl rfl rfl ?_
      refine g_R C rfl rfl rfl T_x rfl R_x_7 ?_
      refine k_iload C rfl rfl rfl ?_
      refine k_iconst C (x := 2) rfl rfl rfl ?_
      refine k_idiv C rfl rfl (by decide) ?_
      rw [n_div2 (by omega)]
      refine k_iload_n C rfl rfl rfl ?_
      refine k_iload_n C rfl rfl rfl ?_
      refine c_VL C (e_ways_nat T_rw R_rw_5 T_wy N_wy A_wy (w := (e * r - n) / 2) rfl rfl rfl (by omega) hr9 he) rfl rfl rfl rfl rfl ⟨_, rfl, rfl, T_rw, Nat.le_of_ble_eq_true rfl⟩ rfl rfl (Nat.le_of_ble_eq_true rfl) (Nat.le_of_ble_eq_true rfl) (Nat.le_of_ble_eq_true rfl) ?_
      rintro _ _ L1 ⟨rfl, hI8, hF1⟩
      have hI8 := hI8.symm; subst hI8
      refine k_aload_n C rfl rfl rfl ?_
      refine g_R C rfl rfl rfl T_x rfl R_x_7 ?_
      refine k_iload C rfl rfl rfl ?_
      refine k_iconst C (x := 2) rfl rfl rfl ?_
      refine k_idiv C rfl rfl (by decide) ?_
      rw [n_div2 (by omega)]
      refine k_iconst C (x := 1) rfl rfl rfl ?_
      refine k_isub C rfl rfl ?_
      rw [show (1 : Int32) = Int32.ofNat 1 from rfl, n_sub (by omega)]
      refine k_iload_n C rfl rfl rfl ?_
      refine k_iload_n C rfl rfl rfl ?_
      refine c_VL C (e_ways_nat T_rw R_rw_5 T_wy N_wy A_wy (w := (e * r - n) / 2 - 1) rfl rfl rfl (by omega) hr9 he) rfl rfl rfl rfl rfl ⟨_, rfl, rfl, T_rw, Nat.le_of_ble_eq_true rfl⟩ rfl rfl (Nat.le_of_ble_eq_true rfl) (Nat.le_of_ble_eq_true rfl) (Nat.le_of_ble_eq_true rfl) ?_
      rintro _ _ L2 ⟨rfl, hI8, hF2⟩
      have hI8 := hI8.symm; subst hI8
      refine k_lsub C rfl rfl ?_
      exact k_lret C rfl rfl (Nat.le_of_ble_eq_true rfl) (Nat.le_of_ble_eq_true rfl) ⟨_, _, _, rfl, rfl, ⟨rfl, Fr.tr hF1 hF2⟩⟩
    rw [hev] at c55; exact absurd rfl c55
  exact absurd ((n_le (a := n) (b := 96) (by omega) (by omega)).mpr hm) c28

theorem e_m_count_no {d : Nat} {T N : Nat → Nat} {I : IT} {L : LT} {R : RT} {A : Nat → Prop} {m : Nat} {rI eI mI : Int32} (T_m : T m = 13) (A_m : A m) (h : ¬ okCnt rI eI mI) : Ex (d + 2) 259 [.ref m, .int rI, .int eI, .int mI] (T, N, I, L, R) 0 0 (pL T N R (fun x9 I9 L9 => Fr A I L I9 L9 ∧ I9 m 0 = 1 ∧ IKm m I I9)) := by
  refine ⟨_, rfl, Nat.le_of_ble_eq_true rfl, fun V C S => ?_⟩
  show V 0 [(0, .ref m), (1, .int rI), (2, .int eI), (3, .int mI)] [] (T, N, I, L, R) 0 0
  refine k_aload_n C rfl rfl rfl ?_
  refine k_iconst C (x := 0) rfl rfl rfl ?_
  refine p_I C rfl rfl rfl T_m (Or.inr rfl) rfl ?_
  refine k_aload_n C rfl rfl rfl ?_
  refine k_iload_n C rfl rfl rfl ?_
  refine k_iconst C (x := 0) rfl rfl rfl ?_
  refine k_bipush C (x := 12) rfl rfl rfl ?_
  refine c_SI C e_in rfl rfl rfl rfl rfl rfl rfl (Nat.le_of_ble_eq_true rfl) (Nat.le_of_ble_eq_true rfl) (Nat.le_of_ble_eq_true rfl) ?_
  rintro _ _ _ ⟨hx7, hI8, hL9⟩
  have hx7 := hx7.symm; subst hx7
  have hI8 := hI8.symm; subst hI8; have hL9 := hL9.symm; subst hL9
  refine k_if_eq C (t := 36) rfl rfl rfl (fun c13 => ?_) (fun c13 => ?_)
  · skip
    refine k_iconst C (x := 1) rfl rfl rfl ?_
    refine k_goto C (pc2 := 41) rfl rfl ?_
    refine k_iconst C (x := 1) rfl rfl rfl ?_
    refine c_VI C (e_throwsIf1 T_m rfl) rfl rfl rfl rfl rfl ⟨_, rfl, rfl, T_m, Nat.le_of_ble_eq_true rfl⟩ rfl rfl (Nat.le_of_ble_eq_true rfl) (Nat.le_of_ble_eq_true rfl) (Nat.le_of_ble_eq_true rfl) ?_
    rintro _ _ _ ⟨hx7, hI8, hL9⟩
    have hx7 := hx7.symm; subst hx7
    have hI8 := hI8.symm; subst hI8; have hL9 := hL9.symm; subst hL9
    refine k_if_eq C (t := 50) rfl rfl rfl (fun c45 => absurd c45 (by decide)) (fun _ => ?_)
    refine k_lconst C (x := 0) rfl rfl rfl ?_
    exact k_lret C rfl rfl (Nat.le_of_ble_eq_true rfl) (Nat.le_of_ble_eq_true rfl) ⟨_, _, _, rfl, rfl, ⟨(Fr.i (Fr.i Fr.rf A_m) A_m), u2_s, (by first | exact IKm.i IKm.rf | exact IKm.i (IKm.i IKm.rf))⟩⟩
  have q1 := inY c13
  refine k_iload_n C rfl rfl rfl ?_
  refine k_iconst C (x := 1) rfl rfl rfl ?_
  refine k_bipush C (x := 8) rfl rfl rfl ?_
  refine c_SI C e_in rfl rfl rfl rfl rfl rfl rfl (Nat.le_of_ble_eq_true rfl) (Nat.le_of_ble_eq_true rfl) (Nat.le_of_ble_eq_true rfl) ?_
  rintro _ _ _ ⟨hx7, hI8, hL9⟩
  have hx7 := hx7.symm; subst hx7
  have hI8 := hI8.symm; subst hI8; have hL9 := hL9.symm; subst hL9
  refine k_if_eq C (t := 36) rfl rfl rfl (fun c23 => ?_) (fun c23 => ?_)
  · skip
    refine k_iconst C (x := 1) rfl rfl rfl ?_
    refine k_goto C (pc2 := 41) rfl rfl ?_
    refine k_iconst C (x := 1) rfl rfl rfl ?_
    refine c_VI C (e_throwsIf1 T_m rfl) rfl rfl rfl rfl rfl ⟨_, rfl, rfl, T_m, Nat.le_of_ble_eq_true rfl⟩ rfl rfl (Nat.le_of_ble_eq_true rfl) (Nat.le_of_ble_eq_true rfl) (Nat.le_of_ble_eq_true rfl) ?_
    rintro _ _ _ ⟨hx7, hI8, hL9⟩
    have hx7 := hx7.symm; subst hx7
    have hI8 := hI8.symm; subst hI8; have hL9 := hL9.symm; subst hL9
    refine k_if_eq C (t := 50) rfl rfl rfl (fun c45 => absurd c45 (by decide)) (fun _ => ?_)
    refine k_lconst C (x := 0) rfl rfl rfl ?_
    exact k_lret C rfl rfl (Nat.le_of_ble_eq_true rfl) (Nat.le_of_ble_eq_true rfl) ⟨_, _, _, rfl, rfl, ⟨(Fr.i (Fr.i Fr.rf A_m) A_m), u2_s, (by first | exact IKm.i IKm.rf | exact IKm.i (IKm.i IKm.rf))⟩⟩
  have q2 := inY c23
  refine k_iload_n C rfl rfl rfl ?_
  refine k_iconst C (x := 0) rfl rfl rfl ?_
  refine k_bipush C (x := 96) rfl rfl rfl ?_
  refine c_SI C e_in rfl rfl rfl rfl rfl rfl rfl (Nat.le_of_ble_eq_true rfl) (Nat.le_of_ble_eq_true rfl) (Nat.le_of_ble_eq_true rfl) ?_
  rintro _ _ _ ⟨hx7, hI8, hL9⟩
  have hx7 := hx7.symm; subst hx7
  have hI8 := hI8.symm; subst hI8; have hL9 := hL9.symm; subst hL9
  refine k_if_ne C (t := 40) rfl rfl rfl (fun c33 => ?_) (fun c33 => ?_)
  · skip
    exact absurd ⟨q1, q2, inY c33⟩ h
  refine k_iconst C (x := 1) rfl rfl rfl ?_
  refine k_goto C (pc2 := 41) rfl rfl ?_
  refine k_iconst C (x := 1) rfl rfl rfl ?_
  refine c_VI C (e_throwsIf1 T_m rfl) rfl rfl rfl rfl rfl ⟨_, rfl, rfl, T_m, Nat.le_of_ble_eq_true rfl⟩ rfl rfl (Nat.le_of_ble_eq_true rfl) (Nat.le_of_ble_eq_true rfl) (Nat.le_of_ble_eq_true rfl) ?_
  rintro _ _ _ ⟨hx7, hI8, hL9⟩
  have hx7 := hx7.symm; subst hx7
  have hI8 := hI8.symm; subst hI8; have hL9 := hL9.symm; subst hL9
  refine k_if_eq C (t := 50) rfl rfl rfl (fun c45 => absurd c45 (by decide)) (fun _ => ?_)
  refine k_lconst C (x := 0) rfl rfl rfl ?_
  exact k_lret C rfl rfl (Nat.le_of_ble_eq_true rfl) (Nat.le_of_ble_eq_true rfl) ⟨_, _, _, rfl, rfl, ⟨(Fr.i (Fr.i Fr.rf A_m) A_m), u2_s, (by first | exact IKm.i IKm.rf | exact IKm.i (IKm.i IKm.rf))⟩⟩

theorem e_m_count_a {d : Nat} {T N : Nat → Nat} {I : IT} {L : LT} {R : RT} {A : Nat → Prop} {m wy : Nat} {rI eI mI : Int32} (T_m : T m = 13) (A_m : A m) (R_m_21 : R m 21 = some wy) (T_wy : T wy = 21) (N_wy : N wy = 1261) (A_wy : A wy) {r e n : Nat} (hrI : rI = Int32.ofNat r) (heI : eI = Int32.ofNat e) (hmI : mI = Int32.ofNat n) (hr9 : r ≤ 12) (he1 : 1 ≤ e) (he : e ≤ 8) (hm : n ≤ 96) (hq : e * r < n) : Ex (d + 2) 259 [.ref m, .int rI, .int eI, .int mI] (T, N, I, L, R) 0 0 (pL T N R (fun x9 I9 L9 => x9 = 0 ∧ Fr A I L I9 L9 ∧ I9 m 0 = 0 ∧ IKm m I I9)) := by
  refine ⟨_, rfl, Nat.le_of_ble_eq_true rfl, fun V C S => ?_⟩
  show V 0 [(0, .ref m), (1, .int rI), (2, .int eI), (3, .int mI)] [] (T, N, I, L, R) 0 0
  subst hrI heI hmI
  have hb : e * r ≤ 96 := Nat.le_trans (Nat.mul_le_mul he hr9) (by decide)
  refine k_aload_n C rfl rfl rfl ?_
  refine k_iconst C (x := 0) rfl rfl rfl ?_
  refine p_I C rfl rfl rfl T_m (Or.inr rfl) rfl ?_
  refine k_aload_n C rfl rfl rfl ?_
  refine k_iload_n C rfl rfl rfl ?_
  refine k_iconst C (x := 0) rfl rfl rfl ?_
  refine k_bipush C (x := 12) rfl rfl rfl ?_
  refine c_SI C e_in rfl rfl rfl rfl rfl rfl rfl (Nat.le_of_ble_eq_true rfl) (Nat.le_of_ble_eq_true rfl) (Nat.le_of_ble_eq_true rfl) ?_
  rintro _ _ _ ⟨hx7, hI8, hL9⟩
  have hx7 := hx7.symm; subst hx7
  have hI8 := hI8.symm; subst hI8; have hL9 := hL9.symm; subst hL9
  refine k_if_eq C (t := 36) rfl rfl rfl (fun c13 => ?_) (fun c13 => ?_)
  · skip
    exact absurd c13 (inN ⟨(n_le (a := 0) (b := r) (by omega) (by omega)).mpr (by omega), (n_le (a := r) (b := 12) (by omega) (by omega)).mpr (by omega)⟩)
  refine k_iload_n C rfl rfl rfl ?_
  refine k_iconst C (x := 1) rfl rfl rfl ?_
  refine k_bipush C (x := 8) rfl rfl rfl ?_
  refine c_SI C e_in rfl rfl rfl rfl rfl rfl rfl (Nat.le_of_ble_eq_true rfl) (Nat.le_of_ble_eq_true rfl) (Nat.le_of_ble_eq_true rfl) ?_
  rintro _ _ _ ⟨hx7, hI8, hL9⟩
  have hx7 := hx7.symm; subst hx7
  have hI8 := hI8.symm; subst hI8; have hL9 := hL9.symm; subst hL9
  refine k_if_eq C (t := 36) rfl rfl rfl (fun c23 => ?_) (fun c23 => ?_)
  · skip
    exact absurd c23 (inN ⟨(n_le (a := 1) (b := e) (by omega) (by omega)).mpr (by omega), (n_le (a := e) (b := 8) (by omega) (by omega)).mpr (by omega)⟩)
  refine k_iload_n C rfl rfl rfl ?_
  refine k_iconst C (x := 0) rfl rfl rfl ?_
  refine k_bipush C (x := 96) rfl rfl rfl ?_
  refine c_SI C e_in rfl rfl rfl rfl rfl rfl rfl (Nat.le_of_ble_eq_true rfl) (Nat.le_of_ble_eq_true rfl) (Nat.le_of_ble_eq_true rfl) ?_
  rintro _ _ _ ⟨hx7, hI8, hL9⟩
  have hx7 := hx7.symm; subst hx7
  have hI8 := hI8.symm; subst hI8; have hL9 := hL9.symm; subst hL9
  refine k_if_ne C (t := 40) rfl rfl rfl (fun c33 => ?_) (fun c33 => ?_)
  · skip
    refine k_iconst C (x := 0) rfl rfl rfl ?_
    refine k_iconst C (x := 1) rfl rfl rfl ?_
    refine c_VI C (e_throwsIf0 T_m rfl) rfl rfl rfl rfl rfl ⟨_, rfl, rfl, T_m, Nat.le_of_ble_eq_true rfl⟩ rfl rfl (Nat.le_of_ble_eq_true rfl) (Nat.le_of_ble_eq_true rfl) (Nat.le_of_ble_eq_true rfl) ?_
    rintro _ _ _ ⟨hx7, hI8, hL9⟩
    have hx7 := hx7.symm; subst hx7
    have hI8 := hI8.symm; subst hI8; have hL9 := hL9.symm; subst hL9
    refine k_if_eq C (t := 50) rfl rfl rfl (fun _ => ?_) (fun c45 => absurd (by decide) c45)
    refine k_iload_n C rfl rfl rfl ?_
    refine k_iload_n C rfl rfl rfl ?_
    refine k_imul C rfl rfl ?_
    refine k_iload_n C rfl rfl rfl ?_
    refine k_isub C rfl rfl ?_
    rw [n_mul]
    refine k_istore C (lw := [(4, .int _), (0, _), (1, .int _), (2, .int _), (3, .int _)]) rfl rfl (Nat.le_of_ble_eq_true rfl) rfl ?_
    refine k_iload C rfl rfl rfl ?_
    refine k_if_lt C (t := 69) rfl rfl rfl (fun c59 => ?_) (fun c59 => ?_)
    · skip
      refine k_lconst C (x := 0) rfl rfl rfl ?_
      refine k_goto C (pc2 := 96) rfl rfl ?_
      exact k_lret C rfl rfl (Nat.le_of_ble_eq_true rfl) (Nat.le_of_ble_eq_true rfl) ⟨_, _, _, rfl, rfl, ⟨rfl, Fr.i Fr.rf A_m, u2_s, (by first | exact IKm.i IKm.rf | exact IKm.i (IKm.i IKm.rf))⟩⟩
    exact absurd (n_sub_lt hq (by omega)) c59
  exact absurd (inN ⟨(n_le (a := 0) (b := n) (by omega) (by omega)).mpr (by omega), (n_le (a := n) (b := 96) (by omega) (by omega)).mpr (by omega)⟩) c33

theorem e_m_count_b {d : Nat} {T N : Nat → Nat} {I : IT} {L : LT} {R : RT} {A : Nat → Prop} {m wy : Nat} {rI eI mI : Int32} (T_m : T m = 13) (A_m : A m) (R_m_21 : R m 21 = some wy) (T_wy : T wy = 21) (N_wy : N wy = 1261) (A_wy : A wy) {r e n : Nat} (hrI : rI = Int32.ofNat r) (heI : eI = Int32.ofNat e) (hmI : mI = Int32.ofNat n) (hr9 : r ≤ 12) (he1 : 1 ≤ e) (he : e ≤ 8) (hm : n ≤ 96) (hge : n ≤ e * r) (hodd : (e * r - n) % 2 = 1) : Ex (d + 2) 259 [.ref m, .int rI, .int eI, .int mI] (T, N, I, L, R) 0 0 (pL T N R (fun x9 I9 L9 => x9 = 0 ∧ Fr A I L I9 L9 ∧ I9 m 0 = 0 ∧ IKm m I I9)) := by
  refine ⟨_, rfl, Nat.le_of_ble_eq_true rfl, fun V C S => ?_⟩
  show V 0 [(0, .ref m), (1, .int rI), (2, .int eI), (3, .int mI)] [] (T, N, I, L, R) 0 0
  subst hrI heI hmI
  have hb : e * r ≤ 96 := Nat.le_trans (Nat.mul_le_mul he hr9) (by decide)
  refine k_aload_n C rfl rfl rfl ?_
  refine k_iconst C (x := 0) rfl rfl rfl ?_
  refine p_I C rfl rfl rfl T_m (Or.inr rfl) rfl ?_
  refine k_aload_n C rfl rfl rfl ?_
  refine k_iload_n C rfl rfl rfl ?_
  refine k_iconst C (x := 0) rfl rfl rfl ?_
  refine k_bipush C (x := 12) rfl rfl rfl ?_
  refine c_SI C e_in rfl rfl rfl rfl rfl rfl rfl (Nat.le_of_ble_eq_true rfl) (Nat.le_of_ble_eq_true rfl) (Nat.le_of_ble_eq_true rfl) ?_
  rintro _ _ _ ⟨hx7, hI8, hL9⟩
  have hx7 := hx7.symm; subst hx7
  have hI8 := hI8.symm; subst hI8; have hL9 := hL9.symm; subst hL9
  refine k_if_eq C (t := 36) rfl rfl rfl (fun c13 => ?_) (fun c13 => ?_)
  · skip
    exact absurd c13 (inN ⟨(n_le (a := 0) (b := r) (by omega) (by omega)).mpr (by omega), (n_le (a := r) (b := 12) (by omega) (by omega)).mpr (by omega)⟩)
  refine k_iload_n C rfl rfl rfl ?_
  refine k_iconst C (x := 1) rfl rfl rfl ?_
  refine k_bipush C (x := 8) rfl rfl rfl ?_
  refine c_SI C e_in rfl rfl rfl rfl rfl rfl rfl (Nat.le_of_ble_eq_true rfl) (Nat.le_of_ble_eq_true rfl) (Nat.le_of_ble_eq_true rfl) ?_
  rintro _ _ _ ⟨hx7, hI8, hL9⟩
  have hx7 := hx7.symm; subst hx7
  have hI8 := hI8.symm; subst hI8; have hL9 := hL9.symm; subst hL9
  refine k_if_eq C (t := 36) rfl rfl rfl (fun c23 => ?_) (fun c23 => ?_)
  · skip
    exact absurd c23 (inN ⟨(n_le (a := 1) (b := e) (by omega) (by omega)).mpr (by omega), (n_le (a := e) (b := 8) (by omega) (by omega)).mpr (by omega)⟩)
  refine k_iload_n C rfl rfl rfl ?_
  refine k_iconst C (x := 0) rfl rfl rfl ?_
  refine k_bipush C (x := 96) rfl rfl rfl ?_
  refine c_SI C e_in rfl rfl rfl rfl rfl rfl rfl (Nat.le_of_ble_eq_true rfl) (Nat.le_of_ble_eq_true rfl) (Nat.le_of_ble_eq_true rfl) ?_
  rintro _ _ _ ⟨hx7, hI8, hL9⟩
  have hx7 := hx7.symm; subst hx7
  have hI8 := hI8.symm; subst hI8; have hL9 := hL9.symm; subst hL9
  refine k_if_ne C (t := 40) rfl rfl rfl (fun c33 => ?_) (fun c33 => ?_)
  · skip
    refine k_iconst C (x := 0) rfl rfl rfl ?_
    refine k_iconst C (x := 1) rfl rfl rfl ?_
    refine c_VI C (e_throwsIf0 T_m rfl) rfl rfl rfl rfl rfl ⟨_, rfl, rfl, T_m, Nat.le_of_ble_eq_true rfl⟩ rfl rfl (Nat.le_of_ble_eq_true rfl) (Nat.le_of_ble_eq_true rfl) (Nat.le_of_ble_eq_true rfl) ?_
    rintro _ _ _ ⟨hx7, hI8, hL9⟩
    have hx7 := hx7.symm; subst hx7
    have hI8 := hI8.symm; subst hI8; have hL9 := hL9.symm; subst hL9
    refine k_if_eq C (t := 50) rfl rfl rfl (fun _ => ?_) (fun c45 => absurd (by decide) c45)
    refine k_iload_n C rfl rfl rfl ?_
    refine k_iload_n C rfl rfl rfl ?_
    refine k_imul C rfl rfl ?_
    refine k_iload_n C rfl rfl rfl ?_
    refine k_isub C rfl rfl ?_
    rw [n_mul]
    refine k_istore C (lw := [(4, .int _), (0, _), (1, .int _), (2, .int _), (3, .int _)]) rfl rfl (Nat.le_of_ble_eq_true rfl) rfl ?_
    refine k_iload C rfl rfl rfl ?_
    refine k_if_lt C (t := 69) rfl rfl rfl (fun c59 => ?_) (fun c59 => ?_)
    · skip
      rw [n_sub hge] at c59; exact absurd c59 (n_nn (by omega))
    refine k_iload C rfl rfl rfl ?_
    rw [n_sub hge]
    refine k_iconst C (x := 2) rfl rfl rfl ?_
    refine k_irem C rfl rfl (by decide) ?_
    rw [n_rem2 (by omega)]
    refine k_if_eq C (t := 73) rfl rfl rfl (fun c66 => ?_) (fun c66 => ?_)
    · skip
      rw [hodd] at c66; exact absurd c66 (by decide)
    refine k_lconst C (x := 0) rfl rfl rfl ?_
    refine k_goto C (pc2 := 96) rfl rfl ?_
    exact k_lret C rfl rfl (Nat.le_of_ble_eq_true rfl) (Nat.le_of_ble_eq_true rfl) ⟨_, _, _, rfl, rfl, ⟨rfl, Fr.i Fr.rf A_m, u2_s, (by first | exact IKm.i IKm.rf | exact IKm.i (IKm.i IKm.rf))⟩⟩
  exact absurd (inN ⟨(n_le (a := 0) (b := n) (by omega) (by omega)).mpr (by omega), (n_le (a := n) (b := 96) (by omega) (by omega)).mpr (by omega)⟩) c33

theorem e_m_count_c {d : Nat} {T N : Nat → Nat} {I : IT} {L : LT} {R : RT} {A : Nat → Prop} {m wy : Nat} {rI eI mI : Int32} (T_m : T m = 13) (A_m : A m) (R_m_21 : R m 21 = some wy) (T_wy : T wy = 21) (N_wy : N wy = 1261) (A_wy : A wy) {r e n : Nat} (hrI : rI = Int32.ofNat r) (heI : eI = Int32.ofNat e) (hmI : mI = Int32.ofNat n) (hr9 : r ≤ 12) (he1 : 1 ≤ e) (he : e ≤ 8) (hm : n ≤ 96) (hge : n ≤ e * r) (hev : (e * r - n) % 2 = 0) (hz : (e * r - n) / 2 = 0) : Ex (d + 3) 259 [.ref m, .int rI, .int eI, .int mI] (T, N, I, L, R) 0 0 (pL T N R (fun x9 I9 L9 => x9 = waysP 0 r e - 0 ∧ Fr A I L I9 L9 ∧ I9 m 0 = 0 ∧ IKm m I I9)) := by
  refine ⟨_, rfl, Nat.le_of_ble_eq_true rfl, fun V C S => ?_⟩
  show V 0 [(0, .ref m), (1, .int rI), (2, .int eI), (3, .int mI)] [] (T, N, I, L, R) 0 0
  subst hrI heI hmI
  have hb : e * r ≤ 96 := Nat.le_trans (Nat.mul_le_mul he hr9) (by decide)
  refine k_aload_n C rfl rfl rfl ?_
  refine k_iconst C (x := 0) rfl rfl rfl ?_
  refine p_I C rfl rfl rfl T_m (Or.inr rfl) rfl ?_
  refine k_aload_n C rfl rfl rfl ?_
  refine k_iload_n C rfl rfl rfl ?_
  refine k_iconst C (x := 0) rfl rfl rfl ?_
  refine k_bipush C (x := 12) rfl rfl rfl ?_
  refine c_SI C e_in rfl rfl rfl rfl rfl rfl rfl (Nat.le_of_ble_eq_true rfl) (Nat.le_of_ble_eq_true rfl) (Nat.le_of_ble_eq_true rfl) ?_
  rintro _ _ _ ⟨hx7, hI8, hL9⟩
  have hx7 := hx7.symm; subst hx7
  have hI8 := hI8.symm; subst hI8; have hL9 := hL9.symm; subst hL9
  refine k_if_eq C (t := 36) rfl rfl rfl (fun c13 => ?_) (fun c13 => ?_)
  · skip
    exact absurd c13 (inN ⟨(n_le (a := 0) (b := r) (by omega) (by omega)).mpr (by omega), (n_le (a := r) (b := 12) (by omega) (by omega)).mpr (by omega)⟩)
  refine k_iload_n C rfl rfl rfl ?_
  refine k_iconst C (x := 1) rfl rfl rfl ?_
  refine k_bipush C (x := 8) rfl rfl rfl ?_
  refine c_SI C e_in rfl rfl rfl rfl rfl rfl rfl (Nat.le_of_ble_eq_true rfl) (Nat.le_of_ble_eq_true rfl) (Nat.le_of_ble_eq_true rfl) ?_
  rintro _ _ _ ⟨hx7, hI8, hL9⟩
  have hx7 := hx7.symm; subst hx7
  have hI8 := hI8.symm; subst hI8; have hL9 := hL9.symm; subst hL9
  refine k_if_eq C (t := 36) rfl rfl rfl (fun c23 => ?_) (fun c23 => ?_)
  · skip
    exact absurd c23 (inN ⟨(n_le (a := 1) (b := e) (by omega) (by omega)).mpr (by omega), (n_le (a := e) (b := 8) (by omega) (by omega)).mpr (by omega)⟩)
  refine k_iload_n C rfl rfl rfl ?_
  refine k_iconst C (x := 0) rfl rfl rfl ?_
  refine k_bipush C (x := 96) rfl rfl rfl ?_
  refine c_SI C e_in rfl rfl rfl rfl rfl rfl rfl (Nat.le_of_ble_eq_true rfl) (Nat.le_of_ble_eq_true rfl) (Nat.le_of_ble_eq_true rfl) ?_
  rintro _ _ _ ⟨hx7, hI8, hL9⟩
  have hx7 := hx7.symm; subst hx7
  have hI8 := hI8.symm; subst hI8; have hL9 := hL9.symm; subst hL9
  refine k_if_ne C (t := 40) rfl rfl rfl (fun c33 => ?_) (fun c33 => ?_)
  · skip
    refine k_iconst C (x := 0) rfl rfl rfl ?_
    refine k_iconst C (x := 1) rfl rfl rfl ?_
    refine c_VI C (e_throwsIf0 T_m rfl) rfl rfl rfl rfl rfl ⟨_, rfl, rfl, T_m, Nat.le_of_ble_eq_true rfl⟩ rfl rfl (Nat.le_of_ble_eq_true rfl) (Nat.le_of_ble_eq_true rfl) (Nat.le_of_ble_eq_true rfl) ?_
    rintro _ _ _ ⟨hx7, hI8, hL9⟩
    have hx7 := hx7.symm; subst hx7
    have hI8 := hI8.symm; subst hI8; have hL9 := hL9.symm; subst hL9
    refine k_if_eq C (t := 50) rfl rfl rfl (fun _ => ?_) (fun c45 => absurd (by decide) c45)
    refine k_iload_n C rfl rfl rfl ?_
    refine k_iload_n C rfl rfl rfl ?_
    refine k_imul C rfl rfl ?_
    refine k_iload_n C rfl rfl rfl ?_
    refine k_isub C rfl rfl ?_
    rw [n_mul]
    refine k_istore C (lw := [(4, .int _), (0, _), (1, .int _), (2, .int _), (3, .int _)]) rfl rfl (Nat.le_of_ble_eq_true rfl) rfl ?_
    refine k_iload C rfl rfl rfl ?_
    refine k_if_lt C (t := 69) rfl rfl rfl (fun c59 => ?_) (fun c59 => ?_)
    · skip
      rw [n_sub hge] at c59; exact absurd c59 (n_nn (by omega))
    refine k_iload C rfl rfl rfl ?_
    rw [n_sub hge]
    refine k_iconst C (x := 2) rfl rfl rfl ?_
    refine k_irem C rfl rfl (by decide) ?_
    rw [n_rem2 (by omega)]
    refine k_if_eq C (t := 73) rfl rfl rfl (fun c66 => ?_) (fun c66 => ?_)
    · skip
      refine k_aload_n C rfl rfl rfl ?_
      refine k_iload C rfl rfl rfl ?_
      refine k_iconst C (x := 2) rfl rfl rfl ?_
      refine k_idiv C rfl rfl (by decide) ?_
      rw [n_div2 (by omega)]
      refine k_iload_n C rfl rfl rfl ?_
      refine k_iload_n C rfl rfl rfl ?_
      refine c_VL C (e_m_ways_nat T_m R_m_21 T_wy N_wy A_wy (w := 0) (congrArg Int32.ofNat hz) rfl rfl (by omega) hr9 he) rfl rfl rfl rfl rfl ⟨_, rfl, rfl, T_m, Nat.le_of_ble_eq_true rfl⟩ rfl rfl (Nat.le_of_ble_eq_true rfl) (Nat.le_of_ble_eq_true rfl) (Nat.le_of_ble_eq_true rfl) ?_
      rintro _ _ L1 ⟨rfl, hI8, hF1⟩
      have hI8 := hI8.symm; subst hI8
      refine k_aload_n C rfl rfl rfl ?_
      refine k_iload C rfl rfl rfl ?_
      refine k_iconst C (x := 2) rfl rfl rfl ?_
      refine k_idiv C rfl rfl (by decide) ?_
      rw [n_div2 (by omega)]
      refine k_iconst C (x := 1) rfl rfl rfl ?_
      refine k_isub C rfl rfl ?_
      refine k_iload_n C rfl rfl rfl ?_
      refine k_iload_n C rfl rfl rfl ?_
      refine c_VL C (e_m_ways_neg  (by rw [hz]; decide)) rfl rfl rfl rfl rfl ⟨_, rfl, rfl, T_m, Nat.le_of_ble_eq_true rfl⟩ rfl rfl (Nat.le_of_ble_eq_true rfl) (Nat.le_of_ble_eq_true rfl) (Nat.le_of_ble_eq_true rfl) ?_
      rintro _ _ _ ⟨hx7, hI8, hL9⟩
      have hx7 := hx7.symm; subst hx7
      have hI8 := hI8.symm; subst hI8; have hL9 := hL9.symm; subst hL9
      refine k_lsub C rfl rfl ?_
      exact k_lret C rfl rfl (Nat.le_of_ble_eq_true rfl) (Nat.le_of_ble_eq_true rfl) ⟨_, _, _, rfl, rfl, ⟨rfl, Fr.tr (Fr.i Fr.rf A_m) hF1, u2_s, (by first | exact IKm.i IKm.rf | exact IKm.i (IKm.i IKm.rf))⟩⟩
    rw [hev] at c66; exact absurd rfl c66
  exact absurd (inN ⟨(n_le (a := 0) (b := n) (by omega) (by omega)).mpr (by omega), (n_le (a := n) (b := 96) (by omega) (by omega)).mpr (by omega)⟩) c33

theorem e_m_count_d {d : Nat} {T N : Nat → Nat} {I : IT} {L : LT} {R : RT} {A : Nat → Prop} {m wy : Nat} {rI eI mI : Int32} (T_m : T m = 13) (A_m : A m) (R_m_21 : R m 21 = some wy) (T_wy : T wy = 21) (N_wy : N wy = 1261) (A_wy : A wy) {r e n : Nat} (hrI : rI = Int32.ofNat r) (heI : eI = Int32.ofNat e) (hmI : mI = Int32.ofNat n) (hr9 : r ≤ 12) (he1 : 1 ≤ e) (he : e ≤ 8) (hm : n ≤ 96) (hge : n ≤ e * r) (hev : (e * r - n) % 2 = 0) (hz : 1 ≤ (e * r - n) / 2) : Ex (d + 3) 259 [.ref m, .int rI, .int eI, .int mI] (T, N, I, L, R) 0 0 (pL T N R (fun x9 I9 L9 => x9 = waysP ((e * r - n) / 2) r e - waysP ((e * r - n) / 2 - 1) r e ∧ Fr A I L I9 L9 ∧ I9 m 0 = 0 ∧ IKm m I I9)) := by
  refine ⟨_, rfl, Nat.le_of_ble_eq_true rfl, fun V C S => ?_⟩
  show V 0 [(0, .ref m), (1, .int rI), (2, .int eI), (3, .int mI)] [] (T, N, I, L, R) 0 0
  subst hrI heI hmI
  have hb : e * r ≤ 96 := Nat.le_trans (Nat.mul_le_mul he hr9) (by decide)
  refine k_aload_n C rfl rfl rfl ?_
  refine k_iconst C (x := 0) rfl rfl rfl ?_
  refine p_I C rfl rfl rfl T_m (Or.inr rfl) rfl ?_
  refine k_aload_n C rfl rfl rfl ?_
  refine k_iload_n C rfl rfl rfl ?_
  refine k_iconst C (x := 0) rfl rfl rfl ?_
  refine k_bipush C (x := 12) rfl rfl rfl ?_
  refine c_SI C e_in rfl rfl rfl rfl rfl rfl rfl (Nat.le_of_ble_eq_true rfl) (Nat.le_of_ble_eq_true rfl) (Nat.le_of_ble_eq_true rfl) ?_
  rintro _ _ _ ⟨hx7, hI8, hL9⟩
  have hx7 := hx7.symm; subst hx7
  have hI8 := hI8.symm; subst hI8; have hL9 := hL9.symm; subst hL9
  refine k_if_eq C (t := 36) rfl rfl rfl (fun c13 => ?_) (fun c13 => ?_)
  · skip
    exact absurd c13 (inN ⟨(n_le (a := 0) (b := r) (by omega) (by omega)).mpr (by omega), (n_le (a := r) (b := 12) (by omega) (by omega)).mpr (by omega)⟩)
  refine k_iload_n C rfl rfl rfl ?_
  refine k_iconst C (x := 1) rfl rfl rfl ?_
  refine k_bipush C (x := 8) rfl rfl rfl ?_
  refine c_SI C e_in rfl rfl rfl rfl rfl rfl rfl (Nat.le_of_ble_eq_true rfl) (Nat.le_of_ble_eq_true rfl) (Nat.le_of_ble_eq_true rfl) ?_
  rintro _ _ _ ⟨hx7, hI8, hL9⟩
  have hx7 := hx7.symm; subst hx7
  have hI8 := hI8.symm; subst hI8; have hL9 := hL9.symm; subst hL9
  refine k_if_eq C (t := 36) rfl rfl rfl (fun c23 => ?_) (fun c23 => ?_)
  · skip
    exact absurd c23 (inN ⟨(n_le (a := 1) (b := e) (by omega) (by omega)).mpr (by omega), (n_le (a := e) (b := 8) (by omega) (by omega)).mpr (by omega)⟩)
  refine k_iload_n C rfl rfl rfl ?_
  refine k_iconst C (x := 0) rfl rfl rfl ?_
  refine k_bipush C (x := 96) rfl rfl rfl ?_
  refine c_SI C e_in rfl rfl rfl rfl rfl rfl rfl (Nat.le_of_ble_eq_true rfl) (Nat.le_of_ble_eq_true rfl) (Nat.le_of_ble_eq_true rfl) ?_
  rintro _ _ _ ⟨hx7, hI8, hL9⟩
  have hx7 := hx7.symm; subst hx7
  have hI8 := hI8.symm; subst hI8; have hL9 := hL9.symm; subst hL9
  refine k_if_ne C (t := 40) rfl rfl rfl (fun c33 => ?_) (fun c33 => ?_)
  · skip
    refine k_iconst C (x := 0) rfl rfl rfl ?_
    refine k_iconst C (x := 1) rfl rfl rfl ?_
    refine c_VI C (e_throwsIf0 T_m rfl) rfl rfl rfl rfl rfl ⟨_, rfl, rfl, T_m, Nat.le_of_ble_eq_true rfl⟩ rfl rfl (Nat.le_of_ble_eq_true rfl) (Nat.le_of_ble_eq_true rfl) (Nat.le_of_ble_eq_true rfl) ?_
    rintro _ _ _ ⟨hx7, hI8, hL9⟩
    have hx7 := hx7.symm; subst hx7
    have hI8 := hI8.symm; subst hI8; have hL9 := hL9.symm; subst hL9
    refine k_if_eq C (t := 50) rfl rfl rfl (fun _ => ?_) (fun c45 => absurd (by decide) c45)
    refine k_iload_n C rfl rfl rfl ?_
    refine k_iload_n C rfl rfl rfl ?_
    refine k_imul C rfl rfl ?_
    refine k_iload_n C rfl rfl rfl ?_
    refine k_isub C rfl rfl ?_
    rw [n_mul]
    refine k_istore C (lw := [(4, .int _), (0, _), (1, .int _), (2, .int _), (3, .int _)]) rfl rfl (Nat.le_of_ble_eq_true rfl) rfl ?_
    refine k_iload C rfl rfl rfl ?_
    refine k_if_lt C (t := 69) rfl rfl rfl (fun c59 => ?_) (fun c59 => ?_)
    · skip
      rw [n_sub hge] at c59; exact absurd c59 (n_nn (by omega))
    refine k_iload C rfl rfl rfl ?_
    rw [n_sub hge]
    refine k_iconst C (x := 2) rfl rfl rfl ?_
    refine k_irem C rfl rfl (by decide) ?_
    rw [n_rem2 (by omega)]
    refine k_if_eq C (t := 73) rfl rfl rfl (fun c66 => ?_) (fun c66 => ?_)
    · skip
      refine k_aload_n C rfl rfl rfl ?_
      refine k_iload C rfl rfl rfl ?_
      refine k_iconst C (x := 2) rfl rfl rfl ?_
      refine k_idiv C rfl rfl (by decide) ?_
      rw [n_div2 (by omega)]
      refine k_iload_n C rfl rfl rfl ?_
      refine k_iload_n C rfl rfl rfl ?_
      refine c_VL C (e_m_ways_nat T_m R_m_21 T_wy N_wy A_wy (w := (e * r - n) / 2) rfl rfl rfl (by omega) hr9 he) rfl rfl rfl rfl rfl ⟨_, rfl, rfl, T_m, Nat.le_of_ble_eq_true rfl⟩ rfl rfl (Nat.le_of_ble_eq_true rfl) (Nat.le_of_ble_eq_true rfl) (Nat.le_of_ble_eq_true rfl) ?_
      rintro _ _ L1 ⟨rfl, hI8, hF1⟩
      have hI8 := hI8.symm; subst hI8
      refine k_aload_n C rfl rfl rfl ?_
      refine k_iload C rfl rfl rfl ?_
      refine k_iconst C (x := 2) rfl rfl rfl ?_
      refine k_idiv C rfl rfl (by decide) ?_
      rw [n_div2 (by omega)]
      refine k_iconst C (x := 1) rfl rfl rfl ?_
      refine k_isub C rfl rfl ?_
      rw [show (1 : Int32) = Int32.ofNat 1 from rfl, n_sub (by omega)]
      refine k_iload_n C rfl rfl rfl ?_
      refine k_iload_n C rfl rfl rfl ?_
      refine c_VL C (e_m_ways_nat T_m R_m_21 T_wy N_wy A_wy (w := (e * r - n) / 2 - 1) rfl rfl rfl (by omega) hr9 he) rfl rfl rfl rfl rfl ⟨_, rfl, rfl, T_m, Nat.le_of_ble_eq_true rfl⟩ rfl rfl (Nat.le_of_ble_eq_true rfl) (Nat.le_of_ble_eq_true rfl) (Nat.le_of_ble_eq_true rfl) ?_
      rintro _ _ L2 ⟨rfl, hI8, hF2⟩
      have hI8 := hI8.symm; subst hI8
      refine k_lsub C rfl rfl ?_
      exact k_lret C rfl rfl (Nat.le_of_ble_eq_true rfl) (Nat.le_of_ble_eq_true rfl) ⟨_, _, _, rfl, rfl, ⟨rfl, Fr.tr (Fr.i Fr.rf A_m) (Fr.tr hF1 hF2), u2_s, (by first | exact IKm.i IKm.rf | exact IKm.i (IKm.i IKm.rf))⟩⟩
    rw [hev] at c66; exact absurd rfl c66
  exact absurd (inN ⟨(n_le (a := 0) (b := n) (by omega) (by omega)).mpr (by omega), (n_le (a := n) (b := 96) (by omega) (by omega)).mpr (by omega)⟩) c33

