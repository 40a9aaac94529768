-- 39.60.rrow.lean.txt
section
/-! the rows of the reference, any state -/
def bk (I : IT) (a s n : Nat) (f : Nat → Int32) : IT := fun b j => if b = a ∧ s ≤ j ∧ j < s + n then f (j - s) else I b j
theorem bk_0 {I : IT} {a s : Nat} {f : Nat → Int32} : bk I a s 0 f = I := by
  funext b j; unfold bk; rw [if_neg (fun h => by omega)]
theorem bk_s {I : IT} {a s n : Nat} {f : Nat → Int32} : u2 (bk I a s n f) a (s + n) (f n) = bk I a s (n + 1) f := by
  funext b j
  by_cases e : b = a ∧ j = s + n
  · obtain ⟨rfl, rfl⟩ := e
    rw [u2_s]; unfold bk
    rw [if_pos ⟨rfl, by omega, by omega⟩, Nat.add_sub_cancel_left]
  · have h1 : u2 (bk I a s n f) a (s + n) (f n) b j = bk I a s n f b j := if_neg e
    rw [h1]; unfold bk
    by_cases q : b = a ∧ s ≤ j ∧ j < s + n
    · rw [if_pos q, if_pos ⟨q.1, q.2.1, by omega⟩]
    · rw [if_neg q, if_neg (fun z => q ⟨z.1, z.2.1, by have : j ≠ s + n := fun y => e ⟨z.1, y⟩; omega⟩)]
theorem bk_a {I : IT} {a s n b j : Nat} {f : Nat → Int32} (h : b ≠ a) : bk I a s n f b j = I b j := if_neg (fun z => h z.1)
theorem bk_o {I : IT} {a s n j : Nat} {f : Nat → Int32} (h : ¬ (s ≤ j ∧ j < s + n)) : bk I a s n f a j = I a j := if_neg (fun z => h z.2)
theorem bk_i {I : IT} {a s n k : Nat} {f : Nat → Int32} (h : k < n) : bk I a s n f a (s + k) = f k := by
  unfold bk; rw [if_pos ⟨rfl, by omega, by omega⟩, Nat.add_sub_cancel_left]
theorem hvx {f : Nat → Int32} {j x : Int32} {n : Nat} (h : j.toNatClampNeg = n) (g : f n = x) : f j.toNatClampNeg = x := by rw [h]; exact g
theorem i41 {r j : Nat} : (41 : Int32) * Int32.ofNat r + Int32.ofNat j = Int32.ofNat (41 * r + j) := by
  rw [show (41 : Int32) = Int32.ofNat 41 from rfl, n_mul, n_add]
theorem i10 {f : Nat} : (6 : Int32) + 10 * Int32.ofNat f = Int32.ofNat (6 + 10 * f) := by
  rw [show (10 : Int32) = Int32.ofNat 10 from rfl, show (6 : Int32) = Int32.ofNat 6 from rfl, n_mul, n_add]
theorem e_m_of {d : Nat} {T N : Nat → Nat} {I : IT} {L : LT} {R : RT} {m nu : Nat} {a b : Int32} (T_m : T m = 13) (R_m_5 : R m 5 = some nu) (T_nu : T nu = 20) (N_nu : N nu = 1968) {r j : Nat} (ha : a = Int32.ofNat r) (hb : b = Int32.ofNat j) (h : 41 * r + j < 1968) : Ex (d + 1) 198 [.ref m, .int a, .int b] (T, N, I, L, R) 0 0 (pI T N R (fun x9 I9 L9 => x9 = (I nu (41 * r + j)) ∧ I9 = I ∧ L9 = L)) := by
  refine ⟨_, rfl, Nat.le_of_ble_eq_true rfl, fun V C S => ?_⟩
  show V 0 [(0, .ref m), (1, .int a), (2, .int b)] [] (T, N, I, L, R) 0 0
  subst ha; subst hb
  refine k_aload_n C rfl rfl rfl ?_
  refine g_R C rfl rfl rfl T_m rfl R_m_5 ?_
  refine k_bipush C (x := 41) rfl rfl rfl ?_
  refine k_iload_n C rfl rfl rfl ?_
  refine k_imul C rfl rfl ?_
  refine k_iload_n C rfl rfl rfl ?_
  refine k_iadd C rfl rfl ?_
  rw [i41]
  refine a_I C rfl rfl T_nu (vin (n := 41 * r + j) rfl (by rw [N_nu]; omega) (by rw [N_nu]; exact Nat.le_of_ble_eq_true rfl)) (by rw [n_nat (by omega)]) ?_
  exact k_iret C rfl (Or.inl rfl) (Nat.le_of_ble_eq_true rfl) (Nat.le_of_ble_eq_true rfl) ⟨_, _, _, rfl, rfl, ⟨rfl, rfl, rfl⟩⟩

theorem e_m_put {d : Nat} {T N : Nat → Nat} {I : IT} {L : LT} {R : RT} {m nu : Nat} {a b v : Int32} (T_m : T m = 13) (R_m_5 : R m 5 = some nu) (T_nu : T nu = 20) (N_nu : N nu = 1968) {r j : Nat} (ha : a = Int32.ofNat r) (hb : b = Int32.ofNat j) (h : 41 * r + j < 1968) : Ex (d + 1) 199 [.ref m, .int a, .int b, .int v] (T, N, I, L, R) 0 0 (pV T N R (fun I9 L9 => I9 = (u2 I nu (41 * r + j) v) ∧ L9 = (L))) := by
  refine ⟨_, rfl, Nat.le_of_ble_eq_true rfl, fun V C S => ?_⟩
  show V 0 [(0, .ref m), (1, .int a), (2, .int b), (3, .int v)] [] (T, N, I, L, R) 0 0
  subst ha; subst hb
  refine k_aload_n C rfl rfl rfl ?_
  refine g_R C rfl rfl rfl T_m rfl R_m_5 ?_
  refine k_bipush C (x := 41) rfl rfl rfl ?_
  refine k_iload_n C rfl rfl rfl ?_
  refine k_imul C rfl rfl ?_
  refine k_iload_n C rfl rfl rfl ?_
  refine k_iadd C rfl rfl ?_
  rw [i41]
  refine k_iload_n C rfl rfl rfl ?_
  refine s_I C rfl rfl T_nu (vin (n := 41 * r + j) rfl (by rw [N_nu]; omega) (by rw [N_nu]; exact Nat.le_of_ble_eq_true rfl)) (n_nat (by omega)) ?_
  exact k_vret C rfl rfl (Nat.le_of_ble_eq_true rfl) (Nat.le_of_ble_eq_true rfl) ⟨_, _, rfl, rfl, ⟨rfl, rfl⟩⟩

theorem e_m_formAt {d : Nat} {T N : Nat → Nat} {I : IT} {L : LT} {R : RT} {a : Int32}  {f : Nat} (ha : a = Int32.ofNat f) : Ex (d + 1) 187 [.int a] (T, N, I, L, R) 0 0 (pI T N R (fun x9 I9 L9 => x9 = (Int32.ofNat (6 + 10 * f)) ∧ I9 = I ∧ L9 = L)) := by
  refine ⟨_, rfl, Nat.le_of_ble_eq_true rfl, fun V C S => ?_⟩
  show V 0 [(0, .int a)] [] (T, N, I, L, R) 0 0
  subst ha
  refine k_bipush C (x := 6) rfl rfl rfl ?_
  refine k_bipush C (x := 10) rfl rfl rfl ?_
  refine k_iload_n C rfl rfl rfl ?_
  refine k_imul C rfl rfl ?_
  refine k_iadd C rfl rfl ?_
  exact k_iret C rfl (Or.inl rfl) (Nat.le_of_ble_eq_true rfl) (Nat.le_of_ble_eq_true rfl) ⟨_, _, _, rfl, rfl, ⟨i10, rfl, rfl⟩⟩

theorem e_m_degreeOf {d : Nat} {T N : Nat → Nat} {I : IT} {L : LT} {R : RT} {m w : Nat} {a : Int32} (T_m : T m = 13) (R_m_1 : R m 1 = some w) (T_w : T w = 20) (N_w : N w = 4007) {f : Nat} (ha : a = Int32.ofNat f) (h : f < 16) : Ex (d + 2) 188 [.ref m, .int a] (T, N, I, L, R) 0 0 (pI T N R (fun x9 I9 L9 => x9 = (I w (6 + 10 * f)) ∧ I9 = I ∧ L9 = L)) := by
  refine ⟨_, rfl, Nat.le_of_ble_eq_true rfl, fun V C S => ?_⟩
  show V 0 [(0, .ref m), (1, .int a)] [] (T, N, I, L, R) 0 0
  refine k_aload_n C rfl rfl rfl ?_
  refine g_R C rfl rfl rfl T_m rfl R_m_1 ?_
  refine k_iload_n C rfl rfl rfl ?_
  refine c_SI C (e_m_formAt  ha) rfl rfl rfl rfl rfl rfl rfl (Nat.le_of_ble_eq_true rfl) (Nat.le_of_ble_eq_true rfl) (Nat.le_of_ble_eq_true rfl) ?_
  rintro _ _ _ ⟨hx7, hI8, hL9⟩
  have hx7 := hx7.symm; subst hx7
  have hI8 := hI8.symm; subst hI8; have hL9 := hL9.symm; subst hL9
  refine a_I C rfl rfl T_w (vin (n := 6 + 10 * f) rfl (by rw [N_w]; omega) (by rw [N_w]; exact Nat.le_of_ble_eq_true rfl)) (by rw [n_nat (by omega)]) ?_
  exact k_iret C rfl (Or.inl rfl) (Nat.le_of_ble_eq_true rfl) (Nat.le_of_ble_eq_true rfl) ⟨_, _, _, rfl, rfl, ⟨rfl, rfl, rfl⟩⟩

theorem e_m_numberOf {d : Nat} {T N : Nat → Nat} {I : IT} {L : LT} {R : RT} {m w : Nat} {a b : Int32} (T_m : T m = 13) (R_m_1 : R m 1 = some w) (T_w : T w = 20) (N_w : N w = 4007) {f k : Nat} (ha : a = Int32.ofNat f) (hb : b = Int32.ofNat k) (h : f < 16) (hk : k ≤ 8) : Ex (d + 2) 189 [.ref m, .int a, .int b] (T, N, I, L, R) 0 0 (pI T N R (fun x9 I9 L9 => x9 = (I w (6 + 10 * f + 1 + k)) ∧ I9 = I ∧ L9 = L)) := by
  refine ⟨_, rfl, Nat.le_of_ble_eq_true rfl, fun V C S => ?_⟩
  show V 0 [(0, .ref m), (1, .int a), (2, .int b)] [] (T, N, I, L, R) 0 0
  subst hb
  refine k_aload_n C rfl rfl rfl ?_
  refine g_R C rfl rfl rfl T_m rfl R_m_1 ?_
  refine k_iload_n C rfl rfl rfl ?_
  refine c_SI C (e_m_formAt  ha) rfl rfl rfl rfl rfl rfl rfl (Nat.le_of_ble_eq_true rfl) (Nat.le_of_ble_eq_true rfl) (Nat.le_of_ble_eq_true rfl) ?_
  rintro _ _ _ ⟨hx7, hI8, hL9⟩
  have hx7 := hx7.symm; subst hx7
  have hI8 := hI8.symm; subst hI8; have hL9 := hL9.symm; subst hL9
  refine k_iconst C (x := 1) rfl rfl rfl ?_
  refine k_iadd C rfl rfl ?_
  refine k_iload_n C rfl rfl rfl ?_
  refine k_iadd C rfl rfl ?_
  rw [n_s, n_add]
  refine a_I C rfl rfl T_w (vin (n := 6 + 10 * f + 1 + k) rfl (by rw [N_w]; omega) (by rw [N_w]; exact Nat.le_of_ble_eq_true rfl)) (by rw [n_nat (by omega)]) ?_
  exact k_iret C rfl (Or.inl rfl) (Nat.le_of_ble_eq_true rfl) (Nat.le_of_ble_eq_true rfl) ⟨_, _, _, rfl, rfl, ⟨rfl, rfl, rfl⟩⟩

theorem e_m_takes {d : Nat} {T N : Nat → Nat} {I : IT} {L : LT} {R : RT} {m w nu dg : Nat} {a b : Int32} (T_m : T m = 13) (R_m_1 : R m 1 = some w) (T_w : T w = 20) (N_w : N w = 4007) (R_m_5 : R m 5 = some nu) (T_nu : T nu = 20) (N_nu : N nu = 1968) (R_m_4 : R m 4 = some dg) (T_dg : T dg = 20) (N_dg : N dg = 48) {r f D : Nat} (ha : a = Int32.ofNat r) (hb : b = Int32.ofNat f) (hr : r < 48) (hf : f < 16) (hD : I w (6 + 10 * f) = Int32.ofNat D) (hD8 : D ≤ 8) (hnd : nu ≠ dg) (hwn : w ≠ nu) (hwd : w ≠ dg) : Ex (d + 3) 200 [.ref m, .int a, .int b] (T, N, I, L, R) 0 0 (pV T N R (fun I9 L9 => I9 = (bk (u2 I dg r (Int32.ofNat D)) nu (41 * r) (D + 1) (fun k => I w (6 + 10 * f + 1 + k))) ∧ L9 = (L))) := by
  refine ⟨_, rfl, Nat.le_of_ble_eq_true rfl, fun V C S => ?_⟩
  show V 0 [(0, .ref m), (1, .int a), (2, .int b)] [] (T, N, I, L, R) 0 0
  subst ha; subst hb
  have loop : ∀ (s i : Nat), s = D + 1 - i → i ≤ D + 1 → V 13 [(3, .int (Int32.ofNat i)), (0, .ref m), (1, .int (Int32.ofNat r)), (2, .int (Int32.ofNat f))] [] (T, N, (bk (u2 I dg r (Int32.ofNat D)) nu (41 * r) i (fun k => I w (6 + 10 * f + 1 + k))), L, R) 0 0 := by
    intro s
    induction s using Nat.strongRecOn with
    | _ s ih =>
      intro i hs hi
      refine k_iload_n C rfl rfl rfl ?_
      refine k_aload_n C rfl rfl rfl ?_
      refine g_R C rfl rfl rfl T_m rfl R_m_4 ?_
      refine k_iload_n C rfl rfl rfl ?_
      refine a_I C rfl rfl T_dg (vin (n := r) rfl (by rw [N_dg]; omega) (by rw [N_dg]; exact Nat.le_of_ble_eq_true rfl)) (hvx (n_nat (by omega)) ((bk_a (Ne.symm hnd)).trans u2_s)) ?_
      refine k_icmp_gt C (t := 41) rfl rfl rfl (fun c20 => ?_) (fun c20 => ?_)
      · skip
        have hi2 : i = D + 1 := by have := (n_lt (by omega) (by omega)).mp c20; omega
        subst hi2
        exact k_vret C rfl rfl (Nat.le_of_ble_eq_true rfl) (Nat.le_of_ble_eq_true rfl) ⟨_, _, rfl, rfl, rfl, rfl⟩
      have hi2 : i < D + 1 := Nat.lt_succ_of_le (Nat.le_of_not_lt (fun h => c20 ((n_lt (by omega) (by omega)).mpr h)))
      refine k_aload_n C rfl rfl rfl ?_
      refine k_iload_n C rfl rfl rfl ?_
      refine k_iload_n C rfl rfl rfl ?_
      refine k_aload_n C rfl rfl rfl ?_
      refine k_iload_n C rfl rfl rfl ?_
      refine k_iload_n C rfl rfl rfl ?_
      refine c_VI C (e_m_numberOf T_m R_m_1 T_w N_w rfl rfl hf (by omega)) rfl rfl rfl rfl rfl ⟨_, rfl, rfl, T_m, Nat.le_of_ble_eq_true rfl⟩ rfl rfl (Nat.le_of_ble_eq_true rfl) (Nat.le_of_ble_eq_true rfl) (Nat.le_of_ble_eq_true rfl) ?_
      rintro _ _ _ ⟨hx7, hI8, hL9⟩
      have hx7 := hx7.symm; subst hx7
      have hI8 := hI8.symm; subst hI8; have hL9 := hL9.symm; subst hL9
      rw [bk_a hwn, u2_a hwd]
      refine c_VV C (e_m_put T_m R_m_5 T_nu N_nu rfl rfl (by omega)) rfl rfl rfl rfl rfl ⟨_, rfl, rfl, T_m, Nat.le_of_ble_eq_true rfl⟩ rfl rfl (Nat.le_of_ble_eq_true rfl) (Nat.le_of_ble_eq_true rfl) (Nat.le_of_ble_eq_true rfl) ?_
      rintro _ _ ⟨hI8, hL9⟩
      have hI8 := hI8.symm; subst hI8; have hL9 := hL9.symm; subst hL9
      rw [bk_s (f := (fun k => I w (6 + 10 * f + 1 + k)))]
      refine k_inc1 C (lw := [(3, .int _), (0, _), (1, .int _), (2, .int _)]) rfl rfl rfl (Nat.le_of_ble_eq_true rfl) rfl ?_
      refine k_goto C (pc2 := 13) rfl rfl ?_
      rw [n_s]
      exact ih (D + 1 - (i + 1)) (by omega) (i + 1) rfl (by omega)
  refine k_aload_n C rfl rfl rfl ?_
  refine g_R C rfl rfl rfl T_m rfl R_m_4 ?_
  refine k_iload_n C rfl rfl rfl ?_
  refine k_aload_n C rfl rfl rfl ?_
  refine k_iload_n C rfl rfl rfl ?_
  refine c_VI C (e_m_degreeOf T_m R_m_1 T_w N_w rfl hf) rfl rfl rfl rfl rfl ⟨_, rfl, rfl, T_m, Nat.le_of_ble_eq_true rfl⟩ rfl rfl (Nat.le_of_ble_eq_true rfl) (Nat.le_of_ble_eq_true rfl) (Nat.le_of_ble_eq_true rfl) ?_
  rintro _ _ _ ⟨hx7, hI8, hL9⟩
  have hx7 := hx7.symm; subst hx7
  have hI8 := hI8.symm; subst hI8; have hL9 := hL9.symm; subst hL9
  rw [hD]
  refine s_I C rfl rfl T_dg (vin (n := r) rfl (by rw [N_dg]; omega) (by rw [N_dg]; exact Nat.le_of_ble_eq_true rfl)) (n_nat (by omega)) ?_
  refine k_iconst C (x := 0) rfl rfl rfl ?_
  refine k_istore_n C (lw := [(3, .int _), (0, _), (1, .int _), (2, .int _)]) rfl rfl (Nat.le_of_ble_eq_true rfl) rfl ?_
  have h0 := loop (D + 1) 0 rfl (Nat.zero_le _)
  rw [bk_0] at h0
  exact h0

theorem e_m_copies {d : Nat} {T N : Nat → Nat} {I : IT} {L : LT} {R : RT} {m nu dg : Nat} {a b : Int32} (T_m : T m = 13) (R_m_5 : R m 5 = some nu) (T_nu : T nu = 20) (N_nu : N nu = 1968) (R_m_4 : R m 4 = some dg) (T_dg : T dg = 20) (N_dg : N dg = 48) {r t D : Nat} (ha : a = Int32.ofNat r) (hb : b = Int32.ofNat t) (hr : r < 48) (ht : t < 48) (hD : I dg r = Int32.ofNat D) (hD8 : D ≤ 40) (hnd : nu ≠ dg) : Ex (d + 2) 201 [.ref m, .int a, .int b] (T, N, I, L, R) 0 0 (pV T N R (fun I9 L9 => I9 = (bk (u2 I dg t (Int32.ofNat D)) nu (41 * t) (D + 1) (fun k => I nu (41 * r + k))) ∧ L9 = (L))) := by
  refine ⟨_, rfl, Nat.le_of_ble_eq_true rfl, fun V C S => ?_⟩
  show V 0 [(0, .ref m), (1, .int a), (2, .int b)] [] (T, N, I, L, R) 0 0
  subst ha; subst hb
  have hDr : u2 I dg t (Int32.ofNat D) dg r = Int32.ofNat D := by
    by_cases e : r = t
    · subst e; exact u2_s
    · exact (u2_k e).trans hD
  have loop : ∀ (s i : Nat), s = D + 1 - i → i ≤ D + 1 → V 14 [(3, .int (Int32.ofNat i)), (0, .ref m), (1, .int (Int32.ofNat r)), (2, .int (Int32.ofNat t))] [] (T, N, (bk (u2 I dg t (Int32.ofNat D)) nu (41 * t) i (fun k => I nu (41 * r + k))), L, R) 0 0 := by
    intro s
    induction s using Nat.strongRecOn with
    | _ s ih =>
      intro i hs hi
      refine k_iload_n C rfl rfl rfl ?_
      refine k_aload_n C rfl rfl rfl ?_
      refine g_R C rfl rfl rfl T_m rfl R_m_4 ?_
      refine k_iload_n C rfl rfl rfl ?_
      refine a_I C rfl rfl T_dg (vin (n := r) rfl (by rw [N_dg]; omega) (by rw [N_dg]; exact Nat.le_of_ble_eq_true rfl)) (hvx (n_nat (by omega)) ((bk_a (Ne.symm hnd)).trans hDr)) ?_
      refine k_icmp_gt C (t := 42) rfl rfl rfl (fun c21 => ?_) (fun c21 => ?_)
      · skip
        have hi2 : i = D + 1 := by have := (n_lt (by omega) (by omega)).mp c21; omega
        subst hi2
        exact k_vret C rfl rfl (Nat.le_of_ble_eq_true rfl) (Nat.le_of_ble_eq_true rfl) ⟨_, _, rfl, rfl, rfl, rfl⟩
      have hi2 : i < D + 1 := Nat.lt_succ_of_le (Nat.le_of_not_lt (fun h => c21 ((n_lt (by omega) (by omega)).mpr h)))
      refine k_aload_n C rfl rfl rfl ?_
      refine k_iload_n C rfl rfl rfl ?_
      refine k_iload_n C rfl rfl rfl ?_
      refine k_aload_n C rfl rfl rfl ?_
      refine k_iload_n C rfl rfl rfl ?_
      refine k_iload_n C rfl rfl rfl ?_
      refine c_VI C (e_m_of T_m R_m_5 T_nu N_nu rfl rfl (by omega)) rfl rfl rfl rfl rfl ⟨_, rfl, rfl, T_m, Nat.le_of_ble_eq_true rfl⟩ rfl rfl (Nat.le_of_ble_eq_true rfl) (Nat.le_of_ble_eq_true rfl) (Nat.le_of_ble_eq_true rfl) ?_
      rintro _ _ _ ⟨hx7, hI8, hL9⟩
      have hx7 := hx7.symm; subst hx7
      have hI8 := hI8.symm; subst hI8; have hL9 := hL9.symm; subst hL9
      rw [bk_o (by omega), u2_a hnd]
      refine c_VV C (e_m_put T_m R_m_5 T_nu N_nu rfl rfl (by omega)) rfl rfl rfl rfl rfl ⟨_, rfl, rfl, T_m, Nat.le_of_ble_eq_true rfl⟩ rfl rfl (Nat.le_of_ble_eq_true rfl) (Nat.le_of_ble_eq_true rfl) (Nat.le_of_ble_eq_true rfl) ?_
      rintro _ _ ⟨hI8, hL9⟩
      have hI8 := hI8.symm; subst hI8; have hL9 := hL9.symm; subst hL9
      rw [bk_s (f := (fun k => I nu (41 * r + k)))]
      refine k_inc1 C (lw := [(3, .int _), (0, _), (1, .int _), (2, .int _)]) rfl rfl rfl (Nat.le_of_ble_eq_true rfl) rfl ?_
      refine k_goto C (pc2 := 14) rfl rfl ?_
      rw [n_s]
      exact ih (D + 1 - (i + 1)) (by omega) (i + 1) rfl (by omega)
  refine k_aload_n C rfl rfl rfl ?_
  refine g_R C rfl rfl rfl T_m rfl R_m_4 ?_
  refine k_iload_n C rfl rfl rfl ?_
  refine k_aload_n C rfl rfl rfl ?_
  refine g_R C rfl rfl rfl T_m rfl R_m_4 ?_
  refine k_iload_n C rfl rfl rfl ?_
  refine a_I C rfl rfl T_dg (vin (n := r) rfl (by rw [N_dg]; omega) (by rw [N_dg]; exact Nat.le_of_ble_eq_true rfl)) (hvx (n_nat (by omega)) hD) ?_
  refine s_I C rfl rfl T_dg (vin (n := t) rfl (by rw [N_dg]; omega) (by rw [N_dg]; exact Nat.le_of_ble_eq_true rfl)) (n_nat (by omega)) ?_
  refine k_iconst C (x := 0) rfl rfl rfl ?_
  refine k_istore_n C (lw := [(3, .int _), (0, _), (1, .int _), (2, .int _)]) rfl rfl (Nat.le_of_ble_eq_true rfl) rfl ?_
  have h0 := loop (D + 1) 0 rfl (Nat.zero_le _)
  rw [bk_0] at h0
  exact h0

theorem e_m_clears {d : Nat} {T N : Nat → Nat} {I : IT} {L : LT} {R : RT} {m nu dg : Nat} {a b : Int32} (T_m : T m = 13) (R_m_5 : R m 5 = some nu) (T_nu : T nu = 20) (N_nu : N nu = 1968) (R_m_4 : R m 4 = some dg) (T_dg : T dg = 20) (N_dg : N dg = 48) {r D : Nat} (ha : a = Int32.ofNat r) (hb : b = Int32.ofNat D) (hr : r < 48) (hD8 : D ≤ 40) : Ex (d + 2) 202 [.ref m, .int a, .int b] (T, N, I, L, R) 0 0 (pV T N R (fun I9 L9 => I9 = (bk (u2 I dg r (Int32.ofNat D)) nu (41 * r) (D + 1) (fun _ => (0 : Int32))) ∧ L9 = (L))) := by
  refine ⟨_, rfl, Nat.le_of_ble_eq_true rfl, fun V C S => ?_⟩
  show V 0 [(0, .ref m), (1, .int a), (2, .int b)] [] (T, N, I, L, R) 0 0
  subst ha; subst hb
  have loop : ∀ (s i : Nat), s = D + 1 - i → i ≤ D + 1 → V 9 [(3, .int (Int32.ofNat i)), (0, .ref m), (1, .int (Int32.ofNat r)), (2, .int (Int32.ofNat D))] [] (T, N, (bk (u2 I dg r (Int32.ofNat D)) nu (41 * r) i (fun _ => (0 : Int32))), L, R) 0 0 := by
    intro s
    induction s using Nat.strongRecOn with
    | _ s ih =>
      intro i hs hi
      refine k_iload_n C rfl rfl rfl ?_
      refine k_iload_n C rfl rfl rfl ?_
      refine k_icmp_gt C (t := 27) rfl rfl rfl (fun c11 => ?_) (fun c11 => ?_)
      · skip
        have hi2 : i = D + 1 := by have := (n_lt (by omega) (by omega)).mp c11; omega
        subst hi2
        exact k_vret C rfl rfl (Nat.le_of_ble_eq_true rfl) (Nat.le_of_ble_eq_true rfl) ⟨_, _, rfl, rfl, rfl, rfl⟩
      have hi2 : i < D + 1 := Nat.lt_succ_of_le (Nat.le_of_not_lt (fun h => c11 ((n_lt (by omega) (by omega)).mpr h)))
      refine k_aload_n C rfl rfl rfl ?_
      refine k_iload_n C rfl rfl rfl ?_
      refine k_iload_n C rfl rfl rfl ?_
      refine k_iconst C (x := 0) rfl rfl rfl ?_
      refine c_VV C (e_m_put T_m R_m_5 T_nu N_nu rfl rfl (by omega)) rfl rfl rfl rfl rfl ⟨_, rfl, rfl, T_m, Nat.le_of_ble_eq_true rfl⟩ rfl rfl (Nat.le_of_ble_eq_true rfl) (Nat.le_of_ble_eq_true rfl) (Nat.le_of_ble_eq_true rfl) ?_
      rintro _ _ ⟨hI8, hL9⟩
      have hI8 := hI8.symm; subst hI8; have hL9 := hL9.symm; subst hL9
      have hbs := bk_s (I := u2 I dg r (Int32.ofNat D)) (a := nu) (s := 41 * r) (n := i) (f := (fun _ => (0 : Int32)))
      rw [hbs]
      refine k_inc1 C (lw := [(3, .int _), (0, _), (1, .int _), (2, .int _)]) rfl rfl rfl (Nat.le_of_ble_eq_true rfl) rfl ?_
      refine k_goto C (pc2 := 9) rfl rfl ?_
      rw [n_s]
      exact ih (D + 1 - (i + 1)) (by omega) (i + 1) rfl (by omega)
  refine k_aload_n C rfl rfl rfl ?_
  refine g_R C rfl rfl rfl T_m rfl R_m_4 ?_
  refine k_iload_n C rfl rfl rfl ?_
  refine k_iload_n C rfl rfl rfl ?_
  refine s_I C rfl rfl T_dg (vin (n := r) rfl (by rw [N_dg]; omega) (by rw [N_dg]; exact Nat.le_of_ble_eq_true rfl)) (n_nat (by omega)) ?_
  refine k_iconst C (x := 0) rfl rfl rfl ?_
  refine k_istore_n C (lw := [(3, .int _), (0, _), (1, .int _), (2, .int _)]) rfl rfl (Nat.le_of_ble_eq_true rfl) rfl ?_
  have h0 := loop (D + 1) 0 rfl (Nat.zero_le _)
  rw [bk_0] at h0
  exact h0

def nz (I : IT) (nu r n : Nat) : Int32 := if ∀ k, k < n → I nu (41 * r + k) = 0 then 1 else 0
theorem nz_a {I : IT} {nu r n : Nat} (h : nz I nu r n = 0) : nz I nu r (n + 1) = 0 := by
  unfold nz at *
  by_cases q : ∀ k, k < n → I nu (41 * r + k) = 0
  · rw [if_pos q] at h; exact absurd h (by decide)
  · exact if_neg (fun z => q (fun k hk => z k (by omega)))
theorem nz_b {I : IT} {nu r n : Nat} (h : ¬ I nu (41 * r + n) = 0) : nz I nu r (n + 1) = 0 := if_neg (fun z => h (z n (by omega)))
theorem nz_c {I : IT} {nu r n : Nat} (h : ¬ nz I nu r n = 0) (h2 : I nu (41 * r + n) = 0) : nz I nu r (n + 1) = 1 := by
  unfold nz at *
  by_cases q : ∀ k, k < n → I nu (41 * r + k) = 0
  · refine if_pos (fun k hk => ?_)
    by_cases e : k = n
    · rw [e]; exact h2
    · exact q k (by omega)
  · exact absurd (if_neg q) h
theorem nz_01 {I : IT} {nu r n : Nat} {z : Int32} (h : z = nz I nu r n) : z = 0 ∨ z = 1 := by
  rw [h]; unfold nz; by_cases q : ∀ k, k < n → I nu (41 * r + k) = 0
  · exact Or.inr (if_pos q)
  · exact Or.inl (if_neg q)
theorem e_m_isNought {d : Nat} {T N : Nat → Nat} {I : IT} {L : LT} {R : RT} {m nu dg : Nat} {a : Int32} (T_m : T m = 13) (R_m_5 : R m 5 = some nu) (T_nu : T nu = 20) (N_nu : N nu = 1968) (R_m_4 : R m 4 = some dg) (T_dg : T dg = 20) (N_dg : N dg = 48) {r D : Nat} (ha : a = Int32.ofNat r) (hr : r < 48) (hD : I dg r = Int32.ofNat D) (hD8 : D ≤ 40) : Ex (d + 2) 203 [.ref m, .int a] (T, N, I, L, R) 0 0 (pI T N R (fun x9 I9 L9 => x9 = (nz I nu r (D + 1)) ∧ I9 = I ∧ L9 = L)) := by
  refine ⟨_, rfl, Nat.le_of_ble_eq_true rfl, fun V C S => ?_⟩
  show V 0 [(0, .ref m), (1, .int a)] [] (T, N, I, L, R) 0 0
  subst ha
  have loop : ∀ (s i : Nat) (z : Int32), s = D + 1 - i → i ≤ D + 1 → z = nz I nu r i → V 4 [(3, .int (Int32.ofNat i)), (2, .int z), (0, .ref m), (1, .int (Int32.ofNat r))] [] (T, N, I, L, R) 0 0 := by
    intro s
    induction s using Nat.strongRecOn with
    | _ s ih =>
      intro i z hs hi hz
      refine k_iload_n C rfl rfl rfl ?_
      refine k_aload_n C rfl rfl rfl ?_
      refine g_R C rfl rfl rfl T_m rfl R_m_4 ?_
      refine k_iload_n C rfl rfl rfl ?_
      refine a_I C rfl rfl T_dg (vin (n := r) rfl (by rw [N_dg]; omega) (by rw [N_dg]; exact Nat.le_of_ble_eq_true rfl)) (hvx (n_nat (by omega)) (hD)) ?_
      refine k_icmp_gt C (t := 39) rfl rfl rfl (fun c11 => ?_) (fun c11 => ?_)
      · skip
        have hi2 : i = D + 1 := by have := (n_lt (by omega) (by omega)).mp c11; omega
        subst hi2
        refine k_iload_n C rfl rfl rfl ?_
        exact k_iret C rfl (Or.inr ⟨rfl, nz_01 hz⟩) (Nat.le_of_ble_eq_true rfl) (Nat.le_of_ble_eq_true rfl) ⟨_, _, _, rfl, rfl, hz, rfl, rfl⟩
      have hi2 : i < D + 1 := Nat.lt_succ_of_le (Nat.le_of_not_lt (fun h => c11 ((n_lt (by omega) (by omega)).mpr h)))
      refine k_iload_n C rfl rfl rfl ?_
      refine k_if_eq C (t := 31) rfl rfl rfl (fun c15 => ?_) (fun c15 => ?_)
      · skip
        refine k_iconst C (x := 0) rfl rfl rfl ?_
        refine k_istore_n C (lw := [(2, .int _), (3, .int _), (0, _), (1, .int _)]) rfl rfl (Nat.le_of_ble_eq_true rfl) rfl ?_
        refine k_inc1 C (lw := [(3, .int _), (2, .int _), (0, _), (1, .int _)]) rfl rfl rfl (Nat.le_of_ble_eq_true rfl) rfl ?_
        refine k_goto C (pc2 := 4) rfl rfl ?_
        rw [n_s]
        exact ih (D + 1 - (i + 1)) (by omega) (i + 1) 0 rfl (by omega) (nz_a (hz ▸ c15)).symm
      refine k_aload_n C rfl rfl rfl ?_
      refine k_iload_n C rfl rfl rfl ?_
      refine k_iload_n C rfl rfl rfl ?_
      refine c_VI C (e_m_of T_m R_m_5 T_nu N_nu rfl rfl (by omega)) rfl rfl rfl rfl rfl ⟨_, rfl, rfl, T_m, Nat.le_of_ble_eq_true rfl⟩ rfl rfl (Nat.le_of_ble_eq_true rfl) (Nat.le_of_ble_eq_true rfl) (Nat.le_of_ble_eq_true rfl) ?_
      rintro _ _ _ ⟨hx7, hI8, hL9⟩
      have hx7 := hx7.symm; subst hx7
      have hI8 := hI8.symm; subst hI8; have hL9 := hL9.symm; subst hL9
      refine k_if_ne C (t := 31) rfl rfl rfl (fun c24 => ?_) (fun c24 => ?_)
      · skip
        refine k_iconst C (x := 0) rfl rfl rfl ?_
        refine k_istore_n C (lw := [(2, .int _), (3, .int _), (0, _), (1, .int _)]) rfl rfl (Nat.le_of_ble_eq_true rfl) rfl ?_
        refine k_inc1 C (lw := [(3, .int _), (2, .int _), (0, _), (1, .int _)]) rfl rfl rfl (Nat.le_of_ble_eq_true rfl) rfl ?_
        refine k_goto C (pc2 := 4) rfl rfl ?_
        rw [n_s]
        exact ih (D + 1 - (i + 1)) (by omega) (i + 1) 0 rfl (by omega) (nz_b c24).symm
      refine k_iconst C (x := 1) rfl rfl rfl ?_
      refine k_goto C (pc2 := 32) rfl rfl ?_
      refine k_istore_n C (lw := [(2, .int _), (3, .int _), (0, _), (1, .int _)]) rfl rfl (Nat.le_of_ble_eq_true rfl) rfl ?_
      refine k_inc1 C (lw := [(3, .int _), (2, .int _), (0, _), (1, .int _)]) rfl rfl rfl (Nat.le_of_ble_eq_true rfl) rfl ?_
      refine k_goto C (pc2 := 4) rfl rfl ?_
      rw [n_s]
      exact ih (D + 1 - (i + 1)) (by omega) (i + 1) 1 rfl (by omega) (nz_c (hz ▸ c15) (Decidable.not_not.mp c24)).symm
  refine k_iconst C (x := 1) rfl rfl rfl ?_
  refine k_istore_n C (lw := [(2, .int _), (0, _), (1, .int _)]) rfl rfl (Nat.le_of_ble_eq_true rfl) rfl ?_
  refine k_iconst C (x := 0) rfl rfl rfl ?_
  refine k_istore_n C (lw := [(3, .int _), (2, .int _), (0, _), (1, .int _)]) rfl rfl (Nat.le_of_ble_eq_true rfl) rfl ?_
  exact loop (D + 1) 0 1 rfl (Nat.zero_le _) (if_pos (fun k hk => absurd hk (Nat.not_lt_zero k))).symm

theorem e_m_pN {d : Nat} {T N : Nat → Nat} {I : IT} {L : LT} {R : RT} {m w : Nat}{p : Nat} (T_m : T m = 13) (R_m_1 : R m 1 = some w) (T_w : T w = 20) (N_w : N w = 4007) (I_w_0 : I w 0 = (Int32.ofNat p)) : Ex (d + 1) 183 [.ref m] (T, N, I, L, R) 0 0 (pI T N R (fun x9 I9 L9 => x9 = (Int32.ofNat p) ∧ I9 = I ∧ L9 = L)) := by
  refine ⟨_, rfl, Nat.le_of_ble_eq_true rfl, fun V C S => ?_⟩
  show V 0 [(0, .ref m)] [] (T, N, I, L, R) 0 0
  refine k_aload_n C rfl rfl rfl ?_
  refine g_R C rfl rfl rfl T_m rfl R_m_1 ?_
  refine k_iconst C (x := 0) rfl rfl rfl ?_
  refine a_I C rfl rfl T_w (vin (n := 0) rfl (by rw [N_w]; omega) (by rw [N_w]; exact Nat.le_of_ble_eq_true rfl)) I_w_0 ?_
  exact k_iret C rfl (Or.inl rfl) (Nat.le_of_ble_eq_true rfl) (Nat.le_of_ble_eq_true rfl) ⟨_, _, _, rfl, rfl, ⟨rfl, rfl, rfl⟩⟩

theorem n_sad {a b p : Nat} (h : b ≤ a + p) : Int32.ofNat a - Int32.ofNat b + Int32.ofNat p = Int32.ofNat (a + p - b) := by
  rw [← n_sub h, ← n_add]; grind
theorem n_ne0 {p : Nat} (h : 1 ≤ p) (h2 : p < 2147483648) : ¬ Int32.ofNat p = 0 := fun e => by
  have := congrArg Int32.toInt e
  rw [n_int h2] at this
  have e1 : (0 : Int32).toInt = 0 := rfl
  omega
def pwM (a p : Nat) : Nat → Nat
  | 0 => 1
  | n + 1 => pwM a p n * a % p
theorem pwM_lt {a p : Nat} (hp : 2 ≤ p) : ∀ n, pwM a p n < p
  | 0 => by show 1 < p; omega
  | n + 1 => Nat.mod_lt _ (by omega)
theorem e_m_plusN {d : Nat} {T N : Nat → Nat} {I : IT} {L : LT} {R : RT} {m w : Nat} {a b : Int32}{p u v : Nat} (T_m : T m = 13) (R_m_1 : R m 1 = some w) (T_w : T w = 20) (N_w : N w = 4007) (I_w_0 : I w 0 = (Int32.ofNat p)) (hp1 : 2 ≤ p) (hp2 : p ≤ 19) (ha : a = Int32.ofNat u) (hb : b = Int32.ofNat v) (hu : u < 1000000) (hv : v < 1000000) : Ex (d + 2) 194 [.ref m, .int a, .int b] (T, N, I, L, R) 0 0 (pI T N R (fun x9 I9 L9 => x9 = (Int32.ofNat ((u + v) % p)) ∧ I9 = I ∧ L9 = L)) := by
  refine ⟨_, rfl, Nat.le_of_ble_eq_true rfl, fun V C S => ?_⟩
  show V 0 [(0, .ref m), (1, .int a), (2, .int b)] [] (T, N, I, L, R) 0 0
  subst ha; subst hb
  refine k_iload_n C rfl rfl rfl ?_
  refine k_iload_n C rfl rfl rfl ?_
  refine k_iadd C rfl rfl ?_
  refine k_aload_n C rfl rfl rfl ?_
  refine c_VI C (e_m_pN T_m R_m_1 T_w N_w (I_w_0) ) rfl rfl rfl rfl rfl ⟨_, rfl, rfl, T_m, Nat.le_of_ble_eq_true rfl⟩ rfl rfl (Nat.le_of_ble_eq_true rfl) (Nat.le_of_ble_eq_true rfl) (Nat.le_of_ble_eq_true rfl) ?_
  rintro _ _ _ ⟨hx7, hI8, hL9⟩
  have hx7 := hx7.symm; subst hx7
  have hI8 := hI8.symm; subst hI8; have hL9 := hL9.symm; subst hL9
  refine k_irem C rfl rfl (n_ne0 (by omega) (by omega)) ?_
  exact k_iret C rfl (Or.inl rfl) (Nat.le_of_ble_eq_true rfl) (Nat.le_of_ble_eq_true rfl) ⟨_, _, _, rfl, rfl, ⟨by rw [n_add, n_rem (by omega) (by omega) (by omega)], rfl, rfl⟩⟩

theorem e_m_timesN {d : Nat} {T N : Nat → Nat} {I : IT} {L : LT} {R : RT} {m w : Nat} {a b : Int32}{p u v : Nat} (T_m : T m = 13) (R_m_1 : R m 1 = some w) (T_w : T w = 20) (N_w : N w = 4007) (I_w_0 : I w 0 = (Int32.ofNat p)) (hp1 : 2 ≤ p) (hp2 : p ≤ 19) (ha : a = Int32.ofNat u) (hb : b = Int32.ofNat v) (hu : u < 32768) (hv : v < 32768) : Ex (d + 2) 193 [.ref m, .int a, .int b] (T, N, I, L, R) 0 0 (pI T N R (fun x9 I9 L9 => x9 = (Int32.ofNat (u * v % p)) ∧ I9 = I ∧ L9 = L)) := by
  refine ⟨_, rfl, Nat.le_of_ble_eq_true rfl, fun V C S => ?_⟩
  show V 0 [(0, .ref m), (1, .int a), (2, .int b)] [] (T, N, I, L, R) 0 0
  subst ha; subst hb
  refine k_iload_n C rfl rfl rfl ?_
  refine k_iload_n C rfl rfl rfl ?_
  refine k_imul C rfl rfl ?_
  refine k_aload_n C rfl rfl rfl ?_
  refine c_VI C (e_m_pN T_m R_m_1 T_w N_w (I_w_0) ) rfl rfl rfl rfl rfl ⟨_, rfl, rfl, T_m, Nat.le_of_ble_eq_true rfl⟩ rfl rfl (Nat.le_of_ble_eq_true rfl) (Nat.le_of_ble_eq_true rfl) (Nat.le_of_ble_eq_true rfl) ?_
  rintro _ _ _ ⟨hx7, hI8, hL9⟩
  have hx7 := hx7.symm; subst hx7
  have hI8 := hI8.symm; subst hI8; have hL9 := hL9.symm; subst hL9
  refine k_irem C rfl rfl (n_ne0 (by omega) (by omega)) ?_
  exact k_iret C rfl (Or.inl rfl) (Nat.le_of_ble_eq_true rfl) (Nat.le_of_ble_eq_true rfl) ⟨_, _, _, rfl, rfl, ⟨by rw [n_mul, n_rem (by have := Nat.mul_lt_mul'' hu hv; omega) (by omega) (by omega)], rfl, rfl⟩⟩

theorem e_m_lessN {d : Nat} {T N : Nat → Nat} {I : IT} {L : LT} {R : RT} {m w : Nat} {a b : Int32}{p u v : Nat} (T_m : T m = 13) (R_m_1 : R m 1 = some w) (T_w : T w = 20) (N_w : N w = 4007) (I_w_0 : I w 0 = (Int32.ofNat p)) (hp1 : 2 ≤ p) (hp2 : p ≤ 19) (ha : a = Int32.ofNat u) (hb : b = Int32.ofNat v) (hu : u < 1000000) (hv : v ≤ p) : Ex (d + 2) 195 [.ref m, .int a, .int b] (T, N, I, L, R) 0 0 (pI T N R (fun x9 I9 L9 => x9 = (Int32.ofNat ((u + p - v) % p)) ∧ I9 = I ∧ L9 = L)) := by
  refine ⟨_, rfl, Nat.le_of_ble_eq_true rfl, fun V C S => ?_⟩
  show V 0 [(0, .ref m), (1, .int a), (2, .int b)] [] (T, N, I, L, R) 0 0
  subst ha; subst hb
  refine k_iload_n C rfl rfl rfl ?_
  refine k_iload_n C rfl rfl rfl ?_
  refine k_isub C rfl rfl ?_
  refine k_aload_n C rfl rfl rfl ?_
  refine c_VI C (e_m_pN T_m R_m_1 T_w N_w (I_w_0) ) rfl rfl rfl rfl rfl ⟨_, rfl, rfl, T_m, Nat.le_of_ble_eq_true rfl⟩ rfl rfl (Nat.le_of_ble_eq_true rfl) (Nat.le_of_ble_eq_true rfl) (Nat.le_of_ble_eq_true rfl) ?_
  rintro _ _ _ ⟨hx7, hI8, hL9⟩
  have hx7 := hx7.symm; subst hx7
  have hI8 := hI8.symm; subst hI8; have hL9 := hL9.symm; subst hL9
  refine k_iadd C rfl rfl ?_
  refine k_aload_n C rfl rfl rfl ?_
  refine c_VI C (e_m_pN T_m R_m_1 T_w N_w (I_w_0) ) rfl rfl rfl rfl rfl ⟨_, rfl, rfl, T_m, Nat.le_of_ble_eq_true rfl⟩ rfl rfl (Nat.le_of_ble_eq_true rfl) (Nat.le_of_ble_eq_true rfl) (Nat.le_of_ble_eq_true rfl) ?_
  rintro _ _ _ ⟨hx7, hI8, hL9⟩
  have hx7 := hx7.symm; subst hx7
  have hI8 := hI8.symm; subst hI8; have hL9 := hL9.symm; subst hL9
  refine k_irem C rfl rfl (n_ne0 (by omega) (by omega)) ?_
  exact k_iret C rfl (Or.inl rfl) (Nat.le_of_ble_eq_true rfl) (Nat.le_of_ble_eq_true rfl) ⟨_, _, _, rfl, rfl, ⟨by rw [n_sad (by omega), n_rem (by omega) (by omega) (by omega)], rfl, rfl⟩⟩

theorem e_m_powerN {d : Nat} {T N : Nat → Nat} {I : IT} {L : LT} {R : RT} {m w : Nat} {a b : Int32}{p u n : Nat} (T_m : T m = 13) (R_m_1 : R m 1 = some w) (T_w : T w = 20) (N_w : N w = 4007) (I_w_0 : I w 0 = (Int32.ofNat p)) (hp1 : 2 ≤ p) (hp2 : p ≤ 19) (ha : a = Int32.ofNat u) (hb : b = Int32.ofNat n) (hu : u < 32768) (hn : n < 1000000) : Ex (d + 3) 196 [.ref m, .int a, .int b] (T, N, I, L, R) 0 0 (pI T N R (fun x9 I9 L9 => x9 = (Int32.ofNat (pwM u p n)) ∧ I9 = I ∧ L9 = L)) := by
  refine ⟨_, rfl, Nat.le_of_ble_eq_true rfl, fun V C S => ?_⟩
  show V 0 [(0, .ref m), (1, .int a), (2, .int b)] [] (T, N, I, L, R) 0 0
  subst ha; subst hb
  have loop : ∀ (s i : Nat), s = n - i → i ≤ n → V 5 [(4, .int (Int32.ofNat i)), (3, .int (Int32.ofNat (pwM u p i))), (0, .ref m), (1, .int (Int32.ofNat u)), (2, .int (Int32.ofNat n))] [] (T, N, I, L, R) 0 0 := by
    intro s
    induction s using Nat.strongRecOn with
    | _ s ih =>
      intro i hs hi
      refine k_iload C rfl rfl rfl ?_
      refine k_iload_n C rfl rfl rfl ?_
      refine k_icmp_ge C (t := 24) rfl rfl rfl (fun c8 => ?_) (fun c8 => ?_)
      · skip
        have hi2 : i = n := by have := (n_le (by omega) (by omega)).mp c8; omega
        subst hi2
        refine k_iload_n C rfl rfl rfl ?_
        exact k_iret C rfl (Or.inl rfl) (Nat.le_of_ble_eq_true rfl) (Nat.le_of_ble_eq_true rfl) ⟨_, _, _, rfl, rfl, rfl, rfl, rfl⟩
      have hi2 : i < n := Nat.lt_of_not_le (fun h => c8 ((n_le (by omega) (by omega)).mpr h))
      have hpl := pwM_lt (a := u) hp1 i
      refine k_aload_n C rfl rfl rfl ?_
      refine k_iload_n C rfl rfl rfl ?_
      refine k_iload_n C rfl rfl rfl ?_
      refine c_VI C (e_m_timesN T_m R_m_1 T_w N_w (I_w_0) hp1 hp2 rfl rfl (by omega) (by omega)) rfl rfl rfl rfl rfl ⟨_, rfl, rfl, T_m, Nat.le_of_ble_eq_true rfl⟩ rfl rfl (Nat.le_of_ble_eq_true rfl) (Nat.le_of_ble_eq_true rfl) (Nat.le_of_ble_eq_true rfl) ?_
      rintro _ _ _ ⟨hx7, hI8, hL9⟩
      have hx7 := hx7.symm; subst hx7
      have hI8 := hI8.symm; subst hI8; have hL9 := hL9.symm; subst hL9
      refine k_istore_n C (lw := [(3, .int _), (4, .int _), (0, _), (1, .int _), (2, .int _)]) rfl rfl (Nat.le_of_ble_eq_true rfl) rfl ?_
      refine k_sub S [(4, .int (Int32.ofNat i)), (3, .int (Int32.ofNat (pwM u p i * u % p))), (0, .ref m), (1, .int (Int32.ofNat u)), (2, .int (Int32.ofNat n))] (List.forall_mem_cons.mpr ⟨List.mem_of_getElem? (i := 1) rfl, List.forall_mem_cons.mpr ⟨List.mem_of_getElem? (i := 0) rfl, List.forall_mem_cons.mpr ⟨List.mem_of_getElem? (i := 2) rfl, List.forall_mem_cons.mpr ⟨List.mem_of_getElem? (i := 3) rfl, List.forall_mem_cons.mpr ⟨List.mem_of_getElem? (i := 4) rfl, fun _ h => nomatch h⟩⟩⟩⟩⟩) ?_
      refine k_inc1 C (lw := [(4, .int _), (3, .int _), (0, _), (1, .int _), (2, .int _)]) rfl rfl rfl (Nat.le_of_ble_eq_true rfl) rfl ?_
      refine k_goto C (pc2 := 5) rfl rfl ?_
      rw [n_s]
      exact ih (n - (i + 1)) (by omega) (i + 1) rfl (by omega)
  refine k_iconst C (x := 1) rfl rfl rfl ?_
  refine k_istore_n C (lw := [(3, .int _), (0, _), (1, .int _), (2, .int _)]) rfl rfl (Nat.le_of_ble_eq_true rfl) rfl ?_
  refine k_iconst C (x := 0) rfl rfl rfl ?_
  refine k_istore C (lw := [(4, .int _), (3, .int _), (0, _), (1, .int _), (2, .int _)]) rfl rfl (Nat.le_of_ble_eq_true rfl) rfl ?_
  exact loop n 0 rfl (Nat.zero_le _)

theorem e_m_inverseN {d : Nat} {T N : Nat → Nat} {I : IT} {L : LT} {R : RT} {m w : Nat} {a : Int32}{p u : Nat} (T_m : T m = 13) (R_m_1 : R m 1 = some w) (T_w : T w = 20) (N_w : N w = 4007) (I_w_0 : I w 0 = (Int32.ofNat p)) (hp1 : 2 ≤ p) (hp2 : p ≤ 19) (ha : a = Int32.ofNat u) (hu : u < 32768) : Ex (d + 4) 197 [.ref m, .int a] (T, N, I, L, R) 0 0 (pI T N R (fun x9 I9 L9 => x9 = (Int32.ofNat (pwM u p (p - 2))) ∧ I9 = I ∧ L9 = L)) := by
  refine ⟨_, rfl, Nat.le_of_ble_eq_true rfl, fun V C S => ?_⟩
  show V 0 [(0, .ref m), (1, .int a)] [] (T, N, I, L, R) 0 0
  refine k_aload_n C rfl rfl rfl ?_
  refine k_iload_n C rfl rfl rfl ?_
  refine k_aload_n C rfl rfl rfl ?_
  refine c_VI C (e_m_pN T_m R_m_1 T_w N_w (I_w_0) ) rfl rfl rfl rfl rfl ⟨_, rfl, rfl, T_m, Nat.le_of_ble_eq_true rfl⟩ rfl rfl (Nat.le_of_ble_eq_true rfl) (Nat.le_of_ble_eq_true rfl) (Nat.le_of_ble_eq_true rfl) ?_
  rintro _ _ _ ⟨hx7, hI8, hL9⟩
  have hx7 := hx7.symm; subst hx7
  have hI8 := hI8.symm; subst hI8; have hL9 := hL9.symm; subst hL9
  refine k_iconst C (x := 2) rfl rfl rfl ?_
  refine k_isub C rfl rfl ?_
  refine c_VI C (e_m_powerN T_m R_m_1 T_w N_w (I_w_0) hp1 hp2 ha (show Int32.ofNat p - Int32.ofNat 2 = _ from n_sub hp1) hu (by omega)) rfl rfl rfl rfl rfl ⟨_, rfl, rfl, T_m, Nat.le_of_ble_eq_true rfl⟩ rfl rfl (Nat.le_of_ble_eq_true rfl) (Nat.le_of_ble_eq_true rfl) (Nat.le_of_ble_eq_true rfl) ?_
  rintro _ _ _ ⟨hx7, hI8, hL9⟩
  have hx7 := hx7.symm; subst hx7
  have hI8 := hI8.symm; subst hI8; have hL9 := hL9.symm; subst hL9
  exact k_iret C rfl (Or.inl rfl) (Nat.le_of_ble_eq_true rfl) (Nat.le_of_ble_eq_true rfl) ⟨_, _, _, rfl, rfl, ⟨rfl, rfl, rfl⟩⟩
end
-- 39.61.rrow.lean.txt
section
/-! the rows of the reference, any state: alike, value -/
def lz (I : IT) (nu r t n : Nat) : Int32 := if ∀ k, k < n → I nu (41 * r + k) = I nu (41 * t + k) then 1 else 0
theorem lz_0 {I : IT} {nu r t n k : Nat} (h : lz I nu r t n = 0) (hk : n ≤ k) : lz I nu r t k = 0 := by
  unfold lz at *
  by_cases q : ∀ k, k < n → I nu (41 * r + k) = I nu (41 * t + k)
  · rw [if_pos q] at h; exact absurd h (by decide)
  · exact if_neg (fun z => q (fun j hj => z j (by omega)))
theorem lz_b {I : IT} {nu r t n : Nat} (h : ¬ I nu (41 * r + n) = I nu (41 * t + n)) : lz I nu r t (n + 1) = 0 := if_neg (fun z => h (z n (by omega)))
theorem lz_c {I : IT} {nu r t n : Nat} (h : ¬ lz I nu r t n = 0) (h2 : I nu (41 * r + n) = I nu (41 * t + n)) : lz I nu r t (n + 1) = 1 := by
  unfold lz at *
  by_cases q : ∀ k, k < n → I nu (41 * r + k) = I nu (41 * t + k)
  · refine if_pos (fun k hk => ?_)
    by_cases e : k = n
    · rw [e]; exact h2
    · exact q k (by omega)
  · exact absurd (if_neg q) h
theorem lz_01 {I : IT} {nu r t n : Nat} {z : Int32} (h : z = lz I nu r t n) : z = 0 ∨ z = 1 := by
  rw [h]; unfold lz; by_cases q : ∀ k, k < n → I nu (41 * r + k) = I nu (41 * t + k)
  · exact Or.inr (if_pos q)
  · exact Or.inl (if_neg q)
def lkM (I : IT) (nu r t D E : Nat) : Int32 := if D = E then lz I nu r t (D + 1) else 0
theorem e_m_isLike {d : Nat} {T N : Nat → Nat} {I : IT} {L : LT} {R : RT} {m nu dg : Nat} {a b : Int32} (T_m : T m = 13) (R_m_5 : R m 5 = some nu) (T_nu : T nu = 20) (N_nu : N nu = 1968) (R_m_4 : R m 4 = some dg) (T_dg : T dg = 20) (N_dg : N dg = 48) {r t D E : Nat} (ha : a = Int32.ofNat r) (hb : b = Int32.ofNat t) (hr : r < 48) (ht : t < 48) (hD : I dg r = Int32.ofNat D) (hD8 : D ≤ 40) (hE : I dg t = Int32.ofNat E) (hE8 : E ≤ 40) : Ex (d + 2) 204 [.ref m, .int a, .int b] (T, N, I, L, R) 0 0 (pI T N R (fun x9 I9 L9 => x9 = (lkM I nu r t D E) ∧ I9 = I ∧ L9 = L)) := by
  refine ⟨_, rfl, Nat.le_of_ble_eq_true rfl, fun V C S => ?_⟩
  show V 0 [(0, .ref m), (1, .int a), (2, .int b)] [] (T, N, I, L, R) 0 0
  subst ha; subst hb
  have loop : D = E → ∀ (s i : Nat) (z : Int32), s = D + 1 - i → i ≤ D + 1 → z = lz I nu r t i → V 24 [(4, .int (Int32.ofNat i)), (3, .int z), (0, .ref m), (1, .int (Int32.ofNat r)), (2, .int (Int32.ofNat t))] [] (T, N, I, L, R) 0 0 := by
    intro hDE s
    induction s using Nat.strongRecOn with
    | _ s ih =>
      intro i z hs hi hz
      refine k_iload_n C rfl rfl rfl ?_
      refine k_if_eq C (t := 68) rfl rfl rfl (fun c25 => ?_) (fun c25 => ?_)
      · skip
        refine k_iload_n C rfl rfl rfl ?_
        exact k_iret C rfl (Or.inr ⟨rfl, lz_01 hz⟩) (Nat.le_of_ble_eq_true rfl) (Nat.le_of_ble_eq_true rfl) ⟨_, _, _, rfl, rfl, by rw [lkM, if_pos hDE, c25]; exact (lz_0 (hz ▸ c25) hi).symm, rfl, rfl⟩
      refine k_iload C rfl rfl rfl ?_
      refine k_aload_n C rfl rfl rfl ?_
      refine g_R C rfl rfl rfl T_m rfl R_m_4 ?_
      refine k_iload_n C rfl rfl rfl ?_
      refine a_I C rfl rfl T_dg (vin (n := r) rfl (by rw [N_dg]; omega) (by rw [N_dg]; exact Nat.le_of_ble_eq_true rfl)) (hvx (n_nat (by omega)) (hD)) ?_
      refine k_icmp_gt C (t := 68) rfl rfl rfl (fun c36 => ?_) (fun c36 => ?_)
      · skip
        have hi2 : i = D + 1 := by have := (n_lt (by omega) (by omega)).mp c36; omega
        subst hi2
        refine k_iload_n C rfl rfl rfl ?_
        exact k_iret C rfl (Or.inr ⟨rfl, lz_01 hz⟩) (Nat.le_of_ble_eq_true rfl) (Nat.le_of_ble_eq_true rfl) ⟨_, _, _, rfl, rfl, by rw [lkM, if_pos hDE]; exact hz, rfl, rfl⟩
      have hi2 : i < D + 1 := Nat.lt_succ_of_le (Nat.le_of_not_lt (fun h => c36 ((n_lt (by omega) (by omega)).mpr h)))
      refine k_aload_n C rfl rfl rfl ?_
      refine k_iload_n C rfl rfl rfl ?_
      refine k_iload C rfl rfl rfl ?_
      refine c_VI C (e_m_of T_m R_m_5 T_nu N_nu rfl rfl (by omega)) rfl rfl rfl rfl rfl ⟨_, rfl, rfl, T_m, Nat.le_of_ble_eq_true rfl⟩ rfl rfl (Nat.le_of_ble_eq_true rfl) (Nat.le_of_ble_eq_true rfl) (Nat.le_of_ble_eq_true rfl) ?_
      rintro _ _ _ ⟨hx7, hI8, hL9⟩
      have hx7 := hx7.symm; subst hx7
      have hI8 := hI8.symm; subst hI8; have hL9 := hL9.symm; subst hL9
      refine k_aload_n C rfl rfl rfl ?_
      refine k_iload_n C rfl rfl rfl ?_
      refine k_iload C rfl rfl rfl ?_
      refine c_VI C (e_m_of T_m R_m_5 T_nu N_nu rfl rfl (by omega)) rfl rfl rfl rfl rfl ⟨_, rfl, rfl, T_m, Nat.le_of_ble_eq_true rfl⟩ rfl rfl (Nat.le_of_ble_eq_true rfl) (Nat.le_of_ble_eq_true rfl) (Nat.le_of_ble_eq_true rfl) ?_
      rintro _ _ _ ⟨hx7, hI8, hL9⟩
      have hx7 := hx7.symm; subst hx7
      have hI8 := hI8.symm; subst hI8; have hL9 := hL9.symm; subst hL9
      refine k_icmp_ne C (t := 60) rfl rfl rfl (fun c53 => ?_) (fun c53 => ?_)
      · skip
        refine k_iconst C (x := 0) rfl rfl rfl ?_
        refine k_istore_n C (lw := [(3, .int _), (4, .int _), (0, _), (1, .int _), (2, .int _)]) rfl rfl (Nat.le_of_ble_eq_true rfl) rfl ?_
        refine k_sub S [(4, .int (Int32.ofNat i)), (3, .int 0), (0, .ref m), (1, .int (Int32.ofNat r)), (2, .int (Int32.ofNat t))] (List.forall_mem_cons.mpr ⟨List.mem_of_getElem? (i := 1) rfl, List.forall_mem_cons.mpr ⟨List.mem_of_getElem? (i := 0) rfl, List.forall_mem_cons.mpr ⟨List.mem_of_getElem? (i := 2) rfl, List.forall_mem_cons.mpr ⟨List.mem_of_getElem? (i := 3) rfl, List.forall_mem_cons.mpr ⟨List.mem_of_getElem? (i := 4) rfl, fun _ h => nomatch h⟩⟩⟩⟩⟩) ?_
        refine k_iinc C (lw := [(4, .int _), (3, .int _), (0, _), (1, .int _), (2, .int _)]) rfl rfl rfl (Nat.le_of_ble_eq_true rfl) rfl rfl ?_
        refine k_goto C (pc2 := 24) rfl rfl ?_
        show V 24 [(4, .int (Int32.ofNat i + 1)), _, _, _, _] [] _ 0 0
        rw [n_s]
        exact ih (D + 1 - (i + 1)) (by omega) (i + 1) 0 rfl (by omega) (lz_b c53).symm
      refine k_iconst C (x := 1) rfl rfl rfl ?_
      refine k_goto C (pc2 := 61) rfl rfl ?_
      refine k_istore_n C (lw := [(3, .int _), (4, .int _), (0, _), (1, .int _), (2, .int _)]) rfl rfl (Nat.le_of_ble_eq_true rfl) rfl ?_
      refine k_sub S [(4, .int (Int32.ofNat i)), (3, .int 1), (0, .ref m), (1, .int (Int32.ofNat r)), (2, .int (Int32.ofNat t))] (List.forall_mem_cons.mpr ⟨List.mem_of_getElem? (i := 1) rfl, List.forall_mem_cons.mpr ⟨List.mem_of_getElem? (i := 0) rfl, List.forall_mem_cons.mpr ⟨List.mem_of_getElem? (i := 2) rfl, List.forall_mem_cons.mpr ⟨List.mem_of_getElem? (i := 3) rfl, List.forall_mem_cons.mpr ⟨List.mem_of_getElem? (i := 4) rfl, fun _ h => nomatch h⟩⟩⟩⟩⟩) ?_
      refine k_iinc C (lw := [(4, .int _), (3, .int _), (0, _), (1, .int _), (2, .int _)]) rfl rfl rfl (Nat.le_of_ble_eq_true rfl) rfl rfl ?_
      refine k_goto C (pc2 := 24) rfl rfl ?_
      show V 24 [(4, .int (Int32.ofNat i + 1)), _, _, _, _] [] _ 0 0
      rw [n_s]
      exact ih (D + 1 - (i + 1)) (by omega) (i + 1) 1 rfl (by omega) (lz_c (hz ▸ c25) (Decidable.not_not.mp c53)).symm
  refine k_aload_n C rfl rfl rfl ?_
  refine g_R C rfl rfl rfl T_m rfl R_m_4 ?_
  refine k_iload_n C rfl rfl rfl ?_
  refine a_I C rfl rfl T_dg (vin (n := r) rfl (by rw [N_dg]; omega) (by rw [N_dg]; exact Nat.le_of_ble_eq_true rfl)) (hvx (n_nat (by omega)) (hD)) ?_
  refine k_aload_n C rfl rfl rfl ?_
  refine g_R C rfl rfl rfl T_m rfl R_m_4 ?_
  refine k_iload_n C rfl rfl rfl ?_
  refine a_I C rfl rfl T_dg (vin (n := t) rfl (by rw [N_dg]; omega) (by rw [N_dg]; exact Nat.le_of_ble_eq_true rfl)) (hvx (n_nat (by omega)) (hE)) ?_
  refine k_icmp_ne C (t := 19) rfl rfl rfl (fun c12 => ?_) (fun c12 => ?_)
  · skip
    have hne : ¬ D = E := fun e => c12 (by rw [e])
    refine k_iconst C (x := 0) rfl rfl rfl ?_
    refine k_istore_n C (lw := [(3, .int _), (0, _), (1, .int _), (2, .int _)]) rfl rfl (Nat.le_of_ble_eq_true rfl) rfl ?_
    refine k_iconst C (x := 0) rfl rfl rfl ?_
    refine k_istore C (lw := [(4, .int _), (3, .int _), (0, _), (1, .int _), (2, .int _)]) rfl rfl (Nat.le_of_ble_eq_true rfl) rfl ?_
    refine k_iload_n C rfl rfl rfl ?_
    refine k_if_eq C (t := 68) rfl rfl rfl (fun _ => ?_) (fun c25 => absurd rfl c25)
    refine k_iload_n C rfl rfl rfl ?_
    exact k_iret C rfl (Or.inr ⟨rfl, Or.inl rfl⟩) (Nat.le_of_ble_eq_true rfl) (Nat.le_of_ble_eq_true rfl) ⟨_, _, _, rfl, rfl, by rw [lkM, if_neg hne], rfl, rfl⟩
  have hDE : D = E := by
    have e := congrArg Int32.toInt (Decidable.not_not.mp c12)
    rw [n_int (by omega), n_int (by omega)] at e; omega
  refine k_iconst C (x := 1) rfl rfl rfl ?_
  refine k_goto C (pc2 := 20) rfl rfl ?_
  refine k_istore_n C (lw := [(3, .int _), (0, _), (1, .int _), (2, .int _)]) rfl rfl (Nat.le_of_ble_eq_true rfl) rfl ?_
  refine k_iconst C (x := 0) rfl rfl rfl ?_
  refine k_istore C (lw := [(4, .int _), (3, .int _), (0, _), (1, .int _), (2, .int _)]) rfl rfl (Nat.le_of_ble_eq_true rfl) rfl ?_
  refine k_sub S [(4, .int (Int32.ofNat 0)), (3, .int 1), (0, .ref m), (1, .int (Int32.ofNat r)), (2, .int (Int32.ofNat t))] (List.forall_mem_cons.mpr ⟨List.mem_of_getElem? (i := 0) rfl, List.forall_mem_cons.mpr ⟨List.mem_of_getElem? (i := 1) rfl, List.forall_mem_cons.mpr ⟨List.mem_of_getElem? (i := 2) rfl, List.forall_mem_cons.mpr ⟨List.mem_of_getElem? (i := 3) rfl, List.forall_mem_cons.mpr ⟨List.mem_of_getElem? (i := 4) rfl, fun _ h => nomatch h⟩⟩⟩⟩⟩) ?_
  exact loop hDE (D + 1) 0 1 rfl (Nat.zero_le _) (if_pos (fun k hk => absurd hk (Nat.not_lt_zero k))).symm

def valM (ra : Nat → Nat) (x y p D : Nat) : Nat → Nat
  | 0 => 0
  | k + 1 => (valM ra x y p D k + ra k * (pwM x p (D - k) * pwM y p k % p) % p) % p
theorem valM_lt {ra : Nat → Nat} {x y p D : Nat} (hp : 2 ≤ p) : ∀ k, valM ra x y p D k < p
  | 0 => by show 0 < p; omega
  | k + 1 => Nat.mod_lt _ (by omega)
theorem e_m_valueAt {d : Nat} {T N : Nat → Nat} {I : IT} {L : LT} {R : RT} {m w nu dg : Nat} {a b c : Int32}{p : Nat} (T_m : T m = 13) (R_m_1 : R m 1 = some w) (T_w : T w = 20) (N_w : N w = 4007) (R_m_5 : R m 5 = some nu) (T_nu : T nu = 20) (N_nu : N nu = 1968) (R_m_4 : R m 4 = some dg) (T_dg : T dg = 20) (N_dg : N dg = 48) (I_w_0 : I w 0 = (Int32.ofNat p)) {r D x y : Nat} {ra : Nat → Nat} (hp1 : 2 ≤ p) (hp2 : p ≤ 19) (ha : a = Int32.ofNat r) (hb : b = Int32.ofNat x) (hc : c = Int32.ofNat y) (hr : r < 48) (hx : x < 32768) (hy : y < 32768) (hD : I dg r = Int32.ofNat D) (hD8 : D ≤ 40) (hra : ∀ k, k ≤ D → I nu (41 * r + k) = Int32.ofNat (ra k)) (hrb : ∀ k, k ≤ D → ra k < p) : Ex (d + 4) 215 [.ref m, .int a, .int b, .int c] (T, N, I, L, R) 0 0 (pI T N R (fun x9 I9 L9 => x9 = (Int32.ofNat (valM ra x y p D (D + 1))) ∧ I9 = I ∧ L9 = L)) := by
  refine ⟨_, rfl, Nat.le_of_ble_eq_true rfl, fun V C S => ?_⟩
  show V 0 [(0, .ref m), (1, .int a), (2, .int b), (3, .int c)] [] (T, N, I, L, R) 0 0
  subst ha; subst hb; subst hc
  have loop : ∀ (s i : Nat), s = D + 1 - i → i ≤ D + 1 → V 6 [(5, .int (Int32.ofNat i)), (4, .int (Int32.ofNat (valM ra x y p D i))), (0, .ref m), (1, .int (Int32.ofNat r)), (2, .int (Int32.ofNat x)), (3, .int (Int32.ofNat y))] [] (T, N, I, L, R) 0 0 := by
    intro s
    induction s using Nat.strongRecOn with
    | _ s ih =>
      intro i hs hi
      refine k_iload C rfl rfl rfl ?_
      refine k_aload_n C rfl rfl rfl ?_
      refine g_R C rfl rfl rfl T_m rfl R_m_4 ?_
      refine k_iload_n C rfl rfl rfl ?_
      refine a_I C rfl rfl T_dg (vin (n := r) rfl (by rw [N_dg]; omega) (by rw [N_dg]; exact Nat.le_of_ble_eq_true rfl)) (hvx (n_nat (by omega)) (hD)) ?_
      refine k_icmp_gt C (t := 67) rfl rfl rfl (fun c14 => ?_) (fun c14 => ?_)
      · skip
        have hi2 : i = D + 1 := by have := (n_lt (by omega) (by omega)).mp c14; omega
        subst hi2
        refine k_iload C rfl rfl rfl ?_
        exact k_iret C rfl (Or.inl rfl) (Nat.le_of_ble_eq_true rfl) (Nat.le_of_ble_eq_true rfl) ⟨_, _, _, rfl, rfl, rfl, rfl, rfl⟩
      have hi2 : i < D + 1 := Nat.lt_succ_of_le (Nat.le_of_not_lt (fun h => c14 ((n_lt (by omega) (by omega)).mpr h)))
      have b1 := pwM_lt (a := x) hp1 (D - i)
      have b2 := pwM_lt (a := y) hp1 i
      have b3 := hrb i (by omega)
      have b4 := valM_lt (ra := ra) (x := x) (y := y) (D := D) hp1 i
      have b5 : pwM x p (D - i) * pwM y p i % p < p := Nat.mod_lt _ (by omega)
      have b6 : ra i * (pwM x p (D - i) * pwM y p i % p) % p < p := Nat.mod_lt _ (by omega)
      refine k_aload_n C rfl rfl rfl ?_
      refine k_iload C rfl rfl rfl ?_
      refine k_aload_n C rfl rfl rfl ?_
      refine k_aload_n C rfl rfl rfl ?_
      refine k_iload_n C rfl rfl rfl ?_
      refine k_iload C rfl rfl rfl ?_
      refine c_VI C (e_m_of T_m R_m_5 T_nu N_nu rfl rfl (by omega)) rfl rfl rfl rfl rfl ⟨_, rfl, rfl, T_m, Nat.le_of_ble_eq_true rfl⟩ rfl rfl (Nat.le_of_ble_eq_true rfl) (Nat.le_of_ble_eq_true rfl) (Nat.le_of_ble_eq_true rfl) ?_
      rintro _ _ _ ⟨hx7, hI8, hL9⟩
      have hx7 := hx7.symm; subst hx7
      have hI8 := hI8.symm; subst hI8; have hL9 := hL9.symm; subst hL9
      rw [hra i (by omega)]
      refine k_aload_n C rfl rfl rfl ?_
      refine k_aload_n C rfl rfl rfl ?_
      refine k_iload_n C rfl rfl rfl ?_
      refine k_aload_n C rfl rfl rfl ?_
      refine g_R C rfl rfl rfl T_m rfl R_m_4 ?_
      refine k_iload_n C rfl rfl rfl ?_
      refine a_I C rfl rfl T_dg (vin (n := r) rfl (by rw [N_dg]; omega) (by rw [N_dg]; exact Nat.le_of_ble_eq_true rfl)) (hvx (n_nat (by omega)) (hD)) ?_
      refine k_iload C rfl rfl rfl ?_
      refine k_isub C rfl rfl ?_
      rw [n_sub (by omega)]
      refine c_VI C (e_m_powerN T_m R_m_1 T_w N_w (I_w_0) hp1 hp2 rfl rfl hx (by omega)) rfl rfl rfl rfl rfl ⟨_, rfl, rfl, T_m, Nat.le_of_ble_eq_true rfl⟩ rfl rfl (Nat.le_of_ble_eq_true rfl) (Nat.le_of_ble_eq_true rfl) (Nat.le_of_ble_eq_true rfl) ?_
      rintro _ _ _ ⟨hx7, hI8, hL9⟩
      have hx7 := hx7.symm; subst hx7
      have hI8 := hI8.symm; subst hI8; have hL9 := hL9.symm; subst hL9
      refine k_aload_n C rfl rfl rfl ?_
      refine k_iload_n C rfl rfl rfl ?_
      refine k_iload C rfl rfl rfl ?_
      refine c_VI C (e_m_powerN T_m R_m_1 T_w N_w (I_w_0) hp1 hp2 rfl rfl hy (by omega)) rfl rfl rfl rfl rfl ⟨_, rfl, rfl, T_m, Nat.le_of_ble_eq_true rfl⟩ rfl rfl (Nat.le_of_ble_eq_true rfl) (Nat.le_of_ble_eq_true rfl) (Nat.le_of_ble_eq_true rfl) ?_
      rintro _ _ _ ⟨hx7, hI8, hL9⟩
      have hx7 := hx7.symm; subst hx7
      have hI8 := hI8.symm; subst hI8; have hL9 := hL9.symm; subst hL9
      refine c_VI C (e_m_timesN T_m R_m_1 T_w N_w (I_w_0) hp1 hp2 rfl rfl (by omega) (by omega)) rfl rfl rfl rfl rfl ⟨_, rfl, rfl, T_m, Nat.le_of_ble_eq_true rfl⟩ rfl rfl (Nat.le_of_ble_eq_true rfl) (Nat.le_of_ble_eq_true rfl) (Nat.le_of_ble_eq_true rfl) ?_
      rintro _ _ _ ⟨hx7, hI8, hL9⟩
      have hx7 := hx7.symm; subst hx7
      have hI8 := hI8.symm; subst hI8; have hL9 := hL9.symm; subst hL9
      refine c_VI C (e_m_timesN T_m R_m_1 T_w N_w (I_w_0) hp1 hp2 rfl rfl (by omega) (by omega)) rfl rfl rfl rfl rfl ⟨_, rfl, rfl, T_m, Nat.le_of_ble_eq_true rfl⟩ rfl rfl (Nat.le_of_ble_eq_true rfl) (Nat.le_of_ble_eq_true rfl) (Nat.le_of_ble_eq_true rfl) ?_
      rintro _ _ _ ⟨hx7, hI8, hL9⟩
      have hx7 := hx7.symm; subst hx7
      have hI8 := hI8.symm; subst hI8; have hL9 := hL9.symm; subst hL9
      refine c_VI C (e_m_plusN T_m R_m_1 T_w N_w (I_w_0) hp1 hp2 rfl rfl (by omega) (by omega)) rfl rfl rfl rfl rfl ⟨_, rfl, rfl, T_m, Nat.le_of_ble_eq_true rfl⟩ rfl rfl (Nat.le_of_ble_eq_true rfl) (Nat.le_of_ble_eq_true rfl) (Nat.le_of_ble_eq_true rfl) ?_
      rintro _ _ _ ⟨hx7, hI8, hL9⟩
      have hx7 := hx7.symm; subst hx7
      have hI8 := hI8.symm; subst hI8; have hL9 := hL9.symm; subst hL9
      refine k_istore C (lw := [(4, .int _), (5, .int _), (0, _), (1, .int _), (2, .int _), (3, .int _)]) rfl rfl (Nat.le_of_ble_eq_true rfl) rfl ?_
      refine k_sub S [(5, .int (Int32.ofNat i)), (4, .int (Int32.ofNat (valM ra x y p D (i + 1)))), (0, .ref m), (1, .int (Int32.ofNat r)), (2, .int (Int32.ofNat x)), (3, .int (Int32.ofNat y))] (List.forall_mem_cons.mpr ⟨List.mem_of_getElem? (i := 1) rfl, List.forall_mem_cons.mpr ⟨List.mem_of_getElem? (i := 0) rfl, List.forall_mem_cons.mpr ⟨List.mem_of_getElem? (i := 2) rfl, List.forall_mem_cons.mpr ⟨List.mem_of_getElem? (i := 3) rfl, List.forall_mem_cons.mpr ⟨List.mem_of_getElem? (i := 4) rfl, List.forall_mem_cons.mpr ⟨List.mem_of_getElem? (i := 5) rfl, fun _ h => nomatch h⟩⟩⟩⟩⟩⟩) ?_
      refine k_iinc C (lw := [(5, .int _), (4, .int _), (0, _), (1, .int _), (2, .int _), (3, .int _)]) rfl rfl rfl (Nat.le_of_ble_eq_true rfl) rfl rfl ?_
      refine k_goto C (pc2 := 6) rfl rfl ?_
      show V 6 [(5, .int (Int32.ofNat i + 1)), _, _, _, _, _] [] _ 0 0
      rw [n_s]
      exact ih (D + 1 - (i + 1)) (by omega) (i + 1) rfl (by omega)
  refine k_iconst C (x := 0) rfl rfl rfl ?_
  refine k_istore C (lw := [(4, .int _), (0, _), (1, .int _), (2, .int _), (3, .int _)]) rfl rfl (Nat.le_of_ble_eq_true rfl) rfl ?_
  refine k_iconst C (x := 0) rfl rfl rfl ?_
  refine k_istore C (lw := [(5, .int _), (4, .int _), (0, _), (1, .int _), (2, .int _), (3, .int _)]) rfl rfl (Nat.le_of_ble_eq_true rfl) rfl ?_
  exact loop (D + 1) 0 rfl (Nat.zero_le _)
end
-- 39.62.rrow.lean.txt
section
/-! the rows of the reference, any state: products -/
theorem bk_u {I : IT} {a s n k : Nat} {f : Nat → Int32} {v : Int32} (h : k < n) : u2 (bk I a s n f) a (s + k) v = bk I a s n (fun j => if j = k then v else f j) := by
  funext b j
  by_cases e : b = a ∧ j = s + k
  · obtain ⟨rfl, rfl⟩ := e
    rw [u2_s, bk_i h, if_pos rfl]
  · have h1 : u2 (bk I a s n f) a (s + k) v b j = bk I a s n f b j := if_neg e
    rw [h1]; unfold bk
    by_cases q : b = a ∧ s ≤ j ∧ j < s + n
    · rw [if_pos q, if_pos q]; exact (if_neg (fun y => e ⟨q.1, by omega⟩)).symm
    · rw [if_neg q, if_neg q]
def inM (acc : Nat → Nat) (x : Nat) (rb : Nat → Nat) (p i : Nat) : Nat → Nat → Nat
  | 0 => acc
  | k + 1 => fun j => if j = i + k then (inM acc x rb p i k j + x * rb k % p) % p else inM acc x rb p i k j
def outM (ra rb : Nat → Nat) (p E : Nat) : Nat → Nat → Nat
  | 0 => fun _ => 0
  | i + 1 => inM (outM ra rb p E i) (ra i) rb p i (E + 1)
theorem inM_lt {acc : Nat → Nat} {x p i : Nat} {rb : Nat → Nat} (hp : 2 ≤ p) (h : ∀ j, acc j < p) : ∀ k j, inM acc x rb p i k j < p
  | 0, j => h j
  | k + 1, j => by
    show (if j = i + k then (inM acc x rb p i k j + x * rb k % p) % p else inM acc x rb p i k j) < p
    by_cases e : j = i + k
    · rw [if_pos e]; exact Nat.mod_lt _ (by omega)
    · rw [if_neg e]; exact inM_lt hp h k j
theorem outM_lt {ra rb : Nat → Nat} {p E : Nat} (hp : 2 ≤ p) : ∀ i j, outM ra rb p E i j < p
  | 0, j => by show 0 < p; omega
  | i + 1, j => inM_lt hp (outM_lt hp i) (E + 1) j
theorem inM_s {acc : Nat → Nat} {x p i k : Nat} {rb : Nat → Nat} : (fun j => if j = i + k then Int32.ofNat ((inM acc x rb p i k (i + k) + x * rb k % p) % p) else Int32.ofNat (inM acc x rb p i k j)) = fun j => Int32.ofNat (inM acc x rb p i (k + 1) j) := by
  funext j
  show _ = Int32.ofNat (if j = i + k then (inM acc x rb p i k j + x * rb k % p) % p else inM acc x rb p i k j)
  by_cases e : j = i + k
  · rw [if_pos e, if_pos e, e]
  · rw [if_neg e, if_neg e]
theorem e_m_multiplies {d : Nat} {T N : Nat → Nat} {I : IT} {L : LT} {R : RT} {m w nu dg : Nat} {a b c : Int32}{p : Nat} (T_m : T m = 13) (R_m_1 : R m 1 = some w) (T_w : T w = 20) (N_w : N w = 4007) (R_m_5 : R m 5 = some nu) (T_nu : T nu = 20) (N_nu : N nu = 1968) (R_m_4 : R m 4 = some dg) (T_dg : T dg = 20) (N_dg : N dg = 48) (I_w_0 : I w 0 = (Int32.ofNat p)) {r q t D E : Nat} {ra rb : Nat → Nat} (hp1 : 2 ≤ p) (hp2 : p ≤ 19) (ha : a = Int32.ofNat r) (hb : b = Int32.ofNat q) (hc : c = Int32.ofNat t) (hr : r < 48) (hq : q < 48) (ht : t < 48) (hrt : r ≠ t) (hqt : q ≠ t) (hD : I dg r = Int32.ofNat D) (hE : I dg q = Int32.ofNat E) (hDE : D + E ≤ 40) (hra : ∀ k, k ≤ D → I nu (41 * r + k) = Int32.ofNat (ra k)) (hrap : ∀ k, k ≤ D → ra k < p) (hrb : ∀ k, k ≤ E → I nu (41 * q + k) = Int32.ofNat (rb k)) (hrbp : ∀ k, k ≤ E → rb k < p) (hnd : nu ≠ dg) (hwn : w ≠ nu) (hwd : w ≠ dg) : Ex (d + 3) 205 [.ref m, .int a, .int b, .int c] (T, N, I, L, R) 0 0 (pV T N R (fun I9 L9 => I9 = (bk (u2 I dg t (Int32.ofNat (D + E))) nu (41 * t) (D + E + 1) (fun j => Int32.ofNat (outM ra rb p E (D + 1) j))) ∧ L9 = (L))) := by
  refine ⟨_, rfl, Nat.le_of_ble_eq_true rfl, fun V C S => ?_⟩
  show V 0 [(0, .ref m), (1, .int a), (2, .int b), (3, .int c)] [] (T, N, I, L, R) 0 0
  subst ha; subst hb; subst hc
  have loop : ∀ (s i : Nat), s = D + 1 - i → i ≤ D + 1 → V 21 [(4, .int (Int32.ofNat i)), (0, .ref m), (1, .int (Int32.ofNat r)), (2, .int (Int32.ofNat q)), (3, .int (Int32.ofNat t))] [] (T, N, (bk (u2 I dg t (Int32.ofNat (D + E))) nu (41 * t) (D + E + 1) (fun j => Int32.ofNat (outM ra rb p E i j))), L, R) 0 0 := by
    intro s
    induction s using Nat.strongRecOn with
    | _ s ih =>
      intro i hs hi
      refine k_iload C rfl rfl rfl ?_
      refine k_aload_n C rfl rfl rfl ?_
      refine g_R C rfl rfl rfl T_m rfl R_m_4 ?_
      refine k_iload_n C rfl rfl rfl ?_
      refine a_I C rfl rfl T_dg (vin (n := r) rfl (by rw [N_dg]; omega) (by rw [N_dg]; exact Nat.le_of_ble_eq_true rfl)) (hvx (n_nat (by omega)) ((bk_a (Ne.symm hnd)).trans ((u2_k hrt).trans hD))) ?_
      refine k_icmp_gt C (t := 100) rfl rfl rfl (fun c29 => ?_) (fun c29 => ?_)
      · skip
        have hi2 : i = D + 1 := by have := (n_lt (by omega) (by omega)).mp c29; omega
        subst hi2
        exact k_vret C rfl rfl (Nat.le_of_ble_eq_true rfl) (Nat.le_of_ble_eq_true rfl) ⟨_, _, rfl, rfl, rfl, rfl⟩
      have hi2 : i < D + 1 := Nat.lt_succ_of_le (Nat.le_of_not_lt (fun h => c29 ((n_lt (by omega) (by omega)).mpr h)))
      refine k_iconst C (x := 0) rfl rfl rfl ?_
      refine k_istore C (lw := [(5, .int _), (4, .int _), (0, _), (1, .int _), (2, .int _), (3, .int _)]) rfl rfl (Nat.le_of_ble_eq_true rfl) rfl ?_
      have inner : ∀ (s2 k : Nat), s2 = E + 1 - k → k ≤ E + 1 → V 35 [(5, .int (Int32.ofNat k)), (4, .int (Int32.ofNat i)), (0, .ref m), (1, .int (Int32.ofNat r)), (2, .int (Int32.ofNat q)), (3, .int (Int32.ofNat t))] [] (T, N, (bk (u2 I dg t (Int32.ofNat (D + E))) nu (41 * t) (D + E + 1) (fun j => Int32.ofNat (inM (outM ra rb p E i) (ra i) rb p i k j))), L, R) 0 0 := by
        intro s2
        induction s2 using Nat.strongRecOn with
        | _ s2 ih2 =>
          intro k hs2 hk
          refine k_iload C rfl rfl rfl ?_
          refine k_aload_n C rfl rfl rfl ?_
          refine g_R C rfl rfl rfl T_m rfl R_m_4 ?_
          refine k_iload_n C rfl rfl rfl ?_
          refine a_I C rfl rfl T_dg (vin (n := q) rfl (by rw [N_dg]; omega) (by rw [N_dg]; exact Nat.le_of_ble_eq_true rfl)) (hvx (n_nat (by omega)) ((bk_a (Ne.symm hnd)).trans ((u2_k hqt).trans hE))) ?_
          refine k_icmp_gt C (t := 94) rfl rfl rfl (fun c43 => ?_) (fun c43 => ?_)
          · skip
            have hk2 : k = E + 1 := by have := (n_lt (by omega) (by omega)).mp c43; omega
            subst hk2
            refine k_sub S [(4, .int (Int32.ofNat i)), (0, .ref m), (1, .int (Int32.ofNat r)), (2, .int (Int32.ofNat q)), (3, .int (Int32.ofNat t))] (List.forall_mem_cons.mpr ⟨List.mem_of_getElem? (i := 1) rfl, List.forall_mem_cons.mpr ⟨List.mem_of_getElem? (i := 2) rfl, List.forall_mem_cons.mpr ⟨List.mem_of_getElem? (i := 3) rfl, List.forall_mem_cons.mpr ⟨List.mem_of_getElem? (i := 4) rfl, List.forall_mem_cons.mpr ⟨List.mem_of_getElem? (i := 5) rfl, fun _ h => nomatch h⟩⟩⟩⟩⟩) ?_
            refine k_iinc C (lw := [(4, .int _), (0, _), (1, .int _), (2, .int _), (3, .int _)]) rfl rfl rfl (Nat.le_of_ble_eq_true rfl) rfl rfl ?_
            refine k_goto C (pc2 := 21) rfl rfl ?_
            show V 21 [(4, .int (Int32.ofNat i + 1)), _, _, _, _] [] _ 0 0
            rw [n_s]
            exact ih (D + 1 - (i + 1)) (by omega) (i + 1) rfl (by omega)
          have hk2 : k < E + 1 := Nat.lt_succ_of_le (Nat.le_of_not_lt (fun h => c43 ((n_lt (by omega) (by omega)).mpr h)))
          have b1 := hrap i (by omega)
          have b2 := hrbp k (by omega)
          have b3 := inM_lt (x := ra i) (rb := rb) (i := i) hp1 (outM_lt (ra := ra) (rb := rb) (E := E) hp1 i) k (i + k)
          have b4 : ra i * rb k % p < p := Nat.mod_lt _ (by omega)
          refine k_aload_n C rfl rfl rfl ?_
          refine k_iload_n C rfl rfl rfl ?_
          refine k_iload C rfl rfl rfl ?_
          refine k_iload C rfl rfl rfl ?_
          refine k_iadd C rfl rfl ?_
          refine k_aload_n C rfl rfl rfl ?_
          refine k_aload_n C rfl rfl rfl ?_
          refine k_iload_n C rfl rfl rfl ?_
          refine k_iload C rfl rfl rfl ?_
          refine k_iload C rfl rfl rfl ?_
          refine k_iadd C rfl rfl ?_
          rw [n_add]
          refine c_VI C (e_m_of T_m R_m_5 T_nu N_nu rfl rfl (by omega)) rfl rfl rfl rfl rfl ⟨_, rfl, rfl, T_m, Nat.le_of_ble_eq_true rfl⟩ rfl rfl (Nat.le_of_ble_eq_true rfl) (Nat.le_of_ble_eq_true rfl) (Nat.le_of_ble_eq_true rfl) ?_
          rintro _ _ _ ⟨hx7, hI8, hL9⟩
          have hx7 := hx7.symm; subst hx7
          have hI8 := hI8.symm; subst hI8; have hL9 := hL9.symm; subst hL9
          rw [bk_i (by omega)]
          refine k_aload_n C rfl rfl rfl ?_
          refine k_aload_n C rfl rfl rfl ?_
          refine k_iload_n C rfl rfl rfl ?_
          refine k_iload C rfl rfl rfl ?_
          refine c_VI C (e_m_of T_m R_m_5 T_nu N_nu rfl rfl (by omega)) rfl rfl rfl rfl rfl ⟨_, rfl, rfl, T_m, Nat.le_of_ble_eq_true rfl⟩ rfl rfl (Nat.le_of_ble_eq_true rfl) (Nat.le_of_ble_eq_true rfl) (Nat.le_of_ble_eq_true rfl) ?_
          rintro _ _ _ ⟨hx7, hI8, hL9⟩
          have hx7 := hx7.symm; subst hx7
          have hI8 := hI8.symm; subst hI8; have hL9 := hL9.symm; subst hL9
          rw [bk_o (by omega), u2_a hnd, hra i (by omega)]
          refine k_aload_n C rfl rfl rfl ?_
          refine k_iload_n C rfl rfl rfl ?_
          refine k_iload C rfl rfl rfl ?_
          refine c_VI C (e_m_of T_m R_m_5 T_nu N_nu rfl rfl (by omega)) rfl rfl rfl rfl rfl ⟨_, rfl, rfl, T_m, Nat.le_of_ble_eq_true rfl⟩ rfl rfl (Nat.le_of_ble_eq_true rfl) (Nat.le_of_ble_eq_true rfl) (Nat.le_of_ble_eq_true rfl) ?_
          rintro _ _ _ ⟨hx7, hI8, hL9⟩
          have hx7 := hx7.symm; subst hx7
          have hI8 := hI8.symm; subst hI8; have hL9 := hL9.symm; subst hL9
          rw [bk_o (by omega), u2_a hnd, hrb k (by omega)]
          refine c_VI C (e_m_timesN T_m R_m_1 T_w N_w (((bk_a hwn).trans ((u2_a hwd).trans I_w_0))) hp1 hp2 rfl rfl (by omega) (by omega)) rfl rfl rfl rfl rfl ⟨_, rfl, rfl, T_m, Nat.le_of_ble_eq_true rfl⟩ rfl rfl (Nat.le_of_ble_eq_true rfl) (Nat.le_of_ble_eq_true rfl) (Nat.le_of_ble_eq_true rfl) ?_
          rintro _ _ _ ⟨hx7, hI8, hL9⟩
          have hx7 := hx7.symm; subst hx7
          have hI8 := hI8.symm; subst hI8; have hL9 := hL9.symm; subst hL9
          refine c_VI C (e_m_plusN T_m R_m_1 T_w N_w (((bk_a hwn).trans ((u2_a hwd).trans I_w_0))) hp1 hp2 rfl rfl (by omega) (by omega)) rfl rfl rfl rfl rfl ⟨_, rfl, rfl, T_m, Nat.le_of_ble_eq_true rfl⟩ rfl rfl (Nat.le_of_ble_eq_true rfl) (Nat.le_of_ble_eq_true rfl) (Nat.le_of_ble_eq_true rfl) ?_
          rintro _ _ _ ⟨hx7, hI8, hL9⟩
          have hx7 := hx7.symm; subst hx7
          have hI8 := hI8.symm; subst hI8; have hL9 := hL9.symm; subst hL9
          refine c_VV C (e_m_put T_m R_m_5 T_nu N_nu rfl rfl (by omega)) rfl rfl rfl rfl rfl ⟨_, rfl, rfl, T_m, Nat.le_of_ble_eq_true rfl⟩ rfl rfl (Nat.le_of_ble_eq_true rfl) (Nat.le_of_ble_eq_true rfl) (Nat.le_of_ble_eq_true rfl) ?_
          rintro _ _ ⟨hI8, hL9⟩
          have hI8 := hI8.symm; subst hI8; have hL9 := hL9.symm; subst hL9
          rw [bk_u (by omega), inM_s]
          refine k_iinc C (lw := [(5, .int _), (4, .int _), (0, _), (1, .int _), (2, .int _), (3, .int _)]) rfl rfl rfl (Nat.le_of_ble_eq_true rfl) rfl rfl ?_
          refine k_goto C (pc2 := 35) rfl rfl ?_
          show V 35 [(5, .int (Int32.ofNat k + 1)), _, _, _, _, _] [] _ 0 0
          rw [n_s]
          exact ih2 (E + 1 - (k + 1)) (by omega) (k + 1) rfl (by omega)
      exact inner (E + 1) 0 rfl (Nat.zero_le _)
  refine k_aload_n C rfl rfl rfl ?_
  refine k_iload_n C rfl rfl rfl ?_
  refine k_aload_n C rfl rfl rfl ?_
  refine g_R C rfl rfl rfl T_m rfl R_m_4 ?_
  refine k_iload_n C rfl rfl rfl ?_
  refine a_I C rfl rfl T_dg (vin (n := r) rfl (by rw [N_dg]; omega) (by rw [N_dg]; exact Nat.le_of_ble_eq_true rfl)) (hvx (n_nat (by omega)) hD) ?_
  refine k_aload_n C rfl rfl rfl ?_
  refine g_R C rfl rfl rfl T_m rfl R_m_4 ?_
  refine k_iload_n C rfl rfl rfl ?_
  refine a_I C rfl rfl T_dg (vin (n := q) rfl (by rw [N_dg]; omega) (by rw [N_dg]; exact Nat.le_of_ble_eq_true rfl)) (hvx (n_nat (by omega)) hE) ?_
  refine k_iadd C rfl rfl ?_
  rw [n_add]
  refine c_VV C (e_m_clears T_m R_m_5 T_nu N_nu R_m_4 T_dg N_dg rfl rfl ht hDE) rfl rfl rfl rfl rfl ⟨_, rfl, rfl, T_m, Nat.le_of_ble_eq_true rfl⟩ rfl rfl (Nat.le_of_ble_eq_true rfl) (Nat.le_of_ble_eq_true rfl) (Nat.le_of_ble_eq_true rfl) ?_
  rintro _ _ ⟨hI8, hL9⟩
  have hI8 := hI8.symm; subst hI8; have hL9 := hL9.symm; subst hL9
  refine k_iconst C (x := 0) rfl rfl rfl ?_
  refine k_istore C (lw := [(4, .int _), (0, _), (1, .int _), (2, .int _), (3, .int _)]) rfl rfl (Nat.le_of_ble_eq_true rfl) rfl ?_
  exact loop (D + 1) 0 rfl (Nat.zero_le _)
end
-- 39.63.rrow.lean.txt
section
/-! the rows of the reference, any state: widened by a line -/
def g0M (g : Nat → Nat) (D j : Nat) : Nat := if j = D + 1 then 0 else g j
def widM (g : Nat → Nat) (D u v p j : Nat) : Nat := (g0M g D j * u % p + (if 0 < j then g0M g D (j - 1) * v % p else 0)) % p
def hlfM (g : Nat → Nat) (D u v p n j : Nat) : Nat := if j < n then g0M g D j else widM g D u v p j
theorem g0M_lt {g : Nat → Nat} {D p j : Nat} (hp : 2 ≤ p) (hg : ∀ k, k ≤ D → g k < p) (hj : j ≤ D + 1) : g0M g D j < p := by
  unfold g0M; by_cases e : j = D + 1
  · rw [if_pos e]; omega
  · rw [if_neg e]; exact hg j (by omega)
theorem hlf_s {g : Nat → Nat} {D u v p n : Nat} : (fun j => if j = n then Int32.ofNat (widM g D u v p n) else Int32.ofNat (hlfM g D u v p (n + 1) j)) = fun j => Int32.ofNat (hlfM g D u v p n j) := by
  funext j; unfold hlfM
  by_cases e : j = n
  · rw [if_pos e, if_neg (by omega), e]
  · rw [if_neg e]
    by_cases q : j < n
    · rw [if_pos q, if_pos (by omega)]
    · rw [if_neg q, if_neg (by omega)]
theorem n_p {k : Nat} (h : 1 ≤ k) : Int32.ofNat k - 1 = Int32.ofNat (k - 1) := n_sub (n := k) (m := 1) h
theorem n_mi {x : Int32} : x + (-1) = x - 1 := by grind
theorem n_pp {k : Nat} : Int32.ofNat (k + 1) - 1 = Int32.ofNat k := n_p (by omega)
theorem wid_0 {I : IT} {nu dg r D u v p : Nat} {g : Nat → Nat} (hnd : nu ≠ dg) (hg : ∀ k, k ≤ D → I nu (41 * r + k) = Int32.ofNat (g k)) : u2 (u2 I nu (41 * r + (D + 1)) 0) dg r (Int32.ofNat (D + 1)) = bk (u2 I dg r (Int32.ofNat (D + 1))) nu (41 * r) (D + 2) (fun j => Int32.ofNat (hlfM g D u v p (D + 2) j)) := by
  funext b j
  by_cases e1 : b = nu
  · subst e1
    rw [u2_a hnd]
    by_cases q : 41 * r ≤ j ∧ j < 41 * r + (D + 2)
    · obtain ⟨k, rfl⟩ : ∃ k, j = 41 * r + k := ⟨j - 41 * r, by omega⟩
      rw [bk_i (by omega)]
      unfold hlfM g0M
      rw [if_pos (show k < D + 2 by omega)]
      by_cases e : k = D + 1
      · subst e; rw [if_pos rfl, u2_s]; rfl
      · rw [if_neg e, u2_k (by omega)]; exact hg k (by omega)
    · rw [bk_o q, u2_a hnd, u2_k (by omega)]
  · rw [bk_a e1]
    by_cases e2 : b = dg ∧ j = r
    · obtain ⟨rfl, rfl⟩ := e2; rw [u2_s, u2_s]
    · have h1 : ∀ (J : IT), u2 J dg r (Int32.ofNat (D + 1)) b j = J b j := fun J => if_neg e2
      rw [h1, h1, u2_a e1]
theorem e_m_widens {d : Nat} {T N : Nat → Nat} {I : IT} {L : LT} {R : RT} {m w nu dg : Nat} {a b c : Int32}{p : Nat} (T_m : T m = 13) (R_m_1 : R m 1 = some w) (T_w : T w = 20) (N_w : N w = 4007) (R_m_5 : R m 5 = some nu) (T_nu : T nu = 20) (N_nu : N nu = 1968) (R_m_4 : R m 4 = some dg) (T_dg : T dg = 20) (N_dg : N dg = 48) (I_w_0 : I w 0 = (Int32.ofNat p)) {r D u v : Nat} {g : Nat → Nat} (hp1 : 2 ≤ p) (hp2 : p ≤ 19) (ha : a = Int32.ofNat r) (hb : b = Int32.ofNat u) (hc : c = Int32.ofNat v) (hr : r < 48) (hu : u < p) (hv : v < p) (hD : I dg r = Int32.ofNat D) (hD8 : D ≤ 39) (hg : ∀ k, k ≤ D → I nu (41 * r + k) = Int32.ofNat (g k)) (hgp : ∀ k, k ≤ D → g k < p) (hnd : nu ≠ dg) (hwn : w ≠ nu) (hwd : w ≠ dg) : Ex (d + 3) 213 [.ref m, .int a, .int b, .int c] (T, N, I, L, R) 0 0 (pV T N R (fun I9 L9 => I9 = (bk (u2 I dg r (Int32.ofNat (D + 1))) nu (41 * r) (D + 2) (fun j => Int32.ofNat (widM g D u v p j))) ∧ L9 = (L))) := by
  refine ⟨_, rfl, Nat.le_of_ble_eq_true rfl, fun V C S => ?_⟩
  show V 0 [(0, .ref m), (1, .int a), (2, .int b), (3, .int c)] [] (T, N, I, L, R) 0 0
  subst ha; subst hb; subst hc
  have loop : ∀ (n : Nat), n ≤ D + 2 → V 32 [(4, .int (Int32.ofNat n - 1)), (0, .ref m), (1, .int (Int32.ofNat r)), (2, .int (Int32.ofNat u)), (3, .int (Int32.ofNat v))] [] (T, N, (bk (u2 I dg r (Int32.ofNat (D + 1))) nu (41 * r) (D + 2) (fun j => Int32.ofNat (hlfM g D u v p n j))), L, R) 0 0 := by
    intro n
    induction n with
    | zero =>
      intro _
      refine k_iload C rfl rfl rfl ?_
      refine k_if_lt C (t := 89) rfl rfl rfl (fun _ => ?_) (fun c => absurd (by decide) c)
      exact k_vret C rfl rfl (Nat.le_of_ble_eq_true rfl) (Nat.le_of_ble_eq_true rfl) ⟨_, _, rfl, rfl, rfl, rfl⟩
    | succ k ih0 =>
      intro hk
      have ih := ih0 (by omega)
      rw [n_pp]
      have q1 := g0M_lt (j := k) hp1 hgp (by omega)
      have q2 := g0M_lt (j := k - 1) hp1 hgp (by omega)
      have q3 : g0M g D k * u % p < p := Nat.mod_lt _ (by omega)
      have q4 : g0M g D (k - 1) * v % p < p := Nat.mod_lt _ (by omega)
      by_cases hk0 : k = 0
      · skip
        refine k_iload C rfl rfl rfl ?_
        refine k_if_lt C (t := 89) rfl rfl rfl (fun c34 => ?_) (fun c34 => ?_)
        · skip
          exact absurd c34 (by rw [show (0 : Int32) = Int32.ofNat 0 from rfl, n_lt (by omega) (by omega)]; omega)
        refine k_aload_n C rfl rfl rfl ?_
        refine k_iload_n C rfl rfl rfl ?_
        refine k_iload C rfl rfl rfl ?_
        refine k_aload_n C rfl rfl rfl ?_
        refine k_aload_n C rfl rfl rfl ?_
        refine k_aload_n C rfl rfl rfl ?_
        refine k_iload_n C rfl rfl rfl ?_
        refine k_iload C rfl rfl rfl ?_
        refine c_VI C (e_m_of T_m R_m_5 T_nu N_nu rfl rfl (by omega)) rfl rfl rfl rfl rfl ⟨_, rfl, rfl, T_m, Nat.le_of_ble_eq_true rfl⟩ rfl rfl (Nat.le_of_ble_eq_true rfl) (Nat.le_of_ble_eq_true rfl) (Nat.le_of_ble_eq_true rfl) ?_
        rintro _ _ _ ⟨hx7, hI8, hL9⟩
        have hx7 := hx7.symm; subst hx7
        have hI8 := hI8.symm; subst hI8; have hL9 := hL9.symm; subst hL9
        rw [bk_i (by omega), show hlfM g D u v p (k + 1) k = g0M g D k from if_pos (by omega)]
        refine k_iload_n C rfl rfl rfl ?_
        refine c_VI C (e_m_timesN T_m R_m_1 T_w N_w (((bk_a hwn).trans ((u2_a hwd).trans I_w_0))) hp1 hp2 rfl rfl (by omega) (by omega)) rfl rfl rfl rfl rfl ⟨_, rfl, rfl, T_m, Nat.le_of_ble_eq_true rfl⟩ rfl rfl (Nat.le_of_ble_eq_true rfl) (Nat.le_of_ble_eq_true rfl) (Nat.le_of_ble_eq_true rfl) ?_
        rintro _ _ _ ⟨hx7, hI8, hL9⟩
        have hx7 := hx7.symm; subst hx7
        have hI8 := hI8.symm; subst hI8; have hL9 := hL9.symm; subst hL9
        refine k_iload C rfl rfl rfl ?_
        refine k_if_le C (t := 76) rfl rfl rfl (fun c56 => ?_) (fun c56 => ?_)
        · skip
          refine k_iconst C (x := 0) rfl rfl rfl ?_
          refine c_VI C (e_m_plusN T_m R_m_1 T_w N_w (((bk_a hwn).trans ((u2_a hwd).trans I_w_0))) (v := 0) hp1 hp2 rfl rfl (by omega) (by omega)) rfl rfl rfl rfl rfl ⟨_, rfl, rfl, T_m, Nat.le_of_ble_eq_true rfl⟩ rfl rfl (Nat.le_of_ble_eq_true rfl) (Nat.le_of_ble_eq_true rfl) (Nat.le_of_ble_eq_true rfl) ?_
          rintro _ _ _ ⟨hx7, hI8, hL9⟩
          have hx7 := hx7.symm; subst hx7
          have hI8 := hI8.symm; subst hI8; have hL9 := hL9.symm; subst hL9
          refine c_VV C (e_m_put T_m R_m_5 T_nu N_nu rfl rfl (by omega)) rfl rfl rfl rfl rfl ⟨_, rfl, rfl, T_m, Nat.le_of_ble_eq_true rfl⟩ rfl rfl (Nat.le_of_ble_eq_true rfl) (Nat.le_of_ble_eq_true rfl) (Nat.le_of_ble_eq_true rfl) ?_
          rintro _ _ ⟨hI8, hL9⟩
          have hI8 := hI8.symm; subst hI8; have hL9 := hL9.symm; subst hL9
          have hw : Int32.ofNat ((g0M g D k * u % p + 0) % p) = Int32.ofNat (widM g D u v p k) := by unfold widM; rw [if_neg (by omega)]
          rw [bk_u (by omega), hw, hlf_s]
          refine k_iinc C (lw := [(4, .int _), (0, _), (1, .int _), (2, .int _), (3, .int _)]) rfl rfl rfl (Nat.le_of_ble_eq_true rfl) rfl rfl ?_
          refine k_goto C (pc2 := 32) rfl rfl ?_
          show V 32 [(4, .int (Int32.ofNat k + (-1))), _, _, _, _] [] _ 0 0
          rw [n_mi]
          exact ih
        exact absurd (by subst hk0; decide) c56
      · skip
        refine k_iload C rfl rfl rfl ?_
        refine k_if_lt C (t := 89) rfl rfl rfl (fun c34 => ?_) (fun c34 => ?_)
        · skip
          exact absurd c34 (by rw [show (0 : Int32) = Int32.ofNat 0 from rfl, n_lt (by omega) (by omega)]; omega)
        refine k_aload_n C rfl rfl rfl ?_
        refine k_iload_n C rfl rfl rfl ?_
        refine k_iload C rfl rfl rfl ?_
        refine k_aload_n C rfl rfl rfl ?_
        refine k_aload_n C rfl rfl rfl ?_
        refine k_aload_n C rfl rfl rfl ?_
        refine k_iload_n C rfl rfl rfl ?_
        refine k_iload C rfl rfl rfl ?_
        refine c_VI C (e_m_of T_m R_m_5 T_nu N_nu rfl rfl (by omega)) rfl rfl rfl rfl rfl ⟨_, rfl, rfl, T_m, Nat.le_of_ble_eq_true rfl⟩ rfl rfl (Nat.le_of_ble_eq_true rfl) (Nat.le_of_ble_eq_true rfl) (Nat.le_of_ble_eq_true rfl) ?_
        rintro _ _ _ ⟨hx7, hI8, hL9⟩
        have hx7 := hx7.symm; subst hx7
        have hI8 := hI8.symm; subst hI8; have hL9 := hL9.symm; subst hL9
        rw [bk_i (by omega), show hlfM g D u v p (k + 1) k = g0M g D k from if_pos (by omega)]
        refine k_iload_n C rfl rfl rfl ?_
        refine c_VI C (e_m_timesN T_m R_m_1 T_w N_w (((bk_a hwn).trans ((u2_a hwd).trans I_w_0))) hp1 hp2 rfl rfl (by omega) (by omega)) rfl rfl rfl rfl rfl ⟨_, rfl, rfl, T_m, Nat.le_of_ble_eq_true rfl⟩ rfl rfl (Nat.le_of_ble_eq_true rfl) (Nat.le_of_ble_eq_true rfl) (Nat.le_of_ble_eq_true rfl) ?_
        rintro _ _ _ ⟨hx7, hI8, hL9⟩
        have hx7 := hx7.symm; subst hx7
        have hI8 := hI8.symm; subst hI8; have hL9 := hL9.symm; subst hL9
        refine k_iload C rfl rfl rfl ?_
        refine k_if_le C (t := 76) rfl rfl rfl (fun c56 => ?_) (fun c56 => ?_)
        · skip
          exact absurd c56 (by rw [show (0 : Int32) = Int32.ofNat 0 from rfl, n_le (by omega) (by omega)]; omega)
        refine k_aload_n C rfl rfl rfl ?_
        refine k_aload_n C rfl rfl rfl ?_
        refine k_iload_n C rfl rfl rfl ?_
        refine k_iload C rfl rfl rfl ?_
        refine k_iconst C (x := 1) rfl rfl rfl ?_
        refine k_isub C rfl rfl ?_
        rw [n_p (by omega)]
        refine c_VI C (e_m_of T_m R_m_5 T_nu N_nu rfl rfl (by omega)) rfl rfl rfl rfl rfl ⟨_, rfl, rfl, T_m, Nat.le_of_ble_eq_true rfl⟩ rfl rfl (Nat.le_of_ble_eq_true rfl) (Nat.le_of_ble_eq_true rfl) (Nat.le_of_ble_eq_true rfl) ?_
        rintro _ _ _ ⟨hx7, hI8, hL9⟩
        have hx7 := hx7.symm; subst hx7
        have hI8 := hI8.symm; subst hI8; have hL9 := hL9.symm; subst hL9
        rw [bk_i (by omega), show hlfM g D u v p (k + 1) (k - 1) = g0M g D (k - 1) from if_pos (by omega)]
        refine k_iload_n C rfl rfl rfl ?_
        refine c_VI C (e_m_timesN T_m R_m_1 T_w N_w (((bk_a hwn).trans ((u2_a hwd).trans I_w_0))) hp1 hp2 rfl rfl (by omega) (by omega)) rfl rfl rfl rfl rfl ⟨_, rfl, rfl, T_m, Nat.le_of_ble_eq_true rfl⟩ rfl rfl (Nat.le_of_ble_eq_true rfl) (Nat.le_of_ble_eq_true rfl) (Nat.le_of_ble_eq_true rfl) ?_
        rintro _ _ _ ⟨hx7, hI8, hL9⟩
        have hx7 := hx7.symm; subst hx7
        have hI8 := hI8.symm; subst hI8; have hL9 := hL9.symm; subst hL9
        refine k_goto C (pc2 := 77) rfl rfl ?_
        refine c_VI C (e_m_plusN T_m R_m_1 T_w N_w (((bk_a hwn).trans ((u2_a hwd).trans I_w_0))) hp1 hp2 rfl rfl (by omega) (by omega)) rfl rfl rfl rfl rfl ⟨_, rfl, rfl, T_m, Nat.le_of_ble_eq_true rfl⟩ rfl rfl (Nat.le_of_ble_eq_true rfl) (Nat.le_of_ble_eq_true rfl) (Nat.le_of_ble_eq_true rfl) ?_
        rintro _ _ _ ⟨hx7, hI8, hL9⟩
        have hx7 := hx7.symm; subst hx7
        have hI8 := hI8.symm; subst hI8; have hL9 := hL9.symm; subst hL9
        refine c_VV C (e_m_put T_m R_m_5 T_nu N_nu rfl rfl (by omega)) rfl rfl rfl rfl rfl ⟨_, rfl, rfl, T_m, Nat.le_of_ble_eq_true rfl⟩ rfl rfl (Nat.le_of_ble_eq_true rfl) (Nat.le_of_ble_eq_true rfl) (Nat.le_of_ble_eq_true rfl) ?_
        rintro _ _ ⟨hI8, hL9⟩
        have hI8 := hI8.symm; subst hI8; have hL9 := hL9.symm; subst hL9
        have hw : Int32.ofNat ((g0M g D k * u % p + g0M g D (k - 1) * v % p) % p) = Int32.ofNat (widM g D u v p k) := by unfold widM; rw [if_pos (by omega)]
        rw [bk_u (by omega), hw, hlf_s]
        refine k_iinc C (lw := [(4, .int _), (0, _), (1, .int _), (2, .int _), (3, .int _)]) rfl rfl rfl (Nat.le_of_ble_eq_true rfl) rfl rfl ?_
        refine k_goto C (pc2 := 32) rfl rfl ?_
        show V 32 [(4, .int (Int32.ofNat k + (-1))), _, _, _, _] [] _ 0 0
        rw [n_mi]
        exact ih
  refine k_aload_n C rfl rfl rfl ?_
  refine k_iload_n C rfl rfl rfl ?_
  refine k_aload_n C rfl rfl rfl ?_
  refine g_R C rfl rfl rfl T_m rfl R_m_4 ?_
  refine k_iload_n C rfl rfl rfl ?_
  refine a_I C rfl rfl T_dg (vin (n := r) rfl (by rw [N_dg]; omega) (by rw [N_dg]; exact Nat.le_of_ble_eq_true rfl)) (hvx (n_nat (by omega)) hD) ?_
  refine k_iconst C (x := 1) rfl rfl rfl ?_
  refine k_iadd C rfl rfl ?_
  rw [n_s]
  refine k_iconst C (x := 0) rfl rfl rfl ?_
  refine c_VV C (e_m_put T_m R_m_5 T_nu N_nu rfl rfl (by omega)) rfl rfl rfl rfl rfl ⟨_, rfl, rfl, T_m, Nat.le_of_ble_eq_true rfl⟩ rfl rfl (Nat.le_of_ble_eq_true rfl) (Nat.le_of_ble_eq_true rfl) (Nat.le_of_ble_eq_true rfl) ?_
  rintro _ _ ⟨hI8, hL9⟩
  have hI8 := hI8.symm; subst hI8; have hL9 := hL9.symm; subst hL9
  refine k_aload_n C rfl rfl rfl ?_
  refine g_R C rfl rfl rfl T_m rfl R_m_4 ?_
  refine k_iload_n C rfl rfl rfl ?_
  refine k_dup2 C rfl rfl rfl rfl ?_
  refine a_I C rfl rfl T_dg (vin (n := r) rfl (by rw [N_dg]; omega) (by rw [N_dg]; exact Nat.le_of_ble_eq_true rfl)) (hvx (n_nat (by omega)) ((u2_a (Ne.symm hnd)).trans hD)) ?_
  refine k_iconst C (x := 1) rfl rfl rfl ?_
  refine k_iadd C rfl rfl ?_
  rw [n_s]
  refine s_I C rfl rfl T_dg (vin (n := r) rfl (by rw [N_dg]; omega) (by rw [N_dg]; exact Nat.le_of_ble_eq_true rfl)) (n_nat (by omega)) ?_
  rw [wid_0 (u := u) (v := v) (p := p) hnd hg]
  refine k_aload_n C rfl rfl rfl ?_
  refine g_R C rfl rfl rfl T_m rfl R_m_4 ?_
  refine k_iload_n C rfl rfl rfl ?_
  refine a_I C rfl rfl T_dg (vin (n := r) rfl (by rw [N_dg]; omega) (by rw [N_dg]; exact Nat.le_of_ble_eq_true rfl)) (hvx (n_nat (by omega)) ((bk_a (Ne.symm hnd)).trans u2_s)) ?_
  refine k_istore C (lw := [(4, .int _), (0, _), (1, .int _), (2, .int _), (3, .int _)]) rfl rfl (Nat.le_of_ble_eq_true rfl) rfl ?_
  have h0 := loop (D + 2) (Nat.le_refl _)
  rw [n_pp (k := D + 1)] at h0
  exact h0
end
-- 39.64.rows.lean.txt
section
/-! rows of the reference as facts, not as whole memories: what a row holds (Rw), what stays (Rs) -/
def Rs (nu dg : Nat) (S : Nat → Prop) (I I' : IT) : Prop := (∀ a, a ≠ nu → a ≠ dg → I' a = I a) ∧ (∀ r, r < 48 → ¬ S r → I' dg r = I dg r) ∧ (∀ r k, r < 48 → k < 41 → ¬ S r → I' nu (41 * r + k) = I nu (41 * r + k))
theorem Rs.rf {nu dg : Nat} {S : Nat → Prop} {I : IT} : Rs nu dg S I I := ⟨fun _ _ _ => rfl, fun _ _ _ => rfl, fun _ _ _ _ _ => rfl⟩
theorem Rs.tr {nu dg : Nat} {S : Nat → Prop} {I J K : IT} (h : Rs nu dg S I J) (g : Rs nu dg S J K) : Rs nu dg S I K :=
  ⟨fun a x y => (g.1 a x y).trans (h.1 a x y), fun r x y => (g.2.1 r x y).trans (h.2.1 r x y), fun r k x y z => (g.2.2 r k x y z).trans (h.2.2 r k x y z)⟩
theorem Rs.mono {nu dg : Nat} {S S' : Nat → Prop} {I J : IT} (h : Rs nu dg S I J) (g : ∀ r, S r → S' r) : Rs nu dg S' I J :=
  ⟨h.1, fun r x y => h.2.1 r x (fun z => y (g r z)), fun r k x y z => h.2.2 r k x y (fun q => z (g r q))⟩
theorem Rs.fr {nu dg : Nat} {S : Nat → Prop} {I J : IT} {L : LT} {A : Nat → Prop} (h : Rs nu dg S I J) (h1 : A nu) (h2 : A dg) : Fr A I L J L :=
  fun a ha => ⟨h.1 a (fun e => ha (e ▸ h1)) (fun e => ha (e ▸ h2)), rfl⟩
theorem Rs_bk {nu dg t D : Nat} {I : IT} {v : Int32} {f : Nat → Int32} (hnd : nu ≠ dg) (hD : D ≤ 40) : Rs nu dg (fun r => r = t) I (bk (u2 I dg t v) nu (41 * t) (D + 1) f) := by
  refine ⟨fun a h1 h2 => ?_, fun r _ hr => ?_, fun r k _ hk hr => ?_⟩
  · funext j; rw [bk_a h1, u2_a h2]
  · rw [bk_a (Ne.symm hnd), u2_k hr]
  · have hr : r ≠ t := hr
    rw [bk_o (by omega), u2_a hnd]
def Rw (nu dg p : Nat) (I : IT) (r D : Nat) (g : Nat → Nat) : Prop := I dg r = Int32.ofNat D ∧ D ≤ 40 ∧ (∀ k, k ≤ D → I nu (41 * r + k) = Int32.ofNat (g k)) ∧ ∀ k, k ≤ D → g k < p
theorem Rw_bk {nu dg p t D : Nat} {I : IT} {g : Nat → Nat} {f : Nat → Int32} (hnd : nu ≠ dg) (hD : D ≤ 40) (hf : ∀ k, k ≤ D → f k = Int32.ofNat (g k)) (hg : ∀ k, k ≤ D → g k < p) : Rw nu dg p (bk (u2 I dg t (Int32.ofNat D)) nu (41 * t) (D + 1) f) t D g :=
  ⟨(bk_a (Ne.symm hnd)).trans u2_s, hD, fun k hk => (bk_i (by omega)).trans (hf k hk), hg⟩
theorem Rw.keep {nu dg p r D : Nat} {g : Nat → Nat} {S : Nat → Prop} {I J : IT} (h : Rw nu dg p I r D g) (hr : r < 48) (k : Rs nu dg S I J) (hs : ¬ S r) : Rw nu dg p J r D g :=
  ⟨(k.2.1 r hr hs).trans h.1, h.2.1, fun j hj => (k.2.2 r j hr (by have := h.2.1; omega) hs).trans (h.2.2.1 j hj), h.2.2.2⟩
theorem Rw.put {nu dg p r D j : Nat} {g : Nat → Nat} {I : IT} {x : Nat} (hnd : nu ≠ dg) (h : Rw nu dg p I r D g) (hx : x < p) : Rw nu dg p (u2 I nu (41 * r + j) (Int32.ofNat x)) r D (fun k => if k = j then x else g k) := by
  refine ⟨(u2_a (Ne.symm hnd)).trans h.1, h.2.1, fun k hk => ?_, fun k hk => ?_⟩
  · by_cases e : k = j
    · subst e; rw [u2_s]; show _ = Int32.ofNat (if k = k then x else g k); rw [if_pos rfl]
    · rw [u2_k (by omega)]; show _ = Int32.ofNat (if k = j then x else g k); rw [if_neg e]; exact h.2.2.1 k hk
  · by_cases e : k = j
    · show (if k = j then x else g k) < p; rw [if_pos e]; exact hx
    · show (if k = j then x else g k) < p; rw [if_neg e]; exact h.2.2.2 k hk
theorem Rs.put {nu dg r j : Nat} {I : IT} {x : Int32} (hj : j < 41) (hnd : nu ≠ dg) : Rs nu dg (fun t => t = r) I (u2 I nu (41 * r + j) x) := by
  refine ⟨fun a h1 h2 => ?_, fun t _ ht => ?_, fun t k _ hk ht => ?_⟩
  · exact u2_r h1
  · exact u2_a (Ne.symm hnd)
  · have ht : t ≠ r := ht
    exact u2_k (by omega)
end
-- 39.65.mix.lean.txt
section
/-! the rows of the reference, any state: mixed by a table -/
def itw (g : Nat → Nat) (D u v p : Nat) : Nat → Nat → Nat
  | 0 => g
  | n + 1 => widM (itw g D u v p n) (D + n) u v p
def baM (x : Nat) : Nat → Nat := fun j => if j = 0 then x else 0
def mixG (x D a b c e p k : Nat) : Nat → Nat := itw (itw (baM x) 0 a b p (D - k)) (D - k) c e p k
def addM (f g : Nat → Nat) (p i : Nat) : Nat → Nat := fun j => if j < i then (f j + g j) % p else f j
def mxM (ra : Nat → Nat) (D a b c e p : Nat) : Nat → Nat → Nat
  | 0 => fun _ => 0
  | k + 1 => addM (mxM ra D a b c e p k) (mixG (ra k) D a b c e p k) p (D + 1)
theorem addM_s {f g : Nat → Nat} {p i : Nat} : (fun k => if k = i then (f i + g i) % p else addM f g p i k) = addM f g p (i + 1) := by
  funext j; unfold addM
  by_cases e : j = i
  · rw [if_pos e, if_pos (by omega), e]
  · rw [if_neg e]
    by_cases q : j < i
    · rw [if_pos q, if_pos (by omega)]
    · rw [if_neg q, if_neg (by omega)]
theorem addM_0 {f g : Nat → Nat} {p : Nat} : addM f g p 0 = f := by
  funext j; unfold addM; rw [if_neg (by omega)]
theorem addM_i {f g : Nat → Nat} {p i : Nat} : addM f g p i i = f i := if_neg (by omega)
theorem e_m_mixes {d : Nat} {T N : Nat → Nat} {I : IT} {L : LT} {R : RT} {m w nu dg : Nat} {a b : Int32}{p ma mb mc md : Nat} (T_m : T m = 13) (R_m_1 : R m 1 = some w) (T_w : T w = 20) (N_w : N w = 4007) (R_m_5 : R m 5 = some nu) (T_nu : T nu = 20) (N_nu : N nu = 1968) (R_m_4 : R m 4 = some dg) (T_dg : T dg = 20) (N_dg : N dg = 48) (I_w_0 : I w 0 = (Int32.ofNat p)) (I_m_6 : I m 6 = (Int32.ofNat ma)) (I_m_7 : I m 7 = (Int32.ofNat mb)) (I_m_8 : I m 8 = (Int32.ofNat mc)) (I_m_9 : I m 9 = (Int32.ofNat md)) {r t D : Nat} {ra : Nat → Nat} (hp1 : 2 ≤ p) (hp2 : p ≤ 19) (ha : a = Int32.ofNat r) (hb : b = Int32.ofNat t) (hr : r < 48) (ht : t < 48) (hrt : r ≠ t) (hr5 : r ≠ 45) (ht5 : t ≠ 45) (hma : ma < p) (hmb : mb < p) (hmc : mc < p) (hmd : md < p) (hD : I dg r = Int32.ofNat D) (hD8 : D ≤ 40) (hra : ∀ k, k ≤ D → I nu (41 * r + k) = Int32.ofNat (ra k)) (hrap : ∀ k, k ≤ D → ra k < p) (hnd : nu ≠ dg) (hwn : w ≠ nu) (hwd : w ≠ dg) : Ex (d + 4) 214 [.ref m, .int a, .int b] (T, N, I, L, R) 0 0 (pV T N R (fun I9 L9 => Rs nu dg (fun z => z = t ∨ z = 45) I I9 ∧ L9 = L ∧ Rw nu dg p I9 t D (mxM ra D ma mb mc md p (D + 1)))) := by
  refine ⟨_, rfl, Nat.le_of_ble_eq_true rfl, fun V C S => ?_⟩
  show V 0 [(0, .ref m), (1, .int a), (2, .int b)] [] (T, N, I, L, R) 0 0
  subst ha; subst hb
  have loop : ∀ (s k : Nat) (I1 : IT), s = D + 1 - k → k ≤ D + 1 → Rs nu dg (fun z => z = t ∨ z = 45) I I1 → Rw nu dg p I1 t D (mxM ra D ma mb mc md p k) → V 16 [(4, .int (Int32.ofNat k)), (3, .int (Int32.ofNat D)), (0, .ref m), (1, .int (Int32.ofNat r)), (2, .int (Int32.ofNat t))] [] (T, N, I1, L, R) 0 0 := by
    intro s
    induction s using Nat.strongRecOn with
    | _ s iho =>
      intro k I1 hs hk hR hT
      refine k_iload C rfl rfl rfl ?_
      refine k_iload_n C rfl rfl rfl ?_
      refine k_icmp_gt C (t := 152) rfl rfl rfl (fun c19 => ?_) (fun c19 => ?_)
      · skip
        have hi2 : k = D + 1 := by have := (n_lt (by omega) (by omega)).mp c19; omega
        subst hi2
        exact k_vret C rfl rfl (Nat.le_of_ble_eq_true rfl) (Nat.le_of_ble_eq_true rfl) ⟨_, _, rfl, rfl, hR, rfl, hT⟩
      have hk2 : k < D + 1 := Nat.lt_succ_of_le (Nat.le_of_not_lt (fun h => c19 ((n_lt (by omega) (by omega)).mpr h)))
      have loop3 : ∀ (s i : Nat) (I1 : IT), s = (D + 1) - i → i ≤ (D + 1) → Rs nu dg (fun z => z = t ∨ z = 45) I I1 → Rw nu dg p I1 t D (addM (mxM ra D ma mb mc md p k) (mixG (ra k) D ma mb mc md p k) p i) → Rw nu dg p I1 45 (D) (mixG (ra k) D ma mb mc md p k) → V 108 [(5, .int (Int32.ofNat i)), (4, .int (Int32.ofNat k)), (3, .int (Int32.ofNat D)), (0, .ref m), (1, .int (Int32.ofNat r)), (2, .int (Int32.ofNat t))] [] (T, N, I1, L, R) 0 0 := by
        intro s
        induction s using Nat.strongRecOn with
        | _ s ih =>
          intro i I1 hs hi hR hT hG
          refine k_iload C rfl rfl rfl ?_
          refine k_iload_n C rfl rfl rfl ?_
          refine k_icmp_gt C (t := 146) rfl rfl rfl (fun c111 => ?_) (fun c111 => ?_)
          · skip
            have hi2 : i = D + 1 := by have := (n_lt (by omega) (by omega)).mp c111; omega
            subst hi2
            refine k_sub S [(4, .int (Int32.ofNat k)), (3, .int (Int32.ofNat D)), (0, .ref m), (1, .int (Int32.ofNat r)), (2, .int (Int32.ofNat t))] (List.forall_mem_cons.mpr ⟨List.mem_of_getElem? (i := 1) rfl, List.forall_mem_cons.mpr ⟨List.mem_of_getElem? (i := 2) rfl, List.forall_mem_cons.mpr ⟨List.mem_of_getElem? (i := 3) rfl, List.forall_mem_cons.mpr ⟨List.mem_of_getElem? (i := 4) rfl, List.forall_mem_cons.mpr ⟨List.mem_of_getElem? (i := 5) rfl, fun _ h => nomatch h⟩⟩⟩⟩⟩) ?_
            refine k_iinc C (lw := [(4, .int _), (3, .int _), (0, _), (1, .int _), (2, .int _)]) rfl rfl rfl (Nat.le_of_ble_eq_true rfl) rfl rfl ?_
            refine k_goto C (pc2 := 16) rfl rfl ?_
            show V 16 [(4, .int (Int32.ofNat k + 1)), _, _, _, _] [] _ 0 0
            rw [n_s]
            exact iho (D + 1 - (k + 1)) (by omega) (k + 1) _ rfl (by omega) hR hT
          have hi2 : i < D + 1 := Nat.lt_succ_of_le (Nat.le_of_not_lt (fun h => c111 ((n_lt (by omega) (by omega)).mpr h)))
          have I_m_6 := (congrFun (hR.1 m (t_nq T_m T_nu (by decide)) (t_nq T_m T_dg (by decide))) 6).trans I_m_6
          have I_m_7 := (congrFun (hR.1 m (t_nq T_m T_nu (by decide)) (t_nq T_m T_dg (by decide))) 7).trans I_m_7
          have I_m_8 := (congrFun (hR.1 m (t_nq T_m T_nu (by decide)) (t_nq T_m T_dg (by decide))) 8).trans I_m_8
          have I_m_9 := (congrFun (hR.1 m (t_nq T_m T_nu (by decide)) (t_nq T_m T_dg (by decide))) 9).trans I_m_9
          have I_w_0 := (congrFun (hR.1 w hwn hwd) 0).trans I_w_0
          have b1 := hT.2.2.2 i (by omega)
          rw [addM_i] at b1
          have b2 := hG.2.2.2 i (by omega)
          refine k_aload_n C rfl rfl rfl ?_
          refine k_iload_n C rfl rfl rfl ?_
          refine k_iload C rfl rfl rfl ?_
          refine k_aload_n C rfl rfl rfl ?_
          refine k_aload_n C rfl rfl rfl ?_
          refine k_iload_n C rfl rfl rfl ?_
          refine k_iload C rfl rfl rfl ?_
          refine c_VI C (e_m_of T_m R_m_5 T_nu N_nu rfl rfl (by omega)) rfl rfl rfl rfl rfl ⟨_, rfl, rfl, T_m, Nat.le_of_ble_eq_true rfl⟩ rfl rfl (Nat.le_of_ble_eq_true rfl) (Nat.le_of_ble_eq_true rfl) (Nat.le_of_ble_eq_true rfl) ?_
          rintro _ _ _ ⟨hx7, hI8, hL9⟩
          have hx7 := hx7.symm; subst hx7
          have hI8 := hI8.symm; subst hI8; have hL9 := hL9.symm; subst hL9
          rw [hT.2.2.1 i (by omega), addM_i]
          refine k_aload_n C rfl rfl rfl ?_
          refine k_bipush C (x := 45) rfl rfl rfl ?_
          refine k_iload C rfl rfl rfl ?_
          refine c_VI C (e_m_of T_m R_m_5 T_nu N_nu (r := 45) rfl rfl (by omega)) rfl rfl rfl rfl rfl ⟨_, rfl, rfl, T_m, Nat.le_of_ble_eq_true rfl⟩ rfl rfl (Nat.le_of_ble_eq_true rfl) (Nat.le_of_ble_eq_true rfl) (Nat.le_of_ble_eq_true rfl) ?_
          rintro _ _ _ ⟨hx7, hI8, hL9⟩
          have hx7 := hx7.symm; subst hx7
          have hI8 := hI8.symm; subst hI8; have hL9 := hL9.symm; subst hL9
          rw [hG.2.2.1 i (by omega)]
          refine c_VI C (e_m_plusN T_m R_m_1 T_w N_w (I_w_0) hp1 hp2 rfl rfl (by omega) (by omega)) rfl rfl rfl rfl rfl ⟨_, rfl, rfl, T_m, Nat.le_of_ble_eq_true rfl⟩ rfl rfl (Nat.le_of_ble_eq_true rfl) (Nat.le_of_ble_eq_true rfl) (Nat.le_of_ble_eq_true rfl) ?_
          rintro _ _ _ ⟨hx7, hI8, hL9⟩
          have hx7 := hx7.symm; subst hx7
          have hI8 := hI8.symm; subst hI8; have hL9 := hL9.symm; subst hL9
          refine c_VV C (e_m_put T_m R_m_5 T_nu N_nu rfl rfl (by omega)) rfl rfl rfl rfl rfl ⟨_, rfl, rfl, T_m, Nat.le_of_ble_eq_true rfl⟩ rfl rfl (Nat.le_of_ble_eq_true rfl) (Nat.le_of_ble_eq_true rfl) (Nat.le_of_ble_eq_true rfl) ?_
          rintro _ _ ⟨hI8, hL9⟩
          have hI8 := hI8.symm; subst hI8; have hL9 := hL9.symm; subst hL9
          refine k_iinc C (lw := [(5, .int _), (4, .int _), (3, .int _), (0, _), (1, .int _), (2, .int _)]) rfl rfl rfl (Nat.le_of_ble_eq_true rfl) rfl rfl ?_
          refine k_goto C (pc2 := 108) rfl rfl ?_
          show V 108 [(5, .int (Int32.ofNat i + 1)), _, _, _, _, _] [] _ 0 0
          rw [n_s]
          have hT9 := Rw.put (j := i) hnd hT (Nat.mod_lt ((mxM ra D ma mb mc md p k) i + (mixG (ra k) D ma mb mc md p k) i) (show 0 < p by omega))
          rw [addM_s] at hT9
          exact ih (D + 1 - (i + 1)) (by omega) (i + 1) _ rfl (by omega) (hR.tr ((Rs.put (by omega) hnd).mono (fun z hz => Or.inl hz))) hT9 (hG.keep (by omega) (Rs.put (by omega) hnd) (fun e => ht5 e.symm))
      have loop2 : ∀ (s i : Nat) (I1 : IT), s = k - i → i ≤ k → Rs nu dg (fun z => z = t ∨ z = 45) I I1 → Rw nu dg p I1 t D (mxM ra D ma mb mc md p k) → Rw nu dg p I1 45 (D - k + i) (itw (itw (baM (ra k)) 0 ma mb p (D - k)) (D - k) mc md p i) → V 78 [(5, .int (Int32.ofNat i)), (4, .int (Int32.ofNat k)), (3, .int (Int32.ofNat D)), (0, .ref m), (1, .int (Int32.ofNat r)), (2, .int (Int32.ofNat t))] [] (T, N, I1, L, R) 0 0 := by
        intro s
        induction s using Nat.strongRecOn with
        | _ s ih =>
          intro i I1 hs hi hR hT hG
          refine k_iload C rfl rfl rfl ?_
          refine k_iload C rfl rfl rfl ?_
          refine k_icmp_ge C (t := 105) rfl rfl rfl (fun c82 => ?_) (fun c82 => ?_)
          · skip
            have hi2 : i = k := by have := (n_le (by omega) (by omega)).mp c82; omega
            refine k_iconst C (x := 0) rfl rfl rfl ?_
            refine k_istore C (lw := [(5, .int _), (4, .int _), (3, .int _), (0, _), (1, .int _), (2, .int _)]) rfl rfl (Nat.le_of_ble_eq_true rfl) rfl ?_
            refine loop3 (D + 1) 0 _ rfl (Nat.zero_le _) hR (by rw [addM_0]; exact hT) ?_
            have e9 : D - k + i = D := by omega
            rw [e9] at hG
            subst hi2
            exact hG
          have hi2 : i < k := Nat.lt_of_not_le (fun h => c82 ((n_le (by omega) (by omega)).mpr h))
          have I_m_6 := (congrFun (hR.1 m (t_nq T_m T_nu (by decide)) (t_nq T_m T_dg (by decide))) 6).trans I_m_6
          have I_m_7 := (congrFun (hR.1 m (t_nq T_m T_nu (by decide)) (t_nq T_m T_dg (by decide))) 7).trans I_m_7
          have I_m_8 := (congrFun (hR.1 m (t_nq T_m T_nu (by decide)) (t_nq T_m T_dg (by decide))) 8).trans I_m_8
          have I_m_9 := (congrFun (hR.1 m (t_nq T_m T_nu (by decide)) (t_nq T_m T_dg (by decide))) 9).trans I_m_9
          have I_w_0 := (congrFun (hR.1 w hwn hwd) 0).trans I_w_0
          refine k_aload_n C rfl rfl rfl ?_
          refine k_bipush C (x := 45) rfl rfl rfl ?_
          refine k_aload_n C rfl rfl rfl ?_
          refine g_I C rfl rfl rfl T_m rfl (I_m_8) ?_
          refine k_aload_n C rfl rfl rfl ?_
          refine g_I C rfl rfl rfl T_m rfl (I_m_9) ?_
          refine c_VV C (e_m_widens T_m R_m_1 T_w N_w R_m_5 T_nu N_nu R_m_4 T_dg N_dg (I_w_0) hp1 hp2 (r := 45) (D := D - k + i) rfl rfl rfl (by omega) hmc hmd hG.1 (by omega) hG.2.2.1 hG.2.2.2 hnd hwn hwd) rfl rfl rfl rfl rfl ⟨_, rfl, rfl, T_m, Nat.le_of_ble_eq_true rfl⟩ rfl rfl (Nat.le_of_ble_eq_true rfl) (Nat.le_of_ble_eq_true rfl) (Nat.le_of_ble_eq_true rfl) ?_
          rintro _ _ ⟨hI8, hL9⟩
          have hI8 := hI8.symm; subst hI8; have hL9 := hL9.symm; subst hL9
          refine k_iinc C (lw := [(5, .int _), (4, .int _), (3, .int _), (0, _), (1, .int _), (2, .int _)]) rfl rfl rfl (Nat.le_of_ble_eq_true rfl) rfl rfl ?_
          refine k_goto C (pc2 := 78) rfl rfl ?_
          show V 78 [(5, .int (Int32.ofNat i + 1)), _, _, _, _, _] [] _ 0 0
          rw [n_s]
          exact ih (k - (i + 1)) (by omega) (i + 1) _ rfl (by omega) (hR.tr ((Rs_bk hnd (by omega)).mono (fun z hz => Or.inr hz))) (hT.keep ht (Rs_bk hnd (by omega)) (fun e => ht5 e)) (Rw_bk hnd (by omega) (fun j _ => rfl) (fun j hj => Nat.mod_lt _ (by omega)))
      have loop1 : ∀ (s i : Nat) (I1 : IT), s = (D - k) - i → i ≤ (D - k) → Rs nu dg (fun z => z = t ∨ z = 45) I I1 → Rw nu dg p I1 t D (mxM ra D ma mb mc md p k) → Rw nu dg p I1 45 (i) (itw (baM (ra k)) 0 ma mb p i) → V 46 [(5, .int (Int32.ofNat i)), (4, .int (Int32.ofNat k)), (3, .int (Int32.ofNat D)), (0, .ref m), (1, .int (Int32.ofNat r)), (2, .int (Int32.ofNat t))] [] (T, N, I1, L, R) 0 0 := by
        intro s
        induction s using Nat.strongRecOn with
        | _ s ih =>
          intro i I1 hs hi hR hT hG
          refine k_iload C rfl rfl rfl ?_
          refine k_iload_n C rfl rfl rfl ?_
          refine k_iload C rfl rfl rfl ?_
          refine k_isub C rfl rfl ?_
          rw [n_sub (by omega)]
          refine k_icmp_ge C (t := 75) rfl rfl rfl (fun c52 => ?_) (fun c52 => ?_)
          · skip
            have hi2 : i = D - k := by have := (n_le (by omega) (by omega)).mp c52; omega
            refine k_iconst C (x := 0) rfl rfl rfl ?_
            refine k_istore C (lw := [(5, .int _), (4, .int _), (3, .int _), (0, _), (1, .int _), (2, .int _)]) rfl rfl (Nat.le_of_ble_eq_true rfl) rfl ?_
            subst hi2
            exact loop2 k 0 _ rfl (Nat.zero_le _) hR hT hG
          have hi2 : i < D - k := Nat.lt_of_not_le (fun h => c52 ((n_le (by omega) (by omega)).mpr h))
          have I_m_6 := (congrFun (hR.1 m (t_nq T_m T_nu (by decide)) (t_nq T_m T_dg (by decide))) 6).trans I_m_6
          have I_m_7 := (congrFun (hR.1 m (t_nq T_m T_nu (by decide)) (t_nq T_m T_dg (by decide))) 7).trans I_m_7
          have I_m_8 := (congrFun (hR.1 m (t_nq T_m T_nu (by decide)) (t_nq T_m T_dg (by decide))) 8).trans I_m_8
          have I_m_9 := (congrFun (hR.1 m (t_nq T_m T_nu (by decide)) (t_nq T_m T_dg (by decide))) 9).trans I_m_9
          have I_w_0 := (congrFun (hR.1 w hwn hwd) 0).trans I_w_0
          refine k_aload_n C rfl rfl rfl ?_
          refine k_bipush C (x := 45) rfl rfl rfl ?_
          refine k_aload_n C rfl rfl rfl ?_
          refine g_I C rfl rfl rfl T_m rfl (I_m_6) ?_
          refine k_aload_n C rfl rfl rfl ?_
          refine g_I C rfl rfl rfl T_m rfl (I_m_7) ?_
          refine c_VV C (e_m_widens T_m R_m_1 T_w N_w R_m_5 T_nu N_nu R_m_4 T_dg N_dg (I_w_0) hp1 hp2 (r := 45) (D := i) rfl rfl rfl (by omega) hma hmb hG.1 (by omega) hG.2.2.1 hG.2.2.2 hnd hwn hwd) rfl rfl rfl rfl rfl ⟨_, rfl, rfl, T_m, Nat.le_of_ble_eq_true rfl⟩ rfl rfl (Nat.le_of_ble_eq_true rfl) (Nat.le_of_ble_eq_true rfl) (Nat.le_of_ble_eq_true rfl) ?_
          rintro _ _ ⟨hI8, hL9⟩
          have hI8 := hI8.symm; subst hI8; have hL9 := hL9.symm; subst hL9
          refine k_iinc C (lw := [(5, .int _), (4, .int _), (3, .int _), (0, _), (1, .int _), (2, .int _)]) rfl rfl rfl (Nat.le_of_ble_eq_true rfl) rfl rfl ?_
          refine k_goto C (pc2 := 46) rfl rfl ?_
          show V 46 [(5, .int (Int32.ofNat i + 1)), _, _, _, _, _] [] _ 0 0
          rw [n_s]
          exact ih (D - k - (i + 1)) (by omega) (i + 1) _ rfl (by omega) (hR.tr ((Rs_bk hnd (by omega)).mono (fun z hz => Or.inr hz))) (hT.keep ht (Rs_bk hnd (by omega)) (fun e => ht5 e)) (Rw_bk hnd (by omega) (fun j _ => by show _ = Int32.ofNat (widM _ (0 + i) ma mb p j); rw [Nat.zero_add]) (fun j hj => Nat.mod_lt _ (by omega)))
      have hrow := (hR.2.2 r k hr (by omega) (fun e => e.elim hrt hr5)).trans (hra k (by omega))
      refine k_aload_n C rfl rfl rfl ?_
      refine k_bipush C (x := 45) rfl rfl rfl ?_
      refine k_iconst C (x := 0) rfl rfl rfl ?_
      refine c_VV C (e_m_clears T_m R_m_5 T_nu N_nu R_m_4 T_dg N_dg (r := 45) (D := 0) rfl rfl (by omega) (by omega)) rfl rfl rfl rfl rfl ⟨_, rfl, rfl, T_m, Nat.le_of_ble_eq_true rfl⟩ rfl rfl (Nat.le_of_ble_eq_true rfl) (Nat.le_of_ble_eq_true rfl) (Nat.le_of_ble_eq_true rfl) ?_
      rintro _ _ ⟨hI8, hL9⟩
      have hI8 := hI8.symm; subst hI8; have hL9 := hL9.symm; subst hL9
      refine k_aload_n C rfl rfl rfl ?_
      refine k_bipush C (x := 45) rfl rfl rfl ?_
      refine k_iconst C (x := 0) rfl rfl rfl ?_
      refine k_aload_n C rfl rfl rfl ?_
      refine k_iload_n C rfl rfl rfl ?_
      refine k_iload C rfl rfl rfl ?_
      refine c_VI C (e_m_of T_m R_m_5 T_nu N_nu rfl rfl (by omega)) rfl rfl rfl rfl rfl ⟨_, rfl, rfl, T_m, Nat.le_of_ble_eq_true rfl⟩ rfl rfl (Nat.le_of_ble_eq_true rfl) (Nat.le_of_ble_eq_true rfl) (Nat.le_of_ble_eq_true rfl) ?_
      rintro _ _ _ ⟨hx7, hI8, hL9⟩
      have hx7 := hx7.symm; subst hx7
      have hI8 := hI8.symm; subst hI8; have hL9 := hL9.symm; subst hL9
      rw [bk_o (by omega), u2_a hnd, hrow]
      refine c_VV C (e_m_put T_m R_m_5 T_nu N_nu (r := 45) (j := 0) rfl rfl (by omega)) rfl rfl rfl rfl rfl ⟨_, rfl, rfl, T_m, Nat.le_of_ble_eq_true rfl⟩ rfl rfl (Nat.le_of_ble_eq_true rfl) (Nat.le_of_ble_eq_true rfl) (Nat.le_of_ble_eq_true rfl) ?_
      rintro _ _ ⟨hI8, hL9⟩
      have hI8 := hI8.symm; subst hI8; have hL9 := hL9.symm; subst hL9
      refine k_iconst C (x := 0) rfl rfl rfl ?_
      refine k_istore C (lw := [(5, .int _), (4, .int _), (3, .int _), (0, _), (1, .int _), (2, .int _)]) rfl rfl (Nat.le_of_ble_eq_true rfl) rfl ?_
      have hs1 : Rs nu dg (fun z => z = 45) I1 (bk (u2 I1 dg 45 (Int32.ofNat 0)) nu (41 * 45) (0 + 1) (fun _ => (0 : Int32))) := Rs_bk hnd (by omega)
      have hG1 : Rw nu dg p (bk (u2 I1 dg 45 (Int32.ofNat 0)) nu (41 * 45) (0 + 1) (fun _ => (0 : Int32))) 45 0 (fun _ => 0) := Rw_bk hnd (by omega) (fun _ _ => rfl) (fun _ _ => by omega)
      have hs2 := hs1.tr (Rs.put (r := 45) (j := 0) (x := Int32.ofNat (ra k)) (by omega) hnd)
      exact loop1 (D - k) 0 _ rfl (Nat.zero_le _) (hR.tr (hs2.mono (fun z hz => Or.inr hz))) (hT.keep ht hs2 (fun e => ht5 e)) (Rw.put (j := 0) hnd hG1 (hrap k (by omega)))
  refine k_aload_n C rfl rfl rfl ?_
  refine g_R C rfl rfl rfl T_m rfl R_m_4 ?_
  refine k_iload_n C rfl rfl rfl ?_
  refine a_I C rfl rfl T_dg (vin (n := r) rfl (by rw [N_dg]; omega) (by rw [N_dg]; exact Nat.le_of_ble_eq_true rfl)) (hvx (n_nat (by omega)) hD) ?_
  refine k_istore_n C (lw := [(3, .int _), (0, _), (1, .int _), (2, .int _)]) rfl rfl (Nat.le_of_ble_eq_true rfl) rfl ?_
  refine k_aload_n C rfl rfl rfl ?_
  refine k_iload_n C rfl rfl rfl ?_
  refine k_iload_n C rfl rfl rfl ?_
  refine c_VV C (e_m_clears T_m R_m_5 T_nu N_nu R_m_4 T_dg N_dg rfl rfl ht hD8) rfl rfl rfl rfl rfl ⟨_, rfl, rfl, T_m, Nat.le_of_ble_eq_true rfl⟩ rfl rfl (Nat.le_of_ble_eq_true rfl) (Nat.le_of_ble_eq_true rfl) (Nat.le_of_ble_eq_true rfl) ?_
  rintro _ _ ⟨hI8, hL9⟩
  have hI8 := hI8.symm; subst hI8; have hL9 := hL9.symm; subst hL9
  refine k_iconst C (x := 0) rfl rfl rfl ?_
  refine k_istore C (lw := [(4, .int _), (3, .int _), (0, _), (1, .int _), (2, .int _)]) rfl rfl (Nat.le_of_ble_eq_true rfl) rfl ?_
  exact loop (D + 1) 0 _ rfl (Nat.zero_le _) ((Rs_bk hnd hD8).mono (fun z hz => Or.inl hz)) (Rw_bk hnd hD8 (fun _ _ => rfl) (fun _ _ => by show 0 < p; omega))
end
-- 39.66.num.lean.txt
section
/-! the reference, numbers under p: mod, differs -/
theorem e_m_modN {d : Nat} {T N : Nat → Nat} {I : IT} {L : LT} {R : RT} {m w : Nat} {v : Int64}{p : Nat} (T_m : T m = 13) (R_m_1 : R m 1 = some w) (T_w : T w = 20) (N_w : N w = 4007) (I_w_0 : I w 0 = (Int32.ofNat p)) {n : Nat} (hp1 : 2 ≤ p) (hp2 : p ≤ 19) (hv : v.toInt = n)  : Ex (d + 2) 192 [.ref m, .long v] (T, N, I, L, R) 0 0 (pI T N R (fun x9 I9 L9 => x9 = (Int32.ofNat (n % p)) ∧ I9 = I ∧ L9 = L)) := by
  refine ⟨_, rfl, Nat.le_of_ble_eq_true rfl, fun V C S => ?_⟩
  show V 0 [(0, .ref m), (1, .long v)] [] (T, N, I, L, R) 0 0
  refine k_lload_n C rfl rfl rfl ?_
  refine k_aload_n C rfl rfl rfl ?_
  refine c_VI C (e_m_pN T_m R_m_1 T_w N_w (I_w_0) ) rfl rfl rfl rfl rfl ⟨_, rfl, rfl, T_m, Nat.le_of_ble_eq_true rfl⟩ rfl rfl (Nat.le_of_ble_eq_true rfl) (Nat.le_of_ble_eq_true rfl) (Nat.le_of_ble_eq_true rfl) ?_
  rintro _ _ _ ⟨hx7, hI8, hL9⟩
  have hx7 := hx7.symm; subst hx7
  have hI8 := hI8.symm; subst hI8; have hL9 := hL9.symm; subst hL9
  refine k_i2l C rfl rfl ?_
  refine c_SL C (e_fmL  (by rw [i2l_eq, n_int (by omega)]; omega)) rfl rfl rfl rfl rfl rfl rfl (Nat.le_of_ble_eq_true rfl) (Nat.le_of_ble_eq_true rfl) (Nat.le_of_ble_eq_true rfl) ?_
  rintro x6 _ _ ⟨hI8, hL9, h6⟩
  have hI8 := hI8.symm; subst hI8; have hL9 := hL9.symm; subst hL9
  refine k_l2i C rfl rfl ?_
  exact k_iret C rfl (Or.inl rfl) (Nat.le_of_ble_eq_true rfl) (Nat.le_of_ble_eq_true rfl) ⟨_, _, _, rfl, rfl, ⟨by
      rw [i2l_eq, n_int (by omega), hv] at h6
      have hm := Nat.mod_lt n (show 0 < p by omega)
      have h7 : x6.toInt = ((n % p : Nat) : Int) := by rw [h6]; exact (Int.natCast_emod n p).symm
      apply Int32.toInt_inj.mp
      rw [l2i_eq (by omega), h7, n_int (by omega)], rfl, rfl⟩⟩

def dsM (v0 b p : Nat) : Nat → Nat
  | 0 => v0
  | i + 1 => dsM v0 b p i * ((b - i) % p) % p
theorem dsM_lt {v0 b p : Nat} (hp : 2 ≤ p) (h : v0 < p) : ∀ i, dsM v0 b p i < p
  | 0 => h
  | i + 1 => Nat.mod_lt _ (by omega)
theorem i2l_n {n : Nat} (h : n < 2147483648) : (Int32.ofNat n).toInt64.toInt = n := by rw [i2l_eq, n_int h]
theorem e_m_differs {d : Nat} {T N : Nat → Nat} {I : IT} {L : LT} {R : RT} {m w : Nat} {a b c e : Int32}{p : Nat} (T_m : T m = 13) (R_m_1 : R m 1 = some w) (T_w : T w = 20) (N_w : N w = 4007) (I_w_0 : I w 0 = (Int32.ofNat p)) {g k x y : Nat} (hp1 : 2 ≤ p) (hp2 : p ≤ 19) (ha : a = Int32.ofNat g) (hb : b = Int32.ofNat k) (hc : c = Int32.ofNat x) (he : e = Int32.ofNat y) (hg : g ≤ 1000) (hx : k + x ≤ g) (hy : y ≤ k) : Ex (d + 3) 206 [.ref m, .int a, .int b, .int c, .int e] (T, N, I, L, R) 0 0 (pI T N R (fun x9 I9 L9 => x9 = (Int32.ofNat (dsM (dsM 1 (g - k) p x) k p y)) ∧ I9 = I ∧ L9 = L)) := by
  refine ⟨_, rfl, Nat.le_of_ble_eq_true rfl, fun V C S => ?_⟩
  show V 0 [(0, .ref m), (1, .int a), (2, .int b), (3, .int c), (4, .int e)] [] (T, N, I, L, R) 0 0
  subst ha; subst hb; subst hc; subst he
  have loop2 : ∀ (s i : Nat), s = y - i → i ≤ y → V 40 [(6, .int (Int32.ofNat i)), (5, .int (Int32.ofNat (dsM (dsM 1 (g - k) p x) k p i))), (0, .ref m), (1, .int (Int32.ofNat g)), (2, .int (Int32.ofNat k)), (3, .int (Int32.ofNat x)), (4, .int (Int32.ofNat y))] [] (T, N, I, L, R) 0 0 := by
    intro s
    induction s using Nat.strongRecOn with
    | _ s ih =>
      intro i hs hi
      refine k_iload C rfl rfl rfl ?_
      refine k_iload C rfl rfl rfl ?_
      refine k_icmp_ge C (t := 70) rfl rfl rfl (fun c44 => ?_) (fun c44 => ?_)
      · skip
        have hi2 : i = y := by have := (n_le (by omega) (by omega)).mp c44; omega
        subst hi2
        refine k_iload C rfl rfl rfl ?_
        exact k_iret C rfl (Or.inl rfl) (Nat.le_of_ble_eq_true rfl) (Nat.le_of_ble_eq_true rfl) ⟨_, _, _, rfl, rfl, rfl, rfl, rfl⟩
      have hi2 : i < y := Nat.lt_of_not_le (fun h => c44 ((n_le (by omega) (by omega)).mpr h))
      have b1 := dsM_lt (v0 := dsM 1 (g - k) p x) (b := k) hp1 (dsM_lt (b := g - k) hp1 (by omega) x) i
      have b2 := Nat.mod_lt (k - i) (show 0 < p by omega)
      refine k_aload_n C rfl rfl rfl ?_
      refine k_iload C rfl rfl rfl ?_
      refine k_aload_n C rfl rfl rfl ?_
      refine k_iload_n C rfl rfl rfl ?_
      refine k_iload C rfl rfl rfl ?_
      refine k_isub C rfl rfl ?_
      rw [n_sub (by omega)]
      refine k_i2l C rfl rfl ?_
      refine c_VI C (e_m_modN T_m R_m_1 T_w N_w (I_w_0) hp1 hp2 (i2l_n (by omega))) rfl rfl rfl rfl rfl ⟨_, rfl, rfl, T_m, Nat.le_of_ble_eq_true rfl⟩ rfl rfl (Nat.le_of_ble_eq_true rfl) (Nat.le_of_ble_eq_true rfl) (Nat.le_of_ble_eq_true rfl) ?_
      rintro _ _ _ ⟨hx7, hI8, hL9⟩
      have hx7 := hx7.symm; subst hx7
      have hI8 := hI8.symm; subst hI8; have hL9 := hL9.symm; subst hL9
      refine c_VI C (e_m_timesN T_m R_m_1 T_w N_w (I_w_0) hp1 hp2 rfl rfl (by omega) (by omega)) rfl rfl rfl rfl rfl ⟨_, rfl, rfl, T_m, Nat.le_of_ble_eq_true rfl⟩ rfl rfl (Nat.le_of_ble_eq_true rfl) (Nat.le_of_ble_eq_true rfl) (Nat.le_of_ble_eq_true rfl) ?_
      rintro _ _ _ ⟨hx7, hI8, hL9⟩
      have hx7 := hx7.symm; subst hx7
      have hI8 := hI8.symm; subst hI8; have hL9 := hL9.symm; subst hL9
      refine k_istore C (lw := [(5, .int _), (6, .int _), (0, _), (1, .int _), (2, .int _), (3, .int _), (4, .int _)]) rfl rfl (Nat.le_of_ble_eq_true rfl) rfl ?_
      refine k_sub S [(6, .int (Int32.ofNat i)), (5, .int (Int32.ofNat (dsM (dsM 1 (g - k) p x) k p i * ((k - i) % p) % p))), (0, .ref m), (1, .int (Int32.ofNat g)), (2, .int (Int32.ofNat k)), (3, .int (Int32.ofNat x)), (4, .int (Int32.ofNat y))] (List.forall_mem_cons.mpr ⟨List.mem_of_getElem? (i := 1) rfl, List.forall_mem_cons.mpr ⟨List.mem_of_getElem? (i := 0) rfl, List.forall_mem_cons.mpr ⟨List.mem_of_getElem? (i := 2) rfl, List.forall_mem_cons.mpr ⟨List.mem_of_getElem? (i := 3) rfl, List.forall_mem_cons.mpr ⟨List.mem_of_getElem? (i := 4) rfl, List.forall_mem_cons.mpr ⟨List.mem_of_getElem? (i := 5) rfl, List.forall_mem_cons.mpr ⟨List.mem_of_getElem? (i := 6) rfl, fun _ h => nomatch h⟩⟩⟩⟩⟩⟩⟩) ?_
      refine k_iinc C (lw := [(6, .int _), (5, .int _), (0, _), (1, .int _), (2, .int _), (3, .int _), (4, .int _)]) rfl rfl rfl (Nat.le_of_ble_eq_true rfl) rfl rfl ?_
      refine k_goto C (pc2 := 40) rfl rfl ?_
      show V 40 [(6, .int (Int32.ofNat i + 1)), _, _, _, _, _, _] [] _ 0 0
      rw [n_s]
      exact ih (y - (i + 1)) (by omega) (i + 1) rfl (by omega)
  have loop1 : ∀ (s i : Nat), s = x - i → i ≤ x → V 6 [(6, .int (Int32.ofNat i)), (5, .int (Int32.ofNat (dsM 1 (g - k) p i))), (0, .ref m), (1, .int (Int32.ofNat g)), (2, .int (Int32.ofNat k)), (3, .int (Int32.ofNat x)), (4, .int (Int32.ofNat y))] [] (T, N, I, L, R) 0 0 := by
    intro s
    induction s using Nat.strongRecOn with
    | _ s ih =>
      intro i hs hi
      refine k_iload C rfl rfl rfl ?_
      refine k_iload_n C rfl rfl rfl ?_
      refine k_icmp_ge C (t := 37) rfl rfl rfl (fun c9 => ?_) (fun c9 => ?_)
      · skip
        have hi2 : i = x := by have := (n_le (by omega) (by omega)).mp c9; omega
        refine k_iconst C (x := 0) rfl rfl rfl ?_
        refine k_istore C (lw := [(6, .int _), (5, .int _), (0, _), (1, .int _), (2, .int _), (3, .int _), (4, .int _)]) rfl rfl (Nat.le_of_ble_eq_true rfl) rfl ?_
        subst hi2
        exact loop2 y 0 rfl (Nat.zero_le _)
      have hi2 : i < x := Nat.lt_of_not_le (fun h => c9 ((n_le (by omega) (by omega)).mpr h))
      have b1 := dsM_lt (v0 := 1) (b := g - k) hp1 (by omega) i
      have b2 := Nat.mod_lt (g - k - i) (show 0 < p by omega)
      refine k_aload_n C rfl rfl rfl ?_
      refine k_iload C rfl rfl rfl ?_
      refine k_aload_n C rfl rfl rfl ?_
      refine k_iload_n C rfl rfl rfl ?_
      refine k_iload_n C rfl rfl rfl ?_
      refine k_isub C rfl rfl ?_
      rw [n_sub (by omega)]
      refine k_iload C rfl rfl rfl ?_
      refine k_isub C rfl rfl ?_
      rw [n_sub (by omega)]
      refine k_i2l C rfl rfl ?_
      refine c_VI C (e_m_modN T_m R_m_1 T_w N_w (I_w_0) hp1 hp2 (i2l_n (by omega))) rfl rfl rfl rfl rfl ⟨_, rfl, rfl, T_m, Nat.le_of_ble_eq_true rfl⟩ rfl rfl (Nat.le_of_ble_eq_true rfl) (Nat.le_of_ble_eq_true rfl) (Nat.le_of_ble_eq_true rfl) ?_
      rintro _ _ _ ⟨hx7, hI8, hL9⟩
      have hx7 := hx7.symm; subst hx7
      have hI8 := hI8.symm; subst hI8; have hL9 := hL9.symm; subst hL9
      refine c_VI C (e_m_timesN T_m R_m_1 T_w N_w (I_w_0) hp1 hp2 rfl rfl (by omega) (by omega)) rfl rfl rfl rfl rfl ⟨_, rfl, rfl, T_m, Nat.le_of_ble_eq_true rfl⟩ rfl rfl (Nat.le_of_ble_eq_true rfl) (Nat.le_of_ble_eq_true rfl) (Nat.le_of_ble_eq_true rfl) ?_
      rintro _ _ _ ⟨hx7, hI8, hL9⟩
      have hx7 := hx7.symm; subst hx7
      have hI8 := hI8.symm; subst hI8; have hL9 := hL9.symm; subst hL9
      refine k_istore C (lw := [(5, .int _), (6, .int _), (0, _), (1, .int _), (2, .int _), (3, .int _), (4, .int _)]) rfl rfl (Nat.le_of_ble_eq_true rfl) rfl ?_
      refine k_sub S [(6, .int (Int32.ofNat i)), (5, .int (Int32.ofNat (dsM 1 (g - k) p i * ((g - k - i) % p) % p))), (0, .ref m), (1, .int (Int32.ofNat g)), (2, .int (Int32.ofNat k)), (3, .int (Int32.ofNat x)), (4, .int (Int32.ofNat y))] (List.forall_mem_cons.mpr ⟨List.mem_of_getElem? (i := 1) rfl, List.forall_mem_cons.mpr ⟨List.mem_of_getElem? (i := 0) rfl, List.forall_mem_cons.mpr ⟨List.mem_of_getElem? (i := 2) rfl, List.forall_mem_cons.mpr ⟨List.mem_of_getElem? (i := 3) rfl, List.forall_mem_cons.mpr ⟨List.mem_of_getElem? (i := 4) rfl, List.forall_mem_cons.mpr ⟨List.mem_of_getElem? (i := 5) rfl, List.forall_mem_cons.mpr ⟨List.mem_of_getElem? (i := 6) rfl, fun _ h => nomatch h⟩⟩⟩⟩⟩⟩⟩) ?_
      refine k_iinc C (lw := [(6, .int _), (5, .int _), (0, _), (1, .int _), (2, .int _), (3, .int _), (4, .int _)]) rfl rfl rfl (Nat.le_of_ble_eq_true rfl) rfl rfl ?_
      refine k_goto C (pc2 := 6) rfl rfl ?_
      show V 6 [(6, .int (Int32.ofNat i + 1)), _, _, _, _, _, _] [] _ 0 0
      rw [n_s]
      exact ih (x - (i + 1)) (by omega) (i + 1) rfl (by omega)
  refine k_iconst C (x := 1) rfl rfl rfl ?_
  refine k_istore C (lw := [(5, .int _), (0, _), (1, .int _), (2, .int _), (3, .int _), (4, .int _)]) rfl rfl (Nat.le_of_ble_eq_true rfl) rfl ?_
  refine k_iconst C (x := 0) rfl rfl rfl ?_
  refine k_istore C (lw := [(6, .int _), (5, .int _), (0, _), (1, .int _), (2, .int _), (3, .int _), (4, .int _)]) rfl rfl (Nat.le_of_ble_eq_true rfl) rfl ?_
  exact loop1 x 0 rfl (Nat.zero_le _)
end
-- 39.67.dif.lean.txt
section
/-! the rows of the reference, any state: differentiated -/
def dfM (ra : Nat → Nat) (D x y p j : Nat) : Nat := ra (j + y) * dsM (dsM 1 (D - (j + y)) p x) (j + y) p y % p
def dhM (ra : Nat → Nat) (D x y p n : Nat) : Nat → Nat := fun j => if j < n then dfM ra D x y p j else 0
theorem dhM_s {ra : Nat → Nat} {D x y p n : Nat} : (fun k => if k = n then dfM ra D x y p n else dhM ra D x y p n k) = dhM ra D x y p (n + 1) := by
  funext j; unfold dhM
  by_cases e : j = n
  · rw [if_pos e, if_pos (by omega), e]
  · rw [if_neg e]
    by_cases q : j < n
    · rw [if_pos q, if_pos (by omega)]
    · rw [if_neg q, if_neg (by omega)]
theorem e_m_differentiates {d : Nat} {T N : Nat → Nat} {I : IT} {L : LT} {R : RT} {m w nu dg : Nat} {a b c e : Int32}{p : Nat} (T_m : T m = 13) (R_m_1 : R m 1 = some w) (T_w : T w = 20) (N_w : N w = 4007) (R_m_5 : R m 5 = some nu) (T_nu : T nu = 20) (N_nu : N nu = 1968) (R_m_4 : R m 4 = some dg) (T_dg : T dg = 20) (N_dg : N dg = 48) (I_w_0 : I w 0 = (Int32.ofNat p)) {r t D x y : Nat} {ra : Nat → Nat} (hp1 : 2 ≤ p) (hp2 : p ≤ 19) (ha : a = Int32.ofNat r) (hb : b = Int32.ofNat x) (hc : c = Int32.ofNat y) (he : e = Int32.ofNat t) (hr : r < 48) (ht : t < 48) (hrt : r ≠ t) (hD : I dg r = Int32.ofNat D) (hD8 : D ≤ 40) (hxy : x + y ≤ D) (hra : ∀ k, k ≤ D → I nu (41 * r + k) = Int32.ofNat (ra k)) (hrap : ∀ k, k ≤ D → ra k < p) (hnd : nu ≠ dg) (hwn : w ≠ nu) (hwd : w ≠ dg) : Ex (d + 4) 207 [.ref m, .int a, .int b, .int c, .int e] (T, N, I, L, R) 0 0 (pV T N R (fun I9 L9 => Rs nu dg (fun z => z = t) I I9 ∧ L9 = L ∧ Rw nu dg p I9 t (D - x - y) (dhM ra D x y p (D - x - y + 1)))) := by
  refine ⟨_, rfl, Nat.le_of_ble_eq_true rfl, fun V C S => ?_⟩
  show V 0 [(0, .ref m), (1, .int a), (2, .int b), (3, .int c), (4, .int e)] [] (T, N, I, L, R) 0 0
  subst ha; subst hb; subst hc; subst he
  have loop : ∀ (s i : Nat) (I1 : IT), s = D - x - y + 1 - i → i ≤ D - x - y + 1 → Rs nu dg (fun z => z = t) I I1 → Rw nu dg p I1 t (D - x - y) (dhM ra D x y p i) → V 19 [(5, .int (Int32.ofNat (i + y))), (0, .ref m), (1, .int (Int32.ofNat r)), (2, .int (Int32.ofNat x)), (3, .int (Int32.ofNat y)), (4, .int (Int32.ofNat t))] [] (T, N, I1, L, R) 0 0 := by
    intro s
    induction s using Nat.strongRecOn with
    | _ s ih =>
      intro i I1 hs hi hR hT
      have hDr0 := (hR.2.1 r hr hrt).trans hD
      refine k_iload C rfl rfl rfl ?_
      refine k_aload_n C rfl rfl rfl ?_
      refine g_R C rfl rfl rfl T_m rfl R_m_4 ?_
      refine k_iload_n C rfl rfl rfl ?_
      refine a_I C rfl rfl T_dg (vin (n := r) rfl (by rw [N_dg]; omega) (by rw [N_dg]; exact Nat.le_of_ble_eq_true rfl)) (hvx (n_nat (by omega)) (hDr0)) ?_
      refine k_iload_n C rfl rfl rfl ?_
      refine k_isub C rfl rfl ?_
      rw [n_sub (by omega)]
      refine k_icmp_gt C (t := 73) rfl rfl rfl (fun c29 => ?_) (fun c29 => ?_)
      · skip
        have hi2 : i = D - x - y + 1 := by have := (n_lt (by omega) (by omega)).mp c29; omega
        subst hi2
        exact k_vret C rfl rfl (Nat.le_of_ble_eq_true rfl) (Nat.le_of_ble_eq_true rfl) ⟨_, _, rfl, rfl, hR, rfl, hT⟩
      have hi3 : i + y < D - x + 1 := Nat.lt_succ_of_le (Nat.le_of_not_lt (fun h => c29 ((n_lt (by omega) (by omega)).mpr h)))
      have I_w_0 := (congrFun (hR.1 w hwn hwd) 0).trans I_w_0
      have hDr := (hR.2.1 r hr hrt).trans hD
      have hra1 := (hR.2.2 r (i + y) hr (by omega) hrt).trans (hra (i + y) (by omega))
      have b1 := hrap (i + y) (by omega)
      have b2 := dsM_lt (v0 := dsM 1 (D - (i + y)) p x) (b := i + y) hp1 (dsM_lt (b := D - (i + y)) hp1 (by omega) x) y
      refine k_aload_n C rfl rfl rfl ?_
      refine k_iload C rfl rfl rfl ?_
      refine k_iload C rfl rfl rfl ?_
      refine k_iload_n C rfl rfl rfl ?_
      refine k_isub C rfl rfl ?_
      rw [n_sub (n := i + y) (m := y) (by omega), Nat.add_sub_cancel]
      refine k_aload_n C rfl rfl rfl ?_
      refine k_aload_n C rfl rfl rfl ?_
      refine k_iload_n C rfl rfl rfl ?_
      refine k_iload C rfl rfl rfl ?_
      refine c_VI C (e_m_of T_m R_m_5 T_nu N_nu rfl rfl (by omega)) rfl rfl rfl rfl rfl ⟨_, rfl, rfl, T_m, Nat.le_of_ble_eq_true rfl⟩ rfl rfl (Nat.le_of_ble_eq_true rfl) (Nat.le_of_ble_eq_true rfl) (Nat.le_of_ble_eq_true rfl) ?_
      rintro _ _ _ ⟨hx7, hI8, hL9⟩
      have hx7 := hx7.symm; subst hx7
      have hI8 := hI8.symm; subst hI8; have hL9 := hL9.symm; subst hL9
      rw [hra1]
      refine k_aload_n C rfl rfl rfl ?_
      refine k_aload_n C rfl rfl rfl ?_
      refine g_R C rfl rfl rfl T_m rfl R_m_4 ?_
      refine k_iload_n C rfl rfl rfl ?_
      refine a_I C rfl rfl T_dg (vin (n := r) rfl (by rw [N_dg]; omega) (by rw [N_dg]; exact Nat.le_of_ble_eq_true rfl)) (hvx (n_nat (by omega)) (hDr)) ?_
      refine k_iload C rfl rfl rfl ?_
      refine k_iload_n C rfl rfl rfl ?_
      refine k_iload_n C rfl rfl rfl ?_
      refine c_VI C (e_m_differs T_m R_m_1 T_w N_w (I_w_0) hp1 hp2 rfl rfl rfl rfl (by omega) (by omega) (by omega)) rfl rfl rfl rfl rfl ⟨_, rfl, rfl, T_m, Nat.le_of_ble_eq_true rfl⟩ rfl rfl (Nat.le_of_ble_eq_true rfl) (Nat.le_of_ble_eq_true rfl) (Nat.le_of_ble_eq_true rfl) ?_
      rintro _ _ _ ⟨hx7, hI8, hL9⟩
      have hx7 := hx7.symm; subst hx7
      have hI8 := hI8.symm; subst hI8; have hL9 := hL9.symm; subst hL9
      refine c_VI C (e_m_timesN T_m R_m_1 T_w N_w (I_w_0) hp1 hp2 rfl rfl (by omega) (by omega)) rfl rfl rfl rfl rfl ⟨_, rfl, rfl, T_m, Nat.le_of_ble_eq_true rfl⟩ rfl rfl (Nat.le_of_ble_eq_true rfl) (Nat.le_of_ble_eq_true rfl) (Nat.le_of_ble_eq_true rfl) ?_
      rintro _ _ _ ⟨hx7, hI8, hL9⟩
      have hx7 := hx7.symm; subst hx7
      have hI8 := hI8.symm; subst hI8; have hL9 := hL9.symm; subst hL9
      refine c_VV C (e_m_put T_m R_m_5 T_nu N_nu rfl rfl (by omega)) rfl rfl rfl rfl rfl ⟨_, rfl, rfl, T_m, Nat.le_of_ble_eq_true rfl⟩ rfl rfl (Nat.le_of_ble_eq_true rfl) (Nat.le_of_ble_eq_true rfl) (Nat.le_of_ble_eq_true rfl) ?_
      rintro _ _ ⟨hI8, hL9⟩
      have hI8 := hI8.symm; subst hI8; have hL9 := hL9.symm; subst hL9
      refine k_iinc C (lw := [(5, .int _), (0, _), (1, .int _), (2, .int _), (3, .int _), (4, .int _)]) rfl rfl rfl (Nat.le_of_ble_eq_true rfl) rfl rfl ?_
      refine k_goto C (pc2 := 19) rfl rfl ?_
      show V 19 [(5, .int (Int32.ofNat (i + y) + 1)), _, _, _, _, _] [] _ 0 0
      rw [n_s, show i + y + 1 = i + 1 + y from by omega]
      have hT9 := Rw.put (j := i) hnd hT (show dfM ra D x y p i < p from Nat.mod_lt _ (by omega))
      rw [dhM_s] at hT9
      exact ih (D - x - y + 1 - (i + 1)) (by omega) (i + 1) _ rfl (by omega) (hR.tr (Rs.put (by omega) hnd)) hT9
  refine k_aload_n C rfl rfl rfl ?_
  refine k_iload C rfl rfl rfl ?_
  refine k_aload_n C rfl rfl rfl ?_
  refine g_R C rfl rfl rfl T_m rfl R_m_4 ?_
  refine k_iload_n C rfl rfl rfl ?_
  refine a_I C rfl rfl T_dg (vin (n := r) rfl (by rw [N_dg]; omega) (by rw [N_dg]; exact Nat.le_of_ble_eq_true rfl)) (hvx (n_nat (by omega)) hD) ?_
  refine k_iload_n C rfl rfl rfl ?_
  refine k_isub C rfl rfl ?_
  rw [n_sub (by omega)]
  refine k_iload_n C rfl rfl rfl ?_
  refine k_isub C rfl rfl ?_
  rw [n_sub (by omega)]
  refine c_VV C (e_m_clears T_m R_m_5 T_nu N_nu R_m_4 T_dg N_dg rfl rfl ht (by omega)) rfl rfl rfl rfl rfl ⟨_, rfl, rfl, T_m, Nat.le_of_ble_eq_true rfl⟩ rfl rfl (Nat.le_of_ble_eq_true rfl) (Nat.le_of_ble_eq_true rfl) (Nat.le_of_ble_eq_true rfl) ?_
  rintro _ _ ⟨hI8, hL9⟩
  have hI8 := hI8.symm; subst hI8; have hL9 := hL9.symm; subst hL9
  refine k_iload_n C rfl rfl rfl ?_
  refine k_istore C (lw := [(5, .int _), (0, _), (1, .int _), (2, .int _), (3, .int _), (4, .int _)]) rfl rfl (Nat.le_of_ble_eq_true rfl) rfl ?_
  have h0 := loop (D - x - y + 1) 0 _ rfl (Nat.zero_le _) (Rs_bk hnd (by omega)) (Rw_bk hnd (by omega) (fun j _ => show (0 : Int32) = Int32.ofNat (dhM ra D x y p 0 j) from by rw [show dhM ra D x y p 0 j = 0 from if_neg (by omega)]; rfl) (fun j _ => by rw [show dhM ra D x y p 0 j = 0 from if_neg (by omega)]; omega))
  rw [Nat.zero_add] at h0
  exact h0
end
-- 39.68.bin.lean.txt
section
/-! the reference, binomials -/
theorem n_div {a b : Nat} (ha : a < 2147483648) (hb : b < 2147483648) (h : 1 ≤ b) : Int32.ofNat a / Int32.ofNat b = Int32.ofNat (a / b) := by
  have hq := Nat.div_le_self a b
  apply Int32.toInt_inj.mp
  rw [Int32.toInt_div_of_ne_right _ _ (by intro e; have := congrArg Int32.toInt e; rw [n_int hb] at this; have e1 : (-1 : Int32).toInt = -1 := rfl; omega), n_int ha, n_int hb, n_int (by omega)]
  exact (Int.ofNat_tdiv a b).symm
def ovM (n k : Nat) : Nat → Nat
  | 0 => 1
  | i + 1 => ovM n k i * (n - k + (i + 1)) / (i + 1)
theorem ovM_le : ∀ n, n < 9 → ∀ k, k < n + 1 → ∀ i, i < k + 1 → ovM n k i ≤ 70 := by decide
theorem e_m_over {d : Nat} {T N : Nat → Nat} {I : IT} {L : LT} {R : RT} {a b : Int32}  {n k : Nat} (ha : a = Int32.ofNat n) (hb : b = Int32.ofNat k) (hn : n ≤ 8) (hk : k ≤ n) : Ex (d + 1) 208 [.int a, .int b] (T, N, I, L, R) 0 0 (pI T N R (fun x9 I9 L9 => x9 = (Int32.ofNat (ovM n k k)) ∧ I9 = I ∧ L9 = L)) := by
  refine ⟨_, rfl, Nat.le_of_ble_eq_true rfl, fun V C S => ?_⟩
  show V 0 [(0, .int a), (1, .int b)] [] (T, N, I, L, R) 0 0
  subst ha; subst hb
  have loop : ∀ (s i : Nat), s = k - i → i ≤ k → V 4 [(3, .int (Int32.ofNat (i + 1))), (2, .int (Int32.ofNat (ovM n k i))), (0, .int (Int32.ofNat n)), (1, .int (Int32.ofNat k))] [] (T, N, I, L, R) 0 0 := by
    intro s
    induction s using Nat.strongRecOn with
    | _ s ih =>
      intro i hs hi
      refine k_iload_n C rfl rfl rfl ?_
      refine k_iload_n C rfl rfl rfl ?_
      refine k_icmp_gt C (t := 25) rfl rfl rfl (fun c6 => ?_) (fun c6 => ?_)
      · skip
        have hi2 : i = k := by have := (n_lt (by omega) (by omega)).mp c6; omega
        subst hi2
        refine k_iload_n C rfl rfl rfl ?_
        exact k_iret C rfl (Or.inl rfl) (Nat.le_of_ble_eq_true rfl) (Nat.le_of_ble_eq_true rfl) ⟨_, _, _, rfl, rfl, rfl, rfl, rfl⟩
      have hi2 : i + 1 ≤ k := Nat.le_of_not_lt (fun h => c6 ((n_lt (by omega) (by omega)).mpr h))
      have b1 := ovM_le n (by omega) k (by omega) i (by omega)
      have b2 : ovM n k i * (n - k + (i + 1)) ≤ 70 * 9 := Nat.mul_le_mul b1 (by omega)
      refine k_iload_n C rfl rfl rfl ?_
      refine k_iload_n C rfl rfl rfl ?_
      refine k_iload_n C rfl rfl rfl ?_
      refine k_isub C rfl rfl ?_
      rw [n_sub (by omega)]
      refine k_iload_n C rfl rfl rfl ?_
      refine k_iadd C rfl rfl ?_
      rw [n_add]
      refine k_imul C rfl rfl ?_
      rw [n_mul]
      refine k_iload_n C rfl rfl rfl ?_
      refine k_idiv C rfl rfl (i_ne0 (by rw [n_int (by omega)]; omega)) ?_
      rw [n_div (by omega) (by omega) (by omega)]
      refine k_istore_n C (lw := [(2, .int _), (3, .int _), (0, .int _), (1, .int _)]) rfl rfl (Nat.le_of_ble_eq_true rfl) rfl ?_
      refine k_inc1 C (lw := [(3, .int _), (2, .int _), (0, .int _), (1, .int _)]) rfl rfl rfl (Nat.le_of_ble_eq_true rfl) rfl ?_
      refine k_goto C (pc2 := 4) rfl rfl ?_
      rw [n_s]
      exact ih (k - (i + 1)) (by omega) (i + 1) rfl (by omega)
  refine k_iconst C (x := 1) rfl rfl rfl ?_
  refine k_istore_n C (lw := [(2, .int _), (0, .int _), (1, .int _)]) rfl rfl (Nat.le_of_ble_eq_true rfl) rfl ?_
  refine k_iconst C (x := 1) rfl rfl rfl ?_
  refine k_istore_n C (lw := [(3, .int _), (2, .int _), (0, .int _), (1, .int _)]) rfl rfl (Nat.le_of_ble_eq_true rfl) rfl ?_
  exact loop k 0 rfl (Nat.zero_le _)
end
-- 40.mod.lean.txt
section
/-! the reference in any state: its arrays, its invariant -/
def h_MD (T N : Nat → Nat) (R : RT) (A : Nat → Prop) (r : Nat) : Prop := T r = 13 ∧ A r ∧ (∃ b, R r 1 = some b ∧ (h_A T N A 20 4007) b) ∧ (∃ b, R r 2 = some b ∧ (h_A T N A 20 3606) b) ∧ (∃ b, R r 4 = some b ∧ (h_A T N A 20 48) b) ∧ (∃ b, R r 5 = some b ∧ (h_A T N A 20 1968) b) ∧ (∃ b, R r 10 = some b ∧ (h_A T N A 22 400) b) ∧ (∃ b, R r 18 = some b ∧ (h_A T N A 20 5) b) ∧ (∃ b, R r 20 = some b ∧ (h_A T N A 20 48) b) ∧ (∃ b, R r 21 = some b ∧ (h_A T N A 21 1261) b) ∧ (∃ b, R r 22 = some b ∧ (h_A T N A 20 3936) b) ∧ (∃ b, R r 23 = some b ∧ (h_A T N A 20 108) b) ∧ (∃ b, R r 25 = some b ∧ (h_A T N A 20 361) b) ∧ (∃ b, R r 26 = some b ∧ (h_A T N A 20 180) b) ∧ (∃ b, R r 27 = some b ∧ (h_A T N A 20 3) b) ∧ (∃ b, R r 28 = some b ∧ (h_A T N A 20 3) b) ∧ (∃ b, R r 34 = some b ∧ (h_A T N A 21 4) b) ∧ (∀ f g a, R r f = some a → R r g = some a → f = g) ∧ (∀ f a, R r f = some a → T a = 20 ∨ T a = 21 ∨ T a = 22)
theorem nck {x : Int32} {n : Nat} (h : x.toInt = (n : Int)) : x.toNatClampNeg = n := by
  have e1 : x.toNatClampNeg = x.toInt.toNat := rfl
  omega
theorem ncz {x : Int32} (h : 0 ≤ x.toInt) : ((x.toNatClampNeg : Nat) : Int) = x.toInt := by
  have e1 : x.toNatClampNeg = x.toInt.toNat := rfl
  omega
/-- a row of signs from place b on: n steps, hs j the height ahead of step j -/
def Hgt (g : Nat → Int32) (b : Nat) : Nat → Int
  | 0 => 0
  | j + 1 => Hgt g b j + (if (g (b + 1 + 2 * j)).toInt ≤ 1 then 1 else if (g (b + 1 + 2 * j)).toInt = 5 then 0 else -1)
theorem HgtS {g : Nat → Int32} {b : Nat} {x y : Int32} (h0 : 0 ≤ x.toInt) (hy : y.toInt = x.toInt + 1) : Hgt g b y.toNatClampNeg = Hgt g b x.toNatClampNeg + (if (g (b + 1 + 2 * x.toNatClampNeg)).toInt ≤ 1 then 1 else if (g (b + 1 + 2 * x.toNatClampNeg)).toInt = 5 then 0 else -1) := by
  have h1 := ncz h0
  have h2 := ncz (x := y) (by omega)
  have h3 : y.toNatClampNeg = x.toNatClampNeg + 1 := by omega
  rw [h3]; rfl
def SGN (g : Nat → Int32) (b : Nat) : Prop := 0 ≤ (g b).toInt ∧ (g b).toInt ≤ 199 ∧ ∀ j : Nat, (j : Int) < (g b).toInt → 0 ≤ (g (b + 1 + 2 * j)).toInt ∧ (g (b + 1 + 2 * j)).toInt ≤ 5 ∧ 0 ≤ (g (b + 2 + 2 * j)).toInt ∧ (g (b + 2 + 2 * j)).toInt ≤ 999 ∧ 0 ≤ Hgt g b j ∧ Hgt g b j ≤ 40 ∧ ((g (b + 1 + 2 * j)).toInt ≤ 1 → Hgt g b j ≤ 39) ∧ (2 ≤ (g (b + 1 + 2 * j)).toInt → (g (b + 1 + 2 * j)).toInt ≤ 4 → 2 ≤ Hgt g b j) ∧ ((g (b + 1 + 2 * j)).toInt = 5 → 1 ≤ Hgt g b j)
def WO1 (g : Nat → Int32) : Prop := (g 0).toInt = 11 ∨ (g 0).toInt = 13 ∨ (g 0).toInt = 17 ∨ (g 0).toInt = 19
def WO2 (g : Nat → Int32) : Prop := (0 ≤ (g 1).toInt ∧ (g 1).toInt ≤ 16) ∧ (0 ≤ (g 2).toInt ∧ (g 2).toInt ≤ 8) ∧ (0 ≤ (g 3).toInt ∧ (g 3).toInt ≤ 8) ∧ (0 ≤ (g 4).toInt ∧ (g 4).toInt ≤ 40) ∧ (0 ≤ (g 5).toInt ∧ (g 5).toInt ≤ 40)
def WO3 (g : Nat → Int32) : Prop := ∀ f, f < 16 → 0 ≤ (g (6 + 10 * f)).toInt ∧ (g (6 + 10 * f)).toInt ≤ 8 ∧ ∀ k, k < 9 → -18 ≤ (g (6 + 10 * f + 1 + k)).toInt ∧ (g (6 + 10 * f + 1 + k)).toInt ≤ 18
def WO4 (g : Nat → Int32) : Prop := ∀ f : Nat, (f : Int) < (g 1).toInt → ∀ k : Nat, (k : Int) ≤ (g (6 + 10 * f)).toInt → -(g 0).toInt < (g (6 + 10 * f + 1 + k)).toInt ∧ (g (6 + 10 * f + 1 + k)).toInt < (g 0).toInt
def WO5 (g : Nat → Int32) : Prop := ∀ t, t < 32 → -18 ≤ (g (166 + t)).toInt ∧ (g (166 + t)).toInt ≤ 18
def WO6 (g : Nat → Int32) : Prop := ∀ s : Nat, (s : Int) < (g 3).toInt → SGN g (198 + 401 * s)
def WO7 (g : Nat → Int32) : Prop := ∀ a, a < 40 → 0 ≤ (g (3406 + 5 * a)).toInt ∧ (g (3406 + 5 * a)).toInt ≤ 15 ∧ ∀ j, 1 ≤ j → j < 5 → -18 ≤ (g (3406 + 5 * a + j)).toInt ∧ (g (3406 + 5 * a + j)).toInt ≤ 18
def WOK (g : Nat → Int32) : Prop := WO1 g ∧ WO2 g ∧ WO3 g ∧ WO4 g ∧ WO5 g ∧ WO6 g ∧ WO7 g
def WOS (g : Nat → Int32) : Prop := WOK g ∧ (g 4).toInt + (g 5).toInt ≤ 40
def boA (f : Nat) (x : Int32) : Prop := (f = 4 → 0 ≤ x.toInt ∧ x.toInt ≤ 40) ∧ (f = 27 → 0 ≤ x.toInt ∧ x.toInt ≤ 19) ∧ (f = 5 ∨ f = 22 ∨ f = 23 ∨ f = 26 ∨ f = 28 → -18 ≤ x.toInt ∧ x.toInt ≤ 18)
def boF (k : Nat) (x : Int32) : Prop := (k = 11 ∨ k = 12 ∨ k = 13 ∨ k = 14 → 0 ≤ x.toInt ∧ x.toInt ≤ 400) ∧ (k = 15 → 0 ≤ x.toInt ∧ x.toInt ≤ 6) ∧ (k = 16 → 0 ≤ x.toInt ∧ x.toInt ≤ 40) ∧ (k = 24 → 0 ≤ x.toInt ∧ x.toInt ≤ 492) ∧ (k = 6 ∨ k = 7 ∨ k = 8 ∨ k = 9 → -18 ≤ x.toInt ∧ x.toInt ≤ 18)
def IM (R : RT) (m : Nat) (I : IT) : Prop := (∀ f a, R m f = some a → ∀ k, boA f (I a k)) ∧ (∀ a, R m 1 = some a → WOK (I a)) ∧ ∀ k, boF k (I m k)
theorem IM.dgR {R : RT} {m a k : Nat} {I : IT} {x : Int32} (h : IM R m I) (ha : R m 4 = some a) (e : I a k = x) : 0 ≤ x.toInt ∧ x.toInt ≤ 40 := by rw [← e]; exact (h.1 4 a ha k).1 rfl
theorem IM.spR {R : RT} {m a k : Nat} {I : IT} {x : Int32} (h : IM R m I) (ha : R m 27 = some a) (e : I a k = x) : 0 ≤ x.toInt ∧ x.toInt ≤ 19 := by rw [← e]; exact (h.1 27 a ha k).2.1 rfl
theorem IM.nuR {R : RT} {m a k : Nat} {I : IT} {x : Int32} (h : IM R m I) (ha : R m 5 = some a) (e : I a k = x) : -18 ≤ x.toInt ∧ x.toInt ≤ 18 := by rw [← e]; exact (h.1 5 a ha k).2.2 (by decide)
theorem IM.rsR {R : RT} {m a k : Nat} {I : IT} {x : Int32} (h : IM R m I) (ha : R m 22 = some a) (e : I a k = x) : -18 ≤ x.toInt ∧ x.toInt ≤ 18 := by rw [← e]; exact (h.1 22 a ha k).2.2 (by decide)
theorem IM.dnR {R : RT} {m a k : Nat} {I : IT} {x : Int32} (h : IM R m I) (ha : R m 23 = some a) (e : I a k = x) : -18 ≤ x.toInt ∧ x.toInt ≤ 18 := by rw [← e]; exact (h.1 23 a ha k).2.2 (by decide)
theorem IM.pwR {R : RT} {m a k : Nat} {I : IT} {x : Int32} (h : IM R m I) (ha : R m 26 = some a) (e : I a k = x) : -18 ≤ x.toInt ∧ x.toInt ≤ 18 := by rw [← e]; exact (h.1 26 a ha k).2.2 (by decide)
theorem IM.faR {R : RT} {m a k : Nat} {I : IT} {x : Int32} (h : IM R m I) (ha : R m 28 = some a) (e : I a k = x) : -18 ≤ x.toInt ∧ x.toInt ≤ 18 := by rw [← e]; exact (h.1 28 a ha k).2.2 (by decide)
theorem IM.f11 {R : RT} {m : Nat} {I : IT} {x : Int32} (h : IM R m I) (e : I m 11 = x) : 0 ≤ x.toInt ∧ x.toInt ≤ 400 := by rw [← e]; exact (h.2.2 11).1 (by decide)
theorem IM.f12 {R : RT} {m : Nat} {I : IT} {x : Int32} (h : IM R m I) (e : I m 12 = x) : 0 ≤ x.toInt ∧ x.toInt ≤ 400 := by rw [← e]; exact (h.2.2 12).1 (by decide)
theorem IM.f13 {R : RT} {m : Nat} {I : IT} {x : Int32} (h : IM R m I) (e : I m 13 = x) : 0 ≤ x.toInt ∧ x.toInt ≤ 400 := by rw [← e]; exact (h.2.2 13).1 (by decide)
theorem IM.f14 {R : RT} {m : Nat} {I : IT} {x : Int32} (h : IM R m I) (e : I m 14 = x) : 0 ≤ x.toInt ∧ x.toInt ≤ 400 := by rw [← e]; exact (h.2.2 14).1 (by decide)
theorem IM.f15 {R : RT} {m : Nat} {I : IT} {x : Int32} (h : IM R m I) (e : I m 15 = x) : 0 ≤ x.toInt ∧ x.toInt ≤ 6 := by rw [← e]; exact (h.2.2 15).2.1 rfl
theorem IM.f16 {R : RT} {m : Nat} {I : IT} {x : Int32} (h : IM R m I) (e : I m 16 = x) : 0 ≤ x.toInt ∧ x.toInt ≤ 40 := by rw [← e]; exact (h.2.2 16).2.2.1 rfl
theorem IM.f24 {R : RT} {m : Nat} {I : IT} {x : Int32} (h : IM R m I) (e : I m 24 = x) : 0 ≤ x.toInt ∧ x.toInt ≤ 492 := by rw [← e]; exact (h.2.2 24).2.2.2.1 rfl
theorem IM.f6 {R : RT} {m : Nat} {I : IT} {x : Int32} (h : IM R m I) (e : I m 6 = x) : -18 ≤ x.toInt ∧ x.toInt ≤ 18 := by rw [← e]; exact (h.2.2 6).2.2.2.2 (by decide)
theorem IM.f7 {R : RT} {m : Nat} {I : IT} {x : Int32} (h : IM R m I) (e : I m 7 = x) : -18 ≤ x.toInt ∧ x.toInt ≤ 18 := by rw [← e]; exact (h.2.2 7).2.2.2.2 (by decide)
theorem IM.f8 {R : RT} {m : Nat} {I : IT} {x : Int32} (h : IM R m I) (e : I m 8 = x) : -18 ≤ x.toInt ∧ x.toInt ≤ 18 := by rw [← e]; exact (h.2.2 8).2.2.2.2 (by decide)
theorem IM.f9 {R : RT} {m : Nat} {I : IT} {x : Int32} (h : IM R m I) (e : I m 9 = x) : -18 ≤ x.toInt ∧ x.toInt ≤ 18 := by rw [← e]; exact (h.2.2 9).2.2.2.2 (by decide)
theorem IM.w {R : RT} {m a : Nat} {I : IT} (h : IM R m I) (ha : R m 1 = some a) : WOK (I a) := h.2.1 a ha
theorem IM.p {R : RT} {m a : Nat} {I : IT} {x : Int32} (h : IM R m I) (ha : R m 1 = some a) (e : I a 0 = x) : x.toInt = 11 ∨ x.toInt = 13 ∨ x.toInt = 17 ∨ x.toInt = 19 := by rw [← e]; exact (h.w ha).1
theorem IM.pi {R : RT} {m a : Nat} {I : IT} {x : Int32} (h : IM R m I) (ha : R m 1 = some a) (e : I a 0 = x) : 11 ≤ x.toInt ∧ x.toInt ≤ 19 := by have := h.p ha e; omega
theorem IM.c1 {R : RT} {m a : Nat} {I : IT} {x : Int32} (h : IM R m I) (ha : R m 1 = some a) (e : I a 1 = x) : 0 ≤ x.toInt ∧ x.toInt ≤ 16 := by rw [← e]; exact (h.w ha).2.1.1
theorem IM.c2 {R : RT} {m a : Nat} {I : IT} {x : Int32} (h : IM R m I) (ha : R m 1 = some a) (e : I a 2 = x) : 0 ≤ x.toInt ∧ x.toInt ≤ 8 := by rw [← e]; exact (h.w ha).2.1.2.1
theorem IM.c3 {R : RT} {m a : Nat} {I : IT} {x : Int32} (h : IM R m I) (ha : R m 1 = some a) (e : I a 3 = x) : 0 ≤ x.toInt ∧ x.toInt ≤ 8 := by rw [← e]; exact (h.w ha).2.1.2.2.1
theorem IM.c4 {R : RT} {m a : Nat} {I : IT} {x : Int32} (h : IM R m I) (ha : R m 1 = some a) (e : I a 4 = x) : 0 ≤ x.toInt ∧ x.toInt ≤ 40 := by rw [← e]; have := (h.w ha).2.1.2.2.2; omega
theorem IM.c5 {R : RT} {m a : Nat} {I : IT} {x : Int32} (h : IM R m I) (ha : R m 1 = some a) (e : I a 5 = x) : 0 ≤ x.toInt ∧ x.toInt ≤ 40 := by rw [← e]; have := (h.w ha).2.1.2.2.2; omega
theorem IM.deg {R : RT} {m a : Nat} {I : IT} {j f x : Int32} (h : IM R m I) (ha : R m 1 = some a) (hf : 0 ≤ f.toInt ∧ f.toInt ≤ 15) (hj : j.toInt = 6 + 10 * f.toInt) (e : I a j.toNatClampNeg = x) : 0 ≤ x.toInt ∧ x.toInt ≤ 8 := by
  have h1 := ncz hf.1
  have h2 : j.toNatClampNeg = 6 + 10 * f.toNatClampNeg := by have := ncz (x := j) (by omega); omega
  rw [← e, h2]; have := (h.w ha).2.2.1 f.toNatClampNeg (by omega); exact ⟨this.1, this.2.1⟩
theorem IM.num {R : RT} {m a : Nat} {I : IT} {j f k x : Int32} (h : IM R m I) (ha : R m 1 = some a) (hf : 0 ≤ f.toInt ∧ f.toInt ≤ 15) (hk : 0 ≤ k.toInt ∧ k.toInt ≤ 8) (hj : j.toInt = 6 + 10 * f.toInt + 1 + k.toInt) (e : I a j.toNatClampNeg = x) : -18 ≤ x.toInt ∧ x.toInt ≤ 18 := by
  have h1 := ncz hf.1
  have h3 := ncz hk.1
  have h2 : j.toNatClampNeg = 6 + 10 * f.toNatClampNeg + 1 + k.toNatClampNeg := by have := ncz (x := j) (by omega); omega
  rw [← e, h2]; exact ((h.w ha).2.2.1 f.toNatClampNeg (by omega)).2.2 k.toNatClampNeg (by omega)
theorem IM.tab {R : RT} {m a : Nat} {I : IT} {j x : Int32} (h : IM R m I) (ha : R m 1 = some a) (hj : 166 ≤ j.toInt ∧ j.toInt ≤ 197) (e : I a j.toNatClampNeg = x) : -18 ≤ x.toInt ∧ x.toInt ≤ 18 := by
  have h1 := ncz (x := j) (by omega)
  have h2 : j.toNatClampNeg = 166 + (j.toNatClampNeg - 166) := by omega
  rw [← e, h2]; exact (h.w ha).2.2.2.2.1 (j.toNatClampNeg - 166) (by omega)
theorem IM.act {R : RT} {m a : Nat} {I : IT} {j x : Int32} (h : IM R m I) (ha : R m 1 = some a) {b : Int} (hb : 0 ≤ b ∧ b < 40) (hj : j.toInt = 3406 + 5 * b) (e : I a j.toNatClampNeg = x) : 0 ≤ x.toInt ∧ x.toInt ≤ 15 := by
  have h1 := ncz (x := j) (by omega)
  have h2 : j.toNatClampNeg = 3406 + 5 * b.toNat := by omega
  rw [← e, h2]; have := (h.w ha).2.2.2.2.2.2 b.toNat (by omega); exact ⟨this.1, this.2.1⟩
theorem IM.actn {R : RT} {m a : Nat} {I : IT} {j x : Int32} (h : IM R m I) (ha : R m 1 = some a) {b i : Int} (hb : 0 ≤ b ∧ b < 40) (hi : 1 ≤ i ∧ i < 5) (hj : j.toInt = 3406 + 5 * b + i) (e : I a j.toNatClampNeg = x) : -18 ≤ x.toInt ∧ x.toInt ≤ 18 := by
  have h1 := ncz (x := j) (by omega)
  have h2 : j.toNatClampNeg = 3406 + 5 * b.toNat + i.toNat := by omega
  rw [← e, h2]; exact ((h.w ha).2.2.2.2.2.2 b.toNat (by omega)).2.2 i.toNat (by omega) (by omega)
def NZ (I : IT) (nu r : Nat) (D : Int) : Prop := ∃ k : Nat, (k : Int) ≤ D ∧ (I nu (41 * r + k)).toInt ≠ 0
def NE1 (I : IT) (rs j : Nat) : Prop := (I rs j).toInt ≠ 0
def RMD (w x y : Int32) : Prop := w.toInt = x.toInt.tmod y.toInt
def MXD (w x y : Int32) : Prop := -18 ≤ x.toInt → x.toInt ≤ 18 → -18 ≤ y.toInt → y.toInt ≤ 18 → w.toInt = x.toInt * y.toInt
theorem mul_ab {u v : Int} (h1 : -18 ≤ u) (h2 : u ≤ 18) (h3 : -18 ≤ v) (h4 : v ≤ 18) : -324 ≤ u * v ∧ u * v ≤ 324 := by
  have a1 : 0 ≤ (u + 18) * (v + 18) := Int.mul_nonneg (by omega) (by omega)
  have a2 : 0 ≤ (18 - u) * (18 - v) := Int.mul_nonneg (by omega) (by omega)
  have a3 : 0 ≤ (u + 18) * (18 - v) := Int.mul_nonneg (by omega) (by omega)
  have a4 : 0 ≤ (18 - u) * (v + 18) := Int.mul_nonneg (by omega) (by omega)
  rw [Int.add_mul, Int.mul_add, Int.mul_add] at a1
  rw [Int.sub_mul, Int.mul_sub, Int.mul_sub] at a2
  rw [Int.add_mul, Int.mul_sub, Int.mul_sub] at a3
  rw [Int.sub_mul, Int.mul_add, Int.mul_add] at a4
  omega
def TMD (x a b p : Int) : Prop := x = (a * b).tmod p
theorem TMD.of {w x y : Int32} {a b p : Int} (h : RMD w x y) (e : x.toInt = a * b) (ep : y.toInt = p) : TMD w.toInt a b p := by
  unfold TMD; rw [← e, ← ep]; exact h
def LSD (x a b p : Int) : Prop := x = (a - b + p).tmod p
theorem LSD.of {w x y : Int32} {a b p : Int} (h : RMD w x y) (e : x.toInt = a - b + p) (ep : y.toInt = p) : LSD w.toInt a b p := by
  unfold LSD; rw [← e]; have h1 : w.toInt = x.toInt.tmod y.toInt := h; rw [ep] at h1; exact h1
def PWI (a p : Int) : Nat → Int
  | 0 => 1
  | n + 1 => (PWI a p n * a).tmod p
def PWQ (v a p k : Int) : Prop := v = PWI a p k.toNat
theorem PWQ.z {a p : Int} {v k : Int32} (h : v.toInt = 1) (hk : k.toInt = 0) : PWQ v.toInt a p k.toInt := by unfold PWQ; rw [hk, h]; rfl
theorem PWQ.s {a p : Int} {v k v' k' : Int32} (h : PWQ v.toInt a p k.toInt) (t : TMD v'.toInt v.toInt a p) (h0 : 0 ≤ k.toInt) (hk : k'.toInt = k.toInt + 1) : PWQ v'.toInt a p k'.toInt := by
  unfold PWQ at *; unfold TMD at t
  rw [t, h, show k'.toInt.toNat = k.toInt.toNat + 1 from by omega]; rfl
theorem PWQ.e {a p v k k' : Int} (h : PWQ v a p k) (e : k.toNat = k'.toNat) : PWQ v a p k' := by unfold PWQ at *; rw [← e]; exact h
def INVQ (x a p : Int) : Prop := -p < a → a < p → a ≠ 0 → (a * x) % p = 1
theorem inv_all : ∀ p ∈ ([11, 13, 17, 19] : List Nat), ∀ i : Nat, i < 37 → -(p : Int) < (i : Int) - 18 → (i : Int) - 18 < p → (i : Int) - 18 ≠ 0 → (((i : Int) - 18) * PWI ((i : Int) - 18) p (p - 2)) % p = 1 := by decide +kernel
theorem INVQ.of {x a p k : Int} (hp : p = 11 ∨ p = 13 ∨ p = 17 ∨ p = 19) (h : PWQ x a p k) (hk : k = p - 2) (h1 : -18 ≤ a) (h2 : a ≤ 18) : INVQ x a p := by
  intro a1 a2 a3
  unfold PWQ at h
  obtain ⟨i, hi⟩ : ∃ i : Nat, a = (i : Int) - 18 := ⟨(a + 18).toNat, by omega⟩
  obtain ⟨q, hq⟩ : ∃ q : Nat, p = (q : Int) := ⟨p.toNat, by omega⟩
  have h9 := inv_all q (by have : q = 11 ∨ q = 13 ∨ q = 17 ∨ q = 19 := by omega
                           rcases this with r | r | r | r <;> subst r <;> decide) i (by omega) (by omega) (by omega) (by omega)
  rw [h, hk, hi, hq, show ((q : Int) - 2).toNat = q - 2 from by omega]; exact h9
/-- what is left is nothing: v B = a modulo p -/
theorem red0 {a b l v t x p : Int} (hp : 0 < p) (hi : (b * l) % p = 1) (hv : TMD v a l p) (ht : TMD t v b p) (hx : LSD x a t p) : x = 0 := by
  unfold TMD at hv ht; unfold LSD at hx
  have e1 : (v - a * l) % p = 0 := by
    rw [hv]
    have := Int.tmod_add_mul_tdiv (a * l) p
    have h2 : (a * l).tmod p - a * l = p * (-(a * l).tdiv p) := by rw [Int.mul_neg]; omega
    rw [h2]; exact Int.mul_emod_right _ _
  have e2 : (t - v * b) % p = 0 := by
    rw [ht]
    have := Int.tmod_add_mul_tdiv (v * b) p
    have h2 : (v * b).tmod p - v * b = p * (-(v * b).tdiv p) := by rw [Int.mul_neg]; omega
    rw [h2]; exact Int.mul_emod_right _ _
  obtain ⟨c1, h1⟩ := Int.dvd_of_emod_eq_zero e1
  obtain ⟨c2, h2⟩ := Int.dvd_of_emod_eq_zero e2
  obtain ⟨c3, h3⟩ : ∃ c, b * l - 1 = p * c := ⟨(b * l) / p, by have := Int.mul_ediv_add_emod (b * l) p; omega⟩
  have h4 : a - t + p = p * (1 - c2 - c1 * b - a * c3) := by
    have q1 : t = p * c2 + v * b := by omega
    have q2 : v = p * c1 + a * l := by omega
    have q3 : b * l = p * c3 + 1 := by omega
    rw [q1, q2]
    have q4 : (p * c1 + a * l) * b = p * c1 * b + a * (b * l) := by grind
    rw [q4, q3]; grind
  rw [hx, h4]; exact Int.mul_tmod_right _ _
def PUTD (I I' : IT) (nu r k : Nat) (x : Int32) : Prop := I' nu (41 * r + k) = x ∧ ∀ j, j ≠ 41 * r + k → I' nu j = I nu j
theorem PUTD.of {I I' : IT} {nu r k j : Nat} {x : Int32} (e : I' = u2 I nu j x) (h : j = 41 * r + k) : PUTD I I' nu r k x := by
  subst e; subst h; exact ⟨u2_s, fun i hi => u2_k hi⟩
def QN (I : IT) (nu r : Nat) (n p : Int) : Prop := ∀ k : Nat, (k : Int) < n → -p < (I nu (41 * r + k)).toInt ∧ (I nu (41 * r + k)).toInt < p
theorem QN.put {I I' : IT} {nu r r' k : Nat} {n p : Int} {x : Int32} (h : QN I nu r n p) (w : PUTD I I' nu r' k x) (h1 : -p < x.toInt) (h2 : x.toInt < p) : QN I' nu r n p := fun j hj => by
  by_cases q : 41 * r + j = 41 * r' + k
  · rw [q, w.1]; exact ⟨h1, h2⟩
  · rw [w.2 _ q]; exact h j hj
theorem QN.eq {I I' : IT} {nu r : Nat} {n p : Int} (h : QN I nu r n p) (e : I' nu = I nu) : QN I' nu r n p := fun j hj => by rw [e]; exact h j hj
theorem QN.le {I : IT} {nu r : Nat} {n n' p : Int} (h : QN I nu r n p) (e : n' ≤ n) : QN I nu r n' p := fun j hj => h j (by omega)
theorem QN.sm {I I' : IT} {nu r : Nat} {n p : Int} (h : QN I nu r n p) (e : ∀ k, k < 41 → I' nu (41 * r + k) = I nu (41 * r + k)) (hn : n ≤ 41) : QN I' nu r n p := fun j hj => by rw [e j (by omega)]; exact h j hj
def SMR (I I' : IT) (nu r : Nat) : Prop := ∀ k, k < 41 → I' nu (41 * r + k) = I nu (41 * r + k)
theorem SMR.eq {I I' : IT} {nu r : Nat} (e : I' nu = I nu) : SMR I I' nu r := fun k _ => by rw [e]
theorem SMR.put {I I1 I' : IT} {nu r r' k : Nat} {x : Int32} (h : SMR I I1 nu r) (w : PUTD I1 I' nu r' k x) (hk : k < 41) (hn : r ≠ r') : SMR I I' nu r := fun j hj => (w.2 _ (by omega)).trans (h j hj)
theorem SMR.tr {I I1 I' : IT} {nu r : Nat} (h : SMR I I1 nu r) (g : SMR I1 I' nu r) : SMR I I' nu r := fun j hj => (g j hj).trans (h j hj)
theorem QN.smr {I I' : IT} {nu r : Nat} {n p : Int} (h : QN I nu r n p) (e : SMR I I' nu r) (hn : n ≤ 41) : QN I' nu r n p := h.sm e hn
theorem NE1.smr {I I' : IT} {nu r : Nat} (h : NE1 I nu (41 * r)) (e : SMR I I' nu r) : NE1 I' nu (41 * r) := by
  have := e 0 (by omega); show (I' nu (41 * r)).toInt ≠ 0; rw [show 41 * r = 41 * r + 0 from rfl, this]; exact h
def CPN (I I' : IT) (nu a b : Nat) (n : Int) : Prop := ∀ k : Nat, (k : Int) < n → I' nu (41 * b + k) = I nu (41 * a + k)
theorem CPN.z {I I' : IT} {nu a b : Nat} {x : Int32} (h : x.toInt = 0) : CPN I I' nu a b x.toInt := fun k hk => by omega
theorem CPN.s {I I1 I' : IT} {nu a b : Nat} {x y v : Int32} (h : CPN I I1 nu a b x.toInt) (sm : SMR I I1 nu a) (h0 : 0 ≤ x.toInt) (h40 : x.toInt ≤ 40) (o : v.toInt = (I1 nu (41 * a + x.toNatClampNeg)).toInt) (w : PUTD I1 I' nu b x.toNatClampNeg v) (hy : y.toInt = x.toInt + 1) : CPN I I' nu a b y.toInt := fun k hk => by
  have e1 := ncz h0
  by_cases q : k = x.toNatClampNeg
  · rw [q, w.1, Int32.toInt_inj.mp o]; exact sm _ (by omega)
  · rw [w.2 _ (by omega)]; exact h k (by omega)
theorem CPN.le {I I' : IT} {nu a b : Nat} {n n' : Int} (h : CPN I I' nu a b n) (e : n' ≤ n) : CPN I I' nu a b n' := fun k hk => h k (by omega)
theorem QN.cp {I I' : IT} {nu a b : Nat} {n p : Int} (h : QN I nu a n p) (c : CPN I I' nu a b n) : QN I' nu b n p := fun k hk => by rw [c k hk]; exact h k hk
theorem NE1.cp {I I' : IT} {nu a b : Nat} {n : Int} (h : NE1 I nu (41 * a)) (c : CPN I I' nu a b n) (hn : 0 < n) : NE1 I' nu (41 * b) := by
  have := c 0 (by omega); show (I' nu (41 * b)).toInt ≠ 0; rw [show 41 * b = 41 * b + 0 from rfl, this]; exact h
theorem NZ.ne {I : IT} {nu r : Nat} {D : Int} (h : NE1 I nu (41 * r)) (hD : 0 ≤ D) : NZ I nu r D := ⟨0, by omega, h⟩
def AZ (I : IT) (rs a : Nat) (n : Int) : Prop := ∀ k : Nat, (k : Int) < n → (I rs (a + k)).toInt = 0
def RW1 (I : IT) (rs a : Nat) (lg : Int) : Prop := ∃ k : Nat, (k : Int) < lg ∧ (I rs (a + k)).toInt ≠ 0
def RWS (I : IT) (rs n : Nat) (lg : Int) : Prop := ∀ r : Nat, r < n → ∃ k : Nat, (k : Int) < lg ∧ (I rs (492 * r + k)).toInt ≠ 0
theorem AZ.z {I : IT} {rs a : Nat} {x : Int32} (h : x.toInt = 0) : AZ I rs a x.toInt := fun k hk => by omega
theorem AZ.s {I : IT} {rs a : Nat} {x y : Int32} (h : AZ I rs a x.toInt) (h0 : 0 ≤ x.toInt) (e : (I rs (a + x.toNatClampNeg)).toInt = 0) (hy : y.toInt = x.toInt + 1) : AZ I rs a y.toInt := fun k hk => by
  have h1 := ncz h0
  by_cases q : k = x.toNatClampNeg
  · rw [q]; exact e
  · exact h k (by omega)
theorem RW1.of {I : IT} {rs a : Nat} {x : Int32} {lg : Int} (h : NE1 I rs (a + x.toNatClampNeg)) (h0 : 0 ≤ x.toInt) (h1 : x.toInt < lg) : RW1 I rs a lg := ⟨x.toNatClampNeg, by have := ncz h0; omega, h⟩
theorem RWS.z {I : IT} {rs : Nat} {x : Int32} {lg : Int} (h : x.toInt = 0) : RWS I rs x.toNatClampNeg lg := fun r hr => by
  have := nck (x := x) (n := 0) h
  omega
theorem RWS.lt {I : IT} {rs : Nat} {z r n : Int32} {x lg : Int} (h : RWS I rs n.toNatClampNeg lg) (a : AZ I rs z.toNatClampNeg x) (e : z.toInt = 492 * r.toInt) (h0 : 0 ≤ r.toInt) (h1 : r.toInt < n.toInt) : x < lg := by
  have e1 := ncz h0
  have e2 := ncz (x := z) (by omega)
  have e3 := ncz (x := n) (by omega)
  obtain ⟨k, hk, hn⟩ := h r.toNatClampNeg (by omega)
  have e4 : z.toNatClampNeg = 492 * r.toNatClampNeg := by omega
  by_cases q : (k : Int) < x
  · exact absurd (by rw [← e4]; exact a k q) hn
  · omega
theorem RWS.fr {I I' : IT} {rs : Nat} {n1 n2 : Int32} {lg : Int} (h : RWS I rs n2.toNatClampNeg lg) (f : ∀ r : Nat, (r < n1.toNatClampNeg ∨ n1.toNatClampNeg + 492 ≤ r) → I' rs r = I rs r) (e : n1.toInt = 492 * n2.toInt) (h0 : 0 ≤ n2.toInt) (hl : lg ≤ 492) : RWS I' rs n2.toNatClampNeg lg := fun r hr => by
  have e1 := ncz h0
  have e2 := ncz (x := n1) (by omega)
  obtain ⟨k, hk, hn⟩ := h r hr
  exact ⟨k, hk, by rw [f _ (by omega)]; exact hn⟩
theorem RWS.lg {I : IT} {rs : Nat} {n : Int32} {lg lg' : Int} (h : RWS I rs n.toNatClampNeg lg) (h0 : 0 ≤ n.toInt) (c : n.toInt = 0 ∨ lg = lg') : RWS I rs n.toNatClampNeg lg' := fun r hr => by
  have e1 := ncz h0
  rcases c with c | c
  · omega
  · rw [← c]; exact h r hr
theorem RWS.s {I : IT} {rs : Nat} {n y z : Int32} {lg : Int} (h : RWS I rs n.toNatClampNeg lg) (w : RW1 I rs z.toNatClampNeg lg) (h0 : 0 ≤ n.toInt) (e : z.toInt = 492 * n.toInt) (hy : y.toInt = n.toInt + 1) : RWS I rs y.toNatClampNeg lg := fun r hr => by
  have e1 := ncz h0
  have e2 := ncz (x := y) (by omega)
  have e3 := ncz (x := z) (by omega)
  by_cases q : r < n.toNatClampNeg
  · exact h r q
  · obtain ⟨k, hk, hn⟩ := w
    have e4 : z.toNatClampNeg = 492 * r := by omega
    exact ⟨k, hk, by rw [← e4]; exact hn⟩
theorem QN.s {I I' : IT} {nu r : Nat} {x y v : Int32} {p : Int} (h : QN I nu r x.toInt p) (w : PUTD I I' nu r x.toNatClampNeg v) (h0 : 0 ≤ x.toInt) (hy : y.toInt = x.toInt + 1) (h1 : -p < v.toInt) (h2 : v.toInt < p) : QN I' nu r y.toInt p := fun k hk => by
  have e1 := ncz h0
  by_cases q : k = x.toNatClampNeg
  · rw [q, w.1]; exact ⟨h1, h2⟩
  · rw [w.2 _ (by omega)]; exact h k (by omega)
theorem QN.z {I : IT} {nu r : Nat} {x : Int32} {p : Int} (h : x.toInt = 0) : QN I nu r x.toInt p := fun k hk => by omega
theorem AZ.put {I I' : IT} {nu r : Nat} {z v : Int32} {n : Int} (h : AZ I nu (41 * r) n) (w : PUTD I I' nu r z.toNatClampNeg v) (h0 : 0 ≤ z.toInt) (hz : n ≤ z.toInt) : AZ I' nu (41 * r) n := fun k hk => by
  have e1 := ncz h0
  rw [w.2 _ (by omega)]; exact h k hk
theorem AZ.ge {I : IT} {nu a : Nat} {m : Int} {x : Int32} (h : AZ I nu a m) (n : NE1 I nu (a + x.toNatClampNeg)) (h0 : 0 ≤ x.toInt) : m ≤ x.toInt := by
  have e1 := ncz h0
  by_cases q : m ≤ x.toInt
  · exact q
  · exact absurd (h x.toNatClampNeg (by omega)) n
theorem AZ.p {I I' : IT} {nu r : Nat} {x y v : Int32} (h : AZ I nu (41 * r) x.toInt) (w : PUTD I I' nu r x.toNatClampNeg v) (hv : v.toInt = 0) (h0 : 0 ≤ x.toInt) (hy : y.toInt = x.toInt + 1) : AZ I' nu (41 * r) y.toInt := fun k hk => by
  have e1 := ncz h0
  by_cases q : k = x.toNatClampNeg
  · rw [q, w.1]; exact hv
  · rw [w.2 _ (by omega)]; exact h k (by omega)
theorem QN.az {I : IT} {nu r : Nat} {n p : Int} (h : AZ I nu (41 * r) n) (hp : 0 < p) : QN I nu r n p := fun k hk => by rw [h k hk]; omega
def STQ (I I' : IT) (nu r : Nat) (n k : Int) : Prop := (∀ j : Nat, (j : Int) < k - n → I' nu (41 * r + j) = I nu (41 * r + j + n.toNat)) ∧ ∀ j : Nat, k - n ≤ j → I' nu (41 * r + j) = I nu (41 * r + j)
theorem STQ.z {I I' : IT} {nu r : Nat} {n k : Int} (h : n = k) (e : I' nu = I nu) : STQ I I' nu r n k := ⟨fun j hj => by omega, fun j _ => by rw [e]⟩
theorem STQ.s {I I1 I' : IT} {nu r : Nat} {n k k' z v : Int32} (h : STQ I I1 nu r n.toInt k.toInt) (o : v.toInt = (I1 nu (41 * r + k.toNatClampNeg)).toInt) (w : PUTD I1 I' nu r z.toNatClampNeg v) (hz : z.toInt = k.toInt - n.toInt) (h0 : 0 ≤ n.toInt) (h1 : n.toInt ≤ k.toInt) (hk : k'.toInt = k.toInt + 1) : STQ I I' nu r n.toInt k'.toInt := by
  have e1 := ncz (x := k) (by omega)
  have e2 := ncz (x := z) (by omega)
  refine ⟨fun j hj => ?_, fun j hj => ?_⟩
  · by_cases q : j = z.toNatClampNeg
    · subst q
      rw [w.1, Int32.toInt_inj.mp o, h.2 _ (by omega)]
      congr 1; omega
    · rw [w.2 _ (by omega)]; exact h.1 j (by omega)
  · rw [w.2 _ (by omega)]; exact h.2 j (by omega)
def STP (I I' : IT) (nu r : Nat) (n D : Int) : Prop := ∀ j : Nat, (j : Int) ≤ D - n → I' nu (41 * r + j) = I nu (41 * r + j + n.toNat)
theorem STQ.p {I I1 I' : IT} {nu r : Nat} {n k D : Int} (h : STQ I I1 nu r n k) (e : I' nu = I1 nu) (hk : D < k) : STP I I' nu r n D := fun j hj => by rw [e]; exact h.1 j (by omega)
theorem QN.st {I I' : IT} {nu r : Nat} {n D p : Int} (h : QN I nu r (D + 1) p) (s : STP I I' nu r n D) (h0 : 0 ≤ n) : QN I' nu r (D - n + 1) p := fun j hj => by
  rw [s j (by omega), Nat.add_assoc]; exact h _ (by omega)
theorem STP.ne {I I' : IT} {nu r : Nat} {n : Int32} {D : Int} (s : STP I I' nu r n.toInt D) (h : NE1 I nu (41 * r + n.toNatClampNeg)) (h0 : 0 ≤ n.toInt) (h1 : n.toInt ≤ D) : NE1 I' nu (41 * r) := by
  have e1 := ncz h0
  have := s 0 (by omega)
  show (I' nu (41 * r)).toInt ≠ 0
  rw [show 41 * r = 41 * r + 0 from rfl, this, show 41 * r + 0 + n.toInt.toNat = 41 * r + n.toNatClampNeg from by omega]; exact h
def ROWK (I : IT) (nu j : Nat) (i a : Int) : Prop := (i = 0 → (I nu j).toInt = a) ∧ (1 ≤ i → (I nu j).toInt = 0)
theorem ROWK.s {I I' : IT} {nu r : Nat} {k i z i' v : Int32} {a : Int} (h : ROWK I nu (41 * r + k.toNatClampNeg) i.toInt a) (w : PUTD I I' nu r z.toNatClampNeg v) (hz : z.toInt = k.toInt + i.toInt) (hx : i.toInt = 0 → v.toInt = 0) (hy : i'.toInt = i.toInt + 1) (hk : 0 ≤ k.toInt) (hi : 0 ≤ i.toInt) : ROWK I' nu (41 * r + k.toNatClampNeg) i'.toInt a := by
  have e1 := ncz hk
  have e2 := ncz (x := z) (by omega)
  refine ⟨fun q => by omega, fun _ => ?_⟩
  by_cases q : i.toInt = 0
  · rw [show 41 * r + k.toNatClampNeg = 41 * r + z.toNatClampNeg from by omega, w.1]; exact hx q
  · rw [w.2 _ (by omega)]; exact h.2 (by omega)
theorem AZ.row {I : IT} {nu r : Nat} {k y i : Int32} {a : Int} (h : AZ I nu (41 * r) k.toInt) (w : ROWK I nu (41 * r + k.toNatClampNeg) i.toInt a) (hi : 1 ≤ i.toInt) (h0 : 0 ≤ k.toInt) (hy : y.toInt = k.toInt + 1) : AZ I nu (41 * r) y.toInt := h.s h0 (w.2 hi) hy
theorem div0 {I I7 : IT} {nu : Nat} {k i z c b' t x v : Int32} {va vb vl p : Int} (hp : 0 < p) (W : ROWK I7 nu (41 * 40 + k.toNatClampNeg) i.toInt va) (S : SMR I I7 nu 41) (hi : i.toInt = 0) (hz : z.toInt = k.toInt + i.toInt) (hk : 0 ≤ k.toInt) (oc : c.toInt = (I7 nu (41 * 40 + z.toNatClampNeg)).toInt) (ob : b'.toInt = (I7 nu (41 * 41 + i.toNatClampNeg)).toInt) (hb : vb = (I nu (41 * 41 + 0)).toInt) (inv : (vb * vl) % p = 1) (t1 : TMD v.toInt va vl p) (t2 : TMD t.toInt v.toInt b'.toInt p) (l : LSD x.toInt c.toInt t.toInt p) : x.toInt = 0 := by
  have e1 := ncz hk
  have e2 := ncz (x := z) (by omega)
  have e3 := nck (x := i) (n := 0) hi
  rw [show z.toNatClampNeg = k.toNatClampNeg from by omega, W.1 hi] at oc
  rw [e3, S 0 (by omega), ← hb] at ob
  rw [ob] at t2
  rw [oc] at l
  exact red0 hp inv t1 t2 l
theorem AZ.le {I : IT} {nu a : Nat} {n n' : Int} (h : AZ I nu a n) (e : n' ≤ n) : AZ I nu a n' := fun k hk => h k (by omega)
theorem AZ.put43 {I I' : IT} {nu k : Nat} {v x : Int32} (h : AZ I nu (41 * 40) x.toInt) (w : PUTD I I' nu 43 k v) (hx : x.toInt ≤ 41) : AZ I' nu (41 * 40) x.toInt := fun j hj => by
  rw [w.2 _ (by omega)]; exact h j hj
theorem nclt {x : Int32} {n : Nat} (h0 : 0 ≤ x.toInt) (h : x.toInt < n) : x.toNatClampNeg < n := by have := ncz h0; omega
theorem ROWK.z {I I' : IT} {nu kk : Nat} {k i v a : Int32} {va : Int} (w : PUTD I I' nu 43 kk v) (hk : k.toInt ≤ 40) (h0 : 0 ≤ k.toInt) (o : a.toInt = (I nu (41 * 40 + k.toNatClampNeg)).toInt) (hv : va = a.toInt) (hi : i.toInt = 0) : ROWK I' nu (41 * 40 + k.toNatClampNeg) i.toInt va := by
  have := ncz h0
  exact ⟨fun _ => by rw [w.2 _ (by omega), ← o, hv], fun h => by omega⟩
theorem NZ.sm {I I' : IT} {nu r : Nat} {D : Int} (h : NZ I nu r D) (e : ∀ k, k < 41 → I' nu (41 * r + k) = I nu (41 * r + k)) (hD : D ≤ 40) : NZ I' nu r D := by
  obtain ⟨k, h1, h2⟩ := h
  exact ⟨k, h1, by rw [e k (by omega)]; exact h2⟩
def GN (I : IT) (nu j : Nat) (g : Int) : Prop := g ≠ 0 → NE1 I nu j
def CPW (I : IT) (a b : Nat) (n : Int) : Prop := ∀ k : Nat, (k : Int) < n → I b k = I a k
theorem CPW.z {I : IT} {a b : Nat} {x : Int32} (h : x.toInt = 0) : CPW I a b x.toInt := fun k hk => by omega
theorem CPW.s {I I' : IT} {a b : Nat} {x y v : Int32} (h : CPW I a b x.toInt) (e : I' = u2 I b x.toNatClampNeg v) (hn : a ≠ b) (o : I a x.toNatClampNeg = v) (h0 : 0 ≤ x.toInt) (hy : y.toInt = x.toInt + 1) : CPW I' a b y.toInt := fun k hk => by
  subst e
  have e1 := ncz h0
  rw [u2_a hn]
  by_cases q : k = x.toNatClampNeg
  · rw [q, u2_s, o]
  · rw [u2_k q]; exact h k (by omega)
def mF (T : Nat → Nat) (R : RT) (m : Nat) : Prop := (∀ f g a, R m f = some a → R m g = some a → f = g) ∧ (∀ f a, R m f = some a → T a = 20 ∨ T a = 21 ∨ T a = 22) ∧ T m = 13
theorem mF.ne {T : Nat → Nat} {R : RT} {m f a : Nat} (h : mF T R m) (ha : R m f = some a) : a ≠ m := by
  rintro rfl
  have := h.2.1 _ _ ha
  have := h.2.2
  omega
theorem mF.nq {T : Nat → Nat} {R : RT} {m f g a b : Nat} (h : mF T R m) (ha : R m f = some a) (hb : R m g = some b) (hn : f ≠ g) : a ≠ b := by
  rintro rfl; exact hn (h.1 _ _ _ ha hb)
theorem IM.fld {T : Nat → Nat} {R : RT} {m k : Nat} {I I' : IT} {x : Int32} (h : IM R m I) (G : mF T R m) (hx : boF k x) (e : I' = u2 I m k x) : IM R m I' := by
  subst e
  have hn : ∀ f a, R m f = some a → u2 I m k x a = I a := fun f a ha => u2_r (G.ne ha)
  refine ⟨fun f a ha => ?_, fun a ha => ?_, fun j => ?_⟩
  · rw [hn _ _ ha]; exact h.1 f a ha
  · rw [hn _ _ ha]; exact h.2.1 a ha
  · by_cases q : j = k
    · subst q; rw [u2_s]; exact hx
    · rw [u2_k q]; exact h.2.2 j
theorem IM.arr {T : Nat → Nat} {R : RT} {m f b k : Nat} {I I' : IT} {x : Int32} (h : IM R m I) (G : mF T R m) (hb : R m f = some b) (hx : boA f x) (h1 : f = 1 → WOK (u2 I b k x b)) (e : I' = u2 I b k x) : IM R m I' := by
  subst e
  have hn : ∀ g a, R m g = some a → g ≠ f → u2 I b k x a = I a := fun g a ha hg => u2_r (G.nq ha hb hg)
  have hs : ∀ a, R m f = some a → a = b := fun a ha => Option.some.inj (ha.symm.trans hb)
  have hm : ∀ j, u2 I b k x m j = I m j := fun j => u2_a (fun e => (G.ne hb) e.symm)
  refine ⟨fun g a ha j => ?_, fun a ha => ?_, fun j => ?_⟩
  · by_cases q : g = f
    · subst q; rw [hs a ha]
      by_cases z : j = k
      · subst z; rw [u2_s]; exact hx
      · rw [u2_k z]; exact h.1 g b hb j
    · rw [hn _ _ ha q]; exact h.1 g a ha j
  · by_cases q : (1 : Nat) = f
    · rw [hs a (q ▸ ha)]; exact h1 q.symm
    · rw [hn _ _ ha q]; exact h.2.1 a ha
  · rw [hm]; exact h.2.2 j
def CM (A : Nat → Prop) (R : RT) (m : Nat) (W WA : List Nat) (I : IT) (L : LT) (I' : IT) (L' : LT) : Prop := (∀ a, ¬ A a → I' a = I a ∧ L' a = L a) ∧ (∀ k, k ∉ W → I' m k = I m k) ∧ ∀ f a, R m f = some a → f ∉ WA → I' a = I a ∧ L' a = L a
theorem CM.rf {A : Nat → Prop} {R : RT} {m : Nat} {W WA : List Nat} {I : IT} {L : LT} : CM A R m W WA I L I L := ⟨fun _ _ => ⟨rfl, rfl⟩, fun _ _ => rfl, fun _ _ _ _ => ⟨rfl, rfl⟩⟩
theorem CM.cons {A : Nat → Prop} {R : RT} {m : Nat} {W WA W1 WA1 : List Nat} {I I1 I2 : IT} {L L1 L2 : LT} (h : CM A R m W1 WA1 I L I1 L1) (g : CM A R m W WA I1 L1 I2 L2) (s1 : ∀ z ∈ W1, z ∈ W) (s2 : ∀ z ∈ WA1, z ∈ WA) : CM A R m W WA I L I2 L2 :=
  ⟨fun a ha => ⟨(g.1 a ha).1.trans (h.1 a ha).1, (g.1 a ha).2.trans (h.1 a ha).2⟩, fun k hn => (g.2.1 k hn).trans (h.2.1 k (fun q => hn (s1 _ q))), fun f a hf hn => ⟨(g.2.2 f a hf hn).1.trans (h.2.2 f a hf (fun q => hn (s2 _ q))).1, (g.2.2 f a hf hn).2.trans (h.2.2 f a hf (fun q => hn (s2 _ q))).2⟩⟩
theorem CM.mono {A : Nat → Prop} {R : RT} {m : Nat} {W WA W1 WA1 : List Nat} {I I1 : IT} {L L1 : LT} (h : CM A R m W1 WA1 I L I1 L1) (s1 : ∀ z ∈ W1, z ∈ W) (s2 : ∀ z ∈ WA1, z ∈ WA) : CM A R m W WA I L I1 L1 := h.cons CM.rf s1 s2
theorem CM.f {A : Nat → Prop} {T : Nat → Nat} {R : RT} {m k : Nat} {I I' : IT} {L : LT} {x : Int32} (G : mF T R m) (hm : A m) (e : I' = u2 I m k x) : CM A R m [k] [] I L I' L := by
  subst e
  exact ⟨fun a ha => ⟨u2_r (fun q => ha (q ▸ hm)), rfl⟩, fun j hn => u2_k (fun q => hn (q ▸ List.mem_cons_self)), fun f a hf _ => ⟨u2_r (G.ne hf), rfl⟩⟩
theorem CM.fl {A : Nat → Prop} {T : Nat → Nat} {R : RT} {m k : Nat} {I : IT} {L L' : LT} {x : Int64} (G : mF T R m) (hm : A m) (e : L' = u2 L m k x) : CM A R m [] [] I L I L' := by
  subst e
  exact ⟨fun a ha => ⟨rfl, u2_r (fun q => ha (q ▸ hm))⟩, fun j hn => rfl, fun f a hf _ => ⟨rfl, u2_r (G.ne hf)⟩⟩
theorem CM.a {A : Nat → Prop} {T : Nat → Nat} {R : RT} {m f b k : Nat} {I I' : IT} {L : LT} {x : Int32} (G : mF T R m) (hb : R m f = some b) (ha : A b) (e : I' = u2 I b k x) : CM A R m [] [f] I L I' L := by
  subst e
  exact ⟨fun a h => ⟨u2_r (fun q => h (q ▸ ha)), rfl⟩, fun j _ => u2_a (fun e => (G.ne hb) e.symm), fun g a hg hn => ⟨u2_r (fun q => hn (by rw [G.1 g f b (q ▸ hg) hb]; exact List.mem_cons_self)), rfl⟩⟩
theorem CM.al {A : Nat → Prop} {T : Nat → Nat} {R : RT} {m f b k : Nat} {I : IT} {L L' : LT} {x : Int64} (G : mF T R m) (hb : R m f = some b) (ha : A b) (e : L' = u2 L b k x) : CM A R m [] [f] I L I L' := by
  subst e
  exact ⟨fun a h => ⟨rfl, u2_r (fun q => h (q ▸ ha))⟩, fun j _ => rfl, fun g a hg hn => ⟨rfl, u2_r (fun q => hn (by rw [G.1 g f b (q ▸ hg) hb]; exact List.mem_cons_self))⟩⟩
def TT (R : RT) (m : Nat) (I : IT) : Prop := R m 0 = R m 0 ∧ I m 0 = I m 0
theorem TT.i {R : RT} {m : Nat} {I : IT} : TT R m I := ⟨rfl, rfl⟩
theorem IM.bk {A : Nat → Prop} {R : RT} {m w : Nat} {I I' : IT} {L L' : LT} (h : IM R m I) (c : CM A R m [0] [1] I L I' L') (hw : R m 1 = some w) (W : WOK (I' w)) : IM R m I' := by
  refine ⟨fun f a ha k => ?_, fun a ha => ?_, fun k => ?_⟩
  · by_cases q : f = 1
    · subst q; exact ⟨fun z => absurd z (by decide), fun z => absurd z (by decide), fun z => absurd z (by decide)⟩
    · rw [(c.2.2 f a ha (by simpa using q)).1]; exact h.1 f a ha k
  · have : a = w := Option.some.inj (ha.symm.trans hw)
    rw [this]; exact W
  · by_cases q : k = 0
    · subst q; exact ⟨fun z => absurd z (by decide), fun z => absurd z (by decide), fun z => absurd z (by decide), fun z => absurd z (by decide), fun z => absurd z (by decide)⟩
    · rw [c.2.1 k (by simpa using q)]; exact h.2.2 k
theorem CM.k {A : Nat → Prop} {R : RT} {m k : Nat} {W WA : List Nat} {I I' : IT} {L L' : LT} {x : Int32} (h : CM A R m W WA I L I' L') (hn : k ∉ W) (e : I m k = x) : I' m k = x := (h.2.1 k hn).trans e
theorem CM.j {A : Nat → Prop} {R : RT} {m f a k : Nat} {W WA : List Nat} {I I' : IT} {L L' : LT} {x : Int32} (h : CM A R m W WA I L I' L') (hf : R m f = some a) (hn : f ∉ WA) (e : I a k = x) : I' a k = x := (congrFun (h.2.2 f a hf hn).1 k).trans e
theorem CM.j0 {A : Nat → Prop} {R : RT} {m f a : Nat} {W WA : List Nat} {I I' : IT} {L L' : LT} (h : CM A R m W WA I L I' L') (hf : R m f = some a) (hn : f ∉ WA) : I' a = I a := (h.2.2 f a hf hn).1
theorem i_nk {f f' : Nat → Nat → Int32} {a k j : Nat} {x y : Int32} (e : f' = u2 f a k x) (h : j ≠ k) (g : f a j = y) : f' a j = y := u2_j e h g
theorem ncne {x y : Int32} (h0 : 0 ≤ x.toInt) (h1 : 0 ≤ y.toInt) (h : x.toInt ≠ y.toInt) : x.toNatClampNeg ≠ y.toNatClampNeg := by
  have := ncz h0
  have := ncz h1
  omega
theorem nckn {x : Int32} {n : Nat} (h0 : 0 ≤ x.toInt) (h : x.toInt ≠ (n : Int)) : x.toNatClampNeg ≠ n := by
  have := ncz h0
  omega
section AutoM
variable {d : Nat} {q : mm_T} {mc ms : Nat} {Post : Po} {V : V_T} {pc pc2 : Nat} {lv : List (Nat × Value)} {r : List Value} {ck sk : Nat} {T N : Nat → Nat} {I : IT} {L : LT} {R : RT}
theorem iremB {x y : Int32} (hy : 0 < y.toInt) : -y.toInt < (x - x / y * y).toInt ∧ (x - x / y * y).toInt < y.toInt ∧ (0 ≤ x.toInt → 0 ≤ (x - x / y * y).toInt) := by
  rw [i_rem hy]
  exact ⟨Int.lt_tmod_of_pos x.toInt hy, Int.tmod_lt_of_pos x.toInt hy, (tm_sg x.toInt hy).1⟩
theorem z_iremB (C : Cl d q mc ms Post V) {M : Mm} {x y : Int32} (hi : cdf q.2.2.2.2.2.2 pc = some (.irem, 1)) (hp : pc + 1 = pc2) (hy : 0 < y.toInt) (h : ∀ w : Int32, -y.toInt < w.toInt ∧ w.toInt < y.toInt ∧ (0 ≤ x.toInt → 0 ≤ w.toInt) ∧ RMD w x y → V pc2 lv (.int w :: r) M ck sk) : V pc lv (.int y :: .int x :: r) M ck sk := k_irem C hi hp (i_ne0 (by omega)) (h _ ⟨(iremB hy).1, (iremB hy).2.1, (iremB hy).2.2, i_rem hy⟩)
theorem z_imulN (C : Cl d q mc ms Post V) {M : Mm} {x y : Int32} (hi : cdf q.2.2.2.2.2.2 pc = some (.imul, 1)) (hp : pc + 1 = pc2) (h : ∀ w : Int32, (0 ≤ x.toInt → x.toInt ≤ 18 → 0 ≤ y.toInt → y.toInt ≤ 18 → 0 ≤ w.toInt ∧ w.toInt ≤ 324) ∧ MXD w x y → V pc2 lv (.int w :: r) M ck sk) : V pc lv (.int y :: .int x :: r) M ck sk := k_imul C hi hp (h _ ⟨fun h1 h2 h3 h4 => by
  have := mul_bd (u := x.toInt) (v := y.toInt) ⟨h1, h2⟩ ⟨h3, h4⟩
  rw [ii_mul (by omega)]; exact this, fun h1 h2 h3 h4 => by
  have h5 := mul_ab h1 h2 h3 h4
  rw [ii_mul (by omega)]⟩)
theorem z_imulI (C : Cl d q mc ms Post V) {M : Mm} {x y : Int32} {a b c : Int} (hi : cdf q.2.2.2.2.2.2 pc = some (.imul, 1)) (hp : pc + 1 = pc2) (hx : 0 ≤ x.toInt ∧ x.toInt ≤ a) (hy : 0 ≤ y.toInt ∧ y.toInt ≤ b) (hc : a * b = c) (hc2 : c ≤ 2147483647) (h : ∀ w : Int32, 0 ≤ w.toInt ∧ w.toInt ≤ c → V pc2 lv (.int w :: r) M ck sk) : V pc lv (.int y :: .int x :: r) M ck sk := k_imul C hi hp (h _ (by
  have h1 : 0 ≤ x.toInt * y.toInt := Int.mul_nonneg hx.1 hy.1
  have h2 : x.toInt * y.toInt ≤ a * b := Int.mul_le_mul hx.2 hy.2 hy.1 (by omega)
  rw [ii_mul (by omega)]; omega))
end AutoM
end
