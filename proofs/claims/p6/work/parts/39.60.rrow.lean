/-! the rows of the reference, any state -/
def bk (I : IT) (a s n : Nat) (f : Nat → Int32) : IT := fun b j => if b = a ∧ s ≤ j ∧ j < s + n then f (j - s) else I b j
theorem bk_0 {I : IT} {a s : Nat} {f : Nat → Int32} : bk I a s 0 f = I := by
  funext b j; unfold bk; rw [if_neg (fun h => by omega)]
theorem bk_s {I : IT} {a s n : Nat} {f : Nat → Int32} : u2 (bk I a s n f) a (s + n) (f n) = bk I a s (n + 1) f := by
  funext b j
  by_cases e : b = a ∧ j = s + n
  · obtain ⟨rfl, rfl⟩ := e
    rw [u2_s]; unfold bk
    rw [if_pos ⟨rfl, by omega, by omega⟩, Nat.add_sub_cancel_left]
  · have h1 : u2 (bk I a s n f) a (s + n) (f n) b j = bk I a s n f b j := if_neg e
    rw [h1]; unfold bk
    by_cases q : b = a ∧ s ≤ j ∧ j < s + n
    · rw [if_pos q, if_pos ⟨q.1, q.2.1, by omega⟩]
    · rw [if_neg q, if_neg (fun z => q ⟨z.1, z.2.1, by have : j ≠ s + n := fun y => e ⟨z.1, y⟩; omega⟩)]
theorem bk_a {I : IT} {a s n b j : Nat} {f : Nat → Int32} (h : b ≠ a) : bk I a s n f b j = I b j := if_neg (fun z => h z.1)
theorem bk_o {I : IT} {a s n j : Nat} {f : Nat → Int32} (h : ¬ (s ≤ j ∧ j < s + n)) : bk I a s n f a j = I a j := if_neg (fun z => h z.2)
theorem bk_i {I : IT} {a s n k : Nat} {f : Nat → Int32} (h : k < n) : bk I a s n f a (s + k) = f k := by
  unfold bk; rw [if_pos ⟨rfl, by omega, by omega⟩, Nat.add_sub_cancel_left]
theorem hvx {f : Nat → Int32} {j x : Int32} {n : Nat} (h : j.toNatClampNeg = n) (g : f n = x) : f j.toNatClampNeg = x := by rw [h]; exact g
theorem i41 {r j : Nat} : (41 : Int32) * Int32.ofNat r + Int32.ofNat j = Int32.ofNat (41 * r + j) := by
  rw [show (41 : Int32) = Int32.ofNat 41 from rfl, n_mul, n_add]
theorem i10 {f : Nat} : (6 : Int32) + 10 * Int32.ofNat f = Int32.ofNat (6 + 10 * f) := by
  rw [show (10 : Int32) = Int32.ofNat 10 from rfl, show (6 : Int32) = Int32.ofNat 6 from rfl, n_mul, n_add]
theorem e_m_of {d : Nat} {T N : Nat → Nat} {I : IT} {L : LT} {R : RT} {m nu : Nat} {a b : Int32} (T_m : T m = 13) (R_m_5 : R m 5 = some nu) (T_nu : T nu = 20) (N_nu : N nu = 1968) {r j : Nat} (ha : a = Int32.ofNat r) (hb : b = Int32.ofNat j) (h : 41 * r + j < 1968) : Ex (d + 1) 198 [.ref m, .int a, .int b] (T, N, I, L, R) 0 0 (pI T N R (fun x9 I9 L9 => x9 = (I nu (41 * r + j)) ∧ I9 = I ∧ L9 = L)) := by
  refine ⟨_, rfl, Nat.le_of_ble_eq_true rfl, fun V C S => ?_⟩
  show V 0 [(0, .ref m), (1, .int a), (2, .int b)] [] (T, N, I, L, R) 0 0
  subst ha; subst hb
  refine k_aload_n C rfl rfl rfl ?_
  refine g_R C rfl rfl rfl T_m rfl R_m_5 ?_
  refine k_bipush C (x := 41) rfl rfl rfl ?_
  refine k_iload_n C rfl rfl rfl ?_
  refine k_imul C rfl rfl ?_
  refine k_iload_n C rfl rfl rfl ?_
  refine k_iadd C rfl rfl ?_
  rw [i41]
  refine a_I C rfl rfl T_nu (vin (n := 41 * r + j) rfl (by rw [N_nu]; omega) (by rw [N_nu]; exact Nat.le_of_ble_eq_true rfl)) (by rw [n_nat (by omega)]) ?_
  exact k_iret C rfl (Or.inl rfl) (Nat.le_of_ble_eq_true rfl) (Nat.le_of_ble_eq_true rfl) ⟨_, _, _, rfl, rfl, ⟨rfl, rfl, rfl⟩⟩

theorem e_m_put {d : Nat} {T N : Nat → Nat} {I : IT} {L : LT} {R : RT} {m nu : Nat} {a b v : Int32} (T_m : T m = 13) (R_m_5 : R m 5 = some nu) (T_nu : T nu = 20) (N_nu : N nu = 1968) {r j : Nat} (ha : a = Int32.ofNat r) (hb : b = Int32.ofNat j) (h : 41 * r + j < 1968) : Ex (d + 1) 199 [.ref m, .int a, .int b, .int v] (T, N, I, L, R) 0 0 (pV T N R (fun I9 L9 => I9 = (u2 I nu (41 * r + j) v) ∧ L9 = (L))) := by
  refine ⟨_, rfl, Nat.le_of_ble_eq_true rfl, fun V C S => ?_⟩
  show V 0 [(0, .ref m), (1, .int a), (2, .int b), (3, .int v)] [] (T, N, I, L, R) 0 0
  subst ha; subst hb
  refine k_aload_n C rfl rfl rfl ?_
  refine g_R C rfl rfl rfl T_m rfl R_m_5 ?_
  refine k_bipush C (x := 41) rfl rfl rfl ?_
  refine k_iload_n C rfl rfl rfl ?_
  refine k_imul C rfl rfl ?_
  refine k_iload_n C rfl rfl rfl ?_
  refine k_iadd C rfl rfl ?_
  rw [i41]
  refine k_iload_n C rfl rfl rfl ?_
  refine s_I C rfl rfl T_nu (vin (n := 41 * r + j) rfl (by rw [N_nu]; omega) (by rw [N_nu]; exact Nat.le_of_ble_eq_true rfl)) (n_nat (by omega)) ?_
  exact k_vret C rfl rfl (Nat.le_of_ble_eq_true rfl) (Nat.le_of_ble_eq_true rfl) ⟨_, _, rfl, rfl, ⟨rfl, rfl⟩⟩

theorem e_m_formAt {d : Nat} {T N : Nat → Nat} {I : IT} {L : LT} {R : RT} {a : Int32}  {f : Nat} (ha : a = Int32.ofNat f) : Ex (d + 1) 187 [.int a] (T, N, I, L, R) 0 0 (pI T N R (fun x9 I9 L9 => x9 = (Int32.ofNat (6 + 10 * f)) ∧ I9 = I ∧ L9 = L)) := by
  refine ⟨_, rfl, Nat.le_of_ble_eq_true rfl, fun V C S => ?_⟩
  show V 0 [(0, .int a)] [] (T, N, I, L, R) 0 0
  subst ha
  refine k_bipush C (x := 6) rfl rfl rfl ?_
  refine k_bipush C (x := 10) rfl rfl rfl ?_
  refine k_iload_n C rfl rfl rfl ?_
  refine k_imul C rfl rfl ?_
  refine k_iadd C rfl rfl ?_
  exact k_iret C rfl (Or.inl rfl) (Nat.le_of_ble_eq_true rfl) (Nat.le_of_ble_eq_true rfl) ⟨_, _, _, rfl, rfl, ⟨i10, rfl, rfl⟩⟩

theorem e_m_degreeOf {d : Nat} {T N : Nat → Nat} {I : IT} {L : LT} {R : RT} {m w : Nat} {a : Int32} (T_m : T m = 13) (R_m_1 : R m 1 = some w) (T_w : T w = 20) (N_w : N w = 4007) {f : Nat} (ha : a = Int32.ofNat f) (h : f < 16) : Ex (d + 2) 188 [.ref m, .int a] (T, N, I, L, R) 0 0 (pI T N R (fun x9 I9 L9 => x9 = (I w (6 + 10 * f)) ∧ I9 = I ∧ L9 = L)) := by
  refine ⟨_, rfl, Nat.le_of_ble_eq_true rfl, fun V C S => ?_⟩
  show V 0 [(0, .ref m), (1, .int a)] [] (T, N, I, L, R) 0 0
  refine k_aload_n C rfl rfl rfl ?_
  refine g_R C rfl rfl rfl T_m rfl R_m_1 ?_
  refine k_iload_n C rfl rfl rfl ?_
  refine c_SI C (e_m_formAt  ha) rfl rfl rfl rfl rfl rfl rfl (Nat.le_of_ble_eq_true rfl) (Nat.le_of_ble_eq_true rfl) (Nat.le_of_ble_eq_true rfl) ?_
  rintro _ _ _ ⟨hx7, hI8, hL9⟩
  have hx7 := hx7.symm; subst hx7
  have hI8 := hI8.symm; subst hI8; have hL9 := hL9.symm; subst hL9
  refine a_I C rfl rfl T_w (vin (n := 6 + 10 * f) rfl (by rw [N_w]; omega) (by rw [N_w]; exact Nat.le_of_ble_eq_true rfl)) (by rw [n_nat (by omega)]) ?_
  exact k_iret C rfl (Or.inl rfl) (Nat.le_of_ble_eq_true rfl) (Nat.le_of_ble_eq_true rfl) ⟨_, _, _, rfl, rfl, ⟨rfl, rfl, rfl⟩⟩

theorem e_m_numberOf {d : Nat} {T N : Nat → Nat} {I : IT} {L : LT} {R : RT} {m w : Nat} {a b : Int32} (T_m : T m = 13) (R_m_1 : R m 1 = some w) (T_w : T w = 20) (N_w : N w = 4007) {f k : Nat} (ha : a = Int32.ofNat f) (hb : b = Int32.ofNat k) (h : f < 16) (hk : k ≤ 8) : Ex (d + 2) 189 [.ref m, .int a, .int b] (T, N, I, L, R) 0 0 (pI T N R (fun x9 I9 L9 => x9 = (I w (6 + 10 * f + 1 + k)) ∧ I9 = I ∧ L9 = L)) := by
  refine ⟨_, rfl, Nat.le_of_ble_eq_true rfl, fun V C S => ?_⟩
  show V 0 [(0, .ref m), (1, .int a), (2, .int b)] [] (T, N, I, L, R) 0 0
  subst hb
  refine k_aload_n C rfl rfl rfl ?_
  refine g_R C rfl rfl rfl T_m rfl R_m_1 ?_
  refine k_iload_n C rfl rfl rfl ?_
  refine c_SI C (e_m_formAt  ha) rfl rfl rfl rfl rfl rfl rfl (Nat.le_of_ble_eq_true rfl) (Nat.le_of_ble_eq_true rfl) (Nat.le_of_ble_eq_true rfl) ?_
  rintro _ _ _ ⟨hx7, hI8, hL9⟩
  have hx7 := hx7.symm; subst hx7
  have hI8 := hI8.symm; subst hI8; have hL9 := hL9.symm; subst hL9
  refine k_iconst C (x := 1) rfl rfl rfl ?_
  refine k_iadd C rfl rfl ?_
  refine k_iload_n C rfl rfl rfl ?_
  refine k_iadd C rfl rfl ?_
  rw [n_s, n_add]
  refine a_I C rfl rfl T_w (vin (n := 6 + 10 * f + 1 + k) rfl (by rw [N_w]; omega) (by rw [N_w]; exact Nat.le_of_ble_eq_true rfl)) (by rw [n_nat (by omega)]) ?_
  exact k_iret C rfl (Or.inl rfl) (Nat.le_of_ble_eq_true rfl) (Nat.le_of_ble_eq_true rfl) ⟨_, _, _, rfl, rfl, ⟨rfl, rfl, rfl⟩⟩

theorem e_m_takes {d : Nat} {T N : Nat → Nat} {I : IT} {L : LT} {R : RT} {m w nu dg : Nat} {a b : Int32} (T_m : T m = 13) (R_m_1 : R m 1 = some w) (T_w : T w = 20) (N_w : N w = 4007) (R_m_5 : R m 5 = some nu) (T_nu : T nu = 20) (N_nu : N nu = 1968) (R_m_4 : R m 4 = some dg) (T_dg : T dg = 20) (N_dg : N dg = 48) {r f D : Nat} (ha : a = Int32.ofNat r) (hb : b = Int32.ofNat f) (hr : r < 48) (hf : f < 16) (hD : I w (6 + 10 * f) = Int32.ofNat D) (hD8 : D ≤ 8) (hnd : nu ≠ dg) (hwn : w ≠ nu) (hwd : w ≠ dg) : Ex (d + 3) 200 [.ref m, .int a, .int b] (T, N, I, L, R) 0 0 (pV T N R (fun I9 L9 => I9 = (bk (u2 I dg r (Int32.ofNat D)) nu (41 * r) (D + 1) (fun k => I w (6 + 10 * f + 1 + k))) ∧ L9 = (L))) := by
  refine ⟨_, rfl, Nat.le_of_ble_eq_true rfl, fun V C S => ?_⟩
  show V 0 [(0, .ref m), (1, .int a), (2, .int b)] [] (T, N, I, L, R) 0 0
  subst ha; subst hb
  have loop : ∀ (s i : Nat), s = D + 1 - i → i ≤ D + 1 → V 13 [(3, .int (Int32.ofNat i)), (0, .ref m), (1, .int (Int32.ofNat r)), (2, .int (Int32.ofNat f))] [] (T, N, (bk (u2 I dg r (Int32.ofNat D)) nu (41 * r) i (fun k => I w (6 + 10 * f + 1 + k))), L, R) 0 0 := by
    intro s
    induction s using Nat.strongRecOn with
    | _ s ih =>
      intro i hs hi
      refine k_iload_n C rfl rfl rfl ?_
      refine k_aload_n C rfl rfl rfl ?_
      refine g_R C rfl rfl rfl T_m rfl R_m_4 ?_
      refine k_iload_n C rfl rfl rfl ?_
      refine a_I C rfl rfl T_dg (vin (n := r) rfl (by rw [N_dg]; omega) (by rw [N_dg]; exact Nat.le_of_ble_eq_true rfl)) (hvx (n_nat (by omega)) ((bk_a (Ne.symm hnd)).trans u2_s)) ?_
      refine k_icmp_gt C (t := 41) rfl rfl rfl (fun c20 => ?_) (fun c20 => ?_)
      · skip
        have hi2 : i = D + 1 := by have := (n_lt (by omega) (by omega)).mp c20; omega
        subst hi2
        exact k_vret C rfl rfl (Nat.le_of_ble_eq_true rfl) (Nat.le_of_ble_eq_true rfl) ⟨_, _, rfl, rfl, rfl, rfl⟩
      have hi2 : i < D + 1 := Nat.lt_succ_of_le (Nat.le_of_not_lt (fun h => c20 ((n_lt (by omega) (by omega)).mpr h)))
      refine k_aload_n C rfl rfl rfl ?_
      refine k_iload_n C rfl rfl rfl ?_
      refine k_iload_n C rfl rfl rfl ?_
      refine k_aload_n C rfl rfl rfl ?_
      refine k_iload_n C rfl rfl rfl ?_
      refine k_iload_n C rfl rfl rfl ?_
      refine c_VI C (e_m_numberOf T_m R_m_1 T_w N_w rfl rfl hf (by omega)) rfl rfl rfl rfl rfl ⟨_, rfl, rfl, T_m, Nat.le_of_ble_eq_true rfl⟩ rfl rfl (Nat.le_of_ble_eq_true rfl) (Nat.le_of_ble_eq_true rfl) (Nat.le_of_ble_eq_true rfl) ?_
      rintro _ _ _ ⟨hx7, hI8, hL9⟩
      have hx7 := hx7.symm; subst hx7
      have hI8 := hI8.symm; subst hI8; have hL9 := hL9.symm; subst hL9
      rw [bk_a hwn, u2_a hwd]
      refine c_VV C (e_m_put T_m R_m_5 T_nu N_nu rfl rfl (by omega)) rfl rfl rfl rfl rfl ⟨_, rfl, rfl, T_m, Nat.le_of_ble_eq_true rfl⟩ rfl rfl (Nat.le_of_ble_eq_true rfl) (Nat.le_of_ble_eq_true rfl) (Nat.le_of_ble_eq_true rfl) ?_
      rintro _ _ ⟨hI8, hL9⟩
      have hI8 := hI8.symm; subst hI8; have hL9 := hL9.symm; subst hL9
      rw [bk_s (f := (fun k => I w (6 + 10 * f + 1 + k)))]
      refine k_inc1 C (lw := [(3, .int _), (0, _), (1, .int _), (2, .int _)]) rfl rfl rfl (Nat.le_of_ble_eq_true rfl) rfl ?_
      refine k_goto C (pc2 := 13) rfl rfl ?_
      rw [n_s]
      exact ih (D + 1 - (i + 1)) (by omega) (i + 1) rfl (by omega)
  refine k_aload_n C rfl rfl rfl ?_
  refine g_R C rfl rfl rfl T_m rfl R_m_4 ?_
  refine k_iload_n C rfl rfl rfl ?_
  refine k_aload_n C rfl rfl rfl ?_
  refine k_iload_n C rfl rfl rfl ?_
  refine c_VI C (e_m_degreeOf T_m R_m_1 T_w N_w rfl hf) rfl rfl rfl rfl rfl ⟨_, rfl, rfl, T_m, Nat.le_of_ble_eq_true rfl⟩ rfl rfl (Nat.le_of_ble_eq_true rfl) (Nat.le_of_ble_eq_true rfl) (Nat.le_of_ble_eq_true rfl) ?_
  rintro _ _ _ ⟨hx7, hI8, hL9⟩
  have hx7 := hx7.symm; subst hx7
  have hI8 := hI8.symm; subst hI8; have hL9 := hL9.symm; subst hL9
  rw [hD]
  refine s_I C rfl rfl T_dg (vin (n := r) rfl (by rw [N_dg]; omega) (by rw [N_dg]; exact Nat.le_of_ble_eq_true rfl)) (n_nat (by omega)) ?_
  refine k_iconst C (x := 0) rfl rfl rfl ?_
  refine k_istore_n C (lw := [(3, .int _), (0, _), (1, .int _), (2, .int _)]) rfl rfl (Nat.le_of_ble_eq_true rfl) rfl ?_
  have h0 := loop (D + 1) 0 rfl (Nat.zero_le _)
  rw [bk_0] at h0
  exact h0

theorem e_m_copies {d : Nat} {T N : Nat → Nat} {I : IT} {L : LT} {R : RT} {m nu dg : Nat} {a b : Int32} (T_m : T m = 13) (R_m_5 : R m 5 = some nu) (T_nu : T nu = 20) (N_nu : N nu = 1968) (R_m_4 : R m 4 = some dg) (T_dg : T dg = 20) (N_dg : N dg = 48) {r t D : Nat} (ha : a = Int32.ofNat r) (hb : b = Int32.ofNat t) (hr : r < 48) (ht : t < 48) (hD : I dg r = Int32.ofNat D) (hD8 : D ≤ 40) (hnd : nu ≠ dg) : Ex (d + 2) 201 [.ref m, .int a, .int b] (T, N, I, L, R) 0 0 (pV T N R (fun I9 L9 => I9 = (bk (u2 I dg t (Int32.ofNat D)) nu (41 * t) (D + 1) (fun k => I nu (41 * r + k))) ∧ L9 = (L))) := by
  refine ⟨_, rfl, Nat.le_of_ble_eq_true rfl, fun V C S => ?_⟩
  show V 0 [(0, .ref m), (1, .int a), (2, .int b)] [] (T, N, I, L, R) 0 0
  subst ha; subst hb
  have hDr : u2 I dg t (Int32.ofNat D) dg r = Int32.ofNat D := by
    by_cases e : r = t
    · subst e; exact u2_s
    · exact (u2_k e).trans hD
  have loop : ∀ (s i : Nat), s = D + 1 - i → i ≤ D + 1 → V 14 [(3, .int (Int32.ofNat i)), (0, .ref m), (1, .int (Int32.ofNat r)), (2, .int (Int32.ofNat t))] [] (T, N, (bk (u2 I dg t (Int32.ofNat D)) nu (41 * t) i (fun k => I nu (41 * r + k))), L, R) 0 0 := by
    intro s
    induction s using Nat.strongRecOn with
    | _ s ih =>
      intro i hs hi
      refine k_iload_n C rfl rfl rfl ?_
      refine k_aload_n C rfl rfl rfl ?_
      refine g_R C rfl rfl rfl T_m rfl R_m_4 ?_
      refine k_iload_n C rfl rfl rfl ?_
      refine a_I C rfl rfl T_dg (vin (n := r) rfl (by rw [N_dg]; omega) (by rw [N_dg]; exact Nat.le_of_ble_eq_true rfl)) (hvx (n_nat (by omega)) ((bk_a (Ne.symm hnd)).trans hDr)) ?_
      refine k_icmp_gt C (t := 42) rfl rfl rfl (fun c21 => ?_) (fun c21 => ?_)
      · skip
        have hi2 : i = D + 1 := by have := (n_lt (by omega) (by omega)).mp c21; omega
        subst hi2
        exact k_vret C rfl rfl (Nat.le_of_ble_eq_true rfl) (Nat.le_of_ble_eq_true rfl) ⟨_, _, rfl, rfl, rfl, rfl⟩
      have hi2 : i < D + 1 := Nat.lt_succ_of_le (Nat.le_of_not_lt (fun h => c21 ((n_lt (by omega) (by omega)).mpr h)))
      refine k_aload_n C rfl rfl rfl ?_
      refine k_iload_n C rfl rfl rfl ?_
      refine k_iload_n C rfl rfl rfl ?_
      refine k_aload_n C rfl rfl rfl ?_
      refine k_iload_n C rfl rfl rfl ?_
      refine k_iload_n C rfl rfl rfl ?_
      refine c_VI C (e_m_of T_m R_m_5 T_nu N_nu rfl rfl (by omega)) rfl rfl rfl rfl rfl ⟨_, rfl, rfl, T_m, Nat.le_of_ble_eq_true rfl⟩ rfl rfl (Nat.le_of_ble_eq_true rfl) (Nat.le_of_ble_eq_true rfl) (Nat.le_of_ble_eq_true rfl) ?_
      rintro _ _ _ ⟨hx7, hI8, hL9⟩
      have hx7 := hx7.symm; subst hx7
      have hI8 := hI8.symm; subst hI8; have hL9 := hL9.symm; subst hL9
      rw [bk_o (by omega), u2_a hnd]
      refine c_VV C (e_m_put T_m R_m_5 T_nu N_nu rfl rfl (by omega)) rfl rfl rfl rfl rfl ⟨_, rfl, rfl, T_m, Nat.le_of_ble_eq_true rfl⟩ rfl rfl (Nat.le_of_ble_eq_true rfl) (Nat.le_of_ble_eq_true rfl) (Nat.le_of_ble_eq_true rfl) ?_
      rintro _ _ ⟨hI8, hL9⟩
      have hI8 := hI8.symm; subst hI8; have hL9 := hL9.symm; subst hL9
      rw [bk_s (f := (fun k => I nu (41 * r + k)))]
      refine k_inc1 C (lw := [(3, .int _), (0, _), (1, .int _), (2, .int _)]) rfl rfl rfl (Nat.le_of_ble_eq_true rfl) rfl ?_
      refine k_goto C (pc2 := 14) rfl rfl ?_
      rw [n_s]
      exact ih (D + 1 - (i + 1)) (by omega) (i + 1) rfl (by omega)
  refine k_aload_n C rfl rfl rfl ?_
  refine g_R C rfl rfl rfl T_m rfl R_m_4 ?_
  refine k_iload_n C rfl rfl rfl ?_
  refine k_aload_n C rfl rfl rfl ?_
  refine g_R C rfl rfl rfl T_m rfl R_m_4 ?_
  refine k_iload_n C rfl rfl rfl ?_
  refine a_I C rfl rfl T_dg (vin (n := r) rfl (by rw [N_dg]; omega) (by rw [N_dg]; exact Nat.le_of_ble_eq_true rfl)) (hvx (n_nat (by omega)) hD) ?_
  refine s_I C rfl rfl T_dg (vin (n := t) rfl (by rw [N_dg]; omega) (by rw [N_dg]; exact Nat.le_of_ble_eq_true rfl)) (n_nat (by omega)) ?_
  refine k_iconst C (x := 0) rfl rfl rfl ?_
  refine k_istore_n C (lw := [(3, .int _), (0, _), (1, .int _), (2, .int _)]) rfl rfl (Nat.le_of_ble_eq_true rfl) rfl ?_
  have h0 := loop (D + 1) 0 rfl (Nat.zero_le _)
  rw [bk_0] at h0
  exact h0

theorem e_m_clears {d : Nat} {T N : Nat → Nat} {I : IT} {L : LT} {R : RT} {m nu dg : Nat} {a b : Int32} (T_m : T m = 13) (R_m_5 : R m 5 = some nu) (T_nu : T nu = 20) (N_nu : N nu = 1968) (R_m_4 : R m 4 = some dg) (T_dg : T dg = 20) (N_dg : N dg = 48) {r D : Nat} (ha : a = Int32.ofNat r) (hb : b = Int32.ofNat D) (hr : r < 48) (hD8 : D ≤ 40) : Ex (d + 2) 202 [.ref m, .int a, .int b] (T, N, I, L, R) 0 0 (pV T N R (fun I9 L9 => I9 = (bk (u2 I dg r (Int32.ofNat D)) nu (41 * r) (D + 1) (fun _ => (0 : Int32))) ∧ L9 = (L))) := by
  refine ⟨_, rfl, Nat.le_of_ble_eq_true rfl, fun V C S => ?_⟩
  show V 0 [(0, .ref m), (1, .int a), (2, .int b)] [] (T, N, I, L, R) 0 0
  subst ha; subst hb
  have loop : ∀ (s i : Nat), s = D + 1 - i → i ≤ D + 1 → V 9 [(3, .int (Int32.ofNat i)), (0, .ref m), (1, .int (Int32.ofNat r)), (2, .int (Int32.ofNat D))] [] (T, N, (bk (u2 I dg r (Int32.ofNat D)) nu (41 * r) i (fun _ => (0 : Int32))), L, R) 0 0 := by
    intro s
    induction s using Nat.strongRecOn with
    | _ s ih =>
      intro i hs hi
      refine k_iload_n C rfl rfl rfl ?_
      refine k_iload_n C rfl rfl rfl ?_
      refine k_icmp_gt C (t := 27) rfl rfl rfl (fun c11 => ?_) (fun c11 => ?_)
      · skip
        have hi2 : i = D + 1 := by have := (n_lt (by omega) (by omega)).mp c11; omega
        subst hi2
        exact k_vret C rfl rfl (Nat.le_of_ble_eq_true rfl) (Nat.le_of_ble_eq_true rfl) ⟨_, _, rfl, rfl, rfl, rfl⟩
      have hi2 : i < D + 1 := Nat.lt_succ_of_le (Nat.le_of_not_lt (fun h => c11 ((n_lt (by omega) (by omega)).mpr h)))
      refine k_aload_n C rfl rfl rfl ?_
      refine k_iload_n C rfl rfl rfl ?_
      refine k_iload_n C rfl rfl rfl ?_
      refine k_iconst C (x := 0) rfl rfl rfl ?_
      refine c_VV C (e_m_put T_m R_m_5 T_nu N_nu rfl rfl (by omega)) rfl rfl rfl rfl rfl ⟨_, rfl, rfl, T_m, Nat.le_of_ble_eq_true rfl⟩ rfl rfl (Nat.le_of_ble_eq_true rfl) (Nat.le_of_ble_eq_true rfl) (Nat.le_of_ble_eq_true rfl) ?_
      rintro _ _ ⟨hI8, hL9⟩
      have hI8 := hI8.symm; subst hI8; have hL9 := hL9.symm; subst hL9
      have hbs := bk_s (I := u2 I dg r (Int32.ofNat D)) (a := nu) (s := 41 * r) (n := i) (f := (fun _ => (0 : Int32)))
      rw [hbs]
      refine k_inc1 C (lw := [(3, .int _), (0, _), (1, .int _), (2, .int _)]) rfl rfl rfl (Nat.le_of_ble_eq_true rfl) rfl ?_
      refine k_goto C (pc2 := 9) rfl rfl ?_
      rw [n_s]
      exact ih (D + 1 - (i + 1)) (by omega) (i + 1) rfl (by omega)
  refine k_aload_n C rfl rfl rfl ?_
  refine g_R C rfl rfl rfl T_m rfl R_m_4 ?_
  refine k_iload_n C rfl rfl rfl ?_
  refine k_iload_n C rfl rfl rfl ?_
  refine s_I C rfl rfl T_dg (vin (n := r) rfl (by rw [N_dg]; omega) (by rw [N_dg]; exact Nat.le_of_ble_eq_true rfl)) (n_nat (by omega)) ?_
  refine k_iconst C (x := 0) rfl rfl rfl ?_
  refine k_istore_n C (lw := [(3, .int _), (0, _), (1, .int _), (2, .int _)]) rfl rfl (Nat.le_of_ble_eq_true rfl) rfl ?_
  have h0 := loop (D + 1) 0 rfl (Nat.zero_le _)
  rw [bk_0] at h0
  exact h0

def nz (I : IT) (nu r n : Nat) : Int32 := if ∀ k, k < n → I nu (41 * r + k) = 0 then 1 else 0
theorem nz_a {I : IT} {nu r n : Nat} (h : nz I nu r n = 0) : nz I nu r (n + 1) = 0 := by
  unfold nz at *
  by_cases q : ∀ k, k < n → I nu (41 * r + k) = 0
  · rw [if_pos q] at h; exact absurd h (by decide)
  · exact if_neg (fun z => q (fun k hk => z k (by omega)))
theorem nz_b {I : IT} {nu r n : Nat} (h : ¬ I nu (41 * r + n) = 0) : nz I nu r (n + 1) = 0 := if_neg (fun z => h (z n (by omega)))
theorem nz_c {I : IT} {nu r n : Nat} (h : ¬ nz I nu r n = 0) (h2 : I nu (41 * r + n) = 0) : nz I nu r (n + 1) = 1 := by
  unfold nz at *
  by_cases q : ∀ k, k < n → I nu (41 * r + k) = 0
  · refine if_pos (fun k hk => ?_)
    by_cases e : k = n
    · rw [e]; exact h2
    · exact q k (by omega)
  · exact absurd (if_neg q) h
theorem nz_01 {I : IT} {nu r n : Nat} {z : Int32} (h : z = nz I nu r n) : z = 0 ∨ z = 1 := by
  rw [h]; unfold nz; by_cases q : ∀ k, k < n → I nu (41 * r + k) = 0
  · exact Or.inr (if_pos q)
  · exact Or.inl (if_neg q)
theorem e_m_isNought {d : Nat} {T N : Nat → Nat} {I : IT} {L : LT} {R : RT} {m nu dg : Nat} {a : Int32} (T_m : T m = 13) (R_m_5 : R m 5 = some nu) (T_nu : T nu = 20) (N_nu : N nu = 1968) (R_m_4 : R m 4 = some dg) (T_dg : T dg = 20) (N_dg : N dg = 48) {r D : Nat} (ha : a = Int32.ofNat r) (hr : r < 48) (hD : I dg r = Int32.ofNat D) (hD8 : D ≤ 40) : Ex (d + 2) 203 [.ref m, .int a] (T, N, I, L, R) 0 0 (pI T N R (fun x9 I9 L9 => x9 = (nz I nu r (D + 1)) ∧ I9 = I ∧ L9 = L)) := by
  refine ⟨_, rfl, Nat.le_of_ble_eq_true rfl, fun V C S => ?_⟩
  show V 0 [(0, .ref m), (1, .int a)] [] (T, N, I, L, R) 0 0
  subst ha
  have loop : ∀ (s i : Nat) (z : Int32), s = D + 1 - i → i ≤ D + 1 → z = nz I nu r i → V 4 [(3, .int (Int32.ofNat i)), (2, .int z), (0, .ref m), (1, .int (Int32.ofNat r))] [] (T, N, I, L, R) 0 0 := by
    intro s
    induction s using Nat.strongRecOn with
    | _ s ih =>
      intro i z hs hi hz
      refine k_iload_n C rfl rfl rfl ?_
      refine k_aload_n C rfl rfl rfl ?_
      refine g_R C rfl rfl rfl T_m rfl R_m_4 ?_
      refine k_iload_n C rfl rfl rfl ?_
      refine a_I C rfl rfl T_dg (vin (n := r) rfl (by rw [N_dg]; omega) (by rw [N_dg]; exact Nat.le_of_ble_eq_true rfl)) (hvx (n_nat (by omega)) (hD)) ?_
      refine k_icmp_gt C (t := 39) rfl rfl rfl (fun c11 => ?_) (fun c11 => ?_)
      · skip
        have hi2 : i = D + 1 := by have := (n_lt (by omega) (by omega)).mp c11; omega
        subst hi2
        refine k_iload_n C rfl rfl rfl ?_
        exact k_iret C rfl (Or.inr ⟨rfl, nz_01 hz⟩) (Nat.le_of_ble_eq_true rfl) (Nat.le_of_ble_eq_true rfl) ⟨_, _, _, rfl, rfl, hz, rfl, rfl⟩
      have hi2 : i < D + 1 := Nat.lt_succ_of_le (Nat.le_of_not_lt (fun h => c11 ((n_lt (by omega) (by omega)).mpr h)))
      refine k_iload_n C rfl rfl rfl ?_
      refine k_if_eq C (t := 31) rfl rfl rfl (fun c15 => ?_) (fun c15 => ?_)
      · skip
        refine k_iconst C (x := 0) rfl rfl rfl ?_
        refine k_istore_n C (lw := [(2, .int _), (3, .int _), (0, _), (1, .int _)]) rfl rfl (Nat.le_of_ble_eq_true rfl) rfl ?_
        refine k_inc1 C (lw := [(3, .int _), (2, .int _), (0, _), (1, .int _)]) rfl rfl rfl (Nat.le_of_ble_eq_true rfl) rfl ?_
        refine k_goto C (pc2 := 4) rfl rfl ?_
        rw [n_s]
        exact ih (D + 1 - (i + 1)) (by omega) (i + 1) 0 rfl (by omega) (nz_a (hz ▸ c15)).symm
      refine k_aload_n C rfl rfl rfl ?_
      refine k_iload_n C rfl rfl rfl ?_
      refine k_iload_n C rfl rfl rfl ?_
      refine c_VI C (e_m_of T_m R_m_5 T_nu N_nu rfl rfl (by omega)) rfl rfl rfl rfl rfl ⟨_, rfl, rfl, T_m, Nat.le_of_ble_eq_true rfl⟩ rfl rfl (Nat.le_of_ble_eq_true rfl) (Nat.le_of_ble_eq_true rfl) (Nat.le_of_ble_eq_true rfl) ?_
      rintro _ _ _ ⟨hx7, hI8, hL9⟩
      have hx7 := hx7.symm; subst hx7
      have hI8 := hI8.symm; subst hI8; have hL9 := hL9.symm; subst hL9
      refine k_if_ne C (t := 31) rfl rfl rfl (fun c24 => ?_) (fun c24 => ?_)
      · skip
        refine k_iconst C (x := 0) rfl rfl rfl ?_
        refine k_istore_n C (lw := [(2, .int _), (3, .int _), (0, _), (1, .int _)]) rfl rfl (Nat.le_of_ble_eq_true rfl) rfl ?_
        refine k_inc1 C (lw := [(3, .int _), (2, .int _), (0, _), (1, .int _)]) rfl rfl rfl (Nat.le_of_ble_eq_true rfl) rfl ?_
        refine k_goto C (pc2 := 4) rfl rfl ?_
        rw [n_s]
        exact ih (D + 1 - (i + 1)) (by omega) (i + 1) 0 rfl (by omega) (nz_b c24).symm
      refine k_iconst C (x := 1) rfl rfl rfl ?_
      refine k_goto C (pc2 := 32) rfl rfl ?_
      refine k_istore_n C (lw := [(2, .int _), (3, .int _), (0, _), (1, .int _)]) rfl rfl (Nat.le_of_ble_eq_true rfl) rfl ?_
      refine k_inc1 C (lw := [(3, .int _), (2, .int _), (0, _), (1, .int _)]) rfl rfl rfl (Nat.le_of_ble_eq_true rfl) rfl ?_
      refine k_goto C (pc2 := 4) rfl rfl ?_
      rw [n_s]
      exact ih (D + 1 - (i + 1)) (by omega) (i + 1) 1 rfl (by omega) (nz_c (hz ▸ c15) (Decidable.not_not.mp c24)).symm
  refine k_iconst C (x := 1) rfl rfl rfl ?_
  refine k_istore_n C (lw := [(2, .int _), (0, _), (1, .int _)]) rfl rfl (Nat.le_of_ble_eq_true rfl) rfl ?_
  refine k_iconst C (x := 0) rfl rfl rfl ?_
  refine k_istore_n C (lw := [(3, .int _), (2, .int _), (0, _), (1, .int _)]) rfl rfl (Nat.le_of_ble_eq_true rfl) rfl ?_
  exact loop (D + 1) 0 1 rfl (Nat.zero_le _) (if_pos (fun k hk => absurd hk (Nat.not_lt_zero k))).symm

theorem e_m_pN {d : Nat} {T N : Nat → Nat} {I : IT} {L : LT} {R : RT} {m w : Nat}{p : Nat} (T_m : T m = 13) (R_m_1 : R m 1 = some w) (T_w : T w = 20) (N_w : N w = 4007) (I_w_0 : I w 0 = (Int32.ofNat p)) : Ex (d + 1) 183 [.ref m] (T, N, I, L, R) 0 0 (pI T N R (fun x9 I9 L9 => x9 = (Int32.ofNat p) ∧ I9 = I ∧ L9 = L)) := by
  refine ⟨_, rfl, Nat.le_of_ble_eq_true rfl, fun V C S => ?_⟩
  show V 0 [(0, .ref m)] [] (T, N, I, L, R) 0 0
  refine k_aload_n C rfl rfl rfl ?_
  refine g_R C rfl rfl rfl T_m rfl R_m_1 ?_
  refine k_iconst C (x := 0) rfl rfl rfl ?_
  refine a_I C rfl rfl T_w (vin (n := 0) rfl (by rw [N_w]; omega) (by rw [N_w]; exact Nat.le_of_ble_eq_true rfl)) I_w_0 ?_
  exact k_iret C rfl (Or.inl rfl) (Nat.le_of_ble_eq_true rfl) (Nat.le_of_ble_eq_true rfl) ⟨_, _, _, rfl, rfl, ⟨rfl, rfl, rfl⟩⟩

theorem n_sad {a b p : Nat} (h : b ≤ a + p) : Int32.ofNat a - Int32.ofNat b + Int32.ofNat p = Int32.ofNat (a + p - b) := by
  rw [← n_sub h, ← n_add]; grind
theorem n_ne0 {p : Nat} (h : 1 ≤ p) (h2 : p < 2147483648) : ¬ Int32.ofNat p = 0 := fun e => by
  have := congrArg Int32.toInt e
  rw [n_int h2] at this
  have e1 : (0 : Int32).toInt = 0 := rfl
  omega
def pwM (a p : Nat) : Nat → Nat
  | 0 => 1
  | n + 1 => pwM a p n * a % p
theorem pwM_lt {a p : Nat} (hp : 2 ≤ p) : ∀ n, pwM a p n < p
  | 0 => by show 1 < p; omega
  | n + 1 => Nat.mod_lt _ (by omega)
theorem e_m_plusN {d : Nat} {T N : Nat → Nat} {I : IT} {L : LT} {R : RT} {m w : Nat} {a b : Int32}{p u v : Nat} (T_m : T m = 13) (R_m_1 : R m 1 = some w) (T_w : T w = 20) (N_w : N w = 4007) (I_w_0 : I w 0 = (Int32.ofNat p)) (hp1 : 2 ≤ p) (hp2 : p ≤ 19) (ha : a = Int32.ofNat u) (hb : b = Int32.ofNat v) (hu : u < 1000000) (hv : v < 1000000) : Ex (d + 2) 194 [.ref m, .int a, .int b] (T, N, I, L, R) 0 0 (pI T N R (fun x9 I9 L9 => x9 = (Int32.ofNat ((u + v) % p)) ∧ I9 = I ∧ L9 = L)) := by
  refine ⟨_, rfl, Nat.le_of_ble_eq_true rfl, fun V C S => ?_⟩
  show V 0 [(0, .ref m), (1, .int a), (2, .int b)] [] (T, N, I, L, R) 0 0
  subst ha; subst hb
  refine k_iload_n C rfl rfl rfl ?_
  refine k_iload_n C rfl rfl rfl ?_
  refine k_iadd C rfl rfl ?_
  refine k_aload_n C rfl rfl rfl ?_
  refine c_VI C (e_m_pN T_m R_m_1 T_w N_w (I_w_0) ) rfl rfl rfl rfl rfl ⟨_, rfl, rfl, T_m, Nat.le_of_ble_eq_true rfl⟩ rfl rfl (Nat.le_of_ble_eq_true rfl) (Nat.le_of_ble_eq_true rfl) (Nat.le_of_ble_eq_true rfl) ?_
  rintro _ _ _ ⟨hx7, hI8, hL9⟩
  have hx7 := hx7.symm; subst hx7
  have hI8 := hI8.symm; subst hI8; have hL9 := hL9.symm; subst hL9
  refine k_irem C rfl rfl (n_ne0 (by omega) (by omega)) ?_
  exact k_iret C rfl (Or.inl rfl) (Nat.le_of_ble_eq_true rfl) (Nat.le_of_ble_eq_true rfl) ⟨_, _, _, rfl, rfl, ⟨by rw [n_add, n_rem (by omega) (by omega) (by omega)], rfl, rfl⟩⟩

theorem e_m_timesN {d : Nat} {T N : Nat → Nat} {I : IT} {L : LT} {R : RT} {m w : Nat} {a b : Int32}{p u v : Nat} (T_m : T m = 13) (R_m_1 : R m 1 = some w) (T_w : T w = 20) (N_w : N w = 4007) (I_w_0 : I w 0 = (Int32.ofNat p)) (hp1 : 2 ≤ p) (hp2 : p ≤ 19) (ha : a = Int32.ofNat u) (hb : b = Int32.ofNat v) (hu : u < 32768) (hv : v < 32768) : Ex (d + 2) 193 [.ref m, .int a, .int b] (T, N, I, L, R) 0 0 (pI T N R (fun x9 I9 L9 => x9 = (Int32.ofNat (u * v % p)) ∧ I9 = I ∧ L9 = L)) := by
  refine ⟨_, rfl, Nat.le_of_ble_eq_true rfl, fun V C S => ?_⟩
  show V 0 [(0, .ref m), (1, .int a), (2, .int b)] [] (T, N, I, L, R) 0 0
  subst ha; subst hb
  refine k_iload_n C rfl rfl rfl ?_
  refine k_iload_n C rfl rfl rfl ?_
  refine k_imul C rfl rfl ?_
  refine k_aload_n C rfl rfl rfl ?_
  refine c_VI C (e_m_pN T_m R_m_1 T_w N_w (I_w_0) ) rfl rfl rfl rfl rfl ⟨_, rfl, rfl, T_m, Nat.le_of_ble_eq_true rfl⟩ rfl rfl (Nat.le_of_ble_eq_true rfl) (Nat.le_of_ble_eq_true rfl) (Nat.le_of_ble_eq_true rfl) ?_
  rintro _ _ _ ⟨hx7, hI8, hL9⟩
  have hx7 := hx7.symm; subst hx7
  have hI8 := hI8.symm; subst hI8; have hL9 := hL9.symm; subst hL9
  refine k_irem C rfl rfl (n_ne0 (by omega) (by omega)) ?_
  exact k_iret C rfl (Or.inl rfl) (Nat.le_of_ble_eq_true rfl) (Nat.le_of_ble_eq_true rfl) ⟨_, _, _, rfl, rfl, ⟨by rw [n_mul, n_rem (by have := Nat.mul_lt_mul'' hu hv; omega) (by omega) (by omega)], rfl, rfl⟩⟩

theorem e_m_lessN {d : Nat} {T N : Nat → Nat} {I : IT} {L : LT} {R : RT} {m w : Nat} {a b : Int32}{p u v : Nat} (T_m : T m = 13) (R_m_1 : R m 1 = some w) (T_w : T w = 20) (N_w : N w = 4007) (I_w_0 : I w 0 = (Int32.ofNat p)) (hp1 : 2 ≤ p) (hp2 : p ≤ 19) (ha : a = Int32.ofNat u) (hb : b = Int32.ofNat v) (hu : u < 1000000) (hv : v ≤ p) : Ex (d + 2) 195 [.ref m, .int a, .int b] (T, N, I, L, R) 0 0 (pI T N R (fun x9 I9 L9 => x9 = (Int32.ofNat ((u + p - v) % p)) ∧ I9 = I ∧ L9 = L)) := by
  refine ⟨_, rfl, Nat.le_of_ble_eq_true rfl, fun V C S => ?_⟩
  show V 0 [(0, .ref m), (1, .int a), (2, .int b)] [] (T, N, I, L, R) 0 0
  subst ha; subst hb
  refine k_iload_n C rfl rfl rfl ?_
  refine k_iload_n C rfl rfl rfl ?_
  refine k_isub C rfl rfl ?_
  refine k_aload_n C rfl rfl rfl ?_
  refine c_VI C (e_m_pN T_m R_m_1 T_w N_w (I_w_0) ) rfl rfl rfl rfl rfl ⟨_, rfl, rfl, T_m, Nat.le_of_ble_eq_true rfl⟩ rfl rfl (Nat.le_of_ble_eq_true rfl) (Nat.le_of_ble_eq_true rfl) (Nat.le_of_ble_eq_true rfl) ?_
  rintro _ _ _ ⟨hx7, hI8, hL9⟩
  have hx7 := hx7.symm; subst hx7
  have hI8 := hI8.symm; subst hI8; have hL9 := hL9.symm; subst hL9
  refine k_iadd C rfl rfl ?_
  refine k_aload_n C rfl rfl rfl ?_
  refine c_VI C (e_m_pN T_m R_m_1 T_w N_w (I_w_0) ) rfl rfl rfl rfl rfl ⟨_, rfl, rfl, T_m, Nat.le_of_ble_eq_true rfl⟩ rfl rfl (Nat.le_of_ble_eq_true rfl) (Nat.le_of_ble_eq_true rfl) (Nat.le_of_ble_eq_true rfl) ?_
  rintro _ _ _ ⟨hx7, hI8, hL9⟩
  have hx7 := hx7.symm; subst hx7
  have hI8 := hI8.symm; subst hI8; have hL9 := hL9.symm; subst hL9
  refine k_irem C rfl rfl (n_ne0 (by omega) (by omega)) ?_
  exact k_iret C rfl (Or.inl rfl) (Nat.le_of_ble_eq_true rfl) (Nat.le_of_ble_eq_true rfl) ⟨_, _, _, rfl, rfl, ⟨by rw [n_sad (by omega), n_rem (by omega) (by omega) (by omega)], rfl, rfl⟩⟩

theorem e_m_powerN {d : Nat} {T N : Nat → Nat} {I : IT} {L : LT} {R : RT} {m w : Nat} {a b : Int32}{p u n : Nat} (T_m : T m = 13) (R_m_1 : R m 1 = some w) (T_w : T w = 20) (N_w : N w = 4007) (I_w_0 : I w 0 = (Int32.ofNat p)) (hp1 : 2 ≤ p) (hp2 : p ≤ 19) (ha : a = Int32.ofNat u) (hb : b = Int32.ofNat n) (hu : u < 32768) (hn : n < 1000000) : Ex (d + 3) 196 [.ref m, .int a, .int b] (T, N, I, L, R) 0 0 (pI T N R (fun x9 I9 L9 => x9 = (Int32.ofNat (pwM u p n)) ∧ I9 = I ∧ L9 = L)) := by
  refine ⟨_, rfl, Nat.le_of_ble_eq_true rfl, fun V C S => ?_⟩
  show V 0 [(0, .ref m), (1, .int a), (2, .int b)] [] (T, N, I, L, R) 0 0
  subst ha; subst hb
  have loop : ∀ (s i : Nat), s = n - i → i ≤ n → V 5 [(4, .int (Int32.ofNat i)), (3, .int (Int32.ofNat (pwM u p i))), (0, .ref m), (1, .int (Int32.ofNat u)), (2, .int (Int32.ofNat n))] [] (T, N, I, L, R) 0 0 := by
    intro s
    induction s using Nat.strongRecOn with
    | _ s ih =>
      intro i hs hi
      refine k_iload C rfl rfl rfl ?_
      refine k_iload_n C rfl rfl rfl ?_
      refine k_icmp_ge C (t := 24) rfl rfl rfl (fun c8 => ?_) (fun c8 => ?_)
      · skip
        have hi2 : i = n := by have := (n_le (by omega) (by omega)).mp c8; omega
        subst hi2
        refine k_iload_n C rfl rfl rfl ?_
        exact k_iret C rfl (Or.inl rfl) (Nat.le_of_ble_eq_true rfl) (Nat.le_of_ble_eq_true rfl) ⟨_, _, _, rfl, rfl, rfl, rfl, rfl⟩
      have hi2 : i < n := Nat.lt_of_not_le (fun h => c8 ((n_le (by omega) (by omega)).mpr h))
      have hpl := pwM_lt (a := u) hp1 i
      refine k_aload_n C rfl rfl rfl ?_
      refine k_iload_n C rfl rfl rfl ?_
      refine k_iload_n C rfl rfl rfl ?_
      refine c_VI C (e_m_timesN T_m R_m_1 T_w N_w (I_w_0) hp1 hp2 rfl rfl (by omega) (by omega)) rfl rfl rfl rfl rfl ⟨_, rfl, rfl, T_m, Nat.le_of_ble_eq_true rfl⟩ rfl rfl (Nat.le_of_ble_eq_true rfl) (Nat.le_of_ble_eq_true rfl) (Nat.le_of_ble_eq_true rfl) ?_
      rintro _ _ _ ⟨hx7, hI8, hL9⟩
      have hx7 := hx7.symm; subst hx7
      have hI8 := hI8.symm; subst hI8; have hL9 := hL9.symm; subst hL9
      refine k_istore_n C (lw := [(3, .int _), (4, .int _), (0, _), (1, .int _), (2, .int _)]) rfl rfl (Nat.le_of_ble_eq_true rfl) rfl ?_
      refine k_sub S [(4, .int (Int32.ofNat i)), (3, .int (Int32.ofNat (pwM u p i * u % p))), (0, .ref m), (1, .int (Int32.ofNat u)), (2, .int (Int32.ofNat n))] (List.forall_mem_cons.mpr ⟨List.mem_of_getElem? (i := 1) rfl, List.forall_mem_cons.mpr ⟨List.mem_of_getElem? (i := 0) rfl, List.forall_mem_cons.mpr ⟨List.mem_of_getElem? (i := 2) rfl, List.forall_mem_cons.mpr ⟨List.mem_of_getElem? (i := 3) rfl, List.forall_mem_cons.mpr ⟨List.mem_of_getElem? (i := 4) rfl, fun _ h => nomatch h⟩⟩⟩⟩⟩) ?_
      refine k_inc1 C (lw := [(4, .int _), (3, .int _), (0, _), (1, .int _), (2, .int _)]) rfl rfl rfl (Nat.le_of_ble_eq_true rfl) rfl ?_
      refine k_goto C (pc2 := 5) rfl rfl ?_
      rw [n_s]
      exact ih (n - (i + 1)) (by omega) (i + 1) rfl (by omega)
  refine k_iconst C (x := 1) rfl rfl rfl ?_
  refine k_istore_n C (lw := [(3, .int _), (0, _), (1, .int _), (2, .int _)]) rfl rfl (Nat.le_of_ble_eq_true rfl) rfl ?_
  refine k_iconst C (x := 0) rfl rfl rfl ?_
  refine k_istore C (lw := [(4, .int _), (3, .int _), (0, _), (1, .int _), (2, .int _)]) rfl rfl (Nat.le_of_ble_eq_true rfl) rfl ?_
  exact loop n 0 rfl (Nat.zero_le _)

theorem e_m_inverseN {d : Nat} {T N : Nat → Nat} {I : IT} {L : LT} {R : RT} {m w : Nat} {a : Int32}{p u : Nat} (T_m : T m = 13) (R_m_1 : R m 1 = some w) (T_w : T w = 20) (N_w : N w = 4007) (I_w_0 : I w 0 = (Int32.ofNat p)) (hp1 : 2 ≤ p) (hp2 : p ≤ 19) (ha : a = Int32.ofNat u) (hu : u < 32768) : Ex (d + 4) 197 [.ref m, .int a] (T, N, I, L, R) 0 0 (pI T N R (fun x9 I9 L9 => x9 = (Int32.ofNat (pwM u p (p - 2))) ∧ I9 = I ∧ L9 = L)) := by
  refine ⟨_, rfl, Nat.le_of_ble_eq_true rfl, fun V C S => ?_⟩
  show V 0 [(0, .ref m), (1, .int a)] [] (T, N, I, L, R) 0 0
  refine k_aload_n C rfl rfl rfl ?_
  refine k_iload_n C rfl rfl rfl ?_
  refine k_aload_n C rfl rfl rfl ?_
  refine c_VI C (e_m_pN T_m R_m_1 T_w N_w (I_w_0) ) rfl rfl rfl rfl rfl ⟨_, rfl, rfl, T_m, Nat.le_of_ble_eq_true rfl⟩ rfl rfl (Nat.le_of_ble_eq_true rfl) (Nat.le_of_ble_eq_true rfl) (Nat.le_of_ble_eq_true rfl) ?_
  rintro _ _ _ ⟨hx7, hI8, hL9⟩
  have hx7 := hx7.symm; subst hx7
  have hI8 := hI8.symm; subst hI8; have hL9 := hL9.symm; subst hL9
  refine k_iconst C (x := 2) rfl rfl rfl ?_
  refine k_isub C rfl rfl ?_
  refine c_VI C (e_m_powerN T_m R_m_1 T_w N_w (I_w_0) hp1 hp2 ha (show Int32.ofNat p - Int32.ofNat 2 = _ from n_sub hp1) hu (by omega)) rfl rfl rfl rfl rfl ⟨_, rfl, rfl, T_m, Nat.le_of_ble_eq_true rfl⟩ rfl rfl (Nat.le_of_ble_eq_true rfl) (Nat.le_of_ble_eq_true rfl) (Nat.le_of_ble_eq_true rfl) ?_
  rintro _ _ _ ⟨hx7, hI8, hL9⟩
  have hx7 := hx7.symm; subst hx7
  have hI8 := hI8.symm; subst hI8; have hL9 := hL9.symm; subst hL9
  exact k_iret C rfl (Or.inl rfl) (Nat.le_of_ble_eq_true rfl) (Nat.le_of_ble_eq_true rfl) ⟨_, _, _, rfl, rfl, ⟨rfl, rfl, rfl⟩⟩

