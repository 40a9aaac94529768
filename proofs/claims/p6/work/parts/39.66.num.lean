/-! the reference, numbers under p: mod, differs -/
theorem e_m_modN {d : Nat} {T N : Nat → Nat} {I : IT} {L : LT} {R : RT} {m w : Nat} {v : Int64}{p : Nat} (T_m : T m = 13) (R_m_1 : R m 1 = some w) (T_w : T w = 20) (N_w : N w = 4007) (I_w_0 : I w 0 = (Int32.ofNat p)) {n : Nat} (hp1 : 2 ≤ p) (hp2 : p ≤ 19) (hv : v.toInt = n)  : Ex (d + 2) 192 [.ref m, .long v] (T, N, I, L, R) 0 0 (pI T N R (fun x9 I9 L9 => x9 = (Int32.ofNat (n % p)) ∧ I9 = I ∧ L9 = L)) := by
  refine ⟨_, rfl, Nat.le_of_ble_eq_true rfl, fun V C S => ?_⟩
  show V 0 [(0, .ref m), (1, .long v)] [] (T, N, I, L, R) 0 0
  refine k_lload_n C rfl rfl rfl ?_
  refine k_aload_n C rfl rfl rfl ?_
  refine c_VI C (e_m_pN T_m R_m_1 T_w N_w (I_w_0) ) rfl rfl rfl rfl rfl ⟨_, rfl, rfl, T_m, Nat.le_of_ble_eq_true rfl⟩ rfl rfl (Nat.le_of_ble_eq_true rfl) (Nat.le_of_ble_eq_true rfl) (Nat.le_of_ble_eq_true rfl) ?_
  rintro _ _ _ ⟨hx7, hI8, hL9⟩
  have hx7 := hx7.symm; subst hx7
  have hI8 := hI8.symm; subst hI8; have hL9 := hL9.symm; subst hL9
  refine k_i2l C rfl rfl ?_
  refine c_SL C (e_fmL  (by rw [i2l_eq, n_int (by omega)]; omega)) rfl rfl rfl rfl rfl rfl rfl (Nat.le_of_ble_eq_true rfl) (Nat.le_of_ble_eq_true rfl) (Nat.le_of_ble_eq_true rfl) ?_
  rintro x6 _ _ ⟨hI8, hL9, h6⟩
  have hI8 := hI8.symm; subst hI8; have hL9 := hL9.symm; subst hL9
  refine k_l2i C rfl rfl ?_
  exact k_iret C rfl (Or.inl rfl) (Nat.le_of_ble_eq_true rfl) (Nat.le_of_ble_eq_true rfl) ⟨_, _, _, rfl, rfl, ⟨by
      rw [i2l_eq, n_int (by omega), hv] at h6
      have hm := Nat.mod_lt n (show 0 < p by omega)
      have h7 : x6.toInt = ((n % p : Nat) : Int) := by rw [h6]; exact (Int.natCast_emod n p).symm
      apply Int32.toInt_inj.mp
      rw [l2i_eq (by omega), h7, n_int (by omega)], rfl, rfl⟩⟩

def dsM (v0 b p : Nat) : Nat → Nat
  | 0 => v0
  | i + 1 => dsM v0 b p i * ((b - i) % p) % p
theorem dsM_lt {v0 b p : Nat} (hp : 2 ≤ p) (h : v0 < p) : ∀ i, dsM v0 b p i < p
  | 0 => h
  | i + 1 => Nat.mod_lt _ (by omega)
theorem i2l_n {n : Nat} (h : n < 2147483648) : (Int32.ofNat n).toInt64.toInt = n := by rw [i2l_eq, n_int h]
theorem e_m_differs {d : Nat} {T N : Nat → Nat} {I : IT} {L : LT} {R : RT} {m w : Nat} {a b c e : Int32}{p : Nat} (T_m : T m = 13) (R_m_1 : R m 1 = some w) (T_w : T w = 20) (N_w : N w = 4007) (I_w_0 : I w 0 = (Int32.ofNat p)) {g k x y : Nat} (hp1 : 2 ≤ p) (hp2 : p ≤ 19) (ha : a = Int32.ofNat g) (hb : b = Int32.ofNat k) (hc : c = Int32.ofNat x) (he : e = Int32.ofNat y) (hg : g ≤ 1000) (hx : k + x ≤ g) (hy : y ≤ k) : Ex (d + 3) 206 [.ref m, .int a, .int b, .int c, .int e] (T, N, I, L, R) 0 0 (pI T N R (fun x9 I9 L9 => x9 = (Int32.ofNat (dsM (dsM 1 (g - k) p x) k p y)) ∧ I9 = I ∧ L9 = L)) := by
  refine ⟨_, rfl, Nat.le_of_ble_eq_true rfl, fun V C S => ?_⟩
  show V 0 [(0, .ref m), (1, .int a), (2, .int b), (3, .int c), (4, .int e)] [] (T, N, I, L, R) 0 0
  subst ha; subst hb; subst hc; subst he
  have loop2 : ∀ (s i : Nat), s = y - i → i ≤ y → V 40 [(6, .int (Int32.ofNat i)), (5, .int (Int32.ofNat (dsM (dsM 1 (g - k) p x) k p i))), (0, .ref m), (1, .int (Int32.ofNat g)), (2, .int (Int32.ofNat k)), (3, .int (Int32.ofNat x)), (4, .int (Int32.ofNat y))] [] (T, N, I, L, R) 0 0 := by
    intro s
    induction s using Nat.strongRecOn with
    | _ s ih =>
      intro i hs hi
      refine k_iload C rfl rfl rfl ?_
      refine k_iload C rfl rfl rfl ?_
      refine k_icmp_ge C (t := 70) rfl rfl rfl (fun c44 => ?_) (fun c44 => ?_)
      · skip
        have hi2 : i = y := by have := (n_le (by omega) (by omega)).mp c44; omega
        subst hi2
        refine k_iload C rfl rfl rfl ?_
        exact k_iret C rfl (Or.inl rfl) (Nat.le_of_ble_eq_true rfl) (Nat.le_of_ble_eq_true rfl) ⟨_, _, _, rfl, rfl, rfl, rfl, rfl⟩
      have hi2 : i < y := Nat.lt_of_not_le (fun h => c44 ((n_le (by omega) (by omega)).mpr h))
      have b1 := dsM_lt (v0 := dsM 1 (g - k) p x) (b := k) hp1 (dsM_lt (b := g - k) hp1 (by omega) x) i
      have b2 := Nat.mod_lt (k - i) (show 0 < p by omega)
      refine k_aload_n C rfl rfl rfl ?_
      refine k_iload C rfl rfl rfl ?_
      refine k_aload_n C rfl rfl rfl ?_
      refine k_iload_n C rfl rfl rfl ?_
      refine k_iload C rfl rfl rfl ?_
      refine k_isub C rfl rfl ?_
      rw [n_sub (by omega)]
      refine k_i2l C rfl rfl ?_
      refine c_VI C (e_m_modN T_m R_m_1 T_w N_w (I_w_0) hp1 hp2 (i2l_n (by omega))) rfl rfl rfl rfl rfl ⟨_, rfl, rfl, T_m, Nat.le_of_ble_eq_true rfl⟩ rfl rfl (Nat.le_of_ble_eq_true rfl) (Nat.le_of_ble_eq_true rfl) (Nat.le_of_ble_eq_true rfl) ?_
      rintro _ _ _ ⟨hx7, hI8, hL9⟩
      have hx7 := hx7.symm; subst hx7
      have hI8 := hI8.symm; subst hI8; have hL9 := hL9.symm; subst hL9
      refine c_VI C (e_m_timesN T_m R_m_1 T_w N_w (I_w_0) hp1 hp2 rfl rfl (by omega) (by omega)) rfl rfl rfl rfl rfl ⟨_, rfl, rfl, T_m, Nat.le_of_ble_eq_true rfl⟩ rfl rfl (Nat.le_of_ble_eq_true rfl) (Nat.le_of_ble_eq_true rfl) (Nat.le_of_ble_eq_true rfl) ?_
      rintro _ _ _ ⟨hx7, hI8, hL9⟩
      have hx7 := hx7.symm; subst hx7
      have hI8 := hI8.symm; subst hI8; have hL9 := hL9.symm; subst hL9
      refine k_istore C (lw := [(5, .int _), (6, .int _), (0, _), (1, .int _), (2, .int _), (3, .int _), (4, .int _)]) rfl rfl (Nat.le_of_ble_eq_true rfl) rfl ?_
      refine k_sub S [(6, .int (Int32.ofNat i)), (5, .int (Int32.ofNat (dsM (dsM 1 (g - k) p x) k p i * ((k - i) % p) % p))), (0, .ref m), (1, .int (Int32.ofNat g)), (2, .int (Int32.ofNat k)), (3, .int (Int32.ofNat x)), (4, .int (Int32.ofNat y))] (List.forall_mem_cons.mpr ⟨List.mem_of_getElem? (i := 1) rfl, List.forall_mem_cons.mpr ⟨List.mem_of_getElem? (i := 0) rfl, List.forall_mem_cons.mpr ⟨List.mem_of_getElem? (i := 2) rfl, List.forall_mem_cons.mpr ⟨List.mem_of_getElem? (i := 3) rfl, List.forall_mem_cons.mpr ⟨List.mem_of_getElem? (i := 4) rfl, List.forall_mem_cons.mpr ⟨List.mem_of_getElem? (i := 5) rfl, List.forall_mem_cons.mpr ⟨List.mem_of_getElem? (i := 6) rfl, fun _ h => nomatch h⟩⟩⟩⟩⟩⟩⟩) ?_
      refine k_iinc C (lw := [(6, .int _), (5, .int _), (0, _), (1, .int _), (2, .int _), (3, .int _), (4, .int _)]) rfl rfl rfl (Nat.le_of_ble_eq_true rfl) rfl rfl ?_
      refine k_goto C (pc2 := 40) rfl rfl ?_
      show V 40 [(6, .int (Int32.ofNat i + 1)), _, _, _, _, _, _] [] _ 0 0
      rw [n_s]
      exact ih (y - (i + 1)) (by omega) (i + 1) rfl (by omega)
  have loop1 : ∀ (s i : Nat), s = x - i → i ≤ x → V 6 [(6, .int (Int32.ofNat i)), (5, .int (Int32.ofNat (dsM 1 (g - k) p i))), (0, .ref m), (1, .int (Int32.ofNat g)), (2, .int (Int32.ofNat k)), (3, .int (Int32.ofNat x)), (4, .int (Int32.ofNat y))] [] (T, N, I, L, R) 0 0 := by
    intro s
    induction s using Nat.strongRecOn with
    | _ s ih =>
      intro i hs hi
      refine k_iload C rfl rfl rfl ?_
      refine k_iload_n C rfl rfl rfl ?_
      refine k_icmp_ge C (t := 37) rfl rfl rfl (fun c9 => ?_) (fun c9 => ?_)
      · skip
        have hi2 : i = x := by have := (n_le (by omega) (by omega)).mp c9; omega
        refine k_iconst C (x := 0) rfl rfl rfl ?_
        refine k_istore C (lw := [(6, .int _), (5, .int _), (0, _), (1, .int _), (2, .int _), (3, .int _), (4, .int _)]) rfl rfl (Nat.le_of_ble_eq_true rfl) rfl ?_
        subst hi2
        exact loop2 y 0 rfl (Nat.zero_le _)
      have hi2 : i < x := Nat.lt_of_not_le (fun h => c9 ((n_le (by omega) (by omega)).mpr h))
      have b1 := dsM_lt (v0 := 1) (b := g - k) hp1 (by omega) i
      have b2 := Nat.mod_lt (g - k - i) (show 0 < p by omega)
      refine k_aload_n C rfl rfl rfl ?_
      refine k_iload C rfl rfl rfl ?_
      refine k_aload_n C rfl rfl rfl ?_
      refine k_iload_n C rfl rfl rfl ?_
      refine k_iload_n C rfl rfl rfl ?_
      refine k_isub C rfl rfl ?_
      rw [n_sub (by omega)]
      refine k_iload C rfl rfl rfl ?_
      refine k_isub C rfl rfl ?_
      rw [n_sub (by omega)]
      refine k_i2l C rfl rfl ?_
      refine c_VI C (e_m_modN T_m R_m_1 T_w N_w (I_w_0) hp1 hp2 (i2l_n (by omega))) rfl rfl rfl rfl rfl ⟨_, rfl, rfl, T_m, Nat.le_of_ble_eq_true rfl⟩ rfl rfl (Nat.le_of_ble_eq_true rfl) (Nat.le_of_ble_eq_true rfl) (Nat.le_of_ble_eq_true rfl) ?_
      rintro _ _ _ ⟨hx7, hI8, hL9⟩
      have hx7 := hx7.symm; subst hx7
      have hI8 := hI8.symm; subst hI8; have hL9 := hL9.symm; subst hL9
      refine c_VI C (e_m_timesN T_m R_m_1 T_w N_w (I_w_0) hp1 hp2 rfl rfl (by omega) (by omega)) rfl rfl rfl rfl rfl ⟨_, rfl, rfl, T_m, Nat.le_of_ble_eq_true rfl⟩ rfl rfl (Nat.le_of_ble_eq_true rfl) (Nat.le_of_ble_eq_true rfl) (Nat.le_of_ble_eq_true rfl) ?_
      rintro _ _ _ ⟨hx7, hI8, hL9⟩
      have hx7 := hx7.symm; subst hx7
      have hI8 := hI8.symm; subst hI8; have hL9 := hL9.symm; subst hL9
      refine k_istore C (lw := [(5, .int _), (6, .int _), (0, _), (1, .int _), (2, .int _), (3, .int _), (4, .int _)]) rfl rfl (Nat.le_of_ble_eq_true rfl) rfl ?_
      refine k_sub S [(6, .int (Int32.ofNat i)), (5, .int (Int32.ofNat (dsM 1 (g - k) p i * ((g - k - i) % p) % p))), (0, .ref m), (1, .int (Int32.ofNat g)), (2, .int (Int32.ofNat k)), (3, .int (Int32.ofNat x)), (4, .int (Int32.ofNat y))] (List.forall_mem_cons.mpr ⟨List.mem_of_getElem? (i := 1) rfl, List.forall_mem_cons.mpr ⟨List.mem_of_getElem? (i := 0) rfl, List.forall_mem_cons.mpr ⟨List.mem_of_getElem? (i := 2) rfl, List.forall_mem_cons.mpr ⟨List.mem_of_getElem? (i := 3) rfl, List.forall_mem_cons.mpr ⟨List.mem_of_getElem? (i := 4) rfl, List.forall_mem_cons.mpr ⟨List.mem_of_getElem? (i := 5) rfl, List.forall_mem_cons.mpr ⟨List.mem_of_getElem? (i := 6) rfl, fun _ h => nomatch h⟩⟩⟩⟩⟩⟩⟩) ?_
      refine k_iinc C (lw := [(6, .int _), (5, .int _), (0, _), (1, .int _), (2, .int _), (3, .int _), (4, .int _)]) rfl rfl rfl (Nat.le_of_ble_eq_true rfl) rfl rfl ?_
      refine k_goto C (pc2 := 6) rfl rfl ?_
      show V 6 [(6, .int (Int32.ofNat i + 1)), _, _, _, _, _, _] [] _ 0 0
      rw [n_s]
      exact ih (x - (i + 1)) (by omega) (i + 1) rfl (by omega)
  refine k_iconst C (x := 1) rfl rfl rfl ?_
  refine k_istore C (lw := [(5, .int _), (0, _), (1, .int _), (2, .int _), (3, .int _), (4, .int _)]) rfl rfl (Nat.le_of_ble_eq_true rfl) rfl ?_
  refine k_iconst C (x := 0) rfl rfl rfl ?_
  refine k_istore C (lw := [(6, .int _), (5, .int _), (0, _), (1, .int _), (2, .int _), (3, .int _), (4, .int _)]) rfl rfl (Nat.le_of_ble_eq_true rfl) rfl ?_
  exact loop1 x 0 rfl (Nat.zero_le _)

