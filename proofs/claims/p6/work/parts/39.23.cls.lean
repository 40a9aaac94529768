/-! the class: the tape, drawn forms -/
theorem e_put {d : Nat} {T N : Nat → Nat} {I : IT} {L : LT} {R : RT} {A : Nat → Prop} {rd bt : Nat} {x : Int32} (T_rd : T rd = 5) (R_rd_2 : R rd 2 = some bt) (T_bt : T bt = 20) (N_bt : N bt = 400) (A_rd : A rd) (A_bt : A bt) {h : Nat} (hh : h ≤ 380) (hI : I rd 1 = Int32.ofNat h) : Ex (d + 1) 59 [.ref rd, .int x] (T, N, I, L, R) 0 0 (pV T N R (fun I9 L9 => Fr A I L I9 L9 ∧ I9 rd 1 = Int32.ofNat (h + 4))) := by
  refine ⟨_, rfl, Nat.le_of_ble_eq_true rfl, fun V C S => ?_⟩
  show V 0 [(0, .ref rd), (1, .int x)] [] (T, N, I, L, R) 0 0
  have step : ∀ (j : Nat) (I1 : IT) (sh : Int32), j ≤ 3 → Fr A I L I1 L → I1 rd 1 = Int32.ofNat (h + j) → (∀ I2, Fr A I L I2 L → I2 rd 1 = Int32.ofNat (h + (j + 1)) → V 55 [(2, .int (sh + Int32.ofInt (-8))), (0, .ref rd), (1, .int x)] [] (T, N, I2, L, R) 0 0) → V 7 [(2, .int sh), (0, .ref rd), (1, .int x)] [] (T, N, I1, L, R) 0 0 := by
    intro j I1 sh hj hF hI K
    refine k_aload_n C rfl rfl rfl ?_
    refine g_I C rfl rfl rfl T_rd rfl (hI) ?_
    refine k_if_lt C (t := 52) rfl rfl rfl (fun c11 => ?_) (fun c11 => ?_)
    · skip
      exact absurd c11 (n_nn (by omega))
    refine k_aload_n C rfl rfl rfl ?_
    refine g_I C rfl rfl rfl T_rd rfl (hI) ?_
    refine k_aload_n C rfl rfl rfl ?_
    refine g_R C rfl rfl rfl T_rd rfl R_rd_2 ?_
    refine a_N C rfl rfl (by rw [T_bt]; exact Nat.le_of_ble_eq_true rfl) N_bt ?_
    refine k_icmp_ge C (t := 52) rfl rfl rfl (fun c23 => ?_) (fun c23 => ?_)
    · skip
      exact absurd ((n_le (by omega) (by omega)).mp c23) (by omega)
    refine k_aload_n C rfl rfl rfl ?_
    refine g_R C rfl rfl rfl T_rd rfl R_rd_2 ?_
    refine k_aload_n C rfl rfl rfl ?_
    refine g_I C rfl rfl rfl T_rd rfl (hI) ?_
    refine k_iload_n C rfl rfl rfl ?_
    refine k_iload_n C rfl rfl rfl ?_
    refine k_iushr C rfl rfl ?_
    refine k_sipush C (x := 255) rfl rfl rfl ?_
    refine k_iand C rfl rfl ?_
    refine s_I C rfl rfl T_bt (vin (n := h + j) rfl (by rw [N_bt]; omega) (by rw [N_bt]; omega)) (n_nat (by omega)) ?_
    refine k_aload_n C rfl rfl rfl ?_
    refine k_dup C rfl rfl rfl ?_
    refine g_I C rfl rfl rfl T_rd rfl (((u2_a (t_nq T_rd T_bt (by decide))).trans hI)) ?_
    refine k_iconst C (x := 1) rfl rfl rfl ?_
    refine k_iadd C rfl rfl ?_
    refine p_I C rfl rfl rfl T_rd (Or.inr rfl) rfl ?_
    refine k_iinc C (lw := [(2, .int _), (0, _), (1, .int _)]) rfl rfl rfl (Nat.le_of_ble_eq_true rfl) rfl rfl ?_
    exact K _ (Fr.i (Fr.i hF A_bt) A_rd) (u2_s.trans n_s)
  refine k_bipush C (x := 24) rfl rfl rfl ?_
  refine k_istore_n C (lw := [(2, .int _), (0, _), (1, .int _)]) rfl rfl (Nat.le_of_ble_eq_true rfl) rfl ?_
  refine k_iload_n C rfl rfl rfl ?_
  refine k_if_lt C (t := 58) rfl rfl rfl (fun c => absurd c (by decide)) (fun _ => ?_)
  refine step 0 I _ (Nat.le_of_ble_eq_true rfl) Fr.rf hI (fun I1 f1 g1 => ?_)
  refine k_goto C (pc2 := 3) rfl rfl ?_
  refine k_iload_n C rfl rfl rfl ?_
  refine k_if_lt C (t := 58) rfl rfl rfl (fun c => absurd c (by decide)) (fun _ => ?_)
  refine step 1 I1 _ (Nat.le_of_ble_eq_true rfl) f1 g1 (fun I2 f2 g2 => ?_)
  refine k_goto C (pc2 := 3) rfl rfl ?_
  refine k_iload_n C rfl rfl rfl ?_
  refine k_if_lt C (t := 58) rfl rfl rfl (fun c => absurd c (by decide)) (fun _ => ?_)
  refine step 2 I2 _ (Nat.le_of_ble_eq_true rfl) f2 g2 (fun I3 f3 g3 => ?_)
  refine k_goto C (pc2 := 3) rfl rfl ?_
  refine k_iload_n C rfl rfl rfl ?_
  refine k_if_lt C (t := 58) rfl rfl rfl (fun c => absurd c (by decide)) (fun _ => ?_)
  refine step 3 I3 _ (Nat.le_of_ble_eq_true rfl) f3 g3 (fun I4 f4 g4 => ?_)
  refine k_goto C (pc2 := 3) rfl rfl ?_
  refine k_iload_n C rfl rfl rfl ?_
  refine k_if_lt C (t := 58) rfl rfl rfl (fun _ => ?_) (fun c => absurd (by decide) c)
  exact k_vret C rfl rfl (Nat.le_of_ble_eq_true rfl) (Nat.le_of_ble_eq_true rfl) ⟨_, _, rfl, rfl, f4, g4⟩


theorem e_feed0 {d : Nat} {T N : Nat → Nat} {I : IT} {L : LT} {R : RT} {A : Nat → Prop} {x rd bt : Nat} {n0 n1 n2 n3 n4 : Int32} (T_x : T x = 12) (R_x_0 : R x 0 = some rd) (T_rd : T rd = 5) (R_rd_2 : R rd 2 = some bt) (T_bt : T bt = 20) (N_bt : N bt = 400) (A_rd : A rd) (A_bt : A bt) (I_rd_1 : I rd 1 = 0) : Ex (d + 2) 126 [.ref x, .int n0, .int n1, .int n2, .int n3, .int n4] (T, N, I, L, R) 0 0 (pI T N R (fun x9 I9 L9 => x9 = 20 ∧ Fr A I L I9 L9)) := by
  refine ⟨_, rfl, Nat.le_of_ble_eq_true rfl, fun V C S => ?_⟩
  show V 0 [(0, .ref x), (1, .int n0), (2, .int n1), (3, .int n2), (4, .int n3), (5, .int n4)] [] (T, N, I, L, R) 0 0
  refine k_aload_n C rfl rfl rfl ?_
  refine g_R C rfl rfl rfl T_x rfl R_x_0 ?_
  refine g_I C rfl rfl rfl T_rd rfl (I_rd_1) ?_
  refine k_sipush C (x := 380) rfl rfl rfl ?_
  refine k_icmp_le C (t := 15) rfl rfl rfl (fun c10 => ?_) (fun c10 => ?_)
  · skip
    refine k_aload_n C rfl rfl rfl ?_
    refine g_R C rfl rfl rfl T_x rfl R_x_0 ?_
    refine k_iload_n C rfl rfl rfl ?_
    refine c_VV C (e_put T_rd R_rd_2 T_bt N_bt A_rd A_bt (h := 0) (Nat.le_of_ble_eq_true rfl) I_rd_1) rfl rfl rfl rfl rfl ⟨_, rfl, rfl, T_rd, Nat.le_of_ble_eq_true rfl⟩ rfl rfl (Nat.le_of_ble_eq_true rfl) (Nat.le_of_ble_eq_true rfl) (Nat.le_of_ble_eq_true rfl) ?_
    intro I20 L20 h20
    refine k_aload_n C rfl rfl rfl ?_
    refine g_R C rfl rfl rfl T_x rfl R_x_0 ?_
    refine k_iload_n C rfl rfl rfl ?_
    refine c_VV C (e_put T_rd R_rd_2 T_bt N_bt A_rd A_bt (h := 4) (Nat.le_of_ble_eq_true rfl) h20.2) rfl rfl rfl rfl rfl ⟨_, rfl, rfl, T_rd, Nat.le_of_ble_eq_true rfl⟩ rfl rfl (Nat.le_of_ble_eq_true rfl) (Nat.le_of_ble_eq_true rfl) (Nat.le_of_ble_eq_true rfl) ?_
    intro I28 L28 h28
    refine k_aload_n C rfl rfl rfl ?_
    refine g_R C rfl rfl rfl T_x rfl R_x_0 ?_
    refine k_iload_n C rfl rfl rfl ?_
    refine c_VV C (e_put T_rd R_rd_2 T_bt N_bt A_rd A_bt (h := 8) (Nat.le_of_ble_eq_true rfl) h28.2) rfl rfl rfl rfl rfl ⟨_, rfl, rfl, T_rd, Nat.le_of_ble_eq_true rfl⟩ rfl rfl (Nat.le_of_ble_eq_true rfl) (Nat.le_of_ble_eq_true rfl) (Nat.le_of_ble_eq_true rfl) ?_
    intro I36 L36 h36
    refine k_aload_n C rfl rfl rfl ?_
    refine g_R C rfl rfl rfl T_x rfl R_x_0 ?_
    refine k_iload C rfl rfl rfl ?_
    refine c_VV C (e_put T_rd R_rd_2 T_bt N_bt A_rd A_bt (h := 12) (Nat.le_of_ble_eq_true rfl) h36.2) rfl rfl rfl rfl rfl ⟨_, rfl, rfl, T_rd, Nat.le_of_ble_eq_true rfl⟩ rfl rfl (Nat.le_of_ble_eq_true rfl) (Nat.le_of_ble_eq_true rfl) (Nat.le_of_ble_eq_true rfl) ?_
    intro I45 L45 h45
    refine k_aload_n C rfl rfl rfl ?_
    refine g_R C rfl rfl rfl T_x rfl R_x_0 ?_
    refine k_iload C rfl rfl rfl ?_
    refine c_VV C (e_put T_rd R_rd_2 T_bt N_bt A_rd A_bt (h := 16) (Nat.le_of_ble_eq_true rfl) h45.2) rfl rfl rfl rfl rfl ⟨_, rfl, rfl, T_rd, Nat.le_of_ble_eq_true rfl⟩ rfl rfl (Nat.le_of_ble_eq_true rfl) (Nat.le_of_ble_eq_true rfl) (Nat.le_of_ble_eq_true rfl) ?_
    intro I54 L54 h54
    refine k_aload_n C rfl rfl rfl ?_
    refine g_R C rfl rfl rfl T_x rfl R_x_0 ?_
    refine g_I C rfl rfl rfl T_rd rfl (h54.2) ?_
    exact k_iret C rfl (Or.inl rfl) (Nat.le_of_ble_eq_true rfl) (Nat.le_of_ble_eq_true rfl) ⟨_, _, _, rfl, rfl, ⟨rfl, Fr.tr h20.1 (Fr.tr h28.1 (Fr.tr h36.1 (Fr.tr h45.1 h54.1)))⟩⟩
  exact absurd (by decide) c10

theorem vlt {j : Int32} {n : Nat} (h0 : ¬ j < 0) (h1 : ¬ Int32.ofNat n ≤ j) (hn : n < 2147483648) : vp_in j n := by
  rintro (h | h)
  · exact h0 h
  · apply h1
    rw [i_le, n_int hn]
    rw [i_lt] at h0
    have e0 : (0 : Int32).toInt = 0 := rfl
    have e1 : j.toNatClampNeg = j.toInt.toNat := rfl
    omega
theorem fill_loop {d : Nat} {V : V_T} {q : mm_T} {Post : Po} {T N : Nat → Nat} {R : RT} {A : Nat → Prop} {a n : Nat} {v : Int32} (T_a : T a = 20) (N_a : N a = n) (hn : n ≤ 10000) (A_a : A a) (hq : P_ml[15]? = some q) (C : Cl d q 0 0 Post V) (I0 : IT) (L0 : LT) (K : ∀ I1, Fr A I0 L0 I1 L0 → V 20 [(2, .int (Int32.ofNat n)), (3, .int (Int32.ofNat n)), (0, .ref a), (1, .int v)] [] (T, N, I1, L0, R) 0 0) : ∀ (k i : Nat) (I1 : IT), k = n - i → i ≤ n → Fr A I0 L0 I1 L0 → V 5 [(2, .int (Int32.ofNat i)), (3, .int (Int32.ofNat n)), (0, .ref a), (1, .int v)] [] (T, N, I1, L0, R) 0 0 := by
  cases hq
  intro k
  induction k using Nat.strongRecOn with
  | _ k ih =>
    intro i I1 hk hin hF
    refine k_iload_n C rfl rfl rfl ?_
    refine k_iload_n C rfl rfl rfl ?_
    refine k_icmp_ge C (t := 20) rfl rfl rfl (fun c => ?_) (fun c => ?_)
    · have hi : i = n := Nat.le_antisymm hin ((n_le (by omega) (by omega)).mp c)
      rw [hi]; exact K I1 hF
    · have hi : i < n := Nat.lt_of_not_le (fun h => c ((n_le (by omega) (by omega)).mpr h))
      refine k_aload_n C rfl rfl rfl ?_
      refine k_iload_n C rfl rfl rfl ?_
      refine k_iload_n C rfl rfl rfl ?_
      refine s_I C rfl rfl T_a (vin rfl (by rw [N_a]; exact hi) (by rw [N_a]; omega)) (n_nat (by omega)) ?_
      refine k_inc1 C (lw := [(2, .int _), (3, .int _), (0, _), (1, .int _)]) rfl rfl rfl (Nat.le_of_ble_eq_true rfl) rfl ?_
      refine k_goto C (pc2 := 5) rfl rfl ?_
      rw [n_s]
      exact ih (n - (i + 1)) (by omega) (i + 1) _ rfl hi (Fr.i hF A_a)
theorem e_fillI {d : Nat} {T N : Nat → Nat} {I : IT} {L : LT} {R : RT} {A : Nat → Prop} {a : Nat} {v : Int32}{n : Nat} (T_a : T a = 20) (N_a : N a = n) (A_a : A a) (hn : n ≤ 10000) : Ex (d + 1) 15 [.ref a, .int v] (T, N, I, L, R) 0 0 (pV T N R (fun I9 L9 => Fr A I L I9 L9)) := by
  refine ⟨_, rfl, Nat.le_of_ble_eq_true rfl, fun V C S => ?_⟩
  show V 0 [(0, .ref a), (1, .int v)] [] (T, N, I, L, R) 0 0
  refine k_iconst C (x := 0) rfl rfl rfl ?_
  refine k_istore_n C (lw := [(2, .int _), (0, _), (1, .int _)]) rfl rfl (Nat.le_of_ble_eq_true rfl) rfl ?_
  refine k_aload_n C rfl rfl rfl ?_
  refine a_N C rfl rfl (by rw [T_a]; exact Nat.le_of_ble_eq_true rfl) N_a ?_
  refine k_istore_n C (lw := [(3, .int _), (2, .int _), (0, _), (1, .int _)]) rfl rfl (Nat.le_of_ble_eq_true rfl) rfl ?_
  refine k_sub S [(2, .int (Int32.ofNat 0)), (3, .int (Int32.ofNat n)), (0, .ref a), (1, .int v)] (List.forall_mem_cons.mpr ⟨List.mem_of_getElem? (i := 1) rfl, List.forall_mem_cons.mpr ⟨List.mem_of_getElem? (i := 0) rfl, List.forall_mem_cons.mpr ⟨List.mem_of_getElem? (i := 2) rfl, List.forall_mem_cons.mpr ⟨List.mem_of_getElem? (i := 3) rfl, fun _ h => nomatch h⟩⟩⟩⟩) ?_
  refine fill_loop T_a N_a hn A_a rfl C I L (fun I1 hF => ?_) n 0 I rfl (Nat.zero_le n) Fr.rf
  exact k_vret C rfl rfl (Nat.le_of_ble_eq_true rfl) (Nat.le_of_ble_eq_true rfl) ⟨_, _, rfl, rfl, hF⟩


theorem e_begin {d : Nat} {T N : Nat → Nat} {I : IT} {L : LT} {R : RT} {A : Nat → Prop} {f nb : Nat} {n : Int32} (T_f : T f = 3) (R_f_1 : R f 1 = some nb) (T_nb : T nb = 20) (N_nb : N nb = 41) (A_f : A f) (A_nb : A nb) : Ex (d + 2) 16 [.ref f, .int n] (T, N, I, L, R) 0 0 (pV T N R (fun I9 L9 => Fr A I L I9 L9)) := by
  refine ⟨_, rfl, Nat.le_of_ble_eq_true rfl, fun V C S => ?_⟩
  show V 0 [(0, .ref f), (1, .int n)] [] (T, N, I, L, R) 0 0
  refine k_aload_n C rfl rfl rfl ?_
  refine k_iload_n C rfl rfl rfl ?_
  refine k_if_ge C (t := 9) rfl rfl rfl (fun c2 => ?_) (fun c2 => ?_)
  · skip
    refine k_iload_n C rfl rfl rfl ?_
    refine k_bipush C (x := 40) rfl rfl rfl ?_
    refine k_icmp_le C (t := 20) rfl rfl rfl (fun c12 => ?_) (fun c12 => ?_)
    · skip
      refine k_iload_n C rfl rfl rfl ?_
      refine p_I C rfl rfl rfl T_f (Or.inr rfl) rfl ?_
      refine k_aload_n C rfl rfl rfl ?_
      refine g_R C rfl rfl rfl T_f rfl R_f_1 ?_
      refine k_iconst C (x := 0) rfl rfl rfl ?_
      refine c_SV C (e_fillI T_nb N_nb A_nb (Nat.le_of_ble_eq_true rfl)) rfl rfl rfl rfl rfl rfl rfl (Nat.le_of_ble_eq_true rfl) (Nat.le_of_ble_eq_true rfl) (Nat.le_of_ble_eq_true rfl) ?_
      intro I29 L29 h29
      exact k_vret C rfl rfl (Nat.le_of_ble_eq_true rfl) (Nat.le_of_ble_eq_true rfl) ⟨_, _, rfl, rfl, Fr.tr (Fr.i Fr.rf A_f) h29⟩
    refine k_bipush C (x := 40) rfl rfl rfl ?_
    refine k_goto C (pc2 := 21) rfl rfl ?_
    refine p_I C rfl rfl rfl T_f (Or.inr rfl) rfl ?_
    refine k_aload_n C rfl rfl rfl ?_
    refine g_R C rfl rfl rfl T_f rfl R_f_1 ?_
    refine k_iconst C (x := 0) rfl rfl rfl ?_
    refine c_SV C (e_fillI T_nb N_nb A_nb (Nat.le_of_ble_eq_true rfl)) rfl rfl rfl rfl rfl rfl rfl (Nat.le_of_ble_eq_true rfl) (Nat.le_of_ble_eq_true rfl) (Nat.le_of_ble_eq_true rfl) ?_
    intro I29 L29 h29
    exact k_vret C rfl rfl (Nat.le_of_ble_eq_true rfl) (Nat.le_of_ble_eq_true rfl) ⟨_, _, rfl, rfl, Fr.tr (Fr.i Fr.rf A_f) h29⟩
  refine k_iconst C (x := 0) rfl rfl rfl ?_
  refine k_goto C (pc2 := 21) rfl rfl ?_
  refine p_I C rfl rfl rfl T_f (Or.inr rfl) rfl ?_
  refine k_aload_n C rfl rfl rfl ?_
  refine g_R C rfl rfl rfl T_f rfl R_f_1 ?_
  refine k_iconst C (x := 0) rfl rfl rfl ?_
  refine c_SV C (e_fillI T_nb N_nb A_nb (Nat.le_of_ble_eq_true rfl)) rfl rfl rfl rfl rfl rfl rfl (Nat.le_of_ble_eq_true rfl) (Nat.le_of_ble_eq_true rfl) (Nat.le_of_ble_eq_true rfl) ?_
  intro I29 L29 h29
  exact k_vret C rfl rfl (Nat.le_of_ble_eq_true rfl) (Nat.le_of_ble_eq_true rfl) ⟨_, _, rfl, rfl, Fr.tr (Fr.i Fr.rf A_f) h29⟩

theorem e_set {d : Nat} {T N : Nat → Nat} {I : IT} {L : LT} {R : RT} {A : Nat → Prop} {f nb : Nat} {k v : Int32} (T_f : T f = 3) (R_f_1 : R f 1 = some nb) (T_nb : T nb = 20) (N_nb : N nb = 41) (A_nb : A nb) : Ex (d + 1) 12 [.ref f, .int k, .int v] (T, N, I, L, R) 0 0 (pV T N R (fun I9 L9 => Fr A I L I9 L9)) := by
  refine ⟨_, rfl, Nat.le_of_ble_eq_true rfl, fun V C S => ?_⟩
  show V 0 [(0, .ref f), (1, .int k), (2, .int v)] [] (T, N, I, L, R) 0 0
  refine k_iload_n C rfl rfl rfl ?_
  refine k_if_lt C (t := 20) rfl rfl rfl (fun c1 => ?_) (fun c1 => ?_)
  · skip
    exact k_vret C rfl rfl (Nat.le_of_ble_eq_true rfl) (Nat.le_of_ble_eq_true rfl) ⟨_, _, rfl, rfl, Fr.rf⟩
  refine k_iload_n C rfl rfl rfl ?_
  refine k_aload_n C rfl rfl rfl ?_
  refine g_R C rfl rfl rfl T_f rfl R_f_1 ?_
  refine a_N C rfl rfl (by rw [T_nb]; exact Nat.le_of_ble_eq_true rfl) N_nb ?_
  refine k_icmp_ge C (t := 20) rfl rfl rfl (fun c10 => ?_) (fun c10 => ?_)
  · skip
    exact k_vret C rfl rfl (Nat.le_of_ble_eq_true rfl) (Nat.le_of_ble_eq_true rfl) ⟨_, _, rfl, rfl, Fr.rf⟩
  refine k_aload_n C rfl rfl rfl ?_
  refine g_R C rfl rfl rfl T_f rfl R_f_1 ?_
  refine k_iload_n C rfl rfl rfl ?_
  refine k_iload_n C rfl rfl rfl ?_
  refine s_I C rfl rfl T_nb (vlt c1 (by rw [N_nb]; exact c10) (by rw [N_nb]; exact Nat.le_of_ble_eq_true rfl)) rfl ?_
  exact k_vret C rfl rfl (Nat.le_of_ble_eq_true rfl) (Nat.le_of_ble_eq_true rfl) ⟨_, _, rfl, rfl, (Fr.i Fr.rf A_nb)⟩

