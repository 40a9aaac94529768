/-! the law: its own methods of whole numbers -/
theorem e_L_count_no {d : Nat} {T N : Nat → Nat} {I : IT} {L : LT} {R : RT} {x o : Nat} {rI eI mI : Int32} (T_x : T x = 12) (h : ¬ okCnt rI eI mI) : Ex (d + 2) 328 [.ref x, .int rI, .int eI, .int mI, .ref o] (T, N, I, L, R) 1 6 (pI T N R (fun x9 I9 L9 => x9 = (1) ∧ I9 = I ∧ L9 = L)) := by
  refine ⟨_, rfl, Nat.le_of_ble_eq_true rfl, fun V C S => ?_⟩
  show V 0 [(0, .ref x), (1, .int rI), (2, .int eI), (3, .int mI), (4, .ref o)] [] (T, N, I, L, R) 0 0
  refine k_aload C rfl rfl rfl ?_
  refine k_iconst C (x := 0) rfl rfl rfl ?_
  refine k_aload_n C rfl rfl rfl ?_
  refine k_iload_n C rfl rfl rfl ?_
  refine k_iload_n C rfl rfl rfl ?_
  refine k_iload_n C rfl rfl rfl ?_
  refine c_VH C (e_count_no T_x h) rfl rfl rfl rfl rfl ⟨_, rfl, rfl, T_x, Nat.le_of_ble_eq_true rfl⟩ rfl rfl (Nat.le_of_ble_eq_true rfl) (Nat.le_of_ble_eq_true rfl) (Nat.le_of_ble_eq_true rfl) (Nat.le_of_ble_eq_true rfl) (ph := 14) rfl ?_
  rintro _ _ z7 ⟨hI8, hL9⟩
  have hI8 := hI8.symm; subst hI8; have hL9 := hL9.symm; subst hL9
  refine k_astore C (lw := [(5, _), (0, _), (1, .int _), (2, .int _), (3, .int _), (4, _)]) rfl rfl (Nat.le_of_ble_eq_true rfl) rfl ?_
  refine k_iconst C (x := 1) rfl rfl rfl ?_
  exact k_iret C rfl (Or.inl rfl) (Nat.le_of_ble_eq_true rfl) (Nat.le_of_ble_eq_true rfl) ⟨_, _, _, rfl, rfl, ⟨rfl, rfl, rfl⟩⟩

theorem e_L_count_a {d : Nat} {T N : Nat → Nat} {I : IT} {L : LT} {R : RT} {A : Nat → Prop} {x o rw wy : Nat} {rI eI mI : Int32}{r e n : Nat} (T_x : T x = 12) (R_x_7 : R x 7 = some rw) (T_rw : T rw = 6) (R_rw_5 : R rw 5 = some wy) (T_wy : T wy = 21) (N_wy : N wy = 637) (A_wy : A wy) (T_o : T o = 21) (N_o : N o = 1) (A_o : A o) (hrI : rI = Int32.ofNat r) (heI : eI = Int32.ofNat e) (hmI : mI = Int32.ofNat n) (hr9 : r ≤ 12) (he1 : 1 ≤ e) (he : e ≤ 8) (hm : n ≤ 96) (hq : e * r < n) : Ex (d + 2) 328 [.ref x, .int rI, .int eI, .int mI, .ref o] (T, N, I, L, R) 1 6 (pI T N R (fun x9 I9 L9 => x9 = 0 ∧ Fr A I L I9 L9 ∧ L9 o 0 = 0)) := by
  refine ⟨_, rfl, Nat.le_of_ble_eq_true rfl, fun V C S => ?_⟩
  show V 0 [(0, .ref x), (1, .int rI), (2, .int eI), (3, .int mI), (4, .ref o)] [] (T, N, I, L, R) 0 0
  refine k_aload C rfl rfl rfl ?_
  refine k_iconst C (x := 0) rfl rfl rfl ?_
  refine k_aload_n C rfl rfl rfl ?_
  refine k_iload_n C rfl rfl rfl ?_
  refine k_iload_n C rfl rfl rfl ?_
  refine k_iload_n C rfl rfl rfl ?_
  refine c_VL C (e_count_a T_x R_x_7 T_rw R_rw_5 T_wy N_wy A_wy hrI heI hmI hr9 he1 he hm hq) rfl rfl rfl rfl rfl ⟨_, rfl, rfl, T_x, Nat.le_of_ble_eq_true rfl⟩ rfl rfl (Nat.le_of_ble_eq_true rfl) (Nat.le_of_ble_eq_true rfl) (Nat.le_of_ble_eq_true rfl) ?_
  intro x7 I7 L7 h7
  obtain ⟨rfl, f1⟩ := h7
  refine s_L C rfl rfl T_o (vin (n := 0) rfl (by rw [N_o]; exact Nat.le_of_ble_eq_true rfl) (by rw [N_o]; exact Nat.le_of_ble_eq_true rfl)) (show (0 : Int32).toNatClampNeg = 0 from by decide) ?_
  refine k_goto C (pc2 := 18) rfl rfl ?_
  refine k_iconst C (x := 0) rfl rfl rfl ?_
  exact k_iret C rfl (Or.inl rfl) (Nat.le_of_ble_eq_true rfl) (Nat.le_of_ble_eq_true rfl) ⟨_, _, _, rfl, rfl, ⟨rfl, Fr.tr f1 (Fr.l Fr.rf A_o), u2_s⟩⟩

theorem e_L_count_b {d : Nat} {T N : Nat → Nat} {I : IT} {L : LT} {R : RT} {A : Nat → Prop} {x o rw wy : Nat} {rI eI mI : Int32}{r e n : Nat} (T_x : T x = 12) (R_x_7 : R x 7 = some rw) (T_rw : T rw = 6) (R_rw_5 : R rw 5 = some wy) (T_wy : T wy = 21) (N_wy : N wy = 637) (A_wy : A wy) (T_o : T o = 21) (N_o : N o = 1) (A_o : A o) (hrI : rI = Int32.ofNat r) (heI : eI = Int32.ofNat e) (hmI : mI = Int32.ofNat n) (hr9 : r ≤ 12) (he1 : 1 ≤ e) (he : e ≤ 8) (hm : n ≤ 96) (hge : n ≤ e * r) (hodd : (e * r - n) % 2 = 1) : Ex (d + 2) 328 [.ref x, .int rI, .int eI, .int mI, .ref o] (T, N, I, L, R) 1 6 (pI T N R (fun x9 I9 L9 => x9 = 0 ∧ Fr A I L I9 L9 ∧ L9 o 0 = 0)) := by
  refine ⟨_, rfl, Nat.le_of_ble_eq_true rfl, fun V C S => ?_⟩
  show V 0 [(0, .ref x), (1, .int rI), (2, .int eI), (3, .int mI), (4, .ref o)] [] (T, N, I, L, R) 0 0
  refine k_aload C rfl rfl rfl ?_
  refine k_iconst C (x := 0) rfl rfl rfl ?_
  refine k_aload_n C rfl rfl rfl ?_
  refine k_iload_n C rfl rfl rfl ?_
  refine k_iload_n C rfl rfl rfl ?_
  refine k_iload_n C rfl rfl rfl ?_
  refine c_VL C (e_count_b T_x R_x_7 T_rw R_rw_5 T_wy N_wy A_wy hrI heI hmI hr9 he1 he hm hge hodd) rfl rfl rfl rfl rfl ⟨_, rfl, rfl, T_x, Nat.le_of_ble_eq_true rfl⟩ rfl rfl (Nat.le_of_ble_eq_true rfl) (Nat.le_of_ble_eq_true rfl) (Nat.le_of_ble_eq_true rfl) ?_
  intro x7 I7 L7 h7
  obtain ⟨rfl, f1⟩ := h7
  refine s_L C rfl rfl T_o (vin (n := 0) rfl (by rw [N_o]; exact Nat.le_of_ble_eq_true rfl) (by rw [N_o]; exact Nat.le_of_ble_eq_true rfl)) (show (0 : Int32).toNatClampNeg = 0 from by decide) ?_
  refine k_goto C (pc2 := 18) rfl rfl ?_
  refine k_iconst C (x := 0) rfl rfl rfl ?_
  exact k_iret C rfl (Or.inl rfl) (Nat.le_of_ble_eq_true rfl) (Nat.le_of_ble_eq_true rfl) ⟨_, _, _, rfl, rfl, ⟨rfl, Fr.tr f1 (Fr.l Fr.rf A_o), u2_s⟩⟩

theorem e_L_count_c {d : Nat} {T N : Nat → Nat} {I : IT} {L : LT} {R : RT} {A : Nat → Prop} {x o rw wy : Nat} {rI eI mI : Int32}{r e n : Nat} (T_x : T x = 12) (R_x_7 : R x 7 = some rw) (T_rw : T rw = 6) (R_rw_5 : R rw 5 = some wy) (T_wy : T wy = 21) (N_wy : N wy = 637) (A_wy : A wy) (T_o : T o = 21) (N_o : N o = 1) (A_o : A o) (hrI : rI = Int32.ofNat r) (heI : eI = Int32.ofNat e) (hmI : mI = Int32.ofNat n) (hr9 : r ≤ 12) (he1 : 1 ≤ e) (he : e ≤ 8) (hm : n ≤ 96) (hge : n ≤ e * r) (hev : (e * r - n) % 2 = 0) (hz : (e * r - n) / 2 = 0) : Ex (d + 4) 328 [.ref x, .int rI, .int eI, .int mI, .ref o] (T, N, I, L, R) 1 6 (pI T N R (fun x9 I9 L9 => x9 = 0 ∧ Fr A I L I9 L9 ∧ L9 o 0 = waysP 0 r e - 0)) := by
  refine ⟨_, rfl, Nat.le_of_ble_eq_true rfl, fun V C S => ?_⟩
  show V 0 [(0, .ref x), (1, .int rI), (2, .int eI), (3, .int mI), (4, .ref o)] [] (T, N, I, L, R) 0 0
  refine k_aload C rfl rfl rfl ?_
  refine k_iconst C (x := 0) rfl rfl rfl ?_
  refine k_aload_n C rfl rfl rfl ?_
  refine k_iload_n C rfl rfl rfl ?_
  refine k_iload_n C rfl rfl rfl ?_
  refine k_iload_n C rfl rfl rfl ?_
  refine c_VL C (e_count_c T_x R_x_7 T_rw R_rw_5 T_wy N_wy A_wy hrI heI hmI hr9 he1 he hm hge hev hz) rfl rfl rfl rfl rfl ⟨_, rfl, rfl, T_x, Nat.le_of_ble_eq_true rfl⟩ rfl rfl (Nat.le_of_ble_eq_true rfl) (Nat.le_of_ble_eq_true rfl) (Nat.le_of_ble_eq_true rfl) ?_
  intro x7 I7 L7 h7
  obtain ⟨rfl, f1⟩ := h7
  refine s_L C rfl rfl T_o (vin (n := 0) rfl (by rw [N_o]; exact Nat.le_of_ble_eq_true rfl) (by rw [N_o]; exact Nat.le_of_ble_eq_true rfl)) (show (0 : Int32).toNatClampNeg = 0 from by decide) ?_
  refine k_goto C (pc2 := 18) rfl rfl ?_
  refine k_iconst C (x := 0) rfl rfl rfl ?_
  exact k_iret C rfl (Or.inl rfl) (Nat.le_of_ble_eq_true rfl) (Nat.le_of_ble_eq_true rfl) ⟨_, _, _, rfl, rfl, ⟨rfl, Fr.tr f1 (Fr.l Fr.rf A_o), u2_s⟩⟩

theorem e_L_count_d {d : Nat} {T N : Nat → Nat} {I : IT} {L : LT} {R : RT} {A : Nat → Prop} {x o rw wy : Nat} {rI eI mI : Int32}{r e n : Nat} (T_x : T x = 12) (R_x_7 : R x 7 = some rw) (T_rw : T rw = 6) (R_rw_5 : R rw 5 = some wy) (T_wy : T wy = 21) (N_wy : N wy = 637) (A_wy : A wy) (T_o : T o = 21) (N_o : N o = 1) (A_o : A o) (hrI : rI = Int32.ofNat r) (heI : eI = Int32.ofNat e) (hmI : mI = Int32.ofNat n) (hr9 : r ≤ 12) (he1 : 1 ≤ e) (he : e ≤ 8) (hm : n ≤ 96) (hge : n ≤ e * r) (hev : (e * r - n) % 2 = 0) (hz : 1 ≤ (e * r - n) / 2) : Ex (d + 4) 328 [.ref x, .int rI, .int eI, .int mI, .ref o] (T, N, I, L, R) 1 6 (pI T N R (fun x9 I9 L9 => x9 = 0 ∧ Fr A I L I9 L9 ∧ L9 o 0 = waysP ((e * r - n) / 2) r e - waysP ((e * r - n) / 2 - 1) r e)) := by
  refine ⟨_, rfl, Nat.le_of_ble_eq_true rfl, fun V C S => ?_⟩
  show V 0 [(0, .ref x), (1, .int rI), (2, .int eI), (3, .int mI), (4, .ref o)] [] (T, N, I, L, R) 0 0
  refine k_aload C rfl rfl rfl ?_
  refine k_iconst C (x := 0) rfl rfl rfl ?_
  refine k_aload_n C rfl rfl rfl ?_
  refine k_iload_n C rfl rfl rfl ?_
  refine k_iload_n C rfl rfl rfl ?_
  refine k_iload_n C rfl rfl rfl ?_
  refine c_VL C (e_count_d T_x R_x_7 T_rw R_rw_5 T_wy N_wy A_wy hrI heI hmI hr9 he1 he hm hge hev hz) rfl rfl rfl rfl rfl ⟨_, rfl, rfl, T_x, Nat.le_of_ble_eq_true rfl⟩ rfl rfl (Nat.le_of_ble_eq_true rfl) (Nat.le_of_ble_eq_true rfl) (Nat.le_of_ble_eq_true rfl) ?_
  intro x7 I7 L7 h7
  obtain ⟨rfl, f1⟩ := h7
  refine s_L C rfl rfl T_o (vin (n := 0) rfl (by rw [N_o]; exact Nat.le_of_ble_eq_true rfl) (by rw [N_o]; exact Nat.le_of_ble_eq_true rfl)) (show (0 : Int32).toNatClampNeg = 0 from by decide) ?_
  refine k_goto C (pc2 := 18) rfl rfl ?_
  refine k_iconst C (x := 0) rfl rfl rfl ?_
  exact k_iret C rfl (Or.inl rfl) (Nat.le_of_ble_eq_true rfl) (Nat.le_of_ble_eq_true rfl) ⟨_, _, _, rfl, rfl, ⟨rfl, Fr.tr f1 (Fr.l Fr.rf A_o), u2_s⟩⟩

theorem e_L_reduced_no {d : Nat} {T N : Nat → Nat} {I : IT} {L : LT} {R : RT} {x o : Nat} {a b c n : Int32} (T_x : T x = 12) (h : ¬ okRed a b c) : Ex (d + 3) 346 [.ref x, .int a, .int b, .int c, .int n, .ref o] (T, N, I, L, R) 1 6 (pI T N R (fun x9 I9 L9 => x9 = (1) ∧ I9 = I ∧ L9 = L)) := by
  refine ⟨_, rfl, Nat.le_of_ble_eq_true rfl, fun V C S => ?_⟩
  show V 0 [(0, .ref x), (1, .int a), (2, .int b), (3, .int c), (4, .int n), (5, .ref o)] [] (T, N, I, L, R) 0 0
  refine k_aload C rfl rfl rfl ?_
  refine k_iconst C (x := 0) rfl rfl rfl ?_
  refine k_aload_n C rfl rfl rfl ?_
  refine k_iload_n C rfl rfl rfl ?_
  refine k_iload_n C rfl rfl rfl ?_
  refine k_iload_n C rfl rfl rfl ?_
  refine k_iload C rfl rfl rfl ?_
  refine c_VH C (e_reduced_no T_x h) rfl rfl rfl rfl rfl ⟨_, rfl, rfl, T_x, Nat.le_of_ble_eq_true rfl⟩ rfl rfl (Nat.le_of_ble_eq_true rfl) (Nat.le_of_ble_eq_true rfl) (Nat.le_of_ble_eq_true rfl) (Nat.le_of_ble_eq_true rfl) (ph := 16) rfl ?_
  rintro _ _ z9 ⟨hI8, hL9⟩
  have hI8 := hI8.symm; subst hI8; have hL9 := hL9.symm; subst hL9
  refine k_astore C (lw := [(6, _), (0, _), (1, .int _), (2, .int _), (3, .int _), (4, .int _), (5, _)]) rfl rfl (Nat.le_of_ble_eq_true rfl) rfl ?_
  refine k_iconst C (x := 1) rfl rfl rfl ?_
  exact k_iret C rfl (Or.inl rfl) (Nat.le_of_ble_eq_true rfl) (Nat.le_of_ble_eq_true rfl) ⟨_, _, _, rfl, rfl, ⟨rfl, rfl, rfl⟩⟩

theorem e_L_reduced_nse {d : Nat} {T N : Nat → Nat} {I : IT} {L : LT} {R : RT} {x o : Nat} {a b c n : Int32} (T_x : T x = 12) (hok : okRed a b c) (hn : ¬ (0 ≤ n.toInt ∧ n.toInt ≤ 8)) : Ex (d + 3) 346 [.ref x, .int a, .int b, .int c, .int n, .ref o] (T, N, I, L, R) 1 6 (pI T N R (fun x9 I9 L9 => x9 = (2) ∧ I9 = I ∧ L9 = L)) := by
  refine ⟨_, rfl, Nat.le_of_ble_eq_true rfl, fun V C S => ?_⟩
  show V 0 [(0, .ref x), (1, .int a), (2, .int b), (3, .int c), (4, .int n), (5, .ref o)] [] (T, N, I, L, R) 0 0
  refine k_aload C rfl rfl rfl ?_
  refine k_iconst C (x := 0) rfl rfl rfl ?_
  refine k_aload_n C rfl rfl rfl ?_
  refine k_iload_n C rfl rfl rfl ?_
  refine k_iload_n C rfl rfl rfl ?_
  refine k_iload_n C rfl rfl rfl ?_
  refine k_iload C rfl rfl rfl ?_
  refine c_VH C (e_reduced_nse T_x hok hn) rfl rfl rfl rfl rfl ⟨_, rfl, rfl, T_x, Nat.le_of_ble_eq_true rfl⟩ rfl rfl (Nat.le_of_ble_eq_true rfl) (Nat.le_of_ble_eq_true rfl) (Nat.le_of_ble_eq_true rfl) (Nat.le_of_ble_eq_true rfl) (ph := 20) rfl ?_
  rintro _ _ z9 ⟨hI8, hL9⟩
  have hI8 := hI8.symm; subst hI8; have hL9 := hL9.symm; subst hL9
  refine k_astore C (lw := [(6, _), (0, _), (1, .int _), (2, .int _), (3, .int _), (4, .int _), (5, _)]) rfl rfl (Nat.le_of_ble_eq_true rfl) rfl ?_
  refine k_iconst C (x := 2) rfl rfl rfl ?_
  exact k_iret C rfl (Or.inl rfl) (Nat.le_of_ble_eq_true rfl) (Nat.le_of_ble_eq_true rfl) ⟨_, _, _, rfl, rfl, ⟨rfl, rfl, rfl⟩⟩

theorem e_L_reduced_yes {d : Nat} {T N : Nat → Nat} {I : IT} {L : LT} {R : RT} {A : Nat → Prop} {x o wh : Nat} {a b c n : Int32} (T_x : T x = 12) (R_x_10 : R x 10 = some wh) (T_wh : T wh = 11) (A_wh : A wh) (T_o : T o = 21) (N_o : N o = 1) (A_o : A o) (hok : okRed a b c) (hn : 0 ≤ n.toInt ∧ n.toInt ≤ 8) : Ex (d + 5) 346 [.ref x, .int a, .int b, .int c, .int n, .ref o] (T, N, I, L, R) 1 6 (pI T N R (fun x9 I9 L9 => x9 = 0 ∧ Fr A I L I9 L9 ∧ L9 o 0 = tlS (run 1000 (st0 a b c)) n.toInt)) := by
  refine ⟨_, rfl, Nat.le_of_ble_eq_true rfl, fun V C S => ?_⟩
  show V 0 [(0, .ref x), (1, .int a), (2, .int b), (3, .int c), (4, .int n), (5, .ref o)] [] (T, N, I, L, R) 0 0
  refine k_aload C rfl rfl rfl ?_
  refine k_iconst C (x := 0) rfl rfl rfl ?_
  refine k_aload_n C rfl rfl rfl ?_
  refine k_iload_n C rfl rfl rfl ?_
  refine k_iload_n C rfl rfl rfl ?_
  refine k_iload_n C rfl rfl rfl ?_
  refine k_iload C rfl rfl rfl ?_
  refine c_VL C (e_reduced_yes T_x R_x_10 T_wh A_wh hok hn) rfl rfl rfl rfl rfl ⟨_, rfl, rfl, T_x, Nat.le_of_ble_eq_true rfl⟩ rfl rfl (Nat.le_of_ble_eq_true rfl) (Nat.le_of_ble_eq_true rfl) (Nat.le_of_ble_eq_true rfl) ?_
  intro x9 I9 L9 h9
  obtain ⟨rfl, f1⟩ := h9
  refine s_L C rfl rfl T_o (vin (n := 0) rfl (by rw [N_o]; exact Nat.le_of_ble_eq_true rfl) (by rw [N_o]; exact Nat.le_of_ble_eq_true rfl)) (show (0 : Int32).toNatClampNeg = 0 from by decide) ?_
  refine k_goto C (pc2 := 24) rfl rfl ?_
  refine k_iconst C (x := 0) rfl rfl rfl ?_
  exact k_iret C rfl (Or.inl rfl) (Nat.le_of_ble_eq_true rfl) (Nat.le_of_ble_eq_true rfl) ⟨_, _, _, rfl, rfl, ⟨rfl, Fr.tr f1 (Fr.l Fr.rf A_o), u2_s⟩⟩

theorem e_L_classes_no {d : Nat} {T N : Nat → Nat} {I : IT} {L : LT} {R : RT} {x o : Nat} {D z : Int32} (T_x : T x = 12) (h : ¬ isDc D) : Ex (d + 4) 347 [.ref x, .int D, .int z, .ref o] (T, N, I, L, R) 1 6 (pI T N R (fun x9 I9 L9 => x9 = (1) ∧ I9 = I ∧ L9 = L)) := by
  refine ⟨_, rfl, Nat.le_of_ble_eq_true rfl, fun V C S => ?_⟩
  show V 0 [(0, .ref x), (1, .int D), (2, .int z), (3, .ref o)] [] (T, N, I, L, R) 0 0
  refine k_aload_n C rfl rfl rfl ?_
  refine k_iconst C (x := 0) rfl rfl rfl ?_
  refine k_aload_n C rfl rfl rfl ?_
  refine k_iload_n C rfl rfl rfl ?_
  refine k_iload_n C rfl rfl rfl ?_
  refine c_VH C (e_classes_no T_x h) rfl rfl rfl rfl rfl ⟨_, rfl, rfl, T_x, Nat.le_of_ble_eq_true rfl⟩ rfl rfl (Nat.le_of_ble_eq_true rfl) (Nat.le_of_ble_eq_true rfl) (Nat.le_of_ble_eq_true rfl) (Nat.le_of_ble_eq_true rfl) (ph := 13) rfl ?_
  rintro _ _ z5 ⟨hI8, hL9⟩
  have hI8 := hI8.symm; subst hI8; have hL9 := hL9.symm; subst hL9
  refine k_astore C (lw := [(4, _), (0, _), (1, .int _), (2, .int _), (3, _)]) rfl rfl (Nat.le_of_ble_eq_true rfl) rfl ?_
  refine k_iconst C (x := 1) rfl rfl rfl ?_
  exact k_iret C rfl (Or.inl rfl) (Nat.le_of_ble_eq_true rfl) (Nat.le_of_ble_eq_true rfl) ⟨_, _, _, rfl, rfl, ⟨rfl, rfl, rfl⟩⟩

theorem e_L_classes_yes {d : Nat} {T N : Nat → Nat} {I : IT} {L : LT} {R : RT} {A : Nat → Prop} {x o wh : Nat} {D z : Int32} (T_x : T x = 12) (R_x_10 : R x 10 = some wh) (T_wh : T wh = 11) (A_wh : A wh) (T_o : T o = 21) (N_o : N o = 1) (A_o : A o) (hD : isDc D) (hz : z = 0 ∨ z = 1) : Ex (d + 5) 347 [.ref x, .int D, .int z, .ref o] (T, N, I, L, R) 1 6 (pI T N R (fun x9 I9 L9 => x9 = 0 ∧ Fr A I L I9 L9 ∧ L9 o 0 = ((sgP D z (-1)).1 : Int32).toInt64)) := by
  refine ⟨_, rfl, Nat.le_of_ble_eq_true rfl, fun V C S => ?_⟩
  show V 0 [(0, .ref x), (1, .int D), (2, .int z), (3, .ref o)] [] (T, N, I, L, R) 0 0
  refine k_aload_n C rfl rfl rfl ?_
  refine k_iconst C (x := 0) rfl rfl rfl ?_
  refine k_aload_n C rfl rfl rfl ?_
  refine k_iload_n C rfl rfl rfl ?_
  refine k_iload_n C rfl rfl rfl ?_
  refine c_VI C (e_classes_yes T_x R_x_10 T_wh A_wh hD hz) rfl rfl rfl rfl rfl ⟨_, rfl, rfl, T_x, Nat.le_of_ble_eq_true rfl⟩ rfl rfl (Nat.le_of_ble_eq_true rfl) (Nat.le_of_ble_eq_true rfl) (Nat.le_of_ble_eq_true rfl) ?_
  intro x5 I5 L5 h5
  obtain ⟨rfl, f1⟩ := h5
  refine k_i2l C rfl rfl ?_
  refine s_L C rfl rfl T_o (vin (n := 0) rfl (by rw [N_o]; exact Nat.le_of_ble_eq_true rfl) (by rw [N_o]; exact Nat.le_of_ble_eq_true rfl)) (show (0 : Int32).toNatClampNeg = 0 from by decide) ?_
  refine k_goto C (pc2 := 17) rfl rfl ?_
  refine k_iconst C (x := 0) rfl rfl rfl ?_
  exact k_iret C rfl (Or.inl rfl) (Nat.le_of_ble_eq_true rfl) (Nat.le_of_ble_eq_true rfl) ⟨_, _, _, rfl, rfl, ⟨rfl, Fr.tr f1 (Fr.l Fr.rf A_o), u2_s⟩⟩

theorem e_L_reducedAt_no1 {d : Nat} {T N : Nat → Nat} {I : IT} {L : LT} {R : RT} {x o : Nat} {D k n : Int32} (T_x : T x = 12) (h : ¬ isDc D) : Ex (d + 4) 348 [.ref x, .int D, .int k, .int n, .ref o] (T, N, I, L, R) 1 6 (pI T N R (fun x9 I9 L9 => x9 = (1) ∧ I9 = I ∧ L9 = L)) := by
  refine ⟨_, rfl, Nat.le_of_ble_eq_true rfl, fun V C S => ?_⟩
  show V 0 [(0, .ref x), (1, .int D), (2, .int k), (3, .int n), (4, .ref o)] [] (T, N, I, L, R) 0 0
  refine k_aload C rfl rfl rfl ?_
  refine k_iconst C (x := 0) rfl rfl rfl ?_
  refine k_aload_n C rfl rfl rfl ?_
  refine k_iload_n C rfl rfl rfl ?_
  refine k_iload_n C rfl rfl rfl ?_
  refine k_iload_n C rfl rfl rfl ?_
  refine c_VH C (e_reducedAt_no1 T_x h) rfl rfl rfl rfl rfl ⟨_, rfl, rfl, T_x, Nat.le_of_ble_eq_true rfl⟩ rfl rfl (Nat.le_of_ble_eq_true rfl) (Nat.le_of_ble_eq_true rfl) (Nat.le_of_ble_eq_true rfl) (Nat.le_of_ble_eq_true rfl) (ph := 15) rfl ?_
  rintro _ _ z7 ⟨hI8, hL9⟩
  have hI8 := hI8.symm; subst hI8; have hL9 := hL9.symm; subst hL9
  refine k_astore C (lw := [(5, _), (0, _), (1, .int _), (2, .int _), (3, .int _), (4, _)]) rfl rfl (Nat.le_of_ble_eq_true rfl) rfl ?_
  refine k_iconst C (x := 1) rfl rfl rfl ?_
  exact k_iret C rfl (Or.inl rfl) (Nat.le_of_ble_eq_true rfl) (Nat.le_of_ble_eq_true rfl) ⟨_, _, _, rfl, rfl, ⟨rfl, rfl, rfl⟩⟩

theorem e_L_reducedAt_no2 {d : Nat} {T N : Nat → Nat} {I : IT} {L : LT} {R : RT} {x o : Nat} {D k n : Int32} (T_x : T x = 12) (hD : isDc D) (hk : k < 0) : Ex (d + 4) 348 [.ref x, .int D, .int k, .int n, .ref o] (T, N, I, L, R) 1 6 (pI T N R (fun x9 I9 L9 => x9 = (1) ∧ I9 = I ∧ L9 = L)) := by
  refine ⟨_, rfl, Nat.le_of_ble_eq_true rfl, fun V C S => ?_⟩
  show V 0 [(0, .ref x), (1, .int D), (2, .int k), (3, .int n), (4, .ref o)] [] (T, N, I, L, R) 0 0
  refine k_aload C rfl rfl rfl ?_
  refine k_iconst C (x := 0) rfl rfl rfl ?_
  refine k_aload_n C rfl rfl rfl ?_
  refine k_iload_n C rfl rfl rfl ?_
  refine k_iload_n C rfl rfl rfl ?_
  refine k_iload_n C rfl rfl rfl ?_
  refine c_VH C (e_reducedAt_no2 T_x hD hk) rfl rfl rfl rfl rfl ⟨_, rfl, rfl, T_x, Nat.le_of_ble_eq_true rfl⟩ rfl rfl (Nat.le_of_ble_eq_true rfl) (Nat.le_of_ble_eq_true rfl) (Nat.le_of_ble_eq_true rfl) (Nat.le_of_ble_eq_true rfl) (ph := 15) rfl ?_
  rintro _ _ z7 ⟨hI8, hL9⟩
  have hI8 := hI8.symm; subst hI8; have hL9 := hL9.symm; subst hL9
  refine k_astore C (lw := [(5, _), (0, _), (1, .int _), (2, .int _), (3, .int _), (4, _)]) rfl rfl (Nat.le_of_ble_eq_true rfl) rfl ?_
  refine k_iconst C (x := 1) rfl rfl rfl ?_
  exact k_iret C rfl (Or.inl rfl) (Nat.le_of_ble_eq_true rfl) (Nat.le_of_ble_eq_true rfl) ⟨_, _, _, rfl, rfl, ⟨rfl, rfl, rfl⟩⟩

theorem e_L_reducedAt_nse {d : Nat} {T N : Nat → Nat} {I : IT} {L : LT} {R : RT} {x o : Nat} {D k n : Int32} (T_x : T x = 12) (hD : isDc D) (hk : 0 ≤ k) (hn : ¬ (0 ≤ n.toInt ∧ n.toInt ≤ 2)) : Ex (d + 4) 348 [.ref x, .int D, .int k, .int n, .ref o] (T, N, I, L, R) 1 6 (pI T N R (fun x9 I9 L9 => x9 = (2) ∧ I9 = I ∧ L9 = L)) := by
  refine ⟨_, rfl, Nat.le_of_ble_eq_true rfl, fun V C S => ?_⟩
  show V 0 [(0, .ref x), (1, .int D), (2, .int k), (3, .int n), (4, .ref o)] [] (T, N, I, L, R) 0 0
  refine k_aload C rfl rfl rfl ?_
  refine k_iconst C (x := 0) rfl rfl rfl ?_
  refine k_aload_n C rfl rfl rfl ?_
  refine k_iload_n C rfl rfl rfl ?_
  refine k_iload_n C rfl rfl rfl ?_
  refine k_iload_n C rfl rfl rfl ?_
  refine c_VH C (e_reducedAt_nse T_x hD hk hn) rfl rfl rfl rfl rfl ⟨_, rfl, rfl, T_x, Nat.le_of_ble_eq_true rfl⟩ rfl rfl (Nat.le_of_ble_eq_true rfl) (Nat.le_of_ble_eq_true rfl) (Nat.le_of_ble_eq_true rfl) (Nat.le_of_ble_eq_true rfl) (ph := 19) rfl ?_
  rintro _ _ z7 ⟨hI8, hL9⟩
  have hI8 := hI8.symm; subst hI8; have hL9 := hL9.symm; subst hL9
  refine k_astore C (lw := [(5, _), (0, _), (1, .int _), (2, .int _), (3, .int _), (4, _)]) rfl rfl (Nat.le_of_ble_eq_true rfl) rfl ?_
  refine k_iconst C (x := 2) rfl rfl rfl ?_
  exact k_iret C rfl (Or.inl rfl) (Nat.le_of_ble_eq_true rfl) (Nat.le_of_ble_eq_true rfl) ⟨_, _, _, rfl, rfl, ⟨rfl, rfl, rfl⟩⟩

theorem e_L_reducedAt_yes {d : Nat} {T N : Nat → Nat} {I : IT} {L : LT} {R : RT} {A : Nat → Prop} {x o wh : Nat} {D k n : Int32} (T_x : T x = 12) (R_x_10 : R x 10 = some wh) (T_wh : T wh = 11) (A_wh : A wh) (T_o : T o = 21) (N_o : N o = 1) (A_o : A o) (hD : isDc D) (hk : 0 ≤ k) (hn : 0 ≤ n.toInt ∧ n.toInt ≤ 2) : Ex (d + 5) 348 [.ref x, .int D, .int k, .int n, .ref o] (T, N, I, L, R) 1 6 (pI T N R (fun x9 I9 L9 => x9 = 0 ∧ Fr A I L I9 L9 ∧ L9 o 0 = (raP D k n.toInt : Int32).toInt64)) := by
  refine ⟨_, rfl, Nat.le_of_ble_eq_true rfl, fun V C S => ?_⟩
  show V 0 [(0, .ref x), (1, .int D), (2, .int k), (3, .int n), (4, .ref o)] [] (T, N, I, L, R) 0 0
  refine k_aload C rfl rfl rfl ?_
  refine k_iconst C (x := 0) rfl rfl rfl ?_
  refine k_aload_n C rfl rfl rfl ?_
  refine k_iload_n C rfl rfl rfl ?_
  refine k_iload_n C rfl rfl rfl ?_
  refine k_iload_n C rfl rfl rfl ?_
  refine c_VI C (e_reducedAt_yes T_x R_x_10 T_wh A_wh hD hk hn) rfl rfl rfl rfl rfl ⟨_, rfl, rfl, T_x, Nat.le_of_ble_eq_true rfl⟩ rfl rfl (Nat.le_of_ble_eq_true rfl) (Nat.le_of_ble_eq_true rfl) (Nat.le_of_ble_eq_true rfl) ?_
  intro x7 I7 L7 h7
  obtain ⟨rfl, f1⟩ := h7
  refine k_i2l C rfl rfl ?_
  refine s_L C rfl rfl T_o (vin (n := 0) rfl (by rw [N_o]; exact Nat.le_of_ble_eq_true rfl) (by rw [N_o]; exact Nat.le_of_ble_eq_true rfl)) (show (0 : Int32).toNatClampNeg = 0 from by decide) ?_
  refine k_goto C (pc2 := 23) rfl rfl ?_
  refine k_iconst C (x := 0) rfl rfl rfl ?_
  exact k_iret C rfl (Or.inl rfl) (Nat.le_of_ble_eq_true rfl) (Nat.le_of_ble_eq_true rfl) ⟨_, _, _, rfl, rfl, ⟨rfl, Fr.tr f1 (Fr.l Fr.rf A_o), u2_s⟩⟩

theorem e_L_real_no {d : Nat} {T N : Nat → Nat} {I : IT} {L : LT} {R : RT} {x o : Nat} {a b c u e : Int32} (T_x : T x = 12) (h : ¬ okReal a b c u e) : Ex (d + 3) 349 [.ref x, .int a, .int b, .int c, .int u, .int e, .ref o] (T, N, I, L, R) 1 6 (pI T N R (fun x9 I9 L9 => x9 = (1) ∧ I9 = I ∧ L9 = L)) := by
  refine ⟨_, rfl, Nat.le_of_ble_eq_true rfl, fun V C S => ?_⟩
  show V 0 [(0, .ref x), (1, .int a), (2, .int b), (3, .int c), (4, .int u), (5, .int e), (6, .ref o)] [] (T, N, I, L, R) 0 0
  refine k_aload C rfl rfl rfl ?_
  refine k_iconst C (x := 0) rfl rfl rfl ?_
  refine k_aload_n C rfl rfl rfl ?_
  refine k_iload_n C rfl rfl rfl ?_
  refine k_iload_n C rfl rfl rfl ?_
  refine k_iload_n C rfl rfl rfl ?_
  refine k_iload C rfl rfl rfl ?_
  refine k_iload C rfl rfl rfl ?_
  refine c_VH C (e_real_no T_x h) rfl rfl rfl rfl rfl ⟨_, rfl, rfl, T_x, Nat.le_of_ble_eq_true rfl⟩ rfl rfl (Nat.le_of_ble_eq_true rfl) (Nat.le_of_ble_eq_true rfl) (Nat.le_of_ble_eq_true rfl) (Nat.le_of_ble_eq_true rfl) (ph := 19) rfl ?_
  rintro _ _ z11 ⟨hI8, hL9⟩
  have hI8 := hI8.symm; subst hI8; have hL9 := hL9.symm; subst hL9
  refine k_astore C (lw := [(7, _), (0, _), (1, .int _), (2, .int _), (3, .int _), (4, .int _), (5, .int _), (6, _)]) rfl rfl (Nat.le_of_ble_eq_true rfl) rfl ?_
  refine k_iconst C (x := 1) rfl rfl rfl ?_
  exact k_iret C rfl (Or.inl rfl) (Nat.le_of_ble_eq_true rfl) (Nat.le_of_ble_eq_true rfl) ⟨_, _, _, rfl, rfl, ⟨rfl, rfl, rfl⟩⟩

theorem e_L_real_yes {d : Nat} {T N : Nat → Nat} {I : IT} {L : LT} {R : RT} {A : Nat → Prop} {x o : Nat} {a b c u e : Int32} (T_x : T x = 12) (T_o : T o = 21) (N_o : N o = 1) (A_o : A o) (hok : okReal a b c u e) : Ex (d + 4) 349 [.ref x, .int a, .int b, .int c, .int u, .int e, .ref o] (T, N, I, L, R) 1 6 (pI T N R (fun x9 I9 L9 => x9 = 0 ∧ Fr A I L I9 L9 ∧ L9 o 0 = (rlV a b c u e : Int32).toInt64)) := by
  refine ⟨_, rfl, Nat.le_of_ble_eq_true rfl, fun V C S => ?_⟩
  show V 0 [(0, .ref x), (1, .int a), (2, .int b), (3, .int c), (4, .int u), (5, .int e), (6, .ref o)] [] (T, N, I, L, R) 0 0
  refine k_aload C rfl rfl rfl ?_
  refine k_iconst C (x := 0) rfl rfl rfl ?_
  refine k_aload_n C rfl rfl rfl ?_
  refine k_iload_n C rfl rfl rfl ?_
  refine k_iload_n C rfl rfl rfl ?_
  refine k_iload_n C rfl rfl rfl ?_
  refine k_iload C rfl rfl rfl ?_
  refine k_iload C rfl rfl rfl ?_
  refine c_VI C (e_real_yes T_x hok) rfl rfl rfl rfl rfl ⟨_, rfl, rfl, T_x, Nat.le_of_ble_eq_true rfl⟩ rfl rfl (Nat.le_of_ble_eq_true rfl) (Nat.le_of_ble_eq_true rfl) (Nat.le_of_ble_eq_true rfl) ?_
  rintro _ _ _ ⟨hx7, hI8, hL9⟩
  have hx7 := hx7.symm; subst hx7
  have hI8 := hI8.symm; subst hI8; have hL9 := hL9.symm; subst hL9
  refine k_i2l C rfl rfl ?_
  refine s_L C rfl rfl T_o (vin (n := 0) rfl (by rw [N_o]; exact Nat.le_of_ble_eq_true rfl) (by rw [N_o]; exact Nat.le_of_ble_eq_true rfl)) (show (0 : Int32).toNatClampNeg = 0 from by decide) ?_
  refine k_goto C (pc2 := 23) rfl rfl ?_
  refine k_iconst C (x := 0) rfl rfl rfl ?_
  exact k_iret C rfl (Or.inl rfl) (Nat.le_of_ble_eq_true rfl) (Nat.le_of_ble_eq_true rfl) ⟨_, _, _, rfl, rfl, ⟨rfl, (Fr.l Fr.rf A_o), u2_s⟩⟩


