/-! the law: its calls on a new object, 4 -/
set_option maxRecDepth 100000 in
theorem lc_17_no {d : Nat} {V : V_T} {b x m o : Nat} {xs : Nat → Int32} {T N : Nat → Nat} {I : IT} {L : LT} {R : RT} {A B : Nat → Prop}  (C : Cl (d + 3) q_law 600002 7302232 law_Po V) (S : SB V) (hL : LSc V b 6 xs) (T_x : T x = 12) (T_m : T m = 13) (B_m : B m) (h : ¬ okCnt (xs 1) (xs 2) (xs 3)) : V 1187 [(4, .int 0), (3, .ref o), (2, .ref m), (1, .ref x), (0, .ref b)] [] (T, N, I, L, R) 429 34606 := by
  refine k_aload_n C rfl rfl rfl ?_
  refine k_aload_n C rfl rfl rfl ?_
  refine k_iload C rfl rfl rfl ?_
  refine k_iconst C (x := 1) rfl rfl rfl ?_
  refine k_iadd C rfl rfl ?_
  refine ls_i hL (k := 1) rfl rfl (by unfold vp_in; decide) (by decide) ?_
  refine k_aload_n C rfl rfl rfl ?_
  refine k_iload C rfl rfl rfl ?_
  refine k_iconst C (x := 2) rfl rfl rfl ?_
  refine k_iadd C rfl rfl ?_
  refine ls_i hL (k := 2) rfl rfl (by unfold vp_in; decide) (by decide) ?_
  refine k_aload_n C rfl rfl rfl ?_
  refine k_iload C rfl rfl rfl ?_
  refine k_iconst C (x := 3) rfl rfl rfl ?_
  refine k_iadd C rfl rfl ?_
  refine ls_i hL (k := 3) rfl rfl (by unfold vp_in; decide) (by decide) ?_
  refine k_aload_n C rfl rfl rfl ?_
  refine c_SI C (e_L_count_no T_x h) rfl rfl rfl rfl rfl rfl rfl (Nat.le_of_ble_eq_true rfl) (Nat.le_of_ble_eq_true rfl) (Nat.le_of_ble_eq_true rfl) ?_
  rintro _ _ _ ⟨hx7, hI8, hL9⟩
  have hx7 := hx7.symm; subst hx7
  have hI8 := hI8.symm; subst hI8; have hL9 := hL9.symm; subst hL9
  refine k_istore C (lw := [(5, .int _), (4, .int _), (3, _), (2, _), (1, _), (0, _)]) rfl rfl (Nat.le_of_ble_eq_true rfl) rfl ?_
  refine k_aload_n C rfl rfl rfl ?_
  refine k_aload_n C rfl rfl rfl ?_
  refine k_iload C rfl rfl rfl ?_
  refine k_iconst C (x := 1) rfl rfl rfl ?_
  refine k_iadd C rfl rfl ?_
  refine ls_i hL (k := 1) rfl rfl (by unfold vp_in; decide) (by decide) ?_
  refine k_aload_n C rfl rfl rfl ?_
  refine k_iload C rfl rfl rfl ?_
  refine k_iconst C (x := 2) rfl rfl rfl ?_
  refine k_iadd C rfl rfl ?_
  refine ls_i hL (k := 2) rfl rfl (by unfold vp_in; decide) (by decide) ?_
  refine k_aload_n C rfl rfl rfl ?_
  refine k_iload C rfl rfl rfl ?_
  refine k_iconst C (x := 3) rfl rfl rfl ?_
  refine k_iadd C rfl rfl ?_
  refine ls_i hL (k := 3) rfl rfl (by unfold vp_in; decide) (by decide) ?_
  refine c_VL C (e_m_count_no T_m B_m h) rfl rfl rfl rfl rfl ⟨_, rfl, rfl, T_m, Nat.le_of_ble_eq_true rfl⟩ rfl rfl (Nat.le_of_ble_eq_true rfl) (Nat.le_of_ble_eq_true rfl) (Nat.le_of_ble_eq_true rfl) ?_
  intro x1231 I1231 L1231 h1231
  obtain ⟨f2, z2⟩ := h1231
  refine k_lstore C (lw := [(6, .long _), (5, .int _), (4, .int _), (3, _), (2, _), (1, _), (0, _)]) rfl rfl (Nat.le_of_ble_eq_true rfl) rfl ?_
  refine k_aload_n C rfl rfl rfl ?_
  refine c_VI C (e_thrown T_m ) rfl rfl rfl rfl rfl ⟨_, rfl, rfl, T_m, Nat.le_of_ble_eq_true rfl⟩ rfl rfl (Nat.le_of_ble_eq_true rfl) (Nat.le_of_ble_eq_true rfl) (Nat.le_of_ble_eq_true rfl) ?_
  rintro _ _ _ ⟨hx7, hI8, hL9⟩
  have hx7 := hx7.symm; subst hx7
  have hI8 := hI8.symm; subst hI8; have hL9 := hL9.symm; subst hL9
  rw [z2]
  refine k_iload C rfl rfl rfl ?_
  refine k_icmp_eq C (t := 1247) rfl rfl rfl (fun _ => ?_) (fun c1242 => absurd (by decide) c1242)
  refine k_iload C rfl rfl rfl ?_
  refine k_if_ne C (t := 1263) rfl rfl rfl (fun _ => ?_) (fun c1249 => absurd (by decide) c1249)
  refine k_goto C (pc2 := 2832) rfl rfl ?_
  exact law_tail C S hL (Nat.le_of_ble_eq_true rfl) (Nat.le_of_ble_eq_true rfl) (List.forall_mem_cons.mpr ⟨List.mem_of_getElem? (i := 2) rfl, List.forall_mem_cons.mpr ⟨List.mem_of_getElem? (i := 6) rfl, fun _ h => nomatch h⟩⟩)

set_option maxRecDepth 100000 in
theorem lc_17_a {d : Nat} {V : V_T} {b x m o rw wy wz : Nat} {xs : Nat → Int32} {T N : Nat → Nat} {I : IT} {L : LT} {R : RT} {A B : Nat → Prop} {r e n : Nat} (C : Cl (d + 3) q_law 600002 7302232 law_Po V) (S : SB V) (hL : LSc V b 6 xs) (T_x : T x = 12) (R_x_7 : R x 7 = some rw) (T_rw : T rw = 6) (R_rw_5 : R rw 5 = some wy) (T_wy : T wy = 21) (N_wy : N wy = 637) (A_wy : A wy) (T_o : T o = 21) (N_o : N o = 1) (A_o : A o) (T_m : T m = 13) (B_m : B m) (R_m_21 : R m 21 = some wz) (T_wz : T wz = 21) (N_wz : N wz = 1261) (B_wz : B wz) (nAB : ∀ a, B a → ¬ A a) (nBo : ¬ B o) (hrI : xs 1 = Int32.ofNat r) (heI : xs 2 = Int32.ofNat e) (hmI : xs 3 = Int32.ofNat n) (hr9 : r ≤ 12) (he1 : 1 ≤ e) (he : e ≤ 8) (hm : n ≤ 96) (hq : e * r < n) : V 1187 [(4, .int 0), (3, .ref o), (2, .ref m), (1, .ref x), (0, .ref b)] [] (T, N, I, L, R) 429 34606 := by
  refine k_aload_n C rfl rfl rfl ?_
  refine k_aload_n C rfl rfl rfl ?_
  refine k_iload C rfl rfl rfl ?_
  refine k_iconst C (x := 1) rfl rfl rfl ?_
  refine k_iadd C rfl rfl ?_
  refine ls_i hL (k := 1) rfl rfl (by unfold vp_in; decide) (by decide) ?_
  refine k_aload_n C rfl rfl rfl ?_
  refine k_iload C rfl rfl rfl ?_
  refine k_iconst C (x := 2) rfl rfl rfl ?_
  refine k_iadd C rfl rfl ?_
  refine ls_i hL (k := 2) rfl rfl (by unfold vp_in; decide) (by decide) ?_
  refine k_aload_n C rfl rfl rfl ?_
  refine k_iload C rfl rfl rfl ?_
  refine k_iconst C (x := 3) rfl rfl rfl ?_
  refine k_iadd C rfl rfl ?_
  refine ls_i hL (k := 3) rfl rfl (by unfold vp_in; decide) (by decide) ?_
  refine k_aload_n C rfl rfl rfl ?_
  refine c_SI C (e_L_count_a T_x R_x_7 T_rw R_rw_5 T_wy N_wy A_wy T_o N_o A_o hrI heI hmI hr9 he1 he hm hq) rfl rfl rfl rfl rfl rfl rfl (Nat.le_of_ble_eq_true rfl) (Nat.le_of_ble_eq_true rfl) (Nat.le_of_ble_eq_true rfl) ?_
  intro x1207 I1207 L1207 h1207
  obtain ⟨rfl, f1, v1⟩ := h1207
  refine k_istore C (lw := [(5, .int _), (4, .int _), (3, _), (2, _), (1, _), (0, _)]) rfl rfl (Nat.le_of_ble_eq_true rfl) rfl ?_
  refine k_aload_n C rfl rfl rfl ?_
  refine k_aload_n C rfl rfl rfl ?_
  refine k_iload C rfl rfl rfl ?_
  refine k_iconst C (x := 1) rfl rfl rfl ?_
  refine k_iadd C rfl rfl ?_
  refine ls_i hL (k := 1) rfl rfl (by unfold vp_in; decide) (by decide) ?_
  refine k_aload_n C rfl rfl rfl ?_
  refine k_iload C rfl rfl rfl ?_
  refine k_iconst C (x := 2) rfl rfl rfl ?_
  refine k_iadd C rfl rfl ?_
  refine ls_i hL (k := 2) rfl rfl (by unfold vp_in; decide) (by decide) ?_
  refine k_aload_n C rfl rfl rfl ?_
  refine k_iload C rfl rfl rfl ?_
  refine k_iconst C (x := 3) rfl rfl rfl ?_
  refine k_iadd C rfl rfl ?_
  refine ls_i hL (k := 3) rfl rfl (by unfold vp_in; decide) (by decide) ?_
  refine c_VL C (e_m_count_a T_m B_m R_m_21 T_wz N_wz B_wz hrI heI hmI hr9 he1 he hm hq) rfl rfl rfl rfl rfl ⟨_, rfl, rfl, T_m, Nat.le_of_ble_eq_true rfl⟩ rfl rfl (Nat.le_of_ble_eq_true rfl) (Nat.le_of_ble_eq_true rfl) (Nat.le_of_ble_eq_true rfl) ?_
  intro x1231 I1231 L1231 h1231
  obtain ⟨rfl, f2, z2⟩ := h1231
  refine k_lstore C (lw := [(6, .long _), (5, .int _), (4, .int _), (3, _), (2, _), (1, _), (0, _)]) rfl rfl (Nat.le_of_ble_eq_true rfl) rfl ?_
  refine k_aload_n C rfl rfl rfl ?_
  refine c_VI C (e_thrown T_m ) rfl rfl rfl rfl rfl ⟨_, rfl, rfl, T_m, Nat.le_of_ble_eq_true rfl⟩ rfl rfl (Nat.le_of_ble_eq_true rfl) (Nat.le_of_ble_eq_true rfl) (Nat.le_of_ble_eq_true rfl) ?_
  rintro _ _ _ ⟨hx7, hI8, hL9⟩
  have hx7 := hx7.symm; subst hx7
  have hI8 := hI8.symm; subst hI8; have hL9 := hL9.symm; subst hL9
  rw [z2]
  refine k_iload C rfl rfl rfl ?_
  refine k_icmp_eq C (t := 1247) rfl rfl rfl (fun _ => ?_) (fun c1242 => absurd (by decide) c1242)
  refine k_iload C rfl rfl rfl ?_
  refine k_if_ne C (t := 1263) rfl rfl rfl (fun c1249 => absurd c1249 (by decide)) (fun _ => ?_)
  refine k_aload_n C rfl rfl rfl ?_
  refine k_iconst C (x := 0) rfl rfl rfl ?_
  refine a_L C rfl rfl T_o (vin (n := 0) rfl (by rw [N_o]; exact Nat.le_of_ble_eq_true rfl) (by rw [N_o]; exact Nat.le_of_ble_eq_true rfl)) ((congrFun (f2 o nBo).2 0).trans v1) ?_
  refine k_lload C rfl rfl rfl ?_
  refine k_lcmp C rfl rfl ?_
  refine k_if_eq C (t := 1263) rfl rfl rfl (fun c1258 => ?_) (fun c1258 => ?_)
  · skip
    refine k_goto C (pc2 := 2832) rfl rfl ?_
    exact law_tail C S hL (Nat.le_of_ble_eq_true rfl) (Nat.le_of_ble_eq_true rfl) (List.forall_mem_cons.mpr ⟨List.mem_of_getElem? (i := 2) rfl, List.forall_mem_cons.mpr ⟨List.mem_of_getElem? (i := 6) rfl, fun _ h => nomatch h⟩⟩)
  exact absurd ((lg_cmp_eq _ _).mpr rfl) c1258

set_option maxRecDepth 100000 in
theorem lc_17_b {d : Nat} {V : V_T} {b x m o rw wy wz : Nat} {xs : Nat → Int32} {T N : Nat → Nat} {I : IT} {L : LT} {R : RT} {A B : Nat → Prop} {r e n : Nat} (C : Cl (d + 3) q_law 600002 7302232 law_Po V) (S : SB V) (hL : LSc V b 6 xs) (T_x : T x = 12) (R_x_7 : R x 7 = some rw) (T_rw : T rw = 6) (R_rw_5 : R rw 5 = some wy) (T_wy : T wy = 21) (N_wy : N wy = 637) (A_wy : A wy) (T_o : T o = 21) (N_o : N o = 1) (A_o : A o) (T_m : T m = 13) (B_m : B m) (R_m_21 : R m 21 = some wz) (T_wz : T wz = 21) (N_wz : N wz = 1261) (B_wz : B wz) (nAB : ∀ a, B a → ¬ A a) (nBo : ¬ B o) (hrI : xs 1 = Int32.ofNat r) (heI : xs 2 = Int32.ofNat e) (hmI : xs 3 = Int32.ofNat n) (hr9 : r ≤ 12) (he1 : 1 ≤ e) (he : e ≤ 8) (hm : n ≤ 96) (hge : n ≤ e * r) (hodd : (e * r - n) % 2 = 1) : V 1187 [(4, .int 0), (3, .ref o), (2, .ref m), (1, .ref x), (0, .ref b)] [] (T, N, I, L, R) 429 34606 := by
  refine k_aload_n C rfl rfl rfl ?_
  refine k_aload_n C rfl rfl rfl ?_
  refine k_iload C rfl rfl rfl ?_
  refine k_iconst C (x := 1) rfl rfl rfl ?_
  refine k_iadd C rfl rfl ?_
  refine ls_i hL (k := 1) rfl rfl (by unfold vp_in; decide) (by decide) ?_
  refine k_aload_n C rfl rfl rfl ?_
  refine k_iload C rfl rfl rfl ?_
  refine k_iconst C (x := 2) rfl rfl rfl ?_
  refine k_iadd C rfl rfl ?_
  refine ls_i hL (k := 2) rfl rfl (by unfold vp_in; decide) (by decide) ?_
  refine k_aload_n C rfl rfl rfl ?_
  refine k_iload C rfl rfl rfl ?_
  refine k_iconst C (x := 3) rfl rfl rfl ?_
  refine k_iadd C rfl rfl ?_
  refine ls_i hL (k := 3) rfl rfl (by unfold vp_in; decide) (by decide) ?_
  refine k_aload_n C rfl rfl rfl ?_
  refine c_SI C (e_L_count_b T_x R_x_7 T_rw R_rw_5 T_wy N_wy A_wy T_o N_o A_o hrI heI hmI hr9 he1 he hm hge hodd) rfl rfl rfl rfl rfl rfl rfl (Nat.le_of_ble_eq_true rfl) (Nat.le_of_ble_eq_true rfl) (Nat.le_of_ble_eq_true rfl) ?_
  intro x1207 I1207 L1207 h1207
  obtain ⟨rfl, f1, v1⟩ := h1207
  refine k_istore C (lw := [(5, .int _), (4, .int _), (3, _), (2, _), (1, _), (0, _)]) rfl rfl (Nat.le_of_ble_eq_true rfl) rfl ?_
  refine k_aload_n C rfl rfl rfl ?_
  refine k_aload_n C rfl rfl rfl ?_
  refine k_iload C rfl rfl rfl ?_
  refine k_iconst C (x := 1) rfl rfl rfl ?_
  refine k_iadd C rfl rfl ?_
  refine ls_i hL (k := 1) rfl rfl (by unfold vp_in; decide) (by decide) ?_
  refine k_aload_n C rfl rfl rfl ?_
  refine k_iload C rfl rfl rfl ?_
  refine k_iconst C (x := 2) rfl rfl rfl ?_
  refine k_iadd C rfl rfl ?_
  refine ls_i hL (k := 2) rfl rfl (by unfold vp_in; decide) (by decide) ?_
  refine k_aload_n C rfl rfl rfl ?_
  refine k_iload C rfl rfl rfl ?_
  refine k_iconst C (x := 3) rfl rfl rfl ?_
  refine k_iadd C rfl rfl ?_
  refine ls_i hL (k := 3) rfl rfl (by unfold vp_in; decide) (by decide) ?_
  refine c_VL C (e_m_count_b T_m B_m R_m_21 T_wz N_wz B_wz hrI heI hmI hr9 he1 he hm hge hodd) rfl rfl rfl rfl rfl ⟨_, rfl, rfl, T_m, Nat.le_of_ble_eq_true rfl⟩ rfl rfl (Nat.le_of_ble_eq_true rfl) (Nat.le_of_ble_eq_true rfl) (Nat.le_of_ble_eq_true rfl) ?_
  intro x1231 I1231 L1231 h1231
  obtain ⟨rfl, f2, z2⟩ := h1231
  refine k_lstore C (lw := [(6, .long _), (5, .int _), (4, .int _), (3, _), (2, _), (1, _), (0, _)]) rfl rfl (Nat.le_of_ble_eq_true rfl) rfl ?_
  refine k_aload_n C rfl rfl rfl ?_
  refine c_VI C (e_thrown T_m ) rfl rfl rfl rfl rfl ⟨_, rfl, rfl, T_m, Nat.le_of_ble_eq_true rfl⟩ rfl rfl (Nat.le_of_ble_eq_true rfl) (Nat.le_of_ble_eq_true rfl) (Nat.le_of_ble_eq_true rfl) ?_
  rintro _ _ _ ⟨hx7, hI8, hL9⟩
  have hx7 := hx7.symm; subst hx7
  have hI8 := hI8.symm; subst hI8; have hL9 := hL9.symm; subst hL9
  rw [z2]
  refine k_iload C rfl rfl rfl ?_
  refine k_icmp_eq C (t := 1247) rfl rfl rfl (fun _ => ?_) (fun c1242 => absurd (by decide) c1242)
  refine k_iload C rfl rfl rfl ?_
  refine k_if_ne C (t := 1263) rfl rfl rfl (fun c1249 => absurd c1249 (by decide)) (fun _ => ?_)
  refine k_aload_n C rfl rfl rfl ?_
  refine k_iconst C (x := 0) rfl rfl rfl ?_
  refine a_L C rfl rfl T_o (vin (n := 0) rfl (by rw [N_o]; exact Nat.le_of_ble_eq_true rfl) (by rw [N_o]; exact Nat.le_of_ble_eq_true rfl)) ((congrFun (f2 o nBo).2 0).trans v1) ?_
  refine k_lload C rfl rfl rfl ?_
  refine k_lcmp C rfl rfl ?_
  refine k_if_eq C (t := 1263) rfl rfl rfl (fun c1258 => ?_) (fun c1258 => ?_)
  · skip
    refine k_goto C (pc2 := 2832) rfl rfl ?_
    exact law_tail C S hL (Nat.le_of_ble_eq_true rfl) (Nat.le_of_ble_eq_true rfl) (List.forall_mem_cons.mpr ⟨List.mem_of_getElem? (i := 2) rfl, List.forall_mem_cons.mpr ⟨List.mem_of_getElem? (i := 6) rfl, fun _ h => nomatch h⟩⟩)
  exact absurd ((lg_cmp_eq _ _).mpr rfl) c1258

set_option maxRecDepth 100000 in
theorem lc_17_c {d : Nat} {V : V_T} {b x m o rw wy wz : Nat} {xs : Nat → Int32} {T N : Nat → Nat} {I : IT} {L : LT} {R : RT} {A B : Nat → Prop} {r e n : Nat} (C : Cl (d + 5) q_law 600002 7302232 law_Po V) (S : SB V) (hL : LSc V b 6 xs) (T_x : T x = 12) (R_x_7 : R x 7 = some rw) (T_rw : T rw = 6) (R_rw_5 : R rw 5 = some wy) (T_wy : T wy = 21) (N_wy : N wy = 637) (A_wy : A wy) (T_o : T o = 21) (N_o : N o = 1) (A_o : A o) (T_m : T m = 13) (B_m : B m) (R_m_21 : R m 21 = some wz) (T_wz : T wz = 21) (N_wz : N wz = 1261) (B_wz : B wz) (nAB : ∀ a, B a → ¬ A a) (nBo : ¬ B o) (hrI : xs 1 = Int32.ofNat r) (heI : xs 2 = Int32.ofNat e) (hmI : xs 3 = Int32.ofNat n) (hr9 : r ≤ 12) (he1 : 1 ≤ e) (he : e ≤ 8) (hm : n ≤ 96) (hge : n ≤ e * r) (hev : (e * r - n) % 2 = 0) (hz : (e * r - n) / 2 = 0) : V 1187 [(4, .int 0), (3, .ref o), (2, .ref m), (1, .ref x), (0, .ref b)] [] (T, N, I, L, R) 429 34606 := by
  refine k_aload_n C rfl rfl rfl ?_
  refine k_aload_n C rfl rfl rfl ?_
  refine k_iload C rfl rfl rfl ?_
  refine k_iconst C (x := 1) rfl rfl rfl ?_
  refine k_iadd C rfl rfl ?_
  refine ls_i hL (k := 1) rfl rfl (by unfold vp_in; decide) (by decide) ?_
  refine k_aload_n C rfl rfl rfl ?_
  refine k_iload C rfl rfl rfl ?_
  refine k_iconst C (x := 2) rfl rfl rfl ?_
  refine k_iadd C rfl rfl ?_
  refine ls_i hL (k := 2) rfl rfl (by unfold vp_in; decide) (by decide) ?_
  refine k_aload_n C rfl rfl rfl ?_
  refine k_iload C rfl rfl rfl ?_
  refine k_iconst C (x := 3) rfl rfl rfl ?_
  refine k_iadd C rfl rfl ?_
  refine ls_i hL (k := 3) rfl rfl (by unfold vp_in; decide) (by decide) ?_
  refine k_aload_n C rfl rfl rfl ?_
  refine c_SI C (e_L_count_c T_x R_x_7 T_rw R_rw_5 T_wy N_wy A_wy T_o N_o A_o hrI heI hmI hr9 he1 he hm hge hev hz) rfl rfl rfl rfl rfl rfl rfl (Nat.le_of_ble_eq_true rfl) (Nat.le_of_ble_eq_true rfl) (Nat.le_of_ble_eq_true rfl) ?_
  intro x1207 I1207 L1207 h1207
  obtain ⟨rfl, f1, v1⟩ := h1207
  refine k_istore C (lw := [(5, .int _), (4, .int _), (3, _), (2, _), (1, _), (0, _)]) rfl rfl (Nat.le_of_ble_eq_true rfl) rfl ?_
  refine k_aload_n C rfl rfl rfl ?_
  refine k_aload_n C rfl rfl rfl ?_
  refine k_iload C rfl rfl rfl ?_
  refine k_iconst C (x := 1) rfl rfl rfl ?_
  refine k_iadd C rfl rfl ?_
  refine ls_i hL (k := 1) rfl rfl (by unfold vp_in; decide) (by decide) ?_
  refine k_aload_n C rfl rfl rfl ?_
  refine k_iload C rfl rfl rfl ?_
  refine k_iconst C (x := 2) rfl rfl rfl ?_
  refine k_iadd C rfl rfl ?_
  refine ls_i hL (k := 2) rfl rfl (by unfold vp_in; decide) (by decide) ?_
  refine k_aload_n C rfl rfl rfl ?_
  refine k_iload C rfl rfl rfl ?_
  refine k_iconst C (x := 3) rfl rfl rfl ?_
  refine k_iadd C rfl rfl ?_
  refine ls_i hL (k := 3) rfl rfl (by unfold vp_in; decide) (by decide) ?_
  refine c_VL C (e_m_count_c T_m B_m R_m_21 T_wz N_wz B_wz hrI heI hmI hr9 he1 he hm hge hev hz) rfl rfl rfl rfl rfl ⟨_, rfl, rfl, T_m, Nat.le_of_ble_eq_true rfl⟩ rfl rfl (Nat.le_of_ble_eq_true rfl) (Nat.le_of_ble_eq_true rfl) (Nat.le_of_ble_eq_true rfl) ?_
  intro x1231 I1231 L1231 h1231
  obtain ⟨rfl, f2, z2⟩ := h1231
  refine k_lstore C (lw := [(6, .long _), (5, .int _), (4, .int _), (3, _), (2, _), (1, _), (0, _)]) rfl rfl (Nat.le_of_ble_eq_true rfl) rfl ?_
  refine k_aload_n C rfl rfl rfl ?_
  refine c_VI C (e_thrown T_m ) rfl rfl rfl rfl rfl ⟨_, rfl, rfl, T_m, Nat.le_of_ble_eq_true rfl⟩ rfl rfl (Nat.le_of_ble_eq_true rfl) (Nat.le_of_ble_eq_true rfl) (Nat.le_of_ble_eq_true rfl) ?_
  rintro _ _ _ ⟨hx7, hI8, hL9⟩
  have hx7 := hx7.symm; subst hx7
  have hI8 := hI8.symm; subst hI8; have hL9 := hL9.symm; subst hL9
  rw [z2]
  refine k_iload C rfl rfl rfl ?_
  refine k_icmp_eq C (t := 1247) rfl rfl rfl (fun _ => ?_) (fun c1242 => absurd (by decide) c1242)
  refine k_iload C rfl rfl rfl ?_
  refine k_if_ne C (t := 1263) rfl rfl rfl (fun c1249 => absurd c1249 (by decide)) (fun _ => ?_)
  refine k_aload_n C rfl rfl rfl ?_
  refine k_iconst C (x := 0) rfl rfl rfl ?_
  refine a_L C rfl rfl T_o (vin (n := 0) rfl (by rw [N_o]; exact Nat.le_of_ble_eq_true rfl) (by rw [N_o]; exact Nat.le_of_ble_eq_true rfl)) ((congrFun (f2 o nBo).2 0).trans v1) ?_
  refine k_lload C rfl rfl rfl ?_
  refine k_lcmp C rfl rfl ?_
  refine k_if_eq C (t := 1263) rfl rfl rfl (fun c1258 => ?_) (fun c1258 => ?_)
  · skip
    refine k_goto C (pc2 := 2832) rfl rfl ?_
    exact law_tail C S hL (Nat.le_of_ble_eq_true rfl) (Nat.le_of_ble_eq_true rfl) (List.forall_mem_cons.mpr ⟨List.mem_of_getElem? (i := 2) rfl, List.forall_mem_cons.mpr ⟨List.mem_of_getElem? (i := 6) rfl, fun _ h => nomatch h⟩⟩)
  exact absurd ((lg_cmp_eq _ _).mpr rfl) c1258

set_option maxRecDepth 100000 in
theorem lc_17_d {d : Nat} {V : V_T} {b x m o rw wy wz : Nat} {xs : Nat → Int32} {T N : Nat → Nat} {I : IT} {L : LT} {R : RT} {A B : Nat → Prop} {r e n : Nat} (C : Cl (d + 5) q_law 600002 7302232 law_Po V) (S : SB V) (hL : LSc V b 6 xs) (T_x : T x = 12) (R_x_7 : R x 7 = some rw) (T_rw : T rw = 6) (R_rw_5 : R rw 5 = some wy) (T_wy : T wy = 21) (N_wy : N wy = 637) (A_wy : A wy) (T_o : T o = 21) (N_o : N o = 1) (A_o : A o) (T_m : T m = 13) (B_m : B m) (R_m_21 : R m 21 = some wz) (T_wz : T wz = 21) (N_wz : N wz = 1261) (B_wz : B wz) (nAB : ∀ a, B a → ¬ A a) (nBo : ¬ B o) (hrI : xs 1 = Int32.ofNat r) (heI : xs 2 = Int32.ofNat e) (hmI : xs 3 = Int32.ofNat n) (hr9 : r ≤ 12) (he1 : 1 ≤ e) (he : e ≤ 8) (hm : n ≤ 96) (hge : n ≤ e * r) (hev : (e * r - n) % 2 = 0) (hz : 1 ≤ (e * r - n) / 2) : V 1187 [(4, .int 0), (3, .ref o), (2, .ref m), (1, .ref x), (0, .ref b)] [] (T, N, I, L, R) 429 34606 := by
  refine k_aload_n C rfl rfl rfl ?_
  refine k_aload_n C rfl rfl rfl ?_
  refine k_iload C rfl rfl rfl ?_
  refine k_iconst C (x := 1) rfl rfl rfl ?_
  refine k_iadd C rfl rfl ?_
  refine ls_i hL (k := 1) rfl rfl (by unfold vp_in; decide) (by decide) ?_
  refine k_aload_n C rfl rfl rfl ?_
  refine k_iload C rfl rfl rfl ?_
  refine k_iconst C (x := 2) rfl rfl rfl ?_
  refine k_iadd C rfl rfl ?_
  refine ls_i hL (k := 2) rfl rfl (by unfold vp_in; decide) (by decide) ?_
  refine k_aload_n C rfl rfl rfl ?_
  refine k_iload C rfl rfl rfl ?_
  refine k_iconst C (x := 3) rfl rfl rfl ?_
  refine k_iadd C rfl rfl ?_
  refine ls_i hL (k := 3) rfl rfl (by unfold vp_in; decide) (by decide) ?_
  refine k_aload_n C rfl rfl rfl ?_
  refine c_SI C (e_L_count_d T_x R_x_7 T_rw R_rw_5 T_wy N_wy A_wy T_o N_o A_o hrI heI hmI hr9 he1 he hm hge hev hz) rfl rfl rfl rfl rfl rfl rfl (Nat.le_of_ble_eq_true rfl) (Nat.le_of_ble_eq_true rfl) (Nat.le_of_ble_eq_true rfl) ?_
  intro x1207 I1207 L1207 h1207
  obtain ⟨rfl, f1, v1⟩ := h1207
  refine k_istore C (lw := [(5, .int _), (4, .int _), (3, _), (2, _), (1, _), (0, _)]) rfl rfl (Nat.le_of_ble_eq_true rfl) rfl ?_
  refine k_aload_n C rfl rfl rfl ?_
  refine k_aload_n C rfl rfl rfl ?_
  refine k_iload C rfl rfl rfl ?_
  refine k_iconst C (x := 1) rfl rfl rfl ?_
  refine k_iadd C rfl rfl ?_
  refine ls_i hL (k := 1) rfl rfl (by unfold vp_in; decide) (by decide) ?_
  refine k_aload_n C rfl rfl rfl ?_
  refine k_iload C rfl rfl rfl ?_
  refine k_iconst C (x := 2) rfl rfl rfl ?_
  refine k_iadd C rfl rfl ?_
  refine ls_i hL (k := 2) rfl rfl (by unfold vp_in; decide) (by decide) ?_
  refine k_aload_n C rfl rfl rfl ?_
  refine k_iload C rfl rfl rfl ?_
  refine k_iconst C (x := 3) rfl rfl rfl ?_
  refine k_iadd C rfl rfl ?_
  refine ls_i hL (k := 3) rfl rfl (by unfold vp_in; decide) (by decide) ?_
  refine c_VL C (e_m_count_d T_m B_m R_m_21 T_wz N_wz B_wz hrI heI hmI hr9 he1 he hm hge hev hz) rfl rfl rfl rfl rfl ⟨_, rfl, rfl, T_m, Nat.le_of_ble_eq_true rfl⟩ rfl rfl (Nat.le_of_ble_eq_true rfl) (Nat.le_of_ble_eq_true rfl) (Nat.le_of_ble_eq_true rfl) ?_
  intro x1231 I1231 L1231 h1231
  obtain ⟨rfl, f2, z2⟩ := h1231
  refine k_lstore C (lw := [(6, .long _), (5, .int _), (4, .int _), (3, _), (2, _), (1, _), (0, _)]) rfl rfl (Nat.le_of_ble_eq_true rfl) rfl ?_
  refine k_aload_n C rfl rfl rfl ?_
  refine c_VI C (e_thrown T_m ) rfl rfl rfl rfl rfl ⟨_, rfl, rfl, T_m, Nat.le_of_ble_eq_true rfl⟩ rfl rfl (Nat.le_of_ble_eq_true rfl) (Nat.le_of_ble_eq_true rfl) (Nat.le_of_ble_eq_true rfl) ?_
  rintro _ _ _ ⟨hx7, hI8, hL9⟩
  have hx7 := hx7.symm; subst hx7
  have hI8 := hI8.symm; subst hI8; have hL9 := hL9.symm; subst hL9
  rw [z2]
  refine k_iload C rfl rfl rfl ?_
  refine k_icmp_eq C (t := 1247) rfl rfl rfl (fun _ => ?_) (fun c1242 => absurd (by decide) c1242)
  refine k_iload C rfl rfl rfl ?_
  refine k_if_ne C (t := 1263) rfl rfl rfl (fun c1249 => absurd c1249 (by decide)) (fun _ => ?_)
  refine k_aload_n C rfl rfl rfl ?_
  refine k_iconst C (x := 0) rfl rfl rfl ?_
  refine a_L C rfl rfl T_o (vin (n := 0) rfl (by rw [N_o]; exact Nat.le_of_ble_eq_true rfl) (by rw [N_o]; exact Nat.le_of_ble_eq_true rfl)) ((congrFun (f2 o nBo).2 0).trans v1) ?_
  refine k_lload C rfl rfl rfl ?_
  refine k_lcmp C rfl rfl ?_
  refine k_if_eq C (t := 1263) rfl rfl rfl (fun c1258 => ?_) (fun c1258 => ?_)
  · skip
    refine k_goto C (pc2 := 2832) rfl rfl ?_
    exact law_tail C S hL (Nat.le_of_ble_eq_true rfl) (Nat.le_of_ble_eq_true rfl) (List.forall_mem_cons.mpr ⟨List.mem_of_getElem? (i := 2) rfl, List.forall_mem_cons.mpr ⟨List.mem_of_getElem? (i := 6) rfl, fun _ h => nomatch h⟩⟩)
  exact absurd ((lg_cmp_eq _ _).mpr rfl) c1258

set_option maxRecDepth 100000 in
theorem lc_18_no {d : Nat} {V : V_T} {b x m o : Nat} {xs : Nat → Int32} {T N : Nat → Nat} {I : IT} {L : LT} {R : RT} {A B : Nat → Prop}  (C : Cl (d + 3) q_law 600002 7302232 law_Po V) (S : SB V) (hL : LSc V b 6 xs) (T_x : T x = 12) (T_m : T m = 13) (B_m : B m) (h : ¬ (1 ≤ xs 2 ∧ xs 2 ≤ 8)) : V 1266 [(4, .int 0), (3, .ref o), (2, .ref m), (1, .ref x), (0, .ref b)] [] (T, N, I, L, R) 429 34606 := by
  refine k_aload_n C rfl rfl rfl ?_
  refine k_aload_n C rfl rfl rfl ?_
  refine k_iload C rfl rfl rfl ?_
  refine k_iconst C (x := 1) rfl rfl rfl ?_
  refine k_iadd C rfl rfl ?_
  refine ls_i hL (k := 1) rfl rfl (by unfold vp_in; decide) (by decide) ?_
  refine k_aload_n C rfl rfl rfl ?_
  refine k_iload C rfl rfl rfl ?_
  refine k_iconst C (x := 2) rfl rfl rfl ?_
  refine k_iadd C rfl rfl ?_
  refine ls_i hL (k := 2) rfl rfl (by unfold vp_in; decide) (by decide) ?_
  refine k_aload_n C rfl rfl rfl ?_
  refine k_iload C rfl rfl rfl ?_
  refine k_iconst C (x := 3) rfl rfl rfl ?_
  refine k_iadd C rfl rfl ?_
  refine ls_i hL (k := 3) rfl rfl (by unfold vp_in; decide) (by decide) ?_
  refine k_aload_n C rfl rfl rfl ?_
  refine c_SI C (e_L_span_no T_x h) rfl rfl rfl rfl rfl rfl rfl (Nat.le_of_ble_eq_true rfl) (Nat.le_of_ble_eq_true rfl) (Nat.le_of_ble_eq_true rfl) ?_
  rintro _ _ _ ⟨hx7, hI8, hL9⟩
  have hx7 := hx7.symm; subst hx7
  have hI8 := hI8.symm; subst hI8; have hL9 := hL9.symm; subst hL9
  refine k_istore C (lw := [(5, .int _), (4, .int _), (3, _), (2, _), (1, _), (0, _)]) rfl rfl (Nat.le_of_ble_eq_true rfl) rfl ?_
  refine k_aload_n C rfl rfl rfl ?_
  refine k_aload_n C rfl rfl rfl ?_
  refine k_iload C rfl rfl rfl ?_
  refine k_iconst C (x := 1) rfl rfl rfl ?_
  refine k_iadd C rfl rfl ?_
  refine ls_i hL (k := 1) rfl rfl (by unfold vp_in; decide) (by decide) ?_
  refine k_aload_n C rfl rfl rfl ?_
  refine k_iload C rfl rfl rfl ?_
  refine k_iconst C (x := 2) rfl rfl rfl ?_
  refine k_iadd C rfl rfl ?_
  refine ls_i hL (k := 2) rfl rfl (by unfold vp_in; decide) (by decide) ?_
  refine k_aload_n C rfl rfl rfl ?_
  refine k_iload C rfl rfl rfl ?_
  refine k_iconst C (x := 3) rfl rfl rfl ?_
  refine k_iadd C rfl rfl ?_
  refine ls_i hL (k := 3) rfl rfl (by unfold vp_in; decide) (by decide) ?_
  refine c_VI C (e_m_span_no T_m B_m h) rfl rfl rfl rfl rfl ⟨_, rfl, rfl, T_m, Nat.le_of_ble_eq_true rfl⟩ rfl rfl (Nat.le_of_ble_eq_true rfl) (Nat.le_of_ble_eq_true rfl) (Nat.le_of_ble_eq_true rfl) ?_
  intro x1310 I1310 L1310 h1310
  obtain ⟨f2, z2⟩ := h1310
  refine k_istore C (lw := [(6, .int _), (5, .int _), (4, .int _), (3, _), (2, _), (1, _), (0, _)]) rfl rfl (Nat.le_of_ble_eq_true rfl) rfl ?_
  refine k_aload_n C rfl rfl rfl ?_
  refine c_VI C (e_thrown T_m ) rfl rfl rfl rfl rfl ⟨_, rfl, rfl, T_m, Nat.le_of_ble_eq_true rfl⟩ rfl rfl (Nat.le_of_ble_eq_true rfl) (Nat.le_of_ble_eq_true rfl) (Nat.le_of_ble_eq_true rfl) ?_
  rintro _ _ _ ⟨hx7, hI8, hL9⟩
  have hx7 := hx7.symm; subst hx7
  have hI8 := hI8.symm; subst hI8; have hL9 := hL9.symm; subst hL9
  rw [z2]
  refine k_iload C rfl rfl rfl ?_
  refine k_icmp_eq C (t := 1326) rfl rfl rfl (fun _ => ?_) (fun c1321 => absurd (by decide) c1321)
  refine k_iload C rfl rfl rfl ?_
  refine k_if_ne C (t := 1343) rfl rfl rfl (fun _ => ?_) (fun c1328 => absurd (by decide) c1328)
  refine k_goto C (pc2 := 2832) rfl rfl ?_
  exact law_tail C S hL (Nat.le_of_ble_eq_true rfl) (Nat.le_of_ble_eq_true rfl) (List.forall_mem_cons.mpr ⟨List.mem_of_getElem? (i := 2) rfl, List.forall_mem_cons.mpr ⟨List.mem_of_getElem? (i := 6) rfl, fun _ h => nomatch h⟩⟩)

set_option maxRecDepth 100000 in
theorem lc_18_yes {d : Nat} {V : V_T} {b x m o nw rw dr al w dn : Nat} {xs : Nat → Int32} {T N : Nat → Nat} {I : IT} {L : LT} {R : RT} {A B : Nat → Prop} {n : Nat} (C : Cl (d + 7) q_law 600002 7302232 law_Po V) (S : SB V) (hL : LSc V b 6 xs) (T_x : T x = 12) (R_x_1 : R x 1 = some nw) (R_x_7 : R x 7 = some rw) (T_rw : T rw = 6) (R_rw_2 : R rw 2 = some dr) (T_dr : T dr = 23) (R_rw_0 : R rw 0 = some al) (T_al : T al = 1) (R_al_0 : R al 0 = some nw) (T_nw : T nw = 9) (I_nw_0 : I nw 0 = 11) (A_rw : A rw) (I_nw_3 : I nw 3 = 0) (T_o : T o = 21) (N_o : N o = 1) (A_o : A o) (T_m : T m = 13) (R_m_1 : R m 1 = some w) (T_w : T w = 20) (N_w : N w = 4007) (R_m_23 : R m 23 = some dn) (T_dn : T dn = 20) (N_dn : N dn = 108) (I_w_0 : I w 0 = 11) (I_w_3 : I w 3 = 0) (B_m : B m) (B_dn : B dn) (B_w : B w) (nAB : ∀ a, B a → ¬ A a) (nBo : ¬ B o) (hrow : cRow T N R A dr 12) (hfd : xs 2 = Int32.ofNat n) (hn : n ≤ 8) (hwd : w ≠ dn) (h : 1 ≤ xs 2 ∧ xs 2 ≤ 8) : V 1266 [(4, .int 0), (3, .ref o), (2, .ref m), (1, .ref x), (0, .ref b)] [] (T, N, I, L, R) 429 34606 := by
  refine k_aload_n C rfl rfl rfl ?_
  refine k_aload_n C rfl rfl rfl ?_
  refine k_iload C rfl rfl rfl ?_
  refine k_iconst C (x := 1) rfl rfl rfl ?_
  refine k_iadd C rfl rfl ?_
  refine ls_i hL (k := 1) rfl rfl (by unfold vp_in; decide) (by decide) ?_
  refine k_aload_n C rfl rfl rfl ?_
  refine k_iload C rfl rfl rfl ?_
  refine k_iconst C (x := 2) rfl rfl rfl ?_
  refine k_iadd C rfl rfl ?_
  refine ls_i hL (k := 2) rfl rfl (by unfold vp_in; decide) (by decide) ?_
  refine k_aload_n C rfl rfl rfl ?_
  refine k_iload C rfl rfl rfl ?_
  refine k_iconst C (x := 3) rfl rfl rfl ?_
  refine k_iadd C rfl rfl ?_
  refine ls_i hL (k := 3) rfl rfl (by unfold vp_in; decide) (by decide) ?_
  refine k_aload_n C rfl rfl rfl ?_
  refine c_SI C (e_L_span_yes T_x R_x_1 R_x_7 T_rw R_rw_2 T_dr R_rw_0 T_al R_al_0 T_nw (I_nw_0) A_rw (I_nw_3) T_o N_o A_o (by decide) (by decide) hrow h) rfl rfl rfl rfl rfl rfl rfl (Nat.le_of_ble_eq_true rfl) (Nat.le_of_ble_eq_true rfl) (Nat.le_of_ble_eq_true rfl) ?_
  intro x1286 I1286 L1286 h1286
  obtain ⟨rfl, f1, v1⟩ := h1286
  refine k_istore C (lw := [(5, .int _), (4, .int _), (3, _), (2, _), (1, _), (0, _)]) rfl rfl (Nat.le_of_ble_eq_true rfl) rfl ?_
  refine k_aload_n C rfl rfl rfl ?_
  refine k_aload_n C rfl rfl rfl ?_
  refine k_iload C rfl rfl rfl ?_
  refine k_iconst C (x := 1) rfl rfl rfl ?_
  refine k_iadd C rfl rfl ?_
  refine ls_i hL (k := 1) rfl rfl (by unfold vp_in; decide) (by decide) ?_
  refine k_aload_n C rfl rfl rfl ?_
  refine k_iload C rfl rfl rfl ?_
  refine k_iconst C (x := 2) rfl rfl rfl ?_
  refine k_iadd C rfl rfl ?_
  refine ls_i hL (k := 2) rfl rfl (by unfold vp_in; decide) (by decide) ?_
  refine k_aload_n C rfl rfl rfl ?_
  refine k_iload C rfl rfl rfl ?_
  refine k_iconst C (x := 3) rfl rfl rfl ?_
  refine k_iadd C rfl rfl ?_
  refine ls_i hL (k := 3) rfl rfl (by unfold vp_in; decide) (by decide) ?_
  refine c_VI C (e_m_span_yes T_m R_m_1 T_w N_w R_m_23 T_dn N_dn (((congrFun (f1 w (nAB w B_w)).1 0).trans I_w_0)) (((congrFun (f1 w (nAB w B_w)).1 3).trans I_w_3)) B_m B_dn (by decide) (by decide) hfd hn hwd h) rfl rfl rfl rfl rfl ⟨_, rfl, rfl, T_m, Nat.le_of_ble_eq_true rfl⟩ rfl rfl (Nat.le_of_ble_eq_true rfl) (Nat.le_of_ble_eq_true rfl) (Nat.le_of_ble_eq_true rfl) ?_
  intro x1310 I1310 L1310 h1310
  obtain ⟨rfl, f2, z2⟩ := h1310
  refine k_istore C (lw := [(6, .int _), (5, .int _), (4, .int _), (3, _), (2, _), (1, _), (0, _)]) rfl rfl (Nat.le_of_ble_eq_true rfl) rfl ?_
  refine k_aload_n C rfl rfl rfl ?_
  refine c_VI C (e_thrown T_m ) rfl rfl rfl rfl rfl ⟨_, rfl, rfl, T_m, Nat.le_of_ble_eq_true rfl⟩ rfl rfl (Nat.le_of_ble_eq_true rfl) (Nat.le_of_ble_eq_true rfl) (Nat.le_of_ble_eq_true rfl) ?_
  rintro _ _ _ ⟨hx7, hI8, hL9⟩
  have hx7 := hx7.symm; subst hx7
  have hI8 := hI8.symm; subst hI8; have hL9 := hL9.symm; subst hL9
  rw [z2]
  refine k_iload C rfl rfl rfl ?_
  refine k_icmp_eq C (t := 1326) rfl rfl rfl (fun _ => ?_) (fun c1321 => absurd (by decide) c1321)
  refine k_iload C rfl rfl rfl ?_
  refine k_if_ne C (t := 1343) rfl rfl rfl (fun c1328 => absurd c1328 (by decide)) (fun _ => ?_)
  refine k_aload_n C rfl rfl rfl ?_
  refine k_iconst C (x := 0) rfl rfl rfl ?_
  refine a_L C rfl rfl T_o (vin (n := 0) rfl (by rw [N_o]; exact Nat.le_of_ble_eq_true rfl) (by rw [N_o]; exact Nat.le_of_ble_eq_true rfl)) ((congrFun (f2 o nBo).2 0).trans v1) ?_
  refine k_iload C rfl rfl rfl ?_
  refine k_i2l C rfl rfl ?_
  refine k_lcmp C rfl rfl ?_
  refine k_if_eq C (t := 1343) rfl rfl rfl (fun c1338 => ?_) (fun c1338 => ?_)
  · skip
    refine k_goto C (pc2 := 2832) rfl rfl ?_
    exact law_tail C S hL (Nat.le_of_ble_eq_true rfl) (Nat.le_of_ble_eq_true rfl) (List.forall_mem_cons.mpr ⟨List.mem_of_getElem? (i := 2) rfl, List.forall_mem_cons.mpr ⟨List.mem_of_getElem? (i := 6) rfl, fun _ h => nomatch h⟩⟩)
  exact absurd ((lg_cmp_eq _ _).mpr rfl) c1338

set_option maxRecDepth 100000 in
theorem lc_19_no {d : Nat} {V : V_T} {b x m o : Nat} {xs : Nat → Int32} {T N : Nat → Nat} {I : IT} {L : LT} {R : RT} {A B : Nat → Prop}  (C : Cl (d + 3) q_law 600002 7302232 law_Po V) (S : SB V) (hL : LSc V b 6 xs) (T_x : T x = 12) (T_m : T m = 13) (B_m : B m) (h : ¬ (1 ≤ xs 2 ∧ xs 2 ≤ 8)) : V 1346 [(4, .int 0), (3, .ref o), (2, .ref m), (1, .ref x), (0, .ref b)] [] (T, N, I, L, R) 429 34606 := by
  refine k_aload_n C rfl rfl rfl ?_
  refine k_aload_n C rfl rfl rfl ?_
  refine k_iload C rfl rfl rfl ?_
  refine k_iconst C (x := 1) rfl rfl rfl ?_
  refine k_iadd C rfl rfl ?_
  refine ls_i hL (k := 1) rfl rfl (by unfold vp_in; decide) (by decide) ?_
  refine k_aload_n C rfl rfl rfl ?_
  refine k_iload C rfl rfl rfl ?_
  refine k_iconst C (x := 2) rfl rfl rfl ?_
  refine k_iadd C rfl rfl ?_
  refine ls_i hL (k := 2) rfl rfl (by unfold vp_in; decide) (by decide) ?_
  refine k_aload_n C rfl rfl rfl ?_
  refine k_iload C rfl rfl rfl ?_
  refine k_iconst C (x := 3) rfl rfl rfl ?_
  refine k_iadd C rfl rfl ?_
  refine ls_i hL (k := 3) rfl rfl (by unfold vp_in; decide) (by decide) ?_
  refine k_aload_n C rfl rfl rfl ?_
  refine c_SI C (e_L_basis_no T_x h) rfl rfl rfl rfl rfl rfl rfl (Nat.le_of_ble_eq_true rfl) (Nat.le_of_ble_eq_true rfl) (Nat.le_of_ble_eq_true rfl) ?_
  rintro _ _ _ ⟨hx7, hI8, hL9⟩
  have hx7 := hx7.symm; subst hx7
  have hI8 := hI8.symm; subst hI8; have hL9 := hL9.symm; subst hL9
  refine k_istore C (lw := [(5, .int _), (4, .int _), (3, _), (2, _), (1, _), (0, _)]) rfl rfl (Nat.le_of_ble_eq_true rfl) rfl ?_
  refine k_aload_n C rfl rfl rfl ?_
  refine k_aload_n C rfl rfl rfl ?_
  refine k_iload C rfl rfl rfl ?_
  refine k_iconst C (x := 1) rfl rfl rfl ?_
  refine k_iadd C rfl rfl ?_
  refine ls_i hL (k := 1) rfl rfl (by unfold vp_in; decide) (by decide) ?_
  refine k_aload_n C rfl rfl rfl ?_
  refine k_iload C rfl rfl rfl ?_
  refine k_iconst C (x := 2) rfl rfl rfl ?_
  refine k_iadd C rfl rfl ?_
  refine ls_i hL (k := 2) rfl rfl (by unfold vp_in; decide) (by decide) ?_
  refine k_aload_n C rfl rfl rfl ?_
  refine k_iload C rfl rfl rfl ?_
  refine k_iconst C (x := 3) rfl rfl rfl ?_
  refine k_iadd C rfl rfl ?_
  refine ls_i hL (k := 3) rfl rfl (by unfold vp_in; decide) (by decide) ?_
  refine c_VI C (e_m_basis_no T_m B_m h) rfl rfl rfl rfl rfl ⟨_, rfl, rfl, T_m, Nat.le_of_ble_eq_true rfl⟩ rfl rfl (Nat.le_of_ble_eq_true rfl) (Nat.le_of_ble_eq_true rfl) (Nat.le_of_ble_eq_true rfl) ?_
  intro x1390 I1390 L1390 h1390
  obtain ⟨f2, z2⟩ := h1390
  refine k_istore C (lw := [(6, .int _), (5, .int _), (4, .int _), (3, _), (2, _), (1, _), (0, _)]) rfl rfl (Nat.le_of_ble_eq_true rfl) rfl ?_
  refine k_aload_n C rfl rfl rfl ?_
  refine c_VI C (e_thrown T_m ) rfl rfl rfl rfl rfl ⟨_, rfl, rfl, T_m, Nat.le_of_ble_eq_true rfl⟩ rfl rfl (Nat.le_of_ble_eq_true rfl) (Nat.le_of_ble_eq_true rfl) (Nat.le_of_ble_eq_true rfl) ?_
  rintro _ _ _ ⟨hx7, hI8, hL9⟩
  have hx7 := hx7.symm; subst hx7
  have hI8 := hI8.symm; subst hI8; have hL9 := hL9.symm; subst hL9
  rw [z2]
  refine k_iload C rfl rfl rfl ?_
  refine k_icmp_eq C (t := 1406) rfl rfl rfl (fun _ => ?_) (fun c1401 => absurd (by decide) c1401)
  refine k_iload C rfl rfl rfl ?_
  refine k_if_ne C (t := 1423) rfl rfl rfl (fun _ => ?_) (fun c1408 => absurd (by decide) c1408)
  refine k_goto C (pc2 := 2832) rfl rfl ?_
  exact law_tail C S hL (Nat.le_of_ble_eq_true rfl) (Nat.le_of_ble_eq_true rfl) (List.forall_mem_cons.mpr ⟨List.mem_of_getElem? (i := 2) rfl, List.forall_mem_cons.mpr ⟨List.mem_of_getElem? (i := 6) rfl, fun _ h => nomatch h⟩⟩)

set_option maxRecDepth 100000 in
theorem lc_19_yes {d : Nat} {V : V_T} {b x m o nw rw dr al w dn : Nat} {xs : Nat → Int32} {T N : Nat → Nat} {I : IT} {L : LT} {R : RT} {A B : Nat → Prop} {n : Nat} (C : Cl (d + 7) q_law 600002 7302232 law_Po V) (S : SB V) (hL : LSc V b 6 xs) (T_x : T x = 12) (R_x_1 : R x 1 = some nw) (R_x_7 : R x 7 = some rw) (T_rw : T rw = 6) (R_rw_2 : R rw 2 = some dr) (T_dr : T dr = 23) (R_rw_0 : R rw 0 = some al) (T_al : T al = 1) (R_al_0 : R al 0 = some nw) (T_nw : T nw = 9) (I_nw_0 : I nw 0 = 11) (A_rw : A rw) (I_nw_3 : I nw 3 = 0) (T_o : T o = 21) (N_o : N o = 1) (A_o : A o) (T_m : T m = 13) (R_m_1 : R m 1 = some w) (T_w : T w = 20) (N_w : N w = 4007) (R_m_23 : R m 23 = some dn) (T_dn : T dn = 20) (N_dn : N dn = 108) (I_w_0 : I w 0 = 11) (I_w_3 : I w 3 = 0) (B_m : B m) (B_dn : B dn) (B_w : B w) (nAB : ∀ a, B a → ¬ A a) (nBo : ¬ B o) (hrow : cRow T N R A dr 12) (hfd : xs 2 = Int32.ofNat n) (hn : n ≤ 8) (hwd : w ≠ dn) (h : 1 ≤ xs 2 ∧ xs 2 ≤ 8) : V 1346 [(4, .int 0), (3, .ref o), (2, .ref m), (1, .ref x), (0, .ref b)] [] (T, N, I, L, R) 429 34606 := by
  refine k_aload_n C rfl rfl rfl ?_
  refine k_aload_n C rfl rfl rfl ?_
  refine k_iload C rfl rfl rfl ?_
  refine k_iconst C (x := 1) rfl rfl rfl ?_
  refine k_iadd C rfl rfl ?_
  refine ls_i hL (k := 1) rfl rfl (by unfold vp_in; decide) (by decide) ?_
  refine k_aload_n C rfl rfl rfl ?_
  refine k_iload C rfl rfl rfl ?_
  refine k_iconst C (x := 2) rfl rfl rfl ?_
  refine k_iadd C rfl rfl ?_
  refine ls_i hL (k := 2) rfl rfl (by unfold vp_in; decide) (by decide) ?_
  refine k_aload_n C rfl rfl rfl ?_
  refine k_iload C rfl rfl rfl ?_
  refine k_iconst C (x := 3) rfl rfl rfl ?_
  refine k_iadd C rfl rfl ?_
  refine ls_i hL (k := 3) rfl rfl (by unfold vp_in; decide) (by decide) ?_
  refine k_aload_n C rfl rfl rfl ?_
  refine c_SI C (e_L_basis_yes T_x R_x_1 R_x_7 T_rw R_rw_2 T_dr R_rw_0 T_al R_al_0 T_nw (I_nw_0) A_rw (I_nw_3) T_o N_o A_o (by decide) (by decide) hrow h) rfl rfl rfl rfl rfl rfl rfl (Nat.le_of_ble_eq_true rfl) (Nat.le_of_ble_eq_true rfl) (Nat.le_of_ble_eq_true rfl) ?_
  intro x1366 I1366 L1366 h1366
  obtain ⟨rfl, f1, v1⟩ := h1366
  refine k_istore C (lw := [(5, .int _), (4, .int _), (3, _), (2, _), (1, _), (0, _)]) rfl rfl (Nat.le_of_ble_eq_true rfl) rfl ?_
  refine k_aload_n C rfl rfl rfl ?_
  refine k_aload_n C rfl rfl rfl ?_
  refine k_iload C rfl rfl rfl ?_
  refine k_iconst C (x := 1) rfl rfl rfl ?_
  refine k_iadd C rfl rfl ?_
  refine ls_i hL (k := 1) rfl rfl (by unfold vp_in; decide) (by decide) ?_
  refine k_aload_n C rfl rfl rfl ?_
  refine k_iload C rfl rfl rfl ?_
  refine k_iconst C (x := 2) rfl rfl rfl ?_
  refine k_iadd C rfl rfl ?_
  refine ls_i hL (k := 2) rfl rfl (by unfold vp_in; decide) (by decide) ?_
  refine k_aload_n C rfl rfl rfl ?_
  refine k_iload C rfl rfl rfl ?_
  refine k_iconst C (x := 3) rfl rfl rfl ?_
  refine k_iadd C rfl rfl ?_
  refine ls_i hL (k := 3) rfl rfl (by unfold vp_in; decide) (by decide) ?_
  refine c_VI C (e_m_basis_yes T_m R_m_1 T_w N_w R_m_23 T_dn N_dn (((congrFun (f1 w (nAB w B_w)).1 0).trans I_w_0)) (((congrFun (f1 w (nAB w B_w)).1 3).trans I_w_3)) B_m B_dn (by decide) (by decide) hfd hn hwd h) rfl rfl rfl rfl rfl ⟨_, rfl, rfl, T_m, Nat.le_of_ble_eq_true rfl⟩ rfl rfl (Nat.le_of_ble_eq_true rfl) (Nat.le_of_ble_eq_true rfl) (Nat.le_of_ble_eq_true rfl) ?_
  intro x1390 I1390 L1390 h1390
  obtain ⟨rfl, f2, z2⟩ := h1390
  refine k_istore C (lw := [(6, .int _), (5, .int _), (4, .int _), (3, _), (2, _), (1, _), (0, _)]) rfl rfl (Nat.le_of_ble_eq_true rfl) rfl ?_
  refine k_aload_n C rfl rfl rfl ?_
  refine c_VI C (e_thrown T_m ) rfl rfl rfl rfl rfl ⟨_, rfl, rfl, T_m, Nat.le_of_ble_eq_true rfl⟩ rfl rfl (Nat.le_of_ble_eq_true rfl) (Nat.le_of_ble_eq_true rfl) (Nat.le_of_ble_eq_true rfl) ?_
  rintro _ _ _ ⟨hx7, hI8, hL9⟩
  have hx7 := hx7.symm; subst hx7
  have hI8 := hI8.symm; subst hI8; have hL9 := hL9.symm; subst hL9
  rw [z2]
  refine k_iload C rfl rfl rfl ?_
  refine k_icmp_eq C (t := 1406) rfl rfl rfl (fun _ => ?_) (fun c1401 => absurd (by decide) c1401)
  refine k_iload C rfl rfl rfl ?_
  refine k_if_ne C (t := 1423) rfl rfl rfl (fun c1408 => absurd c1408 (by decide)) (fun _ => ?_)
  refine k_aload_n C rfl rfl rfl ?_
  refine k_iconst C (x := 0) rfl rfl rfl ?_
  refine a_L C rfl rfl T_o (vin (n := 0) rfl (by rw [N_o]; exact Nat.le_of_ble_eq_true rfl) (by rw [N_o]; exact Nat.le_of_ble_eq_true rfl)) ((congrFun (f2 o nBo).2 0).trans v1) ?_
  refine k_iload C rfl rfl rfl ?_
  refine k_i2l C rfl rfl ?_
  refine k_lcmp C rfl rfl ?_
  refine k_if_eq C (t := 1423) rfl rfl rfl (fun c1418 => ?_) (fun c1418 => ?_)
  · skip
    refine k_goto C (pc2 := 2832) rfl rfl ?_
    exact law_tail C S hL (Nat.le_of_ble_eq_true rfl) (Nat.le_of_ble_eq_true rfl) (List.forall_mem_cons.mpr ⟨List.mem_of_getElem? (i := 2) rfl, List.forall_mem_cons.mpr ⟨List.mem_of_getElem? (i := 6) rfl, fun _ h => nomatch h⟩⟩)
  exact absurd ((lg_cmp_eq _ _).mpr rfl) c1418

