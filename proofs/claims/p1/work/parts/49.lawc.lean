/-! the law: its calls on a new object, 5 -/
set_option maxRecDepth 100000 in
theorem lc_35_no {d : Nat} {V : V_T} {b x m o : Nat} {xs : Nat → Int32} {T N : Nat → Nat} {I : IT} {L : LT} {R : RT} {A B : Nat → Prop}  (C : Cl (d + 4) q_law 600002 7302232 law_Po V) (S : SB V) (hL : LSc V b 6 xs) (T_x : T x = 12) (T_m : T m = 13) (B_m : B m) (h : ¬ okRed (xs 1) (xs 2) (xs 3)) : V 2424 [(4, .int 0), (3, .ref o), (2, .ref m), (1, .ref x), (0, .ref b)] [] (T, N, I, L, R) 429 34606 := by
  refine k_aload_n C rfl rfl rfl ?_
  refine k_aload_n C rfl rfl rfl ?_
  refine k_iload C rfl rfl rfl ?_
  refine k_iconst C (x := 1) rfl rfl rfl ?_
  refine k_iadd C rfl rfl ?_
  refine ls_i hL (k := 1) rfl rfl (by unfold vp_in; decide) (by decide) ?_
  refine k_aload_n C rfl rfl rfl ?_
  refine k_iload C rfl rfl rfl ?_
  refine k_iconst C (x := 2) rfl rfl rfl ?_
  refine k_iadd C rfl rfl ?_
  refine ls_i hL (k := 2) rfl rfl (by unfold vp_in; decide) (by decide) ?_
  refine k_aload_n C rfl rfl rfl ?_
  refine k_iload C rfl rfl rfl ?_
  refine k_iconst C (x := 3) rfl rfl rfl ?_
  refine k_iadd C rfl rfl ?_
  refine ls_i hL (k := 3) rfl rfl (by unfold vp_in; decide) (by decide) ?_
  refine k_aload_n C rfl rfl rfl ?_
  refine k_iload C rfl rfl rfl ?_
  refine k_iconst C (x := 4) rfl rfl rfl ?_
  refine k_iadd C rfl rfl ?_
  refine ls_i hL (k := 4) rfl rfl (by unfold vp_in; decide) (by decide) ?_
  refine k_aload_n C rfl rfl rfl ?_
  refine c_SI C (e_L_reduced_no T_x h) rfl rfl rfl rfl rfl rfl rfl (Nat.le_of_ble_eq_true rfl) (Nat.le_of_ble_eq_true rfl) (Nat.le_of_ble_eq_true rfl) ?_
  rintro _ _ _ ⟨hx7, hI8, hL9⟩
  have hx7 := hx7.symm; subst hx7
  have hI8 := hI8.symm; subst hI8; have hL9 := hL9.symm; subst hL9
  refine k_istore C (lw := [(5, .int _), (4, .int _), (3, _), (2, _), (1, _), (0, _)]) rfl rfl (Nat.le_of_ble_eq_true rfl) rfl ?_
  refine k_aload_n C rfl rfl rfl ?_
  refine k_aload_n C rfl rfl rfl ?_
  refine k_iload C rfl rfl rfl ?_
  refine k_iconst C (x := 1) rfl rfl rfl ?_
  refine k_iadd C rfl rfl ?_
  refine ls_i hL (k := 1) rfl rfl (by unfold vp_in; decide) (by decide) ?_
  refine k_aload_n C rfl rfl rfl ?_
  refine k_iload C rfl rfl rfl ?_
  refine k_iconst C (x := 2) rfl rfl rfl ?_
  refine k_iadd C rfl rfl ?_
  refine ls_i hL (k := 2) rfl rfl (by unfold vp_in; decide) (by decide) ?_
  refine k_aload_n C rfl rfl rfl ?_
  refine k_iload C rfl rfl rfl ?_
  refine k_iconst C (x := 3) rfl rfl rfl ?_
  refine k_iadd C rfl rfl ?_
  refine ls_i hL (k := 3) rfl rfl (by unfold vp_in; decide) (by decide) ?_
  refine k_aload_n C rfl rfl rfl ?_
  refine k_iload C rfl rfl rfl ?_
  refine k_iconst C (x := 4) rfl rfl rfl ?_
  refine k_iadd C rfl rfl ?_
  refine ls_i hL (k := 4) rfl rfl (by unfold vp_in; decide) (by decide) ?_
  refine c_VL C (e_m_reduced_no T_m B_m h) rfl rfl rfl rfl rfl ⟨_, rfl, rfl, T_m, Nat.le_of_ble_eq_true rfl⟩ rfl rfl (Nat.le_of_ble_eq_true rfl) (Nat.le_of_ble_eq_true rfl) (Nat.le_of_ble_eq_true rfl) ?_
  intro x2480 I2480 L2480 h2480
  obtain ⟨f2, z2⟩ := h2480
  refine k_lstore C (lw := [(6, .long _), (5, .int _), (4, .int _), (3, _), (2, _), (1, _), (0, _)]) rfl rfl (Nat.le_of_ble_eq_true rfl) rfl ?_
  refine k_aload_n C rfl rfl rfl ?_
  refine c_VI C (e_thrown T_m ) rfl rfl rfl rfl rfl ⟨_, rfl, rfl, T_m, Nat.le_of_ble_eq_true rfl⟩ rfl rfl (Nat.le_of_ble_eq_true rfl) (Nat.le_of_ble_eq_true rfl) (Nat.le_of_ble_eq_true rfl) ?_
  rintro _ _ _ ⟨hx7, hI8, hL9⟩
  have hx7 := hx7.symm; subst hx7
  have hI8 := hI8.symm; subst hI8; have hL9 := hL9.symm; subst hL9
  rw [z2]
  refine k_iload C rfl rfl rfl ?_
  refine k_icmp_eq C (t := 2496) rfl rfl rfl (fun _ => ?_) (fun c2491 => absurd (by decide) c2491)
  refine k_iload C rfl rfl rfl ?_
  refine k_if_ne C (t := 2512) rfl rfl rfl (fun _ => ?_) (fun c2498 => absurd (by decide) c2498)
  refine k_goto C (pc2 := 2832) rfl rfl ?_
  exact law_tail C S hL (Nat.le_of_ble_eq_true rfl) (Nat.le_of_ble_eq_true rfl) (List.forall_mem_cons.mpr ⟨List.mem_of_getElem? (i := 2) rfl, List.forall_mem_cons.mpr ⟨List.mem_of_getElem? (i := 6) rfl, fun _ h => nomatch h⟩⟩)

set_option maxRecDepth 100000 in
theorem lc_35_nse {d : Nat} {V : V_T} {b x m o : Nat} {xs : Nat → Int32} {T N : Nat → Nat} {I : IT} {L : LT} {R : RT} {A B : Nat → Prop}  (C : Cl (d + 4) q_law 600002 7302232 law_Po V) (S : SB V) (hL : LSc V b 6 xs) (T_x : T x = 12) (T_m : T m = 13) (B_m : B m) (hok : okRed (xs 1) (xs 2) (xs 3)) (hn : ¬ (0 ≤ (xs 4).toInt ∧ (xs 4).toInt ≤ 8)) : V 2424 [(4, .int 0), (3, .ref o), (2, .ref m), (1, .ref x), (0, .ref b)] [] (T, N, I, L, R) 429 34606 := by
  refine k_aload_n C rfl rfl rfl ?_
  refine k_aload_n C rfl rfl rfl ?_
  refine k_iload C rfl rfl rfl ?_
  refine k_iconst C (x := 1) rfl rfl rfl ?_
  refine k_iadd C rfl rfl ?_
  refine ls_i hL (k := 1) rfl rfl (by unfold vp_in; decide) (by decide) ?_
  refine k_aload_n C rfl rfl rfl ?_
  refine k_iload C rfl rfl rfl ?_
  refine k_iconst C (x := 2) rfl rfl rfl ?_
  refine k_iadd C rfl rfl ?_
  refine ls_i hL (k := 2) rfl rfl (by unfold vp_in; decide) (by decide) ?_
  refine k_aload_n C rfl rfl rfl ?_
  refine k_iload C rfl rfl rfl ?_
  refine k_iconst C (x := 3) rfl rfl rfl ?_
  refine k_iadd C rfl rfl ?_
  refine ls_i hL (k := 3) rfl rfl (by unfold vp_in; decide) (by decide) ?_
  refine k_aload_n C rfl rfl rfl ?_
  refine k_iload C rfl rfl rfl ?_
  refine k_iconst C (x := 4) rfl rfl rfl ?_
  refine k_iadd C rfl rfl ?_
  refine ls_i hL (k := 4) rfl rfl (by unfold vp_in; decide) (by decide) ?_
  refine k_aload_n C rfl rfl rfl ?_
  refine c_SI C (e_L_reduced_nse T_x hok hn) rfl rfl rfl rfl rfl rfl rfl (Nat.le_of_ble_eq_true rfl) (Nat.le_of_ble_eq_true rfl) (Nat.le_of_ble_eq_true rfl) ?_
  rintro _ _ _ ⟨hx7, hI8, hL9⟩
  have hx7 := hx7.symm; subst hx7
  have hI8 := hI8.symm; subst hI8; have hL9 := hL9.symm; subst hL9
  refine k_istore C (lw := [(5, .int _), (4, .int _), (3, _), (2, _), (1, _), (0, _)]) rfl rfl (Nat.le_of_ble_eq_true rfl) rfl ?_
  refine k_aload_n C rfl rfl rfl ?_
  refine k_aload_n C rfl rfl rfl ?_
  refine k_iload C rfl rfl rfl ?_
  refine k_iconst C (x := 1) rfl rfl rfl ?_
  refine k_iadd C rfl rfl ?_
  refine ls_i hL (k := 1) rfl rfl (by unfold vp_in; decide) (by decide) ?_
  refine k_aload_n C rfl rfl rfl ?_
  refine k_iload C rfl rfl rfl ?_
  refine k_iconst C (x := 2) rfl rfl rfl ?_
  refine k_iadd C rfl rfl ?_
  refine ls_i hL (k := 2) rfl rfl (by unfold vp_in; decide) (by decide) ?_
  refine k_aload_n C rfl rfl rfl ?_
  refine k_iload C rfl rfl rfl ?_
  refine k_iconst C (x := 3) rfl rfl rfl ?_
  refine k_iadd C rfl rfl ?_
  refine ls_i hL (k := 3) rfl rfl (by unfold vp_in; decide) (by decide) ?_
  refine k_aload_n C rfl rfl rfl ?_
  refine k_iload C rfl rfl rfl ?_
  refine k_iconst C (x := 4) rfl rfl rfl ?_
  refine k_iadd C rfl rfl ?_
  refine ls_i hL (k := 4) rfl rfl (by unfold vp_in; decide) (by decide) ?_
  refine c_VL C (e_m_reduced_nse T_m B_m hok hn) rfl rfl rfl rfl rfl ⟨_, rfl, rfl, T_m, Nat.le_of_ble_eq_true rfl⟩ rfl rfl (Nat.le_of_ble_eq_true rfl) (Nat.le_of_ble_eq_true rfl) (Nat.le_of_ble_eq_true rfl) ?_
  intro x2480 I2480 L2480 h2480
  obtain ⟨f2, z2⟩ := h2480
  refine k_lstore C (lw := [(6, .long _), (5, .int _), (4, .int _), (3, _), (2, _), (1, _), (0, _)]) rfl rfl (Nat.le_of_ble_eq_true rfl) rfl ?_
  refine k_aload_n C rfl rfl rfl ?_
  refine c_VI C (e_thrown T_m ) rfl rfl rfl rfl rfl ⟨_, rfl, rfl, T_m, Nat.le_of_ble_eq_true rfl⟩ rfl rfl (Nat.le_of_ble_eq_true rfl) (Nat.le_of_ble_eq_true rfl) (Nat.le_of_ble_eq_true rfl) ?_
  rintro _ _ _ ⟨hx7, hI8, hL9⟩
  have hx7 := hx7.symm; subst hx7
  have hI8 := hI8.symm; subst hI8; have hL9 := hL9.symm; subst hL9
  rw [z2]
  refine k_iload C rfl rfl rfl ?_
  refine k_icmp_eq C (t := 2496) rfl rfl rfl (fun _ => ?_) (fun c2491 => absurd (by decide) c2491)
  refine k_iload C rfl rfl rfl ?_
  refine k_if_ne C (t := 2512) rfl rfl rfl (fun _ => ?_) (fun c2498 => absurd (by decide) c2498)
  refine k_goto C (pc2 := 2832) rfl rfl ?_
  exact law_tail C S hL (Nat.le_of_ble_eq_true rfl) (Nat.le_of_ble_eq_true rfl) (List.forall_mem_cons.mpr ⟨List.mem_of_getElem? (i := 2) rfl, List.forall_mem_cons.mpr ⟨List.mem_of_getElem? (i := 6) rfl, fun _ h => nomatch h⟩⟩)

set_option maxRecDepth 100000 in
theorem lc_35_yes {d : Nat} {V : V_T} {b x m o wh wl : Nat} {xs : Nat → Int32} {T N : Nat → Nat} {I : IT} {L : LT} {R : RT} {A B : Nat → Prop}  (C : Cl (d + 6) q_law 600002 7302232 law_Po V) (S : SB V) (hL : LSc V b 6 xs) (T_x : T x = 12) (R_x_10 : R x 10 = some wh) (T_wh : T wh = 11) (A_wh : A wh) (T_o : T o = 21) (N_o : N o = 1) (A_o : A o) (T_m : T m = 13) (B_m : B m) (R_m_34 : R m 34 = some wl) (T_wl : T wl = 21) (N_wl : N wl = 4) (B_wl : B wl) (nAB : ∀ a, B a → ¬ A a) (nBo : ¬ B o) (hok : okRed (xs 1) (xs 2) (xs 3)) (hn : 0 ≤ (xs 4).toInt ∧ (xs 4).toInt ≤ 8) : V 2424 [(4, .int 0), (3, .ref o), (2, .ref m), (1, .ref x), (0, .ref b)] [] (T, N, I, L, R) 429 34606 := by
  refine k_aload_n C rfl rfl rfl ?_
  refine k_aload_n C rfl rfl rfl ?_
  refine k_iload C rfl rfl rfl ?_
  refine k_iconst C (x := 1) rfl rfl rfl ?_
  refine k_iadd C rfl rfl ?_
  refine ls_i hL (k := 1) rfl rfl (by unfold vp_in; decide) (by decide) ?_
  refine k_aload_n C rfl rfl rfl ?_
  refine k_iload C rfl rfl rfl ?_
  refine k_iconst C (x := 2) rfl rfl rfl ?_
  refine k_iadd C rfl rfl ?_
  refine ls_i hL (k := 2) rfl rfl (by unfold vp_in; decide) (by decide) ?_
  refine k_aload_n C rfl rfl rfl ?_
  refine k_iload C rfl rfl rfl ?_
  refine k_iconst C (x := 3) rfl rfl rfl ?_
  refine k_iadd C rfl rfl ?_
  refine ls_i hL (k := 3) rfl rfl (by unfold vp_in; decide) (by decide) ?_
  refine k_aload_n C rfl rfl rfl ?_
  refine k_iload C rfl rfl rfl ?_
  refine k_iconst C (x := 4) rfl rfl rfl ?_
  refine k_iadd C rfl rfl ?_
  refine ls_i hL (k := 4) rfl rfl (by unfold vp_in; decide) (by decide) ?_
  refine k_aload_n C rfl rfl rfl ?_
  refine c_SI C (e_L_reduced_yes T_x R_x_10 T_wh A_wh T_o N_o A_o hok hn) rfl rfl rfl rfl rfl rfl rfl (Nat.le_of_ble_eq_true rfl) (Nat.le_of_ble_eq_true rfl) (Nat.le_of_ble_eq_true rfl) ?_
  intro x2450 I2450 L2450 h2450
  obtain ⟨rfl, f1, v1⟩ := h2450
  refine k_istore C (lw := [(5, .int _), (4, .int _), (3, _), (2, _), (1, _), (0, _)]) rfl rfl (Nat.le_of_ble_eq_true rfl) rfl ?_
  refine k_aload_n C rfl rfl rfl ?_
  refine k_aload_n C rfl rfl rfl ?_
  refine k_iload C rfl rfl rfl ?_
  refine k_iconst C (x := 1) rfl rfl rfl ?_
  refine k_iadd C rfl rfl ?_
  refine ls_i hL (k := 1) rfl rfl (by unfold vp_in; decide) (by decide) ?_
  refine k_aload_n C rfl rfl rfl ?_
  refine k_iload C rfl rfl rfl ?_
  refine k_iconst C (x := 2) rfl rfl rfl ?_
  refine k_iadd C rfl rfl ?_
  refine ls_i hL (k := 2) rfl rfl (by unfold vp_in; decide) (by decide) ?_
  refine k_aload_n C rfl rfl rfl ?_
  refine k_iload C rfl rfl rfl ?_
  refine k_iconst C (x := 3) rfl rfl rfl ?_
  refine k_iadd C rfl rfl ?_
  refine ls_i hL (k := 3) rfl rfl (by unfold vp_in; decide) (by decide) ?_
  refine k_aload_n C rfl rfl rfl ?_
  refine k_iload C rfl rfl rfl ?_
  refine k_iconst C (x := 4) rfl rfl rfl ?_
  refine k_iadd C rfl rfl ?_
  refine ls_i hL (k := 4) rfl rfl (by unfold vp_in; decide) (by decide) ?_
  refine c_VL C (e_m_reduced_yes T_m B_m R_m_34 T_wl N_wl B_wl hok hn) rfl rfl rfl rfl rfl ⟨_, rfl, rfl, T_m, Nat.le_of_ble_eq_true rfl⟩ rfl rfl (Nat.le_of_ble_eq_true rfl) (Nat.le_of_ble_eq_true rfl) (Nat.le_of_ble_eq_true rfl) ?_
  intro x2480 I2480 L2480 h2480
  obtain ⟨rfl, f2, z2⟩ := h2480
  refine k_lstore C (lw := [(6, .long _), (5, .int _), (4, .int _), (3, _), (2, _), (1, _), (0, _)]) rfl rfl (Nat.le_of_ble_eq_true rfl) rfl ?_
  refine k_aload_n C rfl rfl rfl ?_
  refine c_VI C (e_thrown T_m ) rfl rfl rfl rfl rfl ⟨_, rfl, rfl, T_m, Nat.le_of_ble_eq_true rfl⟩ rfl rfl (Nat.le_of_ble_eq_true rfl) (Nat.le_of_ble_eq_true rfl) (Nat.le_of_ble_eq_true rfl) ?_
  rintro _ _ _ ⟨hx7, hI8, hL9⟩
  have hx7 := hx7.symm; subst hx7
  have hI8 := hI8.symm; subst hI8; have hL9 := hL9.symm; subst hL9
  rw [z2]
  refine k_iload C rfl rfl rfl ?_
  refine k_icmp_eq C (t := 2496) rfl rfl rfl (fun _ => ?_) (fun c2491 => absurd (by decide) c2491)
  refine k_iload C rfl rfl rfl ?_
  refine k_if_ne C (t := 2512) rfl rfl rfl (fun c2498 => absurd c2498 (by decide)) (fun _ => ?_)
  refine k_aload_n C rfl rfl rfl ?_
  refine k_iconst C (x := 0) rfl rfl rfl ?_
  refine a_L C rfl rfl T_o (vin (n := 0) rfl (by rw [N_o]; exact Nat.le_of_ble_eq_true rfl) (by rw [N_o]; exact Nat.le_of_ble_eq_true rfl)) ((congrFun (f2 o nBo).2 0).trans v1) ?_
  refine k_lload C rfl rfl rfl ?_
  refine k_lcmp C rfl rfl ?_
  refine k_if_eq C (t := 2512) rfl rfl rfl (fun c2507 => ?_) (fun c2507 => ?_)
  · skip
    refine k_goto C (pc2 := 2832) rfl rfl ?_
    exact law_tail C S hL (Nat.le_of_ble_eq_true rfl) (Nat.le_of_ble_eq_true rfl) (List.forall_mem_cons.mpr ⟨List.mem_of_getElem? (i := 2) rfl, List.forall_mem_cons.mpr ⟨List.mem_of_getElem? (i := 6) rfl, fun _ h => nomatch h⟩⟩)
  exact absurd ((lg_cmp_eq _ _).mpr rfl) c2507

set_option maxRecDepth 100000 in
theorem lc_36_no_z {d : Nat} {V : V_T} {b x m o : Nat} {xs : Nat → Int32} {T N : Nat → Nat} {I : IT} {L : LT} {R : RT} {A B : Nat → Prop}  (C : Cl (d + 5) q_law 600002 7302232 law_Po V) (S : SB V) (hL : LSc V b 6 xs) (T_x : T x = 12) (T_m : T m = 13) (B_m : B m) (h : ¬ isDc (xs 1)) (hz2 : xs 2 = 0) : V 2515 [(4, .int 0), (3, .ref o), (2, .ref m), (1, .ref x), (0, .ref b)] [] (T, N, I, L, R) 429 34606 := by
  refine k_aload_n C rfl rfl rfl ?_
  refine k_aload_n C rfl rfl rfl ?_
  refine k_iload C rfl rfl rfl ?_
  refine k_iconst C (x := 1) rfl rfl rfl ?_
  refine k_iadd C rfl rfl ?_
  refine ls_i hL (k := 1) rfl rfl (by unfold vp_in; decide) (by decide) ?_
  refine k_aload_n C rfl rfl rfl ?_
  refine k_iload C rfl rfl rfl ?_
  refine k_iconst C (x := 2) rfl rfl rfl ?_
  refine k_iadd C rfl rfl ?_
  refine ls_i hL (k := 2) rfl rfl (by unfold vp_in; decide) (by decide) ?_
  refine k_if_eq C (t := 2535) rfl rfl rfl (fun c2528 => ?_) (fun c2528 => ?_)
  · skip
    refine k_iconst C (x := 0) rfl rfl rfl ?_
    refine k_aload_n C rfl rfl rfl ?_
    refine c_SI C (e_L_classes_no T_x h) rfl rfl rfl rfl rfl rfl rfl (Nat.le_of_ble_eq_true rfl) (Nat.le_of_ble_eq_true rfl) (Nat.le_of_ble_eq_true rfl) ?_
    rintro _ _ _ ⟨hx7, hI8, hL9⟩
    have hx7 := hx7.symm; subst hx7
    have hI8 := hI8.symm; subst hI8; have hL9 := hL9.symm; subst hL9
    refine k_istore C (lw := [(5, .int _), (4, .int _), (3, _), (2, _), (1, _), (0, _)]) rfl rfl (Nat.le_of_ble_eq_true rfl) rfl ?_
    refine k_aload_n C rfl rfl rfl ?_
    refine k_aload_n C rfl rfl rfl ?_
    refine k_iload C rfl rfl rfl ?_
    refine k_iconst C (x := 1) rfl rfl rfl ?_
    refine k_iadd C rfl rfl ?_
    refine ls_i hL (k := 1) rfl rfl (by unfold vp_in; decide) (by decide) ?_
    refine k_aload_n C rfl rfl rfl ?_
    refine k_iload C rfl rfl rfl ?_
    refine k_iconst C (x := 2) rfl rfl rfl ?_
    refine k_iadd C rfl rfl ?_
    refine ls_i hL (k := 2) rfl rfl (by unfold vp_in; decide) (by decide) ?_
    refine k_if_eq C (t := 2562) rfl rfl rfl (fun c2555 => ?_) (fun c2555 => ?_)
    · skip
      refine k_iconst C (x := 0) rfl rfl rfl ?_
      refine c_VI C (e_m_classes_no T_m B_m h) rfl rfl rfl rfl rfl ⟨_, rfl, rfl, T_m, Nat.le_of_ble_eq_true rfl⟩ rfl rfl (Nat.le_of_ble_eq_true rfl) (Nat.le_of_ble_eq_true rfl) (Nat.le_of_ble_eq_true rfl) ?_
      intro x2563 I2563 L2563 h2563
      obtain ⟨f2, z2⟩ := h2563
      refine k_istore C (lw := [(6, .int _), (5, .int _), (4, .int _), (3, _), (2, _), (1, _), (0, _)]) rfl rfl (Nat.le_of_ble_eq_true rfl) rfl ?_
      refine k_aload_n C rfl rfl rfl ?_
      refine c_VI C (e_thrown T_m ) rfl rfl rfl rfl rfl ⟨_, rfl, rfl, T_m, Nat.le_of_ble_eq_true rfl⟩ rfl rfl (Nat.le_of_ble_eq_true rfl) (Nat.le_of_ble_eq_true rfl) (Nat.le_of_ble_eq_true rfl) ?_
      rintro _ _ _ ⟨hx7, hI8, hL9⟩
      have hx7 := hx7.symm; subst hx7
      have hI8 := hI8.symm; subst hI8; have hL9 := hL9.symm; subst hL9
      rw [z2]
      refine k_iload C rfl rfl rfl ?_
      refine k_icmp_eq C (t := 2579) rfl rfl rfl (fun _ => ?_) (fun c2574 => absurd (by decide) c2574)
      refine k_iload C rfl rfl rfl ?_
      refine k_if_ne C (t := 2596) rfl rfl rfl (fun _ => ?_) (fun c2581 => absurd (by decide) c2581)
      refine k_goto C (pc2 := 2832) rfl rfl ?_
      exact law_tail C S hL (Nat.le_of_ble_eq_true rfl) (Nat.le_of_ble_eq_true rfl) (List.forall_mem_cons.mpr ⟨List.mem_of_getElem? (i := 2) rfl, List.forall_mem_cons.mpr ⟨List.mem_of_getElem? (i := 6) rfl, fun _ h => nomatch h⟩⟩)
    exact absurd hz2 c2555
  exact absurd hz2 c2528

set_option maxRecDepth 100000 in
theorem lc_36_yes_z {d : Nat} {V : V_T} {b x m o wh : Nat} {xs : Nat → Int32} {T N : Nat → Nat} {I : IT} {L : LT} {R : RT} {A B : Nat → Prop}  (C : Cl (d + 6) q_law 600002 7302232 law_Po V) (S : SB V) (hL : LSc V b 6 xs) (T_x : T x = 12) (R_x_10 : R x 10 = some wh) (T_wh : T wh = 11) (A_wh : A wh) (J_wh_0 : L wh 0 = 0) (J_wh_1 : L wh 1 = 0) (J_wh_2 : L wh 2 = 0) (T_o : T o = 21) (N_o : N o = 1) (A_o : A o) (T_m : T m = 13) (B_m : B m) (I_m_35 : I m 35 = 0) (I_m_36 : I m 36 = 0) (I_m_37 : I m 37 = 0) (nAB : ∀ a, B a → ¬ A a) (nBo : ¬ B o) (hD : isDc (xs 1)) (hz2 : xs 2 = 0) : V 2515 [(4, .int 0), (3, .ref o), (2, .ref m), (1, .ref x), (0, .ref b)] [] (T, N, I, L, R) 429 34606 := by
  refine k_aload_n C rfl rfl rfl ?_
  refine k_aload_n C rfl rfl rfl ?_
  refine k_iload C rfl rfl rfl ?_
  refine k_iconst C (x := 1) rfl rfl rfl ?_
  refine k_iadd C rfl rfl ?_
  refine ls_i hL (k := 1) rfl rfl (by unfold vp_in; decide) (by decide) ?_
  refine k_aload_n C rfl rfl rfl ?_
  refine k_iload C rfl rfl rfl ?_
  refine k_iconst C (x := 2) rfl rfl rfl ?_
  refine k_iadd C rfl rfl ?_
  refine ls_i hL (k := 2) rfl rfl (by unfold vp_in; decide) (by decide) ?_
  refine k_if_eq C (t := 2535) rfl rfl rfl (fun c2528 => ?_) (fun c2528 => ?_)
  · skip
    refine k_iconst C (x := 0) rfl rfl rfl ?_
    refine k_aload_n C rfl rfl rfl ?_
    refine c_SI C (e_L_classes_yes T_x R_x_10 T_wh A_wh (J_wh_0) (J_wh_1) (J_wh_2) T_o N_o A_o hD (Or.inl rfl)) rfl rfl rfl rfl rfl rfl rfl (Nat.le_of_ble_eq_true rfl) (Nat.le_of_ble_eq_true rfl) (Nat.le_of_ble_eq_true rfl) ?_
    intro x2537 I2537 L2537 h2537
    obtain ⟨rfl, f1, v1⟩ := h2537
    refine k_istore C (lw := [(5, .int _), (4, .int _), (3, _), (2, _), (1, _), (0, _)]) rfl rfl (Nat.le_of_ble_eq_true rfl) rfl ?_
    refine k_aload_n C rfl rfl rfl ?_
    refine k_aload_n C rfl rfl rfl ?_
    refine k_iload C rfl rfl rfl ?_
    refine k_iconst C (x := 1) rfl rfl rfl ?_
    refine k_iadd C rfl rfl ?_
    refine ls_i hL (k := 1) rfl rfl (by unfold vp_in; decide) (by decide) ?_
    refine k_aload_n C rfl rfl rfl ?_
    refine k_iload C rfl rfl rfl ?_
    refine k_iconst C (x := 2) rfl rfl rfl ?_
    refine k_iadd C rfl rfl ?_
    refine ls_i hL (k := 2) rfl rfl (by unfold vp_in; decide) (by decide) ?_
    refine k_if_eq C (t := 2562) rfl rfl rfl (fun c2555 => ?_) (fun c2555 => ?_)
    · skip
      refine k_iconst C (x := 0) rfl rfl rfl ?_
      refine c_VI C (e_m_classes_yes T_m B_m (((congrFun (f1 m (nAB m B_m)).1 35).trans I_m_35)) (((congrFun (f1 m (nAB m B_m)).1 36).trans I_m_36)) (((congrFun (f1 m (nAB m B_m)).1 37).trans I_m_37)) hD (Or.inl rfl)) rfl rfl rfl rfl rfl ⟨_, rfl, rfl, T_m, Nat.le_of_ble_eq_true rfl⟩ rfl rfl (Nat.le_of_ble_eq_true rfl) (Nat.le_of_ble_eq_true rfl) (Nat.le_of_ble_eq_true rfl) ?_
      intro x2563 I2563 L2563 h2563
      obtain ⟨rfl, f2, z2⟩ := h2563
      refine k_istore C (lw := [(6, .int _), (5, .int _), (4, .int _), (3, _), (2, _), (1, _), (0, _)]) rfl rfl (Nat.le_of_ble_eq_true rfl) rfl ?_
      refine k_aload_n C rfl rfl rfl ?_
      refine c_VI C (e_thrown T_m ) rfl rfl rfl rfl rfl ⟨_, rfl, rfl, T_m, Nat.le_of_ble_eq_true rfl⟩ rfl rfl (Nat.le_of_ble_eq_true rfl) (Nat.le_of_ble_eq_true rfl) (Nat.le_of_ble_eq_true rfl) ?_
      rintro _ _ _ ⟨hx7, hI8, hL9⟩
      have hx7 := hx7.symm; subst hx7
      have hI8 := hI8.symm; subst hI8; have hL9 := hL9.symm; subst hL9
      rw [z2]
      refine k_iload C rfl rfl rfl ?_
      refine k_icmp_eq C (t := 2579) rfl rfl rfl (fun _ => ?_) (fun c2574 => absurd (by decide) c2574)
      refine k_iload C rfl rfl rfl ?_
      refine k_if_ne C (t := 2596) rfl rfl rfl (fun c2581 => absurd c2581 (by decide)) (fun _ => ?_)
      refine k_aload_n C rfl rfl rfl ?_
      refine k_iconst C (x := 0) rfl rfl rfl ?_
      refine a_L C rfl rfl T_o (vin (n := 0) rfl (by rw [N_o]; exact Nat.le_of_ble_eq_true rfl) (by rw [N_o]; exact Nat.le_of_ble_eq_true rfl)) ((congrFun (f2 o nBo).2 0).trans v1) ?_
      refine k_iload C rfl rfl rfl ?_
      refine k_i2l C rfl rfl ?_
      refine k_lcmp C rfl rfl ?_
      refine k_if_eq C (t := 2596) rfl rfl rfl (fun c2591 => ?_) (fun c2591 => ?_)
      · skip
        refine k_goto C (pc2 := 2832) rfl rfl ?_
        exact law_tail C S hL (Nat.le_of_ble_eq_true rfl) (Nat.le_of_ble_eq_true rfl) (List.forall_mem_cons.mpr ⟨List.mem_of_getElem? (i := 2) rfl, List.forall_mem_cons.mpr ⟨List.mem_of_getElem? (i := 6) rfl, fun _ h => nomatch h⟩⟩)
      exact absurd ((lg_cmp_eq _ _).mpr rfl) c2591
    exact absurd hz2 c2555
  exact absurd hz2 c2528

set_option maxRecDepth 100000 in
theorem lc_36_no_n {d : Nat} {V : V_T} {b x m o : Nat} {xs : Nat → Int32} {T N : Nat → Nat} {I : IT} {L : LT} {R : RT} {A B : Nat → Prop}  (C : Cl (d + 5) q_law 600002 7302232 law_Po V) (S : SB V) (hL : LSc V b 6 xs) (T_x : T x = 12) (T_m : T m = 13) (B_m : B m) (h : ¬ isDc (xs 1)) (hz2 : ¬ xs 2 = 0) : V 2515 [(4, .int 0), (3, .ref o), (2, .ref m), (1, .ref x), (0, .ref b)] [] (T, N, I, L, R) 429 34606 := by
  refine k_aload_n C rfl rfl rfl ?_
  refine k_aload_n C rfl rfl rfl ?_
  refine k_iload C rfl rfl rfl ?_
  refine k_iconst C (x := 1) rfl rfl rfl ?_
  refine k_iadd C rfl rfl ?_
  refine ls_i hL (k := 1) rfl rfl (by unfold vp_in; decide) (by decide) ?_
  refine k_aload_n C rfl rfl rfl ?_
  refine k_iload C rfl rfl rfl ?_
  refine k_iconst C (x := 2) rfl rfl rfl ?_
  refine k_iadd C rfl rfl ?_
  refine ls_i hL (k := 2) rfl rfl (by unfold vp_in; decide) (by decide) ?_
  refine k_if_eq C (t := 2535) rfl rfl rfl (fun c2528 => ?_) (fun c2528 => ?_)
  · skip
    exact absurd c2528 hz2
  refine k_iconst C (x := 1) rfl rfl rfl ?_
  refine k_goto C (pc2 := 2536) rfl rfl ?_
  refine k_aload_n C rfl rfl rfl ?_
  refine c_SI C (e_L_classes_no T_x h) rfl rfl rfl rfl rfl rfl rfl (Nat.le_of_ble_eq_true rfl) (Nat.le_of_ble_eq_true rfl) (Nat.le_of_ble_eq_true rfl) ?_
  rintro _ _ _ ⟨hx7, hI8, hL9⟩
  have hx7 := hx7.symm; subst hx7
  have hI8 := hI8.symm; subst hI8; have hL9 := hL9.symm; subst hL9
  refine k_istore C (lw := [(5, .int _), (4, .int _), (3, _), (2, _), (1, _), (0, _)]) rfl rfl (Nat.le_of_ble_eq_true rfl) rfl ?_
  refine k_aload_n C rfl rfl rfl ?_
  refine k_aload_n C rfl rfl rfl ?_
  refine k_iload C rfl rfl rfl ?_
  refine k_iconst C (x := 1) rfl rfl rfl ?_
  refine k_iadd C rfl rfl ?_
  refine ls_i hL (k := 1) rfl rfl (by unfold vp_in; decide) (by decide) ?_
  refine k_aload_n C rfl rfl rfl ?_
  refine k_iload C rfl rfl rfl ?_
  refine k_iconst C (x := 2) rfl rfl rfl ?_
  refine k_iadd C rfl rfl ?_
  refine ls_i hL (k := 2) rfl rfl (by unfold vp_in; decide) (by decide) ?_
  refine k_if_eq C (t := 2562) rfl rfl rfl (fun c2555 => ?_) (fun c2555 => ?_)
  · skip
    exact absurd c2555 hz2
  refine k_iconst C (x := 1) rfl rfl rfl ?_
  refine k_goto C (pc2 := 2563) rfl rfl ?_
  refine c_VI C (e_m_classes_no T_m B_m h) rfl rfl rfl rfl rfl ⟨_, rfl, rfl, T_m, Nat.le_of_ble_eq_true rfl⟩ rfl rfl (Nat.le_of_ble_eq_true rfl) (Nat.le_of_ble_eq_true rfl) (Nat.le_of_ble_eq_true rfl) ?_
  intro x2563 I2563 L2563 h2563
  obtain ⟨f2, z2⟩ := h2563
  refine k_istore C (lw := [(6, .int _), (5, .int _), (4, .int _), (3, _), (2, _), (1, _), (0, _)]) rfl rfl (Nat.le_of_ble_eq_true rfl) rfl ?_
  refine k_aload_n C rfl rfl rfl ?_
  refine c_VI C (e_thrown T_m ) rfl rfl rfl rfl rfl ⟨_, rfl, rfl, T_m, Nat.le_of_ble_eq_true rfl⟩ rfl rfl (Nat.le_of_ble_eq_true rfl) (Nat.le_of_ble_eq_true rfl) (Nat.le_of_ble_eq_true rfl) ?_
  rintro _ _ _ ⟨hx7, hI8, hL9⟩
  have hx7 := hx7.symm; subst hx7
  have hI8 := hI8.symm; subst hI8; have hL9 := hL9.symm; subst hL9
  rw [z2]
  refine k_iload C rfl rfl rfl ?_
  refine k_icmp_eq C (t := 2579) rfl rfl rfl (fun _ => ?_) (fun c2574 => absurd (by decide) c2574)
  refine k_iload C rfl rfl rfl ?_
  refine k_if_ne C (t := 2596) rfl rfl rfl (fun _ => ?_) (fun c2581 => absurd (by decide) c2581)
  refine k_goto C (pc2 := 2832) rfl rfl ?_
  exact law_tail C S hL (Nat.le_of_ble_eq_true rfl) (Nat.le_of_ble_eq_true rfl) (List.forall_mem_cons.mpr ⟨List.mem_of_getElem? (i := 2) rfl, List.forall_mem_cons.mpr ⟨List.mem_of_getElem? (i := 6) rfl, fun _ h => nomatch h⟩⟩)

set_option maxRecDepth 100000 in
theorem lc_36_yes_n {d : Nat} {V : V_T} {b x m o wh : Nat} {xs : Nat → Int32} {T N : Nat → Nat} {I : IT} {L : LT} {R : RT} {A B : Nat → Prop}  (C : Cl (d + 6) q_law 600002 7302232 law_Po V) (S : SB V) (hL : LSc V b 6 xs) (T_x : T x = 12) (R_x_10 : R x 10 = some wh) (T_wh : T wh = 11) (A_wh : A wh) (J_wh_0 : L wh 0 = 0) (J_wh_1 : L wh 1 = 0) (J_wh_2 : L wh 2 = 0) (T_o : T o = 21) (N_o : N o = 1) (A_o : A o) (T_m : T m = 13) (B_m : B m) (I_m_35 : I m 35 = 0) (I_m_36 : I m 36 = 0) (I_m_37 : I m 37 = 0) (nAB : ∀ a, B a → ¬ A a) (nBo : ¬ B o) (hD : isDc (xs 1)) (hz2 : ¬ xs 2 = 0) : V 2515 [(4, .int 0), (3, .ref o), (2, .ref m), (1, .ref x), (0, .ref b)] [] (T, N, I, L, R) 429 34606 := by
  refine k_aload_n C rfl rfl rfl ?_
  refine k_aload_n C rfl rfl rfl ?_
  refine k_iload C rfl rfl rfl ?_
  refine k_iconst C (x := 1) rfl rfl rfl ?_
  refine k_iadd C rfl rfl ?_
  refine ls_i hL (k := 1) rfl rfl (by unfold vp_in; decide) (by decide) ?_
  refine k_aload_n C rfl rfl rfl ?_
  refine k_iload C rfl rfl rfl ?_
  refine k_iconst C (x := 2) rfl rfl rfl ?_
  refine k_iadd C rfl rfl ?_
  refine ls_i hL (k := 2) rfl rfl (by unfold vp_in; decide) (by decide) ?_
  refine k_if_eq C (t := 2535) rfl rfl rfl (fun c2528 => ?_) (fun c2528 => ?_)
  · skip
    exact absurd c2528 hz2
  refine k_iconst C (x := 1) rfl rfl rfl ?_
  refine k_goto C (pc2 := 2536) rfl rfl ?_
  refine k_aload_n C rfl rfl rfl ?_
  refine c_SI C (e_L_classes_yes T_x R_x_10 T_wh A_wh (J_wh_0) (J_wh_1) (J_wh_2) T_o N_o A_o hD (Or.inr rfl)) rfl rfl rfl rfl rfl rfl rfl (Nat.le_of_ble_eq_true rfl) (Nat.le_of_ble_eq_true rfl) (Nat.le_of_ble_eq_true rfl) ?_
  intro x2537 I2537 L2537 h2537
  obtain ⟨rfl, f1, v1⟩ := h2537
  refine k_istore C (lw := [(5, .int _), (4, .int _), (3, _), (2, _), (1, _), (0, _)]) rfl rfl (Nat.le_of_ble_eq_true rfl) rfl ?_
  refine k_aload_n C rfl rfl rfl ?_
  refine k_aload_n C rfl rfl rfl ?_
  refine k_iload C rfl rfl rfl ?_
  refine k_iconst C (x := 1) rfl rfl rfl ?_
  refine k_iadd C rfl rfl ?_
  refine ls_i hL (k := 1) rfl rfl (by unfold vp_in; decide) (by decide) ?_
  refine k_aload_n C rfl rfl rfl ?_
  refine k_iload C rfl rfl rfl ?_
  refine k_iconst C (x := 2) rfl rfl rfl ?_
  refine k_iadd C rfl rfl ?_
  refine ls_i hL (k := 2) rfl rfl (by unfold vp_in; decide) (by decide) ?_
  refine k_if_eq C (t := 2562) rfl rfl rfl (fun c2555 => ?_) (fun c2555 => ?_)
  · skip
    exact absurd c2555 hz2
  refine k_iconst C (x := 1) rfl rfl rfl ?_
  refine k_goto C (pc2 := 2563) rfl rfl ?_
  refine c_VI C (e_m_classes_yes T_m B_m (((congrFun (f1 m (nAB m B_m)).1 35).trans I_m_35)) (((congrFun (f1 m (nAB m B_m)).1 36).trans I_m_36)) (((congrFun (f1 m (nAB m B_m)).1 37).trans I_m_37)) hD (Or.inr rfl)) rfl rfl rfl rfl rfl ⟨_, rfl, rfl, T_m, Nat.le_of_ble_eq_true rfl⟩ rfl rfl (Nat.le_of_ble_eq_true rfl) (Nat.le_of_ble_eq_true rfl) (Nat.le_of_ble_eq_true rfl) ?_
  intro x2563 I2563 L2563 h2563
  obtain ⟨rfl, f2, z2⟩ := h2563
  refine k_istore C (lw := [(6, .int _), (5, .int _), (4, .int _), (3, _), (2, _), (1, _), (0, _)]) rfl rfl (Nat.le_of_ble_eq_true rfl) rfl ?_
  refine k_aload_n C rfl rfl rfl ?_
  refine c_VI C (e_thrown T_m ) rfl rfl rfl rfl rfl ⟨_, rfl, rfl, T_m, Nat.le_of_ble_eq_true rfl⟩ rfl rfl (Nat.le_of_ble_eq_true rfl) (Nat.le_of_ble_eq_true rfl) (Nat.le_of_ble_eq_true rfl) ?_
  rintro _ _ _ ⟨hx7, hI8, hL9⟩
  have hx7 := hx7.symm; subst hx7
  have hI8 := hI8.symm; subst hI8; have hL9 := hL9.symm; subst hL9
  rw [z2]
  refine k_iload C rfl rfl rfl ?_
  refine k_icmp_eq C (t := 2579) rfl rfl rfl (fun _ => ?_) (fun c2574 => absurd (by decide) c2574)
  refine k_iload C rfl rfl rfl ?_
  refine k_if_ne C (t := 2596) rfl rfl rfl (fun c2581 => absurd c2581 (by decide)) (fun _ => ?_)
  refine k_aload_n C rfl rfl rfl ?_
  refine k_iconst C (x := 0) rfl rfl rfl ?_
  refine a_L C rfl rfl T_o (vin (n := 0) rfl (by rw [N_o]; exact Nat.le_of_ble_eq_true rfl) (by rw [N_o]; exact Nat.le_of_ble_eq_true rfl)) ((congrFun (f2 o nBo).2 0).trans v1) ?_
  refine k_iload C rfl rfl rfl ?_
  refine k_i2l C rfl rfl ?_
  refine k_lcmp C rfl rfl ?_
  refine k_if_eq C (t := 2596) rfl rfl rfl (fun c2591 => ?_) (fun c2591 => ?_)
  · skip
    refine k_goto C (pc2 := 2832) rfl rfl ?_
    exact law_tail C S hL (Nat.le_of_ble_eq_true rfl) (Nat.le_of_ble_eq_true rfl) (List.forall_mem_cons.mpr ⟨List.mem_of_getElem? (i := 2) rfl, List.forall_mem_cons.mpr ⟨List.mem_of_getElem? (i := 6) rfl, fun _ h => nomatch h⟩⟩)
  exact absurd ((lg_cmp_eq _ _).mpr rfl) c2591

set_option maxRecDepth 100000 in
theorem lc_37_no1 {d : Nat} {V : V_T} {b x m o : Nat} {xs : Nat → Int32} {T N : Nat → Nat} {I : IT} {L : LT} {R : RT} {A B : Nat → Prop}  (C : Cl (d + 5) q_law 600002 7302232 law_Po V) (S : SB V) (hL : LSc V b 6 xs) (T_x : T x = 12) (T_m : T m = 13) (B_m : B m) (h : ¬ isDc (xs 1)) : V 2599 [(4, .int 0), (3, .ref o), (2, .ref m), (1, .ref x), (0, .ref b)] [] (T, N, I, L, R) 429 34606 := by
  refine k_aload_n C rfl rfl rfl ?_
  refine k_aload_n C rfl rfl rfl ?_
  refine k_iload C rfl rfl rfl ?_
  refine k_iconst C (x := 1) rfl rfl rfl ?_
  refine k_iadd C rfl rfl ?_
  refine ls_i hL (k := 1) rfl rfl (by unfold vp_in; decide) (by decide) ?_
  refine k_aload_n C rfl rfl rfl ?_
  refine k_iload C rfl rfl rfl ?_
  refine k_iconst C (x := 2) rfl rfl rfl ?_
  refine k_iadd C rfl rfl ?_
  refine ls_i hL (k := 2) rfl rfl (by unfold vp_in; decide) (by decide) ?_
  refine k_aload_n C rfl rfl rfl ?_
  refine k_iload C rfl rfl rfl ?_
  refine k_iconst C (x := 3) rfl rfl rfl ?_
  refine k_iadd C rfl rfl ?_
  refine ls_i hL (k := 3) rfl rfl (by unfold vp_in; decide) (by decide) ?_
  refine k_aload_n C rfl rfl rfl ?_
  refine c_SI C (e_L_reducedAt_no1 T_x h) rfl rfl rfl rfl rfl rfl rfl (Nat.le_of_ble_eq_true rfl) (Nat.le_of_ble_eq_true rfl) (Nat.le_of_ble_eq_true rfl) ?_
  rintro _ _ _ ⟨hx7, hI8, hL9⟩
  have hx7 := hx7.symm; subst hx7
  have hI8 := hI8.symm; subst hI8; have hL9 := hL9.symm; subst hL9
  refine k_istore C (lw := [(5, .int _), (4, .int _), (3, _), (2, _), (1, _), (0, _)]) rfl rfl (Nat.le_of_ble_eq_true rfl) rfl ?_
  refine k_aload_n C rfl rfl rfl ?_
  refine k_aload_n C rfl rfl rfl ?_
  refine k_iload C rfl rfl rfl ?_
  refine k_iconst C (x := 1) rfl rfl rfl ?_
  refine k_iadd C rfl rfl ?_
  refine ls_i hL (k := 1) rfl rfl (by unfold vp_in; decide) (by decide) ?_
  refine k_aload_n C rfl rfl rfl ?_
  refine k_iload C rfl rfl rfl ?_
  refine k_iconst C (x := 2) rfl rfl rfl ?_
  refine k_iadd C rfl rfl ?_
  refine ls_i hL (k := 2) rfl rfl (by unfold vp_in; decide) (by decide) ?_
  refine k_aload_n C rfl rfl rfl ?_
  refine k_iload C rfl rfl rfl ?_
  refine k_iconst C (x := 3) rfl rfl rfl ?_
  refine k_iadd C rfl rfl ?_
  refine ls_i hL (k := 3) rfl rfl (by unfold vp_in; decide) (by decide) ?_
  refine c_VI C (e_m_reducedAt_no1 T_m B_m h) rfl rfl rfl rfl rfl ⟨_, rfl, rfl, T_m, Nat.le_of_ble_eq_true rfl⟩ rfl rfl (Nat.le_of_ble_eq_true rfl) (Nat.le_of_ble_eq_true rfl) (Nat.le_of_ble_eq_true rfl) ?_
  intro x2643 I2643 L2643 h2643
  obtain ⟨f2, z2⟩ := h2643
  refine k_istore C (lw := [(6, .int _), (5, .int _), (4, .int _), (3, _), (2, _), (1, _), (0, _)]) rfl rfl (Nat.le_of_ble_eq_true rfl) rfl ?_
  refine k_aload_n C rfl rfl rfl ?_
  refine c_VI C (e_thrown T_m ) rfl rfl rfl rfl rfl ⟨_, rfl, rfl, T_m, Nat.le_of_ble_eq_true rfl⟩ rfl rfl (Nat.le_of_ble_eq_true rfl) (Nat.le_of_ble_eq_true rfl) (Nat.le_of_ble_eq_true rfl) ?_
  rintro _ _ _ ⟨hx7, hI8, hL9⟩
  have hx7 := hx7.symm; subst hx7
  have hI8 := hI8.symm; subst hI8; have hL9 := hL9.symm; subst hL9
  rw [z2]
  refine k_iload C rfl rfl rfl ?_
  refine k_icmp_eq C (t := 2659) rfl rfl rfl (fun _ => ?_) (fun c2654 => absurd (by decide) c2654)
  refine k_iload C rfl rfl rfl ?_
  refine k_if_ne C (t := 2676) rfl rfl rfl (fun _ => ?_) (fun c2661 => absurd (by decide) c2661)
  refine k_goto C (pc2 := 2832) rfl rfl ?_
  exact law_tail C S hL (Nat.le_of_ble_eq_true rfl) (Nat.le_of_ble_eq_true rfl) (List.forall_mem_cons.mpr ⟨List.mem_of_getElem? (i := 2) rfl, List.forall_mem_cons.mpr ⟨List.mem_of_getElem? (i := 6) rfl, fun _ h => nomatch h⟩⟩)

set_option maxRecDepth 100000 in
theorem lc_37_no2 {d : Nat} {V : V_T} {b x m o : Nat} {xs : Nat → Int32} {T N : Nat → Nat} {I : IT} {L : LT} {R : RT} {A B : Nat → Prop}  (C : Cl (d + 5) q_law 600002 7302232 law_Po V) (S : SB V) (hL : LSc V b 6 xs) (T_x : T x = 12) (T_m : T m = 13) (B_m : B m) (hD : isDc (xs 1)) (hk : xs 2 < 0) : V 2599 [(4, .int 0), (3, .ref o), (2, .ref m), (1, .ref x), (0, .ref b)] [] (T, N, I, L, R) 429 34606 := by
  refine k_aload_n C rfl rfl rfl ?_
  refine k_aload_n C rfl rfl rfl ?_
  refine k_iload C rfl rfl rfl ?_
  refine k_iconst C (x := 1) rfl rfl rfl ?_
  refine k_iadd C rfl rfl ?_
  refine ls_i hL (k := 1) rfl rfl (by unfold vp_in; decide) (by decide) ?_
  refine k_aload_n C rfl rfl rfl ?_
  refine k_iload C rfl rfl rfl ?_
  refine k_iconst C (x := 2) rfl rfl rfl ?_
  refine k_iadd C rfl rfl ?_
  refine ls_i hL (k := 2) rfl rfl (by unfold vp_in; decide) (by decide) ?_
  refine k_aload_n C rfl rfl rfl ?_
  refine k_iload C rfl rfl rfl ?_
  refine k_iconst C (x := 3) rfl rfl rfl ?_
  refine k_iadd C rfl rfl ?_
  refine ls_i hL (k := 3) rfl rfl (by unfold vp_in; decide) (by decide) ?_
  refine k_aload_n C rfl rfl rfl ?_
  refine c_SI C (e_L_reducedAt_no2 T_x hD hk) rfl rfl rfl rfl rfl rfl rfl (Nat.le_of_ble_eq_true rfl) (Nat.le_of_ble_eq_true rfl) (Nat.le_of_ble_eq_true rfl) ?_
  rintro _ _ _ ⟨hx7, hI8, hL9⟩
  have hx7 := hx7.symm; subst hx7
  have hI8 := hI8.symm; subst hI8; have hL9 := hL9.symm; subst hL9
  refine k_istore C (lw := [(5, .int _), (4, .int _), (3, _), (2, _), (1, _), (0, _)]) rfl rfl (Nat.le_of_ble_eq_true rfl) rfl ?_
  refine k_aload_n C rfl rfl rfl ?_
  refine k_aload_n C rfl rfl rfl ?_
  refine k_iload C rfl rfl rfl ?_
  refine k_iconst C (x := 1) rfl rfl rfl ?_
  refine k_iadd C rfl rfl ?_
  refine ls_i hL (k := 1) rfl rfl (by unfold vp_in; decide) (by decide) ?_
  refine k_aload_n C rfl rfl rfl ?_
  refine k_iload C rfl rfl rfl ?_
  refine k_iconst C (x := 2) rfl rfl rfl ?_
  refine k_iadd C rfl rfl ?_
  refine ls_i hL (k := 2) rfl rfl (by unfold vp_in; decide) (by decide) ?_
  refine k_aload_n C rfl rfl rfl ?_
  refine k_iload C rfl rfl rfl ?_
  refine k_iconst C (x := 3) rfl rfl rfl ?_
  refine k_iadd C rfl rfl ?_
  refine ls_i hL (k := 3) rfl rfl (by unfold vp_in; decide) (by decide) ?_
  refine c_VI C (e_m_reducedAt_no2 T_m B_m hD hk) rfl rfl rfl rfl rfl ⟨_, rfl, rfl, T_m, Nat.le_of_ble_eq_true rfl⟩ rfl rfl (Nat.le_of_ble_eq_true rfl) (Nat.le_of_ble_eq_true rfl) (Nat.le_of_ble_eq_true rfl) ?_
  intro x2643 I2643 L2643 h2643
  obtain ⟨f2, z2⟩ := h2643
  refine k_istore C (lw := [(6, .int _), (5, .int _), (4, .int _), (3, _), (2, _), (1, _), (0, _)]) rfl rfl (Nat.le_of_ble_eq_true rfl) rfl ?_
  refine k_aload_n C rfl rfl rfl ?_
  refine c_VI C (e_thrown T_m ) rfl rfl rfl rfl rfl ⟨_, rfl, rfl, T_m, Nat.le_of_ble_eq_true rfl⟩ rfl rfl (Nat.le_of_ble_eq_true rfl) (Nat.le_of_ble_eq_true rfl) (Nat.le_of_ble_eq_true rfl) ?_
  rintro _ _ _ ⟨hx7, hI8, hL9⟩
  have hx7 := hx7.symm; subst hx7
  have hI8 := hI8.symm; subst hI8; have hL9 := hL9.symm; subst hL9
  rw [z2]
  refine k_iload C rfl rfl rfl ?_
  refine k_icmp_eq C (t := 2659) rfl rfl rfl (fun _ => ?_) (fun c2654 => absurd (by decide) c2654)
  refine k_iload C rfl rfl rfl ?_
  refine k_if_ne C (t := 2676) rfl rfl rfl (fun _ => ?_) (fun c2661 => absurd (by decide) c2661)
  refine k_goto C (pc2 := 2832) rfl rfl ?_
  exact law_tail C S hL (Nat.le_of_ble_eq_true rfl) (Nat.le_of_ble_eq_true rfl) (List.forall_mem_cons.mpr ⟨List.mem_of_getElem? (i := 2) rfl, List.forall_mem_cons.mpr ⟨List.mem_of_getElem? (i := 6) rfl, fun _ h => nomatch h⟩⟩)

set_option maxRecDepth 100000 in
theorem lc_37_nse {d : Nat} {V : V_T} {b x m o : Nat} {xs : Nat → Int32} {T N : Nat → Nat} {I : IT} {L : LT} {R : RT} {A B : Nat → Prop}  (C : Cl (d + 5) q_law 600002 7302232 law_Po V) (S : SB V) (hL : LSc V b 6 xs) (T_x : T x = 12) (T_m : T m = 13) (B_m : B m) (hD : isDc (xs 1)) (hk : 0 ≤ xs 2) (hn : ¬ (0 ≤ (xs 3).toInt ∧ (xs 3).toInt ≤ 2)) : V 2599 [(4, .int 0), (3, .ref o), (2, .ref m), (1, .ref x), (0, .ref b)] [] (T, N, I, L, R) 429 34606 := by
  refine k_aload_n C rfl rfl rfl ?_
  refine k_aload_n C rfl rfl rfl ?_
  refine k_iload C rfl rfl rfl ?_
  refine k_iconst C (x := 1) rfl rfl rfl ?_
  refine k_iadd C rfl rfl ?_
  refine ls_i hL (k := 1) rfl rfl (by unfold vp_in; decide) (by decide) ?_
  refine k_aload_n C rfl rfl rfl ?_
  refine k_iload C rfl rfl rfl ?_
  refine k_iconst C (x := 2) rfl rfl rfl ?_
  refine k_iadd C rfl rfl ?_
  refine ls_i hL (k := 2) rfl rfl (by unfold vp_in; decide) (by decide) ?_
  refine k_aload_n C rfl rfl rfl ?_
  refine k_iload C rfl rfl rfl ?_
  refine k_iconst C (x := 3) rfl rfl rfl ?_
  refine k_iadd C rfl rfl ?_
  refine ls_i hL (k := 3) rfl rfl (by unfold vp_in; decide) (by decide) ?_
  refine k_aload_n C rfl rfl rfl ?_
  refine c_SI C (e_L_reducedAt_nse T_x hD hk hn) rfl rfl rfl rfl rfl rfl rfl (Nat.le_of_ble_eq_true rfl) (Nat.le_of_ble_eq_true rfl) (Nat.le_of_ble_eq_true rfl) ?_
  rintro _ _ _ ⟨hx7, hI8, hL9⟩
  have hx7 := hx7.symm; subst hx7
  have hI8 := hI8.symm; subst hI8; have hL9 := hL9.symm; subst hL9
  refine k_istore C (lw := [(5, .int _), (4, .int _), (3, _), (2, _), (1, _), (0, _)]) rfl rfl (Nat.le_of_ble_eq_true rfl) rfl ?_
  refine k_aload_n C rfl rfl rfl ?_
  refine k_aload_n C rfl rfl rfl ?_
  refine k_iload C rfl rfl rfl ?_
  refine k_iconst C (x := 1) rfl rfl rfl ?_
  refine k_iadd C rfl rfl ?_
  refine ls_i hL (k := 1) rfl rfl (by unfold vp_in; decide) (by decide) ?_
  refine k_aload_n C rfl rfl rfl ?_
  refine k_iload C rfl rfl rfl ?_
  refine k_iconst C (x := 2) rfl rfl rfl ?_
  refine k_iadd C rfl rfl ?_
  refine ls_i hL (k := 2) rfl rfl (by unfold vp_in; decide) (by decide) ?_
  refine k_aload_n C rfl rfl rfl ?_
  refine k_iload C rfl rfl rfl ?_
  refine k_iconst C (x := 3) rfl rfl rfl ?_
  refine k_iadd C rfl rfl ?_
  refine ls_i hL (k := 3) rfl rfl (by unfold vp_in; decide) (by decide) ?_
  refine c_VI C (e_m_reducedAt_nse T_m B_m hD hk hn) rfl rfl rfl rfl rfl ⟨_, rfl, rfl, T_m, Nat.le_of_ble_eq_true rfl⟩ rfl rfl (Nat.le_of_ble_eq_true rfl) (Nat.le_of_ble_eq_true rfl) (Nat.le_of_ble_eq_true rfl) ?_
  intro x2643 I2643 L2643 h2643
  obtain ⟨f2, z2⟩ := h2643
  refine k_istore C (lw := [(6, .int _), (5, .int _), (4, .int _), (3, _), (2, _), (1, _), (0, _)]) rfl rfl (Nat.le_of_ble_eq_true rfl) rfl ?_
  refine k_aload_n C rfl rfl rfl ?_
  refine c_VI C (e_thrown T_m ) rfl rfl rfl rfl rfl ⟨_, rfl, rfl, T_m, Nat.le_of_ble_eq_true rfl⟩ rfl rfl (Nat.le_of_ble_eq_true rfl) (Nat.le_of_ble_eq_true rfl) (Nat.le_of_ble_eq_true rfl) ?_
  rintro _ _ _ ⟨hx7, hI8, hL9⟩
  have hx7 := hx7.symm; subst hx7
  have hI8 := hI8.symm; subst hI8; have hL9 := hL9.symm; subst hL9
  rw [z2]
  refine k_iload C rfl rfl rfl ?_
  refine k_icmp_eq C (t := 2659) rfl rfl rfl (fun _ => ?_) (fun c2654 => absurd (by decide) c2654)
  refine k_iload C rfl rfl rfl ?_
  refine k_if_ne C (t := 2676) rfl rfl rfl (fun _ => ?_) (fun c2661 => absurd (by decide) c2661)
  refine k_goto C (pc2 := 2832) rfl rfl ?_
  exact law_tail C S hL (Nat.le_of_ble_eq_true rfl) (Nat.le_of_ble_eq_true rfl) (List.forall_mem_cons.mpr ⟨List.mem_of_getElem? (i := 2) rfl, List.forall_mem_cons.mpr ⟨List.mem_of_getElem? (i := 6) rfl, fun _ h => nomatch h⟩⟩)

set_option maxRecDepth 100000 in
theorem lc_37_yes {d : Nat} {V : V_T} {b x m o wh : Nat} {xs : Nat → Int32} {T N : Nat → Nat} {I : IT} {L : LT} {R : RT} {A B : Nat → Prop}  (C : Cl (d + 6) q_law 600002 7302232 law_Po V) (S : SB V) (hL : LSc V b 6 xs) (T_x : T x = 12) (R_x_10 : R x 10 = some wh) (T_wh : T wh = 11) (A_wh : A wh) (J_wh_0 : L wh 0 = 0) (J_wh_1 : L wh 1 = 0) (J_wh_2 : L wh 2 = 0) (T_o : T o = 21) (N_o : N o = 1) (A_o : A o) (T_m : T m = 13) (B_m : B m) (I_m_35 : I m 35 = 0) (I_m_36 : I m 36 = 0) (I_m_37 : I m 37 = 0) (nAB : ∀ a, B a → ¬ A a) (nBo : ¬ B o) (hD : isDc (xs 1)) (hk : 0 ≤ xs 2) (hn : 0 ≤ (xs 3).toInt ∧ (xs 3).toInt ≤ 2) : V 2599 [(4, .int 0), (3, .ref o), (2, .ref m), (1, .ref x), (0, .ref b)] [] (T, N, I, L, R) 429 34606 := by
  refine k_aload_n C rfl rfl rfl ?_
  refine k_aload_n C rfl rfl rfl ?_
  refine k_iload C rfl rfl rfl ?_
  refine k_iconst C (x := 1) rfl rfl rfl ?_
  refine k_iadd C rfl rfl ?_
  refine ls_i hL (k := 1) rfl rfl (by unfold vp_in; decide) (by decide) ?_
  refine k_aload_n C rfl rfl rfl ?_
  refine k_iload C rfl rfl rfl ?_
  refine k_iconst C (x := 2) rfl rfl rfl ?_
  refine k_iadd C rfl rfl ?_
  refine ls_i hL (k := 2) rfl rfl (by unfold vp_in; decide) (by decide) ?_
  refine k_aload_n C rfl rfl rfl ?_
  refine k_iload C rfl rfl rfl ?_
  refine k_iconst C (x := 3) rfl rfl rfl ?_
  refine k_iadd C rfl rfl ?_
  refine ls_i hL (k := 3) rfl rfl (by unfold vp_in; decide) (by decide) ?_
  refine k_aload_n C rfl rfl rfl ?_
  refine c_SI C (e_L_reducedAt_yes T_x R_x_10 T_wh A_wh (J_wh_0) (J_wh_1) (J_wh_2) T_o N_o A_o hD hk hn) rfl rfl rfl rfl rfl rfl rfl (Nat.le_of_ble_eq_true rfl) (Nat.le_of_ble_eq_true rfl) (Nat.le_of_ble_eq_true rfl) ?_
  intro x2619 I2619 L2619 h2619
  obtain ⟨rfl, f1, v1⟩ := h2619
  refine k_istore C (lw := [(5, .int _), (4, .int _), (3, _), (2, _), (1, _), (0, _)]) rfl rfl (Nat.le_of_ble_eq_true rfl) rfl ?_
  refine k_aload_n C rfl rfl rfl ?_
  refine k_aload_n C rfl rfl rfl ?_
  refine k_iload C rfl rfl rfl ?_
  refine k_iconst C (x := 1) rfl rfl rfl ?_
  refine k_iadd C rfl rfl ?_
  refine ls_i hL (k := 1) rfl rfl (by unfold vp_in; decide) (by decide) ?_
  refine k_aload_n C rfl rfl rfl ?_
  refine k_iload C rfl rfl rfl ?_
  refine k_iconst C (x := 2) rfl rfl rfl ?_
  refine k_iadd C rfl rfl ?_
  refine ls_i hL (k := 2) rfl rfl (by unfold vp_in; decide) (by decide) ?_
  refine k_aload_n C rfl rfl rfl ?_
  refine k_iload C rfl rfl rfl ?_
  refine k_iconst C (x := 3) rfl rfl rfl ?_
  refine k_iadd C rfl rfl ?_
  refine ls_i hL (k := 3) rfl rfl (by unfold vp_in; decide) (by decide) ?_
  refine c_VI C (e_m_reducedAt_yes T_m B_m (((congrFun (f1 m (nAB m B_m)).1 35).trans I_m_35)) (((congrFun (f1 m (nAB m B_m)).1 36).trans I_m_36)) (((congrFun (f1 m (nAB m B_m)).1 37).trans I_m_37)) hD hk hn) rfl rfl rfl rfl rfl ⟨_, rfl, rfl, T_m, Nat.le_of_ble_eq_true rfl⟩ rfl rfl (Nat.le_of_ble_eq_true rfl) (Nat.le_of_ble_eq_true rfl) (Nat.le_of_ble_eq_true rfl) ?_
  intro x2643 I2643 L2643 h2643
  obtain ⟨rfl, f2, z2⟩ := h2643
  refine k_istore C (lw := [(6, .int _), (5, .int _), (4, .int _), (3, _), (2, _), (1, _), (0, _)]) rfl rfl (Nat.le_of_ble_eq_true rfl) rfl ?_
  refine k_aload_n C rfl rfl rfl ?_
  refine c_VI C (e_thrown T_m ) rfl rfl rfl rfl rfl ⟨_, rfl, rfl, T_m, Nat.le_of_ble_eq_true rfl⟩ rfl rfl (Nat.le_of_ble_eq_true rfl) (Nat.le_of_ble_eq_true rfl) (Nat.le_of_ble_eq_true rfl) ?_
  rintro _ _ _ ⟨hx7, hI8, hL9⟩
  have hx7 := hx7.symm; subst hx7
  have hI8 := hI8.symm; subst hI8; have hL9 := hL9.symm; subst hL9
  rw [z2]
  refine k_iload C rfl rfl rfl ?_
  refine k_icmp_eq C (t := 2659) rfl rfl rfl (fun _ => ?_) (fun c2654 => absurd (by decide) c2654)
  refine k_iload C rfl rfl rfl ?_
  refine k_if_ne C (t := 2676) rfl rfl rfl (fun c2661 => absurd c2661 (by decide)) (fun _ => ?_)
  refine k_aload_n C rfl rfl rfl ?_
  refine k_iconst C (x := 0) rfl rfl rfl ?_
  refine a_L C rfl rfl T_o (vin (n := 0) rfl (by rw [N_o]; exact Nat.le_of_ble_eq_true rfl) (by rw [N_o]; exact Nat.le_of_ble_eq_true rfl)) ((congrFun (f2 o nBo).2 0).trans v1) ?_
  refine k_iload C rfl rfl rfl ?_
  refine k_i2l C rfl rfl ?_
  refine k_lcmp C rfl rfl ?_
  refine k_if_eq C (t := 2676) rfl rfl rfl (fun c2671 => ?_) (fun c2671 => ?_)
  · skip
    refine k_goto C (pc2 := 2832) rfl rfl ?_
    exact law_tail C S hL (Nat.le_of_ble_eq_true rfl) (Nat.le_of_ble_eq_true rfl) (List.forall_mem_cons.mpr ⟨List.mem_of_getElem? (i := 2) rfl, List.forall_mem_cons.mpr ⟨List.mem_of_getElem? (i := 6) rfl, fun _ h => nomatch h⟩⟩)
  exact absurd ((lg_cmp_eq _ _).mpr rfl) c2671

set_option maxRecDepth 100000 in
theorem lc_38_no {d : Nat} {V : V_T} {b x m o : Nat} {xs : Nat → Int32} {T N : Nat → Nat} {I : IT} {L : LT} {R : RT} {A B : Nat → Prop}  (C : Cl (d + 4) q_law 600002 7302232 law_Po V) (S : SB V) (hL : LSc V b 6 xs) (T_x : T x = 12) (T_m : T m = 13) (B_m : B m) (h : ¬ okReal (xs 1) (xs 2) (xs 3) (xs 4) (xs 5)) : V 2679 [(4, .int 0), (3, .ref o), (2, .ref m), (1, .ref x), (0, .ref b)] [] (T, N, I, L, R) 429 34606 := by
  refine k_aload_n C rfl rfl rfl ?_
  refine k_aload_n C rfl rfl rfl ?_
  refine k_iload C rfl rfl rfl ?_
  refine k_iconst C (x := 1) rfl rfl rfl ?_
  refine k_iadd C rfl rfl ?_
  refine ls_i hL (k := 1) rfl rfl (by unfold vp_in; decide) (by decide) ?_
  refine k_aload_n C rfl rfl rfl ?_
  refine k_iload C rfl rfl rfl ?_
  refine k_iconst C (x := 2) rfl rfl rfl ?_
  refine k_iadd C rfl rfl ?_
  refine ls_i hL (k := 2) rfl rfl (by unfold vp_in; decide) (by decide) ?_
  refine k_aload_n C rfl rfl rfl ?_
  refine k_iload C rfl rfl rfl ?_
  refine k_iconst C (x := 3) rfl rfl rfl ?_
  refine k_iadd C rfl rfl ?_
  refine ls_i hL (k := 3) rfl rfl (by unfold vp_in; decide) (by decide) ?_
  refine k_aload_n C rfl rfl rfl ?_
  refine k_iload C rfl rfl rfl ?_
  refine k_iconst C (x := 4) rfl rfl rfl ?_
  refine k_iadd C rfl rfl ?_
  refine ls_i hL (k := 4) rfl rfl (by unfold vp_in; decide) (by decide) ?_
  refine k_aload_n C rfl rfl rfl ?_
  refine k_iload C rfl rfl rfl ?_
  refine k_iconst C (x := 5) rfl rfl rfl ?_
  refine k_iadd C rfl rfl ?_
  refine ls_i hL (k := 5) rfl rfl (by unfold vp_in; decide) (by decide) ?_
  refine k_aload_n C rfl rfl rfl ?_
  refine c_SI C (e_L_real_no T_x h) rfl rfl rfl rfl rfl rfl rfl (Nat.le_of_ble_eq_true rfl) (Nat.le_of_ble_eq_true rfl) (Nat.le_of_ble_eq_true rfl) ?_
  rintro _ _ _ ⟨hx7, hI8, hL9⟩
  have hx7 := hx7.symm; subst hx7
  have hI8 := hI8.symm; subst hI8; have hL9 := hL9.symm; subst hL9
  refine k_istore C (lw := [(5, .int _), (4, .int _), (3, _), (2, _), (1, _), (0, _)]) rfl rfl (Nat.le_of_ble_eq_true rfl) rfl ?_
  refine k_aload_n C rfl rfl rfl ?_
  refine k_aload_n C rfl rfl rfl ?_
  refine k_iload C rfl rfl rfl ?_
  refine k_iconst C (x := 1) rfl rfl rfl ?_
  refine k_iadd C rfl rfl ?_
  refine ls_i hL (k := 1) rfl rfl (by unfold vp_in; decide) (by decide) ?_
  refine k_aload_n C rfl rfl rfl ?_
  refine k_iload C rfl rfl rfl ?_
  refine k_iconst C (x := 2) rfl rfl rfl ?_
  refine k_iadd C rfl rfl ?_
  refine ls_i hL (k := 2) rfl rfl (by unfold vp_in; decide) (by decide) ?_
  refine k_aload_n C rfl rfl rfl ?_
  refine k_iload C rfl rfl rfl ?_
  refine k_iconst C (x := 3) rfl rfl rfl ?_
  refine k_iadd C rfl rfl ?_
  refine ls_i hL (k := 3) rfl rfl (by unfold vp_in; decide) (by decide) ?_
  refine k_aload_n C rfl rfl rfl ?_
  refine k_iload C rfl rfl rfl ?_
  refine k_iconst C (x := 4) rfl rfl rfl ?_
  refine k_iadd C rfl rfl ?_
  refine ls_i hL (k := 4) rfl rfl (by unfold vp_in; decide) (by decide) ?_
  refine k_aload_n C rfl rfl rfl ?_
  refine k_iload C rfl rfl rfl ?_
  refine k_iconst C (x := 5) rfl rfl rfl ?_
  refine k_iadd C rfl rfl ?_
  refine ls_i hL (k := 5) rfl rfl (by unfold vp_in; decide) (by decide) ?_
  refine c_VI C (e_m_real_no T_m B_m h) rfl rfl rfl rfl rfl ⟨_, rfl, rfl, T_m, Nat.le_of_ble_eq_true rfl⟩ rfl rfl (Nat.le_of_ble_eq_true rfl) (Nat.le_of_ble_eq_true rfl) (Nat.le_of_ble_eq_true rfl) ?_
  intro x2747 I2747 L2747 h2747
  obtain ⟨f2, z2⟩ := h2747
  refine k_istore C (lw := [(6, .int _), (5, .int _), (4, .int _), (3, _), (2, _), (1, _), (0, _)]) rfl rfl (Nat.le_of_ble_eq_true rfl) rfl ?_
  refine k_aload_n C rfl rfl rfl ?_
  refine c_VI C (e_thrown T_m ) rfl rfl rfl rfl rfl ⟨_, rfl, rfl, T_m, Nat.le_of_ble_eq_true rfl⟩ rfl rfl (Nat.le_of_ble_eq_true rfl) (Nat.le_of_ble_eq_true rfl) (Nat.le_of_ble_eq_true rfl) ?_
  rintro _ _ _ ⟨hx7, hI8, hL9⟩
  have hx7 := hx7.symm; subst hx7
  have hI8 := hI8.symm; subst hI8; have hL9 := hL9.symm; subst hL9
  rw [z2]
  refine k_iload C rfl rfl rfl ?_
  refine k_icmp_eq C (t := 2763) rfl rfl rfl (fun _ => ?_) (fun c2758 => absurd (by decide) c2758)
  refine k_iload C rfl rfl rfl ?_
  refine k_if_ne C (t := 2780) rfl rfl rfl (fun _ => ?_) (fun c2765 => absurd (by decide) c2765)
  refine k_goto C (pc2 := 2832) rfl rfl ?_
  exact law_tail C S hL (Nat.le_of_ble_eq_true rfl) (Nat.le_of_ble_eq_true rfl) (List.forall_mem_cons.mpr ⟨List.mem_of_getElem? (i := 2) rfl, List.forall_mem_cons.mpr ⟨List.mem_of_getElem? (i := 6) rfl, fun _ h => nomatch h⟩⟩)

set_option maxRecDepth 100000 in
theorem lc_38_yes {d : Nat} {V : V_T} {b x m o : Nat} {xs : Nat → Int32} {T N : Nat → Nat} {I : IT} {L : LT} {R : RT} {A B : Nat → Prop}  (C : Cl (d + 5) q_law 600002 7302232 law_Po V) (S : SB V) (hL : LSc V b 6 xs) (T_x : T x = 12) (T_o : T o = 21) (N_o : N o = 1) (A_o : A o) (T_m : T m = 13) (B_m : B m) (nAB : ∀ a, B a → ¬ A a) (nBo : ¬ B o) (hok : okReal (xs 1) (xs 2) (xs 3) (xs 4) (xs 5)) : V 2679 [(4, .int 0), (3, .ref o), (2, .ref m), (1, .ref x), (0, .ref b)] [] (T, N, I, L, R) 429 34606 := by
  refine k_aload_n C rfl rfl rfl ?_
  refine k_aload_n C rfl rfl rfl ?_
  refine k_iload C rfl rfl rfl ?_
  refine k_iconst C (x := 1) rfl rfl rfl ?_
  refine k_iadd C rfl rfl ?_
  refine ls_i hL (k := 1) rfl rfl (by unfold vp_in; decide) (by decide) ?_
  refine k_aload_n C rfl rfl rfl ?_
  refine k_iload C rfl rfl rfl ?_
  refine k_iconst C (x := 2) rfl rfl rfl ?_
  refine k_iadd C rfl rfl ?_
  refine ls_i hL (k := 2) rfl rfl (by unfold vp_in; decide) (by decide) ?_
  refine k_aload_n C rfl rfl rfl ?_
  refine k_iload C rfl rfl rfl ?_
  refine k_iconst C (x := 3) rfl rfl rfl ?_
  refine k_iadd C rfl rfl ?_
  refine ls_i hL (k := 3) rfl rfl (by unfold vp_in; decide) (by decide) ?_
  refine k_aload_n C rfl rfl rfl ?_
  refine k_iload C rfl rfl rfl ?_
  refine k_iconst C (x := 4) rfl rfl rfl ?_
  refine k_iadd C rfl rfl ?_
  refine ls_i hL (k := 4) rfl rfl (by unfold vp_in; decide) (by decide) ?_
  refine k_aload_n C rfl rfl rfl ?_
  refine k_iload C rfl rfl rfl ?_
  refine k_iconst C (x := 5) rfl rfl rfl ?_
  refine k_iadd C rfl rfl ?_
  refine ls_i hL (k := 5) rfl rfl (by unfold vp_in; decide) (by decide) ?_
  refine k_aload_n C rfl rfl rfl ?_
  refine c_SI C (e_L_real_yes T_x T_o N_o A_o hok) rfl rfl rfl rfl rfl rfl rfl (Nat.le_of_ble_eq_true rfl) (Nat.le_of_ble_eq_true rfl) (Nat.le_of_ble_eq_true rfl) ?_
  intro x2711 I2711 L2711 h2711
  obtain ⟨rfl, f1, v1⟩ := h2711
  refine k_istore C (lw := [(5, .int _), (4, .int _), (3, _), (2, _), (1, _), (0, _)]) rfl rfl (Nat.le_of_ble_eq_true rfl) rfl ?_
  refine k_aload_n C rfl rfl rfl ?_
  refine k_aload_n C rfl rfl rfl ?_
  refine k_iload C rfl rfl rfl ?_
  refine k_iconst C (x := 1) rfl rfl rfl ?_
  refine k_iadd C rfl rfl ?_
  refine ls_i hL (k := 1) rfl rfl (by unfold vp_in; decide) (by decide) ?_
  refine k_aload_n C rfl rfl rfl ?_
  refine k_iload C rfl rfl rfl ?_
  refine k_iconst C (x := 2) rfl rfl rfl ?_
  refine k_iadd C rfl rfl ?_
  refine ls_i hL (k := 2) rfl rfl (by unfold vp_in; decide) (by decide) ?_
  refine k_aload_n C rfl rfl rfl ?_
  refine k_iload C rfl rfl rfl ?_
  refine k_iconst C (x := 3) rfl rfl rfl ?_
  refine k_iadd C rfl rfl ?_
  refine ls_i hL (k := 3) rfl rfl (by unfold vp_in; decide) (by decide) ?_
  refine k_aload_n C rfl rfl rfl ?_
  refine k_iload C rfl rfl rfl ?_
  refine k_iconst C (x := 4) rfl rfl rfl ?_
  refine k_iadd C rfl rfl ?_
  refine ls_i hL (k := 4) rfl rfl (by unfold vp_in; decide) (by decide) ?_
  refine k_aload_n C rfl rfl rfl ?_
  refine k_iload C rfl rfl rfl ?_
  refine k_iconst C (x := 5) rfl rfl rfl ?_
  refine k_iadd C rfl rfl ?_
  refine ls_i hL (k := 5) rfl rfl (by unfold vp_in; decide) (by decide) ?_
  refine c_VI C (e_m_real_yes T_m B_m hok) rfl rfl rfl rfl rfl ⟨_, rfl, rfl, T_m, Nat.le_of_ble_eq_true rfl⟩ rfl rfl (Nat.le_of_ble_eq_true rfl) (Nat.le_of_ble_eq_true rfl) (Nat.le_of_ble_eq_true rfl) ?_
  intro x2747 I2747 L2747 h2747
  obtain ⟨rfl, f2, z2⟩ := h2747
  refine k_istore C (lw := [(6, .int _), (5, .int _), (4, .int _), (3, _), (2, _), (1, _), (0, _)]) rfl rfl (Nat.le_of_ble_eq_true rfl) rfl ?_
  refine k_aload_n C rfl rfl rfl ?_
  refine c_VI C (e_thrown T_m ) rfl rfl rfl rfl rfl ⟨_, rfl, rfl, T_m, Nat.le_of_ble_eq_true rfl⟩ rfl rfl (Nat.le_of_ble_eq_true rfl) (Nat.le_of_ble_eq_true rfl) (Nat.le_of_ble_eq_true rfl) ?_
  rintro _ _ _ ⟨hx7, hI8, hL9⟩
  have hx7 := hx7.symm; subst hx7
  have hI8 := hI8.symm; subst hI8; have hL9 := hL9.symm; subst hL9
  rw [z2]
  refine k_iload C rfl rfl rfl ?_
  refine k_icmp_eq C (t := 2763) rfl rfl rfl (fun _ => ?_) (fun c2758 => absurd (by decide) c2758)
  refine k_iload C rfl rfl rfl ?_
  refine k_if_ne C (t := 2780) rfl rfl rfl (fun c2765 => absurd c2765 (by decide)) (fun _ => ?_)
  refine k_aload_n C rfl rfl rfl ?_
  refine k_iconst C (x := 0) rfl rfl rfl ?_
  refine a_L C rfl rfl T_o (vin (n := 0) rfl (by rw [N_o]; exact Nat.le_of_ble_eq_true rfl) (by rw [N_o]; exact Nat.le_of_ble_eq_true rfl)) ((congrFun (f2 o nBo).2 0).trans v1) ?_
  refine k_iload C rfl rfl rfl ?_
  refine k_i2l C rfl rfl ?_
  refine k_lcmp C rfl rfl ?_
  refine k_if_eq C (t := 2780) rfl rfl rfl (fun c2775 => ?_) (fun c2775 => ?_)
  · skip
    refine k_goto C (pc2 := 2832) rfl rfl ?_
    exact law_tail C S hL (Nat.le_of_ble_eq_true rfl) (Nat.le_of_ble_eq_true rfl) (List.forall_mem_cons.mpr ⟨List.mem_of_getElem? (i := 2) rfl, List.forall_mem_cons.mpr ⟨List.mem_of_getElem? (i := 6) rfl, fun _ h => nomatch h⟩⟩)
  exact absurd ((lg_cmp_eq _ _).mpr rfl) c2775

