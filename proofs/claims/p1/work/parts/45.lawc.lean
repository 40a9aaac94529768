/-! the law: calls that throw on a new object, 2 -/
set_option maxRecDepth 100000 in
theorem lc_24 {d : Nat} {V : V_T} {b x m o nw w : Nat} {xs : Nat → Int32} {T N : Nat → Nat} {I : IT} {L : LT} {R : RT} {A B : Nat → Prop} (C : Cl (d + 5) q_law 600002 7302232 law_Po V) (S : SB V) (hL : LSc V b 6 xs) (T_x : T x = 12) (R_x_1 : R x 1 = some nw) (T_nw : T nw = 9) (I_nw_2 : I nw 2 = 0) (T_m : T m = 13) (R_m_1 : R m 1 = some w) (T_w : T w = 20) (N_w : N w = 4007) (B_m : B m) (I_w_2 : I w 2 = 0)  : V 1662 [(4, .int 0), (3, .ref o), (2, .ref m), (1, .ref x), (0, .ref b)] [] (T, N, I, L, R) 429 34606 := by
  refine k_aload_n C rfl rfl rfl ?_
  refine k_aload_n C rfl rfl rfl ?_
  refine k_iload C rfl rfl rfl ?_
  refine k_iconst C (x := 1) rfl rfl rfl ?_
  refine k_iadd C rfl rfl ?_
  refine ls_i hL (k := 1) rfl rfl (by unfold vp_in; decide) (by decide) ?_
  refine k_aload_n C rfl rfl rfl ?_
  refine k_iload C rfl rfl rfl ?_
  refine k_iconst C (x := 2) rfl rfl rfl ?_
  refine k_iadd C rfl rfl ?_
  refine ls_i hL (k := 2) rfl rfl (by unfold vp_in; decide) (by decide) ?_
  refine k_aload_n C rfl rfl rfl ?_
  refine c_SI C (e_L_told0 T_x R_x_1 T_nw (I_nw_2) ) rfl rfl rfl rfl rfl rfl rfl (Nat.le_of_ble_eq_true rfl) (Nat.le_of_ble_eq_true rfl) (Nat.le_of_ble_eq_true rfl) ?_
  rintro _ _ _ ⟨hx7, hI8, hL9⟩
  have hx7 := hx7.symm; subst hx7
  have hI8 := hI8.symm; subst hI8; have hL9 := hL9.symm; subst hL9
  refine k_istore C (lw := [(5, .int _), (4, .int _), (3, _), (2, _), (1, _), (0, _)]) rfl rfl (Nat.le_of_ble_eq_true rfl) rfl ?_
  refine k_aload_n C rfl rfl rfl ?_
  refine k_aload_n C rfl rfl rfl ?_
  refine k_iload C rfl rfl rfl ?_
  refine k_iconst C (x := 1) rfl rfl rfl ?_
  refine k_iadd C rfl rfl ?_
  refine ls_i hL (k := 1) rfl rfl (by unfold vp_in; decide) (by decide) ?_
  refine k_aload_n C rfl rfl rfl ?_
  refine k_iload C rfl rfl rfl ?_
  refine k_iconst C (x := 2) rfl rfl rfl ?_
  refine k_iadd C rfl rfl ?_
  refine ls_i hL (k := 2) rfl rfl (by unfold vp_in; decide) (by decide) ?_
  refine c_VI C (e_m_told0 T_m R_m_1 T_w N_w B_m (I_w_2) ) rfl rfl rfl rfl rfl ⟨_, rfl, rfl, T_m, Nat.le_of_ble_eq_true rfl⟩ rfl rfl (Nat.le_of_ble_eq_true rfl) (Nat.le_of_ble_eq_true rfl) (Nat.le_of_ble_eq_true rfl) ?_
  intro x1694 I1694 L1694 h1694
  refine k_istore C (lw := [(6, .int _), (5, .int _), (4, .int _), (3, _), (2, _), (1, _), (0, _)]) rfl rfl (Nat.le_of_ble_eq_true rfl) rfl ?_
  refine k_aload_n C rfl rfl rfl ?_
  refine c_VI C (e_thrown T_m ) rfl rfl rfl rfl rfl ⟨_, rfl, rfl, T_m, Nat.le_of_ble_eq_true rfl⟩ rfl rfl (Nat.le_of_ble_eq_true rfl) (Nat.le_of_ble_eq_true rfl) (Nat.le_of_ble_eq_true rfl) ?_
  rintro _ _ _ ⟨hx7, hI8, hL9⟩
  have hx7 := hx7.symm; subst hx7
  have hI8 := hI8.symm; subst hI8; have hL9 := hL9.symm; subst hL9
  refine k_iload C rfl rfl rfl ?_
  refine k_icmp_eq C (t := 1710) rfl rfl rfl (fun c1705 => ?_) (fun c1705 => ?_)
  · skip
    refine k_iload C rfl rfl rfl ?_
    refine k_if_ne C (t := 1727) rfl rfl rfl (fun _ => ?_) (fun c1712 => absurd (by decide) c1712)
    refine k_goto C (pc2 := 2832) rfl rfl ?_
    exact law_tail C S hL (Nat.le_of_ble_eq_true rfl) (Nat.le_of_ble_eq_true rfl) (List.forall_mem_cons.mpr ⟨List.mem_of_getElem? (i := 2) rfl, List.forall_mem_cons.mpr ⟨List.mem_of_getElem? (i := 6) rfl, fun _ h => nomatch h⟩⟩)
  exact absurd h1694.2 c1705

set_option maxRecDepth 100000 in
theorem lc_25 {d : Nat} {V : V_T} {b x m o nw fr w : Nat} {xs : Nat → Int32} {T N : Nat → Nat} {I : IT} {L : LT} {R : RT} {A B : Nat → Prop} (C : Cl (d + 6) q_law 600002 7302232 law_Po V) (S : SB V) (hL : LSc V b 6 xs) (T_x : T x = 12) (R_x_1 : R x 1 = some nw) (T_nw : T nw = 9) (R_nw_8 : R nw 8 = some fr) (I_nw_1 : I nw 1 = 0) (T_m : T m = 13) (R_m_1 : R m 1 = some w) (T_w : T w = 20) (N_w : N w = 4007) (B_m : B m) (I_w_1 : I w 1 = 0)  : V 1730 [(4, .int 0), (3, .ref o), (2, .ref m), (1, .ref x), (0, .ref b)] [] (T, N, I, L, R) 429 34606 := by
  refine k_aload_n C rfl rfl rfl ?_
  refine k_aload_n C rfl rfl rfl ?_
  refine k_iload C rfl rfl rfl ?_
  refine k_iconst C (x := 1) rfl rfl rfl ?_
  refine k_iadd C rfl rfl ?_
  refine ls_i hL (k := 1) rfl rfl (by unfold vp_in; decide) (by decide) ?_
  refine k_aload_n C rfl rfl rfl ?_
  refine k_iload C rfl rfl rfl ?_
  refine k_iconst C (x := 2) rfl rfl rfl ?_
  refine k_iadd C rfl rfl ?_
  refine ls_i hL (k := 2) rfl rfl (by unfold vp_in; decide) (by decide) ?_
  refine k_aload_n C rfl rfl rfl ?_
  refine k_iload C rfl rfl rfl ?_
  refine k_iconst C (x := 3) rfl rfl rfl ?_
  refine k_iadd C rfl rfl ?_
  refine ls_i hL (k := 3) rfl rfl (by unfold vp_in; decide) (by decide) ?_
  refine k_aload_n C rfl rfl rfl ?_
  refine c_SI C (e_L_quotient0 T_x R_x_1 T_nw R_nw_8 (I_nw_1) ) rfl rfl rfl rfl rfl rfl rfl (Nat.le_of_ble_eq_true rfl) (Nat.le_of_ble_eq_true rfl) (Nat.le_of_ble_eq_true rfl) ?_
  rintro _ _ _ ⟨hx7, hI8, hL9⟩
  have hx7 := hx7.symm; subst hx7
  have hI8 := hI8.symm; subst hI8; have hL9 := hL9.symm; subst hL9
  refine k_istore C (lw := [(5, .int _), (4, .int _), (3, _), (2, _), (1, _), (0, _)]) rfl rfl (Nat.le_of_ble_eq_true rfl) rfl ?_
  refine k_aload_n C rfl rfl rfl ?_
  refine k_aload_n C rfl rfl rfl ?_
  refine k_iload C rfl rfl rfl ?_
  refine k_iconst C (x := 1) rfl rfl rfl ?_
  refine k_iadd C rfl rfl ?_
  refine ls_i hL (k := 1) rfl rfl (by unfold vp_in; decide) (by decide) ?_
  refine k_aload_n C rfl rfl rfl ?_
  refine k_iload C rfl rfl rfl ?_
  refine k_iconst C (x := 2) rfl rfl rfl ?_
  refine k_iadd C rfl rfl ?_
  refine ls_i hL (k := 2) rfl rfl (by unfold vp_in; decide) (by decide) ?_
  refine k_aload_n C rfl rfl rfl ?_
  refine k_iload C rfl rfl rfl ?_
  refine k_iconst C (x := 3) rfl rfl rfl ?_
  refine k_iadd C rfl rfl ?_
  refine ls_i hL (k := 3) rfl rfl (by unfold vp_in; decide) (by decide) ?_
  refine c_VI C (e_m_quotient0 T_m R_m_1 T_w N_w B_m (I_w_1) ) rfl rfl rfl rfl rfl ⟨_, rfl, rfl, T_m, Nat.le_of_ble_eq_true rfl⟩ rfl rfl (Nat.le_of_ble_eq_true rfl) (Nat.le_of_ble_eq_true rfl) (Nat.le_of_ble_eq_true rfl) ?_
  intro x1774 I1774 L1774 h1774
  refine k_istore C (lw := [(6, .int _), (5, .int _), (4, .int _), (3, _), (2, _), (1, _), (0, _)]) rfl rfl (Nat.le_of_ble_eq_true rfl) rfl ?_
  refine k_aload_n C rfl rfl rfl ?_
  refine c_VI C (e_thrown T_m ) rfl rfl rfl rfl rfl ⟨_, rfl, rfl, T_m, Nat.le_of_ble_eq_true rfl⟩ rfl rfl (Nat.le_of_ble_eq_true rfl) (Nat.le_of_ble_eq_true rfl) (Nat.le_of_ble_eq_true rfl) ?_
  rintro _ _ _ ⟨hx7, hI8, hL9⟩
  have hx7 := hx7.symm; subst hx7
  have hI8 := hI8.symm; subst hI8; have hL9 := hL9.symm; subst hL9
  refine k_iload C rfl rfl rfl ?_
  refine k_icmp_eq C (t := 1790) rfl rfl rfl (fun c1785 => ?_) (fun c1785 => ?_)
  · skip
    refine k_iload C rfl rfl rfl ?_
    refine k_if_ne C (t := 1807) rfl rfl rfl (fun _ => ?_) (fun c1792 => absurd (by decide) c1792)
    refine k_goto C (pc2 := 2832) rfl rfl ?_
    exact law_tail C S hL (Nat.le_of_ble_eq_true rfl) (Nat.le_of_ble_eq_true rfl) (List.forall_mem_cons.mpr ⟨List.mem_of_getElem? (i := 2) rfl, List.forall_mem_cons.mpr ⟨List.mem_of_getElem? (i := 6) rfl, fun _ h => nomatch h⟩⟩)
  exact absurd h1774.2 c1785

set_option maxRecDepth 100000 in
theorem lc_26 {d : Nat} {V : V_T} {b x m o nw fr w : Nat} {xs : Nat → Int32} {T N : Nat → Nat} {I : IT} {L : LT} {R : RT} {A B : Nat → Prop} (C : Cl (d + 6) q_law 600002 7302232 law_Po V) (S : SB V) (hL : LSc V b 6 xs) (T_x : T x = 12) (R_x_1 : R x 1 = some nw) (T_nw : T nw = 9) (R_nw_8 : R nw 8 = some fr) (I_nw_1 : I nw 1 = 0) (T_m : T m = 13) (R_m_1 : R m 1 = some w) (T_w : T w = 20) (N_w : N w = 4007) (B_m : B m) (I_w_1 : I w 1 = 0)  : V 1810 [(4, .int 0), (3, .ref o), (2, .ref m), (1, .ref x), (0, .ref b)] [] (T, N, I, L, R) 429 34606 := by
  refine k_aload_n C rfl rfl rfl ?_
  refine k_aload_n C rfl rfl rfl ?_
  refine k_iload C rfl rfl rfl ?_
  refine k_iconst C (x := 1) rfl rfl rfl ?_
  refine k_iadd C rfl rfl ?_
  refine ls_i hL (k := 1) rfl rfl (by unfold vp_in; decide) (by decide) ?_
  refine k_aload_n C rfl rfl rfl ?_
  refine c_SI C (e_L_plain0 T_x R_x_1 T_nw R_nw_8 (I_nw_1) ) rfl rfl rfl rfl rfl rfl rfl (Nat.le_of_ble_eq_true rfl) (Nat.le_of_ble_eq_true rfl) (Nat.le_of_ble_eq_true rfl) ?_
  rintro _ _ _ ⟨hx7, hI8, hL9⟩
  have hx7 := hx7.symm; subst hx7
  have hI8 := hI8.symm; subst hI8; have hL9 := hL9.symm; subst hL9
  refine k_istore C (lw := [(5, .int _), (4, .int _), (3, _), (2, _), (1, _), (0, _)]) rfl rfl (Nat.le_of_ble_eq_true rfl) rfl ?_
  refine k_aload_n C rfl rfl rfl ?_
  refine k_aload_n C rfl rfl rfl ?_
  refine k_iload C rfl rfl rfl ?_
  refine k_iconst C (x := 1) rfl rfl rfl ?_
  refine k_iadd C rfl rfl ?_
  refine ls_i hL (k := 1) rfl rfl (by unfold vp_in; decide) (by decide) ?_
  refine c_VI C (e_m_plain0 T_m R_m_1 T_w N_w B_m (I_w_1) ) rfl rfl rfl rfl rfl ⟨_, rfl, rfl, T_m, Nat.le_of_ble_eq_true rfl⟩ rfl rfl (Nat.le_of_ble_eq_true rfl) (Nat.le_of_ble_eq_true rfl) (Nat.le_of_ble_eq_true rfl) ?_
  intro x1830 I1830 L1830 h1830
  refine k_istore C (lw := [(6, .int _), (5, .int _), (4, .int _), (3, _), (2, _), (1, _), (0, _)]) rfl rfl (Nat.le_of_ble_eq_true rfl) rfl ?_
  refine k_aload_n C rfl rfl rfl ?_
  refine c_VI C (e_thrown T_m ) rfl rfl rfl rfl rfl ⟨_, rfl, rfl, T_m, Nat.le_of_ble_eq_true rfl⟩ rfl rfl (Nat.le_of_ble_eq_true rfl) (Nat.le_of_ble_eq_true rfl) (Nat.le_of_ble_eq_true rfl) ?_
  rintro _ _ _ ⟨hx7, hI8, hL9⟩
  have hx7 := hx7.symm; subst hx7
  have hI8 := hI8.symm; subst hI8; have hL9 := hL9.symm; subst hL9
  refine k_iload C rfl rfl rfl ?_
  refine k_icmp_eq C (t := 1846) rfl rfl rfl (fun c1841 => ?_) (fun c1841 => ?_)
  · skip
    refine k_iload C rfl rfl rfl ?_
    refine k_if_ne C (t := 1870) rfl rfl rfl (fun _ => ?_) (fun c1848 => absurd (by decide) c1848)
    refine k_goto C (pc2 := 2832) rfl rfl ?_
    exact law_tail C S hL (Nat.le_of_ble_eq_true rfl) (Nat.le_of_ble_eq_true rfl) (List.forall_mem_cons.mpr ⟨List.mem_of_getElem? (i := 2) rfl, List.forall_mem_cons.mpr ⟨List.mem_of_getElem? (i := 6) rfl, fun _ h => nomatch h⟩⟩)
  exact absurd h1830.2 c1841

set_option maxRecDepth 100000 in
theorem lc_27 {d : Nat} {V : V_T} {b x m o nw fr w : Nat} {xs : Nat → Int32} {T N : Nat → Nat} {I : IT} {L : LT} {R : RT} {A B : Nat → Prop} (C : Cl (d + 6) q_law 600002 7302232 law_Po V) (S : SB V) (hL : LSc V b 6 xs) (T_x : T x = 12) (R_x_1 : R x 1 = some nw) (T_nw : T nw = 9) (R_nw_8 : R nw 8 = some fr) (I_nw_1 : I nw 1 = 0) (T_m : T m = 13) (R_m_1 : R m 1 = some w) (T_w : T w = 20) (N_w : N w = 4007) (B_m : B m) (I_w_1 : I w 1 = 0)  : V 1873 [(4, .int 0), (3, .ref o), (2, .ref m), (1, .ref x), (0, .ref b)] [] (T, N, I, L, R) 429 34606 := by
  refine k_aload_n C rfl rfl rfl ?_
  refine k_aload_n C rfl rfl rfl ?_
  refine k_iload C rfl rfl rfl ?_
  refine k_iconst C (x := 1) rfl rfl rfl ?_
  refine k_iadd C rfl rfl ?_
  refine ls_i hL (k := 1) rfl rfl (by unfold vp_in; decide) (by decide) ?_
  refine k_aload_n C rfl rfl rfl ?_
  refine k_iload C rfl rfl rfl ?_
  refine k_iconst C (x := 2) rfl rfl rfl ?_
  refine k_iadd C rfl rfl ?_
  refine ls_i hL (k := 2) rfl rfl (by unfold vp_in; decide) (by decide) ?_
  refine k_aload_n C rfl rfl rfl ?_
  refine c_SI C (e_L_root0 T_x R_x_1 T_nw R_nw_8 (I_nw_1) ) rfl rfl rfl rfl rfl rfl rfl (Nat.le_of_ble_eq_true rfl) (Nat.le_of_ble_eq_true rfl) (Nat.le_of_ble_eq_true rfl) ?_
  rintro _ _ _ ⟨hx7, hI8, hL9⟩
  have hx7 := hx7.symm; subst hx7
  have hI8 := hI8.symm; subst hI8; have hL9 := hL9.symm; subst hL9
  refine k_istore C (lw := [(5, .int _), (4, .int _), (3, _), (2, _), (1, _), (0, _)]) rfl rfl (Nat.le_of_ble_eq_true rfl) rfl ?_
  refine k_aload_n C rfl rfl rfl ?_
  refine k_aload_n C rfl rfl rfl ?_
  refine k_iload C rfl rfl rfl ?_
  refine k_iconst C (x := 1) rfl rfl rfl ?_
  refine k_iadd C rfl rfl ?_
  refine ls_i hL (k := 1) rfl rfl (by unfold vp_in; decide) (by decide) ?_
  refine k_aload_n C rfl rfl rfl ?_
  refine k_iload C rfl rfl rfl ?_
  refine k_iconst C (x := 2) rfl rfl rfl ?_
  refine k_iadd C rfl rfl ?_
  refine ls_i hL (k := 2) rfl rfl (by unfold vp_in; decide) (by decide) ?_
  refine c_VI C (e_m_root0 T_m R_m_1 T_w N_w B_m (I_w_1) ) rfl rfl rfl rfl rfl ⟨_, rfl, rfl, T_m, Nat.le_of_ble_eq_true rfl⟩ rfl rfl (Nat.le_of_ble_eq_true rfl) (Nat.le_of_ble_eq_true rfl) (Nat.le_of_ble_eq_true rfl) ?_
  intro x1905 I1905 L1905 h1905
  refine k_istore C (lw := [(6, .int _), (5, .int _), (4, .int _), (3, _), (2, _), (1, _), (0, _)]) rfl rfl (Nat.le_of_ble_eq_true rfl) rfl ?_
  refine k_aload_n C rfl rfl rfl ?_
  refine c_VI C (e_thrown T_m ) rfl rfl rfl rfl rfl ⟨_, rfl, rfl, T_m, Nat.le_of_ble_eq_true rfl⟩ rfl rfl (Nat.le_of_ble_eq_true rfl) (Nat.le_of_ble_eq_true rfl) (Nat.le_of_ble_eq_true rfl) ?_
  rintro _ _ _ ⟨hx7, hI8, hL9⟩
  have hx7 := hx7.symm; subst hx7
  have hI8 := hI8.symm; subst hI8; have hL9 := hL9.symm; subst hL9
  refine k_iload C rfl rfl rfl ?_
  refine k_icmp_eq C (t := 1921) rfl rfl rfl (fun c1916 => ?_) (fun c1916 => ?_)
  · skip
    refine k_iload C rfl rfl rfl ?_
    refine k_if_ne C (t := 1938) rfl rfl rfl (fun _ => ?_) (fun c1923 => absurd (by decide) c1923)
    refine k_goto C (pc2 := 2832) rfl rfl ?_
    exact law_tail C S hL (Nat.le_of_ble_eq_true rfl) (Nat.le_of_ble_eq_true rfl) (List.forall_mem_cons.mpr ⟨List.mem_of_getElem? (i := 2) rfl, List.forall_mem_cons.mpr ⟨List.mem_of_getElem? (i := 6) rfl, fun _ h => nomatch h⟩⟩)
  exact absurd h1905.2 c1916

set_option maxRecDepth 100000 in
theorem lc_28 {d : Nat} {V : V_T} {b x m o nw fr w : Nat} {xs : Nat → Int32} {T N : Nat → Nat} {I : IT} {L : LT} {R : RT} {A B : Nat → Prop} (C : Cl (d + 6) q_law 600002 7302232 law_Po V) (S : SB V) (hL : LSc V b 6 xs) (T_x : T x = 12) (R_x_1 : R x 1 = some nw) (T_nw : T nw = 9) (R_nw_8 : R nw 8 = some fr) (I_nw_1 : I nw 1 = 0) (T_m : T m = 13) (R_m_1 : R m 1 = some w) (T_w : T w = 20) (N_w : N w = 4007) (B_m : B m) (I_w_1 : I w 1 = 0)  : V 1941 [(4, .int 0), (3, .ref o), (2, .ref m), (1, .ref x), (0, .ref b)] [] (T, N, I, L, R) 429 34606 := by
  refine k_aload_n C rfl rfl rfl ?_
  refine k_aload_n C rfl rfl rfl ?_
  refine k_iload C rfl rfl rfl ?_
  refine k_iconst C (x := 1) rfl rfl rfl ?_
  refine k_iadd C rfl rfl ?_
  refine ls_i hL (k := 1) rfl rfl (by unfold vp_in; decide) (by decide) ?_
  refine k_aload_n C rfl rfl rfl ?_
  refine c_SI C (e_L_roots0 T_x R_x_1 T_nw R_nw_8 (I_nw_1) ) rfl rfl rfl rfl rfl rfl rfl (Nat.le_of_ble_eq_true rfl) (Nat.le_of_ble_eq_true rfl) (Nat.le_of_ble_eq_true rfl) ?_
  rintro _ _ _ ⟨hx7, hI8, hL9⟩
  have hx7 := hx7.symm; subst hx7
  have hI8 := hI8.symm; subst hI8; have hL9 := hL9.symm; subst hL9
  refine k_istore C (lw := [(5, .int _), (4, .int _), (3, _), (2, _), (1, _), (0, _)]) rfl rfl (Nat.le_of_ble_eq_true rfl) rfl ?_
  refine k_aload_n C rfl rfl rfl ?_
  refine k_aload_n C rfl rfl rfl ?_
  refine k_iload C rfl rfl rfl ?_
  refine k_iconst C (x := 1) rfl rfl rfl ?_
  refine k_iadd C rfl rfl ?_
  refine ls_i hL (k := 1) rfl rfl (by unfold vp_in; decide) (by decide) ?_
  refine c_VI C (e_m_roots0 T_m R_m_1 T_w N_w B_m (I_w_1) ) rfl rfl rfl rfl rfl ⟨_, rfl, rfl, T_m, Nat.le_of_ble_eq_true rfl⟩ rfl rfl (Nat.le_of_ble_eq_true rfl) (Nat.le_of_ble_eq_true rfl) (Nat.le_of_ble_eq_true rfl) ?_
  intro x1961 I1961 L1961 h1961
  refine k_istore C (lw := [(6, .int _), (5, .int _), (4, .int _), (3, _), (2, _), (1, _), (0, _)]) rfl rfl (Nat.le_of_ble_eq_true rfl) rfl ?_
  refine k_aload_n C rfl rfl rfl ?_
  refine c_VI C (e_thrown T_m ) rfl rfl rfl rfl rfl ⟨_, rfl, rfl, T_m, Nat.le_of_ble_eq_true rfl⟩ rfl rfl (Nat.le_of_ble_eq_true rfl) (Nat.le_of_ble_eq_true rfl) (Nat.le_of_ble_eq_true rfl) ?_
  rintro _ _ _ ⟨hx7, hI8, hL9⟩
  have hx7 := hx7.symm; subst hx7
  have hI8 := hI8.symm; subst hI8; have hL9 := hL9.symm; subst hL9
  refine k_iload C rfl rfl rfl ?_
  refine k_icmp_eq C (t := 1977) rfl rfl rfl (fun c1972 => ?_) (fun c1972 => ?_)
  · skip
    refine k_iload C rfl rfl rfl ?_
    refine k_if_ne C (t := 1994) rfl rfl rfl (fun _ => ?_) (fun c1979 => absurd (by decide) c1979)
    refine k_goto C (pc2 := 2832) rfl rfl ?_
    exact law_tail C S hL (Nat.le_of_ble_eq_true rfl) (Nat.le_of_ble_eq_true rfl) (List.forall_mem_cons.mpr ⟨List.mem_of_getElem? (i := 2) rfl, List.forall_mem_cons.mpr ⟨List.mem_of_getElem? (i := 6) rfl, fun _ h => nomatch h⟩⟩)
  exact absurd h1961.2 c1972

set_option maxRecDepth 100000 in
theorem lc_29 {d : Nat} {V : V_T} {b x m o nw fr w : Nat} {xs : Nat → Int32} {T N : Nat → Nat} {I : IT} {L : LT} {R : RT} {A B : Nat → Prop} (C : Cl (d + 6) q_law 600002 7302232 law_Po V) (S : SB V) (hL : LSc V b 6 xs) (T_x : T x = 12) (R_x_1 : R x 1 = some nw) (T_nw : T nw = 9) (R_nw_8 : R nw 8 = some fr) (I_nw_1 : I nw 1 = 0) (T_m : T m = 13) (R_m_1 : R m 1 = some w) (T_w : T w = 20) (N_w : N w = 4007) (B_m : B m) (I_w_1 : I w 1 = 0)  : V 1997 [(4, .int 0), (3, .ref o), (2, .ref m), (1, .ref x), (0, .ref b)] [] (T, N, I, L, R) 429 34606 := by
  refine k_aload_n C rfl rfl rfl ?_
  refine k_aload_n C rfl rfl rfl ?_
  refine k_iload C rfl rfl rfl ?_
  refine k_iconst C (x := 1) rfl rfl rfl ?_
  refine k_iadd C rfl rfl ?_
  refine ls_i hL (k := 1) rfl rfl (by unfold vp_in; decide) (by decide) ?_
  refine k_aload_n C rfl rfl rfl ?_
  refine c_SI C (e_L_empty0 T_x R_x_1 T_nw R_nw_8 (I_nw_1) ) rfl rfl rfl rfl rfl rfl rfl (Nat.le_of_ble_eq_true rfl) (Nat.le_of_ble_eq_true rfl) (Nat.le_of_ble_eq_true rfl) ?_
  rintro _ _ _ ⟨hx7, hI8, hL9⟩
  have hx7 := hx7.symm; subst hx7
  have hI8 := hI8.symm; subst hI8; have hL9 := hL9.symm; subst hL9
  refine k_istore C (lw := [(5, .int _), (4, .int _), (3, _), (2, _), (1, _), (0, _)]) rfl rfl (Nat.le_of_ble_eq_true rfl) rfl ?_
  refine k_aload_n C rfl rfl rfl ?_
  refine k_aload_n C rfl rfl rfl ?_
  refine k_iload C rfl rfl rfl ?_
  refine k_iconst C (x := 1) rfl rfl rfl ?_
  refine k_iadd C rfl rfl ?_
  refine ls_i hL (k := 1) rfl rfl (by unfold vp_in; decide) (by decide) ?_
  refine c_VI C (e_m_empty0 T_m R_m_1 T_w N_w B_m (I_w_1) ) rfl rfl rfl rfl rfl ⟨_, rfl, rfl, T_m, Nat.le_of_ble_eq_true rfl⟩ rfl rfl (Nat.le_of_ble_eq_true rfl) (Nat.le_of_ble_eq_true rfl) (Nat.le_of_ble_eq_true rfl) ?_
  intro x2017 I2017 L2017 h2017
  refine k_istore C (lw := [(6, .int _), (5, .int _), (4, .int _), (3, _), (2, _), (1, _), (0, _)]) rfl rfl (Nat.le_of_ble_eq_true rfl) rfl ?_
  refine k_aload_n C rfl rfl rfl ?_
  refine c_VI C (e_thrown T_m ) rfl rfl rfl rfl rfl ⟨_, rfl, rfl, T_m, Nat.le_of_ble_eq_true rfl⟩ rfl rfl (Nat.le_of_ble_eq_true rfl) (Nat.le_of_ble_eq_true rfl) (Nat.le_of_ble_eq_true rfl) ?_
  rintro _ _ _ ⟨hx7, hI8, hL9⟩
  have hx7 := hx7.symm; subst hx7
  have hI8 := hI8.symm; subst hI8; have hL9 := hL9.symm; subst hL9
  refine k_iload C rfl rfl rfl ?_
  refine k_icmp_eq C (t := 2033) rfl rfl rfl (fun c2028 => ?_) (fun c2028 => ?_)
  · skip
    refine k_iload C rfl rfl rfl ?_
    refine k_if_ne C (t := 2057) rfl rfl rfl (fun _ => ?_) (fun c2035 => absurd (by decide) c2035)
    refine k_goto C (pc2 := 2832) rfl rfl ?_
    exact law_tail C S hL (Nat.le_of_ble_eq_true rfl) (Nat.le_of_ble_eq_true rfl) (List.forall_mem_cons.mpr ⟨List.mem_of_getElem? (i := 2) rfl, List.forall_mem_cons.mpr ⟨List.mem_of_getElem? (i := 6) rfl, fun _ h => nomatch h⟩⟩)
  exact absurd h2017.2 c2028

set_option maxRecDepth 100000 in
theorem lc_30 {d : Nat} {V : V_T} {b x m o nw fr w : Nat} {xs : Nat → Int32} {T N : Nat → Nat} {I : IT} {L : LT} {R : RT} {A B : Nat → Prop} (C : Cl (d + 6) q_law 600002 7302232 law_Po V) (S : SB V) (hL : LSc V b 6 xs) (T_x : T x = 12) (R_x_1 : R x 1 = some nw) (T_nw : T nw = 9) (R_nw_8 : R nw 8 = some fr) (I_nw_1 : I nw 1 = 0) (T_m : T m = 13) (R_m_1 : R m 1 = some w) (T_w : T w = 20) (N_w : N w = 4007) (B_m : B m) (I_w_1 : I w 1 = 0)  : V 2060 [(4, .int 0), (3, .ref o), (2, .ref m), (1, .ref x), (0, .ref b)] [] (T, N, I, L, R) 429 34606 := by
  refine k_aload_n C rfl rfl rfl ?_
  refine k_aload_n C rfl rfl rfl ?_
  refine k_iload C rfl rfl rfl ?_
  refine k_iconst C (x := 1) rfl rfl rfl ?_
  refine k_iadd C rfl rfl ?_
  refine ls_i hL (k := 1) rfl rfl (by unfold vp_in; decide) (by decide) ?_
  refine k_aload_n C rfl rfl rfl ?_
  refine k_iload C rfl rfl rfl ?_
  refine k_iconst C (x := 2) rfl rfl rfl ?_
  refine k_iadd C rfl rfl ?_
  refine ls_i hL (k := 2) rfl rfl (by unfold vp_in; decide) (by decide) ?_
  refine k_aload_n C rfl rfl rfl ?_
  refine c_SI C (e_L_same0 T_x R_x_1 T_nw R_nw_8 (I_nw_1) ) rfl rfl rfl rfl rfl rfl rfl (Nat.le_of_ble_eq_true rfl) (Nat.le_of_ble_eq_true rfl) (Nat.le_of_ble_eq_true rfl) ?_
  rintro _ _ _ ⟨hx7, hI8, hL9⟩
  have hx7 := hx7.symm; subst hx7
  have hI8 := hI8.symm; subst hI8; have hL9 := hL9.symm; subst hL9
  refine k_istore C (lw := [(5, .int _), (4, .int _), (3, _), (2, _), (1, _), (0, _)]) rfl rfl (Nat.le_of_ble_eq_true rfl) rfl ?_
  refine k_aload_n C rfl rfl rfl ?_
  refine k_aload_n C rfl rfl rfl ?_
  refine k_iload C rfl rfl rfl ?_
  refine k_iconst C (x := 1) rfl rfl rfl ?_
  refine k_iadd C rfl rfl ?_
  refine ls_i hL (k := 1) rfl rfl (by unfold vp_in; decide) (by decide) ?_
  refine k_aload_n C rfl rfl rfl ?_
  refine k_iload C rfl rfl rfl ?_
  refine k_iconst C (x := 2) rfl rfl rfl ?_
  refine k_iadd C rfl rfl ?_
  refine ls_i hL (k := 2) rfl rfl (by unfold vp_in; decide) (by decide) ?_
  refine c_VI C (e_m_same0 T_m R_m_1 T_w N_w B_m (I_w_1) ) rfl rfl rfl rfl rfl ⟨_, rfl, rfl, T_m, Nat.le_of_ble_eq_true rfl⟩ rfl rfl (Nat.le_of_ble_eq_true rfl) (Nat.le_of_ble_eq_true rfl) (Nat.le_of_ble_eq_true rfl) ?_
  intro x2092 I2092 L2092 h2092
  refine k_istore C (lw := [(6, .int _), (5, .int _), (4, .int _), (3, _), (2, _), (1, _), (0, _)]) rfl rfl (Nat.le_of_ble_eq_true rfl) rfl ?_
  refine k_aload_n C rfl rfl rfl ?_
  refine c_VI C (e_thrown T_m ) rfl rfl rfl rfl rfl ⟨_, rfl, rfl, T_m, Nat.le_of_ble_eq_true rfl⟩ rfl rfl (Nat.le_of_ble_eq_true rfl) (Nat.le_of_ble_eq_true rfl) (Nat.le_of_ble_eq_true rfl) ?_
  rintro _ _ _ ⟨hx7, hI8, hL9⟩
  have hx7 := hx7.symm; subst hx7
  have hI8 := hI8.symm; subst hI8; have hL9 := hL9.symm; subst hL9
  refine k_iload C rfl rfl rfl ?_
  refine k_icmp_eq C (t := 2108) rfl rfl rfl (fun c2103 => ?_) (fun c2103 => ?_)
  · skip
    refine k_iload C rfl rfl rfl ?_
    refine k_if_ne C (t := 2125) rfl rfl rfl (fun _ => ?_) (fun c2110 => absurd (by decide) c2110)
    refine k_goto C (pc2 := 2832) rfl rfl ?_
    exact law_tail C S hL (Nat.le_of_ble_eq_true rfl) (Nat.le_of_ble_eq_true rfl) (List.forall_mem_cons.mpr ⟨List.mem_of_getElem? (i := 2) rfl, List.forall_mem_cons.mpr ⟨List.mem_of_getElem? (i := 6) rfl, fun _ h => nomatch h⟩⟩)
  exact absurd h2092.2 c2103

set_option maxRecDepth 100000 in
theorem lc_31 {d : Nat} {V : V_T} {b x m o nw fr w : Nat} {xs : Nat → Int32} {T N : Nat → Nat} {I : IT} {L : LT} {R : RT} {A B : Nat → Prop} (C : Cl (d + 6) q_law 600002 7302232 law_Po V) (S : SB V) (hL : LSc V b 6 xs) (T_x : T x = 12) (R_x_1 : R x 1 = some nw) (T_nw : T nw = 9) (R_nw_8 : R nw 8 = some fr) (I_nw_1 : I nw 1 = 0) (T_m : T m = 13) (R_m_1 : R m 1 = some w) (T_w : T w = 20) (N_w : N w = 4007) (B_m : B m) (I_w_1 : I w 1 = 0)  : V 2128 [(4, .int 0), (3, .ref o), (2, .ref m), (1, .ref x), (0, .ref b)] [] (T, N, I, L, R) 429 34606 := by
  refine k_aload_n C rfl rfl rfl ?_
  refine k_aload_n C rfl rfl rfl ?_
  refine k_iload C rfl rfl rfl ?_
  refine k_iconst C (x := 1) rfl rfl rfl ?_
  refine k_iadd C rfl rfl ?_
  refine ls_i hL (k := 1) rfl rfl (by unfold vp_in; decide) (by decide) ?_
  refine k_aload_n C rfl rfl rfl ?_
  refine c_SI C (e_L_keep0 T_x R_x_1 T_nw R_nw_8 (I_nw_1) ) rfl rfl rfl rfl rfl rfl rfl (Nat.le_of_ble_eq_true rfl) (Nat.le_of_ble_eq_true rfl) (Nat.le_of_ble_eq_true rfl) ?_
  rintro _ _ _ ⟨hx7, hI8, hL9⟩
  have hx7 := hx7.symm; subst hx7
  have hI8 := hI8.symm; subst hI8; have hL9 := hL9.symm; subst hL9
  refine k_istore C (lw := [(5, .int _), (4, .int _), (3, _), (2, _), (1, _), (0, _)]) rfl rfl (Nat.le_of_ble_eq_true rfl) rfl ?_
  refine k_aload_n C rfl rfl rfl ?_
  refine k_aload_n C rfl rfl rfl ?_
  refine k_iload C rfl rfl rfl ?_
  refine k_iconst C (x := 1) rfl rfl rfl ?_
  refine k_iadd C rfl rfl ?_
  refine ls_i hL (k := 1) rfl rfl (by unfold vp_in; decide) (by decide) ?_
  refine c_VI C (e_m_keep0 T_m R_m_1 T_w N_w B_m (I_w_1) ) rfl rfl rfl rfl rfl ⟨_, rfl, rfl, T_m, Nat.le_of_ble_eq_true rfl⟩ rfl rfl (Nat.le_of_ble_eq_true rfl) (Nat.le_of_ble_eq_true rfl) (Nat.le_of_ble_eq_true rfl) ?_
  intro x2148 I2148 L2148 h2148
  refine k_istore C (lw := [(6, .int _), (5, .int _), (4, .int _), (3, _), (2, _), (1, _), (0, _)]) rfl rfl (Nat.le_of_ble_eq_true rfl) rfl ?_
  refine k_aload_n C rfl rfl rfl ?_
  refine c_VI C (e_thrown T_m ) rfl rfl rfl rfl rfl ⟨_, rfl, rfl, T_m, Nat.le_of_ble_eq_true rfl⟩ rfl rfl (Nat.le_of_ble_eq_true rfl) (Nat.le_of_ble_eq_true rfl) (Nat.le_of_ble_eq_true rfl) ?_
  rintro _ _ _ ⟨hx7, hI8, hL9⟩
  have hx7 := hx7.symm; subst hx7
  have hI8 := hI8.symm; subst hI8; have hL9 := hL9.symm; subst hL9
  refine k_iload C rfl rfl rfl ?_
  refine k_icmp_eq C (t := 2164) rfl rfl rfl (fun c2159 => ?_) (fun c2159 => ?_)
  · skip
    refine k_iload C rfl rfl rfl ?_
    refine k_if_ne C (t := 2181) rfl rfl rfl (fun _ => ?_) (fun c2166 => absurd (by decide) c2166)
    refine k_goto C (pc2 := 2832) rfl rfl ?_
    exact law_tail C S hL (Nat.le_of_ble_eq_true rfl) (Nat.le_of_ble_eq_true rfl) (List.forall_mem_cons.mpr ⟨List.mem_of_getElem? (i := 2) rfl, List.forall_mem_cons.mpr ⟨List.mem_of_getElem? (i := 6) rfl, fun _ h => nomatch h⟩⟩)
  exact absurd h2148.2 c2159

set_option maxRecDepth 100000 in
theorem lc_32 {d : Nat} {V : V_T} {b x m o nw fr w : Nat} {xs : Nat → Int32} {T N : Nat → Nat} {I : IT} {L : LT} {R : RT} {A B : Nat → Prop} (C : Cl (d + 6) q_law 600002 7302232 law_Po V) (S : SB V) (hL : LSc V b 6 xs) (T_x : T x = 12) (R_x_1 : R x 1 = some nw) (T_nw : T nw = 9) (R_nw_8 : R nw 8 = some fr) (I_nw_1 : I nw 1 = 0) (T_m : T m = 13) (R_m_1 : R m 1 = some w) (T_w : T w = 20) (N_w : N w = 4007) (B_m : B m) (I_w_1 : I w 1 = 0)  : V 2184 [(4, .int 0), (3, .ref o), (2, .ref m), (1, .ref x), (0, .ref b)] [] (T, N, I, L, R) 429 34606 := by
  refine k_aload_n C rfl rfl rfl ?_
  refine k_aload_n C rfl rfl rfl ?_
  refine k_iload C rfl rfl rfl ?_
  refine k_iconst C (x := 1) rfl rfl rfl ?_
  refine k_iadd C rfl rfl ?_
  refine ls_i hL (k := 1) rfl rfl (by unfold vp_in; decide) (by decide) ?_
  refine k_aload_n C rfl rfl rfl ?_
  refine k_iload C rfl rfl rfl ?_
  refine k_iconst C (x := 2) rfl rfl rfl ?_
  refine k_iadd C rfl rfl ?_
  refine ls_i hL (k := 2) rfl rfl (by unfold vp_in; decide) (by decide) ?_
  refine k_aload_n C rfl rfl rfl ?_
  refine c_SI C (e_L_powers0 T_x R_x_1 T_nw R_nw_8 (I_nw_1) ) rfl rfl rfl rfl rfl rfl rfl (Nat.le_of_ble_eq_true rfl) (Nat.le_of_ble_eq_true rfl) (Nat.le_of_ble_eq_true rfl) ?_
  rintro _ _ _ ⟨hx7, hI8, hL9⟩
  have hx7 := hx7.symm; subst hx7
  have hI8 := hI8.symm; subst hI8; have hL9 := hL9.symm; subst hL9
  refine k_istore C (lw := [(5, .int _), (4, .int _), (3, _), (2, _), (1, _), (0, _)]) rfl rfl (Nat.le_of_ble_eq_true rfl) rfl ?_
  refine k_aload_n C rfl rfl rfl ?_
  refine k_aload_n C rfl rfl rfl ?_
  refine k_iload C rfl rfl rfl ?_
  refine k_iconst C (x := 1) rfl rfl rfl ?_
  refine k_iadd C rfl rfl ?_
  refine ls_i hL (k := 1) rfl rfl (by unfold vp_in; decide) (by decide) ?_
  refine k_aload_n C rfl rfl rfl ?_
  refine k_iload C rfl rfl rfl ?_
  refine k_iconst C (x := 2) rfl rfl rfl ?_
  refine k_iadd C rfl rfl ?_
  refine ls_i hL (k := 2) rfl rfl (by unfold vp_in; decide) (by decide) ?_
  refine c_VI C (e_m_powers0 T_m R_m_1 T_w N_w B_m (I_w_1) ) rfl rfl rfl rfl rfl ⟨_, rfl, rfl, T_m, Nat.le_of_ble_eq_true rfl⟩ rfl rfl (Nat.le_of_ble_eq_true rfl) (Nat.le_of_ble_eq_true rfl) (Nat.le_of_ble_eq_true rfl) ?_
  intro x2216 I2216 L2216 h2216
  refine k_istore C (lw := [(6, .int _), (5, .int _), (4, .int _), (3, _), (2, _), (1, _), (0, _)]) rfl rfl (Nat.le_of_ble_eq_true rfl) rfl ?_
  refine k_aload_n C rfl rfl rfl ?_
  refine c_VI C (e_thrown T_m ) rfl rfl rfl rfl rfl ⟨_, rfl, rfl, T_m, Nat.le_of_ble_eq_true rfl⟩ rfl rfl (Nat.le_of_ble_eq_true rfl) (Nat.le_of_ble_eq_true rfl) (Nat.le_of_ble_eq_true rfl) ?_
  rintro _ _ _ ⟨hx7, hI8, hL9⟩
  have hx7 := hx7.symm; subst hx7
  have hI8 := hI8.symm; subst hI8; have hL9 := hL9.symm; subst hL9
  refine k_iload C rfl rfl rfl ?_
  refine k_icmp_eq C (t := 2232) rfl rfl rfl (fun c2227 => ?_) (fun c2227 => ?_)
  · skip
    refine k_iload C rfl rfl rfl ?_
    refine k_if_ne C (t := 2249) rfl rfl rfl (fun _ => ?_) (fun c2234 => absurd (by decide) c2234)
    refine k_goto C (pc2 := 2832) rfl rfl ?_
    exact law_tail C S hL (Nat.le_of_ble_eq_true rfl) (Nat.le_of_ble_eq_true rfl) (List.forall_mem_cons.mpr ⟨List.mem_of_getElem? (i := 2) rfl, List.forall_mem_cons.mpr ⟨List.mem_of_getElem? (i := 6) rfl, fun _ h => nomatch h⟩⟩)
  exact absurd h2216.2 c2227

set_option maxRecDepth 100000 in
theorem lc_33 {d : Nat} {V : V_T} {b x m o nw fr w : Nat} {xs : Nat → Int32} {T N : Nat → Nat} {I : IT} {L : LT} {R : RT} {A B : Nat → Prop} (C : Cl (d + 6) q_law 600002 7302232 law_Po V) (S : SB V) (hL : LSc V b 6 xs) (T_x : T x = 12) (R_x_1 : R x 1 = some nw) (T_nw : T nw = 9) (R_nw_8 : R nw 8 = some fr) (I_nw_1 : I nw 1 = 0) (T_m : T m = 13) (R_m_1 : R m 1 = some w) (T_w : T w = 20) (N_w : N w = 4007) (B_m : B m) (I_w_1 : I w 1 = 0)  : V 2252 [(4, .int 0), (3, .ref o), (2, .ref m), (1, .ref x), (0, .ref b)] [] (T, N, I, L, R) 429 34606 := by
  refine k_aload_n C rfl rfl rfl ?_
  refine k_aload_n C rfl rfl rfl ?_
  refine k_iload C rfl rfl rfl ?_
  refine k_iconst C (x := 1) rfl rfl rfl ?_
  refine k_iadd C rfl rfl ?_
  refine ls_i hL (k := 1) rfl rfl (by unfold vp_in; decide) (by decide) ?_
  refine k_aload_n C rfl rfl rfl ?_
  refine k_iload C rfl rfl rfl ?_
  refine k_iconst C (x := 2) rfl rfl rfl ?_
  refine k_iadd C rfl rfl ?_
  refine ls_i hL (k := 2) rfl rfl (by unfold vp_in; decide) (by decide) ?_
  refine k_aload_n C rfl rfl rfl ?_
  refine k_iload C rfl rfl rfl ?_
  refine k_iconst C (x := 3) rfl rfl rfl ?_
  refine k_iadd C rfl rfl ?_
  refine ls_i hL (k := 3) rfl rfl (by unfold vp_in; decide) (by decide) ?_
  refine k_aload_n C rfl rfl rfl ?_
  refine c_SI C (e_L_common0 T_x R_x_1 T_nw R_nw_8 (I_nw_1) ) rfl rfl rfl rfl rfl rfl rfl (Nat.le_of_ble_eq_true rfl) (Nat.le_of_ble_eq_true rfl) (Nat.le_of_ble_eq_true rfl) ?_
  rintro _ _ _ ⟨hx7, hI8, hL9⟩
  have hx7 := hx7.symm; subst hx7
  have hI8 := hI8.symm; subst hI8; have hL9 := hL9.symm; subst hL9
  refine k_istore C (lw := [(5, .int _), (4, .int _), (3, _), (2, _), (1, _), (0, _)]) rfl rfl (Nat.le_of_ble_eq_true rfl) rfl ?_
  refine k_aload_n C rfl rfl rfl ?_
  refine k_aload_n C rfl rfl rfl ?_
  refine k_iload C rfl rfl rfl ?_
  refine k_iconst C (x := 1) rfl rfl rfl ?_
  refine k_iadd C rfl rfl ?_
  refine ls_i hL (k := 1) rfl rfl (by unfold vp_in; decide) (by decide) ?_
  refine k_aload_n C rfl rfl rfl ?_
  refine k_iload C rfl rfl rfl ?_
  refine k_iconst C (x := 2) rfl rfl rfl ?_
  refine k_iadd C rfl rfl ?_
  refine ls_i hL (k := 2) rfl rfl (by unfold vp_in; decide) (by decide) ?_
  refine k_aload_n C rfl rfl rfl ?_
  refine k_iload C rfl rfl rfl ?_
  refine k_iconst C (x := 3) rfl rfl rfl ?_
  refine k_iadd C rfl rfl ?_
  refine ls_i hL (k := 3) rfl rfl (by unfold vp_in; decide) (by decide) ?_
  refine c_VI C (e_m_common0 T_m R_m_1 T_w N_w B_m (I_w_1) ) rfl rfl rfl rfl rfl ⟨_, rfl, rfl, T_m, Nat.le_of_ble_eq_true rfl⟩ rfl rfl (Nat.le_of_ble_eq_true rfl) (Nat.le_of_ble_eq_true rfl) (Nat.le_of_ble_eq_true rfl) ?_
  intro x2296 I2296 L2296 h2296
  refine k_istore C (lw := [(6, .int _), (5, .int _), (4, .int _), (3, _), (2, _), (1, _), (0, _)]) rfl rfl (Nat.le_of_ble_eq_true rfl) rfl ?_
  refine k_aload_n C rfl rfl rfl ?_
  refine c_VI C (e_thrown T_m ) rfl rfl rfl rfl rfl ⟨_, rfl, rfl, T_m, Nat.le_of_ble_eq_true rfl⟩ rfl rfl (Nat.le_of_ble_eq_true rfl) (Nat.le_of_ble_eq_true rfl) (Nat.le_of_ble_eq_true rfl) ?_
  rintro _ _ _ ⟨hx7, hI8, hL9⟩
  have hx7 := hx7.symm; subst hx7
  have hI8 := hI8.symm; subst hI8; have hL9 := hL9.symm; subst hL9
  refine k_iload C rfl rfl rfl ?_
  refine k_icmp_eq C (t := 2312) rfl rfl rfl (fun c2307 => ?_) (fun c2307 => ?_)
  · skip
    refine k_iload C rfl rfl rfl ?_
    refine k_if_ne C (t := 2329) rfl rfl rfl (fun _ => ?_) (fun c2314 => absurd (by decide) c2314)
    refine k_goto C (pc2 := 2832) rfl rfl ?_
    exact law_tail C S hL (Nat.le_of_ble_eq_true rfl) (Nat.le_of_ble_eq_true rfl) (List.forall_mem_cons.mpr ⟨List.mem_of_getElem? (i := 2) rfl, List.forall_mem_cons.mpr ⟨List.mem_of_getElem? (i := 6) rfl, fun _ h => nomatch h⟩⟩)
  exact absurd h2296.2 c2307

set_option maxRecDepth 100000 in
theorem lc_34 {d : Nat} {V : V_T} {b x m o nw fr w : Nat} {xs : Nat → Int32} {T N : Nat → Nat} {I : IT} {L : LT} {R : RT} {A B : Nat → Prop} (C : Cl (d + 6) q_law 600002 7302232 law_Po V) (S : SB V) (hL : LSc V b 6 xs) (T_x : T x = 12) (R_x_1 : R x 1 = some nw) (T_nw : T nw = 9) (R_nw_8 : R nw 8 = some fr) (I_nw_1 : I nw 1 = 0) (T_m : T m = 13) (R_m_1 : R m 1 = some w) (T_w : T w = 20) (N_w : N w = 4007) (B_m : B m) (I_w_1 : I w 1 = 0)  : V 2332 [(4, .int 0), (3, .ref o), (2, .ref m), (1, .ref x), (0, .ref b)] [] (T, N, I, L, R) 429 34606 := by
  refine k_aload_n C rfl rfl rfl ?_
  refine k_aload_n C rfl rfl rfl ?_
  refine k_iload C rfl rfl rfl ?_
  refine k_iconst C (x := 1) rfl rfl rfl ?_
  refine k_iadd C rfl rfl ?_
  refine ls_i hL (k := 1) rfl rfl (by unfold vp_in; decide) (by decide) ?_
  refine k_aload_n C rfl rfl rfl ?_
  refine k_iload C rfl rfl rfl ?_
  refine k_iconst C (x := 2) rfl rfl rfl ?_
  refine k_iadd C rfl rfl ?_
  refine ls_i hL (k := 2) rfl rfl (by unfold vp_in; decide) (by decide) ?_
  refine k_aload_n C rfl rfl rfl ?_
  refine k_iload C rfl rfl rfl ?_
  refine k_iconst C (x := 3) rfl rfl rfl ?_
  refine k_iadd C rfl rfl ?_
  refine ls_i hL (k := 3) rfl rfl (by unfold vp_in; decide) (by decide) ?_
  refine k_aload_n C rfl rfl rfl ?_
  refine k_iload C rfl rfl rfl ?_
  refine k_iconst C (x := 4) rfl rfl rfl ?_
  refine k_iadd C rfl rfl ?_
  refine ls_i hL (k := 4) rfl rfl (by unfold vp_in; decide) (by decide) ?_
  refine k_aload_n C rfl rfl rfl ?_
  refine c_SI C (e_L_overlap0 T_x R_x_1 T_nw R_nw_8 (I_nw_1) ) rfl rfl rfl rfl rfl rfl rfl (Nat.le_of_ble_eq_true rfl) (Nat.le_of_ble_eq_true rfl) (Nat.le_of_ble_eq_true rfl) ?_
  rintro _ _ _ ⟨hx7, hI8, hL9⟩
  have hx7 := hx7.symm; subst hx7
  have hI8 := hI8.symm; subst hI8; have hL9 := hL9.symm; subst hL9
  refine k_istore C (lw := [(5, .int _), (4, .int _), (3, _), (2, _), (1, _), (0, _)]) rfl rfl (Nat.le_of_ble_eq_true rfl) rfl ?_
  refine k_aload_n C rfl rfl rfl ?_
  refine k_aload_n C rfl rfl rfl ?_
  refine k_iload C rfl rfl rfl ?_
  refine k_iconst C (x := 1) rfl rfl rfl ?_
  refine k_iadd C rfl rfl ?_
  refine ls_i hL (k := 1) rfl rfl (by unfold vp_in; decide) (by decide) ?_
  refine k_aload_n C rfl rfl rfl ?_
  refine k_iload C rfl rfl rfl ?_
  refine k_iconst C (x := 2) rfl rfl rfl ?_
  refine k_iadd C rfl rfl ?_
  refine ls_i hL (k := 2) rfl rfl (by unfold vp_in; decide) (by decide) ?_
  refine k_aload_n C rfl rfl rfl ?_
  refine k_iload C rfl rfl rfl ?_
  refine k_iconst C (x := 3) rfl rfl rfl ?_
  refine k_iadd C rfl rfl ?_
  refine ls_i hL (k := 3) rfl rfl (by unfold vp_in; decide) (by decide) ?_
  refine k_aload_n C rfl rfl rfl ?_
  refine k_iload C rfl rfl rfl ?_
  refine k_iconst C (x := 4) rfl rfl rfl ?_
  refine k_iadd C rfl rfl ?_
  refine ls_i hL (k := 4) rfl rfl (by unfold vp_in; decide) (by decide) ?_
  refine c_VI C (e_m_overlap0 T_m R_m_1 T_w N_w B_m (I_w_1) ) rfl rfl rfl rfl rfl ⟨_, rfl, rfl, T_m, Nat.le_of_ble_eq_true rfl⟩ rfl rfl (Nat.le_of_ble_eq_true rfl) (Nat.le_of_ble_eq_true rfl) (Nat.le_of_ble_eq_true rfl) ?_
  intro x2388 I2388 L2388 h2388
  refine k_istore C (lw := [(6, .int _), (5, .int _), (4, .int _), (3, _), (2, _), (1, _), (0, _)]) rfl rfl (Nat.le_of_ble_eq_true rfl) rfl ?_
  refine k_aload_n C rfl rfl rfl ?_
  refine c_VI C (e_thrown T_m ) rfl rfl rfl rfl rfl ⟨_, rfl, rfl, T_m, Nat.le_of_ble_eq_true rfl⟩ rfl rfl (Nat.le_of_ble_eq_true rfl) (Nat.le_of_ble_eq_true rfl) (Nat.le_of_ble_eq_true rfl) ?_
  rintro _ _ _ ⟨hx7, hI8, hL9⟩
  have hx7 := hx7.symm; subst hx7
  have hI8 := hI8.symm; subst hI8; have hL9 := hL9.symm; subst hL9
  refine k_iload C rfl rfl rfl ?_
  refine k_icmp_eq C (t := 2404) rfl rfl rfl (fun c2399 => ?_) (fun c2399 => ?_)
  · skip
    refine k_iload C rfl rfl rfl ?_
    refine k_if_ne C (t := 2421) rfl rfl rfl (fun _ => ?_) (fun c2406 => absurd (by decide) c2406)
    refine k_goto C (pc2 := 2832) rfl rfl ?_
    exact law_tail C S hL (Nat.le_of_ble_eq_true rfl) (Nat.le_of_ble_eq_true rfl) (List.forall_mem_cons.mpr ⟨List.mem_of_getElem? (i := 2) rfl, List.forall_mem_cons.mpr ⟨List.mem_of_getElem? (i := 6) rfl, fun _ h => nomatch h⟩⟩)
  exact absurd h2388.2 c2399

