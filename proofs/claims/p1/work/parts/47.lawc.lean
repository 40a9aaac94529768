/-! the law: its calls on a new object, 3 -/
set_option maxRecDepth 100000 in
theorem lc_0 {d : Nat} {V : V_T} {b x m o rd bt fv tp : Nat} {xs : Nat → Int32} {T N : Nat → Nat} {I : IT} {L : LT} {R : RT} {A B : Nat → Prop}  (C : Cl (d + 3) q_law 600002 7302232 law_Po V) (S : SB V) (hL : LSc V b 6 xs) (T_x : T x = 12) (R_x_0 : R x 0 = some rd) (T_rd : T rd = 5) (R_rd_2 : R rd 2 = some bt) (T_bt : T bt = 20) (N_bt : N bt = 400) (A_rd : A rd) (A_bt : A bt) (I_rd_1 : I rd 1 = 0) (T_m : T m = 13) (B_m : B m) (R_m_18 : R m 18 = some fv) (T_fv : T fv = 20) (N_fv : N fv = 5) (B_fv : B fv) (R_m_10 : R m 10 = some tp) (T_tp : T tp = 22) (N_tp : N tp = 400) (B_tp : B tp) (I_m_11 : I m 11 = 0) (nAB : ∀ a, B a → ¬ A a)  : V 224 [(4, .int 0), (3, .ref o), (2, .ref m), (1, .ref x), (0, .ref b)] [] (T, N, I, L, R) 429 34606 := by
  refine k_aload_n C rfl rfl rfl ?_
  refine k_aload_n C rfl rfl rfl ?_
  refine k_iload C rfl rfl rfl ?_
  refine k_iconst C (x := 1) rfl rfl rfl ?_
  refine k_iadd C rfl rfl ?_
  refine ls_i hL (k := 1) rfl rfl (by unfold vp_in; decide) (by decide) ?_
  refine k_aload_n C rfl rfl rfl ?_
  refine k_iload C rfl rfl rfl ?_
  refine k_iconst C (x := 2) rfl rfl rfl ?_
  refine k_iadd C rfl rfl ?_
  refine ls_i hL (k := 2) rfl rfl (by unfold vp_in; decide) (by decide) ?_
  refine k_aload_n C rfl rfl rfl ?_
  refine k_iload C rfl rfl rfl ?_
  refine k_iconst C (x := 3) rfl rfl rfl ?_
  refine k_iadd C rfl rfl ?_
  refine ls_i hL (k := 3) rfl rfl (by unfold vp_in; decide) (by decide) ?_
  refine k_aload_n C rfl rfl rfl ?_
  refine k_iload C rfl rfl rfl ?_
  refine k_iconst C (x := 4) rfl rfl rfl ?_
  refine k_iadd C rfl rfl ?_
  refine ls_i hL (k := 4) rfl rfl (by unfold vp_in; decide) (by decide) ?_
  refine k_aload_n C rfl rfl rfl ?_
  refine k_iload C rfl rfl rfl ?_
  refine k_iconst C (x := 5) rfl rfl rfl ?_
  refine k_iadd C rfl rfl ?_
  refine ls_i hL (k := 5) rfl rfl (by unfold vp_in; decide) (by decide) ?_
  refine c_VI C (e_feed0 T_x R_x_0 T_rd R_rd_2 T_bt N_bt A_rd A_bt (I_rd_1) ) rfl rfl rfl rfl rfl ⟨_, rfl, rfl, T_x, Nat.le_of_ble_eq_true rfl⟩ rfl rfl (Nat.le_of_ble_eq_true rfl) (Nat.le_of_ble_eq_true rfl) (Nat.le_of_ble_eq_true rfl) ?_
  intro x255 I255 L255 h255
  obtain ⟨rfl, f1⟩ := h255
  refine k_aload_n C rfl rfl rfl ?_
  refine k_aload_n C rfl rfl rfl ?_
  refine k_iload C rfl rfl rfl ?_
  refine k_iconst C (x := 1) rfl rfl rfl ?_
  refine k_iadd C rfl rfl ?_
  refine ls_i hL (k := 1) rfl rfl (by unfold vp_in; decide) (by decide) ?_
  refine k_aload_n C rfl rfl rfl ?_
  refine k_iload C rfl rfl rfl ?_
  refine k_iconst C (x := 2) rfl rfl rfl ?_
  refine k_iadd C rfl rfl ?_
  refine ls_i hL (k := 2) rfl rfl (by unfold vp_in; decide) (by decide) ?_
  refine k_aload_n C rfl rfl rfl ?_
  refine k_iload C rfl rfl rfl ?_
  refine k_iconst C (x := 3) rfl rfl rfl ?_
  refine k_iadd C rfl rfl ?_
  refine ls_i hL (k := 3) rfl rfl (by unfold vp_in; decide) (by decide) ?_
  refine k_aload_n C rfl rfl rfl ?_
  refine k_iload C rfl rfl rfl ?_
  refine k_iconst C (x := 4) rfl rfl rfl ?_
  refine k_iadd C rfl rfl ?_
  refine ls_i hL (k := 4) rfl rfl (by unfold vp_in; decide) (by decide) ?_
  refine k_aload_n C rfl rfl rfl ?_
  refine k_iload C rfl rfl rfl ?_
  refine k_iconst C (x := 5) rfl rfl rfl ?_
  refine k_iadd C rfl rfl ?_
  refine ls_i hL (k := 5) rfl rfl (by unfold vp_in; decide) (by decide) ?_
  refine c_VI C (e_m_feed0 T_m B_m R_m_18 T_fv N_fv B_fv R_m_10 T_tp N_tp B_tp (((congrFun (f1 m (nAB m B_m)).1 11).trans I_m_11)) ) rfl rfl rfl rfl rfl ⟨_, rfl, rfl, T_m, Nat.le_of_ble_eq_true rfl⟩ rfl rfl (Nat.le_of_ble_eq_true rfl) (Nat.le_of_ble_eq_true rfl) (Nat.le_of_ble_eq_true rfl) ?_
  intro x289 I289 L289 h289
  obtain ⟨rfl, f2, z2⟩ := h289
  refine k_icmp_eq C (t := 2832) rfl rfl rfl (fun c292 => ?_) (fun c292 => ?_)
  · skip
    exact law_tail C S hL (Nat.le_of_ble_eq_true rfl) (Nat.le_of_ble_eq_true rfl) (List.forall_mem_cons.mpr ⟨List.mem_of_getElem? (i := 0) rfl, List.forall_mem_cons.mpr ⟨List.mem_of_getElem? (i := 4) rfl, fun _ h => nomatch h⟩⟩)
  exact absurd rfl c292

set_option maxRecDepth 100000 in
theorem lc_1 {d : Nat} {V : V_T} {b x m o rd : Nat} {xs : Nat → Int32} {T N : Nat → Nat} {I : IT} {L : LT} {R : RT} {A B : Nat → Prop}  (C : Cl (d + 2) q_law 600002 7302232 law_Po V) (S : SB V) (hL : LSc V b 6 xs) (T_x : T x = 12) (R_x_0 : R x 0 = some rd) (T_rd : T rd = 5) (I_rd_1 : I rd 1 = 0) (A_rd : A rd) (T_m : T m = 13) (B_m : B m) (I_m_11 : I m 11 = 0) (nAB : ∀ a, B a → ¬ A a)  : V 297 [(4, .int 0), (3, .ref o), (2, .ref m), (1, .ref x), (0, .ref b)] [] (T, N, I, L, R) 429 34606 := by
  refine k_aload_n C rfl rfl rfl ?_
  refine k_aload_n C rfl rfl rfl ?_
  refine k_iload C rfl rfl rfl ?_
  refine k_iconst C (x := 1) rfl rfl rfl ?_
  refine k_iadd C rfl rfl ?_
  refine ls_i hL (k := 1) rfl rfl (by unfold vp_in; decide) (by decide) ?_
  refine c_VI C (e_end0 T_x R_x_0 T_rd (I_rd_1) A_rd ) rfl rfl rfl rfl rfl ⟨_, rfl, rfl, T_x, Nat.le_of_ble_eq_true rfl⟩ rfl rfl (Nat.le_of_ble_eq_true rfl) (Nat.le_of_ble_eq_true rfl) (Nat.le_of_ble_eq_true rfl) ?_
  intro x304 I304 L304 h304
  obtain ⟨rfl, f1⟩ := h304
  refine k_aload_n C rfl rfl rfl ?_
  refine k_aload_n C rfl rfl rfl ?_
  refine k_iload C rfl rfl rfl ?_
  refine k_iconst C (x := 1) rfl rfl rfl ?_
  refine k_iadd C rfl rfl ?_
  refine ls_i hL (k := 1) rfl rfl (by unfold vp_in; decide) (by decide) ?_
  refine c_VI C (e_m_end0 T_m B_m (((congrFun (f1 m (nAB m B_m)).1 11).trans I_m_11)) ) rfl rfl rfl rfl rfl ⟨_, rfl, rfl, T_m, Nat.le_of_ble_eq_true rfl⟩ rfl rfl (Nat.le_of_ble_eq_true rfl) (Nat.le_of_ble_eq_true rfl) (Nat.le_of_ble_eq_true rfl) ?_
  intro x314 I314 L314 h314
  obtain ⟨rfl, f2, z2⟩ := h314
  refine k_icmp_eq C (t := 2832) rfl rfl rfl (fun c317 => ?_) (fun c317 => ?_)
  · skip
    exact law_tail C S hL (Nat.le_of_ble_eq_true rfl) (Nat.le_of_ble_eq_true rfl) (List.forall_mem_cons.mpr ⟨List.mem_of_getElem? (i := 0) rfl, List.forall_mem_cons.mpr ⟨List.mem_of_getElem? (i := 4) rfl, fun _ h => nomatch h⟩⟩)
  exact absurd rfl c317

set_option maxRecDepth 100000 in
theorem lc_2_no {d : Nat} {V : V_T} {b x m o : Nat} {xs : Nat → Int32} {T N : Nat → Nat} {I : IT} {L : LT} {R : RT} {A B : Nat → Prop}  (C : Cl (d + 3) q_law 600002 7302232 law_Po V) (S : SB V) (hL : LSc V b 6 xs) (T_x : T x = 12) (T_m : T m = 13) (B_m : B m) (hp : ¬ (xs 1 = 11 ∨ xs 1 = 13 ∨ xs 1 = 17 ∨ xs 1 = 19)) : V 322 [(4, .int 0), (3, .ref o), (2, .ref m), (1, .ref x), (0, .ref b)] [] (T, N, I, L, R) 429 34606 := by
  refine k_aload_n C rfl rfl rfl ?_
  refine k_aload_n C rfl rfl rfl ?_
  refine k_iload C rfl rfl rfl ?_
  refine k_iconst C (x := 1) rfl rfl rfl ?_
  refine k_iadd C rfl rfl ?_
  refine ls_i hL (k := 1) rfl rfl (by unfold vp_in; decide) (by decide) ?_
  refine c_SI C (e_L_field_no T_x hp) rfl rfl rfl rfl rfl rfl rfl (Nat.le_of_ble_eq_true rfl) (Nat.le_of_ble_eq_true rfl) (Nat.le_of_ble_eq_true rfl) ?_
  rintro _ _ _ ⟨hx7, hI8, hL9⟩
  have hx7 := hx7.symm; subst hx7
  have hI8 := hI8.symm; subst hI8; have hL9 := hL9.symm; subst hL9
  refine k_istore C (lw := [(5, .int _), (4, .int _), (3, _), (2, _), (1, _), (0, _)]) rfl rfl (Nat.le_of_ble_eq_true rfl) rfl ?_
  refine k_aload_n C rfl rfl rfl ?_
  refine k_aload_n C rfl rfl rfl ?_
  refine k_iload C rfl rfl rfl ?_
  refine k_iconst C (x := 1) rfl rfl rfl ?_
  refine k_iadd C rfl rfl ?_
  refine ls_i hL (k := 1) rfl rfl (by unfold vp_in; decide) (by decide) ?_
  refine c_VV C (e_m_field_no T_m B_m hp) rfl rfl rfl rfl rfl ⟨_, rfl, rfl, T_m, Nat.le_of_ble_eq_true rfl⟩ rfl rfl (Nat.le_of_ble_eq_true rfl) (Nat.le_of_ble_eq_true rfl) (Nat.le_of_ble_eq_true rfl) ?_
  intro I341 L341 h341
  obtain ⟨f2, z2⟩ := h341
  refine k_aload_n C rfl rfl rfl ?_
  refine c_VI C (e_thrown T_m ) rfl rfl rfl rfl rfl ⟨_, rfl, rfl, T_m, Nat.le_of_ble_eq_true rfl⟩ rfl rfl (Nat.le_of_ble_eq_true rfl) (Nat.le_of_ble_eq_true rfl) (Nat.le_of_ble_eq_true rfl) ?_
  rintro _ _ _ ⟨hx7, hI8, hL9⟩
  have hx7 := hx7.symm; subst hx7
  have hI8 := hI8.symm; subst hI8; have hL9 := hL9.symm; subst hL9
  rw [z2]
  refine k_iload C rfl rfl rfl ?_
  refine k_icmp_eq C (t := 355) rfl rfl rfl (fun _ => ?_) (fun c350 => absurd (by decide) c350)
  refine k_goto C (pc2 := 2832) rfl rfl ?_
  exact law_tail C S hL (Nat.le_of_ble_eq_true rfl) (Nat.le_of_ble_eq_true rfl) (List.forall_mem_cons.mpr ⟨List.mem_of_getElem? (i := 1) rfl, List.forall_mem_cons.mpr ⟨List.mem_of_getElem? (i := 5) rfl, fun _ h => nomatch h⟩⟩)

set_option maxRecDepth 100000 in
theorem lc_2_yes {d : Nat} {V : V_T} {b x m o nw w : Nat} {xs : Nat → Int32} {T N : Nat → Nat} {I : IT} {L : LT} {R : RT} {A B : Nat → Prop}  (C : Cl (d + 3) q_law 600002 7302232 law_Po V) (S : SB V) (hL : LSc V b 6 xs) (T_x : T x = 12) (R_x_1 : R x 1 = some nw) (T_nw : T nw = 9) (I_nw_1 : I nw 1 = 0) (I_nw_2 : I nw 2 = 0) (A_nw : A nw) (T_m : T m = 13) (R_m_1 : R m 1 = some w) (T_w : T w = 20) (N_w : N w = 4007) (B_m : B m) (B_w : B w) (I_w_1 : I w 1 = 0) (I_w_2 : I w 2 = 0) (nAB : ∀ a, B a → ¬ A a) (hp : xs 1 = 11 ∨ xs 1 = 13 ∨ xs 1 = 17 ∨ xs 1 = 19) : V 322 [(4, .int 0), (3, .ref o), (2, .ref m), (1, .ref x), (0, .ref b)] [] (T, N, I, L, R) 429 34606 := by
  refine k_aload_n C rfl rfl rfl ?_
  refine k_aload_n C rfl rfl rfl ?_
  refine k_iload C rfl rfl rfl ?_
  refine k_iconst C (x := 1) rfl rfl rfl ?_
  refine k_iadd C rfl rfl ?_
  refine ls_i hL (k := 1) rfl rfl (by unfold vp_in; decide) (by decide) ?_
  refine c_SI C (e_L_field_yes T_x R_x_1 T_nw (I_nw_1) (I_nw_2) A_nw hp) rfl rfl rfl rfl rfl rfl rfl (Nat.le_of_ble_eq_true rfl) (Nat.le_of_ble_eq_true rfl) (Nat.le_of_ble_eq_true rfl) ?_
  intro x329 I329 L329 h329
  obtain ⟨rfl, f1⟩ := h329
  refine k_istore C (lw := [(5, .int _), (4, .int _), (3, _), (2, _), (1, _), (0, _)]) rfl rfl (Nat.le_of_ble_eq_true rfl) rfl ?_
  refine k_aload_n C rfl rfl rfl ?_
  refine k_aload_n C rfl rfl rfl ?_
  refine k_iload C rfl rfl rfl ?_
  refine k_iconst C (x := 1) rfl rfl rfl ?_
  refine k_iadd C rfl rfl ?_
  refine ls_i hL (k := 1) rfl rfl (by unfold vp_in; decide) (by decide) ?_
  refine c_VV C (e_m_field_yes T_m R_m_1 T_w N_w B_m B_w (((congrFun (f1 w (nAB w B_w)).1 1).trans I_w_1)) (((congrFun (f1 w (nAB w B_w)).1 2).trans I_w_2)) hp) rfl rfl rfl rfl rfl ⟨_, rfl, rfl, T_m, Nat.le_of_ble_eq_true rfl⟩ rfl rfl (Nat.le_of_ble_eq_true rfl) (Nat.le_of_ble_eq_true rfl) (Nat.le_of_ble_eq_true rfl) ?_
  intro I341 L341 h341
  obtain ⟨f2, z2⟩ := h341
  refine k_aload_n C rfl rfl rfl ?_
  refine c_VI C (e_thrown T_m ) rfl rfl rfl rfl rfl ⟨_, rfl, rfl, T_m, Nat.le_of_ble_eq_true rfl⟩ rfl rfl (Nat.le_of_ble_eq_true rfl) (Nat.le_of_ble_eq_true rfl) (Nat.le_of_ble_eq_true rfl) ?_
  rintro _ _ _ ⟨hx7, hI8, hL9⟩
  have hx7 := hx7.symm; subst hx7
  have hI8 := hI8.symm; subst hI8; have hL9 := hL9.symm; subst hL9
  rw [z2]
  refine k_iload C rfl rfl rfl ?_
  refine k_icmp_eq C (t := 355) rfl rfl rfl (fun _ => ?_) (fun c350 => absurd (by decide) c350)
  refine k_goto C (pc2 := 2832) rfl rfl ?_
  exact law_tail C S hL (Nat.le_of_ble_eq_true rfl) (Nat.le_of_ble_eq_true rfl) (List.forall_mem_cons.mpr ⟨List.mem_of_getElem? (i := 1) rfl, List.forall_mem_cons.mpr ⟨List.mem_of_getElem? (i := 5) rfl, fun _ h => nomatch h⟩⟩)

set_option maxRecDepth 100000 in
theorem lc_3_0 {d : Nat} {V : V_T} {b x m o rd : Nat} {xs : Nat → Int32} {T N : Nat → Nat} {I : IT} {L : LT} {R : RT} {A B : Nat → Prop}  (C : Cl (d + 4) q_law 600002 7302232 law_Po V) (S : SB V) (hL : LSc V b 6 xs) (T_x : T x = 12) (R_x_0 : R x 0 = some rd) (T_rd : T rd = 5) (I_rd_1 : I rd 1 = 0) (A_rd : A rd) (T_m : T m = 13) (B_m : B m) (I_m_11 : I m 11 = 0) (nAB : ∀ a, B a → ¬ A a)  : V 358 [(4, .int 0), (3, .ref o), (2, .ref m), (1, .ref x), (0, .ref b)] [] (T, N, I, L, R) 429 34606 := by
  refine k_aload_n C rfl rfl rfl ?_
  refine k_aload_n C rfl rfl rfl ?_
  refine c_SI C (e_L_form0 T_x R_x_0 T_rd (I_rd_1) A_rd ) rfl rfl rfl rfl rfl rfl rfl (Nat.le_of_ble_eq_true rfl) (Nat.le_of_ble_eq_true rfl) (Nat.le_of_ble_eq_true rfl) ?_
  intro x360 I360 L360 h360
  obtain ⟨rfl, f1⟩ := h360
  refine k_istore C (lw := [(5, .int _), (4, .int _), (3, _), (2, _), (1, _), (0, _)]) rfl rfl (Nat.le_of_ble_eq_true rfl) rfl ?_
  refine k_aload_n C rfl rfl rfl ?_
  refine c_VI C (e_m_form0 T_m B_m (((congrFun (f1 m (nAB m B_m)).1 11).trans I_m_11)) ) rfl rfl rfl rfl rfl ⟨_, rfl, rfl, T_m, Nat.le_of_ble_eq_true rfl⟩ rfl rfl (Nat.le_of_ble_eq_true rfl) (Nat.le_of_ble_eq_true rfl) (Nat.le_of_ble_eq_true rfl) ?_
  intro x366 I366 L366 h366
  obtain ⟨f2, z2⟩ := h366
  refine k_istore C (lw := [(6, .int _), (5, .int _), (4, .int _), (3, _), (2, _), (1, _), (0, _)]) rfl rfl (Nat.le_of_ble_eq_true rfl) rfl ?_
  refine k_aload_n C rfl rfl rfl ?_
  refine c_VI C (e_thrown T_m ) rfl rfl rfl rfl rfl ⟨_, rfl, rfl, T_m, Nat.le_of_ble_eq_true rfl⟩ rfl rfl (Nat.le_of_ble_eq_true rfl) (Nat.le_of_ble_eq_true rfl) (Nat.le_of_ble_eq_true rfl) ?_
  rintro _ _ _ ⟨hx7, hI8, hL9⟩
  have hx7 := hx7.symm; subst hx7
  have hI8 := hI8.symm; subst hI8; have hL9 := hL9.symm; subst hL9
  rw [z2]
  refine k_iload C rfl rfl rfl ?_
  refine k_icmp_eq C (t := 382) rfl rfl rfl (fun _ => ?_) (fun c377 => absurd (by decide) c377)
  refine k_iload C rfl rfl rfl ?_
  refine k_if_ne C (t := 399) rfl rfl rfl (fun _ => ?_) (fun c384 => absurd (by decide) c384)
  refine k_goto C (pc2 := 2832) rfl rfl ?_
  exact law_tail C S hL (Nat.le_of_ble_eq_true rfl) (Nat.le_of_ble_eq_true rfl) (List.forall_mem_cons.mpr ⟨List.mem_of_getElem? (i := 2) rfl, List.forall_mem_cons.mpr ⟨List.mem_of_getElem? (i := 6) rfl, fun _ h => nomatch h⟩⟩)

set_option maxRecDepth 100000 in
theorem lc_4_no {d : Nat} {V : V_T} {b x m o nw al w : Nat} {xs : Nat → Int32} {T N : Nat → Nat} {I : IT} {L : LT} {R : RT} {A B : Nat → Prop}  (C : Cl (d + 5) q_law 600002 7302232 law_Po V) (S : SB V) (hL : LSc V b 6 xs) (T_x : T x = 12) (R_x_1 : R x 1 = some nw) (R_x_5 : R x 5 = some al) (T_al : T al = 1) (R_al_0 : R al 0 = some nw) (T_nw : T nw = 9) (I_nw_0 : I nw 0 = 11) (T_m : T m = 13) (R_m_1 : R m 1 = some w) (T_w : T w = 20) (N_w : N w = 4007) (I_w_0 : I w 0 = 11) (B_m : B m) (B_w : B w) (h0 : dt (11 : Int32).toInt (xs 1).toInt (xs 2).toInt (xs 3).toInt (xs 4).toInt = 0) : V 402 [(4, .int 0), (3, .ref o), (2, .ref m), (1, .ref x), (0, .ref b)] [] (T, N, I, L, R) 429 34606 := by
  refine k_aload_n C rfl rfl rfl ?_
  refine k_aload_n C rfl rfl rfl ?_
  refine k_iload C rfl rfl rfl ?_
  refine k_iconst C (x := 1) rfl rfl rfl ?_
  refine k_iadd C rfl rfl ?_
  refine ls_i hL (k := 1) rfl rfl (by unfold vp_in; decide) (by decide) ?_
  refine k_aload_n C rfl rfl rfl ?_
  refine k_iload C rfl rfl rfl ?_
  refine k_iconst C (x := 2) rfl rfl rfl ?_
  refine k_iadd C rfl rfl ?_
  refine ls_i hL (k := 2) rfl rfl (by unfold vp_in; decide) (by decide) ?_
  refine k_aload_n C rfl rfl rfl ?_
  refine k_iload C rfl rfl rfl ?_
  refine k_iconst C (x := 3) rfl rfl rfl ?_
  refine k_iadd C rfl rfl ?_
  refine ls_i hL (k := 3) rfl rfl (by unfold vp_in; decide) (by decide) ?_
  refine k_aload_n C rfl rfl rfl ?_
  refine k_iload C rfl rfl rfl ?_
  refine k_iconst C (x := 4) rfl rfl rfl ?_
  refine k_iadd C rfl rfl ?_
  refine ls_i hL (k := 4) rfl rfl (by unfold vp_in; decide) (by decide) ?_
  refine k_aload_n C rfl rfl rfl ?_
  refine c_SI C (e_L_table_no T_x R_x_1 R_x_5 T_al R_al_0 T_nw (I_nw_0) (by decide) (by decide) h0) rfl rfl rfl rfl rfl rfl rfl (Nat.le_of_ble_eq_true rfl) (Nat.le_of_ble_eq_true rfl) (Nat.le_of_ble_eq_true rfl) ?_
  rintro _ _ _ ⟨hx7, hI8, hL9⟩
  have hx7 := hx7.symm; subst hx7
  have hI8 := hI8.symm; subst hI8; have hL9 := hL9.symm; subst hL9
  refine k_istore C (lw := [(5, .int _), (4, .int _), (3, _), (2, _), (1, _), (0, _)]) rfl rfl (Nat.le_of_ble_eq_true rfl) rfl ?_
  refine k_aload_n C rfl rfl rfl ?_
  refine k_aload_n C rfl rfl rfl ?_
  refine k_iload C rfl rfl rfl ?_
  refine k_iconst C (x := 1) rfl rfl rfl ?_
  refine k_iadd C rfl rfl ?_
  refine ls_i hL (k := 1) rfl rfl (by unfold vp_in; decide) (by decide) ?_
  refine k_aload_n C rfl rfl rfl ?_
  refine k_iload C rfl rfl rfl ?_
  refine k_iconst C (x := 2) rfl rfl rfl ?_
  refine k_iadd C rfl rfl ?_
  refine ls_i hL (k := 2) rfl rfl (by unfold vp_in; decide) (by decide) ?_
  refine k_aload_n C rfl rfl rfl ?_
  refine k_iload C rfl rfl rfl ?_
  refine k_iconst C (x := 3) rfl rfl rfl ?_
  refine k_iadd C rfl rfl ?_
  refine ls_i hL (k := 3) rfl rfl (by unfold vp_in; decide) (by decide) ?_
  refine k_aload_n C rfl rfl rfl ?_
  refine k_iload C rfl rfl rfl ?_
  refine k_iconst C (x := 4) rfl rfl rfl ?_
  refine k_iadd C rfl rfl ?_
  refine ls_i hL (k := 4) rfl rfl (by unfold vp_in; decide) (by decide) ?_
  refine c_VI C (e_m_table_no T_m R_m_1 T_w N_w (I_w_0) B_m (by decide) (by decide) h0) rfl rfl rfl rfl rfl ⟨_, rfl, rfl, T_m, Nat.le_of_ble_eq_true rfl⟩ rfl rfl (Nat.le_of_ble_eq_true rfl) (Nat.le_of_ble_eq_true rfl) (Nat.le_of_ble_eq_true rfl) ?_
  intro x458 I458 L458 h458
  obtain ⟨f2, z2⟩ := h458
  refine k_istore C (lw := [(6, .int _), (5, .int _), (4, .int _), (3, _), (2, _), (1, _), (0, _)]) rfl rfl (Nat.le_of_ble_eq_true rfl) rfl ?_
  refine k_aload_n C rfl rfl rfl ?_
  refine c_VI C (e_thrown T_m ) rfl rfl rfl rfl rfl ⟨_, rfl, rfl, T_m, Nat.le_of_ble_eq_true rfl⟩ rfl rfl (Nat.le_of_ble_eq_true rfl) (Nat.le_of_ble_eq_true rfl) (Nat.le_of_ble_eq_true rfl) ?_
  rintro _ _ _ ⟨hx7, hI8, hL9⟩
  have hx7 := hx7.symm; subst hx7
  have hI8 := hI8.symm; subst hI8; have hL9 := hL9.symm; subst hL9
  rw [z2]
  refine k_iload C rfl rfl rfl ?_
  refine k_icmp_eq C (t := 474) rfl rfl rfl (fun _ => ?_) (fun c469 => absurd (by decide) c469)
  refine k_iload C rfl rfl rfl ?_
  refine k_if_ne C (t := 491) rfl rfl rfl (fun _ => ?_) (fun c476 => absurd (by decide) c476)
  refine k_goto C (pc2 := 2832) rfl rfl ?_
  exact law_tail C S hL (Nat.le_of_ble_eq_true rfl) (Nat.le_of_ble_eq_true rfl) (List.forall_mem_cons.mpr ⟨List.mem_of_getElem? (i := 2) rfl, List.forall_mem_cons.mpr ⟨List.mem_of_getElem? (i := 6) rfl, fun _ h => nomatch h⟩⟩)

set_option maxRecDepth 100000 in
theorem lc_4_yes {d : Nat} {V : V_T} {b x m o nw al ta tb w : Nat} {xs : Nat → Int32} {T N : Nat → Nat} {I : IT} {L : LT} {R : RT} {A B : Nat → Prop}  (C : Cl (d + 5) q_law 600002 7302232 law_Po V) (S : SB V) (hL : LSc V b 6 xs) (T_x : T x = 12) (R_x_1 : R x 1 = some nw) (R_x_5 : R x 5 = some al) (T_al : T al = 1) (R_al_0 : R al 0 = some nw) (T_nw : T nw = 9) (I_nw_0 : I nw 0 = 11) (R_nw_9 : R nw 9 = some ta) (T_ta : T ta = 24) (N_ta : N ta = 8) (R_ta_0 : R ta 0 = some tb) (I_nw_2 : I nw 2 = 0) (A_nw : A nw) (T_tb : T tb = 10) (A_tb : A tb) (T_o : T o = 21) (N_o : N o = 1) (A_o : A o) (T_m : T m = 13) (R_m_1 : R m 1 = some w) (T_w : T w = 20) (N_w : N w = 4007) (I_w_0 : I w 0 = 11) (B_m : B m) (B_w : B w) (I_w_2 : I w 2 = 0) (nAB : ∀ a, B a → ¬ A a) (nBo : ¬ B o) (h0 : dt (11 : Int32).toInt (xs 1).toInt (xs 2).toInt (xs 3).toInt (xs 4).toInt ≠ 0) : V 402 [(4, .int 0), (3, .ref o), (2, .ref m), (1, .ref x), (0, .ref b)] [] (T, N, I, L, R) 429 34606 := by
  refine k_aload_n C rfl rfl rfl ?_
  refine k_aload_n C rfl rfl rfl ?_
  refine k_iload C rfl rfl rfl ?_
  refine k_iconst C (x := 1) rfl rfl rfl ?_
  refine k_iadd C rfl rfl ?_
  refine ls_i hL (k := 1) rfl rfl (by unfold vp_in; decide) (by decide) ?_
  refine k_aload_n C rfl rfl rfl ?_
  refine k_iload C rfl rfl rfl ?_
  refine k_iconst C (x := 2) rfl rfl rfl ?_
  refine k_iadd C rfl rfl ?_
  refine ls_i hL (k := 2) rfl rfl (by unfold vp_in; decide) (by decide) ?_
  refine k_aload_n C rfl rfl rfl ?_
  refine k_iload C rfl rfl rfl ?_
  refine k_iconst C (x := 3) rfl rfl rfl ?_
  refine k_iadd C rfl rfl ?_
  refine ls_i hL (k := 3) rfl rfl (by unfold vp_in; decide) (by decide) ?_
  refine k_aload_n C rfl rfl rfl ?_
  refine k_iload C rfl rfl rfl ?_
  refine k_iconst C (x := 4) rfl rfl rfl ?_
  refine k_iadd C rfl rfl ?_
  refine ls_i hL (k := 4) rfl rfl (by unfold vp_in; decide) (by decide) ?_
  refine k_aload_n C rfl rfl rfl ?_
  refine c_SI C (e_L_table_yes T_x R_x_1 R_x_5 T_al R_al_0 T_nw (I_nw_0) R_nw_9 T_ta N_ta R_ta_0 (I_nw_2) A_nw T_tb A_tb T_o N_o A_o (by decide) (by decide) h0) rfl rfl rfl rfl rfl rfl rfl (Nat.le_of_ble_eq_true rfl) (Nat.le_of_ble_eq_true rfl) (Nat.le_of_ble_eq_true rfl) ?_
  intro x428 I428 L428 h428
  obtain ⟨rfl, f1, v1⟩ := h428
  refine k_istore C (lw := [(5, .int _), (4, .int _), (3, _), (2, _), (1, _), (0, _)]) rfl rfl (Nat.le_of_ble_eq_true rfl) rfl ?_
  refine k_aload_n C rfl rfl rfl ?_
  refine k_aload_n C rfl rfl rfl ?_
  refine k_iload C rfl rfl rfl ?_
  refine k_iconst C (x := 1) rfl rfl rfl ?_
  refine k_iadd C rfl rfl ?_
  refine ls_i hL (k := 1) rfl rfl (by unfold vp_in; decide) (by decide) ?_
  refine k_aload_n C rfl rfl rfl ?_
  refine k_iload C rfl rfl rfl ?_
  refine k_iconst C (x := 2) rfl rfl rfl ?_
  refine k_iadd C rfl rfl ?_
  refine ls_i hL (k := 2) rfl rfl (by unfold vp_in; decide) (by decide) ?_
  refine k_aload_n C rfl rfl rfl ?_
  refine k_iload C rfl rfl rfl ?_
  refine k_iconst C (x := 3) rfl rfl rfl ?_
  refine k_iadd C rfl rfl ?_
  refine ls_i hL (k := 3) rfl rfl (by unfold vp_in; decide) (by decide) ?_
  refine k_aload_n C rfl rfl rfl ?_
  refine k_iload C rfl rfl rfl ?_
  refine k_iconst C (x := 4) rfl rfl rfl ?_
  refine k_iadd C rfl rfl ?_
  refine ls_i hL (k := 4) rfl rfl (by unfold vp_in; decide) (by decide) ?_
  refine c_VI C (e_m_table_yes T_m R_m_1 T_w N_w (((congrFun (f1 w (nAB w B_w)).1 0).trans I_w_0)) B_m B_w (((congrFun (f1 w (nAB w B_w)).1 2).trans I_w_2)) (by decide) (by decide) h0) rfl rfl rfl rfl rfl ⟨_, rfl, rfl, T_m, Nat.le_of_ble_eq_true rfl⟩ rfl rfl (Nat.le_of_ble_eq_true rfl) (Nat.le_of_ble_eq_true rfl) (Nat.le_of_ble_eq_true rfl) ?_
  intro x458 I458 L458 h458
  obtain ⟨rfl, f2, z2⟩ := h458
  refine k_istore C (lw := [(6, .int _), (5, .int _), (4, .int _), (3, _), (2, _), (1, _), (0, _)]) rfl rfl (Nat.le_of_ble_eq_true rfl) rfl ?_
  refine k_aload_n C rfl rfl rfl ?_
  refine c_VI C (e_thrown T_m ) rfl rfl rfl rfl rfl ⟨_, rfl, rfl, T_m, Nat.le_of_ble_eq_true rfl⟩ rfl rfl (Nat.le_of_ble_eq_true rfl) (Nat.le_of_ble_eq_true rfl) (Nat.le_of_ble_eq_true rfl) ?_
  rintro _ _ _ ⟨hx7, hI8, hL9⟩
  have hx7 := hx7.symm; subst hx7
  have hI8 := hI8.symm; subst hI8; have hL9 := hL9.symm; subst hL9
  rw [z2]
  refine k_iload C rfl rfl rfl ?_
  refine k_icmp_eq C (t := 474) rfl rfl rfl (fun _ => ?_) (fun c469 => absurd (by decide) c469)
  refine k_iload C rfl rfl rfl ?_
  refine k_if_ne C (t := 491) rfl rfl rfl (fun c476 => absurd c476 (by decide)) (fun _ => ?_)
  refine k_aload_n C rfl rfl rfl ?_
  refine k_iconst C (x := 0) rfl rfl rfl ?_
  refine a_L C rfl rfl T_o (vin (n := 0) rfl (by rw [N_o]; exact Nat.le_of_ble_eq_true rfl) (by rw [N_o]; exact Nat.le_of_ble_eq_true rfl)) ((congrFun (f2 o nBo).2 0).trans v1) ?_
  refine k_iload C rfl rfl rfl ?_
  refine k_i2l C rfl rfl ?_
  refine k_lcmp C rfl rfl ?_
  refine k_if_eq C (t := 491) rfl rfl rfl (fun c486 => ?_) (fun c486 => ?_)
  · skip
    refine k_goto C (pc2 := 2832) rfl rfl ?_
    exact law_tail C S hL (Nat.le_of_ble_eq_true rfl) (Nat.le_of_ble_eq_true rfl) (List.forall_mem_cons.mpr ⟨List.mem_of_getElem? (i := 2) rfl, List.forall_mem_cons.mpr ⟨List.mem_of_getElem? (i := 6) rfl, fun _ h => nomatch h⟩⟩)
  exact absurd ((lg_cmp_eq _ _).mpr rfl) c486

set_option maxRecDepth 100000 in
theorem lc_5_0 {d : Nat} {V : V_T} {b x m o rd oc : Nat} {xs : Nat → Int32} {T N : Nat → Nat} {I : IT} {L : LT} {R : RT} {A B : Nat → Prop}  (C : Cl (d + 8) q_law 600002 7302232 law_Po V) (S : SB V) (hL : LSc V b 6 xs) (T_x : T x = 12) (R_x_0 : R x 0 = some rd) (A_x : A x) (T_rd : T rd = 5) (R_rd_0 : R rd 0 = some oc) (T_oc : T oc = 8) (A_rd : A rd) (A_oc : A oc) (I_rd_1 : I rd 1 = 0) (T_m : T m = 13) (B_m : B m) (I_m_11 : I m 11 = 0) (nAB : ∀ a, B a → ¬ A a)  : V 494 [(4, .int 0), (3, .ref o), (2, .ref m), (1, .ref x), (0, .ref b)] [] (T, N, I, L, R) 429 34606 := by
  refine k_aload_n C rfl rfl rfl ?_
  refine k_aload_n C rfl rfl rfl ?_
  refine c_SI C (e_L_signs0 T_x R_x_0 A_x T_rd R_rd_0 T_oc A_rd A_oc (I_rd_1) ) rfl rfl rfl rfl rfl rfl rfl (Nat.le_of_ble_eq_true rfl) (Nat.le_of_ble_eq_true rfl) (Nat.le_of_ble_eq_true rfl) ?_
  intro x496 I496 L496 h496
  obtain ⟨rfl, f1⟩ := h496
  refine k_istore C (lw := [(5, .int _), (4, .int _), (3, _), (2, _), (1, _), (0, _)]) rfl rfl (Nat.le_of_ble_eq_true rfl) rfl ?_
  refine k_aload_n C rfl rfl rfl ?_
  refine c_VI C (e_m_signs0 T_m B_m (((congrFun (f1 m (nAB m B_m)).1 11).trans I_m_11)) ) rfl rfl rfl rfl rfl ⟨_, rfl, rfl, T_m, Nat.le_of_ble_eq_true rfl⟩ rfl rfl (Nat.le_of_ble_eq_true rfl) (Nat.le_of_ble_eq_true rfl) (Nat.le_of_ble_eq_true rfl) ?_
  intro x502 I502 L502 h502
  obtain ⟨f2, z2⟩ := h502
  refine k_istore C (lw := [(6, .int _), (5, .int _), (4, .int _), (3, _), (2, _), (1, _), (0, _)]) rfl rfl (Nat.le_of_ble_eq_true rfl) rfl ?_
  refine k_aload_n C rfl rfl rfl ?_
  refine c_VI C (e_thrown T_m ) rfl rfl rfl rfl rfl ⟨_, rfl, rfl, T_m, Nat.le_of_ble_eq_true rfl⟩ rfl rfl (Nat.le_of_ble_eq_true rfl) (Nat.le_of_ble_eq_true rfl) (Nat.le_of_ble_eq_true rfl) ?_
  rintro _ _ _ ⟨hx7, hI8, hL9⟩
  have hx7 := hx7.symm; subst hx7
  have hI8 := hI8.symm; subst hI8; have hL9 := hL9.symm; subst hL9
  rw [z2]
  refine k_iload C rfl rfl rfl ?_
  refine k_icmp_eq C (t := 518) rfl rfl rfl (fun _ => ?_) (fun c513 => absurd (by decide) c513)
  refine k_iload C rfl rfl rfl ?_
  refine k_if_ne C (t := 535) rfl rfl rfl (fun _ => ?_) (fun c520 => absurd (by decide) c520)
  refine k_goto C (pc2 := 2832) rfl rfl ?_
  exact law_tail C S hL (Nat.le_of_ble_eq_true rfl) (Nat.le_of_ble_eq_true rfl) (List.forall_mem_cons.mpr ⟨List.mem_of_getElem? (i := 2) rfl, List.forall_mem_cons.mpr ⟨List.mem_of_getElem? (i := 6) rfl, fun _ h => nomatch h⟩⟩)

set_option maxRecDepth 100000 in
theorem lc_6 {d : Nat} {V : V_T} {b x m o : Nat} {xs : Nat → Int32} {T N : Nat → Nat} {I : IT} {L : LT} {R : RT} {A B : Nat → Prop}  (C : Cl (d + 2) q_law 600002 7302232 law_Po V) (S : SB V) (hL : LSc V b 6 xs) (T_x : T x = 12) (I_x_4 : I x 4 = -1) (T_m : T m = 13) (B_m : B m) (I_m_17 : I m 17 = -1)  : V 538 [(4, .int 0), (3, .ref o), (2, .ref m), (1, .ref x), (0, .ref b)] [] (T, N, I, L, R) 429 34606 := by
  refine k_aload_n C rfl rfl rfl ?_
  refine c_VI C (e_fault0 T_x (I_x_4) ) rfl rfl rfl rfl rfl ⟨_, rfl, rfl, T_x, Nat.le_of_ble_eq_true rfl⟩ rfl rfl (Nat.le_of_ble_eq_true rfl) (Nat.le_of_ble_eq_true rfl) (Nat.le_of_ble_eq_true rfl) ?_
  rintro _ _ _ ⟨hx7, hI8, hL9⟩
  have hx7 := hx7.symm; subst hx7
  have hI8 := hI8.symm; subst hI8; have hL9 := hL9.symm; subst hL9
  refine k_aload_n C rfl rfl rfl ?_
  refine c_VI C (e_m_fault0 T_m B_m (I_m_17) ) rfl rfl rfl rfl rfl ⟨_, rfl, rfl, T_m, Nat.le_of_ble_eq_true rfl⟩ rfl rfl (Nat.le_of_ble_eq_true rfl) (Nat.le_of_ble_eq_true rfl) (Nat.le_of_ble_eq_true rfl) ?_
  intro x543 I543 L543 h543
  obtain ⟨rfl, f2, z2⟩ := h543
  refine k_icmp_eq C (t := 2832) rfl rfl rfl (fun c546 => ?_) (fun c546 => ?_)
  · skip
    exact law_tail C S hL (Nat.le_of_ble_eq_true rfl) (Nat.le_of_ble_eq_true rfl) (List.forall_mem_cons.mpr ⟨List.mem_of_getElem? (i := 0) rfl, List.forall_mem_cons.mpr ⟨List.mem_of_getElem? (i := 4) rfl, fun _ h => nomatch h⟩⟩)
  exact absurd rfl c546

set_option maxRecDepth 100000 in
theorem lc_11 {d : Nat} {V : V_T} {b x m o nw fr w : Nat} {xs : Nat → Int32} {T N : Nat → Nat} {I : IT} {L : LT} {R : RT} {A B : Nat → Prop}  (C : Cl (d + 4) q_law 600002 7302232 law_Po V) (S : SB V) (hL : LSc V b 6 xs) (T_x : T x = 12) (R_x_1 : R x 1 = some nw) (T_nw : T nw = 9) (R_nw_8 : R nw 8 = some fr) (I_nw_1 : I nw 1 = 0) (I_nw_4 : I nw 4 = 0) (T_m : T m = 13) (R_m_1 : R m 1 = some w) (T_w : T w = 20) (N_w : N w = 4007) (B_m : B m) (I_w_4 : I w 4 = 0) (B_w : B w)  : V 830 [(4, .int 0), (3, .ref o), (2, .ref m), (1, .ref x), (0, .ref b)] [] (T, N, I, L, R) 429 34606 := by
  refine k_aload_n C rfl rfl rfl ?_
  refine c_VI C (e_undo0 T_x R_x_1 T_nw R_nw_8 (I_nw_1) (I_nw_4) ) rfl rfl rfl rfl rfl ⟨_, rfl, rfl, T_x, Nat.le_of_ble_eq_true rfl⟩ rfl rfl (Nat.le_of_ble_eq_true rfl) (Nat.le_of_ble_eq_true rfl) (Nat.le_of_ble_eq_true rfl) ?_
  rintro _ _ _ ⟨hx7, hI8, hL9⟩
  have hx7 := hx7.symm; subst hx7
  have hI8 := hI8.symm; subst hI8; have hL9 := hL9.symm; subst hL9
  refine k_aload_n C rfl rfl rfl ?_
  refine c_VI C (e_m_undo0 T_m R_m_1 T_w N_w B_m (I_w_4) ) rfl rfl rfl rfl rfl ⟨_, rfl, rfl, T_m, Nat.le_of_ble_eq_true rfl⟩ rfl rfl (Nat.le_of_ble_eq_true rfl) (Nat.le_of_ble_eq_true rfl) (Nat.le_of_ble_eq_true rfl) ?_
  intro x835 I835 L835 h835
  obtain ⟨rfl, f2, z2⟩ := h835
  refine k_icmp_eq C (t := 2832) rfl rfl rfl (fun c838 => ?_) (fun c838 => ?_)
  · skip
    exact law_tail C S hL (Nat.le_of_ble_eq_true rfl) (Nat.le_of_ble_eq_true rfl) (List.forall_mem_cons.mpr ⟨List.mem_of_getElem? (i := 0) rfl, List.forall_mem_cons.mpr ⟨List.mem_of_getElem? (i := 4) rfl, fun _ h => nomatch h⟩⟩)
  exact absurd rfl c838

set_option maxRecDepth 100000 in
theorem lc_12 {d : Nat} {V : V_T} {b x m o nw fr w : Nat} {xs : Nat → Int32} {T N : Nat → Nat} {I : IT} {L : LT} {R : RT} {A B : Nat → Prop}  (C : Cl (d + 4) q_law 600002 7302232 law_Po V) (S : SB V) (hL : LSc V b 6 xs) (T_x : T x = 12) (R_x_1 : R x 1 = some nw) (T_nw : T nw = 9) (R_nw_8 : R nw 8 = some fr) (I_nw_1 : I nw 1 = 0) (I_nw_5 : I nw 5 = 0) (T_m : T m = 13) (R_m_1 : R m 1 = some w) (T_w : T w = 20) (N_w : N w = 4007) (B_m : B m) (I_w_5 : I w 5 = 0) (B_w : B w)  : V 843 [(4, .int 0), (3, .ref o), (2, .ref m), (1, .ref x), (0, .ref b)] [] (T, N, I, L, R) 429 34606 := by
  refine k_aload_n C rfl rfl rfl ?_
  refine c_VI C (e_redo0 T_x R_x_1 T_nw R_nw_8 (I_nw_1) (I_nw_5) ) rfl rfl rfl rfl rfl ⟨_, rfl, rfl, T_x, Nat.le_of_ble_eq_true rfl⟩ rfl rfl (Nat.le_of_ble_eq_true rfl) (Nat.le_of_ble_eq_true rfl) (Nat.le_of_ble_eq_true rfl) ?_
  rintro _ _ _ ⟨hx7, hI8, hL9⟩
  have hx7 := hx7.symm; subst hx7
  have hI8 := hI8.symm; subst hI8; have hL9 := hL9.symm; subst hL9
  refine k_aload_n C rfl rfl rfl ?_
  refine c_VI C (e_m_redo0 T_m R_m_1 T_w N_w B_m (I_w_5) ) rfl rfl rfl rfl rfl ⟨_, rfl, rfl, T_m, Nat.le_of_ble_eq_true rfl⟩ rfl rfl (Nat.le_of_ble_eq_true rfl) (Nat.le_of_ble_eq_true rfl) (Nat.le_of_ble_eq_true rfl) ?_
  intro x848 I848 L848 h848
  obtain ⟨rfl, f2, z2⟩ := h848
  refine k_icmp_eq C (t := 2832) rfl rfl rfl (fun c851 => ?_) (fun c851 => ?_)
  · skip
    exact law_tail C S hL (Nat.le_of_ble_eq_true rfl) (Nat.le_of_ble_eq_true rfl) (List.forall_mem_cons.mpr ⟨List.mem_of_getElem? (i := 0) rfl, List.forall_mem_cons.mpr ⟨List.mem_of_getElem? (i := 4) rfl, fun _ h => nomatch h⟩⟩)
  exact absurd rfl c851

