/-! the law: its calls on a new object, 6 -/
set_option maxRecDepth 100000 in
theorem lc_39 {d : Nat} {V : V_T} {b x m o nw kp kw ko ww no w im : Nat} {xs : Nat → Int32} {T N : Nat → Nat} {I : IT} {L : LT} {R : RT} {A B : Nat → Prop}  (C : Cl (d + 6) q_law 600002 7302232 law_Po V) (S : SB V) (hL : LSc V b 6 xs) (T_x : T x = 12) (A_x : A x) (R_x_1 : R x 1 = some nw) (R_x_2 : R x 2 = some kp) (T_kp : T kp = 9) (A_kp : A kp) (R_kp_6 : R kp 6 = some kw) (T_kw : T kw = 20) (N_kw : N kw = 40) (A_kw : A kw) (R_kp_7 : R kp 7 = some ko) (T_ko : T ko = 23) (T_nw : T nw = 9) (R_nw_6 : R nw 6 = some ww) (T_ww : T ww = 20) (N_ww : N ww = 40) (R_nw_7 : R nw 7 = some no) (T_no : T no = 23) (I_nw_1 : I nw 1 = 0) (I_nw_2 : I nw 2 = 0) (I_nw_3 : I nw 3 = 0) (T_m : T m = 13) (R_m_1 : R m 1 = some w) (T_w : T w = 20) (N_w : N w = 4007) (B_m : B m) (R_m_2 : R m 2 = some im) (T_im : T im = 20) (N_im : N im = 3606) (B_im : B im) (nAB : ∀ a, B a → ¬ A a) (hko : cRow T N R A ko 40) (hno : cRow T N R A no 40) (hzr : ∀ j, j < 40 → ∀ g, R no j = some g → I g 0 = 0) (hkn : kp ≠ nw) : V 2783 [(4, .int 0), (3, .ref o), (2, .ref m), (1, .ref x), (0, .ref b)] [] (T, N, I, L, R) 429 34606 := by
  refine k_aload_n C rfl rfl rfl ?_
  refine c_VV C (e_image0 T_x A_x R_x_1 R_x_2 T_kp A_kp R_kp_6 T_kw N_kw A_kw R_kp_7 T_ko T_nw R_nw_6 T_ww N_ww R_nw_7 T_no (I_nw_1) (I_nw_2) (I_nw_3) hko hno hzr hkn) rfl rfl rfl rfl rfl ⟨_, rfl, rfl, T_x, Nat.le_of_ble_eq_true rfl⟩ rfl rfl (Nat.le_of_ble_eq_true rfl) (Nat.le_of_ble_eq_true rfl) (Nat.le_of_ble_eq_true rfl) ?_
  intro I2784 L2784 h2784
  have f1 := h2784
  refine k_aload_n C rfl rfl rfl ?_
  refine c_VV C (e_m_image0 T_m R_m_1 T_w N_w B_m R_m_2 T_im N_im B_im ) rfl rfl rfl rfl rfl ⟨_, rfl, rfl, T_m, Nat.le_of_ble_eq_true rfl⟩ rfl rfl (Nat.le_of_ble_eq_true rfl) (Nat.le_of_ble_eq_true rfl) (Nat.le_of_ble_eq_true rfl) ?_
  intro I2788 L2788 h2788
  refine k_goto C (pc2 := 2832) rfl rfl ?_
  exact law_tail C S hL (Nat.le_of_ble_eq_true rfl) (Nat.le_of_ble_eq_true rfl) (List.forall_mem_cons.mpr ⟨List.mem_of_getElem? (i := 0) rfl, List.forall_mem_cons.mpr ⟨List.mem_of_getElem? (i := 4) rfl, fun _ h => nomatch h⟩⟩)

set_option maxRecDepth 100000 in
theorem lc_40 {d : Nat} {V : V_T} {b x m o : Nat} {xs : Nat → Int32} {T N : Nat → Nat} {I : IT} {L : LT} {R : RT} {A B : Nat → Prop}  (C : Cl (d + 2) q_law 600002 7302232 law_Po V) (S : SB V) (hL : LSc V b 6 xs) (T_x : T x = 12) (I_x_3 : I x 3 = 0) (T_m : T m = 13) (B_m : B m) (I_m_3 : I m 3 = 0)  : V 2794 [(4, .int 0), (3, .ref o), (2, .ref m), (1, .ref x), (0, .ref b)] [] (T, N, I, L, R) 429 34606 := by
  refine k_aload_n C rfl rfl rfl ?_
  refine c_VI C (e_back0 T_x (I_x_3) ) rfl rfl rfl rfl rfl ⟨_, rfl, rfl, T_x, Nat.le_of_ble_eq_true rfl⟩ rfl rfl (Nat.le_of_ble_eq_true rfl) (Nat.le_of_ble_eq_true rfl) (Nat.le_of_ble_eq_true rfl) ?_
  rintro _ _ _ ⟨hx7, hI8, hL9⟩
  have hx7 := hx7.symm; subst hx7
  have hI8 := hI8.symm; subst hI8; have hL9 := hL9.symm; subst hL9
  refine k_aload_n C rfl rfl rfl ?_
  refine c_VI C (e_m_back0 T_m B_m (I_m_3) ) rfl rfl rfl rfl rfl ⟨_, rfl, rfl, T_m, Nat.le_of_ble_eq_true rfl⟩ rfl rfl (Nat.le_of_ble_eq_true rfl) (Nat.le_of_ble_eq_true rfl) (Nat.le_of_ble_eq_true rfl) ?_
  intro x2799 I2799 L2799 h2799
  obtain ⟨rfl, f2, z2⟩ := h2799
  refine k_icmp_eq C (t := 2832) rfl rfl rfl (fun c2802 => ?_) (fun c2802 => ?_)
  · skip
    exact law_tail C S hL (Nat.le_of_ble_eq_true rfl) (Nat.le_of_ble_eq_true rfl) (List.forall_mem_cons.mpr ⟨List.mem_of_getElem? (i := 0) rfl, List.forall_mem_cons.mpr ⟨List.mem_of_getElem? (i := 4) rfl, fun _ h => nomatch h⟩⟩)
  exact absurd rfl c2802

set_option maxRecDepth 100000 in
theorem lc_41 {d : Nat} {V : V_T} {b x m o nw w : Nat} {xs : Nat → Int32} {T N : Nat → Nat} {I : IT} {L : LT} {R : RT} {A B : Nat → Prop}  (C : Cl (d + 3) q_law 600002 7302232 law_Po V) (S : SB V) (hL : LSc V b 6 xs) (T_x : T x = 12) (R_x_1 : R x 1 = some nw) (T_nw : T nw = 9) (I_nw_0 : I nw 0 = 11) (I_nw_1 : I nw 1 = 0) (I_nw_2 : I nw 2 = 0) (I_nw_3 : I nw 3 = 0) (I_nw_4 : I nw 4 = 0) (I_nw_5 : I nw 5 = 0) (T_m : T m = 13) (R_m_1 : R m 1 = some w) (T_w : T w = 20) (N_w : N w = 4007) (B_m : B m) (I_w_0 : I w 0 = 11) (I_w_1 : I w 1 = 0) (I_w_2 : I w 2 = 0) (I_w_3 : I w 3 = 0) (I_w_4 : I w 4 = 0) (I_w_5 : I w 5 = 0) (B_w : B w)  : V 2807 [(4, .int 0), (3, .ref o), (2, .ref m), (1, .ref x), (0, .ref b)] [] (T, N, I, L, R) 429 34606 := by
  refine k_aload_n C rfl rfl rfl ?_
  refine k_aload_n C rfl rfl rfl ?_
  refine k_iload C rfl rfl rfl ?_
  refine k_iconst C (x := 1) rfl rfl rfl ?_
  refine k_iadd C rfl rfl ?_
  refine ls_i hL (k := 1) rfl rfl (by unfold vp_in; decide) (by decide) ?_
  refine c_VI C (e_stock0 T_x R_x_1 T_nw (I_nw_0) (I_nw_1) (I_nw_2) (I_nw_3) (I_nw_4) (I_nw_5) ) rfl rfl rfl rfl rfl ⟨_, rfl, rfl, T_x, Nat.le_of_ble_eq_true rfl⟩ rfl rfl (Nat.le_of_ble_eq_true rfl) (Nat.le_of_ble_eq_true rfl) (Nat.le_of_ble_eq_true rfl) ?_
  rintro _ _ _ ⟨hx7, hI8, hL9⟩
  have hx7 := hx7.symm; subst hx7
  have hI8 := hI8.symm; subst hI8; have hL9 := hL9.symm; subst hL9
  refine k_aload_n C rfl rfl rfl ?_
  refine k_aload_n C rfl rfl rfl ?_
  refine k_iload C rfl rfl rfl ?_
  refine k_iconst C (x := 1) rfl rfl rfl ?_
  refine k_iadd C rfl rfl ?_
  refine ls_i hL (k := 1) rfl rfl (by unfold vp_in; decide) (by decide) ?_
  refine c_VI C (e_m_stock0 T_m R_m_1 T_w N_w B_m (I_w_0) (I_w_1) (I_w_2) (I_w_3) (I_w_4) (I_w_5) ) rfl rfl rfl rfl rfl ⟨_, rfl, rfl, T_m, Nat.le_of_ble_eq_true rfl⟩ rfl rfl (Nat.le_of_ble_eq_true rfl) (Nat.le_of_ble_eq_true rfl) (Nat.le_of_ble_eq_true rfl) ?_
  intro x2824 I2824 L2824 h2824
  obtain ⟨rfl, f2, z2⟩ := h2824
  refine k_icmp_eq C (t := 2832) rfl rfl rfl (fun c2827 => ?_) (fun c2827 => ?_)
  · skip
    exact law_tail C S hL (Nat.le_of_ble_eq_true rfl) (Nat.le_of_ble_eq_true rfl) (List.forall_mem_cons.mpr ⟨List.mem_of_getElem? (i := 0) rfl, List.forall_mem_cons.mpr ⟨List.mem_of_getElem? (i := 4) rfl, fun _ h => nomatch h⟩⟩)
  exact absurd rfl c2827

