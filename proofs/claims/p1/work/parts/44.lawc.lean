/-! the law: calls that throw on a new object -/
theorem ls_i {V : V_T} {b L : Nat} {xs : Nat → Int32} (h : LSc V b L xs) {pc pc2 k : Nat} {lv : List (Nat × Value)} {r : List Value} {M : Mm} {ck sk : Nat} {j : Int32} (hi : cdf clL_law pc = some (.iaload, 1)) (hp : pc + 1 = pc2) (hj : vp_in j L) (hk : j.toNatClampNeg = k) (h9 : V pc2 lv (.int (xs k) :: r) M ck sk) : V pc lv (.int j :: .ref b :: r) M ck sk := by
  subst hp; subst hk; exact h.1 pc lv r M ck sk j hi hj h9
set_option maxRecDepth 100000 in
theorem law_tail {d : Nat} {V : V_T} {b : Nat} {xs : Nat → Int32} (C : Cl d q_law 600002 7302232 law_Po V) (S : SB V) (hL : LSc V b 6 xs) {lv : List (Nat × Value)} {M : Mm} {ck sk : Nat} (h1 : ck ≤ 600002) (h2 : sk ≤ 7302232) (hlv : ∀ z ∈ [(4, Value.int 0), (0, .ref b)], z ∈ lv) : V 2832 lv [] M ck sk := by
  refine k_sub S [(4, .int 0), (0, .ref b)] hlv ?_
  refine k_iinc C (lw := [(4, .int _), (0, _)]) rfl rfl rfl (Nat.le_of_ble_eq_true rfl) rfl rfl ?_
  refine k_goto C (pc2 := 23) rfl rfl ?_
  refine k_iload C rfl rfl rfl ?_
  refine k_aload_n C rfl rfl rfl ?_
  refine hL.2 _ _ _ _ _ _ rfl ?_
  refine k_bipush C (x := 6) rfl rfl rfl ?_
  refine k_isub C rfl rfl ?_
  refine k_icmp_gt C (t := 2838) rfl rfl rfl (fun _ => ?_) (fun c => absurd (by decide) c)
  refine k_iconst C (x := 1) rfl rfl rfl ?_
  exact k_iret C rfl (Or.inr ⟨rfl, Or.inr rfl⟩) h1 h2 rfl
set_option maxRecDepth 100000 in
theorem lc_7 {d : Nat} {V : V_T} {b x m o nw fr w : Nat} {xs : Nat → Int32} {T N : Nat → Nat} {I : IT} {L : LT} {R : RT} {A B : Nat → Prop} (C : Cl (d + 6) q_law 600002 7302232 law_Po V) (S : SB V) (hL : LSc V b 6 xs) (T_x : T x = 12) (R_x_1 : R x 1 = some nw) (T_nw : T nw = 9) (R_nw_8 : R nw 8 = some fr) (I_nw_1 : I nw 1 = 0) (T_m : T m = 13) (R_m_1 : R m 1 = some w) (T_w : T w = 20) (N_w : N w = 4007) (B_m : B m) (I_w_1 : I w 1 = 0)  : V 551 [(4, .int 0), (3, .ref o), (2, .ref m), (1, .ref x), (0, .ref b)] [] (T, N, I, L, R) 429 34606 := by
  refine k_aload_n C rfl rfl rfl ?_
  refine k_aload_n C rfl rfl rfl ?_
  refine k_iload C rfl rfl rfl ?_
  refine k_iconst C (x := 1) rfl rfl rfl ?_
  refine k_iadd C rfl rfl ?_
  refine ls_i hL (k := 1) rfl rfl (by unfold vp_in; decide) (by decide) ?_
  refine k_aload_n C rfl rfl rfl ?_
  refine k_iload C rfl rfl rfl ?_
  refine k_iconst C (x := 2) rfl rfl rfl ?_
  refine k_iadd C rfl rfl ?_
  refine ls_i hL (k := 2) rfl rfl (by unfold vp_in; decide) (by decide) ?_
  refine k_aload_n C rfl rfl rfl ?_
  refine c_SI C (e_L_look0 T_x R_x_1 T_nw R_nw_8 (I_nw_1) ) rfl rfl rfl rfl rfl rfl rfl (Nat.le_of_ble_eq_true rfl) (Nat.le_of_ble_eq_true rfl) (Nat.le_of_ble_eq_true rfl) ?_
  rintro _ _ _ ⟨hx7, hI8, hL9⟩
  have hx7 := hx7.symm; subst hx7
  have hI8 := hI8.symm; subst hI8; have hL9 := hL9.symm; subst hL9
  refine k_istore C (lw := [(5, .int _), (4, .int _), (3, _), (2, _), (1, _), (0, _)]) rfl rfl (Nat.le_of_ble_eq_true rfl) rfl ?_
  refine k_aload_n C rfl rfl rfl ?_
  refine k_aload_n C rfl rfl rfl ?_
  refine k_iload C rfl rfl rfl ?_
  refine k_iconst C (x := 1) rfl rfl rfl ?_
  refine k_iadd C rfl rfl ?_
  refine ls_i hL (k := 1) rfl rfl (by unfold vp_in; decide) (by decide) ?_
  refine k_aload_n C rfl rfl rfl ?_
  refine k_iload C rfl rfl rfl ?_
  refine k_iconst C (x := 2) rfl rfl rfl ?_
  refine k_iadd C rfl rfl ?_
  refine ls_i hL (k := 2) rfl rfl (by unfold vp_in; decide) (by decide) ?_
  refine c_VI C (e_m_look0 T_m R_m_1 T_w N_w B_m (I_w_1) ) rfl rfl rfl rfl rfl ⟨_, rfl, rfl, T_m, Nat.le_of_ble_eq_true rfl⟩ rfl rfl (Nat.le_of_ble_eq_true rfl) (Nat.le_of_ble_eq_true rfl) (Nat.le_of_ble_eq_true rfl) ?_
  intro x583 I583 L583 h583
  refine k_istore C (lw := [(6, .int _), (5, .int _), (4, .int _), (3, _), (2, _), (1, _), (0, _)]) rfl rfl (Nat.le_of_ble_eq_true rfl) rfl ?_
  refine k_aload_n C rfl rfl rfl ?_
  refine c_VI C (e_thrown T_m ) rfl rfl rfl rfl rfl ⟨_, rfl, rfl, T_m, Nat.le_of_ble_eq_true rfl⟩ rfl rfl (Nat.le_of_ble_eq_true rfl) (Nat.le_of_ble_eq_true rfl) (Nat.le_of_ble_eq_true rfl) ?_
  rintro _ _ _ ⟨hx7, hI8, hL9⟩
  have hx7 := hx7.symm; subst hx7
  have hI8 := hI8.symm; subst hI8; have hL9 := hL9.symm; subst hL9
  refine k_iload C rfl rfl rfl ?_
  refine k_icmp_eq C (t := 599) rfl rfl rfl (fun c594 => ?_) (fun c594 => ?_)
  · skip
    refine k_iload C rfl rfl rfl ?_
    refine k_if_ne C (t := 616) rfl rfl rfl (fun _ => ?_) (fun c601 => absurd (by decide) c601)
    refine k_goto C (pc2 := 2832) rfl rfl ?_
    exact law_tail C S hL (Nat.le_of_ble_eq_true rfl) (Nat.le_of_ble_eq_true rfl) (List.forall_mem_cons.mpr ⟨List.mem_of_getElem? (i := 2) rfl, List.forall_mem_cons.mpr ⟨List.mem_of_getElem? (i := 6) rfl, fun _ h => nomatch h⟩⟩)
  exact absurd h583.2 c594

set_option maxRecDepth 100000 in
theorem lc_8 {d : Nat} {V : V_T} {b x m o nw fr w : Nat} {xs : Nat → Int32} {T N : Nat → Nat} {I : IT} {L : LT} {R : RT} {A B : Nat → Prop} (C : Cl (d + 6) q_law 600002 7302232 law_Po V) (S : SB V) (hL : LSc V b 6 xs) (T_x : T x = 12) (R_x_1 : R x 1 = some nw) (T_nw : T nw = 9) (R_nw_8 : R nw 8 = some fr) (I_nw_1 : I nw 1 = 0) (T_m : T m = 13) (R_m_1 : R m 1 = some w) (T_w : T w = 20) (N_w : N w = 4007) (B_m : B m) (I_w_1 : I w 1 = 0)  : V 619 [(4, .int 0), (3, .ref o), (2, .ref m), (1, .ref x), (0, .ref b)] [] (T, N, I, L, R) 429 34606 := by
  refine k_aload_n C rfl rfl rfl ?_
  refine k_aload_n C rfl rfl rfl ?_
  refine k_iload C rfl rfl rfl ?_
  refine k_iconst C (x := 1) rfl rfl rfl ?_
  refine k_iadd C rfl rfl ?_
  refine ls_i hL (k := 1) rfl rfl (by unfold vp_in; decide) (by decide) ?_
  refine k_aload_n C rfl rfl rfl ?_
  refine k_iload C rfl rfl rfl ?_
  refine k_iconst C (x := 2) rfl rfl rfl ?_
  refine k_iadd C rfl rfl ?_
  refine ls_i hL (k := 2) rfl rfl (by unfold vp_in; decide) (by decide) ?_
  refine k_aload_n C rfl rfl rfl ?_
  refine k_iload C rfl rfl rfl ?_
  refine k_iconst C (x := 3) rfl rfl rfl ?_
  refine k_iadd C rfl rfl ?_
  refine ls_i hL (k := 3) rfl rfl (by unfold vp_in; decide) (by decide) ?_
  refine k_aload_n C rfl rfl rfl ?_
  refine c_SI C (e_L_at0 T_x R_x_1 T_nw R_nw_8 (I_nw_1) ) rfl rfl rfl rfl rfl rfl rfl (Nat.le_of_ble_eq_true rfl) (Nat.le_of_ble_eq_true rfl) (Nat.le_of_ble_eq_true rfl) ?_
  rintro _ _ _ ⟨hx7, hI8, hL9⟩
  have hx7 := hx7.symm; subst hx7
  have hI8 := hI8.symm; subst hI8; have hL9 := hL9.symm; subst hL9
  refine k_istore C (lw := [(5, .int _), (4, .int _), (3, _), (2, _), (1, _), (0, _)]) rfl rfl (Nat.le_of_ble_eq_true rfl) rfl ?_
  refine k_aload_n C rfl rfl rfl ?_
  refine k_aload_n C rfl rfl rfl ?_
  refine k_iload C rfl rfl rfl ?_
  refine k_iconst C (x := 1) rfl rfl rfl ?_
  refine k_iadd C rfl rfl ?_
  refine ls_i hL (k := 1) rfl rfl (by unfold vp_in; decide) (by decide) ?_
  refine k_aload_n C rfl rfl rfl ?_
  refine k_iload C rfl rfl rfl ?_
  refine k_iconst C (x := 2) rfl rfl rfl ?_
  refine k_iadd C rfl rfl ?_
  refine ls_i hL (k := 2) rfl rfl (by unfold vp_in; decide) (by decide) ?_
  refine k_aload_n C rfl rfl rfl ?_
  refine k_iload C rfl rfl rfl ?_
  refine k_iconst C (x := 3) rfl rfl rfl ?_
  refine k_iadd C rfl rfl ?_
  refine ls_i hL (k := 3) rfl rfl (by unfold vp_in; decide) (by decide) ?_
  refine c_VI C (e_m_at0 T_m R_m_1 T_w N_w B_m (I_w_1) ) rfl rfl rfl rfl rfl ⟨_, rfl, rfl, T_m, Nat.le_of_ble_eq_true rfl⟩ rfl rfl (Nat.le_of_ble_eq_true rfl) (Nat.le_of_ble_eq_true rfl) (Nat.le_of_ble_eq_true rfl) ?_
  intro x663 I663 L663 h663
  refine k_istore C (lw := [(6, .int _), (5, .int _), (4, .int _), (3, _), (2, _), (1, _), (0, _)]) rfl rfl (Nat.le_of_ble_eq_true rfl) rfl ?_
  refine k_aload_n C rfl rfl rfl ?_
  refine c_VI C (e_thrown T_m ) rfl rfl rfl rfl rfl ⟨_, rfl, rfl, T_m, Nat.le_of_ble_eq_true rfl⟩ rfl rfl (Nat.le_of_ble_eq_true rfl) (Nat.le_of_ble_eq_true rfl) (Nat.le_of_ble_eq_true rfl) ?_
  rintro _ _ _ ⟨hx7, hI8, hL9⟩
  have hx7 := hx7.symm; subst hx7
  have hI8 := hI8.symm; subst hI8; have hL9 := hL9.symm; subst hL9
  refine k_iload C rfl rfl rfl ?_
  refine k_icmp_eq C (t := 679) rfl rfl rfl (fun c674 => ?_) (fun c674 => ?_)
  · skip
    refine k_iload C rfl rfl rfl ?_
    refine k_if_ne C (t := 696) rfl rfl rfl (fun _ => ?_) (fun c681 => absurd (by decide) c681)
    refine k_goto C (pc2 := 2832) rfl rfl ?_
    exact law_tail C S hL (Nat.le_of_ble_eq_true rfl) (Nat.le_of_ble_eq_true rfl) (List.forall_mem_cons.mpr ⟨List.mem_of_getElem? (i := 2) rfl, List.forall_mem_cons.mpr ⟨List.mem_of_getElem? (i := 6) rfl, fun _ h => nomatch h⟩⟩)
  exact absurd h663.2 c674

set_option maxRecDepth 100000 in
theorem lc_9 {d : Nat} {V : V_T} {b x m o nw w : Nat} {xs : Nat → Int32} {T N : Nat → Nat} {I : IT} {L : LT} {R : RT} {A B : Nat → Prop} (C : Cl (d + 5) q_law 600002 7302232 law_Po V) (S : SB V) (hL : LSc V b 6 xs) (T_x : T x = 12) (R_x_1 : R x 1 = some nw) (T_nw : T nw = 9) (I_nw_2 : I nw 2 = 0) (T_m : T m = 13) (R_m_1 : R m 1 = some w) (T_w : T w = 20) (N_w : N w = 4007) (B_m : B m) (I_w_2 : I w 2 = 0)  : V 699 [(4, .int 0), (3, .ref o), (2, .ref m), (1, .ref x), (0, .ref b)] [] (T, N, I, L, R) 429 34606 := by
  refine k_aload_n C rfl rfl rfl ?_
  refine k_aload_n C rfl rfl rfl ?_
  refine k_iload C rfl rfl rfl ?_
  refine k_iconst C (x := 1) rfl rfl rfl ?_
  refine k_iadd C rfl rfl ?_
  refine ls_i hL (k := 1) rfl rfl (by unfold vp_in; decide) (by decide) ?_
  refine k_aload_n C rfl rfl rfl ?_
  refine c_SI C (e_L_det0 T_x R_x_1 T_nw (I_nw_2) ) rfl rfl rfl rfl rfl rfl rfl (Nat.le_of_ble_eq_true rfl) (Nat.le_of_ble_eq_true rfl) (Nat.le_of_ble_eq_true rfl) ?_
  rintro _ _ _ ⟨hx7, hI8, hL9⟩
  have hx7 := hx7.symm; subst hx7
  have hI8 := hI8.symm; subst hI8; have hL9 := hL9.symm; subst hL9
  refine k_istore C (lw := [(5, .int _), (4, .int _), (3, _), (2, _), (1, _), (0, _)]) rfl rfl (Nat.le_of_ble_eq_true rfl) rfl ?_
  refine k_aload_n C rfl rfl rfl ?_
  refine k_aload_n C rfl rfl rfl ?_
  refine k_iload C rfl rfl rfl ?_
  refine k_iconst C (x := 1) rfl rfl rfl ?_
  refine k_iadd C rfl rfl ?_
  refine ls_i hL (k := 1) rfl rfl (by unfold vp_in; decide) (by decide) ?_
  refine c_VI C (e_m_det0 T_m R_m_1 T_w N_w B_m (I_w_2) ) rfl rfl rfl rfl rfl ⟨_, rfl, rfl, T_m, Nat.le_of_ble_eq_true rfl⟩ rfl rfl (Nat.le_of_ble_eq_true rfl) (Nat.le_of_ble_eq_true rfl) (Nat.le_of_ble_eq_true rfl) ?_
  intro x719 I719 L719 h719
  refine k_istore C (lw := [(6, .int _), (5, .int _), (4, .int _), (3, _), (2, _), (1, _), (0, _)]) rfl rfl (Nat.le_of_ble_eq_true rfl) rfl ?_
  refine k_aload_n C rfl rfl rfl ?_
  refine c_VI C (e_thrown T_m ) rfl rfl rfl rfl rfl ⟨_, rfl, rfl, T_m, Nat.le_of_ble_eq_true rfl⟩ rfl rfl (Nat.le_of_ble_eq_true rfl) (Nat.le_of_ble_eq_true rfl) (Nat.le_of_ble_eq_true rfl) ?_
  rintro _ _ _ ⟨hx7, hI8, hL9⟩
  have hx7 := hx7.symm; subst hx7
  have hI8 := hI8.symm; subst hI8; have hL9 := hL9.symm; subst hL9
  refine k_iload C rfl rfl rfl ?_
  refine k_icmp_eq C (t := 735) rfl rfl rfl (fun c730 => ?_) (fun c730 => ?_)
  · skip
    refine k_iload C rfl rfl rfl ?_
    refine k_if_ne C (t := 752) rfl rfl rfl (fun _ => ?_) (fun c737 => absurd (by decide) c737)
    refine k_goto C (pc2 := 2832) rfl rfl ?_
    exact law_tail C S hL (Nat.le_of_ble_eq_true rfl) (Nat.le_of_ble_eq_true rfl) (List.forall_mem_cons.mpr ⟨List.mem_of_getElem? (i := 2) rfl, List.forall_mem_cons.mpr ⟨List.mem_of_getElem? (i := 6) rfl, fun _ h => nomatch h⟩⟩)
  exact absurd h719.2 c730

set_option maxRecDepth 100000 in
theorem lc_10 {d : Nat} {V : V_T} {b x m o nw fr w : Nat} {xs : Nat → Int32} {T N : Nat → Nat} {I : IT} {L : LT} {R : RT} {A B : Nat → Prop} (C : Cl (d + 6) q_law 600002 7302232 law_Po V) (S : SB V) (hL : LSc V b 6 xs) (T_x : T x = 12) (R_x_1 : R x 1 = some nw) (T_nw : T nw = 9) (R_nw_8 : R nw 8 = some fr) (I_nw_1 : I nw 1 = 0) (T_m : T m = 13) (R_m_1 : R m 1 = some w) (T_w : T w = 20) (N_w : N w = 4007) (B_m : B m) (I_w_1 : I w 1 = 0) (I_w_2 : I w 2 = 0)  : V 755 [(4, .int 0), (3, .ref o), (2, .ref m), (1, .ref x), (0, .ref b)] [] (T, N, I, L, R) 429 34606 := by
  refine k_aload_n C rfl rfl rfl ?_
  refine k_aload_n C rfl rfl rfl ?_
  refine k_iload C rfl rfl rfl ?_
  refine k_iconst C (x := 1) rfl rfl rfl ?_
  refine k_iadd C rfl rfl ?_
  refine ls_i hL (k := 1) rfl rfl (by unfold vp_in; decide) (by decide) ?_
  refine k_aload_n C rfl rfl rfl ?_
  refine k_iload C rfl rfl rfl ?_
  refine k_iconst C (x := 2) rfl rfl rfl ?_
  refine k_iadd C rfl rfl ?_
  refine ls_i hL (k := 2) rfl rfl (by unfold vp_in; decide) (by decide) ?_
  refine k_aload_n C rfl rfl rfl ?_
  refine c_SI C (e_L_mix0 T_x R_x_1 T_nw R_nw_8 (I_nw_1) ) rfl rfl rfl rfl rfl rfl rfl (Nat.le_of_ble_eq_true rfl) (Nat.le_of_ble_eq_true rfl) (Nat.le_of_ble_eq_true rfl) ?_
  rintro _ _ _ ⟨hx7, hI8, hL9⟩
  have hx7 := hx7.symm; subst hx7
  have hI8 := hI8.symm; subst hI8; have hL9 := hL9.symm; subst hL9
  refine k_istore C (lw := [(5, .int _), (4, .int _), (3, _), (2, _), (1, _), (0, _)]) rfl rfl (Nat.le_of_ble_eq_true rfl) rfl ?_
  refine k_aload_n C rfl rfl rfl ?_
  refine k_aload_n C rfl rfl rfl ?_
  refine k_iload C rfl rfl rfl ?_
  refine k_iconst C (x := 1) rfl rfl rfl ?_
  refine k_iadd C rfl rfl ?_
  refine ls_i hL (k := 1) rfl rfl (by unfold vp_in; decide) (by decide) ?_
  refine k_aload_n C rfl rfl rfl ?_
  refine k_iload C rfl rfl rfl ?_
  refine k_iconst C (x := 2) rfl rfl rfl ?_
  refine k_iadd C rfl rfl ?_
  refine ls_i hL (k := 2) rfl rfl (by unfold vp_in; decide) (by decide) ?_
  refine c_VI C (e_m_mix0 T_m R_m_1 T_w N_w B_m (I_w_1) (I_w_2) ) rfl rfl rfl rfl rfl ⟨_, rfl, rfl, T_m, Nat.le_of_ble_eq_true rfl⟩ rfl rfl (Nat.le_of_ble_eq_true rfl) (Nat.le_of_ble_eq_true rfl) (Nat.le_of_ble_eq_true rfl) ?_
  intro x787 I787 L787 h787
  refine k_istore C (lw := [(6, .int _), (5, .int _), (4, .int _), (3, _), (2, _), (1, _), (0, _)]) rfl rfl (Nat.le_of_ble_eq_true rfl) rfl ?_
  refine k_aload_n C rfl rfl rfl ?_
  refine c_VI C (e_thrown T_m ) rfl rfl rfl rfl rfl ⟨_, rfl, rfl, T_m, Nat.le_of_ble_eq_true rfl⟩ rfl rfl (Nat.le_of_ble_eq_true rfl) (Nat.le_of_ble_eq_true rfl) (Nat.le_of_ble_eq_true rfl) ?_
  rintro _ _ _ ⟨hx7, hI8, hL9⟩
  have hx7 := hx7.symm; subst hx7
  have hI8 := hI8.symm; subst hI8; have hL9 := hL9.symm; subst hL9
  refine k_iload C rfl rfl rfl ?_
  refine k_icmp_eq C (t := 803) rfl rfl rfl (fun c798 => ?_) (fun c798 => ?_)
  · skip
    refine k_iload C rfl rfl rfl ?_
    refine k_if_ne C (t := 827) rfl rfl rfl (fun _ => ?_) (fun c805 => absurd (by decide) c805)
    refine k_goto C (pc2 := 2832) rfl rfl ?_
    exact law_tail C S hL (Nat.le_of_ble_eq_true rfl) (Nat.le_of_ble_eq_true rfl) (List.forall_mem_cons.mpr ⟨List.mem_of_getElem? (i := 2) rfl, List.forall_mem_cons.mpr ⟨List.mem_of_getElem? (i := 6) rfl, fun _ h => nomatch h⟩⟩)
  exact absurd h787.2 c798

set_option maxRecDepth 100000 in
theorem lc_13 {d : Nat} {V : V_T} {b x m o nw w : Nat} {xs : Nat → Int32} {T N : Nat → Nat} {I : IT} {L : LT} {R : RT} {A B : Nat → Prop} (C : Cl (d + 5) q_law 600002 7302232 law_Po V) (S : SB V) (hL : LSc V b 6 xs) (T_x : T x = 12) (R_x_1 : R x 1 = some nw) (T_nw : T nw = 9) (I_nw_3 : I nw 3 = 0) (T_m : T m = 13) (R_m_1 : R m 1 = some w) (T_w : T w = 20) (N_w : N w = 4007) (B_m : B m) (I_w_1 : I w 1 = 0) (I_w_3 : I w 3 = 0)  : V 856 [(4, .int 0), (3, .ref o), (2, .ref m), (1, .ref x), (0, .ref b)] [] (T, N, I, L, R) 429 34606 := by
  refine k_aload_n C rfl rfl rfl ?_
  refine k_aload_n C rfl rfl rfl ?_
  refine k_iload C rfl rfl rfl ?_
  refine k_iconst C (x := 1) rfl rfl rfl ?_
  refine k_iadd C rfl rfl ?_
  refine ls_i hL (k := 1) rfl rfl (by unfold vp_in; decide) (by decide) ?_
  refine k_aload_n C rfl rfl rfl ?_
  refine k_iload C rfl rfl rfl ?_
  refine k_iconst C (x := 2) rfl rfl rfl ?_
  refine k_iadd C rfl rfl ?_
  refine ls_i hL (k := 2) rfl rfl (by unfold vp_in; decide) (by decide) ?_
  refine k_aload_n C rfl rfl rfl ?_
  refine k_iload C rfl rfl rfl ?_
  refine k_iconst C (x := 3) rfl rfl rfl ?_
  refine k_iadd C rfl rfl ?_
  refine ls_i hL (k := 3) rfl rfl (by unfold vp_in; decide) (by decide) ?_
  refine k_aload_n C rfl rfl rfl ?_
  refine c_SI C (e_L_value0 T_x R_x_1 T_nw (I_nw_3) ) rfl rfl rfl rfl rfl rfl rfl (Nat.le_of_ble_eq_true rfl) (Nat.le_of_ble_eq_true rfl) (Nat.le_of_ble_eq_true rfl) ?_
  rintro _ _ _ ⟨hx7, hI8, hL9⟩
  have hx7 := hx7.symm; subst hx7
  have hI8 := hI8.symm; subst hI8; have hL9 := hL9.symm; subst hL9
  refine k_istore C (lw := [(5, .int _), (4, .int _), (3, _), (2, _), (1, _), (0, _)]) rfl rfl (Nat.le_of_ble_eq_true rfl) rfl ?_
  refine k_aload_n C rfl rfl rfl ?_
  refine k_aload_n C rfl rfl rfl ?_
  refine k_iload C rfl rfl rfl ?_
  refine k_iconst C (x := 1) rfl rfl rfl ?_
  refine k_iadd C rfl rfl ?_
  refine ls_i hL (k := 1) rfl rfl (by unfold vp_in; decide) (by decide) ?_
  refine k_aload_n C rfl rfl rfl ?_
  refine k_iload C rfl rfl rfl ?_
  refine k_iconst C (x := 2) rfl rfl rfl ?_
  refine k_iadd C rfl rfl ?_
  refine ls_i hL (k := 2) rfl rfl (by unfold vp_in; decide) (by decide) ?_
  refine k_aload_n C rfl rfl rfl ?_
  refine k_iload C rfl rfl rfl ?_
  refine k_iconst C (x := 3) rfl rfl rfl ?_
  refine k_iadd C rfl rfl ?_
  refine ls_i hL (k := 3) rfl rfl (by unfold vp_in; decide) (by decide) ?_
  refine c_VI C (e_m_value0 T_m R_m_1 T_w N_w B_m (I_w_1) (I_w_3) ) rfl rfl rfl rfl rfl ⟨_, rfl, rfl, T_m, Nat.le_of_ble_eq_true rfl⟩ rfl rfl (Nat.le_of_ble_eq_true rfl) (Nat.le_of_ble_eq_true rfl) (Nat.le_of_ble_eq_true rfl) ?_
  intro x900 I900 L900 h900
  refine k_istore C (lw := [(6, .int _), (5, .int _), (4, .int _), (3, _), (2, _), (1, _), (0, _)]) rfl rfl (Nat.le_of_ble_eq_true rfl) rfl ?_
  refine k_aload_n C rfl rfl rfl ?_
  refine c_VI C (e_thrown T_m ) rfl rfl rfl rfl rfl ⟨_, rfl, rfl, T_m, Nat.le_of_ble_eq_true rfl⟩ rfl rfl (Nat.le_of_ble_eq_true rfl) (Nat.le_of_ble_eq_true rfl) (Nat.le_of_ble_eq_true rfl) ?_
  rintro _ _ _ ⟨hx7, hI8, hL9⟩
  have hx7 := hx7.symm; subst hx7
  have hI8 := hI8.symm; subst hI8; have hL9 := hL9.symm; subst hL9
  refine k_iload C rfl rfl rfl ?_
  refine k_icmp_eq C (t := 916) rfl rfl rfl (fun c911 => ?_) (fun c911 => ?_)
  · skip
    refine k_iload C rfl rfl rfl ?_
    refine k_if_ne C (t := 933) rfl rfl rfl (fun _ => ?_) (fun c918 => absurd (by decide) c918)
    refine k_goto C (pc2 := 2832) rfl rfl ?_
    exact law_tail C S hL (Nat.le_of_ble_eq_true rfl) (Nat.le_of_ble_eq_true rfl) (List.forall_mem_cons.mpr ⟨List.mem_of_getElem? (i := 2) rfl, List.forall_mem_cons.mpr ⟨List.mem_of_getElem? (i := 6) rfl, fun _ h => nomatch h⟩⟩)
  exact absurd h900.2 c911

set_option maxRecDepth 100000 in
theorem lc_14 {d : Nat} {V : V_T} {b x m o nw cc w : Nat} {xs : Nat → Int32} {T N : Nat → Nat} {I : IT} {L : LT} {R : RT} {A B : Nat → Prop} (C : Cl (d + 5) q_law 600002 7302232 law_Po V) (S : SB V) (hL : LSc V b 6 xs) (T_x : T x = 12) (R_x_1 : R x 1 = some nw) (T_nw : T nw = 9) (I_nw_3 : I nw 3 = 0) (R_x_6 : R x 6 = some cc) (T_m : T m = 13) (R_m_1 : R m 1 = some w) (T_w : T w = 20) (N_w : N w = 4007) (B_m : B m) (I_w_3 : I w 3 = 0)  : V 936 [(4, .int 0), (3, .ref o), (2, .ref m), (1, .ref x), (0, .ref b)] [] (T, N, I, L, R) 429 34606 := by
  refine k_aload_n C rfl rfl rfl ?_
  refine k_aload_n C rfl rfl rfl ?_
  refine k_iload C rfl rfl rfl ?_
  refine k_iconst C (x := 1) rfl rfl rfl ?_
  refine k_iadd C rfl rfl ?_
  refine ls_i hL (k := 1) rfl rfl (by unfold vp_in; decide) (by decide) ?_
  refine k_aload_n C rfl rfl rfl ?_
  refine k_iload C rfl rfl rfl ?_
  refine k_iconst C (x := 2) rfl rfl rfl ?_
  refine k_iadd C rfl rfl ?_
  refine ls_i hL (k := 2) rfl rfl (by unfold vp_in; decide) (by decide) ?_
  refine k_if_eq C (t := 956) rfl rfl rfl (fun c949 => ?_) (fun c949 => ?_)
  · skip
    refine k_iconst C (x := 0) rfl rfl rfl ?_
    refine k_aload_n C rfl rfl rfl ?_
    refine c_SI C (e_L_rank0 T_x R_x_1 T_nw (I_nw_3) R_x_6 ) rfl rfl rfl rfl rfl rfl rfl (Nat.le_of_ble_eq_true rfl) (Nat.le_of_ble_eq_true rfl) (Nat.le_of_ble_eq_true rfl) ?_
    rintro _ _ _ ⟨hx7, hI8, hL9⟩
    have hx7 := hx7.symm; subst hx7
    have hI8 := hI8.symm; subst hI8; have hL9 := hL9.symm; subst hL9
    refine k_istore C (lw := [(5, .int _), (4, .int _), (3, _), (2, _), (1, _), (0, _)]) rfl rfl (Nat.le_of_ble_eq_true rfl) rfl ?_
    refine k_aload_n C rfl rfl rfl ?_
    refine k_aload_n C rfl rfl rfl ?_
    refine k_iload C rfl rfl rfl ?_
    refine k_iconst C (x := 1) rfl rfl rfl ?_
    refine k_iadd C rfl rfl ?_
    refine ls_i hL (k := 1) rfl rfl (by unfold vp_in; decide) (by decide) ?_
    refine k_aload_n C rfl rfl rfl ?_
    refine k_iload C rfl rfl rfl ?_
    refine k_iconst C (x := 2) rfl rfl rfl ?_
    refine k_iadd C rfl rfl ?_
    refine ls_i hL (k := 2) rfl rfl (by unfold vp_in; decide) (by decide) ?_
    refine k_if_eq C (t := 983) rfl rfl rfl (fun c976 => ?_) (fun c976 => ?_)
    · skip
      refine k_iconst C (x := 0) rfl rfl rfl ?_
      refine c_VI C (e_m_rank0 T_m R_m_1 T_w N_w B_m (I_w_3) ) rfl rfl rfl rfl rfl ⟨_, rfl, rfl, T_m, Nat.le_of_ble_eq_true rfl⟩ rfl rfl (Nat.le_of_ble_eq_true rfl) (Nat.le_of_ble_eq_true rfl) (Nat.le_of_ble_eq_true rfl) ?_
      intro x984 I984 L984 h984
      refine k_istore C (lw := [(6, .int _), (5, .int _), (4, .int _), (3, _), (2, _), (1, _), (0, _)]) rfl rfl (Nat.le_of_ble_eq_true rfl) rfl ?_
      refine k_aload_n C rfl rfl rfl ?_
      refine c_VI C (e_thrown T_m ) rfl rfl rfl rfl rfl ⟨_, rfl, rfl, T_m, Nat.le_of_ble_eq_true rfl⟩ rfl rfl (Nat.le_of_ble_eq_true rfl) (Nat.le_of_ble_eq_true rfl) (Nat.le_of_ble_eq_true rfl) ?_
      rintro _ _ _ ⟨hx7, hI8, hL9⟩
      have hx7 := hx7.symm; subst hx7
      have hI8 := hI8.symm; subst hI8; have hL9 := hL9.symm; subst hL9
      refine k_iload C rfl rfl rfl ?_
      refine k_icmp_eq C (t := 1000) rfl rfl rfl (fun c995 => ?_) (fun c995 => ?_)
      · skip
        refine k_iload C rfl rfl rfl ?_
        refine k_if_ne C (t := 1017) rfl rfl rfl (fun _ => ?_) (fun c1002 => absurd (by decide) c1002)
        refine k_goto C (pc2 := 2832) rfl rfl ?_
        exact law_tail C S hL (Nat.le_of_ble_eq_true rfl) (Nat.le_of_ble_eq_true rfl) (List.forall_mem_cons.mpr ⟨List.mem_of_getElem? (i := 2) rfl, List.forall_mem_cons.mpr ⟨List.mem_of_getElem? (i := 6) rfl, fun _ h => nomatch h⟩⟩)
      exact absurd h984.2 c995
    refine k_iconst C (x := 1) rfl rfl rfl ?_
    refine k_goto C (pc2 := 984) rfl rfl ?_
    refine c_VI C (e_m_rank0 T_m R_m_1 T_w N_w B_m (I_w_3) ) rfl rfl rfl rfl rfl ⟨_, rfl, rfl, T_m, Nat.le_of_ble_eq_true rfl⟩ rfl rfl (Nat.le_of_ble_eq_true rfl) (Nat.le_of_ble_eq_true rfl) (Nat.le_of_ble_eq_true rfl) ?_
    intro x984 I984 L984 h984
    refine k_istore C (lw := [(6, .int _), (5, .int _), (4, .int _), (3, _), (2, _), (1, _), (0, _)]) rfl rfl (Nat.le_of_ble_eq_true rfl) rfl ?_
    refine k_aload_n C rfl rfl rfl ?_
    refine c_VI C (e_thrown T_m ) rfl rfl rfl rfl rfl ⟨_, rfl, rfl, T_m, Nat.le_of_ble_eq_true rfl⟩ rfl rfl (Nat.le_of_ble_eq_true rfl) (Nat.le_of_ble_eq_true rfl) (Nat.le_of_ble_eq_true rfl) ?_
    rintro _ _ _ ⟨hx7, hI8, hL9⟩
    have hx7 := hx7.symm; subst hx7
    have hI8 := hI8.symm; subst hI8; have hL9 := hL9.symm; subst hL9
    refine k_iload C rfl rfl rfl ?_
    refine k_icmp_eq C (t := 1000) rfl rfl rfl (fun c995 => ?_) (fun c995 => ?_)
    · skip
      refine k_iload C rfl rfl rfl ?_
      refine k_if_ne C (t := 1017) rfl rfl rfl (fun _ => ?_) (fun c1002 => absurd (by decide) c1002)
      refine k_goto C (pc2 := 2832) rfl rfl ?_
      exact law_tail C S hL (Nat.le_of_ble_eq_true rfl) (Nat.le_of_ble_eq_true rfl) (List.forall_mem_cons.mpr ⟨List.mem_of_getElem? (i := 2) rfl, List.forall_mem_cons.mpr ⟨List.mem_of_getElem? (i := 6) rfl, fun _ h => nomatch h⟩⟩)
    exact absurd h984.2 c995
  refine k_iconst C (x := 1) rfl rfl rfl ?_
  refine k_goto C (pc2 := 957) rfl rfl ?_
  refine k_aload_n C rfl rfl rfl ?_
  refine c_SI C (e_L_rank0 T_x R_x_1 T_nw (I_nw_3) R_x_6 ) rfl rfl rfl rfl rfl rfl rfl (Nat.le_of_ble_eq_true rfl) (Nat.le_of_ble_eq_true rfl) (Nat.le_of_ble_eq_true rfl) ?_
  rintro _ _ _ ⟨hx7, hI8, hL9⟩
  have hx7 := hx7.symm; subst hx7
  have hI8 := hI8.symm; subst hI8; have hL9 := hL9.symm; subst hL9
  refine k_istore C (lw := [(5, .int _), (4, .int _), (3, _), (2, _), (1, _), (0, _)]) rfl rfl (Nat.le_of_ble_eq_true rfl) rfl ?_
  refine k_aload_n C rfl rfl rfl ?_
  refine k_aload_n C rfl rfl rfl ?_
  refine k_iload C rfl rfl rfl ?_
  refine k_iconst C (x := 1) rfl rfl rfl ?_
  refine k_iadd C rfl rfl ?_
  refine ls_i hL (k := 1) rfl rfl (by unfold vp_in; decide) (by decide) ?_
  refine k_aload_n C rfl rfl rfl ?_
  refine k_iload C rfl rfl rfl ?_
  refine k_iconst C (x := 2) rfl rfl rfl ?_
  refine k_iadd C rfl rfl ?_
  refine ls_i hL (k := 2) rfl rfl (by unfold vp_in; decide) (by decide) ?_
  refine k_if_eq C (t := 983) rfl rfl rfl (fun c976 => ?_) (fun c976 => ?_)
  · skip
    refine k_iconst C (x := 0) rfl rfl rfl ?_
    refine c_VI C (e_m_rank0 T_m R_m_1 T_w N_w B_m (I_w_3) ) rfl rfl rfl rfl rfl ⟨_, rfl, rfl, T_m, Nat.le_of_ble_eq_true rfl⟩ rfl rfl (Nat.le_of_ble_eq_true rfl) (Nat.le_of_ble_eq_true rfl) (Nat.le_of_ble_eq_true rfl) ?_
    intro x984 I984 L984 h984
    refine k_istore C (lw := [(6, .int _), (5, .int _), (4, .int _), (3, _), (2, _), (1, _), (0, _)]) rfl rfl (Nat.le_of_ble_eq_true rfl) rfl ?_
    refine k_aload_n C rfl rfl rfl ?_
    refine c_VI C (e_thrown T_m ) rfl rfl rfl rfl rfl ⟨_, rfl, rfl, T_m, Nat.le_of_ble_eq_true rfl⟩ rfl rfl (Nat.le_of_ble_eq_true rfl) (Nat.le_of_ble_eq_true rfl) (Nat.le_of_ble_eq_true rfl) ?_
    rintro _ _ _ ⟨hx7, hI8, hL9⟩
    have hx7 := hx7.symm; subst hx7
    have hI8 := hI8.symm; subst hI8; have hL9 := hL9.symm; subst hL9
    refine k_iload C rfl rfl rfl ?_
    refine k_icmp_eq C (t := 1000) rfl rfl rfl (fun c995 => ?_) (fun c995 => ?_)
    · skip
      refine k_iload C rfl rfl rfl ?_
      refine k_if_ne C (t := 1017) rfl rfl rfl (fun _ => ?_) (fun c1002 => absurd (by decide) c1002)
      refine k_goto C (pc2 := 2832) rfl rfl ?_
      exact law_tail C S hL (Nat.le_of_ble_eq_true rfl) (Nat.le_of_ble_eq_true rfl) (List.forall_mem_cons.mpr ⟨List.mem_of_getElem? (i := 2) rfl, List.forall_mem_cons.mpr ⟨List.mem_of_getElem? (i := 6) rfl, fun _ h => nomatch h⟩⟩)
    exact absurd h984.2 c995
  refine k_iconst C (x := 1) rfl rfl rfl ?_
  refine k_goto C (pc2 := 984) rfl rfl ?_
  refine c_VI C (e_m_rank0 T_m R_m_1 T_w N_w B_m (I_w_3) ) rfl rfl rfl rfl rfl ⟨_, rfl, rfl, T_m, Nat.le_of_ble_eq_true rfl⟩ rfl rfl (Nat.le_of_ble_eq_true rfl) (Nat.le_of_ble_eq_true rfl) (Nat.le_of_ble_eq_true rfl) ?_
  intro x984 I984 L984 h984
  refine k_istore C (lw := [(6, .int _), (5, .int _), (4, .int _), (3, _), (2, _), (1, _), (0, _)]) rfl rfl (Nat.le_of_ble_eq_true rfl) rfl ?_
  refine k_aload_n C rfl rfl rfl ?_
  refine c_VI C (e_thrown T_m ) rfl rfl rfl rfl rfl ⟨_, rfl, rfl, T_m, Nat.le_of_ble_eq_true rfl⟩ rfl rfl (Nat.le_of_ble_eq_true rfl) (Nat.le_of_ble_eq_true rfl) (Nat.le_of_ble_eq_true rfl) ?_
  rintro _ _ _ ⟨hx7, hI8, hL9⟩
  have hx7 := hx7.symm; subst hx7
  have hI8 := hI8.symm; subst hI8; have hL9 := hL9.symm; subst hL9
  refine k_iload C rfl rfl rfl ?_
  refine k_icmp_eq C (t := 1000) rfl rfl rfl (fun c995 => ?_) (fun c995 => ?_)
  · skip
    refine k_iload C rfl rfl rfl ?_
    refine k_if_ne C (t := 1017) rfl rfl rfl (fun _ => ?_) (fun c1002 => absurd (by decide) c1002)
    refine k_goto C (pc2 := 2832) rfl rfl ?_
    exact law_tail C S hL (Nat.le_of_ble_eq_true rfl) (Nat.le_of_ble_eq_true rfl) (List.forall_mem_cons.mpr ⟨List.mem_of_getElem? (i := 2) rfl, List.forall_mem_cons.mpr ⟨List.mem_of_getElem? (i := 6) rfl, fun _ h => nomatch h⟩⟩)
  exact absurd h984.2 c995

set_option maxRecDepth 100000 in
theorem lc_15 {d : Nat} {V : V_T} {b x m o nw w : Nat} {xs : Nat → Int32} {T N : Nat → Nat} {I : IT} {L : LT} {R : RT} {A B : Nat → Prop} (C : Cl (d + 5) q_law 600002 7302232 law_Po V) (S : SB V) (hL : LSc V b 6 xs) (T_x : T x = 12) (R_x_1 : R x 1 = some nw) (T_nw : T nw = 9) (I_nw_3 : I nw 3 = 0) (T_m : T m = 13) (R_m_1 : R m 1 = some w) (T_w : T w = 20) (N_w : N w = 4007) (B_m : B m) (I_w_1 : I w 1 = 0) (I_w_2 : I w 2 = 0) (I_w_3 : I w 3 = 0)  : V 1020 [(4, .int 0), (3, .ref o), (2, .ref m), (1, .ref x), (0, .ref b)] [] (T, N, I, L, R) 429 34606 := by
  refine k_aload_n C rfl rfl rfl ?_
  refine k_aload_n C rfl rfl rfl ?_
  refine k_iload C rfl rfl rfl ?_
  refine k_iconst C (x := 1) rfl rfl rfl ?_
  refine k_iadd C rfl rfl ?_
  refine ls_i hL (k := 1) rfl rfl (by unfold vp_in; decide) (by decide) ?_
  refine k_aload_n C rfl rfl rfl ?_
  refine k_iload C rfl rfl rfl ?_
  refine k_iconst C (x := 2) rfl rfl rfl ?_
  refine k_iadd C rfl rfl ?_
  refine ls_i hL (k := 2) rfl rfl (by unfold vp_in; decide) (by decide) ?_
  refine k_aload_n C rfl rfl rfl ?_
  refine k_iload C rfl rfl rfl ?_
  refine k_iconst C (x := 3) rfl rfl rfl ?_
  refine k_iadd C rfl rfl ?_
  refine ls_i hL (k := 3) rfl rfl (by unfold vp_in; decide) (by decide) ?_
  refine k_aload_n C rfl rfl rfl ?_
  refine c_SI C (e_L_stays0 T_x R_x_1 T_nw (I_nw_3) ) rfl rfl rfl rfl rfl rfl rfl (Nat.le_of_ble_eq_true rfl) (Nat.le_of_ble_eq_true rfl) (Nat.le_of_ble_eq_true rfl) ?_
  rintro _ _ _ ⟨hx7, hI8, hL9⟩
  have hx7 := hx7.symm; subst hx7
  have hI8 := hI8.symm; subst hI8; have hL9 := hL9.symm; subst hL9
  refine k_istore C (lw := [(5, .int _), (4, .int _), (3, _), (2, _), (1, _), (0, _)]) rfl rfl (Nat.le_of_ble_eq_true rfl) rfl ?_
  refine k_aload_n C rfl rfl rfl ?_
  refine k_aload_n C rfl rfl rfl ?_
  refine k_iload C rfl rfl rfl ?_
  refine k_iconst C (x := 1) rfl rfl rfl ?_
  refine k_iadd C rfl rfl ?_
  refine ls_i hL (k := 1) rfl rfl (by unfold vp_in; decide) (by decide) ?_
  refine k_aload_n C rfl rfl rfl ?_
  refine k_iload C rfl rfl rfl ?_
  refine k_iconst C (x := 2) rfl rfl rfl ?_
  refine k_iadd C rfl rfl ?_
  refine ls_i hL (k := 2) rfl rfl (by unfold vp_in; decide) (by decide) ?_
  refine k_aload_n C rfl rfl rfl ?_
  refine k_iload C rfl rfl rfl ?_
  refine k_iconst C (x := 3) rfl rfl rfl ?_
  refine k_iadd C rfl rfl ?_
  refine ls_i hL (k := 3) rfl rfl (by unfold vp_in; decide) (by decide) ?_
  refine c_VI C (e_m_stays0 T_m R_m_1 T_w N_w B_m (I_w_1) (I_w_2) (I_w_3) ) rfl rfl rfl rfl rfl ⟨_, rfl, rfl, T_m, Nat.le_of_ble_eq_true rfl⟩ rfl rfl (Nat.le_of_ble_eq_true rfl) (Nat.le_of_ble_eq_true rfl) (Nat.le_of_ble_eq_true rfl) ?_
  intro x1064 I1064 L1064 h1064
  refine k_istore C (lw := [(6, .int _), (5, .int _), (4, .int _), (3, _), (2, _), (1, _), (0, _)]) rfl rfl (Nat.le_of_ble_eq_true rfl) rfl ?_
  refine k_aload_n C rfl rfl rfl ?_
  refine c_VI C (e_thrown T_m ) rfl rfl rfl rfl rfl ⟨_, rfl, rfl, T_m, Nat.le_of_ble_eq_true rfl⟩ rfl rfl (Nat.le_of_ble_eq_true rfl) (Nat.le_of_ble_eq_true rfl) (Nat.le_of_ble_eq_true rfl) ?_
  rintro _ _ _ ⟨hx7, hI8, hL9⟩
  have hx7 := hx7.symm; subst hx7
  have hI8 := hI8.symm; subst hI8; have hL9 := hL9.symm; subst hL9
  refine k_iload C rfl rfl rfl ?_
  refine k_icmp_eq C (t := 1080) rfl rfl rfl (fun c1075 => ?_) (fun c1075 => ?_)
  · skip
    refine k_iload C rfl rfl rfl ?_
    refine k_if_ne C (t := 1104) rfl rfl rfl (fun _ => ?_) (fun c1082 => absurd (by decide) c1082)
    refine k_goto C (pc2 := 2832) rfl rfl ?_
    exact law_tail C S hL (Nat.le_of_ble_eq_true rfl) (Nat.le_of_ble_eq_true rfl) (List.forall_mem_cons.mpr ⟨List.mem_of_getElem? (i := 2) rfl, List.forall_mem_cons.mpr ⟨List.mem_of_getElem? (i := 6) rfl, fun _ h => nomatch h⟩⟩)
  exact absurd h1064.2 c1075

set_option maxRecDepth 100000 in
theorem lc_16 {d : Nat} {V : V_T} {b x m o nw w : Nat} {xs : Nat → Int32} {T N : Nat → Nat} {I : IT} {L : LT} {R : RT} {A B : Nat → Prop} (C : Cl (d + 5) q_law 600002 7302232 law_Po V) (S : SB V) (hL : LSc V b 6 xs) (T_x : T x = 12) (R_x_1 : R x 1 = some nw) (T_nw : T nw = 9) (I_nw_3 : I nw 3 = 0) (T_m : T m = 13) (R_m_1 : R m 1 = some w) (T_w : T w = 20) (N_w : N w = 4007) (B_m : B m) (I_w_3 : I w 3 = 0)  : V 1107 [(4, .int 0), (3, .ref o), (2, .ref m), (1, .ref x), (0, .ref b)] [] (T, N, I, L, R) 429 34606 := by
  refine k_aload_n C rfl rfl rfl ?_
  refine k_aload_n C rfl rfl rfl ?_
  refine k_iload C rfl rfl rfl ?_
  refine k_iconst C (x := 1) rfl rfl rfl ?_
  refine k_iadd C rfl rfl ?_
  refine ls_i hL (k := 1) rfl rfl (by unfold vp_in; decide) (by decide) ?_
  refine k_aload_n C rfl rfl rfl ?_
  refine k_iload C rfl rfl rfl ?_
  refine k_iconst C (x := 2) rfl rfl rfl ?_
  refine k_iadd C rfl rfl ?_
  refine ls_i hL (k := 2) rfl rfl (by unfold vp_in; decide) (by decide) ?_
  refine k_aload_n C rfl rfl rfl ?_
  refine k_iload C rfl rfl rfl ?_
  refine k_iconst C (x := 3) rfl rfl rfl ?_
  refine k_iadd C rfl rfl ?_
  refine ls_i hL (k := 3) rfl rfl (by unfold vp_in; decide) (by decide) ?_
  refine k_aload_n C rfl rfl rfl ?_
  refine c_SI C (e_L_agree0 T_x R_x_1 T_nw (I_nw_3) ) rfl rfl rfl rfl rfl rfl rfl (Nat.le_of_ble_eq_true rfl) (Nat.le_of_ble_eq_true rfl) (Nat.le_of_ble_eq_true rfl) ?_
  rintro _ _ _ ⟨hx7, hI8, hL9⟩
  have hx7 := hx7.symm; subst hx7
  have hI8 := hI8.symm; subst hI8; have hL9 := hL9.symm; subst hL9
  refine k_istore C (lw := [(5, .int _), (4, .int _), (3, _), (2, _), (1, _), (0, _)]) rfl rfl (Nat.le_of_ble_eq_true rfl) rfl ?_
  refine k_aload_n C rfl rfl rfl ?_
  refine k_aload_n C rfl rfl rfl ?_
  refine k_iload C rfl rfl rfl ?_
  refine k_iconst C (x := 1) rfl rfl rfl ?_
  refine k_iadd C rfl rfl ?_
  refine ls_i hL (k := 1) rfl rfl (by unfold vp_in; decide) (by decide) ?_
  refine k_aload_n C rfl rfl rfl ?_
  refine k_iload C rfl rfl rfl ?_
  refine k_iconst C (x := 2) rfl rfl rfl ?_
  refine k_iadd C rfl rfl ?_
  refine ls_i hL (k := 2) rfl rfl (by unfold vp_in; decide) (by decide) ?_
  refine k_aload_n C rfl rfl rfl ?_
  refine k_iload C rfl rfl rfl ?_
  refine k_iconst C (x := 3) rfl rfl rfl ?_
  refine k_iadd C rfl rfl ?_
  refine ls_i hL (k := 3) rfl rfl (by unfold vp_in; decide) (by decide) ?_
  refine c_VI C (e_m_agree0 T_m R_m_1 T_w N_w B_m (I_w_3) ) rfl rfl rfl rfl rfl ⟨_, rfl, rfl, T_m, Nat.le_of_ble_eq_true rfl⟩ rfl rfl (Nat.le_of_ble_eq_true rfl) (Nat.le_of_ble_eq_true rfl) (Nat.le_of_ble_eq_true rfl) ?_
  intro x1151 I1151 L1151 h1151
  refine k_istore C (lw := [(6, .int _), (5, .int _), (4, .int _), (3, _), (2, _), (1, _), (0, _)]) rfl rfl (Nat.le_of_ble_eq_true rfl) rfl ?_
  refine k_aload_n C rfl rfl rfl ?_
  refine c_VI C (e_thrown T_m ) rfl rfl rfl rfl rfl ⟨_, rfl, rfl, T_m, Nat.le_of_ble_eq_true rfl⟩ rfl rfl (Nat.le_of_ble_eq_true rfl) (Nat.le_of_ble_eq_true rfl) (Nat.le_of_ble_eq_true rfl) ?_
  rintro _ _ _ ⟨hx7, hI8, hL9⟩
  have hx7 := hx7.symm; subst hx7
  have hI8 := hI8.symm; subst hI8; have hL9 := hL9.symm; subst hL9
  refine k_iload C rfl rfl rfl ?_
  refine k_icmp_eq C (t := 1167) rfl rfl rfl (fun c1162 => ?_) (fun c1162 => ?_)
  · skip
    refine k_iload C rfl rfl rfl ?_
    refine k_if_ne C (t := 1184) rfl rfl rfl (fun _ => ?_) (fun c1169 => absurd (by decide) c1169)
    refine k_goto C (pc2 := 2832) rfl rfl ?_
    exact law_tail C S hL (Nat.le_of_ble_eq_true rfl) (Nat.le_of_ble_eq_true rfl) (List.forall_mem_cons.mpr ⟨List.mem_of_getElem? (i := 2) rfl, List.forall_mem_cons.mpr ⟨List.mem_of_getElem? (i := 6) rfl, fun _ h => nomatch h⟩⟩)
  exact absurd h1151.2 c1162

set_option maxRecDepth 100000 in
theorem lc_20 {d : Nat} {V : V_T} {b x m o nw fr w : Nat} {xs : Nat → Int32} {T N : Nat → Nat} {I : IT} {L : LT} {R : RT} {A B : Nat → Prop} (C : Cl (d + 6) q_law 600002 7302232 law_Po V) (S : SB V) (hL : LSc V b 6 xs) (T_x : T x = 12) (R_x_1 : R x 1 = some nw) (T_nw : T nw = 9) (R_nw_8 : R nw 8 = some fr) (I_nw_1 : I nw 1 = 0) (T_m : T m = 13) (R_m_1 : R m 1 = some w) (T_w : T w = 20) (N_w : N w = 4007) (B_m : B m) (I_w_1 : I w 1 = 0)  : V 1426 [(4, .int 0), (3, .ref o), (2, .ref m), (1, .ref x), (0, .ref b)] [] (T, N, I, L, R) 429 34606 := by
  refine k_aload_n C rfl rfl rfl ?_
  refine k_aload_n C rfl rfl rfl ?_
  refine k_iload C rfl rfl rfl ?_
  refine k_iconst C (x := 1) rfl rfl rfl ?_
  refine k_iadd C rfl rfl ?_
  refine ls_i hL (k := 1) rfl rfl (by unfold vp_in; decide) (by decide) ?_
  refine k_aload_n C rfl rfl rfl ?_
  refine c_SI C (e_L_kind0 T_x R_x_1 T_nw R_nw_8 (I_nw_1) ) rfl rfl rfl rfl rfl rfl rfl (Nat.le_of_ble_eq_true rfl) (Nat.le_of_ble_eq_true rfl) (Nat.le_of_ble_eq_true rfl) ?_
  rintro _ _ _ ⟨hx7, hI8, hL9⟩
  have hx7 := hx7.symm; subst hx7
  have hI8 := hI8.symm; subst hI8; have hL9 := hL9.symm; subst hL9
  refine k_istore C (lw := [(5, .int _), (4, .int _), (3, _), (2, _), (1, _), (0, _)]) rfl rfl (Nat.le_of_ble_eq_true rfl) rfl ?_
  refine k_aload_n C rfl rfl rfl ?_
  refine k_aload_n C rfl rfl rfl ?_
  refine k_iload C rfl rfl rfl ?_
  refine k_iconst C (x := 1) rfl rfl rfl ?_
  refine k_iadd C rfl rfl ?_
  refine ls_i hL (k := 1) rfl rfl (by unfold vp_in; decide) (by decide) ?_
  refine c_VI C (e_m_kind0 T_m R_m_1 T_w N_w B_m (I_w_1) ) rfl rfl rfl rfl rfl ⟨_, rfl, rfl, T_m, Nat.le_of_ble_eq_true rfl⟩ rfl rfl (Nat.le_of_ble_eq_true rfl) (Nat.le_of_ble_eq_true rfl) (Nat.le_of_ble_eq_true rfl) ?_
  intro x1446 I1446 L1446 h1446
  refine k_istore C (lw := [(6, .int _), (5, .int _), (4, .int _), (3, _), (2, _), (1, _), (0, _)]) rfl rfl (Nat.le_of_ble_eq_true rfl) rfl ?_
  refine k_aload_n C rfl rfl rfl ?_
  refine c_VI C (e_thrown T_m ) rfl rfl rfl rfl rfl ⟨_, rfl, rfl, T_m, Nat.le_of_ble_eq_true rfl⟩ rfl rfl (Nat.le_of_ble_eq_true rfl) (Nat.le_of_ble_eq_true rfl) (Nat.le_of_ble_eq_true rfl) ?_
  rintro _ _ _ ⟨hx7, hI8, hL9⟩
  have hx7 := hx7.symm; subst hx7
  have hI8 := hI8.symm; subst hI8; have hL9 := hL9.symm; subst hL9
  refine k_iload C rfl rfl rfl ?_
  refine k_icmp_eq C (t := 1462) rfl rfl rfl (fun c1457 => ?_) (fun c1457 => ?_)
  · skip
    refine k_iload C rfl rfl rfl ?_
    refine k_if_ne C (t := 1479) rfl rfl rfl (fun _ => ?_) (fun c1464 => absurd (by decide) c1464)
    refine k_goto C (pc2 := 2832) rfl rfl ?_
    exact law_tail C S hL (Nat.le_of_ble_eq_true rfl) (Nat.le_of_ble_eq_true rfl) (List.forall_mem_cons.mpr ⟨List.mem_of_getElem? (i := 2) rfl, List.forall_mem_cons.mpr ⟨List.mem_of_getElem? (i := 6) rfl, fun _ h => nomatch h⟩⟩)
  exact absurd h1446.2 c1457

set_option maxRecDepth 100000 in
theorem lc_21 {d : Nat} {V : V_T} {b x m o nw fr w : Nat} {xs : Nat → Int32} {T N : Nat → Nat} {I : IT} {L : LT} {R : RT} {A B : Nat → Prop} (C : Cl (d + 6) q_law 600002 7302232 law_Po V) (S : SB V) (hL : LSc V b 6 xs) (T_x : T x = 12) (R_x_1 : R x 1 = some nw) (T_nw : T nw = 9) (R_nw_8 : R nw 8 = some fr) (I_nw_1 : I nw 1 = 0) (T_m : T m = 13) (R_m_1 : R m 1 = some w) (T_w : T w = 20) (N_w : N w = 4007) (B_m : B m) (I_w_1 : I w 1 = 0)  : V 1482 [(4, .int 0), (3, .ref o), (2, .ref m), (1, .ref x), (0, .ref b)] [] (T, N, I, L, R) 429 34606 := by
  refine k_aload_n C rfl rfl rfl ?_
  refine k_aload_n C rfl rfl rfl ?_
  refine k_iload C rfl rfl rfl ?_
  refine k_iconst C (x := 1) rfl rfl rfl ?_
  refine k_iadd C rfl rfl ?_
  refine ls_i hL (k := 1) rfl rfl (by unfold vp_in; decide) (by decide) ?_
  refine k_aload_n C rfl rfl rfl ?_
  refine c_SI C (e_L_orbit0 T_x R_x_1 T_nw R_nw_8 (I_nw_1) ) rfl rfl rfl rfl rfl rfl rfl (Nat.le_of_ble_eq_true rfl) (Nat.le_of_ble_eq_true rfl) (Nat.le_of_ble_eq_true rfl) ?_
  rintro _ _ _ ⟨hx7, hI8, hL9⟩
  have hx7 := hx7.symm; subst hx7
  have hI8 := hI8.symm; subst hI8; have hL9 := hL9.symm; subst hL9
  refine k_istore C (lw := [(5, .int _), (4, .int _), (3, _), (2, _), (1, _), (0, _)]) rfl rfl (Nat.le_of_ble_eq_true rfl) rfl ?_
  refine k_aload_n C rfl rfl rfl ?_
  refine k_aload_n C rfl rfl rfl ?_
  refine k_iload C rfl rfl rfl ?_
  refine k_iconst C (x := 1) rfl rfl rfl ?_
  refine k_iadd C rfl rfl ?_
  refine ls_i hL (k := 1) rfl rfl (by unfold vp_in; decide) (by decide) ?_
  refine c_VI C (e_m_orbit0 T_m R_m_1 T_w N_w B_m (I_w_1) ) rfl rfl rfl rfl rfl ⟨_, rfl, rfl, T_m, Nat.le_of_ble_eq_true rfl⟩ rfl rfl (Nat.le_of_ble_eq_true rfl) (Nat.le_of_ble_eq_true rfl) (Nat.le_of_ble_eq_true rfl) ?_
  intro x1502 I1502 L1502 h1502
  refine k_istore C (lw := [(6, .int _), (5, .int _), (4, .int _), (3, _), (2, _), (1, _), (0, _)]) rfl rfl (Nat.le_of_ble_eq_true rfl) rfl ?_
  refine k_aload_n C rfl rfl rfl ?_
  refine c_VI C (e_thrown T_m ) rfl rfl rfl rfl rfl ⟨_, rfl, rfl, T_m, Nat.le_of_ble_eq_true rfl⟩ rfl rfl (Nat.le_of_ble_eq_true rfl) (Nat.le_of_ble_eq_true rfl) (Nat.le_of_ble_eq_true rfl) ?_
  rintro _ _ _ ⟨hx7, hI8, hL9⟩
  have hx7 := hx7.symm; subst hx7
  have hI8 := hI8.symm; subst hI8; have hL9 := hL9.symm; subst hL9
  refine k_iload C rfl rfl rfl ?_
  refine k_icmp_eq C (t := 1518) rfl rfl rfl (fun c1513 => ?_) (fun c1513 => ?_)
  · skip
    refine k_iload C rfl rfl rfl ?_
    refine k_if_ne C (t := 1535) rfl rfl rfl (fun _ => ?_) (fun c1520 => absurd (by decide) c1520)
    refine k_goto C (pc2 := 2832) rfl rfl ?_
    exact law_tail C S hL (Nat.le_of_ble_eq_true rfl) (Nat.le_of_ble_eq_true rfl) (List.forall_mem_cons.mpr ⟨List.mem_of_getElem? (i := 2) rfl, List.forall_mem_cons.mpr ⟨List.mem_of_getElem? (i := 6) rfl, fun _ h => nomatch h⟩⟩)
  exact absurd h1502.2 c1513

set_option maxRecDepth 100000 in
theorem lc_22 {d : Nat} {V : V_T} {b x m o nw w : Nat} {xs : Nat → Int32} {T N : Nat → Nat} {I : IT} {L : LT} {R : RT} {A B : Nat → Prop} (C : Cl (d + 5) q_law 600002 7302232 law_Po V) (S : SB V) (hL : LSc V b 6 xs) (T_x : T x = 12) (R_x_1 : R x 1 = some nw) (T_nw : T nw = 9) (I_nw_2 : I nw 2 = 0) (T_m : T m = 13) (R_m_1 : R m 1 = some w) (T_w : T w = 20) (N_w : N w = 4007) (B_m : B m) (I_w_2 : I w 2 = 0)  : V 1538 [(4, .int 0), (3, .ref o), (2, .ref m), (1, .ref x), (0, .ref b)] [] (T, N, I, L, R) 429 34606 := by
  refine k_aload_n C rfl rfl rfl ?_
  refine k_aload_n C rfl rfl rfl ?_
  refine k_iload C rfl rfl rfl ?_
  refine k_iconst C (x := 1) rfl rfl rfl ?_
  refine k_iadd C rfl rfl ?_
  refine ls_i hL (k := 1) rfl rfl (by unfold vp_in; decide) (by decide) ?_
  refine k_aload_n C rfl rfl rfl ?_
  refine k_iload C rfl rfl rfl ?_
  refine k_iconst C (x := 2) rfl rfl rfl ?_
  refine k_iadd C rfl rfl ?_
  refine ls_i hL (k := 2) rfl rfl (by unfold vp_in; decide) (by decide) ?_
  refine k_aload_n C rfl rfl rfl ?_
  refine c_SI C (e_L_join0 T_x R_x_1 T_nw (I_nw_2) ) rfl rfl rfl rfl rfl rfl rfl (Nat.le_of_ble_eq_true rfl) (Nat.le_of_ble_eq_true rfl) (Nat.le_of_ble_eq_true rfl) ?_
  rintro _ _ _ ⟨hx7, hI8, hL9⟩
  have hx7 := hx7.symm; subst hx7
  have hI8 := hI8.symm; subst hI8; have hL9 := hL9.symm; subst hL9
  refine k_istore C (lw := [(5, .int _), (4, .int _), (3, _), (2, _), (1, _), (0, _)]) rfl rfl (Nat.le_of_ble_eq_true rfl) rfl ?_
  refine k_aload_n C rfl rfl rfl ?_
  refine k_aload_n C rfl rfl rfl ?_
  refine k_iload C rfl rfl rfl ?_
  refine k_iconst C (x := 1) rfl rfl rfl ?_
  refine k_iadd C rfl rfl ?_
  refine ls_i hL (k := 1) rfl rfl (by unfold vp_in; decide) (by decide) ?_
  refine k_aload_n C rfl rfl rfl ?_
  refine k_iload C rfl rfl rfl ?_
  refine k_iconst C (x := 2) rfl rfl rfl ?_
  refine k_iadd C rfl rfl ?_
  refine ls_i hL (k := 2) rfl rfl (by unfold vp_in; decide) (by decide) ?_
  refine c_VI C (e_m_join0 T_m R_m_1 T_w N_w B_m (I_w_2) ) rfl rfl rfl rfl rfl ⟨_, rfl, rfl, T_m, Nat.le_of_ble_eq_true rfl⟩ rfl rfl (Nat.le_of_ble_eq_true rfl) (Nat.le_of_ble_eq_true rfl) (Nat.le_of_ble_eq_true rfl) ?_
  intro x1570 I1570 L1570 h1570
  refine k_istore C (lw := [(6, .int _), (5, .int _), (4, .int _), (3, _), (2, _), (1, _), (0, _)]) rfl rfl (Nat.le_of_ble_eq_true rfl) rfl ?_
  refine k_aload_n C rfl rfl rfl ?_
  refine c_VI C (e_thrown T_m ) rfl rfl rfl rfl rfl ⟨_, rfl, rfl, T_m, Nat.le_of_ble_eq_true rfl⟩ rfl rfl (Nat.le_of_ble_eq_true rfl) (Nat.le_of_ble_eq_true rfl) (Nat.le_of_ble_eq_true rfl) ?_
  rintro _ _ _ ⟨hx7, hI8, hL9⟩
  have hx7 := hx7.symm; subst hx7
  have hI8 := hI8.symm; subst hI8; have hL9 := hL9.symm; subst hL9
  refine k_iload C rfl rfl rfl ?_
  refine k_icmp_eq C (t := 1586) rfl rfl rfl (fun c1581 => ?_) (fun c1581 => ?_)
  · skip
    refine k_iload C rfl rfl rfl ?_
    refine k_if_ne C (t := 1603) rfl rfl rfl (fun _ => ?_) (fun c1588 => absurd (by decide) c1588)
    refine k_goto C (pc2 := 2832) rfl rfl ?_
    exact law_tail C S hL (Nat.le_of_ble_eq_true rfl) (Nat.le_of_ble_eq_true rfl) (List.forall_mem_cons.mpr ⟨List.mem_of_getElem? (i := 2) rfl, List.forall_mem_cons.mpr ⟨List.mem_of_getElem? (i := 6) rfl, fun _ h => nomatch h⟩⟩)
  exact absurd h1570.2 c1581

set_option maxRecDepth 100000 in
theorem lc_23 {d : Nat} {V : V_T} {b x m o nw w : Nat} {xs : Nat → Int32} {T N : Nat → Nat} {I : IT} {L : LT} {R : RT} {A B : Nat → Prop} (C : Cl (d + 5) q_law 600002 7302232 law_Po V) (S : SB V) (hL : LSc V b 6 xs) (T_x : T x = 12) (R_x_1 : R x 1 = some nw) (T_nw : T nw = 9) (I_nw_2 : I nw 2 = 0) (T_m : T m = 13) (R_m_1 : R m 1 = some w) (T_w : T w = 20) (N_w : N w = 4007) (B_m : B m) (I_w_2 : I w 2 = 0)  : V 1606 [(4, .int 0), (3, .ref o), (2, .ref m), (1, .ref x), (0, .ref b)] [] (T, N, I, L, R) 429 34606 := by
  refine k_aload_n C rfl rfl rfl ?_
  refine k_aload_n C rfl rfl rfl ?_
  refine k_iload C rfl rfl rfl ?_
  refine k_iconst C (x := 1) rfl rfl rfl ?_
  refine k_iadd C rfl rfl ?_
  refine ls_i hL (k := 1) rfl rfl (by unfold vp_in; decide) (by decide) ?_
  refine k_aload_n C rfl rfl rfl ?_
  refine c_SI C (e_L_turn0 T_x R_x_1 T_nw (I_nw_2) ) rfl rfl rfl rfl rfl rfl rfl (Nat.le_of_ble_eq_true rfl) (Nat.le_of_ble_eq_true rfl) (Nat.le_of_ble_eq_true rfl) ?_
  rintro _ _ _ ⟨hx7, hI8, hL9⟩
  have hx7 := hx7.symm; subst hx7
  have hI8 := hI8.symm; subst hI8; have hL9 := hL9.symm; subst hL9
  refine k_istore C (lw := [(5, .int _), (4, .int _), (3, _), (2, _), (1, _), (0, _)]) rfl rfl (Nat.le_of_ble_eq_true rfl) rfl ?_
  refine k_aload_n C rfl rfl rfl ?_
  refine k_aload_n C rfl rfl rfl ?_
  refine k_iload C rfl rfl rfl ?_
  refine k_iconst C (x := 1) rfl rfl rfl ?_
  refine k_iadd C rfl rfl ?_
  refine ls_i hL (k := 1) rfl rfl (by unfold vp_in; decide) (by decide) ?_
  refine c_VI C (e_m_turn0 T_m R_m_1 T_w N_w B_m (I_w_2) ) rfl rfl rfl rfl rfl ⟨_, rfl, rfl, T_m, Nat.le_of_ble_eq_true rfl⟩ rfl rfl (Nat.le_of_ble_eq_true rfl) (Nat.le_of_ble_eq_true rfl) (Nat.le_of_ble_eq_true rfl) ?_
  intro x1626 I1626 L1626 h1626
  refine k_istore C (lw := [(6, .int _), (5, .int _), (4, .int _), (3, _), (2, _), (1, _), (0, _)]) rfl rfl (Nat.le_of_ble_eq_true rfl) rfl ?_
  refine k_aload_n C rfl rfl rfl ?_
  refine c_VI C (e_thrown T_m ) rfl rfl rfl rfl rfl ⟨_, rfl, rfl, T_m, Nat.le_of_ble_eq_true rfl⟩ rfl rfl (Nat.le_of_ble_eq_true rfl) (Nat.le_of_ble_eq_true rfl) (Nat.le_of_ble_eq_true rfl) ?_
  rintro _ _ _ ⟨hx7, hI8, hL9⟩
  have hx7 := hx7.symm; subst hx7
  have hI8 := hI8.symm; subst hI8; have hL9 := hL9.symm; subst hL9
  refine k_iload C rfl rfl rfl ?_
  refine k_icmp_eq C (t := 1642) rfl rfl rfl (fun c1637 => ?_) (fun c1637 => ?_)
  · skip
    refine k_iload C rfl rfl rfl ?_
    refine k_if_ne C (t := 1659) rfl rfl rfl (fun _ => ?_) (fun c1644 => absurd (by decide) c1644)
    refine k_goto C (pc2 := 2832) rfl rfl ?_
    exact law_tail C S hL (Nat.le_of_ble_eq_true rfl) (Nat.le_of_ble_eq_true rfl) (List.forall_mem_cons.mpr ⟨List.mem_of_getElem? (i := 2) rfl, List.forall_mem_cons.mpr ⟨List.mem_of_getElem? (i := 6) rfl, fun _ h => nomatch h⟩⟩)
  exact absurd h1626.2 c1637

