/-! the law: a call at any place -/
set_option maxRecDepth 100000 in
set_option maxHeartbeats 4000000 in
theorem lc_0 {V : V_T} {b x nw kp rd al m w im o Ln i : Nat} {xs : Nat → Int32} {T N : Nat → Nat} {I : IT} {L : LT} {R : RT} {A B : Nat → Prop} {ck sk : Nat} (C : Cl 40 q_law 601024 7293033 law_Po V) (S : SB V) (hL : LSc V b Ln xs) (E : LW T N R A B x nw kp rd al m w im o) (hi : i + 6 ≤ Ln) (hLn : Ln ≤ 3072) (hLI : LI T R A m I) (hRL : RLT x nw kp rd m w im I) (hck : ck + 3 ≤ 601024) (hsk : sk + 18 ≤ 7293033) (K : ∀ (lv : List (Nat × Value)) (I9 : IT) (L9 : LT) (ck9 sk9 : Nat), LI T R A m I9 → RLT x nw kp rd m w im I9 → ck9 ≤ ck + 3 → sk9 ≤ sk + 18 → (∀ z ∈ ([(4, .int (Int32.ofNat i)), (3, .ref o), (2, .ref m), (1, .ref x), (0, .ref b)] : List (Nat × Value)), z ∈ lv) → V 1899 lv [] (T, N, I9, L9, R) ck9 sk9) : V 224 [(4, .int (Int32.ofNat i)), (3, .ref o), (2, .ref m), (1, .ref x), (0, .ref b)] [] (T, N, I, L, R) ck sk := by
  obtain ⟨H_x, H_m, ⟨T_o, N_o, A_o⟩, nAB, Rnw, Rkp, Rrd, hnk, Ral, Ras, Rw, Rim⟩ := id E
  have T_x := H_x.1
  have T_m := H_m.1
  have hB := True.intro
  refine k_aload_n C rfl rfl rfl ?_
  refine k_aload_n C rfl rfl rfl ?_
  refine k_iload C rfl rfl rfl ?_
  refine k_iconst C (x := 1) rfl rfl rfl ?_
  refine k_iadd C rfl rfl ?_
  refine hL.1 _ _ _ _ _ _ _ rfl (vsk hi hLn (c := 1) (by decide)) ?_
  refine k_aload_n C rfl rfl rfl ?_
  refine k_iload C rfl rfl rfl ?_
  refine k_iconst C (x := 2) rfl rfl rfl ?_
  refine k_iadd C rfl rfl ?_
  refine hL.1 _ _ _ _ _ _ _ rfl (vsk hi hLn (c := 2) (by decide)) ?_
  refine k_aload_n C rfl rfl rfl ?_
  refine k_iload C rfl rfl rfl ?_
  refine k_iconst C (x := 3) rfl rfl rfl ?_
  refine k_iadd C rfl rfl ?_
  refine hL.1 _ _ _ _ _ _ _ rfl (vsk hi hLn (c := 3) (by decide)) ?_
  refine k_aload_n C rfl rfl rfl ?_
  refine k_iload C rfl rfl rfl ?_
  refine k_iconst C (x := 4) rfl rfl rfl ?_
  refine k_iadd C rfl rfl ?_
  refine hL.1 _ _ _ _ _ _ _ rfl (vsk hi hLn (c := 4) (by decide)) ?_
  refine k_aload_n C rfl rfl rfl ?_
  refine k_iload C rfl rfl rfl ?_
  refine k_iconst C (x := 5) rfl rfl rfl ?_
  refine k_iadd C rfl rfl ?_
  refine hL.1 _ _ _ _ _ _ _ rfl (vsk hi hLn (c := 5) (by decide)) ?_
  have hbd := LI.bd E hLI
  refine c_VI C (a_X11_feed_e hLI.1 H_x Rnw Rkp Rrd hnk (by unfold RLT at hRL; omega) (by unfold RLT at hRL; omega)) rfl rfl rfl rfl rfl ⟨_, rfl, rfl, H_x.1, Nat.le_of_ble_eq_true rfl⟩ rfl rfl (by omega) (by omega) (Nat.le_of_ble_eq_true rfl) ?_
  rintro x4 I1 L2 ⟨q0, h1, h2⟩
  have h3 := LI.cls hLI H_m nAB h1 h2.1
  have s1 := SM.fr E h2.1
  have c1 : CI T _ I I1 := h2.2
  have f2 := CI.s E c1 (by decide) (by decide) (by decide)
  have f3 := CI.x3 E c1 (by decide)
  refine k_pop C rfl rfl rfl ?_
  refine k_aload_n C rfl rfl rfl ?_
  refine k_aload_n C rfl rfl rfl ?_
  refine k_iload C rfl rfl rfl ?_
  refine k_iconst C (x := 1) rfl rfl rfl ?_
  refine k_iadd C rfl rfl ?_
  refine hL.1 _ _ _ _ _ _ _ rfl (vsk hi hLn (c := 1) (by decide)) ?_
  refine k_aload_n C rfl rfl rfl ?_
  refine k_iload C rfl rfl rfl ?_
  refine k_iconst C (x := 2) rfl rfl rfl ?_
  refine k_iadd C rfl rfl ?_
  refine hL.1 _ _ _ _ _ _ _ rfl (vsk hi hLn (c := 2) (by decide)) ?_
  refine k_aload_n C rfl rfl rfl ?_
  refine k_iload C rfl rfl rfl ?_
  refine k_iconst C (x := 3) rfl rfl rfl ?_
  refine k_iadd C rfl rfl ?_
  refine hL.1 _ _ _ _ _ _ _ rfl (vsk hi hLn (c := 3) (by decide)) ?_
  refine k_aload_n C rfl rfl rfl ?_
  refine k_iload C rfl rfl rfl ?_
  refine k_iconst C (x := 4) rfl rfl rfl ?_
  refine k_iadd C rfl rfl ?_
  refine hL.1 _ _ _ _ _ _ _ rfl (vsk hi hLn (c := 4) (by decide)) ?_
  refine k_aload_n C rfl rfl rfl ?_
  refine k_iload C rfl rfl rfl ?_
  refine k_iconst C (x := 5) rfl rfl rfl ?_
  refine k_iadd C rfl rfl ?_
  refine hL.1 _ _ _ _ _ _ _ rfl (vsk hi hLn (c := 5) (by decide)) ?_
  refine c_VI C (a_X12_feed_e h3.2.1 H_m) rfl rfl rfl rfl rfl ⟨_, rfl, rfl, H_m.1, Nat.le_of_ble_eq_true rfl⟩ rfl rfl (by omega) (by omega) (Nat.le_of_ble_eq_true rfl) ?_
  rintro x8 I5 L6 ⟨p0, p1, p2, hM9, cm⟩
  have h7 := LI.ref0 h3 H_m nAB hM9 cm (by decide) (by decide) (by decide)
  have s2 := SC.cm E cm
  unfold SC at s2
  unfold SM at s1
  have hR9 := hRL
  unfold RLT at hR9
  have g2 := CM.m3 cm (by decide)
  have g3 := CM.cw E cm (by decide)
  have g4 := CM.cim E cm (by decide)
  have hR2 : RLT x nw kp rd m w im I5 := by unfold RLT; omega
  refine k_pop C rfl rfl rfl ?_
  refine k_goto C (pc2 := 1899) rfl rfl ?_
  exact K _ _ _ _ _ h7 hR2 (by omega) (by omega) (List.forall_mem_cons.mpr ⟨List.mem_of_getElem? (i := 0) rfl, List.forall_mem_cons.mpr ⟨List.mem_of_getElem? (i := 1) rfl, List.forall_mem_cons.mpr ⟨List.mem_of_getElem? (i := 2) rfl, List.forall_mem_cons.mpr ⟨List.mem_of_getElem? (i := 3) rfl, List.forall_mem_cons.mpr ⟨List.mem_of_getElem? (i := 4) rfl, fun _ h => nomatch h⟩⟩⟩⟩⟩)

set_option maxRecDepth 100000 in
set_option maxHeartbeats 4000000 in
theorem lc_1 {V : V_T} {b x nw kp rd al m w im o Ln i : Nat} {xs : Nat → Int32} {T N : Nat → Nat} {I : IT} {L : LT} {R : RT} {A B : Nat → Prop} {ck sk : Nat} (C : Cl 40 q_law 601024 7293033 law_Po V) (S : SB V) (hL : LSc V b Ln xs) (E : LW T N R A B x nw kp rd al m w im o) (hi : i + 6 ≤ Ln) (hLn : Ln ≤ 3072) (hLI : LI T R A m I) (hRL : RLT x nw kp rd m w im I) (hck : ck + 3 ≤ 601024) (hsk : sk + 18 ≤ 7293033) (K : ∀ (lv : List (Nat × Value)) (I9 : IT) (L9 : LT) (ck9 sk9 : Nat), LI T R A m I9 → RLT x nw kp rd m w im I9 → ck9 ≤ ck + 3 → sk9 ≤ sk + 18 → (∀ z ∈ ([(4, .int (Int32.ofNat i)), (3, .ref o), (2, .ref m), (1, .ref x), (0, .ref b)] : List (Nat × Value)), z ∈ lv) → V 1899 lv [] (T, N, I9, L9, R) ck9 sk9) : V 297 [(4, .int (Int32.ofNat i)), (3, .ref o), (2, .ref m), (1, .ref x), (0, .ref b)] [] (T, N, I, L, R) ck sk := by
  obtain ⟨H_x, H_m, ⟨T_o, N_o, A_o⟩, nAB, Rnw, Rkp, Rrd, hnk, Ral, Ras, Rw, Rim⟩ := id E
  have T_x := H_x.1
  have T_m := H_m.1
  have hB := True.intro
  refine k_aload_n C rfl rfl rfl ?_
  refine k_aload_n C rfl rfl rfl ?_
  refine k_iload C rfl rfl rfl ?_
  refine k_iconst C (x := 1) rfl rfl rfl ?_
  refine k_iadd C rfl rfl ?_
  refine hL.1 _ _ _ _ _ _ _ rfl (vsk hi hLn (c := 1) (by decide)) ?_
  have hbd := LI.bd E hLI
  refine c_VI C (a_X11_end_e hLI.1 H_x Rnw Rkp Rrd hnk) rfl rfl rfl rfl rfl ⟨_, rfl, rfl, H_x.1, Nat.le_of_ble_eq_true rfl⟩ rfl rfl (by omega) (by omega) (Nat.le_of_ble_eq_true rfl) ?_
  rintro x4 I1 L2 ⟨q0, q1, q2, h1, h2⟩
  have h3 := LI.cls hLI H_m nAB h1 h2.1
  have s1 := SM.fr E h2.1
  have c1 : CI T _ I I1 := h2.2
  have f2 := CI.s E c1 (by decide) (by decide) (by decide)
  have f3 := CI.x3 E c1 (by decide)
  refine k_pop C rfl rfl rfl ?_
  refine k_aload_n C rfl rfl rfl ?_
  refine k_aload_n C rfl rfl rfl ?_
  refine k_iload C rfl rfl rfl ?_
  refine k_iconst C (x := 1) rfl rfl rfl ?_
  refine k_iadd C rfl rfl ?_
  refine hL.1 _ _ _ _ _ _ _ rfl (vsk hi hLn (c := 1) (by decide)) ?_
  refine c_VI C (a_X12_end_e h3.2.1 H_m) rfl rfl rfl rfl rfl ⟨_, rfl, rfl, H_m.1, Nat.le_of_ble_eq_true rfl⟩ rfl rfl (by omega) (by omega) (Nat.le_of_ble_eq_true rfl) ?_
  rintro x8 I5 L6 ⟨p0, p1, p2, hM9, cm⟩
  have h7 := LI.ref0 h3 H_m nAB hM9 cm (by decide) (by decide) (by decide)
  have s2 := SC.cm E cm
  unfold SC at s2
  unfold SM at s1
  have hR9 := hRL
  unfold RLT at hR9
  have g2 := CM.m3 cm (by decide)
  have g3 := CM.cw E cm (by decide)
  have g4 := CM.cim E cm (by decide)
  have hR2 : RLT x nw kp rd m w im I5 := by unfold RLT; omega
  refine k_pop C rfl rfl rfl ?_
  refine k_goto C (pc2 := 1899) rfl rfl ?_
  exact K _ _ _ _ _ h7 hR2 (by omega) (by omega) (List.forall_mem_cons.mpr ⟨List.mem_of_getElem? (i := 0) rfl, List.forall_mem_cons.mpr ⟨List.mem_of_getElem? (i := 1) rfl, List.forall_mem_cons.mpr ⟨List.mem_of_getElem? (i := 2) rfl, List.forall_mem_cons.mpr ⟨List.mem_of_getElem? (i := 3) rfl, List.forall_mem_cons.mpr ⟨List.mem_of_getElem? (i := 4) rfl, fun _ h => nomatch h⟩⟩⟩⟩⟩)

set_option maxRecDepth 100000 in
set_option maxHeartbeats 4000000 in
theorem lc_2 {V : V_T} {b x nw kp rd al m w im o Ln i : Nat} {xs : Nat → Int32} {T N : Nat → Nat} {I : IT} {L : LT} {R : RT} {A B : Nat → Prop} {ck sk : Nat} (C : Cl 40 q_law 601024 7293033 law_Po V) (S : SB V) (hL : LSc V b Ln xs) (E : LW T N R A B x nw kp rd al m w im o) (hi : i + 6 ≤ Ln) (hLn : Ln ≤ 3072) (hLI : LI T R A m I) (hRL : RLT x nw kp rd m w im I) (hck : ck + 3 ≤ 601024) (hsk : sk + 18 ≤ 7293033) (K : ∀ (lv : List (Nat × Value)) (I9 : IT) (L9 : LT) (ck9 sk9 : Nat), LI T R A m I9 → RLT x nw kp rd m w im I9 → ck9 ≤ ck + 3 → sk9 ≤ sk + 18 → (∀ z ∈ ([(4, .int (Int32.ofNat i)), (3, .ref o), (2, .ref m), (1, .ref x), (0, .ref b)] : List (Nat × Value)), z ∈ lv) → V 1899 lv [] (T, N, I9, L9, R) ck9 sk9) : V 322 [(4, .int (Int32.ofNat i)), (3, .ref o), (2, .ref m), (1, .ref x), (0, .ref b)] [] (T, N, I, L, R) ck sk := by
  obtain ⟨H_x, H_m, ⟨T_o, N_o, A_o⟩, nAB, Rnw, Rkp, Rrd, hnk, Ral, Ras, Rw, Rim⟩ := id E
  have T_x := H_x.1
  have T_m := H_m.1
  have hB := True.intro
  refine k_aload_n C rfl rfl rfl ?_
  refine k_aload_n C rfl rfl rfl ?_
  refine k_iload C rfl rfl rfl ?_
  refine k_iconst C (x := 1) rfl rfl rfl ?_
  refine k_iadd C rfl rfl ?_
  refine hL.1 _ _ _ _ _ _ _ rfl (vsk hi hLn (c := 1) (by decide)) ?_
  have hbd := LI.bd E hLI
  refine c_SI C (v_L_field hLI.1 H_x Rnw Rkp Rrd hnk) rfl rfl rfl rfl rfl rfl rfl (by omega) (by omega) (Nat.le_of_ble_eq_true rfl) ?_
  rintro x3 I1 L2 ⟨⟨h1, h2, c1⟩, hc⟩
  have h4 := LI.cls hLI H_m nAB h1 h2
  have s1 := SM.fr E h2
  rcases hc with ⟨rfl, q0, q1, q2, q3, q4, q5⟩ | ⟨rfl, q0, q1, q2, q3, q4, q5, q6⟩ | ⟨rfl, q0, q1, q2, q3, q4, q5, q6⟩
  · skip
    have f1 := CI.hrd E c1 (by decide)
    have f3 := CI.x3 E c1 (by decide)
    refine k_istore C (lw := [(5, .int _), (4, .int _), (3, _), (2, _), (1, _), (0, _)]) rfl rfl (Nat.le_of_ble_eq_true rfl) rfl ?_
    refine k_aload_n C rfl rfl rfl ?_
    refine k_aload_n C rfl rfl rfl ?_
    refine k_iload C rfl rfl rfl ?_
    refine k_iconst C (x := 1) rfl rfl rfl ?_
    refine k_iadd C rfl rfl ?_
    refine hL.1 _ _ _ _ _ _ _ rfl (vsk hi hLn (c := 1) (by decide)) ?_
    refine c_VV C (a_X12_field_e h4.2.1 H_m) rfl rfl rfl rfl rfl ⟨_, rfl, rfl, H_m.1, Nat.le_of_ble_eq_true rfl⟩ rfl rfl (by omega) (by omega) (Nat.le_of_ble_eq_true rfl) ?_
    rintro  I5 L6 ⟨s9, p1, p2, hM9, cm⟩
    have h7 := LI.ref h4 H_m nAB hM9 cm (by decide) (by decide) (fun w hw => s9 w hw (h4.2.2.1 w hw))
    have s2 := SC.cm E cm
    unfold SC at s2
    unfold SM at s1
    have hR9 := hRL
    unfold RLT at hR9
    have g1 := CM.m11 cm (by decide)
    have g2 := CM.m3 cm (by decide)
    have g4 := CM.cim E cm (by decide)
    have p1 := p1 w Rw
    have p2 := p2 w Rw
    have g5 := congrArg Int32.toInt (p2 1 (by decide))
    have g6 := congrArg Int32.toInt (p2 2 (by decide))
    have hR2 : RLT x nw kp rd m w im I5 := by unfold RLT; omega
    refine k_goto C (pc2 := 1899) rfl rfl ?_
    exact K _ _ _ _ _ h7 hR2 (by omega) (by omega) (List.forall_mem_cons.mpr ⟨List.mem_of_getElem? (i := 1) rfl, List.forall_mem_cons.mpr ⟨List.mem_of_getElem? (i := 2) rfl, List.forall_mem_cons.mpr ⟨List.mem_of_getElem? (i := 3) rfl, List.forall_mem_cons.mpr ⟨List.mem_of_getElem? (i := 4) rfl, List.forall_mem_cons.mpr ⟨List.mem_of_getElem? (i := 5) rfl, fun _ h => nomatch h⟩⟩⟩⟩⟩)
  · skip
    have f1 := CI.hrd E c1 (by decide)
    have f3 := CI.x3 E c1 (by decide)
    refine k_istore C (lw := [(5, .int _), (4, .int _), (3, _), (2, _), (1, _), (0, _)]) rfl rfl (Nat.le_of_ble_eq_true rfl) rfl ?_
    refine k_aload_n C rfl rfl rfl ?_
    refine k_aload_n C rfl rfl rfl ?_
    refine k_iload C rfl rfl rfl ?_
    refine k_iconst C (x := 1) rfl rfl rfl ?_
    refine k_iadd C rfl rfl ?_
    refine hL.1 _ _ _ _ _ _ _ rfl (vsk hi hLn (c := 1) (by decide)) ?_
    refine c_VV C (a_X12_field_e h4.2.1 H_m) rfl rfl rfl rfl rfl ⟨_, rfl, rfl, H_m.1, Nat.le_of_ble_eq_true rfl⟩ rfl rfl (by omega) (by omega) (Nat.le_of_ble_eq_true rfl) ?_
    rintro  I9 L10 ⟨s9, p1, p2, hM9, cm⟩
    have h11 := LI.ref h4 H_m nAB hM9 cm (by decide) (by decide) (fun w hw => s9 w hw (h4.2.2.1 w hw))
    have s2 := SC.cm E cm
    unfold SC at s2
    unfold SM at s1
    have hR9 := hRL
    unfold RLT at hR9
    have g1 := CM.m11 cm (by decide)
    have g2 := CM.m3 cm (by decide)
    have g4 := CM.cim E cm (by decide)
    have p1 := p1 w Rw
    have p2 := p2 w Rw
    have g5 := congrArg Int32.toInt (p2 1 (by decide))
    have g6 := congrArg Int32.toInt (p2 2 (by decide))
    have hR2 : RLT x nw kp rd m w im I9 := by unfold RLT; omega
    refine k_goto C (pc2 := 1899) rfl rfl ?_
    exact K _ _ _ _ _ h11 hR2 (by omega) (by omega) (List.forall_mem_cons.mpr ⟨List.mem_of_getElem? (i := 1) rfl, List.forall_mem_cons.mpr ⟨List.mem_of_getElem? (i := 2) rfl, List.forall_mem_cons.mpr ⟨List.mem_of_getElem? (i := 3) rfl, List.forall_mem_cons.mpr ⟨List.mem_of_getElem? (i := 4) rfl, List.forall_mem_cons.mpr ⟨List.mem_of_getElem? (i := 5) rfl, fun _ h => nomatch h⟩⟩⟩⟩⟩)
  · skip
    have f1 := CI.hrd E c1 (by decide)
    have f3 := CI.x3 E c1 (by decide)
    refine k_istore C (lw := [(5, .int _), (4, .int _), (3, _), (2, _), (1, _), (0, _)]) rfl rfl (Nat.le_of_ble_eq_true rfl) rfl ?_
    refine k_aload_n C rfl rfl rfl ?_
    refine k_aload_n C rfl rfl rfl ?_
    refine k_iload C rfl rfl rfl ?_
    refine k_iconst C (x := 1) rfl rfl rfl ?_
    refine k_iadd C rfl rfl ?_
    refine hL.1 _ _ _ _ _ _ _ rfl (vsk hi hLn (c := 1) (by decide)) ?_
    refine c_VV C (a_X12_field_e h4.2.1 H_m) rfl rfl rfl rfl rfl ⟨_, rfl, rfl, H_m.1, Nat.le_of_ble_eq_true rfl⟩ rfl rfl (by omega) (by omega) (Nat.le_of_ble_eq_true rfl) ?_
    rintro  I13 L14 ⟨s9, p1, p2, hM9, cm⟩
    have h15 := LI.ref h4 H_m nAB hM9 cm (by decide) (by decide) (fun w hw => s9 w hw (h4.2.2.1 w hw))
    have s2 := SC.cm E cm
    unfold SC at s2
    unfold SM at s1
    have hR9 := hRL
    unfold RLT at hR9
    have g1 := CM.m11 cm (by decide)
    have g2 := CM.m3 cm (by decide)
    have g4 := CM.cim E cm (by decide)
    have p1 := p1 w Rw
    have p2 := p2 w Rw
    have g5 := congrArg Int32.toInt (p2 1 (by decide))
    have g6 := congrArg Int32.toInt (p2 2 (by decide))
    have hR2 : RLT x nw kp rd m w im I13 := by unfold RLT; omega
    refine k_goto C (pc2 := 1899) rfl rfl ?_
    exact K _ _ _ _ _ h15 hR2 (by omega) (by omega) (List.forall_mem_cons.mpr ⟨List.mem_of_getElem? (i := 1) rfl, List.forall_mem_cons.mpr ⟨List.mem_of_getElem? (i := 2) rfl, List.forall_mem_cons.mpr ⟨List.mem_of_getElem? (i := 3) rfl, List.forall_mem_cons.mpr ⟨List.mem_of_getElem? (i := 4) rfl, List.forall_mem_cons.mpr ⟨List.mem_of_getElem? (i := 5) rfl, fun _ h => nomatch h⟩⟩⟩⟩⟩)

set_option maxRecDepth 100000 in
set_option maxHeartbeats 4000000 in
theorem lc_3 {V : V_T} {b x nw kp rd al m w im o Ln i : Nat} {xs : Nat → Int32} {T N : Nat → Nat} {I : IT} {L : LT} {R : RT} {A B : Nat → Prop} {ck sk : Nat} (C : Cl 40 q_law 601024 7293033 law_Po V) (S : SB V) (hL : LSc V b Ln xs) (E : LW T N R A B x nw kp rd al m w im o) (hi : i + 6 ≤ Ln) (hLn : Ln ≤ 3072) (hLI : LI T R A m I) (hRL : RLT x nw kp rd m w im I) (hck : ck + 3 ≤ 601024) (hsk : sk + 18 ≤ 7293033) (K : ∀ (lv : List (Nat × Value)) (I9 : IT) (L9 : LT) (ck9 sk9 : Nat), LI T R A m I9 → RLT x nw kp rd m w im I9 → ck9 ≤ ck + 3 → sk9 ≤ sk + 18 → (∀ z ∈ ([(4, .int (Int32.ofNat i)), (3, .ref o), (2, .ref m), (1, .ref x), (0, .ref b)] : List (Nat × Value)), z ∈ lv) → V 1899 lv [] (T, N, I9, L9, R) ck9 sk9) : V 347 [(4, .int (Int32.ofNat i)), (3, .ref o), (2, .ref m), (1, .ref x), (0, .ref b)] [] (T, N, I, L, R) ck sk := by
  obtain ⟨H_x, H_m, ⟨T_o, N_o, A_o⟩, nAB, Rnw, Rkp, Rrd, hnk, Ral, Ras, Rw, Rim⟩ := id E
  have T_x := H_x.1
  have T_m := H_m.1
  have hB := True.intro
  refine k_aload_n C rfl rfl rfl ?_
  refine k_aload_n C rfl rfl rfl ?_
  have hbd := LI.bd E hLI
  refine c_SI C (v_L_form hLI.1 H_x T_o N_o A_o Rnw Rkp Rrd hnk (by unfold RLT at hRL; omega)) rfl rfl rfl rfl rfl rfl rfl (by omega) (by omega) (Nat.le_of_ble_eq_true rfl) ?_
  rintro x3 I1 L2 ⟨⟨h1, h2, c1⟩, hc⟩
  have h4 := LI.cls hLI H_m nAB h1 h2
  have s1 := SM.fr E h2
  rcases hc with ⟨rfl, r, v1, q0, q1, q2, q3, q4, q5, q6⟩ | ⟨rfl, q0, q1, q2, q3, q4, q5, q6, q7⟩ | ⟨rfl, q0, q1, q2, q3, q4, q5, q6, q7⟩
  · skip
    have f3 := CI.x3 E c1 (by decide)
    refine k_istore C (lw := [(5, .int _), (4, .int _), (3, _), (2, _), (1, _), (0, _)]) rfl rfl (Nat.le_of_ble_eq_true rfl) rfl ?_
    refine k_aload_n C rfl rfl rfl ?_
    refine c_VI C (a_X12_form_e h4.2.1 H_m) rfl rfl rfl rfl rfl ⟨_, rfl, rfl, H_m.1, Nat.le_of_ble_eq_true rfl⟩ rfl rfl (by omega) (by omega) (Nat.le_of_ble_eq_true rfl) ?_
    rintro x8 I5 L6 ⟨p0, p1, s9, p3, p4, p5, p6, p7, hM9, cm⟩
    have h7 := LI.ref h4 H_m nAB hM9 cm (by decide) (by decide) (fun w hw => s9 w hw (h4.2.2.1 w hw))
    have s2 := SC.cm E cm
    unfold SC at s2
    unfold SM at s1
    have hR9 := hRL
    unfold RLT at hR9
    have g2 := CM.m3 cm (by decide)
    have g4 := CM.cim E cm (by decide)
    have p4 := p4 w Rw
    have p5 := p5 w Rw
    have p6 := p6 w Rw
    have p7 := p7 w Rw
    have hR2 : RLT x nw kp rd m w im I5 := by unfold RLT; omega
    refine k_istore C (lw := [(6, .int _), (5, .int _), (4, .int _), (3, _), (2, _), (1, _), (0, _)]) rfl rfl (Nat.le_of_ble_eq_true rfl) rfl ?_
    refine k_goto C (pc2 := 1899) rfl rfl ?_
    exact K _ _ _ _ _ h7 hR2 (by omega) (by omega) (List.forall_mem_cons.mpr ⟨List.mem_of_getElem? (i := 2) rfl, List.forall_mem_cons.mpr ⟨List.mem_of_getElem? (i := 3) rfl, List.forall_mem_cons.mpr ⟨List.mem_of_getElem? (i := 4) rfl, List.forall_mem_cons.mpr ⟨List.mem_of_getElem? (i := 5) rfl, List.forall_mem_cons.mpr ⟨List.mem_of_getElem? (i := 6) rfl, fun _ h => nomatch h⟩⟩⟩⟩⟩)
  · skip
    have f3 := CI.x3 E c1 (by decide)
    refine k_istore C (lw := [(5, .int _), (4, .int _), (3, _), (2, _), (1, _), (0, _)]) rfl rfl (Nat.le_of_ble_eq_true rfl) rfl ?_
    refine k_aload_n C rfl rfl rfl ?_
    refine c_VI C (a_X12_form_e h4.2.1 H_m) rfl rfl rfl rfl rfl ⟨_, rfl, rfl, H_m.1, Nat.le_of_ble_eq_true rfl⟩ rfl rfl (by omega) (by omega) (Nat.le_of_ble_eq_true rfl) ?_
    rintro x13 I10 L11 ⟨p0, p1, s9, p3, p4, p5, p6, p7, hM9, cm⟩
    have h12 := LI.ref h4 H_m nAB hM9 cm (by decide) (by decide) (fun w hw => s9 w hw (h4.2.2.1 w hw))
    have s2 := SC.cm E cm
    unfold SC at s2
    unfold SM at s1
    have hR9 := hRL
    unfold RLT at hR9
    have g2 := CM.m3 cm (by decide)
    have g4 := CM.cim E cm (by decide)
    have p4 := p4 w Rw
    have p5 := p5 w Rw
    have p6 := p6 w Rw
    have p7 := p7 w Rw
    have hR2 : RLT x nw kp rd m w im I10 := by unfold RLT; omega
    refine k_istore C (lw := [(6, .int _), (5, .int _), (4, .int _), (3, _), (2, _), (1, _), (0, _)]) rfl rfl (Nat.le_of_ble_eq_true rfl) rfl ?_
    refine k_goto C (pc2 := 1899) rfl rfl ?_
    exact K _ _ _ _ _ h12 hR2 (by omega) (by omega) (List.forall_mem_cons.mpr ⟨List.mem_of_getElem? (i := 2) rfl, List.forall_mem_cons.mpr ⟨List.mem_of_getElem? (i := 3) rfl, List.forall_mem_cons.mpr ⟨List.mem_of_getElem? (i := 4) rfl, List.forall_mem_cons.mpr ⟨List.mem_of_getElem? (i := 5) rfl, List.forall_mem_cons.mpr ⟨List.mem_of_getElem? (i := 6) rfl, fun _ h => nomatch h⟩⟩⟩⟩⟩)
  · skip
    have f3 := CI.x3 E c1 (by decide)
    refine k_istore C (lw := [(5, .int _), (4, .int _), (3, _), (2, _), (1, _), (0, _)]) rfl rfl (Nat.le_of_ble_eq_true rfl) rfl ?_
    refine k_aload_n C rfl rfl rfl ?_
    refine c_VI C (a_X12_form_e h4.2.1 H_m) rfl rfl rfl rfl rfl ⟨_, rfl, rfl, H_m.1, Nat.le_of_ble_eq_true rfl⟩ rfl rfl (by omega) (by omega) (Nat.le_of_ble_eq_true rfl) ?_
    rintro x18 I15 L16 ⟨p0, p1, s9, p3, p4, p5, p6, p7, hM9, cm⟩
    have h17 := LI.ref h4 H_m nAB hM9 cm (by decide) (by decide) (fun w hw => s9 w hw (h4.2.2.1 w hw))
    have s2 := SC.cm E cm
    unfold SC at s2
    unfold SM at s1
    have hR9 := hRL
    unfold RLT at hR9
    have g2 := CM.m3 cm (by decide)
    have g4 := CM.cim E cm (by decide)
    have p4 := p4 w Rw
    have p5 := p5 w Rw
    have p6 := p6 w Rw
    have p7 := p7 w Rw
    have hR2 : RLT x nw kp rd m w im I15 := by unfold RLT; omega
    refine k_istore C (lw := [(6, .int _), (5, .int _), (4, .int _), (3, _), (2, _), (1, _), (0, _)]) rfl rfl (Nat.le_of_ble_eq_true rfl) rfl ?_
    refine k_goto C (pc2 := 1899) rfl rfl ?_
    exact K _ _ _ _ _ h17 hR2 (by omega) (by omega) (List.forall_mem_cons.mpr ⟨List.mem_of_getElem? (i := 2) rfl, List.forall_mem_cons.mpr ⟨List.mem_of_getElem? (i := 3) rfl, List.forall_mem_cons.mpr ⟨List.mem_of_getElem? (i := 4) rfl, List.forall_mem_cons.mpr ⟨List.mem_of_getElem? (i := 5) rfl, List.forall_mem_cons.mpr ⟨List.mem_of_getElem? (i := 6) rfl, fun _ h => nomatch h⟩⟩⟩⟩⟩)

set_option maxRecDepth 100000 in
set_option maxHeartbeats 4000000 in
theorem lc_4 {V : V_T} {b x nw kp rd al m w im o Ln i : Nat} {xs : Nat → Int32} {T N : Nat → Nat} {I : IT} {L : LT} {R : RT} {A B : Nat → Prop} {ck sk : Nat} (C : Cl 40 q_law 601024 7293033 law_Po V) (S : SB V) (hL : LSc V b Ln xs) (E : LW T N R A B x nw kp rd al m w im o) (hi : i + 6 ≤ Ln) (hLn : Ln ≤ 3072) (hLI : LI T R A m I) (hRL : RLT x nw kp rd m w im I) (hck : ck + 3 ≤ 601024) (hsk : sk + 18 ≤ 7293033) (K : ∀ (lv : List (Nat × Value)) (I9 : IT) (L9 : LT) (ck9 sk9 : Nat), LI T R A m I9 → RLT x nw kp rd m w im I9 → ck9 ≤ ck + 3 → sk9 ≤ sk + 18 → (∀ z ∈ ([(4, .int (Int32.ofNat i)), (3, .ref o), (2, .ref m), (1, .ref x), (0, .ref b)] : List (Nat × Value)), z ∈ lv) → V 1899 lv [] (T, N, I9, L9, R) ck9 sk9) : V 363 [(4, .int (Int32.ofNat i)), (3, .ref o), (2, .ref m), (1, .ref x), (0, .ref b)] [] (T, N, I, L, R) ck sk := by
  obtain ⟨H_x, H_m, ⟨T_o, N_o, A_o⟩, nAB, Rnw, Rkp, Rrd, hnk, Ral, Ras, Rw, Rim⟩ := id E
  have T_x := H_x.1
  have T_m := H_m.1
  have hB := True.intro
  refine k_aload_n C rfl rfl rfl ?_
  refine k_aload_n C rfl rfl rfl ?_
  refine k_iload C rfl rfl rfl ?_
  refine k_iconst C (x := 1) rfl rfl rfl ?_
  refine k_iadd C rfl rfl ?_
  refine hL.1 _ _ _ _ _ _ _ rfl (vsk hi hLn (c := 1) (by decide)) ?_
  refine k_aload_n C rfl rfl rfl ?_
  refine k_iload C rfl rfl rfl ?_
  refine k_iconst C (x := 2) rfl rfl rfl ?_
  refine k_iadd C rfl rfl ?_
  refine hL.1 _ _ _ _ _ _ _ rfl (vsk hi hLn (c := 2) (by decide)) ?_
  refine k_aload_n C rfl rfl rfl ?_
  refine k_iload C rfl rfl rfl ?_
  refine k_iconst C (x := 3) rfl rfl rfl ?_
  refine k_iadd C rfl rfl ?_
  refine hL.1 _ _ _ _ _ _ _ rfl (vsk hi hLn (c := 3) (by decide)) ?_
  refine k_aload_n C rfl rfl rfl ?_
  refine k_iload C rfl rfl rfl ?_
  refine k_iconst C (x := 4) rfl rfl rfl ?_
  refine k_iadd C rfl rfl ?_
  refine hL.1 _ _ _ _ _ _ _ rfl (vsk hi hLn (c := 4) (by decide)) ?_
  refine k_aload_n C rfl rfl rfl ?_
  have hbd := LI.bd E hLI
  refine c_SI C (v_L_table hLI.1 H_x T_o N_o A_o Rnw Rkp Rrd hnk Ral Ras (by unfold RLT at hRL; omega)) rfl rfl rfl rfl rfl rfl rfl (by omega) (by omega) (Nat.le_of_ble_eq_true rfl) ?_
  rintro x3 I1 L2 ⟨⟨h1, h2, c1⟩, hc⟩
  have h4 := LI.cls hLI H_m nAB h1 h2
  have s1 := SM.fr E h2
  rcases hc with ⟨rfl, r, v1, q0, q1, q2, q3, q4, q5⟩ | ⟨rfl, q0, q1, q2, q3, q4, q5, q6⟩ | ⟨rfl, q0, q1, q2, q3, q4, q5, q6⟩
  · skip
    have f1 := CI.hrd E c1 (by decide)
    have f3 := CI.x3 E c1 (by decide)
    refine k_istore C (lw := [(5, .int _), (4, .int _), (3, _), (2, _), (1, _), (0, _)]) rfl rfl (Nat.le_of_ble_eq_true rfl) rfl ?_
    refine k_aload_n C rfl rfl rfl ?_
    refine k_aload_n C rfl rfl rfl ?_
    refine k_iload C rfl rfl rfl ?_
    refine k_iconst C (x := 1) rfl rfl rfl ?_
    refine k_iadd C rfl rfl ?_
    refine hL.1 _ _ _ _ _ _ _ rfl (vsk hi hLn (c := 1) (by decide)) ?_
    refine k_aload_n C rfl rfl rfl ?_
    refine k_iload C rfl rfl rfl ?_
    refine k_iconst C (x := 2) rfl rfl rfl ?_
    refine k_iadd C rfl rfl ?_
    refine hL.1 _ _ _ _ _ _ _ rfl (vsk hi hLn (c := 2) (by decide)) ?_
    refine k_aload_n C rfl rfl rfl ?_
    refine k_iload C rfl rfl rfl ?_
    refine k_iconst C (x := 3) rfl rfl rfl ?_
    refine k_iadd C rfl rfl ?_
    refine hL.1 _ _ _ _ _ _ _ rfl (vsk hi hLn (c := 3) (by decide)) ?_
    refine k_aload_n C rfl rfl rfl ?_
    refine k_iload C rfl rfl rfl ?_
    refine k_iconst C (x := 4) rfl rfl rfl ?_
    refine k_iadd C rfl rfl ?_
    refine hL.1 _ _ _ _ _ _ _ rfl (vsk hi hLn (c := 4) (by decide)) ?_
    refine c_VI C (a_X12_table_e h4.2.1 H_m) rfl rfl rfl rfl rfl ⟨_, rfl, rfl, H_m.1, Nat.le_of_ble_eq_true rfl⟩ rfl rfl (by omega) (by omega) (Nat.le_of_ble_eq_true rfl) ?_
    rintro x8 I5 L6 ⟨p0, p1, s9, p3, p4, hM9, cm⟩
    have h7 := LI.ref h4 H_m nAB hM9 cm (by decide) (by decide) (fun w hw => s9 w hw (h4.2.2.1 w hw))
    have s2 := SC.cm E cm
    unfold SC at s2
    unfold SM at s1
    have hR9 := hRL
    unfold RLT at hR9
    have epw : (I1 w 0).toInt = (I nw 0).toInt := by omega
    have g1 := CM.m11 cm (by decide)
    have g2 := CM.m3 cm (by decide)
    have g4 := CM.cim E cm (by decide)
    have p3 := p3 w Rw
    have ed := dtR_eq (p := (I1 w 0).toInt) (a := (xs (Int32.ofNat i + 1).toNatClampNeg).toInt) (b := (xs (Int32.ofNat i + 2).toNatClampNeg).toInt) (c := (xs (Int32.ofNat i + 3).toNatClampNeg).toInt) (d := (xs (Int32.ofNat i + 4).toNatClampNeg).toInt) (by omega)
    rw [ed, epw] at p3
    unfold TBD at p3
    have p4 := p4 w Rw
    have g5 := congrArg Int32.toInt (p4 0 (by decide))
    have g6 := congrArg Int32.toInt (p4 1 (by decide))
    have hR2 : RLT x nw kp rd m w im I5 := by unfold RLT; omega
    refine k_istore C (lw := [(6, .int _), (5, .int _), (4, .int _), (3, _), (2, _), (1, _), (0, _)]) rfl rfl (Nat.le_of_ble_eq_true rfl) rfl ?_
    refine k_goto C (pc2 := 1899) rfl rfl ?_
    exact K _ _ _ _ _ h7 hR2 (by omega) (by omega) (List.forall_mem_cons.mpr ⟨List.mem_of_getElem? (i := 2) rfl, List.forall_mem_cons.mpr ⟨List.mem_of_getElem? (i := 3) rfl, List.forall_mem_cons.mpr ⟨List.mem_of_getElem? (i := 4) rfl, List.forall_mem_cons.mpr ⟨List.mem_of_getElem? (i := 5) rfl, List.forall_mem_cons.mpr ⟨List.mem_of_getElem? (i := 6) rfl, fun _ h => nomatch h⟩⟩⟩⟩⟩)
  · skip
    have f1 := CI.hrd E c1 (by decide)
    have f3 := CI.x3 E c1 (by decide)
    refine k_istore C (lw := [(5, .int _), (4, .int _), (3, _), (2, _), (1, _), (0, _)]) rfl rfl (Nat.le_of_ble_eq_true rfl) rfl ?_
    refine k_aload_n C rfl rfl rfl ?_
    refine k_aload_n C rfl rfl rfl ?_
    refine k_iload C rfl rfl rfl ?_
    refine k_iconst C (x := 1) rfl rfl rfl ?_
    refine k_iadd C rfl rfl ?_
    refine hL.1 _ _ _ _ _ _ _ rfl (vsk hi hLn (c := 1) (by decide)) ?_
    refine k_aload_n C rfl rfl rfl ?_
    refine k_iload C rfl rfl rfl ?_
    refine k_iconst C (x := 2) rfl rfl rfl ?_
    refine k_iadd C rfl rfl ?_
    refine hL.1 _ _ _ _ _ _ _ rfl (vsk hi hLn (c := 2) (by decide)) ?_
    refine k_aload_n C rfl rfl rfl ?_
    refine k_iload C rfl rfl rfl ?_
    refine k_iconst C (x := 3) rfl rfl rfl ?_
    refine k_iadd C rfl rfl ?_
    refine hL.1 _ _ _ _ _ _ _ rfl (vsk hi hLn (c := 3) (by decide)) ?_
    refine k_aload_n C rfl rfl rfl ?_
    refine k_iload C rfl rfl rfl ?_
    refine k_iconst C (x := 4) rfl rfl rfl ?_
    refine k_iadd C rfl rfl ?_
    refine hL.1 _ _ _ _ _ _ _ rfl (vsk hi hLn (c := 4) (by decide)) ?_
    refine c_VI C (a_X12_table_e h4.2.1 H_m) rfl rfl rfl rfl rfl ⟨_, rfl, rfl, H_m.1, Nat.le_of_ble_eq_true rfl⟩ rfl rfl (by omega) (by omega) (Nat.le_of_ble_eq_true rfl) ?_
    rintro x13 I10 L11 ⟨p0, p1, s9, p3, p4, hM9, cm⟩
    have h12 := LI.ref h4 H_m nAB hM9 cm (by decide) (by decide) (fun w hw => s9 w hw (h4.2.2.1 w hw))
    have s2 := SC.cm E cm
    unfold SC at s2
    unfold SM at s1
    have hR9 := hRL
    unfold RLT at hR9
    have epw : (I1 w 0).toInt = (I nw 0).toInt := by omega
    have g1 := CM.m11 cm (by decide)
    have g2 := CM.m3 cm (by decide)
    have g4 := CM.cim E cm (by decide)
    have p3 := p3 w Rw
    have ed := dtR_eq (p := (I1 w 0).toInt) (a := (xs (Int32.ofNat i + 1).toNatClampNeg).toInt) (b := (xs (Int32.ofNat i + 2).toNatClampNeg).toInt) (c := (xs (Int32.ofNat i + 3).toNatClampNeg).toInt) (d := (xs (Int32.ofNat i + 4).toNatClampNeg).toInt) (by omega)
    rw [ed, epw] at p3
    unfold TBD at p3
    have p4 := p4 w Rw
    have g5 := congrArg Int32.toInt (p4 0 (by decide))
    have g6 := congrArg Int32.toInt (p4 1 (by decide))
    have hR2 : RLT x nw kp rd m w im I10 := by unfold RLT; omega
    refine k_istore C (lw := [(6, .int _), (5, .int _), (4, .int _), (3, _), (2, _), (1, _), (0, _)]) rfl rfl (Nat.le_of_ble_eq_true rfl) rfl ?_
    refine k_goto C (pc2 := 1899) rfl rfl ?_
    exact K _ _ _ _ _ h12 hR2 (by omega) (by omega) (List.forall_mem_cons.mpr ⟨List.mem_of_getElem? (i := 2) rfl, List.forall_mem_cons.mpr ⟨List.mem_of_getElem? (i := 3) rfl, List.forall_mem_cons.mpr ⟨List.mem_of_getElem? (i := 4) rfl, List.forall_mem_cons.mpr ⟨List.mem_of_getElem? (i := 5) rfl, List.forall_mem_cons.mpr ⟨List.mem_of_getElem? (i := 6) rfl, fun _ h => nomatch h⟩⟩⟩⟩⟩)
  · skip
    have f1 := CI.hrd E c1 (by decide)
    have f3 := CI.x3 E c1 (by decide)
    refine k_istore C (lw := [(5, .int _), (4, .int _), (3, _), (2, _), (1, _), (0, _)]) rfl rfl (Nat.le_of_ble_eq_true rfl) rfl ?_
    refine k_aload_n C rfl rfl rfl ?_
    refine k_aload_n C rfl rfl rfl ?_
    refine k_iload C rfl rfl rfl ?_
    refine k_iconst C (x := 1) rfl rfl rfl ?_
    refine k_iadd C rfl rfl ?_
    refine hL.1 _ _ _ _ _ _ _ rfl (vsk hi hLn (c := 1) (by decide)) ?_
    refine k_aload_n C rfl rfl rfl ?_
    refine k_iload C rfl rfl rfl ?_
    refine k_iconst C (x := 2) rfl rfl rfl ?_
    refine k_iadd C rfl rfl ?_
    refine hL.1 _ _ _ _ _ _ _ rfl (vsk hi hLn (c := 2) (by decide)) ?_
    refine k_aload_n C rfl rfl rfl ?_
    refine k_iload C rfl rfl rfl ?_
    refine k_iconst C (x := 3) rfl rfl rfl ?_
    refine k_iadd C rfl rfl ?_
    refine hL.1 _ _ _ _ _ _ _ rfl (vsk hi hLn (c := 3) (by decide)) ?_
    refine k_aload_n C rfl rfl rfl ?_
    refine k_iload C rfl rfl rfl ?_
    refine k_iconst C (x := 4) rfl rfl rfl ?_
    refine k_iadd C rfl rfl ?_
    refine hL.1 _ _ _ _ _ _ _ rfl (vsk hi hLn (c := 4) (by decide)) ?_
    refine c_VI C (a_X12_table_e h4.2.1 H_m) rfl rfl rfl rfl rfl ⟨_, rfl, rfl, H_m.1, Nat.le_of_ble_eq_true rfl⟩ rfl rfl (by omega) (by omega) (Nat.le_of_ble_eq_true rfl) ?_
    rintro x18 I15 L16 ⟨p0, p1, s9, p3, p4, hM9, cm⟩
    have h17 := LI.ref h4 H_m nAB hM9 cm (by decide) (by decide) (fun w hw => s9 w hw (h4.2.2.1 w hw))
    have s2 := SC.cm E cm
    unfold SC at s2
    unfold SM at s1
    have hR9 := hRL
    unfold RLT at hR9
    have epw : (I1 w 0).toInt = (I nw 0).toInt := by omega
    have g1 := CM.m11 cm (by decide)
    have g2 := CM.m3 cm (by decide)
    have g4 := CM.cim E cm (by decide)
    have p3 := p3 w Rw
    have ed := dtR_eq (p := (I1 w 0).toInt) (a := (xs (Int32.ofNat i + 1).toNatClampNeg).toInt) (b := (xs (Int32.ofNat i + 2).toNatClampNeg).toInt) (c := (xs (Int32.ofNat i + 3).toNatClampNeg).toInt) (d := (xs (Int32.ofNat i + 4).toNatClampNeg).toInt) (by omega)
    rw [ed, epw] at p3
    unfold TBD at p3
    have p4 := p4 w Rw
    have g5 := congrArg Int32.toInt (p4 0 (by decide))
    have g6 := congrArg Int32.toInt (p4 1 (by decide))
    have hR2 : RLT x nw kp rd m w im I15 := by unfold RLT; omega
    refine k_istore C (lw := [(6, .int _), (5, .int _), (4, .int _), (3, _), (2, _), (1, _), (0, _)]) rfl rfl (Nat.le_of_ble_eq_true rfl) rfl ?_
    refine k_goto C (pc2 := 1899) rfl rfl ?_
    exact K _ _ _ _ _ h17 hR2 (by omega) (by omega) (List.forall_mem_cons.mpr ⟨List.mem_of_getElem? (i := 2) rfl, List.forall_mem_cons.mpr ⟨List.mem_of_getElem? (i := 3) rfl, List.forall_mem_cons.mpr ⟨List.mem_of_getElem? (i := 4) rfl, List.forall_mem_cons.mpr ⟨List.mem_of_getElem? (i := 5) rfl, List.forall_mem_cons.mpr ⟨List.mem_of_getElem? (i := 6) rfl, fun _ h => nomatch h⟩⟩⟩⟩⟩)

set_option maxRecDepth 100000 in
set_option maxHeartbeats 4000000 in
theorem lc_5 {V : V_T} {b x nw kp rd al m w im o Ln i : Nat} {xs : Nat → Int32} {T N : Nat → Nat} {I : IT} {L : LT} {R : RT} {A B : Nat → Prop} {ck sk : Nat} (C : Cl 40 q_law 601024 7293033 law_Po V) (S : SB V) (hL : LSc V b Ln xs) (E : LW T N R A B x nw kp rd al m w im o) (hi : i + 6 ≤ Ln) (hLn : Ln ≤ 3072) (hLI : LI T R A m I) (hRL : RLT x nw kp rd m w im I) (hck : ck + 3 ≤ 601024) (hsk : sk + 18 ≤ 7293033) (K : ∀ (lv : List (Nat × Value)) (I9 : IT) (L9 : LT) (ck9 sk9 : Nat), LI T R A m I9 → RLT x nw kp rd m w im I9 → ck9 ≤ ck + 3 → sk9 ≤ sk + 18 → (∀ z ∈ ([(4, .int (Int32.ofNat i)), (3, .ref o), (2, .ref m), (1, .ref x), (0, .ref b)] : List (Nat × Value)), z ∈ lv) → V 1899 lv [] (T, N, I9, L9, R) ck9 sk9) : V 427 [(4, .int (Int32.ofNat i)), (3, .ref o), (2, .ref m), (1, .ref x), (0, .ref b)] [] (T, N, I, L, R) ck sk := by
  obtain ⟨H_x, H_m, ⟨T_o, N_o, A_o⟩, nAB, Rnw, Rkp, Rrd, hnk, Ral, Ras, Rw, Rim⟩ := id E
  have T_x := H_x.1
  have T_m := H_m.1
  have hB := True.intro
  refine k_aload_n C rfl rfl rfl ?_
  refine k_aload_n C rfl rfl rfl ?_
  have hbd := LI.bd E hLI
  refine c_SI C (v_L_signs hLI.1 H_x T_o N_o A_o Rnw Rkp Rrd hnk) rfl rfl rfl rfl rfl rfl rfl (by omega) (by omega) (Nat.le_of_ble_eq_true rfl) ?_
  rintro x3 I1 L2 ⟨⟨h1, h2, c1⟩, hc⟩
  have h4 := LI.cls hLI H_m nAB h1 h2
  have s1 := SM.fr E h2
  rcases hc with ⟨rfl, r, v1, q0, q1, q2, q3, q4, q5, q6⟩ | ⟨rfl, q0, q1, q2, q3, q4, q5, q6⟩ | ⟨rfl, q0, q1, q2, q3, q4, q5, q6⟩
  · skip
    have f2 := CI.s E c1 (by decide) (by decide) (by decide)
    have f3 := CI.x3 E c1 (by decide)
    refine k_istore C (lw := [(5, .int _), (4, .int _), (3, _), (2, _), (1, _), (0, _)]) rfl rfl (Nat.le_of_ble_eq_true rfl) rfl ?_
    refine k_aload_n C rfl rfl rfl ?_
    refine c_VI C (a_X12_signs_e h4.2.1 H_m) rfl rfl rfl rfl rfl ⟨_, rfl, rfl, H_m.1, Nat.le_of_ble_eq_true rfl⟩ rfl rfl (by omega) (by omega) (Nat.le_of_ble_eq_true rfl) ?_
    rintro x8 I5 L6 ⟨p0, p1, s9, p3, p4, p5, p6, hM9, cm⟩
    have h7 := LI.ref h4 H_m nAB hM9 cm (by decide) (by decide) (fun w hw => s9 w hw (h4.2.2.1 w hw))
    have s2 := SC.cm E cm
    unfold SC at s2
    unfold SM at s1
    have hR9 := hRL
    unfold RLT at hR9
    have g2 := CM.m3 cm (by decide)
    have g4 := CM.cim E cm (by decide)
    have p4 := p4 w Rw
    have p5 := p5 w Rw
    have p6 := p6 w Rw
    have hR2 : RLT x nw kp rd m w im I5 := by unfold RLT; omega
    refine k_istore C (lw := [(6, .int _), (5, .int _), (4, .int _), (3, _), (2, _), (1, _), (0, _)]) rfl rfl (Nat.le_of_ble_eq_true rfl) rfl ?_
    refine k_goto C (pc2 := 1899) rfl rfl ?_
    exact K _ _ _ _ _ h7 hR2 (by omega) (by omega) (List.forall_mem_cons.mpr ⟨List.mem_of_getElem? (i := 2) rfl, List.forall_mem_cons.mpr ⟨List.mem_of_getElem? (i := 3) rfl, List.forall_mem_cons.mpr ⟨List.mem_of_getElem? (i := 4) rfl, List.forall_mem_cons.mpr ⟨List.mem_of_getElem? (i := 5) rfl, List.forall_mem_cons.mpr ⟨List.mem_of_getElem? (i := 6) rfl, fun _ h => nomatch h⟩⟩⟩⟩⟩)
  · skip
    have f2 := CI.s E c1 (by decide) (by decide) (by decide)
    have f3 := CI.x3 E c1 (by decide)
    refine k_istore C (lw := [(5, .int _), (4, .int _), (3, _), (2, _), (1, _), (0, _)]) rfl rfl (Nat.le_of_ble_eq_true rfl) rfl ?_
    refine k_aload_n C rfl rfl rfl ?_
    refine c_VI C (a_X12_signs_e h4.2.1 H_m) rfl rfl rfl rfl rfl ⟨_, rfl, rfl, H_m.1, Nat.le_of_ble_eq_true rfl⟩ rfl rfl (by omega) (by omega) (Nat.le_of_ble_eq_true rfl) ?_
    rintro x13 I10 L11 ⟨p0, p1, s9, p3, p4, p5, p6, hM9, cm⟩
    have h12 := LI.ref h4 H_m nAB hM9 cm (by decide) (by decide) (fun w hw => s9 w hw (h4.2.2.1 w hw))
    have s2 := SC.cm E cm
    unfold SC at s2
    unfold SM at s1
    have hR9 := hRL
    unfold RLT at hR9
    have g2 := CM.m3 cm (by decide)
    have g4 := CM.cim E cm (by decide)
    have p4 := p4 w Rw
    have p5 := p5 w Rw
    have p6 := p6 w Rw
    have hR2 : RLT x nw kp rd m w im I10 := by unfold RLT; omega
    refine k_istore C (lw := [(6, .int _), (5, .int _), (4, .int _), (3, _), (2, _), (1, _), (0, _)]) rfl rfl (Nat.le_of_ble_eq_true rfl) rfl ?_
    refine k_goto C (pc2 := 1899) rfl rfl ?_
    exact K _ _ _ _ _ h12 hR2 (by omega) (by omega) (List.forall_mem_cons.mpr ⟨List.mem_of_getElem? (i := 2) rfl, List.forall_mem_cons.mpr ⟨List.mem_of_getElem? (i := 3) rfl, List.forall_mem_cons.mpr ⟨List.mem_of_getElem? (i := 4) rfl, List.forall_mem_cons.mpr ⟨List.mem_of_getElem? (i := 5) rfl, List.forall_mem_cons.mpr ⟨List.mem_of_getElem? (i := 6) rfl, fun _ h => nomatch h⟩⟩⟩⟩⟩)
  · skip
    have f2 := CI.s E c1 (by decide) (by decide) (by decide)
    have f3 := CI.x3 E c1 (by decide)
    refine k_istore C (lw := [(5, .int _), (4, .int _), (3, _), (2, _), (1, _), (0, _)]) rfl rfl (Nat.le_of_ble_eq_true rfl) rfl ?_
    refine k_aload_n C rfl rfl rfl ?_
    refine c_VI C (a_X12_signs_e h4.2.1 H_m) rfl rfl rfl rfl rfl ⟨_, rfl, rfl, H_m.1, Nat.le_of_ble_eq_true rfl⟩ rfl rfl (by omega) (by omega) (Nat.le_of_ble_eq_true rfl) ?_
    rintro x18 I15 L16 ⟨p0, p1, s9, p3, p4, p5, p6, hM9, cm⟩
    have h17 := LI.ref h4 H_m nAB hM9 cm (by decide) (by decide) (fun w hw => s9 w hw (h4.2.2.1 w hw))
    have s2 := SC.cm E cm
    unfold SC at s2
    unfold SM at s1
    have hR9 := hRL
    unfold RLT at hR9
    have g2 := CM.m3 cm (by decide)
    have g4 := CM.cim E cm (by decide)
    have p4 := p4 w Rw
    have p5 := p5 w Rw
    have p6 := p6 w Rw
    have hR2 : RLT x nw kp rd m w im I15 := by unfold RLT; omega
    refine k_istore C (lw := [(6, .int _), (5, .int _), (4, .int _), (3, _), (2, _), (1, _), (0, _)]) rfl rfl (Nat.le_of_ble_eq_true rfl) rfl ?_
    refine k_goto C (pc2 := 1899) rfl rfl ?_
    exact K _ _ _ _ _ h17 hR2 (by omega) (by omega) (List.forall_mem_cons.mpr ⟨List.mem_of_getElem? (i := 2) rfl, List.forall_mem_cons.mpr ⟨List.mem_of_getElem? (i := 3) rfl, List.forall_mem_cons.mpr ⟨List.mem_of_getElem? (i := 4) rfl, List.forall_mem_cons.mpr ⟨List.mem_of_getElem? (i := 5) rfl, List.forall_mem_cons.mpr ⟨List.mem_of_getElem? (i := 6) rfl, fun _ h => nomatch h⟩⟩⟩⟩⟩)

set_option maxRecDepth 100000 in
set_option maxHeartbeats 4000000 in
theorem lc_6 {V : V_T} {b x nw kp rd al m w im o Ln i : Nat} {xs : Nat → Int32} {T N : Nat → Nat} {I : IT} {L : LT} {R : RT} {A B : Nat → Prop} {ck sk : Nat} (C : Cl 40 q_law 601024 7293033 law_Po V) (S : SB V) (hL : LSc V b Ln xs) (E : LW T N R A B x nw kp rd al m w im o) (hi : i + 6 ≤ Ln) (hLn : Ln ≤ 3072) (hLI : LI T R A m I) (hRL : RLT x nw kp rd m w im I) (hck : ck + 3 ≤ 601024) (hsk : sk + 18 ≤ 7293033) (K : ∀ (lv : List (Nat × Value)) (I9 : IT) (L9 : LT) (ck9 sk9 : Nat), LI T R A m I9 → RLT x nw kp rd m w im I9 → ck9 ≤ ck + 3 → sk9 ≤ sk + 18 → (∀ z ∈ ([(4, .int (Int32.ofNat i)), (3, .ref o), (2, .ref m), (1, .ref x), (0, .ref b)] : List (Nat × Value)), z ∈ lv) → V 1899 lv [] (T, N, I9, L9, R) ck9 sk9) : V 443 [(4, .int (Int32.ofNat i)), (3, .ref o), (2, .ref m), (1, .ref x), (0, .ref b)] [] (T, N, I, L, R) ck sk := by
  obtain ⟨H_x, H_m, ⟨T_o, N_o, A_o⟩, nAB, Rnw, Rkp, Rrd, hnk, Ral, Ras, Rw, Rim⟩ := id E
  have T_x := H_x.1
  have T_m := H_m.1
  have hB := True.intro
  refine k_aload_n C rfl rfl rfl ?_
  refine c_VI C (a_X11_fault hLI.1 H_x) rfl rfl rfl rfl rfl ⟨_, rfl, rfl, H_x.1, Nat.le_of_ble_eq_true rfl⟩ rfl rfl (by omega) (by omega) (Nat.le_of_ble_eq_true rfl) ?_
  rintro x4 _ _ ⟨rfl, rfl⟩
  refine k_pop C rfl rfl rfl ?_
  refine k_aload_n C rfl rfl rfl ?_
  refine c_VI C (a_X12_fault hLI.2.1 H_m) rfl rfl rfl rfl rfl ⟨_, rfl, rfl, H_m.1, Nat.le_of_ble_eq_true rfl⟩ rfl rfl (by omega) (by omega) (Nat.le_of_ble_eq_true rfl) ?_
  rintro x8 I5 L6 ⟨hM9, cm⟩
  have h7 := LI.ref0 hLI H_m nAB hM9 cm (by decide) (by decide) (by decide)
  have h9 := RLT.keep hRL (SC.b E (fun _ _ => rfl)) (by unfold SM; exact ⟨rfl, rfl, rfl, rfl, rfl, rfl, rfl, rfl⟩) (SC.cm E cm) (SM.cm E cm (by decide) (by decide) (by decide) (by decide))
  refine k_pop C rfl rfl rfl ?_
  refine k_goto C (pc2 := 1899) rfl rfl ?_
  exact K _ _ _ _ _ h7 h9 (by omega) (by omega) (List.forall_mem_cons.mpr ⟨List.mem_of_getElem? (i := 0) rfl, List.forall_mem_cons.mpr ⟨List.mem_of_getElem? (i := 1) rfl, List.forall_mem_cons.mpr ⟨List.mem_of_getElem? (i := 2) rfl, List.forall_mem_cons.mpr ⟨List.mem_of_getElem? (i := 3) rfl, List.forall_mem_cons.mpr ⟨List.mem_of_getElem? (i := 4) rfl, fun _ h => nomatch h⟩⟩⟩⟩⟩)

set_option maxRecDepth 100000 in
set_option maxHeartbeats 4000000 in
theorem lc_7 {V : V_T} {b x nw kp rd al m w im o Ln i : Nat} {xs : Nat → Int32} {T N : Nat → Nat} {I : IT} {L : LT} {R : RT} {A B : Nat → Prop} {ck sk : Nat} (C : Cl 40 q_law 601024 7293033 law_Po V) (S : SB V) (hL : LSc V b Ln xs) (E : LW T N R A B x nw kp rd al m w im o) (hi : i + 6 ≤ Ln) (hLn : Ln ≤ 3072) (hLI : LI T R A m I) (hRL : RLT x nw kp rd m w im I) (hck : ck + 3 ≤ 601024) (hsk : sk + 18 ≤ 7293033) (K : ∀ (lv : List (Nat × Value)) (I9 : IT) (L9 : LT) (ck9 sk9 : Nat), LI T R A m I9 → RLT x nw kp rd m w im I9 → ck9 ≤ ck + 3 → sk9 ≤ sk + 18 → (∀ z ∈ ([(4, .int (Int32.ofNat i)), (3, .ref o), (2, .ref m), (1, .ref x), (0, .ref b)] : List (Nat × Value)), z ∈ lv) → V 1899 lv [] (T, N, I9, L9, R) ck9 sk9) : V 456 [(4, .int (Int32.ofNat i)), (3, .ref o), (2, .ref m), (1, .ref x), (0, .ref b)] [] (T, N, I, L, R) ck sk := by
  obtain ⟨H_x, H_m, ⟨T_o, N_o, A_o⟩, nAB, Rnw, Rkp, Rrd, hnk, Ral, Ras, Rw, Rim⟩ := id E
  have T_x := H_x.1
  have T_m := H_m.1
  have hB := True.intro
  refine k_aload_n C rfl rfl rfl ?_
  refine k_aload_n C rfl rfl rfl ?_
  refine k_iload C rfl rfl rfl ?_
  refine k_iconst C (x := 1) rfl rfl rfl ?_
  refine k_iadd C rfl rfl ?_
  refine hL.1 _ _ _ _ _ _ _ rfl (vsk hi hLn (c := 1) (by decide)) ?_
  refine k_aload_n C rfl rfl rfl ?_
  refine k_iload C rfl rfl rfl ?_
  refine k_iconst C (x := 2) rfl rfl rfl ?_
  refine k_iadd C rfl rfl ?_
  refine hL.1 _ _ _ _ _ _ _ rfl (vsk hi hLn (c := 2) (by decide)) ?_
  refine k_aload_n C rfl rfl rfl ?_
  refine c_SI C (w_L_look hLI.1 H_x T_o N_o A_o) rfl rfl rfl rfl rfl rfl rfl (by omega) (by omega) (Nat.le_of_ble_eq_true rfl) ?_
  rintro x3 I1 L2 ⟨h1, h2, c1⟩
  have h4 := LI.cls hLI H_m nAB h1 h2
  have s5 := SC.ci E c1 (by decide) (by decide) (by decide) (by decide) (by decide)
  have s6 := SM.fr E h2
  clear h1 h2 c1
  refine k_istore C (lw := [(5, .int _), (4, .int _), (3, _), (2, _), (1, _), (0, _)]) rfl rfl (Nat.le_of_ble_eq_true rfl) rfl ?_
  refine k_aload_n C rfl rfl rfl ?_
  refine k_aload_n C rfl rfl rfl ?_
  refine k_iload C rfl rfl rfl ?_
  refine k_iconst C (x := 1) rfl rfl rfl ?_
  refine k_iadd C rfl rfl ?_
  refine hL.1 _ _ _ _ _ _ _ rfl (vsk hi hLn (c := 1) (by decide)) ?_
  refine k_aload_n C rfl rfl rfl ?_
  refine k_iload C rfl rfl rfl ?_
  refine k_iconst C (x := 2) rfl rfl rfl ?_
  refine k_iadd C rfl rfl ?_
  refine hL.1 _ _ _ _ _ _ _ rfl (vsk hi hLn (c := 2) (by decide)) ?_
  refine c_VI C (a_X12_look h4.2.1 H_m) rfl rfl rfl rfl rfl ⟨_, rfl, rfl, H_m.1, Nat.le_of_ble_eq_true rfl⟩ rfl rfl (by omega) (by omega) (Nat.le_of_ble_eq_true rfl) ?_
  rintro x10 I7 L8 ⟨p0, p1, hM9, cm⟩
  have h9 := LI.ref0 h4 H_m nAB hM9 cm (by decide) (by decide) (by decide)
  have h11 := RLT.keep hRL s5 s6 (SC.cm E cm) (SM.cm E cm (by decide) (by decide) (by decide) (by decide))
  refine k_istore C (lw := [(6, .int _), (5, .int _), (4, .int _), (3, _), (2, _), (1, _), (0, _)]) rfl rfl (Nat.le_of_ble_eq_true rfl) rfl ?_
  refine k_goto C (pc2 := 1899) rfl rfl ?_
  exact K _ _ _ _ _ h9 h11 (by omega) (by omega) (List.forall_mem_cons.mpr ⟨List.mem_of_getElem? (i := 2) rfl, List.forall_mem_cons.mpr ⟨List.mem_of_getElem? (i := 3) rfl, List.forall_mem_cons.mpr ⟨List.mem_of_getElem? (i := 4) rfl, List.forall_mem_cons.mpr ⟨List.mem_of_getElem? (i := 5) rfl, List.forall_mem_cons.mpr ⟨List.mem_of_getElem? (i := 6) rfl, fun _ h => nomatch h⟩⟩⟩⟩⟩)

set_option maxRecDepth 100000 in
set_option maxHeartbeats 4000000 in
theorem lc_8 {V : V_T} {b x nw kp rd al m w im o Ln i : Nat} {xs : Nat → Int32} {T N : Nat → Nat} {I : IT} {L : LT} {R : RT} {A B : Nat → Prop} {ck sk : Nat} (C : Cl 40 q_law 601024 7293033 law_Po V) (S : SB V) (hL : LSc V b Ln xs) (E : LW T N R A B x nw kp rd al m w im o) (hi : i + 6 ≤ Ln) (hLn : Ln ≤ 3072) (hLI : LI T R A m I) (hRL : RLT x nw kp rd m w im I) (hck : ck + 3 ≤ 601024) (hsk : sk + 18 ≤ 7293033) (K : ∀ (lv : List (Nat × Value)) (I9 : IT) (L9 : LT) (ck9 sk9 : Nat), LI T R A m I9 → RLT x nw kp rd m w im I9 → ck9 ≤ ck + 3 → sk9 ≤ sk + 18 → (∀ z ∈ ([(4, .int (Int32.ofNat i)), (3, .ref o), (2, .ref m), (1, .ref x), (0, .ref b)] : List (Nat × Value)), z ∈ lv) → V 1899 lv [] (T, N, I9, L9, R) ck9 sk9) : V 496 [(4, .int (Int32.ofNat i)), (3, .ref o), (2, .ref m), (1, .ref x), (0, .ref b)] [] (T, N, I, L, R) ck sk := by
  obtain ⟨H_x, H_m, ⟨T_o, N_o, A_o⟩, nAB, Rnw, Rkp, Rrd, hnk, Ral, Ras, Rw, Rim⟩ := id E
  have T_x := H_x.1
  have T_m := H_m.1
  have hB := True.intro
  refine k_aload_n C rfl rfl rfl ?_
  refine k_aload_n C rfl rfl rfl ?_
  refine k_iload C rfl rfl rfl ?_
  refine k_iconst C (x := 1) rfl rfl rfl ?_
  refine k_iadd C rfl rfl ?_
  refine hL.1 _ _ _ _ _ _ _ rfl (vsk hi hLn (c := 1) (by decide)) ?_
  refine k_aload_n C rfl rfl rfl ?_
  refine k_iload C rfl rfl rfl ?_
  refine k_iconst C (x := 2) rfl rfl rfl ?_
  refine k_iadd C rfl rfl ?_
  refine hL.1 _ _ _ _ _ _ _ rfl (vsk hi hLn (c := 2) (by decide)) ?_
  refine k_aload_n C rfl rfl rfl ?_
  refine k_iload C rfl rfl rfl ?_
  refine k_iconst C (x := 3) rfl rfl rfl ?_
  refine k_iadd C rfl rfl ?_
  refine hL.1 _ _ _ _ _ _ _ rfl (vsk hi hLn (c := 3) (by decide)) ?_
  refine k_aload_n C rfl rfl rfl ?_
  refine c_SI C (w_L_at hLI.1 H_x T_o N_o A_o) rfl rfl rfl rfl rfl rfl rfl (by omega) (by omega) (Nat.le_of_ble_eq_true rfl) ?_
  rintro x3 I1 L2 ⟨h1, h2, c1⟩
  have h4 := LI.cls hLI H_m nAB h1 h2
  have s5 := SC.ci E c1 (by decide) (by decide) (by decide) (by decide) (by decide)
  have s6 := SM.fr E h2
  clear h1 h2 c1
  refine k_istore C (lw := [(5, .int _), (4, .int _), (3, _), (2, _), (1, _), (0, _)]) rfl rfl (Nat.le_of_ble_eq_true rfl) rfl ?_
  refine k_aload_n C rfl rfl rfl ?_
  refine k_aload_n C rfl rfl rfl ?_
  refine k_iload C rfl rfl rfl ?_
  refine k_iconst C (x := 1) rfl rfl rfl ?_
  refine k_iadd C rfl rfl ?_
  refine hL.1 _ _ _ _ _ _ _ rfl (vsk hi hLn (c := 1) (by decide)) ?_
  refine k_aload_n C rfl rfl rfl ?_
  refine k_iload C rfl rfl rfl ?_
  refine k_iconst C (x := 2) rfl rfl rfl ?_
  refine k_iadd C rfl rfl ?_
  refine hL.1 _ _ _ _ _ _ _ rfl (vsk hi hLn (c := 2) (by decide)) ?_
  refine k_aload_n C rfl rfl rfl ?_
  refine k_iload C rfl rfl rfl ?_
  refine k_iconst C (x := 3) rfl rfl rfl ?_
  refine k_iadd C rfl rfl ?_
  refine hL.1 _ _ _ _ _ _ _ rfl (vsk hi hLn (c := 3) (by decide)) ?_
  refine c_VI C (a_X12_at h4.2.1 H_m) rfl rfl rfl rfl rfl ⟨_, rfl, rfl, H_m.1, Nat.le_of_ble_eq_true rfl⟩ rfl rfl (by omega) (by omega) (Nat.le_of_ble_eq_true rfl) ?_
  rintro x10 I7 L8 ⟨p0, p1, hM9, cm⟩
  have h9 := LI.ref0 h4 H_m nAB hM9 cm (by decide) (by decide) (by decide)
  have h11 := RLT.keep hRL s5 s6 (SC.cm E cm) (SM.cm E cm (by decide) (by decide) (by decide) (by decide))
  refine k_istore C (lw := [(6, .int _), (5, .int _), (4, .int _), (3, _), (2, _), (1, _), (0, _)]) rfl rfl (Nat.le_of_ble_eq_true rfl) rfl ?_
  refine k_goto C (pc2 := 1899) rfl rfl ?_
  exact K _ _ _ _ _ h9 h11 (by omega) (by omega) (List.forall_mem_cons.mpr ⟨List.mem_of_getElem? (i := 2) rfl, List.forall_mem_cons.mpr ⟨List.mem_of_getElem? (i := 3) rfl, List.forall_mem_cons.mpr ⟨List.mem_of_getElem? (i := 4) rfl, List.forall_mem_cons.mpr ⟨List.mem_of_getElem? (i := 5) rfl, List.forall_mem_cons.mpr ⟨List.mem_of_getElem? (i := 6) rfl, fun _ h => nomatch h⟩⟩⟩⟩⟩)

set_option maxRecDepth 100000 in
set_option maxHeartbeats 4000000 in
theorem lc_9 {V : V_T} {b x nw kp rd al m w im o Ln i : Nat} {xs : Nat → Int32} {T N : Nat → Nat} {I : IT} {L : LT} {R : RT} {A B : Nat → Prop} {ck sk : Nat} (C : Cl 40 q_law 601024 7293033 law_Po V) (S : SB V) (hL : LSc V b Ln xs) (E : LW T N R A B x nw kp rd al m w im o) (hi : i + 6 ≤ Ln) (hLn : Ln ≤ 3072) (hLI : LI T R A m I) (hRL : RLT x nw kp rd m w im I) (hck : ck + 3 ≤ 601024) (hsk : sk + 18 ≤ 7293033) (K : ∀ (lv : List (Nat × Value)) (I9 : IT) (L9 : LT) (ck9 sk9 : Nat), LI T R A m I9 → RLT x nw kp rd m w im I9 → ck9 ≤ ck + 3 → sk9 ≤ sk + 18 → (∀ z ∈ ([(4, .int (Int32.ofNat i)), (3, .ref o), (2, .ref m), (1, .ref x), (0, .ref b)] : List (Nat × Value)), z ∈ lv) → V 1899 lv [] (T, N, I9, L9, R) ck9 sk9) : V 548 [(4, .int (Int32.ofNat i)), (3, .ref o), (2, .ref m), (1, .ref x), (0, .ref b)] [] (T, N, I, L, R) ck sk := by
  obtain ⟨H_x, H_m, ⟨T_o, N_o, A_o⟩, nAB, Rnw, Rkp, Rrd, hnk, Ral, Ras, Rw, Rim⟩ := id E
  have T_x := H_x.1
  have T_m := H_m.1
  have hB := True.intro
  refine k_aload_n C rfl rfl rfl ?_
  refine k_aload_n C rfl rfl rfl ?_
  refine k_iload C rfl rfl rfl ?_
  refine k_iconst C (x := 1) rfl rfl rfl ?_
  refine k_iadd C rfl rfl ?_
  refine hL.1 _ _ _ _ _ _ _ rfl (vsk hi hLn (c := 1) (by decide)) ?_
  refine k_aload_n C rfl rfl rfl ?_
  refine c_SI C (w_L_det hLI.1 H_x T_o N_o A_o) rfl rfl rfl rfl rfl rfl rfl (by omega) (by omega) (Nat.le_of_ble_eq_true rfl) ?_
  rintro x3 I1 L2 ⟨h1, h2, c1⟩
  have h4 := LI.cls hLI H_m nAB h1 h2
  have s5 := SC.ci E c1 (by decide) (by decide) (by decide) (by decide) (by decide)
  have s6 := SM.fr E h2
  clear h1 h2 c1
  refine k_istore C (lw := [(5, .int _), (4, .int _), (3, _), (2, _), (1, _), (0, _)]) rfl rfl (Nat.le_of_ble_eq_true rfl) rfl ?_
  refine k_aload_n C rfl rfl rfl ?_
  refine k_aload_n C rfl rfl rfl ?_
  refine k_iload C rfl rfl rfl ?_
  refine k_iconst C (x := 1) rfl rfl rfl ?_
  refine k_iadd C rfl rfl ?_
  refine hL.1 _ _ _ _ _ _ _ rfl (vsk hi hLn (c := 1) (by decide)) ?_
  refine c_VI C (a_X12_det h4.2.1 H_m) rfl rfl rfl rfl rfl ⟨_, rfl, rfl, H_m.1, Nat.le_of_ble_eq_true rfl⟩ rfl rfl (by omega) (by omega) (Nat.le_of_ble_eq_true rfl) ?_
  rintro x10 I7 L8 ⟨p0, p1, hM9, cm⟩
  have h9 := LI.ref0 h4 H_m nAB hM9 cm (by decide) (by decide) (by decide)
  have h11 := RLT.keep hRL s5 s6 (SC.cm E cm) (SM.cm E cm (by decide) (by decide) (by decide) (by decide))
  refine k_istore C (lw := [(6, .int _), (5, .int _), (4, .int _), (3, _), (2, _), (1, _), (0, _)]) rfl rfl (Nat.le_of_ble_eq_true rfl) rfl ?_
  refine k_goto C (pc2 := 1899) rfl rfl ?_
  exact K _ _ _ _ _ h9 h11 (by omega) (by omega) (List.forall_mem_cons.mpr ⟨List.mem_of_getElem? (i := 2) rfl, List.forall_mem_cons.mpr ⟨List.mem_of_getElem? (i := 3) rfl, List.forall_mem_cons.mpr ⟨List.mem_of_getElem? (i := 4) rfl, List.forall_mem_cons.mpr ⟨List.mem_of_getElem? (i := 5) rfl, List.forall_mem_cons.mpr ⟨List.mem_of_getElem? (i := 6) rfl, fun _ h => nomatch h⟩⟩⟩⟩⟩)

set_option maxRecDepth 100000 in
set_option maxHeartbeats 4000000 in
theorem lc_10 {V : V_T} {b x nw kp rd al m w im o Ln i : Nat} {xs : Nat → Int32} {T N : Nat → Nat} {I : IT} {L : LT} {R : RT} {A B : Nat → Prop} {ck sk : Nat} (C : Cl 40 q_law 601024 7293033 law_Po V) (S : SB V) (hL : LSc V b Ln xs) (E : LW T N R A B x nw kp rd al m w im o) (hi : i + 6 ≤ Ln) (hLn : Ln ≤ 3072) (hLI : LI T R A m I) (hRL : RLT x nw kp rd m w im I) (hck : ck + 3 ≤ 601024) (hsk : sk + 18 ≤ 7293033) (K : ∀ (lv : List (Nat × Value)) (I9 : IT) (L9 : LT) (ck9 sk9 : Nat), LI T R A m I9 → RLT x nw kp rd m w im I9 → ck9 ≤ ck + 3 → sk9 ≤ sk + 18 → (∀ z ∈ ([(4, .int (Int32.ofNat i)), (3, .ref o), (2, .ref m), (1, .ref x), (0, .ref b)] : List (Nat × Value)), z ∈ lv) → V 1899 lv [] (T, N, I9, L9, R) ck9 sk9) : V 576 [(4, .int (Int32.ofNat i)), (3, .ref o), (2, .ref m), (1, .ref x), (0, .ref b)] [] (T, N, I, L, R) ck sk := by
  obtain ⟨H_x, H_m, ⟨T_o, N_o, A_o⟩, nAB, Rnw, Rkp, Rrd, hnk, Ral, Ras, Rw, Rim⟩ := id E
  have T_x := H_x.1
  have T_m := H_m.1
  have hB := True.intro
  refine k_aload_n C rfl rfl rfl ?_
  refine k_aload_n C rfl rfl rfl ?_
  refine k_iload C rfl rfl rfl ?_
  refine k_iconst C (x := 1) rfl rfl rfl ?_
  refine k_iadd C rfl rfl ?_
  refine hL.1 _ _ _ _ _ _ _ rfl (vsk hi hLn (c := 1) (by decide)) ?_
  refine k_aload_n C rfl rfl rfl ?_
  refine k_iload C rfl rfl rfl ?_
  refine k_iconst C (x := 2) rfl rfl rfl ?_
  refine k_iadd C rfl rfl ?_
  refine hL.1 _ _ _ _ _ _ _ rfl (vsk hi hLn (c := 2) (by decide)) ?_
  refine k_aload_n C rfl rfl rfl ?_
  refine c_SI C (w_L_mix hLI.1 H_x T_o N_o A_o) rfl rfl rfl rfl rfl rfl rfl (by omega) (by omega) (Nat.le_of_ble_eq_true rfl) ?_
  rintro x3 I1 L2 ⟨h1, h2, c1⟩
  have h4 := LI.cls hLI H_m nAB h1 h2
  have s5 := SC.ci E c1 (by decide) (by decide) (by decide) (by decide) (by decide)
  have s6 := SM.fr E h2
  clear h1 h2 c1
  refine k_istore C (lw := [(5, .int _), (4, .int _), (3, _), (2, _), (1, _), (0, _)]) rfl rfl (Nat.le_of_ble_eq_true rfl) rfl ?_
  refine k_aload_n C rfl rfl rfl ?_
  refine k_aload_n C rfl rfl rfl ?_
  refine k_iload C rfl rfl rfl ?_
  refine k_iconst C (x := 1) rfl rfl rfl ?_
  refine k_iadd C rfl rfl ?_
  refine hL.1 _ _ _ _ _ _ _ rfl (vsk hi hLn (c := 1) (by decide)) ?_
  refine k_aload_n C rfl rfl rfl ?_
  refine k_iload C rfl rfl rfl ?_
  refine k_iconst C (x := 2) rfl rfl rfl ?_
  refine k_iadd C rfl rfl ?_
  refine hL.1 _ _ _ _ _ _ _ rfl (vsk hi hLn (c := 2) (by decide)) ?_
  refine c_VI C (a_X12_mix_e h4.2.1 H_m) rfl rfl rfl rfl rfl ⟨_, rfl, rfl, H_m.1, Nat.le_of_ble_eq_true rfl⟩ rfl rfl (by omega) (by omega) (Nat.le_of_ble_eq_true rfl) ?_
  rintro x10 I7 L8 ⟨p0, p1, s9, p3, hM9, cm⟩
  have h9 := LI.ref h4 H_m nAB hM9 cm (by decide) (by decide) (fun w hw => s9 w hw (h4.2.2.1 w hw))
  have h11 := RLT.keep hRL s5 s6 (SC.cm E cm) (SM.xr E cm (by decide) (by decide) (by decide) p3)
  refine k_istore C (lw := [(6, .int _), (5, .int _), (4, .int _), (3, _), (2, _), (1, _), (0, _)]) rfl rfl (Nat.le_of_ble_eq_true rfl) rfl ?_
  refine k_goto C (pc2 := 1899) rfl rfl ?_
  exact K _ _ _ _ _ h9 h11 (by omega) (by omega) (List.forall_mem_cons.mpr ⟨List.mem_of_getElem? (i := 2) rfl, List.forall_mem_cons.mpr ⟨List.mem_of_getElem? (i := 3) rfl, List.forall_mem_cons.mpr ⟨List.mem_of_getElem? (i := 4) rfl, List.forall_mem_cons.mpr ⟨List.mem_of_getElem? (i := 5) rfl, List.forall_mem_cons.mpr ⟨List.mem_of_getElem? (i := 6) rfl, fun _ h => nomatch h⟩⟩⟩⟩⟩)

set_option maxRecDepth 100000 in
set_option maxHeartbeats 4000000 in
theorem lc_11 {V : V_T} {b x nw kp rd al m w im o Ln i : Nat} {xs : Nat → Int32} {T N : Nat → Nat} {I : IT} {L : LT} {R : RT} {A B : Nat → Prop} {ck sk : Nat} (C : Cl 40 q_law 601024 7293033 law_Po V) (S : SB V) (hL : LSc V b Ln xs) (E : LW T N R A B x nw kp rd al m w im o) (hi : i + 6 ≤ Ln) (hLn : Ln ≤ 3072) (hLI : LI T R A m I) (hRL : RLT x nw kp rd m w im I) (hck : ck + 3 ≤ 601024) (hsk : sk + 18 ≤ 7293033) (K : ∀ (lv : List (Nat × Value)) (I9 : IT) (L9 : LT) (ck9 sk9 : Nat), LI T R A m I9 → RLT x nw kp rd m w im I9 → ck9 ≤ ck + 3 → sk9 ≤ sk + 18 → (∀ z ∈ ([(4, .int (Int32.ofNat i)), (3, .ref o), (2, .ref m), (1, .ref x), (0, .ref b)] : List (Nat × Value)), z ∈ lv) → V 1899 lv [] (T, N, I9, L9, R) ck9 sk9) : V 616 [(4, .int (Int32.ofNat i)), (3, .ref o), (2, .ref m), (1, .ref x), (0, .ref b)] [] (T, N, I, L, R) ck sk := by
  obtain ⟨H_x, H_m, ⟨T_o, N_o, A_o⟩, nAB, Rnw, Rkp, Rrd, hnk, Ral, Ras, Rw, Rim⟩ := id E
  have T_x := H_x.1
  have T_m := H_m.1
  have hB := True.intro
  refine k_aload_n C rfl rfl rfl ?_
  refine c_VI C (a_X11_undo hLI.1 H_x) rfl rfl rfl rfl rfl ⟨_, rfl, rfl, H_x.1, Nat.le_of_ble_eq_true rfl⟩ rfl rfl (by omega) (by omega) (Nat.le_of_ble_eq_true rfl) ?_
  rintro x4 I1 L2 ⟨h1, h2⟩
  have h3 := LI.cls hLI H_m nAB h1 h2.1
  have s5 := SC.ci E (show CI T _ I I1 from h2.2) (by decide) (by decide) (by decide) (by decide) (by decide)
  have s6 := SM.fr E h2.1
  clear h1 h2
  refine k_pop C rfl rfl rfl ?_
  refine k_aload_n C rfl rfl rfl ?_
  refine c_VI C (a_X12_undo_e h3.2.1 H_m h3.2.2.1) rfl rfl rfl rfl rfl ⟨_, rfl, rfl, H_m.1, Nat.le_of_ble_eq_true rfl⟩ rfl rfl (by omega) (by omega) (Nat.le_of_ble_eq_true rfl) ?_
  rintro x10 I7 L8 ⟨s9, p1, hM9, cm⟩
  have h9 := LI.ref h3 H_m nAB hM9 cm (by decide) (by decide) s9
  have h11 := RLT.keep hRL s5 s6 (SC.cm E cm) (SM.xr E cm (by decide) (by decide) (by decide) p1)
  refine k_pop C rfl rfl rfl ?_
  refine k_goto C (pc2 := 1899) rfl rfl ?_
  exact K _ _ _ _ _ h9 h11 (by omega) (by omega) (List.forall_mem_cons.mpr ⟨List.mem_of_getElem? (i := 0) rfl, List.forall_mem_cons.mpr ⟨List.mem_of_getElem? (i := 1) rfl, List.forall_mem_cons.mpr ⟨List.mem_of_getElem? (i := 2) rfl, List.forall_mem_cons.mpr ⟨List.mem_of_getElem? (i := 3) rfl, List.forall_mem_cons.mpr ⟨List.mem_of_getElem? (i := 4) rfl, fun _ h => nomatch h⟩⟩⟩⟩⟩)

set_option maxRecDepth 100000 in
set_option maxHeartbeats 4000000 in
theorem lc_12 {V : V_T} {b x nw kp rd al m w im o Ln i : Nat} {xs : Nat → Int32} {T N : Nat → Nat} {I : IT} {L : LT} {R : RT} {A B : Nat → Prop} {ck sk : Nat} (C : Cl 40 q_law 601024 7293033 law_Po V) (S : SB V) (hL : LSc V b Ln xs) (E : LW T N R A B x nw kp rd al m w im o) (hi : i + 6 ≤ Ln) (hLn : Ln ≤ 3072) (hLI : LI T R A m I) (hRL : RLT x nw kp rd m w im I) (hck : ck + 3 ≤ 601024) (hsk : sk + 18 ≤ 7293033) (K : ∀ (lv : List (Nat × Value)) (I9 : IT) (L9 : LT) (ck9 sk9 : Nat), LI T R A m I9 → RLT x nw kp rd m w im I9 → ck9 ≤ ck + 3 → sk9 ≤ sk + 18 → (∀ z ∈ ([(4, .int (Int32.ofNat i)), (3, .ref o), (2, .ref m), (1, .ref x), (0, .ref b)] : List (Nat × Value)), z ∈ lv) → V 1899 lv [] (T, N, I9, L9, R) ck9 sk9) : V 629 [(4, .int (Int32.ofNat i)), (3, .ref o), (2, .ref m), (1, .ref x), (0, .ref b)] [] (T, N, I, L, R) ck sk := by
  obtain ⟨H_x, H_m, ⟨T_o, N_o, A_o⟩, nAB, Rnw, Rkp, Rrd, hnk, Ral, Ras, Rw, Rim⟩ := id E
  have T_x := H_x.1
  have T_m := H_m.1
  have hB := True.intro
  refine k_aload_n C rfl rfl rfl ?_
  refine c_VI C (a_X11_redo hLI.1 H_x) rfl rfl rfl rfl rfl ⟨_, rfl, rfl, H_x.1, Nat.le_of_ble_eq_true rfl⟩ rfl rfl (by omega) (by omega) (Nat.le_of_ble_eq_true rfl) ?_
  rintro x4 I1 L2 ⟨h1, h2⟩
  have h3 := LI.cls hLI H_m nAB h1 h2.1
  have s5 := SC.ci E (show CI T _ I I1 from h2.2) (by decide) (by decide) (by decide) (by decide) (by decide)
  have s6 := SM.fr E h2.1
  clear h1 h2
  refine k_pop C rfl rfl rfl ?_
  refine k_aload_n C rfl rfl rfl ?_
  refine c_VI C (a_X12_redo_e h3.2.1 H_m h3.2.2.1) rfl rfl rfl rfl rfl ⟨_, rfl, rfl, H_m.1, Nat.le_of_ble_eq_true rfl⟩ rfl rfl (by omega) (by omega) (Nat.le_of_ble_eq_true rfl) ?_
  rintro x10 I7 L8 ⟨s9, p1, hM9, cm⟩
  have h9 := LI.ref h3 H_m nAB hM9 cm (by decide) (by decide) s9
  have h11 := RLT.keep hRL s5 s6 (SC.cm E cm) (SM.xr E cm (by decide) (by decide) (by decide) p1)
  refine k_pop C rfl rfl rfl ?_
  refine k_goto C (pc2 := 1899) rfl rfl ?_
  exact K _ _ _ _ _ h9 h11 (by omega) (by omega) (List.forall_mem_cons.mpr ⟨List.mem_of_getElem? (i := 0) rfl, List.forall_mem_cons.mpr ⟨List.mem_of_getElem? (i := 1) rfl, List.forall_mem_cons.mpr ⟨List.mem_of_getElem? (i := 2) rfl, List.forall_mem_cons.mpr ⟨List.mem_of_getElem? (i := 3) rfl, List.forall_mem_cons.mpr ⟨List.mem_of_getElem? (i := 4) rfl, fun _ h => nomatch h⟩⟩⟩⟩⟩)

set_option maxRecDepth 100000 in
set_option maxHeartbeats 4000000 in
theorem lc_13 {V : V_T} {b x nw kp rd al m w im o Ln i : Nat} {xs : Nat → Int32} {T N : Nat → Nat} {I : IT} {L : LT} {R : RT} {A B : Nat → Prop} {ck sk : Nat} (C : Cl 40 q_law 601024 7293033 law_Po V) (S : SB V) (hL : LSc V b Ln xs) (E : LW T N R A B x nw kp rd al m w im o) (hi : i + 6 ≤ Ln) (hLn : Ln ≤ 3072) (hLI : LI T R A m I) (hRL : RLT x nw kp rd m w im I) (hck : ck + 3 ≤ 601024) (hsk : sk + 18 ≤ 7293033) (K : ∀ (lv : List (Nat × Value)) (I9 : IT) (L9 : LT) (ck9 sk9 : Nat), LI T R A m I9 → RLT x nw kp rd m w im I9 → ck9 ≤ ck + 3 → sk9 ≤ sk + 18 → (∀ z ∈ ([(4, .int (Int32.ofNat i)), (3, .ref o), (2, .ref m), (1, .ref x), (0, .ref b)] : List (Nat × Value)), z ∈ lv) → V 1899 lv [] (T, N, I9, L9, R) ck9 sk9) : V 642 [(4, .int (Int32.ofNat i)), (3, .ref o), (2, .ref m), (1, .ref x), (0, .ref b)] [] (T, N, I, L, R) ck sk := by
  obtain ⟨H_x, H_m, ⟨T_o, N_o, A_o⟩, nAB, Rnw, Rkp, Rrd, hnk, Ral, Ras, Rw, Rim⟩ := id E
  have T_x := H_x.1
  have T_m := H_m.1
  have hB := True.intro
  refine k_aload_n C rfl rfl rfl ?_
  refine k_aload_n C rfl rfl rfl ?_
  refine k_iload C rfl rfl rfl ?_
  refine k_iconst C (x := 1) rfl rfl rfl ?_
  refine k_iadd C rfl rfl ?_
  refine hL.1 _ _ _ _ _ _ _ rfl (vsk hi hLn (c := 1) (by decide)) ?_
  refine k_aload_n C rfl rfl rfl ?_
  refine k_iload C rfl rfl rfl ?_
  refine k_iconst C (x := 2) rfl rfl rfl ?_
  refine k_iadd C rfl rfl ?_
  refine hL.1 _ _ _ _ _ _ _ rfl (vsk hi hLn (c := 2) (by decide)) ?_
  refine k_aload_n C rfl rfl rfl ?_
  refine k_iload C rfl rfl rfl ?_
  refine k_iconst C (x := 3) rfl rfl rfl ?_
  refine k_iadd C rfl rfl ?_
  refine hL.1 _ _ _ _ _ _ _ rfl (vsk hi hLn (c := 3) (by decide)) ?_
  refine k_aload_n C rfl rfl rfl ?_
  refine c_SI C (w_L_value hLI.1 H_x T_o N_o A_o) rfl rfl rfl rfl rfl rfl rfl (by omega) (by omega) (Nat.le_of_ble_eq_true rfl) ?_
  rintro x3 I1 L2 ⟨h1, h2, c1⟩
  have h4 := LI.cls hLI H_m nAB h1 h2
  have s5 := SC.ci E c1 (by decide) (by decide) (by decide) (by decide) (by decide)
  have s6 := SM.fr E h2
  clear h1 h2 c1
  refine k_istore C (lw := [(5, .int _), (4, .int _), (3, _), (2, _), (1, _), (0, _)]) rfl rfl (Nat.le_of_ble_eq_true rfl) rfl ?_
  refine k_aload_n C rfl rfl rfl ?_
  refine k_aload_n C rfl rfl rfl ?_
  refine k_iload C rfl rfl rfl ?_
  refine k_iconst C (x := 1) rfl rfl rfl ?_
  refine k_iadd C rfl rfl ?_
  refine hL.1 _ _ _ _ _ _ _ rfl (vsk hi hLn (c := 1) (by decide)) ?_
  refine k_aload_n C rfl rfl rfl ?_
  refine k_iload C rfl rfl rfl ?_
  refine k_iconst C (x := 2) rfl rfl rfl ?_
  refine k_iadd C rfl rfl ?_
  refine hL.1 _ _ _ _ _ _ _ rfl (vsk hi hLn (c := 2) (by decide)) ?_
  refine k_aload_n C rfl rfl rfl ?_
  refine k_iload C rfl rfl rfl ?_
  refine k_iconst C (x := 3) rfl rfl rfl ?_
  refine k_iadd C rfl rfl ?_
  refine hL.1 _ _ _ _ _ _ _ rfl (vsk hi hLn (c := 3) (by decide)) ?_
  refine c_VI C (a_X12_value h4.2.1 H_m) rfl rfl rfl rfl rfl ⟨_, rfl, rfl, H_m.1, Nat.le_of_ble_eq_true rfl⟩ rfl rfl (by omega) (by omega) (Nat.le_of_ble_eq_true rfl) ?_
  rintro x10 I7 L8 ⟨p0, p1, hM9, cm⟩
  have h9 := LI.ref0 h4 H_m nAB hM9 cm (by decide) (by decide) (by decide)
  have h11 := RLT.keep hRL s5 s6 (SC.cm E cm) (SM.cm E cm (by decide) (by decide) (by decide) (by decide))
  refine k_istore C (lw := [(6, .int _), (5, .int _), (4, .int _), (3, _), (2, _), (1, _), (0, _)]) rfl rfl (Nat.le_of_ble_eq_true rfl) rfl ?_
  refine k_goto C (pc2 := 1899) rfl rfl ?_
  exact K _ _ _ _ _ h9 h11 (by omega) (by omega) (List.forall_mem_cons.mpr ⟨List.mem_of_getElem? (i := 2) rfl, List.forall_mem_cons.mpr ⟨List.mem_of_getElem? (i := 3) rfl, List.forall_mem_cons.mpr ⟨List.mem_of_getElem? (i := 4) rfl, List.forall_mem_cons.mpr ⟨List.mem_of_getElem? (i := 5) rfl, List.forall_mem_cons.mpr ⟨List.mem_of_getElem? (i := 6) rfl, fun _ h => nomatch h⟩⟩⟩⟩⟩)

set_option maxRecDepth 100000 in
set_option maxHeartbeats 4000000 in
theorem lc_14 {V : V_T} {b x nw kp rd al m w im o Ln i : Nat} {xs : Nat → Int32} {T N : Nat → Nat} {I : IT} {L : LT} {R : RT} {A B : Nat → Prop} {ck sk : Nat} (C : Cl 40 q_law 601024 7293033 law_Po V) (S : SB V) (hL : LSc V b Ln xs) (E : LW T N R A B x nw kp rd al m w im o) (hi : i + 6 ≤ Ln) (hLn : Ln ≤ 3072) (hLI : LI T R A m I) (hRL : RLT x nw kp rd m w im I) (hck : ck + 3 ≤ 601024) (hsk : sk + 18 ≤ 7293033) (K : ∀ (lv : List (Nat × Value)) (I9 : IT) (L9 : LT) (ck9 sk9 : Nat), LI T R A m I9 → RLT x nw kp rd m w im I9 → ck9 ≤ ck + 3 → sk9 ≤ sk + 18 → (∀ z ∈ ([(4, .int (Int32.ofNat i)), (3, .ref o), (2, .ref m), (1, .ref x), (0, .ref b)] : List (Nat × Value)), z ∈ lv) → V 1899 lv [] (T, N, I9, L9, R) ck9 sk9) : V 694 [(4, .int (Int32.ofNat i)), (3, .ref o), (2, .ref m), (1, .ref x), (0, .ref b)] [] (T, N, I, L, R) ck sk := by
  obtain ⟨H_x, H_m, ⟨T_o, N_o, A_o⟩, nAB, Rnw, Rkp, Rrd, hnk, Ral, Ras, Rw, Rim⟩ := id E
  have T_x := H_x.1
  have T_m := H_m.1
  have hB := True.intro
  refine k_aload_n C rfl rfl rfl ?_
  refine k_aload_n C rfl rfl rfl ?_
  refine k_iload C rfl rfl rfl ?_
  refine k_iconst C (x := 1) rfl rfl rfl ?_
  refine k_iadd C rfl rfl ?_
  refine hL.1 _ _ _ _ _ _ _ rfl (vsk hi hLn (c := 1) (by decide)) ?_
  refine k_aload_n C rfl rfl rfl ?_
  refine k_iload C rfl rfl rfl ?_
  refine k_iconst C (x := 2) rfl rfl rfl ?_
  refine k_iadd C rfl rfl ?_
  refine hL.1 _ _ _ _ _ _ _ rfl (vsk hi hLn (c := 2) (by decide)) ?_
  refine k_if_eq C (t := 714) rfl rfl rfl (fun c1 => ?_) (fun c1 => ?_)
  · skip
    refine k_iconst C (x := 0) rfl rfl rfl ?_
    refine k_aload_n C rfl rfl rfl ?_
    refine c_SI C (w_L_rank hLI.1 H_x T_o N_o A_o (by decide) (by decide)) rfl rfl rfl rfl rfl rfl rfl (by omega) (by omega) (Nat.le_of_ble_eq_true rfl) ?_
    rintro x4 I2 L3 ⟨h1, h2, c1⟩
    have h5 := LI.cls hLI H_m nAB h1 h2
    have s6 := SC.ci E c1 (by decide) (by decide) (by decide) (by decide) (by decide)
    have s7 := SM.fr E h2
    clear h1 h2 c1
    refine k_istore C (lw := [(5, .int _), (4, .int _), (3, _), (2, _), (1, _), (0, _)]) rfl rfl (Nat.le_of_ble_eq_true rfl) rfl ?_
    refine k_aload_n C rfl rfl rfl ?_
    refine k_aload_n C rfl rfl rfl ?_
    refine k_iload C rfl rfl rfl ?_
    refine k_iconst C (x := 1) rfl rfl rfl ?_
    refine k_iadd C rfl rfl ?_
    refine hL.1 _ _ _ _ _ _ _ rfl (vsk hi hLn (c := 1) (by decide)) ?_
    refine k_aload_n C rfl rfl rfl ?_
    refine k_iload C rfl rfl rfl ?_
    refine k_iconst C (x := 2) rfl rfl rfl ?_
    refine k_iadd C rfl rfl ?_
    refine hL.1 _ _ _ _ _ _ _ rfl (vsk hi hLn (c := 2) (by decide)) ?_
    refine k_if_eq C (t := 741) rfl rfl rfl (fun c8 => ?_) (fun c8 => ?_)
    · skip
      refine k_iconst C (x := 0) rfl rfl rfl ?_
      refine c_VI C (a_X12_rank h5.2.1 H_m (by decide) (by decide)) rfl rfl rfl rfl rfl ⟨_, rfl, rfl, H_m.1, Nat.le_of_ble_eq_true rfl⟩ rfl rfl (by omega) (by omega) (Nat.le_of_ble_eq_true rfl) ?_
      rintro x12 I9 L10 ⟨hM9, cm⟩
      have h11 := LI.ref0 h5 H_m nAB hM9 cm (by decide) (by decide) (by decide)
      have h13 := RLT.keep hRL s6 s7 (SC.cm E cm) (SM.cm E cm (by decide) (by decide) (by decide) (by decide))
      refine k_istore C (lw := [(6, .int _), (5, .int _), (4, .int _), (3, _), (2, _), (1, _), (0, _)]) rfl rfl (Nat.le_of_ble_eq_true rfl) rfl ?_
      refine k_goto C (pc2 := 1899) rfl rfl ?_
      exact K _ _ _ _ _ h11 h13 (by omega) (by omega) (List.forall_mem_cons.mpr ⟨List.mem_of_getElem? (i := 2) rfl, List.forall_mem_cons.mpr ⟨List.mem_of_getElem? (i := 3) rfl, List.forall_mem_cons.mpr ⟨List.mem_of_getElem? (i := 4) rfl, List.forall_mem_cons.mpr ⟨List.mem_of_getElem? (i := 5) rfl, List.forall_mem_cons.mpr ⟨List.mem_of_getElem? (i := 6) rfl, fun _ h => nomatch h⟩⟩⟩⟩⟩)
    exact absurd c1 c8
  refine k_iconst C (x := 1) rfl rfl rfl ?_
  refine k_goto C (pc2 := 715) rfl rfl ?_
  refine k_aload_n C rfl rfl rfl ?_
  refine c_SI C (w_L_rank hLI.1 H_x T_o N_o A_o (by decide) (by decide)) rfl rfl rfl rfl rfl rfl rfl (by omega) (by omega) (Nat.le_of_ble_eq_true rfl) ?_
  rintro x16 I14 L15 ⟨h1, h2, c1⟩
  have h17 := LI.cls hLI H_m nAB h1 h2
  have s18 := SC.ci E c1 (by decide) (by decide) (by decide) (by decide) (by decide)
  have s19 := SM.fr E h2
  clear h1 h2 c1
  refine k_istore C (lw := [(5, .int _), (4, .int _), (3, _), (2, _), (1, _), (0, _)]) rfl rfl (Nat.le_of_ble_eq_true rfl) rfl ?_
  refine k_aload_n C rfl rfl rfl ?_
  refine k_aload_n C rfl rfl rfl ?_
  refine k_iload C rfl rfl rfl ?_
  refine k_iconst C (x := 1) rfl rfl rfl ?_
  refine k_iadd C rfl rfl ?_
  refine hL.1 _ _ _ _ _ _ _ rfl (vsk hi hLn (c := 1) (by decide)) ?_
  refine k_aload_n C rfl rfl rfl ?_
  refine k_iload C rfl rfl rfl ?_
  refine k_iconst C (x := 2) rfl rfl rfl ?_
  refine k_iadd C rfl rfl ?_
  refine hL.1 _ _ _ _ _ _ _ rfl (vsk hi hLn (c := 2) (by decide)) ?_
  refine k_if_eq C (t := 741) rfl rfl rfl (fun c20 => ?_) (fun c20 => ?_)
  · exact absurd c20 c1
  refine k_iconst C (x := 1) rfl rfl rfl ?_
  refine k_goto C (pc2 := 742) rfl rfl ?_
  refine c_VI C (a_X12_rank h17.2.1 H_m (by decide) (by decide)) rfl rfl rfl rfl rfl ⟨_, rfl, rfl, H_m.1, Nat.le_of_ble_eq_true rfl⟩ rfl rfl (by omega) (by omega) (Nat.le_of_ble_eq_true rfl) ?_
  rintro x24 I21 L22 ⟨hM9, cm⟩
  have h23 := LI.ref0 h17 H_m nAB hM9 cm (by decide) (by decide) (by decide)
  have h25 := RLT.keep hRL s18 s19 (SC.cm E cm) (SM.cm E cm (by decide) (by decide) (by decide) (by decide))
  refine k_istore C (lw := [(6, .int _), (5, .int _), (4, .int _), (3, _), (2, _), (1, _), (0, _)]) rfl rfl (Nat.le_of_ble_eq_true rfl) rfl ?_
  refine k_goto C (pc2 := 1899) rfl rfl ?_
  exact K _ _ _ _ _ h23 h25 (by omega) (by omega) (List.forall_mem_cons.mpr ⟨List.mem_of_getElem? (i := 2) rfl, List.forall_mem_cons.mpr ⟨List.mem_of_getElem? (i := 3) rfl, List.forall_mem_cons.mpr ⟨List.mem_of_getElem? (i := 4) rfl, List.forall_mem_cons.mpr ⟨List.mem_of_getElem? (i := 5) rfl, List.forall_mem_cons.mpr ⟨List.mem_of_getElem? (i := 6) rfl, fun _ h => nomatch h⟩⟩⟩⟩⟩)

set_option maxRecDepth 100000 in
set_option maxHeartbeats 4000000 in
theorem lc_15 {V : V_T} {b x nw kp rd al m w im o Ln i : Nat} {xs : Nat → Int32} {T N : Nat → Nat} {I : IT} {L : LT} {R : RT} {A B : Nat → Prop} {ck sk : Nat} (C : Cl 40 q_law 601024 7293033 law_Po V) (S : SB V) (hL : LSc V b Ln xs) (E : LW T N R A B x nw kp rd al m w im o) (hi : i + 6 ≤ Ln) (hLn : Ln ≤ 3072) (hLI : LI T R A m I) (hRL : RLT x nw kp rd m w im I) (hck : ck + 3 ≤ 601024) (hsk : sk + 18 ≤ 7293033) (K : ∀ (lv : List (Nat × Value)) (I9 : IT) (L9 : LT) (ck9 sk9 : Nat), LI T R A m I9 → RLT x nw kp rd m w im I9 → ck9 ≤ ck + 3 → sk9 ≤ sk + 18 → (∀ z ∈ ([(4, .int (Int32.ofNat i)), (3, .ref o), (2, .ref m), (1, .ref x), (0, .ref b)] : List (Nat × Value)), z ∈ lv) → V 1899 lv [] (T, N, I9, L9, R) ck9 sk9) : V 750 [(4, .int (Int32.ofNat i)), (3, .ref o), (2, .ref m), (1, .ref x), (0, .ref b)] [] (T, N, I, L, R) ck sk := by
  obtain ⟨H_x, H_m, ⟨T_o, N_o, A_o⟩, nAB, Rnw, Rkp, Rrd, hnk, Ral, Ras, Rw, Rim⟩ := id E
  have T_x := H_x.1
  have T_m := H_m.1
  have hB := True.intro
  refine k_aload_n C rfl rfl rfl ?_
  refine k_aload_n C rfl rfl rfl ?_
  refine k_iload C rfl rfl rfl ?_
  refine k_iconst C (x := 1) rfl rfl rfl ?_
  refine k_iadd C rfl rfl ?_
  refine hL.1 _ _ _ _ _ _ _ rfl (vsk hi hLn (c := 1) (by decide)) ?_
  refine k_aload_n C rfl rfl rfl ?_
  refine k_iload C rfl rfl rfl ?_
  refine k_iconst C (x := 2) rfl rfl rfl ?_
  refine k_iadd C rfl rfl ?_
  refine hL.1 _ _ _ _ _ _ _ rfl (vsk hi hLn (c := 2) (by decide)) ?_
  refine k_aload_n C rfl rfl rfl ?_
  refine k_iload C rfl rfl rfl ?_
  refine k_iconst C (x := 3) rfl rfl rfl ?_
  refine k_iadd C rfl rfl ?_
  refine hL.1 _ _ _ _ _ _ _ rfl (vsk hi hLn (c := 3) (by decide)) ?_
  refine k_aload_n C rfl rfl rfl ?_
  refine c_SI C (w_L_stays hLI.1 H_x T_o N_o A_o) rfl rfl rfl rfl rfl rfl rfl (by omega) (by omega) (Nat.le_of_ble_eq_true rfl) ?_
  rintro x3 I1 L2 ⟨h1, h2, c1⟩
  have h4 := LI.cls hLI H_m nAB h1 h2
  have s5 := SC.ci E c1 (by decide) (by decide) (by decide) (by decide) (by decide)
  have s6 := SM.fr E h2
  clear h1 h2 c1
  refine k_istore C (lw := [(5, .int _), (4, .int _), (3, _), (2, _), (1, _), (0, _)]) rfl rfl (Nat.le_of_ble_eq_true rfl) rfl ?_
  refine k_aload_n C rfl rfl rfl ?_
  refine k_aload_n C rfl rfl rfl ?_
  refine k_iload C rfl rfl rfl ?_
  refine k_iconst C (x := 1) rfl rfl rfl ?_
  refine k_iadd C rfl rfl ?_
  refine hL.1 _ _ _ _ _ _ _ rfl (vsk hi hLn (c := 1) (by decide)) ?_
  refine k_aload_n C rfl rfl rfl ?_
  refine k_iload C rfl rfl rfl ?_
  refine k_iconst C (x := 2) rfl rfl rfl ?_
  refine k_iadd C rfl rfl ?_
  refine hL.1 _ _ _ _ _ _ _ rfl (vsk hi hLn (c := 2) (by decide)) ?_
  refine k_aload_n C rfl rfl rfl ?_
  refine k_iload C rfl rfl rfl ?_
  refine k_iconst C (x := 3) rfl rfl rfl ?_
  refine k_iadd C rfl rfl ?_
  refine hL.1 _ _ _ _ _ _ _ rfl (vsk hi hLn (c := 3) (by decide)) ?_
  refine c_VI C (a_X12_stays h4.2.1 H_m) rfl rfl rfl rfl rfl ⟨_, rfl, rfl, H_m.1, Nat.le_of_ble_eq_true rfl⟩ rfl rfl (by omega) (by omega) (Nat.le_of_ble_eq_true rfl) ?_
  rintro x10 I7 L8 ⟨p0, p1, hM9, cm⟩
  have h9 := LI.ref0 h4 H_m nAB hM9 cm (by decide) (by decide) (by decide)
  have h11 := RLT.keep hRL s5 s6 (SC.cm E cm) (SM.cm E cm (by decide) (by decide) (by decide) (by decide))
  refine k_istore C (lw := [(6, .int _), (5, .int _), (4, .int _), (3, _), (2, _), (1, _), (0, _)]) rfl rfl (Nat.le_of_ble_eq_true rfl) rfl ?_
  refine k_goto C (pc2 := 1899) rfl rfl ?_
  exact K _ _ _ _ _ h9 h11 (by omega) (by omega) (List.forall_mem_cons.mpr ⟨List.mem_of_getElem? (i := 2) rfl, List.forall_mem_cons.mpr ⟨List.mem_of_getElem? (i := 3) rfl, List.forall_mem_cons.mpr ⟨List.mem_of_getElem? (i := 4) rfl, List.forall_mem_cons.mpr ⟨List.mem_of_getElem? (i := 5) rfl, List.forall_mem_cons.mpr ⟨List.mem_of_getElem? (i := 6) rfl, fun _ h => nomatch h⟩⟩⟩⟩⟩)

set_option maxRecDepth 100000 in
set_option maxHeartbeats 4000000 in
theorem lc_16 {V : V_T} {b x nw kp rd al m w im o Ln i : Nat} {xs : Nat → Int32} {T N : Nat → Nat} {I : IT} {L : LT} {R : RT} {A B : Nat → Prop} {ck sk : Nat} (C : Cl 40 q_law 601024 7293033 law_Po V) (S : SB V) (hL : LSc V b Ln xs) (E : LW T N R A B x nw kp rd al m w im o) (hi : i + 6 ≤ Ln) (hLn : Ln ≤ 3072) (hLI : LI T R A m I) (hRL : RLT x nw kp rd m w im I) (hck : ck + 3 ≤ 601024) (hsk : sk + 18 ≤ 7293033) (K : ∀ (lv : List (Nat × Value)) (I9 : IT) (L9 : LT) (ck9 sk9 : Nat), LI T R A m I9 → RLT x nw kp rd m w im I9 → ck9 ≤ ck + 3 → sk9 ≤ sk + 18 → (∀ z ∈ ([(4, .int (Int32.ofNat i)), (3, .ref o), (2, .ref m), (1, .ref x), (0, .ref b)] : List (Nat × Value)), z ∈ lv) → V 1899 lv [] (T, N, I9, L9, R) ck9 sk9) : V 802 [(4, .int (Int32.ofNat i)), (3, .ref o), (2, .ref m), (1, .ref x), (0, .ref b)] [] (T, N, I, L, R) ck sk := by
  obtain ⟨H_x, H_m, ⟨T_o, N_o, A_o⟩, nAB, Rnw, Rkp, Rrd, hnk, Ral, Ras, Rw, Rim⟩ := id E
  have T_x := H_x.1
  have T_m := H_m.1
  have hB := True.intro
  refine k_aload_n C rfl rfl rfl ?_
  refine k_aload_n C rfl rfl rfl ?_
  refine k_iload C rfl rfl rfl ?_
  refine k_iconst C (x := 1) rfl rfl rfl ?_
  refine k_iadd C rfl rfl ?_
  refine hL.1 _ _ _ _ _ _ _ rfl (vsk hi hLn (c := 1) (by decide)) ?_
  refine k_aload_n C rfl rfl rfl ?_
  refine k_iload C rfl rfl rfl ?_
  refine k_iconst C (x := 2) rfl rfl rfl ?_
  refine k_iadd C rfl rfl ?_
  refine hL.1 _ _ _ _ _ _ _ rfl (vsk hi hLn (c := 2) (by decide)) ?_
  refine k_aload_n C rfl rfl rfl ?_
  refine k_iload C rfl rfl rfl ?_
  refine k_iconst C (x := 3) rfl rfl rfl ?_
  refine k_iadd C rfl rfl ?_
  refine hL.1 _ _ _ _ _ _ _ rfl (vsk hi hLn (c := 3) (by decide)) ?_
  refine k_aload_n C rfl rfl rfl ?_
  refine c_SI C (w_L_agree hLI.1 H_x T_o N_o A_o) rfl rfl rfl rfl rfl rfl rfl (by omega) (by omega) (Nat.le_of_ble_eq_true rfl) ?_
  rintro x3 I1 L2 ⟨h1, h2, c1⟩
  have h4 := LI.cls hLI H_m nAB h1 h2
  have s5 := SC.ci E c1 (by decide) (by decide) (by decide) (by decide) (by decide)
  have s6 := SM.fr E h2
  clear h1 h2 c1
  refine k_istore C (lw := [(5, .int _), (4, .int _), (3, _), (2, _), (1, _), (0, _)]) rfl rfl (Nat.le_of_ble_eq_true rfl) rfl ?_
  refine k_aload_n C rfl rfl rfl ?_
  refine k_aload_n C rfl rfl rfl ?_
  refine k_iload C rfl rfl rfl ?_
  refine k_iconst C (x := 1) rfl rfl rfl ?_
  refine k_iadd C rfl rfl ?_
  refine hL.1 _ _ _ _ _ _ _ rfl (vsk hi hLn (c := 1) (by decide)) ?_
  refine k_aload_n C rfl rfl rfl ?_
  refine k_iload C rfl rfl rfl ?_
  refine k_iconst C (x := 2) rfl rfl rfl ?_
  refine k_iadd C rfl rfl ?_
  refine hL.1 _ _ _ _ _ _ _ rfl (vsk hi hLn (c := 2) (by decide)) ?_
  refine k_aload_n C rfl rfl rfl ?_
  refine k_iload C rfl rfl rfl ?_
  refine k_iconst C (x := 3) rfl rfl rfl ?_
  refine k_iadd C rfl rfl ?_
  refine hL.1 _ _ _ _ _ _ _ rfl (vsk hi hLn (c := 3) (by decide)) ?_
  refine c_VI C (a_X12_agree h4.2.1 H_m) rfl rfl rfl rfl rfl ⟨_, rfl, rfl, H_m.1, Nat.le_of_ble_eq_true rfl⟩ rfl rfl (by omega) (by omega) (Nat.le_of_ble_eq_true rfl) ?_
  rintro x10 I7 L8 ⟨p0, p1, hM9, cm⟩
  have h9 := LI.ref0 h4 H_m nAB hM9 cm (by decide) (by decide) (by decide)
  have h11 := RLT.keep hRL s5 s6 (SC.cm E cm) (SM.cm E cm (by decide) (by decide) (by decide) (by decide))
  refine k_istore C (lw := [(6, .int _), (5, .int _), (4, .int _), (3, _), (2, _), (1, _), (0, _)]) rfl rfl (Nat.le_of_ble_eq_true rfl) rfl ?_
  refine k_goto C (pc2 := 1899) rfl rfl ?_
  exact K _ _ _ _ _ h9 h11 (by omega) (by omega) (List.forall_mem_cons.mpr ⟨List.mem_of_getElem? (i := 2) rfl, List.forall_mem_cons.mpr ⟨List.mem_of_getElem? (i := 3) rfl, List.forall_mem_cons.mpr ⟨List.mem_of_getElem? (i := 4) rfl, List.forall_mem_cons.mpr ⟨List.mem_of_getElem? (i := 5) rfl, List.forall_mem_cons.mpr ⟨List.mem_of_getElem? (i := 6) rfl, fun _ h => nomatch h⟩⟩⟩⟩⟩)

set_option maxRecDepth 100000 in
set_option maxHeartbeats 4000000 in
theorem lc_17 {V : V_T} {b x nw kp rd al m w im o Ln i : Nat} {xs : Nat → Int32} {T N : Nat → Nat} {I : IT} {L : LT} {R : RT} {A B : Nat → Prop} {ck sk : Nat} (C : Cl 40 q_law 601024 7293033 law_Po V) (S : SB V) (hL : LSc V b Ln xs) (E : LW T N R A B x nw kp rd al m w im o) (hi : i + 6 ≤ Ln) (hLn : Ln ≤ 3072) (hLI : LI T R A m I) (hRL : RLT x nw kp rd m w im I) (hck : ck + 3 ≤ 601024) (hsk : sk + 18 ≤ 7293033) (K : ∀ (lv : List (Nat × Value)) (I9 : IT) (L9 : LT) (ck9 sk9 : Nat), LI T R A m I9 → RLT x nw kp rd m w im I9 → ck9 ≤ ck + 3 → sk9 ≤ sk + 18 → (∀ z ∈ ([(4, .int (Int32.ofNat i)), (3, .ref o), (2, .ref m), (1, .ref x), (0, .ref b)] : List (Nat × Value)), z ∈ lv) → V 1899 lv [] (T, N, I9, L9, R) ck9 sk9) : V 854 [(4, .int (Int32.ofNat i)), (3, .ref o), (2, .ref m), (1, .ref x), (0, .ref b)] [] (T, N, I, L, R) ck sk := by
  obtain ⟨H_x, H_m, ⟨T_o, N_o, A_o⟩, nAB, Rnw, Rkp, Rrd, hnk, Ral, Ras, Rw, Rim⟩ := id E
  have T_x := H_x.1
  have T_m := H_m.1
  have hB := True.intro
  refine k_aload_n C rfl rfl rfl ?_
  refine k_aload_n C rfl rfl rfl ?_
  refine k_iload C rfl rfl rfl ?_
  refine k_iconst C (x := 1) rfl rfl rfl ?_
  refine k_iadd C rfl rfl ?_
  refine hL.1 _ _ _ _ _ _ _ rfl (vsk hi hLn (c := 1) (by decide)) ?_
  refine k_aload_n C rfl rfl rfl ?_
  refine k_iload C rfl rfl rfl ?_
  refine k_iconst C (x := 2) rfl rfl rfl ?_
  refine k_iadd C rfl rfl ?_
  refine hL.1 _ _ _ _ _ _ _ rfl (vsk hi hLn (c := 2) (by decide)) ?_
  refine k_aload_n C rfl rfl rfl ?_
  refine k_iload C rfl rfl rfl ?_
  refine k_iconst C (x := 3) rfl rfl rfl ?_
  refine k_iadd C rfl rfl ?_
  refine hL.1 _ _ _ _ _ _ _ rfl (vsk hi hLn (c := 3) (by decide)) ?_
  refine k_aload_n C rfl rfl rfl ?_
  have hB := True.intro
  have T_x := H_x.1
  have T_m := H_m.1
  obtain ⟨rw9, wy, R_x_7, T_rw, R_rw_5, T_wy, N_wy, A_wy⟩ := LF.wy H_x
  obtain ⟨wz, R_m_21, T_wz, N_wz, B_wz⟩ := MD.wz H_m
  have hA : ∀ a, (a = wy ∨ a = o) → A a ∧ (T a = 11 ∨ T a = 21) := by (rintro a (rfl | rfl)); exact ⟨A_wy, Or.inr T_wy⟩; exact ⟨A_o, Or.inr T_o⟩
  by_cases hc : okCnt (xs (Int32.ofNat i + 1).toNatClampNeg) (xs (Int32.ofNat i + 2).toNatClampNeg) (xs (Int32.ofNat i + 3).toNatClampNeg)
  · skip
    obtain ⟨⟨a1, a2⟩, ⟨a3, a4⟩, a5, a6⟩ := hc
    obtain ⟨r, hrI, hr9⟩ := exn (K := 12) (by decide) a1 a2
    obtain ⟨e, heI, he⟩ := exn (K := 8) (by decide) (Int32.le_trans (by decide) a3) a4
    obtain ⟨n, hmI, hm⟩ := exn (K := 96) (by decide) a5 a6
    have he1 : 1 ≤ e := by have q := i_le.mp a3; rw [heI, n_int (by omega)] at q; have e1 : (1 : Int32).toInt = 1 := rfl; omega
    by_cases hq : e * r < n
    · skip
      refine c_SI C (e_L_count_a (A := fun a => a = wy ∨ a = o) T_x R_x_7 T_rw R_rw_5 T_wy N_wy (Or.inl rfl) T_o N_o (Or.inr rfl) hrI heI hmI hr9 he1 he hm hq) rfl rfl rfl rfl rfl rfl rfl (by omega) (by omega) (Nat.le_of_ble_eq_true rfl) ?_
      rintro x4 I1 L2 ⟨rfl, f1, v1⟩
      have h3 := LI.cfr hLI H_m nAB hA f1
      have s5 := SC.ff E hA f1
      have s6 := SM.ff E hA f1
      refine k_istore C (lw := [(5, .int _), (4, .int _), (3, _), (2, _), (1, _), (0, _)]) rfl rfl (Nat.le_of_ble_eq_true rfl) rfl ?_
      refine k_aload_n C rfl rfl rfl ?_
      refine k_aload_n C rfl rfl rfl ?_
      refine k_iload C rfl rfl rfl ?_
      refine k_iconst C (x := 1) rfl rfl rfl ?_
      refine k_iadd C rfl rfl ?_
      refine hL.1 _ _ _ _ _ _ _ rfl (vsk hi hLn (c := 1) (by decide)) ?_
      refine k_aload_n C rfl rfl rfl ?_
      refine k_iload C rfl rfl rfl ?_
      refine k_iconst C (x := 2) rfl rfl rfl ?_
      refine k_iadd C rfl rfl ?_
      refine hL.1 _ _ _ _ _ _ _ rfl (vsk hi hLn (c := 2) (by decide)) ?_
      refine k_aload_n C rfl rfl rfl ?_
      refine k_iload C rfl rfl rfl ?_
      refine k_iconst C (x := 3) rfl rfl rfl ?_
      refine k_iadd C rfl rfl ?_
      refine hL.1 _ _ _ _ _ _ _ rfl (vsk hi hLn (c := 3) (by decide)) ?_
      refine c_VL C (e_m_count_a (A := fun a => a = m ∨ R m 21 = some a ∨ R m 34 = some a) T_m (Or.inl rfl) R_m_21 T_wz N_wz (Or.inr (Or.inl R_m_21)) hrI heI hmI hr9 he1 he hm hq) rfl rfl rfl rfl rfl ⟨_, rfl, rfl, H_m.1, Nat.le_of_ble_eq_true rfl⟩ rfl rfl (by omega) (by omega) (Nat.le_of_ble_eq_true rfl) ?_
      rintro x11 I7 L8 ⟨rfl, f2, z2, k2⟩
      have h9 := LI.rfr h3 H_m nAB hB f2 k2
      have h10 := RLT.keep hRL s5 s6 (SC.rf9 E f2) (SM.rf9 E f2 k2)
      refine k_lstore C (lw := [(6, .long _), (5, .int _), (4, .int _), (3, _), (2, _), (1, _), (0, _)]) rfl rfl (Nat.le_of_ble_eq_true rfl) rfl ?_
      refine k_goto C (pc2 := 1899) rfl rfl ?_
      exact K _ _ _ _ _ h9 h10 (by omega) (by omega) (List.forall_mem_cons.mpr ⟨List.mem_of_getElem? (i := 2) rfl, List.forall_mem_cons.mpr ⟨List.mem_of_getElem? (i := 3) rfl, List.forall_mem_cons.mpr ⟨List.mem_of_getElem? (i := 4) rfl, List.forall_mem_cons.mpr ⟨List.mem_of_getElem? (i := 5) rfl, List.forall_mem_cons.mpr ⟨List.mem_of_getElem? (i := 6) rfl, fun _ h => nomatch h⟩⟩⟩⟩⟩)
    have hge : n ≤ e * r := Nat.le_of_not_lt hq
    by_cases hodd : (e * r - n) % 2 = 1
    · skip
      refine c_SI C (e_L_count_b (A := fun a => a = wy ∨ a = o) T_x R_x_7 T_rw R_rw_5 T_wy N_wy (Or.inl rfl) T_o N_o (Or.inr rfl) hrI heI hmI hr9 he1 he hm hge hodd) rfl rfl rfl rfl rfl rfl rfl (by omega) (by omega) (Nat.le_of_ble_eq_true rfl) ?_
      rintro x15 I12 L13 ⟨rfl, f1, v1⟩
      have h14 := LI.cfr hLI H_m nAB hA f1
      have s16 := SC.ff E hA f1
      have s17 := SM.ff E hA f1
      refine k_istore C (lw := [(5, .int _), (4, .int _), (3, _), (2, _), (1, _), (0, _)]) rfl rfl (Nat.le_of_ble_eq_true rfl) rfl ?_
      refine k_aload_n C rfl rfl rfl ?_
      refine k_aload_n C rfl rfl rfl ?_
      refine k_iload C rfl rfl rfl ?_
      refine k_iconst C (x := 1) rfl rfl rfl ?_
      refine k_iadd C rfl rfl ?_
      refine hL.1 _ _ _ _ _ _ _ rfl (vsk hi hLn (c := 1) (by decide)) ?_
      refine k_aload_n C rfl rfl rfl ?_
      refine k_iload C rfl rfl rfl ?_
      refine k_iconst C (x := 2) rfl rfl rfl ?_
      refine k_iadd C rfl rfl ?_
      refine hL.1 _ _ _ _ _ _ _ rfl (vsk hi hLn (c := 2) (by decide)) ?_
      refine k_aload_n C rfl rfl rfl ?_
      refine k_iload C rfl rfl rfl ?_
      refine k_iconst C (x := 3) rfl rfl rfl ?_
      refine k_iadd C rfl rfl ?_
      refine hL.1 _ _ _ _ _ _ _ rfl (vsk hi hLn (c := 3) (by decide)) ?_
      refine c_VL C (e_m_count_b (A := fun a => a = m ∨ R m 21 = some a ∨ R m 34 = some a) T_m (Or.inl rfl) R_m_21 T_wz N_wz (Or.inr (Or.inl R_m_21)) hrI heI hmI hr9 he1 he hm hge hodd) rfl rfl rfl rfl rfl ⟨_, rfl, rfl, H_m.1, Nat.le_of_ble_eq_true rfl⟩ rfl rfl (by omega) (by omega) (Nat.le_of_ble_eq_true rfl) ?_
      rintro x22 I18 L19 ⟨rfl, f2, z2, k2⟩
      have h20 := LI.rfr h14 H_m nAB hB f2 k2
      have h21 := RLT.keep hRL s16 s17 (SC.rf9 E f2) (SM.rf9 E f2 k2)
      refine k_lstore C (lw := [(6, .long _), (5, .int _), (4, .int _), (3, _), (2, _), (1, _), (0, _)]) rfl rfl (Nat.le_of_ble_eq_true rfl) rfl ?_
      refine k_goto C (pc2 := 1899) rfl rfl ?_
      exact K _ _ _ _ _ h20 h21 (by omega) (by omega) (List.forall_mem_cons.mpr ⟨List.mem_of_getElem? (i := 2) rfl, List.forall_mem_cons.mpr ⟨List.mem_of_getElem? (i := 3) rfl, List.forall_mem_cons.mpr ⟨List.mem_of_getElem? (i := 4) rfl, List.forall_mem_cons.mpr ⟨List.mem_of_getElem? (i := 5) rfl, List.forall_mem_cons.mpr ⟨List.mem_of_getElem? (i := 6) rfl, fun _ h => nomatch h⟩⟩⟩⟩⟩)
    have hev : (e * r - n) % 2 = 0 := by omega
    by_cases hz : (e * r - n) / 2 = 0
    · skip
      refine c_SI C (e_L_count_c (A := fun a => a = wy ∨ a = o) T_x R_x_7 T_rw R_rw_5 T_wy N_wy (Or.inl rfl) T_o N_o (Or.inr rfl) hrI heI hmI hr9 he1 he hm hge hev hz) rfl rfl rfl rfl rfl rfl rfl (by omega) (by omega) (Nat.le_of_ble_eq_true rfl) ?_
      rintro x26 I23 L24 ⟨rfl, f1, v1⟩
      have h25 := LI.cfr hLI H_m nAB hA f1
      have s27 := SC.ff E hA f1
      have s28 := SM.ff E hA f1
      refine k_istore C (lw := [(5, .int _), (4, .int _), (3, _), (2, _), (1, _), (0, _)]) rfl rfl (Nat.le_of_ble_eq_true rfl) rfl ?_
      refine k_aload_n C rfl rfl rfl ?_
      refine k_aload_n C rfl rfl rfl ?_
      refine k_iload C rfl rfl rfl ?_
      refine k_iconst C (x := 1) rfl rfl rfl ?_
      refine k_iadd C rfl rfl ?_
      refine hL.1 _ _ _ _ _ _ _ rfl (vsk hi hLn (c := 1) (by decide)) ?_
      refine k_aload_n C rfl rfl rfl ?_
      refine k_iload C rfl rfl rfl ?_
      refine k_iconst C (x := 2) rfl rfl rfl ?_
      refine k_iadd C rfl rfl ?_
      refine hL.1 _ _ _ _ _ _ _ rfl (vsk hi hLn (c := 2) (by decide)) ?_
      refine k_aload_n C rfl rfl rfl ?_
      refine k_iload C rfl rfl rfl ?_
      refine k_iconst C (x := 3) rfl rfl rfl ?_
      refine k_iadd C rfl rfl ?_
      refine hL.1 _ _ _ _ _ _ _ rfl (vsk hi hLn (c := 3) (by decide)) ?_
      refine c_VL C (e_m_count_c (A := fun a => a = m ∨ R m 21 = some a ∨ R m 34 = some a) T_m (Or.inl rfl) R_m_21 T_wz N_wz (Or.inr (Or.inl R_m_21)) hrI heI hmI hr9 he1 he hm hge hev hz) rfl rfl rfl rfl rfl ⟨_, rfl, rfl, H_m.1, Nat.le_of_ble_eq_true rfl⟩ rfl rfl (by omega) (by omega) (Nat.le_of_ble_eq_true rfl) ?_
      rintro x33 I29 L30 ⟨rfl, f2, z2, k2⟩
      have h31 := LI.rfr h25 H_m nAB hB f2 k2
      have h32 := RLT.keep hRL s27 s28 (SC.rf9 E f2) (SM.rf9 E f2 k2)
      refine k_lstore C (lw := [(6, .long _), (5, .int _), (4, .int _), (3, _), (2, _), (1, _), (0, _)]) rfl rfl (Nat.le_of_ble_eq_true rfl) rfl ?_
      refine k_goto C (pc2 := 1899) rfl rfl ?_
      exact K _ _ _ _ _ h31 h32 (by omega) (by omega) (List.forall_mem_cons.mpr ⟨List.mem_of_getElem? (i := 2) rfl, List.forall_mem_cons.mpr ⟨List.mem_of_getElem? (i := 3) rfl, List.forall_mem_cons.mpr ⟨List.mem_of_getElem? (i := 4) rfl, List.forall_mem_cons.mpr ⟨List.mem_of_getElem? (i := 5) rfl, List.forall_mem_cons.mpr ⟨List.mem_of_getElem? (i := 6) rfl, fun _ h => nomatch h⟩⟩⟩⟩⟩)
    · skip
      refine c_SI C (e_L_count_d (A := fun a => a = wy ∨ a = o) T_x R_x_7 T_rw R_rw_5 T_wy N_wy (Or.inl rfl) T_o N_o (Or.inr rfl) hrI heI hmI hr9 he1 he hm hge hev (Nat.pos_of_ne_zero hz)) rfl rfl rfl rfl rfl rfl rfl (by omega) (by omega) (Nat.le_of_ble_eq_true rfl) ?_
      rintro x37 I34 L35 ⟨rfl, f1, v1⟩
      have h36 := LI.cfr hLI H_m nAB hA f1
      have s38 := SC.ff E hA f1
      have s39 := SM.ff E hA f1
      refine k_istore C (lw := [(5, .int _), (4, .int _), (3, _), (2, _), (1, _), (0, _)]) rfl rfl (Nat.le_of_ble_eq_true rfl) rfl ?_
      refine k_aload_n C rfl rfl rfl ?_
      refine k_aload_n C rfl rfl rfl ?_
      refine k_iload C rfl rfl rfl ?_
      refine k_iconst C (x := 1) rfl rfl rfl ?_
      refine k_iadd C rfl rfl ?_
      refine hL.1 _ _ _ _ _ _ _ rfl (vsk hi hLn (c := 1) (by decide)) ?_
      refine k_aload_n C rfl rfl rfl ?_
      refine k_iload C rfl rfl rfl ?_
      refine k_iconst C (x := 2) rfl rfl rfl ?_
      refine k_iadd C rfl rfl ?_
      refine hL.1 _ _ _ _ _ _ _ rfl (vsk hi hLn (c := 2) (by decide)) ?_
      refine k_aload_n C rfl rfl rfl ?_
      refine k_iload C rfl rfl rfl ?_
      refine k_iconst C (x := 3) rfl rfl rfl ?_
      refine k_iadd C rfl rfl ?_
      refine hL.1 _ _ _ _ _ _ _ rfl (vsk hi hLn (c := 3) (by decide)) ?_
      refine c_VL C (e_m_count_d (A := fun a => a = m ∨ R m 21 = some a ∨ R m 34 = some a) T_m (Or.inl rfl) R_m_21 T_wz N_wz (Or.inr (Or.inl R_m_21)) hrI heI hmI hr9 he1 he hm hge hev (Nat.pos_of_ne_zero hz)) rfl rfl rfl rfl rfl ⟨_, rfl, rfl, H_m.1, Nat.le_of_ble_eq_true rfl⟩ rfl rfl (by omega) (by omega) (Nat.le_of_ble_eq_true rfl) ?_
      rintro x44 I40 L41 ⟨rfl, f2, z2, k2⟩
      have h42 := LI.rfr h36 H_m nAB hB f2 k2
      have h43 := RLT.keep hRL s38 s39 (SC.rf9 E f2) (SM.rf9 E f2 k2)
      refine k_lstore C (lw := [(6, .long _), (5, .int _), (4, .int _), (3, _), (2, _), (1, _), (0, _)]) rfl rfl (Nat.le_of_ble_eq_true rfl) rfl ?_
      refine k_goto C (pc2 := 1899) rfl rfl ?_
      exact K _ _ _ _ _ h42 h43 (by omega) (by omega) (List.forall_mem_cons.mpr ⟨List.mem_of_getElem? (i := 2) rfl, List.forall_mem_cons.mpr ⟨List.mem_of_getElem? (i := 3) rfl, List.forall_mem_cons.mpr ⟨List.mem_of_getElem? (i := 4) rfl, List.forall_mem_cons.mpr ⟨List.mem_of_getElem? (i := 5) rfl, List.forall_mem_cons.mpr ⟨List.mem_of_getElem? (i := 6) rfl, fun _ h => nomatch h⟩⟩⟩⟩⟩)
  · skip
    refine c_SI C (e_L_count_no T_x hc) rfl rfl rfl rfl rfl rfl rfl (by omega) (by omega) (Nat.le_of_ble_eq_true rfl) ?_
    rintro x48 I45 L46 ⟨rfl, hI8, hL9⟩
    have hI8 := hI8.symm; subst hI8; have hL9 := hL9.symm; subst hL9
    refine k_istore C (lw := [(5, .int _), (4, .int _), (3, _), (2, _), (1, _), (0, _)]) rfl rfl (Nat.le_of_ble_eq_true rfl) rfl ?_
    refine k_aload_n C rfl rfl rfl ?_
    refine k_aload_n C rfl rfl rfl ?_
    refine k_iload C rfl rfl rfl ?_
    refine k_iconst C (x := 1) rfl rfl rfl ?_
    refine k_iadd C rfl rfl ?_
    refine hL.1 _ _ _ _ _ _ _ rfl (vsk hi hLn (c := 1) (by decide)) ?_
    refine k_aload_n C rfl rfl rfl ?_
    refine k_iload C rfl rfl rfl ?_
    refine k_iconst C (x := 2) rfl rfl rfl ?_
    refine k_iadd C rfl rfl ?_
    refine hL.1 _ _ _ _ _ _ _ rfl (vsk hi hLn (c := 2) (by decide)) ?_
    refine k_aload_n C rfl rfl rfl ?_
    refine k_iload C rfl rfl rfl ?_
    refine k_iconst C (x := 3) rfl rfl rfl ?_
    refine k_iadd C rfl rfl ?_
    refine hL.1 _ _ _ _ _ _ _ rfl (vsk hi hLn (c := 3) (by decide)) ?_
    refine c_VL C (e_m_count_no (A := fun a => a = m ∨ R m 21 = some a ∨ R m 34 = some a) T_m (Or.inl rfl) hc) rfl rfl rfl rfl rfl ⟨_, rfl, rfl, H_m.1, Nat.le_of_ble_eq_true rfl⟩ rfl rfl (by omega) (by omega) (Nat.le_of_ble_eq_true rfl) ?_
    rintro x53 I49 L50 ⟨f2, z2, k2⟩
    have h51 := LI.rfr hLI H_m nAB hB f2 k2
    have h52 := RLT.keep hRL (SC.b E (fun _ _ => rfl)) (by unfold SM; exact ⟨rfl, rfl, rfl, rfl, rfl, rfl, rfl, rfl⟩) (SC.rf9 E f2) (SM.rf9 E f2 k2)
    refine k_lstore C (lw := [(6, .long _), (5, .int _), (4, .int _), (3, _), (2, _), (1, _), (0, _)]) rfl rfl (Nat.le_of_ble_eq_true rfl) rfl ?_
    refine k_goto C (pc2 := 1899) rfl rfl ?_
    exact K _ _ _ _ _ h51 h52 (by omega) (by omega) (List.forall_mem_cons.mpr ⟨List.mem_of_getElem? (i := 2) rfl, List.forall_mem_cons.mpr ⟨List.mem_of_getElem? (i := 3) rfl, List.forall_mem_cons.mpr ⟨List.mem_of_getElem? (i := 4) rfl, List.forall_mem_cons.mpr ⟨List.mem_of_getElem? (i := 5) rfl, List.forall_mem_cons.mpr ⟨List.mem_of_getElem? (i := 6) rfl, fun _ h => nomatch h⟩⟩⟩⟩⟩)

set_option maxRecDepth 100000 in
set_option maxHeartbeats 4000000 in
theorem lc_18 {V : V_T} {b x nw kp rd al m w im o Ln i : Nat} {xs : Nat → Int32} {T N : Nat → Nat} {I : IT} {L : LT} {R : RT} {A B : Nat → Prop} {ck sk : Nat} (C : Cl 40 q_law 601024 7293033 law_Po V) (S : SB V) (hL : LSc V b Ln xs) (E : LW T N R A B x nw kp rd al m w im o) (hi : i + 6 ≤ Ln) (hLn : Ln ≤ 3072) (hLI : LI T R A m I) (hRL : RLT x nw kp rd m w im I) (hck : ck + 3 ≤ 601024) (hsk : sk + 18 ≤ 7293033) (K : ∀ (lv : List (Nat × Value)) (I9 : IT) (L9 : LT) (ck9 sk9 : Nat), LI T R A m I9 → RLT x nw kp rd m w im I9 → ck9 ≤ ck + 3 → sk9 ≤ sk + 18 → (∀ z ∈ ([(4, .int (Int32.ofNat i)), (3, .ref o), (2, .ref m), (1, .ref x), (0, .ref b)] : List (Nat × Value)), z ∈ lv) → V 1899 lv [] (T, N, I9, L9, R) ck9 sk9) : V 906 [(4, .int (Int32.ofNat i)), (3, .ref o), (2, .ref m), (1, .ref x), (0, .ref b)] [] (T, N, I, L, R) ck sk := by
  obtain ⟨H_x, H_m, ⟨T_o, N_o, A_o⟩, nAB, Rnw, Rkp, Rrd, hnk, Ral, Ras, Rw, Rim⟩ := id E
  have T_x := H_x.1
  have T_m := H_m.1
  have hB := True.intro
  refine k_aload_n C rfl rfl rfl ?_
  refine k_aload_n C rfl rfl rfl ?_
  refine k_iload C rfl rfl rfl ?_
  refine k_iconst C (x := 1) rfl rfl rfl ?_
  refine k_iadd C rfl rfl ?_
  refine hL.1 _ _ _ _ _ _ _ rfl (vsk hi hLn (c := 1) (by decide)) ?_
  refine k_aload_n C rfl rfl rfl ?_
  refine k_iload C rfl rfl rfl ?_
  refine k_iconst C (x := 2) rfl rfl rfl ?_
  refine k_iadd C rfl rfl ?_
  refine hL.1 _ _ _ _ _ _ _ rfl (vsk hi hLn (c := 2) (by decide)) ?_
  refine k_aload_n C rfl rfl rfl ?_
  refine k_iload C rfl rfl rfl ?_
  refine k_iconst C (x := 3) rfl rfl rfl ?_
  refine k_iadd C rfl rfl ?_
  refine hL.1 _ _ _ _ _ _ _ rfl (vsk hi hLn (c := 3) (by decide)) ?_
  refine k_aload_n C rfl rfl rfl ?_
  refine c_SI C (w_L_span hLI.1 H_x T_o N_o A_o) rfl rfl rfl rfl rfl rfl rfl (by omega) (by omega) (Nat.le_of_ble_eq_true rfl) ?_
  rintro x3 I1 L2 ⟨h1, h2, c1⟩
  have h4 := LI.cls hLI H_m nAB h1 h2
  have s5 := SC.ci E c1 (by decide) (by decide) (by decide) (by decide) (by decide)
  have s6 := SM.fr E h2
  clear h1 h2 c1
  refine k_istore C (lw := [(5, .int _), (4, .int _), (3, _), (2, _), (1, _), (0, _)]) rfl rfl (Nat.le_of_ble_eq_true rfl) rfl ?_
  refine k_aload_n C rfl rfl rfl ?_
  refine k_aload_n C rfl rfl rfl ?_
  refine k_iload C rfl rfl rfl ?_
  refine k_iconst C (x := 1) rfl rfl rfl ?_
  refine k_iadd C rfl rfl ?_
  refine hL.1 _ _ _ _ _ _ _ rfl (vsk hi hLn (c := 1) (by decide)) ?_
  refine k_aload_n C rfl rfl rfl ?_
  refine k_iload C rfl rfl rfl ?_
  refine k_iconst C (x := 2) rfl rfl rfl ?_
  refine k_iadd C rfl rfl ?_
  refine hL.1 _ _ _ _ _ _ _ rfl (vsk hi hLn (c := 2) (by decide)) ?_
  refine k_aload_n C rfl rfl rfl ?_
  refine k_iload C rfl rfl rfl ?_
  refine k_iconst C (x := 3) rfl rfl rfl ?_
  refine k_iadd C rfl rfl ?_
  refine hL.1 _ _ _ _ _ _ _ rfl (vsk hi hLn (c := 3) (by decide)) ?_
  refine c_VI C (a_X12_span h4.2.1 H_m) rfl rfl rfl rfl rfl ⟨_, rfl, rfl, H_m.1, Nat.le_of_ble_eq_true rfl⟩ rfl rfl (by omega) (by omega) (Nat.le_of_ble_eq_true rfl) ?_
  rintro x10 I7 L8 ⟨hM9, cm⟩
  have h9 := LI.ref0 h4 H_m nAB hM9 cm (by decide) (by decide) (by decide)
  have h11 := RLT.keep hRL s5 s6 (SC.cm E cm) (SM.cm E cm (by decide) (by decide) (by decide) (by decide))
  refine k_istore C (lw := [(6, .int _), (5, .int _), (4, .int _), (3, _), (2, _), (1, _), (0, _)]) rfl rfl (Nat.le_of_ble_eq_true rfl) rfl ?_
  refine k_goto C (pc2 := 1899) rfl rfl ?_
  exact K _ _ _ _ _ h9 h11 (by omega) (by omega) (List.forall_mem_cons.mpr ⟨List.mem_of_getElem? (i := 2) rfl, List.forall_mem_cons.mpr ⟨List.mem_of_getElem? (i := 3) rfl, List.forall_mem_cons.mpr ⟨List.mem_of_getElem? (i := 4) rfl, List.forall_mem_cons.mpr ⟨List.mem_of_getElem? (i := 5) rfl, List.forall_mem_cons.mpr ⟨List.mem_of_getElem? (i := 6) rfl, fun _ h => nomatch h⟩⟩⟩⟩⟩)

set_option maxRecDepth 100000 in
set_option maxHeartbeats 4000000 in
theorem lc_19 {V : V_T} {b x nw kp rd al m w im o Ln i : Nat} {xs : Nat → Int32} {T N : Nat → Nat} {I : IT} {L : LT} {R : RT} {A B : Nat → Prop} {ck sk : Nat} (C : Cl 40 q_law 601024 7293033 law_Po V) (S : SB V) (hL : LSc V b Ln xs) (E : LW T N R A B x nw kp rd al m w im o) (hi : i + 6 ≤ Ln) (hLn : Ln ≤ 3072) (hLI : LI T R A m I) (hRL : RLT x nw kp rd m w im I) (hck : ck + 3 ≤ 601024) (hsk : sk + 18 ≤ 7293033) (K : ∀ (lv : List (Nat × Value)) (I9 : IT) (L9 : LT) (ck9 sk9 : Nat), LI T R A m I9 → RLT x nw kp rd m w im I9 → ck9 ≤ ck + 3 → sk9 ≤ sk + 18 → (∀ z ∈ ([(4, .int (Int32.ofNat i)), (3, .ref o), (2, .ref m), (1, .ref x), (0, .ref b)] : List (Nat × Value)), z ∈ lv) → V 1899 lv [] (T, N, I9, L9, R) ck9 sk9) : V 958 [(4, .int (Int32.ofNat i)), (3, .ref o), (2, .ref m), (1, .ref x), (0, .ref b)] [] (T, N, I, L, R) ck sk := by
  obtain ⟨H_x, H_m, ⟨T_o, N_o, A_o⟩, nAB, Rnw, Rkp, Rrd, hnk, Ral, Ras, Rw, Rim⟩ := id E
  have T_x := H_x.1
  have T_m := H_m.1
  have hB := True.intro
  refine k_aload_n C rfl rfl rfl ?_
  refine k_aload_n C rfl rfl rfl ?_
  refine k_iload C rfl rfl rfl ?_
  refine k_iconst C (x := 1) rfl rfl rfl ?_
  refine k_iadd C rfl rfl ?_
  refine hL.1 _ _ _ _ _ _ _ rfl (vsk hi hLn (c := 1) (by decide)) ?_
  refine k_aload_n C rfl rfl rfl ?_
  refine k_iload C rfl rfl rfl ?_
  refine k_iconst C (x := 2) rfl rfl rfl ?_
  refine k_iadd C rfl rfl ?_
  refine hL.1 _ _ _ _ _ _ _ rfl (vsk hi hLn (c := 2) (by decide)) ?_
  refine k_aload_n C rfl rfl rfl ?_
  refine k_iload C rfl rfl rfl ?_
  refine k_iconst C (x := 3) rfl rfl rfl ?_
  refine k_iadd C rfl rfl ?_
  refine hL.1 _ _ _ _ _ _ _ rfl (vsk hi hLn (c := 3) (by decide)) ?_
  refine k_aload_n C rfl rfl rfl ?_
  refine c_SI C (w_L_basis hLI.1 H_x T_o N_o A_o) rfl rfl rfl rfl rfl rfl rfl (by omega) (by omega) (Nat.le_of_ble_eq_true rfl) ?_
  rintro x3 I1 L2 ⟨h1, h2, c1⟩
  have h4 := LI.cls hLI H_m nAB h1 h2
  have s5 := SC.ci E c1 (by decide) (by decide) (by decide) (by decide) (by decide)
  have s6 := SM.fr E h2
  clear h1 h2 c1
  refine k_istore C (lw := [(5, .int _), (4, .int _), (3, _), (2, _), (1, _), (0, _)]) rfl rfl (Nat.le_of_ble_eq_true rfl) rfl ?_
  refine k_aload_n C rfl rfl rfl ?_
  refine k_aload_n C rfl rfl rfl ?_
  refine k_iload C rfl rfl rfl ?_
  refine k_iconst C (x := 1) rfl rfl rfl ?_
  refine k_iadd C rfl rfl ?_
  refine hL.1 _ _ _ _ _ _ _ rfl (vsk hi hLn (c := 1) (by decide)) ?_
  refine k_aload_n C rfl rfl rfl ?_
  refine k_iload C rfl rfl rfl ?_
  refine k_iconst C (x := 2) rfl rfl rfl ?_
  refine k_iadd C rfl rfl ?_
  refine hL.1 _ _ _ _ _ _ _ rfl (vsk hi hLn (c := 2) (by decide)) ?_
  refine k_aload_n C rfl rfl rfl ?_
  refine k_iload C rfl rfl rfl ?_
  refine k_iconst C (x := 3) rfl rfl rfl ?_
  refine k_iadd C rfl rfl ?_
  refine hL.1 _ _ _ _ _ _ _ rfl (vsk hi hLn (c := 3) (by decide)) ?_
  refine c_VI C (a_X12_basis h4.2.1 H_m) rfl rfl rfl rfl rfl ⟨_, rfl, rfl, H_m.1, Nat.le_of_ble_eq_true rfl⟩ rfl rfl (by omega) (by omega) (Nat.le_of_ble_eq_true rfl) ?_
  rintro x10 I7 L8 ⟨hM9, cm⟩
  have h9 := LI.ref0 h4 H_m nAB hM9 cm (by decide) (by decide) (by decide)
  have h11 := RLT.keep hRL s5 s6 (SC.cm E cm) (SM.cm E cm (by decide) (by decide) (by decide) (by decide))
  refine k_istore C (lw := [(6, .int _), (5, .int _), (4, .int _), (3, _), (2, _), (1, _), (0, _)]) rfl rfl (Nat.le_of_ble_eq_true rfl) rfl ?_
  refine k_goto C (pc2 := 1899) rfl rfl ?_
  exact K _ _ _ _ _ h9 h11 (by omega) (by omega) (List.forall_mem_cons.mpr ⟨List.mem_of_getElem? (i := 2) rfl, List.forall_mem_cons.mpr ⟨List.mem_of_getElem? (i := 3) rfl, List.forall_mem_cons.mpr ⟨List.mem_of_getElem? (i := 4) rfl, List.forall_mem_cons.mpr ⟨List.mem_of_getElem? (i := 5) rfl, List.forall_mem_cons.mpr ⟨List.mem_of_getElem? (i := 6) rfl, fun _ h => nomatch h⟩⟩⟩⟩⟩)

set_option maxRecDepth 100000 in
set_option maxHeartbeats 4000000 in
theorem lc_20 {V : V_T} {b x nw kp rd al m w im o Ln i : Nat} {xs : Nat → Int32} {T N : Nat → Nat} {I : IT} {L : LT} {R : RT} {A B : Nat → Prop} {ck sk : Nat} (C : Cl 40 q_law 601024 7293033 law_Po V) (S : SB V) (hL : LSc V b Ln xs) (E : LW T N R A B x nw kp rd al m w im o) (hi : i + 6 ≤ Ln) (hLn : Ln ≤ 3072) (hLI : LI T R A m I) (hRL : RLT x nw kp rd m w im I) (hck : ck + 3 ≤ 601024) (hsk : sk + 18 ≤ 7293033) (K : ∀ (lv : List (Nat × Value)) (I9 : IT) (L9 : LT) (ck9 sk9 : Nat), LI T R A m I9 → RLT x nw kp rd m w im I9 → ck9 ≤ ck + 3 → sk9 ≤ sk + 18 → (∀ z ∈ ([(4, .int (Int32.ofNat i)), (3, .ref o), (2, .ref m), (1, .ref x), (0, .ref b)] : List (Nat × Value)), z ∈ lv) → V 1899 lv [] (T, N, I9, L9, R) ck9 sk9) : V 1010 [(4, .int (Int32.ofNat i)), (3, .ref o), (2, .ref m), (1, .ref x), (0, .ref b)] [] (T, N, I, L, R) ck sk := by
  obtain ⟨H_x, H_m, ⟨T_o, N_o, A_o⟩, nAB, Rnw, Rkp, Rrd, hnk, Ral, Ras, Rw, Rim⟩ := id E
  have T_x := H_x.1
  have T_m := H_m.1
  have hB := True.intro
  refine k_aload_n C rfl rfl rfl ?_
  refine k_aload_n C rfl rfl rfl ?_
  refine k_iload C rfl rfl rfl ?_
  refine k_iconst C (x := 1) rfl rfl rfl ?_
  refine k_iadd C rfl rfl ?_
  refine hL.1 _ _ _ _ _ _ _ rfl (vsk hi hLn (c := 1) (by decide)) ?_
  refine k_aload_n C rfl rfl rfl ?_
  refine c_SI C (w_L_kind hLI.1 H_x T_o N_o A_o) rfl rfl rfl rfl rfl rfl rfl (by omega) (by omega) (Nat.le_of_ble_eq_true rfl) ?_
  rintro x3 I1 L2 ⟨h1, h2, c1⟩
  have h4 := LI.cls hLI H_m nAB h1 h2
  have s5 := SC.ci E c1 (by decide) (by decide) (by decide) (by decide) (by decide)
  have s6 := SM.fr E h2
  clear h1 h2 c1
  refine k_istore C (lw := [(5, .int _), (4, .int _), (3, _), (2, _), (1, _), (0, _)]) rfl rfl (Nat.le_of_ble_eq_true rfl) rfl ?_
  refine k_aload_n C rfl rfl rfl ?_
  refine k_aload_n C rfl rfl rfl ?_
  refine k_iload C rfl rfl rfl ?_
  refine k_iconst C (x := 1) rfl rfl rfl ?_
  refine k_iadd C rfl rfl ?_
  refine hL.1 _ _ _ _ _ _ _ rfl (vsk hi hLn (c := 1) (by decide)) ?_
  refine c_VI C (a_X12_kind h4.2.1 H_m) rfl rfl rfl rfl rfl ⟨_, rfl, rfl, H_m.1, Nat.le_of_ble_eq_true rfl⟩ rfl rfl (by omega) (by omega) (Nat.le_of_ble_eq_true rfl) ?_
  rintro x10 I7 L8 ⟨hM9, cm⟩
  have h9 := LI.ref0 h4 H_m nAB hM9 cm (by decide) (by decide) (by decide)
  have h11 := RLT.keep hRL s5 s6 (SC.cm E cm) (SM.cm E cm (by decide) (by decide) (by decide) (by decide))
  refine k_istore C (lw := [(6, .int _), (5, .int _), (4, .int _), (3, _), (2, _), (1, _), (0, _)]) rfl rfl (Nat.le_of_ble_eq_true rfl) rfl ?_
  refine k_goto C (pc2 := 1899) rfl rfl ?_
  exact K _ _ _ _ _ h9 h11 (by omega) (by omega) (List.forall_mem_cons.mpr ⟨List.mem_of_getElem? (i := 2) rfl, List.forall_mem_cons.mpr ⟨List.mem_of_getElem? (i := 3) rfl, List.forall_mem_cons.mpr ⟨List.mem_of_getElem? (i := 4) rfl, List.forall_mem_cons.mpr ⟨List.mem_of_getElem? (i := 5) rfl, List.forall_mem_cons.mpr ⟨List.mem_of_getElem? (i := 6) rfl, fun _ h => nomatch h⟩⟩⟩⟩⟩)

set_option maxRecDepth 100000 in
set_option maxHeartbeats 4000000 in
theorem lc_21 {V : V_T} {b x nw kp rd al m w im o Ln i : Nat} {xs : Nat → Int32} {T N : Nat → Nat} {I : IT} {L : LT} {R : RT} {A B : Nat → Prop} {ck sk : Nat} (C : Cl 40 q_law 601024 7293033 law_Po V) (S : SB V) (hL : LSc V b Ln xs) (E : LW T N R A B x nw kp rd al m w im o) (hi : i + 6 ≤ Ln) (hLn : Ln ≤ 3072) (hLI : LI T R A m I) (hRL : RLT x nw kp rd m w im I) (hck : ck + 3 ≤ 601024) (hsk : sk + 18 ≤ 7293033) (K : ∀ (lv : List (Nat × Value)) (I9 : IT) (L9 : LT) (ck9 sk9 : Nat), LI T R A m I9 → RLT x nw kp rd m w im I9 → ck9 ≤ ck + 3 → sk9 ≤ sk + 18 → (∀ z ∈ ([(4, .int (Int32.ofNat i)), (3, .ref o), (2, .ref m), (1, .ref x), (0, .ref b)] : List (Nat × Value)), z ∈ lv) → V 1899 lv [] (T, N, I9, L9, R) ck9 sk9) : V 1038 [(4, .int (Int32.ofNat i)), (3, .ref o), (2, .ref m), (1, .ref x), (0, .ref b)] [] (T, N, I, L, R) ck sk := by
  obtain ⟨H_x, H_m, ⟨T_o, N_o, A_o⟩, nAB, Rnw, Rkp, Rrd, hnk, Ral, Ras, Rw, Rim⟩ := id E
  have T_x := H_x.1
  have T_m := H_m.1
  have hB := True.intro
  refine k_aload_n C rfl rfl rfl ?_
  refine k_aload_n C rfl rfl rfl ?_
  refine k_iload C rfl rfl rfl ?_
  refine k_iconst C (x := 1) rfl rfl rfl ?_
  refine k_iadd C rfl rfl ?_
  refine hL.1 _ _ _ _ _ _ _ rfl (vsk hi hLn (c := 1) (by decide)) ?_
  refine k_aload_n C rfl rfl rfl ?_
  refine c_SI C (w_L_orbit hLI.1 H_x T_o N_o A_o) rfl rfl rfl rfl rfl rfl rfl (by omega) (by omega) (Nat.le_of_ble_eq_true rfl) ?_
  rintro x3 I1 L2 ⟨h1, h2, c1⟩
  have h4 := LI.cls hLI H_m nAB h1 h2
  have s5 := SC.ci E c1 (by decide) (by decide) (by decide) (by decide) (by decide)
  have s6 := SM.fr E h2
  clear h1 h2 c1
  refine k_istore C (lw := [(5, .int _), (4, .int _), (3, _), (2, _), (1, _), (0, _)]) rfl rfl (Nat.le_of_ble_eq_true rfl) rfl ?_
  refine k_aload_n C rfl rfl rfl ?_
  refine k_aload_n C rfl rfl rfl ?_
  refine k_iload C rfl rfl rfl ?_
  refine k_iconst C (x := 1) rfl rfl rfl ?_
  refine k_iadd C rfl rfl ?_
  refine hL.1 _ _ _ _ _ _ _ rfl (vsk hi hLn (c := 1) (by decide)) ?_
  refine c_VI C (a_X12_orbit h4.2.1 H_m) rfl rfl rfl rfl rfl ⟨_, rfl, rfl, H_m.1, Nat.le_of_ble_eq_true rfl⟩ rfl rfl (by omega) (by omega) (Nat.le_of_ble_eq_true rfl) ?_
  rintro x10 I7 L8 ⟨hM9, cm⟩
  have h9 := LI.ref0 h4 H_m nAB hM9 cm (by decide) (by decide) (by decide)
  have h11 := RLT.keep hRL s5 s6 (SC.cm E cm) (SM.cm E cm (by decide) (by decide) (by decide) (by decide))
  refine k_istore C (lw := [(6, .int _), (5, .int _), (4, .int _), (3, _), (2, _), (1, _), (0, _)]) rfl rfl (Nat.le_of_ble_eq_true rfl) rfl ?_
  refine k_goto C (pc2 := 1899) rfl rfl ?_
  exact K _ _ _ _ _ h9 h11 (by omega) (by omega) (List.forall_mem_cons.mpr ⟨List.mem_of_getElem? (i := 2) rfl, List.forall_mem_cons.mpr ⟨List.mem_of_getElem? (i := 3) rfl, List.forall_mem_cons.mpr ⟨List.mem_of_getElem? (i := 4) rfl, List.forall_mem_cons.mpr ⟨List.mem_of_getElem? (i := 5) rfl, List.forall_mem_cons.mpr ⟨List.mem_of_getElem? (i := 6) rfl, fun _ h => nomatch h⟩⟩⟩⟩⟩)

set_option maxRecDepth 100000 in
set_option maxHeartbeats 4000000 in
theorem lc_22 {V : V_T} {b x nw kp rd al m w im o Ln i : Nat} {xs : Nat → Int32} {T N : Nat → Nat} {I : IT} {L : LT} {R : RT} {A B : Nat → Prop} {ck sk : Nat} (C : Cl 40 q_law 601024 7293033 law_Po V) (S : SB V) (hL : LSc V b Ln xs) (E : LW T N R A B x nw kp rd al m w im o) (hi : i + 6 ≤ Ln) (hLn : Ln ≤ 3072) (hLI : LI T R A m I) (hRL : RLT x nw kp rd m w im I) (hck : ck + 3 ≤ 601024) (hsk : sk + 18 ≤ 7293033) (K : ∀ (lv : List (Nat × Value)) (I9 : IT) (L9 : LT) (ck9 sk9 : Nat), LI T R A m I9 → RLT x nw kp rd m w im I9 → ck9 ≤ ck + 3 → sk9 ≤ sk + 18 → (∀ z ∈ ([(4, .int (Int32.ofNat i)), (3, .ref o), (2, .ref m), (1, .ref x), (0, .ref b)] : List (Nat × Value)), z ∈ lv) → V 1899 lv [] (T, N, I9, L9, R) ck9 sk9) : V 1066 [(4, .int (Int32.ofNat i)), (3, .ref o), (2, .ref m), (1, .ref x), (0, .ref b)] [] (T, N, I, L, R) ck sk := by
  obtain ⟨H_x, H_m, ⟨T_o, N_o, A_o⟩, nAB, Rnw, Rkp, Rrd, hnk, Ral, Ras, Rw, Rim⟩ := id E
  have T_x := H_x.1
  have T_m := H_m.1
  have hB := True.intro
  refine k_aload_n C rfl rfl rfl ?_
  refine k_aload_n C rfl rfl rfl ?_
  refine k_iload C rfl rfl rfl ?_
  refine k_iconst C (x := 1) rfl rfl rfl ?_
  refine k_iadd C rfl rfl ?_
  refine hL.1 _ _ _ _ _ _ _ rfl (vsk hi hLn (c := 1) (by decide)) ?_
  refine k_aload_n C rfl rfl rfl ?_
  refine k_iload C rfl rfl rfl ?_
  refine k_iconst C (x := 2) rfl rfl rfl ?_
  refine k_iadd C rfl rfl ?_
  refine hL.1 _ _ _ _ _ _ _ rfl (vsk hi hLn (c := 2) (by decide)) ?_
  refine k_aload_n C rfl rfl rfl ?_
  have hbd := LI.bd E hLI
  refine c_SI C (v_L_join hLI.1 H_x T_o N_o A_o Rnw Rkp Rrd hnk (by unfold RLT at hRL; omega)) rfl rfl rfl rfl rfl rfl rfl (by omega) (by omega) (Nat.le_of_ble_eq_true rfl) ?_
  rintro x3 I1 L2 ⟨⟨h1, h2, c1⟩, hc⟩
  have h4 := LI.cls hLI H_m nAB h1 h2
  have s1 := SM.fr E h2
  rcases hc with ⟨rfl, r, v1, q0, q1, q2, q3, q4, q5⟩ | ⟨rfl, q0, q1, q2, q3, q4, q5, q6⟩ | ⟨rfl, q0, q1, q2, q3, q4, q5, q6⟩
  · skip
    have f1 := CI.hrd E c1 (by decide)
    have f3 := CI.x3 E c1 (by decide)
    refine k_istore C (lw := [(5, .int _), (4, .int _), (3, _), (2, _), (1, _), (0, _)]) rfl rfl (Nat.le_of_ble_eq_true rfl) rfl ?_
    refine k_aload_n C rfl rfl rfl ?_
    refine k_aload_n C rfl rfl rfl ?_
    refine k_iload C rfl rfl rfl ?_
    refine k_iconst C (x := 1) rfl rfl rfl ?_
    refine k_iadd C rfl rfl ?_
    refine hL.1 _ _ _ _ _ _ _ rfl (vsk hi hLn (c := 1) (by decide)) ?_
    refine k_aload_n C rfl rfl rfl ?_
    refine k_iload C rfl rfl rfl ?_
    refine k_iconst C (x := 2) rfl rfl rfl ?_
    refine k_iadd C rfl rfl ?_
    refine hL.1 _ _ _ _ _ _ _ rfl (vsk hi hLn (c := 2) (by decide)) ?_
    refine c_VI C (a_X12_join_e h4.2.1 H_m) rfl rfl rfl rfl rfl ⟨_, rfl, rfl, H_m.1, Nat.le_of_ble_eq_true rfl⟩ rfl rfl (by omega) (by omega) (Nat.le_of_ble_eq_true rfl) ?_
    rintro x8 I5 L6 ⟨p0, p1, s9, p3, p4, hM9, cm⟩
    have h7 := LI.ref h4 H_m nAB hM9 cm (by decide) (by decide) (fun w hw => s9 w hw (h4.2.2.1 w hw))
    have s2 := SC.cm E cm
    unfold SC at s2
    unfold SM at s1
    have hR9 := hRL
    unfold RLT at hR9
    have g1 := CM.m11 cm (by decide)
    have g2 := CM.m3 cm (by decide)
    have g4 := CM.cim E cm (by decide)
    have p3 := p3 w Rw
    have p4 := p4 w Rw
    have g5 := congrArg Int32.toInt (p4 0 (by decide))
    have g6 := congrArg Int32.toInt (p4 1 (by decide))
    have hR2 : RLT x nw kp rd m w im I5 := by unfold RLT; omega
    refine k_istore C (lw := [(6, .int _), (5, .int _), (4, .int _), (3, _), (2, _), (1, _), (0, _)]) rfl rfl (Nat.le_of_ble_eq_true rfl) rfl ?_
    refine k_aload_n C rfl rfl rfl ?_
    refine c_VI C (e_thrown T_m) rfl rfl rfl rfl rfl ⟨_, rfl, rfl, T_m, Nat.le_of_ble_eq_true rfl⟩ rfl rfl (by omega) (by omega) (Nat.le_of_ble_eq_true rfl) ?_
    rintro _ _ _ ⟨hx7, hI8, hL9⟩
    have hx7 := hx7.symm; subst hx7
    have hI8 := hI8.symm; subst hI8; have hL9 := hL9.symm; subst hL9
    have hz : I5 m 0 = 0 := Int32.toInt_inj.mp (by have e9 : (0 : Int32).toInt = 0 := rfl; omega)
    rw [hz]
    refine k_iload C rfl rfl rfl ?_
    refine k_icmp_eq C (t := 1114) rfl rfl rfl (fun _ => ?_) (fun c10 => absurd (by decide) c10)
    refine k_iload C rfl rfl rfl ?_
    refine k_if_ne C (t := 1131) rfl rfl rfl (fun c11 => absurd c11 (by decide)) (fun _ => ?_)
    refine k_aload_n C rfl rfl rfl ?_
    refine k_iconst C (x := 0) rfl rfl rfl ?_
    refine a_L C rfl rfl T_o (vin (n := 0) rfl (by rw [N_o]; exact Nat.le_of_ble_eq_true rfl) (by rw [N_o]; exact Nat.le_of_ble_eq_true rfl)) ((congrFun (cm.1 o (nAB o A_o)).2 0).trans v1) ?_
    refine k_iload C rfl rfl rfl ?_
    refine k_i2l C rfl rfl ?_
    have hv : r = x8 := Int32.toInt_inj.mp (by omega)
    subst hv
    refine k_lcmp C rfl rfl ?_
    refine k_if_eq C (t := 1131) rfl rfl rfl (fun c12 => ?_) (fun c12 => ?_)
    · skip
      refine k_goto C (pc2 := 1899) rfl rfl ?_
      exact K _ _ _ _ _ h7 hR2 (by omega) (by omega) (List.forall_mem_cons.mpr ⟨List.mem_of_getElem? (i := 2) rfl, List.forall_mem_cons.mpr ⟨List.mem_of_getElem? (i := 3) rfl, List.forall_mem_cons.mpr ⟨List.mem_of_getElem? (i := 4) rfl, List.forall_mem_cons.mpr ⟨List.mem_of_getElem? (i := 5) rfl, List.forall_mem_cons.mpr ⟨List.mem_of_getElem? (i := 6) rfl, fun _ h => nomatch h⟩⟩⟩⟩⟩)
    exact absurd ((lg_cmp_eq _ _).mpr rfl) c12
  · skip
    have f1 := CI.hrd E c1 (by decide)
    have f3 := CI.x3 E c1 (by decide)
    refine k_istore C (lw := [(5, .int _), (4, .int _), (3, _), (2, _), (1, _), (0, _)]) rfl rfl (Nat.le_of_ble_eq_true rfl) rfl ?_
    refine k_aload_n C rfl rfl rfl ?_
    refine k_aload_n C rfl rfl rfl ?_
    refine k_iload C rfl rfl rfl ?_
    refine k_iconst C (x := 1) rfl rfl rfl ?_
    refine k_iadd C rfl rfl ?_
    refine hL.1 _ _ _ _ _ _ _ rfl (vsk hi hLn (c := 1) (by decide)) ?_
    refine k_aload_n C rfl rfl rfl ?_
    refine k_iload C rfl rfl rfl ?_
    refine k_iconst C (x := 2) rfl rfl rfl ?_
    refine k_iadd C rfl rfl ?_
    refine hL.1 _ _ _ _ _ _ _ rfl (vsk hi hLn (c := 2) (by decide)) ?_
    refine c_VI C (a_X12_join_e h4.2.1 H_m) rfl rfl rfl rfl rfl ⟨_, rfl, rfl, H_m.1, Nat.le_of_ble_eq_true rfl⟩ rfl rfl (by omega) (by omega) (Nat.le_of_ble_eq_true rfl) ?_
    rintro x16 I13 L14 ⟨p0, p1, s9, p3, p4, hM9, cm⟩
    have h15 := LI.ref h4 H_m nAB hM9 cm (by decide) (by decide) (fun w hw => s9 w hw (h4.2.2.1 w hw))
    have s2 := SC.cm E cm
    unfold SC at s2
    unfold SM at s1
    have hR9 := hRL
    unfold RLT at hR9
    have g1 := CM.m11 cm (by decide)
    have g2 := CM.m3 cm (by decide)
    have g4 := CM.cim E cm (by decide)
    have p3 := p3 w Rw
    have p4 := p4 w Rw
    have g5 := congrArg Int32.toInt (p4 0 (by decide))
    have g6 := congrArg Int32.toInt (p4 1 (by decide))
    have hR2 : RLT x nw kp rd m w im I13 := by unfold RLT; omega
    refine k_istore C (lw := [(6, .int _), (5, .int _), (4, .int _), (3, _), (2, _), (1, _), (0, _)]) rfl rfl (Nat.le_of_ble_eq_true rfl) rfl ?_
    refine k_aload_n C rfl rfl rfl ?_
    refine c_VI C (e_thrown T_m) rfl rfl rfl rfl rfl ⟨_, rfl, rfl, T_m, Nat.le_of_ble_eq_true rfl⟩ rfl rfl (by omega) (by omega) (Nat.le_of_ble_eq_true rfl) ?_
    rintro _ _ _ ⟨hx7, hI8, hL9⟩
    have hx7 := hx7.symm; subst hx7
    have hI8 := hI8.symm; subst hI8; have hL9 := hL9.symm; subst hL9
    have hz : I13 m 0 = 1 := Int32.toInt_inj.mp (by have e9 : (1 : Int32).toInt = 1 := rfl; omega)
    rw [hz]
    refine k_iload C rfl rfl rfl ?_
    refine k_icmp_eq C (t := 1114) rfl rfl rfl (fun _ => ?_) (fun c18 => absurd (by decide) c18)
    refine k_iload C rfl rfl rfl ?_
    refine k_if_ne C (t := 1131) rfl rfl rfl (fun _ => ?_) (fun c19 => absurd (by decide) c19)
    refine k_goto C (pc2 := 1899) rfl rfl ?_
    exact K _ _ _ _ _ h15 hR2 (by omega) (by omega) (List.forall_mem_cons.mpr ⟨List.mem_of_getElem? (i := 2) rfl, List.forall_mem_cons.mpr ⟨List.mem_of_getElem? (i := 3) rfl, List.forall_mem_cons.mpr ⟨List.mem_of_getElem? (i := 4) rfl, List.forall_mem_cons.mpr ⟨List.mem_of_getElem? (i := 5) rfl, List.forall_mem_cons.mpr ⟨List.mem_of_getElem? (i := 6) rfl, fun _ h => nomatch h⟩⟩⟩⟩⟩)
  · skip
    have f1 := CI.hrd E c1 (by decide)
    have f3 := CI.x3 E c1 (by decide)
    refine k_istore C (lw := [(5, .int _), (4, .int _), (3, _), (2, _), (1, _), (0, _)]) rfl rfl (Nat.le_of_ble_eq_true rfl) rfl ?_
    refine k_aload_n C rfl rfl rfl ?_
    refine k_aload_n C rfl rfl rfl ?_
    refine k_iload C rfl rfl rfl ?_
    refine k_iconst C (x := 1) rfl rfl rfl ?_
    refine k_iadd C rfl rfl ?_
    refine hL.1 _ _ _ _ _ _ _ rfl (vsk hi hLn (c := 1) (by decide)) ?_
    refine k_aload_n C rfl rfl rfl ?_
    refine k_iload C rfl rfl rfl ?_
    refine k_iconst C (x := 2) rfl rfl rfl ?_
    refine k_iadd C rfl rfl ?_
    refine hL.1 _ _ _ _ _ _ _ rfl (vsk hi hLn (c := 2) (by decide)) ?_
    refine c_VI C (a_X12_join_e h4.2.1 H_m) rfl rfl rfl rfl rfl ⟨_, rfl, rfl, H_m.1, Nat.le_of_ble_eq_true rfl⟩ rfl rfl (by omega) (by omega) (Nat.le_of_ble_eq_true rfl) ?_
    rintro x23 I20 L21 ⟨p0, p1, s9, p3, p4, hM9, cm⟩
    have h22 := LI.ref h4 H_m nAB hM9 cm (by decide) (by decide) (fun w hw => s9 w hw (h4.2.2.1 w hw))
    have s2 := SC.cm E cm
    unfold SC at s2
    unfold SM at s1
    have hR9 := hRL
    unfold RLT at hR9
    have g1 := CM.m11 cm (by decide)
    have g2 := CM.m3 cm (by decide)
    have g4 := CM.cim E cm (by decide)
    have p3 := p3 w Rw
    have p4 := p4 w Rw
    have g5 := congrArg Int32.toInt (p4 0 (by decide))
    have g6 := congrArg Int32.toInt (p4 1 (by decide))
    have hR2 : RLT x nw kp rd m w im I20 := by unfold RLT; omega
    refine k_istore C (lw := [(6, .int _), (5, .int _), (4, .int _), (3, _), (2, _), (1, _), (0, _)]) rfl rfl (Nat.le_of_ble_eq_true rfl) rfl ?_
    refine k_aload_n C rfl rfl rfl ?_
    refine c_VI C (e_thrown T_m) rfl rfl rfl rfl rfl ⟨_, rfl, rfl, T_m, Nat.le_of_ble_eq_true rfl⟩ rfl rfl (by omega) (by omega) (Nat.le_of_ble_eq_true rfl) ?_
    rintro _ _ _ ⟨hx7, hI8, hL9⟩
    have hx7 := hx7.symm; subst hx7
    have hI8 := hI8.symm; subst hI8; have hL9 := hL9.symm; subst hL9
    have hz : I20 m 0 = 2 := Int32.toInt_inj.mp (by have e9 : (2 : Int32).toInt = 2 := rfl; omega)
    rw [hz]
    refine k_iload C rfl rfl rfl ?_
    refine k_icmp_eq C (t := 1114) rfl rfl rfl (fun _ => ?_) (fun c25 => absurd (by decide) c25)
    refine k_iload C rfl rfl rfl ?_
    refine k_if_ne C (t := 1131) rfl rfl rfl (fun _ => ?_) (fun c26 => absurd (by decide) c26)
    refine k_goto C (pc2 := 1899) rfl rfl ?_
    exact K _ _ _ _ _ h22 hR2 (by omega) (by omega) (List.forall_mem_cons.mpr ⟨List.mem_of_getElem? (i := 2) rfl, List.forall_mem_cons.mpr ⟨List.mem_of_getElem? (i := 3) rfl, List.forall_mem_cons.mpr ⟨List.mem_of_getElem? (i := 4) rfl, List.forall_mem_cons.mpr ⟨List.mem_of_getElem? (i := 5) rfl, List.forall_mem_cons.mpr ⟨List.mem_of_getElem? (i := 6) rfl, fun _ h => nomatch h⟩⟩⟩⟩⟩)

set_option maxRecDepth 100000 in
set_option maxHeartbeats 4000000 in
theorem lc_23 {V : V_T} {b x nw kp rd al m w im o Ln i : Nat} {xs : Nat → Int32} {T N : Nat → Nat} {I : IT} {L : LT} {R : RT} {A B : Nat → Prop} {ck sk : Nat} (C : Cl 40 q_law 601024 7293033 law_Po V) (S : SB V) (hL : LSc V b Ln xs) (E : LW T N R A B x nw kp rd al m w im o) (hi : i + 6 ≤ Ln) (hLn : Ln ≤ 3072) (hLI : LI T R A m I) (hRL : RLT x nw kp rd m w im I) (hck : ck + 3 ≤ 601024) (hsk : sk + 18 ≤ 7293033) (K : ∀ (lv : List (Nat × Value)) (I9 : IT) (L9 : LT) (ck9 sk9 : Nat), LI T R A m I9 → RLT x nw kp rd m w im I9 → ck9 ≤ ck + 3 → sk9 ≤ sk + 18 → (∀ z ∈ ([(4, .int (Int32.ofNat i)), (3, .ref o), (2, .ref m), (1, .ref x), (0, .ref b)] : List (Nat × Value)), z ∈ lv) → V 1899 lv [] (T, N, I9, L9, R) ck9 sk9) : V 1134 [(4, .int (Int32.ofNat i)), (3, .ref o), (2, .ref m), (1, .ref x), (0, .ref b)] [] (T, N, I, L, R) ck sk := by
  obtain ⟨H_x, H_m, ⟨T_o, N_o, A_o⟩, nAB, Rnw, Rkp, Rrd, hnk, Ral, Ras, Rw, Rim⟩ := id E
  have T_x := H_x.1
  have T_m := H_m.1
  have hB := True.intro
  refine k_aload_n C rfl rfl rfl ?_
  refine k_aload_n C rfl rfl rfl ?_
  refine k_iload C rfl rfl rfl ?_
  refine k_iconst C (x := 1) rfl rfl rfl ?_
  refine k_iadd C rfl rfl ?_
  refine hL.1 _ _ _ _ _ _ _ rfl (vsk hi hLn (c := 1) (by decide)) ?_
  refine k_aload_n C rfl rfl rfl ?_
  have hbd := LI.bd E hLI
  refine c_SI C (v_L_turn hLI.1 H_x T_o N_o A_o Rnw Rkp Rrd hnk (by unfold RLT at hRL; omega)) rfl rfl rfl rfl rfl rfl rfl (by omega) (by omega) (Nat.le_of_ble_eq_true rfl) ?_
  rintro x3 I1 L2 ⟨⟨h1, h2, c1⟩, hc⟩
  have h4 := LI.cls hLI H_m nAB h1 h2
  have s1 := SM.fr E h2
  rcases hc with ⟨rfl, r, v1, q0, q1, q2, q3, q4, q5⟩ | ⟨rfl, q0, q1, q2, q3, q4, q5, q6⟩ | ⟨rfl, q0, q1, q2, q3, q4, q5, q6⟩
  · skip
    have f1 := CI.hrd E c1 (by decide)
    have f3 := CI.x3 E c1 (by decide)
    refine k_istore C (lw := [(5, .int _), (4, .int _), (3, _), (2, _), (1, _), (0, _)]) rfl rfl (Nat.le_of_ble_eq_true rfl) rfl ?_
    refine k_aload_n C rfl rfl rfl ?_
    refine k_aload_n C rfl rfl rfl ?_
    refine k_iload C rfl rfl rfl ?_
    refine k_iconst C (x := 1) rfl rfl rfl ?_
    refine k_iadd C rfl rfl ?_
    refine hL.1 _ _ _ _ _ _ _ rfl (vsk hi hLn (c := 1) (by decide)) ?_
    refine c_VI C (a_X12_turn_e h4.2.1 H_m) rfl rfl rfl rfl rfl ⟨_, rfl, rfl, H_m.1, Nat.le_of_ble_eq_true rfl⟩ rfl rfl (by omega) (by omega) (Nat.le_of_ble_eq_true rfl) ?_
    rintro x8 I5 L6 ⟨p0, p1, s9, p3, p4, hM9, cm⟩
    have h7 := LI.ref h4 H_m nAB hM9 cm (by decide) (by decide) (fun w hw => s9 w hw (h4.2.2.1 w hw))
    have s2 := SC.cm E cm
    unfold SC at s2
    unfold SM at s1
    have hR9 := hRL
    unfold RLT at hR9
    have g1 := CM.m11 cm (by decide)
    have g2 := CM.m3 cm (by decide)
    have g4 := CM.cim E cm (by decide)
    have p3 := p3 w Rw
    have p4 := p4 w Rw
    have g5 := congrArg Int32.toInt (p4 0 (by decide))
    have g6 := congrArg Int32.toInt (p4 1 (by decide))
    have hR2 : RLT x nw kp rd m w im I5 := by unfold RLT; omega
    refine k_istore C (lw := [(6, .int _), (5, .int _), (4, .int _), (3, _), (2, _), (1, _), (0, _)]) rfl rfl (Nat.le_of_ble_eq_true rfl) rfl ?_
    refine k_goto C (pc2 := 1899) rfl rfl ?_
    exact K _ _ _ _ _ h7 hR2 (by omega) (by omega) (List.forall_mem_cons.mpr ⟨List.mem_of_getElem? (i := 2) rfl, List.forall_mem_cons.mpr ⟨List.mem_of_getElem? (i := 3) rfl, List.forall_mem_cons.mpr ⟨List.mem_of_getElem? (i := 4) rfl, List.forall_mem_cons.mpr ⟨List.mem_of_getElem? (i := 5) rfl, List.forall_mem_cons.mpr ⟨List.mem_of_getElem? (i := 6) rfl, fun _ h => nomatch h⟩⟩⟩⟩⟩)
  · skip
    have f1 := CI.hrd E c1 (by decide)
    have f3 := CI.x3 E c1 (by decide)
    refine k_istore C (lw := [(5, .int _), (4, .int _), (3, _), (2, _), (1, _), (0, _)]) rfl rfl (Nat.le_of_ble_eq_true rfl) rfl ?_
    refine k_aload_n C rfl rfl rfl ?_
    refine k_aload_n C rfl rfl rfl ?_
    refine k_iload C rfl rfl rfl ?_
    refine k_iconst C (x := 1) rfl rfl rfl ?_
    refine k_iadd C rfl rfl ?_
    refine hL.1 _ _ _ _ _ _ _ rfl (vsk hi hLn (c := 1) (by decide)) ?_
    refine c_VI C (a_X12_turn_e h4.2.1 H_m) rfl rfl rfl rfl rfl ⟨_, rfl, rfl, H_m.1, Nat.le_of_ble_eq_true rfl⟩ rfl rfl (by omega) (by omega) (Nat.le_of_ble_eq_true rfl) ?_
    rintro x13 I10 L11 ⟨p0, p1, s9, p3, p4, hM9, cm⟩
    have h12 := LI.ref h4 H_m nAB hM9 cm (by decide) (by decide) (fun w hw => s9 w hw (h4.2.2.1 w hw))
    have s2 := SC.cm E cm
    unfold SC at s2
    unfold SM at s1
    have hR9 := hRL
    unfold RLT at hR9
    have g1 := CM.m11 cm (by decide)
    have g2 := CM.m3 cm (by decide)
    have g4 := CM.cim E cm (by decide)
    have p3 := p3 w Rw
    have p4 := p4 w Rw
    have g5 := congrArg Int32.toInt (p4 0 (by decide))
    have g6 := congrArg Int32.toInt (p4 1 (by decide))
    have hR2 : RLT x nw kp rd m w im I10 := by unfold RLT; omega
    refine k_istore C (lw := [(6, .int _), (5, .int _), (4, .int _), (3, _), (2, _), (1, _), (0, _)]) rfl rfl (Nat.le_of_ble_eq_true rfl) rfl ?_
    refine k_goto C (pc2 := 1899) rfl rfl ?_
    exact K _ _ _ _ _ h12 hR2 (by omega) (by omega) (List.forall_mem_cons.mpr ⟨List.mem_of_getElem? (i := 2) rfl, List.forall_mem_cons.mpr ⟨List.mem_of_getElem? (i := 3) rfl, List.forall_mem_cons.mpr ⟨List.mem_of_getElem? (i := 4) rfl, List.forall_mem_cons.mpr ⟨List.mem_of_getElem? (i := 5) rfl, List.forall_mem_cons.mpr ⟨List.mem_of_getElem? (i := 6) rfl, fun _ h => nomatch h⟩⟩⟩⟩⟩)
  · skip
    have f1 := CI.hrd E c1 (by decide)
    have f3 := CI.x3 E c1 (by decide)
    refine k_istore C (lw := [(5, .int _), (4, .int _), (3, _), (2, _), (1, _), (0, _)]) rfl rfl (Nat.le_of_ble_eq_true rfl) rfl ?_
    refine k_aload_n C rfl rfl rfl ?_
    refine k_aload_n C rfl rfl rfl ?_
    refine k_iload C rfl rfl rfl ?_
    refine k_iconst C (x := 1) rfl rfl rfl ?_
    refine k_iadd C rfl rfl ?_
    refine hL.1 _ _ _ _ _ _ _ rfl (vsk hi hLn (c := 1) (by decide)) ?_
    refine c_VI C (a_X12_turn_e h4.2.1 H_m) rfl rfl rfl rfl rfl ⟨_, rfl, rfl, H_m.1, Nat.le_of_ble_eq_true rfl⟩ rfl rfl (by omega) (by omega) (Nat.le_of_ble_eq_true rfl) ?_
    rintro x18 I15 L16 ⟨p0, p1, s9, p3, p4, hM9, cm⟩
    have h17 := LI.ref h4 H_m nAB hM9 cm (by decide) (by decide) (fun w hw => s9 w hw (h4.2.2.1 w hw))
    have s2 := SC.cm E cm
    unfold SC at s2
    unfold SM at s1
    have hR9 := hRL
    unfold RLT at hR9
    have g1 := CM.m11 cm (by decide)
    have g2 := CM.m3 cm (by decide)
    have g4 := CM.cim E cm (by decide)
    have p3 := p3 w Rw
    have p4 := p4 w Rw
    have g5 := congrArg Int32.toInt (p4 0 (by decide))
    have g6 := congrArg Int32.toInt (p4 1 (by decide))
    have hR2 : RLT x nw kp rd m w im I15 := by unfold RLT; omega
    refine k_istore C (lw := [(6, .int _), (5, .int _), (4, .int _), (3, _), (2, _), (1, _), (0, _)]) rfl rfl (Nat.le_of_ble_eq_true rfl) rfl ?_
    refine k_goto C (pc2 := 1899) rfl rfl ?_
    exact K _ _ _ _ _ h17 hR2 (by omega) (by omega) (List.forall_mem_cons.mpr ⟨List.mem_of_getElem? (i := 2) rfl, List.forall_mem_cons.mpr ⟨List.mem_of_getElem? (i := 3) rfl, List.forall_mem_cons.mpr ⟨List.mem_of_getElem? (i := 4) rfl, List.forall_mem_cons.mpr ⟨List.mem_of_getElem? (i := 5) rfl, List.forall_mem_cons.mpr ⟨List.mem_of_getElem? (i := 6) rfl, fun _ h => nomatch h⟩⟩⟩⟩⟩)

set_option maxRecDepth 100000 in
set_option maxHeartbeats 4000000 in
theorem lc_24 {V : V_T} {b x nw kp rd al m w im o Ln i : Nat} {xs : Nat → Int32} {T N : Nat → Nat} {I : IT} {L : LT} {R : RT} {A B : Nat → Prop} {ck sk : Nat} (C : Cl 40 q_law 601024 7293033 law_Po V) (S : SB V) (hL : LSc V b Ln xs) (E : LW T N R A B x nw kp rd al m w im o) (hi : i + 6 ≤ Ln) (hLn : Ln ≤ 3072) (hLI : LI T R A m I) (hRL : RLT x nw kp rd m w im I) (hck : ck + 3 ≤ 601024) (hsk : sk + 18 ≤ 7293033) (K : ∀ (lv : List (Nat × Value)) (I9 : IT) (L9 : LT) (ck9 sk9 : Nat), LI T R A m I9 → RLT x nw kp rd m w im I9 → ck9 ≤ ck + 3 → sk9 ≤ sk + 18 → (∀ z ∈ ([(4, .int (Int32.ofNat i)), (3, .ref o), (2, .ref m), (1, .ref x), (0, .ref b)] : List (Nat × Value)), z ∈ lv) → V 1899 lv [] (T, N, I9, L9, R) ck9 sk9) : V 1162 [(4, .int (Int32.ofNat i)), (3, .ref o), (2, .ref m), (1, .ref x), (0, .ref b)] [] (T, N, I, L, R) ck sk := by
  obtain ⟨H_x, H_m, ⟨T_o, N_o, A_o⟩, nAB, Rnw, Rkp, Rrd, hnk, Ral, Ras, Rw, Rim⟩ := id E
  have T_x := H_x.1
  have T_m := H_m.1
  have hB := True.intro
  refine k_aload_n C rfl rfl rfl ?_
  refine k_aload_n C rfl rfl rfl ?_
  refine k_iload C rfl rfl rfl ?_
  refine k_iconst C (x := 1) rfl rfl rfl ?_
  refine k_iadd C rfl rfl ?_
  refine hL.1 _ _ _ _ _ _ _ rfl (vsk hi hLn (c := 1) (by decide)) ?_
  refine k_aload_n C rfl rfl rfl ?_
  refine k_iload C rfl rfl rfl ?_
  refine k_iconst C (x := 2) rfl rfl rfl ?_
  refine k_iadd C rfl rfl ?_
  refine hL.1 _ _ _ _ _ _ _ rfl (vsk hi hLn (c := 2) (by decide)) ?_
  refine k_aload_n C rfl rfl rfl ?_
  refine c_SI C (w_L_told hLI.1 H_x T_o N_o A_o) rfl rfl rfl rfl rfl rfl rfl (by omega) (by omega) (Nat.le_of_ble_eq_true rfl) ?_
  rintro x3 I1 L2 ⟨h1, h2, c1⟩
  have h4 := LI.cls hLI H_m nAB h1 h2
  have s5 := SC.ci E c1 (by decide) (by decide) (by decide) (by decide) (by decide)
  have s6 := SM.fr E h2
  clear h1 h2 c1
  refine k_istore C (lw := [(5, .int _), (4, .int _), (3, _), (2, _), (1, _), (0, _)]) rfl rfl (Nat.le_of_ble_eq_true rfl) rfl ?_
  refine k_aload_n C rfl rfl rfl ?_
  refine k_aload_n C rfl rfl rfl ?_
  refine k_iload C rfl rfl rfl ?_
  refine k_iconst C (x := 1) rfl rfl rfl ?_
  refine k_iadd C rfl rfl ?_
  refine hL.1 _ _ _ _ _ _ _ rfl (vsk hi hLn (c := 1) (by decide)) ?_
  refine k_aload_n C rfl rfl rfl ?_
  refine k_iload C rfl rfl rfl ?_
  refine k_iconst C (x := 2) rfl rfl rfl ?_
  refine k_iadd C rfl rfl ?_
  refine hL.1 _ _ _ _ _ _ _ rfl (vsk hi hLn (c := 2) (by decide)) ?_
  refine c_VI C (a_X12_told h4.2.1 H_m) rfl rfl rfl rfl rfl ⟨_, rfl, rfl, H_m.1, Nat.le_of_ble_eq_true rfl⟩ rfl rfl (by omega) (by omega) (Nat.le_of_ble_eq_true rfl) ?_
  rintro x10 I7 L8 ⟨p0, p1, hM9, cm⟩
  have h9 := LI.ref0 h4 H_m nAB hM9 cm (by decide) (by decide) (by decide)
  have h11 := RLT.keep hRL s5 s6 (SC.cm E cm) (SM.cm E cm (by decide) (by decide) (by decide) (by decide))
  refine k_istore C (lw := [(6, .int _), (5, .int _), (4, .int _), (3, _), (2, _), (1, _), (0, _)]) rfl rfl (Nat.le_of_ble_eq_true rfl) rfl ?_
  refine k_goto C (pc2 := 1899) rfl rfl ?_
  exact K _ _ _ _ _ h9 h11 (by omega) (by omega) (List.forall_mem_cons.mpr ⟨List.mem_of_getElem? (i := 2) rfl, List.forall_mem_cons.mpr ⟨List.mem_of_getElem? (i := 3) rfl, List.forall_mem_cons.mpr ⟨List.mem_of_getElem? (i := 4) rfl, List.forall_mem_cons.mpr ⟨List.mem_of_getElem? (i := 5) rfl, List.forall_mem_cons.mpr ⟨List.mem_of_getElem? (i := 6) rfl, fun _ h => nomatch h⟩⟩⟩⟩⟩)

set_option maxRecDepth 100000 in
set_option maxHeartbeats 4000000 in
theorem lc_25 {V : V_T} {b x nw kp rd al m w im o Ln i : Nat} {xs : Nat → Int32} {T N : Nat → Nat} {I : IT} {L : LT} {R : RT} {A B : Nat → Prop} {ck sk : Nat} (C : Cl 40 q_law 601024 7293033 law_Po V) (S : SB V) (hL : LSc V b Ln xs) (E : LW T N R A B x nw kp rd al m w im o) (hi : i + 6 ≤ Ln) (hLn : Ln ≤ 3072) (hLI : LI T R A m I) (hRL : RLT x nw kp rd m w im I) (hck : ck + 3 ≤ 601024) (hsk : sk + 18 ≤ 7293033) (K : ∀ (lv : List (Nat × Value)) (I9 : IT) (L9 : LT) (ck9 sk9 : Nat), LI T R A m I9 → RLT x nw kp rd m w im I9 → ck9 ≤ ck + 3 → sk9 ≤ sk + 18 → (∀ z ∈ ([(4, .int (Int32.ofNat i)), (3, .ref o), (2, .ref m), (1, .ref x), (0, .ref b)] : List (Nat × Value)), z ∈ lv) → V 1899 lv [] (T, N, I9, L9, R) ck9 sk9) : V 1202 [(4, .int (Int32.ofNat i)), (3, .ref o), (2, .ref m), (1, .ref x), (0, .ref b)] [] (T, N, I, L, R) ck sk := by
  obtain ⟨H_x, H_m, ⟨T_o, N_o, A_o⟩, nAB, Rnw, Rkp, Rrd, hnk, Ral, Ras, Rw, Rim⟩ := id E
  have T_x := H_x.1
  have T_m := H_m.1
  have hB := True.intro
  refine k_aload_n C rfl rfl rfl ?_
  refine k_aload_n C rfl rfl rfl ?_
  refine k_iload C rfl rfl rfl ?_
  refine k_iconst C (x := 1) rfl rfl rfl ?_
  refine k_iadd C rfl rfl ?_
  refine hL.1 _ _ _ _ _ _ _ rfl (vsk hi hLn (c := 1) (by decide)) ?_
  refine k_aload_n C rfl rfl rfl ?_
  refine k_iload C rfl rfl rfl ?_
  refine k_iconst C (x := 2) rfl rfl rfl ?_
  refine k_iadd C rfl rfl ?_
  refine hL.1 _ _ _ _ _ _ _ rfl (vsk hi hLn (c := 2) (by decide)) ?_
  refine k_aload_n C rfl rfl rfl ?_
  refine k_iload C rfl rfl rfl ?_
  refine k_iconst C (x := 3) rfl rfl rfl ?_
  refine k_iadd C rfl rfl ?_
  refine hL.1 _ _ _ _ _ _ _ rfl (vsk hi hLn (c := 3) (by decide)) ?_
  refine k_aload_n C rfl rfl rfl ?_
  refine c_SI C (w_L_quotient hLI.1 H_x T_o N_o A_o) rfl rfl rfl rfl rfl rfl rfl (by omega) (by omega) (Nat.le_of_ble_eq_true rfl) ?_
  rintro x3 I1 L2 ⟨h1, h2, c1⟩
  have h4 := LI.cls hLI H_m nAB h1 h2
  have s5 := SC.ci E c1 (by decide) (by decide) (by decide) (by decide) (by decide)
  have s6 := SM.fr E h2
  clear h1 h2 c1
  refine k_istore C (lw := [(5, .int _), (4, .int _), (3, _), (2, _), (1, _), (0, _)]) rfl rfl (Nat.le_of_ble_eq_true rfl) rfl ?_
  refine k_aload_n C rfl rfl rfl ?_
  refine k_aload_n C rfl rfl rfl ?_
  refine k_iload C rfl rfl rfl ?_
  refine k_iconst C (x := 1) rfl rfl rfl ?_
  refine k_iadd C rfl rfl ?_
  refine hL.1 _ _ _ _ _ _ _ rfl (vsk hi hLn (c := 1) (by decide)) ?_
  refine k_aload_n C rfl rfl rfl ?_
  refine k_iload C rfl rfl rfl ?_
  refine k_iconst C (x := 2) rfl rfl rfl ?_
  refine k_iadd C rfl rfl ?_
  refine hL.1 _ _ _ _ _ _ _ rfl (vsk hi hLn (c := 2) (by decide)) ?_
  refine k_aload_n C rfl rfl rfl ?_
  refine k_iload C rfl rfl rfl ?_
  refine k_iconst C (x := 3) rfl rfl rfl ?_
  refine k_iadd C rfl rfl ?_
  refine hL.1 _ _ _ _ _ _ _ rfl (vsk hi hLn (c := 3) (by decide)) ?_
  refine c_VI C (a_X12_quotient h4.2.1 H_m) rfl rfl rfl rfl rfl ⟨_, rfl, rfl, H_m.1, Nat.le_of_ble_eq_true rfl⟩ rfl rfl (by omega) (by omega) (Nat.le_of_ble_eq_true rfl) ?_
  rintro x10 I7 L8 ⟨p0, p1, hM9, cm⟩
  have h9 := LI.ref0 h4 H_m nAB hM9 cm (by decide) (by decide) (by decide)
  have h11 := RLT.keep hRL s5 s6 (SC.cm E cm) (SM.cm E cm (by decide) (by decide) (by decide) (by decide))
  refine k_istore C (lw := [(6, .int _), (5, .int _), (4, .int _), (3, _), (2, _), (1, _), (0, _)]) rfl rfl (Nat.le_of_ble_eq_true rfl) rfl ?_
  refine k_goto C (pc2 := 1899) rfl rfl ?_
  exact K _ _ _ _ _ h9 h11 (by omega) (by omega) (List.forall_mem_cons.mpr ⟨List.mem_of_getElem? (i := 2) rfl, List.forall_mem_cons.mpr ⟨List.mem_of_getElem? (i := 3) rfl, List.forall_mem_cons.mpr ⟨List.mem_of_getElem? (i := 4) rfl, List.forall_mem_cons.mpr ⟨List.mem_of_getElem? (i := 5) rfl, List.forall_mem_cons.mpr ⟨List.mem_of_getElem? (i := 6) rfl, fun _ h => nomatch h⟩⟩⟩⟩⟩)

set_option maxRecDepth 100000 in
set_option maxHeartbeats 4000000 in
theorem lc_26 {V : V_T} {b x nw kp rd al m w im o Ln i : Nat} {xs : Nat → Int32} {T N : Nat → Nat} {I : IT} {L : LT} {R : RT} {A B : Nat → Prop} {ck sk : Nat} (C : Cl 40 q_law 601024 7293033 law_Po V) (S : SB V) (hL : LSc V b Ln xs) (E : LW T N R A B x nw kp rd al m w im o) (hi : i + 6 ≤ Ln) (hLn : Ln ≤ 3072) (hLI : LI T R A m I) (hRL : RLT x nw kp rd m w im I) (hck : ck + 3 ≤ 601024) (hsk : sk + 18 ≤ 7293033) (K : ∀ (lv : List (Nat × Value)) (I9 : IT) (L9 : LT) (ck9 sk9 : Nat), LI T R A m I9 → RLT x nw kp rd m w im I9 → ck9 ≤ ck + 3 → sk9 ≤ sk + 18 → (∀ z ∈ ([(4, .int (Int32.ofNat i)), (3, .ref o), (2, .ref m), (1, .ref x), (0, .ref b)] : List (Nat × Value)), z ∈ lv) → V 1899 lv [] (T, N, I9, L9, R) ck9 sk9) : V 1254 [(4, .int (Int32.ofNat i)), (3, .ref o), (2, .ref m), (1, .ref x), (0, .ref b)] [] (T, N, I, L, R) ck sk := by
  obtain ⟨H_x, H_m, ⟨T_o, N_o, A_o⟩, nAB, Rnw, Rkp, Rrd, hnk, Ral, Ras, Rw, Rim⟩ := id E
  have T_x := H_x.1
  have T_m := H_m.1
  have hB := True.intro
  refine k_aload_n C rfl rfl rfl ?_
  refine k_aload_n C rfl rfl rfl ?_
  refine k_iload C rfl rfl rfl ?_
  refine k_iconst C (x := 1) rfl rfl rfl ?_
  refine k_iadd C rfl rfl ?_
  refine hL.1 _ _ _ _ _ _ _ rfl (vsk hi hLn (c := 1) (by decide)) ?_
  refine k_aload_n C rfl rfl rfl ?_
  refine c_SI C (w_L_plain hLI.1 H_x T_o N_o A_o) rfl rfl rfl rfl rfl rfl rfl (by omega) (by omega) (Nat.le_of_ble_eq_true rfl) ?_
  rintro x3 I1 L2 ⟨h1, h2, c1⟩
  have h4 := LI.cls hLI H_m nAB h1 h2
  have s5 := SC.ci E c1 (by decide) (by decide) (by decide) (by decide) (by decide)
  have s6 := SM.fr E h2
  clear h1 h2 c1
  refine k_istore C (lw := [(5, .int _), (4, .int _), (3, _), (2, _), (1, _), (0, _)]) rfl rfl (Nat.le_of_ble_eq_true rfl) rfl ?_
  refine k_aload_n C rfl rfl rfl ?_
  refine k_aload_n C rfl rfl rfl ?_
  refine k_iload C rfl rfl rfl ?_
  refine k_iconst C (x := 1) rfl rfl rfl ?_
  refine k_iadd C rfl rfl ?_
  refine hL.1 _ _ _ _ _ _ _ rfl (vsk hi hLn (c := 1) (by decide)) ?_
  refine c_VI C (a_X12_plain h4.2.1 H_m) rfl rfl rfl rfl rfl ⟨_, rfl, rfl, H_m.1, Nat.le_of_ble_eq_true rfl⟩ rfl rfl (by omega) (by omega) (Nat.le_of_ble_eq_true rfl) ?_
  rintro x10 I7 L8 ⟨p0, p1, hM9, cm⟩
  have h9 := LI.ref0 h4 H_m nAB hM9 cm (by decide) (by decide) (by decide)
  have h11 := RLT.keep hRL s5 s6 (SC.cm E cm) (SM.cm E cm (by decide) (by decide) (by decide) (by decide))
  refine k_istore C (lw := [(6, .int _), (5, .int _), (4, .int _), (3, _), (2, _), (1, _), (0, _)]) rfl rfl (Nat.le_of_ble_eq_true rfl) rfl ?_
  refine k_goto C (pc2 := 1899) rfl rfl ?_
  exact K _ _ _ _ _ h9 h11 (by omega) (by omega) (List.forall_mem_cons.mpr ⟨List.mem_of_getElem? (i := 2) rfl, List.forall_mem_cons.mpr ⟨List.mem_of_getElem? (i := 3) rfl, List.forall_mem_cons.mpr ⟨List.mem_of_getElem? (i := 4) rfl, List.forall_mem_cons.mpr ⟨List.mem_of_getElem? (i := 5) rfl, List.forall_mem_cons.mpr ⟨List.mem_of_getElem? (i := 6) rfl, fun _ h => nomatch h⟩⟩⟩⟩⟩)

set_option maxRecDepth 100000 in
set_option maxHeartbeats 4000000 in
theorem lc_27 {V : V_T} {b x nw kp rd al m w im o Ln i : Nat} {xs : Nat → Int32} {T N : Nat → Nat} {I : IT} {L : LT} {R : RT} {A B : Nat → Prop} {ck sk : Nat} (C : Cl 40 q_law 601024 7293033 law_Po V) (S : SB V) (hL : LSc V b Ln xs) (E : LW T N R A B x nw kp rd al m w im o) (hi : i + 6 ≤ Ln) (hLn : Ln ≤ 3072) (hLI : LI T R A m I) (hRL : RLT x nw kp rd m w im I) (hck : ck + 3 ≤ 601024) (hsk : sk + 18 ≤ 7293033) (K : ∀ (lv : List (Nat × Value)) (I9 : IT) (L9 : LT) (ck9 sk9 : Nat), LI T R A m I9 → RLT x nw kp rd m w im I9 → ck9 ≤ ck + 3 → sk9 ≤ sk + 18 → (∀ z ∈ ([(4, .int (Int32.ofNat i)), (3, .ref o), (2, .ref m), (1, .ref x), (0, .ref b)] : List (Nat × Value)), z ∈ lv) → V 1899 lv [] (T, N, I9, L9, R) ck9 sk9) : V 1282 [(4, .int (Int32.ofNat i)), (3, .ref o), (2, .ref m), (1, .ref x), (0, .ref b)] [] (T, N, I, L, R) ck sk := by
  obtain ⟨H_x, H_m, ⟨T_o, N_o, A_o⟩, nAB, Rnw, Rkp, Rrd, hnk, Ral, Ras, Rw, Rim⟩ := id E
  have T_x := H_x.1
  have T_m := H_m.1
  have hB := True.intro
  refine k_aload_n C rfl rfl rfl ?_
  refine k_aload_n C rfl rfl rfl ?_
  refine k_iload C rfl rfl rfl ?_
  refine k_iconst C (x := 1) rfl rfl rfl ?_
  refine k_iadd C rfl rfl ?_
  refine hL.1 _ _ _ _ _ _ _ rfl (vsk hi hLn (c := 1) (by decide)) ?_
  refine k_aload_n C rfl rfl rfl ?_
  refine k_iload C rfl rfl rfl ?_
  refine k_iconst C (x := 2) rfl rfl rfl ?_
  refine k_iadd C rfl rfl ?_
  refine hL.1 _ _ _ _ _ _ _ rfl (vsk hi hLn (c := 2) (by decide)) ?_
  refine k_aload_n C rfl rfl rfl ?_
  refine c_SI C (w_L_root hLI.1 H_x T_o N_o A_o) rfl rfl rfl rfl rfl rfl rfl (by omega) (by omega) (Nat.le_of_ble_eq_true rfl) ?_
  rintro x3 I1 L2 ⟨h1, h2, c1⟩
  have h4 := LI.cls hLI H_m nAB h1 h2
  have s5 := SC.ci E c1 (by decide) (by decide) (by decide) (by decide) (by decide)
  have s6 := SM.fr E h2
  clear h1 h2 c1
  refine k_istore C (lw := [(5, .int _), (4, .int _), (3, _), (2, _), (1, _), (0, _)]) rfl rfl (Nat.le_of_ble_eq_true rfl) rfl ?_
  refine k_aload_n C rfl rfl rfl ?_
  refine k_aload_n C rfl rfl rfl ?_
  refine k_iload C rfl rfl rfl ?_
  refine k_iconst C (x := 1) rfl rfl rfl ?_
  refine k_iadd C rfl rfl ?_
  refine hL.1 _ _ _ _ _ _ _ rfl (vsk hi hLn (c := 1) (by decide)) ?_
  refine k_aload_n C rfl rfl rfl ?_
  refine k_iload C rfl rfl rfl ?_
  refine k_iconst C (x := 2) rfl rfl rfl ?_
  refine k_iadd C rfl rfl ?_
  refine hL.1 _ _ _ _ _ _ _ rfl (vsk hi hLn (c := 2) (by decide)) ?_
  refine c_VI C (a_X12_root h4.2.1 H_m) rfl rfl rfl rfl rfl ⟨_, rfl, rfl, H_m.1, Nat.le_of_ble_eq_true rfl⟩ rfl rfl (by omega) (by omega) (Nat.le_of_ble_eq_true rfl) ?_
  rintro x10 I7 L8 ⟨hM9, cm⟩
  have h9 := LI.ref0 h4 H_m nAB hM9 cm (by decide) (by decide) (by decide)
  have h11 := RLT.keep hRL s5 s6 (SC.cm E cm) (SM.cm E cm (by decide) (by decide) (by decide) (by decide))
  refine k_istore C (lw := [(6, .int _), (5, .int _), (4, .int _), (3, _), (2, _), (1, _), (0, _)]) rfl rfl (Nat.le_of_ble_eq_true rfl) rfl ?_
  refine k_goto C (pc2 := 1899) rfl rfl ?_
  exact K _ _ _ _ _ h9 h11 (by omega) (by omega) (List.forall_mem_cons.mpr ⟨List.mem_of_getElem? (i := 2) rfl, List.forall_mem_cons.mpr ⟨List.mem_of_getElem? (i := 3) rfl, List.forall_mem_cons.mpr ⟨List.mem_of_getElem? (i := 4) rfl, List.forall_mem_cons.mpr ⟨List.mem_of_getElem? (i := 5) rfl, List.forall_mem_cons.mpr ⟨List.mem_of_getElem? (i := 6) rfl, fun _ h => nomatch h⟩⟩⟩⟩⟩)

set_option maxRecDepth 100000 in
set_option maxHeartbeats 4000000 in
theorem lc_28 {V : V_T} {b x nw kp rd al m w im o Ln i : Nat} {xs : Nat → Int32} {T N : Nat → Nat} {I : IT} {L : LT} {R : RT} {A B : Nat → Prop} {ck sk : Nat} (C : Cl 40 q_law 601024 7293033 law_Po V) (S : SB V) (hL : LSc V b Ln xs) (E : LW T N R A B x nw kp rd al m w im o) (hi : i + 6 ≤ Ln) (hLn : Ln ≤ 3072) (hLI : LI T R A m I) (hRL : RLT x nw kp rd m w im I) (hck : ck + 3 ≤ 601024) (hsk : sk + 18 ≤ 7293033) (K : ∀ (lv : List (Nat × Value)) (I9 : IT) (L9 : LT) (ck9 sk9 : Nat), LI T R A m I9 → RLT x nw kp rd m w im I9 → ck9 ≤ ck + 3 → sk9 ≤ sk + 18 → (∀ z ∈ ([(4, .int (Int32.ofNat i)), (3, .ref o), (2, .ref m), (1, .ref x), (0, .ref b)] : List (Nat × Value)), z ∈ lv) → V 1899 lv [] (T, N, I9, L9, R) ck9 sk9) : V 1322 [(4, .int (Int32.ofNat i)), (3, .ref o), (2, .ref m), (1, .ref x), (0, .ref b)] [] (T, N, I, L, R) ck sk := by
  obtain ⟨H_x, H_m, ⟨T_o, N_o, A_o⟩, nAB, Rnw, Rkp, Rrd, hnk, Ral, Ras, Rw, Rim⟩ := id E
  have T_x := H_x.1
  have T_m := H_m.1
  have hB := True.intro
  refine k_aload_n C rfl rfl rfl ?_
  refine k_aload_n C rfl rfl rfl ?_
  refine k_iload C rfl rfl rfl ?_
  refine k_iconst C (x := 1) rfl rfl rfl ?_
  refine k_iadd C rfl rfl ?_
  refine hL.1 _ _ _ _ _ _ _ rfl (vsk hi hLn (c := 1) (by decide)) ?_
  refine k_aload_n C rfl rfl rfl ?_
  refine c_SI C (w_L_roots hLI.1 H_x T_o N_o A_o) rfl rfl rfl rfl rfl rfl rfl (by omega) (by omega) (Nat.le_of_ble_eq_true rfl) ?_
  rintro x3 I1 L2 ⟨h1, h2, c1⟩
  have h4 := LI.cls hLI H_m nAB h1 h2
  have s5 := SC.ci E c1 (by decide) (by decide) (by decide) (by decide) (by decide)
  have s6 := SM.fr E h2
  clear h1 h2 c1
  refine k_istore C (lw := [(5, .int _), (4, .int _), (3, _), (2, _), (1, _), (0, _)]) rfl rfl (Nat.le_of_ble_eq_true rfl) rfl ?_
  refine k_aload_n C rfl rfl rfl ?_
  refine k_aload_n C rfl rfl rfl ?_
  refine k_iload C rfl rfl rfl ?_
  refine k_iconst C (x := 1) rfl rfl rfl ?_
  refine k_iadd C rfl rfl ?_
  refine hL.1 _ _ _ _ _ _ _ rfl (vsk hi hLn (c := 1) (by decide)) ?_
  refine c_VI C (a_X12_roots h4.2.1 H_m) rfl rfl rfl rfl rfl ⟨_, rfl, rfl, H_m.1, Nat.le_of_ble_eq_true rfl⟩ rfl rfl (by omega) (by omega) (Nat.le_of_ble_eq_true rfl) ?_
  rintro x10 I7 L8 ⟨hM9, cm⟩
  have h9 := LI.ref0 h4 H_m nAB hM9 cm (by decide) (by decide) (by decide)
  have h11 := RLT.keep hRL s5 s6 (SC.cm E cm) (SM.cm E cm (by decide) (by decide) (by decide) (by decide))
  refine k_istore C (lw := [(6, .int _), (5, .int _), (4, .int _), (3, _), (2, _), (1, _), (0, _)]) rfl rfl (Nat.le_of_ble_eq_true rfl) rfl ?_
  refine k_goto C (pc2 := 1899) rfl rfl ?_
  exact K _ _ _ _ _ h9 h11 (by omega) (by omega) (List.forall_mem_cons.mpr ⟨List.mem_of_getElem? (i := 2) rfl, List.forall_mem_cons.mpr ⟨List.mem_of_getElem? (i := 3) rfl, List.forall_mem_cons.mpr ⟨List.mem_of_getElem? (i := 4) rfl, List.forall_mem_cons.mpr ⟨List.mem_of_getElem? (i := 5) rfl, List.forall_mem_cons.mpr ⟨List.mem_of_getElem? (i := 6) rfl, fun _ h => nomatch h⟩⟩⟩⟩⟩)

set_option maxRecDepth 100000 in
set_option maxHeartbeats 4000000 in
theorem lc_29 {V : V_T} {b x nw kp rd al m w im o Ln i : Nat} {xs : Nat → Int32} {T N : Nat → Nat} {I : IT} {L : LT} {R : RT} {A B : Nat → Prop} {ck sk : Nat} (C : Cl 40 q_law 601024 7293033 law_Po V) (S : SB V) (hL : LSc V b Ln xs) (E : LW T N R A B x nw kp rd al m w im o) (hi : i + 6 ≤ Ln) (hLn : Ln ≤ 3072) (hLI : LI T R A m I) (hRL : RLT x nw kp rd m w im I) (hck : ck + 3 ≤ 601024) (hsk : sk + 18 ≤ 7293033) (K : ∀ (lv : List (Nat × Value)) (I9 : IT) (L9 : LT) (ck9 sk9 : Nat), LI T R A m I9 → RLT x nw kp rd m w im I9 → ck9 ≤ ck + 3 → sk9 ≤ sk + 18 → (∀ z ∈ ([(4, .int (Int32.ofNat i)), (3, .ref o), (2, .ref m), (1, .ref x), (0, .ref b)] : List (Nat × Value)), z ∈ lv) → V 1899 lv [] (T, N, I9, L9, R) ck9 sk9) : V 1350 [(4, .int (Int32.ofNat i)), (3, .ref o), (2, .ref m), (1, .ref x), (0, .ref b)] [] (T, N, I, L, R) ck sk := by
  obtain ⟨H_x, H_m, ⟨T_o, N_o, A_o⟩, nAB, Rnw, Rkp, Rrd, hnk, Ral, Ras, Rw, Rim⟩ := id E
  have T_x := H_x.1
  have T_m := H_m.1
  have hB := True.intro
  refine k_aload_n C rfl rfl rfl ?_
  refine k_aload_n C rfl rfl rfl ?_
  refine k_iload C rfl rfl rfl ?_
  refine k_iconst C (x := 1) rfl rfl rfl ?_
  refine k_iadd C rfl rfl ?_
  refine hL.1 _ _ _ _ _ _ _ rfl (vsk hi hLn (c := 1) (by decide)) ?_
  refine k_aload_n C rfl rfl rfl ?_
  refine c_SI C (w_L_empty hLI.1 H_x T_o N_o A_o) rfl rfl rfl rfl rfl rfl rfl (by omega) (by omega) (Nat.le_of_ble_eq_true rfl) ?_
  rintro x3 I1 L2 ⟨h1, h2, c1⟩
  have h4 := LI.cls hLI H_m nAB h1 h2
  have s5 := SC.ci E c1 (by decide) (by decide) (by decide) (by decide) (by decide)
  have s6 := SM.fr E h2
  clear h1 h2 c1
  refine k_istore C (lw := [(5, .int _), (4, .int _), (3, _), (2, _), (1, _), (0, _)]) rfl rfl (Nat.le_of_ble_eq_true rfl) rfl ?_
  refine k_aload_n C rfl rfl rfl ?_
  refine k_aload_n C rfl rfl rfl ?_
  refine k_iload C rfl rfl rfl ?_
  refine k_iconst C (x := 1) rfl rfl rfl ?_
  refine k_iadd C rfl rfl ?_
  refine hL.1 _ _ _ _ _ _ _ rfl (vsk hi hLn (c := 1) (by decide)) ?_
  refine c_VI C (a_X12_empty h4.2.1 H_m) rfl rfl rfl rfl rfl ⟨_, rfl, rfl, H_m.1, Nat.le_of_ble_eq_true rfl⟩ rfl rfl (by omega) (by omega) (Nat.le_of_ble_eq_true rfl) ?_
  rintro x10 I7 L8 ⟨p0, p1, hM9, cm⟩
  have h9 := LI.ref0 h4 H_m nAB hM9 cm (by decide) (by decide) (by decide)
  have h11 := RLT.keep hRL s5 s6 (SC.cm E cm) (SM.cm E cm (by decide) (by decide) (by decide) (by decide))
  refine k_istore C (lw := [(6, .int _), (5, .int _), (4, .int _), (3, _), (2, _), (1, _), (0, _)]) rfl rfl (Nat.le_of_ble_eq_true rfl) rfl ?_
  refine k_goto C (pc2 := 1899) rfl rfl ?_
  exact K _ _ _ _ _ h9 h11 (by omega) (by omega) (List.forall_mem_cons.mpr ⟨List.mem_of_getElem? (i := 2) rfl, List.forall_mem_cons.mpr ⟨List.mem_of_getElem? (i := 3) rfl, List.forall_mem_cons.mpr ⟨List.mem_of_getElem? (i := 4) rfl, List.forall_mem_cons.mpr ⟨List.mem_of_getElem? (i := 5) rfl, List.forall_mem_cons.mpr ⟨List.mem_of_getElem? (i := 6) rfl, fun _ h => nomatch h⟩⟩⟩⟩⟩)

set_option maxRecDepth 100000 in
set_option maxHeartbeats 4000000 in
theorem lc_30 {V : V_T} {b x nw kp rd al m w im o Ln i : Nat} {xs : Nat → Int32} {T N : Nat → Nat} {I : IT} {L : LT} {R : RT} {A B : Nat → Prop} {ck sk : Nat} (C : Cl 40 q_law 601024 7293033 law_Po V) (S : SB V) (hL : LSc V b Ln xs) (E : LW T N R A B x nw kp rd al m w im o) (hi : i + 6 ≤ Ln) (hLn : Ln ≤ 3072) (hLI : LI T R A m I) (hRL : RLT x nw kp rd m w im I) (hck : ck + 3 ≤ 601024) (hsk : sk + 18 ≤ 7293033) (K : ∀ (lv : List (Nat × Value)) (I9 : IT) (L9 : LT) (ck9 sk9 : Nat), LI T R A m I9 → RLT x nw kp rd m w im I9 → ck9 ≤ ck + 3 → sk9 ≤ sk + 18 → (∀ z ∈ ([(4, .int (Int32.ofNat i)), (3, .ref o), (2, .ref m), (1, .ref x), (0, .ref b)] : List (Nat × Value)), z ∈ lv) → V 1899 lv [] (T, N, I9, L9, R) ck9 sk9) : V 1378 [(4, .int (Int32.ofNat i)), (3, .ref o), (2, .ref m), (1, .ref x), (0, .ref b)] [] (T, N, I, L, R) ck sk := by
  obtain ⟨H_x, H_m, ⟨T_o, N_o, A_o⟩, nAB, Rnw, Rkp, Rrd, hnk, Ral, Ras, Rw, Rim⟩ := id E
  have T_x := H_x.1
  have T_m := H_m.1
  have hB := True.intro
  refine k_aload_n C rfl rfl rfl ?_
  refine k_aload_n C rfl rfl rfl ?_
  refine k_iload C rfl rfl rfl ?_
  refine k_iconst C (x := 1) rfl rfl rfl ?_
  refine k_iadd C rfl rfl ?_
  refine hL.1 _ _ _ _ _ _ _ rfl (vsk hi hLn (c := 1) (by decide)) ?_
  refine k_aload_n C rfl rfl rfl ?_
  refine k_iload C rfl rfl rfl ?_
  refine k_iconst C (x := 2) rfl rfl rfl ?_
  refine k_iadd C rfl rfl ?_
  refine hL.1 _ _ _ _ _ _ _ rfl (vsk hi hLn (c := 2) (by decide)) ?_
  refine k_aload_n C rfl rfl rfl ?_
  refine c_SI C (w_L_same hLI.1 H_x T_o N_o A_o) rfl rfl rfl rfl rfl rfl rfl (by omega) (by omega) (Nat.le_of_ble_eq_true rfl) ?_
  rintro x3 I1 L2 ⟨h1, h2, c1⟩
  have h4 := LI.cls hLI H_m nAB h1 h2
  have s5 := SC.ci E c1 (by decide) (by decide) (by decide) (by decide) (by decide)
  have s6 := SM.fr E h2
  clear h1 h2 c1
  refine k_istore C (lw := [(5, .int _), (4, .int _), (3, _), (2, _), (1, _), (0, _)]) rfl rfl (Nat.le_of_ble_eq_true rfl) rfl ?_
  refine k_aload_n C rfl rfl rfl ?_
  refine k_aload_n C rfl rfl rfl ?_
  refine k_iload C rfl rfl rfl ?_
  refine k_iconst C (x := 1) rfl rfl rfl ?_
  refine k_iadd C rfl rfl ?_
  refine hL.1 _ _ _ _ _ _ _ rfl (vsk hi hLn (c := 1) (by decide)) ?_
  refine k_aload_n C rfl rfl rfl ?_
  refine k_iload C rfl rfl rfl ?_
  refine k_iconst C (x := 2) rfl rfl rfl ?_
  refine k_iadd C rfl rfl ?_
  refine hL.1 _ _ _ _ _ _ _ rfl (vsk hi hLn (c := 2) (by decide)) ?_
  refine c_VI C (a_X12_same h4.2.1 H_m) rfl rfl rfl rfl rfl ⟨_, rfl, rfl, H_m.1, Nat.le_of_ble_eq_true rfl⟩ rfl rfl (by omega) (by omega) (Nat.le_of_ble_eq_true rfl) ?_
  rintro x10 I7 L8 ⟨hM9, cm⟩
  have h9 := LI.ref0 h4 H_m nAB hM9 cm (by decide) (by decide) (by decide)
  have h11 := RLT.keep hRL s5 s6 (SC.cm E cm) (SM.cm E cm (by decide) (by decide) (by decide) (by decide))
  refine k_istore C (lw := [(6, .int _), (5, .int _), (4, .int _), (3, _), (2, _), (1, _), (0, _)]) rfl rfl (Nat.le_of_ble_eq_true rfl) rfl ?_
  refine k_goto C (pc2 := 1899) rfl rfl ?_
  exact K _ _ _ _ _ h9 h11 (by omega) (by omega) (List.forall_mem_cons.mpr ⟨List.mem_of_getElem? (i := 2) rfl, List.forall_mem_cons.mpr ⟨List.mem_of_getElem? (i := 3) rfl, List.forall_mem_cons.mpr ⟨List.mem_of_getElem? (i := 4) rfl, List.forall_mem_cons.mpr ⟨List.mem_of_getElem? (i := 5) rfl, List.forall_mem_cons.mpr ⟨List.mem_of_getElem? (i := 6) rfl, fun _ h => nomatch h⟩⟩⟩⟩⟩)

set_option maxRecDepth 100000 in
set_option maxHeartbeats 4000000 in
theorem lc_31 {V : V_T} {b x nw kp rd al m w im o Ln i : Nat} {xs : Nat → Int32} {T N : Nat → Nat} {I : IT} {L : LT} {R : RT} {A B : Nat → Prop} {ck sk : Nat} (C : Cl 40 q_law 601024 7293033 law_Po V) (S : SB V) (hL : LSc V b Ln xs) (E : LW T N R A B x nw kp rd al m w im o) (hi : i + 6 ≤ Ln) (hLn : Ln ≤ 3072) (hLI : LI T R A m I) (hRL : RLT x nw kp rd m w im I) (hck : ck + 3 ≤ 601024) (hsk : sk + 18 ≤ 7293033) (K : ∀ (lv : List (Nat × Value)) (I9 : IT) (L9 : LT) (ck9 sk9 : Nat), LI T R A m I9 → RLT x nw kp rd m w im I9 → ck9 ≤ ck + 3 → sk9 ≤ sk + 18 → (∀ z ∈ ([(4, .int (Int32.ofNat i)), (3, .ref o), (2, .ref m), (1, .ref x), (0, .ref b)] : List (Nat × Value)), z ∈ lv) → V 1899 lv [] (T, N, I9, L9, R) ck9 sk9) : V 1418 [(4, .int (Int32.ofNat i)), (3, .ref o), (2, .ref m), (1, .ref x), (0, .ref b)] [] (T, N, I, L, R) ck sk := by
  obtain ⟨H_x, H_m, ⟨T_o, N_o, A_o⟩, nAB, Rnw, Rkp, Rrd, hnk, Ral, Ras, Rw, Rim⟩ := id E
  have T_x := H_x.1
  have T_m := H_m.1
  have hB := True.intro
  refine k_aload_n C rfl rfl rfl ?_
  refine k_aload_n C rfl rfl rfl ?_
  refine k_iload C rfl rfl rfl ?_
  refine k_iconst C (x := 1) rfl rfl rfl ?_
  refine k_iadd C rfl rfl ?_
  refine hL.1 _ _ _ _ _ _ _ rfl (vsk hi hLn (c := 1) (by decide)) ?_
  refine k_aload_n C rfl rfl rfl ?_
  refine c_SI C (w_L_keep hLI.1 H_x T_o N_o A_o) rfl rfl rfl rfl rfl rfl rfl (by omega) (by omega) (Nat.le_of_ble_eq_true rfl) ?_
  rintro x3 I1 L2 ⟨h1, h2, c1⟩
  have h4 := LI.cls hLI H_m nAB h1 h2
  have s5 := SC.ci E c1 (by decide) (by decide) (by decide) (by decide) (by decide)
  have s6 := SM.fr E h2
  clear h1 h2 c1
  refine k_istore C (lw := [(5, .int _), (4, .int _), (3, _), (2, _), (1, _), (0, _)]) rfl rfl (Nat.le_of_ble_eq_true rfl) rfl ?_
  refine k_aload_n C rfl rfl rfl ?_
  refine k_aload_n C rfl rfl rfl ?_
  refine k_iload C rfl rfl rfl ?_
  refine k_iconst C (x := 1) rfl rfl rfl ?_
  refine k_iadd C rfl rfl ?_
  refine hL.1 _ _ _ _ _ _ _ rfl (vsk hi hLn (c := 1) (by decide)) ?_
  refine c_VI C (a_X12_keep h4.2.1 H_m) rfl rfl rfl rfl rfl ⟨_, rfl, rfl, H_m.1, Nat.le_of_ble_eq_true rfl⟩ rfl rfl (by omega) (by omega) (Nat.le_of_ble_eq_true rfl) ?_
  rintro x10 I7 L8 ⟨hM9, cm⟩
  have h9 := LI.ref0 h4 H_m nAB hM9 cm (by decide) (by decide) (by decide)
  have h11 := RLT.keep hRL s5 s6 (SC.cm E cm) (SM.cm E cm (by decide) (by decide) (by decide) (by decide))
  refine k_istore C (lw := [(6, .int _), (5, .int _), (4, .int _), (3, _), (2, _), (1, _), (0, _)]) rfl rfl (Nat.le_of_ble_eq_true rfl) rfl ?_
  refine k_goto C (pc2 := 1899) rfl rfl ?_
  exact K _ _ _ _ _ h9 h11 (by omega) (by omega) (List.forall_mem_cons.mpr ⟨List.mem_of_getElem? (i := 2) rfl, List.forall_mem_cons.mpr ⟨List.mem_of_getElem? (i := 3) rfl, List.forall_mem_cons.mpr ⟨List.mem_of_getElem? (i := 4) rfl, List.forall_mem_cons.mpr ⟨List.mem_of_getElem? (i := 5) rfl, List.forall_mem_cons.mpr ⟨List.mem_of_getElem? (i := 6) rfl, fun _ h => nomatch h⟩⟩⟩⟩⟩)

set_option maxRecDepth 100000 in
set_option maxHeartbeats 4000000 in
theorem lc_32 {V : V_T} {b x nw kp rd al m w im o Ln i : Nat} {xs : Nat → Int32} {T N : Nat → Nat} {I : IT} {L : LT} {R : RT} {A B : Nat → Prop} {ck sk : Nat} (C : Cl 40 q_law 601024 7293033 law_Po V) (S : SB V) (hL : LSc V b Ln xs) (E : LW T N R A B x nw kp rd al m w im o) (hi : i + 6 ≤ Ln) (hLn : Ln ≤ 3072) (hLI : LI T R A m I) (hRL : RLT x nw kp rd m w im I) (hck : ck + 3 ≤ 601024) (hsk : sk + 18 ≤ 7293033) (K : ∀ (lv : List (Nat × Value)) (I9 : IT) (L9 : LT) (ck9 sk9 : Nat), LI T R A m I9 → RLT x nw kp rd m w im I9 → ck9 ≤ ck + 3 → sk9 ≤ sk + 18 → (∀ z ∈ ([(4, .int (Int32.ofNat i)), (3, .ref o), (2, .ref m), (1, .ref x), (0, .ref b)] : List (Nat × Value)), z ∈ lv) → V 1899 lv [] (T, N, I9, L9, R) ck9 sk9) : V 1446 [(4, .int (Int32.ofNat i)), (3, .ref o), (2, .ref m), (1, .ref x), (0, .ref b)] [] (T, N, I, L, R) ck sk := by
  obtain ⟨H_x, H_m, ⟨T_o, N_o, A_o⟩, nAB, Rnw, Rkp, Rrd, hnk, Ral, Ras, Rw, Rim⟩ := id E
  have T_x := H_x.1
  have T_m := H_m.1
  have hB := True.intro
  refine k_aload_n C rfl rfl rfl ?_
  refine k_aload_n C rfl rfl rfl ?_
  refine k_iload C rfl rfl rfl ?_
  refine k_iconst C (x := 1) rfl rfl rfl ?_
  refine k_iadd C rfl rfl ?_
  refine hL.1 _ _ _ _ _ _ _ rfl (vsk hi hLn (c := 1) (by decide)) ?_
  refine k_aload_n C rfl rfl rfl ?_
  refine k_iload C rfl rfl rfl ?_
  refine k_iconst C (x := 2) rfl rfl rfl ?_
  refine k_iadd C rfl rfl ?_
  refine hL.1 _ _ _ _ _ _ _ rfl (vsk hi hLn (c := 2) (by decide)) ?_
  refine k_aload_n C rfl rfl rfl ?_
  refine c_SI C (w_L_powers hLI.1 H_x T_o N_o A_o) rfl rfl rfl rfl rfl rfl rfl (by omega) (by omega) (Nat.le_of_ble_eq_true rfl) ?_
  rintro x3 I1 L2 ⟨h1, h2, c1⟩
  have h4 := LI.cls hLI H_m nAB h1 h2
  have s5 := SC.ci E c1 (by decide) (by decide) (by decide) (by decide) (by decide)
  have s6 := SM.fr E h2
  clear h1 h2 c1
  refine k_istore C (lw := [(5, .int _), (4, .int _), (3, _), (2, _), (1, _), (0, _)]) rfl rfl (Nat.le_of_ble_eq_true rfl) rfl ?_
  refine k_aload_n C rfl rfl rfl ?_
  refine k_aload_n C rfl rfl rfl ?_
  refine k_iload C rfl rfl rfl ?_
  refine k_iconst C (x := 1) rfl rfl rfl ?_
  refine k_iadd C rfl rfl ?_
  refine hL.1 _ _ _ _ _ _ _ rfl (vsk hi hLn (c := 1) (by decide)) ?_
  refine k_aload_n C rfl rfl rfl ?_
  refine k_iload C rfl rfl rfl ?_
  refine k_iconst C (x := 2) rfl rfl rfl ?_
  refine k_iadd C rfl rfl ?_
  refine hL.1 _ _ _ _ _ _ _ rfl (vsk hi hLn (c := 2) (by decide)) ?_
  refine c_VI C (a_X12_powers h4.2.1 H_m) rfl rfl rfl rfl rfl ⟨_, rfl, rfl, H_m.1, Nat.le_of_ble_eq_true rfl⟩ rfl rfl (by omega) (by omega) (Nat.le_of_ble_eq_true rfl) ?_
  rintro x10 I7 L8 ⟨hM9, cm⟩
  have h9 := LI.ref0 h4 H_m nAB hM9 cm (by decide) (by decide) (by decide)
  have h11 := RLT.keep hRL s5 s6 (SC.cm E cm) (SM.cm E cm (by decide) (by decide) (by decide) (by decide))
  refine k_istore C (lw := [(6, .int _), (5, .int _), (4, .int _), (3, _), (2, _), (1, _), (0, _)]) rfl rfl (Nat.le_of_ble_eq_true rfl) rfl ?_
  refine k_goto C (pc2 := 1899) rfl rfl ?_
  exact K _ _ _ _ _ h9 h11 (by omega) (by omega) (List.forall_mem_cons.mpr ⟨List.mem_of_getElem? (i := 2) rfl, List.forall_mem_cons.mpr ⟨List.mem_of_getElem? (i := 3) rfl, List.forall_mem_cons.mpr ⟨List.mem_of_getElem? (i := 4) rfl, List.forall_mem_cons.mpr ⟨List.mem_of_getElem? (i := 5) rfl, List.forall_mem_cons.mpr ⟨List.mem_of_getElem? (i := 6) rfl, fun _ h => nomatch h⟩⟩⟩⟩⟩)

set_option maxRecDepth 100000 in
set_option maxHeartbeats 4000000 in
theorem lc_33 {V : V_T} {b x nw kp rd al m w im o Ln i : Nat} {xs : Nat → Int32} {T N : Nat → Nat} {I : IT} {L : LT} {R : RT} {A B : Nat → Prop} {ck sk : Nat} (C : Cl 40 q_law 601024 7293033 law_Po V) (S : SB V) (hL : LSc V b Ln xs) (E : LW T N R A B x nw kp rd al m w im o) (hi : i + 6 ≤ Ln) (hLn : Ln ≤ 3072) (hLI : LI T R A m I) (hRL : RLT x nw kp rd m w im I) (hck : ck + 3 ≤ 601024) (hsk : sk + 18 ≤ 7293033) (K : ∀ (lv : List (Nat × Value)) (I9 : IT) (L9 : LT) (ck9 sk9 : Nat), LI T R A m I9 → RLT x nw kp rd m w im I9 → ck9 ≤ ck + 3 → sk9 ≤ sk + 18 → (∀ z ∈ ([(4, .int (Int32.ofNat i)), (3, .ref o), (2, .ref m), (1, .ref x), (0, .ref b)] : List (Nat × Value)), z ∈ lv) → V 1899 lv [] (T, N, I9, L9, R) ck9 sk9) : V 1486 [(4, .int (Int32.ofNat i)), (3, .ref o), (2, .ref m), (1, .ref x), (0, .ref b)] [] (T, N, I, L, R) ck sk := by
  obtain ⟨H_x, H_m, ⟨T_o, N_o, A_o⟩, nAB, Rnw, Rkp, Rrd, hnk, Ral, Ras, Rw, Rim⟩ := id E
  have T_x := H_x.1
  have T_m := H_m.1
  have hB := True.intro
  refine k_aload_n C rfl rfl rfl ?_
  refine k_aload_n C rfl rfl rfl ?_
  refine k_iload C rfl rfl rfl ?_
  refine k_iconst C (x := 1) rfl rfl rfl ?_
  refine k_iadd C rfl rfl ?_
  refine hL.1 _ _ _ _ _ _ _ rfl (vsk hi hLn (c := 1) (by decide)) ?_
  refine k_aload_n C rfl rfl rfl ?_
  refine k_iload C rfl rfl rfl ?_
  refine k_iconst C (x := 2) rfl rfl rfl ?_
  refine k_iadd C rfl rfl ?_
  refine hL.1 _ _ _ _ _ _ _ rfl (vsk hi hLn (c := 2) (by decide)) ?_
  refine k_aload_n C rfl rfl rfl ?_
  refine k_iload C rfl rfl rfl ?_
  refine k_iconst C (x := 3) rfl rfl rfl ?_
  refine k_iadd C rfl rfl ?_
  refine hL.1 _ _ _ _ _ _ _ rfl (vsk hi hLn (c := 3) (by decide)) ?_
  refine k_aload_n C rfl rfl rfl ?_
  refine c_SI C (w_L_common hLI.1 H_x T_o N_o A_o) rfl rfl rfl rfl rfl rfl rfl (by omega) (by omega) (Nat.le_of_ble_eq_true rfl) ?_
  rintro x3 I1 L2 ⟨h1, h2, c1⟩
  have h4 := LI.cls hLI H_m nAB h1 h2
  have s5 := SC.ci E c1 (by decide) (by decide) (by decide) (by decide) (by decide)
  have s6 := SM.fr E h2
  clear h1 h2 c1
  refine k_istore C (lw := [(5, .int _), (4, .int _), (3, _), (2, _), (1, _), (0, _)]) rfl rfl (Nat.le_of_ble_eq_true rfl) rfl ?_
  refine k_aload_n C rfl rfl rfl ?_
  refine k_aload_n C rfl rfl rfl ?_
  refine k_iload C rfl rfl rfl ?_
  refine k_iconst C (x := 1) rfl rfl rfl ?_
  refine k_iadd C rfl rfl ?_
  refine hL.1 _ _ _ _ _ _ _ rfl (vsk hi hLn (c := 1) (by decide)) ?_
  refine k_aload_n C rfl rfl rfl ?_
  refine k_iload C rfl rfl rfl ?_
  refine k_iconst C (x := 2) rfl rfl rfl ?_
  refine k_iadd C rfl rfl ?_
  refine hL.1 _ _ _ _ _ _ _ rfl (vsk hi hLn (c := 2) (by decide)) ?_
  refine k_aload_n C rfl rfl rfl ?_
  refine k_iload C rfl rfl rfl ?_
  refine k_iconst C (x := 3) rfl rfl rfl ?_
  refine k_iadd C rfl rfl ?_
  refine hL.1 _ _ _ _ _ _ _ rfl (vsk hi hLn (c := 3) (by decide)) ?_
  refine c_VI C (a_X12_common h4.2.1 H_m) rfl rfl rfl rfl rfl ⟨_, rfl, rfl, H_m.1, Nat.le_of_ble_eq_true rfl⟩ rfl rfl (by omega) (by omega) (Nat.le_of_ble_eq_true rfl) ?_
  rintro x10 I7 L8 ⟨p0, p1, hM9, cm⟩
  have h9 := LI.ref0 h4 H_m nAB hM9 cm (by decide) (by decide) (by decide)
  have h11 := RLT.keep hRL s5 s6 (SC.cm E cm) (SM.cm E cm (by decide) (by decide) (by decide) (by decide))
  refine k_istore C (lw := [(6, .int _), (5, .int _), (4, .int _), (3, _), (2, _), (1, _), (0, _)]) rfl rfl (Nat.le_of_ble_eq_true rfl) rfl ?_
  refine k_goto C (pc2 := 1899) rfl rfl ?_
  exact K _ _ _ _ _ h9 h11 (by omega) (by omega) (List.forall_mem_cons.mpr ⟨List.mem_of_getElem? (i := 2) rfl, List.forall_mem_cons.mpr ⟨List.mem_of_getElem? (i := 3) rfl, List.forall_mem_cons.mpr ⟨List.mem_of_getElem? (i := 4) rfl, List.forall_mem_cons.mpr ⟨List.mem_of_getElem? (i := 5) rfl, List.forall_mem_cons.mpr ⟨List.mem_of_getElem? (i := 6) rfl, fun _ h => nomatch h⟩⟩⟩⟩⟩)

set_option maxRecDepth 100000 in
set_option maxHeartbeats 4000000 in
theorem lc_34 {V : V_T} {b x nw kp rd al m w im o Ln i : Nat} {xs : Nat → Int32} {T N : Nat → Nat} {I : IT} {L : LT} {R : RT} {A B : Nat → Prop} {ck sk : Nat} (C : Cl 40 q_law 601024 7293033 law_Po V) (S : SB V) (hL : LSc V b Ln xs) (E : LW T N R A B x nw kp rd al m w im o) (hi : i + 6 ≤ Ln) (hLn : Ln ≤ 3072) (hLI : LI T R A m I) (hRL : RLT x nw kp rd m w im I) (hck : ck + 3 ≤ 601024) (hsk : sk + 18 ≤ 7293033) (K : ∀ (lv : List (Nat × Value)) (I9 : IT) (L9 : LT) (ck9 sk9 : Nat), LI T R A m I9 → RLT x nw kp rd m w im I9 → ck9 ≤ ck + 3 → sk9 ≤ sk + 18 → (∀ z ∈ ([(4, .int (Int32.ofNat i)), (3, .ref o), (2, .ref m), (1, .ref x), (0, .ref b)] : List (Nat × Value)), z ∈ lv) → V 1899 lv [] (T, N, I9, L9, R) ck9 sk9) : V 1538 [(4, .int (Int32.ofNat i)), (3, .ref o), (2, .ref m), (1, .ref x), (0, .ref b)] [] (T, N, I, L, R) ck sk := by
  obtain ⟨H_x, H_m, ⟨T_o, N_o, A_o⟩, nAB, Rnw, Rkp, Rrd, hnk, Ral, Ras, Rw, Rim⟩ := id E
  have T_x := H_x.1
  have T_m := H_m.1
  have hB := True.intro
  refine k_aload_n C rfl rfl rfl ?_
  refine k_aload_n C rfl rfl rfl ?_
  refine k_iload C rfl rfl rfl ?_
  refine k_iconst C (x := 1) rfl rfl rfl ?_
  refine k_iadd C rfl rfl ?_
  refine hL.1 _ _ _ _ _ _ _ rfl (vsk hi hLn (c := 1) (by decide)) ?_
  refine k_aload_n C rfl rfl rfl ?_
  refine k_iload C rfl rfl rfl ?_
  refine k_iconst C (x := 2) rfl rfl rfl ?_
  refine k_iadd C rfl rfl ?_
  refine hL.1 _ _ _ _ _ _ _ rfl (vsk hi hLn (c := 2) (by decide)) ?_
  refine k_aload_n C rfl rfl rfl ?_
  refine k_iload C rfl rfl rfl ?_
  refine k_iconst C (x := 3) rfl rfl rfl ?_
  refine k_iadd C rfl rfl ?_
  refine hL.1 _ _ _ _ _ _ _ rfl (vsk hi hLn (c := 3) (by decide)) ?_
  refine k_aload_n C rfl rfl rfl ?_
  refine k_iload C rfl rfl rfl ?_
  refine k_iconst C (x := 4) rfl rfl rfl ?_
  refine k_iadd C rfl rfl ?_
  refine hL.1 _ _ _ _ _ _ _ rfl (vsk hi hLn (c := 4) (by decide)) ?_
  refine k_aload_n C rfl rfl rfl ?_
  refine c_SI C (w_L_overlap hLI.1 H_x T_o N_o A_o) rfl rfl rfl rfl rfl rfl rfl (by omega) (by omega) (Nat.le_of_ble_eq_true rfl) ?_
  rintro x3 I1 L2 ⟨h1, h2, c1⟩
  have h4 := LI.cls hLI H_m nAB h1 h2
  have s5 := SC.ci E c1 (by decide) (by decide) (by decide) (by decide) (by decide)
  have s6 := SM.fr E h2
  clear h1 h2 c1
  refine k_istore C (lw := [(5, .int _), (4, .int _), (3, _), (2, _), (1, _), (0, _)]) rfl rfl (Nat.le_of_ble_eq_true rfl) rfl ?_
  refine k_aload_n C rfl rfl rfl ?_
  refine k_aload_n C rfl rfl rfl ?_
  refine k_iload C rfl rfl rfl ?_
  refine k_iconst C (x := 1) rfl rfl rfl ?_
  refine k_iadd C rfl rfl ?_
  refine hL.1 _ _ _ _ _ _ _ rfl (vsk hi hLn (c := 1) (by decide)) ?_
  refine k_aload_n C rfl rfl rfl ?_
  refine k_iload C rfl rfl rfl ?_
  refine k_iconst C (x := 2) rfl rfl rfl ?_
  refine k_iadd C rfl rfl ?_
  refine hL.1 _ _ _ _ _ _ _ rfl (vsk hi hLn (c := 2) (by decide)) ?_
  refine k_aload_n C rfl rfl rfl ?_
  refine k_iload C rfl rfl rfl ?_
  refine k_iconst C (x := 3) rfl rfl rfl ?_
  refine k_iadd C rfl rfl ?_
  refine hL.1 _ _ _ _ _ _ _ rfl (vsk hi hLn (c := 3) (by decide)) ?_
  refine k_aload_n C rfl rfl rfl ?_
  refine k_iload C rfl rfl rfl ?_
  refine k_iconst C (x := 4) rfl rfl rfl ?_
  refine k_iadd C rfl rfl ?_
  refine hL.1 _ _ _ _ _ _ _ rfl (vsk hi hLn (c := 4) (by decide)) ?_
  refine c_VI C (a_X12_overlap h4.2.1 H_m) rfl rfl rfl rfl rfl ⟨_, rfl, rfl, H_m.1, Nat.le_of_ble_eq_true rfl⟩ rfl rfl (by omega) (by omega) (Nat.le_of_ble_eq_true rfl) ?_
  rintro x10 I7 L8 ⟨p0, p1, hM9, cm⟩
  have h9 := LI.ref0 h4 H_m nAB hM9 cm (by decide) (by decide) (by decide)
  have h11 := RLT.keep hRL s5 s6 (SC.cm E cm) (SM.cm E cm (by decide) (by decide) (by decide) (by decide))
  refine k_istore C (lw := [(6, .int _), (5, .int _), (4, .int _), (3, _), (2, _), (1, _), (0, _)]) rfl rfl (Nat.le_of_ble_eq_true rfl) rfl ?_
  refine k_goto C (pc2 := 1899) rfl rfl ?_
  exact K _ _ _ _ _ h9 h11 (by omega) (by omega) (List.forall_mem_cons.mpr ⟨List.mem_of_getElem? (i := 2) rfl, List.forall_mem_cons.mpr ⟨List.mem_of_getElem? (i := 3) rfl, List.forall_mem_cons.mpr ⟨List.mem_of_getElem? (i := 4) rfl, List.forall_mem_cons.mpr ⟨List.mem_of_getElem? (i := 5) rfl, List.forall_mem_cons.mpr ⟨List.mem_of_getElem? (i := 6) rfl, fun _ h => nomatch h⟩⟩⟩⟩⟩)

set_option maxRecDepth 100000 in
set_option maxHeartbeats 4000000 in
theorem lc_35 {V : V_T} {b x nw kp rd al m w im o Ln i : Nat} {xs : Nat → Int32} {T N : Nat → Nat} {I : IT} {L : LT} {R : RT} {A B : Nat → Prop} {ck sk : Nat} (C : Cl 40 q_law 601024 7293033 law_Po V) (S : SB V) (hL : LSc V b Ln xs) (E : LW T N R A B x nw kp rd al m w im o) (hi : i + 6 ≤ Ln) (hLn : Ln ≤ 3072) (hLI : LI T R A m I) (hRL : RLT x nw kp rd m w im I) (hck : ck + 3 ≤ 601024) (hsk : sk + 18 ≤ 7293033) (K : ∀ (lv : List (Nat × Value)) (I9 : IT) (L9 : LT) (ck9 sk9 : Nat), LI T R A m I9 → RLT x nw kp rd m w im I9 → ck9 ≤ ck + 3 → sk9 ≤ sk + 18 → (∀ z ∈ ([(4, .int (Int32.ofNat i)), (3, .ref o), (2, .ref m), (1, .ref x), (0, .ref b)] : List (Nat × Value)), z ∈ lv) → V 1899 lv [] (T, N, I9, L9, R) ck9 sk9) : V 1602 [(4, .int (Int32.ofNat i)), (3, .ref o), (2, .ref m), (1, .ref x), (0, .ref b)] [] (T, N, I, L, R) ck sk := by
  obtain ⟨H_x, H_m, ⟨T_o, N_o, A_o⟩, nAB, Rnw, Rkp, Rrd, hnk, Ral, Ras, Rw, Rim⟩ := id E
  have T_x := H_x.1
  have T_m := H_m.1
  have hB := True.intro
  refine k_aload_n C rfl rfl rfl ?_
  refine k_aload_n C rfl rfl rfl ?_
  refine k_iload C rfl rfl rfl ?_
  refine k_iconst C (x := 1) rfl rfl rfl ?_
  refine k_iadd C rfl rfl ?_
  refine hL.1 _ _ _ _ _ _ _ rfl (vsk hi hLn (c := 1) (by decide)) ?_
  refine k_aload_n C rfl rfl rfl ?_
  refine k_iload C rfl rfl rfl ?_
  refine k_iconst C (x := 2) rfl rfl rfl ?_
  refine k_iadd C rfl rfl ?_
  refine hL.1 _ _ _ _ _ _ _ rfl (vsk hi hLn (c := 2) (by decide)) ?_
  refine k_aload_n C rfl rfl rfl ?_
  refine k_iload C rfl rfl rfl ?_
  refine k_iconst C (x := 3) rfl rfl rfl ?_
  refine k_iadd C rfl rfl ?_
  refine hL.1 _ _ _ _ _ _ _ rfl (vsk hi hLn (c := 3) (by decide)) ?_
  refine k_aload_n C rfl rfl rfl ?_
  refine k_iload C rfl rfl rfl ?_
  refine k_iconst C (x := 4) rfl rfl rfl ?_
  refine k_iadd C rfl rfl ?_
  refine hL.1 _ _ _ _ _ _ _ rfl (vsk hi hLn (c := 4) (by decide)) ?_
  refine k_aload_n C rfl rfl rfl ?_
  have hB := True.intro
  have T_x := H_x.1
  have T_m := H_m.1
  obtain ⟨wh, R_x_10, T_wh, A_wh⟩ := LF.wh H_x
  obtain ⟨wl, R_m_34, T_wl, N_wl, B_wl⟩ := MD.wl H_m
  have hA : ∀ a, (a = wh ∨ a = o) → A a ∧ (T a = 11 ∨ T a = 21) := by (rintro a (rfl | rfl)); exact ⟨A_wh, Or.inl T_wh⟩; exact ⟨A_o, Or.inr T_o⟩
  by_cases hok : okRed (xs (Int32.ofNat i + 1).toNatClampNeg) (xs (Int32.ofNat i + 2).toNatClampNeg) (xs (Int32.ofNat i + 3).toNatClampNeg)
  · skip
    by_cases hn : 0 ≤ (xs (Int32.ofNat i + 4).toNatClampNeg).toInt ∧ (xs (Int32.ofNat i + 4).toNatClampNeg).toInt ≤ 8
    · skip
      refine c_SI C (e_L_reduced_yes (A := fun a => a = wh ∨ a = o) T_x R_x_10 T_wh (Or.inl rfl) T_o N_o (Or.inr rfl) hok hn) rfl rfl rfl rfl rfl rfl rfl (by omega) (by omega) (Nat.le_of_ble_eq_true rfl) ?_
      rintro x4 I1 L2 ⟨rfl, f1, v1⟩
      have h3 := LI.cfr hLI H_m nAB hA f1
      have s5 := SC.ff E hA f1
      have s6 := SM.ff E hA f1
      refine k_istore C (lw := [(5, .int _), (4, .int _), (3, _), (2, _), (1, _), (0, _)]) rfl rfl (Nat.le_of_ble_eq_true rfl) rfl ?_
      refine k_aload_n C rfl rfl rfl ?_
      refine k_aload_n C rfl rfl rfl ?_
      refine k_iload C rfl rfl rfl ?_
      refine k_iconst C (x := 1) rfl rfl rfl ?_
      refine k_iadd C rfl rfl ?_
      refine hL.1 _ _ _ _ _ _ _ rfl (vsk hi hLn (c := 1) (by decide)) ?_
      refine k_aload_n C rfl rfl rfl ?_
      refine k_iload C rfl rfl rfl ?_
      refine k_iconst C (x := 2) rfl rfl rfl ?_
      refine k_iadd C rfl rfl ?_
      refine hL.1 _ _ _ _ _ _ _ rfl (vsk hi hLn (c := 2) (by decide)) ?_
      refine k_aload_n C rfl rfl rfl ?_
      refine k_iload C rfl rfl rfl ?_
      refine k_iconst C (x := 3) rfl rfl rfl ?_
      refine k_iadd C rfl rfl ?_
      refine hL.1 _ _ _ _ _ _ _ rfl (vsk hi hLn (c := 3) (by decide)) ?_
      refine k_aload_n C rfl rfl rfl ?_
      refine k_iload C rfl rfl rfl ?_
      refine k_iconst C (x := 4) rfl rfl rfl ?_
      refine k_iadd C rfl rfl ?_
      refine hL.1 _ _ _ _ _ _ _ rfl (vsk hi hLn (c := 4) (by decide)) ?_
      refine c_VL C (e_m_reduced_yes (A := fun a => a = m ∨ R m 21 = some a ∨ R m 34 = some a) T_m (Or.inl rfl) R_m_34 T_wl N_wl (Or.inr (Or.inr R_m_34)) hok hn) rfl rfl rfl rfl rfl ⟨_, rfl, rfl, H_m.1, Nat.le_of_ble_eq_true rfl⟩ rfl rfl (by omega) (by omega) (Nat.le_of_ble_eq_true rfl) ?_
      rintro x11 I7 L8 ⟨rfl, f2, z2, k2⟩
      have h9 := LI.rfr h3 H_m nAB hB f2 k2
      have h10 := RLT.keep hRL s5 s6 (SC.rf9 E f2) (SM.rf9 E f2 k2)
      refine k_lstore C (lw := [(6, .long _), (5, .int _), (4, .int _), (3, _), (2, _), (1, _), (0, _)]) rfl rfl (Nat.le_of_ble_eq_true rfl) rfl ?_
      refine k_goto C (pc2 := 1899) rfl rfl ?_
      exact K _ _ _ _ _ h9 h10 (by omega) (by omega) (List.forall_mem_cons.mpr ⟨List.mem_of_getElem? (i := 2) rfl, List.forall_mem_cons.mpr ⟨List.mem_of_getElem? (i := 3) rfl, List.forall_mem_cons.mpr ⟨List.mem_of_getElem? (i := 4) rfl, List.forall_mem_cons.mpr ⟨List.mem_of_getElem? (i := 5) rfl, List.forall_mem_cons.mpr ⟨List.mem_of_getElem? (i := 6) rfl, fun _ h => nomatch h⟩⟩⟩⟩⟩)
    · skip
      refine c_SI C (e_L_reduced_nse T_x hok hn) rfl rfl rfl rfl rfl rfl rfl (by omega) (by omega) (Nat.le_of_ble_eq_true rfl) ?_
      rintro x15 I12 L13 ⟨rfl, hI8, hL9⟩
      have hI8 := hI8.symm; subst hI8; have hL9 := hL9.symm; subst hL9
      refine k_istore C (lw := [(5, .int _), (4, .int _), (3, _), (2, _), (1, _), (0, _)]) rfl rfl (Nat.le_of_ble_eq_true rfl) rfl ?_
      refine k_aload_n C rfl rfl rfl ?_
      refine k_aload_n C rfl rfl rfl ?_
      refine k_iload C rfl rfl rfl ?_
      refine k_iconst C (x := 1) rfl rfl rfl ?_
      refine k_iadd C rfl rfl ?_
      refine hL.1 _ _ _ _ _ _ _ rfl (vsk hi hLn (c := 1) (by decide)) ?_
      refine k_aload_n C rfl rfl rfl ?_
      refine k_iload C rfl rfl rfl ?_
      refine k_iconst C (x := 2) rfl rfl rfl ?_
      refine k_iadd C rfl rfl ?_
      refine hL.1 _ _ _ _ _ _ _ rfl (vsk hi hLn (c := 2) (by decide)) ?_
      refine k_aload_n C rfl rfl rfl ?_
      refine k_iload C rfl rfl rfl ?_
      refine k_iconst C (x := 3) rfl rfl rfl ?_
      refine k_iadd C rfl rfl ?_
      refine hL.1 _ _ _ _ _ _ _ rfl (vsk hi hLn (c := 3) (by decide)) ?_
      refine k_aload_n C rfl rfl rfl ?_
      refine k_iload C rfl rfl rfl ?_
      refine k_iconst C (x := 4) rfl rfl rfl ?_
      refine k_iadd C rfl rfl ?_
      refine hL.1 _ _ _ _ _ _ _ rfl (vsk hi hLn (c := 4) (by decide)) ?_
      refine c_VL C (e_m_reduced_nse (A := fun a => a = m ∨ R m 21 = some a ∨ R m 34 = some a) T_m (Or.inl rfl) hok hn) rfl rfl rfl rfl rfl ⟨_, rfl, rfl, H_m.1, Nat.le_of_ble_eq_true rfl⟩ rfl rfl (by omega) (by omega) (Nat.le_of_ble_eq_true rfl) ?_
      rintro x20 I16 L17 ⟨f2, z2, k2⟩
      have h18 := LI.rfr hLI H_m nAB hB f2 k2
      have h19 := RLT.keep hRL (SC.b E (fun _ _ => rfl)) (by unfold SM; exact ⟨rfl, rfl, rfl, rfl, rfl, rfl, rfl, rfl⟩) (SC.rf9 E f2) (SM.rf9 E f2 k2)
      refine k_lstore C (lw := [(6, .long _), (5, .int _), (4, .int _), (3, _), (2, _), (1, _), (0, _)]) rfl rfl (Nat.le_of_ble_eq_true rfl) rfl ?_
      refine k_goto C (pc2 := 1899) rfl rfl ?_
      exact K _ _ _ _ _ h18 h19 (by omega) (by omega) (List.forall_mem_cons.mpr ⟨List.mem_of_getElem? (i := 2) rfl, List.forall_mem_cons.mpr ⟨List.mem_of_getElem? (i := 3) rfl, List.forall_mem_cons.mpr ⟨List.mem_of_getElem? (i := 4) rfl, List.forall_mem_cons.mpr ⟨List.mem_of_getElem? (i := 5) rfl, List.forall_mem_cons.mpr ⟨List.mem_of_getElem? (i := 6) rfl, fun _ h => nomatch h⟩⟩⟩⟩⟩)
  · skip
    refine c_SI C (e_L_reduced_no T_x hok) rfl rfl rfl rfl rfl rfl rfl (by omega) (by omega) (Nat.le_of_ble_eq_true rfl) ?_
    rintro x24 I21 L22 ⟨rfl, hI8, hL9⟩
    have hI8 := hI8.symm; subst hI8; have hL9 := hL9.symm; subst hL9
    refine k_istore C (lw := [(5, .int _), (4, .int _), (3, _), (2, _), (1, _), (0, _)]) rfl rfl (Nat.le_of_ble_eq_true rfl) rfl ?_
    refine k_aload_n C rfl rfl rfl ?_
    refine k_aload_n C rfl rfl rfl ?_
    refine k_iload C rfl rfl rfl ?_
    refine k_iconst C (x := 1) rfl rfl rfl ?_
    refine k_iadd C rfl rfl ?_
    refine hL.1 _ _ _ _ _ _ _ rfl (vsk hi hLn (c := 1) (by decide)) ?_
    refine k_aload_n C rfl rfl rfl ?_
    refine k_iload C rfl rfl rfl ?_
    refine k_iconst C (x := 2) rfl rfl rfl ?_
    refine k_iadd C rfl rfl ?_
    refine hL.1 _ _ _ _ _ _ _ rfl (vsk hi hLn (c := 2) (by decide)) ?_
    refine k_aload_n C rfl rfl rfl ?_
    refine k_iload C rfl rfl rfl ?_
    refine k_iconst C (x := 3) rfl rfl rfl ?_
    refine k_iadd C rfl rfl ?_
    refine hL.1 _ _ _ _ _ _ _ rfl (vsk hi hLn (c := 3) (by decide)) ?_
    refine k_aload_n C rfl rfl rfl ?_
    refine k_iload C rfl rfl rfl ?_
    refine k_iconst C (x := 4) rfl rfl rfl ?_
    refine k_iadd C rfl rfl ?_
    refine hL.1 _ _ _ _ _ _ _ rfl (vsk hi hLn (c := 4) (by decide)) ?_
    refine c_VL C (e_m_reduced_no (A := fun a => a = m ∨ R m 21 = some a ∨ R m 34 = some a) T_m (Or.inl rfl) hok) rfl rfl rfl rfl rfl ⟨_, rfl, rfl, H_m.1, Nat.le_of_ble_eq_true rfl⟩ rfl rfl (by omega) (by omega) (Nat.le_of_ble_eq_true rfl) ?_
    rintro x29 I25 L26 ⟨f2, z2, k2⟩
    have h27 := LI.rfr hLI H_m nAB hB f2 k2
    have h28 := RLT.keep hRL (SC.b E (fun _ _ => rfl)) (by unfold SM; exact ⟨rfl, rfl, rfl, rfl, rfl, rfl, rfl, rfl⟩) (SC.rf9 E f2) (SM.rf9 E f2 k2)
    refine k_lstore C (lw := [(6, .long _), (5, .int _), (4, .int _), (3, _), (2, _), (1, _), (0, _)]) rfl rfl (Nat.le_of_ble_eq_true rfl) rfl ?_
    refine k_goto C (pc2 := 1899) rfl rfl ?_
    exact K _ _ _ _ _ h27 h28 (by omega) (by omega) (List.forall_mem_cons.mpr ⟨List.mem_of_getElem? (i := 2) rfl, List.forall_mem_cons.mpr ⟨List.mem_of_getElem? (i := 3) rfl, List.forall_mem_cons.mpr ⟨List.mem_of_getElem? (i := 4) rfl, List.forall_mem_cons.mpr ⟨List.mem_of_getElem? (i := 5) rfl, List.forall_mem_cons.mpr ⟨List.mem_of_getElem? (i := 6) rfl, fun _ h => nomatch h⟩⟩⟩⟩⟩)

set_option maxRecDepth 100000 in
set_option maxHeartbeats 4000000 in
theorem lc_36 {V : V_T} {b x nw kp rd al m w im o Ln i : Nat} {xs : Nat → Int32} {T N : Nat → Nat} {I : IT} {L : LT} {R : RT} {A B : Nat → Prop} {ck sk : Nat} (C : Cl 40 q_law 601024 7293033 law_Po V) (S : SB V) (hL : LSc V b Ln xs) (E : LW T N R A B x nw kp rd al m w im o) (hi : i + 6 ≤ Ln) (hLn : Ln ≤ 3072) (hLI : LI T R A m I) (hRL : RLT x nw kp rd m w im I) (hck : ck + 3 ≤ 601024) (hsk : sk + 18 ≤ 7293033) (K : ∀ (lv : List (Nat × Value)) (I9 : IT) (L9 : LT) (ck9 sk9 : Nat), LI T R A m I9 → RLT x nw kp rd m w im I9 → ck9 ≤ ck + 3 → sk9 ≤ sk + 18 → (∀ z ∈ ([(4, .int (Int32.ofNat i)), (3, .ref o), (2, .ref m), (1, .ref x), (0, .ref b)] : List (Nat × Value)), z ∈ lv) → V 1899 lv [] (T, N, I9, L9, R) ck9 sk9) : V 1666 [(4, .int (Int32.ofNat i)), (3, .ref o), (2, .ref m), (1, .ref x), (0, .ref b)] [] (T, N, I, L, R) ck sk := by
  obtain ⟨H_x, H_m, ⟨T_o, N_o, A_o⟩, nAB, Rnw, Rkp, Rrd, hnk, Ral, Ras, Rw, Rim⟩ := id E
  have T_x := H_x.1
  have T_m := H_m.1
  have hB := True.intro
  refine k_aload_n C rfl rfl rfl ?_
  refine k_aload_n C rfl rfl rfl ?_
  refine k_iload C rfl rfl rfl ?_
  refine k_iconst C (x := 1) rfl rfl rfl ?_
  refine k_iadd C rfl rfl ?_
  refine hL.1 _ _ _ _ _ _ _ rfl (vsk hi hLn (c := 1) (by decide)) ?_
  refine k_aload_n C rfl rfl rfl ?_
  refine k_iload C rfl rfl rfl ?_
  refine k_iconst C (x := 2) rfl rfl rfl ?_
  refine k_iadd C rfl rfl ?_
  refine hL.1 _ _ _ _ _ _ _ rfl (vsk hi hLn (c := 2) (by decide)) ?_
  refine k_if_eq C (t := 1686) rfl rfl rfl (fun c1 => ?_) (fun c1 => ?_)
  · skip
    refine k_iconst C (x := 0) rfl rfl rfl ?_
    refine k_aload_n C rfl rfl rfl ?_
    have hB := True.intro
    have T_x := H_x.1
    have T_m := H_m.1
    obtain ⟨wh, R_x_10, T_wh, A_wh⟩ := LF.wh H_x
    have hA : ∀ a, (a = wh ∨ a = o) → A a ∧ (T a = 11 ∨ T a = 21) := by (rintro a (rfl | rfl)); exact ⟨A_wh, Or.inl T_wh⟩; exact ⟨A_o, Or.inr T_o⟩
    by_cases hD : isDc (xs (Int32.ofNat i + 1).toNatClampNeg)
    · skip
      refine c_SI C (e_L_classes_yes (A := fun a => a = wh ∨ a = o) T_x R_x_10 T_wh (Or.inl rfl) T_o N_o (Or.inr rfl) hD (by first | exact Or.inl rfl | exact Or.inr rfl)) rfl rfl rfl rfl rfl rfl rfl (by omega) (by omega) (Nat.le_of_ble_eq_true rfl) ?_
      rintro x5 I2 L3 ⟨rfl, f1, v1⟩
      have h4 := LI.cfr hLI H_m nAB hA f1
      have s6 := SC.ff E hA f1
      have s7 := SM.ff E hA f1
      refine k_istore C (lw := [(5, .int _), (4, .int _), (3, _), (2, _), (1, _), (0, _)]) rfl rfl (Nat.le_of_ble_eq_true rfl) rfl ?_
      refine k_aload_n C rfl rfl rfl ?_
      refine k_aload_n C rfl rfl rfl ?_
      refine k_iload C rfl rfl rfl ?_
      refine k_iconst C (x := 1) rfl rfl rfl ?_
      refine k_iadd C rfl rfl ?_
      refine hL.1 _ _ _ _ _ _ _ rfl (vsk hi hLn (c := 1) (by decide)) ?_
      refine k_aload_n C rfl rfl rfl ?_
      refine k_iload C rfl rfl rfl ?_
      refine k_iconst C (x := 2) rfl rfl rfl ?_
      refine k_iadd C rfl rfl ?_
      refine hL.1 _ _ _ _ _ _ _ rfl (vsk hi hLn (c := 2) (by decide)) ?_
      refine k_if_eq C (t := 1713) rfl rfl rfl (fun c8 => ?_) (fun c8 => ?_)
      rotate_left
      · exact absurd c1 c8
      refine k_iconst C (x := 0) rfl rfl rfl ?_
      refine c_VI C (e_m_classes_yes (A := fun a => a = m ∨ R m 21 = some a ∨ R m 34 = some a) T_m (Or.inl rfl) hD (by first | exact Or.inl rfl | exact Or.inr rfl)) rfl rfl rfl rfl rfl ⟨_, rfl, rfl, H_m.1, Nat.le_of_ble_eq_true rfl⟩ rfl rfl (by omega) (by omega) (Nat.le_of_ble_eq_true rfl) ?_
      rintro x13 I9 L10 ⟨rfl, f2, z2, k2⟩
      have h11 := LI.rfr h4 H_m nAB hB f2 k2
      have h12 := RLT.keep hRL s6 s7 (SC.rf9 E f2) (SM.rf9 E f2 k2)
      refine k_istore C (lw := [(6, .int _), (5, .int _), (4, .int _), (3, _), (2, _), (1, _), (0, _)]) rfl rfl (Nat.le_of_ble_eq_true rfl) rfl ?_
      refine k_goto C (pc2 := 1899) rfl rfl ?_
      exact K _ _ _ _ _ h11 h12 (by omega) (by omega) (List.forall_mem_cons.mpr ⟨List.mem_of_getElem? (i := 2) rfl, List.forall_mem_cons.mpr ⟨List.mem_of_getElem? (i := 3) rfl, List.forall_mem_cons.mpr ⟨List.mem_of_getElem? (i := 4) rfl, List.forall_mem_cons.mpr ⟨List.mem_of_getElem? (i := 5) rfl, List.forall_mem_cons.mpr ⟨List.mem_of_getElem? (i := 6) rfl, fun _ h => nomatch h⟩⟩⟩⟩⟩)
    · skip
      refine c_SI C (e_L_classes_no T_x hD) rfl rfl rfl rfl rfl rfl rfl (by omega) (by omega) (Nat.le_of_ble_eq_true rfl) ?_
      rintro x17 I14 L15 ⟨rfl, hI8, hL9⟩
      have hI8 := hI8.symm; subst hI8; have hL9 := hL9.symm; subst hL9
      refine k_istore C (lw := [(5, .int _), (4, .int _), (3, _), (2, _), (1, _), (0, _)]) rfl rfl (Nat.le_of_ble_eq_true rfl) rfl ?_
      refine k_aload_n C rfl rfl rfl ?_
      refine k_aload_n C rfl rfl rfl ?_
      refine k_iload C rfl rfl rfl ?_
      refine k_iconst C (x := 1) rfl rfl rfl ?_
      refine k_iadd C rfl rfl ?_
      refine hL.1 _ _ _ _ _ _ _ rfl (vsk hi hLn (c := 1) (by decide)) ?_
      refine k_aload_n C rfl rfl rfl ?_
      refine k_iload C rfl rfl rfl ?_
      refine k_iconst C (x := 2) rfl rfl rfl ?_
      refine k_iadd C rfl rfl ?_
      refine hL.1 _ _ _ _ _ _ _ rfl (vsk hi hLn (c := 2) (by decide)) ?_
      refine k_if_eq C (t := 1713) rfl rfl rfl (fun c18 => ?_) (fun c18 => ?_)
      rotate_left
      · exact absurd c1 c18
      refine k_iconst C (x := 0) rfl rfl rfl ?_
      refine c_VI C (e_m_classes_no (A := fun a => a = m ∨ R m 21 = some a ∨ R m 34 = some a) T_m (Or.inl rfl) hD) rfl rfl rfl rfl rfl ⟨_, rfl, rfl, H_m.1, Nat.le_of_ble_eq_true rfl⟩ rfl rfl (by omega) (by omega) (Nat.le_of_ble_eq_true rfl) ?_
      rintro x23 I19 L20 ⟨f2, z2, k2⟩
      have h21 := LI.rfr hLI H_m nAB hB f2 k2
      have h22 := RLT.keep hRL (SC.b E (fun _ _ => rfl)) (by unfold SM; exact ⟨rfl, rfl, rfl, rfl, rfl, rfl, rfl, rfl⟩) (SC.rf9 E f2) (SM.rf9 E f2 k2)
      refine k_istore C (lw := [(6, .int _), (5, .int _), (4, .int _), (3, _), (2, _), (1, _), (0, _)]) rfl rfl (Nat.le_of_ble_eq_true rfl) rfl ?_
      refine k_goto C (pc2 := 1899) rfl rfl ?_
      exact K _ _ _ _ _ h21 h22 (by omega) (by omega) (List.forall_mem_cons.mpr ⟨List.mem_of_getElem? (i := 2) rfl, List.forall_mem_cons.mpr ⟨List.mem_of_getElem? (i := 3) rfl, List.forall_mem_cons.mpr ⟨List.mem_of_getElem? (i := 4) rfl, List.forall_mem_cons.mpr ⟨List.mem_of_getElem? (i := 5) rfl, List.forall_mem_cons.mpr ⟨List.mem_of_getElem? (i := 6) rfl, fun _ h => nomatch h⟩⟩⟩⟩⟩)
  refine k_iconst C (x := 1) rfl rfl rfl ?_
  refine k_goto C (pc2 := 1687) rfl rfl ?_
  refine k_aload_n C rfl rfl rfl ?_
  have hB := True.intro
  have T_x := H_x.1
  have T_m := H_m.1
  obtain ⟨wh, R_x_10, T_wh, A_wh⟩ := LF.wh H_x
  have hA : ∀ a, (a = wh ∨ a = o) → A a ∧ (T a = 11 ∨ T a = 21) := by (rintro a (rfl | rfl)); exact ⟨A_wh, Or.inl T_wh⟩; exact ⟨A_o, Or.inr T_o⟩
  by_cases hD : isDc (xs (Int32.ofNat i + 1).toNatClampNeg)
  · skip
    refine c_SI C (e_L_classes_yes (A := fun a => a = wh ∨ a = o) T_x R_x_10 T_wh (Or.inl rfl) T_o N_o (Or.inr rfl) hD (by first | exact Or.inl rfl | exact Or.inr rfl)) rfl rfl rfl rfl rfl rfl rfl (by omega) (by omega) (Nat.le_of_ble_eq_true rfl) ?_
    rintro x27 I24 L25 ⟨rfl, f1, v1⟩
    have h26 := LI.cfr hLI H_m nAB hA f1
    have s28 := SC.ff E hA f1
    have s29 := SM.ff E hA f1
    refine k_istore C (lw := [(5, .int _), (4, .int _), (3, _), (2, _), (1, _), (0, _)]) rfl rfl (Nat.le_of_ble_eq_true rfl) rfl ?_
    refine k_aload_n C rfl rfl rfl ?_
    refine k_aload_n C rfl rfl rfl ?_
    refine k_iload C rfl rfl rfl ?_
    refine k_iconst C (x := 1) rfl rfl rfl ?_
    refine k_iadd C rfl rfl ?_
    refine hL.1 _ _ _ _ _ _ _ rfl (vsk hi hLn (c := 1) (by decide)) ?_
    refine k_aload_n C rfl rfl rfl ?_
    refine k_iload C rfl rfl rfl ?_
    refine k_iconst C (x := 2) rfl rfl rfl ?_
    refine k_iadd C rfl rfl ?_
    refine hL.1 _ _ _ _ _ _ _ rfl (vsk hi hLn (c := 2) (by decide)) ?_
    refine k_if_eq C (t := 1713) rfl rfl rfl (fun c30 => ?_) (fun c30 => ?_)
    · exact absurd c30 c1
    refine k_iconst C (x := 1) rfl rfl rfl ?_
    refine k_goto C (pc2 := 1714) rfl rfl ?_
    refine c_VI C (e_m_classes_yes (A := fun a => a = m ∨ R m 21 = some a ∨ R m 34 = some a) T_m (Or.inl rfl) hD (by first | exact Or.inl rfl | exact Or.inr rfl)) rfl rfl rfl rfl rfl ⟨_, rfl, rfl, H_m.1, Nat.le_of_ble_eq_true rfl⟩ rfl rfl (by omega) (by omega) (Nat.le_of_ble_eq_true rfl) ?_
    rintro x35 I31 L32 ⟨rfl, f2, z2, k2⟩
    have h33 := LI.rfr h26 H_m nAB hB f2 k2
    have h34 := RLT.keep hRL s28 s29 (SC.rf9 E f2) (SM.rf9 E f2 k2)
    refine k_istore C (lw := [(6, .int _), (5, .int _), (4, .int _), (3, _), (2, _), (1, _), (0, _)]) rfl rfl (Nat.le_of_ble_eq_true rfl) rfl ?_
    refine k_goto C (pc2 := 1899) rfl rfl ?_
    exact K _ _ _ _ _ h33 h34 (by omega) (by omega) (List.forall_mem_cons.mpr ⟨List.mem_of_getElem? (i := 2) rfl, List.forall_mem_cons.mpr ⟨List.mem_of_getElem? (i := 3) rfl, List.forall_mem_cons.mpr ⟨List.mem_of_getElem? (i := 4) rfl, List.forall_mem_cons.mpr ⟨List.mem_of_getElem? (i := 5) rfl, List.forall_mem_cons.mpr ⟨List.mem_of_getElem? (i := 6) rfl, fun _ h => nomatch h⟩⟩⟩⟩⟩)
  · skip
    refine c_SI C (e_L_classes_no T_x hD) rfl rfl rfl rfl rfl rfl rfl (by omega) (by omega) (Nat.le_of_ble_eq_true rfl) ?_
    rintro x39 I36 L37 ⟨rfl, hI8, hL9⟩
    have hI8 := hI8.symm; subst hI8; have hL9 := hL9.symm; subst hL9
    refine k_istore C (lw := [(5, .int _), (4, .int _), (3, _), (2, _), (1, _), (0, _)]) rfl rfl (Nat.le_of_ble_eq_true rfl) rfl ?_
    refine k_aload_n C rfl rfl rfl ?_
    refine k_aload_n C rfl rfl rfl ?_
    refine k_iload C rfl rfl rfl ?_
    refine k_iconst C (x := 1) rfl rfl rfl ?_
    refine k_iadd C rfl rfl ?_
    refine hL.1 _ _ _ _ _ _ _ rfl (vsk hi hLn (c := 1) (by decide)) ?_
    refine k_aload_n C rfl rfl rfl ?_
    refine k_iload C rfl rfl rfl ?_
    refine k_iconst C (x := 2) rfl rfl rfl ?_
    refine k_iadd C rfl rfl ?_
    refine hL.1 _ _ _ _ _ _ _ rfl (vsk hi hLn (c := 2) (by decide)) ?_
    refine k_if_eq C (t := 1713) rfl rfl rfl (fun c40 => ?_) (fun c40 => ?_)
    · exact absurd c40 c1
    refine k_iconst C (x := 1) rfl rfl rfl ?_
    refine k_goto C (pc2 := 1714) rfl rfl ?_
    refine c_VI C (e_m_classes_no (A := fun a => a = m ∨ R m 21 = some a ∨ R m 34 = some a) T_m (Or.inl rfl) hD) rfl rfl rfl rfl rfl ⟨_, rfl, rfl, H_m.1, Nat.le_of_ble_eq_true rfl⟩ rfl rfl (by omega) (by omega) (Nat.le_of_ble_eq_true rfl) ?_
    rintro x45 I41 L42 ⟨f2, z2, k2⟩
    have h43 := LI.rfr hLI H_m nAB hB f2 k2
    have h44 := RLT.keep hRL (SC.b E (fun _ _ => rfl)) (by unfold SM; exact ⟨rfl, rfl, rfl, rfl, rfl, rfl, rfl, rfl⟩) (SC.rf9 E f2) (SM.rf9 E f2 k2)
    refine k_istore C (lw := [(6, .int _), (5, .int _), (4, .int _), (3, _), (2, _), (1, _), (0, _)]) rfl rfl (Nat.le_of_ble_eq_true rfl) rfl ?_
    refine k_goto C (pc2 := 1899) rfl rfl ?_
    exact K _ _ _ _ _ h43 h44 (by omega) (by omega) (List.forall_mem_cons.mpr ⟨List.mem_of_getElem? (i := 2) rfl, List.forall_mem_cons.mpr ⟨List.mem_of_getElem? (i := 3) rfl, List.forall_mem_cons.mpr ⟨List.mem_of_getElem? (i := 4) rfl, List.forall_mem_cons.mpr ⟨List.mem_of_getElem? (i := 5) rfl, List.forall_mem_cons.mpr ⟨List.mem_of_getElem? (i := 6) rfl, fun _ h => nomatch h⟩⟩⟩⟩⟩)

set_option maxRecDepth 100000 in
set_option maxHeartbeats 4000000 in
theorem lc_37 {V : V_T} {b x nw kp rd al m w im o Ln i : Nat} {xs : Nat → Int32} {T N : Nat → Nat} {I : IT} {L : LT} {R : RT} {A B : Nat → Prop} {ck sk : Nat} (C : Cl 40 q_law 601024 7293033 law_Po V) (S : SB V) (hL : LSc V b Ln xs) (E : LW T N R A B x nw kp rd al m w im o) (hi : i + 6 ≤ Ln) (hLn : Ln ≤ 3072) (hLI : LI T R A m I) (hRL : RLT x nw kp rd m w im I) (hck : ck + 3 ≤ 601024) (hsk : sk + 18 ≤ 7293033) (K : ∀ (lv : List (Nat × Value)) (I9 : IT) (L9 : LT) (ck9 sk9 : Nat), LI T R A m I9 → RLT x nw kp rd m w im I9 → ck9 ≤ ck + 3 → sk9 ≤ sk + 18 → (∀ z ∈ ([(4, .int (Int32.ofNat i)), (3, .ref o), (2, .ref m), (1, .ref x), (0, .ref b)] : List (Nat × Value)), z ∈ lv) → V 1899 lv [] (T, N, I9, L9, R) ck9 sk9) : V 1722 [(4, .int (Int32.ofNat i)), (3, .ref o), (2, .ref m), (1, .ref x), (0, .ref b)] [] (T, N, I, L, R) ck sk := by
  obtain ⟨H_x, H_m, ⟨T_o, N_o, A_o⟩, nAB, Rnw, Rkp, Rrd, hnk, Ral, Ras, Rw, Rim⟩ := id E
  have T_x := H_x.1
  have T_m := H_m.1
  have hB := True.intro
  refine k_aload_n C rfl rfl rfl ?_
  refine k_aload_n C rfl rfl rfl ?_
  refine k_iload C rfl rfl rfl ?_
  refine k_iconst C (x := 1) rfl rfl rfl ?_
  refine k_iadd C rfl rfl ?_
  refine hL.1 _ _ _ _ _ _ _ rfl (vsk hi hLn (c := 1) (by decide)) ?_
  refine k_aload_n C rfl rfl rfl ?_
  refine k_iload C rfl rfl rfl ?_
  refine k_iconst C (x := 2) rfl rfl rfl ?_
  refine k_iadd C rfl rfl ?_
  refine hL.1 _ _ _ _ _ _ _ rfl (vsk hi hLn (c := 2) (by decide)) ?_
  refine k_aload_n C rfl rfl rfl ?_
  refine k_iload C rfl rfl rfl ?_
  refine k_iconst C (x := 3) rfl rfl rfl ?_
  refine k_iadd C rfl rfl ?_
  refine hL.1 _ _ _ _ _ _ _ rfl (vsk hi hLn (c := 3) (by decide)) ?_
  refine k_aload_n C rfl rfl rfl ?_
  have hB := True.intro
  have T_x := H_x.1
  have T_m := H_m.1
  obtain ⟨wh, R_x_10, T_wh, A_wh⟩ := LF.wh H_x
  have hA : ∀ a, (a = wh ∨ a = o) → A a ∧ (T a = 11 ∨ T a = 21) := by (rintro a (rfl | rfl)); exact ⟨A_wh, Or.inl T_wh⟩; exact ⟨A_o, Or.inr T_o⟩
  by_cases hD : isDc (xs (Int32.ofNat i + 1).toNatClampNeg)
  · skip
    by_cases hk : (xs (Int32.ofNat i + 2).toNatClampNeg) < 0
    · skip
      refine c_SI C (e_L_reducedAt_no2 T_x hD hk) rfl rfl rfl rfl rfl rfl rfl (by omega) (by omega) (Nat.le_of_ble_eq_true rfl) ?_
      rintro x4 I1 L2 ⟨rfl, hI8, hL9⟩
      have hI8 := hI8.symm; subst hI8; have hL9 := hL9.symm; subst hL9
      refine k_istore C (lw := [(5, .int _), (4, .int _), (3, _), (2, _), (1, _), (0, _)]) rfl rfl (Nat.le_of_ble_eq_true rfl) rfl ?_
      refine k_aload_n C rfl rfl rfl ?_
      refine k_aload_n C rfl rfl rfl ?_
      refine k_iload C rfl rfl rfl ?_
      refine k_iconst C (x := 1) rfl rfl rfl ?_
      refine k_iadd C rfl rfl ?_
      refine hL.1 _ _ _ _ _ _ _ rfl (vsk hi hLn (c := 1) (by decide)) ?_
      refine k_aload_n C rfl rfl rfl ?_
      refine k_iload C rfl rfl rfl ?_
      refine k_iconst C (x := 2) rfl rfl rfl ?_
      refine k_iadd C rfl rfl ?_
      refine hL.1 _ _ _ _ _ _ _ rfl (vsk hi hLn (c := 2) (by decide)) ?_
      refine k_aload_n C rfl rfl rfl ?_
      refine k_iload C rfl rfl rfl ?_
      refine k_iconst C (x := 3) rfl rfl rfl ?_
      refine k_iadd C rfl rfl ?_
      refine hL.1 _ _ _ _ _ _ _ rfl (vsk hi hLn (c := 3) (by decide)) ?_
      refine c_VI C (e_m_reducedAt_no2 (A := fun a => a = m ∨ R m 21 = some a ∨ R m 34 = some a) T_m (Or.inl rfl) hD hk) rfl rfl rfl rfl rfl ⟨_, rfl, rfl, H_m.1, Nat.le_of_ble_eq_true rfl⟩ rfl rfl (by omega) (by omega) (Nat.le_of_ble_eq_true rfl) ?_
      rintro x9 I5 L6 ⟨f2, z2, k2⟩
      have h7 := LI.rfr hLI H_m nAB hB f2 k2
      have h8 := RLT.keep hRL (SC.b E (fun _ _ => rfl)) (by unfold SM; exact ⟨rfl, rfl, rfl, rfl, rfl, rfl, rfl, rfl⟩) (SC.rf9 E f2) (SM.rf9 E f2 k2)
      refine k_istore C (lw := [(6, .int _), (5, .int _), (4, .int _), (3, _), (2, _), (1, _), (0, _)]) rfl rfl (Nat.le_of_ble_eq_true rfl) rfl ?_
      refine k_goto C (pc2 := 1899) rfl rfl ?_
      exact K _ _ _ _ _ h7 h8 (by omega) (by omega) (List.forall_mem_cons.mpr ⟨List.mem_of_getElem? (i := 2) rfl, List.forall_mem_cons.mpr ⟨List.mem_of_getElem? (i := 3) rfl, List.forall_mem_cons.mpr ⟨List.mem_of_getElem? (i := 4) rfl, List.forall_mem_cons.mpr ⟨List.mem_of_getElem? (i := 5) rfl, List.forall_mem_cons.mpr ⟨List.mem_of_getElem? (i := 6) rfl, fun _ h => nomatch h⟩⟩⟩⟩⟩)
    · skip
      have hk := Int32.not_lt.mp hk
      by_cases hn : 0 ≤ (xs (Int32.ofNat i + 3).toNatClampNeg).toInt ∧ (xs (Int32.ofNat i + 3).toNatClampNeg).toInt ≤ 2
      · skip
        refine c_SI C (e_L_reducedAt_yes (A := fun a => a = wh ∨ a = o) T_x R_x_10 T_wh (Or.inl rfl) T_o N_o (Or.inr rfl) hD hk hn) rfl rfl rfl rfl rfl rfl rfl (by omega) (by omega) (Nat.le_of_ble_eq_true rfl) ?_
        rintro x13 I10 L11 ⟨rfl, f1, v1⟩
        have h12 := LI.cfr hLI H_m nAB hA f1
        have s14 := SC.ff E hA f1
        have s15 := SM.ff E hA f1
        refine k_istore C (lw := [(5, .int _), (4, .int _), (3, _), (2, _), (1, _), (0, _)]) rfl rfl (Nat.le_of_ble_eq_true rfl) rfl ?_
        refine k_aload_n C rfl rfl rfl ?_
        refine k_aload_n C rfl rfl rfl ?_
        refine k_iload C rfl rfl rfl ?_
        refine k_iconst C (x := 1) rfl rfl rfl ?_
        refine k_iadd C rfl rfl ?_
        refine hL.1 _ _ _ _ _ _ _ rfl (vsk hi hLn (c := 1) (by decide)) ?_
        refine k_aload_n C rfl rfl rfl ?_
        refine k_iload C rfl rfl rfl ?_
        refine k_iconst C (x := 2) rfl rfl rfl ?_
        refine k_iadd C rfl rfl ?_
        refine hL.1 _ _ _ _ _ _ _ rfl (vsk hi hLn (c := 2) (by decide)) ?_
        refine k_aload_n C rfl rfl rfl ?_
        refine k_iload C rfl rfl rfl ?_
        refine k_iconst C (x := 3) rfl rfl rfl ?_
        refine k_iadd C rfl rfl ?_
        refine hL.1 _ _ _ _ _ _ _ rfl (vsk hi hLn (c := 3) (by decide)) ?_
        refine c_VI C (e_m_reducedAt_yes (A := fun a => a = m ∨ R m 21 = some a ∨ R m 34 = some a) T_m (Or.inl rfl) hD hk hn) rfl rfl rfl rfl rfl ⟨_, rfl, rfl, H_m.1, Nat.le_of_ble_eq_true rfl⟩ rfl rfl (by omega) (by omega) (Nat.le_of_ble_eq_true rfl) ?_
        rintro x20 I16 L17 ⟨rfl, f2, z2, k2⟩
        have h18 := LI.rfr h12 H_m nAB hB f2 k2
        have h19 := RLT.keep hRL s14 s15 (SC.rf9 E f2) (SM.rf9 E f2 k2)
        refine k_istore C (lw := [(6, .int _), (5, .int _), (4, .int _), (3, _), (2, _), (1, _), (0, _)]) rfl rfl (Nat.le_of_ble_eq_true rfl) rfl ?_
        refine k_goto C (pc2 := 1899) rfl rfl ?_
        exact K _ _ _ _ _ h18 h19 (by omega) (by omega) (List.forall_mem_cons.mpr ⟨List.mem_of_getElem? (i := 2) rfl, List.forall_mem_cons.mpr ⟨List.mem_of_getElem? (i := 3) rfl, List.forall_mem_cons.mpr ⟨List.mem_of_getElem? (i := 4) rfl, List.forall_mem_cons.mpr ⟨List.mem_of_getElem? (i := 5) rfl, List.forall_mem_cons.mpr ⟨List.mem_of_getElem? (i := 6) rfl, fun _ h => nomatch h⟩⟩⟩⟩⟩)
      · skip
        refine c_SI C (e_L_reducedAt_nse T_x hD hk hn) rfl rfl rfl rfl rfl rfl rfl (by omega) (by omega) (Nat.le_of_ble_eq_true rfl) ?_
        rintro x24 I21 L22 ⟨rfl, hI8, hL9⟩
        have hI8 := hI8.symm; subst hI8; have hL9 := hL9.symm; subst hL9
        refine k_istore C (lw := [(5, .int _), (4, .int _), (3, _), (2, _), (1, _), (0, _)]) rfl rfl (Nat.le_of_ble_eq_true rfl) rfl ?_
        refine k_aload_n C rfl rfl rfl ?_
        refine k_aload_n C rfl rfl rfl ?_
        refine k_iload C rfl rfl rfl ?_
        refine k_iconst C (x := 1) rfl rfl rfl ?_
        refine k_iadd C rfl rfl ?_
        refine hL.1 _ _ _ _ _ _ _ rfl (vsk hi hLn (c := 1) (by decide)) ?_
        refine k_aload_n C rfl rfl rfl ?_
        refine k_iload C rfl rfl rfl ?_
        refine k_iconst C (x := 2) rfl rfl rfl ?_
        refine k_iadd C rfl rfl ?_
        refine hL.1 _ _ _ _ _ _ _ rfl (vsk hi hLn (c := 2) (by decide)) ?_
        refine k_aload_n C rfl rfl rfl ?_
        refine k_iload C rfl rfl rfl ?_
        refine k_iconst C (x := 3) rfl rfl rfl ?_
        refine k_iadd C rfl rfl ?_
        refine hL.1 _ _ _ _ _ _ _ rfl (vsk hi hLn (c := 3) (by decide)) ?_
        refine c_VI C (e_m_reducedAt_nse (A := fun a => a = m ∨ R m 21 = some a ∨ R m 34 = some a) T_m (Or.inl rfl) hD hk hn) rfl rfl rfl rfl rfl ⟨_, rfl, rfl, H_m.1, Nat.le_of_ble_eq_true rfl⟩ rfl rfl (by omega) (by omega) (Nat.le_of_ble_eq_true rfl) ?_
        rintro x29 I25 L26 ⟨f2, z2, k2⟩
        have h27 := LI.rfr hLI H_m nAB hB f2 k2
        have h28 := RLT.keep hRL (SC.b E (fun _ _ => rfl)) (by unfold SM; exact ⟨rfl, rfl, rfl, rfl, rfl, rfl, rfl, rfl⟩) (SC.rf9 E f2) (SM.rf9 E f2 k2)
        refine k_istore C (lw := [(6, .int _), (5, .int _), (4, .int _), (3, _), (2, _), (1, _), (0, _)]) rfl rfl (Nat.le_of_ble_eq_true rfl) rfl ?_
        refine k_goto C (pc2 := 1899) rfl rfl ?_
        exact K _ _ _ _ _ h27 h28 (by omega) (by omega) (List.forall_mem_cons.mpr ⟨List.mem_of_getElem? (i := 2) rfl, List.forall_mem_cons.mpr ⟨List.mem_of_getElem? (i := 3) rfl, List.forall_mem_cons.mpr ⟨List.mem_of_getElem? (i := 4) rfl, List.forall_mem_cons.mpr ⟨List.mem_of_getElem? (i := 5) rfl, List.forall_mem_cons.mpr ⟨List.mem_of_getElem? (i := 6) rfl, fun _ h => nomatch h⟩⟩⟩⟩⟩)
  · skip
    refine c_SI C (e_L_reducedAt_no1 T_x hD) rfl rfl rfl rfl rfl rfl rfl (by omega) (by omega) (Nat.le_of_ble_eq_true rfl) ?_
    rintro x33 I30 L31 ⟨rfl, hI8, hL9⟩
    have hI8 := hI8.symm; subst hI8; have hL9 := hL9.symm; subst hL9
    refine k_istore C (lw := [(5, .int _), (4, .int _), (3, _), (2, _), (1, _), (0, _)]) rfl rfl (Nat.le_of_ble_eq_true rfl) rfl ?_
    refine k_aload_n C rfl rfl rfl ?_
    refine k_aload_n C rfl rfl rfl ?_
    refine k_iload C rfl rfl rfl ?_
    refine k_iconst C (x := 1) rfl rfl rfl ?_
    refine k_iadd C rfl rfl ?_
    refine hL.1 _ _ _ _ _ _ _ rfl (vsk hi hLn (c := 1) (by decide)) ?_
    refine k_aload_n C rfl rfl rfl ?_
    refine k_iload C rfl rfl rfl ?_
    refine k_iconst C (x := 2) rfl rfl rfl ?_
    refine k_iadd C rfl rfl ?_
    refine hL.1 _ _ _ _ _ _ _ rfl (vsk hi hLn (c := 2) (by decide)) ?_
    refine k_aload_n C rfl rfl rfl ?_
    refine k_iload C rfl rfl rfl ?_
    refine k_iconst C (x := 3) rfl rfl rfl ?_
    refine k_iadd C rfl rfl ?_
    refine hL.1 _ _ _ _ _ _ _ rfl (vsk hi hLn (c := 3) (by decide)) ?_
    refine c_VI C (e_m_reducedAt_no1 (A := fun a => a = m ∨ R m 21 = some a ∨ R m 34 = some a) T_m (Or.inl rfl) hD) rfl rfl rfl rfl rfl ⟨_, rfl, rfl, H_m.1, Nat.le_of_ble_eq_true rfl⟩ rfl rfl (by omega) (by omega) (Nat.le_of_ble_eq_true rfl) ?_
    rintro x38 I34 L35 ⟨f2, z2, k2⟩
    have h36 := LI.rfr hLI H_m nAB hB f2 k2
    have h37 := RLT.keep hRL (SC.b E (fun _ _ => rfl)) (by unfold SM; exact ⟨rfl, rfl, rfl, rfl, rfl, rfl, rfl, rfl⟩) (SC.rf9 E f2) (SM.rf9 E f2 k2)
    refine k_istore C (lw := [(6, .int _), (5, .int _), (4, .int _), (3, _), (2, _), (1, _), (0, _)]) rfl rfl (Nat.le_of_ble_eq_true rfl) rfl ?_
    refine k_goto C (pc2 := 1899) rfl rfl ?_
    exact K _ _ _ _ _ h36 h37 (by omega) (by omega) (List.forall_mem_cons.mpr ⟨List.mem_of_getElem? (i := 2) rfl, List.forall_mem_cons.mpr ⟨List.mem_of_getElem? (i := 3) rfl, List.forall_mem_cons.mpr ⟨List.mem_of_getElem? (i := 4) rfl, List.forall_mem_cons.mpr ⟨List.mem_of_getElem? (i := 5) rfl, List.forall_mem_cons.mpr ⟨List.mem_of_getElem? (i := 6) rfl, fun _ h => nomatch h⟩⟩⟩⟩⟩)

set_option maxRecDepth 100000 in
set_option maxHeartbeats 4000000 in
theorem lc_38 {V : V_T} {b x nw kp rd al m w im o Ln i : Nat} {xs : Nat → Int32} {T N : Nat → Nat} {I : IT} {L : LT} {R : RT} {A B : Nat → Prop} {ck sk : Nat} (C : Cl 40 q_law 601024 7293033 law_Po V) (S : SB V) (hL : LSc V b Ln xs) (E : LW T N R A B x nw kp rd al m w im o) (hi : i + 6 ≤ Ln) (hLn : Ln ≤ 3072) (hLI : LI T R A m I) (hRL : RLT x nw kp rd m w im I) (hck : ck + 3 ≤ 601024) (hsk : sk + 18 ≤ 7293033) (K : ∀ (lv : List (Nat × Value)) (I9 : IT) (L9 : LT) (ck9 sk9 : Nat), LI T R A m I9 → RLT x nw kp rd m w im I9 → ck9 ≤ ck + 3 → sk9 ≤ sk + 18 → (∀ z ∈ ([(4, .int (Int32.ofNat i)), (3, .ref o), (2, .ref m), (1, .ref x), (0, .ref b)] : List (Nat × Value)), z ∈ lv) → V 1899 lv [] (T, N, I9, L9, R) ck9 sk9) : V 1774 [(4, .int (Int32.ofNat i)), (3, .ref o), (2, .ref m), (1, .ref x), (0, .ref b)] [] (T, N, I, L, R) ck sk := by
  obtain ⟨H_x, H_m, ⟨T_o, N_o, A_o⟩, nAB, Rnw, Rkp, Rrd, hnk, Ral, Ras, Rw, Rim⟩ := id E
  have T_x := H_x.1
  have T_m := H_m.1
  have hB := True.intro
  refine k_aload_n C rfl rfl rfl ?_
  refine k_aload_n C rfl rfl rfl ?_
  refine k_iload C rfl rfl rfl ?_
  refine k_iconst C (x := 1) rfl rfl rfl ?_
  refine k_iadd C rfl rfl ?_
  refine hL.1 _ _ _ _ _ _ _ rfl (vsk hi hLn (c := 1) (by decide)) ?_
  refine k_aload_n C rfl rfl rfl ?_
  refine k_iload C rfl rfl rfl ?_
  refine k_iconst C (x := 2) rfl rfl rfl ?_
  refine k_iadd C rfl rfl ?_
  refine hL.1 _ _ _ _ _ _ _ rfl (vsk hi hLn (c := 2) (by decide)) ?_
  refine k_aload_n C rfl rfl rfl ?_
  refine k_iload C rfl rfl rfl ?_
  refine k_iconst C (x := 3) rfl rfl rfl ?_
  refine k_iadd C rfl rfl ?_
  refine hL.1 _ _ _ _ _ _ _ rfl (vsk hi hLn (c := 3) (by decide)) ?_
  refine k_aload_n C rfl rfl rfl ?_
  refine k_iload C rfl rfl rfl ?_
  refine k_iconst C (x := 4) rfl rfl rfl ?_
  refine k_iadd C rfl rfl ?_
  refine hL.1 _ _ _ _ _ _ _ rfl (vsk hi hLn (c := 4) (by decide)) ?_
  refine k_aload_n C rfl rfl rfl ?_
  refine k_iload C rfl rfl rfl ?_
  refine k_iconst C (x := 5) rfl rfl rfl ?_
  refine k_iadd C rfl rfl ?_
  refine hL.1 _ _ _ _ _ _ _ rfl (vsk hi hLn (c := 5) (by decide)) ?_
  refine k_aload_n C rfl rfl rfl ?_
  have hB := True.intro
  have T_x := H_x.1
  have T_m := H_m.1
  have hA : ∀ a, (a = o) → A a ∧ (T a = 11 ∨ T a = 21) := by rintro a rfl; exact ⟨A_o, Or.inr T_o⟩
  by_cases hok : okReal (xs (Int32.ofNat i + 1).toNatClampNeg) (xs (Int32.ofNat i + 2).toNatClampNeg) (xs (Int32.ofNat i + 3).toNatClampNeg) (xs (Int32.ofNat i + 4).toNatClampNeg) (xs (Int32.ofNat i + 5).toNatClampNeg)
  · skip
    refine c_SI C (e_L_real_yes (A := fun a => a = o) T_x T_o N_o rfl hok) rfl rfl rfl rfl rfl rfl rfl (by omega) (by omega) (Nat.le_of_ble_eq_true rfl) ?_
    rintro x4 I1 L2 ⟨rfl, f1, v1⟩
    have h3 := LI.cfr hLI H_m nAB hA f1
    have s5 := SC.ff E hA f1
    have s6 := SM.ff E hA f1
    refine k_istore C (lw := [(5, .int _), (4, .int _), (3, _), (2, _), (1, _), (0, _)]) rfl rfl (Nat.le_of_ble_eq_true rfl) rfl ?_
    refine k_aload_n C rfl rfl rfl ?_
    refine k_aload_n C rfl rfl rfl ?_
    refine k_iload C rfl rfl rfl ?_
    refine k_iconst C (x := 1) rfl rfl rfl ?_
    refine k_iadd C rfl rfl ?_
    refine hL.1 _ _ _ _ _ _ _ rfl (vsk hi hLn (c := 1) (by decide)) ?_
    refine k_aload_n C rfl rfl rfl ?_
    refine k_iload C rfl rfl rfl ?_
    refine k_iconst C (x := 2) rfl rfl rfl ?_
    refine k_iadd C rfl rfl ?_
    refine hL.1 _ _ _ _ _ _ _ rfl (vsk hi hLn (c := 2) (by decide)) ?_
    refine k_aload_n C rfl rfl rfl ?_
    refine k_iload C rfl rfl rfl ?_
    refine k_iconst C (x := 3) rfl rfl rfl ?_
    refine k_iadd C rfl rfl ?_
    refine hL.1 _ _ _ _ _ _ _ rfl (vsk hi hLn (c := 3) (by decide)) ?_
    refine k_aload_n C rfl rfl rfl ?_
    refine k_iload C rfl rfl rfl ?_
    refine k_iconst C (x := 4) rfl rfl rfl ?_
    refine k_iadd C rfl rfl ?_
    refine hL.1 _ _ _ _ _ _ _ rfl (vsk hi hLn (c := 4) (by decide)) ?_
    refine k_aload_n C rfl rfl rfl ?_
    refine k_iload C rfl rfl rfl ?_
    refine k_iconst C (x := 5) rfl rfl rfl ?_
    refine k_iadd C rfl rfl ?_
    refine hL.1 _ _ _ _ _ _ _ rfl (vsk hi hLn (c := 5) (by decide)) ?_
    refine c_VI C (e_m_real_yes (A := fun a => a = m ∨ R m 21 = some a ∨ R m 34 = some a) T_m (Or.inl rfl) hok) rfl rfl rfl rfl rfl ⟨_, rfl, rfl, H_m.1, Nat.le_of_ble_eq_true rfl⟩ rfl rfl (by omega) (by omega) (Nat.le_of_ble_eq_true rfl) ?_
    rintro x11 I7 L8 ⟨rfl, f2, z2, k2⟩
    have h9 := LI.rfr h3 H_m nAB hB f2 k2
    have h10 := RLT.keep hRL s5 s6 (SC.rf9 E f2) (SM.rf9 E f2 k2)
    refine k_istore C (lw := [(6, .int _), (5, .int _), (4, .int _), (3, _), (2, _), (1, _), (0, _)]) rfl rfl (Nat.le_of_ble_eq_true rfl) rfl ?_
    refine k_goto C (pc2 := 1899) rfl rfl ?_
    exact K _ _ _ _ _ h9 h10 (by omega) (by omega) (List.forall_mem_cons.mpr ⟨List.mem_of_getElem? (i := 2) rfl, List.forall_mem_cons.mpr ⟨List.mem_of_getElem? (i := 3) rfl, List.forall_mem_cons.mpr ⟨List.mem_of_getElem? (i := 4) rfl, List.forall_mem_cons.mpr ⟨List.mem_of_getElem? (i := 5) rfl, List.forall_mem_cons.mpr ⟨List.mem_of_getElem? (i := 6) rfl, fun _ h => nomatch h⟩⟩⟩⟩⟩)
  · skip
    refine c_SI C (e_L_real_no T_x hok) rfl rfl rfl rfl rfl rfl rfl (by omega) (by omega) (Nat.le_of_ble_eq_true rfl) ?_
    rintro x15 I12 L13 ⟨rfl, hI8, hL9⟩
    have hI8 := hI8.symm; subst hI8; have hL9 := hL9.symm; subst hL9
    refine k_istore C (lw := [(5, .int _), (4, .int _), (3, _), (2, _), (1, _), (0, _)]) rfl rfl (Nat.le_of_ble_eq_true rfl) rfl ?_
    refine k_aload_n C rfl rfl rfl ?_
    refine k_aload_n C rfl rfl rfl ?_
    refine k_iload C rfl rfl rfl ?_
    refine k_iconst C (x := 1) rfl rfl rfl ?_
    refine k_iadd C rfl rfl ?_
    refine hL.1 _ _ _ _ _ _ _ rfl (vsk hi hLn (c := 1) (by decide)) ?_
    refine k_aload_n C rfl rfl rfl ?_
    refine k_iload C rfl rfl rfl ?_
    refine k_iconst C (x := 2) rfl rfl rfl ?_
    refine k_iadd C rfl rfl ?_
    refine hL.1 _ _ _ _ _ _ _ rfl (vsk hi hLn (c := 2) (by decide)) ?_
    refine k_aload_n C rfl rfl rfl ?_
    refine k_iload C rfl rfl rfl ?_
    refine k_iconst C (x := 3) rfl rfl rfl ?_
    refine k_iadd C rfl rfl ?_
    refine hL.1 _ _ _ _ _ _ _ rfl (vsk hi hLn (c := 3) (by decide)) ?_
    refine k_aload_n C rfl rfl rfl ?_
    refine k_iload C rfl rfl rfl ?_
    refine k_iconst C (x := 4) rfl rfl rfl ?_
    refine k_iadd C rfl rfl ?_
    refine hL.1 _ _ _ _ _ _ _ rfl (vsk hi hLn (c := 4) (by decide)) ?_
    refine k_aload_n C rfl rfl rfl ?_
    refine k_iload C rfl rfl rfl ?_
    refine k_iconst C (x := 5) rfl rfl rfl ?_
    refine k_iadd C rfl rfl ?_
    refine hL.1 _ _ _ _ _ _ _ rfl (vsk hi hLn (c := 5) (by decide)) ?_
    refine c_VI C (e_m_real_no (A := fun a => a = m ∨ R m 21 = some a ∨ R m 34 = some a) T_m (Or.inl rfl) hok) rfl rfl rfl rfl rfl ⟨_, rfl, rfl, H_m.1, Nat.le_of_ble_eq_true rfl⟩ rfl rfl (by omega) (by omega) (Nat.le_of_ble_eq_true rfl) ?_
    rintro x20 I16 L17 ⟨f2, z2, k2⟩
    have h18 := LI.rfr hLI H_m nAB hB f2 k2
    have h19 := RLT.keep hRL (SC.b E (fun _ _ => rfl)) (by unfold SM; exact ⟨rfl, rfl, rfl, rfl, rfl, rfl, rfl, rfl⟩) (SC.rf9 E f2) (SM.rf9 E f2 k2)
    refine k_istore C (lw := [(6, .int _), (5, .int _), (4, .int _), (3, _), (2, _), (1, _), (0, _)]) rfl rfl (Nat.le_of_ble_eq_true rfl) rfl ?_
    refine k_goto C (pc2 := 1899) rfl rfl ?_
    exact K _ _ _ _ _ h18 h19 (by omega) (by omega) (List.forall_mem_cons.mpr ⟨List.mem_of_getElem? (i := 2) rfl, List.forall_mem_cons.mpr ⟨List.mem_of_getElem? (i := 3) rfl, List.forall_mem_cons.mpr ⟨List.mem_of_getElem? (i := 4) rfl, List.forall_mem_cons.mpr ⟨List.mem_of_getElem? (i := 5) rfl, List.forall_mem_cons.mpr ⟨List.mem_of_getElem? (i := 6) rfl, fun _ h => nomatch h⟩⟩⟩⟩⟩)

set_option maxRecDepth 100000 in
set_option maxHeartbeats 4000000 in
theorem lc_39 {V : V_T} {b x nw kp rd al m w im o Ln i : Nat} {xs : Nat → Int32} {T N : Nat → Nat} {I : IT} {L : LT} {R : RT} {A B : Nat → Prop} {ck sk : Nat} (C : Cl 40 q_law 601024 7293033 law_Po V) (S : SB V) (hL : LSc V b Ln xs) (E : LW T N R A B x nw kp rd al m w im o) (hi : i + 6 ≤ Ln) (hLn : Ln ≤ 3072) (hLI : LI T R A m I) (hRL : RLT x nw kp rd m w im I) (hck : ck + 3 ≤ 601024) (hsk : sk + 18 ≤ 7293033) (K : ∀ (lv : List (Nat × Value)) (I9 : IT) (L9 : LT) (ck9 sk9 : Nat), LI T R A m I9 → RLT x nw kp rd m w im I9 → ck9 ≤ ck + 3 → sk9 ≤ sk + 18 → (∀ z ∈ ([(4, .int (Int32.ofNat i)), (3, .ref o), (2, .ref m), (1, .ref x), (0, .ref b)] : List (Nat × Value)), z ∈ lv) → V 1899 lv [] (T, N, I9, L9, R) ck9 sk9) : V 1850 [(4, .int (Int32.ofNat i)), (3, .ref o), (2, .ref m), (1, .ref x), (0, .ref b)] [] (T, N, I, L, R) ck sk := by
  obtain ⟨H_x, H_m, ⟨T_o, N_o, A_o⟩, nAB, Rnw, Rkp, Rrd, hnk, Ral, Ras, Rw, Rim⟩ := id E
  have T_x := H_x.1
  have T_m := H_m.1
  have hB := True.intro
  refine k_aload_n C rfl rfl rfl ?_
  have hbd := LI.bd E hLI
  refine c_VV C (a_X11_image_e hLI.1 H_x Rnw Rkp Rrd hnk) rfl rfl rfl rfl rfl ⟨_, rfl, rfl, H_x.1, Nat.le_of_ble_eq_true rfl⟩ rfl rfl (by omega) (by omega) (Nat.le_of_ble_eq_true rfl) ?_
  rintro  I1 L2 ⟨q0, q1, q2, q3, q4, q5, q6, h1, h2⟩
  have h3 := LI.cls hLI H_m nAB h1 h2.1
  have s1 := SM.fr E h2.1
  have c1 : CI T _ I I1 := h2.2
  have f1 := CI.hrd E c1 (by decide)
  refine k_aload_n C rfl rfl rfl ?_
  refine c_VV C (a_X12_image_e h3.2.1 H_m h3.2.2.1) rfl rfl rfl rfl rfl ⟨_, rfl, rfl, H_m.1, Nat.le_of_ble_eq_true rfl⟩ rfl rfl (by omega) (by omega) (Nat.le_of_ble_eq_true rfl) ?_
  rintro  I4 L5 ⟨w9, p1, p2, hM9, cm⟩
  have h6 := LI.img h3 H_m nAB hM9 cm (by decide) w9
  have s2 := SC.cm E cm
  unfold SC at s2
  unfold SM at s1
  have hR9 := hRL
  unfold RLT at hR9
  have g1 := CM.m11 cm (by decide)
  have g3 := CM.cw E cm (by decide)
  have p2 := p2 w im Rw Rim
  have i0 := congrArg Int32.toInt (p2 0 (by decide))
  have i1 := congrArg Int32.toInt (p2 1 (by decide))
  have i2 := congrArg Int32.toInt (p2 2 (by decide))
  have hR2 : RLT x nw kp rd m w im I4 := by unfold RLT; omega
  refine k_goto C (pc2 := 1899) rfl rfl ?_
  exact K _ _ _ _ _ h6 hR2 (by omega) (by omega) (List.forall_mem_cons.mpr ⟨List.mem_of_getElem? (i := 0) rfl, List.forall_mem_cons.mpr ⟨List.mem_of_getElem? (i := 1) rfl, List.forall_mem_cons.mpr ⟨List.mem_of_getElem? (i := 2) rfl, List.forall_mem_cons.mpr ⟨List.mem_of_getElem? (i := 3) rfl, List.forall_mem_cons.mpr ⟨List.mem_of_getElem? (i := 4) rfl, fun _ h => nomatch h⟩⟩⟩⟩⟩)

set_option maxRecDepth 100000 in
set_option maxHeartbeats 4000000 in
theorem lc_40 {V : V_T} {b x nw kp rd al m w im o Ln i : Nat} {xs : Nat → Int32} {T N : Nat → Nat} {I : IT} {L : LT} {R : RT} {A B : Nat → Prop} {ck sk : Nat} (C : Cl 40 q_law 601024 7293033 law_Po V) (S : SB V) (hL : LSc V b Ln xs) (E : LW T N R A B x nw kp rd al m w im o) (hi : i + 6 ≤ Ln) (hLn : Ln ≤ 3072) (hLI : LI T R A m I) (hRL : RLT x nw kp rd m w im I) (hck : ck + 3 ≤ 601024) (hsk : sk + 18 ≤ 7293033) (K : ∀ (lv : List (Nat × Value)) (I9 : IT) (L9 : LT) (ck9 sk9 : Nat), LI T R A m I9 → RLT x nw kp rd m w im I9 → ck9 ≤ ck + 3 → sk9 ≤ sk + 18 → (∀ z ∈ ([(4, .int (Int32.ofNat i)), (3, .ref o), (2, .ref m), (1, .ref x), (0, .ref b)] : List (Nat × Value)), z ∈ lv) → V 1899 lv [] (T, N, I9, L9, R) ck9 sk9) : V 1861 [(4, .int (Int32.ofNat i)), (3, .ref o), (2, .ref m), (1, .ref x), (0, .ref b)] [] (T, N, I, L, R) ck sk := by
  obtain ⟨H_x, H_m, ⟨T_o, N_o, A_o⟩, nAB, Rnw, Rkp, Rrd, hnk, Ral, Ras, Rw, Rim⟩ := id E
  have T_x := H_x.1
  have T_m := H_m.1
  have hB := True.intro
  refine k_aload_n C rfl rfl rfl ?_
  have hbd := LI.bd E hLI
  refine c_VI C (a_X11_back_e hLI.1 H_x Rnw Rkp Rrd hnk) rfl rfl rfl rfl rfl ⟨_, rfl, rfl, H_x.1, Nat.le_of_ble_eq_true rfl⟩ rfl rfl (by omega) (by omega) (Nat.le_of_ble_eq_true rfl) ?_
  rintro x4 I1 L2 ⟨q0, q1, q2, q3, q4, q5, h1, h2⟩
  have h3 := LI.cls hLI H_m nAB h1 h2.1
  have s1 := SM.fr E h2.1
  have c1 : CI T _ I I1 := h2.2
  have f1 := CI.hrd E c1 (by decide)
  have f3 := CI.x3 E c1 (by decide)
  refine k_pop C rfl rfl rfl ?_
  refine k_aload_n C rfl rfl rfl ?_
  refine c_VI C (a_X12_back_e h3.2.1 H_m h3.2.2.1 h3.2.2.2) rfl rfl rfl rfl rfl ⟨_, rfl, rfl, H_m.1, Nat.le_of_ble_eq_true rfl⟩ rfl rfl (by omega) (by omega) (Nat.le_of_ble_eq_true rfl) ?_
  rintro x8 I5 L6 ⟨p0, p1, s9, p3, hM9, cm⟩
  have h7 := LI.ref h3 H_m nAB hM9 cm (by decide) (by decide) s9
  have s2 := SC.cm E cm
  unfold SC at s2
  unfold SM at s1
  have hR9 := hRL
  unfold RLT at hR9
  have g1 := CM.m11 cm (by decide)
  have g2 := CM.m3 cm (by decide)
  have g4 := CM.cim E cm (by decide)
  have p3 := p3 w im Rw Rim
  have hR2 : RLT x nw kp rd m w im I5 := by
    rcases p3 with ⟨b1, b2, b3⟩ | ⟨b1, b2, b3⟩ <;> (have i0 := congrArg Int32.toInt (b3 0 (by decide)); have i1 := congrArg Int32.toInt (b3 1 (by decide)); have i2 := congrArg Int32.toInt (b3 2 (by decide)); unfold RLT; omega)
  refine k_pop C rfl rfl rfl ?_
  refine k_goto C (pc2 := 1899) rfl rfl ?_
  exact K _ _ _ _ _ h7 hR2 (by omega) (by omega) (List.forall_mem_cons.mpr ⟨List.mem_of_getElem? (i := 0) rfl, List.forall_mem_cons.mpr ⟨List.mem_of_getElem? (i := 1) rfl, List.forall_mem_cons.mpr ⟨List.mem_of_getElem? (i := 2) rfl, List.forall_mem_cons.mpr ⟨List.mem_of_getElem? (i := 3) rfl, List.forall_mem_cons.mpr ⟨List.mem_of_getElem? (i := 4) rfl, fun _ h => nomatch h⟩⟩⟩⟩⟩)

set_option maxRecDepth 100000 in
set_option maxHeartbeats 4000000 in
theorem lc_41 {V : V_T} {b x nw kp rd al m w im o Ln i : Nat} {xs : Nat → Int32} {T N : Nat → Nat} {I : IT} {L : LT} {R : RT} {A B : Nat → Prop} {ck sk : Nat} (C : Cl 40 q_law 601024 7293033 law_Po V) (S : SB V) (hL : LSc V b Ln xs) (E : LW T N R A B x nw kp rd al m w im o) (hi : i + 6 ≤ Ln) (hLn : Ln ≤ 3072) (hLI : LI T R A m I) (hRL : RLT x nw kp rd m w im I) (hck : ck + 3 ≤ 601024) (hsk : sk + 18 ≤ 7293033) (K : ∀ (lv : List (Nat × Value)) (I9 : IT) (L9 : LT) (ck9 sk9 : Nat), LI T R A m I9 → RLT x nw kp rd m w im I9 → ck9 ≤ ck + 3 → sk9 ≤ sk + 18 → (∀ z ∈ ([(4, .int (Int32.ofNat i)), (3, .ref o), (2, .ref m), (1, .ref x), (0, .ref b)] : List (Nat × Value)), z ∈ lv) → V 1899 lv [] (T, N, I9, L9, R) ck9 sk9) : V 1874 [(4, .int (Int32.ofNat i)), (3, .ref o), (2, .ref m), (1, .ref x), (0, .ref b)] [] (T, N, I, L, R) ck sk := by
  obtain ⟨H_x, H_m, ⟨T_o, N_o, A_o⟩, nAB, Rnw, Rkp, Rrd, hnk, Ral, Ras, Rw, Rim⟩ := id E
  have T_x := H_x.1
  have T_m := H_m.1
  have hB := True.intro
  refine k_aload_n C rfl rfl rfl ?_
  refine k_aload_n C rfl rfl rfl ?_
  refine k_iload C rfl rfl rfl ?_
  refine k_iconst C (x := 1) rfl rfl rfl ?_
  refine k_iadd C rfl rfl ?_
  refine hL.1 _ _ _ _ _ _ _ rfl (vsk hi hLn (c := 1) (by decide)) ?_
  refine c_VI C (a_X11_stock hLI.1 H_x) rfl rfl rfl rfl rfl ⟨_, rfl, rfl, H_x.1, Nat.le_of_ble_eq_true rfl⟩ rfl rfl (by omega) (by omega) (Nat.le_of_ble_eq_true rfl) ?_
  rintro x4 _ _ ⟨rfl, rfl⟩
  refine k_pop C rfl rfl rfl ?_
  refine k_aload_n C rfl rfl rfl ?_
  refine k_aload_n C rfl rfl rfl ?_
  refine k_iload C rfl rfl rfl ?_
  refine k_iconst C (x := 1) rfl rfl rfl ?_
  refine k_iadd C rfl rfl ?_
  refine hL.1 _ _ _ _ _ _ _ rfl (vsk hi hLn (c := 1) (by decide)) ?_
  refine c_VI C (a_X12_stock hLI.2.1 H_m) rfl rfl rfl rfl rfl ⟨_, rfl, rfl, H_m.1, Nat.le_of_ble_eq_true rfl⟩ rfl rfl (by omega) (by omega) (Nat.le_of_ble_eq_true rfl) ?_
  rintro x8 I5 L6 ⟨hM9, cm⟩
  have h7 := LI.ref0 hLI H_m nAB hM9 cm (by decide) (by decide) (by decide)
  have h9 := RLT.keep hRL (SC.b E (fun _ _ => rfl)) (by unfold SM; exact ⟨rfl, rfl, rfl, rfl, rfl, rfl, rfl, rfl⟩) (SC.cm E cm) (SM.cm E cm (by decide) (by decide) (by decide) (by decide))
  refine k_pop C rfl rfl rfl ?_
  refine k_goto C (pc2 := 1899) rfl rfl ?_
  exact K _ _ _ _ _ h7 h9 (by omega) (by omega) (List.forall_mem_cons.mpr ⟨List.mem_of_getElem? (i := 0) rfl, List.forall_mem_cons.mpr ⟨List.mem_of_getElem? (i := 1) rfl, List.forall_mem_cons.mpr ⟨List.mem_of_getElem? (i := 2) rfl, List.forall_mem_cons.mpr ⟨List.mem_of_getElem? (i := 3) rfl, List.forall_mem_cons.mpr ⟨List.mem_of_getElem? (i := 4) rfl, fun _ h => nomatch h⟩⟩⟩⟩⟩)

