/-! the law: a call at any place -/
set_option maxRecDepth 100000 in
set_option maxHeartbeats 4000000 in
theorem lc_0 {V : V_T} {b x nw kp rd al m w im o cb tp Ln i : Nat} {xs : Nat → Int32} {T N : Nat → Nat} {I : IT} {L : LT} {R : RT} {A B : Nat → Prop} {ck sk : Nat} (C : Cl 40 q_law 601024 7293033 law_Po V) (S : SB V) (hL : LSc V b Ln xs) (E : LX T N R A B x nw kp rd al m w im o cb tp) (hi : i + 6 ≤ Ln) (hLn : Ln ≤ 3072) (hLI : LI T R A m I) (hRL : RY R x nw kp rd cb m w im tp I) (hck : ck + 3 ≤ 601024) (hsk : sk + 18 ≤ 7293033) (K : ∀ (lv : List (Nat × Value)) (I9 : IT) (L9 : LT) (ck9 sk9 : Nat), LI T R A m I9 → RY R x nw kp rd cb m w im tp I9 → ck9 ≤ ck + 3 → sk9 ≤ sk + 18 → (∀ z ∈ ([(4, .int (Int32.ofNat i)), (3, .ref o), (2, .ref m), (1, .ref x), (0, .ref b)] : List (Nat × Value)), z ∈ lv) → V 1899 lv [] (T, N, I9, L9, R) ck9 sk9) : V 224 [(4, .int (Int32.ofNat i)), (3, .ref o), (2, .ref m), (1, .ref x), (0, .ref b)] [] (T, N, I, L, R) ck sk := by
  obtain ⟨H_x, H_m, ⟨T_o, N_o, A_o⟩, nAB, Rnw, Rkp, Rrd, hnk, Ral, Ras, Rw, Rim⟩ := id E.1
  have T_x := H_x.1
  have T_m := H_m.1
  have hB := True.intro
  refine k_aload_n C rfl rfl rfl ?_
  refine k_aload_n C rfl rfl rfl ?_
  refine k_iload C rfl rfl rfl ?_
  refine k_iconst C (x := 1) rfl rfl rfl ?_
  refine k_iadd C rfl rfl ?_
  refine hL.1 _ _ _ _ _ _ _ rfl (vsk hi hLn (c := 1) (by decide)) ?_
  refine k_aload_n C rfl rfl rfl ?_
  refine k_iload C rfl rfl rfl ?_
  refine k_iconst C (x := 2) rfl rfl rfl ?_
  refine k_iadd C rfl rfl ?_
  refine hL.1 _ _ _ _ _ _ _ rfl (vsk hi hLn (c := 2) (by decide)) ?_
  refine k_aload_n C rfl rfl rfl ?_
  refine k_iload C rfl rfl rfl ?_
  refine k_iconst C (x := 3) rfl rfl rfl ?_
  refine k_iadd C rfl rfl ?_
  refine hL.1 _ _ _ _ _ _ _ rfl (vsk hi hLn (c := 3) (by decide)) ?_
  refine k_aload_n C rfl rfl rfl ?_
  refine k_iload C rfl rfl rfl ?_
  refine k_iconst C (x := 4) rfl rfl rfl ?_
  refine k_iadd C rfl rfl ?_
  refine hL.1 _ _ _ _ _ _ _ rfl (vsk hi hLn (c := 4) (by decide)) ?_
  refine k_aload_n C rfl rfl rfl ?_
  refine k_iload C rfl rfl rfl ?_
  refine k_iconst C (x := 5) rfl rfl rfl ?_
  refine k_iadd C rfl rfl ?_
  refine hL.1 _ _ _ _ _ _ _ rfl (vsk hi hLn (c := 5) (by decide)) ?_
  refine c_VI C (kc_feed E hLI hRL) rfl rfl rfl rfl rfl ⟨_, rfl, rfl, H_x.1, Nat.le_of_ble_eq_true rfl⟩ rfl rfl (by omega) (by omega) (Nat.le_of_ble_eq_true rfl) ?_
  rintro x4 I1 L2 ⟨q0, h1, h2⟩
  have c1 : CB (SL [rd, cb]) T _ I I1 := h2.cb
  have h3 := HL.c E hLI h1 c1 (fun a q => SLf.a9 E q)
  refine k_pop C rfl rfl rfl ?_
  refine k_aload_n C rfl rfl rfl ?_
  refine k_aload_n C rfl rfl rfl ?_
  refine k_iload C rfl rfl rfl ?_
  refine k_iconst C (x := 1) rfl rfl rfl ?_
  refine k_iadd C rfl rfl ?_
  refine hL.1 _ _ _ _ _ _ _ rfl (vsk hi hLn (c := 1) (by decide)) ?_
  refine k_aload_n C rfl rfl rfl ?_
  refine k_iload C rfl rfl rfl ?_
  refine k_iconst C (x := 2) rfl rfl rfl ?_
  refine k_iadd C rfl rfl ?_
  refine hL.1 _ _ _ _ _ _ _ rfl (vsk hi hLn (c := 2) (by decide)) ?_
  refine k_aload_n C rfl rfl rfl ?_
  refine k_iload C rfl rfl rfl ?_
  refine k_iconst C (x := 3) rfl rfl rfl ?_
  refine k_iadd C rfl rfl ?_
  refine hL.1 _ _ _ _ _ _ _ rfl (vsk hi hLn (c := 3) (by decide)) ?_
  refine k_aload_n C rfl rfl rfl ?_
  refine k_iload C rfl rfl rfl ?_
  refine k_iconst C (x := 4) rfl rfl rfl ?_
  refine k_iadd C rfl rfl ?_
  refine hL.1 _ _ _ _ _ _ _ rfl (vsk hi hLn (c := 4) (by decide)) ?_
  refine k_aload_n C rfl rfl rfl ?_
  refine k_iload C rfl rfl rfl ?_
  refine k_iconst C (x := 5) rfl rfl rfl ?_
  refine k_iadd C rfl rfl ?_
  refine hL.1 _ _ _ _ _ _ _ rfl (vsk hi hLn (c := 5) (by decide)) ?_
  refine c_VI C (a_X12_feed_x h3.2.1 H_m) rfl rfl rfl rfl rfl ⟨_, rfl, rfl, H_m.1, Nat.le_of_ble_eq_true rfl⟩ rfl rfl (by omega) (by omega) (Nat.le_of_ble_eq_true rfl) ?_
  rintro x8 I5 L6 ⟨p0, p1, p2, p3, p4, hM9, cm⟩
  have h7 := LI.ref0 h3 H_m nAB hM9 cm (by decide) (by decide) (by decide)
  have h9 := OP_feed E hLI h3 h7 hRL c1 q0 cm p0 p1 p2 p3 p4
  refine k_pop C rfl rfl rfl ?_
  refine k_goto C (pc2 := 1899) rfl rfl ?_
  exact K _ _ _ _ _ h7 h9 (by omega) (by omega) (List.forall_mem_cons.mpr ⟨List.mem_of_getElem? (i := 0) rfl, List.forall_mem_cons.mpr ⟨List.mem_of_getElem? (i := 1) rfl, List.forall_mem_cons.mpr ⟨List.mem_of_getElem? (i := 2) rfl, List.forall_mem_cons.mpr ⟨List.mem_of_getElem? (i := 3) rfl, List.forall_mem_cons.mpr ⟨List.mem_of_getElem? (i := 4) rfl, fun _ h => nomatch h⟩⟩⟩⟩⟩)

set_option maxRecDepth 100000 in
set_option maxHeartbeats 4000000 in
theorem lc_1 {V : V_T} {b x nw kp rd al m w im o cb tp Ln i : Nat} {xs : Nat → Int32} {T N : Nat → Nat} {I : IT} {L : LT} {R : RT} {A B : Nat → Prop} {ck sk : Nat} (C : Cl 40 q_law 601024 7293033 law_Po V) (S : SB V) (hL : LSc V b Ln xs) (E : LX T N R A B x nw kp rd al m w im o cb tp) (hi : i + 6 ≤ Ln) (hLn : Ln ≤ 3072) (hLI : LI T R A m I) (hRL : RY R x nw kp rd cb m w im tp I) (hck : ck + 3 ≤ 601024) (hsk : sk + 18 ≤ 7293033) (K : ∀ (lv : List (Nat × Value)) (I9 : IT) (L9 : LT) (ck9 sk9 : Nat), LI T R A m I9 → RY R x nw kp rd cb m w im tp I9 → ck9 ≤ ck + 3 → sk9 ≤ sk + 18 → (∀ z ∈ ([(4, .int (Int32.ofNat i)), (3, .ref o), (2, .ref m), (1, .ref x), (0, .ref b)] : List (Nat × Value)), z ∈ lv) → V 1899 lv [] (T, N, I9, L9, R) ck9 sk9) : V 297 [(4, .int (Int32.ofNat i)), (3, .ref o), (2, .ref m), (1, .ref x), (0, .ref b)] [] (T, N, I, L, R) ck sk := by
  obtain ⟨H_x, H_m, ⟨T_o, N_o, A_o⟩, nAB, Rnw, Rkp, Rrd, hnk, Ral, Ras, Rw, Rim⟩ := id E.1
  have T_x := H_x.1
  have T_m := H_m.1
  have hB := True.intro
  refine k_aload_n C rfl rfl rfl ?_
  refine k_aload_n C rfl rfl rfl ?_
  refine k_iload C rfl rfl rfl ?_
  refine k_iconst C (x := 1) rfl rfl rfl ?_
  refine k_iadd C rfl rfl ?_
  refine hL.1 _ _ _ _ _ _ _ rfl (vsk hi hLn (c := 1) (by decide)) ?_
  refine c_VI C (kc_end E hLI hRL) rfl rfl rfl rfl rfl ⟨_, rfl, rfl, H_x.1, Nat.le_of_ble_eq_true rfl⟩ rfl rfl (by omega) (by omega) (Nat.le_of_ble_eq_true rfl) ?_
  rintro x4 I1 L2 ⟨q0, q1, q2, h1, h2⟩
  have c1 : CB (SL [rd]) T _ I I1 := h2.cb
  have h3 := HL.c E hLI h1 c1 (fun a q => by rw [List.mem_singleton.mp (SL.a q)]; exact E.1.t.2.1.2.2.2)
  refine k_pop C rfl rfl rfl ?_
  refine k_aload_n C rfl rfl rfl ?_
  refine k_aload_n C rfl rfl rfl ?_
  refine k_iload C rfl rfl rfl ?_
  refine k_iconst C (x := 1) rfl rfl rfl ?_
  refine k_iadd C rfl rfl ?_
  refine hL.1 _ _ _ _ _ _ _ rfl (vsk hi hLn (c := 1) (by decide)) ?_
  refine c_VI C (a_X12_end_e h3.2.1 H_m) rfl rfl rfl rfl rfl ⟨_, rfl, rfl, H_m.1, Nat.le_of_ble_eq_true rfl⟩ rfl rfl (by omega) (by omega) (Nat.le_of_ble_eq_true rfl) ?_
  rintro x8 I5 L6 ⟨p0, p1, p2, hM9, cm⟩
  have h7 := LI.ref0 h3 H_m nAB hM9 cm (by decide) (by decide) (by decide)
  have h9 := OP_end E hLI h3 h7 hRL c1 q0 q1 q2 cm p0 p1 p2
  refine k_pop C rfl rfl rfl ?_
  refine k_goto C (pc2 := 1899) rfl rfl ?_
  exact K _ _ _ _ _ h7 h9 (by omega) (by omega) (List.forall_mem_cons.mpr ⟨List.mem_of_getElem? (i := 0) rfl, List.forall_mem_cons.mpr ⟨List.mem_of_getElem? (i := 1) rfl, List.forall_mem_cons.mpr ⟨List.mem_of_getElem? (i := 2) rfl, List.forall_mem_cons.mpr ⟨List.mem_of_getElem? (i := 3) rfl, List.forall_mem_cons.mpr ⟨List.mem_of_getElem? (i := 4) rfl, fun _ h => nomatch h⟩⟩⟩⟩⟩)

set_option maxRecDepth 100000 in
set_option maxHeartbeats 4000000 in
theorem lc_2 {V : V_T} {b x nw kp rd al m w im o cb tp Ln i : Nat} {xs : Nat → Int32} {T N : Nat → Nat} {I : IT} {L : LT} {R : RT} {A B : Nat → Prop} {ck sk : Nat} (C : Cl 40 q_law 601024 7293033 law_Po V) (S : SB V) (hL : LSc V b Ln xs) (E : LX T N R A B x nw kp rd al m w im o cb tp) (hi : i + 6 ≤ Ln) (hLn : Ln ≤ 3072) (hLI : LI T R A m I) (hRL : RY R x nw kp rd cb m w im tp I) (hck : ck + 3 ≤ 601024) (hsk : sk + 18 ≤ 7293033) (K : ∀ (lv : List (Nat × Value)) (I9 : IT) (L9 : LT) (ck9 sk9 : Nat), LI T R A m I9 → RY R x nw kp rd cb m w im tp I9 → ck9 ≤ ck + 3 → sk9 ≤ sk + 18 → (∀ z ∈ ([(4, .int (Int32.ofNat i)), (3, .ref o), (2, .ref m), (1, .ref x), (0, .ref b)] : List (Nat × Value)), z ∈ lv) → V 1899 lv [] (T, N, I9, L9, R) ck9 sk9) : V 322 [(4, .int (Int32.ofNat i)), (3, .ref o), (2, .ref m), (1, .ref x), (0, .ref b)] [] (T, N, I, L, R) ck sk := by
  obtain ⟨H_x, H_m, ⟨T_o, N_o, A_o⟩, nAB, Rnw, Rkp, Rrd, hnk, Ral, Ras, Rw, Rim⟩ := id E.1
  have T_x := H_x.1
  have T_m := H_m.1
  have hB := True.intro
  refine k_aload_n C rfl rfl rfl ?_
  refine k_aload_n C rfl rfl rfl ?_
  refine k_iload C rfl rfl rfl ?_
  refine k_iconst C (x := 1) rfl rfl rfl ?_
  refine k_iadd C rfl rfl ?_
  refine hL.1 _ _ _ _ _ _ _ rfl (vsk hi hLn (c := 1) (by decide)) ?_
  refine c_SI C (v_L_field E hLI hRL) rfl rfl rfl rfl rfl rfl rfl (by omega) (by omega) (Nat.le_of_ble_eq_true rfl) ?_
  rintro x3 I1 L2 ⟨⟨h1, c1⟩, hc⟩
  rcases hc with ⟨rfl, q0, q1⟩ | ⟨rfl, q0, q1⟩ | ⟨rfl, q0, q1⟩
  · skip
    have h4 := HL.c E hLI h1 c1 (fun a q => by rw [List.mem_singleton.mp (SL.a q)]; exact E.1.t.2.1.2.1)
    refine k_istore C (lw := [(5, .int _), (4, .int _), (3, _), (2, _), (1, _), (0, _)]) rfl rfl (Nat.le_of_ble_eq_true rfl) rfl ?_
    refine k_aload_n C rfl rfl rfl ?_
    refine k_aload_n C rfl rfl rfl ?_
    refine k_iload C rfl rfl rfl ?_
    refine k_iconst C (x := 1) rfl rfl rfl ?_
    refine k_iadd C rfl rfl ?_
    refine hL.1 _ _ _ _ _ _ _ rfl (vsk hi hLn (c := 1) (by decide)) ?_
    refine c_VV C (a_X12_field_e h4.2.1 H_m) rfl rfl rfl rfl rfl ⟨_, rfl, rfl, H_m.1, Nat.le_of_ble_eq_true rfl⟩ rfl rfl (by omega) (by omega) (Nat.le_of_ble_eq_true rfl) ?_
    rintro  I5 L6 ⟨s9, p1, p2, hM9, cm⟩
    have h7 := LI.ref h4 H_m nAB hM9 cm (by decide) (by decide) (fun w hw => s9 w hw (h4.2.2.1 w hw))
    have h8 := OP_field E hLI h4 h7 hRL c1 q0 q1 cm s9 p1 p2
    refine k_goto C (pc2 := 1899) rfl rfl ?_
    exact K _ _ _ _ _ h7 h8 (by omega) (by omega) (List.forall_mem_cons.mpr ⟨List.mem_of_getElem? (i := 1) rfl, List.forall_mem_cons.mpr ⟨List.mem_of_getElem? (i := 2) rfl, List.forall_mem_cons.mpr ⟨List.mem_of_getElem? (i := 3) rfl, List.forall_mem_cons.mpr ⟨List.mem_of_getElem? (i := 4) rfl, List.forall_mem_cons.mpr ⟨List.mem_of_getElem? (i := 5) rfl, fun _ h => nomatch h⟩⟩⟩⟩⟩)
  · skip
    have h4 := HL.s E hLI q1
    refine k_istore C (lw := [(5, .int _), (4, .int _), (3, _), (2, _), (1, _), (0, _)]) rfl rfl (Nat.le_of_ble_eq_true rfl) rfl ?_
    refine k_aload_n C rfl rfl rfl ?_
    refine k_aload_n C rfl rfl rfl ?_
    refine k_iload C rfl rfl rfl ?_
    refine k_iconst C (x := 1) rfl rfl rfl ?_
    refine k_iadd C rfl rfl ?_
    refine hL.1 _ _ _ _ _ _ _ rfl (vsk hi hLn (c := 1) (by decide)) ?_
    refine c_VV C (a_X12_field_e h4.2.1 H_m) rfl rfl rfl rfl rfl ⟨_, rfl, rfl, H_m.1, Nat.le_of_ble_eq_true rfl⟩ rfl rfl (by omega) (by omega) (Nat.le_of_ble_eq_true rfl) ?_
    rintro  I9 L10 ⟨s9, p1, p2, hM9, cm⟩
    have h11 := LI.ref h4 H_m nAB hM9 cm (by decide) (by decide) (fun w hw => s9 w hw (h4.2.2.1 w hw))
    have h12 := OP_field_0 E hLI h4 h11 hRL c1 q0 q1 cm s9 p1 p2
    refine k_goto C (pc2 := 1899) rfl rfl ?_
    exact K _ _ _ _ _ h11 h12 (by omega) (by omega) (List.forall_mem_cons.mpr ⟨List.mem_of_getElem? (i := 1) rfl, List.forall_mem_cons.mpr ⟨List.mem_of_getElem? (i := 2) rfl, List.forall_mem_cons.mpr ⟨List.mem_of_getElem? (i := 3) rfl, List.forall_mem_cons.mpr ⟨List.mem_of_getElem? (i := 4) rfl, List.forall_mem_cons.mpr ⟨List.mem_of_getElem? (i := 5) rfl, fun _ h => nomatch h⟩⟩⟩⟩⟩)
  · skip
    have h4 := HL.s E hLI q1
    refine k_istore C (lw := [(5, .int _), (4, .int _), (3, _), (2, _), (1, _), (0, _)]) rfl rfl (Nat.le_of_ble_eq_true rfl) rfl ?_
    refine k_aload_n C rfl rfl rfl ?_
    refine k_aload_n C rfl rfl rfl ?_
    refine k_iload C rfl rfl rfl ?_
    refine k_iconst C (x := 1) rfl rfl rfl ?_
    refine k_iadd C rfl rfl ?_
    refine hL.1 _ _ _ _ _ _ _ rfl (vsk hi hLn (c := 1) (by decide)) ?_
    refine c_VV C (a_X12_field_e h4.2.1 H_m) rfl rfl rfl rfl rfl ⟨_, rfl, rfl, H_m.1, Nat.le_of_ble_eq_true rfl⟩ rfl rfl (by omega) (by omega) (Nat.le_of_ble_eq_true rfl) ?_
    rintro  I13 L14 ⟨s9, p1, p2, hM9, cm⟩
    have h15 := LI.ref h4 H_m nAB hM9 cm (by decide) (by decide) (fun w hw => s9 w hw (h4.2.2.1 w hw))
    have h16 := OP_field_1 E hLI h4 h15 hRL c1 q0 q1 cm s9 p1 p2
    refine k_goto C (pc2 := 1899) rfl rfl ?_
    exact K _ _ _ _ _ h15 h16 (by omega) (by omega) (List.forall_mem_cons.mpr ⟨List.mem_of_getElem? (i := 1) rfl, List.forall_mem_cons.mpr ⟨List.mem_of_getElem? (i := 2) rfl, List.forall_mem_cons.mpr ⟨List.mem_of_getElem? (i := 3) rfl, List.forall_mem_cons.mpr ⟨List.mem_of_getElem? (i := 4) rfl, List.forall_mem_cons.mpr ⟨List.mem_of_getElem? (i := 5) rfl, fun _ h => nomatch h⟩⟩⟩⟩⟩)

set_option maxRecDepth 100000 in
set_option maxHeartbeats 4000000 in
theorem lc_3 {V : V_T} {b x nw kp rd al m w im o cb tp Ln i : Nat} {xs : Nat → Int32} {T N : Nat → Nat} {I : IT} {L : LT} {R : RT} {A B : Nat → Prop} {ck sk : Nat} (C : Cl 40 q_law 601024 7293033 law_Po V) (S : SB V) (hL : LSc V b Ln xs) (E : LX T N R A B x nw kp rd al m w im o cb tp) (hi : i + 6 ≤ Ln) (hLn : Ln ≤ 3072) (hLI : LI T R A m I) (hRL : RY R x nw kp rd cb m w im tp I) (hck : ck + 3 ≤ 601024) (hsk : sk + 18 ≤ 7293033) (K : ∀ (lv : List (Nat × Value)) (I9 : IT) (L9 : LT) (ck9 sk9 : Nat), LI T R A m I9 → RY R x nw kp rd cb m w im tp I9 → ck9 ≤ ck + 3 → sk9 ≤ sk + 18 → (∀ z ∈ ([(4, .int (Int32.ofNat i)), (3, .ref o), (2, .ref m), (1, .ref x), (0, .ref b)] : List (Nat × Value)), z ∈ lv) → V 1899 lv [] (T, N, I9, L9, R) ck9 sk9) : V 347 [(4, .int (Int32.ofNat i)), (3, .ref o), (2, .ref m), (1, .ref x), (0, .ref b)] [] (T, N, I, L, R) ck sk := by
  obtain ⟨H_x, H_m, ⟨T_o, N_o, A_o⟩, nAB, Rnw, Rkp, Rrd, hnk, Ral, Ras, Rw, Rim⟩ := id E.1
  have T_x := H_x.1
  have T_m := H_m.1
  have hB := True.intro
  refine k_aload_n C rfl rfl rfl ?_
  refine k_aload_n C rfl rfl rfl ?_
  refine c_SI C (v_L_form E hLI hRL) rfl rfl rfl rfl rfl rfl rfl (by omega) (by omega) (Nat.le_of_ble_eq_true rfl) ?_
  rintro x3 I1 L2 ⟨⟨h1, c1⟩, hc⟩
  rcases hc with ⟨rfl, r, v1, q0, q1, q2, q3, q4, q5⟩ | ⟨rfl, q0, q1, q2⟩ | ⟨rfl, q0, q1, q2⟩
  · skip
    have h4 := HL.c E hLI h1 c1 (fun a q => sFm.a9 E (ncn (n := 16) (by have := RY.b E hLI hRL; omega) (by omega)) q)
    refine k_istore C (lw := [(5, .int _), (4, .int _), (3, _), (2, _), (1, _), (0, _)]) rfl rfl (Nat.le_of_ble_eq_true rfl) rfl ?_
    refine k_aload_n C rfl rfl rfl ?_
    refine c_VI C (a_X12_form_x h4.2.1 H_m) rfl rfl rfl rfl rfl ⟨_, rfl, rfl, H_m.1, Nat.le_of_ble_eq_true rfl⟩ rfl rfl (by omega) (by omega) (Nat.le_of_ble_eq_true rfl) ?_
    rintro x8 I5 L6 ⟨p0, p1, s9, p3, p4, p5, p6, p7, p8, hM9, cm⟩
    have h7 := LI.ref h4 H_m nAB hM9 cm (by decide) (by decide) (fun w hw => s9 w hw (h4.2.2.1 w hw))
    have h9 := OP_form E hLI h4 h7 hRL c1 q0 q1 q2 q3 q4 q5 cm p0 p1 s9 p3 p4 p5 p6 p7 p8
    refine k_istore C (lw := [(6, .int _), (5, .int _), (4, .int _), (3, _), (2, _), (1, _), (0, _)]) rfl rfl (Nat.le_of_ble_eq_true rfl) rfl ?_
    refine k_goto C (pc2 := 1899) rfl rfl ?_
    exact K _ _ _ _ _ h7 h9 (by omega) (by omega) (List.forall_mem_cons.mpr ⟨List.mem_of_getElem? (i := 2) rfl, List.forall_mem_cons.mpr ⟨List.mem_of_getElem? (i := 3) rfl, List.forall_mem_cons.mpr ⟨List.mem_of_getElem? (i := 4) rfl, List.forall_mem_cons.mpr ⟨List.mem_of_getElem? (i := 5) rfl, List.forall_mem_cons.mpr ⟨List.mem_of_getElem? (i := 6) rfl, fun _ h => nomatch h⟩⟩⟩⟩⟩)
  · skip
    have h4 := HL.rd9 E hLI h1 q2
    refine k_istore C (lw := [(5, .int _), (4, .int _), (3, _), (2, _), (1, _), (0, _)]) rfl rfl (Nat.le_of_ble_eq_true rfl) rfl ?_
    refine k_aload_n C rfl rfl rfl ?_
    refine c_VI C (a_X12_form_x h4.2.1 H_m) rfl rfl rfl rfl rfl ⟨_, rfl, rfl, H_m.1, Nat.le_of_ble_eq_true rfl⟩ rfl rfl (by omega) (by omega) (Nat.le_of_ble_eq_true rfl) ?_
    rintro x13 I10 L11 ⟨p0, p1, s9, p3, p4, p5, p6, p7, p8, hM9, cm⟩
    have h12 := LI.ref h4 H_m nAB hM9 cm (by decide) (by decide) (fun w hw => s9 w hw (h4.2.2.1 w hw))
    have h14 := OP_form_0 E hLI h4 h12 hRL c1 q0 q1 q2 cm p0 p1 s9 p3 p4 p5 p6 p7 p8
    refine k_istore C (lw := [(6, .int _), (5, .int _), (4, .int _), (3, _), (2, _), (1, _), (0, _)]) rfl rfl (Nat.le_of_ble_eq_true rfl) rfl ?_
    refine k_goto C (pc2 := 1899) rfl rfl ?_
    exact K _ _ _ _ _ h12 h14 (by omega) (by omega) (List.forall_mem_cons.mpr ⟨List.mem_of_getElem? (i := 2) rfl, List.forall_mem_cons.mpr ⟨List.mem_of_getElem? (i := 3) rfl, List.forall_mem_cons.mpr ⟨List.mem_of_getElem? (i := 4) rfl, List.forall_mem_cons.mpr ⟨List.mem_of_getElem? (i := 5) rfl, List.forall_mem_cons.mpr ⟨List.mem_of_getElem? (i := 6) rfl, fun _ h => nomatch h⟩⟩⟩⟩⟩)
  · skip
    have h4 := HL.rd9 E hLI h1 q2
    refine k_istore C (lw := [(5, .int _), (4, .int _), (3, _), (2, _), (1, _), (0, _)]) rfl rfl (Nat.le_of_ble_eq_true rfl) rfl ?_
    refine k_aload_n C rfl rfl rfl ?_
    refine c_VI C (a_X12_form_x h4.2.1 H_m) rfl rfl rfl rfl rfl ⟨_, rfl, rfl, H_m.1, Nat.le_of_ble_eq_true rfl⟩ rfl rfl (by omega) (by omega) (Nat.le_of_ble_eq_true rfl) ?_
    rintro x18 I15 L16 ⟨p0, p1, s9, p3, p4, p5, p6, p7, p8, hM9, cm⟩
    have h17 := LI.ref h4 H_m nAB hM9 cm (by decide) (by decide) (fun w hw => s9 w hw (h4.2.2.1 w hw))
    have h19 := OP_form_2 E hLI h4 h17 hRL c1 q0 q1 q2 cm p0 p1 s9 p3 p4 p5 p6 p7 p8
    refine k_istore C (lw := [(6, .int _), (5, .int _), (4, .int _), (3, _), (2, _), (1, _), (0, _)]) rfl rfl (Nat.le_of_ble_eq_true rfl) rfl ?_
    refine k_goto C (pc2 := 1899) rfl rfl ?_
    exact K _ _ _ _ _ h17 h19 (by omega) (by omega) (List.forall_mem_cons.mpr ⟨List.mem_of_getElem? (i := 2) rfl, List.forall_mem_cons.mpr ⟨List.mem_of_getElem? (i := 3) rfl, List.forall_mem_cons.mpr ⟨List.mem_of_getElem? (i := 4) rfl, List.forall_mem_cons.mpr ⟨List.mem_of_getElem? (i := 5) rfl, List.forall_mem_cons.mpr ⟨List.mem_of_getElem? (i := 6) rfl, fun _ h => nomatch h⟩⟩⟩⟩⟩)

set_option maxRecDepth 100000 in
set_option maxHeartbeats 4000000 in
theorem lc_4 {V : V_T} {b x nw kp rd al m w im o cb tp Ln i : Nat} {xs : Nat → Int32} {T N : Nat → Nat} {I : IT} {L : LT} {R : RT} {A B : Nat → Prop} {ck sk : Nat} (C : Cl 40 q_law 601024 7293033 law_Po V) (S : SB V) (hL : LSc V b Ln xs) (E : LX T N R A B x nw kp rd al m w im o cb tp) (hi : i + 6 ≤ Ln) (hLn : Ln ≤ 3072) (hLI : LI T R A m I) (hRL : RY R x nw kp rd cb m w im tp I) (hck : ck + 3 ≤ 601024) (hsk : sk + 18 ≤ 7293033) (K : ∀ (lv : List (Nat × Value)) (I9 : IT) (L9 : LT) (ck9 sk9 : Nat), LI T R A m I9 → RY R x nw kp rd cb m w im tp I9 → ck9 ≤ ck + 3 → sk9 ≤ sk + 18 → (∀ z ∈ ([(4, .int (Int32.ofNat i)), (3, .ref o), (2, .ref m), (1, .ref x), (0, .ref b)] : List (Nat × Value)), z ∈ lv) → V 1899 lv [] (T, N, I9, L9, R) ck9 sk9) : V 363 [(4, .int (Int32.ofNat i)), (3, .ref o), (2, .ref m), (1, .ref x), (0, .ref b)] [] (T, N, I, L, R) ck sk := by
  obtain ⟨H_x, H_m, ⟨T_o, N_o, A_o⟩, nAB, Rnw, Rkp, Rrd, hnk, Ral, Ras, Rw, Rim⟩ := id E.1
  have T_x := H_x.1
  have T_m := H_m.1
  have hB := True.intro
  refine k_aload_n C rfl rfl rfl ?_
  refine k_aload_n C rfl rfl rfl ?_
  refine k_iload C rfl rfl rfl ?_
  refine k_iconst C (x := 1) rfl rfl rfl ?_
  refine k_iadd C rfl rfl ?_
  refine hL.1 _ _ _ _ _ _ _ rfl (vsk hi hLn (c := 1) (by decide)) ?_
  refine k_aload_n C rfl rfl rfl ?_
  refine k_iload C rfl rfl rfl ?_
  refine k_iconst C (x := 2) rfl rfl rfl ?_
  refine k_iadd C rfl rfl ?_
  refine hL.1 _ _ _ _ _ _ _ rfl (vsk hi hLn (c := 2) (by decide)) ?_
  refine k_aload_n C rfl rfl rfl ?_
  refine k_iload C rfl rfl rfl ?_
  refine k_iconst C (x := 3) rfl rfl rfl ?_
  refine k_iadd C rfl rfl ?_
  refine hL.1 _ _ _ _ _ _ _ rfl (vsk hi hLn (c := 3) (by decide)) ?_
  refine k_aload_n C rfl rfl rfl ?_
  refine k_iload C rfl rfl rfl ?_
  refine k_iconst C (x := 4) rfl rfl rfl ?_
  refine k_iadd C rfl rfl ?_
  refine hL.1 _ _ _ _ _ _ _ rfl (vsk hi hLn (c := 4) (by decide)) ?_
  refine k_aload_n C rfl rfl rfl ?_
  refine c_SI C (v_L_table E hLI hRL) rfl rfl rfl rfl rfl rfl rfl (by omega) (by omega) (Nat.le_of_ble_eq_true rfl) ?_
  rintro x3 I1 L2 ⟨⟨h1, c1⟩, hc⟩
  rcases hc with ⟨rfl, r, v1, q0, q1, q2, q3, q4, q5⟩ | ⟨rfl, q0, q1⟩ | ⟨rfl, q0, q1⟩
  · skip
    have h4 := HL.c E hLI h1 c1 (fun a q => sTb.a9 E (ncn (n := 8) (by have := RY.b E hLI hRL; omega) (by omega)) q)
    refine k_istore C (lw := [(5, .int _), (4, .int _), (3, _), (2, _), (1, _), (0, _)]) rfl rfl (Nat.le_of_ble_eq_true rfl) rfl ?_
    refine k_aload_n C rfl rfl rfl ?_
    refine k_aload_n C rfl rfl rfl ?_
    refine k_iload C rfl rfl rfl ?_
    refine k_iconst C (x := 1) rfl rfl rfl ?_
    refine k_iadd C rfl rfl ?_
    refine hL.1 _ _ _ _ _ _ _ rfl (vsk hi hLn (c := 1) (by decide)) ?_
    refine k_aload_n C rfl rfl rfl ?_
    refine k_iload C rfl rfl rfl ?_
    refine k_iconst C (x := 2) rfl rfl rfl ?_
    refine k_iadd C rfl rfl ?_
    refine hL.1 _ _ _ _ _ _ _ rfl (vsk hi hLn (c := 2) (by decide)) ?_
    refine k_aload_n C rfl rfl rfl ?_
    refine k_iload C rfl rfl rfl ?_
    refine k_iconst C (x := 3) rfl rfl rfl ?_
    refine k_iadd C rfl rfl ?_
    refine hL.1 _ _ _ _ _ _ _ rfl (vsk hi hLn (c := 3) (by decide)) ?_
    refine k_aload_n C rfl rfl rfl ?_
    refine k_iload C rfl rfl rfl ?_
    refine k_iconst C (x := 4) rfl rfl rfl ?_
    refine k_iadd C rfl rfl ?_
    refine hL.1 _ _ _ _ _ _ _ rfl (vsk hi hLn (c := 4) (by decide)) ?_
    refine c_VI C (a_X12_table_x h4.2.1 H_m) rfl rfl rfl rfl rfl ⟨_, rfl, rfl, H_m.1, Nat.le_of_ble_eq_true rfl⟩ rfl rfl (by omega) (by omega) (Nat.le_of_ble_eq_true rfl) ?_
    rintro x8 I5 L6 ⟨p0, p1, s9, p3, p4, p5, hM9, cm⟩
    have h7 := LI.ref h4 H_m nAB hM9 cm (by decide) (by decide) (fun w hw => s9 w hw (h4.2.2.1 w hw))
    have h9 := OP_table E hLI h4 h7 hRL c1 q0 q1 q2 q3 q4 q5 cm p0 p1 s9 p3 p4 p5
    refine k_istore C (lw := [(6, .int _), (5, .int _), (4, .int _), (3, _), (2, _), (1, _), (0, _)]) rfl rfl (Nat.le_of_ble_eq_true rfl) rfl ?_
    refine k_goto C (pc2 := 1899) rfl rfl ?_
    exact K _ _ _ _ _ h7 h9 (by omega) (by omega) (List.forall_mem_cons.mpr ⟨List.mem_of_getElem? (i := 2) rfl, List.forall_mem_cons.mpr ⟨List.mem_of_getElem? (i := 3) rfl, List.forall_mem_cons.mpr ⟨List.mem_of_getElem? (i := 4) rfl, List.forall_mem_cons.mpr ⟨List.mem_of_getElem? (i := 5) rfl, List.forall_mem_cons.mpr ⟨List.mem_of_getElem? (i := 6) rfl, fun _ h => nomatch h⟩⟩⟩⟩⟩)
  · skip
    have h4 := HL.s E hLI q1
    refine k_istore C (lw := [(5, .int _), (4, .int _), (3, _), (2, _), (1, _), (0, _)]) rfl rfl (Nat.le_of_ble_eq_true rfl) rfl ?_
    refine k_aload_n C rfl rfl rfl ?_
    refine k_aload_n C rfl rfl rfl ?_
    refine k_iload C rfl rfl rfl ?_
    refine k_iconst C (x := 1) rfl rfl rfl ?_
    refine k_iadd C rfl rfl ?_
    refine hL.1 _ _ _ _ _ _ _ rfl (vsk hi hLn (c := 1) (by decide)) ?_
    refine k_aload_n C rfl rfl rfl ?_
    refine k_iload C rfl rfl rfl ?_
    refine k_iconst C (x := 2) rfl rfl rfl ?_
    refine k_iadd C rfl rfl ?_
    refine hL.1 _ _ _ _ _ _ _ rfl (vsk hi hLn (c := 2) (by decide)) ?_
    refine k_aload_n C rfl rfl rfl ?_
    refine k_iload C rfl rfl rfl ?_
    refine k_iconst C (x := 3) rfl rfl rfl ?_
    refine k_iadd C rfl rfl ?_
    refine hL.1 _ _ _ _ _ _ _ rfl (vsk hi hLn (c := 3) (by decide)) ?_
    refine k_aload_n C rfl rfl rfl ?_
    refine k_iload C rfl rfl rfl ?_
    refine k_iconst C (x := 4) rfl rfl rfl ?_
    refine k_iadd C rfl rfl ?_
    refine hL.1 _ _ _ _ _ _ _ rfl (vsk hi hLn (c := 4) (by decide)) ?_
    refine c_VI C (a_X12_table_x h4.2.1 H_m) rfl rfl rfl rfl rfl ⟨_, rfl, rfl, H_m.1, Nat.le_of_ble_eq_true rfl⟩ rfl rfl (by omega) (by omega) (Nat.le_of_ble_eq_true rfl) ?_
    rintro x13 I10 L11 ⟨p0, p1, s9, p3, p4, p5, hM9, cm⟩
    have h12 := LI.ref h4 H_m nAB hM9 cm (by decide) (by decide) (fun w hw => s9 w hw (h4.2.2.1 w hw))
    have h14 := OP_table_0 E hLI h4 h12 hRL c1 q0 q1 cm p0 p1 s9 p3 p4 p5
    refine k_istore C (lw := [(6, .int _), (5, .int _), (4, .int _), (3, _), (2, _), (1, _), (0, _)]) rfl rfl (Nat.le_of_ble_eq_true rfl) rfl ?_
    refine k_goto C (pc2 := 1899) rfl rfl ?_
    exact K _ _ _ _ _ h12 h14 (by omega) (by omega) (List.forall_mem_cons.mpr ⟨List.mem_of_getElem? (i := 2) rfl, List.forall_mem_cons.mpr ⟨List.mem_of_getElem? (i := 3) rfl, List.forall_mem_cons.mpr ⟨List.mem_of_getElem? (i := 4) rfl, List.forall_mem_cons.mpr ⟨List.mem_of_getElem? (i := 5) rfl, List.forall_mem_cons.mpr ⟨List.mem_of_getElem? (i := 6) rfl, fun _ h => nomatch h⟩⟩⟩⟩⟩)
  · skip
    have h4 := HL.s E hLI q1
    refine k_istore C (lw := [(5, .int _), (4, .int _), (3, _), (2, _), (1, _), (0, _)]) rfl rfl (Nat.le_of_ble_eq_true rfl) rfl ?_
    refine k_aload_n C rfl rfl rfl ?_
    refine k_aload_n C rfl rfl rfl ?_
    refine k_iload C rfl rfl rfl ?_
    refine k_iconst C (x := 1) rfl rfl rfl ?_
    refine k_iadd C rfl rfl ?_
    refine hL.1 _ _ _ _ _ _ _ rfl (vsk hi hLn (c := 1) (by decide)) ?_
    refine k_aload_n C rfl rfl rfl ?_
    refine k_iload C rfl rfl rfl ?_
    refine k_iconst C (x := 2) rfl rfl rfl ?_
    refine k_iadd C rfl rfl ?_
    refine hL.1 _ _ _ _ _ _ _ rfl (vsk hi hLn (c := 2) (by decide)) ?_
    refine k_aload_n C rfl rfl rfl ?_
    refine k_iload C rfl rfl rfl ?_
    refine k_iconst C (x := 3) rfl rfl rfl ?_
    refine k_iadd C rfl rfl ?_
    refine hL.1 _ _ _ _ _ _ _ rfl (vsk hi hLn (c := 3) (by decide)) ?_
    refine k_aload_n C rfl rfl rfl ?_
    refine k_iload C rfl rfl rfl ?_
    refine k_iconst C (x := 4) rfl rfl rfl ?_
    refine k_iadd C rfl rfl ?_
    refine hL.1 _ _ _ _ _ _ _ rfl (vsk hi hLn (c := 4) (by decide)) ?_
    refine c_VI C (a_X12_table_x h4.2.1 H_m) rfl rfl rfl rfl rfl ⟨_, rfl, rfl, H_m.1, Nat.le_of_ble_eq_true rfl⟩ rfl rfl (by omega) (by omega) (Nat.le_of_ble_eq_true rfl) ?_
    rintro x18 I15 L16 ⟨p0, p1, s9, p3, p4, p5, hM9, cm⟩
    have h17 := LI.ref h4 H_m nAB hM9 cm (by decide) (by decide) (fun w hw => s9 w hw (h4.2.2.1 w hw))
    have h19 := OP_table_2 E hLI h4 h17 hRL c1 q0 q1 cm p0 p1 s9 p3 p4 p5
    refine k_istore C (lw := [(6, .int _), (5, .int _), (4, .int _), (3, _), (2, _), (1, _), (0, _)]) rfl rfl (Nat.le_of_ble_eq_true rfl) rfl ?_
    refine k_goto C (pc2 := 1899) rfl rfl ?_
    exact K _ _ _ _ _ h17 h19 (by omega) (by omega) (List.forall_mem_cons.mpr ⟨List.mem_of_getElem? (i := 2) rfl, List.forall_mem_cons.mpr ⟨List.mem_of_getElem? (i := 3) rfl, List.forall_mem_cons.mpr ⟨List.mem_of_getElem? (i := 4) rfl, List.forall_mem_cons.mpr ⟨List.mem_of_getElem? (i := 5) rfl, List.forall_mem_cons.mpr ⟨List.mem_of_getElem? (i := 6) rfl, fun _ h => nomatch h⟩⟩⟩⟩⟩)

set_option maxRecDepth 100000 in
set_option maxHeartbeats 4000000 in
theorem lc_5 {V : V_T} {b x nw kp rd al m w im o cb tp Ln i : Nat} {xs : Nat → Int32} {T N : Nat → Nat} {I : IT} {L : LT} {R : RT} {A B : Nat → Prop} {ck sk : Nat} (C : Cl 40 q_law 601024 7293033 law_Po V) (S : SB V) (hL : LSc V b Ln xs) (E : LX T N R A B x nw kp rd al m w im o cb tp) (hi : i + 6 ≤ Ln) (hLn : Ln ≤ 3072) (hLI : LI T R A m I) (hRL : RY R x nw kp rd cb m w im tp I) (hck : ck + 3 ≤ 601024) (hsk : sk + 18 ≤ 7293033) (K : ∀ (lv : List (Nat × Value)) (I9 : IT) (L9 : LT) (ck9 sk9 : Nat), LI T R A m I9 → RY R x nw kp rd cb m w im tp I9 → ck9 ≤ ck + 3 → sk9 ≤ sk + 18 → (∀ z ∈ ([(4, .int (Int32.ofNat i)), (3, .ref o), (2, .ref m), (1, .ref x), (0, .ref b)] : List (Nat × Value)), z ∈ lv) → V 1899 lv [] (T, N, I9, L9, R) ck9 sk9) : V 427 [(4, .int (Int32.ofNat i)), (3, .ref o), (2, .ref m), (1, .ref x), (0, .ref b)] [] (T, N, I, L, R) ck sk := by
  obtain ⟨H_x, H_m, ⟨T_o, N_o, A_o⟩, nAB, Rnw, Rkp, Rrd, hnk, Ral, Ras, Rw, Rim⟩ := id E.1
  have T_x := H_x.1
  have T_m := H_m.1
  have hB := True.intro
  refine k_aload_n C rfl rfl rfl ?_
  refine k_aload_n C rfl rfl rfl ?_
  refine c_SI C (v_L_signs E hLI hRL) rfl rfl rfl rfl rfl rfl rfl (by omega) (by omega) (Nat.le_of_ble_eq_true rfl) ?_
  rintro x3 I1 L2 ⟨⟨h1, c1⟩, hc⟩
  rcases hc with ⟨rfl, r, v1, q0, q1, q2, q3, q4⟩ | ⟨rfl, q0, q1, q2⟩ | ⟨rfl, q0, q1, q2, q3⟩
  · skip
    have c9 := SG9.n E hLI hRL q1 c1
    have h4 := HL.c E hLI h1 c9 (fun a q => sSN.a9 E q)
    refine k_istore C (lw := [(5, .int _), (4, .int _), (3, _), (2, _), (1, _), (0, _)]) rfl rfl (Nat.le_of_ble_eq_true rfl) rfl ?_
    refine k_aload_n C rfl rfl rfl ?_
    refine c_VI C (a_X12_signs_x h4.2.1 H_m (RY.tb1 E hRL c9 (fun a q => sSN.a9 E q))) rfl rfl rfl rfl rfl ⟨_, rfl, rfl, H_m.1, Nat.le_of_ble_eq_true rfl⟩ rfl rfl (by omega) (by omega) (Nat.le_of_ble_eq_true rfl) ?_
    rintro x8 I5 L6 ⟨p0, p1, s9, p3, p4, p5, p6, p7, hM9, cm⟩
    have h7 := LI.ref h4 H_m nAB hM9 cm (by decide) (by decide) (fun w hw => s9 w hw (h4.2.2.1 w hw))
    have h9 := OP_signs E hLI h4 h7 hRL c1 q0 q1 q2 q3 q4 cm p0 p1 s9 p3 p4 p5 p6 p7
    refine k_istore C (lw := [(6, .int _), (5, .int _), (4, .int _), (3, _), (2, _), (1, _), (0, _)]) rfl rfl (Nat.le_of_ble_eq_true rfl) rfl ?_
    refine k_goto C (pc2 := 1899) rfl rfl ?_
    exact K _ _ _ _ _ h7 h9 (by omega) (by omega) (List.forall_mem_cons.mpr ⟨List.mem_of_getElem? (i := 2) rfl, List.forall_mem_cons.mpr ⟨List.mem_of_getElem? (i := 3) rfl, List.forall_mem_cons.mpr ⟨List.mem_of_getElem? (i := 4) rfl, List.forall_mem_cons.mpr ⟨List.mem_of_getElem? (i := 5) rfl, List.forall_mem_cons.mpr ⟨List.mem_of_getElem? (i := 6) rfl, fun _ h => nomatch h⟩⟩⟩⟩⟩)
  · skip
    have c9 := SG9.c E q2 c1
    have h4 := HL.c E hLI h1 c9 (fun a q => sSN.a9 E q)
    refine k_istore C (lw := [(5, .int _), (4, .int _), (3, _), (2, _), (1, _), (0, _)]) rfl rfl (Nat.le_of_ble_eq_true rfl) rfl ?_
    refine k_aload_n C rfl rfl rfl ?_
    refine c_VI C (a_X12_signs_x h4.2.1 H_m (RY.tb1 E hRL c9 (fun a q => sSN.a9 E q))) rfl rfl rfl rfl rfl ⟨_, rfl, rfl, H_m.1, Nat.le_of_ble_eq_true rfl⟩ rfl rfl (by omega) (by omega) (Nat.le_of_ble_eq_true rfl) ?_
    rintro x13 I10 L11 ⟨p0, p1, s9, p3, p4, p5, p6, p7, hM9, cm⟩
    have h12 := LI.ref h4 H_m nAB hM9 cm (by decide) (by decide) (fun w hw => s9 w hw (h4.2.2.1 w hw))
    have h14 := OP_signs_0 E hLI h4 h12 hRL c1 q0 q1 q2 cm p0 p1 s9 p3 p4 p5 p6 p7
    refine k_istore C (lw := [(6, .int _), (5, .int _), (4, .int _), (3, _), (2, _), (1, _), (0, _)]) rfl rfl (Nat.le_of_ble_eq_true rfl) rfl ?_
    refine k_goto C (pc2 := 1899) rfl rfl ?_
    exact K _ _ _ _ _ h12 h14 (by omega) (by omega) (List.forall_mem_cons.mpr ⟨List.mem_of_getElem? (i := 2) rfl, List.forall_mem_cons.mpr ⟨List.mem_of_getElem? (i := 3) rfl, List.forall_mem_cons.mpr ⟨List.mem_of_getElem? (i := 4) rfl, List.forall_mem_cons.mpr ⟨List.mem_of_getElem? (i := 5) rfl, List.forall_mem_cons.mpr ⟨List.mem_of_getElem? (i := 6) rfl, fun _ h => nomatch h⟩⟩⟩⟩⟩)
  · skip
    have c9 := SG9.c E q3 c1
    have h4 := HL.c E hLI h1 c9 (fun a q => sSN.a9 E q)
    refine k_istore C (lw := [(5, .int _), (4, .int _), (3, _), (2, _), (1, _), (0, _)]) rfl rfl (Nat.le_of_ble_eq_true rfl) rfl ?_
    refine k_aload_n C rfl rfl rfl ?_
    refine c_VI C (a_X12_signs_x h4.2.1 H_m (RY.tb1 E hRL c9 (fun a q => sSN.a9 E q))) rfl rfl rfl rfl rfl ⟨_, rfl, rfl, H_m.1, Nat.le_of_ble_eq_true rfl⟩ rfl rfl (by omega) (by omega) (Nat.le_of_ble_eq_true rfl) ?_
    rintro x18 I15 L16 ⟨p0, p1, s9, p3, p4, p5, p6, p7, hM9, cm⟩
    have h17 := LI.ref h4 H_m nAB hM9 cm (by decide) (by decide) (fun w hw => s9 w hw (h4.2.2.1 w hw))
    have h19 := OP_signs_2 E hLI h4 h17 hRL c1 q0 q1 q2 q3 cm p0 p1 s9 p3 p4 p5 p6 p7
    refine k_istore C (lw := [(6, .int _), (5, .int _), (4, .int _), (3, _), (2, _), (1, _), (0, _)]) rfl rfl (Nat.le_of_ble_eq_true rfl) rfl ?_
    refine k_goto C (pc2 := 1899) rfl rfl ?_
    exact K _ _ _ _ _ h17 h19 (by omega) (by omega) (List.forall_mem_cons.mpr ⟨List.mem_of_getElem? (i := 2) rfl, List.forall_mem_cons.mpr ⟨List.mem_of_getElem? (i := 3) rfl, List.forall_mem_cons.mpr ⟨List.mem_of_getElem? (i := 4) rfl, List.forall_mem_cons.mpr ⟨List.mem_of_getElem? (i := 5) rfl, List.forall_mem_cons.mpr ⟨List.mem_of_getElem? (i := 6) rfl, fun _ h => nomatch h⟩⟩⟩⟩⟩)

set_option maxRecDepth 100000 in
set_option maxHeartbeats 4000000 in
theorem lc_6 {V : V_T} {b x nw kp rd al m w im o cb tp Ln i : Nat} {xs : Nat → Int32} {T N : Nat → Nat} {I : IT} {L : LT} {R : RT} {A B : Nat → Prop} {ck sk : Nat} (C : Cl 40 q_law 601024 7293033 law_Po V) (S : SB V) (hL : LSc V b Ln xs) (E : LX T N R A B x nw kp rd al m w im o cb tp) (hi : i + 6 ≤ Ln) (hLn : Ln ≤ 3072) (hLI : LI T R A m I) (hRL : RY R x nw kp rd cb m w im tp I) (hck : ck + 3 ≤ 601024) (hsk : sk + 18 ≤ 7293033) (K : ∀ (lv : List (Nat × Value)) (I9 : IT) (L9 : LT) (ck9 sk9 : Nat), LI T R A m I9 → RY R x nw kp rd cb m w im tp I9 → ck9 ≤ ck + 3 → sk9 ≤ sk + 18 → (∀ z ∈ ([(4, .int (Int32.ofNat i)), (3, .ref o), (2, .ref m), (1, .ref x), (0, .ref b)] : List (Nat × Value)), z ∈ lv) → V 1899 lv [] (T, N, I9, L9, R) ck9 sk9) : V 443 [(4, .int (Int32.ofNat i)), (3, .ref o), (2, .ref m), (1, .ref x), (0, .ref b)] [] (T, N, I, L, R) ck sk := by
  obtain ⟨H_x, H_m, ⟨T_o, N_o, A_o⟩, nAB, Rnw, Rkp, Rrd, hnk, Ral, Ras, Rw, Rim⟩ := id E.1
  have T_x := H_x.1
  have T_m := H_m.1
  have hB := True.intro
  refine k_aload_n C rfl rfl rfl ?_
  refine c_VI C (s_X11_fault BS.sub hLI.1 E.h) rfl rfl rfl rfl rfl ⟨_, rfl, rfl, H_x.1, Nat.le_of_ble_eq_true rfl⟩ rfl rfl (by omega) (by omega) (Nat.le_of_ble_eq_true rfl) ?_
  rintro x4 _ _ ⟨rfl, rfl⟩
  refine k_pop C rfl rfl rfl ?_
  refine k_aload_n C rfl rfl rfl ?_
  refine c_VI C (a_X12_fault hLI.2.1 H_m) rfl rfl rfl rfl rfl ⟨_, rfl, rfl, H_m.1, Nat.le_of_ble_eq_true rfl⟩ rfl rfl (by omega) (by omega) (Nat.le_of_ble_eq_true rfl) ?_
  rintro x8 I5 L6 ⟨hM9, cm⟩
  have h7 := LI.ref0 hLI H_m nAB hM9 cm (by decide) (by decide) (by decide)
  have h9 := RY.r0 E hLI hRL cm (by decide) (by decide) (by decide) (by decide) (by decide)
  refine k_pop C rfl rfl rfl ?_
  refine k_goto C (pc2 := 1899) rfl rfl ?_
  exact K _ _ _ _ _ h7 h9 (by omega) (by omega) (List.forall_mem_cons.mpr ⟨List.mem_of_getElem? (i := 0) rfl, List.forall_mem_cons.mpr ⟨List.mem_of_getElem? (i := 1) rfl, List.forall_mem_cons.mpr ⟨List.mem_of_getElem? (i := 2) rfl, List.forall_mem_cons.mpr ⟨List.mem_of_getElem? (i := 3) rfl, List.forall_mem_cons.mpr ⟨List.mem_of_getElem? (i := 4) rfl, fun _ h => nomatch h⟩⟩⟩⟩⟩)

set_option maxRecDepth 100000 in
set_option maxHeartbeats 4000000 in
theorem lc_7 {V : V_T} {b x nw kp rd al m w im o cb tp Ln i : Nat} {xs : Nat → Int32} {T N : Nat → Nat} {I : IT} {L : LT} {R : RT} {A B : Nat → Prop} {ck sk : Nat} (C : Cl 40 q_law 601024 7293033 law_Po V) (S : SB V) (hL : LSc V b Ln xs) (E : LX T N R A B x nw kp rd al m w im o cb tp) (hi : i + 6 ≤ Ln) (hLn : Ln ≤ 3072) (hLI : LI T R A m I) (hRL : RY R x nw kp rd cb m w im tp I) (hck : ck + 3 ≤ 601024) (hsk : sk + 18 ≤ 7293033) (K : ∀ (lv : List (Nat × Value)) (I9 : IT) (L9 : LT) (ck9 sk9 : Nat), LI T R A m I9 → RY R x nw kp rd cb m w im tp I9 → ck9 ≤ ck + 3 → sk9 ≤ sk + 18 → (∀ z ∈ ([(4, .int (Int32.ofNat i)), (3, .ref o), (2, .ref m), (1, .ref x), (0, .ref b)] : List (Nat × Value)), z ∈ lv) → V 1899 lv [] (T, N, I9, L9, R) ck9 sk9) : V 456 [(4, .int (Int32.ofNat i)), (3, .ref o), (2, .ref m), (1, .ref x), (0, .ref b)] [] (T, N, I, L, R) ck sk := by
  obtain ⟨H_x, H_m, ⟨T_o, N_o, A_o⟩, nAB, Rnw, Rkp, Rrd, hnk, Ral, Ras, Rw, Rim⟩ := id E.1
  have T_x := H_x.1
  have T_m := H_m.1
  have hB := True.intro
  refine k_aload_n C rfl rfl rfl ?_
  refine k_aload_n C rfl rfl rfl ?_
  refine k_iload C rfl rfl rfl ?_
  refine k_iconst C (x := 1) rfl rfl rfl ?_
  refine k_iadd C rfl rfl ?_
  refine hL.1 _ _ _ _ _ _ _ rfl (vsk hi hLn (c := 1) (by decide)) ?_
  refine k_aload_n C rfl rfl rfl ?_
  refine k_iload C rfl rfl rfl ?_
  refine k_iconst C (x := 2) rfl rfl rfl ?_
  refine k_iadd C rfl rfl ?_
  refine hL.1 _ _ _ _ _ _ _ rfl (vsk hi hLn (c := 2) (by decide)) ?_
  refine k_aload_n C rfl rfl rfl ?_
  refine c_SI C (u_L_look BS.sub hLI.1 E.h T_o N_o) rfl rfl rfl rfl rfl rfl rfl (by omega) (by omega) (Nat.le_of_ble_eq_true rfl) ?_
  rintro x3 I1 L2 hI8
  have hI8 := hI8.symm; subst hI8
  refine k_istore C (lw := [(5, .int _), (4, .int _), (3, _), (2, _), (1, _), (0, _)]) rfl rfl (Nat.le_of_ble_eq_true rfl) rfl ?_
  refine k_aload_n C rfl rfl rfl ?_
  refine k_aload_n C rfl rfl rfl ?_
  refine k_iload C rfl rfl rfl ?_
  refine k_iconst C (x := 1) rfl rfl rfl ?_
  refine k_iadd C rfl rfl ?_
  refine hL.1 _ _ _ _ _ _ _ rfl (vsk hi hLn (c := 1) (by decide)) ?_
  refine k_aload_n C rfl rfl rfl ?_
  refine k_iload C rfl rfl rfl ?_
  refine k_iconst C (x := 2) rfl rfl rfl ?_
  refine k_iadd C rfl rfl ?_
  refine hL.1 _ _ _ _ _ _ _ rfl (vsk hi hLn (c := 2) (by decide)) ?_
  refine c_VI C (a_X12_look hLI.2.1 H_m) rfl rfl rfl rfl rfl ⟨_, rfl, rfl, H_m.1, Nat.le_of_ble_eq_true rfl⟩ rfl rfl (by omega) (by omega) (Nat.le_of_ble_eq_true rfl) ?_
  rintro x8 I5 L6 ⟨p0, p1, hM9, cm⟩
  have h7 := LI.ref0 hLI H_m nAB hM9 cm (by decide) (by decide) (by decide)
  have h9 := RY.r0 E hLI hRL cm (by decide) (by decide) (by decide) (by decide) (by decide)
  refine k_istore C (lw := [(6, .int _), (5, .int _), (4, .int _), (3, _), (2, _), (1, _), (0, _)]) rfl rfl (Nat.le_of_ble_eq_true rfl) rfl ?_
  refine k_goto C (pc2 := 1899) rfl rfl ?_
  exact K _ _ _ _ _ h7 h9 (by omega) (by omega) (List.forall_mem_cons.mpr ⟨List.mem_of_getElem? (i := 2) rfl, List.forall_mem_cons.mpr ⟨List.mem_of_getElem? (i := 3) rfl, List.forall_mem_cons.mpr ⟨List.mem_of_getElem? (i := 4) rfl, List.forall_mem_cons.mpr ⟨List.mem_of_getElem? (i := 5) rfl, List.forall_mem_cons.mpr ⟨List.mem_of_getElem? (i := 6) rfl, fun _ h => nomatch h⟩⟩⟩⟩⟩)

set_option maxRecDepth 100000 in
set_option maxHeartbeats 4000000 in
theorem lc_8 {V : V_T} {b x nw kp rd al m w im o cb tp Ln i : Nat} {xs : Nat → Int32} {T N : Nat → Nat} {I : IT} {L : LT} {R : RT} {A B : Nat → Prop} {ck sk : Nat} (C : Cl 40 q_law 601024 7293033 law_Po V) (S : SB V) (hL : LSc V b Ln xs) (E : LX T N R A B x nw kp rd al m w im o cb tp) (hi : i + 6 ≤ Ln) (hLn : Ln ≤ 3072) (hLI : LI T R A m I) (hRL : RY R x nw kp rd cb m w im tp I) (hck : ck + 3 ≤ 601024) (hsk : sk + 18 ≤ 7293033) (K : ∀ (lv : List (Nat × Value)) (I9 : IT) (L9 : LT) (ck9 sk9 : Nat), LI T R A m I9 → RY R x nw kp rd cb m w im tp I9 → ck9 ≤ ck + 3 → sk9 ≤ sk + 18 → (∀ z ∈ ([(4, .int (Int32.ofNat i)), (3, .ref o), (2, .ref m), (1, .ref x), (0, .ref b)] : List (Nat × Value)), z ∈ lv) → V 1899 lv [] (T, N, I9, L9, R) ck9 sk9) : V 496 [(4, .int (Int32.ofNat i)), (3, .ref o), (2, .ref m), (1, .ref x), (0, .ref b)] [] (T, N, I, L, R) ck sk := by
  obtain ⟨H_x, H_m, ⟨T_o, N_o, A_o⟩, nAB, Rnw, Rkp, Rrd, hnk, Ral, Ras, Rw, Rim⟩ := id E.1
  have T_x := H_x.1
  have T_m := H_m.1
  have hB := True.intro
  refine k_aload_n C rfl rfl rfl ?_
  refine k_aload_n C rfl rfl rfl ?_
  refine k_iload C rfl rfl rfl ?_
  refine k_iconst C (x := 1) rfl rfl rfl ?_
  refine k_iadd C rfl rfl ?_
  refine hL.1 _ _ _ _ _ _ _ rfl (vsk hi hLn (c := 1) (by decide)) ?_
  refine k_aload_n C rfl rfl rfl ?_
  refine k_iload C rfl rfl rfl ?_
  refine k_iconst C (x := 2) rfl rfl rfl ?_
  refine k_iadd C rfl rfl ?_
  refine hL.1 _ _ _ _ _ _ _ rfl (vsk hi hLn (c := 2) (by decide)) ?_
  refine k_aload_n C rfl rfl rfl ?_
  refine k_iload C rfl rfl rfl ?_
  refine k_iconst C (x := 3) rfl rfl rfl ?_
  refine k_iadd C rfl rfl ?_
  refine hL.1 _ _ _ _ _ _ _ rfl (vsk hi hLn (c := 3) (by decide)) ?_
  refine k_aload_n C rfl rfl rfl ?_
  refine c_SI C (u_L_at BS.sub hLI.1 E.h T_o N_o) rfl rfl rfl rfl rfl rfl rfl (by omega) (by omega) (Nat.le_of_ble_eq_true rfl) ?_
  rintro x3 I1 L2 hI8
  have hI8 := hI8.symm; subst hI8
  refine k_istore C (lw := [(5, .int _), (4, .int _), (3, _), (2, _), (1, _), (0, _)]) rfl rfl (Nat.le_of_ble_eq_true rfl) rfl ?_
  refine k_aload_n C rfl rfl rfl ?_
  refine k_aload_n C rfl rfl rfl ?_
  refine k_iload C rfl rfl rfl ?_
  refine k_iconst C (x := 1) rfl rfl rfl ?_
  refine k_iadd C rfl rfl ?_
  refine hL.1 _ _ _ _ _ _ _ rfl (vsk hi hLn (c := 1) (by decide)) ?_
  refine k_aload_n C rfl rfl rfl ?_
  refine k_iload C rfl rfl rfl ?_
  refine k_iconst C (x := 2) rfl rfl rfl ?_
  refine k_iadd C rfl rfl ?_
  refine hL.1 _ _ _ _ _ _ _ rfl (vsk hi hLn (c := 2) (by decide)) ?_
  refine k_aload_n C rfl rfl rfl ?_
  refine k_iload C rfl rfl rfl ?_
  refine k_iconst C (x := 3) rfl rfl rfl ?_
  refine k_iadd C rfl rfl ?_
  refine hL.1 _ _ _ _ _ _ _ rfl (vsk hi hLn (c := 3) (by decide)) ?_
  refine c_VI C (a_X12_at hLI.2.1 H_m) rfl rfl rfl rfl rfl ⟨_, rfl, rfl, H_m.1, Nat.le_of_ble_eq_true rfl⟩ rfl rfl (by omega) (by omega) (Nat.le_of_ble_eq_true rfl) ?_
  rintro x8 I5 L6 ⟨p0, p1, hM9, cm⟩
  have h7 := LI.ref0 hLI H_m nAB hM9 cm (by decide) (by decide) (by decide)
  have h9 := RY.r0 E hLI hRL cm (by decide) (by decide) (by decide) (by decide) (by decide)
  refine k_istore C (lw := [(6, .int _), (5, .int _), (4, .int _), (3, _), (2, _), (1, _), (0, _)]) rfl rfl (Nat.le_of_ble_eq_true rfl) rfl ?_
  refine k_goto C (pc2 := 1899) rfl rfl ?_
  exact K _ _ _ _ _ h7 h9 (by omega) (by omega) (List.forall_mem_cons.mpr ⟨List.mem_of_getElem? (i := 2) rfl, List.forall_mem_cons.mpr ⟨List.mem_of_getElem? (i := 3) rfl, List.forall_mem_cons.mpr ⟨List.mem_of_getElem? (i := 4) rfl, List.forall_mem_cons.mpr ⟨List.mem_of_getElem? (i := 5) rfl, List.forall_mem_cons.mpr ⟨List.mem_of_getElem? (i := 6) rfl, fun _ h => nomatch h⟩⟩⟩⟩⟩)

set_option maxRecDepth 100000 in
set_option maxHeartbeats 4000000 in
theorem lc_9 {V : V_T} {b x nw kp rd al m w im o cb tp Ln i : Nat} {xs : Nat → Int32} {T N : Nat → Nat} {I : IT} {L : LT} {R : RT} {A B : Nat → Prop} {ck sk : Nat} (C : Cl 40 q_law 601024 7293033 law_Po V) (S : SB V) (hL : LSc V b Ln xs) (E : LX T N R A B x nw kp rd al m w im o cb tp) (hi : i + 6 ≤ Ln) (hLn : Ln ≤ 3072) (hLI : LI T R A m I) (hRL : RY R x nw kp rd cb m w im tp I) (hck : ck + 3 ≤ 601024) (hsk : sk + 18 ≤ 7293033) (K : ∀ (lv : List (Nat × Value)) (I9 : IT) (L9 : LT) (ck9 sk9 : Nat), LI T R A m I9 → RY R x nw kp rd cb m w im tp I9 → ck9 ≤ ck + 3 → sk9 ≤ sk + 18 → (∀ z ∈ ([(4, .int (Int32.ofNat i)), (3, .ref o), (2, .ref m), (1, .ref x), (0, .ref b)] : List (Nat × Value)), z ∈ lv) → V 1899 lv [] (T, N, I9, L9, R) ck9 sk9) : V 548 [(4, .int (Int32.ofNat i)), (3, .ref o), (2, .ref m), (1, .ref x), (0, .ref b)] [] (T, N, I, L, R) ck sk := by
  obtain ⟨H_x, H_m, ⟨T_o, N_o, A_o⟩, nAB, Rnw, Rkp, Rrd, hnk, Ral, Ras, Rw, Rim⟩ := id E.1
  have T_x := H_x.1
  have T_m := H_m.1
  have hB := True.intro
  refine k_aload_n C rfl rfl rfl ?_
  refine k_aload_n C rfl rfl rfl ?_
  refine k_iload C rfl rfl rfl ?_
  refine k_iconst C (x := 1) rfl rfl rfl ?_
  refine k_iadd C rfl rfl ?_
  refine hL.1 _ _ _ _ _ _ _ rfl (vsk hi hLn (c := 1) (by decide)) ?_
  refine k_aload_n C rfl rfl rfl ?_
  refine c_SI C (u_L_det BS.sub hLI.1 E.h T_o N_o) rfl rfl rfl rfl rfl rfl rfl (by omega) (by omega) (Nat.le_of_ble_eq_true rfl) ?_
  rintro x3 I1 L2 hI8
  have hI8 := hI8.symm; subst hI8
  refine k_istore C (lw := [(5, .int _), (4, .int _), (3, _), (2, _), (1, _), (0, _)]) rfl rfl (Nat.le_of_ble_eq_true rfl) rfl ?_
  refine k_aload_n C rfl rfl rfl ?_
  refine k_aload_n C rfl rfl rfl ?_
  refine k_iload C rfl rfl rfl ?_
  refine k_iconst C (x := 1) rfl rfl rfl ?_
  refine k_iadd C rfl rfl ?_
  refine hL.1 _ _ _ _ _ _ _ rfl (vsk hi hLn (c := 1) (by decide)) ?_
  refine c_VI C (a_X12_det hLI.2.1 H_m) rfl rfl rfl rfl rfl ⟨_, rfl, rfl, H_m.1, Nat.le_of_ble_eq_true rfl⟩ rfl rfl (by omega) (by omega) (Nat.le_of_ble_eq_true rfl) ?_
  rintro x8 I5 L6 ⟨p0, p1, hM9, cm⟩
  have h7 := LI.ref0 hLI H_m nAB hM9 cm (by decide) (by decide) (by decide)
  have h9 := RY.r0 E hLI hRL cm (by decide) (by decide) (by decide) (by decide) (by decide)
  refine k_istore C (lw := [(6, .int _), (5, .int _), (4, .int _), (3, _), (2, _), (1, _), (0, _)]) rfl rfl (Nat.le_of_ble_eq_true rfl) rfl ?_
  refine k_goto C (pc2 := 1899) rfl rfl ?_
  exact K _ _ _ _ _ h7 h9 (by omega) (by omega) (List.forall_mem_cons.mpr ⟨List.mem_of_getElem? (i := 2) rfl, List.forall_mem_cons.mpr ⟨List.mem_of_getElem? (i := 3) rfl, List.forall_mem_cons.mpr ⟨List.mem_of_getElem? (i := 4) rfl, List.forall_mem_cons.mpr ⟨List.mem_of_getElem? (i := 5) rfl, List.forall_mem_cons.mpr ⟨List.mem_of_getElem? (i := 6) rfl, fun _ h => nomatch h⟩⟩⟩⟩⟩)

set_option maxRecDepth 100000 in
set_option maxHeartbeats 4000000 in
theorem lc_10 {V : V_T} {b x nw kp rd al m w im o cb tp Ln i : Nat} {xs : Nat → Int32} {T N : Nat → Nat} {I : IT} {L : LT} {R : RT} {A B : Nat → Prop} {ck sk : Nat} (C : Cl 40 q_law 601024 7293033 law_Po V) (S : SB V) (hL : LSc V b Ln xs) (E : LX T N R A B x nw kp rd al m w im o cb tp) (hi : i + 6 ≤ Ln) (hLn : Ln ≤ 3072) (hLI : LI T R A m I) (hRL : RY R x nw kp rd cb m w im tp I) (hck : ck + 3 ≤ 601024) (hsk : sk + 18 ≤ 7293033) (K : ∀ (lv : List (Nat × Value)) (I9 : IT) (L9 : LT) (ck9 sk9 : Nat), LI T R A m I9 → RY R x nw kp rd cb m w im tp I9 → ck9 ≤ ck + 3 → sk9 ≤ sk + 18 → (∀ z ∈ ([(4, .int (Int32.ofNat i)), (3, .ref o), (2, .ref m), (1, .ref x), (0, .ref b)] : List (Nat × Value)), z ∈ lv) → V 1899 lv [] (T, N, I9, L9, R) ck9 sk9) : V 576 [(4, .int (Int32.ofNat i)), (3, .ref o), (2, .ref m), (1, .ref x), (0, .ref b)] [] (T, N, I, L, R) ck sk := by
  obtain ⟨H_x, H_m, ⟨T_o, N_o, A_o⟩, nAB, Rnw, Rkp, Rrd, hnk, Ral, Ras, Rw, Rim⟩ := id E.1
  have T_x := H_x.1
  have T_m := H_m.1
  have hB := True.intro
  refine k_aload_n C rfl rfl rfl ?_
  refine k_aload_n C rfl rfl rfl ?_
  refine k_iload C rfl rfl rfl ?_
  refine k_iconst C (x := 1) rfl rfl rfl ?_
  refine k_iadd C rfl rfl ?_
  refine hL.1 _ _ _ _ _ _ _ rfl (vsk hi hLn (c := 1) (by decide)) ?_
  refine k_aload_n C rfl rfl rfl ?_
  refine k_iload C rfl rfl rfl ?_
  refine k_iconst C (x := 2) rfl rfl rfl ?_
  refine k_iadd C rfl rfl ?_
  refine hL.1 _ _ _ _ _ _ _ rfl (vsk hi hLn (c := 2) (by decide)) ?_
  refine k_aload_n C rfl rfl rfl ?_
  refine c_SI C (v_L_mix E hLI hRL) rfl rfl rfl rfl rfl rfl rfl (by omega) (by omega) (Nat.le_of_ble_eq_true rfl) ?_
  rintro x3 I1 L2 ⟨⟨h1, c1⟩, hc⟩
  rcases hc with ⟨rfl, r, v1, q0, q1, q2, q3, q4, q5, q6, q7, q8⟩ | ⟨rfl, q0, q1⟩
  · skip
    have h4 := HL.c E hLI h1 c1 (fun a q => sMx.a9 E (ncn (n := 16) (by omega) (by omega)) q)
    refine k_istore C (lw := [(5, .int _), (4, .int _), (3, _), (2, _), (1, _), (0, _)]) rfl rfl (Nat.le_of_ble_eq_true rfl) rfl ?_
    refine k_aload_n C rfl rfl rfl ?_
    refine k_aload_n C rfl rfl rfl ?_
    refine k_iload C rfl rfl rfl ?_
    refine k_iconst C (x := 1) rfl rfl rfl ?_
    refine k_iadd C rfl rfl ?_
    refine hL.1 _ _ _ _ _ _ _ rfl (vsk hi hLn (c := 1) (by decide)) ?_
    refine k_aload_n C rfl rfl rfl ?_
    refine k_iload C rfl rfl rfl ?_
    refine k_iconst C (x := 2) rfl rfl rfl ?_
    refine k_iadd C rfl rfl ?_
    refine hL.1 _ _ _ _ _ _ _ rfl (vsk hi hLn (c := 2) (by decide)) ?_
    refine c_VI C (a_X12_mix_x h4.2.1 H_m) rfl rfl rfl rfl rfl ⟨_, rfl, rfl, H_m.1, Nat.le_of_ble_eq_true rfl⟩ rfl rfl (by omega) (by omega) (Nat.le_of_ble_eq_true rfl) ?_
    rintro x8 I5 L6 ⟨p0, p1, s9, p3, p4, p5, p6, p7, hM9, cm⟩
    have h7 := LI.ref h4 H_m nAB hM9 cm (by decide) (by decide) (fun w hw => s9 w hw (h4.2.2.1 w hw))
    have h9 := OP_mix E hLI h4 h7 hRL c1 q0 q1 q2 q3 q4 q5 q6 q7 q8 cm p0 p1 s9 p3 p4 p5 p6 p7
    refine k_istore C (lw := [(6, .int _), (5, .int _), (4, .int _), (3, _), (2, _), (1, _), (0, _)]) rfl rfl (Nat.le_of_ble_eq_true rfl) rfl ?_
    refine k_goto C (pc2 := 1899) rfl rfl ?_
    exact K _ _ _ _ _ h7 h9 (by omega) (by omega) (List.forall_mem_cons.mpr ⟨List.mem_of_getElem? (i := 2) rfl, List.forall_mem_cons.mpr ⟨List.mem_of_getElem? (i := 3) rfl, List.forall_mem_cons.mpr ⟨List.mem_of_getElem? (i := 4) rfl, List.forall_mem_cons.mpr ⟨List.mem_of_getElem? (i := 5) rfl, List.forall_mem_cons.mpr ⟨List.mem_of_getElem? (i := 6) rfl, fun _ h => nomatch h⟩⟩⟩⟩⟩)
  · skip
    have h4 := HL.s E hLI q1
    refine k_istore C (lw := [(5, .int _), (4, .int _), (3, _), (2, _), (1, _), (0, _)]) rfl rfl (Nat.le_of_ble_eq_true rfl) rfl ?_
    refine k_aload_n C rfl rfl rfl ?_
    refine k_aload_n C rfl rfl rfl ?_
    refine k_iload C rfl rfl rfl ?_
    refine k_iconst C (x := 1) rfl rfl rfl ?_
    refine k_iadd C rfl rfl ?_
    refine hL.1 _ _ _ _ _ _ _ rfl (vsk hi hLn (c := 1) (by decide)) ?_
    refine k_aload_n C rfl rfl rfl ?_
    refine k_iload C rfl rfl rfl ?_
    refine k_iconst C (x := 2) rfl rfl rfl ?_
    refine k_iadd C rfl rfl ?_
    refine hL.1 _ _ _ _ _ _ _ rfl (vsk hi hLn (c := 2) (by decide)) ?_
    refine c_VI C (a_X12_mix_x h4.2.1 H_m) rfl rfl rfl rfl rfl ⟨_, rfl, rfl, H_m.1, Nat.le_of_ble_eq_true rfl⟩ rfl rfl (by omega) (by omega) (Nat.le_of_ble_eq_true rfl) ?_
    rintro x13 I10 L11 ⟨p0, p1, s9, p3, p4, p5, p6, p7, hM9, cm⟩
    have h12 := LI.ref h4 H_m nAB hM9 cm (by decide) (by decide) (fun w hw => s9 w hw (h4.2.2.1 w hw))
    have h14 := OP_mix_3 E hLI h4 h12 hRL c1 q0 q1 cm p0 p1 s9 p3 p4 p5 p6 p7
    refine k_istore C (lw := [(6, .int _), (5, .int _), (4, .int _), (3, _), (2, _), (1, _), (0, _)]) rfl rfl (Nat.le_of_ble_eq_true rfl) rfl ?_
    refine k_goto C (pc2 := 1899) rfl rfl ?_
    exact K _ _ _ _ _ h12 h14 (by omega) (by omega) (List.forall_mem_cons.mpr ⟨List.mem_of_getElem? (i := 2) rfl, List.forall_mem_cons.mpr ⟨List.mem_of_getElem? (i := 3) rfl, List.forall_mem_cons.mpr ⟨List.mem_of_getElem? (i := 4) rfl, List.forall_mem_cons.mpr ⟨List.mem_of_getElem? (i := 5) rfl, List.forall_mem_cons.mpr ⟨List.mem_of_getElem? (i := 6) rfl, fun _ h => nomatch h⟩⟩⟩⟩⟩)

set_option maxRecDepth 100000 in
set_option maxHeartbeats 4000000 in
theorem lc_11 {V : V_T} {b x nw kp rd al m w im o cb tp Ln i : Nat} {xs : Nat → Int32} {T N : Nat → Nat} {I : IT} {L : LT} {R : RT} {A B : Nat → Prop} {ck sk : Nat} (C : Cl 40 q_law 601024 7293033 law_Po V) (S : SB V) (hL : LSc V b Ln xs) (E : LX T N R A B x nw kp rd al m w im o cb tp) (hi : i + 6 ≤ Ln) (hLn : Ln ≤ 3072) (hLI : LI T R A m I) (hRL : RY R x nw kp rd cb m w im tp I) (hck : ck + 3 ≤ 601024) (hsk : sk + 18 ≤ 7293033) (K : ∀ (lv : List (Nat × Value)) (I9 : IT) (L9 : LT) (ck9 sk9 : Nat), LI T R A m I9 → RY R x nw kp rd cb m w im tp I9 → ck9 ≤ ck + 3 → sk9 ≤ sk + 18 → (∀ z ∈ ([(4, .int (Int32.ofNat i)), (3, .ref o), (2, .ref m), (1, .ref x), (0, .ref b)] : List (Nat × Value)), z ∈ lv) → V 1899 lv [] (T, N, I9, L9, R) ck9 sk9) : V 616 [(4, .int (Int32.ofNat i)), (3, .ref o), (2, .ref m), (1, .ref x), (0, .ref b)] [] (T, N, I, L, R) ck sk := by
  obtain ⟨H_x, H_m, ⟨T_o, N_o, A_o⟩, nAB, Rnw, Rkp, Rrd, hnk, Ral, Ras, Rw, Rim⟩ := id E.1
  have T_x := H_x.1
  have T_m := H_m.1
  have hB := True.intro
  refine k_aload_n C rfl rfl rfl ?_
  refine c_VI C (kc_undo E hLI hRL) rfl rfl rfl rfl rfl ⟨_, rfl, rfl, H_x.1, Nat.le_of_ble_eq_true rfl⟩ rfl rfl (by omega) (by omega) (Nat.le_of_ble_eq_true rfl) ?_
  rintro x4 I1 L2 ⟨q0, h1, h2⟩
  have c1 : CB (UDX R nw) T _ I I1 := h2.cb
  have h3 := HL.c E hLI h1 c1 (fun a q => OWN.a9 E.s.1 (OWN.ud q))
  refine k_pop C rfl rfl rfl ?_
  refine k_aload_n C rfl rfl rfl ?_
  refine c_VI C (a_X12_undo_x h3.2.1 H_m h3.2.2.1) rfl rfl rfl rfl rfl ⟨_, rfl, rfl, H_m.1, Nat.le_of_ble_eq_true rfl⟩ rfl rfl (by omega) (by omega) (Nat.le_of_ble_eq_true rfl) ?_
  rintro x8 I5 L6 ⟨s9, p1, p2, hM9, cm⟩
  have h7 := LI.ref h3 H_m nAB hM9 cm (by decide) (by decide) s9
  have h9 := OP_undo E hLI h3 h7 hRL c1 q0 cm s9 p1 p2
  refine k_pop C rfl rfl rfl ?_
  refine k_goto C (pc2 := 1899) rfl rfl ?_
  exact K _ _ _ _ _ h7 h9 (by omega) (by omega) (List.forall_mem_cons.mpr ⟨List.mem_of_getElem? (i := 0) rfl, List.forall_mem_cons.mpr ⟨List.mem_of_getElem? (i := 1) rfl, List.forall_mem_cons.mpr ⟨List.mem_of_getElem? (i := 2) rfl, List.forall_mem_cons.mpr ⟨List.mem_of_getElem? (i := 3) rfl, List.forall_mem_cons.mpr ⟨List.mem_of_getElem? (i := 4) rfl, fun _ h => nomatch h⟩⟩⟩⟩⟩)

set_option maxRecDepth 100000 in
set_option maxHeartbeats 4000000 in
theorem lc_12 {V : V_T} {b x nw kp rd al m w im o cb tp Ln i : Nat} {xs : Nat → Int32} {T N : Nat → Nat} {I : IT} {L : LT} {R : RT} {A B : Nat → Prop} {ck sk : Nat} (C : Cl 40 q_law 601024 7293033 law_Po V) (S : SB V) (hL : LSc V b Ln xs) (E : LX T N R A B x nw kp rd al m w im o cb tp) (hi : i + 6 ≤ Ln) (hLn : Ln ≤ 3072) (hLI : LI T R A m I) (hRL : RY R x nw kp rd cb m w im tp I) (hck : ck + 3 ≤ 601024) (hsk : sk + 18 ≤ 7293033) (K : ∀ (lv : List (Nat × Value)) (I9 : IT) (L9 : LT) (ck9 sk9 : Nat), LI T R A m I9 → RY R x nw kp rd cb m w im tp I9 → ck9 ≤ ck + 3 → sk9 ≤ sk + 18 → (∀ z ∈ ([(4, .int (Int32.ofNat i)), (3, .ref o), (2, .ref m), (1, .ref x), (0, .ref b)] : List (Nat × Value)), z ∈ lv) → V 1899 lv [] (T, N, I9, L9, R) ck9 sk9) : V 629 [(4, .int (Int32.ofNat i)), (3, .ref o), (2, .ref m), (1, .ref x), (0, .ref b)] [] (T, N, I, L, R) ck sk := by
  obtain ⟨H_x, H_m, ⟨T_o, N_o, A_o⟩, nAB, Rnw, Rkp, Rrd, hnk, Ral, Ras, Rw, Rim⟩ := id E.1
  have T_x := H_x.1
  have T_m := H_m.1
  have hB := True.intro
  refine k_aload_n C rfl rfl rfl ?_
  refine c_VI C (kc_redo E hLI hRL) rfl rfl rfl rfl rfl ⟨_, rfl, rfl, H_x.1, Nat.le_of_ble_eq_true rfl⟩ rfl rfl (by omega) (by omega) (Nat.le_of_ble_eq_true rfl) ?_
  rintro x4 I1 L2 ⟨q0, h1, h2⟩
  have c1 : CB (UDX R nw) T _ I I1 := h2.cb
  have h3 := HL.c E hLI h1 c1 (fun a q => OWN.a9 E.s.1 (OWN.ud q))
  refine k_pop C rfl rfl rfl ?_
  refine k_aload_n C rfl rfl rfl ?_
  refine c_VI C (a_X12_redo_x h3.2.1 H_m h3.2.2.1) rfl rfl rfl rfl rfl ⟨_, rfl, rfl, H_m.1, Nat.le_of_ble_eq_true rfl⟩ rfl rfl (by omega) (by omega) (Nat.le_of_ble_eq_true rfl) ?_
  rintro x8 I5 L6 ⟨s9, p1, p2, hM9, cm⟩
  have h7 := LI.ref h3 H_m nAB hM9 cm (by decide) (by decide) s9
  have h9 := OP_redo E hLI h3 h7 hRL c1 q0 cm s9 p1 p2
  refine k_pop C rfl rfl rfl ?_
  refine k_goto C (pc2 := 1899) rfl rfl ?_
  exact K _ _ _ _ _ h7 h9 (by omega) (by omega) (List.forall_mem_cons.mpr ⟨List.mem_of_getElem? (i := 0) rfl, List.forall_mem_cons.mpr ⟨List.mem_of_getElem? (i := 1) rfl, List.forall_mem_cons.mpr ⟨List.mem_of_getElem? (i := 2) rfl, List.forall_mem_cons.mpr ⟨List.mem_of_getElem? (i := 3) rfl, List.forall_mem_cons.mpr ⟨List.mem_of_getElem? (i := 4) rfl, fun _ h => nomatch h⟩⟩⟩⟩⟩)

set_option maxRecDepth 100000 in
set_option maxHeartbeats 4000000 in
theorem lc_13 {V : V_T} {b x nw kp rd al m w im o cb tp Ln i : Nat} {xs : Nat → Int32} {T N : Nat → Nat} {I : IT} {L : LT} {R : RT} {A B : Nat → Prop} {ck sk : Nat} (C : Cl 40 q_law 601024 7293033 law_Po V) (S : SB V) (hL : LSc V b Ln xs) (E : LX T N R A B x nw kp rd al m w im o cb tp) (hi : i + 6 ≤ Ln) (hLn : Ln ≤ 3072) (hLI : LI T R A m I) (hRL : RY R x nw kp rd cb m w im tp I) (hck : ck + 3 ≤ 601024) (hsk : sk + 18 ≤ 7293033) (K : ∀ (lv : List (Nat × Value)) (I9 : IT) (L9 : LT) (ck9 sk9 : Nat), LI T R A m I9 → RY R x nw kp rd cb m w im tp I9 → ck9 ≤ ck + 3 → sk9 ≤ sk + 18 → (∀ z ∈ ([(4, .int (Int32.ofNat i)), (3, .ref o), (2, .ref m), (1, .ref x), (0, .ref b)] : List (Nat × Value)), z ∈ lv) → V 1899 lv [] (T, N, I9, L9, R) ck9 sk9) : V 642 [(4, .int (Int32.ofNat i)), (3, .ref o), (2, .ref m), (1, .ref x), (0, .ref b)] [] (T, N, I, L, R) ck sk := by
  obtain ⟨H_x, H_m, ⟨T_o, N_o, A_o⟩, nAB, Rnw, Rkp, Rrd, hnk, Ral, Ras, Rw, Rim⟩ := id E.1
  have T_x := H_x.1
  have T_m := H_m.1
  have hB := True.intro
  refine k_aload_n C rfl rfl rfl ?_
  refine k_aload_n C rfl rfl rfl ?_
  refine k_iload C rfl rfl rfl ?_
  refine k_iconst C (x := 1) rfl rfl rfl ?_
  refine k_iadd C rfl rfl ?_
  refine hL.1 _ _ _ _ _ _ _ rfl (vsk hi hLn (c := 1) (by decide)) ?_
  refine k_aload_n C rfl rfl rfl ?_
  refine k_iload C rfl rfl rfl ?_
  refine k_iconst C (x := 2) rfl rfl rfl ?_
  refine k_iadd C rfl rfl ?_
  refine hL.1 _ _ _ _ _ _ _ rfl (vsk hi hLn (c := 2) (by decide)) ?_
  refine k_aload_n C rfl rfl rfl ?_
  refine k_iload C rfl rfl rfl ?_
  refine k_iconst C (x := 3) rfl rfl rfl ?_
  refine k_iadd C rfl rfl ?_
  refine hL.1 _ _ _ _ _ _ _ rfl (vsk hi hLn (c := 3) (by decide)) ?_
  refine k_aload_n C rfl rfl rfl ?_
  refine c_SI C (u_L_value BS.sub hLI.1 E.h T_o N_o) rfl rfl rfl rfl rfl rfl rfl (by omega) (by omega) (Nat.le_of_ble_eq_true rfl) ?_
  rintro x3 I1 L2 ⟨h1, c1⟩
  have h4 := HL.c E hLI h1 c1 (fun a q => q.1)
  have h5 := RY.q E hLI hRL c1 (by decide) (by decide) (by decide) (by decide)
  clear h1 c1
  refine k_istore C (lw := [(5, .int _), (4, .int _), (3, _), (2, _), (1, _), (0, _)]) rfl rfl (Nat.le_of_ble_eq_true rfl) rfl ?_
  refine k_aload_n C rfl rfl rfl ?_
  refine k_aload_n C rfl rfl rfl ?_
  refine k_iload C rfl rfl rfl ?_
  refine k_iconst C (x := 1) rfl rfl rfl ?_
  refine k_iadd C rfl rfl ?_
  refine hL.1 _ _ _ _ _ _ _ rfl (vsk hi hLn (c := 1) (by decide)) ?_
  refine k_aload_n C rfl rfl rfl ?_
  refine k_iload C rfl rfl rfl ?_
  refine k_iconst C (x := 2) rfl rfl rfl ?_
  refine k_iadd C rfl rfl ?_
  refine hL.1 _ _ _ _ _ _ _ rfl (vsk hi hLn (c := 2) (by decide)) ?_
  refine k_aload_n C rfl rfl rfl ?_
  refine k_iload C rfl rfl rfl ?_
  refine k_iconst C (x := 3) rfl rfl rfl ?_
  refine k_iadd C rfl rfl ?_
  refine hL.1 _ _ _ _ _ _ _ rfl (vsk hi hLn (c := 3) (by decide)) ?_
  refine c_VI C (a_X12_value h4.2.1 H_m) rfl rfl rfl rfl rfl ⟨_, rfl, rfl, H_m.1, Nat.le_of_ble_eq_true rfl⟩ rfl rfl (by omega) (by omega) (Nat.le_of_ble_eq_true rfl) ?_
  rintro x9 I6 L7 ⟨p0, p1, hM9, cm⟩
  have h8 := LI.ref0 h4 H_m nAB hM9 cm (by decide) (by decide) (by decide)
  have h10 := RY.r0 E h4 h5 cm (by decide) (by decide) (by decide) (by decide) (by decide)
  refine k_istore C (lw := [(6, .int _), (5, .int _), (4, .int _), (3, _), (2, _), (1, _), (0, _)]) rfl rfl (Nat.le_of_ble_eq_true rfl) rfl ?_
  refine k_goto C (pc2 := 1899) rfl rfl ?_
  exact K _ _ _ _ _ h8 h10 (by omega) (by omega) (List.forall_mem_cons.mpr ⟨List.mem_of_getElem? (i := 2) rfl, List.forall_mem_cons.mpr ⟨List.mem_of_getElem? (i := 3) rfl, List.forall_mem_cons.mpr ⟨List.mem_of_getElem? (i := 4) rfl, List.forall_mem_cons.mpr ⟨List.mem_of_getElem? (i := 5) rfl, List.forall_mem_cons.mpr ⟨List.mem_of_getElem? (i := 6) rfl, fun _ h => nomatch h⟩⟩⟩⟩⟩)

set_option maxRecDepth 100000 in
set_option maxHeartbeats 4000000 in
theorem lc_14 {V : V_T} {b x nw kp rd al m w im o cb tp Ln i : Nat} {xs : Nat → Int32} {T N : Nat → Nat} {I : IT} {L : LT} {R : RT} {A B : Nat → Prop} {ck sk : Nat} (C : Cl 40 q_law 601024 7293033 law_Po V) (S : SB V) (hL : LSc V b Ln xs) (E : LX T N R A B x nw kp rd al m w im o cb tp) (hi : i + 6 ≤ Ln) (hLn : Ln ≤ 3072) (hLI : LI T R A m I) (hRL : RY R x nw kp rd cb m w im tp I) (hck : ck + 3 ≤ 601024) (hsk : sk + 18 ≤ 7293033) (K : ∀ (lv : List (Nat × Value)) (I9 : IT) (L9 : LT) (ck9 sk9 : Nat), LI T R A m I9 → RY R x nw kp rd cb m w im tp I9 → ck9 ≤ ck + 3 → sk9 ≤ sk + 18 → (∀ z ∈ ([(4, .int (Int32.ofNat i)), (3, .ref o), (2, .ref m), (1, .ref x), (0, .ref b)] : List (Nat × Value)), z ∈ lv) → V 1899 lv [] (T, N, I9, L9, R) ck9 sk9) : V 694 [(4, .int (Int32.ofNat i)), (3, .ref o), (2, .ref m), (1, .ref x), (0, .ref b)] [] (T, N, I, L, R) ck sk := by
  obtain ⟨H_x, H_m, ⟨T_o, N_o, A_o⟩, nAB, Rnw, Rkp, Rrd, hnk, Ral, Ras, Rw, Rim⟩ := id E.1
  have T_x := H_x.1
  have T_m := H_m.1
  have hB := True.intro
  refine k_aload_n C rfl rfl rfl ?_
  refine k_aload_n C rfl rfl rfl ?_
  refine k_iload C rfl rfl rfl ?_
  refine k_iconst C (x := 1) rfl rfl rfl ?_
  refine k_iadd C rfl rfl ?_
  refine hL.1 _ _ _ _ _ _ _ rfl (vsk hi hLn (c := 1) (by decide)) ?_
  refine k_aload_n C rfl rfl rfl ?_
  refine k_iload C rfl rfl rfl ?_
  refine k_iconst C (x := 2) rfl rfl rfl ?_
  refine k_iadd C rfl rfl ?_
  refine hL.1 _ _ _ _ _ _ _ rfl (vsk hi hLn (c := 2) (by decide)) ?_
  refine k_if_eq C (t := 714) rfl rfl rfl (fun cj1 => ?_) (fun cj1 => ?_)
  · skip
    refine k_iconst C (x := 0) rfl rfl rfl ?_
    refine k_aload_n C rfl rfl rfl ?_
    refine c_SI C (u_L_rank BS.sub hLI.1 E.h T_o N_o (by decide) (by decide)) rfl rfl rfl rfl rfl rfl rfl (by omega) (by omega) (Nat.le_of_ble_eq_true rfl) ?_
    rintro x4 I2 L3 ⟨h1, c1⟩
    have h5 := HL.c E hLI h1 c1 (fun a q => q.1)
    have h6 := RY.q E hLI hRL c1 (by decide) (by decide) (by decide) (by decide)
    clear h1 c1
    refine k_istore C (lw := [(5, .int _), (4, .int _), (3, _), (2, _), (1, _), (0, _)]) rfl rfl (Nat.le_of_ble_eq_true rfl) rfl ?_
    refine k_aload_n C rfl rfl rfl ?_
    refine k_aload_n C rfl rfl rfl ?_
    refine k_iload C rfl rfl rfl ?_
    refine k_iconst C (x := 1) rfl rfl rfl ?_
    refine k_iadd C rfl rfl ?_
    refine hL.1 _ _ _ _ _ _ _ rfl (vsk hi hLn (c := 1) (by decide)) ?_
    refine k_aload_n C rfl rfl rfl ?_
    refine k_iload C rfl rfl rfl ?_
    refine k_iconst C (x := 2) rfl rfl rfl ?_
    refine k_iadd C rfl rfl ?_
    refine hL.1 _ _ _ _ _ _ _ rfl (vsk hi hLn (c := 2) (by decide)) ?_
    refine k_if_eq C (t := 741) rfl rfl rfl (fun cj7 => ?_) (fun cj7 => ?_)
    · skip
      refine k_iconst C (x := 0) rfl rfl rfl ?_
      refine c_VI C (a_X12_rank h5.2.1 H_m (by decide) (by decide)) rfl rfl rfl rfl rfl ⟨_, rfl, rfl, H_m.1, Nat.le_of_ble_eq_true rfl⟩ rfl rfl (by omega) (by omega) (Nat.le_of_ble_eq_true rfl) ?_
      rintro x11 I8 L9 ⟨hM9, cm⟩
      have h10 := LI.ref0 h5 H_m nAB hM9 cm (by decide) (by decide) (by decide)
      have h12 := RY.r0 E h5 h6 cm (by decide) (by decide) (by decide) (by decide) (by decide)
      refine k_istore C (lw := [(6, .int _), (5, .int _), (4, .int _), (3, _), (2, _), (1, _), (0, _)]) rfl rfl (Nat.le_of_ble_eq_true rfl) rfl ?_
      refine k_goto C (pc2 := 1899) rfl rfl ?_
      exact K _ _ _ _ _ h10 h12 (by omega) (by omega) (List.forall_mem_cons.mpr ⟨List.mem_of_getElem? (i := 2) rfl, List.forall_mem_cons.mpr ⟨List.mem_of_getElem? (i := 3) rfl, List.forall_mem_cons.mpr ⟨List.mem_of_getElem? (i := 4) rfl, List.forall_mem_cons.mpr ⟨List.mem_of_getElem? (i := 5) rfl, List.forall_mem_cons.mpr ⟨List.mem_of_getElem? (i := 6) rfl, fun _ h => nomatch h⟩⟩⟩⟩⟩)
    exact absurd cj1 cj7
  refine k_iconst C (x := 1) rfl rfl rfl ?_
  refine k_goto C (pc2 := 715) rfl rfl ?_
  refine k_aload_n C rfl rfl rfl ?_
  refine c_SI C (u_L_rank BS.sub hLI.1 E.h T_o N_o (by decide) (by decide)) rfl rfl rfl rfl rfl rfl rfl (by omega) (by omega) (Nat.le_of_ble_eq_true rfl) ?_
  rintro x15 I13 L14 ⟨h1, c1⟩
  have h16 := HL.c E hLI h1 c1 (fun a q => q.1)
  have h17 := RY.q E hLI hRL c1 (by decide) (by decide) (by decide) (by decide)
  clear h1 c1
  refine k_istore C (lw := [(5, .int _), (4, .int _), (3, _), (2, _), (1, _), (0, _)]) rfl rfl (Nat.le_of_ble_eq_true rfl) rfl ?_
  refine k_aload_n C rfl rfl rfl ?_
  refine k_aload_n C rfl rfl rfl ?_
  refine k_iload C rfl rfl rfl ?_
  refine k_iconst C (x := 1) rfl rfl rfl ?_
  refine k_iadd C rfl rfl ?_
  refine hL.1 _ _ _ _ _ _ _ rfl (vsk hi hLn (c := 1) (by decide)) ?_
  refine k_aload_n C rfl rfl rfl ?_
  refine k_iload C rfl rfl rfl ?_
  refine k_iconst C (x := 2) rfl rfl rfl ?_
  refine k_iadd C rfl rfl ?_
  refine hL.1 _ _ _ _ _ _ _ rfl (vsk hi hLn (c := 2) (by decide)) ?_
  refine k_if_eq C (t := 741) rfl rfl rfl (fun cj18 => ?_) (fun cj18 => ?_)
  · exact absurd cj18 cj1
  refine k_iconst C (x := 1) rfl rfl rfl ?_
  refine k_goto C (pc2 := 742) rfl rfl ?_
  refine c_VI C (a_X12_rank h16.2.1 H_m (by decide) (by decide)) rfl rfl rfl rfl rfl ⟨_, rfl, rfl, H_m.1, Nat.le_of_ble_eq_true rfl⟩ rfl rfl (by omega) (by omega) (Nat.le_of_ble_eq_true rfl) ?_
  rintro x22 I19 L20 ⟨hM9, cm⟩
  have h21 := LI.ref0 h16 H_m nAB hM9 cm (by decide) (by decide) (by decide)
  have h23 := RY.r0 E h16 h17 cm (by decide) (by decide) (by decide) (by decide) (by decide)
  refine k_istore C (lw := [(6, .int _), (5, .int _), (4, .int _), (3, _), (2, _), (1, _), (0, _)]) rfl rfl (Nat.le_of_ble_eq_true rfl) rfl ?_
  refine k_goto C (pc2 := 1899) rfl rfl ?_
  exact K _ _ _ _ _ h21 h23 (by omega) (by omega) (List.forall_mem_cons.mpr ⟨List.mem_of_getElem? (i := 2) rfl, List.forall_mem_cons.mpr ⟨List.mem_of_getElem? (i := 3) rfl, List.forall_mem_cons.mpr ⟨List.mem_of_getElem? (i := 4) rfl, List.forall_mem_cons.mpr ⟨List.mem_of_getElem? (i := 5) rfl, List.forall_mem_cons.mpr ⟨List.mem_of_getElem? (i := 6) rfl, fun _ h => nomatch h⟩⟩⟩⟩⟩)

set_option maxRecDepth 100000 in
set_option maxHeartbeats 4000000 in
theorem lc_15 {V : V_T} {b x nw kp rd al m w im o cb tp Ln i : Nat} {xs : Nat → Int32} {T N : Nat → Nat} {I : IT} {L : LT} {R : RT} {A B : Nat → Prop} {ck sk : Nat} (C : Cl 40 q_law 601024 7293033 law_Po V) (S : SB V) (hL : LSc V b Ln xs) (E : LX T N R A B x nw kp rd al m w im o cb tp) (hi : i + 6 ≤ Ln) (hLn : Ln ≤ 3072) (hLI : LI T R A m I) (hRL : RY R x nw kp rd cb m w im tp I) (hck : ck + 3 ≤ 601024) (hsk : sk + 18 ≤ 7293033) (K : ∀ (lv : List (Nat × Value)) (I9 : IT) (L9 : LT) (ck9 sk9 : Nat), LI T R A m I9 → RY R x nw kp rd cb m w im tp I9 → ck9 ≤ ck + 3 → sk9 ≤ sk + 18 → (∀ z ∈ ([(4, .int (Int32.ofNat i)), (3, .ref o), (2, .ref m), (1, .ref x), (0, .ref b)] : List (Nat × Value)), z ∈ lv) → V 1899 lv [] (T, N, I9, L9, R) ck9 sk9) : V 750 [(4, .int (Int32.ofNat i)), (3, .ref o), (2, .ref m), (1, .ref x), (0, .ref b)] [] (T, N, I, L, R) ck sk := by
  obtain ⟨H_x, H_m, ⟨T_o, N_o, A_o⟩, nAB, Rnw, Rkp, Rrd, hnk, Ral, Ras, Rw, Rim⟩ := id E.1
  have T_x := H_x.1
  have T_m := H_m.1
  have hB := True.intro
  refine k_aload_n C rfl rfl rfl ?_
  refine k_aload_n C rfl rfl rfl ?_
  refine k_iload C rfl rfl rfl ?_
  refine k_iconst C (x := 1) rfl rfl rfl ?_
  refine k_iadd C rfl rfl ?_
  refine hL.1 _ _ _ _ _ _ _ rfl (vsk hi hLn (c := 1) (by decide)) ?_
  refine k_aload_n C rfl rfl rfl ?_
  refine k_iload C rfl rfl rfl ?_
  refine k_iconst C (x := 2) rfl rfl rfl ?_
  refine k_iadd C rfl rfl ?_
  refine hL.1 _ _ _ _ _ _ _ rfl (vsk hi hLn (c := 2) (by decide)) ?_
  refine k_aload_n C rfl rfl rfl ?_
  refine k_iload C rfl rfl rfl ?_
  refine k_iconst C (x := 3) rfl rfl rfl ?_
  refine k_iadd C rfl rfl ?_
  refine hL.1 _ _ _ _ _ _ _ rfl (vsk hi hLn (c := 3) (by decide)) ?_
  refine k_aload_n C rfl rfl rfl ?_
  refine c_SI C (u_L_stays BS.sub hLI.1 E.h T_o N_o) rfl rfl rfl rfl rfl rfl rfl (by omega) (by omega) (Nat.le_of_ble_eq_true rfl) ?_
  rintro x3 I1 L2 ⟨h1, c1⟩
  have h4 := HL.c E hLI h1 c1 (fun a q => q.1)
  have h5 := RY.q E hLI hRL c1 (by decide) (by decide) (by decide) (by decide)
  clear h1 c1
  refine k_istore C (lw := [(5, .int _), (4, .int _), (3, _), (2, _), (1, _), (0, _)]) rfl rfl (Nat.le_of_ble_eq_true rfl) rfl ?_
  refine k_aload_n C rfl rfl rfl ?_
  refine k_aload_n C rfl rfl rfl ?_
  refine k_iload C rfl rfl rfl ?_
  refine k_iconst C (x := 1) rfl rfl rfl ?_
  refine k_iadd C rfl rfl ?_
  refine hL.1 _ _ _ _ _ _ _ rfl (vsk hi hLn (c := 1) (by decide)) ?_
  refine k_aload_n C rfl rfl rfl ?_
  refine k_iload C rfl rfl rfl ?_
  refine k_iconst C (x := 2) rfl rfl rfl ?_
  refine k_iadd C rfl rfl ?_
  refine hL.1 _ _ _ _ _ _ _ rfl (vsk hi hLn (c := 2) (by decide)) ?_
  refine k_aload_n C rfl rfl rfl ?_
  refine k_iload C rfl rfl rfl ?_
  refine k_iconst C (x := 3) rfl rfl rfl ?_
  refine k_iadd C rfl rfl ?_
  refine hL.1 _ _ _ _ _ _ _ rfl (vsk hi hLn (c := 3) (by decide)) ?_
  refine c_VI C (a_X12_stays h4.2.1 H_m) rfl rfl rfl rfl rfl ⟨_, rfl, rfl, H_m.1, Nat.le_of_ble_eq_true rfl⟩ rfl rfl (by omega) (by omega) (Nat.le_of_ble_eq_true rfl) ?_
  rintro x9 I6 L7 ⟨p0, p1, hM9, cm⟩
  have h8 := LI.ref0 h4 H_m nAB hM9 cm (by decide) (by decide) (by decide)
  have h10 := RY.r0 E h4 h5 cm (by decide) (by decide) (by decide) (by decide) (by decide)
  refine k_istore C (lw := [(6, .int _), (5, .int _), (4, .int _), (3, _), (2, _), (1, _), (0, _)]) rfl rfl (Nat.le_of_ble_eq_true rfl) rfl ?_
  refine k_goto C (pc2 := 1899) rfl rfl ?_
  exact K _ _ _ _ _ h8 h10 (by omega) (by omega) (List.forall_mem_cons.mpr ⟨List.mem_of_getElem? (i := 2) rfl, List.forall_mem_cons.mpr ⟨List.mem_of_getElem? (i := 3) rfl, List.forall_mem_cons.mpr ⟨List.mem_of_getElem? (i := 4) rfl, List.forall_mem_cons.mpr ⟨List.mem_of_getElem? (i := 5) rfl, List.forall_mem_cons.mpr ⟨List.mem_of_getElem? (i := 6) rfl, fun _ h => nomatch h⟩⟩⟩⟩⟩)

set_option maxRecDepth 100000 in
set_option maxHeartbeats 4000000 in
theorem lc_16 {V : V_T} {b x nw kp rd al m w im o cb tp Ln i : Nat} {xs : Nat → Int32} {T N : Nat → Nat} {I : IT} {L : LT} {R : RT} {A B : Nat → Prop} {ck sk : Nat} (C : Cl 40 q_law 601024 7293033 law_Po V) (S : SB V) (hL : LSc V b Ln xs) (E : LX T N R A B x nw kp rd al m w im o cb tp) (hi : i + 6 ≤ Ln) (hLn : Ln ≤ 3072) (hLI : LI T R A m I) (hRL : RY R x nw kp rd cb m w im tp I) (hck : ck + 3 ≤ 601024) (hsk : sk + 18 ≤ 7293033) (K : ∀ (lv : List (Nat × Value)) (I9 : IT) (L9 : LT) (ck9 sk9 : Nat), LI T R A m I9 → RY R x nw kp rd cb m w im tp I9 → ck9 ≤ ck + 3 → sk9 ≤ sk + 18 → (∀ z ∈ ([(4, .int (Int32.ofNat i)), (3, .ref o), (2, .ref m), (1, .ref x), (0, .ref b)] : List (Nat × Value)), z ∈ lv) → V 1899 lv [] (T, N, I9, L9, R) ck9 sk9) : V 802 [(4, .int (Int32.ofNat i)), (3, .ref o), (2, .ref m), (1, .ref x), (0, .ref b)] [] (T, N, I, L, R) ck sk := by
  obtain ⟨H_x, H_m, ⟨T_o, N_o, A_o⟩, nAB, Rnw, Rkp, Rrd, hnk, Ral, Ras, Rw, Rim⟩ := id E.1
  have T_x := H_x.1
  have T_m := H_m.1
  have hB := True.intro
  refine k_aload_n C rfl rfl rfl ?_
  refine k_aload_n C rfl rfl rfl ?_
  refine k_iload C rfl rfl rfl ?_
  refine k_iconst C (x := 1) rfl rfl rfl ?_
  refine k_iadd C rfl rfl ?_
  refine hL.1 _ _ _ _ _ _ _ rfl (vsk hi hLn (c := 1) (by decide)) ?_
  refine k_aload_n C rfl rfl rfl ?_
  refine k_iload C rfl rfl rfl ?_
  refine k_iconst C (x := 2) rfl rfl rfl ?_
  refine k_iadd C rfl rfl ?_
  refine hL.1 _ _ _ _ _ _ _ rfl (vsk hi hLn (c := 2) (by decide)) ?_
  refine k_aload_n C rfl rfl rfl ?_
  refine k_iload C rfl rfl rfl ?_
  refine k_iconst C (x := 3) rfl rfl rfl ?_
  refine k_iadd C rfl rfl ?_
  refine hL.1 _ _ _ _ _ _ _ rfl (vsk hi hLn (c := 3) (by decide)) ?_
  refine k_aload_n C rfl rfl rfl ?_
  refine c_SI C (u_L_agree BS.sub hLI.1 E.h T_o N_o) rfl rfl rfl rfl rfl rfl rfl (by omega) (by omega) (Nat.le_of_ble_eq_true rfl) ?_
  rintro x3 I1 L2 ⟨h1, c1⟩
  have h4 := HL.c E hLI h1 c1 (fun a q => q.1)
  have h5 := RY.q E hLI hRL c1 (by decide) (by decide) (by decide) (by decide)
  clear h1 c1
  refine k_istore C (lw := [(5, .int _), (4, .int _), (3, _), (2, _), (1, _), (0, _)]) rfl rfl (Nat.le_of_ble_eq_true rfl) rfl ?_
  refine k_aload_n C rfl rfl rfl ?_
  refine k_aload_n C rfl rfl rfl ?_
  refine k_iload C rfl rfl rfl ?_
  refine k_iconst C (x := 1) rfl rfl rfl ?_
  refine k_iadd C rfl rfl ?_
  refine hL.1 _ _ _ _ _ _ _ rfl (vsk hi hLn (c := 1) (by decide)) ?_
  refine k_aload_n C rfl rfl rfl ?_
  refine k_iload C rfl rfl rfl ?_
  refine k_iconst C (x := 2) rfl rfl rfl ?_
  refine k_iadd C rfl rfl ?_
  refine hL.1 _ _ _ _ _ _ _ rfl (vsk hi hLn (c := 2) (by decide)) ?_
  refine k_aload_n C rfl rfl rfl ?_
  refine k_iload C rfl rfl rfl ?_
  refine k_iconst C (x := 3) rfl rfl rfl ?_
  refine k_iadd C rfl rfl ?_
  refine hL.1 _ _ _ _ _ _ _ rfl (vsk hi hLn (c := 3) (by decide)) ?_
  refine c_VI C (a_X12_agree h4.2.1 H_m) rfl rfl rfl rfl rfl ⟨_, rfl, rfl, H_m.1, Nat.le_of_ble_eq_true rfl⟩ rfl rfl (by omega) (by omega) (Nat.le_of_ble_eq_true rfl) ?_
  rintro x9 I6 L7 ⟨p0, p1, hM9, cm⟩
  have h8 := LI.ref0 h4 H_m nAB hM9 cm (by decide) (by decide) (by decide)
  have h10 := RY.r0 E h4 h5 cm (by decide) (by decide) (by decide) (by decide) (by decide)
  refine k_istore C (lw := [(6, .int _), (5, .int _), (4, .int _), (3, _), (2, _), (1, _), (0, _)]) rfl rfl (Nat.le_of_ble_eq_true rfl) rfl ?_
  refine k_goto C (pc2 := 1899) rfl rfl ?_
  exact K _ _ _ _ _ h8 h10 (by omega) (by omega) (List.forall_mem_cons.mpr ⟨List.mem_of_getElem? (i := 2) rfl, List.forall_mem_cons.mpr ⟨List.mem_of_getElem? (i := 3) rfl, List.forall_mem_cons.mpr ⟨List.mem_of_getElem? (i := 4) rfl, List.forall_mem_cons.mpr ⟨List.mem_of_getElem? (i := 5) rfl, List.forall_mem_cons.mpr ⟨List.mem_of_getElem? (i := 6) rfl, fun _ h => nomatch h⟩⟩⟩⟩⟩)

set_option maxRecDepth 100000 in
set_option maxHeartbeats 4000000 in
theorem lc_17 {V : V_T} {b x nw kp rd al m w im o cb tp Ln i : Nat} {xs : Nat → Int32} {T N : Nat → Nat} {I : IT} {L : LT} {R : RT} {A B : Nat → Prop} {ck sk : Nat} (C : Cl 40 q_law 601024 7293033 law_Po V) (S : SB V) (hL : LSc V b Ln xs) (E : LX T N R A B x nw kp rd al m w im o cb tp) (hi : i + 6 ≤ Ln) (hLn : Ln ≤ 3072) (hLI : LI T R A m I) (hRL : RY R x nw kp rd cb m w im tp I) (hck : ck + 3 ≤ 601024) (hsk : sk + 18 ≤ 7293033) (K : ∀ (lv : List (Nat × Value)) (I9 : IT) (L9 : LT) (ck9 sk9 : Nat), LI T R A m I9 → RY R x nw kp rd cb m w im tp I9 → ck9 ≤ ck + 3 → sk9 ≤ sk + 18 → (∀ z ∈ ([(4, .int (Int32.ofNat i)), (3, .ref o), (2, .ref m), (1, .ref x), (0, .ref b)] : List (Nat × Value)), z ∈ lv) → V 1899 lv [] (T, N, I9, L9, R) ck9 sk9) : V 854 [(4, .int (Int32.ofNat i)), (3, .ref o), (2, .ref m), (1, .ref x), (0, .ref b)] [] (T, N, I, L, R) ck sk := by
  obtain ⟨H_x, H_m, ⟨T_o, N_o, A_o⟩, nAB, Rnw, Rkp, Rrd, hnk, Ral, Ras, Rw, Rim⟩ := id E.1
  have T_x := H_x.1
  have T_m := H_m.1
  have hB := True.intro
  refine k_aload_n C rfl rfl rfl ?_
  refine k_aload_n C rfl rfl rfl ?_
  refine k_iload C rfl rfl rfl ?_
  refine k_iconst C (x := 1) rfl rfl rfl ?_
  refine k_iadd C rfl rfl ?_
  refine hL.1 _ _ _ _ _ _ _ rfl (vsk hi hLn (c := 1) (by decide)) ?_
  refine k_aload_n C rfl rfl rfl ?_
  refine k_iload C rfl rfl rfl ?_
  refine k_iconst C (x := 2) rfl rfl rfl ?_
  refine k_iadd C rfl rfl ?_
  refine hL.1 _ _ _ _ _ _ _ rfl (vsk hi hLn (c := 2) (by decide)) ?_
  refine k_aload_n C rfl rfl rfl ?_
  refine k_iload C rfl rfl rfl ?_
  refine k_iconst C (x := 3) rfl rfl rfl ?_
  refine k_iadd C rfl rfl ?_
  refine hL.1 _ _ _ _ _ _ _ rfl (vsk hi hLn (c := 3) (by decide)) ?_
  refine k_aload_n C rfl rfl rfl ?_
  have hB := True.intro
  have T_x := H_x.1
  have T_m := H_m.1
  obtain ⟨rw9, wy, R_x_7, T_rw, R_rw_5, T_wy, N_wy, A_wy⟩ := LF.wy H_x
  obtain ⟨wz, R_m_21, T_wz, N_wz, B_wz⟩ := MD.wz H_m
  have hA : ∀ a, (a = wy ∨ a = o) → A a ∧ (T a = 11 ∨ T a = 21) := by (rintro a (rfl | rfl)); exact ⟨A_wy, Or.inr T_wy⟩; exact ⟨A_o, Or.inr T_o⟩
  by_cases hc : okCnt (xs (Int32.ofNat i + 1).toNatClampNeg) (xs (Int32.ofNat i + 2).toNatClampNeg) (xs (Int32.ofNat i + 3).toNatClampNeg)
  · skip
    obtain ⟨⟨a1, a2⟩, ⟨a3, a4⟩, a5, a6⟩ := hc
    obtain ⟨r, hrI, hr9⟩ := exn (K := 12) (by decide) a1 a2
    obtain ⟨e, heI, he⟩ := exn (K := 8) (by decide) (Int32.le_trans (by decide) a3) a4
    obtain ⟨n, hmI, hm⟩ := exn (K := 96) (by decide) a5 a6
    have he1 : 1 ≤ e := by have q := i_le.mp a3; rw [heI, n_int (by omega)] at q; have e1 : (1 : Int32).toInt = 1 := rfl; omega
    by_cases hq : e * r < n
    · skip
      refine c_SI C (e_L_count_a (A := fun a => a = wy ∨ a = o) T_x R_x_7 T_rw R_rw_5 T_wy N_wy (Or.inl rfl) T_o N_o (Or.inr rfl) hrI heI hmI hr9 he1 he hm hq) rfl rfl rfl rfl rfl rfl rfl (by omega) (by omega) (Nat.le_of_ble_eq_true rfl) ?_
      rintro x4 I1 L2 ⟨rfl, f1, v1⟩
      have h3 := LI.cfr hLI H_m nAB hA f1
      have h5 := RY.cf E hLI hRL hA f1
      refine k_istore C (lw := [(5, .int _), (4, .int _), (3, _), (2, _), (1, _), (0, _)]) rfl rfl (Nat.le_of_ble_eq_true rfl) rfl ?_
      refine k_aload_n C rfl rfl rfl ?_
      refine k_aload_n C rfl rfl rfl ?_
      refine k_iload C rfl rfl rfl ?_
      refine k_iconst C (x := 1) rfl rfl rfl ?_
      refine k_iadd C rfl rfl ?_
      refine hL.1 _ _ _ _ _ _ _ rfl (vsk hi hLn (c := 1) (by decide)) ?_
      refine k_aload_n C rfl rfl rfl ?_
      refine k_iload C rfl rfl rfl ?_
      refine k_iconst C (x := 2) rfl rfl rfl ?_
      refine k_iadd C rfl rfl ?_
      refine hL.1 _ _ _ _ _ _ _ rfl (vsk hi hLn (c := 2) (by decide)) ?_
      refine k_aload_n C rfl rfl rfl ?_
      refine k_iload C rfl rfl rfl ?_
      refine k_iconst C (x := 3) rfl rfl rfl ?_
      refine k_iadd C rfl rfl ?_
      refine hL.1 _ _ _ _ _ _ _ rfl (vsk hi hLn (c := 3) (by decide)) ?_
      refine c_VL C (e_m_count_a (A := fun a => a = m ∨ R m 21 = some a ∨ R m 34 = some a) T_m (Or.inl rfl) R_m_21 T_wz N_wz (Or.inr (Or.inl R_m_21)) hrI heI hmI hr9 he1 he hm hq) rfl rfl rfl rfl rfl ⟨_, rfl, rfl, H_m.1, Nat.le_of_ble_eq_true rfl⟩ rfl rfl (by omega) (by omega) (Nat.le_of_ble_eq_true rfl) ?_
      rintro x10 I6 L7 ⟨rfl, f2, z2, k2⟩
      have h8 := LI.rfr h3 H_m nAB hB f2 k2
      have h9 := RY.rf E h3 h5 f2 k2
      refine k_lstore C (lw := [(6, .long _), (5, .int _), (4, .int _), (3, _), (2, _), (1, _), (0, _)]) rfl rfl (Nat.le_of_ble_eq_true rfl) rfl ?_
      refine k_goto C (pc2 := 1899) rfl rfl ?_
      exact K _ _ _ _ _ h8 h9 (by omega) (by omega) (List.forall_mem_cons.mpr ⟨List.mem_of_getElem? (i := 2) rfl, List.forall_mem_cons.mpr ⟨List.mem_of_getElem? (i := 3) rfl, List.forall_mem_cons.mpr ⟨List.mem_of_getElem? (i := 4) rfl, List.forall_mem_cons.mpr ⟨List.mem_of_getElem? (i := 5) rfl, List.forall_mem_cons.mpr ⟨List.mem_of_getElem? (i := 6) rfl, fun _ h => nomatch h⟩⟩⟩⟩⟩)
    have hge : n ≤ e * r := Nat.le_of_not_lt hq
    by_cases hodd : (e * r - n) % 2 = 1
    · skip
      refine c_SI C (e_L_count_b (A := fun a => a = wy ∨ a = o) T_x R_x_7 T_rw R_rw_5 T_wy N_wy (Or.inl rfl) T_o N_o (Or.inr rfl) hrI heI hmI hr9 he1 he hm hge hodd) rfl rfl rfl rfl rfl rfl rfl (by omega) (by omega) (Nat.le_of_ble_eq_true rfl) ?_
      rintro x14 I11 L12 ⟨rfl, f1, v1⟩
      have h13 := LI.cfr hLI H_m nAB hA f1
      have h15 := RY.cf E hLI hRL hA f1
      refine k_istore C (lw := [(5, .int _), (4, .int _), (3, _), (2, _), (1, _), (0, _)]) rfl rfl (Nat.le_of_ble_eq_true rfl) rfl ?_
      refine k_aload_n C rfl rfl rfl ?_
      refine k_aload_n C rfl rfl rfl ?_
      refine k_iload C rfl rfl rfl ?_
      refine k_iconst C (x := 1) rfl rfl rfl ?_
      refine k_iadd C rfl rfl ?_
      refine hL.1 _ _ _ _ _ _ _ rfl (vsk hi hLn (c := 1) (by decide)) ?_
      refine k_aload_n C rfl rfl rfl ?_
      refine k_iload C rfl rfl rfl ?_
      refine k_iconst C (x := 2) rfl rfl rfl ?_
      refine k_iadd C rfl rfl ?_
      refine hL.1 _ _ _ _ _ _ _ rfl (vsk hi hLn (c := 2) (by decide)) ?_
      refine k_aload_n C rfl rfl rfl ?_
      refine k_iload C rfl rfl rfl ?_
      refine k_iconst C (x := 3) rfl rfl rfl ?_
      refine k_iadd C rfl rfl ?_
      refine hL.1 _ _ _ _ _ _ _ rfl (vsk hi hLn (c := 3) (by decide)) ?_
      refine c_VL C (e_m_count_b (A := fun a => a = m ∨ R m 21 = some a ∨ R m 34 = some a) T_m (Or.inl rfl) R_m_21 T_wz N_wz (Or.inr (Or.inl R_m_21)) hrI heI hmI hr9 he1 he hm hge hodd) rfl rfl rfl rfl rfl ⟨_, rfl, rfl, H_m.1, Nat.le_of_ble_eq_true rfl⟩ rfl rfl (by omega) (by omega) (Nat.le_of_ble_eq_true rfl) ?_
      rintro x20 I16 L17 ⟨rfl, f2, z2, k2⟩
      have h18 := LI.rfr h13 H_m nAB hB f2 k2
      have h19 := RY.rf E h13 h15 f2 k2
      refine k_lstore C (lw := [(6, .long _), (5, .int _), (4, .int _), (3, _), (2, _), (1, _), (0, _)]) rfl rfl (Nat.le_of_ble_eq_true rfl) rfl ?_
      refine k_goto C (pc2 := 1899) rfl rfl ?_
      exact K _ _ _ _ _ h18 h19 (by omega) (by omega) (List.forall_mem_cons.mpr ⟨List.mem_of_getElem? (i := 2) rfl, List.forall_mem_cons.mpr ⟨List.mem_of_getElem? (i := 3) rfl, List.forall_mem_cons.mpr ⟨List.mem_of_getElem? (i := 4) rfl, List.forall_mem_cons.mpr ⟨List.mem_of_getElem? (i := 5) rfl, List.forall_mem_cons.mpr ⟨List.mem_of_getElem? (i := 6) rfl, fun _ h => nomatch h⟩⟩⟩⟩⟩)
    have hev : (e * r - n) % 2 = 0 := by omega
    by_cases hz : (e * r - n) / 2 = 0
    · skip
      refine c_SI C (e_L_count_c (A := fun a => a = wy ∨ a = o) T_x R_x_7 T_rw R_rw_5 T_wy N_wy (Or.inl rfl) T_o N_o (Or.inr rfl) hrI heI hmI hr9 he1 he hm hge hev hz) rfl rfl rfl rfl rfl rfl rfl (by omega) (by omega) (Nat.le_of_ble_eq_true rfl) ?_
      rintro x24 I21 L22 ⟨rfl, f1, v1⟩
      have h23 := LI.cfr hLI H_m nAB hA f1
      have h25 := RY.cf E hLI hRL hA f1
      refine k_istore C (lw := [(5, .int _), (4, .int _), (3, _), (2, _), (1, _), (0, _)]) rfl rfl (Nat.le_of_ble_eq_true rfl) rfl ?_
      refine k_aload_n C rfl rfl rfl ?_
      refine k_aload_n C rfl rfl rfl ?_
      refine k_iload C rfl rfl rfl ?_
      refine k_iconst C (x := 1) rfl rfl rfl ?_
      refine k_iadd C rfl rfl ?_
      refine hL.1 _ _ _ _ _ _ _ rfl (vsk hi hLn (c := 1) (by decide)) ?_
      refine k_aload_n C rfl rfl rfl ?_
      refine k_iload C rfl rfl rfl ?_
      refine k_iconst C (x := 2) rfl rfl rfl ?_
      refine k_iadd C rfl rfl ?_
      refine hL.1 _ _ _ _ _ _ _ rfl (vsk hi hLn (c := 2) (by decide)) ?_
      refine k_aload_n C rfl rfl rfl ?_
      refine k_iload C rfl rfl rfl ?_
      refine k_iconst C (x := 3) rfl rfl rfl ?_
      refine k_iadd C rfl rfl ?_
      refine hL.1 _ _ _ _ _ _ _ rfl (vsk hi hLn (c := 3) (by decide)) ?_
      refine c_VL C (e_m_count_c (A := fun a => a = m ∨ R m 21 = some a ∨ R m 34 = some a) T_m (Or.inl rfl) R_m_21 T_wz N_wz (Or.inr (Or.inl R_m_21)) hrI heI hmI hr9 he1 he hm hge hev hz) rfl rfl rfl rfl rfl ⟨_, rfl, rfl, H_m.1, Nat.le_of_ble_eq_true rfl⟩ rfl rfl (by omega) (by omega) (Nat.le_of_ble_eq_true rfl) ?_
      rintro x30 I26 L27 ⟨rfl, f2, z2, k2⟩
      have h28 := LI.rfr h23 H_m nAB hB f2 k2
      have h29 := RY.rf E h23 h25 f2 k2
      refine k_lstore C (lw := [(6, .long _), (5, .int _), (4, .int _), (3, _), (2, _), (1, _), (0, _)]) rfl rfl (Nat.le_of_ble_eq_true rfl) rfl ?_
      refine k_goto C (pc2 := 1899) rfl rfl ?_
      exact K _ _ _ _ _ h28 h29 (by omega) (by omega) (List.forall_mem_cons.mpr ⟨List.mem_of_getElem? (i := 2) rfl, List.forall_mem_cons.mpr ⟨List.mem_of_getElem? (i := 3) rfl, List.forall_mem_cons.mpr ⟨List.mem_of_getElem? (i := 4) rfl, List.forall_mem_cons.mpr ⟨List.mem_of_getElem? (i := 5) rfl, List.forall_mem_cons.mpr ⟨List.mem_of_getElem? (i := 6) rfl, fun _ h => nomatch h⟩⟩⟩⟩⟩)
    · skip
      refine c_SI C (e_L_count_d (A := fun a => a = wy ∨ a = o) T_x R_x_7 T_rw R_rw_5 T_wy N_wy (Or.inl rfl) T_o N_o (Or.inr rfl) hrI heI hmI hr9 he1 he hm hge hev (Nat.pos_of_ne_zero hz)) rfl rfl rfl rfl rfl rfl rfl (by omega) (by omega) (Nat.le_of_ble_eq_true rfl) ?_
      rintro x34 I31 L32 ⟨rfl, f1, v1⟩
      have h33 := LI.cfr hLI H_m nAB hA f1
      have h35 := RY.cf E hLI hRL hA f1
      refine k_istore C (lw := [(5, .int _), (4, .int _), (3, _), (2, _), (1, _), (0, _)]) rfl rfl (Nat.le_of_ble_eq_true rfl) rfl ?_
      refine k_aload_n C rfl rfl rfl ?_
      refine k_aload_n C rfl rfl rfl ?_
      refine k_iload C rfl rfl rfl ?_
      refine k_iconst C (x := 1) rfl rfl rfl ?_
      refine k_iadd C rfl rfl ?_
      refine hL.1 _ _ _ _ _ _ _ rfl (vsk hi hLn (c := 1) (by decide)) ?_
      refine k_aload_n C rfl rfl rfl ?_
      refine k_iload C rfl rfl rfl ?_
      refine k_iconst C (x := 2) rfl rfl rfl ?_
      refine k_iadd C rfl rfl ?_
      refine hL.1 _ _ _ _ _ _ _ rfl (vsk hi hLn (c := 2) (by decide)) ?_
      refine k_aload_n C rfl rfl rfl ?_
      refine k_iload C rfl rfl rfl ?_
      refine k_iconst C (x := 3) rfl rfl rfl ?_
      refine k_iadd C rfl rfl ?_
      refine hL.1 _ _ _ _ _ _ _ rfl (vsk hi hLn (c := 3) (by decide)) ?_
      refine c_VL C (e_m_count_d (A := fun a => a = m ∨ R m 21 = some a ∨ R m 34 = some a) T_m (Or.inl rfl) R_m_21 T_wz N_wz (Or.inr (Or.inl R_m_21)) hrI heI hmI hr9 he1 he hm hge hev (Nat.pos_of_ne_zero hz)) rfl rfl rfl rfl rfl ⟨_, rfl, rfl, H_m.1, Nat.le_of_ble_eq_true rfl⟩ rfl rfl (by omega) (by omega) (Nat.le_of_ble_eq_true rfl) ?_
      rintro x40 I36 L37 ⟨rfl, f2, z2, k2⟩
      have h38 := LI.rfr h33 H_m nAB hB f2 k2
      have h39 := RY.rf E h33 h35 f2 k2
      refine k_lstore C (lw := [(6, .long _), (5, .int _), (4, .int _), (3, _), (2, _), (1, _), (0, _)]) rfl rfl (Nat.le_of_ble_eq_true rfl) rfl ?_
      refine k_goto C (pc2 := 1899) rfl rfl ?_
      exact K _ _ _ _ _ h38 h39 (by omega) (by omega) (List.forall_mem_cons.mpr ⟨List.mem_of_getElem? (i := 2) rfl, List.forall_mem_cons.mpr ⟨List.mem_of_getElem? (i := 3) rfl, List.forall_mem_cons.mpr ⟨List.mem_of_getElem? (i := 4) rfl, List.forall_mem_cons.mpr ⟨List.mem_of_getElem? (i := 5) rfl, List.forall_mem_cons.mpr ⟨List.mem_of_getElem? (i := 6) rfl, fun _ h => nomatch h⟩⟩⟩⟩⟩)
  · skip
    refine c_SI C (e_L_count_no T_x hc) rfl rfl rfl rfl rfl rfl rfl (by omega) (by omega) (Nat.le_of_ble_eq_true rfl) ?_
    rintro x44 I41 L42 ⟨rfl, hI8, hL9⟩
    have hI8 := hI8.symm; subst hI8; have hL9 := hL9.symm; subst hL9
    refine k_istore C (lw := [(5, .int _), (4, .int _), (3, _), (2, _), (1, _), (0, _)]) rfl rfl (Nat.le_of_ble_eq_true rfl) rfl ?_
    refine k_aload_n C rfl rfl rfl ?_
    refine k_aload_n C rfl rfl rfl ?_
    refine k_iload C rfl rfl rfl ?_
    refine k_iconst C (x := 1) rfl rfl rfl ?_
    refine k_iadd C rfl rfl ?_
    refine hL.1 _ _ _ _ _ _ _ rfl (vsk hi hLn (c := 1) (by decide)) ?_
    refine k_aload_n C rfl rfl rfl ?_
    refine k_iload C rfl rfl rfl ?_
    refine k_iconst C (x := 2) rfl rfl rfl ?_
    refine k_iadd C rfl rfl ?_
    refine hL.1 _ _ _ _ _ _ _ rfl (vsk hi hLn (c := 2) (by decide)) ?_
    refine k_aload_n C rfl rfl rfl ?_
    refine k_iload C rfl rfl rfl ?_
    refine k_iconst C (x := 3) rfl rfl rfl ?_
    refine k_iadd C rfl rfl ?_
    refine hL.1 _ _ _ _ _ _ _ rfl (vsk hi hLn (c := 3) (by decide)) ?_
    refine c_VL C (e_m_count_no (A := fun a => a = m ∨ R m 21 = some a ∨ R m 34 = some a) T_m (Or.inl rfl) hc) rfl rfl rfl rfl rfl ⟨_, rfl, rfl, H_m.1, Nat.le_of_ble_eq_true rfl⟩ rfl rfl (by omega) (by omega) (Nat.le_of_ble_eq_true rfl) ?_
    rintro x49 I45 L46 ⟨f2, z2, k2⟩
    have h47 := LI.rfr hLI H_m nAB hB f2 k2
    have h48 := RY.rf E hLI hRL f2 k2
    refine k_lstore C (lw := [(6, .long _), (5, .int _), (4, .int _), (3, _), (2, _), (1, _), (0, _)]) rfl rfl (Nat.le_of_ble_eq_true rfl) rfl ?_
    refine k_goto C (pc2 := 1899) rfl rfl ?_
    exact K _ _ _ _ _ h47 h48 (by omega) (by omega) (List.forall_mem_cons.mpr ⟨List.mem_of_getElem? (i := 2) rfl, List.forall_mem_cons.mpr ⟨List.mem_of_getElem? (i := 3) rfl, List.forall_mem_cons.mpr ⟨List.mem_of_getElem? (i := 4) rfl, List.forall_mem_cons.mpr ⟨List.mem_of_getElem? (i := 5) rfl, List.forall_mem_cons.mpr ⟨List.mem_of_getElem? (i := 6) rfl, fun _ h => nomatch h⟩⟩⟩⟩⟩)

set_option maxRecDepth 100000 in
set_option maxHeartbeats 4000000 in
theorem lc_18 {V : V_T} {b x nw kp rd al m w im o cb tp Ln i : Nat} {xs : Nat → Int32} {T N : Nat → Nat} {I : IT} {L : LT} {R : RT} {A B : Nat → Prop} {ck sk : Nat} (C : Cl 40 q_law 601024 7293033 law_Po V) (S : SB V) (hL : LSc V b Ln xs) (E : LX T N R A B x nw kp rd al m w im o cb tp) (hi : i + 6 ≤ Ln) (hLn : Ln ≤ 3072) (hLI : LI T R A m I) (hRL : RY R x nw kp rd cb m w im tp I) (hck : ck + 3 ≤ 601024) (hsk : sk + 18 ≤ 7293033) (K : ∀ (lv : List (Nat × Value)) (I9 : IT) (L9 : LT) (ck9 sk9 : Nat), LI T R A m I9 → RY R x nw kp rd cb m w im tp I9 → ck9 ≤ ck + 3 → sk9 ≤ sk + 18 → (∀ z ∈ ([(4, .int (Int32.ofNat i)), (3, .ref o), (2, .ref m), (1, .ref x), (0, .ref b)] : List (Nat × Value)), z ∈ lv) → V 1899 lv [] (T, N, I9, L9, R) ck9 sk9) : V 906 [(4, .int (Int32.ofNat i)), (3, .ref o), (2, .ref m), (1, .ref x), (0, .ref b)] [] (T, N, I, L, R) ck sk := by
  obtain ⟨H_x, H_m, ⟨T_o, N_o, A_o⟩, nAB, Rnw, Rkp, Rrd, hnk, Ral, Ras, Rw, Rim⟩ := id E.1
  have T_x := H_x.1
  have T_m := H_m.1
  have hB := True.intro
  refine k_aload_n C rfl rfl rfl ?_
  refine k_aload_n C rfl rfl rfl ?_
  refine k_iload C rfl rfl rfl ?_
  refine k_iconst C (x := 1) rfl rfl rfl ?_
  refine k_iadd C rfl rfl ?_
  refine hL.1 _ _ _ _ _ _ _ rfl (vsk hi hLn (c := 1) (by decide)) ?_
  refine k_aload_n C rfl rfl rfl ?_
  refine k_iload C rfl rfl rfl ?_
  refine k_iconst C (x := 2) rfl rfl rfl ?_
  refine k_iadd C rfl rfl ?_
  refine hL.1 _ _ _ _ _ _ _ rfl (vsk hi hLn (c := 2) (by decide)) ?_
  refine k_aload_n C rfl rfl rfl ?_
  refine k_iload C rfl rfl rfl ?_
  refine k_iconst C (x := 3) rfl rfl rfl ?_
  refine k_iadd C rfl rfl ?_
  refine hL.1 _ _ _ _ _ _ _ rfl (vsk hi hLn (c := 3) (by decide)) ?_
  refine k_aload_n C rfl rfl rfl ?_
  refine c_SI C (v_L_span E hLI hRL) rfl rfl rfl rfl rfl rfl rfl (by omega) (by omega) (Nat.le_of_ble_eq_true rfl) ?_
  rintro x3 I1 L2 ⟨⟨h1, c1⟩, hc⟩
  rcases hc with ⟨rfl, r, v1, q0, q1⟩ | ⟨rfl, q0⟩
  · skip
    have h4 := HL.c E hLI h1 c1 (fun a q => q.1)
    have h5 := RY.q E hLI hRL c1 (by decide) (by decide) (by decide) (by decide)
    refine k_istore C (lw := [(5, .int _), (4, .int _), (3, _), (2, _), (1, _), (0, _)]) rfl rfl (Nat.le_of_ble_eq_true rfl) rfl ?_
    refine k_aload_n C rfl rfl rfl ?_
    refine k_aload_n C rfl rfl rfl ?_
    refine k_iload C rfl rfl rfl ?_
    refine k_iconst C (x := 1) rfl rfl rfl ?_
    refine k_iadd C rfl rfl ?_
    refine hL.1 _ _ _ _ _ _ _ rfl (vsk hi hLn (c := 1) (by decide)) ?_
    refine k_aload_n C rfl rfl rfl ?_
    refine k_iload C rfl rfl rfl ?_
    refine k_iconst C (x := 2) rfl rfl rfl ?_
    refine k_iadd C rfl rfl ?_
    refine hL.1 _ _ _ _ _ _ _ rfl (vsk hi hLn (c := 2) (by decide)) ?_
    refine k_aload_n C rfl rfl rfl ?_
    refine k_iload C rfl rfl rfl ?_
    refine k_iconst C (x := 3) rfl rfl rfl ?_
    refine k_iadd C rfl rfl ?_
    refine hL.1 _ _ _ _ _ _ _ rfl (vsk hi hLn (c := 3) (by decide)) ?_
    refine c_VI C (a_X12_span_x h4.2.1 H_m (RY.hv E h4 h5)) rfl rfl rfl rfl rfl ⟨_, rfl, rfl, H_m.1, Nat.le_of_ble_eq_true rfl⟩ rfl rfl (by omega) (by omega) (Nat.le_of_ble_eq_true rfl) ?_
    rintro x9 I6 L7 ⟨p0, hM9, cm⟩
    have h8 := LI.ref0 h4 H_m nAB hM9 cm (by decide) (by decide) (by decide)
    have h10 := RY.r0 E h4 h5 cm (by decide) (by decide) (by decide) (by decide) (by decide)
    have hcm := CMP_span E hLI hRL c1 q0 q1 p0
    refine k_istore C (lw := [(6, .int _), (5, .int _), (4, .int _), (3, _), (2, _), (1, _), (0, _)]) rfl rfl (Nat.le_of_ble_eq_true rfl) rfl ?_
    refine k_aload_n C rfl rfl rfl ?_
    refine c_VI C (e_thrown T_m) rfl rfl rfl rfl rfl ⟨_, rfl, rfl, T_m, Nat.le_of_ble_eq_true rfl⟩ rfl rfl (by omega) (by omega) (Nat.le_of_ble_eq_true rfl) ?_
    rintro _ _ _ ⟨hx7, hI8, hL9⟩
    have hx7 := hx7.symm; subst hx7
    have hI8 := hI8.symm; subst hI8; have hL9 := hL9.symm; subst hL9
    have hz : I6 m 0 = 0 := Int32.toInt_inj.mp (by have e9 : (0 : Int32).toInt = 0 := rfl; omega)
    rw [hz]
    refine k_iload C rfl rfl rfl ?_
    refine k_icmp_eq C (t := 966) rfl rfl rfl (fun _ => ?_) (fun cj11 => absurd (by decide) cj11)
    refine k_iload C rfl rfl rfl ?_
    refine k_if_ne C (t := 983) rfl rfl rfl (fun cj12 => absurd cj12 (by decide)) (fun _ => ?_)
    refine k_aload_n C rfl rfl rfl ?_
    refine k_iconst C (x := 0) rfl rfl rfl ?_
    refine a_L C rfl rfl T_o (vin (n := 0) rfl (by rw [N_o]; exact Nat.le_of_ble_eq_true rfl) (by rw [N_o]; exact Nat.le_of_ble_eq_true rfl)) ((congrFun (cm.1 o (nAB o A_o)).2 0).trans v1) ?_
    refine k_iload C rfl rfl rfl ?_
    refine k_i2l C rfl rfl ?_
    have hv : r = x9 := Int32.toInt_inj.mp (by omega)
    subst hv
    refine k_lcmp C rfl rfl ?_
    refine k_if_eq C (t := 983) rfl rfl rfl (fun cj13 => ?_) (fun cj13 => ?_)
    · skip
      refine k_goto C (pc2 := 1899) rfl rfl ?_
      exact K _ _ _ _ _ h8 h10 (by omega) (by omega) (List.forall_mem_cons.mpr ⟨List.mem_of_getElem? (i := 2) rfl, List.forall_mem_cons.mpr ⟨List.mem_of_getElem? (i := 3) rfl, List.forall_mem_cons.mpr ⟨List.mem_of_getElem? (i := 4) rfl, List.forall_mem_cons.mpr ⟨List.mem_of_getElem? (i := 5) rfl, List.forall_mem_cons.mpr ⟨List.mem_of_getElem? (i := 6) rfl, fun _ h => nomatch h⟩⟩⟩⟩⟩)
    exact absurd ((lg_cmp_eq _ _).mpr rfl) cj13
  · skip
    have h4 := HL.c E hLI h1 c1 (fun a q => q.1)
    have h14 := RY.q E hLI hRL c1 (by decide) (by decide) (by decide) (by decide)
    refine k_istore C (lw := [(5, .int _), (4, .int _), (3, _), (2, _), (1, _), (0, _)]) rfl rfl (Nat.le_of_ble_eq_true rfl) rfl ?_
    refine k_aload_n C rfl rfl rfl ?_
    refine k_aload_n C rfl rfl rfl ?_
    refine k_iload C rfl rfl rfl ?_
    refine k_iconst C (x := 1) rfl rfl rfl ?_
    refine k_iadd C rfl rfl ?_
    refine hL.1 _ _ _ _ _ _ _ rfl (vsk hi hLn (c := 1) (by decide)) ?_
    refine k_aload_n C rfl rfl rfl ?_
    refine k_iload C rfl rfl rfl ?_
    refine k_iconst C (x := 2) rfl rfl rfl ?_
    refine k_iadd C rfl rfl ?_
    refine hL.1 _ _ _ _ _ _ _ rfl (vsk hi hLn (c := 2) (by decide)) ?_
    refine k_aload_n C rfl rfl rfl ?_
    refine k_iload C rfl rfl rfl ?_
    refine k_iconst C (x := 3) rfl rfl rfl ?_
    refine k_iadd C rfl rfl ?_
    refine hL.1 _ _ _ _ _ _ _ rfl (vsk hi hLn (c := 3) (by decide)) ?_
    refine c_VI C (a_X12_span_x h4.2.1 H_m (RY.hv E h4 h14)) rfl rfl rfl rfl rfl ⟨_, rfl, rfl, H_m.1, Nat.le_of_ble_eq_true rfl⟩ rfl rfl (by omega) (by omega) (Nat.le_of_ble_eq_true rfl) ?_
    rintro x18 I15 L16 ⟨p0, hM9, cm⟩
    have h17 := LI.ref0 h4 H_m nAB hM9 cm (by decide) (by decide) (by decide)
    have h19 := RY.r0 E h4 h14 cm (by decide) (by decide) (by decide) (by decide) (by decide)
    have hcm := CMP_span_0 E hLI hRL c1 q0 p0
    refine k_istore C (lw := [(6, .int _), (5, .int _), (4, .int _), (3, _), (2, _), (1, _), (0, _)]) rfl rfl (Nat.le_of_ble_eq_true rfl) rfl ?_
    refine k_aload_n C rfl rfl rfl ?_
    refine c_VI C (e_thrown T_m) rfl rfl rfl rfl rfl ⟨_, rfl, rfl, T_m, Nat.le_of_ble_eq_true rfl⟩ rfl rfl (by omega) (by omega) (Nat.le_of_ble_eq_true rfl) ?_
    rintro _ _ _ ⟨hx7, hI8, hL9⟩
    have hx7 := hx7.symm; subst hx7
    have hI8 := hI8.symm; subst hI8; have hL9 := hL9.symm; subst hL9
    have hz : I15 m 0 = 1 := Int32.toInt_inj.mp (by have e9 : (1 : Int32).toInt = 1 := rfl; omega)
    rw [hz]
    refine k_iload C rfl rfl rfl ?_
    refine k_icmp_eq C (t := 966) rfl rfl rfl (fun _ => ?_) (fun cj20 => absurd (by decide) cj20)
    refine k_iload C rfl rfl rfl ?_
    refine k_if_ne C (t := 983) rfl rfl rfl (fun _ => ?_) (fun cj21 => absurd (by decide) cj21)
    refine k_goto C (pc2 := 1899) rfl rfl ?_
    exact K _ _ _ _ _ h17 h19 (by omega) (by omega) (List.forall_mem_cons.mpr ⟨List.mem_of_getElem? (i := 2) rfl, List.forall_mem_cons.mpr ⟨List.mem_of_getElem? (i := 3) rfl, List.forall_mem_cons.mpr ⟨List.mem_of_getElem? (i := 4) rfl, List.forall_mem_cons.mpr ⟨List.mem_of_getElem? (i := 5) rfl, List.forall_mem_cons.mpr ⟨List.mem_of_getElem? (i := 6) rfl, fun _ h => nomatch h⟩⟩⟩⟩⟩)

set_option maxRecDepth 100000 in
set_option maxHeartbeats 4000000 in
theorem lc_19 {V : V_T} {b x nw kp rd al m w im o cb tp Ln i : Nat} {xs : Nat → Int32} {T N : Nat → Nat} {I : IT} {L : LT} {R : RT} {A B : Nat → Prop} {ck sk : Nat} (C : Cl 40 q_law 601024 7293033 law_Po V) (S : SB V) (hL : LSc V b Ln xs) (E : LX T N R A B x nw kp rd al m w im o cb tp) (hi : i + 6 ≤ Ln) (hLn : Ln ≤ 3072) (hLI : LI T R A m I) (hRL : RY R x nw kp rd cb m w im tp I) (hck : ck + 3 ≤ 601024) (hsk : sk + 18 ≤ 7293033) (K : ∀ (lv : List (Nat × Value)) (I9 : IT) (L9 : LT) (ck9 sk9 : Nat), LI T R A m I9 → RY R x nw kp rd cb m w im tp I9 → ck9 ≤ ck + 3 → sk9 ≤ sk + 18 → (∀ z ∈ ([(4, .int (Int32.ofNat i)), (3, .ref o), (2, .ref m), (1, .ref x), (0, .ref b)] : List (Nat × Value)), z ∈ lv) → V 1899 lv [] (T, N, I9, L9, R) ck9 sk9) : V 986 [(4, .int (Int32.ofNat i)), (3, .ref o), (2, .ref m), (1, .ref x), (0, .ref b)] [] (T, N, I, L, R) ck sk := by
  obtain ⟨H_x, H_m, ⟨T_o, N_o, A_o⟩, nAB, Rnw, Rkp, Rrd, hnk, Ral, Ras, Rw, Rim⟩ := id E.1
  have T_x := H_x.1
  have T_m := H_m.1
  have hB := True.intro
  refine k_aload_n C rfl rfl rfl ?_
  refine k_aload_n C rfl rfl rfl ?_
  refine k_iload C rfl rfl rfl ?_
  refine k_iconst C (x := 1) rfl rfl rfl ?_
  refine k_iadd C rfl rfl ?_
  refine hL.1 _ _ _ _ _ _ _ rfl (vsk hi hLn (c := 1) (by decide)) ?_
  refine k_aload_n C rfl rfl rfl ?_
  refine k_iload C rfl rfl rfl ?_
  refine k_iconst C (x := 2) rfl rfl rfl ?_
  refine k_iadd C rfl rfl ?_
  refine hL.1 _ _ _ _ _ _ _ rfl (vsk hi hLn (c := 2) (by decide)) ?_
  refine k_aload_n C rfl rfl rfl ?_
  refine k_iload C rfl rfl rfl ?_
  refine k_iconst C (x := 3) rfl rfl rfl ?_
  refine k_iadd C rfl rfl ?_
  refine hL.1 _ _ _ _ _ _ _ rfl (vsk hi hLn (c := 3) (by decide)) ?_
  refine k_aload_n C rfl rfl rfl ?_
  refine c_SI C (u_L_basis BS.sub hLI.1 E.h T_o N_o) rfl rfl rfl rfl rfl rfl rfl (by omega) (by omega) (Nat.le_of_ble_eq_true rfl) ?_
  rintro x3 I1 L2 ⟨h1, c1⟩
  have h4 := HL.c E hLI h1 c1 (fun a q => q.1)
  have h5 := RY.q E hLI hRL c1 (by decide) (by decide) (by decide) (by decide)
  clear h1 c1
  refine k_istore C (lw := [(5, .int _), (4, .int _), (3, _), (2, _), (1, _), (0, _)]) rfl rfl (Nat.le_of_ble_eq_true rfl) rfl ?_
  refine k_aload_n C rfl rfl rfl ?_
  refine k_aload_n C rfl rfl rfl ?_
  refine k_iload C rfl rfl rfl ?_
  refine k_iconst C (x := 1) rfl rfl rfl ?_
  refine k_iadd C rfl rfl ?_
  refine hL.1 _ _ _ _ _ _ _ rfl (vsk hi hLn (c := 1) (by decide)) ?_
  refine k_aload_n C rfl rfl rfl ?_
  refine k_iload C rfl rfl rfl ?_
  refine k_iconst C (x := 2) rfl rfl rfl ?_
  refine k_iadd C rfl rfl ?_
  refine hL.1 _ _ _ _ _ _ _ rfl (vsk hi hLn (c := 2) (by decide)) ?_
  refine k_aload_n C rfl rfl rfl ?_
  refine k_iload C rfl rfl rfl ?_
  refine k_iconst C (x := 3) rfl rfl rfl ?_
  refine k_iadd C rfl rfl ?_
  refine hL.1 _ _ _ _ _ _ _ rfl (vsk hi hLn (c := 3) (by decide)) ?_
  refine c_VI C (a_X12_basis h4.2.1 H_m) rfl rfl rfl rfl rfl ⟨_, rfl, rfl, H_m.1, Nat.le_of_ble_eq_true rfl⟩ rfl rfl (by omega) (by omega) (Nat.le_of_ble_eq_true rfl) ?_
  rintro x9 I6 L7 ⟨hM9, cm⟩
  have h8 := LI.ref0 h4 H_m nAB hM9 cm (by decide) (by decide) (by decide)
  have h10 := RY.r0 E h4 h5 cm (by decide) (by decide) (by decide) (by decide) (by decide)
  refine k_istore C (lw := [(6, .int _), (5, .int _), (4, .int _), (3, _), (2, _), (1, _), (0, _)]) rfl rfl (Nat.le_of_ble_eq_true rfl) rfl ?_
  refine k_goto C (pc2 := 1899) rfl rfl ?_
  exact K _ _ _ _ _ h8 h10 (by omega) (by omega) (List.forall_mem_cons.mpr ⟨List.mem_of_getElem? (i := 2) rfl, List.forall_mem_cons.mpr ⟨List.mem_of_getElem? (i := 3) rfl, List.forall_mem_cons.mpr ⟨List.mem_of_getElem? (i := 4) rfl, List.forall_mem_cons.mpr ⟨List.mem_of_getElem? (i := 5) rfl, List.forall_mem_cons.mpr ⟨List.mem_of_getElem? (i := 6) rfl, fun _ h => nomatch h⟩⟩⟩⟩⟩)

set_option maxRecDepth 100000 in
set_option maxHeartbeats 4000000 in
theorem lc_20 {V : V_T} {b x nw kp rd al m w im o cb tp Ln i : Nat} {xs : Nat → Int32} {T N : Nat → Nat} {I : IT} {L : LT} {R : RT} {A B : Nat → Prop} {ck sk : Nat} (C : Cl 40 q_law 601024 7293033 law_Po V) (S : SB V) (hL : LSc V b Ln xs) (E : LX T N R A B x nw kp rd al m w im o cb tp) (hi : i + 6 ≤ Ln) (hLn : Ln ≤ 3072) (hLI : LI T R A m I) (hRL : RY R x nw kp rd cb m w im tp I) (hck : ck + 3 ≤ 601024) (hsk : sk + 18 ≤ 7293033) (K : ∀ (lv : List (Nat × Value)) (I9 : IT) (L9 : LT) (ck9 sk9 : Nat), LI T R A m I9 → RY R x nw kp rd cb m w im tp I9 → ck9 ≤ ck + 3 → sk9 ≤ sk + 18 → (∀ z ∈ ([(4, .int (Int32.ofNat i)), (3, .ref o), (2, .ref m), (1, .ref x), (0, .ref b)] : List (Nat × Value)), z ∈ lv) → V 1899 lv [] (T, N, I9, L9, R) ck9 sk9) : V 1038 [(4, .int (Int32.ofNat i)), (3, .ref o), (2, .ref m), (1, .ref x), (0, .ref b)] [] (T, N, I, L, R) ck sk := by
  obtain ⟨H_x, H_m, ⟨T_o, N_o, A_o⟩, nAB, Rnw, Rkp, Rrd, hnk, Ral, Ras, Rw, Rim⟩ := id E.1
  have T_x := H_x.1
  have T_m := H_m.1
  have hB := True.intro
  refine k_aload_n C rfl rfl rfl ?_
  refine k_aload_n C rfl rfl rfl ?_
  refine k_iload C rfl rfl rfl ?_
  refine k_iconst C (x := 1) rfl rfl rfl ?_
  refine k_iadd C rfl rfl ?_
  refine hL.1 _ _ _ _ _ _ _ rfl (vsk hi hLn (c := 1) (by decide)) ?_
  refine k_aload_n C rfl rfl rfl ?_
  refine c_SI C (u_L_kind BS.sub hLI.1 E.h T_o N_o) rfl rfl rfl rfl rfl rfl rfl (by omega) (by omega) (Nat.le_of_ble_eq_true rfl) ?_
  rintro x3 I1 L2 ⟨h1, c1⟩
  have h4 := HL.c E hLI h1 c1 (fun a q => q.1)
  have h5 := RY.q E hLI hRL c1 (by decide) (by decide) (by decide) (by decide)
  clear h1 c1
  refine k_istore C (lw := [(5, .int _), (4, .int _), (3, _), (2, _), (1, _), (0, _)]) rfl rfl (Nat.le_of_ble_eq_true rfl) rfl ?_
  refine k_aload_n C rfl rfl rfl ?_
  refine k_aload_n C rfl rfl rfl ?_
  refine k_iload C rfl rfl rfl ?_
  refine k_iconst C (x := 1) rfl rfl rfl ?_
  refine k_iadd C rfl rfl ?_
  refine hL.1 _ _ _ _ _ _ _ rfl (vsk hi hLn (c := 1) (by decide)) ?_
  refine c_VI C (a_X12_kind h4.2.1 H_m) rfl rfl rfl rfl rfl ⟨_, rfl, rfl, H_m.1, Nat.le_of_ble_eq_true rfl⟩ rfl rfl (by omega) (by omega) (Nat.le_of_ble_eq_true rfl) ?_
  rintro x9 I6 L7 ⟨hM9, cm⟩
  have h8 := LI.ref0 h4 H_m nAB hM9 cm (by decide) (by decide) (by decide)
  have h10 := RY.r0 E h4 h5 cm (by decide) (by decide) (by decide) (by decide) (by decide)
  refine k_istore C (lw := [(6, .int _), (5, .int _), (4, .int _), (3, _), (2, _), (1, _), (0, _)]) rfl rfl (Nat.le_of_ble_eq_true rfl) rfl ?_
  refine k_goto C (pc2 := 1899) rfl rfl ?_
  exact K _ _ _ _ _ h8 h10 (by omega) (by omega) (List.forall_mem_cons.mpr ⟨List.mem_of_getElem? (i := 2) rfl, List.forall_mem_cons.mpr ⟨List.mem_of_getElem? (i := 3) rfl, List.forall_mem_cons.mpr ⟨List.mem_of_getElem? (i := 4) rfl, List.forall_mem_cons.mpr ⟨List.mem_of_getElem? (i := 5) rfl, List.forall_mem_cons.mpr ⟨List.mem_of_getElem? (i := 6) rfl, fun _ h => nomatch h⟩⟩⟩⟩⟩)

set_option maxRecDepth 100000 in
set_option maxHeartbeats 4000000 in
theorem lc_21 {V : V_T} {b x nw kp rd al m w im o cb tp Ln i : Nat} {xs : Nat → Int32} {T N : Nat → Nat} {I : IT} {L : LT} {R : RT} {A B : Nat → Prop} {ck sk : Nat} (C : Cl 40 q_law 601024 7293033 law_Po V) (S : SB V) (hL : LSc V b Ln xs) (E : LX T N R A B x nw kp rd al m w im o cb tp) (hi : i + 6 ≤ Ln) (hLn : Ln ≤ 3072) (hLI : LI T R A m I) (hRL : RY R x nw kp rd cb m w im tp I) (hck : ck + 3 ≤ 601024) (hsk : sk + 18 ≤ 7293033) (K : ∀ (lv : List (Nat × Value)) (I9 : IT) (L9 : LT) (ck9 sk9 : Nat), LI T R A m I9 → RY R x nw kp rd cb m w im tp I9 → ck9 ≤ ck + 3 → sk9 ≤ sk + 18 → (∀ z ∈ ([(4, .int (Int32.ofNat i)), (3, .ref o), (2, .ref m), (1, .ref x), (0, .ref b)] : List (Nat × Value)), z ∈ lv) → V 1899 lv [] (T, N, I9, L9, R) ck9 sk9) : V 1066 [(4, .int (Int32.ofNat i)), (3, .ref o), (2, .ref m), (1, .ref x), (0, .ref b)] [] (T, N, I, L, R) ck sk := by
  obtain ⟨H_x, H_m, ⟨T_o, N_o, A_o⟩, nAB, Rnw, Rkp, Rrd, hnk, Ral, Ras, Rw, Rim⟩ := id E.1
  have T_x := H_x.1
  have T_m := H_m.1
  have hB := True.intro
  refine k_aload_n C rfl rfl rfl ?_
  refine k_aload_n C rfl rfl rfl ?_
  refine k_iload C rfl rfl rfl ?_
  refine k_iconst C (x := 1) rfl rfl rfl ?_
  refine k_iadd C rfl rfl ?_
  refine hL.1 _ _ _ _ _ _ _ rfl (vsk hi hLn (c := 1) (by decide)) ?_
  refine k_aload_n C rfl rfl rfl ?_
  refine c_SI C (u_L_orbit BS.sub hLI.1 E.h T_o N_o) rfl rfl rfl rfl rfl rfl rfl (by omega) (by omega) (Nat.le_of_ble_eq_true rfl) ?_
  rintro x3 I1 L2 ⟨h1, c1⟩
  have h4 := HL.c E hLI h1 c1 (fun a q => q.1)
  have h5 := RY.q E hLI hRL c1 (by decide) (by decide) (by decide) (by decide)
  clear h1 c1
  refine k_istore C (lw := [(5, .int _), (4, .int _), (3, _), (2, _), (1, _), (0, _)]) rfl rfl (Nat.le_of_ble_eq_true rfl) rfl ?_
  refine k_aload_n C rfl rfl rfl ?_
  refine k_aload_n C rfl rfl rfl ?_
  refine k_iload C rfl rfl rfl ?_
  refine k_iconst C (x := 1) rfl rfl rfl ?_
  refine k_iadd C rfl rfl ?_
  refine hL.1 _ _ _ _ _ _ _ rfl (vsk hi hLn (c := 1) (by decide)) ?_
  refine c_VI C (a_X12_orbit h4.2.1 H_m) rfl rfl rfl rfl rfl ⟨_, rfl, rfl, H_m.1, Nat.le_of_ble_eq_true rfl⟩ rfl rfl (by omega) (by omega) (Nat.le_of_ble_eq_true rfl) ?_
  rintro x9 I6 L7 ⟨hM9, cm⟩
  have h8 := LI.ref0 h4 H_m nAB hM9 cm (by decide) (by decide) (by decide)
  have h10 := RY.r0 E h4 h5 cm (by decide) (by decide) (by decide) (by decide) (by decide)
  refine k_istore C (lw := [(6, .int _), (5, .int _), (4, .int _), (3, _), (2, _), (1, _), (0, _)]) rfl rfl (Nat.le_of_ble_eq_true rfl) rfl ?_
  refine k_goto C (pc2 := 1899) rfl rfl ?_
  exact K _ _ _ _ _ h8 h10 (by omega) (by omega) (List.forall_mem_cons.mpr ⟨List.mem_of_getElem? (i := 2) rfl, List.forall_mem_cons.mpr ⟨List.mem_of_getElem? (i := 3) rfl, List.forall_mem_cons.mpr ⟨List.mem_of_getElem? (i := 4) rfl, List.forall_mem_cons.mpr ⟨List.mem_of_getElem? (i := 5) rfl, List.forall_mem_cons.mpr ⟨List.mem_of_getElem? (i := 6) rfl, fun _ h => nomatch h⟩⟩⟩⟩⟩)

set_option maxRecDepth 100000 in
set_option maxHeartbeats 4000000 in
theorem lc_22 {V : V_T} {b x nw kp rd al m w im o cb tp Ln i : Nat} {xs : Nat → Int32} {T N : Nat → Nat} {I : IT} {L : LT} {R : RT} {A B : Nat → Prop} {ck sk : Nat} (C : Cl 40 q_law 601024 7293033 law_Po V) (S : SB V) (hL : LSc V b Ln xs) (E : LX T N R A B x nw kp rd al m w im o cb tp) (hi : i + 6 ≤ Ln) (hLn : Ln ≤ 3072) (hLI : LI T R A m I) (hRL : RY R x nw kp rd cb m w im tp I) (hck : ck + 3 ≤ 601024) (hsk : sk + 18 ≤ 7293033) (K : ∀ (lv : List (Nat × Value)) (I9 : IT) (L9 : LT) (ck9 sk9 : Nat), LI T R A m I9 → RY R x nw kp rd cb m w im tp I9 → ck9 ≤ ck + 3 → sk9 ≤ sk + 18 → (∀ z ∈ ([(4, .int (Int32.ofNat i)), (3, .ref o), (2, .ref m), (1, .ref x), (0, .ref b)] : List (Nat × Value)), z ∈ lv) → V 1899 lv [] (T, N, I9, L9, R) ck9 sk9) : V 1094 [(4, .int (Int32.ofNat i)), (3, .ref o), (2, .ref m), (1, .ref x), (0, .ref b)] [] (T, N, I, L, R) ck sk := by
  obtain ⟨H_x, H_m, ⟨T_o, N_o, A_o⟩, nAB, Rnw, Rkp, Rrd, hnk, Ral, Ras, Rw, Rim⟩ := id E.1
  have T_x := H_x.1
  have T_m := H_m.1
  have hB := True.intro
  refine k_aload_n C rfl rfl rfl ?_
  refine k_aload_n C rfl rfl rfl ?_
  refine k_iload C rfl rfl rfl ?_
  refine k_iconst C (x := 1) rfl rfl rfl ?_
  refine k_iadd C rfl rfl ?_
  refine hL.1 _ _ _ _ _ _ _ rfl (vsk hi hLn (c := 1) (by decide)) ?_
  refine k_aload_n C rfl rfl rfl ?_
  refine k_iload C rfl rfl rfl ?_
  refine k_iconst C (x := 2) rfl rfl rfl ?_
  refine k_iadd C rfl rfl ?_
  refine hL.1 _ _ _ _ _ _ _ rfl (vsk hi hLn (c := 2) (by decide)) ?_
  refine k_aload_n C rfl rfl rfl ?_
  refine c_SI C (v_L_join E hLI hRL) rfl rfl rfl rfl rfl rfl rfl (by omega) (by omega) (Nat.le_of_ble_eq_true rfl) ?_
  rintro x3 I1 L2 ⟨⟨h1, c1⟩, hc⟩
  rcases hc with ⟨rfl, r, v1, q0, q1, q2, q3, q4, q5⟩ | ⟨rfl, q0, q1⟩ | ⟨rfl, q0, q1⟩
  · skip
    have h4 := HL.c E hLI h1 c1 (fun a q => sTb.a9 E (ncn (n := 8) (by have := RY.b E hLI hRL; omega) (by omega)) q)
    refine k_istore C (lw := [(5, .int _), (4, .int _), (3, _), (2, _), (1, _), (0, _)]) rfl rfl (Nat.le_of_ble_eq_true rfl) rfl ?_
    refine k_aload_n C rfl rfl rfl ?_
    refine k_aload_n C rfl rfl rfl ?_
    refine k_iload C rfl rfl rfl ?_
    refine k_iconst C (x := 1) rfl rfl rfl ?_
    refine k_iadd C rfl rfl ?_
    refine hL.1 _ _ _ _ _ _ _ rfl (vsk hi hLn (c := 1) (by decide)) ?_
    refine k_aload_n C rfl rfl rfl ?_
    refine k_iload C rfl rfl rfl ?_
    refine k_iconst C (x := 2) rfl rfl rfl ?_
    refine k_iadd C rfl rfl ?_
    refine hL.1 _ _ _ _ _ _ _ rfl (vsk hi hLn (c := 2) (by decide)) ?_
    refine c_VI C (a_X12_join_x h4.2.1 H_m) rfl rfl rfl rfl rfl ⟨_, rfl, rfl, H_m.1, Nat.le_of_ble_eq_true rfl⟩ rfl rfl (by omega) (by omega) (Nat.le_of_ble_eq_true rfl) ?_
    rintro x8 I5 L6 ⟨p0, p1, s9, p3, p4, p5, hM9, cm⟩
    have h7 := LI.ref h4 H_m nAB hM9 cm (by decide) (by decide) (fun w hw => s9 w hw (h4.2.2.1 w hw))
    have h9 := OP_join E hLI h4 h7 hRL c1 q0 q1 q2 q3 q4 q5 cm p0 p1 s9 p3 p4 p5
    refine k_istore C (lw := [(6, .int _), (5, .int _), (4, .int _), (3, _), (2, _), (1, _), (0, _)]) rfl rfl (Nat.le_of_ble_eq_true rfl) rfl ?_
    refine k_goto C (pc2 := 1899) rfl rfl ?_
    exact K _ _ _ _ _ h7 h9 (by omega) (by omega) (List.forall_mem_cons.mpr ⟨List.mem_of_getElem? (i := 2) rfl, List.forall_mem_cons.mpr ⟨List.mem_of_getElem? (i := 3) rfl, List.forall_mem_cons.mpr ⟨List.mem_of_getElem? (i := 4) rfl, List.forall_mem_cons.mpr ⟨List.mem_of_getElem? (i := 5) rfl, List.forall_mem_cons.mpr ⟨List.mem_of_getElem? (i := 6) rfl, fun _ h => nomatch h⟩⟩⟩⟩⟩)
  · skip
    have h4 := HL.s E hLI q1
    refine k_istore C (lw := [(5, .int _), (4, .int _), (3, _), (2, _), (1, _), (0, _)]) rfl rfl (Nat.le_of_ble_eq_true rfl) rfl ?_
    refine k_aload_n C rfl rfl rfl ?_
    refine k_aload_n C rfl rfl rfl ?_
    refine k_iload C rfl rfl rfl ?_
    refine k_iconst C (x := 1) rfl rfl rfl ?_
    refine k_iadd C rfl rfl ?_
    refine hL.1 _ _ _ _ _ _ _ rfl (vsk hi hLn (c := 1) (by decide)) ?_
    refine k_aload_n C rfl rfl rfl ?_
    refine k_iload C rfl rfl rfl ?_
    refine k_iconst C (x := 2) rfl rfl rfl ?_
    refine k_iadd C rfl rfl ?_
    refine hL.1 _ _ _ _ _ _ _ rfl (vsk hi hLn (c := 2) (by decide)) ?_
    refine c_VI C (a_X12_join_x h4.2.1 H_m) rfl rfl rfl rfl rfl ⟨_, rfl, rfl, H_m.1, Nat.le_of_ble_eq_true rfl⟩ rfl rfl (by omega) (by omega) (Nat.le_of_ble_eq_true rfl) ?_
    rintro x13 I10 L11 ⟨p0, p1, s9, p3, p4, p5, hM9, cm⟩
    have h12 := LI.ref h4 H_m nAB hM9 cm (by decide) (by decide) (fun w hw => s9 w hw (h4.2.2.1 w hw))
    have h14 := OP_join_3 E hLI h4 h12 hRL c1 q0 q1 cm p0 p1 s9 p3 p4 p5
    refine k_istore C (lw := [(6, .int _), (5, .int _), (4, .int _), (3, _), (2, _), (1, _), (0, _)]) rfl rfl (Nat.le_of_ble_eq_true rfl) rfl ?_
    refine k_goto C (pc2 := 1899) rfl rfl ?_
    exact K _ _ _ _ _ h12 h14 (by omega) (by omega) (List.forall_mem_cons.mpr ⟨List.mem_of_getElem? (i := 2) rfl, List.forall_mem_cons.mpr ⟨List.mem_of_getElem? (i := 3) rfl, List.forall_mem_cons.mpr ⟨List.mem_of_getElem? (i := 4) rfl, List.forall_mem_cons.mpr ⟨List.mem_of_getElem? (i := 5) rfl, List.forall_mem_cons.mpr ⟨List.mem_of_getElem? (i := 6) rfl, fun _ h => nomatch h⟩⟩⟩⟩⟩)
  · skip
    have h4 := HL.s E hLI q1
    refine k_istore C (lw := [(5, .int _), (4, .int _), (3, _), (2, _), (1, _), (0, _)]) rfl rfl (Nat.le_of_ble_eq_true rfl) rfl ?_
    refine k_aload_n C rfl rfl rfl ?_
    refine k_aload_n C rfl rfl rfl ?_
    refine k_iload C rfl rfl rfl ?_
    refine k_iconst C (x := 1) rfl rfl rfl ?_
    refine k_iadd C rfl rfl ?_
    refine hL.1 _ _ _ _ _ _ _ rfl (vsk hi hLn (c := 1) (by decide)) ?_
    refine k_aload_n C rfl rfl rfl ?_
    refine k_iload C rfl rfl rfl ?_
    refine k_iconst C (x := 2) rfl rfl rfl ?_
    refine k_iadd C rfl rfl ?_
    refine hL.1 _ _ _ _ _ _ _ rfl (vsk hi hLn (c := 2) (by decide)) ?_
    refine c_VI C (a_X12_join_x h4.2.1 H_m) rfl rfl rfl rfl rfl ⟨_, rfl, rfl, H_m.1, Nat.le_of_ble_eq_true rfl⟩ rfl rfl (by omega) (by omega) (Nat.le_of_ble_eq_true rfl) ?_
    rintro x18 I15 L16 ⟨p0, p1, s9, p3, p4, p5, hM9, cm⟩
    have h17 := LI.ref h4 H_m nAB hM9 cm (by decide) (by decide) (fun w hw => s9 w hw (h4.2.2.1 w hw))
    have h19 := OP_join_2 E hLI h4 h17 hRL c1 q0 q1 cm p0 p1 s9 p3 p4 p5
    refine k_istore C (lw := [(6, .int _), (5, .int _), (4, .int _), (3, _), (2, _), (1, _), (0, _)]) rfl rfl (Nat.le_of_ble_eq_true rfl) rfl ?_
    refine k_goto C (pc2 := 1899) rfl rfl ?_
    exact K _ _ _ _ _ h17 h19 (by omega) (by omega) (List.forall_mem_cons.mpr ⟨List.mem_of_getElem? (i := 2) rfl, List.forall_mem_cons.mpr ⟨List.mem_of_getElem? (i := 3) rfl, List.forall_mem_cons.mpr ⟨List.mem_of_getElem? (i := 4) rfl, List.forall_mem_cons.mpr ⟨List.mem_of_getElem? (i := 5) rfl, List.forall_mem_cons.mpr ⟨List.mem_of_getElem? (i := 6) rfl, fun _ h => nomatch h⟩⟩⟩⟩⟩)

set_option maxRecDepth 100000 in
set_option maxHeartbeats 4000000 in
theorem lc_23 {V : V_T} {b x nw kp rd al m w im o cb tp Ln i : Nat} {xs : Nat → Int32} {T N : Nat → Nat} {I : IT} {L : LT} {R : RT} {A B : Nat → Prop} {ck sk : Nat} (C : Cl 40 q_law 601024 7293033 law_Po V) (S : SB V) (hL : LSc V b Ln xs) (E : LX T N R A B x nw kp rd al m w im o cb tp) (hi : i + 6 ≤ Ln) (hLn : Ln ≤ 3072) (hLI : LI T R A m I) (hRL : RY R x nw kp rd cb m w im tp I) (hck : ck + 3 ≤ 601024) (hsk : sk + 18 ≤ 7293033) (K : ∀ (lv : List (Nat × Value)) (I9 : IT) (L9 : LT) (ck9 sk9 : Nat), LI T R A m I9 → RY R x nw kp rd cb m w im tp I9 → ck9 ≤ ck + 3 → sk9 ≤ sk + 18 → (∀ z ∈ ([(4, .int (Int32.ofNat i)), (3, .ref o), (2, .ref m), (1, .ref x), (0, .ref b)] : List (Nat × Value)), z ∈ lv) → V 1899 lv [] (T, N, I9, L9, R) ck9 sk9) : V 1134 [(4, .int (Int32.ofNat i)), (3, .ref o), (2, .ref m), (1, .ref x), (0, .ref b)] [] (T, N, I, L, R) ck sk := by
  obtain ⟨H_x, H_m, ⟨T_o, N_o, A_o⟩, nAB, Rnw, Rkp, Rrd, hnk, Ral, Ras, Rw, Rim⟩ := id E.1
  have T_x := H_x.1
  have T_m := H_m.1
  have hB := True.intro
  refine k_aload_n C rfl rfl rfl ?_
  refine k_aload_n C rfl rfl rfl ?_
  refine k_iload C rfl rfl rfl ?_
  refine k_iconst C (x := 1) rfl rfl rfl ?_
  refine k_iadd C rfl rfl ?_
  refine hL.1 _ _ _ _ _ _ _ rfl (vsk hi hLn (c := 1) (by decide)) ?_
  refine k_aload_n C rfl rfl rfl ?_
  refine c_SI C (v_L_turn E hLI hRL) rfl rfl rfl rfl rfl rfl rfl (by omega) (by omega) (Nat.le_of_ble_eq_true rfl) ?_
  rintro x3 I1 L2 ⟨⟨h1, c1⟩, hc⟩
  rcases hc with ⟨rfl, r, v1, q0, q1, q2⟩ | ⟨rfl, q0, q1⟩ | ⟨rfl, q0, q1⟩
  · skip
    have h4 := HL.c E hLI h1 c1 (fun a q => sTb.a9 E (ncn (n := 8) (by have := RY.b E hLI hRL; omega) (by omega)) q)
    refine k_istore C (lw := [(5, .int _), (4, .int _), (3, _), (2, _), (1, _), (0, _)]) rfl rfl (Nat.le_of_ble_eq_true rfl) rfl ?_
    refine k_aload_n C rfl rfl rfl ?_
    refine k_aload_n C rfl rfl rfl ?_
    refine k_iload C rfl rfl rfl ?_
    refine k_iconst C (x := 1) rfl rfl rfl ?_
    refine k_iadd C rfl rfl ?_
    refine hL.1 _ _ _ _ _ _ _ rfl (vsk hi hLn (c := 1) (by decide)) ?_
    refine c_VI C (a_X12_turn_x h4.2.1 H_m) rfl rfl rfl rfl rfl ⟨_, rfl, rfl, H_m.1, Nat.le_of_ble_eq_true rfl⟩ rfl rfl (by omega) (by omega) (Nat.le_of_ble_eq_true rfl) ?_
    rintro x8 I5 L6 ⟨p0, p1, s9, p3, p4, p5, hM9, cm⟩
    have h7 := LI.ref h4 H_m nAB hM9 cm (by decide) (by decide) (fun w hw => s9 w hw (h4.2.2.1 w hw))
    have h9 := OP_turn E hLI h4 h7 hRL c1 q0 q1 q2 cm p0 p1 s9 p3 p4 p5
    refine k_istore C (lw := [(6, .int _), (5, .int _), (4, .int _), (3, _), (2, _), (1, _), (0, _)]) rfl rfl (Nat.le_of_ble_eq_true rfl) rfl ?_
    refine k_goto C (pc2 := 1899) rfl rfl ?_
    exact K _ _ _ _ _ h7 h9 (by omega) (by omega) (List.forall_mem_cons.mpr ⟨List.mem_of_getElem? (i := 2) rfl, List.forall_mem_cons.mpr ⟨List.mem_of_getElem? (i := 3) rfl, List.forall_mem_cons.mpr ⟨List.mem_of_getElem? (i := 4) rfl, List.forall_mem_cons.mpr ⟨List.mem_of_getElem? (i := 5) rfl, List.forall_mem_cons.mpr ⟨List.mem_of_getElem? (i := 6) rfl, fun _ h => nomatch h⟩⟩⟩⟩⟩)
  · skip
    have h4 := HL.s E hLI q1
    refine k_istore C (lw := [(5, .int _), (4, .int _), (3, _), (2, _), (1, _), (0, _)]) rfl rfl (Nat.le_of_ble_eq_true rfl) rfl ?_
    refine k_aload_n C rfl rfl rfl ?_
    refine k_aload_n C rfl rfl rfl ?_
    refine k_iload C rfl rfl rfl ?_
    refine k_iconst C (x := 1) rfl rfl rfl ?_
    refine k_iadd C rfl rfl ?_
    refine hL.1 _ _ _ _ _ _ _ rfl (vsk hi hLn (c := 1) (by decide)) ?_
    refine c_VI C (a_X12_turn_x h4.2.1 H_m) rfl rfl rfl rfl rfl ⟨_, rfl, rfl, H_m.1, Nat.le_of_ble_eq_true rfl⟩ rfl rfl (by omega) (by omega) (Nat.le_of_ble_eq_true rfl) ?_
    rintro x13 I10 L11 ⟨p0, p1, s9, p3, p4, p5, hM9, cm⟩
    have h12 := LI.ref h4 H_m nAB hM9 cm (by decide) (by decide) (fun w hw => s9 w hw (h4.2.2.1 w hw))
    have h14 := OP_turn_3 E hLI h4 h12 hRL c1 q0 q1 cm p0 p1 s9 p3 p4 p5
    refine k_istore C (lw := [(6, .int _), (5, .int _), (4, .int _), (3, _), (2, _), (1, _), (0, _)]) rfl rfl (Nat.le_of_ble_eq_true rfl) rfl ?_
    refine k_goto C (pc2 := 1899) rfl rfl ?_
    exact K _ _ _ _ _ h12 h14 (by omega) (by omega) (List.forall_mem_cons.mpr ⟨List.mem_of_getElem? (i := 2) rfl, List.forall_mem_cons.mpr ⟨List.mem_of_getElem? (i := 3) rfl, List.forall_mem_cons.mpr ⟨List.mem_of_getElem? (i := 4) rfl, List.forall_mem_cons.mpr ⟨List.mem_of_getElem? (i := 5) rfl, List.forall_mem_cons.mpr ⟨List.mem_of_getElem? (i := 6) rfl, fun _ h => nomatch h⟩⟩⟩⟩⟩)
  · skip
    have h4 := HL.s E hLI q1
    refine k_istore C (lw := [(5, .int _), (4, .int _), (3, _), (2, _), (1, _), (0, _)]) rfl rfl (Nat.le_of_ble_eq_true rfl) rfl ?_
    refine k_aload_n C rfl rfl rfl ?_
    refine k_aload_n C rfl rfl rfl ?_
    refine k_iload C rfl rfl rfl ?_
    refine k_iconst C (x := 1) rfl rfl rfl ?_
    refine k_iadd C rfl rfl ?_
    refine hL.1 _ _ _ _ _ _ _ rfl (vsk hi hLn (c := 1) (by decide)) ?_
    refine c_VI C (a_X12_turn_x h4.2.1 H_m) rfl rfl rfl rfl rfl ⟨_, rfl, rfl, H_m.1, Nat.le_of_ble_eq_true rfl⟩ rfl rfl (by omega) (by omega) (Nat.le_of_ble_eq_true rfl) ?_
    rintro x18 I15 L16 ⟨p0, p1, s9, p3, p4, p5, hM9, cm⟩
    have h17 := LI.ref h4 H_m nAB hM9 cm (by decide) (by decide) (fun w hw => s9 w hw (h4.2.2.1 w hw))
    have h19 := OP_turn_2 E hLI h4 h17 hRL c1 q0 q1 cm p0 p1 s9 p3 p4 p5
    refine k_istore C (lw := [(6, .int _), (5, .int _), (4, .int _), (3, _), (2, _), (1, _), (0, _)]) rfl rfl (Nat.le_of_ble_eq_true rfl) rfl ?_
    refine k_goto C (pc2 := 1899) rfl rfl ?_
    exact K _ _ _ _ _ h17 h19 (by omega) (by omega) (List.forall_mem_cons.mpr ⟨List.mem_of_getElem? (i := 2) rfl, List.forall_mem_cons.mpr ⟨List.mem_of_getElem? (i := 3) rfl, List.forall_mem_cons.mpr ⟨List.mem_of_getElem? (i := 4) rfl, List.forall_mem_cons.mpr ⟨List.mem_of_getElem? (i := 5) rfl, List.forall_mem_cons.mpr ⟨List.mem_of_getElem? (i := 6) rfl, fun _ h => nomatch h⟩⟩⟩⟩⟩)

set_option maxRecDepth 100000 in
set_option maxHeartbeats 4000000 in
theorem lc_24 {V : V_T} {b x nw kp rd al m w im o cb tp Ln i : Nat} {xs : Nat → Int32} {T N : Nat → Nat} {I : IT} {L : LT} {R : RT} {A B : Nat → Prop} {ck sk : Nat} (C : Cl 40 q_law 601024 7293033 law_Po V) (S : SB V) (hL : LSc V b Ln xs) (E : LX T N R A B x nw kp rd al m w im o cb tp) (hi : i + 6 ≤ Ln) (hLn : Ln ≤ 3072) (hLI : LI T R A m I) (hRL : RY R x nw kp rd cb m w im tp I) (hck : ck + 3 ≤ 601024) (hsk : sk + 18 ≤ 7293033) (K : ∀ (lv : List (Nat × Value)) (I9 : IT) (L9 : LT) (ck9 sk9 : Nat), LI T R A m I9 → RY R x nw kp rd cb m w im tp I9 → ck9 ≤ ck + 3 → sk9 ≤ sk + 18 → (∀ z ∈ ([(4, .int (Int32.ofNat i)), (3, .ref o), (2, .ref m), (1, .ref x), (0, .ref b)] : List (Nat × Value)), z ∈ lv) → V 1899 lv [] (T, N, I9, L9, R) ck9 sk9) : V 1162 [(4, .int (Int32.ofNat i)), (3, .ref o), (2, .ref m), (1, .ref x), (0, .ref b)] [] (T, N, I, L, R) ck sk := by
  obtain ⟨H_x, H_m, ⟨T_o, N_o, A_o⟩, nAB, Rnw, Rkp, Rrd, hnk, Ral, Ras, Rw, Rim⟩ := id E.1
  have T_x := H_x.1
  have T_m := H_m.1
  have hB := True.intro
  refine k_aload_n C rfl rfl rfl ?_
  refine k_aload_n C rfl rfl rfl ?_
  refine k_iload C rfl rfl rfl ?_
  refine k_iconst C (x := 1) rfl rfl rfl ?_
  refine k_iadd C rfl rfl ?_
  refine hL.1 _ _ _ _ _ _ _ rfl (vsk hi hLn (c := 1) (by decide)) ?_
  refine k_aload_n C rfl rfl rfl ?_
  refine k_iload C rfl rfl rfl ?_
  refine k_iconst C (x := 2) rfl rfl rfl ?_
  refine k_iadd C rfl rfl ?_
  refine hL.1 _ _ _ _ _ _ _ rfl (vsk hi hLn (c := 2) (by decide)) ?_
  refine k_aload_n C rfl rfl rfl ?_
  refine c_SI C (u_L_told BS.sub hLI.1 E.h T_o N_o) rfl rfl rfl rfl rfl rfl rfl (by omega) (by omega) (Nat.le_of_ble_eq_true rfl) ?_
  rintro x3 I1 L2 hI8
  have hI8 := hI8.symm; subst hI8
  refine k_istore C (lw := [(5, .int _), (4, .int _), (3, _), (2, _), (1, _), (0, _)]) rfl rfl (Nat.le_of_ble_eq_true rfl) rfl ?_
  refine k_aload_n C rfl rfl rfl ?_
  refine k_aload_n C rfl rfl rfl ?_
  refine k_iload C rfl rfl rfl ?_
  refine k_iconst C (x := 1) rfl rfl rfl ?_
  refine k_iadd C rfl rfl ?_
  refine hL.1 _ _ _ _ _ _ _ rfl (vsk hi hLn (c := 1) (by decide)) ?_
  refine k_aload_n C rfl rfl rfl ?_
  refine k_iload C rfl rfl rfl ?_
  refine k_iconst C (x := 2) rfl rfl rfl ?_
  refine k_iadd C rfl rfl ?_
  refine hL.1 _ _ _ _ _ _ _ rfl (vsk hi hLn (c := 2) (by decide)) ?_
  refine c_VI C (a_X12_told hLI.2.1 H_m) rfl rfl rfl rfl rfl ⟨_, rfl, rfl, H_m.1, Nat.le_of_ble_eq_true rfl⟩ rfl rfl (by omega) (by omega) (Nat.le_of_ble_eq_true rfl) ?_
  rintro x8 I5 L6 ⟨p0, p1, hM9, cm⟩
  have h7 := LI.ref0 hLI H_m nAB hM9 cm (by decide) (by decide) (by decide)
  have h9 := RY.r0 E hLI hRL cm (by decide) (by decide) (by decide) (by decide) (by decide)
  refine k_istore C (lw := [(6, .int _), (5, .int _), (4, .int _), (3, _), (2, _), (1, _), (0, _)]) rfl rfl (Nat.le_of_ble_eq_true rfl) rfl ?_
  refine k_goto C (pc2 := 1899) rfl rfl ?_
  exact K _ _ _ _ _ h7 h9 (by omega) (by omega) (List.forall_mem_cons.mpr ⟨List.mem_of_getElem? (i := 2) rfl, List.forall_mem_cons.mpr ⟨List.mem_of_getElem? (i := 3) rfl, List.forall_mem_cons.mpr ⟨List.mem_of_getElem? (i := 4) rfl, List.forall_mem_cons.mpr ⟨List.mem_of_getElem? (i := 5) rfl, List.forall_mem_cons.mpr ⟨List.mem_of_getElem? (i := 6) rfl, fun _ h => nomatch h⟩⟩⟩⟩⟩)

set_option maxRecDepth 100000 in
set_option maxHeartbeats 4000000 in
theorem lc_25 {V : V_T} {b x nw kp rd al m w im o cb tp Ln i : Nat} {xs : Nat → Int32} {T N : Nat → Nat} {I : IT} {L : LT} {R : RT} {A B : Nat → Prop} {ck sk : Nat} (C : Cl 40 q_law 601024 7293033 law_Po V) (S : SB V) (hL : LSc V b Ln xs) (E : LX T N R A B x nw kp rd al m w im o cb tp) (hi : i + 6 ≤ Ln) (hLn : Ln ≤ 3072) (hLI : LI T R A m I) (hRL : RY R x nw kp rd cb m w im tp I) (hck : ck + 3 ≤ 601024) (hsk : sk + 18 ≤ 7293033) (K : ∀ (lv : List (Nat × Value)) (I9 : IT) (L9 : LT) (ck9 sk9 : Nat), LI T R A m I9 → RY R x nw kp rd cb m w im tp I9 → ck9 ≤ ck + 3 → sk9 ≤ sk + 18 → (∀ z ∈ ([(4, .int (Int32.ofNat i)), (3, .ref o), (2, .ref m), (1, .ref x), (0, .ref b)] : List (Nat × Value)), z ∈ lv) → V 1899 lv [] (T, N, I9, L9, R) ck9 sk9) : V 1202 [(4, .int (Int32.ofNat i)), (3, .ref o), (2, .ref m), (1, .ref x), (0, .ref b)] [] (T, N, I, L, R) ck sk := by
  obtain ⟨H_x, H_m, ⟨T_o, N_o, A_o⟩, nAB, Rnw, Rkp, Rrd, hnk, Ral, Ras, Rw, Rim⟩ := id E.1
  have T_x := H_x.1
  have T_m := H_m.1
  have hB := True.intro
  refine k_aload_n C rfl rfl rfl ?_
  refine k_aload_n C rfl rfl rfl ?_
  refine k_iload C rfl rfl rfl ?_
  refine k_iconst C (x := 1) rfl rfl rfl ?_
  refine k_iadd C rfl rfl ?_
  refine hL.1 _ _ _ _ _ _ _ rfl (vsk hi hLn (c := 1) (by decide)) ?_
  refine k_aload_n C rfl rfl rfl ?_
  refine k_iload C rfl rfl rfl ?_
  refine k_iconst C (x := 2) rfl rfl rfl ?_
  refine k_iadd C rfl rfl ?_
  refine hL.1 _ _ _ _ _ _ _ rfl (vsk hi hLn (c := 2) (by decide)) ?_
  refine k_aload_n C rfl rfl rfl ?_
  refine k_iload C rfl rfl rfl ?_
  refine k_iconst C (x := 3) rfl rfl rfl ?_
  refine k_iadd C rfl rfl ?_
  refine hL.1 _ _ _ _ _ _ _ rfl (vsk hi hLn (c := 3) (by decide)) ?_
  refine k_aload_n C rfl rfl rfl ?_
  refine c_SI C (u_L_quotient BS.sub hLI.1 E.h T_o N_o) rfl rfl rfl rfl rfl rfl rfl (by omega) (by omega) (Nat.le_of_ble_eq_true rfl) ?_
  rintro x3 I1 L2 ⟨h1, c1⟩
  have h4 := HL.c E hLI h1 c1 (fun a q => q.1)
  have h5 := RY.q E hLI hRL c1 (by decide) (by decide) (by decide) (by decide)
  clear h1 c1
  refine k_istore C (lw := [(5, .int _), (4, .int _), (3, _), (2, _), (1, _), (0, _)]) rfl rfl (Nat.le_of_ble_eq_true rfl) rfl ?_
  refine k_aload_n C rfl rfl rfl ?_
  refine k_aload_n C rfl rfl rfl ?_
  refine k_iload C rfl rfl rfl ?_
  refine k_iconst C (x := 1) rfl rfl rfl ?_
  refine k_iadd C rfl rfl ?_
  refine hL.1 _ _ _ _ _ _ _ rfl (vsk hi hLn (c := 1) (by decide)) ?_
  refine k_aload_n C rfl rfl rfl ?_
  refine k_iload C rfl rfl rfl ?_
  refine k_iconst C (x := 2) rfl rfl rfl ?_
  refine k_iadd C rfl rfl ?_
  refine hL.1 _ _ _ _ _ _ _ rfl (vsk hi hLn (c := 2) (by decide)) ?_
  refine k_aload_n C rfl rfl rfl ?_
  refine k_iload C rfl rfl rfl ?_
  refine k_iconst C (x := 3) rfl rfl rfl ?_
  refine k_iadd C rfl rfl ?_
  refine hL.1 _ _ _ _ _ _ _ rfl (vsk hi hLn (c := 3) (by decide)) ?_
  refine c_VI C (a_X12_quotient h4.2.1 H_m) rfl rfl rfl rfl rfl ⟨_, rfl, rfl, H_m.1, Nat.le_of_ble_eq_true rfl⟩ rfl rfl (by omega) (by omega) (Nat.le_of_ble_eq_true rfl) ?_
  rintro x9 I6 L7 ⟨p0, p1, hM9, cm⟩
  have h8 := LI.ref0 h4 H_m nAB hM9 cm (by decide) (by decide) (by decide)
  have h10 := RY.r0 E h4 h5 cm (by decide) (by decide) (by decide) (by decide) (by decide)
  refine k_istore C (lw := [(6, .int _), (5, .int _), (4, .int _), (3, _), (2, _), (1, _), (0, _)]) rfl rfl (Nat.le_of_ble_eq_true rfl) rfl ?_
  refine k_goto C (pc2 := 1899) rfl rfl ?_
  exact K _ _ _ _ _ h8 h10 (by omega) (by omega) (List.forall_mem_cons.mpr ⟨List.mem_of_getElem? (i := 2) rfl, List.forall_mem_cons.mpr ⟨List.mem_of_getElem? (i := 3) rfl, List.forall_mem_cons.mpr ⟨List.mem_of_getElem? (i := 4) rfl, List.forall_mem_cons.mpr ⟨List.mem_of_getElem? (i := 5) rfl, List.forall_mem_cons.mpr ⟨List.mem_of_getElem? (i := 6) rfl, fun _ h => nomatch h⟩⟩⟩⟩⟩)

set_option maxRecDepth 100000 in
set_option maxHeartbeats 4000000 in
theorem lc_26 {V : V_T} {b x nw kp rd al m w im o cb tp Ln i : Nat} {xs : Nat → Int32} {T N : Nat → Nat} {I : IT} {L : LT} {R : RT} {A B : Nat → Prop} {ck sk : Nat} (C : Cl 40 q_law 601024 7293033 law_Po V) (S : SB V) (hL : LSc V b Ln xs) (E : LX T N R A B x nw kp rd al m w im o cb tp) (hi : i + 6 ≤ Ln) (hLn : Ln ≤ 3072) (hLI : LI T R A m I) (hRL : RY R x nw kp rd cb m w im tp I) (hck : ck + 3 ≤ 601024) (hsk : sk + 18 ≤ 7293033) (K : ∀ (lv : List (Nat × Value)) (I9 : IT) (L9 : LT) (ck9 sk9 : Nat), LI T R A m I9 → RY R x nw kp rd cb m w im tp I9 → ck9 ≤ ck + 3 → sk9 ≤ sk + 18 → (∀ z ∈ ([(4, .int (Int32.ofNat i)), (3, .ref o), (2, .ref m), (1, .ref x), (0, .ref b)] : List (Nat × Value)), z ∈ lv) → V 1899 lv [] (T, N, I9, L9, R) ck9 sk9) : V 1254 [(4, .int (Int32.ofNat i)), (3, .ref o), (2, .ref m), (1, .ref x), (0, .ref b)] [] (T, N, I, L, R) ck sk := by
  obtain ⟨H_x, H_m, ⟨T_o, N_o, A_o⟩, nAB, Rnw, Rkp, Rrd, hnk, Ral, Ras, Rw, Rim⟩ := id E.1
  have T_x := H_x.1
  have T_m := H_m.1
  have hB := True.intro
  refine k_aload_n C rfl rfl rfl ?_
  refine k_aload_n C rfl rfl rfl ?_
  refine k_iload C rfl rfl rfl ?_
  refine k_iconst C (x := 1) rfl rfl rfl ?_
  refine k_iadd C rfl rfl ?_
  refine hL.1 _ _ _ _ _ _ _ rfl (vsk hi hLn (c := 1) (by decide)) ?_
  refine k_aload_n C rfl rfl rfl ?_
  refine c_SI C (u_L_plain BS.sub hLI.1 E.h T_o N_o) rfl rfl rfl rfl rfl rfl rfl (by omega) (by omega) (Nat.le_of_ble_eq_true rfl) ?_
  rintro x3 I1 L2 ⟨h1, c1⟩
  have h4 := HL.c E hLI h1 c1 (fun a q => q.1)
  have h5 := RY.q E hLI hRL c1 (by decide) (by decide) (by decide) (by decide)
  clear h1 c1
  refine k_istore C (lw := [(5, .int _), (4, .int _), (3, _), (2, _), (1, _), (0, _)]) rfl rfl (Nat.le_of_ble_eq_true rfl) rfl ?_
  refine k_aload_n C rfl rfl rfl ?_
  refine k_aload_n C rfl rfl rfl ?_
  refine k_iload C rfl rfl rfl ?_
  refine k_iconst C (x := 1) rfl rfl rfl ?_
  refine k_iadd C rfl rfl ?_
  refine hL.1 _ _ _ _ _ _ _ rfl (vsk hi hLn (c := 1) (by decide)) ?_
  refine c_VI C (a_X12_plain h4.2.1 H_m) rfl rfl rfl rfl rfl ⟨_, rfl, rfl, H_m.1, Nat.le_of_ble_eq_true rfl⟩ rfl rfl (by omega) (by omega) (Nat.le_of_ble_eq_true rfl) ?_
  rintro x9 I6 L7 ⟨p0, p1, hM9, cm⟩
  have h8 := LI.ref0 h4 H_m nAB hM9 cm (by decide) (by decide) (by decide)
  have h10 := RY.r0 E h4 h5 cm (by decide) (by decide) (by decide) (by decide) (by decide)
  refine k_istore C (lw := [(6, .int _), (5, .int _), (4, .int _), (3, _), (2, _), (1, _), (0, _)]) rfl rfl (Nat.le_of_ble_eq_true rfl) rfl ?_
  refine k_goto C (pc2 := 1899) rfl rfl ?_
  exact K _ _ _ _ _ h8 h10 (by omega) (by omega) (List.forall_mem_cons.mpr ⟨List.mem_of_getElem? (i := 2) rfl, List.forall_mem_cons.mpr ⟨List.mem_of_getElem? (i := 3) rfl, List.forall_mem_cons.mpr ⟨List.mem_of_getElem? (i := 4) rfl, List.forall_mem_cons.mpr ⟨List.mem_of_getElem? (i := 5) rfl, List.forall_mem_cons.mpr ⟨List.mem_of_getElem? (i := 6) rfl, fun _ h => nomatch h⟩⟩⟩⟩⟩)

set_option maxRecDepth 100000 in
set_option maxHeartbeats 4000000 in
theorem lc_27 {V : V_T} {b x nw kp rd al m w im o cb tp Ln i : Nat} {xs : Nat → Int32} {T N : Nat → Nat} {I : IT} {L : LT} {R : RT} {A B : Nat → Prop} {ck sk : Nat} (C : Cl 40 q_law 601024 7293033 law_Po V) (S : SB V) (hL : LSc V b Ln xs) (E : LX T N R A B x nw kp rd al m w im o cb tp) (hi : i + 6 ≤ Ln) (hLn : Ln ≤ 3072) (hLI : LI T R A m I) (hRL : RY R x nw kp rd cb m w im tp I) (hck : ck + 3 ≤ 601024) (hsk : sk + 18 ≤ 7293033) (K : ∀ (lv : List (Nat × Value)) (I9 : IT) (L9 : LT) (ck9 sk9 : Nat), LI T R A m I9 → RY R x nw kp rd cb m w im tp I9 → ck9 ≤ ck + 3 → sk9 ≤ sk + 18 → (∀ z ∈ ([(4, .int (Int32.ofNat i)), (3, .ref o), (2, .ref m), (1, .ref x), (0, .ref b)] : List (Nat × Value)), z ∈ lv) → V 1899 lv [] (T, N, I9, L9, R) ck9 sk9) : V 1282 [(4, .int (Int32.ofNat i)), (3, .ref o), (2, .ref m), (1, .ref x), (0, .ref b)] [] (T, N, I, L, R) ck sk := by
  obtain ⟨H_x, H_m, ⟨T_o, N_o, A_o⟩, nAB, Rnw, Rkp, Rrd, hnk, Ral, Ras, Rw, Rim⟩ := id E.1
  have T_x := H_x.1
  have T_m := H_m.1
  have hB := True.intro
  refine k_aload_n C rfl rfl rfl ?_
  refine k_aload_n C rfl rfl rfl ?_
  refine k_iload C rfl rfl rfl ?_
  refine k_iconst C (x := 1) rfl rfl rfl ?_
  refine k_iadd C rfl rfl ?_
  refine hL.1 _ _ _ _ _ _ _ rfl (vsk hi hLn (c := 1) (by decide)) ?_
  refine k_aload_n C rfl rfl rfl ?_
  refine k_iload C rfl rfl rfl ?_
  refine k_iconst C (x := 2) rfl rfl rfl ?_
  refine k_iadd C rfl rfl ?_
  refine hL.1 _ _ _ _ _ _ _ rfl (vsk hi hLn (c := 2) (by decide)) ?_
  refine k_aload_n C rfl rfl rfl ?_
  refine c_SI C (u_L_root BS.sub hLI.1 E.h T_o N_o) rfl rfl rfl rfl rfl rfl rfl (by omega) (by omega) (Nat.le_of_ble_eq_true rfl) ?_
  rintro x3 I1 L2 ⟨h1, c1⟩
  have h4 := HL.c E hLI h1 c1 (fun a q => q.1)
  have h5 := RY.q E hLI hRL c1 (by decide) (by decide) (by decide) (by decide)
  clear h1 c1
  refine k_istore C (lw := [(5, .int _), (4, .int _), (3, _), (2, _), (1, _), (0, _)]) rfl rfl (Nat.le_of_ble_eq_true rfl) rfl ?_
  refine k_aload_n C rfl rfl rfl ?_
  refine k_aload_n C rfl rfl rfl ?_
  refine k_iload C rfl rfl rfl ?_
  refine k_iconst C (x := 1) rfl rfl rfl ?_
  refine k_iadd C rfl rfl ?_
  refine hL.1 _ _ _ _ _ _ _ rfl (vsk hi hLn (c := 1) (by decide)) ?_
  refine k_aload_n C rfl rfl rfl ?_
  refine k_iload C rfl rfl rfl ?_
  refine k_iconst C (x := 2) rfl rfl rfl ?_
  refine k_iadd C rfl rfl ?_
  refine hL.1 _ _ _ _ _ _ _ rfl (vsk hi hLn (c := 2) (by decide)) ?_
  refine c_VI C (a_X12_root h4.2.1 H_m) rfl rfl rfl rfl rfl ⟨_, rfl, rfl, H_m.1, Nat.le_of_ble_eq_true rfl⟩ rfl rfl (by omega) (by omega) (Nat.le_of_ble_eq_true rfl) ?_
  rintro x9 I6 L7 ⟨hM9, cm⟩
  have h8 := LI.ref0 h4 H_m nAB hM9 cm (by decide) (by decide) (by decide)
  have h10 := RY.r0 E h4 h5 cm (by decide) (by decide) (by decide) (by decide) (by decide)
  refine k_istore C (lw := [(6, .int _), (5, .int _), (4, .int _), (3, _), (2, _), (1, _), (0, _)]) rfl rfl (Nat.le_of_ble_eq_true rfl) rfl ?_
  refine k_goto C (pc2 := 1899) rfl rfl ?_
  exact K _ _ _ _ _ h8 h10 (by omega) (by omega) (List.forall_mem_cons.mpr ⟨List.mem_of_getElem? (i := 2) rfl, List.forall_mem_cons.mpr ⟨List.mem_of_getElem? (i := 3) rfl, List.forall_mem_cons.mpr ⟨List.mem_of_getElem? (i := 4) rfl, List.forall_mem_cons.mpr ⟨List.mem_of_getElem? (i := 5) rfl, List.forall_mem_cons.mpr ⟨List.mem_of_getElem? (i := 6) rfl, fun _ h => nomatch h⟩⟩⟩⟩⟩)

set_option maxRecDepth 100000 in
set_option maxHeartbeats 4000000 in
theorem lc_28 {V : V_T} {b x nw kp rd al m w im o cb tp Ln i : Nat} {xs : Nat → Int32} {T N : Nat → Nat} {I : IT} {L : LT} {R : RT} {A B : Nat → Prop} {ck sk : Nat} (C : Cl 40 q_law 601024 7293033 law_Po V) (S : SB V) (hL : LSc V b Ln xs) (E : LX T N R A B x nw kp rd al m w im o cb tp) (hi : i + 6 ≤ Ln) (hLn : Ln ≤ 3072) (hLI : LI T R A m I) (hRL : RY R x nw kp rd cb m w im tp I) (hck : ck + 3 ≤ 601024) (hsk : sk + 18 ≤ 7293033) (K : ∀ (lv : List (Nat × Value)) (I9 : IT) (L9 : LT) (ck9 sk9 : Nat), LI T R A m I9 → RY R x nw kp rd cb m w im tp I9 → ck9 ≤ ck + 3 → sk9 ≤ sk + 18 → (∀ z ∈ ([(4, .int (Int32.ofNat i)), (3, .ref o), (2, .ref m), (1, .ref x), (0, .ref b)] : List (Nat × Value)), z ∈ lv) → V 1899 lv [] (T, N, I9, L9, R) ck9 sk9) : V 1322 [(4, .int (Int32.ofNat i)), (3, .ref o), (2, .ref m), (1, .ref x), (0, .ref b)] [] (T, N, I, L, R) ck sk := by
  obtain ⟨H_x, H_m, ⟨T_o, N_o, A_o⟩, nAB, Rnw, Rkp, Rrd, hnk, Ral, Ras, Rw, Rim⟩ := id E.1
  have T_x := H_x.1
  have T_m := H_m.1
  have hB := True.intro
  refine k_aload_n C rfl rfl rfl ?_
  refine k_aload_n C rfl rfl rfl ?_
  refine k_iload C rfl rfl rfl ?_
  refine k_iconst C (x := 1) rfl rfl rfl ?_
  refine k_iadd C rfl rfl ?_
  refine hL.1 _ _ _ _ _ _ _ rfl (vsk hi hLn (c := 1) (by decide)) ?_
  refine k_aload_n C rfl rfl rfl ?_
  refine c_SI C (u_L_roots BS.sub hLI.1 E.h T_o N_o) rfl rfl rfl rfl rfl rfl rfl (by omega) (by omega) (Nat.le_of_ble_eq_true rfl) ?_
  rintro x3 I1 L2 ⟨h1, c1⟩
  have h4 := HL.c E hLI h1 c1 (fun a q => q.1)
  have h5 := RY.q E hLI hRL c1 (by decide) (by decide) (by decide) (by decide)
  clear h1 c1
  refine k_istore C (lw := [(5, .int _), (4, .int _), (3, _), (2, _), (1, _), (0, _)]) rfl rfl (Nat.le_of_ble_eq_true rfl) rfl ?_
  refine k_aload_n C rfl rfl rfl ?_
  refine k_aload_n C rfl rfl rfl ?_
  refine k_iload C rfl rfl rfl ?_
  refine k_iconst C (x := 1) rfl rfl rfl ?_
  refine k_iadd C rfl rfl ?_
  refine hL.1 _ _ _ _ _ _ _ rfl (vsk hi hLn (c := 1) (by decide)) ?_
  refine c_VI C (a_X12_roots h4.2.1 H_m) rfl rfl rfl rfl rfl ⟨_, rfl, rfl, H_m.1, Nat.le_of_ble_eq_true rfl⟩ rfl rfl (by omega) (by omega) (Nat.le_of_ble_eq_true rfl) ?_
  rintro x9 I6 L7 ⟨hM9, cm⟩
  have h8 := LI.ref0 h4 H_m nAB hM9 cm (by decide) (by decide) (by decide)
  have h10 := RY.r0 E h4 h5 cm (by decide) (by decide) (by decide) (by decide) (by decide)
  refine k_istore C (lw := [(6, .int _), (5, .int _), (4, .int _), (3, _), (2, _), (1, _), (0, _)]) rfl rfl (Nat.le_of_ble_eq_true rfl) rfl ?_
  refine k_goto C (pc2 := 1899) rfl rfl ?_
  exact K _ _ _ _ _ h8 h10 (by omega) (by omega) (List.forall_mem_cons.mpr ⟨List.mem_of_getElem? (i := 2) rfl, List.forall_mem_cons.mpr ⟨List.mem_of_getElem? (i := 3) rfl, List.forall_mem_cons.mpr ⟨List.mem_of_getElem? (i := 4) rfl, List.forall_mem_cons.mpr ⟨List.mem_of_getElem? (i := 5) rfl, List.forall_mem_cons.mpr ⟨List.mem_of_getElem? (i := 6) rfl, fun _ h => nomatch h⟩⟩⟩⟩⟩)

set_option maxRecDepth 100000 in
set_option maxHeartbeats 4000000 in
theorem lc_29 {V : V_T} {b x nw kp rd al m w im o cb tp Ln i : Nat} {xs : Nat → Int32} {T N : Nat → Nat} {I : IT} {L : LT} {R : RT} {A B : Nat → Prop} {ck sk : Nat} (C : Cl 40 q_law 601024 7293033 law_Po V) (S : SB V) (hL : LSc V b Ln xs) (E : LX T N R A B x nw kp rd al m w im o cb tp) (hi : i + 6 ≤ Ln) (hLn : Ln ≤ 3072) (hLI : LI T R A m I) (hRL : RY R x nw kp rd cb m w im tp I) (hck : ck + 3 ≤ 601024) (hsk : sk + 18 ≤ 7293033) (K : ∀ (lv : List (Nat × Value)) (I9 : IT) (L9 : LT) (ck9 sk9 : Nat), LI T R A m I9 → RY R x nw kp rd cb m w im tp I9 → ck9 ≤ ck + 3 → sk9 ≤ sk + 18 → (∀ z ∈ ([(4, .int (Int32.ofNat i)), (3, .ref o), (2, .ref m), (1, .ref x), (0, .ref b)] : List (Nat × Value)), z ∈ lv) → V 1899 lv [] (T, N, I9, L9, R) ck9 sk9) : V 1350 [(4, .int (Int32.ofNat i)), (3, .ref o), (2, .ref m), (1, .ref x), (0, .ref b)] [] (T, N, I, L, R) ck sk := by
  obtain ⟨H_x, H_m, ⟨T_o, N_o, A_o⟩, nAB, Rnw, Rkp, Rrd, hnk, Ral, Ras, Rw, Rim⟩ := id E.1
  have T_x := H_x.1
  have T_m := H_m.1
  have hB := True.intro
  refine k_aload_n C rfl rfl rfl ?_
  refine k_aload_n C rfl rfl rfl ?_
  refine k_iload C rfl rfl rfl ?_
  refine k_iconst C (x := 1) rfl rfl rfl ?_
  refine k_iadd C rfl rfl ?_
  refine hL.1 _ _ _ _ _ _ _ rfl (vsk hi hLn (c := 1) (by decide)) ?_
  refine k_aload_n C rfl rfl rfl ?_
  refine c_SI C (u_L_empty BS.sub hLI.1 E.h T_o N_o) rfl rfl rfl rfl rfl rfl rfl (by omega) (by omega) (Nat.le_of_ble_eq_true rfl) ?_
  rintro x3 I1 L2 ⟨h1, c1⟩
  have h4 := HL.c E hLI h1 c1 (fun a q => q.1)
  have h5 := RY.q E hLI hRL c1 (by decide) (by decide) (by decide) (by decide)
  clear h1 c1
  refine k_istore C (lw := [(5, .int _), (4, .int _), (3, _), (2, _), (1, _), (0, _)]) rfl rfl (Nat.le_of_ble_eq_true rfl) rfl ?_
  refine k_aload_n C rfl rfl rfl ?_
  refine k_aload_n C rfl rfl rfl ?_
  refine k_iload C rfl rfl rfl ?_
  refine k_iconst C (x := 1) rfl rfl rfl ?_
  refine k_iadd C rfl rfl ?_
  refine hL.1 _ _ _ _ _ _ _ rfl (vsk hi hLn (c := 1) (by decide)) ?_
  refine c_VI C (a_X12_empty h4.2.1 H_m) rfl rfl rfl rfl rfl ⟨_, rfl, rfl, H_m.1, Nat.le_of_ble_eq_true rfl⟩ rfl rfl (by omega) (by omega) (Nat.le_of_ble_eq_true rfl) ?_
  rintro x9 I6 L7 ⟨p0, p1, hM9, cm⟩
  have h8 := LI.ref0 h4 H_m nAB hM9 cm (by decide) (by decide) (by decide)
  have h10 := RY.r0 E h4 h5 cm (by decide) (by decide) (by decide) (by decide) (by decide)
  refine k_istore C (lw := [(6, .int _), (5, .int _), (4, .int _), (3, _), (2, _), (1, _), (0, _)]) rfl rfl (Nat.le_of_ble_eq_true rfl) rfl ?_
  refine k_goto C (pc2 := 1899) rfl rfl ?_
  exact K _ _ _ _ _ h8 h10 (by omega) (by omega) (List.forall_mem_cons.mpr ⟨List.mem_of_getElem? (i := 2) rfl, List.forall_mem_cons.mpr ⟨List.mem_of_getElem? (i := 3) rfl, List.forall_mem_cons.mpr ⟨List.mem_of_getElem? (i := 4) rfl, List.forall_mem_cons.mpr ⟨List.mem_of_getElem? (i := 5) rfl, List.forall_mem_cons.mpr ⟨List.mem_of_getElem? (i := 6) rfl, fun _ h => nomatch h⟩⟩⟩⟩⟩)

set_option maxRecDepth 100000 in
set_option maxHeartbeats 4000000 in
theorem lc_30 {V : V_T} {b x nw kp rd al m w im o cb tp Ln i : Nat} {xs : Nat → Int32} {T N : Nat → Nat} {I : IT} {L : LT} {R : RT} {A B : Nat → Prop} {ck sk : Nat} (C : Cl 40 q_law 601024 7293033 law_Po V) (S : SB V) (hL : LSc V b Ln xs) (E : LX T N R A B x nw kp rd al m w im o cb tp) (hi : i + 6 ≤ Ln) (hLn : Ln ≤ 3072) (hLI : LI T R A m I) (hRL : RY R x nw kp rd cb m w im tp I) (hck : ck + 3 ≤ 601024) (hsk : sk + 18 ≤ 7293033) (K : ∀ (lv : List (Nat × Value)) (I9 : IT) (L9 : LT) (ck9 sk9 : Nat), LI T R A m I9 → RY R x nw kp rd cb m w im tp I9 → ck9 ≤ ck + 3 → sk9 ≤ sk + 18 → (∀ z ∈ ([(4, .int (Int32.ofNat i)), (3, .ref o), (2, .ref m), (1, .ref x), (0, .ref b)] : List (Nat × Value)), z ∈ lv) → V 1899 lv [] (T, N, I9, L9, R) ck9 sk9) : V 1378 [(4, .int (Int32.ofNat i)), (3, .ref o), (2, .ref m), (1, .ref x), (0, .ref b)] [] (T, N, I, L, R) ck sk := by
  obtain ⟨H_x, H_m, ⟨T_o, N_o, A_o⟩, nAB, Rnw, Rkp, Rrd, hnk, Ral, Ras, Rw, Rim⟩ := id E.1
  have T_x := H_x.1
  have T_m := H_m.1
  have hB := True.intro
  refine k_aload_n C rfl rfl rfl ?_
  refine k_aload_n C rfl rfl rfl ?_
  refine k_iload C rfl rfl rfl ?_
  refine k_iconst C (x := 1) rfl rfl rfl ?_
  refine k_iadd C rfl rfl ?_
  refine hL.1 _ _ _ _ _ _ _ rfl (vsk hi hLn (c := 1) (by decide)) ?_
  refine k_aload_n C rfl rfl rfl ?_
  refine k_iload C rfl rfl rfl ?_
  refine k_iconst C (x := 2) rfl rfl rfl ?_
  refine k_iadd C rfl rfl ?_
  refine hL.1 _ _ _ _ _ _ _ rfl (vsk hi hLn (c := 2) (by decide)) ?_
  refine k_aload_n C rfl rfl rfl ?_
  refine c_SI C (u_L_same BS.sub hLI.1 E.h T_o N_o) rfl rfl rfl rfl rfl rfl rfl (by omega) (by omega) (Nat.le_of_ble_eq_true rfl) ?_
  rintro x3 I1 L2 ⟨h1, c1⟩
  have h4 := HL.c E hLI h1 c1 (fun a q => q.1)
  have h5 := RY.q E hLI hRL c1 (by decide) (by decide) (by decide) (by decide)
  clear h1 c1
  refine k_istore C (lw := [(5, .int _), (4, .int _), (3, _), (2, _), (1, _), (0, _)]) rfl rfl (Nat.le_of_ble_eq_true rfl) rfl ?_
  refine k_aload_n C rfl rfl rfl ?_
  refine k_aload_n C rfl rfl rfl ?_
  refine k_iload C rfl rfl rfl ?_
  refine k_iconst C (x := 1) rfl rfl rfl ?_
  refine k_iadd C rfl rfl ?_
  refine hL.1 _ _ _ _ _ _ _ rfl (vsk hi hLn (c := 1) (by decide)) ?_
  refine k_aload_n C rfl rfl rfl ?_
  refine k_iload C rfl rfl rfl ?_
  refine k_iconst C (x := 2) rfl rfl rfl ?_
  refine k_iadd C rfl rfl ?_
  refine hL.1 _ _ _ _ _ _ _ rfl (vsk hi hLn (c := 2) (by decide)) ?_
  refine c_VI C (a_X12_same h4.2.1 H_m) rfl rfl rfl rfl rfl ⟨_, rfl, rfl, H_m.1, Nat.le_of_ble_eq_true rfl⟩ rfl rfl (by omega) (by omega) (Nat.le_of_ble_eq_true rfl) ?_
  rintro x9 I6 L7 ⟨hM9, cm⟩
  have h8 := LI.ref0 h4 H_m nAB hM9 cm (by decide) (by decide) (by decide)
  have h10 := RY.r0 E h4 h5 cm (by decide) (by decide) (by decide) (by decide) (by decide)
  refine k_istore C (lw := [(6, .int _), (5, .int _), (4, .int _), (3, _), (2, _), (1, _), (0, _)]) rfl rfl (Nat.le_of_ble_eq_true rfl) rfl ?_
  refine k_goto C (pc2 := 1899) rfl rfl ?_
  exact K _ _ _ _ _ h8 h10 (by omega) (by omega) (List.forall_mem_cons.mpr ⟨List.mem_of_getElem? (i := 2) rfl, List.forall_mem_cons.mpr ⟨List.mem_of_getElem? (i := 3) rfl, List.forall_mem_cons.mpr ⟨List.mem_of_getElem? (i := 4) rfl, List.forall_mem_cons.mpr ⟨List.mem_of_getElem? (i := 5) rfl, List.forall_mem_cons.mpr ⟨List.mem_of_getElem? (i := 6) rfl, fun _ h => nomatch h⟩⟩⟩⟩⟩)

set_option maxRecDepth 100000 in
set_option maxHeartbeats 4000000 in
theorem lc_31 {V : V_T} {b x nw kp rd al m w im o cb tp Ln i : Nat} {xs : Nat → Int32} {T N : Nat → Nat} {I : IT} {L : LT} {R : RT} {A B : Nat → Prop} {ck sk : Nat} (C : Cl 40 q_law 601024 7293033 law_Po V) (S : SB V) (hL : LSc V b Ln xs) (E : LX T N R A B x nw kp rd al m w im o cb tp) (hi : i + 6 ≤ Ln) (hLn : Ln ≤ 3072) (hLI : LI T R A m I) (hRL : RY R x nw kp rd cb m w im tp I) (hck : ck + 3 ≤ 601024) (hsk : sk + 18 ≤ 7293033) (K : ∀ (lv : List (Nat × Value)) (I9 : IT) (L9 : LT) (ck9 sk9 : Nat), LI T R A m I9 → RY R x nw kp rd cb m w im tp I9 → ck9 ≤ ck + 3 → sk9 ≤ sk + 18 → (∀ z ∈ ([(4, .int (Int32.ofNat i)), (3, .ref o), (2, .ref m), (1, .ref x), (0, .ref b)] : List (Nat × Value)), z ∈ lv) → V 1899 lv [] (T, N, I9, L9, R) ck9 sk9) : V 1418 [(4, .int (Int32.ofNat i)), (3, .ref o), (2, .ref m), (1, .ref x), (0, .ref b)] [] (T, N, I, L, R) ck sk := by
  obtain ⟨H_x, H_m, ⟨T_o, N_o, A_o⟩, nAB, Rnw, Rkp, Rrd, hnk, Ral, Ras, Rw, Rim⟩ := id E.1
  have T_x := H_x.1
  have T_m := H_m.1
  have hB := True.intro
  refine k_aload_n C rfl rfl rfl ?_
  refine k_aload_n C rfl rfl rfl ?_
  refine k_iload C rfl rfl rfl ?_
  refine k_iconst C (x := 1) rfl rfl rfl ?_
  refine k_iadd C rfl rfl ?_
  refine hL.1 _ _ _ _ _ _ _ rfl (vsk hi hLn (c := 1) (by decide)) ?_
  refine k_aload_n C rfl rfl rfl ?_
  refine c_SI C (u_L_keep BS.sub hLI.1 E.h T_o N_o) rfl rfl rfl rfl rfl rfl rfl (by omega) (by omega) (Nat.le_of_ble_eq_true rfl) ?_
  rintro x3 I1 L2 ⟨h1, c1⟩
  have h4 := HL.c E hLI h1 c1 (fun a q => q.1)
  have h5 := RY.q E hLI hRL c1 (by decide) (by decide) (by decide) (by decide)
  clear h1 c1
  refine k_istore C (lw := [(5, .int _), (4, .int _), (3, _), (2, _), (1, _), (0, _)]) rfl rfl (Nat.le_of_ble_eq_true rfl) rfl ?_
  refine k_aload_n C rfl rfl rfl ?_
  refine k_aload_n C rfl rfl rfl ?_
  refine k_iload C rfl rfl rfl ?_
  refine k_iconst C (x := 1) rfl rfl rfl ?_
  refine k_iadd C rfl rfl ?_
  refine hL.1 _ _ _ _ _ _ _ rfl (vsk hi hLn (c := 1) (by decide)) ?_
  refine c_VI C (a_X12_keep h4.2.1 H_m) rfl rfl rfl rfl rfl ⟨_, rfl, rfl, H_m.1, Nat.le_of_ble_eq_true rfl⟩ rfl rfl (by omega) (by omega) (Nat.le_of_ble_eq_true rfl) ?_
  rintro x9 I6 L7 ⟨hM9, cm⟩
  have h8 := LI.ref0 h4 H_m nAB hM9 cm (by decide) (by decide) (by decide)
  have h10 := RY.r0 E h4 h5 cm (by decide) (by decide) (by decide) (by decide) (by decide)
  refine k_istore C (lw := [(6, .int _), (5, .int _), (4, .int _), (3, _), (2, _), (1, _), (0, _)]) rfl rfl (Nat.le_of_ble_eq_true rfl) rfl ?_
  refine k_goto C (pc2 := 1899) rfl rfl ?_
  exact K _ _ _ _ _ h8 h10 (by omega) (by omega) (List.forall_mem_cons.mpr ⟨List.mem_of_getElem? (i := 2) rfl, List.forall_mem_cons.mpr ⟨List.mem_of_getElem? (i := 3) rfl, List.forall_mem_cons.mpr ⟨List.mem_of_getElem? (i := 4) rfl, List.forall_mem_cons.mpr ⟨List.mem_of_getElem? (i := 5) rfl, List.forall_mem_cons.mpr ⟨List.mem_of_getElem? (i := 6) rfl, fun _ h => nomatch h⟩⟩⟩⟩⟩)

set_option maxRecDepth 100000 in
set_option maxHeartbeats 4000000 in
theorem lc_32 {V : V_T} {b x nw kp rd al m w im o cb tp Ln i : Nat} {xs : Nat → Int32} {T N : Nat → Nat} {I : IT} {L : LT} {R : RT} {A B : Nat → Prop} {ck sk : Nat} (C : Cl 40 q_law 601024 7293033 law_Po V) (S : SB V) (hL : LSc V b Ln xs) (E : LX T N R A B x nw kp rd al m w im o cb tp) (hi : i + 6 ≤ Ln) (hLn : Ln ≤ 3072) (hLI : LI T R A m I) (hRL : RY R x nw kp rd cb m w im tp I) (hck : ck + 3 ≤ 601024) (hsk : sk + 18 ≤ 7293033) (K : ∀ (lv : List (Nat × Value)) (I9 : IT) (L9 : LT) (ck9 sk9 : Nat), LI T R A m I9 → RY R x nw kp rd cb m w im tp I9 → ck9 ≤ ck + 3 → sk9 ≤ sk + 18 → (∀ z ∈ ([(4, .int (Int32.ofNat i)), (3, .ref o), (2, .ref m), (1, .ref x), (0, .ref b)] : List (Nat × Value)), z ∈ lv) → V 1899 lv [] (T, N, I9, L9, R) ck9 sk9) : V 1446 [(4, .int (Int32.ofNat i)), (3, .ref o), (2, .ref m), (1, .ref x), (0, .ref b)] [] (T, N, I, L, R) ck sk := by
  obtain ⟨H_x, H_m, ⟨T_o, N_o, A_o⟩, nAB, Rnw, Rkp, Rrd, hnk, Ral, Ras, Rw, Rim⟩ := id E.1
  have T_x := H_x.1
  have T_m := H_m.1
  have hB := True.intro
  refine k_aload_n C rfl rfl rfl ?_
  refine k_aload_n C rfl rfl rfl ?_
  refine k_iload C rfl rfl rfl ?_
  refine k_iconst C (x := 1) rfl rfl rfl ?_
  refine k_iadd C rfl rfl ?_
  refine hL.1 _ _ _ _ _ _ _ rfl (vsk hi hLn (c := 1) (by decide)) ?_
  refine k_aload_n C rfl rfl rfl ?_
  refine k_iload C rfl rfl rfl ?_
  refine k_iconst C (x := 2) rfl rfl rfl ?_
  refine k_iadd C rfl rfl ?_
  refine hL.1 _ _ _ _ _ _ _ rfl (vsk hi hLn (c := 2) (by decide)) ?_
  refine k_aload_n C rfl rfl rfl ?_
  refine c_SI C (u_L_powers BS.sub hLI.1 E.h T_o N_o) rfl rfl rfl rfl rfl rfl rfl (by omega) (by omega) (Nat.le_of_ble_eq_true rfl) ?_
  rintro x3 I1 L2 ⟨h1, c1⟩
  have h4 := HL.c E hLI h1 c1 (fun a q => q.1)
  have h5 := RY.q E hLI hRL c1 (by decide) (by decide) (by decide) (by decide)
  clear h1 c1
  refine k_istore C (lw := [(5, .int _), (4, .int _), (3, _), (2, _), (1, _), (0, _)]) rfl rfl (Nat.le_of_ble_eq_true rfl) rfl ?_
  refine k_aload_n C rfl rfl rfl ?_
  refine k_aload_n C rfl rfl rfl ?_
  refine k_iload C rfl rfl rfl ?_
  refine k_iconst C (x := 1) rfl rfl rfl ?_
  refine k_iadd C rfl rfl ?_
  refine hL.1 _ _ _ _ _ _ _ rfl (vsk hi hLn (c := 1) (by decide)) ?_
  refine k_aload_n C rfl rfl rfl ?_
  refine k_iload C rfl rfl rfl ?_
  refine k_iconst C (x := 2) rfl rfl rfl ?_
  refine k_iadd C rfl rfl ?_
  refine hL.1 _ _ _ _ _ _ _ rfl (vsk hi hLn (c := 2) (by decide)) ?_
  refine c_VI C (a_X12_powers h4.2.1 H_m) rfl rfl rfl rfl rfl ⟨_, rfl, rfl, H_m.1, Nat.le_of_ble_eq_true rfl⟩ rfl rfl (by omega) (by omega) (Nat.le_of_ble_eq_true rfl) ?_
  rintro x9 I6 L7 ⟨hM9, cm⟩
  have h8 := LI.ref0 h4 H_m nAB hM9 cm (by decide) (by decide) (by decide)
  have h10 := RY.r0 E h4 h5 cm (by decide) (by decide) (by decide) (by decide) (by decide)
  refine k_istore C (lw := [(6, .int _), (5, .int _), (4, .int _), (3, _), (2, _), (1, _), (0, _)]) rfl rfl (Nat.le_of_ble_eq_true rfl) rfl ?_
  refine k_goto C (pc2 := 1899) rfl rfl ?_
  exact K _ _ _ _ _ h8 h10 (by omega) (by omega) (List.forall_mem_cons.mpr ⟨List.mem_of_getElem? (i := 2) rfl, List.forall_mem_cons.mpr ⟨List.mem_of_getElem? (i := 3) rfl, List.forall_mem_cons.mpr ⟨List.mem_of_getElem? (i := 4) rfl, List.forall_mem_cons.mpr ⟨List.mem_of_getElem? (i := 5) rfl, List.forall_mem_cons.mpr ⟨List.mem_of_getElem? (i := 6) rfl, fun _ h => nomatch h⟩⟩⟩⟩⟩)

set_option maxRecDepth 100000 in
set_option maxHeartbeats 4000000 in
theorem lc_33 {V : V_T} {b x nw kp rd al m w im o cb tp Ln i : Nat} {xs : Nat → Int32} {T N : Nat → Nat} {I : IT} {L : LT} {R : RT} {A B : Nat → Prop} {ck sk : Nat} (C : Cl 40 q_law 601024 7293033 law_Po V) (S : SB V) (hL : LSc V b Ln xs) (E : LX T N R A B x nw kp rd al m w im o cb tp) (hi : i + 6 ≤ Ln) (hLn : Ln ≤ 3072) (hLI : LI T R A m I) (hRL : RY R x nw kp rd cb m w im tp I) (hck : ck + 3 ≤ 601024) (hsk : sk + 18 ≤ 7293033) (K : ∀ (lv : List (Nat × Value)) (I9 : IT) (L9 : LT) (ck9 sk9 : Nat), LI T R A m I9 → RY R x nw kp rd cb m w im tp I9 → ck9 ≤ ck + 3 → sk9 ≤ sk + 18 → (∀ z ∈ ([(4, .int (Int32.ofNat i)), (3, .ref o), (2, .ref m), (1, .ref x), (0, .ref b)] : List (Nat × Value)), z ∈ lv) → V 1899 lv [] (T, N, I9, L9, R) ck9 sk9) : V 1486 [(4, .int (Int32.ofNat i)), (3, .ref o), (2, .ref m), (1, .ref x), (0, .ref b)] [] (T, N, I, L, R) ck sk := by
  obtain ⟨H_x, H_m, ⟨T_o, N_o, A_o⟩, nAB, Rnw, Rkp, Rrd, hnk, Ral, Ras, Rw, Rim⟩ := id E.1
  have T_x := H_x.1
  have T_m := H_m.1
  have hB := True.intro
  refine k_aload_n C rfl rfl rfl ?_
  refine k_aload_n C rfl rfl rfl ?_
  refine k_iload C rfl rfl rfl ?_
  refine k_iconst C (x := 1) rfl rfl rfl ?_
  refine k_iadd C rfl rfl ?_
  refine hL.1 _ _ _ _ _ _ _ rfl (vsk hi hLn (c := 1) (by decide)) ?_
  refine k_aload_n C rfl rfl rfl ?_
  refine k_iload C rfl rfl rfl ?_
  refine k_iconst C (x := 2) rfl rfl rfl ?_
  refine k_iadd C rfl rfl ?_
  refine hL.1 _ _ _ _ _ _ _ rfl (vsk hi hLn (c := 2) (by decide)) ?_
  refine k_aload_n C rfl rfl rfl ?_
  refine k_iload C rfl rfl rfl ?_
  refine k_iconst C (x := 3) rfl rfl rfl ?_
  refine k_iadd C rfl rfl ?_
  refine hL.1 _ _ _ _ _ _ _ rfl (vsk hi hLn (c := 3) (by decide)) ?_
  refine k_aload_n C rfl rfl rfl ?_
  refine c_SI C (u_L_common BS.sub hLI.1 E.h T_o N_o) rfl rfl rfl rfl rfl rfl rfl (by omega) (by omega) (Nat.le_of_ble_eq_true rfl) ?_
  rintro x3 I1 L2 ⟨h1, c1⟩
  have h4 := HL.c E hLI h1 c1 (fun a q => q.1)
  have h5 := RY.q E hLI hRL c1 (by decide) (by decide) (by decide) (by decide)
  clear h1 c1
  refine k_istore C (lw := [(5, .int _), (4, .int _), (3, _), (2, _), (1, _), (0, _)]) rfl rfl (Nat.le_of_ble_eq_true rfl) rfl ?_
  refine k_aload_n C rfl rfl rfl ?_
  refine k_aload_n C rfl rfl rfl ?_
  refine k_iload C rfl rfl rfl ?_
  refine k_iconst C (x := 1) rfl rfl rfl ?_
  refine k_iadd C rfl rfl ?_
  refine hL.1 _ _ _ _ _ _ _ rfl (vsk hi hLn (c := 1) (by decide)) ?_
  refine k_aload_n C rfl rfl rfl ?_
  refine k_iload C rfl rfl rfl ?_
  refine k_iconst C (x := 2) rfl rfl rfl ?_
  refine k_iadd C rfl rfl ?_
  refine hL.1 _ _ _ _ _ _ _ rfl (vsk hi hLn (c := 2) (by decide)) ?_
  refine k_aload_n C rfl rfl rfl ?_
  refine k_iload C rfl rfl rfl ?_
  refine k_iconst C (x := 3) rfl rfl rfl ?_
  refine k_iadd C rfl rfl ?_
  refine hL.1 _ _ _ _ _ _ _ rfl (vsk hi hLn (c := 3) (by decide)) ?_
  refine c_VI C (a_X12_common h4.2.1 H_m) rfl rfl rfl rfl rfl ⟨_, rfl, rfl, H_m.1, Nat.le_of_ble_eq_true rfl⟩ rfl rfl (by omega) (by omega) (Nat.le_of_ble_eq_true rfl) ?_
  rintro x9 I6 L7 ⟨p0, p1, hM9, cm⟩
  have h8 := LI.ref0 h4 H_m nAB hM9 cm (by decide) (by decide) (by decide)
  have h10 := RY.r0 E h4 h5 cm (by decide) (by decide) (by decide) (by decide) (by decide)
  refine k_istore C (lw := [(6, .int _), (5, .int _), (4, .int _), (3, _), (2, _), (1, _), (0, _)]) rfl rfl (Nat.le_of_ble_eq_true rfl) rfl ?_
  refine k_goto C (pc2 := 1899) rfl rfl ?_
  exact K _ _ _ _ _ h8 h10 (by omega) (by omega) (List.forall_mem_cons.mpr ⟨List.mem_of_getElem? (i := 2) rfl, List.forall_mem_cons.mpr ⟨List.mem_of_getElem? (i := 3) rfl, List.forall_mem_cons.mpr ⟨List.mem_of_getElem? (i := 4) rfl, List.forall_mem_cons.mpr ⟨List.mem_of_getElem? (i := 5) rfl, List.forall_mem_cons.mpr ⟨List.mem_of_getElem? (i := 6) rfl, fun _ h => nomatch h⟩⟩⟩⟩⟩)

set_option maxRecDepth 100000 in
set_option maxHeartbeats 4000000 in
theorem lc_34 {V : V_T} {b x nw kp rd al m w im o cb tp Ln i : Nat} {xs : Nat → Int32} {T N : Nat → Nat} {I : IT} {L : LT} {R : RT} {A B : Nat → Prop} {ck sk : Nat} (C : Cl 40 q_law 601024 7293033 law_Po V) (S : SB V) (hL : LSc V b Ln xs) (E : LX T N R A B x nw kp rd al m w im o cb tp) (hi : i + 6 ≤ Ln) (hLn : Ln ≤ 3072) (hLI : LI T R A m I) (hRL : RY R x nw kp rd cb m w im tp I) (hck : ck + 3 ≤ 601024) (hsk : sk + 18 ≤ 7293033) (K : ∀ (lv : List (Nat × Value)) (I9 : IT) (L9 : LT) (ck9 sk9 : Nat), LI T R A m I9 → RY R x nw kp rd cb m w im tp I9 → ck9 ≤ ck + 3 → sk9 ≤ sk + 18 → (∀ z ∈ ([(4, .int (Int32.ofNat i)), (3, .ref o), (2, .ref m), (1, .ref x), (0, .ref b)] : List (Nat × Value)), z ∈ lv) → V 1899 lv [] (T, N, I9, L9, R) ck9 sk9) : V 1538 [(4, .int (Int32.ofNat i)), (3, .ref o), (2, .ref m), (1, .ref x), (0, .ref b)] [] (T, N, I, L, R) ck sk := by
  obtain ⟨H_x, H_m, ⟨T_o, N_o, A_o⟩, nAB, Rnw, Rkp, Rrd, hnk, Ral, Ras, Rw, Rim⟩ := id E.1
  have T_x := H_x.1
  have T_m := H_m.1
  have hB := True.intro
  refine k_aload_n C rfl rfl rfl ?_
  refine k_aload_n C rfl rfl rfl ?_
  refine k_iload C rfl rfl rfl ?_
  refine k_iconst C (x := 1) rfl rfl rfl ?_
  refine k_iadd C rfl rfl ?_
  refine hL.1 _ _ _ _ _ _ _ rfl (vsk hi hLn (c := 1) (by decide)) ?_
  refine k_aload_n C rfl rfl rfl ?_
  refine k_iload C rfl rfl rfl ?_
  refine k_iconst C (x := 2) rfl rfl rfl ?_
  refine k_iadd C rfl rfl ?_
  refine hL.1 _ _ _ _ _ _ _ rfl (vsk hi hLn (c := 2) (by decide)) ?_
  refine k_aload_n C rfl rfl rfl ?_
  refine k_iload C rfl rfl rfl ?_
  refine k_iconst C (x := 3) rfl rfl rfl ?_
  refine k_iadd C rfl rfl ?_
  refine hL.1 _ _ _ _ _ _ _ rfl (vsk hi hLn (c := 3) (by decide)) ?_
  refine k_aload_n C rfl rfl rfl ?_
  refine k_iload C rfl rfl rfl ?_
  refine k_iconst C (x := 4) rfl rfl rfl ?_
  refine k_iadd C rfl rfl ?_
  refine hL.1 _ _ _ _ _ _ _ rfl (vsk hi hLn (c := 4) (by decide)) ?_
  refine k_aload_n C rfl rfl rfl ?_
  refine c_SI C (u_L_overlap BS.sub hLI.1 E.h T_o N_o) rfl rfl rfl rfl rfl rfl rfl (by omega) (by omega) (Nat.le_of_ble_eq_true rfl) ?_
  rintro x3 I1 L2 ⟨h1, c1⟩
  have h4 := HL.c E hLI h1 c1 (fun a q => q.1)
  have h5 := RY.q E hLI hRL c1 (by decide) (by decide) (by decide) (by decide)
  clear h1 c1
  refine k_istore C (lw := [(5, .int _), (4, .int _), (3, _), (2, _), (1, _), (0, _)]) rfl rfl (Nat.le_of_ble_eq_true rfl) rfl ?_
  refine k_aload_n C rfl rfl rfl ?_
  refine k_aload_n C rfl rfl rfl ?_
  refine k_iload C rfl rfl rfl ?_
  refine k_iconst C (x := 1) rfl rfl rfl ?_
  refine k_iadd C rfl rfl ?_
  refine hL.1 _ _ _ _ _ _ _ rfl (vsk hi hLn (c := 1) (by decide)) ?_
  refine k_aload_n C rfl rfl rfl ?_
  refine k_iload C rfl rfl rfl ?_
  refine k_iconst C (x := 2) rfl rfl rfl ?_
  refine k_iadd C rfl rfl ?_
  refine hL.1 _ _ _ _ _ _ _ rfl (vsk hi hLn (c := 2) (by decide)) ?_
  refine k_aload_n C rfl rfl rfl ?_
  refine k_iload C rfl rfl rfl ?_
  refine k_iconst C (x := 3) rfl rfl rfl ?_
  refine k_iadd C rfl rfl ?_
  refine hL.1 _ _ _ _ _ _ _ rfl (vsk hi hLn (c := 3) (by decide)) ?_
  refine k_aload_n C rfl rfl rfl ?_
  refine k_iload C rfl rfl rfl ?_
  refine k_iconst C (x := 4) rfl rfl rfl ?_
  refine k_iadd C rfl rfl ?_
  refine hL.1 _ _ _ _ _ _ _ rfl (vsk hi hLn (c := 4) (by decide)) ?_
  refine c_VI C (a_X12_overlap h4.2.1 H_m) rfl rfl rfl rfl rfl ⟨_, rfl, rfl, H_m.1, Nat.le_of_ble_eq_true rfl⟩ rfl rfl (by omega) (by omega) (Nat.le_of_ble_eq_true rfl) ?_
  rintro x9 I6 L7 ⟨p0, p1, hM9, cm⟩
  have h8 := LI.ref0 h4 H_m nAB hM9 cm (by decide) (by decide) (by decide)
  have h10 := RY.r0 E h4 h5 cm (by decide) (by decide) (by decide) (by decide) (by decide)
  refine k_istore C (lw := [(6, .int _), (5, .int _), (4, .int _), (3, _), (2, _), (1, _), (0, _)]) rfl rfl (Nat.le_of_ble_eq_true rfl) rfl ?_
  refine k_goto C (pc2 := 1899) rfl rfl ?_
  exact K _ _ _ _ _ h8 h10 (by omega) (by omega) (List.forall_mem_cons.mpr ⟨List.mem_of_getElem? (i := 2) rfl, List.forall_mem_cons.mpr ⟨List.mem_of_getElem? (i := 3) rfl, List.forall_mem_cons.mpr ⟨List.mem_of_getElem? (i := 4) rfl, List.forall_mem_cons.mpr ⟨List.mem_of_getElem? (i := 5) rfl, List.forall_mem_cons.mpr ⟨List.mem_of_getElem? (i := 6) rfl, fun _ h => nomatch h⟩⟩⟩⟩⟩)

set_option maxRecDepth 100000 in
set_option maxHeartbeats 4000000 in
theorem lc_35 {V : V_T} {b x nw kp rd al m w im o cb tp Ln i : Nat} {xs : Nat → Int32} {T N : Nat → Nat} {I : IT} {L : LT} {R : RT} {A B : Nat → Prop} {ck sk : Nat} (C : Cl 40 q_law 601024 7293033 law_Po V) (S : SB V) (hL : LSc V b Ln xs) (E : LX T N R A B x nw kp rd al m w im o cb tp) (hi : i + 6 ≤ Ln) (hLn : Ln ≤ 3072) (hLI : LI T R A m I) (hRL : RY R x nw kp rd cb m w im tp I) (hck : ck + 3 ≤ 601024) (hsk : sk + 18 ≤ 7293033) (K : ∀ (lv : List (Nat × Value)) (I9 : IT) (L9 : LT) (ck9 sk9 : Nat), LI T R A m I9 → RY R x nw kp rd cb m w im tp I9 → ck9 ≤ ck + 3 → sk9 ≤ sk + 18 → (∀ z ∈ ([(4, .int (Int32.ofNat i)), (3, .ref o), (2, .ref m), (1, .ref x), (0, .ref b)] : List (Nat × Value)), z ∈ lv) → V 1899 lv [] (T, N, I9, L9, R) ck9 sk9) : V 1602 [(4, .int (Int32.ofNat i)), (3, .ref o), (2, .ref m), (1, .ref x), (0, .ref b)] [] (T, N, I, L, R) ck sk := by
  obtain ⟨H_x, H_m, ⟨T_o, N_o, A_o⟩, nAB, Rnw, Rkp, Rrd, hnk, Ral, Ras, Rw, Rim⟩ := id E.1
  have T_x := H_x.1
  have T_m := H_m.1
  have hB := True.intro
  refine k_aload_n C rfl rfl rfl ?_
  refine k_aload_n C rfl rfl rfl ?_
  refine k_iload C rfl rfl rfl ?_
  refine k_iconst C (x := 1) rfl rfl rfl ?_
  refine k_iadd C rfl rfl ?_
  refine hL.1 _ _ _ _ _ _ _ rfl (vsk hi hLn (c := 1) (by decide)) ?_
  refine k_aload_n C rfl rfl rfl ?_
  refine k_iload C rfl rfl rfl ?_
  refine k_iconst C (x := 2) rfl rfl rfl ?_
  refine k_iadd C rfl rfl ?_
  refine hL.1 _ _ _ _ _ _ _ rfl (vsk hi hLn (c := 2) (by decide)) ?_
  refine k_aload_n C rfl rfl rfl ?_
  refine k_iload C rfl rfl rfl ?_
  refine k_iconst C (x := 3) rfl rfl rfl ?_
  refine k_iadd C rfl rfl ?_
  refine hL.1 _ _ _ _ _ _ _ rfl (vsk hi hLn (c := 3) (by decide)) ?_
  refine k_aload_n C rfl rfl rfl ?_
  refine k_iload C rfl rfl rfl ?_
  refine k_iconst C (x := 4) rfl rfl rfl ?_
  refine k_iadd C rfl rfl ?_
  refine hL.1 _ _ _ _ _ _ _ rfl (vsk hi hLn (c := 4) (by decide)) ?_
  refine k_aload_n C rfl rfl rfl ?_
  have hB := True.intro
  have T_x := H_x.1
  have T_m := H_m.1
  obtain ⟨wh, R_x_10, T_wh, A_wh⟩ := LF.wh H_x
  obtain ⟨wl, R_m_34, T_wl, N_wl, B_wl⟩ := MD.wl H_m
  have hA : ∀ a, (a = wh ∨ a = o) → A a ∧ (T a = 11 ∨ T a = 21) := by (rintro a (rfl | rfl)); exact ⟨A_wh, Or.inl T_wh⟩; exact ⟨A_o, Or.inr T_o⟩
  by_cases hok : okRed (xs (Int32.ofNat i + 1).toNatClampNeg) (xs (Int32.ofNat i + 2).toNatClampNeg) (xs (Int32.ofNat i + 3).toNatClampNeg)
  · skip
    by_cases hn : 0 ≤ (xs (Int32.ofNat i + 4).toNatClampNeg).toInt ∧ (xs (Int32.ofNat i + 4).toNatClampNeg).toInt ≤ 8
    · skip
      refine c_SI C (e_L_reduced_yes (A := fun a => a = wh ∨ a = o) T_x R_x_10 T_wh (Or.inl rfl) T_o N_o (Or.inr rfl) hok hn) rfl rfl rfl rfl rfl rfl rfl (by omega) (by omega) (Nat.le_of_ble_eq_true rfl) ?_
      rintro x4 I1 L2 ⟨rfl, f1, v1⟩
      have h3 := LI.cfr hLI H_m nAB hA f1
      have h5 := RY.cf E hLI hRL hA f1
      refine k_istore C (lw := [(5, .int _), (4, .int _), (3, _), (2, _), (1, _), (0, _)]) rfl rfl (Nat.le_of_ble_eq_true rfl) rfl ?_
      refine k_aload_n C rfl rfl rfl ?_
      refine k_aload_n C rfl rfl rfl ?_
      refine k_iload C rfl rfl rfl ?_
      refine k_iconst C (x := 1) rfl rfl rfl ?_
      refine k_iadd C rfl rfl ?_
      refine hL.1 _ _ _ _ _ _ _ rfl (vsk hi hLn (c := 1) (by decide)) ?_
      refine k_aload_n C rfl rfl rfl ?_
      refine k_iload C rfl rfl rfl ?_
      refine k_iconst C (x := 2) rfl rfl rfl ?_
      refine k_iadd C rfl rfl ?_
      refine hL.1 _ _ _ _ _ _ _ rfl (vsk hi hLn (c := 2) (by decide)) ?_
      refine k_aload_n C rfl rfl rfl ?_
      refine k_iload C rfl rfl rfl ?_
      refine k_iconst C (x := 3) rfl rfl rfl ?_
      refine k_iadd C rfl rfl ?_
      refine hL.1 _ _ _ _ _ _ _ rfl (vsk hi hLn (c := 3) (by decide)) ?_
      refine k_aload_n C rfl rfl rfl ?_
      refine k_iload C rfl rfl rfl ?_
      refine k_iconst C (x := 4) rfl rfl rfl ?_
      refine k_iadd C rfl rfl ?_
      refine hL.1 _ _ _ _ _ _ _ rfl (vsk hi hLn (c := 4) (by decide)) ?_
      refine c_VL C (e_m_reduced_yes (A := fun a => a = m ∨ R m 21 = some a ∨ R m 34 = some a) T_m (Or.inl rfl) R_m_34 T_wl N_wl (Or.inr (Or.inr R_m_34)) hok hn) rfl rfl rfl rfl rfl ⟨_, rfl, rfl, H_m.1, Nat.le_of_ble_eq_true rfl⟩ rfl rfl (by omega) (by omega) (Nat.le_of_ble_eq_true rfl) ?_
      rintro x10 I6 L7 ⟨rfl, f2, z2, k2⟩
      have h8 := LI.rfr h3 H_m nAB hB f2 k2
      have h9 := RY.rf E h3 h5 f2 k2
      refine k_lstore C (lw := [(6, .long _), (5, .int _), (4, .int _), (3, _), (2, _), (1, _), (0, _)]) rfl rfl (Nat.le_of_ble_eq_true rfl) rfl ?_
      refine k_goto C (pc2 := 1899) rfl rfl ?_
      exact K _ _ _ _ _ h8 h9 (by omega) (by omega) (List.forall_mem_cons.mpr ⟨List.mem_of_getElem? (i := 2) rfl, List.forall_mem_cons.mpr ⟨List.mem_of_getElem? (i := 3) rfl, List.forall_mem_cons.mpr ⟨List.mem_of_getElem? (i := 4) rfl, List.forall_mem_cons.mpr ⟨List.mem_of_getElem? (i := 5) rfl, List.forall_mem_cons.mpr ⟨List.mem_of_getElem? (i := 6) rfl, fun _ h => nomatch h⟩⟩⟩⟩⟩)
    · skip
      refine c_SI C (e_L_reduced_nse T_x hok hn) rfl rfl rfl rfl rfl rfl rfl (by omega) (by omega) (Nat.le_of_ble_eq_true rfl) ?_
      rintro x14 I11 L12 ⟨rfl, hI8, hL9⟩
      have hI8 := hI8.symm; subst hI8; have hL9 := hL9.symm; subst hL9
      refine k_istore C (lw := [(5, .int _), (4, .int _), (3, _), (2, _), (1, _), (0, _)]) rfl rfl (Nat.le_of_ble_eq_true rfl) rfl ?_
      refine k_aload_n C rfl rfl rfl ?_
      refine k_aload_n C rfl rfl rfl ?_
      refine k_iload C rfl rfl rfl ?_
      refine k_iconst C (x := 1) rfl rfl rfl ?_
      refine k_iadd C rfl rfl ?_
      refine hL.1 _ _ _ _ _ _ _ rfl (vsk hi hLn (c := 1) (by decide)) ?_
      refine k_aload_n C rfl rfl rfl ?_
      refine k_iload C rfl rfl rfl ?_
      refine k_iconst C (x := 2) rfl rfl rfl ?_
      refine k_iadd C rfl rfl ?_
      refine hL.1 _ _ _ _ _ _ _ rfl (vsk hi hLn (c := 2) (by decide)) ?_
      refine k_aload_n C rfl rfl rfl ?_
      refine k_iload C rfl rfl rfl ?_
      refine k_iconst C (x := 3) rfl rfl rfl ?_
      refine k_iadd C rfl rfl ?_
      refine hL.1 _ _ _ _ _ _ _ rfl (vsk hi hLn (c := 3) (by decide)) ?_
      refine k_aload_n C rfl rfl rfl ?_
      refine k_iload C rfl rfl rfl ?_
      refine k_iconst C (x := 4) rfl rfl rfl ?_
      refine k_iadd C rfl rfl ?_
      refine hL.1 _ _ _ _ _ _ _ rfl (vsk hi hLn (c := 4) (by decide)) ?_
      refine c_VL C (e_m_reduced_nse (A := fun a => a = m ∨ R m 21 = some a ∨ R m 34 = some a) T_m (Or.inl rfl) hok hn) rfl rfl rfl rfl rfl ⟨_, rfl, rfl, H_m.1, Nat.le_of_ble_eq_true rfl⟩ rfl rfl (by omega) (by omega) (Nat.le_of_ble_eq_true rfl) ?_
      rintro x19 I15 L16 ⟨f2, z2, k2⟩
      have h17 := LI.rfr hLI H_m nAB hB f2 k2
      have h18 := RY.rf E hLI hRL f2 k2
      refine k_lstore C (lw := [(6, .long _), (5, .int _), (4, .int _), (3, _), (2, _), (1, _), (0, _)]) rfl rfl (Nat.le_of_ble_eq_true rfl) rfl ?_
      refine k_goto C (pc2 := 1899) rfl rfl ?_
      exact K _ _ _ _ _ h17 h18 (by omega) (by omega) (List.forall_mem_cons.mpr ⟨List.mem_of_getElem? (i := 2) rfl, List.forall_mem_cons.mpr ⟨List.mem_of_getElem? (i := 3) rfl, List.forall_mem_cons.mpr ⟨List.mem_of_getElem? (i := 4) rfl, List.forall_mem_cons.mpr ⟨List.mem_of_getElem? (i := 5) rfl, List.forall_mem_cons.mpr ⟨List.mem_of_getElem? (i := 6) rfl, fun _ h => nomatch h⟩⟩⟩⟩⟩)
  · skip
    refine c_SI C (e_L_reduced_no T_x hok) rfl rfl rfl rfl rfl rfl rfl (by omega) (by omega) (Nat.le_of_ble_eq_true rfl) ?_
    rintro x23 I20 L21 ⟨rfl, hI8, hL9⟩
    have hI8 := hI8.symm; subst hI8; have hL9 := hL9.symm; subst hL9
    refine k_istore C (lw := [(5, .int _), (4, .int _), (3, _), (2, _), (1, _), (0, _)]) rfl rfl (Nat.le_of_ble_eq_true rfl) rfl ?_
    refine k_aload_n C rfl rfl rfl ?_
    refine k_aload_n C rfl rfl rfl ?_
    refine k_iload C rfl rfl rfl ?_
    refine k_iconst C (x := 1) rfl rfl rfl ?_
    refine k_iadd C rfl rfl ?_
    refine hL.1 _ _ _ _ _ _ _ rfl (vsk hi hLn (c := 1) (by decide)) ?_
    refine k_aload_n C rfl rfl rfl ?_
    refine k_iload C rfl rfl rfl ?_
    refine k_iconst C (x := 2) rfl rfl rfl ?_
    refine k_iadd C rfl rfl ?_
    refine hL.1 _ _ _ _ _ _ _ rfl (vsk hi hLn (c := 2) (by decide)) ?_
    refine k_aload_n C rfl rfl rfl ?_
    refine k_iload C rfl rfl rfl ?_
    refine k_iconst C (x := 3) rfl rfl rfl ?_
    refine k_iadd C rfl rfl ?_
    refine hL.1 _ _ _ _ _ _ _ rfl (vsk hi hLn (c := 3) (by decide)) ?_
    refine k_aload_n C rfl rfl rfl ?_
    refine k_iload C rfl rfl rfl ?_
    refine k_iconst C (x := 4) rfl rfl rfl ?_
    refine k_iadd C rfl rfl ?_
    refine hL.1 _ _ _ _ _ _ _ rfl (vsk hi hLn (c := 4) (by decide)) ?_
    refine c_VL C (e_m_reduced_no (A := fun a => a = m ∨ R m 21 = some a ∨ R m 34 = some a) T_m (Or.inl rfl) hok) rfl rfl rfl rfl rfl ⟨_, rfl, rfl, H_m.1, Nat.le_of_ble_eq_true rfl⟩ rfl rfl (by omega) (by omega) (Nat.le_of_ble_eq_true rfl) ?_
    rintro x28 I24 L25 ⟨f2, z2, k2⟩
    have h26 := LI.rfr hLI H_m nAB hB f2 k2
    have h27 := RY.rf E hLI hRL f2 k2
    refine k_lstore C (lw := [(6, .long _), (5, .int _), (4, .int _), (3, _), (2, _), (1, _), (0, _)]) rfl rfl (Nat.le_of_ble_eq_true rfl) rfl ?_
    refine k_goto C (pc2 := 1899) rfl rfl ?_
    exact K _ _ _ _ _ h26 h27 (by omega) (by omega) (List.forall_mem_cons.mpr ⟨List.mem_of_getElem? (i := 2) rfl, List.forall_mem_cons.mpr ⟨List.mem_of_getElem? (i := 3) rfl, List.forall_mem_cons.mpr ⟨List.mem_of_getElem? (i := 4) rfl, List.forall_mem_cons.mpr ⟨List.mem_of_getElem? (i := 5) rfl, List.forall_mem_cons.mpr ⟨List.mem_of_getElem? (i := 6) rfl, fun _ h => nomatch h⟩⟩⟩⟩⟩)

set_option maxRecDepth 100000 in
set_option maxHeartbeats 4000000 in
theorem lc_36 {V : V_T} {b x nw kp rd al m w im o cb tp Ln i : Nat} {xs : Nat → Int32} {T N : Nat → Nat} {I : IT} {L : LT} {R : RT} {A B : Nat → Prop} {ck sk : Nat} (C : Cl 40 q_law 601024 7293033 law_Po V) (S : SB V) (hL : LSc V b Ln xs) (E : LX T N R A B x nw kp rd al m w im o cb tp) (hi : i + 6 ≤ Ln) (hLn : Ln ≤ 3072) (hLI : LI T R A m I) (hRL : RY R x nw kp rd cb m w im tp I) (hck : ck + 3 ≤ 601024) (hsk : sk + 18 ≤ 7293033) (K : ∀ (lv : List (Nat × Value)) (I9 : IT) (L9 : LT) (ck9 sk9 : Nat), LI T R A m I9 → RY R x nw kp rd cb m w im tp I9 → ck9 ≤ ck + 3 → sk9 ≤ sk + 18 → (∀ z ∈ ([(4, .int (Int32.ofNat i)), (3, .ref o), (2, .ref m), (1, .ref x), (0, .ref b)] : List (Nat × Value)), z ∈ lv) → V 1899 lv [] (T, N, I9, L9, R) ck9 sk9) : V 1666 [(4, .int (Int32.ofNat i)), (3, .ref o), (2, .ref m), (1, .ref x), (0, .ref b)] [] (T, N, I, L, R) ck sk := by
  obtain ⟨H_x, H_m, ⟨T_o, N_o, A_o⟩, nAB, Rnw, Rkp, Rrd, hnk, Ral, Ras, Rw, Rim⟩ := id E.1
  have T_x := H_x.1
  have T_m := H_m.1
  have hB := True.intro
  refine k_aload_n C rfl rfl rfl ?_
  refine k_aload_n C rfl rfl rfl ?_
  refine k_iload C rfl rfl rfl ?_
  refine k_iconst C (x := 1) rfl rfl rfl ?_
  refine k_iadd C rfl rfl ?_
  refine hL.1 _ _ _ _ _ _ _ rfl (vsk hi hLn (c := 1) (by decide)) ?_
  refine k_aload_n C rfl rfl rfl ?_
  refine k_iload C rfl rfl rfl ?_
  refine k_iconst C (x := 2) rfl rfl rfl ?_
  refine k_iadd C rfl rfl ?_
  refine hL.1 _ _ _ _ _ _ _ rfl (vsk hi hLn (c := 2) (by decide)) ?_
  refine k_if_eq C (t := 1686) rfl rfl rfl (fun cj1 => ?_) (fun cj1 => ?_)
  · skip
    refine k_iconst C (x := 0) rfl rfl rfl ?_
    refine k_aload_n C rfl rfl rfl ?_
    have hB := True.intro
    have T_x := H_x.1
    have T_m := H_m.1
    obtain ⟨wh, R_x_10, T_wh, A_wh⟩ := LF.wh H_x
    have hA : ∀ a, (a = wh ∨ a = o) → A a ∧ (T a = 11 ∨ T a = 21) := by (rintro a (rfl | rfl)); exact ⟨A_wh, Or.inl T_wh⟩; exact ⟨A_o, Or.inr T_o⟩
    by_cases hD : isDc (xs (Int32.ofNat i + 1).toNatClampNeg)
    · skip
      refine c_SI C (e_L_classes_yes (A := fun a => a = wh ∨ a = o) T_x R_x_10 T_wh (Or.inl rfl) T_o N_o (Or.inr rfl) hD (by first | exact Or.inl rfl | exact Or.inr rfl)) rfl rfl rfl rfl rfl rfl rfl (by omega) (by omega) (Nat.le_of_ble_eq_true rfl) ?_
      rintro x5 I2 L3 ⟨rfl, f1, v1⟩
      have h4 := LI.cfr hLI H_m nAB hA f1
      have h6 := RY.cf E hLI hRL hA f1
      refine k_istore C (lw := [(5, .int _), (4, .int _), (3, _), (2, _), (1, _), (0, _)]) rfl rfl (Nat.le_of_ble_eq_true rfl) rfl ?_
      refine k_aload_n C rfl rfl rfl ?_
      refine k_aload_n C rfl rfl rfl ?_
      refine k_iload C rfl rfl rfl ?_
      refine k_iconst C (x := 1) rfl rfl rfl ?_
      refine k_iadd C rfl rfl ?_
      refine hL.1 _ _ _ _ _ _ _ rfl (vsk hi hLn (c := 1) (by decide)) ?_
      refine k_aload_n C rfl rfl rfl ?_
      refine k_iload C rfl rfl rfl ?_
      refine k_iconst C (x := 2) rfl rfl rfl ?_
      refine k_iadd C rfl rfl ?_
      refine hL.1 _ _ _ _ _ _ _ rfl (vsk hi hLn (c := 2) (by decide)) ?_
      refine k_if_eq C (t := 1713) rfl rfl rfl (fun cj7 => ?_) (fun cj7 => ?_)
      rotate_left
      · exact absurd cj1 cj7
      refine k_iconst C (x := 0) rfl rfl rfl ?_
      refine c_VI C (e_m_classes_yes (A := fun a => a = m ∨ R m 21 = some a ∨ R m 34 = some a) T_m (Or.inl rfl) hD (by first | exact Or.inl rfl | exact Or.inr rfl)) rfl rfl rfl rfl rfl ⟨_, rfl, rfl, H_m.1, Nat.le_of_ble_eq_true rfl⟩ rfl rfl (by omega) (by omega) (Nat.le_of_ble_eq_true rfl) ?_
      rintro x12 I8 L9 ⟨rfl, f2, z2, k2⟩
      have h10 := LI.rfr h4 H_m nAB hB f2 k2
      have h11 := RY.rf E h4 h6 f2 k2
      refine k_istore C (lw := [(6, .int _), (5, .int _), (4, .int _), (3, _), (2, _), (1, _), (0, _)]) rfl rfl (Nat.le_of_ble_eq_true rfl) rfl ?_
      refine k_goto C (pc2 := 1899) rfl rfl ?_
      exact K _ _ _ _ _ h10 h11 (by omega) (by omega) (List.forall_mem_cons.mpr ⟨List.mem_of_getElem? (i := 2) rfl, List.forall_mem_cons.mpr ⟨List.mem_of_getElem? (i := 3) rfl, List.forall_mem_cons.mpr ⟨List.mem_of_getElem? (i := 4) rfl, List.forall_mem_cons.mpr ⟨List.mem_of_getElem? (i := 5) rfl, List.forall_mem_cons.mpr ⟨List.mem_of_getElem? (i := 6) rfl, fun _ h => nomatch h⟩⟩⟩⟩⟩)
    · skip
      refine c_SI C (e_L_classes_no T_x hD) rfl rfl rfl rfl rfl rfl rfl (by omega) (by omega) (Nat.le_of_ble_eq_true rfl) ?_
      rintro x16 I13 L14 ⟨rfl, hI8, hL9⟩
      have hI8 := hI8.symm; subst hI8; have hL9 := hL9.symm; subst hL9
      refine k_istore C (lw := [(5, .int _), (4, .int _), (3, _), (2, _), (1, _), (0, _)]) rfl rfl (Nat.le_of_ble_eq_true rfl) rfl ?_
      refine k_aload_n C rfl rfl rfl ?_
      refine k_aload_n C rfl rfl rfl ?_
      refine k_iload C rfl rfl rfl ?_
      refine k_iconst C (x := 1) rfl rfl rfl ?_
      refine k_iadd C rfl rfl ?_
      refine hL.1 _ _ _ _ _ _ _ rfl (vsk hi hLn (c := 1) (by decide)) ?_
      refine k_aload_n C rfl rfl rfl ?_
      refine k_iload C rfl rfl rfl ?_
      refine k_iconst C (x := 2) rfl rfl rfl ?_
      refine k_iadd C rfl rfl ?_
      refine hL.1 _ _ _ _ _ _ _ rfl (vsk hi hLn (c := 2) (by decide)) ?_
      refine k_if_eq C (t := 1713) rfl rfl rfl (fun cj17 => ?_) (fun cj17 => ?_)
      rotate_left
      · exact absurd cj1 cj17
      refine k_iconst C (x := 0) rfl rfl rfl ?_
      refine c_VI C (e_m_classes_no (A := fun a => a = m ∨ R m 21 = some a ∨ R m 34 = some a) T_m (Or.inl rfl) hD) rfl rfl rfl rfl rfl ⟨_, rfl, rfl, H_m.1, Nat.le_of_ble_eq_true rfl⟩ rfl rfl (by omega) (by omega) (Nat.le_of_ble_eq_true rfl) ?_
      rintro x22 I18 L19 ⟨f2, z2, k2⟩
      have h20 := LI.rfr hLI H_m nAB hB f2 k2
      have h21 := RY.rf E hLI hRL f2 k2
      refine k_istore C (lw := [(6, .int _), (5, .int _), (4, .int _), (3, _), (2, _), (1, _), (0, _)]) rfl rfl (Nat.le_of_ble_eq_true rfl) rfl ?_
      refine k_goto C (pc2 := 1899) rfl rfl ?_
      exact K _ _ _ _ _ h20 h21 (by omega) (by omega) (List.forall_mem_cons.mpr ⟨List.mem_of_getElem? (i := 2) rfl, List.forall_mem_cons.mpr ⟨List.mem_of_getElem? (i := 3) rfl, List.forall_mem_cons.mpr ⟨List.mem_of_getElem? (i := 4) rfl, List.forall_mem_cons.mpr ⟨List.mem_of_getElem? (i := 5) rfl, List.forall_mem_cons.mpr ⟨List.mem_of_getElem? (i := 6) rfl, fun _ h => nomatch h⟩⟩⟩⟩⟩)
  refine k_iconst C (x := 1) rfl rfl rfl ?_
  refine k_goto C (pc2 := 1687) rfl rfl ?_
  refine k_aload_n C rfl rfl rfl ?_
  have hB := True.intro
  have T_x := H_x.1
  have T_m := H_m.1
  obtain ⟨wh, R_x_10, T_wh, A_wh⟩ := LF.wh H_x
  have hA : ∀ a, (a = wh ∨ a = o) → A a ∧ (T a = 11 ∨ T a = 21) := by (rintro a (rfl | rfl)); exact ⟨A_wh, Or.inl T_wh⟩; exact ⟨A_o, Or.inr T_o⟩
  by_cases hD : isDc (xs (Int32.ofNat i + 1).toNatClampNeg)
  · skip
    refine c_SI C (e_L_classes_yes (A := fun a => a = wh ∨ a = o) T_x R_x_10 T_wh (Or.inl rfl) T_o N_o (Or.inr rfl) hD (by first | exact Or.inl rfl | exact Or.inr rfl)) rfl rfl rfl rfl rfl rfl rfl (by omega) (by omega) (Nat.le_of_ble_eq_true rfl) ?_
    rintro x26 I23 L24 ⟨rfl, f1, v1⟩
    have h25 := LI.cfr hLI H_m nAB hA f1
    have h27 := RY.cf E hLI hRL hA f1
    refine k_istore C (lw := [(5, .int _), (4, .int _), (3, _), (2, _), (1, _), (0, _)]) rfl rfl (Nat.le_of_ble_eq_true rfl) rfl ?_
    refine k_aload_n C rfl rfl rfl ?_
    refine k_aload_n C rfl rfl rfl ?_
    refine k_iload C rfl rfl rfl ?_
    refine k_iconst C (x := 1) rfl rfl rfl ?_
    refine k_iadd C rfl rfl ?_
    refine hL.1 _ _ _ _ _ _ _ rfl (vsk hi hLn (c := 1) (by decide)) ?_
    refine k_aload_n C rfl rfl rfl ?_
    refine k_iload C rfl rfl rfl ?_
    refine k_iconst C (x := 2) rfl rfl rfl ?_
    refine k_iadd C rfl rfl ?_
    refine hL.1 _ _ _ _ _ _ _ rfl (vsk hi hLn (c := 2) (by decide)) ?_
    refine k_if_eq C (t := 1713) rfl rfl rfl (fun cj28 => ?_) (fun cj28 => ?_)
    · exact absurd cj28 cj1
    refine k_iconst C (x := 1) rfl rfl rfl ?_
    refine k_goto C (pc2 := 1714) rfl rfl ?_
    refine c_VI C (e_m_classes_yes (A := fun a => a = m ∨ R m 21 = some a ∨ R m 34 = some a) T_m (Or.inl rfl) hD (by first | exact Or.inl rfl | exact Or.inr rfl)) rfl rfl rfl rfl rfl ⟨_, rfl, rfl, H_m.1, Nat.le_of_ble_eq_true rfl⟩ rfl rfl (by omega) (by omega) (Nat.le_of_ble_eq_true rfl) ?_
    rintro x33 I29 L30 ⟨rfl, f2, z2, k2⟩
    have h31 := LI.rfr h25 H_m nAB hB f2 k2
    have h32 := RY.rf E h25 h27 f2 k2
    refine k_istore C (lw := [(6, .int _), (5, .int _), (4, .int _), (3, _), (2, _), (1, _), (0, _)]) rfl rfl (Nat.le_of_ble_eq_true rfl) rfl ?_
    refine k_goto C (pc2 := 1899) rfl rfl ?_
    exact K _ _ _ _ _ h31 h32 (by omega) (by omega) (List.forall_mem_cons.mpr ⟨List.mem_of_getElem? (i := 2) rfl, List.forall_mem_cons.mpr ⟨List.mem_of_getElem? (i := 3) rfl, List.forall_mem_cons.mpr ⟨List.mem_of_getElem? (i := 4) rfl, List.forall_mem_cons.mpr ⟨List.mem_of_getElem? (i := 5) rfl, List.forall_mem_cons.mpr ⟨List.mem_of_getElem? (i := 6) rfl, fun _ h => nomatch h⟩⟩⟩⟩⟩)
  · skip
    refine c_SI C (e_L_classes_no T_x hD) rfl rfl rfl rfl rfl rfl rfl (by omega) (by omega) (Nat.le_of_ble_eq_true rfl) ?_
    rintro x37 I34 L35 ⟨rfl, hI8, hL9⟩
    have hI8 := hI8.symm; subst hI8; have hL9 := hL9.symm; subst hL9
    refine k_istore C (lw := [(5, .int _), (4, .int _), (3, _), (2, _), (1, _), (0, _)]) rfl rfl (Nat.le_of_ble_eq_true rfl) rfl ?_
    refine k_aload_n C rfl rfl rfl ?_
    refine k_aload_n C rfl rfl rfl ?_
    refine k_iload C rfl rfl rfl ?_
    refine k_iconst C (x := 1) rfl rfl rfl ?_
    refine k_iadd C rfl rfl ?_
    refine hL.1 _ _ _ _ _ _ _ rfl (vsk hi hLn (c := 1) (by decide)) ?_
    refine k_aload_n C rfl rfl rfl ?_
    refine k_iload C rfl rfl rfl ?_
    refine k_iconst C (x := 2) rfl rfl rfl ?_
    refine k_iadd C rfl rfl ?_
    refine hL.1 _ _ _ _ _ _ _ rfl (vsk hi hLn (c := 2) (by decide)) ?_
    refine k_if_eq C (t := 1713) rfl rfl rfl (fun cj38 => ?_) (fun cj38 => ?_)
    · exact absurd cj38 cj1
    refine k_iconst C (x := 1) rfl rfl rfl ?_
    refine k_goto C (pc2 := 1714) rfl rfl ?_
    refine c_VI C (e_m_classes_no (A := fun a => a = m ∨ R m 21 = some a ∨ R m 34 = some a) T_m (Or.inl rfl) hD) rfl rfl rfl rfl rfl ⟨_, rfl, rfl, H_m.1, Nat.le_of_ble_eq_true rfl⟩ rfl rfl (by omega) (by omega) (Nat.le_of_ble_eq_true rfl) ?_
    rintro x43 I39 L40 ⟨f2, z2, k2⟩
    have h41 := LI.rfr hLI H_m nAB hB f2 k2
    have h42 := RY.rf E hLI hRL f2 k2
    refine k_istore C (lw := [(6, .int _), (5, .int _), (4, .int _), (3, _), (2, _), (1, _), (0, _)]) rfl rfl (Nat.le_of_ble_eq_true rfl) rfl ?_
    refine k_goto C (pc2 := 1899) rfl rfl ?_
    exact K _ _ _ _ _ h41 h42 (by omega) (by omega) (List.forall_mem_cons.mpr ⟨List.mem_of_getElem? (i := 2) rfl, List.forall_mem_cons.mpr ⟨List.mem_of_getElem? (i := 3) rfl, List.forall_mem_cons.mpr ⟨List.mem_of_getElem? (i := 4) rfl, List.forall_mem_cons.mpr ⟨List.mem_of_getElem? (i := 5) rfl, List.forall_mem_cons.mpr ⟨List.mem_of_getElem? (i := 6) rfl, fun _ h => nomatch h⟩⟩⟩⟩⟩)

set_option maxRecDepth 100000 in
set_option maxHeartbeats 4000000 in
theorem lc_37 {V : V_T} {b x nw kp rd al m w im o cb tp Ln i : Nat} {xs : Nat → Int32} {T N : Nat → Nat} {I : IT} {L : LT} {R : RT} {A B : Nat → Prop} {ck sk : Nat} (C : Cl 40 q_law 601024 7293033 law_Po V) (S : SB V) (hL : LSc V b Ln xs) (E : LX T N R A B x nw kp rd al m w im o cb tp) (hi : i + 6 ≤ Ln) (hLn : Ln ≤ 3072) (hLI : LI T R A m I) (hRL : RY R x nw kp rd cb m w im tp I) (hck : ck + 3 ≤ 601024) (hsk : sk + 18 ≤ 7293033) (K : ∀ (lv : List (Nat × Value)) (I9 : IT) (L9 : LT) (ck9 sk9 : Nat), LI T R A m I9 → RY R x nw kp rd cb m w im tp I9 → ck9 ≤ ck + 3 → sk9 ≤ sk + 18 → (∀ z ∈ ([(4, .int (Int32.ofNat i)), (3, .ref o), (2, .ref m), (1, .ref x), (0, .ref b)] : List (Nat × Value)), z ∈ lv) → V 1899 lv [] (T, N, I9, L9, R) ck9 sk9) : V 1722 [(4, .int (Int32.ofNat i)), (3, .ref o), (2, .ref m), (1, .ref x), (0, .ref b)] [] (T, N, I, L, R) ck sk := by
  obtain ⟨H_x, H_m, ⟨T_o, N_o, A_o⟩, nAB, Rnw, Rkp, Rrd, hnk, Ral, Ras, Rw, Rim⟩ := id E.1
  have T_x := H_x.1
  have T_m := H_m.1
  have hB := True.intro
  refine k_aload_n C rfl rfl rfl ?_
  refine k_aload_n C rfl rfl rfl ?_
  refine k_iload C rfl rfl rfl ?_
  refine k_iconst C (x := 1) rfl rfl rfl ?_
  refine k_iadd C rfl rfl ?_
  refine hL.1 _ _ _ _ _ _ _ rfl (vsk hi hLn (c := 1) (by decide)) ?_
  refine k_aload_n C rfl rfl rfl ?_
  refine k_iload C rfl rfl rfl ?_
  refine k_iconst C (x := 2) rfl rfl rfl ?_
  refine k_iadd C rfl rfl ?_
  refine hL.1 _ _ _ _ _ _ _ rfl (vsk hi hLn (c := 2) (by decide)) ?_
  refine k_aload_n C rfl rfl rfl ?_
  refine k_iload C rfl rfl rfl ?_
  refine k_iconst C (x := 3) rfl rfl rfl ?_
  refine k_iadd C rfl rfl ?_
  refine hL.1 _ _ _ _ _ _ _ rfl (vsk hi hLn (c := 3) (by decide)) ?_
  refine k_aload_n C rfl rfl rfl ?_
  have hB := True.intro
  have T_x := H_x.1
  have T_m := H_m.1
  obtain ⟨wh, R_x_10, T_wh, A_wh⟩ := LF.wh H_x
  have hA : ∀ a, (a = wh ∨ a = o) → A a ∧ (T a = 11 ∨ T a = 21) := by (rintro a (rfl | rfl)); exact ⟨A_wh, Or.inl T_wh⟩; exact ⟨A_o, Or.inr T_o⟩
  by_cases hD : isDc (xs (Int32.ofNat i + 1).toNatClampNeg)
  · skip
    by_cases hk : (xs (Int32.ofNat i + 2).toNatClampNeg) < 0
    · skip
      refine c_SI C (e_L_reducedAt_no2 T_x hD hk) rfl rfl rfl rfl rfl rfl rfl (by omega) (by omega) (Nat.le_of_ble_eq_true rfl) ?_
      rintro x4 I1 L2 ⟨rfl, hI8, hL9⟩
      have hI8 := hI8.symm; subst hI8; have hL9 := hL9.symm; subst hL9
      refine k_istore C (lw := [(5, .int _), (4, .int _), (3, _), (2, _), (1, _), (0, _)]) rfl rfl (Nat.le_of_ble_eq_true rfl) rfl ?_
      refine k_aload_n C rfl rfl rfl ?_
      refine k_aload_n C rfl rfl rfl ?_
      refine k_iload C rfl rfl rfl ?_
      refine k_iconst C (x := 1) rfl rfl rfl ?_
      refine k_iadd C rfl rfl ?_
      refine hL.1 _ _ _ _ _ _ _ rfl (vsk hi hLn (c := 1) (by decide)) ?_
      refine k_aload_n C rfl rfl rfl ?_
      refine k_iload C rfl rfl rfl ?_
      refine k_iconst C (x := 2) rfl rfl rfl ?_
      refine k_iadd C rfl rfl ?_
      refine hL.1 _ _ _ _ _ _ _ rfl (vsk hi hLn (c := 2) (by decide)) ?_
      refine k_aload_n C rfl rfl rfl ?_
      refine k_iload C rfl rfl rfl ?_
      refine k_iconst C (x := 3) rfl rfl rfl ?_
      refine k_iadd C rfl rfl ?_
      refine hL.1 _ _ _ _ _ _ _ rfl (vsk hi hLn (c := 3) (by decide)) ?_
      refine c_VI C (e_m_reducedAt_no2 (A := fun a => a = m ∨ R m 21 = some a ∨ R m 34 = some a) T_m (Or.inl rfl) hD hk) rfl rfl rfl rfl rfl ⟨_, rfl, rfl, H_m.1, Nat.le_of_ble_eq_true rfl⟩ rfl rfl (by omega) (by omega) (Nat.le_of_ble_eq_true rfl) ?_
      rintro x9 I5 L6 ⟨f2, z2, k2⟩
      have h7 := LI.rfr hLI H_m nAB hB f2 k2
      have h8 := RY.rf E hLI hRL f2 k2
      refine k_istore C (lw := [(6, .int _), (5, .int _), (4, .int _), (3, _), (2, _), (1, _), (0, _)]) rfl rfl (Nat.le_of_ble_eq_true rfl) rfl ?_
      refine k_goto C (pc2 := 1899) rfl rfl ?_
      exact K _ _ _ _ _ h7 h8 (by omega) (by omega) (List.forall_mem_cons.mpr ⟨List.mem_of_getElem? (i := 2) rfl, List.forall_mem_cons.mpr ⟨List.mem_of_getElem? (i := 3) rfl, List.forall_mem_cons.mpr ⟨List.mem_of_getElem? (i := 4) rfl, List.forall_mem_cons.mpr ⟨List.mem_of_getElem? (i := 5) rfl, List.forall_mem_cons.mpr ⟨List.mem_of_getElem? (i := 6) rfl, fun _ h => nomatch h⟩⟩⟩⟩⟩)
    · skip
      have hk := Int32.not_lt.mp hk
      by_cases hn : 0 ≤ (xs (Int32.ofNat i + 3).toNatClampNeg).toInt ∧ (xs (Int32.ofNat i + 3).toNatClampNeg).toInt ≤ 2
      · skip
        refine c_SI C (e_L_reducedAt_yes (A := fun a => a = wh ∨ a = o) T_x R_x_10 T_wh (Or.inl rfl) T_o N_o (Or.inr rfl) hD hk hn) rfl rfl rfl rfl rfl rfl rfl (by omega) (by omega) (Nat.le_of_ble_eq_true rfl) ?_
        rintro x13 I10 L11 ⟨rfl, f1, v1⟩
        have h12 := LI.cfr hLI H_m nAB hA f1
        have h14 := RY.cf E hLI hRL hA f1
        refine k_istore C (lw := [(5, .int _), (4, .int _), (3, _), (2, _), (1, _), (0, _)]) rfl rfl (Nat.le_of_ble_eq_true rfl) rfl ?_
        refine k_aload_n C rfl rfl rfl ?_
        refine k_aload_n C rfl rfl rfl ?_
        refine k_iload C rfl rfl rfl ?_
        refine k_iconst C (x := 1) rfl rfl rfl ?_
        refine k_iadd C rfl rfl ?_
        refine hL.1 _ _ _ _ _ _ _ rfl (vsk hi hLn (c := 1) (by decide)) ?_
        refine k_aload_n C rfl rfl rfl ?_
        refine k_iload C rfl rfl rfl ?_
        refine k_iconst C (x := 2) rfl rfl rfl ?_
        refine k_iadd C rfl rfl ?_
        refine hL.1 _ _ _ _ _ _ _ rfl (vsk hi hLn (c := 2) (by decide)) ?_
        refine k_aload_n C rfl rfl rfl ?_
        refine k_iload C rfl rfl rfl ?_
        refine k_iconst C (x := 3) rfl rfl rfl ?_
        refine k_iadd C rfl rfl ?_
        refine hL.1 _ _ _ _ _ _ _ rfl (vsk hi hLn (c := 3) (by decide)) ?_
        refine c_VI C (e_m_reducedAt_yes (A := fun a => a = m ∨ R m 21 = some a ∨ R m 34 = some a) T_m (Or.inl rfl) hD hk hn) rfl rfl rfl rfl rfl ⟨_, rfl, rfl, H_m.1, Nat.le_of_ble_eq_true rfl⟩ rfl rfl (by omega) (by omega) (Nat.le_of_ble_eq_true rfl) ?_
        rintro x19 I15 L16 ⟨rfl, f2, z2, k2⟩
        have h17 := LI.rfr h12 H_m nAB hB f2 k2
        have h18 := RY.rf E h12 h14 f2 k2
        refine k_istore C (lw := [(6, .int _), (5, .int _), (4, .int _), (3, _), (2, _), (1, _), (0, _)]) rfl rfl (Nat.le_of_ble_eq_true rfl) rfl ?_
        refine k_goto C (pc2 := 1899) rfl rfl ?_
        exact K _ _ _ _ _ h17 h18 (by omega) (by omega) (List.forall_mem_cons.mpr ⟨List.mem_of_getElem? (i := 2) rfl, List.forall_mem_cons.mpr ⟨List.mem_of_getElem? (i := 3) rfl, List.forall_mem_cons.mpr ⟨List.mem_of_getElem? (i := 4) rfl, List.forall_mem_cons.mpr ⟨List.mem_of_getElem? (i := 5) rfl, List.forall_mem_cons.mpr ⟨List.mem_of_getElem? (i := 6) rfl, fun _ h => nomatch h⟩⟩⟩⟩⟩)
      · skip
        refine c_SI C (e_L_reducedAt_nse T_x hD hk hn) rfl rfl rfl rfl rfl rfl rfl (by omega) (by omega) (Nat.le_of_ble_eq_true rfl) ?_
        rintro x23 I20 L21 ⟨rfl, hI8, hL9⟩
        have hI8 := hI8.symm; subst hI8; have hL9 := hL9.symm; subst hL9
        refine k_istore C (lw := [(5, .int _), (4, .int _), (3, _), (2, _), (1, _), (0, _)]) rfl rfl (Nat.le_of_ble_eq_true rfl) rfl ?_
        refine k_aload_n C rfl rfl rfl ?_
        refine k_aload_n C rfl rfl rfl ?_
        refine k_iload C rfl rfl rfl ?_
        refine k_iconst C (x := 1) rfl rfl rfl ?_
        refine k_iadd C rfl rfl ?_
        refine hL.1 _ _ _ _ _ _ _ rfl (vsk hi hLn (c := 1) (by decide)) ?_
        refine k_aload_n C rfl rfl rfl ?_
        refine k_iload C rfl rfl rfl ?_
        refine k_iconst C (x := 2) rfl rfl rfl ?_
        refine k_iadd C rfl rfl ?_
        refine hL.1 _ _ _ _ _ _ _ rfl (vsk hi hLn (c := 2) (by decide)) ?_
        refine k_aload_n C rfl rfl rfl ?_
        refine k_iload C rfl rfl rfl ?_
        refine k_iconst C (x := 3) rfl rfl rfl ?_
        refine k_iadd C rfl rfl ?_
        refine hL.1 _ _ _ _ _ _ _ rfl (vsk hi hLn (c := 3) (by decide)) ?_
        refine c_VI C (e_m_reducedAt_nse (A := fun a => a = m ∨ R m 21 = some a ∨ R m 34 = some a) T_m (Or.inl rfl) hD hk hn) rfl rfl rfl rfl rfl ⟨_, rfl, rfl, H_m.1, Nat.le_of_ble_eq_true rfl⟩ rfl rfl (by omega) (by omega) (Nat.le_of_ble_eq_true rfl) ?_
        rintro x28 I24 L25 ⟨f2, z2, k2⟩
        have h26 := LI.rfr hLI H_m nAB hB f2 k2
        have h27 := RY.rf E hLI hRL f2 k2
        refine k_istore C (lw := [(6, .int _), (5, .int _), (4, .int _), (3, _), (2, _), (1, _), (0, _)]) rfl rfl (Nat.le_of_ble_eq_true rfl) rfl ?_
        refine k_goto C (pc2 := 1899) rfl rfl ?_
        exact K _ _ _ _ _ h26 h27 (by omega) (by omega) (List.forall_mem_cons.mpr ⟨List.mem_of_getElem? (i := 2) rfl, List.forall_mem_cons.mpr ⟨List.mem_of_getElem? (i := 3) rfl, List.forall_mem_cons.mpr ⟨List.mem_of_getElem? (i := 4) rfl, List.forall_mem_cons.mpr ⟨List.mem_of_getElem? (i := 5) rfl, List.forall_mem_cons.mpr ⟨List.mem_of_getElem? (i := 6) rfl, fun _ h => nomatch h⟩⟩⟩⟩⟩)
  · skip
    refine c_SI C (e_L_reducedAt_no1 T_x hD) rfl rfl rfl rfl rfl rfl rfl (by omega) (by omega) (Nat.le_of_ble_eq_true rfl) ?_
    rintro x32 I29 L30 ⟨rfl, hI8, hL9⟩
    have hI8 := hI8.symm; subst hI8; have hL9 := hL9.symm; subst hL9
    refine k_istore C (lw := [(5, .int _), (4, .int _), (3, _), (2, _), (1, _), (0, _)]) rfl rfl (Nat.le_of_ble_eq_true rfl) rfl ?_
    refine k_aload_n C rfl rfl rfl ?_
    refine k_aload_n C rfl rfl rfl ?_
    refine k_iload C rfl rfl rfl ?_
    refine k_iconst C (x := 1) rfl rfl rfl ?_
    refine k_iadd C rfl rfl ?_
    refine hL.1 _ _ _ _ _ _ _ rfl (vsk hi hLn (c := 1) (by decide)) ?_
    refine k_aload_n C rfl rfl rfl ?_
    refine k_iload C rfl rfl rfl ?_
    refine k_iconst C (x := 2) rfl rfl rfl ?_
    refine k_iadd C rfl rfl ?_
    refine hL.1 _ _ _ _ _ _ _ rfl (vsk hi hLn (c := 2) (by decide)) ?_
    refine k_aload_n C rfl rfl rfl ?_
    refine k_iload C rfl rfl rfl ?_
    refine k_iconst C (x := 3) rfl rfl rfl ?_
    refine k_iadd C rfl rfl ?_
    refine hL.1 _ _ _ _ _ _ _ rfl (vsk hi hLn (c := 3) (by decide)) ?_
    refine c_VI C (e_m_reducedAt_no1 (A := fun a => a = m ∨ R m 21 = some a ∨ R m 34 = some a) T_m (Or.inl rfl) hD) rfl rfl rfl rfl rfl ⟨_, rfl, rfl, H_m.1, Nat.le_of_ble_eq_true rfl⟩ rfl rfl (by omega) (by omega) (Nat.le_of_ble_eq_true rfl) ?_
    rintro x37 I33 L34 ⟨f2, z2, k2⟩
    have h35 := LI.rfr hLI H_m nAB hB f2 k2
    have h36 := RY.rf E hLI hRL f2 k2
    refine k_istore C (lw := [(6, .int _), (5, .int _), (4, .int _), (3, _), (2, _), (1, _), (0, _)]) rfl rfl (Nat.le_of_ble_eq_true rfl) rfl ?_
    refine k_goto C (pc2 := 1899) rfl rfl ?_
    exact K _ _ _ _ _ h35 h36 (by omega) (by omega) (List.forall_mem_cons.mpr ⟨List.mem_of_getElem? (i := 2) rfl, List.forall_mem_cons.mpr ⟨List.mem_of_getElem? (i := 3) rfl, List.forall_mem_cons.mpr ⟨List.mem_of_getElem? (i := 4) rfl, List.forall_mem_cons.mpr ⟨List.mem_of_getElem? (i := 5) rfl, List.forall_mem_cons.mpr ⟨List.mem_of_getElem? (i := 6) rfl, fun _ h => nomatch h⟩⟩⟩⟩⟩)

set_option maxRecDepth 100000 in
set_option maxHeartbeats 4000000 in
theorem lc_38 {V : V_T} {b x nw kp rd al m w im o cb tp Ln i : Nat} {xs : Nat → Int32} {T N : Nat → Nat} {I : IT} {L : LT} {R : RT} {A B : Nat → Prop} {ck sk : Nat} (C : Cl 40 q_law 601024 7293033 law_Po V) (S : SB V) (hL : LSc V b Ln xs) (E : LX T N R A B x nw kp rd al m w im o cb tp) (hi : i + 6 ≤ Ln) (hLn : Ln ≤ 3072) (hLI : LI T R A m I) (hRL : RY R x nw kp rd cb m w im tp I) (hck : ck + 3 ≤ 601024) (hsk : sk + 18 ≤ 7293033) (K : ∀ (lv : List (Nat × Value)) (I9 : IT) (L9 : LT) (ck9 sk9 : Nat), LI T R A m I9 → RY R x nw kp rd cb m w im tp I9 → ck9 ≤ ck + 3 → sk9 ≤ sk + 18 → (∀ z ∈ ([(4, .int (Int32.ofNat i)), (3, .ref o), (2, .ref m), (1, .ref x), (0, .ref b)] : List (Nat × Value)), z ∈ lv) → V 1899 lv [] (T, N, I9, L9, R) ck9 sk9) : V 1774 [(4, .int (Int32.ofNat i)), (3, .ref o), (2, .ref m), (1, .ref x), (0, .ref b)] [] (T, N, I, L, R) ck sk := by
  obtain ⟨H_x, H_m, ⟨T_o, N_o, A_o⟩, nAB, Rnw, Rkp, Rrd, hnk, Ral, Ras, Rw, Rim⟩ := id E.1
  have T_x := H_x.1
  have T_m := H_m.1
  have hB := True.intro
  refine k_aload_n C rfl rfl rfl ?_
  refine k_aload_n C rfl rfl rfl ?_
  refine k_iload C rfl rfl rfl ?_
  refine k_iconst C (x := 1) rfl rfl rfl ?_
  refine k_iadd C rfl rfl ?_
  refine hL.1 _ _ _ _ _ _ _ rfl (vsk hi hLn (c := 1) (by decide)) ?_
  refine k_aload_n C rfl rfl rfl ?_
  refine k_iload C rfl rfl rfl ?_
  refine k_iconst C (x := 2) rfl rfl rfl ?_
  refine k_iadd C rfl rfl ?_
  refine hL.1 _ _ _ _ _ _ _ rfl (vsk hi hLn (c := 2) (by decide)) ?_
  refine k_aload_n C rfl rfl rfl ?_
  refine k_iload C rfl rfl rfl ?_
  refine k_iconst C (x := 3) rfl rfl rfl ?_
  refine k_iadd C rfl rfl ?_
  refine hL.1 _ _ _ _ _ _ _ rfl (vsk hi hLn (c := 3) (by decide)) ?_
  refine k_aload_n C rfl rfl rfl ?_
  refine k_iload C rfl rfl rfl ?_
  refine k_iconst C (x := 4) rfl rfl rfl ?_
  refine k_iadd C rfl rfl ?_
  refine hL.1 _ _ _ _ _ _ _ rfl (vsk hi hLn (c := 4) (by decide)) ?_
  refine k_aload_n C rfl rfl rfl ?_
  refine k_iload C rfl rfl rfl ?_
  refine k_iconst C (x := 5) rfl rfl rfl ?_
  refine k_iadd C rfl rfl ?_
  refine hL.1 _ _ _ _ _ _ _ rfl (vsk hi hLn (c := 5) (by decide)) ?_
  refine k_aload_n C rfl rfl rfl ?_
  have hB := True.intro
  have T_x := H_x.1
  have T_m := H_m.1
  have hA : ∀ a, (a = o) → A a ∧ (T a = 11 ∨ T a = 21) := by rintro a rfl; exact ⟨A_o, Or.inr T_o⟩
  by_cases hok : okReal (xs (Int32.ofNat i + 1).toNatClampNeg) (xs (Int32.ofNat i + 2).toNatClampNeg) (xs (Int32.ofNat i + 3).toNatClampNeg) (xs (Int32.ofNat i + 4).toNatClampNeg) (xs (Int32.ofNat i + 5).toNatClampNeg)
  · skip
    refine c_SI C (e_L_real_yes (A := fun a => a = o) T_x T_o N_o rfl hok) rfl rfl rfl rfl rfl rfl rfl (by omega) (by omega) (Nat.le_of_ble_eq_true rfl) ?_
    rintro x4 I1 L2 ⟨rfl, f1, v1⟩
    have h3 := LI.cfr hLI H_m nAB hA f1
    have h5 := RY.cf E hLI hRL hA f1
    refine k_istore C (lw := [(5, .int _), (4, .int _), (3, _), (2, _), (1, _), (0, _)]) rfl rfl (Nat.le_of_ble_eq_true rfl) rfl ?_
    refine k_aload_n C rfl rfl rfl ?_
    refine k_aload_n C rfl rfl rfl ?_
    refine k_iload C rfl rfl rfl ?_
    refine k_iconst C (x := 1) rfl rfl rfl ?_
    refine k_iadd C rfl rfl ?_
    refine hL.1 _ _ _ _ _ _ _ rfl (vsk hi hLn (c := 1) (by decide)) ?_
    refine k_aload_n C rfl rfl rfl ?_
    refine k_iload C rfl rfl rfl ?_
    refine k_iconst C (x := 2) rfl rfl rfl ?_
    refine k_iadd C rfl rfl ?_
    refine hL.1 _ _ _ _ _ _ _ rfl (vsk hi hLn (c := 2) (by decide)) ?_
    refine k_aload_n C rfl rfl rfl ?_
    refine k_iload C rfl rfl rfl ?_
    refine k_iconst C (x := 3) rfl rfl rfl ?_
    refine k_iadd C rfl rfl ?_
    refine hL.1 _ _ _ _ _ _ _ rfl (vsk hi hLn (c := 3) (by decide)) ?_
    refine k_aload_n C rfl rfl rfl ?_
    refine k_iload C rfl rfl rfl ?_
    refine k_iconst C (x := 4) rfl rfl rfl ?_
    refine k_iadd C rfl rfl ?_
    refine hL.1 _ _ _ _ _ _ _ rfl (vsk hi hLn (c := 4) (by decide)) ?_
    refine k_aload_n C rfl rfl rfl ?_
    refine k_iload C rfl rfl rfl ?_
    refine k_iconst C (x := 5) rfl rfl rfl ?_
    refine k_iadd C rfl rfl ?_
    refine hL.1 _ _ _ _ _ _ _ rfl (vsk hi hLn (c := 5) (by decide)) ?_
    refine c_VI C (e_m_real_yes (A := fun a => a = m ∨ R m 21 = some a ∨ R m 34 = some a) T_m (Or.inl rfl) hok) rfl rfl rfl rfl rfl ⟨_, rfl, rfl, H_m.1, Nat.le_of_ble_eq_true rfl⟩ rfl rfl (by omega) (by omega) (Nat.le_of_ble_eq_true rfl) ?_
    rintro x10 I6 L7 ⟨rfl, f2, z2, k2⟩
    have h8 := LI.rfr h3 H_m nAB hB f2 k2
    have h9 := RY.rf E h3 h5 f2 k2
    refine k_istore C (lw := [(6, .int _), (5, .int _), (4, .int _), (3, _), (2, _), (1, _), (0, _)]) rfl rfl (Nat.le_of_ble_eq_true rfl) rfl ?_
    refine k_goto C (pc2 := 1899) rfl rfl ?_
    exact K _ _ _ _ _ h8 h9 (by omega) (by omega) (List.forall_mem_cons.mpr ⟨List.mem_of_getElem? (i := 2) rfl, List.forall_mem_cons.mpr ⟨List.mem_of_getElem? (i := 3) rfl, List.forall_mem_cons.mpr ⟨List.mem_of_getElem? (i := 4) rfl, List.forall_mem_cons.mpr ⟨List.mem_of_getElem? (i := 5) rfl, List.forall_mem_cons.mpr ⟨List.mem_of_getElem? (i := 6) rfl, fun _ h => nomatch h⟩⟩⟩⟩⟩)
  · skip
    refine c_SI C (e_L_real_no T_x hok) rfl rfl rfl rfl rfl rfl rfl (by omega) (by omega) (Nat.le_of_ble_eq_true rfl) ?_
    rintro x14 I11 L12 ⟨rfl, hI8, hL9⟩
    have hI8 := hI8.symm; subst hI8; have hL9 := hL9.symm; subst hL9
    refine k_istore C (lw := [(5, .int _), (4, .int _), (3, _), (2, _), (1, _), (0, _)]) rfl rfl (Nat.le_of_ble_eq_true rfl) rfl ?_
    refine k_aload_n C rfl rfl rfl ?_
    refine k_aload_n C rfl rfl rfl ?_
    refine k_iload C rfl rfl rfl ?_
    refine k_iconst C (x := 1) rfl rfl rfl ?_
    refine k_iadd C rfl rfl ?_
    refine hL.1 _ _ _ _ _ _ _ rfl (vsk hi hLn (c := 1) (by decide)) ?_
    refine k_aload_n C rfl rfl rfl ?_
    refine k_iload C rfl rfl rfl ?_
    refine k_iconst C (x := 2) rfl rfl rfl ?_
    refine k_iadd C rfl rfl ?_
    refine hL.1 _ _ _ _ _ _ _ rfl (vsk hi hLn (c := 2) (by decide)) ?_
    refine k_aload_n C rfl rfl rfl ?_
    refine k_iload C rfl rfl rfl ?_
    refine k_iconst C (x := 3) rfl rfl rfl ?_
    refine k_iadd C rfl rfl ?_
    refine hL.1 _ _ _ _ _ _ _ rfl (vsk hi hLn (c := 3) (by decide)) ?_
    refine k_aload_n C rfl rfl rfl ?_
    refine k_iload C rfl rfl rfl ?_
    refine k_iconst C (x := 4) rfl rfl rfl ?_
    refine k_iadd C rfl rfl ?_
    refine hL.1 _ _ _ _ _ _ _ rfl (vsk hi hLn (c := 4) (by decide)) ?_
    refine k_aload_n C rfl rfl rfl ?_
    refine k_iload C rfl rfl rfl ?_
    refine k_iconst C (x := 5) rfl rfl rfl ?_
    refine k_iadd C rfl rfl ?_
    refine hL.1 _ _ _ _ _ _ _ rfl (vsk hi hLn (c := 5) (by decide)) ?_
    refine c_VI C (e_m_real_no (A := fun a => a = m ∨ R m 21 = some a ∨ R m 34 = some a) T_m (Or.inl rfl) hok) rfl rfl rfl rfl rfl ⟨_, rfl, rfl, H_m.1, Nat.le_of_ble_eq_true rfl⟩ rfl rfl (by omega) (by omega) (Nat.le_of_ble_eq_true rfl) ?_
    rintro x19 I15 L16 ⟨f2, z2, k2⟩
    have h17 := LI.rfr hLI H_m nAB hB f2 k2
    have h18 := RY.rf E hLI hRL f2 k2
    refine k_istore C (lw := [(6, .int _), (5, .int _), (4, .int _), (3, _), (2, _), (1, _), (0, _)]) rfl rfl (Nat.le_of_ble_eq_true rfl) rfl ?_
    refine k_goto C (pc2 := 1899) rfl rfl ?_
    exact K _ _ _ _ _ h17 h18 (by omega) (by omega) (List.forall_mem_cons.mpr ⟨List.mem_of_getElem? (i := 2) rfl, List.forall_mem_cons.mpr ⟨List.mem_of_getElem? (i := 3) rfl, List.forall_mem_cons.mpr ⟨List.mem_of_getElem? (i := 4) rfl, List.forall_mem_cons.mpr ⟨List.mem_of_getElem? (i := 5) rfl, List.forall_mem_cons.mpr ⟨List.mem_of_getElem? (i := 6) rfl, fun _ h => nomatch h⟩⟩⟩⟩⟩)

set_option maxRecDepth 100000 in
set_option maxHeartbeats 4000000 in
theorem lc_39 {V : V_T} {b x nw kp rd al m w im o cb tp Ln i : Nat} {xs : Nat → Int32} {T N : Nat → Nat} {I : IT} {L : LT} {R : RT} {A B : Nat → Prop} {ck sk : Nat} (C : Cl 40 q_law 601024 7293033 law_Po V) (S : SB V) (hL : LSc V b Ln xs) (E : LX T N R A B x nw kp rd al m w im o cb tp) (hi : i + 6 ≤ Ln) (hLn : Ln ≤ 3072) (hLI : LI T R A m I) (hRL : RY R x nw kp rd cb m w im tp I) (hck : ck + 3 ≤ 601024) (hsk : sk + 18 ≤ 7293033) (K : ∀ (lv : List (Nat × Value)) (I9 : IT) (L9 : LT) (ck9 sk9 : Nat), LI T R A m I9 → RY R x nw kp rd cb m w im tp I9 → ck9 ≤ ck + 3 → sk9 ≤ sk + 18 → (∀ z ∈ ([(4, .int (Int32.ofNat i)), (3, .ref o), (2, .ref m), (1, .ref x), (0, .ref b)] : List (Nat × Value)), z ∈ lv) → V 1899 lv [] (T, N, I9, L9, R) ck9 sk9) : V 1850 [(4, .int (Int32.ofNat i)), (3, .ref o), (2, .ref m), (1, .ref x), (0, .ref b)] [] (T, N, I, L, R) ck sk := by
  obtain ⟨H_x, H_m, ⟨T_o, N_o, A_o⟩, nAB, Rnw, Rkp, Rrd, hnk, Ral, Ras, Rw, Rim⟩ := id E.1
  have T_x := H_x.1
  have T_m := H_m.1
  have hB := True.intro
  refine k_aload_n C rfl rfl rfl ?_
  refine c_VV C (kc_image E hLI hRL) rfl rfl rfl rfl rfl ⟨_, rfl, rfl, H_x.1, Nat.le_of_ble_eq_true rfl⟩ rfl rfl (by omega) (by omega) (Nat.le_of_ble_eq_true rfl) ?_
  rintro  I1 L2 ⟨q0, q1, q2, q3, q4, q5, q6, q7, q8, q9, q10, h1, h2⟩
  have c1 : CB (sIm R kp x) T _ I I1 := h2.cb
  have h3 := HL.c E hLI h1 c1 (fun a q => q.elim (OWN.a9 E.s.2) (fun e => by rw [e]; exact E.1.t.2.1.1))
  refine k_aload_n C rfl rfl rfl ?_
  refine c_VV C (a_X12_image_e h3.2.1 H_m h3.2.2.1) rfl rfl rfl rfl rfl ⟨_, rfl, rfl, H_m.1, Nat.le_of_ble_eq_true rfl⟩ rfl rfl (by omega) (by omega) (Nat.le_of_ble_eq_true rfl) ?_
  rintro  I4 L5 ⟨w9, p1, p2, hM9, cm⟩
  have h6 := LI.img h3 H_m nAB hM9 cm (by decide) w9
  have h7 := OP_image E hLI h3 h6 hRL c1 q0 q1 q2 q3 q4 q5 q6 q7 q8 q9 q10 cm w9 p1 p2
  refine k_goto C (pc2 := 1899) rfl rfl ?_
  exact K _ _ _ _ _ h6 h7 (by omega) (by omega) (List.forall_mem_cons.mpr ⟨List.mem_of_getElem? (i := 0) rfl, List.forall_mem_cons.mpr ⟨List.mem_of_getElem? (i := 1) rfl, List.forall_mem_cons.mpr ⟨List.mem_of_getElem? (i := 2) rfl, List.forall_mem_cons.mpr ⟨List.mem_of_getElem? (i := 3) rfl, List.forall_mem_cons.mpr ⟨List.mem_of_getElem? (i := 4) rfl, fun _ h => nomatch h⟩⟩⟩⟩⟩)

set_option maxRecDepth 100000 in
set_option maxHeartbeats 4000000 in
theorem lc_40 {V : V_T} {b x nw kp rd al m w im o cb tp Ln i : Nat} {xs : Nat → Int32} {T N : Nat → Nat} {I : IT} {L : LT} {R : RT} {A B : Nat → Prop} {ck sk : Nat} (C : Cl 40 q_law 601024 7293033 law_Po V) (S : SB V) (hL : LSc V b Ln xs) (E : LX T N R A B x nw kp rd al m w im o cb tp) (hi : i + 6 ≤ Ln) (hLn : Ln ≤ 3072) (hLI : LI T R A m I) (hRL : RY R x nw kp rd cb m w im tp I) (hck : ck + 3 ≤ 601024) (hsk : sk + 18 ≤ 7293033) (K : ∀ (lv : List (Nat × Value)) (I9 : IT) (L9 : LT) (ck9 sk9 : Nat), LI T R A m I9 → RY R x nw kp rd cb m w im tp I9 → ck9 ≤ ck + 3 → sk9 ≤ sk + 18 → (∀ z ∈ ([(4, .int (Int32.ofNat i)), (3, .ref o), (2, .ref m), (1, .ref x), (0, .ref b)] : List (Nat × Value)), z ∈ lv) → V 1899 lv [] (T, N, I9, L9, R) ck9 sk9) : V 1861 [(4, .int (Int32.ofNat i)), (3, .ref o), (2, .ref m), (1, .ref x), (0, .ref b)] [] (T, N, I, L, R) ck sk := by
  obtain ⟨H_x, H_m, ⟨T_o, N_o, A_o⟩, nAB, Rnw, Rkp, Rrd, hnk, Ral, Ras, Rw, Rim⟩ := id E.1
  have T_x := H_x.1
  have T_m := H_m.1
  have hB := True.intro
  refine k_aload_n C rfl rfl rfl ?_
  refine c_VI C (kc_back E hLI hRL) rfl rfl rfl rfl rfl ⟨_, rfl, rfl, H_x.1, Nat.le_of_ble_eq_true rfl⟩ rfl rfl (by omega) (by omega) (Nat.le_of_ble_eq_true rfl) ?_
  rintro x4 I1 L2 ⟨q0, q1, q2, q3, h1, h2⟩
  have c1 : CB (OWN R nw) T _ I I1 := h2.cb
  have h3 := HL.c E hLI h1 c1 (fun a q => OWN.a9 E.s.1 q)
  refine k_pop C rfl rfl rfl ?_
  refine k_aload_n C rfl rfl rfl ?_
  refine c_VI C (a_X12_back_e h3.2.1 H_m h3.2.2.1 h3.2.2.2) rfl rfl rfl rfl rfl ⟨_, rfl, rfl, H_m.1, Nat.le_of_ble_eq_true rfl⟩ rfl rfl (by omega) (by omega) (Nat.le_of_ble_eq_true rfl) ?_
  rintro x8 I5 L6 ⟨p0, p1, s9, p3, hM9, cm⟩
  have h7 := LI.ref h3 H_m nAB hM9 cm (by decide) (by decide) s9
  have h9 := OP_back E hLI h3 h7 hRL c1 q0 q1 q2 q3 cm p0 p1 s9 p3
  refine k_pop C rfl rfl rfl ?_
  refine k_goto C (pc2 := 1899) rfl rfl ?_
  exact K _ _ _ _ _ h7 h9 (by omega) (by omega) (List.forall_mem_cons.mpr ⟨List.mem_of_getElem? (i := 0) rfl, List.forall_mem_cons.mpr ⟨List.mem_of_getElem? (i := 1) rfl, List.forall_mem_cons.mpr ⟨List.mem_of_getElem? (i := 2) rfl, List.forall_mem_cons.mpr ⟨List.mem_of_getElem? (i := 3) rfl, List.forall_mem_cons.mpr ⟨List.mem_of_getElem? (i := 4) rfl, fun _ h => nomatch h⟩⟩⟩⟩⟩)

set_option maxRecDepth 100000 in
set_option maxHeartbeats 4000000 in
theorem lc_41 {V : V_T} {b x nw kp rd al m w im o cb tp Ln i : Nat} {xs : Nat → Int32} {T N : Nat → Nat} {I : IT} {L : LT} {R : RT} {A B : Nat → Prop} {ck sk : Nat} (C : Cl 40 q_law 601024 7293033 law_Po V) (S : SB V) (hL : LSc V b Ln xs) (E : LX T N R A B x nw kp rd al m w im o cb tp) (hi : i + 6 ≤ Ln) (hLn : Ln ≤ 3072) (hLI : LI T R A m I) (hRL : RY R x nw kp rd cb m w im tp I) (hck : ck + 3 ≤ 601024) (hsk : sk + 18 ≤ 7293033) (K : ∀ (lv : List (Nat × Value)) (I9 : IT) (L9 : LT) (ck9 sk9 : Nat), LI T R A m I9 → RY R x nw kp rd cb m w im tp I9 → ck9 ≤ ck + 3 → sk9 ≤ sk + 18 → (∀ z ∈ ([(4, .int (Int32.ofNat i)), (3, .ref o), (2, .ref m), (1, .ref x), (0, .ref b)] : List (Nat × Value)), z ∈ lv) → V 1899 lv [] (T, N, I9, L9, R) ck9 sk9) : V 1874 [(4, .int (Int32.ofNat i)), (3, .ref o), (2, .ref m), (1, .ref x), (0, .ref b)] [] (T, N, I, L, R) ck sk := by
  obtain ⟨H_x, H_m, ⟨T_o, N_o, A_o⟩, nAB, Rnw, Rkp, Rrd, hnk, Ral, Ras, Rw, Rim⟩ := id E.1
  have T_x := H_x.1
  have T_m := H_m.1
  have hB := True.intro
  refine k_aload_n C rfl rfl rfl ?_
  refine k_aload_n C rfl rfl rfl ?_
  refine k_iload C rfl rfl rfl ?_
  refine k_iconst C (x := 1) rfl rfl rfl ?_
  refine k_iadd C rfl rfl ?_
  refine hL.1 _ _ _ _ _ _ _ rfl (vsk hi hLn (c := 1) (by decide)) ?_
  refine c_VI C (s_X11_stock BS.sub hLI.1 E.h) rfl rfl rfl rfl rfl ⟨_, rfl, rfl, H_x.1, Nat.le_of_ble_eq_true rfl⟩ rfl rfl (by omega) (by omega) (Nat.le_of_ble_eq_true rfl) ?_
  rintro x4 _ _ ⟨rfl, rfl⟩
  refine k_pop C rfl rfl rfl ?_
  refine k_aload_n C rfl rfl rfl ?_
  refine k_aload_n C rfl rfl rfl ?_
  refine k_iload C rfl rfl rfl ?_
  refine k_iconst C (x := 1) rfl rfl rfl ?_
  refine k_iadd C rfl rfl ?_
  refine hL.1 _ _ _ _ _ _ _ rfl (vsk hi hLn (c := 1) (by decide)) ?_
  refine c_VI C (a_X12_stock hLI.2.1 H_m) rfl rfl rfl rfl rfl ⟨_, rfl, rfl, H_m.1, Nat.le_of_ble_eq_true rfl⟩ rfl rfl (by omega) (by omega) (Nat.le_of_ble_eq_true rfl) ?_
  rintro x8 I5 L6 ⟨hM9, cm⟩
  have h7 := LI.ref0 hLI H_m nAB hM9 cm (by decide) (by decide) (by decide)
  have h9 := RY.r0 E hLI hRL cm (by decide) (by decide) (by decide) (by decide) (by decide)
  refine k_pop C rfl rfl rfl ?_
  refine k_goto C (pc2 := 1899) rfl rfl ?_
  exact K _ _ _ _ _ h7 h9 (by omega) (by omega) (List.forall_mem_cons.mpr ⟨List.mem_of_getElem? (i := 0) rfl, List.forall_mem_cons.mpr ⟨List.mem_of_getElem? (i := 1) rfl, List.forall_mem_cons.mpr ⟨List.mem_of_getElem? (i := 2) rfl, List.forall_mem_cons.mpr ⟨List.mem_of_getElem? (i := 3) rfl, List.forall_mem_cons.mpr ⟨List.mem_of_getElem? (i := 4) rfl, fun _ h => nomatch h⟩⟩⟩⟩⟩)

