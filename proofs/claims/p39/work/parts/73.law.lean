/-! the law: a call at any place -/
set_option maxRecDepth 100000 in
theorem lc_0 {V : V_T} {b x m o Ln i : Nat} {xs : Nat → Int32} {T N : Nat → Nat} {I : IT} {L : LT} {R : RT} {A B : Nat → Prop} {ck sk : Nat} (C : Cl 40 q_law 601024 7293033 law_Po V) (S : SB V) (hL : LSc V b Ln xs) (H_x : h_LF T N R A x) (H_m : h_MD T N R B m) (T_o : T o = 21) (N_o : N o = 1) (A_o : A o) (nAB : ∀ a, A a → ¬ B a) (hi : i + 6 ≤ Ln) (hLn : Ln ≤ 3072) (hLI : LI T R A m I) (hck : ck + 3 ≤ 601024) (hsk : sk + 18 ≤ 7293033) (K : ∀ (lv : List (Nat × Value)) (I9 : IT) (L9 : LT) (ck9 sk9 : Nat), LI T R A m I9 → ck9 ≤ ck + 3 → sk9 ≤ sk + 18 → (∀ z ∈ ([(4, .int (Int32.ofNat i)), (3, .ref o), (2, .ref m), (1, .ref x), (0, .ref b)] : List (Nat × Value)), z ∈ lv) → V 1899 lv [] (T, N, I9, L9, R) ck9 sk9) : V 224 [(4, .int (Int32.ofNat i)), (3, .ref o), (2, .ref m), (1, .ref x), (0, .ref b)] [] (T, N, I, L, R) ck sk := by
  refine k_aload_n C rfl rfl rfl ?_
  refine k_aload_n C rfl rfl rfl ?_
  refine k_iload C rfl rfl rfl ?_
  refine k_iconst C (x := 1) rfl rfl rfl ?_
  refine k_iadd C rfl rfl ?_
  refine hL.1 _ _ _ _ _ _ _ rfl (vsk hi hLn (c := 1) (by decide)) ?_
  refine k_aload_n C rfl rfl rfl ?_
  refine k_iload C rfl rfl rfl ?_
  refine k_iconst C (x := 2) rfl rfl rfl ?_
  refine k_iadd C rfl rfl ?_
  refine hL.1 _ _ _ _ _ _ _ rfl (vsk hi hLn (c := 2) (by decide)) ?_
  refine k_aload_n C rfl rfl rfl ?_
  refine k_iload C rfl rfl rfl ?_
  refine k_iconst C (x := 3) rfl rfl rfl ?_
  refine k_iadd C rfl rfl ?_
  refine hL.1 _ _ _ _ _ _ _ rfl (vsk hi hLn (c := 3) (by decide)) ?_
  refine k_aload_n C rfl rfl rfl ?_
  refine k_iload C rfl rfl rfl ?_
  refine k_iconst C (x := 4) rfl rfl rfl ?_
  refine k_iadd C rfl rfl ?_
  refine hL.1 _ _ _ _ _ _ _ rfl (vsk hi hLn (c := 4) (by decide)) ?_
  refine k_aload_n C rfl rfl rfl ?_
  refine k_iload C rfl rfl rfl ?_
  refine k_iconst C (x := 5) rfl rfl rfl ?_
  refine k_iadd C rfl rfl ?_
  refine hL.1 _ _ _ _ _ _ _ rfl (vsk hi hLn (c := 5) (by decide)) ?_
  refine c_VI C (a_X11_feed hLI.1 H_x) rfl rfl rfl rfl rfl ⟨_, rfl, rfl, H_x.1, Nat.le_of_ble_eq_true rfl⟩ rfl rfl (by omega) (by omega) (Nat.le_of_ble_eq_true rfl) ?_
  rintro x4 I1 L2 ⟨h1, h2⟩
  have h3 := LI.cls hLI H_m nAB h1 h2.1
  clear h1 h2
  refine k_pop C rfl rfl rfl ?_
  refine k_aload_n C rfl rfl rfl ?_
  refine k_aload_n C rfl rfl rfl ?_
  refine k_iload C rfl rfl rfl ?_
  refine k_iconst C (x := 1) rfl rfl rfl ?_
  refine k_iadd C rfl rfl ?_
  refine hL.1 _ _ _ _ _ _ _ rfl (vsk hi hLn (c := 1) (by decide)) ?_
  refine k_aload_n C rfl rfl rfl ?_
  refine k_iload C rfl rfl rfl ?_
  refine k_iconst C (x := 2) rfl rfl rfl ?_
  refine k_iadd C rfl rfl ?_
  refine hL.1 _ _ _ _ _ _ _ rfl (vsk hi hLn (c := 2) (by decide)) ?_
  refine k_aload_n C rfl rfl rfl ?_
  refine k_iload C rfl rfl rfl ?_
  refine k_iconst C (x := 3) rfl rfl rfl ?_
  refine k_iadd C rfl rfl ?_
  refine hL.1 _ _ _ _ _ _ _ rfl (vsk hi hLn (c := 3) (by decide)) ?_
  refine k_aload_n C rfl rfl rfl ?_
  refine k_iload C rfl rfl rfl ?_
  refine k_iconst C (x := 4) rfl rfl rfl ?_
  refine k_iadd C rfl rfl ?_
  refine hL.1 _ _ _ _ _ _ _ rfl (vsk hi hLn (c := 4) (by decide)) ?_
  refine k_aload_n C rfl rfl rfl ?_
  refine k_iload C rfl rfl rfl ?_
  refine k_iconst C (x := 5) rfl rfl rfl ?_
  refine k_iadd C rfl rfl ?_
  refine hL.1 _ _ _ _ _ _ _ rfl (vsk hi hLn (c := 5) (by decide)) ?_
  refine c_VI C (a_X12_feed h3.2.1 H_m) rfl rfl rfl rfl rfl ⟨_, rfl, rfl, H_m.1, Nat.le_of_ble_eq_true rfl⟩ rfl rfl (by omega) (by omega) (Nat.le_of_ble_eq_true rfl) ?_
  rintro x8 I5 L6 ⟨-, -, h1, h2⟩
  have h7 := LI.ref0 h3 H_m nAB h1 h2 (by decide) (by decide) (by decide)
  clear h1 h2
  refine k_pop C rfl rfl rfl ?_
  refine k_goto C (pc2 := 1899) rfl rfl ?_
  exact K _ _ _ _ _ h7 (by omega) (by omega) (List.forall_mem_cons.mpr ⟨List.mem_of_getElem? (i := 0) rfl, List.forall_mem_cons.mpr ⟨List.mem_of_getElem? (i := 1) rfl, List.forall_mem_cons.mpr ⟨List.mem_of_getElem? (i := 2) rfl, List.forall_mem_cons.mpr ⟨List.mem_of_getElem? (i := 3) rfl, List.forall_mem_cons.mpr ⟨List.mem_of_getElem? (i := 4) rfl, fun _ h => nomatch h⟩⟩⟩⟩⟩)

set_option maxRecDepth 100000 in
theorem lc_1 {V : V_T} {b x m o Ln i : Nat} {xs : Nat → Int32} {T N : Nat → Nat} {I : IT} {L : LT} {R : RT} {A B : Nat → Prop} {ck sk : Nat} (C : Cl 40 q_law 601024 7293033 law_Po V) (S : SB V) (hL : LSc V b Ln xs) (H_x : h_LF T N R A x) (H_m : h_MD T N R B m) (T_o : T o = 21) (N_o : N o = 1) (A_o : A o) (nAB : ∀ a, A a → ¬ B a) (hi : i + 6 ≤ Ln) (hLn : Ln ≤ 3072) (hLI : LI T R A m I) (hck : ck + 3 ≤ 601024) (hsk : sk + 18 ≤ 7293033) (K : ∀ (lv : List (Nat × Value)) (I9 : IT) (L9 : LT) (ck9 sk9 : Nat), LI T R A m I9 → ck9 ≤ ck + 3 → sk9 ≤ sk + 18 → (∀ z ∈ ([(4, .int (Int32.ofNat i)), (3, .ref o), (2, .ref m), (1, .ref x), (0, .ref b)] : List (Nat × Value)), z ∈ lv) → V 1899 lv [] (T, N, I9, L9, R) ck9 sk9) : V 297 [(4, .int (Int32.ofNat i)), (3, .ref o), (2, .ref m), (1, .ref x), (0, .ref b)] [] (T, N, I, L, R) ck sk := by
  refine k_aload_n C rfl rfl rfl ?_
  refine k_aload_n C rfl rfl rfl ?_
  refine k_iload C rfl rfl rfl ?_
  refine k_iconst C (x := 1) rfl rfl rfl ?_
  refine k_iadd C rfl rfl ?_
  refine hL.1 _ _ _ _ _ _ _ rfl (vsk hi hLn (c := 1) (by decide)) ?_
  refine c_VI C (a_X11_end hLI.1 H_x) rfl rfl rfl rfl rfl ⟨_, rfl, rfl, H_x.1, Nat.le_of_ble_eq_true rfl⟩ rfl rfl (by omega) (by omega) (Nat.le_of_ble_eq_true rfl) ?_
  rintro x4 I1 L2 ⟨-, -, h1, h2⟩
  have h3 := LI.cls hLI H_m nAB h1 h2.1
  clear h1 h2
  refine k_pop C rfl rfl rfl ?_
  refine k_aload_n C rfl rfl rfl ?_
  refine k_aload_n C rfl rfl rfl ?_
  refine k_iload C rfl rfl rfl ?_
  refine k_iconst C (x := 1) rfl rfl rfl ?_
  refine k_iadd C rfl rfl ?_
  refine hL.1 _ _ _ _ _ _ _ rfl (vsk hi hLn (c := 1) (by decide)) ?_
  refine c_VI C (a_X12_end h3.2.1 H_m) rfl rfl rfl rfl rfl ⟨_, rfl, rfl, H_m.1, Nat.le_of_ble_eq_true rfl⟩ rfl rfl (by omega) (by omega) (Nat.le_of_ble_eq_true rfl) ?_
  rintro x8 I5 L6 ⟨-, -, h1, h2⟩
  have h7 := LI.ref0 h3 H_m nAB h1 h2 (by decide) (by decide) (by decide)
  clear h1 h2
  refine k_pop C rfl rfl rfl ?_
  refine k_goto C (pc2 := 1899) rfl rfl ?_
  exact K _ _ _ _ _ h7 (by omega) (by omega) (List.forall_mem_cons.mpr ⟨List.mem_of_getElem? (i := 0) rfl, List.forall_mem_cons.mpr ⟨List.mem_of_getElem? (i := 1) rfl, List.forall_mem_cons.mpr ⟨List.mem_of_getElem? (i := 2) rfl, List.forall_mem_cons.mpr ⟨List.mem_of_getElem? (i := 3) rfl, List.forall_mem_cons.mpr ⟨List.mem_of_getElem? (i := 4) rfl, fun _ h => nomatch h⟩⟩⟩⟩⟩)

set_option maxRecDepth 100000 in
theorem lc_2 {V : V_T} {b x m o Ln i : Nat} {xs : Nat → Int32} {T N : Nat → Nat} {I : IT} {L : LT} {R : RT} {A B : Nat → Prop} {ck sk : Nat} (C : Cl 40 q_law 601024 7293033 law_Po V) (S : SB V) (hL : LSc V b Ln xs) (H_x : h_LF T N R A x) (H_m : h_MD T N R B m) (T_o : T o = 21) (N_o : N o = 1) (A_o : A o) (nAB : ∀ a, A a → ¬ B a) (hi : i + 6 ≤ Ln) (hLn : Ln ≤ 3072) (hLI : LI T R A m I) (hck : ck + 3 ≤ 601024) (hsk : sk + 18 ≤ 7293033) (K : ∀ (lv : List (Nat × Value)) (I9 : IT) (L9 : LT) (ck9 sk9 : Nat), LI T R A m I9 → ck9 ≤ ck + 3 → sk9 ≤ sk + 18 → (∀ z ∈ ([(4, .int (Int32.ofNat i)), (3, .ref o), (2, .ref m), (1, .ref x), (0, .ref b)] : List (Nat × Value)), z ∈ lv) → V 1899 lv [] (T, N, I9, L9, R) ck9 sk9) : V 322 [(4, .int (Int32.ofNat i)), (3, .ref o), (2, .ref m), (1, .ref x), (0, .ref b)] [] (T, N, I, L, R) ck sk := by
  refine k_aload_n C rfl rfl rfl ?_
  refine k_aload_n C rfl rfl rfl ?_
  refine k_iload C rfl rfl rfl ?_
  refine k_iconst C (x := 1) rfl rfl rfl ?_
  refine k_iadd C rfl rfl ?_
  refine hL.1 _ _ _ _ _ _ _ rfl (vsk hi hLn (c := 1) (by decide)) ?_
  refine c_SI C (w_L_field hLI.1 H_x) rfl rfl rfl rfl rfl rfl rfl (by omega) (by omega) (Nat.le_of_ble_eq_true rfl) ?_
  rintro x4 I1 L2 ⟨h1, h2⟩
  have h3 := LI.cls hLI H_m nAB h1 h2
  clear h1 h2
  refine k_istore C (lw := [(5, .int _), (4, .int _), (3, _), (2, _), (1, _), (0, _)]) rfl rfl (Nat.le_of_ble_eq_true rfl) rfl ?_
  refine k_aload_n C rfl rfl rfl ?_
  refine k_aload_n C rfl rfl rfl ?_
  refine k_iload C rfl rfl rfl ?_
  refine k_iconst C (x := 1) rfl rfl rfl ?_
  refine k_iadd C rfl rfl ?_
  refine hL.1 _ _ _ _ _ _ _ rfl (vsk hi hLn (c := 1) (by decide)) ?_
  refine c_VV C (a_X12_field h3.2.1 H_m) rfl rfl rfl rfl rfl ⟨_, rfl, rfl, H_m.1, Nat.le_of_ble_eq_true rfl⟩ rfl rfl (by omega) (by omega) (Nat.le_of_ble_eq_true rfl) ?_
  rintro  I5 L6 ⟨s9, h1, h2⟩
  have h7 := LI.ref h3 H_m nAB h1 h2 (by decide) (by decide) (fun w hw => s9 w hw (h3.2.2.1 w hw))
  clear h1 h2
  refine k_goto C (pc2 := 1899) rfl rfl ?_
  exact K _ _ _ _ _ h7 (by omega) (by omega) (List.forall_mem_cons.mpr ⟨List.mem_of_getElem? (i := 1) rfl, List.forall_mem_cons.mpr ⟨List.mem_of_getElem? (i := 2) rfl, List.forall_mem_cons.mpr ⟨List.mem_of_getElem? (i := 3) rfl, List.forall_mem_cons.mpr ⟨List.mem_of_getElem? (i := 4) rfl, List.forall_mem_cons.mpr ⟨List.mem_of_getElem? (i := 5) rfl, fun _ h => nomatch h⟩⟩⟩⟩⟩)

set_option maxRecDepth 100000 in
theorem lc_3 {V : V_T} {b x m o Ln i : Nat} {xs : Nat → Int32} {T N : Nat → Nat} {I : IT} {L : LT} {R : RT} {A B : Nat → Prop} {ck sk : Nat} (C : Cl 40 q_law 601024 7293033 law_Po V) (S : SB V) (hL : LSc V b Ln xs) (H_x : h_LF T N R A x) (H_m : h_MD T N R B m) (T_o : T o = 21) (N_o : N o = 1) (A_o : A o) (nAB : ∀ a, A a → ¬ B a) (hi : i + 6 ≤ Ln) (hLn : Ln ≤ 3072) (hLI : LI T R A m I) (hck : ck + 3 ≤ 601024) (hsk : sk + 18 ≤ 7293033) (K : ∀ (lv : List (Nat × Value)) (I9 : IT) (L9 : LT) (ck9 sk9 : Nat), LI T R A m I9 → ck9 ≤ ck + 3 → sk9 ≤ sk + 18 → (∀ z ∈ ([(4, .int (Int32.ofNat i)), (3, .ref o), (2, .ref m), (1, .ref x), (0, .ref b)] : List (Nat × Value)), z ∈ lv) → V 1899 lv [] (T, N, I9, L9, R) ck9 sk9) : V 347 [(4, .int (Int32.ofNat i)), (3, .ref o), (2, .ref m), (1, .ref x), (0, .ref b)] [] (T, N, I, L, R) ck sk := by
  refine k_aload_n C rfl rfl rfl ?_
  refine k_aload_n C rfl rfl rfl ?_
  refine c_SI C (w_L_form hLI.1 H_x T_o N_o A_o) rfl rfl rfl rfl rfl rfl rfl (by omega) (by omega) (Nat.le_of_ble_eq_true rfl) ?_
  rintro x4 I1 L2 ⟨h1, h2⟩
  have h3 := LI.cls hLI H_m nAB h1 h2
  clear h1 h2
  refine k_istore C (lw := [(5, .int _), (4, .int _), (3, _), (2, _), (1, _), (0, _)]) rfl rfl (Nat.le_of_ble_eq_true rfl) rfl ?_
  refine k_aload_n C rfl rfl rfl ?_
  refine c_VI C (a_X12_form h3.2.1 H_m) rfl rfl rfl rfl rfl ⟨_, rfl, rfl, H_m.1, Nat.le_of_ble_eq_true rfl⟩ rfl rfl (by omega) (by omega) (Nat.le_of_ble_eq_true rfl) ?_
  rintro x8 I5 L6 ⟨-, -, s9, h1, h2⟩
  have h7 := LI.ref h3 H_m nAB h1 h2 (by decide) (by decide) (fun w hw => s9 w hw (h3.2.2.1 w hw))
  clear h1 h2
  refine k_istore C (lw := [(6, .int _), (5, .int _), (4, .int _), (3, _), (2, _), (1, _), (0, _)]) rfl rfl (Nat.le_of_ble_eq_true rfl) rfl ?_
  refine k_goto C (pc2 := 1899) rfl rfl ?_
  exact K _ _ _ _ _ h7 (by omega) (by omega) (List.forall_mem_cons.mpr ⟨List.mem_of_getElem? (i := 2) rfl, List.forall_mem_cons.mpr ⟨List.mem_of_getElem? (i := 3) rfl, List.forall_mem_cons.mpr ⟨List.mem_of_getElem? (i := 4) rfl, List.forall_mem_cons.mpr ⟨List.mem_of_getElem? (i := 5) rfl, List.forall_mem_cons.mpr ⟨List.mem_of_getElem? (i := 6) rfl, fun _ h => nomatch h⟩⟩⟩⟩⟩)

set_option maxRecDepth 100000 in
theorem lc_4 {V : V_T} {b x m o Ln i : Nat} {xs : Nat → Int32} {T N : Nat → Nat} {I : IT} {L : LT} {R : RT} {A B : Nat → Prop} {ck sk : Nat} (C : Cl 40 q_law 601024 7293033 law_Po V) (S : SB V) (hL : LSc V b Ln xs) (H_x : h_LF T N R A x) (H_m : h_MD T N R B m) (T_o : T o = 21) (N_o : N o = 1) (A_o : A o) (nAB : ∀ a, A a → ¬ B a) (hi : i + 6 ≤ Ln) (hLn : Ln ≤ 3072) (hLI : LI T R A m I) (hck : ck + 3 ≤ 601024) (hsk : sk + 18 ≤ 7293033) (K : ∀ (lv : List (Nat × Value)) (I9 : IT) (L9 : LT) (ck9 sk9 : Nat), LI T R A m I9 → ck9 ≤ ck + 3 → sk9 ≤ sk + 18 → (∀ z ∈ ([(4, .int (Int32.ofNat i)), (3, .ref o), (2, .ref m), (1, .ref x), (0, .ref b)] : List (Nat × Value)), z ∈ lv) → V 1899 lv [] (T, N, I9, L9, R) ck9 sk9) : V 363 [(4, .int (Int32.ofNat i)), (3, .ref o), (2, .ref m), (1, .ref x), (0, .ref b)] [] (T, N, I, L, R) ck sk := by
  refine k_aload_n C rfl rfl rfl ?_
  refine k_aload_n C rfl rfl rfl ?_
  refine k_iload C rfl rfl rfl ?_
  refine k_iconst C (x := 1) rfl rfl rfl ?_
  refine k_iadd C rfl rfl ?_
  refine hL.1 _ _ _ _ _ _ _ rfl (vsk hi hLn (c := 1) (by decide)) ?_
  refine k_aload_n C rfl rfl rfl ?_
  refine k_iload C rfl rfl rfl ?_
  refine k_iconst C (x := 2) rfl rfl rfl ?_
  refine k_iadd C rfl rfl ?_
  refine hL.1 _ _ _ _ _ _ _ rfl (vsk hi hLn (c := 2) (by decide)) ?_
  refine k_aload_n C rfl rfl rfl ?_
  refine k_iload C rfl rfl rfl ?_
  refine k_iconst C (x := 3) rfl rfl rfl ?_
  refine k_iadd C rfl rfl ?_
  refine hL.1 _ _ _ _ _ _ _ rfl (vsk hi hLn (c := 3) (by decide)) ?_
  refine k_aload_n C rfl rfl rfl ?_
  refine k_iload C rfl rfl rfl ?_
  refine k_iconst C (x := 4) rfl rfl rfl ?_
  refine k_iadd C rfl rfl ?_
  refine hL.1 _ _ _ _ _ _ _ rfl (vsk hi hLn (c := 4) (by decide)) ?_
  refine k_aload_n C rfl rfl rfl ?_
  refine c_SI C (w_L_table hLI.1 H_x T_o N_o A_o) rfl rfl rfl rfl rfl rfl rfl (by omega) (by omega) (Nat.le_of_ble_eq_true rfl) ?_
  rintro x4 I1 L2 ⟨h1, h2⟩
  have h3 := LI.cls hLI H_m nAB h1 h2
  clear h1 h2
  refine k_istore C (lw := [(5, .int _), (4, .int _), (3, _), (2, _), (1, _), (0, _)]) rfl rfl (Nat.le_of_ble_eq_true rfl) rfl ?_
  refine k_aload_n C rfl rfl rfl ?_
  refine k_aload_n C rfl rfl rfl ?_
  refine k_iload C rfl rfl rfl ?_
  refine k_iconst C (x := 1) rfl rfl rfl ?_
  refine k_iadd C rfl rfl ?_
  refine hL.1 _ _ _ _ _ _ _ rfl (vsk hi hLn (c := 1) (by decide)) ?_
  refine k_aload_n C rfl rfl rfl ?_
  refine k_iload C rfl rfl rfl ?_
  refine k_iconst C (x := 2) rfl rfl rfl ?_
  refine k_iadd C rfl rfl ?_
  refine hL.1 _ _ _ _ _ _ _ rfl (vsk hi hLn (c := 2) (by decide)) ?_
  refine k_aload_n C rfl rfl rfl ?_
  refine k_iload C rfl rfl rfl ?_
  refine k_iconst C (x := 3) rfl rfl rfl ?_
  refine k_iadd C rfl rfl ?_
  refine hL.1 _ _ _ _ _ _ _ rfl (vsk hi hLn (c := 3) (by decide)) ?_
  refine k_aload_n C rfl rfl rfl ?_
  refine k_iload C rfl rfl rfl ?_
  refine k_iconst C (x := 4) rfl rfl rfl ?_
  refine k_iadd C rfl rfl ?_
  refine hL.1 _ _ _ _ _ _ _ rfl (vsk hi hLn (c := 4) (by decide)) ?_
  refine c_VI C (a_X12_table h3.2.1 H_m) rfl rfl rfl rfl rfl ⟨_, rfl, rfl, H_m.1, Nat.le_of_ble_eq_true rfl⟩ rfl rfl (by omega) (by omega) (Nat.le_of_ble_eq_true rfl) ?_
  rintro x8 I5 L6 ⟨-, -, s9, h1, h2⟩
  have h7 := LI.ref h3 H_m nAB h1 h2 (by decide) (by decide) (fun w hw => s9 w hw (h3.2.2.1 w hw))
  clear h1 h2
  refine k_istore C (lw := [(6, .int _), (5, .int _), (4, .int _), (3, _), (2, _), (1, _), (0, _)]) rfl rfl (Nat.le_of_ble_eq_true rfl) rfl ?_
  refine k_goto C (pc2 := 1899) rfl rfl ?_
  exact K _ _ _ _ _ h7 (by omega) (by omega) (List.forall_mem_cons.mpr ⟨List.mem_of_getElem? (i := 2) rfl, List.forall_mem_cons.mpr ⟨List.mem_of_getElem? (i := 3) rfl, List.forall_mem_cons.mpr ⟨List.mem_of_getElem? (i := 4) rfl, List.forall_mem_cons.mpr ⟨List.mem_of_getElem? (i := 5) rfl, List.forall_mem_cons.mpr ⟨List.mem_of_getElem? (i := 6) rfl, fun _ h => nomatch h⟩⟩⟩⟩⟩)

set_option maxRecDepth 100000 in
theorem lc_5 {V : V_T} {b x m o Ln i : Nat} {xs : Nat → Int32} {T N : Nat → Nat} {I : IT} {L : LT} {R : RT} {A B : Nat → Prop} {ck sk : Nat} (C : Cl 40 q_law 601024 7293033 law_Po V) (S : SB V) (hL : LSc V b Ln xs) (H_x : h_LF T N R A x) (H_m : h_MD T N R B m) (T_o : T o = 21) (N_o : N o = 1) (A_o : A o) (nAB : ∀ a, A a → ¬ B a) (hi : i + 6 ≤ Ln) (hLn : Ln ≤ 3072) (hLI : LI T R A m I) (hck : ck + 3 ≤ 601024) (hsk : sk + 18 ≤ 7293033) (K : ∀ (lv : List (Nat × Value)) (I9 : IT) (L9 : LT) (ck9 sk9 : Nat), LI T R A m I9 → ck9 ≤ ck + 3 → sk9 ≤ sk + 18 → (∀ z ∈ ([(4, .int (Int32.ofNat i)), (3, .ref o), (2, .ref m), (1, .ref x), (0, .ref b)] : List (Nat × Value)), z ∈ lv) → V 1899 lv [] (T, N, I9, L9, R) ck9 sk9) : V 427 [(4, .int (Int32.ofNat i)), (3, .ref o), (2, .ref m), (1, .ref x), (0, .ref b)] [] (T, N, I, L, R) ck sk := by
  refine k_aload_n C rfl rfl rfl ?_
  refine k_aload_n C rfl rfl rfl ?_
  refine c_SI C (w_L_signs hLI.1 H_x T_o N_o A_o) rfl rfl rfl rfl rfl rfl rfl (by omega) (by omega) (Nat.le_of_ble_eq_true rfl) ?_
  rintro x4 I1 L2 ⟨h1, h2⟩
  have h3 := LI.cls hLI H_m nAB h1 h2
  clear h1 h2
  refine k_istore C (lw := [(5, .int _), (4, .int _), (3, _), (2, _), (1, _), (0, _)]) rfl rfl (Nat.le_of_ble_eq_true rfl) rfl ?_
  refine k_aload_n C rfl rfl rfl ?_
  refine c_VI C (a_X12_signs h3.2.1 H_m) rfl rfl rfl rfl rfl ⟨_, rfl, rfl, H_m.1, Nat.le_of_ble_eq_true rfl⟩ rfl rfl (by omega) (by omega) (Nat.le_of_ble_eq_true rfl) ?_
  rintro x8 I5 L6 ⟨-, -, s9, h1, h2⟩
  have h7 := LI.ref h3 H_m nAB h1 h2 (by decide) (by decide) (fun w hw => s9 w hw (h3.2.2.1 w hw))
  clear h1 h2
  refine k_istore C (lw := [(6, .int _), (5, .int _), (4, .int _), (3, _), (2, _), (1, _), (0, _)]) rfl rfl (Nat.le_of_ble_eq_true rfl) rfl ?_
  refine k_goto C (pc2 := 1899) rfl rfl ?_
  exact K _ _ _ _ _ h7 (by omega) (by omega) (List.forall_mem_cons.mpr ⟨List.mem_of_getElem? (i := 2) rfl, List.forall_mem_cons.mpr ⟨List.mem_of_getElem? (i := 3) rfl, List.forall_mem_cons.mpr ⟨List.mem_of_getElem? (i := 4) rfl, List.forall_mem_cons.mpr ⟨List.mem_of_getElem? (i := 5) rfl, List.forall_mem_cons.mpr ⟨List.mem_of_getElem? (i := 6) rfl, fun _ h => nomatch h⟩⟩⟩⟩⟩)

set_option maxRecDepth 100000 in
theorem lc_6 {V : V_T} {b x m o Ln i : Nat} {xs : Nat → Int32} {T N : Nat → Nat} {I : IT} {L : LT} {R : RT} {A B : Nat → Prop} {ck sk : Nat} (C : Cl 40 q_law 601024 7293033 law_Po V) (S : SB V) (hL : LSc V b Ln xs) (H_x : h_LF T N R A x) (H_m : h_MD T N R B m) (T_o : T o = 21) (N_o : N o = 1) (A_o : A o) (nAB : ∀ a, A a → ¬ B a) (hi : i + 6 ≤ Ln) (hLn : Ln ≤ 3072) (hLI : LI T R A m I) (hck : ck + 3 ≤ 601024) (hsk : sk + 18 ≤ 7293033) (K : ∀ (lv : List (Nat × Value)) (I9 : IT) (L9 : LT) (ck9 sk9 : Nat), LI T R A m I9 → ck9 ≤ ck + 3 → sk9 ≤ sk + 18 → (∀ z ∈ ([(4, .int (Int32.ofNat i)), (3, .ref o), (2, .ref m), (1, .ref x), (0, .ref b)] : List (Nat × Value)), z ∈ lv) → V 1899 lv [] (T, N, I9, L9, R) ck9 sk9) : V 443 [(4, .int (Int32.ofNat i)), (3, .ref o), (2, .ref m), (1, .ref x), (0, .ref b)] [] (T, N, I, L, R) ck sk := by
  refine k_aload_n C rfl rfl rfl ?_
  refine c_VI C (a_X11_fault hLI.1 H_x) rfl rfl rfl rfl rfl ⟨_, rfl, rfl, H_x.1, Nat.le_of_ble_eq_true rfl⟩ rfl rfl (by omega) (by omega) (Nat.le_of_ble_eq_true rfl) ?_
  rintro x4 _ _ ⟨rfl, rfl⟩
  refine k_pop C rfl rfl rfl ?_
  refine k_aload_n C rfl rfl rfl ?_
  refine c_VI C (a_X12_fault hLI.2.1 H_m) rfl rfl rfl rfl rfl ⟨_, rfl, rfl, H_m.1, Nat.le_of_ble_eq_true rfl⟩ rfl rfl (by omega) (by omega) (Nat.le_of_ble_eq_true rfl) ?_
  rintro x8 I5 L6 ⟨h1, h2⟩
  have h7 := LI.ref0 hLI H_m nAB h1 h2 (by decide) (by decide) (by decide)
  clear h1 h2
  refine k_pop C rfl rfl rfl ?_
  refine k_goto C (pc2 := 1899) rfl rfl ?_
  exact K _ _ _ _ _ h7 (by omega) (by omega) (List.forall_mem_cons.mpr ⟨List.mem_of_getElem? (i := 0) rfl, List.forall_mem_cons.mpr ⟨List.mem_of_getElem? (i := 1) rfl, List.forall_mem_cons.mpr ⟨List.mem_of_getElem? (i := 2) rfl, List.forall_mem_cons.mpr ⟨List.mem_of_getElem? (i := 3) rfl, List.forall_mem_cons.mpr ⟨List.mem_of_getElem? (i := 4) rfl, fun _ h => nomatch h⟩⟩⟩⟩⟩)

set_option maxRecDepth 100000 in
theorem lc_7 {V : V_T} {b x m o Ln i : Nat} {xs : Nat → Int32} {T N : Nat → Nat} {I : IT} {L : LT} {R : RT} {A B : Nat → Prop} {ck sk : Nat} (C : Cl 40 q_law 601024 7293033 law_Po V) (S : SB V) (hL : LSc V b Ln xs) (H_x : h_LF T N R A x) (H_m : h_MD T N R B m) (T_o : T o = 21) (N_o : N o = 1) (A_o : A o) (nAB : ∀ a, A a → ¬ B a) (hi : i + 6 ≤ Ln) (hLn : Ln ≤ 3072) (hLI : LI T R A m I) (hck : ck + 3 ≤ 601024) (hsk : sk + 18 ≤ 7293033) (K : ∀ (lv : List (Nat × Value)) (I9 : IT) (L9 : LT) (ck9 sk9 : Nat), LI T R A m I9 → ck9 ≤ ck + 3 → sk9 ≤ sk + 18 → (∀ z ∈ ([(4, .int (Int32.ofNat i)), (3, .ref o), (2, .ref m), (1, .ref x), (0, .ref b)] : List (Nat × Value)), z ∈ lv) → V 1899 lv [] (T, N, I9, L9, R) ck9 sk9) : V 456 [(4, .int (Int32.ofNat i)), (3, .ref o), (2, .ref m), (1, .ref x), (0, .ref b)] [] (T, N, I, L, R) ck sk := by
  refine k_aload_n C rfl rfl rfl ?_
  refine k_aload_n C rfl rfl rfl ?_
  refine k_iload C rfl rfl rfl ?_
  refine k_iconst C (x := 1) rfl rfl rfl ?_
  refine k_iadd C rfl rfl ?_
  refine hL.1 _ _ _ _ _ _ _ rfl (vsk hi hLn (c := 1) (by decide)) ?_
  refine k_aload_n C rfl rfl rfl ?_
  refine k_iload C rfl rfl rfl ?_
  refine k_iconst C (x := 2) rfl rfl rfl ?_
  refine k_iadd C rfl rfl ?_
  refine hL.1 _ _ _ _ _ _ _ rfl (vsk hi hLn (c := 2) (by decide)) ?_
  refine k_aload_n C rfl rfl rfl ?_
  refine c_SI C (w_L_look hLI.1 H_x T_o N_o A_o) rfl rfl rfl rfl rfl rfl rfl (by omega) (by omega) (Nat.le_of_ble_eq_true rfl) ?_
  rintro x4 I1 L2 ⟨h1, h2⟩
  have h3 := LI.cls hLI H_m nAB h1 h2
  clear h1 h2
  refine k_istore C (lw := [(5, .int _), (4, .int _), (3, _), (2, _), (1, _), (0, _)]) rfl rfl (Nat.le_of_ble_eq_true rfl) rfl ?_
  refine k_aload_n C rfl rfl rfl ?_
  refine k_aload_n C rfl rfl rfl ?_
  refine k_iload C rfl rfl rfl ?_
  refine k_iconst C (x := 1) rfl rfl rfl ?_
  refine k_iadd C rfl rfl ?_
  refine hL.1 _ _ _ _ _ _ _ rfl (vsk hi hLn (c := 1) (by decide)) ?_
  refine k_aload_n C rfl rfl rfl ?_
  refine k_iload C rfl rfl rfl ?_
  refine k_iconst C (x := 2) rfl rfl rfl ?_
  refine k_iadd C rfl rfl ?_
  refine hL.1 _ _ _ _ _ _ _ rfl (vsk hi hLn (c := 2) (by decide)) ?_
  refine c_VI C (a_X12_look h3.2.1 H_m) rfl rfl rfl rfl rfl ⟨_, rfl, rfl, H_m.1, Nat.le_of_ble_eq_true rfl⟩ rfl rfl (by omega) (by omega) (Nat.le_of_ble_eq_true rfl) ?_
  rintro x8 I5 L6 ⟨-, -, h1, h2⟩
  have h7 := LI.ref0 h3 H_m nAB h1 h2 (by decide) (by decide) (by decide)
  clear h1 h2
  refine k_istore C (lw := [(6, .int _), (5, .int _), (4, .int _), (3, _), (2, _), (1, _), (0, _)]) rfl rfl (Nat.le_of_ble_eq_true rfl) rfl ?_
  refine k_goto C (pc2 := 1899) rfl rfl ?_
  exact K _ _ _ _ _ h7 (by omega) (by omega) (List.forall_mem_cons.mpr ⟨List.mem_of_getElem? (i := 2) rfl, List.forall_mem_cons.mpr ⟨List.mem_of_getElem? (i := 3) rfl, List.forall_mem_cons.mpr ⟨List.mem_of_getElem? (i := 4) rfl, List.forall_mem_cons.mpr ⟨List.mem_of_getElem? (i := 5) rfl, List.forall_mem_cons.mpr ⟨List.mem_of_getElem? (i := 6) rfl, fun _ h => nomatch h⟩⟩⟩⟩⟩)

set_option maxRecDepth 100000 in
theorem lc_8 {V : V_T} {b x m o Ln i : Nat} {xs : Nat → Int32} {T N : Nat → Nat} {I : IT} {L : LT} {R : RT} {A B : Nat → Prop} {ck sk : Nat} (C : Cl 40 q_law 601024 7293033 law_Po V) (S : SB V) (hL : LSc V b Ln xs) (H_x : h_LF T N R A x) (H_m : h_MD T N R B m) (T_o : T o = 21) (N_o : N o = 1) (A_o : A o) (nAB : ∀ a, A a → ¬ B a) (hi : i + 6 ≤ Ln) (hLn : Ln ≤ 3072) (hLI : LI T R A m I) (hck : ck + 3 ≤ 601024) (hsk : sk + 18 ≤ 7293033) (K : ∀ (lv : List (Nat × Value)) (I9 : IT) (L9 : LT) (ck9 sk9 : Nat), LI T R A m I9 → ck9 ≤ ck + 3 → sk9 ≤ sk + 18 → (∀ z ∈ ([(4, .int (Int32.ofNat i)), (3, .ref o), (2, .ref m), (1, .ref x), (0, .ref b)] : List (Nat × Value)), z ∈ lv) → V 1899 lv [] (T, N, I9, L9, R) ck9 sk9) : V 496 [(4, .int (Int32.ofNat i)), (3, .ref o), (2, .ref m), (1, .ref x), (0, .ref b)] [] (T, N, I, L, R) ck sk := by
  refine k_aload_n C rfl rfl rfl ?_
  refine k_aload_n C rfl rfl rfl ?_
  refine k_iload C rfl rfl rfl ?_
  refine k_iconst C (x := 1) rfl rfl rfl ?_
  refine k_iadd C rfl rfl ?_
  refine hL.1 _ _ _ _ _ _ _ rfl (vsk hi hLn (c := 1) (by decide)) ?_
  refine k_aload_n C rfl rfl rfl ?_
  refine k_iload C rfl rfl rfl ?_
  refine k_iconst C (x := 2) rfl rfl rfl ?_
  refine k_iadd C rfl rfl ?_
  refine hL.1 _ _ _ _ _ _ _ rfl (vsk hi hLn (c := 2) (by decide)) ?_
  refine k_aload_n C rfl rfl rfl ?_
  refine k_iload C rfl rfl rfl ?_
  refine k_iconst C (x := 3) rfl rfl rfl ?_
  refine k_iadd C rfl rfl ?_
  refine hL.1 _ _ _ _ _ _ _ rfl (vsk hi hLn (c := 3) (by decide)) ?_
  refine k_aload_n C rfl rfl rfl ?_
  refine c_SI C (w_L_at hLI.1 H_x T_o N_o A_o) rfl rfl rfl rfl rfl rfl rfl (by omega) (by omega) (Nat.le_of_ble_eq_true rfl) ?_
  rintro x4 I1 L2 ⟨h1, h2⟩
  have h3 := LI.cls hLI H_m nAB h1 h2
  clear h1 h2
  refine k_istore C (lw := [(5, .int _), (4, .int _), (3, _), (2, _), (1, _), (0, _)]) rfl rfl (Nat.le_of_ble_eq_true rfl) rfl ?_
  refine k_aload_n C rfl rfl rfl ?_
  refine k_aload_n C rfl rfl rfl ?_
  refine k_iload C rfl rfl rfl ?_
  refine k_iconst C (x := 1) rfl rfl rfl ?_
  refine k_iadd C rfl rfl ?_
  refine hL.1 _ _ _ _ _ _ _ rfl (vsk hi hLn (c := 1) (by decide)) ?_
  refine k_aload_n C rfl rfl rfl ?_
  refine k_iload C rfl rfl rfl ?_
  refine k_iconst C (x := 2) rfl rfl rfl ?_
  refine k_iadd C rfl rfl ?_
  refine hL.1 _ _ _ _ _ _ _ rfl (vsk hi hLn (c := 2) (by decide)) ?_
  refine k_aload_n C rfl rfl rfl ?_
  refine k_iload C rfl rfl rfl ?_
  refine k_iconst C (x := 3) rfl rfl rfl ?_
  refine k_iadd C rfl rfl ?_
  refine hL.1 _ _ _ _ _ _ _ rfl (vsk hi hLn (c := 3) (by decide)) ?_
  refine c_VI C (a_X12_at h3.2.1 H_m) rfl rfl rfl rfl rfl ⟨_, rfl, rfl, H_m.1, Nat.le_of_ble_eq_true rfl⟩ rfl rfl (by omega) (by omega) (Nat.le_of_ble_eq_true rfl) ?_
  rintro x8 I5 L6 ⟨-, -, h1, h2⟩
  have h7 := LI.ref0 h3 H_m nAB h1 h2 (by decide) (by decide) (by decide)
  clear h1 h2
  refine k_istore C (lw := [(6, .int _), (5, .int _), (4, .int _), (3, _), (2, _), (1, _), (0, _)]) rfl rfl (Nat.le_of_ble_eq_true rfl) rfl ?_
  refine k_goto C (pc2 := 1899) rfl rfl ?_
  exact K _ _ _ _ _ h7 (by omega) (by omega) (List.forall_mem_cons.mpr ⟨List.mem_of_getElem? (i := 2) rfl, List.forall_mem_cons.mpr ⟨List.mem_of_getElem? (i := 3) rfl, List.forall_mem_cons.mpr ⟨List.mem_of_getElem? (i := 4) rfl, List.forall_mem_cons.mpr ⟨List.mem_of_getElem? (i := 5) rfl, List.forall_mem_cons.mpr ⟨List.mem_of_getElem? (i := 6) rfl, fun _ h => nomatch h⟩⟩⟩⟩⟩)

set_option maxRecDepth 100000 in
theorem lc_9 {V : V_T} {b x m o Ln i : Nat} {xs : Nat → Int32} {T N : Nat → Nat} {I : IT} {L : LT} {R : RT} {A B : Nat → Prop} {ck sk : Nat} (C : Cl 40 q_law 601024 7293033 law_Po V) (S : SB V) (hL : LSc V b Ln xs) (H_x : h_LF T N R A x) (H_m : h_MD T N R B m) (T_o : T o = 21) (N_o : N o = 1) (A_o : A o) (nAB : ∀ a, A a → ¬ B a) (hi : i + 6 ≤ Ln) (hLn : Ln ≤ 3072) (hLI : LI T R A m I) (hck : ck + 3 ≤ 601024) (hsk : sk + 18 ≤ 7293033) (K : ∀ (lv : List (Nat × Value)) (I9 : IT) (L9 : LT) (ck9 sk9 : Nat), LI T R A m I9 → ck9 ≤ ck + 3 → sk9 ≤ sk + 18 → (∀ z ∈ ([(4, .int (Int32.ofNat i)), (3, .ref o), (2, .ref m), (1, .ref x), (0, .ref b)] : List (Nat × Value)), z ∈ lv) → V 1899 lv [] (T, N, I9, L9, R) ck9 sk9) : V 548 [(4, .int (Int32.ofNat i)), (3, .ref o), (2, .ref m), (1, .ref x), (0, .ref b)] [] (T, N, I, L, R) ck sk := by
  refine k_aload_n C rfl rfl rfl ?_
  refine k_aload_n C rfl rfl rfl ?_
  refine k_iload C rfl rfl rfl ?_
  refine k_iconst C (x := 1) rfl rfl rfl ?_
  refine k_iadd C rfl rfl ?_
  refine hL.1 _ _ _ _ _ _ _ rfl (vsk hi hLn (c := 1) (by decide)) ?_
  refine k_aload_n C rfl rfl rfl ?_
  refine c_SI C (w_L_det hLI.1 H_x T_o N_o A_o) rfl rfl rfl rfl rfl rfl rfl (by omega) (by omega) (Nat.le_of_ble_eq_true rfl) ?_
  rintro x4 I1 L2 ⟨h1, h2⟩
  have h3 := LI.cls hLI H_m nAB h1 h2
  clear h1 h2
  refine k_istore C (lw := [(5, .int _), (4, .int _), (3, _), (2, _), (1, _), (0, _)]) rfl rfl (Nat.le_of_ble_eq_true rfl) rfl ?_
  refine k_aload_n C rfl rfl rfl ?_
  refine k_aload_n C rfl rfl rfl ?_
  refine k_iload C rfl rfl rfl ?_
  refine k_iconst C (x := 1) rfl rfl rfl ?_
  refine k_iadd C rfl rfl ?_
  refine hL.1 _ _ _ _ _ _ _ rfl (vsk hi hLn (c := 1) (by decide)) ?_
  refine c_VI C (a_X12_det h3.2.1 H_m) rfl rfl rfl rfl rfl ⟨_, rfl, rfl, H_m.1, Nat.le_of_ble_eq_true rfl⟩ rfl rfl (by omega) (by omega) (Nat.le_of_ble_eq_true rfl) ?_
  rintro x8 I5 L6 ⟨-, -, h1, h2⟩
  have h7 := LI.ref0 h3 H_m nAB h1 h2 (by decide) (by decide) (by decide)
  clear h1 h2
  refine k_istore C (lw := [(6, .int _), (5, .int _), (4, .int _), (3, _), (2, _), (1, _), (0, _)]) rfl rfl (Nat.le_of_ble_eq_true rfl) rfl ?_
  refine k_goto C (pc2 := 1899) rfl rfl ?_
  exact K _ _ _ _ _ h7 (by omega) (by omega) (List.forall_mem_cons.mpr ⟨List.mem_of_getElem? (i := 2) rfl, List.forall_mem_cons.mpr ⟨List.mem_of_getElem? (i := 3) rfl, List.forall_mem_cons.mpr ⟨List.mem_of_getElem? (i := 4) rfl, List.forall_mem_cons.mpr ⟨List.mem_of_getElem? (i := 5) rfl, List.forall_mem_cons.mpr ⟨List.mem_of_getElem? (i := 6) rfl, fun _ h => nomatch h⟩⟩⟩⟩⟩)

set_option maxRecDepth 100000 in
theorem lc_10 {V : V_T} {b x m o Ln i : Nat} {xs : Nat → Int32} {T N : Nat → Nat} {I : IT} {L : LT} {R : RT} {A B : Nat → Prop} {ck sk : Nat} (C : Cl 40 q_law 601024 7293033 law_Po V) (S : SB V) (hL : LSc V b Ln xs) (H_x : h_LF T N R A x) (H_m : h_MD T N R B m) (T_o : T o = 21) (N_o : N o = 1) (A_o : A o) (nAB : ∀ a, A a → ¬ B a) (hi : i + 6 ≤ Ln) (hLn : Ln ≤ 3072) (hLI : LI T R A m I) (hck : ck + 3 ≤ 601024) (hsk : sk + 18 ≤ 7293033) (K : ∀ (lv : List (Nat × Value)) (I9 : IT) (L9 : LT) (ck9 sk9 : Nat), LI T R A m I9 → ck9 ≤ ck + 3 → sk9 ≤ sk + 18 → (∀ z ∈ ([(4, .int (Int32.ofNat i)), (3, .ref o), (2, .ref m), (1, .ref x), (0, .ref b)] : List (Nat × Value)), z ∈ lv) → V 1899 lv [] (T, N, I9, L9, R) ck9 sk9) : V 576 [(4, .int (Int32.ofNat i)), (3, .ref o), (2, .ref m), (1, .ref x), (0, .ref b)] [] (T, N, I, L, R) ck sk := by
  refine k_aload_n C rfl rfl rfl ?_
  refine k_aload_n C rfl rfl rfl ?_
  refine k_iload C rfl rfl rfl ?_
  refine k_iconst C (x := 1) rfl rfl rfl ?_
  refine k_iadd C rfl rfl ?_
  refine hL.1 _ _ _ _ _ _ _ rfl (vsk hi hLn (c := 1) (by decide)) ?_
  refine k_aload_n C rfl rfl rfl ?_
  refine k_iload C rfl rfl rfl ?_
  refine k_iconst C (x := 2) rfl rfl rfl ?_
  refine k_iadd C rfl rfl ?_
  refine hL.1 _ _ _ _ _ _ _ rfl (vsk hi hLn (c := 2) (by decide)) ?_
  refine k_aload_n C rfl rfl rfl ?_
  refine c_SI C (w_L_mix hLI.1 H_x T_o N_o A_o) rfl rfl rfl rfl rfl rfl rfl (by omega) (by omega) (Nat.le_of_ble_eq_true rfl) ?_
  rintro x4 I1 L2 ⟨h1, h2⟩
  have h3 := LI.cls hLI H_m nAB h1 h2
  clear h1 h2
  refine k_istore C (lw := [(5, .int _), (4, .int _), (3, _), (2, _), (1, _), (0, _)]) rfl rfl (Nat.le_of_ble_eq_true rfl) rfl ?_
  refine k_aload_n C rfl rfl rfl ?_
  refine k_aload_n C rfl rfl rfl ?_
  refine k_iload C rfl rfl rfl ?_
  refine k_iconst C (x := 1) rfl rfl rfl ?_
  refine k_iadd C rfl rfl ?_
  refine hL.1 _ _ _ _ _ _ _ rfl (vsk hi hLn (c := 1) (by decide)) ?_
  refine k_aload_n C rfl rfl rfl ?_
  refine k_iload C rfl rfl rfl ?_
  refine k_iconst C (x := 2) rfl rfl rfl ?_
  refine k_iadd C rfl rfl ?_
  refine hL.1 _ _ _ _ _ _ _ rfl (vsk hi hLn (c := 2) (by decide)) ?_
  refine c_VI C (a_X12_mix h3.2.1 H_m) rfl rfl rfl rfl rfl ⟨_, rfl, rfl, H_m.1, Nat.le_of_ble_eq_true rfl⟩ rfl rfl (by omega) (by omega) (Nat.le_of_ble_eq_true rfl) ?_
  rintro x8 I5 L6 ⟨-, -, s9, h1, h2⟩
  have h7 := LI.ref h3 H_m nAB h1 h2 (by decide) (by decide) (fun w hw => s9 w hw (h3.2.2.1 w hw))
  clear h1 h2
  refine k_istore C (lw := [(6, .int _), (5, .int _), (4, .int _), (3, _), (2, _), (1, _), (0, _)]) rfl rfl (Nat.le_of_ble_eq_true rfl) rfl ?_
  refine k_goto C (pc2 := 1899) rfl rfl ?_
  exact K _ _ _ _ _ h7 (by omega) (by omega) (List.forall_mem_cons.mpr ⟨List.mem_of_getElem? (i := 2) rfl, List.forall_mem_cons.mpr ⟨List.mem_of_getElem? (i := 3) rfl, List.forall_mem_cons.mpr ⟨List.mem_of_getElem? (i := 4) rfl, List.forall_mem_cons.mpr ⟨List.mem_of_getElem? (i := 5) rfl, List.forall_mem_cons.mpr ⟨List.mem_of_getElem? (i := 6) rfl, fun _ h => nomatch h⟩⟩⟩⟩⟩)

set_option maxRecDepth 100000 in
theorem lc_11 {V : V_T} {b x m o Ln i : Nat} {xs : Nat → Int32} {T N : Nat → Nat} {I : IT} {L : LT} {R : RT} {A B : Nat → Prop} {ck sk : Nat} (C : Cl 40 q_law 601024 7293033 law_Po V) (S : SB V) (hL : LSc V b Ln xs) (H_x : h_LF T N R A x) (H_m : h_MD T N R B m) (T_o : T o = 21) (N_o : N o = 1) (A_o : A o) (nAB : ∀ a, A a → ¬ B a) (hi : i + 6 ≤ Ln) (hLn : Ln ≤ 3072) (hLI : LI T R A m I) (hck : ck + 3 ≤ 601024) (hsk : sk + 18 ≤ 7293033) (K : ∀ (lv : List (Nat × Value)) (I9 : IT) (L9 : LT) (ck9 sk9 : Nat), LI T R A m I9 → ck9 ≤ ck + 3 → sk9 ≤ sk + 18 → (∀ z ∈ ([(4, .int (Int32.ofNat i)), (3, .ref o), (2, .ref m), (1, .ref x), (0, .ref b)] : List (Nat × Value)), z ∈ lv) → V 1899 lv [] (T, N, I9, L9, R) ck9 sk9) : V 616 [(4, .int (Int32.ofNat i)), (3, .ref o), (2, .ref m), (1, .ref x), (0, .ref b)] [] (T, N, I, L, R) ck sk := by
  refine k_aload_n C rfl rfl rfl ?_
  refine c_VI C (a_X11_undo hLI.1 H_x) rfl rfl rfl rfl rfl ⟨_, rfl, rfl, H_x.1, Nat.le_of_ble_eq_true rfl⟩ rfl rfl (by omega) (by omega) (Nat.le_of_ble_eq_true rfl) ?_
  rintro x4 I1 L2 ⟨h1, h2⟩
  have h3 := LI.cls hLI H_m nAB h1 h2.1
  clear h1 h2
  refine k_pop C rfl rfl rfl ?_
  refine k_aload_n C rfl rfl rfl ?_
  refine c_VI C (a_X12_undo h3.2.1 H_m h3.2.2.1) rfl rfl rfl rfl rfl ⟨_, rfl, rfl, H_m.1, Nat.le_of_ble_eq_true rfl⟩ rfl rfl (by omega) (by omega) (Nat.le_of_ble_eq_true rfl) ?_
  rintro x8 I5 L6 ⟨s9, h1, h2⟩
  have h7 := LI.ref h3 H_m nAB h1 h2 (by decide) (by decide) s9
  clear h1 h2
  refine k_pop C rfl rfl rfl ?_
  refine k_goto C (pc2 := 1899) rfl rfl ?_
  exact K _ _ _ _ _ h7 (by omega) (by omega) (List.forall_mem_cons.mpr ⟨List.mem_of_getElem? (i := 0) rfl, List.forall_mem_cons.mpr ⟨List.mem_of_getElem? (i := 1) rfl, List.forall_mem_cons.mpr ⟨List.mem_of_getElem? (i := 2) rfl, List.forall_mem_cons.mpr ⟨List.mem_of_getElem? (i := 3) rfl, List.forall_mem_cons.mpr ⟨List.mem_of_getElem? (i := 4) rfl, fun _ h => nomatch h⟩⟩⟩⟩⟩)

set_option maxRecDepth 100000 in
theorem lc_12 {V : V_T} {b x m o Ln i : Nat} {xs : Nat → Int32} {T N : Nat → Nat} {I : IT} {L : LT} {R : RT} {A B : Nat → Prop} {ck sk : Nat} (C : Cl 40 q_law 601024 7293033 law_Po V) (S : SB V) (hL : LSc V b Ln xs) (H_x : h_LF T N R A x) (H_m : h_MD T N R B m) (T_o : T o = 21) (N_o : N o = 1) (A_o : A o) (nAB : ∀ a, A a → ¬ B a) (hi : i + 6 ≤ Ln) (hLn : Ln ≤ 3072) (hLI : LI T R A m I) (hck : ck + 3 ≤ 601024) (hsk : sk + 18 ≤ 7293033) (K : ∀ (lv : List (Nat × Value)) (I9 : IT) (L9 : LT) (ck9 sk9 : Nat), LI T R A m I9 → ck9 ≤ ck + 3 → sk9 ≤ sk + 18 → (∀ z ∈ ([(4, .int (Int32.ofNat i)), (3, .ref o), (2, .ref m), (1, .ref x), (0, .ref b)] : List (Nat × Value)), z ∈ lv) → V 1899 lv [] (T, N, I9, L9, R) ck9 sk9) : V 629 [(4, .int (Int32.ofNat i)), (3, .ref o), (2, .ref m), (1, .ref x), (0, .ref b)] [] (T, N, I, L, R) ck sk := by
  refine k_aload_n C rfl rfl rfl ?_
  refine c_VI C (a_X11_redo hLI.1 H_x) rfl rfl rfl rfl rfl ⟨_, rfl, rfl, H_x.1, Nat.le_of_ble_eq_true rfl⟩ rfl rfl (by omega) (by omega) (Nat.le_of_ble_eq_true rfl) ?_
  rintro x4 I1 L2 ⟨h1, h2⟩
  have h3 := LI.cls hLI H_m nAB h1 h2.1
  clear h1 h2
  refine k_pop C rfl rfl rfl ?_
  refine k_aload_n C rfl rfl rfl ?_
  refine c_VI C (a_X12_redo h3.2.1 H_m h3.2.2.1) rfl rfl rfl rfl rfl ⟨_, rfl, rfl, H_m.1, Nat.le_of_ble_eq_true rfl⟩ rfl rfl (by omega) (by omega) (Nat.le_of_ble_eq_true rfl) ?_
  rintro x8 I5 L6 ⟨s9, h1, h2⟩
  have h7 := LI.ref h3 H_m nAB h1 h2 (by decide) (by decide) s9
  clear h1 h2
  refine k_pop C rfl rfl rfl ?_
  refine k_goto C (pc2 := 1899) rfl rfl ?_
  exact K _ _ _ _ _ h7 (by omega) (by omega) (List.forall_mem_cons.mpr ⟨List.mem_of_getElem? (i := 0) rfl, List.forall_mem_cons.mpr ⟨List.mem_of_getElem? (i := 1) rfl, List.forall_mem_cons.mpr ⟨List.mem_of_getElem? (i := 2) rfl, List.forall_mem_cons.mpr ⟨List.mem_of_getElem? (i := 3) rfl, List.forall_mem_cons.mpr ⟨List.mem_of_getElem? (i := 4) rfl, fun _ h => nomatch h⟩⟩⟩⟩⟩)

set_option maxRecDepth 100000 in
theorem lc_13 {V : V_T} {b x m o Ln i : Nat} {xs : Nat → Int32} {T N : Nat → Nat} {I : IT} {L : LT} {R : RT} {A B : Nat → Prop} {ck sk : Nat} (C : Cl 40 q_law 601024 7293033 law_Po V) (S : SB V) (hL : LSc V b Ln xs) (H_x : h_LF T N R A x) (H_m : h_MD T N R B m) (T_o : T o = 21) (N_o : N o = 1) (A_o : A o) (nAB : ∀ a, A a → ¬ B a) (hi : i + 6 ≤ Ln) (hLn : Ln ≤ 3072) (hLI : LI T R A m I) (hck : ck + 3 ≤ 601024) (hsk : sk + 18 ≤ 7293033) (K : ∀ (lv : List (Nat × Value)) (I9 : IT) (L9 : LT) (ck9 sk9 : Nat), LI T R A m I9 → ck9 ≤ ck + 3 → sk9 ≤ sk + 18 → (∀ z ∈ ([(4, .int (Int32.ofNat i)), (3, .ref o), (2, .ref m), (1, .ref x), (0, .ref b)] : List (Nat × Value)), z ∈ lv) → V 1899 lv [] (T, N, I9, L9, R) ck9 sk9) : V 642 [(4, .int (Int32.ofNat i)), (3, .ref o), (2, .ref m), (1, .ref x), (0, .ref b)] [] (T, N, I, L, R) ck sk := by
  refine k_aload_n C rfl rfl rfl ?_
  refine k_aload_n C rfl rfl rfl ?_
  refine k_iload C rfl rfl rfl ?_
  refine k_iconst C (x := 1) rfl rfl rfl ?_
  refine k_iadd C rfl rfl ?_
  refine hL.1 _ _ _ _ _ _ _ rfl (vsk hi hLn (c := 1) (by decide)) ?_
  refine k_aload_n C rfl rfl rfl ?_
  refine k_iload C rfl rfl rfl ?_
  refine k_iconst C (x := 2) rfl rfl rfl ?_
  refine k_iadd C rfl rfl ?_
  refine hL.1 _ _ _ _ _ _ _ rfl (vsk hi hLn (c := 2) (by decide)) ?_
  refine k_aload_n C rfl rfl rfl ?_
  refine k_iload C rfl rfl rfl ?_
  refine k_iconst C (x := 3) rfl rfl rfl ?_
  refine k_iadd C rfl rfl ?_
  refine hL.1 _ _ _ _ _ _ _ rfl (vsk hi hLn (c := 3) (by decide)) ?_
  refine k_aload_n C rfl rfl rfl ?_
  refine c_SI C (w_L_value hLI.1 H_x T_o N_o A_o) rfl rfl rfl rfl rfl rfl rfl (by omega) (by omega) (Nat.le_of_ble_eq_true rfl) ?_
  rintro x4 I1 L2 ⟨h1, h2⟩
  have h3 := LI.cls hLI H_m nAB h1 h2
  clear h1 h2
  refine k_istore C (lw := [(5, .int _), (4, .int _), (3, _), (2, _), (1, _), (0, _)]) rfl rfl (Nat.le_of_ble_eq_true rfl) rfl ?_
  refine k_aload_n C rfl rfl rfl ?_
  refine k_aload_n C rfl rfl rfl ?_
  refine k_iload C rfl rfl rfl ?_
  refine k_iconst C (x := 1) rfl rfl rfl ?_
  refine k_iadd C rfl rfl ?_
  refine hL.1 _ _ _ _ _ _ _ rfl (vsk hi hLn (c := 1) (by decide)) ?_
  refine k_aload_n C rfl rfl rfl ?_
  refine k_iload C rfl rfl rfl ?_
  refine k_iconst C (x := 2) rfl rfl rfl ?_
  refine k_iadd C rfl rfl ?_
  refine hL.1 _ _ _ _ _ _ _ rfl (vsk hi hLn (c := 2) (by decide)) ?_
  refine k_aload_n C rfl rfl rfl ?_
  refine k_iload C rfl rfl rfl ?_
  refine k_iconst C (x := 3) rfl rfl rfl ?_
  refine k_iadd C rfl rfl ?_
  refine hL.1 _ _ _ _ _ _ _ rfl (vsk hi hLn (c := 3) (by decide)) ?_
  refine c_VI C (a_X12_value h3.2.1 H_m) rfl rfl rfl rfl rfl ⟨_, rfl, rfl, H_m.1, Nat.le_of_ble_eq_true rfl⟩ rfl rfl (by omega) (by omega) (Nat.le_of_ble_eq_true rfl) ?_
  rintro x8 I5 L6 ⟨-, -, h1, h2⟩
  have h7 := LI.ref0 h3 H_m nAB h1 h2 (by decide) (by decide) (by decide)
  clear h1 h2
  refine k_istore C (lw := [(6, .int _), (5, .int _), (4, .int _), (3, _), (2, _), (1, _), (0, _)]) rfl rfl (Nat.le_of_ble_eq_true rfl) rfl ?_
  refine k_goto C (pc2 := 1899) rfl rfl ?_
  exact K _ _ _ _ _ h7 (by omega) (by omega) (List.forall_mem_cons.mpr ⟨List.mem_of_getElem? (i := 2) rfl, List.forall_mem_cons.mpr ⟨List.mem_of_getElem? (i := 3) rfl, List.forall_mem_cons.mpr ⟨List.mem_of_getElem? (i := 4) rfl, List.forall_mem_cons.mpr ⟨List.mem_of_getElem? (i := 5) rfl, List.forall_mem_cons.mpr ⟨List.mem_of_getElem? (i := 6) rfl, fun _ h => nomatch h⟩⟩⟩⟩⟩)

set_option maxRecDepth 100000 in
theorem lc_14 {V : V_T} {b x m o Ln i : Nat} {xs : Nat → Int32} {T N : Nat → Nat} {I : IT} {L : LT} {R : RT} {A B : Nat → Prop} {ck sk : Nat} (C : Cl 40 q_law 601024 7293033 law_Po V) (S : SB V) (hL : LSc V b Ln xs) (H_x : h_LF T N R A x) (H_m : h_MD T N R B m) (T_o : T o = 21) (N_o : N o = 1) (A_o : A o) (nAB : ∀ a, A a → ¬ B a) (hi : i + 6 ≤ Ln) (hLn : Ln ≤ 3072) (hLI : LI T R A m I) (hck : ck + 3 ≤ 601024) (hsk : sk + 18 ≤ 7293033) (K : ∀ (lv : List (Nat × Value)) (I9 : IT) (L9 : LT) (ck9 sk9 : Nat), LI T R A m I9 → ck9 ≤ ck + 3 → sk9 ≤ sk + 18 → (∀ z ∈ ([(4, .int (Int32.ofNat i)), (3, .ref o), (2, .ref m), (1, .ref x), (0, .ref b)] : List (Nat × Value)), z ∈ lv) → V 1899 lv [] (T, N, I9, L9, R) ck9 sk9) : V 694 [(4, .int (Int32.ofNat i)), (3, .ref o), (2, .ref m), (1, .ref x), (0, .ref b)] [] (T, N, I, L, R) ck sk := by
  refine k_aload_n C rfl rfl rfl ?_
  refine k_aload_n C rfl rfl rfl ?_
  refine k_iload C rfl rfl rfl ?_
  refine k_iconst C (x := 1) rfl rfl rfl ?_
  refine k_iadd C rfl rfl ?_
  refine hL.1 _ _ _ _ _ _ _ rfl (vsk hi hLn (c := 1) (by decide)) ?_
  refine k_aload_n C rfl rfl rfl ?_
  refine k_iload C rfl rfl rfl ?_
  refine k_iconst C (x := 2) rfl rfl rfl ?_
  refine k_iadd C rfl rfl ?_
  refine hL.1 _ _ _ _ _ _ _ rfl (vsk hi hLn (c := 2) (by decide)) ?_
  refine k_if_eq C (t := 714) rfl rfl rfl (fun c1 => ?_) (fun c1 => ?_)
  · skip
    refine k_iconst C (x := 0) rfl rfl rfl ?_
    refine k_aload_n C rfl rfl rfl ?_
    refine c_SI C (w_L_rank hLI.1 H_x T_o N_o A_o (by decide) (by decide)) rfl rfl rfl rfl rfl rfl rfl (by omega) (by omega) (Nat.le_of_ble_eq_true rfl) ?_
    rintro x5 I2 L3 ⟨h1, h2⟩
    have h4 := LI.cls hLI H_m nAB h1 h2
    clear h1 h2
    refine k_istore C (lw := [(5, .int _), (4, .int _), (3, _), (2, _), (1, _), (0, _)]) rfl rfl (Nat.le_of_ble_eq_true rfl) rfl ?_
    refine k_aload_n C rfl rfl rfl ?_
    refine k_aload_n C rfl rfl rfl ?_
    refine k_iload C rfl rfl rfl ?_
    refine k_iconst C (x := 1) rfl rfl rfl ?_
    refine k_iadd C rfl rfl ?_
    refine hL.1 _ _ _ _ _ _ _ rfl (vsk hi hLn (c := 1) (by decide)) ?_
    refine k_aload_n C rfl rfl rfl ?_
    refine k_iload C rfl rfl rfl ?_
    refine k_iconst C (x := 2) rfl rfl rfl ?_
    refine k_iadd C rfl rfl ?_
    refine hL.1 _ _ _ _ _ _ _ rfl (vsk hi hLn (c := 2) (by decide)) ?_
    refine k_if_eq C (t := 741) rfl rfl rfl (fun c6 => ?_) (fun c6 => ?_)
    · skip
      refine k_iconst C (x := 0) rfl rfl rfl ?_
      refine c_VI C (a_X12_rank h4.2.1 H_m (by decide) (by decide)) rfl rfl rfl rfl rfl ⟨_, rfl, rfl, H_m.1, Nat.le_of_ble_eq_true rfl⟩ rfl rfl (by omega) (by omega) (Nat.le_of_ble_eq_true rfl) ?_
      rintro x10 I7 L8 ⟨h1, h2⟩
      have h9 := LI.ref0 h4 H_m nAB h1 h2 (by decide) (by decide) (by decide)
      clear h1 h2
      refine k_istore C (lw := [(6, .int _), (5, .int _), (4, .int _), (3, _), (2, _), (1, _), (0, _)]) rfl rfl (Nat.le_of_ble_eq_true rfl) rfl ?_
      refine k_goto C (pc2 := 1899) rfl rfl ?_
      exact K _ _ _ _ _ h9 (by omega) (by omega) (List.forall_mem_cons.mpr ⟨List.mem_of_getElem? (i := 2) rfl, List.forall_mem_cons.mpr ⟨List.mem_of_getElem? (i := 3) rfl, List.forall_mem_cons.mpr ⟨List.mem_of_getElem? (i := 4) rfl, List.forall_mem_cons.mpr ⟨List.mem_of_getElem? (i := 5) rfl, List.forall_mem_cons.mpr ⟨List.mem_of_getElem? (i := 6) rfl, fun _ h => nomatch h⟩⟩⟩⟩⟩)
    exact absurd c1 c6
  refine k_iconst C (x := 1) rfl rfl rfl ?_
  refine k_goto C (pc2 := 715) rfl rfl ?_
  refine k_aload_n C rfl rfl rfl ?_
  refine c_SI C (w_L_rank hLI.1 H_x T_o N_o A_o (by decide) (by decide)) rfl rfl rfl rfl rfl rfl rfl (by omega) (by omega) (Nat.le_of_ble_eq_true rfl) ?_
  rintro x14 I11 L12 ⟨h1, h2⟩
  have h13 := LI.cls hLI H_m nAB h1 h2
  clear h1 h2
  refine k_istore C (lw := [(5, .int _), (4, .int _), (3, _), (2, _), (1, _), (0, _)]) rfl rfl (Nat.le_of_ble_eq_true rfl) rfl ?_
  refine k_aload_n C rfl rfl rfl ?_
  refine k_aload_n C rfl rfl rfl ?_
  refine k_iload C rfl rfl rfl ?_
  refine k_iconst C (x := 1) rfl rfl rfl ?_
  refine k_iadd C rfl rfl ?_
  refine hL.1 _ _ _ _ _ _ _ rfl (vsk hi hLn (c := 1) (by decide)) ?_
  refine k_aload_n C rfl rfl rfl ?_
  refine k_iload C rfl rfl rfl ?_
  refine k_iconst C (x := 2) rfl rfl rfl ?_
  refine k_iadd C rfl rfl ?_
  refine hL.1 _ _ _ _ _ _ _ rfl (vsk hi hLn (c := 2) (by decide)) ?_
  refine k_if_eq C (t := 741) rfl rfl rfl (fun c15 => ?_) (fun c15 => ?_)
  · exact absurd c15 c1
  refine k_iconst C (x := 1) rfl rfl rfl ?_
  refine k_goto C (pc2 := 742) rfl rfl ?_
  refine c_VI C (a_X12_rank h13.2.1 H_m (by decide) (by decide)) rfl rfl rfl rfl rfl ⟨_, rfl, rfl, H_m.1, Nat.le_of_ble_eq_true rfl⟩ rfl rfl (by omega) (by omega) (Nat.le_of_ble_eq_true rfl) ?_
  rintro x19 I16 L17 ⟨h1, h2⟩
  have h18 := LI.ref0 h13 H_m nAB h1 h2 (by decide) (by decide) (by decide)
  clear h1 h2
  refine k_istore C (lw := [(6, .int _), (5, .int _), (4, .int _), (3, _), (2, _), (1, _), (0, _)]) rfl rfl (Nat.le_of_ble_eq_true rfl) rfl ?_
  refine k_goto C (pc2 := 1899) rfl rfl ?_
  exact K _ _ _ _ _ h18 (by omega) (by omega) (List.forall_mem_cons.mpr ⟨List.mem_of_getElem? (i := 2) rfl, List.forall_mem_cons.mpr ⟨List.mem_of_getElem? (i := 3) rfl, List.forall_mem_cons.mpr ⟨List.mem_of_getElem? (i := 4) rfl, List.forall_mem_cons.mpr ⟨List.mem_of_getElem? (i := 5) rfl, List.forall_mem_cons.mpr ⟨List.mem_of_getElem? (i := 6) rfl, fun _ h => nomatch h⟩⟩⟩⟩⟩)

set_option maxRecDepth 100000 in
theorem lc_15 {V : V_T} {b x m o Ln i : Nat} {xs : Nat → Int32} {T N : Nat → Nat} {I : IT} {L : LT} {R : RT} {A B : Nat → Prop} {ck sk : Nat} (C : Cl 40 q_law 601024 7293033 law_Po V) (S : SB V) (hL : LSc V b Ln xs) (H_x : h_LF T N R A x) (H_m : h_MD T N R B m) (T_o : T o = 21) (N_o : N o = 1) (A_o : A o) (nAB : ∀ a, A a → ¬ B a) (hi : i + 6 ≤ Ln) (hLn : Ln ≤ 3072) (hLI : LI T R A m I) (hck : ck + 3 ≤ 601024) (hsk : sk + 18 ≤ 7293033) (K : ∀ (lv : List (Nat × Value)) (I9 : IT) (L9 : LT) (ck9 sk9 : Nat), LI T R A m I9 → ck9 ≤ ck + 3 → sk9 ≤ sk + 18 → (∀ z ∈ ([(4, .int (Int32.ofNat i)), (3, .ref o), (2, .ref m), (1, .ref x), (0, .ref b)] : List (Nat × Value)), z ∈ lv) → V 1899 lv [] (T, N, I9, L9, R) ck9 sk9) : V 750 [(4, .int (Int32.ofNat i)), (3, .ref o), (2, .ref m), (1, .ref x), (0, .ref b)] [] (T, N, I, L, R) ck sk := by
  refine k_aload_n C rfl rfl rfl ?_
  refine k_aload_n C rfl rfl rfl ?_
  refine k_iload C rfl rfl rfl ?_
  refine k_iconst C (x := 1) rfl rfl rfl ?_
  refine k_iadd C rfl rfl ?_
  refine hL.1 _ _ _ _ _ _ _ rfl (vsk hi hLn (c := 1) (by decide)) ?_
  refine k_aload_n C rfl rfl rfl ?_
  refine k_iload C rfl rfl rfl ?_
  refine k_iconst C (x := 2) rfl rfl rfl ?_
  refine k_iadd C rfl rfl ?_
  refine hL.1 _ _ _ _ _ _ _ rfl (vsk hi hLn (c := 2) (by decide)) ?_
  refine k_aload_n C rfl rfl rfl ?_
  refine k_iload C rfl rfl rfl ?_
  refine k_iconst C (x := 3) rfl rfl rfl ?_
  refine k_iadd C rfl rfl ?_
  refine hL.1 _ _ _ _ _ _ _ rfl (vsk hi hLn (c := 3) (by decide)) ?_
  refine k_aload_n C rfl rfl rfl ?_
  refine c_SI C (w_L_stays hLI.1 H_x T_o N_o A_o) rfl rfl rfl rfl rfl rfl rfl (by omega) (by omega) (Nat.le_of_ble_eq_true rfl) ?_
  rintro x4 I1 L2 ⟨h1, h2⟩
  have h3 := LI.cls hLI H_m nAB h1 h2
  clear h1 h2
  refine k_istore C (lw := [(5, .int _), (4, .int _), (3, _), (2, _), (1, _), (0, _)]) rfl rfl (Nat.le_of_ble_eq_true rfl) rfl ?_
  refine k_aload_n C rfl rfl rfl ?_
  refine k_aload_n C rfl rfl rfl ?_
  refine k_iload C rfl rfl rfl ?_
  refine k_iconst C (x := 1) rfl rfl rfl ?_
  refine k_iadd C rfl rfl ?_
  refine hL.1 _ _ _ _ _ _ _ rfl (vsk hi hLn (c := 1) (by decide)) ?_
  refine k_aload_n C rfl rfl rfl ?_
  refine k_iload C rfl rfl rfl ?_
  refine k_iconst C (x := 2) rfl rfl rfl ?_
  refine k_iadd C rfl rfl ?_
  refine hL.1 _ _ _ _ _ _ _ rfl (vsk hi hLn (c := 2) (by decide)) ?_
  refine k_aload_n C rfl rfl rfl ?_
  refine k_iload C rfl rfl rfl ?_
  refine k_iconst C (x := 3) rfl rfl rfl ?_
  refine k_iadd C rfl rfl ?_
  refine hL.1 _ _ _ _ _ _ _ rfl (vsk hi hLn (c := 3) (by decide)) ?_
  refine c_VI C (a_X12_stays h3.2.1 H_m) rfl rfl rfl rfl rfl ⟨_, rfl, rfl, H_m.1, Nat.le_of_ble_eq_true rfl⟩ rfl rfl (by omega) (by omega) (Nat.le_of_ble_eq_true rfl) ?_
  rintro x8 I5 L6 ⟨-, -, h1, h2⟩
  have h7 := LI.ref0 h3 H_m nAB h1 h2 (by decide) (by decide) (by decide)
  clear h1 h2
  refine k_istore C (lw := [(6, .int _), (5, .int _), (4, .int _), (3, _), (2, _), (1, _), (0, _)]) rfl rfl (Nat.le_of_ble_eq_true rfl) rfl ?_
  refine k_goto C (pc2 := 1899) rfl rfl ?_
  exact K _ _ _ _ _ h7 (by omega) (by omega) (List.forall_mem_cons.mpr ⟨List.mem_of_getElem? (i := 2) rfl, List.forall_mem_cons.mpr ⟨List.mem_of_getElem? (i := 3) rfl, List.forall_mem_cons.mpr ⟨List.mem_of_getElem? (i := 4) rfl, List.forall_mem_cons.mpr ⟨List.mem_of_getElem? (i := 5) rfl, List.forall_mem_cons.mpr ⟨List.mem_of_getElem? (i := 6) rfl, fun _ h => nomatch h⟩⟩⟩⟩⟩)

set_option maxRecDepth 100000 in
theorem lc_16 {V : V_T} {b x m o Ln i : Nat} {xs : Nat → Int32} {T N : Nat → Nat} {I : IT} {L : LT} {R : RT} {A B : Nat → Prop} {ck sk : Nat} (C : Cl 40 q_law 601024 7293033 law_Po V) (S : SB V) (hL : LSc V b Ln xs) (H_x : h_LF T N R A x) (H_m : h_MD T N R B m) (T_o : T o = 21) (N_o : N o = 1) (A_o : A o) (nAB : ∀ a, A a → ¬ B a) (hi : i + 6 ≤ Ln) (hLn : Ln ≤ 3072) (hLI : LI T R A m I) (hck : ck + 3 ≤ 601024) (hsk : sk + 18 ≤ 7293033) (K : ∀ (lv : List (Nat × Value)) (I9 : IT) (L9 : LT) (ck9 sk9 : Nat), LI T R A m I9 → ck9 ≤ ck + 3 → sk9 ≤ sk + 18 → (∀ z ∈ ([(4, .int (Int32.ofNat i)), (3, .ref o), (2, .ref m), (1, .ref x), (0, .ref b)] : List (Nat × Value)), z ∈ lv) → V 1899 lv [] (T, N, I9, L9, R) ck9 sk9) : V 802 [(4, .int (Int32.ofNat i)), (3, .ref o), (2, .ref m), (1, .ref x), (0, .ref b)] [] (T, N, I, L, R) ck sk := by
  refine k_aload_n C rfl rfl rfl ?_
  refine k_aload_n C rfl rfl rfl ?_
  refine k_iload C rfl rfl rfl ?_
  refine k_iconst C (x := 1) rfl rfl rfl ?_
  refine k_iadd C rfl rfl ?_
  refine hL.1 _ _ _ _ _ _ _ rfl (vsk hi hLn (c := 1) (by decide)) ?_
  refine k_aload_n C rfl rfl rfl ?_
  refine k_iload C rfl rfl rfl ?_
  refine k_iconst C (x := 2) rfl rfl rfl ?_
  refine k_iadd C rfl rfl ?_
  refine hL.1 _ _ _ _ _ _ _ rfl (vsk hi hLn (c := 2) (by decide)) ?_
  refine k_aload_n C rfl rfl rfl ?_
  refine k_iload C rfl rfl rfl ?_
  refine k_iconst C (x := 3) rfl rfl rfl ?_
  refine k_iadd C rfl rfl ?_
  refine hL.1 _ _ _ _ _ _ _ rfl (vsk hi hLn (c := 3) (by decide)) ?_
  refine k_aload_n C rfl rfl rfl ?_
  refine c_SI C (w_L_agree hLI.1 H_x T_o N_o A_o) rfl rfl rfl rfl rfl rfl rfl (by omega) (by omega) (Nat.le_of_ble_eq_true rfl) ?_
  rintro x4 I1 L2 ⟨h1, h2⟩
  have h3 := LI.cls hLI H_m nAB h1 h2
  clear h1 h2
  refine k_istore C (lw := [(5, .int _), (4, .int _), (3, _), (2, _), (1, _), (0, _)]) rfl rfl (Nat.le_of_ble_eq_true rfl) rfl ?_
  refine k_aload_n C rfl rfl rfl ?_
  refine k_aload_n C rfl rfl rfl ?_
  refine k_iload C rfl rfl rfl ?_
  refine k_iconst C (x := 1) rfl rfl rfl ?_
  refine k_iadd C rfl rfl ?_
  refine hL.1 _ _ _ _ _ _ _ rfl (vsk hi hLn (c := 1) (by decide)) ?_
  refine k_aload_n C rfl rfl rfl ?_
  refine k_iload C rfl rfl rfl ?_
  refine k_iconst C (x := 2) rfl rfl rfl ?_
  refine k_iadd C rfl rfl ?_
  refine hL.1 _ _ _ _ _ _ _ rfl (vsk hi hLn (c := 2) (by decide)) ?_
  refine k_aload_n C rfl rfl rfl ?_
  refine k_iload C rfl rfl rfl ?_
  refine k_iconst C (x := 3) rfl rfl rfl ?_
  refine k_iadd C rfl rfl ?_
  refine hL.1 _ _ _ _ _ _ _ rfl (vsk hi hLn (c := 3) (by decide)) ?_
  refine c_VI C (a_X12_agree h3.2.1 H_m) rfl rfl rfl rfl rfl ⟨_, rfl, rfl, H_m.1, Nat.le_of_ble_eq_true rfl⟩ rfl rfl (by omega) (by omega) (Nat.le_of_ble_eq_true rfl) ?_
  rintro x8 I5 L6 ⟨-, -, h1, h2⟩
  have h7 := LI.ref0 h3 H_m nAB h1 h2 (by decide) (by decide) (by decide)
  clear h1 h2
  refine k_istore C (lw := [(6, .int _), (5, .int _), (4, .int _), (3, _), (2, _), (1, _), (0, _)]) rfl rfl (Nat.le_of_ble_eq_true rfl) rfl ?_
  refine k_goto C (pc2 := 1899) rfl rfl ?_
  exact K _ _ _ _ _ h7 (by omega) (by omega) (List.forall_mem_cons.mpr ⟨List.mem_of_getElem? (i := 2) rfl, List.forall_mem_cons.mpr ⟨List.mem_of_getElem? (i := 3) rfl, List.forall_mem_cons.mpr ⟨List.mem_of_getElem? (i := 4) rfl, List.forall_mem_cons.mpr ⟨List.mem_of_getElem? (i := 5) rfl, List.forall_mem_cons.mpr ⟨List.mem_of_getElem? (i := 6) rfl, fun _ h => nomatch h⟩⟩⟩⟩⟩)

set_option maxRecDepth 100000 in
theorem lc_17 {V : V_T} {b x m o Ln i : Nat} {xs : Nat → Int32} {T N : Nat → Nat} {I : IT} {L : LT} {R : RT} {A B : Nat → Prop} {ck sk : Nat} (C : Cl 40 q_law 601024 7293033 law_Po V) (S : SB V) (hL : LSc V b Ln xs) (H_x : h_LF T N R A x) (H_m : h_MD T N R B m) (T_o : T o = 21) (N_o : N o = 1) (A_o : A o) (nAB : ∀ a, A a → ¬ B a) (hi : i + 6 ≤ Ln) (hLn : Ln ≤ 3072) (hLI : LI T R A m I) (hck : ck + 3 ≤ 601024) (hsk : sk + 18 ≤ 7293033) (K : ∀ (lv : List (Nat × Value)) (I9 : IT) (L9 : LT) (ck9 sk9 : Nat), LI T R A m I9 → ck9 ≤ ck + 3 → sk9 ≤ sk + 18 → (∀ z ∈ ([(4, .int (Int32.ofNat i)), (3, .ref o), (2, .ref m), (1, .ref x), (0, .ref b)] : List (Nat × Value)), z ∈ lv) → V 1899 lv [] (T, N, I9, L9, R) ck9 sk9) : V 854 [(4, .int (Int32.ofNat i)), (3, .ref o), (2, .ref m), (1, .ref x), (0, .ref b)] [] (T, N, I, L, R) ck sk := by
  refine k_aload_n C rfl rfl rfl ?_
  refine k_aload_n C rfl rfl rfl ?_
  refine k_iload C rfl rfl rfl ?_
  refine k_iconst C (x := 1) rfl rfl rfl ?_
  refine k_iadd C rfl rfl ?_
  refine hL.1 _ _ _ _ _ _ _ rfl (vsk hi hLn (c := 1) (by decide)) ?_
  refine k_aload_n C rfl rfl rfl ?_
  refine k_iload C rfl rfl rfl ?_
  refine k_iconst C (x := 2) rfl rfl rfl ?_
  refine k_iadd C rfl rfl ?_
  refine hL.1 _ _ _ _ _ _ _ rfl (vsk hi hLn (c := 2) (by decide)) ?_
  refine k_aload_n C rfl rfl rfl ?_
  refine k_iload C rfl rfl rfl ?_
  refine k_iconst C (x := 3) rfl rfl rfl ?_
  refine k_iadd C rfl rfl ?_
  refine hL.1 _ _ _ _ _ _ _ rfl (vsk hi hLn (c := 3) (by decide)) ?_
  refine k_aload_n C rfl rfl rfl ?_
  have hB := True.intro
  have T_x := H_x.1
  have T_m := H_m.1
  obtain ⟨rw9, wy, R_x_7, T_rw, R_rw_5, T_wy, N_wy, A_wy⟩ := LF.wy H_x
  obtain ⟨wz, R_m_21, T_wz, N_wz, B_wz⟩ := MD.wz H_m
  have hA : ∀ a, (a = wy ∨ a = o) → A a ∧ (T a = 11 ∨ T a = 21) := by (rintro a (rfl | rfl)); exact ⟨A_wy, Or.inr T_wy⟩; exact ⟨A_o, Or.inr T_o⟩
  by_cases hc : okCnt (xs (Int32.ofNat i + 1).toNatClampNeg) (xs (Int32.ofNat i + 2).toNatClampNeg) (xs (Int32.ofNat i + 3).toNatClampNeg)
  · skip
    obtain ⟨⟨a1, a2⟩, ⟨a3, a4⟩, a5, a6⟩ := hc
    obtain ⟨r, hrI, hr9⟩ := exn (K := 12) (by decide) a1 a2
    obtain ⟨e, heI, he⟩ := exn (K := 8) (by decide) (Int32.le_trans (by decide) a3) a4
    obtain ⟨n, hmI, hm⟩ := exn (K := 96) (by decide) a5 a6
    have he1 : 1 ≤ e := by have q := i_le.mp a3; rw [heI, n_int (by omega)] at q; have e1 : (1 : Int32).toInt = 1 := rfl; omega
    by_cases hq : e * r < n
    · skip
      refine c_SI C (e_L_count_a (A := fun a => a = wy ∨ a = o) T_x R_x_7 T_rw R_rw_5 T_wy N_wy (Or.inl rfl) T_o N_o (Or.inr rfl) hrI heI hmI hr9 he1 he hm hq) rfl rfl rfl rfl rfl rfl rfl (by omega) (by omega) (Nat.le_of_ble_eq_true rfl) ?_
      rintro x4 I1 L2 ⟨rfl, f1, v1⟩
      have h3 := LI.cfr hLI H_m nAB hA f1
      refine k_istore C (lw := [(5, .int _), (4, .int _), (3, _), (2, _), (1, _), (0, _)]) rfl rfl (Nat.le_of_ble_eq_true rfl) rfl ?_
      refine k_aload_n C rfl rfl rfl ?_
      refine k_aload_n C rfl rfl rfl ?_
      refine k_iload C rfl rfl rfl ?_
      refine k_iconst C (x := 1) rfl rfl rfl ?_
      refine k_iadd C rfl rfl ?_
      refine hL.1 _ _ _ _ _ _ _ rfl (vsk hi hLn (c := 1) (by decide)) ?_
      refine k_aload_n C rfl rfl rfl ?_
      refine k_iload C rfl rfl rfl ?_
      refine k_iconst C (x := 2) rfl rfl rfl ?_
      refine k_iadd C rfl rfl ?_
      refine hL.1 _ _ _ _ _ _ _ rfl (vsk hi hLn (c := 2) (by decide)) ?_
      refine k_aload_n C rfl rfl rfl ?_
      refine k_iload C rfl rfl rfl ?_
      refine k_iconst C (x := 3) rfl rfl rfl ?_
      refine k_iadd C rfl rfl ?_
      refine hL.1 _ _ _ _ _ _ _ rfl (vsk hi hLn (c := 3) (by decide)) ?_
      refine c_VL C (e_m_count_a (A := fun a => a = m ∨ R m 21 = some a ∨ R m 34 = some a) T_m (Or.inl rfl) R_m_21 T_wz N_wz (Or.inr (Or.inl R_m_21)) hrI heI hmI hr9 he1 he hm hq) rfl rfl rfl rfl rfl ⟨_, rfl, rfl, H_m.1, Nat.le_of_ble_eq_true rfl⟩ rfl rfl (by omega) (by omega) (Nat.le_of_ble_eq_true rfl) ?_
      rintro x8 I5 L6 ⟨rfl, f2, z2, k2⟩
      have h7 := LI.rfr h3 H_m nAB hB f2 k2
      refine k_lstore C (lw := [(6, .long _), (5, .int _), (4, .int _), (3, _), (2, _), (1, _), (0, _)]) rfl rfl (Nat.le_of_ble_eq_true rfl) rfl ?_
      refine k_goto C (pc2 := 1899) rfl rfl ?_
      exact K _ _ _ _ _ h7 (by omega) (by omega) (List.forall_mem_cons.mpr ⟨List.mem_of_getElem? (i := 2) rfl, List.forall_mem_cons.mpr ⟨List.mem_of_getElem? (i := 3) rfl, List.forall_mem_cons.mpr ⟨List.mem_of_getElem? (i := 4) rfl, List.forall_mem_cons.mpr ⟨List.mem_of_getElem? (i := 5) rfl, List.forall_mem_cons.mpr ⟨List.mem_of_getElem? (i := 6) rfl, fun _ h => nomatch h⟩⟩⟩⟩⟩)
    have hge : n ≤ e * r := Nat.le_of_not_lt hq
    by_cases hodd : (e * r - n) % 2 = 1
    · skip
      refine c_SI C (e_L_count_b (A := fun a => a = wy ∨ a = o) T_x R_x_7 T_rw R_rw_5 T_wy N_wy (Or.inl rfl) T_o N_o (Or.inr rfl) hrI heI hmI hr9 he1 he hm hge hodd) rfl rfl rfl rfl rfl rfl rfl (by omega) (by omega) (Nat.le_of_ble_eq_true rfl) ?_
      rintro x12 I9 L10 ⟨rfl, f1, v1⟩
      have h11 := LI.cfr hLI H_m nAB hA f1
      refine k_istore C (lw := [(5, .int _), (4, .int _), (3, _), (2, _), (1, _), (0, _)]) rfl rfl (Nat.le_of_ble_eq_true rfl) rfl ?_
      refine k_aload_n C rfl rfl rfl ?_
      refine k_aload_n C rfl rfl rfl ?_
      refine k_iload C rfl rfl rfl ?_
      refine k_iconst C (x := 1) rfl rfl rfl ?_
      refine k_iadd C rfl rfl ?_
      refine hL.1 _ _ _ _ _ _ _ rfl (vsk hi hLn (c := 1) (by decide)) ?_
      refine k_aload_n C rfl rfl rfl ?_
      refine k_iload C rfl rfl rfl ?_
      refine k_iconst C (x := 2) rfl rfl rfl ?_
      refine k_iadd C rfl rfl ?_
      refine hL.1 _ _ _ _ _ _ _ rfl (vsk hi hLn (c := 2) (by decide)) ?_
      refine k_aload_n C rfl rfl rfl ?_
      refine k_iload C rfl rfl rfl ?_
      refine k_iconst C (x := 3) rfl rfl rfl ?_
      refine k_iadd C rfl rfl ?_
      refine hL.1 _ _ _ _ _ _ _ rfl (vsk hi hLn (c := 3) (by decide)) ?_
      refine c_VL C (e_m_count_b (A := fun a => a = m ∨ R m 21 = some a ∨ R m 34 = some a) T_m (Or.inl rfl) R_m_21 T_wz N_wz (Or.inr (Or.inl R_m_21)) hrI heI hmI hr9 he1 he hm hge hodd) rfl rfl rfl rfl rfl ⟨_, rfl, rfl, H_m.1, Nat.le_of_ble_eq_true rfl⟩ rfl rfl (by omega) (by omega) (Nat.le_of_ble_eq_true rfl) ?_
      rintro x16 I13 L14 ⟨rfl, f2, z2, k2⟩
      have h15 := LI.rfr h11 H_m nAB hB f2 k2
      refine k_lstore C (lw := [(6, .long _), (5, .int _), (4, .int _), (3, _), (2, _), (1, _), (0, _)]) rfl rfl (Nat.le_of_ble_eq_true rfl) rfl ?_
      refine k_goto C (pc2 := 1899) rfl rfl ?_
      exact K _ _ _ _ _ h15 (by omega) (by omega) (List.forall_mem_cons.mpr ⟨List.mem_of_getElem? (i := 2) rfl, List.forall_mem_cons.mpr ⟨List.mem_of_getElem? (i := 3) rfl, List.forall_mem_cons.mpr ⟨List.mem_of_getElem? (i := 4) rfl, List.forall_mem_cons.mpr ⟨List.mem_of_getElem? (i := 5) rfl, List.forall_mem_cons.mpr ⟨List.mem_of_getElem? (i := 6) rfl, fun _ h => nomatch h⟩⟩⟩⟩⟩)
    have hev : (e * r - n) % 2 = 0 := by omega
    by_cases hz : (e * r - n) / 2 = 0
    · skip
      refine c_SI C (e_L_count_c (A := fun a => a = wy ∨ a = o) T_x R_x_7 T_rw R_rw_5 T_wy N_wy (Or.inl rfl) T_o N_o (Or.inr rfl) hrI heI hmI hr9 he1 he hm hge hev hz) rfl rfl rfl rfl rfl rfl rfl (by omega) (by omega) (Nat.le_of_ble_eq_true rfl) ?_
      rintro x20 I17 L18 ⟨rfl, f1, v1⟩
      have h19 := LI.cfr hLI H_m nAB hA f1
      refine k_istore C (lw := [(5, .int _), (4, .int _), (3, _), (2, _), (1, _), (0, _)]) rfl rfl (Nat.le_of_ble_eq_true rfl) rfl ?_
      refine k_aload_n C rfl rfl rfl ?_
      refine k_aload_n C rfl rfl rfl ?_
      refine k_iload C rfl rfl rfl ?_
      refine k_iconst C (x := 1) rfl rfl rfl ?_
      refine k_iadd C rfl rfl ?_
      refine hL.1 _ _ _ _ _ _ _ rfl (vsk hi hLn (c := 1) (by decide)) ?_
      refine k_aload_n C rfl rfl rfl ?_
      refine k_iload C rfl rfl rfl ?_
      refine k_iconst C (x := 2) rfl rfl rfl ?_
      refine k_iadd C rfl rfl ?_
      refine hL.1 _ _ _ _ _ _ _ rfl (vsk hi hLn (c := 2) (by decide)) ?_
      refine k_aload_n C rfl rfl rfl ?_
      refine k_iload C rfl rfl rfl ?_
      refine k_iconst C (x := 3) rfl rfl rfl ?_
      refine k_iadd C rfl rfl ?_
      refine hL.1 _ _ _ _ _ _ _ rfl (vsk hi hLn (c := 3) (by decide)) ?_
      refine c_VL C (e_m_count_c (A := fun a => a = m ∨ R m 21 = some a ∨ R m 34 = some a) T_m (Or.inl rfl) R_m_21 T_wz N_wz (Or.inr (Or.inl R_m_21)) hrI heI hmI hr9 he1 he hm hge hev hz) rfl rfl rfl rfl rfl ⟨_, rfl, rfl, H_m.1, Nat.le_of_ble_eq_true rfl⟩ rfl rfl (by omega) (by omega) (Nat.le_of_ble_eq_true rfl) ?_
      rintro x24 I21 L22 ⟨rfl, f2, z2, k2⟩
      have h23 := LI.rfr h19 H_m nAB hB f2 k2
      refine k_lstore C (lw := [(6, .long _), (5, .int _), (4, .int _), (3, _), (2, _), (1, _), (0, _)]) rfl rfl (Nat.le_of_ble_eq_true rfl) rfl ?_
      refine k_goto C (pc2 := 1899) rfl rfl ?_
      exact K _ _ _ _ _ h23 (by omega) (by omega) (List.forall_mem_cons.mpr ⟨List.mem_of_getElem? (i := 2) rfl, List.forall_mem_cons.mpr ⟨List.mem_of_getElem? (i := 3) rfl, List.forall_mem_cons.mpr ⟨List.mem_of_getElem? (i := 4) rfl, List.forall_mem_cons.mpr ⟨List.mem_of_getElem? (i := 5) rfl, List.forall_mem_cons.mpr ⟨List.mem_of_getElem? (i := 6) rfl, fun _ h => nomatch h⟩⟩⟩⟩⟩)
    · skip
      refine c_SI C (e_L_count_d (A := fun a => a = wy ∨ a = o) T_x R_x_7 T_rw R_rw_5 T_wy N_wy (Or.inl rfl) T_o N_o (Or.inr rfl) hrI heI hmI hr9 he1 he hm hge hev (Nat.pos_of_ne_zero hz)) rfl rfl rfl rfl rfl rfl rfl (by omega) (by omega) (Nat.le_of_ble_eq_true rfl) ?_
      rintro x28 I25 L26 ⟨rfl, f1, v1⟩
      have h27 := LI.cfr hLI H_m nAB hA f1
      refine k_istore C (lw := [(5, .int _), (4, .int _), (3, _), (2, _), (1, _), (0, _)]) rfl rfl (Nat.le_of_ble_eq_true rfl) rfl ?_
      refine k_aload_n C rfl rfl rfl ?_
      refine k_aload_n C rfl rfl rfl ?_
      refine k_iload C rfl rfl rfl ?_
      refine k_iconst C (x := 1) rfl rfl rfl ?_
      refine k_iadd C rfl rfl ?_
      refine hL.1 _ _ _ _ _ _ _ rfl (vsk hi hLn (c := 1) (by decide)) ?_
      refine k_aload_n C rfl rfl rfl ?_
      refine k_iload C rfl rfl rfl ?_
      refine k_iconst C (x := 2) rfl rfl rfl ?_
      refine k_iadd C rfl rfl ?_
      refine hL.1 _ _ _ _ _ _ _ rfl (vsk hi hLn (c := 2) (by decide)) ?_
      refine k_aload_n C rfl rfl rfl ?_
      refine k_iload C rfl rfl rfl ?_
      refine k_iconst C (x := 3) rfl rfl rfl ?_
      refine k_iadd C rfl rfl ?_
      refine hL.1 _ _ _ _ _ _ _ rfl (vsk hi hLn (c := 3) (by decide)) ?_
      refine c_VL C (e_m_count_d (A := fun a => a = m ∨ R m 21 = some a ∨ R m 34 = some a) T_m (Or.inl rfl) R_m_21 T_wz N_wz (Or.inr (Or.inl R_m_21)) hrI heI hmI hr9 he1 he hm hge hev (Nat.pos_of_ne_zero hz)) rfl rfl rfl rfl rfl ⟨_, rfl, rfl, H_m.1, Nat.le_of_ble_eq_true rfl⟩ rfl rfl (by omega) (by omega) (Nat.le_of_ble_eq_true rfl) ?_
      rintro x32 I29 L30 ⟨rfl, f2, z2, k2⟩
      have h31 := LI.rfr h27 H_m nAB hB f2 k2
      refine k_lstore C (lw := [(6, .long _), (5, .int _), (4, .int _), (3, _), (2, _), (1, _), (0, _)]) rfl rfl (Nat.le_of_ble_eq_true rfl) rfl ?_
      refine k_goto C (pc2 := 1899) rfl rfl ?_
      exact K _ _ _ _ _ h31 (by omega) (by omega) (List.forall_mem_cons.mpr ⟨List.mem_of_getElem? (i := 2) rfl, List.forall_mem_cons.mpr ⟨List.mem_of_getElem? (i := 3) rfl, List.forall_mem_cons.mpr ⟨List.mem_of_getElem? (i := 4) rfl, List.forall_mem_cons.mpr ⟨List.mem_of_getElem? (i := 5) rfl, List.forall_mem_cons.mpr ⟨List.mem_of_getElem? (i := 6) rfl, fun _ h => nomatch h⟩⟩⟩⟩⟩)
  · skip
    refine c_SI C (e_L_count_no T_x hc) rfl rfl rfl rfl rfl rfl rfl (by omega) (by omega) (Nat.le_of_ble_eq_true rfl) ?_
    rintro x36 I33 L34 ⟨rfl, hI8, hL9⟩
    have hI8 := hI8.symm; subst hI8; have hL9 := hL9.symm; subst hL9
    refine k_istore C (lw := [(5, .int _), (4, .int _), (3, _), (2, _), (1, _), (0, _)]) rfl rfl (Nat.le_of_ble_eq_true rfl) rfl ?_
    refine k_aload_n C rfl rfl rfl ?_
    refine k_aload_n C rfl rfl rfl ?_
    refine k_iload C rfl rfl rfl ?_
    refine k_iconst C (x := 1) rfl rfl rfl ?_
    refine k_iadd C rfl rfl ?_
    refine hL.1 _ _ _ _ _ _ _ rfl (vsk hi hLn (c := 1) (by decide)) ?_
    refine k_aload_n C rfl rfl rfl ?_
    refine k_iload C rfl rfl rfl ?_
    refine k_iconst C (x := 2) rfl rfl rfl ?_
    refine k_iadd C rfl rfl ?_
    refine hL.1 _ _ _ _ _ _ _ rfl (vsk hi hLn (c := 2) (by decide)) ?_
    refine k_aload_n C rfl rfl rfl ?_
    refine k_iload C rfl rfl rfl ?_
    refine k_iconst C (x := 3) rfl rfl rfl ?_
    refine k_iadd C rfl rfl ?_
    refine hL.1 _ _ _ _ _ _ _ rfl (vsk hi hLn (c := 3) (by decide)) ?_
    refine c_VL C (e_m_count_no (A := fun a => a = m ∨ R m 21 = some a ∨ R m 34 = some a) T_m (Or.inl rfl) hc) rfl rfl rfl rfl rfl ⟨_, rfl, rfl, H_m.1, Nat.le_of_ble_eq_true rfl⟩ rfl rfl (by omega) (by omega) (Nat.le_of_ble_eq_true rfl) ?_
    rintro x40 I37 L38 ⟨f2, z2, k2⟩
    have h39 := LI.rfr hLI H_m nAB hB f2 k2
    refine k_lstore C (lw := [(6, .long _), (5, .int _), (4, .int _), (3, _), (2, _), (1, _), (0, _)]) rfl rfl (Nat.le_of_ble_eq_true rfl) rfl ?_
    refine k_goto C (pc2 := 1899) rfl rfl ?_
    exact K _ _ _ _ _ h39 (by omega) (by omega) (List.forall_mem_cons.mpr ⟨List.mem_of_getElem? (i := 2) rfl, List.forall_mem_cons.mpr ⟨List.mem_of_getElem? (i := 3) rfl, List.forall_mem_cons.mpr ⟨List.mem_of_getElem? (i := 4) rfl, List.forall_mem_cons.mpr ⟨List.mem_of_getElem? (i := 5) rfl, List.forall_mem_cons.mpr ⟨List.mem_of_getElem? (i := 6) rfl, fun _ h => nomatch h⟩⟩⟩⟩⟩)

set_option maxRecDepth 100000 in
theorem lc_18 {V : V_T} {b x m o Ln i : Nat} {xs : Nat → Int32} {T N : Nat → Nat} {I : IT} {L : LT} {R : RT} {A B : Nat → Prop} {ck sk : Nat} (C : Cl 40 q_law 601024 7293033 law_Po V) (S : SB V) (hL : LSc V b Ln xs) (H_x : h_LF T N R A x) (H_m : h_MD T N R B m) (T_o : T o = 21) (N_o : N o = 1) (A_o : A o) (nAB : ∀ a, A a → ¬ B a) (hi : i + 6 ≤ Ln) (hLn : Ln ≤ 3072) (hLI : LI T R A m I) (hck : ck + 3 ≤ 601024) (hsk : sk + 18 ≤ 7293033) (K : ∀ (lv : List (Nat × Value)) (I9 : IT) (L9 : LT) (ck9 sk9 : Nat), LI T R A m I9 → ck9 ≤ ck + 3 → sk9 ≤ sk + 18 → (∀ z ∈ ([(4, .int (Int32.ofNat i)), (3, .ref o), (2, .ref m), (1, .ref x), (0, .ref b)] : List (Nat × Value)), z ∈ lv) → V 1899 lv [] (T, N, I9, L9, R) ck9 sk9) : V 906 [(4, .int (Int32.ofNat i)), (3, .ref o), (2, .ref m), (1, .ref x), (0, .ref b)] [] (T, N, I, L, R) ck sk := by
  refine k_aload_n C rfl rfl rfl ?_
  refine k_aload_n C rfl rfl rfl ?_
  refine k_iload C rfl rfl rfl ?_
  refine k_iconst C (x := 1) rfl rfl rfl ?_
  refine k_iadd C rfl rfl ?_
  refine hL.1 _ _ _ _ _ _ _ rfl (vsk hi hLn (c := 1) (by decide)) ?_
  refine k_aload_n C rfl rfl rfl ?_
  refine k_iload C rfl rfl rfl ?_
  refine k_iconst C (x := 2) rfl rfl rfl ?_
  refine k_iadd C rfl rfl ?_
  refine hL.1 _ _ _ _ _ _ _ rfl (vsk hi hLn (c := 2) (by decide)) ?_
  refine k_aload_n C rfl rfl rfl ?_
  refine k_iload C rfl rfl rfl ?_
  refine k_iconst C (x := 3) rfl rfl rfl ?_
  refine k_iadd C rfl rfl ?_
  refine hL.1 _ _ _ _ _ _ _ rfl (vsk hi hLn (c := 3) (by decide)) ?_
  refine k_aload_n C rfl rfl rfl ?_
  refine c_SI C (w_L_span hLI.1 H_x T_o N_o A_o) rfl rfl rfl rfl rfl rfl rfl (by omega) (by omega) (Nat.le_of_ble_eq_true rfl) ?_
  rintro x4 I1 L2 ⟨h1, h2⟩
  have h3 := LI.cls hLI H_m nAB h1 h2
  clear h1 h2
  refine k_istore C (lw := [(5, .int _), (4, .int _), (3, _), (2, _), (1, _), (0, _)]) rfl rfl (Nat.le_of_ble_eq_true rfl) rfl ?_
  refine k_aload_n C rfl rfl rfl ?_
  refine k_aload_n C rfl rfl rfl ?_
  refine k_iload C rfl rfl rfl ?_
  refine k_iconst C (x := 1) rfl rfl rfl ?_
  refine k_iadd C rfl rfl ?_
  refine hL.1 _ _ _ _ _ _ _ rfl (vsk hi hLn (c := 1) (by decide)) ?_
  refine k_aload_n C rfl rfl rfl ?_
  refine k_iload C rfl rfl rfl ?_
  refine k_iconst C (x := 2) rfl rfl rfl ?_
  refine k_iadd C rfl rfl ?_
  refine hL.1 _ _ _ _ _ _ _ rfl (vsk hi hLn (c := 2) (by decide)) ?_
  refine k_aload_n C rfl rfl rfl ?_
  refine k_iload C rfl rfl rfl ?_
  refine k_iconst C (x := 3) rfl rfl rfl ?_
  refine k_iadd C rfl rfl ?_
  refine hL.1 _ _ _ _ _ _ _ rfl (vsk hi hLn (c := 3) (by decide)) ?_
  refine c_VI C (a_X12_span h3.2.1 H_m) rfl rfl rfl rfl rfl ⟨_, rfl, rfl, H_m.1, Nat.le_of_ble_eq_true rfl⟩ rfl rfl (by omega) (by omega) (Nat.le_of_ble_eq_true rfl) ?_
  rintro x8 I5 L6 ⟨h1, h2⟩
  have h7 := LI.ref0 h3 H_m nAB h1 h2 (by decide) (by decide) (by decide)
  clear h1 h2
  refine k_istore C (lw := [(6, .int _), (5, .int _), (4, .int _), (3, _), (2, _), (1, _), (0, _)]) rfl rfl (Nat.le_of_ble_eq_true rfl) rfl ?_
  refine k_goto C (pc2 := 1899) rfl rfl ?_
  exact K _ _ _ _ _ h7 (by omega) (by omega) (List.forall_mem_cons.mpr ⟨List.mem_of_getElem? (i := 2) rfl, List.forall_mem_cons.mpr ⟨List.mem_of_getElem? (i := 3) rfl, List.forall_mem_cons.mpr ⟨List.mem_of_getElem? (i := 4) rfl, List.forall_mem_cons.mpr ⟨List.mem_of_getElem? (i := 5) rfl, List.forall_mem_cons.mpr ⟨List.mem_of_getElem? (i := 6) rfl, fun _ h => nomatch h⟩⟩⟩⟩⟩)

set_option maxRecDepth 100000 in
theorem lc_19 {V : V_T} {b x m o Ln i : Nat} {xs : Nat → Int32} {T N : Nat → Nat} {I : IT} {L : LT} {R : RT} {A B : Nat → Prop} {ck sk : Nat} (C : Cl 40 q_law 601024 7293033 law_Po V) (S : SB V) (hL : LSc V b Ln xs) (H_x : h_LF T N R A x) (H_m : h_MD T N R B m) (T_o : T o = 21) (N_o : N o = 1) (A_o : A o) (nAB : ∀ a, A a → ¬ B a) (hi : i + 6 ≤ Ln) (hLn : Ln ≤ 3072) (hLI : LI T R A m I) (hck : ck + 3 ≤ 601024) (hsk : sk + 18 ≤ 7293033) (K : ∀ (lv : List (Nat × Value)) (I9 : IT) (L9 : LT) (ck9 sk9 : Nat), LI T R A m I9 → ck9 ≤ ck + 3 → sk9 ≤ sk + 18 → (∀ z ∈ ([(4, .int (Int32.ofNat i)), (3, .ref o), (2, .ref m), (1, .ref x), (0, .ref b)] : List (Nat × Value)), z ∈ lv) → V 1899 lv [] (T, N, I9, L9, R) ck9 sk9) : V 958 [(4, .int (Int32.ofNat i)), (3, .ref o), (2, .ref m), (1, .ref x), (0, .ref b)] [] (T, N, I, L, R) ck sk := by
  refine k_aload_n C rfl rfl rfl ?_
  refine k_aload_n C rfl rfl rfl ?_
  refine k_iload C rfl rfl rfl ?_
  refine k_iconst C (x := 1) rfl rfl rfl ?_
  refine k_iadd C rfl rfl ?_
  refine hL.1 _ _ _ _ _ _ _ rfl (vsk hi hLn (c := 1) (by decide)) ?_
  refine k_aload_n C rfl rfl rfl ?_
  refine k_iload C rfl rfl rfl ?_
  refine k_iconst C (x := 2) rfl rfl rfl ?_
  refine k_iadd C rfl rfl ?_
  refine hL.1 _ _ _ _ _ _ _ rfl (vsk hi hLn (c := 2) (by decide)) ?_
  refine k_aload_n C rfl rfl rfl ?_
  refine k_iload C rfl rfl rfl ?_
  refine k_iconst C (x := 3) rfl rfl rfl ?_
  refine k_iadd C rfl rfl ?_
  refine hL.1 _ _ _ _ _ _ _ rfl (vsk hi hLn (c := 3) (by decide)) ?_
  refine k_aload_n C rfl rfl rfl ?_
  refine c_SI C (w_L_basis hLI.1 H_x T_o N_o A_o) rfl rfl rfl rfl rfl rfl rfl (by omega) (by omega) (Nat.le_of_ble_eq_true rfl) ?_
  rintro x4 I1 L2 ⟨h1, h2⟩
  have h3 := LI.cls hLI H_m nAB h1 h2
  clear h1 h2
  refine k_istore C (lw := [(5, .int _), (4, .int _), (3, _), (2, _), (1, _), (0, _)]) rfl rfl (Nat.le_of_ble_eq_true rfl) rfl ?_
  refine k_aload_n C rfl rfl rfl ?_
  refine k_aload_n C rfl rfl rfl ?_
  refine k_iload C rfl rfl rfl ?_
  refine k_iconst C (x := 1) rfl rfl rfl ?_
  refine k_iadd C rfl rfl ?_
  refine hL.1 _ _ _ _ _ _ _ rfl (vsk hi hLn (c := 1) (by decide)) ?_
  refine k_aload_n C rfl rfl rfl ?_
  refine k_iload C rfl rfl rfl ?_
  refine k_iconst C (x := 2) rfl rfl rfl ?_
  refine k_iadd C rfl rfl ?_
  refine hL.1 _ _ _ _ _ _ _ rfl (vsk hi hLn (c := 2) (by decide)) ?_
  refine k_aload_n C rfl rfl rfl ?_
  refine k_iload C rfl rfl rfl ?_
  refine k_iconst C (x := 3) rfl rfl rfl ?_
  refine k_iadd C rfl rfl ?_
  refine hL.1 _ _ _ _ _ _ _ rfl (vsk hi hLn (c := 3) (by decide)) ?_
  refine c_VI C (a_X12_basis h3.2.1 H_m) rfl rfl rfl rfl rfl ⟨_, rfl, rfl, H_m.1, Nat.le_of_ble_eq_true rfl⟩ rfl rfl (by omega) (by omega) (Nat.le_of_ble_eq_true rfl) ?_
  rintro x8 I5 L6 ⟨h1, h2⟩
  have h7 := LI.ref0 h3 H_m nAB h1 h2 (by decide) (by decide) (by decide)
  clear h1 h2
  refine k_istore C (lw := [(6, .int _), (5, .int _), (4, .int _), (3, _), (2, _), (1, _), (0, _)]) rfl rfl (Nat.le_of_ble_eq_true rfl) rfl ?_
  refine k_goto C (pc2 := 1899) rfl rfl ?_
  exact K _ _ _ _ _ h7 (by omega) (by omega) (List.forall_mem_cons.mpr ⟨List.mem_of_getElem? (i := 2) rfl, List.forall_mem_cons.mpr ⟨List.mem_of_getElem? (i := 3) rfl, List.forall_mem_cons.mpr ⟨List.mem_of_getElem? (i := 4) rfl, List.forall_mem_cons.mpr ⟨List.mem_of_getElem? (i := 5) rfl, List.forall_mem_cons.mpr ⟨List.mem_of_getElem? (i := 6) rfl, fun _ h => nomatch h⟩⟩⟩⟩⟩)

set_option maxRecDepth 100000 in
theorem lc_20 {V : V_T} {b x m o Ln i : Nat} {xs : Nat → Int32} {T N : Nat → Nat} {I : IT} {L : LT} {R : RT} {A B : Nat → Prop} {ck sk : Nat} (C : Cl 40 q_law 601024 7293033 law_Po V) (S : SB V) (hL : LSc V b Ln xs) (H_x : h_LF T N R A x) (H_m : h_MD T N R B m) (T_o : T o = 21) (N_o : N o = 1) (A_o : A o) (nAB : ∀ a, A a → ¬ B a) (hi : i + 6 ≤ Ln) (hLn : Ln ≤ 3072) (hLI : LI T R A m I) (hck : ck + 3 ≤ 601024) (hsk : sk + 18 ≤ 7293033) (K : ∀ (lv : List (Nat × Value)) (I9 : IT) (L9 : LT) (ck9 sk9 : Nat), LI T R A m I9 → ck9 ≤ ck + 3 → sk9 ≤ sk + 18 → (∀ z ∈ ([(4, .int (Int32.ofNat i)), (3, .ref o), (2, .ref m), (1, .ref x), (0, .ref b)] : List (Nat × Value)), z ∈ lv) → V 1899 lv [] (T, N, I9, L9, R) ck9 sk9) : V 1010 [(4, .int (Int32.ofNat i)), (3, .ref o), (2, .ref m), (1, .ref x), (0, .ref b)] [] (T, N, I, L, R) ck sk := by
  refine k_aload_n C rfl rfl rfl ?_
  refine k_aload_n C rfl rfl rfl ?_
  refine k_iload C rfl rfl rfl ?_
  refine k_iconst C (x := 1) rfl rfl rfl ?_
  refine k_iadd C rfl rfl ?_
  refine hL.1 _ _ _ _ _ _ _ rfl (vsk hi hLn (c := 1) (by decide)) ?_
  refine k_aload_n C rfl rfl rfl ?_
  refine c_SI C (w_L_kind hLI.1 H_x T_o N_o A_o) rfl rfl rfl rfl rfl rfl rfl (by omega) (by omega) (Nat.le_of_ble_eq_true rfl) ?_
  rintro x4 I1 L2 ⟨h1, h2⟩
  have h3 := LI.cls hLI H_m nAB h1 h2
  clear h1 h2
  refine k_istore C (lw := [(5, .int _), (4, .int _), (3, _), (2, _), (1, _), (0, _)]) rfl rfl (Nat.le_of_ble_eq_true rfl) rfl ?_
  refine k_aload_n C rfl rfl rfl ?_
  refine k_aload_n C rfl rfl rfl ?_
  refine k_iload C rfl rfl rfl ?_
  refine k_iconst C (x := 1) rfl rfl rfl ?_
  refine k_iadd C rfl rfl ?_
  refine hL.1 _ _ _ _ _ _ _ rfl (vsk hi hLn (c := 1) (by decide)) ?_
  refine c_VI C (a_X12_kind h3.2.1 H_m) rfl rfl rfl rfl rfl ⟨_, rfl, rfl, H_m.1, Nat.le_of_ble_eq_true rfl⟩ rfl rfl (by omega) (by omega) (Nat.le_of_ble_eq_true rfl) ?_
  rintro x8 I5 L6 ⟨h1, h2⟩
  have h7 := LI.ref0 h3 H_m nAB h1 h2 (by decide) (by decide) (by decide)
  clear h1 h2
  refine k_istore C (lw := [(6, .int _), (5, .int _), (4, .int _), (3, _), (2, _), (1, _), (0, _)]) rfl rfl (Nat.le_of_ble_eq_true rfl) rfl ?_
  refine k_goto C (pc2 := 1899) rfl rfl ?_
  exact K _ _ _ _ _ h7 (by omega) (by omega) (List.forall_mem_cons.mpr ⟨List.mem_of_getElem? (i := 2) rfl, List.forall_mem_cons.mpr ⟨List.mem_of_getElem? (i := 3) rfl, List.forall_mem_cons.mpr ⟨List.mem_of_getElem? (i := 4) rfl, List.forall_mem_cons.mpr ⟨List.mem_of_getElem? (i := 5) rfl, List.forall_mem_cons.mpr ⟨List.mem_of_getElem? (i := 6) rfl, fun _ h => nomatch h⟩⟩⟩⟩⟩)

set_option maxRecDepth 100000 in
theorem lc_21 {V : V_T} {b x m o Ln i : Nat} {xs : Nat → Int32} {T N : Nat → Nat} {I : IT} {L : LT} {R : RT} {A B : Nat → Prop} {ck sk : Nat} (C : Cl 40 q_law 601024 7293033 law_Po V) (S : SB V) (hL : LSc V b Ln xs) (H_x : h_LF T N R A x) (H_m : h_MD T N R B m) (T_o : T o = 21) (N_o : N o = 1) (A_o : A o) (nAB : ∀ a, A a → ¬ B a) (hi : i + 6 ≤ Ln) (hLn : Ln ≤ 3072) (hLI : LI T R A m I) (hck : ck + 3 ≤ 601024) (hsk : sk + 18 ≤ 7293033) (K : ∀ (lv : List (Nat × Value)) (I9 : IT) (L9 : LT) (ck9 sk9 : Nat), LI T R A m I9 → ck9 ≤ ck + 3 → sk9 ≤ sk + 18 → (∀ z ∈ ([(4, .int (Int32.ofNat i)), (3, .ref o), (2, .ref m), (1, .ref x), (0, .ref b)] : List (Nat × Value)), z ∈ lv) → V 1899 lv [] (T, N, I9, L9, R) ck9 sk9) : V 1038 [(4, .int (Int32.ofNat i)), (3, .ref o), (2, .ref m), (1, .ref x), (0, .ref b)] [] (T, N, I, L, R) ck sk := by
  refine k_aload_n C rfl rfl rfl ?_
  refine k_aload_n C rfl rfl rfl ?_
  refine k_iload C rfl rfl rfl ?_
  refine k_iconst C (x := 1) rfl rfl rfl ?_
  refine k_iadd C rfl rfl ?_
  refine hL.1 _ _ _ _ _ _ _ rfl (vsk hi hLn (c := 1) (by decide)) ?_
  refine k_aload_n C rfl rfl rfl ?_
  refine c_SI C (w_L_orbit hLI.1 H_x T_o N_o A_o) rfl rfl rfl rfl rfl rfl rfl (by omega) (by omega) (Nat.le_of_ble_eq_true rfl) ?_
  rintro x4 I1 L2 ⟨h1, h2⟩
  have h3 := LI.cls hLI H_m nAB h1 h2
  clear h1 h2
  refine k_istore C (lw := [(5, .int _), (4, .int _), (3, _), (2, _), (1, _), (0, _)]) rfl rfl (Nat.le_of_ble_eq_true rfl) rfl ?_
  refine k_aload_n C rfl rfl rfl ?_
  refine k_aload_n C rfl rfl rfl ?_
  refine k_iload C rfl rfl rfl ?_
  refine k_iconst C (x := 1) rfl rfl rfl ?_
  refine k_iadd C rfl rfl ?_
  refine hL.1 _ _ _ _ _ _ _ rfl (vsk hi hLn (c := 1) (by decide)) ?_
  refine c_VI C (a_X12_orbit h3.2.1 H_m) rfl rfl rfl rfl rfl ⟨_, rfl, rfl, H_m.1, Nat.le_of_ble_eq_true rfl⟩ rfl rfl (by omega) (by omega) (Nat.le_of_ble_eq_true rfl) ?_
  rintro x8 I5 L6 ⟨h1, h2⟩
  have h7 := LI.ref0 h3 H_m nAB h1 h2 (by decide) (by decide) (by decide)
  clear h1 h2
  refine k_istore C (lw := [(6, .int _), (5, .int _), (4, .int _), (3, _), (2, _), (1, _), (0, _)]) rfl rfl (Nat.le_of_ble_eq_true rfl) rfl ?_
  refine k_goto C (pc2 := 1899) rfl rfl ?_
  exact K _ _ _ _ _ h7 (by omega) (by omega) (List.forall_mem_cons.mpr ⟨List.mem_of_getElem? (i := 2) rfl, List.forall_mem_cons.mpr ⟨List.mem_of_getElem? (i := 3) rfl, List.forall_mem_cons.mpr ⟨List.mem_of_getElem? (i := 4) rfl, List.forall_mem_cons.mpr ⟨List.mem_of_getElem? (i := 5) rfl, List.forall_mem_cons.mpr ⟨List.mem_of_getElem? (i := 6) rfl, fun _ h => nomatch h⟩⟩⟩⟩⟩)

set_option maxRecDepth 100000 in
theorem lc_22 {V : V_T} {b x m o Ln i : Nat} {xs : Nat → Int32} {T N : Nat → Nat} {I : IT} {L : LT} {R : RT} {A B : Nat → Prop} {ck sk : Nat} (C : Cl 40 q_law 601024 7293033 law_Po V) (S : SB V) (hL : LSc V b Ln xs) (H_x : h_LF T N R A x) (H_m : h_MD T N R B m) (T_o : T o = 21) (N_o : N o = 1) (A_o : A o) (nAB : ∀ a, A a → ¬ B a) (hi : i + 6 ≤ Ln) (hLn : Ln ≤ 3072) (hLI : LI T R A m I) (hck : ck + 3 ≤ 601024) (hsk : sk + 18 ≤ 7293033) (K : ∀ (lv : List (Nat × Value)) (I9 : IT) (L9 : LT) (ck9 sk9 : Nat), LI T R A m I9 → ck9 ≤ ck + 3 → sk9 ≤ sk + 18 → (∀ z ∈ ([(4, .int (Int32.ofNat i)), (3, .ref o), (2, .ref m), (1, .ref x), (0, .ref b)] : List (Nat × Value)), z ∈ lv) → V 1899 lv [] (T, N, I9, L9, R) ck9 sk9) : V 1066 [(4, .int (Int32.ofNat i)), (3, .ref o), (2, .ref m), (1, .ref x), (0, .ref b)] [] (T, N, I, L, R) ck sk := by
  refine k_aload_n C rfl rfl rfl ?_
  refine k_aload_n C rfl rfl rfl ?_
  refine k_iload C rfl rfl rfl ?_
  refine k_iconst C (x := 1) rfl rfl rfl ?_
  refine k_iadd C rfl rfl ?_
  refine hL.1 _ _ _ _ _ _ _ rfl (vsk hi hLn (c := 1) (by decide)) ?_
  refine k_aload_n C rfl rfl rfl ?_
  refine k_iload C rfl rfl rfl ?_
  refine k_iconst C (x := 2) rfl rfl rfl ?_
  refine k_iadd C rfl rfl ?_
  refine hL.1 _ _ _ _ _ _ _ rfl (vsk hi hLn (c := 2) (by decide)) ?_
  refine k_aload_n C rfl rfl rfl ?_
  refine c_SI C (w_L_join hLI.1 H_x T_o N_o A_o) rfl rfl rfl rfl rfl rfl rfl (by omega) (by omega) (Nat.le_of_ble_eq_true rfl) ?_
  rintro x4 I1 L2 ⟨h1, h2⟩
  have h3 := LI.cls hLI H_m nAB h1 h2
  clear h1 h2
  refine k_istore C (lw := [(5, .int _), (4, .int _), (3, _), (2, _), (1, _), (0, _)]) rfl rfl (Nat.le_of_ble_eq_true rfl) rfl ?_
  refine k_aload_n C rfl rfl rfl ?_
  refine k_aload_n C rfl rfl rfl ?_
  refine k_iload C rfl rfl rfl ?_
  refine k_iconst C (x := 1) rfl rfl rfl ?_
  refine k_iadd C rfl rfl ?_
  refine hL.1 _ _ _ _ _ _ _ rfl (vsk hi hLn (c := 1) (by decide)) ?_
  refine k_aload_n C rfl rfl rfl ?_
  refine k_iload C rfl rfl rfl ?_
  refine k_iconst C (x := 2) rfl rfl rfl ?_
  refine k_iadd C rfl rfl ?_
  refine hL.1 _ _ _ _ _ _ _ rfl (vsk hi hLn (c := 2) (by decide)) ?_
  refine c_VI C (a_X12_join h3.2.1 H_m) rfl rfl rfl rfl rfl ⟨_, rfl, rfl, H_m.1, Nat.le_of_ble_eq_true rfl⟩ rfl rfl (by omega) (by omega) (Nat.le_of_ble_eq_true rfl) ?_
  rintro x8 I5 L6 ⟨-, -, s9, h1, h2⟩
  have h7 := LI.ref h3 H_m nAB h1 h2 (by decide) (by decide) (fun w hw => s9 w hw (h3.2.2.1 w hw))
  clear h1 h2
  refine k_istore C (lw := [(6, .int _), (5, .int _), (4, .int _), (3, _), (2, _), (1, _), (0, _)]) rfl rfl (Nat.le_of_ble_eq_true rfl) rfl ?_
  refine k_goto C (pc2 := 1899) rfl rfl ?_
  exact K _ _ _ _ _ h7 (by omega) (by omega) (List.forall_mem_cons.mpr ⟨List.mem_of_getElem? (i := 2) rfl, List.forall_mem_cons.mpr ⟨List.mem_of_getElem? (i := 3) rfl, List.forall_mem_cons.mpr ⟨List.mem_of_getElem? (i := 4) rfl, List.forall_mem_cons.mpr ⟨List.mem_of_getElem? (i := 5) rfl, List.forall_mem_cons.mpr ⟨List.mem_of_getElem? (i := 6) rfl, fun _ h => nomatch h⟩⟩⟩⟩⟩)

set_option maxRecDepth 100000 in
theorem lc_23 {V : V_T} {b x m o Ln i : Nat} {xs : Nat → Int32} {T N : Nat → Nat} {I : IT} {L : LT} {R : RT} {A B : Nat → Prop} {ck sk : Nat} (C : Cl 40 q_law 601024 7293033 law_Po V) (S : SB V) (hL : LSc V b Ln xs) (H_x : h_LF T N R A x) (H_m : h_MD T N R B m) (T_o : T o = 21) (N_o : N o = 1) (A_o : A o) (nAB : ∀ a, A a → ¬ B a) (hi : i + 6 ≤ Ln) (hLn : Ln ≤ 3072) (hLI : LI T R A m I) (hck : ck + 3 ≤ 601024) (hsk : sk + 18 ≤ 7293033) (K : ∀ (lv : List (Nat × Value)) (I9 : IT) (L9 : LT) (ck9 sk9 : Nat), LI T R A m I9 → ck9 ≤ ck + 3 → sk9 ≤ sk + 18 → (∀ z ∈ ([(4, .int (Int32.ofNat i)), (3, .ref o), (2, .ref m), (1, .ref x), (0, .ref b)] : List (Nat × Value)), z ∈ lv) → V 1899 lv [] (T, N, I9, L9, R) ck9 sk9) : V 1106 [(4, .int (Int32.ofNat i)), (3, .ref o), (2, .ref m), (1, .ref x), (0, .ref b)] [] (T, N, I, L, R) ck sk := by
  refine k_aload_n C rfl rfl rfl ?_
  refine k_aload_n C rfl rfl rfl ?_
  refine k_iload C rfl rfl rfl ?_
  refine k_iconst C (x := 1) rfl rfl rfl ?_
  refine k_iadd C rfl rfl ?_
  refine hL.1 _ _ _ _ _ _ _ rfl (vsk hi hLn (c := 1) (by decide)) ?_
  refine k_aload_n C rfl rfl rfl ?_
  refine c_SI C (w_L_turn hLI.1 H_x T_o N_o A_o) rfl rfl rfl rfl rfl rfl rfl (by omega) (by omega) (Nat.le_of_ble_eq_true rfl) ?_
  rintro x4 I1 L2 ⟨h1, h2⟩
  have h3 := LI.cls hLI H_m nAB h1 h2
  clear h1 h2
  refine k_istore C (lw := [(5, .int _), (4, .int _), (3, _), (2, _), (1, _), (0, _)]) rfl rfl (Nat.le_of_ble_eq_true rfl) rfl ?_
  refine k_aload_n C rfl rfl rfl ?_
  refine k_aload_n C rfl rfl rfl ?_
  refine k_iload C rfl rfl rfl ?_
  refine k_iconst C (x := 1) rfl rfl rfl ?_
  refine k_iadd C rfl rfl ?_
  refine hL.1 _ _ _ _ _ _ _ rfl (vsk hi hLn (c := 1) (by decide)) ?_
  refine c_VI C (a_X12_turn h3.2.1 H_m) rfl rfl rfl rfl rfl ⟨_, rfl, rfl, H_m.1, Nat.le_of_ble_eq_true rfl⟩ rfl rfl (by omega) (by omega) (Nat.le_of_ble_eq_true rfl) ?_
  rintro x8 I5 L6 ⟨-, -, s9, h1, h2⟩
  have h7 := LI.ref h3 H_m nAB h1 h2 (by decide) (by decide) (fun w hw => s9 w hw (h3.2.2.1 w hw))
  clear h1 h2
  refine k_istore C (lw := [(6, .int _), (5, .int _), (4, .int _), (3, _), (2, _), (1, _), (0, _)]) rfl rfl (Nat.le_of_ble_eq_true rfl) rfl ?_
  refine k_goto C (pc2 := 1899) rfl rfl ?_
  exact K _ _ _ _ _ h7 (by omega) (by omega) (List.forall_mem_cons.mpr ⟨List.mem_of_getElem? (i := 2) rfl, List.forall_mem_cons.mpr ⟨List.mem_of_getElem? (i := 3) rfl, List.forall_mem_cons.mpr ⟨List.mem_of_getElem? (i := 4) rfl, List.forall_mem_cons.mpr ⟨List.mem_of_getElem? (i := 5) rfl, List.forall_mem_cons.mpr ⟨List.mem_of_getElem? (i := 6) rfl, fun _ h => nomatch h⟩⟩⟩⟩⟩)

set_option maxRecDepth 100000 in
theorem lc_24 {V : V_T} {b x m o Ln i : Nat} {xs : Nat → Int32} {T N : Nat → Nat} {I : IT} {L : LT} {R : RT} {A B : Nat → Prop} {ck sk : Nat} (C : Cl 40 q_law 601024 7293033 law_Po V) (S : SB V) (hL : LSc V b Ln xs) (H_x : h_LF T N R A x) (H_m : h_MD T N R B m) (T_o : T o = 21) (N_o : N o = 1) (A_o : A o) (nAB : ∀ a, A a → ¬ B a) (hi : i + 6 ≤ Ln) (hLn : Ln ≤ 3072) (hLI : LI T R A m I) (hck : ck + 3 ≤ 601024) (hsk : sk + 18 ≤ 7293033) (K : ∀ (lv : List (Nat × Value)) (I9 : IT) (L9 : LT) (ck9 sk9 : Nat), LI T R A m I9 → ck9 ≤ ck + 3 → sk9 ≤ sk + 18 → (∀ z ∈ ([(4, .int (Int32.ofNat i)), (3, .ref o), (2, .ref m), (1, .ref x), (0, .ref b)] : List (Nat × Value)), z ∈ lv) → V 1899 lv [] (T, N, I9, L9, R) ck9 sk9) : V 1134 [(4, .int (Int32.ofNat i)), (3, .ref o), (2, .ref m), (1, .ref x), (0, .ref b)] [] (T, N, I, L, R) ck sk := by
  refine k_aload_n C rfl rfl rfl ?_
  refine k_aload_n C rfl rfl rfl ?_
  refine k_iload C rfl rfl rfl ?_
  refine k_iconst C (x := 1) rfl rfl rfl ?_
  refine k_iadd C rfl rfl ?_
  refine hL.1 _ _ _ _ _ _ _ rfl (vsk hi hLn (c := 1) (by decide)) ?_
  refine k_aload_n C rfl rfl rfl ?_
  refine k_iload C rfl rfl rfl ?_
  refine k_iconst C (x := 2) rfl rfl rfl ?_
  refine k_iadd C rfl rfl ?_
  refine hL.1 _ _ _ _ _ _ _ rfl (vsk hi hLn (c := 2) (by decide)) ?_
  refine k_aload_n C rfl rfl rfl ?_
  refine c_SI C (w_L_told hLI.1 H_x T_o N_o A_o) rfl rfl rfl rfl rfl rfl rfl (by omega) (by omega) (Nat.le_of_ble_eq_true rfl) ?_
  rintro x4 I1 L2 ⟨h1, h2⟩
  have h3 := LI.cls hLI H_m nAB h1 h2
  clear h1 h2
  refine k_istore C (lw := [(5, .int _), (4, .int _), (3, _), (2, _), (1, _), (0, _)]) rfl rfl (Nat.le_of_ble_eq_true rfl) rfl ?_
  refine k_aload_n C rfl rfl rfl ?_
  refine k_aload_n C rfl rfl rfl ?_
  refine k_iload C rfl rfl rfl ?_
  refine k_iconst C (x := 1) rfl rfl rfl ?_
  refine k_iadd C rfl rfl ?_
  refine hL.1 _ _ _ _ _ _ _ rfl (vsk hi hLn (c := 1) (by decide)) ?_
  refine k_aload_n C rfl rfl rfl ?_
  refine k_iload C rfl rfl rfl ?_
  refine k_iconst C (x := 2) rfl rfl rfl ?_
  refine k_iadd C rfl rfl ?_
  refine hL.1 _ _ _ _ _ _ _ rfl (vsk hi hLn (c := 2) (by decide)) ?_
  refine c_VI C (a_X12_told h3.2.1 H_m) rfl rfl rfl rfl rfl ⟨_, rfl, rfl, H_m.1, Nat.le_of_ble_eq_true rfl⟩ rfl rfl (by omega) (by omega) (Nat.le_of_ble_eq_true rfl) ?_
  rintro x8 I5 L6 ⟨-, -, h1, h2⟩
  have h7 := LI.ref0 h3 H_m nAB h1 h2 (by decide) (by decide) (by decide)
  clear h1 h2
  refine k_istore C (lw := [(6, .int _), (5, .int _), (4, .int _), (3, _), (2, _), (1, _), (0, _)]) rfl rfl (Nat.le_of_ble_eq_true rfl) rfl ?_
  refine k_goto C (pc2 := 1899) rfl rfl ?_
  exact K _ _ _ _ _ h7 (by omega) (by omega) (List.forall_mem_cons.mpr ⟨List.mem_of_getElem? (i := 2) rfl, List.forall_mem_cons.mpr ⟨List.mem_of_getElem? (i := 3) rfl, List.forall_mem_cons.mpr ⟨List.mem_of_getElem? (i := 4) rfl, List.forall_mem_cons.mpr ⟨List.mem_of_getElem? (i := 5) rfl, List.forall_mem_cons.mpr ⟨List.mem_of_getElem? (i := 6) rfl, fun _ h => nomatch h⟩⟩⟩⟩⟩)

set_option maxRecDepth 100000 in
theorem lc_25 {V : V_T} {b x m o Ln i : Nat} {xs : Nat → Int32} {T N : Nat → Nat} {I : IT} {L : LT} {R : RT} {A B : Nat → Prop} {ck sk : Nat} (C : Cl 40 q_law 601024 7293033 law_Po V) (S : SB V) (hL : LSc V b Ln xs) (H_x : h_LF T N R A x) (H_m : h_MD T N R B m) (T_o : T o = 21) (N_o : N o = 1) (A_o : A o) (nAB : ∀ a, A a → ¬ B a) (hi : i + 6 ≤ Ln) (hLn : Ln ≤ 3072) (hLI : LI T R A m I) (hck : ck + 3 ≤ 601024) (hsk : sk + 18 ≤ 7293033) (K : ∀ (lv : List (Nat × Value)) (I9 : IT) (L9 : LT) (ck9 sk9 : Nat), LI T R A m I9 → ck9 ≤ ck + 3 → sk9 ≤ sk + 18 → (∀ z ∈ ([(4, .int (Int32.ofNat i)), (3, .ref o), (2, .ref m), (1, .ref x), (0, .ref b)] : List (Nat × Value)), z ∈ lv) → V 1899 lv [] (T, N, I9, L9, R) ck9 sk9) : V 1174 [(4, .int (Int32.ofNat i)), (3, .ref o), (2, .ref m), (1, .ref x), (0, .ref b)] [] (T, N, I, L, R) ck sk := by
  refine k_aload_n C rfl rfl rfl ?_
  refine k_aload_n C rfl rfl rfl ?_
  refine k_iload C rfl rfl rfl ?_
  refine k_iconst C (x := 1) rfl rfl rfl ?_
  refine k_iadd C rfl rfl ?_
  refine hL.1 _ _ _ _ _ _ _ rfl (vsk hi hLn (c := 1) (by decide)) ?_
  refine k_aload_n C rfl rfl rfl ?_
  refine k_iload C rfl rfl rfl ?_
  refine k_iconst C (x := 2) rfl rfl rfl ?_
  refine k_iadd C rfl rfl ?_
  refine hL.1 _ _ _ _ _ _ _ rfl (vsk hi hLn (c := 2) (by decide)) ?_
  refine k_aload_n C rfl rfl rfl ?_
  refine k_iload C rfl rfl rfl ?_
  refine k_iconst C (x := 3) rfl rfl rfl ?_
  refine k_iadd C rfl rfl ?_
  refine hL.1 _ _ _ _ _ _ _ rfl (vsk hi hLn (c := 3) (by decide)) ?_
  refine k_aload_n C rfl rfl rfl ?_
  refine c_SI C (w_L_quotient hLI.1 H_x T_o N_o A_o) rfl rfl rfl rfl rfl rfl rfl (by omega) (by omega) (Nat.le_of_ble_eq_true rfl) ?_
  rintro x4 I1 L2 ⟨h1, h2⟩
  have h3 := LI.cls hLI H_m nAB h1 h2
  clear h1 h2
  refine k_istore C (lw := [(5, .int _), (4, .int _), (3, _), (2, _), (1, _), (0, _)]) rfl rfl (Nat.le_of_ble_eq_true rfl) rfl ?_
  refine k_aload_n C rfl rfl rfl ?_
  refine k_aload_n C rfl rfl rfl ?_
  refine k_iload C rfl rfl rfl ?_
  refine k_iconst C (x := 1) rfl rfl rfl ?_
  refine k_iadd C rfl rfl ?_
  refine hL.1 _ _ _ _ _ _ _ rfl (vsk hi hLn (c := 1) (by decide)) ?_
  refine k_aload_n C rfl rfl rfl ?_
  refine k_iload C rfl rfl rfl ?_
  refine k_iconst C (x := 2) rfl rfl rfl ?_
  refine k_iadd C rfl rfl ?_
  refine hL.1 _ _ _ _ _ _ _ rfl (vsk hi hLn (c := 2) (by decide)) ?_
  refine k_aload_n C rfl rfl rfl ?_
  refine k_iload C rfl rfl rfl ?_
  refine k_iconst C (x := 3) rfl rfl rfl ?_
  refine k_iadd C rfl rfl ?_
  refine hL.1 _ _ _ _ _ _ _ rfl (vsk hi hLn (c := 3) (by decide)) ?_
  refine c_VI C (a_X12_quotient h3.2.1 H_m) rfl rfl rfl rfl rfl ⟨_, rfl, rfl, H_m.1, Nat.le_of_ble_eq_true rfl⟩ rfl rfl (by omega) (by omega) (Nat.le_of_ble_eq_true rfl) ?_
  rintro x8 I5 L6 ⟨-, -, h1, h2⟩
  have h7 := LI.ref0 h3 H_m nAB h1 h2 (by decide) (by decide) (by decide)
  clear h1 h2
  refine k_istore C (lw := [(6, .int _), (5, .int _), (4, .int _), (3, _), (2, _), (1, _), (0, _)]) rfl rfl (Nat.le_of_ble_eq_true rfl) rfl ?_
  refine k_goto C (pc2 := 1899) rfl rfl ?_
  exact K _ _ _ _ _ h7 (by omega) (by omega) (List.forall_mem_cons.mpr ⟨List.mem_of_getElem? (i := 2) rfl, List.forall_mem_cons.mpr ⟨List.mem_of_getElem? (i := 3) rfl, List.forall_mem_cons.mpr ⟨List.mem_of_getElem? (i := 4) rfl, List.forall_mem_cons.mpr ⟨List.mem_of_getElem? (i := 5) rfl, List.forall_mem_cons.mpr ⟨List.mem_of_getElem? (i := 6) rfl, fun _ h => nomatch h⟩⟩⟩⟩⟩)

set_option maxRecDepth 100000 in
theorem lc_26 {V : V_T} {b x m o Ln i : Nat} {xs : Nat → Int32} {T N : Nat → Nat} {I : IT} {L : LT} {R : RT} {A B : Nat → Prop} {ck sk : Nat} (C : Cl 40 q_law 601024 7293033 law_Po V) (S : SB V) (hL : LSc V b Ln xs) (H_x : h_LF T N R A x) (H_m : h_MD T N R B m) (T_o : T o = 21) (N_o : N o = 1) (A_o : A o) (nAB : ∀ a, A a → ¬ B a) (hi : i + 6 ≤ Ln) (hLn : Ln ≤ 3072) (hLI : LI T R A m I) (hck : ck + 3 ≤ 601024) (hsk : sk + 18 ≤ 7293033) (K : ∀ (lv : List (Nat × Value)) (I9 : IT) (L9 : LT) (ck9 sk9 : Nat), LI T R A m I9 → ck9 ≤ ck + 3 → sk9 ≤ sk + 18 → (∀ z ∈ ([(4, .int (Int32.ofNat i)), (3, .ref o), (2, .ref m), (1, .ref x), (0, .ref b)] : List (Nat × Value)), z ∈ lv) → V 1899 lv [] (T, N, I9, L9, R) ck9 sk9) : V 1226 [(4, .int (Int32.ofNat i)), (3, .ref o), (2, .ref m), (1, .ref x), (0, .ref b)] [] (T, N, I, L, R) ck sk := by
  refine k_aload_n C rfl rfl rfl ?_
  refine k_aload_n C rfl rfl rfl ?_
  refine k_iload C rfl rfl rfl ?_
  refine k_iconst C (x := 1) rfl rfl rfl ?_
  refine k_iadd C rfl rfl ?_
  refine hL.1 _ _ _ _ _ _ _ rfl (vsk hi hLn (c := 1) (by decide)) ?_
  refine k_aload_n C rfl rfl rfl ?_
  refine c_SI C (w_L_plain hLI.1 H_x T_o N_o A_o) rfl rfl rfl rfl rfl rfl rfl (by omega) (by omega) (Nat.le_of_ble_eq_true rfl) ?_
  rintro x4 I1 L2 ⟨h1, h2⟩
  have h3 := LI.cls hLI H_m nAB h1 h2
  clear h1 h2
  refine k_istore C (lw := [(5, .int _), (4, .int _), (3, _), (2, _), (1, _), (0, _)]) rfl rfl (Nat.le_of_ble_eq_true rfl) rfl ?_
  refine k_aload_n C rfl rfl rfl ?_
  refine k_aload_n C rfl rfl rfl ?_
  refine k_iload C rfl rfl rfl ?_
  refine k_iconst C (x := 1) rfl rfl rfl ?_
  refine k_iadd C rfl rfl ?_
  refine hL.1 _ _ _ _ _ _ _ rfl (vsk hi hLn (c := 1) (by decide)) ?_
  refine c_VI C (a_X12_plain h3.2.1 H_m) rfl rfl rfl rfl rfl ⟨_, rfl, rfl, H_m.1, Nat.le_of_ble_eq_true rfl⟩ rfl rfl (by omega) (by omega) (Nat.le_of_ble_eq_true rfl) ?_
  rintro x8 I5 L6 ⟨-, -, h1, h2⟩
  have h7 := LI.ref0 h3 H_m nAB h1 h2 (by decide) (by decide) (by decide)
  clear h1 h2
  refine k_istore C (lw := [(6, .int _), (5, .int _), (4, .int _), (3, _), (2, _), (1, _), (0, _)]) rfl rfl (Nat.le_of_ble_eq_true rfl) rfl ?_
  refine k_goto C (pc2 := 1899) rfl rfl ?_
  exact K _ _ _ _ _ h7 (by omega) (by omega) (List.forall_mem_cons.mpr ⟨List.mem_of_getElem? (i := 2) rfl, List.forall_mem_cons.mpr ⟨List.mem_of_getElem? (i := 3) rfl, List.forall_mem_cons.mpr ⟨List.mem_of_getElem? (i := 4) rfl, List.forall_mem_cons.mpr ⟨List.mem_of_getElem? (i := 5) rfl, List.forall_mem_cons.mpr ⟨List.mem_of_getElem? (i := 6) rfl, fun _ h => nomatch h⟩⟩⟩⟩⟩)

set_option maxRecDepth 100000 in
theorem lc_27 {V : V_T} {b x m o Ln i : Nat} {xs : Nat → Int32} {T N : Nat → Nat} {I : IT} {L : LT} {R : RT} {A B : Nat → Prop} {ck sk : Nat} (C : Cl 40 q_law 601024 7293033 law_Po V) (S : SB V) (hL : LSc V b Ln xs) (H_x : h_LF T N R A x) (H_m : h_MD T N R B m) (T_o : T o = 21) (N_o : N o = 1) (A_o : A o) (nAB : ∀ a, A a → ¬ B a) (hi : i + 6 ≤ Ln) (hLn : Ln ≤ 3072) (hLI : LI T R A m I) (hck : ck + 3 ≤ 601024) (hsk : sk + 18 ≤ 7293033) (K : ∀ (lv : List (Nat × Value)) (I9 : IT) (L9 : LT) (ck9 sk9 : Nat), LI T R A m I9 → ck9 ≤ ck + 3 → sk9 ≤ sk + 18 → (∀ z ∈ ([(4, .int (Int32.ofNat i)), (3, .ref o), (2, .ref m), (1, .ref x), (0, .ref b)] : List (Nat × Value)), z ∈ lv) → V 1899 lv [] (T, N, I9, L9, R) ck9 sk9) : V 1254 [(4, .int (Int32.ofNat i)), (3, .ref o), (2, .ref m), (1, .ref x), (0, .ref b)] [] (T, N, I, L, R) ck sk := by
  refine k_aload_n C rfl rfl rfl ?_
  refine k_aload_n C rfl rfl rfl ?_
  refine k_iload C rfl rfl rfl ?_
  refine k_iconst C (x := 1) rfl rfl rfl ?_
  refine k_iadd C rfl rfl ?_
  refine hL.1 _ _ _ _ _ _ _ rfl (vsk hi hLn (c := 1) (by decide)) ?_
  refine k_aload_n C rfl rfl rfl ?_
  refine k_iload C rfl rfl rfl ?_
  refine k_iconst C (x := 2) rfl rfl rfl ?_
  refine k_iadd C rfl rfl ?_
  refine hL.1 _ _ _ _ _ _ _ rfl (vsk hi hLn (c := 2) (by decide)) ?_
  refine k_aload_n C rfl rfl rfl ?_
  refine c_SI C (w_L_root hLI.1 H_x T_o N_o A_o) rfl rfl rfl rfl rfl rfl rfl (by omega) (by omega) (Nat.le_of_ble_eq_true rfl) ?_
  rintro x4 I1 L2 ⟨h1, h2⟩
  have h3 := LI.cls hLI H_m nAB h1 h2
  clear h1 h2
  refine k_istore C (lw := [(5, .int _), (4, .int _), (3, _), (2, _), (1, _), (0, _)]) rfl rfl (Nat.le_of_ble_eq_true rfl) rfl ?_
  refine k_aload_n C rfl rfl rfl ?_
  refine k_aload_n C rfl rfl rfl ?_
  refine k_iload C rfl rfl rfl ?_
  refine k_iconst C (x := 1) rfl rfl rfl ?_
  refine k_iadd C rfl rfl ?_
  refine hL.1 _ _ _ _ _ _ _ rfl (vsk hi hLn (c := 1) (by decide)) ?_
  refine k_aload_n C rfl rfl rfl ?_
  refine k_iload C rfl rfl rfl ?_
  refine k_iconst C (x := 2) rfl rfl rfl ?_
  refine k_iadd C rfl rfl ?_
  refine hL.1 _ _ _ _ _ _ _ rfl (vsk hi hLn (c := 2) (by decide)) ?_
  refine c_VI C (a_X12_root h3.2.1 H_m) rfl rfl rfl rfl rfl ⟨_, rfl, rfl, H_m.1, Nat.le_of_ble_eq_true rfl⟩ rfl rfl (by omega) (by omega) (Nat.le_of_ble_eq_true rfl) ?_
  rintro x8 I5 L6 ⟨h1, h2⟩
  have h7 := LI.ref0 h3 H_m nAB h1 h2 (by decide) (by decide) (by decide)
  clear h1 h2
  refine k_istore C (lw := [(6, .int _), (5, .int _), (4, .int _), (3, _), (2, _), (1, _), (0, _)]) rfl rfl (Nat.le_of_ble_eq_true rfl) rfl ?_
  refine k_goto C (pc2 := 1899) rfl rfl ?_
  exact K _ _ _ _ _ h7 (by omega) (by omega) (List.forall_mem_cons.mpr ⟨List.mem_of_getElem? (i := 2) rfl, List.forall_mem_cons.mpr ⟨List.mem_of_getElem? (i := 3) rfl, List.forall_mem_cons.mpr ⟨List.mem_of_getElem? (i := 4) rfl, List.forall_mem_cons.mpr ⟨List.mem_of_getElem? (i := 5) rfl, List.forall_mem_cons.mpr ⟨List.mem_of_getElem? (i := 6) rfl, fun _ h => nomatch h⟩⟩⟩⟩⟩)

set_option maxRecDepth 100000 in
theorem lc_28 {V : V_T} {b x m o Ln i : Nat} {xs : Nat → Int32} {T N : Nat → Nat} {I : IT} {L : LT} {R : RT} {A B : Nat → Prop} {ck sk : Nat} (C : Cl 40 q_law 601024 7293033 law_Po V) (S : SB V) (hL : LSc V b Ln xs) (H_x : h_LF T N R A x) (H_m : h_MD T N R B m) (T_o : T o = 21) (N_o : N o = 1) (A_o : A o) (nAB : ∀ a, A a → ¬ B a) (hi : i + 6 ≤ Ln) (hLn : Ln ≤ 3072) (hLI : LI T R A m I) (hck : ck + 3 ≤ 601024) (hsk : sk + 18 ≤ 7293033) (K : ∀ (lv : List (Nat × Value)) (I9 : IT) (L9 : LT) (ck9 sk9 : Nat), LI T R A m I9 → ck9 ≤ ck + 3 → sk9 ≤ sk + 18 → (∀ z ∈ ([(4, .int (Int32.ofNat i)), (3, .ref o), (2, .ref m), (1, .ref x), (0, .ref b)] : List (Nat × Value)), z ∈ lv) → V 1899 lv [] (T, N, I9, L9, R) ck9 sk9) : V 1294 [(4, .int (Int32.ofNat i)), (3, .ref o), (2, .ref m), (1, .ref x), (0, .ref b)] [] (T, N, I, L, R) ck sk := by
  refine k_aload_n C rfl rfl rfl ?_
  refine k_aload_n C rfl rfl rfl ?_
  refine k_iload C rfl rfl rfl ?_
  refine k_iconst C (x := 1) rfl rfl rfl ?_
  refine k_iadd C rfl rfl ?_
  refine hL.1 _ _ _ _ _ _ _ rfl (vsk hi hLn (c := 1) (by decide)) ?_
  refine k_aload_n C rfl rfl rfl ?_
  refine c_SI C (w_L_roots hLI.1 H_x T_o N_o A_o) rfl rfl rfl rfl rfl rfl rfl (by omega) (by omega) (Nat.le_of_ble_eq_true rfl) ?_
  rintro x4 I1 L2 ⟨h1, h2⟩
  have h3 := LI.cls hLI H_m nAB h1 h2
  clear h1 h2
  refine k_istore C (lw := [(5, .int _), (4, .int _), (3, _), (2, _), (1, _), (0, _)]) rfl rfl (Nat.le_of_ble_eq_true rfl) rfl ?_
  refine k_aload_n C rfl rfl rfl ?_
  refine k_aload_n C rfl rfl rfl ?_
  refine k_iload C rfl rfl rfl ?_
  refine k_iconst C (x := 1) rfl rfl rfl ?_
  refine k_iadd C rfl rfl ?_
  refine hL.1 _ _ _ _ _ _ _ rfl (vsk hi hLn (c := 1) (by decide)) ?_
  refine c_VI C (a_X12_roots h3.2.1 H_m) rfl rfl rfl rfl rfl ⟨_, rfl, rfl, H_m.1, Nat.le_of_ble_eq_true rfl⟩ rfl rfl (by omega) (by omega) (Nat.le_of_ble_eq_true rfl) ?_
  rintro x8 I5 L6 ⟨h1, h2⟩
  have h7 := LI.ref0 h3 H_m nAB h1 h2 (by decide) (by decide) (by decide)
  clear h1 h2
  refine k_istore C (lw := [(6, .int _), (5, .int _), (4, .int _), (3, _), (2, _), (1, _), (0, _)]) rfl rfl (Nat.le_of_ble_eq_true rfl) rfl ?_
  refine k_goto C (pc2 := 1899) rfl rfl ?_
  exact K _ _ _ _ _ h7 (by omega) (by omega) (List.forall_mem_cons.mpr ⟨List.mem_of_getElem? (i := 2) rfl, List.forall_mem_cons.mpr ⟨List.mem_of_getElem? (i := 3) rfl, List.forall_mem_cons.mpr ⟨List.mem_of_getElem? (i := 4) rfl, List.forall_mem_cons.mpr ⟨List.mem_of_getElem? (i := 5) rfl, List.forall_mem_cons.mpr ⟨List.mem_of_getElem? (i := 6) rfl, fun _ h => nomatch h⟩⟩⟩⟩⟩)

set_option maxRecDepth 100000 in
theorem lc_29 {V : V_T} {b x m o Ln i : Nat} {xs : Nat → Int32} {T N : Nat → Nat} {I : IT} {L : LT} {R : RT} {A B : Nat → Prop} {ck sk : Nat} (C : Cl 40 q_law 601024 7293033 law_Po V) (S : SB V) (hL : LSc V b Ln xs) (H_x : h_LF T N R A x) (H_m : h_MD T N R B m) (T_o : T o = 21) (N_o : N o = 1) (A_o : A o) (nAB : ∀ a, A a → ¬ B a) (hi : i + 6 ≤ Ln) (hLn : Ln ≤ 3072) (hLI : LI T R A m I) (hck : ck + 3 ≤ 601024) (hsk : sk + 18 ≤ 7293033) (K : ∀ (lv : List (Nat × Value)) (I9 : IT) (L9 : LT) (ck9 sk9 : Nat), LI T R A m I9 → ck9 ≤ ck + 3 → sk9 ≤ sk + 18 → (∀ z ∈ ([(4, .int (Int32.ofNat i)), (3, .ref o), (2, .ref m), (1, .ref x), (0, .ref b)] : List (Nat × Value)), z ∈ lv) → V 1899 lv [] (T, N, I9, L9, R) ck9 sk9) : V 1322 [(4, .int (Int32.ofNat i)), (3, .ref o), (2, .ref m), (1, .ref x), (0, .ref b)] [] (T, N, I, L, R) ck sk := by
  refine k_aload_n C rfl rfl rfl ?_
  refine k_aload_n C rfl rfl rfl ?_
  refine k_iload C rfl rfl rfl ?_
  refine k_iconst C (x := 1) rfl rfl rfl ?_
  refine k_iadd C rfl rfl ?_
  refine hL.1 _ _ _ _ _ _ _ rfl (vsk hi hLn (c := 1) (by decide)) ?_
  refine k_aload_n C rfl rfl rfl ?_
  refine c_SI C (w_L_empty hLI.1 H_x T_o N_o A_o) rfl rfl rfl rfl rfl rfl rfl (by omega) (by omega) (Nat.le_of_ble_eq_true rfl) ?_
  rintro x4 I1 L2 ⟨h1, h2⟩
  have h3 := LI.cls hLI H_m nAB h1 h2
  clear h1 h2
  refine k_istore C (lw := [(5, .int _), (4, .int _), (3, _), (2, _), (1, _), (0, _)]) rfl rfl (Nat.le_of_ble_eq_true rfl) rfl ?_
  refine k_aload_n C rfl rfl rfl ?_
  refine k_aload_n C rfl rfl rfl ?_
  refine k_iload C rfl rfl rfl ?_
  refine k_iconst C (x := 1) rfl rfl rfl ?_
  refine k_iadd C rfl rfl ?_
  refine hL.1 _ _ _ _ _ _ _ rfl (vsk hi hLn (c := 1) (by decide)) ?_
  refine c_VI C (a_X12_empty h3.2.1 H_m) rfl rfl rfl rfl rfl ⟨_, rfl, rfl, H_m.1, Nat.le_of_ble_eq_true rfl⟩ rfl rfl (by omega) (by omega) (Nat.le_of_ble_eq_true rfl) ?_
  rintro x8 I5 L6 ⟨-, -, h1, h2⟩
  have h7 := LI.ref0 h3 H_m nAB h1 h2 (by decide) (by decide) (by decide)
  clear h1 h2
  refine k_istore C (lw := [(6, .int _), (5, .int _), (4, .int _), (3, _), (2, _), (1, _), (0, _)]) rfl rfl (Nat.le_of_ble_eq_true rfl) rfl ?_
  refine k_goto C (pc2 := 1899) rfl rfl ?_
  exact K _ _ _ _ _ h7 (by omega) (by omega) (List.forall_mem_cons.mpr ⟨List.mem_of_getElem? (i := 2) rfl, List.forall_mem_cons.mpr ⟨List.mem_of_getElem? (i := 3) rfl, List.forall_mem_cons.mpr ⟨List.mem_of_getElem? (i := 4) rfl, List.forall_mem_cons.mpr ⟨List.mem_of_getElem? (i := 5) rfl, List.forall_mem_cons.mpr ⟨List.mem_of_getElem? (i := 6) rfl, fun _ h => nomatch h⟩⟩⟩⟩⟩)

set_option maxRecDepth 100000 in
theorem lc_30 {V : V_T} {b x m o Ln i : Nat} {xs : Nat → Int32} {T N : Nat → Nat} {I : IT} {L : LT} {R : RT} {A B : Nat → Prop} {ck sk : Nat} (C : Cl 40 q_law 601024 7293033 law_Po V) (S : SB V) (hL : LSc V b Ln xs) (H_x : h_LF T N R A x) (H_m : h_MD T N R B m) (T_o : T o = 21) (N_o : N o = 1) (A_o : A o) (nAB : ∀ a, A a → ¬ B a) (hi : i + 6 ≤ Ln) (hLn : Ln ≤ 3072) (hLI : LI T R A m I) (hck : ck + 3 ≤ 601024) (hsk : sk + 18 ≤ 7293033) (K : ∀ (lv : List (Nat × Value)) (I9 : IT) (L9 : LT) (ck9 sk9 : Nat), LI T R A m I9 → ck9 ≤ ck + 3 → sk9 ≤ sk + 18 → (∀ z ∈ ([(4, .int (Int32.ofNat i)), (3, .ref o), (2, .ref m), (1, .ref x), (0, .ref b)] : List (Nat × Value)), z ∈ lv) → V 1899 lv [] (T, N, I9, L9, R) ck9 sk9) : V 1350 [(4, .int (Int32.ofNat i)), (3, .ref o), (2, .ref m), (1, .ref x), (0, .ref b)] [] (T, N, I, L, R) ck sk := by
  refine k_aload_n C rfl rfl rfl ?_
  refine k_aload_n C rfl rfl rfl ?_
  refine k_iload C rfl rfl rfl ?_
  refine k_iconst C (x := 1) rfl rfl rfl ?_
  refine k_iadd C rfl rfl ?_
  refine hL.1 _ _ _ _ _ _ _ rfl (vsk hi hLn (c := 1) (by decide)) ?_
  refine k_aload_n C rfl rfl rfl ?_
  refine k_iload C rfl rfl rfl ?_
  refine k_iconst C (x := 2) rfl rfl rfl ?_
  refine k_iadd C rfl rfl ?_
  refine hL.1 _ _ _ _ _ _ _ rfl (vsk hi hLn (c := 2) (by decide)) ?_
  refine k_aload_n C rfl rfl rfl ?_
  refine c_SI C (w_L_same hLI.1 H_x T_o N_o A_o) rfl rfl rfl rfl rfl rfl rfl (by omega) (by omega) (Nat.le_of_ble_eq_true rfl) ?_
  rintro x4 I1 L2 ⟨h1, h2⟩
  have h3 := LI.cls hLI H_m nAB h1 h2
  clear h1 h2
  refine k_istore C (lw := [(5, .int _), (4, .int _), (3, _), (2, _), (1, _), (0, _)]) rfl rfl (Nat.le_of_ble_eq_true rfl) rfl ?_
  refine k_aload_n C rfl rfl rfl ?_
  refine k_aload_n C rfl rfl rfl ?_
  refine k_iload C rfl rfl rfl ?_
  refine k_iconst C (x := 1) rfl rfl rfl ?_
  refine k_iadd C rfl rfl ?_
  refine hL.1 _ _ _ _ _ _ _ rfl (vsk hi hLn (c := 1) (by decide)) ?_
  refine k_aload_n C rfl rfl rfl ?_
  refine k_iload C rfl rfl rfl ?_
  refine k_iconst C (x := 2) rfl rfl rfl ?_
  refine k_iadd C rfl rfl ?_
  refine hL.1 _ _ _ _ _ _ _ rfl (vsk hi hLn (c := 2) (by decide)) ?_
  refine c_VI C (a_X12_same h3.2.1 H_m) rfl rfl rfl rfl rfl ⟨_, rfl, rfl, H_m.1, Nat.le_of_ble_eq_true rfl⟩ rfl rfl (by omega) (by omega) (Nat.le_of_ble_eq_true rfl) ?_
  rintro x8 I5 L6 ⟨h1, h2⟩
  have h7 := LI.ref0 h3 H_m nAB h1 h2 (by decide) (by decide) (by decide)
  clear h1 h2
  refine k_istore C (lw := [(6, .int _), (5, .int _), (4, .int _), (3, _), (2, _), (1, _), (0, _)]) rfl rfl (Nat.le_of_ble_eq_true rfl) rfl ?_
  refine k_goto C (pc2 := 1899) rfl rfl ?_
  exact K _ _ _ _ _ h7 (by omega) (by omega) (List.forall_mem_cons.mpr ⟨List.mem_of_getElem? (i := 2) rfl, List.forall_mem_cons.mpr ⟨List.mem_of_getElem? (i := 3) rfl, List.forall_mem_cons.mpr ⟨List.mem_of_getElem? (i := 4) rfl, List.forall_mem_cons.mpr ⟨List.mem_of_getElem? (i := 5) rfl, List.forall_mem_cons.mpr ⟨List.mem_of_getElem? (i := 6) rfl, fun _ h => nomatch h⟩⟩⟩⟩⟩)

set_option maxRecDepth 100000 in
theorem lc_31 {V : V_T} {b x m o Ln i : Nat} {xs : Nat → Int32} {T N : Nat → Nat} {I : IT} {L : LT} {R : RT} {A B : Nat → Prop} {ck sk : Nat} (C : Cl 40 q_law 601024 7293033 law_Po V) (S : SB V) (hL : LSc V b Ln xs) (H_x : h_LF T N R A x) (H_m : h_MD T N R B m) (T_o : T o = 21) (N_o : N o = 1) (A_o : A o) (nAB : ∀ a, A a → ¬ B a) (hi : i + 6 ≤ Ln) (hLn : Ln ≤ 3072) (hLI : LI T R A m I) (hck : ck + 3 ≤ 601024) (hsk : sk + 18 ≤ 7293033) (K : ∀ (lv : List (Nat × Value)) (I9 : IT) (L9 : LT) (ck9 sk9 : Nat), LI T R A m I9 → ck9 ≤ ck + 3 → sk9 ≤ sk + 18 → (∀ z ∈ ([(4, .int (Int32.ofNat i)), (3, .ref o), (2, .ref m), (1, .ref x), (0, .ref b)] : List (Nat × Value)), z ∈ lv) → V 1899 lv [] (T, N, I9, L9, R) ck9 sk9) : V 1390 [(4, .int (Int32.ofNat i)), (3, .ref o), (2, .ref m), (1, .ref x), (0, .ref b)] [] (T, N, I, L, R) ck sk := by
  refine k_aload_n C rfl rfl rfl ?_
  refine k_aload_n C rfl rfl rfl ?_
  refine k_iload C rfl rfl rfl ?_
  refine k_iconst C (x := 1) rfl rfl rfl ?_
  refine k_iadd C rfl rfl ?_
  refine hL.1 _ _ _ _ _ _ _ rfl (vsk hi hLn (c := 1) (by decide)) ?_
  refine k_aload_n C rfl rfl rfl ?_
  refine c_SI C (w_L_keep hLI.1 H_x T_o N_o A_o) rfl rfl rfl rfl rfl rfl rfl (by omega) (by omega) (Nat.le_of_ble_eq_true rfl) ?_
  rintro x4 I1 L2 ⟨h1, h2⟩
  have h3 := LI.cls hLI H_m nAB h1 h2
  clear h1 h2
  refine k_istore C (lw := [(5, .int _), (4, .int _), (3, _), (2, _), (1, _), (0, _)]) rfl rfl (Nat.le_of_ble_eq_true rfl) rfl ?_
  refine k_aload_n C rfl rfl rfl ?_
  refine k_aload_n C rfl rfl rfl ?_
  refine k_iload C rfl rfl rfl ?_
  refine k_iconst C (x := 1) rfl rfl rfl ?_
  refine k_iadd C rfl rfl ?_
  refine hL.1 _ _ _ _ _ _ _ rfl (vsk hi hLn (c := 1) (by decide)) ?_
  refine c_VI C (a_X12_keep h3.2.1 H_m) rfl rfl rfl rfl rfl ⟨_, rfl, rfl, H_m.1, Nat.le_of_ble_eq_true rfl⟩ rfl rfl (by omega) (by omega) (Nat.le_of_ble_eq_true rfl) ?_
  rintro x8 I5 L6 ⟨h1, h2⟩
  have h7 := LI.ref0 h3 H_m nAB h1 h2 (by decide) (by decide) (by decide)
  clear h1 h2
  refine k_istore C (lw := [(6, .int _), (5, .int _), (4, .int _), (3, _), (2, _), (1, _), (0, _)]) rfl rfl (Nat.le_of_ble_eq_true rfl) rfl ?_
  refine k_goto C (pc2 := 1899) rfl rfl ?_
  exact K _ _ _ _ _ h7 (by omega) (by omega) (List.forall_mem_cons.mpr ⟨List.mem_of_getElem? (i := 2) rfl, List.forall_mem_cons.mpr ⟨List.mem_of_getElem? (i := 3) rfl, List.forall_mem_cons.mpr ⟨List.mem_of_getElem? (i := 4) rfl, List.forall_mem_cons.mpr ⟨List.mem_of_getElem? (i := 5) rfl, List.forall_mem_cons.mpr ⟨List.mem_of_getElem? (i := 6) rfl, fun _ h => nomatch h⟩⟩⟩⟩⟩)

set_option maxRecDepth 100000 in
theorem lc_32 {V : V_T} {b x m o Ln i : Nat} {xs : Nat → Int32} {T N : Nat → Nat} {I : IT} {L : LT} {R : RT} {A B : Nat → Prop} {ck sk : Nat} (C : Cl 40 q_law 601024 7293033 law_Po V) (S : SB V) (hL : LSc V b Ln xs) (H_x : h_LF T N R A x) (H_m : h_MD T N R B m) (T_o : T o = 21) (N_o : N o = 1) (A_o : A o) (nAB : ∀ a, A a → ¬ B a) (hi : i + 6 ≤ Ln) (hLn : Ln ≤ 3072) (hLI : LI T R A m I) (hck : ck + 3 ≤ 601024) (hsk : sk + 18 ≤ 7293033) (K : ∀ (lv : List (Nat × Value)) (I9 : IT) (L9 : LT) (ck9 sk9 : Nat), LI T R A m I9 → ck9 ≤ ck + 3 → sk9 ≤ sk + 18 → (∀ z ∈ ([(4, .int (Int32.ofNat i)), (3, .ref o), (2, .ref m), (1, .ref x), (0, .ref b)] : List (Nat × Value)), z ∈ lv) → V 1899 lv [] (T, N, I9, L9, R) ck9 sk9) : V 1418 [(4, .int (Int32.ofNat i)), (3, .ref o), (2, .ref m), (1, .ref x), (0, .ref b)] [] (T, N, I, L, R) ck sk := by
  refine k_aload_n C rfl rfl rfl ?_
  refine k_aload_n C rfl rfl rfl ?_
  refine k_iload C rfl rfl rfl ?_
  refine k_iconst C (x := 1) rfl rfl rfl ?_
  refine k_iadd C rfl rfl ?_
  refine hL.1 _ _ _ _ _ _ _ rfl (vsk hi hLn (c := 1) (by decide)) ?_
  refine k_aload_n C rfl rfl rfl ?_
  refine k_iload C rfl rfl rfl ?_
  refine k_iconst C (x := 2) rfl rfl rfl ?_
  refine k_iadd C rfl rfl ?_
  refine hL.1 _ _ _ _ _ _ _ rfl (vsk hi hLn (c := 2) (by decide)) ?_
  refine k_aload_n C rfl rfl rfl ?_
  refine c_SI C (w_L_powers hLI.1 H_x T_o N_o A_o) rfl rfl rfl rfl rfl rfl rfl (by omega) (by omega) (Nat.le_of_ble_eq_true rfl) ?_
  rintro x4 I1 L2 ⟨h1, h2⟩
  have h3 := LI.cls hLI H_m nAB h1 h2
  clear h1 h2
  refine k_istore C (lw := [(5, .int _), (4, .int _), (3, _), (2, _), (1, _), (0, _)]) rfl rfl (Nat.le_of_ble_eq_true rfl) rfl ?_
  refine k_aload_n C rfl rfl rfl ?_
  refine k_aload_n C rfl rfl rfl ?_
  refine k_iload C rfl rfl rfl ?_
  refine k_iconst C (x := 1) rfl rfl rfl ?_
  refine k_iadd C rfl rfl ?_
  refine hL.1 _ _ _ _ _ _ _ rfl (vsk hi hLn (c := 1) (by decide)) ?_
  refine k_aload_n C rfl rfl rfl ?_
  refine k_iload C rfl rfl rfl ?_
  refine k_iconst C (x := 2) rfl rfl rfl ?_
  refine k_iadd C rfl rfl ?_
  refine hL.1 _ _ _ _ _ _ _ rfl (vsk hi hLn (c := 2) (by decide)) ?_
  refine c_VI C (a_X12_powers h3.2.1 H_m) rfl rfl rfl rfl rfl ⟨_, rfl, rfl, H_m.1, Nat.le_of_ble_eq_true rfl⟩ rfl rfl (by omega) (by omega) (Nat.le_of_ble_eq_true rfl) ?_
  rintro x8 I5 L6 ⟨h1, h2⟩
  have h7 := LI.ref0 h3 H_m nAB h1 h2 (by decide) (by decide) (by decide)
  clear h1 h2
  refine k_istore C (lw := [(6, .int _), (5, .int _), (4, .int _), (3, _), (2, _), (1, _), (0, _)]) rfl rfl (Nat.le_of_ble_eq_true rfl) rfl ?_
  refine k_goto C (pc2 := 1899) rfl rfl ?_
  exact K _ _ _ _ _ h7 (by omega) (by omega) (List.forall_mem_cons.mpr ⟨List.mem_of_getElem? (i := 2) rfl, List.forall_mem_cons.mpr ⟨List.mem_of_getElem? (i := 3) rfl, List.forall_mem_cons.mpr ⟨List.mem_of_getElem? (i := 4) rfl, List.forall_mem_cons.mpr ⟨List.mem_of_getElem? (i := 5) rfl, List.forall_mem_cons.mpr ⟨List.mem_of_getElem? (i := 6) rfl, fun _ h => nomatch h⟩⟩⟩⟩⟩)

set_option maxRecDepth 100000 in
theorem lc_33 {V : V_T} {b x m o Ln i : Nat} {xs : Nat → Int32} {T N : Nat → Nat} {I : IT} {L : LT} {R : RT} {A B : Nat → Prop} {ck sk : Nat} (C : Cl 40 q_law 601024 7293033 law_Po V) (S : SB V) (hL : LSc V b Ln xs) (H_x : h_LF T N R A x) (H_m : h_MD T N R B m) (T_o : T o = 21) (N_o : N o = 1) (A_o : A o) (nAB : ∀ a, A a → ¬ B a) (hi : i + 6 ≤ Ln) (hLn : Ln ≤ 3072) (hLI : LI T R A m I) (hck : ck + 3 ≤ 601024) (hsk : sk + 18 ≤ 7293033) (K : ∀ (lv : List (Nat × Value)) (I9 : IT) (L9 : LT) (ck9 sk9 : Nat), LI T R A m I9 → ck9 ≤ ck + 3 → sk9 ≤ sk + 18 → (∀ z ∈ ([(4, .int (Int32.ofNat i)), (3, .ref o), (2, .ref m), (1, .ref x), (0, .ref b)] : List (Nat × Value)), z ∈ lv) → V 1899 lv [] (T, N, I9, L9, R) ck9 sk9) : V 1458 [(4, .int (Int32.ofNat i)), (3, .ref o), (2, .ref m), (1, .ref x), (0, .ref b)] [] (T, N, I, L, R) ck sk := by
  refine k_aload_n C rfl rfl rfl ?_
  refine k_aload_n C rfl rfl rfl ?_
  refine k_iload C rfl rfl rfl ?_
  refine k_iconst C (x := 1) rfl rfl rfl ?_
  refine k_iadd C rfl rfl ?_
  refine hL.1 _ _ _ _ _ _ _ rfl (vsk hi hLn (c := 1) (by decide)) ?_
  refine k_aload_n C rfl rfl rfl ?_
  refine k_iload C rfl rfl rfl ?_
  refine k_iconst C (x := 2) rfl rfl rfl ?_
  refine k_iadd C rfl rfl ?_
  refine hL.1 _ _ _ _ _ _ _ rfl (vsk hi hLn (c := 2) (by decide)) ?_
  refine k_aload_n C rfl rfl rfl ?_
  refine k_iload C rfl rfl rfl ?_
  refine k_iconst C (x := 3) rfl rfl rfl ?_
  refine k_iadd C rfl rfl ?_
  refine hL.1 _ _ _ _ _ _ _ rfl (vsk hi hLn (c := 3) (by decide)) ?_
  refine k_aload_n C rfl rfl rfl ?_
  refine c_SI C (w_L_common hLI.1 H_x T_o N_o A_o) rfl rfl rfl rfl rfl rfl rfl (by omega) (by omega) (Nat.le_of_ble_eq_true rfl) ?_
  rintro x4 I1 L2 ⟨h1, h2⟩
  have h3 := LI.cls hLI H_m nAB h1 h2
  clear h1 h2
  refine k_istore C (lw := [(5, .int _), (4, .int _), (3, _), (2, _), (1, _), (0, _)]) rfl rfl (Nat.le_of_ble_eq_true rfl) rfl ?_
  refine k_aload_n C rfl rfl rfl ?_
  refine k_aload_n C rfl rfl rfl ?_
  refine k_iload C rfl rfl rfl ?_
  refine k_iconst C (x := 1) rfl rfl rfl ?_
  refine k_iadd C rfl rfl ?_
  refine hL.1 _ _ _ _ _ _ _ rfl (vsk hi hLn (c := 1) (by decide)) ?_
  refine k_aload_n C rfl rfl rfl ?_
  refine k_iload C rfl rfl rfl ?_
  refine k_iconst C (x := 2) rfl rfl rfl ?_
  refine k_iadd C rfl rfl ?_
  refine hL.1 _ _ _ _ _ _ _ rfl (vsk hi hLn (c := 2) (by decide)) ?_
  refine k_aload_n C rfl rfl rfl ?_
  refine k_iload C rfl rfl rfl ?_
  refine k_iconst C (x := 3) rfl rfl rfl ?_
  refine k_iadd C rfl rfl ?_
  refine hL.1 _ _ _ _ _ _ _ rfl (vsk hi hLn (c := 3) (by decide)) ?_
  refine c_VI C (a_X12_common h3.2.1 H_m) rfl rfl rfl rfl rfl ⟨_, rfl, rfl, H_m.1, Nat.le_of_ble_eq_true rfl⟩ rfl rfl (by omega) (by omega) (Nat.le_of_ble_eq_true rfl) ?_
  rintro x8 I5 L6 ⟨-, -, h1, h2⟩
  have h7 := LI.ref0 h3 H_m nAB h1 h2 (by decide) (by decide) (by decide)
  clear h1 h2
  refine k_istore C (lw := [(6, .int _), (5, .int _), (4, .int _), (3, _), (2, _), (1, _), (0, _)]) rfl rfl (Nat.le_of_ble_eq_true rfl) rfl ?_
  refine k_goto C (pc2 := 1899) rfl rfl ?_
  exact K _ _ _ _ _ h7 (by omega) (by omega) (List.forall_mem_cons.mpr ⟨List.mem_of_getElem? (i := 2) rfl, List.forall_mem_cons.mpr ⟨List.mem_of_getElem? (i := 3) rfl, List.forall_mem_cons.mpr ⟨List.mem_of_getElem? (i := 4) rfl, List.forall_mem_cons.mpr ⟨List.mem_of_getElem? (i := 5) rfl, List.forall_mem_cons.mpr ⟨List.mem_of_getElem? (i := 6) rfl, fun _ h => nomatch h⟩⟩⟩⟩⟩)

set_option maxRecDepth 100000 in
theorem lc_34 {V : V_T} {b x m o Ln i : Nat} {xs : Nat → Int32} {T N : Nat → Nat} {I : IT} {L : LT} {R : RT} {A B : Nat → Prop} {ck sk : Nat} (C : Cl 40 q_law 601024 7293033 law_Po V) (S : SB V) (hL : LSc V b Ln xs) (H_x : h_LF T N R A x) (H_m : h_MD T N R B m) (T_o : T o = 21) (N_o : N o = 1) (A_o : A o) (nAB : ∀ a, A a → ¬ B a) (hi : i + 6 ≤ Ln) (hLn : Ln ≤ 3072) (hLI : LI T R A m I) (hck : ck + 3 ≤ 601024) (hsk : sk + 18 ≤ 7293033) (K : ∀ (lv : List (Nat × Value)) (I9 : IT) (L9 : LT) (ck9 sk9 : Nat), LI T R A m I9 → ck9 ≤ ck + 3 → sk9 ≤ sk + 18 → (∀ z ∈ ([(4, .int (Int32.ofNat i)), (3, .ref o), (2, .ref m), (1, .ref x), (0, .ref b)] : List (Nat × Value)), z ∈ lv) → V 1899 lv [] (T, N, I9, L9, R) ck9 sk9) : V 1510 [(4, .int (Int32.ofNat i)), (3, .ref o), (2, .ref m), (1, .ref x), (0, .ref b)] [] (T, N, I, L, R) ck sk := by
  refine k_aload_n C rfl rfl rfl ?_
  refine k_aload_n C rfl rfl rfl ?_
  refine k_iload C rfl rfl rfl ?_
  refine k_iconst C (x := 1) rfl rfl rfl ?_
  refine k_iadd C rfl rfl ?_
  refine hL.1 _ _ _ _ _ _ _ rfl (vsk hi hLn (c := 1) (by decide)) ?_
  refine k_aload_n C rfl rfl rfl ?_
  refine k_iload C rfl rfl rfl ?_
  refine k_iconst C (x := 2) rfl rfl rfl ?_
  refine k_iadd C rfl rfl ?_
  refine hL.1 _ _ _ _ _ _ _ rfl (vsk hi hLn (c := 2) (by decide)) ?_
  refine k_aload_n C rfl rfl rfl ?_
  refine k_iload C rfl rfl rfl ?_
  refine k_iconst C (x := 3) rfl rfl rfl ?_
  refine k_iadd C rfl rfl ?_
  refine hL.1 _ _ _ _ _ _ _ rfl (vsk hi hLn (c := 3) (by decide)) ?_
  refine k_aload_n C rfl rfl rfl ?_
  refine k_iload C rfl rfl rfl ?_
  refine k_iconst C (x := 4) rfl rfl rfl ?_
  refine k_iadd C rfl rfl ?_
  refine hL.1 _ _ _ _ _ _ _ rfl (vsk hi hLn (c := 4) (by decide)) ?_
  refine k_aload_n C rfl rfl rfl ?_
  refine c_SI C (w_L_overlap hLI.1 H_x T_o N_o A_o) rfl rfl rfl rfl rfl rfl rfl (by omega) (by omega) (Nat.le_of_ble_eq_true rfl) ?_
  rintro x4 I1 L2 ⟨h1, h2⟩
  have h3 := LI.cls hLI H_m nAB h1 h2
  clear h1 h2
  refine k_istore C (lw := [(5, .int _), (4, .int _), (3, _), (2, _), (1, _), (0, _)]) rfl rfl (Nat.le_of_ble_eq_true rfl) rfl ?_
  refine k_aload_n C rfl rfl rfl ?_
  refine k_aload_n C rfl rfl rfl ?_
  refine k_iload C rfl rfl rfl ?_
  refine k_iconst C (x := 1) rfl rfl rfl ?_
  refine k_iadd C rfl rfl ?_
  refine hL.1 _ _ _ _ _ _ _ rfl (vsk hi hLn (c := 1) (by decide)) ?_
  refine k_aload_n C rfl rfl rfl ?_
  refine k_iload C rfl rfl rfl ?_
  refine k_iconst C (x := 2) rfl rfl rfl ?_
  refine k_iadd C rfl rfl ?_
  refine hL.1 _ _ _ _ _ _ _ rfl (vsk hi hLn (c := 2) (by decide)) ?_
  refine k_aload_n C rfl rfl rfl ?_
  refine k_iload C rfl rfl rfl ?_
  refine k_iconst C (x := 3) rfl rfl rfl ?_
  refine k_iadd C rfl rfl ?_
  refine hL.1 _ _ _ _ _ _ _ rfl (vsk hi hLn (c := 3) (by decide)) ?_
  refine k_aload_n C rfl rfl rfl ?_
  refine k_iload C rfl rfl rfl ?_
  refine k_iconst C (x := 4) rfl rfl rfl ?_
  refine k_iadd C rfl rfl ?_
  refine hL.1 _ _ _ _ _ _ _ rfl (vsk hi hLn (c := 4) (by decide)) ?_
  refine c_VI C (a_X12_overlap h3.2.1 H_m) rfl rfl rfl rfl rfl ⟨_, rfl, rfl, H_m.1, Nat.le_of_ble_eq_true rfl⟩ rfl rfl (by omega) (by omega) (Nat.le_of_ble_eq_true rfl) ?_
  rintro x8 I5 L6 ⟨-, -, h1, h2⟩
  have h7 := LI.ref0 h3 H_m nAB h1 h2 (by decide) (by decide) (by decide)
  clear h1 h2
  refine k_istore C (lw := [(6, .int _), (5, .int _), (4, .int _), (3, _), (2, _), (1, _), (0, _)]) rfl rfl (Nat.le_of_ble_eq_true rfl) rfl ?_
  refine k_goto C (pc2 := 1899) rfl rfl ?_
  exact K _ _ _ _ _ h7 (by omega) (by omega) (List.forall_mem_cons.mpr ⟨List.mem_of_getElem? (i := 2) rfl, List.forall_mem_cons.mpr ⟨List.mem_of_getElem? (i := 3) rfl, List.forall_mem_cons.mpr ⟨List.mem_of_getElem? (i := 4) rfl, List.forall_mem_cons.mpr ⟨List.mem_of_getElem? (i := 5) rfl, List.forall_mem_cons.mpr ⟨List.mem_of_getElem? (i := 6) rfl, fun _ h => nomatch h⟩⟩⟩⟩⟩)

set_option maxRecDepth 100000 in
theorem lc_35 {V : V_T} {b x m o Ln i : Nat} {xs : Nat → Int32} {T N : Nat → Nat} {I : IT} {L : LT} {R : RT} {A B : Nat → Prop} {ck sk : Nat} (C : Cl 40 q_law 601024 7293033 law_Po V) (S : SB V) (hL : LSc V b Ln xs) (H_x : h_LF T N R A x) (H_m : h_MD T N R B m) (T_o : T o = 21) (N_o : N o = 1) (A_o : A o) (nAB : ∀ a, A a → ¬ B a) (hi : i + 6 ≤ Ln) (hLn : Ln ≤ 3072) (hLI : LI T R A m I) (hck : ck + 3 ≤ 601024) (hsk : sk + 18 ≤ 7293033) (K : ∀ (lv : List (Nat × Value)) (I9 : IT) (L9 : LT) (ck9 sk9 : Nat), LI T R A m I9 → ck9 ≤ ck + 3 → sk9 ≤ sk + 18 → (∀ z ∈ ([(4, .int (Int32.ofNat i)), (3, .ref o), (2, .ref m), (1, .ref x), (0, .ref b)] : List (Nat × Value)), z ∈ lv) → V 1899 lv [] (T, N, I9, L9, R) ck9 sk9) : V 1574 [(4, .int (Int32.ofNat i)), (3, .ref o), (2, .ref m), (1, .ref x), (0, .ref b)] [] (T, N, I, L, R) ck sk := by
  refine k_aload_n C rfl rfl rfl ?_
  refine k_aload_n C rfl rfl rfl ?_
  refine k_iload C rfl rfl rfl ?_
  refine k_iconst C (x := 1) rfl rfl rfl ?_
  refine k_iadd C rfl rfl ?_
  refine hL.1 _ _ _ _ _ _ _ rfl (vsk hi hLn (c := 1) (by decide)) ?_
  refine k_aload_n C rfl rfl rfl ?_
  refine k_iload C rfl rfl rfl ?_
  refine k_iconst C (x := 2) rfl rfl rfl ?_
  refine k_iadd C rfl rfl ?_
  refine hL.1 _ _ _ _ _ _ _ rfl (vsk hi hLn (c := 2) (by decide)) ?_
  refine k_aload_n C rfl rfl rfl ?_
  refine k_iload C rfl rfl rfl ?_
  refine k_iconst C (x := 3) rfl rfl rfl ?_
  refine k_iadd C rfl rfl ?_
  refine hL.1 _ _ _ _ _ _ _ rfl (vsk hi hLn (c := 3) (by decide)) ?_
  refine k_aload_n C rfl rfl rfl ?_
  refine k_iload C rfl rfl rfl ?_
  refine k_iconst C (x := 4) rfl rfl rfl ?_
  refine k_iadd C rfl rfl ?_
  refine hL.1 _ _ _ _ _ _ _ rfl (vsk hi hLn (c := 4) (by decide)) ?_
  refine k_aload_n C rfl rfl rfl ?_
  have hB := True.intro
  have T_x := H_x.1
  have T_m := H_m.1
  obtain ⟨wh, R_x_10, T_wh, A_wh⟩ := LF.wh H_x
  obtain ⟨wl, R_m_34, T_wl, N_wl, B_wl⟩ := MD.wl H_m
  have hA : ∀ a, (a = wh ∨ a = o) → A a ∧ (T a = 11 ∨ T a = 21) := by (rintro a (rfl | rfl)); exact ⟨A_wh, Or.inl T_wh⟩; exact ⟨A_o, Or.inr T_o⟩
  by_cases hok : okRed (xs (Int32.ofNat i + 1).toNatClampNeg) (xs (Int32.ofNat i + 2).toNatClampNeg) (xs (Int32.ofNat i + 3).toNatClampNeg)
  · skip
    by_cases hn : 0 ≤ (xs (Int32.ofNat i + 4).toNatClampNeg).toInt ∧ (xs (Int32.ofNat i + 4).toNatClampNeg).toInt ≤ 8
    · skip
      refine c_SI C (e_L_reduced_yes (A := fun a => a = wh ∨ a = o) T_x R_x_10 T_wh (Or.inl rfl) T_o N_o (Or.inr rfl) hok hn) rfl rfl rfl rfl rfl rfl rfl (by omega) (by omega) (Nat.le_of_ble_eq_true rfl) ?_
      rintro x4 I1 L2 ⟨rfl, f1, v1⟩
      have h3 := LI.cfr hLI H_m nAB hA f1
      refine k_istore C (lw := [(5, .int _), (4, .int _), (3, _), (2, _), (1, _), (0, _)]) rfl rfl (Nat.le_of_ble_eq_true rfl) rfl ?_
      refine k_aload_n C rfl rfl rfl ?_
      refine k_aload_n C rfl rfl rfl ?_
      refine k_iload C rfl rfl rfl ?_
      refine k_iconst C (x := 1) rfl rfl rfl ?_
      refine k_iadd C rfl rfl ?_
      refine hL.1 _ _ _ _ _ _ _ rfl (vsk hi hLn (c := 1) (by decide)) ?_
      refine k_aload_n C rfl rfl rfl ?_
      refine k_iload C rfl rfl rfl ?_
      refine k_iconst C (x := 2) rfl rfl rfl ?_
      refine k_iadd C rfl rfl ?_
      refine hL.1 _ _ _ _ _ _ _ rfl (vsk hi hLn (c := 2) (by decide)) ?_
      refine k_aload_n C rfl rfl rfl ?_
      refine k_iload C rfl rfl rfl ?_
      refine k_iconst C (x := 3) rfl rfl rfl ?_
      refine k_iadd C rfl rfl ?_
      refine hL.1 _ _ _ _ _ _ _ rfl (vsk hi hLn (c := 3) (by decide)) ?_
      refine k_aload_n C rfl rfl rfl ?_
      refine k_iload C rfl rfl rfl ?_
      refine k_iconst C (x := 4) rfl rfl rfl ?_
      refine k_iadd C rfl rfl ?_
      refine hL.1 _ _ _ _ _ _ _ rfl (vsk hi hLn (c := 4) (by decide)) ?_
      refine c_VL C (e_m_reduced_yes (A := fun a => a = m ∨ R m 21 = some a ∨ R m 34 = some a) T_m (Or.inl rfl) R_m_34 T_wl N_wl (Or.inr (Or.inr R_m_34)) hok hn) rfl rfl rfl rfl rfl ⟨_, rfl, rfl, H_m.1, Nat.le_of_ble_eq_true rfl⟩ rfl rfl (by omega) (by omega) (Nat.le_of_ble_eq_true rfl) ?_
      rintro x8 I5 L6 ⟨rfl, f2, z2, k2⟩
      have h7 := LI.rfr h3 H_m nAB hB f2 k2
      refine k_lstore C (lw := [(6, .long _), (5, .int _), (4, .int _), (3, _), (2, _), (1, _), (0, _)]) rfl rfl (Nat.le_of_ble_eq_true rfl) rfl ?_
      refine k_goto C (pc2 := 1899) rfl rfl ?_
      exact K _ _ _ _ _ h7 (by omega) (by omega) (List.forall_mem_cons.mpr ⟨List.mem_of_getElem? (i := 2) rfl, List.forall_mem_cons.mpr ⟨List.mem_of_getElem? (i := 3) rfl, List.forall_mem_cons.mpr ⟨List.mem_of_getElem? (i := 4) rfl, List.forall_mem_cons.mpr ⟨List.mem_of_getElem? (i := 5) rfl, List.forall_mem_cons.mpr ⟨List.mem_of_getElem? (i := 6) rfl, fun _ h => nomatch h⟩⟩⟩⟩⟩)
    · skip
      refine c_SI C (e_L_reduced_nse T_x hok hn) rfl rfl rfl rfl rfl rfl rfl (by omega) (by omega) (Nat.le_of_ble_eq_true rfl) ?_
      rintro x12 I9 L10 ⟨rfl, hI8, hL9⟩
      have hI8 := hI8.symm; subst hI8; have hL9 := hL9.symm; subst hL9
      refine k_istore C (lw := [(5, .int _), (4, .int _), (3, _), (2, _), (1, _), (0, _)]) rfl rfl (Nat.le_of_ble_eq_true rfl) rfl ?_
      refine k_aload_n C rfl rfl rfl ?_
      refine k_aload_n C rfl rfl rfl ?_
      refine k_iload C rfl rfl rfl ?_
      refine k_iconst C (x := 1) rfl rfl rfl ?_
      refine k_iadd C rfl rfl ?_
      refine hL.1 _ _ _ _ _ _ _ rfl (vsk hi hLn (c := 1) (by decide)) ?_
      refine k_aload_n C rfl rfl rfl ?_
      refine k_iload C rfl rfl rfl ?_
      refine k_iconst C (x := 2) rfl rfl rfl ?_
      refine k_iadd C rfl rfl ?_
      refine hL.1 _ _ _ _ _ _ _ rfl (vsk hi hLn (c := 2) (by decide)) ?_
      refine k_aload_n C rfl rfl rfl ?_
      refine k_iload C rfl rfl rfl ?_
      refine k_iconst C (x := 3) rfl rfl rfl ?_
      refine k_iadd C rfl rfl ?_
      refine hL.1 _ _ _ _ _ _ _ rfl (vsk hi hLn (c := 3) (by decide)) ?_
      refine k_aload_n C rfl rfl rfl ?_
      refine k_iload C rfl rfl rfl ?_
      refine k_iconst C (x := 4) rfl rfl rfl ?_
      refine k_iadd C rfl rfl ?_
      refine hL.1 _ _ _ _ _ _ _ rfl (vsk hi hLn (c := 4) (by decide)) ?_
      refine c_VL C (e_m_reduced_nse (A := fun a => a = m ∨ R m 21 = some a ∨ R m 34 = some a) T_m (Or.inl rfl) hok hn) rfl rfl rfl rfl rfl ⟨_, rfl, rfl, H_m.1, Nat.le_of_ble_eq_true rfl⟩ rfl rfl (by omega) (by omega) (Nat.le_of_ble_eq_true rfl) ?_
      rintro x16 I13 L14 ⟨f2, z2, k2⟩
      have h15 := LI.rfr hLI H_m nAB hB f2 k2
      refine k_lstore C (lw := [(6, .long _), (5, .int _), (4, .int _), (3, _), (2, _), (1, _), (0, _)]) rfl rfl (Nat.le_of_ble_eq_true rfl) rfl ?_
      refine k_goto C (pc2 := 1899) rfl rfl ?_
      exact K _ _ _ _ _ h15 (by omega) (by omega) (List.forall_mem_cons.mpr ⟨List.mem_of_getElem? (i := 2) rfl, List.forall_mem_cons.mpr ⟨List.mem_of_getElem? (i := 3) rfl, List.forall_mem_cons.mpr ⟨List.mem_of_getElem? (i := 4) rfl, List.forall_mem_cons.mpr ⟨List.mem_of_getElem? (i := 5) rfl, List.forall_mem_cons.mpr ⟨List.mem_of_getElem? (i := 6) rfl, fun _ h => nomatch h⟩⟩⟩⟩⟩)
  · skip
    refine c_SI C (e_L_reduced_no T_x hok) rfl rfl rfl rfl rfl rfl rfl (by omega) (by omega) (Nat.le_of_ble_eq_true rfl) ?_
    rintro x20 I17 L18 ⟨rfl, hI8, hL9⟩
    have hI8 := hI8.symm; subst hI8; have hL9 := hL9.symm; subst hL9
    refine k_istore C (lw := [(5, .int _), (4, .int _), (3, _), (2, _), (1, _), (0, _)]) rfl rfl (Nat.le_of_ble_eq_true rfl) rfl ?_
    refine k_aload_n C rfl rfl rfl ?_
    refine k_aload_n C rfl rfl rfl ?_
    refine k_iload C rfl rfl rfl ?_
    refine k_iconst C (x := 1) rfl rfl rfl ?_
    refine k_iadd C rfl rfl ?_
    refine hL.1 _ _ _ _ _ _ _ rfl (vsk hi hLn (c := 1) (by decide)) ?_
    refine k_aload_n C rfl rfl rfl ?_
    refine k_iload C rfl rfl rfl ?_
    refine k_iconst C (x := 2) rfl rfl rfl ?_
    refine k_iadd C rfl rfl ?_
    refine hL.1 _ _ _ _ _ _ _ rfl (vsk hi hLn (c := 2) (by decide)) ?_
    refine k_aload_n C rfl rfl rfl ?_
    refine k_iload C rfl rfl rfl ?_
    refine k_iconst C (x := 3) rfl rfl rfl ?_
    refine k_iadd C rfl rfl ?_
    refine hL.1 _ _ _ _ _ _ _ rfl (vsk hi hLn (c := 3) (by decide)) ?_
    refine k_aload_n C rfl rfl rfl ?_
    refine k_iload C rfl rfl rfl ?_
    refine k_iconst C (x := 4) rfl rfl rfl ?_
    refine k_iadd C rfl rfl ?_
    refine hL.1 _ _ _ _ _ _ _ rfl (vsk hi hLn (c := 4) (by decide)) ?_
    refine c_VL C (e_m_reduced_no (A := fun a => a = m ∨ R m 21 = some a ∨ R m 34 = some a) T_m (Or.inl rfl) hok) rfl rfl rfl rfl rfl ⟨_, rfl, rfl, H_m.1, Nat.le_of_ble_eq_true rfl⟩ rfl rfl (by omega) (by omega) (Nat.le_of_ble_eq_true rfl) ?_
    rintro x24 I21 L22 ⟨f2, z2, k2⟩
    have h23 := LI.rfr hLI H_m nAB hB f2 k2
    refine k_lstore C (lw := [(6, .long _), (5, .int _), (4, .int _), (3, _), (2, _), (1, _), (0, _)]) rfl rfl (Nat.le_of_ble_eq_true rfl) rfl ?_
    refine k_goto C (pc2 := 1899) rfl rfl ?_
    exact K _ _ _ _ _ h23 (by omega) (by omega) (List.forall_mem_cons.mpr ⟨List.mem_of_getElem? (i := 2) rfl, List.forall_mem_cons.mpr ⟨List.mem_of_getElem? (i := 3) rfl, List.forall_mem_cons.mpr ⟨List.mem_of_getElem? (i := 4) rfl, List.forall_mem_cons.mpr ⟨List.mem_of_getElem? (i := 5) rfl, List.forall_mem_cons.mpr ⟨List.mem_of_getElem? (i := 6) rfl, fun _ h => nomatch h⟩⟩⟩⟩⟩)

set_option maxRecDepth 100000 in
theorem lc_36 {V : V_T} {b x m o Ln i : Nat} {xs : Nat → Int32} {T N : Nat → Nat} {I : IT} {L : LT} {R : RT} {A B : Nat → Prop} {ck sk : Nat} (C : Cl 40 q_law 601024 7293033 law_Po V) (S : SB V) (hL : LSc V b Ln xs) (H_x : h_LF T N R A x) (H_m : h_MD T N R B m) (T_o : T o = 21) (N_o : N o = 1) (A_o : A o) (nAB : ∀ a, A a → ¬ B a) (hi : i + 6 ≤ Ln) (hLn : Ln ≤ 3072) (hLI : LI T R A m I) (hck : ck + 3 ≤ 601024) (hsk : sk + 18 ≤ 7293033) (K : ∀ (lv : List (Nat × Value)) (I9 : IT) (L9 : LT) (ck9 sk9 : Nat), LI T R A m I9 → ck9 ≤ ck + 3 → sk9 ≤ sk + 18 → (∀ z ∈ ([(4, .int (Int32.ofNat i)), (3, .ref o), (2, .ref m), (1, .ref x), (0, .ref b)] : List (Nat × Value)), z ∈ lv) → V 1899 lv [] (T, N, I9, L9, R) ck9 sk9) : V 1638 [(4, .int (Int32.ofNat i)), (3, .ref o), (2, .ref m), (1, .ref x), (0, .ref b)] [] (T, N, I, L, R) ck sk := by
  refine k_aload_n C rfl rfl rfl ?_
  refine k_aload_n C rfl rfl rfl ?_
  refine k_iload C rfl rfl rfl ?_
  refine k_iconst C (x := 1) rfl rfl rfl ?_
  refine k_iadd C rfl rfl ?_
  refine hL.1 _ _ _ _ _ _ _ rfl (vsk hi hLn (c := 1) (by decide)) ?_
  refine k_aload_n C rfl rfl rfl ?_
  refine k_iload C rfl rfl rfl ?_
  refine k_iconst C (x := 2) rfl rfl rfl ?_
  refine k_iadd C rfl rfl ?_
  refine hL.1 _ _ _ _ _ _ _ rfl (vsk hi hLn (c := 2) (by decide)) ?_
  refine k_if_eq C (t := 1658) rfl rfl rfl (fun c1 => ?_) (fun c1 => ?_)
  · skip
    refine k_iconst C (x := 0) rfl rfl rfl ?_
    refine k_aload_n C rfl rfl rfl ?_
    have hB := True.intro
    have T_x := H_x.1
    have T_m := H_m.1
    obtain ⟨wh, R_x_10, T_wh, A_wh⟩ := LF.wh H_x
    have hA : ∀ a, (a = wh ∨ a = o) → A a ∧ (T a = 11 ∨ T a = 21) := by (rintro a (rfl | rfl)); exact ⟨A_wh, Or.inl T_wh⟩; exact ⟨A_o, Or.inr T_o⟩
    by_cases hD : isDc (xs (Int32.ofNat i + 1).toNatClampNeg)
    · skip
      refine c_SI C (e_L_classes_yes (A := fun a => a = wh ∨ a = o) T_x R_x_10 T_wh (Or.inl rfl) T_o N_o (Or.inr rfl) hD (by first | exact Or.inl rfl | exact Or.inr rfl)) rfl rfl rfl rfl rfl rfl rfl (by omega) (by omega) (Nat.le_of_ble_eq_true rfl) ?_
      rintro x5 I2 L3 ⟨rfl, f1, v1⟩
      have h4 := LI.cfr hLI H_m nAB hA f1
      refine k_istore C (lw := [(5, .int _), (4, .int _), (3, _), (2, _), (1, _), (0, _)]) rfl rfl (Nat.le_of_ble_eq_true rfl) rfl ?_
      refine k_aload_n C rfl rfl rfl ?_
      refine k_aload_n C rfl rfl rfl ?_
      refine k_iload C rfl rfl rfl ?_
      refine k_iconst C (x := 1) rfl rfl rfl ?_
      refine k_iadd C rfl rfl ?_
      refine hL.1 _ _ _ _ _ _ _ rfl (vsk hi hLn (c := 1) (by decide)) ?_
      refine k_aload_n C rfl rfl rfl ?_
      refine k_iload C rfl rfl rfl ?_
      refine k_iconst C (x := 2) rfl rfl rfl ?_
      refine k_iadd C rfl rfl ?_
      refine hL.1 _ _ _ _ _ _ _ rfl (vsk hi hLn (c := 2) (by decide)) ?_
      refine k_if_eq C (t := 1685) rfl rfl rfl (fun c6 => ?_) (fun c6 => ?_)
      · skip
        refine k_iconst C (x := 0) rfl rfl rfl ?_
        refine c_VI C (e_m_classes_yes (A := fun a => a = m ∨ R m 21 = some a ∨ R m 34 = some a) T_m (Or.inl rfl) hD (by first | exact Or.inl rfl | exact Or.inr rfl)) rfl rfl rfl rfl rfl ⟨_, rfl, rfl, H_m.1, Nat.le_of_ble_eq_true rfl⟩ rfl rfl (by omega) (by omega) (Nat.le_of_ble_eq_true rfl) ?_
        rintro x10 I7 L8 ⟨rfl, f2, z2, k2⟩
        have h9 := LI.rfr h4 H_m nAB hB f2 k2
        refine k_istore C (lw := [(6, .int _), (5, .int _), (4, .int _), (3, _), (2, _), (1, _), (0, _)]) rfl rfl (Nat.le_of_ble_eq_true rfl) rfl ?_
        refine k_goto C (pc2 := 1899) rfl rfl ?_
        exact K _ _ _ _ _ h9 (by omega) (by omega) (List.forall_mem_cons.mpr ⟨List.mem_of_getElem? (i := 2) rfl, List.forall_mem_cons.mpr ⟨List.mem_of_getElem? (i := 3) rfl, List.forall_mem_cons.mpr ⟨List.mem_of_getElem? (i := 4) rfl, List.forall_mem_cons.mpr ⟨List.mem_of_getElem? (i := 5) rfl, List.forall_mem_cons.mpr ⟨List.mem_of_getElem? (i := 6) rfl, fun _ h => nomatch h⟩⟩⟩⟩⟩)
      exact absurd c1 c6
    · skip
      refine c_SI C (e_L_classes_no T_x hD) rfl rfl rfl rfl rfl rfl rfl (by omega) (by omega) (Nat.le_of_ble_eq_true rfl) ?_
      rintro x14 I11 L12 ⟨rfl, hI8, hL9⟩
      have hI8 := hI8.symm; subst hI8; have hL9 := hL9.symm; subst hL9
      refine k_istore C (lw := [(5, .int _), (4, .int _), (3, _), (2, _), (1, _), (0, _)]) rfl rfl (Nat.le_of_ble_eq_true rfl) rfl ?_
      refine k_aload_n C rfl rfl rfl ?_
      refine k_aload_n C rfl rfl rfl ?_
      refine k_iload C rfl rfl rfl ?_
      refine k_iconst C (x := 1) rfl rfl rfl ?_
      refine k_iadd C rfl rfl ?_
      refine hL.1 _ _ _ _ _ _ _ rfl (vsk hi hLn (c := 1) (by decide)) ?_
      refine k_aload_n C rfl rfl rfl ?_
      refine k_iload C rfl rfl rfl ?_
      refine k_iconst C (x := 2) rfl rfl rfl ?_
      refine k_iadd C rfl rfl ?_
      refine hL.1 _ _ _ _ _ _ _ rfl (vsk hi hLn (c := 2) (by decide)) ?_
      refine k_if_eq C (t := 1685) rfl rfl rfl (fun c15 => ?_) (fun c15 => ?_)
      · skip
        refine k_iconst C (x := 0) rfl rfl rfl ?_
        refine c_VI C (e_m_classes_no (A := fun a => a = m ∨ R m 21 = some a ∨ R m 34 = some a) T_m (Or.inl rfl) hD) rfl rfl rfl rfl rfl ⟨_, rfl, rfl, H_m.1, Nat.le_of_ble_eq_true rfl⟩ rfl rfl (by omega) (by omega) (Nat.le_of_ble_eq_true rfl) ?_
        rintro x19 I16 L17 ⟨f2, z2, k2⟩
        have h18 := LI.rfr hLI H_m nAB hB f2 k2
        refine k_istore C (lw := [(6, .int _), (5, .int _), (4, .int _), (3, _), (2, _), (1, _), (0, _)]) rfl rfl (Nat.le_of_ble_eq_true rfl) rfl ?_
        refine k_goto C (pc2 := 1899) rfl rfl ?_
        exact K _ _ _ _ _ h18 (by omega) (by omega) (List.forall_mem_cons.mpr ⟨List.mem_of_getElem? (i := 2) rfl, List.forall_mem_cons.mpr ⟨List.mem_of_getElem? (i := 3) rfl, List.forall_mem_cons.mpr ⟨List.mem_of_getElem? (i := 4) rfl, List.forall_mem_cons.mpr ⟨List.mem_of_getElem? (i := 5) rfl, List.forall_mem_cons.mpr ⟨List.mem_of_getElem? (i := 6) rfl, fun _ h => nomatch h⟩⟩⟩⟩⟩)
      exact absurd c1 c15
  refine k_iconst C (x := 1) rfl rfl rfl ?_
  refine k_goto C (pc2 := 1659) rfl rfl ?_
  refine k_aload_n C rfl rfl rfl ?_
  have hB := True.intro
  have T_x := H_x.1
  have T_m := H_m.1
  obtain ⟨wh, R_x_10, T_wh, A_wh⟩ := LF.wh H_x
  have hA : ∀ a, (a = wh ∨ a = o) → A a ∧ (T a = 11 ∨ T a = 21) := by (rintro a (rfl | rfl)); exact ⟨A_wh, Or.inl T_wh⟩; exact ⟨A_o, Or.inr T_o⟩
  by_cases hD : isDc (xs (Int32.ofNat i + 1).toNatClampNeg)
  · skip
    refine c_SI C (e_L_classes_yes (A := fun a => a = wh ∨ a = o) T_x R_x_10 T_wh (Or.inl rfl) T_o N_o (Or.inr rfl) hD (by first | exact Or.inl rfl | exact Or.inr rfl)) rfl rfl rfl rfl rfl rfl rfl (by omega) (by omega) (Nat.le_of_ble_eq_true rfl) ?_
    rintro x23 I20 L21 ⟨rfl, f1, v1⟩
    have h22 := LI.cfr hLI H_m nAB hA f1
    refine k_istore C (lw := [(5, .int _), (4, .int _), (3, _), (2, _), (1, _), (0, _)]) rfl rfl (Nat.le_of_ble_eq_true rfl) rfl ?_
    refine k_aload_n C rfl rfl rfl ?_
    refine k_aload_n C rfl rfl rfl ?_
    refine k_iload C rfl rfl rfl ?_
    refine k_iconst C (x := 1) rfl rfl rfl ?_
    refine k_iadd C rfl rfl ?_
    refine hL.1 _ _ _ _ _ _ _ rfl (vsk hi hLn (c := 1) (by decide)) ?_
    refine k_aload_n C rfl rfl rfl ?_
    refine k_iload C rfl rfl rfl ?_
    refine k_iconst C (x := 2) rfl rfl rfl ?_
    refine k_iadd C rfl rfl ?_
    refine hL.1 _ _ _ _ _ _ _ rfl (vsk hi hLn (c := 2) (by decide)) ?_
    refine k_if_eq C (t := 1685) rfl rfl rfl (fun c24 => ?_) (fun c24 => ?_)
    · exact absurd c24 c1
    refine k_iconst C (x := 1) rfl rfl rfl ?_
    refine k_goto C (pc2 := 1686) rfl rfl ?_
    refine c_VI C (e_m_classes_yes (A := fun a => a = m ∨ R m 21 = some a ∨ R m 34 = some a) T_m (Or.inl rfl) hD (by first | exact Or.inl rfl | exact Or.inr rfl)) rfl rfl rfl rfl rfl ⟨_, rfl, rfl, H_m.1, Nat.le_of_ble_eq_true rfl⟩ rfl rfl (by omega) (by omega) (Nat.le_of_ble_eq_true rfl) ?_
    rintro x28 I25 L26 ⟨rfl, f2, z2, k2⟩
    have h27 := LI.rfr h22 H_m nAB hB f2 k2
    refine k_istore C (lw := [(6, .int _), (5, .int _), (4, .int _), (3, _), (2, _), (1, _), (0, _)]) rfl rfl (Nat.le_of_ble_eq_true rfl) rfl ?_
    refine k_goto C (pc2 := 1899) rfl rfl ?_
    exact K _ _ _ _ _ h27 (by omega) (by omega) (List.forall_mem_cons.mpr ⟨List.mem_of_getElem? (i := 2) rfl, List.forall_mem_cons.mpr ⟨List.mem_of_getElem? (i := 3) rfl, List.forall_mem_cons.mpr ⟨List.mem_of_getElem? (i := 4) rfl, List.forall_mem_cons.mpr ⟨List.mem_of_getElem? (i := 5) rfl, List.forall_mem_cons.mpr ⟨List.mem_of_getElem? (i := 6) rfl, fun _ h => nomatch h⟩⟩⟩⟩⟩)
  · skip
    refine c_SI C (e_L_classes_no T_x hD) rfl rfl rfl rfl rfl rfl rfl (by omega) (by omega) (Nat.le_of_ble_eq_true rfl) ?_
    rintro x32 I29 L30 ⟨rfl, hI8, hL9⟩
    have hI8 := hI8.symm; subst hI8; have hL9 := hL9.symm; subst hL9
    refine k_istore C (lw := [(5, .int _), (4, .int _), (3, _), (2, _), (1, _), (0, _)]) rfl rfl (Nat.le_of_ble_eq_true rfl) rfl ?_
    refine k_aload_n C rfl rfl rfl ?_
    refine k_aload_n C rfl rfl rfl ?_
    refine k_iload C rfl rfl rfl ?_
    refine k_iconst C (x := 1) rfl rfl rfl ?_
    refine k_iadd C rfl rfl ?_
    refine hL.1 _ _ _ _ _ _ _ rfl (vsk hi hLn (c := 1) (by decide)) ?_
    refine k_aload_n C rfl rfl rfl ?_
    refine k_iload C rfl rfl rfl ?_
    refine k_iconst C (x := 2) rfl rfl rfl ?_
    refine k_iadd C rfl rfl ?_
    refine hL.1 _ _ _ _ _ _ _ rfl (vsk hi hLn (c := 2) (by decide)) ?_
    refine k_if_eq C (t := 1685) rfl rfl rfl (fun c33 => ?_) (fun c33 => ?_)
    · exact absurd c33 c1
    refine k_iconst C (x := 1) rfl rfl rfl ?_
    refine k_goto C (pc2 := 1686) rfl rfl ?_
    refine c_VI C (e_m_classes_no (A := fun a => a = m ∨ R m 21 = some a ∨ R m 34 = some a) T_m (Or.inl rfl) hD) rfl rfl rfl rfl rfl ⟨_, rfl, rfl, H_m.1, Nat.le_of_ble_eq_true rfl⟩ rfl rfl (by omega) (by omega) (Nat.le_of_ble_eq_true rfl) ?_
    rintro x37 I34 L35 ⟨f2, z2, k2⟩
    have h36 := LI.rfr hLI H_m nAB hB f2 k2
    refine k_istore C (lw := [(6, .int _), (5, .int _), (4, .int _), (3, _), (2, _), (1, _), (0, _)]) rfl rfl (Nat.le_of_ble_eq_true rfl) rfl ?_
    refine k_goto C (pc2 := 1899) rfl rfl ?_
    exact K _ _ _ _ _ h36 (by omega) (by omega) (List.forall_mem_cons.mpr ⟨List.mem_of_getElem? (i := 2) rfl, List.forall_mem_cons.mpr ⟨List.mem_of_getElem? (i := 3) rfl, List.forall_mem_cons.mpr ⟨List.mem_of_getElem? (i := 4) rfl, List.forall_mem_cons.mpr ⟨List.mem_of_getElem? (i := 5) rfl, List.forall_mem_cons.mpr ⟨List.mem_of_getElem? (i := 6) rfl, fun _ h => nomatch h⟩⟩⟩⟩⟩)

set_option maxRecDepth 100000 in
theorem lc_37 {V : V_T} {b x m o Ln i : Nat} {xs : Nat → Int32} {T N : Nat → Nat} {I : IT} {L : LT} {R : RT} {A B : Nat → Prop} {ck sk : Nat} (C : Cl 40 q_law 601024 7293033 law_Po V) (S : SB V) (hL : LSc V b Ln xs) (H_x : h_LF T N R A x) (H_m : h_MD T N R B m) (T_o : T o = 21) (N_o : N o = 1) (A_o : A o) (nAB : ∀ a, A a → ¬ B a) (hi : i + 6 ≤ Ln) (hLn : Ln ≤ 3072) (hLI : LI T R A m I) (hck : ck + 3 ≤ 601024) (hsk : sk + 18 ≤ 7293033) (K : ∀ (lv : List (Nat × Value)) (I9 : IT) (L9 : LT) (ck9 sk9 : Nat), LI T R A m I9 → ck9 ≤ ck + 3 → sk9 ≤ sk + 18 → (∀ z ∈ ([(4, .int (Int32.ofNat i)), (3, .ref o), (2, .ref m), (1, .ref x), (0, .ref b)] : List (Nat × Value)), z ∈ lv) → V 1899 lv [] (T, N, I9, L9, R) ck9 sk9) : V 1694 [(4, .int (Int32.ofNat i)), (3, .ref o), (2, .ref m), (1, .ref x), (0, .ref b)] [] (T, N, I, L, R) ck sk := by
  refine k_aload_n C rfl rfl rfl ?_
  refine k_aload_n C rfl rfl rfl ?_
  refine k_iload C rfl rfl rfl ?_
  refine k_iconst C (x := 1) rfl rfl rfl ?_
  refine k_iadd C rfl rfl ?_
  refine hL.1 _ _ _ _ _ _ _ rfl (vsk hi hLn (c := 1) (by decide)) ?_
  refine k_aload_n C rfl rfl rfl ?_
  refine k_iload C rfl rfl rfl ?_
  refine k_iconst C (x := 2) rfl rfl rfl ?_
  refine k_iadd C rfl rfl ?_
  refine hL.1 _ _ _ _ _ _ _ rfl (vsk hi hLn (c := 2) (by decide)) ?_
  refine k_aload_n C rfl rfl rfl ?_
  refine k_iload C rfl rfl rfl ?_
  refine k_iconst C (x := 3) rfl rfl rfl ?_
  refine k_iadd C rfl rfl ?_
  refine hL.1 _ _ _ _ _ _ _ rfl (vsk hi hLn (c := 3) (by decide)) ?_
  refine k_aload_n C rfl rfl rfl ?_
  have hB := True.intro
  have T_x := H_x.1
  have T_m := H_m.1
  obtain ⟨wh, R_x_10, T_wh, A_wh⟩ := LF.wh H_x
  have hA : ∀ a, (a = wh ∨ a = o) → A a ∧ (T a = 11 ∨ T a = 21) := by (rintro a (rfl | rfl)); exact ⟨A_wh, Or.inl T_wh⟩; exact ⟨A_o, Or.inr T_o⟩
  by_cases hD : isDc (xs (Int32.ofNat i + 1).toNatClampNeg)
  · skip
    by_cases hk : (xs (Int32.ofNat i + 2).toNatClampNeg) < 0
    · skip
      refine c_SI C (e_L_reducedAt_no2 T_x hD hk) rfl rfl rfl rfl rfl rfl rfl (by omega) (by omega) (Nat.le_of_ble_eq_true rfl) ?_
      rintro x4 I1 L2 ⟨rfl, hI8, hL9⟩
      have hI8 := hI8.symm; subst hI8; have hL9 := hL9.symm; subst hL9
      refine k_istore C (lw := [(5, .int _), (4, .int _), (3, _), (2, _), (1, _), (0, _)]) rfl rfl (Nat.le_of_ble_eq_true rfl) rfl ?_
      refine k_aload_n C rfl rfl rfl ?_
      refine k_aload_n C rfl rfl rfl ?_
      refine k_iload C rfl rfl rfl ?_
      refine k_iconst C (x := 1) rfl rfl rfl ?_
      refine k_iadd C rfl rfl ?_
      refine hL.1 _ _ _ _ _ _ _ rfl (vsk hi hLn (c := 1) (by decide)) ?_
      refine k_aload_n C rfl rfl rfl ?_
      refine k_iload C rfl rfl rfl ?_
      refine k_iconst C (x := 2) rfl rfl rfl ?_
      refine k_iadd C rfl rfl ?_
      refine hL.1 _ _ _ _ _ _ _ rfl (vsk hi hLn (c := 2) (by decide)) ?_
      refine k_aload_n C rfl rfl rfl ?_
      refine k_iload C rfl rfl rfl ?_
      refine k_iconst C (x := 3) rfl rfl rfl ?_
      refine k_iadd C rfl rfl ?_
      refine hL.1 _ _ _ _ _ _ _ rfl (vsk hi hLn (c := 3) (by decide)) ?_
      refine c_VI C (e_m_reducedAt_no2 (A := fun a => a = m ∨ R m 21 = some a ∨ R m 34 = some a) T_m (Or.inl rfl) hD hk) rfl rfl rfl rfl rfl ⟨_, rfl, rfl, H_m.1, Nat.le_of_ble_eq_true rfl⟩ rfl rfl (by omega) (by omega) (Nat.le_of_ble_eq_true rfl) ?_
      rintro x8 I5 L6 ⟨f2, z2, k2⟩
      have h7 := LI.rfr hLI H_m nAB hB f2 k2
      refine k_istore C (lw := [(6, .int _), (5, .int _), (4, .int _), (3, _), (2, _), (1, _), (0, _)]) rfl rfl (Nat.le_of_ble_eq_true rfl) rfl ?_
      refine k_aload_n C rfl rfl rfl ?_
      refine c_VI C (e_thrown T_m) rfl rfl rfl rfl rfl ⟨_, rfl, rfl, T_m, Nat.le_of_ble_eq_true rfl⟩ rfl rfl (by omega) (by omega) (Nat.le_of_ble_eq_true rfl) ?_
      rintro _ _ _ ⟨hx7, hI8, hL9⟩
      have hx7 := hx7.symm; subst hx7
      have hI8 := hI8.symm; subst hI8; have hL9 := hL9.symm; subst hL9
      rw [z2]
      refine k_iload C rfl rfl rfl ?_
      refine k_icmp_eq C (t := 1754) rfl rfl rfl (fun _ => ?_) (fun c9 => absurd (by decide) c9)
      refine k_iload C rfl rfl rfl ?_
      refine k_if_ne C (t := 1771) rfl rfl rfl (fun _ => ?_) (fun c10 => absurd (by decide) c10)
      refine k_goto C (pc2 := 1899) rfl rfl ?_
      exact K _ _ _ _ _ h7 (by omega) (by omega) (List.forall_mem_cons.mpr ⟨List.mem_of_getElem? (i := 2) rfl, List.forall_mem_cons.mpr ⟨List.mem_of_getElem? (i := 3) rfl, List.forall_mem_cons.mpr ⟨List.mem_of_getElem? (i := 4) rfl, List.forall_mem_cons.mpr ⟨List.mem_of_getElem? (i := 5) rfl, List.forall_mem_cons.mpr ⟨List.mem_of_getElem? (i := 6) rfl, fun _ h => nomatch h⟩⟩⟩⟩⟩)
    · skip
      have hk := Int32.not_lt.mp hk
      by_cases hn : 0 ≤ (xs (Int32.ofNat i + 3).toNatClampNeg).toInt ∧ (xs (Int32.ofNat i + 3).toNatClampNeg).toInt ≤ 2
      · skip
        refine c_SI C (e_L_reducedAt_yes (A := fun a => a = wh ∨ a = o) T_x R_x_10 T_wh (Or.inl rfl) T_o N_o (Or.inr rfl) hD hk hn) rfl rfl rfl rfl rfl rfl rfl (by omega) (by omega) (Nat.le_of_ble_eq_true rfl) ?_
        rintro x14 I11 L12 ⟨rfl, f1, v1⟩
        have h13 := LI.cfr hLI H_m nAB hA f1
        refine k_istore C (lw := [(5, .int _), (4, .int _), (3, _), (2, _), (1, _), (0, _)]) rfl rfl (Nat.le_of_ble_eq_true rfl) rfl ?_
        refine k_aload_n C rfl rfl rfl ?_
        refine k_aload_n C rfl rfl rfl ?_
        refine k_iload C rfl rfl rfl ?_
        refine k_iconst C (x := 1) rfl rfl rfl ?_
        refine k_iadd C rfl rfl ?_
        refine hL.1 _ _ _ _ _ _ _ rfl (vsk hi hLn (c := 1) (by decide)) ?_
        refine k_aload_n C rfl rfl rfl ?_
        refine k_iload C rfl rfl rfl ?_
        refine k_iconst C (x := 2) rfl rfl rfl ?_
        refine k_iadd C rfl rfl ?_
        refine hL.1 _ _ _ _ _ _ _ rfl (vsk hi hLn (c := 2) (by decide)) ?_
        refine k_aload_n C rfl rfl rfl ?_
        refine k_iload C rfl rfl rfl ?_
        refine k_iconst C (x := 3) rfl rfl rfl ?_
        refine k_iadd C rfl rfl ?_
        refine hL.1 _ _ _ _ _ _ _ rfl (vsk hi hLn (c := 3) (by decide)) ?_
        refine c_VI C (e_m_reducedAt_yes (A := fun a => a = m ∨ R m 21 = some a ∨ R m 34 = some a) T_m (Or.inl rfl) hD hk hn) rfl rfl rfl rfl rfl ⟨_, rfl, rfl, H_m.1, Nat.le_of_ble_eq_true rfl⟩ rfl rfl (by omega) (by omega) (Nat.le_of_ble_eq_true rfl) ?_
        rintro x18 I15 L16 ⟨rfl, f2, z2, k2⟩
        have h17 := LI.rfr h13 H_m nAB hB f2 k2
        refine k_istore C (lw := [(6, .int _), (5, .int _), (4, .int _), (3, _), (2, _), (1, _), (0, _)]) rfl rfl (Nat.le_of_ble_eq_true rfl) rfl ?_
        refine k_aload_n C rfl rfl rfl ?_
        refine c_VI C (e_thrown T_m) rfl rfl rfl rfl rfl ⟨_, rfl, rfl, T_m, Nat.le_of_ble_eq_true rfl⟩ rfl rfl (by omega) (by omega) (Nat.le_of_ble_eq_true rfl) ?_
        rintro _ _ _ ⟨hx7, hI8, hL9⟩
        have hx7 := hx7.symm; subst hx7
        have hI8 := hI8.symm; subst hI8; have hL9 := hL9.symm; subst hL9
        rw [z2]
        refine k_iload C rfl rfl rfl ?_
        refine k_icmp_eq C (t := 1754) rfl rfl rfl (fun _ => ?_) (fun c19 => absurd (by decide) c19)
        refine k_iload C rfl rfl rfl ?_
        refine k_if_ne C (t := 1771) rfl rfl rfl (fun c20 => absurd c20 (by decide)) (fun _ => ?_)
        refine k_aload_n C rfl rfl rfl ?_
        refine k_iconst C (x := 0) rfl rfl rfl ?_
        refine a_L C rfl rfl T_o (vin (n := 0) rfl (by rw [N_o]; exact Nat.le_of_ble_eq_true rfl) (by rw [N_o]; exact Nat.le_of_ble_eq_true rfl)) ((congrFun (f2 o (MD.no H_m nAB A_o)).2 0).trans v1) ?_
        refine k_iload C rfl rfl rfl ?_
        refine k_i2l C rfl rfl ?_
        refine k_lcmp C rfl rfl ?_
        refine k_if_eq C (t := 1771) rfl rfl rfl (fun c21 => ?_) (fun c21 => ?_)
        · skip
          refine k_goto C (pc2 := 1899) rfl rfl ?_
          exact K _ _ _ _ _ h17 (by omega) (by omega) (List.forall_mem_cons.mpr ⟨List.mem_of_getElem? (i := 2) rfl, List.forall_mem_cons.mpr ⟨List.mem_of_getElem? (i := 3) rfl, List.forall_mem_cons.mpr ⟨List.mem_of_getElem? (i := 4) rfl, List.forall_mem_cons.mpr ⟨List.mem_of_getElem? (i := 5) rfl, List.forall_mem_cons.mpr ⟨List.mem_of_getElem? (i := 6) rfl, fun _ h => nomatch h⟩⟩⟩⟩⟩)
        exact absurd ((lg_cmp_eq _ _).mpr rfl) c21
      · skip
        refine c_SI C (e_L_reducedAt_nse T_x hD hk hn) rfl rfl rfl rfl rfl rfl rfl (by omega) (by omega) (Nat.le_of_ble_eq_true rfl) ?_
        rintro x25 I22 L23 ⟨rfl, hI8, hL9⟩
        have hI8 := hI8.symm; subst hI8; have hL9 := hL9.symm; subst hL9
        refine k_istore C (lw := [(5, .int _), (4, .int _), (3, _), (2, _), (1, _), (0, _)]) rfl rfl (Nat.le_of_ble_eq_true rfl) rfl ?_
        refine k_aload_n C rfl rfl rfl ?_
        refine k_aload_n C rfl rfl rfl ?_
        refine k_iload C rfl rfl rfl ?_
        refine k_iconst C (x := 1) rfl rfl rfl ?_
        refine k_iadd C rfl rfl ?_
        refine hL.1 _ _ _ _ _ _ _ rfl (vsk hi hLn (c := 1) (by decide)) ?_
        refine k_aload_n C rfl rfl rfl ?_
        refine k_iload C rfl rfl rfl ?_
        refine k_iconst C (x := 2) rfl rfl rfl ?_
        refine k_iadd C rfl rfl ?_
        refine hL.1 _ _ _ _ _ _ _ rfl (vsk hi hLn (c := 2) (by decide)) ?_
        refine k_aload_n C rfl rfl rfl ?_
        refine k_iload C rfl rfl rfl ?_
        refine k_iconst C (x := 3) rfl rfl rfl ?_
        refine k_iadd C rfl rfl ?_
        refine hL.1 _ _ _ _ _ _ _ rfl (vsk hi hLn (c := 3) (by decide)) ?_
        refine c_VI C (e_m_reducedAt_nse (A := fun a => a = m ∨ R m 21 = some a ∨ R m 34 = some a) T_m (Or.inl rfl) hD hk hn) rfl rfl rfl rfl rfl ⟨_, rfl, rfl, H_m.1, Nat.le_of_ble_eq_true rfl⟩ rfl rfl (by omega) (by omega) (Nat.le_of_ble_eq_true rfl) ?_
        rintro x29 I26 L27 ⟨f2, z2, k2⟩
        have h28 := LI.rfr hLI H_m nAB hB f2 k2
        refine k_istore C (lw := [(6, .int _), (5, .int _), (4, .int _), (3, _), (2, _), (1, _), (0, _)]) rfl rfl (Nat.le_of_ble_eq_true rfl) rfl ?_
        refine k_aload_n C rfl rfl rfl ?_
        refine c_VI C (e_thrown T_m) rfl rfl rfl rfl rfl ⟨_, rfl, rfl, T_m, Nat.le_of_ble_eq_true rfl⟩ rfl rfl (by omega) (by omega) (Nat.le_of_ble_eq_true rfl) ?_
        rintro _ _ _ ⟨hx7, hI8, hL9⟩
        have hx7 := hx7.symm; subst hx7
        have hI8 := hI8.symm; subst hI8; have hL9 := hL9.symm; subst hL9
        rw [z2]
        refine k_iload C rfl rfl rfl ?_
        refine k_icmp_eq C (t := 1754) rfl rfl rfl (fun _ => ?_) (fun c30 => absurd (by decide) c30)
        refine k_iload C rfl rfl rfl ?_
        refine k_if_ne C (t := 1771) rfl rfl rfl (fun _ => ?_) (fun c31 => absurd (by decide) c31)
        refine k_goto C (pc2 := 1899) rfl rfl ?_
        exact K _ _ _ _ _ h28 (by omega) (by omega) (List.forall_mem_cons.mpr ⟨List.mem_of_getElem? (i := 2) rfl, List.forall_mem_cons.mpr ⟨List.mem_of_getElem? (i := 3) rfl, List.forall_mem_cons.mpr ⟨List.mem_of_getElem? (i := 4) rfl, List.forall_mem_cons.mpr ⟨List.mem_of_getElem? (i := 5) rfl, List.forall_mem_cons.mpr ⟨List.mem_of_getElem? (i := 6) rfl, fun _ h => nomatch h⟩⟩⟩⟩⟩)
  · skip
    refine c_SI C (e_L_reducedAt_no1 T_x hD) rfl rfl rfl rfl rfl rfl rfl (by omega) (by omega) (Nat.le_of_ble_eq_true rfl) ?_
    rintro x35 I32 L33 ⟨rfl, hI8, hL9⟩
    have hI8 := hI8.symm; subst hI8; have hL9 := hL9.symm; subst hL9
    refine k_istore C (lw := [(5, .int _), (4, .int _), (3, _), (2, _), (1, _), (0, _)]) rfl rfl (Nat.le_of_ble_eq_true rfl) rfl ?_
    refine k_aload_n C rfl rfl rfl ?_
    refine k_aload_n C rfl rfl rfl ?_
    refine k_iload C rfl rfl rfl ?_
    refine k_iconst C (x := 1) rfl rfl rfl ?_
    refine k_iadd C rfl rfl ?_
    refine hL.1 _ _ _ _ _ _ _ rfl (vsk hi hLn (c := 1) (by decide)) ?_
    refine k_aload_n C rfl rfl rfl ?_
    refine k_iload C rfl rfl rfl ?_
    refine k_iconst C (x := 2) rfl rfl rfl ?_
    refine k_iadd C rfl rfl ?_
    refine hL.1 _ _ _ _ _ _ _ rfl (vsk hi hLn (c := 2) (by decide)) ?_
    refine k_aload_n C rfl rfl rfl ?_
    refine k_iload C rfl rfl rfl ?_
    refine k_iconst C (x := 3) rfl rfl rfl ?_
    refine k_iadd C rfl rfl ?_
    refine hL.1 _ _ _ _ _ _ _ rfl (vsk hi hLn (c := 3) (by decide)) ?_
    refine c_VI C (e_m_reducedAt_no1 (A := fun a => a = m ∨ R m 21 = some a ∨ R m 34 = some a) T_m (Or.inl rfl) hD) rfl rfl rfl rfl rfl ⟨_, rfl, rfl, H_m.1, Nat.le_of_ble_eq_true rfl⟩ rfl rfl (by omega) (by omega) (Nat.le_of_ble_eq_true rfl) ?_
    rintro x39 I36 L37 ⟨f2, z2, k2⟩
    have h38 := LI.rfr hLI H_m nAB hB f2 k2
    refine k_istore C (lw := [(6, .int _), (5, .int _), (4, .int _), (3, _), (2, _), (1, _), (0, _)]) rfl rfl (Nat.le_of_ble_eq_true rfl) rfl ?_
    refine k_aload_n C rfl rfl rfl ?_
    refine c_VI C (e_thrown T_m) rfl rfl rfl rfl rfl ⟨_, rfl, rfl, T_m, Nat.le_of_ble_eq_true rfl⟩ rfl rfl (by omega) (by omega) (Nat.le_of_ble_eq_true rfl) ?_
    rintro _ _ _ ⟨hx7, hI8, hL9⟩
    have hx7 := hx7.symm; subst hx7
    have hI8 := hI8.symm; subst hI8; have hL9 := hL9.symm; subst hL9
    rw [z2]
    refine k_iload C rfl rfl rfl ?_
    refine k_icmp_eq C (t := 1754) rfl rfl rfl (fun _ => ?_) (fun c40 => absurd (by decide) c40)
    refine k_iload C rfl rfl rfl ?_
    refine k_if_ne C (t := 1771) rfl rfl rfl (fun _ => ?_) (fun c41 => absurd (by decide) c41)
    refine k_goto C (pc2 := 1899) rfl rfl ?_
    exact K _ _ _ _ _ h38 (by omega) (by omega) (List.forall_mem_cons.mpr ⟨List.mem_of_getElem? (i := 2) rfl, List.forall_mem_cons.mpr ⟨List.mem_of_getElem? (i := 3) rfl, List.forall_mem_cons.mpr ⟨List.mem_of_getElem? (i := 4) rfl, List.forall_mem_cons.mpr ⟨List.mem_of_getElem? (i := 5) rfl, List.forall_mem_cons.mpr ⟨List.mem_of_getElem? (i := 6) rfl, fun _ h => nomatch h⟩⟩⟩⟩⟩)

set_option maxRecDepth 100000 in
theorem lc_38 {V : V_T} {b x m o Ln i : Nat} {xs : Nat → Int32} {T N : Nat → Nat} {I : IT} {L : LT} {R : RT} {A B : Nat → Prop} {ck sk : Nat} (C : Cl 40 q_law 601024 7293033 law_Po V) (S : SB V) (hL : LSc V b Ln xs) (H_x : h_LF T N R A x) (H_m : h_MD T N R B m) (T_o : T o = 21) (N_o : N o = 1) (A_o : A o) (nAB : ∀ a, A a → ¬ B a) (hi : i + 6 ≤ Ln) (hLn : Ln ≤ 3072) (hLI : LI T R A m I) (hck : ck + 3 ≤ 601024) (hsk : sk + 18 ≤ 7293033) (K : ∀ (lv : List (Nat × Value)) (I9 : IT) (L9 : LT) (ck9 sk9 : Nat), LI T R A m I9 → ck9 ≤ ck + 3 → sk9 ≤ sk + 18 → (∀ z ∈ ([(4, .int (Int32.ofNat i)), (3, .ref o), (2, .ref m), (1, .ref x), (0, .ref b)] : List (Nat × Value)), z ∈ lv) → V 1899 lv [] (T, N, I9, L9, R) ck9 sk9) : V 1774 [(4, .int (Int32.ofNat i)), (3, .ref o), (2, .ref m), (1, .ref x), (0, .ref b)] [] (T, N, I, L, R) ck sk := by
  refine k_aload_n C rfl rfl rfl ?_
  refine k_aload_n C rfl rfl rfl ?_
  refine k_iload C rfl rfl rfl ?_
  refine k_iconst C (x := 1) rfl rfl rfl ?_
  refine k_iadd C rfl rfl ?_
  refine hL.1 _ _ _ _ _ _ _ rfl (vsk hi hLn (c := 1) (by decide)) ?_
  refine k_aload_n C rfl rfl rfl ?_
  refine k_iload C rfl rfl rfl ?_
  refine k_iconst C (x := 2) rfl rfl rfl ?_
  refine k_iadd C rfl rfl ?_
  refine hL.1 _ _ _ _ _ _ _ rfl (vsk hi hLn (c := 2) (by decide)) ?_
  refine k_aload_n C rfl rfl rfl ?_
  refine k_iload C rfl rfl rfl ?_
  refine k_iconst C (x := 3) rfl rfl rfl ?_
  refine k_iadd C rfl rfl ?_
  refine hL.1 _ _ _ _ _ _ _ rfl (vsk hi hLn (c := 3) (by decide)) ?_
  refine k_aload_n C rfl rfl rfl ?_
  refine k_iload C rfl rfl rfl ?_
  refine k_iconst C (x := 4) rfl rfl rfl ?_
  refine k_iadd C rfl rfl ?_
  refine hL.1 _ _ _ _ _ _ _ rfl (vsk hi hLn (c := 4) (by decide)) ?_
  refine k_aload_n C rfl rfl rfl ?_
  refine k_iload C rfl rfl rfl ?_
  refine k_iconst C (x := 5) rfl rfl rfl ?_
  refine k_iadd C rfl rfl ?_
  refine hL.1 _ _ _ _ _ _ _ rfl (vsk hi hLn (c := 5) (by decide)) ?_
  refine k_aload_n C rfl rfl rfl ?_
  have hB := True.intro
  have T_x := H_x.1
  have T_m := H_m.1
  have hA : ∀ a, (a = o) → A a ∧ (T a = 11 ∨ T a = 21) := by rintro a rfl; exact ⟨A_o, Or.inr T_o⟩
  by_cases hok : okReal (xs (Int32.ofNat i + 1).toNatClampNeg) (xs (Int32.ofNat i + 2).toNatClampNeg) (xs (Int32.ofNat i + 3).toNatClampNeg) (xs (Int32.ofNat i + 4).toNatClampNeg) (xs (Int32.ofNat i + 5).toNatClampNeg)
  · skip
    refine c_SI C (e_L_real_yes (A := fun a => a = o) T_x T_o N_o rfl hok) rfl rfl rfl rfl rfl rfl rfl (by omega) (by omega) (Nat.le_of_ble_eq_true rfl) ?_
    rintro x4 I1 L2 ⟨rfl, f1, v1⟩
    have h3 := LI.cfr hLI H_m nAB hA f1
    refine k_istore C (lw := [(5, .int _), (4, .int _), (3, _), (2, _), (1, _), (0, _)]) rfl rfl (Nat.le_of_ble_eq_true rfl) rfl ?_
    refine k_aload_n C rfl rfl rfl ?_
    refine k_aload_n C rfl rfl rfl ?_
    refine k_iload C rfl rfl rfl ?_
    refine k_iconst C (x := 1) rfl rfl rfl ?_
    refine k_iadd C rfl rfl ?_
    refine hL.1 _ _ _ _ _ _ _ rfl (vsk hi hLn (c := 1) (by decide)) ?_
    refine k_aload_n C rfl rfl rfl ?_
    refine k_iload C rfl rfl rfl ?_
    refine k_iconst C (x := 2) rfl rfl rfl ?_
    refine k_iadd C rfl rfl ?_
    refine hL.1 _ _ _ _ _ _ _ rfl (vsk hi hLn (c := 2) (by decide)) ?_
    refine k_aload_n C rfl rfl rfl ?_
    refine k_iload C rfl rfl rfl ?_
    refine k_iconst C (x := 3) rfl rfl rfl ?_
    refine k_iadd C rfl rfl ?_
    refine hL.1 _ _ _ _ _ _ _ rfl (vsk hi hLn (c := 3) (by decide)) ?_
    refine k_aload_n C rfl rfl rfl ?_
    refine k_iload C rfl rfl rfl ?_
    refine k_iconst C (x := 4) rfl rfl rfl ?_
    refine k_iadd C rfl rfl ?_
    refine hL.1 _ _ _ _ _ _ _ rfl (vsk hi hLn (c := 4) (by decide)) ?_
    refine k_aload_n C rfl rfl rfl ?_
    refine k_iload C rfl rfl rfl ?_
    refine k_iconst C (x := 5) rfl rfl rfl ?_
    refine k_iadd C rfl rfl ?_
    refine hL.1 _ _ _ _ _ _ _ rfl (vsk hi hLn (c := 5) (by decide)) ?_
    refine c_VI C (e_m_real_yes (A := fun a => a = m ∨ R m 21 = some a ∨ R m 34 = some a) T_m (Or.inl rfl) hok) rfl rfl rfl rfl rfl ⟨_, rfl, rfl, H_m.1, Nat.le_of_ble_eq_true rfl⟩ rfl rfl (by omega) (by omega) (Nat.le_of_ble_eq_true rfl) ?_
    rintro x8 I5 L6 ⟨rfl, f2, z2, k2⟩
    have h7 := LI.rfr h3 H_m nAB hB f2 k2
    refine k_istore C (lw := [(6, .int _), (5, .int _), (4, .int _), (3, _), (2, _), (1, _), (0, _)]) rfl rfl (Nat.le_of_ble_eq_true rfl) rfl ?_
    refine k_goto C (pc2 := 1899) rfl rfl ?_
    exact K _ _ _ _ _ h7 (by omega) (by omega) (List.forall_mem_cons.mpr ⟨List.mem_of_getElem? (i := 2) rfl, List.forall_mem_cons.mpr ⟨List.mem_of_getElem? (i := 3) rfl, List.forall_mem_cons.mpr ⟨List.mem_of_getElem? (i := 4) rfl, List.forall_mem_cons.mpr ⟨List.mem_of_getElem? (i := 5) rfl, List.forall_mem_cons.mpr ⟨List.mem_of_getElem? (i := 6) rfl, fun _ h => nomatch h⟩⟩⟩⟩⟩)
  · skip
    refine c_SI C (e_L_real_no T_x hok) rfl rfl rfl rfl rfl rfl rfl (by omega) (by omega) (Nat.le_of_ble_eq_true rfl) ?_
    rintro x12 I9 L10 ⟨rfl, hI8, hL9⟩
    have hI8 := hI8.symm; subst hI8; have hL9 := hL9.symm; subst hL9
    refine k_istore C (lw := [(5, .int _), (4, .int _), (3, _), (2, _), (1, _), (0, _)]) rfl rfl (Nat.le_of_ble_eq_true rfl) rfl ?_
    refine k_aload_n C rfl rfl rfl ?_
    refine k_aload_n C rfl rfl rfl ?_
    refine k_iload C rfl rfl rfl ?_
    refine k_iconst C (x := 1) rfl rfl rfl ?_
    refine k_iadd C rfl rfl ?_
    refine hL.1 _ _ _ _ _ _ _ rfl (vsk hi hLn (c := 1) (by decide)) ?_
    refine k_aload_n C rfl rfl rfl ?_
    refine k_iload C rfl rfl rfl ?_
    refine k_iconst C (x := 2) rfl rfl rfl ?_
    refine k_iadd C rfl rfl ?_
    refine hL.1 _ _ _ _ _ _ _ rfl (vsk hi hLn (c := 2) (by decide)) ?_
    refine k_aload_n C rfl rfl rfl ?_
    refine k_iload C rfl rfl rfl ?_
    refine k_iconst C (x := 3) rfl rfl rfl ?_
    refine k_iadd C rfl rfl ?_
    refine hL.1 _ _ _ _ _ _ _ rfl (vsk hi hLn (c := 3) (by decide)) ?_
    refine k_aload_n C rfl rfl rfl ?_
    refine k_iload C rfl rfl rfl ?_
    refine k_iconst C (x := 4) rfl rfl rfl ?_
    refine k_iadd C rfl rfl ?_
    refine hL.1 _ _ _ _ _ _ _ rfl (vsk hi hLn (c := 4) (by decide)) ?_
    refine k_aload_n C rfl rfl rfl ?_
    refine k_iload C rfl rfl rfl ?_
    refine k_iconst C (x := 5) rfl rfl rfl ?_
    refine k_iadd C rfl rfl ?_
    refine hL.1 _ _ _ _ _ _ _ rfl (vsk hi hLn (c := 5) (by decide)) ?_
    refine c_VI C (e_m_real_no (A := fun a => a = m ∨ R m 21 = some a ∨ R m 34 = some a) T_m (Or.inl rfl) hok) rfl rfl rfl rfl rfl ⟨_, rfl, rfl, H_m.1, Nat.le_of_ble_eq_true rfl⟩ rfl rfl (by omega) (by omega) (Nat.le_of_ble_eq_true rfl) ?_
    rintro x16 I13 L14 ⟨f2, z2, k2⟩
    have h15 := LI.rfr hLI H_m nAB hB f2 k2
    refine k_istore C (lw := [(6, .int _), (5, .int _), (4, .int _), (3, _), (2, _), (1, _), (0, _)]) rfl rfl (Nat.le_of_ble_eq_true rfl) rfl ?_
    refine k_goto C (pc2 := 1899) rfl rfl ?_
    exact K _ _ _ _ _ h15 (by omega) (by omega) (List.forall_mem_cons.mpr ⟨List.mem_of_getElem? (i := 2) rfl, List.forall_mem_cons.mpr ⟨List.mem_of_getElem? (i := 3) rfl, List.forall_mem_cons.mpr ⟨List.mem_of_getElem? (i := 4) rfl, List.forall_mem_cons.mpr ⟨List.mem_of_getElem? (i := 5) rfl, List.forall_mem_cons.mpr ⟨List.mem_of_getElem? (i := 6) rfl, fun _ h => nomatch h⟩⟩⟩⟩⟩)

set_option maxRecDepth 100000 in
theorem lc_39 {V : V_T} {b x m o Ln i : Nat} {xs : Nat → Int32} {T N : Nat → Nat} {I : IT} {L : LT} {R : RT} {A B : Nat → Prop} {ck sk : Nat} (C : Cl 40 q_law 601024 7293033 law_Po V) (S : SB V) (hL : LSc V b Ln xs) (H_x : h_LF T N R A x) (H_m : h_MD T N R B m) (T_o : T o = 21) (N_o : N o = 1) (A_o : A o) (nAB : ∀ a, A a → ¬ B a) (hi : i + 6 ≤ Ln) (hLn : Ln ≤ 3072) (hLI : LI T R A m I) (hck : ck + 3 ≤ 601024) (hsk : sk + 18 ≤ 7293033) (K : ∀ (lv : List (Nat × Value)) (I9 : IT) (L9 : LT) (ck9 sk9 : Nat), LI T R A m I9 → ck9 ≤ ck + 3 → sk9 ≤ sk + 18 → (∀ z ∈ ([(4, .int (Int32.ofNat i)), (3, .ref o), (2, .ref m), (1, .ref x), (0, .ref b)] : List (Nat × Value)), z ∈ lv) → V 1899 lv [] (T, N, I9, L9, R) ck9 sk9) : V 1850 [(4, .int (Int32.ofNat i)), (3, .ref o), (2, .ref m), (1, .ref x), (0, .ref b)] [] (T, N, I, L, R) ck sk := by
  refine k_aload_n C rfl rfl rfl ?_
  refine c_VV C (a_X11_image hLI.1 H_x) rfl rfl rfl rfl rfl ⟨_, rfl, rfl, H_x.1, Nat.le_of_ble_eq_true rfl⟩ rfl rfl (by omega) (by omega) (Nat.le_of_ble_eq_true rfl) ?_
  rintro  I1 L2 ⟨h1, h2⟩
  have h3 := LI.cls hLI H_m nAB h1 h2.1
  clear h1 h2
  refine k_aload_n C rfl rfl rfl ?_
  refine c_VV C (a_X12_image h3.2.1 H_m h3.2.2.1) rfl rfl rfl rfl rfl ⟨_, rfl, rfl, H_m.1, Nat.le_of_ble_eq_true rfl⟩ rfl rfl (by omega) (by omega) (Nat.le_of_ble_eq_true rfl) ?_
  rintro  I4 L5 ⟨w9, h1, h2⟩
  have h6 := LI.img h3 H_m nAB h1 h2 (by decide) w9
  clear h1 h2
  refine k_goto C (pc2 := 1899) rfl rfl ?_
  exact K _ _ _ _ _ h6 (by omega) (by omega) (List.forall_mem_cons.mpr ⟨List.mem_of_getElem? (i := 0) rfl, List.forall_mem_cons.mpr ⟨List.mem_of_getElem? (i := 1) rfl, List.forall_mem_cons.mpr ⟨List.mem_of_getElem? (i := 2) rfl, List.forall_mem_cons.mpr ⟨List.mem_of_getElem? (i := 3) rfl, List.forall_mem_cons.mpr ⟨List.mem_of_getElem? (i := 4) rfl, fun _ h => nomatch h⟩⟩⟩⟩⟩)

set_option maxRecDepth 100000 in
theorem lc_40 {V : V_T} {b x m o Ln i : Nat} {xs : Nat → Int32} {T N : Nat → Nat} {I : IT} {L : LT} {R : RT} {A B : Nat → Prop} {ck sk : Nat} (C : Cl 40 q_law 601024 7293033 law_Po V) (S : SB V) (hL : LSc V b Ln xs) (H_x : h_LF T N R A x) (H_m : h_MD T N R B m) (T_o : T o = 21) (N_o : N o = 1) (A_o : A o) (nAB : ∀ a, A a → ¬ B a) (hi : i + 6 ≤ Ln) (hLn : Ln ≤ 3072) (hLI : LI T R A m I) (hck : ck + 3 ≤ 601024) (hsk : sk + 18 ≤ 7293033) (K : ∀ (lv : List (Nat × Value)) (I9 : IT) (L9 : LT) (ck9 sk9 : Nat), LI T R A m I9 → ck9 ≤ ck + 3 → sk9 ≤ sk + 18 → (∀ z ∈ ([(4, .int (Int32.ofNat i)), (3, .ref o), (2, .ref m), (1, .ref x), (0, .ref b)] : List (Nat × Value)), z ∈ lv) → V 1899 lv [] (T, N, I9, L9, R) ck9 sk9) : V 1861 [(4, .int (Int32.ofNat i)), (3, .ref o), (2, .ref m), (1, .ref x), (0, .ref b)] [] (T, N, I, L, R) ck sk := by
  refine k_aload_n C rfl rfl rfl ?_
  refine c_VI C (a_X11_back hLI.1 H_x) rfl rfl rfl rfl rfl ⟨_, rfl, rfl, H_x.1, Nat.le_of_ble_eq_true rfl⟩ rfl rfl (by omega) (by omega) (Nat.le_of_ble_eq_true rfl) ?_
  rintro x4 I1 L2 ⟨-, -, h1, h2⟩
  have h3 := LI.cls hLI H_m nAB h1 h2.1
  clear h1 h2
  refine k_pop C rfl rfl rfl ?_
  refine k_aload_n C rfl rfl rfl ?_
  refine c_VI C (a_X12_back h3.2.1 H_m h3.2.2.1 h3.2.2.2) rfl rfl rfl rfl rfl ⟨_, rfl, rfl, H_m.1, Nat.le_of_ble_eq_true rfl⟩ rfl rfl (by omega) (by omega) (Nat.le_of_ble_eq_true rfl) ?_
  rintro x8 I5 L6 ⟨-, -, s9, h1, h2⟩
  have h7 := LI.ref h3 H_m nAB h1 h2 (by decide) (by decide) s9
  clear h1 h2
  refine k_pop C rfl rfl rfl ?_
  refine k_goto C (pc2 := 1899) rfl rfl ?_
  exact K _ _ _ _ _ h7 (by omega) (by omega) (List.forall_mem_cons.mpr ⟨List.mem_of_getElem? (i := 0) rfl, List.forall_mem_cons.mpr ⟨List.mem_of_getElem? (i := 1) rfl, List.forall_mem_cons.mpr ⟨List.mem_of_getElem? (i := 2) rfl, List.forall_mem_cons.mpr ⟨List.mem_of_getElem? (i := 3) rfl, List.forall_mem_cons.mpr ⟨List.mem_of_getElem? (i := 4) rfl, fun _ h => nomatch h⟩⟩⟩⟩⟩)

set_option maxRecDepth 100000 in
theorem lc_41 {V : V_T} {b x m o Ln i : Nat} {xs : Nat → Int32} {T N : Nat → Nat} {I : IT} {L : LT} {R : RT} {A B : Nat → Prop} {ck sk : Nat} (C : Cl 40 q_law 601024 7293033 law_Po V) (S : SB V) (hL : LSc V b Ln xs) (H_x : h_LF T N R A x) (H_m : h_MD T N R B m) (T_o : T o = 21) (N_o : N o = 1) (A_o : A o) (nAB : ∀ a, A a → ¬ B a) (hi : i + 6 ≤ Ln) (hLn : Ln ≤ 3072) (hLI : LI T R A m I) (hck : ck + 3 ≤ 601024) (hsk : sk + 18 ≤ 7293033) (K : ∀ (lv : List (Nat × Value)) (I9 : IT) (L9 : LT) (ck9 sk9 : Nat), LI T R A m I9 → ck9 ≤ ck + 3 → sk9 ≤ sk + 18 → (∀ z ∈ ([(4, .int (Int32.ofNat i)), (3, .ref o), (2, .ref m), (1, .ref x), (0, .ref b)] : List (Nat × Value)), z ∈ lv) → V 1899 lv [] (T, N, I9, L9, R) ck9 sk9) : V 1874 [(4, .int (Int32.ofNat i)), (3, .ref o), (2, .ref m), (1, .ref x), (0, .ref b)] [] (T, N, I, L, R) ck sk := by
  refine k_aload_n C rfl rfl rfl ?_
  refine k_aload_n C rfl rfl rfl ?_
  refine k_iload C rfl rfl rfl ?_
  refine k_iconst C (x := 1) rfl rfl rfl ?_
  refine k_iadd C rfl rfl ?_
  refine hL.1 _ _ _ _ _ _ _ rfl (vsk hi hLn (c := 1) (by decide)) ?_
  refine c_VI C (a_X11_stock hLI.1 H_x) rfl rfl rfl rfl rfl ⟨_, rfl, rfl, H_x.1, Nat.le_of_ble_eq_true rfl⟩ rfl rfl (by omega) (by omega) (Nat.le_of_ble_eq_true rfl) ?_
  rintro x4 _ _ ⟨rfl, rfl⟩
  refine k_pop C rfl rfl rfl ?_
  refine k_aload_n C rfl rfl rfl ?_
  refine k_aload_n C rfl rfl rfl ?_
  refine k_iload C rfl rfl rfl ?_
  refine k_iconst C (x := 1) rfl rfl rfl ?_
  refine k_iadd C rfl rfl ?_
  refine hL.1 _ _ _ _ _ _ _ rfl (vsk hi hLn (c := 1) (by decide)) ?_
  refine c_VI C (a_X12_stock hLI.2.1 H_m) rfl rfl rfl rfl rfl ⟨_, rfl, rfl, H_m.1, Nat.le_of_ble_eq_true rfl⟩ rfl rfl (by omega) (by omega) (Nat.le_of_ble_eq_true rfl) ?_
  rintro x8 I5 L6 ⟨h1, h2⟩
  have h7 := LI.ref0 hLI H_m nAB h1 h2 (by decide) (by decide) (by decide)
  clear h1 h2
  refine k_pop C rfl rfl rfl ?_
  refine k_goto C (pc2 := 1899) rfl rfl ?_
  exact K _ _ _ _ _ h7 (by omega) (by omega) (List.forall_mem_cons.mpr ⟨List.mem_of_getElem? (i := 0) rfl, List.forall_mem_cons.mpr ⟨List.mem_of_getElem? (i := 1) rfl, List.forall_mem_cons.mpr ⟨List.mem_of_getElem? (i := 2) rfl, List.forall_mem_cons.mpr ⟨List.mem_of_getElem? (i := 3) rfl, List.forall_mem_cons.mpr ⟨List.mem_of_getElem? (i := 4) rfl, fun _ h => nomatch h⟩⟩⟩⟩⟩)

