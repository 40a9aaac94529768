/-! the law: its own methods, in any state -/
theorem w_L_field {d : Nat} {T N : Nat → Nat} {I : IT} {L : LT} {R : RT} {A : Nat → Prop} {x : Nat} {n1 : Int32} (hI : IX A T I) (H_x : h_LF T N R A x) : Ex (d + 2) 316 [.ref x, .int n1] (T, N, I, L, R) 1 6 (pI T N R (fun _ I9 L9 => IX A T I9 ∧ Fr A I L I9 L9)) := by
  refine ⟨_, rfl, Nat.le_of_ble_eq_true rfl, fun V C S => ?_⟩
  show V 0 [(0, .ref x), (1, .int n1)] [] (T, N, I, L, R) 0 0
  have T_x := H_x.1
  refine k_aload_n C rfl rfl rfl ?_
  refine k_iload_n C rfl rfl rfl ?_
  refine w_VV C (a_X11_field hI H_x) rfl rfl rfl rfl rfl ⟨_, rfl, rfl, T_x, Nat.le_of_ble_eq_true rfl⟩ rfl rfl (Nat.le_of_ble_eq_true rfl) (Nat.le_of_ble_eq_true rfl) (Nat.le_of_ble_eq_true rfl) (by decide) (fun e he I2 L2 hq => ?_) ?_
  · simp only [List.mem_cons, List.not_mem_nil, or_false] at he
    have fq : Fr A I L I2 L2 := hq.2.1
    rcases he with rfl | rfl
    · skip
      refine Or.inr ⟨8, rfl, fun z => ?_⟩
      refine k_astore_n C (lw := [(2, _), (0, _), (1, .int _)]) rfl rfl (Nat.le_of_ble_eq_true rfl) rfl ?_
      refine k_iconst C (x := 1) rfl rfl rfl ?_
      exact k_iret C rfl (Or.inl rfl) (Nat.le_of_ble_eq_true rfl) (Nat.le_of_ble_eq_true rfl) ⟨_, _, _, rfl, rfl, hq.1, fq⟩
    · skip
      refine Or.inr ⟨11, rfl, fun z => ?_⟩
      refine k_astore_n C (lw := [(2, _), (0, _), (1, .int _)]) rfl rfl (Nat.le_of_ble_eq_true rfl) rfl ?_
      refine k_iconst C (x := 2) rfl rfl rfl ?_
      exact k_iret C rfl (Or.inl rfl) (Nat.le_of_ble_eq_true rfl) (Nat.le_of_ble_eq_true rfl) ⟨_, _, _, rfl, rfl, hq.1, fq⟩
  rintro I2 L2 ⟨hI2, cI2⟩
  have fI2 : Fr A I L I2 L2 := cI2.1
  refine k_goto C (pc2 := 14) rfl rfl ?_
  refine k_iconst C (x := 0) rfl rfl rfl ?_
  exact k_iret C rfl (Or.inl rfl) (Nat.le_of_ble_eq_true rfl) (Nat.le_of_ble_eq_true rfl) ⟨_, _, _, rfl, rfl, hI2, fI2⟩

theorem w_L_form {d : Nat} {T N : Nat → Nat} {I : IT} {L : LT} {R : RT} {A : Nat → Prop} {x o : Nat} (hI : IX A T I) (H_x : h_LF T N R A x) (T_o : T o = 21) (N_o : N o = 1) (A_o : A o) : Ex (d + 5) 317 [.ref x, .ref o] (T, N, I, L, R) 1 6 (pI T N R (fun _ I9 L9 => IX A T I9 ∧ Fr A I L I9 L9)) := by
  refine ⟨_, rfl, Nat.le_of_ble_eq_true rfl, fun V C S => ?_⟩
  show V 0 [(0, .ref x), (1, .ref o)] [] (T, N, I, L, R) 0 0
  have T_x := H_x.1
  refine k_aload_n C rfl rfl rfl ?_
  refine k_iconst C (x := 0) rfl rfl rfl ?_
  refine k_aload_n C rfl rfl rfl ?_
  refine w_VI C (a_X11_form hI H_x) rfl rfl rfl rfl rfl ⟨_, rfl, rfl, T_x, Nat.le_of_ble_eq_true rfl⟩ rfl rfl (Nat.le_of_ble_eq_true rfl) (Nat.le_of_ble_eq_true rfl) (Nat.le_of_ble_eq_true rfl) (by decide) (fun e he I3 L3 hq => ?_) ?_
  · simp only [List.mem_cons, List.not_mem_nil, or_false] at he
    have fq : Fr A I L I3 L3 := hq.2.1
    rcases he with rfl | rfl
    · skip
      refine Or.inr ⟨11, rfl, fun z => ?_⟩
      refine k_astore_n C (lw := [(2, _), (0, _), (1, _)]) rfl rfl (Nat.le_of_ble_eq_true rfl) rfl ?_
      refine k_iconst C (x := 1) rfl rfl rfl ?_
      exact k_iret C rfl (Or.inl rfl) (Nat.le_of_ble_eq_true rfl) (Nat.le_of_ble_eq_true rfl) ⟨_, _, _, rfl, rfl, hq.1, fq⟩
    · skip
      refine Or.inr ⟨14, rfl, fun z => ?_⟩
      refine k_astore_n C (lw := [(2, _), (0, _), (1, _)]) rfl rfl (Nat.le_of_ble_eq_true rfl) rfl ?_
      refine k_iconst C (x := 2) rfl rfl rfl ?_
      exact k_iret C rfl (Or.inl rfl) (Nat.le_of_ble_eq_true rfl) (Nat.le_of_ble_eq_true rfl) ⟨_, _, _, rfl, rfl, hq.1, fq⟩
  rintro x3 I3 L3 ⟨hI3, cI3⟩
  have fI3 : Fr A I L I3 L3 := cI3.1
  refine z_i2l C rfl rfl (fun lg6 _ => ?_)
  refine z_sL C rfl rfl T_o N_o (by decide) (by decide) (fun L7_1 uL7_1 => ?_)
  have fL7_1 : Fr A I L I3 L7_1 := by (rw [uL7_1]; exact Fr.l fI3 A_o)
  refine k_goto C (pc2 := 17) rfl rfl ?_
  refine k_iconst C (x := 0) rfl rfl rfl ?_
  exact k_iret C rfl (Or.inl rfl) (Nat.le_of_ble_eq_true rfl) (Nat.le_of_ble_eq_true rfl) ⟨_, _, _, rfl, rfl, hI3, fL7_1⟩

theorem w_L_table {d : Nat} {T N : Nat → Nat} {I : IT} {L : LT} {R : RT} {A : Nat → Prop} {x o : Nat} {n1 n2 n3 n4 : Int32} (hI : IX A T I) (H_x : h_LF T N R A x) (T_o : T o = 21) (N_o : N o = 1) (A_o : A o) : Ex (d + 4) 318 [.ref x, .int n1, .int n2, .int n3, .int n4, .ref o] (T, N, I, L, R) 1 6 (pI T N R (fun _ I9 L9 => IX A T I9 ∧ Fr A I L I9 L9)) := by
  refine ⟨_, rfl, Nat.le_of_ble_eq_true rfl, fun V C S => ?_⟩
  show V 0 [(0, .ref x), (1, .int n1), (2, .int n2), (3, .int n3), (4, .int n4), (5, .ref o)] [] (T, N, I, L, R) 0 0
  have T_x := H_x.1
  refine k_aload C rfl rfl rfl ?_
  refine k_iconst C (x := 0) rfl rfl rfl ?_
  refine k_aload_n C rfl rfl rfl ?_
  refine k_iload_n C rfl rfl rfl ?_
  refine k_iload_n C rfl rfl rfl ?_
  refine k_iload_n C rfl rfl rfl ?_
  refine k_iload C rfl rfl rfl ?_
  refine w_VI C (a_X11_table hI H_x) rfl rfl rfl rfl rfl ⟨_, rfl, rfl, T_x, Nat.le_of_ble_eq_true rfl⟩ rfl rfl (Nat.le_of_ble_eq_true rfl) (Nat.le_of_ble_eq_true rfl) (Nat.le_of_ble_eq_true rfl) (by decide) (fun e he I9 L9 hq => ?_) ?_
  · simp only [List.mem_cons, List.not_mem_nil, or_false] at he
    have fq : Fr A I L I9 L9 := hq.2.1
    rcases he with rfl | rfl
    · skip
      refine Or.inr ⟨17, rfl, fun z => ?_⟩
      refine k_astore C (lw := [(6, _), (0, _), (1, .int _), (2, .int _), (3, .int _), (4, .int _), (5, _)]) rfl rfl (Nat.le_of_ble_eq_true rfl) rfl ?_
      refine k_iconst C (x := 1) rfl rfl rfl ?_
      exact k_iret C rfl (Or.inl rfl) (Nat.le_of_ble_eq_true rfl) (Nat.le_of_ble_eq_true rfl) ⟨_, _, _, rfl, rfl, hq.1, fq⟩
    · skip
      refine Or.inr ⟨21, rfl, fun z => ?_⟩
      refine k_astore C (lw := [(6, _), (0, _), (1, .int _), (2, .int _), (3, .int _), (4, .int _), (5, _)]) rfl rfl (Nat.le_of_ble_eq_true rfl) rfl ?_
      refine k_iconst C (x := 2) rfl rfl rfl ?_
      exact k_iret C rfl (Or.inl rfl) (Nat.le_of_ble_eq_true rfl) (Nat.le_of_ble_eq_true rfl) ⟨_, _, _, rfl, rfl, hq.1, fq⟩
  rintro x9 I9 L9 ⟨hI9, cI9⟩
  have fI9 : Fr A I L I9 L9 := cI9.1
  refine z_i2l C rfl rfl (fun lg12 _ => ?_)
  refine z_sL C rfl rfl T_o N_o (by decide) (by decide) (fun L13_1 uL13_1 => ?_)
  have fL13_1 : Fr A I L I9 L13_1 := by (rw [uL13_1]; exact Fr.l fI9 A_o)
  refine k_goto C (pc2 := 25) rfl rfl ?_
  refine k_iconst C (x := 0) rfl rfl rfl ?_
  exact k_iret C rfl (Or.inl rfl) (Nat.le_of_ble_eq_true rfl) (Nat.le_of_ble_eq_true rfl) ⟨_, _, _, rfl, rfl, hI9, fL13_1⟩

theorem w_L_signs {d : Nat} {T N : Nat → Nat} {I : IT} {L : LT} {R : RT} {A : Nat → Prop} {x o : Nat} (hI : IX A T I) (H_x : h_LF T N R A x) (T_o : T o = 21) (N_o : N o = 1) (A_o : A o) : Ex (d + 32) 319 [.ref x, .ref o] (T, N, I, L, R) 1 6 (pI T N R (fun _ I9 L9 => IX A T I9 ∧ Fr A I L I9 L9)) := by
  refine ⟨_, rfl, Nat.le_of_ble_eq_true rfl, fun V C S => ?_⟩
  show V 0 [(0, .ref x), (1, .ref o)] [] (T, N, I, L, R) 0 0
  have T_x := H_x.1
  refine k_aload_n C rfl rfl rfl ?_
  refine k_iconst C (x := 0) rfl rfl rfl ?_
  refine k_aload_n C rfl rfl rfl ?_
  refine w_VI C (a_X11_signs hI H_x) rfl rfl rfl rfl rfl ⟨_, rfl, rfl, T_x, Nat.le_of_ble_eq_true rfl⟩ rfl rfl (Nat.le_of_ble_eq_true rfl) (Nat.le_of_ble_eq_true rfl) (Nat.le_of_ble_eq_true rfl) (by decide) (fun e he I3 L3 hq => ?_) ?_
  · simp only [List.mem_cons, List.not_mem_nil, or_false] at he
    have fq : Fr A I L I3 L3 := hq.2.1
    rcases he with rfl | rfl
    · skip
      refine Or.inr ⟨11, rfl, fun z => ?_⟩
      refine k_astore_n C (lw := [(2, _), (0, _), (1, _)]) rfl rfl (Nat.le_of_ble_eq_true rfl) rfl ?_
      refine k_iconst C (x := 1) rfl rfl rfl ?_
      exact k_iret C rfl (Or.inl rfl) (Nat.le_of_ble_eq_true rfl) (Nat.le_of_ble_eq_true rfl) ⟨_, _, _, rfl, rfl, hq.1, fq⟩
    · skip
      refine Or.inr ⟨14, rfl, fun z => ?_⟩
      refine k_astore_n C (lw := [(2, _), (0, _), (1, _)]) rfl rfl (Nat.le_of_ble_eq_true rfl) rfl ?_
      refine k_iconst C (x := 2) rfl rfl rfl ?_
      exact k_iret C rfl (Or.inl rfl) (Nat.le_of_ble_eq_true rfl) (Nat.le_of_ble_eq_true rfl) ⟨_, _, _, rfl, rfl, hq.1, fq⟩
  rintro x3 I3 L3 ⟨hI3, cI3⟩
  have fI3 : Fr A I L I3 L3 := cI3.1
  refine z_i2l C rfl rfl (fun lg6 _ => ?_)
  refine z_sL C rfl rfl T_o N_o (by decide) (by decide) (fun L7_1 uL7_1 => ?_)
  have fL7_1 : Fr A I L I3 L7_1 := by (rw [uL7_1]; exact Fr.l fI3 A_o)
  refine k_goto C (pc2 := 17) rfl rfl ?_
  refine k_iconst C (x := 0) rfl rfl rfl ?_
  exact k_iret C rfl (Or.inl rfl) (Nat.le_of_ble_eq_true rfl) (Nat.le_of_ble_eq_true rfl) ⟨_, _, _, rfl, rfl, hI3, fL7_1⟩

theorem w_L_look {d : Nat} {T N : Nat → Nat} {I : IT} {L : LT} {R : RT} {A : Nat → Prop} {x o : Nat} {n1 n2 : Int32} (hI : IX A T I) (H_x : h_LF T N R A x) (T_o : T o = 21) (N_o : N o = 1) (A_o : A o) : Ex (d + 5) 320 [.ref x, .int n1, .int n2, .ref o] (T, N, I, L, R) 1 6 (pI T N R (fun _ I9 L9 => IX A T I9 ∧ Fr A I L I9 L9)) := by
  refine ⟨_, rfl, Nat.le_of_ble_eq_true rfl, fun V C S => ?_⟩
  show V 0 [(0, .ref x), (1, .int n1), (2, .int n2), (3, .ref o)] [] (T, N, I, L, R) 0 0
  have T_x := H_x.1
  refine k_aload_n C rfl rfl rfl ?_
  refine k_iconst C (x := 0) rfl rfl rfl ?_
  refine k_aload_n C rfl rfl rfl ?_
  refine k_iload_n C rfl rfl rfl ?_
  refine k_iload_n C rfl rfl rfl ?_
  refine w_VI C (a_X11_look hI H_x) rfl rfl rfl rfl rfl ⟨_, rfl, rfl, T_x, Nat.le_of_ble_eq_true rfl⟩ rfl rfl (Nat.le_of_ble_eq_true rfl) (Nat.le_of_ble_eq_true rfl) (Nat.le_of_ble_eq_true rfl) (by decide) (fun e he I5 L5 hq => ?_) ?_
  · simp only [List.mem_cons, List.not_mem_nil, or_false] at he
    obtain ⟨rfl, rfl⟩ := hq
    subst he
    skip
    refine Or.inr ⟨13, rfl, fun z => ?_⟩
    refine k_astore C (lw := [(4, _), (0, _), (1, .int _), (2, .int _), (3, _)]) rfl rfl (Nat.le_of_ble_eq_true rfl) rfl ?_
    refine k_iconst C (x := 1) rfl rfl rfl ?_
    exact k_iret C rfl (Or.inl rfl) (Nat.le_of_ble_eq_true rfl) (Nat.le_of_ble_eq_true rfl) ⟨_, _, _, rfl, rfl, hI, Fr.rf⟩
  rintro x5 _ _ ⟨rfl, rfl⟩
  refine z_i2l C rfl rfl (fun lg8 _ => ?_)
  refine z_sL C rfl rfl T_o N_o (by decide) (by decide) (fun L9_1 uL9_1 => ?_)
  have fL9_1 : Fr A I L I L9_1 := by (rw [uL9_1]; exact Fr.l Fr.rf A_o)
  refine k_goto C (pc2 := 17) rfl rfl ?_
  refine k_iconst C (x := 0) rfl rfl rfl ?_
  exact k_iret C rfl (Or.inl rfl) (Nat.le_of_ble_eq_true rfl) (Nat.le_of_ble_eq_true rfl) ⟨_, _, _, rfl, rfl, hI, fL9_1⟩

theorem w_L_at {d : Nat} {T N : Nat → Nat} {I : IT} {L : LT} {R : RT} {A : Nat → Prop} {x o : Nat} {n1 n2 n3 : Int32} (hI : IX A T I) (H_x : h_LF T N R A x) (T_o : T o = 21) (N_o : N o = 1) (A_o : A o) : Ex (d + 5) 321 [.ref x, .int n1, .int n2, .int n3, .ref o] (T, N, I, L, R) 1 6 (pI T N R (fun _ I9 L9 => IX A T I9 ∧ Fr A I L I9 L9)) := by
  refine ⟨_, rfl, Nat.le_of_ble_eq_true rfl, fun V C S => ?_⟩
  show V 0 [(0, .ref x), (1, .int n1), (2, .int n2), (3, .int n3), (4, .ref o)] [] (T, N, I, L, R) 0 0
  have T_x := H_x.1
  refine k_aload C rfl rfl rfl ?_
  refine k_iconst C (x := 0) rfl rfl rfl ?_
  refine k_aload_n C rfl rfl rfl ?_
  refine k_iload_n C rfl rfl rfl ?_
  refine k_iload_n C rfl rfl rfl ?_
  refine k_iload_n C rfl rfl rfl ?_
  refine w_VI C (a_X11_at hI H_x) rfl rfl rfl rfl rfl ⟨_, rfl, rfl, T_x, Nat.le_of_ble_eq_true rfl⟩ rfl rfl (Nat.le_of_ble_eq_true rfl) (Nat.le_of_ble_eq_true rfl) (Nat.le_of_ble_eq_true rfl) (by decide) (fun e he I7 L7 hq => ?_) ?_
  · simp only [List.mem_cons, List.not_mem_nil, or_false] at he
    obtain ⟨rfl, rfl⟩ := hq
    subst he
    skip
    refine Or.inr ⟨15, rfl, fun z => ?_⟩
    refine k_astore C (lw := [(5, _), (0, _), (1, .int _), (2, .int _), (3, .int _), (4, _)]) rfl rfl (Nat.le_of_ble_eq_true rfl) rfl ?_
    refine k_iconst C (x := 1) rfl rfl rfl ?_
    exact k_iret C rfl (Or.inl rfl) (Nat.le_of_ble_eq_true rfl) (Nat.le_of_ble_eq_true rfl) ⟨_, _, _, rfl, rfl, hI, Fr.rf⟩
  rintro x7 _ _ ⟨rfl, rfl⟩
  refine z_i2l C rfl rfl (fun lg10 _ => ?_)
  refine z_sL C rfl rfl T_o N_o (by decide) (by decide) (fun L11_1 uL11_1 => ?_)
  have fL11_1 : Fr A I L I L11_1 := by (rw [uL11_1]; exact Fr.l Fr.rf A_o)
  refine k_goto C (pc2 := 19) rfl rfl ?_
  refine k_iconst C (x := 0) rfl rfl rfl ?_
  exact k_iret C rfl (Or.inl rfl) (Nat.le_of_ble_eq_true rfl) (Nat.le_of_ble_eq_true rfl) ⟨_, _, _, rfl, rfl, hI, fL11_1⟩

theorem w_L_det {d : Nat} {T N : Nat → Nat} {I : IT} {L : LT} {R : RT} {A : Nat → Prop} {x o : Nat} {n1 : Int32} (hI : IX A T I) (H_x : h_LF T N R A x) (T_o : T o = 21) (N_o : N o = 1) (A_o : A o) : Ex (d + 4) 322 [.ref x, .int n1, .ref o] (T, N, I, L, R) 1 6 (pI T N R (fun _ I9 L9 => IX A T I9 ∧ Fr A I L I9 L9)) := by
  refine ⟨_, rfl, Nat.le_of_ble_eq_true rfl, fun V C S => ?_⟩
  show V 0 [(0, .ref x), (1, .int n1), (2, .ref o)] [] (T, N, I, L, R) 0 0
  have T_x := H_x.1
  refine k_aload_n C rfl rfl rfl ?_
  refine k_iconst C (x := 0) rfl rfl rfl ?_
  refine k_aload_n C rfl rfl rfl ?_
  refine k_iload_n C rfl rfl rfl ?_
  refine w_VI C (a_X11_det hI H_x) rfl rfl rfl rfl rfl ⟨_, rfl, rfl, T_x, Nat.le_of_ble_eq_true rfl⟩ rfl rfl (Nat.le_of_ble_eq_true rfl) (Nat.le_of_ble_eq_true rfl) (Nat.le_of_ble_eq_true rfl) (by decide) (fun e he I4 L4 hq => ?_) ?_
  · simp only [List.mem_cons, List.not_mem_nil, or_false] at he
    obtain ⟨rfl, rfl⟩ := hq
    subst he
    skip
    refine Or.inr ⟨12, rfl, fun z => ?_⟩
    refine k_astore_n C (lw := [(3, _), (0, _), (1, .int _), (2, _)]) rfl rfl (Nat.le_of_ble_eq_true rfl) rfl ?_
    refine k_iconst C (x := 1) rfl rfl rfl ?_
    exact k_iret C rfl (Or.inl rfl) (Nat.le_of_ble_eq_true rfl) (Nat.le_of_ble_eq_true rfl) ⟨_, _, _, rfl, rfl, hI, Fr.rf⟩
  rintro x4 _ _ ⟨rfl, rfl⟩
  refine z_i2l C rfl rfl (fun lg7 _ => ?_)
  refine z_sL C rfl rfl T_o N_o (by decide) (by decide) (fun L8_1 uL8_1 => ?_)
  have fL8_1 : Fr A I L I L8_1 := by (rw [uL8_1]; exact Fr.l Fr.rf A_o)
  refine k_goto C (pc2 := 15) rfl rfl ?_
  refine k_iconst C (x := 0) rfl rfl rfl ?_
  exact k_iret C rfl (Or.inl rfl) (Nat.le_of_ble_eq_true rfl) (Nat.le_of_ble_eq_true rfl) ⟨_, _, _, rfl, rfl, hI, fL8_1⟩

theorem w_L_mix {d : Nat} {T N : Nat → Nat} {I : IT} {L : LT} {R : RT} {A : Nat → Prop} {x o : Nat} {n1 n2 : Int32} (hI : IX A T I) (H_x : h_LF T N R A x) (T_o : T o = 21) (N_o : N o = 1) (A_o : A o) : Ex (d + 6) 323 [.ref x, .int n1, .int n2, .ref o] (T, N, I, L, R) 2 12 (pI T N R (fun _ I9 L9 => IX A T I9 ∧ Fr A I L I9 L9)) := by
  refine ⟨_, rfl, Nat.le_of_ble_eq_true rfl, fun V C S => ?_⟩
  show V 0 [(0, .ref x), (1, .int n1), (2, .int n2), (3, .ref o)] [] (T, N, I, L, R) 0 0
  have T_x := H_x.1
  refine k_aload_n C rfl rfl rfl ?_
  refine k_iconst C (x := 0) rfl rfl rfl ?_
  refine k_aload_n C rfl rfl rfl ?_
  refine k_iload_n C rfl rfl rfl ?_
  refine k_iload_n C rfl rfl rfl ?_
  refine w_VI C (a_X11_mix hI H_x) rfl rfl rfl rfl rfl ⟨_, rfl, rfl, T_x, Nat.le_of_ble_eq_true rfl⟩ rfl rfl (Nat.le_of_ble_eq_true rfl) (Nat.le_of_ble_eq_true rfl) (Nat.le_of_ble_eq_true rfl) (by decide) (fun e he I5 L5 hq => ?_) ?_
  · simp only [List.mem_cons, List.not_mem_nil, or_false] at he
    have fq : Fr A I L I5 L5 := hq.2.1
    subst he
    skip
    refine Or.inr ⟨20, rfl, fun z => ?_⟩
    refine k_astore C (lw := [(4, _), (0, _), (1, .int _), (2, .int _), (3, _)]) rfl rfl (Nat.le_of_ble_eq_true rfl) rfl ?_
    refine k_iconst C (x := 1) rfl rfl rfl ?_
    exact k_iret C rfl (Or.inl rfl) (Nat.le_of_ble_eq_true rfl) (Nat.le_of_ble_eq_true rfl) ⟨_, _, _, rfl, rfl, hq.1, fq⟩
  rintro x5 I5 L5 ⟨-, -, hI5, cI5⟩
  have fI5 : Fr A I L I5 L5 := cI5.1
  refine k_if_eq C (t := 15) rfl rfl rfl (fun _ => ?_) (fun _ => ?_)
  · skip
    refine k_lconst C (x := 0) rfl rfl rfl ?_
    refine z_sL C rfl rfl T_o N_o (by decide) (by decide) (fun L16_2 uL16_2 => ?_)
    have fL16_2 : Fr A I L I5 L16_2 := by (rw [uL16_2]; exact Fr.l fI5 A_o)
    refine k_goto C (pc2 := 24) rfl rfl ?_
    refine k_iconst C (x := 0) rfl rfl rfl ?_
    exact k_iret C rfl (Or.inl rfl) (Nat.le_of_ble_eq_true rfl) (Nat.le_of_ble_eq_true rfl) ⟨_, _, _, rfl, rfl, hI5, fL16_2⟩
  refine k_lconst C (x := 1) rfl rfl rfl ?_
  refine k_goto C (pc2 := 16) rfl rfl ?_
  refine z_sL C rfl rfl T_o N_o (by decide) (by decide) (fun L16_1 uL16_1 => ?_)
  have fL16_1 : Fr A I L I5 L16_1 := by (rw [uL16_1]; exact Fr.l fI5 A_o)
  refine k_goto C (pc2 := 24) rfl rfl ?_
  refine k_iconst C (x := 0) rfl rfl rfl ?_
  exact k_iret C rfl (Or.inl rfl) (Nat.le_of_ble_eq_true rfl) (Nat.le_of_ble_eq_true rfl) ⟨_, _, _, rfl, rfl, hI5, fL16_1⟩

theorem w_L_value {d : Nat} {T N : Nat → Nat} {I : IT} {L : LT} {R : RT} {A : Nat → Prop} {x o : Nat} {n1 n2 n3 : Int32} (hI : IX A T I) (H_x : h_LF T N R A x) (T_o : T o = 21) (N_o : N o = 1) (A_o : A o) : Ex (d + 8) 324 [.ref x, .int n1, .int n2, .int n3, .ref o] (T, N, I, L, R) 2 12 (pI T N R (fun _ I9 L9 => IX A T I9 ∧ Fr A I L I9 L9)) := by
  refine ⟨_, rfl, Nat.le_of_ble_eq_true rfl, fun V C S => ?_⟩
  show V 0 [(0, .ref x), (1, .int n1), (2, .int n2), (3, .int n3), (4, .ref o)] [] (T, N, I, L, R) 0 0
  have T_x := H_x.1
  refine k_aload C rfl rfl rfl ?_
  refine k_iconst C (x := 0) rfl rfl rfl ?_
  refine k_aload_n C rfl rfl rfl ?_
  refine k_iload_n C rfl rfl rfl ?_
  refine k_iload_n C rfl rfl rfl ?_
  refine k_iload_n C rfl rfl rfl ?_
  refine w_VI C (a_X11_value hI H_x) rfl rfl rfl rfl rfl ⟨_, rfl, rfl, T_x, Nat.le_of_ble_eq_true rfl⟩ rfl rfl (Nat.le_of_ble_eq_true rfl) (Nat.le_of_ble_eq_true rfl) (Nat.le_of_ble_eq_true rfl) (by decide) (fun e he I7 L7 hq => ?_) ?_
  · simp only [List.mem_cons, List.not_mem_nil, or_false] at he
    have fq : Fr A I L I7 L7 := hq.2.1
    subst he
    skip
    refine Or.inr ⟨15, rfl, fun z => ?_⟩
    refine k_astore C (lw := [(5, _), (0, _), (1, .int _), (2, .int _), (3, .int _), (4, _)]) rfl rfl (Nat.le_of_ble_eq_true rfl) rfl ?_
    refine k_iconst C (x := 1) rfl rfl rfl ?_
    exact k_iret C rfl (Or.inl rfl) (Nat.le_of_ble_eq_true rfl) (Nat.le_of_ble_eq_true rfl) ⟨_, _, _, rfl, rfl, hq.1, fq⟩
  rintro x7 I7 L7 ⟨hI7, cI7⟩
  have fI7 : Fr A I L I7 L7 := cI7.1
  refine z_i2l C rfl rfl (fun lg10 _ => ?_)
  refine z_sL C rfl rfl T_o N_o (by decide) (by decide) (fun L11_1 uL11_1 => ?_)
  have fL11_1 : Fr A I L I7 L11_1 := by (rw [uL11_1]; exact Fr.l fI7 A_o)
  refine k_goto C (pc2 := 19) rfl rfl ?_
  refine k_iconst C (x := 0) rfl rfl rfl ?_
  exact k_iret C rfl (Or.inl rfl) (Nat.le_of_ble_eq_true rfl) (Nat.le_of_ble_eq_true rfl) ⟨_, _, _, rfl, rfl, hI7, fL11_1⟩

theorem w_L_rank {d : Nat} {T N : Nat → Nat} {I : IT} {L : LT} {R : RT} {A : Nat → Prop} {x o : Nat} {n1 n2 : Int32} (hI : IX A T I) (H_x : h_LF T N R A x) (T_o : T o = 21) (N_o : N o = 1) (A_o : A o) (b0_n2 : 0 ≤ n2.toInt) (b1_n2 : n2.toInt ≤ 1) : Ex (d + 4) 325 [.ref x, .int n1, .int n2, .ref o] (T, N, I, L, R) 1 6 (pI T N R (fun _ I9 L9 => IX A T I9 ∧ Fr A I L I9 L9)) := by
  refine ⟨_, rfl, Nat.le_of_ble_eq_true rfl, fun V C S => ?_⟩
  show V 0 [(0, .ref x), (1, .int n1), (2, .int n2), (3, .ref o)] [] (T, N, I, L, R) 0 0
  have T_x := H_x.1
  refine k_aload_n C rfl rfl rfl ?_
  refine k_iconst C (x := 0) rfl rfl rfl ?_
  refine k_aload_n C rfl rfl rfl ?_
  refine k_iload_n C rfl rfl rfl ?_
  refine k_iload_n C rfl rfl rfl ?_
  refine w_VI C (a_X11_rank hI H_x (by omega) (by omega)) rfl rfl rfl rfl rfl ⟨_, rfl, rfl, T_x, Nat.le_of_ble_eq_true rfl⟩ rfl rfl (Nat.le_of_ble_eq_true rfl) (Nat.le_of_ble_eq_true rfl) (Nat.le_of_ble_eq_true rfl) (by decide) (fun e he I5 L5 hq => ?_) ?_
  · simp only [List.mem_cons, List.not_mem_nil, or_false] at he
    have fq : Fr A I L I5 L5 := hq.2.1
    subst he
    skip
    refine Or.inr ⟨13, rfl, fun z => ?_⟩
    refine k_astore C (lw := [(4, _), (0, _), (1, .int _), (2, .int _), (3, _)]) rfl rfl (Nat.le_of_ble_eq_true rfl) rfl ?_
    refine k_iconst C (x := 1) rfl rfl rfl ?_
    exact k_iret C rfl (Or.inl rfl) (Nat.le_of_ble_eq_true rfl) (Nat.le_of_ble_eq_true rfl) ⟨_, _, _, rfl, rfl, hq.1, fq⟩
  rintro x5 I5 L5 ⟨hI5, cI5⟩
  have fI5 : Fr A I L I5 L5 := cI5.1
  refine z_i2l C rfl rfl (fun lg8 _ => ?_)
  refine z_sL C rfl rfl T_o N_o (by decide) (by decide) (fun L9_1 uL9_1 => ?_)
  have fL9_1 : Fr A I L I5 L9_1 := by (rw [uL9_1]; exact Fr.l fI5 A_o)
  refine k_goto C (pc2 := 17) rfl rfl ?_
  refine k_iconst C (x := 0) rfl rfl rfl ?_
  exact k_iret C rfl (Or.inl rfl) (Nat.le_of_ble_eq_true rfl) (Nat.le_of_ble_eq_true rfl) ⟨_, _, _, rfl, rfl, hI5, fL9_1⟩

theorem w_L_stays {d : Nat} {T N : Nat → Nat} {I : IT} {L : LT} {R : RT} {A : Nat → Prop} {x o : Nat} {n1 n2 n3 : Int32} (hI : IX A T I) (H_x : h_LF T N R A x) (T_o : T o = 21) (N_o : N o = 1) (A_o : A o) : Ex (d + 8) 326 [.ref x, .int n1, .int n2, .int n3, .ref o] (T, N, I, L, R) 3 18 (pI T N R (fun _ I9 L9 => IX A T I9 ∧ Fr A I L I9 L9)) := by
  refine ⟨_, rfl, Nat.le_of_ble_eq_true rfl, fun V C S => ?_⟩
  show V 0 [(0, .ref x), (1, .int n1), (2, .int n2), (3, .int n3), (4, .ref o)] [] (T, N, I, L, R) 0 0
  have T_x := H_x.1
  refine k_aload C rfl rfl rfl ?_
  refine k_iconst C (x := 0) rfl rfl rfl ?_
  refine k_aload_n C rfl rfl rfl ?_
  refine k_iload_n C rfl rfl rfl ?_
  refine k_iload_n C rfl rfl rfl ?_
  refine k_iload_n C rfl rfl rfl ?_
  refine w_VI C (a_X11_stays hI H_x) rfl rfl rfl rfl rfl ⟨_, rfl, rfl, T_x, Nat.le_of_ble_eq_true rfl⟩ rfl rfl (Nat.le_of_ble_eq_true rfl) (Nat.le_of_ble_eq_true rfl) (Nat.le_of_ble_eq_true rfl) (by decide) (fun e he I7 L7 hq => ?_) ?_
  · simp only [List.mem_cons, List.not_mem_nil, or_false] at he
    have fq : Fr A I L I7 L7 := hq.2.1
    subst he
    skip
    refine Or.inr ⟨22, rfl, fun z => ?_⟩
    refine k_astore C (lw := [(5, _), (0, _), (1, .int _), (2, .int _), (3, .int _), (4, _)]) rfl rfl (Nat.le_of_ble_eq_true rfl) rfl ?_
    refine k_iconst C (x := 1) rfl rfl rfl ?_
    exact k_iret C rfl (Or.inl rfl) (Nat.le_of_ble_eq_true rfl) (Nat.le_of_ble_eq_true rfl) ⟨_, _, _, rfl, rfl, hq.1, fq⟩
  rintro x7 I7 L7 ⟨-, -, hI7, cI7⟩
  have fI7 : Fr A I L I7 L7 := cI7.1
  refine k_if_eq C (t := 17) rfl rfl rfl (fun _ => ?_) (fun _ => ?_)
  · skip
    refine k_lconst C (x := 0) rfl rfl rfl ?_
    refine z_sL C rfl rfl T_o N_o (by decide) (by decide) (fun L18_2 uL18_2 => ?_)
    have fL18_2 : Fr A I L I7 L18_2 := by (rw [uL18_2]; exact Fr.l fI7 A_o)
    refine k_goto C (pc2 := 26) rfl rfl ?_
    refine k_iconst C (x := 0) rfl rfl rfl ?_
    exact k_iret C rfl (Or.inl rfl) (Nat.le_of_ble_eq_true rfl) (Nat.le_of_ble_eq_true rfl) ⟨_, _, _, rfl, rfl, hI7, fL18_2⟩
  refine k_lconst C (x := 1) rfl rfl rfl ?_
  refine k_goto C (pc2 := 18) rfl rfl ?_
  refine z_sL C rfl rfl T_o N_o (by decide) (by decide) (fun L18_1 uL18_1 => ?_)
  have fL18_1 : Fr A I L I7 L18_1 := by (rw [uL18_1]; exact Fr.l fI7 A_o)
  refine k_goto C (pc2 := 26) rfl rfl ?_
  refine k_iconst C (x := 0) rfl rfl rfl ?_
  exact k_iret C rfl (Or.inl rfl) (Nat.le_of_ble_eq_true rfl) (Nat.le_of_ble_eq_true rfl) ⟨_, _, _, rfl, rfl, hI7, fL18_1⟩

theorem w_L_agree {d : Nat} {T N : Nat → Nat} {I : IT} {L : LT} {R : RT} {A : Nat → Prop} {x o : Nat} {n1 n2 n3 : Int32} (hI : IX A T I) (H_x : h_LF T N R A x) (T_o : T o = 21) (N_o : N o = 1) (A_o : A o) : Ex (d + 9) 327 [.ref x, .int n1, .int n2, .int n3, .ref o] (T, N, I, L, R) 3 18 (pI T N R (fun _ I9 L9 => IX A T I9 ∧ Fr A I L I9 L9)) := by
  refine ⟨_, rfl, Nat.le_of_ble_eq_true rfl, fun V C S => ?_⟩
  show V 0 [(0, .ref x), (1, .int n1), (2, .int n2), (3, .int n3), (4, .ref o)] [] (T, N, I, L, R) 0 0
  have T_x := H_x.1
  refine k_aload C rfl rfl rfl ?_
  refine k_iconst C (x := 0) rfl rfl rfl ?_
  refine k_aload_n C rfl rfl rfl ?_
  refine k_iload_n C rfl rfl rfl ?_
  refine k_iload_n C rfl rfl rfl ?_
  refine k_iload_n C rfl rfl rfl ?_
  refine w_VI C (a_X11_agree hI H_x) rfl rfl rfl rfl rfl ⟨_, rfl, rfl, T_x, Nat.le_of_ble_eq_true rfl⟩ rfl rfl (Nat.le_of_ble_eq_true rfl) (Nat.le_of_ble_eq_true rfl) (Nat.le_of_ble_eq_true rfl) (by decide) (fun e he I7 L7 hq => ?_) ?_
  · simp only [List.mem_cons, List.not_mem_nil, or_false] at he
    have fq : Fr A I L I7 L7 := hq.2.1
    rcases he with rfl | rfl
    · skip
      refine Or.inr ⟨19, rfl, fun z => ?_⟩
      refine k_astore C (lw := [(5, _), (0, _), (1, .int _), (2, .int _), (3, .int _), (4, _)]) rfl rfl (Nat.le_of_ble_eq_true rfl) rfl ?_
      refine k_iconst C (x := 2) rfl rfl rfl ?_
      exact k_iret C rfl (Or.inl rfl) (Nat.le_of_ble_eq_true rfl) (Nat.le_of_ble_eq_true rfl) ⟨_, _, _, rfl, rfl, hq.1, fq⟩
    · skip
      refine Or.inr ⟨15, rfl, fun z => ?_⟩
      refine k_astore C (lw := [(5, _), (0, _), (1, .int _), (2, .int _), (3, .int _), (4, _)]) rfl rfl (Nat.le_of_ble_eq_true rfl) rfl ?_
      refine k_iconst C (x := 1) rfl rfl rfl ?_
      exact k_iret C rfl (Or.inl rfl) (Nat.le_of_ble_eq_true rfl) (Nat.le_of_ble_eq_true rfl) ⟨_, _, _, rfl, rfl, hq.1, fq⟩
  rintro x7 I7 L7 ⟨-, -, hI7, cI7⟩
  have fI7 : Fr A I L I7 L7 := cI7.1
  refine z_i2l C rfl rfl (fun lg10 _ => ?_)
  refine z_sL C rfl rfl T_o N_o (by decide) (by decide) (fun L11_1 uL11_1 => ?_)
  have fL11_1 : Fr A I L I7 L11_1 := by (rw [uL11_1]; exact Fr.l fI7 A_o)
  refine k_goto C (pc2 := 23) rfl rfl ?_
  refine k_iconst C (x := 0) rfl rfl rfl ?_
  exact k_iret C rfl (Or.inl rfl) (Nat.le_of_ble_eq_true rfl) (Nat.le_of_ble_eq_true rfl) ⟨_, _, _, rfl, rfl, hI7, fL11_1⟩

theorem w_L_span {d : Nat} {T N : Nat → Nat} {I : IT} {L : LT} {R : RT} {A : Nat → Prop} {x o : Nat} {n1 n2 n3 : Int32} (hI : IX A T I) (H_x : h_LF T N R A x) (T_o : T o = 21) (N_o : N o = 1) (A_o : A o) : Ex (d + 9) 329 [.ref x, .int n1, .int n2, .int n3, .ref o] (T, N, I, L, R) 1 6 (pI T N R (fun _ I9 L9 => IX A T I9 ∧ Fr A I L I9 L9)) := by
  refine ⟨_, rfl, Nat.le_of_ble_eq_true rfl, fun V C S => ?_⟩
  show V 0 [(0, .ref x), (1, .int n1), (2, .int n2), (3, .int n3), (4, .ref o)] [] (T, N, I, L, R) 0 0
  have T_x := H_x.1
  refine k_aload C rfl rfl rfl ?_
  refine k_iconst C (x := 0) rfl rfl rfl ?_
  refine k_aload_n C rfl rfl rfl ?_
  refine k_iload_n C rfl rfl rfl ?_
  refine k_iload_n C rfl rfl rfl ?_
  refine k_iload_n C rfl rfl rfl ?_
  refine w_VI C (a_X11_span hI H_x) rfl rfl rfl rfl rfl ⟨_, rfl, rfl, T_x, Nat.le_of_ble_eq_true rfl⟩ rfl rfl (Nat.le_of_ble_eq_true rfl) (Nat.le_of_ble_eq_true rfl) (Nat.le_of_ble_eq_true rfl) (by decide) (fun e he I7 L7 hq => ?_) ?_
  · simp only [List.mem_cons, List.not_mem_nil, or_false] at he
    have fq : Fr A I L I7 L7 := hq.2.1
    subst he
    skip
    refine Or.inr ⟨15, rfl, fun z => ?_⟩
    refine k_astore C (lw := [(5, _), (0, _), (1, .int _), (2, .int _), (3, .int _), (4, _)]) rfl rfl (Nat.le_of_ble_eq_true rfl) rfl ?_
    refine k_iconst C (x := 1) rfl rfl rfl ?_
    exact k_iret C rfl (Or.inl rfl) (Nat.le_of_ble_eq_true rfl) (Nat.le_of_ble_eq_true rfl) ⟨_, _, _, rfl, rfl, hq.1, fq⟩
  rintro x7 I7 L7 ⟨hI7, cI7⟩
  have fI7 : Fr A I L I7 L7 := cI7.1
  refine z_i2l C rfl rfl (fun lg10 _ => ?_)
  refine z_sL C rfl rfl T_o N_o (by decide) (by decide) (fun L11_1 uL11_1 => ?_)
  have fL11_1 : Fr A I L I7 L11_1 := by (rw [uL11_1]; exact Fr.l fI7 A_o)
  refine k_goto C (pc2 := 19) rfl rfl ?_
  refine k_iconst C (x := 0) rfl rfl rfl ?_
  exact k_iret C rfl (Or.inl rfl) (Nat.le_of_ble_eq_true rfl) (Nat.le_of_ble_eq_true rfl) ⟨_, _, _, rfl, rfl, hI7, fL11_1⟩

theorem w_L_basis {d : Nat} {T N : Nat → Nat} {I : IT} {L : LT} {R : RT} {A : Nat → Prop} {x o : Nat} {n1 n2 n3 : Int32} (hI : IX A T I) (H_x : h_LF T N R A x) (T_o : T o = 21) (N_o : N o = 1) (A_o : A o) : Ex (d + 9) 330 [.ref x, .int n1, .int n2, .int n3, .ref o] (T, N, I, L, R) 1 6 (pI T N R (fun _ I9 L9 => IX A T I9 ∧ Fr A I L I9 L9)) := by
  refine ⟨_, rfl, Nat.le_of_ble_eq_true rfl, fun V C S => ?_⟩
  show V 0 [(0, .ref x), (1, .int n1), (2, .int n2), (3, .int n3), (4, .ref o)] [] (T, N, I, L, R) 0 0
  have T_x := H_x.1
  refine k_aload C rfl rfl rfl ?_
  refine k_iconst C (x := 0) rfl rfl rfl ?_
  refine k_aload_n C rfl rfl rfl ?_
  refine k_iload_n C rfl rfl rfl ?_
  refine k_iload_n C rfl rfl rfl ?_
  refine k_iload_n C rfl rfl rfl ?_
  refine w_VI C (a_X11_basis hI H_x) rfl rfl rfl rfl rfl ⟨_, rfl, rfl, T_x, Nat.le_of_ble_eq_true rfl⟩ rfl rfl (Nat.le_of_ble_eq_true rfl) (Nat.le_of_ble_eq_true rfl) (Nat.le_of_ble_eq_true rfl) (by decide) (fun e he I7 L7 hq => ?_) ?_
  · simp only [List.mem_cons, List.not_mem_nil, or_false] at he
    have fq : Fr A I L I7 L7 := hq.2.1
    subst he
    skip
    refine Or.inr ⟨15, rfl, fun z => ?_⟩
    refine k_astore C (lw := [(5, _), (0, _), (1, .int _), (2, .int _), (3, .int _), (4, _)]) rfl rfl (Nat.le_of_ble_eq_true rfl) rfl ?_
    refine k_iconst C (x := 1) rfl rfl rfl ?_
    exact k_iret C rfl (Or.inl rfl) (Nat.le_of_ble_eq_true rfl) (Nat.le_of_ble_eq_true rfl) ⟨_, _, _, rfl, rfl, hq.1, fq⟩
  rintro x7 I7 L7 ⟨hI7, cI7⟩
  have fI7 : Fr A I L I7 L7 := cI7.1
  refine z_i2l C rfl rfl (fun lg10 _ => ?_)
  refine z_sL C rfl rfl T_o N_o (by decide) (by decide) (fun L11_1 uL11_1 => ?_)
  have fL11_1 : Fr A I L I7 L11_1 := by (rw [uL11_1]; exact Fr.l fI7 A_o)
  refine k_goto C (pc2 := 19) rfl rfl ?_
  refine k_iconst C (x := 0) rfl rfl rfl ?_
  exact k_iret C rfl (Or.inl rfl) (Nat.le_of_ble_eq_true rfl) (Nat.le_of_ble_eq_true rfl) ⟨_, _, _, rfl, rfl, hI7, fL11_1⟩

theorem w_L_kind {d : Nat} {T N : Nat → Nat} {I : IT} {L : LT} {R : RT} {A : Nat → Prop} {x o : Nat} {n1 : Int32} (hI : IX A T I) (H_x : h_LF T N R A x) (T_o : T o = 21) (N_o : N o = 1) (A_o : A o) : Ex (d + 6) 331 [.ref x, .int n1, .ref o] (T, N, I, L, R) 1 6 (pI T N R (fun _ I9 L9 => IX A T I9 ∧ Fr A I L I9 L9)) := by
  refine ⟨_, rfl, Nat.le_of_ble_eq_true rfl, fun V C S => ?_⟩
  show V 0 [(0, .ref x), (1, .int n1), (2, .ref o)] [] (T, N, I, L, R) 0 0
  have T_x := H_x.1
  refine k_aload_n C rfl rfl rfl ?_
  refine k_iconst C (x := 0) rfl rfl rfl ?_
  refine k_aload_n C rfl rfl rfl ?_
  refine k_iload_n C rfl rfl rfl ?_
  refine w_VI C (a_X11_kind hI H_x) rfl rfl rfl rfl rfl ⟨_, rfl, rfl, T_x, Nat.le_of_ble_eq_true rfl⟩ rfl rfl (Nat.le_of_ble_eq_true rfl) (Nat.le_of_ble_eq_true rfl) (Nat.le_of_ble_eq_true rfl) (by decide) (fun e he I4 L4 hq => ?_) ?_
  · simp only [List.mem_cons, List.not_mem_nil, or_false] at he
    have fq : Fr A I L I4 L4 := hq.2.1
    subst he
    skip
    refine Or.inr ⟨12, rfl, fun z => ?_⟩
    refine k_astore_n C (lw := [(3, _), (0, _), (1, .int _), (2, _)]) rfl rfl (Nat.le_of_ble_eq_true rfl) rfl ?_
    refine k_iconst C (x := 1) rfl rfl rfl ?_
    exact k_iret C rfl (Or.inl rfl) (Nat.le_of_ble_eq_true rfl) (Nat.le_of_ble_eq_true rfl) ⟨_, _, _, rfl, rfl, hq.1, fq⟩
  rintro x4 I4 L4 ⟨hI4, cI4⟩
  have fI4 : Fr A I L I4 L4 := cI4.1
  refine z_i2l C rfl rfl (fun lg7 _ => ?_)
  refine z_sL C rfl rfl T_o N_o (by decide) (by decide) (fun L8_1 uL8_1 => ?_)
  have fL8_1 : Fr A I L I4 L8_1 := by (rw [uL8_1]; exact Fr.l fI4 A_o)
  refine k_goto C (pc2 := 15) rfl rfl ?_
  refine k_iconst C (x := 0) rfl rfl rfl ?_
  exact k_iret C rfl (Or.inl rfl) (Nat.le_of_ble_eq_true rfl) (Nat.le_of_ble_eq_true rfl) ⟨_, _, _, rfl, rfl, hI4, fL8_1⟩

theorem w_L_orbit {d : Nat} {T N : Nat → Nat} {I : IT} {L : LT} {R : RT} {A : Nat → Prop} {x o : Nat} {n1 : Int32} (hI : IX A T I) (H_x : h_LF T N R A x) (T_o : T o = 21) (N_o : N o = 1) (A_o : A o) : Ex (d + 6) 332 [.ref x, .int n1, .ref o] (T, N, I, L, R) 1 6 (pI T N R (fun _ I9 L9 => IX A T I9 ∧ Fr A I L I9 L9)) := by
  refine ⟨_, rfl, Nat.le_of_ble_eq_true rfl, fun V C S => ?_⟩
  show V 0 [(0, .ref x), (1, .int n1), (2, .ref o)] [] (T, N, I, L, R) 0 0
  have T_x := H_x.1
  refine k_aload_n C rfl rfl rfl ?_
  refine k_iconst C (x := 0) rfl rfl rfl ?_
  refine k_aload_n C rfl rfl rfl ?_
  refine k_iload_n C rfl rfl rfl ?_
  refine w_VI C (a_X11_orbit hI H_x) rfl rfl rfl rfl rfl ⟨_, rfl, rfl, T_x, Nat.le_of_ble_eq_true rfl⟩ rfl rfl (Nat.le_of_ble_eq_true rfl) (Nat.le_of_ble_eq_true rfl) (Nat.le_of_ble_eq_true rfl) (by decide) (fun e he I4 L4 hq => ?_) ?_
  · simp only [List.mem_cons, List.not_mem_nil, or_false] at he
    have fq : Fr A I L I4 L4 := hq.2.1
    subst he
    skip
    refine Or.inr ⟨12, rfl, fun z => ?_⟩
    refine k_astore_n C (lw := [(3, _), (0, _), (1, .int _), (2, _)]) rfl rfl (Nat.le_of_ble_eq_true rfl) rfl ?_
    refine k_iconst C (x := 1) rfl rfl rfl ?_
    exact k_iret C rfl (Or.inl rfl) (Nat.le_of_ble_eq_true rfl) (Nat.le_of_ble_eq_true rfl) ⟨_, _, _, rfl, rfl, hq.1, fq⟩
  rintro x4 I4 L4 ⟨hI4, cI4⟩
  have fI4 : Fr A I L I4 L4 := cI4.1
  refine z_i2l C rfl rfl (fun lg7 _ => ?_)
  refine z_sL C rfl rfl T_o N_o (by decide) (by decide) (fun L8_1 uL8_1 => ?_)
  have fL8_1 : Fr A I L I4 L8_1 := by (rw [uL8_1]; exact Fr.l fI4 A_o)
  refine k_goto C (pc2 := 15) rfl rfl ?_
  refine k_iconst C (x := 0) rfl rfl rfl ?_
  exact k_iret C rfl (Or.inl rfl) (Nat.le_of_ble_eq_true rfl) (Nat.le_of_ble_eq_true rfl) ⟨_, _, _, rfl, rfl, hI4, fL8_1⟩

theorem w_L_join {d : Nat} {T N : Nat → Nat} {I : IT} {L : LT} {R : RT} {A : Nat → Prop} {x o : Nat} {n1 n2 : Int32} (hI : IX A T I) (H_x : h_LF T N R A x) (T_o : T o = 21) (N_o : N o = 1) (A_o : A o) : Ex (d + 4) 333 [.ref x, .int n1, .int n2, .ref o] (T, N, I, L, R) 3 18 (pI T N R (fun _ I9 L9 => IX A T I9 ∧ Fr A I L I9 L9)) := by
  refine ⟨_, rfl, Nat.le_of_ble_eq_true rfl, fun V C S => ?_⟩
  show V 0 [(0, .ref x), (1, .int n1), (2, .int n2), (3, .ref o)] [] (T, N, I, L, R) 0 0
  have T_x := H_x.1
  refine k_aload_n C rfl rfl rfl ?_
  refine k_iconst C (x := 0) rfl rfl rfl ?_
  refine k_aload_n C rfl rfl rfl ?_
  refine k_iload_n C rfl rfl rfl ?_
  refine k_iload_n C rfl rfl rfl ?_
  refine w_VI C (a_X11_join hI H_x) rfl rfl rfl rfl rfl ⟨_, rfl, rfl, T_x, Nat.le_of_ble_eq_true rfl⟩ rfl rfl (Nat.le_of_ble_eq_true rfl) (Nat.le_of_ble_eq_true rfl) (Nat.le_of_ble_eq_true rfl) (by decide) (fun e he I5 L5 hq => ?_) ?_
  · simp only [List.mem_cons, List.not_mem_nil, or_false] at he
    have fq : Fr A I L I5 L5 := hq.2.1
    rcases he with rfl | rfl
    · skip
      refine Or.inr ⟨17, rfl, fun z => ?_⟩
      refine k_astore C (lw := [(4, _), (0, _), (1, .int _), (2, .int _), (3, _)]) rfl rfl (Nat.le_of_ble_eq_true rfl) rfl ?_
      refine k_iconst C (x := 2) rfl rfl rfl ?_
      exact k_iret C rfl (Or.inl rfl) (Nat.le_of_ble_eq_true rfl) (Nat.le_of_ble_eq_true rfl) ⟨_, _, _, rfl, rfl, hq.1, fq⟩
    · skip
      refine Or.inr ⟨13, rfl, fun z => ?_⟩
      refine k_astore C (lw := [(4, _), (0, _), (1, .int _), (2, .int _), (3, _)]) rfl rfl (Nat.le_of_ble_eq_true rfl) rfl ?_
      refine k_iconst C (x := 1) rfl rfl rfl ?_
      exact k_iret C rfl (Or.inl rfl) (Nat.le_of_ble_eq_true rfl) (Nat.le_of_ble_eq_true rfl) ⟨_, _, _, rfl, rfl, hq.1, fq⟩
  rintro x5 I5 L5 ⟨hI5, cI5⟩
  have fI5 : Fr A I L I5 L5 := cI5.1
  refine z_i2l C rfl rfl (fun lg8 _ => ?_)
  refine z_sL C rfl rfl T_o N_o (by decide) (by decide) (fun L9_1 uL9_1 => ?_)
  have fL9_1 : Fr A I L I5 L9_1 := by (rw [uL9_1]; exact Fr.l fI5 A_o)
  refine k_goto C (pc2 := 21) rfl rfl ?_
  refine k_iconst C (x := 0) rfl rfl rfl ?_
  exact k_iret C rfl (Or.inl rfl) (Nat.le_of_ble_eq_true rfl) (Nat.le_of_ble_eq_true rfl) ⟨_, _, _, rfl, rfl, hI5, fL9_1⟩

theorem w_L_turn {d : Nat} {T N : Nat → Nat} {I : IT} {L : LT} {R : RT} {A : Nat → Prop} {x o : Nat} {n1 : Int32} (hI : IX A T I) (H_x : h_LF T N R A x) (T_o : T o = 21) (N_o : N o = 1) (A_o : A o) : Ex (d + 5) 334 [.ref x, .int n1, .ref o] (T, N, I, L, R) 2 12 (pI T N R (fun _ I9 L9 => IX A T I9 ∧ Fr A I L I9 L9)) := by
  refine ⟨_, rfl, Nat.le_of_ble_eq_true rfl, fun V C S => ?_⟩
  show V 0 [(0, .ref x), (1, .int n1), (2, .ref o)] [] (T, N, I, L, R) 0 0
  have T_x := H_x.1
  refine k_aload_n C rfl rfl rfl ?_
  refine k_iconst C (x := 0) rfl rfl rfl ?_
  refine k_aload_n C rfl rfl rfl ?_
  refine k_iload_n C rfl rfl rfl ?_
  refine w_VI C (a_X11_turn hI H_x) rfl rfl rfl rfl rfl ⟨_, rfl, rfl, T_x, Nat.le_of_ble_eq_true rfl⟩ rfl rfl (Nat.le_of_ble_eq_true rfl) (Nat.le_of_ble_eq_true rfl) (Nat.le_of_ble_eq_true rfl) (by decide) (fun e he I4 L4 hq => ?_) ?_
  · simp only [List.mem_cons, List.not_mem_nil, or_false] at he
    have fq : Fr A I L I4 L4 := hq.2.1
    rcases he with rfl | rfl
    · skip
      refine Or.inr ⟨15, rfl, fun z => ?_⟩
      refine k_astore_n C (lw := [(3, _), (0, _), (1, .int _), (2, _)]) rfl rfl (Nat.le_of_ble_eq_true rfl) rfl ?_
      refine k_iconst C (x := 2) rfl rfl rfl ?_
      exact k_iret C rfl (Or.inl rfl) (Nat.le_of_ble_eq_true rfl) (Nat.le_of_ble_eq_true rfl) ⟨_, _, _, rfl, rfl, hq.1, fq⟩
    · skip
      refine Or.inr ⟨12, rfl, fun z => ?_⟩
      refine k_astore_n C (lw := [(3, _), (0, _), (1, .int _), (2, _)]) rfl rfl (Nat.le_of_ble_eq_true rfl) rfl ?_
      refine k_iconst C (x := 1) rfl rfl rfl ?_
      exact k_iret C rfl (Or.inl rfl) (Nat.le_of_ble_eq_true rfl) (Nat.le_of_ble_eq_true rfl) ⟨_, _, _, rfl, rfl, hq.1, fq⟩
  rintro x4 I4 L4 ⟨hI4, cI4⟩
  have fI4 : Fr A I L I4 L4 := cI4.1
  refine z_i2l C rfl rfl (fun lg7 _ => ?_)
  refine z_sL C rfl rfl T_o N_o (by decide) (by decide) (fun L8_1 uL8_1 => ?_)
  have fL8_1 : Fr A I L I4 L8_1 := by (rw [uL8_1]; exact Fr.l fI4 A_o)
  refine k_goto C (pc2 := 18) rfl rfl ?_
  refine k_iconst C (x := 0) rfl rfl rfl ?_
  exact k_iret C rfl (Or.inl rfl) (Nat.le_of_ble_eq_true rfl) (Nat.le_of_ble_eq_true rfl) ⟨_, _, _, rfl, rfl, hI4, fL8_1⟩

theorem w_L_told {d : Nat} {T N : Nat → Nat} {I : IT} {L : LT} {R : RT} {A : Nat → Prop} {x o : Nat} {n1 n2 : Int32} (hI : IX A T I) (H_x : h_LF T N R A x) (T_o : T o = 21) (N_o : N o = 1) (A_o : A o) : Ex (d + 4) 335 [.ref x, .int n1, .int n2, .ref o] (T, N, I, L, R) 1 6 (pI T N R (fun _ I9 L9 => IX A T I9 ∧ Fr A I L I9 L9)) := by
  refine ⟨_, rfl, Nat.le_of_ble_eq_true rfl, fun V C S => ?_⟩
  show V 0 [(0, .ref x), (1, .int n1), (2, .int n2), (3, .ref o)] [] (T, N, I, L, R) 0 0
  have T_x := H_x.1
  refine k_aload_n C rfl rfl rfl ?_
  refine k_iconst C (x := 0) rfl rfl rfl ?_
  refine k_aload_n C rfl rfl rfl ?_
  refine k_iload_n C rfl rfl rfl ?_
  refine k_iload_n C rfl rfl rfl ?_
  refine w_VI C (a_X11_told hI H_x) rfl rfl rfl rfl rfl ⟨_, rfl, rfl, T_x, Nat.le_of_ble_eq_true rfl⟩ rfl rfl (Nat.le_of_ble_eq_true rfl) (Nat.le_of_ble_eq_true rfl) (Nat.le_of_ble_eq_true rfl) (by decide) (fun e he I5 L5 hq => ?_) ?_
  · simp only [List.mem_cons, List.not_mem_nil, or_false] at he
    obtain ⟨rfl, rfl⟩ := hq
    subst he
    skip
    refine Or.inr ⟨13, rfl, fun z => ?_⟩
    refine k_astore C (lw := [(4, _), (0, _), (1, .int _), (2, .int _), (3, _)]) rfl rfl (Nat.le_of_ble_eq_true rfl) rfl ?_
    refine k_iconst C (x := 1) rfl rfl rfl ?_
    exact k_iret C rfl (Or.inl rfl) (Nat.le_of_ble_eq_true rfl) (Nat.le_of_ble_eq_true rfl) ⟨_, _, _, rfl, rfl, hI, Fr.rf⟩
  rintro x5 _ _ ⟨rfl, rfl⟩
  refine z_i2l C rfl rfl (fun lg8 _ => ?_)
  refine z_sL C rfl rfl T_o N_o (by decide) (by decide) (fun L9_1 uL9_1 => ?_)
  have fL9_1 : Fr A I L I L9_1 := by (rw [uL9_1]; exact Fr.l Fr.rf A_o)
  refine k_goto C (pc2 := 17) rfl rfl ?_
  refine k_iconst C (x := 0) rfl rfl rfl ?_
  exact k_iret C rfl (Or.inl rfl) (Nat.le_of_ble_eq_true rfl) (Nat.le_of_ble_eq_true rfl) ⟨_, _, _, rfl, rfl, hI, fL9_1⟩

theorem w_L_quotient {d : Nat} {T N : Nat → Nat} {I : IT} {L : LT} {R : RT} {A : Nat → Prop} {x o : Nat} {n1 n2 n3 : Int32} (hI : IX A T I) (H_x : h_LF T N R A x) (T_o : T o = 21) (N_o : N o = 1) (A_o : A o) : Ex (d + 6) 336 [.ref x, .int n1, .int n2, .int n3, .ref o] (T, N, I, L, R) 2 12 (pI T N R (fun _ I9 L9 => IX A T I9 ∧ Fr A I L I9 L9)) := by
  refine ⟨_, rfl, Nat.le_of_ble_eq_true rfl, fun V C S => ?_⟩
  show V 0 [(0, .ref x), (1, .int n1), (2, .int n2), (3, .int n3), (4, .ref o)] [] (T, N, I, L, R) 0 0
  have T_x := H_x.1
  refine k_aload C rfl rfl rfl ?_
  refine k_iconst C (x := 0) rfl rfl rfl ?_
  refine k_aload_n C rfl rfl rfl ?_
  refine k_iload_n C rfl rfl rfl ?_
  refine k_iload_n C rfl rfl rfl ?_
  refine k_iload_n C rfl rfl rfl ?_
  refine w_VI C (a_X11_quotient hI H_x) rfl rfl rfl rfl rfl ⟨_, rfl, rfl, T_x, Nat.le_of_ble_eq_true rfl⟩ rfl rfl (Nat.le_of_ble_eq_true rfl) (Nat.le_of_ble_eq_true rfl) (Nat.le_of_ble_eq_true rfl) (by decide) (fun e he I7 L7 hq => ?_) ?_
  · simp only [List.mem_cons, List.not_mem_nil, or_false] at he
    have fq : Fr A I L I7 L7 := hq.2.1
    subst he
    skip
    refine Or.inr ⟨15, rfl, fun z => ?_⟩
    refine k_astore C (lw := [(5, _), (0, _), (1, .int _), (2, .int _), (3, .int _), (4, _)]) rfl rfl (Nat.le_of_ble_eq_true rfl) rfl ?_
    refine k_iconst C (x := 1) rfl rfl rfl ?_
    exact k_iret C rfl (Or.inl rfl) (Nat.le_of_ble_eq_true rfl) (Nat.le_of_ble_eq_true rfl) ⟨_, _, _, rfl, rfl, hq.1, fq⟩
  rintro x7 I7 L7 ⟨hI7, cI7⟩
  have fI7 : Fr A I L I7 L7 := cI7.1
  refine z_i2l C rfl rfl (fun lg10 _ => ?_)
  refine z_sL C rfl rfl T_o N_o (by decide) (by decide) (fun L11_1 uL11_1 => ?_)
  have fL11_1 : Fr A I L I7 L11_1 := by (rw [uL11_1]; exact Fr.l fI7 A_o)
  refine k_goto C (pc2 := 19) rfl rfl ?_
  refine k_iconst C (x := 0) rfl rfl rfl ?_
  exact k_iret C rfl (Or.inl rfl) (Nat.le_of_ble_eq_true rfl) (Nat.le_of_ble_eq_true rfl) ⟨_, _, _, rfl, rfl, hI7, fL11_1⟩

theorem w_L_plain {d : Nat} {T N : Nat → Nat} {I : IT} {L : LT} {R : RT} {A : Nat → Prop} {x o : Nat} {n1 : Int32} (hI : IX A T I) (H_x : h_LF T N R A x) (T_o : T o = 21) (N_o : N o = 1) (A_o : A o) : Ex (d + 7) 337 [.ref x, .int n1, .ref o] (T, N, I, L, R) 1 6 (pI T N R (fun _ I9 L9 => IX A T I9 ∧ Fr A I L I9 L9)) := by
  refine ⟨_, rfl, Nat.le_of_ble_eq_true rfl, fun V C S => ?_⟩
  show V 0 [(0, .ref x), (1, .int n1), (2, .ref o)] [] (T, N, I, L, R) 0 0
  have T_x := H_x.1
  refine k_aload_n C rfl rfl rfl ?_
  refine k_iconst C (x := 0) rfl rfl rfl ?_
  refine k_aload_n C rfl rfl rfl ?_
  refine k_iload_n C rfl rfl rfl ?_
  refine w_VI C (a_X11_plain hI H_x) rfl rfl rfl rfl rfl ⟨_, rfl, rfl, T_x, Nat.le_of_ble_eq_true rfl⟩ rfl rfl (Nat.le_of_ble_eq_true rfl) (Nat.le_of_ble_eq_true rfl) (Nat.le_of_ble_eq_true rfl) (by decide) (fun e he I4 L4 hq => ?_) ?_
  · simp only [List.mem_cons, List.not_mem_nil, or_false] at he
    have fq : Fr A I L I4 L4 := hq.2.1
    subst he
    skip
    refine Or.inr ⟨19, rfl, fun z => ?_⟩
    refine k_astore_n C (lw := [(3, _), (0, _), (1, .int _), (2, _)]) rfl rfl (Nat.le_of_ble_eq_true rfl) rfl ?_
    refine k_iconst C (x := 1) rfl rfl rfl ?_
    exact k_iret C rfl (Or.inl rfl) (Nat.le_of_ble_eq_true rfl) (Nat.le_of_ble_eq_true rfl) ⟨_, _, _, rfl, rfl, hq.1, fq⟩
  rintro x4 I4 L4 ⟨-, -, hI4, cI4⟩
  have fI4 : Fr A I L I4 L4 := cI4.1
  refine k_if_eq C (t := 14) rfl rfl rfl (fun _ => ?_) (fun _ => ?_)
  · skip
    refine k_lconst C (x := 0) rfl rfl rfl ?_
    refine z_sL C rfl rfl T_o N_o (by decide) (by decide) (fun L15_2 uL15_2 => ?_)
    have fL15_2 : Fr A I L I4 L15_2 := by (rw [uL15_2]; exact Fr.l fI4 A_o)
    refine k_goto C (pc2 := 22) rfl rfl ?_
    refine k_iconst C (x := 0) rfl rfl rfl ?_
    exact k_iret C rfl (Or.inl rfl) (Nat.le_of_ble_eq_true rfl) (Nat.le_of_ble_eq_true rfl) ⟨_, _, _, rfl, rfl, hI4, fL15_2⟩
  refine k_lconst C (x := 1) rfl rfl rfl ?_
  refine k_goto C (pc2 := 15) rfl rfl ?_
  refine z_sL C rfl rfl T_o N_o (by decide) (by decide) (fun L15_1 uL15_1 => ?_)
  have fL15_1 : Fr A I L I4 L15_1 := by (rw [uL15_1]; exact Fr.l fI4 A_o)
  refine k_goto C (pc2 := 22) rfl rfl ?_
  refine k_iconst C (x := 0) rfl rfl rfl ?_
  exact k_iret C rfl (Or.inl rfl) (Nat.le_of_ble_eq_true rfl) (Nat.le_of_ble_eq_true rfl) ⟨_, _, _, rfl, rfl, hI4, fL15_1⟩

theorem w_L_root {d : Nat} {T N : Nat → Nat} {I : IT} {L : LT} {R : RT} {A : Nat → Prop} {x o : Nat} {n1 n2 : Int32} (hI : IX A T I) (H_x : h_LF T N R A x) (T_o : T o = 21) (N_o : N o = 1) (A_o : A o) : Ex (d + 5) 338 [.ref x, .int n1, .int n2, .ref o] (T, N, I, L, R) 2 12 (pI T N R (fun _ I9 L9 => IX A T I9 ∧ Fr A I L I9 L9)) := by
  refine ⟨_, rfl, Nat.le_of_ble_eq_true rfl, fun V C S => ?_⟩
  show V 0 [(0, .ref x), (1, .int n1), (2, .int n2), (3, .ref o)] [] (T, N, I, L, R) 0 0
  have T_x := H_x.1
  refine k_aload_n C rfl rfl rfl ?_
  refine k_iconst C (x := 0) rfl rfl rfl ?_
  refine k_aload_n C rfl rfl rfl ?_
  refine k_iload_n C rfl rfl rfl ?_
  refine k_iload_n C rfl rfl rfl ?_
  refine w_VI C (a_X11_root hI H_x) rfl rfl rfl rfl rfl ⟨_, rfl, rfl, T_x, Nat.le_of_ble_eq_true rfl⟩ rfl rfl (Nat.le_of_ble_eq_true rfl) (Nat.le_of_ble_eq_true rfl) (Nat.le_of_ble_eq_true rfl) (by decide) (fun e he I5 L5 hq => ?_) ?_
  · simp only [List.mem_cons, List.not_mem_nil, or_false] at he
    have fq : Fr A I L I5 L5 := hq.2.1
    rcases he with rfl | rfl
    · skip
      refine Or.inr ⟨17, rfl, fun z => ?_⟩
      refine k_astore C (lw := [(4, _), (0, _), (1, .int _), (2, .int _), (3, _)]) rfl rfl (Nat.le_of_ble_eq_true rfl) rfl ?_
      refine k_iconst C (x := 2) rfl rfl rfl ?_
      exact k_iret C rfl (Or.inl rfl) (Nat.le_of_ble_eq_true rfl) (Nat.le_of_ble_eq_true rfl) ⟨_, _, _, rfl, rfl, hq.1, fq⟩
    · skip
      refine Or.inr ⟨13, rfl, fun z => ?_⟩
      refine k_astore C (lw := [(4, _), (0, _), (1, .int _), (2, .int _), (3, _)]) rfl rfl (Nat.le_of_ble_eq_true rfl) rfl ?_
      refine k_iconst C (x := 1) rfl rfl rfl ?_
      exact k_iret C rfl (Or.inl rfl) (Nat.le_of_ble_eq_true rfl) (Nat.le_of_ble_eq_true rfl) ⟨_, _, _, rfl, rfl, hq.1, fq⟩
  rintro x5 I5 L5 ⟨-, -, hI5, cI5⟩
  have fI5 : Fr A I L I5 L5 := cI5.1
  refine z_i2l C rfl rfl (fun lg8 _ => ?_)
  refine z_sL C rfl rfl T_o N_o (by decide) (by decide) (fun L9_1 uL9_1 => ?_)
  have fL9_1 : Fr A I L I5 L9_1 := by (rw [uL9_1]; exact Fr.l fI5 A_o)
  refine k_goto C (pc2 := 21) rfl rfl ?_
  refine k_iconst C (x := 0) rfl rfl rfl ?_
  exact k_iret C rfl (Or.inl rfl) (Nat.le_of_ble_eq_true rfl) (Nat.le_of_ble_eq_true rfl) ⟨_, _, _, rfl, rfl, hI5, fL9_1⟩

theorem w_L_roots {d : Nat} {T N : Nat → Nat} {I : IT} {L : LT} {R : RT} {A : Nat → Prop} {x o : Nat} {n1 : Int32} (hI : IX A T I) (H_x : h_LF T N R A x) (T_o : T o = 21) (N_o : N o = 1) (A_o : A o) : Ex (d + 5) 339 [.ref x, .int n1, .ref o] (T, N, I, L, R) 1 6 (pI T N R (fun _ I9 L9 => IX A T I9 ∧ Fr A I L I9 L9)) := by
  refine ⟨_, rfl, Nat.le_of_ble_eq_true rfl, fun V C S => ?_⟩
  show V 0 [(0, .ref x), (1, .int n1), (2, .ref o)] [] (T, N, I, L, R) 0 0
  have T_x := H_x.1
  refine k_aload_n C rfl rfl rfl ?_
  refine k_iconst C (x := 0) rfl rfl rfl ?_
  refine k_aload_n C rfl rfl rfl ?_
  refine k_iload_n C rfl rfl rfl ?_
  refine w_VI C (a_X11_roots hI H_x) rfl rfl rfl rfl rfl ⟨_, rfl, rfl, T_x, Nat.le_of_ble_eq_true rfl⟩ rfl rfl (Nat.le_of_ble_eq_true rfl) (Nat.le_of_ble_eq_true rfl) (Nat.le_of_ble_eq_true rfl) (by decide) (fun e he I4 L4 hq => ?_) ?_
  · simp only [List.mem_cons, List.not_mem_nil, or_false] at he
    have fq : Fr A I L I4 L4 := hq.2.1
    subst he
    skip
    refine Or.inr ⟨12, rfl, fun z => ?_⟩
    refine k_astore_n C (lw := [(3, _), (0, _), (1, .int _), (2, _)]) rfl rfl (Nat.le_of_ble_eq_true rfl) rfl ?_
    refine k_iconst C (x := 1) rfl rfl rfl ?_
    exact k_iret C rfl (Or.inl rfl) (Nat.le_of_ble_eq_true rfl) (Nat.le_of_ble_eq_true rfl) ⟨_, _, _, rfl, rfl, hq.1, fq⟩
  rintro x4 I4 L4 ⟨hI4, cI4⟩
  have fI4 : Fr A I L I4 L4 := cI4.1
  refine z_i2l C rfl rfl (fun lg7 _ => ?_)
  refine z_sL C rfl rfl T_o N_o (by decide) (by decide) (fun L8_1 uL8_1 => ?_)
  have fL8_1 : Fr A I L I4 L8_1 := by (rw [uL8_1]; exact Fr.l fI4 A_o)
  refine k_goto C (pc2 := 15) rfl rfl ?_
  refine k_iconst C (x := 0) rfl rfl rfl ?_
  exact k_iret C rfl (Or.inl rfl) (Nat.le_of_ble_eq_true rfl) (Nat.le_of_ble_eq_true rfl) ⟨_, _, _, rfl, rfl, hI4, fL8_1⟩

theorem w_L_empty {d : Nat} {T N : Nat → Nat} {I : IT} {L : LT} {R : RT} {A : Nat → Prop} {x o : Nat} {n1 : Int32} (hI : IX A T I) (H_x : h_LF T N R A x) (T_o : T o = 21) (N_o : N o = 1) (A_o : A o) : Ex (d + 5) 340 [.ref x, .int n1, .ref o] (T, N, I, L, R) 1 6 (pI T N R (fun _ I9 L9 => IX A T I9 ∧ Fr A I L I9 L9)) := by
  refine ⟨_, rfl, Nat.le_of_ble_eq_true rfl, fun V C S => ?_⟩
  show V 0 [(0, .ref x), (1, .int n1), (2, .ref o)] [] (T, N, I, L, R) 0 0
  have T_x := H_x.1
  refine k_aload_n C rfl rfl rfl ?_
  refine k_iconst C (x := 0) rfl rfl rfl ?_
  refine k_aload_n C rfl rfl rfl ?_
  refine k_iload_n C rfl rfl rfl ?_
  refine w_VI C (a_X11_empty hI H_x) rfl rfl rfl rfl rfl ⟨_, rfl, rfl, T_x, Nat.le_of_ble_eq_true rfl⟩ rfl rfl (Nat.le_of_ble_eq_true rfl) (Nat.le_of_ble_eq_true rfl) (Nat.le_of_ble_eq_true rfl) (by decide) (fun e he I4 L4 hq => ?_) ?_
  · simp only [List.mem_cons, List.not_mem_nil, or_false] at he
    have fq : Fr A I L I4 L4 := hq.2.1
    subst he
    skip
    refine Or.inr ⟨19, rfl, fun z => ?_⟩
    refine k_astore_n C (lw := [(3, _), (0, _), (1, .int _), (2, _)]) rfl rfl (Nat.le_of_ble_eq_true rfl) rfl ?_
    refine k_iconst C (x := 1) rfl rfl rfl ?_
    exact k_iret C rfl (Or.inl rfl) (Nat.le_of_ble_eq_true rfl) (Nat.le_of_ble_eq_true rfl) ⟨_, _, _, rfl, rfl, hq.1, fq⟩
  rintro x4 I4 L4 ⟨-, -, hI4, cI4⟩
  have fI4 : Fr A I L I4 L4 := cI4.1
  refine k_if_eq C (t := 14) rfl rfl rfl (fun _ => ?_) (fun _ => ?_)
  · skip
    refine k_lconst C (x := 0) rfl rfl rfl ?_
    refine z_sL C rfl rfl T_o N_o (by decide) (by decide) (fun L15_2 uL15_2 => ?_)
    have fL15_2 : Fr A I L I4 L15_2 := by (rw [uL15_2]; exact Fr.l fI4 A_o)
    refine k_goto C (pc2 := 22) rfl rfl ?_
    refine k_iconst C (x := 0) rfl rfl rfl ?_
    exact k_iret C rfl (Or.inl rfl) (Nat.le_of_ble_eq_true rfl) (Nat.le_of_ble_eq_true rfl) ⟨_, _, _, rfl, rfl, hI4, fL15_2⟩
  refine k_lconst C (x := 1) rfl rfl rfl ?_
  refine k_goto C (pc2 := 15) rfl rfl ?_
  refine z_sL C rfl rfl T_o N_o (by decide) (by decide) (fun L15_1 uL15_1 => ?_)
  have fL15_1 : Fr A I L I4 L15_1 := by (rw [uL15_1]; exact Fr.l fI4 A_o)
  refine k_goto C (pc2 := 22) rfl rfl ?_
  refine k_iconst C (x := 0) rfl rfl rfl ?_
  exact k_iret C rfl (Or.inl rfl) (Nat.le_of_ble_eq_true rfl) (Nat.le_of_ble_eq_true rfl) ⟨_, _, _, rfl, rfl, hI4, fL15_1⟩

theorem w_L_same {d : Nat} {T N : Nat → Nat} {I : IT} {L : LT} {R : RT} {A : Nat → Prop} {x o : Nat} {n1 n2 : Int32} (hI : IX A T I) (H_x : h_LF T N R A x) (T_o : T o = 21) (N_o : N o = 1) (A_o : A o) : Ex (d + 6) 341 [.ref x, .int n1, .int n2, .ref o] (T, N, I, L, R) 2 12 (pI T N R (fun _ I9 L9 => IX A T I9 ∧ Fr A I L I9 L9)) := by
  refine ⟨_, rfl, Nat.le_of_ble_eq_true rfl, fun V C S => ?_⟩
  show V 0 [(0, .ref x), (1, .int n1), (2, .int n2), (3, .ref o)] [] (T, N, I, L, R) 0 0
  have T_x := H_x.1
  refine k_aload_n C rfl rfl rfl ?_
  refine k_iconst C (x := 0) rfl rfl rfl ?_
  refine k_aload_n C rfl rfl rfl ?_
  refine k_iload_n C rfl rfl rfl ?_
  refine k_iload_n C rfl rfl rfl ?_
  refine w_VI C (a_X11_same hI H_x) rfl rfl rfl rfl rfl ⟨_, rfl, rfl, T_x, Nat.le_of_ble_eq_true rfl⟩ rfl rfl (Nat.le_of_ble_eq_true rfl) (Nat.le_of_ble_eq_true rfl) (Nat.le_of_ble_eq_true rfl) (by decide) (fun e he I5 L5 hq => ?_) ?_
  · simp only [List.mem_cons, List.not_mem_nil, or_false] at he
    have fq : Fr A I L I5 L5 := hq.2.1
    subst he
    skip
    refine Or.inr ⟨13, rfl, fun z => ?_⟩
    refine k_astore C (lw := [(4, _), (0, _), (1, .int _), (2, .int _), (3, _)]) rfl rfl (Nat.le_of_ble_eq_true rfl) rfl ?_
    refine k_iconst C (x := 1) rfl rfl rfl ?_
    exact k_iret C rfl (Or.inl rfl) (Nat.le_of_ble_eq_true rfl) (Nat.le_of_ble_eq_true rfl) ⟨_, _, _, rfl, rfl, hq.1, fq⟩
  rintro x5 I5 L5 ⟨hI5, cI5⟩
  have fI5 : Fr A I L I5 L5 := cI5.1
  refine z_i2l C rfl rfl (fun lg8 _ => ?_)
  refine z_sL C rfl rfl T_o N_o (by decide) (by decide) (fun L9_1 uL9_1 => ?_)
  have fL9_1 : Fr A I L I5 L9_1 := by (rw [uL9_1]; exact Fr.l fI5 A_o)
  refine k_goto C (pc2 := 17) rfl rfl ?_
  refine k_iconst C (x := 0) rfl rfl rfl ?_
  exact k_iret C rfl (Or.inl rfl) (Nat.le_of_ble_eq_true rfl) (Nat.le_of_ble_eq_true rfl) ⟨_, _, _, rfl, rfl, hI5, fL9_1⟩

theorem w_L_keep {d : Nat} {T N : Nat → Nat} {I : IT} {L : LT} {R : RT} {A : Nat → Prop} {x o : Nat} {n1 : Int32} (hI : IX A T I) (H_x : h_LF T N R A x) (T_o : T o = 21) (N_o : N o = 1) (A_o : A o) : Ex (d + 6) 342 [.ref x, .int n1, .ref o] (T, N, I, L, R) 1 6 (pI T N R (fun _ I9 L9 => IX A T I9 ∧ Fr A I L I9 L9)) := by
  refine ⟨_, rfl, Nat.le_of_ble_eq_true rfl, fun V C S => ?_⟩
  show V 0 [(0, .ref x), (1, .int n1), (2, .ref o)] [] (T, N, I, L, R) 0 0
  have T_x := H_x.1
  refine k_aload_n C rfl rfl rfl ?_
  refine k_iconst C (x := 0) rfl rfl rfl ?_
  refine k_aload_n C rfl rfl rfl ?_
  refine k_iload_n C rfl rfl rfl ?_
  refine w_VI C (a_X11_keep hI H_x) rfl rfl rfl rfl rfl ⟨_, rfl, rfl, T_x, Nat.le_of_ble_eq_true rfl⟩ rfl rfl (Nat.le_of_ble_eq_true rfl) (Nat.le_of_ble_eq_true rfl) (Nat.le_of_ble_eq_true rfl) (by decide) (fun e he I4 L4 hq => ?_) ?_
  · simp only [List.mem_cons, List.not_mem_nil, or_false] at he
    have fq : Fr A I L I4 L4 := hq.2.1
    subst he
    skip
    refine Or.inr ⟨12, rfl, fun z => ?_⟩
    refine k_astore_n C (lw := [(3, _), (0, _), (1, .int _), (2, _)]) rfl rfl (Nat.le_of_ble_eq_true rfl) rfl ?_
    refine k_iconst C (x := 1) rfl rfl rfl ?_
    exact k_iret C rfl (Or.inl rfl) (Nat.le_of_ble_eq_true rfl) (Nat.le_of_ble_eq_true rfl) ⟨_, _, _, rfl, rfl, hq.1, fq⟩
  rintro x4 I4 L4 ⟨hI4, cI4⟩
  have fI4 : Fr A I L I4 L4 := cI4.1
  refine z_i2l C rfl rfl (fun lg7 _ => ?_)
  refine z_sL C rfl rfl T_o N_o (by decide) (by decide) (fun L8_1 uL8_1 => ?_)
  have fL8_1 : Fr A I L I4 L8_1 := by (rw [uL8_1]; exact Fr.l fI4 A_o)
  refine k_goto C (pc2 := 15) rfl rfl ?_
  refine k_iconst C (x := 0) rfl rfl rfl ?_
  exact k_iret C rfl (Or.inl rfl) (Nat.le_of_ble_eq_true rfl) (Nat.le_of_ble_eq_true rfl) ⟨_, _, _, rfl, rfl, hI4, fL8_1⟩

theorem w_L_powers {d : Nat} {T N : Nat → Nat} {I : IT} {L : LT} {R : RT} {A : Nat → Prop} {x o : Nat} {n1 n2 : Int32} (hI : IX A T I) (H_x : h_LF T N R A x) (T_o : T o = 21) (N_o : N o = 1) (A_o : A o) : Ex (d + 7) 343 [.ref x, .int n1, .int n2, .ref o] (T, N, I, L, R) 2 12 (pI T N R (fun _ I9 L9 => IX A T I9 ∧ Fr A I L I9 L9)) := by
  refine ⟨_, rfl, Nat.le_of_ble_eq_true rfl, fun V C S => ?_⟩
  show V 0 [(0, .ref x), (1, .int n1), (2, .int n2), (3, .ref o)] [] (T, N, I, L, R) 0 0
  have T_x := H_x.1
  refine k_aload_n C rfl rfl rfl ?_
  refine k_iconst C (x := 0) rfl rfl rfl ?_
  refine k_aload_n C rfl rfl rfl ?_
  refine k_iload_n C rfl rfl rfl ?_
  refine k_iload_n C rfl rfl rfl ?_
  refine w_VI C (a_X11_powers hI H_x) rfl rfl rfl rfl rfl ⟨_, rfl, rfl, T_x, Nat.le_of_ble_eq_true rfl⟩ rfl rfl (Nat.le_of_ble_eq_true rfl) (Nat.le_of_ble_eq_true rfl) (Nat.le_of_ble_eq_true rfl) (by decide) (fun e he I5 L5 hq => ?_) ?_
  · simp only [List.mem_cons, List.not_mem_nil, or_false] at he
    have fq : Fr A I L I5 L5 := hq.2.1
    rcases he with rfl | rfl
    · skip
      refine Or.inr ⟨17, rfl, fun z => ?_⟩
      refine k_astore C (lw := [(4, _), (0, _), (1, .int _), (2, .int _), (3, _)]) rfl rfl (Nat.le_of_ble_eq_true rfl) rfl ?_
      refine k_iconst C (x := 2) rfl rfl rfl ?_
      exact k_iret C rfl (Or.inl rfl) (Nat.le_of_ble_eq_true rfl) (Nat.le_of_ble_eq_true rfl) ⟨_, _, _, rfl, rfl, hq.1, fq⟩
    · skip
      refine Or.inr ⟨13, rfl, fun z => ?_⟩
      refine k_astore C (lw := [(4, _), (0, _), (1, .int _), (2, .int _), (3, _)]) rfl rfl (Nat.le_of_ble_eq_true rfl) rfl ?_
      refine k_iconst C (x := 1) rfl rfl rfl ?_
      exact k_iret C rfl (Or.inl rfl) (Nat.le_of_ble_eq_true rfl) (Nat.le_of_ble_eq_true rfl) ⟨_, _, _, rfl, rfl, hq.1, fq⟩
  rintro x5 I5 L5 ⟨hI5, cI5⟩
  have fI5 : Fr A I L I5 L5 := cI5.1
  refine z_i2l C rfl rfl (fun lg8 _ => ?_)
  refine z_sL C rfl rfl T_o N_o (by decide) (by decide) (fun L9_1 uL9_1 => ?_)
  have fL9_1 : Fr A I L I5 L9_1 := by (rw [uL9_1]; exact Fr.l fI5 A_o)
  refine k_goto C (pc2 := 21) rfl rfl ?_
  refine k_iconst C (x := 0) rfl rfl rfl ?_
  exact k_iret C rfl (Or.inl rfl) (Nat.le_of_ble_eq_true rfl) (Nat.le_of_ble_eq_true rfl) ⟨_, _, _, rfl, rfl, hI5, fL9_1⟩

theorem w_L_common {d : Nat} {T N : Nat → Nat} {I : IT} {L : LT} {R : RT} {A : Nat → Prop} {x o : Nat} {n1 n2 n3 : Int32} (hI : IX A T I) (H_x : h_LF T N R A x) (T_o : T o = 21) (N_o : N o = 1) (A_o : A o) : Ex (d + 7) 344 [.ref x, .int n1, .int n2, .int n3, .ref o] (T, N, I, L, R) 2 12 (pI T N R (fun _ I9 L9 => IX A T I9 ∧ Fr A I L I9 L9)) := by
  refine ⟨_, rfl, Nat.le_of_ble_eq_true rfl, fun V C S => ?_⟩
  show V 0 [(0, .ref x), (1, .int n1), (2, .int n2), (3, .int n3), (4, .ref o)] [] (T, N, I, L, R) 0 0
  have T_x := H_x.1
  refine k_aload C rfl rfl rfl ?_
  refine k_iconst C (x := 0) rfl rfl rfl ?_
  refine k_aload_n C rfl rfl rfl ?_
  refine k_iload_n C rfl rfl rfl ?_
  refine k_iload_n C rfl rfl rfl ?_
  refine k_iload_n C rfl rfl rfl ?_
  refine w_VI C (a_X11_common hI H_x) rfl rfl rfl rfl rfl ⟨_, rfl, rfl, T_x, Nat.le_of_ble_eq_true rfl⟩ rfl rfl (Nat.le_of_ble_eq_true rfl) (Nat.le_of_ble_eq_true rfl) (Nat.le_of_ble_eq_true rfl) (by decide) (fun e he I7 L7 hq => ?_) ?_
  · simp only [List.mem_cons, List.not_mem_nil, or_false] at he
    have fq : Fr A I L I7 L7 := hq.2.1
    subst he
    skip
    refine Or.inr ⟨15, rfl, fun z => ?_⟩
    refine k_astore C (lw := [(5, _), (0, _), (1, .int _), (2, .int _), (3, .int _), (4, _)]) rfl rfl (Nat.le_of_ble_eq_true rfl) rfl ?_
    refine k_iconst C (x := 1) rfl rfl rfl ?_
    exact k_iret C rfl (Or.inl rfl) (Nat.le_of_ble_eq_true rfl) (Nat.le_of_ble_eq_true rfl) ⟨_, _, _, rfl, rfl, hq.1, fq⟩
  rintro x7 I7 L7 ⟨hI7, cI7⟩
  have fI7 : Fr A I L I7 L7 := cI7.1
  refine z_i2l C rfl rfl (fun lg10 _ => ?_)
  refine z_sL C rfl rfl T_o N_o (by decide) (by decide) (fun L11_1 uL11_1 => ?_)
  have fL11_1 : Fr A I L I7 L11_1 := by (rw [uL11_1]; exact Fr.l fI7 A_o)
  refine k_goto C (pc2 := 19) rfl rfl ?_
  refine k_iconst C (x := 0) rfl rfl rfl ?_
  exact k_iret C rfl (Or.inl rfl) (Nat.le_of_ble_eq_true rfl) (Nat.le_of_ble_eq_true rfl) ⟨_, _, _, rfl, rfl, hI7, fL11_1⟩

theorem w_L_overlap {d : Nat} {T N : Nat → Nat} {I : IT} {L : LT} {R : RT} {A : Nat → Prop} {x o : Nat} {n1 n2 n3 n4 : Int32} (hI : IX A T I) (H_x : h_LF T N R A x) (T_o : T o = 21) (N_o : N o = 1) (A_o : A o) : Ex (d + 6) 345 [.ref x, .int n1, .int n2, .int n3, .int n4, .ref o] (T, N, I, L, R) 3 18 (pI T N R (fun _ I9 L9 => IX A T I9 ∧ Fr A I L I9 L9)) := by
  refine ⟨_, rfl, Nat.le_of_ble_eq_true rfl, fun V C S => ?_⟩
  show V 0 [(0, .ref x), (1, .int n1), (2, .int n2), (3, .int n3), (4, .int n4), (5, .ref o)] [] (T, N, I, L, R) 0 0
  have T_x := H_x.1
  refine k_aload C rfl rfl rfl ?_
  refine k_iconst C (x := 0) rfl rfl rfl ?_
  refine k_aload_n C rfl rfl rfl ?_
  refine k_iload_n C rfl rfl rfl ?_
  refine k_iload_n C rfl rfl rfl ?_
  refine k_iload_n C rfl rfl rfl ?_
  refine k_iload C rfl rfl rfl ?_
  refine w_VI C (a_X11_overlap hI H_x) rfl rfl rfl rfl rfl ⟨_, rfl, rfl, T_x, Nat.le_of_ble_eq_true rfl⟩ rfl rfl (Nat.le_of_ble_eq_true rfl) (Nat.le_of_ble_eq_true rfl) (Nat.le_of_ble_eq_true rfl) (by decide) (fun e he I9 L9 hq => ?_) ?_
  · simp only [List.mem_cons, List.not_mem_nil, or_false] at he
    have fq : Fr A I L I9 L9 := hq.2.1
    rcases he with rfl | rfl
    · skip
      refine Or.inr ⟨21, rfl, fun z => ?_⟩
      refine k_astore C (lw := [(6, _), (0, _), (1, .int _), (2, .int _), (3, .int _), (4, .int _), (5, _)]) rfl rfl (Nat.le_of_ble_eq_true rfl) rfl ?_
      refine k_iconst C (x := 2) rfl rfl rfl ?_
      exact k_iret C rfl (Or.inl rfl) (Nat.le_of_ble_eq_true rfl) (Nat.le_of_ble_eq_true rfl) ⟨_, _, _, rfl, rfl, hq.1, fq⟩
    · skip
      refine Or.inr ⟨17, rfl, fun z => ?_⟩
      refine k_astore C (lw := [(6, _), (0, _), (1, .int _), (2, .int _), (3, .int _), (4, .int _), (5, _)]) rfl rfl (Nat.le_of_ble_eq_true rfl) rfl ?_
      refine k_iconst C (x := 1) rfl rfl rfl ?_
      exact k_iret C rfl (Or.inl rfl) (Nat.le_of_ble_eq_true rfl) (Nat.le_of_ble_eq_true rfl) ⟨_, _, _, rfl, rfl, hq.1, fq⟩
  rintro x9 I9 L9 ⟨hI9, cI9⟩
  have fI9 : Fr A I L I9 L9 := cI9.1
  refine z_i2l C rfl rfl (fun lg12 _ => ?_)
  refine z_sL C rfl rfl T_o N_o (by decide) (by decide) (fun L13_1 uL13_1 => ?_)
  have fL13_1 : Fr A I L I9 L13_1 := by (rw [uL13_1]; exact Fr.l fI9 A_o)
  refine k_goto C (pc2 := 25) rfl rfl ?_
  refine k_iconst C (x := 0) rfl rfl rfl ?_
  exact k_iret C rfl (Or.inl rfl) (Nat.le_of_ble_eq_true rfl) (Nat.le_of_ble_eq_true rfl) ⟨_, _, _, rfl, rfl, hI9, fL13_1⟩

