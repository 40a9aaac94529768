/-! the law: its own methods, told and untold -/
theorem v_L_field {d : Nat} {T N : Nat → Nat} {I : IT} {L : LT} {R : RT} {A B : Nat → Prop} {x nw kp rd al m w im o cb tp : Nat} {n1 : Int32} (E : LX T N R A B x nw kp rd al m w im o cb tp) (hl : LI T R A m I) (h : RY R x nw kp rd cb m w im tp I) : Ex (d + 2) 316 [.ref x, .int n1] (T, N, I, L, R) 1 6 (pI T N R (fun x9 I9 L9 => (IX A T I9 ∧ CB (SL [nw]) T [(9, 0)] I I9) ∧ ((x9 = 0 ∧ ((n1.toInt = 11 ∨ n1.toInt = 13 ∨ n1.toInt = 17 ∨ n1.toInt = 19) ∧ (I nw 1).toInt ≤ 0 ∧ (I nw 2).toInt ≤ 0) ∧ ((I9 nw 0).toInt = n1.toInt)) ∨ (x9 = 1 ∧ (¬ (n1.toInt = 11 ∨ n1.toInt = 13 ∨ n1.toInt = 17 ∨ n1.toInt = 19)) ∧ (∀ a k, I9 a k = I a k)) ∨ (x9 = 2 ∧ ((n1.toInt = 11 ∨ n1.toInt = 13 ∨ n1.toInt = 17 ∨ n1.toInt = 19) ∧ (0 < (I nw 1).toInt ∨ 0 < (I nw 2).toInt)) ∧ (∀ a k, I9 a k = I a k))))) := by
  refine ⟨_, rfl, Nat.le_of_ble_eq_true rfl, fun V C S => ?_⟩
  show V 0 [(0, .ref x), (1, .int n1)] [] (T, N, I, L, R) 0 0
  have T_x := E.1.t.1.1
  obtain ⟨T_o, N_o, A_o⟩ := E.1.2.2.1
  refine k_aload_n C rfl rfl rfl ?_
  refine k_iload_n C rfl rfl rfl ?_
  refine w2_VV C (kc_field E hl h) rfl rfl rfl rfl rfl ⟨_, rfl, rfl, T_x, Nat.le_of_ble_eq_true rfl⟩ rfl rfl (Nat.le_of_ble_eq_true rfl) (Nat.le_of_ble_eq_true rfl) (Nat.le_of_ble_eq_true rfl) (by decide) (fun e he I2 L2 hq => ?_) ?_
  · simp only [List.mem_cons, List.not_mem_nil, or_false] at he
    rcases he with rfl | rfl
    · skip
      refine Or.inr ⟨8, rfl, fun z => ?_⟩
      refine k_astore_n C (lw := [(2, _), (0, _), (1, .int _)]) rfl rfl (Nat.le_of_ble_eq_true rfl) rfl ?_
      refine k_iconst C (x := 1) rfl rfl rfl ?_
      exact k_iret C rfl (Or.inl rfl) (Nat.le_of_ble_eq_true rfl) (Nat.le_of_ble_eq_true rfl) ⟨_, _, _, rfl, rfl, ⟨hq.1.1, hq.1.2.cb⟩, (Or.inr (Or.inl ⟨rfl, (hq.2.1 rfl), (hq.2.2.1 rfl)⟩))⟩
    · skip
      refine Or.inr ⟨11, rfl, fun z => ?_⟩
      refine k_astore_n C (lw := [(2, _), (0, _), (1, .int _)]) rfl rfl (Nat.le_of_ble_eq_true rfl) rfl ?_
      refine k_iconst C (x := 2) rfl rfl rfl ?_
      exact k_iret C rfl (Or.inl rfl) (Nat.le_of_ble_eq_true rfl) (Nat.le_of_ble_eq_true rfl) ⟨_, _, _, rfl, rfl, ⟨hq.1.1, hq.1.2.cb⟩, (Or.inr (Or.inr (⟨rfl, (hq.2.2.2.1 rfl), (hq.2.2.2.2 rfl)⟩)))⟩
  rintro I2 L2 ⟨q0, q1, hI2, cI2⟩
  refine k_goto C (pc2 := 14) rfl rfl ?_
  refine k_iconst C (x := 0) rfl rfl rfl ?_
  exact k_iret C rfl (Or.inl rfl) (Nat.le_of_ble_eq_true rfl) (Nat.le_of_ble_eq_true rfl) ⟨_, _, _, rfl, rfl, ⟨hI2, cI2.cb⟩, (Or.inl ⟨rfl, q0, q1⟩)⟩

theorem v_L_form {d : Nat} {T N : Nat → Nat} {I : IT} {L : LT} {R : RT} {A B : Nat → Prop} {x nw kp rd al m w im o cb tp : Nat} (E : LX T N R A B x nw kp rd al m w im o cb tp) (hl : LI T R A m I) (h : RY R x nw kp rd cb m w im tp I) : Ex (d + 5) 317 [.ref x, .ref o] (T, N, I, L, R) 1 6 (pI T N R (fun x9 I9 L9 => (IX A T I9 ∧ CB (sFm R rd nw (I nw 1).toNatClampNeg) T [(3, 0), (5, 1), (9, 1), (9, 5)] I I9) ∧ ((x9 = 0 ∧ ∃ r : Int32, L9 o 0 = r.toInt64 ∧ ((I9 rd 1).toInt = 0) ∧ (1 ≤ (I rd 1).toInt ∧ (I rd 1).toInt ≤ 9 ∧ (I nw 1).toInt < 16 ∧ r.toInt = (I nw 1).toInt) ∧ ((I9 nw 1).toInt = (I nw 1).toInt + 1) ∧ ((I9 nw 5).toInt = 0) ∧ ((I9 (FA R nw (I nw 1).toNatClampNeg) 0).toInt = (I rd 1).toInt - 1) ∧ (NMF I9 (rA R (FA R nw (I nw 1).toNatClampNeg) 1) (I rd 1).toInt (fun j => (I cb j).toInt % (I nw 0).toInt))) ∨ (x9 = 1 ∧ ((I rd 1).toInt < 1 ∨ 9 < (I rd 1).toInt) ∧ ((I9 rd 1).toInt = 0) ∧ (∀ a, a ≠ rd → ∀ k, I9 a k = I a k)) ∨ (x9 = 2 ∧ (1 ≤ (I rd 1).toInt ∧ (I rd 1).toInt ≤ 9 ∧ 16 ≤ (I nw 1).toInt) ∧ ((I9 rd 1).toInt = 0) ∧ (∀ a, a ≠ rd → ∀ k, I9 a k = I a k))))) := by
  refine ⟨_, rfl, Nat.le_of_ble_eq_true rfl, fun V C S => ?_⟩
  show V 0 [(0, .ref x), (1, .ref o)] [] (T, N, I, L, R) 0 0
  have T_x := E.1.t.1.1
  obtain ⟨T_o, N_o, A_o⟩ := E.1.2.2.1
  refine k_aload_n C rfl rfl rfl ?_
  refine k_iconst C (x := 0) rfl rfl rfl ?_
  refine k_aload_n C rfl rfl rfl ?_
  refine w2_VI C (kc_form E hl h) rfl rfl rfl rfl rfl ⟨_, rfl, rfl, T_x, Nat.le_of_ble_eq_true rfl⟩ rfl rfl (Nat.le_of_ble_eq_true rfl) (Nat.le_of_ble_eq_true rfl) (Nat.le_of_ble_eq_true rfl) (by decide) (fun e he I3 L3 hq => ?_) ?_
  · simp only [List.mem_cons, List.not_mem_nil, or_false] at he
    rcases he with rfl | rfl
    · skip
      refine Or.inr ⟨11, rfl, fun z => ?_⟩
      refine k_astore_n C (lw := [(2, _), (0, _), (1, _)]) rfl rfl (Nat.le_of_ble_eq_true rfl) rfl ?_
      refine k_iconst C (x := 1) rfl rfl rfl ?_
      exact k_iret C rfl (Or.inl rfl) (Nat.le_of_ble_eq_true rfl) (Nat.le_of_ble_eq_true rfl) ⟨_, _, _, rfl, rfl, ⟨hq.1.1, hq.1.2.cb⟩, (Or.inr (Or.inl ⟨rfl, (hq.2.1 rfl), (hq.2.2.1 rfl), (hq.2.2.2.1 rfl)⟩))⟩
    · skip
      refine Or.inr ⟨14, rfl, fun z => ?_⟩
      refine k_astore_n C (lw := [(2, _), (0, _), (1, _)]) rfl rfl (Nat.le_of_ble_eq_true rfl) rfl ?_
      refine k_iconst C (x := 2) rfl rfl rfl ?_
      exact k_iret C rfl (Or.inl rfl) (Nat.le_of_ble_eq_true rfl) (Nat.le_of_ble_eq_true rfl) ⟨_, _, _, rfl, rfl, ⟨hq.1.1, hq.1.2.cb⟩, (Or.inr (Or.inr (⟨rfl, (hq.2.2.2.2.1 rfl), (hq.2.2.2.2.2.1 rfl), (hq.2.2.2.2.2.2 rfl)⟩)))⟩
  rintro x3 I3 L3 ⟨q0, q1, q2, q3, q4, q5, hI3, cI3⟩
  refine k_i2l C rfl rfl ?_
  refine s_L C rfl rfl T_o (vin (n := 0) rfl (by rw [N_o]; exact Nat.le_of_ble_eq_true rfl) (by rw [N_o]; exact Nat.le_of_ble_eq_true rfl)) (show (0 : Int32).toNatClampNeg = 0 from by decide) ?_
  refine k_goto C (pc2 := 17) rfl rfl ?_
  refine k_iconst C (x := 0) rfl rfl rfl ?_
  exact k_iret C rfl (Or.inl rfl) (Nat.le_of_ble_eq_true rfl) (Nat.le_of_ble_eq_true rfl) ⟨_, _, _, rfl, rfl, ⟨hI3, cI3.cb⟩, (Or.inl ⟨rfl, x3, u2_s, q0, q1, q2, q3, q4, q5⟩)⟩

theorem v_L_table {d : Nat} {T N : Nat → Nat} {I : IT} {L : LT} {R : RT} {A B : Nat → Prop} {x nw kp rd al m w im o cb tp : Nat} {n1 n2 n3 n4 : Int32} (E : LX T N R A B x nw kp rd al m w im o cb tp) (hl : LI T R A m I) (h : RY R x nw kp rd cb m w im tp I) : Ex (d + 4) 318 [.ref x, .int n1, .int n2, .int n3, .int n4, .ref o] (T, N, I, L, R) 1 6 (pI T N R (fun x9 I9 L9 => (IX A T I9 ∧ CB (sTb R nw (I nw 2).toNatClampNeg) T [(9, 2), (10, 0), (10, 1), (10, 2), (10, 3)] I I9) ∧ ((x9 = 0 ∧ ∃ r : Int32, L9 o 0 = r.toInt64 ∧ (dt (I nw 0).toInt n1.toInt n2.toInt n3.toInt n4.toInt ≠ 0 ∧ (I nw 2).toInt < 8 ∧ r.toInt = (I nw 2).toInt) ∧ ((I9 nw 2).toInt = (I nw 2).toInt + 1) ∧ ((I9 (TA R nw (I nw 2).toNatClampNeg) 0).toInt = n1.toInt % (I nw 0).toInt) ∧ ((I9 (TA R nw (I nw 2).toNatClampNeg) 1).toInt = n2.toInt % (I nw 0).toInt) ∧ ((I9 (TA R nw (I nw 2).toNatClampNeg) 2).toInt = n3.toInt % (I nw 0).toInt) ∧ ((I9 (TA R nw (I nw 2).toNatClampNeg) 3).toInt = n4.toInt % (I nw 0).toInt)) ∨ (x9 = 1 ∧ (dt (I nw 0).toInt n1.toInt n2.toInt n3.toInt n4.toInt = 0) ∧ (∀ a k, I9 a k = I a k)) ∨ (x9 = 2 ∧ (dt (I nw 0).toInt n1.toInt n2.toInt n3.toInt n4.toInt ≠ 0 ∧ 8 ≤ (I nw 2).toInt) ∧ (∀ a k, I9 a k = I a k))))) := by
  refine ⟨_, rfl, Nat.le_of_ble_eq_true rfl, fun V C S => ?_⟩
  show V 0 [(0, .ref x), (1, .int n1), (2, .int n2), (3, .int n3), (4, .int n4), (5, .ref o)] [] (T, N, I, L, R) 0 0
  have T_x := E.1.t.1.1
  obtain ⟨T_o, N_o, A_o⟩ := E.1.2.2.1
  refine k_aload C rfl rfl rfl ?_
  refine k_iconst C (x := 0) rfl rfl rfl ?_
  refine k_aload_n C rfl rfl rfl ?_
  refine k_iload_n C rfl rfl rfl ?_
  refine k_iload_n C rfl rfl rfl ?_
  refine k_iload_n C rfl rfl rfl ?_
  refine k_iload C rfl rfl rfl ?_
  refine w2_VI C (kc_table E hl h) rfl rfl rfl rfl rfl ⟨_, rfl, rfl, T_x, Nat.le_of_ble_eq_true rfl⟩ rfl rfl (Nat.le_of_ble_eq_true rfl) (Nat.le_of_ble_eq_true rfl) (Nat.le_of_ble_eq_true rfl) (by decide) (fun e he I9 L9 hq => ?_) ?_
  · simp only [List.mem_cons, List.not_mem_nil, or_false] at he
    rcases he with rfl | rfl
    · skip
      refine Or.inr ⟨17, rfl, fun z => ?_⟩
      refine k_astore C (lw := [(6, _), (0, _), (1, .int _), (2, .int _), (3, .int _), (4, .int _), (5, _)]) rfl rfl (Nat.le_of_ble_eq_true rfl) rfl ?_
      refine k_iconst C (x := 1) rfl rfl rfl ?_
      exact k_iret C rfl (Or.inl rfl) (Nat.le_of_ble_eq_true rfl) (Nat.le_of_ble_eq_true rfl) ⟨_, _, _, rfl, rfl, ⟨hq.1.1, hq.1.2.cb⟩, (Or.inr (Or.inl ⟨rfl, (hq.2.1 rfl), (hq.2.2.1 rfl)⟩))⟩
    · skip
      refine Or.inr ⟨21, rfl, fun z => ?_⟩
      refine k_astore C (lw := [(6, _), (0, _), (1, .int _), (2, .int _), (3, .int _), (4, .int _), (5, _)]) rfl rfl (Nat.le_of_ble_eq_true rfl) rfl ?_
      refine k_iconst C (x := 2) rfl rfl rfl ?_
      exact k_iret C rfl (Or.inl rfl) (Nat.le_of_ble_eq_true rfl) (Nat.le_of_ble_eq_true rfl) ⟨_, _, _, rfl, rfl, ⟨hq.1.1, hq.1.2.cb⟩, (Or.inr (Or.inr (⟨rfl, (hq.2.2.2.1 rfl), (hq.2.2.2.2 rfl)⟩)))⟩
  rintro x9 I9 L9 ⟨q0, q1, q2, q3, q4, q5, hI9, cI9⟩
  refine k_i2l C rfl rfl ?_
  refine s_L C rfl rfl T_o (vin (n := 0) rfl (by rw [N_o]; exact Nat.le_of_ble_eq_true rfl) (by rw [N_o]; exact Nat.le_of_ble_eq_true rfl)) (show (0 : Int32).toNatClampNeg = 0 from by decide) ?_
  refine k_goto C (pc2 := 25) rfl rfl ?_
  refine k_iconst C (x := 0) rfl rfl rfl ?_
  exact k_iret C rfl (Or.inl rfl) (Nat.le_of_ble_eq_true rfl) (Nat.le_of_ble_eq_true rfl) ⟨_, _, _, rfl, rfl, ⟨hI9, cI9.cb⟩, (Or.inl ⟨rfl, x9, u2_s, q0, q1, q2, q3, q4, q5⟩)⟩

theorem v_L_signs {d : Nat} {T N : Nat → Nat} {I : IT} {L : LT} {R : RT} {A B : Nat → Prop} {x nw kp rd al m w im o cb tp : Nat} (E : LX T N R A B x nw kp rd al m w im o cb tp) (hl : LI T R A m I) (h : RY R x nw kp rd cb m w im tp I) : Ex (d + 32) 319 [.ref x, .ref o] (T, N, I, L, R) 1 6 (pI T N R (fun x9 I9 L9 => (IX A T I9 ∧ CB (sSG R x rd nw (I nw 3).toNatClampNeg) T [(5, 1), (5, 3), (5, 4), (5, 5), (8, 2), (9, 3), (12, 4)] I I9) ∧ ((x9 = 0 ∧ ∃ r : Int32, L9 o 0 = r.toInt64 ∧ ((I9 rd 1).toInt = 0) ∧ ((I nw 3).toInt < 8 ∧ r.toInt = (I nw 3).toInt) ∧ ((I9 nw 3).toInt = (I nw 3).toInt + 1) ∧ (RDA 160 (BCH (I cb) (I rd 1).toInt) = some (STL R I9 (SA R nw (I nw 3).toNatClampNeg))) ∧ (0 ≤ (I9 (SA R nw (I nw 3).toNatClampNeg) 2).toInt ∧ (I9 (SA R nw (I nw 3).toNatClampNeg) 2).toInt ≤ 160)) ∨ (x9 = 1 ∧ ((I9 rd 1).toInt = 0) ∧ (RDA 160 (BCH (I cb) (I rd 1).toInt) = none) ∧ (∀ a, ¬ (a = x ∨ a = rd ∨ a = (rA R rd 0) ∨ a = rA R (rA R rd 0) 0 ∨ a = rA R (rA R rd 0) 1) → I9 a = I a)) ∨ (x9 = 2 ∧ ((I9 rd 1).toInt = 0) ∧ (8 ≤ (I nw 3).toInt) ∧ (RDA 160 (BCH (I cb) (I rd 1).toInt) ≠ none) ∧ (∀ a, ¬ (a = x ∨ a = rd ∨ a = (rA R rd 0) ∨ a = rA R (rA R rd 0) 0 ∨ a = rA R (rA R rd 0) 1) → I9 a = I a))))) := by
  refine ⟨_, rfl, Nat.le_of_ble_eq_true rfl, fun V C S => ?_⟩
  show V 0 [(0, .ref x), (1, .ref o)] [] (T, N, I, L, R) 0 0
  have T_x := E.1.t.1.1
  obtain ⟨T_o, N_o, A_o⟩ := E.1.2.2.1
  refine k_aload_n C rfl rfl rfl ?_
  refine k_iconst C (x := 0) rfl rfl rfl ?_
  refine k_aload_n C rfl rfl rfl ?_
  refine w2_VI C (kc_signs E hl h) rfl rfl rfl rfl rfl ⟨_, rfl, rfl, T_x, Nat.le_of_ble_eq_true rfl⟩ rfl rfl (Nat.le_of_ble_eq_true rfl) (Nat.le_of_ble_eq_true rfl) (Nat.le_of_ble_eq_true rfl) (by decide) (fun e he I3 L3 hq => ?_) ?_
  · simp only [List.mem_cons, List.not_mem_nil, or_false] at he
    rcases he with rfl | rfl
    · skip
      refine Or.inr ⟨11, rfl, fun z => ?_⟩
      refine k_astore_n C (lw := [(2, _), (0, _), (1, _)]) rfl rfl (Nat.le_of_ble_eq_true rfl) rfl ?_
      refine k_iconst C (x := 1) rfl rfl rfl ?_
      exact k_iret C rfl (Or.inl rfl) (Nat.le_of_ble_eq_true rfl) (Nat.le_of_ble_eq_true rfl) ⟨_, _, _, rfl, rfl, ⟨hq.1.1, hq.1.2.cb⟩, (Or.inr (Or.inl ⟨rfl, (hq.2.1 rfl), (hq.2.2.1 rfl), (hq.2.2.2.1 rfl)⟩))⟩
    · skip
      refine Or.inr ⟨14, rfl, fun z => ?_⟩
      refine k_astore_n C (lw := [(2, _), (0, _), (1, _)]) rfl rfl (Nat.le_of_ble_eq_true rfl) rfl ?_
      refine k_iconst C (x := 2) rfl rfl rfl ?_
      exact k_iret C rfl (Or.inl rfl) (Nat.le_of_ble_eq_true rfl) (Nat.le_of_ble_eq_true rfl) ⟨_, _, _, rfl, rfl, ⟨hq.1.1, hq.1.2.cb⟩, (Or.inr (Or.inr (⟨rfl, (hq.2.2.2.2.1 rfl), (hq.2.2.2.2.2.1 rfl), (hq.2.2.2.2.2.2.1 rfl), (hq.2.2.2.2.2.2.2 rfl)⟩)))⟩
  rintro x3 I3 L3 ⟨q0, q1, q2, q3, q4, hI3, cI3⟩
  refine k_i2l C rfl rfl ?_
  refine s_L C rfl rfl T_o (vin (n := 0) rfl (by rw [N_o]; exact Nat.le_of_ble_eq_true rfl) (by rw [N_o]; exact Nat.le_of_ble_eq_true rfl)) (show (0 : Int32).toNatClampNeg = 0 from by decide) ?_
  refine k_goto C (pc2 := 17) rfl rfl ?_
  refine k_iconst C (x := 0) rfl rfl rfl ?_
  exact k_iret C rfl (Or.inl rfl) (Nat.le_of_ble_eq_true rfl) (Nat.le_of_ble_eq_true rfl) ⟨_, _, _, rfl, rfl, ⟨hI3, cI3.cb⟩, (Or.inl ⟨rfl, x3, u2_s, q0, q1, q2, q3, q4⟩)⟩

theorem u_L_look {d : Nat} {T N : Nat → Nat} {I : IT} {L : LT} {R : RT} {A B : Nat → Prop} {x o : Nat} {n1 n2 : Int32} (hS : SUB B A) (hI : IX A T I) (H_x : hs_LF T N R A B x) (T_o : T o = 21) (N_o : N o = 1) : Ex (d + 5) 320 [.ref x, .int n1, .int n2, .ref o] (T, N, I, L, R) 1 6 (pI T N R (fun x9 I9 L9 => I9 = I)) := by
  refine ⟨_, rfl, Nat.le_of_ble_eq_true rfl, fun V C S => ?_⟩
  show V 0 [(0, .ref x), (1, .int n1), (2, .int n2), (3, .ref o)] [] (T, N, I, L, R) 0 0
  have T_x := H_x.1
  refine k_aload_n C rfl rfl rfl ?_
  refine k_iconst C (x := 0) rfl rfl rfl ?_
  refine k_aload_n C rfl rfl rfl ?_
  refine k_iload_n C rfl rfl rfl ?_
  refine k_iload_n C rfl rfl rfl ?_
  refine w_VI C (s_X11_look hS hI H_x) rfl rfl rfl rfl rfl ⟨_, rfl, rfl, T_x, Nat.le_of_ble_eq_true rfl⟩ rfl rfl (Nat.le_of_ble_eq_true rfl) (Nat.le_of_ble_eq_true rfl) (Nat.le_of_ble_eq_true rfl) (by decide) (fun e he I5 L5 hq => ?_) ?_
  · simp only [List.mem_cons, List.not_mem_nil, or_false] at he
    obtain ⟨rfl, rfl⟩ := hq
    subst he
    skip
    refine Or.inr ⟨13, rfl, fun z => ?_⟩
    refine k_astore C (lw := [(4, _), (0, _), (1, .int _), (2, .int _), (3, _)]) rfl rfl (Nat.le_of_ble_eq_true rfl) rfl ?_
    refine k_iconst C (x := 1) rfl rfl rfl ?_
    exact k_iret C rfl (Or.inl rfl) (Nat.le_of_ble_eq_true rfl) (Nat.le_of_ble_eq_true rfl) ⟨_, _, _, rfl, rfl, rfl⟩
  rintro x5 _ _ ⟨rfl, rfl⟩
  refine k_i2l C rfl rfl ?_
  refine s_L C rfl rfl T_o (vin (n := 0) rfl (by rw [N_o]; exact Nat.le_of_ble_eq_true rfl) (by rw [N_o]; exact Nat.le_of_ble_eq_true rfl)) (show (0 : Int32).toNatClampNeg = 0 from by decide) ?_
  refine k_goto C (pc2 := 17) rfl rfl ?_
  refine k_iconst C (x := 0) rfl rfl rfl ?_
  exact k_iret C rfl (Or.inl rfl) (Nat.le_of_ble_eq_true rfl) (Nat.le_of_ble_eq_true rfl) ⟨_, _, _, rfl, rfl, rfl⟩

theorem u_L_at {d : Nat} {T N : Nat → Nat} {I : IT} {L : LT} {R : RT} {A B : Nat → Prop} {x o : Nat} {n1 n2 n3 : Int32} (hS : SUB B A) (hI : IX A T I) (H_x : hs_LF T N R A B x) (T_o : T o = 21) (N_o : N o = 1) : Ex (d + 5) 321 [.ref x, .int n1, .int n2, .int n3, .ref o] (T, N, I, L, R) 1 6 (pI T N R (fun x9 I9 L9 => I9 = I)) := by
  refine ⟨_, rfl, Nat.le_of_ble_eq_true rfl, fun V C S => ?_⟩
  show V 0 [(0, .ref x), (1, .int n1), (2, .int n2), (3, .int n3), (4, .ref o)] [] (T, N, I, L, R) 0 0
  have T_x := H_x.1
  refine k_aload C rfl rfl rfl ?_
  refine k_iconst C (x := 0) rfl rfl rfl ?_
  refine k_aload_n C rfl rfl rfl ?_
  refine k_iload_n C rfl rfl rfl ?_
  refine k_iload_n C rfl rfl rfl ?_
  refine k_iload_n C rfl rfl rfl ?_
  refine w_VI C (s_X11_at hS hI H_x) rfl rfl rfl rfl rfl ⟨_, rfl, rfl, T_x, Nat.le_of_ble_eq_true rfl⟩ rfl rfl (Nat.le_of_ble_eq_true rfl) (Nat.le_of_ble_eq_true rfl) (Nat.le_of_ble_eq_true rfl) (by decide) (fun e he I7 L7 hq => ?_) ?_
  · simp only [List.mem_cons, List.not_mem_nil, or_false] at he
    obtain ⟨rfl, rfl⟩ := hq
    subst he
    skip
    refine Or.inr ⟨15, rfl, fun z => ?_⟩
    refine k_astore C (lw := [(5, _), (0, _), (1, .int _), (2, .int _), (3, .int _), (4, _)]) rfl rfl (Nat.le_of_ble_eq_true rfl) rfl ?_
    refine k_iconst C (x := 1) rfl rfl rfl ?_
    exact k_iret C rfl (Or.inl rfl) (Nat.le_of_ble_eq_true rfl) (Nat.le_of_ble_eq_true rfl) ⟨_, _, _, rfl, rfl, rfl⟩
  rintro x7 _ _ ⟨rfl, rfl⟩
  refine k_i2l C rfl rfl ?_
  refine s_L C rfl rfl T_o (vin (n := 0) rfl (by rw [N_o]; exact Nat.le_of_ble_eq_true rfl) (by rw [N_o]; exact Nat.le_of_ble_eq_true rfl)) (show (0 : Int32).toNatClampNeg = 0 from by decide) ?_
  refine k_goto C (pc2 := 19) rfl rfl ?_
  refine k_iconst C (x := 0) rfl rfl rfl ?_
  exact k_iret C rfl (Or.inl rfl) (Nat.le_of_ble_eq_true rfl) (Nat.le_of_ble_eq_true rfl) ⟨_, _, _, rfl, rfl, rfl⟩

theorem u_L_det {d : Nat} {T N : Nat → Nat} {I : IT} {L : LT} {R : RT} {A B : Nat → Prop} {x o : Nat} {n1 : Int32} (hS : SUB B A) (hI : IX A T I) (H_x : hs_LF T N R A B x) (T_o : T o = 21) (N_o : N o = 1) : Ex (d + 4) 322 [.ref x, .int n1, .ref o] (T, N, I, L, R) 1 6 (pI T N R (fun x9 I9 L9 => I9 = I)) := by
  refine ⟨_, rfl, Nat.le_of_ble_eq_true rfl, fun V C S => ?_⟩
  show V 0 [(0, .ref x), (1, .int n1), (2, .ref o)] [] (T, N, I, L, R) 0 0
  have T_x := H_x.1
  refine k_aload_n C rfl rfl rfl ?_
  refine k_iconst C (x := 0) rfl rfl rfl ?_
  refine k_aload_n C rfl rfl rfl ?_
  refine k_iload_n C rfl rfl rfl ?_
  refine w_VI C (s_X11_det hS hI H_x) rfl rfl rfl rfl rfl ⟨_, rfl, rfl, T_x, Nat.le_of_ble_eq_true rfl⟩ rfl rfl (Nat.le_of_ble_eq_true rfl) (Nat.le_of_ble_eq_true rfl) (Nat.le_of_ble_eq_true rfl) (by decide) (fun e he I4 L4 hq => ?_) ?_
  · simp only [List.mem_cons, List.not_mem_nil, or_false] at he
    obtain ⟨rfl, rfl⟩ := hq
    subst he
    skip
    refine Or.inr ⟨12, rfl, fun z => ?_⟩
    refine k_astore_n C (lw := [(3, _), (0, _), (1, .int _), (2, _)]) rfl rfl (Nat.le_of_ble_eq_true rfl) rfl ?_
    refine k_iconst C (x := 1) rfl rfl rfl ?_
    exact k_iret C rfl (Or.inl rfl) (Nat.le_of_ble_eq_true rfl) (Nat.le_of_ble_eq_true rfl) ⟨_, _, _, rfl, rfl, rfl⟩
  rintro x4 _ _ ⟨rfl, rfl⟩
  refine k_i2l C rfl rfl ?_
  refine s_L C rfl rfl T_o (vin (n := 0) rfl (by rw [N_o]; exact Nat.le_of_ble_eq_true rfl) (by rw [N_o]; exact Nat.le_of_ble_eq_true rfl)) (show (0 : Int32).toNatClampNeg = 0 from by decide) ?_
  refine k_goto C (pc2 := 15) rfl rfl ?_
  refine k_iconst C (x := 0) rfl rfl rfl ?_
  exact k_iret C rfl (Or.inl rfl) (Nat.le_of_ble_eq_true rfl) (Nat.le_of_ble_eq_true rfl) ⟨_, _, _, rfl, rfl, rfl⟩

theorem v_L_mix {d : Nat} {T N : Nat → Nat} {I : IT} {L : LT} {R : RT} {A B : Nat → Prop} {x nw kp rd al m w im o cb tp : Nat} {n1 n2 : Int32} (E : LX T N R A B x nw kp rd al m w im o cb tp) (hl : LI T R A m I) (h : RY R x nw kp rd cb m w im tp I) : Ex (d + 6) 323 [.ref x, .int n1, .int n2, .ref o] (T, N, I, L, R) 2 12 (pI T N R (fun x9 I9 L9 => (IX A T I9 ∧ CB (sMx T R A nw n1.toNatClampNeg) T [(3, 0), (9, 4), (9, 5)] I I9) ∧ ((x9 = 0 ∧ ∃ r : Int32, L9 o 0 = r.toInt64 ∧ (0 ≤ r.toInt) ∧ (r.toInt ≤ 1) ∧ (¬ ((n1.toInt < 0 ∨ (I nw 1).toInt ≤ n1.toInt ∨ 16 ≤ n1.toInt) ∨ (n2.toInt < 0 ∨ (I nw 2).toInt ≤ n2.toInt ∨ 8 ≤ n2.toInt))) ∧ ((I9 (FA R nw n1.toNatClampNeg) 0).toInt = (I (FA R nw n1.toNatClampNeg) 0).toInt) ∧ (VRX I9 (rA R (FA R nw n1.toNatClampNeg) 1) (I nw 0).toInt (I (FA R nw n1.toNatClampNeg) 0).toInt (PmX (I (TA R nw n2.toNatClampNeg) 0).toInt (I (TA R nw n2.toNatClampNeg) 1).toInt (I (TA R nw n2.toNatClampNeg) 2).toInt (I (TA R nw n2.toNatClampNeg) 3).toInt (NF I (rA R (FA R nw n1.toNatClampNeg) 1)) (I (FA R nw n1.toNatClampNeg) 0).toInt.toNat)) ∧ (WRD R I9 I nw n1 (FA R nw n1.toNatClampNeg) (I nw 4).toInt) ∧ ((I9 nw 5).toInt = 0) ∧ (FSM R I9 I nw n1.toInt) ∧ (IFF (1 - r.toInt) (∀ k : Nat, (k : Int) ≤ (I (FA R nw n1.toNatClampNeg) 0).toInt → (I9 (rA R (FA R nw n1.toNatClampNeg) 1) k).toInt = (I (rA R (FA R nw n1.toNatClampNeg) 1) k).toInt))) ∨ (x9 = 1 ∧ (((n1.toInt < 0 ∨ (I nw 1).toInt ≤ n1.toInt ∨ 16 ≤ n1.toInt) ∨ (n2.toInt < 0 ∨ (I nw 2).toInt ≤ n2.toInt ∨ 8 ≤ n2.toInt))) ∧ (∀ a k, I9 a k = I a k))))) := by
  refine ⟨_, rfl, Nat.le_of_ble_eq_true rfl, fun V C S => ?_⟩
  show V 0 [(0, .ref x), (1, .int n1), (2, .int n2), (3, .ref o)] [] (T, N, I, L, R) 0 0
  have T_x := E.1.t.1.1
  obtain ⟨T_o, N_o, A_o⟩ := E.1.2.2.1
  refine k_aload_n C rfl rfl rfl ?_
  refine k_iconst C (x := 0) rfl rfl rfl ?_
  refine k_aload_n C rfl rfl rfl ?_
  refine k_iload_n C rfl rfl rfl ?_
  refine k_iload_n C rfl rfl rfl ?_
  refine w2_VI C (kc_mix E hl h) rfl rfl rfl rfl rfl ⟨_, rfl, rfl, T_x, Nat.le_of_ble_eq_true rfl⟩ rfl rfl (Nat.le_of_ble_eq_true rfl) (Nat.le_of_ble_eq_true rfl) (Nat.le_of_ble_eq_true rfl) (by decide) (fun e he I5 L5 hq => ?_) ?_
  · simp only [List.mem_cons, List.not_mem_nil, or_false] at he
    subst he
    skip
    refine Or.inr ⟨20, rfl, fun z => ?_⟩
    refine k_astore C (lw := [(4, _), (0, _), (1, .int _), (2, .int _), (3, _)]) rfl rfl (Nat.le_of_ble_eq_true rfl) rfl ?_
    refine k_iconst C (x := 1) rfl rfl rfl ?_
    exact k_iret C rfl (Or.inl rfl) (Nat.le_of_ble_eq_true rfl) (Nat.le_of_ble_eq_true rfl) ⟨_, _, _, rfl, rfl, ⟨hq.1.1, hq.1.2.cb⟩, (Or.inr (⟨rfl, (hq.2.1 rfl), (hq.2.2 rfl)⟩))⟩
  rintro x5 I5 L5 ⟨q0, q1, q2, q3, q4, q5, q6, q7, q8, hI5, cI5⟩
  refine k_if_eq C (t := 15) rfl rfl rfl (fun c9 => ?_) (fun c9 => ?_)
  · skip
    refine k_lconst C (x := 0) rfl rfl rfl ?_
    refine s_L C rfl rfl T_o (vin (n := 0) rfl (by rw [N_o]; exact Nat.le_of_ble_eq_true rfl) (by rw [N_o]; exact Nat.le_of_ble_eq_true rfl)) (show (0 : Int32).toNatClampNeg = 0 from by decide) ?_
    refine k_goto C (pc2 := 24) rfl rfl ?_
    refine k_iconst C (x := 0) rfl rfl rfl ?_
    exact k_iret C rfl (Or.inl rfl) (Nat.le_of_ble_eq_true rfl) (Nat.le_of_ble_eq_true rfl) ⟨_, _, _, rfl, rfl, ⟨hI5, cI5.cb⟩, (Or.inl ⟨rfl, x5, (by rw [u2_s]; first | (have e9 : x5 = 0 := c9; rw [e9]; rfl) | (have e9 : x5 = 1 := Int32.toInt_inj.mp (by have z1 : (1 : Int32).toInt = 1 := rfl; have z0 : (0 : Int32).toInt = 0 := rfl; have n9 : (x5).toInt ≠ 0 := fun q => c9 (Int32.toInt_inj.mp (q.trans z0.symm)); omega); rw [e9]; rfl)), q0, q1, q2, q3, q4, q5, q6, q7, q8⟩)⟩
  refine k_lconst C (x := 1) rfl rfl rfl ?_
  refine k_goto C (pc2 := 16) rfl rfl ?_
  refine s_L C rfl rfl T_o (vin (n := 0) rfl (by rw [N_o]; exact Nat.le_of_ble_eq_true rfl) (by rw [N_o]; exact Nat.le_of_ble_eq_true rfl)) (show (0 : Int32).toNatClampNeg = 0 from by decide) ?_
  refine k_goto C (pc2 := 24) rfl rfl ?_
  refine k_iconst C (x := 0) rfl rfl rfl ?_
  exact k_iret C rfl (Or.inl rfl) (Nat.le_of_ble_eq_true rfl) (Nat.le_of_ble_eq_true rfl) ⟨_, _, _, rfl, rfl, ⟨hI5, cI5.cb⟩, (Or.inl ⟨rfl, x5, (by rw [u2_s]; first | (have e9 : x5 = 0 := c9; rw [e9]; rfl) | (have e9 : x5 = 1 := Int32.toInt_inj.mp (by have z1 : (1 : Int32).toInt = 1 := rfl; have z0 : (0 : Int32).toInt = 0 := rfl; have n9 : (x5).toInt ≠ 0 := fun q => c9 (Int32.toInt_inj.mp (q.trans z0.symm)); omega); rw [e9]; rfl)), q0, q1, q2, q3, q4, q5, q6, q7, q8⟩)⟩

theorem u_L_value {d : Nat} {T N : Nat → Nat} {I : IT} {L : LT} {R : RT} {A B : Nat → Prop} {x o : Nat} {n1 n2 n3 : Int32} (hS : SUB B A) (hI : IX A T I) (H_x : hs_LF T N R A B x) (T_o : T o = 21) (N_o : N o = 1) : Ex (d + 8) 324 [.ref x, .int n1, .int n2, .int n3, .ref o] (T, N, I, L, R) 2 12 (pI T N R (fun x9 I9 L9 => IX A T I9 ∧ CB B T [(2, 5), (3, 0)] I I9)) := by
  refine ⟨_, rfl, Nat.le_of_ble_eq_true rfl, fun V C S => ?_⟩
  show V 0 [(0, .ref x), (1, .int n1), (2, .int n2), (3, .int n3), (4, .ref o)] [] (T, N, I, L, R) 0 0
  have T_x := H_x.1
  refine k_aload C rfl rfl rfl ?_
  refine k_iconst C (x := 0) rfl rfl rfl ?_
  refine k_aload_n C rfl rfl rfl ?_
  refine k_iload_n C rfl rfl rfl ?_
  refine k_iload_n C rfl rfl rfl ?_
  refine k_iload_n C rfl rfl rfl ?_
  refine w_VI C (s_X11_value hS hI H_x) rfl rfl rfl rfl rfl ⟨_, rfl, rfl, T_x, Nat.le_of_ble_eq_true rfl⟩ rfl rfl (Nat.le_of_ble_eq_true rfl) (Nat.le_of_ble_eq_true rfl) (Nat.le_of_ble_eq_true rfl) (by decide) (fun e he I7 L7 hq => ?_) ?_
  · simp only [List.mem_cons, List.not_mem_nil, or_false] at he
    subst he
    skip
    refine Or.inr ⟨15, rfl, fun z => ?_⟩
    refine k_astore C (lw := [(5, _), (0, _), (1, .int _), (2, .int _), (3, .int _), (4, _)]) rfl rfl (Nat.le_of_ble_eq_true rfl) rfl ?_
    refine k_iconst C (x := 1) rfl rfl rfl ?_
    exact k_iret C rfl (Or.inl rfl) (Nat.le_of_ble_eq_true rfl) (Nat.le_of_ble_eq_true rfl) ⟨_, _, _, rfl, rfl, hq.1, hq.2.cb⟩
  rintro x7 I7 L7 ⟨hI7, cI7⟩
  refine k_i2l C rfl rfl ?_
  refine s_L C rfl rfl T_o (vin (n := 0) rfl (by rw [N_o]; exact Nat.le_of_ble_eq_true rfl) (by rw [N_o]; exact Nat.le_of_ble_eq_true rfl)) (show (0 : Int32).toNatClampNeg = 0 from by decide) ?_
  refine k_goto C (pc2 := 19) rfl rfl ?_
  refine k_iconst C (x := 0) rfl rfl rfl ?_
  exact k_iret C rfl (Or.inl rfl) (Nat.le_of_ble_eq_true rfl) (Nat.le_of_ble_eq_true rfl) ⟨_, _, _, rfl, rfl, hI7, cI7.cb⟩

theorem u_L_rank {d : Nat} {T N : Nat → Nat} {I : IT} {L : LT} {R : RT} {A B : Nat → Prop} {x o : Nat} {n1 n2 : Int32} (hS : SUB B A) (hI : IX A T I) (H_x : hs_LF T N R A B x) (T_o : T o = 21) (N_o : N o = 1) (b0_n2 : 0 ≤ n2.toInt) (b1_n2 : n2.toInt ≤ 1) : Ex (d + 4) 325 [.ref x, .int n1, .int n2, .ref o] (T, N, I, L, R) 1 6 (pI T N R (fun x9 I9 L9 => IX A T I9 ∧ CB B T [(2, 5)] I I9)) := by
  refine ⟨_, rfl, Nat.le_of_ble_eq_true rfl, fun V C S => ?_⟩
  show V 0 [(0, .ref x), (1, .int n1), (2, .int n2), (3, .ref o)] [] (T, N, I, L, R) 0 0
  have T_x := H_x.1
  refine k_aload_n C rfl rfl rfl ?_
  refine k_iconst C (x := 0) rfl rfl rfl ?_
  refine k_aload_n C rfl rfl rfl ?_
  refine k_iload_n C rfl rfl rfl ?_
  refine k_iload_n C rfl rfl rfl ?_
  refine w_VI C (s_X11_rank hS hI H_x (by omega) (by omega)) rfl rfl rfl rfl rfl ⟨_, rfl, rfl, T_x, Nat.le_of_ble_eq_true rfl⟩ rfl rfl (Nat.le_of_ble_eq_true rfl) (Nat.le_of_ble_eq_true rfl) (Nat.le_of_ble_eq_true rfl) (by decide) (fun e he I5 L5 hq => ?_) ?_
  · simp only [List.mem_cons, List.not_mem_nil, or_false] at he
    subst he
    skip
    refine Or.inr ⟨13, rfl, fun z => ?_⟩
    refine k_astore C (lw := [(4, _), (0, _), (1, .int _), (2, .int _), (3, _)]) rfl rfl (Nat.le_of_ble_eq_true rfl) rfl ?_
    refine k_iconst C (x := 1) rfl rfl rfl ?_
    exact k_iret C rfl (Or.inl rfl) (Nat.le_of_ble_eq_true rfl) (Nat.le_of_ble_eq_true rfl) ⟨_, _, _, rfl, rfl, hq.1, hq.2.cb⟩
  rintro x5 I5 L5 ⟨hI5, cI5⟩
  refine k_i2l C rfl rfl ?_
  refine s_L C rfl rfl T_o (vin (n := 0) rfl (by rw [N_o]; exact Nat.le_of_ble_eq_true rfl) (by rw [N_o]; exact Nat.le_of_ble_eq_true rfl)) (show (0 : Int32).toNatClampNeg = 0 from by decide) ?_
  refine k_goto C (pc2 := 17) rfl rfl ?_
  refine k_iconst C (x := 0) rfl rfl rfl ?_
  exact k_iret C rfl (Or.inl rfl) (Nat.le_of_ble_eq_true rfl) (Nat.le_of_ble_eq_true rfl) ⟨_, _, _, rfl, rfl, hI5, cI5.cb⟩

theorem u_L_stays {d : Nat} {T N : Nat → Nat} {I : IT} {L : LT} {R : RT} {A B : Nat → Prop} {x o : Nat} {n1 n2 n3 : Int32} (hS : SUB B A) (hI : IX A T I) (H_x : hs_LF T N R A B x) (T_o : T o = 21) (N_o : N o = 1) : Ex (d + 8) 326 [.ref x, .int n1, .int n2, .int n3, .ref o] (T, N, I, L, R) 3 18 (pI T N R (fun x9 I9 L9 => IX A T I9 ∧ CB B T [(2, 5), (3, 0)] I I9)) := by
  refine ⟨_, rfl, Nat.le_of_ble_eq_true rfl, fun V C S => ?_⟩
  show V 0 [(0, .ref x), (1, .int n1), (2, .int n2), (3, .int n3), (4, .ref o)] [] (T, N, I, L, R) 0 0
  have T_x := H_x.1
  refine k_aload C rfl rfl rfl ?_
  refine k_iconst C (x := 0) rfl rfl rfl ?_
  refine k_aload_n C rfl rfl rfl ?_
  refine k_iload_n C rfl rfl rfl ?_
  refine k_iload_n C rfl rfl rfl ?_
  refine k_iload_n C rfl rfl rfl ?_
  refine w_VI C (s_X11_stays hS hI H_x) rfl rfl rfl rfl rfl ⟨_, rfl, rfl, T_x, Nat.le_of_ble_eq_true rfl⟩ rfl rfl (Nat.le_of_ble_eq_true rfl) (Nat.le_of_ble_eq_true rfl) (Nat.le_of_ble_eq_true rfl) (by decide) (fun e he I7 L7 hq => ?_) ?_
  · simp only [List.mem_cons, List.not_mem_nil, or_false] at he
    subst he
    skip
    refine Or.inr ⟨22, rfl, fun z => ?_⟩
    refine k_astore C (lw := [(5, _), (0, _), (1, .int _), (2, .int _), (3, .int _), (4, _)]) rfl rfl (Nat.le_of_ble_eq_true rfl) rfl ?_
    refine k_iconst C (x := 1) rfl rfl rfl ?_
    exact k_iret C rfl (Or.inl rfl) (Nat.le_of_ble_eq_true rfl) (Nat.le_of_ble_eq_true rfl) ⟨_, _, _, rfl, rfl, hq.1, hq.2.cb⟩
  rintro x7 I7 L7 ⟨-, -, hI7, cI7⟩
  refine k_if_eq C (t := 17) rfl rfl rfl (fun c9 => ?_) (fun c9 => ?_)
  · skip
    refine k_lconst C (x := 0) rfl rfl rfl ?_
    refine s_L C rfl rfl T_o (vin (n := 0) rfl (by rw [N_o]; exact Nat.le_of_ble_eq_true rfl) (by rw [N_o]; exact Nat.le_of_ble_eq_true rfl)) (show (0 : Int32).toNatClampNeg = 0 from by decide) ?_
    refine k_goto C (pc2 := 26) rfl rfl ?_
    refine k_iconst C (x := 0) rfl rfl rfl ?_
    exact k_iret C rfl (Or.inl rfl) (Nat.le_of_ble_eq_true rfl) (Nat.le_of_ble_eq_true rfl) ⟨_, _, _, rfl, rfl, hI7, cI7.cb⟩
  refine k_lconst C (x := 1) rfl rfl rfl ?_
  refine k_goto C (pc2 := 18) rfl rfl ?_
  refine s_L C rfl rfl T_o (vin (n := 0) rfl (by rw [N_o]; exact Nat.le_of_ble_eq_true rfl) (by rw [N_o]; exact Nat.le_of_ble_eq_true rfl)) (show (0 : Int32).toNatClampNeg = 0 from by decide) ?_
  refine k_goto C (pc2 := 26) rfl rfl ?_
  refine k_iconst C (x := 0) rfl rfl rfl ?_
  exact k_iret C rfl (Or.inl rfl) (Nat.le_of_ble_eq_true rfl) (Nat.le_of_ble_eq_true rfl) ⟨_, _, _, rfl, rfl, hI7, cI7.cb⟩

theorem u_L_agree {d : Nat} {T N : Nat → Nat} {I : IT} {L : LT} {R : RT} {A B : Nat → Prop} {x o : Nat} {n1 n2 n3 : Int32} (hS : SUB B A) (hI : IX A T I) (H_x : hs_LF T N R A B x) (T_o : T o = 21) (N_o : N o = 1) : Ex (d + 9) 327 [.ref x, .int n1, .int n2, .int n3, .ref o] (T, N, I, L, R) 3 18 (pI T N R (fun x9 I9 L9 => IX A T I9 ∧ CB B T [(2, 5), (3, 0)] I I9)) := by
  refine ⟨_, rfl, Nat.le_of_ble_eq_true rfl, fun V C S => ?_⟩
  show V 0 [(0, .ref x), (1, .int n1), (2, .int n2), (3, .int n3), (4, .ref o)] [] (T, N, I, L, R) 0 0
  have T_x := H_x.1
  refine k_aload C rfl rfl rfl ?_
  refine k_iconst C (x := 0) rfl rfl rfl ?_
  refine k_aload_n C rfl rfl rfl ?_
  refine k_iload_n C rfl rfl rfl ?_
  refine k_iload_n C rfl rfl rfl ?_
  refine k_iload_n C rfl rfl rfl ?_
  refine w_VI C (s_X11_agree hS hI H_x) rfl rfl rfl rfl rfl ⟨_, rfl, rfl, T_x, Nat.le_of_ble_eq_true rfl⟩ rfl rfl (Nat.le_of_ble_eq_true rfl) (Nat.le_of_ble_eq_true rfl) (Nat.le_of_ble_eq_true rfl) (by decide) (fun e he I7 L7 hq => ?_) ?_
  · simp only [List.mem_cons, List.not_mem_nil, or_false] at he
    rcases he with rfl | rfl
    · skip
      refine Or.inr ⟨19, rfl, fun z => ?_⟩
      refine k_astore C (lw := [(5, _), (0, _), (1, .int _), (2, .int _), (3, .int _), (4, _)]) rfl rfl (Nat.le_of_ble_eq_true rfl) rfl ?_
      refine k_iconst C (x := 2) rfl rfl rfl ?_
      exact k_iret C rfl (Or.inl rfl) (Nat.le_of_ble_eq_true rfl) (Nat.le_of_ble_eq_true rfl) ⟨_, _, _, rfl, rfl, hq.1, hq.2.cb⟩
    · skip
      refine Or.inr ⟨15, rfl, fun z => ?_⟩
      refine k_astore C (lw := [(5, _), (0, _), (1, .int _), (2, .int _), (3, .int _), (4, _)]) rfl rfl (Nat.le_of_ble_eq_true rfl) rfl ?_
      refine k_iconst C (x := 1) rfl rfl rfl ?_
      exact k_iret C rfl (Or.inl rfl) (Nat.le_of_ble_eq_true rfl) (Nat.le_of_ble_eq_true rfl) ⟨_, _, _, rfl, rfl, hq.1, hq.2.cb⟩
  rintro x7 I7 L7 ⟨-, -, hI7, cI7⟩
  refine k_i2l C rfl rfl ?_
  refine s_L C rfl rfl T_o (vin (n := 0) rfl (by rw [N_o]; exact Nat.le_of_ble_eq_true rfl) (by rw [N_o]; exact Nat.le_of_ble_eq_true rfl)) (show (0 : Int32).toNatClampNeg = 0 from by decide) ?_
  refine k_goto C (pc2 := 23) rfl rfl ?_
  refine k_iconst C (x := 0) rfl rfl rfl ?_
  exact k_iret C rfl (Or.inl rfl) (Nat.le_of_ble_eq_true rfl) (Nat.le_of_ble_eq_true rfl) ⟨_, _, _, rfl, rfl, hI7, cI7.cb⟩

theorem v_L_span {d : Nat} {T N : Nat → Nat} {I : IT} {L : LT} {R : RT} {A B : Nat → Prop} {x nw kp rd al m w im o cb tp : Nat} {n1 n2 n3 : Int32} (E : LX T N R A B x nw kp rd al m w im o cb tp) (hl : LI T R A m I) (h : RY R x nw kp rd cb m w im tp I) : Ex (d + 9) 329 [.ref x, .int n1, .int n2, .int n3, .ref o] (T, N, I, L, R) 1 6 (pI T N R (fun x9 I9 L9 => (IX A T I9 ∧ CB (BS T R A) T [(2, 5), (3, 0), (6, 6), (6, 7), (6, 8)] I I9) ∧ ((x9 = 0 ∧ ∃ r : Int32, L9 o 0 = r.toInt64 ∧ (¬ (n2.toInt < 1 ∨ 8 < n2.toInt)) ∧ (∃ y, SPQ y (SPF (I nw 0).toInt n3 n2.toInt n1.toInt (I nw 3).toInt (SL5 R I nw) 8) ∧ (y.toInt = -1 ∧ r.toInt = -1 ∨ y.toInt ≠ -1 ∧ r = BTC y))) ∨ (x9 = 1 ∧ (n2.toInt < 1 ∨ 8 < n2.toInt))))) := by
  refine ⟨_, rfl, Nat.le_of_ble_eq_true rfl, fun V C S => ?_⟩
  show V 0 [(0, .ref x), (1, .int n1), (2, .int n2), (3, .int n3), (4, .ref o)] [] (T, N, I, L, R) 0 0
  have T_x := E.1.t.1.1
  obtain ⟨T_o, N_o, A_o⟩ := E.1.2.2.1
  refine k_aload C rfl rfl rfl ?_
  refine k_iconst C (x := 0) rfl rfl rfl ?_
  refine k_aload_n C rfl rfl rfl ?_
  refine k_iload_n C rfl rfl rfl ?_
  refine k_iload_n C rfl rfl rfl ?_
  refine k_iload_n C rfl rfl rfl ?_
  refine w2_VI C (kc_span E hl h) rfl rfl rfl rfl rfl ⟨_, rfl, rfl, T_x, Nat.le_of_ble_eq_true rfl⟩ rfl rfl (Nat.le_of_ble_eq_true rfl) (Nat.le_of_ble_eq_true rfl) (Nat.le_of_ble_eq_true rfl) (by decide) (fun e he I7 L7 hq => ?_) ?_
  · simp only [List.mem_cons, List.not_mem_nil, or_false] at he
    subst he
    skip
    refine Or.inr ⟨15, rfl, fun z => ?_⟩
    refine k_astore C (lw := [(5, _), (0, _), (1, .int _), (2, .int _), (3, .int _), (4, _)]) rfl rfl (Nat.le_of_ble_eq_true rfl) rfl ?_
    refine k_iconst C (x := 1) rfl rfl rfl ?_
    exact k_iret C rfl (Or.inl rfl) (Nat.le_of_ble_eq_true rfl) (Nat.le_of_ble_eq_true rfl) ⟨_, _, _, rfl, rfl, ⟨hq.1.1, hq.1.2.cb⟩, (Or.inr (⟨rfl, (hq.2 rfl)⟩))⟩
  rintro x7 I7 L7 ⟨q0, q1, hI7, cI7⟩
  refine k_i2l C rfl rfl ?_
  refine s_L C rfl rfl T_o (vin (n := 0) rfl (by rw [N_o]; exact Nat.le_of_ble_eq_true rfl) (by rw [N_o]; exact Nat.le_of_ble_eq_true rfl)) (show (0 : Int32).toNatClampNeg = 0 from by decide) ?_
  refine k_goto C (pc2 := 19) rfl rfl ?_
  refine k_iconst C (x := 0) rfl rfl rfl ?_
  exact k_iret C rfl (Or.inl rfl) (Nat.le_of_ble_eq_true rfl) (Nat.le_of_ble_eq_true rfl) ⟨_, _, _, rfl, rfl, ⟨hI7, cI7.cb⟩, (Or.inl ⟨rfl, x7, u2_s, q0, q1⟩)⟩

theorem u_L_basis {d : Nat} {T N : Nat → Nat} {I : IT} {L : LT} {R : RT} {A B : Nat → Prop} {x o : Nat} {n1 n2 n3 : Int32} (hS : SUB B A) (hI : IX A T I) (H_x : hs_LF T N R A B x) (T_o : T o = 21) (N_o : N o = 1) : Ex (d + 9) 330 [.ref x, .int n1, .int n2, .int n3, .ref o] (T, N, I, L, R) 1 6 (pI T N R (fun x9 I9 L9 => IX A T I9 ∧ CB B T [(2, 5), (3, 0), (6, 6), (6, 7), (6, 8)] I I9)) := by
  refine ⟨_, rfl, Nat.le_of_ble_eq_true rfl, fun V C S => ?_⟩
  show V 0 [(0, .ref x), (1, .int n1), (2, .int n2), (3, .int n3), (4, .ref o)] [] (T, N, I, L, R) 0 0
  have T_x := H_x.1
  refine k_aload C rfl rfl rfl ?_
  refine k_iconst C (x := 0) rfl rfl rfl ?_
  refine k_aload_n C rfl rfl rfl ?_
  refine k_iload_n C rfl rfl rfl ?_
  refine k_iload_n C rfl rfl rfl ?_
  refine k_iload_n C rfl rfl rfl ?_
  refine w_VI C (s_X11_basis hS hI H_x) rfl rfl rfl rfl rfl ⟨_, rfl, rfl, T_x, Nat.le_of_ble_eq_true rfl⟩ rfl rfl (Nat.le_of_ble_eq_true rfl) (Nat.le_of_ble_eq_true rfl) (Nat.le_of_ble_eq_true rfl) (by decide) (fun e he I7 L7 hq => ?_) ?_
  · simp only [List.mem_cons, List.not_mem_nil, or_false] at he
    subst he
    skip
    refine Or.inr ⟨15, rfl, fun z => ?_⟩
    refine k_astore C (lw := [(5, _), (0, _), (1, .int _), (2, .int _), (3, .int _), (4, _)]) rfl rfl (Nat.le_of_ble_eq_true rfl) rfl ?_
    refine k_iconst C (x := 1) rfl rfl rfl ?_
    exact k_iret C rfl (Or.inl rfl) (Nat.le_of_ble_eq_true rfl) (Nat.le_of_ble_eq_true rfl) ⟨_, _, _, rfl, rfl, hq.1, hq.2.cb⟩
  rintro x7 I7 L7 ⟨hI7, cI7⟩
  refine k_i2l C rfl rfl ?_
  refine s_L C rfl rfl T_o (vin (n := 0) rfl (by rw [N_o]; exact Nat.le_of_ble_eq_true rfl) (by rw [N_o]; exact Nat.le_of_ble_eq_true rfl)) (show (0 : Int32).toNatClampNeg = 0 from by decide) ?_
  refine k_goto C (pc2 := 19) rfl rfl ?_
  refine k_iconst C (x := 0) rfl rfl rfl ?_
  exact k_iret C rfl (Or.inl rfl) (Nat.le_of_ble_eq_true rfl) (Nat.le_of_ble_eq_true rfl) ⟨_, _, _, rfl, rfl, hI7, cI7.cb⟩

theorem u_L_kind {d : Nat} {T N : Nat → Nat} {I : IT} {L : LT} {R : RT} {A B : Nat → Prop} {x o : Nat} {n1 : Int32} (hS : SUB B A) (hI : IX A T I) (H_x : hs_LF T N R A B x) (T_o : T o = 21) (N_o : N o = 1) : Ex (d + 6) 331 [.ref x, .int n1, .ref o] (T, N, I, L, R) 1 6 (pI T N R (fun x9 I9 L9 => IX A T I9 ∧ CB B T [(7, 0), (7, 1)] I I9)) := by
  refine ⟨_, rfl, Nat.le_of_ble_eq_true rfl, fun V C S => ?_⟩
  show V 0 [(0, .ref x), (1, .int n1), (2, .ref o)] [] (T, N, I, L, R) 0 0
  have T_x := H_x.1
  refine k_aload_n C rfl rfl rfl ?_
  refine k_iconst C (x := 0) rfl rfl rfl ?_
  refine k_aload_n C rfl rfl rfl ?_
  refine k_iload_n C rfl rfl rfl ?_
  refine w_VI C (s_X11_kind hS hI H_x) rfl rfl rfl rfl rfl ⟨_, rfl, rfl, T_x, Nat.le_of_ble_eq_true rfl⟩ rfl rfl (Nat.le_of_ble_eq_true rfl) (Nat.le_of_ble_eq_true rfl) (Nat.le_of_ble_eq_true rfl) (by decide) (fun e he I4 L4 hq => ?_) ?_
  · simp only [List.mem_cons, List.not_mem_nil, or_false] at he
    subst he
    skip
    refine Or.inr ⟨12, rfl, fun z => ?_⟩
    refine k_astore_n C (lw := [(3, _), (0, _), (1, .int _), (2, _)]) rfl rfl (Nat.le_of_ble_eq_true rfl) rfl ?_
    refine k_iconst C (x := 1) rfl rfl rfl ?_
    exact k_iret C rfl (Or.inl rfl) (Nat.le_of_ble_eq_true rfl) (Nat.le_of_ble_eq_true rfl) ⟨_, _, _, rfl, rfl, hq.1, hq.2.cb⟩
  rintro x4 I4 L4 ⟨hI4, cI4⟩
  refine k_i2l C rfl rfl ?_
  refine s_L C rfl rfl T_o (vin (n := 0) rfl (by rw [N_o]; exact Nat.le_of_ble_eq_true rfl) (by rw [N_o]; exact Nat.le_of_ble_eq_true rfl)) (show (0 : Int32).toNatClampNeg = 0 from by decide) ?_
  refine k_goto C (pc2 := 15) rfl rfl ?_
  refine k_iconst C (x := 0) rfl rfl rfl ?_
  exact k_iret C rfl (Or.inl rfl) (Nat.le_of_ble_eq_true rfl) (Nat.le_of_ble_eq_true rfl) ⟨_, _, _, rfl, rfl, hI4, cI4.cb⟩

theorem u_L_orbit {d : Nat} {T N : Nat → Nat} {I : IT} {L : LT} {R : RT} {A B : Nat → Prop} {x o : Nat} {n1 : Int32} (hS : SUB B A) (hI : IX A T I) (H_x : hs_LF T N R A B x) (T_o : T o = 21) (N_o : N o = 1) : Ex (d + 6) 332 [.ref x, .int n1, .ref o] (T, N, I, L, R) 1 6 (pI T N R (fun x9 I9 L9 => IX A T I9 ∧ CB B T [(7, 0), (7, 1)] I I9)) := by
  refine ⟨_, rfl, Nat.le_of_ble_eq_true rfl, fun V C S => ?_⟩
  show V 0 [(0, .ref x), (1, .int n1), (2, .ref o)] [] (T, N, I, L, R) 0 0
  have T_x := H_x.1
  refine k_aload_n C rfl rfl rfl ?_
  refine k_iconst C (x := 0) rfl rfl rfl ?_
  refine k_aload_n C rfl rfl rfl ?_
  refine k_iload_n C rfl rfl rfl ?_
  refine w_VI C (s_X11_orbit hS hI H_x) rfl rfl rfl rfl rfl ⟨_, rfl, rfl, T_x, Nat.le_of_ble_eq_true rfl⟩ rfl rfl (Nat.le_of_ble_eq_true rfl) (Nat.le_of_ble_eq_true rfl) (Nat.le_of_ble_eq_true rfl) (by decide) (fun e he I4 L4 hq => ?_) ?_
  · simp only [List.mem_cons, List.not_mem_nil, or_false] at he
    subst he
    skip
    refine Or.inr ⟨12, rfl, fun z => ?_⟩
    refine k_astore_n C (lw := [(3, _), (0, _), (1, .int _), (2, _)]) rfl rfl (Nat.le_of_ble_eq_true rfl) rfl ?_
    refine k_iconst C (x := 1) rfl rfl rfl ?_
    exact k_iret C rfl (Or.inl rfl) (Nat.le_of_ble_eq_true rfl) (Nat.le_of_ble_eq_true rfl) ⟨_, _, _, rfl, rfl, hq.1, hq.2.cb⟩
  rintro x4 I4 L4 ⟨hI4, cI4⟩
  refine k_i2l C rfl rfl ?_
  refine s_L C rfl rfl T_o (vin (n := 0) rfl (by rw [N_o]; exact Nat.le_of_ble_eq_true rfl) (by rw [N_o]; exact Nat.le_of_ble_eq_true rfl)) (show (0 : Int32).toNatClampNeg = 0 from by decide) ?_
  refine k_goto C (pc2 := 15) rfl rfl ?_
  refine k_iconst C (x := 0) rfl rfl rfl ?_
  exact k_iret C rfl (Or.inl rfl) (Nat.le_of_ble_eq_true rfl) (Nat.le_of_ble_eq_true rfl) ⟨_, _, _, rfl, rfl, hI4, cI4.cb⟩

theorem v_L_join {d : Nat} {T N : Nat → Nat} {I : IT} {L : LT} {R : RT} {A B : Nat → Prop} {x nw kp rd al m w im o cb tp : Nat} {n1 n2 : Int32} (E : LX T N R A B x nw kp rd al m w im o cb tp) (hl : LI T R A m I) (h : RY R x nw kp rd cb m w im tp I) : Ex (d + 4) 333 [.ref x, .int n1, .int n2, .ref o] (T, N, I, L, R) 3 18 (pI T N R (fun x9 I9 L9 => (IX A T I9 ∧ CB (sTb R nw (I nw 2).toNatClampNeg) T [(9, 2), (10, 0), (10, 1), (10, 2), (10, 3)] I I9) ∧ ((x9 = 0 ∧ ∃ r : Int32, L9 o 0 = r.toInt64 ∧ (¬ ((n1.toInt < 0 ∨ (I nw 2).toInt ≤ n1.toInt ∨ 8 ≤ n1.toInt) ∨ (n2.toInt < 0 ∨ (I nw 2).toInt ≤ n2.toInt ∨ 8 ≤ n2.toInt)) ∧ (I nw 2).toInt < 8 ∧ r.toInt = (I nw 2).toInt) ∧ ((I9 nw 2).toInt = (I nw 2).toInt + 1) ∧ ((I9 (TA R nw (I nw 2).toNatClampNeg) 0).toInt = ((I (TA R nw n1.toNatClampNeg) 0).toInt * (I (TA R nw n2.toNatClampNeg) 0).toInt + (I (TA R nw n1.toNatClampNeg) 1).toInt * (I (TA R nw n2.toNatClampNeg) 2).toInt) % (I nw 0).toInt) ∧ ((I9 (TA R nw (I nw 2).toNatClampNeg) 1).toInt = ((I (TA R nw n1.toNatClampNeg) 0).toInt * (I (TA R nw n2.toNatClampNeg) 1).toInt + (I (TA R nw n1.toNatClampNeg) 1).toInt * (I (TA R nw n2.toNatClampNeg) 3).toInt) % (I nw 0).toInt) ∧ ((I9 (TA R nw (I nw 2).toNatClampNeg) 2).toInt = ((I (TA R nw n1.toNatClampNeg) 2).toInt * (I (TA R nw n2.toNatClampNeg) 0).toInt + (I (TA R nw n1.toNatClampNeg) 3).toInt * (I (TA R nw n2.toNatClampNeg) 2).toInt) % (I nw 0).toInt) ∧ ((I9 (TA R nw (I nw 2).toNatClampNeg) 3).toInt = ((I (TA R nw n1.toNatClampNeg) 2).toInt * (I (TA R nw n2.toNatClampNeg) 1).toInt + (I (TA R nw n1.toNatClampNeg) 3).toInt * (I (TA R nw n2.toNatClampNeg) 3).toInt) % (I nw 0).toInt)) ∨ (x9 = 1 ∧ ((n1.toInt < 0 ∨ (I nw 2).toInt ≤ n1.toInt ∨ 8 ≤ n1.toInt) ∨ (n2.toInt < 0 ∨ (I nw 2).toInt ≤ n2.toInt ∨ 8 ≤ n2.toInt)) ∧ (∀ a k, I9 a k = I a k)) ∨ (x9 = 2 ∧ (¬ ((n1.toInt < 0 ∨ (I nw 2).toInt ≤ n1.toInt ∨ 8 ≤ n1.toInt) ∨ (n2.toInt < 0 ∨ (I nw 2).toInt ≤ n2.toInt ∨ 8 ≤ n2.toInt)) ∧ 8 ≤ (I nw 2).toInt) ∧ (∀ a k, I9 a k = I a k))))) := by
  refine ⟨_, rfl, Nat.le_of_ble_eq_true rfl, fun V C S => ?_⟩
  show V 0 [(0, .ref x), (1, .int n1), (2, .int n2), (3, .ref o)] [] (T, N, I, L, R) 0 0
  have T_x := E.1.t.1.1
  obtain ⟨T_o, N_o, A_o⟩ := E.1.2.2.1
  refine k_aload_n C rfl rfl rfl ?_
  refine k_iconst C (x := 0) rfl rfl rfl ?_
  refine k_aload_n C rfl rfl rfl ?_
  refine k_iload_n C rfl rfl rfl ?_
  refine k_iload_n C rfl rfl rfl ?_
  refine w2_VI C (kc_join E hl h) rfl rfl rfl rfl rfl ⟨_, rfl, rfl, T_x, Nat.le_of_ble_eq_true rfl⟩ rfl rfl (Nat.le_of_ble_eq_true rfl) (Nat.le_of_ble_eq_true rfl) (Nat.le_of_ble_eq_true rfl) (by decide) (fun e he I5 L5 hq => ?_) ?_
  · simp only [List.mem_cons, List.not_mem_nil, or_false] at he
    rcases he with rfl | rfl
    · skip
      refine Or.inr ⟨17, rfl, fun z => ?_⟩
      refine k_astore C (lw := [(4, _), (0, _), (1, .int _), (2, .int _), (3, _)]) rfl rfl (Nat.le_of_ble_eq_true rfl) rfl ?_
      refine k_iconst C (x := 2) rfl rfl rfl ?_
      exact k_iret C rfl (Or.inl rfl) (Nat.le_of_ble_eq_true rfl) (Nat.le_of_ble_eq_true rfl) ⟨_, _, _, rfl, rfl, ⟨hq.1.1, hq.1.2.cb⟩, (Or.inr (Or.inr (⟨rfl, (hq.2.1 rfl), (hq.2.2.1 rfl)⟩)))⟩
    · skip
      refine Or.inr ⟨13, rfl, fun z => ?_⟩
      refine k_astore C (lw := [(4, _), (0, _), (1, .int _), (2, .int _), (3, _)]) rfl rfl (Nat.le_of_ble_eq_true rfl) rfl ?_
      refine k_iconst C (x := 1) rfl rfl rfl ?_
      exact k_iret C rfl (Or.inl rfl) (Nat.le_of_ble_eq_true rfl) (Nat.le_of_ble_eq_true rfl) ⟨_, _, _, rfl, rfl, ⟨hq.1.1, hq.1.2.cb⟩, (Or.inr (Or.inl ⟨rfl, (hq.2.2.2.1 rfl), (hq.2.2.2.2 rfl)⟩))⟩
  rintro x5 I5 L5 ⟨q0, q1, q2, q3, q4, q5, hI5, cI5⟩
  refine k_i2l C rfl rfl ?_
  refine s_L C rfl rfl T_o (vin (n := 0) rfl (by rw [N_o]; exact Nat.le_of_ble_eq_true rfl) (by rw [N_o]; exact Nat.le_of_ble_eq_true rfl)) (show (0 : Int32).toNatClampNeg = 0 from by decide) ?_
  refine k_goto C (pc2 := 21) rfl rfl ?_
  refine k_iconst C (x := 0) rfl rfl rfl ?_
  exact k_iret C rfl (Or.inl rfl) (Nat.le_of_ble_eq_true rfl) (Nat.le_of_ble_eq_true rfl) ⟨_, _, _, rfl, rfl, ⟨hI5, cI5.cb⟩, (Or.inl ⟨rfl, x5, u2_s, q0, q1, q2, q3, q4, q5⟩)⟩

theorem v_L_turn {d : Nat} {T N : Nat → Nat} {I : IT} {L : LT} {R : RT} {A B : Nat → Prop} {x nw kp rd al m w im o cb tp : Nat} {n1 : Int32} (E : LX T N R A B x nw kp rd al m w im o cb tp) (hl : LI T R A m I) (h : RY R x nw kp rd cb m w im tp I) : Ex (d + 5) 334 [.ref x, .int n1, .ref o] (T, N, I, L, R) 2 12 (pI T N R (fun x9 I9 L9 => (IX A T I9 ∧ CB (sTb R nw (I nw 2).toNatClampNeg) T [(9, 2), (10, 0), (10, 1), (10, 2), (10, 3)] I I9) ∧ ((x9 = 0 ∧ ∃ r : Int32, L9 o 0 = r.toInt64 ∧ (¬ (n1.toInt < 0 ∨ (I nw 2).toInt ≤ n1.toInt ∨ 8 ≤ n1.toInt) ∧ (I nw 2).toInt < 8 ∧ r.toInt = (I nw 2).toInt) ∧ ((I9 nw 2).toInt = (I nw 2).toInt + 1) ∧ (TBC (I9 (TA R nw (I nw 2).toNatClampNeg) 0).toInt (I9 (TA R nw (I nw 2).toNatClampNeg) 1).toInt (I9 (TA R nw (I nw 2).toNatClampNeg) 2).toInt (I9 (TA R nw (I nw 2).toNatClampNeg) 3).toInt (I (TA R nw n1.toNatClampNeg) 0).toInt (I (TA R nw n1.toNatClampNeg) 1).toInt (I (TA R nw n1.toNatClampNeg) 2).toInt (I (TA R nw n1.toNatClampNeg) 3).toInt (I nw 0).toInt)) ∨ (x9 = 1 ∧ ((n1.toInt < 0 ∨ (I nw 2).toInt ≤ n1.toInt ∨ 8 ≤ n1.toInt)) ∧ (∀ a k, I9 a k = I a k)) ∨ (x9 = 2 ∧ (¬ (n1.toInt < 0 ∨ (I nw 2).toInt ≤ n1.toInt ∨ 8 ≤ n1.toInt) ∧ 8 ≤ (I nw 2).toInt) ∧ (∀ a k, I9 a k = I a k))))) := by
  refine ⟨_, rfl, Nat.le_of_ble_eq_true rfl, fun V C S => ?_⟩
  show V 0 [(0, .ref x), (1, .int n1), (2, .ref o)] [] (T, N, I, L, R) 0 0
  have T_x := E.1.t.1.1
  obtain ⟨T_o, N_o, A_o⟩ := E.1.2.2.1
  refine k_aload_n C rfl rfl rfl ?_
  refine k_iconst C (x := 0) rfl rfl rfl ?_
  refine k_aload_n C rfl rfl rfl ?_
  refine k_iload_n C rfl rfl rfl ?_
  refine w2_VI C (kc_turn E hl h) rfl rfl rfl rfl rfl ⟨_, rfl, rfl, T_x, Nat.le_of_ble_eq_true rfl⟩ rfl rfl (Nat.le_of_ble_eq_true rfl) (Nat.le_of_ble_eq_true rfl) (Nat.le_of_ble_eq_true rfl) (by decide) (fun e he I4 L4 hq => ?_) ?_
  · simp only [List.mem_cons, List.not_mem_nil, or_false] at he
    rcases he with rfl | rfl
    · skip
      refine Or.inr ⟨15, rfl, fun z => ?_⟩
      refine k_astore_n C (lw := [(3, _), (0, _), (1, .int _), (2, _)]) rfl rfl (Nat.le_of_ble_eq_true rfl) rfl ?_
      refine k_iconst C (x := 2) rfl rfl rfl ?_
      exact k_iret C rfl (Or.inl rfl) (Nat.le_of_ble_eq_true rfl) (Nat.le_of_ble_eq_true rfl) ⟨_, _, _, rfl, rfl, ⟨hq.1.1, hq.1.2.cb⟩, (Or.inr (Or.inr (⟨rfl, (hq.2.1 rfl), (hq.2.2.1 rfl)⟩)))⟩
    · skip
      refine Or.inr ⟨12, rfl, fun z => ?_⟩
      refine k_astore_n C (lw := [(3, _), (0, _), (1, .int _), (2, _)]) rfl rfl (Nat.le_of_ble_eq_true rfl) rfl ?_
      refine k_iconst C (x := 1) rfl rfl rfl ?_
      exact k_iret C rfl (Or.inl rfl) (Nat.le_of_ble_eq_true rfl) (Nat.le_of_ble_eq_true rfl) ⟨_, _, _, rfl, rfl, ⟨hq.1.1, hq.1.2.cb⟩, (Or.inr (Or.inl ⟨rfl, (hq.2.2.2.1 rfl), (hq.2.2.2.2 rfl)⟩))⟩
  rintro x4 I4 L4 ⟨q0, q1, q2, hI4, cI4⟩
  refine k_i2l C rfl rfl ?_
  refine s_L C rfl rfl T_o (vin (n := 0) rfl (by rw [N_o]; exact Nat.le_of_ble_eq_true rfl) (by rw [N_o]; exact Nat.le_of_ble_eq_true rfl)) (show (0 : Int32).toNatClampNeg = 0 from by decide) ?_
  refine k_goto C (pc2 := 18) rfl rfl ?_
  refine k_iconst C (x := 0) rfl rfl rfl ?_
  exact k_iret C rfl (Or.inl rfl) (Nat.le_of_ble_eq_true rfl) (Nat.le_of_ble_eq_true rfl) ⟨_, _, _, rfl, rfl, ⟨hI4, cI4.cb⟩, (Or.inl ⟨rfl, x4, u2_s, q0, q1, q2⟩)⟩

theorem u_L_told {d : Nat} {T N : Nat → Nat} {I : IT} {L : LT} {R : RT} {A B : Nat → Prop} {x o : Nat} {n1 n2 : Int32} (hS : SUB B A) (hI : IX A T I) (H_x : hs_LF T N R A B x) (T_o : T o = 21) (N_o : N o = 1) : Ex (d + 4) 335 [.ref x, .int n1, .int n2, .ref o] (T, N, I, L, R) 1 6 (pI T N R (fun x9 I9 L9 => I9 = I)) := by
  refine ⟨_, rfl, Nat.le_of_ble_eq_true rfl, fun V C S => ?_⟩
  show V 0 [(0, .ref x), (1, .int n1), (2, .int n2), (3, .ref o)] [] (T, N, I, L, R) 0 0
  have T_x := H_x.1
  refine k_aload_n C rfl rfl rfl ?_
  refine k_iconst C (x := 0) rfl rfl rfl ?_
  refine k_aload_n C rfl rfl rfl ?_
  refine k_iload_n C rfl rfl rfl ?_
  refine k_iload_n C rfl rfl rfl ?_
  refine w_VI C (s_X11_told hS hI H_x) rfl rfl rfl rfl rfl ⟨_, rfl, rfl, T_x, Nat.le_of_ble_eq_true rfl⟩ rfl rfl (Nat.le_of_ble_eq_true rfl) (Nat.le_of_ble_eq_true rfl) (Nat.le_of_ble_eq_true rfl) (by decide) (fun e he I5 L5 hq => ?_) ?_
  · simp only [List.mem_cons, List.not_mem_nil, or_false] at he
    obtain ⟨rfl, rfl⟩ := hq
    subst he
    skip
    refine Or.inr ⟨13, rfl, fun z => ?_⟩
    refine k_astore C (lw := [(4, _), (0, _), (1, .int _), (2, .int _), (3, _)]) rfl rfl (Nat.le_of_ble_eq_true rfl) rfl ?_
    refine k_iconst C (x := 1) rfl rfl rfl ?_
    exact k_iret C rfl (Or.inl rfl) (Nat.le_of_ble_eq_true rfl) (Nat.le_of_ble_eq_true rfl) ⟨_, _, _, rfl, rfl, rfl⟩
  rintro x5 _ _ ⟨rfl, rfl⟩
  refine k_i2l C rfl rfl ?_
  refine s_L C rfl rfl T_o (vin (n := 0) rfl (by rw [N_o]; exact Nat.le_of_ble_eq_true rfl) (by rw [N_o]; exact Nat.le_of_ble_eq_true rfl)) (show (0 : Int32).toNatClampNeg = 0 from by decide) ?_
  refine k_goto C (pc2 := 17) rfl rfl ?_
  refine k_iconst C (x := 0) rfl rfl rfl ?_
  exact k_iret C rfl (Or.inl rfl) (Nat.le_of_ble_eq_true rfl) (Nat.le_of_ble_eq_true rfl) ⟨_, _, _, rfl, rfl, rfl⟩

theorem u_L_quotient {d : Nat} {T N : Nat → Nat} {I : IT} {L : LT} {R : RT} {A B : Nat → Prop} {x o : Nat} {n1 n2 n3 : Int32} (hS : SUB B A) (hI : IX A T I) (H_x : hs_LF T N R A B x) (T_o : T o = 21) (N_o : N o = 1) : Ex (d + 6) 336 [.ref x, .int n1, .int n2, .int n3, .ref o] (T, N, I, L, R) 2 12 (pI T N R (fun x9 I9 L9 => IX A T I9 ∧ CB B T [(3, 0)] I I9)) := by
  refine ⟨_, rfl, Nat.le_of_ble_eq_true rfl, fun V C S => ?_⟩
  show V 0 [(0, .ref x), (1, .int n1), (2, .int n2), (3, .int n3), (4, .ref o)] [] (T, N, I, L, R) 0 0
  have T_x := H_x.1
  refine k_aload C rfl rfl rfl ?_
  refine k_iconst C (x := 0) rfl rfl rfl ?_
  refine k_aload_n C rfl rfl rfl ?_
  refine k_iload_n C rfl rfl rfl ?_
  refine k_iload_n C rfl rfl rfl ?_
  refine k_iload_n C rfl rfl rfl ?_
  refine w_VI C (s_X11_quotient hS hI H_x) rfl rfl rfl rfl rfl ⟨_, rfl, rfl, T_x, Nat.le_of_ble_eq_true rfl⟩ rfl rfl (Nat.le_of_ble_eq_true rfl) (Nat.le_of_ble_eq_true rfl) (Nat.le_of_ble_eq_true rfl) (by decide) (fun e he I7 L7 hq => ?_) ?_
  · simp only [List.mem_cons, List.not_mem_nil, or_false] at he
    subst he
    skip
    refine Or.inr ⟨15, rfl, fun z => ?_⟩
    refine k_astore C (lw := [(5, _), (0, _), (1, .int _), (2, .int _), (3, .int _), (4, _)]) rfl rfl (Nat.le_of_ble_eq_true rfl) rfl ?_
    refine k_iconst C (x := 1) rfl rfl rfl ?_
    exact k_iret C rfl (Or.inl rfl) (Nat.le_of_ble_eq_true rfl) (Nat.le_of_ble_eq_true rfl) ⟨_, _, _, rfl, rfl, hq.1, hq.2.cb⟩
  rintro x7 I7 L7 ⟨hI7, cI7⟩
  refine k_i2l C rfl rfl ?_
  refine s_L C rfl rfl T_o (vin (n := 0) rfl (by rw [N_o]; exact Nat.le_of_ble_eq_true rfl) (by rw [N_o]; exact Nat.le_of_ble_eq_true rfl)) (show (0 : Int32).toNatClampNeg = 0 from by decide) ?_
  refine k_goto C (pc2 := 19) rfl rfl ?_
  refine k_iconst C (x := 0) rfl rfl rfl ?_
  exact k_iret C rfl (Or.inl rfl) (Nat.le_of_ble_eq_true rfl) (Nat.le_of_ble_eq_true rfl) ⟨_, _, _, rfl, rfl, hI7, cI7.cb⟩

theorem u_L_plain {d : Nat} {T N : Nat → Nat} {I : IT} {L : LT} {R : RT} {A B : Nat → Prop} {x o : Nat} {n1 : Int32} (hS : SUB B A) (hI : IX A T I) (H_x : hs_LF T N R A B x) (T_o : T o = 21) (N_o : N o = 1) : Ex (d + 7) 337 [.ref x, .int n1, .ref o] (T, N, I, L, R) 1 6 (pI T N R (fun x9 I9 L9 => IX A T I9 ∧ CB B T [(3, 0)] I I9)) := by
  refine ⟨_, rfl, Nat.le_of_ble_eq_true rfl, fun V C S => ?_⟩
  show V 0 [(0, .ref x), (1, .int n1), (2, .ref o)] [] (T, N, I, L, R) 0 0
  have T_x := H_x.1
  refine k_aload_n C rfl rfl rfl ?_
  refine k_iconst C (x := 0) rfl rfl rfl ?_
  refine k_aload_n C rfl rfl rfl ?_
  refine k_iload_n C rfl rfl rfl ?_
  refine w_VI C (s_X11_plain hS hI H_x) rfl rfl rfl rfl rfl ⟨_, rfl, rfl, T_x, Nat.le_of_ble_eq_true rfl⟩ rfl rfl (Nat.le_of_ble_eq_true rfl) (Nat.le_of_ble_eq_true rfl) (Nat.le_of_ble_eq_true rfl) (by decide) (fun e he I4 L4 hq => ?_) ?_
  · simp only [List.mem_cons, List.not_mem_nil, or_false] at he
    subst he
    skip
    refine Or.inr ⟨19, rfl, fun z => ?_⟩
    refine k_astore_n C (lw := [(3, _), (0, _), (1, .int _), (2, _)]) rfl rfl (Nat.le_of_ble_eq_true rfl) rfl ?_
    refine k_iconst C (x := 1) rfl rfl rfl ?_
    exact k_iret C rfl (Or.inl rfl) (Nat.le_of_ble_eq_true rfl) (Nat.le_of_ble_eq_true rfl) ⟨_, _, _, rfl, rfl, hq.1, hq.2.cb⟩
  rintro x4 I4 L4 ⟨-, -, hI4, cI4⟩
  refine k_if_eq C (t := 14) rfl rfl rfl (fun c9 => ?_) (fun c9 => ?_)
  · skip
    refine k_lconst C (x := 0) rfl rfl rfl ?_
    refine s_L C rfl rfl T_o (vin (n := 0) rfl (by rw [N_o]; exact Nat.le_of_ble_eq_true rfl) (by rw [N_o]; exact Nat.le_of_ble_eq_true rfl)) (show (0 : Int32).toNatClampNeg = 0 from by decide) ?_
    refine k_goto C (pc2 := 22) rfl rfl ?_
    refine k_iconst C (x := 0) rfl rfl rfl ?_
    exact k_iret C rfl (Or.inl rfl) (Nat.le_of_ble_eq_true rfl) (Nat.le_of_ble_eq_true rfl) ⟨_, _, _, rfl, rfl, hI4, cI4.cb⟩
  refine k_lconst C (x := 1) rfl rfl rfl ?_
  refine k_goto C (pc2 := 15) rfl rfl ?_
  refine s_L C rfl rfl T_o (vin (n := 0) rfl (by rw [N_o]; exact Nat.le_of_ble_eq_true rfl) (by rw [N_o]; exact Nat.le_of_ble_eq_true rfl)) (show (0 : Int32).toNatClampNeg = 0 from by decide) ?_
  refine k_goto C (pc2 := 22) rfl rfl ?_
  refine k_iconst C (x := 0) rfl rfl rfl ?_
  exact k_iret C rfl (Or.inl rfl) (Nat.le_of_ble_eq_true rfl) (Nat.le_of_ble_eq_true rfl) ⟨_, _, _, rfl, rfl, hI4, cI4.cb⟩

theorem u_L_root {d : Nat} {T N : Nat → Nat} {I : IT} {L : LT} {R : RT} {A B : Nat → Prop} {x o : Nat} {n1 n2 : Int32} (hS : SUB B A) (hI : IX A T I) (H_x : hs_LF T N R A B x) (T_o : T o = 21) (N_o : N o = 1) : Ex (d + 5) 338 [.ref x, .int n1, .int n2, .ref o] (T, N, I, L, R) 2 12 (pI T N R (fun x9 I9 L9 => IX A T I9 ∧ CB B T [(3, 0)] I I9)) := by
  refine ⟨_, rfl, Nat.le_of_ble_eq_true rfl, fun V C S => ?_⟩
  show V 0 [(0, .ref x), (1, .int n1), (2, .int n2), (3, .ref o)] [] (T, N, I, L, R) 0 0
  have T_x := H_x.1
  refine k_aload_n C rfl rfl rfl ?_
  refine k_iconst C (x := 0) rfl rfl rfl ?_
  refine k_aload_n C rfl rfl rfl ?_
  refine k_iload_n C rfl rfl rfl ?_
  refine k_iload_n C rfl rfl rfl ?_
  refine w_VI C (s_X11_root hS hI H_x) rfl rfl rfl rfl rfl ⟨_, rfl, rfl, T_x, Nat.le_of_ble_eq_true rfl⟩ rfl rfl (Nat.le_of_ble_eq_true rfl) (Nat.le_of_ble_eq_true rfl) (Nat.le_of_ble_eq_true rfl) (by decide) (fun e he I5 L5 hq => ?_) ?_
  · simp only [List.mem_cons, List.not_mem_nil, or_false] at he
    rcases he with rfl | rfl
    · skip
      refine Or.inr ⟨17, rfl, fun z => ?_⟩
      refine k_astore C (lw := [(4, _), (0, _), (1, .int _), (2, .int _), (3, _)]) rfl rfl (Nat.le_of_ble_eq_true rfl) rfl ?_
      refine k_iconst C (x := 2) rfl rfl rfl ?_
      exact k_iret C rfl (Or.inl rfl) (Nat.le_of_ble_eq_true rfl) (Nat.le_of_ble_eq_true rfl) ⟨_, _, _, rfl, rfl, hq.1, hq.2.cb⟩
    · skip
      refine Or.inr ⟨13, rfl, fun z => ?_⟩
      refine k_astore C (lw := [(4, _), (0, _), (1, .int _), (2, .int _), (3, _)]) rfl rfl (Nat.le_of_ble_eq_true rfl) rfl ?_
      refine k_iconst C (x := 1) rfl rfl rfl ?_
      exact k_iret C rfl (Or.inl rfl) (Nat.le_of_ble_eq_true rfl) (Nat.le_of_ble_eq_true rfl) ⟨_, _, _, rfl, rfl, hq.1, hq.2.cb⟩
  rintro x5 I5 L5 ⟨-, -, hI5, cI5⟩
  refine k_i2l C rfl rfl ?_
  refine s_L C rfl rfl T_o (vin (n := 0) rfl (by rw [N_o]; exact Nat.le_of_ble_eq_true rfl) (by rw [N_o]; exact Nat.le_of_ble_eq_true rfl)) (show (0 : Int32).toNatClampNeg = 0 from by decide) ?_
  refine k_goto C (pc2 := 21) rfl rfl ?_
  refine k_iconst C (x := 0) rfl rfl rfl ?_
  exact k_iret C rfl (Or.inl rfl) (Nat.le_of_ble_eq_true rfl) (Nat.le_of_ble_eq_true rfl) ⟨_, _, _, rfl, rfl, hI5, cI5.cb⟩

theorem u_L_roots {d : Nat} {T N : Nat → Nat} {I : IT} {L : LT} {R : RT} {A B : Nat → Prop} {x o : Nat} {n1 : Int32} (hS : SUB B A) (hI : IX A T I) (H_x : hs_LF T N R A B x) (T_o : T o = 21) (N_o : N o = 1) : Ex (d + 5) 339 [.ref x, .int n1, .ref o] (T, N, I, L, R) 1 6 (pI T N R (fun x9 I9 L9 => IX A T I9 ∧ CB B T [(3, 0)] I I9)) := by
  refine ⟨_, rfl, Nat.le_of_ble_eq_true rfl, fun V C S => ?_⟩
  show V 0 [(0, .ref x), (1, .int n1), (2, .ref o)] [] (T, N, I, L, R) 0 0
  have T_x := H_x.1
  refine k_aload_n C rfl rfl rfl ?_
  refine k_iconst C (x := 0) rfl rfl rfl ?_
  refine k_aload_n C rfl rfl rfl ?_
  refine k_iload_n C rfl rfl rfl ?_
  refine w_VI C (s_X11_roots hS hI H_x) rfl rfl rfl rfl rfl ⟨_, rfl, rfl, T_x, Nat.le_of_ble_eq_true rfl⟩ rfl rfl (Nat.le_of_ble_eq_true rfl) (Nat.le_of_ble_eq_true rfl) (Nat.le_of_ble_eq_true rfl) (by decide) (fun e he I4 L4 hq => ?_) ?_
  · simp only [List.mem_cons, List.not_mem_nil, or_false] at he
    subst he
    skip
    refine Or.inr ⟨12, rfl, fun z => ?_⟩
    refine k_astore_n C (lw := [(3, _), (0, _), (1, .int _), (2, _)]) rfl rfl (Nat.le_of_ble_eq_true rfl) rfl ?_
    refine k_iconst C (x := 1) rfl rfl rfl ?_
    exact k_iret C rfl (Or.inl rfl) (Nat.le_of_ble_eq_true rfl) (Nat.le_of_ble_eq_true rfl) ⟨_, _, _, rfl, rfl, hq.1, hq.2.cb⟩
  rintro x4 I4 L4 ⟨hI4, cI4⟩
  refine k_i2l C rfl rfl ?_
  refine s_L C rfl rfl T_o (vin (n := 0) rfl (by rw [N_o]; exact Nat.le_of_ble_eq_true rfl) (by rw [N_o]; exact Nat.le_of_ble_eq_true rfl)) (show (0 : Int32).toNatClampNeg = 0 from by decide) ?_
  refine k_goto C (pc2 := 15) rfl rfl ?_
  refine k_iconst C (x := 0) rfl rfl rfl ?_
  exact k_iret C rfl (Or.inl rfl) (Nat.le_of_ble_eq_true rfl) (Nat.le_of_ble_eq_true rfl) ⟨_, _, _, rfl, rfl, hI4, cI4.cb⟩

theorem u_L_empty {d : Nat} {T N : Nat → Nat} {I : IT} {L : LT} {R : RT} {A B : Nat → Prop} {x o : Nat} {n1 : Int32} (hS : SUB B A) (hI : IX A T I) (H_x : hs_LF T N R A B x) (T_o : T o = 21) (N_o : N o = 1) : Ex (d + 5) 340 [.ref x, .int n1, .ref o] (T, N, I, L, R) 1 6 (pI T N R (fun x9 I9 L9 => IX A T I9 ∧ CB B T [(3, 0)] I I9)) := by
  refine ⟨_, rfl, Nat.le_of_ble_eq_true rfl, fun V C S => ?_⟩
  show V 0 [(0, .ref x), (1, .int n1), (2, .ref o)] [] (T, N, I, L, R) 0 0
  have T_x := H_x.1
  refine k_aload_n C rfl rfl rfl ?_
  refine k_iconst C (x := 0) rfl rfl rfl ?_
  refine k_aload_n C rfl rfl rfl ?_
  refine k_iload_n C rfl rfl rfl ?_
  refine w_VI C (s_X11_empty hS hI H_x) rfl rfl rfl rfl rfl ⟨_, rfl, rfl, T_x, Nat.le_of_ble_eq_true rfl⟩ rfl rfl (Nat.le_of_ble_eq_true rfl) (Nat.le_of_ble_eq_true rfl) (Nat.le_of_ble_eq_true rfl) (by decide) (fun e he I4 L4 hq => ?_) ?_
  · simp only [List.mem_cons, List.not_mem_nil, or_false] at he
    subst he
    skip
    refine Or.inr ⟨19, rfl, fun z => ?_⟩
    refine k_astore_n C (lw := [(3, _), (0, _), (1, .int _), (2, _)]) rfl rfl (Nat.le_of_ble_eq_true rfl) rfl ?_
    refine k_iconst C (x := 1) rfl rfl rfl ?_
    exact k_iret C rfl (Or.inl rfl) (Nat.le_of_ble_eq_true rfl) (Nat.le_of_ble_eq_true rfl) ⟨_, _, _, rfl, rfl, hq.1, hq.2.cb⟩
  rintro x4 I4 L4 ⟨-, -, hI4, cI4⟩
  refine k_if_eq C (t := 14) rfl rfl rfl (fun c9 => ?_) (fun c9 => ?_)
  · skip
    refine k_lconst C (x := 0) rfl rfl rfl ?_
    refine s_L C rfl rfl T_o (vin (n := 0) rfl (by rw [N_o]; exact Nat.le_of_ble_eq_true rfl) (by rw [N_o]; exact Nat.le_of_ble_eq_true rfl)) (show (0 : Int32).toNatClampNeg = 0 from by decide) ?_
    refine k_goto C (pc2 := 22) rfl rfl ?_
    refine k_iconst C (x := 0) rfl rfl rfl ?_
    exact k_iret C rfl (Or.inl rfl) (Nat.le_of_ble_eq_true rfl) (Nat.le_of_ble_eq_true rfl) ⟨_, _, _, rfl, rfl, hI4, cI4.cb⟩
  refine k_lconst C (x := 1) rfl rfl rfl ?_
  refine k_goto C (pc2 := 15) rfl rfl ?_
  refine s_L C rfl rfl T_o (vin (n := 0) rfl (by rw [N_o]; exact Nat.le_of_ble_eq_true rfl) (by rw [N_o]; exact Nat.le_of_ble_eq_true rfl)) (show (0 : Int32).toNatClampNeg = 0 from by decide) ?_
  refine k_goto C (pc2 := 22) rfl rfl ?_
  refine k_iconst C (x := 0) rfl rfl rfl ?_
  exact k_iret C rfl (Or.inl rfl) (Nat.le_of_ble_eq_true rfl) (Nat.le_of_ble_eq_true rfl) ⟨_, _, _, rfl, rfl, hI4, cI4.cb⟩

theorem u_L_same {d : Nat} {T N : Nat → Nat} {I : IT} {L : LT} {R : RT} {A B : Nat → Prop} {x o : Nat} {n1 n2 : Int32} (hS : SUB B A) (hI : IX A T I) (H_x : hs_LF T N R A B x) (T_o : T o = 21) (N_o : N o = 1) : Ex (d + 6) 341 [.ref x, .int n1, .int n2, .ref o] (T, N, I, L, R) 2 12 (pI T N R (fun x9 I9 L9 => IX A T I9 ∧ CB B T [(7, 0), (7, 1)] I I9)) := by
  refine ⟨_, rfl, Nat.le_of_ble_eq_true rfl, fun V C S => ?_⟩
  show V 0 [(0, .ref x), (1, .int n1), (2, .int n2), (3, .ref o)] [] (T, N, I, L, R) 0 0
  have T_x := H_x.1
  refine k_aload_n C rfl rfl rfl ?_
  refine k_iconst C (x := 0) rfl rfl rfl ?_
  refine k_aload_n C rfl rfl rfl ?_
  refine k_iload_n C rfl rfl rfl ?_
  refine k_iload_n C rfl rfl rfl ?_
  refine w_VI C (s_X11_same hS hI H_x) rfl rfl rfl rfl rfl ⟨_, rfl, rfl, T_x, Nat.le_of_ble_eq_true rfl⟩ rfl rfl (Nat.le_of_ble_eq_true rfl) (Nat.le_of_ble_eq_true rfl) (Nat.le_of_ble_eq_true rfl) (by decide) (fun e he I5 L5 hq => ?_) ?_
  · simp only [List.mem_cons, List.not_mem_nil, or_false] at he
    subst he
    skip
    refine Or.inr ⟨13, rfl, fun z => ?_⟩
    refine k_astore C (lw := [(4, _), (0, _), (1, .int _), (2, .int _), (3, _)]) rfl rfl (Nat.le_of_ble_eq_true rfl) rfl ?_
    refine k_iconst C (x := 1) rfl rfl rfl ?_
    exact k_iret C rfl (Or.inl rfl) (Nat.le_of_ble_eq_true rfl) (Nat.le_of_ble_eq_true rfl) ⟨_, _, _, rfl, rfl, hq.1, hq.2.cb⟩
  rintro x5 I5 L5 ⟨hI5, cI5⟩
  refine k_i2l C rfl rfl ?_
  refine s_L C rfl rfl T_o (vin (n := 0) rfl (by rw [N_o]; exact Nat.le_of_ble_eq_true rfl) (by rw [N_o]; exact Nat.le_of_ble_eq_true rfl)) (show (0 : Int32).toNatClampNeg = 0 from by decide) ?_
  refine k_goto C (pc2 := 17) rfl rfl ?_
  refine k_iconst C (x := 0) rfl rfl rfl ?_
  exact k_iret C rfl (Or.inl rfl) (Nat.le_of_ble_eq_true rfl) (Nat.le_of_ble_eq_true rfl) ⟨_, _, _, rfl, rfl, hI5, cI5.cb⟩

theorem u_L_keep {d : Nat} {T N : Nat → Nat} {I : IT} {L : LT} {R : RT} {A B : Nat → Prop} {x o : Nat} {n1 : Int32} (hS : SUB B A) (hI : IX A T I) (H_x : hs_LF T N R A B x) (T_o : T o = 21) (N_o : N o = 1) : Ex (d + 6) 342 [.ref x, .int n1, .ref o] (T, N, I, L, R) 1 6 (pI T N R (fun x9 I9 L9 => IX A T I9 ∧ CB B T [(7, 0), (7, 1)] I I9)) := by
  refine ⟨_, rfl, Nat.le_of_ble_eq_true rfl, fun V C S => ?_⟩
  show V 0 [(0, .ref x), (1, .int n1), (2, .ref o)] [] (T, N, I, L, R) 0 0
  have T_x := H_x.1
  refine k_aload_n C rfl rfl rfl ?_
  refine k_iconst C (x := 0) rfl rfl rfl ?_
  refine k_aload_n C rfl rfl rfl ?_
  refine k_iload_n C rfl rfl rfl ?_
  refine w_VI C (s_X11_keep hS hI H_x) rfl rfl rfl rfl rfl ⟨_, rfl, rfl, T_x, Nat.le_of_ble_eq_true rfl⟩ rfl rfl (Nat.le_of_ble_eq_true rfl) (Nat.le_of_ble_eq_true rfl) (Nat.le_of_ble_eq_true rfl) (by decide) (fun e he I4 L4 hq => ?_) ?_
  · simp only [List.mem_cons, List.not_mem_nil, or_false] at he
    subst he
    skip
    refine Or.inr ⟨12, rfl, fun z => ?_⟩
    refine k_astore_n C (lw := [(3, _), (0, _), (1, .int _), (2, _)]) rfl rfl (Nat.le_of_ble_eq_true rfl) rfl ?_
    refine k_iconst C (x := 1) rfl rfl rfl ?_
    exact k_iret C rfl (Or.inl rfl) (Nat.le_of_ble_eq_true rfl) (Nat.le_of_ble_eq_true rfl) ⟨_, _, _, rfl, rfl, hq.1, hq.2.cb⟩
  rintro x4 I4 L4 ⟨hI4, cI4⟩
  refine k_i2l C rfl rfl ?_
  refine s_L C rfl rfl T_o (vin (n := 0) rfl (by rw [N_o]; exact Nat.le_of_ble_eq_true rfl) (by rw [N_o]; exact Nat.le_of_ble_eq_true rfl)) (show (0 : Int32).toNatClampNeg = 0 from by decide) ?_
  refine k_goto C (pc2 := 15) rfl rfl ?_
  refine k_iconst C (x := 0) rfl rfl rfl ?_
  exact k_iret C rfl (Or.inl rfl) (Nat.le_of_ble_eq_true rfl) (Nat.le_of_ble_eq_true rfl) ⟨_, _, _, rfl, rfl, hI4, cI4.cb⟩

theorem u_L_powers {d : Nat} {T N : Nat → Nat} {I : IT} {L : LT} {R : RT} {A B : Nat → Prop} {x o : Nat} {n1 n2 : Int32} (hS : SUB B A) (hI : IX A T I) (H_x : hs_LF T N R A B x) (T_o : T o = 21) (N_o : N o = 1) : Ex (d + 7) 343 [.ref x, .int n1, .int n2, .ref o] (T, N, I, L, R) 2 12 (pI T N R (fun x9 I9 L9 => IX A T I9 ∧ CB B T [(4, 0), (4, 6), (4, 7)] I I9)) := by
  refine ⟨_, rfl, Nat.le_of_ble_eq_true rfl, fun V C S => ?_⟩
  show V 0 [(0, .ref x), (1, .int n1), (2, .int n2), (3, .ref o)] [] (T, N, I, L, R) 0 0
  have T_x := H_x.1
  refine k_aload_n C rfl rfl rfl ?_
  refine k_iconst C (x := 0) rfl rfl rfl ?_
  refine k_aload_n C rfl rfl rfl ?_
  refine k_iload_n C rfl rfl rfl ?_
  refine k_iload_n C rfl rfl rfl ?_
  refine w_VI C (s_X11_powers hS hI H_x) rfl rfl rfl rfl rfl ⟨_, rfl, rfl, T_x, Nat.le_of_ble_eq_true rfl⟩ rfl rfl (Nat.le_of_ble_eq_true rfl) (Nat.le_of_ble_eq_true rfl) (Nat.le_of_ble_eq_true rfl) (by decide) (fun e he I5 L5 hq => ?_) ?_
  · simp only [List.mem_cons, List.not_mem_nil, or_false] at he
    rcases he with rfl | rfl
    · skip
      refine Or.inr ⟨17, rfl, fun z => ?_⟩
      refine k_astore C (lw := [(4, _), (0, _), (1, .int _), (2, .int _), (3, _)]) rfl rfl (Nat.le_of_ble_eq_true rfl) rfl ?_
      refine k_iconst C (x := 2) rfl rfl rfl ?_
      exact k_iret C rfl (Or.inl rfl) (Nat.le_of_ble_eq_true rfl) (Nat.le_of_ble_eq_true rfl) ⟨_, _, _, rfl, rfl, hq.1, hq.2.cb⟩
    · skip
      refine Or.inr ⟨13, rfl, fun z => ?_⟩
      refine k_astore C (lw := [(4, _), (0, _), (1, .int _), (2, .int _), (3, _)]) rfl rfl (Nat.le_of_ble_eq_true rfl) rfl ?_
      refine k_iconst C (x := 1) rfl rfl rfl ?_
      exact k_iret C rfl (Or.inl rfl) (Nat.le_of_ble_eq_true rfl) (Nat.le_of_ble_eq_true rfl) ⟨_, _, _, rfl, rfl, hq.1, hq.2.cb⟩
  rintro x5 I5 L5 ⟨hI5, cI5⟩
  refine k_i2l C rfl rfl ?_
  refine s_L C rfl rfl T_o (vin (n := 0) rfl (by rw [N_o]; exact Nat.le_of_ble_eq_true rfl) (by rw [N_o]; exact Nat.le_of_ble_eq_true rfl)) (show (0 : Int32).toNatClampNeg = 0 from by decide) ?_
  refine k_goto C (pc2 := 21) rfl rfl ?_
  refine k_iconst C (x := 0) rfl rfl rfl ?_
  exact k_iret C rfl (Or.inl rfl) (Nat.le_of_ble_eq_true rfl) (Nat.le_of_ble_eq_true rfl) ⟨_, _, _, rfl, rfl, hI5, cI5.cb⟩

theorem u_L_common {d : Nat} {T N : Nat → Nat} {I : IT} {L : LT} {R : RT} {A B : Nat → Prop} {x o : Nat} {n1 n2 n3 : Int32} (hS : SUB B A) (hI : IX A T I) (H_x : hs_LF T N R A B x) (T_o : T o = 21) (N_o : N o = 1) : Ex (d + 7) 344 [.ref x, .int n1, .int n2, .int n3, .ref o] (T, N, I, L, R) 2 12 (pI T N R (fun x9 I9 L9 => IX A T I9 ∧ CB B T [(3, 0)] I I9)) := by
  refine ⟨_, rfl, Nat.le_of_ble_eq_true rfl, fun V C S => ?_⟩
  show V 0 [(0, .ref x), (1, .int n1), (2, .int n2), (3, .int n3), (4, .ref o)] [] (T, N, I, L, R) 0 0
  have T_x := H_x.1
  refine k_aload C rfl rfl rfl ?_
  refine k_iconst C (x := 0) rfl rfl rfl ?_
  refine k_aload_n C rfl rfl rfl ?_
  refine k_iload_n C rfl rfl rfl ?_
  refine k_iload_n C rfl rfl rfl ?_
  refine k_iload_n C rfl rfl rfl ?_
  refine w_VI C (s_X11_common hS hI H_x) rfl rfl rfl rfl rfl ⟨_, rfl, rfl, T_x, Nat.le_of_ble_eq_true rfl⟩ rfl rfl (Nat.le_of_ble_eq_true rfl) (Nat.le_of_ble_eq_true rfl) (Nat.le_of_ble_eq_true rfl) (by decide) (fun e he I7 L7 hq => ?_) ?_
  · simp only [List.mem_cons, List.not_mem_nil, or_false] at he
    subst he
    skip
    refine Or.inr ⟨15, rfl, fun z => ?_⟩
    refine k_astore C (lw := [(5, _), (0, _), (1, .int _), (2, .int _), (3, .int _), (4, _)]) rfl rfl (Nat.le_of_ble_eq_true rfl) rfl ?_
    refine k_iconst C (x := 1) rfl rfl rfl ?_
    exact k_iret C rfl (Or.inl rfl) (Nat.le_of_ble_eq_true rfl) (Nat.le_of_ble_eq_true rfl) ⟨_, _, _, rfl, rfl, hq.1, hq.2.cb⟩
  rintro x7 I7 L7 ⟨hI7, cI7⟩
  refine k_i2l C rfl rfl ?_
  refine s_L C rfl rfl T_o (vin (n := 0) rfl (by rw [N_o]; exact Nat.le_of_ble_eq_true rfl) (by rw [N_o]; exact Nat.le_of_ble_eq_true rfl)) (show (0 : Int32).toNatClampNeg = 0 from by decide) ?_
  refine k_goto C (pc2 := 19) rfl rfl ?_
  refine k_iconst C (x := 0) rfl rfl rfl ?_
  exact k_iret C rfl (Or.inl rfl) (Nat.le_of_ble_eq_true rfl) (Nat.le_of_ble_eq_true rfl) ⟨_, _, _, rfl, rfl, hI7, cI7.cb⟩

theorem u_L_overlap {d : Nat} {T N : Nat → Nat} {I : IT} {L : LT} {R : RT} {A B : Nat → Prop} {x o : Nat} {n1 n2 n3 n4 : Int32} (hS : SUB B A) (hI : IX A T I) (H_x : hs_LF T N R A B x) (T_o : T o = 21) (N_o : N o = 1) : Ex (d + 6) 345 [.ref x, .int n1, .int n2, .int n3, .int n4, .ref o] (T, N, I, L, R) 3 18 (pI T N R (fun x9 I9 L9 => IX A T I9 ∧ CB B T [(3, 0)] I I9)) := by
  refine ⟨_, rfl, Nat.le_of_ble_eq_true rfl, fun V C S => ?_⟩
  show V 0 [(0, .ref x), (1, .int n1), (2, .int n2), (3, .int n3), (4, .int n4), (5, .ref o)] [] (T, N, I, L, R) 0 0
  have T_x := H_x.1
  refine k_aload C rfl rfl rfl ?_
  refine k_iconst C (x := 0) rfl rfl rfl ?_
  refine k_aload_n C rfl rfl rfl ?_
  refine k_iload_n C rfl rfl rfl ?_
  refine k_iload_n C rfl rfl rfl ?_
  refine k_iload_n C rfl rfl rfl ?_
  refine k_iload C rfl rfl rfl ?_
  refine w_VI C (s_X11_overlap hS hI H_x) rfl rfl rfl rfl rfl ⟨_, rfl, rfl, T_x, Nat.le_of_ble_eq_true rfl⟩ rfl rfl (Nat.le_of_ble_eq_true rfl) (Nat.le_of_ble_eq_true rfl) (Nat.le_of_ble_eq_true rfl) (by decide) (fun e he I9 L9 hq => ?_) ?_
  · simp only [List.mem_cons, List.not_mem_nil, or_false] at he
    rcases he with rfl | rfl
    · skip
      refine Or.inr ⟨21, rfl, fun z => ?_⟩
      refine k_astore C (lw := [(6, _), (0, _), (1, .int _), (2, .int _), (3, .int _), (4, .int _), (5, _)]) rfl rfl (Nat.le_of_ble_eq_true rfl) rfl ?_
      refine k_iconst C (x := 2) rfl rfl rfl ?_
      exact k_iret C rfl (Or.inl rfl) (Nat.le_of_ble_eq_true rfl) (Nat.le_of_ble_eq_true rfl) ⟨_, _, _, rfl, rfl, hq.1, hq.2.cb⟩
    · skip
      refine Or.inr ⟨17, rfl, fun z => ?_⟩
      refine k_astore C (lw := [(6, _), (0, _), (1, .int _), (2, .int _), (3, .int _), (4, .int _), (5, _)]) rfl rfl (Nat.le_of_ble_eq_true rfl) rfl ?_
      refine k_iconst C (x := 1) rfl rfl rfl ?_
      exact k_iret C rfl (Or.inl rfl) (Nat.le_of_ble_eq_true rfl) (Nat.le_of_ble_eq_true rfl) ⟨_, _, _, rfl, rfl, hq.1, hq.2.cb⟩
  rintro x9 I9 L9 ⟨hI9, cI9⟩
  refine k_i2l C rfl rfl ?_
  refine s_L C rfl rfl T_o (vin (n := 0) rfl (by rw [N_o]; exact Nat.le_of_ble_eq_true rfl) (by rw [N_o]; exact Nat.le_of_ble_eq_true rfl)) (show (0 : Int32).toNatClampNeg = 0 from by decide) ?_
  refine k_goto C (pc2 := 25) rfl rfl ?_
  refine k_iconst C (x := 0) rfl rfl rfl ?_
  exact k_iret C rfl (Or.inl rfl) (Nat.le_of_ble_eq_true rfl) (Nat.le_of_ble_eq_true rfl) ⟨_, _, _, rfl, rfl, hI9, cI9.cb⟩

