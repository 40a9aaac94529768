/-! the class: an empty text, the image, the stock -/
theorem e_next0 {d : Nat} {T N : Nat → Nat} {I : IT} {L : LT} {R : RT} {rd : Nat} (T_rd : T rd = 5) (I_rd_4 : I rd 4 = 0) (I_rd_3 : I rd 3 = 0) : Ex (d + 1) 63 [.ref rd] (T, N, I, L, R) 0 0 (pI T N R (fun x9 I9 L9 => x9 = (-1) ∧ I9 = I ∧ L9 = L)) := by
  refine ⟨_, rfl, Nat.le_of_ble_eq_true rfl, fun V C S => ?_⟩
  show V 0 [(0, .ref rd)] [] (T, N, I, L, R) 0 0
  refine k_aload_n C rfl rfl rfl ?_
  refine g_I C rfl rfl rfl T_rd rfl (I_rd_4) ?_
  refine k_aload_n C rfl rfl rfl ?_
  refine g_I C rfl rfl rfl T_rd rfl (I_rd_3) ?_
  refine k_icmp_ge C (t := 37) rfl rfl rfl (fun c8 => ?_) (fun c8 => ?_)
  · skip
    refine k_aload_n C rfl rfl rfl ?_
    refine g_I C rfl rfl rfl T_rd rfl (I_rd_4) ?_
    refine k_aload_n C rfl rfl rfl ?_
    refine g_I C rfl rfl rfl T_rd rfl (I_rd_3) ?_
    refine k_icmp_ge C (t := 59) rfl rfl rfl (fun c45 => ?_) (fun c45 => ?_)
    · skip
      refine k_iconst C (x := -1) rfl rfl rfl ?_
      exact k_iret C rfl (Or.inl rfl) (Nat.le_of_ble_eq_true rfl) (Nat.le_of_ble_eq_true rfl) ⟨_, _, _, rfl, rfl, ⟨rfl, rfl, rfl⟩⟩
    exact absurd (by decide) c45
  exact absurd (by decide) c8

theorem e_isDigit_m {d : Nat} {T N : Nat → Nat} {I : IT} {L : LT} {R : RT}  : Ex (d + 1) 65 [.int (-1)] (T, N, I, L, R) 0 0 (pI T N R (fun x9 I9 L9 => x9 = (0) ∧ I9 = I ∧ L9 = L)) := by
  refine ⟨_, rfl, Nat.le_of_ble_eq_true rfl, fun V C S => ?_⟩
  show V 0 [(0, .int (-1))] [] (T, N, I, L, R) 0 0
  refine k_iload_n C rfl rfl rfl ?_
  refine k_bipush C (x := 48) rfl rfl rfl ?_
  refine k_icmp_lt C (t := 16) rfl rfl rfl (fun _ => ?_) (fun c3 => absurd (by decide) c3)
  refine k_iconst C (x := 0) rfl rfl rfl ?_
  exact k_iret C rfl (Or.inr ⟨rfl, Or.inl rfl⟩) (Nat.le_of_ble_eq_true rfl) (Nat.le_of_ble_eq_true rfl) ⟨_, _, _, rfl, rfl, ⟨rfl, rfl, rfl⟩⟩

theorem e_readPart0 {d : Nat} {T N : Nat → Nat} {I : IT} {L : LT} {R : RT} {rd : Nat} (T_rd : T rd = 5) (I_rd_4 : I rd 4 = 0) (I_rd_3 : I rd 3 = 0) : Ex (d + 2) 71 [.ref rd, .int 0] (T, N, I, L, R) 0 0 (pI T N R (fun x9 I9 L9 => x9 = (0) ∧ I9 = I ∧ L9 = L)) := by
  refine ⟨_, rfl, Nat.le_of_ble_eq_true rfl, fun V C S => ?_⟩
  show V 0 [(0, .ref rd), (1, .int 0)] [] (T, N, I, L, R) 0 0
  refine k_aload_n C rfl rfl rfl ?_
  refine c_VI C (e_next0 T_rd (I_rd_4) (I_rd_3) ) rfl rfl rfl rfl rfl ⟨_, rfl, rfl, T_rd, Nat.le_of_ble_eq_true rfl⟩ rfl rfl (Nat.le_of_ble_eq_true rfl) (Nat.le_of_ble_eq_true rfl) (Nat.le_of_ble_eq_true rfl) ?_
  rintro _ _ _ ⟨rfl, h8, h9⟩
  have h8 := h8.symm; subst h8; have h9 := h9.symm; subst h9
  refine k_istore_n C (lw := [(2, .int _), (0, _), (1, .int _)]) rfl rfl (Nat.le_of_ble_eq_true rfl) rfl ?_
  refine k_iload_n C rfl rfl rfl ?_
  refine k_bipush C (x := 102) rfl rfl rfl ?_
  refine k_icmp_ne C (t := 16) rfl rfl rfl (fun _ => ?_) (fun c8 => absurd (by decide) c8)
  refine k_iload_n C rfl rfl rfl ?_
  refine c_SI C e_isDigit_m rfl rfl rfl rfl rfl rfl rfl (Nat.le_of_ble_eq_true rfl) (Nat.le_of_ble_eq_true rfl) (Nat.le_of_ble_eq_true rfl) ?_
  rintro _ _ _ ⟨rfl, h8, h9⟩
  have h8 := h8.symm; subst h8; have h9 := h9.symm; subst h9
  refine k_if_eq C (t := 47) rfl rfl rfl (fun _ => ?_) (fun c20 => absurd (by decide) c20)
  refine k_iload_n C rfl rfl rfl ?_
  refine k_bipush C (x := 6) rfl rfl rfl ?_
  refine k_icmp_lt C (t := 55) rfl rfl rfl (fun _ => ?_) (fun c50 => absurd (by decide) c50)
  refine k_iload_n C rfl rfl rfl ?_
  refine k_bipush C (x := 40) rfl rfl rfl ?_
  refine k_icmp_ne C (t := 96) rfl rfl rfl (fun _ => ?_) (fun c58 => absurd (by decide) c58)
  refine k_iload_n C rfl rfl rfl ?_
  refine k_bipush C (x := 91) rfl rfl rfl ?_
  refine k_icmp_ne C (t := 110) rfl rfl rfl (fun _ => ?_) (fun c99 => absurd (by decide) c99)
  refine k_iload_n C rfl rfl rfl ?_
  refine k_bipush C (x := 45) rfl rfl rfl ?_
  refine k_icmp_ne C (t := 149) rfl rfl rfl (fun _ => ?_) (fun c113 => absurd (by decide) c113)
  refine k_iconst C (x := 0) rfl rfl rfl ?_
  exact k_iret C rfl (Or.inr ⟨rfl, Or.inl rfl⟩) (Nat.le_of_ble_eq_true rfl) (Nat.le_of_ble_eq_true rfl) ⟨_, _, _, rfl, rfl, ⟨rfl, rfl, rfl⟩⟩

theorem e_readProduct0 {d : Nat} {T N : Nat → Nat} {I : IT} {L : LT} {R : RT} {rd : Nat} (T_rd : T rd = 5) (I_rd_4 : I rd 4 = 0) (I_rd_3 : I rd 3 = 0) : Ex (d + 3) 72 [.ref rd, .int 0] (T, N, I, L, R) 0 0 (pI T N R (fun x9 I9 L9 => x9 = (0) ∧ I9 = I ∧ L9 = L)) := by
  refine ⟨_, rfl, Nat.le_of_ble_eq_true rfl, fun V C S => ?_⟩
  show V 0 [(0, .ref rd), (1, .int 0)] [] (T, N, I, L, R) 0 0
  refine k_aload_n C rfl rfl rfl ?_
  refine k_iload_n C rfl rfl rfl ?_
  refine c_VI C (e_readPart0 T_rd (I_rd_4) (I_rd_3) ) rfl rfl rfl rfl rfl ⟨_, rfl, rfl, T_rd, Nat.le_of_ble_eq_true rfl⟩ rfl rfl (Nat.le_of_ble_eq_true rfl) (Nat.le_of_ble_eq_true rfl) (Nat.le_of_ble_eq_true rfl) ?_
  rintro _ _ _ ⟨rfl, h8, h9⟩
  have h8 := h8.symm; subst h8; have h9 := h9.symm; subst h9
  refine k_if_ne C (t := 10) rfl rfl rfl (fun c5 => absurd c5 (by decide)) (fun _ => ?_)
  refine k_iconst C (x := 0) rfl rfl rfl ?_
  exact k_iret C rfl (Or.inr ⟨rfl, Or.inl rfl⟩) (Nat.le_of_ble_eq_true rfl) (Nat.le_of_ble_eq_true rfl) ⟨_, _, _, rfl, rfl, ⟨rfl, rfl, rfl⟩⟩

theorem e_readSum0 {d : Nat} {T N : Nat → Nat} {I : IT} {L : LT} {R : RT} {rd : Nat} (T_rd : T rd = 5) (I_rd_4 : I rd 4 = 0) (I_rd_3 : I rd 3 = 0) : Ex (d + 4) 73 [.ref rd, .int 0] (T, N, I, L, R) 0 0 (pI T N R (fun x9 I9 L9 => x9 = (0) ∧ I9 = I ∧ L9 = L)) := by
  refine ⟨_, rfl, Nat.le_of_ble_eq_true rfl, fun V C S => ?_⟩
  show V 0 [(0, .ref rd), (1, .int 0)] [] (T, N, I, L, R) 0 0
  refine k_aload_n C rfl rfl rfl ?_
  refine k_iload_n C rfl rfl rfl ?_
  refine c_VI C (e_readProduct0 T_rd (I_rd_4) (I_rd_3) ) rfl rfl rfl rfl rfl ⟨_, rfl, rfl, T_rd, Nat.le_of_ble_eq_true rfl⟩ rfl rfl (Nat.le_of_ble_eq_true rfl) (Nat.le_of_ble_eq_true rfl) (Nat.le_of_ble_eq_true rfl) ?_
  rintro _ _ _ ⟨rfl, h8, h9⟩
  have h8 := h8.symm; subst h8; have h9 := h9.symm; subst h9
  refine k_if_ne C (t := 10) rfl rfl rfl (fun c5 => absurd c5 (by decide)) (fun _ => ?_)
  refine k_iconst C (x := 0) rfl rfl rfl ?_
  exact k_iret C rfl (Or.inr ⟨rfl, Or.inl rfl⟩) (Nat.le_of_ble_eq_true rfl) (Nat.le_of_ble_eq_true rfl) ⟨_, _, _, rfl, rfl, ⟨rfl, rfl, rfl⟩⟩

theorem e_read0 {d : Nat} {T N : Nat → Nat} {I : IT} {L : LT} {R : RT} {A : Nat → Prop} {rd oc : Nat} (T_rd : T rd = 5) (R_rd_0 : R rd 0 = some oc) (T_oc : T oc = 8) (A_rd : A rd) (A_oc : A oc) : Ex (d + 5) 74 [.ref rd, .int 0] (T, N, I, L, R) 0 0 (pI T N R (fun x9 I9 L9 => x9 = 0 ∧ Fr A I L I9 L9)) := by
  refine ⟨_, rfl, Nat.le_of_ble_eq_true rfl, fun V C S => ?_⟩
  show V 0 [(0, .ref rd), (1, .int 0)] [] (T, N, I, L, R) 0 0
  refine k_aload_n C rfl rfl rfl ?_
  refine k_iload_n C rfl rfl rfl ?_
  refine p_I C rfl rfl rfl T_rd (Or.inr rfl) rfl ?_
  refine k_aload_n C rfl rfl rfl ?_
  refine k_iconst C (x := 0) rfl rfl rfl ?_
  refine p_I C rfl rfl rfl T_rd (Or.inr rfl) rfl ?_
  refine k_aload_n C rfl rfl rfl ?_
  refine k_iconst C (x := 0) rfl rfl rfl ?_
  refine p_I C rfl rfl rfl T_rd (Or.inr rfl) rfl ?_
  refine k_aload_n C rfl rfl rfl ?_
  refine g_R C rfl rfl rfl T_rd rfl R_rd_0 ?_
  refine k_iconst C (x := 0) rfl rfl rfl ?_
  refine p_I C rfl rfl rfl T_oc (Or.inr rfl) rfl ?_
  refine k_aload_n C rfl rfl rfl ?_
  refine k_iconst C (x := 0) rfl rfl rfl ?_
  refine c_VI C (e_readSum0 T_rd ((u2_a (t_nq T_rd T_oc (by decide))).trans ((u2_k (by decide)).trans (u2_s))) ((u2_a (t_nq T_rd T_oc (by decide))).trans ((u2_k (by decide)).trans ((u2_k (by decide)).trans (u2_s)))) ) rfl rfl rfl rfl rfl ⟨_, rfl, rfl, T_rd, Nat.le_of_ble_eq_true rfl⟩ rfl rfl (Nat.le_of_ble_eq_true rfl) (Nat.le_of_ble_eq_true rfl) (Nat.le_of_ble_eq_true rfl) ?_
  rintro _ _ _ ⟨rfl, h8, h9⟩
  have h8 := h8.symm; subst h8; have h9 := h9.symm; subst h9
  refine k_if_eq C (t := 43) rfl rfl rfl (fun _ => ?_) (fun c28 => absurd (by decide) c28)
  refine k_iconst C (x := 0) rfl rfl rfl ?_
  refine k_istore_n C (lw := [(2, .int _), (0, _), (1, .int _)]) rfl rfl (Nat.le_of_ble_eq_true rfl) rfl ?_
  refine k_iload_n C rfl rfl rfl ?_
  refine k_if_eq C (t := 53) rfl rfl rfl (fun _ => ?_) (fun c46 => absurd (by decide) c46)
  refine k_aload_n C rfl rfl rfl ?_
  refine g_I C rfl rfl rfl T_rd rfl ((u2_a (t_nq T_rd T_oc (by decide))).trans ((u2_k (by decide)).trans (u2_s))) ?_
  exact k_iret C rfl (Or.inl rfl) (Nat.le_of_ble_eq_true rfl) (Nat.le_of_ble_eq_true rfl) ⟨_, _, _, rfl, rfl, ⟨rfl, (Fr.i (Fr.i (Fr.i (Fr.i Fr.rf A_rd) A_rd) A_rd) A_oc)⟩⟩

theorem e_signs0 {d : Nat} {T N : Nat → Nat} {I : IT} {L : LT} {R : RT} {A : Nat → Prop} {x rd oc : Nat} (T_x : T x = 12) (R_x_0 : R x 0 = some rd) (A_x : A x) (T_rd : T rd = 5) (R_rd_0 : R rd 0 = some oc) (T_oc : T oc = 8) (A_rd : A rd) (A_oc : A oc) (I_rd_1 : I rd 1 = 0) : Ex (d + 6) 131 [.ref x] (T, N, I, L, R) 1 6 (pX 0 T N R (fun I9 L9 => Fr A I L I9 L9)) := by
  refine ⟨_, rfl, Nat.le_of_ble_eq_true rfl, fun V C S => ?_⟩
  show V 0 [(0, .ref x)] [] (T, N, I, L, R) 0 0
  refine k_aload_n C rfl rfl rfl ?_
  refine k_aload_n C rfl rfl rfl ?_
  refine g_R C rfl rfl rfl T_x rfl R_x_0 ?_
  refine k_aload_n C rfl rfl rfl ?_
  refine g_R C rfl rfl rfl T_x rfl R_x_0 ?_
  refine c_VI C (e_useUp0 T_rd (I_rd_1) A_rd ) rfl rfl rfl rfl rfl ⟨_, rfl, rfl, T_rd, Nat.le_of_ble_eq_true rfl⟩ rfl rfl (Nat.le_of_ble_eq_true rfl) (Nat.le_of_ble_eq_true rfl) (Nat.le_of_ble_eq_true rfl) ?_
  intro x9 I9 L9 h9
  obtain ⟨rfl, f9⟩ := h9
  refine c_VI C (e_read0 T_rd R_rd_0 T_oc A_rd A_oc ) rfl rfl rfl rfl rfl ⟨_, rfl, rfl, T_rd, Nat.le_of_ble_eq_true rfl⟩ rfl rfl (Nat.le_of_ble_eq_true rfl) (Nat.le_of_ble_eq_true rfl) (Nat.le_of_ble_eq_true rfl) ?_
  intro x12 I12 L12 h12
  obtain ⟨rfl, f12⟩ := h12
  refine p_I C rfl rfl rfl T_x (Or.inr rfl) rfl ?_
  refine k_aload_n C rfl rfl rfl ?_
  refine g_I C rfl rfl rfl T_x rfl (u2_s) ?_
  refine k_iconst C (x := -1) rfl rfl rfl ?_
  refine k_icmp_eq C (t := 34) rfl rfl rfl (fun c23 => ?_) (fun c23 => ?_)
  · skip
    exact absurd c23 (by decide)
  exact k_throw C rfl rfl rfl rfl rfl rfl (Nat.le_of_ble_eq_true rfl) (Nat.le_of_ble_eq_true rfl) (Nat.le_of_ble_eq_true rfl) ⟨_, _, rfl, rfl, Fr.i (Fr.tr f9 f12) A_x⟩

theorem e_back0 {d : Nat} {T N : Nat → Nat} {I : IT} {L : LT} {R : RT} {x : Nat} (T_x : T x = 12) (I_x_3 : I x 3 = 0) : Ex (d + 1) 175 [.ref x] (T, N, I, L, R) 0 0 (pI T N R (fun x9 I9 L9 => x9 = (0) ∧ I9 = I ∧ L9 = L)) := by
  refine ⟨_, rfl, Nat.le_of_ble_eq_true rfl, fun V C S => ?_⟩
  show V 0 [(0, .ref x)] [] (T, N, I, L, R) 0 0
  refine k_aload_n C rfl rfl rfl ?_
  refine g_I C rfl rfl rfl T_x rfl (I_x_3) ?_
  refine k_if_ne C (t := 9) rfl rfl rfl (fun c4 => ?_) (fun c4 => ?_)
  · skip
    exact absurd rfl c4
  refine k_iconst C (x := 0) rfl rfl rfl ?_
  exact k_iret C rfl (Or.inr ⟨rfl, Or.inl rfl⟩) (Nat.le_of_ble_eq_true rfl) (Nat.le_of_ble_eq_true rfl) ⟨_, _, _, rfl, rfl, ⟨rfl, rfl, rfl⟩⟩

theorem e_noughts0 {d : Nat} {T N : Nat → Nat} {I : IT} {L : LT} {R : RT} {nw : Nat} (T_nw : T nw = 9) (I_nw_1 : I nw 1 = 0) : Ex (d + 1) 101 [.ref nw] (T, N, I, L, R) 0 0 (pI T N R (fun x9 I9 L9 => x9 = (0) ∧ I9 = I ∧ L9 = L)) := by
  refine ⟨_, rfl, Nat.le_of_ble_eq_true rfl, fun V C S => ?_⟩
  show V 0 [(0, .ref nw)] [] (T, N, I, L, R) 0 0
  refine k_iconst C (x := 0) rfl rfl rfl ?_
  refine k_istore_n C (lw := [(1, .int _), (0, _)]) rfl rfl (Nat.le_of_ble_eq_true rfl) rfl ?_
  refine k_iconst C (x := 0) rfl rfl rfl ?_
  refine k_istore_n C (lw := [(2, .int _), (1, .int _), (0, _)]) rfl rfl (Nat.le_of_ble_eq_true rfl) rfl ?_
  refine k_iload_n C rfl rfl rfl ?_
  refine k_aload_n C rfl rfl rfl ?_
  refine g_I C rfl rfl rfl T_nw rfl (I_nw_1) ?_
  refine k_icmp_ge C (t := 43) rfl rfl rfl (fun c9 => ?_) (fun c9 => ?_)
  · skip
    refine k_iload_n C rfl rfl rfl ?_
    exact k_iret C rfl (Or.inl rfl) (Nat.le_of_ble_eq_true rfl) (Nat.le_of_ble_eq_true rfl) ⟨_, _, _, rfl, rfl, ⟨rfl, rfl, rfl⟩⟩
  exact absurd (by decide) c9

def stk (n : Int) : Int32 := if n = 0 then 11 else if 1 ≤ n ∧ n ≤ 6 then 0 else -1
theorem e_stock0 {d : Nat} {T N : Nat → Nat} {I : IT} {L : LT} {R : RT} {x nw : Nat} {n : Int32} (T_x : T x = 12) (R_x_1 : R x 1 = some nw) (T_nw : T nw = 9) (I_nw_0 : I nw 0 = 11) (I_nw_1 : I nw 1 = 0) (I_nw_2 : I nw 2 = 0) (I_nw_3 : I nw 3 = 0) (I_nw_4 : I nw 4 = 0) (I_nw_5 : I nw 5 = 0) : Ex (d + 2) 176 [.ref x, .int n] (T, N, I, L, R) 0 0 (pI T N R (fun x9 I9 L9 => x9 = (stk n.toInt) ∧ I9 = I ∧ L9 = L)) := by
  refine ⟨_, rfl, Nat.le_of_ble_eq_true rfl, fun V C S => ?_⟩
  show V 0 [(0, .ref x), (1, .int n)] [] (T, N, I, L, R) 0 0
  refine k_iload_n C rfl rfl rfl ?_
  refine k_table C rfl (by decide) (fun h => ?_) (fun h1 h2 => ?_)
  · show V 100 [(0, .ref x), (1, .int n)] [] _ _ _
    refine k_iconst C (x := -1) rfl rfl rfl ?_
    exact k_iret C rfl (Or.inl rfl) (Nat.le_of_ble_eq_true rfl) (Nat.le_of_ble_eq_true rfl) ⟨_, _, _, rfl, rfl, ⟨by rw [stk, if_neg (by omega), if_neg (by omega)], rfl, rfl⟩⟩
  · have h3 : n.toInt = 0 ∨ n.toInt = 1 ∨ n.toInt = 2 ∨ n.toInt = 3 ∨ n.toInt = 4 ∨ n.toInt = 5 ∨ n.toInt = 6 := by omega
    rcases h3 with e | e | e | e | e | e | e <;> rw [e]
    · refine ⟨43, rfl, by decide, ?_⟩
      show V 44 [(0, .ref x), (1, .int n)] [] _ _ _
      refine k_aload_n C rfl rfl rfl ?_
      refine g_R C rfl rfl rfl T_x rfl R_x_1 ?_
      refine g_I C rfl rfl rfl T_nw rfl (I_nw_0) ?_
      exact k_iret C rfl (Or.inl rfl) (Nat.le_of_ble_eq_true rfl) (Nat.le_of_ble_eq_true rfl) ⟨_, _, _, rfl, rfl, ⟨by rw [e]; rfl, rfl, rfl⟩⟩
    · refine ⟨51, rfl, by decide, ?_⟩
      show V 52 [(0, .ref x), (1, .int n)] [] _ _ _
      refine k_aload_n C rfl rfl rfl ?_
      refine g_R C rfl rfl rfl T_x rfl R_x_1 ?_
      refine g_I C rfl rfl rfl T_nw rfl (I_nw_1) ?_
      exact k_iret C rfl (Or.inl rfl) (Nat.le_of_ble_eq_true rfl) (Nat.le_of_ble_eq_true rfl) ⟨_, _, _, rfl, rfl, ⟨by rw [e]; rfl, rfl, rfl⟩⟩
    · refine ⟨59, rfl, by decide, ?_⟩
      show V 60 [(0, .ref x), (1, .int n)] [] _ _ _
      refine k_aload_n C rfl rfl rfl ?_
      refine g_R C rfl rfl rfl T_x rfl R_x_1 ?_
      refine g_I C rfl rfl rfl T_nw rfl (I_nw_2) ?_
      exact k_iret C rfl (Or.inl rfl) (Nat.le_of_ble_eq_true rfl) (Nat.le_of_ble_eq_true rfl) ⟨_, _, _, rfl, rfl, ⟨by rw [e]; rfl, rfl, rfl⟩⟩
    · refine ⟨67, rfl, by decide, ?_⟩
      show V 68 [(0, .ref x), (1, .int n)] [] _ _ _
      refine k_aload_n C rfl rfl rfl ?_
      refine g_R C rfl rfl rfl T_x rfl R_x_1 ?_
      refine g_I C rfl rfl rfl T_nw rfl (I_nw_3) ?_
      exact k_iret C rfl (Or.inl rfl) (Nat.le_of_ble_eq_true rfl) (Nat.le_of_ble_eq_true rfl) ⟨_, _, _, rfl, rfl, ⟨by rw [e]; rfl, rfl, rfl⟩⟩
    · refine ⟨75, rfl, by decide, ?_⟩
      show V 76 [(0, .ref x), (1, .int n)] [] _ _ _
      refine k_aload_n C rfl rfl rfl ?_
      refine g_R C rfl rfl rfl T_x rfl R_x_1 ?_
      refine g_I C rfl rfl rfl T_nw rfl (I_nw_4) ?_
      exact k_iret C rfl (Or.inl rfl) (Nat.le_of_ble_eq_true rfl) (Nat.le_of_ble_eq_true rfl) ⟨_, _, _, rfl, rfl, ⟨by rw [e]; rfl, rfl, rfl⟩⟩
    · refine ⟨83, rfl, by decide, ?_⟩
      show V 84 [(0, .ref x), (1, .int n)] [] _ _ _
      refine k_aload_n C rfl rfl rfl ?_
      refine g_R C rfl rfl rfl T_x rfl R_x_1 ?_
      refine g_I C rfl rfl rfl T_nw rfl (I_nw_5) ?_
      exact k_iret C rfl (Or.inl rfl) (Nat.le_of_ble_eq_true rfl) (Nat.le_of_ble_eq_true rfl) ⟨_, _, _, rfl, rfl, ⟨by rw [e]; rfl, rfl, rfl⟩⟩
    · refine ⟨91, rfl, by decide, ?_⟩
      show V 92 [(0, .ref x), (1, .int n)] [] _ _ _
      refine k_aload_n C rfl rfl rfl ?_
      refine g_R C rfl rfl rfl T_x rfl R_x_1 ?_
      refine c_VI C (e_noughts0 T_nw (I_nw_1) ) rfl rfl rfl rfl rfl ⟨_, rfl, rfl, T_nw, Nat.le_of_ble_eq_true rfl⟩ rfl rfl (Nat.le_of_ble_eq_true rfl) (Nat.le_of_ble_eq_true rfl) (Nat.le_of_ble_eq_true rfl) ?_
      rintro _ _ _ ⟨rfl, h8, h9⟩
      have h8 := h8.symm; subst h8; have h9 := h9.symm; subst h9
      exact k_iret C rfl (Or.inl rfl) (Nat.le_of_ble_eq_true rfl) (Nat.le_of_ble_eq_true rfl) ⟨_, _, _, rfl, rfl, ⟨by rw [e]; rfl, rfl, rfl⟩⟩


theorem vlt2 {j : Int32} {n : Nat} (h0 : ¬ j < 0) (h1 : j < Int32.ofNat n) (hn : n < 2147483648) : vp_in j n := vlt h0 (fun h => by rw [i_le] at h; rw [i_lt] at h1; omega) hn
theorem e_get {d : Nat} {T N : Nat → Nat} {I : IT} {L : LT} {R : RT} {g gb : Nat} {k : Int32} (T_g : T g = 3) (R_g_1 : R g 1 = some gb) (T_gb : T gb = 20) (N_gb : N gb = 41) : Ex (d + 1) 10 [.ref g, .int k] (T, N, I, L, R) 0 0 (pI T N R (fun x9 I9 L9 => I9 = I ∧ L9 = L ∧ (True))) := by
  refine ⟨_, rfl, Nat.le_of_ble_eq_true rfl, fun V C S => ?_⟩
  show V 0 [(0, .ref g), (1, .int k)] [] (T, N, I, L, R) 0 0
  refine k_iload_n C rfl rfl rfl ?_
  refine k_if_lt C (t := 21) rfl rfl rfl (fun c1 => ?_) (fun c1 => ?_)
  · skip
    refine k_iconst C (x := 0) rfl rfl rfl ?_
    refine k_goto C (pc2 := 31) rfl rfl ?_
    exact k_iret C rfl (Or.inl rfl) (Nat.le_of_ble_eq_true rfl) (Nat.le_of_ble_eq_true rfl) ⟨_, _, _, rfl, rfl, ⟨rfl, rfl, trivial⟩⟩
  refine k_iload_n C rfl rfl rfl ?_
  refine k_aload_n C rfl rfl rfl ?_
  refine g_I C rfl rfl rfl T_g rfl (rfl) ?_
  refine k_icmp_gt C (t := 21) rfl rfl rfl (fun c9 => ?_) (fun c9 => ?_)
  · skip
    refine k_iconst C (x := 0) rfl rfl rfl ?_
    refine k_goto C (pc2 := 31) rfl rfl ?_
    exact k_iret C rfl (Or.inl rfl) (Nat.le_of_ble_eq_true rfl) (Nat.le_of_ble_eq_true rfl) ⟨_, _, _, rfl, rfl, ⟨rfl, rfl, trivial⟩⟩
  refine k_iload_n C rfl rfl rfl ?_
  refine k_aload_n C rfl rfl rfl ?_
  refine g_R C rfl rfl rfl T_g rfl R_g_1 ?_
  refine a_N C rfl rfl (by rw [T_gb]; exact Nat.le_of_ble_eq_true rfl) N_gb ?_
  refine k_icmp_lt C (t := 25) rfl rfl rfl (fun c18 => ?_) (fun c18 => ?_)
  · skip
    refine k_aload_n C rfl rfl rfl ?_
    refine g_R C rfl rfl rfl T_g rfl R_g_1 ?_
    refine k_iload_n C rfl rfl rfl ?_
    refine a_I C rfl rfl T_gb (vlt2 c1 (by rw [N_gb]; exact c18) (by rw [N_gb]; exact Nat.le_of_ble_eq_true rfl)) rfl ?_
    exact k_iret C rfl (Or.inl rfl) (Nat.le_of_ble_eq_true rfl) (Nat.le_of_ble_eq_true rfl) ⟨_, _, _, rfl, rfl, ⟨rfl, rfl, trivial⟩⟩
  refine k_iconst C (x := 0) rfl rfl rfl ?_
  refine k_goto C (pc2 := 31) rfl rfl ?_
  exact k_iret C rfl (Or.inl rfl) (Nat.le_of_ble_eq_true rfl) (Nat.le_of_ble_eq_true rfl) ⟨_, _, _, rfl, rfl, ⟨rfl, rfl, trivial⟩⟩

theorem e_copyForm0 {d : Nat} {T N : Nat → Nat} {I : IT} {L : LT} {R : RT} {A : Nat → Prop} {f g nb gb : Nat} (T_f : T f = 3) (R_f_1 : R f 1 = some nb) (T_nb : T nb = 20) (N_nb : N nb = 41) (A_f : A f) (A_nb : A nb) (T_g : T g = 3) (R_g_1 : R g 1 = some gb) (T_gb : T gb = 20) (N_gb : N gb = 41) (I_g_0 : I g 0 = 0) : Ex (d + 2) 24 [.ref f, .ref g] (T, N, I, L, R) 0 0 (pV T N R (fun I9 L9 => Fr A I L I9 L9 ∧ (∀ z, T z = 3 → I z 0 = 0 → I9 z 0 = 0) ∧ ∀ z, T z ≠ 3 → T z ≠ 20 → I9 z = I z)) := by
  refine ⟨_, rfl, Nat.le_of_ble_eq_true rfl, fun V C S => ?_⟩
  show V 0 [(0, .ref f), (1, .ref g)] [] (T, N, I, L, R) 0 0
  refine k_aload_n C rfl rfl rfl ?_
  refine k_aload_n C rfl rfl rfl ?_
  refine g_I C rfl rfl rfl T_g rfl (I_g_0) ?_
  refine p_I C rfl rfl rfl T_f (Or.inr rfl) rfl ?_
  refine k_iconst C (x := 0) rfl rfl rfl ?_
  refine k_istore_n C (lw := [(2, .int _), (0, _), (1, _)]) rfl rfl (Nat.le_of_ble_eq_true rfl) rfl ?_
  refine k_iload_n C rfl rfl rfl ?_
  refine k_aload_n C rfl rfl rfl ?_
  refine g_I C rfl rfl rfl T_f rfl (u2_s) ?_
  refine k_icmp_gt C (t := 34) rfl rfl rfl (fun c15 => ?_) (fun c15 => ?_)
  · skip
    exact absurd c15 (by decide)
  refine k_aload_n C rfl rfl rfl ?_
  refine k_iload_n C rfl rfl rfl ?_
  refine k_aload_n C rfl rfl rfl ?_
  refine k_iload_n C rfl rfl rfl ?_
  refine c_VI C (e_get T_g R_g_1 T_gb N_gb ) rfl rfl rfl rfl rfl ⟨_, rfl, rfl, T_g, Nat.le_of_ble_eq_true rfl⟩ rfl rfl (Nat.le_of_ble_eq_true rfl) (Nat.le_of_ble_eq_true rfl) (Nat.le_of_ble_eq_true rfl) ?_
  rintro x22 _ _ ⟨h8, h9, h22⟩
  have h8 := h8.symm; subst h8; have h9 := h9.symm; subst h9
  refine c_VV C (e_set (A := fun z => z = nb) T_f R_f_1 T_nb N_nb rfl) rfl rfl rfl rfl rfl ⟨_, rfl, rfl, T_f, Nat.le_of_ble_eq_true rfl⟩ rfl rfl (Nat.le_of_ble_eq_true rfl) (Nat.le_of_ble_eq_true rfl) (Nat.le_of_ble_eq_true rfl) ?_
  intro I1 L1 h25
  have g0 : I1 f 0 = 0 := (congrFun (h25 f (t_nq T_f T_nb (by decide))).1 0).trans u2_s
  have gF : Fr A I L I1 L1 := Fr.tr (Fr.i Fr.rf A_f) (h25.mono (fun z hz => hz ▸ A_nb))
  have gz : ∀ z, T z = 3 → I z 0 = 0 → I1 z 0 = 0 := fun z hz h0 => by
    rw [(h25 z (t_nq hz T_nb (by decide))).1]
    by_cases e : z = f
    · rw [e]; exact u2_s
    · rw [u2_a e]; exact h0
  have go : ∀ z, T z ≠ 3 → T z ≠ 20 → I1 z = I z := fun z h3 h20 => ((h25 z (fun e => h20 (by rw [e]; exact T_nb))).1).trans (u2_r (fun e => h3 (by rw [e]; exact T_f)))
  refine k_inc1 C (lw := [(2, .int _), (0, _), (1, _)]) rfl rfl rfl (Nat.le_of_ble_eq_true rfl) rfl ?_
  refine k_goto C (pc2 := 10) rfl rfl ?_
  refine k_iload_n C rfl rfl rfl ?_
  refine k_aload_n C rfl rfl rfl ?_
  refine g_I C rfl rfl rfl T_f rfl g0 ?_
  refine k_icmp_gt C (t := 34) rfl rfl rfl (fun _ => ?_) (fun c => absurd (by decide) c)
  exact k_vret C rfl rfl (Nat.le_of_ble_eq_true rfl) (Nat.le_of_ble_eq_true rfl) ⟨_, _, rfl, rfl, gF, gz, go⟩

theorem e_pick_at {d : Nat} {T N : Nat → Nat} {I : IT} {L : LT} {R : RT} {fr : Nat} {n : Int32}{len i f : Nat} (T_fr : T fr = 23) (hN : N fr = len) (hl : len ≤ 1000) (hn : n = Int32.ofNat i) (hi : i < len) (hf : R fr i = some f) : Ex (d + 1) 36 [.ref fr, .int n] (T, N, I, L, R) 0 0 (pR T N R (fun x9 I9 L9 => x9 = (some f) ∧ I9 = I ∧ L9 = L)) := by
  refine ⟨_, rfl, Nat.le_of_ble_eq_true rfl, fun V C S => ?_⟩
  show V 0 [(0, .ref fr), (1, .int n)] [] (T, N, I, L, R) 0 0
  subst hn
  have N_fr : N fr = len := hN
  refine k_iload_n C rfl rfl rfl ?_
  refine k_if_lt C (t := 10) rfl rfl rfl (fun c1 => ?_) (fun c1 => ?_)
  · skip
    exact absurd c1 (n_nn (by omega))
  refine k_iload_n C rfl rfl rfl ?_
  refine k_aload_n C rfl rfl rfl ?_
  refine a_N C rfl rfl (by rw [T_fr]; exact Nat.le_of_ble_eq_true rfl) N_fr ?_
  refine k_icmp_lt C (t := 14) rfl rfl rfl (fun c7 => ?_) (fun c7 => ?_)
  · skip
    refine k_aload_n C rfl rfl rfl ?_
    refine k_iload_n C rfl rfl rfl ?_
    refine a_R C (t := 0) rfl rfl (Nat.le_of_ble_eq_true rfl) T_fr (vin rfl (by rw [N_fr]; exact hi) (by rw [N_fr]; omega)) (by rw [n_nat (by omega)]; exact hf) ?_
    exact k_aret C (x := some _) rfl (Or.inl ⟨_, rfl⟩) (Nat.le_of_ble_eq_true rfl) (Nat.le_of_ble_eq_true rfl) ⟨_, _, _, rfl, rfl, ⟨rfl, rfl, rfl⟩⟩
  exact absurd ((n_lt (by omega) (by omega)).mpr hi) c7

def cRow (T N : Nat → Nat) (R : RT) (A : Nat → Prop) (r n : Nat) : Prop := T r = 23 ∧ N r = n ∧ ∀ j, j < n → ∃ f nb, R r j = some f ∧ T f = 3 ∧ R f 1 = some nb ∧ T nb = 20 ∧ N nb = 41 ∧ A f ∧ A nb
theorem e_copyActs0 {d : Nat} {T N : Nat → Nat} {I : IT} {L : LT} {R : RT} {A : Nat → Prop} {kp nw kw ko ww no : Nat} (T_kp : T kp = 9) (A_kp : A kp) (R_kp_6 : R kp 6 = some kw) (T_kw : T kw = 20) (N_kw : N kw = 40) (A_kw : A kw) (R_kp_7 : R kp 7 = some ko) (T_ko : T ko = 23) (T_nw : T nw = 9) (R_nw_6 : R nw 6 = some ww) (T_ww : T ww = 20) (N_ww : N ww = 40) (R_nw_7 : R nw 7 = some no) (T_no : T no = 23) (hko : cRow T N R A ko 40) (hno : cRow T N R A no 40) (hzr : ∀ j, j < 40 → ∀ g, R no j = some g → I g 0 = 0) : Ex (d + 3) 109 [.ref kp, .ref nw] (T, N, I, L, R) 0 0 (pV T N R (fun I9 L9 => Fr A I L I9 L9 ∧ ∀ k, k ≤ 3 → I9 kp k = I kp k)) := by
  refine ⟨_, rfl, Nat.le_of_ble_eq_true rfl, fun V C S => ?_⟩
  show V 0 [(0, .ref kp), (1, .ref nw)] [] (T, N, I, L, R) 0 0
  refine k_aload_n C rfl rfl rfl ?_
  refine k_aload_n C rfl rfl rfl ?_
  refine g_I C rfl rfl rfl T_nw rfl rfl ?_
  refine p_I C rfl rfl rfl T_kp (Or.inr rfl) rfl ?_
  refine k_aload_n C rfl rfl rfl ?_
  refine k_aload_n C rfl rfl rfl ?_
  refine g_I C rfl rfl rfl T_nw rfl rfl ?_
  refine p_I C rfl rfl rfl T_kp (Or.inr rfl) rfl ?_
  refine k_iconst C (x := 0) rfl rfl rfl ?_
  refine k_istore_n C (lw := [(2, .int _), (0, _), (1, _)]) rfl rfl (Nat.le_of_ble_eq_true rfl) rfl ?_
  have loop : ∀ (k i : Nat) (I1 : IT) (L1 : LT), k = 40 - i → i ≤ 40 → Fr A I L I1 L1 → I1 kp = (u2 (u2 I kp 4 (I nw 4)) kp 5 (u2 I kp 4 (I nw 4) nw 5)) kp → (∀ z, T z = 3 → I z 0 = 0 → I1 z 0 = 0) → V 18 [(2, .int (Int32.ofNat i)), (0, .ref kp), (1, .ref nw)] [] (T, N, I1, L1, R) 0 0 := by
    intro k
    induction k using Nat.strongRecOn with
    | _ k ih =>
      intro i I1 L1 hk0 hin hF hk hz
      refine k_iload_n C rfl rfl rfl ?_
      refine k_aload_n C rfl rfl rfl ?_
      refine g_R C rfl rfl rfl T_kp rfl R_kp_6 ?_
      refine a_N C rfl rfl (by rw [T_kw]; exact Nat.le_of_ble_eq_true rfl) N_kw ?_
      refine k_icmp_ge C (t := 88) rfl rfl rfl (fun c24 => ?_) (fun c24 => ?_)
      · skip
        exact k_vret C rfl rfl (Nat.le_of_ble_eq_true rfl) (Nat.le_of_ble_eq_true rfl) ⟨_, _, rfl, rfl, hF, fun k hk9 => (congrFun hk k).trans ((u2_k (show k ≠ 5 by omega)).trans (u2_k (show k ≠ 4 by omega)))⟩
      have hi : i < 40 := Nat.lt_of_not_le (fun h => c24 ((n_le (by omega) (by omega)).mpr h))
      refine k_iload_n C rfl rfl rfl ?_
      refine k_aload_n C rfl rfl rfl ?_
      refine g_R C rfl rfl rfl T_nw rfl R_nw_6 ?_
      refine a_N C rfl rfl (by rw [T_ww]; exact Nat.le_of_ble_eq_true rfl) N_ww ?_
      refine k_icmp_ge C (t := 88) rfl rfl rfl (fun c33 => ?_) (fun c33 => ?_)
      · skip
        exact absurd ((n_le (by omega) (by omega)).mp c33) (by omega)
      refine k_aload_n C rfl rfl rfl ?_
      refine g_R C rfl rfl rfl T_kp rfl R_kp_6 ?_
      refine k_iload_n C rfl rfl rfl ?_
      refine k_aload_n C rfl rfl rfl ?_
      refine g_R C rfl rfl rfl T_nw rfl R_nw_6 ?_
      refine k_iload_n C rfl rfl rfl ?_
      refine a_I C rfl rfl T_ww (vin rfl (by rw [N_ww]; exact hi) (by rw [N_ww]; exact Nat.le_of_ble_eq_true rfl)) rfl ?_
      obtain ⟨f, nb, r1, T_f, R_f_1, T_nb, N_nb, A_f, A_nb⟩ := hko.2.2 i hi
      obtain ⟨g, gb, r2, T_g, R_g_1, T_gb, N_gb, A_g, A_gb⟩ := hno.2.2 i hi
      have hg0 := hzr i hi g r2
      refine s_I C rfl rfl T_kw (vin rfl (by rw [N_kw]; exact hi) (by rw [N_kw]; exact Nat.le_of_ble_eq_true rfl)) rfl ?_
      refine k_aload_n C rfl rfl rfl ?_
      refine g_R C rfl rfl rfl T_kp rfl R_kp_7 ?_
      refine k_iload_n C rfl rfl rfl ?_
      refine c_SR C (e_pick_at T_ko hko.2.1 (Nat.le_of_ble_eq_true rfl) rfl hi r1) rfl rfl rfl rfl rfl rfl rfl (Nat.le_of_ble_eq_true rfl) (Nat.le_of_ble_eq_true rfl) (Nat.le_of_ble_eq_true rfl) ?_
      rintro _ _ _ ⟨rfl, h8, h9⟩
      have h8 := h8.symm; subst h8; have h9 := h9.symm; subst h9
      refine k_astore_n C (lw := [(3, _), (2, .int _), (0, _), (1, _)]) rfl rfl (Nat.le_of_ble_eq_true rfl) rfl ?_
      refine k_aload_n C rfl rfl rfl ?_
      refine g_R C rfl rfl rfl T_nw rfl R_nw_7 ?_
      refine k_iload_n C rfl rfl rfl ?_
      refine c_SR C (e_pick_at T_no hno.2.1 (Nat.le_of_ble_eq_true rfl) rfl hi r2) rfl rfl rfl rfl rfl rfl rfl (Nat.le_of_ble_eq_true rfl) (Nat.le_of_ble_eq_true rfl) (Nat.le_of_ble_eq_true rfl) ?_
      rintro _ _ _ ⟨rfl, h8, h9⟩
      have h8 := h8.symm; subst h8; have h9 := h9.symm; subst h9
      refine k_astore C (lw := [(4, _), (3, _), (2, .int _), (0, _), (1, _)]) rfl rfl (Nat.le_of_ble_eq_true rfl) rfl ?_
      refine k_aload_n C rfl rfl rfl ?_
      refine k_ifnull C (x := some _) (t := 82) rfl rfl rfl (fun c68 => nomatch c68) (fun _ _ => ?_)
      refine k_aload C rfl rfl rfl ?_
      refine k_ifnull C (x := some _) (t := 82) rfl rfl rfl (fun c73 => nomatch c73) (fun _ _ => ?_)
      refine k_aload_n C rfl rfl rfl ?_
      refine k_aload C rfl rfl rfl ?_
      refine c_VV C (e_copyForm0 T_f R_f_1 T_nb N_nb A_f A_nb T_g R_g_1 T_gb N_gb ((congrFun (u2_r (t_nq T_g T_kw (by decide))) 0).trans (hz g T_g hg0)) ) rfl rfl rfl rfl rfl ⟨_, rfl, rfl, T_f, Nat.le_of_ble_eq_true rfl⟩ rfl rfl (Nat.le_of_ble_eq_true rfl) (Nat.le_of_ble_eq_true rfl) (Nat.le_of_ble_eq_true rfl) ?_
      intro I2 L2 h79
      have hF2 : Fr A I L I2 L2 := Fr.tr (Fr.i hF A_kw) h79.1
      refine k_sub S [(2, .int (Int32.ofNat i)), (0, .ref kp), (1, .ref nw)] (List.forall_mem_cons.mpr ⟨List.mem_of_getElem? (i := 2) rfl, List.forall_mem_cons.mpr ⟨List.mem_of_getElem? (i := 3) rfl, List.forall_mem_cons.mpr ⟨List.mem_of_getElem? (i := 4) rfl, fun _ h => nomatch h⟩⟩⟩) ?_
      refine k_inc1 C (lw := [(2, .int _), (0, _), (1, _)]) rfl rfl rfl (Nat.le_of_ble_eq_true rfl) rfl ?_
      refine k_goto C (pc2 := 18) rfl rfl ?_
      rw [n_s]
      exact ih (40 - (i + 1)) (by omega) (i + 1) _ _ rfl hi hF2 ((h79.2.2 kp (by rw [T_kp]; decide) (by rw [T_kp]; decide)).trans ((u2_r (t_nq T_kp T_kw (by decide))).trans hk)) (fun z hz9 h0 => h79.2.1 z hz9 ((congrFun (u2_r (t_nq hz9 T_kw (by decide))) 0).trans (hz z hz9 h0)))
  exact loop 40 0 _ _ rfl (Nat.zero_le _) (Fr.i (Fr.i Fr.rf A_kp) A_kp) rfl (fun z hz h0 => (congrFun (u2_r (t_nq hz T_kp (by decide))) 0).trans ((congrFun (u2_r (t_nq hz T_kp (by decide))) 0).trans h0))


theorem e_copyState0 {d : Nat} {T N : Nat → Nat} {I : IT} {L : LT} {R : RT} {A : Nat → Prop} {kp nw kw ko ww no : Nat} (T_kp : T kp = 9) (A_kp : A kp) (R_kp_6 : R kp 6 = some kw) (T_kw : T kw = 20) (N_kw : N kw = 40) (A_kw : A kw) (R_kp_7 : R kp 7 = some ko) (T_ko : T ko = 23) (T_nw : T nw = 9) (R_nw_6 : R nw 6 = some ww) (T_ww : T ww = 20) (N_ww : N ww = 40) (R_nw_7 : R nw 7 = some no) (T_no : T no = 23) (I_nw_1 : I nw 1 = 0) (I_nw_2 : I nw 2 = 0) (I_nw_3 : I nw 3 = 0) (hko : cRow T N R A ko 40) (hno : cRow T N R A no 40) (hzr : ∀ j, j < 40 → ∀ g, R no j = some g → I g 0 = 0) (hkn : kp ≠ nw) : Ex (d + 4) 110 [.ref kp, .ref nw] (T, N, I, L, R) 0 0 (pV T N R (fun I9 L9 => Fr A I L I9 L9)) := by
  refine ⟨_, rfl, Nat.le_of_ble_eq_true rfl, fun V C S => ?_⟩
  show V 0 [(0, .ref kp), (1, .ref nw)] [] (T, N, I, L, R) 0 0
  refine k_aload_n C rfl rfl rfl ?_
  refine k_aload_n C rfl rfl rfl ?_
  refine g_I C rfl rfl rfl T_nw rfl (rfl) ?_
  refine p_I C rfl rfl rfl T_kp (Or.inr rfl) rfl ?_
  refine k_aload_n C rfl rfl rfl ?_
  refine k_aload_n C rfl rfl rfl ?_
  refine g_I C rfl rfl rfl T_nw rfl (((u2_a hkn.symm).trans I_nw_1)) ?_
  refine p_I C rfl rfl rfl T_kp (Or.inr rfl) rfl ?_
  refine k_aload_n C rfl rfl rfl ?_
  refine k_aload_n C rfl rfl rfl ?_
  refine g_I C rfl rfl rfl T_nw rfl (((u2_a hkn.symm).trans ((u2_a hkn.symm).trans I_nw_2))) ?_
  refine p_I C rfl rfl rfl T_kp (Or.inr rfl) rfl ?_
  refine k_aload_n C rfl rfl rfl ?_
  refine k_aload_n C rfl rfl rfl ?_
  refine g_I C rfl rfl rfl T_nw rfl (((u2_a hkn.symm).trans ((u2_a hkn.symm).trans ((u2_a hkn.symm).trans I_nw_3)))) ?_
  refine p_I C rfl rfl rfl T_kp (Or.inr rfl) rfl ?_
  refine k_aload_n C rfl rfl rfl ?_
  refine k_aload_n C rfl rfl rfl ?_
  have q3 : ∀ j, j < 40 → ∀ g, R no j = some g → g ≠ kp := fun j hj g hg => by
    obtain ⟨g9, gb9, r9, t9, -⟩ := hno.2.2 j hj
    cases r9.symm.trans hg
    exact t_nq t9 T_kp (by decide)
  refine c_VV C (e_copyActs0 T_kp A_kp R_kp_6 T_kw N_kw A_kw R_kp_7 T_ko T_nw R_nw_6 T_ww N_ww R_nw_7 T_no hko hno (fun j hj g hg => ((congrFun (u2_r (q3 j hj g hg)) 0).trans ((congrFun (u2_r (q3 j hj g hg)) 0).trans ((congrFun (u2_r (q3 j hj g hg)) 0).trans ((congrFun (u2_r (q3 j hj g hg)) 0).trans (hzr j hj g hg))))))) rfl rfl rfl rfl rfl ⟨_, rfl, rfl, T_kp, Nat.le_of_ble_eq_true rfl⟩ rfl rfl (Nat.le_of_ble_eq_true rfl) (Nat.le_of_ble_eq_true rfl) (Nat.le_of_ble_eq_true rfl) ?_
  intro I34 L34 h34
  refine k_iconst C (x := 0) rfl rfl rfl ?_
  refine k_istore_n C (lw := [(2, .int _), (0, _), (1, _)]) rfl rfl (Nat.le_of_ble_eq_true rfl) rfl ?_
  refine k_iload_n C rfl rfl rfl ?_
  refine k_aload_n C rfl rfl rfl ?_
  refine g_I C rfl rfl rfl T_kp rfl (((h34.2 1 (by decide)).trans ((u2_k (by decide)).trans ((u2_k (by decide)).trans u2_s)))) ?_
  refine k_icmp_ge C (t := 81) rfl rfl rfl (fun c44 => ?_) (fun c44 => ?_)
  · skip
    refine k_iconst C (x := 0) rfl rfl rfl ?_
    refine k_istore_n C (lw := [(2, .int _), (0, _), (1, _)]) rfl rfl (Nat.le_of_ble_eq_true rfl) rfl ?_
    refine k_iload_n C rfl rfl rfl ?_
    refine k_aload_n C rfl rfl rfl ?_
    refine g_I C rfl rfl rfl T_kp rfl (((h34.2 2 (by decide)).trans ((u2_k (by decide)).trans u2_s))) ?_
    refine k_icmp_ge C (t := 143) rfl rfl rfl (fun c88 => ?_) (fun c88 => ?_)
    · skip
      refine k_iconst C (x := 0) rfl rfl rfl ?_
      refine k_istore_n C (lw := [(2, .int _), (0, _), (1, _)]) rfl rfl (Nat.le_of_ble_eq_true rfl) rfl ?_
      refine k_iload_n C rfl rfl rfl ?_
      refine k_aload_n C rfl rfl rfl ?_
      refine g_I C rfl rfl rfl T_kp rfl (((h34.2 3 (by decide)).trans u2_s)) ?_
      refine k_icmp_ge C (t := 187) rfl rfl rfl (fun c150 => ?_) (fun c150 => ?_)
      · skip
        exact k_vret C rfl rfl (Nat.le_of_ble_eq_true rfl) (Nat.le_of_ble_eq_true rfl) ⟨_, _, rfl, rfl, Fr.tr (Fr.i (Fr.i (Fr.i (Fr.i Fr.rf A_kp) A_kp) A_kp) A_kp) h34.1⟩
      exact absurd (by decide) c150
    exact absurd (by decide) c88
  exact absurd (by decide) c44

theorem e_image0 {d : Nat} {T N : Nat → Nat} {I : IT} {L : LT} {R : RT} {A : Nat → Prop} {x nw kp kw ko ww no : Nat} (T_x : T x = 12) (A_x : A x) (R_x_1 : R x 1 = some nw) (R_x_2 : R x 2 = some kp) (T_kp : T kp = 9) (A_kp : A kp) (R_kp_6 : R kp 6 = some kw) (T_kw : T kw = 20) (N_kw : N kw = 40) (A_kw : A kw) (R_kp_7 : R kp 7 = some ko) (T_ko : T ko = 23) (T_nw : T nw = 9) (R_nw_6 : R nw 6 = some ww) (T_ww : T ww = 20) (N_ww : N ww = 40) (R_nw_7 : R nw 7 = some no) (T_no : T no = 23) (I_nw_1 : I nw 1 = 0) (I_nw_2 : I nw 2 = 0) (I_nw_3 : I nw 3 = 0) (hko : cRow T N R A ko 40) (hno : cRow T N R A no 40) (hzr : ∀ j, j < 40 → ∀ g, R no j = some g → I g 0 = 0) (hkn : kp ≠ nw) : Ex (d + 5) 174 [.ref x] (T, N, I, L, R) 0 0 (pV T N R (fun I9 L9 => Fr A I L I9 L9)) := by
  refine ⟨_, rfl, Nat.le_of_ble_eq_true rfl, fun V C S => ?_⟩
  show V 0 [(0, .ref x)] [] (T, N, I, L, R) 0 0
  refine k_aload_n C rfl rfl rfl ?_
  refine g_R C rfl rfl rfl T_x rfl R_x_2 ?_
  refine k_aload_n C rfl rfl rfl ?_
  refine g_R C rfl rfl rfl T_x rfl R_x_1 ?_
  refine c_VV C (e_copyState0 T_kp A_kp R_kp_6 T_kw N_kw A_kw R_kp_7 T_ko T_nw R_nw_6 T_ww N_ww R_nw_7 T_no (I_nw_1) (I_nw_2) (I_nw_3) hko hno hzr hkn) rfl rfl rfl rfl rfl ⟨_, rfl, rfl, T_kp, Nat.le_of_ble_eq_true rfl⟩ rfl rfl (Nat.le_of_ble_eq_true rfl) (Nat.le_of_ble_eq_true rfl) (Nat.le_of_ble_eq_true rfl) ?_
  intro I8 L8 h8
  refine k_aload_n C rfl rfl rfl ?_
  refine k_iconst C (x := 1) rfl rfl rfl ?_
  refine p_Z C rfl rfl rfl T_x (Or.inr rfl) rfl (Or.inr rfl) ?_
  exact k_vret C rfl rfl (Nat.le_of_ble_eq_true rfl) (Nat.le_of_ble_eq_true rfl) ⟨_, _, rfl, rfl, Fr.i h8 A_x⟩

