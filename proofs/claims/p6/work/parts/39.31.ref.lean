/-! the reference: an empty text, tables, the stock -/
theorem e_m_isAt0 {d : Nat} {T N : Nat → Nat} {I : IT} {L : LT} {R : RT} {m : Nat} {a b : Int32} (T_m : T m = 13) (I_m_12 : I m 12 = 0) (I_m_13 : I m 13 = 0) : Ex (d + 1) 218 [.ref m, .int a, .int b] (T, N, I, L, R) 0 0 (pI T N R (fun x9 I9 L9 => x9 = (0) ∧ I9 = I ∧ L9 = L)) := by
  refine ⟨_, rfl, Nat.le_of_ble_eq_true rfl, fun V C S => ?_⟩
  show V 0 [(0, .ref m), (1, .int a), (2, .int b)] [] (T, N, I, L, R) 0 0
  refine k_aload_n C rfl rfl rfl ?_
  refine g_I C rfl rfl rfl T_m rfl (I_m_12) ?_
  refine k_aload_n C rfl rfl rfl ?_
  refine g_I C rfl rfl rfl T_m rfl (I_m_13) ?_
  refine k_icmp_ge C (t := 41) rfl rfl rfl (fun _ => ?_) (fun c8 => absurd (by decide) c8)
  refine k_iconst C (x := 0) rfl rfl rfl ?_
  exact k_iret C rfl (Or.inr ⟨rfl, Or.inl rfl⟩) (Nat.le_of_ble_eq_true rfl) (Nat.le_of_ble_eq_true rfl) ⟨_, _, _, rfl, rfl, ⟨rfl, rfl, rfl⟩⟩

theorem e_m_blanks0 {d : Nat} {T N : Nat → Nat} {I : IT} {L : LT} {R : RT} {m : Nat} (T_m : T m = 13) (I_m_12 : I m 12 = 0) (I_m_13 : I m 13 = 0) : Ex (d + 2) 219 [.ref m] (T, N, I, L, R) 0 0 (pV T N R (fun I9 L9 => I9 = (u2 I m 14 0) ∧ L9 = (L))) := by
  refine ⟨_, rfl, Nat.le_of_ble_eq_true rfl, fun V C S => ?_⟩
  show V 0 [(0, .ref m)] [] (T, N, I, L, R) 0 0
  refine k_aload_n C rfl rfl rfl ?_
  refine k_bipush C (x := 32) rfl rfl rfl ?_
  refine k_bipush C (x := 32) rfl rfl rfl ?_
  refine c_VI C (e_m_isAt0 T_m (I_m_12) (I_m_13) ) rfl rfl rfl rfl rfl ⟨_, rfl, rfl, T_m, Nat.le_of_ble_eq_true rfl⟩ rfl rfl (Nat.le_of_ble_eq_true rfl) (Nat.le_of_ble_eq_true rfl) (Nat.le_of_ble_eq_true rfl) ?_
  rintro _ _ _ ⟨hx7, hI8, hL9⟩
  have hx7 := hx7.symm; subst hx7
  have hI8 := hI8.symm; subst hI8; have hL9 := hL9.symm; subst hL9
  refine k_if_eq C (t := 24) rfl rfl rfl (fun _ => ?_) (fun c8 => absurd (by decide) c8)
  refine k_aload_n C rfl rfl rfl ?_
  refine k_aload_n C rfl rfl rfl ?_
  refine g_I C rfl rfl rfl T_m rfl (I_m_12) ?_
  refine p_I C rfl rfl rfl T_m (Or.inr rfl) rfl ?_
  exact k_vret C rfl rfl (Nat.le_of_ble_eq_true rfl) (Nat.le_of_ble_eq_true rfl) ⟨_, _, rfl, rfl, ⟨rfl, rfl⟩⟩

theorem e_m_has0 {d : Nat} {T N : Nat → Nat} {I : IT} {L : LT} {R : RT} {m : Nat} {a : Int32} (T_m : T m = 13) (I_m_12 : I m 12 = 0) (I_m_13 : I m 13 = 0) : Ex (d + 3) 220 [.ref m, .int a] (T, N, I, L, R) 0 0 (pI T N R (fun x9 I9 L9 => x9 = (0) ∧ I9 = (u2 I m 14 0) ∧ L9 = (L))) := by
  refine ⟨_, rfl, Nat.le_of_ble_eq_true rfl, fun V C S => ?_⟩
  show V 0 [(0, .ref m), (1, .int a)] [] (T, N, I, L, R) 0 0
  refine k_aload_n C rfl rfl rfl ?_
  refine c_VV C (e_m_blanks0 T_m (I_m_12) (I_m_13) ) rfl rfl rfl rfl rfl ⟨_, rfl, rfl, T_m, Nat.le_of_ble_eq_true rfl⟩ rfl rfl (Nat.le_of_ble_eq_true rfl) (Nat.le_of_ble_eq_true rfl) (Nat.le_of_ble_eq_true rfl) ?_
  rintro _ _ ⟨hI8, hL9⟩
  have hI8 := hI8.symm; subst hI8; have hL9 := hL9.symm; subst hL9
  refine k_aload_n C rfl rfl rfl ?_
  refine k_iload_n C rfl rfl rfl ?_
  refine k_iload_n C rfl rfl rfl ?_
  refine c_VI C (e_m_isAt0 T_m ((u2_k (by decide)).trans (I_m_12)) ((u2_k (by decide)).trans (I_m_13)) ) rfl rfl rfl rfl rfl ⟨_, rfl, rfl, T_m, Nat.le_of_ble_eq_true rfl⟩ rfl rfl (Nat.le_of_ble_eq_true rfl) (Nat.le_of_ble_eq_true rfl) (Nat.le_of_ble_eq_true rfl) ?_
  rintro _ _ _ ⟨hx7, hI8, hL9⟩
  have hx7 := hx7.symm; subst hx7
  have hI8 := hI8.symm; subst hI8; have hL9 := hL9.symm; subst hL9
  refine k_if_ne C (t := 15) rfl rfl rfl (fun c10 => absurd c10 (by decide)) (fun _ => ?_)
  refine k_iconst C (x := 0) rfl rfl rfl ?_
  exact k_iret C rfl (Or.inr ⟨rfl, Or.inl rfl⟩) (Nat.le_of_ble_eq_true rfl) (Nat.le_of_ble_eq_true rfl) ⟨_, _, _, rfl, rfl, ⟨rfl, rfl, rfl⟩⟩

theorem e_m_readUnit0 {d : Nat} {T N : Nat → Nat} {I : IT} {L : LT} {R : RT} {m : Nat} (T_m : T m = 13) (I_m_12 : I m 12 = 0) (I_m_13 : I m 13 = 0) : Ex (d + 4) 229 [.ref m] (T, N, I, L, R) 0 0 (pI T N R (fun x9 I9 L9 => x9 = (0) ∧ I9 = (u2 (u2 (u2 (u2 I m 14 0) m 14 0) m 14 0) m 14 0) ∧ L9 = (L))) := by
  refine ⟨_, rfl, Nat.le_of_ble_eq_true rfl, fun V C S => ?_⟩
  show V 0 [(0, .ref m)] [] (T, N, I, L, R) 0 0
  refine k_aload_n C rfl rfl rfl ?_
  refine k_bipush C (x := 45) rfl rfl rfl ?_
  refine c_VI C (e_m_has0 T_m (I_m_12) (I_m_13) ) rfl rfl rfl rfl rfl ⟨_, rfl, rfl, T_m, Nat.le_of_ble_eq_true rfl⟩ rfl rfl (Nat.le_of_ble_eq_true rfl) (Nat.le_of_ble_eq_true rfl) (Nat.le_of_ble_eq_true rfl) ?_
  rintro _ _ _ ⟨hx7, hI8, hL9⟩
  have hx7 := hx7.symm; subst hx7
  have hI8 := hI8.symm; subst hI8; have hL9 := hL9.symm; subst hL9
  refine k_if_eq C (t := 42) rfl rfl rfl (fun _ => ?_) (fun c6 => absurd (by decide) c6)
  refine k_aload_n C rfl rfl rfl ?_
  refine k_bipush C (x := 40) rfl rfl rfl ?_
  refine c_VI C (e_m_has0 T_m ((u2_k (by decide)).trans (I_m_12)) ((u2_k (by decide)).trans (I_m_13)) ) rfl rfl rfl rfl rfl ⟨_, rfl, rfl, T_m, Nat.le_of_ble_eq_true rfl⟩ rfl rfl (Nat.le_of_ble_eq_true rfl) (Nat.le_of_ble_eq_true rfl) (Nat.le_of_ble_eq_true rfl) ?_
  rintro _ _ _ ⟨hx7, hI8, hL9⟩
  have hx7 := hx7.symm; subst hx7
  have hI8 := hI8.symm; subst hI8; have hL9 := hL9.symm; subst hL9
  refine k_if_eq C (t := 84) rfl rfl rfl (fun _ => ?_) (fun c48 => absurd (by decide) c48)
  refine k_aload_n C rfl rfl rfl ?_
  refine k_bipush C (x := 91) rfl rfl rfl ?_
  refine c_VI C (e_m_has0 T_m ((u2_k (by decide)).trans ((u2_k (by decide)).trans (I_m_12))) ((u2_k (by decide)).trans ((u2_k (by decide)).trans (I_m_13))) ) rfl rfl rfl rfl rfl ⟨_, rfl, rfl, T_m, Nat.le_of_ble_eq_true rfl⟩ rfl rfl (Nat.le_of_ble_eq_true rfl) (Nat.le_of_ble_eq_true rfl) (Nat.le_of_ble_eq_true rfl) ?_
  rintro _ _ _ ⟨hx7, hI8, hL9⟩
  have hx7 := hx7.symm; subst hx7
  have hI8 := hI8.symm; subst hI8; have hL9 := hL9.symm; subst hL9
  refine k_if_eq C (t := 98) rfl rfl rfl (fun _ => ?_) (fun c90 => absurd (by decide) c90)
  refine k_aload_n C rfl rfl rfl ?_
  refine c_VV C (e_m_blanks0 T_m ((u2_k (by decide)).trans ((u2_k (by decide)).trans ((u2_k (by decide)).trans (I_m_12)))) ((u2_k (by decide)).trans ((u2_k (by decide)).trans ((u2_k (by decide)).trans (I_m_13)))) ) rfl rfl rfl rfl rfl ⟨_, rfl, rfl, T_m, Nat.le_of_ble_eq_true rfl⟩ rfl rfl (Nat.le_of_ble_eq_true rfl) (Nat.le_of_ble_eq_true rfl) (Nat.le_of_ble_eq_true rfl) ?_
  rintro _ _ ⟨hI8, hL9⟩
  have hI8 := hI8.symm; subst hI8; have hL9 := hL9.symm; subst hL9
  refine k_aload_n C rfl rfl rfl ?_
  refine k_bipush C (x := 48) rfl rfl rfl ?_
  refine k_bipush C (x := 57) rfl rfl rfl ?_
  refine c_VI C (e_m_isAt0 T_m ((u2_k (by decide)).trans ((u2_k (by decide)).trans ((u2_k (by decide)).trans ((u2_k (by decide)).trans (I_m_12))))) ((u2_k (by decide)).trans ((u2_k (by decide)).trans ((u2_k (by decide)).trans ((u2_k (by decide)).trans (I_m_13))))) ) rfl rfl rfl rfl rfl ⟨_, rfl, rfl, T_m, Nat.le_of_ble_eq_true rfl⟩ rfl rfl (Nat.le_of_ble_eq_true rfl) (Nat.le_of_ble_eq_true rfl) (Nat.le_of_ble_eq_true rfl) ?_
  rintro _ _ _ ⟨hx7, hI8, hL9⟩
  have hx7 := hx7.symm; subst hx7
  have hI8 := hI8.symm; subst hI8; have hL9 := hL9.symm; subst hL9
  refine k_if_eq C (t := 161) rfl rfl rfl (fun _ => ?_) (fun c110 => absurd (by decide) c110)
  refine k_aload_n C rfl rfl rfl ?_
  refine k_bipush C (x := 97) rfl rfl rfl ?_
  refine k_bipush C (x := 122) rfl rfl rfl ?_
  refine c_VI C (e_m_isAt0 T_m ((u2_k (by decide)).trans ((u2_k (by decide)).trans ((u2_k (by decide)).trans ((u2_k (by decide)).trans (I_m_12))))) ((u2_k (by decide)).trans ((u2_k (by decide)).trans ((u2_k (by decide)).trans ((u2_k (by decide)).trans (I_m_13))))) ) rfl rfl rfl rfl rfl ⟨_, rfl, rfl, T_m, Nat.le_of_ble_eq_true rfl⟩ rfl rfl (Nat.le_of_ble_eq_true rfl) (Nat.le_of_ble_eq_true rfl) (Nat.le_of_ble_eq_true rfl) ?_
  rintro _ _ _ ⟨hx7, hI8, hL9⟩
  have hx7 := hx7.symm; subst hx7
  have hI8 := hI8.symm; subst hI8; have hL9 := hL9.symm; subst hL9
  refine k_if_eq C (t := 185) rfl rfl rfl (fun _ => ?_) (fun c169 => absurd (by decide) c169)
  refine k_aload_n C rfl rfl rfl ?_
  refine g_I C rfl rfl rfl T_m rfl ((u2_k (by decide)).trans ((u2_k (by decide)).trans ((u2_k (by decide)).trans ((u2_k (by decide)).trans (I_m_12))))) ?_
  refine k_aload_n C rfl rfl rfl ?_
  refine g_I C rfl rfl rfl T_m rfl (u2_s) ?_
  refine k_isub C rfl rfl ?_
  refine k_iconst C (x := 1) rfl rfl rfl ?_
  refine k_icmp_ne C (t := 221) rfl rfl rfl (fun _ => ?_) (fun c195 => absurd (by decide) c195)
  refine k_iconst C (x := 0) rfl rfl rfl ?_
  exact k_iret C rfl (Or.inr ⟨rfl, Or.inl rfl⟩) (Nat.le_of_ble_eq_true rfl) (Nat.le_of_ble_eq_true rfl) ⟨_, _, _, rfl, rfl, ⟨rfl, rfl, rfl⟩⟩

theorem e_m_readProduct0 {d : Nat} {T N : Nat → Nat} {I : IT} {L : LT} {R : RT} {m : Nat} (T_m : T m = 13) (I_m_12 : I m 12 = 0) (I_m_13 : I m 13 = 0) : Ex (d + 5) 227 [.ref m] (T, N, I, L, R) 0 0 (pI T N R (fun x9 I9 L9 => x9 = (0) ∧ I9 = (u2 (u2 (u2 (u2 I m 14 0) m 14 0) m 14 0) m 14 0) ∧ L9 = (L))) := by
  refine ⟨_, rfl, Nat.le_of_ble_eq_true rfl, fun V C S => ?_⟩
  show V 0 [(0, .ref m)] [] (T, N, I, L, R) 0 0
  refine k_aload_n C rfl rfl rfl ?_
  refine c_VI C (e_m_readUnit0 T_m (I_m_12) (I_m_13) ) rfl rfl rfl rfl rfl ⟨_, rfl, rfl, T_m, Nat.le_of_ble_eq_true rfl⟩ rfl rfl (Nat.le_of_ble_eq_true rfl) (Nat.le_of_ble_eq_true rfl) (Nat.le_of_ble_eq_true rfl) ?_
  rintro _ _ _ ⟨hx7, hI8, hL9⟩
  have hx7 := hx7.symm; subst hx7
  have hI8 := hI8.symm; subst hI8; have hL9 := hL9.symm; subst hL9
  refine k_if_ne C (t := 9) rfl rfl rfl (fun c4 => absurd c4 (by decide)) (fun _ => ?_)
  refine k_iconst C (x := 0) rfl rfl rfl ?_
  exact k_iret C rfl (Or.inr ⟨rfl, Or.inl rfl⟩) (Nat.le_of_ble_eq_true rfl) (Nat.le_of_ble_eq_true rfl) ⟨_, _, _, rfl, rfl, ⟨rfl, rfl, rfl⟩⟩

theorem e_m_readSum0 {d : Nat} {T N : Nat → Nat} {I : IT} {L : LT} {R : RT} {m : Nat} (T_m : T m = 13) (I_m_12 : I m 12 = 0) (I_m_13 : I m 13 = 0) : Ex (d + 6) 228 [.ref m] (T, N, I, L, R) 0 0 (pI T N R (fun x9 I9 L9 => x9 = (0) ∧ I9 = (u2 (u2 (u2 (u2 I m 14 0) m 14 0) m 14 0) m 14 0) ∧ L9 = (L))) := by
  refine ⟨_, rfl, Nat.le_of_ble_eq_true rfl, fun V C S => ?_⟩
  show V 0 [(0, .ref m)] [] (T, N, I, L, R) 0 0
  refine k_aload_n C rfl rfl rfl ?_
  refine c_VI C (e_m_readProduct0 T_m (I_m_12) (I_m_13) ) rfl rfl rfl rfl rfl ⟨_, rfl, rfl, T_m, Nat.le_of_ble_eq_true rfl⟩ rfl rfl (Nat.le_of_ble_eq_true rfl) (Nat.le_of_ble_eq_true rfl) (Nat.le_of_ble_eq_true rfl) ?_
  rintro _ _ _ ⟨hx7, hI8, hL9⟩
  have hx7 := hx7.symm; subst hx7
  have hI8 := hI8.symm; subst hI8; have hL9 := hL9.symm; subst hL9
  refine k_if_ne C (t := 9) rfl rfl rfl (fun c4 => absurd c4 (by decide)) (fun _ => ?_)
  refine k_iconst C (x := 0) rfl rfl rfl ?_
  exact k_iret C rfl (Or.inr ⟨rfl, Or.inl rfl⟩) (Nat.le_of_ble_eq_true rfl) (Nat.le_of_ble_eq_true rfl) ⟨_, _, _, rfl, rfl, ⟨rfl, rfl, rfl⟩⟩

theorem e_uses1 {d : Nat} {T N : Nat → Nat} {I : IT} {L : LT} {R : RT} {m : Nat} (T_m : T m = 13) (I_m_11 : I m 11 = 0) : Ex (d + 1) 230 [.ref m] (T, N, I, L, R) 0 0 (pV T N R (fun I9 L9 => I9 = (u2 (u2 (u2 (u2 I m 0 0) m 13 0) m 11 0) m 12 0) ∧ L9 = (L))) := by
  refine ⟨_, rfl, Nat.le_of_ble_eq_true rfl, fun V C S => ?_⟩
  show V 0 [(0, .ref m)] [] (T, N, I, L, R) 0 0
  refine k_aload_n C rfl rfl rfl ?_
  refine k_iconst C (x := 0) rfl rfl rfl ?_
  refine p_I C rfl rfl rfl T_m (Or.inr rfl) rfl ?_
  refine k_aload_n C rfl rfl rfl ?_
  refine k_aload_n C rfl rfl rfl ?_
  refine g_I C rfl rfl rfl T_m rfl ((u2_k (by decide)).trans (I_m_11)) ?_
  refine p_I C rfl rfl rfl T_m (Or.inr rfl) rfl ?_
  refine k_aload_n C rfl rfl rfl ?_
  refine k_iconst C (x := 0) rfl rfl rfl ?_
  refine p_I C rfl rfl rfl T_m (Or.inr rfl) rfl ?_
  refine k_aload_n C rfl rfl rfl ?_
  refine k_iconst C (x := 0) rfl rfl rfl ?_
  refine p_I C rfl rfl rfl T_m (Or.inr rfl) rfl ?_
  exact k_vret C rfl rfl (Nat.le_of_ble_eq_true rfl) (Nat.le_of_ble_eq_true rfl) ⟨_, _, rfl, rfl, ⟨rfl, rfl⟩⟩

theorem e_m_signs0 {d : Nat} {T N : Nat → Nat} {I : IT} {L : LT} {R : RT} {A : Nat → Prop} {m : Nat} (T_m : T m = 13) (A_m : A m) (I_m_11 : I m 11 = 0) : Ex (d + 7) 231 [.ref m] (T, N, I, L, R) 0 0 (pI T N R (fun x9 I9 L9 => Fr A I L I9 L9 ∧ I9 m 0 = 1)) := by
  refine ⟨_, rfl, Nat.le_of_ble_eq_true rfl, fun V C S => ?_⟩
  show V 0 [(0, .ref m)] [] (T, N, I, L, R) 0 0
  refine k_aload_n C rfl rfl rfl ?_
  refine c_VV C (e_uses1 T_m (I_m_11) ) rfl rfl rfl rfl rfl ⟨_, rfl, rfl, T_m, Nat.le_of_ble_eq_true rfl⟩ rfl rfl (Nat.le_of_ble_eq_true rfl) (Nat.le_of_ble_eq_true rfl) (Nat.le_of_ble_eq_true rfl) ?_
  rintro _ _ ⟨hI8, hL9⟩
  have hI8 := hI8.symm; subst hI8; have hL9 := hL9.symm; subst hL9
  refine k_aload_n C rfl rfl rfl ?_
  refine k_iconst C (x := 0) rfl rfl rfl ?_
  refine p_I C rfl rfl rfl T_m (Or.inr rfl) rfl ?_
  refine k_aload_n C rfl rfl rfl ?_
  refine k_iconst C (x := 0) rfl rfl rfl ?_
  refine p_I C rfl rfl rfl T_m (Or.inr rfl) rfl ?_
  refine k_aload_n C rfl rfl rfl ?_
  refine k_iconst C (x := 0) rfl rfl rfl ?_
  refine p_I C rfl rfl rfl T_m (Or.inr rfl) rfl ?_
  refine k_aload_n C rfl rfl rfl ?_
  refine c_VI C (e_m_readSum0 T_m ((u2_k (by decide)).trans ((u2_k (by decide)).trans ((u2_k (by decide)).trans (u2_s)))) ((u2_k (by decide)).trans ((u2_k (by decide)).trans ((u2_k (by decide)).trans ((u2_k (by decide)).trans ((u2_k (by decide)).trans (u2_s)))))) ) rfl rfl rfl rfl rfl ⟨_, rfl, rfl, T_m, Nat.le_of_ble_eq_true rfl⟩ rfl rfl (Nat.le_of_ble_eq_true rfl) (Nat.le_of_ble_eq_true rfl) (Nat.le_of_ble_eq_true rfl) ?_
  rintro _ _ _ ⟨hx7, hI8, hL9⟩
  have hx7 := hx7.symm; subst hx7
  have hI8 := hI8.symm; subst hI8; have hL9 := hL9.symm; subst hL9
  refine k_istore_n C (lw := [(1, .int _), (0, _)]) rfl rfl (Nat.le_of_ble_eq_true rfl) rfl ?_
  refine k_iload_n C rfl rfl rfl ?_
  refine k_if_eq C (t := 49) rfl rfl rfl (fun _ => ?_) (fun c25 => absurd (by decide) c25)
  refine k_aload_n C rfl rfl rfl ?_
  refine k_iload_n C rfl rfl rfl ?_
  refine k_if_eq C (t := 58) rfl rfl rfl (fun _ => ?_) (fun c51 => absurd (by decide) c51)
  refine k_aload_n C rfl rfl rfl ?_
  refine g_I C rfl rfl rfl T_m rfl (u2_s) ?_
  refine p_I C rfl rfl rfl T_m (Or.inr rfl) rfl ?_
  refine k_aload_n C rfl rfl rfl ?_
  refine k_iload_n C rfl rfl rfl ?_
  refine k_if_ne C (t := 74) rfl rfl rfl (fun c67 => absurd c67 (by decide)) (fun _ => ?_)
  refine k_iconst C (x := 1) rfl rfl rfl ?_
  refine k_goto C (pc2 := 75) rfl rfl ?_
  refine k_iconst C (x := 1) rfl rfl rfl ?_
  refine c_VI C (e_throwsIf1 T_m rfl) rfl rfl rfl rfl rfl ⟨_, rfl, rfl, T_m, Nat.le_of_ble_eq_true rfl⟩ rfl rfl (Nat.le_of_ble_eq_true rfl) (Nat.le_of_ble_eq_true rfl) (Nat.le_of_ble_eq_true rfl) ?_
  rintro _ _ _ ⟨hx7, hI8, hL9⟩
  have hx7 := hx7.symm; subst hx7
  have hI8 := hI8.symm; subst hI8; have hL9 := hL9.symm; subst hL9
  refine k_if_ne C (t := 106) rfl rfl rfl (fun _ => ?_) (fun c79 => absurd (by decide) c79)
  refine k_iconst C (x := 0) rfl rfl rfl ?_
  exact k_iret C rfl (Or.inl rfl) (Nat.le_of_ble_eq_true rfl) (Nat.le_of_ble_eq_true rfl) ⟨_, _, _, rfl, rfl, ⟨(Fr.i (Fr.i (Fr.i (Fr.i (Fr.i (Fr.i (Fr.i (Fr.i (Fr.i (Fr.i (Fr.i (Fr.i (Fr.i Fr.rf A_m) A_m) A_m) A_m) A_m) A_m) A_m) A_m) A_m) A_m) A_m) A_m) A_m), u2_s⟩⟩

theorem e_m_p {d : Nat} {T N : Nat → Nat} {I : IT} {L : LT} {R : RT} {m w : Nat}{p : Int32} (T_m : T m = 13) (R_m_1 : R m 1 = some w) (T_w : T w = 20) (N_w : N w = 4007) (I_w_0 : I w 0 = p) : Ex (d + 1) 183 [.ref m] (T, N, I, L, R) 0 0 (pI T N R (fun x9 I9 L9 => x9 = (p) ∧ I9 = I ∧ L9 = L)) := by
  refine ⟨_, rfl, Nat.le_of_ble_eq_true rfl, fun V C S => ?_⟩
  show V 0 [(0, .ref m)] [] (T, N, I, L, R) 0 0
  refine k_aload_n C rfl rfl rfl ?_
  refine g_R C rfl rfl rfl T_m rfl R_m_1 ?_
  refine k_iconst C (x := 0) rfl rfl rfl ?_
  refine a_I C rfl rfl T_w (vin (n := 0) rfl (by rw [N_w]; exact Nat.le_of_ble_eq_true rfl) (by rw [N_w]; exact Nat.le_of_ble_eq_true rfl)) I_w_0 ?_
  exact k_iret C rfl (Or.inl rfl) (Nat.le_of_ble_eq_true rfl) (Nat.le_of_ble_eq_true rfl) ⟨_, _, _, rfl, rfl, ⟨rfl, rfl, rfl⟩⟩

theorem e_m_mod {d : Nat} {T N : Nat → Nat} {I : IT} {L : LT} {R : RT} {m w : Nat} {v : Int64}{p : Int32} (T_m : T m = 13) (R_m_1 : R m 1 = some w) (T_w : T w = 20) (N_w : N w = 4007) (I_w_0 : I w 0 = p) (hp1 : 2 ≤ p.toInt) (hp2 : p.toInt ≤ 19) : Ex (d + 2) 192 [.ref m, .long v] (T, N, I, L, R) 0 0 (pI T N R (fun x9 I9 L9 => I9 = I ∧ L9 = L ∧ (x9.toInt = v.toInt % p.toInt))) := by
  refine ⟨_, rfl, Nat.le_of_ble_eq_true rfl, fun V C S => ?_⟩
  show V 0 [(0, .ref m), (1, .long v)] [] (T, N, I, L, R) 0 0
  refine k_lload_n C rfl rfl rfl ?_
  refine k_aload_n C rfl rfl rfl ?_
  refine c_VI C (e_m_p T_m R_m_1 T_w N_w (I_w_0) ) rfl rfl rfl rfl rfl ⟨_, rfl, rfl, T_m, Nat.le_of_ble_eq_true rfl⟩ rfl rfl (Nat.le_of_ble_eq_true rfl) (Nat.le_of_ble_eq_true rfl) (Nat.le_of_ble_eq_true rfl) ?_
  rintro _ _ _ ⟨hx7, hI8, hL9⟩
  have hx7 := hx7.symm; subst hx7
  have hI8 := hI8.symm; subst hI8; have hL9 := hL9.symm; subst hL9
  refine k_i2l C rfl rfl ?_
  refine c_SL C (e_fmL  (by rw [i2l_eq]; omega)) rfl rfl rfl rfl rfl rfl rfl (Nat.le_of_ble_eq_true rfl) (Nat.le_of_ble_eq_true rfl) (Nat.le_of_ble_eq_true rfl) ?_
  rintro x6 _ _ ⟨hI8, hL9, h6⟩
  have hI8 := hI8.symm; subst hI8; have hL9 := hL9.symm; subst hL9
  refine k_l2i C rfl rfl ?_
  exact k_iret C rfl (Or.inl rfl) (Nat.le_of_ble_eq_true rfl) (Nat.le_of_ble_eq_true rfl) ⟨_, _, _, rfl, rfl, ⟨rfl, rfl, by rw [i2l_eq] at h6; have := md_lt h6 hp1; rw [l2i_eq (by omega), h6]⟩⟩

theorem e_m_times {d : Nat} {T N : Nat → Nat} {I : IT} {L : LT} {R : RT} {m w : Nat} {u v : Int32}{p : Int32} (T_m : T m = 13) (R_m_1 : R m 1 = some w) (T_w : T w = 20) (N_w : N w = 4007) (I_w_0 : I w 0 = p) (hp1 : 2 ≤ p.toInt) (hp2 : p.toInt ≤ 19) (u1 : 0 ≤ u.toInt ∧ u.toInt ≤ 18) (v1 : 0 ≤ v.toInt ∧ v.toInt ≤ 18) : Ex (d + 2) 193 [.ref m, .int u, .int v] (T, N, I, L, R) 0 0 (pI T N R (fun x9 I9 L9 => I9 = I ∧ L9 = L ∧ (x9.toInt = u.toInt * v.toInt % p.toInt))) := by
  refine ⟨_, rfl, Nat.le_of_ble_eq_true rfl, fun V C S => ?_⟩
  show V 0 [(0, .ref m), (1, .int u), (2, .int v)] [] (T, N, I, L, R) 0 0
  refine k_iload_n C rfl rfl rfl ?_
  refine k_iload_n C rfl rfl rfl ?_
  refine k_imul C rfl rfl ?_
  refine k_aload_n C rfl rfl rfl ?_
  refine c_VI C (e_m_p T_m R_m_1 T_w N_w (I_w_0) ) rfl rfl rfl rfl rfl ⟨_, rfl, rfl, T_m, Nat.le_of_ble_eq_true rfl⟩ rfl rfl (Nat.le_of_ble_eq_true rfl) (Nat.le_of_ble_eq_true rfl) (Nat.le_of_ble_eq_true rfl) ?_
  rintro _ _ _ ⟨hx7, hI8, hL9⟩
  have hx7 := hx7.symm; subst hx7
  have hI8 := hI8.symm; subst hI8; have hL9 := hL9.symm; subst hL9
  refine k_irem C rfl rfl (i_ne0 (by omega)) ?_
  exact k_iret C rfl (Or.inl rfl) (Nat.le_of_ble_eq_true rfl) (Nat.le_of_ble_eq_true rfl) ⟨_, _, _, rfl, rfl, ⟨rfl, rfl, by
      have b := mul_bd u1 v1
      have e := ii_mul (x := u) (y := v) (by omega)
      rw [i_rem (by omega), e, Int.tmod_eq_emod_of_nonneg b.1]⟩⟩

theorem e_m_less {d : Nat} {T N : Nat → Nat} {I : IT} {L : LT} {R : RT} {m w : Nat} {u v : Int32}{p : Int32} (T_m : T m = 13) (R_m_1 : R m 1 = some w) (T_w : T w = 20) (N_w : N w = 4007) (I_w_0 : I w 0 = p) (hp1 : 2 ≤ p.toInt) (hp2 : p.toInt ≤ 19) (u1 : 0 ≤ u.toInt ∧ u.toInt < p.toInt) (v1 : 0 ≤ v.toInt ∧ v.toInt < p.toInt) : Ex (d + 2) 195 [.ref m, .int u, .int v] (T, N, I, L, R) 0 0 (pI T N R (fun x9 I9 L9 => I9 = I ∧ L9 = L ∧ (x9.toInt = (u.toInt - v.toInt) % p.toInt))) := by
  refine ⟨_, rfl, Nat.le_of_ble_eq_true rfl, fun V C S => ?_⟩
  show V 0 [(0, .ref m), (1, .int u), (2, .int v)] [] (T, N, I, L, R) 0 0
  refine k_iload_n C rfl rfl rfl ?_
  refine k_iload_n C rfl rfl rfl ?_
  refine k_isub C rfl rfl ?_
  refine k_aload_n C rfl rfl rfl ?_
  refine c_VI C (e_m_p T_m R_m_1 T_w N_w (I_w_0) ) rfl rfl rfl rfl rfl ⟨_, rfl, rfl, T_m, Nat.le_of_ble_eq_true rfl⟩ rfl rfl (Nat.le_of_ble_eq_true rfl) (Nat.le_of_ble_eq_true rfl) (Nat.le_of_ble_eq_true rfl) ?_
  rintro _ _ _ ⟨hx7, hI8, hL9⟩
  have hx7 := hx7.symm; subst hx7
  have hI8 := hI8.symm; subst hI8; have hL9 := hL9.symm; subst hL9
  refine k_iadd C rfl rfl ?_
  refine k_aload_n C rfl rfl rfl ?_
  refine c_VI C (e_m_p T_m R_m_1 T_w N_w (I_w_0) ) rfl rfl rfl rfl rfl ⟨_, rfl, rfl, T_m, Nat.le_of_ble_eq_true rfl⟩ rfl rfl (Nat.le_of_ble_eq_true rfl) (Nat.le_of_ble_eq_true rfl) (Nat.le_of_ble_eq_true rfl) ?_
  rintro _ _ _ ⟨hx7, hI8, hL9⟩
  have hx7 := hx7.symm; subst hx7
  have hI8 := hI8.symm; subst hI8; have hL9 := hL9.symm; subst hL9
  refine k_irem C rfl rfl (i_ne0 (by omega)) ?_
  exact k_iret C rfl (Or.inl rfl) (Nat.le_of_ble_eq_true rfl) (Nat.le_of_ble_eq_true rfl) ⟨_, _, _, rfl, rfl, ⟨rfl, rfl, by
      have e1 := ii_sub (x := u) (y := v) (by omega)
      have e2 := ii_add (x := u - v) (y := p) (by rw [e1]; omega)
      rw [i_rem (by omega), e2, e1, Int.tmod_eq_emod_of_nonneg (by omega), Int.add_emod_right]⟩⟩

theorem e_m_detNow {d : Nat} {T N : Nat → Nat} {I : IT} {L : LT} {R : RT} {m w : Nat}{p a b c e : Int32} (T_m : T m = 13) (R_m_1 : R m 1 = some w) (T_w : T w = 20) (N_w : N w = 4007) (I_w_0 : I w 0 = p) (I_m_6 : I m 6 = a) (I_m_7 : I m 7 = b) (I_m_8 : I m 8 = c) (I_m_9 : I m 9 = e) (hp1 : 2 ≤ p.toInt) (hp2 : p.toInt ≤ 19) (a1 : 0 ≤ a.toInt ∧ a.toInt < p.toInt) (b1 : 0 ≤ b.toInt ∧ b.toInt < p.toInt) (c1 : 0 ≤ c.toInt ∧ c.toInt < p.toInt) (e1 : 0 ≤ e.toInt ∧ e.toInt < p.toInt) : Ex (d + 3) 212 [.ref m] (T, N, I, L, R) 0 0 (pI T N R (fun x9 I9 L9 => I9 = I ∧ L9 = L ∧ (x9.toInt = (a.toInt * e.toInt % p.toInt - b.toInt * c.toInt % p.toInt) % p.toInt))) := by
  refine ⟨_, rfl, Nat.le_of_ble_eq_true rfl, fun V C S => ?_⟩
  show V 0 [(0, .ref m)] [] (T, N, I, L, R) 0 0
  refine k_aload_n C rfl rfl rfl ?_
  refine k_aload_n C rfl rfl rfl ?_
  refine k_aload_n C rfl rfl rfl ?_
  refine g_I C rfl rfl rfl T_m rfl (I_m_6) ?_
  refine k_aload_n C rfl rfl rfl ?_
  refine g_I C rfl rfl rfl T_m rfl (I_m_9) ?_
  refine c_VI C (e_m_times T_m R_m_1 T_w N_w (I_w_0) hp1 hp2 (by omega) (by omega)) rfl rfl rfl rfl rfl ⟨_, rfl, rfl, T_m, Nat.le_of_ble_eq_true rfl⟩ rfl rfl (Nat.le_of_ble_eq_true rfl) (Nat.le_of_ble_eq_true rfl) (Nat.le_of_ble_eq_true rfl) ?_
  rintro x10 _ _ ⟨hI8, hL9, h10⟩
  have hI8 := hI8.symm; subst hI8; have hL9 := hL9.symm; subst hL9
  refine k_aload_n C rfl rfl rfl ?_
  refine k_aload_n C rfl rfl rfl ?_
  refine g_I C rfl rfl rfl T_m rfl (I_m_7) ?_
  refine k_aload_n C rfl rfl rfl ?_
  refine g_I C rfl rfl rfl T_m rfl (I_m_8) ?_
  refine c_VI C (e_m_times T_m R_m_1 T_w N_w (I_w_0) hp1 hp2 (by omega) (by omega)) rfl rfl rfl rfl rfl ⟨_, rfl, rfl, T_m, Nat.le_of_ble_eq_true rfl⟩ rfl rfl (Nat.le_of_ble_eq_true rfl) (Nat.le_of_ble_eq_true rfl) (Nat.le_of_ble_eq_true rfl) ?_
  rintro x22 _ _ ⟨hI8, hL9, h22⟩
  have hI8 := hI8.symm; subst hI8; have hL9 := hL9.symm; subst hL9
  refine c_VI C (e_m_less T_m R_m_1 T_w N_w (I_w_0) hp1 hp2 (md_lt h10 hp1) (md_lt h22 hp1)) rfl rfl rfl rfl rfl ⟨_, rfl, rfl, T_m, Nat.le_of_ble_eq_true rfl⟩ rfl rfl (Nat.le_of_ble_eq_true rfl) (Nat.le_of_ble_eq_true rfl) (Nat.le_of_ble_eq_true rfl) ?_
  rintro x25 _ _ ⟨hI8, hL9, h25⟩
  have hI8 := hI8.symm; subst hI8; have hL9 := hL9.symm; subst hL9
  exact k_iret C rfl (Or.inl rfl) (Nat.le_of_ble_eq_true rfl) (Nat.le_of_ble_eq_true rfl) ⟨_, _, _, rfl, rfl, ⟨rfl, rfl, by rw [h25, h10, h22]⟩⟩

theorem e_m_takesTable {d : Nat} {T N : Nat → Nat} {I : IT} {L : LT} {R : RT} {m : Nat} {a b c e : Int32} (T_m : T m = 13) : Ex (d + 1) 210 [.ref m, .int a, .int b, .int c, .int e] (T, N, I, L, R) 0 0 (pV T N R (fun I9 L9 => I9 = (u2 (u2 (u2 (u2 I m 6 a) m 7 b) m 8 c) m 9 e) ∧ L9 = (L))) := by
  refine ⟨_, rfl, Nat.le_of_ble_eq_true rfl, fun V C S => ?_⟩
  show V 0 [(0, .ref m), (1, .int a), (2, .int b), (3, .int c), (4, .int e)] [] (T, N, I, L, R) 0 0
  refine k_aload_n C rfl rfl rfl ?_
  refine k_iload_n C rfl rfl rfl ?_
  refine p_I C rfl rfl rfl T_m (Or.inr rfl) rfl ?_
  refine k_aload_n C rfl rfl rfl ?_
  refine k_iload_n C rfl rfl rfl ?_
  refine p_I C rfl rfl rfl T_m (Or.inr rfl) rfl ?_
  refine k_aload_n C rfl rfl rfl ?_
  refine k_iload_n C rfl rfl rfl ?_
  refine p_I C rfl rfl rfl T_m (Or.inr rfl) rfl ?_
  refine k_aload_n C rfl rfl rfl ?_
  refine k_iload C rfl rfl rfl ?_
  refine p_I C rfl rfl rfl T_m (Or.inr rfl) rfl ?_
  exact k_vret C rfl rfl (Nat.le_of_ble_eq_true rfl) (Nat.le_of_ble_eq_true rfl) ⟨_, _, rfl, rfl, ⟨rfl, rfl⟩⟩

theorem dt_eq (p a b c e : Int) : ((a % p) * (e % p) % p - (b % p) * (c % p) % p) % p = dt p a b c e := by
  unfold dt; rw [← Int.sub_emod]
theorem e_m_table_no {d : Nat} {T N : Nat → Nat} {I : IT} {L : LT} {R : RT} {A : Nat → Prop} {m w : Nat} {n0 n1 n2 n3 : Int32}{p : Int32} (T_m : T m = 13) (R_m_1 : R m 1 = some w) (T_w : T w = 20) (N_w : N w = 4007) (I_w_0 : I w 0 = p) (A_m : A m) (hp1 : 2 ≤ p.toInt) (hp2 : p.toInt ≤ 19) (h0 : dt p.toInt n0.toInt n1.toInt n2.toInt n3.toInt = 0) : Ex (d + 4) 235 [.ref m, .int n0, .int n1, .int n2, .int n3] (T, N, I, L, R) 0 0 (pI T N R (fun x9 I9 L9 => Fr A I L I9 L9 ∧ I9 m 0 = 1)) := by
  refine ⟨_, rfl, Nat.le_of_ble_eq_true rfl, fun V C S => ?_⟩
  show V 0 [(0, .ref m), (1, .int n0), (2, .int n1), (3, .int n2), (4, .int n3)] [] (T, N, I, L, R) 0 0
  refine k_aload_n C rfl rfl rfl ?_
  refine k_iconst C (x := 0) rfl rfl rfl ?_
  refine p_I C rfl rfl rfl T_m (Or.inr rfl) rfl ?_
  refine k_aload_n C rfl rfl rfl ?_
  refine k_aload_n C rfl rfl rfl ?_
  refine k_iload_n C rfl rfl rfl ?_
  refine k_i2l C rfl rfl ?_
  refine c_VI C (e_m_mod T_m R_m_1 T_w N_w ((u2_a (t_nq T_w T_m (by decide))).trans I_w_0) hp1 hp2) rfl rfl rfl rfl rfl ⟨_, rfl, rfl, T_m, Nat.le_of_ble_eq_true rfl⟩ rfl rfl (Nat.le_of_ble_eq_true rfl) (Nat.le_of_ble_eq_true rfl) (Nat.le_of_ble_eq_true rfl) ?_
  rintro x9 _ _ ⟨hI8, hL9, h9⟩
  have hI8 := hI8.symm; subst hI8; have hL9 := hL9.symm; subst hL9
  refine k_aload_n C rfl rfl rfl ?_
  refine k_iload_n C rfl rfl rfl ?_
  refine k_i2l C rfl rfl ?_
  refine c_VI C (e_m_mod T_m R_m_1 T_w N_w ((u2_a (t_nq T_w T_m (by decide))).trans I_w_0) hp1 hp2) rfl rfl rfl rfl rfl ⟨_, rfl, rfl, T_m, Nat.le_of_ble_eq_true rfl⟩ rfl rfl (Nat.le_of_ble_eq_true rfl) (Nat.le_of_ble_eq_true rfl) (Nat.le_of_ble_eq_true rfl) ?_
  rintro x15 _ _ ⟨hI8, hL9, h15⟩
  have hI8 := hI8.symm; subst hI8; have hL9 := hL9.symm; subst hL9
  refine k_aload_n C rfl rfl rfl ?_
  refine k_iload_n C rfl rfl rfl ?_
  refine k_i2l C rfl rfl ?_
  refine c_VI C (e_m_mod T_m R_m_1 T_w N_w ((u2_a (t_nq T_w T_m (by decide))).trans I_w_0) hp1 hp2) rfl rfl rfl rfl rfl ⟨_, rfl, rfl, T_m, Nat.le_of_ble_eq_true rfl⟩ rfl rfl (Nat.le_of_ble_eq_true rfl) (Nat.le_of_ble_eq_true rfl) (Nat.le_of_ble_eq_true rfl) ?_
  rintro x21 _ _ ⟨hI8, hL9, h21⟩
  have hI8 := hI8.symm; subst hI8; have hL9 := hL9.symm; subst hL9
  refine k_aload_n C rfl rfl rfl ?_
  refine k_iload C rfl rfl rfl ?_
  refine k_i2l C rfl rfl ?_
  refine c_VI C (e_m_mod T_m R_m_1 T_w N_w ((u2_a (t_nq T_w T_m (by decide))).trans I_w_0) hp1 hp2) rfl rfl rfl rfl rfl ⟨_, rfl, rfl, T_m, Nat.le_of_ble_eq_true rfl⟩ rfl rfl (Nat.le_of_ble_eq_true rfl) (Nat.le_of_ble_eq_true rfl) (Nat.le_of_ble_eq_true rfl) ?_
  rintro x28 _ _ ⟨hI8, hL9, h28⟩
  have hI8 := hI8.symm; subst hI8; have hL9 := hL9.symm; subst hL9
  refine c_VV C (e_m_takesTable T_m ) rfl rfl rfl rfl rfl ⟨_, rfl, rfl, T_m, Nat.le_of_ble_eq_true rfl⟩ rfl rfl (Nat.le_of_ble_eq_true rfl) (Nat.le_of_ble_eq_true rfl) (Nat.le_of_ble_eq_true rfl) ?_
  rintro _ _ ⟨hI8, hL9⟩
  have hI8 := hI8.symm; subst hI8; have hL9 := hL9.symm; subst hL9
  rw [i2l_eq] at h9 h15 h21 h28
  have b9 := md_lt h9 hp1
  have b15 := md_lt h15 hp1
  have b21 := md_lt h21 hp1
  have b28 := md_lt h28 hp1
  refine k_aload_n C rfl rfl rfl ?_
  refine k_aload_n C rfl rfl rfl ?_
  refine c_VI C (e_m_detNow T_m R_m_1 T_w N_w ((u2_a (t_nq T_w T_m (by decide))).trans ((u2_a (t_nq T_w T_m (by decide))).trans ((u2_a (t_nq T_w T_m (by decide))).trans ((u2_a (t_nq T_w T_m (by decide))).trans ((u2_a (t_nq T_w T_m (by decide))).trans I_w_0))))) ((u2_k (by decide)).trans ((u2_k (by decide)).trans ((u2_k (by decide)).trans u2_s))) ((u2_k (by decide)).trans ((u2_k (by decide)).trans u2_s)) ((u2_k (by decide)).trans u2_s) u2_s hp1 hp2 b9 b15 b21 b28) rfl rfl rfl rfl rfl ⟨_, rfl, rfl, T_m, Nat.le_of_ble_eq_true rfl⟩ rfl rfl (Nat.le_of_ble_eq_true rfl) (Nat.le_of_ble_eq_true rfl) (Nat.le_of_ble_eq_true rfl) ?_
  rintro x36 _ _ ⟨hI8, hL9, h36⟩
  have hI8 := hI8.symm; subst hI8; have hL9 := hL9.symm; subst hL9
  have g36 : x36.toInt = dt p.toInt n0.toInt n1.toInt n2.toInt n3.toInt := by rw [h36, h9, h15, h21, h28]; exact dt_eq _ _ _ _ _
  refine k_if_ne C (t := 46) rfl rfl rfl (fun c39 => ?_) (fun c39 => ?_)
  · skip
    exact absurd (Int32.toInt_inj.mp (by rw [g36, h0]; rfl)) c39
  refine k_iconst C (x := 1) rfl rfl rfl ?_
  refine k_goto C (pc2 := 47) rfl rfl ?_
  refine k_iconst C (x := 1) rfl rfl rfl ?_
  refine c_VI C (e_throwsIf1 T_m rfl) rfl rfl rfl rfl rfl ⟨_, rfl, rfl, T_m, Nat.le_of_ble_eq_true rfl⟩ rfl rfl (Nat.le_of_ble_eq_true rfl) (Nat.le_of_ble_eq_true rfl) (Nat.le_of_ble_eq_true rfl) ?_
  rintro _ _ _ ⟨hx7, hI8, hL9⟩
  have hx7 := hx7.symm; subst hx7
  have hI8 := hI8.symm; subst hI8; have hL9 := hL9.symm; subst hL9
  refine k_if_ne C (t := 78) rfl rfl rfl (fun _ => ?_) (fun c51 => absurd (by decide) c51)
  refine k_iconst C (x := 0) rfl rfl rfl ?_
  refine k_goto C (pc2 := 86) rfl rfl ?_
  exact k_iret C rfl (Or.inl rfl) (Nat.le_of_ble_eq_true rfl) (Nat.le_of_ble_eq_true rfl) ⟨_, _, _, rfl, rfl, ⟨(Fr.i (Fr.i (Fr.i (Fr.i (Fr.i (Fr.i Fr.rf A_m) A_m) A_m) A_m) A_m) A_m), u2_s⟩⟩

theorem e_m_lays0 {d : Nat} {T N : Nat → Nat} {I : IT} {L : LT} {R : RT} {A : Nat → Prop} {m w : Nat} (T_m : T m = 13) (R_m_1 : R m 1 = some w) (T_w : T w = 20) (N_w : N w = 4007) (I_w_2 : I w 2 = 0) (A_w : A w) : Ex (d + 1) 234 [.ref m] (T, N, I, L, R) 0 0 (pI T N R (fun x9 I9 L9 => x9 = 0 ∧ Fr A I L I9 L9 ∧ I9 m = I m)) := by
  refine ⟨_, rfl, Nat.le_of_ble_eq_true rfl, fun V C S => ?_⟩
  show V 0 [(0, .ref m)] [] (T, N, I, L, R) 0 0
  refine k_sipush C (x := 166) rfl rfl rfl ?_
  refine k_iconst C (x := 4) rfl rfl rfl ?_
  refine k_aload_n C rfl rfl rfl ?_
  refine g_R C rfl rfl rfl T_m rfl R_m_1 ?_
  refine k_iconst C (x := 2) rfl rfl rfl ?_
  refine a_I C rfl rfl T_w (vin (n := 2) rfl (by rw [N_w]; exact Nat.le_of_ble_eq_true rfl) (by rw [N_w]; exact Nat.le_of_ble_eq_true rfl)) I_w_2 ?_
  refine k_imul C rfl rfl ?_
  refine k_iadd C rfl rfl ?_
  refine k_istore_n C (lw := [(1, .int _), (0, _)]) rfl rfl (Nat.le_of_ble_eq_true rfl) rfl ?_
  refine k_aload_n C rfl rfl rfl ?_
  refine g_R C rfl rfl rfl T_m rfl R_m_1 ?_
  refine k_iload_n C rfl rfl rfl ?_
  refine k_aload_n C rfl rfl rfl ?_
  refine g_I C rfl rfl rfl T_m rfl (rfl) ?_
  refine s_I C rfl rfl T_w (vin (n := 166) rfl (by rw [N_w]; exact Nat.le_of_ble_eq_true rfl) (by rw [N_w]; exact Nat.le_of_ble_eq_true rfl)) rfl ?_
  refine k_aload_n C rfl rfl rfl ?_
  refine g_R C rfl rfl rfl T_m rfl R_m_1 ?_
  refine k_iload_n C rfl rfl rfl ?_
  refine k_iconst C (x := 1) rfl rfl rfl ?_
  refine k_iadd C rfl rfl ?_
  refine k_aload_n C rfl rfl rfl ?_
  refine g_I C rfl rfl rfl T_m rfl ((u2_a (t_nq T_m T_w (by decide))).trans (rfl)) ?_
  refine s_I C rfl rfl T_w (vin (n := 167) rfl (by rw [N_w]; exact Nat.le_of_ble_eq_true rfl) (by rw [N_w]; exact Nat.le_of_ble_eq_true rfl)) rfl ?_
  refine k_aload_n C rfl rfl rfl ?_
  refine g_R C rfl rfl rfl T_m rfl R_m_1 ?_
  refine k_iload_n C rfl rfl rfl ?_
  refine k_iconst C (x := 2) rfl rfl rfl ?_
  refine k_iadd C rfl rfl ?_
  refine k_aload_n C rfl rfl rfl ?_
  refine g_I C rfl rfl rfl T_m rfl ((u2_a (t_nq T_m T_w (by decide))).trans ((u2_a (t_nq T_m T_w (by decide))).trans (rfl))) ?_
  refine s_I C rfl rfl T_w (vin (n := 168) rfl (by rw [N_w]; exact Nat.le_of_ble_eq_true rfl) (by rw [N_w]; exact Nat.le_of_ble_eq_true rfl)) rfl ?_
  refine k_aload_n C rfl rfl rfl ?_
  refine g_R C rfl rfl rfl T_m rfl R_m_1 ?_
  refine k_iload_n C rfl rfl rfl ?_
  refine k_iconst C (x := 3) rfl rfl rfl ?_
  refine k_iadd C rfl rfl ?_
  refine k_aload_n C rfl rfl rfl ?_
  refine g_I C rfl rfl rfl T_m rfl ((u2_a (t_nq T_m T_w (by decide))).trans ((u2_a (t_nq T_m T_w (by decide))).trans ((u2_a (t_nq T_m T_w (by decide))).trans (rfl)))) ?_
  refine s_I C rfl rfl T_w (vin (n := 169) rfl (by rw [N_w]; exact Nat.le_of_ble_eq_true rfl) (by rw [N_w]; exact Nat.le_of_ble_eq_true rfl)) rfl ?_
  refine k_aload_n C rfl rfl rfl ?_
  refine g_R C rfl rfl rfl T_m rfl R_m_1 ?_
  refine k_iconst C (x := 2) rfl rfl rfl ?_
  refine k_dup2 C rfl rfl rfl rfl ?_
  refine a_I C rfl rfl T_w (vin (n := 2) rfl (by rw [N_w]; exact Nat.le_of_ble_eq_true rfl) (by rw [N_w]; exact Nat.le_of_ble_eq_true rfl)) ((u2_k (by decide)).trans ((u2_k (by decide)).trans ((u2_k (by decide)).trans ((u2_k (by decide)).trans I_w_2)))) ?_
  refine k_iconst C (x := 1) rfl rfl rfl ?_
  refine k_iadd C rfl rfl ?_
  refine s_I C rfl rfl T_w (vin (n := 2) rfl (by rw [N_w]; exact Nat.le_of_ble_eq_true rfl) (by rw [N_w]; exact Nat.le_of_ble_eq_true rfl)) rfl ?_
  refine k_aload_n C rfl rfl rfl ?_
  refine g_R C rfl rfl rfl T_m rfl R_m_1 ?_
  refine k_iconst C (x := 2) rfl rfl rfl ?_
  refine a_I C rfl rfl T_w (vin (n := 2) rfl (by rw [N_w]; exact Nat.le_of_ble_eq_true rfl) (by rw [N_w]; exact Nat.le_of_ble_eq_true rfl)) u2_s ?_
  refine k_iconst C (x := 1) rfl rfl rfl ?_
  refine k_isub C rfl rfl ?_
  exact k_iret C rfl (Or.inl rfl) (Nat.le_of_ble_eq_true rfl) (Nat.le_of_ble_eq_true rfl) ⟨_, _, _, rfl, rfl, ⟨by decide, (Fr.i (Fr.i (Fr.i (Fr.i (Fr.i Fr.rf A_w) A_w) A_w) A_w) A_w), (u2_r (t_nq T_m T_w (by decide))).trans ((u2_r (t_nq T_m T_w (by decide))).trans ((u2_r (t_nq T_m T_w (by decide))).trans ((u2_r (t_nq T_m T_w (by decide))).trans (u2_r (t_nq T_m T_w (by decide))))))⟩⟩

theorem e_m_table_yes {d : Nat} {T N : Nat → Nat} {I : IT} {L : LT} {R : RT} {A : Nat → Prop} {m w : Nat} {n0 n1 n2 n3 : Int32}{p : Int32} (T_m : T m = 13) (R_m_1 : R m 1 = some w) (T_w : T w = 20) (N_w : N w = 4007) (I_w_0 : I w 0 = p) (A_m : A m) (A_w : A w) (I_w_2 : I w 2 = 0) (hp1 : 2 ≤ p.toInt) (hp2 : p.toInt ≤ 19) (h0 : dt p.toInt n0.toInt n1.toInt n2.toInt n3.toInt ≠ 0) : Ex (d + 4) 235 [.ref m, .int n0, .int n1, .int n2, .int n3] (T, N, I, L, R) 0 0 (pI T N R (fun x9 I9 L9 => x9 = 0 ∧ Fr A I L I9 L9 ∧ I9 m 0 = 0)) := by
  refine ⟨_, rfl, Nat.le_of_ble_eq_true rfl, fun V C S => ?_⟩
  show V 0 [(0, .ref m), (1, .int n0), (2, .int n1), (3, .int n2), (4, .int n3)] [] (T, N, I, L, R) 0 0
  refine k_aload_n C rfl rfl rfl ?_
  refine k_iconst C (x := 0) rfl rfl rfl ?_
  refine p_I C rfl rfl rfl T_m (Or.inr rfl) rfl ?_
  refine k_aload_n C rfl rfl rfl ?_
  refine k_aload_n C rfl rfl rfl ?_
  refine k_iload_n C rfl rfl rfl ?_
  refine k_i2l C rfl rfl ?_
  refine c_VI C (e_m_mod T_m R_m_1 T_w N_w ((u2_a (t_nq T_w T_m (by decide))).trans I_w_0) hp1 hp2) rfl rfl rfl rfl rfl ⟨_, rfl, rfl, T_m, Nat.le_of_ble_eq_true rfl⟩ rfl rfl (Nat.le_of_ble_eq_true rfl) (Nat.le_of_ble_eq_true rfl) (Nat.le_of_ble_eq_true rfl) ?_
  rintro x9 _ _ ⟨hI8, hL9, h9⟩
  have hI8 := hI8.symm; subst hI8; have hL9 := hL9.symm; subst hL9
  refine k_aload_n C rfl rfl rfl ?_
  refine k_iload_n C rfl rfl rfl ?_
  refine k_i2l C rfl rfl ?_
  refine c_VI C (e_m_mod T_m R_m_1 T_w N_w ((u2_a (t_nq T_w T_m (by decide))).trans I_w_0) hp1 hp2) rfl rfl rfl rfl rfl ⟨_, rfl, rfl, T_m, Nat.le_of_ble_eq_true rfl⟩ rfl rfl (Nat.le_of_ble_eq_true rfl) (Nat.le_of_ble_eq_true rfl) (Nat.le_of_ble_eq_true rfl) ?_
  rintro x15 _ _ ⟨hI8, hL9, h15⟩
  have hI8 := hI8.symm; subst hI8; have hL9 := hL9.symm; subst hL9
  refine k_aload_n C rfl rfl rfl ?_
  refine k_iload_n C rfl rfl rfl ?_
  refine k_i2l C rfl rfl ?_
  refine c_VI C (e_m_mod T_m R_m_1 T_w N_w ((u2_a (t_nq T_w T_m (by decide))).trans I_w_0) hp1 hp2) rfl rfl rfl rfl rfl ⟨_, rfl, rfl, T_m, Nat.le_of_ble_eq_true rfl⟩ rfl rfl (Nat.le_of_ble_eq_true rfl) (Nat.le_of_ble_eq_true rfl) (Nat.le_of_ble_eq_true rfl) ?_
  rintro x21 _ _ ⟨hI8, hL9, h21⟩
  have hI8 := hI8.symm; subst hI8; have hL9 := hL9.symm; subst hL9
  refine k_aload_n C rfl rfl rfl ?_
  refine k_iload C rfl rfl rfl ?_
  refine k_i2l C rfl rfl ?_
  refine c_VI C (e_m_mod T_m R_m_1 T_w N_w ((u2_a (t_nq T_w T_m (by decide))).trans I_w_0) hp1 hp2) rfl rfl rfl rfl rfl ⟨_, rfl, rfl, T_m, Nat.le_of_ble_eq_true rfl⟩ rfl rfl (Nat.le_of_ble_eq_true rfl) (Nat.le_of_ble_eq_true rfl) (Nat.le_of_ble_eq_true rfl) ?_
  rintro x28 _ _ ⟨hI8, hL9, h28⟩
  have hI8 := hI8.symm; subst hI8; have hL9 := hL9.symm; subst hL9
  refine c_VV C (e_m_takesTable T_m ) rfl rfl rfl rfl rfl ⟨_, rfl, rfl, T_m, Nat.le_of_ble_eq_true rfl⟩ rfl rfl (Nat.le_of_ble_eq_true rfl) (Nat.le_of_ble_eq_true rfl) (Nat.le_of_ble_eq_true rfl) ?_
  rintro _ _ ⟨hI8, hL9⟩
  have hI8 := hI8.symm; subst hI8; have hL9 := hL9.symm; subst hL9
  rw [i2l_eq] at h9 h15 h21 h28
  have b9 := md_lt h9 hp1
  have b15 := md_lt h15 hp1
  have b21 := md_lt h21 hp1
  have b28 := md_lt h28 hp1
  refine k_aload_n C rfl rfl rfl ?_
  refine k_aload_n C rfl rfl rfl ?_
  refine c_VI C (e_m_detNow T_m R_m_1 T_w N_w ((u2_a (t_nq T_w T_m (by decide))).trans ((u2_a (t_nq T_w T_m (by decide))).trans ((u2_a (t_nq T_w T_m (by decide))).trans ((u2_a (t_nq T_w T_m (by decide))).trans ((u2_a (t_nq T_w T_m (by decide))).trans I_w_0))))) ((u2_k (by decide)).trans ((u2_k (by decide)).trans ((u2_k (by decide)).trans u2_s))) ((u2_k (by decide)).trans ((u2_k (by decide)).trans u2_s)) ((u2_k (by decide)).trans u2_s) u2_s hp1 hp2 b9 b15 b21 b28) rfl rfl rfl rfl rfl ⟨_, rfl, rfl, T_m, Nat.le_of_ble_eq_true rfl⟩ rfl rfl (Nat.le_of_ble_eq_true rfl) (Nat.le_of_ble_eq_true rfl) (Nat.le_of_ble_eq_true rfl) ?_
  rintro x36 _ _ ⟨hI8, hL9, h36⟩
  have hI8 := hI8.symm; subst hI8; have hL9 := hL9.symm; subst hL9
  have g36 : x36.toInt = dt p.toInt n0.toInt n1.toInt n2.toInt n3.toInt := by rw [h36, h9, h15, h21, h28]; exact dt_eq _ _ _ _ _
  refine k_if_ne C (t := 46) rfl rfl rfl (fun c39 => ?_) (fun c39 => ?_)
  · skip
    refine k_iconst C (x := 0) rfl rfl rfl ?_
    refine k_iconst C (x := 1) rfl rfl rfl ?_
    refine c_VI C (e_throwsIf0 T_m rfl) rfl rfl rfl rfl rfl ⟨_, rfl, rfl, T_m, Nat.le_of_ble_eq_true rfl⟩ rfl rfl (Nat.le_of_ble_eq_true rfl) (Nat.le_of_ble_eq_true rfl) (Nat.le_of_ble_eq_true rfl) ?_
    rintro _ _ _ ⟨hx7, hI8, hL9⟩
    have hx7 := hx7.symm; subst hx7
    have hI8 := hI8.symm; subst hI8; have hL9 := hL9.symm; subst hL9
    refine k_if_ne C (t := 78) rfl rfl rfl (fun c51 => absurd c51 (by decide)) (fun _ => ?_)
    refine k_aload_n C rfl rfl rfl ?_
    refine k_aload_n C rfl rfl rfl ?_
    refine g_R C rfl rfl rfl T_m rfl R_m_1 ?_
    refine k_iconst C (x := 2) rfl rfl rfl ?_
    refine a_I C rfl rfl T_w (vin (n := 2) rfl (by rw [N_w]; exact Nat.le_of_ble_eq_true rfl) (by rw [N_w]; exact Nat.le_of_ble_eq_true rfl)) ((u2_a (t_nq T_w T_m (by decide))).trans ((u2_a (t_nq T_w T_m (by decide))).trans ((u2_a (t_nq T_w T_m (by decide))).trans ((u2_a (t_nq T_w T_m (by decide))).trans ((u2_a (t_nq T_w T_m (by decide))).trans I_w_2))))) ?_
    refine k_bipush C (x := 8) rfl rfl rfl ?_
    refine k_icmp_ne C (t := 70) rfl rfl rfl (fun c63 => ?_) (fun c63 => ?_)
    · skip
      refine k_iconst C (x := 0) rfl rfl rfl ?_
      refine k_iconst C (x := 2) rfl rfl rfl ?_
      refine c_VI C (e_throwsIf0 T_m rfl) rfl rfl rfl rfl rfl ⟨_, rfl, rfl, T_m, Nat.le_of_ble_eq_true rfl⟩ rfl rfl (Nat.le_of_ble_eq_true rfl) (Nat.le_of_ble_eq_true rfl) (Nat.le_of_ble_eq_true rfl) ?_
      rintro _ _ _ ⟨hx7, hI8, hL9⟩
      have hx7 := hx7.symm; subst hx7
      have hI8 := hI8.symm; subst hI8; have hL9 := hL9.symm; subst hL9
      refine k_if_eq C (t := 82) rfl rfl rfl (fun _ => ?_) (fun c75 => absurd (by decide) c75)
      refine k_aload_n C rfl rfl rfl ?_
      refine c_VI C (e_m_lays0 T_m R_m_1 T_w N_w ((u2_a (t_nq T_w T_m (by decide))).trans ((u2_a (t_nq T_w T_m (by decide))).trans ((u2_a (t_nq T_w T_m (by decide))).trans ((u2_a (t_nq T_w T_m (by decide))).trans ((u2_a (t_nq T_w T_m (by decide))).trans I_w_2))))) A_w ) rfl rfl rfl rfl rfl ⟨_, rfl, rfl, T_m, Nat.le_of_ble_eq_true rfl⟩ rfl rfl (Nat.le_of_ble_eq_true rfl) (Nat.le_of_ble_eq_true rfl) (Nat.le_of_ble_eq_true rfl) ?_
      intro x83 I83 L83 h83
      exact k_iret C rfl (Or.inl rfl) (Nat.le_of_ble_eq_true rfl) (Nat.le_of_ble_eq_true rfl) ⟨_, _, _, rfl, rfl, ⟨h83.1, Fr.tr (Fr.i (Fr.i (Fr.i (Fr.i (Fr.i Fr.rf A_m) A_m) A_m) A_m) A_m) h83.2.1, (congrFun h83.2.2 0).trans ((u2_k (by decide)).trans ((u2_k (by decide)).trans ((u2_k (by decide)).trans ((u2_k (by decide)).trans u2_s))))⟩⟩
    exact absurd (by decide) c63
  have c39 : x36 = 0 := Decidable.not_not.mp c39
  exact absurd (by rw [← g36, c39]; rfl) h0

theorem e_m_back0 {d : Nat} {T N : Nat → Nat} {I : IT} {L : LT} {R : RT} {A : Nat → Prop} {m : Nat} (T_m : T m = 13) (A_m : A m) (I_m_3 : I m 3 = 0) : Ex (d + 1) 182 [.ref m] (T, N, I, L, R) 0 0 (pI T N R (fun x9 I9 L9 => x9 = 0 ∧ Fr A I L I9 L9 ∧ I9 m 0 = 0)) := by
  refine ⟨_, rfl, Nat.le_of_ble_eq_true rfl, fun V C S => ?_⟩
  show V 0 [(0, .ref m)] [] (T, N, I, L, R) 0 0
  refine k_aload_n C rfl rfl rfl ?_
  refine k_iconst C (x := 0) rfl rfl rfl ?_
  refine p_I C rfl rfl rfl T_m (Or.inr rfl) rfl ?_
  refine k_aload_n C rfl rfl rfl ?_
  refine g_I C rfl rfl rfl T_m rfl ((u2_k (by decide)).trans (I_m_3)) ?_
  refine k_if_ne C (t := 14) rfl rfl rfl (fun c9 => absurd c9 (by decide)) (fun _ => ?_)
  refine k_iconst C (x := 0) rfl rfl rfl ?_
  exact k_iret C rfl (Or.inr ⟨rfl, Or.inl rfl⟩) (Nat.le_of_ble_eq_true rfl) (Nat.le_of_ble_eq_true rfl) ⟨_, _, _, rfl, rfl, ⟨rfl, (Fr.i Fr.rf A_m), u2_s⟩⟩

theorem e_m_stock0 {d : Nat} {T N : Nat → Nat} {I : IT} {L : LT} {R : RT} {A : Nat → Prop} {m w : Nat} {n : Int32} (T_m : T m = 13) (R_m_1 : R m 1 = some w) (T_w : T w = 20) (N_w : N w = 4007) (A_m : A m) (I_w_0 : I w 0 = 11) (I_w_1 : I w 1 = 0) (I_w_2 : I w 2 = 0) (I_w_3 : I w 3 = 0) (I_w_4 : I w 4 = 0) (I_w_5 : I w 5 = 0) : Ex (d + 2) 313 [.ref m, .int n] (T, N, I, L, R) 0 0 (pI T N R (fun x9 I9 L9 => x9 = stk n.toInt ∧ Fr A I L I9 L9 ∧ I9 m 0 = 0)) := by
  refine ⟨_, rfl, Nat.le_of_ble_eq_true rfl, fun V C S => ?_⟩
  show V 0 [(0, .ref m), (1, .int n)] [] (T, N, I, L, R) 0 0
  refine k_aload_n C rfl rfl rfl ?_
  refine k_iconst C (x := 0) rfl rfl rfl ?_
  refine p_I C rfl rfl rfl T_m (Or.inr rfl) rfl ?_
  refine k_iconst C (x := 0) rfl rfl rfl ?_
  refine k_istore_n C (lw := [(2, .int _), (0, _), (1, .int _)]) rfl rfl (Nat.le_of_ble_eq_true rfl) rfl ?_
  refine k_iload_n C rfl rfl rfl ?_
  refine k_table C rfl (by decide) (fun h => ?_) (fun h1 h2 => ?_)
  · show V 136 [(2, .int 0), (0, .ref m), (1, .int n)] [] _ _ _
    refine k_iconst C (x := -1) rfl rfl rfl ?_
    exact k_iret C rfl (Or.inl rfl) (Nat.le_of_ble_eq_true rfl) (Nat.le_of_ble_eq_true rfl) ⟨_, _, _, rfl, rfl, ⟨by rw [stk, if_neg (by omega), if_neg (by omega)], Fr.i Fr.rf A_m, u2_s⟩⟩
  · have h3 : n.toInt = 0 ∨ n.toInt = 1 ∨ n.toInt = 2 ∨ n.toInt = 3 ∨ n.toInt = 4 ∨ n.toInt = 5 ∨ n.toInt = 6 := by omega
    rcases h3 with e | e | e | e | e | e | e <;> rw [e]
    · refine ⟨44, rfl, by decide, ?_⟩
      show V 52 [(2, .int 0), (0, .ref m), (1, .int n)] [] _ _ _
      refine k_aload_n C rfl rfl rfl ?_
      refine c_VI C (e_m_p T_m R_m_1 T_w N_w ((u2_a (t_nq T_w T_m (by decide))).trans I_w_0) ) rfl rfl rfl rfl rfl ⟨_, rfl, rfl, T_m, Nat.le_of_ble_eq_true rfl⟩ rfl rfl (Nat.le_of_ble_eq_true rfl) (Nat.le_of_ble_eq_true rfl) (Nat.le_of_ble_eq_true rfl) ?_
      rintro _ _ _ ⟨hx7, hI8, hL9⟩
      have hx7 := hx7.symm; subst hx7
      have hI8 := hI8.symm; subst hI8; have hL9 := hL9.symm; subst hL9
      exact k_iret C rfl (Or.inl rfl) (Nat.le_of_ble_eq_true rfl) (Nat.le_of_ble_eq_true rfl) ⟨_, _, _, rfl, rfl, ⟨by rw [e]; rfl, Fr.i Fr.rf A_m, u2_s⟩⟩
    · refine ⟨49, rfl, by decide, ?_⟩
      show V 57 [(2, .int 0), (0, .ref m), (1, .int n)] [] _ _ _
      refine k_aload_n C rfl rfl rfl ?_
      refine g_R C rfl rfl rfl T_m rfl R_m_1 ?_
      refine k_iconst C (x := 1) rfl rfl rfl ?_
      refine a_I C rfl rfl T_w (vin (n := 1) rfl (by rw [N_w]; exact Nat.le_of_ble_eq_true rfl) (by rw [N_w]; exact Nat.le_of_ble_eq_true rfl)) ((u2_a (t_nq T_w T_m (by decide))).trans I_w_1) ?_
      exact k_iret C rfl (Or.inl rfl) (Nat.le_of_ble_eq_true rfl) (Nat.le_of_ble_eq_true rfl) ⟨_, _, _, rfl, rfl, ⟨by rw [e]; rfl, Fr.i Fr.rf A_m, u2_s⟩⟩
    · refine ⟨56, rfl, by decide, ?_⟩
      show V 64 [(2, .int 0), (0, .ref m), (1, .int n)] [] _ _ _
      refine k_aload_n C rfl rfl rfl ?_
      refine g_R C rfl rfl rfl T_m rfl R_m_1 ?_
      refine k_iconst C (x := 2) rfl rfl rfl ?_
      refine a_I C rfl rfl T_w (vin (n := 2) rfl (by rw [N_w]; exact Nat.le_of_ble_eq_true rfl) (by rw [N_w]; exact Nat.le_of_ble_eq_true rfl)) ((u2_a (t_nq T_w T_m (by decide))).trans I_w_2) ?_
      exact k_iret C rfl (Or.inl rfl) (Nat.le_of_ble_eq_true rfl) (Nat.le_of_ble_eq_true rfl) ⟨_, _, _, rfl, rfl, ⟨by rw [e]; rfl, Fr.i Fr.rf A_m, u2_s⟩⟩
    · refine ⟨63, rfl, by decide, ?_⟩
      show V 71 [(2, .int 0), (0, .ref m), (1, .int n)] [] _ _ _
      refine k_aload_n C rfl rfl rfl ?_
      refine g_R C rfl rfl rfl T_m rfl R_m_1 ?_
      refine k_iconst C (x := 3) rfl rfl rfl ?_
      refine a_I C rfl rfl T_w (vin (n := 3) rfl (by rw [N_w]; exact Nat.le_of_ble_eq_true rfl) (by rw [N_w]; exact Nat.le_of_ble_eq_true rfl)) ((u2_a (t_nq T_w T_m (by decide))).trans I_w_3) ?_
      exact k_iret C rfl (Or.inl rfl) (Nat.le_of_ble_eq_true rfl) (Nat.le_of_ble_eq_true rfl) ⟨_, _, _, rfl, rfl, ⟨by rw [e]; rfl, Fr.i Fr.rf A_m, u2_s⟩⟩
    · refine ⟨70, rfl, by decide, ?_⟩
      show V 78 [(2, .int 0), (0, .ref m), (1, .int n)] [] _ _ _
      refine k_aload_n C rfl rfl rfl ?_
      refine g_R C rfl rfl rfl T_m rfl R_m_1 ?_
      refine k_iconst C (x := 4) rfl rfl rfl ?_
      refine a_I C rfl rfl T_w (vin (n := 4) rfl (by rw [N_w]; exact Nat.le_of_ble_eq_true rfl) (by rw [N_w]; exact Nat.le_of_ble_eq_true rfl)) ((u2_a (t_nq T_w T_m (by decide))).trans I_w_4) ?_
      exact k_iret C rfl (Or.inl rfl) (Nat.le_of_ble_eq_true rfl) (Nat.le_of_ble_eq_true rfl) ⟨_, _, _, rfl, rfl, ⟨by rw [e]; rfl, Fr.i Fr.rf A_m, u2_s⟩⟩
    · refine ⟨77, rfl, by decide, ?_⟩
      show V 85 [(2, .int 0), (0, .ref m), (1, .int n)] [] _ _ _
      refine k_aload_n C rfl rfl rfl ?_
      refine g_R C rfl rfl rfl T_m rfl R_m_1 ?_
      refine k_iconst C (x := 5) rfl rfl rfl ?_
      refine a_I C rfl rfl T_w (vin (n := 5) rfl (by rw [N_w]; exact Nat.le_of_ble_eq_true rfl) (by rw [N_w]; exact Nat.le_of_ble_eq_true rfl)) ((u2_a (t_nq T_w T_m (by decide))).trans I_w_5) ?_
      exact k_iret C rfl (Or.inl rfl) (Nat.le_of_ble_eq_true rfl) (Nat.le_of_ble_eq_true rfl) ⟨_, _, _, rfl, rfl, ⟨by rw [e]; rfl, Fr.i Fr.rf A_m, u2_s⟩⟩
    · refine ⟨84, rfl, by decide, ?_⟩
      show V 92 [(2, .int 0), (0, .ref m), (1, .int n)] [] _ _ _
      refine k_iconst C (x := 0) rfl rfl rfl ?_
      refine k_istore_n C (lw := [(3, .int _), (2, .int _), (0, _), (1, .int _)]) rfl rfl (Nat.le_of_ble_eq_true rfl) rfl ?_
      refine k_iload_n C rfl rfl rfl ?_
      refine k_aload_n C rfl rfl rfl ?_
      refine g_R C rfl rfl rfl T_m rfl R_m_1 ?_
      refine k_iconst C (x := 1) rfl rfl rfl ?_
      refine a_I C rfl rfl T_w (vin (n := 1) rfl (by rw [N_w]; exact Nat.le_of_ble_eq_true rfl) (by rw [N_w]; exact Nat.le_of_ble_eq_true rfl)) ((u2_a (t_nq T_w T_m (by decide))).trans I_w_1) ?_
      refine k_icmp_ge C (t := 134) rfl rfl rfl (fun c101 => ?_) (fun c101 => ?_)
      · skip
        refine k_iload_n C rfl rfl rfl ?_
        exact k_iret C rfl (Or.inl rfl) (Nat.le_of_ble_eq_true rfl) (Nat.le_of_ble_eq_true rfl) ⟨_, _, _, rfl, rfl, ⟨by rw [e]; rfl, Fr.i Fr.rf A_m, u2_s⟩⟩
      exact absurd (by decide) c101


