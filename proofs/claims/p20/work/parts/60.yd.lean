/-! span: exactly -/
/-! -/
section AutoR
variable {d : Nat} {q : mm_T} {mc ms : Nat} {Post : Po} {V : V_T} {pc pc2 : Nat} {lv : List (Nat × Value)} {r : List Value} {ck sk : Nat}
theorem z_iushrQ (C : Cl d q mc ms Post V) {M : Mm} {x y : Int32} (hi : cdf q.2.2.2.2.2.2 pc = some (.iushr, 1)) (hp : pc + 1 = pc2) (h : ∀ w : Int32, w = (x.toUInt32 >>> (y.toUInt32 &&& Int32.toUInt32 31)).toInt32 → V pc2 lv (.int w :: r) M ck sk) : V pc lv (.int y :: .int x :: r) M ck sk := k_iushr C hi hp (h _ rfl)
theorem z_isubR (C : Cl d q mc ms Post V) {M : Mm} {x y : Int32} (hi : cdf q.2.2.2.2.2.2 pc = some (.isub, 1)) (hp : pc + 1 = pc2) (h : ∀ w : Int32, w = x - y → V pc2 lv (.int w :: r) M ck sk) : V pc lv (.int y :: .int x :: r) M ck sk := k_isub C hi hp (h _ rfl)
end AutoR
theorem cq {c k : Int32} (h : c.toInt = k.toInt) : c = k := Int32.toInt_inj.mp h
def USH (x y : Int32) : Int32 := (x.toUInt32 >>> (y.toUInt32 &&& Int32.toUInt32 31)).toInt32
def BT1 (n : Int32) : Int32 := n - (USH n 1 &&& 1431655765)
def BT2 (n : Int32) : Int32 := (n &&& 858993459) + (USH n 2 &&& 858993459)
def BT3 (n : Int32) : Int32 := (n + USH n 4) &&& 252645135
def BT4 (n : Int32) : Int32 := n + USH n 8
def BT5 (n : Int32) : Int32 := n + USH n 16
def BTC (n : Int32) : Int32 := BT5 (BT4 (BT3 (BT2 (BT1 n)))) &&& 63
theorem s_J6_bitCount_0f7a4_x {d : Nat} {T N : Nat → Nat} {I : IT} {L : LT} {R : RT} {A B : Nat → Prop} {n0 : Int32} (hS : SUB B A) (hI : IX A T I)  : Ex (d + 1) 152 [.int n0] (T, N, I, L, R) 0 0 (pI T N R (fun x9 I9 L9 => (x9 = BTC n0) ∧ (I = I9 ∧ L = L9))) := by
  refine ⟨_, rfl, Nat.le_of_ble_eq_true rfl, fun V C S => ?_⟩
  show V 0 [(0, .int n0)] [] (T, N, I, L, R) 0 0
  have gn0 := rg n0
  refine k_iload_n C rfl rfl rfl ?_
  refine k_iload_n C rfl rfl rfl ?_
  refine z_iconst C (z := 1) rfl rfl rfl (fun x1 ex1 => ?_)
  have d3 : x1 = 1 := cq (ex1.trans (by decide))
  refine z_iushrQ C rfl rfl (fun x2 ex2 => ?_)
  have gx2 := rg x2
  have m3 := ex2
  refine z_ldc_w C (y := 1431655765) rfl rfl rfl (fun x3 ex3 => ?_)
  have gx3 := rg x3
  have c4 : x3.toInt = 1431655765 := ex3.trans (by decide)
  clear ex3
  have d4 : x3 = 1431655765 := cq (c4.trans (by decide))
  refine z_iandQ C rfl rfl (fun x4 ex4 => ?_)
  have gx4 := rg x4
  have m7 := ex4
  refine z_isubR C rfl rfl (fun x5 ex5 => ?_)
  have gx5 := rg x5
  have m8 := ex5
  refine k_istore_n C (lw := [(0, .int x5)]) rfl rfl (Nat.le_of_ble_eq_true rfl) rfl ?_
  refine k_iload_n C rfl rfl rfl ?_
  refine z_ldc_w C (y := 858993459) rfl rfl rfl (fun x6 ex6 => ?_)
  have gx6 := rg x6
  have c11 : x6.toInt = 858993459 := ex6.trans (by decide)
  clear ex6
  have d11 : x6 = 858993459 := cq (c11.trans (by decide))
  refine z_iandQ C rfl rfl (fun x7 ex7 => ?_)
  have gx7 := rg x7
  have m14 := ex7
  refine k_iload_n C rfl rfl rfl ?_
  refine z_iconst C (z := 2) rfl rfl rfl (fun x8 ex8 => ?_)
  have d17 : x8 = 2 := cq (ex8.trans (by decide))
  refine z_iushrQ C rfl rfl (fun x9 ex9 => ?_)
  have gx9 := rg x9
  have m17 := ex9
  refine z_ldc_w C (y := 858993459) rfl rfl rfl (fun x10 ex10 => ?_)
  have gx10 := rg x10
  have c18 : x10.toInt = 858993459 := ex10.trans (by decide)
  clear ex10
  have d18 : x10 = 858993459 := cq (c18.trans (by decide))
  refine z_iandQ C rfl rfl (fun x11 ex11 => ?_)
  have gx11 := rg x11
  have m21 := ex11
  refine z_iaddQ C rfl rfl (fun x12 ex12 => ?_)
  have gx12 := rg x12
  have m22 := ex12
  refine k_istore_n C (lw := [(0, .int x12)]) rfl rfl (Nat.le_of_ble_eq_true rfl) rfl ?_
  refine k_iload_n C rfl rfl rfl ?_
  refine k_iload_n C rfl rfl rfl ?_
  refine z_iconst C (z := 4) rfl rfl rfl (fun x13 ex13 => ?_)
  have d27 : x13 = 4 := cq (ex13.trans (by decide))
  refine z_iushrQ C rfl rfl (fun x14 ex14 => ?_)
  have gx14 := rg x14
  have m27 := ex14
  refine z_iaddQ C rfl rfl (fun x15 ex15 => ?_)
  have gx15 := rg x15
  have m28 := ex15
  refine z_ldc_w C (y := 252645135) rfl rfl rfl (fun x16 ex16 => ?_)
  have gx16 := rg x16
  have c29 : x16.toInt = 252645135 := ex16.trans (by decide)
  clear ex16
  have d29 : x16 = 252645135 := cq (c29.trans (by decide))
  refine z_iandQ C rfl rfl (fun x17 ex17 => ?_)
  have gx17 := rg x17
  have m32 := ex17
  refine k_istore_n C (lw := [(0, .int x17)]) rfl rfl (Nat.le_of_ble_eq_true rfl) rfl ?_
  refine k_iload_n C rfl rfl rfl ?_
  refine k_iload_n C rfl rfl rfl ?_
  refine z_bipush C (z := 8) rfl rfl rfl (fun x18 ex18 => ?_)
  have d38 : x18 = 8 := cq (ex18.trans (by decide))
  refine z_iushrQ C rfl rfl (fun x19 ex19 => ?_)
  have gx19 := rg x19
  have m38 := ex19
  refine z_iaddQ C rfl rfl (fun x20 ex20 => ?_)
  have gx20 := rg x20
  have m39 := ex20
  refine k_istore_n C (lw := [(0, .int x20)]) rfl rfl (Nat.le_of_ble_eq_true rfl) rfl ?_
  refine k_iload_n C rfl rfl rfl ?_
  refine k_iload_n C rfl rfl rfl ?_
  refine z_bipush C (z := 16) rfl rfl rfl (fun x21 ex21 => ?_)
  have d45 : x21 = 16 := cq (ex21.trans (by decide))
  refine z_iushrQ C rfl rfl (fun x22 ex22 => ?_)
  have gx22 := rg x22
  have m45 := ex22
  refine z_iaddQ C rfl rfl (fun x23 ex23 => ?_)
  have gx23 := rg x23
  have m46 := ex23
  refine k_istore_n C (lw := [(0, .int x23)]) rfl rfl (Nat.le_of_ble_eq_true rfl) rfl ?_
  refine k_iload_n C rfl rfl rfl ?_
  refine z_bipush C (z := 63) rfl rfl rfl (fun x24 ex24 => ?_)
  have d51 : x24 = 63 := cq (ex24.trans (by decide))
  refine z_iandQ C rfl rfl (fun x25 ex25 => ?_)
  have gx25 := rg x25
  have m51 := ex25
  exact k_iret C rfl (Or.inl rfl) (Nat.le_of_ble_eq_true rfl) (Nat.le_of_ble_eq_true rfl) ⟨_, _, _, rfl, rfl, by rw [m51, d51, m46, m45, d45, m39, m38, d38, m32, d29, m28, m27, d27, m22, m21, d18, m17, d17, m14, d11, m8, m7, d4, m3, d3]; rfl, rfl, rfl⟩

theorem s_X11_span_x {d : Nat} {T N : Nat → Nat} {I : IT} {L : LT} {R : RT} {A B : Nat → Prop} {r0 : Nat} {n1 n2 n3 : Int32} (hS : SUB B A) (hI : IX A T I) (H_r0 : (hs_LF T N R A B) r0) (hU : UPR T R) (hp0 : rA R (rA R (rA R r0 7) 0) 0 = (rA R r0 1)) (hp1 : rA R (rA R (rA R (rA R r0 7) 1) 0) 0 = (rA R r0 1)) (hp2 : ∀ j : Nat, j < 8 → (j : Int) < (I (rA R r0 1) 3).toInt → (0 ≤ (I (SA R (rA R r0 1) j) 2).toInt ∧ (I (SA R (rA R r0 1) j) 2).toInt ≤ 160) ∧ HOV (STL R I (SA R (rA R r0 1) j)) 0) (hp3 : PRM (I (rA R r0 1) 0).toInt) : Ex (d + 8) 153 [.ref r0, .int n1, .int n2, .int n3] (T, N, I, L, R) 1 6 (pW2 [0] T N R (pI T N R (fun x9 I9 L9 => (¬ (n2.toInt < 1 ∨ 8 < n2.toInt)) ∧ (∃ y, SPQ y (SPF (I (rA R r0 1) 0).toInt n3 n2.toInt n1.toInt (I (rA R r0 1) 3).toInt (SL5 R I (rA R r0 1)) 8) ∧ (y.toInt = -1 ∧ x9.toInt = -1 ∨ y.toInt ≠ -1 ∧ x9 = BTC y)) ∧ (IX A T I9 ∧ Chg B T [(2, 5), (3, 0), (6, 6), (6, 7), (6, 8)] I L I9 L9))) (fun e9 I9 L9 => (IX A T I9 ∧ Chg B T [(2, 5), (3, 0), (6, 6), (6, 7), (6, 8)] I L I9 L9) ∧ (e9 = 0 → n2.toInt < 1 ∨ 8 < n2.toInt))) := by
  refine ⟨_, rfl, Nat.le_of_ble_eq_true rfl, fun V C S => ?_⟩
  show V 0 [(0, .ref r0), (1, .int n1), (2, .int n2), (3, .int n3)] [] (T, N, I, L, R) 0 0
  have gn1 := rg n1
  have gn2 := rg n2
  have gn3 := rg n3
  obtain ⟨T_r0, A_r0, B_r0, ⟨r0_0, R_r0_0, H_r0_0⟩, ⟨r0_1, R_r0_1, H_r0_1⟩, ⟨r0_2, R_r0_2, H_r0_2⟩, ⟨r0_5, R_r0_5, H_r0_5⟩, ⟨r0_6, R_r0_6, H_r0_6⟩, ⟨r0_7, R_r0_7, H_r0_7⟩, ⟨r0_8, R_r0_8, H_r0_8⟩, ⟨r0_9, R_r0_9, H_r0_9⟩, ⟨r0_10, R_r0_10, H_r0_10⟩, ⟨r0_11, R_r0_11, H_r0_11⟩, ⟨r0_12, R_r0_12, H_r0_12⟩, ⟨r0_13, R_r0_13, H_r0_13⟩⟩ := id H_r0
  have z_r0_0 : rA R r0 0 = r0_0 := rA_e R_r0_0
  have z_r0_1 : rA R r0 1 = r0_1 := rA_e R_r0_1
  have z_r0_2 : rA R r0 2 = r0_2 := rA_e R_r0_2
  have z_r0_5 : rA R r0 5 = r0_5 := rA_e R_r0_5
  have z_r0_6 : rA R r0 6 = r0_6 := rA_e R_r0_6
  have z_r0_7 : rA R r0 7 = r0_7 := rA_e R_r0_7
  have z_r0_8 : rA R r0 8 = r0_8 := rA_e R_r0_8
  have z_r0_9 : rA R r0 9 = r0_9 := rA_e R_r0_9
  have z_r0_10 : rA R r0 10 = r0_10 := rA_e R_r0_10
  have z_r0_11 : rA R r0 11 = r0_11 := rA_e R_r0_11
  have z_r0_12 : rA R r0 12 = r0_12 := rA_e R_r0_12
  have z_r0_13 : rA R r0 13 = r0_13 := rA_e R_r0_13
  obtain ⟨T_r0_1, A_r0_1, B_r0_1, ⟨r0_1_6, R_r0_1_6, H_r0_1_6⟩, ⟨r0_1_7, R_r0_1_7, H_r0_1_7⟩, ⟨r0_1_8, R_r0_1_8, H_r0_1_8⟩, ⟨r0_1_9, R_r0_1_9, H_r0_1_9⟩, ⟨r0_1_10, R_r0_1_10, H_r0_1_10⟩⟩ := id H_r0_1
  have z_r0_1_6 : rA R r0_1 6 = r0_1_6 := rA_e R_r0_1_6
  have z_r0_1_7 : rA R r0_1 7 = r0_1_7 := rA_e R_r0_1_7
  have z_r0_1_8 : rA R r0_1 8 = r0_1_8 := rA_e R_r0_1_8
  have z_r0_1_9 : rA R r0_1 9 = r0_1_9 := rA_e R_r0_1_9
  have z_r0_1_10 : rA R r0_1 10 = r0_1_10 := rA_e R_r0_1_10
  try simp only [z_r0_0, z_r0_1, z_r0_2, z_r0_5, z_r0_6, z_r0_7, z_r0_8, z_r0_9, z_r0_10, z_r0_11, z_r0_12, z_r0_13, z_r0_1_6, z_r0_1_7, z_r0_1_8, z_r0_1_9, z_r0_1_10] at hp0
  try simp only [z_r0_0, z_r0_1, z_r0_2, z_r0_5, z_r0_6, z_r0_7, z_r0_8, z_r0_9, z_r0_10, z_r0_11, z_r0_12, z_r0_13, z_r0_1_6, z_r0_1_7, z_r0_1_8, z_r0_1_9, z_r0_1_10] at hp1
  try simp only [z_r0_0, z_r0_1, z_r0_2, z_r0_5, z_r0_6, z_r0_7, z_r0_8, z_r0_9, z_r0_10, z_r0_11, z_r0_12, z_r0_13, z_r0_1_6, z_r0_1_7, z_r0_1_8, z_r0_1_9, z_r0_1_10] at hp2
  try simp only [z_r0_0, z_r0_1, z_r0_2, z_r0_5, z_r0_6, z_r0_7, z_r0_8, z_r0_9, z_r0_10, z_r0_11, z_r0_12, z_r0_13, z_r0_1_6, z_r0_1_7, z_r0_1_8, z_r0_1_9, z_r0_1_10] at hp3
  obtain ⟨w_r0_1_0, k0_r0_1_0⟩ : ∃ x, I r0_1 0 = x := ⟨_, rfl⟩
  have gw_r0_1_0 := rg w_r0_1_0
  have ow_r0_1_0 := IX.p hI A_r0_1 T_r0_1 k0_r0_1_0
  obtain ⟨w_r0_1_3, k0_r0_1_3⟩ : ∃ x, I r0_1 3 = x := ⟨_, rfl⟩
  have gw_r0_1_3 := rg w_r0_1_3
  try simp only [k0_r0_1_0, k0_r0_1_3] at hp0
  try simp only [k0_r0_1_0, k0_r0_1_3] at hp1
  try simp only [k0_r0_1_0, k0_r0_1_3] at hp2
  try simp only [k0_r0_1_0, k0_r0_1_3] at hp3
  refine k_iload_n C rfl rfl rfl ?_
  refine z_iconst C (z := 1) rfl rfl rfl (fun x1 ex1 => ?_)
  refine b_icmp_lt C (t := 11) rfl rfl rfl (fun c2 => ?_) (fun c2 => ?_)
  · skip
    exact k_throw C rfl rfl rfl rfl rfl rfl (Nat.le_of_ble_eq_true rfl) (Nat.le_of_ble_eq_true rfl) (Nat.le_of_ble_eq_true rfl) (Or.inr ⟨_, _, _, (by decide : 0 ∈ [0]), rfl, rfl, ⟨⟨hI, Chg.rf⟩, (fun _ => by first | omega | (simp only [k0_r0_1_0, k0_r0_1_3, and_true, true_and, or_true, true_or, and_false, false_and, or_false, false_or] <;> omega))⟩⟩)
  refine k_iload_n C rfl rfl rfl ?_
  refine z_bipush C (z := 8) rfl rfl rfl (fun x3 ex3 => ?_)
  refine b_icmp_le C (t := 19) rfl rfl rfl (fun c4 => ?_) (fun c4 => ?_)
  · skip
    refine k_aload_n C rfl rfl rfl ?_
    refine g_R C rfl rfl rfl T_r0 rfl R_r0_7 ?_
    refine k_aload_n C rfl rfl rfl ?_
    refine g_R C rfl rfl rfl T_r0 rfl R_r0_1 ?_
    refine k_iload_n C rfl rfl rfl ?_
    refine k_iload_n C rfl rfl rfl ?_
    refine k_iload_n C rfl rfl rfl ?_
    obtain ⟨T_r0_7, A_r0_7, B_r0_7, ⟨r0_7_0, R_r0_7_0, H_r0_7_0⟩, ⟨r0_7_1, R_r0_7_1, H_r0_7_1⟩, ⟨r0_7_2, R_r0_7_2, H_r0_7_2⟩, ⟨r0_7_3, R_r0_7_3, H_r0_7_3⟩, ⟨r0_7_4, R_r0_7_4, H_r0_7_4⟩, ⟨r0_7_5, R_r0_7_5, H_r0_7_5⟩⟩ := id H_r0_7
    have z_r0_7_0 : rA R r0_7 0 = r0_7_0 := rA_e R_r0_7_0
    have z_r0_7_1 : rA R r0_7 1 = r0_7_1 := rA_e R_r0_7_1
    have z_r0_7_2 : rA R r0_7 2 = r0_7_2 := rA_e R_r0_7_2
    have z_r0_7_3 : rA R r0_7 3 = r0_7_3 := rA_e R_r0_7_3
    have z_r0_7_4 : rA R r0_7 4 = r0_7_4 := rA_e R_r0_7_4
    have z_r0_7_5 : rA R r0_7 5 = r0_7_5 := rA_e R_r0_7_5
    refine c_VI C (s_X5_independent_x hS hI H_r0_7 H_r0_1 (by omega) (by omega) hU (by first | exact hp0 | (rw [← z_r0_7, ← z_r0_1]; exact hp0)) (by first | exact hp1 | (rw [← z_r0_7, ← z_r0_1]; exact hp1)) (by first | exact hp2 | (rw [k0_r0_1_3]; exact hp2)) (by first | exact hp3 | (rw [k0_r0_1_0]; exact hp3))) rfl rfl rfl rfl rfl ⟨_, rfl, rfl, T_r0_7, Nat.le_of_ble_eq_true rfl⟩ rfl rfl (Nat.le_of_ble_eq_true rfl) (Nat.le_of_ble_eq_true rfl) (Nat.le_of_ble_eq_true rfl) ?_
    rintro x5 I6 L7 ⟨p0x5, hI6, S8⟩
    try simp only [z_r0_0, z_r0_1, z_r0_2, z_r0_5, z_r0_6, z_r0_7, z_r0_8, z_r0_9, z_r0_10, z_r0_11, z_r0_12, z_r0_13, z_r0_1_6, z_r0_1_7, z_r0_1_8, z_r0_1_9, z_r0_1_10, z_r0_7_0, z_r0_7_1, z_r0_7_2, z_r0_7_3, z_r0_7_4, z_r0_7_5] at S8
    have e9 := Chg.k S8 T_r0_1 (by decide) (by decide) k0_r0_1_0
    have e10 := Chg.k S8 T_r0_1 (by decide) (by decide) k0_r0_1_3
    have gx5 := rg x5
    try simp only [z_r0_0, z_r0_1, z_r0_2, z_r0_5, z_r0_6, z_r0_7, z_r0_8, z_r0_9, z_r0_10, z_r0_11, z_r0_12, z_r0_13, z_r0_1_6, z_r0_1_7, z_r0_1_8, z_r0_1_9, z_r0_1_10, z_r0_7_0, z_r0_7_1, z_r0_7_2, z_r0_7_3, z_r0_7_4, z_r0_7_5] at p0x5
    try simp only [k0_r0_1_0, k0_r0_1_3] at p0x5
    try have q0x5 := congrArg Int32.toInt p0x5
    have hsp := p0x5; (try simp only [z_r0_0, z_r0_1, z_r0_2, z_r0_5, z_r0_6, z_r0_7, z_r0_8, z_r0_9, z_r0_10, z_r0_11, z_r0_12, z_r0_13, z_r0_1_6, z_r0_1_7, z_r0_1_8, z_r0_1_9, z_r0_1_10, z_r0_7_0, z_r0_7_1, z_r0_7_2, z_r0_7_3, z_r0_7_4, z_r0_7_5] at hsp)
    refine k_istore C (lw := [(4, .int x5), (0, .ref r0), (1, .int n1), (2, .int n2), (3, .int n3)]) rfl rfl (Nat.le_of_ble_eq_true rfl) rfl ?_
    refine k_iload C rfl rfl rfl ?_
    refine z_iconst C (z := -1) rfl rfl rfl (fun x11 ex11 => ?_)
    refine b_icmp_ne C (t := 45) rfl rfl rfl (fun c12 => ?_) (fun c12 => ?_)
    · skip
      refine k_iload C rfl rfl rfl ?_
      refine c_SI C (s_J6_bitCount_0f7a4_x hS hI6 ) rfl rfl rfl rfl rfl rfl rfl (Nat.le_of_ble_eq_true rfl) (Nat.le_of_ble_eq_true rfl) (Nat.le_of_ble_eq_true rfl) ?_
      rintro x13 _ _ ⟨p0x13, rfl, rfl⟩
      have gx13 := rg x13
      try simp only [z_r0_0, z_r0_1, z_r0_2, z_r0_5, z_r0_6, z_r0_7, z_r0_8, z_r0_9, z_r0_10, z_r0_11, z_r0_12, z_r0_13, z_r0_1_6, z_r0_1_7, z_r0_1_8, z_r0_1_9, z_r0_1_10, z_r0_7_0, z_r0_7_1, z_r0_7_2, z_r0_7_3, z_r0_7_4, z_r0_7_5] at p0x13
      try simp only [e9, e10] at p0x13
      try have q0x13 := congrArg Int32.toInt p0x13
      have hbc := p0x13
      exact k_iret C rfl (Or.inl rfl) (Nat.le_of_ble_eq_true rfl) (Nat.le_of_ble_eq_true rfl) (Or.inl ⟨_, _, _, rfl, rfl, by (try simp only [z_r0_0, z_r0_1, z_r0_2, z_r0_5, z_r0_6, z_r0_7, z_r0_8, z_r0_9, z_r0_10, z_r0_11, z_r0_12, z_r0_13, z_r0_1_6, z_r0_1_7, z_r0_1_8, z_r0_1_9, z_r0_1_10, z_r0_7_0, z_r0_7_1, z_r0_7_2, z_r0_7_3, z_r0_7_4, z_r0_7_5]); omega, by (try simp only [z_r0_0, z_r0_1, z_r0_2, z_r0_5, z_r0_6, z_r0_7, z_r0_8, z_r0_9, z_r0_10, z_r0_11, z_r0_12, z_r0_13, z_r0_1_6, z_r0_1_7, z_r0_1_8, z_r0_1_9, z_r0_1_10, z_r0_7_0, z_r0_7_1, z_r0_7_2, z_r0_7_3, z_r0_7_4, z_r0_7_5]); (try simp only [z_r0_0, z_r0_1, z_r0_2, z_r0_5, z_r0_6, z_r0_7, z_r0_8, z_r0_9, z_r0_10, z_r0_11, z_r0_12, z_r0_13, z_r0_1_6, z_r0_1_7, z_r0_1_8, z_r0_1_9, z_r0_1_10, z_r0_7_0, z_r0_7_1, z_r0_7_2, z_r0_7_3, z_r0_7_4, z_r0_7_5]); simp only [k0_r0_1_0, k0_r0_1_3]; first | exact ⟨_, hsp, Or.inl ⟨by omega, by omega⟩⟩ | exact ⟨_, hsp, Or.inr ⟨by omega, hbc⟩⟩, hI6, (Chg.mono (Chg.up S8 (ISX.b H_r0_7)) (by decide))⟩)
    refine z_iconst C (z := -1) rfl rfl rfl (fun x14 ex14 => ?_)
    refine k_goto C (pc2 := 50) rfl rfl ?_
    exact k_iret C rfl (Or.inl rfl) (Nat.le_of_ble_eq_true rfl) (Nat.le_of_ble_eq_true rfl) (Or.inl ⟨_, _, _, rfl, rfl, by (try simp only [z_r0_0, z_r0_1, z_r0_2, z_r0_5, z_r0_6, z_r0_7, z_r0_8, z_r0_9, z_r0_10, z_r0_11, z_r0_12, z_r0_13, z_r0_1_6, z_r0_1_7, z_r0_1_8, z_r0_1_9, z_r0_1_10, z_r0_7_0, z_r0_7_1, z_r0_7_2, z_r0_7_3, z_r0_7_4, z_r0_7_5]); omega, by (try simp only [z_r0_0, z_r0_1, z_r0_2, z_r0_5, z_r0_6, z_r0_7, z_r0_8, z_r0_9, z_r0_10, z_r0_11, z_r0_12, z_r0_13, z_r0_1_6, z_r0_1_7, z_r0_1_8, z_r0_1_9, z_r0_1_10, z_r0_7_0, z_r0_7_1, z_r0_7_2, z_r0_7_3, z_r0_7_4, z_r0_7_5]); (try simp only [z_r0_0, z_r0_1, z_r0_2, z_r0_5, z_r0_6, z_r0_7, z_r0_8, z_r0_9, z_r0_10, z_r0_11, z_r0_12, z_r0_13, z_r0_1_6, z_r0_1_7, z_r0_1_8, z_r0_1_9, z_r0_1_10, z_r0_7_0, z_r0_7_1, z_r0_7_2, z_r0_7_3, z_r0_7_4, z_r0_7_5]); simp only [k0_r0_1_0, k0_r0_1_3]; first | exact ⟨_, hsp, Or.inl ⟨by omega, by omega⟩⟩ | exact ⟨_, hsp, Or.inr ⟨by omega, hbc⟩⟩, hI6, (Chg.mono (Chg.up S8 (ISX.b H_r0_7)) (by decide))⟩)
  exact k_throw C rfl rfl rfl rfl rfl rfl (Nat.le_of_ble_eq_true rfl) (Nat.le_of_ble_eq_true rfl) (Nat.le_of_ble_eq_true rfl) (Or.inr ⟨_, _, _, (by decide : 0 ∈ [0]), rfl, rfl, ⟨⟨hI, Chg.rf⟩, (fun _ => by first | omega | (simp only [k0_r0_1_0, k0_r0_1_3, and_true, true_and, or_true, true_or, and_false, false_and, or_false, false_or] <;> omega))⟩⟩)

