/-! the stock: exactly -/
theorem FSD.nq {f : Nat → Int} {x y D : Int} (h : FSD y D f) (hx : x = 1 ∧ y = -1 ∨ x = 0 ∧ y ≠ -1) : IFF x (ZRL f (D + 1)) := by
  rcases h with h | h
  · exact ⟨fun _ => h.2, fun q => by omega⟩
  · exact ⟨fun q => by omega, fun _ z => h.2.2.1 (z y.toNat (by have a := h.1; have b := h.2.1; omega))⟩
/-- how many of the first have it -/
def CNI (P : Nat → Prop) : Nat → Int → Prop
  | 0, x => x = 0
  | n + 1, x => (P n ∧ CNI P n (x - 1)) ∨ (¬ P n ∧ CNI P n x)
theorem CNI.u {P : Nat → Prop} : ∀ n {x y : Int}, CNI P n x → CNI P n y → x = y
  | 0, x, y, h, g => by
    have h : x = 0 := h
    have g : y = 0 := g
    omega
  | n + 1, x, y, h, g => by
    rcases h with ⟨p, h⟩ | ⟨p, h⟩
    · rcases g with ⟨-, g⟩ | ⟨q, -⟩
      · have := CNI.u n h g
        omega
      · exact absurd p q
    · rcases g with ⟨q, -⟩ | ⟨-, g⟩
      · exact absurd q p
      · exact CNI.u n h g
theorem CNI.cg {P Q : Nat → Prop} : ∀ n {x : Int}, (∀ j, j < n → (P j ↔ Q j)) → CNI P n x → CNI Q n x
  | 0, _, _, h => h
  | n + 1, _, e, h => h.elim (fun q => Or.inl ⟨(e n (Nat.lt_succ_self n)).mp q.1, CNI.cg n (fun j hj => e j (by omega)) q.2⟩) (fun q => Or.inr ⟨fun z => q.1 ((e n (Nat.lt_succ_self n)).mpr z), CNI.cg n (fun j hj => e j (by omega)) q.2⟩)
theorem CNI.z {P : Nat → Prop} {k x : Int32} (hk : k.toInt = 0) (hx : x.toInt = 0) : CNI P k.toNatClampNeg x.toInt := by
  have n0 := ncz (x := k) (by omega)
  rw [show k.toNatClampNeg = 0 from by omega]; exact hx
theorem CNI.s1 {P : Nat → Prop} {k k' x x' : Int32} (h : CNI P k.toNatClampNeg x.toInt) (hp : P k.toNatClampNeg) (h0 : 0 ≤ k.toInt) (hk : k'.toInt = k.toInt + 1) (hx : x'.toInt = x.toInt + 1) : CNI P k'.toNatClampNeg x'.toInt := by
  have n0 := ncz h0
  have n1 := ncz (x := k') (by omega)
  rw [show k'.toNatClampNeg = k.toNatClampNeg + 1 from by omega]
  exact Or.inl ⟨hp, by rw [show x'.toInt - 1 = x.toInt from by omega]; exact h⟩
theorem CNI.s0 {P : Nat → Prop} {k k' x x' : Int32} (h : CNI P k.toNatClampNeg x.toInt) (hp : ¬ P k.toNatClampNeg) (h0 : 0 ≤ k.toInt) (hk : k'.toInt = k.toInt + 1) (hx : x'.toInt = x.toInt) : CNI P k'.toNatClampNeg x'.toInt := by
  have n0 := ncz h0
  have n1 := ncz (x := k') (by omega)
  rw [show k'.toNatClampNeg = k.toNatClampNeg + 1 from by omega]
  exact Or.inr ⟨hp, by rw [hx]; exact h⟩
theorem CNI.b {P : Nat → Prop} : ∀ n {x : Int}, CNI P n x → 0 ≤ x ∧ x ≤ n
  | 0, x, h => by
    have h : x = 0 := h
    omega
  | n + 1, x, h => by
    rcases h with ⟨-, h⟩ | ⟨-, h⟩
    · have := CNI.b n h
      omega
    · have := CNI.b n h
      omega
/-- the stock's numbers -/
def STV (p f t s d u n x : Int) : Prop := (n = 0 → x = p) ∧ (n = 1 → x = f) ∧ (n = 2 → x = t) ∧ (n = 3 → x = s) ∧ (n = 4 → x = d) ∧ (n = 5 → x = u) ∧ (n < 0 ∨ 6 < n → x = -1)
theorem STV.mk {p f t s d u n x : Int} (h : (n = 0 ∧ x = p) ∨ (n = 1 ∧ x = f) ∨ (n = 2 ∧ x = t) ∨ (n = 3 ∧ x = s) ∨ (n = 4 ∧ x = d) ∨ (n = 5 ∧ x = u) ∨ n = 6 ∨ ((n < 0 ∨ 6 < n) ∧ x = -1)) : STV p f t s d u n x := by
  rcases h with h | h | h | h | h | h | h | h <;> exact ⟨fun q => by omega, fun q => by omega, fun q => by omega, fun q => by omega, fun q => by omega, fun q => by omega, fun q => by omega⟩
theorem STV.u {p f t s d u n x y : Int} (h : STV p f t s d u n x) (g : STV p f t s d u n y) (hn : n ≠ 6) : x = y := by
  have c : n = 0 ∨ n = 1 ∨ n = 2 ∨ n = 3 ∨ n = 4 ∨ n = 5 ∨ (n < 0 ∨ 6 < n) := by omega
  rcases c with c | c | c | c | c | c | c
  · rw [h.1 c, g.1 c]
  · rw [h.2.1 c, g.2.1 c]
  · rw [h.2.2.1 c, g.2.2.1 c]
  · rw [h.2.2.2.1 c, g.2.2.2.1 c]
  · rw [h.2.2.2.2.1 c, g.2.2.2.2.1 c]
  · rw [h.2.2.2.2.2.1 c, g.2.2.2.2.2.1 c]
  · rw [h.2.2.2.2.2.2 c, g.2.2.2.2.2.2 c]
theorem s_X2_isNought_x {d : Nat} {T N : Nat → Nat} {I : IT} {L : LT} {R : RT} {A B : Nat → Prop} {r0 : Nat} (hS : SUB B A) (hI : IX A T I) (H_r0 : (hs_F T N R A B) r0) : Ex (d + 3) 30 [.ref r0] (T, N, I, L, R) 0 0 (pI T N R (fun x9 I9 L9 => (0 ≤ x9.toInt) ∧ (x9.toInt ≤ 1) ∧ (IFF x9.toInt (ZRL (fun k => (I (rA R r0 1) k).toInt) ((I r0 0).toInt + 1))) ∧ (I = I9 ∧ L = L9))) := by
  refine ⟨_, rfl, Nat.le_of_ble_eq_true rfl, fun V C S => ?_⟩
  show V 0 [(0, .ref r0)] [] (T, N, I, L, R) 0 0
  obtain ⟨T_r0, A_r0, ⟨r0_1, R_r0_1, H_r0_1⟩⟩ := id H_r0
  have z_r0_1 : rA R r0 1 = r0_1 := rA_e R_r0_1
  refine k_aload_n C rfl rfl rfl ?_
  refine c_VI C (s_X2_first_x hS hI H_r0) rfl rfl rfl rfl rfl ⟨_, rfl, rfl, T_r0, Nat.le_of_ble_eq_true rfl⟩ rfl rfl (Nat.le_of_ble_eq_true rfl) (Nat.le_of_ble_eq_true rfl) (Nat.le_of_ble_eq_true rfl) ?_
  rintro x1 _ _ ⟨o0x1, o1x1, p0x1, p1x1, rfl, rfl⟩
  have gx1 := rg x1
  try simp only [z_r0_1] at p0x1
  try simp only [z_r0_1] at p1x1
  have hfs := p1x1
  refine z_iconst C (z := -1) rfl rfl rfl (fun x2 ex2 => ?_)
  refine b_icmp_ne C (t := 12) rfl rfl rfl (fun c3 => ?_) (fun c3 => ?_)
  · skip
    refine z_iconst C (z := 0) rfl rfl rfl (fun x4 ex4 => ?_)
    exact k_iret C rfl (Or.inr ⟨rfl, z01 (by omega) (by omega)⟩) (Nat.le_of_ble_eq_true rfl) (Nat.le_of_ble_eq_true rfl) ⟨_, _, _, rfl, rfl, by omega, by omega, by (try simp only [z_r0_1]); exact FSD.nq hfs (by omega), rfl, rfl⟩
  refine z_iconst C (z := 1) rfl rfl rfl (fun x5 ex5 => ?_)
  refine k_goto C (pc2 := 13) rfl rfl ?_
  exact k_iret C rfl (Or.inr ⟨rfl, z01 (by omega) (by omega)⟩) (Nat.le_of_ble_eq_true rfl) (Nat.le_of_ble_eq_true rfl) ⟨_, _, _, rfl, rfl, by omega, by omega, by (try simp only [z_r0_1]); exact FSD.nq hfs (by omega), rfl, rfl⟩

theorem s_X8_noughts_x {d : Nat} {T N : Nat → Nat} {I : IT} {L : LT} {R : RT} {A B : Nat → Prop} {r0 : Nat} (hS : SUB B A) (hI : IX A T I) (H_r0 : (hs_St T N R A B) r0) (hp0 : 0 ≤ (I r0 1).toInt ∧ (I r0 1).toInt ≤ 16) : Ex (d + 4) 101 [.ref r0] (T, N, I, L, R) 0 0 (pI T N R (fun x9 I9 L9 => (CNI (fun j => ZRL (fun k => (I (rA R (FA R r0 j) 1) k).toInt) ((I (FA R r0 j) 0).toInt + 1)) (I r0 1).toInt.toNat x9.toInt) ∧ (I = I9 ∧ L = L9))) := by
  refine ⟨_, rfl, Nat.le_of_ble_eq_true rfl, fun V C S => ?_⟩
  show V 0 [(0, .ref r0)] [] (T, N, I, L, R) 0 0
  obtain ⟨T_r0, A_r0, B_r0, ⟨r0_6, R_r0_6, H_r0_6⟩, ⟨r0_7, R_r0_7, H_r0_7⟩, ⟨r0_8, R_r0_8, H_r0_8⟩, ⟨r0_9, R_r0_9, H_r0_9⟩, ⟨r0_10, R_r0_10, H_r0_10⟩⟩ := id H_r0
  have z_r0_6 : rA R r0 6 = r0_6 := rA_e R_r0_6
  have z_r0_7 : rA R r0 7 = r0_7 := rA_e R_r0_7
  have z_r0_8 : rA R r0 8 = r0_8 := rA_e R_r0_8
  have z_r0_9 : rA R r0 9 = r0_9 := rA_e R_r0_9
  have z_r0_10 : rA R r0 10 = r0_10 := rA_e R_r0_10
  obtain ⟨T_r0_8, N_r0_8, A_r0_8, E_r0_8⟩ := id H_r0_8
  try simp only [z_r0_6, z_r0_7, z_r0_8, z_r0_9, z_r0_10] at hp0
  obtain ⟨w_r0_1, k0_r0_1⟩ : ∃ x, I r0 1 = x := ⟨_, rfl⟩
  have gw_r0_1 := rg w_r0_1
  try simp only [k0_r0_1] at hp0
  have hG := GS.of H_r0
  refine z_iconst C (z := 0) rfl rfl rfl (fun x1 ex1 => ?_)
  refine k_istore_n C (lw := [(1, .int x1), (0, .ref r0)]) rfl rfl (Nat.le_of_ble_eq_true rfl) rfl ?_
  refine z_iconst C (z := 0) rfl rfl rfl (fun x2 ex2 => ?_)
  have J3 : ∀ (nn4 : Nat) (x5 : Int32) (x6 : Int32), (MN (2147483647 - x6.toInt) nn4) → (0 ≤ x6.toInt) → (CNI (fun j => ZRL (fun k => (I (rA R (FA R r0 j) 1) k).toInt) ((I (FA R r0 j) 0).toInt + 1)) x6.toNatClampNeg x5.toInt) → (x6.toInt ≤ w_r0_1.toInt) → (0 ≤ x5.toInt ∧ x5.toInt ≤ x6.toInt) → V 4 [(0, .ref r0), (1, .int x5), (2, .int x6)] [] (T, N, I, L, R) 0 0 := by
    intro nn4
    induction nn4 using Nat.strongRecOn with
    | _ nn4 ihJ3 =>
      intro x5 x6 hmnn4 b7 ff4_0 ff4_1 ff4_2
      have gx5 := rg x5
      have gx6 := rg x6
      refine k_iload_n C rfl rfl rfl ?_
      refine k_aload_n C rfl rfl rfl ?_
      refine g_I C rfl rfl rfl T_r0 rfl k0_r0_1 ?_
      refine b_icmp_ge C (t := 43) rfl rfl rfl (fun c11 => ?_) (fun c11 => ?_)
      · skip
        refine k_iload_n C rfl rfl rfl ?_
        exact k_iret C rfl (Or.inl rfl) (Nat.le_of_ble_eq_true rfl) (Nat.le_of_ble_eq_true rfl) ⟨_, _, _, rfl, rfl, by (try simp only [z_r0_6, z_r0_7, z_r0_8, z_r0_9, z_r0_10]); rw [k0_r0_1]; have h9 : x6.toNatClampNeg = w_r0_1.toInt.toNat := (by have n9 := ncz (x := x6) (by omega); omega); rw [← h9]; exact ff4_0, rfl, rfl⟩
      refine k_aload_n C rfl rfl rfl ?_
      refine k_iload_n C rfl rfl rfl ?_
      refine c_VR C (s_X8_formAt_x hS hI H_r0) rfl rfl rfl rfl rfl ⟨_, rfl, rfl, T_r0, Nat.le_of_ble_eq_true rfl⟩ rfl rfl (Nat.le_of_ble_eq_true rfl) (Nat.le_of_ble_eq_true rfl) (Nat.le_of_ble_eq_true rfl) ?_
      rintro yy12 _ _ ⟨hyy12, p0yy12, rfl, rfl⟩
      try simp only [z_r0_6, z_r0_7, z_r0_8, z_r0_9, z_r0_10] at p0yy12
      try simp only [k0_r0_1] at p0yy12
      try have q0yy12 := congrArg Int32.toInt p0yy12
      have hf := p0yy12; (try simp only [z_r0_6, z_r0_7, z_r0_8, z_r0_9, z_r0_10] at hf)
      refine k_astore_nV C (x := yy12) (lw := [(3, va_rf yy12), (0, .ref r0), (1, .int x5), (2, .int x6)]) rfl rfl (Nat.le_of_ble_eq_true rfl) rfl ?_
      refine k_iload_n C rfl rfl rfl ?_
      refine k_aload_nV C (x := yy12) rfl rfl rfl ?_
      refine k_ifnull C (x := yy12) (t := 34) rfl rfl rfl (fun c13 => ?_) (fun rr14 c13 => ?_)
      · skip
        subst c13
        exfalso; have q9 := FAD.no hf E_r0_8; omega
      subst c13
      have H_rr14 := hyy12 rr14 rfl
      have oF := FA_e z_r0_8 (FAD.q hf).2.2.2
      refine k_aload_n C rfl rfl rfl ?_
      obtain ⟨T_rr14, A_rr14, ⟨rr14_1, R_rr14_1, H_rr14_1⟩⟩ := id H_rr14
      have z_rr14_1 : rA R rr14 1 = rr14_1 := rA_e R_rr14_1
      refine c_VI C (s_X2_isNought_x hS hI H_rr14) rfl rfl rfl rfl rfl ⟨_, rfl, rfl, T_rr14, Nat.le_of_ble_eq_true rfl⟩ rfl rfl (Nat.le_of_ble_eq_true rfl) (Nat.le_of_ble_eq_true rfl) (Nat.le_of_ble_eq_true rfl) ?_
      rintro x15 _ _ ⟨o0x15, o1x15, p0x15, rfl, rfl⟩
      have gx15 := rg x15
      try simp only [z_r0_6, z_r0_7, z_r0_8, z_r0_9, z_r0_10, z_rr14_1] at p0x15
      try simp only [k0_r0_1] at p0x15
      try have q0x15 := congrArg Int32.toInt p0x15
      have hn := p0x15; rw [← z_rr14_1, ← oF] at hn
      refine b_if_eq C (t := 34) rfl rfl rfl (fun c16 => ?_) (fun c16 => ?_)
      · skip
        refine z_iconst C (z := 0) rfl rfl rfl (fun x17 ex17 => ?_)
        refine z_iadd C rfl rfl ⟨by omega, by omega⟩ (fun x18 ex18 => ?_)
        have gx18 := rg x18
        have m35 := ex18
        refine k_istore_n C (lw := [(1, .int x18), (3, .ref rr14), (0, .ref r0), (2, .int x6)]) rfl rfl (Nat.le_of_ble_eq_true rfl) rfl ?_
        refine z_iinc C (z := 1) (lw := fun x19 => [(2, .int x19), (1, .int x18), (3, .ref rr14), (0, .ref r0)]) rfl rfl rfl (Nat.le_of_ble_eq_true rfl) rfl ⟨by omega, by omega⟩ (fun _ => rfl) (fun x19 ex19 => ?_)
        show V 40 [(2, .int x19), (1, .int x18), (3, .ref rr14), (0, .ref r0)] _ _ _ _
        refine k_goto C (pc2 := 4) rfl rfl ?_
        refine k_sub S [(0, .ref r0), (1, .int x18), (2, .int x19)] (List.forall_mem_cons.mpr ⟨List.mem_of_getElem? (i := 3) rfl, List.forall_mem_cons.mpr ⟨List.mem_of_getElem? (i := 1) rfl, List.forall_mem_cons.mpr ⟨List.mem_of_getElem? (i := 0) rfl, fun _ h => nomatch h⟩⟩⟩) ?_
        exact ihJ3 _ (MN.lt hmnn4 (by omega) (by omega)) x18 x19 rfl (by omega) (by first | exact CNI.s1 ff4_0 (hn.1 (by omega)) (by omega) (by omega) (by omega) | exact CNI.s0 ff4_0 (hn.2 (by omega)) (by omega) (by omega) (by omega)) (by omega) (by omega)
      refine z_iconst C (z := 1) rfl rfl rfl (fun x20 ex20 => ?_)
      refine k_goto C (pc2 := 35) rfl rfl ?_
      refine z_iadd C rfl rfl ⟨by omega, by omega⟩ (fun x21 ex21 => ?_)
      have gx21 := rg x21
      have m35 := ex21
      refine k_istore_n C (lw := [(1, .int x21), (3, .ref rr14), (0, .ref r0), (2, .int x6)]) rfl rfl (Nat.le_of_ble_eq_true rfl) rfl ?_
      refine z_iinc C (z := 1) (lw := fun x22 => [(2, .int x22), (1, .int x21), (3, .ref rr14), (0, .ref r0)]) rfl rfl rfl (Nat.le_of_ble_eq_true rfl) rfl ⟨by omega, by omega⟩ (fun _ => rfl) (fun x22 ex22 => ?_)
      show V 40 [(2, .int x22), (1, .int x21), (3, .ref rr14), (0, .ref r0)] _ _ _ _
      refine k_goto C (pc2 := 4) rfl rfl ?_
      refine k_sub S [(0, .ref r0), (1, .int x21), (2, .int x22)] (List.forall_mem_cons.mpr ⟨List.mem_of_getElem? (i := 3) rfl, List.forall_mem_cons.mpr ⟨List.mem_of_getElem? (i := 1) rfl, List.forall_mem_cons.mpr ⟨List.mem_of_getElem? (i := 0) rfl, fun _ h => nomatch h⟩⟩⟩) ?_
      exact ihJ3 _ (MN.lt hmnn4 (by omega) (by omega)) x21 x22 rfl (by omega) (by first | exact CNI.s1 ff4_0 (hn.1 (by omega)) (by omega) (by omega) (by omega) | exact CNI.s0 ff4_0 (hn.2 (by omega)) (by omega) (by omega) (by omega)) (by omega) (by omega)
  refine k_istore_n C (lw := [(2, .int x2), (1, .int x1), (0, .ref r0)]) rfl rfl (Nat.le_of_ble_eq_true rfl) rfl ?_
  refine k_sub S [(0, .ref r0), (1, .int x1), (2, .int x2)] (List.forall_mem_cons.mpr ⟨List.mem_of_getElem? (i := 2) rfl, List.forall_mem_cons.mpr ⟨List.mem_of_getElem? (i := 1) rfl, List.forall_mem_cons.mpr ⟨List.mem_of_getElem? (i := 0) rfl, fun _ h => nomatch h⟩⟩⟩) ?_
  exact J3 _ x1 x2 rfl (by omega) (by exact CNI.z (by omega) (by omega)) (by omega) (by omega)

theorem s_X11_stock_x {d : Nat} {T N : Nat → Nat} {I : IT} {L : LT} {R : RT} {A B : Nat → Prop} {r0 : Nat} {n1 : Int32} (hS : SUB B A) (hI : IX A T I) (H_r0 : (hs_LF T N R A B) r0) (hp0 : 0 ≤ (I (rA R r0 1) 1).toInt ∧ (I (rA R r0 1) 1).toInt ≤ 16) : Ex (d + 5) 176 [.ref r0, .int n1] (T, N, I, L, R) 0 0 (pI T N R (fun x9 I9 L9 => (STV (I (rA R r0 1) 0).toInt (I (rA R r0 1) 1).toInt (I (rA R r0 1) 2).toInt (I (rA R r0 1) 3).toInt (I (rA R r0 1) 4).toInt (I (rA R r0 1) 5).toInt n1.toInt x9.toInt) ∧ (n1.toInt = 6 → CNI (fun j => ZRL (fun k => (I (rA R (FA R (rA R r0 1) j) 1) k).toInt) ((I (FA R (rA R r0 1) j) 0).toInt + 1)) (I (rA R r0 1) 1).toInt.toNat x9.toInt) ∧ (I = I9 ∧ L = L9))) := by
  refine ⟨_, rfl, Nat.le_of_ble_eq_true rfl, fun V C S => ?_⟩
  show V 0 [(0, .ref r0), (1, .int n1)] [] (T, N, I, L, R) 0 0
  have gn1 := rg n1
  obtain ⟨T_r0, A_r0, B_r0, ⟨r0_0, R_r0_0, H_r0_0⟩, ⟨r0_1, R_r0_1, H_r0_1⟩, ⟨r0_2, R_r0_2, H_r0_2⟩, ⟨r0_5, R_r0_5, H_r0_5⟩, ⟨r0_6, R_r0_6, H_r0_6⟩, ⟨r0_7, R_r0_7, H_r0_7⟩, ⟨r0_8, R_r0_8, H_r0_8⟩, ⟨r0_9, R_r0_9, H_r0_9⟩, ⟨r0_10, R_r0_10, H_r0_10⟩, ⟨r0_11, R_r0_11, H_r0_11⟩, ⟨r0_12, R_r0_12, H_r0_12⟩, ⟨r0_13, R_r0_13, H_r0_13⟩⟩ := id H_r0
  have z_r0_0 : rA R r0 0 = r0_0 := rA_e R_r0_0
  have z_r0_1 : rA R r0 1 = r0_1 := rA_e R_r0_1
  have z_r0_2 : rA R r0 2 = r0_2 := rA_e R_r0_2
  have z_r0_5 : rA R r0 5 = r0_5 := rA_e R_r0_5
  have z_r0_6 : rA R r0 6 = r0_6 := rA_e R_r0_6
  have z_r0_7 : rA R r0 7 = r0_7 := rA_e R_r0_7
  have z_r0_8 : rA R r0 8 = r0_8 := rA_e R_r0_8
  have z_r0_9 : rA R r0 9 = r0_9 := rA_e R_r0_9
  have z_r0_10 : rA R r0 10 = r0_10 := rA_e R_r0_10
  have z_r0_11 : rA R r0 11 = r0_11 := rA_e R_r0_11
  have z_r0_12 : rA R r0 12 = r0_12 := rA_e R_r0_12
  have z_r0_13 : rA R r0 13 = r0_13 := rA_e R_r0_13
  obtain ⟨T_r0_1, A_r0_1, B_r0_1, ⟨r0_1_6, R_r0_1_6, H_r0_1_6⟩, ⟨r0_1_7, R_r0_1_7, H_r0_1_7⟩, ⟨r0_1_8, R_r0_1_8, H_r0_1_8⟩, ⟨r0_1_9, R_r0_1_9, H_r0_1_9⟩, ⟨r0_1_10, R_r0_1_10, H_r0_1_10⟩⟩ := id H_r0_1
  have z_r0_1_6 : rA R r0_1 6 = r0_1_6 := rA_e R_r0_1_6
  have z_r0_1_7 : rA R r0_1 7 = r0_1_7 := rA_e R_r0_1_7
  have z_r0_1_8 : rA R r0_1 8 = r0_1_8 := rA_e R_r0_1_8
  have z_r0_1_9 : rA R r0_1 9 = r0_1_9 := rA_e R_r0_1_9
  have z_r0_1_10 : rA R r0_1 10 = r0_1_10 := rA_e R_r0_1_10
  try simp only [z_r0_0, z_r0_1, z_r0_2, z_r0_5, z_r0_6, z_r0_7, z_r0_8, z_r0_9, z_r0_10, z_r0_11, z_r0_12, z_r0_13, z_r0_1_6, z_r0_1_7, z_r0_1_8, z_r0_1_9, z_r0_1_10] at hp0
  obtain ⟨w_r0_1_0, k0_r0_1_0⟩ : ∃ x, I r0_1 0 = x := ⟨_, rfl⟩
  have gw_r0_1_0 := rg w_r0_1_0
  have ow_r0_1_0 := IX.p hI A_r0_1 T_r0_1 k0_r0_1_0
  obtain ⟨w_r0_1_1, k0_r0_1_1⟩ : ∃ x, I r0_1 1 = x := ⟨_, rfl⟩
  have gw_r0_1_1 := rg w_r0_1_1
  obtain ⟨w_r0_1_2, k0_r0_1_2⟩ : ∃ x, I r0_1 2 = x := ⟨_, rfl⟩
  have gw_r0_1_2 := rg w_r0_1_2
  obtain ⟨w_r0_1_3, k0_r0_1_3⟩ : ∃ x, I r0_1 3 = x := ⟨_, rfl⟩
  have gw_r0_1_3 := rg w_r0_1_3
  obtain ⟨w_r0_1_4, k0_r0_1_4⟩ : ∃ x, I r0_1 4 = x := ⟨_, rfl⟩
  have gw_r0_1_4 := rg w_r0_1_4
  obtain ⟨w_r0_1_5, k0_r0_1_5⟩ : ∃ x, I r0_1 5 = x := ⟨_, rfl⟩
  have gw_r0_1_5 := rg w_r0_1_5
  try simp only [k0_r0_1_0, k0_r0_1_1, k0_r0_1_2, k0_r0_1_3, k0_r0_1_4, k0_r0_1_5] at hp0
  refine k_iload_n C rfl rfl rfl ?_
  refine k_table C rfl (by decide) (fun c1 => ?_) (fun c1 c2 => ?_)
  · skip
    show V 100 _ _ _ _ _
    refine z_iconst C (z := -1) rfl rfl rfl (fun x3 ex3 => ?_)
    exact k_iret C rfl (Or.inl rfl) (Nat.le_of_ble_eq_true rfl) (Nat.le_of_ble_eq_true rfl) ⟨_, _, _, rfl, rfl, by (try simp only [z_r0_0, z_r0_1, z_r0_2, z_r0_5, z_r0_6, z_r0_7, z_r0_8, z_r0_9, z_r0_10, z_r0_11, z_r0_12, z_r0_13, z_r0_1_6, z_r0_1_7, z_r0_1_8, z_r0_1_9, z_r0_1_10]); (try simp only [z_r0_0, z_r0_1, z_r0_2, z_r0_5, z_r0_6, z_r0_7, z_r0_8, z_r0_9, z_r0_10, z_r0_11, z_r0_12, z_r0_13, z_r0_1_6, z_r0_1_7, z_r0_1_8, z_r0_1_9, z_r0_1_10]); (try simp only [k0_r0_1_0, k0_r0_1_1, k0_r0_1_2, k0_r0_1_3, k0_r0_1_4, k0_r0_1_5]); exact STV.mk (by omega), by (try simp only [z_r0_0, z_r0_1, z_r0_2, z_r0_5, z_r0_6, z_r0_7, z_r0_8, z_r0_9, z_r0_10, z_r0_11, z_r0_12, z_r0_13, z_r0_1_6, z_r0_1_7, z_r0_1_8, z_r0_1_9, z_r0_1_10]); intro h9; exfalso; omega, rfl, rfl⟩
  have h4 : n1.toInt = 0 ∨ n1.toInt = 1 ∨ n1.toInt = 2 ∨ n1.toInt = 3 ∨ n1.toInt = 4 ∨ n1.toInt = 5 ∨ n1.toInt = 6 := by omega
  rcases h4 with h4 | h4 | h4 | h4 | h4 | h4 | h4
  · skip
    refine ⟨43, by rw [h4]; rfl, by decide, ?_⟩
    show V 44 _ _ _ _ _
    refine k_aload_n C rfl rfl rfl ?_
    refine g_R C rfl rfl rfl T_r0 rfl R_r0_1 ?_
    refine g_I C rfl rfl rfl T_r0_1 rfl k0_r0_1_0 ?_
    exact k_iret C rfl (Or.inl rfl) (Nat.le_of_ble_eq_true rfl) (Nat.le_of_ble_eq_true rfl) ⟨_, _, _, rfl, rfl, by (try simp only [z_r0_0, z_r0_1, z_r0_2, z_r0_5, z_r0_6, z_r0_7, z_r0_8, z_r0_9, z_r0_10, z_r0_11, z_r0_12, z_r0_13, z_r0_1_6, z_r0_1_7, z_r0_1_8, z_r0_1_9, z_r0_1_10]); (try simp only [z_r0_0, z_r0_1, z_r0_2, z_r0_5, z_r0_6, z_r0_7, z_r0_8, z_r0_9, z_r0_10, z_r0_11, z_r0_12, z_r0_13, z_r0_1_6, z_r0_1_7, z_r0_1_8, z_r0_1_9, z_r0_1_10]); (try simp only [k0_r0_1_0, k0_r0_1_1, k0_r0_1_2, k0_r0_1_3, k0_r0_1_4, k0_r0_1_5]); exact STV.mk (by omega), by (try simp only [z_r0_0, z_r0_1, z_r0_2, z_r0_5, z_r0_6, z_r0_7, z_r0_8, z_r0_9, z_r0_10, z_r0_11, z_r0_12, z_r0_13, z_r0_1_6, z_r0_1_7, z_r0_1_8, z_r0_1_9, z_r0_1_10]); intro h9; exfalso; omega, rfl, rfl⟩
  · skip
    refine ⟨51, by rw [h4]; rfl, by decide, ?_⟩
    show V 52 _ _ _ _ _
    refine k_aload_n C rfl rfl rfl ?_
    refine g_R C rfl rfl rfl T_r0 rfl R_r0_1 ?_
    refine g_I C rfl rfl rfl T_r0_1 rfl k0_r0_1_1 ?_
    exact k_iret C rfl (Or.inl rfl) (Nat.le_of_ble_eq_true rfl) (Nat.le_of_ble_eq_true rfl) ⟨_, _, _, rfl, rfl, by (try simp only [z_r0_0, z_r0_1, z_r0_2, z_r0_5, z_r0_6, z_r0_7, z_r0_8, z_r0_9, z_r0_10, z_r0_11, z_r0_12, z_r0_13, z_r0_1_6, z_r0_1_7, z_r0_1_8, z_r0_1_9, z_r0_1_10]); (try simp only [z_r0_0, z_r0_1, z_r0_2, z_r0_5, z_r0_6, z_r0_7, z_r0_8, z_r0_9, z_r0_10, z_r0_11, z_r0_12, z_r0_13, z_r0_1_6, z_r0_1_7, z_r0_1_8, z_r0_1_9, z_r0_1_10]); (try simp only [k0_r0_1_0, k0_r0_1_1, k0_r0_1_2, k0_r0_1_3, k0_r0_1_4, k0_r0_1_5]); exact STV.mk (by omega), by (try simp only [z_r0_0, z_r0_1, z_r0_2, z_r0_5, z_r0_6, z_r0_7, z_r0_8, z_r0_9, z_r0_10, z_r0_11, z_r0_12, z_r0_13, z_r0_1_6, z_r0_1_7, z_r0_1_8, z_r0_1_9, z_r0_1_10]); intro h9; exfalso; omega, rfl, rfl⟩
  · skip
    refine ⟨59, by rw [h4]; rfl, by decide, ?_⟩
    show V 60 _ _ _ _ _
    refine k_aload_n C rfl rfl rfl ?_
    refine g_R C rfl rfl rfl T_r0 rfl R_r0_1 ?_
    refine g_I C rfl rfl rfl T_r0_1 rfl k0_r0_1_2 ?_
    exact k_iret C rfl (Or.inl rfl) (Nat.le_of_ble_eq_true rfl) (Nat.le_of_ble_eq_true rfl) ⟨_, _, _, rfl, rfl, by (try simp only [z_r0_0, z_r0_1, z_r0_2, z_r0_5, z_r0_6, z_r0_7, z_r0_8, z_r0_9, z_r0_10, z_r0_11, z_r0_12, z_r0_13, z_r0_1_6, z_r0_1_7, z_r0_1_8, z_r0_1_9, z_r0_1_10]); (try simp only [z_r0_0, z_r0_1, z_r0_2, z_r0_5, z_r0_6, z_r0_7, z_r0_8, z_r0_9, z_r0_10, z_r0_11, z_r0_12, z_r0_13, z_r0_1_6, z_r0_1_7, z_r0_1_8, z_r0_1_9, z_r0_1_10]); (try simp only [k0_r0_1_0, k0_r0_1_1, k0_r0_1_2, k0_r0_1_3, k0_r0_1_4, k0_r0_1_5]); exact STV.mk (by omega), by (try simp only [z_r0_0, z_r0_1, z_r0_2, z_r0_5, z_r0_6, z_r0_7, z_r0_8, z_r0_9, z_r0_10, z_r0_11, z_r0_12, z_r0_13, z_r0_1_6, z_r0_1_7, z_r0_1_8, z_r0_1_9, z_r0_1_10]); intro h9; exfalso; omega, rfl, rfl⟩
  · skip
    refine ⟨67, by rw [h4]; rfl, by decide, ?_⟩
    show V 68 _ _ _ _ _
    refine k_aload_n C rfl rfl rfl ?_
    refine g_R C rfl rfl rfl T_r0 rfl R_r0_1 ?_
    refine g_I C rfl rfl rfl T_r0_1 rfl k0_r0_1_3 ?_
    exact k_iret C rfl (Or.inl rfl) (Nat.le_of_ble_eq_true rfl) (Nat.le_of_ble_eq_true rfl) ⟨_, _, _, rfl, rfl, by (try simp only [z_r0_0, z_r0_1, z_r0_2, z_r0_5, z_r0_6, z_r0_7, z_r0_8, z_r0_9, z_r0_10, z_r0_11, z_r0_12, z_r0_13, z_r0_1_6, z_r0_1_7, z_r0_1_8, z_r0_1_9, z_r0_1_10]); (try simp only [z_r0_0, z_r0_1, z_r0_2, z_r0_5, z_r0_6, z_r0_7, z_r0_8, z_r0_9, z_r0_10, z_r0_11, z_r0_12, z_r0_13, z_r0_1_6, z_r0_1_7, z_r0_1_8, z_r0_1_9, z_r0_1_10]); (try simp only [k0_r0_1_0, k0_r0_1_1, k0_r0_1_2, k0_r0_1_3, k0_r0_1_4, k0_r0_1_5]); exact STV.mk (by omega), by (try simp only [z_r0_0, z_r0_1, z_r0_2, z_r0_5, z_r0_6, z_r0_7, z_r0_8, z_r0_9, z_r0_10, z_r0_11, z_r0_12, z_r0_13, z_r0_1_6, z_r0_1_7, z_r0_1_8, z_r0_1_9, z_r0_1_10]); intro h9; exfalso; omega, rfl, rfl⟩
  · skip
    refine ⟨75, by rw [h4]; rfl, by decide, ?_⟩
    show V 76 _ _ _ _ _
    refine k_aload_n C rfl rfl rfl ?_
    refine g_R C rfl rfl rfl T_r0 rfl R_r0_1 ?_
    refine g_I C rfl rfl rfl T_r0_1 rfl k0_r0_1_4 ?_
    exact k_iret C rfl (Or.inl rfl) (Nat.le_of_ble_eq_true rfl) (Nat.le_of_ble_eq_true rfl) ⟨_, _, _, rfl, rfl, by (try simp only [z_r0_0, z_r0_1, z_r0_2, z_r0_5, z_r0_6, z_r0_7, z_r0_8, z_r0_9, z_r0_10, z_r0_11, z_r0_12, z_r0_13, z_r0_1_6, z_r0_1_7, z_r0_1_8, z_r0_1_9, z_r0_1_10]); (try simp only [z_r0_0, z_r0_1, z_r0_2, z_r0_5, z_r0_6, z_r0_7, z_r0_8, z_r0_9, z_r0_10, z_r0_11, z_r0_12, z_r0_13, z_r0_1_6, z_r0_1_7, z_r0_1_8, z_r0_1_9, z_r0_1_10]); (try simp only [k0_r0_1_0, k0_r0_1_1, k0_r0_1_2, k0_r0_1_3, k0_r0_1_4, k0_r0_1_5]); exact STV.mk (by omega), by (try simp only [z_r0_0, z_r0_1, z_r0_2, z_r0_5, z_r0_6, z_r0_7, z_r0_8, z_r0_9, z_r0_10, z_r0_11, z_r0_12, z_r0_13, z_r0_1_6, z_r0_1_7, z_r0_1_8, z_r0_1_9, z_r0_1_10]); intro h9; exfalso; omega, rfl, rfl⟩
  · skip
    refine ⟨83, by rw [h4]; rfl, by decide, ?_⟩
    show V 84 _ _ _ _ _
    refine k_aload_n C rfl rfl rfl ?_
    refine g_R C rfl rfl rfl T_r0 rfl R_r0_1 ?_
    refine g_I C rfl rfl rfl T_r0_1 rfl k0_r0_1_5 ?_
    exact k_iret C rfl (Or.inl rfl) (Nat.le_of_ble_eq_true rfl) (Nat.le_of_ble_eq_true rfl) ⟨_, _, _, rfl, rfl, by (try simp only [z_r0_0, z_r0_1, z_r0_2, z_r0_5, z_r0_6, z_r0_7, z_r0_8, z_r0_9, z_r0_10, z_r0_11, z_r0_12, z_r0_13, z_r0_1_6, z_r0_1_7, z_r0_1_8, z_r0_1_9, z_r0_1_10]); (try simp only [z_r0_0, z_r0_1, z_r0_2, z_r0_5, z_r0_6, z_r0_7, z_r0_8, z_r0_9, z_r0_10, z_r0_11, z_r0_12, z_r0_13, z_r0_1_6, z_r0_1_7, z_r0_1_8, z_r0_1_9, z_r0_1_10]); (try simp only [k0_r0_1_0, k0_r0_1_1, k0_r0_1_2, k0_r0_1_3, k0_r0_1_4, k0_r0_1_5]); exact STV.mk (by omega), by (try simp only [z_r0_0, z_r0_1, z_r0_2, z_r0_5, z_r0_6, z_r0_7, z_r0_8, z_r0_9, z_r0_10, z_r0_11, z_r0_12, z_r0_13, z_r0_1_6, z_r0_1_7, z_r0_1_8, z_r0_1_9, z_r0_1_10]); intro h9; exfalso; omega, rfl, rfl⟩
  · skip
    refine ⟨91, by rw [h4]; rfl, by decide, ?_⟩
    show V 92 _ _ _ _ _
    refine k_aload_n C rfl rfl rfl ?_
    refine g_R C rfl rfl rfl T_r0 rfl R_r0_1 ?_
    refine c_VI C (s_X8_noughts_x hS hI H_r0_1 (by first | omega | (simp only [k0_r0_1_0, k0_r0_1_1, k0_r0_1_2, k0_r0_1_3, k0_r0_1_4, k0_r0_1_5, and_true, true_and, or_true, true_or, and_false, false_and, or_false, false_or] <;> omega))) rfl rfl rfl rfl rfl ⟨_, rfl, rfl, T_r0_1, Nat.le_of_ble_eq_true rfl⟩ rfl rfl (Nat.le_of_ble_eq_true rfl) (Nat.le_of_ble_eq_true rfl) (Nat.le_of_ble_eq_true rfl) ?_
    rintro x5 _ _ ⟨p0x5, rfl, rfl⟩
    have gx5 := rg x5
    try simp only [z_r0_0, z_r0_1, z_r0_2, z_r0_5, z_r0_6, z_r0_7, z_r0_8, z_r0_9, z_r0_10, z_r0_11, z_r0_12, z_r0_13, z_r0_1_6, z_r0_1_7, z_r0_1_8, z_r0_1_9, z_r0_1_10] at p0x5
    try simp only [k0_r0_1_0, k0_r0_1_1, k0_r0_1_2, k0_r0_1_3, k0_r0_1_4, k0_r0_1_5] at p0x5
    try have q0x5 := congrArg Int32.toInt p0x5
    have hcn := p0x5
    exact k_iret C rfl (Or.inl rfl) (Nat.le_of_ble_eq_true rfl) (Nat.le_of_ble_eq_true rfl) ⟨_, _, _, rfl, rfl, by (try simp only [z_r0_0, z_r0_1, z_r0_2, z_r0_5, z_r0_6, z_r0_7, z_r0_8, z_r0_9, z_r0_10, z_r0_11, z_r0_12, z_r0_13, z_r0_1_6, z_r0_1_7, z_r0_1_8, z_r0_1_9, z_r0_1_10]); exact STV.mk (by omega), by (try simp only [z_r0_0, z_r0_1, z_r0_2, z_r0_5, z_r0_6, z_r0_7, z_r0_8, z_r0_9, z_r0_10, z_r0_11, z_r0_12, z_r0_13, z_r0_1_6, z_r0_1_7, z_r0_1_8, z_r0_1_9, z_r0_1_10]); intro _; (try simp only [z_r0_0, z_r0_1, z_r0_2, z_r0_5, z_r0_6, z_r0_7, z_r0_8, z_r0_9, z_r0_10, z_r0_11, z_r0_12, z_r0_13, z_r0_1_6, z_r0_1_7, z_r0_1_8, z_r0_1_9, z_r0_1_10]); (try simp only [k0_r0_1_1]); exact hcn, rfl, rfl⟩

