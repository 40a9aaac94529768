/-! the class in any state, the states' forms kept -/
def hs_F (T N : Nat → Nat) (R : RT) (A B : Nat → Prop) (r : Nat) : Prop := T r = 3 ∧ A r ∧ (∃ b, R r 1 = some b ∧ (h_A T N A 20 41) b)
def hs_G (T N : Nat → Nat) (R : RT) (A B : Nat → Prop) (r : Nat) : Prop := T r = 3 ∧ A r ∧ B r ∧ (∃ b, R r 1 = some b ∧ (h_A T N B 20 41) b)
def hs_Sg (T N : Nat → Nat) (R : RT) (A B : Nat → Prop) (r : Nat) : Prop := T r = 8 ∧ A r ∧ (∃ b, R r 0 = some b ∧ (h_A T N A 20 160) b) ∧ (∃ b, R r 1 = some b ∧ (h_A T N A 20 160) b)
def hs_Su (T N : Nat → Nat) (R : RT) (A B : Nat → Prop) (r : Nat) : Prop := T r = 8 ∧ A r ∧ B r ∧ (∃ b, R r 0 = some b ∧ (h_A T N B 20 160) b) ∧ (∃ b, R r 1 = some b ∧ (h_A T N B 20 160) b)
def hs_Tb (T N : Nat → Nat) (R : RT) (A B : Nat → Prop) (r : Nat) : Prop := T r = 10 ∧ A r ∧ B r
def hs_Row12 (T N : Nat → Nat) (R : RT) (A B : Nat → Prop) (r : Nat) : Prop := T r = 23 ∧ N r = 12 ∧ A r ∧ ∀ j, j < 12 → ∃ f, R r j = some f ∧ (hs_G T N R A B) f
def hs_Row16 (T N : Nat → Nat) (R : RT) (A B : Nat → Prop) (r : Nat) : Prop := T r = 23 ∧ N r = 16 ∧ A r ∧ ∀ j, j < 16 → ∃ f, R r j = some f ∧ (hs_F T N R A B) f
def hs_Row20 (T N : Nat → Nat) (R : RT) (A B : Nat → Prop) (r : Nat) : Prop := T r = 23 ∧ N r = 20 ∧ A r ∧ ∀ j, j < 20 → ∃ f, R r j = some f ∧ (hs_G T N R A B) f
def hs_Row40 (T N : Nat → Nat) (R : RT) (A B : Nat → Prop) (r : Nat) : Prop := T r = 23 ∧ N r = 40 ∧ A r ∧ ∀ j, j < 40 → ∃ f, R r j = some f ∧ (hs_F T N R A B) f
def hs_Tabs (T N : Nat → Nat) (R : RT) (A B : Nat → Prop) (r : Nat) : Prop := T r = 24 ∧ N r = 8 ∧ A r ∧ ∀ j, j < 8 → ∃ f, R r j = some f ∧ (hs_Tb T N R A B) f
def hs_Sgs (T N : Nat → Nat) (R : RT) (A B : Nat → Prop) (r : Nat) : Prop := T r = 25 ∧ N r = 8 ∧ A r ∧ ∀ j, j < 8 → ∃ f, R r j = some f ∧ (hs_Sg T N R A B) f
def hs_Held (T N : Nat → Nat) (R : RT) (A B : Nat → Prop) (r : Nat) : Prop := T r = 26 ∧ N r = 8 ∧ A r ∧ ∀ j, j < 8 → ∃ f, R r j = some f ∧ (h_A T N B 20 492) f
def hs_St (T N : Nat → Nat) (R : RT) (A B : Nat → Prop) (r : Nat) : Prop := T r = 9 ∧ A r ∧ B r ∧ (∃ b, R r 6 = some b ∧ (h_A T N A 20 40) b) ∧ (∃ b, R r 7 = some b ∧ (hs_Row40 T N R A B) b) ∧ (∃ b, R r 8 = some b ∧ (hs_Row16 T N R A B) b) ∧ (∃ b, R r 9 = some b ∧ (hs_Tabs T N R A B) b) ∧ (∃ b, R r 10 = some b ∧ (hs_Sgs T N R A B) b)
def hs_Rd (T N : Nat → Nat) (R : RT) (A B : Nat → Prop) (r : Nat) : Prop := T r = 5 ∧ A r ∧ B r ∧ (∃ b, R r 0 = some b ∧ (hs_Su T N R A B) b) ∧ (∃ b, R r 2 = some b ∧ (h_A T N A 20 400) b)
def hs_Al (T N : Nat → Nat) (R : RT) (A B : Nat → Prop) (r : Nat) : Prop := T r = 1 ∧ A r ∧ B r ∧ (∃ b, R r 0 = some b ∧ (hs_St T N R A B) b) ∧ (∃ b, R r 1 = some b ∧ (hs_G T N R A B) b) ∧ (∃ b, R r 2 = some b ∧ (hs_G T N R A B) b)
def hs_Cc (T N : Nat → Nat) (R : RT) (A B : Nat → Prop) (r : Nat) : Prop := T r = 2 ∧ A r ∧ B r ∧ (∃ b, R r 0 = some b ∧ (hs_Al T N R A B) b) ∧ (∃ b, R r 1 = some b ∧ (hs_Row20 T N R A B) b) ∧ (∃ b, R r 2 = some b ∧ (h_A T N B 20 20) b) ∧ (∃ b, R r 3 = some b ∧ (hs_G T N R A B) b) ∧ (∃ b, R r 4 = some b ∧ (hs_G T N R A B) b)
def hs_Rw (T N : Nat → Nat) (R : RT) (A B : Nat → Prop) (r : Nat) : Prop := T r = 6 ∧ A r ∧ B r ∧ (∃ b, R r 0 = some b ∧ (hs_Al T N R A B) b) ∧ (∃ b, R r 1 = some b ∧ (hs_Cc T N R A B) b) ∧ (∃ b, R r 2 = some b ∧ (hs_Row12 T N R A B) b) ∧ (∃ b, R r 3 = some b ∧ (hs_Held T N R A B) b) ∧ (∃ b, R r 4 = some b ∧ (h_A T N B 20 8) b) ∧ (∃ b, R r 5 = some b ∧ (h_A T N B 21 637) b)
def hs_Se (T N : Nat → Nat) (R : RT) (A B : Nat → Prop) (r : Nat) : Prop := T r = 7 ∧ A r ∧ B r ∧ (∃ b, R r 2 = some b ∧ (hs_Al T N R A B) b) ∧ (∃ b, R r 3 = some b ∧ (h_A T N B 20 400) b) ∧ (∃ b, R r 4 = some b ∧ (h_A T N B 20 9) b) ∧ (∃ b, R r 5 = some b ∧ (h_A T N B 20 400) b) ∧ (∃ b, R r 6 = some b ∧ (h_A T N B 20 400) b)
def hs_Po (T N : Nat → Nat) (R : RT) (A B : Nat → Prop) (r : Nat) : Prop := T r = 4 ∧ A r ∧ B r ∧ (∃ b, R r 1 = some b ∧ (hs_Al T N R A B) b) ∧ (∃ b, R r 2 = some b ∧ (h_A T N B 20 3) b) ∧ (∃ b, R r 3 = some b ∧ (h_A T N B 20 3) b) ∧ (∃ b, R r 4 = some b ∧ (h_A T N B 20 9) b) ∧ (∃ b, R r 5 = some b ∧ (h_A T N B 20 9) b)
def hs_Wh (T N : Nat → Nat) (R : RT) (A B : Nat → Prop) (r : Nat) : Prop := T r = 11 ∧ A r ∧ B r
def hs_LF (T N : Nat → Nat) (R : RT) (A B : Nat → Prop) (r : Nat) : Prop := T r = 12 ∧ A r ∧ B r ∧ (∃ b, R r 0 = some b ∧ (hs_Rd T N R A B) b) ∧ (∃ b, R r 1 = some b ∧ (hs_St T N R A B) b) ∧ (∃ b, R r 2 = some b ∧ (hs_St T N R A B) b) ∧ (∃ b, R r 5 = some b ∧ (hs_Al T N R A B) b) ∧ (∃ b, R r 6 = some b ∧ (hs_Cc T N R A B) b) ∧ (∃ b, R r 7 = some b ∧ (hs_Rw T N R A B) b) ∧ (∃ b, R r 8 = some b ∧ (hs_Se T N R A B) b) ∧ (∃ b, R r 9 = some b ∧ (hs_Po T N R A B) b) ∧ (∃ b, R r 10 = some b ∧ (hs_Wh T N R A B) b) ∧ (∃ b, R r 11 = some b ∧ (hs_G T N R A B) b) ∧ (∃ b, R r 12 = some b ∧ (hs_G T N R A B) b) ∧ (∃ b, R r 13 = some b ∧ (hs_G T N R A B) b)
def SUB (B A : Nat → Prop) : Prop := ∀ a, B a → A a
theorem hs_GF {T N : Nat → Nat} {R : RT} {A B : Nat → Prop} {r : Nat} (hS : SUB B A) (h : hs_G T N R A B r) : hs_F T N R A B r := by
  obtain ⟨h1, h2, -, b, h3, h4, h5, h6⟩ := h
  exact ⟨h1, h2, b, h3, h4, h5, hS _ h6⟩
theorem hs_SuSg {T N : Nat → Nat} {R : RT} {A B : Nat → Prop} {r : Nat} (hS : SUB B A) (h : hs_Su T N R A B r) : hs_Sg T N R A B r := by
  obtain ⟨h1, h2, -, ⟨b, h3, h4, h5, h6⟩, c, g3, g4, g5, g6⟩ := h
  exact ⟨h1, h2, ⟨b, h3, h4, h5, hS _ h6⟩, c, g3, g4, g5, hS _ g6⟩
theorem s_X0_p {d : Nat} {T N : Nat → Nat} {I : IT} {L : LT} {R : RT} {A B : Nat → Prop} {r0 : Nat} (hS : SUB B A) (hI : IX A T I) (H_r0 : (hs_Al T N R A B) r0) : Ex (d + 1) 2 [.ref r0] (T, N, I, L, R) 0 0 (pI T N R (fun x9 I9 L9 => (11 ≤ x9.toInt) ∧ (x9.toInt ≤ 19) ∧ (I = I9 ∧ L = L9))) := by
  refine ⟨_, rfl, Nat.le_of_ble_eq_true rfl, fun V C S => ?_⟩
  show V 0 [(0, .ref r0)] [] (T, N, I, L, R) 0 0
  refine k_aload_n C rfl rfl rfl ?_
  obtain ⟨T_r0, A_r0, B_r0, ⟨r0_0, R_r0_0, H_r0_0⟩, ⟨r0_1, R_r0_1, H_r0_1⟩, ⟨r0_2, R_r0_2, H_r0_2⟩⟩ := id H_r0
  refine g_R C rfl rfl rfl T_r0 rfl R_r0_0 ?_
  obtain ⟨T_r0_0, A_r0_0, B_r0_0, ⟨r0_0_6, R_r0_0_6, H_r0_0_6⟩, ⟨r0_0_7, R_r0_0_7, H_r0_0_7⟩, ⟨r0_0_8, R_r0_0_8, H_r0_0_8⟩, ⟨r0_0_9, R_r0_0_9, H_r0_0_9⟩, ⟨r0_0_10, R_r0_0_10, H_r0_0_10⟩⟩ := id H_r0_0
  refine z_gI C rfl rfl rfl T_r0_0 rfl (fun x1 ex1 => ?_)
  have gx1 := rg x1
  have ox1 := IX.p hI A_r0_0 T_r0_0 ex1
  exact k_iret C rfl (Or.inl rfl) (Nat.le_of_ble_eq_true rfl) (Nat.le_of_ble_eq_true rfl) ⟨_, _, _, rfl, rfl, by omega, by omega, rfl, rfl⟩

theorem s_X0_of {d : Nat} {T N : Nat → Nat} {I : IT} {L : LT} {R : RT} {A B : Nat → Prop} {r0 : Nat} {l1 : Int64} (hS : SUB B A) (hI : IX A T I) (H_r0 : (hs_Al T N R A B) r0) : Ex (d + 1) 3 [.ref r0, .long l1] (T, N, I, L, R) 0 0 (pI T N R (fun x9 I9 L9 => (I = I9 ∧ L = L9))) := by
  refine ⟨_, rfl, Nat.le_of_ble_eq_true rfl, fun V C S => ?_⟩
  show V 0 [(0, .ref r0), (1, .long l1)] [] (T, N, I, L, R) 0 0
  refine k_aload_n C rfl rfl rfl ?_
  obtain ⟨T_r0, A_r0, B_r0, ⟨r0_0, R_r0_0, H_r0_0⟩, ⟨r0_1, R_r0_1, H_r0_1⟩, ⟨r0_2, R_r0_2, H_r0_2⟩⟩ := id H_r0
  refine g_R C rfl rfl rfl T_r0 rfl R_r0_0 ?_
  obtain ⟨T_r0_0, A_r0_0, B_r0_0, ⟨r0_0_6, R_r0_0_6, H_r0_0_6⟩, ⟨r0_0_7, R_r0_0_7, H_r0_0_7⟩, ⟨r0_0_8, R_r0_0_8, H_r0_0_8⟩, ⟨r0_0_9, R_r0_0_9, H_r0_0_9⟩, ⟨r0_0_10, R_r0_0_10, H_r0_0_10⟩⟩ := id H_r0_0
  refine z_gI C rfl rfl rfl T_r0_0 rfl (fun x1 ex1 => ?_)
  have gx1 := rg x1
  have ox1 := IX.p hI A_r0_0 T_r0_0 ex1
  refine z_iconst C (z := 2) rfl rfl rfl (fun x2 ex2 => ?_)
  refine b_icmp_ge C (t := 13) rfl rfl rfl (fun c3 => ?_) (fun c3 => by exfalso; omega)
  refine k_lload_n C rfl rfl rfl ?_
  refine k_aload_n C rfl rfl rfl ?_
  refine g_R C rfl rfl rfl T_r0 rfl R_r0_0 ?_
  refine g_I C rfl rfl rfl T_r0_0 rfl ex1 ?_
  refine z_i2l C rfl rfl (fun lg4 elg4 => ?_)
  refine zt_lrem C rfl rfl (by omega) (fun lg5 => ?_)
  refine k_lstore_n C (lw := [(3, .long lg5), (0, .ref r0), (1, .long l1)]) rfl rfl (Nat.le_of_ble_eq_true rfl) rfl ?_
  refine k_lload_n C rfl rfl rfl ?_
  refine z_lconst C (y := 0) rfl rfl rfl (fun lg6 elg6 => ?_)
  refine zt_lcmp C rfl rfl (fun x7 => ?_)
  have gx7 := rg x7
  refine b_if_ge C (t := 43) rfl rfl rfl (fun c8 => ?_) (fun c8 => ?_)
  · skip
    refine k_lload_n C rfl rfl rfl ?_
    refine zt_l2i C rfl rfl (fun x9 => ?_)
    have gx9 := rg x9
    exact k_iret C rfl (Or.inl rfl) (Nat.le_of_ble_eq_true rfl) (Nat.le_of_ble_eq_true rfl) ⟨_, _, _, rfl, rfl, rfl, rfl⟩
  refine k_lload_n C rfl rfl rfl ?_
  refine k_aload_n C rfl rfl rfl ?_
  refine g_R C rfl rfl rfl T_r0 rfl R_r0_0 ?_
  refine g_I C rfl rfl rfl T_r0_0 rfl ex1 ?_
  refine z_i2l C rfl rfl (fun lg10 elg10 => ?_)
  refine zt_ladd C rfl rfl (fun lg11 => ?_)
  refine k_goto C (pc2 := 44) rfl rfl ?_
  refine zt_l2i C rfl rfl (fun x12 => ?_)
  have gx12 := rg x12
  exact k_iret C rfl (Or.inl rfl) (Nat.le_of_ble_eq_true rfl) (Nat.le_of_ble_eq_true rfl) ⟨_, _, _, rfl, rfl, rfl, rfl⟩

theorem s_X0_power {d : Nat} {T N : Nat → Nat} {I : IT} {L : LT} {R : RT} {A B : Nat → Prop} {r0 : Nat} {n1 n2 : Int32} (hS : SUB B A) (hI : IX A T I) (H_r0 : (hs_Al T N R A B) r0) : Ex (d + 2) 4 [.ref r0, .int n1, .int n2] (T, N, I, L, R) 0 0 (pI T N R (fun x9 I9 L9 => (I = I9 ∧ L = L9))) := by
  refine ⟨_, rfl, Nat.le_of_ble_eq_true rfl, fun V C S => ?_⟩
  show V 0 [(0, .ref r0), (1, .int n1), (2, .int n2)] [] (T, N, I, L, R) 0 0
  have gn1 := rg n1
  have gn2 := rg n2
  refine z_iconst C (z := 1) rfl rfl rfl (fun x1 ex1 => ?_)
  refine k_istore_n C (lw := [(3, .int x1), (0, .ref r0), (1, .int n1), (2, .int n2)]) rfl rfl (Nat.le_of_ble_eq_true rfl) rfl ?_
  refine k_aload_n C rfl rfl rfl ?_
  refine k_iload_n C rfl rfl rfl ?_
  refine z_i2l C rfl rfl (fun lg2 elg2 => ?_)
  obtain ⟨T_r0, A_r0, B_r0, ⟨r0_0, R_r0_0, H_r0_0⟩, ⟨r0_1, R_r0_1, H_r0_1⟩, ⟨r0_2, R_r0_2, H_r0_2⟩⟩ := id H_r0
  refine c_VI C (s_X0_of hS hI H_r0) rfl rfl rfl rfl rfl ⟨_, rfl, rfl, T_r0, Nat.le_of_ble_eq_true rfl⟩ rfl rfl (Nat.le_of_ble_eq_true rfl) (Nat.le_of_ble_eq_true rfl) (Nat.le_of_ble_eq_true rfl) ?_
  rintro x3 _ _ ⟨rfl, rfl⟩
  have gx3 := rg x3
  refine k_istore C (lw := [(4, .int x3), (3, .int x1), (0, .ref r0), (1, .int n1), (2, .int n2)]) rfl rfl (Nat.le_of_ble_eq_true rfl) rfl ?_
  refine k_iload_n C rfl rfl rfl ?_
  have J4 : ∀ (nn5 : Nat) (x6 : Int32) (x7 : Int32) (x8 : Int32), (MN x8.toInt nn5) → V 13 [(0, .ref r0), (3, .int x6), (4, .int x7), (5, .int x8)] [] (T, N, I, L, R) 0 0 := by
    intro nn5
    induction nn5 using Nat.strongRecOn with
    | _ nn5 ihJ4 =>
      intro x6 x7 x8 hmnn5
      have gx6 := rg x6
      have gx7 := rg x7
      have gx8 := rg x8
      refine k_iload C rfl rfl rfl ?_
      refine b_if_le C (t := 57) rfl rfl rfl (fun c9 => ?_) (fun c9 => ?_)
      · skip
        refine k_iload_n C rfl rfl rfl ?_
        exact k_iret C rfl (Or.inl rfl) (Nat.le_of_ble_eq_true rfl) (Nat.le_of_ble_eq_true rfl) ⟨_, _, _, rfl, rfl, rfl, rfl⟩
      refine k_iload C rfl rfl rfl ?_
      refine z_iconst C (z := 1) rfl rfl rfl (fun x10 ex10 => ?_)
      refine zt_iand C rfl rfl (fun x11 => ?_)
      have gx11 := rg x11
      refine z_iconst C (z := 1) rfl rfl rfl (fun x12 ex12 => ?_)
      refine b_icmp_ne C (t := 36) rfl rfl rfl (fun c13 => ?_) (fun c13 => ?_)
      · skip
        refine k_aload_n C rfl rfl rfl ?_
        refine k_iload C rfl rfl rfl ?_
        refine k_iload C rfl rfl rfl ?_
        refine zt_imul C rfl rfl (fun x14 => ?_)
        have gx14 := rg x14
        refine z_i2l C rfl rfl (fun lg15 elg15 => ?_)
        refine c_VI C (s_X0_of hS hI H_r0) rfl rfl rfl rfl rfl ⟨_, rfl, rfl, T_r0, Nat.le_of_ble_eq_true rfl⟩ rfl rfl (Nat.le_of_ble_eq_true rfl) (Nat.le_of_ble_eq_true rfl) (Nat.le_of_ble_eq_true rfl) ?_
        rintro x16 _ _ ⟨rfl, rfl⟩
        have gx16 := rg x16
        refine k_istore C (lw := [(4, .int x16), (0, .ref r0), (3, .int x6), (5, .int x8)]) rfl rfl (Nat.le_of_ble_eq_true rfl) rfl ?_
        refine k_iload C rfl rfl rfl ?_
        refine z_iconst C (z := 1) rfl rfl rfl (fun x17 ex17 => ?_)
        refine z_ishr1 C rfl rfl (by omega) (by omega) (fun x18 ex18 => ?_)
        refine k_istore C (lw := [(5, .int x18), (4, .int x16), (0, .ref r0), (3, .int x6)]) rfl rfl (Nat.le_of_ble_eq_true rfl) rfl ?_
        refine k_goto C (pc2 := 13) rfl rfl ?_
        refine k_sub S [(0, .ref r0), (3, .int x6), (4, .int x16), (5, .int x18)] (List.forall_mem_cons.mpr ⟨List.mem_of_getElem? (i := 2) rfl, List.forall_mem_cons.mpr ⟨List.mem_of_getElem? (i := 3) rfl, List.forall_mem_cons.mpr ⟨List.mem_of_getElem? (i := 1) rfl, List.forall_mem_cons.mpr ⟨List.mem_of_getElem? (i := 0) rfl, fun _ h => nomatch h⟩⟩⟩⟩) ?_
        exact ihJ4 _ (MN.lt hmnn5 (by omega) (by omega)) x6 x16 x18 rfl
      refine k_aload_n C rfl rfl rfl ?_
      refine k_iload_n C rfl rfl rfl ?_
      refine k_iload C rfl rfl rfl ?_
      refine zt_imul C rfl rfl (fun x19 => ?_)
      have gx19 := rg x19
      refine z_i2l C rfl rfl (fun lg20 elg20 => ?_)
      refine c_VI C (s_X0_of hS hI H_r0) rfl rfl rfl rfl rfl ⟨_, rfl, rfl, T_r0, Nat.le_of_ble_eq_true rfl⟩ rfl rfl (Nat.le_of_ble_eq_true rfl) (Nat.le_of_ble_eq_true rfl) (Nat.le_of_ble_eq_true rfl) ?_
      rintro x21 _ _ ⟨rfl, rfl⟩
      have gx21 := rg x21
      refine k_istore_n C (lw := [(3, .int x21), (0, .ref r0), (4, .int x7), (5, .int x8)]) rfl rfl (Nat.le_of_ble_eq_true rfl) rfl ?_
      refine k_aload_n C rfl rfl rfl ?_
      refine k_iload C rfl rfl rfl ?_
      refine k_iload C rfl rfl rfl ?_
      refine zt_imul C rfl rfl (fun x22 => ?_)
      have gx22 := rg x22
      refine z_i2l C rfl rfl (fun lg23 elg23 => ?_)
      refine c_VI C (s_X0_of hS hI H_r0) rfl rfl rfl rfl rfl ⟨_, rfl, rfl, T_r0, Nat.le_of_ble_eq_true rfl⟩ rfl rfl (Nat.le_of_ble_eq_true rfl) (Nat.le_of_ble_eq_true rfl) (Nat.le_of_ble_eq_true rfl) ?_
      rintro x24 _ _ ⟨rfl, rfl⟩
      have gx24 := rg x24
      refine k_istore C (lw := [(4, .int x24), (3, .int x21), (0, .ref r0), (5, .int x8)]) rfl rfl (Nat.le_of_ble_eq_true rfl) rfl ?_
      refine k_iload C rfl rfl rfl ?_
      refine z_iconst C (z := 1) rfl rfl rfl (fun x25 ex25 => ?_)
      refine z_ishr1 C rfl rfl (by omega) (by omega) (fun x26 ex26 => ?_)
      refine k_istore C (lw := [(5, .int x26), (4, .int x24), (3, .int x21), (0, .ref r0)]) rfl rfl (Nat.le_of_ble_eq_true rfl) rfl ?_
      refine k_goto C (pc2 := 13) rfl rfl ?_
      refine k_sub S [(0, .ref r0), (3, .int x21), (4, .int x24), (5, .int x26)] (List.forall_mem_cons.mpr ⟨List.mem_of_getElem? (i := 3) rfl, List.forall_mem_cons.mpr ⟨List.mem_of_getElem? (i := 2) rfl, List.forall_mem_cons.mpr ⟨List.mem_of_getElem? (i := 1) rfl, List.forall_mem_cons.mpr ⟨List.mem_of_getElem? (i := 0) rfl, fun _ h => nomatch h⟩⟩⟩⟩) ?_
      exact ihJ4 _ (MN.lt hmnn5 (by omega) (by omega)) x21 x24 x26 rfl
  refine k_istore C (lw := [(5, .int n2), (4, .int x3), (3, .int x1), (0, .ref r0), (1, .int n1), (2, .int n2)]) rfl rfl (Nat.le_of_ble_eq_true rfl) rfl ?_
  refine k_sub S [(0, .ref r0), (3, .int x1), (4, .int x3), (5, .int n2)] (List.forall_mem_cons.mpr ⟨List.mem_of_getElem? (i := 3) rfl, List.forall_mem_cons.mpr ⟨List.mem_of_getElem? (i := 2) rfl, List.forall_mem_cons.mpr ⟨List.mem_of_getElem? (i := 1) rfl, List.forall_mem_cons.mpr ⟨List.mem_of_getElem? (i := 0) rfl, fun _ h => nomatch h⟩⟩⟩⟩) ?_
  exact J4 _ x1 x3 n2 rfl

theorem s_X0_inverse {d : Nat} {T N : Nat → Nat} {I : IT} {L : LT} {R : RT} {A B : Nat → Prop} {r0 : Nat} {n1 : Int32} (hS : SUB B A) (hI : IX A T I) (H_r0 : (hs_Al T N R A B) r0) : Ex (d + 3) 5 [.ref r0, .int n1] (T, N, I, L, R) 0 0 (pI T N R (fun x9 I9 L9 => (I = I9 ∧ L = L9))) := by
  refine ⟨_, rfl, Nat.le_of_ble_eq_true rfl, fun V C S => ?_⟩
  show V 0 [(0, .ref r0), (1, .int n1)] [] (T, N, I, L, R) 0 0
  have gn1 := rg n1
  refine k_aload_n C rfl rfl rfl ?_
  refine k_iload_n C rfl rfl rfl ?_
  refine k_aload_n C rfl rfl rfl ?_
  obtain ⟨T_r0, A_r0, B_r0, ⟨r0_0, R_r0_0, H_r0_0⟩, ⟨r0_1, R_r0_1, H_r0_1⟩, ⟨r0_2, R_r0_2, H_r0_2⟩⟩ := id H_r0
  refine g_R C rfl rfl rfl T_r0 rfl R_r0_0 ?_
  obtain ⟨T_r0_0, A_r0_0, B_r0_0, ⟨r0_0_6, R_r0_0_6, H_r0_0_6⟩, ⟨r0_0_7, R_r0_0_7, H_r0_0_7⟩, ⟨r0_0_8, R_r0_0_8, H_r0_0_8⟩, ⟨r0_0_9, R_r0_0_9, H_r0_0_9⟩, ⟨r0_0_10, R_r0_0_10, H_r0_0_10⟩⟩ := id H_r0_0
  refine z_gI C rfl rfl rfl T_r0_0 rfl (fun x1 ex1 => ?_)
  have gx1 := rg x1
  have ox1 := IX.p hI A_r0_0 T_r0_0 ex1
  refine z_iconst C (z := 2) rfl rfl rfl (fun x2 ex2 => ?_)
  refine z_isub C rfl rfl ⟨by omega, by omega⟩ (fun x3 ex3 => ?_)
  refine c_VI C (s_X0_power hS hI H_r0) rfl rfl rfl rfl rfl ⟨_, rfl, rfl, T_r0, Nat.le_of_ble_eq_true rfl⟩ rfl rfl (Nat.le_of_ble_eq_true rfl) (Nat.le_of_ble_eq_true rfl) (Nat.le_of_ble_eq_true rfl) ?_
  rintro x4 _ _ ⟨rfl, rfl⟩
  have gx4 := rg x4
  exact k_iret C rfl (Or.inl rfl) (Nat.le_of_ble_eq_true rfl) (Nat.le_of_ble_eq_true rfl) ⟨_, _, _, rfl, rfl, rfl, rfl⟩

theorem s_X0_detOf {d : Nat} {T N : Nat → Nat} {I : IT} {L : LT} {R : RT} {A B : Nat → Prop} {r0 : Nat} {n1 n2 n3 n4 : Int32} (hS : SUB B A) (hI : IX A T I) (H_r0 : (hs_Al T N R A B) r0) : Ex (d + 2) 6 [.ref r0, .int n1, .int n2, .int n3, .int n4] (T, N, I, L, R) 0 0 (pI T N R (fun x9 I9 L9 => (I = I9 ∧ L = L9))) := by
  refine ⟨_, rfl, Nat.le_of_ble_eq_true rfl, fun V C S => ?_⟩
  show V 0 [(0, .ref r0), (1, .int n1), (2, .int n2), (3, .int n3), (4, .int n4)] [] (T, N, I, L, R) 0 0
  have gn1 := rg n1
  have gn2 := rg n2
  have gn3 := rg n3
  have gn4 := rg n4
  refine k_aload_n C rfl rfl rfl ?_
  refine k_aload_n C rfl rfl rfl ?_
  refine k_iload_n C rfl rfl rfl ?_
  refine z_i2l C rfl rfl (fun lg1 elg1 => ?_)
  obtain ⟨T_r0, A_r0, B_r0, ⟨r0_0, R_r0_0, H_r0_0⟩, ⟨r0_1, R_r0_1, H_r0_1⟩, ⟨r0_2, R_r0_2, H_r0_2⟩⟩ := id H_r0
  refine c_VI C (s_X0_of hS hI H_r0) rfl rfl rfl rfl rfl ⟨_, rfl, rfl, T_r0, Nat.le_of_ble_eq_true rfl⟩ rfl rfl (Nat.le_of_ble_eq_true rfl) (Nat.le_of_ble_eq_true rfl) (Nat.le_of_ble_eq_true rfl) ?_
  rintro x2 _ _ ⟨rfl, rfl⟩
  have gx2 := rg x2
  refine k_aload_n C rfl rfl rfl ?_
  refine k_iload C rfl rfl rfl ?_
  refine z_i2l C rfl rfl (fun lg3 elg3 => ?_)
  refine c_VI C (s_X0_of hS hI H_r0) rfl rfl rfl rfl rfl ⟨_, rfl, rfl, T_r0, Nat.le_of_ble_eq_true rfl⟩ rfl rfl (Nat.le_of_ble_eq_true rfl) (Nat.le_of_ble_eq_true rfl) (Nat.le_of_ble_eq_true rfl) ?_
  rintro x4 _ _ ⟨rfl, rfl⟩
  have gx4 := rg x4
  refine zt_imul C rfl rfl (fun x5 => ?_)
  have gx5 := rg x5
  refine k_aload_n C rfl rfl rfl ?_
  refine k_iload_n C rfl rfl rfl ?_
  refine z_i2l C rfl rfl (fun lg6 elg6 => ?_)
  refine c_VI C (s_X0_of hS hI H_r0) rfl rfl rfl rfl rfl ⟨_, rfl, rfl, T_r0, Nat.le_of_ble_eq_true rfl⟩ rfl rfl (Nat.le_of_ble_eq_true rfl) (Nat.le_of_ble_eq_true rfl) (Nat.le_of_ble_eq_true rfl) ?_
  rintro x7 _ _ ⟨rfl, rfl⟩
  have gx7 := rg x7
  refine k_aload_n C rfl rfl rfl ?_
  refine k_iload_n C rfl rfl rfl ?_
  refine z_i2l C rfl rfl (fun lg8 elg8 => ?_)
  refine c_VI C (s_X0_of hS hI H_r0) rfl rfl rfl rfl rfl ⟨_, rfl, rfl, T_r0, Nat.le_of_ble_eq_true rfl⟩ rfl rfl (Nat.le_of_ble_eq_true rfl) (Nat.le_of_ble_eq_true rfl) (Nat.le_of_ble_eq_true rfl) ?_
  rintro x9 _ _ ⟨rfl, rfl⟩
  have gx9 := rg x9
  refine zt_imul C rfl rfl (fun x10 => ?_)
  have gx10 := rg x10
  refine zt_isub C rfl rfl (fun x11 => ?_)
  have gx11 := rg x11
  refine z_i2l C rfl rfl (fun lg12 elg12 => ?_)
  refine c_VI C (s_X0_of hS hI H_r0) rfl rfl rfl rfl rfl ⟨_, rfl, rfl, T_r0, Nat.le_of_ble_eq_true rfl⟩ rfl rfl (Nat.le_of_ble_eq_true rfl) (Nat.le_of_ble_eq_true rfl) (Nat.le_of_ble_eq_true rfl) ?_
  rintro x13 _ _ ⟨rfl, rfl⟩
  have gx13 := rg x13
  exact k_iret C rfl (Or.inl rfl) (Nat.le_of_ble_eq_true rfl) (Nat.le_of_ble_eq_true rfl) ⟨_, _, _, rfl, rfl, rfl, rfl⟩

theorem s_X0_tables {d : Nat} {T N : Nat → Nat} {I : IT} {L : LT} {R : RT} {A B : Nat → Prop} {r0 : Nat} (hS : SUB B A) (hI : IX A T I) (H_r0 : (hs_Al T N R A B) r0) : Ex (d + 1) 9 [.ref r0] (T, N, I, L, R) 0 0 (pI T N R (fun x9 I9 L9 => (I = I9 ∧ L = L9))) := by
  refine ⟨_, rfl, Nat.le_of_ble_eq_true rfl, fun V C S => ?_⟩
  show V 0 [(0, .ref r0)] [] (T, N, I, L, R) 0 0
  refine k_aload_n C rfl rfl rfl ?_
  obtain ⟨T_r0, A_r0, B_r0, ⟨r0_0, R_r0_0, H_r0_0⟩, ⟨r0_1, R_r0_1, H_r0_1⟩, ⟨r0_2, R_r0_2, H_r0_2⟩⟩ := id H_r0
  refine g_R C rfl rfl rfl T_r0 rfl R_r0_0 ?_
  obtain ⟨T_r0_0, A_r0_0, B_r0_0, ⟨r0_0_6, R_r0_0_6, H_r0_0_6⟩, ⟨r0_0_7, R_r0_0_7, H_r0_0_7⟩, ⟨r0_0_8, R_r0_0_8, H_r0_0_8⟩, ⟨r0_0_9, R_r0_0_9, H_r0_0_9⟩, ⟨r0_0_10, R_r0_0_10, H_r0_0_10⟩⟩ := id H_r0_0
  refine z_gI C rfl rfl rfl T_r0_0 rfl (fun x1 ex1 => ?_)
  have gx1 := rg x1
  have ox1 := IX.p hI A_r0_0 T_r0_0 ex1
  refine k_istore_n C (lw := [(1, .int x1), (0, .ref r0)]) rfl rfl (Nat.le_of_ble_eq_true rfl) rfl ?_
  refine k_iload_n C rfl rfl rfl ?_
  refine k_iload_n C rfl rfl rfl ?_
  refine zt_imul C rfl rfl (fun x2 => ?_)
  have gx2 := rg x2
  refine z_iconst C (z := 1) rfl rfl rfl (fun x3 ex3 => ?_)
  refine zt_isub C rfl rfl (fun x4 => ?_)
  have gx4 := rg x4
  refine k_iload_n C rfl rfl rfl ?_
  refine k_iload_n C rfl rfl rfl ?_
  refine zt_imul C rfl rfl (fun x5 => ?_)
  have gx5 := rg x5
  refine k_iload_n C rfl rfl rfl ?_
  refine zt_isub C rfl rfl (fun x6 => ?_)
  have gx6 := rg x6
  refine zt_imul C rfl rfl (fun x7 => ?_)
  have gx7 := rg x7
  exact k_iret C rfl (Or.inl rfl) (Nat.le_of_ble_eq_true rfl) (Nat.le_of_ble_eq_true rfl) ⟨_, _, _, rfl, rfl, rfl, rfl⟩

theorem s_X2_get {d : Nat} {T N : Nat → Nat} {I : IT} {L : LT} {R : RT} {A B : Nat → Prop} {r0 : Nat} {n1 : Int32} (hS : SUB B A) (hI : IX A T I) (H_r0 : (hs_F T N R A B) r0) : Ex (d + 1) 10 [.ref r0, .int n1] (T, N, I, L, R) 0 0 (pI T N R (fun x9 I9 L9 => (I = I9 ∧ L = L9))) := by
  refine ⟨_, rfl, Nat.le_of_ble_eq_true rfl, fun V C S => ?_⟩
  show V 0 [(0, .ref r0), (1, .int n1)] [] (T, N, I, L, R) 0 0
  have gn1 := rg n1
  refine k_iload_n C rfl rfl rfl ?_
  refine b_if_lt C (t := 21) rfl rfl rfl (fun c1 => ?_) (fun c1 => ?_)
  · skip
    refine z_iconst C (z := 0) rfl rfl rfl (fun x2 ex2 => ?_)
    refine k_goto C (pc2 := 31) rfl rfl ?_
    exact k_iret C rfl (Or.inl rfl) (Nat.le_of_ble_eq_true rfl) (Nat.le_of_ble_eq_true rfl) ⟨_, _, _, rfl, rfl, rfl, rfl⟩
  refine k_iload_n C rfl rfl rfl ?_
  refine k_aload_n C rfl rfl rfl ?_
  obtain ⟨T_r0, A_r0, ⟨r0_1, R_r0_1, H_r0_1⟩⟩ := id H_r0
  refine z_gI C rfl rfl rfl T_r0 rfl (fun x3 ex3 => ?_)
  have gx3 := rg x3
  have ox3 := IX.deg hI A_r0 T_r0 ex3
  refine b_icmp_gt C (t := 21) rfl rfl rfl (fun c4 => ?_) (fun c4 => ?_)
  · skip
    refine z_iconst C (z := 0) rfl rfl rfl (fun x5 ex5 => ?_)
    refine k_goto C (pc2 := 31) rfl rfl ?_
    exact k_iret C rfl (Or.inl rfl) (Nat.le_of_ble_eq_true rfl) (Nat.le_of_ble_eq_true rfl) ⟨_, _, _, rfl, rfl, rfl, rfl⟩
  refine k_iload_n C rfl rfl rfl ?_
  refine k_aload_n C rfl rfl rfl ?_
  refine g_R C rfl rfl rfl T_r0 rfl R_r0_1 ?_
  obtain ⟨T_r0_1, N_r0_1, A_r0_1⟩ := id H_r0_1
  refine z_len C (n := 41) rfl rfl (by rw [T_r0_1]; exact Nat.le_of_ble_eq_true rfl) N_r0_1 (Nat.le_of_ble_eq_true rfl) (fun x6 ex6 => ?_)
  refine b_icmp_lt C (t := 25) rfl rfl rfl (fun c7 => ?_) (fun c7 => by exfalso; omega)
  refine k_aload_n C rfl rfl rfl ?_
  refine g_R C rfl rfl rfl T_r0 rfl R_r0_1 ?_
  refine k_iload_n C rfl rfl rfl ?_
  refine z_aI C rfl rfl T_r0_1 N_r0_1 (by omega) (by omega) (fun x8 ex8 => ?_)
  have gx8 := rg x8
  exact k_iret C rfl (Or.inl rfl) (Nat.le_of_ble_eq_true rfl) (Nat.le_of_ble_eq_true rfl) ⟨_, _, _, rfl, rfl, rfl, rfl⟩

theorem s_X0_worth {d : Nat} {T N : Nat → Nat} {I : IT} {L : LT} {R : RT} {A B : Nat → Prop} {r0 r1 : Nat} {n2 n3 : Int32} (hS : SUB B A) (hI : IX A T I) (H_r0 : (hs_Al T N R A B) r0) (H_r1 : (hs_F T N R A B) r1) : Ex (d + 2) 11 [.ref r0, .ref r1, .int n2, .int n3] (T, N, I, L, R) 0 0 (pI T N R (fun x9 I9 L9 => (I = I9 ∧ L = L9))) := by
  refine ⟨_, rfl, Nat.le_of_ble_eq_true rfl, fun V C S => ?_⟩
  show V 0 [(0, .ref r0), (1, .ref r1), (2, .int n2), (3, .int n3)] [] (T, N, I, L, R) 0 0
  have gn2 := rg n2
  have gn3 := rg n3
  refine z_iconst C (z := 0) rfl rfl rfl (fun x1 ex1 => ?_)
  refine k_istore C (lw := [(4, .int x1), (0, .ref r0), (1, .ref r1), (2, .int n2), (3, .int n3)]) rfl rfl (Nat.le_of_ble_eq_true rfl) rfl ?_
  refine z_iconst C (z := 1) rfl rfl rfl (fun x2 ex2 => ?_)
  refine k_istore C (lw := [(5, .int x2), (4, .int x1), (0, .ref r0), (1, .ref r1), (2, .int n2), (3, .int n3)]) rfl rfl (Nat.le_of_ble_eq_true rfl) rfl ?_
  refine z_iconst C (z := 0) rfl rfl rfl (fun x3 ex3 => ?_)
  have J4 : ∀ (nn5 : Nat) (x6 : Int32) (x7 : Int32) (x8 : Int32), (MN (41 - x8.toInt) nn5) → (0 ≤ x8.toInt) → (x8.toInt ≤ 41) → V 9 [(0, .ref r0), (1, .ref r1), (2, .int n2), (3, .int n3), (4, .int x6), (5, .int x7), (6, .int x8)] [] (T, N, I, L, R) 0 0 := by
    intro nn5
    induction nn5 using Nat.strongRecOn with
    | _ nn5 ihJ4 =>
      intro x6 x7 x8 hmnn5 b9 b10
      have gx6 := rg x6
      have gx7 := rg x7
      have gx8 := rg x8
      refine k_iload C rfl rfl rfl ?_
      refine k_aload_n C rfl rfl rfl ?_
      obtain ⟨T_r1, A_r1, ⟨r1_1, R_r1_1, H_r1_1⟩⟩ := id H_r1
      refine z_gI C rfl rfl rfl T_r1 rfl (fun x11 ex11 => ?_)
      have gx11 := rg x11
      have ox11 := IX.deg hI A_r1 T_r1 ex11
      refine b_icmp_gt C (t := 56) rfl rfl rfl (fun c12 => ?_) (fun c12 => ?_)
      · skip
        refine k_iload C rfl rfl rfl ?_
        exact k_iret C rfl (Or.inl rfl) (Nat.le_of_ble_eq_true rfl) (Nat.le_of_ble_eq_true rfl) ⟨_, _, _, rfl, rfl, rfl, rfl⟩
      refine k_aload_n C rfl rfl rfl ?_
      refine k_iload C rfl rfl rfl ?_
      refine k_iload_n C rfl rfl rfl ?_
      refine zt_imul C rfl rfl (fun x13 => ?_)
      have gx13 := rg x13
      refine k_aload_n C rfl rfl rfl ?_
      refine k_iload C rfl rfl rfl ?_
      refine c_VI C (s_X2_get hS hI H_r1) rfl rfl rfl rfl rfl ⟨_, rfl, rfl, T_r1, Nat.le_of_ble_eq_true rfl⟩ rfl rfl (Nat.le_of_ble_eq_true rfl) (Nat.le_of_ble_eq_true rfl) (Nat.le_of_ble_eq_true rfl) ?_
      rintro x14 _ _ ⟨rfl, rfl⟩
      have gx14 := rg x14
      refine k_iload C rfl rfl rfl ?_
      refine zt_imul C rfl rfl (fun x15 => ?_)
      have gx15 := rg x15
      refine zt_iadd C rfl rfl (fun x16 => ?_)
      have gx16 := rg x16
      refine z_i2l C rfl rfl (fun lg17 elg17 => ?_)
      obtain ⟨T_r0, A_r0, B_r0, ⟨r0_0, R_r0_0, H_r0_0⟩, ⟨r0_1, R_r0_1, H_r0_1⟩, ⟨r0_2, R_r0_2, H_r0_2⟩⟩ := id H_r0
      refine c_VI C (s_X0_of hS hI H_r0) rfl rfl rfl rfl rfl ⟨_, rfl, rfl, T_r0, Nat.le_of_ble_eq_true rfl⟩ rfl rfl (Nat.le_of_ble_eq_true rfl) (Nat.le_of_ble_eq_true rfl) (Nat.le_of_ble_eq_true rfl) ?_
      rintro x18 _ _ ⟨rfl, rfl⟩
      have gx18 := rg x18
      refine k_istore C (lw := [(4, .int x18), (0, .ref r0), (1, .ref r1), (2, .int n2), (3, .int n3), (5, .int x7), (6, .int x8)]) rfl rfl (Nat.le_of_ble_eq_true rfl) rfl ?_
      refine k_aload_n C rfl rfl rfl ?_
      refine k_iload C rfl rfl rfl ?_
      refine k_iload_n C rfl rfl rfl ?_
      refine zt_imul C rfl rfl (fun x19 => ?_)
      have gx19 := rg x19
      refine z_i2l C rfl rfl (fun lg20 elg20 => ?_)
      refine c_VI C (s_X0_of hS hI H_r0) rfl rfl rfl rfl rfl ⟨_, rfl, rfl, T_r0, Nat.le_of_ble_eq_true rfl⟩ rfl rfl (Nat.le_of_ble_eq_true rfl) (Nat.le_of_ble_eq_true rfl) (Nat.le_of_ble_eq_true rfl) ?_
      rintro x21 _ _ ⟨rfl, rfl⟩
      have gx21 := rg x21
      refine k_istore C (lw := [(5, .int x21), (4, .int x18), (0, .ref r0), (1, .ref r1), (2, .int n2), (3, .int n3), (6, .int x8)]) rfl rfl (Nat.le_of_ble_eq_true rfl) rfl ?_
      refine z_iinc C (z := 1) (lw := fun x22 => [(6, .int x22), (5, .int x21), (4, .int x18), (0, .ref r0), (1, .ref r1), (2, .int n2), (3, .int n3)]) rfl rfl rfl (Nat.le_of_ble_eq_true rfl) rfl ⟨by omega, by omega⟩ (fun _ => rfl) (fun x22 ex22 => ?_)
      show V 53 [(6, .int x22), (5, .int x21), (4, .int x18), (0, .ref r0), (1, .ref r1), (2, .int n2), (3, .int n3)] _ _ _ _
      refine k_goto C (pc2 := 9) rfl rfl ?_
      refine k_sub S [(0, .ref r0), (1, .ref r1), (2, .int n2), (3, .int n3), (4, .int x18), (5, .int x21), (6, .int x22)] (List.forall_mem_cons.mpr ⟨List.mem_of_getElem? (i := 3) rfl, List.forall_mem_cons.mpr ⟨List.mem_of_getElem? (i := 4) rfl, List.forall_mem_cons.mpr ⟨List.mem_of_getElem? (i := 5) rfl, List.forall_mem_cons.mpr ⟨List.mem_of_getElem? (i := 6) rfl, List.forall_mem_cons.mpr ⟨List.mem_of_getElem? (i := 2) rfl, List.forall_mem_cons.mpr ⟨List.mem_of_getElem? (i := 1) rfl, List.forall_mem_cons.mpr ⟨List.mem_of_getElem? (i := 0) rfl, fun _ h => nomatch h⟩⟩⟩⟩⟩⟩⟩) ?_
      exact ihJ4 _ (MN.lt hmnn5 (by omega) (by omega)) x18 x21 x22 rfl (by omega) (by omega)
  refine k_istore C (lw := [(6, .int x3), (5, .int x2), (4, .int x1), (0, .ref r0), (1, .ref r1), (2, .int n2), (3, .int n3)]) rfl rfl (Nat.le_of_ble_eq_true rfl) rfl ?_
  refine k_sub S [(0, .ref r0), (1, .ref r1), (2, .int n2), (3, .int n3), (4, .int x1), (5, .int x2), (6, .int x3)] (List.forall_mem_cons.mpr ⟨List.mem_of_getElem? (i := 3) rfl, List.forall_mem_cons.mpr ⟨List.mem_of_getElem? (i := 4) rfl, List.forall_mem_cons.mpr ⟨List.mem_of_getElem? (i := 5) rfl, List.forall_mem_cons.mpr ⟨List.mem_of_getElem? (i := 6) rfl, List.forall_mem_cons.mpr ⟨List.mem_of_getElem? (i := 2) rfl, List.forall_mem_cons.mpr ⟨List.mem_of_getElem? (i := 1) rfl, List.forall_mem_cons.mpr ⟨List.mem_of_getElem? (i := 0) rfl, fun _ h => nomatch h⟩⟩⟩⟩⟩⟩⟩) ?_
  exact J4 _ x1 x2 x3 rfl (by omega) (by omega)

theorem s_X2_set {d : Nat} {T N : Nat → Nat} {I : IT} {L : LT} {R : RT} {A B : Nat → Prop} {r0 : Nat} {n1 n2 : Int32} (hS : SUB B A) (hI : IX A T I) (H_r0 : (hs_G T N R A B) r0) : Ex (d + 1) 12 [.ref r0, .int n1, .int n2] (T, N, I, L, R) 0 0 (pV T N R (fun I9 L9 => (IX A T I9 ∧ Chg B T [] I L I9 L9))) := by
  refine ⟨_, rfl, Nat.le_of_ble_eq_true rfl, fun V C S => ?_⟩
  show V 0 [(0, .ref r0), (1, .int n1), (2, .int n2)] [] (T, N, I, L, R) 0 0
  have gn1 := rg n1
  have gn2 := rg n2
  refine k_iload_n C rfl rfl rfl ?_
  refine b_if_lt C (t := 20) rfl rfl rfl (fun c1 => ?_) (fun c1 => ?_)
  · skip
    exact k_vret C rfl rfl (Nat.le_of_ble_eq_true rfl) (Nat.le_of_ble_eq_true rfl) ⟨_, _, rfl, rfl, hI, Chg.rf⟩
  refine k_iload_n C rfl rfl rfl ?_
  refine k_aload_n C rfl rfl rfl ?_
  obtain ⟨T_r0, A_r0, B_r0, ⟨r0_1, R_r0_1, H_r0_1⟩⟩ := id H_r0
  refine g_R C rfl rfl rfl T_r0 rfl R_r0_1 ?_
  obtain ⟨T_r0_1, N_r0_1, A_r0_1⟩ := id H_r0_1
  refine z_len C (n := 41) rfl rfl (by rw [T_r0_1]; exact Nat.le_of_ble_eq_true rfl) N_r0_1 (Nat.le_of_ble_eq_true rfl) (fun x2 ex2 => ?_)
  refine b_icmp_ge C (t := 20) rfl rfl rfl (fun c3 => ?_) (fun c3 => ?_)
  · skip
    exact k_vret C rfl rfl (Nat.le_of_ble_eq_true rfl) (Nat.le_of_ble_eq_true rfl) ⟨_, _, rfl, rfl, hI, Chg.rf⟩
  refine k_aload_n C rfl rfl rfl ?_
  refine g_R C rfl rfl rfl T_r0 rfl R_r0_1 ?_
  refine k_iload_n C rfl rfl rfl ?_
  refine k_iload_n C rfl rfl rfl ?_
  refine z_sI C rfl rfl T_r0_1 N_r0_1 (by omega) (by omega) (fun I4 uI4 => ?_)
  have hI4 : IX A T I4 := IX.a hI T_r0_1 (Nat.le_of_ble_eq_true rfl) uI4
  have S5 : Chg B T [] I L I4 L := Chg.a A_r0_1 T_r0_1 (Nat.le_of_ble_eq_true rfl) uI4
  exact k_vret C rfl rfl (Nat.le_of_ble_eq_true rfl) (Nat.le_of_ble_eq_true rfl) ⟨_, _, rfl, rfl, hI4, (Chg.mono S5 (by decide))⟩

theorem s_X0_scale {d : Nat} {T N : Nat → Nat} {I : IT} {L : LT} {R : RT} {A B : Nat → Prop} {r0 r1 : Nat} {n2 : Int32} (hS : SUB B A) (hI : IX A T I) (H_r0 : (hs_Al T N R A B) r0) (H_r1 : (hs_G T N R A B) r1) : Ex (d + 2) 13 [.ref r0, .ref r1, .int n2] (T, N, I, L, R) 0 0 (pV T N R (fun I9 L9 => (IX A T I9 ∧ Chg B T [] I L I9 L9))) := by
  refine ⟨_, rfl, Nat.le_of_ble_eq_true rfl, fun V C S => ?_⟩
  show V 0 [(0, .ref r0), (1, .ref r1), (2, .int n2)] [] (T, N, I, L, R) 0 0
  have gn2 := rg n2
  refine z_iconst C (z := 0) rfl rfl rfl (fun x1 ex1 => ?_)
  have J2 : ∀ (nn3 : Nat) (I4 : IT) (L5 : LT) (x6 : Int32), (MN (41 - x6.toInt) nn3) → (IX A T I4) → (Chg B T [] I L I4 L5) → (0 ≤ x6.toInt) → (x6.toInt ≤ 41) → V 2 [(0, .ref r0), (1, .ref r1), (2, .int n2), (3, .int x6)] [] (T, N, I4, L5, R) 0 0 := by
    intro nn3
    induction nn3 using Nat.strongRecOn with
    | _ nn3 ihJ2 =>
      intro I4 L5 x6 hmnn3 hI10 S9 b7 b8
      have gx6 := rg x6
      refine k_iload_n C rfl rfl rfl ?_
      refine k_aload_n C rfl rfl rfl ?_
      obtain ⟨T_r1, A_r1, B_r1, ⟨r1_1, R_r1_1, H_r1_1⟩⟩ := id H_r1
      refine z_gI C rfl rfl rfl T_r1 rfl (fun x11 ex11 => ?_)
      have gx11 := rg x11
      have ox11 := IX.deg hI10 A_r1 T_r1 ex11
      refine b_icmp_gt C (t := 33) rfl rfl rfl (fun c12 => ?_) (fun c12 => ?_)
      · skip
        exact k_vret C rfl rfl (Nat.le_of_ble_eq_true rfl) (Nat.le_of_ble_eq_true rfl) ⟨_, _, rfl, rfl, hI10, (Chg.mono S9 (by decide))⟩
      refine k_aload_n C rfl rfl rfl ?_
      refine k_iload_n C rfl rfl rfl ?_
      refine k_aload_n C rfl rfl rfl ?_
      refine k_aload_n C rfl rfl rfl ?_
      refine k_iload_n C rfl rfl rfl ?_
      refine c_VI C (s_X2_get hS hI10 (hs_GF hS H_r1)) rfl rfl rfl rfl rfl ⟨_, rfl, rfl, T_r1, Nat.le_of_ble_eq_true rfl⟩ rfl rfl (Nat.le_of_ble_eq_true rfl) (Nat.le_of_ble_eq_true rfl) (Nat.le_of_ble_eq_true rfl) ?_
      rintro x13 _ _ ⟨rfl, rfl⟩
      have gx13 := rg x13
      refine k_iload_n C rfl rfl rfl ?_
      refine zt_imul C rfl rfl (fun x14 => ?_)
      have gx14 := rg x14
      refine z_i2l C rfl rfl (fun lg15 elg15 => ?_)
      obtain ⟨T_r0, A_r0, B_r0, ⟨r0_0, R_r0_0, H_r0_0⟩, ⟨r0_1, R_r0_1, H_r0_1⟩, ⟨r0_2, R_r0_2, H_r0_2⟩⟩ := id H_r0
      refine c_VI C (s_X0_of hS hI10 H_r0) rfl rfl rfl rfl rfl ⟨_, rfl, rfl, T_r0, Nat.le_of_ble_eq_true rfl⟩ rfl rfl (Nat.le_of_ble_eq_true rfl) (Nat.le_of_ble_eq_true rfl) (Nat.le_of_ble_eq_true rfl) ?_
      rintro x16 _ _ ⟨rfl, rfl⟩
      have gx16 := rg x16
      refine c_VV C (s_X2_set hS hI10 H_r1) rfl rfl rfl rfl rfl ⟨_, rfl, rfl, T_r1, Nat.le_of_ble_eq_true rfl⟩ rfl rfl (Nat.le_of_ble_eq_true rfl) (Nat.le_of_ble_eq_true rfl) (Nat.le_of_ble_eq_true rfl) ?_
      rintro I18 L19 ⟨hI18, S20⟩
      have e21 := Chg.k S20 T_r1 (by decide) (by decide) ex11
      refine z_iinc C (z := 1) (lw := fun x22 => [(3, .int x22), (0, .ref r0), (1, .ref r1), (2, .int n2)]) rfl rfl rfl (Nat.le_of_ble_eq_true rfl) rfl ⟨by omega, by omega⟩ (fun _ => rfl) (fun x22 ex22 => ?_)
      show V 30 [(3, .int x22), (0, .ref r0), (1, .ref r1), (2, .int n2)] _ _ _ _
      refine k_goto C (pc2 := 2) rfl rfl ?_
      refine k_sub S [(0, .ref r0), (1, .ref r1), (2, .int n2), (3, .int x22)] (List.forall_mem_cons.mpr ⟨List.mem_of_getElem? (i := 1) rfl, List.forall_mem_cons.mpr ⟨List.mem_of_getElem? (i := 2) rfl, List.forall_mem_cons.mpr ⟨List.mem_of_getElem? (i := 3) rfl, List.forall_mem_cons.mpr ⟨List.mem_of_getElem? (i := 0) rfl, fun _ h => nomatch h⟩⟩⟩⟩) ?_
      exact ihJ2 _ (MN.lt hmnn3 (by omega) (by omega)) I18 L19 x22 rfl hI18 (Chg.cons S9 (Chg.mono S20 (by decide)) (by decide)) (by omega) (by omega)
  refine k_istore_n C (lw := [(3, .int x1), (0, .ref r0), (1, .ref r1), (2, .int n2)]) rfl rfl (Nat.le_of_ble_eq_true rfl) rfl ?_
  refine k_sub S [(0, .ref r0), (1, .ref r1), (2, .int n2), (3, .int x1)] (List.forall_mem_cons.mpr ⟨List.mem_of_getElem? (i := 1) rfl, List.forall_mem_cons.mpr ⟨List.mem_of_getElem? (i := 2) rfl, List.forall_mem_cons.mpr ⟨List.mem_of_getElem? (i := 3) rfl, List.forall_mem_cons.mpr ⟨List.mem_of_getElem? (i := 0) rfl, fun _ h => nomatch h⟩⟩⟩⟩) ?_
  exact J2 _ I L x1 rfl hI Chg.rf (by omega) (by omega)

theorem s_X0_addTo {d : Nat} {T N : Nat → Nat} {I : IT} {L : LT} {R : RT} {A B : Nat → Prop} {r0 r1 r2 : Nat} (hS : SUB B A) (hI : IX A T I) (H_r0 : (hs_Al T N R A B) r0) (H_r1 : (hs_G T N R A B) r1) (H_r2 : (hs_F T N R A B) r2) : Ex (d + 2) 14 [.ref r0, .ref r1, .ref r2] (T, N, I, L, R) 0 0 (pI T N R (fun x9 I9 L9 => (0 ≤ x9.toInt) ∧ (x9.toInt ≤ 1) ∧ (IX A T I9 ∧ Chg B T [] I L I9 L9))) := by
  refine ⟨_, rfl, Nat.le_of_ble_eq_true rfl, fun V C S => ?_⟩
  show V 0 [(0, .ref r0), (1, .ref r1), (2, .ref r2)] [] (T, N, I, L, R) 0 0
  refine k_aload_n C rfl rfl rfl ?_
  obtain ⟨T_r1, A_r1, B_r1, ⟨r1_1, R_r1_1, H_r1_1⟩⟩ := id H_r1
  refine z_gI C rfl rfl rfl T_r1 rfl (fun x1 ex1 => ?_)
  have gx1 := rg x1
  have ox1 := IX.deg hI A_r1 T_r1 ex1
  refine k_aload_n C rfl rfl rfl ?_
  obtain ⟨T_r2, A_r2, ⟨r2_1, R_r2_1, H_r2_1⟩⟩ := id H_r2
  refine z_gI C rfl rfl rfl T_r2 rfl (fun x2 ex2 => ?_)
  have gx2 := rg x2
  have ox2 := IX.deg hI A_r2 T_r2 ex2
  refine b_icmp_eq C (t := 13) rfl rfl rfl (fun c3 => ?_) (fun c3 => ?_)
  · skip
    refine z_iconst C (z := 0) rfl rfl rfl (fun x4 ex4 => ?_)
    have J5 : ∀ (nn6 : Nat) (I7 : IT) (L8 : LT) (x9 : Int32), (MN (41 - x9.toInt) nn6) → (IX A T I7) → (Chg B T [] I L I7 L8) → (0 ≤ x9.toInt) → (x9.toInt ≤ 41) → V 15 [(0, .ref r0), (1, .ref r1), (2, .ref r2), (3, .int x9)] [] (T, N, I7, L8, R) 0 0 := by
      intro nn6
      induction nn6 using Nat.strongRecOn with
      | _ nn6 ihJ5 =>
        intro I7 L8 x9 hmnn6 hI13 S12 b10 b11
        have gx9 := rg x9
        have e14 := Chg.k S12 T_r1 (by decide) (by decide) ex1
        have e15 := Chg.k S12 T_r2 (by decide) (by decide) ex2
        refine k_iload_n C rfl rfl rfl ?_
        refine k_aload_n C rfl rfl rfl ?_
        refine g_I C rfl rfl rfl T_r1 rfl e14 ?_
        refine b_icmp_gt C (t := 50) rfl rfl rfl (fun c16 => ?_) (fun c16 => ?_)
        · skip
          refine z_iconst C (z := 1) rfl rfl rfl (fun x17 ex17 => ?_)
          exact k_iret C rfl (Or.inr ⟨rfl, z01 (by omega) (by omega)⟩) (Nat.le_of_ble_eq_true rfl) (Nat.le_of_ble_eq_true rfl) ⟨_, _, _, rfl, rfl, by omega, by omega, hI13, (Chg.mono S12 (by decide))⟩
        refine k_aload_n C rfl rfl rfl ?_
        refine k_iload_n C rfl rfl rfl ?_
        refine k_aload_n C rfl rfl rfl ?_
        refine k_aload_n C rfl rfl rfl ?_
        refine k_iload_n C rfl rfl rfl ?_
        refine c_VI C (s_X2_get hS hI13 (hs_GF hS H_r1)) rfl rfl rfl rfl rfl ⟨_, rfl, rfl, T_r1, Nat.le_of_ble_eq_true rfl⟩ rfl rfl (Nat.le_of_ble_eq_true rfl) (Nat.le_of_ble_eq_true rfl) (Nat.le_of_ble_eq_true rfl) ?_
        rintro x18 _ _ ⟨rfl, rfl⟩
        have gx18 := rg x18
        refine k_aload_n C rfl rfl rfl ?_
        refine k_iload_n C rfl rfl rfl ?_
        refine c_VI C (s_X2_get hS hI13 H_r2) rfl rfl rfl rfl rfl ⟨_, rfl, rfl, T_r2, Nat.le_of_ble_eq_true rfl⟩ rfl rfl (Nat.le_of_ble_eq_true rfl) (Nat.le_of_ble_eq_true rfl) (Nat.le_of_ble_eq_true rfl) ?_
        rintro x19 _ _ ⟨rfl, rfl⟩
        have gx19 := rg x19
        refine zt_iadd C rfl rfl (fun x20 => ?_)
        have gx20 := rg x20
        refine z_i2l C rfl rfl (fun lg21 elg21 => ?_)
        obtain ⟨T_r0, A_r0, B_r0, ⟨r0_0, R_r0_0, H_r0_0⟩, ⟨r0_1, R_r0_1, H_r0_1⟩, ⟨r0_2, R_r0_2, H_r0_2⟩⟩ := id H_r0
        refine c_VI C (s_X0_of hS hI13 H_r0) rfl rfl rfl rfl rfl ⟨_, rfl, rfl, T_r0, Nat.le_of_ble_eq_true rfl⟩ rfl rfl (Nat.le_of_ble_eq_true rfl) (Nat.le_of_ble_eq_true rfl) (Nat.le_of_ble_eq_true rfl) ?_
        rintro x22 _ _ ⟨rfl, rfl⟩
        have gx22 := rg x22
        refine c_VV C (s_X2_set hS hI13 H_r1) rfl rfl rfl rfl rfl ⟨_, rfl, rfl, T_r1, Nat.le_of_ble_eq_true rfl⟩ rfl rfl (Nat.le_of_ble_eq_true rfl) (Nat.le_of_ble_eq_true rfl) (Nat.le_of_ble_eq_true rfl) ?_
        rintro I24 L25 ⟨hI24, S26⟩
        have e27 := Chg.k S26 T_r1 (by decide) (by decide) e14
        have e28 := Chg.k S26 T_r2 (by decide) (by decide) e15
        refine z_iinc C (z := 1) (lw := fun x29 => [(3, .int x29), (0, .ref r0), (1, .ref r1), (2, .ref r2)]) rfl rfl rfl (Nat.le_of_ble_eq_true rfl) rfl ⟨by omega, by omega⟩ (fun _ => rfl) (fun x29 ex29 => ?_)
        show V 47 [(3, .int x29), (0, .ref r0), (1, .ref r1), (2, .ref r2)] _ _ _ _
        refine k_goto C (pc2 := 15) rfl rfl ?_
        refine k_sub S [(0, .ref r0), (1, .ref r1), (2, .ref r2), (3, .int x29)] (List.forall_mem_cons.mpr ⟨List.mem_of_getElem? (i := 1) rfl, List.forall_mem_cons.mpr ⟨List.mem_of_getElem? (i := 2) rfl, List.forall_mem_cons.mpr ⟨List.mem_of_getElem? (i := 3) rfl, List.forall_mem_cons.mpr ⟨List.mem_of_getElem? (i := 0) rfl, fun _ h => nomatch h⟩⟩⟩⟩) ?_
        exact ihJ5 _ (MN.lt hmnn6 (by omega) (by omega)) I24 L25 x29 rfl hI24 (Chg.cons S12 (Chg.mono S26 (by decide)) (by decide)) (by omega) (by omega)
    refine k_istore_n C (lw := [(3, .int x4), (0, .ref r0), (1, .ref r1), (2, .ref r2)]) rfl rfl (Nat.le_of_ble_eq_true rfl) rfl ?_
    refine k_sub S [(0, .ref r0), (1, .ref r1), (2, .ref r2), (3, .int x4)] (List.forall_mem_cons.mpr ⟨List.mem_of_getElem? (i := 1) rfl, List.forall_mem_cons.mpr ⟨List.mem_of_getElem? (i := 2) rfl, List.forall_mem_cons.mpr ⟨List.mem_of_getElem? (i := 3) rfl, List.forall_mem_cons.mpr ⟨List.mem_of_getElem? (i := 0) rfl, fun _ h => nomatch h⟩⟩⟩⟩) ?_
    exact J5 _ I L x4 rfl hI Chg.rf (by omega) (by omega)
  refine z_iconst C (z := 0) rfl rfl rfl (fun x30 ex30 => ?_)
  exact k_iret C rfl (Or.inr ⟨rfl, z01 (by omega) (by omega)⟩) (Nat.le_of_ble_eq_true rfl) (Nat.le_of_ble_eq_true rfl) ⟨_, _, _, rfl, rfl, by omega, by omega, hI, Chg.rf⟩

theorem s_J7_fill_53178_w41 {d : Nat} {T N : Nat → Nat} {I : IT} {L : LT} {R : RT} {A B : Nat → Prop} {r0 : Nat} {n1 : Int32} (hS : SUB B A) (hI : IX A T I) (H_r0 : (h_A T N B 20 41) r0) : Ex (d + 1) 15 [.ref r0, .int n1] (T, N, I, L, R) 0 0 (pV T N R (fun I9 L9 => (IX A T I9 ∧ Chg B T [] I L I9 L9))) := by
  refine ⟨_, rfl, Nat.le_of_ble_eq_true rfl, fun V C S => ?_⟩
  show V 0 [(0, .ref r0), (1, .int n1)] [] (T, N, I, L, R) 0 0
  have gn1 := rg n1
  refine z_iconst C (z := 0) rfl rfl rfl (fun x1 ex1 => ?_)
  refine k_istore_n C (lw := [(2, .int x1), (0, .ref r0), (1, .int n1)]) rfl rfl (Nat.le_of_ble_eq_true rfl) rfl ?_
  refine k_aload_n C rfl rfl rfl ?_
  obtain ⟨T_r0, N_r0, A_r0⟩ := id H_r0
  refine z_len C (n := 41) rfl rfl (by rw [T_r0]; exact Nat.le_of_ble_eq_true rfl) N_r0 (Nat.le_of_ble_eq_true rfl) (fun x2 ex2 => ?_)
  have J3 : ∀ (nn4 : Nat) (I5 : IT) (L6 : LT) (x7 : Int32) (x10 : Int32), (MN (41 - x7.toInt) nn4) → (IX A T I5) → (Chg B T [] I L I5 L6) → (0 ≤ x7.toInt) → (x7.toInt ≤ 41) → (41 ≤ x10.toInt) → (x10.toInt ≤ 41) → V 5 [(0, .ref r0), (1, .int n1), (2, .int x7), (3, .int x10)] [] (T, N, I5, L6, R) 0 0 := by
    intro nn4
    induction nn4 using Nat.strongRecOn with
    | _ nn4 ihJ3 =>
      intro I5 L6 x7 x10 hmnn4 hI14 S13 b8 b9 b11 b12
      have gx7 := rg x7
      have gx10 := rg x10
      refine k_iload_n C rfl rfl rfl ?_
      refine k_iload_n C rfl rfl rfl ?_
      refine b_icmp_ge C (t := 20) rfl rfl rfl (fun c15 => ?_) (fun c15 => ?_)
      · skip
        exact k_vret C rfl rfl (Nat.le_of_ble_eq_true rfl) (Nat.le_of_ble_eq_true rfl) ⟨_, _, rfl, rfl, hI14, (Chg.mono S13 (by decide))⟩
      refine k_aload_n C rfl rfl rfl ?_
      refine k_iload_n C rfl rfl rfl ?_
      refine k_iload_n C rfl rfl rfl ?_
      refine z_sI C rfl rfl T_r0 N_r0 (by omega) (by omega) (fun I16 uI16 => ?_)
      have hI16 : IX A T I16 := IX.a hI14 T_r0 (Nat.le_of_ble_eq_true rfl) uI16
      have S17 : Chg B T [] I5 L6 I16 L6 := Chg.a A_r0 T_r0 (Nat.le_of_ble_eq_true rfl) uI16
      refine z_iinc C (z := 1) (lw := fun x18 => [(2, .int x18), (0, .ref r0), (1, .int n1), (3, .int x10)]) rfl rfl rfl (Nat.le_of_ble_eq_true rfl) rfl ⟨by omega, by omega⟩ (fun _ => rfl) (fun x18 ex18 => ?_)
      show V 17 [(2, .int x18), (0, .ref r0), (1, .int n1), (3, .int x10)] _ _ _ _
      refine k_goto C (pc2 := 5) rfl rfl ?_
      refine k_sub S [(0, .ref r0), (1, .int n1), (2, .int x18), (3, .int x10)] (List.forall_mem_cons.mpr ⟨List.mem_of_getElem? (i := 1) rfl, List.forall_mem_cons.mpr ⟨List.mem_of_getElem? (i := 2) rfl, List.forall_mem_cons.mpr ⟨List.mem_of_getElem? (i := 0) rfl, List.forall_mem_cons.mpr ⟨List.mem_of_getElem? (i := 3) rfl, fun _ h => nomatch h⟩⟩⟩⟩) ?_
      exact ihJ3 _ (MN.lt hmnn4 (by omega) (by omega)) I16 L6 x18 x10 rfl hI16 (Chg.cons S13 (Chg.mono S17 (by decide)) (by decide)) (by omega) (by omega) (by omega) (by omega)
  refine k_istore_n C (lw := [(3, .int x2), (2, .int x1), (0, .ref r0), (1, .int n1)]) rfl rfl (Nat.le_of_ble_eq_true rfl) rfl ?_
  refine k_sub S [(0, .ref r0), (1, .int n1), (2, .int x1), (3, .int x2)] (List.forall_mem_cons.mpr ⟨List.mem_of_getElem? (i := 2) rfl, List.forall_mem_cons.mpr ⟨List.mem_of_getElem? (i := 3) rfl, List.forall_mem_cons.mpr ⟨List.mem_of_getElem? (i := 1) rfl, List.forall_mem_cons.mpr ⟨List.mem_of_getElem? (i := 0) rfl, fun _ h => nomatch h⟩⟩⟩⟩) ?_
  exact J3 _ I L x1 x2 rfl hI Chg.rf (by omega) (by omega) (by omega) (by omega)

theorem s_X2_begin {d : Nat} {T N : Nat → Nat} {I : IT} {L : LT} {R : RT} {A B : Nat → Prop} {r0 : Nat} {n1 : Int32} (hS : SUB B A) (hI : IX A T I) (H_r0 : (hs_G T N R A B) r0) : Ex (d + 2) 16 [.ref r0, .int n1] (T, N, I, L, R) 0 0 (pV T N R (fun I9 L9 => (IX A T I9 ∧ Chg B T [(3, 0)] I L I9 L9))) := by
  refine ⟨_, rfl, Nat.le_of_ble_eq_true rfl, fun V C S => ?_⟩
  show V 0 [(0, .ref r0), (1, .int n1)] [] (T, N, I, L, R) 0 0
  have gn1 := rg n1
  refine k_aload_n C rfl rfl rfl ?_
  refine k_iload_n C rfl rfl rfl ?_
  refine b_if_ge C (t := 9) rfl rfl rfl (fun c1 => ?_) (fun c1 => ?_)
  · skip
    refine k_iload_n C rfl rfl rfl ?_
    refine z_bipush C (z := 40) rfl rfl rfl (fun x2 ex2 => ?_)
    refine b_icmp_le C (t := 20) rfl rfl rfl (fun c3 => ?_) (fun c3 => ?_)
    · skip
      refine k_iload_n C rfl rfl rfl ?_
      obtain ⟨T_r0, A_r0, B_r0, ⟨r0_1, R_r0_1, H_r0_1⟩⟩ := id H_r0
      refine z_pI C rfl rfl rfl T_r0 (Or.inr rfl) rfl (fun I4 uI4 => ?_)
      have hI4 : IX A T I4 := IX.f hI T_r0 ⟨fun _ _ => ⟨by omega, by omega⟩, fun h => absurd h (by decide)⟩ uI4
      have S5 : Chg B T [(3, 0)] I L I4 L := Chg.f B_r0 T_r0 uI4
      have e6 := u2_e uI4
      refine k_aload_n C rfl rfl rfl ?_
      refine g_R C rfl rfl rfl T_r0 rfl R_r0_1 ?_
      refine z_iconst C (z := 0) rfl rfl rfl (fun x7 ex7 => ?_)
      refine c_SV C (s_J7_fill_53178_w41 hS hI4 H_r0_1) rfl rfl rfl rfl rfl rfl rfl (Nat.le_of_ble_eq_true rfl) (Nat.le_of_ble_eq_true rfl) (Nat.le_of_ble_eq_true rfl) ?_
      rintro I9 L10 ⟨hI9, S11⟩
      have e12 := Chg.k S11 T_r0 (by decide) (by decide) e6
      exact k_vret C rfl rfl (Nat.le_of_ble_eq_true rfl) (Nat.le_of_ble_eq_true rfl) ⟨_, _, rfl, rfl, hI9, (Chg.cons S5 (Chg.mono S11 (by decide)) (by decide))⟩
    refine z_bipush C (z := 40) rfl rfl rfl (fun x13 ex13 => ?_)
    refine k_goto C (pc2 := 21) rfl rfl ?_
    obtain ⟨T_r0, A_r0, B_r0, ⟨r0_1, R_r0_1, H_r0_1⟩⟩ := id H_r0
    refine z_pI C rfl rfl rfl T_r0 (Or.inr rfl) rfl (fun I14 uI14 => ?_)
    have hI14 : IX A T I14 := IX.f hI T_r0 ⟨fun _ _ => ⟨by omega, by omega⟩, fun h => absurd h (by decide)⟩ uI14
    have S15 : Chg B T [(3, 0)] I L I14 L := Chg.f B_r0 T_r0 uI14
    have e16 := u2_e uI14
    refine k_aload_n C rfl rfl rfl ?_
    refine g_R C rfl rfl rfl T_r0 rfl R_r0_1 ?_
    refine z_iconst C (z := 0) rfl rfl rfl (fun x17 ex17 => ?_)
    refine c_SV C (s_J7_fill_53178_w41 hS hI14 H_r0_1) rfl rfl rfl rfl rfl rfl rfl (Nat.le_of_ble_eq_true rfl) (Nat.le_of_ble_eq_true rfl) (Nat.le_of_ble_eq_true rfl) ?_
    rintro I19 L20 ⟨hI19, S21⟩
    have e22 := Chg.k S21 T_r0 (by decide) (by decide) e16
    exact k_vret C rfl rfl (Nat.le_of_ble_eq_true rfl) (Nat.le_of_ble_eq_true rfl) ⟨_, _, rfl, rfl, hI19, (Chg.cons S15 (Chg.mono S21 (by decide)) (by decide))⟩
  refine z_iconst C (z := 0) rfl rfl rfl (fun x23 ex23 => ?_)
  refine k_goto C (pc2 := 21) rfl rfl ?_
  obtain ⟨T_r0, A_r0, B_r0, ⟨r0_1, R_r0_1, H_r0_1⟩⟩ := id H_r0
  refine z_pI C rfl rfl rfl T_r0 (Or.inr rfl) rfl (fun I24 uI24 => ?_)
  have hI24 : IX A T I24 := IX.f hI T_r0 ⟨fun _ _ => ⟨by omega, by omega⟩, fun h => absurd h (by decide)⟩ uI24
  have S25 : Chg B T [(3, 0)] I L I24 L := Chg.f B_r0 T_r0 uI24
  have e26 := u2_e uI24
  refine k_aload_n C rfl rfl rfl ?_
  refine g_R C rfl rfl rfl T_r0 rfl R_r0_1 ?_
  refine z_iconst C (z := 0) rfl rfl rfl (fun x27 ex27 => ?_)
  refine c_SV C (s_J7_fill_53178_w41 hS hI24 H_r0_1) rfl rfl rfl rfl rfl rfl rfl (Nat.le_of_ble_eq_true rfl) (Nat.le_of_ble_eq_true rfl) (Nat.le_of_ble_eq_true rfl) ?_
  rintro I29 L30 ⟨hI29, S31⟩
  have e32 := Chg.k S31 T_r0 (by decide) (by decide) e26
  exact k_vret C rfl rfl (Nat.le_of_ble_eq_true rfl) (Nat.le_of_ble_eq_true rfl) ⟨_, _, rfl, rfl, hI29, (Chg.cons S25 (Chg.mono S31 (by decide)) (by decide))⟩

theorem s_X0_multiplyByLine {d : Nat} {T N : Nat → Nat} {I : IT} {L : LT} {R : RT} {A B : Nat → Prop} {r0 r1 : Nat} {n2 n3 : Int32} (hS : SUB B A) (hI : IX A T I) (H_r0 : (hs_Al T N R A B) r0) (H_r1 : (hs_G T N R A B) r1) : Ex (d + 2) 17 [.ref r0, .ref r1, .int n2, .int n3] (T, N, I, L, R) 0 0 (pV T N R (fun I9 L9 => (IX A T I9 ∧ Chg B T [(3, 0)] I L I9 L9))) := by
  refine ⟨_, rfl, Nat.le_of_ble_eq_true rfl, fun V C S => ?_⟩
  show V 0 [(0, .ref r0), (1, .ref r1), (2, .int n2), (3, .int n3)] [] (T, N, I, L, R) 0 0
  have gn2 := rg n2
  have gn3 := rg n3
  refine k_aload_n C rfl rfl rfl ?_
  obtain ⟨T_r1, A_r1, B_r1, ⟨r1_1, R_r1_1, H_r1_1⟩⟩ := id H_r1
  refine z_gI C rfl rfl rfl T_r1 rfl (fun x1 ex1 => ?_)
  have gx1 := rg x1
  have ox1 := IX.deg hI A_r1 T_r1 ex1
  refine z_bipush C (z := 40) rfl rfl rfl (fun x2 ex2 => ?_)
  refine b_icmp_lt C (t := 10) rfl rfl rfl (fun c3 => ?_) (fun c3 => ?_)
  · skip
    refine k_aload_n C rfl rfl rfl ?_
    refine k_dup C rfl rfl rfl ?_
    refine g_I C rfl rfl rfl T_r1 rfl ex1 ?_
    refine z_iconst C (z := 1) rfl rfl rfl (fun x4 ex4 => ?_)
    refine z_iadd C rfl rfl ⟨by omega, by omega⟩ (fun x5 ex5 => ?_)
    refine z_pI C rfl rfl rfl T_r1 (Or.inr rfl) rfl (fun I6 uI6 => ?_)
    have hI6 : IX A T I6 := IX.f hI T_r1 ⟨fun _ _ => ⟨by omega, by omega⟩, fun h => absurd h (by decide)⟩ uI6
    have S7 : Chg B T [(3, 0)] I L I6 L := Chg.f B_r1 T_r1 uI6
    have e8 := u2_e uI6
    refine k_aload_n C rfl rfl rfl ?_
    refine k_aload_n C rfl rfl rfl ?_
    refine g_I C rfl rfl rfl T_r1 rfl e8 ?_
    refine z_iconst C (z := 0) rfl rfl rfl (fun x9 ex9 => ?_)
    refine c_VV C (s_X2_set hS hI6 H_r1) rfl rfl rfl rfl rfl ⟨_, rfl, rfl, T_r1, Nat.le_of_ble_eq_true rfl⟩ rfl rfl (Nat.le_of_ble_eq_true rfl) (Nat.le_of_ble_eq_true rfl) (Nat.le_of_ble_eq_true rfl) ?_
    rintro I11 L12 ⟨hI11, S13⟩
    have e14 := Chg.k S13 T_r1 (by decide) (by decide) e8
    refine k_aload_n C rfl rfl rfl ?_
    refine g_I C rfl rfl rfl T_r1 rfl e14 ?_
    have J15 : ∀ (nn16 : Nat) (I17 : IT) (L18 : LT) (x19 : Int32), (MN (x19.toInt - (-1)) nn16) → (IX A T I17) → (Chg B T [] I11 L12 I17 L18) → (-1 ≤ x19.toInt) → (x19.toInt ≤ 40) → V 35 [(0, .ref r0), (1, .ref r1), (2, .int n2), (3, .int n3), (4, .int x19)] [] (T, N, I17, L18, R) 0 0 := by
      intro nn16
      induction nn16 using Nat.strongRecOn with
      | _ nn16 ihJ15 =>
        intro I17 L18 x19 hmnn16 hI23 S22 b20 b21
        have gx19 := rg x19
        have e24 := Chg.k S22 T_r1 (by decide) (by decide) e14
        refine k_iload C rfl rfl rfl ?_
        refine b_if_lt C (t := 76) rfl rfl rfl (fun c25 => ?_) (fun c25 => ?_)
        · skip
          exact k_vret C rfl rfl (Nat.le_of_ble_eq_true rfl) (Nat.le_of_ble_eq_true rfl) ⟨_, _, rfl, rfl, hI23, (Chg.cons S7 (Chg.cons S13 (Chg.mono S22 (by decide)) (by decide)) (by decide))⟩
        refine k_aload_n C rfl rfl rfl ?_
        refine k_iload C rfl rfl rfl ?_
        refine k_aload_n C rfl rfl rfl ?_
        refine k_iload_n C rfl rfl rfl ?_
        refine k_aload_n C rfl rfl rfl ?_
        refine k_iload C rfl rfl rfl ?_
        refine c_VI C (s_X2_get hS hI23 (hs_GF hS H_r1)) rfl rfl rfl rfl rfl ⟨_, rfl, rfl, T_r1, Nat.le_of_ble_eq_true rfl⟩ rfl rfl (Nat.le_of_ble_eq_true rfl) (Nat.le_of_ble_eq_true rfl) (Nat.le_of_ble_eq_true rfl) ?_
        rintro x26 _ _ ⟨rfl, rfl⟩
        have gx26 := rg x26
        refine zt_imul C rfl rfl (fun x27 => ?_)
        have gx27 := rg x27
        refine k_iload_n C rfl rfl rfl ?_
        refine k_aload_n C rfl rfl rfl ?_
        refine k_iload C rfl rfl rfl ?_
        refine z_iconst C (z := 1) rfl rfl rfl (fun x28 ex28 => ?_)
        refine z_isub C rfl rfl ⟨by omega, by omega⟩ (fun x29 ex29 => ?_)
        refine c_VI C (s_X2_get hS hI23 (hs_GF hS H_r1)) rfl rfl rfl rfl rfl ⟨_, rfl, rfl, T_r1, Nat.le_of_ble_eq_true rfl⟩ rfl rfl (Nat.le_of_ble_eq_true rfl) (Nat.le_of_ble_eq_true rfl) (Nat.le_of_ble_eq_true rfl) ?_
        rintro x30 _ _ ⟨rfl, rfl⟩
        have gx30 := rg x30
        refine zt_imul C rfl rfl (fun x31 => ?_)
        have gx31 := rg x31
        refine zt_iadd C rfl rfl (fun x32 => ?_)
        have gx32 := rg x32
        refine z_i2l C rfl rfl (fun lg33 elg33 => ?_)
        obtain ⟨T_r0, A_r0, B_r0, ⟨r0_0, R_r0_0, H_r0_0⟩, ⟨r0_1, R_r0_1, H_r0_1⟩, ⟨r0_2, R_r0_2, H_r0_2⟩⟩ := id H_r0
        refine c_VI C (s_X0_of hS hI23 H_r0) rfl rfl rfl rfl rfl ⟨_, rfl, rfl, T_r0, Nat.le_of_ble_eq_true rfl⟩ rfl rfl (Nat.le_of_ble_eq_true rfl) (Nat.le_of_ble_eq_true rfl) (Nat.le_of_ble_eq_true rfl) ?_
        rintro x34 _ _ ⟨rfl, rfl⟩
        have gx34 := rg x34
        refine c_VV C (s_X2_set hS hI23 H_r1) rfl rfl rfl rfl rfl ⟨_, rfl, rfl, T_r1, Nat.le_of_ble_eq_true rfl⟩ rfl rfl (Nat.le_of_ble_eq_true rfl) (Nat.le_of_ble_eq_true rfl) (Nat.le_of_ble_eq_true rfl) ?_
        rintro I36 L37 ⟨hI36, S38⟩
        have e39 := Chg.k S38 T_r1 (by decide) (by decide) e24
        refine z_iinc C (z := -1) (lw := fun x40 => [(4, .int x40), (0, .ref r0), (1, .ref r1), (2, .int n2), (3, .int n3)]) rfl rfl rfl (Nat.le_of_ble_eq_true rfl) rfl ⟨by omega, by omega⟩ (fun _ => rfl) (fun x40 ex40 => ?_)
        show V 73 [(4, .int x40), (0, .ref r0), (1, .ref r1), (2, .int n2), (3, .int n3)] _ _ _ _
        refine k_goto C (pc2 := 35) rfl rfl ?_
        refine k_sub S [(0, .ref r0), (1, .ref r1), (2, .int n2), (3, .int n3), (4, .int x40)] (List.forall_mem_cons.mpr ⟨List.mem_of_getElem? (i := 1) rfl, List.forall_mem_cons.mpr ⟨List.mem_of_getElem? (i := 2) rfl, List.forall_mem_cons.mpr ⟨List.mem_of_getElem? (i := 3) rfl, List.forall_mem_cons.mpr ⟨List.mem_of_getElem? (i := 4) rfl, List.forall_mem_cons.mpr ⟨List.mem_of_getElem? (i := 0) rfl, fun _ h => nomatch h⟩⟩⟩⟩⟩) ?_
        exact ihJ15 _ (MN.lt hmnn16 (by omega) (by omega)) I36 L37 x40 rfl hI36 (Chg.cons S22 (Chg.mono S38 (by decide)) (by decide)) (by omega) (by omega)
    refine k_istore C (lw := [(4, .int x5), (0, .ref r0), (1, .ref r1), (2, .int n2), (3, .int n3)]) rfl rfl (Nat.le_of_ble_eq_true rfl) rfl ?_
    refine k_sub S [(0, .ref r0), (1, .ref r1), (2, .int n2), (3, .int n3), (4, .int x5)] (List.forall_mem_cons.mpr ⟨List.mem_of_getElem? (i := 1) rfl, List.forall_mem_cons.mpr ⟨List.mem_of_getElem? (i := 2) rfl, List.forall_mem_cons.mpr ⟨List.mem_of_getElem? (i := 3) rfl, List.forall_mem_cons.mpr ⟨List.mem_of_getElem? (i := 4) rfl, List.forall_mem_cons.mpr ⟨List.mem_of_getElem? (i := 0) rfl, fun _ h => nomatch h⟩⟩⟩⟩⟩) ?_
    exact J15 _ I11 L12 x5 rfl hI11 Chg.rf (by omega) (by omega)
  exact k_vret C rfl rfl (Nat.le_of_ble_eq_true rfl) (Nat.le_of_ble_eq_true rfl) ⟨_, _, rfl, rfl, hI, Chg.rf⟩

theorem s_X0_mixInto {d : Nat} {T N : Nat → Nat} {I : IT} {L : LT} {R : RT} {A B : Nat → Prop} {r0 r1 r2 r3 : Nat} (hS : SUB B A) (hI : IX A T I) (H_r0 : (hs_Al T N R A B) r0) (H_r1 : (hs_F T N R A B) r1) (H_r2 : (hs_Tb T N R A B) r2) (H_r3 : (hs_G T N R A B) r3) : Ex (d + 3) 18 [.ref r0, .ref r1, .ref r2, .ref r3] (T, N, I, L, R) 0 0 (pV T N R (fun I9 L9 => (IX A T I9 ∧ Chg B T [(3, 0)] I L I9 L9))) := by
  refine ⟨_, rfl, Nat.le_of_ble_eq_true rfl, fun V C S => ?_⟩
  show V 0 [(0, .ref r0), (1, .ref r1), (2, .ref r2), (3, .ref r3)] [] (T, N, I, L, R) 0 0
  refine k_aload_n C rfl rfl rfl ?_
  refine z_iconst C (z := 0) rfl rfl rfl (fun x1 ex1 => ?_)
  obtain ⟨T_r3, A_r3, B_r3, ⟨r3_1, R_r3_1, H_r3_1⟩⟩ := id H_r3
  refine c_VV C (s_X2_begin hS hI H_r3) rfl rfl rfl rfl rfl ⟨_, rfl, rfl, T_r3, Nat.le_of_ble_eq_true rfl⟩ rfl rfl (Nat.le_of_ble_eq_true rfl) (Nat.le_of_ble_eq_true rfl) (Nat.le_of_ble_eq_true rfl) ?_
  rintro I3 L4 ⟨hI3, S5⟩
  refine k_aload_n C rfl rfl rfl ?_
  obtain ⟨T_r0, A_r0, B_r0, ⟨r0_0, R_r0_0, H_r0_0⟩, ⟨r0_1, R_r0_1, H_r0_1⟩, ⟨r0_2, R_r0_2, H_r0_2⟩⟩ := id H_r0
  refine g_R C rfl rfl rfl T_r0 rfl R_r0_2 ?_
  refine z_iconst C (z := 0) rfl rfl rfl (fun x6 ex6 => ?_)
  obtain ⟨T_r0_2, A_r0_2, B_r0_2, ⟨r0_2_1, R_r0_2_1, H_r0_2_1⟩⟩ := id H_r0_2
  refine c_VV C (s_X2_begin hS hI3 H_r0_2) rfl rfl rfl rfl rfl ⟨_, rfl, rfl, T_r0_2, Nat.le_of_ble_eq_true rfl⟩ rfl rfl (Nat.le_of_ble_eq_true rfl) (Nat.le_of_ble_eq_true rfl) (Nat.le_of_ble_eq_true rfl) ?_
  rintro I8 L9 ⟨hI8, S10⟩
  refine k_aload_n C rfl rfl rfl ?_
  refine g_R C rfl rfl rfl T_r0 rfl R_r0_2 ?_
  refine z_iconst C (z := 0) rfl rfl rfl (fun x11 ex11 => ?_)
  refine z_iconst C (z := 1) rfl rfl rfl (fun x12 ex12 => ?_)
  refine c_VV C (s_X2_set hS hI8 H_r0_2) rfl rfl rfl rfl rfl ⟨_, rfl, rfl, T_r0_2, Nat.le_of_ble_eq_true rfl⟩ rfl rfl (Nat.le_of_ble_eq_true rfl) (Nat.le_of_ble_eq_true rfl) (Nat.le_of_ble_eq_true rfl) ?_
  rintro I14 L15 ⟨hI14, S16⟩
  refine k_aload_n C rfl rfl rfl ?_
  refine z_iconst C (z := 0) rfl rfl rfl (fun x17 ex17 => ?_)
  refine k_aload_n C rfl rfl rfl ?_
  refine z_iconst C (z := 0) rfl rfl rfl (fun x18 ex18 => ?_)
  obtain ⟨T_r1, A_r1, ⟨r1_1, R_r1_1, H_r1_1⟩⟩ := id H_r1
  refine c_VI C (s_X2_get hS hI14 H_r1) rfl rfl rfl rfl rfl ⟨_, rfl, rfl, T_r1, Nat.le_of_ble_eq_true rfl⟩ rfl rfl (Nat.le_of_ble_eq_true rfl) (Nat.le_of_ble_eq_true rfl) (Nat.le_of_ble_eq_true rfl) ?_
  rintro x19 _ _ ⟨rfl, rfl⟩
  have gx19 := rg x19
  refine c_VV C (s_X2_set hS hI14 H_r3) rfl rfl rfl rfl rfl ⟨_, rfl, rfl, T_r3, Nat.le_of_ble_eq_true rfl⟩ rfl rfl (Nat.le_of_ble_eq_true rfl) (Nat.le_of_ble_eq_true rfl) (Nat.le_of_ble_eq_true rfl) ?_
  rintro I21 L22 ⟨hI21, S23⟩
  refine z_iconst C (z := 1) rfl rfl rfl (fun x24 ex24 => ?_)
  have J25 : ∀ (nn26 : Nat) (I27 : IT) (L28 : LT) (x29 : Int32), (MN (41 - x29.toInt) nn26) → (IX A T I27) → (Chg B T [(3, 0)] I21 L22 I27 L28) → (1 ≤ x29.toInt) → (x29.toInt ≤ 41) → V 35 [(0, .ref r0), (1, .ref r1), (2, .ref r2), (3, .ref r3), (4, .int x29)] [] (T, N, I27, L28, R) 0 0 := by
    intro nn26
    induction nn26 using Nat.strongRecOn with
    | _ nn26 ihJ25 =>
      intro I27 L28 x29 hmnn26 hI33 S32 b30 b31
      have gx29 := rg x29
      refine k_iload C rfl rfl rfl ?_
      refine k_aload_n C rfl rfl rfl ?_
      refine z_gI C rfl rfl rfl T_r1 rfl (fun x34 ex34 => ?_)
      have gx34 := rg x34
      have ox34 := IX.deg hI33 A_r1 T_r1 ex34
      refine b_icmp_gt C (t := 129) rfl rfl rfl (fun c35 => ?_) (fun c35 => ?_)
      · skip
        exact k_vret C rfl rfl (Nat.le_of_ble_eq_true rfl) (Nat.le_of_ble_eq_true rfl) ⟨_, _, rfl, rfl, hI33, (Chg.cons S5 (Chg.cons S10 (Chg.cons S16 (Chg.cons S23 (Chg.mono S32 (by decide)) (by decide)) (by decide)) (by decide)) (by decide))⟩
      refine k_aload_n C rfl rfl rfl ?_
      refine k_aload_n C rfl rfl rfl ?_
      refine k_aload_n C rfl rfl rfl ?_
      obtain ⟨T_r2, A_r2, B_r2⟩ := id H_r2
      refine z_gI C rfl rfl rfl T_r2 rfl (fun x36 ex36 => ?_)
      have gx36 := rg x36
      refine k_aload_n C rfl rfl rfl ?_
      refine z_gI C rfl rfl rfl T_r2 rfl (fun x37 ex37 => ?_)
      have gx37 := rg x37
      refine c_VV C (s_X0_multiplyByLine hS hI33 H_r0 H_r3) rfl rfl rfl rfl rfl ⟨_, rfl, rfl, T_r0, Nat.le_of_ble_eq_true rfl⟩ rfl rfl (Nat.le_of_ble_eq_true rfl) (Nat.le_of_ble_eq_true rfl) (Nat.le_of_ble_eq_true rfl) ?_
      rintro I39 L40 ⟨hI39, S41⟩
      have e42 := Chg.k S41 T_r2 (by decide) (by decide) ex36
      have e43 := Chg.k S41 T_r2 (by decide) (by decide) ex37
      refine k_aload_n C rfl rfl rfl ?_
      refine k_aload_n C rfl rfl rfl ?_
      refine g_R C rfl rfl rfl T_r0 rfl R_r0_2 ?_
      refine k_aload_n C rfl rfl rfl ?_
      refine z_gI C rfl rfl rfl T_r2 rfl (fun x44 ex44 => ?_)
      have gx44 := rg x44
      refine k_aload_n C rfl rfl rfl ?_
      refine z_gI C rfl rfl rfl T_r2 rfl (fun x45 ex45 => ?_)
      have gx45 := rg x45
      refine c_VV C (s_X0_multiplyByLine hS hI39 H_r0 H_r0_2) rfl rfl rfl rfl rfl ⟨_, rfl, rfl, T_r0, Nat.le_of_ble_eq_true rfl⟩ rfl rfl (Nat.le_of_ble_eq_true rfl) (Nat.le_of_ble_eq_true rfl) (Nat.le_of_ble_eq_true rfl) ?_
      rintro I47 L48 ⟨hI47, S49⟩
      have e50 := Chg.k S49 T_r2 (by decide) (by decide) e42
      have e51 := Chg.k S49 T_r2 (by decide) (by decide) e43
      have e52 := Chg.k S49 T_r2 (by decide) (by decide) ex44
      have e53 := Chg.k S49 T_r2 (by decide) (by decide) ex45
      refine z_iconst C (z := 0) rfl rfl rfl (fun x54 ex54 => ?_)
      have J55 : ∀ (nn56 : Nat) (I57 : IT) (L58 : LT) (x59 : Int32), (MN (41 - x59.toInt) nn56) → (IX A T I57) → (Chg B T [] I47 L48 I57 L58) → (0 ≤ x59.toInt) → (x59.toInt ≤ 41) → V 76 [(0, .ref r0), (1, .ref r1), (2, .ref r2), (3, .ref r3), (4, .int x29), (5, .int x59)] [] (T, N, I57, L58, R) 0 0 := by
        intro nn56
        induction nn56 using Nat.strongRecOn with
        | _ nn56 ihJ55 =>
          intro I57 L58 x59 hmnn56 hI63 S62 b60 b61
          have gx59 := rg x59
          have e64 := Chg.k S62 T_r2 (by decide) (by decide) e50
          have e65 := Chg.k S62 T_r2 (by decide) (by decide) e51
          have e66 := Chg.k S62 T_r2 (by decide) (by decide) e52
          have e67 := Chg.k S62 T_r2 (by decide) (by decide) e53
          refine k_iload C rfl rfl rfl ?_
          refine k_iload C rfl rfl rfl ?_
          refine b_icmp_gt C (t := 123) rfl rfl rfl (fun c68 => ?_) (fun c68 => ?_)
          · skip
            refine z_iinc C (z := 1) (lw := fun x69 => [(4, .int x69), (0, .ref r0), (1, .ref r1), (2, .ref r2), (3, .ref r3), (5, .int x59)]) rfl rfl rfl (Nat.le_of_ble_eq_true rfl) rfl ⟨by omega, by omega⟩ (fun _ => rfl) (fun x69 ex69 => ?_)
            show V 126 [(4, .int x69), (0, .ref r0), (1, .ref r1), (2, .ref r2), (3, .ref r3), (5, .int x59)] _ _ _ _
            refine k_goto C (pc2 := 35) rfl rfl ?_
            refine k_sub S [(0, .ref r0), (1, .ref r1), (2, .ref r2), (3, .ref r3), (4, .int x69)] (List.forall_mem_cons.mpr ⟨List.mem_of_getElem? (i := 1) rfl, List.forall_mem_cons.mpr ⟨List.mem_of_getElem? (i := 2) rfl, List.forall_mem_cons.mpr ⟨List.mem_of_getElem? (i := 3) rfl, List.forall_mem_cons.mpr ⟨List.mem_of_getElem? (i := 4) rfl, List.forall_mem_cons.mpr ⟨List.mem_of_getElem? (i := 0) rfl, fun _ h => nomatch h⟩⟩⟩⟩⟩) ?_
            exact ihJ25 _ (MN.lt hmnn26 (by omega) (by omega)) I57 L58 x69 rfl hI63 (Chg.cons S32 (Chg.cons S41 (Chg.cons S49 (Chg.mono S62 (by decide)) (by decide)) (by decide)) (by decide)) (by omega) (by omega)
          refine k_aload_n C rfl rfl rfl ?_
          refine k_iload C rfl rfl rfl ?_
          refine k_aload_n C rfl rfl rfl ?_
          refine k_aload_n C rfl rfl rfl ?_
          refine k_iload C rfl rfl rfl ?_
          refine c_VI C (s_X2_get hS hI63 (hs_GF hS H_r3)) rfl rfl rfl rfl rfl ⟨_, rfl, rfl, T_r3, Nat.le_of_ble_eq_true rfl⟩ rfl rfl (Nat.le_of_ble_eq_true rfl) (Nat.le_of_ble_eq_true rfl) (Nat.le_of_ble_eq_true rfl) ?_
          rintro x70 _ _ ⟨rfl, rfl⟩
          have gx70 := rg x70
          refine k_aload_n C rfl rfl rfl ?_
          refine k_iload C rfl rfl rfl ?_
          refine c_VI C (s_X2_get hS hI63 H_r1) rfl rfl rfl rfl rfl ⟨_, rfl, rfl, T_r1, Nat.le_of_ble_eq_true rfl⟩ rfl rfl (Nat.le_of_ble_eq_true rfl) (Nat.le_of_ble_eq_true rfl) (Nat.le_of_ble_eq_true rfl) ?_
          rintro x71 _ _ ⟨rfl, rfl⟩
          have gx71 := rg x71
          refine k_aload_n C rfl rfl rfl ?_
          refine g_R C rfl rfl rfl T_r0 rfl R_r0_2 ?_
          refine k_iload C rfl rfl rfl ?_
          refine c_VI C (s_X2_get hS hI63 (hs_GF hS H_r0_2)) rfl rfl rfl rfl rfl ⟨_, rfl, rfl, T_r0_2, Nat.le_of_ble_eq_true rfl⟩ rfl rfl (Nat.le_of_ble_eq_true rfl) (Nat.le_of_ble_eq_true rfl) (Nat.le_of_ble_eq_true rfl) ?_
          rintro x72 _ _ ⟨rfl, rfl⟩
          have gx72 := rg x72
          refine zt_imul C rfl rfl (fun x73 => ?_)
          have gx73 := rg x73
          refine zt_iadd C rfl rfl (fun x74 => ?_)
          have gx74 := rg x74
          refine z_i2l C rfl rfl (fun lg75 elg75 => ?_)
          refine c_VI C (s_X0_of hS hI63 H_r0) rfl rfl rfl rfl rfl ⟨_, rfl, rfl, T_r0, Nat.le_of_ble_eq_true rfl⟩ rfl rfl (Nat.le_of_ble_eq_true rfl) (Nat.le_of_ble_eq_true rfl) (Nat.le_of_ble_eq_true rfl) ?_
          rintro x76 _ _ ⟨rfl, rfl⟩
          have gx76 := rg x76
          refine c_VV C (s_X2_set hS hI63 H_r3) rfl rfl rfl rfl rfl ⟨_, rfl, rfl, T_r3, Nat.le_of_ble_eq_true rfl⟩ rfl rfl (Nat.le_of_ble_eq_true rfl) (Nat.le_of_ble_eq_true rfl) (Nat.le_of_ble_eq_true rfl) ?_
          rintro I78 L79 ⟨hI78, S80⟩
          have e81 := Chg.k S80 T_r2 (by decide) (by decide) e64
          have e82 := Chg.k S80 T_r2 (by decide) (by decide) e65
          have e83 := Chg.k S80 T_r2 (by decide) (by decide) e66
          have e84 := Chg.k S80 T_r2 (by decide) (by decide) e67
          refine z_iinc C (z := 1) (lw := fun x85 => [(5, .int x85), (0, .ref r0), (1, .ref r1), (2, .ref r2), (3, .ref r3), (4, .int x29)]) rfl rfl rfl (Nat.le_of_ble_eq_true rfl) rfl ⟨by omega, by omega⟩ (fun _ => rfl) (fun x85 ex85 => ?_)
          show V 120 [(5, .int x85), (0, .ref r0), (1, .ref r1), (2, .ref r2), (3, .ref r3), (4, .int x29)] _ _ _ _
          refine k_goto C (pc2 := 76) rfl rfl ?_
          refine k_sub S [(0, .ref r0), (1, .ref r1), (2, .ref r2), (3, .ref r3), (4, .int x29), (5, .int x85)] (List.forall_mem_cons.mpr ⟨List.mem_of_getElem? (i := 1) rfl, List.forall_mem_cons.mpr ⟨List.mem_of_getElem? (i := 2) rfl, List.forall_mem_cons.mpr ⟨List.mem_of_getElem? (i := 3) rfl, List.forall_mem_cons.mpr ⟨List.mem_of_getElem? (i := 4) rfl, List.forall_mem_cons.mpr ⟨List.mem_of_getElem? (i := 5) rfl, List.forall_mem_cons.mpr ⟨List.mem_of_getElem? (i := 0) rfl, fun _ h => nomatch h⟩⟩⟩⟩⟩⟩) ?_
          exact ihJ55 _ (MN.lt hmnn56 (by omega) (by omega)) I78 L79 x85 rfl hI78 (Chg.cons S62 (Chg.mono S80 (by decide)) (by decide)) (by omega) (by omega)
      refine k_istore C (lw := [(5, .int x54), (0, .ref r0), (1, .ref r1), (2, .ref r2), (3, .ref r3), (4, .int x29)]) rfl rfl (Nat.le_of_ble_eq_true rfl) rfl ?_
      refine k_sub S [(0, .ref r0), (1, .ref r1), (2, .ref r2), (3, .ref r3), (4, .int x29), (5, .int x54)] (List.forall_mem_cons.mpr ⟨List.mem_of_getElem? (i := 1) rfl, List.forall_mem_cons.mpr ⟨List.mem_of_getElem? (i := 2) rfl, List.forall_mem_cons.mpr ⟨List.mem_of_getElem? (i := 3) rfl, List.forall_mem_cons.mpr ⟨List.mem_of_getElem? (i := 4) rfl, List.forall_mem_cons.mpr ⟨List.mem_of_getElem? (i := 5) rfl, List.forall_mem_cons.mpr ⟨List.mem_of_getElem? (i := 0) rfl, fun _ h => nomatch h⟩⟩⟩⟩⟩⟩) ?_
      exact J55 _ I47 L48 x54 rfl hI47 Chg.rf (by omega) (by omega)
  refine k_istore C (lw := [(4, .int x24), (0, .ref r0), (1, .ref r1), (2, .ref r2), (3, .ref r3)]) rfl rfl (Nat.le_of_ble_eq_true rfl) rfl ?_
  refine k_sub S [(0, .ref r0), (1, .ref r1), (2, .ref r2), (3, .ref r3), (4, .int x24)] (List.forall_mem_cons.mpr ⟨List.mem_of_getElem? (i := 1) rfl, List.forall_mem_cons.mpr ⟨List.mem_of_getElem? (i := 2) rfl, List.forall_mem_cons.mpr ⟨List.mem_of_getElem? (i := 3) rfl, List.forall_mem_cons.mpr ⟨List.mem_of_getElem? (i := 4) rfl, List.forall_mem_cons.mpr ⟨List.mem_of_getElem? (i := 0) rfl, fun _ h => nomatch h⟩⟩⟩⟩⟩) ?_
  exact J25 _ I21 L22 x24 rfl hI21 Chg.rf (by omega) (by omega)

theorem s_X0_addProduct {d : Nat} {T N : Nat → Nat} {I : IT} {L : LT} {R : RT} {A B : Nat → Prop} {r0 r1 r2 r4 : Nat} {n3 : Int32} (hS : SUB B A) (hI : IX A T I) (H_r0 : (hs_Al T N R A B) r0) (H_r1 : (hs_F T N R A B) r1) (H_r2 : (hs_F T N R A B) r2) (H_r4 : (hs_G T N R A B) r4) : Ex (d + 2) 19 [.ref r0, .ref r1, .ref r2, .int n3, .ref r4] (T, N, I, L, R) 0 0 (pV T N R (fun I9 L9 => (IX A T I9 ∧ Chg B T [] I L I9 L9))) := by
  refine ⟨_, rfl, Nat.le_of_ble_eq_true rfl, fun V C S => ?_⟩
  show V 0 [(0, .ref r0), (1, .ref r1), (2, .ref r2), (3, .int n3), (4, .ref r4)] [] (T, N, I, L, R) 0 0
  have gn3 := rg n3
  refine z_iconst C (z := 0) rfl rfl rfl (fun x1 ex1 => ?_)
  have J2 : ∀ (nn3 : Nat) (I4 : IT) (L5 : LT) (x6 : Int32), (MN (41 - x6.toInt) nn3) → (IX A T I4) → (Chg B T [] I L I4 L5) → (0 ≤ x6.toInt) → (x6.toInt ≤ 41) → V 3 [(0, .ref r0), (1, .ref r1), (2, .ref r2), (3, .int n3), (4, .ref r4), (5, .int x6)] [] (T, N, I4, L5, R) 0 0 := by
    intro nn3
    induction nn3 using Nat.strongRecOn with
    | _ nn3 ihJ2 =>
      intro I4 L5 x6 hmnn3 hI10 S9 b7 b8
      have gx6 := rg x6
      refine k_iload C rfl rfl rfl ?_
      refine k_aload_n C rfl rfl rfl ?_
      obtain ⟨T_r1, A_r1, ⟨r1_1, R_r1_1, H_r1_1⟩⟩ := id H_r1
      refine z_gI C rfl rfl rfl T_r1 rfl (fun x11 ex11 => ?_)
      have gx11 := rg x11
      have ox11 := IX.deg hI10 A_r1 T_r1 ex11
      refine b_icmp_gt C (t := 91) rfl rfl rfl (fun c12 => ?_) (fun c12 => ?_)
      · skip
        exact k_vret C rfl rfl (Nat.le_of_ble_eq_true rfl) (Nat.le_of_ble_eq_true rfl) ⟨_, _, rfl, rfl, hI10, (Chg.mono S9 (by decide))⟩
      refine k_aload_n C rfl rfl rfl ?_
      refine k_aload_n C rfl rfl rfl ?_
      refine k_iload C rfl rfl rfl ?_
      refine c_VI C (s_X2_get hS hI10 H_r1) rfl rfl rfl rfl rfl ⟨_, rfl, rfl, T_r1, Nat.le_of_ble_eq_true rfl⟩ rfl rfl (Nat.le_of_ble_eq_true rfl) (Nat.le_of_ble_eq_true rfl) (Nat.le_of_ble_eq_true rfl) ?_
      rintro x13 _ _ ⟨rfl, rfl⟩
      have gx13 := rg x13
      refine k_iload_n C rfl rfl rfl ?_
      refine zt_imul C rfl rfl (fun x14 => ?_)
      have gx14 := rg x14
      refine z_i2l C rfl rfl (fun lg15 elg15 => ?_)
      obtain ⟨T_r0, A_r0, B_r0, ⟨r0_0, R_r0_0, H_r0_0⟩, ⟨r0_1, R_r0_1, H_r0_1⟩, ⟨r0_2, R_r0_2, H_r0_2⟩⟩ := id H_r0
      refine c_VI C (s_X0_of hS hI10 H_r0) rfl rfl rfl rfl rfl ⟨_, rfl, rfl, T_r0, Nat.le_of_ble_eq_true rfl⟩ rfl rfl (Nat.le_of_ble_eq_true rfl) (Nat.le_of_ble_eq_true rfl) (Nat.le_of_ble_eq_true rfl) ?_
      rintro x16 _ _ ⟨rfl, rfl⟩
      have gx16 := rg x16
      refine k_istore C (lw := [(6, .int x16), (0, .ref r0), (1, .ref r1), (2, .ref r2), (3, .int n3), (4, .ref r4), (5, .int x6)]) rfl rfl (Nat.le_of_ble_eq_true rfl) rfl ?_
      refine z_iconst C (z := 0) rfl rfl rfl (fun x17 ex17 => ?_)
      have J18 : ∀ (nn19 : Nat) (I20 : IT) (L21 : LT) (x22 : Int32), (MN (41 - x22.toInt) nn19) → (IX A T I20) → (Chg B T [] I4 L5 I20 L21) → (0 ≤ x22.toInt) → (x22.toInt ≤ 41) → V 30 [(0, .ref r0), (1, .ref r1), (2, .ref r2), (3, .int n3), (4, .ref r4), (5, .int x6), (6, .int x16), (7, .int x22)] [] (T, N, I20, L21, R) 0 0 := by
        intro nn19
        induction nn19 using Nat.strongRecOn with
        | _ nn19 ihJ18 =>
          intro I20 L21 x22 hmnn19 hI26 S25 b23 b24
          have gx22 := rg x22
          have e27 := Chg.k S25 T_r1 (by decide) (by decide) ex11
          refine k_iload C rfl rfl rfl ?_
          refine b_if_eq C (t := 85) rfl rfl rfl (fun c28 => ?_) (fun c28 => ?_)
          · skip
            refine z_iinc C (z := 1) (lw := fun x29 => [(5, .int x29), (0, .ref r0), (1, .ref r1), (2, .ref r2), (3, .int n3), (4, .ref r4), (6, .int x16), (7, .int x22)]) rfl rfl rfl (Nat.le_of_ble_eq_true rfl) rfl ⟨by omega, by omega⟩ (fun _ => rfl) (fun x29 ex29 => ?_)
            show V 88 [(5, .int x29), (0, .ref r0), (1, .ref r1), (2, .ref r2), (3, .int n3), (4, .ref r4), (6, .int x16), (7, .int x22)] _ _ _ _
            refine k_goto C (pc2 := 3) rfl rfl ?_
            refine k_sub S [(0, .ref r0), (1, .ref r1), (2, .ref r2), (3, .int n3), (4, .ref r4), (5, .int x29)] (List.forall_mem_cons.mpr ⟨List.mem_of_getElem? (i := 1) rfl, List.forall_mem_cons.mpr ⟨List.mem_of_getElem? (i := 2) rfl, List.forall_mem_cons.mpr ⟨List.mem_of_getElem? (i := 3) rfl, List.forall_mem_cons.mpr ⟨List.mem_of_getElem? (i := 4) rfl, List.forall_mem_cons.mpr ⟨List.mem_of_getElem? (i := 5) rfl, List.forall_mem_cons.mpr ⟨List.mem_of_getElem? (i := 0) rfl, fun _ h => nomatch h⟩⟩⟩⟩⟩⟩) ?_
            exact ihJ2 _ (MN.lt hmnn3 (by omega) (by omega)) I20 L21 x29 rfl hI26 (Chg.cons S9 (Chg.mono S25 (by decide)) (by decide)) (by omega) (by omega)
          refine k_iload C rfl rfl rfl ?_
          refine k_aload_n C rfl rfl rfl ?_
          obtain ⟨T_r2, A_r2, ⟨r2_1, R_r2_1, H_r2_1⟩⟩ := id H_r2
          refine z_gI C rfl rfl rfl T_r2 rfl (fun x30 ex30 => ?_)
          have gx30 := rg x30
          have ox30 := IX.deg hI26 A_r2 T_r2 ex30
          refine b_icmp_gt C (t := 85) rfl rfl rfl (fun c31 => ?_) (fun c31 => ?_)
          · skip
            refine z_iinc C (z := 1) (lw := fun x32 => [(5, .int x32), (0, .ref r0), (1, .ref r1), (2, .ref r2), (3, .int n3), (4, .ref r4), (6, .int x16), (7, .int x22)]) rfl rfl rfl (Nat.le_of_ble_eq_true rfl) rfl ⟨by omega, by omega⟩ (fun _ => rfl) (fun x32 ex32 => ?_)
            show V 88 [(5, .int x32), (0, .ref r0), (1, .ref r1), (2, .ref r2), (3, .int n3), (4, .ref r4), (6, .int x16), (7, .int x22)] _ _ _ _
            refine k_goto C (pc2 := 3) rfl rfl ?_
            refine k_sub S [(0, .ref r0), (1, .ref r1), (2, .ref r2), (3, .int n3), (4, .ref r4), (5, .int x32)] (List.forall_mem_cons.mpr ⟨List.mem_of_getElem? (i := 1) rfl, List.forall_mem_cons.mpr ⟨List.mem_of_getElem? (i := 2) rfl, List.forall_mem_cons.mpr ⟨List.mem_of_getElem? (i := 3) rfl, List.forall_mem_cons.mpr ⟨List.mem_of_getElem? (i := 4) rfl, List.forall_mem_cons.mpr ⟨List.mem_of_getElem? (i := 5) rfl, List.forall_mem_cons.mpr ⟨List.mem_of_getElem? (i := 0) rfl, fun _ h => nomatch h⟩⟩⟩⟩⟩⟩) ?_
            exact ihJ2 _ (MN.lt hmnn3 (by omega) (by omega)) I20 L21 x32 rfl hI26 (Chg.cons S9 (Chg.mono S25 (by decide)) (by decide)) (by omega) (by omega)
          refine k_aload C rfl rfl rfl ?_
          refine k_iload C rfl rfl rfl ?_
          refine k_iload C rfl rfl rfl ?_
          refine z_iadd C rfl rfl ⟨by omega, by omega⟩ (fun x33 ex33 => ?_)
          refine k_aload_n C rfl rfl rfl ?_
          refine k_aload C rfl rfl rfl ?_
          refine k_iload C rfl rfl rfl ?_
          refine k_iload C rfl rfl rfl ?_
          refine z_iadd C rfl rfl ⟨by omega, by omega⟩ (fun x34 ex34 => ?_)
          obtain ⟨T_r4, A_r4, B_r4, ⟨r4_1, R_r4_1, H_r4_1⟩⟩ := id H_r4
          refine c_VI C (s_X2_get hS hI26 (hs_GF hS H_r4)) rfl rfl rfl rfl rfl ⟨_, rfl, rfl, T_r4, Nat.le_of_ble_eq_true rfl⟩ rfl rfl (Nat.le_of_ble_eq_true rfl) (Nat.le_of_ble_eq_true rfl) (Nat.le_of_ble_eq_true rfl) ?_
          rintro x35 _ _ ⟨rfl, rfl⟩
          have gx35 := rg x35
          refine k_iload C rfl rfl rfl ?_
          refine k_aload_n C rfl rfl rfl ?_
          refine k_iload C rfl rfl rfl ?_
          refine c_VI C (s_X2_get hS hI26 H_r2) rfl rfl rfl rfl rfl ⟨_, rfl, rfl, T_r2, Nat.le_of_ble_eq_true rfl⟩ rfl rfl (Nat.le_of_ble_eq_true rfl) (Nat.le_of_ble_eq_true rfl) (Nat.le_of_ble_eq_true rfl) ?_
          rintro x36 _ _ ⟨rfl, rfl⟩
          have gx36 := rg x36
          refine zt_imul C rfl rfl (fun x37 => ?_)
          have gx37 := rg x37
          refine zt_iadd C rfl rfl (fun x38 => ?_)
          have gx38 := rg x38
          refine z_i2l C rfl rfl (fun lg39 elg39 => ?_)
          refine c_VI C (s_X0_of hS hI26 H_r0) rfl rfl rfl rfl rfl ⟨_, rfl, rfl, T_r0, Nat.le_of_ble_eq_true rfl⟩ rfl rfl (Nat.le_of_ble_eq_true rfl) (Nat.le_of_ble_eq_true rfl) (Nat.le_of_ble_eq_true rfl) ?_
          rintro x40 _ _ ⟨rfl, rfl⟩
          have gx40 := rg x40
          refine c_VV C (s_X2_set hS hI26 H_r4) rfl rfl rfl rfl rfl ⟨_, rfl, rfl, T_r4, Nat.le_of_ble_eq_true rfl⟩ rfl rfl (Nat.le_of_ble_eq_true rfl) (Nat.le_of_ble_eq_true rfl) (Nat.le_of_ble_eq_true rfl) ?_
          rintro I42 L43 ⟨hI42, S44⟩
          have e45 := Chg.k S44 T_r1 (by decide) (by decide) e27
          have e46 := Chg.k S44 T_r2 (by decide) (by decide) ex30
          refine z_iinc C (z := 1) (lw := fun x47 => [(7, .int x47), (0, .ref r0), (1, .ref r1), (2, .ref r2), (3, .int n3), (4, .ref r4), (5, .int x6), (6, .int x16)]) rfl rfl rfl (Nat.le_of_ble_eq_true rfl) rfl ⟨by omega, by omega⟩ (fun _ => rfl) (fun x47 ex47 => ?_)
          show V 82 [(7, .int x47), (0, .ref r0), (1, .ref r1), (2, .ref r2), (3, .int n3), (4, .ref r4), (5, .int x6), (6, .int x16)] _ _ _ _
          refine k_goto C (pc2 := 30) rfl rfl ?_
          refine k_sub S [(0, .ref r0), (1, .ref r1), (2, .ref r2), (3, .int n3), (4, .ref r4), (5, .int x6), (6, .int x16), (7, .int x47)] (List.forall_mem_cons.mpr ⟨List.mem_of_getElem? (i := 1) rfl, List.forall_mem_cons.mpr ⟨List.mem_of_getElem? (i := 2) rfl, List.forall_mem_cons.mpr ⟨List.mem_of_getElem? (i := 3) rfl, List.forall_mem_cons.mpr ⟨List.mem_of_getElem? (i := 4) rfl, List.forall_mem_cons.mpr ⟨List.mem_of_getElem? (i := 5) rfl, List.forall_mem_cons.mpr ⟨List.mem_of_getElem? (i := 6) rfl, List.forall_mem_cons.mpr ⟨List.mem_of_getElem? (i := 7) rfl, List.forall_mem_cons.mpr ⟨List.mem_of_getElem? (i := 0) rfl, fun _ h => nomatch h⟩⟩⟩⟩⟩⟩⟩⟩) ?_
          exact ihJ18 _ (MN.lt hmnn19 (by omega) (by omega)) I42 L43 x47 rfl hI42 (Chg.cons S25 (Chg.mono S44 (by decide)) (by decide)) (by omega) (by omega)
      refine k_istore C (lw := [(7, .int x17), (6, .int x16), (0, .ref r0), (1, .ref r1), (2, .ref r2), (3, .int n3), (4, .ref r4), (5, .int x6)]) rfl rfl (Nat.le_of_ble_eq_true rfl) rfl ?_
      refine k_sub S [(0, .ref r0), (1, .ref r1), (2, .ref r2), (3, .int n3), (4, .ref r4), (5, .int x6), (6, .int x16), (7, .int x17)] (List.forall_mem_cons.mpr ⟨List.mem_of_getElem? (i := 2) rfl, List.forall_mem_cons.mpr ⟨List.mem_of_getElem? (i := 3) rfl, List.forall_mem_cons.mpr ⟨List.mem_of_getElem? (i := 4) rfl, List.forall_mem_cons.mpr ⟨List.mem_of_getElem? (i := 5) rfl, List.forall_mem_cons.mpr ⟨List.mem_of_getElem? (i := 6) rfl, List.forall_mem_cons.mpr ⟨List.mem_of_getElem? (i := 7) rfl, List.forall_mem_cons.mpr ⟨List.mem_of_getElem? (i := 1) rfl, List.forall_mem_cons.mpr ⟨List.mem_of_getElem? (i := 0) rfl, fun _ h => nomatch h⟩⟩⟩⟩⟩⟩⟩⟩) ?_
      exact J18 _ I4 L5 x17 rfl hI10 Chg.rf (by omega) (by omega)
  refine k_istore C (lw := [(5, .int x1), (0, .ref r0), (1, .ref r1), (2, .ref r2), (3, .int n3), (4, .ref r4)]) rfl rfl (Nat.le_of_ble_eq_true rfl) rfl ?_
  refine k_sub S [(0, .ref r0), (1, .ref r1), (2, .ref r2), (3, .int n3), (4, .ref r4), (5, .int x1)] (List.forall_mem_cons.mpr ⟨List.mem_of_getElem? (i := 1) rfl, List.forall_mem_cons.mpr ⟨List.mem_of_getElem? (i := 2) rfl, List.forall_mem_cons.mpr ⟨List.mem_of_getElem? (i := 3) rfl, List.forall_mem_cons.mpr ⟨List.mem_of_getElem? (i := 4) rfl, List.forall_mem_cons.mpr ⟨List.mem_of_getElem? (i := 5) rfl, List.forall_mem_cons.mpr ⟨List.mem_of_getElem? (i := 0) rfl, fun _ h => nomatch h⟩⟩⟩⟩⟩⟩) ?_
  exact J2 _ I L x1 rfl hI Chg.rf (by omega) (by omega)

theorem s_X0_multiplyInto {d : Nat} {T N : Nat → Nat} {I : IT} {L : LT} {R : RT} {A B : Nat → Prop} {r0 r1 r2 r3 : Nat} (hS : SUB B A) (hI : IX A T I) (H_r0 : (hs_Al T N R A B) r0) (H_r1 : (hs_F T N R A B) r1) (H_r2 : (hs_F T N R A B) r2) (H_r3 : (hs_G T N R A B) r3) : Ex (d + 3) 20 [.ref r0, .ref r1, .ref r2, .ref r3] (T, N, I, L, R) 0 0 (pI T N R (fun x9 I9 L9 => (0 ≤ x9.toInt) ∧ (x9.toInt ≤ 1) ∧ (IX A T I9 ∧ Chg B T [(3, 0)] I L I9 L9))) := by
  refine ⟨_, rfl, Nat.le_of_ble_eq_true rfl, fun V C S => ?_⟩
  show V 0 [(0, .ref r0), (1, .ref r1), (2, .ref r2), (3, .ref r3)] [] (T, N, I, L, R) 0 0
  refine k_aload_n C rfl rfl rfl ?_
  obtain ⟨T_r1, A_r1, ⟨r1_1, R_r1_1, H_r1_1⟩⟩ := id H_r1
  refine z_gI C rfl rfl rfl T_r1 rfl (fun x1 ex1 => ?_)
  have gx1 := rg x1
  have ox1 := IX.deg hI A_r1 T_r1 ex1
  refine k_aload_n C rfl rfl rfl ?_
  obtain ⟨T_r2, A_r2, ⟨r2_1, R_r2_1, H_r2_1⟩⟩ := id H_r2
  refine z_gI C rfl rfl rfl T_r2 rfl (fun x2 ex2 => ?_)
  have gx2 := rg x2
  have ox2 := IX.deg hI A_r2 T_r2 ex2
  refine z_iadd C rfl rfl ⟨by omega, by omega⟩ (fun x3 ex3 => ?_)
  refine z_bipush C (z := 40) rfl rfl rfl (fun x4 ex4 => ?_)
  refine b_icmp_le C (t := 16) rfl rfl rfl (fun c5 => ?_) (fun c5 => ?_)
  · skip
    refine k_aload_n C rfl rfl rfl ?_
    refine k_aload_n C rfl rfl rfl ?_
    refine g_I C rfl rfl rfl T_r1 rfl ex1 ?_
    refine k_aload_n C rfl rfl rfl ?_
    refine g_I C rfl rfl rfl T_r2 rfl ex2 ?_
    refine z_iadd C rfl rfl ⟨by omega, by omega⟩ (fun x6 ex6 => ?_)
    obtain ⟨T_r3, A_r3, B_r3, ⟨r3_1, R_r3_1, H_r3_1⟩⟩ := id H_r3
    refine c_VV C (s_X2_begin hS hI H_r3) rfl rfl rfl rfl rfl ⟨_, rfl, rfl, T_r3, Nat.le_of_ble_eq_true rfl⟩ rfl rfl (Nat.le_of_ble_eq_true rfl) (Nat.le_of_ble_eq_true rfl) (Nat.le_of_ble_eq_true rfl) ?_
    rintro I8 L9 ⟨hI8, S10⟩
    refine k_aload_n C rfl rfl rfl ?_
    refine k_aload_n C rfl rfl rfl ?_
    refine k_aload_n C rfl rfl rfl ?_
    refine z_iconst C (z := 1) rfl rfl rfl (fun x11 ex11 => ?_)
    refine k_aload_n C rfl rfl rfl ?_
    obtain ⟨T_r0, A_r0, B_r0, ⟨r0_0, R_r0_0, H_r0_0⟩, ⟨r0_1, R_r0_1, H_r0_1⟩, ⟨r0_2, R_r0_2, H_r0_2⟩⟩ := id H_r0
    refine c_VV C (s_X0_addProduct hS hI8 H_r0 H_r1 H_r2 H_r3) rfl rfl rfl rfl rfl ⟨_, rfl, rfl, T_r0, Nat.le_of_ble_eq_true rfl⟩ rfl rfl (Nat.le_of_ble_eq_true rfl) (Nat.le_of_ble_eq_true rfl) (Nat.le_of_ble_eq_true rfl) ?_
    rintro I13 L14 ⟨hI13, S15⟩
    refine z_iconst C (z := 1) rfl rfl rfl (fun x16 ex16 => ?_)
    exact k_iret C rfl (Or.inr ⟨rfl, z01 (by omega) (by omega)⟩) (Nat.le_of_ble_eq_true rfl) (Nat.le_of_ble_eq_true rfl) ⟨_, _, _, rfl, rfl, by omega, by omega, hI13, (Chg.cons S10 (Chg.mono S15 (by decide)) (by decide))⟩
  refine z_iconst C (z := 0) rfl rfl rfl (fun x17 ex17 => ?_)
  exact k_iret C rfl (Or.inr ⟨rfl, z01 (by omega) (by omega)⟩) (Nat.le_of_ble_eq_true rfl) (Nat.le_of_ble_eq_true rfl) ⟨_, _, _, rfl, rfl, by omega, by omega, hI, Chg.rf⟩

theorem s_X0_differentiate {d : Nat} {T N : Nat → Nat} {I : IT} {L : LT} {R : RT} {A B : Nat → Prop} {r0 r1 r4 : Nat} {n2 n3 : Int32} (hS : SUB B A) (hI : IX A T I) (H_r0 : (hs_Al T N R A B) r0) (H_r1 : (hs_F T N R A B) r1) (b0_n2 : 0 ≤ n2.toInt) (b1_n2 : n2.toInt ≤ 40) (b0_n3 : 0 ≤ n3.toInt) (b1_n3 : n3.toInt ≤ 40) (H_r4 : (hs_G T N R A B) r4) : Ex (d + 3) 21 [.ref r0, .ref r1, .int n2, .int n3, .ref r4] (T, N, I, L, R) 0 0 (pV T N R (fun I9 L9 => (IX A T I9 ∧ Chg B T [(3, 0)] I L I9 L9))) := by
  refine ⟨_, rfl, Nat.le_of_ble_eq_true rfl, fun V C S => ?_⟩
  show V 0 [(0, .ref r0), (1, .ref r1), (2, .int n2), (3, .int n3), (4, .ref r4)] [] (T, N, I, L, R) 0 0
  have gn2 := rg n2
  have gn3 := rg n3
  refine k_aload_n C rfl rfl rfl ?_
  obtain ⟨T_r1, A_r1, ⟨r1_1, R_r1_1, H_r1_1⟩⟩ := id H_r1
  refine z_gI C rfl rfl rfl T_r1 rfl (fun x1 ex1 => ?_)
  have gx1 := rg x1
  have ox1 := IX.deg hI A_r1 T_r1 ex1
  refine k_iload_n C rfl rfl rfl ?_
  refine z_isub C rfl rfl ⟨by omega, by omega⟩ (fun x2 ex2 => ?_)
  refine k_iload_n C rfl rfl rfl ?_
  refine z_isub C rfl rfl ⟨by omega, by omega⟩ (fun x3 ex3 => ?_)
  refine k_istore C (lw := [(5, .int x3), (0, .ref r0), (1, .ref r1), (2, .int n2), (3, .int n3), (4, .ref r4)]) rfl rfl (Nat.le_of_ble_eq_true rfl) rfl ?_
  refine k_aload C rfl rfl rfl ?_
  refine k_iload C rfl rfl rfl ?_
  obtain ⟨T_r4, A_r4, B_r4, ⟨r4_1, R_r4_1, H_r4_1⟩⟩ := id H_r4
  refine c_VV C (s_X2_begin hS hI H_r4) rfl rfl rfl rfl rfl ⟨_, rfl, rfl, T_r4, Nat.le_of_ble_eq_true rfl⟩ rfl rfl (Nat.le_of_ble_eq_true rfl) (Nat.le_of_ble_eq_true rfl) (Nat.le_of_ble_eq_true rfl) ?_
  rintro I5 L6 ⟨hI5, S7⟩
  refine z_iconst C (z := 0) rfl rfl rfl (fun x8 ex8 => ?_)
  have J9 : ∀ (nn10 : Nat) (I11 : IT) (L12 : LT) (x13 : Int32), (MN (41 - x13.toInt) nn10) → (IX A T I11) → (Chg B T [] I5 L6 I11 L12) → (0 ≤ x13.toInt) → (x13.toInt ≤ 41) → V 20 [(0, .ref r0), (1, .ref r1), (2, .int n2), (3, .int n3), (4, .ref r4), (5, .int x3), (6, .int x13)] [] (T, N, I11, L12, R) 0 0 := by
    intro nn10
    induction nn10 using Nat.strongRecOn with
    | _ nn10 ihJ9 =>
      intro I11 L12 x13 hmnn10 hI17 S16 b14 b15
      have gx13 := rg x13
      refine k_iload C rfl rfl rfl ?_
      refine k_iload C rfl rfl rfl ?_
      refine b_icmp_gt C (t := 116) rfl rfl rfl (fun c18 => ?_) (fun c18 => ?_)
      · skip
        exact k_vret C rfl rfl (Nat.le_of_ble_eq_true rfl) (Nat.le_of_ble_eq_true rfl) ⟨_, _, rfl, rfl, hI17, (Chg.cons S7 (Chg.mono S16 (by decide)) (by decide))⟩
      refine k_aload_n C rfl rfl rfl ?_
      refine k_iload C rfl rfl rfl ?_
      refine k_iload_n C rfl rfl rfl ?_
      refine z_iadd C rfl rfl ⟨by omega, by omega⟩ (fun x19 ex19 => ?_)
      refine c_VI C (s_X2_get hS hI17 H_r1) rfl rfl rfl rfl rfl ⟨_, rfl, rfl, T_r1, Nat.le_of_ble_eq_true rfl⟩ rfl rfl (Nat.le_of_ble_eq_true rfl) (Nat.le_of_ble_eq_true rfl) (Nat.le_of_ble_eq_true rfl) ?_
      rintro x20 _ _ ⟨rfl, rfl⟩
      have gx20 := rg x20
      refine z_i2l C rfl rfl (fun lg21 elg21 => ?_)
      refine k_lstore C (lw := [(7, .long lg21), (0, .ref r0), (1, .ref r1), (2, .int n2), (3, .int n3), (4, .ref r4), (5, .int x3), (6, .int x13)]) rfl rfl (Nat.le_of_ble_eq_true rfl) rfl ?_
      refine z_iconst C (z := 0) rfl rfl rfl (fun x22 ex22 => ?_)
      have J23 : ∀ (nn24 : Nat) (lg25 : Int64) (x26 : Int32), (MN (40 - x26.toInt) nn24) → (0 ≤ x26.toInt) → (x26.toInt ≤ 40) → V 41 [(0, .ref r0), (1, .ref r1), (2, .int n2), (3, .int n3), (4, .ref r4), (5, .int x3), (6, .int x13), (7, .long lg25), (9, .int x26)] [] (T, N, I11, L12, R) 0 0 := by
        intro nn24
        induction nn24 using Nat.strongRecOn with
        | _ nn24 ihJ23 =>
          intro lg25 x26 hmnn24 b27 b28
          have gx26 := rg x26
          refine k_iload C rfl rfl rfl ?_
          refine k_iload_n C rfl rfl rfl ?_
          refine b_icmp_ge C (t := 69) rfl rfl rfl (fun c29 => ?_) (fun c29 => ?_)
          · skip
            refine z_iconst C (z := 0) rfl rfl rfl (fun x30 ex30 => ?_)
            have J31 : ∀ (nn32 : Nat) (lg33 : Int64) (x34 : Int32), (MN (40 - x34.toInt) nn32) → (0 ≤ x34.toInt) → (x34.toInt ≤ 40) → V 72 [(0, .ref r0), (1, .ref r1), (2, .int n2), (3, .int n3), (4, .ref r4), (5, .int x3), (6, .int x13), (7, .long lg33), (9, .int x34)] [] (T, N, I11, L12, R) 0 0 := by
              intro nn32
              induction nn32 using Nat.strongRecOn with
              | _ nn32 ihJ31 =>
                intro lg33 x34 hmnn32 b35 b36
                have gx34 := rg x34
                refine k_iload C rfl rfl rfl ?_
                refine k_iload_n C rfl rfl rfl ?_
                refine b_icmp_ge C (t := 97) rfl rfl rfl (fun c37 => ?_) (fun c37 => ?_)
                · skip
                  refine k_aload C rfl rfl rfl ?_
                  refine k_iload C rfl rfl rfl ?_
                  refine k_aload_n C rfl rfl rfl ?_
                  refine k_lload C rfl rfl rfl ?_
                  obtain ⟨T_r0, A_r0, B_r0, ⟨r0_0, R_r0_0, H_r0_0⟩, ⟨r0_1, R_r0_1, H_r0_1⟩, ⟨r0_2, R_r0_2, H_r0_2⟩⟩ := id H_r0
                  refine c_VI C (s_X0_of hS hI17 H_r0) rfl rfl rfl rfl rfl ⟨_, rfl, rfl, T_r0, Nat.le_of_ble_eq_true rfl⟩ rfl rfl (Nat.le_of_ble_eq_true rfl) (Nat.le_of_ble_eq_true rfl) (Nat.le_of_ble_eq_true rfl) ?_
                  rintro x38 _ _ ⟨rfl, rfl⟩
                  have gx38 := rg x38
                  refine c_VV C (s_X2_set hS hI17 H_r4) rfl rfl rfl rfl rfl ⟨_, rfl, rfl, T_r4, Nat.le_of_ble_eq_true rfl⟩ rfl rfl (Nat.le_of_ble_eq_true rfl) (Nat.le_of_ble_eq_true rfl) (Nat.le_of_ble_eq_true rfl) ?_
                  rintro I40 L41 ⟨hI40, S42⟩
                  refine z_iinc C (z := 1) (lw := fun x43 => [(6, .int x43), (0, .ref r0), (1, .ref r1), (2, .int n2), (3, .int n3), (4, .ref r4), (5, .int x3), (7, .long lg33), (9, .int x34)]) rfl rfl rfl (Nat.le_of_ble_eq_true rfl) rfl ⟨by omega, by omega⟩ (fun _ => rfl) (fun x43 ex43 => ?_)
                  show V 113 [(6, .int x43), (0, .ref r0), (1, .ref r1), (2, .int n2), (3, .int n3), (4, .ref r4), (5, .int x3), (7, .long lg33), (9, .int x34)] _ _ _ _
                  refine k_goto C (pc2 := 20) rfl rfl ?_
                  refine k_sub S [(0, .ref r0), (1, .ref r1), (2, .int n2), (3, .int n3), (4, .ref r4), (5, .int x3), (6, .int x43)] (List.forall_mem_cons.mpr ⟨List.mem_of_getElem? (i := 1) rfl, List.forall_mem_cons.mpr ⟨List.mem_of_getElem? (i := 2) rfl, List.forall_mem_cons.mpr ⟨List.mem_of_getElem? (i := 3) rfl, List.forall_mem_cons.mpr ⟨List.mem_of_getElem? (i := 4) rfl, List.forall_mem_cons.mpr ⟨List.mem_of_getElem? (i := 5) rfl, List.forall_mem_cons.mpr ⟨List.mem_of_getElem? (i := 6) rfl, List.forall_mem_cons.mpr ⟨List.mem_of_getElem? (i := 0) rfl, fun _ h => nomatch h⟩⟩⟩⟩⟩⟩⟩) ?_
                  exact ihJ9 _ (MN.lt hmnn10 (by omega) (by omega)) I40 L41 x43 rfl hI40 (Chg.cons S16 (Chg.mono S42 (by decide)) (by decide)) (by omega) (by omega)
                refine k_lload C rfl rfl rfl ?_
                refine k_iload C rfl rfl rfl ?_
                refine k_iload_n C rfl rfl rfl ?_
                refine z_iadd C rfl rfl ⟨by omega, by omega⟩ (fun x44 ex44 => ?_)
                refine k_iload C rfl rfl rfl ?_
                refine z_isub C rfl rfl ⟨by omega, by omega⟩ (fun x45 ex45 => ?_)
                refine z_i2l C rfl rfl (fun lg46 elg46 => ?_)
                refine zt_lmul C rfl rfl (fun lg47 => ?_)
                refine k_lstore C (lw := [(7, .long lg47), (0, .ref r0), (1, .ref r1), (2, .int n2), (3, .int n3), (4, .ref r4), (5, .int x3), (6, .int x13), (9, .int x34)]) rfl rfl (Nat.le_of_ble_eq_true rfl) rfl ?_
                refine z_iinc C (z := 1) (lw := fun x48 => [(9, .int x48), (7, .long lg47), (0, .ref r0), (1, .ref r1), (2, .int n2), (3, .int n3), (4, .ref r4), (5, .int x3), (6, .int x13)]) rfl rfl rfl (Nat.le_of_ble_eq_true rfl) rfl ⟨by omega, by omega⟩ (fun _ => rfl) (fun x48 ex48 => ?_)
                show V 94 [(9, .int x48), (7, .long lg47), (0, .ref r0), (1, .ref r1), (2, .int n2), (3, .int n3), (4, .ref r4), (5, .int x3), (6, .int x13)] _ _ _ _
                refine k_goto C (pc2 := 72) rfl rfl ?_
                refine k_sub S [(0, .ref r0), (1, .ref r1), (2, .int n2), (3, .int n3), (4, .ref r4), (5, .int x3), (6, .int x13), (7, .long lg47), (9, .int x48)] (List.forall_mem_cons.mpr ⟨List.mem_of_getElem? (i := 2) rfl, List.forall_mem_cons.mpr ⟨List.mem_of_getElem? (i := 3) rfl, List.forall_mem_cons.mpr ⟨List.mem_of_getElem? (i := 4) rfl, List.forall_mem_cons.mpr ⟨List.mem_of_getElem? (i := 5) rfl, List.forall_mem_cons.mpr ⟨List.mem_of_getElem? (i := 6) rfl, List.forall_mem_cons.mpr ⟨List.mem_of_getElem? (i := 7) rfl, List.forall_mem_cons.mpr ⟨List.mem_of_getElem? (i := 8) rfl, List.forall_mem_cons.mpr ⟨List.mem_of_getElem? (i := 1) rfl, List.forall_mem_cons.mpr ⟨List.mem_of_getElem? (i := 0) rfl, fun _ h => nomatch h⟩⟩⟩⟩⟩⟩⟩⟩⟩) ?_
                exact ihJ31 _ (MN.lt hmnn32 (by omega) (by omega)) lg47 x48 rfl (by omega) (by omega)
            refine k_istore C (lw := [(9, .int x30), (0, .ref r0), (1, .ref r1), (2, .int n2), (3, .int n3), (4, .ref r4), (5, .int x3), (6, .int x13), (7, .long lg25)]) rfl rfl (Nat.le_of_ble_eq_true rfl) rfl ?_
            refine k_sub S [(0, .ref r0), (1, .ref r1), (2, .int n2), (3, .int n3), (4, .ref r4), (5, .int x3), (6, .int x13), (7, .long lg25), (9, .int x30)] (List.forall_mem_cons.mpr ⟨List.mem_of_getElem? (i := 1) rfl, List.forall_mem_cons.mpr ⟨List.mem_of_getElem? (i := 2) rfl, List.forall_mem_cons.mpr ⟨List.mem_of_getElem? (i := 3) rfl, List.forall_mem_cons.mpr ⟨List.mem_of_getElem? (i := 4) rfl, List.forall_mem_cons.mpr ⟨List.mem_of_getElem? (i := 5) rfl, List.forall_mem_cons.mpr ⟨List.mem_of_getElem? (i := 6) rfl, List.forall_mem_cons.mpr ⟨List.mem_of_getElem? (i := 7) rfl, List.forall_mem_cons.mpr ⟨List.mem_of_getElem? (i := 8) rfl, List.forall_mem_cons.mpr ⟨List.mem_of_getElem? (i := 0) rfl, fun _ h => nomatch h⟩⟩⟩⟩⟩⟩⟩⟩⟩) ?_
            exact J31 _ lg25 x30 rfl (by omega) (by omega)
          refine k_lload C rfl rfl rfl ?_
          refine k_iload C rfl rfl rfl ?_
          refine k_iload C rfl rfl rfl ?_
          refine z_isub C rfl rfl ⟨by omega, by omega⟩ (fun x49 ex49 => ?_)
          refine k_iload_n C rfl rfl rfl ?_
          refine z_iadd C rfl rfl ⟨by omega, by omega⟩ (fun x50 ex50 => ?_)
          refine k_iload C rfl rfl rfl ?_
          refine z_isub C rfl rfl ⟨by omega, by omega⟩ (fun x51 ex51 => ?_)
          refine z_i2l C rfl rfl (fun lg52 elg52 => ?_)
          refine zt_lmul C rfl rfl (fun lg53 => ?_)
          refine k_lstore C (lw := [(7, .long lg53), (0, .ref r0), (1, .ref r1), (2, .int n2), (3, .int n3), (4, .ref r4), (5, .int x3), (6, .int x13), (9, .int x26)]) rfl rfl (Nat.le_of_ble_eq_true rfl) rfl ?_
          refine z_iinc C (z := 1) (lw := fun x54 => [(9, .int x54), (7, .long lg53), (0, .ref r0), (1, .ref r1), (2, .int n2), (3, .int n3), (4, .ref r4), (5, .int x3), (6, .int x13)]) rfl rfl rfl (Nat.le_of_ble_eq_true rfl) rfl ⟨by omega, by omega⟩ (fun _ => rfl) (fun x54 ex54 => ?_)
          show V 66 [(9, .int x54), (7, .long lg53), (0, .ref r0), (1, .ref r1), (2, .int n2), (3, .int n3), (4, .ref r4), (5, .int x3), (6, .int x13)] _ _ _ _
          refine k_goto C (pc2 := 41) rfl rfl ?_
          refine k_sub S [(0, .ref r0), (1, .ref r1), (2, .int n2), (3, .int n3), (4, .ref r4), (5, .int x3), (6, .int x13), (7, .long lg53), (9, .int x54)] (List.forall_mem_cons.mpr ⟨List.mem_of_getElem? (i := 2) rfl, List.forall_mem_cons.mpr ⟨List.mem_of_getElem? (i := 3) rfl, List.forall_mem_cons.mpr ⟨List.mem_of_getElem? (i := 4) rfl, List.forall_mem_cons.mpr ⟨List.mem_of_getElem? (i := 5) rfl, List.forall_mem_cons.mpr ⟨List.mem_of_getElem? (i := 6) rfl, List.forall_mem_cons.mpr ⟨List.mem_of_getElem? (i := 7) rfl, List.forall_mem_cons.mpr ⟨List.mem_of_getElem? (i := 8) rfl, List.forall_mem_cons.mpr ⟨List.mem_of_getElem? (i := 1) rfl, List.forall_mem_cons.mpr ⟨List.mem_of_getElem? (i := 0) rfl, fun _ h => nomatch h⟩⟩⟩⟩⟩⟩⟩⟩⟩) ?_
          exact ihJ23 _ (MN.lt hmnn24 (by omega) (by omega)) lg53 x54 rfl (by omega) (by omega)
      refine k_istore C (lw := [(9, .int x22), (7, .long lg21), (0, .ref r0), (1, .ref r1), (2, .int n2), (3, .int n3), (4, .ref r4), (5, .int x3), (6, .int x13)]) rfl rfl (Nat.le_of_ble_eq_true rfl) rfl ?_
      refine k_sub S [(0, .ref r0), (1, .ref r1), (2, .int n2), (3, .int n3), (4, .ref r4), (5, .int x3), (6, .int x13), (7, .long lg21), (9, .int x22)] (List.forall_mem_cons.mpr ⟨List.mem_of_getElem? (i := 2) rfl, List.forall_mem_cons.mpr ⟨List.mem_of_getElem? (i := 3) rfl, List.forall_mem_cons.mpr ⟨List.mem_of_getElem? (i := 4) rfl, List.forall_mem_cons.mpr ⟨List.mem_of_getElem? (i := 5) rfl, List.forall_mem_cons.mpr ⟨List.mem_of_getElem? (i := 6) rfl, List.forall_mem_cons.mpr ⟨List.mem_of_getElem? (i := 7) rfl, List.forall_mem_cons.mpr ⟨List.mem_of_getElem? (i := 8) rfl, List.forall_mem_cons.mpr ⟨List.mem_of_getElem? (i := 1) rfl, List.forall_mem_cons.mpr ⟨List.mem_of_getElem? (i := 0) rfl, fun _ h => nomatch h⟩⟩⟩⟩⟩⟩⟩⟩⟩) ?_
      exact J23 _ lg21 x22 rfl (by omega) (by omega)
  refine k_istore C (lw := [(6, .int x8), (5, .int x3), (0, .ref r0), (1, .ref r1), (2, .int n2), (3, .int n3), (4, .ref r4)]) rfl rfl (Nat.le_of_ble_eq_true rfl) rfl ?_
  refine k_sub S [(0, .ref r0), (1, .ref r1), (2, .int n2), (3, .int n3), (4, .ref r4), (5, .int x3), (6, .int x8)] (List.forall_mem_cons.mpr ⟨List.mem_of_getElem? (i := 2) rfl, List.forall_mem_cons.mpr ⟨List.mem_of_getElem? (i := 3) rfl, List.forall_mem_cons.mpr ⟨List.mem_of_getElem? (i := 4) rfl, List.forall_mem_cons.mpr ⟨List.mem_of_getElem? (i := 5) rfl, List.forall_mem_cons.mpr ⟨List.mem_of_getElem? (i := 6) rfl, List.forall_mem_cons.mpr ⟨List.mem_of_getElem? (i := 1) rfl, List.forall_mem_cons.mpr ⟨List.mem_of_getElem? (i := 0) rfl, fun _ h => nomatch h⟩⟩⟩⟩⟩⟩⟩) ?_
  exact J9 _ I5 L6 x8 rfl hI5 Chg.rf (by omega) (by omega)

theorem s_X0_overlapInto {d : Nat} {T N : Nat → Nat} {I : IT} {L : LT} {R : RT} {A B : Nat → Prop} {r0 r1 r2 r4 : Nat} {n3 : Int32} (hS : SUB B A) (hI : IX A T I) (H_r0 : (hs_Al T N R A B) r0) (H_r1 : (hs_F T N R A B) r1) (H_r2 : (hs_F T N R A B) r2) (H_r4 : (hs_G T N R A B) r4) : Ex (d + 4) 22 [.ref r0, .ref r1, .ref r2, .int n3, .ref r4] (T, N, I, L, R) 0 0 (pI T N R (fun x9 I9 L9 => (0 ≤ x9.toInt) ∧ (x9.toInt ≤ 1) ∧ (IX A T I9 ∧ Chg B T [(3, 0)] I L I9 L9))) := by
  refine ⟨_, rfl, Nat.le_of_ble_eq_true rfl, fun V C S => ?_⟩
  show V 0 [(0, .ref r0), (1, .ref r1), (2, .ref r2), (3, .int n3), (4, .ref r4)] [] (T, N, I, L, R) 0 0
  have gn3 := rg n3
  refine k_iload_n C rfl rfl rfl ?_
  refine b_if_lt C (t := 38) rfl rfl rfl (fun c1 => ?_) (fun c1 => ?_)
  · skip
    refine z_iconst C (z := 0) rfl rfl rfl (fun x2 ex2 => ?_)
    exact k_iret C rfl (Or.inr ⟨rfl, z01 (by omega) (by omega)⟩) (Nat.le_of_ble_eq_true rfl) (Nat.le_of_ble_eq_true rfl) ⟨_, _, _, rfl, rfl, by omega, by omega, hI, Chg.rf⟩
  refine k_iload_n C rfl rfl rfl ?_
  refine k_aload_n C rfl rfl rfl ?_
  obtain ⟨T_r1, A_r1, ⟨r1_1, R_r1_1, H_r1_1⟩⟩ := id H_r1
  refine z_gI C rfl rfl rfl T_r1 rfl (fun x3 ex3 => ?_)
  have gx3 := rg x3
  have ox3 := IX.deg hI A_r1 T_r1 ex3
  refine b_icmp_gt C (t := 38) rfl rfl rfl (fun c4 => ?_) (fun c4 => ?_)
  · skip
    refine z_iconst C (z := 0) rfl rfl rfl (fun x5 ex5 => ?_)
    exact k_iret C rfl (Or.inr ⟨rfl, z01 (by omega) (by omega)⟩) (Nat.le_of_ble_eq_true rfl) (Nat.le_of_ble_eq_true rfl) ⟨_, _, _, rfl, rfl, by omega, by omega, hI, Chg.rf⟩
  refine k_iload_n C rfl rfl rfl ?_
  refine k_aload_n C rfl rfl rfl ?_
  obtain ⟨T_r2, A_r2, ⟨r2_1, R_r2_1, H_r2_1⟩⟩ := id H_r2
  refine z_gI C rfl rfl rfl T_r2 rfl (fun x6 ex6 => ?_)
  have gx6 := rg x6
  have ox6 := IX.deg hI A_r2 T_r2 ex6
  refine b_icmp_gt C (t := 38) rfl rfl rfl (fun c7 => ?_) (fun c7 => ?_)
  · skip
    refine z_iconst C (z := 0) rfl rfl rfl (fun x8 ex8 => ?_)
    exact k_iret C rfl (Or.inr ⟨rfl, z01 (by omega) (by omega)⟩) (Nat.le_of_ble_eq_true rfl) (Nat.le_of_ble_eq_true rfl) ⟨_, _, _, rfl, rfl, by omega, by omega, hI, Chg.rf⟩
  refine k_aload_n C rfl rfl rfl ?_
  refine g_I C rfl rfl rfl T_r1 rfl ex3 ?_
  refine k_aload_n C rfl rfl rfl ?_
  refine g_I C rfl rfl rfl T_r2 rfl ex6 ?_
  refine z_iadd C rfl rfl ⟨by omega, by omega⟩ (fun x9 ex9 => ?_)
  refine z_iconst C (z := 2) rfl rfl rfl (fun x10 ex10 => ?_)
  refine k_iload_n C rfl rfl rfl ?_
  refine z_imulL C (c := 2) rfl rfl (by omega) ⟨by omega, by omega⟩ (fun x11 ex11 => ?_)
  refine z_isub C rfl rfl ⟨by omega, by omega⟩ (fun x12 ex12 => ?_)
  refine z_bipush C (z := 40) rfl rfl rfl (fun x13 ex13 => ?_)
  refine b_icmp_le C (t := 40) rfl rfl rfl (fun c14 => ?_) (fun c14 => ?_)
  · skip
    refine k_aload C rfl rfl rfl ?_
    refine k_aload_n C rfl rfl rfl ?_
    refine g_I C rfl rfl rfl T_r1 rfl ex3 ?_
    refine k_aload_n C rfl rfl rfl ?_
    refine g_I C rfl rfl rfl T_r2 rfl ex6 ?_
    refine z_iadd C rfl rfl ⟨by omega, by omega⟩ (fun x15 ex15 => ?_)
    refine z_iconst C (z := 2) rfl rfl rfl (fun x16 ex16 => ?_)
    refine k_iload_n C rfl rfl rfl ?_
    refine z_imulL C (c := 2) rfl rfl (by omega) ⟨by omega, by omega⟩ (fun x17 ex17 => ?_)
    refine z_isub C rfl rfl ⟨by omega, by omega⟩ (fun x18 ex18 => ?_)
    obtain ⟨T_r4, A_r4, B_r4, ⟨r4_1, R_r4_1, H_r4_1⟩⟩ := id H_r4
    refine c_VV C (s_X2_begin hS hI H_r4) rfl rfl rfl rfl rfl ⟨_, rfl, rfl, T_r4, Nat.le_of_ble_eq_true rfl⟩ rfl rfl (Nat.le_of_ble_eq_true rfl) (Nat.le_of_ble_eq_true rfl) (Nat.le_of_ble_eq_true rfl) ?_
    rintro I20 L21 ⟨hI20, S22⟩
    refine z_iconst C (z := 1) rfl rfl rfl (fun x23 ex23 => ?_)
    refine k_istore C (lw := [(5, .int x23), (0, .ref r0), (1, .ref r1), (2, .ref r2), (3, .int n3), (4, .ref r4)]) rfl rfl (Nat.le_of_ble_eq_true rfl) rfl ?_
    refine z_iconst C (z := 0) rfl rfl rfl (fun x24 ex24 => ?_)
    have J25 : ∀ (nn26 : Nat) (I27 : IT) (L28 : LT) (x29 : Int32) (x30 : Int32), (MN (41 - x30.toInt) nn26) → (IX A T I27) → (Chg B T [(3, 0)] I20 L21 I27 L28) → (0 ≤ x30.toInt) → (x30.toInt ≤ 41) → V 64 [(0, .ref r0), (1, .ref r1), (2, .ref r2), (3, .int n3), (4, .ref r4), (5, .int x29), (6, .int x30)] [] (T, N, I27, L28, R) 0 0 := by
      intro nn26
      induction nn26 using Nat.strongRecOn with
      | _ nn26 ihJ25 =>
        intro I27 L28 x29 x30 hmnn26 hI34 S33 b31 b32
        have gx29 := rg x29
        have gx30 := rg x30
        refine k_iload C rfl rfl rfl ?_
        refine k_iload_n C rfl rfl rfl ?_
        refine b_icmp_gt C (t := 149) rfl rfl rfl (fun c35 => ?_) (fun c35 => ?_)
        · skip
          refine z_iconst C (z := 1) rfl rfl rfl (fun x36 ex36 => ?_)
          exact k_iret C rfl (Or.inr ⟨rfl, z01 (by omega) (by omega)⟩) (Nat.le_of_ble_eq_true rfl) (Nat.le_of_ble_eq_true rfl) ⟨_, _, _, rfl, rfl, by omega, by omega, hI34, (Chg.cons S22 (Chg.mono S33 (by decide)) (by decide))⟩
        refine k_aload_n C rfl rfl rfl ?_
        refine k_aload_n C rfl rfl rfl ?_
        refine k_iload_n C rfl rfl rfl ?_
        refine k_iload C rfl rfl rfl ?_
        refine z_isub C rfl rfl ⟨by omega, by omega⟩ (fun x37 ex37 => ?_)
        refine k_iload C rfl rfl rfl ?_
        refine k_aload_n C rfl rfl rfl ?_
        obtain ⟨T_r0, A_r0, B_r0, ⟨r0_0, R_r0_0, H_r0_0⟩, ⟨r0_1, R_r0_1, H_r0_1⟩, ⟨r0_2, R_r0_2, H_r0_2⟩⟩ := id H_r0
        refine g_R C rfl rfl rfl T_r0 rfl R_r0_1 ?_
        refine c_VV C (s_X0_differentiate hS hI34 H_r0 H_r1 (by omega) (by omega) (by omega) (by omega) H_r0_1) rfl rfl rfl rfl rfl ⟨_, rfl, rfl, T_r0, Nat.le_of_ble_eq_true rfl⟩ rfl rfl (Nat.le_of_ble_eq_true rfl) (Nat.le_of_ble_eq_true rfl) (Nat.le_of_ble_eq_true rfl) ?_
        rintro I39 L40 ⟨hI39, S41⟩
        refine k_aload_n C rfl rfl rfl ?_
        refine k_aload_n C rfl rfl rfl ?_
        refine k_iload C rfl rfl rfl ?_
        refine k_iload_n C rfl rfl rfl ?_
        refine k_iload C rfl rfl rfl ?_
        refine z_isub C rfl rfl ⟨by omega, by omega⟩ (fun x42 ex42 => ?_)
        refine k_aload_n C rfl rfl rfl ?_
        refine g_R C rfl rfl rfl T_r0 rfl R_r0_2 ?_
        refine c_VV C (s_X0_differentiate hS hI39 H_r0 H_r2 (by omega) (by omega) (by omega) (by omega) H_r0_2) rfl rfl rfl rfl rfl ⟨_, rfl, rfl, T_r0, Nat.le_of_ble_eq_true rfl⟩ rfl rfl (Nat.le_of_ble_eq_true rfl) (Nat.le_of_ble_eq_true rfl) (Nat.le_of_ble_eq_true rfl) ?_
        rintro I44 L45 ⟨hI44, S46⟩
        refine k_aload_n C rfl rfl rfl ?_
        refine k_aload_n C rfl rfl rfl ?_
        refine g_R C rfl rfl rfl T_r0 rfl R_r0_1 ?_
        refine k_aload_n C rfl rfl rfl ?_
        refine g_R C rfl rfl rfl T_r0 rfl R_r0_2 ?_
        refine k_iload C rfl rfl rfl ?_
        refine z_iconst C (z := 1) rfl rfl rfl (fun x47 ex47 => ?_)
        refine zt_iand C rfl rfl (fun x48 => ?_)
        have gx48 := rg x48
        have J49 : ∀ (x51 : Int32), V 124 [(0, .ref r0), (1, .ref r1), (2, .ref r2), (3, .int n3), (4, .ref r4), (5, .int x29), (6, .int x30)] [.int x51, .ref r0_2, .ref r0_1, .ref r0] (T, N, I44, L45, R) 0 0 := by
          intro x51
          have gx51 := rg x51
          refine k_aload C rfl rfl rfl ?_
          refine c_VV C (s_X0_addProduct hS hI44 H_r0 (hs_GF hS H_r0_1) (hs_GF hS H_r0_2) H_r4) rfl rfl rfl rfl rfl ⟨_, rfl, rfl, T_r0, Nat.le_of_ble_eq_true rfl⟩ rfl rfl (Nat.le_of_ble_eq_true rfl) (Nat.le_of_ble_eq_true rfl) (Nat.le_of_ble_eq_true rfl) ?_
          rintro I53 L54 ⟨hI53, S55⟩
          refine k_iload C rfl rfl rfl ?_
          refine k_iload_n C rfl rfl rfl ?_
          refine k_iload C rfl rfl rfl ?_
          refine z_isub C rfl rfl ⟨by omega, by omega⟩ (fun x56 ex56 => ?_)
          refine zt_imul C rfl rfl (fun x57 => ?_)
          have gx57 := rg x57
          refine k_iload C rfl rfl rfl ?_
          refine z_iconst C (z := 1) rfl rfl rfl (fun x58 ex58 => ?_)
          refine z_iadd C rfl rfl ⟨by omega, by omega⟩ (fun x59 ex59 => ?_)
          refine zt_idiv C rfl rfl (by omega) (fun x60 => ?_)
          have gx60 := rg x60
          refine k_istore C (lw := [(5, .int x60), (0, .ref r0), (1, .ref r1), (2, .ref r2), (3, .int n3), (4, .ref r4), (6, .int x30)]) rfl rfl (Nat.le_of_ble_eq_true rfl) rfl ?_
          refine z_iinc C (z := 1) (lw := fun x61 => [(6, .int x61), (5, .int x60), (0, .ref r0), (1, .ref r1), (2, .ref r2), (3, .int n3), (4, .ref r4)]) rfl rfl rfl (Nat.le_of_ble_eq_true rfl) rfl ⟨by omega, by omega⟩ (fun _ => rfl) (fun x61 ex61 => ?_)
          show V 146 [(6, .int x61), (5, .int x60), (0, .ref r0), (1, .ref r1), (2, .ref r2), (3, .int n3), (4, .ref r4)] _ _ _ _
          refine k_goto C (pc2 := 64) rfl rfl ?_
          refine k_sub S [(0, .ref r0), (1, .ref r1), (2, .ref r2), (3, .int n3), (4, .ref r4), (5, .int x60), (6, .int x61)] (List.forall_mem_cons.mpr ⟨List.mem_of_getElem? (i := 2) rfl, List.forall_mem_cons.mpr ⟨List.mem_of_getElem? (i := 3) rfl, List.forall_mem_cons.mpr ⟨List.mem_of_getElem? (i := 4) rfl, List.forall_mem_cons.mpr ⟨List.mem_of_getElem? (i := 5) rfl, List.forall_mem_cons.mpr ⟨List.mem_of_getElem? (i := 6) rfl, List.forall_mem_cons.mpr ⟨List.mem_of_getElem? (i := 1) rfl, List.forall_mem_cons.mpr ⟨List.mem_of_getElem? (i := 0) rfl, fun _ h => nomatch h⟩⟩⟩⟩⟩⟩⟩) ?_
          exact ihJ25 _ (MN.lt hmnn26 (by omega) (by omega)) I53 L54 x60 x61 rfl hI53 (Chg.cons S33 (Chg.cons S41 (Chg.cons S46 (Chg.mono S55 (by decide)) (by decide)) (by decide)) (by decide)) (by omega) (by omega)
        refine b_if_ne C (t := 121) rfl rfl rfl (fun c62 => ?_) (fun c62 => ?_)
        · skip
          refine k_iload C rfl rfl rfl ?_
          refine zt_ineg C rfl rfl (fun x63 => ?_)
          have gx63 := rg x63
          refine k_sub S [(0, .ref r0), (1, .ref r1), (2, .ref r2), (3, .int n3), (4, .ref r4), (5, .int x29), (6, .int x30)] (List.forall_mem_cons.mpr ⟨List.mem_of_getElem? (i := 0) rfl, List.forall_mem_cons.mpr ⟨List.mem_of_getElem? (i := 1) rfl, List.forall_mem_cons.mpr ⟨List.mem_of_getElem? (i := 2) rfl, List.forall_mem_cons.mpr ⟨List.mem_of_getElem? (i := 3) rfl, List.forall_mem_cons.mpr ⟨List.mem_of_getElem? (i := 4) rfl, List.forall_mem_cons.mpr ⟨List.mem_of_getElem? (i := 5) rfl, List.forall_mem_cons.mpr ⟨List.mem_of_getElem? (i := 6) rfl, fun _ h => nomatch h⟩⟩⟩⟩⟩⟩⟩) ?_
          exact J49 x63
        refine k_iload C rfl rfl rfl ?_
        refine k_goto C (pc2 := 124) rfl rfl ?_
        refine k_sub S [(0, .ref r0), (1, .ref r1), (2, .ref r2), (3, .int n3), (4, .ref r4), (5, .int x29), (6, .int x30)] (List.forall_mem_cons.mpr ⟨List.mem_of_getElem? (i := 0) rfl, List.forall_mem_cons.mpr ⟨List.mem_of_getElem? (i := 1) rfl, List.forall_mem_cons.mpr ⟨List.mem_of_getElem? (i := 2) rfl, List.forall_mem_cons.mpr ⟨List.mem_of_getElem? (i := 3) rfl, List.forall_mem_cons.mpr ⟨List.mem_of_getElem? (i := 4) rfl, List.forall_mem_cons.mpr ⟨List.mem_of_getElem? (i := 5) rfl, List.forall_mem_cons.mpr ⟨List.mem_of_getElem? (i := 6) rfl, fun _ h => nomatch h⟩⟩⟩⟩⟩⟩⟩) ?_
        exact J49 x29
    refine k_istore C (lw := [(6, .int x24), (5, .int x23), (0, .ref r0), (1, .ref r1), (2, .ref r2), (3, .int n3), (4, .ref r4)]) rfl rfl (Nat.le_of_ble_eq_true rfl) rfl ?_
    refine k_sub S [(0, .ref r0), (1, .ref r1), (2, .ref r2), (3, .int n3), (4, .ref r4), (5, .int x23), (6, .int x24)] (List.forall_mem_cons.mpr ⟨List.mem_of_getElem? (i := 2) rfl, List.forall_mem_cons.mpr ⟨List.mem_of_getElem? (i := 3) rfl, List.forall_mem_cons.mpr ⟨List.mem_of_getElem? (i := 4) rfl, List.forall_mem_cons.mpr ⟨List.mem_of_getElem? (i := 5) rfl, List.forall_mem_cons.mpr ⟨List.mem_of_getElem? (i := 6) rfl, List.forall_mem_cons.mpr ⟨List.mem_of_getElem? (i := 1) rfl, List.forall_mem_cons.mpr ⟨List.mem_of_getElem? (i := 0) rfl, fun _ h => nomatch h⟩⟩⟩⟩⟩⟩⟩) ?_
    exact J25 _ I20 L21 x23 x24 rfl hI20 Chg.rf (by omega) (by omega)
  refine z_iconst C (z := 0) rfl rfl rfl (fun x64 ex64 => ?_)
  exact k_iret C rfl (Or.inr ⟨rfl, z01 (by omega) (by omega)⟩) (Nat.le_of_ble_eq_true rfl) (Nat.le_of_ble_eq_true rfl) ⟨_, _, _, rfl, rfl, by omega, by omega, hI, Chg.rf⟩

theorem s_X2_first {d : Nat} {T N : Nat → Nat} {I : IT} {L : LT} {R : RT} {A B : Nat → Prop} {r0 : Nat} (hS : SUB B A) (hI : IX A T I) (H_r0 : (hs_F T N R A B) r0) : Ex (d + 2) 23 [.ref r0] (T, N, I, L, R) 0 0 (pI T N R (fun x9 I9 L9 => (-1 ≤ x9.toInt) ∧ (x9.toInt ≤ 40) ∧ (x9.toInt ≤ (I r0 0).toInt) ∧ (I = I9 ∧ L = L9))) := by
  refine ⟨_, rfl, Nat.le_of_ble_eq_true rfl, fun V C S => ?_⟩
  show V 0 [(0, .ref r0)] [] (T, N, I, L, R) 0 0
  obtain ⟨T_r0, A_r0, ⟨r0_1, R_r0_1, H_r0_1⟩⟩ := id H_r0
  obtain ⟨w_r0_0, k0_r0_0⟩ : ∃ x, I r0 0 = x := ⟨_, rfl⟩
  have gw_r0_0 := rg w_r0_0
  have ow_r0_0 := IX.deg hI A_r0 T_r0 k0_r0_0
  refine z_iconst C (z := 0) rfl rfl rfl (fun x1 ex1 => ?_)
  have J2 : ∀ (nn3 : Nat) (x4 : Int32), (MN (41 - x4.toInt) nn3) → (0 ≤ x4.toInt) → (x4.toInt ≤ 41) → V 2 [(0, .ref r0), (1, .int x4)] [] (T, N, I, L, R) 0 0 := by
    intro nn3
    induction nn3 using Nat.strongRecOn with
    | _ nn3 ihJ2 =>
      intro x4 hmnn3 b5 b6
      have gx4 := rg x4
      refine k_iload_n C rfl rfl rfl ?_
      refine k_aload_n C rfl rfl rfl ?_
      refine g_I C rfl rfl rfl T_r0 rfl k0_r0_0 ?_
      refine b_icmp_gt C (t := 26) rfl rfl rfl (fun c7 => ?_) (fun c7 => ?_)
      · skip
        refine z_iconst C (z := -1) rfl rfl rfl (fun x8 ex8 => ?_)
        exact k_iret C rfl (Or.inl rfl) (Nat.le_of_ble_eq_true rfl) (Nat.le_of_ble_eq_true rfl) ⟨_, _, _, rfl, rfl, by omega, by omega, by first | omega | (simp only [k0_r0_0] <;> omega), rfl, rfl⟩
      refine k_aload_n C rfl rfl rfl ?_
      refine k_iload_n C rfl rfl rfl ?_
      refine c_VI C (s_X2_get hS hI H_r0) rfl rfl rfl rfl rfl ⟨_, rfl, rfl, T_r0, Nat.le_of_ble_eq_true rfl⟩ rfl rfl (Nat.le_of_ble_eq_true rfl) (Nat.le_of_ble_eq_true rfl) (Nat.le_of_ble_eq_true rfl) ?_
      rintro x9 _ _ ⟨rfl, rfl⟩
      have gx9 := rg x9
      refine b_if_eq C (t := 20) rfl rfl rfl (fun c10 => ?_) (fun c10 => ?_)
      · skip
        refine z_iinc C (z := 1) (lw := fun x11 => [(1, .int x11), (0, .ref r0)]) rfl rfl rfl (Nat.le_of_ble_eq_true rfl) rfl ⟨by omega, by omega⟩ (fun _ => rfl) (fun x11 ex11 => ?_)
        show V 23 [(1, .int x11), (0, .ref r0)] _ _ _ _
        refine k_goto C (pc2 := 2) rfl rfl ?_
        refine k_sub S [(0, .ref r0), (1, .int x11)] (List.forall_mem_cons.mpr ⟨List.mem_of_getElem? (i := 1) rfl, List.forall_mem_cons.mpr ⟨List.mem_of_getElem? (i := 0) rfl, fun _ h => nomatch h⟩⟩) ?_
        exact ihJ2 _ (MN.lt hmnn3 (by omega) (by omega)) x11 rfl (by omega) (by omega)
      refine k_iload_n C rfl rfl rfl ?_
      exact k_iret C rfl (Or.inl rfl) (Nat.le_of_ble_eq_true rfl) (Nat.le_of_ble_eq_true rfl) ⟨_, _, _, rfl, rfl, by omega, by omega, by first | omega | (simp only [k0_r0_0] <;> omega), rfl, rfl⟩
  refine k_istore_n C (lw := [(1, .int x1), (0, .ref r0)]) rfl rfl (Nat.le_of_ble_eq_true rfl) rfl ?_
  refine k_sub S [(0, .ref r0), (1, .int x1)] (List.forall_mem_cons.mpr ⟨List.mem_of_getElem? (i := 1) rfl, List.forall_mem_cons.mpr ⟨List.mem_of_getElem? (i := 0) rfl, fun _ h => nomatch h⟩⟩) ?_
  exact J2 _ x1 rfl (by omega) (by omega)

theorem s_X2_copyFrom {d : Nat} {T N : Nat → Nat} {I : IT} {L : LT} {R : RT} {A B : Nat → Prop} {r0 r1 : Nat} (hS : SUB B A) (hI : IX A T I) (H_r0 : (hs_G T N R A B) r0) (H_r1 : (hs_F T N R A B) r1) : Ex (d + 2) 24 [.ref r0, .ref r1] (T, N, I, L, R) 0 0 (pV T N R (fun I9 L9 => (I9 r0 0 = I r1 0) ∧ (I9 r1 0 = I r1 0) ∧ (IX A T I9 ∧ Chg B T [(3, 0)] I L I9 L9))) := by
  refine ⟨_, rfl, Nat.le_of_ble_eq_true rfl, fun V C S => ?_⟩
  show V 0 [(0, .ref r0), (1, .ref r1)] [] (T, N, I, L, R) 0 0
  obtain ⟨T_r1, A_r1, ⟨r1_1, R_r1_1, H_r1_1⟩⟩ := id H_r1
  obtain ⟨w_r1_0, k0_r1_0⟩ : ∃ x, I r1 0 = x := ⟨_, rfl⟩
  have gw_r1_0 := rg w_r1_0
  have ow_r1_0 := IX.deg hI A_r1 T_r1 k0_r1_0
  refine k_aload_n C rfl rfl rfl ?_
  refine k_aload_n C rfl rfl rfl ?_
  refine g_I C rfl rfl rfl T_r1 rfl k0_r1_0 ?_
  obtain ⟨T_r0, A_r0, B_r0, ⟨r0_1, R_r0_1, H_r0_1⟩⟩ := id H_r0
  refine z_pI C rfl rfl rfl T_r0 (Or.inr rfl) rfl (fun I1 uI1 => ?_)
  have hI1 : IX A T I1 := IX.f hI T_r0 ⟨fun _ _ => ⟨by omega, by omega⟩, fun h => absurd h (by decide)⟩ uI1
  have S2 : Chg B T [(3, 0)] I L I1 L := Chg.f B_r0 T_r0 uI1
  have e3 := u2_v uI1 k0_r1_0
  have e4 := u2_e uI1
  refine z_iconst C (z := 0) rfl rfl rfl (fun x5 ex5 => ?_)
  have J6 : ∀ (nn7 : Nat) (I8 : IT) (L9 : LT) (x10 : Int32), (MN (41 - x10.toInt) nn7) → (IX A T I8) → (Chg B T [] I1 L I8 L9) → (0 ≤ x10.toInt) → (x10.toInt ≤ 41) → V 10 [(0, .ref r0), (1, .ref r1), (2, .int x10)] [] (T, N, I8, L9, R) 0 0 := by
    intro nn7
    induction nn7 using Nat.strongRecOn with
    | _ nn7 ihJ6 =>
      intro I8 L9 x10 hmnn7 hI14 S13 b11 b12
      have gx10 := rg x10
      have e15 := Chg.k S13 T_r1 (by decide) (by decide) e3
      have e16 := Chg.k S13 T_r0 (by decide) (by decide) e4
      refine k_iload_n C rfl rfl rfl ?_
      refine k_aload_n C rfl rfl rfl ?_
      refine g_I C rfl rfl rfl T_r0 rfl e16 ?_
      refine b_icmp_gt C (t := 34) rfl rfl rfl (fun c17 => ?_) (fun c17 => ?_)
      · skip
        exact k_vret C rfl rfl (Nat.le_of_ble_eq_true rfl) (Nat.le_of_ble_eq_true rfl) ⟨_, _, rfl, rfl, by first | omega | (simp only [e15, e16, k0_r1_0] <;> omega), by first | omega | (simp only [e15, e16, k0_r1_0] <;> omega), hI14, (Chg.cons S2 (Chg.mono S13 (by decide)) (by decide))⟩
      refine k_aload_n C rfl rfl rfl ?_
      refine k_iload_n C rfl rfl rfl ?_
      refine k_aload_n C rfl rfl rfl ?_
      refine k_iload_n C rfl rfl rfl ?_
      refine c_VI C (s_X2_get hS hI14 H_r1) rfl rfl rfl rfl rfl ⟨_, rfl, rfl, T_r1, Nat.le_of_ble_eq_true rfl⟩ rfl rfl (Nat.le_of_ble_eq_true rfl) (Nat.le_of_ble_eq_true rfl) (Nat.le_of_ble_eq_true rfl) ?_
      rintro x18 _ _ ⟨rfl, rfl⟩
      have gx18 := rg x18
      refine c_VV C (s_X2_set hS hI14 H_r0) rfl rfl rfl rfl rfl ⟨_, rfl, rfl, T_r0, Nat.le_of_ble_eq_true rfl⟩ rfl rfl (Nat.le_of_ble_eq_true rfl) (Nat.le_of_ble_eq_true rfl) (Nat.le_of_ble_eq_true rfl) ?_
      rintro I20 L21 ⟨hI20, S22⟩
      have e23 := Chg.k S22 T_r1 (by decide) (by decide) e15
      have e24 := Chg.k S22 T_r0 (by decide) (by decide) e16
      refine z_iinc C (z := 1) (lw := fun x25 => [(2, .int x25), (0, .ref r0), (1, .ref r1)]) rfl rfl rfl (Nat.le_of_ble_eq_true rfl) rfl ⟨by omega, by omega⟩ (fun _ => rfl) (fun x25 ex25 => ?_)
      show V 31 [(2, .int x25), (0, .ref r0), (1, .ref r1)] _ _ _ _
      refine k_goto C (pc2 := 10) rfl rfl ?_
      refine k_sub S [(0, .ref r0), (1, .ref r1), (2, .int x25)] (List.forall_mem_cons.mpr ⟨List.mem_of_getElem? (i := 1) rfl, List.forall_mem_cons.mpr ⟨List.mem_of_getElem? (i := 2) rfl, List.forall_mem_cons.mpr ⟨List.mem_of_getElem? (i := 0) rfl, fun _ h => nomatch h⟩⟩⟩) ?_
      exact ihJ6 _ (MN.lt hmnn7 (by omega) (by omega)) I20 L21 x25 rfl hI20 (Chg.cons S13 (Chg.mono S22 (by decide)) (by decide)) (by omega) (by omega)
  refine k_istore_n C (lw := [(2, .int x5), (0, .ref r0), (1, .ref r1)]) rfl rfl (Nat.le_of_ble_eq_true rfl) rfl ?_
  refine k_sub S [(0, .ref r0), (1, .ref r1), (2, .int x5)] (List.forall_mem_cons.mpr ⟨List.mem_of_getElem? (i := 1) rfl, List.forall_mem_cons.mpr ⟨List.mem_of_getElem? (i := 2) rfl, List.forall_mem_cons.mpr ⟨List.mem_of_getElem? (i := 0) rfl, fun _ h => nomatch h⟩⟩⟩) ?_
  exact J6 _ I1 L x5 rfl hI1 Chg.rf (by omega) (by omega)

theorem s_X0_dropRoot {d : Nat} {T N : Nat → Nat} {I : IT} {L : LT} {R : RT} {A B : Nat → Prop} {r0 r1 : Nat} {n2 : Int32} (hS : SUB B A) (hI : IX A T I) (H_r0 : (hs_Al T N R A B) r0) (H_r1 : (hs_G T N R A B) r1) (hp0 : 1 ≤ (I r1 0).toInt) : Ex (d + 2) 25 [.ref r0, .ref r1, .int n2] (T, N, I, L, R) 0 0 (pV T N R (fun I9 L9 => ((I9 r1 0).toInt = (I r1 0).toInt - 1) ∧ (IX A T I9 ∧ Chg B T [(3, 0)] I L I9 L9))) := by
  refine ⟨_, rfl, Nat.le_of_ble_eq_true rfl, fun V C S => ?_⟩
  show V 0 [(0, .ref r0), (1, .ref r1), (2, .int n2)] [] (T, N, I, L, R) 0 0
  have gn2 := rg n2
  obtain ⟨T_r1, A_r1, B_r1, ⟨r1_1, R_r1_1, H_r1_1⟩⟩ := id H_r1
  obtain ⟨w_r1_0, k0_r1_0⟩ : ∃ x, I r1 0 = x := ⟨_, rfl⟩
  have gw_r1_0 := rg w_r1_0
  have ow_r1_0 := IX.deg hI A_r1 T_r1 k0_r1_0
  try simp only [k0_r1_0] at hp0
  refine z_iconst C (z := 1) rfl rfl rfl (fun x1 ex1 => ?_)
  have J2 : ∀ (nn3 : Nat) (I4 : IT) (L5 : LT) (x6 : Int32), (MN (40 - x6.toInt) nn3) → (IX A T I4) → (Chg B T [] I L I4 L5) → (1 ≤ x6.toInt) → (x6.toInt ≤ 40) → V 2 [(0, .ref r0), (1, .ref r1), (2, .int n2), (3, .int x6)] [] (T, N, I4, L5, R) 0 0 := by
    intro nn3
    induction nn3 using Nat.strongRecOn with
    | _ nn3 ihJ2 =>
      intro I4 L5 x6 hmnn3 hI10 S9 b7 b8
      have gx6 := rg x6
      have e11 := Chg.k S9 T_r1 (by decide) (by decide) k0_r1_0
      refine k_iload_n C rfl rfl rfl ?_
      refine k_aload_n C rfl rfl rfl ?_
      refine g_I C rfl rfl rfl T_r1 rfl e11 ?_
      refine b_icmp_ge C (t := 41) rfl rfl rfl (fun c12 => ?_) (fun c12 => ?_)
      · skip
        refine k_aload_n C rfl rfl rfl ?_
        refine k_dup C rfl rfl rfl ?_
        refine g_I C rfl rfl rfl T_r1 rfl e11 ?_
        refine z_iconst C (z := 1) rfl rfl rfl (fun x13 ex13 => ?_)
        refine z_isub C rfl rfl ⟨by omega, by omega⟩ (fun x14 ex14 => ?_)
        refine z_pI C rfl rfl rfl T_r1 (Or.inr rfl) rfl (fun I15 uI15 => ?_)
        have hI15 : IX A T I15 := IX.f hI10 T_r1 ⟨fun _ _ => ⟨by omega, by omega⟩, fun h => absurd h (by decide)⟩ uI15
        have S16 : Chg B T [(3, 0)] I4 L5 I15 L5 := Chg.f B_r1 T_r1 uI15
        have e17 := u2_e uI15
        exact k_vret C rfl rfl (Nat.le_of_ble_eq_true rfl) (Nat.le_of_ble_eq_true rfl) ⟨_, _, rfl, rfl, by first | omega | (simp only [e17, k0_r1_0] <;> omega), hI15, (Chg.cons S9 (Chg.mono S16 (by decide)) (by decide))⟩
      refine k_aload_n C rfl rfl rfl ?_
      refine k_iload_n C rfl rfl rfl ?_
      refine k_aload_n C rfl rfl rfl ?_
      refine k_aload_n C rfl rfl rfl ?_
      refine k_iload_n C rfl rfl rfl ?_
      refine c_VI C (s_X2_get hS hI10 (hs_GF hS H_r1)) rfl rfl rfl rfl rfl ⟨_, rfl, rfl, T_r1, Nat.le_of_ble_eq_true rfl⟩ rfl rfl (Nat.le_of_ble_eq_true rfl) (Nat.le_of_ble_eq_true rfl) (Nat.le_of_ble_eq_true rfl) ?_
      rintro x18 _ _ ⟨rfl, rfl⟩
      have gx18 := rg x18
      refine k_aload_n C rfl rfl rfl ?_
      refine k_iload_n C rfl rfl rfl ?_
      refine z_iconst C (z := 1) rfl rfl rfl (fun x19 ex19 => ?_)
      refine z_isub C rfl rfl ⟨by omega, by omega⟩ (fun x20 ex20 => ?_)
      refine c_VI C (s_X2_get hS hI10 (hs_GF hS H_r1)) rfl rfl rfl rfl rfl ⟨_, rfl, rfl, T_r1, Nat.le_of_ble_eq_true rfl⟩ rfl rfl (Nat.le_of_ble_eq_true rfl) (Nat.le_of_ble_eq_true rfl) (Nat.le_of_ble_eq_true rfl) ?_
      rintro x21 _ _ ⟨rfl, rfl⟩
      have gx21 := rg x21
      refine k_iload_n C rfl rfl rfl ?_
      refine zt_imul C rfl rfl (fun x22 => ?_)
      have gx22 := rg x22
      refine zt_iadd C rfl rfl (fun x23 => ?_)
      have gx23 := rg x23
      refine z_i2l C rfl rfl (fun lg24 elg24 => ?_)
      obtain ⟨T_r0, A_r0, B_r0, ⟨r0_0, R_r0_0, H_r0_0⟩, ⟨r0_1, R_r0_1, H_r0_1⟩, ⟨r0_2, R_r0_2, H_r0_2⟩⟩ := id H_r0
      refine c_VI C (s_X0_of hS hI10 H_r0) rfl rfl rfl rfl rfl ⟨_, rfl, rfl, T_r0, Nat.le_of_ble_eq_true rfl⟩ rfl rfl (Nat.le_of_ble_eq_true rfl) (Nat.le_of_ble_eq_true rfl) (Nat.le_of_ble_eq_true rfl) ?_
      rintro x25 _ _ ⟨rfl, rfl⟩
      have gx25 := rg x25
      refine c_VV C (s_X2_set hS hI10 H_r1) rfl rfl rfl rfl rfl ⟨_, rfl, rfl, T_r1, Nat.le_of_ble_eq_true rfl⟩ rfl rfl (Nat.le_of_ble_eq_true rfl) (Nat.le_of_ble_eq_true rfl) (Nat.le_of_ble_eq_true rfl) ?_
      rintro I27 L28 ⟨hI27, S29⟩
      have e30 := Chg.k S29 T_r1 (by decide) (by decide) e11
      refine z_iinc C (z := 1) (lw := fun x31 => [(3, .int x31), (0, .ref r0), (1, .ref r1), (2, .int n2)]) rfl rfl rfl (Nat.le_of_ble_eq_true rfl) rfl ⟨by omega, by omega⟩ (fun _ => rfl) (fun x31 ex31 => ?_)
      show V 38 [(3, .int x31), (0, .ref r0), (1, .ref r1), (2, .int n2)] _ _ _ _
      refine k_goto C (pc2 := 2) rfl rfl ?_
      refine k_sub S [(0, .ref r0), (1, .ref r1), (2, .int n2), (3, .int x31)] (List.forall_mem_cons.mpr ⟨List.mem_of_getElem? (i := 1) rfl, List.forall_mem_cons.mpr ⟨List.mem_of_getElem? (i := 2) rfl, List.forall_mem_cons.mpr ⟨List.mem_of_getElem? (i := 3) rfl, List.forall_mem_cons.mpr ⟨List.mem_of_getElem? (i := 0) rfl, fun _ h => nomatch h⟩⟩⟩⟩) ?_
      exact ihJ2 _ (MN.lt hmnn3 (by omega) (by omega)) I27 L28 x31 rfl hI27 (Chg.cons S9 (Chg.mono S29 (by decide)) (by decide)) (by omega) (by omega)
  refine k_istore_n C (lw := [(3, .int x1), (0, .ref r0), (1, .ref r1), (2, .int n2)]) rfl rfl (Nat.le_of_ble_eq_true rfl) rfl ?_
  refine k_sub S [(0, .ref r0), (1, .ref r1), (2, .int n2), (3, .int x1)] (List.forall_mem_cons.mpr ⟨List.mem_of_getElem? (i := 1) rfl, List.forall_mem_cons.mpr ⟨List.mem_of_getElem? (i := 2) rfl, List.forall_mem_cons.mpr ⟨List.mem_of_getElem? (i := 3) rfl, List.forall_mem_cons.mpr ⟨List.mem_of_getElem? (i := 0) rfl, fun _ h => nomatch h⟩⟩⟩⟩) ?_
  exact J2 _ I L x1 rfl hI Chg.rf (by omega) (by omega)

theorem s_X0_howOften {d : Nat} {T N : Nat → Nat} {I : IT} {L : LT} {R : RT} {A B : Nat → Prop} {r0 r1 : Nat} {n2 : Int32} (hS : SUB B A) (hI : IX A T I) (H_r0 : (hs_Al T N R A B) r0) (H_r1 : (hs_F T N R A B) r1) : Ex (d + 3) 26 [.ref r0, .ref r1, .int n2] (T, N, I, L, R) 0 0 (pI T N R (fun x9 I9 L9 => (0 ≤ x9.toInt) ∧ (x9.toInt ≤ 99) ∧ (IX A T I9 ∧ Chg B T [(3, 0)] I L I9 L9))) := by
  refine ⟨_, rfl, Nat.le_of_ble_eq_true rfl, fun V C S => ?_⟩
  show V 0 [(0, .ref r0), (1, .ref r1), (2, .int n2)] [] (T, N, I, L, R) 0 0
  have gn2 := rg n2
  obtain ⟨T_r1, A_r1, ⟨r1_1, R_r1_1, H_r1_1⟩⟩ := id H_r1
  obtain ⟨w_r1_0, k0_r1_0⟩ : ∃ x, I r1 0 = x := ⟨_, rfl⟩
  have gw_r1_0 := rg w_r1_0
  have ow_r1_0 := IX.deg hI A_r1 T_r1 k0_r1_0
  refine k_aload_n C rfl rfl rfl ?_
  refine c_VI C (s_X2_first hS hI H_r1) rfl rfl rfl rfl rfl ⟨_, rfl, rfl, T_r1, Nat.le_of_ble_eq_true rfl⟩ rfl rfl (Nat.le_of_ble_eq_true rfl) (Nat.le_of_ble_eq_true rfl) (Nat.le_of_ble_eq_true rfl) ?_
  rintro x1 _ _ ⟨o0x1, o1x1, p0x1, rfl, rfl⟩
  have gx1 := rg x1
  try simp only [k0_r1_0] at p0x1
  try have q0x1 := congrArg Int32.toInt p0x1
  refine k_istore_n C (lw := [(3, .int x1), (0, .ref r0), (1, .ref r1), (2, .int n2)]) rfl rfl (Nat.le_of_ble_eq_true rfl) rfl ?_
  refine k_iload_n C rfl rfl rfl ?_
  refine z_iconst C (z := -1) rfl rfl rfl (fun x2 ex2 => ?_)
  refine b_icmp_ne C (t := 13) rfl rfl rfl (fun c3 => ?_) (fun c3 => ?_)
  · skip
    refine k_iload_n C rfl rfl rfl ?_
    refine k_aload_n C rfl rfl rfl ?_
    obtain ⟨T_r0, A_r0, B_r0, ⟨r0_0, R_r0_0, H_r0_0⟩, ⟨r0_1, R_r0_1, H_r0_1⟩, ⟨r0_2, R_r0_2, H_r0_2⟩⟩ := id H_r0
    refine g_R C rfl rfl rfl T_r0 rfl R_r0_0 ?_
    obtain ⟨T_r0_0, A_r0_0, B_r0_0, ⟨r0_0_6, R_r0_0_6, H_r0_0_6⟩, ⟨r0_0_7, R_r0_0_7, H_r0_0_7⟩, ⟨r0_0_8, R_r0_0_8, H_r0_0_8⟩, ⟨r0_0_9, R_r0_0_9, H_r0_0_9⟩, ⟨r0_0_10, R_r0_0_10, H_r0_0_10⟩⟩ := id H_r0_0
    refine z_gI C rfl rfl rfl T_r0_0 rfl (fun x4 ex4 => ?_)
    have gx4 := rg x4
    have ox4 := IX.p hI A_r0_0 T_r0_0 ex4
    refine b_icmp_ne C (t := 26) rfl rfl rfl (fun c5 => ?_) (fun c5 => ?_)
    · skip
      refine k_aload_n C rfl rfl rfl ?_
      refine g_R C rfl rfl rfl T_r0 rfl R_r0_1 ?_
      refine k_aload_n C rfl rfl rfl ?_
      obtain ⟨T_r0_1, A_r0_1, B_r0_1, ⟨r0_1_1, R_r0_1_1, H_r0_1_1⟩⟩ := id H_r0_1
      refine c_VV C (s_X2_copyFrom hS hI H_r0_1 H_r1) rfl rfl rfl rfl rfl ⟨_, rfl, rfl, T_r0_1, Nat.le_of_ble_eq_true rfl⟩ rfl rfl (Nat.le_of_ble_eq_true rfl) (Nat.le_of_ble_eq_true rfl) (Nat.le_of_ble_eq_true rfl) ?_
      rintro I7 L8 ⟨p0v6, p1v6, hI7, S9⟩
      have e10 := Chg.k S9 T_r0_0 (by decide) (by decide) ex4
      obtain ⟨x11, e12⟩ : ∃ x, I7 r0_1 0 = x := ⟨_, rfl⟩
      have gx11 := rg x11
      have ox11 := IX.deg hI7 A_r0_1 T_r0_1 e12
      obtain ⟨x13, e14⟩ : ∃ x, I7 r1 0 = x := ⟨_, rfl⟩
      have gx13 := rg x13
      have ox13 := IX.deg hI7 A_r1 T_r1 e14
      try simp only [k0_r1_0, ex4, e12, e14] at p0v6
      try have q0v6 := congrArg Int32.toInt p0v6
      try simp only [k0_r1_0, ex4, e12, e14] at p1v6
      try have q1v6 := congrArg Int32.toInt p1v6
      refine k_aload_n C rfl rfl rfl ?_
      refine g_I C rfl rfl rfl T_r1 rfl e14 ?_
      refine k_istore C (lw := [(4, .int x13), (3, .int x1), (0, .ref r0), (1, .ref r1), (2, .int n2)]) rfl rfl (Nat.le_of_ble_eq_true rfl) rfl ?_
      refine z_iconst C (z := 0) rfl rfl rfl (fun x15 ex15 => ?_)
      have J16 : ∀ (nn17 : Nat) (I18 : IT) (L19 : LT) (x20 : Int32) (x25 : Int32), (MN (40 - x20.toInt) nn17) → (IX A T I18) → (Chg B T [(3, 0)] I7 L8 I18 L19) → (0 ≤ x20.toInt) → (x20.toInt ≤ 40) → (I18 r0_1 0 = x25) → (0 ≤ x25.toInt) → (x25.toInt ≤ 40) → (x25.toInt = x13.toInt - x20.toInt) → V 42 [(0, .ref r0), (2, .int n2), (3, .int x20), (4, .int x13)] [] (T, N, I18, L19, R) 0 0 := by
        intro nn17
        induction nn17 using Nat.strongRecOn with
        | _ nn17 ihJ16 =>
          intro I18 L19 x20 x25 hmnn17 hI24 S23 b21 b22 e26 b27 b28 f29
          have gx20 := rg x20
          have gx25 := rg x25
          have e30 := Chg.k S23 T_r0_0 (by decide) (by decide) e10
          refine k_iload_n C rfl rfl rfl ?_
          refine k_iload C rfl rfl rfl ?_
          refine b_icmp_ge C (t := 76) rfl rfl rfl (fun c31 => ?_) (fun c31 => ?_)
          · skip
            refine k_iload_n C rfl rfl rfl ?_
            exact k_iret C rfl (Or.inl rfl) (Nat.le_of_ble_eq_true rfl) (Nat.le_of_ble_eq_true rfl) ⟨_, _, _, rfl, rfl, by omega, by omega, hI24, (Chg.cons S9 (Chg.mono S23 (by decide)) (by decide))⟩
          refine k_aload_n C rfl rfl rfl ?_
          refine k_aload_n C rfl rfl rfl ?_
          refine g_R C rfl rfl rfl T_r0 rfl R_r0_1 ?_
          refine k_iload_n C rfl rfl rfl ?_
          refine z_iconst C (z := 1) rfl rfl rfl (fun x32 ex32 => ?_)
          refine c_VI C (s_X0_worth hS hI24 H_r0 (hs_GF hS H_r0_1)) rfl rfl rfl rfl rfl ⟨_, rfl, rfl, T_r0, Nat.le_of_ble_eq_true rfl⟩ rfl rfl (Nat.le_of_ble_eq_true rfl) (Nat.le_of_ble_eq_true rfl) (Nat.le_of_ble_eq_true rfl) ?_
          rintro x33 _ _ ⟨rfl, rfl⟩
          have gx33 := rg x33
          refine b_if_ne C (t := 76) rfl rfl rfl (fun c34 => ?_) (fun c34 => ?_)
          · skip
            refine k_iload_n C rfl rfl rfl ?_
            exact k_iret C rfl (Or.inl rfl) (Nat.le_of_ble_eq_true rfl) (Nat.le_of_ble_eq_true rfl) ⟨_, _, _, rfl, rfl, by omega, by omega, hI24, (Chg.cons S9 (Chg.mono S23 (by decide)) (by decide))⟩
          refine k_aload_n C rfl rfl rfl ?_
          refine k_aload_n C rfl rfl rfl ?_
          refine g_R C rfl rfl rfl T_r0 rfl R_r0_1 ?_
          refine k_iload_n C rfl rfl rfl ?_
          refine c_VV C (s_X0_dropRoot hS hI24 H_r0 H_r0_1 (by first | omega | (simp only [e30, e26] <;> omega))) rfl rfl rfl rfl rfl ⟨_, rfl, rfl, T_r0, Nat.le_of_ble_eq_true rfl⟩ rfl rfl (Nat.le_of_ble_eq_true rfl) (Nat.le_of_ble_eq_true rfl) (Nat.le_of_ble_eq_true rfl) ?_
          rintro I36 L37 ⟨p0v35, hI36, S38⟩
          have e39 := Chg.k S38 T_r0_0 (by decide) (by decide) e30
          obtain ⟨x40, e41⟩ : ∃ x, I36 r0_1 0 = x := ⟨_, rfl⟩
          have gx40 := rg x40
          have ox40 := IX.deg hI36 A_r0_1 T_r0_1 e41
          try simp only [e30, e26, e41] at p0v35
          try have q0v35 := congrArg Int32.toInt p0v35
          refine z_iinc C (z := 1) (lw := fun x42 => [(3, .int x42), (0, .ref r0), (2, .int n2), (4, .int x13)]) rfl rfl rfl (Nat.le_of_ble_eq_true rfl) rfl ⟨by omega, by omega⟩ (fun _ => rfl) (fun x42 ex42 => ?_)
          show V 73 [(3, .int x42), (0, .ref r0), (2, .int n2), (4, .int x13)] _ _ _ _
          refine k_goto C (pc2 := 42) rfl rfl ?_
          refine k_sub S [(0, .ref r0), (2, .int n2), (3, .int x42), (4, .int x13)] (List.forall_mem_cons.mpr ⟨List.mem_of_getElem? (i := 1) rfl, List.forall_mem_cons.mpr ⟨List.mem_of_getElem? (i := 2) rfl, List.forall_mem_cons.mpr ⟨List.mem_of_getElem? (i := 0) rfl, List.forall_mem_cons.mpr ⟨List.mem_of_getElem? (i := 3) rfl, fun _ h => nomatch h⟩⟩⟩⟩) ?_
          exact ihJ16 _ (MN.lt hmnn17 (by omega) (by omega)) I36 L37 x42 x40 rfl hI36 (Chg.cons S23 (Chg.mono S38 (by decide)) (by decide)) (by omega) (by omega) e41 (by omega) (by omega) (by omega)
      refine k_istore_n C (lw := [(3, .int x15), (4, .int x13), (0, .ref r0), (1, .ref r1), (2, .int n2)]) rfl rfl (Nat.le_of_ble_eq_true rfl) rfl ?_
      refine k_sub S [(0, .ref r0), (2, .int n2), (3, .int x15), (4, .int x13)] (List.forall_mem_cons.mpr ⟨List.mem_of_getElem? (i := 2) rfl, List.forall_mem_cons.mpr ⟨List.mem_of_getElem? (i := 4) rfl, List.forall_mem_cons.mpr ⟨List.mem_of_getElem? (i := 0) rfl, List.forall_mem_cons.mpr ⟨List.mem_of_getElem? (i := 1) rfl, fun _ h => nomatch h⟩⟩⟩⟩) ?_
      exact J16 _ I7 L8 x15 x11 rfl hI7 Chg.rf (by omega) (by omega) e12 (by omega) (by omega) (by omega)
    refine k_iload_n C rfl rfl rfl ?_
    exact k_iret C rfl (Or.inl rfl) (Nat.le_of_ble_eq_true rfl) (Nat.le_of_ble_eq_true rfl) ⟨_, _, _, rfl, rfl, by omega, by omega, hI, Chg.rf⟩
  refine z_bipush C (z := 99) rfl rfl rfl (fun x43 ex43 => ?_)
  exact k_iret C rfl (Or.inl rfl) (Nat.le_of_ble_eq_true rfl) (Nat.le_of_ble_eq_true rfl) ⟨_, _, _, rfl, rfl, by omega, by omega, hI, Chg.rf⟩

theorem s_X2_matches {d : Nat} {T N : Nat → Nat} {I : IT} {L : LT} {R : RT} {A B : Nat → Prop} {r0 r1 : Nat} (hS : SUB B A) (hI : IX A T I) (H_r0 : (hs_F T N R A B) r0) (H_r1 : (hs_F T N R A B) r1) : Ex (d + 2) 27 [.ref r0, .ref r1] (T, N, I, L, R) 0 0 (pI T N R (fun x9 I9 L9 => (0 ≤ x9.toInt) ∧ (x9.toInt ≤ 1) ∧ (I = I9 ∧ L = L9))) := by
  refine ⟨_, rfl, Nat.le_of_ble_eq_true rfl, fun V C S => ?_⟩
  show V 0 [(0, .ref r0), (1, .ref r1)] [] (T, N, I, L, R) 0 0
  refine k_aload_n C rfl rfl rfl ?_
  obtain ⟨T_r0, A_r0, ⟨r0_1, R_r0_1, H_r0_1⟩⟩ := id H_r0
  refine z_gI C rfl rfl rfl T_r0 rfl (fun x1 ex1 => ?_)
  have gx1 := rg x1
  have ox1 := IX.deg hI A_r0 T_r0 ex1
  refine k_aload_n C rfl rfl rfl ?_
  obtain ⟨T_r1, A_r1, ⟨r1_1, R_r1_1, H_r1_1⟩⟩ := id H_r1
  refine z_gI C rfl rfl rfl T_r1 rfl (fun x2 ex2 => ?_)
  have gx2 := rg x2
  have ox2 := IX.deg hI A_r1 T_r1 ex2
  refine b_icmp_ne C (t := 15) rfl rfl rfl (fun c3 => ?_) (fun c3 => ?_)
  · skip
    refine z_iconst C (z := 0) rfl rfl rfl (fun x4 ex4 => ?_)
    refine k_istore_n C (lw := [(2, .int x4), (0, .ref r0), (1, .ref r1)]) rfl rfl (Nat.le_of_ble_eq_true rfl) rfl ?_
    refine z_iconst C (z := 0) rfl rfl rfl (fun x5 ex5 => ?_)
    have J6 : ∀ (nn7 : Nat) (x8 : Int32) (x11 : Int32), (MN (41 - x11.toInt) nn7) → (0 ≤ x8.toInt) → (x8.toInt ≤ 1) → (0 ≤ x11.toInt) → (x11.toInt ≤ 41) → V 19 [(0, .ref r0), (1, .ref r1), (2, .int x8), (3, .int x11)] [] (T, N, I, L, R) 0 0 := by
      intro nn7
      induction nn7 using Nat.strongRecOn with
      | _ nn7 ihJ6 =>
        intro x8 x11 hmnn7 b9 b10 b12 b13
        have gx8 := rg x8
        have gx11 := rg x11
        refine k_iload_n C rfl rfl rfl ?_
        refine b_if_eq C (t := 56) rfl rfl rfl (fun c14 => ?_) (fun c14 => ?_)
        · skip
          refine k_iload_n C rfl rfl rfl ?_
          exact k_iret C rfl (Or.inr ⟨rfl, z01 (by omega) (by omega)⟩) (Nat.le_of_ble_eq_true rfl) (Nat.le_of_ble_eq_true rfl) ⟨_, _, _, rfl, rfl, by omega, by omega, rfl, rfl⟩
        refine k_iload_n C rfl rfl rfl ?_
        refine k_aload_n C rfl rfl rfl ?_
        refine g_I C rfl rfl rfl T_r0 rfl ex1 ?_
        refine b_icmp_gt C (t := 56) rfl rfl rfl (fun c15 => ?_) (fun c15 => ?_)
        · skip
          refine k_iload_n C rfl rfl rfl ?_
          exact k_iret C rfl (Or.inr ⟨rfl, z01 (by omega) (by omega)⟩) (Nat.le_of_ble_eq_true rfl) (Nat.le_of_ble_eq_true rfl) ⟨_, _, _, rfl, rfl, by omega, by omega, rfl, rfl⟩
        refine k_aload_n C rfl rfl rfl ?_
        refine k_iload_n C rfl rfl rfl ?_
        refine c_VI C (s_X2_get hS hI H_r0) rfl rfl rfl rfl rfl ⟨_, rfl, rfl, T_r0, Nat.le_of_ble_eq_true rfl⟩ rfl rfl (Nat.le_of_ble_eq_true rfl) (Nat.le_of_ble_eq_true rfl) (Nat.le_of_ble_eq_true rfl) ?_
        rintro x16 _ _ ⟨rfl, rfl⟩
        have gx16 := rg x16
        refine k_aload_n C rfl rfl rfl ?_
        refine k_iload_n C rfl rfl rfl ?_
        refine c_VI C (s_X2_get hS hI H_r1) rfl rfl rfl rfl rfl ⟨_, rfl, rfl, T_r1, Nat.le_of_ble_eq_true rfl⟩ rfl rfl (Nat.le_of_ble_eq_true rfl) (Nat.le_of_ble_eq_true rfl) (Nat.le_of_ble_eq_true rfl) ?_
        rintro x17 _ _ ⟨rfl, rfl⟩
        have gx17 := rg x17
        refine b_icmp_ne C (t := 48) rfl rfl rfl (fun c18 => ?_) (fun c18 => ?_)
        · skip
          refine z_iconst C (z := 0) rfl rfl rfl (fun x19 ex19 => ?_)
          refine k_istore_n C (lw := [(2, .int x19), (0, .ref r0), (1, .ref r1), (3, .int x11)]) rfl rfl (Nat.le_of_ble_eq_true rfl) rfl ?_
          refine z_iinc C (z := 1) (lw := fun x20 => [(3, .int x20), (2, .int x19), (0, .ref r0), (1, .ref r1)]) rfl rfl rfl (Nat.le_of_ble_eq_true rfl) rfl ⟨by omega, by omega⟩ (fun _ => rfl) (fun x20 ex20 => ?_)
          show V 53 [(3, .int x20), (2, .int x19), (0, .ref r0), (1, .ref r1)] _ _ _ _
          refine k_goto C (pc2 := 19) rfl rfl ?_
          refine k_sub S [(0, .ref r0), (1, .ref r1), (2, .int x19), (3, .int x20)] (List.forall_mem_cons.mpr ⟨List.mem_of_getElem? (i := 2) rfl, List.forall_mem_cons.mpr ⟨List.mem_of_getElem? (i := 3) rfl, List.forall_mem_cons.mpr ⟨List.mem_of_getElem? (i := 1) rfl, List.forall_mem_cons.mpr ⟨List.mem_of_getElem? (i := 0) rfl, fun _ h => nomatch h⟩⟩⟩⟩) ?_
          exact ihJ6 _ (MN.lt hmnn7 (by omega) (by omega)) x19 x20 rfl (by omega) (by omega) (by omega) (by omega)
        refine z_iconst C (z := 1) rfl rfl rfl (fun x21 ex21 => ?_)
        refine k_goto C (pc2 := 49) rfl rfl ?_
        refine k_istore_n C (lw := [(2, .int x21), (0, .ref r0), (1, .ref r1), (3, .int x11)]) rfl rfl (Nat.le_of_ble_eq_true rfl) rfl ?_
        refine z_iinc C (z := 1) (lw := fun x22 => [(3, .int x22), (2, .int x21), (0, .ref r0), (1, .ref r1)]) rfl rfl rfl (Nat.le_of_ble_eq_true rfl) rfl ⟨by omega, by omega⟩ (fun _ => rfl) (fun x22 ex22 => ?_)
        show V 53 [(3, .int x22), (2, .int x21), (0, .ref r0), (1, .ref r1)] _ _ _ _
        refine k_goto C (pc2 := 19) rfl rfl ?_
        refine k_sub S [(0, .ref r0), (1, .ref r1), (2, .int x21), (3, .int x22)] (List.forall_mem_cons.mpr ⟨List.mem_of_getElem? (i := 2) rfl, List.forall_mem_cons.mpr ⟨List.mem_of_getElem? (i := 3) rfl, List.forall_mem_cons.mpr ⟨List.mem_of_getElem? (i := 1) rfl, List.forall_mem_cons.mpr ⟨List.mem_of_getElem? (i := 0) rfl, fun _ h => nomatch h⟩⟩⟩⟩) ?_
        exact ihJ6 _ (MN.lt hmnn7 (by omega) (by omega)) x21 x22 rfl (by omega) (by omega) (by omega) (by omega)
    refine k_istore_n C (lw := [(3, .int x5), (2, .int x4), (0, .ref r0), (1, .ref r1)]) rfl rfl (Nat.le_of_ble_eq_true rfl) rfl ?_
    refine k_sub S [(0, .ref r0), (1, .ref r1), (2, .int x4), (3, .int x5)] (List.forall_mem_cons.mpr ⟨List.mem_of_getElem? (i := 2) rfl, List.forall_mem_cons.mpr ⟨List.mem_of_getElem? (i := 3) rfl, List.forall_mem_cons.mpr ⟨List.mem_of_getElem? (i := 1) rfl, List.forall_mem_cons.mpr ⟨List.mem_of_getElem? (i := 0) rfl, fun _ h => nomatch h⟩⟩⟩⟩) ?_
    exact J6 _ x4 x5 rfl (by omega) (by omega) (by omega) (by omega)
  refine z_iconst C (z := 1) rfl rfl rfl (fun x23 ex23 => ?_)
  refine k_goto C (pc2 := 16) rfl rfl ?_
  refine k_istore_n C (lw := [(2, .int x23), (0, .ref r0), (1, .ref r1)]) rfl rfl (Nat.le_of_ble_eq_true rfl) rfl ?_
  refine z_iconst C (z := 0) rfl rfl rfl (fun x24 ex24 => ?_)
  have J25 : ∀ (nn26 : Nat) (x27 : Int32) (x30 : Int32), (MN (41 - x30.toInt) nn26) → (0 ≤ x27.toInt) → (x27.toInt ≤ 1) → (0 ≤ x30.toInt) → (x30.toInt ≤ 41) → V 19 [(0, .ref r0), (1, .ref r1), (2, .int x27), (3, .int x30)] [] (T, N, I, L, R) 0 0 := by
    intro nn26
    induction nn26 using Nat.strongRecOn with
    | _ nn26 ihJ25 =>
      intro x27 x30 hmnn26 b28 b29 b31 b32
      have gx27 := rg x27
      have gx30 := rg x30
      refine k_iload_n C rfl rfl rfl ?_
      refine b_if_eq C (t := 56) rfl rfl rfl (fun c33 => ?_) (fun c33 => ?_)
      · skip
        refine k_iload_n C rfl rfl rfl ?_
        exact k_iret C rfl (Or.inr ⟨rfl, z01 (by omega) (by omega)⟩) (Nat.le_of_ble_eq_true rfl) (Nat.le_of_ble_eq_true rfl) ⟨_, _, _, rfl, rfl, by omega, by omega, rfl, rfl⟩
      refine k_iload_n C rfl rfl rfl ?_
      refine k_aload_n C rfl rfl rfl ?_
      refine g_I C rfl rfl rfl T_r0 rfl ex1 ?_
      refine b_icmp_gt C (t := 56) rfl rfl rfl (fun c34 => ?_) (fun c34 => ?_)
      · skip
        refine k_iload_n C rfl rfl rfl ?_
        exact k_iret C rfl (Or.inr ⟨rfl, z01 (by omega) (by omega)⟩) (Nat.le_of_ble_eq_true rfl) (Nat.le_of_ble_eq_true rfl) ⟨_, _, _, rfl, rfl, by omega, by omega, rfl, rfl⟩
      refine k_aload_n C rfl rfl rfl ?_
      refine k_iload_n C rfl rfl rfl ?_
      refine c_VI C (s_X2_get hS hI H_r0) rfl rfl rfl rfl rfl ⟨_, rfl, rfl, T_r0, Nat.le_of_ble_eq_true rfl⟩ rfl rfl (Nat.le_of_ble_eq_true rfl) (Nat.le_of_ble_eq_true rfl) (Nat.le_of_ble_eq_true rfl) ?_
      rintro x35 _ _ ⟨rfl, rfl⟩
      have gx35 := rg x35
      refine k_aload_n C rfl rfl rfl ?_
      refine k_iload_n C rfl rfl rfl ?_
      refine c_VI C (s_X2_get hS hI H_r1) rfl rfl rfl rfl rfl ⟨_, rfl, rfl, T_r1, Nat.le_of_ble_eq_true rfl⟩ rfl rfl (Nat.le_of_ble_eq_true rfl) (Nat.le_of_ble_eq_true rfl) (Nat.le_of_ble_eq_true rfl) ?_
      rintro x36 _ _ ⟨rfl, rfl⟩
      have gx36 := rg x36
      refine b_icmp_ne C (t := 48) rfl rfl rfl (fun c37 => ?_) (fun c37 => ?_)
      · skip
        refine z_iconst C (z := 0) rfl rfl rfl (fun x38 ex38 => ?_)
        refine k_istore_n C (lw := [(2, .int x38), (0, .ref r0), (1, .ref r1), (3, .int x30)]) rfl rfl (Nat.le_of_ble_eq_true rfl) rfl ?_
        refine z_iinc C (z := 1) (lw := fun x39 => [(3, .int x39), (2, .int x38), (0, .ref r0), (1, .ref r1)]) rfl rfl rfl (Nat.le_of_ble_eq_true rfl) rfl ⟨by omega, by omega⟩ (fun _ => rfl) (fun x39 ex39 => ?_)
        show V 53 [(3, .int x39), (2, .int x38), (0, .ref r0), (1, .ref r1)] _ _ _ _
        refine k_goto C (pc2 := 19) rfl rfl ?_
        refine k_sub S [(0, .ref r0), (1, .ref r1), (2, .int x38), (3, .int x39)] (List.forall_mem_cons.mpr ⟨List.mem_of_getElem? (i := 2) rfl, List.forall_mem_cons.mpr ⟨List.mem_of_getElem? (i := 3) rfl, List.forall_mem_cons.mpr ⟨List.mem_of_getElem? (i := 1) rfl, List.forall_mem_cons.mpr ⟨List.mem_of_getElem? (i := 0) rfl, fun _ h => nomatch h⟩⟩⟩⟩) ?_
        exact ihJ25 _ (MN.lt hmnn26 (by omega) (by omega)) x38 x39 rfl (by omega) (by omega) (by omega) (by omega)
      refine z_iconst C (z := 1) rfl rfl rfl (fun x40 ex40 => ?_)
      refine k_goto C (pc2 := 49) rfl rfl ?_
      refine k_istore_n C (lw := [(2, .int x40), (0, .ref r0), (1, .ref r1), (3, .int x30)]) rfl rfl (Nat.le_of_ble_eq_true rfl) rfl ?_
      refine z_iinc C (z := 1) (lw := fun x41 => [(3, .int x41), (2, .int x40), (0, .ref r0), (1, .ref r1)]) rfl rfl rfl (Nat.le_of_ble_eq_true rfl) rfl ⟨by omega, by omega⟩ (fun _ => rfl) (fun x41 ex41 => ?_)
      show V 53 [(3, .int x41), (2, .int x40), (0, .ref r0), (1, .ref r1)] _ _ _ _
      refine k_goto C (pc2 := 19) rfl rfl ?_
      refine k_sub S [(0, .ref r0), (1, .ref r1), (2, .int x40), (3, .int x41)] (List.forall_mem_cons.mpr ⟨List.mem_of_getElem? (i := 2) rfl, List.forall_mem_cons.mpr ⟨List.mem_of_getElem? (i := 3) rfl, List.forall_mem_cons.mpr ⟨List.mem_of_getElem? (i := 1) rfl, List.forall_mem_cons.mpr ⟨List.mem_of_getElem? (i := 0) rfl, fun _ h => nomatch h⟩⟩⟩⟩) ?_
      exact ihJ25 _ (MN.lt hmnn26 (by omega) (by omega)) x40 x41 rfl (by omega) (by omega) (by omega) (by omega)
  refine k_istore_n C (lw := [(3, .int x24), (2, .int x23), (0, .ref r0), (1, .ref r1)]) rfl rfl (Nat.le_of_ble_eq_true rfl) rfl ?_
  refine k_sub S [(0, .ref r0), (1, .ref r1), (2, .int x23), (3, .int x24)] (List.forall_mem_cons.mpr ⟨List.mem_of_getElem? (i := 2) rfl, List.forall_mem_cons.mpr ⟨List.mem_of_getElem? (i := 3) rfl, List.forall_mem_cons.mpr ⟨List.mem_of_getElem? (i := 1) rfl, List.forall_mem_cons.mpr ⟨List.mem_of_getElem? (i := 0) rfl, fun _ h => nomatch h⟩⟩⟩⟩) ?_
  exact J25 _ x23 x24 rfl (by omega) (by omega) (by omega) (by omega)

