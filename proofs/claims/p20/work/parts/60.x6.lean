/-! image, back, form, tables: exactly -/
theorem CAL.sl {T : Nat → Nat} {R : RT} {I I1 I2 : IT} {L1 L2 : LT} {W : List (Nat × Nat)} {S : Nat → Prop} {r0 r1 : Nat} {k : Int} (h : CAL R I1 I r0 r1 k) (c : Chg S T W I1 L1 I2 L2) (hS : ∀ a, S a → ¬ OWN R r0 a) : CAL R I2 I r0 r1 k := h.at c (fun a q w => hS a q (Or.inl w))
theorem FLL.sl {T : Nat → Nat} {R : RT} {I I1 I2 : IT} {L1 L2 : LT} {W : List (Nat × Nat)} {S : Nat → Prop} {r0 r1 : Nat} {k : Int} (h : FLL R I1 I r0 r1 k) (c : Chg S T W I1 L1 I2 L2) (hS : ∀ a, S a → ¬ OWN R r0 a) : FLL R I2 I r0 r1 k := h.at c (fun j hj => ⟨fun q => hS _ q (OWN.f rfl hj), fun q => hS _ q (OWN.fb rfl hj)⟩)
theorem TLL.sl {T : Nat → Nat} {R : RT} {I I1 I2 : IT} {L1 L2 : LT} {W : List (Nat × Nat)} {S : Nat → Prop} {r0 r1 : Nat} {k : Int} (h : TLL R I1 I r0 r1 k) (c : Chg S T W I1 L1 I2 L2) (hS : ∀ a, S a → ¬ OWN R r0 a) : TLL R I2 I r0 r1 k := h.at c (fun j hj q => hS _ q (OWN.t rfl hj))
/-- a row's numbers, the first k of them -/
def NMF (I' : IT) (b : Nat) (k : Int) (g : Nat → Int) : Prop := ∀ j : Nat, (j : Int) < k → (I' b j).toInt = g j
theorem NMF.z {I' : IT} {b : Nat} {k : Int} {g : Nat → Int} (h : k = 0) : NMF I' b k g := fun j hj => by omega
theorem NMF.s {I1 I2 : IT} {b : Nat} {k k' x : Int32} {g : Nat → Int} (h : NMF I1 b k.toInt g) (t : STD I1 I2 b k x) (hx : x.toInt = g k.toNatClampNeg) (h0 : 0 ≤ k.toInt) (h41 : k.toInt < 41) (hk : k'.toInt = k.toInt + 1) : NMF I2 b k'.toInt g := fun j hj => by
  have n0 := ncz h0
  rw [t.1 h0 h41]
  by_cases q : j = k.toNatClampNeg
  · subst q; rw [u2_s]; exact hx
  · rw [u2_k q]; exact h j (by omega)
def BYD (x : Int32) (w : Nat → Int32) (k : Int32) : Prop := 0 ≤ k.toInt → k.toInt < 400 → x = w k.toNatClampNeg
theorem BYD.r {x k : Int32} {w : Nat → Int32} (e : w k.toNatClampNeg = x) : BYD x w k := fun _ _ => e.symm
theorem NXD.no {R : RT} {r n : Nat} {c : Int32} {c9 : Int} {P : Nat → Prop} (h : NXD R none r c c9 n) (he : ∀ j, j < n → ∃ f, R r j = some f ∧ P f) (h0 : 0 ≤ c.toInt) : (n : Int) ≤ c.toInt := by
  by_cases q : c.toInt < (n : Int)
  · obtain ⟨f, f1, -⟩ := he c.toNatClampNeg (ncn h0 q)
    have := (h.1 q).1
    rw [f1] at this; cases this
  · omega
theorem NXD.yes {R : RT} {r n b : Nat} {c : Int32} {c9 : Int} (h : NXD R (some b) r c c9 n) (h0 : 0 ≤ c.toInt) : c.toInt < (n : Int) ∧ R r c.toNatClampNeg = some b ∧ c9 = c.toInt + 1 := by
  by_cases q : c.toInt < (n : Int)
  · exact ⟨q, (h.1 q).1.symm, (h.1 q).2⟩
  · have := (h.2 (by omega)).1; cases this
theorem FSB {T : Nat → Nat} {R : RT} {b rd st f : Nat} (hU : UPR T R) (Tb : T b = 20) (Tr : T rd = 5) (Ts : T st = 9) (fF : FO T R f) (Rb : R rd 2 = some b) : ¬ (b = rd ∨ b = st ∨ b = f ∨ b = rA R f 1) := by
  rintro (e | e | e | e)
  · rw [e] at Tb; omega
  · rw [e] at Tb; omega
  · have := fF.1; rw [← e] at this; omega
  · exact hU.ne (t20 Tb) Rb fF.2.1 (Or.inl (fun q => by have := fF.1; rw [← q] at this; omega)) e
theorem BYD.z {x k : Int32} {w : Nat → Int32} (h : k.toInt < 0 ∨ 400 ≤ k.toInt) : BYD x w k := fun h0 h1 => by omega
theorem s_X4_byteAt_x {d : Nat} {T N : Nat → Nat} {I : IT} {L : LT} {R : RT} {A B : Nat → Prop} {r0 : Nat} {n1 : Int32} (hS : SUB B A) (hI : IX A T I) (H_r0 : (hs_Rd T N R A B) r0) : Ex (d + 1) 61 [.ref r0, .int n1] (T, N, I, L, R) 0 0 (pI T N R (fun x9 I9 L9 => (BYD x9 (I (rA R r0 2)) n1) ∧ (I = I9 ∧ L = L9))) := by
  refine ⟨_, rfl, Nat.le_of_ble_eq_true rfl, fun V C S => ?_⟩
  show V 0 [(0, .ref r0), (1, .int n1)] [] (T, N, I, L, R) 0 0
  have gn1 := rg n1
  obtain ⟨T_r0, A_r0, B_r0, ⟨r0_0, R_r0_0, H_r0_0⟩, ⟨r0_2, R_r0_2, H_r0_2⟩⟩ := id H_r0
  have z_r0_0 : rA R r0 0 = r0_0 := rA_e R_r0_0
  have z_r0_2 : rA R r0 2 = r0_2 := rA_e R_r0_2
  obtain ⟨T_r0_2, N_r0_2, A_r0_2⟩ := id H_r0_2
  refine k_iload_n C rfl rfl rfl ?_
  refine b_if_lt C (t := 13) rfl rfl rfl (fun c1 => ?_) (fun c1 => ?_)
  · skip
    refine z_iconst C (z := 0) rfl rfl rfl (fun x2 ex2 => ?_)
    refine k_goto C (pc2 := 23) rfl rfl ?_
    exact k_iret C rfl (Or.inl rfl) (Nat.le_of_ble_eq_true rfl) (Nat.le_of_ble_eq_true rfl) ⟨_, _, _, rfl, rfl, by (try simp only [z_r0_0, z_r0_2]); first | exact BYD.r ex2 | exact BYD.z (by omega), rfl, rfl⟩
  refine k_iload_n C rfl rfl rfl ?_
  refine k_aload_n C rfl rfl rfl ?_
  refine g_R C rfl rfl rfl T_r0 rfl R_r0_2 ?_
  refine z_len C (n := 400) rfl rfl (by rw [T_r0_2]; exact Nat.le_of_ble_eq_true rfl) N_r0_2 (Nat.le_of_ble_eq_true rfl) (fun x3 ex3 => ?_)
  refine b_icmp_lt C (t := 17) rfl rfl rfl (fun c4 => ?_) (fun c4 => ?_)
  · skip
    refine k_aload_n C rfl rfl rfl ?_
    refine g_R C rfl rfl rfl T_r0 rfl R_r0_2 ?_
    refine k_iload_n C rfl rfl rfl ?_
    refine z_aI C rfl rfl T_r0_2 N_r0_2 (by omega) (by omega) (fun x5 ex5 => ?_)
    have gx5 := rg x5
    exact k_iret C rfl (Or.inl rfl) (Nat.le_of_ble_eq_true rfl) (Nat.le_of_ble_eq_true rfl) ⟨_, _, _, rfl, rfl, by (try simp only [z_r0_0, z_r0_2]); first | exact BYD.r ex5 | exact BYD.z (by omega), rfl, rfl⟩
  refine z_iconst C (z := 0) rfl rfl rfl (fun x6 ex6 => ?_)
  refine k_goto C (pc2 := 23) rfl rfl ?_
  exact k_iret C rfl (Or.inl rfl) (Nat.le_of_ble_eq_true rfl) (Nat.le_of_ble_eq_true rfl) ⟨_, _, _, rfl, rfl, by (try simp only [z_r0_0, z_r0_2]); first | exact BYD.r ex6 | exact BYD.z (by omega), rfl, rfl⟩

theorem s_X4_useUp_x {d : Nat} {T N : Nat → Nat} {I : IT} {L : LT} {R : RT} {A B : Nat → Prop} {r0 : Nat} (hS : SUB B A) (hI : IX A T I) (H_r0 : (hs_Rd T N R A B) r0) : Ex (d + 1) 60 [.ref r0] (T, N, I, L, R) 0 0 (pI T N R (fun x9 I9 L9 => (x9.toInt = (I r0 1).toInt) ∧ ((I9 r0 1).toInt = 0) ∧ (IX A T I9 ∧ Chg (SL [r0]) T [(5, 1)] I L I9 L9))) := by
  refine ⟨_, rfl, Nat.le_of_ble_eq_true rfl, fun V C S => ?_⟩
  show V 0 [(0, .ref r0)] [] (T, N, I, L, R) 0 0
  obtain ⟨T_r0, A_r0, B_r0, ⟨r0_0, R_r0_0, H_r0_0⟩, ⟨r0_2, R_r0_2, H_r0_2⟩⟩ := id H_r0
  have z_r0_0 : rA R r0 0 = r0_0 := rA_e R_r0_0
  have z_r0_2 : rA R r0 2 = r0_2 := rA_e R_r0_2
  obtain ⟨w_r0_1, k0_r0_1⟩ : ∃ x, I r0 1 = x := ⟨_, rfl⟩
  have gw_r0_1 := rg w_r0_1
  refine k_aload_n C rfl rfl rfl ?_
  refine g_I C rfl rfl rfl T_r0 rfl k0_r0_1 ?_
  refine k_istore_n C (lw := [(1, .int w_r0_1), (0, .ref r0)]) rfl rfl (Nat.le_of_ble_eq_true rfl) rfl ?_
  refine k_aload_n C rfl rfl rfl ?_
  refine z_iconst C (z := 0) rfl rfl rfl (fun x1 ex1 => ?_)
  refine z_pI C rfl rfl rfl T_r0 (Or.inr rfl) rfl (fun I2 uI2 => ?_)
  have hI2 : IX A T I2 := IX.f hI T_r0 (boX.tr (by decide) (by decide)) uI2
  have S3 : Chg (SL [r0]) T [(5, 1)] I L I2 L := Chg.f List.mem_cons_self T_r0 uI2
  have e4 := u2_e uI2
  refine k_iload_n C rfl rfl rfl ?_
  exact k_iret C rfl (Or.inl rfl) (Nat.le_of_ble_eq_true rfl) (Nat.le_of_ble_eq_true rfl) ⟨_, _, _, rfl, rfl, by first | omega | (simp only [e4, k0_r0_1, and_true, true_and, or_true, true_or, and_false, false_and, or_false, false_or] <;> omega), by first | omega | (simp only [e4, k0_r0_1, and_true, true_and, or_true, true_or, and_false, false_and, or_false, false_or] <;> omega), hI2, (by (try simp only [z_r0_0, z_r0_2]); exact (Chg.mono (Chg.up S3 (List.forall_mem_cons.mpr ⟨List.mem_of_getElem? (i := 0) rfl, fun _ h => nomatch h⟩)) (by decide)))⟩

theorem s_X8_forgetUndone_x {d : Nat} {T N : Nat → Nat} {I : IT} {L : LT} {R : RT} {A B : Nat → Prop} {r0 : Nat} (hS : SUB B A) (hI : IX A T I) (H_r0 : (hs_St T N R A B) r0) : Ex (d + 1) 104 [.ref r0] (T, N, I, L, R) 0 0 (pV T N R (fun I9 L9 => ((I9 r0 5).toInt = 0) ∧ (IX A T I9 ∧ Chg (SL [r0]) T [(9, 5)] I L I9 L9))) := by
  refine ⟨_, rfl, Nat.le_of_ble_eq_true rfl, fun V C S => ?_⟩
  show V 0 [(0, .ref r0)] [] (T, N, I, L, R) 0 0
  obtain ⟨T_r0, A_r0, B_r0, ⟨r0_6, R_r0_6, H_r0_6⟩, ⟨r0_7, R_r0_7, H_r0_7⟩, ⟨r0_8, R_r0_8, H_r0_8⟩, ⟨r0_9, R_r0_9, H_r0_9⟩, ⟨r0_10, R_r0_10, H_r0_10⟩⟩ := id H_r0
  have z_r0_6 : rA R r0 6 = r0_6 := rA_e R_r0_6
  have z_r0_7 : rA R r0 7 = r0_7 := rA_e R_r0_7
  have z_r0_8 : rA R r0 8 = r0_8 := rA_e R_r0_8
  have z_r0_9 : rA R r0 9 = r0_9 := rA_e R_r0_9
  have z_r0_10 : rA R r0 10 = r0_10 := rA_e R_r0_10
  refine k_aload_n C rfl rfl rfl ?_
  refine z_iconst C (z := 0) rfl rfl rfl (fun x1 ex1 => ?_)
  refine z_pI C rfl rfl rfl T_r0 (Or.inr rfl) rfl (fun I2 uI2 => ?_)
  have hI2 : IX A T I2 := IX.f hI T_r0 (boX.tr (by decide) (by decide)) uI2
  have S3 : Chg (SL [r0]) T [(9, 5)] I L I2 L := Chg.f List.mem_cons_self T_r0 uI2
  have e4 := u2_e uI2
  exact k_vret C rfl rfl (Nat.le_of_ble_eq_true rfl) (Nat.le_of_ble_eq_true rfl) ⟨_, _, rfl, rfl, by first | omega | (simp only [e4, and_true, true_and, or_true, true_or, and_false, false_and, or_false, false_or] <;> omega), hI2, (by (try simp only [z_r0_6, z_r0_7, z_r0_8, z_r0_9, z_r0_10]); exact (Chg.mono (Chg.up S3 (List.forall_mem_cons.mpr ⟨List.mem_of_getElem? (i := 0) rfl, fun _ h => nomatch h⟩)) (by decide)))⟩

theorem s_X11_form_x {d : Nat} {T N : Nat → Nat} {I : IT} {L : LT} {R : RT} {A B : Nat → Prop} {r0 : Nat} (hS : SUB B A) (hI : IX A T I) (H_r0 : (hs_LF T N R A B) r0) (hU : UPR T R) (hp0 : 0 ≤ (I (rA R r0 0) 1).toInt) (hp1 : (I (rA R r0 0) 1).toInt ≤ 400) (hp2 : 0 ≤ (I (rA R r0 1) 1).toInt) (hp3 : rA R (rA R r0 5) 0 = (rA R r0 1)) : Ex (d + 4) 129 [.ref r0] (T, N, I, L, R) 1 6 (pW2 [0, 2] T N R (pI T N R (fun x9 I9 L9 => ((I9 (rA R r0 0) 1).toInt = 0) ∧ (1 ≤ (I (rA R r0 0) 1).toInt ∧ (I (rA R r0 0) 1).toInt ≤ 9 ∧ (I (rA R r0 1) 1).toInt < 16 ∧ x9.toInt = (I (rA R r0 1) 1).toInt) ∧ ((I9 (rA R r0 1) 1).toInt = (I (rA R r0 1) 1).toInt + 1) ∧ ((I9 (rA R r0 1) 5).toInt = 0) ∧ ((I9 (FA R (rA R r0 1) (I (rA R r0 1) 1).toNatClampNeg) 0).toInt = (I (rA R r0 0) 1).toInt - 1) ∧ (NMF I9 (rA R (FA R (rA R r0 1) (I (rA R r0 1) 1).toNatClampNeg) 1) (I (rA R r0 0) 1).toInt (fun j => (I (rA R (rA R r0 0) 2) j).toInt % (I (rA R r0 1) 0).toInt)) ∧ (IX A T I9 ∧ Chg (fun a => a = (rA R r0 0) ∨ a = (rA R r0 1) ∨ a = FA R (rA R r0 1) (I (rA R r0 1) 1).toNatClampNeg ∨ a = rA R (FA R (rA R r0 1) (I (rA R r0 1) 1).toNatClampNeg) 1) T [(3, 0), (5, 1), (9, 1), (9, 5)] I L I9 L9))) (fun e9 I9 L9 => (IX A T I9 ∧ Chg (fun a => a = (rA R r0 0) ∨ a = (rA R r0 1) ∨ a = FA R (rA R r0 1) (I (rA R r0 1) 1).toNatClampNeg ∨ a = rA R (FA R (rA R r0 1) (I (rA R r0 1) 1).toNatClampNeg) 1) T [(3, 0), (5, 1), (9, 1), (9, 5)] I L I9 L9) ∧ (e9 = 0 → (I (rA R r0 0) 1).toInt < 1 ∨ 9 < (I (rA R r0 0) 1).toInt) ∧ (e9 = 0 → (I9 (rA R r0 0) 1).toInt = 0) ∧ (e9 = 0 → ∀ a, a ≠ (rA R r0 0) → ∀ k, I9 a k = I a k) ∧ (e9 = 2 → 1 ≤ (I (rA R r0 0) 1).toInt ∧ (I (rA R r0 0) 1).toInt ≤ 9 ∧ 16 ≤ (I (rA R r0 1) 1).toInt) ∧ (e9 = 2 → (I9 (rA R r0 0) 1).toInt = 0) ∧ (e9 = 2 → ∀ a, a ≠ (rA R r0 0) → ∀ k, I9 a k = I a k))) := by
  refine ⟨_, rfl, Nat.le_of_ble_eq_true rfl, fun V C S => ?_⟩
  show V 0 [(0, .ref r0)] [] (T, N, I, L, R) 0 0
  obtain ⟨T_r0, A_r0, B_r0, ⟨r0_0, R_r0_0, H_r0_0⟩, ⟨r0_1, R_r0_1, H_r0_1⟩, ⟨r0_2, R_r0_2, H_r0_2⟩, ⟨r0_5, R_r0_5, H_r0_5⟩, ⟨r0_6, R_r0_6, H_r0_6⟩, ⟨r0_7, R_r0_7, H_r0_7⟩, ⟨r0_8, R_r0_8, H_r0_8⟩, ⟨r0_9, R_r0_9, H_r0_9⟩, ⟨r0_10, R_r0_10, H_r0_10⟩, ⟨r0_11, R_r0_11, H_r0_11⟩, ⟨r0_12, R_r0_12, H_r0_12⟩, ⟨r0_13, R_r0_13, H_r0_13⟩⟩ := id H_r0
  have z_r0_0 : rA R r0 0 = r0_0 := rA_e R_r0_0
  have z_r0_1 : rA R r0 1 = r0_1 := rA_e R_r0_1
  have z_r0_2 : rA R r0 2 = r0_2 := rA_e R_r0_2
  have z_r0_5 : rA R r0 5 = r0_5 := rA_e R_r0_5
  have z_r0_6 : rA R r0 6 = r0_6 := rA_e R_r0_6
  have z_r0_7 : rA R r0 7 = r0_7 := rA_e R_r0_7
  have z_r0_8 : rA R r0 8 = r0_8 := rA_e R_r0_8
  have z_r0_9 : rA R r0 9 = r0_9 := rA_e R_r0_9
  have z_r0_10 : rA R r0 10 = r0_10 := rA_e R_r0_10
  have z_r0_11 : rA R r0 11 = r0_11 := rA_e R_r0_11
  have z_r0_12 : rA R r0 12 = r0_12 := rA_e R_r0_12
  have z_r0_13 : rA R r0 13 = r0_13 := rA_e R_r0_13
  obtain ⟨T_r0_0, A_r0_0, B_r0_0, ⟨r0_0_0, R_r0_0_0, H_r0_0_0⟩, ⟨r0_0_2, R_r0_0_2, H_r0_0_2⟩⟩ := id H_r0_0
  have z_r0_0_0 : rA R r0_0 0 = r0_0_0 := rA_e R_r0_0_0
  have z_r0_0_2 : rA R r0_0 2 = r0_0_2 := rA_e R_r0_0_2
  obtain ⟨T_r0_1, A_r0_1, B_r0_1, ⟨r0_1_6, R_r0_1_6, H_r0_1_6⟩, ⟨r0_1_7, R_r0_1_7, H_r0_1_7⟩, ⟨r0_1_8, R_r0_1_8, H_r0_1_8⟩, ⟨r0_1_9, R_r0_1_9, H_r0_1_9⟩, ⟨r0_1_10, R_r0_1_10, H_r0_1_10⟩⟩ := id H_r0_1
  have z_r0_1_6 : rA R r0_1 6 = r0_1_6 := rA_e R_r0_1_6
  have z_r0_1_7 : rA R r0_1 7 = r0_1_7 := rA_e R_r0_1_7
  have z_r0_1_8 : rA R r0_1 8 = r0_1_8 := rA_e R_r0_1_8
  have z_r0_1_9 : rA R r0_1 9 = r0_1_9 := rA_e R_r0_1_9
  have z_r0_1_10 : rA R r0_1 10 = r0_1_10 := rA_e R_r0_1_10
  obtain ⟨T_r0_5, A_r0_5, B_r0_5, ⟨r0_5_0, R_r0_5_0, H_r0_5_0⟩, ⟨r0_5_1, R_r0_5_1, H_r0_5_1⟩, ⟨r0_5_2, R_r0_5_2, H_r0_5_2⟩⟩ := id H_r0_5
  have z_r0_5_0 : rA R r0_5 0 = r0_5_0 := rA_e R_r0_5_0
  have z_r0_5_1 : rA R r0_5 1 = r0_5_1 := rA_e R_r0_5_1
  have z_r0_5_2 : rA R r0_5 2 = r0_5_2 := rA_e R_r0_5_2
  obtain ⟨T_r0_5_0, A_r0_5_0, B_r0_5_0, ⟨r0_5_0_6, R_r0_5_0_6, H_r0_5_0_6⟩, ⟨r0_5_0_7, R_r0_5_0_7, H_r0_5_0_7⟩, ⟨r0_5_0_8, R_r0_5_0_8, H_r0_5_0_8⟩, ⟨r0_5_0_9, R_r0_5_0_9, H_r0_5_0_9⟩, ⟨r0_5_0_10, R_r0_5_0_10, H_r0_5_0_10⟩⟩ := id H_r0_5_0
  have z_r0_5_0_6 : rA R r0_5_0 6 = r0_5_0_6 := rA_e R_r0_5_0_6
  have z_r0_5_0_7 : rA R r0_5_0 7 = r0_5_0_7 := rA_e R_r0_5_0_7
  have z_r0_5_0_8 : rA R r0_5_0 8 = r0_5_0_8 := rA_e R_r0_5_0_8
  have z_r0_5_0_9 : rA R r0_5_0 9 = r0_5_0_9 := rA_e R_r0_5_0_9
  have z_r0_5_0_10 : rA R r0_5_0 10 = r0_5_0_10 := rA_e R_r0_5_0_10
  obtain ⟨T_r0_0_2, N_r0_0_2, A_r0_0_2⟩ := id H_r0_0_2
  obtain ⟨T_r0_1_8, N_r0_1_8, A_r0_1_8, E_r0_1_8⟩ := id H_r0_1_8
  have hG := GS.of H_r0_1
  try simp only [z_r0_0, z_r0_1, z_r0_2, z_r0_5, z_r0_6, z_r0_7, z_r0_8, z_r0_9, z_r0_10, z_r0_11, z_r0_12, z_r0_13, z_r0_0_0, z_r0_0_2, z_r0_1_6, z_r0_1_7, z_r0_1_8, z_r0_1_9, z_r0_1_10, z_r0_5_0, z_r0_5_1, z_r0_5_2, z_r0_5_0_6, z_r0_5_0_7, z_r0_5_0_8, z_r0_5_0_9, z_r0_5_0_10] at hp0
  try simp only [z_r0_0, z_r0_1, z_r0_2, z_r0_5, z_r0_6, z_r0_7, z_r0_8, z_r0_9, z_r0_10, z_r0_11, z_r0_12, z_r0_13, z_r0_0_0, z_r0_0_2, z_r0_1_6, z_r0_1_7, z_r0_1_8, z_r0_1_9, z_r0_1_10, z_r0_5_0, z_r0_5_1, z_r0_5_2, z_r0_5_0_6, z_r0_5_0_7, z_r0_5_0_8, z_r0_5_0_9, z_r0_5_0_10] at hp1
  try simp only [z_r0_0, z_r0_1, z_r0_2, z_r0_5, z_r0_6, z_r0_7, z_r0_8, z_r0_9, z_r0_10, z_r0_11, z_r0_12, z_r0_13, z_r0_0_0, z_r0_0_2, z_r0_1_6, z_r0_1_7, z_r0_1_8, z_r0_1_9, z_r0_1_10, z_r0_5_0, z_r0_5_1, z_r0_5_2, z_r0_5_0_6, z_r0_5_0_7, z_r0_5_0_8, z_r0_5_0_9, z_r0_5_0_10] at hp2
  try simp only [z_r0_0, z_r0_1, z_r0_2, z_r0_5, z_r0_6, z_r0_7, z_r0_8, z_r0_9, z_r0_10, z_r0_11, z_r0_12, z_r0_13, z_r0_0_0, z_r0_0_2, z_r0_1_6, z_r0_1_7, z_r0_1_8, z_r0_1_9, z_r0_1_10, z_r0_5_0, z_r0_5_1, z_r0_5_2, z_r0_5_0_6, z_r0_5_0_7, z_r0_5_0_8, z_r0_5_0_9, z_r0_5_0_10] at hp3
  obtain ⟨w_r0_0_1, k0_r0_0_1⟩ : ∃ x, I r0_0 1 = x := ⟨_, rfl⟩
  have gw_r0_0_1 := rg w_r0_0_1
  obtain ⟨w_r0_1_0, k0_r0_1_0⟩ : ∃ x, I r0_1 0 = x := ⟨_, rfl⟩
  have gw_r0_1_0 := rg w_r0_1_0
  have ow_r0_1_0 := IX.p hI A_r0_1 T_r0_1 k0_r0_1_0
  obtain ⟨w_r0_1_1, k0_r0_1_1⟩ : ∃ x, I r0_1 1 = x := ⟨_, rfl⟩
  have gw_r0_1_1 := rg w_r0_1_1
  obtain ⟨w_r0_1_5, k0_r0_1_5⟩ : ∃ x, I r0_1 5 = x := ⟨_, rfl⟩
  have gw_r0_1_5 := rg w_r0_1_5
  try simp only [k0_r0_0_1, k0_r0_1_0, k0_r0_1_1, k0_r0_1_5] at hp0
  try simp only [k0_r0_0_1, k0_r0_1_0, k0_r0_1_1, k0_r0_1_5] at hp1
  try simp only [k0_r0_0_1, k0_r0_1_0, k0_r0_1_1, k0_r0_1_5] at hp2
  try simp only [k0_r0_0_1, k0_r0_1_0, k0_r0_1_1, k0_r0_1_5] at hp3
  refine k_aload_n C rfl rfl rfl ?_
  refine g_R C rfl rfl rfl T_r0 rfl R_r0_0 ?_
  refine c_VI C (s_X4_useUp_x hS hI H_r0_0) rfl rfl rfl rfl rfl ⟨_, rfl, rfl, T_r0_0, Nat.le_of_ble_eq_true rfl⟩ rfl rfl (Nat.le_of_ble_eq_true rfl) (Nat.le_of_ble_eq_true rfl) (Nat.le_of_ble_eq_true rfl) ?_
  rintro x1 I2 L3 ⟨p0x1, p1x1, hI2, S4⟩
  try simp only [z_r0_0, z_r0_1, z_r0_2, z_r0_5, z_r0_6, z_r0_7, z_r0_8, z_r0_9, z_r0_10, z_r0_11, z_r0_12, z_r0_13, z_r0_0_0, z_r0_0_2, z_r0_1_6, z_r0_1_7, z_r0_1_8, z_r0_1_9, z_r0_1_10, z_r0_5_0, z_r0_5_1, z_r0_5_2, z_r0_5_0_6, z_r0_5_0_7, z_r0_5_0_8, z_r0_5_0_9, z_r0_5_0_10] at S4
  have e5 := Chg.k S4 T_r0_1 (by decide) (by decide) k0_r0_1_0
  have e6 := Chg.k S4 T_r0_1 (by decide) (by decide) k0_r0_1_1
  have e7 := Chg.k S4 T_r0_1 (by decide) (by decide) k0_r0_1_5
  have gx1 := rg x1
  obtain ⟨x8, e9⟩ : ∃ x, I2 r0_0 1 = x := ⟨_, rfl⟩
  have gx8 := rg x8
  try simp only [z_r0_0, z_r0_1, z_r0_2, z_r0_5, z_r0_6, z_r0_7, z_r0_8, z_r0_9, z_r0_10, z_r0_11, z_r0_12, z_r0_13, z_r0_0_0, z_r0_0_2, z_r0_1_6, z_r0_1_7, z_r0_1_8, z_r0_1_9, z_r0_1_10, z_r0_5_0, z_r0_5_1, z_r0_5_2, z_r0_5_0_6, z_r0_5_0_7, z_r0_5_0_8, z_r0_5_0_9, z_r0_5_0_10] at p0x1
  try simp only [z_r0_0, z_r0_1, z_r0_2, z_r0_5, z_r0_6, z_r0_7, z_r0_8, z_r0_9, z_r0_10, z_r0_11, z_r0_12, z_r0_13, z_r0_0_0, z_r0_0_2, z_r0_1_6, z_r0_1_7, z_r0_1_8, z_r0_1_9, z_r0_1_10, z_r0_5_0, z_r0_5_1, z_r0_5_2, z_r0_5_0_6, z_r0_5_0_7, z_r0_5_0_8, z_r0_5_0_9, z_r0_5_0_10] at p1x1
  try simp only [k0_r0_0_1, k0_r0_1_0, k0_r0_1_1, k0_r0_1_5, e9] at p0x1
  try have q0x1 := congrArg Int32.toInt p0x1
  try simp only [k0_r0_0_1, k0_r0_1_0, k0_r0_1_1, k0_r0_1_5, e9] at p1x1
  try have q1x1 := congrArg Int32.toInt p1x1
  have hmany := p0x1; have hS4 := S4
  refine k_istore_n C (lw := [(1, .int x1), (0, .ref r0)]) rfl rfl (Nat.le_of_ble_eq_true rfl) rfl ?_
  refine k_iload_n C rfl rfl rfl ?_
  refine z_iconst C (z := 1) rfl rfl rfl (fun x10 ex10 => ?_)
  refine b_icmp_lt C (t := 19) rfl rfl rfl (fun c11 => ?_) (fun c11 => ?_)
  · skip
    exact k_throw C rfl rfl rfl rfl rfl rfl (Nat.le_of_ble_eq_true rfl) (Nat.le_of_ble_eq_true rfl) (Nat.le_of_ble_eq_true rfl) (Or.inr ⟨_, _, _, (by decide : 0 ∈ [0, 2]), rfl, rfl, ⟨⟨hI2, (by (try simp only [z_r0_0, z_r0_1, z_r0_2, z_r0_5, z_r0_6, z_r0_7, z_r0_8, z_r0_9, z_r0_10, z_r0_11, z_r0_12, z_r0_13, z_r0_0_0, z_r0_0_2, z_r0_1_6, z_r0_1_7, z_r0_1_8, z_r0_1_9, z_r0_1_10, z_r0_5_0, z_r0_5_1, z_r0_5_2, z_r0_5_0_6, z_r0_5_0_7, z_r0_5_0_8, z_r0_5_0_9, z_r0_5_0_10]); exact (Chg.mono (Chg.up S4 (sl_1 (Or.inl rfl))) (by decide)))⟩, (fun _ => by simp only [z_r0_0, z_r0_1, z_r0_2, z_r0_5, z_r0_6, z_r0_7, z_r0_8, z_r0_9, z_r0_10, z_r0_11, z_r0_12, z_r0_13, z_r0_0_0, z_r0_0_2, z_r0_1_6, z_r0_1_7, z_r0_1_8, z_r0_1_9, z_r0_1_10, z_r0_5_0, z_r0_5_1, z_r0_5_2, z_r0_5_0_6, z_r0_5_0_7, z_r0_5_0_8, z_r0_5_0_9, z_r0_5_0_10, k0_r0_0_1]; omega), (fun _ => by simp only [z_r0_0, z_r0_1, z_r0_2, z_r0_5, z_r0_6, z_r0_7, z_r0_8, z_r0_9, z_r0_10, z_r0_11, z_r0_12, z_r0_13, z_r0_0_0, z_r0_0_2, z_r0_1_6, z_r0_1_7, z_r0_1_8, z_r0_1_9, z_r0_1_10, z_r0_5_0, z_r0_5_1, z_r0_5_2, z_r0_5_0_6, z_r0_5_0_7, z_r0_5_0_8, z_r0_5_0_9, z_r0_5_0_10]; rw [e9]; omega), (fun _ => by simp only [z_r0_0, z_r0_1, z_r0_2, z_r0_5, z_r0_6, z_r0_7, z_r0_8, z_r0_9, z_r0_10, z_r0_11, z_r0_12, z_r0_13, z_r0_0_0, z_r0_0_2, z_r0_1_6, z_r0_1_7, z_r0_1_8, z_r0_1_9, z_r0_1_10, z_r0_5_0, z_r0_5_1, z_r0_5_2, z_r0_5_0_6, z_r0_5_0_7, z_r0_5_0_8, z_r0_5_0_9, z_r0_5_0_10]; exact fun a ha k => congrFun (Chg.at hS4 (nm_1 ha)) k), (fun h9 => absurd h9 (by decide)), (fun h9 => absurd h9 (by decide)), (fun h9 => absurd h9 (by decide))⟩⟩)
  refine k_iload_n C rfl rfl rfl ?_
  refine z_bipush C (z := 9) rfl rfl rfl (fun x12 ex12 => ?_)
  refine b_icmp_le C (t := 27) rfl rfl rfl (fun c13 => ?_) (fun c13 => ?_)
  · skip
    refine k_aload_n C rfl rfl rfl ?_
    refine g_R C rfl rfl rfl T_r0 rfl R_r0_1 ?_
    refine c_VR C (s_X8_nextForm_x hS hI2 H_r0_1 (by first | omega | (simp only [e5, e6, e7, e9, and_true, true_and, or_true, true_or, and_false, false_and, or_false, false_or] <;> omega))) rfl rfl rfl rfl rfl ⟨_, rfl, rfl, T_r0_1, Nat.le_of_ble_eq_true rfl⟩ rfl rfl (Nat.le_of_ble_eq_true rfl) (Nat.le_of_ble_eq_true rfl) (Nat.le_of_ble_eq_true rfl) ?_
    rintro yy14 I15 L16 ⟨hyy14, p0yy14, hI15, S17⟩
    try simp only [z_r0_0, z_r0_1, z_r0_2, z_r0_5, z_r0_6, z_r0_7, z_r0_8, z_r0_9, z_r0_10, z_r0_11, z_r0_12, z_r0_13, z_r0_0_0, z_r0_0_2, z_r0_1_6, z_r0_1_7, z_r0_1_8, z_r0_1_9, z_r0_1_10, z_r0_5_0, z_r0_5_1, z_r0_5_2, z_r0_5_0_6, z_r0_5_0_7, z_r0_5_0_8, z_r0_5_0_9, z_r0_5_0_10] at S17
    have e18 := Chg.k S17 T_r0_1 (by decide) (by decide) e5
    have e19 := Chg.k S17 T_r0_1 (by decide) (by decide) e7
    have e20 := Chg.k S17 T_r0_0 (by decide) (by decide) e9
    obtain ⟨x21, e22⟩ : ∃ x, I15 r0_1 1 = x := ⟨_, rfl⟩
    have gx21 := rg x21
    try simp only [z_r0_0, z_r0_1, z_r0_2, z_r0_5, z_r0_6, z_r0_7, z_r0_8, z_r0_9, z_r0_10, z_r0_11, z_r0_12, z_r0_13, z_r0_0_0, z_r0_0_2, z_r0_1_6, z_r0_1_7, z_r0_1_8, z_r0_1_9, z_r0_1_10, z_r0_5_0, z_r0_5_1, z_r0_5_2, z_r0_5_0_6, z_r0_5_0_7, z_r0_5_0_8, z_r0_5_0_9, z_r0_5_0_10] at p0yy14
    try simp only [e5, e6, e7, e9, e22] at p0yy14
    try have q0yy14 := congrArg Int32.toInt p0yy14
    have hnf := p0yy14; have hS31 := S17
    refine k_astore_nV C (x := yy14) (lw := [(2, va_rf yy14), (1, .int x1), (0, .ref r0)]) rfl rfl (Nat.le_of_ble_eq_true rfl) rfl ?_
    refine k_aload_nV C (x := yy14) rfl rfl rfl ?_
    refine k_ifnonnull C (x := yy14) (t := 47) rfl rfl rfl (fun c23 => ?_) (fun rr24 c23 => ?_)
    · skip
      subst c23
      have hnx := NXD.no hnf E_r0_1_8 (by omega)
      exact k_throw C rfl rfl rfl rfl rfl rfl (Nat.le_of_ble_eq_true rfl) (Nat.le_of_ble_eq_true rfl) (Nat.le_of_ble_eq_true rfl) (Or.inr ⟨_, _, _, (by decide : 2 ∈ [0, 2]), rfl, rfl, ⟨⟨hI15, (by (try simp only [z_r0_0, z_r0_1, z_r0_2, z_r0_5, z_r0_6, z_r0_7, z_r0_8, z_r0_9, z_r0_10, z_r0_11, z_r0_12, z_r0_13, z_r0_0_0, z_r0_0_2, z_r0_1_6, z_r0_1_7, z_r0_1_8, z_r0_1_9, z_r0_1_10, z_r0_5_0, z_r0_5_1, z_r0_5_2, z_r0_5_0_6, z_r0_5_0_7, z_r0_5_0_8, z_r0_5_0_9, z_r0_5_0_10]); exact (Chg.cons (Chg.up S4 (sl_1 (Or.inl rfl))) (Chg.mono (Chg.up S17 (sl_1 (Or.inr (Or.inl rfl)))) (by decide)) (by decide)))⟩, (fun h9 => absurd h9 (by decide)), (fun h9 => absurd h9 (by decide)), (fun h9 => absurd h9 (by decide)), (fun _ => by simp only [z_r0_0, z_r0_1, z_r0_2, z_r0_5, z_r0_6, z_r0_7, z_r0_8, z_r0_9, z_r0_10, z_r0_11, z_r0_12, z_r0_13, z_r0_0_0, z_r0_0_2, z_r0_1_6, z_r0_1_7, z_r0_1_8, z_r0_1_9, z_r0_1_10, z_r0_5_0, z_r0_5_1, z_r0_5_2, z_r0_5_0_6, z_r0_5_0_7, z_r0_5_0_8, z_r0_5_0_9, z_r0_5_0_10, k0_r0_0_1, k0_r0_1_1]; have q9 := hnx; omega), (fun _ => by simp only [z_r0_0, z_r0_1, z_r0_2, z_r0_5, z_r0_6, z_r0_7, z_r0_8, z_r0_9, z_r0_10, z_r0_11, z_r0_12, z_r0_13, z_r0_0_0, z_r0_0_2, z_r0_1_6, z_r0_1_7, z_r0_1_8, z_r0_1_9, z_r0_1_10, z_r0_5_0, z_r0_5_1, z_r0_5_2, z_r0_5_0_6, z_r0_5_0_7, z_r0_5_0_8, z_r0_5_0_9, z_r0_5_0_10]; rw [e20]; omega), (fun _ => by simp only [z_r0_0, z_r0_1, z_r0_2, z_r0_5, z_r0_6, z_r0_7, z_r0_8, z_r0_9, z_r0_10, z_r0_11, z_r0_12, z_r0_13, z_r0_0_0, z_r0_0_2, z_r0_1_6, z_r0_1_7, z_r0_1_8, z_r0_1_9, z_r0_1_10, z_r0_5_0, z_r0_5_1, z_r0_5_2, z_r0_5_0_6, z_r0_5_0_7, z_r0_5_0_8, z_r0_5_0_9, z_r0_5_0_10]; exact EXC1 hS4 hS31 T_r0_1 (fun e => by rw [e, T_r0_0] at T_r0_1; cases T_r0_1) (by rw [e22, k0_r0_1_1]; exact (hnf.2 hnx).2))⟩⟩)
    subst c23
    have H_rr24 := hyy14 rr24 rfl
    have hnx := NXD.yes hnf (by omega); have oF := FA_e z_r0_1_8 hnx.2.1; have nF := ncn (n := 16) (j := w_r0_1_1) (by omega) hnx.1; have fF := FO.of H_rr24; have hnB : ¬ (r0_0_2 = r0_0 ∨ r0_0_2 = r0_1 ∨ r0_0_2 = FA R r0_1 (I r0_1 1).toNatClampNeg ∨ r0_0_2 = rA R (FA R r0_1 (I r0_1 1).toNatClampNeg) 1) := (by rw [k0_r0_1_1, oF]; exact FSB hU T_r0_0_2 T_r0_0 T_r0_1 fF R_r0_0_2)
    refine k_aload_n C rfl rfl rfl ?_
    refine k_iload_n C rfl rfl rfl ?_
    refine z_iconst C (z := 1) rfl rfl rfl (fun x25 ex25 => ?_)
    refine z_isub C rfl rfl ⟨by omega, by omega⟩ (fun x26 ex26 => ?_)
    obtain ⟨T_rr24, A_rr24, ⟨rr24_1, R_rr24_1, H_rr24_1⟩⟩ := id H_rr24
    have z_rr24_1 : rA R rr24 1 = rr24_1 := rA_e R_rr24_1
    refine c_VV C (s_X2_begin_x hS hI15 H_rr24) rfl rfl rfl rfl rfl ⟨_, rfl, rfl, T_rr24, Nat.le_of_ble_eq_true rfl⟩ rfl rfl (Nat.le_of_ble_eq_true rfl) (Nat.le_of_ble_eq_true rfl) (Nat.le_of_ble_eq_true rfl) ?_
    rintro I28 L29 ⟨p0v27, p1v27, hI28, S30⟩
    try simp only [z_r0_0, z_r0_1, z_r0_2, z_r0_5, z_r0_6, z_r0_7, z_r0_8, z_r0_9, z_r0_10, z_r0_11, z_r0_12, z_r0_13, z_r0_0_0, z_r0_0_2, z_r0_1_6, z_r0_1_7, z_r0_1_8, z_r0_1_9, z_r0_1_10, z_r0_5_0, z_r0_5_1, z_r0_5_2, z_r0_5_0_6, z_r0_5_0_7, z_r0_5_0_8, z_r0_5_0_9, z_r0_5_0_10, z_rr24_1] at S30
    have e31 := Chg.k S30 T_r0_1 (by decide) (by decide) e18
    have e32 := Chg.k S30 T_r0_1 (by decide) (by decide) e19
    have e33 := Chg.k S30 T_r0_0 (by decide) (by decide) e20
    have e34 := Chg.k S30 T_r0_1 (by decide) (by decide) e22
    obtain ⟨x35, e36⟩ : ∃ x, I28 rr24 0 = x := ⟨_, rfl⟩
    have gx35 := rg x35
    have ox35 := IX.deg hI28 A_rr24 T_rr24 e36
    try simp only [z_r0_0, z_r0_1, z_r0_2, z_r0_5, z_r0_6, z_r0_7, z_r0_8, z_r0_9, z_r0_10, z_r0_11, z_r0_12, z_r0_13, z_r0_0_0, z_r0_0_2, z_r0_1_6, z_r0_1_7, z_r0_1_8, z_r0_1_9, z_r0_1_10, z_r0_5_0, z_r0_5_1, z_r0_5_2, z_r0_5_0_6, z_r0_5_0_7, z_r0_5_0_8, z_r0_5_0_9, z_r0_5_0_10, z_rr24_1] at p0v27
    try simp only [z_r0_0, z_r0_1, z_r0_2, z_r0_5, z_r0_6, z_r0_7, z_r0_8, z_r0_9, z_r0_10, z_r0_11, z_r0_12, z_r0_13, z_r0_0_0, z_r0_0_2, z_r0_1_6, z_r0_1_7, z_r0_1_8, z_r0_1_9, z_r0_1_10, z_r0_5_0, z_r0_5_1, z_r0_5_2, z_r0_5_0_6, z_r0_5_0_7, z_r0_5_0_8, z_r0_5_0_9, z_r0_5_0_10, z_rr24_1] at p1v27
    try simp only [e18, e19, e20, e22, e36] at p0v27
    try have q0v27 := congrArg Int32.toInt p0v27
    try simp only [e18, e19, e20, e22, e36] at p1v27
    try have q1v27 := congrArg Int32.toInt p1v27
    have hbg := p0v27.2.2 (by omega) (by omega)
    refine z_iconst C (z := 0) rfl rfl rfl (fun x37 ex37 => ?_)
    have J38 : ∀ (nn39 : Nat) (I40 : IT) (L41 : LT) (x42 : Int32), (MN (9 - x42.toInt) nn39) → (IX A T I40) → (Chg (fun a => a = r0_0 ∨ a = r0_1 ∨ a = FA R r0_1 (I r0_1 1).toNatClampNeg ∨ a = rA R (FA R r0_1 (I r0_1 1).toNatClampNeg) 1) T [] I28 L29 I40 L41) → (0 ≤ x42.toInt) → (x42.toInt ≤ 9) → (NMF I40 rr24_1 x42.toInt (fun j => (I r0_0_2 j).toInt % w_r0_1_0.toInt)) → (x42.toInt ≤ w_r0_0_1.toInt) → V 56 [(0, .ref r0), (1, .int x1), (2, .ref rr24), (3, .int x42)] [] (T, N, I40, L41, R) 0 0 := by
      intro nn39
      induction nn39 using Nat.strongRecOn with
      | _ nn39 ihJ38 =>
        intro I40 L41 x42 hmnn39 hI46 S45 b43 b44 ff56_0 ff56_1
        have gx42 := rg x42
        have e49 := Chg.k S45 T_r0_1 (by decide) (by decide) e31
        have e50 := Chg.k S45 T_r0_1 (by decide) (by decide) e32
        have e51 := Chg.k S45 T_r0_0 (by decide) (by decide) e33
        have e52 := Chg.k S45 T_r0_1 (by decide) (by decide) e34
        have e53 := Chg.k S45 T_rr24 (by decide) (by decide) e36
        refine k_iload_n C rfl rfl rfl ?_
        refine k_iload_n C rfl rfl rfl ?_
        refine b_icmp_ge C (t := 88) rfl rfl rfl (fun c54 => ?_) (fun c54 => ?_)
        · skip
          refine k_aload_n C rfl rfl rfl ?_
          refine g_R C rfl rfl rfl T_r0 rfl R_r0_1 ?_
          refine c_VV C (s_X8_forgetUndone_x hS hI46 H_r0_1) rfl rfl rfl rfl rfl ⟨_, rfl, rfl, T_r0_1, Nat.le_of_ble_eq_true rfl⟩ rfl rfl (Nat.le_of_ble_eq_true rfl) (Nat.le_of_ble_eq_true rfl) (Nat.le_of_ble_eq_true rfl) ?_
          rintro I56 L57 ⟨p0v55, hI56, S58⟩
          try simp only [z_r0_0, z_r0_1, z_r0_2, z_r0_5, z_r0_6, z_r0_7, z_r0_8, z_r0_9, z_r0_10, z_r0_11, z_r0_12, z_r0_13, z_r0_0_0, z_r0_0_2, z_r0_1_6, z_r0_1_7, z_r0_1_8, z_r0_1_9, z_r0_1_10, z_r0_5_0, z_r0_5_1, z_r0_5_2, z_r0_5_0_6, z_r0_5_0_7, z_r0_5_0_8, z_r0_5_0_9, z_r0_5_0_10, z_rr24_1] at S58
          have e59 := Chg.k S58 T_r0_1 (by decide) (by decide) e49
          have e60 := Chg.k S58 T_r0_0 (by decide) (by decide) e51
          have e61 := Chg.k S58 T_r0_1 (by decide) (by decide) e52
          have e62 := Chg.k S58 T_rr24 (by decide) (by decide) e53
          obtain ⟨x63, e64⟩ : ∃ x, I56 r0_1 5 = x := ⟨_, rfl⟩
          have gx63 := rg x63
          try simp only [z_r0_0, z_r0_1, z_r0_2, z_r0_5, z_r0_6, z_r0_7, z_r0_8, z_r0_9, z_r0_10, z_r0_11, z_r0_12, z_r0_13, z_r0_0_0, z_r0_0_2, z_r0_1_6, z_r0_1_7, z_r0_1_8, z_r0_1_9, z_r0_1_10, z_r0_5_0, z_r0_5_1, z_r0_5_2, z_r0_5_0_6, z_r0_5_0_7, z_r0_5_0_8, z_r0_5_0_9, z_r0_5_0_10, z_rr24_1] at p0v55
          try simp only [e49, e50, e51, e52, e53, e64] at p0v55
          try have q0v55 := congrArg Int32.toInt p0v55
          have hfu := Chg.at S58 (nm_1 (t_nq fF.2.2 T_r0_1 (by decide))); rw [z_rr24_1] at hfu
          refine k_aload_n C rfl rfl rfl ?_
          refine g_R C rfl rfl rfl T_r0 rfl R_r0_1 ?_
          refine g_I C rfl rfl rfl T_r0_1 rfl e61 ?_
          refine z_iconst C (z := 1) rfl rfl rfl (fun x65 ex65 => ?_)
          refine z_isub C rfl rfl ⟨by omega, by omega⟩ (fun x66 ex66 => ?_)
          exact k_iret C rfl (Or.inl rfl) (Nat.le_of_ble_eq_true rfl) (Nat.le_of_ble_eq_true rfl) (Or.inl ⟨_, _, _, rfl, rfl, by (try simp only [z_r0_0, z_r0_1, z_r0_2, z_r0_5, z_r0_6, z_r0_7, z_r0_8, z_r0_9, z_r0_10, z_r0_11, z_r0_12, z_r0_13, z_r0_0_0, z_r0_0_2, z_r0_1_6, z_r0_1_7, z_r0_1_8, z_r0_1_9, z_r0_1_10, z_r0_5_0, z_r0_5_1, z_r0_5_2, z_r0_5_0_6, z_r0_5_0_7, z_r0_5_0_8, z_r0_5_0_9, z_r0_5_0_10, z_rr24_1]); rw [e60]; omega, by (try simp only [z_r0_0, z_r0_1, z_r0_2, z_r0_5, z_r0_6, z_r0_7, z_r0_8, z_r0_9, z_r0_10, z_r0_11, z_r0_12, z_r0_13, z_r0_0_0, z_r0_0_2, z_r0_1_6, z_r0_1_7, z_r0_1_8, z_r0_1_9, z_r0_1_10, z_r0_5_0, z_r0_5_1, z_r0_5_2, z_r0_5_0_6, z_r0_5_0_7, z_r0_5_0_8, z_r0_5_0_9, z_r0_5_0_10, z_rr24_1]); simp only [k0_r0_0_1, k0_r0_1_1]; omega, by (try simp only [z_r0_0, z_r0_1, z_r0_2, z_r0_5, z_r0_6, z_r0_7, z_r0_8, z_r0_9, z_r0_10, z_r0_11, z_r0_12, z_r0_13, z_r0_0_0, z_r0_0_2, z_r0_1_6, z_r0_1_7, z_r0_1_8, z_r0_1_9, z_r0_1_10, z_r0_5_0, z_r0_5_1, z_r0_5_2, z_r0_5_0_6, z_r0_5_0_7, z_r0_5_0_8, z_r0_5_0_9, z_r0_5_0_10, z_rr24_1]); rw [e61]; simp only [k0_r0_1_1]; omega, by (try simp only [z_r0_0, z_r0_1, z_r0_2, z_r0_5, z_r0_6, z_r0_7, z_r0_8, z_r0_9, z_r0_10, z_r0_11, z_r0_12, z_r0_13, z_r0_0_0, z_r0_0_2, z_r0_1_6, z_r0_1_7, z_r0_1_8, z_r0_1_9, z_r0_1_10, z_r0_5_0, z_r0_5_1, z_r0_5_2, z_r0_5_0_6, z_r0_5_0_7, z_r0_5_0_8, z_r0_5_0_9, z_r0_5_0_10, z_rr24_1]); rw [e64]; omega, by (try simp only [z_r0_0, z_r0_1, z_r0_2, z_r0_5, z_r0_6, z_r0_7, z_r0_8, z_r0_9, z_r0_10, z_r0_11, z_r0_12, z_r0_13, z_r0_0_0, z_r0_0_2, z_r0_1_6, z_r0_1_7, z_r0_1_8, z_r0_1_9, z_r0_1_10, z_r0_5_0, z_r0_5_1, z_r0_5_2, z_r0_5_0_6, z_r0_5_0_7, z_r0_5_0_8, z_r0_5_0_9, z_r0_5_0_10, z_rr24_1]); rw [k0_r0_1_1, oF, k0_r0_0_1, e62]; omega, by (try simp only [z_r0_0, z_r0_1, z_r0_2, z_r0_5, z_r0_6, z_r0_7, z_r0_8, z_r0_9, z_r0_10, z_r0_11, z_r0_12, z_r0_13, z_r0_0_0, z_r0_0_2, z_r0_1_6, z_r0_1_7, z_r0_1_8, z_r0_1_9, z_r0_1_10, z_r0_5_0, z_r0_5_1, z_r0_5_2, z_r0_5_0_6, z_r0_5_0_7, z_r0_5_0_8, z_r0_5_0_9, z_r0_5_0_10, z_rr24_1]); rw [k0_r0_1_1, oF, z_rr24_1, k0_r0_0_1, k0_r0_1_0]; have h9 : x42.toInt = w_r0_0_1.toInt := (by omega); rw [← h9]; exact fun j hj => (by rw [hfu]; exact ff56_0 j hj), hI56, (by (try simp only [z_r0_0, z_r0_1, z_r0_2, z_r0_5, z_r0_6, z_r0_7, z_r0_8, z_r0_9, z_r0_10, z_r0_11, z_r0_12, z_r0_13, z_r0_0_0, z_r0_0_2, z_r0_1_6, z_r0_1_7, z_r0_1_8, z_r0_1_9, z_r0_1_10, z_r0_5_0, z_r0_5_1, z_r0_5_2, z_r0_5_0_6, z_r0_5_0_7, z_r0_5_0_8, z_r0_5_0_9, z_r0_5_0_10, z_rr24_1]); exact (Chg.cons (Chg.up S4 (sl_1 (Or.inl rfl))) (Chg.cons (Chg.up S17 (sl_1 (Or.inr (Or.inl rfl)))) (Chg.cons (Chg.up S30 (sl_2 (Or.inr (Or.inr (Or.inl (by rw [k0_r0_1_1, oF])))) (Or.inr (Or.inr (Or.inr (z_rr24_1.symm.trans (by rw [k0_r0_1_1, oF]))))))) (Chg.cons S45 (Chg.mono (Chg.up S58 (sl_1 (Or.inr (Or.inl rfl)))) (by decide)) (by decide)) (by decide)) (by decide)) (by decide)))⟩)
        refine k_aload_n C rfl rfl rfl ?_
        refine k_iload_n C rfl rfl rfl ?_
        refine k_aload_n C rfl rfl rfl ?_
        refine g_R C rfl rfl rfl T_r0 rfl R_r0_5 ?_
        refine k_aload_n C rfl rfl rfl ?_
        refine g_R C rfl rfl rfl T_r0 rfl R_r0_0 ?_
        refine k_iload_n C rfl rfl rfl ?_
        refine c_VI C (s_X4_byteAt_x hS hI46 H_r0_0) rfl rfl rfl rfl rfl ⟨_, rfl, rfl, T_r0_0, Nat.le_of_ble_eq_true rfl⟩ rfl rfl (Nat.le_of_ble_eq_true rfl) (Nat.le_of_ble_eq_true rfl) (Nat.le_of_ble_eq_true rfl) ?_
        rintro x67 _ _ ⟨p0x67, rfl, rfl⟩
        have gx67 := rg x67
        try simp only [z_r0_0, z_r0_1, z_r0_2, z_r0_5, z_r0_6, z_r0_7, z_r0_8, z_r0_9, z_r0_10, z_r0_11, z_r0_12, z_r0_13, z_r0_0_0, z_r0_0_2, z_r0_1_6, z_r0_1_7, z_r0_1_8, z_r0_1_9, z_r0_1_10, z_r0_5_0, z_r0_5_1, z_r0_5_2, z_r0_5_0_6, z_r0_5_0_7, z_r0_5_0_8, z_r0_5_0_9, z_r0_5_0_10, z_rr24_1] at p0x67
        try simp only [e49, e50, e51, e52, e53] at p0x67
        try have q0x67 := congrArg Int32.toInt p0x67
        have hby := p0x67; have hbe := Chg.at (((Chg.cons (Chg.up S4 (sl_1 (Or.inl rfl))) (Chg.cons (Chg.up S17 (sl_1 (Or.inr (Or.inl rfl)))) (Chg.cons (Chg.up S30 (sl_2 (Or.inr (Or.inr (Or.inl (by rw [k0_r0_1_1, oF])))) (Or.inr (Or.inr (Or.inr (z_rr24_1.symm.trans (by rw [k0_r0_1_1, oF]))))))) (Chg.mono S45 (by decide)) (by decide)) (by decide)) (by decide)) : Chg (fun a => a = r0_0 ∨ a = r0_1 ∨ a = FA R r0_1 (I r0_1 1).toNatClampNeg ∨ a = rA R (FA R r0_1 (I r0_1 1).toNatClampNeg) 1) T [(3, 0), (5, 1), (9, 1), (9, 5)] I L I40 L41)) hnB; rw [hbe] at hby
        refine z_i2l C rfl rfl (fun lg68 elg68 => ?_)
        have hl := elg68
        refine c_VI C (s_X0_of_x hS hI46 H_r0_5) rfl rfl rfl rfl rfl ⟨_, rfl, rfl, T_r0_5, Nat.le_of_ble_eq_true rfl⟩ rfl rfl (Nat.le_of_ble_eq_true rfl) (Nat.le_of_ble_eq_true rfl) (Nat.le_of_ble_eq_true rfl) ?_
        rintro x69 _ _ ⟨o0x69, o1x69, p0x69, p1x69, rfl, rfl⟩
        have gx69 := rg x69
        try simp only [z_r0_0, z_r0_1, z_r0_2, z_r0_5, z_r0_6, z_r0_7, z_r0_8, z_r0_9, z_r0_10, z_r0_11, z_r0_12, z_r0_13, z_r0_0_0, z_r0_0_2, z_r0_1_6, z_r0_1_7, z_r0_1_8, z_r0_1_9, z_r0_1_10, z_r0_5_0, z_r0_5_1, z_r0_5_2, z_r0_5_0_6, z_r0_5_0_7, z_r0_5_0_8, z_r0_5_0_9, z_r0_5_0_10, z_rr24_1] at p0x69
        try simp only [z_r0_0, z_r0_1, z_r0_2, z_r0_5, z_r0_6, z_r0_7, z_r0_8, z_r0_9, z_r0_10, z_r0_11, z_r0_12, z_r0_13, z_r0_0_0, z_r0_0_2, z_r0_1_6, z_r0_1_7, z_r0_1_8, z_r0_1_9, z_r0_1_10, z_r0_5_0, z_r0_5_1, z_r0_5_2, z_r0_5_0_6, z_r0_5_0_7, z_r0_5_0_8, z_r0_5_0_9, z_r0_5_0_10, z_rr24_1] at p1x69
        try simp only [e49, e50, e51, e52, e53] at p0x69
        try have q0x69 := congrArg Int32.toInt p0x69
        try simp only [e49, e50, e51, e52, e53] at p1x69
        try have q1x69 := congrArg Int32.toInt p1x69
        have hof := p0x69; rw [hp3] at hof; (try simp only [e49] at hof)
        refine c_VV C (s_X2_set_x hS hI46 H_rr24) rfl rfl rfl rfl rfl ⟨_, rfl, rfl, T_rr24, Nat.le_of_ble_eq_true rfl⟩ rfl rfl (Nat.le_of_ble_eq_true rfl) (Nat.le_of_ble_eq_true rfl) (Nat.le_of_ble_eq_true rfl) ?_
        rintro I71 L72 ⟨p0v70, hI71, S73⟩
        try simp only [z_r0_0, z_r0_1, z_r0_2, z_r0_5, z_r0_6, z_r0_7, z_r0_8, z_r0_9, z_r0_10, z_r0_11, z_r0_12, z_r0_13, z_r0_0_0, z_r0_0_2, z_r0_1_6, z_r0_1_7, z_r0_1_8, z_r0_1_9, z_r0_1_10, z_r0_5_0, z_r0_5_1, z_r0_5_2, z_r0_5_0_6, z_r0_5_0_7, z_r0_5_0_8, z_r0_5_0_9, z_r0_5_0_10, z_rr24_1] at S73
        have e74 := Chg.k S73 T_r0_1 (by decide) (by decide) e49
        have e75 := Chg.k S73 T_r0_1 (by decide) (by decide) e50
        have e76 := Chg.k S73 T_r0_0 (by decide) (by decide) e51
        have e77 := Chg.k S73 T_r0_1 (by decide) (by decide) e52
        have e78 := Chg.k S73 T_rr24 (by decide) (by decide) e53
        try simp only [z_r0_0, z_r0_1, z_r0_2, z_r0_5, z_r0_6, z_r0_7, z_r0_8, z_r0_9, z_r0_10, z_r0_11, z_r0_12, z_r0_13, z_r0_0_0, z_r0_0_2, z_r0_1_6, z_r0_1_7, z_r0_1_8, z_r0_1_9, z_r0_1_10, z_r0_5_0, z_r0_5_1, z_r0_5_2, z_r0_5_0_6, z_r0_5_0_7, z_r0_5_0_8, z_r0_5_0_9, z_r0_5_0_10, z_rr24_1] at p0v70
        try simp only [e49, e50, e51, e52, e53] at p0v70
        try have q0v70 := congrArg Int32.toInt p0v70
        have hse := p0v70
        refine z_iinc C (z := 1) (lw := fun x79 => [(3, .int x79), (0, .ref r0), (1, .int x1), (2, .ref rr24)]) rfl rfl rfl (Nat.le_of_ble_eq_true rfl) rfl ⟨by omega, by omega⟩ (fun _ => rfl) (fun x79 ex79 => ?_)
        show V 85 [(3, .int x79), (0, .ref r0), (1, .int x1), (2, .ref rr24)] _ _ _ _
        refine k_goto C (pc2 := 56) rfl rfl ?_
        refine k_sub S [(0, .ref r0), (1, .int x1), (2, .ref rr24), (3, .int x79)] (List.forall_mem_cons.mpr ⟨List.mem_of_getElem? (i := 1) rfl, List.forall_mem_cons.mpr ⟨List.mem_of_getElem? (i := 2) rfl, List.forall_mem_cons.mpr ⟨List.mem_of_getElem? (i := 3) rfl, List.forall_mem_cons.mpr ⟨List.mem_of_getElem? (i := 0) rfl, fun _ h => nomatch h⟩⟩⟩⟩) ?_
        exact ihJ38 _ (MN.lt hmnn39 (by omega) (by omega)) I71 L72 x79 rfl hI71 (Chg.cons S45 (Chg.mono (Chg.up S73 (sl_1 (Or.inr (Or.inr (Or.inr (z_rr24_1.symm.trans (by rw [k0_r0_1_1, oF]))))))) (by decide)) (by decide)) (by omega) (by omega) (by exact NMF.s ff56_0 hse (by rw [hof, hl, hby (by omega) (by omega)]) (by omega) (by omega) (by omega)) (by omega)
    refine k_istore_n C (lw := [(3, .int x37), (2, .ref rr24), (1, .int x1), (0, .ref r0)]) rfl rfl (Nat.le_of_ble_eq_true rfl) rfl ?_
    refine k_sub S [(0, .ref r0), (1, .int x1), (2, .ref rr24), (3, .int x37)] (List.forall_mem_cons.mpr ⟨List.mem_of_getElem? (i := 3) rfl, List.forall_mem_cons.mpr ⟨List.mem_of_getElem? (i := 2) rfl, List.forall_mem_cons.mpr ⟨List.mem_of_getElem? (i := 1) rfl, List.forall_mem_cons.mpr ⟨List.mem_of_getElem? (i := 0) rfl, fun _ h => nomatch h⟩⟩⟩⟩) ?_
    exact J38 _ I28 L29 x37 rfl hI28 Chg.rf (by omega) (by omega) (by exact NMF.z (by omega)) (by omega)
  exact k_throw C rfl rfl rfl rfl rfl rfl (Nat.le_of_ble_eq_true rfl) (Nat.le_of_ble_eq_true rfl) (Nat.le_of_ble_eq_true rfl) (Or.inr ⟨_, _, _, (by decide : 0 ∈ [0, 2]), rfl, rfl, ⟨⟨hI2, (by (try simp only [z_r0_0, z_r0_1, z_r0_2, z_r0_5, z_r0_6, z_r0_7, z_r0_8, z_r0_9, z_r0_10, z_r0_11, z_r0_12, z_r0_13, z_r0_0_0, z_r0_0_2, z_r0_1_6, z_r0_1_7, z_r0_1_8, z_r0_1_9, z_r0_1_10, z_r0_5_0, z_r0_5_1, z_r0_5_2, z_r0_5_0_6, z_r0_5_0_7, z_r0_5_0_8, z_r0_5_0_9, z_r0_5_0_10]); exact (Chg.mono (Chg.up S4 (sl_1 (Or.inl rfl))) (by decide)))⟩, (fun _ => by simp only [z_r0_0, z_r0_1, z_r0_2, z_r0_5, z_r0_6, z_r0_7, z_r0_8, z_r0_9, z_r0_10, z_r0_11, z_r0_12, z_r0_13, z_r0_0_0, z_r0_0_2, z_r0_1_6, z_r0_1_7, z_r0_1_8, z_r0_1_9, z_r0_1_10, z_r0_5_0, z_r0_5_1, z_r0_5_2, z_r0_5_0_6, z_r0_5_0_7, z_r0_5_0_8, z_r0_5_0_9, z_r0_5_0_10, k0_r0_0_1]; omega), (fun _ => by simp only [z_r0_0, z_r0_1, z_r0_2, z_r0_5, z_r0_6, z_r0_7, z_r0_8, z_r0_9, z_r0_10, z_r0_11, z_r0_12, z_r0_13, z_r0_0_0, z_r0_0_2, z_r0_1_6, z_r0_1_7, z_r0_1_8, z_r0_1_9, z_r0_1_10, z_r0_5_0, z_r0_5_1, z_r0_5_2, z_r0_5_0_6, z_r0_5_0_7, z_r0_5_0_8, z_r0_5_0_9, z_r0_5_0_10]; rw [e9]; omega), (fun _ => by simp only [z_r0_0, z_r0_1, z_r0_2, z_r0_5, z_r0_6, z_r0_7, z_r0_8, z_r0_9, z_r0_10, z_r0_11, z_r0_12, z_r0_13, z_r0_0_0, z_r0_0_2, z_r0_1_6, z_r0_1_7, z_r0_1_8, z_r0_1_9, z_r0_1_10, z_r0_5_0, z_r0_5_1, z_r0_5_2, z_r0_5_0_6, z_r0_5_0_7, z_r0_5_0_8, z_r0_5_0_9, z_r0_5_0_10]; exact fun a ha k => congrFun (Chg.at hS4 (nm_1 ha)) k), (fun h9 => absurd h9 (by decide)), (fun h9 => absurd h9 (by decide)), (fun h9 => absurd h9 (by decide))⟩⟩)

