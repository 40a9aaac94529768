-- 49.ref.lean.txt
section
/-! the reference in any state: the image -/
theorem a_X12_image {d : Nat} {T N : Nat → Nat} {I : IT} {L : LT} {R : RT} {A : Nat → Prop} {r0 : Nat} (hI : IM R r0 I) (H_r0 : (h_MD T N R A) r0) (hp0 : ∀ a1, R r0 1 = some a1 → (I a1 4).toInt + (I a1 5).toInt ≤ 40) : Ex (d + 1) 181 [.ref r0] (T, N, I, L, R) 0 0 (pV T N R (fun I9 L9 => (∀ a2, R r0 2 = some a2 → WOS (I9 a2)) ∧ (IM R r0 I9 ∧ CM A R r0 [0, 3] [2] I L I9 L9))) := by
  refine ⟨_, rfl, Nat.le_of_ble_eq_true rfl, fun V C S => ?_⟩
  show V 0 [(0, .ref r0)] [] (T, N, I, L, R) 0 0
  obtain ⟨T_r0, A_r0, ⟨r0_1, R_r0_1, H_r0_1⟩, ⟨r0_2, R_r0_2, H_r0_2⟩, ⟨r0_4, R_r0_4, H_r0_4⟩, ⟨r0_5, R_r0_5, H_r0_5⟩, ⟨r0_10, R_r0_10, H_r0_10⟩, ⟨r0_18, R_r0_18, H_r0_18⟩, ⟨r0_20, R_r0_20, H_r0_20⟩, ⟨r0_21, R_r0_21, H_r0_21⟩, ⟨r0_22, R_r0_22, H_r0_22⟩, ⟨r0_23, R_r0_23, H_r0_23⟩, ⟨r0_25, R_r0_25, H_r0_25⟩, ⟨r0_26, R_r0_26, H_r0_26⟩, ⟨r0_27, R_r0_27, H_r0_27⟩, ⟨r0_28, R_r0_28, H_r0_28⟩, ⟨r0_34, R_r0_34, H_r0_34⟩, J_r0, Y_r0⟩ := id H_r0
  have G_r0 : mF T R r0 := ⟨J_r0, Y_r0, T_r0⟩
  obtain ⟨w_r0_1_4, k0_r0_1_4⟩ : ∃ x, I r0_1 4 = x := ⟨_, rfl⟩
  have gw_r0_1_4 := rg w_r0_1_4
  have ow_r0_1_4 := IM.c4 hI R_r0_1 k0_r0_1_4
  obtain ⟨w_r0_1_5, k0_r0_1_5⟩ : ∃ x, I r0_1 5 = x := ⟨_, rfl⟩
  have gw_r0_1_5 := rg w_r0_1_5
  have ow_r0_1_5 := IM.c5 hI R_r0_1 k0_r0_1_5
  have hp0 := hp0 r0_1 R_r0_1
  try simp only [k0_r0_1_4, k0_r0_1_5] at hp0
  refine k_aload_n C rfl rfl rfl ?_
  refine z_iconst C (z := 0) rfl rfl rfl (fun x1 ex1 => ?_)
  refine z_pI C rfl rfl rfl T_r0 (Or.inr rfl) rfl (fun I2 uI2 => ?_)
  have hI2 : IM R r0 I2 := IM.fld hI G_r0 ⟨(fun h => absurd h (by decide)), (fun h => absurd h (by decide)), (fun h => absurd h (by decide)), (fun h => absurd h (by decide)), (fun h => absurd h (by decide))⟩ uI2
  have S3 : CM A R r0 [0] [] I L I2 L := CM.f G_r0 A_r0 uI2
  have e4 := u2_n uI2 (mF.ne G_r0 R_r0_1) k0_r0_1_4
  have e5 := u2_n uI2 (mF.ne G_r0 R_r0_1) k0_r0_1_5
  have e6 := u2_e uI2
  refine z_iconst C (z := 0) rfl rfl rfl (fun x7 ex7 => ?_)
  have J8 : ∀ (nn9 : Nat) (I10 : IT) (L11 : LT) (x12 : Int32), ((3606 - x12.toInt).toNat = nn9) → (IM R r0 I10) → (CM A R r0 [] [2] I2 L I10 L11) → (0 ≤ x12.toInt) → (x12.toInt ≤ 3606) → (CPW I10 r0_1 r0_2 x12.toInt) → V 7 [(0, .ref r0), (1, .int x12)] [] (T, N, I10, L11, R) 0 0 := by
    intro nn9
    induction nn9 using Nat.strongRecOn with
    | _ nn9 ihJ8 =>
      intro I10 L11 x12 hmnn9 hI16 S15 b13 b14 ff7_0
      have gx12 := rg x12
      have e17 := CM.j S15 R_r0_1 (by decide) e4
      have e18 := CM.j S15 R_r0_1 (by decide) e5
      have e19 := CM.k S15 (by decide) e6
      refine k_iload_n C rfl rfl rfl ?_
      refine z_sipush C (z := 3606) rfl rfl rfl (fun x20 ex20 => ?_)
      refine b_icmp_ge C (t := 32) rfl rfl rfl (fun c21 => ?_) (fun c21 => ?_)
      · skip
        refine k_aload_n C rfl rfl rfl ?_
        refine z_iconst C (z := 1) rfl rfl rfl (fun x22 ex22 => ?_)
        refine z_pZ C rfl rfl rfl T_r0 (Or.inr rfl) rfl (z01 (by omega) (by omega)) (fun I23 uI23 => ?_)
        have hI23 : IM R r0 I23 := IM.fld hI16 G_r0 ⟨(fun h => absurd h (by decide)), (fun h => absurd h (by decide)), (fun h => absurd h (by decide)), (fun h => absurd h (by decide)), (fun h => absurd h (by decide))⟩ uI23
        have S24 : CM A R r0 [3] [] I10 L11 I23 L11 := CM.f G_r0 A_r0 uI23
        have e25 := u2_n uI23 (mF.ne G_r0 R_r0_1) e17
        have e26 := u2_n uI23 (mF.ne G_r0 R_r0_1) e18
        have e27 := u2_j uI23 (by first | decide | exact ncne (by omega) (by omega) (by omega) | exact nckn (by omega) (by omega) | exact (nckn (by omega) (by omega)).symm) e19
        have e28 := u2_e uI23
        exact k_vret C rfl rfl (Nat.le_of_ble_eq_true rfl) (Nat.le_of_ble_eq_true rfl) ⟨_, _, rfl, rfl, fun a2 h2 => by cases (R_r0_2.symm.trans h2); exact WOS.eq (g := I23 r0_1) ⟨IM.w hI23 R_r0_1, by rw [e25, e26]; omega⟩ (fun k hk => by rw [CM.j0 S24 R_r0_2 (by decide), CM.j0 S24 R_r0_1 (by decide)]; exact ff7_0 k (by omega)), hI23, (CM.cons S3 (CM.cons S15 (CM.mono S24 (by decide) (by decide)) (by decide) (by decide)) (by decide) (by decide))⟩
      refine k_aload_n C rfl rfl rfl ?_
      refine g_R C rfl rfl rfl T_r0 rfl R_r0_2 ?_
      refine k_iload_n C rfl rfl rfl ?_
      refine k_aload_n C rfl rfl rfl ?_
      refine g_R C rfl rfl rfl T_r0 rfl R_r0_1 ?_
      refine k_iload_n C rfl rfl rfl ?_
      obtain ⟨T_r0_1, N_r0_1, A_r0_1⟩ := id H_r0_1
      refine z_aI C rfl rfl T_r0_1 N_r0_1 (by omega) (by omega) (fun x29 ex29 => ?_)
      have gx29 := rg x29
      have hr := ex29
      obtain ⟨T_r0_2, N_r0_2, A_r0_2⟩ := id H_r0_2
      refine z_sI C rfl rfl T_r0_2 N_r0_2 (by omega) (by omega) (fun I30 uI30 => ?_)
      have hI30 : IM R r0 I30 := IM.arr hI16 G_r0 R_r0_2 ⟨(fun h => absurd h (by decide)), (fun h => absurd h (by decide)), (fun h => absurd h (by decide))⟩ (fun h => absurd h (by decide)) uI30
      have S31 : CM A R r0 [] [2] I10 L11 I30 L11 := CM.a G_r0 R_r0_2 A_r0_2 uI30
      have e32 := u2_n uI30 (mF.nq G_r0 R_r0_1 R_r0_2 (by decide)) e17
      have e33 := u2_n uI30 (mF.nq G_r0 R_r0_1 R_r0_2 (by decide)) e18
      have e34 := u2_n uI30 (fun e => (mF.ne G_r0 R_r0_2) e.symm) e19
      have e35 := u2_n uI30 (mF.nq G_r0 R_r0_1 R_r0_2 (by decide)) ex29
      have e36 := u2_e uI30
      have hu := uI30
      refine z_iinc C (z := 1) (lw := fun x37 => [(1, .int x37), (0, .ref r0)]) rfl rfl rfl (Nat.le_of_ble_eq_true rfl) rfl ⟨by omega, by omega⟩ (fun _ => rfl) (fun x37 ex37 => ?_)
      show V 29 [(1, .int x37), (0, .ref r0)] _ _ _ _
      refine k_goto C (pc2 := 7) rfl rfl ?_
      refine k_sub S [(0, .ref r0), (1, .int x37)] (List.forall_mem_cons.mpr ⟨List.mem_of_getElem? (i := 1) rfl, List.forall_mem_cons.mpr ⟨List.mem_of_getElem? (i := 0) rfl, fun _ h => nomatch h⟩⟩) ?_
      exact ihJ8 _ (by omega) I30 L11 x37 rfl hI30 (CM.cons S15 (CM.mono S31 (by decide) (by decide)) (by decide) (by decide)) (by omega) (by omega) (by exact CPW.s ff7_0 hu (mF.nq G_r0 R_r0_1 R_r0_2 (by decide)) hr (by omega) (by omega))
  refine k_istore_n C (lw := [(1, .int x7), (0, .ref r0)]) rfl rfl (Nat.le_of_ble_eq_true rfl) rfl ?_
  refine k_sub S [(0, .ref r0), (1, .int x7)] (List.forall_mem_cons.mpr ⟨List.mem_of_getElem? (i := 1) rfl, List.forall_mem_cons.mpr ⟨List.mem_of_getElem? (i := 0) rfl, fun _ h => nomatch h⟩⟩) ?_
  exact J8 _ I2 L x7 rfl hI2 CM.rf (by omega) (by omega) (by exact CPW.z (by omega))

theorem a_X12_back {d : Nat} {T N : Nat → Nat} {I : IT} {L : LT} {R : RT} {A : Nat → Prop} {r0 : Nat} (hI : IM R r0 I) (H_r0 : (h_MD T N R A) r0) (hp0 : ∀ a1, R r0 1 = some a1 → (I a1 4).toInt + (I a1 5).toInt ≤ 40) (hp1 : ∀ a2, R r0 2 = some a2 → (I r0 3).toInt ≠ 0 → WOS (I a2)) : Ex (d + 1) 182 [.ref r0] (T, N, I, L, R) 0 0 (pI T N R (fun x9 I9 L9 => (0 ≤ x9.toInt) ∧ (x9.toInt ≤ 1) ∧ (∀ a1, R r0 1 = some a1 → (I9 a1 4).toInt + (I9 a1 5).toInt ≤ 40) ∧ (IM R r0 I9 ∧ CM A R r0 [0] [1] I L I9 L9))) := by
  refine ⟨_, rfl, Nat.le_of_ble_eq_true rfl, fun V C S => ?_⟩
  show V 0 [(0, .ref r0)] [] (T, N, I, L, R) 0 0
  obtain ⟨T_r0, A_r0, ⟨r0_1, R_r0_1, H_r0_1⟩, ⟨r0_2, R_r0_2, H_r0_2⟩, ⟨r0_4, R_r0_4, H_r0_4⟩, ⟨r0_5, R_r0_5, H_r0_5⟩, ⟨r0_10, R_r0_10, H_r0_10⟩, ⟨r0_18, R_r0_18, H_r0_18⟩, ⟨r0_20, R_r0_20, H_r0_20⟩, ⟨r0_21, R_r0_21, H_r0_21⟩, ⟨r0_22, R_r0_22, H_r0_22⟩, ⟨r0_23, R_r0_23, H_r0_23⟩, ⟨r0_25, R_r0_25, H_r0_25⟩, ⟨r0_26, R_r0_26, H_r0_26⟩, ⟨r0_27, R_r0_27, H_r0_27⟩, ⟨r0_28, R_r0_28, H_r0_28⟩, ⟨r0_34, R_r0_34, H_r0_34⟩, J_r0, Y_r0⟩ := id H_r0
  have G_r0 : mF T R r0 := ⟨J_r0, Y_r0, T_r0⟩
  obtain ⟨w_r0_1_4, k0_r0_1_4⟩ : ∃ x, I r0_1 4 = x := ⟨_, rfl⟩
  have gw_r0_1_4 := rg w_r0_1_4
  have ow_r0_1_4 := IM.c4 hI R_r0_1 k0_r0_1_4
  obtain ⟨w_r0_1_5, k0_r0_1_5⟩ : ∃ x, I r0_1 5 = x := ⟨_, rfl⟩
  have gw_r0_1_5 := rg w_r0_1_5
  have ow_r0_1_5 := IM.c5 hI R_r0_1 k0_r0_1_5
  obtain ⟨w_r0_3, k0_r0_3⟩ : ∃ x, I r0 3 = x := ⟨_, rfl⟩
  have gw_r0_3 := rg w_r0_3
  have hp0 := hp0 r0_1 R_r0_1
  have hp1 := hp1 r0_2 R_r0_2
  try simp only [k0_r0_1_4, k0_r0_1_5, k0_r0_3] at hp0
  try simp only [k0_r0_1_4, k0_r0_1_5, k0_r0_3] at hp1
  refine k_aload_n C rfl rfl rfl ?_
  refine z_iconst C (z := 0) rfl rfl rfl (fun x1 ex1 => ?_)
  refine z_pI C rfl rfl rfl T_r0 (Or.inr rfl) rfl (fun I2 uI2 => ?_)
  have hI2 : TT R r0 I2 := TT.i
  have S3 : CM A R r0 [0] [] I L I2 L := CM.f G_r0 A_r0 uI2
  have e4 := u2_n uI2 (mF.ne G_r0 R_r0_1) k0_r0_1_4
  have e5 := u2_n uI2 (mF.ne G_r0 R_r0_1) k0_r0_1_5
  have e6 := u2_j uI2 (by first | decide | exact ncne (by omega) (by omega) (by omega) | exact nckn (by omega) (by omega) | exact (nckn (by omega) (by omega)).symm) k0_r0_3
  have e7 := u2_e uI2
  refine k_aload_n C rfl rfl rfl ?_
  refine g_I C rfl rfl rfl T_r0 rfl e6 ?_
  refine b_if_ne C (t := 14) rfl rfl rfl (fun c8 => ?_) (fun c8 => ?_)
  · skip
    refine z_iconst C (z := 0) rfl rfl rfl (fun x9 ex9 => ?_)
    have J10 : ∀ (nn11 : Nat) (I12 : IT) (L13 : LT) (x14 : Int32), ((3606 - x14.toInt).toNat = nn11) → (TT R r0 I12) → (CM A R r0 [] [1] I2 L I12 L13) → (0 ≤ x14.toInt) → (x14.toInt ≤ 3606) → (CPW I12 r0_2 r0_1 x14.toInt) → V 16 [(0, .ref r0), (1, .int x14)] [] (T, N, I12, L13, R) 0 0 := by
      intro nn11
      induction nn11 using Nat.strongRecOn with
      | _ nn11 ihJ10 =>
        intro I12 L13 x14 hmnn11 hI18 S17 b15 b16 ff16_0
        have gx14 := rg x14
        have e19 := CM.k S17 (by decide) e6
        have e20 := CM.k S17 (by decide) e7
        refine k_iload_n C rfl rfl rfl ?_
        refine z_sipush C (z := 3606) rfl rfl rfl (fun x21 ex21 => ?_)
        refine b_icmp_ge C (t := 41) rfl rfl rfl (fun c22 => ?_) (fun c22 => ?_)
        · skip
          refine z_iconst C (z := 1) rfl rfl rfl (fun x23 ex23 => ?_)
          exact k_iret C rfl (Or.inr ⟨rfl, z01 (by omega) (by omega)⟩) (Nat.le_of_ble_eq_true rfl) (Nat.le_of_ble_eq_true rfl) ⟨_, _, _, rfl, rfl, by omega, by omega, fun a1 h1 => by cases (R_r0_1.symm.trans h1); rw [ff16_0 4 (by omega), ff16_0 5 (by omega), (CM.j0 (I := I) (L := L) (I' := I12) (L' := L13) (A := A) (W := [0]) (WA := [1]) (CM.cons S3 (CM.mono S17 (by decide) (by decide)) (by decide) (by decide)) R_r0_2 (by decide))]; exact (hp1 (by omega)).2, IM.bk hI (CM.cons S3 (CM.mono S17 (by decide) (by decide)) (by decide) (by decide)) R_r0_1 (WOK.eq (g := I12 r0_2) (by rw [(CM.j0 (I := I) (L := L) (I' := I12) (L' := L13) (A := A) (W := [0]) (WA := [1]) (CM.cons S3 (CM.mono S17 (by decide) (by decide)) (by decide) (by decide)) R_r0_2 (by decide))]; exact (hp1 (by omega)).1) (fun k hk => ff16_0 k (by omega))), (CM.cons S3 (CM.mono S17 (by decide) (by decide)) (by decide) (by decide))⟩
        refine k_aload_n C rfl rfl rfl ?_
        refine g_R C rfl rfl rfl T_r0 rfl R_r0_1 ?_
        refine k_iload_n C rfl rfl rfl ?_
        refine k_aload_n C rfl rfl rfl ?_
        refine g_R C rfl rfl rfl T_r0 rfl R_r0_2 ?_
        refine k_iload_n C rfl rfl rfl ?_
        obtain ⟨T_r0_2, N_r0_2, A_r0_2⟩ := id H_r0_2
        refine z_aI C rfl rfl T_r0_2 N_r0_2 (by omega) (by omega) (fun x24 ex24 => ?_)
        have gx24 := rg x24
        have hr := ex24
        obtain ⟨T_r0_1, N_r0_1, A_r0_1⟩ := id H_r0_1
        refine z_sI C rfl rfl T_r0_1 N_r0_1 (by omega) (by omega) (fun I25 uI25 => ?_)
        have hI25 : TT R r0 I25 := TT.i
        have S26 : CM A R r0 [] [1] I12 L13 I25 L13 := CM.a G_r0 R_r0_1 A_r0_1 uI25
        have e27 := u2_n uI25 (fun e => (mF.ne G_r0 R_r0_1) e.symm) e19
        have e28 := u2_n uI25 (fun e => (mF.ne G_r0 R_r0_1) e.symm) e20
        have e29 := u2_n uI25 (mF.nq G_r0 R_r0_2 R_r0_1 (by decide)) ex24
        have e30 := u2_e uI25
        have hu := uI25
        refine z_iinc C (z := 1) (lw := fun x31 => [(1, .int x31), (0, .ref r0)]) rfl rfl rfl (Nat.le_of_ble_eq_true rfl) rfl ⟨by omega, by omega⟩ (fun _ => rfl) (fun x31 ex31 => ?_)
        show V 38 [(1, .int x31), (0, .ref r0)] _ _ _ _
        refine k_goto C (pc2 := 16) rfl rfl ?_
        refine k_sub S [(0, .ref r0), (1, .int x31)] (List.forall_mem_cons.mpr ⟨List.mem_of_getElem? (i := 1) rfl, List.forall_mem_cons.mpr ⟨List.mem_of_getElem? (i := 0) rfl, fun _ h => nomatch h⟩⟩) ?_
        exact ihJ10 _ (by omega) I25 L13 x31 rfl TT.i (CM.cons S17 (CM.mono S26 (by decide) (by decide)) (by decide) (by decide)) (by omega) (by omega) (by exact CPW.s ff16_0 hu (mF.nq G_r0 R_r0_2 R_r0_1 (by decide)) hr (by omega) (by omega))
    refine k_istore_n C (lw := [(1, .int x9), (0, .ref r0)]) rfl rfl (Nat.le_of_ble_eq_true rfl) rfl ?_
    refine k_sub S [(0, .ref r0), (1, .int x9)] (List.forall_mem_cons.mpr ⟨List.mem_of_getElem? (i := 1) rfl, List.forall_mem_cons.mpr ⟨List.mem_of_getElem? (i := 0) rfl, fun _ h => nomatch h⟩⟩) ?_
    exact J10 _ I2 L x9 rfl TT.i CM.rf (by omega) (by omega) (by exact CPW.z (by omega))
  refine z_iconst C (z := 0) rfl rfl rfl (fun x32 ex32 => ?_)
  exact k_iret C rfl (Or.inr ⟨rfl, z01 (by omega) (by omega)⟩) (Nat.le_of_ble_eq_true rfl) (Nat.le_of_ble_eq_true rfl) ⟨_, _, _, rfl, rfl, by omega, by omega, fun a1 h1 => by cases (R_r0_1.symm.trans h1); first | omega | (simp only [e4, e5, e6, e7, k0_r0_1_4, k0_r0_1_5, k0_r0_3] <;> omega), IM.bk hI (CM.mono S3 (by decide) (by decide)) R_r0_1 (by rw [CM.j0 S3 R_r0_1 (by decide)]; exact IM.w hI R_r0_1), (CM.mono S3 (by decide) (by decide))⟩
end
-- 50.ref.lean.txt
section
/-! the reference in any state: a step of signs -/
theorem a_X12_emits {d : Nat} {T N : Nat → Nat} {I : IT} {L : LT} {R : RT} {A : Nat → Prop} {r0 : Nat} {n1 n2 : Int32} (hI : IM R r0 I) (H_r0 : (h_MD T N R A) r0) (b0_n1 : 0 ≤ n1.toInt) (b1_n1 : n1.toInt ≤ 5) (b0_n2 : 0 ≤ n2.toInt) (b1_n2 : n2.toInt ≤ 999) (hp0 : 0 ≤ (I r0 19).toInt) (hp1 : (I r0 19).toInt ≤ 198) : Ex (d + 1) 224 [.ref r0, .int n1, .int n2] (T, N, I, L, R) 0 0 (pI T N R (fun x9 I9 L9 => (1 ≤ x9.toInt) ∧ (x9.toInt ≤ 1) ∧ (∀ a1, R r0 1 = some a1 → EMT (I a1) (I9 a1) (I r0 19).toNatClampNeg n1 n2) ∧ ((I9 r0 19).toInt = (I r0 19).toInt + 1) ∧ (∀ a1, R r0 1 = some a1 → ∀ r : Nat, r < 3606 → I9 a1 r = I a1 r) ∧ (IM R r0 I9 ∧ CM A R r0 [19] [1] I L I9 L9))) := by
  refine ⟨_, rfl, Nat.le_of_ble_eq_true rfl, fun V C S => ?_⟩
  show V 0 [(0, .ref r0), (1, .int n1), (2, .int n2)] [] (T, N, I, L, R) 0 0
  have gn1 := rg n1
  have gn2 := rg n2
  obtain ⟨T_r0, A_r0, ⟨r0_1, R_r0_1, H_r0_1⟩, ⟨r0_2, R_r0_2, H_r0_2⟩, ⟨r0_4, R_r0_4, H_r0_4⟩, ⟨r0_5, R_r0_5, H_r0_5⟩, ⟨r0_10, R_r0_10, H_r0_10⟩, ⟨r0_18, R_r0_18, H_r0_18⟩, ⟨r0_20, R_r0_20, H_r0_20⟩, ⟨r0_21, R_r0_21, H_r0_21⟩, ⟨r0_22, R_r0_22, H_r0_22⟩, ⟨r0_23, R_r0_23, H_r0_23⟩, ⟨r0_25, R_r0_25, H_r0_25⟩, ⟨r0_26, R_r0_26, H_r0_26⟩, ⟨r0_27, R_r0_27, H_r0_27⟩, ⟨r0_28, R_r0_28, H_r0_28⟩, ⟨r0_34, R_r0_34, H_r0_34⟩, J_r0, Y_r0⟩ := id H_r0
  have G_r0 : mF T R r0 := ⟨J_r0, Y_r0, T_r0⟩
  obtain ⟨w_r0_19, k0_r0_19⟩ : ∃ x, I r0 19 = x := ⟨_, rfl⟩
  have gw_r0_19 := rg w_r0_19
  try simp only [k0_r0_19] at hp0
  try simp only [k0_r0_19] at hp1
  refine k_aload_n C rfl rfl rfl ?_
  refine g_R C rfl rfl rfl T_r0 rfl R_r0_1 ?_
  refine z_sipush C (z := 3607) rfl rfl rfl (fun x1 ex1 => ?_)
  refine z_iconst C (z := 2) rfl rfl rfl (fun x2 ex2 => ?_)
  refine k_aload_n C rfl rfl rfl ?_
  refine g_I C rfl rfl rfl T_r0 rfl k0_r0_19 ?_
  refine z_imulL C (c := 2) rfl rfl (by omega) ⟨by omega, by omega⟩ (fun x3 ex3 => ?_)
  refine z_iadd C rfl rfl ⟨by omega, by omega⟩ (fun x4 ex4 => ?_)
  refine k_iload_n C rfl rfl rfl ?_
  obtain ⟨T_r0_1, N_r0_1, A_r0_1⟩ := id H_r0_1
  refine z_sI C rfl rfl T_r0_1 N_r0_1 (by omega) (by omega) (fun I5 uI5 => ?_)
  have hI5 : IM R r0 I5 := IM.arr hI G_r0 R_r0_1 ⟨(fun h => absurd h (by decide)), (fun h => absurd h (by decide)), (fun h => absurd h (by decide))⟩ (fun _ => WOK.dr (IM.w hI R_r0_1) (by omega)) uI5
  have S6 : CM A R r0 [] [1] I L I5 L := CM.a G_r0 R_r0_1 A_r0_1 uI5
  have F7 : ∀ r : Nat, r < 3606 → I5 r0_1 r = I r0_1 r := fun r z0 => by rw [uI5]; exact u2_k (by have h2 := ncz (x := x4) (by omega); omega)
  have e8 := u2_n uI5 (fun e => (mF.ne G_r0 R_r0_1) e.symm) k0_r0_19
  have e9 := u2_e uI5
  have hu15 := uI5
  refine k_aload_n C rfl rfl rfl ?_
  refine g_R C rfl rfl rfl T_r0 rfl R_r0_1 ?_
  refine z_sipush C (z := 3608) rfl rfl rfl (fun x10 ex10 => ?_)
  refine z_iconst C (z := 2) rfl rfl rfl (fun x11 ex11 => ?_)
  refine k_aload_n C rfl rfl rfl ?_
  refine g_I C rfl rfl rfl T_r0 rfl e8 ?_
  refine z_imulL C (c := 2) rfl rfl (by omega) ⟨by omega, by omega⟩ (fun x12 ex12 => ?_)
  refine z_iadd C rfl rfl ⟨by omega, by omega⟩ (fun x13 ex13 => ?_)
  refine k_iload_n C rfl rfl rfl ?_
  refine z_sI C rfl rfl T_r0_1 N_r0_1 (by omega) (by omega) (fun I14 uI14 => ?_)
  have hI14 : IM R r0 I14 := IM.arr hI5 G_r0 R_r0_1 ⟨(fun h => absurd h (by decide)), (fun h => absurd h (by decide)), (fun h => absurd h (by decide))⟩ (fun _ => WOK.dr (IM.w hI5 R_r0_1) (by omega)) uI14
  have S15 : CM A R r0 [] [1] I5 L I14 L := CM.a G_r0 R_r0_1 A_r0_1 uI14
  have F16 : ∀ r : Nat, r < 3606 → I14 r0_1 r = I5 r0_1 r := fun r z0 => by rw [uI14]; exact u2_k (by have h2 := ncz (x := x13) (by omega); omega)
  have e17 := u2_n uI14 (fun e => (mF.ne G_r0 R_r0_1) e.symm) e8
  have e19 := u2_e uI14
  have hu31 := uI14
  refine k_aload_n C rfl rfl rfl ?_
  refine k_dup C rfl rfl rfl ?_
  refine g_I C rfl rfl rfl T_r0 rfl e17 ?_
  refine z_iconst C (z := 1) rfl rfl rfl (fun x20 ex20 => ?_)
  refine z_iadd C rfl rfl ⟨by omega, by omega⟩ (fun x21 ex21 => ?_)
  refine z_pI C rfl rfl rfl T_r0 (Or.inr rfl) rfl (fun I22 uI22 => ?_)
  have hI22 : IM R r0 I22 := IM.fld hI14 G_r0 ⟨(fun h => absurd h (by decide)), (fun h => absurd h (by decide)), (fun h => absurd h (by decide)), (fun h => absurd h (by decide)), (fun h => absurd h (by decide))⟩ uI22
  have S23 : CM A R r0 [19] [] I14 L I22 L := CM.f G_r0 A_r0 uI22
  have e25 := u2_n uI22 (mF.ne G_r0 R_r0_1) e19
  have e26 := u2_e uI22
  refine z_iconst C (z := 1) rfl rfl rfl (fun x27 ex27 => ?_)
  exact k_iret C rfl (Or.inr ⟨rfl, z01 (by omega) (by omega)⟩) (Nat.le_of_ble_eq_true rfl) (Nat.le_of_ble_eq_true rfl) ⟨_, _, _, rfl, rfl, by omega, by omega, fun a1 h1 => by cases (R_r0_1.symm.trans h1); rw [CM.j0 S23 R_r0_1 (by decide)]; simp only [k0_r0_19]; exact EMT.of hu15 hu31 (by omega) (by omega) (by omega), by first | omega | (simp only [e25, e26, k0_r0_19] <;> omega), fun a1 h1 => by cases (R_r0_1.symm.trans h1); exact (fun r z0 => ((congrFun (CM.j0 S23 R_r0_1 (by decide)) r).trans ((F16 r z0).trans (F7 r z0)))), hI22, (CM.cons S6 (CM.cons S15 (CM.mono S23 (by decide) (by decide)) (by decide) (by decide)) (by decide) (by decide))⟩
end
