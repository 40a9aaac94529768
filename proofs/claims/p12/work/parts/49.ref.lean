-- 49.ref.lean.txt
section
/-! the reference in any state: the image -/
end
-- 50.ref.lean.txt
section
/-! the reference in any state: a step of signs -/
theorem a_X12_emits {d : Nat} {T N : Nat → Nat} {I : IT} {L : LT} {R : RT} {A : Nat → Prop} {r0 : Nat} {n1 n2 : Int32} (hI : IM R r0 I) (H_r0 : (h_MD T N R A) r0) (b0_n1 : 0 ≤ n1.toInt) (b1_n1 : n1.toInt ≤ 5) (b0_n2 : 0 ≤ n2.toInt) (b1_n2 : n2.toInt ≤ 999) (hp0 : 0 ≤ (I r0 19).toInt) (hp1 : (I r0 19).toInt ≤ 198) : Ex (d + 1) 224 [.ref r0, .int n1, .int n2] (T, N, I, L, R) 0 0 (pI T N R (fun x9 I9 L9 => (1 ≤ x9.toInt) ∧ (x9.toInt ≤ 1) ∧ (∀ a1, R r0 1 = some a1 → EMT (I a1) (I9 a1) (I r0 19).toNatClampNeg n1 n2) ∧ ((I9 r0 19).toInt = (I r0 19).toInt + 1) ∧ (∀ a1, R r0 1 = some a1 → ∀ r : Nat, r < 3606 → I9 a1 r = I a1 r) ∧ (IM R r0 I9 ∧ CM A R r0 [19] [1] I L I9 L9))) := by
  refine ⟨_, rfl, Nat.le_of_ble_eq_true rfl, fun V C S => ?_⟩
  show V 0 [(0, .ref r0), (1, .int n1), (2, .int n2)] [] (T, N, I, L, R) 0 0
  have gn1 := rg n1
  have gn2 := rg n2
  obtain ⟨T_r0, A_r0, ⟨r0_1, R_r0_1, H_r0_1⟩, ⟨r0_2, R_r0_2, H_r0_2⟩, ⟨r0_4, R_r0_4, H_r0_4⟩, ⟨r0_5, R_r0_5, H_r0_5⟩, ⟨r0_10, R_r0_10, H_r0_10⟩, ⟨r0_18, R_r0_18, H_r0_18⟩, ⟨r0_20, R_r0_20, H_r0_20⟩, ⟨r0_21, R_r0_21, H_r0_21⟩, ⟨r0_22, R_r0_22, H_r0_22⟩, ⟨r0_23, R_r0_23, H_r0_23⟩, ⟨r0_25, R_r0_25, H_r0_25⟩, ⟨r0_26, R_r0_26, H_r0_26⟩, ⟨r0_27, R_r0_27, H_r0_27⟩, ⟨r0_28, R_r0_28, H_r0_28⟩, ⟨r0_34, R_r0_34, H_r0_34⟩, J_r0, Y_r0⟩ := id H_r0
  have G_r0 : mF T R r0 := ⟨J_r0, Y_r0, T_r0⟩
  obtain ⟨w_r0_19, k0_r0_19⟩ : ∃ x, I r0 19 = x := ⟨_, rfl⟩
  have gw_r0_19 := rg w_r0_19
  try simp only [k0_r0_19] at hp0
  try simp only [k0_r0_19] at hp1
  refine k_aload_n C rfl rfl rfl ?_
  refine g_R C rfl rfl rfl T_r0 rfl R_r0_1 ?_
  refine z_sipush C (z := 3607) rfl rfl rfl (fun x1 ex1 => ?_)
  refine z_iconst C (z := 2) rfl rfl rfl (fun x2 ex2 => ?_)
  refine k_aload_n C rfl rfl rfl ?_
  refine g_I C rfl rfl rfl T_r0 rfl k0_r0_19 ?_
  refine z_imulL C (c := 2) rfl rfl (by omega) ⟨by omega, by omega⟩ (fun x3 ex3 => ?_)
  refine z_iadd C rfl rfl ⟨by omega, by omega⟩ (fun x4 ex4 => ?_)
  refine k_iload_n C rfl rfl rfl ?_
  obtain ⟨T_r0_1, N_r0_1, A_r0_1⟩ := id H_r0_1
  refine z_sI C rfl rfl T_r0_1 N_r0_1 (by omega) (by omega) (fun I5 uI5 => ?_)
  have hI5 : IM R r0 I5 := IM.arr hI G_r0 R_r0_1 ⟨(fun h => absurd h (by decide)), (fun h => absurd h (by decide)), (fun h => absurd h (by decide))⟩ (fun _ => WOK.dr (IM.w hI R_r0_1) (by omega)) uI5
  have S6 : CM A R r0 [] [1] I L I5 L := CM.a G_r0 R_r0_1 A_r0_1 uI5
  have F7 : ∀ r : Nat, r < 3606 → I5 r0_1 r = I r0_1 r := fun r z0 => by rw [uI5]; exact u2_k (by have h2 := ncz (x := x4) (by omega); omega)
  have e8 := u2_n uI5 (fun e => (mF.ne G_r0 R_r0_1) e.symm) k0_r0_19
  have e9 := u2_e uI5
  have hu15 := uI5
  refine k_aload_n C rfl rfl rfl ?_
  refine g_R C rfl rfl rfl T_r0 rfl R_r0_1 ?_
  refine z_sipush C (z := 3608) rfl rfl rfl (fun x10 ex10 => ?_)
  refine z_iconst C (z := 2) rfl rfl rfl (fun x11 ex11 => ?_)
  refine k_aload_n C rfl rfl rfl ?_
  refine g_I C rfl rfl rfl T_r0 rfl e8 ?_
  refine z_imulL C (c := 2) rfl rfl (by omega) ⟨by omega, by omega⟩ (fun x12 ex12 => ?_)
  refine z_iadd C rfl rfl ⟨by omega, by omega⟩ (fun x13 ex13 => ?_)
  refine k_iload_n C rfl rfl rfl ?_
  refine z_sI C rfl rfl T_r0_1 N_r0_1 (by omega) (by omega) (fun I14 uI14 => ?_)
  have hI14 : IM R r0 I14 := IM.arr hI5 G_r0 R_r0_1 ⟨(fun h => absurd h (by decide)), (fun h => absurd h (by decide)), (fun h => absurd h (by decide))⟩ (fun _ => WOK.dr (IM.w hI5 R_r0_1) (by omega)) uI14
  have S15 : CM A R r0 [] [1] I5 L I14 L := CM.a G_r0 R_r0_1 A_r0_1 uI14
  have F16 : ∀ r : Nat, r < 3606 → I14 r0_1 r = I5 r0_1 r := fun r z0 => by rw [uI14]; exact u2_k (by have h2 := ncz (x := x13) (by omega); omega)
  have e17 := u2_n uI14 (fun e => (mF.ne G_r0 R_r0_1) e.symm) e8
  have e19 := u2_e uI14
  have hu31 := uI14
  refine k_aload_n C rfl rfl rfl ?_
  refine k_dup C rfl rfl rfl ?_
  refine g_I C rfl rfl rfl T_r0 rfl e17 ?_
  refine z_iconst C (z := 1) rfl rfl rfl (fun x20 ex20 => ?_)
  refine z_iadd C rfl rfl ⟨by omega, by omega⟩ (fun x21 ex21 => ?_)
  refine z_pI C rfl rfl rfl T_r0 (Or.inr rfl) rfl (fun I22 uI22 => ?_)
  have hI22 : IM R r0 I22 := IM.fld hI14 G_r0 ⟨(fun h => absurd h (by decide)), (fun h => absurd h (by decide)), (fun h => absurd h (by decide)), (fun h => absurd h (by decide)), (fun h => absurd h (by decide))⟩ uI22
  have S23 : CM A R r0 [19] [] I14 L I22 L := CM.f G_r0 A_r0 uI22
  have e25 := u2_n uI22 (mF.ne G_r0 R_r0_1) e19
  have e26 := u2_e uI22
  refine z_iconst C (z := 1) rfl rfl rfl (fun x27 ex27 => ?_)
  exact k_iret C rfl (Or.inr ⟨rfl, z01 (by omega) (by omega)⟩) (Nat.le_of_ble_eq_true rfl) (Nat.le_of_ble_eq_true rfl) ⟨_, _, _, rfl, rfl, by omega, by omega, fun a1 h1 => by cases (R_r0_1.symm.trans h1); rw [CM.j0 S23 R_r0_1 (by decide)]; simp only [k0_r0_19]; exact EMT.of hu15 hu31 (by omega) (by omega) (by omega), by first | omega | (simp only [e25, e26, k0_r0_19] <;> omega), fun a1 h1 => by cases (R_r0_1.symm.trans h1); exact (fun r z0 => ((congrFun (CM.j0 S23 R_r0_1 (by decide)) r).trans ((F16 r z0).trans (F7 r z0)))), hI22, (CM.cons S6 (CM.cons S15 (CM.mono S23 (by decide) (by decide)) (by decide) (by decide)) (by decide) (by decide))⟩
end
