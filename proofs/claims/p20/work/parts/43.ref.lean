/-! the reference in any state: signs -/
theorem a_X12_makes {d : Nat} {T N : Nat → Nat} {I : IT} {L : LT} {R : RT} {A : Nat → Prop} {r0 : Nat} {n1 : Int32} (hI : IM R r0 I) (H_r0 : (h_MD T N R A) r0) (b0_n1 : 0 ≤ n1.toInt) (b1_n1 : n1.toInt ≤ 7) (hp0 : ∀ a1, R r0 1 = some a1 → n1.toInt < (I a1 3).toInt) : Ex (d + 8) 252 [.ref r0, .int n1] (T, N, I, L, R) 0 0 (pI T N R (fun x9 I9 L9 => (0 ≤ x9.toInt) ∧ (x9.toInt ≤ 1) ∧ (IM R r0 I9 ∧ CM A R r0 [] [4, 5] I L I9 L9))) := by
  refine ⟨_, rfl, Nat.le_of_ble_eq_true rfl, fun V C S => ?_⟩
  show V 0 [(0, .ref r0), (1, .int n1)] [] (T, N, I, L, R) 0 0
  have gn1 := rg n1
  obtain ⟨T_r0, A_r0, ⟨r0_1, R_r0_1, H_r0_1⟩, ⟨r0_2, R_r0_2, H_r0_2⟩, ⟨r0_4, R_r0_4, H_r0_4⟩, ⟨r0_5, R_r0_5, H_r0_5⟩, ⟨r0_10, R_r0_10, H_r0_10⟩, ⟨r0_18, R_r0_18, H_r0_18⟩, ⟨r0_20, R_r0_20, H_r0_20⟩, ⟨r0_21, R_r0_21, H_r0_21⟩, ⟨r0_22, R_r0_22, H_r0_22⟩, ⟨r0_23, R_r0_23, H_r0_23⟩, ⟨r0_25, R_r0_25, H_r0_25⟩, ⟨r0_26, R_r0_26, H_r0_26⟩, ⟨r0_27, R_r0_27, H_r0_27⟩, ⟨r0_28, R_r0_28, H_r0_28⟩, ⟨r0_34, R_r0_34, H_r0_34⟩, J_r0, Y_r0⟩ := id H_r0
  have G_r0 : mF T R r0 := ⟨J_r0, Y_r0, T_r0⟩
  obtain ⟨w_r0_1_3, k0_r0_1_3⟩ : ∃ x, I r0_1 3 = x := ⟨_, rfl⟩
  have gw_r0_1_3 := rg w_r0_1_3
  have ow_r0_1_3 := IM.c3 hI R_r0_1 k0_r0_1_3
  have hp0 := hp0 r0_1 R_r0_1
  try simp only [k0_r0_1_3] at hp0
  have hS := (IM.w hI R_r0_1).2.2.2.2.2.1 n1.toNatClampNeg (by have := ncz (x := n1) (by omega); simp only [k0_r0_1_3]; omega)
  have hS1 : 0 ≤ (I r0_1 (198 + 401 * n1.toNatClampNeg)).toInt ∧ (I r0_1 (198 + 401 * n1.toNatClampNeg)).toInt ≤ 199 := ⟨hS.1, hS.2.1⟩
  refine z_iconst C (z := 0) rfl rfl rfl (fun x1 ex1 => ?_)
  refine k_istore_n C (lw := [(2, .int x1), (0, .ref r0), (1, .int n1)]) rfl rfl (Nat.le_of_ble_eq_true rfl) rfl ?_
  refine z_iconst C (z := 0) rfl rfl rfl (fun x2 ex2 => ?_)
  have J3 : ∀ (nn4 : Nat) (I5 : IT) (L6 : LT) (x7 : Int32) (x10 : Int32), (MN (200 - x10.toInt) nn4) → (IM R r0 I5) → (CM A R r0 [] [4, 5] I L I5 L6) → (0 ≤ x7.toInt) → (x7.toInt ≤ 40) → (0 ≤ x10.toInt) → (x10.toInt ≤ 200) → (x7.toInt = Hgt (I r0_1) (198 + 401 * n1.toNatClampNeg) x10.toNatClampNeg) → (x10.toInt ≤ (I r0_1 (198 + 401 * n1.toNatClampNeg)).toInt) → V 4 [(0, .ref r0), (1, .int n1), (2, .int x7), (3, .int x10)] [] (T, N, I5, L6, R) 0 0 := by
    intro nn4
    induction nn4 using Nat.strongRecOn with
    | _ nn4 ihJ3 =>
      intro I5 L6 x7 x10 hmnn4 hI14 S13 b8 b9 b11 b12 ff4_0 ff4_1
      have gx7 := rg x7
      have gx10 := rg x10
      have e15 := CM.j S13 R_r0_1 (by decide) k0_r0_1_3
      refine k_iload_n C rfl rfl rfl ?_
      refine k_aload_n C rfl rfl rfl ?_
      refine k_iload_n C rfl rfl rfl ?_
      refine c_VI C (a_X12_stepsOf hI14 H_r0 (by omega) (by omega)) rfl rfl rfl rfl rfl ⟨_, rfl, rfl, T_r0, Nat.le_of_ble_eq_true rfl⟩ rfl rfl (Nat.le_of_ble_eq_true rfl) (Nat.le_of_ble_eq_true rfl) (Nat.le_of_ble_eq_true rfl) ?_
      rintro x16 _ _ ⟨p0x16, rfl, rfl⟩
      have p0x16 := p0x16 r0_1 R_r0_1
      have gx16 := rg x16
      try simp only [e15] at p0x16
      try have q0x16 := congrArg Int32.toInt p0x16
      rw [(CM.j0 (I := I) (L := L) (I' := I5) (L' := L6) (A := A) (W := []) (WA := [4, 5]) (CM.mono S13 (by decide) (by decide)) R_r0_1 (by decide))] at p0x16
      have h8 := fun (z : x10.toInt < (I r0_1 (198 + 401 * n1.toNatClampNeg)).toInt) => hS.2.2 x10.toNatClampNeg (by have := ncz (x := x10) (by omega); omega)
      refine b_icmp_ge C (t := 158) rfl rfl rfl (fun c17 => ?_) (fun c17 => ?_)
      · skip
        refine z_iconst C (z := 1) rfl rfl rfl (fun x18 ex18 => ?_)
        exact k_iret C rfl (Or.inr ⟨rfl, z01 (by omega) (by omega)⟩) (Nat.le_of_ble_eq_true rfl) (Nat.le_of_ble_eq_true rfl) ⟨_, _, _, rfl, rfl, by omega, by omega, hI14, (CM.mono S13 (by decide) (by decide))⟩
      refine k_aload_n C rfl rfl rfl ?_
      refine k_iload_n C rfl rfl rfl ?_
      refine k_iload_n C rfl rfl rfl ?_
      refine c_VI C (a_X12_stepOf hI14 H_r0 (by omega) (by omega) (by omega) (by omega)) rfl rfl rfl rfl rfl ⟨_, rfl, rfl, T_r0, Nat.le_of_ble_eq_true rfl⟩ rfl rfl (Nat.le_of_ble_eq_true rfl) (Nat.le_of_ble_eq_true rfl) (Nat.le_of_ble_eq_true rfl) ?_
      rintro x19 _ _ ⟨p0x19, rfl, rfl⟩
      have p0x19 := p0x19 r0_1 R_r0_1
      have gx19 := rg x19
      try simp only [e15] at p0x19
      try have q0x19 := congrArg Int32.toInt p0x19
      rw [(CM.j0 (I := I) (L := L) (I' := I5) (L' := L6) (A := A) (W := []) (WA := [4, 5]) (CM.mono S13 (by decide) (by decide)) R_r0_1 (by decide))] at p0x19
      have h7 := h8 (by omega)
      refine k_istore C (lw := [(4, .int x19), (0, .ref r0), (1, .int n1), (2, .int x7), (3, .int x10)]) rfl rfl (Nat.le_of_ble_eq_true rfl) rfl ?_
      refine k_iload C rfl rfl rfl ?_
      refine b_if_ne C (t := 39) rfl rfl rfl (fun c20 => ?_) (fun c20 => ?_)
      · skip
        refine k_iload C rfl rfl rfl ?_
        refine z_iconst C (z := 1) rfl rfl rfl (fun x21 ex21 => ?_)
        refine b_icmp_ne C (t := 74) rfl rfl rfl (fun c22 => ?_) (fun c22 => ?_)
        · skip
          refine k_iload C rfl rfl rfl ?_
          refine z_iconst C (z := 5) rfl rfl rfl (fun x23 ex23 => ?_)
          refine b_icmp_ne C (t := 128) rfl rfl rfl (fun c24 => ?_) (fun c24 => ?_)
          · skip
            refine z_iinc C (z := -1) (lw := fun x25 => [(2, .int x25), (4, .int x19), (0, .ref r0), (1, .int n1), (3, .int x10)]) rfl rfl rfl (Nat.le_of_ble_eq_true rfl) rfl ⟨by omega, by omega⟩ (fun _ => rfl) (fun x25 ex25 => ?_)
            show V 131 [(2, .int x25), (4, .int x19), (0, .ref r0), (1, .int n1), (3, .int x10)] _ _ _ _
            refine k_aload_n C rfl rfl rfl ?_
            refine k_iload C rfl rfl rfl ?_
            refine k_aload_n C rfl rfl rfl ?_
            refine k_iload_n C rfl rfl rfl ?_
            refine k_iload_n C rfl rfl rfl ?_
            refine c_VI C (a_X12_toldBy hI14 H_r0 (by omega) (by omega) (by omega) (by omega)) rfl rfl rfl rfl rfl ⟨_, rfl, rfl, T_r0, Nat.le_of_ble_eq_true rfl⟩ rfl rfl (Nat.le_of_ble_eq_true rfl) (Nat.le_of_ble_eq_true rfl) (Nat.le_of_ble_eq_true rfl) ?_
            rintro x26 _ _ ⟨p0x26, rfl, rfl⟩
            have p0x26 := p0x26 r0_1 R_r0_1
            have gx26 := rg x26
            try simp only [e15] at p0x26
            try have q0x26 := congrArg Int32.toInt p0x26
            rw [(CM.j0 (I := I) (L := L) (I' := I5) (L' := L6) (A := A) (W := []) (WA := [4, 5]) (CM.mono S13 (by decide) (by decide)) R_r0_1 (by decide))] at p0x26
            refine k_iload_n C rfl rfl rfl ?_
            refine z_iconst C (z := 1) rfl rfl rfl (fun x27 ex27 => ?_)
            refine z_isub C rfl rfl ⟨by omega, by omega⟩ (fun x28 ex28 => ?_)
            refine k_iload_n C rfl rfl rfl ?_
            refine c_VI C (a_X12_joins hI14 H_r0 (by omega) (by omega) (by omega) (by omega) (by omega) (by omega)) rfl rfl rfl rfl rfl ⟨_, rfl, rfl, T_r0, Nat.le_of_ble_eq_true rfl⟩ rfl rfl (Nat.le_of_ble_eq_true rfl) (Nat.le_of_ble_eq_true rfl) (Nat.le_of_ble_eq_true rfl) ?_
            rintro x29 I30 L31 ⟨o0x29, o1x29, p0x29, p1x29, hI30, S32⟩
            have p0x29 := p0x29 r0_4 R_r0_4
            have p1x29 := p1x29 r0_5 R_r0_5
            have e33 := CM.j S32 R_r0_1 (by decide) e15
            have gx29 := rg x29
            refine b_if_ne C (t := 152) rfl rfl rfl (fun c34 => ?_) (fun c34 => ?_)
            · skip
              refine z_iinc C (z := 1) (lw := fun x35 => [(3, .int x35), (2, .int x25), (4, .int x19), (0, .ref r0), (1, .int n1)]) rfl rfl rfl (Nat.le_of_ble_eq_true rfl) rfl ⟨by omega, by omega⟩ (fun _ => rfl) (fun x35 ex35 => ?_)
              show V 155 [(3, .int x35), (2, .int x25), (4, .int x19), (0, .ref r0), (1, .int n1)] _ _ _ _
              refine k_goto C (pc2 := 4) rfl rfl ?_
              refine k_sub S [(0, .ref r0), (1, .int n1), (2, .int x25), (3, .int x35)] (List.forall_mem_cons.mpr ⟨List.mem_of_getElem? (i := 3) rfl, List.forall_mem_cons.mpr ⟨List.mem_of_getElem? (i := 4) rfl, List.forall_mem_cons.mpr ⟨List.mem_of_getElem? (i := 1) rfl, List.forall_mem_cons.mpr ⟨List.mem_of_getElem? (i := 0) rfl, fun _ h => nomatch h⟩⟩⟩⟩) ?_
              exact ihJ3 _ (MN.lt hmnn4 (by omega) (by omega)) I30 L31 x25 x35 rfl hI30 (CM.cons S13 (CM.mono S32 (by decide) (by decide)) (by decide) (by decide)) (by omega) (by omega) (by omega) (by omega) (by (have h9 := HgtS (g := I r0_1) (b := 198 + 401 * n1.toNatClampNeg) (x := x10) (y := x35) (by omega) (by omega)); (have h8 := hS.2.2 x10.toNatClampNeg (by have := ncz (x := x10) (by omega); omega)); (split at h9 <;> first | omega | (split at h9 <;> omega))) (by omega)
            refine z_iconst C (z := 0) rfl rfl rfl (fun x36 ex36 => ?_)
            exact k_iret C rfl (Or.inr ⟨rfl, z01 (by omega) (by omega)⟩) (Nat.le_of_ble_eq_true rfl) (Nat.le_of_ble_eq_true rfl) ⟨_, _, _, rfl, rfl, by omega, by omega, hI30, (CM.cons S13 (CM.mono S32 (by decide) (by decide)) (by decide) (by decide))⟩
          refine z_iconst C (z := 0) rfl rfl rfl (fun x37 ex37 => ?_)
          have J38 : ∀ (nn39 : Nat) (I40 : IT) (L41 : LT) (x42 : Int32), (MN (41 - x42.toInt) nn39) → (IM R r0 I40) → (CM A R r0 [] [5] I5 L6 I40 L41) → (0 ≤ x42.toInt) → (x42.toInt ≤ 41) → V 83 [(0, .ref r0), (1, .int n1), (2, .int x7), (3, .int x10), (5, .int x42)] [] (T, N, I40, L41, R) 0 0 := by
            intro nn39
            induction nn39 using Nat.strongRecOn with
            | _ nn39 ihJ38 =>
              intro I40 L41 x42 hmnn39 hI46 S45 b43 b44
              have gx42 := rg x42
              have e47 := CM.j S45 R_r0_1 (by decide) e15
              refine k_iload C rfl rfl rfl ?_
              refine k_aload_n C rfl rfl rfl ?_
              refine g_R C rfl rfl rfl T_r0 rfl R_r0_4 ?_
              refine k_iload_n C rfl rfl rfl ?_
              refine z_iconst C (z := 1) rfl rfl rfl (fun x48 ex48 => ?_)
              refine z_isub C rfl rfl ⟨by omega, by omega⟩ (fun x49 ex49 => ?_)
              obtain ⟨T_r0_4, N_r0_4, A_r0_4⟩ := id H_r0_4
              refine z_aI C rfl rfl T_r0_4 N_r0_4 (by omega) (by omega) (fun x50 ex50 => ?_)
              have gx50 := rg x50
              have ox50 := IM.dgR hI46 R_r0_4 ex50
              refine b_icmp_gt C (t := 125) rfl rfl rfl (fun c51 => ?_) (fun c51 => ?_)
              · skip
                refine k_goto C (pc2 := 152) rfl rfl ?_
                refine z_iinc C (z := 1) (lw := fun x52 => [(3, .int x52), (0, .ref r0), (1, .int n1), (2, .int x7), (5, .int x42)]) rfl rfl rfl (Nat.le_of_ble_eq_true rfl) rfl ⟨by omega, by omega⟩ (fun _ => rfl) (fun x52 ex52 => ?_)
                show V 155 [(3, .int x52), (0, .ref r0), (1, .int n1), (2, .int x7), (5, .int x42)] _ _ _ _
                refine k_goto C (pc2 := 4) rfl rfl ?_
                refine k_sub S [(0, .ref r0), (1, .int n1), (2, .int x7), (3, .int x52)] (List.forall_mem_cons.mpr ⟨List.mem_of_getElem? (i := 1) rfl, List.forall_mem_cons.mpr ⟨List.mem_of_getElem? (i := 2) rfl, List.forall_mem_cons.mpr ⟨List.mem_of_getElem? (i := 3) rfl, List.forall_mem_cons.mpr ⟨List.mem_of_getElem? (i := 0) rfl, fun _ h => nomatch h⟩⟩⟩⟩) ?_
                exact ihJ3 _ (MN.lt hmnn4 (by omega) (by omega)) I40 L41 x7 x52 rfl hI46 (CM.cons S13 (CM.mono S45 (by decide) (by decide)) (by decide) (by decide)) (by omega) (by omega) (by omega) (by omega) (by (have h9 := HgtS (g := I r0_1) (b := 198 + 401 * n1.toNatClampNeg) (x := x10) (y := x52) (by omega) (by omega)); (have h8 := hS.2.2 x10.toNatClampNeg (by have := ncz (x := x10) (by omega); omega)); (split at h9 <;> first | omega | (split at h9 <;> omega))) (by omega)
              refine k_aload_n C rfl rfl rfl ?_
              refine k_iload_n C rfl rfl rfl ?_
              refine z_iconst C (z := 1) rfl rfl rfl (fun x53 ex53 => ?_)
              refine z_isub C rfl rfl ⟨by omega, by omega⟩ (fun x54 ex54 => ?_)
              refine k_iload C rfl rfl rfl ?_
              refine k_aload_n C rfl rfl rfl ?_
              refine z_iconst C (z := 0) rfl rfl rfl (fun x55 ex55 => ?_)
              refine k_aload_n C rfl rfl rfl ?_
              refine k_iload_n C rfl rfl rfl ?_
              refine z_iconst C (z := 1) rfl rfl rfl (fun x56 ex56 => ?_)
              refine z_isub C rfl rfl ⟨by omega, by omega⟩ (fun x57 ex57 => ?_)
              refine k_iload C rfl rfl rfl ?_
              refine c_VI C (a_X12_of hI46 H_r0 (by omega) (by omega) (by omega) (by omega)) rfl rfl rfl rfl rfl ⟨_, rfl, rfl, T_r0, Nat.le_of_ble_eq_true rfl⟩ rfl rfl (Nat.le_of_ble_eq_true rfl) (Nat.le_of_ble_eq_true rfl) (Nat.le_of_ble_eq_true rfl) ?_
              rintro x58 _ _ ⟨o0x58, o1x58, p0x58, rfl, rfl⟩
              have p0x58 := p0x58 r0_5 R_r0_5
              have gx58 := rg x58
              try simp only [e47, ex50] at p0x58
              try have q0x58 := congrArg Int32.toInt p0x58
              obtain ⟨x59, e60⟩ : ∃ x, I40 r0_1 0 = x := ⟨_, rfl⟩
              have gx59 := rg x59
              have ox59 := IM.pi hI46 R_r0_1 e60
              have q61 : x55.toNatClampNeg = 0 := nck (by omega)
              refine c_VI C (a_X12_less hI46 H_r0 (by omega) (by omega) (by omega) (by omega)) rfl rfl rfl rfl rfl ⟨_, rfl, rfl, T_r0, Nat.le_of_ble_eq_true rfl⟩ rfl rfl (Nat.le_of_ble_eq_true rfl) (Nat.le_of_ble_eq_true rfl) (Nat.le_of_ble_eq_true rfl) ?_
              rintro x62 _ _ ⟨o0x62, o1x62, p0x62, p1x62, p2x62, p3x62, rfl, rfl⟩
              have p0x62 := p0x62 r0_1 R_r0_1
              have p2x62 := p2x62 r0_1 R_r0_1
              have p3x62 := p3x62 r0_1 R_r0_1
              have gx62 := rg x62
              try simp only [q61, e47, ex50, e60] at p0x62
              try have q0x62 := congrArg Int32.toInt p0x62
              try simp only [q61, e47, ex50, e60] at p1x62
              try have q1x62 := congrArg Int32.toInt p1x62
              try simp only [q61, e47, ex50, e60] at p2x62
              try have q2x62 := congrArg Int32.toInt p2x62
              try simp only [q61, e47, ex50, e60] at p3x62
              try have q3x62 := congrArg Int32.toInt p3x62
              refine c_VV C (a_X12_put hI46 H_r0 (by omega) (by omega) (by omega) (by omega) (by omega) (by omega)) rfl rfl rfl rfl rfl ⟨_, rfl, rfl, T_r0, Nat.le_of_ble_eq_true rfl⟩ rfl rfl (Nat.le_of_ble_eq_true rfl) (Nat.le_of_ble_eq_true rfl) (Nat.le_of_ble_eq_true rfl) ?_
              rintro I64 L65 ⟨p0v63, p1v63, hI64, S66⟩
              have p0v63 := p0v63 r0_5 R_r0_5
              have p1v63 := p1v63 r0_5 R_r0_5
              have e67 := CM.j S66 R_r0_1 (by decide) e47
              have e68 := CM.j S66 R_r0_4 (by decide) ex50
              have e69 := CM.j S66 R_r0_1 (by decide) e60
              try simp only [e47, ex50, e60] at p0v63
              try have q0v63 := congrArg Int32.toInt p0v63
              refine z_iinc C (z := 1) (lw := fun x70 => [(5, .int x70), (0, .ref r0), (1, .int n1), (2, .int x7), (3, .int x10)]) rfl rfl rfl (Nat.le_of_ble_eq_true rfl) rfl ⟨by omega, by omega⟩ (fun _ => rfl) (fun x70 ex70 => ?_)
              show V 122 [(5, .int x70), (0, .ref r0), (1, .int n1), (2, .int x7), (3, .int x10)] _ _ _ _
              refine k_goto C (pc2 := 83) rfl rfl ?_
              refine k_sub S [(0, .ref r0), (1, .int n1), (2, .int x7), (3, .int x10), (5, .int x70)] (List.forall_mem_cons.mpr ⟨List.mem_of_getElem? (i := 1) rfl, List.forall_mem_cons.mpr ⟨List.mem_of_getElem? (i := 2) rfl, List.forall_mem_cons.mpr ⟨List.mem_of_getElem? (i := 3) rfl, List.forall_mem_cons.mpr ⟨List.mem_of_getElem? (i := 4) rfl, List.forall_mem_cons.mpr ⟨List.mem_of_getElem? (i := 0) rfl, fun _ h => nomatch h⟩⟩⟩⟩⟩) ?_
              exact ihJ38 _ (MN.lt hmnn39 (by omega) (by omega)) I64 L65 x70 rfl hI64 (CM.cons S45 (CM.mono S66 (by decide) (by decide)) (by decide) (by decide)) (by omega) (by omega)
          refine k_istore C (lw := [(5, .int x37), (4, .int x19), (0, .ref r0), (1, .int n1), (2, .int x7), (3, .int x10)]) rfl rfl (Nat.le_of_ble_eq_true rfl) rfl ?_
          refine k_sub S [(0, .ref r0), (1, .int n1), (2, .int x7), (3, .int x10), (5, .int x37)] (List.forall_mem_cons.mpr ⟨List.mem_of_getElem? (i := 2) rfl, List.forall_mem_cons.mpr ⟨List.mem_of_getElem? (i := 3) rfl, List.forall_mem_cons.mpr ⟨List.mem_of_getElem? (i := 4) rfl, List.forall_mem_cons.mpr ⟨List.mem_of_getElem? (i := 5) rfl, List.forall_mem_cons.mpr ⟨List.mem_of_getElem? (i := 0) rfl, fun _ h => nomatch h⟩⟩⟩⟩⟩) ?_
          exact J38 _ I5 L6 x37 rfl hI14 CM.rf (by omega) (by omega)
        refine k_aload_n C rfl rfl rfl ?_
        refine k_iload_n C rfl rfl rfl ?_
        refine z_iconst C (z := 0) rfl rfl rfl (fun x71 ex71 => ?_)
        have q72 : x71.toNatClampNeg = 0 := nck (by omega)
        refine c_VV C (a_X12_clears hI14 H_r0 (by omega) (by omega) (by omega) (by omega)) rfl rfl rfl rfl rfl ⟨_, rfl, rfl, T_r0, Nat.le_of_ble_eq_true rfl⟩ rfl rfl (Nat.le_of_ble_eq_true rfl) (Nat.le_of_ble_eq_true rfl) (Nat.le_of_ble_eq_true rfl) ?_
        rintro I74 L75 ⟨p0v73, p1v73, p2v73, p3v73, hI74, S76⟩
        have p0v73 := p0v73 r0_4 R_r0_4
        have p1v73 := p1v73 r0_5 R_r0_5
        have p2v73 := p2v73 r0_4 R_r0_4
        have p3v73 := p3v73 r0_5 R_r0_5
        try simp only [q72] at p2v73
        try simp only [q72] at p3v73
        have e77 := CM.j S76 R_r0_1 (by decide) e15
        obtain ⟨x78, e79⟩ : ∃ x, I74 r0_4 x7.toNatClampNeg = x := ⟨_, rfl⟩
        have gx78 := rg x78
        have ox78 := IM.dgR hI74 R_r0_4 e79
        try simp only [q72, e15, e79] at p0v73
        try have q0v73 := congrArg Int32.toInt p0v73
        try simp only [q72, e15, e79] at p1v73
        try have q1v73 := congrArg Int32.toInt p1v73
        refine k_aload_n C rfl rfl rfl ?_
        refine k_iload_n C rfl rfl rfl ?_
        refine z_iconst C (z := 0) rfl rfl rfl (fun x80 ex80 => ?_)
        refine k_aload_n C rfl rfl rfl ?_
        refine k_aload_n C rfl rfl rfl ?_
        refine k_iload_n C rfl rfl rfl ?_
        refine k_iload_n C rfl rfl rfl ?_
        refine c_VI C (a_X12_toldBy hI74 H_r0 (by omega) (by omega) (by omega) (by omega)) rfl rfl rfl rfl rfl ⟨_, rfl, rfl, T_r0, Nat.le_of_ble_eq_true rfl⟩ rfl rfl (Nat.le_of_ble_eq_true rfl) (Nat.le_of_ble_eq_true rfl) (Nat.le_of_ble_eq_true rfl) ?_
        rintro x81 _ _ ⟨p0x81, rfl, rfl⟩
        have p0x81 := p0x81 r0_1 R_r0_1
        have gx81 := rg x81
        try simp only [e77, e79] at p0x81
        try have q0x81 := congrArg Int32.toInt p0x81
        rw [(CM.j0 (I := I) (L := L) (I' := I74) (L' := L75) (A := A) (W := []) (WA := [4, 5]) (CM.cons S13 (CM.mono S76 (by decide) (by decide)) (by decide) (by decide)) R_r0_1 (by decide))] at p0x81
        refine z_i2l C rfl rfl (fun lg82 elg82 => ?_)
        obtain ⟨x83, e84⟩ : ∃ x, I74 r0_1 0 = x := ⟨_, rfl⟩
        have gx83 := rg x83
        have ox83 := IM.pi hI74 R_r0_1 e84
        refine c_VI C (a_X12_mod hI74 H_r0) rfl rfl rfl rfl rfl ⟨_, rfl, rfl, T_r0, Nat.le_of_ble_eq_true rfl⟩ rfl rfl (Nat.le_of_ble_eq_true rfl) (Nat.le_of_ble_eq_true rfl) (Nat.le_of_ble_eq_true rfl) ?_
        rintro x85 _ _ ⟨o0x85, o1x85, p0x85, rfl, rfl⟩
        have p0x85 := p0x85 r0_1 R_r0_1
        have gx85 := rg x85
        try simp only [e77, e79, e84] at p0x85
        try have q0x85 := congrArg Int32.toInt p0x85
        have q86 : x80.toNatClampNeg = 0 := nck (by omega)
        refine c_VV C (a_X12_put hI74 H_r0 (by omega) (by omega) (by omega) (by omega) (by omega) (by omega)) rfl rfl rfl rfl rfl ⟨_, rfl, rfl, T_r0, Nat.le_of_ble_eq_true rfl⟩ rfl rfl (Nat.le_of_ble_eq_true rfl) (Nat.le_of_ble_eq_true rfl) (Nat.le_of_ble_eq_true rfl) ?_
        rintro I88 L89 ⟨p0v87, p1v87, hI88, S90⟩
        have p0v87 := p0v87 r0_5 R_r0_5
        have p1v87 := p1v87 r0_5 R_r0_5
        try simp only [q86] at p1v87
        have e91 := CM.j S90 R_r0_1 (by decide) e77
        have e92 := CM.j S90 R_r0_4 (by decide) e79
        have e93 := CM.j S90 R_r0_1 (by decide) e84
        try simp only [q86, e77, e79, e84] at p0v87
        try have q0v87 := congrArg Int32.toInt p0v87
        refine z_iinc C (z := 1) (lw := fun x94 => [(2, .int x94), (4, .int x19), (0, .ref r0), (1, .int n1), (3, .int x10)]) rfl rfl rfl (Nat.le_of_ble_eq_true rfl) rfl ⟨by omega, by omega⟩ (fun _ => rfl) (fun x94 ex94 => ?_)
        show V 71 [(2, .int x94), (4, .int x19), (0, .ref r0), (1, .int n1), (3, .int x10)] _ _ _ _
        refine k_goto C (pc2 := 152) rfl rfl ?_
        refine z_iinc C (z := 1) (lw := fun x95 => [(3, .int x95), (2, .int x94), (4, .int x19), (0, .ref r0), (1, .int n1)]) rfl rfl rfl (Nat.le_of_ble_eq_true rfl) rfl ⟨by omega, by omega⟩ (fun _ => rfl) (fun x95 ex95 => ?_)
        show V 155 [(3, .int x95), (2, .int x94), (4, .int x19), (0, .ref r0), (1, .int n1)] _ _ _ _
        refine k_goto C (pc2 := 4) rfl rfl ?_
        refine k_sub S [(0, .ref r0), (1, .int n1), (2, .int x94), (3, .int x95)] (List.forall_mem_cons.mpr ⟨List.mem_of_getElem? (i := 3) rfl, List.forall_mem_cons.mpr ⟨List.mem_of_getElem? (i := 4) rfl, List.forall_mem_cons.mpr ⟨List.mem_of_getElem? (i := 1) rfl, List.forall_mem_cons.mpr ⟨List.mem_of_getElem? (i := 0) rfl, fun _ h => nomatch h⟩⟩⟩⟩) ?_
        exact ihJ3 _ (MN.lt hmnn4 (by omega) (by omega)) I88 L89 x94 x95 rfl hI88 (CM.cons S13 (CM.cons S76 (CM.mono S90 (by decide) (by decide)) (by decide) (by decide)) (by decide) (by decide)) (by omega) (by omega) (by omega) (by omega) (by (have h9 := HgtS (g := I r0_1) (b := 198 + 401 * n1.toNatClampNeg) (x := x10) (y := x95) (by omega) (by omega)); (have h8 := hS.2.2 x10.toNatClampNeg (by have := ncz (x := x10) (by omega); omega)); (split at h9 <;> first | omega | (split at h9 <;> omega))) (by omega)
      refine k_aload_n C rfl rfl rfl ?_
      refine z_bipush C (z := 44) rfl rfl rfl (fun x96 ex96 => ?_)
      refine k_iload_n C rfl rfl rfl ?_
      obtain ⟨x97, e98⟩ : ∃ x, I5 r0_4 44 = x := ⟨_, rfl⟩
      have gx97 := rg x97
      have ox97 := IM.dgR hI14 R_r0_4 e98
      have q99 : x96.toNatClampNeg = 44 := nck (by omega)
      refine c_VV C (a_X12_copies hI14 H_r0 (by omega) (by omega) (by omega) (by omega) (by first | omega | (simp only [q99, e15, e98] <;> omega))) rfl rfl rfl rfl rfl ⟨_, rfl, rfl, T_r0, Nat.le_of_ble_eq_true rfl⟩ rfl rfl (Nat.le_of_ble_eq_true rfl) (Nat.le_of_ble_eq_true rfl) (Nat.le_of_ble_eq_true rfl) ?_
      rintro I101 L102 ⟨p0v100, p1v100, p2v100, p3v100, hI101, S103⟩
      have p0v100 := p0v100 r0_4 R_r0_4
      have p1v100 := p1v100 r0_4 r0_5 R_r0_4 R_r0_5
      have p2v100 := p2v100 r0_4 R_r0_4
      have p3v100 := p3v100 r0_5 R_r0_5
      try simp only [q99] at p2v100
      try simp only [q99] at p3v100
      have e104 := CM.j S103 R_r0_1 (by decide) e15
      have e105 := (p2v100 44 (by first | decide | exact ncne (by omega) (by omega) (by omega) | exact nckn (by omega) (by omega) | exact (nckn (by omega) (by omega)).symm)).trans e98
      obtain ⟨x106, e107⟩ : ∃ x, I101 r0_4 x7.toNatClampNeg = x := ⟨_, rfl⟩
      have gx106 := rg x106
      have ox106 := IM.dgR hI101 R_r0_4 e107
      try simp only [q99, e15, e98, e107] at p0v100
      try have q0v100 := congrArg Int32.toInt p0v100
      try simp only [q99, e15, e98, e107] at p1v100
      try have q1v100 := congrArg Int32.toInt p1v100
      refine z_iinc C (z := 1) (lw := fun x108 => [(2, .int x108), (4, .int x19), (0, .ref r0), (1, .int n1), (3, .int x10)]) rfl rfl rfl (Nat.le_of_ble_eq_true rfl) rfl ⟨by omega, by omega⟩ (fun _ => rfl) (fun x108 ex108 => ?_)
      show V 36 [(2, .int x108), (4, .int x19), (0, .ref r0), (1, .int n1), (3, .int x10)] _ _ _ _
      refine k_goto C (pc2 := 152) rfl rfl ?_
      refine z_iinc C (z := 1) (lw := fun x109 => [(3, .int x109), (2, .int x108), (4, .int x19), (0, .ref r0), (1, .int n1)]) rfl rfl rfl (Nat.le_of_ble_eq_true rfl) rfl ⟨by omega, by omega⟩ (fun _ => rfl) (fun x109 ex109 => ?_)
      show V 155 [(3, .int x109), (2, .int x108), (4, .int x19), (0, .ref r0), (1, .int n1)] _ _ _ _
      refine k_goto C (pc2 := 4) rfl rfl ?_
      refine k_sub S [(0, .ref r0), (1, .int n1), (2, .int x108), (3, .int x109)] (List.forall_mem_cons.mpr ⟨List.mem_of_getElem? (i := 3) rfl, List.forall_mem_cons.mpr ⟨List.mem_of_getElem? (i := 4) rfl, List.forall_mem_cons.mpr ⟨List.mem_of_getElem? (i := 1) rfl, List.forall_mem_cons.mpr ⟨List.mem_of_getElem? (i := 0) rfl, fun _ h => nomatch h⟩⟩⟩⟩) ?_
      exact ihJ3 _ (MN.lt hmnn4 (by omega) (by omega)) I101 L102 x108 x109 rfl hI101 (CM.cons S13 (CM.mono S103 (by decide) (by decide)) (by decide) (by decide)) (by omega) (by omega) (by omega) (by omega) (by (have h9 := HgtS (g := I r0_1) (b := 198 + 401 * n1.toNatClampNeg) (x := x10) (y := x109) (by omega) (by omega)); (have h8 := hS.2.2 x10.toNatClampNeg (by have := ncz (x := x10) (by omega); omega)); (split at h9 <;> first | omega | (split at h9 <;> omega))) (by omega)
  refine k_istore_n C (lw := [(3, .int x2), (2, .int x1), (0, .ref r0), (1, .int n1)]) rfl rfl (Nat.le_of_ble_eq_true rfl) rfl ?_
  refine k_sub S [(0, .ref r0), (1, .int n1), (2, .int x1), (3, .int x2)] (List.forall_mem_cons.mpr ⟨List.mem_of_getElem? (i := 2) rfl, List.forall_mem_cons.mpr ⟨List.mem_of_getElem? (i := 3) rfl, List.forall_mem_cons.mpr ⟨List.mem_of_getElem? (i := 1) rfl, List.forall_mem_cons.mpr ⟨List.mem_of_getElem? (i := 0) rfl, fun _ h => nomatch h⟩⟩⟩⟩) ?_
  exact J3 _ I L x1 x2 rfl hI CM.rf (by omega) (by omega) (by omega) (by omega) (by rw [nck (x := x2) (n := 0) (by omega)]; show _ = (0 : Int); omega) (by omega)

theorem a_X12_rankOf {d : Nat} {T N : Nat → Nat} {I : IT} {L : LT} {R : RT} {A : Nat → Prop} {r0 : Nat} {n1 n2 : Int32} (hI : IM R r0 I) (H_r0 : (h_MD T N R A) r0) (b0_n1 : 0 ≤ n1.toInt) (b1_n1 : n1.toInt ≤ 7) (b0_n2 : 0 ≤ n2.toInt) (b1_n2 : n2.toInt ≤ 1) (hp0 : ∀ a1, R r0 1 = some a1 → n1.toInt < (I a1 3).toInt) : Ex (d + 2) 254 [.ref r0, .int n1, .int n2] (T, N, I, L, R) 0 0 (pI T N R (fun x9 I9 L9 => (IM R r0 I9 ∧ CM A R r0 [] [20] I L I9 L9))) := by
  refine ⟨_, rfl, Nat.le_of_ble_eq_true rfl, fun V C S => ?_⟩
  show V 0 [(0, .ref r0), (1, .int n1), (2, .int n2)] [] (T, N, I, L, R) 0 0
  have gn1 := rg n1
  have gn2 := rg n2
  obtain ⟨T_r0, A_r0, ⟨r0_1, R_r0_1, H_r0_1⟩, ⟨r0_2, R_r0_2, H_r0_2⟩, ⟨r0_4, R_r0_4, H_r0_4⟩, ⟨r0_5, R_r0_5, H_r0_5⟩, ⟨r0_10, R_r0_10, H_r0_10⟩, ⟨r0_18, R_r0_18, H_r0_18⟩, ⟨r0_20, R_r0_20, H_r0_20⟩, ⟨r0_21, R_r0_21, H_r0_21⟩, ⟨r0_22, R_r0_22, H_r0_22⟩, ⟨r0_23, R_r0_23, H_r0_23⟩, ⟨r0_25, R_r0_25, H_r0_25⟩, ⟨r0_26, R_r0_26, H_r0_26⟩, ⟨r0_27, R_r0_27, H_r0_27⟩, ⟨r0_28, R_r0_28, H_r0_28⟩, ⟨r0_34, R_r0_34, H_r0_34⟩, J_r0, Y_r0⟩ := id H_r0
  have G_r0 : mF T R r0 := ⟨J_r0, Y_r0, T_r0⟩
  obtain ⟨w_r0_1_3, k0_r0_1_3⟩ : ∃ x, I r0_1 3 = x := ⟨_, rfl⟩
  have gw_r0_1_3 := rg w_r0_1_3
  have ow_r0_1_3 := IM.c3 hI R_r0_1 k0_r0_1_3
  have hp0 := hp0 r0_1 R_r0_1
  try simp only [k0_r0_1_3] at hp0
  have hS := (IM.w hI R_r0_1).2.2.2.2.2.1 n1.toNatClampNeg (by have := ncz (x := n1) (by omega); simp only [k0_r0_1_3]; omega)
  have hS1 : 0 ≤ (I r0_1 (198 + 401 * n1.toNatClampNeg)).toInt ∧ (I r0_1 (198 + 401 * n1.toNatClampNeg)).toInt ≤ 199 := ⟨hS.1, hS.2.1⟩
  refine z_iconst C (z := 0) rfl rfl rfl (fun x1 ex1 => ?_)
  refine k_istore_n C (lw := [(3, .int x1), (0, .ref r0), (1, .int n1), (2, .int n2)]) rfl rfl (Nat.le_of_ble_eq_true rfl) rfl ?_
  refine z_iconst C (z := 0) rfl rfl rfl (fun x2 ex2 => ?_)
  have J3 : ∀ (nn4 : Nat) (I5 : IT) (L6 : LT) (x7 : Int32) (x10 : Int32), (MN (200 - x10.toInt) nn4) → (IM R r0 I5) → (CM A R r0 [] [20] I L I5 L6) → (0 ≤ x7.toInt) → (x7.toInt ≤ 40) → (0 ≤ x10.toInt) → (x10.toInt ≤ 200) → (x7.toInt = Hgt (I r0_1) (198 + 401 * n1.toNatClampNeg) x10.toNatClampNeg) → (x10.toInt ≤ (I r0_1 (198 + 401 * n1.toNatClampNeg)).toInt) → V 5 [(0, .ref r0), (1, .int n1), (2, .int n2), (3, .int x7), (4, .int x10)] [] (T, N, I5, L6, R) 0 0 := by
    intro nn4
    induction nn4 using Nat.strongRecOn with
    | _ nn4 ihJ3 =>
      intro I5 L6 x7 x10 hmnn4 hI14 S13 b8 b9 b11 b12 ff5_0 ff5_1
      have gx7 := rg x7
      have gx10 := rg x10
      have e15 := CM.j S13 R_r0_1 (by decide) k0_r0_1_3
      refine k_iload C rfl rfl rfl ?_
      refine k_aload_n C rfl rfl rfl ?_
      refine k_iload_n C rfl rfl rfl ?_
      refine c_VI C (a_X12_stepsOf hI14 H_r0 (by omega) (by omega)) rfl rfl rfl rfl rfl ⟨_, rfl, rfl, T_r0, Nat.le_of_ble_eq_true rfl⟩ rfl rfl (Nat.le_of_ble_eq_true rfl) (Nat.le_of_ble_eq_true rfl) (Nat.le_of_ble_eq_true rfl) ?_
      rintro x16 _ _ ⟨p0x16, rfl, rfl⟩
      have p0x16 := p0x16 r0_1 R_r0_1
      have gx16 := rg x16
      try simp only [e15] at p0x16
      try have q0x16 := congrArg Int32.toInt p0x16
      rw [(CM.j0 (I := I) (L := L) (I' := I5) (L' := L6) (A := A) (W := []) (WA := [20]) (CM.mono S13 (by decide) (by decide)) R_r0_1 (by decide))] at p0x16
      have h8 := fun (z : x10.toInt < (I r0_1 (198 + 401 * n1.toNatClampNeg)).toInt) => hS.2.2 x10.toNatClampNeg (by have := ncz (x := x10) (by omega); omega)
      refine b_icmp_ge C (t := 174) rfl rfl rfl (fun c17 => ?_) (fun c17 => ?_)
      · skip
        refine k_aload_n C rfl rfl rfl ?_
        refine g_R C rfl rfl rfl T_r0 rfl R_r0_20 ?_
        refine z_iconst C (z := 0) rfl rfl rfl (fun x18 ex18 => ?_)
        obtain ⟨T_r0_20, N_r0_20, A_r0_20⟩ := id H_r0_20
        refine z_aI C rfl rfl T_r0_20 N_r0_20 (by omega) (by omega) (fun x19 ex19 => ?_)
        have gx19 := rg x19
        have nx19 : I5 r0_20 0 = x19 := (congrArg (I5 r0_20) (nck (n := 0) (by omega))).symm.trans ex19
        exact k_iret C rfl (Or.inl rfl) (Nat.le_of_ble_eq_true rfl) (Nat.le_of_ble_eq_true rfl) ⟨_, _, _, rfl, rfl, hI14, (CM.mono S13 (by decide) (by decide))⟩
      refine k_aload_n C rfl rfl rfl ?_
      refine k_iload_n C rfl rfl rfl ?_
      refine k_iload C rfl rfl rfl ?_
      refine c_VI C (a_X12_stepOf hI14 H_r0 (by omega) (by omega) (by omega) (by omega)) rfl rfl rfl rfl rfl ⟨_, rfl, rfl, T_r0, Nat.le_of_ble_eq_true rfl⟩ rfl rfl (Nat.le_of_ble_eq_true rfl) (Nat.le_of_ble_eq_true rfl) (Nat.le_of_ble_eq_true rfl) ?_
      rintro x20 _ _ ⟨p0x20, rfl, rfl⟩
      have p0x20 := p0x20 r0_1 R_r0_1
      have gx20 := rg x20
      try simp only [e15] at p0x20
      try have q0x20 := congrArg Int32.toInt p0x20
      rw [(CM.j0 (I := I) (L := L) (I' := I5) (L' := L6) (A := A) (W := []) (WA := [20]) (CM.mono S13 (by decide) (by decide)) R_r0_1 (by decide))] at p0x20
      have h7 := h8 (by omega)
      refine k_istore C (lw := [(5, .int x20), (0, .ref r0), (1, .int n1), (2, .int n2), (3, .int x7), (4, .int x10)]) rfl rfl (Nat.le_of_ble_eq_true rfl) rfl ?_
      refine k_iload C rfl rfl rfl ?_
      refine z_iconst C (z := 1) rfl rfl rfl (fun x21 ex21 => ?_)
      refine b_icmp_gt C (t := 56) rfl rfl rfl (fun c22 => ?_) (fun c22 => ?_)
      · skip
        refine k_iload C rfl rfl rfl ?_
        refine z_iconst C (z := 5) rfl rfl rfl (fun x23 ex23 => ?_)
        refine b_icmp_eq C (t := 168) rfl rfl rfl (fun c24 => ?_) (fun c24 => ?_)
        · skip
          refine z_iinc C (z := 1) (lw := fun x25 => [(4, .int x25), (5, .int x20), (0, .ref r0), (1, .int n1), (2, .int n2), (3, .int x7)]) rfl rfl rfl (Nat.le_of_ble_eq_true rfl) rfl ⟨by omega, by omega⟩ (fun _ => rfl) (fun x25 ex25 => ?_)
          show V 171 [(4, .int x25), (5, .int x20), (0, .ref r0), (1, .int n1), (2, .int n2), (3, .int x7)] _ _ _ _
          refine k_goto C (pc2 := 5) rfl rfl ?_
          refine k_sub S [(0, .ref r0), (1, .int n1), (2, .int n2), (3, .int x7), (4, .int x25)] (List.forall_mem_cons.mpr ⟨List.mem_of_getElem? (i := 2) rfl, List.forall_mem_cons.mpr ⟨List.mem_of_getElem? (i := 3) rfl, List.forall_mem_cons.mpr ⟨List.mem_of_getElem? (i := 4) rfl, List.forall_mem_cons.mpr ⟨List.mem_of_getElem? (i := 5) rfl, List.forall_mem_cons.mpr ⟨List.mem_of_getElem? (i := 0) rfl, fun _ h => nomatch h⟩⟩⟩⟩⟩) ?_
          exact ihJ3 _ (MN.lt hmnn4 (by omega) (by omega)) I5 L6 x7 x25 rfl hI14 (CM.mono S13 (by decide) (by decide)) (by omega) (by omega) (by omega) (by omega) (by (have h9 := HgtS (g := I r0_1) (b := 198 + 401 * n1.toNatClampNeg) (x := x10) (y := x25) (by omega) (by omega)); (have h8 := hS.2.2 x10.toNatClampNeg (by have := ncz (x := x10) (by omega); omega)); (split at h9 <;> first | omega | (split at h9 <;> omega))) (by omega)
        refine z_iinc C (z := -1) (lw := fun x26 => [(3, .int x26), (5, .int x20), (0, .ref r0), (1, .int n1), (2, .int n2), (4, .int x10)]) rfl rfl rfl (Nat.le_of_ble_eq_true rfl) rfl ⟨by omega, by omega⟩ (fun _ => rfl) (fun x26 ex26 => ?_)
        show V 65 [(3, .int x26), (5, .int x20), (0, .ref r0), (1, .int n1), (2, .int n2), (4, .int x10)] _ _ _ _
        refine k_aload_n C rfl rfl rfl ?_
        refine g_R C rfl rfl rfl T_r0 rfl R_r0_20 ?_
        refine k_iload_n C rfl rfl rfl ?_
        refine z_iconst C (z := 1) rfl rfl rfl (fun x27 ex27 => ?_)
        refine z_isub C rfl rfl ⟨by omega, by omega⟩ (fun x28 ex28 => ?_)
        obtain ⟨T_r0_20, N_r0_20, A_r0_20⟩ := id H_r0_20
        refine z_aI C rfl rfl T_r0_20 N_r0_20 (by omega) (by omega) (fun x29 ex29 => ?_)
        have gx29 := rg x29
        refine k_istore C (lw := [(6, .int x29), (3, .int x26), (5, .int x20), (0, .ref r0), (1, .int n1), (2, .int n2), (4, .int x10)]) rfl rfl (Nat.le_of_ble_eq_true rfl) rfl ?_
        refine k_aload_n C rfl rfl rfl ?_
        refine g_R C rfl rfl rfl T_r0 rfl R_r0_20 ?_
        refine k_iload_n C rfl rfl rfl ?_
        refine z_aI C rfl rfl T_r0_20 N_r0_20 (by omega) (by omega) (fun x30 ex30 => ?_)
        have gx30 := rg x30
        refine k_istore C (lw := [(7, .int x30), (6, .int x29), (3, .int x26), (5, .int x20), (0, .ref r0), (1, .int n1), (2, .int n2), (4, .int x10)]) rfl rfl (Nat.le_of_ble_eq_true rfl) rfl ?_
        refine k_iload C rfl rfl rfl ?_
        refine b_if_lt C (t := 106) rfl rfl rfl (fun c31 => ?_) (fun c31 => ?_)
        · skip
          refine z_iconst C (z := 1) rfl rfl rfl (fun x32 ex32 => ?_)
          refine k_goto C (pc2 := 111) rfl rfl ?_
          refine k_istore C (lw := [(8, .int x32), (7, .int x30), (6, .int x29), (3, .int x26), (5, .int x20), (0, .ref r0), (1, .int n1), (2, .int n2), (4, .int x10)]) rfl rfl (Nat.le_of_ble_eq_true rfl) rfl ?_
          refine k_aload_n C rfl rfl rfl ?_
          refine g_R C rfl rfl rfl T_r0 rfl R_r0_20 ?_
          refine k_iload_n C rfl rfl rfl ?_
          refine z_iconst C (z := 1) rfl rfl rfl (fun x33 ex33 => ?_)
          refine z_isub C rfl rfl ⟨by omega, by omega⟩ (fun x34 ex34 => ?_)
          refine k_iload C rfl rfl rfl ?_
          refine b_if_eq C (t := 129) rfl rfl rfl (fun c35 => by exfalso; omega) (fun c35 => ?_)
          refine z_iconst C (z := -1) rfl rfl rfl (fun x36 ex36 => ?_)
          refine k_goto C (pc2 := 167) rfl rfl ?_
          refine z_sI C rfl rfl T_r0_20 N_r0_20 (by omega) (by omega) (fun I37 uI37 => ?_)
          have hI37 : IM R r0 I37 := IM.arr hI14 G_r0 R_r0_20 ⟨(fun h => absurd h (by decide)), (fun h => absurd h (by decide)), (fun h => absurd h (by decide))⟩ (fun h => absurd h (by decide)) uI37
          have S38 : CM A R r0 [] [20] I5 L6 I37 L6 := CM.a G_r0 R_r0_20 A_r0_20 uI37
          have e39 := u2_n uI37 (mF.nq G_r0 R_r0_1 R_r0_20 (by decide)) e15
          have e42 := u2_e uI37
          refine z_iinc C (z := 1) (lw := fun x43 => [(4, .int x43), (8, .int x32), (7, .int x30), (6, .int x29), (3, .int x26), (5, .int x20), (0, .ref r0), (1, .int n1), (2, .int n2)]) rfl rfl rfl (Nat.le_of_ble_eq_true rfl) rfl ⟨by omega, by omega⟩ (fun _ => rfl) (fun x43 ex43 => ?_)
          show V 171 [(4, .int x43), (8, .int x32), (7, .int x30), (6, .int x29), (3, .int x26), (5, .int x20), (0, .ref r0), (1, .int n1), (2, .int n2)] _ _ _ _
          refine k_goto C (pc2 := 5) rfl rfl ?_
          refine k_sub S [(0, .ref r0), (1, .int n1), (2, .int n2), (3, .int x26), (4, .int x43)] (List.forall_mem_cons.mpr ⟨List.mem_of_getElem? (i := 6) rfl, List.forall_mem_cons.mpr ⟨List.mem_of_getElem? (i := 7) rfl, List.forall_mem_cons.mpr ⟨List.mem_of_getElem? (i := 8) rfl, List.forall_mem_cons.mpr ⟨List.mem_of_getElem? (i := 4) rfl, List.forall_mem_cons.mpr ⟨List.mem_of_getElem? (i := 0) rfl, fun _ h => nomatch h⟩⟩⟩⟩⟩) ?_
          exact ihJ3 _ (MN.lt hmnn4 (by omega) (by omega)) I37 L6 x26 x43 rfl hI37 (CM.cons S13 (CM.mono S38 (by decide) (by decide)) (by decide) (by decide)) (by omega) (by omega) (by omega) (by omega) (by (have h9 := HgtS (g := I r0_1) (b := 198 + 401 * n1.toNatClampNeg) (x := x10) (y := x43) (by omega) (by omega)); (have h8 := hS.2.2 x10.toNatClampNeg (by have := ncz (x := x10) (by omega); omega)); (split at h9 <;> first | omega | (split at h9 <;> omega))) (by omega)
        refine k_iload C rfl rfl rfl ?_
        refine b_if_lt C (t := 106) rfl rfl rfl (fun c44 => ?_) (fun c44 => ?_)
        · skip
          refine z_iconst C (z := 1) rfl rfl rfl (fun x45 ex45 => ?_)
          refine k_goto C (pc2 := 111) rfl rfl ?_
          refine k_istore C (lw := [(8, .int x45), (7, .int x30), (6, .int x29), (3, .int x26), (5, .int x20), (0, .ref r0), (1, .int n1), (2, .int n2), (4, .int x10)]) rfl rfl (Nat.le_of_ble_eq_true rfl) rfl ?_
          refine k_aload_n C rfl rfl rfl ?_
          refine g_R C rfl rfl rfl T_r0 rfl R_r0_20 ?_
          refine k_iload_n C rfl rfl rfl ?_
          refine z_iconst C (z := 1) rfl rfl rfl (fun x46 ex46 => ?_)
          refine z_isub C rfl rfl ⟨by omega, by omega⟩ (fun x47 ex47 => ?_)
          refine k_iload C rfl rfl rfl ?_
          refine b_if_eq C (t := 129) rfl rfl rfl (fun c48 => by exfalso; omega) (fun c48 => ?_)
          refine z_iconst C (z := -1) rfl rfl rfl (fun x49 ex49 => ?_)
          refine k_goto C (pc2 := 167) rfl rfl ?_
          refine z_sI C rfl rfl T_r0_20 N_r0_20 (by omega) (by omega) (fun I50 uI50 => ?_)
          have hI50 : IM R r0 I50 := IM.arr hI14 G_r0 R_r0_20 ⟨(fun h => absurd h (by decide)), (fun h => absurd h (by decide)), (fun h => absurd h (by decide))⟩ (fun h => absurd h (by decide)) uI50
          have S51 : CM A R r0 [] [20] I5 L6 I50 L6 := CM.a G_r0 R_r0_20 A_r0_20 uI50
          have e52 := u2_n uI50 (mF.nq G_r0 R_r0_1 R_r0_20 (by decide)) e15
          have e55 := u2_e uI50
          refine z_iinc C (z := 1) (lw := fun x56 => [(4, .int x56), (8, .int x45), (7, .int x30), (6, .int x29), (3, .int x26), (5, .int x20), (0, .ref r0), (1, .int n1), (2, .int n2)]) rfl rfl rfl (Nat.le_of_ble_eq_true rfl) rfl ⟨by omega, by omega⟩ (fun _ => rfl) (fun x56 ex56 => ?_)
          show V 171 [(4, .int x56), (8, .int x45), (7, .int x30), (6, .int x29), (3, .int x26), (5, .int x20), (0, .ref r0), (1, .int n1), (2, .int n2)] _ _ _ _
          refine k_goto C (pc2 := 5) rfl rfl ?_
          refine k_sub S [(0, .ref r0), (1, .int n1), (2, .int n2), (3, .int x26), (4, .int x56)] (List.forall_mem_cons.mpr ⟨List.mem_of_getElem? (i := 6) rfl, List.forall_mem_cons.mpr ⟨List.mem_of_getElem? (i := 7) rfl, List.forall_mem_cons.mpr ⟨List.mem_of_getElem? (i := 8) rfl, List.forall_mem_cons.mpr ⟨List.mem_of_getElem? (i := 4) rfl, List.forall_mem_cons.mpr ⟨List.mem_of_getElem? (i := 0) rfl, fun _ h => nomatch h⟩⟩⟩⟩⟩) ?_
          exact ihJ3 _ (MN.lt hmnn4 (by omega) (by omega)) I50 L6 x26 x56 rfl hI50 (CM.cons S13 (CM.mono S51 (by decide) (by decide)) (by decide) (by decide)) (by omega) (by omega) (by omega) (by omega) (by (have h9 := HgtS (g := I r0_1) (b := 198 + 401 * n1.toNatClampNeg) (x := x10) (y := x56) (by omega) (by omega)); (have h8 := hS.2.2 x10.toNatClampNeg (by have := ncz (x := x10) (by omega); omega)); (split at h9 <;> first | omega | (split at h9 <;> omega))) (by omega)
        refine k_iload C rfl rfl rfl ?_
        refine z_iconst C (z := 2) rfl rfl rfl (fun x57 ex57 => ?_)
        refine b_icmp_ne C (t := 110) rfl rfl rfl (fun c58 => ?_) (fun c58 => ?_)
        · skip
          refine z_iconst C (z := 0) rfl rfl rfl (fun x59 ex59 => ?_)
          refine k_istore C (lw := [(8, .int x59), (7, .int x30), (6, .int x29), (3, .int x26), (5, .int x20), (0, .ref r0), (1, .int n1), (2, .int n2), (4, .int x10)]) rfl rfl (Nat.le_of_ble_eq_true rfl) rfl ?_
          refine k_aload_n C rfl rfl rfl ?_
          refine g_R C rfl rfl rfl T_r0 rfl R_r0_20 ?_
          refine k_iload_n C rfl rfl rfl ?_
          refine z_iconst C (z := 1) rfl rfl rfl (fun x60 ex60 => ?_)
          refine z_isub C rfl rfl ⟨by omega, by omega⟩ (fun x61 ex61 => ?_)
          refine k_iload C rfl rfl rfl ?_
          refine b_if_eq C (t := 129) rfl rfl rfl (fun c62 => ?_) (fun c62 => by exfalso; omega)
          refine k_iload C rfl rfl rfl ?_
          refine z_iconst C (z := 2) rfl rfl rfl (fun x63 ex63 => ?_)
          refine b_icmp_ne C (t := 140) rfl rfl rfl (fun c64 => ?_) (fun c64 => by exfalso; omega)
          refine k_iload C rfl rfl rfl ?_
          refine k_iload C rfl rfl rfl ?_
          refine zt_iadd C rfl rfl (fun x65 => ?_)
          have gx65 := rg x65
          refine k_iload_n C rfl rfl rfl ?_
          refine b_if_eq C (t := 165) rfl rfl rfl (fun c66 => ?_) (fun c66 => ?_)
          · skip
            refine z_iconst C (z := 0) rfl rfl rfl (fun x67 ex67 => ?_)
            refine z_iadd C rfl rfl ⟨by omega, by omega⟩ (fun x68 ex68 => ?_)
            refine z_sI C rfl rfl T_r0_20 N_r0_20 (by omega) (by omega) (fun I69 uI69 => ?_)
            have hI69 : IM R r0 I69 := IM.arr hI14 G_r0 R_r0_20 ⟨(fun h => absurd h (by decide)), (fun h => absurd h (by decide)), (fun h => absurd h (by decide))⟩ (fun h => absurd h (by decide)) uI69
            have S70 : CM A R r0 [] [20] I5 L6 I69 L6 := CM.a G_r0 R_r0_20 A_r0_20 uI69
            have e71 := u2_n uI69 (mF.nq G_r0 R_r0_1 R_r0_20 (by decide)) e15
            have e74 := u2_e uI69
            refine z_iinc C (z := 1) (lw := fun x75 => [(4, .int x75), (8, .int x59), (7, .int x30), (6, .int x29), (3, .int x26), (5, .int x20), (0, .ref r0), (1, .int n1), (2, .int n2)]) rfl rfl rfl (Nat.le_of_ble_eq_true rfl) rfl ⟨by omega, by omega⟩ (fun _ => rfl) (fun x75 ex75 => ?_)
            show V 171 [(4, .int x75), (8, .int x59), (7, .int x30), (6, .int x29), (3, .int x26), (5, .int x20), (0, .ref r0), (1, .int n1), (2, .int n2)] _ _ _ _
            refine k_goto C (pc2 := 5) rfl rfl ?_
            refine k_sub S [(0, .ref r0), (1, .int n1), (2, .int n2), (3, .int x26), (4, .int x75)] (List.forall_mem_cons.mpr ⟨List.mem_of_getElem? (i := 6) rfl, List.forall_mem_cons.mpr ⟨List.mem_of_getElem? (i := 7) rfl, List.forall_mem_cons.mpr ⟨List.mem_of_getElem? (i := 8) rfl, List.forall_mem_cons.mpr ⟨List.mem_of_getElem? (i := 4) rfl, List.forall_mem_cons.mpr ⟨List.mem_of_getElem? (i := 0) rfl, fun _ h => nomatch h⟩⟩⟩⟩⟩) ?_
            exact ihJ3 _ (MN.lt hmnn4 (by omega) (by omega)) I69 L6 x26 x75 rfl hI69 (CM.cons S13 (CM.mono S70 (by decide) (by decide)) (by decide) (by decide)) (by omega) (by omega) (by omega) (by omega) (by (have h9 := HgtS (g := I r0_1) (b := 198 + 401 * n1.toNatClampNeg) (x := x10) (y := x75) (by omega) (by omega)); (have h8 := hS.2.2 x10.toNatClampNeg (by have := ncz (x := x10) (by omega); omega)); (split at h9 <;> first | omega | (split at h9 <;> omega))) (by omega)
          refine k_iload C rfl rfl rfl ?_
          refine z_iconst C (z := 4) rfl rfl rfl (fun x76 ex76 => ?_)
          refine b_icmp_ne C (t := 165) rfl rfl rfl (fun c77 => ?_) (fun c77 => ?_)
          · skip
            refine z_iconst C (z := 0) rfl rfl rfl (fun x78 ex78 => ?_)
            refine z_iadd C rfl rfl ⟨by omega, by omega⟩ (fun x79 ex79 => ?_)
            refine z_sI C rfl rfl T_r0_20 N_r0_20 (by omega) (by omega) (fun I80 uI80 => ?_)
            have hI80 : IM R r0 I80 := IM.arr hI14 G_r0 R_r0_20 ⟨(fun h => absurd h (by decide)), (fun h => absurd h (by decide)), (fun h => absurd h (by decide))⟩ (fun h => absurd h (by decide)) uI80
            have S81 : CM A R r0 [] [20] I5 L6 I80 L6 := CM.a G_r0 R_r0_20 A_r0_20 uI80
            have e82 := u2_n uI80 (mF.nq G_r0 R_r0_1 R_r0_20 (by decide)) e15
            have e85 := u2_e uI80
            refine z_iinc C (z := 1) (lw := fun x86 => [(4, .int x86), (8, .int x59), (7, .int x30), (6, .int x29), (3, .int x26), (5, .int x20), (0, .ref r0), (1, .int n1), (2, .int n2)]) rfl rfl rfl (Nat.le_of_ble_eq_true rfl) rfl ⟨by omega, by omega⟩ (fun _ => rfl) (fun x86 ex86 => ?_)
            show V 171 [(4, .int x86), (8, .int x59), (7, .int x30), (6, .int x29), (3, .int x26), (5, .int x20), (0, .ref r0), (1, .int n1), (2, .int n2)] _ _ _ _
            refine k_goto C (pc2 := 5) rfl rfl ?_
            refine k_sub S [(0, .ref r0), (1, .int n1), (2, .int n2), (3, .int x26), (4, .int x86)] (List.forall_mem_cons.mpr ⟨List.mem_of_getElem? (i := 6) rfl, List.forall_mem_cons.mpr ⟨List.mem_of_getElem? (i := 7) rfl, List.forall_mem_cons.mpr ⟨List.mem_of_getElem? (i := 8) rfl, List.forall_mem_cons.mpr ⟨List.mem_of_getElem? (i := 4) rfl, List.forall_mem_cons.mpr ⟨List.mem_of_getElem? (i := 0) rfl, fun _ h => nomatch h⟩⟩⟩⟩⟩) ?_
            exact ihJ3 _ (MN.lt hmnn4 (by omega) (by omega)) I80 L6 x26 x86 rfl hI80 (CM.cons S13 (CM.mono S81 (by decide) (by decide)) (by decide) (by decide)) (by omega) (by omega) (by omega) (by omega) (by (have h9 := HgtS (g := I r0_1) (b := 198 + 401 * n1.toNatClampNeg) (x := x10) (y := x86) (by omega) (by omega)); (have h8 := hS.2.2 x10.toNatClampNeg (by have := ncz (x := x10) (by omega); omega)); (split at h9 <;> first | omega | (split at h9 <;> omega))) (by omega)
          refine k_aload_n C rfl rfl rfl ?_
          refine k_iload_n C rfl rfl rfl ?_
          refine k_iload C rfl rfl rfl ?_
          refine c_VI C (a_X12_toldBy hI14 H_r0 (by omega) (by omega) (by omega) (by omega)) rfl rfl rfl rfl rfl ⟨_, rfl, rfl, T_r0, Nat.le_of_ble_eq_true rfl⟩ rfl rfl (Nat.le_of_ble_eq_true rfl) (Nat.le_of_ble_eq_true rfl) (Nat.le_of_ble_eq_true rfl) ?_
          rintro x87 _ _ ⟨p0x87, rfl, rfl⟩
          have p0x87 := p0x87 r0_1 R_r0_1
          have gx87 := rg x87
          try simp only [e15, ex29, ex30] at p0x87
          try have q0x87 := congrArg Int32.toInt p0x87
          rw [(CM.j0 (I := I) (L := L) (I' := I5) (L' := L6) (A := A) (W := []) (WA := [20]) (CM.mono S13 (by decide) (by decide)) R_r0_1 (by decide))] at p0x87
          refine k_goto C (pc2 := 166) rfl rfl ?_
          refine zt_iadd C rfl rfl (fun x88 => ?_)
          have gx88 := rg x88
          refine z_sI C rfl rfl T_r0_20 N_r0_20 (by omega) (by omega) (fun I89 uI89 => ?_)
          have hI89 : IM R r0 I89 := IM.arr hI14 G_r0 R_r0_20 ⟨(fun h => absurd h (by decide)), (fun h => absurd h (by decide)), (fun h => absurd h (by decide))⟩ (fun h => absurd h (by decide)) uI89
          have S90 : CM A R r0 [] [20] I5 L6 I89 L6 := CM.a G_r0 R_r0_20 A_r0_20 uI89
          have e91 := u2_n uI89 (mF.nq G_r0 R_r0_1 R_r0_20 (by decide)) e15
          have e94 := u2_e uI89
          refine z_iinc C (z := 1) (lw := fun x95 => [(4, .int x95), (8, .int x59), (7, .int x30), (6, .int x29), (3, .int x26), (5, .int x20), (0, .ref r0), (1, .int n1), (2, .int n2)]) rfl rfl rfl (Nat.le_of_ble_eq_true rfl) rfl ⟨by omega, by omega⟩ (fun _ => rfl) (fun x95 ex95 => ?_)
          show V 171 [(4, .int x95), (8, .int x59), (7, .int x30), (6, .int x29), (3, .int x26), (5, .int x20), (0, .ref r0), (1, .int n1), (2, .int n2)] _ _ _ _
          refine k_goto C (pc2 := 5) rfl rfl ?_
          refine k_sub S [(0, .ref r0), (1, .int n1), (2, .int n2), (3, .int x26), (4, .int x95)] (List.forall_mem_cons.mpr ⟨List.mem_of_getElem? (i := 6) rfl, List.forall_mem_cons.mpr ⟨List.mem_of_getElem? (i := 7) rfl, List.forall_mem_cons.mpr ⟨List.mem_of_getElem? (i := 8) rfl, List.forall_mem_cons.mpr ⟨List.mem_of_getElem? (i := 4) rfl, List.forall_mem_cons.mpr ⟨List.mem_of_getElem? (i := 0) rfl, fun _ h => nomatch h⟩⟩⟩⟩⟩) ?_
          exact ihJ3 _ (MN.lt hmnn4 (by omega) (by omega)) I89 L6 x26 x95 rfl hI89 (CM.cons S13 (CM.mono S90 (by decide) (by decide)) (by decide) (by decide)) (by omega) (by omega) (by omega) (by omega) (by (have h9 := HgtS (g := I r0_1) (b := 198 + 401 * n1.toNatClampNeg) (x := x10) (y := x95) (by omega) (by omega)); (have h8 := hS.2.2 x10.toNatClampNeg (by have := ncz (x := x10) (by omega); omega)); (split at h9 <;> first | omega | (split at h9 <;> omega))) (by omega)
        refine k_iload C rfl rfl rfl ?_
        refine k_iload C rfl rfl rfl ?_
        refine b_icmp_eq C (t := 110) rfl rfl rfl (fun c96 => ?_) (fun c96 => ?_)
        · skip
          refine z_iconst C (z := 0) rfl rfl rfl (fun x97 ex97 => ?_)
          refine k_istore C (lw := [(8, .int x97), (7, .int x30), (6, .int x29), (3, .int x26), (5, .int x20), (0, .ref r0), (1, .int n1), (2, .int n2), (4, .int x10)]) rfl rfl (Nat.le_of_ble_eq_true rfl) rfl ?_
          refine k_aload_n C rfl rfl rfl ?_
          refine g_R C rfl rfl rfl T_r0 rfl R_r0_20 ?_
          refine k_iload_n C rfl rfl rfl ?_
          refine z_iconst C (z := 1) rfl rfl rfl (fun x98 ex98 => ?_)
          refine z_isub C rfl rfl ⟨by omega, by omega⟩ (fun x99 ex99 => ?_)
          refine k_iload C rfl rfl rfl ?_
          refine b_if_eq C (t := 129) rfl rfl rfl (fun c100 => ?_) (fun c100 => by exfalso; omega)
          refine k_iload C rfl rfl rfl ?_
          refine z_iconst C (z := 2) rfl rfl rfl (fun x101 ex101 => ?_)
          refine b_icmp_ne C (t := 140) rfl rfl rfl (fun c102 => by exfalso; omega) (fun c102 => ?_)
          refine k_iload C rfl rfl rfl ?_
          refine k_goto C (pc2 := 167) rfl rfl ?_
          refine z_sI C rfl rfl T_r0_20 N_r0_20 (by omega) (by omega) (fun I103 uI103 => ?_)
          have hI103 : IM R r0 I103 := IM.arr hI14 G_r0 R_r0_20 ⟨(fun h => absurd h (by decide)), (fun h => absurd h (by decide)), (fun h => absurd h (by decide))⟩ (fun h => absurd h (by decide)) uI103
          have S104 : CM A R r0 [] [20] I5 L6 I103 L6 := CM.a G_r0 R_r0_20 A_r0_20 uI103
          have e105 := u2_n uI103 (mF.nq G_r0 R_r0_1 R_r0_20 (by decide)) e15
          have e108 := u2_e uI103
          refine z_iinc C (z := 1) (lw := fun x109 => [(4, .int x109), (8, .int x97), (7, .int x30), (6, .int x29), (3, .int x26), (5, .int x20), (0, .ref r0), (1, .int n1), (2, .int n2)]) rfl rfl rfl (Nat.le_of_ble_eq_true rfl) rfl ⟨by omega, by omega⟩ (fun _ => rfl) (fun x109 ex109 => ?_)
          show V 171 [(4, .int x109), (8, .int x97), (7, .int x30), (6, .int x29), (3, .int x26), (5, .int x20), (0, .ref r0), (1, .int n1), (2, .int n2)] _ _ _ _
          refine k_goto C (pc2 := 5) rfl rfl ?_
          refine k_sub S [(0, .ref r0), (1, .int n1), (2, .int n2), (3, .int x26), (4, .int x109)] (List.forall_mem_cons.mpr ⟨List.mem_of_getElem? (i := 6) rfl, List.forall_mem_cons.mpr ⟨List.mem_of_getElem? (i := 7) rfl, List.forall_mem_cons.mpr ⟨List.mem_of_getElem? (i := 8) rfl, List.forall_mem_cons.mpr ⟨List.mem_of_getElem? (i := 4) rfl, List.forall_mem_cons.mpr ⟨List.mem_of_getElem? (i := 0) rfl, fun _ h => nomatch h⟩⟩⟩⟩⟩) ?_
          exact ihJ3 _ (MN.lt hmnn4 (by omega) (by omega)) I103 L6 x26 x109 rfl hI103 (CM.cons S13 (CM.mono S104 (by decide) (by decide)) (by decide) (by decide)) (by omega) (by omega) (by omega) (by omega) (by (have h9 := HgtS (g := I r0_1) (b := 198 + 401 * n1.toNatClampNeg) (x := x10) (y := x109) (by omega) (by omega)); (have h8 := hS.2.2 x10.toNatClampNeg (by have := ncz (x := x10) (by omega); omega)); (split at h9 <;> first | omega | (split at h9 <;> omega))) (by omega)
        refine z_iconst C (z := 1) rfl rfl rfl (fun x110 ex110 => ?_)
        refine k_goto C (pc2 := 111) rfl rfl ?_
        refine k_istore C (lw := [(8, .int x110), (7, .int x30), (6, .int x29), (3, .int x26), (5, .int x20), (0, .ref r0), (1, .int n1), (2, .int n2), (4, .int x10)]) rfl rfl (Nat.le_of_ble_eq_true rfl) rfl ?_
        refine k_aload_n C rfl rfl rfl ?_
        refine g_R C rfl rfl rfl T_r0 rfl R_r0_20 ?_
        refine k_iload_n C rfl rfl rfl ?_
        refine z_iconst C (z := 1) rfl rfl rfl (fun x111 ex111 => ?_)
        refine z_isub C rfl rfl ⟨by omega, by omega⟩ (fun x112 ex112 => ?_)
        refine k_iload C rfl rfl rfl ?_
        refine b_if_eq C (t := 129) rfl rfl rfl (fun c113 => by exfalso; omega) (fun c113 => ?_)
        refine z_iconst C (z := -1) rfl rfl rfl (fun x114 ex114 => ?_)
        refine k_goto C (pc2 := 167) rfl rfl ?_
        refine z_sI C rfl rfl T_r0_20 N_r0_20 (by omega) (by omega) (fun I115 uI115 => ?_)
        have hI115 : IM R r0 I115 := IM.arr hI14 G_r0 R_r0_20 ⟨(fun h => absurd h (by decide)), (fun h => absurd h (by decide)), (fun h => absurd h (by decide))⟩ (fun h => absurd h (by decide)) uI115
        have S116 : CM A R r0 [] [20] I5 L6 I115 L6 := CM.a G_r0 R_r0_20 A_r0_20 uI115
        have e117 := u2_n uI115 (mF.nq G_r0 R_r0_1 R_r0_20 (by decide)) e15
        have e120 := u2_e uI115
        refine z_iinc C (z := 1) (lw := fun x121 => [(4, .int x121), (8, .int x110), (7, .int x30), (6, .int x29), (3, .int x26), (5, .int x20), (0, .ref r0), (1, .int n1), (2, .int n2)]) rfl rfl rfl (Nat.le_of_ble_eq_true rfl) rfl ⟨by omega, by omega⟩ (fun _ => rfl) (fun x121 ex121 => ?_)
        show V 171 [(4, .int x121), (8, .int x110), (7, .int x30), (6, .int x29), (3, .int x26), (5, .int x20), (0, .ref r0), (1, .int n1), (2, .int n2)] _ _ _ _
        refine k_goto C (pc2 := 5) rfl rfl ?_
        refine k_sub S [(0, .ref r0), (1, .int n1), (2, .int n2), (3, .int x26), (4, .int x121)] (List.forall_mem_cons.mpr ⟨List.mem_of_getElem? (i := 6) rfl, List.forall_mem_cons.mpr ⟨List.mem_of_getElem? (i := 7) rfl, List.forall_mem_cons.mpr ⟨List.mem_of_getElem? (i := 8) rfl, List.forall_mem_cons.mpr ⟨List.mem_of_getElem? (i := 4) rfl, List.forall_mem_cons.mpr ⟨List.mem_of_getElem? (i := 0) rfl, fun _ h => nomatch h⟩⟩⟩⟩⟩) ?_
        exact ihJ3 _ (MN.lt hmnn4 (by omega) (by omega)) I115 L6 x26 x121 rfl hI115 (CM.cons S13 (CM.mono S116 (by decide) (by decide)) (by decide) (by decide)) (by omega) (by omega) (by omega) (by omega) (by (have h9 := HgtS (g := I r0_1) (b := 198 + 401 * n1.toNatClampNeg) (x := x10) (y := x121) (by omega) (by omega)); (have h8 := hS.2.2 x10.toNatClampNeg (by have := ncz (x := x10) (by omega); omega)); (split at h9 <;> first | omega | (split at h9 <;> omega))) (by omega)
      refine k_aload_n C rfl rfl rfl ?_
      refine g_R C rfl rfl rfl T_r0 rfl R_r0_20 ?_
      refine k_iload_n C rfl rfl rfl ?_
      refine k_iload C rfl rfl rfl ?_
      refine b_if_ne C (t := 48) rfl rfl rfl (fun c122 => ?_) (fun c122 => ?_)
      · skip
        refine z_iconst C (z := 0) rfl rfl rfl (fun x123 ex123 => ?_)
        obtain ⟨T_r0_20, N_r0_20, A_r0_20⟩ := id H_r0_20
        refine z_sI C rfl rfl T_r0_20 N_r0_20 (by omega) (by omega) (fun I124 uI124 => ?_)
        have hI124 : IM R r0 I124 := IM.arr hI14 G_r0 R_r0_20 ⟨(fun h => absurd h (by decide)), (fun h => absurd h (by decide)), (fun h => absurd h (by decide))⟩ (fun h => absurd h (by decide)) uI124
        have S125 : CM A R r0 [] [20] I5 L6 I124 L6 := CM.a G_r0 R_r0_20 A_r0_20 uI124
        have e126 := u2_n uI124 (mF.nq G_r0 R_r0_1 R_r0_20 (by decide)) e15
        have e127 := u2_e uI124
        refine z_iinc C (z := 1) (lw := fun x128 => [(3, .int x128), (5, .int x20), (0, .ref r0), (1, .int n1), (2, .int n2), (4, .int x10)]) rfl rfl rfl (Nat.le_of_ble_eq_true rfl) rfl ⟨by omega, by omega⟩ (fun _ => rfl) (fun x128 ex128 => ?_)
        show V 53 [(3, .int x128), (5, .int x20), (0, .ref r0), (1, .int n1), (2, .int n2), (4, .int x10)] _ _ _ _
        refine k_goto C (pc2 := 168) rfl rfl ?_
        refine z_iinc C (z := 1) (lw := fun x129 => [(4, .int x129), (3, .int x128), (5, .int x20), (0, .ref r0), (1, .int n1), (2, .int n2)]) rfl rfl rfl (Nat.le_of_ble_eq_true rfl) rfl ⟨by omega, by omega⟩ (fun _ => rfl) (fun x129 ex129 => ?_)
        show V 171 [(4, .int x129), (3, .int x128), (5, .int x20), (0, .ref r0), (1, .int n1), (2, .int n2)] _ _ _ _
        refine k_goto C (pc2 := 5) rfl rfl ?_
        refine k_sub S [(0, .ref r0), (1, .int n1), (2, .int n2), (3, .int x128), (4, .int x129)] (List.forall_mem_cons.mpr ⟨List.mem_of_getElem? (i := 3) rfl, List.forall_mem_cons.mpr ⟨List.mem_of_getElem? (i := 4) rfl, List.forall_mem_cons.mpr ⟨List.mem_of_getElem? (i := 5) rfl, List.forall_mem_cons.mpr ⟨List.mem_of_getElem? (i := 1) rfl, List.forall_mem_cons.mpr ⟨List.mem_of_getElem? (i := 0) rfl, fun _ h => nomatch h⟩⟩⟩⟩⟩) ?_
        exact ihJ3 _ (MN.lt hmnn4 (by omega) (by omega)) I124 L6 x128 x129 rfl hI124 (CM.cons S13 (CM.mono S125 (by decide) (by decide)) (by decide) (by decide)) (by omega) (by omega) (by omega) (by omega) (by (have h9 := HgtS (g := I r0_1) (b := 198 + 401 * n1.toNatClampNeg) (x := x10) (y := x129) (by omega) (by omega)); (have h8 := hS.2.2 x10.toNatClampNeg (by have := ncz (x := x10) (by omega); omega)); (split at h9 <;> first | omega | (split at h9 <;> omega))) (by omega)
      refine k_iload_n C rfl rfl rfl ?_
      refine b_if_ne C (t := 48) rfl rfl rfl (fun c130 => ?_) (fun c130 => ?_)
      · skip
        refine z_iconst C (z := 0) rfl rfl rfl (fun x131 ex131 => ?_)
        obtain ⟨T_r0_20, N_r0_20, A_r0_20⟩ := id H_r0_20
        refine z_sI C rfl rfl T_r0_20 N_r0_20 (by omega) (by omega) (fun I132 uI132 => ?_)
        have hI132 : IM R r0 I132 := IM.arr hI14 G_r0 R_r0_20 ⟨(fun h => absurd h (by decide)), (fun h => absurd h (by decide)), (fun h => absurd h (by decide))⟩ (fun h => absurd h (by decide)) uI132
        have S133 : CM A R r0 [] [20] I5 L6 I132 L6 := CM.a G_r0 R_r0_20 A_r0_20 uI132
        have e134 := u2_n uI132 (mF.nq G_r0 R_r0_1 R_r0_20 (by decide)) e15
        have e135 := u2_e uI132
        refine z_iinc C (z := 1) (lw := fun x136 => [(3, .int x136), (5, .int x20), (0, .ref r0), (1, .int n1), (2, .int n2), (4, .int x10)]) rfl rfl rfl (Nat.le_of_ble_eq_true rfl) rfl ⟨by omega, by omega⟩ (fun _ => rfl) (fun x136 ex136 => ?_)
        show V 53 [(3, .int x136), (5, .int x20), (0, .ref r0), (1, .int n1), (2, .int n2), (4, .int x10)] _ _ _ _
        refine k_goto C (pc2 := 168) rfl rfl ?_
        refine z_iinc C (z := 1) (lw := fun x137 => [(4, .int x137), (3, .int x136), (5, .int x20), (0, .ref r0), (1, .int n1), (2, .int n2)]) rfl rfl rfl (Nat.le_of_ble_eq_true rfl) rfl ⟨by omega, by omega⟩ (fun _ => rfl) (fun x137 ex137 => ?_)
        show V 171 [(4, .int x137), (3, .int x136), (5, .int x20), (0, .ref r0), (1, .int n1), (2, .int n2)] _ _ _ _
        refine k_goto C (pc2 := 5) rfl rfl ?_
        refine k_sub S [(0, .ref r0), (1, .int n1), (2, .int n2), (3, .int x136), (4, .int x137)] (List.forall_mem_cons.mpr ⟨List.mem_of_getElem? (i := 3) rfl, List.forall_mem_cons.mpr ⟨List.mem_of_getElem? (i := 4) rfl, List.forall_mem_cons.mpr ⟨List.mem_of_getElem? (i := 5) rfl, List.forall_mem_cons.mpr ⟨List.mem_of_getElem? (i := 1) rfl, List.forall_mem_cons.mpr ⟨List.mem_of_getElem? (i := 0) rfl, fun _ h => nomatch h⟩⟩⟩⟩⟩) ?_
        exact ihJ3 _ (MN.lt hmnn4 (by omega) (by omega)) I132 L6 x136 x137 rfl hI132 (CM.cons S13 (CM.mono S133 (by decide) (by decide)) (by decide) (by decide)) (by omega) (by omega) (by omega) (by omega) (by (have h9 := HgtS (g := I r0_1) (b := 198 + 401 * n1.toNatClampNeg) (x := x10) (y := x137) (by omega) (by omega)); (have h8 := hS.2.2 x10.toNatClampNeg (by have := ncz (x := x10) (by omega); omega)); (split at h9 <;> first | omega | (split at h9 <;> omega))) (by omega)
      refine z_iconst C (z := 1) rfl rfl rfl (fun x138 ex138 => ?_)
      refine k_goto C (pc2 := 49) rfl rfl ?_
      obtain ⟨T_r0_20, N_r0_20, A_r0_20⟩ := id H_r0_20
      refine z_sI C rfl rfl T_r0_20 N_r0_20 (by omega) (by omega) (fun I139 uI139 => ?_)
      have hI139 : IM R r0 I139 := IM.arr hI14 G_r0 R_r0_20 ⟨(fun h => absurd h (by decide)), (fun h => absurd h (by decide)), (fun h => absurd h (by decide))⟩ (fun h => absurd h (by decide)) uI139
      have S140 : CM A R r0 [] [20] I5 L6 I139 L6 := CM.a G_r0 R_r0_20 A_r0_20 uI139
      have e141 := u2_n uI139 (mF.nq G_r0 R_r0_1 R_r0_20 (by decide)) e15
      have e142 := u2_e uI139
      refine z_iinc C (z := 1) (lw := fun x143 => [(3, .int x143), (5, .int x20), (0, .ref r0), (1, .int n1), (2, .int n2), (4, .int x10)]) rfl rfl rfl (Nat.le_of_ble_eq_true rfl) rfl ⟨by omega, by omega⟩ (fun _ => rfl) (fun x143 ex143 => ?_)
      show V 53 [(3, .int x143), (5, .int x20), (0, .ref r0), (1, .int n1), (2, .int n2), (4, .int x10)] _ _ _ _
      refine k_goto C (pc2 := 168) rfl rfl ?_
      refine z_iinc C (z := 1) (lw := fun x144 => [(4, .int x144), (3, .int x143), (5, .int x20), (0, .ref r0), (1, .int n1), (2, .int n2)]) rfl rfl rfl (Nat.le_of_ble_eq_true rfl) rfl ⟨by omega, by omega⟩ (fun _ => rfl) (fun x144 ex144 => ?_)
      show V 171 [(4, .int x144), (3, .int x143), (5, .int x20), (0, .ref r0), (1, .int n1), (2, .int n2)] _ _ _ _
      refine k_goto C (pc2 := 5) rfl rfl ?_
      refine k_sub S [(0, .ref r0), (1, .int n1), (2, .int n2), (3, .int x143), (4, .int x144)] (List.forall_mem_cons.mpr ⟨List.mem_of_getElem? (i := 3) rfl, List.forall_mem_cons.mpr ⟨List.mem_of_getElem? (i := 4) rfl, List.forall_mem_cons.mpr ⟨List.mem_of_getElem? (i := 5) rfl, List.forall_mem_cons.mpr ⟨List.mem_of_getElem? (i := 1) rfl, List.forall_mem_cons.mpr ⟨List.mem_of_getElem? (i := 0) rfl, fun _ h => nomatch h⟩⟩⟩⟩⟩) ?_
      exact ihJ3 _ (MN.lt hmnn4 (by omega) (by omega)) I139 L6 x143 x144 rfl hI139 (CM.cons S13 (CM.mono S140 (by decide) (by decide)) (by decide) (by decide)) (by omega) (by omega) (by omega) (by omega) (by (have h9 := HgtS (g := I r0_1) (b := 198 + 401 * n1.toNatClampNeg) (x := x10) (y := x144) (by omega) (by omega)); (have h8 := hS.2.2 x10.toNatClampNeg (by have := ncz (x := x10) (by omega); omega)); (split at h9 <;> first | omega | (split at h9 <;> omega))) (by omega)
  refine k_istore C (lw := [(4, .int x2), (3, .int x1), (0, .ref r0), (1, .int n1), (2, .int n2)]) rfl rfl (Nat.le_of_ble_eq_true rfl) rfl ?_
  refine k_sub S [(0, .ref r0), (1, .int n1), (2, .int n2), (3, .int x1), (4, .int x2)] (List.forall_mem_cons.mpr ⟨List.mem_of_getElem? (i := 2) rfl, List.forall_mem_cons.mpr ⟨List.mem_of_getElem? (i := 3) rfl, List.forall_mem_cons.mpr ⟨List.mem_of_getElem? (i := 4) rfl, List.forall_mem_cons.mpr ⟨List.mem_of_getElem? (i := 1) rfl, List.forall_mem_cons.mpr ⟨List.mem_of_getElem? (i := 0) rfl, fun _ h => nomatch h⟩⟩⟩⟩⟩) ?_
  exact J3 _ I L x1 x2 rfl hI CM.rf (by omega) (by omega) (by omega) (by omega) (by rw [nck (x := x2) (n := 0) (by omega)]; show _ = (0 : Int); omega) (by omega)

theorem a_X12_value {d : Nat} {T N : Nat → Nat} {I : IT} {L : LT} {R : RT} {A : Nat → Prop} {r0 : Nat} {n1 n2 n3 : Int32} (hI : IM R r0 I) (H_r0 : (h_MD T N R A) r0) : Ex (d + 9) 253 [.ref r0, .int n1, .int n2, .int n3] (T, N, I, L, R) 0 0 (pI T N R (fun x9 I9 L9 => (-18 ≤ x9.toInt) ∧ (x9.toInt ≤ 40) ∧ (IM R r0 I9 ∧ CM A R r0 [0] [4, 5] I L I9 L9))) := by
  refine ⟨_, rfl, Nat.le_of_ble_eq_true rfl, fun V C S => ?_⟩
  show V 0 [(0, .ref r0), (1, .int n1), (2, .int n2), (3, .int n3)] [] (T, N, I, L, R) 0 0
  have gn1 := rg n1
  have gn2 := rg n2
  have gn3 := rg n3
  obtain ⟨T_r0, A_r0, ⟨r0_1, R_r0_1, H_r0_1⟩, ⟨r0_2, R_r0_2, H_r0_2⟩, ⟨r0_4, R_r0_4, H_r0_4⟩, ⟨r0_5, R_r0_5, H_r0_5⟩, ⟨r0_10, R_r0_10, H_r0_10⟩, ⟨r0_18, R_r0_18, H_r0_18⟩, ⟨r0_20, R_r0_20, H_r0_20⟩, ⟨r0_21, R_r0_21, H_r0_21⟩, ⟨r0_22, R_r0_22, H_r0_22⟩, ⟨r0_23, R_r0_23, H_r0_23⟩, ⟨r0_25, R_r0_25, H_r0_25⟩, ⟨r0_26, R_r0_26, H_r0_26⟩, ⟨r0_27, R_r0_27, H_r0_27⟩, ⟨r0_28, R_r0_28, H_r0_28⟩, ⟨r0_34, R_r0_34, H_r0_34⟩, J_r0, Y_r0⟩ := id H_r0
  have G_r0 : mF T R r0 := ⟨J_r0, Y_r0, T_r0⟩
  refine k_aload_n C rfl rfl rfl ?_
  refine z_iconst C (z := 0) rfl rfl rfl (fun x1 ex1 => ?_)
  refine z_pI C rfl rfl rfl T_r0 (Or.inr rfl) rfl (fun I2 uI2 => ?_)
  have hI2 : IM R r0 I2 := IM.fld hI G_r0 ⟨(fun h => absurd h (by decide)), (fun h => absurd h (by decide)), (fun h => absurd h (by decide)), (fun h => absurd h (by decide)), (fun h => absurd h (by decide))⟩ uI2
  have S3 : CM A R r0 [0] [] I L I2 L := CM.f G_r0 A_r0 uI2
  have e4 := u2_e uI2
  refine k_aload_n C rfl rfl rfl ?_
  refine k_aload_n C rfl rfl rfl ?_
  refine k_iload_n C rfl rfl rfl ?_
  refine c_VI C (a_X12_noSigns hI2 H_r0) rfl rfl rfl rfl rfl ⟨_, rfl, rfl, T_r0, Nat.le_of_ble_eq_true rfl⟩ rfl rfl (Nat.le_of_ble_eq_true rfl) (Nat.le_of_ble_eq_true rfl) (Nat.le_of_ble_eq_true rfl) ?_
  rintro x5 _ _ ⟨o0x5, o1x5, p0x5, rfl, rfl⟩
  have p0x5 := p0x5 r0_1 R_r0_1
  have gx5 := rg x5
  obtain ⟨x6, e7⟩ : ∃ x, I2 r0_1 3 = x := ⟨_, rfl⟩
  have gx6 := rg x6
  have ox6 := IM.c3 hI2 R_r0_1 e7
  try simp only [e4, e7] at p0x5
  try have q0x5 := congrArg Int32.toInt p0x5
  refine b_if_ne C (t := 22) rfl rfl rfl (fun c8 => ?_) (fun c8 => ?_)
  · skip
    refine z_iconst C (z := 1) rfl rfl rfl (fun x9 ex9 => ?_)
    refine k_goto C (pc2 := 27) rfl rfl ?_
    refine z_iconst C (z := 1) rfl rfl rfl (fun x10 ex10 => ?_)
    have q11 : x9.toNatClampNeg = 1 := nck (by omega)
    have q12 : x10.toNatClampNeg = 1 := nck (by omega)
    refine c_VI C (a_X12_throwsIf hI2 H_r0 (by omega) (by omega)) rfl rfl rfl rfl rfl ⟨_, rfl, rfl, T_r0, Nat.le_of_ble_eq_true rfl⟩ rfl rfl (Nat.le_of_ble_eq_true rfl) (Nat.le_of_ble_eq_true rfl) (Nat.le_of_ble_eq_true rfl) ?_
    rintro x13 I14 L15 ⟨o0x13, o1x13, p0x13, hI14, S16⟩
    have e18 := CM.j S16 R_r0_1 (by decide) e7
    have gx13 := rg x13
    try simp only [q11, q12, e4, e7] at p0x13
    try have q0x13 := congrArg Int32.toInt p0x13
    refine b_if_eq C (t := 36) rfl rfl rfl (fun c19 => by exfalso; omega) (fun c19 => ?_)
    refine z_iconst C (z := 0) rfl rfl rfl (fun x20 ex20 => ?_)
    exact k_iret C rfl (Or.inl rfl) (Nat.le_of_ble_eq_true rfl) (Nat.le_of_ble_eq_true rfl) ⟨_, _, _, rfl, rfl, by omega, by omega, hI14, (CM.cons S3 (CM.mono S16 (by decide) (by decide)) (by decide) (by decide))⟩
  refine k_aload_n C rfl rfl rfl ?_
  refine k_iload_n C rfl rfl rfl ?_
  refine c_VI C (a_X12_noForm hI2 H_r0) rfl rfl rfl rfl rfl ⟨_, rfl, rfl, T_r0, Nat.le_of_ble_eq_true rfl⟩ rfl rfl (Nat.le_of_ble_eq_true rfl) (Nat.le_of_ble_eq_true rfl) (Nat.le_of_ble_eq_true rfl) ?_
  rintro x21 _ _ ⟨o0x21, o1x21, p0x21, rfl, rfl⟩
  have p0x21 := p0x21 r0_1 R_r0_1
  have gx21 := rg x21
  obtain ⟨x22, e23⟩ : ∃ x, I2 r0_1 1 = x := ⟨_, rfl⟩
  have gx22 := rg x22
  have ox22 := IM.c1 hI2 R_r0_1 e23
  try simp only [e4, e7, e23] at p0x21
  try have q0x21 := congrArg Int32.toInt p0x21
  refine b_if_eq C (t := 26) rfl rfl rfl (fun c24 => ?_) (fun c24 => ?_)
  · skip
    refine z_iconst C (z := 0) rfl rfl rfl (fun x25 ex25 => ?_)
    refine z_iconst C (z := 1) rfl rfl rfl (fun x26 ex26 => ?_)
    have q27 : x25.toNatClampNeg = 0 := nck (by omega)
    have q28 : x26.toNatClampNeg = 1 := nck (by omega)
    refine c_VI C (a_X12_throwsIf hI2 H_r0 (by omega) (by omega)) rfl rfl rfl rfl rfl ⟨_, rfl, rfl, T_r0, Nat.le_of_ble_eq_true rfl⟩ rfl rfl (Nat.le_of_ble_eq_true rfl) (Nat.le_of_ble_eq_true rfl) (Nat.le_of_ble_eq_true rfl) ?_
    rintro x29 I30 L31 ⟨o0x29, o1x29, p0x29, hI30, S32⟩
    have e34 := CM.j S32 R_r0_1 (by decide) e7
    have e35 := CM.j S32 R_r0_1 (by decide) e23
    have gx29 := rg x29
    try simp only [q27, q28, e4, e7, e23] at p0x29
    try have q0x29 := congrArg Int32.toInt p0x29
    refine b_if_eq C (t := 36) rfl rfl rfl (fun c36 => ?_) (fun c36 => by exfalso; omega)
    refine k_aload_n C rfl rfl rfl ?_
    refine z_bipush C (z := 44) rfl rfl rfl (fun x37 ex37 => ?_)
    refine k_iload_n C rfl rfl rfl ?_
    obtain ⟨x38, e39⟩ : ∃ x, I30 r0_1 (6 + 10 * n2.toNatClampNeg) = x := ⟨_, rfl⟩
    have gx38 := rg x38
    obtain ⟨x40, e41⟩ : ∃ x, I30 r0_1 0 = x := ⟨_, rfl⟩
    have gx40 := rg x40
    have ox40 := IM.pi hI30 R_r0_1 e41
    have q42 : x37.toNatClampNeg = 44 := nck (by omega)
    refine c_VV C (a_X12_takes hI30 H_r0 (by omega) (by omega) (by omega) (by omega)) rfl rfl rfl rfl rfl ⟨_, rfl, rfl, T_r0, Nat.le_of_ble_eq_true rfl⟩ rfl rfl (Nat.le_of_ble_eq_true rfl) (Nat.le_of_ble_eq_true rfl) (Nat.le_of_ble_eq_true rfl) ?_
    rintro I44 L45 ⟨p0v43, p1v43, p2v43, p3v43, p4v43, hI44, S46⟩
    have p0v43 := p0v43 r0_4 R_r0_4
    have p1v43 := p1v43 r0_1 r0_4 R_r0_1 R_r0_4
    have p2v43 := p2v43 r0_1 r0_4 r0_5 R_r0_1 R_r0_4 R_r0_5
    have p3v43 := p3v43 r0_4 R_r0_4
    have p4v43 := p4v43 r0_5 R_r0_5
    try simp only [q42] at p3v43
    try simp only [q42] at p4v43
    have e47 := CM.j S46 R_r0_1 (by decide) e34
    have e48 := CM.j S46 R_r0_1 (by decide) e35
    have e49 := CM.j S46 R_r0_1 (by decide) e39
    have e50 := CM.j S46 R_r0_1 (by decide) e41
    obtain ⟨x51, e52⟩ : ∃ x, I44 r0_4 44 = x := ⟨_, rfl⟩
    have gx51 := rg x51
    have ox51 := IM.dgR hI44 R_r0_4 e52
    try simp only [q42, e34, e35, e39, e41, e52] at p0v43
    try have q0v43 := congrArg Int32.toInt p0v43
    try simp only [q42, e34, e35, e39, e41, e52] at p1v43
    try have q1v43 := congrArg Int32.toInt p1v43
    try simp only [q42, e34, e35, e39, e41, e52] at p2v43
    try have q2v43 := congrArg Int32.toInt p2v43
    refine k_aload_n C rfl rfl rfl ?_
    refine k_iload_n C rfl rfl rfl ?_
    refine c_VI C (a_X12_makes hI44 H_r0 (by omega) (by omega) (fun a1 h1 => by cases (R_r0_1.symm.trans h1); first | omega | (simp only [e47, e48, e49, e50, e52] <;> omega))) rfl rfl rfl rfl rfl ⟨_, rfl, rfl, T_r0, Nat.le_of_ble_eq_true rfl⟩ rfl rfl (Nat.le_of_ble_eq_true rfl) (Nat.le_of_ble_eq_true rfl) (Nat.le_of_ble_eq_true rfl) ?_
    rintro x53 I54 L55 ⟨o0x53, o1x53, hI54, S56⟩
    have e57 := CM.j S56 R_r0_1 (by decide) e47
    have e58 := CM.j S56 R_r0_1 (by decide) e48
    have e59 := CM.j S56 R_r0_1 (by decide) e49
    have e60 := CM.j S56 R_r0_1 (by decide) e50
    have gx53 := rg x53
    refine b_if_ne C (t := 54) rfl rfl rfl (fun c62 => ?_) (fun c62 => ?_)
    · skip
      refine k_iload_n C rfl rfl rfl ?_
      refine z_iconst C (z := -1) rfl rfl rfl (fun x63 ex63 => ?_)
      refine b_icmp_ne C (t := 68) rfl rfl rfl (fun c64 => ?_) (fun c64 => ?_)
      · skip
        refine k_iload_n C rfl rfl rfl ?_
        refine z_iconst C (z := 0) rfl rfl rfl (fun x65 ex65 => ?_)
        refine k_aload_n C rfl rfl rfl ?_
        refine g_R C rfl rfl rfl T_r0 rfl R_r0_4 ?_
        refine z_iconst C (z := 0) rfl rfl rfl (fun x66 ex66 => ?_)
        obtain ⟨T_r0_4, N_r0_4, A_r0_4⟩ := id H_r0_4
        refine z_aI C rfl rfl T_r0_4 N_r0_4 (by omega) (by omega) (fun x67 ex67 => ?_)
        have gx67 := rg x67
        have nx67 : I54 r0_4 0 = x67 := (congrArg (I54 r0_4) (nck (n := 0) (by omega))).symm.trans ex67
        have ox67 := IM.dgR hI54 R_r0_4 nx67
        have q68 : x65.toNatClampNeg = 0 := nck (by omega)
        refine c_SI C a_X12_in rfl rfl rfl rfl rfl rfl rfl (Nat.le_of_ble_eq_true rfl) (Nat.le_of_ble_eq_true rfl) (Nat.le_of_ble_eq_true rfl) ?_
        rintro x69 _ _ ⟨o0x69, o1x69, p0x69, rfl, rfl⟩
        have gx69 := rg x69
        try simp only [q68, e57, e58, e59, e60, nx67] at p0x69
        try have q0x69 := congrArg Int32.toInt p0x69
        refine b_if_eq C (t := 91) rfl rfl rfl (fun c70 => ?_) (fun c70 => ?_)
        · skip
          refine z_iconst C (z := -1) rfl rfl rfl (fun x71 ex71 => ?_)
          exact k_iret C rfl (Or.inl rfl) (Nat.le_of_ble_eq_true rfl) (Nat.le_of_ble_eq_true rfl) ⟨_, _, _, rfl, rfl, by omega, by omega, hI54, (CM.cons S3 (CM.cons S32 (CM.cons S46 (CM.mono S56 (by decide) (by decide)) (by decide) (by decide)) (by decide) (by decide)) (by decide) (by decide))⟩
        refine k_aload_n C rfl rfl rfl ?_
        refine z_iconst C (z := 0) rfl rfl rfl (fun x72 ex72 => ?_)
        refine k_iload_n C rfl rfl rfl ?_
        have q73 : x72.toNatClampNeg = 0 := nck (by omega)
        refine c_VI C (a_X12_of hI54 H_r0 (by omega) (by omega) (by omega) (by omega)) rfl rfl rfl rfl rfl ⟨_, rfl, rfl, T_r0, Nat.le_of_ble_eq_true rfl⟩ rfl rfl (Nat.le_of_ble_eq_true rfl) (Nat.le_of_ble_eq_true rfl) (Nat.le_of_ble_eq_true rfl) ?_
        rintro x74 _ _ ⟨o0x74, o1x74, p0x74, rfl, rfl⟩
        have p0x74 := p0x74 r0_5 R_r0_5
        have gx74 := rg x74
        try simp only [q73, e57, e58, e59, e60, nx67] at p0x74
        try have q0x74 := congrArg Int32.toInt p0x74
        refine k_goto C (pc2 := 92) rfl rfl ?_
        exact k_iret C rfl (Or.inl rfl) (Nat.le_of_ble_eq_true rfl) (Nat.le_of_ble_eq_true rfl) ⟨_, _, _, rfl, rfl, by omega, by omega, hI54, (CM.cons S3 (CM.cons S32 (CM.cons S46 (CM.mono S56 (by decide) (by decide)) (by decide) (by decide)) (by decide) (by decide)) (by decide) (by decide))⟩
      refine k_aload_n C rfl rfl rfl ?_
      refine g_R C rfl rfl rfl T_r0 rfl R_r0_4 ?_
      refine z_iconst C (z := 0) rfl rfl rfl (fun x75 ex75 => ?_)
      obtain ⟨T_r0_4, N_r0_4, A_r0_4⟩ := id H_r0_4
      refine z_aI C rfl rfl T_r0_4 N_r0_4 (by omega) (by omega) (fun x76 ex76 => ?_)
      have gx76 := rg x76
      have nx76 : I54 r0_4 0 = x76 := (congrArg (I54 r0_4) (nck (n := 0) (by omega))).symm.trans ex76
      have ox76 := IM.dgR hI54 R_r0_4 nx76
      refine k_goto C (pc2 := 92) rfl rfl ?_
      exact k_iret C rfl (Or.inl rfl) (Nat.le_of_ble_eq_true rfl) (Nat.le_of_ble_eq_true rfl) ⟨_, _, _, rfl, rfl, by omega, by omega, hI54, (CM.cons S3 (CM.cons S32 (CM.cons S46 (CM.mono S56 (by decide) (by decide)) (by decide) (by decide)) (by decide) (by decide)) (by decide) (by decide))⟩
    refine z_bipush C (z := -2) rfl rfl rfl (fun x77 ex77 => ?_)
    exact k_iret C rfl (Or.inl rfl) (Nat.le_of_ble_eq_true rfl) (Nat.le_of_ble_eq_true rfl) ⟨_, _, _, rfl, rfl, by omega, by omega, hI54, (CM.cons S3 (CM.cons S32 (CM.cons S46 (CM.mono S56 (by decide) (by decide)) (by decide) (by decide)) (by decide) (by decide)) (by decide) (by decide))⟩
  refine z_iconst C (z := 1) rfl rfl rfl (fun x78 ex78 => ?_)
  refine k_goto C (pc2 := 27) rfl rfl ?_
  refine z_iconst C (z := 1) rfl rfl rfl (fun x79 ex79 => ?_)
  have q80 : x78.toNatClampNeg = 1 := nck (by omega)
  have q81 : x79.toNatClampNeg = 1 := nck (by omega)
  refine c_VI C (a_X12_throwsIf hI2 H_r0 (by omega) (by omega)) rfl rfl rfl rfl rfl ⟨_, rfl, rfl, T_r0, Nat.le_of_ble_eq_true rfl⟩ rfl rfl (Nat.le_of_ble_eq_true rfl) (Nat.le_of_ble_eq_true rfl) (Nat.le_of_ble_eq_true rfl) ?_
  rintro x82 I83 L84 ⟨o0x82, o1x82, p0x82, hI83, S85⟩
  have e87 := CM.j S85 R_r0_1 (by decide) e7
  have e88 := CM.j S85 R_r0_1 (by decide) e23
  have gx82 := rg x82
  try simp only [q80, q81, e4, e7, e23] at p0x82
  try have q0x82 := congrArg Int32.toInt p0x82
  refine b_if_eq C (t := 36) rfl rfl rfl (fun c89 => by exfalso; omega) (fun c89 => ?_)
  refine z_iconst C (z := 0) rfl rfl rfl (fun x90 ex90 => ?_)
  exact k_iret C rfl (Or.inl rfl) (Nat.le_of_ble_eq_true rfl) (Nat.le_of_ble_eq_true rfl) ⟨_, _, _, rfl, rfl, by omega, by omega, hI83, (CM.cons S3 (CM.mono S85 (by decide) (by decide)) (by decide) (by decide))⟩

theorem a_X12_rank {d : Nat} {T N : Nat → Nat} {I : IT} {L : LT} {R : RT} {A : Nat → Prop} {r0 : Nat} {n1 n2 : Int32} (hI : IM R r0 I) (H_r0 : (h_MD T N R A) r0) (b0_n2 : 0 ≤ n2.toInt) (b1_n2 : n2.toInt ≤ 1) : Ex (d + 3) 255 [.ref r0, .int n1, .int n2] (T, N, I, L, R) 0 0 (pI T N R (fun x9 I9 L9 => (IM R r0 I9 ∧ CM A R r0 [0] [20] I L I9 L9))) := by
  refine ⟨_, rfl, Nat.le_of_ble_eq_true rfl, fun V C S => ?_⟩
  show V 0 [(0, .ref r0), (1, .int n1), (2, .int n2)] [] (T, N, I, L, R) 0 0
  have gn1 := rg n1
  have gn2 := rg n2
  obtain ⟨T_r0, A_r0, ⟨r0_1, R_r0_1, H_r0_1⟩, ⟨r0_2, R_r0_2, H_r0_2⟩, ⟨r0_4, R_r0_4, H_r0_4⟩, ⟨r0_5, R_r0_5, H_r0_5⟩, ⟨r0_10, R_r0_10, H_r0_10⟩, ⟨r0_18, R_r0_18, H_r0_18⟩, ⟨r0_20, R_r0_20, H_r0_20⟩, ⟨r0_21, R_r0_21, H_r0_21⟩, ⟨r0_22, R_r0_22, H_r0_22⟩, ⟨r0_23, R_r0_23, H_r0_23⟩, ⟨r0_25, R_r0_25, H_r0_25⟩, ⟨r0_26, R_r0_26, H_r0_26⟩, ⟨r0_27, R_r0_27, H_r0_27⟩, ⟨r0_28, R_r0_28, H_r0_28⟩, ⟨r0_34, R_r0_34, H_r0_34⟩, J_r0, Y_r0⟩ := id H_r0
  have G_r0 : mF T R r0 := ⟨J_r0, Y_r0, T_r0⟩
  refine k_aload_n C rfl rfl rfl ?_
  refine z_iconst C (z := 0) rfl rfl rfl (fun x1 ex1 => ?_)
  refine z_pI C rfl rfl rfl T_r0 (Or.inr rfl) rfl (fun I2 uI2 => ?_)
  have hI2 : IM R r0 I2 := IM.fld hI G_r0 ⟨(fun h => absurd h (by decide)), (fun h => absurd h (by decide)), (fun h => absurd h (by decide)), (fun h => absurd h (by decide)), (fun h => absurd h (by decide))⟩ uI2
  have S3 : CM A R r0 [0] [] I L I2 L := CM.f G_r0 A_r0 uI2
  have e4 := u2_e uI2
  refine k_aload_n C rfl rfl rfl ?_
  refine k_aload_n C rfl rfl rfl ?_
  refine k_iload_n C rfl rfl rfl ?_
  refine c_VI C (a_X12_noSigns hI2 H_r0) rfl rfl rfl rfl rfl ⟨_, rfl, rfl, T_r0, Nat.le_of_ble_eq_true rfl⟩ rfl rfl (Nat.le_of_ble_eq_true rfl) (Nat.le_of_ble_eq_true rfl) (Nat.le_of_ble_eq_true rfl) ?_
  rintro x5 _ _ ⟨o0x5, o1x5, p0x5, rfl, rfl⟩
  have p0x5 := p0x5 r0_1 R_r0_1
  have gx5 := rg x5
  obtain ⟨x6, e7⟩ : ∃ x, I2 r0_1 3 = x := ⟨_, rfl⟩
  have gx6 := rg x6
  have ox6 := IM.c3 hI2 R_r0_1 e7
  try simp only [e4, e7] at p0x5
  try have q0x5 := congrArg Int32.toInt p0x5
  refine z_iconst C (z := 1) rfl rfl rfl (fun x8 ex8 => ?_)
  have q9 : x8.toNatClampNeg = 1 := nck (by omega)
  refine c_VI C (a_X12_throwsIf hI2 H_r0 (by omega) (by omega)) rfl rfl rfl rfl rfl ⟨_, rfl, rfl, T_r0, Nat.le_of_ble_eq_true rfl⟩ rfl rfl (Nat.le_of_ble_eq_true rfl) (Nat.le_of_ble_eq_true rfl) (Nat.le_of_ble_eq_true rfl) ?_
  rintro x10 I11 L12 ⟨o0x10, o1x10, p0x10, hI11, S13⟩
  have e15 := CM.j S13 R_r0_1 (by decide) e7
  have gx10 := rg x10
  try simp only [q9, e4, e7] at p0x10
  try have q0x10 := congrArg Int32.toInt p0x10
  refine b_if_eq C (t := 22) rfl rfl rfl (fun c16 => ?_) (fun c16 => ?_)
  · skip
    refine k_aload_n C rfl rfl rfl ?_
    refine k_iload_n C rfl rfl rfl ?_
    refine k_iload_n C rfl rfl rfl ?_
    refine c_VI C (a_X12_rankOf hI11 H_r0 (by omega) (by omega) (by omega) (by omega) (fun a1 h1 => by cases (R_r0_1.symm.trans h1); first | omega | (simp only [e15] <;> omega))) rfl rfl rfl rfl rfl ⟨_, rfl, rfl, T_r0, Nat.le_of_ble_eq_true rfl⟩ rfl rfl (Nat.le_of_ble_eq_true rfl) (Nat.le_of_ble_eq_true rfl) (Nat.le_of_ble_eq_true rfl) ?_
    rintro x17 I18 L19 ⟨hI18, S20⟩
    have e21 := CM.j S20 R_r0_1 (by decide) e15
    have gx17 := rg x17
    exact k_iret C rfl (Or.inl rfl) (Nat.le_of_ble_eq_true rfl) (Nat.le_of_ble_eq_true rfl) ⟨_, _, _, rfl, rfl, hI18, (CM.cons S3 (CM.cons S13 (CM.mono S20 (by decide) (by decide)) (by decide) (by decide)) (by decide) (by decide))⟩
  refine z_iconst C (z := 0) rfl rfl rfl (fun x22 ex22 => ?_)
  refine k_goto C (pc2 := 28) rfl rfl ?_
  exact k_iret C rfl (Or.inl rfl) (Nat.le_of_ble_eq_true rfl) (Nat.le_of_ble_eq_true rfl) ⟨_, _, _, rfl, rfl, hI11, (CM.cons S3 (CM.mono S13 (by decide) (by decide)) (by decide) (by decide))⟩

theorem a_X12_stays {d : Nat} {T N : Nat → Nat} {I : IT} {L : LT} {R : RT} {A : Nat → Prop} {r0 : Nat} {n1 n2 n3 : Int32} (hI : IM R r0 I) (H_r0 : (h_MD T N R A) r0) : Ex (d + 9) 256 [.ref r0, .int n1, .int n2, .int n3] (T, N, I, L, R) 0 0 (pI T N R (fun x9 I9 L9 => (0 ≤ x9.toInt) ∧ (x9.toInt ≤ 1) ∧ (IM R r0 I9 ∧ CM A R r0 [0, 6, 7, 8, 9] [4, 5, 20] I L I9 L9))) := by
  refine ⟨_, rfl, Nat.le_of_ble_eq_true rfl, fun V C S => ?_⟩
  show V 0 [(0, .ref r0), (1, .int n1), (2, .int n2), (3, .int n3)] [] (T, N, I, L, R) 0 0
  have gn1 := rg n1
  have gn2 := rg n2
  have gn3 := rg n3
  obtain ⟨T_r0, A_r0, ⟨r0_1, R_r0_1, H_r0_1⟩, ⟨r0_2, R_r0_2, H_r0_2⟩, ⟨r0_4, R_r0_4, H_r0_4⟩, ⟨r0_5, R_r0_5, H_r0_5⟩, ⟨r0_10, R_r0_10, H_r0_10⟩, ⟨r0_18, R_r0_18, H_r0_18⟩, ⟨r0_20, R_r0_20, H_r0_20⟩, ⟨r0_21, R_r0_21, H_r0_21⟩, ⟨r0_22, R_r0_22, H_r0_22⟩, ⟨r0_23, R_r0_23, H_r0_23⟩, ⟨r0_25, R_r0_25, H_r0_25⟩, ⟨r0_26, R_r0_26, H_r0_26⟩, ⟨r0_27, R_r0_27, H_r0_27⟩, ⟨r0_28, R_r0_28, H_r0_28⟩, ⟨r0_34, R_r0_34, H_r0_34⟩, J_r0, Y_r0⟩ := id H_r0
  have G_r0 : mF T R r0 := ⟨J_r0, Y_r0, T_r0⟩
  refine k_aload_n C rfl rfl rfl ?_
  refine z_iconst C (z := 0) rfl rfl rfl (fun x1 ex1 => ?_)
  refine z_pI C rfl rfl rfl T_r0 (Or.inr rfl) rfl (fun I2 uI2 => ?_)
  have hI2 : IM R r0 I2 := IM.fld hI G_r0 ⟨(fun h => absurd h (by decide)), (fun h => absurd h (by decide)), (fun h => absurd h (by decide)), (fun h => absurd h (by decide)), (fun h => absurd h (by decide))⟩ uI2
  have S3 : CM A R r0 [0] [] I L I2 L := CM.f G_r0 A_r0 uI2
  have e4 := u2_e uI2
  refine k_aload_n C rfl rfl rfl ?_
  refine k_aload_n C rfl rfl rfl ?_
  refine k_iload_n C rfl rfl rfl ?_
  refine c_VI C (a_X12_noSigns hI2 H_r0) rfl rfl rfl rfl rfl ⟨_, rfl, rfl, T_r0, Nat.le_of_ble_eq_true rfl⟩ rfl rfl (Nat.le_of_ble_eq_true rfl) (Nat.le_of_ble_eq_true rfl) (Nat.le_of_ble_eq_true rfl) ?_
  rintro x5 _ _ ⟨o0x5, o1x5, p0x5, rfl, rfl⟩
  have p0x5 := p0x5 r0_1 R_r0_1
  have gx5 := rg x5
  obtain ⟨x6, e7⟩ : ∃ x, I2 r0_1 3 = x := ⟨_, rfl⟩
  have gx6 := rg x6
  have ox6 := IM.c3 hI2 R_r0_1 e7
  try simp only [e4, e7] at p0x5
  try have q0x5 := congrArg Int32.toInt p0x5
  refine b_if_ne C (t := 30) rfl rfl rfl (fun c8 => ?_) (fun c8 => ?_)
  · skip
    refine z_iconst C (z := 1) rfl rfl rfl (fun x9 ex9 => ?_)
    refine k_goto C (pc2 := 35) rfl rfl ?_
    refine z_iconst C (z := 1) rfl rfl rfl (fun x10 ex10 => ?_)
    have q11 : x9.toNatClampNeg = 1 := nck (by omega)
    have q12 : x10.toNatClampNeg = 1 := nck (by omega)
    refine c_VI C (a_X12_throwsIf hI2 H_r0 (by omega) (by omega)) rfl rfl rfl rfl rfl ⟨_, rfl, rfl, T_r0, Nat.le_of_ble_eq_true rfl⟩ rfl rfl (Nat.le_of_ble_eq_true rfl) (Nat.le_of_ble_eq_true rfl) (Nat.le_of_ble_eq_true rfl) ?_
    rintro x13 I14 L15 ⟨o0x13, o1x13, p0x13, hI14, S16⟩
    have e18 := CM.j S16 R_r0_1 (by decide) e7
    have gx13 := rg x13
    try simp only [q11, q12, e4, e7] at p0x13
    try have q0x13 := congrArg Int32.toInt p0x13
    refine b_if_eq C (t := 44) rfl rfl rfl (fun c19 => by exfalso; omega) (fun c19 => ?_)
    refine z_iconst C (z := 0) rfl rfl rfl (fun x20 ex20 => ?_)
    exact k_iret C rfl (Or.inr ⟨rfl, z01 (by omega) (by omega)⟩) (Nat.le_of_ble_eq_true rfl) (Nat.le_of_ble_eq_true rfl) ⟨_, _, _, rfl, rfl, by omega, by omega, hI14, (CM.cons S3 (CM.mono S16 (by decide) (by decide)) (by decide) (by decide))⟩
  refine k_aload_n C rfl rfl rfl ?_
  refine k_iload_n C rfl rfl rfl ?_
  refine c_VI C (a_X12_noForm hI2 H_r0) rfl rfl rfl rfl rfl ⟨_, rfl, rfl, T_r0, Nat.le_of_ble_eq_true rfl⟩ rfl rfl (Nat.le_of_ble_eq_true rfl) (Nat.le_of_ble_eq_true rfl) (Nat.le_of_ble_eq_true rfl) ?_
  rintro x21 _ _ ⟨o0x21, o1x21, p0x21, rfl, rfl⟩
  have p0x21 := p0x21 r0_1 R_r0_1
  have gx21 := rg x21
  obtain ⟨x22, e23⟩ : ∃ x, I2 r0_1 1 = x := ⟨_, rfl⟩
  have gx22 := rg x22
  have ox22 := IM.c1 hI2 R_r0_1 e23
  try simp only [e4, e7, e23] at p0x21
  try have q0x21 := congrArg Int32.toInt p0x21
  refine b_if_ne C (t := 30) rfl rfl rfl (fun c24 => ?_) (fun c24 => ?_)
  · skip
    refine z_iconst C (z := 1) rfl rfl rfl (fun x25 ex25 => ?_)
    refine k_goto C (pc2 := 35) rfl rfl ?_
    refine z_iconst C (z := 1) rfl rfl rfl (fun x26 ex26 => ?_)
    have q27 : x25.toNatClampNeg = 1 := nck (by omega)
    have q28 : x26.toNatClampNeg = 1 := nck (by omega)
    refine c_VI C (a_X12_throwsIf hI2 H_r0 (by omega) (by omega)) rfl rfl rfl rfl rfl ⟨_, rfl, rfl, T_r0, Nat.le_of_ble_eq_true rfl⟩ rfl rfl (Nat.le_of_ble_eq_true rfl) (Nat.le_of_ble_eq_true rfl) (Nat.le_of_ble_eq_true rfl) ?_
    rintro x29 I30 L31 ⟨o0x29, o1x29, p0x29, hI30, S32⟩
    have e34 := CM.j S32 R_r0_1 (by decide) e7
    have e35 := CM.j S32 R_r0_1 (by decide) e23
    have gx29 := rg x29
    try simp only [q27, q28, e4, e7, e23] at p0x29
    try have q0x29 := congrArg Int32.toInt p0x29
    refine b_if_eq C (t := 44) rfl rfl rfl (fun c36 => by exfalso; omega) (fun c36 => ?_)
    refine z_iconst C (z := 0) rfl rfl rfl (fun x37 ex37 => ?_)
    exact k_iret C rfl (Or.inr ⟨rfl, z01 (by omega) (by omega)⟩) (Nat.le_of_ble_eq_true rfl) (Nat.le_of_ble_eq_true rfl) ⟨_, _, _, rfl, rfl, by omega, by omega, hI30, (CM.cons S3 (CM.mono S32 (by decide) (by decide)) (by decide) (by decide))⟩
  refine k_aload_n C rfl rfl rfl ?_
  refine k_iload_n C rfl rfl rfl ?_
  refine c_VI C (a_X12_noTable hI2 H_r0) rfl rfl rfl rfl rfl ⟨_, rfl, rfl, T_r0, Nat.le_of_ble_eq_true rfl⟩ rfl rfl (Nat.le_of_ble_eq_true rfl) (Nat.le_of_ble_eq_true rfl) (Nat.le_of_ble_eq_true rfl) ?_
  rintro x38 _ _ ⟨o0x38, o1x38, p0x38, rfl, rfl⟩
  have p0x38 := p0x38 r0_1 R_r0_1
  have gx38 := rg x38
  obtain ⟨x39, e40⟩ : ∃ x, I2 r0_1 2 = x := ⟨_, rfl⟩
  have gx39 := rg x39
  have ox39 := IM.c2 hI2 R_r0_1 e40
  try simp only [e4, e7, e23, e40] at p0x38
  try have q0x38 := congrArg Int32.toInt p0x38
  refine b_if_eq C (t := 34) rfl rfl rfl (fun c41 => ?_) (fun c41 => ?_)
  · skip
    refine z_iconst C (z := 0) rfl rfl rfl (fun x42 ex42 => ?_)
    refine z_iconst C (z := 1) rfl rfl rfl (fun x43 ex43 => ?_)
    have q44 : x42.toNatClampNeg = 0 := nck (by omega)
    have q45 : x43.toNatClampNeg = 1 := nck (by omega)
    refine c_VI C (a_X12_throwsIf hI2 H_r0 (by omega) (by omega)) rfl rfl rfl rfl rfl ⟨_, rfl, rfl, T_r0, Nat.le_of_ble_eq_true rfl⟩ rfl rfl (Nat.le_of_ble_eq_true rfl) (Nat.le_of_ble_eq_true rfl) (Nat.le_of_ble_eq_true rfl) ?_
    rintro x46 I47 L48 ⟨o0x46, o1x46, p0x46, hI47, S49⟩
    have e51 := CM.j S49 R_r0_1 (by decide) e7
    have e52 := CM.j S49 R_r0_1 (by decide) e23
    have e53 := CM.j S49 R_r0_1 (by decide) e40
    have gx46 := rg x46
    try simp only [q44, q45, e4, e7, e23, e40] at p0x46
    try have q0x46 := congrArg Int32.toInt p0x46
    refine b_if_eq C (t := 44) rfl rfl rfl (fun c54 => ?_) (fun c54 => by exfalso; omega)
    refine k_aload_n C rfl rfl rfl ?_
    refine k_iload_n C rfl rfl rfl ?_
    refine z_iconst C (z := 1) rfl rfl rfl (fun x55 ex55 => ?_)
    have q56 : x55.toNatClampNeg = 1 := nck (by omega)
    refine c_VI C (a_X12_rankOf hI47 H_r0 (by omega) (by omega) (by omega) (by omega) (fun a1 h1 => by cases (R_r0_1.symm.trans h1); first | omega | (simp only [q56, e51, e52, e53] <;> omega))) rfl rfl rfl rfl rfl ⟨_, rfl, rfl, T_r0, Nat.le_of_ble_eq_true rfl⟩ rfl rfl (Nat.le_of_ble_eq_true rfl) (Nat.le_of_ble_eq_true rfl) (Nat.le_of_ble_eq_true rfl) ?_
    rintro x57 I58 L59 ⟨hI58, S60⟩
    have e61 := CM.j S60 R_r0_1 (by decide) e51
    have e62 := CM.j S60 R_r0_1 (by decide) e52
    have e63 := CM.j S60 R_r0_1 (by decide) e53
    have gx57 := rg x57
    refine k_istore C (lw := [(4, .int x57), (0, .ref r0), (1, .int n1), (2, .int n2), (3, .int n3)]) rfl rfl (Nat.le_of_ble_eq_true rfl) rfl ?_
    refine k_aload_n C rfl rfl rfl ?_
    refine z_bipush C (z := 44) rfl rfl rfl (fun x64 ex64 => ?_)
    refine k_iload_n C rfl rfl rfl ?_
    obtain ⟨x65, e66⟩ : ∃ x, I58 r0_1 (6 + 10 * n2.toNatClampNeg) = x := ⟨_, rfl⟩
    have gx65 := rg x65
    obtain ⟨x67, e68⟩ : ∃ x, I58 r0_1 0 = x := ⟨_, rfl⟩
    have gx67 := rg x67
    have ox67 := IM.pi hI58 R_r0_1 e68
    have q69 : x64.toNatClampNeg = 44 := nck (by omega)
    refine c_VV C (a_X12_takes hI58 H_r0 (by omega) (by omega) (by omega) (by omega)) rfl rfl rfl rfl rfl ⟨_, rfl, rfl, T_r0, Nat.le_of_ble_eq_true rfl⟩ rfl rfl (Nat.le_of_ble_eq_true rfl) (Nat.le_of_ble_eq_true rfl) (Nat.le_of_ble_eq_true rfl) ?_
    rintro I71 L72 ⟨p0v70, p1v70, p2v70, p3v70, p4v70, hI71, S73⟩
    have p0v70 := p0v70 r0_4 R_r0_4
    have p1v70 := p1v70 r0_1 r0_4 R_r0_1 R_r0_4
    have p2v70 := p2v70 r0_1 r0_4 r0_5 R_r0_1 R_r0_4 R_r0_5
    have p3v70 := p3v70 r0_4 R_r0_4
    have p4v70 := p4v70 r0_5 R_r0_5
    try simp only [q69] at p3v70
    try simp only [q69] at p4v70
    have e74 := CM.j S73 R_r0_1 (by decide) e61
    have e75 := CM.j S73 R_r0_1 (by decide) e62
    have e76 := CM.j S73 R_r0_1 (by decide) e63
    have e77 := CM.j S73 R_r0_1 (by decide) e66
    have e78 := CM.j S73 R_r0_1 (by decide) e68
    obtain ⟨x79, e80⟩ : ∃ x, I71 r0_4 44 = x := ⟨_, rfl⟩
    have gx79 := rg x79
    have ox79 := IM.dgR hI71 R_r0_4 e80
    try simp only [q69, e61, e62, e63, e66, e68, e80] at p0v70
    try have q0v70 := congrArg Int32.toInt p0v70
    try simp only [q69, e61, e62, e63, e66, e68, e80] at p1v70
    try have q1v70 := congrArg Int32.toInt p1v70
    try simp only [q69, e61, e62, e63, e66, e68, e80] at p2v70
    try have q2v70 := congrArg Int32.toInt p2v70
    refine k_iload C rfl rfl rfl ?_
    refine b_if_lt C (t := 72) rfl rfl rfl (fun c81 => ?_) (fun c81 => ?_)
    · skip
      refine z_iconst C (z := 0) rfl rfl rfl (fun x82 ex82 => ?_)
      exact k_iret C rfl (Or.inr ⟨rfl, z01 (by omega) (by omega)⟩) (Nat.le_of_ble_eq_true rfl) (Nat.le_of_ble_eq_true rfl) ⟨_, _, _, rfl, rfl, by omega, by omega, hI71, (CM.cons S3 (CM.cons S49 (CM.cons S60 (CM.mono S73 (by decide) (by decide)) (by decide) (by decide)) (by decide) (by decide)) (by decide) (by decide))⟩
    refine k_aload_n C rfl rfl rfl ?_
    refine k_iload_n C rfl rfl rfl ?_
    refine c_VI C (a_X12_makes hI71 H_r0 (by omega) (by omega) (fun a1 h1 => by cases (R_r0_1.symm.trans h1); first | omega | (simp only [e74, e75, e76, e77, e78, e80] <;> omega))) rfl rfl rfl rfl rfl ⟨_, rfl, rfl, T_r0, Nat.le_of_ble_eq_true rfl⟩ rfl rfl (Nat.le_of_ble_eq_true rfl) (Nat.le_of_ble_eq_true rfl) (Nat.le_of_ble_eq_true rfl) ?_
    rintro x83 I84 L85 ⟨o0x83, o1x83, hI84, S86⟩
    have e87 := CM.j S86 R_r0_1 (by decide) e74
    have e88 := CM.j S86 R_r0_1 (by decide) e75
    have e89 := CM.j S86 R_r0_1 (by decide) e76
    have e90 := CM.j S86 R_r0_1 (by decide) e77
    have e91 := CM.j S86 R_r0_1 (by decide) e78
    have gx83 := rg x83
    refine b_if_ne C (t := 74) rfl rfl rfl (fun c93 => ?_) (fun c93 => ?_)
    · skip
      refine k_aload_n C rfl rfl rfl ?_
      refine k_iload_n C rfl rfl rfl ?_
      refine c_VV C (a_X12_tables hI84 H_r0 (by omega) (by omega)) rfl rfl rfl rfl rfl ⟨_, rfl, rfl, T_r0, Nat.le_of_ble_eq_true rfl⟩ rfl rfl (Nat.le_of_ble_eq_true rfl) (Nat.le_of_ble_eq_true rfl) (Nat.le_of_ble_eq_true rfl) ?_
      rintro I95 L96 ⟨hI95, S97⟩
      have e98 := CM.j S97 R_r0_1 (by decide) e87
      have e99 := CM.j S97 R_r0_1 (by decide) e88
      have e100 := CM.j S97 R_r0_1 (by decide) e89
      have e101 := CM.j S97 R_r0_1 (by decide) e90
      have e102 := CM.j S97 R_r0_1 (by decide) e91
      refine k_aload_n C rfl rfl rfl ?_
      refine z_iconst C (z := 0) rfl rfl rfl (fun x103 ex103 => ?_)
      refine z_bipush C (z := 42) rfl rfl rfl (fun x104 ex104 => ?_)
      obtain ⟨x105, e106⟩ : ∃ x, I95 r0_4 0 = x := ⟨_, rfl⟩
      have gx105 := rg x105
      have ox105 := IM.dgR hI95 R_r0_4 e106
      have q107 : x103.toNatClampNeg = 0 := nck (by omega)
      have q108 : x104.toNatClampNeg = 42 := nck (by omega)
      refine c_VV C (a_X12_mixes hI95 H_r0 (by omega) (by omega) (by omega) (by omega)) rfl rfl rfl rfl rfl ⟨_, rfl, rfl, T_r0, Nat.le_of_ble_eq_true rfl⟩ rfl rfl (Nat.le_of_ble_eq_true rfl) (Nat.le_of_ble_eq_true rfl) (Nat.le_of_ble_eq_true rfl) ?_
      rintro I110 L111 ⟨p0v109, p1v109, p2v109, p3v109, hI110, S112⟩
      have p0v109 := p0v109 r0_4 R_r0_4
      have p1v109 := p1v109 r0_1 r0_4 r0_5 R_r0_1 R_r0_4 R_r0_5
      have p2v109 := p2v109 r0_4 R_r0_4
      have p3v109 := p3v109 r0_5 R_r0_5
      try simp only [q107, q108] at p2v109
      try simp only [q107, q108] at p3v109
      have e113 := CM.j S112 R_r0_1 (by decide) e98
      have e114 := CM.j S112 R_r0_1 (by decide) e99
      have e115 := CM.j S112 R_r0_1 (by decide) e100
      have e116 := CM.j S112 R_r0_1 (by decide) e101
      have e117 := CM.j S112 R_r0_1 (by decide) e102
      have e118 := (p2v109 0 (by first | decide | exact ncne (by omega) (by omega) (by omega) | exact nckn (by omega) (by omega) | exact (nckn (by omega) (by omega)).symm) (by first | decide | exact ncne (by omega) (by omega) (by omega) | exact nckn (by omega) (by omega) | exact (nckn (by omega) (by omega)).symm)).trans e106
      obtain ⟨x119, e120⟩ : ∃ x, I110 r0_4 42 = x := ⟨_, rfl⟩
      have gx119 := rg x119
      have ox119 := IM.dgR hI110 R_r0_4 e120
      try simp only [q107, q108, e98, e99, e100, e101, e102, e106, e120] at p0v109
      try have q0v109 := congrArg Int32.toInt p0v109
      try simp only [q107, q108, e98, e99, e100, e101, e102, e106, e120] at p1v109
      try have q1v109 := congrArg Int32.toInt p1v109
      refine k_aload_n C rfl rfl rfl ?_
      refine k_aload_n C rfl rfl rfl ?_
      refine c_VI C (a_X12_detNow hI110 H_r0) rfl rfl rfl rfl rfl ⟨_, rfl, rfl, T_r0, Nat.le_of_ble_eq_true rfl⟩ rfl rfl (Nat.le_of_ble_eq_true rfl) (Nat.le_of_ble_eq_true rfl) (Nat.le_of_ble_eq_true rfl) ?_
      rintro x121 _ _ ⟨o0x121, o1x121, rfl, rfl⟩
      have gx121 := rg x121
      refine k_iload C rfl rfl rfl ?_
      refine c_VI C (a_X12_power hI110 H_r0 (by omega) (by omega)) rfl rfl rfl rfl rfl ⟨_, rfl, rfl, T_r0, Nat.le_of_ble_eq_true rfl⟩ rfl rfl (Nat.le_of_ble_eq_true rfl) (Nat.le_of_ble_eq_true rfl) (Nat.le_of_ble_eq_true rfl) ?_
      rintro x122 _ _ ⟨o0x122, o1x122, p0x122, rfl, rfl⟩
      have p0x122 := p0x122 r0_1 R_r0_1
      have gx122 := rg x122
      try simp only [e113, e114, e115, e116, e117, e118, e120] at p0x122
      try have q0x122 := congrArg Int32.toInt p0x122
      refine k_istore C (lw := [(5, .int x122), (4, .int x57), (0, .ref r0), (1, .int n1), (2, .int n2), (3, .int n3)]) rfl rfl (Nat.le_of_ble_eq_true rfl) rfl ?_
      refine z_iconst C (z := 0) rfl rfl rfl (fun x123 ex123 => ?_)
      have J124 : ∀ (nn125 : Nat) (I126 : IT) (L127 : LT) (x128 : Int32), (MN (41 - x128.toInt) nn125) → (IM R r0 I126) → (CM A R r0 [] [5] I110 L111 I126 L127) → (0 ≤ x128.toInt) → (x128.toInt ≤ 41) → V 101 [(0, .ref r0), (1, .int n1), (2, .int n2), (5, .int x122), (6, .int x128)] [] (T, N, I126, L127, R) 0 0 := by
        intro nn125
        induction nn125 using Nat.strongRecOn with
        | _ nn125 ihJ124 =>
          intro I126 L127 x128 hmnn125 hI132 S131 b129 b130
          have gx128 := rg x128
          have e133 := CM.j S131 R_r0_1 (by decide) e113
          have e134 := CM.j S131 R_r0_1 (by decide) e114
          have e135 := CM.j S131 R_r0_1 (by decide) e115
          have e136 := CM.j S131 R_r0_1 (by decide) e116
          have e137 := CM.j S131 R_r0_1 (by decide) e117
          have e138 := CM.j S131 R_r0_4 (by decide) e118
          have e139 := CM.j S131 R_r0_4 (by decide) e120
          refine k_iload C rfl rfl rfl ?_
          refine k_aload_n C rfl rfl rfl ?_
          refine g_R C rfl rfl rfl T_r0 rfl R_r0_4 ?_
          refine z_bipush C (z := 42) rfl rfl rfl (fun x140 ex140 => ?_)
          obtain ⟨T_r0_4, N_r0_4, A_r0_4⟩ := id H_r0_4
          refine a_I C rfl rfl T_r0_4 (by rw [N_r0_4]; exact vpi (by omega) (by omega)) ((congrArg (I126 r0_4) (nck (n := 42) (by omega))).trans e139) ?_
          refine b_icmp_gt C (t := 141) rfl rfl rfl (fun c141 => ?_) (fun c141 => ?_)
          · skip
            refine k_aload_n C rfl rfl rfl ?_
            refine z_bipush C (z := 40) rfl rfl rfl (fun x142 ex142 => ?_)
            refine k_iload_n C rfl rfl rfl ?_
            have q143 : x142.toNatClampNeg = 40 := nck (by omega)
            refine c_VV C (a_X12_takes hI132 H_r0 (by omega) (by omega) (by omega) (by omega)) rfl rfl rfl rfl rfl ⟨_, rfl, rfl, T_r0, Nat.le_of_ble_eq_true rfl⟩ rfl rfl (Nat.le_of_ble_eq_true rfl) (Nat.le_of_ble_eq_true rfl) (Nat.le_of_ble_eq_true rfl) ?_
            rintro I145 L146 ⟨p0v144, p1v144, p2v144, p3v144, p4v144, hI145, S147⟩
            have p0v144 := p0v144 r0_4 R_r0_4
            have p1v144 := p1v144 r0_1 r0_4 R_r0_1 R_r0_4
            have p2v144 := p2v144 r0_1 r0_4 r0_5 R_r0_1 R_r0_4 R_r0_5
            have p3v144 := p3v144 r0_4 R_r0_4
            have p4v144 := p4v144 r0_5 R_r0_5
            try simp only [q143] at p3v144
            try simp only [q143] at p4v144
            have e148 := CM.j S147 R_r0_1 (by decide) e133
            have e149 := CM.j S147 R_r0_1 (by decide) e134
            have e150 := CM.j S147 R_r0_1 (by decide) e135
            have e151 := CM.j S147 R_r0_1 (by decide) e136
            have e152 := CM.j S147 R_r0_1 (by decide) e137
            have e153 := (p3v144 0 (by first | decide | exact ncne (by omega) (by omega) (by omega) | exact nckn (by omega) (by omega) | exact (nckn (by omega) (by omega)).symm)).trans e138
            have e154 := (p3v144 42 (by first | decide | exact ncne (by omega) (by omega) (by omega) | exact nckn (by omega) (by omega) | exact (nckn (by omega) (by omega)).symm)).trans e139
            obtain ⟨x155, e156⟩ : ∃ x, I145 r0_4 40 = x := ⟨_, rfl⟩
            have gx155 := rg x155
            have ox155 := IM.dgR hI145 R_r0_4 e156
            try simp only [q143, e133, e134, e135, e136, e137, e138, e139, e156] at p0v144
            try have q0v144 := congrArg Int32.toInt p0v144
            try simp only [q143, e133, e134, e135, e136, e137, e138, e139, e156] at p1v144
            try have q1v144 := congrArg Int32.toInt p1v144
            try simp only [q143, e133, e134, e135, e136, e137, e138, e139, e156] at p2v144
            try have q2v144 := congrArg Int32.toInt p2v144
            refine k_aload_n C rfl rfl rfl ?_
            refine z_bipush C (z := 40) rfl rfl rfl (fun x157 ex157 => ?_)
            refine z_bipush C (z := 44) rfl rfl rfl (fun x158 ex158 => ?_)
            have q159 : x157.toNatClampNeg = 40 := nck (by omega)
            have q160 : x158.toNatClampNeg = 44 := nck (by omega)
            refine c_VV C (a_X12_mixes hI145 H_r0 (by omega) (by omega) (by omega) (by omega)) rfl rfl rfl rfl rfl ⟨_, rfl, rfl, T_r0, Nat.le_of_ble_eq_true rfl⟩ rfl rfl (Nat.le_of_ble_eq_true rfl) (Nat.le_of_ble_eq_true rfl) (Nat.le_of_ble_eq_true rfl) ?_
            rintro I162 L163 ⟨p0v161, p1v161, p2v161, p3v161, hI162, S164⟩
            have p0v161 := p0v161 r0_4 R_r0_4
            have p1v161 := p1v161 r0_1 r0_4 r0_5 R_r0_1 R_r0_4 R_r0_5
            have p2v161 := p2v161 r0_4 R_r0_4
            have p3v161 := p3v161 r0_5 R_r0_5
            try simp only [q159, q160] at p2v161
            try simp only [q159, q160] at p3v161
            have e165 := CM.j S164 R_r0_1 (by decide) e148
            have e166 := CM.j S164 R_r0_1 (by decide) e149
            have e167 := CM.j S164 R_r0_1 (by decide) e150
            have e168 := CM.j S164 R_r0_1 (by decide) e151
            have e169 := CM.j S164 R_r0_1 (by decide) e152
            have e170 := (p2v161 0 (by first | decide | exact ncne (by omega) (by omega) (by omega) | exact nckn (by omega) (by omega) | exact (nckn (by omega) (by omega)).symm) (by first | decide | exact ncne (by omega) (by omega) (by omega) | exact nckn (by omega) (by omega) | exact (nckn (by omega) (by omega)).symm)).trans e153
            have e171 := (p2v161 42 (by first | decide | exact ncne (by omega) (by omega) (by omega) | exact nckn (by omega) (by omega) | exact (nckn (by omega) (by omega)).symm) (by first | decide | exact ncne (by omega) (by omega) (by omega) | exact nckn (by omega) (by omega) | exact (nckn (by omega) (by omega)).symm)).trans e154
            have e172 := (p2v161 40 (by first | decide | exact ncne (by omega) (by omega) (by omega) | exact nckn (by omega) (by omega) | exact (nckn (by omega) (by omega)).symm) (by first | decide | exact ncne (by omega) (by omega) (by omega) | exact nckn (by omega) (by omega) | exact (nckn (by omega) (by omega)).symm)).trans e156
            obtain ⟨x173, e174⟩ : ∃ x, I162 r0_4 44 = x := ⟨_, rfl⟩
            have gx173 := rg x173
            have ox173 := IM.dgR hI162 R_r0_4 e174
            try simp only [q159, q160, e148, e149, e150, e151, e152, e153, e154, e156, e174] at p0v161
            try have q0v161 := congrArg Int32.toInt p0v161
            try simp only [q159, q160, e148, e149, e150, e151, e152, e153, e154, e156, e174] at p1v161
            try have q1v161 := congrArg Int32.toInt p1v161
            refine k_aload_n C rfl rfl rfl ?_
            refine k_iload_n C rfl rfl rfl ?_
            refine c_VI C (a_X12_makes hI162 H_r0 (by omega) (by omega) (fun a1 h1 => by cases (R_r0_1.symm.trans h1); first | omega | (simp only [e165, e166, e167, e168, e169, e170, e171, e172, e174] <;> omega))) rfl rfl rfl rfl rfl ⟨_, rfl, rfl, T_r0, Nat.le_of_ble_eq_true rfl⟩ rfl rfl (Nat.le_of_ble_eq_true rfl) (Nat.le_of_ble_eq_true rfl) (Nat.le_of_ble_eq_true rfl) ?_
            rintro x175 I176 L177 ⟨o0x175, o1x175, hI176, S178⟩
            have e179 := CM.j S178 R_r0_1 (by decide) e165
            have e180 := CM.j S178 R_r0_1 (by decide) e166
            have e181 := CM.j S178 R_r0_1 (by decide) e167
            have e182 := CM.j S178 R_r0_1 (by decide) e168
            have e183 := CM.j S178 R_r0_1 (by decide) e169
            have gx175 := rg x175
            refine b_if_eq C (t := 178) rfl rfl rfl (fun c188 => ?_) (fun c188 => ?_)
            · skip
              refine z_iconst C (z := 0) rfl rfl rfl (fun x189 ex189 => ?_)
              exact k_iret C rfl (Or.inr ⟨rfl, z01 (by omega) (by omega)⟩) (Nat.le_of_ble_eq_true rfl) (Nat.le_of_ble_eq_true rfl) ⟨_, _, _, rfl, rfl, by omega, by omega, hI176, (CM.cons S3 (CM.cons S49 (CM.cons S60 (CM.cons S73 (CM.cons S86 (CM.cons S97 (CM.cons S112 (CM.cons S131 (CM.cons S147 (CM.cons S164 (CM.mono S178 (by decide) (by decide)) (by decide) (by decide)) (by decide) (by decide)) (by decide) (by decide)) (by decide) (by decide)) (by decide) (by decide)) (by decide) (by decide)) (by decide) (by decide)) (by decide) (by decide)) (by decide) (by decide)) (by decide) (by decide))⟩
            refine k_aload_n C rfl rfl rfl ?_
            refine z_iconst C (z := 0) rfl rfl rfl (fun x190 ex190 => ?_)
            refine z_bipush C (z := 42) rfl rfl rfl (fun x191 ex191 => ?_)
            refine c_VI C (a_X12_isLike hI176 H_r0 (by omega) (by omega) (by omega) (by omega)) rfl rfl rfl rfl rfl ⟨_, rfl, rfl, T_r0, Nat.le_of_ble_eq_true rfl⟩ rfl rfl (Nat.le_of_ble_eq_true rfl) (Nat.le_of_ble_eq_true rfl) (Nat.le_of_ble_eq_true rfl) ?_
            rintro x192 _ _ ⟨o0x192, o1x192, rfl, rfl⟩
            have gx192 := rg x192
            refine b_if_eq C (t := 178) rfl rfl rfl (fun c193 => ?_) (fun c193 => ?_)
            · skip
              refine z_iconst C (z := 0) rfl rfl rfl (fun x194 ex194 => ?_)
              exact k_iret C rfl (Or.inr ⟨rfl, z01 (by omega) (by omega)⟩) (Nat.le_of_ble_eq_true rfl) (Nat.le_of_ble_eq_true rfl) ⟨_, _, _, rfl, rfl, by omega, by omega, hI176, (CM.cons S3 (CM.cons S49 (CM.cons S60 (CM.cons S73 (CM.cons S86 (CM.cons S97 (CM.cons S112 (CM.cons S131 (CM.cons S147 (CM.cons S164 (CM.mono S178 (by decide) (by decide)) (by decide) (by decide)) (by decide) (by decide)) (by decide) (by decide)) (by decide) (by decide)) (by decide) (by decide)) (by decide) (by decide)) (by decide) (by decide)) (by decide) (by decide)) (by decide) (by decide)) (by decide) (by decide))⟩
            refine z_iconst C (z := 1) rfl rfl rfl (fun x195 ex195 => ?_)
            refine k_goto C (pc2 := 179) rfl rfl ?_
            exact k_iret C rfl (Or.inr ⟨rfl, z01 (by omega) (by omega)⟩) (Nat.le_of_ble_eq_true rfl) (Nat.le_of_ble_eq_true rfl) ⟨_, _, _, rfl, rfl, by omega, by omega, hI176, (CM.cons S3 (CM.cons S49 (CM.cons S60 (CM.cons S73 (CM.cons S86 (CM.cons S97 (CM.cons S112 (CM.cons S131 (CM.cons S147 (CM.cons S164 (CM.mono S178 (by decide) (by decide)) (by decide) (by decide)) (by decide) (by decide)) (by decide) (by decide)) (by decide) (by decide)) (by decide) (by decide)) (by decide) (by decide)) (by decide) (by decide)) (by decide) (by decide)) (by decide) (by decide)) (by decide) (by decide))⟩
          refine k_aload_n C rfl rfl rfl ?_
          refine z_bipush C (z := 42) rfl rfl rfl (fun x196 ex196 => ?_)
          refine k_iload C rfl rfl rfl ?_
          refine k_aload_n C rfl rfl rfl ?_
          refine k_aload_n C rfl rfl rfl ?_
          refine z_bipush C (z := 42) rfl rfl rfl (fun x197 ex197 => ?_)
          refine k_iload C rfl rfl rfl ?_
          have q198 : x197.toNatClampNeg = 42 := nck (by omega)
          refine c_VI C (a_X12_of hI132 H_r0 (by omega) (by omega) (by omega) (by omega)) rfl rfl rfl rfl rfl ⟨_, rfl, rfl, T_r0, Nat.le_of_ble_eq_true rfl⟩ rfl rfl (Nat.le_of_ble_eq_true rfl) (Nat.le_of_ble_eq_true rfl) (Nat.le_of_ble_eq_true rfl) ?_
          rintro x199 _ _ ⟨o0x199, o1x199, p0x199, rfl, rfl⟩
          have p0x199 := p0x199 r0_5 R_r0_5
          have gx199 := rg x199
          try simp only [q198, e133, e134, e135, e136, e137, e138, e139] at p0x199
          try have q0x199 := congrArg Int32.toInt p0x199
          refine k_iload C rfl rfl rfl ?_
          refine c_VI C (a_X12_times hI132 H_r0 (by omega) (by omega) (by omega) (by omega)) rfl rfl rfl rfl rfl ⟨_, rfl, rfl, T_r0, Nat.le_of_ble_eq_true rfl⟩ rfl rfl (Nat.le_of_ble_eq_true rfl) (Nat.le_of_ble_eq_true rfl) (Nat.le_of_ble_eq_true rfl) ?_
          rintro x200 _ _ ⟨o0x200, o1x200, p0x200, p1x200, p2x200, p3x200, rfl, rfl⟩
          have p0x200 := p0x200 r0_1 R_r0_1
          have p2x200 := p2x200 r0_1 R_r0_1
          have p3x200 := p3x200 r0_1 R_r0_1
          have gx200 := rg x200
          try simp only [e133, e134, e135, e136, e137, e138, e139] at p0x200
          try have q0x200 := congrArg Int32.toInt p0x200
          try simp only [e133, e134, e135, e136, e137, e138, e139] at p1x200
          try have q1x200 := congrArg Int32.toInt p1x200
          try simp only [e133, e134, e135, e136, e137, e138, e139] at p2x200
          try have q2x200 := congrArg Int32.toInt p2x200
          try simp only [e133, e134, e135, e136, e137, e138, e139] at p3x200
          try have q3x200 := congrArg Int32.toInt p3x200
          have q201 : x196.toNatClampNeg = 42 := nck (by omega)
          refine c_VV C (a_X12_put hI132 H_r0 (by omega) (by omega) (by omega) (by omega) (by omega) (by omega)) rfl rfl rfl rfl rfl ⟨_, rfl, rfl, T_r0, Nat.le_of_ble_eq_true rfl⟩ rfl rfl (Nat.le_of_ble_eq_true rfl) (Nat.le_of_ble_eq_true rfl) (Nat.le_of_ble_eq_true rfl) ?_
          rintro I203 L204 ⟨p0v202, p1v202, hI203, S205⟩
          have p0v202 := p0v202 r0_5 R_r0_5
          have p1v202 := p1v202 r0_5 R_r0_5
          try simp only [q201] at p1v202
          have e206 := CM.j S205 R_r0_1 (by decide) e133
          have e207 := CM.j S205 R_r0_1 (by decide) e134
          have e208 := CM.j S205 R_r0_1 (by decide) e135
          have e209 := CM.j S205 R_r0_1 (by decide) e136
          have e210 := CM.j S205 R_r0_1 (by decide) e137
          have e211 := CM.j S205 R_r0_4 (by decide) e138
          have e212 := CM.j S205 R_r0_4 (by decide) e139
          try simp only [q201, e133, e134, e135, e136, e137, e138, e139] at p0v202
          try have q0v202 := congrArg Int32.toInt p0v202
          refine z_iinc C (z := 1) (lw := fun x213 => [(6, .int x213), (0, .ref r0), (1, .int n1), (2, .int n2), (5, .int x122)]) rfl rfl rfl (Nat.le_of_ble_eq_true rfl) rfl ⟨by omega, by omega⟩ (fun _ => rfl) (fun x213 ex213 => ?_)
          show V 138 [(6, .int x213), (0, .ref r0), (1, .int n1), (2, .int n2), (5, .int x122)] _ _ _ _
          refine k_goto C (pc2 := 101) rfl rfl ?_
          refine k_sub S [(0, .ref r0), (1, .int n1), (2, .int n2), (5, .int x122), (6, .int x213)] (List.forall_mem_cons.mpr ⟨List.mem_of_getElem? (i := 1) rfl, List.forall_mem_cons.mpr ⟨List.mem_of_getElem? (i := 2) rfl, List.forall_mem_cons.mpr ⟨List.mem_of_getElem? (i := 3) rfl, List.forall_mem_cons.mpr ⟨List.mem_of_getElem? (i := 4) rfl, List.forall_mem_cons.mpr ⟨List.mem_of_getElem? (i := 0) rfl, fun _ h => nomatch h⟩⟩⟩⟩⟩) ?_
          exact ihJ124 _ (MN.lt hmnn125 (by omega) (by omega)) I203 L204 x213 rfl hI203 (CM.cons S131 (CM.mono S205 (by decide) (by decide)) (by decide) (by decide)) (by omega) (by omega)
      refine k_istore C (lw := [(6, .int x123), (5, .int x122), (4, .int x57), (0, .ref r0), (1, .int n1), (2, .int n2), (3, .int n3)]) rfl rfl (Nat.le_of_ble_eq_true rfl) rfl ?_
      refine k_sub S [(0, .ref r0), (1, .int n1), (2, .int n2), (5, .int x122), (6, .int x123)] (List.forall_mem_cons.mpr ⟨List.mem_of_getElem? (i := 3) rfl, List.forall_mem_cons.mpr ⟨List.mem_of_getElem? (i := 4) rfl, List.forall_mem_cons.mpr ⟨List.mem_of_getElem? (i := 5) rfl, List.forall_mem_cons.mpr ⟨List.mem_of_getElem? (i := 1) rfl, List.forall_mem_cons.mpr ⟨List.mem_of_getElem? (i := 0) rfl, fun _ h => nomatch h⟩⟩⟩⟩⟩) ?_
      exact J124 _ I110 L111 x123 rfl hI110 CM.rf (by omega) (by omega)
    refine z_iconst C (z := 0) rfl rfl rfl (fun x214 ex214 => ?_)
    exact k_iret C rfl (Or.inr ⟨rfl, z01 (by omega) (by omega)⟩) (Nat.le_of_ble_eq_true rfl) (Nat.le_of_ble_eq_true rfl) ⟨_, _, _, rfl, rfl, by omega, by omega, hI84, (CM.cons S3 (CM.cons S49 (CM.cons S60 (CM.cons S73 (CM.mono S86 (by decide) (by decide)) (by decide) (by decide)) (by decide) (by decide)) (by decide) (by decide)) (by decide) (by decide))⟩
  refine z_iconst C (z := 1) rfl rfl rfl (fun x215 ex215 => ?_)
  refine k_goto C (pc2 := 35) rfl rfl ?_
  refine z_iconst C (z := 1) rfl rfl rfl (fun x216 ex216 => ?_)
  have q217 : x215.toNatClampNeg = 1 := nck (by omega)
  have q218 : x216.toNatClampNeg = 1 := nck (by omega)
  refine c_VI C (a_X12_throwsIf hI2 H_r0 (by omega) (by omega)) rfl rfl rfl rfl rfl ⟨_, rfl, rfl, T_r0, Nat.le_of_ble_eq_true rfl⟩ rfl rfl (Nat.le_of_ble_eq_true rfl) (Nat.le_of_ble_eq_true rfl) (Nat.le_of_ble_eq_true rfl) ?_
  rintro x219 I220 L221 ⟨o0x219, o1x219, p0x219, hI220, S222⟩
  have e224 := CM.j S222 R_r0_1 (by decide) e7
  have e225 := CM.j S222 R_r0_1 (by decide) e23
  have e226 := CM.j S222 R_r0_1 (by decide) e40
  have gx219 := rg x219
  try simp only [q217, q218, e4, e7, e23, e40] at p0x219
  try have q0x219 := congrArg Int32.toInt p0x219
  refine b_if_eq C (t := 44) rfl rfl rfl (fun c227 => by exfalso; omega) (fun c227 => ?_)
  refine z_iconst C (z := 0) rfl rfl rfl (fun x228 ex228 => ?_)
  exact k_iret C rfl (Or.inr ⟨rfl, z01 (by omega) (by omega)⟩) (Nat.le_of_ble_eq_true rfl) (Nat.le_of_ble_eq_true rfl) ⟨_, _, _, rfl, rfl, by omega, by omega, hI220, (CM.cons S3 (CM.mono S222 (by decide) (by decide)) (by decide) (by decide))⟩

theorem a_X12_agree {d : Nat} {T N : Nat → Nat} {I : IT} {L : LT} {R : RT} {A : Nat → Prop} {r0 : Nat} {n1 n2 n3 : Int32} (hI : IM R r0 I) (H_r0 : (h_MD T N R A) r0) : Ex (d + 9) 257 [.ref r0, .int n1, .int n2, .int n3] (T, N, I, L, R) 0 0 (pI T N R (fun x9 I9 L9 => (-1 ≤ x9.toInt) ∧ (x9.toInt ≤ 15) ∧ (IM R r0 I9 ∧ CM A R r0 [0] [4, 5] I L I9 L9))) := by
  refine ⟨_, rfl, Nat.le_of_ble_eq_true rfl, fun V C S => ?_⟩
  show V 0 [(0, .ref r0), (1, .int n1), (2, .int n2), (3, .int n3)] [] (T, N, I, L, R) 0 0
  have gn1 := rg n1
  have gn2 := rg n2
  have gn3 := rg n3
  obtain ⟨T_r0, A_r0, ⟨r0_1, R_r0_1, H_r0_1⟩, ⟨r0_2, R_r0_2, H_r0_2⟩, ⟨r0_4, R_r0_4, H_r0_4⟩, ⟨r0_5, R_r0_5, H_r0_5⟩, ⟨r0_10, R_r0_10, H_r0_10⟩, ⟨r0_18, R_r0_18, H_r0_18⟩, ⟨r0_20, R_r0_20, H_r0_20⟩, ⟨r0_21, R_r0_21, H_r0_21⟩, ⟨r0_22, R_r0_22, H_r0_22⟩, ⟨r0_23, R_r0_23, H_r0_23⟩, ⟨r0_25, R_r0_25, H_r0_25⟩, ⟨r0_26, R_r0_26, H_r0_26⟩, ⟨r0_27, R_r0_27, H_r0_27⟩, ⟨r0_28, R_r0_28, H_r0_28⟩, ⟨r0_34, R_r0_34, H_r0_34⟩, J_r0, Y_r0⟩ := id H_r0
  have G_r0 : mF T R r0 := ⟨J_r0, Y_r0, T_r0⟩
  refine k_aload_n C rfl rfl rfl ?_
  refine z_iconst C (z := 0) rfl rfl rfl (fun x1 ex1 => ?_)
  refine z_pI C rfl rfl rfl T_r0 (Or.inr rfl) rfl (fun I2 uI2 => ?_)
  have hI2 : IM R r0 I2 := IM.fld hI G_r0 ⟨(fun h => absurd h (by decide)), (fun h => absurd h (by decide)), (fun h => absurd h (by decide)), (fun h => absurd h (by decide)), (fun h => absurd h (by decide))⟩ uI2
  have S3 : CM A R r0 [0] [] I L I2 L := CM.f G_r0 A_r0 uI2
  have e4 := u2_e uI2
  refine k_aload_n C rfl rfl rfl ?_
  refine k_aload_n C rfl rfl rfl ?_
  refine k_iload_n C rfl rfl rfl ?_
  refine c_VI C (a_X12_noSigns hI2 H_r0) rfl rfl rfl rfl rfl ⟨_, rfl, rfl, T_r0, Nat.le_of_ble_eq_true rfl⟩ rfl rfl (Nat.le_of_ble_eq_true rfl) (Nat.le_of_ble_eq_true rfl) (Nat.le_of_ble_eq_true rfl) ?_
  rintro x5 _ _ ⟨o0x5, o1x5, p0x5, rfl, rfl⟩
  have p0x5 := p0x5 r0_1 R_r0_1
  have gx5 := rg x5
  obtain ⟨x6, e7⟩ : ∃ x, I2 r0_1 3 = x := ⟨_, rfl⟩
  have gx6 := rg x6
  have ox6 := IM.c3 hI2 R_r0_1 e7
  try simp only [e4, e7] at p0x5
  try have q0x5 := congrArg Int32.toInt p0x5
  refine b_if_ne C (t := 22) rfl rfl rfl (fun c8 => ?_) (fun c8 => ?_)
  · skip
    refine z_iconst C (z := 1) rfl rfl rfl (fun x9 ex9 => ?_)
    refine k_goto C (pc2 := 27) rfl rfl ?_
    refine z_iconst C (z := 1) rfl rfl rfl (fun x10 ex10 => ?_)
    have q11 : x9.toNatClampNeg = 1 := nck (by omega)
    have q12 : x10.toNatClampNeg = 1 := nck (by omega)
    refine c_VI C (a_X12_throwsIf hI2 H_r0 (by omega) (by omega)) rfl rfl rfl rfl rfl ⟨_, rfl, rfl, T_r0, Nat.le_of_ble_eq_true rfl⟩ rfl rfl (Nat.le_of_ble_eq_true rfl) (Nat.le_of_ble_eq_true rfl) (Nat.le_of_ble_eq_true rfl) ?_
    rintro x13 I14 L15 ⟨o0x13, o1x13, p0x13, hI14, S16⟩
    have e18 := CM.j S16 R_r0_1 (by decide) e7
    have gx13 := rg x13
    try simp only [q11, q12, e4, e7] at p0x13
    try have q0x13 := congrArg Int32.toInt p0x13
    refine b_if_ne C (t := 57) rfl rfl rfl (fun c19 => ?_) (fun c19 => by exfalso; omega)
    refine z_iconst C (z := 0) rfl rfl rfl (fun x20 ex20 => ?_)
    exact k_iret C rfl (Or.inl rfl) (Nat.le_of_ble_eq_true rfl) (Nat.le_of_ble_eq_true rfl) ⟨_, _, _, rfl, rfl, by omega, by omega, hI14, (CM.cons S3 (CM.mono S16 (by decide) (by decide)) (by decide) (by decide))⟩
  refine k_aload_n C rfl rfl rfl ?_
  refine k_iload_n C rfl rfl rfl ?_
  refine c_VI C (a_X12_noSigns hI2 H_r0) rfl rfl rfl rfl rfl ⟨_, rfl, rfl, T_r0, Nat.le_of_ble_eq_true rfl⟩ rfl rfl (Nat.le_of_ble_eq_true rfl) (Nat.le_of_ble_eq_true rfl) (Nat.le_of_ble_eq_true rfl) ?_
  rintro x21 _ _ ⟨o0x21, o1x21, p0x21, rfl, rfl⟩
  have p0x21 := p0x21 r0_1 R_r0_1
  have gx21 := rg x21
  try simp only [e4, e7, e7] at p0x21
  try have q0x21 := congrArg Int32.toInt p0x21
  refine b_if_eq C (t := 26) rfl rfl rfl (fun c22 => ?_) (fun c22 => ?_)
  · skip
    refine z_iconst C (z := 0) rfl rfl rfl (fun x23 ex23 => ?_)
    refine z_iconst C (z := 1) rfl rfl rfl (fun x24 ex24 => ?_)
    have q25 : x23.toNatClampNeg = 0 := nck (by omega)
    have q26 : x24.toNatClampNeg = 1 := nck (by omega)
    refine c_VI C (a_X12_throwsIf hI2 H_r0 (by omega) (by omega)) rfl rfl rfl rfl rfl ⟨_, rfl, rfl, T_r0, Nat.le_of_ble_eq_true rfl⟩ rfl rfl (Nat.le_of_ble_eq_true rfl) (Nat.le_of_ble_eq_true rfl) (Nat.le_of_ble_eq_true rfl) ?_
    rintro x27 I28 L29 ⟨o0x27, o1x27, p0x27, hI28, S30⟩
    have e32 := CM.j S30 R_r0_1 (by decide) e7
    have gx27 := rg x27
    try simp only [q25, q26, e4, e7] at p0x27
    try have q0x27 := congrArg Int32.toInt p0x27
    refine b_if_ne C (t := 57) rfl rfl rfl (fun c33 => by exfalso; omega) (fun c33 => ?_)
    refine k_aload_n C rfl rfl rfl ?_
    refine k_iload_n C rfl rfl rfl ?_
    refine z_iconst C (z := 0) rfl rfl rfl (fun x34 ex34 => ?_)
    refine z_bipush C (z := 8) rfl rfl rfl (fun x35 ex35 => ?_)
    have q36 : x34.toNatClampNeg = 0 := nck (by omega)
    have q37 : x35.toNatClampNeg = 8 := nck (by omega)
    refine c_SI C a_X12_in rfl rfl rfl rfl rfl rfl rfl (Nat.le_of_ble_eq_true rfl) (Nat.le_of_ble_eq_true rfl) (Nat.le_of_ble_eq_true rfl) ?_
    rintro x38 _ _ ⟨o0x38, o1x38, p0x38, rfl, rfl⟩
    have gx38 := rg x38
    try simp only [q36, q37, e32] at p0x38
    try have q0x38 := congrArg Int32.toInt p0x38
    refine b_if_ne C (t := 49) rfl rfl rfl (fun c39 => ?_) (fun c39 => ?_)
    · skip
      refine z_iconst C (z := 0) rfl rfl rfl (fun x40 ex40 => ?_)
      refine z_iconst C (z := 2) rfl rfl rfl (fun x41 ex41 => ?_)
      have q42 : x40.toNatClampNeg = 0 := nck (by omega)
      have q43 : x41.toNatClampNeg = 2 := nck (by omega)
      refine c_VI C (a_X12_throwsIf hI28 H_r0 (by omega) (by omega)) rfl rfl rfl rfl rfl ⟨_, rfl, rfl, T_r0, Nat.le_of_ble_eq_true rfl⟩ rfl rfl (Nat.le_of_ble_eq_true rfl) (Nat.le_of_ble_eq_true rfl) (Nat.le_of_ble_eq_true rfl) ?_
      rintro x44 I45 L46 ⟨o0x44, o1x44, p0x44, hI45, S47⟩
      have e48 := CM.j S47 R_r0_1 (by decide) e32
      have gx44 := rg x44
      try simp only [q42, q43, e32] at p0x44
      try have q0x44 := congrArg Int32.toInt p0x44
      refine b_if_eq C (t := 59) rfl rfl rfl (fun c49 => ?_) (fun c49 => by exfalso; omega)
      refine z_iconst C (z := 0) rfl rfl rfl (fun x50 ex50 => ?_)
      have J51 : ∀ (nn52 : Nat) (I53 : IT) (L54 : LT) (x55 : Int32), (MN (16 - x55.toInt) nn52) → (IM R r0 I53) → (CM A R r0 [] [4, 5] I45 L46 I53 L54) → (0 ≤ x55.toInt) → (x55.toInt ≤ 16) → V 62 [(0, .ref r0), (1, .int n1), (2, .int n2), (3, .int n3), (4, .int x55)] [] (T, N, I53, L54, R) 0 0 := by
        intro nn52
        induction nn52 using Nat.strongRecOn with
        | _ nn52 ihJ51 =>
          intro I53 L54 x55 hmnn52 hI59 S58 b56 b57
          have gx55 := rg x55
          have e60 := CM.j S58 R_r0_1 (by decide) e48
          refine k_iload C rfl rfl rfl ?_
          refine k_aload_n C rfl rfl rfl ?_
          refine g_R C rfl rfl rfl T_r0 rfl R_r0_1 ?_
          refine z_iconst C (z := 1) rfl rfl rfl (fun x61 ex61 => ?_)
          obtain ⟨T_r0_1, N_r0_1, A_r0_1⟩ := id H_r0_1
          refine z_aI C rfl rfl T_r0_1 N_r0_1 (by omega) (by omega) (fun x62 ex62 => ?_)
          have gx62 := rg x62
          have nx62 : I53 r0_1 1 = x62 := (congrArg (I53 r0_1) (nck (n := 1) (by omega))).symm.trans ex62
          have ox62 := IM.c1 hI59 R_r0_1 nx62
          refine b_icmp_ge C (t := 151) rfl rfl rfl (fun c63 => ?_) (fun c63 => ?_)
          · skip
            refine z_iconst C (z := -1) rfl rfl rfl (fun x64 ex64 => ?_)
            exact k_iret C rfl (Or.inl rfl) (Nat.le_of_ble_eq_true rfl) (Nat.le_of_ble_eq_true rfl) ⟨_, _, _, rfl, rfl, by omega, by omega, hI59, (CM.cons S3 (CM.cons S30 (CM.cons S47 (CM.mono S58 (by decide) (by decide)) (by decide) (by decide)) (by decide) (by decide)) (by decide) (by decide))⟩
          refine k_aload_n C rfl rfl rfl ?_
          refine k_iload C rfl rfl rfl ?_
          refine c_VI C (a_X12_degreeOf hI59 H_r0 (by omega) (by omega)) rfl rfl rfl rfl rfl ⟨_, rfl, rfl, T_r0, Nat.le_of_ble_eq_true rfl⟩ rfl rfl (Nat.le_of_ble_eq_true rfl) (Nat.le_of_ble_eq_true rfl) (Nat.le_of_ble_eq_true rfl) ?_
          rintro x65 _ _ ⟨o0x65, o1x65, p0x65, rfl, rfl⟩
          have p0x65 := p0x65 r0_1 R_r0_1
          have gx65 := rg x65
          obtain ⟨x66, e67⟩ : ∃ x, I53 r0_1 (6 + 10 * x55.toNatClampNeg) = x := ⟨_, rfl⟩
          have gx66 := rg x66
          try simp only [e60, nx62, e67] at p0x65
          try have q0x65 := congrArg Int32.toInt p0x65
          refine k_iload_n C rfl rfl rfl ?_
          refine b_icmp_eq C (t := 86) rfl rfl rfl (fun c68 => ?_) (fun c68 => ?_)
          · skip
            refine k_aload_n C rfl rfl rfl ?_
            refine z_bipush C (z := 44) rfl rfl rfl (fun x69 ex69 => ?_)
            refine k_iload C rfl rfl rfl ?_
            obtain ⟨x70, e71⟩ : ∃ x, I53 r0_1 0 = x := ⟨_, rfl⟩
            have gx70 := rg x70
            have ox70 := IM.pi hI59 R_r0_1 e71
            have q72 : x69.toNatClampNeg = 44 := nck (by omega)
            refine c_VV C (a_X12_takes hI59 H_r0 (by omega) (by omega) (by omega) (by omega)) rfl rfl rfl rfl rfl ⟨_, rfl, rfl, T_r0, Nat.le_of_ble_eq_true rfl⟩ rfl rfl (Nat.le_of_ble_eq_true rfl) (Nat.le_of_ble_eq_true rfl) (Nat.le_of_ble_eq_true rfl) ?_
            rintro I74 L75 ⟨p0v73, p1v73, p2v73, p3v73, p4v73, hI74, S76⟩
            have p0v73 := p0v73 r0_4 R_r0_4
            have p1v73 := p1v73 r0_1 r0_4 R_r0_1 R_r0_4
            have p2v73 := p2v73 r0_1 r0_4 r0_5 R_r0_1 R_r0_4 R_r0_5
            have p3v73 := p3v73 r0_4 R_r0_4
            have p4v73 := p4v73 r0_5 R_r0_5
            try simp only [q72] at p3v73
            try simp only [q72] at p4v73
            have e77 := CM.j S76 R_r0_1 (by decide) e60
            have e78 := CM.j S76 R_r0_1 (by decide) nx62
            have e79 := CM.j S76 R_r0_1 (by decide) e67
            have e80 := CM.j S76 R_r0_1 (by decide) e71
            obtain ⟨x81, e82⟩ : ∃ x, I74 r0_4 44 = x := ⟨_, rfl⟩
            have gx81 := rg x81
            have ox81 := IM.dgR hI74 R_r0_4 e82
            try simp only [q72, e60, nx62, e67, e71, e82] at p0v73
            try have q0v73 := congrArg Int32.toInt p0v73
            try simp only [q72, e60, nx62, e67, e71, e82] at p1v73
            try have q1v73 := congrArg Int32.toInt p1v73
            try simp only [q72, e60, nx62, e67, e71, e82] at p2v73
            try have q2v73 := congrArg Int32.toInt p2v73
            refine k_aload_n C rfl rfl rfl ?_
            refine k_iload_n C rfl rfl rfl ?_
            refine c_VI C (a_X12_makes hI74 H_r0 (by omega) (by omega) (fun a1 h1 => by cases (R_r0_1.symm.trans h1); first | omega | (simp only [e77, e78, e79, e80, e82] <;> omega))) rfl rfl rfl rfl rfl ⟨_, rfl, rfl, T_r0, Nat.le_of_ble_eq_true rfl⟩ rfl rfl (Nat.le_of_ble_eq_true rfl) (Nat.le_of_ble_eq_true rfl) (Nat.le_of_ble_eq_true rfl) ?_
            rintro x83 I84 L85 ⟨o0x83, o1x83, hI84, S86⟩
            have e87 := CM.j S86 R_r0_1 (by decide) e77
            have e88 := CM.j S86 R_r0_1 (by decide) e78
            have e89 := CM.j S86 R_r0_1 (by decide) e79
            have e90 := CM.j S86 R_r0_1 (by decide) e80
            have gx83 := rg x83
            refine k_istore C (lw := [(5, .int x83), (0, .ref r0), (1, .int n1), (2, .int n2), (3, .int n3), (4, .int x55)]) rfl rfl (Nat.le_of_ble_eq_true rfl) rfl ?_
            refine k_iload C rfl rfl rfl ?_
            refine b_if_eq C (t := 113) rfl rfl rfl (fun c92 => ?_) (fun c92 => ?_)
            · skip
              refine k_aload_n C rfl rfl rfl ?_
              refine k_iload_n C rfl rfl rfl ?_
              refine c_VI C (a_X12_makes hI84 H_r0 (by omega) (by omega) (fun a1 h1 => by cases (R_r0_1.symm.trans h1); first | omega | (simp only [e87, e88, e89, e90] <;> omega))) rfl rfl rfl rfl rfl ⟨_, rfl, rfl, T_r0, Nat.le_of_ble_eq_true rfl⟩ rfl rfl (Nat.le_of_ble_eq_true rfl) (Nat.le_of_ble_eq_true rfl) (Nat.le_of_ble_eq_true rfl) ?_
              rintro x93 I94 L95 ⟨o0x93, o1x93, hI94, S96⟩
              have e97 := CM.j S96 R_r0_1 (by decide) e87
              have e98 := CM.j S96 R_r0_1 (by decide) e88
              have e99 := CM.j S96 R_r0_1 (by decide) e89
              have e100 := CM.j S96 R_r0_1 (by decide) e90
              have gx93 := rg x93
              refine k_istore C (lw := [(6, .int x93), (5, .int x83), (0, .ref r0), (1, .int n1), (2, .int n2), (3, .int n3), (4, .int x55)]) rfl rfl (Nat.le_of_ble_eq_true rfl) rfl ?_
              refine k_iload C rfl rfl rfl ?_
              refine k_iload C rfl rfl rfl ?_
              refine b_icmp_ne C (t := 142) rfl rfl rfl (fun c101 => ?_) (fun c101 => ?_)
              · skip
                refine k_iload C rfl rfl rfl ?_
                exact k_iret C rfl (Or.inl rfl) (Nat.le_of_ble_eq_true rfl) (Nat.le_of_ble_eq_true rfl) ⟨_, _, _, rfl, rfl, by omega, by omega, hI94, (CM.cons S3 (CM.cons S30 (CM.cons S47 (CM.cons S58 (CM.cons S76 (CM.cons S86 (CM.mono S96 (by decide) (by decide)) (by decide) (by decide)) (by decide) (by decide)) (by decide) (by decide)) (by decide) (by decide)) (by decide) (by decide)) (by decide) (by decide))⟩
              refine k_iload C rfl rfl rfl ?_
              refine b_if_eq C (t := 145) rfl rfl rfl (fun c102 => ?_) (fun c102 => by exfalso; omega)
              refine z_iinc C (z := 1) (lw := fun x103 => [(4, .int x103), (6, .int x93), (5, .int x83), (0, .ref r0), (1, .int n1), (2, .int n2), (3, .int n3)]) rfl rfl rfl (Nat.le_of_ble_eq_true rfl) rfl ⟨by omega, by omega⟩ (fun _ => rfl) (fun x103 ex103 => ?_)
              show V 148 [(4, .int x103), (6, .int x93), (5, .int x83), (0, .ref r0), (1, .int n1), (2, .int n2), (3, .int n3)] _ _ _ _
              refine k_goto C (pc2 := 62) rfl rfl ?_
              refine k_sub S [(0, .ref r0), (1, .int n1), (2, .int n2), (3, .int n3), (4, .int x103)] (List.forall_mem_cons.mpr ⟨List.mem_of_getElem? (i := 3) rfl, List.forall_mem_cons.mpr ⟨List.mem_of_getElem? (i := 4) rfl, List.forall_mem_cons.mpr ⟨List.mem_of_getElem? (i := 5) rfl, List.forall_mem_cons.mpr ⟨List.mem_of_getElem? (i := 6) rfl, List.forall_mem_cons.mpr ⟨List.mem_of_getElem? (i := 0) rfl, fun _ h => nomatch h⟩⟩⟩⟩⟩) ?_
              exact ihJ51 _ (MN.lt hmnn52 (by omega) (by omega)) I94 L95 x103 rfl hI94 (CM.cons S58 (CM.cons S76 (CM.cons S86 (CM.mono S96 (by decide) (by decide)) (by decide) (by decide)) (by decide) (by decide)) (by decide) (by decide)) (by omega) (by omega)
            refine k_aload_n C rfl rfl rfl ?_
            refine z_iconst C (z := 0) rfl rfl rfl (fun x104 ex104 => ?_)
            refine z_bipush C (z := 42) rfl rfl rfl (fun x105 ex105 => ?_)
            obtain ⟨x106, e107⟩ : ∃ x, I84 r0_4 0 = x := ⟨_, rfl⟩
            have gx106 := rg x106
            have ox106 := IM.dgR hI84 R_r0_4 e107
            have q108 : x104.toNatClampNeg = 0 := nck (by omega)
            have q109 : x105.toNatClampNeg = 42 := nck (by omega)
            refine c_VV C (a_X12_copies hI84 H_r0 (by omega) (by omega) (by omega) (by omega) (by first | omega | (simp only [q108, q109, e87, e88, e89, e90, e107] <;> omega))) rfl rfl rfl rfl rfl ⟨_, rfl, rfl, T_r0, Nat.le_of_ble_eq_true rfl⟩ rfl rfl (Nat.le_of_ble_eq_true rfl) (Nat.le_of_ble_eq_true rfl) (Nat.le_of_ble_eq_true rfl) ?_
            rintro I111 L112 ⟨p0v110, p1v110, p2v110, p3v110, hI111, S113⟩
            have p0v110 := p0v110 r0_4 R_r0_4
            have p1v110 := p1v110 r0_4 r0_5 R_r0_4 R_r0_5
            have p2v110 := p2v110 r0_4 R_r0_4
            have p3v110 := p3v110 r0_5 R_r0_5
            try simp only [q108, q109] at p2v110
            try simp only [q108, q109] at p3v110
            have e114 := CM.j S113 R_r0_1 (by decide) e87
            have e115 := CM.j S113 R_r0_1 (by decide) e88
            have e116 := CM.j S113 R_r0_1 (by decide) e89
            have e117 := CM.j S113 R_r0_1 (by decide) e90
            have e118 := (p2v110 0 (by first | decide | exact ncne (by omega) (by omega) (by omega) | exact nckn (by omega) (by omega) | exact (nckn (by omega) (by omega)).symm)).trans e107
            obtain ⟨x119, e120⟩ : ∃ x, I111 r0_4 42 = x := ⟨_, rfl⟩
            have gx119 := rg x119
            have ox119 := IM.dgR hI111 R_r0_4 e120
            try simp only [q108, q109, e87, e88, e89, e90, e107, e120] at p0v110
            try have q0v110 := congrArg Int32.toInt p0v110
            try simp only [q108, q109, e87, e88, e89, e90, e107, e120] at p1v110
            try have q1v110 := congrArg Int32.toInt p1v110
            refine k_aload_n C rfl rfl rfl ?_
            refine k_iload_n C rfl rfl rfl ?_
            refine c_VI C (a_X12_makes hI111 H_r0 (by omega) (by omega) (fun a1 h1 => by cases (R_r0_1.symm.trans h1); first | omega | (simp only [e114, e115, e116, e117, e118, e120] <;> omega))) rfl rfl rfl rfl rfl ⟨_, rfl, rfl, T_r0, Nat.le_of_ble_eq_true rfl⟩ rfl rfl (Nat.le_of_ble_eq_true rfl) (Nat.le_of_ble_eq_true rfl) (Nat.le_of_ble_eq_true rfl) ?_
            rintro x121 I122 L123 ⟨o0x121, o1x121, hI122, S124⟩
            have e125 := CM.j S124 R_r0_1 (by decide) e114
            have e126 := CM.j S124 R_r0_1 (by decide) e115
            have e127 := CM.j S124 R_r0_1 (by decide) e116
            have e128 := CM.j S124 R_r0_1 (by decide) e117
            have gx121 := rg x121
            refine k_istore C (lw := [(6, .int x121), (5, .int x83), (0, .ref r0), (1, .int n1), (2, .int n2), (3, .int n3), (4, .int x55)]) rfl rfl (Nat.le_of_ble_eq_true rfl) rfl ?_
            refine k_iload C rfl rfl rfl ?_
            refine k_iload C rfl rfl rfl ?_
            refine b_icmp_ne C (t := 142) rfl rfl rfl (fun c131 => ?_) (fun c131 => ?_)
            · skip
              refine k_iload C rfl rfl rfl ?_
              exact k_iret C rfl (Or.inl rfl) (Nat.le_of_ble_eq_true rfl) (Nat.le_of_ble_eq_true rfl) ⟨_, _, _, rfl, rfl, by omega, by omega, hI122, (CM.cons S3 (CM.cons S30 (CM.cons S47 (CM.cons S58 (CM.cons S76 (CM.cons S86 (CM.cons S113 (CM.mono S124 (by decide) (by decide)) (by decide) (by decide)) (by decide) (by decide)) (by decide) (by decide)) (by decide) (by decide)) (by decide) (by decide)) (by decide) (by decide)) (by decide) (by decide))⟩
            refine k_iload C rfl rfl rfl ?_
            refine b_if_eq C (t := 145) rfl rfl rfl (fun c132 => by exfalso; omega) (fun c132 => ?_)
            refine k_aload_n C rfl rfl rfl ?_
            refine z_iconst C (z := 0) rfl rfl rfl (fun x133 ex133 => ?_)
            refine z_bipush C (z := 42) rfl rfl rfl (fun x134 ex134 => ?_)
            refine c_VI C (a_X12_isLike hI122 H_r0 (by omega) (by omega) (by omega) (by omega)) rfl rfl rfl rfl rfl ⟨_, rfl, rfl, T_r0, Nat.le_of_ble_eq_true rfl⟩ rfl rfl (Nat.le_of_ble_eq_true rfl) (Nat.le_of_ble_eq_true rfl) (Nat.le_of_ble_eq_true rfl) ?_
            rintro x135 _ _ ⟨o0x135, o1x135, rfl, rfl⟩
            have gx135 := rg x135
            refine b_if_ne C (t := 145) rfl rfl rfl (fun c136 => ?_) (fun c136 => ?_)
            · skip
              refine z_iinc C (z := 1) (lw := fun x137 => [(4, .int x137), (6, .int x121), (5, .int x83), (0, .ref r0), (1, .int n1), (2, .int n2), (3, .int n3)]) rfl rfl rfl (Nat.le_of_ble_eq_true rfl) rfl ⟨by omega, by omega⟩ (fun _ => rfl) (fun x137 ex137 => ?_)
              show V 148 [(4, .int x137), (6, .int x121), (5, .int x83), (0, .ref r0), (1, .int n1), (2, .int n2), (3, .int n3)] _ _ _ _
              refine k_goto C (pc2 := 62) rfl rfl ?_
              refine k_sub S [(0, .ref r0), (1, .int n1), (2, .int n2), (3, .int n3), (4, .int x137)] (List.forall_mem_cons.mpr ⟨List.mem_of_getElem? (i := 3) rfl, List.forall_mem_cons.mpr ⟨List.mem_of_getElem? (i := 4) rfl, List.forall_mem_cons.mpr ⟨List.mem_of_getElem? (i := 5) rfl, List.forall_mem_cons.mpr ⟨List.mem_of_getElem? (i := 6) rfl, List.forall_mem_cons.mpr ⟨List.mem_of_getElem? (i := 0) rfl, fun _ h => nomatch h⟩⟩⟩⟩⟩) ?_
              exact ihJ51 _ (MN.lt hmnn52 (by omega) (by omega)) I122 L123 x137 rfl hI122 (CM.cons S58 (CM.cons S76 (CM.cons S86 (CM.cons S113 (CM.mono S124 (by decide) (by decide)) (by decide) (by decide)) (by decide) (by decide)) (by decide) (by decide)) (by decide) (by decide)) (by omega) (by omega)
            refine k_iload C rfl rfl rfl ?_
            exact k_iret C rfl (Or.inl rfl) (Nat.le_of_ble_eq_true rfl) (Nat.le_of_ble_eq_true rfl) ⟨_, _, _, rfl, rfl, by omega, by omega, hI122, (CM.cons S3 (CM.cons S30 (CM.cons S47 (CM.cons S58 (CM.cons S76 (CM.cons S86 (CM.cons S113 (CM.mono S124 (by decide) (by decide)) (by decide) (by decide)) (by decide) (by decide)) (by decide) (by decide)) (by decide) (by decide)) (by decide) (by decide)) (by decide) (by decide)) (by decide) (by decide))⟩
          refine k_goto C (pc2 := 145) rfl rfl ?_
          refine z_iinc C (z := 1) (lw := fun x138 => [(4, .int x138), (0, .ref r0), (1, .int n1), (2, .int n2), (3, .int n3)]) rfl rfl rfl (Nat.le_of_ble_eq_true rfl) rfl ⟨by omega, by omega⟩ (fun _ => rfl) (fun x138 ex138 => ?_)
          show V 148 [(4, .int x138), (0, .ref r0), (1, .int n1), (2, .int n2), (3, .int n3)] _ _ _ _
          refine k_goto C (pc2 := 62) rfl rfl ?_
          refine k_sub S [(0, .ref r0), (1, .int n1), (2, .int n2), (3, .int n3), (4, .int x138)] (List.forall_mem_cons.mpr ⟨List.mem_of_getElem? (i := 1) rfl, List.forall_mem_cons.mpr ⟨List.mem_of_getElem? (i := 2) rfl, List.forall_mem_cons.mpr ⟨List.mem_of_getElem? (i := 3) rfl, List.forall_mem_cons.mpr ⟨List.mem_of_getElem? (i := 4) rfl, List.forall_mem_cons.mpr ⟨List.mem_of_getElem? (i := 0) rfl, fun _ h => nomatch h⟩⟩⟩⟩⟩) ?_
          exact ihJ51 _ (MN.lt hmnn52 (by omega) (by omega)) I53 L54 x138 rfl hI59 (CM.mono S58 (by decide) (by decide)) (by omega) (by omega)
      refine k_istore C (lw := [(4, .int x50), (0, .ref r0), (1, .int n1), (2, .int n2), (3, .int n3)]) rfl rfl (Nat.le_of_ble_eq_true rfl) rfl ?_
      refine k_sub S [(0, .ref r0), (1, .int n1), (2, .int n2), (3, .int n3), (4, .int x50)] (List.forall_mem_cons.mpr ⟨List.mem_of_getElem? (i := 1) rfl, List.forall_mem_cons.mpr ⟨List.mem_of_getElem? (i := 2) rfl, List.forall_mem_cons.mpr ⟨List.mem_of_getElem? (i := 3) rfl, List.forall_mem_cons.mpr ⟨List.mem_of_getElem? (i := 4) rfl, List.forall_mem_cons.mpr ⟨List.mem_of_getElem? (i := 0) rfl, fun _ h => nomatch h⟩⟩⟩⟩⟩) ?_
      exact J51 _ I45 L46 x50 rfl hI45 CM.rf (by omega) (by omega)
    refine z_iconst C (z := 1) rfl rfl rfl (fun x139 ex139 => ?_)
    refine k_goto C (pc2 := 50) rfl rfl ?_
    refine z_iconst C (z := 2) rfl rfl rfl (fun x140 ex140 => ?_)
    have q141 : x139.toNatClampNeg = 1 := nck (by omega)
    have q142 : x140.toNatClampNeg = 2 := nck (by omega)
    refine c_VI C (a_X12_throwsIf hI28 H_r0 (by omega) (by omega)) rfl rfl rfl rfl rfl ⟨_, rfl, rfl, T_r0, Nat.le_of_ble_eq_true rfl⟩ rfl rfl (Nat.le_of_ble_eq_true rfl) (Nat.le_of_ble_eq_true rfl) (Nat.le_of_ble_eq_true rfl) ?_
    rintro x143 I144 L145 ⟨o0x143, o1x143, p0x143, hI144, S146⟩
    have e147 := CM.j S146 R_r0_1 (by decide) e32
    have gx143 := rg x143
    try simp only [q141, q142, e32] at p0x143
    try have q0x143 := congrArg Int32.toInt p0x143
    refine b_if_eq C (t := 59) rfl rfl rfl (fun c148 => by exfalso; omega) (fun c148 => ?_)
    refine z_iconst C (z := 0) rfl rfl rfl (fun x149 ex149 => ?_)
    exact k_iret C rfl (Or.inl rfl) (Nat.le_of_ble_eq_true rfl) (Nat.le_of_ble_eq_true rfl) ⟨_, _, _, rfl, rfl, by omega, by omega, hI144, (CM.cons S3 (CM.cons S30 (CM.mono S146 (by decide) (by decide)) (by decide) (by decide)) (by decide) (by decide))⟩
  refine z_iconst C (z := 1) rfl rfl rfl (fun x150 ex150 => ?_)
  refine k_goto C (pc2 := 27) rfl rfl ?_
  refine z_iconst C (z := 1) rfl rfl rfl (fun x151 ex151 => ?_)
  have q152 : x150.toNatClampNeg = 1 := nck (by omega)
  have q153 : x151.toNatClampNeg = 1 := nck (by omega)
  refine c_VI C (a_X12_throwsIf hI2 H_r0 (by omega) (by omega)) rfl rfl rfl rfl rfl ⟨_, rfl, rfl, T_r0, Nat.le_of_ble_eq_true rfl⟩ rfl rfl (Nat.le_of_ble_eq_true rfl) (Nat.le_of_ble_eq_true rfl) (Nat.le_of_ble_eq_true rfl) ?_
  rintro x154 I155 L156 ⟨o0x154, o1x154, p0x154, hI155, S157⟩
  have e159 := CM.j S157 R_r0_1 (by decide) e7
  have gx154 := rg x154
  try simp only [q152, q153, e4, e7] at p0x154
  try have q0x154 := congrArg Int32.toInt p0x154
  refine b_if_ne C (t := 57) rfl rfl rfl (fun c160 => ?_) (fun c160 => by exfalso; omega)
  refine z_iconst C (z := 0) rfl rfl rfl (fun x161 ex161 => ?_)
  exact k_iret C rfl (Or.inl rfl) (Nat.le_of_ble_eq_true rfl) (Nat.le_of_ble_eq_true rfl) ⟨_, _, _, rfl, rfl, by omega, by omega, hI155, (CM.cons S3 (CM.mono S157 (by decide) (by decide)) (by decide) (by decide))⟩

