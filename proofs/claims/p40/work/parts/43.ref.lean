/-! the reference in any state: signs -/
theorem a_X12_makes {d : Nat} {T N : Nat → Nat} {I : IT} {L : LT} {R : RT} {A : Nat → Prop} {r0 : Nat} {n1 : Int32} (hI : IM R r0 I) (H_r0 : (h_MD T N R A) r0) (b0_n1 : 0 ≤ n1.toInt) (b1_n1 : n1.toInt ≤ 7) (hp0 : ∀ a1, R r0 1 = some a1 → n1.toInt < (I a1 3).toInt) : Ex (d + 8) 252 [.ref r0, .int n1] (T, N, I, L, R) 0 0 (pI T N R (fun x9 I9 L9 => (0 ≤ x9.toInt) ∧ (x9.toInt ≤ 1) ∧ (IM R r0 I9 ∧ CM A R r0 [] [4, 5] I L I9 L9))) := by
  refine ⟨_, rfl, Nat.le_of_ble_eq_true rfl, fun V C S => ?_⟩
  show V 0 [(0, .ref r0), (1, .int n1)] [] (T, N, I, L, R) 0 0
  have gn1 := rg n1
  obtain ⟨T_r0, A_r0, ⟨r0_1, R_r0_1, H_r0_1⟩, ⟨r0_2, R_r0_2, H_r0_2⟩, ⟨r0_4, R_r0_4, H_r0_4⟩, ⟨r0_5, R_r0_5, H_r0_5⟩, ⟨r0_10, R_r0_10, H_r0_10⟩, ⟨r0_18, R_r0_18, H_r0_18⟩, ⟨r0_20, R_r0_20, H_r0_20⟩, ⟨r0_21, R_r0_21, H_r0_21⟩, ⟨r0_22, R_r0_22, H_r0_22⟩, ⟨r0_23, R_r0_23, H_r0_23⟩, ⟨r0_25, R_r0_25, H_r0_25⟩, ⟨r0_26, R_r0_26, H_r0_26⟩, ⟨r0_27, R_r0_27, H_r0_27⟩, ⟨r0_28, R_r0_28, H_r0_28⟩, ⟨r0_34, R_r0_34, H_r0_34⟩, J_r0, Y_r0⟩ := id H_r0
  have G_r0 : mF T R r0 := ⟨J_r0, Y_r0, T_r0⟩
  obtain ⟨w_r0_1_3, k0_r0_1_3⟩ : ∃ x, I r0_1 3 = x := ⟨_, rfl⟩
  have gw_r0_1_3 := rg w_r0_1_3
  have ow_r0_1_3 := IM.c3 hI R_r0_1 k0_r0_1_3
  have hp0 := hp0 r0_1 R_r0_1
  try simp only [k0_r0_1_3] at hp0
  have hS := (IM.w hI R_r0_1).2.2.2.2.2.1 n1.toNatClampNeg (by have := ncz (x := n1) (by omega); simp only [k0_r0_1_3]; omega)
  have hS1 : 0 ≤ (I r0_1 (198 + 401 * n1.toNatClampNeg)).toInt ∧ (I r0_1 (198 + 401 * n1.toNatClampNeg)).toInt ≤ 199 := ⟨hS.1, hS.2.1⟩
  refine z_iconst C (z := 0) rfl rfl rfl (fun x1 ex1 => ?_)
  refine k_istore_n C (lw := [(2, .int x1), (0, .ref r0), (1, .int n1)]) rfl rfl (Nat.le_of_ble_eq_true rfl) rfl ?_
  refine z_iconst C (z := 0) rfl rfl rfl (fun x2 ex2 => ?_)
  have J3 : ∀ (nn4 : Nat) (I5 : IT) (L6 : LT) (x7 : Int32) (x10 : Int32), ((200 - x10.toInt).toNat = nn4) → (IM R r0 I5) → (CM A R r0 [] [4, 5] I L I5 L6) → (0 ≤ x7.toInt) → (x7.toInt ≤ 40) → (0 ≤ x10.toInt) → (x10.toInt ≤ 200) → (x7.toInt = Hgt (I r0_1) (198 + 401 * n1.toNatClampNeg) x10.toNatClampNeg) → (x10.toInt ≤ (I r0_1 (198 + 401 * n1.toNatClampNeg)).toInt) → V 4 [(0, .ref r0), (1, .int n1), (2, .int x7), (3, .int x10)] [] (T, N, I5, L6, R) 0 0 := by
    intro nn4
    induction nn4 using Nat.strongRecOn with
    | _ nn4 ihJ3 =>
      intro I5 L6 x7 x10 hmnn4 hI14 S13 b8 b9 b11 b12 ff4_0 ff4_1
      have gx7 := rg x7
      have gx10 := rg x10
      have e15 := CM.j S13 R_r0_1 (by decide) k0_r0_1_3
      refine k_iload_n C rfl rfl rfl ?_
      refine k_aload_n C rfl rfl rfl ?_
      refine k_iload_n C rfl rfl rfl ?_
      refine c_VI C (a_X12_stepsOf hI14 H_r0 (by omega) (by omega)) rfl rfl rfl rfl rfl ⟨_, rfl, rfl, T_r0, Nat.le_of_ble_eq_true rfl⟩ rfl rfl (Nat.le_of_ble_eq_true rfl) (Nat.le_of_ble_eq_true rfl) (Nat.le_of_ble_eq_true rfl) ?_
      rintro x16 _ _ ⟨p0x16, rfl, rfl⟩
      have p0x16 := p0x16 r0_1 R_r0_1
      have gx16 := rg x16
      try simp only [e15] at p0x16
      try have q0x16 := congrArg Int32.toInt p0x16
      rw [(CM.j0 (I := I) (L := L) (I' := I5) (L' := L6) (A := A) (W := []) (WA := [4, 5]) (CM.mono S13 (by decide) (by decide)) R_r0_1 (by decide))] at p0x16
      have h8 := fun (z : x10.toInt < (I r0_1 (198 + 401 * n1.toNatClampNeg)).toInt) => hS.2.2 x10.toNatClampNeg (by have := ncz (x := x10) (by omega); omega)
      refine b_icmp_ge C (t := 158) rfl rfl rfl (fun c17 => ?_) (fun c17 => ?_)
      · skip
        refine z_iconst C (z := 1) rfl rfl rfl (fun x18 ex18 => ?_)
        exact k_iret C rfl (Or.inr ⟨rfl, z01 (by omega) (by omega)⟩) (Nat.le_of_ble_eq_true rfl) (Nat.le_of_ble_eq_true rfl) ⟨_, _, _, rfl, rfl, by omega, by omega, hI14, (CM.mono S13 (by decide) (by decide))⟩
      refine k_aload_n C rfl rfl rfl ?_
      refine k_iload_n C rfl rfl rfl ?_
      refine k_iload_n C rfl rfl rfl ?_
      refine c_VI C (a_X12_stepOf hI14 H_r0 (by omega) (by omega) (by omega) (by omega)) rfl rfl rfl rfl rfl ⟨_, rfl, rfl, T_r0, Nat.le_of_ble_eq_true rfl⟩ rfl rfl (Nat.le_of_ble_eq_true rfl) (Nat.le_of_ble_eq_true rfl) (Nat.le_of_ble_eq_true rfl) ?_
      rintro x19 _ _ ⟨p0x19, rfl, rfl⟩
      have p0x19 := p0x19 r0_1 R_r0_1
      have gx19 := rg x19
      try simp only [e15] at p0x19
      try have q0x19 := congrArg Int32.toInt p0x19
      rw [(CM.j0 (I := I) (L := L) (I' := I5) (L' := L6) (A := A) (W := []) (WA := [4, 5]) (CM.mono S13 (by decide) (by decide)) R_r0_1 (by decide))] at p0x19
      have h7 := h8 (by omega)
      refine k_istore C (lw := [(4, .int x19), (0, .ref r0), (1, .int n1), (2, .int x7), (3, .int x10)]) rfl rfl (Nat.le_of_ble_eq_true rfl) rfl ?_
      refine k_iload C rfl rfl rfl ?_
      refine b_if_ne C (t := 39) rfl rfl rfl (fun c20 => ?_) (fun c20 => ?_)
      · skip
        refine k_iload C rfl rfl rfl ?_
        refine z_iconst C (z := 1) rfl rfl rfl (fun x21 ex21 => ?_)
        refine b_icmp_ne C (t := 74) rfl rfl rfl (fun c22 => ?_) (fun c22 => ?_)
        · skip
          refine k_iload C rfl rfl rfl ?_
          refine z_iconst C (z := 5) rfl rfl rfl (fun x23 ex23 => ?_)
          refine b_icmp_ne C (t := 128) rfl rfl rfl (fun c24 => ?_) (fun c24 => ?_)
          · skip
            refine z_iinc C (z := -1) (lw := fun x25 => [(2, .int x25), (4, .int x19), (0, .ref r0), (1, .int n1), (3, .int x10)]) rfl rfl rfl (Nat.le_of_ble_eq_true rfl) rfl ⟨by omega, by omega⟩ (fun _ => rfl) (fun x25 ex25 => ?_)
            show V 131 [(2, .int x25), (4, .int x19), (0, .ref r0), (1, .int n1), (3, .int x10)] _ _ _ _
            refine k_aload_n C rfl rfl rfl ?_
            refine k_iload C rfl rfl rfl ?_
            refine k_aload_n C rfl rfl rfl ?_
            refine k_iload_n C rfl rfl rfl ?_
            refine k_iload_n C rfl rfl rfl ?_
            refine c_VI C (a_X12_toldBy hI14 H_r0 (by omega) (by omega) (by omega) (by omega)) rfl rfl rfl rfl rfl ⟨_, rfl, rfl, T_r0, Nat.le_of_ble_eq_true rfl⟩ rfl rfl (Nat.le_of_ble_eq_true rfl) (Nat.le_of_ble_eq_true rfl) (Nat.le_of_ble_eq_true rfl) ?_
            rintro x26 _ _ ⟨p0x26, rfl, rfl⟩
            have p0x26 := p0x26 r0_1 R_r0_1
            have gx26 := rg x26
            try simp only [e15] at p0x26
            try have q0x26 := congrArg Int32.toInt p0x26
            rw [(CM.j0 (I := I) (L := L) (I' := I5) (L' := L6) (A := A) (W := []) (WA := [4, 5]) (CM.mono S13 (by decide) (by decide)) R_r0_1 (by decide))] at p0x26
            refine k_iload_n C rfl rfl rfl ?_
            refine z_iconst C (z := 1) rfl rfl rfl (fun x27 ex27 => ?_)
            refine z_isub C rfl rfl ⟨by omega, by omega⟩ (fun x28 ex28 => ?_)
            refine k_iload_n C rfl rfl rfl ?_
            refine c_VI C (a_X12_joins hI14 H_r0 (by omega) (by omega) (by omega) (by omega) (by omega) (by omega)) rfl rfl rfl rfl rfl ⟨_, rfl, rfl, T_r0, Nat.le_of_ble_eq_true rfl⟩ rfl rfl (Nat.le_of_ble_eq_true rfl) (Nat.le_of_ble_eq_true rfl) (Nat.le_of_ble_eq_true rfl) ?_
            rintro x29 I30 L31 ⟨o0x29, o1x29, p0x29, p1x29, hI30, S32⟩
            have p0x29 := p0x29 r0_4 R_r0_4
            have p1x29 := p1x29 r0_5 R_r0_5
            have e33 := CM.j S32 R_r0_1 (by decide) e15
            have gx29 := rg x29
            refine b_if_ne C (t := 152) rfl rfl rfl (fun c34 => ?_) (fun c34 => ?_)
            · skip
              refine z_iinc C (z := 1) (lw := fun x35 => [(3, .int x35), (2, .int x25), (4, .int x19), (0, .ref r0), (1, .int n1)]) rfl rfl rfl (Nat.le_of_ble_eq_true rfl) rfl ⟨by omega, by omega⟩ (fun _ => rfl) (fun x35 ex35 => ?_)
              show V 155 [(3, .int x35), (2, .int x25), (4, .int x19), (0, .ref r0), (1, .int n1)] _ _ _ _
              refine k_goto C (pc2 := 4) rfl rfl ?_
              refine k_sub S [(0, .ref r0), (1, .int n1), (2, .int x25), (3, .int x35)] (List.forall_mem_cons.mpr ⟨List.mem_of_getElem? (i := 3) rfl, List.forall_mem_cons.mpr ⟨List.mem_of_getElem? (i := 4) rfl, List.forall_mem_cons.mpr ⟨List.mem_of_getElem? (i := 1) rfl, List.forall_mem_cons.mpr ⟨List.mem_of_getElem? (i := 0) rfl, fun _ h => nomatch h⟩⟩⟩⟩) ?_
              exact ihJ3 _ (by omega) I30 L31 x25 x35 rfl hI30 (CM.cons S13 (CM.mono S32 (by decide) (by decide)) (by decide) (by decide)) (by omega) (by omega) (by omega) (by omega) (by (have h9 := HgtS (g := I r0_1) (b := 198 + 401 * n1.toNatClampNeg) (x := x10) (y := x35) (by omega) (by omega)); (have h8 := hS.2.2 x10.toNatClampNeg (by have := ncz (x := x10) (by omega); omega)); (split at h9 <;> first | omega | (split at h9 <;> omega))) (by omega)
            refine z_iconst C (z := 0) rfl rfl rfl (fun x36 ex36 => ?_)
            exact k_iret C rfl (Or.inr ⟨rfl, z01 (by omega) (by omega)⟩) (Nat.le_of_ble_eq_true rfl) (Nat.le_of_ble_eq_true rfl) ⟨_, _, _, rfl, rfl, by omega, by omega, hI30, (CM.cons S13 (CM.mono S32 (by decide) (by decide)) (by decide) (by decide))⟩
          refine z_iconst C (z := 0) rfl rfl rfl (fun x37 ex37 => ?_)
          have J38 : ∀ (nn39 : Nat) (I40 : IT) (L41 : LT) (x42 : Int32), ((41 - x42.toInt).toNat = nn39) → (IM R r0 I40) → (CM A R r0 [] [5] I5 L6 I40 L41) → (0 ≤ x42.toInt) → (x42.toInt ≤ 41) → V 83 [(0, .ref r0), (1, .int n1), (2, .int x7), (3, .int x10), (5, .int x42)] [] (T, N, I40, L41, R) 0 0 := by
            intro nn39
            induction nn39 using Nat.strongRecOn with
            | _ nn39 ihJ38 =>
              intro I40 L41 x42 hmnn39 hI46 S45 b43 b44
              have gx42 := rg x42
              have e47 := CM.j S45 R_r0_1 (by decide) e15
              refine k_iload C rfl rfl rfl ?_
              refine k_aload_n C rfl rfl rfl ?_
              refine g_R C rfl rfl rfl T_r0 rfl R_r0_4 ?_
              refine k_iload_n C rfl rfl rfl ?_
              refine z_iconst C (z := 1) rfl rfl rfl (fun x48 ex48 => ?_)
              refine z_isub C rfl rfl ⟨by omega, by omega⟩ (fun x49 ex49 => ?_)
              obtain ⟨T_r0_4, N_r0_4, A_r0_4⟩ := id H_r0_4
              refine z_aI C rfl rfl T_r0_4 N_r0_4 (by omega) (by omega) (fun x50 ex50 => ?_)
              have gx50 := rg x50
              have ox50 := IM.dgR hI46 R_r0_4 ex50
              refine b_icmp_gt C (t := 125) rfl rfl rfl (fun c51 => ?_) (fun c51 => ?_)
              · skip
                refine k_goto C (pc2 := 152) rfl rfl ?_
                refine z_iinc C (z := 1) (lw := fun x52 => [(3, .int x52), (0, .ref r0), (1, .int n1), (2, .int x7), (5, .int x42)]) rfl rfl rfl (Nat.le_of_ble_eq_true rfl) rfl ⟨by omega, by omega⟩ (fun _ => rfl) (fun x52 ex52 => ?_)
                show V 155 [(3, .int x52), (0, .ref r0), (1, .int n1), (2, .int x7), (5, .int x42)] _ _ _ _
                refine k_goto C (pc2 := 4) rfl rfl ?_
                refine k_sub S [(0, .ref r0), (1, .int n1), (2, .int x7), (3, .int x52)] (List.forall_mem_cons.mpr ⟨List.mem_of_getElem? (i := 1) rfl, List.forall_mem_cons.mpr ⟨List.mem_of_getElem? (i := 2) rfl, List.forall_mem_cons.mpr ⟨List.mem_of_getElem? (i := 3) rfl, List.forall_mem_cons.mpr ⟨List.mem_of_getElem? (i := 0) rfl, fun _ h => nomatch h⟩⟩⟩⟩) ?_
                exact ihJ3 _ (by omega) I40 L41 x7 x52 rfl hI46 (CM.cons S13 (CM.mono S45 (by decide) (by decide)) (by decide) (by decide)) (by omega) (by omega) (by omega) (by omega) (by (have h9 := HgtS (g := I r0_1) (b := 198 + 401 * n1.toNatClampNeg) (x := x10) (y := x52) (by omega) (by omega)); (have h8 := hS.2.2 x10.toNatClampNeg (by have := ncz (x := x10) (by omega); omega)); (split at h9 <;> first | omega | (split at h9 <;> omega))) (by omega)
              refine k_aload_n C rfl rfl rfl ?_
              refine k_iload_n C rfl rfl rfl ?_
              refine z_iconst C (z := 1) rfl rfl rfl (fun x53 ex53 => ?_)
              refine z_isub C rfl rfl ⟨by omega, by omega⟩ (fun x54 ex54 => ?_)
              refine k_iload C rfl rfl rfl ?_
              refine k_aload_n C rfl rfl rfl ?_
              refine z_iconst C (z := 0) rfl rfl rfl (fun x55 ex55 => ?_)
              refine k_aload_n C rfl rfl rfl ?_
              refine k_iload_n C rfl rfl rfl ?_
              refine z_iconst C (z := 1) rfl rfl rfl (fun x56 ex56 => ?_)
              refine z_isub C rfl rfl ⟨by omega, by omega⟩ (fun x57 ex57 => ?_)
              refine k_iload C rfl rfl rfl ?_
              refine c_VI C (a_X12_of hI46 H_r0 (by omega) (by omega) (by omega) (by omega)) rfl rfl rfl rfl rfl ⟨_, rfl, rfl, T_r0, Nat.le_of_ble_eq_true rfl⟩ rfl rfl (Nat.le_of_ble_eq_true rfl) (Nat.le_of_ble_eq_true rfl) (Nat.le_of_ble_eq_true rfl) ?_
              rintro x58 _ _ ⟨o0x58, o1x58, p0x58, rfl, rfl⟩
              have p0x58 := p0x58 r0_5 R_r0_5
              have gx58 := rg x58
              try simp only [e47, ex50] at p0x58
              try have q0x58 := congrArg Int32.toInt p0x58
              obtain ⟨x59, e60⟩ : ∃ x, I40 r0_1 0 = x := ⟨_, rfl⟩
              have gx59 := rg x59
              have ox59 := IM.pi hI46 R_r0_1 e60
              have q61 : x55.toNatClampNeg = 0 := nck (by omega)
              refine c_VI C (a_X12_less hI46 H_r0 (by omega) (by omega) (by omega) (by omega)) rfl rfl rfl rfl rfl ⟨_, rfl, rfl, T_r0, Nat.le_of_ble_eq_true rfl⟩ rfl rfl (Nat.le_of_ble_eq_true rfl) (Nat.le_of_ble_eq_true rfl) (Nat.le_of_ble_eq_true rfl) ?_
              rintro x62 _ _ ⟨o0x62, o1x62, p0x62, p1x62, p2x62, p3x62, rfl, rfl⟩
              have p0x62 := p0x62 r0_1 R_r0_1
              have p1x62 := p1x62 r0_1 R_r0_1
              have p2x62 := p2x62 r0_1 R_r0_1
              have p3x62 := p3x62 r0_1 R_r0_1
              have gx62 := rg x62
              try simp only [q61, e47, ex50, e60] at p0x62
              try have q0x62 := congrArg Int32.toInt p0x62
              try simp only [q61, e47, ex50, e60] at p1x62
              try have q1x62 := congrArg Int32.toInt p1x62
              try simp only [q61, e47, ex50, e60] at p2x62
              try have q2x62 := congrArg Int32.toInt p2x62
              try simp only [q61, e47, ex50, e60] at p3x62
              try have q3x62 := congrArg Int32.toInt p3x62
              refine c_VV C (a_X12_put hI46 H_r0 (by omega) (by omega) (by omega) (by omega) (by omega) (by omega)) rfl rfl rfl rfl rfl ⟨_, rfl, rfl, T_r0, Nat.le_of_ble_eq_true rfl⟩ rfl rfl (Nat.le_of_ble_eq_true rfl) (Nat.le_of_ble_eq_true rfl) (Nat.le_of_ble_eq_true rfl) ?_
              rintro I64 L65 ⟨p0v63, p1v63, hI64, S66⟩
              have p0v63 := p0v63 r0_5 R_r0_5
              have p1v63 := p1v63 r0_5 R_r0_5
              have e67 := CM.j S66 R_r0_1 (by decide) e47
              have e68 := CM.j S66 R_r0_4 (by decide) ex50
              have e69 := CM.j S66 R_r0_1 (by decide) e60
              try simp only [e47, ex50, e60] at p0v63
              try have q0v63 := congrArg Int32.toInt p0v63
              refine z_iinc C (z := 1) (lw := fun x70 => [(5, .int x70), (0, .ref r0), (1, .int n1), (2, .int x7), (3, .int x10)]) rfl rfl rfl (Nat.le_of_ble_eq_true rfl) rfl ⟨by omega, by omega⟩ (fun _ => rfl) (fun x70 ex70 => ?_)
              show V 122 [(5, .int x70), (0, .ref r0), (1, .int n1), (2, .int x7), (3, .int x10)] _ _ _ _
              refine k_goto C (pc2 := 83) rfl rfl ?_
              refine k_sub S [(0, .ref r0), (1, .int n1), (2, .int x7), (3, .int x10), (5, .int x70)] (List.forall_mem_cons.mpr ⟨List.mem_of_getElem? (i := 1) rfl, List.forall_mem_cons.mpr ⟨List.mem_of_getElem? (i := 2) rfl, List.forall_mem_cons.mpr ⟨List.mem_of_getElem? (i := 3) rfl, List.forall_mem_cons.mpr ⟨List.mem_of_getElem? (i := 4) rfl, List.forall_mem_cons.mpr ⟨List.mem_of_getElem? (i := 0) rfl, fun _ h => nomatch h⟩⟩⟩⟩⟩) ?_
              exact ihJ38 _ (by omega) I64 L65 x70 rfl hI64 (CM.cons S45 (CM.mono S66 (by decide) (by decide)) (by decide) (by decide)) (by omega) (by omega)
          refine k_istore C (lw := [(5, .int x37), (4, .int x19), (0, .ref r0), (1, .int n1), (2, .int x7), (3, .int x10)]) rfl rfl (Nat.le_of_ble_eq_true rfl) rfl ?_
          refine k_sub S [(0, .ref r0), (1, .int n1), (2, .int x7), (3, .int x10), (5, .int x37)] (List.forall_mem_cons.mpr ⟨List.mem_of_getElem? (i := 2) rfl, List.forall_mem_cons.mpr ⟨List.mem_of_getElem? (i := 3) rfl, List.forall_mem_cons.mpr ⟨List.mem_of_getElem? (i := 4) rfl, List.forall_mem_cons.mpr ⟨List.mem_of_getElem? (i := 5) rfl, List.forall_mem_cons.mpr ⟨List.mem_of_getElem? (i := 0) rfl, fun _ h => nomatch h⟩⟩⟩⟩⟩) ?_
          exact J38 _ I5 L6 x37 rfl hI14 CM.rf (by omega) (by omega)
        refine k_aload_n C rfl rfl rfl ?_
        refine k_iload_n C rfl rfl rfl ?_
        refine z_iconst C (z := 0) rfl rfl rfl (fun x71 ex71 => ?_)
        have q72 : x71.toNatClampNeg = 0 := nck (by omega)
        refine c_VV C (a_X12_clears hI14 H_r0 (by omega) (by omega) (by omega) (by omega)) rfl rfl rfl rfl rfl ⟨_, rfl, rfl, T_r0, Nat.le_of_ble_eq_true rfl⟩ rfl rfl (Nat.le_of_ble_eq_true rfl) (Nat.le_of_ble_eq_true rfl) (Nat.le_of_ble_eq_true rfl) ?_
        rintro I74 L75 ⟨p0v73, p1v73, p2v73, hI74, S76⟩
        have p0v73 := p0v73 r0_4 R_r0_4
        have p1v73 := p1v73 r0_4 R_r0_4
        have p2v73 := p2v73 r0_5 R_r0_5
        try simp only [q72] at p1v73
        try simp only [q72] at p2v73
        have e77 := CM.j S76 R_r0_1 (by decide) e15
        obtain ⟨x78, e79⟩ : ∃ x, I74 r0_4 x7.toNatClampNeg = x := ⟨_, rfl⟩
        have gx78 := rg x78
        have ox78 := IM.dgR hI74 R_r0_4 e79
        try simp only [q72, e15, e79] at p0v73
        try have q0v73 := congrArg Int32.toInt p0v73
        refine k_aload_n C rfl rfl rfl ?_
        refine k_iload_n C rfl rfl rfl ?_
        refine z_iconst C (z := 0) rfl rfl rfl (fun x80 ex80 => ?_)
        refine k_aload_n C rfl rfl rfl ?_
        refine k_aload_n C rfl rfl rfl ?_
        refine k_iload_n C rfl rfl rfl ?_
        refine k_iload_n C rfl rfl rfl ?_
        refine c_VI C (a_X12_toldBy hI74 H_r0 (by omega) (by omega) (by omega) (by omega)) rfl rfl rfl rfl rfl ⟨_, rfl, rfl, T_r0, Nat.le_of_ble_eq_true rfl⟩ rfl rfl (Nat.le_of_ble_eq_true rfl) (Nat.le_of_ble_eq_true rfl) (Nat.le_of_ble_eq_true rfl) ?_
        rintro x81 _ _ ⟨p0x81, rfl, rfl⟩
        have p0x81 := p0x81 r0_1 R_r0_1
        have gx81 := rg x81
        try simp only [e77, e79] at p0x81
        try have q0x81 := congrArg Int32.toInt p0x81
        rw [(CM.j0 (I := I) (L := L) (I' := I74) (L' := L75) (A := A) (W := []) (WA := [4, 5]) (CM.cons S13 (CM.mono S76 (by decide) (by decide)) (by decide) (by decide)) R_r0_1 (by decide))] at p0x81
        refine z_i2l C rfl rfl (fun lg82 elg82 => ?_)
        obtain ⟨x83, e84⟩ : ∃ x, I74 r0_1 0 = x := ⟨_, rfl⟩
        have gx83 := rg x83
        have ox83 := IM.pi hI74 R_r0_1 e84
        refine c_VI C (a_X12_mod hI74 H_r0) rfl rfl rfl rfl rfl ⟨_, rfl, rfl, T_r0, Nat.le_of_ble_eq_true rfl⟩ rfl rfl (Nat.le_of_ble_eq_true rfl) (Nat.le_of_ble_eq_true rfl) (Nat.le_of_ble_eq_true rfl) ?_
        rintro x85 _ _ ⟨o0x85, o1x85, p0x85, rfl, rfl⟩
        have p0x85 := p0x85 r0_1 R_r0_1
        have gx85 := rg x85
        try simp only [e77, e79, e84] at p0x85
        try have q0x85 := congrArg Int32.toInt p0x85
        have q86 : x80.toNatClampNeg = 0 := nck (by omega)
        refine c_VV C (a_X12_put hI74 H_r0 (by omega) (by omega) (by omega) (by omega) (by omega) (by omega)) rfl rfl rfl rfl rfl ⟨_, rfl, rfl, T_r0, Nat.le_of_ble_eq_true rfl⟩ rfl rfl (Nat.le_of_ble_eq_true rfl) (Nat.le_of_ble_eq_true rfl) (Nat.le_of_ble_eq_true rfl) ?_
        rintro I88 L89 ⟨p0v87, p1v87, hI88, S90⟩
        have p0v87 := p0v87 r0_5 R_r0_5
        have p1v87 := p1v87 r0_5 R_r0_5
        try simp only [q86] at p1v87
        have e91 := CM.j S90 R_r0_1 (by decide) e77
        have e92 := CM.j S90 R_r0_4 (by decide) e79
        have e93 := CM.j S90 R_r0_1 (by decide) e84
        try simp only [q86, e77, e79, e84] at p0v87
        try have q0v87 := congrArg Int32.toInt p0v87
        refine z_iinc C (z := 1) (lw := fun x94 => [(2, .int x94), (4, .int x19), (0, .ref r0), (1, .int n1), (3, .int x10)]) rfl rfl rfl (Nat.le_of_ble_eq_true rfl) rfl ⟨by omega, by omega⟩ (fun _ => rfl) (fun x94 ex94 => ?_)
        show V 71 [(2, .int x94), (4, .int x19), (0, .ref r0), (1, .int n1), (3, .int x10)] _ _ _ _
        refine k_goto C (pc2 := 152) rfl rfl ?_
        refine z_iinc C (z := 1) (lw := fun x95 => [(3, .int x95), (2, .int x94), (4, .int x19), (0, .ref r0), (1, .int n1)]) rfl rfl rfl (Nat.le_of_ble_eq_true rfl) rfl ⟨by omega, by omega⟩ (fun _ => rfl) (fun x95 ex95 => ?_)
        show V 155 [(3, .int x95), (2, .int x94), (4, .int x19), (0, .ref r0), (1, .int n1)] _ _ _ _
        refine k_goto C (pc2 := 4) rfl rfl ?_
        refine k_sub S [(0, .ref r0), (1, .int n1), (2, .int x94), (3, .int x95)] (List.forall_mem_cons.mpr ⟨List.mem_of_getElem? (i := 3) rfl, List.forall_mem_cons.mpr ⟨List.mem_of_getElem? (i := 4) rfl, List.forall_mem_cons.mpr ⟨List.mem_of_getElem? (i := 1) rfl, List.forall_mem_cons.mpr ⟨List.mem_of_getElem? (i := 0) rfl, fun _ h => nomatch h⟩⟩⟩⟩) ?_
        exact ihJ3 _ (by omega) I88 L89 x94 x95 rfl hI88 (CM.cons S13 (CM.cons S76 (CM.mono S90 (by decide) (by decide)) (by decide) (by decide)) (by decide) (by decide)) (by omega) (by omega) (by omega) (by omega) (by (have h9 := HgtS (g := I r0_1) (b := 198 + 401 * n1.toNatClampNeg) (x := x10) (y := x95) (by omega) (by omega)); (have h8 := hS.2.2 x10.toNatClampNeg (by have := ncz (x := x10) (by omega); omega)); (split at h9 <;> first | omega | (split at h9 <;> omega))) (by omega)
      refine k_aload_n C rfl rfl rfl ?_
      refine z_bipush C (z := 44) rfl rfl rfl (fun x96 ex96 => ?_)
      refine k_iload_n C rfl rfl rfl ?_
      obtain ⟨x97, e98⟩ : ∃ x, I5 r0_4 44 = x := ⟨_, rfl⟩
      have gx97 := rg x97
      have ox97 := IM.dgR hI14 R_r0_4 e98
      have q99 : x96.toNatClampNeg = 44 := nck (by omega)
      refine c_VV C (a_X12_copies hI14 H_r0 (by omega) (by omega) (by omega) (by omega)) rfl rfl rfl rfl rfl ⟨_, rfl, rfl, T_r0, Nat.le_of_ble_eq_true rfl⟩ rfl rfl (Nat.le_of_ble_eq_true rfl) (Nat.le_of_ble_eq_true rfl) (Nat.le_of_ble_eq_true rfl) ?_
      rintro I101 L102 ⟨p0v100, p1v100, p2v100, hI101, S103⟩
      have p0v100 := p0v100 r0_4 R_r0_4
      have p1v100 := p1v100 r0_4 R_r0_4
      have p2v100 := p2v100 r0_5 R_r0_5
      try simp only [q99] at p1v100
      try simp only [q99] at p2v100
      have e104 := CM.j S103 R_r0_1 (by decide) e15
      have e105 := (p1v100 44 (by first | decide | exact ncne (by omega) (by omega) (by omega) | exact nckn (by omega) (by omega) | exact (nckn (by omega) (by omega)).symm)).trans e98
      obtain ⟨x106, e107⟩ : ∃ x, I101 r0_4 x7.toNatClampNeg = x := ⟨_, rfl⟩
      have gx106 := rg x106
      have ox106 := IM.dgR hI101 R_r0_4 e107
      try simp only [q99, e15, e98, e107] at p0v100
      try have q0v100 := congrArg Int32.toInt p0v100
      refine z_iinc C (z := 1) (lw := fun x108 => [(2, .int x108), (4, .int x19), (0, .ref r0), (1, .int n1), (3, .int x10)]) rfl rfl rfl (Nat.le_of_ble_eq_true rfl) rfl ⟨by omega, by omega⟩ (fun _ => rfl) (fun x108 ex108 => ?_)
      show V 36 [(2, .int x108), (4, .int x19), (0, .ref r0), (1, .int n1), (3, .int x10)] _ _ _ _
      refine k_goto C (pc2 := 152) rfl rfl ?_
      refine z_iinc C (z := 1) (lw := fun x109 => [(3, .int x109), (2, .int x108), (4, .int x19), (0, .ref r0), (1, .int n1)]) rfl rfl rfl (Nat.le_of_ble_eq_true rfl) rfl ⟨by omega, by omega⟩ (fun _ => rfl) (fun x109 ex109 => ?_)
      show V 155 [(3, .int x109), (2, .int x108), (4, .int x19), (0, .ref r0), (1, .int n1)] _ _ _ _
      refine k_goto C (pc2 := 4) rfl rfl ?_
      refine k_sub S [(0, .ref r0), (1, .int n1), (2, .int x108), (3, .int x109)] (List.forall_mem_cons.mpr ⟨List.mem_of_getElem? (i := 3) rfl, List.forall_mem_cons.mpr ⟨List.mem_of_getElem? (i := 4) rfl, List.forall_mem_cons.mpr ⟨List.mem_of_getElem? (i := 1) rfl, List.forall_mem_cons.mpr ⟨List.mem_of_getElem? (i := 0) rfl, fun _ h => nomatch h⟩⟩⟩⟩) ?_
      exact ihJ3 _ (by omega) I101 L102 x108 x109 rfl hI101 (CM.cons S13 (CM.mono S103 (by decide) (by decide)) (by decide) (by decide)) (by omega) (by omega) (by omega) (by omega) (by (have h9 := HgtS (g := I r0_1) (b := 198 + 401 * n1.toNatClampNeg) (x := x10) (y := x109) (by omega) (by omega)); (have h8 := hS.2.2 x10.toNatClampNeg (by have := ncz (x := x10) (by omega); omega)); (split at h9 <;> first | omega | (split at h9 <;> omega))) (by omega)
  refine k_istore_n C (lw := [(3, .int x2), (2, .int x1), (0, .ref r0), (1, .int n1)]) rfl rfl (Nat.le_of_ble_eq_true rfl) rfl ?_
  refine k_sub S [(0, .ref r0), (1, .int n1), (2, .int x1), (3, .int x2)] (List.forall_mem_cons.mpr ⟨List.mem_of_getElem? (i := 2) rfl, List.forall_mem_cons.mpr ⟨List.mem_of_getElem? (i := 3) rfl, List.forall_mem_cons.mpr ⟨List.mem_of_getElem? (i := 1) rfl, List.forall_mem_cons.mpr ⟨List.mem_of_getElem? (i := 0) rfl, fun _ h => nomatch h⟩⟩⟩⟩) ?_
  exact J3 _ I L x1 x2 rfl hI CM.rf (by omega) (by omega) (by omega) (by omega) (by rw [nck (x := x2) (n := 0) (by omega)]; show _ = (0 : Int); omega) (by omega)

theorem a_X12_rankOf {d : Nat} {T N : Nat → Nat} {I : IT} {L : LT} {R : RT} {A : Nat → Prop} {r0 : Nat} {n1 n2 : Int32} (hI : IM R r0 I) (H_r0 : (h_MD T N R A) r0) (b0_n1 : 0 ≤ n1.toInt) (b1_n1 : n1.toInt ≤ 7) (b0_n2 : 0 ≤ n2.toInt) (b1_n2 : n2.toInt ≤ 1) (hp0 : ∀ a1, R r0 1 = some a1 → n1.toInt < (I a1 3).toInt) : Ex (d + 2) 254 [.ref r0, .int n1, .int n2] (T, N, I, L, R) 0 0 (pI T N R (fun x9 I9 L9 => (IM R r0 I9 ∧ CM A R r0 [] [20] I L I9 L9))) := by
  refine ⟨_, rfl, Nat.le_of_ble_eq_true rfl, fun V C S => ?_⟩
  show V 0 [(0, .ref r0), (1, .int n1), (2, .int n2)] [] (T, N, I, L, R) 0 0
  have gn1 := rg n1
  have gn2 := rg n2
  obtain ⟨T_r0, A_r0, ⟨r0_1, R_r0_1, H_r0_1⟩, ⟨r0_2, R_r0_2, H_r0_2⟩, ⟨r0_4, R_r0_4, H_r0_4⟩, ⟨r0_5, R_r0_5, H_r0_5⟩, ⟨r0_10, R_r0_10, H_r0_10⟩, ⟨r0_18, R_r0_18, H_r0_18⟩, ⟨r0_20, R_r0_20, H_r0_20⟩, ⟨r0_21, R_r0_21, H_r0_21⟩, ⟨r0_22, R_r0_22, H_r0_22⟩, ⟨r0_23, R_r0_23, H_r0_23⟩, ⟨r0_25, R_r0_25, H_r0_25⟩, ⟨r0_26, R_r0_26, H_r0_26⟩, ⟨r0_27, R_r0_27, H_r0_27⟩, ⟨r0_28, R_r0_28, H_r0_28⟩, ⟨r0_34, R_r0_34, H_r0_34⟩, J_r0, Y_r0⟩ := id H_r0
  have G_r0 : mF T R r0 := ⟨J_r0, Y_r0, T_r0⟩
  obtain ⟨w_r0_1_3, k0_r0_1_3⟩ : ∃ x, I r0_1 3 = x := ⟨_, rfl⟩
  have gw_r0_1_3 := rg w_r0_1_3
  have ow_r0_1_3 := IM.c3 hI R_r0_1 k0_r0_1_3
  have hp0 := hp0 r0_1 R_r0_1
  try simp only [k0_r0_1_3] at hp0
  have hS := (IM.w hI R_r0_1).2.2.2.2.2.1 n1.toNatClampNeg (by have := ncz (x := n1) (by omega); simp only [k0_r0_1_3]; omega)
  have hS1 : 0 ≤ (I r0_1 (198 + 401 * n1.toNatClampNeg)).toInt ∧ (I r0_1 (198 + 401 * n1.toNatClampNeg)).toInt ≤ 199 := ⟨hS.1, hS.2.1⟩
  refine z_iconst C (z := 0) rfl rfl rfl (fun x1 ex1 => ?_)
  refine k_istore_n C (lw := [(3, .int x1), (0, .ref r0), (1, .int n1), (2, .int n2)]) rfl rfl (Nat.le_of_ble_eq_true rfl) rfl ?_
  refine z_iconst C (z := 0) rfl rfl rfl (fun x2 ex2 => ?_)
  have J3 : ∀ (nn4 : Nat) (I5 : IT) (L6 : LT) (x7 : Int32) (x10 : Int32), ((200 - x10.toInt).toNat = nn4) → (IM R r0 I5) → (CM A R r0 [] [20] I L I5 L6) → (0 ≤ x7.toInt) → (x7.toInt ≤ 40) → (0 ≤ x10.toInt) → (x10.toInt ≤ 200) → (x7.toInt = Hgt (I r0_1) (198 + 401 * n1.toNatClampNeg) x10.toNatClampNeg) → (x10.toInt ≤ (I r0_1 (198 + 401 * n1.toNatClampNeg)).toInt) → V 5 [(0, .ref r0), (1, .int n1), (2, .int n2), (3, .int x7), (4, .int x10)] [] (T, N, I5, L6, R) 0 0 := by
    intro nn4
    induction nn4 using Nat.strongRecOn with
    | _ nn4 ihJ3 =>
      intro I5 L6 x7 x10 hmnn4 hI14 S13 b8 b9 b11 b12 ff5_0 ff5_1
      have gx7 := rg x7
      have gx10 := rg x10
      have e15 := CM.j S13 R_r0_1 (by decide) k0_r0_1_3
      refine k_iload C rfl rfl rfl ?_
      refine k_aload_n C rfl rfl rfl ?_
      refine k_iload_n C rfl rfl rfl ?_
      refine c_VI C (a_X12_stepsOf hI14 H_r0 (by omega) (by omega)) rfl rfl rfl rfl rfl ⟨_, rfl, rfl, T_r0, Nat.le_of_ble_eq_true rfl⟩ rfl rfl (Nat.le_of_ble_eq_true rfl) (Nat.le_of_ble_eq_true rfl) (Nat.le_of_ble_eq_true rfl) ?_
      rintro x16 _ _ ⟨p0x16, rfl, rfl⟩
      have p0x16 := p0x16 r0_1 R_r0_1
      have gx16 := rg x16
      try simp only [e15] at p0x16
      try have q0x16 := congrArg Int32.toInt p0x16
      rw [(CM.j0 (I := I) (L := L) (I' := I5) (L' := L6) (A := A) (W := []) (WA := [20]) (CM.mono S13 (by decide) (by decide)) R_r0_1 (by decide))] at p0x16
      have h8 := fun (z : x10.toInt < (I r0_1 (198 + 401 * n1.toNatClampNeg)).toInt) => hS.2.2 x10.toNatClampNeg (by have := ncz (x := x10) (by omega); omega)
      refine b_icmp_ge C (t := 174) rfl rfl rfl (fun c17 => ?_) (fun c17 => ?_)
      · skip
        refine k_aload_n C rfl rfl rfl ?_
        refine g_R C rfl rfl rfl T_r0 rfl R_r0_20 ?_
        refine z_iconst C (z := 0) rfl rfl rfl (fun x18 ex18 => ?_)
        obtain ⟨T_r0_20, N_r0_20, A_r0_20⟩ := id H_r0_20
        refine z_aI C rfl rfl T_r0_20 N_r0_20 (by omega) (by omega) (fun x19 ex19 => ?_)
        have gx19 := rg x19
        have nx19 : I5 r0_20 0 = x19 := (congrArg (I5 r0_20) (nck (n := 0) (by omega))).symm.trans ex19
        exact k_iret C rfl (Or.inl rfl) (Nat.le_of_ble_eq_true rfl) (Nat.le_of_ble_eq_true rfl) ⟨_, _, _, rfl, rfl, hI14, (CM.mono S13 (by decide) (by decide))⟩
      refine k_aload_n C rfl rfl rfl ?_
      refine k_iload_n C rfl rfl rfl ?_
      refine k_iload C rfl rfl rfl ?_
      refine c_VI C (a_X12_stepOf hI14 H_r0 (by omega) (by omega) (by omega) (by omega)) rfl rfl rfl rfl rfl ⟨_, rfl, rfl, T_r0, Nat.le_of_ble_eq_true rfl⟩ rfl rfl (Nat.le_of_ble_eq_true rfl) (Nat.le_of_ble_eq_true rfl) (Nat.le_of_ble_eq_true rfl) ?_
      rintro x20 _ _ ⟨p0x20, rfl, rfl⟩
      have p0x20 := p0x20 r0_1 R_r0_1
      have gx20 := rg x20
      try simp only [e15] at p0x20
      try have q0x20 := congrArg Int32.toInt p0x20
      rw [(CM.j0 (I := I) (L := L) (I' := I5) (L' := L6) (A := A) (W := []) (WA := [20]) (CM.mono S13 (by decide) (by decide)) R_r0_1 (by decide))] at p0x20
      have h7 := h8 (by omega)
      refine k_istore C (lw := [(5, .int x20), (0, .ref r0), (1, .int n1), (2, .int n2), (3, .int x7), (4, .int x10)]) rfl rfl (Nat.le_of_ble_eq_true rfl) rfl ?_
      refine k_iload C rfl rfl rfl ?_
      refine z_iconst C (z := 1) rfl rfl rfl (fun x21 ex21 => ?_)
      refine b_icmp_gt C (t := 56) rfl rfl rfl (fun c22 => ?_) (fun c22 => ?_)
      · skip
        refine k_iload C rfl rfl rfl ?_
        refine z_iconst C (z := 5) rfl rfl rfl (fun x23 ex23 => ?_)
        refine b_icmp_eq C (t := 168) rfl rfl rfl (fun c24 => ?_) (fun c24 => ?_)
        · skip
          refine z_iinc C (z := 1) (lw := fun x25 => [(4, .int x25), (5, .int x20), (0, .ref r0), (1, .int n1), (2, .int n2), (3, .int x7)]) rfl rfl rfl (Nat.le_of_ble_eq_true rfl) rfl ⟨by omega, by omega⟩ (fun _ => rfl) (fun x25 ex25 => ?_)
          show V 171 [(4, .int x25), (5, .int x20), (0, .ref r0), (1, .int n1), (2, .int n2), (3, .int x7)] _ _ _ _
          refine k_goto C (pc2 := 5) rfl rfl ?_
          refine k_sub S [(0, .ref r0), (1, .int n1), (2, .int n2), (3, .int x7), (4, .int x25)] (List.forall_mem_cons.mpr ⟨List.mem_of_getElem? (i := 2) rfl, List.forall_mem_cons.mpr ⟨List.mem_of_getElem? (i := 3) rfl, List.forall_mem_cons.mpr ⟨List.mem_of_getElem? (i := 4) rfl, List.forall_mem_cons.mpr ⟨List.mem_of_getElem? (i := 5) rfl, List.forall_mem_cons.mpr ⟨List.mem_of_getElem? (i := 0) rfl, fun _ h => nomatch h⟩⟩⟩⟩⟩) ?_
          exact ihJ3 _ (by omega) I5 L6 x7 x25 rfl hI14 (CM.mono S13 (by decide) (by decide)) (by omega) (by omega) (by omega) (by omega) (by (have h9 := HgtS (g := I r0_1) (b := 198 + 401 * n1.toNatClampNeg) (x := x10) (y := x25) (by omega) (by omega)); (have h8 := hS.2.2 x10.toNatClampNeg (by have := ncz (x := x10) (by omega); omega)); (split at h9 <;> first | omega | (split at h9 <;> omega))) (by omega)
        refine z_iinc C (z := -1) (lw := fun x26 => [(3, .int x26), (5, .int x20), (0, .ref r0), (1, .int n1), (2, .int n2), (4, .int x10)]) rfl rfl rfl (Nat.le_of_ble_eq_true rfl) rfl ⟨by omega, by omega⟩ (fun _ => rfl) (fun x26 ex26 => ?_)
        show V 65 [(3, .int x26), (5, .int x20), (0, .ref r0), (1, .int n1), (2, .int n2), (4, .int x10)] _ _ _ _
        refine k_aload_n C rfl rfl rfl ?_
        refine g_R C rfl rfl rfl T_r0 rfl R_r0_20 ?_
        refine k_iload_n C rfl rfl rfl ?_
        refine z_iconst C (z := 1) rfl rfl rfl (fun x27 ex27 => ?_)
        refine z_isub C rfl rfl ⟨by omega, by omega⟩ (fun x28 ex28 => ?_)
        obtain ⟨T_r0_20, N_r0_20, A_r0_20⟩ := id H_r0_20
        refine z_aI C rfl rfl T_r0_20 N_r0_20 (by omega) (by omega) (fun x29 ex29 => ?_)
        have gx29 := rg x29
        refine k_istore C (lw := [(6, .int x29), (3, .int x26), (5, .int x20), (0, .ref r0), (1, .int n1), (2, .int n2), (4, .int x10)]) rfl rfl (Nat.le_of_ble_eq_true rfl) rfl ?_
        refine k_aload_n C rfl rfl rfl ?_
        refine g_R C rfl rfl rfl T_r0 rfl R_r0_20 ?_
        refine k_iload_n C rfl rfl rfl ?_
        refine z_aI C rfl rfl T_r0_20 N_r0_20 (by omega) (by omega) (fun x30 ex30 => ?_)
        have gx30 := rg x30
        refine k_istore C (lw := [(7, .int x30), (6, .int x29), (3, .int x26), (5, .int x20), (0, .ref r0), (1, .int n1), (2, .int n2), (4, .int x10)]) rfl rfl (Nat.le_of_ble_eq_true rfl) rfl ?_
        refine k_iload C rfl rfl rfl ?_
        refine b_if_lt C (t := 106) rfl rfl rfl (fun c31 => ?_) (fun c31 => ?_)
        · skip
          refine z_iconst C (z := 1) rfl rfl rfl (fun x32 ex32 => ?_)
          refine k_goto C (pc2 := 111) rfl rfl ?_
          refine k_istore C (lw := [(8, .int x32), (7, .int x30), (6, .int x29), (3, .int x26), (5, .int x20), (0, .ref r0), (1, .int n1), (2, .int n2), (4, .int x10)]) rfl rfl (Nat.le_of_ble_eq_true rfl) rfl ?_
          refine k_aload_n C rfl rfl rfl ?_
          refine g_R C rfl rfl rfl T_r0 rfl R_r0_20 ?_
          refine k_iload_n C rfl rfl rfl ?_
          refine z_iconst C (z := 1) rfl rfl rfl (fun x33 ex33 => ?_)
          refine z_isub C rfl rfl ⟨by omega, by omega⟩ (fun x34 ex34 => ?_)
          refine k_iload C rfl rfl rfl ?_
          refine b_if_eq C (t := 129) rfl rfl rfl (fun c35 => by exfalso; omega) (fun c35 => ?_)
          refine z_iconst C (z := -1) rfl rfl rfl (fun x36 ex36 => ?_)
          refine k_goto C (pc2 := 167) rfl rfl ?_
          refine z_sI C rfl rfl T_r0_20 N_r0_20 (by omega) (by omega) (fun I37 uI37 => ?_)
          have hI37 : IM R r0 I37 := IM.arr hI14 G_r0 R_r0_20 ⟨(fun h => absurd h (by decide)), (fun h => absurd h (by decide)), (fun h => absurd h (by decide))⟩ (fun h => absurd h (by decide)) (by decide) uI37
          have S38 : CM A R r0 [] [20] I5 L6 I37 L6 := CM.a G_r0 R_r0_20 A_r0_20 uI37
          have e39 := u2_n uI37 (mF.nq G_r0 R_r0_1 R_r0_20 (by decide)) e15
          have e42 := u2_e uI37
          refine z_iinc C (z := 1) (lw := fun x43 => [(4, .int x43), (8, .int x32), (7, .int x30), (6, .int x29), (3, .int x26), (5, .int x20), (0, .ref r0), (1, .int n1), (2, .int n2)]) rfl rfl rfl (Nat.le_of_ble_eq_true rfl) rfl ⟨by omega, by omega⟩ (fun _ => rfl) (fun x43 ex43 => ?_)
          show V 171 [(4, .int x43), (8, .int x32), (7, .int x30), (6, .int x29), (3, .int x26), (5, .int x20), (0, .ref r0), (1, .int n1), (2, .int n2)] _ _ _ _
          refine k_goto C (pc2 := 5) rfl rfl ?_
          refine k_sub S [(0, .ref r0), (1, .int n1), (2, .int n2), (3, .int x26), (4, .int x43)] (List.forall_mem_cons.mpr ⟨List.mem_of_getElem? (i := 6) rfl, List.forall_mem_cons.mpr ⟨List.mem_of_getElem? (i := 7) rfl, List.forall_mem_cons.mpr ⟨List.mem_of_getElem? (i := 8) rfl, List.forall_mem_cons.mpr ⟨List.mem_of_getElem? (i := 4) rfl, List.forall_mem_cons.mpr ⟨List.mem_of_getElem? (i := 0) rfl, fun _ h => nomatch h⟩⟩⟩⟩⟩) ?_
          exact ihJ3 _ (by omega) I37 L6 x26 x43 rfl hI37 (CM.cons S13 (CM.mono S38 (by decide) (by decide)) (by decide) (by decide)) (by omega) (by omega) (by omega) (by omega) (by (have h9 := HgtS (g := I r0_1) (b := 198 + 401 * n1.toNatClampNeg) (x := x10) (y := x43) (by omega) (by omega)); (have h8 := hS.2.2 x10.toNatClampNeg (by have := ncz (x := x10) (by omega); omega)); (split at h9 <;> first | omega | (split at h9 <;> omega))) (by omega)
        refine k_iload C rfl rfl rfl ?_
        refine b_if_lt C (t := 106) rfl rfl rfl (fun c44 => ?_) (fun c44 => ?_)
        · skip
          refine z_iconst C (z := 1) rfl rfl rfl (fun x45 ex45 => ?_)
          refine k_goto C (pc2 := 111) rfl rfl ?_
          refine k_istore C (lw := [(8, .int x45), (7, .int x30), (6, .int x29), (3, .int x26), (5, .int x20), (0, .ref r0), (1, .int n1), (2, .int n2), (4, .int x10)]) rfl rfl (Nat.le_of_ble_eq_true rfl) rfl ?_
          refine k_aload_n C rfl rfl rfl ?_
          refine g_R C rfl rfl rfl T_r0 rfl R_r0_20 ?_
          refine k_iload_n C rfl rfl rfl ?_
          refine z_iconst C (z := 1) rfl rfl rfl (fun x46 ex46 => ?_)
          refine z_isub C rfl rfl ⟨by omega, by omega⟩ (fun x47 ex47 => ?_)
          refine k_iload C rfl rfl rfl ?_
          refine b_if_eq C (t := 129) rfl rfl rfl (fun c48 => by exfalso; omega) (fun c48 => ?_)
          refine z_iconst C (z := -1) rfl rfl rfl (fun x49 ex49 => ?_)
          refine k_goto C (pc2 := 167) rfl rfl ?_
          refine z_sI C rfl rfl T_r0_20 N_r0_20 (by omega) (by omega) (fun I50 uI50 => ?_)
          have hI50 : IM R r0 I50 := IM.arr hI14 G_r0 R_r0_20 ⟨(fun h => absurd h (by decide)), (fun h => absurd h (by decide)), (fun h => absurd h (by decide))⟩ (fun h => absurd h (by decide)) (by decide) uI50
          have S51 : CM A R r0 [] [20] I5 L6 I50 L6 := CM.a G_r0 R_r0_20 A_r0_20 uI50
          have e52 := u2_n uI50 (mF.nq G_r0 R_r0_1 R_r0_20 (by decide)) e15
          have e55 := u2_e uI50
          refine z_iinc C (z := 1) (lw := fun x56 => [(4, .int x56), (8, .int x45), (7, .int x30), (6, .int x29), (3, .int x26), (5, .int x20), (0, .ref r0), (1, .int n1), (2, .int n2)]) rfl rfl rfl (Nat.le_of_ble_eq_true rfl) rfl ⟨by omega, by omega⟩ (fun _ => rfl) (fun x56 ex56 => ?_)
          show V 171 [(4, .int x56), (8, .int x45), (7, .int x30), (6, .int x29), (3, .int x26), (5, .int x20), (0, .ref r0), (1, .int n1), (2, .int n2)] _ _ _ _
          refine k_goto C (pc2 := 5) rfl rfl ?_
          refine k_sub S [(0, .ref r0), (1, .int n1), (2, .int n2), (3, .int x26), (4, .int x56)] (List.forall_mem_cons.mpr ⟨List.mem_of_getElem? (i := 6) rfl, List.forall_mem_cons.mpr ⟨List.mem_of_getElem? (i := 7) rfl, List.forall_mem_cons.mpr ⟨List.mem_of_getElem? (i := 8) rfl, List.forall_mem_cons.mpr ⟨List.mem_of_getElem? (i := 4) rfl, List.forall_mem_cons.mpr ⟨List.mem_of_getElem? (i := 0) rfl, fun _ h => nomatch h⟩⟩⟩⟩⟩) ?_
          exact ihJ3 _ (by omega) I50 L6 x26 x56 rfl hI50 (CM.cons S13 (CM.mono S51 (by decide) (by decide)) (by decide) (by decide)) (by omega) (by omega) (by omega) (by omega) (by (have h9 := HgtS (g := I r0_1) (b := 198 + 401 * n1.toNatClampNeg) (x := x10) (y := x56) (by omega) (by omega)); (have h8 := hS.2.2 x10.toNatClampNeg (by have := ncz (x := x10) (by omega); omega)); (split at h9 <;> first | omega | (split at h9 <;> omega))) (by omega)
        refine k_iload C rfl rfl rfl ?_
        refine z_iconst C (z := 2) rfl rfl rfl (fun x57 ex57 => ?_)
        refine b_icmp_ne C (t := 110) rfl rfl rfl (fun c58 => ?_) (fun c58 => ?_)
        · skip
          refine z_iconst C (z := 0) rfl rfl rfl (fun x59 ex59 => ?_)
          refine k_istore C (lw := [(8, .int x59), (7, .int x30), (6, .int x29), (3, .int x26), (5, .int x20), (0, .ref r0), (1, .int n1), (2, .int n2), (4, .int x10)]) rfl rfl (Nat.le_of_ble_eq_true rfl) rfl ?_
          refine k_aload_n C rfl rfl rfl ?_
          refine g_R C rfl rfl rfl T_r0 rfl R_r0_20 ?_
          refine k_iload_n C rfl rfl rfl ?_
          refine z_iconst C (z := 1) rfl rfl rfl (fun x60 ex60 => ?_)
          refine z_isub C rfl rfl ⟨by omega, by omega⟩ (fun x61 ex61 => ?_)
          refine k_iload C rfl rfl rfl ?_
          refine b_if_eq C (t := 129) rfl rfl rfl (fun c62 => ?_) (fun c62 => by exfalso; omega)
          refine k_iload C rfl rfl rfl ?_
          refine z_iconst C (z := 2) rfl rfl rfl (fun x63 ex63 => ?_)
          refine b_icmp_ne C (t := 140) rfl rfl rfl (fun c64 => ?_) (fun c64 => by exfalso; omega)
          refine k_iload C rfl rfl rfl ?_
          refine k_iload C rfl rfl rfl ?_
          refine zt_iadd C rfl rfl (fun x65 => ?_)
          have gx65 := rg x65
          refine k_iload_n C rfl rfl rfl ?_
          refine b_if_eq C (t := 165) rfl rfl rfl (fun c66 => ?_) (fun c66 => ?_)
          · skip
            refine z_iconst C (z := 0) rfl rfl rfl (fun x67 ex67 => ?_)
            refine z_iadd C rfl rfl ⟨by omega, by omega⟩ (fun x68 ex68 => ?_)
            refine z_sI C rfl rfl T_r0_20 N_r0_20 (by omega) (by omega) (fun I69 uI69 => ?_)
            have hI69 : IM R r0 I69 := IM.arr hI14 G_r0 R_r0_20 ⟨(fun h => absurd h (by decide)), (fun h => absurd h (by decide)), (fun h => absurd h (by decide))⟩ (fun h => absurd h (by decide)) (by decide) uI69
            have S70 : CM A R r0 [] [20] I5 L6 I69 L6 := CM.a G_r0 R_r0_20 A_r0_20 uI69
            have e71 := u2_n uI69 (mF.nq G_r0 R_r0_1 R_r0_20 (by decide)) e15
            have e74 := u2_e uI69
            refine z_iinc C (z := 1) (lw := fun x75 => [(4, .int x75), (8, .int x59), (7, .int x30), (6, .int x29), (3, .int x26), (5, .int x20), (0, .ref r0), (1, .int n1), (2, .int n2)]) rfl rfl rfl (Nat.le_of_ble_eq_true rfl) rfl ⟨by omega, by omega⟩ (fun _ => rfl) (fun x75 ex75 => ?_)
            show V 171 [(4, .int x75), (8, .int x59), (7, .int x30), (6, .int x29), (3, .int x26), (5, .int x20), (0, .ref r0), (1, .int n1), (2, .int n2)] _ _ _ _
            refine k_goto C (pc2 := 5) rfl rfl ?_
            refine k_sub S [(0, .ref r0), (1, .int n1), (2, .int n2), (3, .int x26), (4, .int x75)] (List.forall_mem_cons.mpr ⟨List.mem_of_getElem? (i := 6) rfl, List.forall_mem_cons.mpr ⟨List.mem_of_getElem? (i := 7) rfl, List.forall_mem_cons.mpr ⟨List.mem_of_getElem? (i := 8) rfl, List.forall_mem_cons.mpr ⟨List.mem_of_getElem? (i := 4) rfl, List.forall_mem_cons.mpr ⟨List.mem_of_getElem? (i := 0) rfl, fun _ h => nomatch h⟩⟩⟩⟩⟩) ?_
            exact ihJ3 _ (by omega) I69 L6 x26 x75 rfl hI69 (CM.cons S13 (CM.mono S70 (by decide) (by decide)) (by decide) (by decide)) (by omega) (by omega) (by omega) (by omega) (by (have h9 := HgtS (g := I r0_1) (b := 198 + 401 * n1.toNatClampNeg) (x := x10) (y := x75) (by omega) (by omega)); (have h8 := hS.2.2 x10.toNatClampNeg (by have := ncz (x := x10) (by omega); omega)); (split at h9 <;> first | omega | (split at h9 <;> omega))) (by omega)
          refine k_iload C rfl rfl rfl ?_
          refine z_iconst C (z := 4) rfl rfl rfl (fun x76 ex76 => ?_)
          refine b_icmp_ne C (t := 165) rfl rfl rfl (fun c77 => ?_) (fun c77 => ?_)
          · skip
            refine z_iconst C (z := 0) rfl rfl rfl (fun x78 ex78 => ?_)
            refine z_iadd C rfl rfl ⟨by omega, by omega⟩ (fun x79 ex79 => ?_)
            refine z_sI C rfl rfl T_r0_20 N_r0_20 (by omega) (by omega) (fun I80 uI80 => ?_)
            have hI80 : IM R r0 I80 := IM.arr hI14 G_r0 R_r0_20 ⟨(fun h => absurd h (by decide)), (fun h => absurd h (by decide)), (fun h => absurd h (by decide))⟩ (fun h => absurd h (by decide)) (by decide) uI80
            have S81 : CM A R r0 [] [20] I5 L6 I80 L6 := CM.a G_r0 R_r0_20 A_r0_20 uI80
            have e82 := u2_n uI80 (mF.nq G_r0 R_r0_1 R_r0_20 (by decide)) e15
            have e85 := u2_e uI80
            refine z_iinc C (z := 1) (lw := fun x86 => [(4, .int x86), (8, .int x59), (7, .int x30), (6, .int x29), (3, .int x26), (5, .int x20), (0, .ref r0), (1, .int n1), (2, .int n2)]) rfl rfl rfl (Nat.le_of_ble_eq_true rfl) rfl ⟨by omega, by omega⟩ (fun _ => rfl) (fun x86 ex86 => ?_)
            show V 171 [(4, .int x86), (8, .int x59), (7, .int x30), (6, .int x29), (3, .int x26), (5, .int x20), (0, .ref r0), (1, .int n1), (2, .int n2)] _ _ _ _
            refine k_goto C (pc2 := 5) rfl rfl ?_
            refine k_sub S [(0, .ref r0), (1, .int n1), (2, .int n2), (3, .int x26), (4, .int x86)] (List.forall_mem_cons.mpr ⟨List.mem_of_getElem? (i := 6) rfl, List.forall_mem_cons.mpr ⟨List.mem_of_getElem? (i := 7) rfl, List.forall_mem_cons.mpr ⟨List.mem_of_getElem? (i := 8) rfl, List.forall_mem_cons.mpr ⟨List.mem_of_getElem? (i := 4) rfl, List.forall_mem_cons.mpr ⟨List.mem_of_getElem? (i := 0) rfl, fun _ h => nomatch h⟩⟩⟩⟩⟩) ?_
            exact ihJ3 _ (by omega) I80 L6 x26 x86 rfl hI80 (CM.cons S13 (CM.mono S81 (by decide) (by decide)) (by decide) (by decide)) (by omega) (by omega) (by omega) (by omega) (by (have h9 := HgtS (g := I r0_1) (b := 198 + 401 * n1.toNatClampNeg) (x := x10) (y := x86) (by omega) (by omega)); (have h8 := hS.2.2 x10.toNatClampNeg (by have := ncz (x := x10) (by omega); omega)); (split at h9 <;> first | omega | (split at h9 <;> omega))) (by omega)
          refine k_aload_n C rfl rfl rfl ?_
          refine k_iload_n C rfl rfl rfl ?_
          refine k_iload C rfl rfl rfl ?_
          refine c_VI C (a_X12_toldBy hI14 H_r0 (by omega) (by omega) (by omega) (by omega)) rfl rfl rfl rfl rfl ⟨_, rfl, rfl, T_r0, Nat.le_of_ble_eq_true rfl⟩ rfl rfl (Nat.le_of_ble_eq_true rfl) (Nat.le_of_ble_eq_true rfl) (Nat.le_of_ble_eq_true rfl) ?_
          rintro x87 _ _ ⟨p0x87, rfl, rfl⟩
          have p0x87 := p0x87 r0_1 R_r0_1
          have gx87 := rg x87
          try simp only [e15, ex29, ex30] at p0x87
          try have q0x87 := congrArg Int32.toInt p0x87
          rw [(CM.j0 (I := I) (L := L) (I' := I5) (L' := L6) (A := A) (W := []) (WA := [20]) (CM.mono S13 (by decide) (by decide)) R_r0_1 (by decide))] at p0x87
          refine k_goto C (pc2 := 166) rfl rfl ?_
          refine zt_iadd C rfl rfl (fun x88 => ?_)
          have gx88 := rg x88
          refine z_sI C rfl rfl T_r0_20 N_r0_20 (by omega) (by omega) (fun I89 uI89 => ?_)
          have hI89 : IM R r0 I89 := IM.arr hI14 G_r0 R_r0_20 ⟨(fun h => absurd h (by decide)), (fun h => absurd h (by decide)), (fun h => absurd h (by decide))⟩ (fun h => absurd h (by decide)) (by decide) uI89
          have S90 : CM A R r0 [] [20] I5 L6 I89 L6 := CM.a G_r0 R_r0_20 A_r0_20 uI89
          have e91 := u2_n uI89 (mF.nq G_r0 R_r0_1 R_r0_20 (by decide)) e15
          have e94 := u2_e uI89
          refine z_iinc C (z := 1) (lw := fun x95 => [(4, .int x95), (8, .int x59), (7, .int x30), (6, .int x29), (3, .int x26), (5, .int x20), (0, .ref r0), (1, .int n1), (2, .int n2)]) rfl rfl rfl (Nat.le_of_ble_eq_true rfl) rfl ⟨by omega, by omega⟩ (fun _ => rfl) (fun x95 ex95 => ?_)
          show V 171 [(4, .int x95), (8, .int x59), (7, .int x30), (6, .int x29), (3, .int x26), (5, .int x20), (0, .ref r0), (1, .int n1), (2, .int n2)] _ _ _ _
          refine k_goto C (pc2 := 5) rfl rfl ?_
          refine k_sub S [(0, .ref r0), (1, .int n1), (2, .int n2), (3, .int x26), (4, .int x95)] (List.forall_mem_cons.mpr ⟨List.mem_of_getElem? (i := 6) rfl, List.forall_mem_cons.mpr ⟨List.mem_of_getElem? (i := 7) rfl, List.forall_mem_cons.mpr ⟨List.mem_of_getElem? (i := 8) rfl, List.forall_mem_cons.mpr ⟨List.mem_of_getElem? (i := 4) rfl, List.forall_mem_cons.mpr ⟨List.mem_of_getElem? (i := 0) rfl, fun _ h => nomatch h⟩⟩⟩⟩⟩) ?_
          exact ihJ3 _ (by omega) I89 L6 x26 x95 rfl hI89 (CM.cons S13 (CM.mono S90 (by decide) (by decide)) (by decide) (by decide)) (by omega) (by omega) (by omega) (by omega) (by (have h9 := HgtS (g := I r0_1) (b := 198 + 401 * n1.toNatClampNeg) (x := x10) (y := x95) (by omega) (by omega)); (have h8 := hS.2.2 x10.toNatClampNeg (by have := ncz (x := x10) (by omega); omega)); (split at h9 <;> first | omega | (split at h9 <;> omega))) (by omega)
        refine k_iload C rfl rfl rfl ?_
        refine k_iload C rfl rfl rfl ?_
        refine b_icmp_eq C (t := 110) rfl rfl rfl (fun c96 => ?_) (fun c96 => ?_)
        · skip
          refine z_iconst C (z := 0) rfl rfl rfl (fun x97 ex97 => ?_)
          refine k_istore C (lw := [(8, .int x97), (7, .int x30), (6, .int x29), (3, .int x26), (5, .int x20), (0, .ref r0), (1, .int n1), (2, .int n2), (4, .int x10)]) rfl rfl (Nat.le_of_ble_eq_true rfl) rfl ?_
          refine k_aload_n C rfl rfl rfl ?_
          refine g_R C rfl rfl rfl T_r0 rfl R_r0_20 ?_
          refine k_iload_n C rfl rfl rfl ?_
          refine z_iconst C (z := 1) rfl rfl rfl (fun x98 ex98 => ?_)
          refine z_isub C rfl rfl ⟨by omega, by omega⟩ (fun x99 ex99 => ?_)
          refine k_iload C rfl rfl rfl ?_
          refine b_if_eq C (t := 129) rfl rfl rfl (fun c100 => ?_) (fun c100 => by exfalso; omega)
          refine k_iload C rfl rfl rfl ?_
          refine z_iconst C (z := 2) rfl rfl rfl (fun x101 ex101 => ?_)
          refine b_icmp_ne C (t := 140) rfl rfl rfl (fun c102 => by exfalso; omega) (fun c102 => ?_)
          refine k_iload C rfl rfl rfl ?_
          refine k_goto C (pc2 := 167) rfl rfl ?_
          refine z_sI C rfl rfl T_r0_20 N_r0_20 (by omega) (by omega) (fun I103 uI103 => ?_)
          have hI103 : IM R r0 I103 := IM.arr hI14 G_r0 R_r0_20 ⟨(fun h => absurd h (by decide)), (fun h => absurd h (by decide)), (fun h => absurd h (by decide))⟩ (fun h => absurd h (by decide)) (by decide) uI103
          have S104 : CM A R r0 [] [20] I5 L6 I103 L6 := CM.a G_r0 R_r0_20 A_r0_20 uI103
          have e105 := u2_n uI103 (mF.nq G_r0 R_r0_1 R_r0_20 (by decide)) e15
          have e108 := u2_e uI103
          refine z_iinc C (z := 1) (lw := fun x109 => [(4, .int x109), (8, .int x97), (7, .int x30), (6, .int x29), (3, .int x26), (5, .int x20), (0, .ref r0), (1, .int n1), (2, .int n2)]) rfl rfl rfl (Nat.le_of_ble_eq_true rfl) rfl ⟨by omega, by omega⟩ (fun _ => rfl) (fun x109 ex109 => ?_)
          show V 171 [(4, .int x109), (8, .int x97), (7, .int x30), (6, .int x29), (3, .int x26), (5, .int x20), (0, .ref r0), (1, .int n1), (2, .int n2)] _ _ _ _
          refine k_goto C (pc2 := 5) rfl rfl ?_
          refine k_sub S [(0, .ref r0), (1, .int n1), (2, .int n2), (3, .int x26), (4, .int x109)] (List.forall_mem_cons.mpr ⟨List.mem_of_getElem? (i := 6) rfl, List.forall_mem_cons.mpr ⟨List.mem_of_getElem? (i := 7) rfl, List.forall_mem_cons.mpr ⟨List.mem_of_getElem? (i := 8) rfl, List.forall_mem_cons.mpr ⟨List.mem_of_getElem? (i := 4) rfl, List.forall_mem_cons.mpr ⟨List.mem_of_getElem? (i := 0) rfl, fun _ h => nomatch h⟩⟩⟩⟩⟩) ?_
          exact ihJ3 _ (by omega) I103 L6 x26 x109 rfl hI103 (CM.cons S13 (CM.mono S104 (by decide) (by decide)) (by decide) (by decide)) (by omega) (by omega) (by omega) (by omega) (by (have h9 := HgtS (g := I r0_1) (b := 198 + 401 * n1.toNatClampNeg) (x := x10) (y := x109) (by omega) (by omega)); (have h8 := hS.2.2 x10.toNatClampNeg (by have := ncz (x := x10) (by omega); omega)); (split at h9 <;> first | omega | (split at h9 <;> omega))) (by omega)
        refine z_iconst C (z := 1) rfl rfl rfl (fun x110 ex110 => ?_)
        refine k_goto C (pc2 := 111) rfl rfl ?_
        refine k_istore C (lw := [(8, .int x110), (7, .int x30), (6, .int x29), (3, .int x26), (5, .int x20), (0, .ref r0), (1, .int n1), (2, .int n2), (4, .int x10)]) rfl rfl (Nat.le_of_ble_eq_true rfl) rfl ?_
        refine k_aload_n C rfl rfl rfl ?_
        refine g_R C rfl rfl rfl T_r0 rfl R_r0_20 ?_
        refine k_iload_n C rfl rfl rfl ?_
        refine z_iconst C (z := 1) rfl rfl rfl (fun x111 ex111 => ?_)
        refine z_isub C rfl rfl ⟨by omega, by omega⟩ (fun x112 ex112 => ?_)
        refine k_iload C rfl rfl rfl ?_
        refine b_if_eq C (t := 129) rfl rfl rfl (fun c113 => by exfalso; omega) (fun c113 => ?_)
        refine z_iconst C (z := -1) rfl rfl rfl (fun x114 ex114 => ?_)
        refine k_goto C (pc2 := 167) rfl rfl ?_
        refine z_sI C rfl rfl T_r0_20 N_r0_20 (by omega) (by omega) (fun I115 uI115 => ?_)
        have hI115 : IM R r0 I115 := IM.arr hI14 G_r0 R_r0_20 ⟨(fun h => absurd h (by decide)), (fun h => absurd h (by decide)), (fun h => absurd h (by decide))⟩ (fun h => absurd h (by decide)) (by decide) uI115
        have S116 : CM A R r0 [] [20] I5 L6 I115 L6 := CM.a G_r0 R_r0_20 A_r0_20 uI115
        have e117 := u2_n uI115 (mF.nq G_r0 R_r0_1 R_r0_20 (by decide)) e15
        have e120 := u2_e uI115
        refine z_iinc C (z := 1) (lw := fun x121 => [(4, .int x121), (8, .int x110), (7, .int x30), (6, .int x29), (3, .int x26), (5, .int x20), (0, .ref r0), (1, .int n1), (2, .int n2)]) rfl rfl rfl (Nat.le_of_ble_eq_true rfl) rfl ⟨by omega, by omega⟩ (fun _ => rfl) (fun x121 ex121 => ?_)
        show V 171 [(4, .int x121), (8, .int x110), (7, .int x30), (6, .int x29), (3, .int x26), (5, .int x20), (0, .ref r0), (1, .int n1), (2, .int n2)] _ _ _ _
        refine k_goto C (pc2 := 5) rfl rfl ?_
        refine k_sub S [(0, .ref r0), (1, .int n1), (2, .int n2), (3, .int x26), (4, .int x121)] (List.forall_mem_cons.mpr ⟨List.mem_of_getElem? (i := 6) rfl, List.forall_mem_cons.mpr ⟨List.mem_of_getElem? (i := 7) rfl, List.forall_mem_cons.mpr ⟨List.mem_of_getElem? (i := 8) rfl, List.forall_mem_cons.mpr ⟨List.mem_of_getElem? (i := 4) rfl, List.forall_mem_cons.mpr ⟨List.mem_of_getElem? (i := 0) rfl, fun _ h => nomatch h⟩⟩⟩⟩⟩) ?_
        exact ihJ3 _ (by omega) I115 L6 x26 x121 rfl hI115 (CM.cons S13 (CM.mono S116 (by decide) (by decide)) (by decide) (by decide)) (by omega) (by omega) (by omega) (by omega) (by (have h9 := HgtS (g := I r0_1) (b := 198 + 401 * n1.toNatClampNeg) (x := x10) (y := x121) (by omega) (by omega)); (have h8 := hS.2.2 x10.toNatClampNeg (by have := ncz (x := x10) (by omega); omega)); (split at h9 <;> first | omega | (split at h9 <;> omega))) (by omega)
      refine k_aload_n C rfl rfl rfl ?_
      refine g_R C rfl rfl rfl T_r0 rfl R_r0_20 ?_
      refine k_iload_n C rfl rfl rfl ?_
      refine k_iload C rfl rfl rfl ?_
      refine b_if_ne C (t := 48) rfl rfl rfl (fun c122 => ?_) (fun c122 => ?_)
      · skip
        refine z_iconst C (z := 0) rfl rfl rfl (fun x123 ex123 => ?_)
        obtain ⟨T_r0_20, N_r0_20, A_r0_20⟩ := id H_r0_20
        refine z_sI C rfl rfl T_r0_20 N_r0_20 (by omega) (by omega) (fun I124 uI124 => ?_)
        have hI124 : IM R r0 I124 := IM.arr hI14 G_r0 R_r0_20 ⟨(fun h => absurd h (by decide)), (fun h => absurd h (by decide)), (fun h => absurd h (by decide))⟩ (fun h => absurd h (by decide)) (by decide) uI124
        have S125 : CM A R r0 [] [20] I5 L6 I124 L6 := CM.a G_r0 R_r0_20 A_r0_20 uI124
        have e126 := u2_n uI124 (mF.nq G_r0 R_r0_1 R_r0_20 (by decide)) e15
        have e127 := u2_e uI124
        refine z_iinc C (z := 1) (lw := fun x128 => [(3, .int x128), (5, .int x20), (0, .ref r0), (1, .int n1), (2, .int n2), (4, .int x10)]) rfl rfl rfl (Nat.le_of_ble_eq_true rfl) rfl ⟨by omega, by omega⟩ (fun _ => rfl) (fun x128 ex128 => ?_)
        show V 53 [(3, .int x128), (5, .int x20), (0, .ref r0), (1, .int n1), (2, .int n2), (4, .int x10)] _ _ _ _
        refine k_goto C (pc2 := 168) rfl rfl ?_
        refine z_iinc C (z := 1) (lw := fun x129 => [(4, .int x129), (3, .int x128), (5, .int x20), (0, .ref r0), (1, .int n1), (2, .int n2)]) rfl rfl rfl (Nat.le_of_ble_eq_true rfl) rfl ⟨by omega, by omega⟩ (fun _ => rfl) (fun x129 ex129 => ?_)
        show V 171 [(4, .int x129), (3, .int x128), (5, .int x20), (0, .ref r0), (1, .int n1), (2, .int n2)] _ _ _ _
        refine k_goto C (pc2 := 5) rfl rfl ?_
        refine k_sub S [(0, .ref r0), (1, .int n1), (2, .int n2), (3, .int x128), (4, .int x129)] (List.forall_mem_cons.mpr ⟨List.mem_of_getElem? (i := 3) rfl, List.forall_mem_cons.mpr ⟨List.mem_of_getElem? (i := 4) rfl, List.forall_mem_cons.mpr ⟨List.mem_of_getElem? (i := 5) rfl, List.forall_mem_cons.mpr ⟨List.mem_of_getElem? (i := 1) rfl, List.forall_mem_cons.mpr ⟨List.mem_of_getElem? (i := 0) rfl, fun _ h => nomatch h⟩⟩⟩⟩⟩) ?_
        exact ihJ3 _ (by omega) I124 L6 x128 x129 rfl hI124 (CM.cons S13 (CM.mono S125 (by decide) (by decide)) (by decide) (by decide)) (by omega) (by omega) (by omega) (by omega) (by (have h9 := HgtS (g := I r0_1) (b := 198 + 401 * n1.toNatClampNeg) (x := x10) (y := x129) (by omega) (by omega)); (have h8 := hS.2.2 x10.toNatClampNeg (by have := ncz (x := x10) (by omega); omega)); (split at h9 <;> first | omega | (split at h9 <;> omega))) (by omega)
      refine k_iload_n C rfl rfl rfl ?_
      refine b_if_ne C (t := 48) rfl rfl rfl (fun c130 => ?_) (fun c130 => ?_)
      · skip
        refine z_iconst C (z := 0) rfl rfl rfl (fun x131 ex131 => ?_)
        obtain ⟨T_r0_20, N_r0_20, A_r0_20⟩ := id H_r0_20
        refine z_sI C rfl rfl T_r0_20 N_r0_20 (by omega) (by omega) (fun I132 uI132 => ?_)
        have hI132 : IM R r0 I132 := IM.arr hI14 G_r0 R_r0_20 ⟨(fun h => absurd h (by decide)), (fun h => absurd h (by decide)), (fun h => absurd h (by decide))⟩ (fun h => absurd h (by decide)) (by decide) uI132
        have S133 : CM A R r0 [] [20] I5 L6 I132 L6 := CM.a G_r0 R_r0_20 A_r0_20 uI132
        have e134 := u2_n uI132 (mF.nq G_r0 R_r0_1 R_r0_20 (by decide)) e15
        have e135 := u2_e uI132
        refine z_iinc C (z := 1) (lw := fun x136 => [(3, .int x136), (5, .int x20), (0, .ref r0), (1, .int n1), (2, .int n2), (4, .int x10)]) rfl rfl rfl (Nat.le_of_ble_eq_true rfl) rfl ⟨by omega, by omega⟩ (fun _ => rfl) (fun x136 ex136 => ?_)
        show V 53 [(3, .int x136), (5, .int x20), (0, .ref r0), (1, .int n1), (2, .int n2), (4, .int x10)] _ _ _ _
        refine k_goto C (pc2 := 168) rfl rfl ?_
        refine z_iinc C (z := 1) (lw := fun x137 => [(4, .int x137), (3, .int x136), (5, .int x20), (0, .ref r0), (1, .int n1), (2, .int n2)]) rfl rfl rfl (Nat.le_of_ble_eq_true rfl) rfl ⟨by omega, by omega⟩ (fun _ => rfl) (fun x137 ex137 => ?_)
        show V 171 [(4, .int x137), (3, .int x136), (5, .int x20), (0, .ref r0), (1, .int n1), (2, .int n2)] _ _ _ _
        refine k_goto C (pc2 := 5) rfl rfl ?_
        refine k_sub S [(0, .ref r0), (1, .int n1), (2, .int n2), (3, .int x136), (4, .int x137)] (List.forall_mem_cons.mpr ⟨List.mem_of_getElem? (i := 3) rfl, List.forall_mem_cons.mpr ⟨List.mem_of_getElem? (i := 4) rfl, List.forall_mem_cons.mpr ⟨List.mem_of_getElem? (i := 5) rfl, List.forall_mem_cons.mpr ⟨List.mem_of_getElem? (i := 1) rfl, List.forall_mem_cons.mpr ⟨List.mem_of_getElem? (i := 0) rfl, fun _ h => nomatch h⟩⟩⟩⟩⟩) ?_
        exact ihJ3 _ (by omega) I132 L6 x136 x137 rfl hI132 (CM.cons S13 (CM.mono S133 (by decide) (by decide)) (by decide) (by decide)) (by omega) (by omega) (by omega) (by omega) (by (have h9 := HgtS (g := I r0_1) (b := 198 + 401 * n1.toNatClampNeg) (x := x10) (y := x137) (by omega) (by omega)); (have h8 := hS.2.2 x10.toNatClampNeg (by have := ncz (x := x10) (by omega); omega)); (split at h9 <;> first | omega | (split at h9 <;> omega))) (by omega)
      refine z_iconst C (z := 1) rfl rfl rfl (fun x138 ex138 => ?_)
      refine k_goto C (pc2 := 49) rfl rfl ?_
      obtain ⟨T_r0_20, N_r0_20, A_r0_20⟩ := id H_r0_20
      refine z_sI C rfl rfl T_r0_20 N_r0_20 (by omega) (by omega) (fun I139 uI139 => ?_)
      have hI139 : IM R r0 I139 := IM.arr hI14 G_r0 R_r0_20 ⟨(fun h => absurd h (by decide)), (fun h => absurd h (by decide)), (fun h => absurd h (by decide))⟩ (fun h => absurd h (by decide)) (by decide) uI139
      have S140 : CM A R r0 [] [20] I5 L6 I139 L6 := CM.a G_r0 R_r0_20 A_r0_20 uI139
      have e141 := u2_n uI139 (mF.nq G_r0 R_r0_1 R_r0_20 (by decide)) e15
      have e142 := u2_e uI139
      refine z_iinc C (z := 1) (lw := fun x143 => [(3, .int x143), (5, .int x20), (0, .ref r0), (1, .int n1), (2, .int n2), (4, .int x10)]) rfl rfl rfl (Nat.le_of_ble_eq_true rfl) rfl ⟨by omega, by omega⟩ (fun _ => rfl) (fun x143 ex143 => ?_)
      show V 53 [(3, .int x143), (5, .int x20), (0, .ref r0), (1, .int n1), (2, .int n2), (4, .int x10)] _ _ _ _
      refine k_goto C (pc2 := 168) rfl rfl ?_
      refine z_iinc C (z := 1) (lw := fun x144 => [(4, .int x144), (3, .int x143), (5, .int x20), (0, .ref r0), (1, .int n1), (2, .int n2)]) rfl rfl rfl (Nat.le_of_ble_eq_true rfl) rfl ⟨by omega, by omega⟩ (fun _ => rfl) (fun x144 ex144 => ?_)
      show V 171 [(4, .int x144), (3, .int x143), (5, .int x20), (0, .ref r0), (1, .int n1), (2, .int n2)] _ _ _ _
      refine k_goto C (pc2 := 5) rfl rfl ?_
      refine k_sub S [(0, .ref r0), (1, .int n1), (2, .int n2), (3, .int x143), (4, .int x144)] (List.forall_mem_cons.mpr ⟨List.mem_of_getElem? (i := 3) rfl, List.forall_mem_cons.mpr ⟨List.mem_of_getElem? (i := 4) rfl, List.forall_mem_cons.mpr ⟨List.mem_of_getElem? (i := 5) rfl, List.forall_mem_cons.mpr ⟨List.mem_of_getElem? (i := 1) rfl, List.forall_mem_cons.mpr ⟨List.mem_of_getElem? (i := 0) rfl, fun _ h => nomatch h⟩⟩⟩⟩⟩) ?_
      exact ihJ3 _ (by omega) I139 L6 x143 x144 rfl hI139 (CM.cons S13 (CM.mono S140 (by decide) (by decide)) (by decide) (by decide)) (by omega) (by omega) (by omega) (by omega) (by (have h9 := HgtS (g := I r0_1) (b := 198 + 401 * n1.toNatClampNeg) (x := x10) (y := x144) (by omega) (by omega)); (have h8 := hS.2.2 x10.toNatClampNeg (by have := ncz (x := x10) (by omega); omega)); (split at h9 <;> first | omega | (split at h9 <;> omega))) (by omega)
  refine k_istore C (lw := [(4, .int x2), (3, .int x1), (0, .ref r0), (1, .int n1), (2, .int n2)]) rfl rfl (Nat.le_of_ble_eq_true rfl) rfl ?_
  refine k_sub S [(0, .ref r0), (1, .int n1), (2, .int n2), (3, .int x1), (4, .int x2)] (List.forall_mem_cons.mpr ⟨List.mem_of_getElem? (i := 2) rfl, List.forall_mem_cons.mpr ⟨List.mem_of_getElem? (i := 3) rfl, List.forall_mem_cons.mpr ⟨List.mem_of_getElem? (i := 4) rfl, List.forall_mem_cons.mpr ⟨List.mem_of_getElem? (i := 1) rfl, List.forall_mem_cons.mpr ⟨List.mem_of_getElem? (i := 0) rfl, fun _ h => nomatch h⟩⟩⟩⟩⟩) ?_
  exact J3 _ I L x1 x2 rfl hI CM.rf (by omega) (by omega) (by omega) (by omega) (by rw [nck (x := x2) (n := 0) (by omega)]; show _ = (0 : Int); omega) (by omega)

theorem a_X12_value {d : Nat} {T N : Nat → Nat} {I : IT} {L : LT} {R : RT} {A : Nat → Prop} {r0 : Nat} {n1 n2 n3 : Int32} (hI : IM R r0 I) (H_r0 : (h_MD T N R A) r0) : Ex (d + 9) 253 [.ref r0, .int n1, .int n2, .int n3] (T, N, I, L, R) 0 0 (pI T N R (fun x9 I9 L9 => (-18 ≤ x9.toInt) ∧ (x9.toInt ≤ 40) ∧ (IM R r0 I9 ∧ CM A R r0 [0] [4, 5] I L I9 L9))) := by
  refine ⟨_, rfl, Nat.le_of_ble_eq_true rfl, fun V C S => ?_⟩
  show V 0 [(0, .ref r0), (1, .int n1), (2, .int n2), (3, .int n3)] [] (T, N, I, L, R) 0 0
  have gn1 := rg n1
  have gn2 := rg n2
  have gn3 := rg n3
  obtain ⟨T_r0, A_r0, ⟨r0_1, R_r0_1, H_r0_1⟩, ⟨r0_2, R_r0_2, H_r0_2⟩, ⟨r0_4, R_r0_4, H_r0_4⟩, ⟨r0_5, R_r0_5, H_r0_5⟩, ⟨r0_10, R_r0_10, H_r0_10⟩, ⟨r0_18, R_r0_18, H_r0_18⟩, ⟨r0_20, R_r0_20, H_r0_20⟩, ⟨r0_21, R_r0_21, H_r0_21⟩, ⟨r0_22, R_r0_22, H_r0_22⟩, ⟨r0_23, R_r0_23, H_r0_23⟩, ⟨r0_25, R_r0_25, H_r0_25⟩, ⟨r0_26, R_r0_26, H_r0_26⟩, ⟨r0_27, R_r0_27, H_r0_27⟩, ⟨r0_28, R_r0_28, H_r0_28⟩, ⟨r0_34, R_r0_34, H_r0_34⟩, J_r0, Y_r0⟩ := id H_r0
  have G_r0 : mF T R r0 := ⟨J_r0, Y_r0, T_r0⟩
  refine k_aload_n C rfl rfl rfl ?_
  refine z_iconst C (z := 0) rfl rfl rfl (fun x1 ex1 => ?_)
  refine z_pI C rfl rfl rfl T_r0 (Or.inr rfl) rfl (fun I2 uI2 => ?_)
  have hI2 : IM R r0 I2 := IM.fld hI G_r0 (by decide) ⟨(fun h => absurd h (by decide)), (fun h => absurd h (by decide)), (fun h => absurd h (by decide)), (fun h => absurd h (by decide)), (fun h => absurd h (by decide))⟩ uI2
  have S3 : CM A R r0 [0] [] I L I2 L := CM.f G_r0 A_r0 uI2
  have e4 := u2_e uI2
  refine k_aload_n C rfl rfl rfl ?_
  refine k_aload_n C rfl rfl rfl ?_
  refine k_iload_n C rfl rfl rfl ?_
  refine c_VI C (a_X12_noSigns hI2 H_r0) rfl rfl rfl rfl rfl ⟨_, rfl, rfl, T_r0, Nat.le_of_ble_eq_true rfl⟩ rfl rfl (Nat.le_of_ble_eq_true rfl) (Nat.le_of_ble_eq_true rfl) (Nat.le_of_ble_eq_true rfl) ?_
  rintro x5 _ _ ⟨o0x5, o1x5, p0x5, rfl, rfl⟩
  have p0x5 := p0x5 r0_1 R_r0_1
  have gx5 := rg x5
  obtain ⟨x6, e7⟩ : ∃ x, I2 r0_1 3 = x := ⟨_, rfl⟩
  have gx6 := rg x6
  have ox6 := IM.c3 hI2 R_r0_1 e7
  try simp only [e4, e7] at p0x5
  try have q0x5 := congrArg Int32.toInt p0x5
  refine b_if_ne C (t := 22) rfl rfl rfl (fun c8 => ?_) (fun c8 => ?_)
  · skip
    refine z_iconst C (z := 1) rfl rfl rfl (fun x9 ex9 => ?_)
    refine k_goto C (pc2 := 27) rfl rfl ?_
    refine z_iconst C (z := 1) rfl rfl rfl (fun x10 ex10 => ?_)
    have q11 : x9.toNatClampNeg = 1 := nck (by omega)
    have q12 : x10.toNatClampNeg = 1 := nck (by omega)
    refine c_VI C (a_X12_throwsIf hI2 H_r0 (by omega) (by omega)) rfl rfl rfl rfl rfl ⟨_, rfl, rfl, T_r0, Nat.le_of_ble_eq_true rfl⟩ rfl rfl (Nat.le_of_ble_eq_true rfl) (Nat.le_of_ble_eq_true rfl) (Nat.le_of_ble_eq_true rfl) ?_
    rintro x13 I14 L15 ⟨o0x13, o1x13, p0x13, hI14, S16⟩
    have e18 := CM.j S16 R_r0_1 (by decide) e7
    have gx13 := rg x13
    try simp only [q11, q12, e4, e7] at p0x13
    try have q0x13 := congrArg Int32.toInt p0x13
    refine b_if_eq C (t := 36) rfl rfl rfl (fun c19 => by exfalso; omega) (fun c19 => ?_)
    refine z_iconst C (z := 0) rfl rfl rfl (fun x20 ex20 => ?_)
    exact k_iret C rfl (Or.inl rfl) (Nat.le_of_ble_eq_true rfl) (Nat.le_of_ble_eq_true rfl) ⟨_, _, _, rfl, rfl, by omega, by omega, hI14, (CM.cons S3 (CM.mono S16 (by decide) (by decide)) (by decide) (by decide))⟩
  refine k_aload_n C rfl rfl rfl ?_
  refine k_iload_n C rfl rfl rfl ?_
  refine c_VI C (a_X12_noForm hI2 H_r0) rfl rfl rfl rfl rfl ⟨_, rfl, rfl, T_r0, Nat.le_of_ble_eq_true rfl⟩ rfl rfl (Nat.le_of_ble_eq_true rfl) (Nat.le_of_ble_eq_true rfl) (Nat.le_of_ble_eq_true rfl) ?_
  rintro x21 _ _ ⟨o0x21, o1x21, p0x21, rfl, rfl⟩
  have p0x21 := p0x21 r0_1 R_r0_1
  have gx21 := rg x21
  obtain ⟨x22, e23⟩ : ∃ x, I2 r0_1 1 = x := ⟨_, rfl⟩
  have gx22 := rg x22
  have ox22 := IM.c1 hI2 R_r0_1 e23
  try simp only [e4, e7, e23] at p0x21
  try have q0x21 := congrArg Int32.toInt p0x21
  refine b_if_eq C (t := 26) rfl rfl rfl (fun c24 => ?_) (fun c24 => ?_)
  · skip
    refine z_iconst C (z := 0) rfl rfl rfl (fun x25 ex25 => ?_)
    refine z_iconst C (z := 1) rfl rfl rfl (fun x26 ex26 => ?_)
    have q27 : x25.toNatClampNeg = 0 := nck (by omega)
    have q28 : x26.toNatClampNeg = 1 := nck (by omega)
    refine c_VI C (a_X12_throwsIf hI2 H_r0 (by omega) (by omega)) rfl rfl rfl rfl rfl ⟨_, rfl, rfl, T_r0, Nat.le_of_ble_eq_true rfl⟩ rfl rfl (Nat.le_of_ble_eq_true rfl) (Nat.le_of_ble_eq_true rfl) (Nat.le_of_ble_eq_true rfl) ?_
    rintro x29 I30 L31 ⟨o0x29, o1x29, p0x29, hI30, S32⟩
    have e34 := CM.j S32 R_r0_1 (by decide) e7
    have e35 := CM.j S32 R_r0_1 (by decide) e23
    have gx29 := rg x29
    try simp only [q27, q28, e4, e7, e23] at p0x29
    try have q0x29 := congrArg Int32.toInt p0x29
    refine b_if_eq C (t := 36) rfl rfl rfl (fun c36 => ?_) (fun c36 => by exfalso; omega)
    refine k_aload_n C rfl rfl rfl ?_
    refine z_bipush C (z := 44) rfl rfl rfl (fun x37 ex37 => ?_)
    refine k_iload_n C rfl rfl rfl ?_
    obtain ⟨x38, e39⟩ : ∃ x, I30 r0_1 (6 + 10 * n2.toNatClampNeg) = x := ⟨_, rfl⟩
    have gx38 := rg x38
    have q40 : x37.toNatClampNeg = 44 := nck (by omega)
    refine c_VV C (a_X12_takes hI30 H_r0 (by omega) (by omega) (by omega) (by omega)) rfl rfl rfl rfl rfl ⟨_, rfl, rfl, T_r0, Nat.le_of_ble_eq_true rfl⟩ rfl rfl (Nat.le_of_ble_eq_true rfl) (Nat.le_of_ble_eq_true rfl) (Nat.le_of_ble_eq_true rfl) ?_
    rintro I42 L43 ⟨p0v41, p1v41, p2v41, p3v41, hI42, S44⟩
    have p0v41 := p0v41 r0_4 R_r0_4
    have p1v41 := p1v41 r0_1 r0_4 R_r0_1 R_r0_4
    have p2v41 := p2v41 r0_4 R_r0_4
    have p3v41 := p3v41 r0_5 R_r0_5
    try simp only [q40] at p2v41
    try simp only [q40] at p3v41
    have e45 := CM.j S44 R_r0_1 (by decide) e34
    have e46 := CM.j S44 R_r0_1 (by decide) e35
    have e47 := CM.j S44 R_r0_1 (by decide) e39
    obtain ⟨x48, e49⟩ : ∃ x, I42 r0_4 44 = x := ⟨_, rfl⟩
    have gx48 := rg x48
    have ox48 := IM.dgR hI42 R_r0_4 e49
    try simp only [q40, e34, e35, e39, e49] at p0v41
    try have q0v41 := congrArg Int32.toInt p0v41
    try simp only [q40, e34, e35, e39, e49] at p1v41
    try have q1v41 := congrArg Int32.toInt p1v41
    refine k_aload_n C rfl rfl rfl ?_
    refine k_iload_n C rfl rfl rfl ?_
    refine c_VI C (a_X12_makes hI42 H_r0 (by omega) (by omega) (fun a1 h1 => by cases (R_r0_1.symm.trans h1); first | omega | (simp only [e45, e46, e47, e49] <;> omega))) rfl rfl rfl rfl rfl ⟨_, rfl, rfl, T_r0, Nat.le_of_ble_eq_true rfl⟩ rfl rfl (Nat.le_of_ble_eq_true rfl) (Nat.le_of_ble_eq_true rfl) (Nat.le_of_ble_eq_true rfl) ?_
    rintro x50 I51 L52 ⟨o0x50, o1x50, hI51, S53⟩
    have e54 := CM.j S53 R_r0_1 (by decide) e45
    have e55 := CM.j S53 R_r0_1 (by decide) e46
    have e56 := CM.j S53 R_r0_1 (by decide) e47
    have gx50 := rg x50
    refine b_if_ne C (t := 54) rfl rfl rfl (fun c58 => ?_) (fun c58 => ?_)
    · skip
      refine k_iload_n C rfl rfl rfl ?_
      refine z_iconst C (z := -1) rfl rfl rfl (fun x59 ex59 => ?_)
      refine b_icmp_ne C (t := 68) rfl rfl rfl (fun c60 => ?_) (fun c60 => ?_)
      · skip
        refine k_iload_n C rfl rfl rfl ?_
        refine z_iconst C (z := 0) rfl rfl rfl (fun x61 ex61 => ?_)
        refine k_aload_n C rfl rfl rfl ?_
        refine g_R C rfl rfl rfl T_r0 rfl R_r0_4 ?_
        refine z_iconst C (z := 0) rfl rfl rfl (fun x62 ex62 => ?_)
        obtain ⟨T_r0_4, N_r0_4, A_r0_4⟩ := id H_r0_4
        refine z_aI C rfl rfl T_r0_4 N_r0_4 (by omega) (by omega) (fun x63 ex63 => ?_)
        have gx63 := rg x63
        have nx63 : I51 r0_4 0 = x63 := (congrArg (I51 r0_4) (nck (n := 0) (by omega))).symm.trans ex63
        have ox63 := IM.dgR hI51 R_r0_4 nx63
        have q64 : x61.toNatClampNeg = 0 := nck (by omega)
        refine c_SI C a_X12_in rfl rfl rfl rfl rfl rfl rfl (Nat.le_of_ble_eq_true rfl) (Nat.le_of_ble_eq_true rfl) (Nat.le_of_ble_eq_true rfl) ?_
        rintro x65 _ _ ⟨o0x65, o1x65, p0x65, rfl, rfl⟩
        have gx65 := rg x65
        try simp only [q64, e54, e55, e56, nx63] at p0x65
        try have q0x65 := congrArg Int32.toInt p0x65
        refine b_if_eq C (t := 91) rfl rfl rfl (fun c66 => ?_) (fun c66 => ?_)
        · skip
          refine z_iconst C (z := -1) rfl rfl rfl (fun x67 ex67 => ?_)
          exact k_iret C rfl (Or.inl rfl) (Nat.le_of_ble_eq_true rfl) (Nat.le_of_ble_eq_true rfl) ⟨_, _, _, rfl, rfl, by omega, by omega, hI51, (CM.cons S3 (CM.cons S32 (CM.cons S44 (CM.mono S53 (by decide) (by decide)) (by decide) (by decide)) (by decide) (by decide)) (by decide) (by decide))⟩
        refine k_aload_n C rfl rfl rfl ?_
        refine z_iconst C (z := 0) rfl rfl rfl (fun x68 ex68 => ?_)
        refine k_iload_n C rfl rfl rfl ?_
        have q69 : x68.toNatClampNeg = 0 := nck (by omega)
        refine c_VI C (a_X12_of hI51 H_r0 (by omega) (by omega) (by omega) (by omega)) rfl rfl rfl rfl rfl ⟨_, rfl, rfl, T_r0, Nat.le_of_ble_eq_true rfl⟩ rfl rfl (Nat.le_of_ble_eq_true rfl) (Nat.le_of_ble_eq_true rfl) (Nat.le_of_ble_eq_true rfl) ?_
        rintro x70 _ _ ⟨o0x70, o1x70, p0x70, rfl, rfl⟩
        have p0x70 := p0x70 r0_5 R_r0_5
        have gx70 := rg x70
        try simp only [q69, e54, e55, e56, nx63] at p0x70
        try have q0x70 := congrArg Int32.toInt p0x70
        refine k_goto C (pc2 := 92) rfl rfl ?_
        exact k_iret C rfl (Or.inl rfl) (Nat.le_of_ble_eq_true rfl) (Nat.le_of_ble_eq_true rfl) ⟨_, _, _, rfl, rfl, by omega, by omega, hI51, (CM.cons S3 (CM.cons S32 (CM.cons S44 (CM.mono S53 (by decide) (by decide)) (by decide) (by decide)) (by decide) (by decide)) (by decide) (by decide))⟩
      refine k_aload_n C rfl rfl rfl ?_
      refine g_R C rfl rfl rfl T_r0 rfl R_r0_4 ?_
      refine z_iconst C (z := 0) rfl rfl rfl (fun x71 ex71 => ?_)
      obtain ⟨T_r0_4, N_r0_4, A_r0_4⟩ := id H_r0_4
      refine z_aI C rfl rfl T_r0_4 N_r0_4 (by omega) (by omega) (fun x72 ex72 => ?_)
      have gx72 := rg x72
      have nx72 : I51 r0_4 0 = x72 := (congrArg (I51 r0_4) (nck (n := 0) (by omega))).symm.trans ex72
      have ox72 := IM.dgR hI51 R_r0_4 nx72
      refine k_goto C (pc2 := 92) rfl rfl ?_
      exact k_iret C rfl (Or.inl rfl) (Nat.le_of_ble_eq_true rfl) (Nat.le_of_ble_eq_true rfl) ⟨_, _, _, rfl, rfl, by omega, by omega, hI51, (CM.cons S3 (CM.cons S32 (CM.cons S44 (CM.mono S53 (by decide) (by decide)) (by decide) (by decide)) (by decide) (by decide)) (by decide) (by decide))⟩
    refine z_bipush C (z := -2) rfl rfl rfl (fun x73 ex73 => ?_)
    exact k_iret C rfl (Or.inl rfl) (Nat.le_of_ble_eq_true rfl) (Nat.le_of_ble_eq_true rfl) ⟨_, _, _, rfl, rfl, by omega, by omega, hI51, (CM.cons S3 (CM.cons S32 (CM.cons S44 (CM.mono S53 (by decide) (by decide)) (by decide) (by decide)) (by decide) (by decide)) (by decide) (by decide))⟩
  refine z_iconst C (z := 1) rfl rfl rfl (fun x74 ex74 => ?_)
  refine k_goto C (pc2 := 27) rfl rfl ?_
  refine z_iconst C (z := 1) rfl rfl rfl (fun x75 ex75 => ?_)
  have q76 : x74.toNatClampNeg = 1 := nck (by omega)
  have q77 : x75.toNatClampNeg = 1 := nck (by omega)
  refine c_VI C (a_X12_throwsIf hI2 H_r0 (by omega) (by omega)) rfl rfl rfl rfl rfl ⟨_, rfl, rfl, T_r0, Nat.le_of_ble_eq_true rfl⟩ rfl rfl (Nat.le_of_ble_eq_true rfl) (Nat.le_of_ble_eq_true rfl) (Nat.le_of_ble_eq_true rfl) ?_
  rintro x78 I79 L80 ⟨o0x78, o1x78, p0x78, hI79, S81⟩
  have e83 := CM.j S81 R_r0_1 (by decide) e7
  have e84 := CM.j S81 R_r0_1 (by decide) e23
  have gx78 := rg x78
  try simp only [q76, q77, e4, e7, e23] at p0x78
  try have q0x78 := congrArg Int32.toInt p0x78
  refine b_if_eq C (t := 36) rfl rfl rfl (fun c85 => by exfalso; omega) (fun c85 => ?_)
  refine z_iconst C (z := 0) rfl rfl rfl (fun x86 ex86 => ?_)
  exact k_iret C rfl (Or.inl rfl) (Nat.le_of_ble_eq_true rfl) (Nat.le_of_ble_eq_true rfl) ⟨_, _, _, rfl, rfl, by omega, by omega, hI79, (CM.cons S3 (CM.mono S81 (by decide) (by decide)) (by decide) (by decide))⟩

theorem a_X12_rank {d : Nat} {T N : Nat → Nat} {I : IT} {L : LT} {R : RT} {A : Nat → Prop} {r0 : Nat} {n1 n2 : Int32} (hI : IM R r0 I) (H_r0 : (h_MD T N R A) r0) (b0_n2 : 0 ≤ n2.toInt) (b1_n2 : n2.toInt ≤ 1) : Ex (d + 3) 255 [.ref r0, .int n1, .int n2] (T, N, I, L, R) 0 0 (pI T N R (fun x9 I9 L9 => (IM R r0 I9 ∧ CM A R r0 [0] [20] I L I9 L9))) := by
  refine ⟨_, rfl, Nat.le_of_ble_eq_true rfl, fun V C S => ?_⟩
  show V 0 [(0, .ref r0), (1, .int n1), (2, .int n2)] [] (T, N, I, L, R) 0 0
  have gn1 := rg n1
  have gn2 := rg n2
  obtain ⟨T_r0, A_r0, ⟨r0_1, R_r0_1, H_r0_1⟩, ⟨r0_2, R_r0_2, H_r0_2⟩, ⟨r0_4, R_r0_4, H_r0_4⟩, ⟨r0_5, R_r0_5, H_r0_5⟩, ⟨r0_10, R_r0_10, H_r0_10⟩, ⟨r0_18, R_r0_18, H_r0_18⟩, ⟨r0_20, R_r0_20, H_r0_20⟩, ⟨r0_21, R_r0_21, H_r0_21⟩, ⟨r0_22, R_r0_22, H_r0_22⟩, ⟨r0_23, R_r0_23, H_r0_23⟩, ⟨r0_25, R_r0_25, H_r0_25⟩, ⟨r0_26, R_r0_26, H_r0_26⟩, ⟨r0_27, R_r0_27, H_r0_27⟩, ⟨r0_28, R_r0_28, H_r0_28⟩, ⟨r0_34, R_r0_34, H_r0_34⟩, J_r0, Y_r0⟩ := id H_r0
  have G_r0 : mF T R r0 := ⟨J_r0, Y_r0, T_r0⟩
  refine k_aload_n C rfl rfl rfl ?_
  refine z_iconst C (z := 0) rfl rfl rfl (fun x1 ex1 => ?_)
  refine z_pI C rfl rfl rfl T_r0 (Or.inr rfl) rfl (fun I2 uI2 => ?_)
  have hI2 : IM R r0 I2 := IM.fld hI G_r0 (by decide) ⟨(fun h => absurd h (by decide)), (fun h => absurd h (by decide)), (fun h => absurd h (by decide)), (fun h => absurd h (by decide)), (fun h => absurd h (by decide))⟩ uI2
  have S3 : CM A R r0 [0] [] I L I2 L := CM.f G_r0 A_r0 uI2
  have e4 := u2_e uI2
  refine k_aload_n C rfl rfl rfl ?_
  refine k_aload_n C rfl rfl rfl ?_
  refine k_iload_n C rfl rfl rfl ?_
  refine c_VI C (a_X12_noSigns hI2 H_r0) rfl rfl rfl rfl rfl ⟨_, rfl, rfl, T_r0, Nat.le_of_ble_eq_true rfl⟩ rfl rfl (Nat.le_of_ble_eq_true rfl) (Nat.le_of_ble_eq_true rfl) (Nat.le_of_ble_eq_true rfl) ?_
  rintro x5 _ _ ⟨o0x5, o1x5, p0x5, rfl, rfl⟩
  have p0x5 := p0x5 r0_1 R_r0_1
  have gx5 := rg x5
  obtain ⟨x6, e7⟩ : ∃ x, I2 r0_1 3 = x := ⟨_, rfl⟩
  have gx6 := rg x6
  have ox6 := IM.c3 hI2 R_r0_1 e7
  try simp only [e4, e7] at p0x5
  try have q0x5 := congrArg Int32.toInt p0x5
  refine z_iconst C (z := 1) rfl rfl rfl (fun x8 ex8 => ?_)
  have q9 : x8.toNatClampNeg = 1 := nck (by omega)
  refine c_VI C (a_X12_throwsIf hI2 H_r0 (by omega) (by omega)) rfl rfl rfl rfl rfl ⟨_, rfl, rfl, T_r0, Nat.le_of_ble_eq_true rfl⟩ rfl rfl (Nat.le_of_ble_eq_true rfl) (Nat.le_of_ble_eq_true rfl) (Nat.le_of_ble_eq_true rfl) ?_
  rintro x10 I11 L12 ⟨o0x10, o1x10, p0x10, hI11, S13⟩
  have e15 := CM.j S13 R_r0_1 (by decide) e7
  have gx10 := rg x10
  try simp only [q9, e4, e7] at p0x10
  try have q0x10 := congrArg Int32.toInt p0x10
  refine b_if_eq C (t := 22) rfl rfl rfl (fun c16 => ?_) (fun c16 => ?_)
  · skip
    refine k_aload_n C rfl rfl rfl ?_
    refine k_iload_n C rfl rfl rfl ?_
    refine k_iload_n C rfl rfl rfl ?_
    refine c_VI C (a_X12_rankOf hI11 H_r0 (by omega) (by omega) (by omega) (by omega) (fun a1 h1 => by cases (R_r0_1.symm.trans h1); first | omega | (simp only [e15] <;> omega))) rfl rfl rfl rfl rfl ⟨_, rfl, rfl, T_r0, Nat.le_of_ble_eq_true rfl⟩ rfl rfl (Nat.le_of_ble_eq_true rfl) (Nat.le_of_ble_eq_true rfl) (Nat.le_of_ble_eq_true rfl) ?_
    rintro x17 I18 L19 ⟨hI18, S20⟩
    have e21 := CM.j S20 R_r0_1 (by decide) e15
    have gx17 := rg x17
    exact k_iret C rfl (Or.inl rfl) (Nat.le_of_ble_eq_true rfl) (Nat.le_of_ble_eq_true rfl) ⟨_, _, _, rfl, rfl, hI18, (CM.cons S3 (CM.cons S13 (CM.mono S20 (by decide) (by decide)) (by decide) (by decide)) (by decide) (by decide))⟩
  refine z_iconst C (z := 0) rfl rfl rfl (fun x22 ex22 => ?_)
  refine k_goto C (pc2 := 28) rfl rfl ?_
  exact k_iret C rfl (Or.inl rfl) (Nat.le_of_ble_eq_true rfl) (Nat.le_of_ble_eq_true rfl) ⟨_, _, _, rfl, rfl, hI11, (CM.cons S3 (CM.mono S13 (by decide) (by decide)) (by decide) (by decide))⟩

theorem a_X12_stays {d : Nat} {T N : Nat → Nat} {I : IT} {L : LT} {R : RT} {A : Nat → Prop} {r0 : Nat} {n1 n2 n3 : Int32} (hI : IM R r0 I) (H_r0 : (h_MD T N R A) r0) : Ex (d + 9) 256 [.ref r0, .int n1, .int n2, .int n3] (T, N, I, L, R) 0 0 (pI T N R (fun x9 I9 L9 => (0 ≤ x9.toInt) ∧ (x9.toInt ≤ 1) ∧ (IM R r0 I9 ∧ CM A R r0 [0, 6, 7, 8, 9] [4, 5, 20] I L I9 L9))) := by
  refine ⟨_, rfl, Nat.le_of_ble_eq_true rfl, fun V C S => ?_⟩
  show V 0 [(0, .ref r0), (1, .int n1), (2, .int n2), (3, .int n3)] [] (T, N, I, L, R) 0 0
  have gn1 := rg n1
  have gn2 := rg n2
  have gn3 := rg n3
  obtain ⟨T_r0, A_r0, ⟨r0_1, R_r0_1, H_r0_1⟩, ⟨r0_2, R_r0_2, H_r0_2⟩, ⟨r0_4, R_r0_4, H_r0_4⟩, ⟨r0_5, R_r0_5, H_r0_5⟩, ⟨r0_10, R_r0_10, H_r0_10⟩, ⟨r0_18, R_r0_18, H_r0_18⟩, ⟨r0_20, R_r0_20, H_r0_20⟩, ⟨r0_21, R_r0_21, H_r0_21⟩, ⟨r0_22, R_r0_22, H_r0_22⟩, ⟨r0_23, R_r0_23, H_r0_23⟩, ⟨r0_25, R_r0_25, H_r0_25⟩, ⟨r0_26, R_r0_26, H_r0_26⟩, ⟨r0_27, R_r0_27, H_r0_27⟩, ⟨r0_28, R_r0_28, H_r0_28⟩, ⟨r0_34, R_r0_34, H_r0_34⟩, J_r0, Y_r0⟩ := id H_r0
  have G_r0 : mF T R r0 := ⟨J_r0, Y_r0, T_r0⟩
  refine k_aload_n C rfl rfl rfl ?_
  refine z_iconst C (z := 0) rfl rfl rfl (fun x1 ex1 => ?_)
  refine z_pI C rfl rfl rfl T_r0 (Or.inr rfl) rfl (fun I2 uI2 => ?_)
  have hI2 : IM R r0 I2 := IM.fld hI G_r0 (by decide) ⟨(fun h => absurd h (by decide)), (fun h => absurd h (by decide)), (fun h => absurd h (by decide)), (fun h => absurd h (by decide)), (fun h => absurd h (by decide))⟩ uI2
  have S3 : CM A R r0 [0] [] I L I2 L := CM.f G_r0 A_r0 uI2
  have e4 := u2_e uI2
  refine k_aload_n C rfl rfl rfl ?_
  refine k_aload_n C rfl rfl rfl ?_
  refine k_iload_n C rfl rfl rfl ?_
  refine c_VI C (a_X12_noSigns hI2 H_r0) rfl rfl rfl rfl rfl ⟨_, rfl, rfl, T_r0, Nat.le_of_ble_eq_true rfl⟩ rfl rfl (Nat.le_of_ble_eq_true rfl) (Nat.le_of_ble_eq_true rfl) (Nat.le_of_ble_eq_true rfl) ?_
  rintro x5 _ _ ⟨o0x5, o1x5, p0x5, rfl, rfl⟩
  have p0x5 := p0x5 r0_1 R_r0_1
  have gx5 := rg x5
  obtain ⟨x6, e7⟩ : ∃ x, I2 r0_1 3 = x := ⟨_, rfl⟩
  have gx6 := rg x6
  have ox6 := IM.c3 hI2 R_r0_1 e7
  try simp only [e4, e7] at p0x5
  try have q0x5 := congrArg Int32.toInt p0x5
  refine b_if_ne C (t := 30) rfl rfl rfl (fun c8 => ?_) (fun c8 => ?_)
  · skip
    refine z_iconst C (z := 1) rfl rfl rfl (fun x9 ex9 => ?_)
    refine k_goto C (pc2 := 35) rfl rfl ?_
    refine z_iconst C (z := 1) rfl rfl rfl (fun x10 ex10 => ?_)
    have q11 : x9.toNatClampNeg = 1 := nck (by omega)
    have q12 : x10.toNatClampNeg = 1 := nck (by omega)
    refine c_VI C (a_X12_throwsIf hI2 H_r0 (by omega) (by omega)) rfl rfl rfl rfl rfl ⟨_, rfl, rfl, T_r0, Nat.le_of_ble_eq_true rfl⟩ rfl rfl (Nat.le_of_ble_eq_true rfl) (Nat.le_of_ble_eq_true rfl) (Nat.le_of_ble_eq_true rfl) ?_
    rintro x13 I14 L15 ⟨o0x13, o1x13, p0x13, hI14, S16⟩
    have e18 := CM.j S16 R_r0_1 (by decide) e7
    have gx13 := rg x13
    try simp only [q11, q12, e4, e7] at p0x13
    try have q0x13 := congrArg Int32.toInt p0x13
    refine b_if_eq C (t := 44) rfl rfl rfl (fun c19 => by exfalso; omega) (fun c19 => ?_)
    refine z_iconst C (z := 0) rfl rfl rfl (fun x20 ex20 => ?_)
    exact k_iret C rfl (Or.inr ⟨rfl, z01 (by omega) (by omega)⟩) (Nat.le_of_ble_eq_true rfl) (Nat.le_of_ble_eq_true rfl) ⟨_, _, _, rfl, rfl, by omega, by omega, hI14, (CM.cons S3 (CM.mono S16 (by decide) (by decide)) (by decide) (by decide))⟩
  refine k_aload_n C rfl rfl rfl ?_
  refine k_iload_n C rfl rfl rfl ?_
  refine c_VI C (a_X12_noForm hI2 H_r0) rfl rfl rfl rfl rfl ⟨_, rfl, rfl, T_r0, Nat.le_of_ble_eq_true rfl⟩ rfl rfl (Nat.le_of_ble_eq_true rfl) (Nat.le_of_ble_eq_true rfl) (Nat.le_of_ble_eq_true rfl) ?_
  rintro x21 _ _ ⟨o0x21, o1x21, p0x21, rfl, rfl⟩
  have p0x21 := p0x21 r0_1 R_r0_1
  have gx21 := rg x21
  obtain ⟨x22, e23⟩ : ∃ x, I2 r0_1 1 = x := ⟨_, rfl⟩
  have gx22 := rg x22
  have ox22 := IM.c1 hI2 R_r0_1 e23
  try simp only [e4, e7, e23] at p0x21
  try have q0x21 := congrArg Int32.toInt p0x21
  refine b_if_ne C (t := 30) rfl rfl rfl (fun c24 => ?_) (fun c24 => ?_)
  · skip
    refine z_iconst C (z := 1) rfl rfl rfl (fun x25 ex25 => ?_)
    refine k_goto C (pc2 := 35) rfl rfl ?_
    refine z_iconst C (z := 1) rfl rfl rfl (fun x26 ex26 => ?_)
    have q27 : x25.toNatClampNeg = 1 := nck (by omega)
    have q28 : x26.toNatClampNeg = 1 := nck (by omega)
    refine c_VI C (a_X12_throwsIf hI2 H_r0 (by omega) (by omega)) rfl rfl rfl rfl rfl ⟨_, rfl, rfl, T_r0, Nat.le_of_ble_eq_true rfl⟩ rfl rfl (Nat.le_of_ble_eq_true rfl) (Nat.le_of_ble_eq_true rfl) (Nat.le_of_ble_eq_true rfl) ?_
    rintro x29 I30 L31 ⟨o0x29, o1x29, p0x29, hI30, S32⟩
    have e34 := CM.j S32 R_r0_1 (by decide) e7
    have e35 := CM.j S32 R_r0_1 (by decide) e23
    have gx29 := rg x29
    try simp only [q27, q28, e4, e7, e23] at p0x29
    try have q0x29 := congrArg Int32.toInt p0x29
    refine b_if_eq C (t := 44) rfl rfl rfl (fun c36 => by exfalso; omega) (fun c36 => ?_)
    refine z_iconst C (z := 0) rfl rfl rfl (fun x37 ex37 => ?_)
    exact k_iret C rfl (Or.inr ⟨rfl, z01 (by omega) (by omega)⟩) (Nat.le_of_ble_eq_true rfl) (Nat.le_of_ble_eq_true rfl) ⟨_, _, _, rfl, rfl, by omega, by omega, hI30, (CM.cons S3 (CM.mono S32 (by decide) (by decide)) (by decide) (by decide))⟩
  refine k_aload_n C rfl rfl rfl ?_
  refine k_iload_n C rfl rfl rfl ?_
  refine c_VI C (a_X12_noTable hI2 H_r0) rfl rfl rfl rfl rfl ⟨_, rfl, rfl, T_r0, Nat.le_of_ble_eq_true rfl⟩ rfl rfl (Nat.le_of_ble_eq_true rfl) (Nat.le_of_ble_eq_true rfl) (Nat.le_of_ble_eq_true rfl) ?_
  rintro x38 _ _ ⟨o0x38, o1x38, p0x38, rfl, rfl⟩
  have p0x38 := p0x38 r0_1 R_r0_1
  have gx38 := rg x38
  obtain ⟨x39, e40⟩ : ∃ x, I2 r0_1 2 = x := ⟨_, rfl⟩
  have gx39 := rg x39
  have ox39 := IM.c2 hI2 R_r0_1 e40
  try simp only [e4, e7, e23, e40] at p0x38
  try have q0x38 := congrArg Int32.toInt p0x38
  refine b_if_eq C (t := 34) rfl rfl rfl (fun c41 => ?_) (fun c41 => ?_)
  · skip
    refine z_iconst C (z := 0) rfl rfl rfl (fun x42 ex42 => ?_)
    refine z_iconst C (z := 1) rfl rfl rfl (fun x43 ex43 => ?_)
    have q44 : x42.toNatClampNeg = 0 := nck (by omega)
    have q45 : x43.toNatClampNeg = 1 := nck (by omega)
    refine c_VI C (a_X12_throwsIf hI2 H_r0 (by omega) (by omega)) rfl rfl rfl rfl rfl ⟨_, rfl, rfl, T_r0, Nat.le_of_ble_eq_true rfl⟩ rfl rfl (Nat.le_of_ble_eq_true rfl) (Nat.le_of_ble_eq_true rfl) (Nat.le_of_ble_eq_true rfl) ?_
    rintro x46 I47 L48 ⟨o0x46, o1x46, p0x46, hI47, S49⟩
    have e51 := CM.j S49 R_r0_1 (by decide) e7
    have e52 := CM.j S49 R_r0_1 (by decide) e23
    have e53 := CM.j S49 R_r0_1 (by decide) e40
    have gx46 := rg x46
    try simp only [q44, q45, e4, e7, e23, e40] at p0x46
    try have q0x46 := congrArg Int32.toInt p0x46
    refine b_if_eq C (t := 44) rfl rfl rfl (fun c54 => ?_) (fun c54 => by exfalso; omega)
    refine k_aload_n C rfl rfl rfl ?_
    refine k_iload_n C rfl rfl rfl ?_
    refine z_iconst C (z := 1) rfl rfl rfl (fun x55 ex55 => ?_)
    have q56 : x55.toNatClampNeg = 1 := nck (by omega)
    refine c_VI C (a_X12_rankOf hI47 H_r0 (by omega) (by omega) (by omega) (by omega) (fun a1 h1 => by cases (R_r0_1.symm.trans h1); first | omega | (simp only [q56, e51, e52, e53] <;> omega))) rfl rfl rfl rfl rfl ⟨_, rfl, rfl, T_r0, Nat.le_of_ble_eq_true rfl⟩ rfl rfl (Nat.le_of_ble_eq_true rfl) (Nat.le_of_ble_eq_true rfl) (Nat.le_of_ble_eq_true rfl) ?_
    rintro x57 I58 L59 ⟨hI58, S60⟩
    have e61 := CM.j S60 R_r0_1 (by decide) e51
    have e62 := CM.j S60 R_r0_1 (by decide) e52
    have e63 := CM.j S60 R_r0_1 (by decide) e53
    have gx57 := rg x57
    refine k_istore C (lw := [(4, .int x57), (0, .ref r0), (1, .int n1), (2, .int n2), (3, .int n3)]) rfl rfl (Nat.le_of_ble_eq_true rfl) rfl ?_
    refine k_aload_n C rfl rfl rfl ?_
    refine z_bipush C (z := 44) rfl rfl rfl (fun x64 ex64 => ?_)
    refine k_iload_n C rfl rfl rfl ?_
    obtain ⟨x65, e66⟩ : ∃ x, I58 r0_1 (6 + 10 * n2.toNatClampNeg) = x := ⟨_, rfl⟩
    have gx65 := rg x65
    have q67 : x64.toNatClampNeg = 44 := nck (by omega)
    refine c_VV C (a_X12_takes hI58 H_r0 (by omega) (by omega) (by omega) (by omega)) rfl rfl rfl rfl rfl ⟨_, rfl, rfl, T_r0, Nat.le_of_ble_eq_true rfl⟩ rfl rfl (Nat.le_of_ble_eq_true rfl) (Nat.le_of_ble_eq_true rfl) (Nat.le_of_ble_eq_true rfl) ?_
    rintro I69 L70 ⟨p0v68, p1v68, p2v68, p3v68, hI69, S71⟩
    have p0v68 := p0v68 r0_4 R_r0_4
    have p1v68 := p1v68 r0_1 r0_4 R_r0_1 R_r0_4
    have p2v68 := p2v68 r0_4 R_r0_4
    have p3v68 := p3v68 r0_5 R_r0_5
    try simp only [q67] at p2v68
    try simp only [q67] at p3v68
    have e72 := CM.j S71 R_r0_1 (by decide) e61
    have e73 := CM.j S71 R_r0_1 (by decide) e62
    have e74 := CM.j S71 R_r0_1 (by decide) e63
    have e75 := CM.j S71 R_r0_1 (by decide) e66
    obtain ⟨x76, e77⟩ : ∃ x, I69 r0_4 44 = x := ⟨_, rfl⟩
    have gx76 := rg x76
    have ox76 := IM.dgR hI69 R_r0_4 e77
    try simp only [q67, e61, e62, e63, e66, e77] at p0v68
    try have q0v68 := congrArg Int32.toInt p0v68
    try simp only [q67, e61, e62, e63, e66, e77] at p1v68
    try have q1v68 := congrArg Int32.toInt p1v68
    refine k_iload C rfl rfl rfl ?_
    refine b_if_lt C (t := 72) rfl rfl rfl (fun c78 => ?_) (fun c78 => ?_)
    · skip
      refine z_iconst C (z := 0) rfl rfl rfl (fun x79 ex79 => ?_)
      exact k_iret C rfl (Or.inr ⟨rfl, z01 (by omega) (by omega)⟩) (Nat.le_of_ble_eq_true rfl) (Nat.le_of_ble_eq_true rfl) ⟨_, _, _, rfl, rfl, by omega, by omega, hI69, (CM.cons S3 (CM.cons S49 (CM.cons S60 (CM.mono S71 (by decide) (by decide)) (by decide) (by decide)) (by decide) (by decide)) (by decide) (by decide))⟩
    refine k_aload_n C rfl rfl rfl ?_
    refine k_iload_n C rfl rfl rfl ?_
    refine c_VI C (a_X12_makes hI69 H_r0 (by omega) (by omega) (fun a1 h1 => by cases (R_r0_1.symm.trans h1); first | omega | (simp only [e72, e73, e74, e75, e77] <;> omega))) rfl rfl rfl rfl rfl ⟨_, rfl, rfl, T_r0, Nat.le_of_ble_eq_true rfl⟩ rfl rfl (Nat.le_of_ble_eq_true rfl) (Nat.le_of_ble_eq_true rfl) (Nat.le_of_ble_eq_true rfl) ?_
    rintro x80 I81 L82 ⟨o0x80, o1x80, hI81, S83⟩
    have e84 := CM.j S83 R_r0_1 (by decide) e72
    have e85 := CM.j S83 R_r0_1 (by decide) e73
    have e86 := CM.j S83 R_r0_1 (by decide) e74
    have e87 := CM.j S83 R_r0_1 (by decide) e75
    have gx80 := rg x80
    refine b_if_ne C (t := 74) rfl rfl rfl (fun c89 => ?_) (fun c89 => ?_)
    · skip
      refine k_aload_n C rfl rfl rfl ?_
      refine k_iload_n C rfl rfl rfl ?_
      refine c_VV C (a_X12_tables hI81 H_r0 (by omega) (by omega)) rfl rfl rfl rfl rfl ⟨_, rfl, rfl, T_r0, Nat.le_of_ble_eq_true rfl⟩ rfl rfl (Nat.le_of_ble_eq_true rfl) (Nat.le_of_ble_eq_true rfl) (Nat.le_of_ble_eq_true rfl) ?_
      rintro I91 L92 ⟨hI91, S93⟩
      have e94 := CM.j S93 R_r0_1 (by decide) e84
      have e95 := CM.j S93 R_r0_1 (by decide) e85
      have e96 := CM.j S93 R_r0_1 (by decide) e86
      have e97 := CM.j S93 R_r0_1 (by decide) e87
      refine k_aload_n C rfl rfl rfl ?_
      refine z_iconst C (z := 0) rfl rfl rfl (fun x98 ex98 => ?_)
      refine z_bipush C (z := 42) rfl rfl rfl (fun x99 ex99 => ?_)
      obtain ⟨x100, e101⟩ : ∃ x, I91 r0_4 0 = x := ⟨_, rfl⟩
      have gx100 := rg x100
      have ox100 := IM.dgR hI91 R_r0_4 e101
      have q102 : x98.toNatClampNeg = 0 := nck (by omega)
      have q103 : x99.toNatClampNeg = 42 := nck (by omega)
      refine c_VV C (a_X12_mixes hI91 H_r0 (by omega) (by omega) (by omega) (by omega)) rfl rfl rfl rfl rfl ⟨_, rfl, rfl, T_r0, Nat.le_of_ble_eq_true rfl⟩ rfl rfl (Nat.le_of_ble_eq_true rfl) (Nat.le_of_ble_eq_true rfl) (Nat.le_of_ble_eq_true rfl) ?_
      rintro I105 L106 ⟨p0v104, p1v104, p2v104, hI105, S107⟩
      have p0v104 := p0v104 r0_4 R_r0_4
      have p1v104 := p1v104 r0_4 R_r0_4
      have p2v104 := p2v104 r0_5 R_r0_5
      try simp only [q102, q103] at p1v104
      try simp only [q102, q103] at p2v104
      have e108 := CM.j S107 R_r0_1 (by decide) e94
      have e109 := CM.j S107 R_r0_1 (by decide) e95
      have e110 := CM.j S107 R_r0_1 (by decide) e96
      have e111 := CM.j S107 R_r0_1 (by decide) e97
      have e112 := (p1v104 0 (by first | decide | exact ncne (by omega) (by omega) (by omega) | exact nckn (by omega) (by omega) | exact (nckn (by omega) (by omega)).symm) (by first | decide | exact ncne (by omega) (by omega) (by omega) | exact nckn (by omega) (by omega) | exact (nckn (by omega) (by omega)).symm)).trans e101
      obtain ⟨x113, e114⟩ : ∃ x, I105 r0_4 42 = x := ⟨_, rfl⟩
      have gx113 := rg x113
      have ox113 := IM.dgR hI105 R_r0_4 e114
      try simp only [q102, q103, e94, e95, e96, e97, e101, e114] at p0v104
      try have q0v104 := congrArg Int32.toInt p0v104
      refine k_aload_n C rfl rfl rfl ?_
      refine k_aload_n C rfl rfl rfl ?_
      refine c_VI C (a_X12_detNow hI105 H_r0) rfl rfl rfl rfl rfl ⟨_, rfl, rfl, T_r0, Nat.le_of_ble_eq_true rfl⟩ rfl rfl (Nat.le_of_ble_eq_true rfl) (Nat.le_of_ble_eq_true rfl) (Nat.le_of_ble_eq_true rfl) ?_
      rintro x115 _ _ ⟨o0x115, o1x115, rfl, rfl⟩
      have gx115 := rg x115
      refine k_iload C rfl rfl rfl ?_
      obtain ⟨x116, e117⟩ : ∃ x, I105 r0_1 0 = x := ⟨_, rfl⟩
      have gx116 := rg x116
      have ox116 := IM.pi hI105 R_r0_1 e117
      refine c_VI C (a_X12_power hI105 H_r0 (by omega) (by omega)) rfl rfl rfl rfl rfl ⟨_, rfl, rfl, T_r0, Nat.le_of_ble_eq_true rfl⟩ rfl rfl (Nat.le_of_ble_eq_true rfl) (Nat.le_of_ble_eq_true rfl) (Nat.le_of_ble_eq_true rfl) ?_
      rintro x118 _ _ ⟨o0x118, o1x118, p0x118, rfl, rfl⟩
      have p0x118 := p0x118 r0_1 R_r0_1
      have gx118 := rg x118
      try simp only [e108, e109, e110, e111, e112, e114, e117] at p0x118
      try have q0x118 := congrArg Int32.toInt p0x118
      refine k_istore C (lw := [(5, .int x118), (4, .int x57), (0, .ref r0), (1, .int n1), (2, .int n2), (3, .int n3)]) rfl rfl (Nat.le_of_ble_eq_true rfl) rfl ?_
      refine z_iconst C (z := 0) rfl rfl rfl (fun x119 ex119 => ?_)
      have J120 : ∀ (nn121 : Nat) (I122 : IT) (L123 : LT) (x124 : Int32), ((41 - x124.toInt).toNat = nn121) → (IM R r0 I122) → (CM A R r0 [] [5] I105 L106 I122 L123) → (0 ≤ x124.toInt) → (x124.toInt ≤ 41) → V 101 [(0, .ref r0), (1, .int n1), (2, .int n2), (5, .int x118), (6, .int x124)] [] (T, N, I122, L123, R) 0 0 := by
        intro nn121
        induction nn121 using Nat.strongRecOn with
        | _ nn121 ihJ120 =>
          intro I122 L123 x124 hmnn121 hI128 S127 b125 b126
          have gx124 := rg x124
          have e129 := CM.j S127 R_r0_1 (by decide) e108
          have e130 := CM.j S127 R_r0_1 (by decide) e109
          have e131 := CM.j S127 R_r0_1 (by decide) e110
          have e132 := CM.j S127 R_r0_1 (by decide) e111
          have e133 := CM.j S127 R_r0_4 (by decide) e112
          have e134 := CM.j S127 R_r0_4 (by decide) e114
          have e135 := CM.j S127 R_r0_1 (by decide) e117
          refine k_iload C rfl rfl rfl ?_
          refine k_aload_n C rfl rfl rfl ?_
          refine g_R C rfl rfl rfl T_r0 rfl R_r0_4 ?_
          refine z_bipush C (z := 42) rfl rfl rfl (fun x136 ex136 => ?_)
          obtain ⟨T_r0_4, N_r0_4, A_r0_4⟩ := id H_r0_4
          refine a_I C rfl rfl T_r0_4 (by rw [N_r0_4]; exact vpi (by omega) (by omega)) ((congrArg (I122 r0_4) (nck (n := 42) (by omega))).trans e134) ?_
          refine b_icmp_gt C (t := 141) rfl rfl rfl (fun c137 => ?_) (fun c137 => ?_)
          · skip
            refine k_aload_n C rfl rfl rfl ?_
            refine z_bipush C (z := 40) rfl rfl rfl (fun x138 ex138 => ?_)
            refine k_iload_n C rfl rfl rfl ?_
            have q139 : x138.toNatClampNeg = 40 := nck (by omega)
            refine c_VV C (a_X12_takes hI128 H_r0 (by omega) (by omega) (by omega) (by omega)) rfl rfl rfl rfl rfl ⟨_, rfl, rfl, T_r0, Nat.le_of_ble_eq_true rfl⟩ rfl rfl (Nat.le_of_ble_eq_true rfl) (Nat.le_of_ble_eq_true rfl) (Nat.le_of_ble_eq_true rfl) ?_
            rintro I141 L142 ⟨p0v140, p1v140, p2v140, p3v140, hI141, S143⟩
            have p0v140 := p0v140 r0_4 R_r0_4
            have p1v140 := p1v140 r0_1 r0_4 R_r0_1 R_r0_4
            have p2v140 := p2v140 r0_4 R_r0_4
            have p3v140 := p3v140 r0_5 R_r0_5
            try simp only [q139] at p2v140
            try simp only [q139] at p3v140
            have e144 := CM.j S143 R_r0_1 (by decide) e129
            have e145 := CM.j S143 R_r0_1 (by decide) e130
            have e146 := CM.j S143 R_r0_1 (by decide) e131
            have e147 := CM.j S143 R_r0_1 (by decide) e132
            have e148 := (p2v140 0 (by first | decide | exact ncne (by omega) (by omega) (by omega) | exact nckn (by omega) (by omega) | exact (nckn (by omega) (by omega)).symm)).trans e133
            have e149 := (p2v140 42 (by first | decide | exact ncne (by omega) (by omega) (by omega) | exact nckn (by omega) (by omega) | exact (nckn (by omega) (by omega)).symm)).trans e134
            have e150 := CM.j S143 R_r0_1 (by decide) e135
            obtain ⟨x151, e152⟩ : ∃ x, I141 r0_4 40 = x := ⟨_, rfl⟩
            have gx151 := rg x151
            have ox151 := IM.dgR hI141 R_r0_4 e152
            try simp only [q139, e129, e130, e131, e132, e133, e134, e135, e152] at p0v140
            try have q0v140 := congrArg Int32.toInt p0v140
            try simp only [q139, e129, e130, e131, e132, e133, e134, e135, e152] at p1v140
            try have q1v140 := congrArg Int32.toInt p1v140
            refine k_aload_n C rfl rfl rfl ?_
            refine z_bipush C (z := 40) rfl rfl rfl (fun x153 ex153 => ?_)
            refine z_bipush C (z := 44) rfl rfl rfl (fun x154 ex154 => ?_)
            have q155 : x153.toNatClampNeg = 40 := nck (by omega)
            have q156 : x154.toNatClampNeg = 44 := nck (by omega)
            refine c_VV C (a_X12_mixes hI141 H_r0 (by omega) (by omega) (by omega) (by omega)) rfl rfl rfl rfl rfl ⟨_, rfl, rfl, T_r0, Nat.le_of_ble_eq_true rfl⟩ rfl rfl (Nat.le_of_ble_eq_true rfl) (Nat.le_of_ble_eq_true rfl) (Nat.le_of_ble_eq_true rfl) ?_
            rintro I158 L159 ⟨p0v157, p1v157, p2v157, hI158, S160⟩
            have p0v157 := p0v157 r0_4 R_r0_4
            have p1v157 := p1v157 r0_4 R_r0_4
            have p2v157 := p2v157 r0_5 R_r0_5
            try simp only [q155, q156] at p1v157
            try simp only [q155, q156] at p2v157
            have e161 := CM.j S160 R_r0_1 (by decide) e144
            have e162 := CM.j S160 R_r0_1 (by decide) e145
            have e163 := CM.j S160 R_r0_1 (by decide) e146
            have e164 := CM.j S160 R_r0_1 (by decide) e147
            have e165 := (p1v157 0 (by first | decide | exact ncne (by omega) (by omega) (by omega) | exact nckn (by omega) (by omega) | exact (nckn (by omega) (by omega)).symm) (by first | decide | exact ncne (by omega) (by omega) (by omega) | exact nckn (by omega) (by omega) | exact (nckn (by omega) (by omega)).symm)).trans e148
            have e166 := (p1v157 42 (by first | decide | exact ncne (by omega) (by omega) (by omega) | exact nckn (by omega) (by omega) | exact (nckn (by omega) (by omega)).symm) (by first | decide | exact ncne (by omega) (by omega) (by omega) | exact nckn (by omega) (by omega) | exact (nckn (by omega) (by omega)).symm)).trans e149
            have e167 := CM.j S160 R_r0_1 (by decide) e150
            have e168 := (p1v157 40 (by first | decide | exact ncne (by omega) (by omega) (by omega) | exact nckn (by omega) (by omega) | exact (nckn (by omega) (by omega)).symm) (by first | decide | exact ncne (by omega) (by omega) (by omega) | exact nckn (by omega) (by omega) | exact (nckn (by omega) (by omega)).symm)).trans e152
            obtain ⟨x169, e170⟩ : ∃ x, I158 r0_4 44 = x := ⟨_, rfl⟩
            have gx169 := rg x169
            have ox169 := IM.dgR hI158 R_r0_4 e170
            try simp only [q155, q156, e144, e145, e146, e147, e148, e149, e150, e152, e170] at p0v157
            try have q0v157 := congrArg Int32.toInt p0v157
            refine k_aload_n C rfl rfl rfl ?_
            refine k_iload_n C rfl rfl rfl ?_
            refine c_VI C (a_X12_makes hI158 H_r0 (by omega) (by omega) (fun a1 h1 => by cases (R_r0_1.symm.trans h1); first | omega | (simp only [e161, e162, e163, e164, e165, e166, e167, e168, e170] <;> omega))) rfl rfl rfl rfl rfl ⟨_, rfl, rfl, T_r0, Nat.le_of_ble_eq_true rfl⟩ rfl rfl (Nat.le_of_ble_eq_true rfl) (Nat.le_of_ble_eq_true rfl) (Nat.le_of_ble_eq_true rfl) ?_
            rintro x171 I172 L173 ⟨o0x171, o1x171, hI172, S174⟩
            have e175 := CM.j S174 R_r0_1 (by decide) e161
            have e176 := CM.j S174 R_r0_1 (by decide) e162
            have e177 := CM.j S174 R_r0_1 (by decide) e163
            have e178 := CM.j S174 R_r0_1 (by decide) e164
            have e181 := CM.j S174 R_r0_1 (by decide) e167
            have gx171 := rg x171
            refine b_if_eq C (t := 178) rfl rfl rfl (fun c184 => ?_) (fun c184 => ?_)
            · skip
              refine z_iconst C (z := 0) rfl rfl rfl (fun x185 ex185 => ?_)
              exact k_iret C rfl (Or.inr ⟨rfl, z01 (by omega) (by omega)⟩) (Nat.le_of_ble_eq_true rfl) (Nat.le_of_ble_eq_true rfl) ⟨_, _, _, rfl, rfl, by omega, by omega, hI172, (CM.cons S3 (CM.cons S49 (CM.cons S60 (CM.cons S71 (CM.cons S83 (CM.cons S93 (CM.cons S107 (CM.cons S127 (CM.cons S143 (CM.cons S160 (CM.mono S174 (by decide) (by decide)) (by decide) (by decide)) (by decide) (by decide)) (by decide) (by decide)) (by decide) (by decide)) (by decide) (by decide)) (by decide) (by decide)) (by decide) (by decide)) (by decide) (by decide)) (by decide) (by decide)) (by decide) (by decide))⟩
            refine k_aload_n C rfl rfl rfl ?_
            refine z_iconst C (z := 0) rfl rfl rfl (fun x186 ex186 => ?_)
            refine z_bipush C (z := 42) rfl rfl rfl (fun x187 ex187 => ?_)
            refine c_VI C (a_X12_isLike hI172 H_r0 (by omega) (by omega) (by omega) (by omega)) rfl rfl rfl rfl rfl ⟨_, rfl, rfl, T_r0, Nat.le_of_ble_eq_true rfl⟩ rfl rfl (Nat.le_of_ble_eq_true rfl) (Nat.le_of_ble_eq_true rfl) (Nat.le_of_ble_eq_true rfl) ?_
            rintro x188 _ _ ⟨o0x188, o1x188, rfl, rfl⟩
            have gx188 := rg x188
            refine b_if_eq C (t := 178) rfl rfl rfl (fun c189 => ?_) (fun c189 => ?_)
            · skip
              refine z_iconst C (z := 0) rfl rfl rfl (fun x190 ex190 => ?_)
              exact k_iret C rfl (Or.inr ⟨rfl, z01 (by omega) (by omega)⟩) (Nat.le_of_ble_eq_true rfl) (Nat.le_of_ble_eq_true rfl) ⟨_, _, _, rfl, rfl, by omega, by omega, hI172, (CM.cons S3 (CM.cons S49 (CM.cons S60 (CM.cons S71 (CM.cons S83 (CM.cons S93 (CM.cons S107 (CM.cons S127 (CM.cons S143 (CM.cons S160 (CM.mono S174 (by decide) (by decide)) (by decide) (by decide)) (by decide) (by decide)) (by decide) (by decide)) (by decide) (by decide)) (by decide) (by decide)) (by decide) (by decide)) (by decide) (by decide)) (by decide) (by decide)) (by decide) (by decide)) (by decide) (by decide))⟩
            refine z_iconst C (z := 1) rfl rfl rfl (fun x191 ex191 => ?_)
            refine k_goto C (pc2 := 179) rfl rfl ?_
            exact k_iret C rfl (Or.inr ⟨rfl, z01 (by omega) (by omega)⟩) (Nat.le_of_ble_eq_true rfl) (Nat.le_of_ble_eq_true rfl) ⟨_, _, _, rfl, rfl, by omega, by omega, hI172, (CM.cons S3 (CM.cons S49 (CM.cons S60 (CM.cons S71 (CM.cons S83 (CM.cons S93 (CM.cons S107 (CM.cons S127 (CM.cons S143 (CM.cons S160 (CM.mono S174 (by decide) (by decide)) (by decide) (by decide)) (by decide) (by decide)) (by decide) (by decide)) (by decide) (by decide)) (by decide) (by decide)) (by decide) (by decide)) (by decide) (by decide)) (by decide) (by decide)) (by decide) (by decide)) (by decide) (by decide))⟩
          refine k_aload_n C rfl rfl rfl ?_
          refine z_bipush C (z := 42) rfl rfl rfl (fun x192 ex192 => ?_)
          refine k_iload C rfl rfl rfl ?_
          refine k_aload_n C rfl rfl rfl ?_
          refine k_aload_n C rfl rfl rfl ?_
          refine z_bipush C (z := 42) rfl rfl rfl (fun x193 ex193 => ?_)
          refine k_iload C rfl rfl rfl ?_
          have q194 : x193.toNatClampNeg = 42 := nck (by omega)
          refine c_VI C (a_X12_of hI128 H_r0 (by omega) (by omega) (by omega) (by omega)) rfl rfl rfl rfl rfl ⟨_, rfl, rfl, T_r0, Nat.le_of_ble_eq_true rfl⟩ rfl rfl (Nat.le_of_ble_eq_true rfl) (Nat.le_of_ble_eq_true rfl) (Nat.le_of_ble_eq_true rfl) ?_
          rintro x195 _ _ ⟨o0x195, o1x195, p0x195, rfl, rfl⟩
          have p0x195 := p0x195 r0_5 R_r0_5
          have gx195 := rg x195
          try simp only [q194, e129, e130, e131, e132, e133, e134, e135] at p0x195
          try have q0x195 := congrArg Int32.toInt p0x195
          refine k_iload C rfl rfl rfl ?_
          refine c_VI C (a_X12_times hI128 H_r0 (by omega) (by omega) (by omega) (by omega)) rfl rfl rfl rfl rfl ⟨_, rfl, rfl, T_r0, Nat.le_of_ble_eq_true rfl⟩ rfl rfl (Nat.le_of_ble_eq_true rfl) (Nat.le_of_ble_eq_true rfl) (Nat.le_of_ble_eq_true rfl) ?_
          rintro x196 _ _ ⟨o0x196, o1x196, p0x196, p1x196, p2x196, p3x196, rfl, rfl⟩
          have p0x196 := p0x196 r0_1 R_r0_1
          have p2x196 := p2x196 r0_1 R_r0_1
          have p3x196 := p3x196 r0_1 R_r0_1
          have gx196 := rg x196
          try simp only [e129, e130, e131, e132, e133, e134, e135] at p0x196
          try have q0x196 := congrArg Int32.toInt p0x196
          try simp only [e129, e130, e131, e132, e133, e134, e135] at p1x196
          try have q1x196 := congrArg Int32.toInt p1x196
          try simp only [e129, e130, e131, e132, e133, e134, e135] at p2x196
          try have q2x196 := congrArg Int32.toInt p2x196
          try simp only [e129, e130, e131, e132, e133, e134, e135] at p3x196
          try have q3x196 := congrArg Int32.toInt p3x196
          have q197 : x192.toNatClampNeg = 42 := nck (by omega)
          refine c_VV C (a_X12_put hI128 H_r0 (by omega) (by omega) (by omega) (by omega) (by omega) (by omega)) rfl rfl rfl rfl rfl ⟨_, rfl, rfl, T_r0, Nat.le_of_ble_eq_true rfl⟩ rfl rfl (Nat.le_of_ble_eq_true rfl) (Nat.le_of_ble_eq_true rfl) (Nat.le_of_ble_eq_true rfl) ?_
          rintro I199 L200 ⟨p0v198, p1v198, hI199, S201⟩
          have p0v198 := p0v198 r0_5 R_r0_5
          have p1v198 := p1v198 r0_5 R_r0_5
          try simp only [q197] at p1v198
          have e202 := CM.j S201 R_r0_1 (by decide) e129
          have e203 := CM.j S201 R_r0_1 (by decide) e130
          have e204 := CM.j S201 R_r0_1 (by decide) e131
          have e205 := CM.j S201 R_r0_1 (by decide) e132
          have e206 := CM.j S201 R_r0_4 (by decide) e133
          have e207 := CM.j S201 R_r0_4 (by decide) e134
          have e208 := CM.j S201 R_r0_1 (by decide) e135
          try simp only [q197, e129, e130, e131, e132, e133, e134, e135] at p0v198
          try have q0v198 := congrArg Int32.toInt p0v198
          refine z_iinc C (z := 1) (lw := fun x209 => [(6, .int x209), (0, .ref r0), (1, .int n1), (2, .int n2), (5, .int x118)]) rfl rfl rfl (Nat.le_of_ble_eq_true rfl) rfl ⟨by omega, by omega⟩ (fun _ => rfl) (fun x209 ex209 => ?_)
          show V 138 [(6, .int x209), (0, .ref r0), (1, .int n1), (2, .int n2), (5, .int x118)] _ _ _ _
          refine k_goto C (pc2 := 101) rfl rfl ?_
          refine k_sub S [(0, .ref r0), (1, .int n1), (2, .int n2), (5, .int x118), (6, .int x209)] (List.forall_mem_cons.mpr ⟨List.mem_of_getElem? (i := 1) rfl, List.forall_mem_cons.mpr ⟨List.mem_of_getElem? (i := 2) rfl, List.forall_mem_cons.mpr ⟨List.mem_of_getElem? (i := 3) rfl, List.forall_mem_cons.mpr ⟨List.mem_of_getElem? (i := 4) rfl, List.forall_mem_cons.mpr ⟨List.mem_of_getElem? (i := 0) rfl, fun _ h => nomatch h⟩⟩⟩⟩⟩) ?_
          exact ihJ120 _ (by omega) I199 L200 x209 rfl hI199 (CM.cons S127 (CM.mono S201 (by decide) (by decide)) (by decide) (by decide)) (by omega) (by omega)
      refine k_istore C (lw := [(6, .int x119), (5, .int x118), (4, .int x57), (0, .ref r0), (1, .int n1), (2, .int n2), (3, .int n3)]) rfl rfl (Nat.le_of_ble_eq_true rfl) rfl ?_
      refine k_sub S [(0, .ref r0), (1, .int n1), (2, .int n2), (5, .int x118), (6, .int x119)] (List.forall_mem_cons.mpr ⟨List.mem_of_getElem? (i := 3) rfl, List.forall_mem_cons.mpr ⟨List.mem_of_getElem? (i := 4) rfl, List.forall_mem_cons.mpr ⟨List.mem_of_getElem? (i := 5) rfl, List.forall_mem_cons.mpr ⟨List.mem_of_getElem? (i := 1) rfl, List.forall_mem_cons.mpr ⟨List.mem_of_getElem? (i := 0) rfl, fun _ h => nomatch h⟩⟩⟩⟩⟩) ?_
      exact J120 _ I105 L106 x119 rfl hI105 CM.rf (by omega) (by omega)
    refine z_iconst C (z := 0) rfl rfl rfl (fun x210 ex210 => ?_)
    exact k_iret C rfl (Or.inr ⟨rfl, z01 (by omega) (by omega)⟩) (Nat.le_of_ble_eq_true rfl) (Nat.le_of_ble_eq_true rfl) ⟨_, _, _, rfl, rfl, by omega, by omega, hI81, (CM.cons S3 (CM.cons S49 (CM.cons S60 (CM.cons S71 (CM.mono S83 (by decide) (by decide)) (by decide) (by decide)) (by decide) (by decide)) (by decide) (by decide)) (by decide) (by decide))⟩
  refine z_iconst C (z := 1) rfl rfl rfl (fun x211 ex211 => ?_)
  refine k_goto C (pc2 := 35) rfl rfl ?_
  refine z_iconst C (z := 1) rfl rfl rfl (fun x212 ex212 => ?_)
  have q213 : x211.toNatClampNeg = 1 := nck (by omega)
  have q214 : x212.toNatClampNeg = 1 := nck (by omega)
  refine c_VI C (a_X12_throwsIf hI2 H_r0 (by omega) (by omega)) rfl rfl rfl rfl rfl ⟨_, rfl, rfl, T_r0, Nat.le_of_ble_eq_true rfl⟩ rfl rfl (Nat.le_of_ble_eq_true rfl) (Nat.le_of_ble_eq_true rfl) (Nat.le_of_ble_eq_true rfl) ?_
  rintro x215 I216 L217 ⟨o0x215, o1x215, p0x215, hI216, S218⟩
  have e220 := CM.j S218 R_r0_1 (by decide) e7
  have e221 := CM.j S218 R_r0_1 (by decide) e23
  have e222 := CM.j S218 R_r0_1 (by decide) e40
  have gx215 := rg x215
  try simp only [q213, q214, e4, e7, e23, e40] at p0x215
  try have q0x215 := congrArg Int32.toInt p0x215
  refine b_if_eq C (t := 44) rfl rfl rfl (fun c223 => by exfalso; omega) (fun c223 => ?_)
  refine z_iconst C (z := 0) rfl rfl rfl (fun x224 ex224 => ?_)
  exact k_iret C rfl (Or.inr ⟨rfl, z01 (by omega) (by omega)⟩) (Nat.le_of_ble_eq_true rfl) (Nat.le_of_ble_eq_true rfl) ⟨_, _, _, rfl, rfl, by omega, by omega, hI216, (CM.cons S3 (CM.mono S218 (by decide) (by decide)) (by decide) (by decide))⟩

theorem a_X12_agree {d : Nat} {T N : Nat → Nat} {I : IT} {L : LT} {R : RT} {A : Nat → Prop} {r0 : Nat} {n1 n2 n3 : Int32} (hI : IM R r0 I) (H_r0 : (h_MD T N R A) r0) : Ex (d + 9) 257 [.ref r0, .int n1, .int n2, .int n3] (T, N, I, L, R) 0 0 (pI T N R (fun x9 I9 L9 => (-1 ≤ x9.toInt) ∧ (x9.toInt ≤ 15) ∧ (IM R r0 I9 ∧ CM A R r0 [0] [4, 5] I L I9 L9))) := by
  refine ⟨_, rfl, Nat.le_of_ble_eq_true rfl, fun V C S => ?_⟩
  show V 0 [(0, .ref r0), (1, .int n1), (2, .int n2), (3, .int n3)] [] (T, N, I, L, R) 0 0
  have gn1 := rg n1
  have gn2 := rg n2
  have gn3 := rg n3
  obtain ⟨T_r0, A_r0, ⟨r0_1, R_r0_1, H_r0_1⟩, ⟨r0_2, R_r0_2, H_r0_2⟩, ⟨r0_4, R_r0_4, H_r0_4⟩, ⟨r0_5, R_r0_5, H_r0_5⟩, ⟨r0_10, R_r0_10, H_r0_10⟩, ⟨r0_18, R_r0_18, H_r0_18⟩, ⟨r0_20, R_r0_20, H_r0_20⟩, ⟨r0_21, R_r0_21, H_r0_21⟩, ⟨r0_22, R_r0_22, H_r0_22⟩, ⟨r0_23, R_r0_23, H_r0_23⟩, ⟨r0_25, R_r0_25, H_r0_25⟩, ⟨r0_26, R_r0_26, H_r0_26⟩, ⟨r0_27, R_r0_27, H_r0_27⟩, ⟨r0_28, R_r0_28, H_r0_28⟩, ⟨r0_34, R_r0_34, H_r0_34⟩, J_r0, Y_r0⟩ := id H_r0
  have G_r0 : mF T R r0 := ⟨J_r0, Y_r0, T_r0⟩
  refine k_aload_n C rfl rfl rfl ?_
  refine z_iconst C (z := 0) rfl rfl rfl (fun x1 ex1 => ?_)
  refine z_pI C rfl rfl rfl T_r0 (Or.inr rfl) rfl (fun I2 uI2 => ?_)
  have hI2 : IM R r0 I2 := IM.fld hI G_r0 (by decide) ⟨(fun h => absurd h (by decide)), (fun h => absurd h (by decide)), (fun h => absurd h (by decide)), (fun h => absurd h (by decide)), (fun h => absurd h (by decide))⟩ uI2
  have S3 : CM A R r0 [0] [] I L I2 L := CM.f G_r0 A_r0 uI2
  have e4 := u2_e uI2
  refine k_aload_n C rfl rfl rfl ?_
  refine k_aload_n C rfl rfl rfl ?_
  refine k_iload_n C rfl rfl rfl ?_
  refine c_VI C (a_X12_noSigns hI2 H_r0) rfl rfl rfl rfl rfl ⟨_, rfl, rfl, T_r0, Nat.le_of_ble_eq_true rfl⟩ rfl rfl (Nat.le_of_ble_eq_true rfl) (Nat.le_of_ble_eq_true rfl) (Nat.le_of_ble_eq_true rfl) ?_
  rintro x5 _ _ ⟨o0x5, o1x5, p0x5, rfl, rfl⟩
  have p0x5 := p0x5 r0_1 R_r0_1
  have gx5 := rg x5
  obtain ⟨x6, e7⟩ : ∃ x, I2 r0_1 3 = x := ⟨_, rfl⟩
  have gx6 := rg x6
  have ox6 := IM.c3 hI2 R_r0_1 e7
  try simp only [e4, e7] at p0x5
  try have q0x5 := congrArg Int32.toInt p0x5
  refine b_if_ne C (t := 22) rfl rfl rfl (fun c8 => ?_) (fun c8 => ?_)
  · skip
    refine z_iconst C (z := 1) rfl rfl rfl (fun x9 ex9 => ?_)
    refine k_goto C (pc2 := 27) rfl rfl ?_
    refine z_iconst C (z := 1) rfl rfl rfl (fun x10 ex10 => ?_)
    have q11 : x9.toNatClampNeg = 1 := nck (by omega)
    have q12 : x10.toNatClampNeg = 1 := nck (by omega)
    refine c_VI C (a_X12_throwsIf hI2 H_r0 (by omega) (by omega)) rfl rfl rfl rfl rfl ⟨_, rfl, rfl, T_r0, Nat.le_of_ble_eq_true rfl⟩ rfl rfl (Nat.le_of_ble_eq_true rfl) (Nat.le_of_ble_eq_true rfl) (Nat.le_of_ble_eq_true rfl) ?_
    rintro x13 I14 L15 ⟨o0x13, o1x13, p0x13, hI14, S16⟩
    have e18 := CM.j S16 R_r0_1 (by decide) e7
    have gx13 := rg x13
    try simp only [q11, q12, e4, e7] at p0x13
    try have q0x13 := congrArg Int32.toInt p0x13
    refine b_if_ne C (t := 57) rfl rfl rfl (fun c19 => ?_) (fun c19 => by exfalso; omega)
    refine z_iconst C (z := 0) rfl rfl rfl (fun x20 ex20 => ?_)
    exact k_iret C rfl (Or.inl rfl) (Nat.le_of_ble_eq_true rfl) (Nat.le_of_ble_eq_true rfl) ⟨_, _, _, rfl, rfl, by omega, by omega, hI14, (CM.cons S3 (CM.mono S16 (by decide) (by decide)) (by decide) (by decide))⟩
  refine k_aload_n C rfl rfl rfl ?_
  refine k_iload_n C rfl rfl rfl ?_
  refine c_VI C (a_X12_noSigns hI2 H_r0) rfl rfl rfl rfl rfl ⟨_, rfl, rfl, T_r0, Nat.le_of_ble_eq_true rfl⟩ rfl rfl (Nat.le_of_ble_eq_true rfl) (Nat.le_of_ble_eq_true rfl) (Nat.le_of_ble_eq_true rfl) ?_
  rintro x21 _ _ ⟨o0x21, o1x21, p0x21, rfl, rfl⟩
  have p0x21 := p0x21 r0_1 R_r0_1
  have gx21 := rg x21
  try simp only [e4, e7, e7] at p0x21
  try have q0x21 := congrArg Int32.toInt p0x21
  refine b_if_eq C (t := 26) rfl rfl rfl (fun c22 => ?_) (fun c22 => ?_)
  · skip
    refine z_iconst C (z := 0) rfl rfl rfl (fun x23 ex23 => ?_)
    refine z_iconst C (z := 1) rfl rfl rfl (fun x24 ex24 => ?_)
    have q25 : x23.toNatClampNeg = 0 := nck (by omega)
    have q26 : x24.toNatClampNeg = 1 := nck (by omega)
    refine c_VI C (a_X12_throwsIf hI2 H_r0 (by omega) (by omega)) rfl rfl rfl rfl rfl ⟨_, rfl, rfl, T_r0, Nat.le_of_ble_eq_true rfl⟩ rfl rfl (Nat.le_of_ble_eq_true rfl) (Nat.le_of_ble_eq_true rfl) (Nat.le_of_ble_eq_true rfl) ?_
    rintro x27 I28 L29 ⟨o0x27, o1x27, p0x27, hI28, S30⟩
    have e32 := CM.j S30 R_r0_1 (by decide) e7
    have gx27 := rg x27
    try simp only [q25, q26, e4, e7] at p0x27
    try have q0x27 := congrArg Int32.toInt p0x27
    refine b_if_ne C (t := 57) rfl rfl rfl (fun c33 => by exfalso; omega) (fun c33 => ?_)
    refine k_aload_n C rfl rfl rfl ?_
    refine k_iload_n C rfl rfl rfl ?_
    refine z_iconst C (z := 0) rfl rfl rfl (fun x34 ex34 => ?_)
    refine z_bipush C (z := 8) rfl rfl rfl (fun x35 ex35 => ?_)
    have q36 : x34.toNatClampNeg = 0 := nck (by omega)
    have q37 : x35.toNatClampNeg = 8 := nck (by omega)
    refine c_SI C a_X12_in rfl rfl rfl rfl rfl rfl rfl (Nat.le_of_ble_eq_true rfl) (Nat.le_of_ble_eq_true rfl) (Nat.le_of_ble_eq_true rfl) ?_
    rintro x38 _ _ ⟨o0x38, o1x38, p0x38, rfl, rfl⟩
    have gx38 := rg x38
    try simp only [q36, q37, e32] at p0x38
    try have q0x38 := congrArg Int32.toInt p0x38
    refine b_if_ne C (t := 49) rfl rfl rfl (fun c39 => ?_) (fun c39 => ?_)
    · skip
      refine z_iconst C (z := 0) rfl rfl rfl (fun x40 ex40 => ?_)
      refine z_iconst C (z := 2) rfl rfl rfl (fun x41 ex41 => ?_)
      have q42 : x40.toNatClampNeg = 0 := nck (by omega)
      have q43 : x41.toNatClampNeg = 2 := nck (by omega)
      refine c_VI C (a_X12_throwsIf hI28 H_r0 (by omega) (by omega)) rfl rfl rfl rfl rfl ⟨_, rfl, rfl, T_r0, Nat.le_of_ble_eq_true rfl⟩ rfl rfl (Nat.le_of_ble_eq_true rfl) (Nat.le_of_ble_eq_true rfl) (Nat.le_of_ble_eq_true rfl) ?_
      rintro x44 I45 L46 ⟨o0x44, o1x44, p0x44, hI45, S47⟩
      have e48 := CM.j S47 R_r0_1 (by decide) e32
      have gx44 := rg x44
      try simp only [q42, q43, e32] at p0x44
      try have q0x44 := congrArg Int32.toInt p0x44
      refine b_if_eq C (t := 59) rfl rfl rfl (fun c49 => ?_) (fun c49 => by exfalso; omega)
      refine z_iconst C (z := 0) rfl rfl rfl (fun x50 ex50 => ?_)
      have J51 : ∀ (nn52 : Nat) (I53 : IT) (L54 : LT) (x55 : Int32), ((16 - x55.toInt).toNat = nn52) → (IM R r0 I53) → (CM A R r0 [] [4, 5] I45 L46 I53 L54) → (0 ≤ x55.toInt) → (x55.toInt ≤ 16) → V 62 [(0, .ref r0), (1, .int n1), (2, .int n2), (3, .int n3), (4, .int x55)] [] (T, N, I53, L54, R) 0 0 := by
        intro nn52
        induction nn52 using Nat.strongRecOn with
        | _ nn52 ihJ51 =>
          intro I53 L54 x55 hmnn52 hI59 S58 b56 b57
          have gx55 := rg x55
          have e60 := CM.j S58 R_r0_1 (by decide) e48
          refine k_iload C rfl rfl rfl ?_
          refine k_aload_n C rfl rfl rfl ?_
          refine g_R C rfl rfl rfl T_r0 rfl R_r0_1 ?_
          refine z_iconst C (z := 1) rfl rfl rfl (fun x61 ex61 => ?_)
          obtain ⟨T_r0_1, N_r0_1, A_r0_1⟩ := id H_r0_1
          refine z_aI C rfl rfl T_r0_1 N_r0_1 (by omega) (by omega) (fun x62 ex62 => ?_)
          have gx62 := rg x62
          have nx62 : I53 r0_1 1 = x62 := (congrArg (I53 r0_1) (nck (n := 1) (by omega))).symm.trans ex62
          have ox62 := IM.c1 hI59 R_r0_1 nx62
          refine b_icmp_ge C (t := 151) rfl rfl rfl (fun c63 => ?_) (fun c63 => ?_)
          · skip
            refine z_iconst C (z := -1) rfl rfl rfl (fun x64 ex64 => ?_)
            exact k_iret C rfl (Or.inl rfl) (Nat.le_of_ble_eq_true rfl) (Nat.le_of_ble_eq_true rfl) ⟨_, _, _, rfl, rfl, by omega, by omega, hI59, (CM.cons S3 (CM.cons S30 (CM.cons S47 (CM.mono S58 (by decide) (by decide)) (by decide) (by decide)) (by decide) (by decide)) (by decide) (by decide))⟩
          refine k_aload_n C rfl rfl rfl ?_
          refine k_iload C rfl rfl rfl ?_
          refine c_VI C (a_X12_degreeOf hI59 H_r0 (by omega) (by omega)) rfl rfl rfl rfl rfl ⟨_, rfl, rfl, T_r0, Nat.le_of_ble_eq_true rfl⟩ rfl rfl (Nat.le_of_ble_eq_true rfl) (Nat.le_of_ble_eq_true rfl) (Nat.le_of_ble_eq_true rfl) ?_
          rintro x65 _ _ ⟨o0x65, o1x65, p0x65, rfl, rfl⟩
          have p0x65 := p0x65 r0_1 R_r0_1
          have gx65 := rg x65
          obtain ⟨x66, e67⟩ : ∃ x, I53 r0_1 (6 + 10 * x55.toNatClampNeg) = x := ⟨_, rfl⟩
          have gx66 := rg x66
          try simp only [e60, nx62, e67] at p0x65
          try have q0x65 := congrArg Int32.toInt p0x65
          refine k_iload_n C rfl rfl rfl ?_
          refine b_icmp_eq C (t := 86) rfl rfl rfl (fun c68 => ?_) (fun c68 => ?_)
          · skip
            refine k_aload_n C rfl rfl rfl ?_
            refine z_bipush C (z := 44) rfl rfl rfl (fun x69 ex69 => ?_)
            refine k_iload C rfl rfl rfl ?_
            have q70 : x69.toNatClampNeg = 44 := nck (by omega)
            refine c_VV C (a_X12_takes hI59 H_r0 (by omega) (by omega) (by omega) (by omega)) rfl rfl rfl rfl rfl ⟨_, rfl, rfl, T_r0, Nat.le_of_ble_eq_true rfl⟩ rfl rfl (Nat.le_of_ble_eq_true rfl) (Nat.le_of_ble_eq_true rfl) (Nat.le_of_ble_eq_true rfl) ?_
            rintro I72 L73 ⟨p0v71, p1v71, p2v71, p3v71, hI72, S74⟩
            have p0v71 := p0v71 r0_4 R_r0_4
            have p1v71 := p1v71 r0_1 r0_4 R_r0_1 R_r0_4
            have p2v71 := p2v71 r0_4 R_r0_4
            have p3v71 := p3v71 r0_5 R_r0_5
            try simp only [q70] at p2v71
            try simp only [q70] at p3v71
            have e75 := CM.j S74 R_r0_1 (by decide) e60
            have e76 := CM.j S74 R_r0_1 (by decide) nx62
            have e77 := CM.j S74 R_r0_1 (by decide) e67
            obtain ⟨x78, e79⟩ : ∃ x, I72 r0_4 44 = x := ⟨_, rfl⟩
            have gx78 := rg x78
            have ox78 := IM.dgR hI72 R_r0_4 e79
            try simp only [q70, e60, nx62, e67, e79] at p0v71
            try have q0v71 := congrArg Int32.toInt p0v71
            try simp only [q70, e60, nx62, e67, e79] at p1v71
            try have q1v71 := congrArg Int32.toInt p1v71
            refine k_aload_n C rfl rfl rfl ?_
            refine k_iload_n C rfl rfl rfl ?_
            refine c_VI C (a_X12_makes hI72 H_r0 (by omega) (by omega) (fun a1 h1 => by cases (R_r0_1.symm.trans h1); first | omega | (simp only [e75, e76, e77, e79] <;> omega))) rfl rfl rfl rfl rfl ⟨_, rfl, rfl, T_r0, Nat.le_of_ble_eq_true rfl⟩ rfl rfl (Nat.le_of_ble_eq_true rfl) (Nat.le_of_ble_eq_true rfl) (Nat.le_of_ble_eq_true rfl) ?_
            rintro x80 I81 L82 ⟨o0x80, o1x80, hI81, S83⟩
            have e84 := CM.j S83 R_r0_1 (by decide) e75
            have e85 := CM.j S83 R_r0_1 (by decide) e76
            have e86 := CM.j S83 R_r0_1 (by decide) e77
            have gx80 := rg x80
            refine k_istore C (lw := [(5, .int x80), (0, .ref r0), (1, .int n1), (2, .int n2), (3, .int n3), (4, .int x55)]) rfl rfl (Nat.le_of_ble_eq_true rfl) rfl ?_
            refine k_iload C rfl rfl rfl ?_
            refine b_if_eq C (t := 113) rfl rfl rfl (fun c88 => ?_) (fun c88 => ?_)
            · skip
              refine k_aload_n C rfl rfl rfl ?_
              refine k_iload_n C rfl rfl rfl ?_
              refine c_VI C (a_X12_makes hI81 H_r0 (by omega) (by omega) (fun a1 h1 => by cases (R_r0_1.symm.trans h1); first | omega | (simp only [e84, e85, e86] <;> omega))) rfl rfl rfl rfl rfl ⟨_, rfl, rfl, T_r0, Nat.le_of_ble_eq_true rfl⟩ rfl rfl (Nat.le_of_ble_eq_true rfl) (Nat.le_of_ble_eq_true rfl) (Nat.le_of_ble_eq_true rfl) ?_
              rintro x89 I90 L91 ⟨o0x89, o1x89, hI90, S92⟩
              have e93 := CM.j S92 R_r0_1 (by decide) e84
              have e94 := CM.j S92 R_r0_1 (by decide) e85
              have e95 := CM.j S92 R_r0_1 (by decide) e86
              have gx89 := rg x89
              refine k_istore C (lw := [(6, .int x89), (5, .int x80), (0, .ref r0), (1, .int n1), (2, .int n2), (3, .int n3), (4, .int x55)]) rfl rfl (Nat.le_of_ble_eq_true rfl) rfl ?_
              refine k_iload C rfl rfl rfl ?_
              refine k_iload C rfl rfl rfl ?_
              refine b_icmp_ne C (t := 142) rfl rfl rfl (fun c96 => ?_) (fun c96 => ?_)
              · skip
                refine k_iload C rfl rfl rfl ?_
                exact k_iret C rfl (Or.inl rfl) (Nat.le_of_ble_eq_true rfl) (Nat.le_of_ble_eq_true rfl) ⟨_, _, _, rfl, rfl, by omega, by omega, hI90, (CM.cons S3 (CM.cons S30 (CM.cons S47 (CM.cons S58 (CM.cons S74 (CM.cons S83 (CM.mono S92 (by decide) (by decide)) (by decide) (by decide)) (by decide) (by decide)) (by decide) (by decide)) (by decide) (by decide)) (by decide) (by decide)) (by decide) (by decide))⟩
              refine k_iload C rfl rfl rfl ?_
              refine b_if_eq C (t := 145) rfl rfl rfl (fun c97 => ?_) (fun c97 => by exfalso; omega)
              refine z_iinc C (z := 1) (lw := fun x98 => [(4, .int x98), (6, .int x89), (5, .int x80), (0, .ref r0), (1, .int n1), (2, .int n2), (3, .int n3)]) rfl rfl rfl (Nat.le_of_ble_eq_true rfl) rfl ⟨by omega, by omega⟩ (fun _ => rfl) (fun x98 ex98 => ?_)
              show V 148 [(4, .int x98), (6, .int x89), (5, .int x80), (0, .ref r0), (1, .int n1), (2, .int n2), (3, .int n3)] _ _ _ _
              refine k_goto C (pc2 := 62) rfl rfl ?_
              refine k_sub S [(0, .ref r0), (1, .int n1), (2, .int n2), (3, .int n3), (4, .int x98)] (List.forall_mem_cons.mpr ⟨List.mem_of_getElem? (i := 3) rfl, List.forall_mem_cons.mpr ⟨List.mem_of_getElem? (i := 4) rfl, List.forall_mem_cons.mpr ⟨List.mem_of_getElem? (i := 5) rfl, List.forall_mem_cons.mpr ⟨List.mem_of_getElem? (i := 6) rfl, List.forall_mem_cons.mpr ⟨List.mem_of_getElem? (i := 0) rfl, fun _ h => nomatch h⟩⟩⟩⟩⟩) ?_
              exact ihJ51 _ (by omega) I90 L91 x98 rfl hI90 (CM.cons S58 (CM.cons S74 (CM.cons S83 (CM.mono S92 (by decide) (by decide)) (by decide) (by decide)) (by decide) (by decide)) (by decide) (by decide)) (by omega) (by omega)
            refine k_aload_n C rfl rfl rfl ?_
            refine z_iconst C (z := 0) rfl rfl rfl (fun x99 ex99 => ?_)
            refine z_bipush C (z := 42) rfl rfl rfl (fun x100 ex100 => ?_)
            obtain ⟨x101, e102⟩ : ∃ x, I81 r0_4 0 = x := ⟨_, rfl⟩
            have gx101 := rg x101
            have ox101 := IM.dgR hI81 R_r0_4 e102
            have q103 : x99.toNatClampNeg = 0 := nck (by omega)
            have q104 : x100.toNatClampNeg = 42 := nck (by omega)
            refine c_VV C (a_X12_copies hI81 H_r0 (by omega) (by omega) (by omega) (by omega)) rfl rfl rfl rfl rfl ⟨_, rfl, rfl, T_r0, Nat.le_of_ble_eq_true rfl⟩ rfl rfl (Nat.le_of_ble_eq_true rfl) (Nat.le_of_ble_eq_true rfl) (Nat.le_of_ble_eq_true rfl) ?_
            rintro I106 L107 ⟨p0v105, p1v105, p2v105, hI106, S108⟩
            have p0v105 := p0v105 r0_4 R_r0_4
            have p1v105 := p1v105 r0_4 R_r0_4
            have p2v105 := p2v105 r0_5 R_r0_5
            try simp only [q103, q104] at p1v105
            try simp only [q103, q104] at p2v105
            have e109 := CM.j S108 R_r0_1 (by decide) e84
            have e110 := CM.j S108 R_r0_1 (by decide) e85
            have e111 := CM.j S108 R_r0_1 (by decide) e86
            have e112 := (p1v105 0 (by first | decide | exact ncne (by omega) (by omega) (by omega) | exact nckn (by omega) (by omega) | exact (nckn (by omega) (by omega)).symm)).trans e102
            obtain ⟨x113, e114⟩ : ∃ x, I106 r0_4 42 = x := ⟨_, rfl⟩
            have gx113 := rg x113
            have ox113 := IM.dgR hI106 R_r0_4 e114
            try simp only [q103, q104, e84, e85, e86, e102, e114] at p0v105
            try have q0v105 := congrArg Int32.toInt p0v105
            refine k_aload_n C rfl rfl rfl ?_
            refine k_iload_n C rfl rfl rfl ?_
            refine c_VI C (a_X12_makes hI106 H_r0 (by omega) (by omega) (fun a1 h1 => by cases (R_r0_1.symm.trans h1); first | omega | (simp only [e109, e110, e111, e112, e114] <;> omega))) rfl rfl rfl rfl rfl ⟨_, rfl, rfl, T_r0, Nat.le_of_ble_eq_true rfl⟩ rfl rfl (Nat.le_of_ble_eq_true rfl) (Nat.le_of_ble_eq_true rfl) (Nat.le_of_ble_eq_true rfl) ?_
            rintro x115 I116 L117 ⟨o0x115, o1x115, hI116, S118⟩
            have e119 := CM.j S118 R_r0_1 (by decide) e109
            have e120 := CM.j S118 R_r0_1 (by decide) e110
            have e121 := CM.j S118 R_r0_1 (by decide) e111
            have gx115 := rg x115
            refine k_istore C (lw := [(6, .int x115), (5, .int x80), (0, .ref r0), (1, .int n1), (2, .int n2), (3, .int n3), (4, .int x55)]) rfl rfl (Nat.le_of_ble_eq_true rfl) rfl ?_
            refine k_iload C rfl rfl rfl ?_
            refine k_iload C rfl rfl rfl ?_
            refine b_icmp_ne C (t := 142) rfl rfl rfl (fun c124 => ?_) (fun c124 => ?_)
            · skip
              refine k_iload C rfl rfl rfl ?_
              exact k_iret C rfl (Or.inl rfl) (Nat.le_of_ble_eq_true rfl) (Nat.le_of_ble_eq_true rfl) ⟨_, _, _, rfl, rfl, by omega, by omega, hI116, (CM.cons S3 (CM.cons S30 (CM.cons S47 (CM.cons S58 (CM.cons S74 (CM.cons S83 (CM.cons S108 (CM.mono S118 (by decide) (by decide)) (by decide) (by decide)) (by decide) (by decide)) (by decide) (by decide)) (by decide) (by decide)) (by decide) (by decide)) (by decide) (by decide)) (by decide) (by decide))⟩
            refine k_iload C rfl rfl rfl ?_
            refine b_if_eq C (t := 145) rfl rfl rfl (fun c125 => by exfalso; omega) (fun c125 => ?_)
            refine k_aload_n C rfl rfl rfl ?_
            refine z_iconst C (z := 0) rfl rfl rfl (fun x126 ex126 => ?_)
            refine z_bipush C (z := 42) rfl rfl rfl (fun x127 ex127 => ?_)
            refine c_VI C (a_X12_isLike hI116 H_r0 (by omega) (by omega) (by omega) (by omega)) rfl rfl rfl rfl rfl ⟨_, rfl, rfl, T_r0, Nat.le_of_ble_eq_true rfl⟩ rfl rfl (Nat.le_of_ble_eq_true rfl) (Nat.le_of_ble_eq_true rfl) (Nat.le_of_ble_eq_true rfl) ?_
            rintro x128 _ _ ⟨o0x128, o1x128, rfl, rfl⟩
            have gx128 := rg x128
            refine b_if_ne C (t := 145) rfl rfl rfl (fun c129 => ?_) (fun c129 => ?_)
            · skip
              refine z_iinc C (z := 1) (lw := fun x130 => [(4, .int x130), (6, .int x115), (5, .int x80), (0, .ref r0), (1, .int n1), (2, .int n2), (3, .int n3)]) rfl rfl rfl (Nat.le_of_ble_eq_true rfl) rfl ⟨by omega, by omega⟩ (fun _ => rfl) (fun x130 ex130 => ?_)
              show V 148 [(4, .int x130), (6, .int x115), (5, .int x80), (0, .ref r0), (1, .int n1), (2, .int n2), (3, .int n3)] _ _ _ _
              refine k_goto C (pc2 := 62) rfl rfl ?_
              refine k_sub S [(0, .ref r0), (1, .int n1), (2, .int n2), (3, .int n3), (4, .int x130)] (List.forall_mem_cons.mpr ⟨List.mem_of_getElem? (i := 3) rfl, List.forall_mem_cons.mpr ⟨List.mem_of_getElem? (i := 4) rfl, List.forall_mem_cons.mpr ⟨List.mem_of_getElem? (i := 5) rfl, List.forall_mem_cons.mpr ⟨List.mem_of_getElem? (i := 6) rfl, List.forall_mem_cons.mpr ⟨List.mem_of_getElem? (i := 0) rfl, fun _ h => nomatch h⟩⟩⟩⟩⟩) ?_
              exact ihJ51 _ (by omega) I116 L117 x130 rfl hI116 (CM.cons S58 (CM.cons S74 (CM.cons S83 (CM.cons S108 (CM.mono S118 (by decide) (by decide)) (by decide) (by decide)) (by decide) (by decide)) (by decide) (by decide)) (by decide) (by decide)) (by omega) (by omega)
            refine k_iload C rfl rfl rfl ?_
            exact k_iret C rfl (Or.inl rfl) (Nat.le_of_ble_eq_true rfl) (Nat.le_of_ble_eq_true rfl) ⟨_, _, _, rfl, rfl, by omega, by omega, hI116, (CM.cons S3 (CM.cons S30 (CM.cons S47 (CM.cons S58 (CM.cons S74 (CM.cons S83 (CM.cons S108 (CM.mono S118 (by decide) (by decide)) (by decide) (by decide)) (by decide) (by decide)) (by decide) (by decide)) (by decide) (by decide)) (by decide) (by decide)) (by decide) (by decide)) (by decide) (by decide))⟩
          refine k_goto C (pc2 := 145) rfl rfl ?_
          refine z_iinc C (z := 1) (lw := fun x131 => [(4, .int x131), (0, .ref r0), (1, .int n1), (2, .int n2), (3, .int n3)]) rfl rfl rfl (Nat.le_of_ble_eq_true rfl) rfl ⟨by omega, by omega⟩ (fun _ => rfl) (fun x131 ex131 => ?_)
          show V 148 [(4, .int x131), (0, .ref r0), (1, .int n1), (2, .int n2), (3, .int n3)] _ _ _ _
          refine k_goto C (pc2 := 62) rfl rfl ?_
          refine k_sub S [(0, .ref r0), (1, .int n1), (2, .int n2), (3, .int n3), (4, .int x131)] (List.forall_mem_cons.mpr ⟨List.mem_of_getElem? (i := 1) rfl, List.forall_mem_cons.mpr ⟨List.mem_of_getElem? (i := 2) rfl, List.forall_mem_cons.mpr ⟨List.mem_of_getElem? (i := 3) rfl, List.forall_mem_cons.mpr ⟨List.mem_of_getElem? (i := 4) rfl, List.forall_mem_cons.mpr ⟨List.mem_of_getElem? (i := 0) rfl, fun _ h => nomatch h⟩⟩⟩⟩⟩) ?_
          exact ihJ51 _ (by omega) I53 L54 x131 rfl hI59 (CM.mono S58 (by decide) (by decide)) (by omega) (by omega)
      refine k_istore C (lw := [(4, .int x50), (0, .ref r0), (1, .int n1), (2, .int n2), (3, .int n3)]) rfl rfl (Nat.le_of_ble_eq_true rfl) rfl ?_
      refine k_sub S [(0, .ref r0), (1, .int n1), (2, .int n2), (3, .int n3), (4, .int x50)] (List.forall_mem_cons.mpr ⟨List.mem_of_getElem? (i := 1) rfl, List.forall_mem_cons.mpr ⟨List.mem_of_getElem? (i := 2) rfl, List.forall_mem_cons.mpr ⟨List.mem_of_getElem? (i := 3) rfl, List.forall_mem_cons.mpr ⟨List.mem_of_getElem? (i := 4) rfl, List.forall_mem_cons.mpr ⟨List.mem_of_getElem? (i := 0) rfl, fun _ h => nomatch h⟩⟩⟩⟩⟩) ?_
      exact J51 _ I45 L46 x50 rfl hI45 CM.rf (by omega) (by omega)
    refine z_iconst C (z := 1) rfl rfl rfl (fun x132 ex132 => ?_)
    refine k_goto C (pc2 := 50) rfl rfl ?_
    refine z_iconst C (z := 2) rfl rfl rfl (fun x133 ex133 => ?_)
    have q134 : x132.toNatClampNeg = 1 := nck (by omega)
    have q135 : x133.toNatClampNeg = 2 := nck (by omega)
    refine c_VI C (a_X12_throwsIf hI28 H_r0 (by omega) (by omega)) rfl rfl rfl rfl rfl ⟨_, rfl, rfl, T_r0, Nat.le_of_ble_eq_true rfl⟩ rfl rfl (Nat.le_of_ble_eq_true rfl) (Nat.le_of_ble_eq_true rfl) (Nat.le_of_ble_eq_true rfl) ?_
    rintro x136 I137 L138 ⟨o0x136, o1x136, p0x136, hI137, S139⟩
    have e140 := CM.j S139 R_r0_1 (by decide) e32
    have gx136 := rg x136
    try simp only [q134, q135, e32] at p0x136
    try have q0x136 := congrArg Int32.toInt p0x136
    refine b_if_eq C (t := 59) rfl rfl rfl (fun c141 => by exfalso; omega) (fun c141 => ?_)
    refine z_iconst C (z := 0) rfl rfl rfl (fun x142 ex142 => ?_)
    exact k_iret C rfl (Or.inl rfl) (Nat.le_of_ble_eq_true rfl) (Nat.le_of_ble_eq_true rfl) ⟨_, _, _, rfl, rfl, by omega, by omega, hI137, (CM.cons S3 (CM.cons S30 (CM.mono S139 (by decide) (by decide)) (by decide) (by decide)) (by decide) (by decide))⟩
  refine z_iconst C (z := 1) rfl rfl rfl (fun x143 ex143 => ?_)
  refine k_goto C (pc2 := 27) rfl rfl ?_
  refine z_iconst C (z := 1) rfl rfl rfl (fun x144 ex144 => ?_)
  have q145 : x143.toNatClampNeg = 1 := nck (by omega)
  have q146 : x144.toNatClampNeg = 1 := nck (by omega)
  refine c_VI C (a_X12_throwsIf hI2 H_r0 (by omega) (by omega)) rfl rfl rfl rfl rfl ⟨_, rfl, rfl, T_r0, Nat.le_of_ble_eq_true rfl⟩ rfl rfl (Nat.le_of_ble_eq_true rfl) (Nat.le_of_ble_eq_true rfl) (Nat.le_of_ble_eq_true rfl) ?_
  rintro x147 I148 L149 ⟨o0x147, o1x147, p0x147, hI148, S150⟩
  have e152 := CM.j S150 R_r0_1 (by decide) e7
  have gx147 := rg x147
  try simp only [q145, q146, e4, e7] at p0x147
  try have q0x147 := congrArg Int32.toInt p0x147
  refine b_if_ne C (t := 57) rfl rfl rfl (fun c153 => ?_) (fun c153 => by exfalso; omega)
  refine z_iconst C (z := 0) rfl rfl rfl (fun x154 ex154 => ?_)
  exact k_iret C rfl (Or.inl rfl) (Nat.le_of_ble_eq_true rfl) (Nat.le_of_ble_eq_true rfl) ⟨_, _, _, rfl, rfl, by omega, by omega, hI148, (CM.cons S3 (CM.mono S150 (by decide) (by decide)) (by decide) (by decide))⟩

