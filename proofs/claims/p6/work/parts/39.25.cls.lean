/-! the class: span and basis without signs -/
theorem e_draw0 {d : Nat} {T N : Nat → Nat} {I : IT} {L : LT} {R : RT} {A : Nat → Prop} {rw dr al nw : Nat} {fd seed : Int32}{p : Int32} (T_rw : T rw = 6) (R_rw_2 : R rw 2 = some dr) (T_dr : T dr = 23) (R_rw_0 : R rw 0 = some al) (T_al : T al = 1) (R_al_0 : R al 0 = some nw) (T_nw : T nw = 9) (I_nw_0 : I nw 0 = p) (hp1 : 2 ≤ p.toInt) (hp2 : p.toInt ≤ 19) (hrow : cRow T N R A dr 12) (hfd : fd.toInt ≤ 8) : Ex (d + 3) 76 [.ref rw, .int fd, .int seed] (T, N, I, L, R) 0 0 (pV T N R (fun I9 L9 => Fr (fun z => A z ∧ (T z = 3 ∨ T z = 20)) I L I9 L9)) := by
  refine ⟨_, rfl, Nat.le_of_ble_eq_true rfl, fun V C S => ?_⟩
  show V 0 [(0, .ref rw), (1, .int fd), (2, .int seed)] [] (T, N, I, L, R) 0 0
  refine k_iload_n C rfl rfl rfl ?_
  refine k_istore_n C (lw := [(3, .int _), (0, _), (1, .int _), (2, .int _)]) rfl rfl (Nat.le_of_ble_eq_true rfl) rfl ?_
  refine k_iconst C (x := 0) rfl rfl rfl ?_
  refine k_istore C (lw := [(4, .int _), (3, .int _), (0, _), (1, .int _), (2, .int _)]) rfl rfl (Nat.le_of_ble_eq_true rfl) rfl ?_
  have inner : ∀ (i f nb : Nat), (∀ (I1 : IT) (L1 : LT) (last x6 : Int32), Fr (fun z => A z ∧ (T z = 3 ∨ T z = 20)) I L I1 L1 → V 81 [(6, .int x6), (3, .int last), (5, .ref f), (4, .int (Int32.ofNat i)), (0, .ref rw), (1, .int fd), (2, .int seed)] [] (T, N, I1, L1, R) 0 0) → T f = 3 → R f 1 = some nb → T nb = 20 → N nb = 41 → A f → A nb → ∀ (m k : Nat) (I1 : IT) (L1 : LT) (last : Int32), m = 9 - k → k ≤ 9 → Fr (fun z => A z ∧ (T z = 3 ∨ T z = 20)) I L I1 L1 → V 37 [(6, .int (Int32.ofNat k)), (3, .int last), (5, .ref f), (4, .int (Int32.ofNat i)), (0, .ref rw), (1, .int fd), (2, .int seed)] [] (T, N, I1, L1, R) 0 0 := by
    intro i f nb K2 T_f R_f_1 T_nb N_nb A_f A_nb m
    induction m using Nat.strongRecOn with
    | _ m ih =>
      intro k I1 L1 last hm hk9 hF
      refine k_iload C rfl rfl rfl ?_
      refine k_iload_n C rfl rfl rfl ?_
      refine k_icmp_gt C (t := 81) rfl rfl rfl (fun c40 => ?_) (fun c40 => ?_)
      · skip
        exact K2 I1 L1 last (Int32.ofNat k) hF
      have hk : k ≤ 8 := Nat.le_of_not_lt (fun h => c40 (by rw [i_lt, n_int (by omega)]; omega))
      refine k_ldc C rfl rfl rfl ?_
      refine k_iload_n C rfl rfl rfl ?_
      refine k_imul C rfl rfl ?_
      refine k_sipush C (x := 12345) rfl rfl rfl ?_
      refine k_iadd C rfl rfl ?_
      refine k_istore_n C (lw := [(3, .int _), (6, .int _), (5, _), (4, .int _), (0, _), (1, .int _), (2, .int _)]) rfl rfl (Nat.le_of_ble_eq_true rfl) rfl ?_
      refine k_aload C rfl rfl rfl ?_
      refine k_iload C rfl rfl rfl ?_
      refine k_aload_n C rfl rfl rfl ?_
      refine g_R C rfl rfl rfl T_rw rfl R_rw_0 ?_
      refine k_iload_n C rfl rfl rfl ?_
      refine k_bipush C (x := 16) rfl rfl rfl ?_
      refine k_iushr C rfl rfl ?_
      refine k_sipush C (x := 32767) rfl rfl rfl ?_
      refine k_iand C rfl rfl ?_
      refine k_i2l C rfl rfl ?_
      refine c_VI C (e_of T_al R_al_0 T_nw ((congrFun (hF nw (fun h => by rcases h.2 with h | h <;> rw [T_nw] at h <;> exact absurd h (by decide))).1 0).trans I_nw_0) hp1 hp2) rfl rfl rfl rfl rfl ⟨_, rfl, rfl, T_al, Nat.le_of_ble_eq_true rfl⟩ rfl rfl (Nat.le_of_ble_eq_true rfl) (Nat.le_of_ble_eq_true rfl) (Nat.le_of_ble_eq_true rfl) ?_
      rintro x69 _ _ ⟨h8, h9, h69⟩
      have h8 := h8.symm; subst h8; have h9 := h9.symm; subst h9
      refine c_VV C (e_set (A := (fun z => A z ∧ (T z = 3 ∨ T z = 20))) T_f R_f_1 T_nb N_nb ⟨A_nb, Or.inr T_nb⟩) rfl rfl rfl rfl rfl ⟨_, rfl, rfl, T_f, Nat.le_of_ble_eq_true rfl⟩ rfl rfl (Nat.le_of_ble_eq_true rfl) (Nat.le_of_ble_eq_true rfl) (Nat.le_of_ble_eq_true rfl) ?_
      intro I2 L2 h72
      refine k_sub S [(6, .int (Int32.ofNat k)), (3, .int _), (5, .ref f), (4, .int (Int32.ofNat i)), (0, .ref rw), (1, .int fd), (2, .int seed)] (List.forall_mem_cons.mpr ⟨List.mem_of_getElem? (i := 1) rfl, List.forall_mem_cons.mpr ⟨List.mem_of_getElem? (i := 0) rfl, List.forall_mem_cons.mpr ⟨List.mem_of_getElem? (i := 2) rfl, List.forall_mem_cons.mpr ⟨List.mem_of_getElem? (i := 3) rfl, List.forall_mem_cons.mpr ⟨List.mem_of_getElem? (i := 4) rfl, List.forall_mem_cons.mpr ⟨List.mem_of_getElem? (i := 5) rfl, List.forall_mem_cons.mpr ⟨List.mem_of_getElem? (i := 6) rfl, fun _ h => nomatch h⟩⟩⟩⟩⟩⟩⟩) ?_
      refine k_inc1 C (lw := [(6, .int _), (3, .int _), (5, _), (4, .int _), (0, _), (1, .int _), (2, .int _)]) rfl rfl rfl (Nat.le_of_ble_eq_true rfl) rfl ?_
      refine k_goto C (pc2 := 37) rfl rfl ?_
      rw [n_s]
      exact ih (9 - (k + 1)) (by omega) (k + 1) _ _ _ rfl (by omega) (Fr.tr hF h72)
  have outer : ∀ (m i : Nat) (I1 : IT) (L1 : LT) (last : Int32), m = 12 - i → i ≤ 12 → Fr (fun z => A z ∧ (T z = 3 ∨ T z = 20)) I L I1 L1 → V 5 [(4, .int (Int32.ofNat i)), (3, .int last), (0, .ref rw), (1, .int fd), (2, .int seed)] [] (T, N, I1, L1, R) 0 0 := by
    intro m
    induction m using Nat.strongRecOn with
    | _ m ih =>
      intro i I1 L1 last hm hi9 hF
      refine k_iload C rfl rfl rfl ?_
      refine k_bipush C (x := 12) rfl rfl rfl ?_
      refine k_icmp_ge C (t := 87) rfl rfl rfl (fun c9 => ?_) (fun c9 => ?_)
      · skip
        exact k_vret C rfl rfl (Nat.le_of_ble_eq_true rfl) (Nat.le_of_ble_eq_true rfl) ⟨_, _, rfl, rfl, hF⟩
      have hi : i < 12 := Nat.lt_of_not_le (fun h => c9 ((n_le (a := 12) (b := i) (by omega) (by omega)).mpr h))
      obtain ⟨f, nb, r1, T_f, R_f_1, T_nb, N_nb, A_f, A_nb⟩ := hrow.2.2 i hi
      refine k_aload_n C rfl rfl rfl ?_
      refine g_R C rfl rfl rfl T_rw rfl R_rw_2 ?_
      refine k_iload C rfl rfl rfl ?_
      refine c_SR C (e_pick_at T_dr hrow.2.1 (Nat.le_of_ble_eq_true rfl) rfl hi r1) rfl rfl rfl rfl rfl rfl rfl (Nat.le_of_ble_eq_true rfl) (Nat.le_of_ble_eq_true rfl) (Nat.le_of_ble_eq_true rfl) ?_
      rintro _ _ _ ⟨rfl, h8, h9⟩
      have h8 := h8.symm; subst h8; have h9 := h9.symm; subst h9
      refine k_astore C (lw := [(5, _), (4, .int _), (3, .int _), (0, _), (1, .int _), (2, .int _)]) rfl rfl (Nat.le_of_ble_eq_true rfl) rfl ?_
      refine k_aload C rfl rfl rfl ?_
      refine k_ifnull C (x := some _) (t := 81) rfl rfl rfl (fun c25 => nomatch c25) (fun _ _ => ?_)
      refine k_aload C rfl rfl rfl ?_
      refine k_iload_n C rfl rfl rfl ?_
      refine c_VV C (e_begin (A := (fun z => A z ∧ (T z = 3 ∨ T z = 20))) T_f R_f_1 T_nb N_nb ⟨A_f, Or.inl T_f⟩ ⟨A_nb, Or.inr T_nb⟩) rfl rfl rfl rfl rfl ⟨_, rfl, rfl, T_f, Nat.le_of_ble_eq_true rfl⟩ rfl rfl (Nat.le_of_ble_eq_true rfl) (Nat.le_of_ble_eq_true rfl) (Nat.le_of_ble_eq_true rfl) ?_
      intro I2 L2 h31
      refine k_iconst C (x := 0) rfl rfl rfl ?_
      refine k_istore C (lw := [(6, .int _), (5, _), (4, .int _), (3, .int _), (0, _), (1, .int _), (2, .int _)]) rfl rfl (Nat.le_of_ble_eq_true rfl) rfl ?_
      refine k_sub S [(6, .int (Int32.ofNat 0)), (3, .int last), (5, .ref f), (4, .int (Int32.ofNat i)), (0, .ref rw), (1, .int fd), (2, .int seed)] (List.forall_mem_cons.mpr ⟨List.mem_of_getElem? (i := 0) rfl, List.forall_mem_cons.mpr ⟨List.mem_of_getElem? (i := 3) rfl, List.forall_mem_cons.mpr ⟨List.mem_of_getElem? (i := 1) rfl, List.forall_mem_cons.mpr ⟨List.mem_of_getElem? (i := 2) rfl, List.forall_mem_cons.mpr ⟨List.mem_of_getElem? (i := 4) rfl, List.forall_mem_cons.mpr ⟨List.mem_of_getElem? (i := 5) rfl, List.forall_mem_cons.mpr ⟨List.mem_of_getElem? (i := 6) rfl, fun _ h => nomatch h⟩⟩⟩⟩⟩⟩⟩) ?_
      refine inner i f nb (fun I3 L3 last3 k3 h3 => ?_) T_f R_f_1 T_nb N_nb A_f A_nb 9 0 _ _ _ rfl (Nat.zero_le _) (Fr.tr hF h31)
      refine k_sub S [(4, .int (Int32.ofNat i)), (3, .int last3), (0, .ref rw), (1, .int fd), (2, .int seed)] (List.forall_mem_cons.mpr ⟨List.mem_of_getElem? (i := 3) rfl, List.forall_mem_cons.mpr ⟨List.mem_of_getElem? (i := 1) rfl, List.forall_mem_cons.mpr ⟨List.mem_of_getElem? (i := 4) rfl, List.forall_mem_cons.mpr ⟨List.mem_of_getElem? (i := 5) rfl, List.forall_mem_cons.mpr ⟨List.mem_of_getElem? (i := 6) rfl, fun _ h => nomatch h⟩⟩⟩⟩⟩) ?_
      refine k_inc1 C (lw := [(4, .int _), (3, .int _), (0, _), (1, .int _), (2, .int _)]) rfl rfl rfl (Nat.le_of_ble_eq_true rfl) rfl ?_
      refine k_goto C (pc2 := 5) rfl rfl ?_
      rw [n_s]
      exact ih (12 - (i + 1)) (by omega) (i + 1) _ _ _ rfl hi h3
  exact outer 12 0 _ _ _ rfl (Nat.zero_le _) Fr.rf


theorem e_independent0 {d : Nat} {T N : Nat → Nat} {I : IT} {L : LT} {R : RT} {A : Nat → Prop} {rw nw dr al : Nat} {set fd seed : Int32}{p : Int32} (T_rw : T rw = 6) (R_rw_2 : R rw 2 = some dr) (T_dr : T dr = 23) (R_rw_0 : R rw 0 = some al) (T_al : T al = 1) (R_al_0 : R al 0 = some nw) (T_nw : T nw = 9) (I_nw_0 : I nw 0 = p) (A_rw : A rw) (I_nw_3 : I nw 3 = 0) (hp1 : 2 ≤ p.toInt) (hp2 : p.toInt ≤ 19) (hrow : cRow T N R A dr 12) (hfd : fd.toInt ≤ 8) : Ex (d + 4) 80 [.ref rw, .ref nw, .int set, .int fd, .int seed] (T, N, I, L, R) 0 0 (pI T N R (fun x9 I9 L9 => x9 = 0 ∧ Fr A I L I9 L9)) := by
  refine ⟨_, rfl, Nat.le_of_ble_eq_true rfl, fun V C S => ?_⟩
  show V 0 [(0, .ref rw), (1, .ref nw), (2, .int set), (3, .int fd), (4, .int seed)] [] (T, N, I, L, R) 0 0
  refine k_aload_n C rfl rfl rfl ?_
  refine k_iload_n C rfl rfl rfl ?_
  refine k_iload C rfl rfl rfl ?_
  refine c_VV C (e_draw0 T_rw R_rw_2 T_dr R_rw_0 T_al R_al_0 T_nw I_nw_0 hp1 hp2 hrow hfd) rfl rfl rfl rfl rfl ⟨_, rfl, rfl, T_rw, Nat.le_of_ble_eq_true rfl⟩ rfl rfl (Nat.le_of_ble_eq_true rfl) (Nat.le_of_ble_eq_true rfl) (Nat.le_of_ble_eq_true rfl) ?_
  intro I1 L1 h1
  have h1' : Fr A I L I1 L1 := h1.mono (fun z hz => hz.1)
  have I_nw_3' : I1 nw 3 = 0 := (congrFun (h1 nw (fun h => by rcases h.2 with h | h <;> rw [T_nw] at h <;> exact absurd h (by decide))).1 3).trans I_nw_3
  refine k_aload_n C rfl rfl rfl ?_
  refine k_iconst C (x := 0) rfl rfl rfl ?_
  refine p_I C rfl rfl rfl T_rw (Or.inr rfl) rfl ?_
  refine k_aload_n C rfl rfl rfl ?_
  refine k_iconst C (x := -1) rfl rfl rfl ?_
  refine p_I C rfl rfl rfl T_rw (Or.inr rfl) rfl ?_
  have hF : Fr A I L (u2 (u2 I1 rw 6 0) rw 7 (-1)) L1 := Fr.i (Fr.i h1' A_rw) A_rw
  have I3 : (u2 (u2 I1 rw 6 0) rw 7 (-1)) nw 3 = 0 := (u2_a (t_nq T_nw T_rw (by decide))).trans ((u2_a (t_nq T_nw T_rw (by decide))).trans I_nw_3')
  generalize u2 (u2 I1 rw 6 0) rw 7 (-1) = I2 at hF I3 ⊢
  refine k_iconst C (x := 0) rfl rfl rfl ?_
  refine k_istore C (lw := [(5, .int _), (0, _), (1, _), (2, .int _), (3, .int _), (4, .int _)]) rfl rfl (Nat.le_of_ble_eq_true rfl) rfl ?_
  refine k_iconst C (x := 0) rfl rfl rfl ?_
  refine k_istore C (lw := [(6, .int _), (5, .int _), (0, _), (1, _), (2, .int _), (3, .int _), (4, .int _)]) rfl rfl (Nat.le_of_ble_eq_true rfl) rfl ?_
  have loop : ∀ (m n : Nat), m = 8 - n → n ≤ 8 → V 23 [(6, .int (Int32.ofNat n)), (5, .int 0), (0, .ref rw), (1, .ref nw), (2, .int set), (3, .int fd), (4, .int seed)] [] (T, N, I2, L1, R) 0 0 := by
    intro m
    induction m using Nat.strongRecOn with
    | _ m ih =>
      intro n hm hn9
      refine k_iload C rfl rfl rfl ?_
      refine k_bipush C (x := 8) rfl rfl rfl ?_
      refine k_icmp_ge C (t := 140) rfl rfl rfl (fun c27 => ?_) (fun c27 => ?_)
      · skip
        refine k_iload C rfl rfl rfl ?_
        exact k_iret C rfl (Or.inl rfl) (Nat.le_of_ble_eq_true rfl) (Nat.le_of_ble_eq_true rfl) ⟨_, _, _, rfl, rfl, rfl, hF⟩
      have hn : n < 8 := Nat.lt_of_not_le (fun h => c27 ((n_le (a := 8) (b := n) (by omega) (by omega)).mpr h))
      refine k_iload_n C rfl rfl rfl ?_
      refine k_iload C rfl rfl rfl ?_
      refine k_iushr C rfl rfl ?_
      refine k_iconst C (x := 1) rfl rfl rfl ?_
      refine k_iand C rfl rfl ?_
      refine k_iconst C (x := 1) rfl rfl rfl ?_
      refine k_icmp_ne C (t := 49) rfl rfl rfl (fun c37 => ?_) (fun c37 => ?_)
      · skip
        refine k_null C rfl rfl ?_
        refine k_astoreV C (x := none) (lw := [(7, _), (6, .int _), (5, .int _), (0, _), (1, _), (2, .int _), (3, .int _), (4, .int _)]) rfl rfl (Nat.le_of_ble_eq_true rfl) rfl ?_
        refine k_aloadV C (x := none) rfl rfl rfl ?_
        refine k_ifnull C (x := none) (t := 134) rfl rfl rfl (fun _ => ?_) (fun _ c54 => nomatch c54)
        refine k_sub S [(6, .int (Int32.ofNat n)), (5, .int 0), (0, .ref rw), (1, .ref nw), (2, .int set), (3, .int fd), (4, .int seed)] (List.forall_mem_cons.mpr ⟨List.mem_of_getElem? (i := 1) rfl, List.forall_mem_cons.mpr ⟨List.mem_of_getElem? (i := 2) rfl, List.forall_mem_cons.mpr ⟨List.mem_of_getElem? (i := 3) rfl, List.forall_mem_cons.mpr ⟨List.mem_of_getElem? (i := 4) rfl, List.forall_mem_cons.mpr ⟨List.mem_of_getElem? (i := 5) rfl, List.forall_mem_cons.mpr ⟨List.mem_of_getElem? (i := 6) rfl, List.forall_mem_cons.mpr ⟨List.mem_of_getElem? (i := 7) rfl, fun _ h => nomatch h⟩⟩⟩⟩⟩⟩⟩) ?_
        refine k_inc1 C (lw := [(6, .int _), (5, .int _), (0, _), (1, _), (2, .int _), (3, .int _), (4, .int _)]) rfl rfl rfl (Nat.le_of_ble_eq_true rfl) rfl ?_
        refine k_goto C (pc2 := 23) rfl rfl ?_
        rw [n_s]
        exact ih (8 - (n + 1)) (by omega) (n + 1) rfl hn
      refine k_aload_n C rfl rfl rfl ?_
      refine k_iload C rfl rfl rfl ?_
      refine c_VR C (e_signsAt0 T_nw I3 ) rfl rfl rfl rfl rfl ⟨_, rfl, rfl, T_nw, Nat.le_of_ble_eq_true rfl⟩ rfl rfl (Nat.le_of_ble_eq_true rfl) (Nat.le_of_ble_eq_true rfl) (Nat.le_of_ble_eq_true rfl) ?_
      rintro _ _ _ ⟨rfl, h8, h9⟩
      have h8 := h8.symm; subst h8; have h9 := h9.symm; subst h9
      refine k_goto C (pc2 := 50) rfl rfl ?_
      refine k_astoreV C (x := none) (lw := [(7, _), (6, .int _), (5, .int _), (0, _), (1, _), (2, .int _), (3, .int _), (4, .int _)]) rfl rfl (Nat.le_of_ble_eq_true rfl) rfl ?_
      refine k_aloadV C (x := none) rfl rfl rfl ?_
      refine k_ifnull C (x := none) (t := 134) rfl rfl rfl (fun _ => ?_) (fun _ c54 => nomatch c54)
      refine k_sub S [(6, .int (Int32.ofNat n)), (5, .int 0), (0, .ref rw), (1, .ref nw), (2, .int set), (3, .int fd), (4, .int seed)] (List.forall_mem_cons.mpr ⟨List.mem_of_getElem? (i := 1) rfl, List.forall_mem_cons.mpr ⟨List.mem_of_getElem? (i := 2) rfl, List.forall_mem_cons.mpr ⟨List.mem_of_getElem? (i := 3) rfl, List.forall_mem_cons.mpr ⟨List.mem_of_getElem? (i := 4) rfl, List.forall_mem_cons.mpr ⟨List.mem_of_getElem? (i := 5) rfl, List.forall_mem_cons.mpr ⟨List.mem_of_getElem? (i := 6) rfl, List.forall_mem_cons.mpr ⟨List.mem_of_getElem? (i := 7) rfl, fun _ h => nomatch h⟩⟩⟩⟩⟩⟩⟩) ?_
      refine k_inc1 C (lw := [(6, .int _), (5, .int _), (0, _), (1, _), (2, .int _), (3, .int _), (4, .int _)]) rfl rfl rfl (Nat.le_of_ble_eq_true rfl) rfl ?_
      refine k_goto C (pc2 := 23) rfl rfl ?_
      rw [n_s]
      exact ih (8 - (n + 1)) (by omega) (n + 1) rfl hn
  exact loop 8 0 rfl (Nat.zero_le _)


theorem e_bitCount0 {d : Nat} {T N : Nat → Nat} {I : IT} {L : LT} {R : RT}  : Ex (d + 1) 152 [.int 0] (T, N, I, L, R) 0 0 (pI T N R (fun x9 I9 L9 => x9 = (0) ∧ I9 = I ∧ L9 = L)) := by
  refine ⟨_, rfl, Nat.le_of_ble_eq_true rfl, fun V C S => ?_⟩
  show V 0 [(0, .int 0)] [] (T, N, I, L, R) 0 0
  refine k_iload_n C rfl rfl rfl ?_
  refine k_iload_n C rfl rfl rfl ?_
  refine k_iconst C (x := 1) rfl rfl rfl ?_
  refine k_iushr C rfl rfl ?_
  refine k_ldc_w C rfl rfl rfl ?_
  refine k_iand C rfl rfl ?_
  refine k_isub C rfl rfl ?_
  refine k_istore_n C (lw := [(0, .int _)]) rfl rfl (Nat.le_of_ble_eq_true rfl) rfl ?_
  refine k_iload_n C rfl rfl rfl ?_
  refine k_ldc_w C rfl rfl rfl ?_
  refine k_iand C rfl rfl ?_
  refine k_iload_n C rfl rfl rfl ?_
  refine k_iconst C (x := 2) rfl rfl rfl ?_
  refine k_iushr C rfl rfl ?_
  refine k_ldc_w C rfl rfl rfl ?_
  refine k_iand C rfl rfl ?_
  refine k_iadd C rfl rfl ?_
  refine k_istore_n C (lw := [(0, .int _)]) rfl rfl (Nat.le_of_ble_eq_true rfl) rfl ?_
  refine k_iload_n C rfl rfl rfl ?_
  refine k_iload_n C rfl rfl rfl ?_
  refine k_iconst C (x := 4) rfl rfl rfl ?_
  refine k_iushr C rfl rfl ?_
  refine k_iadd C rfl rfl ?_
  refine k_ldc_w C rfl rfl rfl ?_
  refine k_iand C rfl rfl ?_
  refine k_istore_n C (lw := [(0, .int _)]) rfl rfl (Nat.le_of_ble_eq_true rfl) rfl ?_
  refine k_iload_n C rfl rfl rfl ?_
  refine k_iload_n C rfl rfl rfl ?_
  refine k_bipush C (x := 8) rfl rfl rfl ?_
  refine k_iushr C rfl rfl ?_
  refine k_iadd C rfl rfl ?_
  refine k_istore_n C (lw := [(0, .int _)]) rfl rfl (Nat.le_of_ble_eq_true rfl) rfl ?_
  refine k_iload_n C rfl rfl rfl ?_
  refine k_iload_n C rfl rfl rfl ?_
  refine k_bipush C (x := 16) rfl rfl rfl ?_
  refine k_iushr C rfl rfl ?_
  refine k_iadd C rfl rfl ?_
  refine k_istore_n C (lw := [(0, .int _)]) rfl rfl (Nat.le_of_ble_eq_true rfl) rfl ?_
  refine k_iload_n C rfl rfl rfl ?_
  refine k_bipush C (x := 63) rfl rfl rfl ?_
  refine k_iand C rfl rfl ?_
  exact k_iret C rfl (Or.inl rfl) (Nat.le_of_ble_eq_true rfl) (Nat.le_of_ble_eq_true rfl) ⟨_, _, _, rfl, rfl, ⟨by decide, rfl, rfl⟩⟩

theorem e_span_no {d : Nat} {T N : Nat → Nat} {I : IT} {L : LT} {R : RT} {x : Nat} {set fd seed : Int32} (T_x : T x = 12) (h : ¬ (1 ≤ fd ∧ fd ≤ 8)) : Ex (d + 1) 153 [.ref x, .int set, .int fd, .int seed] (T, N, I, L, R) 1 6 (pX 0 T N R (fun I9 L9 => I9 = I ∧ L9 = L)) := by
  refine ⟨_, rfl, Nat.le_of_ble_eq_true rfl, fun V C S => ?_⟩
  show V 0 [(0, .ref x), (1, .int set), (2, .int fd), (3, .int seed)] [] (T, N, I, L, R) 0 0
  refine k_iload_n C rfl rfl rfl ?_
  refine k_iconst C (x := 1) rfl rfl rfl ?_
  refine k_icmp_lt C (t := 11) rfl rfl rfl (fun c2 => ?_) (fun c2 => ?_)
  · skip
    exact k_throw C rfl rfl rfl rfl rfl rfl (Nat.le_of_ble_eq_true rfl) (Nat.le_of_ble_eq_true rfl) (Nat.le_of_ble_eq_true rfl) ⟨_, _, rfl, rfl, ⟨rfl, rfl⟩⟩
  refine k_iload_n C rfl rfl rfl ?_
  refine k_bipush C (x := 8) rfl rfl rfl ?_
  refine k_icmp_le C (t := 19) rfl rfl rfl (fun c8 => ?_) (fun c8 => ?_)
  · skip
    exact absurd ⟨Int32.not_lt.mp c2, c8⟩ h
  exact k_throw C rfl rfl rfl rfl rfl rfl (Nat.le_of_ble_eq_true rfl) (Nat.le_of_ble_eq_true rfl) (Nat.le_of_ble_eq_true rfl) ⟨_, _, rfl, rfl, ⟨rfl, rfl⟩⟩

theorem e_span_yes {d : Nat} {T N : Nat → Nat} {I : IT} {L : LT} {R : RT} {A : Nat → Prop} {x nw rw dr al : Nat} {set fd seed : Int32}{p : Int32} (T_x : T x = 12) (R_x_1 : R x 1 = some nw) (R_x_7 : R x 7 = some rw) (T_rw : T rw = 6) (R_rw_2 : R rw 2 = some dr) (T_dr : T dr = 23) (R_rw_0 : R rw 0 = some al) (T_al : T al = 1) (R_al_0 : R al 0 = some nw) (T_nw : T nw = 9) (I_nw_0 : I nw 0 = p) (A_rw : A rw) (I_nw_3 : I nw 3 = 0) (hp1 : 2 ≤ p.toInt) (hp2 : p.toInt ≤ 19) (hrow : cRow T N R A dr 12) (h : 1 ≤ fd ∧ fd ≤ 8) : Ex (d + 5) 153 [.ref x, .int set, .int fd, .int seed] (T, N, I, L, R) 0 0 (pI T N R (fun x9 I9 L9 => x9 = 0 ∧ Fr A I L I9 L9)) := by
  refine ⟨_, rfl, Nat.le_of_ble_eq_true rfl, fun V C S => ?_⟩
  show V 0 [(0, .ref x), (1, .int set), (2, .int fd), (3, .int seed)] [] (T, N, I, L, R) 0 0
  refine k_iload_n C rfl rfl rfl ?_
  refine k_iconst C (x := 1) rfl rfl rfl ?_
  refine k_icmp_lt C (t := 11) rfl rfl rfl (fun c2 => ?_) (fun c2 => ?_)
  · skip
    exact absurd h.1 (Int32.not_le.mpr c2)
  refine k_iload_n C rfl rfl rfl ?_
  refine k_bipush C (x := 8) rfl rfl rfl ?_
  refine k_icmp_le C (t := 19) rfl rfl rfl (fun c8 => ?_) (fun c8 => ?_)
  · skip
    refine k_aload_n C rfl rfl rfl ?_
    refine g_R C rfl rfl rfl T_x rfl R_x_7 ?_
    refine k_aload_n C rfl rfl rfl ?_
    refine g_R C rfl rfl rfl T_x rfl R_x_1 ?_
    refine k_iload_n C rfl rfl rfl ?_
    refine k_iload_n C rfl rfl rfl ?_
    refine k_iload_n C rfl rfl rfl ?_
    refine c_VI C (e_independent0 T_rw R_rw_2 T_dr R_rw_0 T_al R_al_0 T_nw (I_nw_0) A_rw (I_nw_3) hp1 hp2 hrow (by have := i_le.mp h.2; exact this)) rfl rfl rfl rfl rfl ⟨_, rfl, rfl, T_rw, Nat.le_of_ble_eq_true rfl⟩ rfl rfl (Nat.le_of_ble_eq_true rfl) (Nat.le_of_ble_eq_true rfl) (Nat.le_of_ble_eq_true rfl) ?_
    intro x30 I30 L30 h30
    obtain ⟨rfl, f30⟩ := h30
    refine k_istore C (lw := [(4, .int _), (0, _), (1, .int _), (2, .int _), (3, .int _)]) rfl rfl (Nat.le_of_ble_eq_true rfl) rfl ?_
    refine k_iload C rfl rfl rfl ?_
    refine k_iconst C (x := -1) rfl rfl rfl ?_
    refine k_icmp_ne C (t := 45) rfl rfl rfl (fun _ => ?_) (fun c38 => absurd (by decide) c38)
    refine k_iload C rfl rfl rfl ?_
    refine c_SI C e_bitCount0 rfl rfl rfl rfl rfl rfl rfl (Nat.le_of_ble_eq_true rfl) (Nat.le_of_ble_eq_true rfl) (Nat.le_of_ble_eq_true rfl) ?_
    rintro _ _ _ ⟨rfl, h8, h9⟩
    have h8 := h8.symm; subst h8; have h9 := h9.symm; subst h9
    exact k_iret C rfl (Or.inl rfl) (Nat.le_of_ble_eq_true rfl) (Nat.le_of_ble_eq_true rfl) ⟨_, _, _, rfl, rfl, ⟨rfl, f30⟩⟩
  exact absurd h.2 c8

theorem e_basis_no {d : Nat} {T N : Nat → Nat} {I : IT} {L : LT} {R : RT} {x : Nat} {set fd seed : Int32} (T_x : T x = 12) (h : ¬ (1 ≤ fd ∧ fd ≤ 8)) : Ex (d + 1) 154 [.ref x, .int set, .int fd, .int seed] (T, N, I, L, R) 1 6 (pX 0 T N R (fun I9 L9 => I9 = I ∧ L9 = L)) := by
  refine ⟨_, rfl, Nat.le_of_ble_eq_true rfl, fun V C S => ?_⟩
  show V 0 [(0, .ref x), (1, .int set), (2, .int fd), (3, .int seed)] [] (T, N, I, L, R) 0 0
  refine k_iload_n C rfl rfl rfl ?_
  refine k_iconst C (x := 1) rfl rfl rfl ?_
  refine k_icmp_lt C (t := 11) rfl rfl rfl (fun c2 => ?_) (fun c2 => ?_)
  · skip
    exact k_throw C rfl rfl rfl rfl rfl rfl (Nat.le_of_ble_eq_true rfl) (Nat.le_of_ble_eq_true rfl) (Nat.le_of_ble_eq_true rfl) ⟨_, _, rfl, rfl, ⟨rfl, rfl⟩⟩
  refine k_iload_n C rfl rfl rfl ?_
  refine k_bipush C (x := 8) rfl rfl rfl ?_
  refine k_icmp_le C (t := 19) rfl rfl rfl (fun c8 => ?_) (fun c8 => ?_)
  · skip
    exact absurd ⟨Int32.not_lt.mp c2, c8⟩ h
  exact k_throw C rfl rfl rfl rfl rfl rfl (Nat.le_of_ble_eq_true rfl) (Nat.le_of_ble_eq_true rfl) (Nat.le_of_ble_eq_true rfl) ⟨_, _, rfl, rfl, ⟨rfl, rfl⟩⟩

theorem e_basis_yes {d : Nat} {T N : Nat → Nat} {I : IT} {L : LT} {R : RT} {A : Nat → Prop} {x nw rw dr al : Nat} {set fd seed : Int32}{p : Int32} (T_x : T x = 12) (R_x_1 : R x 1 = some nw) (R_x_7 : R x 7 = some rw) (T_rw : T rw = 6) (R_rw_2 : R rw 2 = some dr) (T_dr : T dr = 23) (R_rw_0 : R rw 0 = some al) (T_al : T al = 1) (R_al_0 : R al 0 = some nw) (T_nw : T nw = 9) (I_nw_0 : I nw 0 = p) (A_rw : A rw) (I_nw_3 : I nw 3 = 0) (hp1 : 2 ≤ p.toInt) (hp2 : p.toInt ≤ 19) (hrow : cRow T N R A dr 12) (h : 1 ≤ fd ∧ fd ≤ 8) : Ex (d + 5) 154 [.ref x, .int set, .int fd, .int seed] (T, N, I, L, R) 0 0 (pI T N R (fun x9 I9 L9 => x9 = 0 ∧ Fr A I L I9 L9)) := by
  refine ⟨_, rfl, Nat.le_of_ble_eq_true rfl, fun V C S => ?_⟩
  show V 0 [(0, .ref x), (1, .int set), (2, .int fd), (3, .int seed)] [] (T, N, I, L, R) 0 0
  refine k_iload_n C rfl rfl rfl ?_
  refine k_iconst C (x := 1) rfl rfl rfl ?_
  refine k_icmp_lt C (t := 11) rfl rfl rfl (fun c2 => ?_) (fun c2 => ?_)
  · skip
    exact absurd h.1 (Int32.not_le.mpr c2)
  refine k_iload_n C rfl rfl rfl ?_
  refine k_bipush C (x := 8) rfl rfl rfl ?_
  refine k_icmp_le C (t := 19) rfl rfl rfl (fun c8 => ?_) (fun c8 => ?_)
  · skip
    refine k_aload_n C rfl rfl rfl ?_
    refine g_R C rfl rfl rfl T_x rfl R_x_7 ?_
    refine k_aload_n C rfl rfl rfl ?_
    refine g_R C rfl rfl rfl T_x rfl R_x_1 ?_
    refine k_iload_n C rfl rfl rfl ?_
    refine k_iload_n C rfl rfl rfl ?_
    refine k_iload_n C rfl rfl rfl ?_
    refine c_VI C (e_independent0 T_rw R_rw_2 T_dr R_rw_0 T_al R_al_0 T_nw (I_nw_0) A_rw (I_nw_3) hp1 hp2 hrow (by have := i_le.mp h.2; exact this)) rfl rfl rfl rfl rfl ⟨_, rfl, rfl, T_rw, Nat.le_of_ble_eq_true rfl⟩ rfl rfl (Nat.le_of_ble_eq_true rfl) (Nat.le_of_ble_eq_true rfl) (Nat.le_of_ble_eq_true rfl) ?_
    intro x30 I30 L30 h30
    obtain ⟨rfl, f30⟩ := h30
    exact k_iret C rfl (Or.inl rfl) (Nat.le_of_ble_eq_true rfl) (Nat.le_of_ble_eq_true rfl) ⟨_, _, _, rfl, rfl, ⟨rfl, f30⟩⟩
  exact absurd h.2 c8

