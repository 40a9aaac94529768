/-! the reference: the tape, the image, span and basis without signs -/
theorem n_div4 {k : Nat} (h : k < 1000) : Int32.ofNat k / 4 = Int32.ofNat (k / 4) := by
  apply Int32.toInt_inj.mp
  have e4 : (4 : Int32).toInt = 4 := rfl
  rw [Int32.toInt_div_of_ne_right _ _ (by decide), n_int (by omega), n_int (by omega), e4, Int.tdiv_eq_ediv_of_nonneg (by omega)]
  omega
theorem e_m_feed0 {d : Nat} {T N : Nat → Nat} {I : IT} {L : LT} {R : RT} {A : Nat → Prop} {m fv tp : Nat} {n0 n1 n2 n3 n4 : Int32} (T_m : T m = 13) (A_m : A m) (R_m_18 : R m 18 = some fv) (T_fv : T fv = 20) (N_fv : N fv = 5) (A_fv : A fv) (R_m_10 : R m 10 = some tp) (T_tp : T tp = 22) (N_tp : N tp = 400) (A_tp : A tp) (I_m_11 : I m 11 = 0) : Ex (d + 1) 216 [.ref m, .int n0, .int n1, .int n2, .int n3, .int n4] (T, N, I, L, R) 0 0 (pI T N R (fun x9 I9 L9 => x9 = 20 ∧ Fr A I L I9 L9 ∧ I9 m 0 = 0)) := by
  refine ⟨_, rfl, Nat.le_of_ble_eq_true rfl, fun V C S => ?_⟩
  show V 0 [(0, .ref m), (1, .int n0), (2, .int n1), (3, .int n2), (4, .int n3), (5, .int n4)] [] (T, N, I, L, R) 0 0
  have fin : ∀ (I1 : IT), Fr A I L I1 L → I1 m 11 = 0 → I1 m 0 = 0 → ∀ x6 : Int32, V 106 [(6, .int x6), (0, .ref m), (1, .int n0), (2, .int n1), (3, .int n2), (4, .int n3), (5, .int n4)] [] (T, N, I1, L, R) 0 0 := by
    intro I1 hF h0 h00 x6
    refine k_aload_n C rfl rfl rfl ?_
    refine k_dup C rfl rfl rfl ?_
    refine g_I C rfl rfl rfl T_m rfl h0 ?_
    refine k_bipush C (x := 20) rfl rfl rfl ?_
    refine k_iadd C rfl rfl ?_
    refine p_I C rfl rfl rfl T_m (Or.inr rfl) rfl ?_
    refine k_aload_n C rfl rfl rfl ?_
    refine g_I C rfl rfl rfl T_m rfl u2_s ?_
    exact k_iret C rfl (Or.inl rfl) (Nat.le_of_ble_eq_true rfl) (Nat.le_of_ble_eq_true rfl) ⟨_, _, _, rfl, rfl, by decide, Fr.i hF A_m, (u2_k (by decide)).trans h00⟩
  have loop : ∀ (K : ∀ (I1 : IT), Fr A I L I1 L → I1 m 11 = 0 → I1 m 0 = 0 → ∀ x6 : Int32, V 106 [(6, .int x6), (0, .ref m), (1, .int n0), (2, .int n1), (3, .int n2), (4, .int n3), (5, .int n4)] [] (T, N, I1, L, R) 0 0) (s k : Nat) (I1 : IT), s = 20 - k → k ≤ 20 → Fr A I L I1 L → I1 m 11 = 0 → I1 m 0 = 0 → V 60 [(6, .int (Int32.ofNat k)), (0, .ref m), (1, .int n0), (2, .int n1), (3, .int n2), (4, .int n3), (5, .int n4)] [] (T, N, I1, L, R) 0 0 := by
    intro K s
    induction s using Nat.strongRecOn with
    | _ s ih =>
      intro k I1 hs hk20 hF h0 h00
      refine k_iload C rfl rfl rfl ?_
      refine k_bipush C (x := 20) rfl rfl rfl ?_
      refine k_icmp_ge C (t := 106) rfl rfl rfl (fun c64 => ?_) (fun c64 => ?_)
      · skip
        exact K I1 hF (by rw [h0]) h00 (Int32.ofNat k)
      have hk : k < 20 := Nat.lt_of_not_le (fun h => c64 ((n_le (a := 20) (b := k) (by omega) (by omega)).mpr h))
      refine k_aload_n C rfl rfl rfl ?_
      refine g_R C rfl rfl rfl T_m rfl R_m_10 ?_
      refine k_aload_n C rfl rfl rfl ?_
      refine g_I C rfl rfl rfl T_m rfl (h0) ?_
      refine k_iload C rfl rfl rfl ?_
      refine k_iadd C rfl rfl ?_
      refine k_aload_n C rfl rfl rfl ?_
      refine g_R C rfl rfl rfl T_m rfl R_m_18 ?_
      refine k_iload C rfl rfl rfl ?_
      refine k_iconst C (x := 4) rfl rfl rfl ?_
      refine k_idiv C rfl rfl (by decide) ?_
      rw [n_div4 (by omega)]
      refine a_I C rfl rfl T_fv (vin rfl (by rw [N_fv]; omega) (by rw [N_fv]; exact Nat.le_of_ble_eq_true rfl)) rfl ?_
      refine k_bipush C (x := 24) rfl rfl rfl ?_
      refine k_bipush C (x := 8) rfl rfl rfl ?_
      refine k_iload C rfl rfl rfl ?_
      refine k_iconst C (x := 4) rfl rfl rfl ?_
      refine k_irem C rfl rfl (by decide) ?_
      refine k_imul C rfl rfl ?_
      refine k_isub C rfl rfl ?_
      refine k_ishr C rfl rfl ?_
      refine k_i2b C rfl rfl ?_
      refine s_B C rfl rfl T_tp (vin (n := k) (by rw [Int32.zero_add]) (by rw [N_tp]; omega) (by rw [N_tp]; exact Nat.le_of_ble_eq_true rfl)) rfl ?_
      refine k_inc1 C (lw := [(6, .int _), (0, _), (1, .int _), (2, .int _), (3, .int _), (4, .int _), (5, .int _)]) rfl rfl rfl (Nat.le_of_ble_eq_true rfl) rfl ?_
      refine k_goto C (pc2 := 60) rfl rfl ?_
      rw [n_s]
      exact ih (20 - (k + 1)) (by omega) (k + 1) _ rfl hk (Fr.i hF A_tp) ((u2_a (t_nq T_m T_tp (by decide))).trans h0) ((u2_a (t_nq T_m T_tp (by decide))).trans h00)
  refine k_aload_n C rfl rfl rfl ?_
  refine k_iconst C (x := 0) rfl rfl rfl ?_
  refine p_I C rfl rfl rfl T_m (Or.inr rfl) rfl ?_
  refine k_aload_n C rfl rfl rfl ?_
  refine g_I C rfl rfl rfl T_m rfl ((u2_k (by decide)).trans (I_m_11)) ?_
  refine k_bipush C (x := 20) rfl rfl rfl ?_
  refine k_iadd C rfl rfl ?_
  refine k_sipush C (x := 400) rfl rfl rfl ?_
  refine k_icmp_le C (t := 20) rfl rfl rfl (fun _ => ?_) (fun c15 => absurd (by decide) c15)
  refine k_aload_n C rfl rfl rfl ?_
  refine g_R C rfl rfl rfl T_m rfl R_m_18 ?_
  refine k_iconst C (x := 0) rfl rfl rfl ?_
  refine k_iload_n C rfl rfl rfl ?_
  refine s_I C rfl rfl T_fv (vin (n := 0) rfl (by rw [N_fv]; exact Nat.le_of_ble_eq_true rfl) (by rw [N_fv]; exact Nat.le_of_ble_eq_true rfl)) rfl ?_
  refine k_aload_n C rfl rfl rfl ?_
  refine g_R C rfl rfl rfl T_m rfl R_m_18 ?_
  refine k_iconst C (x := 1) rfl rfl rfl ?_
  refine k_iload_n C rfl rfl rfl ?_
  refine s_I C rfl rfl T_fv (vin (n := 1) rfl (by rw [N_fv]; exact Nat.le_of_ble_eq_true rfl) (by rw [N_fv]; exact Nat.le_of_ble_eq_true rfl)) rfl ?_
  refine k_aload_n C rfl rfl rfl ?_
  refine g_R C rfl rfl rfl T_m rfl R_m_18 ?_
  refine k_iconst C (x := 2) rfl rfl rfl ?_
  refine k_iload_n C rfl rfl rfl ?_
  refine s_I C rfl rfl T_fv (vin (n := 2) rfl (by rw [N_fv]; exact Nat.le_of_ble_eq_true rfl) (by rw [N_fv]; exact Nat.le_of_ble_eq_true rfl)) rfl ?_
  refine k_aload_n C rfl rfl rfl ?_
  refine g_R C rfl rfl rfl T_m rfl R_m_18 ?_
  refine k_iconst C (x := 3) rfl rfl rfl ?_
  refine k_iload C rfl rfl rfl ?_
  refine s_I C rfl rfl T_fv (vin (n := 3) rfl (by rw [N_fv]; exact Nat.le_of_ble_eq_true rfl) (by rw [N_fv]; exact Nat.le_of_ble_eq_true rfl)) rfl ?_
  refine k_aload_n C rfl rfl rfl ?_
  refine g_R C rfl rfl rfl T_m rfl R_m_18 ?_
  refine k_iconst C (x := 4) rfl rfl rfl ?_
  refine k_iload C rfl rfl rfl ?_
  refine s_I C rfl rfl T_fv (vin (n := 4) rfl (by rw [N_fv]; exact Nat.le_of_ble_eq_true rfl) (by rw [N_fv]; exact Nat.le_of_ble_eq_true rfl)) rfl ?_
  refine k_iconst C (x := 0) rfl rfl rfl ?_
  refine k_istore C (lw := [(6, .int _), (0, _), (1, .int _), (2, .int _), (3, .int _), (4, .int _), (5, .int _)]) rfl rfl (Nat.le_of_ble_eq_true rfl) rfl ?_
  exact loop fin 20 0 _ rfl (Nat.zero_le _) (Fr.i (Fr.i (Fr.i (Fr.i (Fr.i (Fr.i Fr.rf A_m) A_fv) A_fv) A_fv) A_fv) A_fv) ((u2_a (t_nq T_m T_fv (by decide))).trans ((u2_a (t_nq T_m T_fv (by decide))).trans ((u2_a (t_nq T_m T_fv (by decide))).trans ((u2_a (t_nq T_m T_fv (by decide))).trans ((u2_a (t_nq T_m T_fv (by decide))).trans ((u2_k (by decide)).trans I_m_11)))))) ((u2_a (t_nq T_m T_fv (by decide))).trans ((u2_a (t_nq T_m T_fv (by decide))).trans ((u2_a (t_nq T_m T_fv (by decide))).trans ((u2_a (t_nq T_m T_fv (by decide))).trans ((u2_a (t_nq T_m T_fv (by decide))).trans (u2_s))))))

theorem e_m_image0 {d : Nat} {T N : Nat → Nat} {I : IT} {L : LT} {R : RT} {A : Nat → Prop} {m w im : Nat} (T_m : T m = 13) (R_m_1 : R m 1 = some w) (T_w : T w = 20) (N_w : N w = 4007) (A_m : A m) (R_m_2 : R m 2 = some im) (T_im : T im = 20) (N_im : N im = 3606) (A_im : A im) : Ex (d + 1) 181 [.ref m] (T, N, I, L, R) 0 0 (pV T N R (fun I9 L9 => Fr A I L I9 L9 ∧ I9 m 0 = 0)) := by
  refine ⟨_, rfl, Nat.le_of_ble_eq_true rfl, fun V C S => ?_⟩
  show V 0 [(0, .ref m)] [] (T, N, I, L, R) 0 0
  refine k_aload_n C rfl rfl rfl ?_
  refine k_iconst C (x := 0) rfl rfl rfl ?_
  refine p_I C rfl rfl rfl T_m (Or.inr rfl) rfl ?_
  refine k_iconst C (x := 0) rfl rfl rfl ?_
  refine k_istore_n C (lw := [(1, .int _), (0, _)]) rfl rfl (Nat.le_of_ble_eq_true rfl) rfl ?_
  have loop : ∀ (s k : Nat) (I1 : IT), s = 3606 - k → k ≤ 3606 → Fr A I L I1 L → I1 m 0 = 0 → V 7 [(1, .int (Int32.ofNat k)), (0, .ref m)] [] (T, N, I1, L, R) 0 0 := by
    intro s
    induction s using Nat.strongRecOn with
    | _ s ih =>
      intro k I1 hs hk20 hF h00
      refine k_iload_n C rfl rfl rfl ?_
      refine k_sipush C (x := 3606) rfl rfl rfl ?_
      refine k_icmp_ge C (t := 32) rfl rfl rfl (fun c11 => ?_) (fun c11 => ?_)
      · skip
        refine k_aload_n C rfl rfl rfl ?_
        refine k_iconst C (x := 1) rfl rfl rfl ?_
        refine p_Z C rfl rfl rfl T_m (Or.inr rfl) rfl (Or.inr rfl) ?_
        exact k_vret C rfl rfl (Nat.le_of_ble_eq_true rfl) (Nat.le_of_ble_eq_true rfl) ⟨_, _, rfl, rfl, Fr.i hF A_m, (u2_k (by decide)).trans h00⟩
      have hk : k < 3606 := Nat.lt_of_not_le (fun h => c11 ((n_le (a := 3606) (b := k) (by omega) (by omega)).mpr h))
      refine k_aload_n C rfl rfl rfl ?_
      refine g_R C rfl rfl rfl T_m rfl R_m_2 ?_
      refine k_iload_n C rfl rfl rfl ?_
      refine k_aload_n C rfl rfl rfl ?_
      refine g_R C rfl rfl rfl T_m rfl R_m_1 ?_
      refine k_iload_n C rfl rfl rfl ?_
      refine a_I C rfl rfl T_w (vin rfl (by rw [N_w]; omega) (by rw [N_w]; exact Nat.le_of_ble_eq_true rfl)) rfl ?_
      refine s_I C rfl rfl T_im (vin rfl (by rw [N_im]; exact hk) (by rw [N_im]; exact Nat.le_of_ble_eq_true rfl)) rfl ?_
      refine k_inc1 C (lw := [(1, .int _), (0, _)]) rfl rfl rfl (Nat.le_of_ble_eq_true rfl) rfl ?_
      refine k_goto C (pc2 := 7) rfl rfl ?_
      rw [n_s]
      exact ih (3606 - (k + 1)) (by omega) (k + 1) _ rfl hk (Fr.i hF A_im) ((u2_a (t_nq T_m T_im (by decide))).trans h00)
  exact loop 3606 0 _ rfl (Nat.zero_le _) (Fr.i Fr.rf A_m) u2_s


theorem e_m_draws0 {d : Nat} {T N : Nat → Nat} {I : IT} {L : LT} {R : RT} {m w dn : Nat} {fd seed : Int32}{p : Int32} (T_m : T m = 13) (R_m_1 : R m 1 = some w) (T_w : T w = 20) (N_w : N w = 4007) (R_m_23 : R m 23 = some dn) (T_dn : T dn = 20) (N_dn : N dn = 108) (I_w_0 : I w 0 = p) (hp1 : 2 ≤ p.toInt) (hp2 : p.toInt ≤ 19) {n : Nat} (hfd : fd = Int32.ofNat n) (hn : n ≤ 8) (hwd : w ≠ dn) : Ex (d + 2) 260 [.ref m, .int fd, .int seed] (T, N, I, L, R) 0 0 (pV T N R (fun I9 L9 => Fr (fun z => z = dn) I L I9 L9)) := by
  refine ⟨_, rfl, Nat.le_of_ble_eq_true rfl, fun V C S => ?_⟩
  show V 0 [(0, .ref m), (1, .int fd), (2, .int seed)] [] (T, N, I, L, R) 0 0
  subst hfd
  refine k_iload_n C rfl rfl rfl ?_
  refine k_istore_n C (lw := [(3, .int _), (0, _), (1, .int _), (2, .int _)]) rfl rfl (Nat.le_of_ble_eq_true rfl) rfl ?_
  refine k_iconst C (x := 0) rfl rfl rfl ?_
  refine k_istore C (lw := [(4, .int _), (3, .int _), (0, _), (1, .int _), (2, .int _)]) rfl rfl (Nat.le_of_ble_eq_true rfl) rfl ?_
  have loop : ∀ (s k : Nat) (I1 : IT) (last : Int32), s = 12 * (n + 1) - k → k ≤ 12 * (n + 1) → Fr (fun z => z = dn) I L I1 L → V 5 [(4, .int (Int32.ofNat k)), (3, .int last), (0, .ref m), (1, .int (Int32.ofNat n)), (2, .int seed)] [] (T, N, I1, L, R) 0 0 := by
    intro s
    induction s using Nat.strongRecOn with
    | _ s ih =>
      intro k I1 last hs hk20 hF
      refine k_iload C rfl rfl rfl ?_
      refine k_bipush C (x := 12) rfl rfl rfl ?_
      refine k_iload_n C rfl rfl rfl ?_
      refine k_iconst C (x := 1) rfl rfl rfl ?_
      refine k_iadd C rfl rfl ?_
      
      refine k_imul C rfl rfl ?_
      rw [show (12 : Int32) * (Int32.ofNat n + 1) = Int32.ofNat (12 * (n + 1)) from by rw [n_s]; exact n_mul]
      refine k_icmp_ge C (t := 52) rfl rfl rfl (fun c13 => ?_) (fun c13 => ?_)
      · skip
        exact k_vret C rfl rfl (Nat.le_of_ble_eq_true rfl) (Nat.le_of_ble_eq_true rfl) ⟨_, _, rfl, rfl, hF⟩
      have hk : k < 12 * (n + 1) := Nat.lt_of_not_le (fun h => c13 ((n_le (by omega) (by omega)).mpr h))
      refine k_ldc_w C rfl rfl rfl ?_
      refine k_iload_n C rfl rfl rfl ?_
      refine k_imul C rfl rfl ?_
      refine k_sipush C (x := 12345) rfl rfl rfl ?_
      refine k_iadd C rfl rfl ?_
      refine k_istore_n C (lw := [(3, .int _), (4, .int _), (0, _), (1, .int _), (2, .int _)]) rfl rfl (Nat.le_of_ble_eq_true rfl) rfl ?_
      refine k_aload_n C rfl rfl rfl ?_
      refine g_R C rfl rfl rfl T_m rfl R_m_23 ?_
      refine k_iload C rfl rfl rfl ?_
      refine k_iload_n C rfl rfl rfl ?_
      refine k_bipush C (x := 16) rfl rfl rfl ?_
      refine k_ishr C rfl rfl ?_
      refine k_sipush C (x := 32767) rfl rfl rfl ?_
      refine k_iand C rfl rfl ?_
      refine k_aload_n C rfl rfl rfl ?_
      refine c_VI C (e_m_p T_m R_m_1 T_w N_w ((congrFun (hF w (fun e => hwd e)).1 0).trans I_w_0) ) rfl rfl rfl rfl rfl ⟨_, rfl, rfl, T_m, Nat.le_of_ble_eq_true rfl⟩ rfl rfl (Nat.le_of_ble_eq_true rfl) (Nat.le_of_ble_eq_true rfl) (Nat.le_of_ble_eq_true rfl) ?_
      rintro _ _ _ ⟨hx7, hI8, hL9⟩
      have hx7 := hx7.symm; subst hx7
      have hI8 := hI8.symm; subst hI8; have hL9 := hL9.symm; subst hL9
      refine k_irem C rfl rfl (i_ne0 (by omega)) ?_
      refine s_I C rfl rfl T_dn (vin rfl (by rw [N_dn]; omega) (by rw [N_dn]; exact Nat.le_of_ble_eq_true rfl)) rfl ?_
      refine k_sub S [(4, .int (Int32.ofNat k)), (3, .int _), (0, .ref m), (1, .int (Int32.ofNat n)), (2, .int seed)] (List.forall_mem_cons.mpr ⟨List.mem_of_getElem? (i := 1) rfl, List.forall_mem_cons.mpr ⟨List.mem_of_getElem? (i := 0) rfl, List.forall_mem_cons.mpr ⟨List.mem_of_getElem? (i := 2) rfl, List.forall_mem_cons.mpr ⟨List.mem_of_getElem? (i := 3) rfl, List.forall_mem_cons.mpr ⟨List.mem_of_getElem? (i := 4) rfl, fun _ h => nomatch h⟩⟩⟩⟩⟩) ?_
      refine k_inc1 C (lw := [(4, .int _), (3, .int _), (0, _), (1, .int _), (2, .int _)]) rfl rfl rfl (Nat.le_of_ble_eq_true rfl) rfl ?_
      refine k_goto C (pc2 := 5) rfl rfl ?_
      rw [n_s]
      exact ih (12 * (n + 1) - (k + 1)) (by omega) (k + 1) _ _ rfl hk (Fr.i hF rfl)
  exact loop (12 * (n + 1)) 0 _ _ rfl (Nat.zero_le _) Fr.rf


theorem e_m_basisOf0 {d : Nat} {T N : Nat → Nat} {I : IT} {L : LT} {R : RT} {m w dn : Nat} {set fd seed : Int32}{p : Int32} (T_m : T m = 13) (R_m_1 : R m 1 = some w) (T_w : T w = 20) (N_w : N w = 4007) (R_m_23 : R m 23 = some dn) (T_dn : T dn = 20) (N_dn : N dn = 108) (I_w_0 : I w 0 = p) (I_w_3 : I w 3 = 0) (hp1 : 2 ≤ p.toInt) (hp2 : p.toInt ≤ 19) {n : Nat} (hfd : fd = Int32.ofNat n) (hn : n ≤ 8) (hwd : w ≠ dn) : Ex (d + 3) 264 [.ref m, .int set, .int fd, .int seed] (T, N, I, L, R) 0 0 (pI T N R (fun x9 I9 L9 => x9 = 0 ∧ Fr (fun z => z = dn) I L I9 L9)) := by
  refine ⟨_, rfl, Nat.le_of_ble_eq_true rfl, fun V C S => ?_⟩
  show V 0 [(0, .ref m), (1, .int set), (2, .int fd), (3, .int seed)] [] (T, N, I, L, R) 0 0
  refine k_aload_n C rfl rfl rfl ?_
  refine k_iload_n C rfl rfl rfl ?_
  refine k_iload_n C rfl rfl rfl ?_
  refine c_VV C (e_m_draws0 T_m R_m_1 T_w N_w R_m_23 T_dn N_dn (I_w_0) hp1 hp2 hfd hn hwd) rfl rfl rfl rfl rfl ⟨_, rfl, rfl, T_m, Nat.le_of_ble_eq_true rfl⟩ rfl rfl (Nat.le_of_ble_eq_true rfl) (Nat.le_of_ble_eq_true rfl) (Nat.le_of_ble_eq_true rfl) ?_
  intro I3 L3 h3
  refine k_iconst C (x := 0) rfl rfl rfl ?_
  refine k_istore C (lw := [(4, .int _), (0, _), (1, .int _), (2, .int _), (3, .int _)]) rfl rfl (Nat.le_of_ble_eq_true rfl) rfl ?_
  refine k_iconst C (x := 0) rfl rfl rfl ?_
  refine k_istore C (lw := [(5, .int _), (4, .int _), (0, _), (1, .int _), (2, .int _), (3, .int _)]) rfl rfl (Nat.le_of_ble_eq_true rfl) rfl ?_
  refine k_iconst C (x := -1) rfl rfl rfl ?_
  refine k_istore C (lw := [(6, .int _), (5, .int _), (4, .int _), (0, _), (1, .int _), (2, .int _), (3, .int _)]) rfl rfl (Nat.le_of_ble_eq_true rfl) rfl ?_
  refine k_iconst C (x := 0) rfl rfl rfl ?_
  refine k_istore C (lw := [(7, .int _), (6, .int _), (5, .int _), (4, .int _), (0, _), (1, .int _), (2, .int _), (3, .int _)]) rfl rfl (Nat.le_of_ble_eq_true rfl) rfl ?_
  refine k_iload C rfl rfl rfl ?_
  refine k_aload_n C rfl rfl rfl ?_
  refine g_R C rfl rfl rfl T_m rfl R_m_1 ?_
  refine k_iconst C (x := 3) rfl rfl rfl ?_
  refine a_I C rfl rfl T_w (vin (n := 3) rfl (by rw [N_w]; exact Nat.le_of_ble_eq_true rfl) (by rw [N_w]; exact Nat.le_of_ble_eq_true rfl)) ((congrFun (h3 w (fun e => hwd e)).1 3).trans I_w_3) ?_
  refine k_icmp_ge C (t := 105) rfl rfl rfl (fun c26 => ?_) (fun c26 => ?_)
  · skip
    refine k_iload C rfl rfl rfl ?_
    exact k_iret C rfl (Or.inl rfl) (Nat.le_of_ble_eq_true rfl) (Nat.le_of_ble_eq_true rfl) ⟨_, _, _, rfl, rfl, ⟨rfl, h3⟩⟩
  exact absurd (by decide) c26

theorem e_m_span_no {d : Nat} {T N : Nat → Nat} {I : IT} {L : LT} {R : RT} {A : Nat → Prop} {m : Nat} {set fd seed : Int32} (T_m : T m = 13) (A_m : A m) (h : ¬ (1 ≤ fd ∧ fd ≤ 8)) : Ex (d + 2) 265 [.ref m, .int set, .int fd, .int seed] (T, N, I, L, R) 0 0 (pI T N R (fun x9 I9 L9 => Fr A I L I9 L9 ∧ I9 m 0 = 1)) := by
  refine ⟨_, rfl, Nat.le_of_ble_eq_true rfl, fun V C S => ?_⟩
  show V 0 [(0, .ref m), (1, .int set), (2, .int fd), (3, .int seed)] [] (T, N, I, L, R) 0 0
  refine k_aload_n C rfl rfl rfl ?_
  refine k_iconst C (x := 0) rfl rfl rfl ?_
  refine p_I C rfl rfl rfl T_m (Or.inr rfl) rfl ?_
  refine k_aload_n C rfl rfl rfl ?_
  refine k_iload_n C rfl rfl rfl ?_
  refine k_iconst C (x := 1) rfl rfl rfl ?_
  refine k_bipush C (x := 8) rfl rfl rfl ?_
  refine c_SI C e_in rfl rfl rfl rfl rfl rfl rfl (Nat.le_of_ble_eq_true rfl) (Nat.le_of_ble_eq_true rfl) (Nat.le_of_ble_eq_true rfl) ?_
  rintro _ _ _ ⟨hx7, hI8, hL9⟩
  have hx7 := hx7.symm; subst hx7
  have hI8 := hI8.symm; subst hI8; have hL9 := hL9.symm; subst hL9
  refine k_if_ne C (t := 20) rfl rfl rfl (fun c13 => ?_) (fun c13 => ?_)
  · skip
    exact absurd (if_neg h) c13
  refine k_iconst C (x := 1) rfl rfl rfl ?_
  refine k_goto C (pc2 := 21) rfl rfl ?_
  refine k_iconst C (x := 1) rfl rfl rfl ?_
  refine c_VI C (e_throwsIf1 T_m rfl) rfl rfl rfl rfl rfl ⟨_, rfl, rfl, T_m, Nat.le_of_ble_eq_true rfl⟩ rfl rfl (Nat.le_of_ble_eq_true rfl) (Nat.le_of_ble_eq_true rfl) (Nat.le_of_ble_eq_true rfl) ?_
  rintro _ _ _ ⟨hx7, hI8, hL9⟩
  have hx7 := hx7.symm; subst hx7
  have hI8 := hI8.symm; subst hI8; have hL9 := hL9.symm; subst hL9
  refine k_if_eq C (t := 30) rfl rfl rfl (fun c25 => absurd c25 (by decide)) (fun _ => ?_)
  refine k_iconst C (x := 0) rfl rfl rfl ?_
  exact k_iret C rfl (Or.inl rfl) (Nat.le_of_ble_eq_true rfl) (Nat.le_of_ble_eq_true rfl) ⟨_, _, _, rfl, rfl, ⟨(Fr.i (Fr.i Fr.rf A_m) A_m), u2_s⟩⟩

theorem e_m_span_yes {d : Nat} {T N : Nat → Nat} {I : IT} {L : LT} {R : RT} {A : Nat → Prop} {m w dn : Nat} {set fd seed : Int32}{p : Int32} (T_m : T m = 13) (R_m_1 : R m 1 = some w) (T_w : T w = 20) (N_w : N w = 4007) (R_m_23 : R m 23 = some dn) (T_dn : T dn = 20) (N_dn : N dn = 108) (I_w_0 : I w 0 = p) (I_w_3 : I w 3 = 0) (A_m : A m) (A_dn : A dn) (hp1 : 2 ≤ p.toInt) (hp2 : p.toInt ≤ 19) {n : Nat} (hfd : fd = Int32.ofNat n) (hn : n ≤ 8) (hwd : w ≠ dn) (h : 1 ≤ fd ∧ fd ≤ 8) : Ex (d + 4) 265 [.ref m, .int set, .int fd, .int seed] (T, N, I, L, R) 0 0 (pI T N R (fun x9 I9 L9 => x9 = 0 ∧ Fr A I L I9 L9 ∧ I9 m 0 = 0)) := by
  refine ⟨_, rfl, Nat.le_of_ble_eq_true rfl, fun V C S => ?_⟩
  show V 0 [(0, .ref m), (1, .int set), (2, .int fd), (3, .int seed)] [] (T, N, I, L, R) 0 0
  refine k_aload_n C rfl rfl rfl ?_
  refine k_iconst C (x := 0) rfl rfl rfl ?_
  refine p_I C rfl rfl rfl T_m (Or.inr rfl) rfl ?_
  refine k_aload_n C rfl rfl rfl ?_
  refine k_iload_n C rfl rfl rfl ?_
  refine k_iconst C (x := 1) rfl rfl rfl ?_
  refine k_bipush C (x := 8) rfl rfl rfl ?_
  refine c_SI C e_in rfl rfl rfl rfl rfl rfl rfl (Nat.le_of_ble_eq_true rfl) (Nat.le_of_ble_eq_true rfl) (Nat.le_of_ble_eq_true rfl) ?_
  rintro _ _ _ ⟨hx7, hI8, hL9⟩
  have hx7 := hx7.symm; subst hx7
  have hI8 := hI8.symm; subst hI8; have hL9 := hL9.symm; subst hL9
  refine k_if_ne C (t := 20) rfl rfl rfl (fun c13 => ?_) (fun c13 => ?_)
  · skip
    refine k_iconst C (x := 0) rfl rfl rfl ?_
    refine k_iconst C (x := 1) rfl rfl rfl ?_
    refine c_VI C (e_throwsIf0 T_m rfl) rfl rfl rfl rfl rfl ⟨_, rfl, rfl, T_m, Nat.le_of_ble_eq_true rfl⟩ rfl rfl (Nat.le_of_ble_eq_true rfl) (Nat.le_of_ble_eq_true rfl) (Nat.le_of_ble_eq_true rfl) ?_
    rintro _ _ _ ⟨hx7, hI8, hL9⟩
    have hx7 := hx7.symm; subst hx7
    have hI8 := hI8.symm; subst hI8; have hL9 := hL9.symm; subst hL9
    refine k_if_eq C (t := 30) rfl rfl rfl (fun _ => ?_) (fun c25 => absurd (by decide) c25)
    refine k_aload_n C rfl rfl rfl ?_
    refine k_iload_n C rfl rfl rfl ?_
    refine k_iload_n C rfl rfl rfl ?_
    refine k_iload_n C rfl rfl rfl ?_
    refine c_VI C (e_m_basisOf0 T_m R_m_1 T_w N_w R_m_23 T_dn N_dn ((u2_a (t_nq T_w T_m (by decide))).trans (I_w_0)) ((u2_a (t_nq T_w T_m (by decide))).trans (I_w_3)) hp1 hp2 hfd hn hwd) rfl rfl rfl rfl rfl ⟨_, rfl, rfl, T_m, Nat.le_of_ble_eq_true rfl⟩ rfl rfl (Nat.le_of_ble_eq_true rfl) (Nat.le_of_ble_eq_true rfl) (Nat.le_of_ble_eq_true rfl) ?_
    intro x34 I34 L34 h34
    obtain ⟨rfl, f34⟩ := h34
    refine k_istore C (lw := [(4, .int _), (0, _), (1, .int _), (2, .int _), (3, .int _)]) rfl rfl (Nat.le_of_ble_eq_true rfl) rfl ?_
    refine k_iload C rfl rfl rfl ?_
    refine k_if_ge C (t := 48) rfl rfl rfl (fun _ => ?_) (fun c41 => absurd (by decide) c41)
    refine k_iload C rfl rfl rfl ?_
    refine c_SI C e_bitCount0 rfl rfl rfl rfl rfl rfl rfl (Nat.le_of_ble_eq_true rfl) (Nat.le_of_ble_eq_true rfl) (Nat.le_of_ble_eq_true rfl) ?_
    rintro _ _ _ ⟨hx7, hI8, hL9⟩
    have hx7 := hx7.symm; subst hx7
    have hI8 := hI8.symm; subst hI8; have hL9 := hL9.symm; subst hL9
    exact k_iret C rfl (Or.inl rfl) (Nat.le_of_ble_eq_true rfl) (Nat.le_of_ble_eq_true rfl) ⟨_, _, _, rfl, rfl, ⟨rfl, Fr.tr (Fr.i Fr.rf A_m) (f34.mono (fun z hz => hz ▸ A_dn)), (congrFun (f34 m (t_nq T_m T_dn (by decide))).1 0).trans u2_s⟩⟩
  exact absurd (fun e => absurd ((if_pos h).symm.trans e) (by decide)) c13

theorem e_m_basis_no {d : Nat} {T N : Nat → Nat} {I : IT} {L : LT} {R : RT} {A : Nat → Prop} {m : Nat} {set fd seed : Int32} (T_m : T m = 13) (A_m : A m) (h : ¬ (1 ≤ fd ∧ fd ≤ 8)) : Ex (d + 2) 266 [.ref m, .int set, .int fd, .int seed] (T, N, I, L, R) 0 0 (pI T N R (fun x9 I9 L9 => Fr A I L I9 L9 ∧ I9 m 0 = 1)) := by
  refine ⟨_, rfl, Nat.le_of_ble_eq_true rfl, fun V C S => ?_⟩
  show V 0 [(0, .ref m), (1, .int set), (2, .int fd), (3, .int seed)] [] (T, N, I, L, R) 0 0
  refine k_aload_n C rfl rfl rfl ?_
  refine k_iconst C (x := 0) rfl rfl rfl ?_
  refine p_I C rfl rfl rfl T_m (Or.inr rfl) rfl ?_
  refine k_aload_n C rfl rfl rfl ?_
  refine k_iload_n C rfl rfl rfl ?_
  refine k_iconst C (x := 1) rfl rfl rfl ?_
  refine k_bipush C (x := 8) rfl rfl rfl ?_
  refine c_SI C e_in rfl rfl rfl rfl rfl rfl rfl (Nat.le_of_ble_eq_true rfl) (Nat.le_of_ble_eq_true rfl) (Nat.le_of_ble_eq_true rfl) ?_
  rintro _ _ _ ⟨hx7, hI8, hL9⟩
  have hx7 := hx7.symm; subst hx7
  have hI8 := hI8.symm; subst hI8; have hL9 := hL9.symm; subst hL9
  refine k_if_ne C (t := 20) rfl rfl rfl (fun c13 => ?_) (fun c13 => ?_)
  · skip
    exact absurd (if_neg h) c13
  refine k_iconst C (x := 1) rfl rfl rfl ?_
  refine k_goto C (pc2 := 21) rfl rfl ?_
  refine k_iconst C (x := 1) rfl rfl rfl ?_
  refine c_VI C (e_throwsIf1 T_m rfl) rfl rfl rfl rfl rfl ⟨_, rfl, rfl, T_m, Nat.le_of_ble_eq_true rfl⟩ rfl rfl (Nat.le_of_ble_eq_true rfl) (Nat.le_of_ble_eq_true rfl) (Nat.le_of_ble_eq_true rfl) ?_
  rintro _ _ _ ⟨hx7, hI8, hL9⟩
  have hx7 := hx7.symm; subst hx7
  have hI8 := hI8.symm; subst hI8; have hL9 := hL9.symm; subst hL9
  refine k_if_eq C (t := 32) rfl rfl rfl (fun c25 => absurd c25 (by decide)) (fun _ => ?_)
  refine k_iconst C (x := 0) rfl rfl rfl ?_
  refine k_goto C (pc2 := 39) rfl rfl ?_
  exact k_iret C rfl (Or.inl rfl) (Nat.le_of_ble_eq_true rfl) (Nat.le_of_ble_eq_true rfl) ⟨_, _, _, rfl, rfl, ⟨(Fr.i (Fr.i Fr.rf A_m) A_m), u2_s⟩⟩

theorem e_m_basis_yes {d : Nat} {T N : Nat → Nat} {I : IT} {L : LT} {R : RT} {A : Nat → Prop} {m w dn : Nat} {set fd seed : Int32}{p : Int32} (T_m : T m = 13) (R_m_1 : R m 1 = some w) (T_w : T w = 20) (N_w : N w = 4007) (R_m_23 : R m 23 = some dn) (T_dn : T dn = 20) (N_dn : N dn = 108) (I_w_0 : I w 0 = p) (I_w_3 : I w 3 = 0) (A_m : A m) (A_dn : A dn) (hp1 : 2 ≤ p.toInt) (hp2 : p.toInt ≤ 19) {n : Nat} (hfd : fd = Int32.ofNat n) (hn : n ≤ 8) (hwd : w ≠ dn) (h : 1 ≤ fd ∧ fd ≤ 8) : Ex (d + 4) 266 [.ref m, .int set, .int fd, .int seed] (T, N, I, L, R) 0 0 (pI T N R (fun x9 I9 L9 => x9 = 0 ∧ Fr A I L I9 L9 ∧ I9 m 0 = 0)) := by
  refine ⟨_, rfl, Nat.le_of_ble_eq_true rfl, fun V C S => ?_⟩
  show V 0 [(0, .ref m), (1, .int set), (2, .int fd), (3, .int seed)] [] (T, N, I, L, R) 0 0
  refine k_aload_n C rfl rfl rfl ?_
  refine k_iconst C (x := 0) rfl rfl rfl ?_
  refine p_I C rfl rfl rfl T_m (Or.inr rfl) rfl ?_
  refine k_aload_n C rfl rfl rfl ?_
  refine k_iload_n C rfl rfl rfl ?_
  refine k_iconst C (x := 1) rfl rfl rfl ?_
  refine k_bipush C (x := 8) rfl rfl rfl ?_
  refine c_SI C e_in rfl rfl rfl rfl rfl rfl rfl (Nat.le_of_ble_eq_true rfl) (Nat.le_of_ble_eq_true rfl) (Nat.le_of_ble_eq_true rfl) ?_
  rintro _ _ _ ⟨hx7, hI8, hL9⟩
  have hx7 := hx7.symm; subst hx7
  have hI8 := hI8.symm; subst hI8; have hL9 := hL9.symm; subst hL9
  refine k_if_ne C (t := 20) rfl rfl rfl (fun c13 => ?_) (fun c13 => ?_)
  · skip
    refine k_iconst C (x := 0) rfl rfl rfl ?_
    refine k_iconst C (x := 1) rfl rfl rfl ?_
    refine c_VI C (e_throwsIf0 T_m rfl) rfl rfl rfl rfl rfl ⟨_, rfl, rfl, T_m, Nat.le_of_ble_eq_true rfl⟩ rfl rfl (Nat.le_of_ble_eq_true rfl) (Nat.le_of_ble_eq_true rfl) (Nat.le_of_ble_eq_true rfl) ?_
    rintro _ _ _ ⟨hx7, hI8, hL9⟩
    have hx7 := hx7.symm; subst hx7
    have hI8 := hI8.symm; subst hI8; have hL9 := hL9.symm; subst hL9
    refine k_if_eq C (t := 32) rfl rfl rfl (fun _ => ?_) (fun c25 => absurd (by decide) c25)
    refine k_aload_n C rfl rfl rfl ?_
    refine k_iload_n C rfl rfl rfl ?_
    refine k_iload_n C rfl rfl rfl ?_
    refine k_iload_n C rfl rfl rfl ?_
    refine c_VI C (e_m_basisOf0 T_m R_m_1 T_w N_w R_m_23 T_dn N_dn ((u2_a (t_nq T_w T_m (by decide))).trans (I_w_0)) ((u2_a (t_nq T_w T_m (by decide))).trans (I_w_3)) hp1 hp2 hfd hn hwd) rfl rfl rfl rfl rfl ⟨_, rfl, rfl, T_m, Nat.le_of_ble_eq_true rfl⟩ rfl rfl (Nat.le_of_ble_eq_true rfl) (Nat.le_of_ble_eq_true rfl) (Nat.le_of_ble_eq_true rfl) ?_
    intro x36 I36 L36 h36
    obtain ⟨rfl, f36⟩ := h36
    exact k_iret C rfl (Or.inl rfl) (Nat.le_of_ble_eq_true rfl) (Nat.le_of_ble_eq_true rfl) ⟨_, _, _, rfl, rfl, ⟨rfl, Fr.tr (Fr.i Fr.rf A_m) (f36.mono (fun z hz => hz ▸ A_dn)), (congrFun (f36 m (t_nq T_m T_dn (by decide))).1 0).trans u2_s⟩⟩
  exact absurd (fun e => absurd ((if_pos h).symm.trans e) (by decide)) c13

