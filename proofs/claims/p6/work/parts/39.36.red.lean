/-! WHOLE FORMS in the reference -/
theorem e_m_isWide {d : Nat} {T N : Nat → Nat} {I : IT} {L : LT} {R : RT} {m : Nat}{s : S8} (T_m : T m = 13) (J_m_30 : L m 30 = s 0) (J_m_31 : L m 31 = s 1) : Ex (d + 1) 298 [.ref m] (T, N, I, L, R) 0 0 (pI T N R (fun x9 I9 L9 => x9 = (@ite _ (wide s) (wideD s) (1 : Int32) 0) ∧ I9 = I ∧ L9 = L)) := by
  refine ⟨_, rfl, Nat.le_of_ble_eq_true rfl, fun V C S => ?_⟩
  show V 0 [(0, .ref m)] [] (T, N, I, L, R) 0 0
  refine k_aload_n C rfl rfl rfl ?_
  refine g_L C rfl rfl rfl T_m rfl (J_m_31) ?_
  refine k_aload_n C rfl rfl rfl ?_
  refine g_L C rfl rfl rfl T_m rfl (J_m_30) ?_
  refine k_lcmp C rfl rfl ?_
  refine k_if_gt C (t := 25) rfl rfl rfl (fun c9 => ?_) (fun c9 => ?_)
  · skip
    have q : wide s := Or.inl ((lg_cmp_gt _ _).mp c9)
    refine k_iconst C (x := 1) rfl rfl rfl ?_
    refine k_goto C (pc2 := 30) rfl rfl ?_
    exact k_iret C rfl (Or.inr ⟨rfl, by first | exact Or.inl rfl | exact Or.inr rfl⟩) (Nat.le_of_ble_eq_true rfl) (Nat.le_of_ble_eq_true rfl) ⟨_, _, _, rfl, rfl, ⟨by first | exact (if_pos q).symm | exact (if_neg q).symm, rfl, rfl⟩⟩
  refine k_aload_n C rfl rfl rfl ?_
  refine g_L C rfl rfl rfl T_m rfl (J_m_31) ?_
  refine k_aload_n C rfl rfl rfl ?_
  refine g_L C rfl rfl rfl T_m rfl (J_m_30) ?_
  refine k_lneg C rfl rfl ?_
  refine k_lcmp C rfl rfl ?_
  refine k_if_gt C (t := 29) rfl rfl rfl (fun c22 => ?_) (fun c22 => ?_)
  · skip
    have q : ¬ wide s := fun h => h.elim (fun h => c9 ((lg_cmp_gt _ _).mpr h)) (fun h => absurd ((lg_cmp_le _ _).mpr h) (Int32.not_le.mpr c22))
    refine k_iconst C (x := 0) rfl rfl rfl ?_
    exact k_iret C rfl (Or.inr ⟨rfl, by first | exact Or.inl rfl | exact Or.inr rfl⟩) (Nat.le_of_ble_eq_true rfl) (Nat.le_of_ble_eq_true rfl) ⟨_, _, _, rfl, rfl, ⟨by first | exact (if_pos q).symm | exact (if_neg q).symm, rfl, rfl⟩⟩
  have q : wide s := Or.inr ((lg_cmp_le _ _).mp (Int32.not_lt.mp c22))
  refine k_iconst C (x := 1) rfl rfl rfl ?_
  refine k_goto C (pc2 := 30) rfl rfl ?_
  exact k_iret C rfl (Or.inr ⟨rfl, by first | exact Or.inl rfl | exact Or.inr rfl⟩) (Nat.le_of_ble_eq_true rfl) (Nat.le_of_ble_eq_true rfl) ⟨_, _, _, rfl, rfl, ⟨by first | exact (if_pos q).symm | exact (if_neg q).symm, rfl, rfl⟩⟩

theorem e_m_isTurned {d : Nat} {T N : Nat → Nat} {I : IT} {L : LT} {R : RT} {m : Nat}{s : S8} (T_m : T m = 13) (J_m_30 : L m 30 = s 0) (J_m_31 : L m 31 = s 1) (J_m_32 : L m 32 = s 2) : Ex (d + 1) 299 [.ref m] (T, N, I, L, R) 0 0 (pI T N R (fun x9 I9 L9 => x9 = (@ite _ (turned s) (turnedD s) (1 : Int32) 0) ∧ I9 = I ∧ L9 = L)) := by
  refine ⟨_, rfl, Nat.le_of_ble_eq_true rfl, fun V C S => ?_⟩
  show V 0 [(0, .ref m)] [] (T, N, I, L, R) 0 0
  refine k_aload_n C rfl rfl rfl ?_
  refine g_L C rfl rfl rfl T_m rfl (J_m_30) ?_
  refine k_aload_n C rfl rfl rfl ?_
  refine g_L C rfl rfl rfl T_m rfl (J_m_32) ?_
  refine k_lcmp C rfl rfl ?_
  refine k_if_gt C (t := 33) rfl rfl rfl (fun c9 => ?_) (fun c9 => ?_)
  · skip
    have q : turned s := Or.inl ((lg_cmp_gt _ _).mp c9)
    refine k_iconst C (x := 1) rfl rfl rfl ?_
    refine k_goto C (pc2 := 38) rfl rfl ?_
    exact k_iret C rfl (Or.inr ⟨rfl, by first | exact Or.inl rfl | exact Or.inr rfl⟩) (Nat.le_of_ble_eq_true rfl) (Nat.le_of_ble_eq_true rfl) ⟨_, _, _, rfl, rfl, ⟨by first | exact (if_pos q).symm | exact (if_neg q).symm, rfl, rfl⟩⟩
  refine k_aload_n C rfl rfl rfl ?_
  refine g_L C rfl rfl rfl T_m rfl (J_m_30) ?_
  refine k_aload_n C rfl rfl rfl ?_
  refine g_L C rfl rfl rfl T_m rfl (J_m_32) ?_
  refine k_lcmp C rfl rfl ?_
  refine k_if_ne C (t := 37) rfl rfl rfl (fun c21 => ?_) (fun c21 => ?_)
  · skip
    have q : ¬ turned s := fun h => h.elim (fun h => c9 ((lg_cmp_gt _ _).mpr h)) (fun h => c21 ((lg_cmp_eq _ _).mpr h.1))
    refine k_iconst C (x := 0) rfl rfl rfl ?_
    exact k_iret C rfl (Or.inr ⟨rfl, by first | exact Or.inl rfl | exact Or.inr rfl⟩) (Nat.le_of_ble_eq_true rfl) (Nat.le_of_ble_eq_true rfl) ⟨_, _, _, rfl, rfl, ⟨by first | exact (if_pos q).symm | exact (if_neg q).symm, rfl, rfl⟩⟩
  have e21 := (lg_cmp_eq _ _).mp (Decidable.not_not.mp c21)
  refine k_aload_n C rfl rfl rfl ?_
  refine g_L C rfl rfl rfl T_m rfl (J_m_31) ?_
  refine k_lconst C (x := 0) rfl rfl rfl ?_
  refine k_lcmp C rfl rfl ?_
  refine k_if_ge C (t := 37) rfl rfl rfl (fun c30 => ?_) (fun c30 => ?_)
  · skip
    have q : ¬ turned s := fun h => h.elim (fun h => c9 ((lg_cmp_gt _ _).mpr h)) (fun h => absurd ((lg_cmp_lt _ _).mpr h.2) (Int32.not_lt.mpr c30))
    refine k_iconst C (x := 0) rfl rfl rfl ?_
    exact k_iret C rfl (Or.inr ⟨rfl, by first | exact Or.inl rfl | exact Or.inr rfl⟩) (Nat.le_of_ble_eq_true rfl) (Nat.le_of_ble_eq_true rfl) ⟨_, _, _, rfl, rfl, ⟨by first | exact (if_pos q).symm | exact (if_neg q).symm, rfl, rfl⟩⟩
  have q : turned s := Or.inr ⟨e21, (lg_cmp_lt _ _).mp (Int32.not_le.mp c30)⟩
  refine k_iconst C (x := 1) rfl rfl rfl ?_
  refine k_goto C (pc2 := 38) rfl rfl ?_
  exact k_iret C rfl (Or.inr ⟨rfl, by first | exact Or.inl rfl | exact Or.inr rfl⟩) (Nat.le_of_ble_eq_true rfl) (Nat.le_of_ble_eq_true rfl) ⟨_, _, _, rfl, rfl, ⟨by first | exact (if_pos q).symm | exact (if_neg q).symm, rfl, rfl⟩⟩

theorem e_m_joins {d : Nat} {T N : Nat → Nat} {I : IT} {L : LT} {R : RT} {A : Nat → Prop} {m wl : Nat} {p q r t : Int64}{s : S8} (T_m : T m = 13) (A_m : A m) (R_m_34 : R m 34 = some wl) (T_wl : T wl = 21) (N_wl : N wl = 4) (A_wl : A wl) (J_wl_0 : L wl 0 = s 4) (J_wl_1 : L wl 1 = s 5) (J_wl_2 : L wl 2 = s 6) (J_wl_3 : L wl 3 = s 7) (J_m_33 : L m 33 = s 3) : Ex (d + 1) 297 [.ref m, .long p, .long q, .long r, .long t] (T, N, I, L, R) 0 0 (pV T N R (fun I9 L9 => I9 = I ∧ Fr A I L I9 L9 ∧ L9 wl 0 = s 4 * p + s 5 * r ∧ L9 wl 1 = s 4 * q + s 5 * t ∧ L9 wl 2 = s 6 * p + s 7 * r ∧ L9 wl 3 = s 6 * q + s 7 * t ∧ L9 m 33 = s 3 + 1 ∧ ∀ k, k ≠ 33 → L9 m k = L m k)) := by
  refine ⟨_, rfl, Nat.le_of_ble_eq_true rfl, fun V C S => ?_⟩
  show V 0 [(0, .ref m), (1, .long p), (3, .long q), (5, .long r), (7, .long t)] [] (T, N, I, L, R) 0 0
  have hmw : m ≠ wl := t_nq T_m T_wl (by decide)
  refine k_aload_n C rfl rfl rfl ?_
  refine g_R C rfl rfl rfl T_m rfl R_m_34 ?_
  refine k_iconst C (x := 0) rfl rfl rfl ?_
  refine a_L C rfl rfl T_wl (vin (n := 0) rfl (by rw [N_wl]; exact Nat.le_of_ble_eq_true rfl) (by rw [N_wl]; exact Nat.le_of_ble_eq_true rfl)) J_wl_0 ?_
  refine k_lstore C (lw := [(9, .long _), (0, _), (1, .long _), (3, .long _), (5, .long _), (7, .long _)]) rfl rfl (Nat.le_of_ble_eq_true rfl) rfl ?_
  refine k_aload_n C rfl rfl rfl ?_
  refine g_R C rfl rfl rfl T_m rfl R_m_34 ?_
  refine k_iconst C (x := 1) rfl rfl rfl ?_
  refine a_L C rfl rfl T_wl (vin (n := 1) rfl (by rw [N_wl]; exact Nat.le_of_ble_eq_true rfl) (by rw [N_wl]; exact Nat.le_of_ble_eq_true rfl)) J_wl_1 ?_
  refine k_lstore C (lw := [(11, .long _), (9, .long _), (0, _), (1, .long _), (3, .long _), (5, .long _), (7, .long _)]) rfl rfl (Nat.le_of_ble_eq_true rfl) rfl ?_
  refine k_aload_n C rfl rfl rfl ?_
  refine g_R C rfl rfl rfl T_m rfl R_m_34 ?_
  refine k_iconst C (x := 2) rfl rfl rfl ?_
  refine a_L C rfl rfl T_wl (vin (n := 2) rfl (by rw [N_wl]; exact Nat.le_of_ble_eq_true rfl) (by rw [N_wl]; exact Nat.le_of_ble_eq_true rfl)) J_wl_2 ?_
  refine k_lstore C (lw := [(13, .long _), (11, .long _), (9, .long _), (0, _), (1, .long _), (3, .long _), (5, .long _), (7, .long _)]) rfl rfl (Nat.le_of_ble_eq_true rfl) rfl ?_
  refine k_aload_n C rfl rfl rfl ?_
  refine g_R C rfl rfl rfl T_m rfl R_m_34 ?_
  refine k_iconst C (x := 3) rfl rfl rfl ?_
  refine a_L C rfl rfl T_wl (vin (n := 3) rfl (by rw [N_wl]; exact Nat.le_of_ble_eq_true rfl) (by rw [N_wl]; exact Nat.le_of_ble_eq_true rfl)) J_wl_3 ?_
  refine k_lstore C (lw := [(15, .long _), (13, .long _), (11, .long _), (9, .long _), (0, _), (1, .long _), (3, .long _), (5, .long _), (7, .long _)]) rfl rfl (Nat.le_of_ble_eq_true rfl) rfl ?_
  refine k_aload_n C rfl rfl rfl ?_
  refine g_R C rfl rfl rfl T_m rfl R_m_34 ?_
  refine k_iconst C (x := 0) rfl rfl rfl ?_
  refine k_lload C rfl rfl rfl ?_
  refine k_lload_n C rfl rfl rfl ?_
  refine k_lmul C rfl rfl ?_
  refine k_lload C rfl rfl rfl ?_
  refine k_lload C rfl rfl rfl ?_
  refine k_lmul C rfl rfl ?_
  refine k_ladd C rfl rfl ?_
  refine s_L C rfl rfl T_wl (vin (n := 0) rfl (by rw [N_wl]; exact Nat.le_of_ble_eq_true rfl) (by rw [N_wl]; exact Nat.le_of_ble_eq_true rfl)) (show (0 : Int32).toNatClampNeg = 0 from by decide) ?_
  refine k_aload_n C rfl rfl rfl ?_
  refine g_R C rfl rfl rfl T_m rfl R_m_34 ?_
  refine k_iconst C (x := 1) rfl rfl rfl ?_
  refine k_lload C rfl rfl rfl ?_
  refine k_lload_n C rfl rfl rfl ?_
  refine k_lmul C rfl rfl ?_
  refine k_lload C rfl rfl rfl ?_
  refine k_lload C rfl rfl rfl ?_
  refine k_lmul C rfl rfl ?_
  refine k_ladd C rfl rfl ?_
  refine s_L C rfl rfl T_wl (vin (n := 1) rfl (by rw [N_wl]; exact Nat.le_of_ble_eq_true rfl) (by rw [N_wl]; exact Nat.le_of_ble_eq_true rfl)) (show (1 : Int32).toNatClampNeg = 1 from by decide) ?_
  refine k_aload_n C rfl rfl rfl ?_
  refine g_R C rfl rfl rfl T_m rfl R_m_34 ?_
  refine k_iconst C (x := 2) rfl rfl rfl ?_
  refine k_lload C rfl rfl rfl ?_
  refine k_lload_n C rfl rfl rfl ?_
  refine k_lmul C rfl rfl ?_
  refine k_lload C rfl rfl rfl ?_
  refine k_lload C rfl rfl rfl ?_
  refine k_lmul C rfl rfl ?_
  refine k_ladd C rfl rfl ?_
  refine s_L C rfl rfl T_wl (vin (n := 2) rfl (by rw [N_wl]; exact Nat.le_of_ble_eq_true rfl) (by rw [N_wl]; exact Nat.le_of_ble_eq_true rfl)) (show (2 : Int32).toNatClampNeg = 2 from by decide) ?_
  refine k_aload_n C rfl rfl rfl ?_
  refine g_R C rfl rfl rfl T_m rfl R_m_34 ?_
  refine k_iconst C (x := 3) rfl rfl rfl ?_
  refine k_lload C rfl rfl rfl ?_
  refine k_lload_n C rfl rfl rfl ?_
  refine k_lmul C rfl rfl ?_
  refine k_lload C rfl rfl rfl ?_
  refine k_lload C rfl rfl rfl ?_
  refine k_lmul C rfl rfl ?_
  refine k_ladd C rfl rfl ?_
  refine s_L C rfl rfl T_wl (vin (n := 3) rfl (by rw [N_wl]; exact Nat.le_of_ble_eq_true rfl) (by rw [N_wl]; exact Nat.le_of_ble_eq_true rfl)) (show (3 : Int32).toNatClampNeg = 3 from by decide) ?_
  refine k_aload_n C rfl rfl rfl ?_
  refine k_dup C rfl rfl rfl ?_
  refine g_L C rfl rfl rfl T_m rfl ((u2_a (t_nq T_m T_wl (by decide))).trans ((u2_a (t_nq T_m T_wl (by decide))).trans ((u2_a (t_nq T_m T_wl (by decide))).trans ((u2_a (t_nq T_m T_wl (by decide))).trans (J_m_33))))) ?_
  refine k_lconst C (x := 1) rfl rfl rfl ?_
  refine k_ladd C rfl rfl ?_
  refine p_L C rfl rfl rfl T_m (Or.inr rfl) rfl ?_
  exact k_vret C rfl rfl (Nat.le_of_ble_eq_true rfl) (Nat.le_of_ble_eq_true rfl) ⟨_, _, rfl, rfl, ⟨rfl, (Fr.l (Fr.l (Fr.l (Fr.l (Fr.l Fr.rf A_wl) A_wl) A_wl) A_wl) A_m), (u2_a (t_nq T_wl T_m (by decide))).trans ((u2_k (by decide)).trans ((u2_k (by decide)).trans ((u2_k (by decide)).trans (u2_s)))), (u2_a (t_nq T_wl T_m (by decide))).trans ((u2_k (by decide)).trans ((u2_k (by decide)).trans (u2_s))), (u2_a (t_nq T_wl T_m (by decide))).trans ((u2_k (by decide)).trans (u2_s)), (u2_a (t_nq T_wl T_m (by decide))).trans (u2_s), u2_s, fun k hk => (u2_k hk).trans ((u2_a hmw).trans ((u2_a hmw).trans ((u2_a hmw).trans (u2_a hmw))))⟩⟩

def smM (L : LT) (m wl : Nat) (s : S8) : Prop := L m 30 = s 0 ∧ L m 31 = s 1 ∧ L m 32 = s 2 ∧ L m 33 = s 3 ∧ L wl 0 = s 4 ∧ L wl 1 = s 5 ∧ L wl 2 = s 6 ∧ L wl 3 = s 7
theorem m_red_loop {d : Nat} {V : V_T} {q : mm_T} {Post : Po} {T N : Nat → Nat} {R : RT} {A : Nat → Prop} {I : IT} {L : LT} {m wl : Nat} (hq : P_ml[300]? = some q) (C : Cl (d + 1) q 0 0 Post V) (S : SB V) (T_m : T m = 13) (A_m : A m) (R_m_34 : R m 34 = some wl) (T_wl : T wl = 21) (N_wl : N wl = 4) (A_wl : A wl) {K : Int} (hK : 0 < K ∧ K ≤ 4000000) : ∀ (n : Nat) (L1 : LT) (s : S8), JJ K s → (red s ∨ (s 0).toInt ≤ n) → Fr A I L I L1 → smM L1 m wl s → (∀ L2, Fr A I L I L2 → smM L2 m wl (run (n + 1) s) → V 173 [(0, .ref m)] [] (T, N, I, L2, R) 0 0) → V 33 [(0, .ref m)] [] (T, N, I, L1, R) 0 0 := by
  cases hq
  have chk : ∀ (L1 : LT) (s : S8), smM L1 m wl s → (red s → V 173 [(0, .ref m)] [] (T, N, I, L1, R) 0 0) → (¬ red s → V 47 [(0, .ref m)] [] (T, N, I, L1, R) 0 0) → V 33 [(0, .ref m)] [] (T, N, I, L1, R) 0 0 := by
    intro L1 s hs k1 k2
    obtain ⟨J_m_30, J_m_31, J_m_32, J_m_33, J_wl_0, J_wl_1, J_wl_2, J_wl_3⟩ := hs
    refine k_aload_n C rfl rfl rfl ?_
    refine c_VI C (e_m_isWide (s := s) T_m J_m_30 J_m_31) rfl rfl rfl rfl rfl ⟨_, rfl, rfl, T_m, Nat.le_of_ble_eq_true rfl⟩ rfl rfl (Nat.le_of_ble_eq_true rfl) (Nat.le_of_ble_eq_true rfl) (Nat.le_of_ble_eq_true rfl) ?_
    rintro _ _ _ ⟨hx7, hI8, hL9⟩
    have hx7 := hx7.symm; subst hx7
    have hI8 := hI8.symm; subst hI8; have hL9 := hL9.symm; subst hL9
    refine k_if_ne C (t := 47) rfl rfl rfl (fun c => ?_) (fun c => ?_)
    · exact k2 (fun h => c (if_neg h.1))
    · have hw : ¬ wide s := fun h => by rw [if_pos h] at c; exact absurd (by decide) c
      refine k_aload_n C rfl rfl rfl ?_
      refine c_VI C (e_m_isTurned (s := s) T_m J_m_30 J_m_31 J_m_32) rfl rfl rfl rfl rfl ⟨_, rfl, rfl, T_m, Nat.le_of_ble_eq_true rfl⟩ rfl rfl (Nat.le_of_ble_eq_true rfl) (Nat.le_of_ble_eq_true rfl) (Nat.le_of_ble_eq_true rfl) ?_
      rintro _ _ _ ⟨hx7, hI8, hL9⟩
      have hx7 := hx7.symm; subst hx7
      have hI8 := hI8.symm; subst hI8; have hL9 := hL9.symm; subst hL9
      refine k_if_eq C (t := 173) rfl rfl rfl (fun c2 => ?_) (fun c2 => ?_)
      · exact k1 ⟨hw, fun h => by rw [if_pos h] at c2; exact absurd c2 (by decide)⟩
      · exact k2 (fun h => c2 (if_neg h.2))
  intro n
  induction n with
  | zero =>
    intro L1 s hJ hd hF hs Kk
    have hr : red s := hd.elim id (fun h => absurd h (by have := hJ.1; omega))
    exact chk L1 s hs (fun _ => Kk L1 hF (by rw [run_done hr]; exact hs)) (fun h => absurd hr h)
  | succ n ih =>
    intro L1 s hJ hd hF hs Kk
    refine chk L1 s hs (fun hr => Kk L1 hF (by rw [run_done hr]; exact hs)) (fun hnr => ?_)
    obtain ⟨j1, j2, j3⟩ := stp_int hK hJ hnr
    have K33 : ∀ (L2 : LT), Fr A I L I L2 → smM L2 m wl (sw1 (sh1 s)) → V 33 [(0, .ref m)] [] (T, N, I, L2, R) 0 0 := by
      intro L2 hF2 hs2
      have hA := hd.resolve_left hnr
      exact ih L2 _ j2 (j3.elim Or.inl (fun h => Or.inr (by omega))) hF2 hs2 (fun L3 hF3 hs3 => Kk L3 hF3 (by rw [run_step hnr]; exact hs3))
    have K126 : ∀ (L2 : LT), Fr A I L I L2 → smM L2 m wl (sh1 s) → V 126 [(0, .ref m)] [] (T, N, I, L2, R) 0 0 := by
      intro L2 hF2 hs2
      generalize sh1 s = u at j1 j2 j3 hs2 K33
      have hs3 := hs2
      obtain ⟨J_m_30, J_m_31, J_m_32, J_m_33, J_wl_0, J_wl_1, J_wl_2, J_wl_3⟩ := hs2
      refine k_aload_n C rfl rfl rfl ?_
      refine c_VI C (e_m_isTurned (s := u) T_m J_m_30 J_m_31 J_m_32) rfl rfl rfl rfl rfl ⟨_, rfl, rfl, T_m, Nat.le_of_ble_eq_true rfl⟩ rfl rfl (Nat.le_of_ble_eq_true rfl) (Nat.le_of_ble_eq_true rfl) (Nat.le_of_ble_eq_true rfl) ?_
      rintro _ _ _ ⟨hx7, hI8, hL9⟩
      have hx7 := hx7.symm; subst hx7
      have hI8 := hI8.symm; subst hI8; have hL9 := hL9.symm; subst hL9
      refine k_if_eq C (t := 33) rfl rfl rfl (fun c2 => ?_) (fun c2 => ?_)
      · have ht : ¬ turned u := fun h => by rw [if_pos h] at c2; exact absurd c2 (by decide)
        exact K33 _ hF2 (by rw [sw1_n ht]; exact hs3)
      · have ht : turned u := Classical.byContradiction (fun h => c2 (if_neg h))
        refine k_aload_n C rfl rfl rfl ?_
        refine g_L C rfl rfl rfl T_m rfl (J_m_30) ?_
        refine k_lstore_n C (lw := [(1, .long _), (0, _)]) rfl rfl (Nat.le_of_ble_eq_true rfl) rfl ?_
        refine k_aload_n C rfl rfl rfl ?_
        refine k_aload_n C rfl rfl rfl ?_
        refine g_L C rfl rfl rfl T_m rfl (J_m_32) ?_
        refine p_L C rfl rfl rfl T_m (Or.inr rfl) rfl ?_
        refine k_aload_n C rfl rfl rfl ?_
        refine k_lload_n C rfl rfl rfl ?_
        refine p_L C rfl rfl rfl T_m (Or.inr rfl) rfl ?_
        refine k_aload_n C rfl rfl rfl ?_
        refine k_aload_n C rfl rfl rfl ?_
        refine g_L C rfl rfl rfl T_m rfl ((u2_k (by decide)).trans ((u2_k (by decide)).trans (J_m_31))) ?_
        refine k_lneg C rfl rfl ?_
        refine p_L C rfl rfl rfl T_m (Or.inr rfl) rfl ?_
        refine k_aload_n C rfl rfl rfl ?_
        refine k_lconst C (x := 0) rfl rfl rfl ?_
        refine k_ldc2_w C rfl rfl rfl ?_
        refine k_lconst C (x := 1) rfl rfl rfl ?_
        refine k_lconst C (x := 0) rfl rfl rfl ?_
        refine c_VV C (e_m_joins T_m A_m R_m_34 T_wl N_wl A_wl ((u2_a (t_nq T_wl T_m (by decide))).trans ((u2_a (t_nq T_wl T_m (by decide))).trans ((u2_a (t_nq T_wl T_m (by decide))).trans (J_wl_0)))) ((u2_a (t_nq T_wl T_m (by decide))).trans ((u2_a (t_nq T_wl T_m (by decide))).trans ((u2_a (t_nq T_wl T_m (by decide))).trans (J_wl_1)))) ((u2_a (t_nq T_wl T_m (by decide))).trans ((u2_a (t_nq T_wl T_m (by decide))).trans ((u2_a (t_nq T_wl T_m (by decide))).trans (J_wl_2)))) ((u2_a (t_nq T_wl T_m (by decide))).trans ((u2_a (t_nq T_wl T_m (by decide))).trans ((u2_a (t_nq T_wl T_m (by decide))).trans (J_wl_3)))) ((u2_k (by decide)).trans ((u2_k (by decide)).trans ((u2_k (by decide)).trans (J_m_33)))) (s := u)) rfl rfl rfl rfl rfl ⟨_, rfl, rfl, T_m, Nat.le_of_ble_eq_true rfl⟩ rfl rfl (Nat.le_of_ble_eq_true rfl) (Nat.le_of_ble_eq_true rfl) (Nat.le_of_ble_eq_true rfl) ?_
        rintro I4 L4 ⟨hI8, hF9, w0, w1, w2, w3, w4, w5⟩
        have hI8 := hI8.symm; subst hI8
        refine k_goto C (pc2 := 33) rfl rfl ?_
        refine k_sub S [(0, .ref m)] (List.forall_mem_cons.mpr ⟨List.mem_of_getElem? (i := 1) rfl, fun _ h => nomatch h⟩) ?_
        refine K33 L4 (Fr.tr (Fr.l (Fr.l (Fr.l hF2 A_m) A_m) A_m) hF9) ?_
        rw [sw1_y ht]
        exact ⟨(w5 30 (by decide)).trans ((u2_k (by decide)).trans ((u2_k (by decide)).trans u2_s)), (w5 31 (by decide)).trans u2_s, (w5 32 (by decide)).trans ((u2_k (by decide)).trans u2_s), w4, w0.trans (s0_ring _ _), w1.trans (s1_ring _ _), w2.trans (s0_ring _ _), w3.trans (s1_ring _ _)⟩
    have hs3 := hs
    obtain ⟨J_m_30, J_m_31, J_m_32, J_m_33, J_wl_0, J_wl_1, J_wl_2, J_wl_3⟩ := hs
    refine k_aload_n C rfl rfl rfl ?_
    refine c_VI C (e_m_isWide (s := s) T_m J_m_30 J_m_31) rfl rfl rfl rfl rfl ⟨_, rfl, rfl, T_m, Nat.le_of_ble_eq_true rfl⟩ rfl rfl (Nat.le_of_ble_eq_true rfl) (Nat.le_of_ble_eq_true rfl) (Nat.le_of_ble_eq_true rfl) ?_
    rintro _ _ _ ⟨hx7, hI8, hL9⟩
    have hx7 := hx7.symm; subst hx7
    have hI8 := hI8.symm; subst hI8; have hL9 := hL9.symm; subst hL9
    refine k_if_eq C (t := 126) rfl rfl rfl (fun c => ?_) (fun c => ?_)
    · have hw : ¬ wide s := fun h => by rw [if_pos h] at c; exact absurd c (by decide)
      exact K126 _ hF (by rw [sh1_n hw]; exact hs3)
    · have hw : wide s := Classical.byContradiction (fun h => c (if_neg h))
      refine k_aload_n C rfl rfl rfl ?_
      refine g_L C rfl rfl rfl T_m rfl (J_m_30) ?_
      refine k_aload_n C rfl rfl rfl ?_
      refine g_L C rfl rfl rfl T_m rfl (J_m_31) ?_
      refine k_lsub C rfl rfl ?_
      refine k_ldc2_w C rfl rfl rfl ?_
      refine k_aload_n C rfl rfl rfl ?_
      refine g_L C rfl rfl rfl T_m rfl (J_m_30) ?_
      refine k_lmul C rfl rfl ?_
      refine c_SL C (e_fdL  (by rw [two_mul_int (by have := hJ.1; omega)]; have := hJ.1; omega)) rfl rfl rfl rfl rfl rfl rfl (Nat.le_of_ble_eq_true rfl) (Nat.le_of_ble_eq_true rfl) (Nat.le_of_ble_eq_true rfl) ?_
      rintro x71 _ _ ⟨hI8, hL9, h71⟩
      have hI8 := hI8.symm; subst hI8; have hL9 := hL9.symm; subst hL9
      have e71 : x71 = nOf s := by unfold nOf; rw [← h71, Int64.ofInt_toInt]
      subst e71
      refine k_lstore_n C (lw := [(1, .long _), (0, _)]) rfl rfl (Nat.le_of_ble_eq_true rfl) rfl ?_
      refine k_aload_n C rfl rfl rfl ?_
      refine k_aload_n C rfl rfl rfl ?_
      refine g_L C rfl rfl rfl T_m rfl (J_m_30) ?_
      refine k_lload_n C rfl rfl rfl ?_
      refine k_lmul C rfl rfl ?_
      refine k_lload_n C rfl rfl rfl ?_
      refine k_lmul C rfl rfl ?_
      refine k_aload_n C rfl rfl rfl ?_
      refine g_L C rfl rfl rfl T_m rfl (J_m_31) ?_
      refine k_lload_n C rfl rfl rfl ?_
      refine k_lmul C rfl rfl ?_
      refine k_ladd C rfl rfl ?_
      refine k_aload_n C rfl rfl rfl ?_
      refine g_L C rfl rfl rfl T_m rfl (J_m_32) ?_
      refine k_ladd C rfl rfl ?_
      refine p_L C rfl rfl rfl T_m (Or.inr rfl) rfl ?_
      refine k_aload_n C rfl rfl rfl ?_
      refine k_dup C rfl rfl rfl ?_
      refine g_L C rfl rfl rfl T_m rfl ((u2_k (by decide)).trans (J_m_31)) ?_
      refine k_ldc2_w C rfl rfl rfl ?_
      refine k_aload_n C rfl rfl rfl ?_
      refine g_L C rfl rfl rfl T_m rfl ((u2_k (by decide)).trans (J_m_30)) ?_
      refine k_lmul C rfl rfl ?_
      refine k_lload_n C rfl rfl rfl ?_
      refine k_lmul C rfl rfl ?_
      refine k_ladd C rfl rfl ?_
      refine p_L C rfl rfl rfl T_m (Or.inr rfl) rfl ?_
      refine k_aload_n C rfl rfl rfl ?_
      refine k_lconst C (x := 1) rfl rfl rfl ?_
      refine k_lload_n C rfl rfl rfl ?_
      refine k_lconst C (x := 0) rfl rfl rfl ?_
      refine k_lconst C (x := 1) rfl rfl rfl ?_
      refine c_VV C (e_m_joins T_m A_m R_m_34 T_wl N_wl A_wl ((u2_a (t_nq T_wl T_m (by decide))).trans ((u2_a (t_nq T_wl T_m (by decide))).trans (J_wl_0))) ((u2_a (t_nq T_wl T_m (by decide))).trans ((u2_a (t_nq T_wl T_m (by decide))).trans (J_wl_1))) ((u2_a (t_nq T_wl T_m (by decide))).trans ((u2_a (t_nq T_wl T_m (by decide))).trans (J_wl_2))) ((u2_a (t_nq T_wl T_m (by decide))).trans ((u2_a (t_nq T_wl T_m (by decide))).trans (J_wl_3))) ((u2_k (by decide)).trans ((u2_k (by decide)).trans (J_m_33))) (s := s)) rfl rfl rfl rfl rfl ⟨_, rfl, rfl, T_m, Nat.le_of_ble_eq_true rfl⟩ rfl rfl (Nat.le_of_ble_eq_true rfl) (Nat.le_of_ble_eq_true rfl) (Nat.le_of_ble_eq_true rfl) ?_
      rintro I3 L3 ⟨hI8, hF9, w0, w1, w2, w3, w4, w5⟩
      have hI8 := hI8.symm; subst hI8
      have hF2 : Fr A I L I L3 := Fr.tr (Fr.l (Fr.l hF A_m) A_m) hF9
      have hs2 : smM L3 m wl (sh1 s) := by
        rw [sh1_y hw]
        refine ⟨(w5 30 (by decide)).trans ((u2_k (by decide)).trans ((u2_k (by decide)).trans J_m_30)), (w5 31 (by decide)).trans u2_s, (w5 32 (by decide)).trans ((u2_k (by decide)).trans (u2_s.trans (c_ring _ _ _ _))), w4, w0.trans (j0_ring _ _), w1.trans (j1_ring _ _ _), w2.trans (j0_ring _ _), w3.trans (j1_ring _ _ _)⟩
      refine k_sub S [(0, .ref m)] (List.forall_mem_cons.mpr ⟨List.mem_of_getElem? (i := 1) rfl, fun _ h => nomatch h⟩) ?_
      exact K126 _ hF2 hs2
theorem e_m_reduces {d : Nat} {T N : Nat → Nat} {I : IT} {L : LT} {R : RT} {A : Nat → Prop} {m wl : Nat}{s : S8} (T_m : T m = 13) (A_m : A m) (R_m_34 : R m 34 = some wl) (T_wl : T wl = 21) (N_wl : N wl = 4) (A_wl : A wl) (J_m_30 : L m 30 = s 0) (J_m_31 : L m 31 = s 1) (J_m_32 : L m 32 = s 2) {K : Int} (hK : 0 < K ∧ K ≤ 4000000) (hJ : JJ K s) (h3 : s 3 = 0) (h4 : s 4 = 1) (h5 : s 5 = 0) (h6 : s 6 = 0) (h7 : s 7 = 1) : Ex (d + 2) 300 [.ref m] (T, N, I, L, R) 0 0 (pV T N R (fun I9 L9 => I9 = I ∧ Fr A I L I9 L9 ∧ smM L9 m wl (run 1000 s))) := by
  refine ⟨_, rfl, Nat.le_of_ble_eq_true rfl, fun V C S => ?_⟩
  show V 0 [(0, .ref m)] [] (T, N, I, L, R) 0 0
  refine k_aload_n C rfl rfl rfl ?_
  refine k_lconst C (x := 0) rfl rfl rfl ?_
  refine p_L C rfl rfl rfl T_m (Or.inr rfl) rfl ?_
  refine k_aload_n C rfl rfl rfl ?_
  refine g_R C rfl rfl rfl T_m rfl R_m_34 ?_
  refine k_iconst C (x := 0) rfl rfl rfl ?_
  refine k_lconst C (x := 1) rfl rfl rfl ?_
  refine s_L C rfl rfl T_wl (vin (n := 0) rfl (by rw [N_wl]; exact Nat.le_of_ble_eq_true rfl) (by rw [N_wl]; exact Nat.le_of_ble_eq_true rfl)) (show (0 : Int32).toNatClampNeg = 0 from by decide) ?_
  refine k_aload_n C rfl rfl rfl ?_
  refine g_R C rfl rfl rfl T_m rfl R_m_34 ?_
  refine k_iconst C (x := 1) rfl rfl rfl ?_
  refine k_lconst C (x := 0) rfl rfl rfl ?_
  refine s_L C rfl rfl T_wl (vin (n := 1) rfl (by rw [N_wl]; exact Nat.le_of_ble_eq_true rfl) (by rw [N_wl]; exact Nat.le_of_ble_eq_true rfl)) (show (1 : Int32).toNatClampNeg = 1 from by decide) ?_
  refine k_aload_n C rfl rfl rfl ?_
  refine g_R C rfl rfl rfl T_m rfl R_m_34 ?_
  refine k_iconst C (x := 2) rfl rfl rfl ?_
  refine k_lconst C (x := 0) rfl rfl rfl ?_
  refine s_L C rfl rfl T_wl (vin (n := 2) rfl (by rw [N_wl]; exact Nat.le_of_ble_eq_true rfl) (by rw [N_wl]; exact Nat.le_of_ble_eq_true rfl)) (show (2 : Int32).toNatClampNeg = 2 from by decide) ?_
  refine k_aload_n C rfl rfl rfl ?_
  refine g_R C rfl rfl rfl T_m rfl R_m_34 ?_
  refine k_iconst C (x := 3) rfl rfl rfl ?_
  refine k_lconst C (x := 1) rfl rfl rfl ?_
  refine s_L C rfl rfl T_wl (vin (n := 3) rfl (by rw [N_wl]; exact Nat.le_of_ble_eq_true rfl) (by rw [N_wl]; exact Nat.le_of_ble_eq_true rfl)) (show (3 : Int32).toNatClampNeg = 3 from by decide) ?_
  refine m_red_loop rfl C S T_m A_m R_m_34 T_wl N_wl A_wl hK 999 _ s hJ (Or.inr (by have := hJ.1; omega)) (Fr.l (Fr.l (Fr.l (Fr.l (Fr.l Fr.rf A_m) A_wl) A_wl) A_wl) A_wl) ⟨(u2_a (t_nq T_m T_wl (by decide))).trans ((u2_a (t_nq T_m T_wl (by decide))).trans ((u2_a (t_nq T_m T_wl (by decide))).trans ((u2_a (t_nq T_m T_wl (by decide))).trans ((u2_k (by decide)).trans (J_m_30))))), (u2_a (t_nq T_m T_wl (by decide))).trans ((u2_a (t_nq T_m T_wl (by decide))).trans ((u2_a (t_nq T_m T_wl (by decide))).trans ((u2_a (t_nq T_m T_wl (by decide))).trans ((u2_k (by decide)).trans (J_m_31))))), (u2_a (t_nq T_m T_wl (by decide))).trans ((u2_a (t_nq T_m T_wl (by decide))).trans ((u2_a (t_nq T_m T_wl (by decide))).trans ((u2_a (t_nq T_m T_wl (by decide))).trans ((u2_k (by decide)).trans (J_m_32))))), ((u2_a (t_nq T_m T_wl (by decide))).trans ((u2_a (t_nq T_m T_wl (by decide))).trans ((u2_a (t_nq T_m T_wl (by decide))).trans ((u2_a (t_nq T_m T_wl (by decide))).trans (u2_s))))).trans h3.symm, ((u2_k (by decide)).trans ((u2_k (by decide)).trans ((u2_k (by decide)).trans (u2_s)))).trans h4.symm, ((u2_k (by decide)).trans ((u2_k (by decide)).trans (u2_s))).trans h5.symm, ((u2_k (by decide)).trans (u2_s)).trans h6.symm, (u2_s).trans h7.symm⟩ (fun L2 hF2 hs2 => ?_)
  exact k_vret C rfl rfl (Nat.le_of_ble_eq_true rfl) (Nat.le_of_ble_eq_true rfl) ⟨_, _, rfl, rfl, rfl, hF2, hs2⟩

