/-! WHOLE FORMS in the class -/
def smS (g : Nat → Int64) (s : S8) : Prop := ∀ k, k < 8 → g k = s k
theorem lt_of_ne {x y : Int64} (h : ¬ x < y) (hn : ¬ x = y) : y < x := by
  rw [l_lt] at h ⊢
  have : x.toInt ≠ y.toInt := fun e => hn (Int64.toInt_inj.mp e)
  omega
theorem e_isReduced {d : Nat} {T N : Nat → Nat} {I : IT} {L : LT} {R : RT} {wh : Nat}{s : S8} (T_wh : T wh = 11) (J_wh_0 : L wh 0 = s 0) (J_wh_1 : L wh 1 = s 1) (J_wh_2 : L wh 2 = s 2) : Ex (d + 1) 112 [.ref wh] (T, N, I, L, R) 0 0 (pI T N R (fun x9 I9 L9 => x9 = (@ite _ (red s) (redD s) (1 : Int32) 0) ∧ I9 = I ∧ L9 = L)) := by
  refine ⟨_, rfl, Nat.le_of_ble_eq_true rfl, fun V C S => ?_⟩
  show V 0 [(0, .ref wh)] [] (T, N, I, L, R) 0 0
  refine k_aload_n C rfl rfl rfl ?_
  refine g_L C rfl rfl rfl T_wh rfl (J_wh_1) ?_
  refine k_aload_n C rfl rfl rfl ?_
  refine g_L C rfl rfl rfl T_wh rfl (J_wh_0) ?_
  refine k_lcmp C rfl rfl ?_
  refine k_if_gt C (t := 62) rfl rfl rfl (fun c9 => ?_) (fun c9 => ?_)
  · skip
    have q : ¬ red s := fun h => h.1 (Or.inl ((lg_cmp_gt _ _).mp c9))
    refine k_iconst C (x := 0) rfl rfl rfl ?_
    exact k_iret C rfl (Or.inr ⟨rfl, by first | exact Or.inl rfl | exact Or.inr rfl⟩) (Nat.le_of_ble_eq_true rfl) (Nat.le_of_ble_eq_true rfl) ⟨_, _, _, rfl, rfl, ⟨by first | exact (if_pos q).symm | exact (if_neg q).symm, rfl, rfl⟩⟩
  refine k_aload_n C rfl rfl rfl ?_
  refine g_L C rfl rfl rfl T_wh rfl (J_wh_1) ?_
  refine k_aload_n C rfl rfl rfl ?_
  refine g_L C rfl rfl rfl T_wh rfl (J_wh_0) ?_
  refine k_lneg C rfl rfl ?_
  refine k_lcmp C rfl rfl ?_
  refine k_if_le C (t := 62) rfl rfl rfl (fun c22 => ?_) (fun c22 => ?_)
  · skip
    have q : ¬ red s := fun h => h.1 (Or.inr ((lg_cmp_le _ _).mp c22))
    refine k_iconst C (x := 0) rfl rfl rfl ?_
    exact k_iret C rfl (Or.inr ⟨rfl, by first | exact Or.inl rfl | exact Or.inr rfl⟩) (Nat.le_of_ble_eq_true rfl) (Nat.le_of_ble_eq_true rfl) ⟨_, _, _, rfl, rfl, ⟨by first | exact (if_pos q).symm | exact (if_neg q).symm, rfl, rfl⟩⟩
  have qw : ¬ wide s := fun h => h.elim (fun h => c9 ((lg_cmp_gt _ _).mpr h)) (fun h => c22 ((lg_cmp_le _ _).mpr h))
  refine k_aload_n C rfl rfl rfl ?_
  refine g_L C rfl rfl rfl T_wh rfl (J_wh_0) ?_
  refine k_aload_n C rfl rfl rfl ?_
  refine g_L C rfl rfl rfl T_wh rfl (J_wh_2) ?_
  refine k_lcmp C rfl rfl ?_
  refine k_if_lt C (t := 58) rfl rfl rfl (fun c34 => ?_) (fun c34 => ?_)
  · skip
    have q : red s := ⟨qw, fun h => h.elim (fun h => absurd ((lg_cmp_lt _ _).mp c34) (fun e => Int64.lt_irrefl (Int64.lt_trans e h))) (fun h => absurd ((lg_cmp_lt _ _).mp c34) (by rw [h.1]; exact Int64.lt_irrefl))⟩
    refine k_iconst C (x := 1) rfl rfl rfl ?_
    refine k_goto C (pc2 := 63) rfl rfl ?_
    exact k_iret C rfl (Or.inr ⟨rfl, by first | exact Or.inl rfl | exact Or.inr rfl⟩) (Nat.le_of_ble_eq_true rfl) (Nat.le_of_ble_eq_true rfl) ⟨_, _, _, rfl, rfl, ⟨by first | exact (if_pos q).symm | exact (if_neg q).symm, rfl, rfl⟩⟩
  refine k_aload_n C rfl rfl rfl ?_
  refine g_L C rfl rfl rfl T_wh rfl (J_wh_0) ?_
  refine k_aload_n C rfl rfl rfl ?_
  refine g_L C rfl rfl rfl T_wh rfl (J_wh_2) ?_
  refine k_lcmp C rfl rfl ?_
  refine k_if_ne C (t := 62) rfl rfl rfl (fun c46 => ?_) (fun c46 => ?_)
  · skip
    have q : ¬ red s := fun h => (c46 ((lg_cmp_eq _ _).mpr (Decidable.byContradiction (fun e => h.2 (Or.inl (lt_of_ne (fun x => c34 ((lg_cmp_lt _ _).mpr x)) e))))))
    refine k_iconst C (x := 0) rfl rfl rfl ?_
    exact k_iret C rfl (Or.inr ⟨rfl, by first | exact Or.inl rfl | exact Or.inr rfl⟩) (Nat.le_of_ble_eq_true rfl) (Nat.le_of_ble_eq_true rfl) ⟨_, _, _, rfl, rfl, ⟨by first | exact (if_pos q).symm | exact (if_neg q).symm, rfl, rfl⟩⟩
  have e46 := (lg_cmp_eq _ _).mp (Decidable.not_not.mp c46)
  refine k_aload_n C rfl rfl rfl ?_
  refine g_L C rfl rfl rfl T_wh rfl (J_wh_1) ?_
  refine k_lconst C (x := 0) rfl rfl rfl ?_
  refine k_lcmp C rfl rfl ?_
  refine k_if_lt C (t := 62) rfl rfl rfl (fun c55 => ?_) (fun c55 => ?_)
  · skip
    have q : ¬ red s := fun h => h.2 (Or.inr ⟨e46, (lg_cmp_lt _ _).mp c55⟩)
    refine k_iconst C (x := 0) rfl rfl rfl ?_
    exact k_iret C rfl (Or.inr ⟨rfl, by first | exact Or.inl rfl | exact Or.inr rfl⟩) (Nat.le_of_ble_eq_true rfl) (Nat.le_of_ble_eq_true rfl) ⟨_, _, _, rfl, rfl, ⟨by first | exact (if_pos q).symm | exact (if_neg q).symm, rfl, rfl⟩⟩
  have q : red s := ⟨qw, fun h => h.elim (fun h => absurd h (by rw [e46]; exact Int64.lt_irrefl)) (fun h => c55 ((lg_cmp_lt _ _).mpr h.2))⟩
  refine k_iconst C (x := 1) rfl rfl rfl ?_
  refine k_goto C (pc2 := 63) rfl rfl ?_
  exact k_iret C rfl (Or.inr ⟨rfl, by first | exact Or.inl rfl | exact Or.inr rfl⟩) (Nat.le_of_ble_eq_true rfl) (Nat.le_of_ble_eq_true rfl) ⟨_, _, _, rfl, rfl, ⟨by first | exact (if_pos q).symm | exact (if_neg q).symm, rfl, rfl⟩⟩

theorem e_shift {d : Nat} {T N : Nat → Nat} {I : IT} {L : LT} {R : RT} {A : Nat → Prop} {wh : Nat}{s : S8} (T_wh : T wh = 11) (A_wh : A wh) (J_wh_0 : L wh 0 = s 0) (J_wh_1 : L wh 1 = s 1) (J_wh_2 : L wh 2 = s 2) (J_wh_3 : L wh 3 = s 3) (J_wh_4 : L wh 4 = s 4) (J_wh_5 : L wh 5 = s 5) (J_wh_6 : L wh 6 = s 6) (J_wh_7 : L wh 7 = s 7) {K : Int} (hJ : JJ K s) : Ex (d + 2) 114 [.ref wh] (T, N, I, L, R) 0 0 (pV T N R (fun I9 L9 => I9 = I ∧ Fr A I L I9 L9 ∧ smS (L9 wh) (shS s))) := by
  refine ⟨_, rfl, Nat.le_of_ble_eq_true rfl, fun V C S => ?_⟩
  show V 0 [(0, .ref wh)] [] (T, N, I, L, R) 0 0
  refine k_aload_n C rfl rfl rfl ?_
  refine g_L C rfl rfl rfl T_wh rfl (J_wh_0) ?_
  refine k_lconst C (x := 0) rfl rfl rfl ?_
  refine k_lcmp C rfl rfl ?_
  refine k_if_gt C (t := 10) rfl rfl rfl (fun c6 => ?_) (fun c6 => ?_)
  · skip
    refine k_aload_n C rfl rfl rfl ?_
    refine g_L C rfl rfl rfl T_wh rfl (J_wh_0) ?_
    refine k_aload_n C rfl rfl rfl ?_
    refine g_L C rfl rfl rfl T_wh rfl (J_wh_1) ?_
    refine k_lsub C rfl rfl ?_
    refine k_ldc2_w C rfl rfl rfl ?_
    refine k_aload_n C rfl rfl rfl ?_
    refine g_L C rfl rfl rfl T_wh rfl (J_wh_0) ?_
    refine k_lmul C rfl rfl ?_
    refine c_SL C (e_fdL  (by rw [two_mul_int (by have := hJ.1; omega)]; have := hJ.1; omega)) rfl rfl rfl rfl rfl rfl rfl (Nat.le_of_ble_eq_true rfl) (Nat.le_of_ble_eq_true rfl) (Nat.le_of_ble_eq_true rfl) ?_
    rintro x27 _ _ ⟨hI8, hL9, h27⟩
    have hI8 := hI8.symm; subst hI8; have hL9 := hL9.symm; subst hL9
    have e27 : x27 = nOf s := by unfold nOf; rw [← h27, Int64.ofInt_toInt]
    subst e27
    refine k_lstore_n C (lw := [(1, .long _), (0, _)]) rfl rfl (Nat.le_of_ble_eq_true rfl) rfl ?_
    refine k_aload_n C rfl rfl rfl ?_
    refine k_dup C rfl rfl rfl ?_
    refine g_L C rfl rfl rfl T_wh rfl (J_wh_2) ?_
    refine k_lload_n C rfl rfl rfl ?_
    refine k_aload_n C rfl rfl rfl ?_
    refine g_L C rfl rfl rfl T_wh rfl (J_wh_0) ?_
    refine k_lload_n C rfl rfl rfl ?_
    refine k_lmul C rfl rfl ?_
    refine k_aload_n C rfl rfl rfl ?_
    refine g_L C rfl rfl rfl T_wh rfl (J_wh_1) ?_
    refine k_ladd C rfl rfl ?_
    refine k_lmul C rfl rfl ?_
    refine k_ladd C rfl rfl ?_
    refine p_L C rfl rfl rfl T_wh (Or.inr rfl) rfl ?_
    refine k_aload_n C rfl rfl rfl ?_
    refine k_dup C rfl rfl rfl ?_
    refine g_L C rfl rfl rfl T_wh rfl ((u2_k (by decide)).trans (J_wh_1)) ?_
    refine k_ldc2_w C rfl rfl rfl ?_
    refine k_aload_n C rfl rfl rfl ?_
    refine g_L C rfl rfl rfl T_wh rfl ((u2_k (by decide)).trans (J_wh_0)) ?_
    refine k_lmul C rfl rfl ?_
    refine k_lload_n C rfl rfl rfl ?_
    refine k_lmul C rfl rfl ?_
    refine k_ladd C rfl rfl ?_
    refine p_L C rfl rfl rfl T_wh (Or.inr rfl) rfl ?_
    refine k_aload_n C rfl rfl rfl ?_
    refine k_dup C rfl rfl rfl ?_
    refine g_L C rfl rfl rfl T_wh rfl ((u2_k (by decide)).trans ((u2_k (by decide)).trans (J_wh_5))) ?_
    refine k_lload_n C rfl rfl rfl ?_
    refine k_aload_n C rfl rfl rfl ?_
    refine g_L C rfl rfl rfl T_wh rfl ((u2_k (by decide)).trans ((u2_k (by decide)).trans (J_wh_4))) ?_
    refine k_lmul C rfl rfl ?_
    refine k_ladd C rfl rfl ?_
    refine p_L C rfl rfl rfl T_wh (Or.inr rfl) rfl ?_
    refine k_aload_n C rfl rfl rfl ?_
    refine k_dup C rfl rfl rfl ?_
    refine g_L C rfl rfl rfl T_wh rfl ((u2_k (by decide)).trans ((u2_k (by decide)).trans ((u2_k (by decide)).trans (J_wh_7)))) ?_
    refine k_lload_n C rfl rfl rfl ?_
    refine k_aload_n C rfl rfl rfl ?_
    refine g_L C rfl rfl rfl T_wh rfl ((u2_k (by decide)).trans ((u2_k (by decide)).trans ((u2_k (by decide)).trans (J_wh_6)))) ?_
    refine k_lmul C rfl rfl ?_
    refine k_ladd C rfl rfl ?_
    refine p_L C rfl rfl rfl T_wh (Or.inr rfl) rfl ?_
    refine k_aload_n C rfl rfl rfl ?_
    refine k_dup C rfl rfl rfl ?_
    refine g_L C rfl rfl rfl T_wh rfl ((u2_k (by decide)).trans ((u2_k (by decide)).trans ((u2_k (by decide)).trans ((u2_k (by decide)).trans (J_wh_3))))) ?_
    refine k_lconst C (x := 1) rfl rfl rfl ?_
    refine k_ladd C rfl rfl ?_
    refine p_L C rfl rfl rfl T_wh (Or.inr rfl) rfl ?_
    exact k_vret C rfl rfl (Nat.le_of_ble_eq_true rfl) (Nat.le_of_ble_eq_true rfl) ⟨_, _, rfl, rfl, ⟨rfl, (Fr.l (Fr.l (Fr.l (Fr.l (Fr.l Fr.rf A_wh) A_wh) A_wh) A_wh) A_wh), fun k hk => match k, hk with | 0, _ => (u2_k (by decide)).trans ((u2_k (by decide)).trans ((u2_k (by decide)).trans ((u2_k (by decide)).trans ((u2_k (by decide)).trans (J_wh_0))))) | 1, _ => (u2_k (by decide)).trans ((u2_k (by decide)).trans ((u2_k (by decide)).trans (u2_s))) | 2, _ => (u2_k (by decide)).trans ((u2_k (by decide)).trans ((u2_k (by decide)).trans ((u2_k (by decide)).trans (u2_s)))) | 3, _ => u2_s | 4, _ => (u2_k (by decide)).trans ((u2_k (by decide)).trans ((u2_k (by decide)).trans ((u2_k (by decide)).trans ((u2_k (by decide)).trans (J_wh_4))))) | 5, _ => (u2_k (by decide)).trans ((u2_k (by decide)).trans (u2_s)) | 6, _ => (u2_k (by decide)).trans ((u2_k (by decide)).trans ((u2_k (by decide)).trans ((u2_k (by decide)).trans ((u2_k (by decide)).trans (J_wh_6))))) | 7, _ => (u2_k (by decide)).trans (u2_s) | k + 8, hk => absurd hk (by omega)⟩⟩
  exact absurd ((lg_cmp_gt _ _).mpr (l_lt.mpr (show (0 : Int) < _ by have := hJ.1; omega))) c6

theorem e_swap {d : Nat} {T N : Nat → Nat} {I : IT} {L : LT} {R : RT} {A : Nat → Prop} {wh : Nat}{s : S8} (T_wh : T wh = 11) (A_wh : A wh) (J_wh_0 : L wh 0 = s 0) (J_wh_1 : L wh 1 = s 1) (J_wh_2 : L wh 2 = s 2) (J_wh_3 : L wh 3 = s 3) (J_wh_4 : L wh 4 = s 4) (J_wh_5 : L wh 5 = s 5) (J_wh_6 : L wh 6 = s 6) (J_wh_7 : L wh 7 = s 7) : Ex (d + 1) 115 [.ref wh] (T, N, I, L, R) 0 0 (pV T N R (fun I9 L9 => I9 = I ∧ Fr A I L I9 L9 ∧ smS (L9 wh) (swS s))) := by
  refine ⟨_, rfl, Nat.le_of_ble_eq_true rfl, fun V C S => ?_⟩
  show V 0 [(0, .ref wh)] [] (T, N, I, L, R) 0 0
  refine k_aload_n C rfl rfl rfl ?_
  refine g_L C rfl rfl rfl T_wh rfl (J_wh_0) ?_
  refine k_lstore_n C (lw := [(1, .long _), (0, _)]) rfl rfl (Nat.le_of_ble_eq_true rfl) rfl ?_
  refine k_aload_n C rfl rfl rfl ?_
  refine k_aload_n C rfl rfl rfl ?_
  refine g_L C rfl rfl rfl T_wh rfl (J_wh_2) ?_
  refine p_L C rfl rfl rfl T_wh (Or.inr rfl) rfl ?_
  refine k_aload_n C rfl rfl rfl ?_
  refine k_aload_n C rfl rfl rfl ?_
  refine g_L C rfl rfl rfl T_wh rfl ((u2_k (by decide)).trans (J_wh_1)) ?_
  refine k_lneg C rfl rfl ?_
  refine p_L C rfl rfl rfl T_wh (Or.inr rfl) rfl ?_
  refine k_aload_n C rfl rfl rfl ?_
  refine k_lload_n C rfl rfl rfl ?_
  refine p_L C rfl rfl rfl T_wh (Or.inr rfl) rfl ?_
  refine k_aload_n C rfl rfl rfl ?_
  refine g_L C rfl rfl rfl T_wh rfl ((u2_k (by decide)).trans ((u2_k (by decide)).trans ((u2_k (by decide)).trans (J_wh_4)))) ?_
  refine k_lstore_n C (lw := [(3, .long _), (1, .long _), (0, _)]) rfl rfl (Nat.le_of_ble_eq_true rfl) rfl ?_
  refine k_aload_n C rfl rfl rfl ?_
  refine k_aload_n C rfl rfl rfl ?_
  refine g_L C rfl rfl rfl T_wh rfl ((u2_k (by decide)).trans ((u2_k (by decide)).trans ((u2_k (by decide)).trans (J_wh_5)))) ?_
  refine p_L C rfl rfl rfl T_wh (Or.inr rfl) rfl ?_
  refine k_aload_n C rfl rfl rfl ?_
  refine k_lload_n C rfl rfl rfl ?_
  refine k_lneg C rfl rfl ?_
  refine p_L C rfl rfl rfl T_wh (Or.inr rfl) rfl ?_
  refine k_aload_n C rfl rfl rfl ?_
  refine g_L C rfl rfl rfl T_wh rfl ((u2_k (by decide)).trans ((u2_k (by decide)).trans ((u2_k (by decide)).trans ((u2_k (by decide)).trans ((u2_k (by decide)).trans (J_wh_6)))))) ?_
  refine k_lstore C (lw := [(5, .long _), (3, .long _), (1, .long _), (0, _)]) rfl rfl (Nat.le_of_ble_eq_true rfl) rfl ?_
  refine k_aload_n C rfl rfl rfl ?_
  refine k_aload_n C rfl rfl rfl ?_
  refine g_L C rfl rfl rfl T_wh rfl ((u2_k (by decide)).trans ((u2_k (by decide)).trans ((u2_k (by decide)).trans ((u2_k (by decide)).trans ((u2_k (by decide)).trans (J_wh_7)))))) ?_
  refine p_L C rfl rfl rfl T_wh (Or.inr rfl) rfl ?_
  refine k_aload_n C rfl rfl rfl ?_
  refine k_lload C rfl rfl rfl ?_
  refine k_lneg C rfl rfl ?_
  refine p_L C rfl rfl rfl T_wh (Or.inr rfl) rfl ?_
  refine k_aload_n C rfl rfl rfl ?_
  refine k_dup C rfl rfl rfl ?_
  refine g_L C rfl rfl rfl T_wh rfl ((u2_k (by decide)).trans ((u2_k (by decide)).trans ((u2_k (by decide)).trans ((u2_k (by decide)).trans ((u2_k (by decide)).trans ((u2_k (by decide)).trans ((u2_k (by decide)).trans (J_wh_3)))))))) ?_
  refine k_lconst C (x := 1) rfl rfl rfl ?_
  refine k_ladd C rfl rfl ?_
  refine p_L C rfl rfl rfl T_wh (Or.inr rfl) rfl ?_
  exact k_vret C rfl rfl (Nat.le_of_ble_eq_true rfl) (Nat.le_of_ble_eq_true rfl) ⟨_, _, rfl, rfl, ⟨rfl, (Fr.l (Fr.l (Fr.l (Fr.l (Fr.l (Fr.l (Fr.l (Fr.l Fr.rf A_wh) A_wh) A_wh) A_wh) A_wh) A_wh) A_wh) A_wh), fun k hk => match k, hk with | 0, _ => (u2_k (by decide)).trans ((u2_k (by decide)).trans ((u2_k (by decide)).trans ((u2_k (by decide)).trans ((u2_k (by decide)).trans ((u2_k (by decide)).trans ((u2_k (by decide)).trans (u2_s))))))) | 1, _ => (u2_k (by decide)).trans ((u2_k (by decide)).trans ((u2_k (by decide)).trans ((u2_k (by decide)).trans ((u2_k (by decide)).trans ((u2_k (by decide)).trans (u2_s)))))) | 2, _ => (u2_k (by decide)).trans ((u2_k (by decide)).trans ((u2_k (by decide)).trans ((u2_k (by decide)).trans ((u2_k (by decide)).trans (u2_s))))) | 3, _ => u2_s | 4, _ => (u2_k (by decide)).trans ((u2_k (by decide)).trans ((u2_k (by decide)).trans ((u2_k (by decide)).trans (u2_s)))) | 5, _ => (u2_k (by decide)).trans ((u2_k (by decide)).trans ((u2_k (by decide)).trans (u2_s))) | 6, _ => (u2_k (by decide)).trans ((u2_k (by decide)).trans (u2_s)) | 7, _ => (u2_k (by decide)).trans (u2_s) | k + 8, hk => absurd hk (by omega)⟩⟩

def st0 (a b c : Int32) : S8 := fun k => match k with
  | 0 => a.toInt64
  | 1 => b.toInt64
  | 2 => c.toInt64
  | 4 => 1
  | 7 => 1
  | _ => 0
def okRed (a b c : Int32) : Prop := (-999 ≤ a.toInt ∧ a.toInt ≤ 999) ∧ (-999 ≤ b.toInt ∧ b.toInt ≤ 999) ∧ (-999 ≤ c.toInt ∧ c.toInt ≤ 999) ∧ 0 < a.toInt ∧ b.toInt * b.toInt - 4 * (a.toInt * c.toInt) < 0
theorem st0_J {a b c : Int32} (h : okRed a b c) : JJ (4 * (a.toInt * c.toInt) - b.toInt * b.toInt) (st0 a b c) ∧ 0 < 4 * (a.toInt * c.toInt) - b.toInt * b.toInt ∧ 4 * (a.toInt * c.toInt) - b.toInt * b.toInt ≤ 4000000 := by
  obtain ⟨h1, h2, h3, h4, h5⟩ := h
  have e0 : (st0 a b c 0).toInt = a.toInt := i2l_eq a
  have e1 : (st0 a b c 1).toInt = b.toInt := i2l_eq b
  have e2 : (st0 a b c 2).toInt = c.toInt := i2l_eq c
  have sq := sq_bd h2
  have m := bdm h1 h3
  have hc : 1 ≤ c.toInt := by
    rcases Int.lt_or_le 0 c.toInt with q | q
    · omega
    · have := Int.mul_nonpos_of_nonneg_of_nonpos (show 0 ≤ a.toInt by omega) q
      omega
  refine ⟨⟨?_, ?_, ?_, ?_⟩, by omega, by omega⟩
  · rw [e0]; omega
  · rw [e1]; omega
  · rw [e2]; omega
  · rw [e0, e1, e2]; omega
theorem e_reduce {d : Nat} {T N : Nat → Nat} {I : IT} {L : LT} {R : RT} {A : Nat → Prop} {wh : Nat} {a b c : Int32} (T_wh : T wh = 11) (A_wh : A wh) (hok : okRed a b c) : Ex (d + 3) 116 [.ref wh, .int a, .int b, .int c] (T, N, I, L, R) 0 0 (pV T N R (fun I9 L9 => I9 = I ∧ Fr A I L I9 L9 ∧ smS (L9 wh) (run 1000 (st0 a b c)))) := by
  refine ⟨_, rfl, Nat.le_of_ble_eq_true rfl, fun V C S => ?_⟩
  show V 0 [(0, .ref wh), (1, .int a), (2, .int b), (3, .int c)] [] (T, N, I, L, R) 0 0
  obtain ⟨hJ0, hK⟩ := st0_J hok
  generalize 4 * (a.toInt * c.toInt) - b.toInt * b.toInt = K at hJ0 hK
  have loop : ∀ (n i : Nat) (L1 : LT) (s : S8), JJ K s → (red s ∨ (s 0).toInt ≤ n) → i + n ≤ 5000 → n ≤ 1000 → Fr A I L I L1 → smS (L1 wh) s → (∀ L2, Fr A I L I L2 → smS (L2 wh) (run (n + 1) s) → ∀ x4 : Int32, V 132 [(4, .int x4), (0, .ref wh), (1, .int a), (2, .int b), (3, .int c)] [] (T, N, I, L2, R) 0 0) → V 46 [(4, .int (Int32.ofNat i)), (0, .ref wh), (1, .int a), (2, .int b), (3, .int c)] [] (T, N, I, L1, R) 0 0 := by
    intro n
    induction n with
    | zero =>
      intro i L1 s hJ hd hi hn hF hs Kk
      have hr : red s := hd.elim id (fun h => absurd h (by have := hJ.1; omega))
      refine k_iload C rfl rfl rfl ?_
      refine k_ldc C rfl rfl rfl ?_
      refine k_icmp_ge C (t := 132) rfl rfl rfl (fun c9 => absurd ((n_le (a := 1000000) (b := i) (by omega) (by omega)).mp c9) (by omega)) (fun _ => ?_)
      refine k_aload_n C rfl rfl rfl ?_
      refine c_VI C (e_isReduced (s := s) T_wh (hs 0 (Nat.le_of_ble_eq_true rfl)) (hs 1 (Nat.le_of_ble_eq_true rfl)) (hs 2 (Nat.le_of_ble_eq_true rfl))) rfl rfl rfl rfl rfl ⟨_, rfl, rfl, T_wh, Nat.le_of_ble_eq_true rfl⟩ rfl rfl (Nat.le_of_ble_eq_true rfl) (Nat.le_of_ble_eq_true rfl) (Nat.le_of_ble_eq_true rfl) ?_
      rintro _ _ _ ⟨hx7, hI8, hL9⟩
      have hx7 := hx7.symm; subst hx7
      have hI8 := hI8.symm; subst hI8; have hL9 := hL9.symm; subst hL9
      refine k_if_ne C (t := 132) rfl rfl rfl (fun cc => ?_) (fun cc => ?_)
      · have hr : red s := Classical.byContradiction (fun h => by rw [if_neg h] at cc; exact cc rfl)
        exact Kk L1 hF (by rw [run_done hr]; exact hs) _
      · rw [if_pos hr] at cc
        exact absurd (by decide) cc
    | succ n ih =>
      intro i L1 s hJ hd hi hn hF hs Kk
      refine k_iload C rfl rfl rfl ?_
      refine k_ldc C rfl rfl rfl ?_
      refine k_icmp_ge C (t := 132) rfl rfl rfl (fun c9 => absurd ((n_le (a := 1000000) (b := i) (by omega) (by omega)).mp c9) (by omega)) (fun _ => ?_)
      refine k_aload_n C rfl rfl rfl ?_
      refine c_VI C (e_isReduced (s := s) T_wh (hs 0 (Nat.le_of_ble_eq_true rfl)) (hs 1 (Nat.le_of_ble_eq_true rfl)) (hs 2 (Nat.le_of_ble_eq_true rfl))) rfl rfl rfl rfl rfl ⟨_, rfl, rfl, T_wh, Nat.le_of_ble_eq_true rfl⟩ rfl rfl (Nat.le_of_ble_eq_true rfl) (Nat.le_of_ble_eq_true rfl) (Nat.le_of_ble_eq_true rfl) ?_
      rintro _ _ _ ⟨hx7, hI8, hL9⟩
      have hx7 := hx7.symm; subst hx7
      have hI8 := hI8.symm; subst hI8; have hL9 := hL9.symm; subst hL9
      refine k_if_ne C (t := 132) rfl rfl rfl (fun cc => ?_) (fun cc => ?_)
      · have hr : red s := Classical.byContradiction (fun h => by rw [if_neg h] at cc; exact cc rfl)
        exact Kk L1 hF (by rw [run_done hr]; exact hs) _
      · have hnr : ¬ red s := fun h => by rw [if_pos h] at cc; exact absurd (by decide) cc
        obtain ⟨j1, j2, j3⟩ := stp_int hK hJ hnr
        have K126 : ∀ (L2 : LT), Fr A I L I L2 → smS (L2 wh) (sw1 (sh1 s)) → V 126 [(4, .int (Int32.ofNat i)), (0, .ref wh), (1, .int a), (2, .int b), (3, .int c)] [] (T, N, I, L2, R) 0 0 := by
          intro L2 hF2 hs2
          refine k_inc1 C (lw := [(4, .int _), (0, _), (1, .int _), (2, .int _), (3, .int _)]) rfl rfl rfl (Nat.le_of_ble_eq_true rfl) rfl ?_
          refine k_goto C (pc2 := 46) rfl rfl ?_
          rw [n_s]
          have hA := hd.resolve_left hnr
          exact ih (i + 1) L2 _ j2 (j3.elim Or.inl (fun h => Or.inr (by omega))) (by omega) (by omega) hF2 hs2 (fun L3 hF3 hs3 => Kk L3 hF3 (by rw [run_step hnr]; exact hs3))
        have K89 : ∀ (L2 : LT), Fr A I L I L2 → smS (L2 wh) (sh1 s) → V 89 [(4, .int (Int32.ofNat i)), (0, .ref wh), (1, .int a), (2, .int b), (3, .int c)] [] (T, N, I, L2, R) 0 0 := by
          intro L2 hF2 hs2
          have J_wh_0 : L2 wh 0 = sh1 s 0 := hs2 0 (Nat.le_of_ble_eq_true rfl)
          have J_wh_1 : L2 wh 1 = sh1 s 1 := hs2 1 (Nat.le_of_ble_eq_true rfl)
          have J_wh_2 : L2 wh 2 = sh1 s 2 := hs2 2 (Nat.le_of_ble_eq_true rfl)
          have J_wh_3 : L2 wh 3 = sh1 s 3 := hs2 3 (Nat.le_of_ble_eq_true rfl)
          have J_wh_4 : L2 wh 4 = sh1 s 4 := hs2 4 (Nat.le_of_ble_eq_true rfl)
          have J_wh_5 : L2 wh 5 = sh1 s 5 := hs2 5 (Nat.le_of_ble_eq_true rfl)
          have J_wh_6 : L2 wh 6 = sh1 s 6 := hs2 6 (Nat.le_of_ble_eq_true rfl)
          have J_wh_7 : L2 wh 7 = sh1 s 7 := hs2 7 (Nat.le_of_ble_eq_true rfl)
          refine k_aload_n C rfl rfl rfl ?_
          refine g_L C rfl rfl rfl T_wh rfl (J_wh_0) ?_
          refine k_aload_n C rfl rfl rfl ?_
          refine g_L C rfl rfl rfl T_wh rfl (J_wh_2) ?_
          refine k_lcmp C rfl rfl ?_
          refine k_if_gt C (t := 122) rfl rfl rfl (fun c98 => ?_) (fun c98 => ?_)
          · skip
            have ht : turned (sh1 s) := Or.inl ((lg_cmp_gt _ _).mp c98)
            refine k_aload_n C rfl rfl rfl ?_
            refine c_VV C (e_swap T_wh A_wh (J_wh_0) (J_wh_1) (J_wh_2) (J_wh_3) (J_wh_4) (J_wh_5) (J_wh_6) (J_wh_7) (s := sh1 s)) rfl rfl rfl rfl rfl ⟨_, rfl, rfl, T_wh, Nat.le_of_ble_eq_true rfl⟩ rfl rfl (Nat.le_of_ble_eq_true rfl) (Nat.le_of_ble_eq_true rfl) (Nat.le_of_ble_eq_true rfl) ?_
            rintro I3 L3 ⟨hI8, hF9, hs9⟩
            have hI8 := hI8.symm; subst hI8
            have hF3 := Fr.tr hF2 hF9
            have hs3 : smS (L3 wh) (sw1 (sh1 s)) := by rw [sw1_y ht]; exact hs9
            exact K126 _ hF3 hs3
          refine k_aload_n C rfl rfl rfl ?_
          refine g_L C rfl rfl rfl T_wh rfl (J_wh_0) ?_
          refine k_aload_n C rfl rfl rfl ?_
          refine g_L C rfl rfl rfl T_wh rfl (J_wh_2) ?_
          refine k_lcmp C rfl rfl ?_
          refine k_if_ne C (t := 126) rfl rfl rfl (fun c110 => ?_) (fun c110 => ?_)
          · skip
            have ht : ¬ turned (sh1 s) := fun h => h.elim (fun h => c98 ((lg_cmp_gt _ _).mpr h)) (fun h => c110 ((lg_cmp_eq _ _).mpr h.1))
            have hF3 := hF2
            have hs3 : smS (L2 wh) (sw1 (sh1 s)) := by rw [sw1_n ht]; exact hs2
            exact K126 _ hF3 hs3
          have e110 := (lg_cmp_eq _ _).mp (Decidable.not_not.mp c110)
          refine k_aload_n C rfl rfl rfl ?_
          refine g_L C rfl rfl rfl T_wh rfl (J_wh_1) ?_
          refine k_lconst C (x := 0) rfl rfl rfl ?_
          refine k_lcmp C rfl rfl ?_
          refine k_if_ge C (t := 126) rfl rfl rfl (fun c119 => ?_) (fun c119 => ?_)
          · skip
            have ht : ¬ turned (sh1 s) := fun h => h.elim (fun h => c98 ((lg_cmp_gt _ _).mpr h)) (fun h => absurd ((lg_cmp_lt _ _).mpr h.2) (Int32.not_lt.mpr c119))
            have hF3 := hF2
            have hs3 : smS (L2 wh) (sw1 (sh1 s)) := by rw [sw1_n ht]; exact hs2
            exact K126 _ hF3 hs3
          have ht : turned (sh1 s) := Or.inr ⟨e110, (lg_cmp_lt _ _).mp (Int32.not_le.mp c119)⟩
          refine k_aload_n C rfl rfl rfl ?_
          refine c_VV C (e_swap T_wh A_wh (J_wh_0) (J_wh_1) (J_wh_2) (J_wh_3) (J_wh_4) (J_wh_5) (J_wh_6) (J_wh_7) (s := sh1 s)) rfl rfl rfl rfl rfl ⟨_, rfl, rfl, T_wh, Nat.le_of_ble_eq_true rfl⟩ rfl rfl (Nat.le_of_ble_eq_true rfl) (Nat.le_of_ble_eq_true rfl) (Nat.le_of_ble_eq_true rfl) ?_
          rintro I3 L3 ⟨hI8, hF9, hs9⟩
          have hI8 := hI8.symm; subst hI8
          have hF3 := Fr.tr hF2 hF9
          have hs3 : smS (L3 wh) (sw1 (sh1 s)) := by rw [sw1_y ht]; exact hs9
          exact K126 _ hF3 hs3
        have J_wh_0 : L1 wh 0 = s 0 := hs 0 (Nat.le_of_ble_eq_true rfl)
        have J_wh_1 : L1 wh 1 = s 1 := hs 1 (Nat.le_of_ble_eq_true rfl)
        have J_wh_2 : L1 wh 2 = s 2 := hs 2 (Nat.le_of_ble_eq_true rfl)
        have J_wh_3 : L1 wh 3 = s 3 := hs 3 (Nat.le_of_ble_eq_true rfl)
        have J_wh_4 : L1 wh 4 = s 4 := hs 4 (Nat.le_of_ble_eq_true rfl)
        have J_wh_5 : L1 wh 5 = s 5 := hs 5 (Nat.le_of_ble_eq_true rfl)
        have J_wh_6 : L1 wh 6 = s 6 := hs 6 (Nat.le_of_ble_eq_true rfl)
        have J_wh_7 : L1 wh 7 = s 7 := hs 7 (Nat.le_of_ble_eq_true rfl)
        refine k_aload_n C rfl rfl rfl ?_
        refine g_L C rfl rfl rfl T_wh rfl (J_wh_1) ?_
        refine k_aload_n C rfl rfl rfl ?_
        refine g_L C rfl rfl rfl T_wh rfl (J_wh_0) ?_
        refine k_lcmp C rfl rfl ?_
        refine k_if_gt C (t := 85) rfl rfl rfl (fun c69 => ?_) (fun c69 => ?_)
        · skip
          have hw : wide s := Or.inl ((lg_cmp_gt _ _).mp c69)
          refine k_aload_n C rfl rfl rfl ?_
          refine c_VV C (e_shift T_wh A_wh (J_wh_0) (J_wh_1) (J_wh_2) (J_wh_3) (J_wh_4) (J_wh_5) (J_wh_6) (J_wh_7) (s := s) hJ) rfl rfl rfl rfl rfl ⟨_, rfl, rfl, T_wh, Nat.le_of_ble_eq_true rfl⟩ rfl rfl (Nat.le_of_ble_eq_true rfl) (Nat.le_of_ble_eq_true rfl) (Nat.le_of_ble_eq_true rfl) ?_
          rintro I2 L2 ⟨hI8, hF9, hs9⟩
          have hI8 := hI8.symm; subst hI8
          have hF2 := Fr.tr hF hF9
          have hs2 : smS (L2 wh) (sh1 s) := by rw [sh1_y hw]; exact hs9
          exact K89 _ hF2 hs2
        refine k_aload_n C rfl rfl rfl ?_
        refine g_L C rfl rfl rfl T_wh rfl (J_wh_1) ?_
        refine k_aload_n C rfl rfl rfl ?_
        refine g_L C rfl rfl rfl T_wh rfl (J_wh_0) ?_
        refine k_lneg C rfl rfl ?_
        refine k_lcmp C rfl rfl ?_
        refine k_if_gt C (t := 89) rfl rfl rfl (fun c82 => ?_) (fun c82 => ?_)
        · skip
          have hw : ¬ wide s := fun h => h.elim (fun h => c69 ((lg_cmp_gt _ _).mpr h)) (fun h => absurd ((lg_cmp_le _ _).mpr h) (Int32.not_le.mpr c82))
          have hF2 := hF
          have hs2 : smS (L1 wh) (sh1 s) := by rw [sh1_n hw]; exact hs
          exact K89 _ hF2 hs2
        have hw : wide s := Or.inr ((lg_cmp_le _ _).mp (Int32.not_lt.mp c82))
        refine k_aload_n C rfl rfl rfl ?_
        refine c_VV C (e_shift T_wh A_wh (J_wh_0) (J_wh_1) (J_wh_2) (J_wh_3) (J_wh_4) (J_wh_5) (J_wh_6) (J_wh_7) (s := s) hJ) rfl rfl rfl rfl rfl ⟨_, rfl, rfl, T_wh, Nat.le_of_ble_eq_true rfl⟩ rfl rfl (Nat.le_of_ble_eq_true rfl) (Nat.le_of_ble_eq_true rfl) (Nat.le_of_ble_eq_true rfl) ?_
        rintro I2 L2 ⟨hI8, hF9, hs9⟩
        have hI8 := hI8.symm; subst hI8
        have hF2 := Fr.tr hF hF9
        have hs2 : smS (L2 wh) (sh1 s) := by rw [sh1_y hw]; exact hs9
        exact K89 _ hF2 hs2
  refine k_aload_n C rfl rfl rfl ?_
  refine k_iload_n C rfl rfl rfl ?_
  refine k_i2l C rfl rfl ?_
  refine p_L C rfl rfl rfl T_wh (Or.inr rfl) rfl ?_
  refine k_aload_n C rfl rfl rfl ?_
  refine k_iload_n C rfl rfl rfl ?_
  refine k_i2l C rfl rfl ?_
  refine p_L C rfl rfl rfl T_wh (Or.inr rfl) rfl ?_
  refine k_aload_n C rfl rfl rfl ?_
  refine k_iload_n C rfl rfl rfl ?_
  refine k_i2l C rfl rfl ?_
  refine p_L C rfl rfl rfl T_wh (Or.inr rfl) rfl ?_
  refine k_aload_n C rfl rfl rfl ?_
  refine k_lconst C (x := 0) rfl rfl rfl ?_
  refine p_L C rfl rfl rfl T_wh (Or.inr rfl) rfl ?_
  refine k_aload_n C rfl rfl rfl ?_
  refine k_lconst C (x := 1) rfl rfl rfl ?_
  refine p_L C rfl rfl rfl T_wh (Or.inr rfl) rfl ?_
  refine k_aload_n C rfl rfl rfl ?_
  refine k_lconst C (x := 0) rfl rfl rfl ?_
  refine p_L C rfl rfl rfl T_wh (Or.inr rfl) rfl ?_
  refine k_aload_n C rfl rfl rfl ?_
  refine k_lconst C (x := 0) rfl rfl rfl ?_
  refine p_L C rfl rfl rfl T_wh (Or.inr rfl) rfl ?_
  refine k_aload_n C rfl rfl rfl ?_
  refine k_lconst C (x := 1) rfl rfl rfl ?_
  refine p_L C rfl rfl rfl T_wh (Or.inr rfl) rfl ?_
  refine k_iconst C (x := 0) rfl rfl rfl ?_
  refine k_istore C (lw := [(4, .int _), (0, _), (1, .int _), (2, .int _), (3, .int _)]) rfl rfl (Nat.le_of_ble_eq_true rfl) rfl ?_
  refine loop 999 0 _ (st0 a b c) hJ0 (Or.inr (by have := hJ0.1; omega)) (by omega) (by omega) (Fr.l (Fr.l (Fr.l (Fr.l (Fr.l (Fr.l (Fr.l (Fr.l Fr.rf A_wh) A_wh) A_wh) A_wh) A_wh) A_wh) A_wh) A_wh) (fun k hk => match k, hk with | 0, _ => (u2_k (by decide)).trans ((u2_k (by decide)).trans ((u2_k (by decide)).trans ((u2_k (by decide)).trans ((u2_k (by decide)).trans ((u2_k (by decide)).trans ((u2_k (by decide)).trans (u2_s))))))) | 1, _ => (u2_k (by decide)).trans ((u2_k (by decide)).trans ((u2_k (by decide)).trans ((u2_k (by decide)).trans ((u2_k (by decide)).trans ((u2_k (by decide)).trans (u2_s)))))) | 2, _ => (u2_k (by decide)).trans ((u2_k (by decide)).trans ((u2_k (by decide)).trans ((u2_k (by decide)).trans ((u2_k (by decide)).trans (u2_s))))) | 3, _ => (u2_k (by decide)).trans ((u2_k (by decide)).trans ((u2_k (by decide)).trans ((u2_k (by decide)).trans (u2_s)))) | 4, _ => (u2_k (by decide)).trans ((u2_k (by decide)).trans ((u2_k (by decide)).trans (u2_s))) | 5, _ => (u2_k (by decide)).trans ((u2_k (by decide)).trans (u2_s)) | 6, _ => (u2_k (by decide)).trans (u2_s) | 7, _ => u2_s | k + 8, hk => absurd hk (by omega)) (fun L2 hF2 hs2 x4 => ?_)
  exact k_vret C rfl rfl (Nat.le_of_ble_eq_true rfl) (Nat.le_of_ble_eq_true rfl) ⟨_, _, rfl, rfl, rfl, hF2, hs2⟩

def trn (s : S8) : Int32 := if ¬ s 0 = s 2 then 2 else if s 1 = 0 then 4 else if s 1 = s 0 then 6 else 2
def tlS (s : S8) (n : Int) : Int64 := if n = 8 then (trn s).toInt64 else s n.toNat
theorem e_turns {d : Nat} {T N : Nat → Nat} {I : IT} {L : LT} {R : RT} {wh : Nat}{s : S8} (T_wh : T wh = 11) (J_wh_0 : L wh 0 = s 0) (J_wh_1 : L wh 1 = s 1) (J_wh_2 : L wh 2 = s 2) : Ex (d + 1) 117 [.ref wh] (T, N, I, L, R) 0 0 (pI T N R (fun x9 I9 L9 => x9 = (trn s) ∧ I9 = I ∧ L9 = L)) := by
  refine ⟨_, rfl, Nat.le_of_ble_eq_true rfl, fun V C S => ?_⟩
  show V 0 [(0, .ref wh)] [] (T, N, I, L, R) 0 0
  refine k_aload_n C rfl rfl rfl ?_
  refine g_L C rfl rfl rfl T_wh rfl (J_wh_0) ?_
  refine k_aload_n C rfl rfl rfl ?_
  refine g_L C rfl rfl rfl T_wh rfl (J_wh_2) ?_
  refine k_lcmp C rfl rfl ?_
  refine k_if_eq C (t := 14) rfl rfl rfl (fun c9 => ?_) (fun c9 => ?_)
  · skip
    have e9 := (lg_cmp_eq _ _).mp c9
    refine k_aload_n C rfl rfl rfl ?_
    refine g_L C rfl rfl rfl T_wh rfl (J_wh_1) ?_
    refine k_lconst C (x := 0) rfl rfl rfl ?_
    refine k_lcmp C rfl rfl ?_
    refine k_if_ne C (t := 25) rfl rfl rfl (fun c20 => ?_) (fun c20 => ?_)
    · skip
      have e20 : ¬ s 1 = 0 := fun h => c20 ((lg_cmp_eq _ _).mpr h)
      refine k_aload_n C rfl rfl rfl ?_
      refine g_L C rfl rfl rfl T_wh rfl (J_wh_1) ?_
      refine k_aload_n C rfl rfl rfl ?_
      refine g_L C rfl rfl rfl T_wh rfl (J_wh_0) ?_
      refine k_lcmp C rfl rfl ?_
      refine k_if_ne C (t := 42) rfl rfl rfl (fun c34 => ?_) (fun c34 => ?_)
      · skip
        have e34 : trn s = 2 := by unfold trn; rw [if_neg (fun h => h e9), if_neg e20, if_neg (fun h => c34 ((lg_cmp_eq _ _).mpr h))]
        refine k_iconst C (x := 2) rfl rfl rfl ?_
        exact k_iret C rfl (Or.inl rfl) (Nat.le_of_ble_eq_true rfl) (Nat.le_of_ble_eq_true rfl) ⟨_, _, _, rfl, rfl, ⟨e34.symm, rfl, rfl⟩⟩
      have e34 : trn s = 6 := by unfold trn; rw [if_neg (fun h => h e9), if_neg e20, if_pos ((lg_cmp_eq _ _).mp (Decidable.not_not.mp c34))]
      refine k_bipush C (x := 6) rfl rfl rfl ?_
      refine k_goto C (pc2 := 43) rfl rfl ?_
      exact k_iret C rfl (Or.inl rfl) (Nat.le_of_ble_eq_true rfl) (Nat.le_of_ble_eq_true rfl) ⟨_, _, _, rfl, rfl, ⟨e34.symm, rfl, rfl⟩⟩
    have e20 := (lg_cmp_eq _ _).mp (Decidable.not_not.mp c20)
    refine k_iconst C (x := 4) rfl rfl rfl ?_
    exact k_iret C rfl (Or.inl rfl) (Nat.le_of_ble_eq_true rfl) (Nat.le_of_ble_eq_true rfl) ⟨_, _, _, rfl, rfl, ⟨by unfold trn; rw [if_neg (fun h => h e9), if_pos e20], rfl, rfl⟩⟩
  have e9 : ¬ s 0 = s 2 := fun h => c9 ((lg_cmp_eq _ _).mpr h)
  refine k_iconst C (x := 2) rfl rfl rfl ?_
  exact k_iret C rfl (Or.inl rfl) (Nat.le_of_ble_eq_true rfl) (Nat.le_of_ble_eq_true rfl) ⟨_, _, _, rfl, rfl, ⟨by unfold trn; rw [if_pos e9], rfl, rfl⟩⟩

theorem e_tell {d : Nat} {T N : Nat → Nat} {I : IT} {L : LT} {R : RT} {wh : Nat} {n : Int32}{s : S8} (T_wh : T wh = 11) (J_wh_0 : L wh 0 = s 0) (J_wh_1 : L wh 1 = s 1) (J_wh_2 : L wh 2 = s 2) (J_wh_3 : L wh 3 = s 3) (J_wh_4 : L wh 4 = s 4) (J_wh_5 : L wh 5 = s 5) (J_wh_6 : L wh 6 = s 6) (J_wh_7 : L wh 7 = s 7) (hn : 0 ≤ n.toInt ∧ n.toInt ≤ 8) : Ex (d + 2) 118 [.ref wh, .int n] (T, N, I, L, R) 0 0 (pL T N R (fun x9 I9 L9 => x9 = (tlS s n.toInt) ∧ I9 = I ∧ L9 = L)) := by
  refine ⟨_, rfl, Nat.le_of_ble_eq_true rfl, fun V C S => ?_⟩
  show V 0 [(0, .ref wh), (1, .int n)] [] (T, N, I, L, R) 0 0
  refine k_iload_n C rfl rfl rfl ?_
  refine k_table C rfl (by decide) (fun h => by omega) (fun h1 h2 => ?_)
  have h3 : n.toInt = 0 ∨ n.toInt = 1 ∨ n.toInt = 2 ∨ n.toInt = 3 ∨ n.toInt = 4 ∨ n.toInt = 5 ∨ n.toInt = 6 ∨ n.toInt = 7 ∨ n.toInt = 8 := by omega
  rcases h3 with e | e | e | e | e | e | e | e | e <;> rw [e]
  · refine ⟨51, rfl, by decide, ?_⟩
    show V 52 [(0, .ref wh), (1, .int n)] [] _ _ _
    refine k_aload_n C rfl rfl rfl ?_
    refine g_L C rfl rfl rfl T_wh rfl (J_wh_0) ?_
    exact k_lret C rfl rfl (Nat.le_of_ble_eq_true rfl) (Nat.le_of_ble_eq_true rfl) ⟨_, _, _, rfl, rfl, ⟨by rw [e]; rfl, rfl, rfl⟩⟩
  · refine ⟨56, rfl, by decide, ?_⟩
    show V 57 [(0, .ref wh), (1, .int n)] [] _ _ _
    refine k_aload_n C rfl rfl rfl ?_
    refine g_L C rfl rfl rfl T_wh rfl (J_wh_1) ?_
    exact k_lret C rfl rfl (Nat.le_of_ble_eq_true rfl) (Nat.le_of_ble_eq_true rfl) ⟨_, _, _, rfl, rfl, ⟨by rw [e]; rfl, rfl, rfl⟩⟩
  · refine ⟨61, rfl, by decide, ?_⟩
    show V 62 [(0, .ref wh), (1, .int n)] [] _ _ _
    refine k_aload_n C rfl rfl rfl ?_
    refine g_L C rfl rfl rfl T_wh rfl (J_wh_2) ?_
    exact k_lret C rfl rfl (Nat.le_of_ble_eq_true rfl) (Nat.le_of_ble_eq_true rfl) ⟨_, _, _, rfl, rfl, ⟨by rw [e]; rfl, rfl, rfl⟩⟩
  · refine ⟨66, rfl, by decide, ?_⟩
    show V 67 [(0, .ref wh), (1, .int n)] [] _ _ _
    refine k_aload_n C rfl rfl rfl ?_
    refine g_L C rfl rfl rfl T_wh rfl (J_wh_3) ?_
    exact k_lret C rfl rfl (Nat.le_of_ble_eq_true rfl) (Nat.le_of_ble_eq_true rfl) ⟨_, _, _, rfl, rfl, ⟨by rw [e]; rfl, rfl, rfl⟩⟩
  · refine ⟨71, rfl, by decide, ?_⟩
    show V 72 [(0, .ref wh), (1, .int n)] [] _ _ _
    refine k_aload_n C rfl rfl rfl ?_
    refine g_L C rfl rfl rfl T_wh rfl (J_wh_4) ?_
    exact k_lret C rfl rfl (Nat.le_of_ble_eq_true rfl) (Nat.le_of_ble_eq_true rfl) ⟨_, _, _, rfl, rfl, ⟨by rw [e]; rfl, rfl, rfl⟩⟩
  · refine ⟨76, rfl, by decide, ?_⟩
    show V 77 [(0, .ref wh), (1, .int n)] [] _ _ _
    refine k_aload_n C rfl rfl rfl ?_
    refine g_L C rfl rfl rfl T_wh rfl (J_wh_5) ?_
    exact k_lret C rfl rfl (Nat.le_of_ble_eq_true rfl) (Nat.le_of_ble_eq_true rfl) ⟨_, _, _, rfl, rfl, ⟨by rw [e]; rfl, rfl, rfl⟩⟩
  · refine ⟨81, rfl, by decide, ?_⟩
    show V 82 [(0, .ref wh), (1, .int n)] [] _ _ _
    refine k_aload_n C rfl rfl rfl ?_
    refine g_L C rfl rfl rfl T_wh rfl (J_wh_6) ?_
    exact k_lret C rfl rfl (Nat.le_of_ble_eq_true rfl) (Nat.le_of_ble_eq_true rfl) ⟨_, _, _, rfl, rfl, ⟨by rw [e]; rfl, rfl, rfl⟩⟩
  · refine ⟨86, rfl, by decide, ?_⟩
    show V 87 [(0, .ref wh), (1, .int n)] [] _ _ _
    refine k_aload_n C rfl rfl rfl ?_
    refine g_L C rfl rfl rfl T_wh rfl (J_wh_7) ?_
    exact k_lret C rfl rfl (Nat.le_of_ble_eq_true rfl) (Nat.le_of_ble_eq_true rfl) ⟨_, _, _, rfl, rfl, ⟨by rw [e]; rfl, rfl, rfl⟩⟩
  · refine ⟨91, rfl, by decide, ?_⟩
    show V 92 [(0, .ref wh), (1, .int n)] [] _ _ _
    refine k_aload_n C rfl rfl rfl ?_
    refine c_VI C (e_turns T_wh (J_wh_0) (J_wh_1) (J_wh_2) (s := s)) rfl rfl rfl rfl rfl ⟨_, rfl, rfl, T_wh, Nat.le_of_ble_eq_true rfl⟩ rfl rfl (Nat.le_of_ble_eq_true rfl) (Nat.le_of_ble_eq_true rfl) (Nat.le_of_ble_eq_true rfl) ?_
    rintro _ _ _ ⟨hx7, hI8, hL9⟩
    have hx7 := hx7.symm; subst hx7
    have hI8 := hI8.symm; subst hI8; have hL9 := hL9.symm; subst hL9
    refine k_i2l C rfl rfl ?_
    exact k_lret C rfl rfl (Nat.le_of_ble_eq_true rfl) (Nat.le_of_ble_eq_true rfl) ⟨_, _, _, rfl, rfl, ⟨by rw [e]; rfl, rfl, rfl⟩⟩


