/-! COUNT in the reference -/
set_option maxRecDepth 4000 in
theorem mw_vloop {d : Nat} {V : V_T} {q : mm_T} {Post : Po} {T N : Nat → Nat} {R : RT} {A : Nat → Prop} {I : IT} {L : LT} {m wy : Nat} {w r e : Nat} (hq : P_ml[258]? = some q) (C : Cl (d + 1) q 0 0 Post V) (S : SB V) (T_m : T m = 13) (R_m_21 : R m 21 = some wy) (T_wy : T wy = 21) (N_wy : N wy = 1261) (A_wy : A wy) (hw : w ≤ 48) (hr9 : r ≤ 12) (he : e ≤ 8) {part k : Nat} (hp : 1 ≤ part ∧ part ≤ 8) (hk : 1 ≤ k ∧ k ≤ 12) : ∀ (t s : Nat) (L1 : LT) (F : WF), t = w + 1 - s → part ≤ s → s ≤ 100 → Fr A I L I L1 → rep 97 F (L1 wy) → (∀ L2, Fr A I L I L2 → rep 97 (wIt (fun v F => wStep part k v F) t s F) (L2 wy) → ∀ x6 : Int32, V 134 [(6, .int x6), (5, .int (Int32.ofNat k)), (4, .int (Int32.ofNat part)), (0, .ref m), (1, .int (Int32.ofNat w)), (2, .int (Int32.ofNat r)), (3, .int (Int32.ofNat e))] [] (T, N, I, L2, R) 0 0) → V 88 [(6, .int (Int32.ofNat s)), (5, .int (Int32.ofNat k)), (4, .int (Int32.ofNat part)), (0, .ref m), (1, .int (Int32.ofNat w)), (2, .int (Int32.ofNat r)), (3, .int (Int32.ofNat e))] [] (T, N, I, L1, R) 0 0 := by
  cases hq
  intro t
  induction t with
  | zero =>
    intro s L1 F ht hps hs hF hrep K
    refine k_iload C rfl rfl rfl ?_
    refine k_iload_n C rfl rfl rfl ?_
    refine k_icmp_gt C (t := 134) rfl rfl rfl (fun _ => ?_) (fun c9 => absurd ((n_lt (by omega) (by omega)).mpr (show w < s by omega)) c9)
    exact K L1 hF hrep _
  | succ t ih =>
    intro s L1 F ht hps hs hF hrep K
    refine k_iload C rfl rfl rfl ?_
    refine k_iload_n C rfl rfl rfl ?_
    refine k_icmp_gt C (t := 134) rfl rfl rfl (fun c9 => absurd ((n_lt (by omega) (by omega)).mp c9) (by omega)) (fun _ => ?_)
    refine k_aload_n C rfl rfl rfl ?_
    refine g_R C rfl rfl rfl T_m rfl R_m_21 ?_
    refine k_bipush C (x := 97) rfl rfl rfl ?_
    refine k_iload C rfl rfl rfl ?_
    refine k_imul C rfl rfl ?_
    refine k_iload C rfl rfl rfl ?_
    refine k_iadd C rfl rfl ?_
    refine k_dup2 C rfl rfl rfl rfl ?_
    refine a_L C rfl rfl T_wy (vin (n := 97 * k + s) (by rw [show (97 : Int32) = Int32.ofNat 97 from rfl, n_mul, n_add]) (by rw [N_wy]; omega) (by rw [N_wy]; exact Nat.le_of_ble_eq_true rfl)) (show L1 wy _ = L1 wy (97 * k + s) from by rw [show (97 : Int32) = Int32.ofNat 97 from rfl, n_mul, n_add, n_nat (by omega)]) ?_
    refine k_aload_n C rfl rfl rfl ?_
    refine g_R C rfl rfl rfl T_m rfl R_m_21 ?_
    refine k_bipush C (x := 97) rfl rfl rfl ?_
    refine k_iload C rfl rfl rfl ?_
    refine k_iconst C (x := 1) rfl rfl rfl ?_
    refine k_isub C rfl rfl ?_
    refine k_imul C rfl rfl ?_
    refine k_iload C rfl rfl rfl ?_
    refine k_iadd C rfl rfl ?_
    refine k_iload C rfl rfl rfl ?_
    refine k_isub C rfl rfl ?_
    refine a_L C rfl rfl T_wy (vin (n := 97 * (k - 1) + (s - part)) (by rw [show (97 : Int32) = Int32.ofNat 97 from rfl, show (1 : Int32) = Int32.ofNat 1 from rfl, n_sub (by omega), n_mul, n_add, n_sub (by omega)]; congr 1; omega) (by rw [N_wy]; omega) (by rw [N_wy]; exact Nat.le_of_ble_eq_true rfl)) (show L1 wy _ = L1 wy (97 * (k - 1) + (s - part)) from by rw [show (97 : Int32) = Int32.ofNat 97 from rfl, show (1 : Int32) = Int32.ofNat 1 from rfl, n_sub (by omega), n_mul, n_add, n_sub (by omega), n_nat (by omega)]; congr 1; omega) ?_
    refine k_ladd C rfl rfl ?_
    refine s_L C rfl rfl T_wy (vin (n := 97 * k + s) (by rw [show (97 : Int32) = Int32.ofNat 97 from rfl, n_mul, n_add]) (by rw [N_wy]; omega) (by rw [N_wy]; exact Nat.le_of_ble_eq_true rfl)) (show _ = 97 * k + s from by rw [show (97 : Int32) = Int32.ofNat 97 from rfl, n_mul, n_add, n_nat (by omega)]) ?_
    refine k_inc1 C (lw := [(6, .int _), (5, .int _), (4, .int _), (0, _), (1, .int _), (2, .int _), (3, .int _)]) rfl rfl rfl (Nat.le_of_ble_eq_true rfl) rfl ?_
    refine k_goto C (pc2 := 88) rfl rfl ?_
    rw [n_s]
    exact ih (s + 1) _ (wStep part k s F) (by omega) (by omega) (by omega) (Fr.l hF A_wy) (rep_step (by omega) hrep ⟨by omega, by omega⟩ ⟨by omega, by omega⟩ rfl rfl) K

theorem mw_kloop {d : Nat} {V : V_T} {q : mm_T} {Post : Po} {T N : Nat → Nat} {R : RT} {A : Nat → Prop} {I : IT} {L : LT} {m wy : Nat} {w r e : Nat} (hq : P_ml[258]? = some q) (C : Cl (d + 1) q 0 0 Post V) (S : SB V) (T_m : T m = 13) (R_m_21 : R m 21 = some wy) (T_wy : T wy = 21) (N_wy : N wy = 1261) (A_wy : A wy) (hw : w ≤ 48) (hr9 : r ≤ 12) (he : e ≤ 8) {part : Nat} (hp : 1 ≤ part ∧ part ≤ 8) : ∀ (t k : Nat) (L1 : LT) (F : WF), t = r + 1 - k → 1 ≤ k → k ≤ 13 → Fr A I L I L1 → rep 97 F (L1 wy) → (∀ L2, Fr A I L I L2 → rep 97 (wIt (fun k F => wV part k w F) t k F) (L2 wy) → ∀ x5 : Int32, V 140 [(5, .int x5), (4, .int (Int32.ofNat part)), (0, .ref m), (1, .int (Int32.ofNat w)), (2, .int (Int32.ofNat r)), (3, .int (Int32.ofNat e))] [] (T, N, I, L2, R) 0 0) → V 78 [(5, .int (Int32.ofNat k)), (4, .int (Int32.ofNat part)), (0, .ref m), (1, .int (Int32.ofNat w)), (2, .int (Int32.ofNat r)), (3, .int (Int32.ofNat e))] [] (T, N, I, L1, R) 0 0 := by
  intro t
  induction t with
  | zero =>
    intro k L1 F ht hk1 hk2 hF hrep K
    cases hq
    refine k_iload C rfl rfl rfl ?_
    refine k_iload_n C rfl rfl rfl ?_
    refine k_icmp_gt C (t := 140) rfl rfl rfl (fun _ => ?_) (fun c9 => absurd ((n_lt (by omega) (by omega)).mpr (show r < k by omega)) c9)
    exact K L1 hF hrep _
  | succ t ih =>
    intro k L1 F ht hk1 hk2 hF hrep K
    have hq9 := hq
    cases hq
    refine k_iload C rfl rfl rfl ?_
    refine k_iload_n C rfl rfl rfl ?_
    refine k_icmp_gt C (t := 140) rfl rfl rfl (fun c9 => absurd ((n_lt (by omega) (by omega)).mp c9) (by omega)) (fun _ => ?_)
    refine k_iload C rfl rfl rfl ?_
    refine k_istore C (lw := [(6, .int _), (5, .int _), (4, .int _), (0, _), (1, .int _), (2, .int _), (3, .int _)]) rfl rfl (Nat.le_of_ble_eq_true rfl) rfl ?_
    refine mw_vloop hq9 C S T_m R_m_21 T_wy N_wy A_wy hw hr9 he hp (show 1 ≤ k ∧ k ≤ 12 by omega) (w + 1 - part) part L1 F rfl (Nat.le_refl _) (by omega) hF hrep (fun L2 hF2 hrep2 x6 => ?_)
    refine k_sub S [(5, .int (Int32.ofNat k)), (4, .int (Int32.ofNat part)), (0, .ref m), (1, .int (Int32.ofNat w)), (2, .int (Int32.ofNat r)), (3, .int (Int32.ofNat e))] (List.forall_mem_cons.mpr ⟨List.mem_of_getElem? (i := 1) rfl, List.forall_mem_cons.mpr ⟨List.mem_of_getElem? (i := 2) rfl, List.forall_mem_cons.mpr ⟨List.mem_of_getElem? (i := 3) rfl, List.forall_mem_cons.mpr ⟨List.mem_of_getElem? (i := 4) rfl, List.forall_mem_cons.mpr ⟨List.mem_of_getElem? (i := 5) rfl, List.forall_mem_cons.mpr ⟨List.mem_of_getElem? (i := 6) rfl, fun _ h => nomatch h⟩⟩⟩⟩⟩⟩) ?_
    refine k_inc1 C (lw := [(5, .int _), (4, .int _), (0, _), (1, .int _), (2, .int _), (3, .int _)]) rfl rfl rfl (Nat.le_of_ble_eq_true rfl) rfl ?_
    refine k_goto C (pc2 := 78) rfl rfl ?_
    rw [n_s]
    exact ih (k + 1) L2 _ (by omega) (by omega) (by omega) hF2 hrep2 K

theorem mw_ploop {d : Nat} {V : V_T} {q : mm_T} {Post : Po} {T N : Nat → Nat} {R : RT} {A : Nat → Prop} {I : IT} {L : LT} {m wy : Nat} {w r e : Nat} (hq : P_ml[258]? = some q) (C : Cl (d + 1) q 0 0 Post V) (S : SB V) (T_m : T m = 13) (R_m_21 : R m 21 = some wy) (T_wy : T wy = 21) (N_wy : N wy = 1261) (A_wy : A wy) (hw : w ≤ 48) (hr9 : r ≤ 12) (he : e ≤ 8) : ∀ (t part : Nat) (L1 : LT) (F : WF), t = e + 1 - part → 1 ≤ part → part ≤ 9 → Fr A I L I L1 → rep 97 F (L1 wy) → (∀ L2, Fr A I L I L2 → rep 97 (wIt (fun part F => wK part r w F) t part F) (L2 wy) → ∀ x4 : Int32, V 146 [(4, .int x4), (0, .ref m), (1, .int (Int32.ofNat w)), (2, .int (Int32.ofNat r)), (3, .int (Int32.ofNat e))] [] (T, N, I, L2, R) 0 0) → V 69 [(4, .int (Int32.ofNat part)), (0, .ref m), (1, .int (Int32.ofNat w)), (2, .int (Int32.ofNat r)), (3, .int (Int32.ofNat e))] [] (T, N, I, L1, R) 0 0 := by
  intro t
  induction t with
  | zero =>
    intro part L1 F ht hk1 hk2 hF hrep K
    cases hq
    refine k_iload C rfl rfl rfl ?_
    refine k_iload_n C rfl rfl rfl ?_
    refine k_icmp_gt C (t := 146) rfl rfl rfl (fun _ => ?_) (fun c9 => absurd ((n_lt (by omega) (by omega)).mpr (show e < part by omega)) c9)
    exact K L1 hF hrep _
  | succ t ih =>
    intro part L1 F ht hk1 hk2 hF hrep K
    have hq9 := hq
    cases hq
    refine k_iload C rfl rfl rfl ?_
    refine k_iload_n C rfl rfl rfl ?_
    refine k_icmp_gt C (t := 146) rfl rfl rfl (fun c9 => absurd ((n_lt (by omega) (by omega)).mp c9) (by omega)) (fun _ => ?_)
    refine k_iconst C (x := 1) rfl rfl rfl ?_
    refine k_istore C (lw := [(5, .int _), (4, .int _), (0, _), (1, .int _), (2, .int _), (3, .int _)]) rfl rfl (Nat.le_of_ble_eq_true rfl) rfl ?_
    refine mw_kloop hq9 C S T_m R_m_21 T_wy N_wy A_wy hw hr9 he (show 1 ≤ part ∧ part ≤ 8 by omega) r 1 L1 F rfl (Nat.le_refl _) (by omega) hF hrep (fun L2 hF2 hrep2 x6 => ?_)
    refine k_sub S [(4, .int (Int32.ofNat part)), (0, .ref m), (1, .int (Int32.ofNat w)), (2, .int (Int32.ofNat r)), (3, .int (Int32.ofNat e))] (List.forall_mem_cons.mpr ⟨List.mem_of_getElem? (i := 1) rfl, List.forall_mem_cons.mpr ⟨List.mem_of_getElem? (i := 2) rfl, List.forall_mem_cons.mpr ⟨List.mem_of_getElem? (i := 3) rfl, List.forall_mem_cons.mpr ⟨List.mem_of_getElem? (i := 4) rfl, List.forall_mem_cons.mpr ⟨List.mem_of_getElem? (i := 5) rfl, fun _ h => nomatch h⟩⟩⟩⟩⟩) ?_
    refine k_inc1 C (lw := [(4, .int _), (0, _), (1, .int _), (2, .int _), (3, .int _)]) rfl rfl rfl (Nat.le_of_ble_eq_true rfl) rfl ?_
    refine k_goto C (pc2 := 69) rfl rfl ?_
    rw [n_s]
    exact ih (part + 1) L2 _ (by omega) (by omega) (by omega) hF2 hrep2 K

theorem mw_sloop {d : Nat} {V : V_T} {q : mm_T} {Post : Po} {T N : Nat → Nat} {R : RT} {A : Nat → Prop} {I : IT} {L : LT} {m wy : Nat} {w r e : Nat} (hq : P_ml[258]? = some q) (C : Cl (d + 1) q 0 0 Post V) (S : SB V) (T_m : T m = 13) (R_m_21 : R m 21 = some wy) (T_wy : T wy = 21) (N_wy : N wy = 1261) (A_wy : A wy) (hw : w ≤ 48) (hr9 : r ≤ 12) (he : e ≤ 8) {L1 : LT} {F : WF} (hrep : rep 97 F (L1 wy)) : ∀ (t n : Nat) (z : Int64), t = r + 1 - n → n ≤ 13 → (∀ x6 : Int32, V 181 [(6, .int x6), (4, .long (wIt (fun k s => s + F k w) t n z)), (0, .ref m), (1, .int (Int32.ofNat w)), (2, .int (Int32.ofNat r)), (3, .int (Int32.ofNat e))] [] (T, N, I, L1, R) 0 0) → V 152 [(6, .int (Int32.ofNat n)), (4, .long z), (0, .ref m), (1, .int (Int32.ofNat w)), (2, .int (Int32.ofNat r)), (3, .int (Int32.ofNat e))] [] (T, N, I, L1, R) 0 0 := by
  cases hq
  intro t
  induction t with
  | zero =>
    intro n z ht hn K
    refine k_iload C rfl rfl rfl ?_
    refine k_iload_n C rfl rfl rfl ?_
    refine k_icmp_gt C (t := 181) rfl rfl rfl (fun _ => ?_) (fun c9 => absurd ((n_lt (by omega) (by omega)).mpr (show r < n by omega)) c9)
    exact K _
  | succ t ih =>
    intro n z ht hn K
    have hv := hrep n w (by omega) hw
    refine k_iload C rfl rfl rfl ?_
    refine k_iload_n C rfl rfl rfl ?_
    refine k_icmp_gt C (t := 181) rfl rfl rfl (fun c9 => absurd ((n_lt (by omega) (by omega)).mp c9) (by omega)) (fun _ => ?_)
    refine k_lload C rfl rfl rfl ?_
    refine k_aload_n C rfl rfl rfl ?_
    refine g_R C rfl rfl rfl T_m rfl R_m_21 ?_
    refine k_bipush C (x := 97) rfl rfl rfl ?_
    refine k_iload C rfl rfl rfl ?_
    refine k_imul C rfl rfl ?_
    refine k_iload_n C rfl rfl rfl ?_
    refine k_iadd C rfl rfl ?_
    refine a_L C rfl rfl T_wy (vin (n := 97 * n + w) (by rw [show (97 : Int32) = Int32.ofNat 97 from rfl, n_mul, n_add]) (by rw [N_wy]; omega) (by rw [N_wy]; exact Nat.le_of_ble_eq_true rfl)) (show L1 wy _ = F n w from by rw [show (97 : Int32) = Int32.ofNat 97 from rfl, n_mul, n_add, n_nat (by omega)]; exact hv) ?_
    refine k_ladd C rfl rfl ?_
    refine k_lstore C (lw := [(4, .long _), (6, .int _), (0, _), (1, .int _), (2, .int _), (3, .int _)]) rfl rfl (Nat.le_of_ble_eq_true rfl) rfl ?_
    refine k_sub S [(6, .int (Int32.ofNat n)), (4, .long _), (0, .ref m), (1, .int (Int32.ofNat w)), (2, .int (Int32.ofNat r)), (3, .int (Int32.ofNat e))] (List.forall_mem_cons.mpr ⟨List.mem_of_getElem? (i := 1) rfl, List.forall_mem_cons.mpr ⟨List.mem_of_getElem? (i := 0) rfl, List.forall_mem_cons.mpr ⟨List.mem_of_getElem? (i := 2) rfl, List.forall_mem_cons.mpr ⟨List.mem_of_getElem? (i := 3) rfl, List.forall_mem_cons.mpr ⟨List.mem_of_getElem? (i := 4) rfl, List.forall_mem_cons.mpr ⟨List.mem_of_getElem? (i := 5) rfl, fun _ h => nomatch h⟩⟩⟩⟩⟩⟩) ?_
    refine k_inc1 C (lw := [(6, .int _), (4, .long _), (0, _), (1, .int _), (2, .int _), (3, .int _)]) rfl rfl rfl (Nat.le_of_ble_eq_true rfl) rfl ?_
    refine k_goto C (pc2 := 152) rfl rfl ?_
    rw [n_s]
    exact ih (n + 1) _ (by omega) (by omega) K
theorem cell_inj {k v k' v' : Nat} (h1 : v < 97) (h2 : v' < 97) (h : 97 * k' + v' = 97 * k + v) : k' = k ∧ v' = v := by omega
theorem mw_clear {d : Nat} {V : V_T} {q : mm_T} {Post : Po} {T N : Nat → Nat} {R : RT} {A : Nat → Prop} {I : IT} {L : LT} {m wy : Nat} {w r e : Nat} (hq : P_ml[258]? = some q) (C : Cl (d + 1) q 0 0 Post V) (S : SB V) (T_m : T m = 13) (R_m_21 : R m 21 = some wy) (T_wy : T wy = 21) (N_wy : N wy = 1261) (A_wy : A wy) (k : Nat) (hk : k ≤ 12) : ∀ (t v : Nat) (L1 : LT), t = 97 - v → v ≤ 97 → Fr A I L I L1 → (∀ k' v', (k' < k ∧ v' < 97 ∨ k' = k ∧ v' < v) → v' < 97 → L1 wy (97 * k' + v') = wF0 k' v') → (∀ L2, Fr A I L I L2 → (∀ k' v', (k' < k ∧ v' < 97 ∨ k' = k ∧ v' < 97) → v' < 97 → L2 wy (97 * k' + v') = wF0 k' v') → ∀ x5 : Int32, V 60 [(5, .int x5), (4, .int (Int32.ofNat k)), (0, .ref m), (1, .int (Int32.ofNat w)), (2, .int (Int32.ofNat r)), (3, .int (Int32.ofNat e))] [] (T, N, I, L2, R) 0 0) → V 19 [(5, .int (Int32.ofNat v)), (4, .int (Int32.ofNat k)), (0, .ref m), (1, .int (Int32.ofNat w)), (2, .int (Int32.ofNat r)), (3, .int (Int32.ofNat e))] [] (T, N, I, L1, R) 0 0 := by
  cases hq
  intro t
  induction t using Nat.strongRecOn with
  | _ t ih =>
    intro v L1 ht hv9 hF hz K
    refine k_iload C rfl rfl rfl ?_
    refine k_bipush C (x := 97) rfl rfl rfl ?_
    refine k_icmp_ge C (t := 60) rfl rfl rfl (fun c23 => ?_) (fun c23 => ?_)
    · skip
      have hv97 : v = 97 := Nat.le_antisymm hv9 ((n_le (a := 97) (b := v) (by omega) (by omega)).mp c23)
      subst hv97
      exact K L1 hF hz _
    have hv : v < 97 := Nat.lt_of_not_le (fun h => c23 ((n_le (a := 97) (b := v) (by omega) (by omega)).mpr h))
    refine k_aload_n C rfl rfl rfl ?_
    refine g_R C rfl rfl rfl T_m rfl R_m_21 ?_
    refine k_bipush C (x := 97) rfl rfl rfl ?_
    refine k_iload C rfl rfl rfl ?_
    refine k_imul C rfl rfl ?_
    refine k_iload C rfl rfl rfl ?_
    refine k_iadd C rfl rfl ?_
    refine k_iload C rfl rfl rfl ?_
    refine k_if_ne C (t := 52) rfl rfl rfl (fun c40 => ?_) (fun c40 => ?_)
    · skip
      refine k_lconst C (x := 0) rfl rfl rfl ?_
      refine s_L C rfl rfl T_wy (vin (n := 97 * k + v) (by rw [show (97 : Int32) = Int32.ofNat 97 from rfl, n_mul, n_add]) (by rw [N_wy]; omega) (by rw [N_wy]; exact Nat.le_of_ble_eq_true rfl)) (show _ = 97 * k + v from by rw [show (97 : Int32) = Int32.ofNat 97 from rfl, n_mul, n_add, n_nat (by omega)]) ?_
      refine k_inc1 C (lw := [(5, .int _), (4, .int _), (0, _), (1, .int _), (2, .int _), (3, .int _)]) rfl rfl rfl (Nat.le_of_ble_eq_true rfl) rfl ?_
      refine k_goto C (pc2 := 19) rfl rfl ?_
      rw [n_s]
      refine ih (97 - (v + 1)) (by omega) (v + 1) _ rfl hv (Fr.l hF A_wy) (fun k' v' h1 h2 => ?_) K
      by_cases e9 : k' = k ∧ v' = v
      · rw [e9.1, e9.2]; refine u2_s.trans ?_; unfold wF0; rw [if_neg (fun h => c40 (by rw [h.1]; rfl))]
      · exact (u2_k (fun e => e9 (cell_inj (by omega) (by omega) e))).trans (hz k' v' (by omega) h2)
    refine k_iload C rfl rfl rfl ?_
    refine k_if_ne C (t := 52) rfl rfl rfl (fun c45 => ?_) (fun c45 => ?_)
    · skip
      refine k_lconst C (x := 0) rfl rfl rfl ?_
      refine s_L C rfl rfl T_wy (vin (n := 97 * k + v) (by rw [show (97 : Int32) = Int32.ofNat 97 from rfl, n_mul, n_add]) (by rw [N_wy]; omega) (by rw [N_wy]; exact Nat.le_of_ble_eq_true rfl)) (show _ = 97 * k + v from by rw [show (97 : Int32) = Int32.ofNat 97 from rfl, n_mul, n_add, n_nat (by omega)]) ?_
      refine k_inc1 C (lw := [(5, .int _), (4, .int _), (0, _), (1, .int _), (2, .int _), (3, .int _)]) rfl rfl rfl (Nat.le_of_ble_eq_true rfl) rfl ?_
      refine k_goto C (pc2 := 19) rfl rfl ?_
      rw [n_s]
      refine ih (97 - (v + 1)) (by omega) (v + 1) _ rfl hv (Fr.l hF A_wy) (fun k' v' h1 h2 => ?_) K
      by_cases e9 : k' = k ∧ v' = v
      · rw [e9.1, e9.2]; refine u2_s.trans ?_; unfold wF0; rw [if_neg (fun h => c45 (by rw [h.2]; rfl))]
      · exact (u2_k (fun e => e9 (cell_inj (by omega) (by omega) e))).trans (hz k' v' (by omega) h2)
    refine k_lconst C (x := 1) rfl rfl rfl ?_
    refine k_goto C (pc2 := 53) rfl rfl ?_
    refine s_L C rfl rfl T_wy (vin (n := 97 * k + v) (by rw [show (97 : Int32) = Int32.ofNat 97 from rfl, n_mul, n_add]) (by rw [N_wy]; omega) (by rw [N_wy]; exact Nat.le_of_ble_eq_true rfl)) (show _ = 97 * k + v from by rw [show (97 : Int32) = Int32.ofNat 97 from rfl, n_mul, n_add, n_nat (by omega)]) ?_
    refine k_inc1 C (lw := [(5, .int _), (4, .int _), (0, _), (1, .int _), (2, .int _), (3, .int _)]) rfl rfl rfl (Nat.le_of_ble_eq_true rfl) rfl ?_
    refine k_goto C (pc2 := 19) rfl rfl ?_
    rw [n_s]
    refine ih (97 - (v + 1)) (by omega) (v + 1) _ rfl hv (Fr.l hF A_wy) (fun k' v' h1 h2 => ?_) K
    by_cases e9 : k' = k ∧ v' = v
    · rw [e9.1, e9.2]; refine u2_s.trans ?_; unfold wF0; rw [if_pos ⟨(n_eq (b := 0) (by omega) (by omega)).mp (Decidable.not_not.mp c40), (n_eq (b := 0) (by omega) (by omega)).mp (Decidable.not_not.mp c45)⟩]
    · exact (u2_k (fun e => e9 (cell_inj (by omega) (by omega) e))).trans (hz k' v' (by omega) h2)
theorem mw_clears {d : Nat} {V : V_T} {q : mm_T} {Post : Po} {T N : Nat → Nat} {R : RT} {A : Nat → Prop} {I : IT} {L : LT} {m wy : Nat} {w r e : Nat} (hq : P_ml[258]? = some q) (C : Cl (d + 1) q 0 0 Post V) (S : SB V) (T_m : T m = 13) (R_m_21 : R m 21 = some wy) (T_wy : T wy = 21) (N_wy : N wy = 1261) (A_wy : A wy) (K : ∀ L2, Fr A I L I L2 → (∀ k' v', k' ≤ 12 → v' < 97 → L2 wy (97 * k' + v') = wF0 k' v') → ∀ x4 : Int32, V 66 [(4, .int x4), (0, .ref m), (1, .int (Int32.ofNat w)), (2, .int (Int32.ofNat r)), (3, .int (Int32.ofNat e))] [] (T, N, I, L2, R) 0 0) : ∀ (t k : Nat) (L1 : LT), t = 13 - k → k ≤ 13 → Fr A I L I L1 → (∀ k' v', k' < k → v' < 97 → L1 wy (97 * k' + v') = wF0 k' v') → V 9 [(4, .int (Int32.ofNat k)), (0, .ref m), (1, .int (Int32.ofNat w)), (2, .int (Int32.ofNat r)), (3, .int (Int32.ofNat e))] [] (T, N, I, L1, R) 0 0 := by
  intro t
  induction t using Nat.strongRecOn with
  | _ t ih =>
    intro k L1 ht hk9 hF hz
    have hq9 := hq
    cases hq
    refine k_iload C rfl rfl rfl ?_
    refine k_bipush C (x := 12) rfl rfl rfl ?_
    refine k_icmp_gt C (t := 66) rfl rfl rfl (fun c9 => ?_) (fun c9 => ?_)
    · exact K L1 hF (fun k' v' h1 h2 => hz k' v' (by have := (n_lt (a := 12) (b := k) (by omega) (by omega)).mp c9; omega) h2) _
    · have hk : k ≤ 12 := Nat.le_of_not_lt (fun h => c9 ((n_lt (a := 12) (b := k) (by omega) (by omega)).mpr h))
      refine k_iconst C (x := 0) rfl rfl rfl ?_
      refine k_istore C (lw := [(5, .int _), (4, .int _), (0, _), (1, .int _), (2, .int _), (3, .int _)]) rfl rfl (Nat.le_of_ble_eq_true rfl) rfl ?_
      refine mw_clear hq9 C S T_m R_m_21 T_wy N_wy A_wy k hk 97 0 L1 rfl (Nat.zero_le _) hF (fun k' v' h1 h2 => hz k' v' (by omega) h2) (fun L2 hF2 hz2 x5 => ?_)
      refine k_sub S [(4, .int (Int32.ofNat k)), (0, .ref m), (1, .int (Int32.ofNat w)), (2, .int (Int32.ofNat r)), (3, .int (Int32.ofNat e))] (List.forall_mem_cons.mpr ⟨List.mem_of_getElem? (i := 1) rfl, List.forall_mem_cons.mpr ⟨List.mem_of_getElem? (i := 2) rfl, List.forall_mem_cons.mpr ⟨List.mem_of_getElem? (i := 3) rfl, List.forall_mem_cons.mpr ⟨List.mem_of_getElem? (i := 4) rfl, List.forall_mem_cons.mpr ⟨List.mem_of_getElem? (i := 5) rfl, fun _ h => nomatch h⟩⟩⟩⟩⟩) ?_
      refine k_inc1 C (lw := [(4, .int _), (0, _), (1, .int _), (2, .int _), (3, .int _)]) rfl rfl rfl (Nat.le_of_ble_eq_true rfl) rfl ?_
      refine k_goto C (pc2 := 9) rfl rfl ?_
      rw [n_s]
      exact ih (13 - (k + 1)) (by omega) (k + 1) L2 rfl (by omega) hF2 (fun k' v' h1 h2 => hz2 k' v' (by omega) h2)
theorem e_m_ways_neg {d : Nat} {T N : Nat → Nat} {I : IT} {L : LT} {R : RT} {m : Nat} {w r e : Int32}  (hw : w < 0) : Ex (d + 1) 258 [.ref m, .int w, .int r, .int e] (T, N, I, L, R) 0 0 (pL T N R (fun x9 I9 L9 => x9 = (0) ∧ I9 = I ∧ L9 = L)) := by
  refine ⟨_, rfl, Nat.le_of_ble_eq_true rfl, fun V C S => ?_⟩
  show V 0 [(0, .ref m), (1, .int w), (2, .int r), (3, .int e)] [] (T, N, I, L, R) 0 0
  refine k_iload_n C rfl rfl rfl ?_
  refine k_if_ge C (t := 6) rfl rfl rfl (fun c1 => ?_) (fun c1 => ?_)
  · skip
    exact absurd hw (Int32.not_lt.mpr c1)
  refine k_lconst C (x := 0) rfl rfl rfl ?_
  exact k_lret C rfl rfl (Nat.le_of_ble_eq_true rfl) (Nat.le_of_ble_eq_true rfl) ⟨_, _, _, rfl, rfl, ⟨rfl, rfl, rfl⟩⟩

theorem e_m_ways_nat {d : Nat} {T N : Nat → Nat} {I : IT} {L : LT} {R : RT} {A : Nat → Prop} {m wy : Nat} {wI rI eI : Int32} (T_m : T m = 13) (R_m_21 : R m 21 = some wy) (T_wy : T wy = 21) (N_wy : N wy = 1261) (A_wy : A wy) {w r e : Nat} (hwI : wI = Int32.ofNat w) (hrI : rI = Int32.ofNat r) (heI : eI = Int32.ofNat e) (hw : w ≤ 48) (hr9 : r ≤ 12) (he : e ≤ 8) : Ex (d + 2) 258 [.ref m, .int wI, .int rI, .int eI] (T, N, I, L, R) 0 0 (pL T N R (fun x9 I9 L9 => x9 = waysP w r e ∧ I9 = I ∧ Fr A I L I L9)) := by
  refine ⟨_, rfl, Nat.le_of_ble_eq_true rfl, fun V C S => ?_⟩
  show V 0 [(0, .ref m), (1, .int wI), (2, .int rI), (3, .int eI)] [] (T, N, I, L, R) 0 0
  subst hwI hrI heI
  refine k_iload_n C rfl rfl rfl ?_
  refine k_if_ge C (t := 6) rfl rfl rfl (fun c1 => ?_) (fun c1 => ?_)
  · skip
    refine k_iconst C (x := 0) rfl rfl rfl ?_
    refine k_istore C (lw := [(4, .int _), (0, _), (1, .int _), (2, .int _), (3, .int _)]) rfl rfl (Nat.le_of_ble_eq_true rfl) rfl ?_
    refine mw_clears (I := I) (L := L) rfl C S T_m R_m_21 T_wy N_wy A_wy (fun L2 hF2 hz2 x4 => ?_) 13 0 L rfl (Nat.zero_le _) Fr.rf (fun k' v' h1 h2 => absurd h1 (Nat.not_lt_zero k'))
    have hrep : rep 97 wF0 (L2 wy) := fun k v h1 h2 => hz2 k v h1 (by omega)
    refine k_iconst C (x := 1) rfl rfl rfl ?_
    refine k_istore C (lw := [(4, .int _), (0, _), (1, .int _), (2, .int _), (3, .int _)]) rfl rfl (Nat.le_of_ble_eq_true rfl) rfl ?_
    refine mw_ploop rfl C S T_m R_m_21 T_wy N_wy A_wy hw hr9 he e 1 _ wF0 rfl (Nat.le_refl _) (by omega) hF2 hrep (fun L3 hF3 hrep3 x4 => ?_)
    refine k_lconst C (x := 0) rfl rfl rfl ?_
    refine k_lstore C (lw := [(4, .long _), (0, _), (1, .int _), (2, .int _), (3, .int _)]) rfl rfl (Nat.le_of_ble_eq_true rfl) rfl ?_
    refine k_iconst C (x := 0) rfl rfl rfl ?_
    refine k_istore C (lw := [(6, .int _), (4, .long _), (0, _), (1, .int _), (2, .int _), (3, .int _)]) rfl rfl (Nat.le_of_ble_eq_true rfl) rfl ?_
    refine mw_sloop rfl C S T_m R_m_21 T_wy N_wy A_wy hw hr9 he (I := I) (L := L) hrep3 (r + 1) 0 0 rfl (by omega) (fun x6 => ?_)
    refine k_lload C rfl rfl rfl ?_
    exact k_lret C rfl rfl (Nat.le_of_ble_eq_true rfl) (Nat.le_of_ble_eq_true rfl) ⟨_, _, _, rfl, rfl, rfl, rfl, hF3⟩
  exact absurd (Int32.not_lt.mp (n_nn (by omega))) c1

