/-! the rows of the reference, any state: mixed by a table -/
def itw (g : Nat → Nat) (D u v p : Nat) : Nat → Nat → Nat
  | 0 => g
  | n + 1 => widM (itw g D u v p n) (D + n) u v p
def baM (x : Nat) : Nat → Nat := fun j => if j = 0 then x else 0
def mixG (x D a b c e p k : Nat) : Nat → Nat := itw (itw (baM x) 0 a b p (D - k)) (D - k) c e p k
def addM (f g : Nat → Nat) (p i : Nat) : Nat → Nat := fun j => if j < i then (f j + g j) % p else f j
def mxM (ra : Nat → Nat) (D a b c e p : Nat) : Nat → Nat → Nat
  | 0 => fun _ => 0
  | k + 1 => addM (mxM ra D a b c e p k) (mixG (ra k) D a b c e p k) p (D + 1)
theorem addM_s {f g : Nat → Nat} {p i : Nat} : (fun k => if k = i then (f i + g i) % p else addM f g p i k) = addM f g p (i + 1) := by
  funext j; unfold addM
  by_cases e : j = i
  · rw [if_pos e, if_pos (by omega), e]
  · rw [if_neg e]
    by_cases q : j < i
    · rw [if_pos q, if_pos (by omega)]
    · rw [if_neg q, if_neg (by omega)]
theorem addM_0 {f g : Nat → Nat} {p : Nat} : addM f g p 0 = f := by
  funext j; unfold addM; rw [if_neg (by omega)]
theorem addM_i {f g : Nat → Nat} {p i : Nat} : addM f g p i i = f i := if_neg (by omega)
theorem e_m_mixes {d : Nat} {T N : Nat → Nat} {I : IT} {L : LT} {R : RT} {m w nu dg : Nat} {a b : Int32}{p ma mb mc md : Nat} (T_m : T m = 13) (R_m_1 : R m 1 = some w) (T_w : T w = 20) (N_w : N w = 4007) (R_m_5 : R m 5 = some nu) (T_nu : T nu = 20) (N_nu : N nu = 1968) (R_m_4 : R m 4 = some dg) (T_dg : T dg = 20) (N_dg : N dg = 48) (I_w_0 : I w 0 = (Int32.ofNat p)) (I_m_6 : I m 6 = (Int32.ofNat ma)) (I_m_7 : I m 7 = (Int32.ofNat mb)) (I_m_8 : I m 8 = (Int32.ofNat mc)) (I_m_9 : I m 9 = (Int32.ofNat md)) {r t D : Nat} {ra : Nat → Nat} (hp1 : 2 ≤ p) (hp2 : p ≤ 19) (ha : a = Int32.ofNat r) (hb : b = Int32.ofNat t) (hr : r < 48) (ht : t < 48) (hrt : r ≠ t) (hr5 : r ≠ 45) (ht5 : t ≠ 45) (hma : ma < p) (hmb : mb < p) (hmc : mc < p) (hmd : md < p) (hD : I dg r = Int32.ofNat D) (hD8 : D ≤ 40) (hra : ∀ k, k ≤ D → I nu (41 * r + k) = Int32.ofNat (ra k)) (hrap : ∀ k, k ≤ D → ra k < p) (hnd : nu ≠ dg) (hwn : w ≠ nu) (hwd : w ≠ dg) : Ex (d + 4) 214 [.ref m, .int a, .int b] (T, N, I, L, R) 0 0 (pV T N R (fun I9 L9 => Rs nu dg (fun z => z = t ∨ z = 45) I I9 ∧ L9 = L ∧ Rw nu dg p I9 t D (mxM ra D ma mb mc md p (D + 1)))) := by
  refine ⟨_, rfl, Nat.le_of_ble_eq_true rfl, fun V C S => ?_⟩
  show V 0 [(0, .ref m), (1, .int a), (2, .int b)] [] (T, N, I, L, R) 0 0
  subst ha; subst hb
  have loop : ∀ (s k : Nat) (I1 : IT), s = D + 1 - k → k ≤ D + 1 → Rs nu dg (fun z => z = t ∨ z = 45) I I1 → Rw nu dg p I1 t D (mxM ra D ma mb mc md p k) → V 16 [(4, .int (Int32.ofNat k)), (3, .int (Int32.ofNat D)), (0, .ref m), (1, .int (Int32.ofNat r)), (2, .int (Int32.ofNat t))] [] (T, N, I1, L, R) 0 0 := by
    intro s
    induction s using Nat.strongRecOn with
    | _ s iho =>
      intro k I1 hs hk hR hT
      refine k_iload C rfl rfl rfl ?_
      refine k_iload_n C rfl rfl rfl ?_
      refine k_icmp_gt C (t := 152) rfl rfl rfl (fun c19 => ?_) (fun c19 => ?_)
      · skip
        have hi2 : k = D + 1 := by have := (n_lt (by omega) (by omega)).mp c19; omega
        subst hi2
        exact k_vret C rfl rfl (Nat.le_of_ble_eq_true rfl) (Nat.le_of_ble_eq_true rfl) ⟨_, _, rfl, rfl, hR, rfl, hT⟩
      have hk2 : k < D + 1 := Nat.lt_succ_of_le (Nat.le_of_not_lt (fun h => c19 ((n_lt (by omega) (by omega)).mpr h)))
      have loop3 : ∀ (s i : Nat) (I1 : IT), s = (D + 1) - i → i ≤ (D + 1) → Rs nu dg (fun z => z = t ∨ z = 45) I I1 → Rw nu dg p I1 t D (addM (mxM ra D ma mb mc md p k) (mixG (ra k) D ma mb mc md p k) p i) → Rw nu dg p I1 45 (D) (mixG (ra k) D ma mb mc md p k) → V 108 [(5, .int (Int32.ofNat i)), (4, .int (Int32.ofNat k)), (3, .int (Int32.ofNat D)), (0, .ref m), (1, .int (Int32.ofNat r)), (2, .int (Int32.ofNat t))] [] (T, N, I1, L, R) 0 0 := by
        intro s
        induction s using Nat.strongRecOn with
        | _ s ih =>
          intro i I1 hs hi hR hT hG
          refine k_iload C rfl rfl rfl ?_
          refine k_iload_n C rfl rfl rfl ?_
          refine k_icmp_gt C (t := 146) rfl rfl rfl (fun c111 => ?_) (fun c111 => ?_)
          · skip
            have hi2 : i = D + 1 := by have := (n_lt (by omega) (by omega)).mp c111; omega
            subst hi2
            refine k_sub S [(4, .int (Int32.ofNat k)), (3, .int (Int32.ofNat D)), (0, .ref m), (1, .int (Int32.ofNat r)), (2, .int (Int32.ofNat t))] (List.forall_mem_cons.mpr ⟨List.mem_of_getElem? (i := 1) rfl, List.forall_mem_cons.mpr ⟨List.mem_of_getElem? (i := 2) rfl, List.forall_mem_cons.mpr ⟨List.mem_of_getElem? (i := 3) rfl, List.forall_mem_cons.mpr ⟨List.mem_of_getElem? (i := 4) rfl, List.forall_mem_cons.mpr ⟨List.mem_of_getElem? (i := 5) rfl, fun _ h => nomatch h⟩⟩⟩⟩⟩) ?_
            refine k_iinc C (lw := [(4, .int _), (3, .int _), (0, _), (1, .int _), (2, .int _)]) rfl rfl rfl (Nat.le_of_ble_eq_true rfl) rfl rfl ?_
            refine k_goto C (pc2 := 16) rfl rfl ?_
            show V 16 [(4, .int (Int32.ofNat k + 1)), _, _, _, _] [] _ 0 0
            rw [n_s]
            exact iho (D + 1 - (k + 1)) (by omega) (k + 1) _ rfl (by omega) hR hT
          have hi2 : i < D + 1 := Nat.lt_succ_of_le (Nat.le_of_not_lt (fun h => c111 ((n_lt (by omega) (by omega)).mpr h)))
          have I_m_6 := (congrFun (hR.1 m (t_nq T_m T_nu (by decide)) (t_nq T_m T_dg (by decide))) 6).trans I_m_6
          have I_m_7 := (congrFun (hR.1 m (t_nq T_m T_nu (by decide)) (t_nq T_m T_dg (by decide))) 7).trans I_m_7
          have I_m_8 := (congrFun (hR.1 m (t_nq T_m T_nu (by decide)) (t_nq T_m T_dg (by decide))) 8).trans I_m_8
          have I_m_9 := (congrFun (hR.1 m (t_nq T_m T_nu (by decide)) (t_nq T_m T_dg (by decide))) 9).trans I_m_9
          have I_w_0 := (congrFun (hR.1 w hwn hwd) 0).trans I_w_0
          have b1 := hT.2.2.2 i (by omega)
          rw [addM_i] at b1
          have b2 := hG.2.2.2 i (by omega)
          refine k_aload_n C rfl rfl rfl ?_
          refine k_iload_n C rfl rfl rfl ?_
          refine k_iload C rfl rfl rfl ?_
          refine k_aload_n C rfl rfl rfl ?_
          refine k_aload_n C rfl rfl rfl ?_
          refine k_iload_n C rfl rfl rfl ?_
          refine k_iload C rfl rfl rfl ?_
          refine c_VI C (e_m_of T_m R_m_5 T_nu N_nu rfl rfl (by omega)) rfl rfl rfl rfl rfl ⟨_, rfl, rfl, T_m, Nat.le_of_ble_eq_true rfl⟩ rfl rfl (Nat.le_of_ble_eq_true rfl) (Nat.le_of_ble_eq_true rfl) (Nat.le_of_ble_eq_true rfl) ?_
          rintro _ _ _ ⟨hx7, hI8, hL9⟩
          have hx7 := hx7.symm; subst hx7
          have hI8 := hI8.symm; subst hI8; have hL9 := hL9.symm; subst hL9
          rw [hT.2.2.1 i (by omega), addM_i]
          refine k_aload_n C rfl rfl rfl ?_
          refine k_bipush C (x := 45) rfl rfl rfl ?_
          refine k_iload C rfl rfl rfl ?_
          refine c_VI C (e_m_of T_m R_m_5 T_nu N_nu (r := 45) rfl rfl (by omega)) rfl rfl rfl rfl rfl ⟨_, rfl, rfl, T_m, Nat.le_of_ble_eq_true rfl⟩ rfl rfl (Nat.le_of_ble_eq_true rfl) (Nat.le_of_ble_eq_true rfl) (Nat.le_of_ble_eq_true rfl) ?_
          rintro _ _ _ ⟨hx7, hI8, hL9⟩
          have hx7 := hx7.symm; subst hx7
          have hI8 := hI8.symm; subst hI8; have hL9 := hL9.symm; subst hL9
          rw [hG.2.2.1 i (by omega)]
          refine c_VI C (e_m_plusN T_m R_m_1 T_w N_w (I_w_0) hp1 hp2 rfl rfl (by omega) (by omega)) rfl rfl rfl rfl rfl ⟨_, rfl, rfl, T_m, Nat.le_of_ble_eq_true rfl⟩ rfl rfl (Nat.le_of_ble_eq_true rfl) (Nat.le_of_ble_eq_true rfl) (Nat.le_of_ble_eq_true rfl) ?_
          rintro _ _ _ ⟨hx7, hI8, hL9⟩
          have hx7 := hx7.symm; subst hx7
          have hI8 := hI8.symm; subst hI8; have hL9 := hL9.symm; subst hL9
          refine c_VV C (e_m_put T_m R_m_5 T_nu N_nu rfl rfl (by omega)) rfl rfl rfl rfl rfl ⟨_, rfl, rfl, T_m, Nat.le_of_ble_eq_true rfl⟩ rfl rfl (Nat.le_of_ble_eq_true rfl) (Nat.le_of_ble_eq_true rfl) (Nat.le_of_ble_eq_true rfl) ?_
          rintro _ _ ⟨hI8, hL9⟩
          have hI8 := hI8.symm; subst hI8; have hL9 := hL9.symm; subst hL9
          refine k_iinc C (lw := [(5, .int _), (4, .int _), (3, .int _), (0, _), (1, .int _), (2, .int _)]) rfl rfl rfl (Nat.le_of_ble_eq_true rfl) rfl rfl ?_
          refine k_goto C (pc2 := 108) rfl rfl ?_
          show V 108 [(5, .int (Int32.ofNat i + 1)), _, _, _, _, _] [] _ 0 0
          rw [n_s]
          have hT9 := Rw.put (j := i) hnd hT (Nat.mod_lt ((mxM ra D ma mb mc md p k) i + (mixG (ra k) D ma mb mc md p k) i) (show 0 < p by omega))
          rw [addM_s] at hT9
          exact ih (D + 1 - (i + 1)) (by omega) (i + 1) _ rfl (by omega) (hR.tr ((Rs.put (by omega) hnd).mono (fun z hz => Or.inl hz))) hT9 (hG.keep (by omega) (Rs.put (by omega) hnd) (fun e => ht5 e.symm))
      have loop2 : ∀ (s i : Nat) (I1 : IT), s = k - i → i ≤ k → Rs nu dg (fun z => z = t ∨ z = 45) I I1 → Rw nu dg p I1 t D (mxM ra D ma mb mc md p k) → Rw nu dg p I1 45 (D - k + i) (itw (itw (baM (ra k)) 0 ma mb p (D - k)) (D - k) mc md p i) → V 78 [(5, .int (Int32.ofNat i)), (4, .int (Int32.ofNat k)), (3, .int (Int32.ofNat D)), (0, .ref m), (1, .int (Int32.ofNat r)), (2, .int (Int32.ofNat t))] [] (T, N, I1, L, R) 0 0 := by
        intro s
        induction s using Nat.strongRecOn with
        | _ s ih =>
          intro i I1 hs hi hR hT hG
          refine k_iload C rfl rfl rfl ?_
          refine k_iload C rfl rfl rfl ?_
          refine k_icmp_ge C (t := 105) rfl rfl rfl (fun c82 => ?_) (fun c82 => ?_)
          · skip
            have hi2 : i = k := by have := (n_le (by omega) (by omega)).mp c82; omega
            refine k_iconst C (x := 0) rfl rfl rfl ?_
            refine k_istore C (lw := [(5, .int _), (4, .int _), (3, .int _), (0, _), (1, .int _), (2, .int _)]) rfl rfl (Nat.le_of_ble_eq_true rfl) rfl ?_
            refine loop3 (D + 1) 0 _ rfl (Nat.zero_le _) hR (by rw [addM_0]; exact hT) ?_
            have e9 : D - k + i = D := by omega
            rw [e9] at hG
            subst hi2
            exact hG
          have hi2 : i < k := Nat.lt_of_not_le (fun h => c82 ((n_le (by omega) (by omega)).mpr h))
          have I_m_6 := (congrFun (hR.1 m (t_nq T_m T_nu (by decide)) (t_nq T_m T_dg (by decide))) 6).trans I_m_6
          have I_m_7 := (congrFun (hR.1 m (t_nq T_m T_nu (by decide)) (t_nq T_m T_dg (by decide))) 7).trans I_m_7
          have I_m_8 := (congrFun (hR.1 m (t_nq T_m T_nu (by decide)) (t_nq T_m T_dg (by decide))) 8).trans I_m_8
          have I_m_9 := (congrFun (hR.1 m (t_nq T_m T_nu (by decide)) (t_nq T_m T_dg (by decide))) 9).trans I_m_9
          have I_w_0 := (congrFun (hR.1 w hwn hwd) 0).trans I_w_0
          refine k_aload_n C rfl rfl rfl ?_
          refine k_bipush C (x := 45) rfl rfl rfl ?_
          refine k_aload_n C rfl rfl rfl ?_
          refine g_I C rfl rfl rfl T_m rfl (I_m_8) ?_
          refine k_aload_n C rfl rfl rfl ?_
          refine g_I C rfl rfl rfl T_m rfl (I_m_9) ?_
          refine c_VV C (e_m_widens T_m R_m_1 T_w N_w R_m_5 T_nu N_nu R_m_4 T_dg N_dg (I_w_0) hp1 hp2 (r := 45) (D := D - k + i) rfl rfl rfl (by omega) hmc hmd hG.1 (by omega) hG.2.2.1 hG.2.2.2 hnd hwn hwd) rfl rfl rfl rfl rfl ⟨_, rfl, rfl, T_m, Nat.le_of_ble_eq_true rfl⟩ rfl rfl (Nat.le_of_ble_eq_true rfl) (Nat.le_of_ble_eq_true rfl) (Nat.le_of_ble_eq_true rfl) ?_
          rintro _ _ ⟨hI8, hL9⟩
          have hI8 := hI8.symm; subst hI8; have hL9 := hL9.symm; subst hL9
          refine k_iinc C (lw := [(5, .int _), (4, .int _), (3, .int _), (0, _), (1, .int _), (2, .int _)]) rfl rfl rfl (Nat.le_of_ble_eq_true rfl) rfl rfl ?_
          refine k_goto C (pc2 := 78) rfl rfl ?_
          show V 78 [(5, .int (Int32.ofNat i + 1)), _, _, _, _, _] [] _ 0 0
          rw [n_s]
          exact ih (k - (i + 1)) (by omega) (i + 1) _ rfl (by omega) (hR.tr ((Rs_bk hnd (by omega)).mono (fun z hz => Or.inr hz))) (hT.keep ht (Rs_bk hnd (by omega)) (fun e => ht5 e)) (Rw_bk hnd (by omega) (fun j _ => rfl) (fun j hj => Nat.mod_lt _ (by omega)))
      have loop1 : ∀ (s i : Nat) (I1 : IT), s = (D - k) - i → i ≤ (D - k) → Rs nu dg (fun z => z = t ∨ z = 45) I I1 → Rw nu dg p I1 t D (mxM ra D ma mb mc md p k) → Rw nu dg p I1 45 (i) (itw (baM (ra k)) 0 ma mb p i) → V 46 [(5, .int (Int32.ofNat i)), (4, .int (Int32.ofNat k)), (3, .int (Int32.ofNat D)), (0, .ref m), (1, .int (Int32.ofNat r)), (2, .int (Int32.ofNat t))] [] (T, N, I1, L, R) 0 0 := by
        intro s
        induction s using Nat.strongRecOn with
        | _ s ih =>
          intro i I1 hs hi hR hT hG
          refine k_iload C rfl rfl rfl ?_
          refine k_iload_n C rfl rfl rfl ?_
          refine k_iload C rfl rfl rfl ?_
          refine k_isub C rfl rfl ?_
          rw [n_sub (by omega)]
          refine k_icmp_ge C (t := 75) rfl rfl rfl (fun c52 => ?_) (fun c52 => ?_)
          · skip
            have hi2 : i = D - k := by have := (n_le (by omega) (by omega)).mp c52; omega
            refine k_iconst C (x := 0) rfl rfl rfl ?_
            refine k_istore C (lw := [(5, .int _), (4, .int _), (3, .int _), (0, _), (1, .int _), (2, .int _)]) rfl rfl (Nat.le_of_ble_eq_true rfl) rfl ?_
            subst hi2
            exact loop2 k 0 _ rfl (Nat.zero_le _) hR hT hG
          have hi2 : i < D - k := Nat.lt_of_not_le (fun h => c52 ((n_le (by omega) (by omega)).mpr h))
          have I_m_6 := (congrFun (hR.1 m (t_nq T_m T_nu (by decide)) (t_nq T_m T_dg (by decide))) 6).trans I_m_6
          have I_m_7 := (congrFun (hR.1 m (t_nq T_m T_nu (by decide)) (t_nq T_m T_dg (by decide))) 7).trans I_m_7
          have I_m_8 := (congrFun (hR.1 m (t_nq T_m T_nu (by decide)) (t_nq T_m T_dg (by decide))) 8).trans I_m_8
          have I_m_9 := (congrFun (hR.1 m (t_nq T_m T_nu (by decide)) (t_nq T_m T_dg (by decide))) 9).trans I_m_9
          have I_w_0 := (congrFun (hR.1 w hwn hwd) 0).trans I_w_0
          refine k_aload_n C rfl rfl rfl ?_
          refine k_bipush C (x := 45) rfl rfl rfl ?_
          refine k_aload_n C rfl rfl rfl ?_
          refine g_I C rfl rfl rfl T_m rfl (I_m_6) ?_
          refine k_aload_n C rfl rfl rfl ?_
          refine g_I C rfl rfl rfl T_m rfl (I_m_7) ?_
          refine c_VV C (e_m_widens T_m R_m_1 T_w N_w R_m_5 T_nu N_nu R_m_4 T_dg N_dg (I_w_0) hp1 hp2 (r := 45) (D := i) rfl rfl rfl (by omega) hma hmb hG.1 (by omega) hG.2.2.1 hG.2.2.2 hnd hwn hwd) rfl rfl rfl rfl rfl ⟨_, rfl, rfl, T_m, Nat.le_of_ble_eq_true rfl⟩ rfl rfl (Nat.le_of_ble_eq_true rfl) (Nat.le_of_ble_eq_true rfl) (Nat.le_of_ble_eq_true rfl) ?_
          rintro _ _ ⟨hI8, hL9⟩
          have hI8 := hI8.symm; subst hI8; have hL9 := hL9.symm; subst hL9
          refine k_iinc C (lw := [(5, .int _), (4, .int _), (3, .int _), (0, _), (1, .int _), (2, .int _)]) rfl rfl rfl (Nat.le_of_ble_eq_true rfl) rfl rfl ?_
          refine k_goto C (pc2 := 46) rfl rfl ?_
          show V 46 [(5, .int (Int32.ofNat i + 1)), _, _, _, _, _] [] _ 0 0
          rw [n_s]
          exact ih (D - k - (i + 1)) (by omega) (i + 1) _ rfl (by omega) (hR.tr ((Rs_bk hnd (by omega)).mono (fun z hz => Or.inr hz))) (hT.keep ht (Rs_bk hnd (by omega)) (fun e => ht5 e)) (Rw_bk hnd (by omega) (fun j _ => by show _ = Int32.ofNat (widM _ (0 + i) ma mb p j); rw [Nat.zero_add]) (fun j hj => Nat.mod_lt _ (by omega)))
      have hrow := (hR.2.2 r k hr (by omega) (fun e => e.elim hrt hr5)).trans (hra k (by omega))
      refine k_aload_n C rfl rfl rfl ?_
      refine k_bipush C (x := 45) rfl rfl rfl ?_
      refine k_iconst C (x := 0) rfl rfl rfl ?_
      refine c_VV C (e_m_clears T_m R_m_5 T_nu N_nu R_m_4 T_dg N_dg (r := 45) (D := 0) rfl rfl (by omega) (by omega)) rfl rfl rfl rfl rfl ⟨_, rfl, rfl, T_m, Nat.le_of_ble_eq_true rfl⟩ rfl rfl (Nat.le_of_ble_eq_true rfl) (Nat.le_of_ble_eq_true rfl) (Nat.le_of_ble_eq_true rfl) ?_
      rintro _ _ ⟨hI8, hL9⟩
      have hI8 := hI8.symm; subst hI8; have hL9 := hL9.symm; subst hL9
      refine k_aload_n C rfl rfl rfl ?_
      refine k_bipush C (x := 45) rfl rfl rfl ?_
      refine k_iconst C (x := 0) rfl rfl rfl ?_
      refine k_aload_n C rfl rfl rfl ?_
      refine k_iload_n C rfl rfl rfl ?_
      refine k_iload C rfl rfl rfl ?_
      refine c_VI C (e_m_of T_m R_m_5 T_nu N_nu rfl rfl (by omega)) rfl rfl rfl rfl rfl ⟨_, rfl, rfl, T_m, Nat.le_of_ble_eq_true rfl⟩ rfl rfl (Nat.le_of_ble_eq_true rfl) (Nat.le_of_ble_eq_true rfl) (Nat.le_of_ble_eq_true rfl) ?_
      rintro _ _ _ ⟨hx7, hI8, hL9⟩
      have hx7 := hx7.symm; subst hx7
      have hI8 := hI8.symm; subst hI8; have hL9 := hL9.symm; subst hL9
      rw [bk_o (by omega), u2_a hnd, hrow]
      refine c_VV C (e_m_put T_m R_m_5 T_nu N_nu (r := 45) (j := 0) rfl rfl (by omega)) rfl rfl rfl rfl rfl ⟨_, rfl, rfl, T_m, Nat.le_of_ble_eq_true rfl⟩ rfl rfl (Nat.le_of_ble_eq_true rfl) (Nat.le_of_ble_eq_true rfl) (Nat.le_of_ble_eq_true rfl) ?_
      rintro _ _ ⟨hI8, hL9⟩
      have hI8 := hI8.symm; subst hI8; have hL9 := hL9.symm; subst hL9
      refine k_iconst C (x := 0) rfl rfl rfl ?_
      refine k_istore C (lw := [(5, .int _), (4, .int _), (3, .int _), (0, _), (1, .int _), (2, .int _)]) rfl rfl (Nat.le_of_ble_eq_true rfl) rfl ?_
      have hs1 : Rs nu dg (fun z => z = 45) I1 (bk (u2 I1 dg 45 (Int32.ofNat 0)) nu (41 * 45) (0 + 1) (fun _ => (0 : Int32))) := Rs_bk hnd (by omega)
      have hG1 : Rw nu dg p (bk (u2 I1 dg 45 (Int32.ofNat 0)) nu (41 * 45) (0 + 1) (fun _ => (0 : Int32))) 45 0 (fun _ => 0) := Rw_bk hnd (by omega) (fun _ _ => rfl) (fun _ _ => by omega)
      have hs2 := hs1.tr (Rs.put (r := 45) (j := 0) (x := Int32.ofNat (ra k)) (by omega) hnd)
      exact loop1 (D - k) 0 _ rfl (Nat.zero_le _) (hR.tr (hs2.mono (fun z hz => Or.inr hz))) (hT.keep ht hs2 (fun e => ht5 e)) (Rw.put (j := 0) hnd hG1 (hrap k (by omega)))
  refine k_aload_n C rfl rfl rfl ?_
  refine g_R C rfl rfl rfl T_m rfl R_m_4 ?_
  refine k_iload_n C rfl rfl rfl ?_
  refine a_I C rfl rfl T_dg (vin (n := r) rfl (by rw [N_dg]; omega) (by rw [N_dg]; exact Nat.le_of_ble_eq_true rfl)) (hvx (n_nat (by omega)) hD) ?_
  refine k_istore_n C (lw := [(3, .int _), (0, _), (1, .int _), (2, .int _)]) rfl rfl (Nat.le_of_ble_eq_true rfl) rfl ?_
  refine k_aload_n C rfl rfl rfl ?_
  refine k_iload_n C rfl rfl rfl ?_
  refine k_iload_n C rfl rfl rfl ?_
  refine c_VV C (e_m_clears T_m R_m_5 T_nu N_nu R_m_4 T_dg N_dg rfl rfl ht hD8) rfl rfl rfl rfl rfl ⟨_, rfl, rfl, T_m, Nat.le_of_ble_eq_true rfl⟩ rfl rfl (Nat.le_of_ble_eq_true rfl) (Nat.le_of_ble_eq_true rfl) (Nat.le_of_ble_eq_true rfl) ?_
  rintro _ _ ⟨hI8, hL9⟩
  have hI8 := hI8.symm; subst hI8; have hL9 := hL9.symm; subst hL9
  refine k_iconst C (x := 0) rfl rfl rfl ?_
  refine k_istore C (lw := [(4, .int _), (3, .int _), (0, _), (1, .int _), (2, .int _)]) rfl rfl (Nat.le_of_ble_eq_true rfl) rfl ?_
  exact loop (D + 1) 0 _ rfl (Nat.zero_le _) ((Rs_bk hnd hD8).mono (fun z hz => Or.inl hz)) (Rw_bk hnd hD8 (fun _ _ => rfl) (fun _ _ => by show 0 < p; omega))

