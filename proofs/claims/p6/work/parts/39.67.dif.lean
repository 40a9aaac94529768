/-! the rows of the reference, any state: differentiated -/
def dfM (ra : Nat → Nat) (D x y p j : Nat) : Nat := ra (j + y) * dsM (dsM 1 (D - (j + y)) p x) (j + y) p y % p
def dhM (ra : Nat → Nat) (D x y p n : Nat) : Nat → Nat := fun j => if j < n then dfM ra D x y p j else 0
theorem dhM_s {ra : Nat → Nat} {D x y p n : Nat} : (fun k => if k = n then dfM ra D x y p n else dhM ra D x y p n k) = dhM ra D x y p (n + 1) := by
  funext j; unfold dhM
  by_cases e : j = n
  · rw [if_pos e, if_pos (by omega), e]
  · rw [if_neg e]
    by_cases q : j < n
    · rw [if_pos q, if_pos (by omega)]
    · rw [if_neg q, if_neg (by omega)]
theorem e_m_differentiates {d : Nat} {T N : Nat → Nat} {I : IT} {L : LT} {R : RT} {m w nu dg : Nat} {a b c e : Int32}{p : Nat} (T_m : T m = 13) (R_m_1 : R m 1 = some w) (T_w : T w = 20) (N_w : N w = 4007) (R_m_5 : R m 5 = some nu) (T_nu : T nu = 20) (N_nu : N nu = 1968) (R_m_4 : R m 4 = some dg) (T_dg : T dg = 20) (N_dg : N dg = 48) (I_w_0 : I w 0 = (Int32.ofNat p)) {r t D x y : Nat} {ra : Nat → Nat} (hp1 : 2 ≤ p) (hp2 : p ≤ 19) (ha : a = Int32.ofNat r) (hb : b = Int32.ofNat x) (hc : c = Int32.ofNat y) (he : e = Int32.ofNat t) (hr : r < 48) (ht : t < 48) (hrt : r ≠ t) (hD : I dg r = Int32.ofNat D) (hD8 : D ≤ 40) (hxy : x + y ≤ D) (hra : ∀ k, k ≤ D → I nu (41 * r + k) = Int32.ofNat (ra k)) (hrap : ∀ k, k ≤ D → ra k < p) (hnd : nu ≠ dg) (hwn : w ≠ nu) (hwd : w ≠ dg) : Ex (d + 4) 207 [.ref m, .int a, .int b, .int c, .int e] (T, N, I, L, R) 0 0 (pV T N R (fun I9 L9 => Rs nu dg (fun z => z = t) I I9 ∧ L9 = L ∧ Rw nu dg p I9 t (D - x - y) (dhM ra D x y p (D - x - y + 1)))) := by
  refine ⟨_, rfl, Nat.le_of_ble_eq_true rfl, fun V C S => ?_⟩
  show V 0 [(0, .ref m), (1, .int a), (2, .int b), (3, .int c), (4, .int e)] [] (T, N, I, L, R) 0 0
  subst ha; subst hb; subst hc; subst he
  have loop : ∀ (s i : Nat) (I1 : IT), s = D - x - y + 1 - i → i ≤ D - x - y + 1 → Rs nu dg (fun z => z = t) I I1 → Rw nu dg p I1 t (D - x - y) (dhM ra D x y p i) → V 19 [(5, .int (Int32.ofNat (i + y))), (0, .ref m), (1, .int (Int32.ofNat r)), (2, .int (Int32.ofNat x)), (3, .int (Int32.ofNat y)), (4, .int (Int32.ofNat t))] [] (T, N, I1, L, R) 0 0 := by
    intro s
    induction s using Nat.strongRecOn with
    | _ s ih =>
      intro i I1 hs hi hR hT
      have hDr0 := (hR.2.1 r hr hrt).trans hD
      refine k_iload C rfl rfl rfl ?_
      refine k_aload_n C rfl rfl rfl ?_
      refine g_R C rfl rfl rfl T_m rfl R_m_4 ?_
      refine k_iload_n C rfl rfl rfl ?_
      refine a_I C rfl rfl T_dg (vin (n := r) rfl (by rw [N_dg]; omega) (by rw [N_dg]; exact Nat.le_of_ble_eq_true rfl)) (hvx (n_nat (by omega)) (hDr0)) ?_
      refine k_iload_n C rfl rfl rfl ?_
      refine k_isub C rfl rfl ?_
      rw [n_sub (by omega)]
      refine k_icmp_gt C (t := 73) rfl rfl rfl (fun c29 => ?_) (fun c29 => ?_)
      · skip
        have hi2 : i = D - x - y + 1 := by have := (n_lt (by omega) (by omega)).mp c29; omega
        subst hi2
        exact k_vret C rfl rfl (Nat.le_of_ble_eq_true rfl) (Nat.le_of_ble_eq_true rfl) ⟨_, _, rfl, rfl, hR, rfl, hT⟩
      have hi3 : i + y < D - x + 1 := Nat.lt_succ_of_le (Nat.le_of_not_lt (fun h => c29 ((n_lt (by omega) (by omega)).mpr h)))
      have I_w_0 := (congrFun (hR.1 w hwn hwd) 0).trans I_w_0
      have hDr := (hR.2.1 r hr hrt).trans hD
      have hra1 := (hR.2.2 r (i + y) hr (by omega) hrt).trans (hra (i + y) (by omega))
      have b1 := hrap (i + y) (by omega)
      have b2 := dsM_lt (v0 := dsM 1 (D - (i + y)) p x) (b := i + y) hp1 (dsM_lt (b := D - (i + y)) hp1 (by omega) x) y
      refine k_aload_n C rfl rfl rfl ?_
      refine k_iload C rfl rfl rfl ?_
      refine k_iload C rfl rfl rfl ?_
      refine k_iload_n C rfl rfl rfl ?_
      refine k_isub C rfl rfl ?_
      rw [n_sub (n := i + y) (m := y) (by omega), Nat.add_sub_cancel]
      refine k_aload_n C rfl rfl rfl ?_
      refine k_aload_n C rfl rfl rfl ?_
      refine k_iload_n C rfl rfl rfl ?_
      refine k_iload C rfl rfl rfl ?_
      refine c_VI C (e_m_of T_m R_m_5 T_nu N_nu rfl rfl (by omega)) rfl rfl rfl rfl rfl ⟨_, rfl, rfl, T_m, Nat.le_of_ble_eq_true rfl⟩ rfl rfl (Nat.le_of_ble_eq_true rfl) (Nat.le_of_ble_eq_true rfl) (Nat.le_of_ble_eq_true rfl) ?_
      rintro _ _ _ ⟨hx7, hI8, hL9⟩
      have hx7 := hx7.symm; subst hx7
      have hI8 := hI8.symm; subst hI8; have hL9 := hL9.symm; subst hL9
      rw [hra1]
      refine k_aload_n C rfl rfl rfl ?_
      refine k_aload_n C rfl rfl rfl ?_
      refine g_R C rfl rfl rfl T_m rfl R_m_4 ?_
      refine k_iload_n C rfl rfl rfl ?_
      refine a_I C rfl rfl T_dg (vin (n := r) rfl (by rw [N_dg]; omega) (by rw [N_dg]; exact Nat.le_of_ble_eq_true rfl)) (hvx (n_nat (by omega)) (hDr)) ?_
      refine k_iload C rfl rfl rfl ?_
      refine k_iload_n C rfl rfl rfl ?_
      refine k_iload_n C rfl rfl rfl ?_
      refine c_VI C (e_m_differs T_m R_m_1 T_w N_w (I_w_0) hp1 hp2 rfl rfl rfl rfl (by omega) (by omega) (by omega)) rfl rfl rfl rfl rfl ⟨_, rfl, rfl, T_m, Nat.le_of_ble_eq_true rfl⟩ rfl rfl (Nat.le_of_ble_eq_true rfl) (Nat.le_of_ble_eq_true rfl) (Nat.le_of_ble_eq_true rfl) ?_
      rintro _ _ _ ⟨hx7, hI8, hL9⟩
      have hx7 := hx7.symm; subst hx7
      have hI8 := hI8.symm; subst hI8; have hL9 := hL9.symm; subst hL9
      refine c_VI C (e_m_timesN T_m R_m_1 T_w N_w (I_w_0) hp1 hp2 rfl rfl (by omega) (by omega)) rfl rfl rfl rfl rfl ⟨_, rfl, rfl, T_m, Nat.le_of_ble_eq_true rfl⟩ rfl rfl (Nat.le_of_ble_eq_true rfl) (Nat.le_of_ble_eq_true rfl) (Nat.le_of_ble_eq_true rfl) ?_
      rintro _ _ _ ⟨hx7, hI8, hL9⟩
      have hx7 := hx7.symm; subst hx7
      have hI8 := hI8.symm; subst hI8; have hL9 := hL9.symm; subst hL9
      refine c_VV C (e_m_put T_m R_m_5 T_nu N_nu rfl rfl (by omega)) rfl rfl rfl rfl rfl ⟨_, rfl, rfl, T_m, Nat.le_of_ble_eq_true rfl⟩ rfl rfl (Nat.le_of_ble_eq_true rfl) (Nat.le_of_ble_eq_true rfl) (Nat.le_of_ble_eq_true rfl) ?_
      rintro _ _ ⟨hI8, hL9⟩
      have hI8 := hI8.symm; subst hI8; have hL9 := hL9.symm; subst hL9
      refine k_iinc C (lw := [(5, .int _), (0, _), (1, .int _), (2, .int _), (3, .int _), (4, .int _)]) rfl rfl rfl (Nat.le_of_ble_eq_true rfl) rfl rfl ?_
      refine k_goto C (pc2 := 19) rfl rfl ?_
      show V 19 [(5, .int (Int32.ofNat (i + y) + 1)), _, _, _, _, _] [] _ 0 0
      rw [n_s, show i + y + 1 = i + 1 + y from by omega]
      have hT9 := Rw.put (j := i) hnd hT (show dfM ra D x y p i < p from Nat.mod_lt _ (by omega))
      rw [dhM_s] at hT9
      exact ih (D - x - y + 1 - (i + 1)) (by omega) (i + 1) _ rfl (by omega) (hR.tr (Rs.put (by omega) hnd)) hT9
  refine k_aload_n C rfl rfl rfl ?_
  refine k_iload C rfl rfl rfl ?_
  refine k_aload_n C rfl rfl rfl ?_
  refine g_R C rfl rfl rfl T_m rfl R_m_4 ?_
  refine k_iload_n C rfl rfl rfl ?_
  refine a_I C rfl rfl T_dg (vin (n := r) rfl (by rw [N_dg]; omega) (by rw [N_dg]; exact Nat.le_of_ble_eq_true rfl)) (hvx (n_nat (by omega)) hD) ?_
  refine k_iload_n C rfl rfl rfl ?_
  refine k_isub C rfl rfl ?_
  rw [n_sub (by omega)]
  refine k_iload_n C rfl rfl rfl ?_
  refine k_isub C rfl rfl ?_
  rw [n_sub (by omega)]
  refine c_VV C (e_m_clears T_m R_m_5 T_nu N_nu R_m_4 T_dg N_dg rfl rfl ht (by omega)) rfl rfl rfl rfl rfl ⟨_, rfl, rfl, T_m, Nat.le_of_ble_eq_true rfl⟩ rfl rfl (Nat.le_of_ble_eq_true rfl) (Nat.le_of_ble_eq_true rfl) (Nat.le_of_ble_eq_true rfl) ?_
  rintro _ _ ⟨hI8, hL9⟩
  have hI8 := hI8.symm; subst hI8; have hL9 := hL9.symm; subst hL9
  refine k_iload_n C rfl rfl rfl ?_
  refine k_istore C (lw := [(5, .int _), (0, _), (1, .int _), (2, .int _), (3, .int _), (4, .int _)]) rfl rfl (Nat.le_of_ble_eq_true rfl) rfl ?_
  have h0 := loop (D - x - y + 1) 0 _ rfl (Nat.zero_le _) (Rs_bk hnd (by omega)) (Rw_bk hnd (by omega) (fun j _ => show (0 : Int32) = Int32.ofNat (dhM ra D x y p 0 j) from by rw [show dhM ra D x y p 0 j = 0 from if_neg (by omega)]; rfl) (fun j _ => by rw [show dhM ra D x y p 0 j = 0 from if_neg (by omega)]; omega))
  rw [Nat.zero_add] at h0
  exact h0

