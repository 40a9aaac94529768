/-! the rows of the reference, any state: products -/
theorem bk_u {I : IT} {a s n k : Nat} {f : Nat → Int32} {v : Int32} (h : k < n) : u2 (bk I a s n f) a (s + k) v = bk I a s n (fun j => if j = k then v else f j) := by
  funext b j
  by_cases e : b = a ∧ j = s + k
  · obtain ⟨rfl, rfl⟩ := e
    rw [u2_s, bk_i h, if_pos rfl]
  · have h1 : u2 (bk I a s n f) a (s + k) v b j = bk I a s n f b j := if_neg e
    rw [h1]; unfold bk
    by_cases q : b = a ∧ s ≤ j ∧ j < s + n
    · rw [if_pos q, if_pos q]; exact (if_neg (fun y => e ⟨q.1, by omega⟩)).symm
    · rw [if_neg q, if_neg q]
def inM (acc : Nat → Nat) (x : Nat) (rb : Nat → Nat) (p i : Nat) : Nat → Nat → Nat
  | 0 => acc
  | k + 1 => fun j => if j = i + k then (inM acc x rb p i k j + x * rb k % p) % p else inM acc x rb p i k j
def outM (ra rb : Nat → Nat) (p E : Nat) : Nat → Nat → Nat
  | 0 => fun _ => 0
  | i + 1 => inM (outM ra rb p E i) (ra i) rb p i (E + 1)
theorem inM_lt {acc : Nat → Nat} {x p i : Nat} {rb : Nat → Nat} (hp : 2 ≤ p) (h : ∀ j, acc j < p) : ∀ k j, inM acc x rb p i k j < p
  | 0, j => h j
  | k + 1, j => by
    show (if j = i + k then (inM acc x rb p i k j + x * rb k % p) % p else inM acc x rb p i k j) < p
    by_cases e : j = i + k
    · rw [if_pos e]; exact Nat.mod_lt _ (by omega)
    · rw [if_neg e]; exact inM_lt hp h k j
theorem outM_lt {ra rb : Nat → Nat} {p E : Nat} (hp : 2 ≤ p) : ∀ i j, outM ra rb p E i j < p
  | 0, j => by show 0 < p; omega
  | i + 1, j => inM_lt hp (outM_lt hp i) (E + 1) j
theorem inM_s {acc : Nat → Nat} {x p i k : Nat} {rb : Nat → Nat} : (fun j => if j = i + k then Int32.ofNat ((inM acc x rb p i k (i + k) + x * rb k % p) % p) else Int32.ofNat (inM acc x rb p i k j)) = fun j => Int32.ofNat (inM acc x rb p i (k + 1) j) := by
  funext j
  show _ = Int32.ofNat (if j = i + k then (inM acc x rb p i k j + x * rb k % p) % p else inM acc x rb p i k j)
  by_cases e : j = i + k
  · rw [if_pos e, if_pos e, e]
  · rw [if_neg e, if_neg e]
theorem e_m_multiplies {d : Nat} {T N : Nat → Nat} {I : IT} {L : LT} {R : RT} {m w nu dg : Nat} {a b c : Int32}{p : Nat} (T_m : T m = 13) (R_m_1 : R m 1 = some w) (T_w : T w = 20) (N_w : N w = 4007) (R_m_5 : R m 5 = some nu) (T_nu : T nu = 20) (N_nu : N nu = 1968) (R_m_4 : R m 4 = some dg) (T_dg : T dg = 20) (N_dg : N dg = 48) (I_w_0 : I w 0 = (Int32.ofNat p)) {r q t D E : Nat} {ra rb : Nat → Nat} (hp1 : 2 ≤ p) (hp2 : p ≤ 19) (ha : a = Int32.ofNat r) (hb : b = Int32.ofNat q) (hc : c = Int32.ofNat t) (hr : r < 48) (hq : q < 48) (ht : t < 48) (hrt : r ≠ t) (hqt : q ≠ t) (hD : I dg r = Int32.ofNat D) (hE : I dg q = Int32.ofNat E) (hDE : D + E ≤ 40) (hra : ∀ k, k ≤ D → I nu (41 * r + k) = Int32.ofNat (ra k)) (hrap : ∀ k, k ≤ D → ra k < p) (hrb : ∀ k, k ≤ E → I nu (41 * q + k) = Int32.ofNat (rb k)) (hrbp : ∀ k, k ≤ E → rb k < p) (hnd : nu ≠ dg) (hwn : w ≠ nu) (hwd : w ≠ dg) : Ex (d + 3) 205 [.ref m, .int a, .int b, .int c] (T, N, I, L, R) 0 0 (pV T N R (fun I9 L9 => I9 = (bk (u2 I dg t (Int32.ofNat (D + E))) nu (41 * t) (D + E + 1) (fun j => Int32.ofNat (outM ra rb p E (D + 1) j))) ∧ L9 = (L))) := by
  refine ⟨_, rfl, Nat.le_of_ble_eq_true rfl, fun V C S => ?_⟩
  show V 0 [(0, .ref m), (1, .int a), (2, .int b), (3, .int c)] [] (T, N, I, L, R) 0 0
  subst ha; subst hb; subst hc
  have loop : ∀ (s i : Nat), s = D + 1 - i → i ≤ D + 1 → V 21 [(4, .int (Int32.ofNat i)), (0, .ref m), (1, .int (Int32.ofNat r)), (2, .int (Int32.ofNat q)), (3, .int (Int32.ofNat t))] [] (T, N, (bk (u2 I dg t (Int32.ofNat (D + E))) nu (41 * t) (D + E + 1) (fun j => Int32.ofNat (outM ra rb p E i j))), L, R) 0 0 := by
    intro s
    induction s using Nat.strongRecOn with
    | _ s ih =>
      intro i hs hi
      refine k_iload C rfl rfl rfl ?_
      refine k_aload_n C rfl rfl rfl ?_
      refine g_R C rfl rfl rfl T_m rfl R_m_4 ?_
      refine k_iload_n C rfl rfl rfl ?_
      refine a_I C rfl rfl T_dg (vin (n := r) rfl (by rw [N_dg]; omega) (by rw [N_dg]; exact Nat.le_of_ble_eq_true rfl)) (hvx (n_nat (by omega)) ((bk_a (Ne.symm hnd)).trans ((u2_k hrt).trans hD))) ?_
      refine k_icmp_gt C (t := 100) rfl rfl rfl (fun c29 => ?_) (fun c29 => ?_)
      · skip
        have hi2 : i = D + 1 := by have := (n_lt (by omega) (by omega)).mp c29; omega
        subst hi2
        exact k_vret C rfl rfl (Nat.le_of_ble_eq_true rfl) (Nat.le_of_ble_eq_true rfl) ⟨_, _, rfl, rfl, rfl, rfl⟩
      have hi2 : i < D + 1 := Nat.lt_succ_of_le (Nat.le_of_not_lt (fun h => c29 ((n_lt (by omega) (by omega)).mpr h)))
      refine k_iconst C (x := 0) rfl rfl rfl ?_
      refine k_istore C (lw := [(5, .int _), (4, .int _), (0, _), (1, .int _), (2, .int _), (3, .int _)]) rfl rfl (Nat.le_of_ble_eq_true rfl) rfl ?_
      have inner : ∀ (s2 k : Nat), s2 = E + 1 - k → k ≤ E + 1 → V 35 [(5, .int (Int32.ofNat k)), (4, .int (Int32.ofNat i)), (0, .ref m), (1, .int (Int32.ofNat r)), (2, .int (Int32.ofNat q)), (3, .int (Int32.ofNat t))] [] (T, N, (bk (u2 I dg t (Int32.ofNat (D + E))) nu (41 * t) (D + E + 1) (fun j => Int32.ofNat (inM (outM ra rb p E i) (ra i) rb p i k j))), L, R) 0 0 := by
        intro s2
        induction s2 using Nat.strongRecOn with
        | _ s2 ih2 =>
          intro k hs2 hk
          refine k_iload C rfl rfl rfl ?_
          refine k_aload_n C rfl rfl rfl ?_
          refine g_R C rfl rfl rfl T_m rfl R_m_4 ?_
          refine k_iload_n C rfl rfl rfl ?_
          refine a_I C rfl rfl T_dg (vin (n := q) rfl (by rw [N_dg]; omega) (by rw [N_dg]; exact Nat.le_of_ble_eq_true rfl)) (hvx (n_nat (by omega)) ((bk_a (Ne.symm hnd)).trans ((u2_k hqt).trans hE))) ?_
          refine k_icmp_gt C (t := 94) rfl rfl rfl (fun c43 => ?_) (fun c43 => ?_)
          · skip
            have hk2 : k = E + 1 := by have := (n_lt (by omega) (by omega)).mp c43; omega
            subst hk2
            refine k_sub S [(4, .int (Int32.ofNat i)), (0, .ref m), (1, .int (Int32.ofNat r)), (2, .int (Int32.ofNat q)), (3, .int (Int32.ofNat t))] (List.forall_mem_cons.mpr ⟨List.mem_of_getElem? (i := 1) rfl, List.forall_mem_cons.mpr ⟨List.mem_of_getElem? (i := 2) rfl, List.forall_mem_cons.mpr ⟨List.mem_of_getElem? (i := 3) rfl, List.forall_mem_cons.mpr ⟨List.mem_of_getElem? (i := 4) rfl, List.forall_mem_cons.mpr ⟨List.mem_of_getElem? (i := 5) rfl, fun _ h => nomatch h⟩⟩⟩⟩⟩) ?_
            refine k_iinc C (lw := [(4, .int _), (0, _), (1, .int _), (2, .int _), (3, .int _)]) rfl rfl rfl (Nat.le_of_ble_eq_true rfl) rfl rfl ?_
            refine k_goto C (pc2 := 21) rfl rfl ?_
            show V 21 [(4, .int (Int32.ofNat i + 1)), _, _, _, _] [] _ 0 0
            rw [n_s]
            exact ih (D + 1 - (i + 1)) (by omega) (i + 1) rfl (by omega)
          have hk2 : k < E + 1 := Nat.lt_succ_of_le (Nat.le_of_not_lt (fun h => c43 ((n_lt (by omega) (by omega)).mpr h)))
          have b1 := hrap i (by omega)
          have b2 := hrbp k (by omega)
          have b3 := inM_lt (x := ra i) (rb := rb) (i := i) hp1 (outM_lt (ra := ra) (rb := rb) (E := E) hp1 i) k (i + k)
          have b4 : ra i * rb k % p < p := Nat.mod_lt _ (by omega)
          refine k_aload_n C rfl rfl rfl ?_
          refine k_iload_n C rfl rfl rfl ?_
          refine k_iload C rfl rfl rfl ?_
          refine k_iload C rfl rfl rfl ?_
          refine k_iadd C rfl rfl ?_
          refine k_aload_n C rfl rfl rfl ?_
          refine k_aload_n C rfl rfl rfl ?_
          refine k_iload_n C rfl rfl rfl ?_
          refine k_iload C rfl rfl rfl ?_
          refine k_iload C rfl rfl rfl ?_
          refine k_iadd C rfl rfl ?_
          rw [n_add]
          refine c_VI C (e_m_of T_m R_m_5 T_nu N_nu rfl rfl (by omega)) rfl rfl rfl rfl rfl ⟨_, rfl, rfl, T_m, Nat.le_of_ble_eq_true rfl⟩ rfl rfl (Nat.le_of_ble_eq_true rfl) (Nat.le_of_ble_eq_true rfl) (Nat.le_of_ble_eq_true rfl) ?_
          rintro _ _ _ ⟨hx7, hI8, hL9⟩
          have hx7 := hx7.symm; subst hx7
          have hI8 := hI8.symm; subst hI8; have hL9 := hL9.symm; subst hL9
          rw [bk_i (by omega)]
          refine k_aload_n C rfl rfl rfl ?_
          refine k_aload_n C rfl rfl rfl ?_
          refine k_iload_n C rfl rfl rfl ?_
          refine k_iload C rfl rfl rfl ?_
          refine c_VI C (e_m_of T_m R_m_5 T_nu N_nu rfl rfl (by omega)) rfl rfl rfl rfl rfl ⟨_, rfl, rfl, T_m, Nat.le_of_ble_eq_true rfl⟩ rfl rfl (Nat.le_of_ble_eq_true rfl) (Nat.le_of_ble_eq_true rfl) (Nat.le_of_ble_eq_true rfl) ?_
          rintro _ _ _ ⟨hx7, hI8, hL9⟩
          have hx7 := hx7.symm; subst hx7
          have hI8 := hI8.symm; subst hI8; have hL9 := hL9.symm; subst hL9
          rw [bk_o (by omega), u2_a hnd, hra i (by omega)]
          refine k_aload_n C rfl rfl rfl ?_
          refine k_iload_n C rfl rfl rfl ?_
          refine k_iload C rfl rfl rfl ?_
          refine c_VI C (e_m_of T_m R_m_5 T_nu N_nu rfl rfl (by omega)) rfl rfl rfl rfl rfl ⟨_, rfl, rfl, T_m, Nat.le_of_ble_eq_true rfl⟩ rfl rfl (Nat.le_of_ble_eq_true rfl) (Nat.le_of_ble_eq_true rfl) (Nat.le_of_ble_eq_true rfl) ?_
          rintro _ _ _ ⟨hx7, hI8, hL9⟩
          have hx7 := hx7.symm; subst hx7
          have hI8 := hI8.symm; subst hI8; have hL9 := hL9.symm; subst hL9
          rw [bk_o (by omega), u2_a hnd, hrb k (by omega)]
          refine c_VI C (e_m_timesN T_m R_m_1 T_w N_w (((bk_a hwn).trans ((u2_a hwd).trans I_w_0))) hp1 hp2 rfl rfl (by omega) (by omega)) rfl rfl rfl rfl rfl ⟨_, rfl, rfl, T_m, Nat.le_of_ble_eq_true rfl⟩ rfl rfl (Nat.le_of_ble_eq_true rfl) (Nat.le_of_ble_eq_true rfl) (Nat.le_of_ble_eq_true rfl) ?_
          rintro _ _ _ ⟨hx7, hI8, hL9⟩
          have hx7 := hx7.symm; subst hx7
          have hI8 := hI8.symm; subst hI8; have hL9 := hL9.symm; subst hL9
          refine c_VI C (e_m_plusN T_m R_m_1 T_w N_w (((bk_a hwn).trans ((u2_a hwd).trans I_w_0))) hp1 hp2 rfl rfl (by omega) (by omega)) rfl rfl rfl rfl rfl ⟨_, rfl, rfl, T_m, Nat.le_of_ble_eq_true rfl⟩ rfl rfl (Nat.le_of_ble_eq_true rfl) (Nat.le_of_ble_eq_true rfl) (Nat.le_of_ble_eq_true rfl) ?_
          rintro _ _ _ ⟨hx7, hI8, hL9⟩
          have hx7 := hx7.symm; subst hx7
          have hI8 := hI8.symm; subst hI8; have hL9 := hL9.symm; subst hL9
          refine c_VV C (e_m_put T_m R_m_5 T_nu N_nu rfl rfl (by omega)) rfl rfl rfl rfl rfl ⟨_, rfl, rfl, T_m, Nat.le_of_ble_eq_true rfl⟩ rfl rfl (Nat.le_of_ble_eq_true rfl) (Nat.le_of_ble_eq_true rfl) (Nat.le_of_ble_eq_true rfl) ?_
          rintro _ _ ⟨hI8, hL9⟩
          have hI8 := hI8.symm; subst hI8; have hL9 := hL9.symm; subst hL9
          rw [bk_u (by omega), inM_s]
          refine k_iinc C (lw := [(5, .int _), (4, .int _), (0, _), (1, .int _), (2, .int _), (3, .int _)]) rfl rfl rfl (Nat.le_of_ble_eq_true rfl) rfl rfl ?_
          refine k_goto C (pc2 := 35) rfl rfl ?_
          show V 35 [(5, .int (Int32.ofNat k + 1)), _, _, _, _, _] [] _ 0 0
          rw [n_s]
          exact ih2 (E + 1 - (k + 1)) (by omega) (k + 1) rfl (by omega)
      exact inner (E + 1) 0 rfl (Nat.zero_le _)
  refine k_aload_n C rfl rfl rfl ?_
  refine k_iload_n C rfl rfl rfl ?_
  refine k_aload_n C rfl rfl rfl ?_
  refine g_R C rfl rfl rfl T_m rfl R_m_4 ?_
  refine k_iload_n C rfl rfl rfl ?_
  refine a_I C rfl rfl T_dg (vin (n := r) rfl (by rw [N_dg]; omega) (by rw [N_dg]; exact Nat.le_of_ble_eq_true rfl)) (hvx (n_nat (by omega)) hD) ?_
  refine k_aload_n C rfl rfl rfl ?_
  refine g_R C rfl rfl rfl T_m rfl R_m_4 ?_
  refine k_iload_n C rfl rfl rfl ?_
  refine a_I C rfl rfl T_dg (vin (n := q) rfl (by rw [N_dg]; omega) (by rw [N_dg]; exact Nat.le_of_ble_eq_true rfl)) (hvx (n_nat (by omega)) hE) ?_
  refine k_iadd C rfl rfl ?_
  rw [n_add]
  refine c_VV C (e_m_clears T_m R_m_5 T_nu N_nu R_m_4 T_dg N_dg rfl rfl ht hDE) rfl rfl rfl rfl rfl ⟨_, rfl, rfl, T_m, Nat.le_of_ble_eq_true rfl⟩ rfl rfl (Nat.le_of_ble_eq_true rfl) (Nat.le_of_ble_eq_true rfl) (Nat.le_of_ble_eq_true rfl) ?_
  rintro _ _ ⟨hI8, hL9⟩
  have hI8 := hI8.symm; subst hI8; have hL9 := hL9.symm; subst hL9
  refine k_iconst C (x := 0) rfl rfl rfl ?_
  refine k_istore C (lw := [(4, .int _), (0, _), (1, .int _), (2, .int _), (3, .int _)]) rfl rfl (Nat.le_of_ble_eq_true rfl) rfl ?_
  exact loop (D + 1) 0 rfl (Nat.zero_le _)

