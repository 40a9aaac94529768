/-! the rows of the reference, any state: alike, value -/
def lz (I : IT) (nu r t n : Nat) : Int32 := if ∀ k, k < n → I nu (41 * r + k) = I nu (41 * t + k) then 1 else 0
theorem lz_0 {I : IT} {nu r t n k : Nat} (h : lz I nu r t n = 0) (hk : n ≤ k) : lz I nu r t k = 0 := by
  unfold lz at *
  by_cases q : ∀ k, k < n → I nu (41 * r + k) = I nu (41 * t + k)
  · rw [if_pos q] at h; exact absurd h (by decide)
  · exact if_neg (fun z => q (fun j hj => z j (by omega)))
theorem lz_b {I : IT} {nu r t n : Nat} (h : ¬ I nu (41 * r + n) = I nu (41 * t + n)) : lz I nu r t (n + 1) = 0 := if_neg (fun z => h (z n (by omega)))
theorem lz_c {I : IT} {nu r t n : Nat} (h : ¬ lz I nu r t n = 0) (h2 : I nu (41 * r + n) = I nu (41 * t + n)) : lz I nu r t (n + 1) = 1 := by
  unfold lz at *
  by_cases q : ∀ k, k < n → I nu (41 * r + k) = I nu (41 * t + k)
  · refine if_pos (fun k hk => ?_)
    by_cases e : k = n
    · rw [e]; exact h2
    · exact q k (by omega)
  · exact absurd (if_neg q) h
theorem lz_01 {I : IT} {nu r t n : Nat} {z : Int32} (h : z = lz I nu r t n) : z = 0 ∨ z = 1 := by
  rw [h]; unfold lz; by_cases q : ∀ k, k < n → I nu (41 * r + k) = I nu (41 * t + k)
  · exact Or.inr (if_pos q)
  · exact Or.inl (if_neg q)
def lkM (I : IT) (nu r t D E : Nat) : Int32 := if D = E then lz I nu r t (D + 1) else 0
theorem e_m_isLike {d : Nat} {T N : Nat → Nat} {I : IT} {L : LT} {R : RT} {m nu dg : Nat} {a b : Int32} (T_m : T m = 13) (R_m_5 : R m 5 = some nu) (T_nu : T nu = 20) (N_nu : N nu = 1968) (R_m_4 : R m 4 = some dg) (T_dg : T dg = 20) (N_dg : N dg = 48) {r t D E : Nat} (ha : a = Int32.ofNat r) (hb : b = Int32.ofNat t) (hr : r < 48) (ht : t < 48) (hD : I dg r = Int32.ofNat D) (hD8 : D ≤ 40) (hE : I dg t = Int32.ofNat E) (hE8 : E ≤ 40) : Ex (d + 2) 204 [.ref m, .int a, .int b] (T, N, I, L, R) 0 0 (pI T N R (fun x9 I9 L9 => x9 = (lkM I nu r t D E) ∧ I9 = I ∧ L9 = L)) := by
  refine ⟨_, rfl, Nat.le_of_ble_eq_true rfl, fun V C S => ?_⟩
  show V 0 [(0, .ref m), (1, .int a), (2, .int b)] [] (T, N, I, L, R) 0 0
  subst ha; subst hb
  have loop : D = E → ∀ (s i : Nat) (z : Int32), s = D + 1 - i → i ≤ D + 1 → z = lz I nu r t i → V 24 [(4, .int (Int32.ofNat i)), (3, .int z), (0, .ref m), (1, .int (Int32.ofNat r)), (2, .int (Int32.ofNat t))] [] (T, N, I, L, R) 0 0 := by
    intro hDE s
    induction s using Nat.strongRecOn with
    | _ s ih =>
      intro i z hs hi hz
      refine k_iload_n C rfl rfl rfl ?_
      refine k_if_eq C (t := 68) rfl rfl rfl (fun c25 => ?_) (fun c25 => ?_)
      · skip
        refine k_iload_n C rfl rfl rfl ?_
        exact k_iret C rfl (Or.inr ⟨rfl, lz_01 hz⟩) (Nat.le_of_ble_eq_true rfl) (Nat.le_of_ble_eq_true rfl) ⟨_, _, _, rfl, rfl, by rw [lkM, if_pos hDE, c25]; exact (lz_0 (hz ▸ c25) hi).symm, rfl, rfl⟩
      refine k_iload C rfl rfl rfl ?_
      refine k_aload_n C rfl rfl rfl ?_
      refine g_R C rfl rfl rfl T_m rfl R_m_4 ?_
      refine k_iload_n C rfl rfl rfl ?_
      refine a_I C rfl rfl T_dg (vin (n := r) rfl (by rw [N_dg]; omega) (by rw [N_dg]; exact Nat.le_of_ble_eq_true rfl)) (hvx (n_nat (by omega)) (hD)) ?_
      refine k_icmp_gt C (t := 68) rfl rfl rfl (fun c36 => ?_) (fun c36 => ?_)
      · skip
        have hi2 : i = D + 1 := by have := (n_lt (by omega) (by omega)).mp c36; omega
        subst hi2
        refine k_iload_n C rfl rfl rfl ?_
        exact k_iret C rfl (Or.inr ⟨rfl, lz_01 hz⟩) (Nat.le_of_ble_eq_true rfl) (Nat.le_of_ble_eq_true rfl) ⟨_, _, _, rfl, rfl, by rw [lkM, if_pos hDE]; exact hz, rfl, rfl⟩
      have hi2 : i < D + 1 := Nat.lt_succ_of_le (Nat.le_of_not_lt (fun h => c36 ((n_lt (by omega) (by omega)).mpr h)))
      refine k_aload_n C rfl rfl rfl ?_
      refine k_iload_n C rfl rfl rfl ?_
      refine k_iload C rfl rfl rfl ?_
      refine c_VI C (e_m_of T_m R_m_5 T_nu N_nu rfl rfl (by omega)) rfl rfl rfl rfl rfl ⟨_, rfl, rfl, T_m, Nat.le_of_ble_eq_true rfl⟩ rfl rfl (Nat.le_of_ble_eq_true rfl) (Nat.le_of_ble_eq_true rfl) (Nat.le_of_ble_eq_true rfl) ?_
      rintro _ _ _ ⟨hx7, hI8, hL9⟩
      have hx7 := hx7.symm; subst hx7
      have hI8 := hI8.symm; subst hI8; have hL9 := hL9.symm; subst hL9
      refine k_aload_n C rfl rfl rfl ?_
      refine k_iload_n C rfl rfl rfl ?_
      refine k_iload C rfl rfl rfl ?_
      refine c_VI C (e_m_of T_m R_m_5 T_nu N_nu rfl rfl (by omega)) rfl rfl rfl rfl rfl ⟨_, rfl, rfl, T_m, Nat.le_of_ble_eq_true rfl⟩ rfl rfl (Nat.le_of_ble_eq_true rfl) (Nat.le_of_ble_eq_true rfl) (Nat.le_of_ble_eq_true rfl) ?_
      rintro _ _ _ ⟨hx7, hI8, hL9⟩
      have hx7 := hx7.symm; subst hx7
      have hI8 := hI8.symm; subst hI8; have hL9 := hL9.symm; subst hL9
      refine k_icmp_ne C (t := 60) rfl rfl rfl (fun c53 => ?_) (fun c53 => ?_)
      · skip
        refine k_iconst C (x := 0) rfl rfl rfl ?_
        refine k_istore_n C (lw := [(3, .int _), (4, .int _), (0, _), (1, .int _), (2, .int _)]) rfl rfl (Nat.le_of_ble_eq_true rfl) rfl ?_
        refine k_sub S [(4, .int (Int32.ofNat i)), (3, .int 0), (0, .ref m), (1, .int (Int32.ofNat r)), (2, .int (Int32.ofNat t))] (List.forall_mem_cons.mpr ⟨List.mem_of_getElem? (i := 1) rfl, List.forall_mem_cons.mpr ⟨List.mem_of_getElem? (i := 0) rfl, List.forall_mem_cons.mpr ⟨List.mem_of_getElem? (i := 2) rfl, List.forall_mem_cons.mpr ⟨List.mem_of_getElem? (i := 3) rfl, List.forall_mem_cons.mpr ⟨List.mem_of_getElem? (i := 4) rfl, fun _ h => nomatch h⟩⟩⟩⟩⟩) ?_
        refine k_iinc C (lw := [(4, .int _), (3, .int _), (0, _), (1, .int _), (2, .int _)]) rfl rfl rfl (Nat.le_of_ble_eq_true rfl) rfl rfl ?_
        refine k_goto C (pc2 := 24) rfl rfl ?_
        show V 24 [(4, .int (Int32.ofNat i + 1)), _, _, _, _] [] _ 0 0
        rw [n_s]
        exact ih (D + 1 - (i + 1)) (by omega) (i + 1) 0 rfl (by omega) (lz_b c53).symm
      refine k_iconst C (x := 1) rfl rfl rfl ?_
      refine k_goto C (pc2 := 61) rfl rfl ?_
      refine k_istore_n C (lw := [(3, .int _), (4, .int _), (0, _), (1, .int _), (2, .int _)]) rfl rfl (Nat.le_of_ble_eq_true rfl) rfl ?_
      refine k_sub S [(4, .int (Int32.ofNat i)), (3, .int 1), (0, .ref m), (1, .int (Int32.ofNat r)), (2, .int (Int32.ofNat t))] (List.forall_mem_cons.mpr ⟨List.mem_of_getElem? (i := 1) rfl, List.forall_mem_cons.mpr ⟨List.mem_of_getElem? (i := 0) rfl, List.forall_mem_cons.mpr ⟨List.mem_of_getElem? (i := 2) rfl, List.forall_mem_cons.mpr ⟨List.mem_of_getElem? (i := 3) rfl, List.forall_mem_cons.mpr ⟨List.mem_of_getElem? (i := 4) rfl, fun _ h => nomatch h⟩⟩⟩⟩⟩) ?_
      refine k_iinc C (lw := [(4, .int _), (3, .int _), (0, _), (1, .int _), (2, .int _)]) rfl rfl rfl (Nat.le_of_ble_eq_true rfl) rfl rfl ?_
      refine k_goto C (pc2 := 24) rfl rfl ?_
      show V 24 [(4, .int (Int32.ofNat i + 1)), _, _, _, _] [] _ 0 0
      rw [n_s]
      exact ih (D + 1 - (i + 1)) (by omega) (i + 1) 1 rfl (by omega) (lz_c (hz ▸ c25) (Decidable.not_not.mp c53)).symm
  refine k_aload_n C rfl rfl rfl ?_
  refine g_R C rfl rfl rfl T_m rfl R_m_4 ?_
  refine k_iload_n C rfl rfl rfl ?_
  refine a_I C rfl rfl T_dg (vin (n := r) rfl (by rw [N_dg]; omega) (by rw [N_dg]; exact Nat.le_of_ble_eq_true rfl)) (hvx (n_nat (by omega)) (hD)) ?_
  refine k_aload_n C rfl rfl rfl ?_
  refine g_R C rfl rfl rfl T_m rfl R_m_4 ?_
  refine k_iload_n C rfl rfl rfl ?_
  refine a_I C rfl rfl T_dg (vin (n := t) rfl (by rw [N_dg]; omega) (by rw [N_dg]; exact Nat.le_of_ble_eq_true rfl)) (hvx (n_nat (by omega)) (hE)) ?_
  refine k_icmp_ne C (t := 19) rfl rfl rfl (fun c12 => ?_) (fun c12 => ?_)
  · skip
    have hne : ¬ D = E := fun e => c12 (by rw [e])
    refine k_iconst C (x := 0) rfl rfl rfl ?_
    refine k_istore_n C (lw := [(3, .int _), (0, _), (1, .int _), (2, .int _)]) rfl rfl (Nat.le_of_ble_eq_true rfl) rfl ?_
    refine k_iconst C (x := 0) rfl rfl rfl ?_
    refine k_istore C (lw := [(4, .int _), (3, .int _), (0, _), (1, .int _), (2, .int _)]) rfl rfl (Nat.le_of_ble_eq_true rfl) rfl ?_
    refine k_iload_n C rfl rfl rfl ?_
    refine k_if_eq C (t := 68) rfl rfl rfl (fun _ => ?_) (fun c25 => absurd rfl c25)
    refine k_iload_n C rfl rfl rfl ?_
    exact k_iret C rfl (Or.inr ⟨rfl, Or.inl rfl⟩) (Nat.le_of_ble_eq_true rfl) (Nat.le_of_ble_eq_true rfl) ⟨_, _, _, rfl, rfl, by rw [lkM, if_neg hne], rfl, rfl⟩
  have hDE : D = E := by
    have e := congrArg Int32.toInt (Decidable.not_not.mp c12)
    rw [n_int (by omega), n_int (by omega)] at e; omega
  refine k_iconst C (x := 1) rfl rfl rfl ?_
  refine k_goto C (pc2 := 20) rfl rfl ?_
  refine k_istore_n C (lw := [(3, .int _), (0, _), (1, .int _), (2, .int _)]) rfl rfl (Nat.le_of_ble_eq_true rfl) rfl ?_
  refine k_iconst C (x := 0) rfl rfl rfl ?_
  refine k_istore C (lw := [(4, .int _), (3, .int _), (0, _), (1, .int _), (2, .int _)]) rfl rfl (Nat.le_of_ble_eq_true rfl) rfl ?_
  refine k_sub S [(4, .int (Int32.ofNat 0)), (3, .int 1), (0, .ref m), (1, .int (Int32.ofNat r)), (2, .int (Int32.ofNat t))] (List.forall_mem_cons.mpr ⟨List.mem_of_getElem? (i := 0) rfl, List.forall_mem_cons.mpr ⟨List.mem_of_getElem? (i := 1) rfl, List.forall_mem_cons.mpr ⟨List.mem_of_getElem? (i := 2) rfl, List.forall_mem_cons.mpr ⟨List.mem_of_getElem? (i := 3) rfl, List.forall_mem_cons.mpr ⟨List.mem_of_getElem? (i := 4) rfl, fun _ h => nomatch h⟩⟩⟩⟩⟩) ?_
  exact loop hDE (D + 1) 0 1 rfl (Nat.zero_le _) (if_pos (fun k hk => absurd hk (Nat.not_lt_zero k))).symm

def valM (ra : Nat → Nat) (x y p D : Nat) : Nat → Nat
  | 0 => 0
  | k + 1 => (valM ra x y p D k + ra k * (pwM x p (D - k) * pwM y p k % p) % p) % p
theorem valM_lt {ra : Nat → Nat} {x y p D : Nat} (hp : 2 ≤ p) : ∀ k, valM ra x y p D k < p
  | 0 => by show 0 < p; omega
  | k + 1 => Nat.mod_lt _ (by omega)
theorem e_m_valueAt {d : Nat} {T N : Nat → Nat} {I : IT} {L : LT} {R : RT} {m w nu dg : Nat} {a b c : Int32}{p : Nat} (T_m : T m = 13) (R_m_1 : R m 1 = some w) (T_w : T w = 20) (N_w : N w = 4007) (R_m_5 : R m 5 = some nu) (T_nu : T nu = 20) (N_nu : N nu = 1968) (R_m_4 : R m 4 = some dg) (T_dg : T dg = 20) (N_dg : N dg = 48) (I_w_0 : I w 0 = (Int32.ofNat p)) {r D x y : Nat} {ra : Nat → Nat} (hp1 : 2 ≤ p) (hp2 : p ≤ 19) (ha : a = Int32.ofNat r) (hb : b = Int32.ofNat x) (hc : c = Int32.ofNat y) (hr : r < 48) (hx : x < 32768) (hy : y < 32768) (hD : I dg r = Int32.ofNat D) (hD8 : D ≤ 40) (hra : ∀ k, k ≤ D → I nu (41 * r + k) = Int32.ofNat (ra k)) (hrb : ∀ k, k ≤ D → ra k < p) : Ex (d + 4) 215 [.ref m, .int a, .int b, .int c] (T, N, I, L, R) 0 0 (pI T N R (fun x9 I9 L9 => x9 = (Int32.ofNat (valM ra x y p D (D + 1))) ∧ I9 = I ∧ L9 = L)) := by
  refine ⟨_, rfl, Nat.le_of_ble_eq_true rfl, fun V C S => ?_⟩
  show V 0 [(0, .ref m), (1, .int a), (2, .int b), (3, .int c)] [] (T, N, I, L, R) 0 0
  subst ha; subst hb; subst hc
  have loop : ∀ (s i : Nat), s = D + 1 - i → i ≤ D + 1 → V 6 [(5, .int (Int32.ofNat i)), (4, .int (Int32.ofNat (valM ra x y p D i))), (0, .ref m), (1, .int (Int32.ofNat r)), (2, .int (Int32.ofNat x)), (3, .int (Int32.ofNat y))] [] (T, N, I, L, R) 0 0 := by
    intro s
    induction s using Nat.strongRecOn with
    | _ s ih =>
      intro i hs hi
      refine k_iload C rfl rfl rfl ?_
      refine k_aload_n C rfl rfl rfl ?_
      refine g_R C rfl rfl rfl T_m rfl R_m_4 ?_
      refine k_iload_n C rfl rfl rfl ?_
      refine a_I C rfl rfl T_dg (vin (n := r) rfl (by rw [N_dg]; omega) (by rw [N_dg]; exact Nat.le_of_ble_eq_true rfl)) (hvx (n_nat (by omega)) (hD)) ?_
      refine k_icmp_gt C (t := 67) rfl rfl rfl (fun c14 => ?_) (fun c14 => ?_)
      · skip
        have hi2 : i = D + 1 := by have := (n_lt (by omega) (by omega)).mp c14; omega
        subst hi2
        refine k_iload C rfl rfl rfl ?_
        exact k_iret C rfl (Or.inl rfl) (Nat.le_of_ble_eq_true rfl) (Nat.le_of_ble_eq_true rfl) ⟨_, _, _, rfl, rfl, rfl, rfl, rfl⟩
      have hi2 : i < D + 1 := Nat.lt_succ_of_le (Nat.le_of_not_lt (fun h => c14 ((n_lt (by omega) (by omega)).mpr h)))
      have b1 := pwM_lt (a := x) hp1 (D - i)
      have b2 := pwM_lt (a := y) hp1 i
      have b3 := hrb i (by omega)
      have b4 := valM_lt (ra := ra) (x := x) (y := y) (D := D) hp1 i
      have b5 : pwM x p (D - i) * pwM y p i % p < p := Nat.mod_lt _ (by omega)
      have b6 : ra i * (pwM x p (D - i) * pwM y p i % p) % p < p := Nat.mod_lt _ (by omega)
      refine k_aload_n C rfl rfl rfl ?_
      refine k_iload C rfl rfl rfl ?_
      refine k_aload_n C rfl rfl rfl ?_
      refine k_aload_n C rfl rfl rfl ?_
      refine k_iload_n C rfl rfl rfl ?_
      refine k_iload C rfl rfl rfl ?_
      refine c_VI C (e_m_of T_m R_m_5 T_nu N_nu rfl rfl (by omega)) rfl rfl rfl rfl rfl ⟨_, rfl, rfl, T_m, Nat.le_of_ble_eq_true rfl⟩ rfl rfl (Nat.le_of_ble_eq_true rfl) (Nat.le_of_ble_eq_true rfl) (Nat.le_of_ble_eq_true rfl) ?_
      rintro _ _ _ ⟨hx7, hI8, hL9⟩
      have hx7 := hx7.symm; subst hx7
      have hI8 := hI8.symm; subst hI8; have hL9 := hL9.symm; subst hL9
      rw [hra i (by omega)]
      refine k_aload_n C rfl rfl rfl ?_
      refine k_aload_n C rfl rfl rfl ?_
      refine k_iload_n C rfl rfl rfl ?_
      refine k_aload_n C rfl rfl rfl ?_
      refine g_R C rfl rfl rfl T_m rfl R_m_4 ?_
      refine k_iload_n C rfl rfl rfl ?_
      refine a_I C rfl rfl T_dg (vin (n := r) rfl (by rw [N_dg]; omega) (by rw [N_dg]; exact Nat.le_of_ble_eq_true rfl)) (hvx (n_nat (by omega)) (hD)) ?_
      refine k_iload C rfl rfl rfl ?_
      refine k_isub C rfl rfl ?_
      rw [n_sub (by omega)]
      refine c_VI C (e_m_powerN T_m R_m_1 T_w N_w (I_w_0) hp1 hp2 rfl rfl hx (by omega)) rfl rfl rfl rfl rfl ⟨_, rfl, rfl, T_m, Nat.le_of_ble_eq_true rfl⟩ rfl rfl (Nat.le_of_ble_eq_true rfl) (Nat.le_of_ble_eq_true rfl) (Nat.le_of_ble_eq_true rfl) ?_
      rintro _ _ _ ⟨hx7, hI8, hL9⟩
      have hx7 := hx7.symm; subst hx7
      have hI8 := hI8.symm; subst hI8; have hL9 := hL9.symm; subst hL9
      refine k_aload_n C rfl rfl rfl ?_
      refine k_iload_n C rfl rfl rfl ?_
      refine k_iload C rfl rfl rfl ?_
      refine c_VI C (e_m_powerN T_m R_m_1 T_w N_w (I_w_0) hp1 hp2 rfl rfl hy (by omega)) rfl rfl rfl rfl rfl ⟨_, rfl, rfl, T_m, Nat.le_of_ble_eq_true rfl⟩ rfl rfl (Nat.le_of_ble_eq_true rfl) (Nat.le_of_ble_eq_true rfl) (Nat.le_of_ble_eq_true rfl) ?_
      rintro _ _ _ ⟨hx7, hI8, hL9⟩
      have hx7 := hx7.symm; subst hx7
      have hI8 := hI8.symm; subst hI8; have hL9 := hL9.symm; subst hL9
      refine c_VI C (e_m_timesN T_m R_m_1 T_w N_w (I_w_0) hp1 hp2 rfl rfl (by omega) (by omega)) rfl rfl rfl rfl rfl ⟨_, rfl, rfl, T_m, Nat.le_of_ble_eq_true rfl⟩ rfl rfl (Nat.le_of_ble_eq_true rfl) (Nat.le_of_ble_eq_true rfl) (Nat.le_of_ble_eq_true rfl) ?_
      rintro _ _ _ ⟨hx7, hI8, hL9⟩
      have hx7 := hx7.symm; subst hx7
      have hI8 := hI8.symm; subst hI8; have hL9 := hL9.symm; subst hL9
      refine c_VI C (e_m_timesN T_m R_m_1 T_w N_w (I_w_0) hp1 hp2 rfl rfl (by omega) (by omega)) rfl rfl rfl rfl rfl ⟨_, rfl, rfl, T_m, Nat.le_of_ble_eq_true rfl⟩ rfl rfl (Nat.le_of_ble_eq_true rfl) (Nat.le_of_ble_eq_true rfl) (Nat.le_of_ble_eq_true rfl) ?_
      rintro _ _ _ ⟨hx7, hI8, hL9⟩
      have hx7 := hx7.symm; subst hx7
      have hI8 := hI8.symm; subst hI8; have hL9 := hL9.symm; subst hL9
      refine c_VI C (e_m_plusN T_m R_m_1 T_w N_w (I_w_0) hp1 hp2 rfl rfl (by omega) (by omega)) rfl rfl rfl rfl rfl ⟨_, rfl, rfl, T_m, Nat.le_of_ble_eq_true rfl⟩ rfl rfl (Nat.le_of_ble_eq_true rfl) (Nat.le_of_ble_eq_true rfl) (Nat.le_of_ble_eq_true rfl) ?_
      rintro _ _ _ ⟨hx7, hI8, hL9⟩
      have hx7 := hx7.symm; subst hx7
      have hI8 := hI8.symm; subst hI8; have hL9 := hL9.symm; subst hL9
      refine k_istore C (lw := [(4, .int _), (5, .int _), (0, _), (1, .int _), (2, .int _), (3, .int _)]) rfl rfl (Nat.le_of_ble_eq_true rfl) rfl ?_
      refine k_sub S [(5, .int (Int32.ofNat i)), (4, .int (Int32.ofNat (valM ra x y p D (i + 1)))), (0, .ref m), (1, .int (Int32.ofNat r)), (2, .int (Int32.ofNat x)), (3, .int (Int32.ofNat y))] (List.forall_mem_cons.mpr ⟨List.mem_of_getElem? (i := 1) rfl, List.forall_mem_cons.mpr ⟨List.mem_of_getElem? (i := 0) rfl, List.forall_mem_cons.mpr ⟨List.mem_of_getElem? (i := 2) rfl, List.forall_mem_cons.mpr ⟨List.mem_of_getElem? (i := 3) rfl, List.forall_mem_cons.mpr ⟨List.mem_of_getElem? (i := 4) rfl, List.forall_mem_cons.mpr ⟨List.mem_of_getElem? (i := 5) rfl, fun _ h => nomatch h⟩⟩⟩⟩⟩⟩) ?_
      refine k_iinc C (lw := [(5, .int _), (4, .int _), (0, _), (1, .int _), (2, .int _), (3, .int _)]) rfl rfl rfl (Nat.le_of_ble_eq_true rfl) rfl rfl ?_
      refine k_goto C (pc2 := 6) rfl rfl ?_
      show V 6 [(5, .int (Int32.ofNat i + 1)), _, _, _, _, _] [] _ 0 0
      rw [n_s]
      exact ih (D + 1 - (i + 1)) (by omega) (i + 1) rfl (by omega)
  refine k_iconst C (x := 0) rfl rfl rfl ?_
  refine k_istore C (lw := [(4, .int _), (0, _), (1, .int _), (2, .int _), (3, .int _)]) rfl rfl (Nat.le_of_ble_eq_true rfl) rfl ?_
  refine k_iconst C (x := 0) rfl rfl rfl ?_
  refine k_istore C (lw := [(5, .int _), (4, .int _), (0, _), (1, .int _), (2, .int _), (3, .int _)]) rfl rfl (Nat.le_of_ble_eq_true rfl) rfl ?_
  exact loop (D + 1) 0 rfl (Nat.zero_le _)

