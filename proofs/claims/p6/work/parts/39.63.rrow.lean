/-! the rows of the reference, any state: widened by a line -/
def g0M (g : Nat → Nat) (D j : Nat) : Nat := if j = D + 1 then 0 else g j
def widM (g : Nat → Nat) (D u v p j : Nat) : Nat := (g0M g D j * u % p + (if 0 < j then g0M g D (j - 1) * v % p else 0)) % p
def hlfM (g : Nat → Nat) (D u v p n j : Nat) : Nat := if j < n then g0M g D j else widM g D u v p j
theorem g0M_lt {g : Nat → Nat} {D p j : Nat} (hp : 2 ≤ p) (hg : ∀ k, k ≤ D → g k < p) (hj : j ≤ D + 1) : g0M g D j < p := by
  unfold g0M; by_cases e : j = D + 1
  · rw [if_pos e]; omega
  · rw [if_neg e]; exact hg j (by omega)
theorem hlf_s {g : Nat → Nat} {D u v p n : Nat} : (fun j => if j = n then Int32.ofNat (widM g D u v p n) else Int32.ofNat (hlfM g D u v p (n + 1) j)) = fun j => Int32.ofNat (hlfM g D u v p n j) := by
  funext j; unfold hlfM
  by_cases e : j = n
  · rw [if_pos e, if_neg (by omega), e]
  · rw [if_neg e]
    by_cases q : j < n
    · rw [if_pos q, if_pos (by omega)]
    · rw [if_neg q, if_neg (by omega)]
theorem n_p {k : Nat} (h : 1 ≤ k) : Int32.ofNat k - 1 = Int32.ofNat (k - 1) := n_sub (n := k) (m := 1) h
theorem n_mi {x : Int32} : x + (-1) = x - 1 := by grind
theorem n_pp {k : Nat} : Int32.ofNat (k + 1) - 1 = Int32.ofNat k := n_p (by omega)
theorem wid_0 {I : IT} {nu dg r D u v p : Nat} {g : Nat → Nat} (hnd : nu ≠ dg) (hg : ∀ k, k ≤ D → I nu (41 * r + k) = Int32.ofNat (g k)) : u2 (u2 I nu (41 * r + (D + 1)) 0) dg r (Int32.ofNat (D + 1)) = bk (u2 I dg r (Int32.ofNat (D + 1))) nu (41 * r) (D + 2) (fun j => Int32.ofNat (hlfM g D u v p (D + 2) j)) := by
  funext b j
  by_cases e1 : b = nu
  · subst e1
    rw [u2_a hnd]
    by_cases q : 41 * r ≤ j ∧ j < 41 * r + (D + 2)
    · obtain ⟨k, rfl⟩ : ∃ k, j = 41 * r + k := ⟨j - 41 * r, by omega⟩
      rw [bk_i (by omega)]
      unfold hlfM g0M
      rw [if_pos (show k < D + 2 by omega)]
      by_cases e : k = D + 1
      · subst e; rw [if_pos rfl, u2_s]; rfl
      · rw [if_neg e, u2_k (by omega)]; exact hg k (by omega)
    · rw [bk_o q, u2_a hnd, u2_k (by omega)]
  · rw [bk_a e1]
    by_cases e2 : b = dg ∧ j = r
    · obtain ⟨rfl, rfl⟩ := e2; rw [u2_s, u2_s]
    · have h1 : ∀ (J : IT), u2 J dg r (Int32.ofNat (D + 1)) b j = J b j := fun J => if_neg e2
      rw [h1, h1, u2_a e1]
theorem e_m_widens {d : Nat} {T N : Nat → Nat} {I : IT} {L : LT} {R : RT} {m w nu dg : Nat} {a b c : Int32}{p : Nat} (T_m : T m = 13) (R_m_1 : R m 1 = some w) (T_w : T w = 20) (N_w : N w = 4007) (R_m_5 : R m 5 = some nu) (T_nu : T nu = 20) (N_nu : N nu = 1968) (R_m_4 : R m 4 = some dg) (T_dg : T dg = 20) (N_dg : N dg = 48) (I_w_0 : I w 0 = (Int32.ofNat p)) {r D u v : Nat} {g : Nat → Nat} (hp1 : 2 ≤ p) (hp2 : p ≤ 19) (ha : a = Int32.ofNat r) (hb : b = Int32.ofNat u) (hc : c = Int32.ofNat v) (hr : r < 48) (hu : u < p) (hv : v < p) (hD : I dg r = Int32.ofNat D) (hD8 : D ≤ 39) (hg : ∀ k, k ≤ D → I nu (41 * r + k) = Int32.ofNat (g k)) (hgp : ∀ k, k ≤ D → g k < p) (hnd : nu ≠ dg) (hwn : w ≠ nu) (hwd : w ≠ dg) : Ex (d + 3) 213 [.ref m, .int a, .int b, .int c] (T, N, I, L, R) 0 0 (pV T N R (fun I9 L9 => I9 = (bk (u2 I dg r (Int32.ofNat (D + 1))) nu (41 * r) (D + 2) (fun j => Int32.ofNat (widM g D u v p j))) ∧ L9 = (L))) := by
  refine ⟨_, rfl, Nat.le_of_ble_eq_true rfl, fun V C S => ?_⟩
  show V 0 [(0, .ref m), (1, .int a), (2, .int b), (3, .int c)] [] (T, N, I, L, R) 0 0
  subst ha; subst hb; subst hc
  have loop : ∀ (n : Nat), n ≤ D + 2 → V 32 [(4, .int (Int32.ofNat n - 1)), (0, .ref m), (1, .int (Int32.ofNat r)), (2, .int (Int32.ofNat u)), (3, .int (Int32.ofNat v))] [] (T, N, (bk (u2 I dg r (Int32.ofNat (D + 1))) nu (41 * r) (D + 2) (fun j => Int32.ofNat (hlfM g D u v p n j))), L, R) 0 0 := by
    intro n
    induction n with
    | zero =>
      intro _
      refine k_iload C rfl rfl rfl ?_
      refine k_if_lt C (t := 89) rfl rfl rfl (fun _ => ?_) (fun c => absurd (by decide) c)
      exact k_vret C rfl rfl (Nat.le_of_ble_eq_true rfl) (Nat.le_of_ble_eq_true rfl) ⟨_, _, rfl, rfl, rfl, rfl⟩
    | succ k ih0 =>
      intro hk
      have ih := ih0 (by omega)
      rw [n_pp]
      have q1 := g0M_lt (j := k) hp1 hgp (by omega)
      have q2 := g0M_lt (j := k - 1) hp1 hgp (by omega)
      have q3 : g0M g D k * u % p < p := Nat.mod_lt _ (by omega)
      have q4 : g0M g D (k - 1) * v % p < p := Nat.mod_lt _ (by omega)
      by_cases hk0 : k = 0
      · skip
        refine k_iload C rfl rfl rfl ?_
        refine k_if_lt C (t := 89) rfl rfl rfl (fun c34 => ?_) (fun c34 => ?_)
        · skip
          exact absurd c34 (by rw [show (0 : Int32) = Int32.ofNat 0 from rfl, n_lt (by omega) (by omega)]; omega)
        refine k_aload_n C rfl rfl rfl ?_
        refine k_iload_n C rfl rfl rfl ?_
        refine k_iload C rfl rfl rfl ?_
        refine k_aload_n C rfl rfl rfl ?_
        refine k_aload_n C rfl rfl rfl ?_
        refine k_aload_n C rfl rfl rfl ?_
        refine k_iload_n C rfl rfl rfl ?_
        refine k_iload C rfl rfl rfl ?_
        refine c_VI C (e_m_of T_m R_m_5 T_nu N_nu rfl rfl (by omega)) rfl rfl rfl rfl rfl ⟨_, rfl, rfl, T_m, Nat.le_of_ble_eq_true rfl⟩ rfl rfl (Nat.le_of_ble_eq_true rfl) (Nat.le_of_ble_eq_true rfl) (Nat.le_of_ble_eq_true rfl) ?_
        rintro _ _ _ ⟨hx7, hI8, hL9⟩
        have hx7 := hx7.symm; subst hx7
        have hI8 := hI8.symm; subst hI8; have hL9 := hL9.symm; subst hL9
        rw [bk_i (by omega), show hlfM g D u v p (k + 1) k = g0M g D k from if_pos (by omega)]
        refine k_iload_n C rfl rfl rfl ?_
        refine c_VI C (e_m_timesN T_m R_m_1 T_w N_w (((bk_a hwn).trans ((u2_a hwd).trans I_w_0))) hp1 hp2 rfl rfl (by omega) (by omega)) rfl rfl rfl rfl rfl ⟨_, rfl, rfl, T_m, Nat.le_of_ble_eq_true rfl⟩ rfl rfl (Nat.le_of_ble_eq_true rfl) (Nat.le_of_ble_eq_true rfl) (Nat.le_of_ble_eq_true rfl) ?_
        rintro _ _ _ ⟨hx7, hI8, hL9⟩
        have hx7 := hx7.symm; subst hx7
        have hI8 := hI8.symm; subst hI8; have hL9 := hL9.symm; subst hL9
        refine k_iload C rfl rfl rfl ?_
        refine k_if_le C (t := 76) rfl rfl rfl (fun c56 => ?_) (fun c56 => ?_)
        · skip
          refine k_iconst C (x := 0) rfl rfl rfl ?_
          refine c_VI C (e_m_plusN T_m R_m_1 T_w N_w (((bk_a hwn).trans ((u2_a hwd).trans I_w_0))) (v := 0) hp1 hp2 rfl rfl (by omega) (by omega)) rfl rfl rfl rfl rfl ⟨_, rfl, rfl, T_m, Nat.le_of_ble_eq_true rfl⟩ rfl rfl (Nat.le_of_ble_eq_true rfl) (Nat.le_of_ble_eq_true rfl) (Nat.le_of_ble_eq_true rfl) ?_
          rintro _ _ _ ⟨hx7, hI8, hL9⟩
          have hx7 := hx7.symm; subst hx7
          have hI8 := hI8.symm; subst hI8; have hL9 := hL9.symm; subst hL9
          refine c_VV C (e_m_put T_m R_m_5 T_nu N_nu rfl rfl (by omega)) rfl rfl rfl rfl rfl ⟨_, rfl, rfl, T_m, Nat.le_of_ble_eq_true rfl⟩ rfl rfl (Nat.le_of_ble_eq_true rfl) (Nat.le_of_ble_eq_true rfl) (Nat.le_of_ble_eq_true rfl) ?_
          rintro _ _ ⟨hI8, hL9⟩
          have hI8 := hI8.symm; subst hI8; have hL9 := hL9.symm; subst hL9
          have hw : Int32.ofNat ((g0M g D k * u % p + 0) % p) = Int32.ofNat (widM g D u v p k) := by unfold widM; rw [if_neg (by omega)]
          rw [bk_u (by omega), hw, hlf_s]
          refine k_iinc C (lw := [(4, .int _), (0, _), (1, .int _), (2, .int _), (3, .int _)]) rfl rfl rfl (Nat.le_of_ble_eq_true rfl) rfl rfl ?_
          refine k_goto C (pc2 := 32) rfl rfl ?_
          show V 32 [(4, .int (Int32.ofNat k + (-1))), _, _, _, _] [] _ 0 0
          rw [n_mi]
          exact ih
        exact absurd (by subst hk0; decide) c56
      · skip
        refine k_iload C rfl rfl rfl ?_
        refine k_if_lt C (t := 89) rfl rfl rfl (fun c34 => ?_) (fun c34 => ?_)
        · skip
          exact absurd c34 (by rw [show (0 : Int32) = Int32.ofNat 0 from rfl, n_lt (by omega) (by omega)]; omega)
        refine k_aload_n C rfl rfl rfl ?_
        refine k_iload_n C rfl rfl rfl ?_
        refine k_iload C rfl rfl rfl ?_
        refine k_aload_n C rfl rfl rfl ?_
        refine k_aload_n C rfl rfl rfl ?_
        refine k_aload_n C rfl rfl rfl ?_
        refine k_iload_n C rfl rfl rfl ?_
        refine k_iload C rfl rfl rfl ?_
        refine c_VI C (e_m_of T_m R_m_5 T_nu N_nu rfl rfl (by omega)) rfl rfl rfl rfl rfl ⟨_, rfl, rfl, T_m, Nat.le_of_ble_eq_true rfl⟩ rfl rfl (Nat.le_of_ble_eq_true rfl) (Nat.le_of_ble_eq_true rfl) (Nat.le_of_ble_eq_true rfl) ?_
        rintro _ _ _ ⟨hx7, hI8, hL9⟩
        have hx7 := hx7.symm; subst hx7
        have hI8 := hI8.symm; subst hI8; have hL9 := hL9.symm; subst hL9
        rw [bk_i (by omega), show hlfM g D u v p (k + 1) k = g0M g D k from if_pos (by omega)]
        refine k_iload_n C rfl rfl rfl ?_
        refine c_VI C (e_m_timesN T_m R_m_1 T_w N_w (((bk_a hwn).trans ((u2_a hwd).trans I_w_0))) hp1 hp2 rfl rfl (by omega) (by omega)) rfl rfl rfl rfl rfl ⟨_, rfl, rfl, T_m, Nat.le_of_ble_eq_true rfl⟩ rfl rfl (Nat.le_of_ble_eq_true rfl) (Nat.le_of_ble_eq_true rfl) (Nat.le_of_ble_eq_true rfl) ?_
        rintro _ _ _ ⟨hx7, hI8, hL9⟩
        have hx7 := hx7.symm; subst hx7
        have hI8 := hI8.symm; subst hI8; have hL9 := hL9.symm; subst hL9
        refine k_iload C rfl rfl rfl ?_
        refine k_if_le C (t := 76) rfl rfl rfl (fun c56 => ?_) (fun c56 => ?_)
        · skip
          exact absurd c56 (by rw [show (0 : Int32) = Int32.ofNat 0 from rfl, n_le (by omega) (by omega)]; omega)
        refine k_aload_n C rfl rfl rfl ?_
        refine k_aload_n C rfl rfl rfl ?_
        refine k_iload_n C rfl rfl rfl ?_
        refine k_iload C rfl rfl rfl ?_
        refine k_iconst C (x := 1) rfl rfl rfl ?_
        refine k_isub C rfl rfl ?_
        rw [n_p (by omega)]
        refine c_VI C (e_m_of T_m R_m_5 T_nu N_nu rfl rfl (by omega)) rfl rfl rfl rfl rfl ⟨_, rfl, rfl, T_m, Nat.le_of_ble_eq_true rfl⟩ rfl rfl (Nat.le_of_ble_eq_true rfl) (Nat.le_of_ble_eq_true rfl) (Nat.le_of_ble_eq_true rfl) ?_
        rintro _ _ _ ⟨hx7, hI8, hL9⟩
        have hx7 := hx7.symm; subst hx7
        have hI8 := hI8.symm; subst hI8; have hL9 := hL9.symm; subst hL9
        rw [bk_i (by omega), show hlfM g D u v p (k + 1) (k - 1) = g0M g D (k - 1) from if_pos (by omega)]
        refine k_iload_n C rfl rfl rfl ?_
        refine c_VI C (e_m_timesN T_m R_m_1 T_w N_w (((bk_a hwn).trans ((u2_a hwd).trans I_w_0))) hp1 hp2 rfl rfl (by omega) (by omega)) rfl rfl rfl rfl rfl ⟨_, rfl, rfl, T_m, Nat.le_of_ble_eq_true rfl⟩ rfl rfl (Nat.le_of_ble_eq_true rfl) (Nat.le_of_ble_eq_true rfl) (Nat.le_of_ble_eq_true rfl) ?_
        rintro _ _ _ ⟨hx7, hI8, hL9⟩
        have hx7 := hx7.symm; subst hx7
        have hI8 := hI8.symm; subst hI8; have hL9 := hL9.symm; subst hL9
        refine k_goto C (pc2 := 77) rfl rfl ?_
        refine c_VI C (e_m_plusN T_m R_m_1 T_w N_w (((bk_a hwn).trans ((u2_a hwd).trans I_w_0))) hp1 hp2 rfl rfl (by omega) (by omega)) rfl rfl rfl rfl rfl ⟨_, rfl, rfl, T_m, Nat.le_of_ble_eq_true rfl⟩ rfl rfl (Nat.le_of_ble_eq_true rfl) (Nat.le_of_ble_eq_true rfl) (Nat.le_of_ble_eq_true rfl) ?_
        rintro _ _ _ ⟨hx7, hI8, hL9⟩
        have hx7 := hx7.symm; subst hx7
        have hI8 := hI8.symm; subst hI8; have hL9 := hL9.symm; subst hL9
        refine c_VV C (e_m_put T_m R_m_5 T_nu N_nu rfl rfl (by omega)) rfl rfl rfl rfl rfl ⟨_, rfl, rfl, T_m, Nat.le_of_ble_eq_true rfl⟩ rfl rfl (Nat.le_of_ble_eq_true rfl) (Nat.le_of_ble_eq_true rfl) (Nat.le_of_ble_eq_true rfl) ?_
        rintro _ _ ⟨hI8, hL9⟩
        have hI8 := hI8.symm; subst hI8; have hL9 := hL9.symm; subst hL9
        have hw : Int32.ofNat ((g0M g D k * u % p + g0M g D (k - 1) * v % p) % p) = Int32.ofNat (widM g D u v p k) := by unfold widM; rw [if_pos (by omega)]
        rw [bk_u (by omega), hw, hlf_s]
        refine k_iinc C (lw := [(4, .int _), (0, _), (1, .int _), (2, .int _), (3, .int _)]) rfl rfl rfl (Nat.le_of_ble_eq_true rfl) rfl rfl ?_
        refine k_goto C (pc2 := 32) rfl rfl ?_
        show V 32 [(4, .int (Int32.ofNat k + (-1))), _, _, _, _] [] _ 0 0
        rw [n_mi]
        exact ih
  refine k_aload_n C rfl rfl rfl ?_
  refine k_iload_n C rfl rfl rfl ?_
  refine k_aload_n C rfl rfl rfl ?_
  refine g_R C rfl rfl rfl T_m rfl R_m_4 ?_
  refine k_iload_n C rfl rfl rfl ?_
  refine a_I C rfl rfl T_dg (vin (n := r) rfl (by rw [N_dg]; omega) (by rw [N_dg]; exact Nat.le_of_ble_eq_true rfl)) (hvx (n_nat (by omega)) hD) ?_
  refine k_iconst C (x := 1) rfl rfl rfl ?_
  refine k_iadd C rfl rfl ?_
  rw [n_s]
  refine k_iconst C (x := 0) rfl rfl rfl ?_
  refine c_VV C (e_m_put T_m R_m_5 T_nu N_nu rfl rfl (by omega)) rfl rfl rfl rfl rfl ⟨_, rfl, rfl, T_m, Nat.le_of_ble_eq_true rfl⟩ rfl rfl (Nat.le_of_ble_eq_true rfl) (Nat.le_of_ble_eq_true rfl) (Nat.le_of_ble_eq_true rfl) ?_
  rintro _ _ ⟨hI8, hL9⟩
  have hI8 := hI8.symm; subst hI8; have hL9 := hL9.symm; subst hL9
  refine k_aload_n C rfl rfl rfl ?_
  refine g_R C rfl rfl rfl T_m rfl R_m_4 ?_
  refine k_iload_n C rfl rfl rfl ?_
  refine k_dup2 C rfl rfl rfl rfl ?_
  refine a_I C rfl rfl T_dg (vin (n := r) rfl (by rw [N_dg]; omega) (by rw [N_dg]; exact Nat.le_of_ble_eq_true rfl)) (hvx (n_nat (by omega)) ((u2_a (Ne.symm hnd)).trans hD)) ?_
  refine k_iconst C (x := 1) rfl rfl rfl ?_
  refine k_iadd C rfl rfl ?_
  rw [n_s]
  refine s_I C rfl rfl T_dg (vin (n := r) rfl (by rw [N_dg]; omega) (by rw [N_dg]; exact Nat.le_of_ble_eq_true rfl)) (n_nat (by omega)) ?_
  rw [wid_0 (u := u) (v := v) (p := p) hnd hg]
  refine k_aload_n C rfl rfl rfl ?_
  refine g_R C rfl rfl rfl T_m rfl R_m_4 ?_
  refine k_iload_n C rfl rfl rfl ?_
  refine a_I C rfl rfl T_dg (vin (n := r) rfl (by rw [N_dg]; omega) (by rw [N_dg]; exact Nat.le_of_ble_eq_true rfl)) (hvx (n_nat (by omega)) ((bk_a (Ne.symm hnd)).trans u2_s)) ?_
  refine k_istore C (lw := [(4, .int _), (0, _), (1, .int _), (2, .int _), (3, .int _)]) rfl rfl (Nat.le_of_ble_eq_true rfl) rfl ?_
  have h0 := loop (D + 2) (Nat.le_refl _)
  rw [n_pp (k := D + 1)] at h0
  exact h0

