/-! the reference, binomials -/
theorem n_div {a b : Nat} (ha : a < 2147483648) (hb : b < 2147483648) (h : 1 ≤ b) : Int32.ofNat a / Int32.ofNat b = Int32.ofNat (a / b) := by
  have hq := Nat.div_le_self a b
  apply Int32.toInt_inj.mp
  rw [Int32.toInt_div_of_ne_right _ _ (by intro e; have := congrArg Int32.toInt e; rw [n_int hb] at this; have e1 : (-1 : Int32).toInt = -1 := rfl; omega), n_int ha, n_int hb, n_int (by omega)]
  exact (Int.ofNat_tdiv a b).symm
def ovM (n k : Nat) : Nat → Nat
  | 0 => 1
  | i + 1 => ovM n k i * (n - k + (i + 1)) / (i + 1)
theorem ovM_le : ∀ n, n < 9 → ∀ k, k < n + 1 → ∀ i, i < k + 1 → ovM n k i ≤ 70 := by decide
theorem e_m_over {d : Nat} {T N : Nat → Nat} {I : IT} {L : LT} {R : RT} {a b : Int32}  {n k : Nat} (ha : a = Int32.ofNat n) (hb : b = Int32.ofNat k) (hn : n ≤ 8) (hk : k ≤ n) : Ex (d + 1) 208 [.int a, .int b] (T, N, I, L, R) 0 0 (pI T N R (fun x9 I9 L9 => x9 = (Int32.ofNat (ovM n k k)) ∧ I9 = I ∧ L9 = L)) := by
  refine ⟨_, rfl, Nat.le_of_ble_eq_true rfl, fun V C S => ?_⟩
  show V 0 [(0, .int a), (1, .int b)] [] (T, N, I, L, R) 0 0
  subst ha; subst hb
  have loop : ∀ (s i : Nat), s = k - i → i ≤ k → V 4 [(3, .int (Int32.ofNat (i + 1))), (2, .int (Int32.ofNat (ovM n k i))), (0, .int (Int32.ofNat n)), (1, .int (Int32.ofNat k))] [] (T, N, I, L, R) 0 0 := by
    intro s
    induction s using Nat.strongRecOn with
    | _ s ih =>
      intro i hs hi
      refine k_iload_n C rfl rfl rfl ?_
      refine k_iload_n C rfl rfl rfl ?_
      refine k_icmp_gt C (t := 25) rfl rfl rfl (fun c6 => ?_) (fun c6 => ?_)
      · skip
        have hi2 : i = k := by have := (n_lt (by omega) (by omega)).mp c6; omega
        subst hi2
        refine k_iload_n C rfl rfl rfl ?_
        exact k_iret C rfl (Or.inl rfl) (Nat.le_of_ble_eq_true rfl) (Nat.le_of_ble_eq_true rfl) ⟨_, _, _, rfl, rfl, rfl, rfl, rfl⟩
      have hi2 : i + 1 ≤ k := Nat.le_of_not_lt (fun h => c6 ((n_lt (by omega) (by omega)).mpr h))
      have b1 := ovM_le n (by omega) k (by omega) i (by omega)
      have b2 : ovM n k i * (n - k + (i + 1)) ≤ 70 * 9 := Nat.mul_le_mul b1 (by omega)
      refine k_iload_n C rfl rfl rfl ?_
      refine k_iload_n C rfl rfl rfl ?_
      refine k_iload_n C rfl rfl rfl ?_
      refine k_isub C rfl rfl ?_
      rw [n_sub (by omega)]
      refine k_iload_n C rfl rfl rfl ?_
      refine k_iadd C rfl rfl ?_
      rw [n_add]
      refine k_imul C rfl rfl ?_
      rw [n_mul]
      refine k_iload_n C rfl rfl rfl ?_
      refine k_idiv C rfl rfl (i_ne0 (by rw [n_int (by omega)]; omega)) ?_
      rw [n_div (by omega) (by omega) (by omega)]
      refine k_istore_n C (lw := [(2, .int _), (3, .int _), (0, .int _), (1, .int _)]) rfl rfl (Nat.le_of_ble_eq_true rfl) rfl ?_
      refine k_inc1 C (lw := [(3, .int _), (2, .int _), (0, .int _), (1, .int _)]) rfl rfl rfl (Nat.le_of_ble_eq_true rfl) rfl ?_
      refine k_goto C (pc2 := 4) rfl rfl ?_
      rw [n_s]
      exact ih (k - (i + 1)) (by omega) (i + 1) rfl (by omega)
  refine k_iconst C (x := 1) rfl rfl rfl ?_
  refine k_istore_n C (lw := [(2, .int _), (0, .int _), (1, .int _)]) rfl rfl (Nat.le_of_ble_eq_true rfl) rfl ?_
  refine k_iconst C (x := 1) rfl rfl rfl ?_
  refine k_istore_n C (lw := [(3, .int _), (2, .int _), (0, .int _), (1, .int _)]) rfl rfl (Nat.le_of_ble_eq_true rfl) rfl ?_
  exact loop k 0 rfl (Nat.zero_le _)

