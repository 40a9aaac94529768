/-! COUNT -/
/-! COUNT: how many ways, as the loops count them -/
abbrev WF : Type := Nat → Nat → Int64
def wStep (part k v : Nat) (F : WF) : WF := fun k' v' => if k' = k ∧ v' = v then F k v + F (k - 1) (v - part) else F k' v'
def wIt {α : Type} (f : Nat → α → α) : Nat → Nat → α → α
  | 0, _, a => a
  | n + 1, i, a => wIt f n (i + 1) (f i a)
def wV (part k w : Nat) (F : WF) : WF := wIt (fun v F => wStep part k v F) (w + 1 - part) part F
def wK (part r w : Nat) (F : WF) : WF := wIt (fun k F => wV part k w F) r 1 F
def wP (d r w : Nat) (F : WF) : WF := wIt (fun part F => wK part r w F) d 1 F
def wF0 : WF := fun k v => if k = 0 ∧ v = 0 then 1 else 0
def wSum (F : WF) (r w : Nat) : Int64 := wIt (fun k s => s + F k w) (r + 1) 0 0
def waysP (w r d : Nat) : Int64 := wSum (wP d r w wF0) r w
theorem wIt_s {α : Type} {f : Nat → α → α} {n i : Nat} {a : α} : wIt f (n + 1) i a = wIt f n (i + 1) (f i a) := rfl
def rep (c : Nat) (F : WF) (g : Nat → Int64) : Prop := ∀ k v, k ≤ 12 → v ≤ 48 → g (c * k + v) = F k v
theorem rep_step {c : Nat} (hc : 48 < c) {F : WF} {L : LT} {a part k v i j : Nat} (h : rep c F (L a)) (hk : 1 ≤ k ∧ k ≤ 12) (hv : part ≤ v ∧ v ≤ 48) (hi : i = c * k + v) (hj : j = c * (k - 1) + (v - part)) : rep c (wStep part k v F) ((u2 L a i (L a i + L a j)) a) := by
  intro k' v' h1 h2
  unfold wStep
  by_cases e : k' = k ∧ v' = v
  · rw [if_pos e, e.1, e.2, ← hi, u2_s, hi, hj, h k v hk.2 hv.2, h (k - 1) (v - part) (by omega) (by omega)]
  · rw [if_neg e, u2_k, h k' v' h1 h2]
    intro he
    rw [hi] at he
    apply e
    rcases Nat.lt_trichotomy k' k with q | q | q
    · have := Nat.mul_le_mul_left c (show k' + 1 ≤ k by omega); rw [Nat.mul_add] at this; omega
    · subst q; exact ⟨rfl, by omega⟩
    · have := Nat.mul_le_mul_left c (show k + 1 ≤ k' by omega); rw [Nat.mul_add] at this; omega
theorem n_div2 {k : Nat} (h : k < 1000) : Int32.ofNat k / 2 = Int32.ofNat (k / 2) := by
  apply Int32.toInt_inj.mp
  have e4 : (2 : Int32).toInt = 2 := rfl
  rw [Int32.toInt_div_of_ne_right _ _ (by decide), n_int (by omega), n_int (by omega), e4, Int.tdiv_eq_ediv_of_nonneg (by omega)]
  omega
theorem n_rem2 {k : Nat} (h : k < 1000) : Int32.ofNat k - Int32.ofNat k / 2 * 2 = Int32.ofNat (k % 2) := by
  apply Int32.toInt_inj.mp
  have e4 : (2 : Int32).toInt = 2 := rfl
  rw [i_rem (by decide), n_int (by omega), n_int (by omega), e4, Int.tmod_eq_emod_of_nonneg (by omega)]
  omega
theorem fillL_loop {d : Nat} {V : V_T} {q : mm_T} {Post : Po} {T N : Nat → Nat} {R : RT} {A : Nat → Prop} {a n : Nat} {v : Int64} (T_a : T a = 21) (N_a : N a = n) (hn : n ≤ 10000) (A_a : A a) (hq : P_ml[81]? = some q) (C : Cl d q 0 0 Post V) (I0 : IT) (L0 : LT) (K : ∀ L1, Fr A I0 L0 I0 L1 → (∀ j, j < n → L1 a j = v) → V 22 [(3, .int (Int32.ofNat n)), (4, .int (Int32.ofNat n)), (0, .ref a), (1, .long v)] [] (T, N, I0, L1, R) 0 0) : ∀ (k i : Nat) (L1 : LT), k = n - i → i ≤ n → Fr A I0 L0 I0 L1 → (∀ j, j < i → L1 a j = v) → V 6 [(3, .int (Int32.ofNat i)), (4, .int (Int32.ofNat n)), (0, .ref a), (1, .long v)] [] (T, N, I0, L1, R) 0 0 := by
  cases hq
  intro k
  induction k using Nat.strongRecOn with
  | _ k ih =>
    intro i L1 hk hin hF hz
    refine k_iload_n C rfl rfl rfl ?_
    refine k_iload C rfl rfl rfl ?_
    refine k_icmp_ge C (t := 22) rfl rfl rfl (fun c => ?_) (fun c => ?_)
    · have hi : i = n := Nat.le_antisymm hin ((n_le (by omega) (by omega)).mp c)
      rw [hi]; exact K L1 hF (fun j hj => hz j (by omega))
    · have hi : i < n := Nat.lt_of_not_le (fun h => c ((n_le (by omega) (by omega)).mpr h))
      refine k_aload_n C rfl rfl rfl ?_
      refine k_iload_n C rfl rfl rfl ?_
      refine k_lload_n C rfl rfl rfl ?_
      refine s_L C rfl rfl T_a (vin rfl (by rw [N_a]; exact hi) (by rw [N_a]; omega)) (n_nat (by omega)) ?_
      refine k_inc1 C (lw := [(3, .int _), (4, .int _), (0, _), (1, .long _)]) rfl rfl rfl (Nat.le_of_ble_eq_true rfl) rfl ?_
      refine k_goto C (pc2 := 6) rfl rfl ?_
      rw [n_s]
      refine ih (n - (i + 1)) (by omega) (i + 1) _ rfl hi (Fr.l hF A_a) (fun j hj => ?_)
      by_cases e : j = i
      · rw [e]; exact u2_s
      · exact (u2_k e).trans (hz j (by omega))
theorem e_fillL {d : Nat} {T N : Nat → Nat} {I : IT} {L : LT} {R : RT} {A : Nat → Prop} {a : Nat} {v : Int64}{n : Nat} (T_a : T a = 21) (N_a : N a = n) (A_a : A a) (hn : n ≤ 10000) : Ex (d + 1) 81 [.ref a, .long v] (T, N, I, L, R) 0 0 (pV T N R (fun I9 L9 => I9 = I ∧ Fr A I L I L9 ∧ ∀ j, j < n → L9 a j = v)) := by
  refine ⟨_, rfl, Nat.le_of_ble_eq_true rfl, fun V C S => ?_⟩
  show V 0 [(0, .ref a), (1, .long v)] [] (T, N, I, L, R) 0 0
  refine k_iconst C (x := 0) rfl rfl rfl ?_
  refine k_istore_n C (lw := [(3, .int _), (0, _), (1, .long _)]) rfl rfl (Nat.le_of_ble_eq_true rfl) rfl ?_
  refine k_aload_n C rfl rfl rfl ?_
  refine a_N C rfl rfl (by rw [T_a]; exact Nat.le_of_ble_eq_true rfl) N_a ?_
  refine k_istore C (lw := [(4, .int _), (3, .int _), (0, _), (1, .long _)]) rfl rfl (Nat.le_of_ble_eq_true rfl) rfl ?_
  refine k_sub S [(3, .int (Int32.ofNat 0)), (4, .int (Int32.ofNat n)), (0, .ref a), (1, .long v)] (List.forall_mem_cons.mpr ⟨List.mem_of_getElem? (i := 1) rfl, List.forall_mem_cons.mpr ⟨List.mem_of_getElem? (i := 0) rfl, List.forall_mem_cons.mpr ⟨List.mem_of_getElem? (i := 2) rfl, List.forall_mem_cons.mpr ⟨List.mem_of_getElem? (i := 3) rfl, fun _ h => nomatch h⟩⟩⟩⟩) ?_
  refine fillL_loop T_a N_a hn A_a rfl C I L (fun L1 hF hz => ?_) n 0 L rfl (Nat.zero_le n) Fr.rf (fun j hj => absurd hj (Nat.not_lt_zero j))
  exact k_vret C rfl rfl (Nat.le_of_ble_eq_true rfl) (Nat.le_of_ble_eq_true rfl) ⟨_, _, rfl, rfl, rfl, hF, hz⟩


theorem e_addWays {d : Nat} {T N : Nat → Nat} {I : IT} {L : LT} {R : RT} {A : Nat → Prop} {rw wy : Nat} {to fm : Int32}{i j : Nat} (T_rw : T rw = 6) (R_rw_5 : R rw 5 = some wy) (T_wy : T wy = 21) (N_wy : N wy = 637) (A_wy : A wy) (hi : to = Int32.ofNat i) (hj : fm = Int32.ofNat j) (hi9 : i < 637) (hj9 : j < 637) : Ex (d + 1) 82 [.ref rw, .int to, .int fm] (T, N, I, L, R) 0 0 (pV T N R (fun I9 L9 => I9 = (I) ∧ L9 = (u2 L wy i (L wy i + L wy j)))) := by
  refine ⟨_, rfl, Nat.le_of_ble_eq_true rfl, fun V C S => ?_⟩
  show V 0 [(0, .ref rw), (1, .int to), (2, .int fm)] [] (T, N, I, L, R) 0 0
  subst hi hj
  refine k_iload_n C rfl rfl rfl ?_
  refine k_if_lt C (t := 41) rfl rfl rfl (fun c1 => ?_) (fun c1 => ?_)
  · skip
    exact absurd c1 (n_nn (by omega))
  refine k_iload_n C rfl rfl rfl ?_
  refine k_aload_n C rfl rfl rfl ?_
  refine g_R C rfl rfl rfl T_rw rfl R_rw_5 ?_
  refine a_N C rfl rfl (by rw [T_wy]; exact Nat.le_of_ble_eq_true rfl) N_wy ?_
  refine k_icmp_ge C (t := 41) rfl rfl rfl (fun c10 => ?_) (fun c10 => ?_)
  · skip
    exact absurd ((n_le (a := 637) (b := j) (by omega) (by omega)).mp c10) (by omega)
  refine k_iload_n C rfl rfl rfl ?_
  refine k_if_lt C (t := 41) rfl rfl rfl (fun c14 => ?_) (fun c14 => ?_)
  · skip
    exact absurd c14 (n_nn (by omega))
  refine k_iload_n C rfl rfl rfl ?_
  refine k_aload_n C rfl rfl rfl ?_
  refine g_R C rfl rfl rfl T_rw rfl R_rw_5 ?_
  refine a_N C rfl rfl (by rw [T_wy]; exact Nat.le_of_ble_eq_true rfl) N_wy ?_
  refine k_icmp_ge C (t := 41) rfl rfl rfl (fun c23 => ?_) (fun c23 => ?_)
  · skip
    exact absurd ((n_le (a := 637) (b := i) (by omega) (by omega)).mp c23) (by omega)
  refine k_aload_n C rfl rfl rfl ?_
  refine g_R C rfl rfl rfl T_rw rfl R_rw_5 ?_
  refine k_iload_n C rfl rfl rfl ?_
  refine k_dup2 C rfl rfl rfl rfl ?_
  refine a_L C rfl rfl T_wy (vin rfl (by rw [N_wy]; omega) (by rw [N_wy]; exact Nat.le_of_ble_eq_true rfl)) rfl ?_
  refine k_aload_n C rfl rfl rfl ?_
  refine g_R C rfl rfl rfl T_rw rfl R_rw_5 ?_
  refine k_iload_n C rfl rfl rfl ?_
  refine a_L C rfl rfl T_wy (vin rfl (by rw [N_wy]; omega) (by rw [N_wy]; exact Nat.le_of_ble_eq_true rfl)) rfl ?_
  refine k_ladd C rfl rfl ?_
  refine s_L C rfl rfl T_wy (vin rfl (by rw [N_wy]; omega) (by rw [N_wy]; exact Nat.le_of_ble_eq_true rfl)) (n_nat (by omega)) ?_
  exact k_vret C rfl rfl (Nat.le_of_ble_eq_true rfl) (Nat.le_of_ble_eq_true rfl) ⟨_, _, rfl, rfl, ⟨rfl, by rw [n_nat (by omega), n_nat (by omega)]⟩⟩

theorem e_ways_neg {d : Nat} {T N : Nat → Nat} {I : IT} {L : LT} {R : RT} {rw : Nat} {w r e : Int32}  (hw : w < 0) : Ex (d + 1) 83 [.ref rw, .int w, .int r, .int e] (T, N, I, L, R) 0 0 (pL T N R (fun x9 I9 L9 => x9 = (0) ∧ I9 = I ∧ L9 = L)) := by
  refine ⟨_, rfl, Nat.le_of_ble_eq_true rfl, fun V C S => ?_⟩
  show V 0 [(0, .ref rw), (1, .int w), (2, .int r), (3, .int e)] [] (T, N, I, L, R) 0 0
  refine k_iload_n C rfl rfl rfl ?_
  refine k_if_lt C (t := 18) rfl rfl rfl (fun c1 => ?_) (fun c1 => ?_)
  · skip
    refine k_lconst C (x := 0) rfl rfl rfl ?_
    exact k_lret C rfl rfl (Nat.le_of_ble_eq_true rfl) (Nat.le_of_ble_eq_true rfl) ⟨_, _, _, rfl, rfl, ⟨rfl, rfl, rfl⟩⟩
  exact absurd hw c1

set_option maxRecDepth 4000 in
theorem cw_vloop {d : Nat} {V : V_T} {q : mm_T} {Post : Po} {T N : Nat → Nat} {R : RT} {A : Nat → Prop} {I : IT} {L : LT} {rw wy : Nat} {w r e : Nat} (hq : P_ml[83]? = some q) (C : Cl (d + 1) q 0 0 Post V) (S : SB V) (T_rw : T rw = 6) (R_rw_5 : R rw 5 = some wy) (T_wy : T wy = 21) (N_wy : N wy = 637) (A_wy : A wy) (hw : w ≤ 48) (hr9 : r ≤ 12) (he : e ≤ 8) {part k : Nat} (hp : 1 ≤ part ∧ part ≤ 8) (hk : 1 ≤ k ∧ k ≤ 12) : ∀ (t s : Nat) (L1 : LT) (F : WF), t = w + 1 - s → part ≤ s → s ≤ 100 → Fr A I L I L1 → rep 49 F (L1 wy) → (∀ L2, Fr A I L I L2 → rep 49 (wIt (fun v F => wStep part k v F) t s F) (L2 wy) → ∀ x6 : Int32, V 94 [(6, .int x6), (5, .int (Int32.ofNat k)), (4, .int (Int32.ofNat part)), (0, .ref rw), (1, .int (Int32.ofNat w)), (2, .int (Int32.ofNat r)), (3, .int (Int32.ofNat e))] [] (T, N, I, L2, R) 0 0) → V 57 [(6, .int (Int32.ofNat s)), (5, .int (Int32.ofNat k)), (4, .int (Int32.ofNat part)), (0, .ref rw), (1, .int (Int32.ofNat w)), (2, .int (Int32.ofNat r)), (3, .int (Int32.ofNat e))] [] (T, N, I, L1, R) 0 0 := by
  cases hq
  intro t
  induction t with
  | zero =>
    intro s L1 F ht hps hs hF hrep K
    refine k_iload C rfl rfl rfl ?_
    refine k_iload_n C rfl rfl rfl ?_
    refine k_icmp_gt C (t := 94) rfl rfl rfl (fun _ => ?_) (fun c9 => absurd ((n_lt (by omega) (by omega)).mpr (show w < s by omega)) c9)
    exact K L1 hF hrep _
  | succ t ih =>
    intro s L1 F ht hps hs hF hrep K
    refine k_iload C rfl rfl rfl ?_
    refine k_iload_n C rfl rfl rfl ?_
    refine k_icmp_gt C (t := 94) rfl rfl rfl (fun c9 => absurd ((n_lt (by omega) (by omega)).mp c9) (by omega)) (fun _ => ?_)
    refine k_aload_n C rfl rfl rfl ?_
    refine k_iload C rfl rfl rfl ?_
    refine k_bipush C (x := 49) rfl rfl rfl ?_
    refine k_imul C rfl rfl ?_
    refine k_iload C rfl rfl rfl ?_
    refine k_iadd C rfl rfl ?_
    refine k_iload C rfl rfl rfl ?_
    refine k_iconst C (x := 1) rfl rfl rfl ?_
    refine k_isub C rfl rfl ?_
    refine k_bipush C (x := 49) rfl rfl rfl ?_
    refine k_imul C rfl rfl ?_
    refine k_iload C rfl rfl rfl ?_
    refine k_iadd C rfl rfl ?_
    refine k_iload C rfl rfl rfl ?_
    refine k_isub C rfl rfl ?_
    refine c_VV C (e_addWays T_rw R_rw_5 T_wy N_wy A_wy (i := 49 * k + s) (j := 49 * (k - 1) + (s - part)) (by rw [show (49 : Int32) = Int32.ofNat 49 from rfl, n_mul, n_add, Nat.mul_comm]) (by rw [show (49 : Int32) = Int32.ofNat 49 from rfl, show (1 : Int32) = Int32.ofNat 1 from rfl, n_sub (by omega), n_mul, n_add, n_sub (by omega), Nat.mul_comm (k - 1) 49]; congr 1; omega) (by omega) (by omega)) rfl rfl rfl rfl rfl ⟨_, rfl, rfl, T_rw, Nat.le_of_ble_eq_true rfl⟩ rfl rfl (Nat.le_of_ble_eq_true rfl) (Nat.le_of_ble_eq_true rfl) (Nat.le_of_ble_eq_true rfl) ?_
    rintro _ _ ⟨hI8, hL9⟩
    have hI8 := hI8.symm; subst hI8; have hL9 := hL9.symm; subst hL9
    refine k_inc1 C (lw := [(6, .int _), (5, .int _), (4, .int _), (0, _), (1, .int _), (2, .int _), (3, .int _)]) rfl rfl rfl (Nat.le_of_ble_eq_true rfl) rfl ?_
    refine k_goto C (pc2 := 57) rfl rfl ?_
    rw [n_s]
    exact ih (s + 1) _ (wStep part k s F) (by omega) (by omega) (by omega) (Fr.l hF A_wy) (rep_step (by omega) hrep ⟨by omega, by omega⟩ ⟨by omega, by omega⟩ rfl rfl) K

theorem cw_kloop {d : Nat} {V : V_T} {q : mm_T} {Post : Po} {T N : Nat → Nat} {R : RT} {A : Nat → Prop} {I : IT} {L : LT} {rw wy : Nat} {w r e : Nat} (hq : P_ml[83]? = some q) (C : Cl (d + 1) q 0 0 Post V) (S : SB V) (T_rw : T rw = 6) (R_rw_5 : R rw 5 = some wy) (T_wy : T wy = 21) (N_wy : N wy = 637) (A_wy : A wy) (hw : w ≤ 48) (hr9 : r ≤ 12) (he : e ≤ 8) {part : Nat} (hp : 1 ≤ part ∧ part ≤ 8) : ∀ (t k : Nat) (L1 : LT) (F : WF), t = r + 1 - k → 1 ≤ k → k ≤ 13 → Fr A I L I L1 → rep 49 F (L1 wy) → (∀ L2, Fr A I L I L2 → rep 49 (wIt (fun k F => wV part k w F) t k F) (L2 wy) → ∀ x5 : Int32, V 100 [(5, .int x5), (4, .int (Int32.ofNat part)), (0, .ref rw), (1, .int (Int32.ofNat w)), (2, .int (Int32.ofNat r)), (3, .int (Int32.ofNat e))] [] (T, N, I, L2, R) 0 0) → V 47 [(5, .int (Int32.ofNat k)), (4, .int (Int32.ofNat part)), (0, .ref rw), (1, .int (Int32.ofNat w)), (2, .int (Int32.ofNat r)), (3, .int (Int32.ofNat e))] [] (T, N, I, L1, R) 0 0 := by
  intro t
  induction t with
  | zero =>
    intro k L1 F ht hk1 hk2 hF hrep K
    cases hq
    refine k_iload C rfl rfl rfl ?_
    refine k_iload_n C rfl rfl rfl ?_
    refine k_icmp_gt C (t := 100) rfl rfl rfl (fun _ => ?_) (fun c9 => absurd ((n_lt (by omega) (by omega)).mpr (show r < k by omega)) c9)
    exact K L1 hF hrep _
  | succ t ih =>
    intro k L1 F ht hk1 hk2 hF hrep K
    have hq9 := hq
    cases hq
    refine k_iload C rfl rfl rfl ?_
    refine k_iload_n C rfl rfl rfl ?_
    refine k_icmp_gt C (t := 100) rfl rfl rfl (fun c9 => absurd ((n_lt (by omega) (by omega)).mp c9) (by omega)) (fun _ => ?_)
    refine k_iload C rfl rfl rfl ?_
    refine k_istore C (lw := [(6, .int _), (5, .int _), (4, .int _), (0, _), (1, .int _), (2, .int _), (3, .int _)]) rfl rfl (Nat.le_of_ble_eq_true rfl) rfl ?_
    refine cw_vloop hq9 C S T_rw R_rw_5 T_wy N_wy A_wy hw hr9 he hp (show 1 ≤ k ∧ k ≤ 12 by omega) (w + 1 - part) part L1 F rfl (Nat.le_refl _) (by omega) hF hrep (fun L2 hF2 hrep2 x6 => ?_)
    refine k_sub S [(5, .int (Int32.ofNat k)), (4, .int (Int32.ofNat part)), (0, .ref rw), (1, .int (Int32.ofNat w)), (2, .int (Int32.ofNat r)), (3, .int (Int32.ofNat e))] (List.forall_mem_cons.mpr ⟨List.mem_of_getElem? (i := 1) rfl, List.forall_mem_cons.mpr ⟨List.mem_of_getElem? (i := 2) rfl, List.forall_mem_cons.mpr ⟨List.mem_of_getElem? (i := 3) rfl, List.forall_mem_cons.mpr ⟨List.mem_of_getElem? (i := 4) rfl, List.forall_mem_cons.mpr ⟨List.mem_of_getElem? (i := 5) rfl, List.forall_mem_cons.mpr ⟨List.mem_of_getElem? (i := 6) rfl, fun _ h => nomatch h⟩⟩⟩⟩⟩⟩) ?_
    refine k_inc1 C (lw := [(5, .int _), (4, .int _), (0, _), (1, .int _), (2, .int _), (3, .int _)]) rfl rfl rfl (Nat.le_of_ble_eq_true rfl) rfl ?_
    refine k_goto C (pc2 := 47) rfl rfl ?_
    rw [n_s]
    exact ih (k + 1) L2 _ (by omega) (by omega) (by omega) hF2 hrep2 K

theorem cw_ploop {d : Nat} {V : V_T} {q : mm_T} {Post : Po} {T N : Nat → Nat} {R : RT} {A : Nat → Prop} {I : IT} {L : LT} {rw wy : Nat} {w r e : Nat} (hq : P_ml[83]? = some q) (C : Cl (d + 1) q 0 0 Post V) (S : SB V) (T_rw : T rw = 6) (R_rw_5 : R rw 5 = some wy) (T_wy : T wy = 21) (N_wy : N wy = 637) (A_wy : A wy) (hw : w ≤ 48) (hr9 : r ≤ 12) (he : e ≤ 8) : ∀ (t part : Nat) (L1 : LT) (F : WF), t = e + 1 - part → 1 ≤ part → part ≤ 9 → Fr A I L I L1 → rep 49 F (L1 wy) → (∀ L2, Fr A I L I L2 → rep 49 (wIt (fun part F => wK part r w F) t part F) (L2 wy) → ∀ x4 : Int32, V 106 [(4, .int x4), (0, .ref rw), (1, .int (Int32.ofNat w)), (2, .int (Int32.ofNat r)), (3, .int (Int32.ofNat e))] [] (T, N, I, L2, R) 0 0) → V 38 [(4, .int (Int32.ofNat part)), (0, .ref rw), (1, .int (Int32.ofNat w)), (2, .int (Int32.ofNat r)), (3, .int (Int32.ofNat e))] [] (T, N, I, L1, R) 0 0 := by
  intro t
  induction t with
  | zero =>
    intro part L1 F ht hk1 hk2 hF hrep K
    cases hq
    refine k_iload C rfl rfl rfl ?_
    refine k_iload_n C rfl rfl rfl ?_
    refine k_icmp_gt C (t := 106) rfl rfl rfl (fun _ => ?_) (fun c9 => absurd ((n_lt (by omega) (by omega)).mpr (show e < part by omega)) c9)
    exact K L1 hF hrep _
  | succ t ih =>
    intro part L1 F ht hk1 hk2 hF hrep K
    have hq9 := hq
    cases hq
    refine k_iload C rfl rfl rfl ?_
    refine k_iload_n C rfl rfl rfl ?_
    refine k_icmp_gt C (t := 106) rfl rfl rfl (fun c9 => absurd ((n_lt (by omega) (by omega)).mp c9) (by omega)) (fun _ => ?_)
    refine k_iconst C (x := 1) rfl rfl rfl ?_
    refine k_istore C (lw := [(5, .int _), (4, .int _), (0, _), (1, .int _), (2, .int _), (3, .int _)]) rfl rfl (Nat.le_of_ble_eq_true rfl) rfl ?_
    refine cw_kloop hq9 C S T_rw R_rw_5 T_wy N_wy A_wy hw hr9 he (show 1 ≤ part ∧ part ≤ 8 by omega) r 1 L1 F rfl (Nat.le_refl _) (by omega) hF hrep (fun L2 hF2 hrep2 x6 => ?_)
    refine k_sub S [(4, .int (Int32.ofNat part)), (0, .ref rw), (1, .int (Int32.ofNat w)), (2, .int (Int32.ofNat r)), (3, .int (Int32.ofNat e))] (List.forall_mem_cons.mpr ⟨List.mem_of_getElem? (i := 1) rfl, List.forall_mem_cons.mpr ⟨List.mem_of_getElem? (i := 2) rfl, List.forall_mem_cons.mpr ⟨List.mem_of_getElem? (i := 3) rfl, List.forall_mem_cons.mpr ⟨List.mem_of_getElem? (i := 4) rfl, List.forall_mem_cons.mpr ⟨List.mem_of_getElem? (i := 5) rfl, fun _ h => nomatch h⟩⟩⟩⟩⟩) ?_
    refine k_inc1 C (lw := [(4, .int _), (0, _), (1, .int _), (2, .int _), (3, .int _)]) rfl rfl rfl (Nat.le_of_ble_eq_true rfl) rfl ?_
    refine k_goto C (pc2 := 38) rfl rfl ?_
    rw [n_s]
    exact ih (part + 1) L2 _ (by omega) (by omega) (by omega) hF2 hrep2 K

theorem cw_sloop {d : Nat} {V : V_T} {q : mm_T} {Post : Po} {T N : Nat → Nat} {R : RT} {A : Nat → Prop} {I : IT} {L : LT} {rw wy : Nat} {w r e : Nat} (hq : P_ml[83]? = some q) (C : Cl (d + 1) q 0 0 Post V) (S : SB V) (T_rw : T rw = 6) (R_rw_5 : R rw 5 = some wy) (T_wy : T wy = 21) (N_wy : N wy = 637) (A_wy : A wy) (hw : w ≤ 48) (hr9 : r ≤ 12) (he : e ≤ 8) {L1 : LT} {F : WF} (hrep : rep 49 F (L1 wy)) : ∀ (t n : Nat) (z : Int64), t = r + 1 - n → n ≤ 13 → (∀ x6 : Int32, V 159 [(6, .int x6), (4, .long (wIt (fun k s => s + F k w) t n z)), (0, .ref rw), (1, .int (Int32.ofNat w)), (2, .int (Int32.ofNat r)), (3, .int (Int32.ofNat e))] [] (T, N, I, L1, R) 0 0) → V 112 [(6, .int (Int32.ofNat n)), (4, .long z), (0, .ref rw), (1, .int (Int32.ofNat w)), (2, .int (Int32.ofNat r)), (3, .int (Int32.ofNat e))] [] (T, N, I, L1, R) 0 0 := by
  cases hq
  intro t
  induction t with
  | zero =>
    intro n z ht hn K
    refine k_iload C rfl rfl rfl ?_
    refine k_iload_n C rfl rfl rfl ?_
    refine k_icmp_gt C (t := 159) rfl rfl rfl (fun _ => ?_) (fun c9 => absurd ((n_lt (by omega) (by omega)).mpr (show r < n by omega)) c9)
    exact K _
  | succ t ih =>
    intro n z ht hn K
    have hv := hrep n w (by omega) hw
    refine k_iload C rfl rfl rfl ?_
    refine k_iload_n C rfl rfl rfl ?_
    refine k_icmp_gt C (t := 159) rfl rfl rfl (fun c9 => absurd ((n_lt (by omega) (by omega)).mp c9) (by omega)) (fun _ => ?_)
    refine k_iload C rfl rfl rfl ?_
    refine k_bipush C (x := 49) rfl rfl rfl ?_
    refine k_imul C rfl rfl ?_
    refine k_iload_n C rfl rfl rfl ?_
    refine k_iadd C rfl rfl ?_
    rw [show (49 : Int32) = Int32.ofNat 49 from rfl, n_mul, n_add]
    refine k_istore C (lw := [(7, .int _), (6, .int _), (4, .long _), (0, _), (1, .int _), (2, .int _), (3, .int _)]) rfl rfl (Nat.le_of_ble_eq_true rfl) rfl ?_
    refine k_lload C rfl rfl rfl ?_
    refine k_iload C rfl rfl rfl ?_
    refine k_aload_n C rfl rfl rfl ?_
    refine g_R C rfl rfl rfl T_rw rfl R_rw_5 ?_
    refine a_N C rfl rfl (by rw [T_wy]; exact Nat.le_of_ble_eq_true rfl) N_wy ?_
    refine k_icmp_ge C (t := 149) rfl rfl rfl (fun c136 => ?_) (fun c136 => ?_)
    · skip
      exact absurd ((n_le (a := 637) (by omega) (by omega)).mp c136) (by omega)
    refine k_aload_n C rfl rfl rfl ?_
    refine g_R C rfl rfl rfl T_rw rfl R_rw_5 ?_
    refine k_iload C rfl rfl rfl ?_
    refine a_L C rfl rfl T_wy (vin rfl (by rw [N_wy]; omega) (by rw [N_wy]; exact Nat.le_of_ble_eq_true rfl)) (show L1 wy _ = F n w from by rw [n_nat (by omega), Nat.mul_comm n 49]; exact hv) ?_
    refine k_goto C (pc2 := 150) rfl rfl ?_
    refine k_ladd C rfl rfl ?_
    refine k_lstore C (lw := [(4, .long _), (7, .int _), (6, .int _), (0, _), (1, .int _), (2, .int _), (3, .int _)]) rfl rfl (Nat.le_of_ble_eq_true rfl) rfl ?_
    refine k_sub S [(6, .int (Int32.ofNat n)), (4, .long _), (0, .ref rw), (1, .int (Int32.ofNat w)), (2, .int (Int32.ofNat r)), (3, .int (Int32.ofNat e))] (List.forall_mem_cons.mpr ⟨List.mem_of_getElem? (i := 2) rfl, List.forall_mem_cons.mpr ⟨List.mem_of_getElem? (i := 0) rfl, List.forall_mem_cons.mpr ⟨List.mem_of_getElem? (i := 3) rfl, List.forall_mem_cons.mpr ⟨List.mem_of_getElem? (i := 4) rfl, List.forall_mem_cons.mpr ⟨List.mem_of_getElem? (i := 5) rfl, List.forall_mem_cons.mpr ⟨List.mem_of_getElem? (i := 6) rfl, fun _ h => nomatch h⟩⟩⟩⟩⟩⟩) ?_
    refine k_inc1 C (lw := [(6, .int _), (4, .long _), (0, _), (1, .int _), (2, .int _), (3, .int _)]) rfl rfl rfl (Nat.le_of_ble_eq_true rfl) rfl ?_
    refine k_goto C (pc2 := 112) rfl rfl ?_
    rw [n_s]
    exact ih (n + 1) _ (by omega) (by omega) K
theorem e_ways_nat {d : Nat} {T N : Nat → Nat} {I : IT} {L : LT} {R : RT} {A : Nat → Prop} {rw wy : Nat} {wI rI eI : Int32} (T_rw : T rw = 6) (R_rw_5 : R rw 5 = some wy) (T_wy : T wy = 21) (N_wy : N wy = 637) (A_wy : A wy) {w r e : Nat} (hwI : wI = Int32.ofNat w) (hrI : rI = Int32.ofNat r) (heI : eI = Int32.ofNat e) (hw : w ≤ 48) (hr9 : r ≤ 12) (he : e ≤ 8) : Ex (d + 2) 83 [.ref rw, .int wI, .int rI, .int eI] (T, N, I, L, R) 0 0 (pL T N R (fun x9 I9 L9 => x9 = waysP w r e ∧ I9 = I ∧ Fr A I L I L9)) := by
  refine ⟨_, rfl, Nat.le_of_ble_eq_true rfl, fun V C S => ?_⟩
  show V 0 [(0, .ref rw), (1, .int wI), (2, .int rI), (3, .int eI)] [] (T, N, I, L, R) 0 0
  subst hwI hrI heI
  refine k_iload_n C rfl rfl rfl ?_
  refine k_if_lt C (t := 18) rfl rfl rfl (fun c1 => ?_) (fun c1 => ?_)
  · skip
    exact absurd c1 (n_nn (by omega))
  refine k_iload_n C rfl rfl rfl ?_
  refine k_bipush C (x := 49) rfl rfl rfl ?_
  refine k_icmp_ge C (t := 18) rfl rfl rfl (fun c7 => ?_) (fun c7 => ?_)
  · skip
    exact absurd ((n_le (a := 49) (b := w) (by omega) (by omega)).mp c7) (by omega)
  refine k_aload_n C rfl rfl rfl ?_
  refine g_R C rfl rfl rfl T_rw rfl R_rw_5 ?_
  refine a_N C rfl rfl (by rw [T_wy]; exact Nat.le_of_ble_eq_true rfl) N_wy ?_
  refine k_if_ne C (t := 20) rfl rfl rfl (fun c15 => ?_) (fun c15 => ?_)
  · skip
    refine k_aload_n C rfl rfl rfl ?_
    refine g_R C rfl rfl rfl T_rw rfl R_rw_5 ?_
    refine k_lconst C (x := 0) rfl rfl rfl ?_
    refine c_SV C (e_fillL T_wy N_wy A_wy (Nat.le_of_ble_eq_true rfl)) rfl rfl rfl rfl rfl rfl rfl (Nat.le_of_ble_eq_true rfl) (Nat.le_of_ble_eq_true rfl) (Nat.le_of_ble_eq_true rfl) ?_
    rintro _ L1 ⟨hI8, hF1, hz1⟩
    have hI8 := hI8.symm; subst hI8
    refine k_aload_n C rfl rfl rfl ?_
    refine g_R C rfl rfl rfl T_rw rfl R_rw_5 ?_
    refine k_iconst C (x := 0) rfl rfl rfl ?_
    refine k_lconst C (x := 1) rfl rfl rfl ?_
    refine s_L C rfl rfl T_wy (vin (n := 0) rfl (by rw [N_wy]; exact Nat.le_of_ble_eq_true rfl) (by rw [N_wy]; exact Nat.le_of_ble_eq_true rfl)) (show (0 : Int32).toNatClampNeg = 0 from by decide) ?_
    refine k_iconst C (x := 1) rfl rfl rfl ?_
    refine k_istore C (lw := [(4, .int _), (0, _), (1, .int _), (2, .int _), (3, .int _)]) rfl rfl (Nat.le_of_ble_eq_true rfl) rfl ?_
    have hF2 : Fr A I L I (u2 L1 wy 0 1) := Fr.l hF1 A_wy
    have hrep : rep 49 wF0 (u2 L1 wy 0 1 wy) := by
      intro k v h1 h2
      unfold wF0
      by_cases q : k = 0 ∧ v = 0
      · rw [if_pos q, q.1, q.2]; exact u2_s
      · rw [if_neg q, u2_k (by omega)]; exact hz1 _ (by omega)
    refine cw_ploop rfl C S T_rw R_rw_5 T_wy N_wy A_wy hw hr9 he e 1 _ wF0 rfl (Nat.le_refl _) (by omega) hF2 hrep (fun L2 hF3 hrep3 x4 => ?_)
    refine k_lconst C (x := 0) rfl rfl rfl ?_
    refine k_lstore C (lw := [(4, .long _), (0, _), (1, .int _), (2, .int _), (3, .int _)]) rfl rfl (Nat.le_of_ble_eq_true rfl) rfl ?_
    refine k_iconst C (x := 0) rfl rfl rfl ?_
    refine k_istore C (lw := [(6, .int _), (4, .long _), (0, _), (1, .int _), (2, .int _), (3, .int _)]) rfl rfl (Nat.le_of_ble_eq_true rfl) rfl ?_
    refine cw_sloop rfl C S T_rw R_rw_5 T_wy N_wy A_wy hw hr9 he (I := I) (L := L) hrep3 (r + 1) 0 0 rfl (by omega) (fun x6 => ?_)
    refine k_lload C rfl rfl rfl ?_
    exact k_lret C rfl rfl (Nat.le_of_ble_eq_true rfl) (Nat.le_of_ble_eq_true rfl) ⟨_, _, _, rfl, rfl, rfl, rfl, hF3⟩
  exact absurd (by decide) c15

