/-! CLASSES: the reduced ones, in their order -/
abbrev SG : Type := Int32 × Int32 × Int32 × Int32
def frP (D i j : Int32) : Int32 := j * j - D
def ltP (D i j : Int32) : Int32 := frP D i j / (4 * i)
def rmP (D i j : Int32) : Int32 := frP D i j - frP D i j / (4 * i) * (4 * i)
def gdP (D i j : Int32) : Nat := Nat.gcd (Int32.ofNat (Nat.gcd i.toInt.natAbs j.toInt.natAbs)).toInt.natAbs (ltP D i j).toInt.natAbs
def acP (D z i j : Int32) : Prop := rmP D i j = 0 ∧ (i < ltP D i j ∨ (ltP D i j = i ∧ 0 ≤ j)) ∧ (¬ z = 0 ∨ gdP D i j = 1)
noncomputable def sk1 (D z k i j : Int32) (s : SG) : SG := @ite _ (acP D z i j) (Classical.propDecidable _) (s.1 + 1, @ite _ (s.1 = k) (Classical.propDecidable _) (i, j, ltP D i j) s.2) s
noncomputable def itJ (D z k i : Int32) : Nat → Int32 → SG → SG
  | 0, _, s => s
  | n + 1, j, s => itJ D z k i n (j + 1) (sk1 D z k i j s)
noncomputable def itI (D z k : Int32) : Nat → Nat → SG → SG
  | 0, _, s => s
  | n + 1, i, s => @ite _ (-D < 3 * Int32.ofNat i * Int32.ofNat i) (Classical.propDecidable _) s (itI D z k n (i + 1) (itJ D z k (Int32.ofNat i) (2 * i) (1 - Int32.ofNat i) s))
theorem sk1_y {D z k i j : Int32} {s : SG} (h : acP D z i j) (hk : s.1 = k) : sk1 D z k i j s = (s.1 + 1, i, j, ltP D i j) := by unfold sk1; rw [if_pos h, if_pos hk]
theorem sk1_m {D z k i j : Int32} {s : SG} (h : acP D z i j) (hk : ¬ s.1 = k) : sk1 D z k i j s = (s.1 + 1, s.2) := by unfold sk1; rw [if_pos h, if_neg hk]
theorem sk1_n {D z k i j : Int32} {s : SG} (h : ¬ acP D z i j) : sk1 D z k i j s = s := by unfold sk1; rw [if_neg h]
theorem fr_int {D j : Int32} (hD : isDc D) (hj : -57 ≤ j.toInt ∧ j.toInt ≤ 57) (i : Int32) : (frP D i j).toInt = j.toInt * j.toInt - D.toInt ∧ 3 ≤ (frP D i j).toInt ∧ (frP D i j).toInt ≤ 20000 := by
  have sq := sq_bd hj
  have e1 := ii_mul (x := j) (y := j) (by omega)
  obtain ⟨d1, d2, -⟩ := hD
  have e2 : (frP D i j).toInt = j.toInt * j.toInt - D.toInt := by unfold frP; rw [ii_sub (by rw [e1]; omega), e1]
  omega
theorem i4_int {i : Nat} (hi : 1 ≤ i ∧ i ≤ 57) : (4 * Int32.ofNat i).toInt = 4 * (i : Int) := by
  have e4 : (4 : Int32).toInt = 4 := rfl
  rw [ii_mul (by rw [e4, n_int (by omega)]; omega), e4, n_int (by omega)]
theorem lt_int {D j : Int32} {i : Nat} (hD : isDc D) (hj : -57 ≤ j.toInt ∧ j.toInt ≤ 57) (hi : 1 ≤ i ∧ i ≤ 57) : 0 ≤ (ltP D (Int32.ofNat i) j).toInt ∧ (ltP D (Int32.ofNat i) j).toInt ≤ 20000 := by
  obtain ⟨f1, f2, f3⟩ := fr_int hD hj (Int32.ofNat i)
  have e4 := i4_int hi
  unfold ltP
  rw [Int32.toInt_div_of_ne_right _ _ (by intro h; rw [h] at e4; have : (-1 : Int32).toInt = -1 := rfl; omega), e4, Int.tdiv_eq_ediv_of_nonneg (by omega)]
  have q1 := Int.ediv_nonneg (a := (frP D (Int32.ofNat i) j).toInt) (b := 4 * (i : Int)) (by omega) (by omega)
  have q2 := Int.ediv_le_self (a := (frP D (Int32.ofNat i) j).toInt) (4 * (i : Int)) (by omega)
  omega
theorem gd_bd {i : Nat} {j : Int32} (hi : 1 ≤ i ∧ i ≤ 57) : 1 ≤ Nat.gcd (Int32.ofNat i).toInt.natAbs j.toInt.natAbs ∧ Nat.gcd (Int32.ofNat i).toInt.natAbs j.toInt.natAbs ≤ 57 := by
  rw [n_int (by omega)]
  have h1 : ((i : Int).natAbs) = i := Int.natAbs_natCast i
  rw [h1]
  have := Nat.gcd_le_left j.toInt.natAbs (show 0 < i by omega)
  have := Nat.gcd_pos_of_pos_left j.toInt.natAbs (show 0 < i by omega)
  omega
theorem gg_bd {D : Int32} {i : Nat} {j : Int32} (hi : 1 ≤ i ∧ i ≤ 57) : 1 ≤ gdP D (Int32.ofNat i) j ∧ gdP D (Int32.ofNat i) j ≤ 57 := by
  have h := gd_bd (j := j) hi
  unfold gdP
  generalize Nat.gcd (Int32.ofNat i).toInt.natAbs j.toInt.natAbs = g at h
  rw [n_int (by omega), Int.natAbs_natCast]
  have := Nat.gcd_le_left (ltP D (Int32.ofNat i) j).toInt.natAbs (show 0 < g by omega)
  have := Nat.gcd_pos_of_pos_left (ltP D (Int32.ofNat i) j).toInt.natAbs (show 0 < g by omega)
  omega
theorem i3_int {i : Nat} (hi : i ≤ 58) : (3 * Int32.ofNat i * Int32.ofNat i).toInt = 3 * ((i * i : Nat) : Int) := by
  have e4 : (3 : Int32).toInt = 3 := rfl
  have hm : i * i ≤ 58 * 58 := Nat.mul_le_mul hi hi
  have e5 : (3 * Int32.ofNat i).toInt = 3 * (i : Int) := by rw [ii_mul (by rw [e4, n_int (by omega)]; omega), e4, n_int (by omega)]
  have e6 : 3 * (i : Int) * (i : Int) = 3 * ((i * i : Nat) : Int) := by rw [Int.mul_assoc, Int.natCast_mul]
  rw [ii_mul (by rw [e5, n_int (by omega), e6]; omega), e5, n_int (by omega), e6]
theorem neg32 {D : Int32} (hD : isDc D) : (-D).toInt = -D.toInt := by
  obtain ⟨d1, d2, -⟩ := hD
  rw [Int32.toInt_neg]; exact Int.bmod_eq_of_le (by omega) (by omega)
theorem gdP_div {D : Int32} {i : Nat} {j : Int32} : Int32.ofNat (gdP D (Int32.ofNat i) j) = Int32.ofNat (Nat.gcd (Int32.ofNat (Nat.gcd (Int32.ofNat i).toInt.natAbs j.toInt.natAbs)).toInt.natAbs (ltP D (Int32.ofNat i) j).toInt.natAbs) := rfl
set_option maxHeartbeats 2000000 in
theorem lt_step {k n : Int32} (h : k < n + 1) (c : ¬ n = k) : k < n := by
  have h1 := rg k
  have h2 := rg n
  rw [i_lt] at h ⊢
  by_cases q : n.toInt = 2147483647
  · have e : n = 2147483647 := Int32.toInt_inj.mp q
    subst e
    have e2 : ((2147483647 : Int32) + 1).toInt = -2147483648 := rfl
    omega
  · have e1 : (1 : Int32).toInt = 1 := rfl
    rw [ii_add (by omega), e1] at h
    have : n.toInt ≠ k.toInt := fun e => c (Int32.toInt_inj.mp e)
    omega
def SKc (k : Int32) (s : SG) (L : LT) (w : Nat) : Prop := 0 ≤ k → k < s.1 → L w 0 = s.2.1.toInt64 ∧ L w 1 = s.2.2.1.toInt64 ∧ L w 2 = s.2.2.2.toInt64
theorem SKc.z {k a b c : Int32} {L : LT} {w : Nat} : SKc k (0, a, b, c) L w := fun h1 h2 => absurd h2 (Int32.not_lt.mpr h1)
theorem SKc.h {k n a b c : Int32} {L : LT} {w : Nat} : SKc k (n, a, b, c) (u2 (u2 (u2 L w 0 a.toInt64) w 1 b.toInt64) w 2 c.toInt64) w := fun _ _ => ⟨(u2_k (by decide)).trans ((u2_k (by decide)).trans (u2_s)), (u2_k (by decide)).trans (u2_s), u2_s⟩
theorem SKc.m {k : Int32} {s : SG} {L : LT} {w : Nat} (h : SKc k s L w) (c : ¬ s.1 = k) : SKc k (s.1 + 1, s.2) L w := fun h1 h2 => h h1 (lt_step h2 c)
def SKi (k : Int32) (s : SG) (I : IT) (m : Nat) : Prop := 0 ≤ k → k < s.1 → I m 35 = s.2.1 ∧ I m 36 = s.2.2.1 ∧ I m 37 = s.2.2.2
theorem SKi.z {k a b c : Int32} {I : IT} {m : Nat} : SKi k (0, a, b, c) I m := fun h1 h2 => absurd h2 (Int32.not_lt.mpr h1)
theorem SKi.h {k n a b c : Int32} {I : IT} {m : Nat} : SKi k (n, a, b, c) (u2 (u2 (u2 I m 35 a) m 36 b) m 37 c) m := fun _ _ => ⟨(u2_k (by decide)).trans ((u2_k (by decide)).trans (u2_s)), (u2_k (by decide)).trans (u2_s), u2_s⟩
theorem SKi.m {k : Int32} {s : SG} {I : IT} {m : Nat} (h : SKi k s I m) (c : ¬ s.1 = k) : SKi k (s.1 + 1, s.2) I m := fun h1 h2 => h h1 (lt_step h2 c)
theorem cs_inner {d : Nat} {V : V_T} {q : mm_T} {Post : Po} {T N : Nat → Nat} {R : RT} {A : Nat → Prop} {I : IT} {L : LT} {wh : Nat} {D z k : Int32} {i : Nat} (hq : P_ml[120]? = some q) (C : Cl (d + 2) q 0 0 Post V) (S : SB V) (T_wh : T wh = 11) (A_wh : A wh) (hD : isDc D) (hz : z = 0 ∨ z = 1) (hi : 1 ≤ i ∧ i ≤ 57) : ∀ (n : Nat) (j : Int32) (s : SG) (L1 : LT), j.toInt + n = i + 1 → -57 ≤ j.toInt → Fr A I L I L1 → SKc k s L1 wh → (∀ (L2 : LT) (t : SG), t = itJ D z k (Int32.ofNat i) n j s → Fr A I L I L2 → SKc k t L2 wh → ∀ x6 : Int32, V 146 [(6, .int x6), (5, .int (Int32.ofNat i)), (4, .int t.1), (0, .ref wh), (1, .int D), (2, .int z), (3, .int k)] [] (T, N, I, L2, R) 0 0) → V 24 [(6, .int j), (5, .int (Int32.ofNat i)), (4, .int s.1), (0, .ref wh), (1, .int D), (2, .int z), (3, .int k)] [] (T, N, I, L1, R) 0 0 := by
  cases hq
  intro n
  induction n with
  | zero =>
    intro j s L1 hjn hj0 hF hr K
    refine k_iload C rfl rfl rfl ?_
    refine k_iload C rfl rfl rfl ?_
    refine k_icmp_gt C (t := 146) rfl rfl rfl (fun _ => ?_) (fun c9 => absurd (i_lt.mpr (by rw [n_int (by omega)]; omega)) c9)
    exact K _ _ rfl hF hr _
  | succ n ih =>
    intro j s L1 hjn hj0 hF hr K
    have hj : -57 ≤ j.toInt ∧ j.toInt ≤ 57 := by omega
    have e1 : (1 : Int32).toInt = 1 := rfl
    have hj1 : (j + 1).toInt = j.toInt + 1 := by rw [ii_add (by rw [e1]; omega), e1]
    have hne : ¬ 4 * Int32.ofNat i = 0 := i_ne0 (by rw [i4_int hi]; omega)
    have hlt := lt_int hD hj hi
    have hg := gd_bd (j := j) hi
    have hgg := gg_bd (D := D) (j := j) hi
    refine k_iload C rfl rfl rfl ?_
    refine k_iload C rfl rfl rfl ?_
    refine k_icmp_gt C (t := 146) rfl rfl rfl (fun c9 => absurd (i_lt.mp c9) (by rw [n_int (by omega)]; omega)) (fun _ => ?_)
    refine k_iload C rfl rfl rfl ?_
    refine k_iload C rfl rfl rfl ?_
    refine k_imul C rfl rfl ?_
    refine k_iload_n C rfl rfl rfl ?_
    refine k_isub C rfl rfl ?_
    refine k_istore C (lw := [(7, .int _), (6, .int _), (5, .int _), (4, .int _), (0, _), (1, .int _), (2, .int _), (3, .int _)]) rfl rfl (Nat.le_of_ble_eq_true rfl) rfl ?_
    refine k_iload C rfl rfl rfl ?_
    refine k_iconst C (x := 4) rfl rfl rfl ?_
    refine k_iload C rfl rfl rfl ?_
    refine k_imul C rfl rfl ?_
    refine k_idiv C rfl rfl hne ?_
    refine k_istore C (lw := [(8, .int _), (7, .int _), (6, .int _), (5, .int _), (4, .int _), (0, _), (1, .int _), (2, .int _), (3, .int _)]) rfl rfl (Nat.le_of_ble_eq_true rfl) rfl ?_
    refine k_iload C rfl rfl rfl ?_
    refine k_iconst C (x := 4) rfl rfl rfl ?_
    refine k_iload C rfl rfl rfl ?_
    refine k_imul C rfl rfl ?_
    refine k_irem C rfl rfl hne ?_
    refine k_if_ne C (t := 82) rfl rfl rfl (fun c56 => ?_) (fun c56 => ?_)
    · skip
      have hsk : sk1 D z k (Int32.ofNat i) j s = s := sk1_n (fun h => c56 h.1)
      refine k_iconst C (x := 0) rfl rfl rfl ?_
      refine k_istore C (lw := [(9, .int _), (8, .int _), (7, .int _), (6, .int _), (5, .int _), (4, .int _), (0, _), (1, .int _), (2, .int _), (3, .int _)]) rfl rfl (Nat.le_of_ble_eq_true rfl) rfl ?_
      refine k_iload C rfl rfl rfl ?_
      refine k_if_eq C (t := 140) rfl rfl rfl (fun _ => ?_) (fun c87 => absurd (by decide) c87)
      refine k_sub S [(6, .int j), (5, .int (Int32.ofNat i)), (4, _), (0, .ref wh), (1, .int D), (2, .int z), (3, .int k)] (List.forall_mem_cons.mpr ⟨List.mem_of_getElem? (i := 3) rfl, List.forall_mem_cons.mpr ⟨List.mem_of_getElem? (i := 4) rfl, List.forall_mem_cons.mpr ⟨List.mem_of_getElem? (i := 5) rfl, List.forall_mem_cons.mpr ⟨List.mem_of_getElem? (i := 6) rfl, List.forall_mem_cons.mpr ⟨List.mem_of_getElem? (i := 7) rfl, List.forall_mem_cons.mpr ⟨List.mem_of_getElem? (i := 8) rfl, List.forall_mem_cons.mpr ⟨List.mem_of_getElem? (i := 9) rfl, fun _ h => nomatch h⟩⟩⟩⟩⟩⟩⟩) ?_
      refine k_inc1 C (lw := [(6, .int _), (5, .int _), (4, .int _), (0, _), (1, .int _), (2, .int _), (3, .int _)]) rfl rfl rfl (Nat.le_of_ble_eq_true rfl) rfl ?_
      refine k_goto C (pc2 := 24) rfl rfl ?_
      exact ih (j + 1) s _ (by rw [hj1]; omega) (by omega) hF hr (fun L2 t ht hF2 hr2 => K L2 t (ht.trans (by show _ = itJ D z k (Int32.ofNat i) n (j + 1) (sk1 D z k (Int32.ofNat i) j s); rw [hsk])) hF2 hr2)
    have h56 : rmP D (Int32.ofNat i) j = 0 := Decidable.not_not.mp c56
    refine k_iload C rfl rfl rfl ?_
    refine k_iload C rfl rfl rfl ?_
    refine k_icmp_gt C (t := 78) rfl rfl rfl (fun c63 => ?_) (fun c63 => ?_)
    · skip
      have hor : Int32.ofNat i < ltP D (Int32.ofNat i) j ∨ (ltP D (Int32.ofNat i) j = Int32.ofNat i ∧ 0 ≤ j) := Or.inl c63
      refine k_iconst C (x := 1) rfl rfl rfl ?_
      refine k_goto C (pc2 := 83) rfl rfl ?_
      refine k_istore C (lw := [(9, .int _), (8, .int _), (7, .int _), (6, .int _), (5, .int _), (4, .int _), (0, _), (1, .int _), (2, .int _), (3, .int _)]) rfl rfl (Nat.le_of_ble_eq_true rfl) rfl ?_
      refine k_iload C rfl rfl rfl ?_
      refine k_if_eq C (t := 140) rfl rfl rfl (fun c87 => absurd c87 (by decide)) (fun _ => ?_)
      refine k_iload_n C rfl rfl rfl ?_
      refine k_if_ne C (t := 110) rfl rfl rfl (fun c91 => ?_) (fun c91 => ?_)
      · skip
        have hac : acP D z (Int32.ofNat i) j := ⟨h56, hor, Or.inl c91⟩
        refine k_iload C rfl rfl rfl ?_
        refine k_iload_n C rfl rfl rfl ?_
        refine k_icmp_ne C (t := 137) rfl rfl rfl (fun c113 => ?_) (fun c113 => ?_)
        · skip
          have hsk : sk1 D z k (Int32.ofNat i) j s = (s.1 + 1, s.2) := sk1_m hac c113
          refine k_inc1 C (lw := [(4, .int _), (9, .int _), (8, .int _), (7, .int _), (6, .int _), (5, .int _), (0, _), (1, .int _), (2, .int _), (3, .int _)]) rfl rfl rfl (Nat.le_of_ble_eq_true rfl) rfl ?_
          refine k_sub S [(6, .int j), (5, .int (Int32.ofNat i)), (4, _), (0, .ref wh), (1, .int D), (2, .int z), (3, .int k)] (List.forall_mem_cons.mpr ⟨List.mem_of_getElem? (i := 4) rfl, List.forall_mem_cons.mpr ⟨List.mem_of_getElem? (i := 5) rfl, List.forall_mem_cons.mpr ⟨List.mem_of_getElem? (i := 0) rfl, List.forall_mem_cons.mpr ⟨List.mem_of_getElem? (i := 6) rfl, List.forall_mem_cons.mpr ⟨List.mem_of_getElem? (i := 7) rfl, List.forall_mem_cons.mpr ⟨List.mem_of_getElem? (i := 8) rfl, List.forall_mem_cons.mpr ⟨List.mem_of_getElem? (i := 9) rfl, fun _ h => nomatch h⟩⟩⟩⟩⟩⟩⟩) ?_
          refine k_inc1 C (lw := [(6, .int _), (5, .int _), (4, .int _), (0, _), (1, .int _), (2, .int _), (3, .int _)]) rfl rfl rfl (Nat.le_of_ble_eq_true rfl) rfl ?_
          refine k_goto C (pc2 := 24) rfl rfl ?_
          exact ih (j + 1) (s.1 + 1, s.2) _ (by rw [hj1]; omega) (by omega) hF (hr.m c113) (fun L2 t ht hF2 hr2 => K L2 t (ht.trans (by show _ = itJ D z k (Int32.ofNat i) n (j + 1) (sk1 D z k (Int32.ofNat i) j s); rw [hsk])) hF2 hr2)
        refine k_aload_n C rfl rfl rfl ?_
        refine k_iload C rfl rfl rfl ?_
        refine k_i2l C rfl rfl ?_
        refine p_L C rfl rfl rfl T_wh (Or.inr rfl) rfl ?_
        refine k_aload_n C rfl rfl rfl ?_
        refine k_iload C rfl rfl rfl ?_
        refine k_i2l C rfl rfl ?_
        refine p_L C rfl rfl rfl T_wh (Or.inr rfl) rfl ?_
        refine k_aload_n C rfl rfl rfl ?_
        refine k_iload C rfl rfl rfl ?_
        refine k_i2l C rfl rfl ?_
        refine p_L C rfl rfl rfl T_wh (Or.inr rfl) rfl ?_
        refine k_inc1 C (lw := [(4, .int _), (9, .int _), (8, .int _), (7, .int _), (6, .int _), (5, .int _), (0, _), (1, .int _), (2, .int _), (3, .int _)]) rfl rfl rfl (Nat.le_of_ble_eq_true rfl) rfl ?_
        refine k_sub S [(6, .int j), (5, .int (Int32.ofNat i)), (4, _), (0, .ref wh), (1, .int D), (2, .int z), (3, .int k)] (List.forall_mem_cons.mpr ⟨List.mem_of_getElem? (i := 4) rfl, List.forall_mem_cons.mpr ⟨List.mem_of_getElem? (i := 5) rfl, List.forall_mem_cons.mpr ⟨List.mem_of_getElem? (i := 0) rfl, List.forall_mem_cons.mpr ⟨List.mem_of_getElem? (i := 6) rfl, List.forall_mem_cons.mpr ⟨List.mem_of_getElem? (i := 7) rfl, List.forall_mem_cons.mpr ⟨List.mem_of_getElem? (i := 8) rfl, List.forall_mem_cons.mpr ⟨List.mem_of_getElem? (i := 9) rfl, fun _ h => nomatch h⟩⟩⟩⟩⟩⟩⟩) ?_
        refine k_inc1 C (lw := [(6, .int _), (5, .int _), (4, .int _), (0, _), (1, .int _), (2, .int _), (3, .int _)]) rfl rfl rfl (Nat.le_of_ble_eq_true rfl) rfl ?_
        refine k_goto C (pc2 := 24) rfl rfl ?_
        exact ih (j + 1) (s.1 + 1, Int32.ofNat i, j, ltP D (Int32.ofNat i) j) _ (by rw [hj1]; omega) (by omega) (Fr.l (Fr.l (Fr.l hF A_wh) A_wh) A_wh) SKc.h (fun L2 t ht hF2 hr2 => K L2 t (ht.trans (by show _ = itJ D z k (Int32.ofNat i) n (j + 1) (sk1 D z k (Int32.ofNat i) j s); rw [sk1_y hac (Decidable.not_not.mp c113)])) hF2 hr2)
      refine k_iload C rfl rfl rfl ?_
      refine k_iload C rfl rfl rfl ?_
      refine c_SI C (e_divisor  (by rw [n_int (by omega)]; omega) (by omega) (by omega)) rfl rfl rfl rfl rfl rfl rfl (Nat.le_of_ble_eq_true rfl) (Nat.le_of_ble_eq_true rfl) (Nat.le_of_ble_eq_true rfl) ?_
      rintro _ _ _ ⟨hx7, hI8, hL9⟩
      have hx7 := hx7.symm; subst hx7
      have hI8 := hI8.symm; subst hI8; have hL9 := hL9.symm; subst hL9
      refine k_iload C rfl rfl rfl ?_
      refine c_SI C (e_divisor  (by rw [n_int (by omega)]; omega) (show -2147483648 < (ltP D (Int32.ofNat i) j).toInt by omega) (by right; rw [n_int (by omega)]; omega)) rfl rfl rfl rfl rfl rfl rfl (Nat.le_of_ble_eq_true rfl) (Nat.le_of_ble_eq_true rfl) (Nat.le_of_ble_eq_true rfl) ?_
      rintro _ _ _ ⟨hx7, hI8, hL9⟩
      have hx7 := hx7.symm; subst hx7
      have hI8 := hI8.symm; subst hI8; have hL9 := hL9.symm; subst hL9
      refine k_iconst C (x := 1) rfl rfl rfl ?_
      refine k_icmp_ne C (t := 140) rfl rfl rfl (fun c107 => ?_) (fun c107 => ?_)
      · skip
        have hsk : sk1 D z k (Int32.ofNat i) j s = s := sk1_n (fun h => h.2.2.elim (fun h => c91 h) (fun h => c107 (show Int32.ofNat (gdP D (Int32.ofNat i) j) = 1 by rw [h]; rfl)))
        refine k_sub S [(6, .int j), (5, .int (Int32.ofNat i)), (4, _), (0, .ref wh), (1, .int D), (2, .int z), (3, .int k)] (List.forall_mem_cons.mpr ⟨List.mem_of_getElem? (i := 3) rfl, List.forall_mem_cons.mpr ⟨List.mem_of_getElem? (i := 4) rfl, List.forall_mem_cons.mpr ⟨List.mem_of_getElem? (i := 5) rfl, List.forall_mem_cons.mpr ⟨List.mem_of_getElem? (i := 6) rfl, List.forall_mem_cons.mpr ⟨List.mem_of_getElem? (i := 7) rfl, List.forall_mem_cons.mpr ⟨List.mem_of_getElem? (i := 8) rfl, List.forall_mem_cons.mpr ⟨List.mem_of_getElem? (i := 9) rfl, fun _ h => nomatch h⟩⟩⟩⟩⟩⟩⟩) ?_
        refine k_inc1 C (lw := [(6, .int _), (5, .int _), (4, .int _), (0, _), (1, .int _), (2, .int _), (3, .int _)]) rfl rfl rfl (Nat.le_of_ble_eq_true rfl) rfl ?_
        refine k_goto C (pc2 := 24) rfl rfl ?_
        exact ih (j + 1) s _ (by rw [hj1]; omega) (by omega) hF hr (fun L2 t ht hF2 hr2 => K L2 t (ht.trans (by show _ = itJ D z k (Int32.ofNat i) n (j + 1) (sk1 D z k (Int32.ofNat i) j s); rw [hsk])) hF2 hr2)
      have hac : acP D z (Int32.ofNat i) j := ⟨h56, hor, Or.inr ((n_eq (b := 1) (by omega) (by omega)).mp (show Int32.ofNat (gdP D (Int32.ofNat i) j) = Int32.ofNat 1 from Decidable.not_not.mp c107))⟩
      refine k_iload C rfl rfl rfl ?_
      refine k_iload_n C rfl rfl rfl ?_
      refine k_icmp_ne C (t := 137) rfl rfl rfl (fun c113 => ?_) (fun c113 => ?_)
      · skip
        have hsk : sk1 D z k (Int32.ofNat i) j s = (s.1 + 1, s.2) := sk1_m hac c113
        refine k_inc1 C (lw := [(4, .int _), (9, .int _), (8, .int _), (7, .int _), (6, .int _), (5, .int _), (0, _), (1, .int _), (2, .int _), (3, .int _)]) rfl rfl rfl (Nat.le_of_ble_eq_true rfl) rfl ?_
        refine k_sub S [(6, .int j), (5, .int (Int32.ofNat i)), (4, _), (0, .ref wh), (1, .int D), (2, .int z), (3, .int k)] (List.forall_mem_cons.mpr ⟨List.mem_of_getElem? (i := 4) rfl, List.forall_mem_cons.mpr ⟨List.mem_of_getElem? (i := 5) rfl, List.forall_mem_cons.mpr ⟨List.mem_of_getElem? (i := 0) rfl, List.forall_mem_cons.mpr ⟨List.mem_of_getElem? (i := 6) rfl, List.forall_mem_cons.mpr ⟨List.mem_of_getElem? (i := 7) rfl, List.forall_mem_cons.mpr ⟨List.mem_of_getElem? (i := 8) rfl, List.forall_mem_cons.mpr ⟨List.mem_of_getElem? (i := 9) rfl, fun _ h => nomatch h⟩⟩⟩⟩⟩⟩⟩) ?_
        refine k_inc1 C (lw := [(6, .int _), (5, .int _), (4, .int _), (0, _), (1, .int _), (2, .int _), (3, .int _)]) rfl rfl rfl (Nat.le_of_ble_eq_true rfl) rfl ?_
        refine k_goto C (pc2 := 24) rfl rfl ?_
        exact ih (j + 1) (s.1 + 1, s.2) _ (by rw [hj1]; omega) (by omega) hF (hr.m c113) (fun L2 t ht hF2 hr2 => K L2 t (ht.trans (by show _ = itJ D z k (Int32.ofNat i) n (j + 1) (sk1 D z k (Int32.ofNat i) j s); rw [hsk])) hF2 hr2)
      refine k_aload_n C rfl rfl rfl ?_
      refine k_iload C rfl rfl rfl ?_
      refine k_i2l C rfl rfl ?_
      refine p_L C rfl rfl rfl T_wh (Or.inr rfl) rfl ?_
      refine k_aload_n C rfl rfl rfl ?_
      refine k_iload C rfl rfl rfl ?_
      refine k_i2l C rfl rfl ?_
      refine p_L C rfl rfl rfl T_wh (Or.inr rfl) rfl ?_
      refine k_aload_n C rfl rfl rfl ?_
      refine k_iload C rfl rfl rfl ?_
      refine k_i2l C rfl rfl ?_
      refine p_L C rfl rfl rfl T_wh (Or.inr rfl) rfl ?_
      refine k_inc1 C (lw := [(4, .int _), (9, .int _), (8, .int _), (7, .int _), (6, .int _), (5, .int _), (0, _), (1, .int _), (2, .int _), (3, .int _)]) rfl rfl rfl (Nat.le_of_ble_eq_true rfl) rfl ?_
      refine k_sub S [(6, .int j), (5, .int (Int32.ofNat i)), (4, _), (0, .ref wh), (1, .int D), (2, .int z), (3, .int k)] (List.forall_mem_cons.mpr ⟨List.mem_of_getElem? (i := 4) rfl, List.forall_mem_cons.mpr ⟨List.mem_of_getElem? (i := 5) rfl, List.forall_mem_cons.mpr ⟨List.mem_of_getElem? (i := 0) rfl, List.forall_mem_cons.mpr ⟨List.mem_of_getElem? (i := 6) rfl, List.forall_mem_cons.mpr ⟨List.mem_of_getElem? (i := 7) rfl, List.forall_mem_cons.mpr ⟨List.mem_of_getElem? (i := 8) rfl, List.forall_mem_cons.mpr ⟨List.mem_of_getElem? (i := 9) rfl, fun _ h => nomatch h⟩⟩⟩⟩⟩⟩⟩) ?_
      refine k_inc1 C (lw := [(6, .int _), (5, .int _), (4, .int _), (0, _), (1, .int _), (2, .int _), (3, .int _)]) rfl rfl rfl (Nat.le_of_ble_eq_true rfl) rfl ?_
      refine k_goto C (pc2 := 24) rfl rfl ?_
      exact ih (j + 1) (s.1 + 1, Int32.ofNat i, j, ltP D (Int32.ofNat i) j) _ (by rw [hj1]; omega) (by omega) (Fr.l (Fr.l (Fr.l hF A_wh) A_wh) A_wh) SKc.h (fun L2 t ht hF2 hr2 => K L2 t (ht.trans (by show _ = itJ D z k (Int32.ofNat i) n (j + 1) (sk1 D z k (Int32.ofNat i) j s); rw [sk1_y hac (Decidable.not_not.mp c113)])) hF2 hr2)
    refine k_iload C rfl rfl rfl ?_
    refine k_iload C rfl rfl rfl ?_
    refine k_icmp_ne C (t := 82) rfl rfl rfl (fun c70 => ?_) (fun c70 => ?_)
    · skip
      have hsk : sk1 D z k (Int32.ofNat i) j s = s := sk1_n (fun h => h.2.1.elim (fun h => c63 h) (fun h => c70 h.1))
      refine k_iconst C (x := 0) rfl rfl rfl ?_
      refine k_istore C (lw := [(9, .int _), (8, .int _), (7, .int _), (6, .int _), (5, .int _), (4, .int _), (0, _), (1, .int _), (2, .int _), (3, .int _)]) rfl rfl (Nat.le_of_ble_eq_true rfl) rfl ?_
      refine k_iload C rfl rfl rfl ?_
      refine k_if_eq C (t := 140) rfl rfl rfl (fun _ => ?_) (fun c87 => absurd (by decide) c87)
      refine k_sub S [(6, .int j), (5, .int (Int32.ofNat i)), (4, _), (0, .ref wh), (1, .int D), (2, .int z), (3, .int k)] (List.forall_mem_cons.mpr ⟨List.mem_of_getElem? (i := 3) rfl, List.forall_mem_cons.mpr ⟨List.mem_of_getElem? (i := 4) rfl, List.forall_mem_cons.mpr ⟨List.mem_of_getElem? (i := 5) rfl, List.forall_mem_cons.mpr ⟨List.mem_of_getElem? (i := 6) rfl, List.forall_mem_cons.mpr ⟨List.mem_of_getElem? (i := 7) rfl, List.forall_mem_cons.mpr ⟨List.mem_of_getElem? (i := 8) rfl, List.forall_mem_cons.mpr ⟨List.mem_of_getElem? (i := 9) rfl, fun _ h => nomatch h⟩⟩⟩⟩⟩⟩⟩) ?_
      refine k_inc1 C (lw := [(6, .int _), (5, .int _), (4, .int _), (0, _), (1, .int _), (2, .int _), (3, .int _)]) rfl rfl rfl (Nat.le_of_ble_eq_true rfl) rfl ?_
      refine k_goto C (pc2 := 24) rfl rfl ?_
      exact ih (j + 1) s _ (by rw [hj1]; omega) (by omega) hF hr (fun L2 t ht hF2 hr2 => K L2 t (ht.trans (by show _ = itJ D z k (Int32.ofNat i) n (j + 1) (sk1 D z k (Int32.ofNat i) j s); rw [hsk])) hF2 hr2)
    have h70 : ltP D (Int32.ofNat i) j = Int32.ofNat i := Decidable.not_not.mp c70
    refine k_iload C rfl rfl rfl ?_
    refine k_if_lt C (t := 82) rfl rfl rfl (fun c75 => ?_) (fun c75 => ?_)
    · skip
      have hsk : sk1 D z k (Int32.ofNat i) j s = s := sk1_n (fun h => h.2.1.elim (fun h => c63 h) (fun h => absurd h.2 (Int32.not_le.mpr c75)))
      refine k_iconst C (x := 0) rfl rfl rfl ?_
      refine k_istore C (lw := [(9, .int _), (8, .int _), (7, .int _), (6, .int _), (5, .int _), (4, .int _), (0, _), (1, .int _), (2, .int _), (3, .int _)]) rfl rfl (Nat.le_of_ble_eq_true rfl) rfl ?_
      refine k_iload C rfl rfl rfl ?_
      refine k_if_eq C (t := 140) rfl rfl rfl (fun _ => ?_) (fun c87 => absurd (by decide) c87)
      refine k_sub S [(6, .int j), (5, .int (Int32.ofNat i)), (4, _), (0, .ref wh), (1, .int D), (2, .int z), (3, .int k)] (List.forall_mem_cons.mpr ⟨List.mem_of_getElem? (i := 3) rfl, List.forall_mem_cons.mpr ⟨List.mem_of_getElem? (i := 4) rfl, List.forall_mem_cons.mpr ⟨List.mem_of_getElem? (i := 5) rfl, List.forall_mem_cons.mpr ⟨List.mem_of_getElem? (i := 6) rfl, List.forall_mem_cons.mpr ⟨List.mem_of_getElem? (i := 7) rfl, List.forall_mem_cons.mpr ⟨List.mem_of_getElem? (i := 8) rfl, List.forall_mem_cons.mpr ⟨List.mem_of_getElem? (i := 9) rfl, fun _ h => nomatch h⟩⟩⟩⟩⟩⟩⟩) ?_
      refine k_inc1 C (lw := [(6, .int _), (5, .int _), (4, .int _), (0, _), (1, .int _), (2, .int _), (3, .int _)]) rfl rfl rfl (Nat.le_of_ble_eq_true rfl) rfl ?_
      refine k_goto C (pc2 := 24) rfl rfl ?_
      exact ih (j + 1) s _ (by rw [hj1]; omega) (by omega) hF hr (fun L2 t ht hF2 hr2 => K L2 t (ht.trans (by show _ = itJ D z k (Int32.ofNat i) n (j + 1) (sk1 D z k (Int32.ofNat i) j s); rw [hsk])) hF2 hr2)
    have hor : Int32.ofNat i < ltP D (Int32.ofNat i) j ∨ (ltP D (Int32.ofNat i) j = Int32.ofNat i ∧ 0 ≤ j) := Or.inr ⟨h70, Int32.not_lt.mp c75⟩
    refine k_iconst C (x := 1) rfl rfl rfl ?_
    refine k_goto C (pc2 := 83) rfl rfl ?_
    refine k_istore C (lw := [(9, .int _), (8, .int _), (7, .int _), (6, .int _), (5, .int _), (4, .int _), (0, _), (1, .int _), (2, .int _), (3, .int _)]) rfl rfl (Nat.le_of_ble_eq_true rfl) rfl ?_
    refine k_iload C rfl rfl rfl ?_
    refine k_if_eq C (t := 140) rfl rfl rfl (fun c87 => absurd c87 (by decide)) (fun _ => ?_)
    refine k_iload_n C rfl rfl rfl ?_
    refine k_if_ne C (t := 110) rfl rfl rfl (fun c91 => ?_) (fun c91 => ?_)
    · skip
      have hac : acP D z (Int32.ofNat i) j := ⟨h56, hor, Or.inl c91⟩
      refine k_iload C rfl rfl rfl ?_
      refine k_iload_n C rfl rfl rfl ?_
      refine k_icmp_ne C (t := 137) rfl rfl rfl (fun c113 => ?_) (fun c113 => ?_)
      · skip
        have hsk : sk1 D z k (Int32.ofNat i) j s = (s.1 + 1, s.2) := sk1_m hac c113
        refine k_inc1 C (lw := [(4, .int _), (9, .int _), (8, .int _), (7, .int _), (6, .int _), (5, .int _), (0, _), (1, .int _), (2, .int _), (3, .int _)]) rfl rfl rfl (Nat.le_of_ble_eq_true rfl) rfl ?_
        refine k_sub S [(6, .int j), (5, .int (Int32.ofNat i)), (4, _), (0, .ref wh), (1, .int D), (2, .int z), (3, .int k)] (List.forall_mem_cons.mpr ⟨List.mem_of_getElem? (i := 4) rfl, List.forall_mem_cons.mpr ⟨List.mem_of_getElem? (i := 5) rfl, List.forall_mem_cons.mpr ⟨List.mem_of_getElem? (i := 0) rfl, List.forall_mem_cons.mpr ⟨List.mem_of_getElem? (i := 6) rfl, List.forall_mem_cons.mpr ⟨List.mem_of_getElem? (i := 7) rfl, List.forall_mem_cons.mpr ⟨List.mem_of_getElem? (i := 8) rfl, List.forall_mem_cons.mpr ⟨List.mem_of_getElem? (i := 9) rfl, fun _ h => nomatch h⟩⟩⟩⟩⟩⟩⟩) ?_
        refine k_inc1 C (lw := [(6, .int _), (5, .int _), (4, .int _), (0, _), (1, .int _), (2, .int _), (3, .int _)]) rfl rfl rfl (Nat.le_of_ble_eq_true rfl) rfl ?_
        refine k_goto C (pc2 := 24) rfl rfl ?_
        exact ih (j + 1) (s.1 + 1, s.2) _ (by rw [hj1]; omega) (by omega) hF (hr.m c113) (fun L2 t ht hF2 hr2 => K L2 t (ht.trans (by show _ = itJ D z k (Int32.ofNat i) n (j + 1) (sk1 D z k (Int32.ofNat i) j s); rw [hsk])) hF2 hr2)
      refine k_aload_n C rfl rfl rfl ?_
      refine k_iload C rfl rfl rfl ?_
      refine k_i2l C rfl rfl ?_
      refine p_L C rfl rfl rfl T_wh (Or.inr rfl) rfl ?_
      refine k_aload_n C rfl rfl rfl ?_
      refine k_iload C rfl rfl rfl ?_
      refine k_i2l C rfl rfl ?_
      refine p_L C rfl rfl rfl T_wh (Or.inr rfl) rfl ?_
      refine k_aload_n C rfl rfl rfl ?_
      refine k_iload C rfl rfl rfl ?_
      refine k_i2l C rfl rfl ?_
      refine p_L C rfl rfl rfl T_wh (Or.inr rfl) rfl ?_
      refine k_inc1 C (lw := [(4, .int _), (9, .int _), (8, .int _), (7, .int _), (6, .int _), (5, .int _), (0, _), (1, .int _), (2, .int _), (3, .int _)]) rfl rfl rfl (Nat.le_of_ble_eq_true rfl) rfl ?_
      refine k_sub S [(6, .int j), (5, .int (Int32.ofNat i)), (4, _), (0, .ref wh), (1, .int D), (2, .int z), (3, .int k)] (List.forall_mem_cons.mpr ⟨List.mem_of_getElem? (i := 4) rfl, List.forall_mem_cons.mpr ⟨List.mem_of_getElem? (i := 5) rfl, List.forall_mem_cons.mpr ⟨List.mem_of_getElem? (i := 0) rfl, List.forall_mem_cons.mpr ⟨List.mem_of_getElem? (i := 6) rfl, List.forall_mem_cons.mpr ⟨List.mem_of_getElem? (i := 7) rfl, List.forall_mem_cons.mpr ⟨List.mem_of_getElem? (i := 8) rfl, List.forall_mem_cons.mpr ⟨List.mem_of_getElem? (i := 9) rfl, fun _ h => nomatch h⟩⟩⟩⟩⟩⟩⟩) ?_
      refine k_inc1 C (lw := [(6, .int _), (5, .int _), (4, .int _), (0, _), (1, .int _), (2, .int _), (3, .int _)]) rfl rfl rfl (Nat.le_of_ble_eq_true rfl) rfl ?_
      refine k_goto C (pc2 := 24) rfl rfl ?_
      exact ih (j + 1) (s.1 + 1, Int32.ofNat i, j, ltP D (Int32.ofNat i) j) _ (by rw [hj1]; omega) (by omega) (Fr.l (Fr.l (Fr.l hF A_wh) A_wh) A_wh) SKc.h (fun L2 t ht hF2 hr2 => K L2 t (ht.trans (by show _ = itJ D z k (Int32.ofNat i) n (j + 1) (sk1 D z k (Int32.ofNat i) j s); rw [sk1_y hac (Decidable.not_not.mp c113)])) hF2 hr2)
    refine k_iload C rfl rfl rfl ?_
    refine k_iload C rfl rfl rfl ?_
    refine c_SI C (e_divisor  (by rw [n_int (by omega)]; omega) (by omega) (by omega)) rfl rfl rfl rfl rfl rfl rfl (Nat.le_of_ble_eq_true rfl) (Nat.le_of_ble_eq_true rfl) (Nat.le_of_ble_eq_true rfl) ?_
    rintro _ _ _ ⟨hx7, hI8, hL9⟩
    have hx7 := hx7.symm; subst hx7
    have hI8 := hI8.symm; subst hI8; have hL9 := hL9.symm; subst hL9
    refine k_iload C rfl rfl rfl ?_
    refine c_SI C (e_divisor  (by rw [n_int (by omega)]; omega) (show -2147483648 < (ltP D (Int32.ofNat i) j).toInt by omega) (by right; rw [n_int (by omega)]; omega)) rfl rfl rfl rfl rfl rfl rfl (Nat.le_of_ble_eq_true rfl) (Nat.le_of_ble_eq_true rfl) (Nat.le_of_ble_eq_true rfl) ?_
    rintro _ _ _ ⟨hx7, hI8, hL9⟩
    have hx7 := hx7.symm; subst hx7
    have hI8 := hI8.symm; subst hI8; have hL9 := hL9.symm; subst hL9
    refine k_iconst C (x := 1) rfl rfl rfl ?_
    refine k_icmp_ne C (t := 140) rfl rfl rfl (fun c107 => ?_) (fun c107 => ?_)
    · skip
      have hsk : sk1 D z k (Int32.ofNat i) j s = s := sk1_n (fun h => h.2.2.elim (fun h => c91 h) (fun h => c107 (show Int32.ofNat (gdP D (Int32.ofNat i) j) = 1 by rw [h]; rfl)))
      refine k_sub S [(6, .int j), (5, .int (Int32.ofNat i)), (4, _), (0, .ref wh), (1, .int D), (2, .int z), (3, .int k)] (List.forall_mem_cons.mpr ⟨List.mem_of_getElem? (i := 3) rfl, List.forall_mem_cons.mpr ⟨List.mem_of_getElem? (i := 4) rfl, List.forall_mem_cons.mpr ⟨List.mem_of_getElem? (i := 5) rfl, List.forall_mem_cons.mpr ⟨List.mem_of_getElem? (i := 6) rfl, List.forall_mem_cons.mpr ⟨List.mem_of_getElem? (i := 7) rfl, List.forall_mem_cons.mpr ⟨List.mem_of_getElem? (i := 8) rfl, List.forall_mem_cons.mpr ⟨List.mem_of_getElem? (i := 9) rfl, fun _ h => nomatch h⟩⟩⟩⟩⟩⟩⟩) ?_
      refine k_inc1 C (lw := [(6, .int _), (5, .int _), (4, .int _), (0, _), (1, .int _), (2, .int _), (3, .int _)]) rfl rfl rfl (Nat.le_of_ble_eq_true rfl) rfl ?_
      refine k_goto C (pc2 := 24) rfl rfl ?_
      exact ih (j + 1) s _ (by rw [hj1]; omega) (by omega) hF hr (fun L2 t ht hF2 hr2 => K L2 t (ht.trans (by show _ = itJ D z k (Int32.ofNat i) n (j + 1) (sk1 D z k (Int32.ofNat i) j s); rw [hsk])) hF2 hr2)
    have hac : acP D z (Int32.ofNat i) j := ⟨h56, hor, Or.inr ((n_eq (b := 1) (by omega) (by omega)).mp (show Int32.ofNat (gdP D (Int32.ofNat i) j) = Int32.ofNat 1 from Decidable.not_not.mp c107))⟩
    refine k_iload C rfl rfl rfl ?_
    refine k_iload_n C rfl rfl rfl ?_
    refine k_icmp_ne C (t := 137) rfl rfl rfl (fun c113 => ?_) (fun c113 => ?_)
    · skip
      have hsk : sk1 D z k (Int32.ofNat i) j s = (s.1 + 1, s.2) := sk1_m hac c113
      refine k_inc1 C (lw := [(4, .int _), (9, .int _), (8, .int _), (7, .int _), (6, .int _), (5, .int _), (0, _), (1, .int _), (2, .int _), (3, .int _)]) rfl rfl rfl (Nat.le_of_ble_eq_true rfl) rfl ?_
      refine k_sub S [(6, .int j), (5, .int (Int32.ofNat i)), (4, _), (0, .ref wh), (1, .int D), (2, .int z), (3, .int k)] (List.forall_mem_cons.mpr ⟨List.mem_of_getElem? (i := 4) rfl, List.forall_mem_cons.mpr ⟨List.mem_of_getElem? (i := 5) rfl, List.forall_mem_cons.mpr ⟨List.mem_of_getElem? (i := 0) rfl, List.forall_mem_cons.mpr ⟨List.mem_of_getElem? (i := 6) rfl, List.forall_mem_cons.mpr ⟨List.mem_of_getElem? (i := 7) rfl, List.forall_mem_cons.mpr ⟨List.mem_of_getElem? (i := 8) rfl, List.forall_mem_cons.mpr ⟨List.mem_of_getElem? (i := 9) rfl, fun _ h => nomatch h⟩⟩⟩⟩⟩⟩⟩) ?_
      refine k_inc1 C (lw := [(6, .int _), (5, .int _), (4, .int _), (0, _), (1, .int _), (2, .int _), (3, .int _)]) rfl rfl rfl (Nat.le_of_ble_eq_true rfl) rfl ?_
      refine k_goto C (pc2 := 24) rfl rfl ?_
      exact ih (j + 1) (s.1 + 1, s.2) _ (by rw [hj1]; omega) (by omega) hF (hr.m c113) (fun L2 t ht hF2 hr2 => K L2 t (ht.trans (by show _ = itJ D z k (Int32.ofNat i) n (j + 1) (sk1 D z k (Int32.ofNat i) j s); rw [hsk])) hF2 hr2)
    refine k_aload_n C rfl rfl rfl ?_
    refine k_iload C rfl rfl rfl ?_
    refine k_i2l C rfl rfl ?_
    refine p_L C rfl rfl rfl T_wh (Or.inr rfl) rfl ?_
    refine k_aload_n C rfl rfl rfl ?_
    refine k_iload C rfl rfl rfl ?_
    refine k_i2l C rfl rfl ?_
    refine p_L C rfl rfl rfl T_wh (Or.inr rfl) rfl ?_
    refine k_aload_n C rfl rfl rfl ?_
    refine k_iload C rfl rfl rfl ?_
    refine k_i2l C rfl rfl ?_
    refine p_L C rfl rfl rfl T_wh (Or.inr rfl) rfl ?_
    refine k_inc1 C (lw := [(4, .int _), (9, .int _), (8, .int _), (7, .int _), (6, .int _), (5, .int _), (0, _), (1, .int _), (2, .int _), (3, .int _)]) rfl rfl rfl (Nat.le_of_ble_eq_true rfl) rfl ?_
    refine k_sub S [(6, .int j), (5, .int (Int32.ofNat i)), (4, _), (0, .ref wh), (1, .int D), (2, .int z), (3, .int k)] (List.forall_mem_cons.mpr ⟨List.mem_of_getElem? (i := 4) rfl, List.forall_mem_cons.mpr ⟨List.mem_of_getElem? (i := 5) rfl, List.forall_mem_cons.mpr ⟨List.mem_of_getElem? (i := 0) rfl, List.forall_mem_cons.mpr ⟨List.mem_of_getElem? (i := 6) rfl, List.forall_mem_cons.mpr ⟨List.mem_of_getElem? (i := 7) rfl, List.forall_mem_cons.mpr ⟨List.mem_of_getElem? (i := 8) rfl, List.forall_mem_cons.mpr ⟨List.mem_of_getElem? (i := 9) rfl, fun _ h => nomatch h⟩⟩⟩⟩⟩⟩⟩) ?_
    refine k_inc1 C (lw := [(6, .int _), (5, .int _), (4, .int _), (0, _), (1, .int _), (2, .int _), (3, .int _)]) rfl rfl rfl (Nat.le_of_ble_eq_true rfl) rfl ?_
    refine k_goto C (pc2 := 24) rfl rfl ?_
    exact ih (j + 1) (s.1 + 1, Int32.ofNat i, j, ltP D (Int32.ofNat i) j) _ (by rw [hj1]; omega) (by omega) (Fr.l (Fr.l (Fr.l hF A_wh) A_wh) A_wh) SKc.h (fun L2 t ht hF2 hr2 => K L2 t (ht.trans (by show _ = itJ D z k (Int32.ofNat i) n (j + 1) (sk1 D z k (Int32.ofNat i) j s); rw [sk1_y hac (Decidable.not_not.mp c113)])) hF2 hr2)
theorem lt_of_ne32 {x y : Int32} (h : ¬ x < y) (hn : ¬ x = y) : y < x := by
  rw [i_lt] at h ⊢
  have : x.toInt ≠ y.toInt := fun e => hn (Int32.toInt_inj.mp e)
  omega
set_option maxHeartbeats 2000000 in
theorem ms_inner {d : Nat} {V : V_T} {q : mm_T} {Post : Po} {T N : Nat → Nat} {R : RT} {A : Nat → Prop} {I : IT} {L : LT} {m : Nat} {D z k : Int32} {i : Nat} (hq : P_ml[306]? = some q) (C : Cl (d + 2) q 0 0 Post V) (S : SB V) (T_m : T m = 13) (A_m : A m) (hD : isDc D) (hz : z = 0 ∨ z = 1) (hi : 1 ≤ i ∧ i ≤ 57) : ∀ (n : Nat) (j : Int32) (s : SG) (I1 : IT), j.toInt + n = i + 1 → -57 ≤ j.toInt → Fr A I L I1 L → (SKi k s I1 m ∧ IK3 m I I1) → (∀ (I2 : IT) (t : SG), t = itJ D z k (Int32.ofNat i) n j s → Fr A I L I2 L → (SKi k t I2 m ∧ IK3 m I I2) → ∀ x6 : Int32, V 138 [(6, .int x6), (5, .int (Int32.ofNat i)), (4, .int t.1), (0, .ref m), (1, .int D), (2, .int z), (3, .int k)] [] (T, N, I2, L, R) 0 0) → V 24 [(6, .int j), (5, .int (Int32.ofNat i)), (4, .int s.1), (0, .ref m), (1, .int D), (2, .int z), (3, .int k)] [] (T, N, I1, L, R) 0 0 := by
  cases hq
  intro n
  induction n with
  | zero =>
    intro j s I1 hjn hj0 hF hr K
    refine k_iload C rfl rfl rfl ?_
    refine k_iload C rfl rfl rfl ?_
    refine k_icmp_gt C (t := 138) rfl rfl rfl (fun _ => ?_) (fun c9 => absurd (i_lt.mpr (by rw [n_int (by omega)]; omega)) c9)
    exact K _ _ rfl hF hr _
  | succ n ih =>
    intro j s I1 hjn hj0 hF hr K
    have hj : -57 ≤ j.toInt ∧ j.toInt ≤ 57 := by omega
    have e1 : (1 : Int32).toInt = 1 := rfl
    have hj1 : (j + 1).toInt = j.toInt + 1 := by rw [ii_add (by rw [e1]; omega), e1]
    have hne : ¬ 4 * Int32.ofNat i = 0 := i_ne0 (by rw [i4_int hi]; omega)
    have hlt := lt_int hD hj hi
    have hg := gd_bd (j := j) hi
    have hgg := gg_bd (D := D) (j := j) hi
    refine k_iload C rfl rfl rfl ?_
    refine k_iload C rfl rfl rfl ?_
    refine k_icmp_gt C (t := 138) rfl rfl rfl (fun c9 => absurd (i_lt.mp c9) (by rw [n_int (by omega)]; omega)) (fun _ => ?_)
    refine k_iload C rfl rfl rfl ?_
    refine k_iload C rfl rfl rfl ?_
    refine k_imul C rfl rfl ?_
    refine k_iload_n C rfl rfl rfl ?_
    refine k_isub C rfl rfl ?_
    refine k_iconst C (x := 4) rfl rfl rfl ?_
    refine k_iload C rfl rfl rfl ?_
    refine k_imul C rfl rfl ?_
    refine k_irem C rfl rfl hne ?_
    refine k_if_eq C (t := 49) rfl rfl rfl (fun c43 => ?_) (fun c43 => ?_)
    · skip
      have h56 : rmP D (Int32.ofNat i) j = 0 := c43
      refine k_iload C rfl rfl rfl ?_
      refine k_iload C rfl rfl rfl ?_
      refine k_imul C rfl rfl ?_
      refine k_iload_n C rfl rfl rfl ?_
      refine k_isub C rfl rfl ?_
      refine k_iconst C (x := 4) rfl rfl rfl ?_
      refine k_iload C rfl rfl rfl ?_
      refine k_imul C rfl rfl ?_
      refine k_idiv C rfl rfl hne ?_
      refine k_istore C (lw := [(7, .int _), (6, .int _), (5, .int _), (4, .int _), (0, _), (1, .int _), (2, .int _), (3, .int _)]) rfl rfl (Nat.le_of_ble_eq_true rfl) rfl ?_
      refine k_iload C rfl rfl rfl ?_
      refine k_iload C rfl rfl rfl ?_
      refine k_icmp_lt C (t := 132) rfl rfl rfl (fun c67 => ?_) (fun c67 => ?_)
      · skip
        have hsk : sk1 D z k (Int32.ofNat i) j s = s := sk1_n (fun h => h.2.1.elim (fun h => absurd (Int32.lt_trans h c67) Int32.lt_irrefl) (fun h => absurd c67 (show ¬ ltP D (Int32.ofNat i) j < Int32.ofNat i by rw [h.1]; exact Int32.lt_irrefl)))
        refine k_sub S [(6, .int j), (5, .int (Int32.ofNat i)), (4, _), (0, .ref m), (1, .int D), (2, .int z), (3, .int k)] (List.forall_mem_cons.mpr ⟨List.mem_of_getElem? (i := 1) rfl, List.forall_mem_cons.mpr ⟨List.mem_of_getElem? (i := 2) rfl, List.forall_mem_cons.mpr ⟨List.mem_of_getElem? (i := 3) rfl, List.forall_mem_cons.mpr ⟨List.mem_of_getElem? (i := 4) rfl, List.forall_mem_cons.mpr ⟨List.mem_of_getElem? (i := 5) rfl, List.forall_mem_cons.mpr ⟨List.mem_of_getElem? (i := 6) rfl, List.forall_mem_cons.mpr ⟨List.mem_of_getElem? (i := 7) rfl, fun _ h => nomatch h⟩⟩⟩⟩⟩⟩⟩) ?_
        refine k_inc1 C (lw := [(6, .int _), (5, .int _), (4, .int _), (0, _), (1, .int _), (2, .int _), (3, .int _)]) rfl rfl rfl (Nat.le_of_ble_eq_true rfl) rfl ?_
        refine k_goto C (pc2 := 24) rfl rfl ?_
        exact ih (j + 1) s _ (by rw [hj1]; omega) (by omega) hF hr (fun L2 t ht hF2 hr2 => K L2 t (ht.trans (by show _ = itJ D z k (Int32.ofNat i) n (j + 1) (sk1 D z k (Int32.ofNat i) j s); rw [hsk])) hF2 hr2)
      refine k_iload C rfl rfl rfl ?_
      refine k_iload C rfl rfl rfl ?_
      refine k_icmp_ne C (t := 82) rfl rfl rfl (fun c74 => ?_) (fun c74 => ?_)
      · skip
        have hor : Int32.ofNat i < ltP D (Int32.ofNat i) j ∨ (ltP D (Int32.ofNat i) j = Int32.ofNat i ∧ 0 ≤ j) := Or.inl (lt_of_ne32 c67 c74)
        refine k_iload_n C rfl rfl rfl ?_
        refine k_if_ne C (t := 105) rfl rfl rfl (fun c83 => ?_) (fun c83 => ?_)
        · skip
          have hac : acP D z (Int32.ofNat i) j := ⟨h56, hor, Or.inl c83⟩
          refine k_iload C rfl rfl rfl ?_
          refine k_iload_n C rfl rfl rfl ?_
          refine k_icmp_ne C (t := 129) rfl rfl rfl (fun c108 => ?_) (fun c108 => ?_)
          · skip
            have hsk : sk1 D z k (Int32.ofNat i) j s = (s.1 + 1, s.2) := sk1_m hac c108
            refine k_inc1 C (lw := [(4, .int _), (7, .int _), (6, .int _), (5, .int _), (0, _), (1, .int _), (2, .int _), (3, .int _)]) rfl rfl rfl (Nat.le_of_ble_eq_true rfl) rfl ?_
            refine k_sub S [(6, .int j), (5, .int (Int32.ofNat i)), (4, _), (0, .ref m), (1, .int D), (2, .int z), (3, .int k)] (List.forall_mem_cons.mpr ⟨List.mem_of_getElem? (i := 2) rfl, List.forall_mem_cons.mpr ⟨List.mem_of_getElem? (i := 3) rfl, List.forall_mem_cons.mpr ⟨List.mem_of_getElem? (i := 0) rfl, List.forall_mem_cons.mpr ⟨List.mem_of_getElem? (i := 4) rfl, List.forall_mem_cons.mpr ⟨List.mem_of_getElem? (i := 5) rfl, List.forall_mem_cons.mpr ⟨List.mem_of_getElem? (i := 6) rfl, List.forall_mem_cons.mpr ⟨List.mem_of_getElem? (i := 7) rfl, fun _ h => nomatch h⟩⟩⟩⟩⟩⟩⟩) ?_
            refine k_inc1 C (lw := [(6, .int _), (5, .int _), (4, .int _), (0, _), (1, .int _), (2, .int _), (3, .int _)]) rfl rfl rfl (Nat.le_of_ble_eq_true rfl) rfl ?_
            refine k_goto C (pc2 := 24) rfl rfl ?_
            exact ih (j + 1) (s.1 + 1, s.2) _ (by rw [hj1]; omega) (by omega) hF ⟨hr.1.m c108, hr.2⟩ (fun L2 t ht hF2 hr2 => K L2 t (ht.trans (by show _ = itJ D z k (Int32.ofNat i) n (j + 1) (sk1 D z k (Int32.ofNat i) j s); rw [hsk])) hF2 hr2)
          refine k_aload_n C rfl rfl rfl ?_
          refine k_iload C rfl rfl rfl ?_
          refine p_I C rfl rfl rfl T_m (Or.inr rfl) rfl ?_
          refine k_aload_n C rfl rfl rfl ?_
          refine k_iload C rfl rfl rfl ?_
          refine p_I C rfl rfl rfl T_m (Or.inr rfl) rfl ?_
          refine k_aload_n C rfl rfl rfl ?_
          refine k_iload C rfl rfl rfl ?_
          refine p_I C rfl rfl rfl T_m (Or.inr rfl) rfl ?_
          refine k_inc1 C (lw := [(4, .int _), (7, .int _), (6, .int _), (5, .int _), (0, _), (1, .int _), (2, .int _), (3, .int _)]) rfl rfl rfl (Nat.le_of_ble_eq_true rfl) rfl ?_
          refine k_sub S [(6, .int j), (5, .int (Int32.ofNat i)), (4, _), (0, .ref m), (1, .int D), (2, .int z), (3, .int k)] (List.forall_mem_cons.mpr ⟨List.mem_of_getElem? (i := 2) rfl, List.forall_mem_cons.mpr ⟨List.mem_of_getElem? (i := 3) rfl, List.forall_mem_cons.mpr ⟨List.mem_of_getElem? (i := 0) rfl, List.forall_mem_cons.mpr ⟨List.mem_of_getElem? (i := 4) rfl, List.forall_mem_cons.mpr ⟨List.mem_of_getElem? (i := 5) rfl, List.forall_mem_cons.mpr ⟨List.mem_of_getElem? (i := 6) rfl, List.forall_mem_cons.mpr ⟨List.mem_of_getElem? (i := 7) rfl, fun _ h => nomatch h⟩⟩⟩⟩⟩⟩⟩) ?_
          refine k_inc1 C (lw := [(6, .int _), (5, .int _), (4, .int _), (0, _), (1, .int _), (2, .int _), (3, .int _)]) rfl rfl rfl (Nat.le_of_ble_eq_true rfl) rfl ?_
          refine k_goto C (pc2 := 24) rfl rfl ?_
          exact ih (j + 1) (s.1 + 1, Int32.ofNat i, j, ltP D (Int32.ofNat i) j) _ (by rw [hj1]; omega) (by omega) (Fr.i (Fr.i (Fr.i hF A_m) A_m) A_m) ⟨SKi.h, IK3.h hr.2⟩ (fun L2 t ht hF2 hr2 => K L2 t (ht.trans (by show _ = itJ D z k (Int32.ofNat i) n (j + 1) (sk1 D z k (Int32.ofNat i) j s); rw [sk1_y hac (Decidable.not_not.mp c108)])) hF2 hr2)
        refine k_iload C rfl rfl rfl ?_
        refine k_iload C rfl rfl rfl ?_
        refine c_SI C (e_m_shared  (by rw [n_int (by omega)]; omega) (by omega)) rfl rfl rfl rfl rfl rfl rfl (Nat.le_of_ble_eq_true rfl) (Nat.le_of_ble_eq_true rfl) (Nat.le_of_ble_eq_true rfl) ?_
        rintro _ _ _ ⟨hx7, hI8, hL9⟩
        have hx7 := hx7.symm; subst hx7
        have hI8 := hI8.symm; subst hI8; have hL9 := hL9.symm; subst hL9
        refine k_iload C rfl rfl rfl ?_
        refine c_SI C (e_m_shared  (by rw [n_int (by omega)]; omega) (show -2147483648 < (ltP D (Int32.ofNat i) j).toInt by omega)) rfl rfl rfl rfl rfl rfl rfl (Nat.le_of_ble_eq_true rfl) (Nat.le_of_ble_eq_true rfl) (Nat.le_of_ble_eq_true rfl) ?_
        rintro _ _ _ ⟨hx7, hI8, hL9⟩
        have hx7 := hx7.symm; subst hx7
        have hI8 := hI8.symm; subst hI8; have hL9 := hL9.symm; subst hL9
        refine k_iconst C (x := 1) rfl rfl rfl ?_
        refine k_icmp_le C (t := 105) rfl rfl rfl (fun c99 => ?_) (fun c99 => ?_)
        · skip
          have hac : acP D z (Int32.ofNat i) j := ⟨h56, hor, Or.inr (by have := (n_le (a := gdP D (Int32.ofNat i) j) (b := 1) (by omega) (by omega)).mp c99; omega)⟩
          refine k_iload C rfl rfl rfl ?_
          refine k_iload_n C rfl rfl rfl ?_
          refine k_icmp_ne C (t := 129) rfl rfl rfl (fun c108 => ?_) (fun c108 => ?_)
          · skip
            have hsk : sk1 D z k (Int32.ofNat i) j s = (s.1 + 1, s.2) := sk1_m hac c108
            refine k_inc1 C (lw := [(4, .int _), (7, .int _), (6, .int _), (5, .int _), (0, _), (1, .int _), (2, .int _), (3, .int _)]) rfl rfl rfl (Nat.le_of_ble_eq_true rfl) rfl ?_
            refine k_sub S [(6, .int j), (5, .int (Int32.ofNat i)), (4, _), (0, .ref m), (1, .int D), (2, .int z), (3, .int k)] (List.forall_mem_cons.mpr ⟨List.mem_of_getElem? (i := 2) rfl, List.forall_mem_cons.mpr ⟨List.mem_of_getElem? (i := 3) rfl, List.forall_mem_cons.mpr ⟨List.mem_of_getElem? (i := 0) rfl, List.forall_mem_cons.mpr ⟨List.mem_of_getElem? (i := 4) rfl, List.forall_mem_cons.mpr ⟨List.mem_of_getElem? (i := 5) rfl, List.forall_mem_cons.mpr ⟨List.mem_of_getElem? (i := 6) rfl, List.forall_mem_cons.mpr ⟨List.mem_of_getElem? (i := 7) rfl, fun _ h => nomatch h⟩⟩⟩⟩⟩⟩⟩) ?_
            refine k_inc1 C (lw := [(6, .int _), (5, .int _), (4, .int _), (0, _), (1, .int _), (2, .int _), (3, .int _)]) rfl rfl rfl (Nat.le_of_ble_eq_true rfl) rfl ?_
            refine k_goto C (pc2 := 24) rfl rfl ?_
            exact ih (j + 1) (s.1 + 1, s.2) _ (by rw [hj1]; omega) (by omega) hF ⟨hr.1.m c108, hr.2⟩ (fun L2 t ht hF2 hr2 => K L2 t (ht.trans (by show _ = itJ D z k (Int32.ofNat i) n (j + 1) (sk1 D z k (Int32.ofNat i) j s); rw [hsk])) hF2 hr2)
          refine k_aload_n C rfl rfl rfl ?_
          refine k_iload C rfl rfl rfl ?_
          refine p_I C rfl rfl rfl T_m (Or.inr rfl) rfl ?_
          refine k_aload_n C rfl rfl rfl ?_
          refine k_iload C rfl rfl rfl ?_
          refine p_I C rfl rfl rfl T_m (Or.inr rfl) rfl ?_
          refine k_aload_n C rfl rfl rfl ?_
          refine k_iload C rfl rfl rfl ?_
          refine p_I C rfl rfl rfl T_m (Or.inr rfl) rfl ?_
          refine k_inc1 C (lw := [(4, .int _), (7, .int _), (6, .int _), (5, .int _), (0, _), (1, .int _), (2, .int _), (3, .int _)]) rfl rfl rfl (Nat.le_of_ble_eq_true rfl) rfl ?_
          refine k_sub S [(6, .int j), (5, .int (Int32.ofNat i)), (4, _), (0, .ref m), (1, .int D), (2, .int z), (3, .int k)] (List.forall_mem_cons.mpr ⟨List.mem_of_getElem? (i := 2) rfl, List.forall_mem_cons.mpr ⟨List.mem_of_getElem? (i := 3) rfl, List.forall_mem_cons.mpr ⟨List.mem_of_getElem? (i := 0) rfl, List.forall_mem_cons.mpr ⟨List.mem_of_getElem? (i := 4) rfl, List.forall_mem_cons.mpr ⟨List.mem_of_getElem? (i := 5) rfl, List.forall_mem_cons.mpr ⟨List.mem_of_getElem? (i := 6) rfl, List.forall_mem_cons.mpr ⟨List.mem_of_getElem? (i := 7) rfl, fun _ h => nomatch h⟩⟩⟩⟩⟩⟩⟩) ?_
          refine k_inc1 C (lw := [(6, .int _), (5, .int _), (4, .int _), (0, _), (1, .int _), (2, .int _), (3, .int _)]) rfl rfl rfl (Nat.le_of_ble_eq_true rfl) rfl ?_
          refine k_goto C (pc2 := 24) rfl rfl ?_
          exact ih (j + 1) (s.1 + 1, Int32.ofNat i, j, ltP D (Int32.ofNat i) j) _ (by rw [hj1]; omega) (by omega) (Fr.i (Fr.i (Fr.i hF A_m) A_m) A_m) ⟨SKi.h, IK3.h hr.2⟩ (fun L2 t ht hF2 hr2 => K L2 t (ht.trans (by show _ = itJ D z k (Int32.ofNat i) n (j + 1) (sk1 D z k (Int32.ofNat i) j s); rw [sk1_y hac (Decidable.not_not.mp c108)])) hF2 hr2)
        have hsk : sk1 D z k (Int32.ofNat i) j s = s := sk1_n (fun h => h.2.2.elim (fun h => c83 h) (fun h => c99 ((n_le (a := gdP D (Int32.ofNat i) j) (b := 1) (by omega) (by omega)).mpr (by omega))))
        refine k_goto C (pc2 := 132) rfl rfl ?_
        refine k_sub S [(6, .int j), (5, .int (Int32.ofNat i)), (4, _), (0, .ref m), (1, .int D), (2, .int z), (3, .int k)] (List.forall_mem_cons.mpr ⟨List.mem_of_getElem? (i := 1) rfl, List.forall_mem_cons.mpr ⟨List.mem_of_getElem? (i := 2) rfl, List.forall_mem_cons.mpr ⟨List.mem_of_getElem? (i := 3) rfl, List.forall_mem_cons.mpr ⟨List.mem_of_getElem? (i := 4) rfl, List.forall_mem_cons.mpr ⟨List.mem_of_getElem? (i := 5) rfl, List.forall_mem_cons.mpr ⟨List.mem_of_getElem? (i := 6) rfl, List.forall_mem_cons.mpr ⟨List.mem_of_getElem? (i := 7) rfl, fun _ h => nomatch h⟩⟩⟩⟩⟩⟩⟩) ?_
        refine k_inc1 C (lw := [(6, .int _), (5, .int _), (4, .int _), (0, _), (1, .int _), (2, .int _), (3, .int _)]) rfl rfl rfl (Nat.le_of_ble_eq_true rfl) rfl ?_
        refine k_goto C (pc2 := 24) rfl rfl ?_
        exact ih (j + 1) s _ (by rw [hj1]; omega) (by omega) hF hr (fun L2 t ht hF2 hr2 => K L2 t (ht.trans (by show _ = itJ D z k (Int32.ofNat i) n (j + 1) (sk1 D z k (Int32.ofNat i) j s); rw [hsk])) hF2 hr2)
      have h70 : ltP D (Int32.ofNat i) j = Int32.ofNat i := Decidable.not_not.mp c74
      refine k_iload C rfl rfl rfl ?_
      refine k_if_lt C (t := 132) rfl rfl rfl (fun c79 => ?_) (fun c79 => ?_)
      · skip
        have hsk : sk1 D z k (Int32.ofNat i) j s = s := sk1_n (fun h => h.2.1.elim (fun h => absurd h (by rw [h70]; exact Int32.lt_irrefl)) (fun h => absurd h.2 (Int32.not_le.mpr c79)))
        refine k_sub S [(6, .int j), (5, .int (Int32.ofNat i)), (4, _), (0, .ref m), (1, .int D), (2, .int z), (3, .int k)] (List.forall_mem_cons.mpr ⟨List.mem_of_getElem? (i := 1) rfl, List.forall_mem_cons.mpr ⟨List.mem_of_getElem? (i := 2) rfl, List.forall_mem_cons.mpr ⟨List.mem_of_getElem? (i := 3) rfl, List.forall_mem_cons.mpr ⟨List.mem_of_getElem? (i := 4) rfl, List.forall_mem_cons.mpr ⟨List.mem_of_getElem? (i := 5) rfl, List.forall_mem_cons.mpr ⟨List.mem_of_getElem? (i := 6) rfl, List.forall_mem_cons.mpr ⟨List.mem_of_getElem? (i := 7) rfl, fun _ h => nomatch h⟩⟩⟩⟩⟩⟩⟩) ?_
        refine k_inc1 C (lw := [(6, .int _), (5, .int _), (4, .int _), (0, _), (1, .int _), (2, .int _), (3, .int _)]) rfl rfl rfl (Nat.le_of_ble_eq_true rfl) rfl ?_
        refine k_goto C (pc2 := 24) rfl rfl ?_
        exact ih (j + 1) s _ (by rw [hj1]; omega) (by omega) hF hr (fun L2 t ht hF2 hr2 => K L2 t (ht.trans (by show _ = itJ D z k (Int32.ofNat i) n (j + 1) (sk1 D z k (Int32.ofNat i) j s); rw [hsk])) hF2 hr2)
      have hor : Int32.ofNat i < ltP D (Int32.ofNat i) j ∨ (ltP D (Int32.ofNat i) j = Int32.ofNat i ∧ 0 ≤ j) := Or.inr ⟨h70, Int32.not_lt.mp c79⟩
      refine k_iload_n C rfl rfl rfl ?_
      refine k_if_ne C (t := 105) rfl rfl rfl (fun c83 => ?_) (fun c83 => ?_)
      · skip
        have hac : acP D z (Int32.ofNat i) j := ⟨h56, hor, Or.inl c83⟩
        refine k_iload C rfl rfl rfl ?_
        refine k_iload_n C rfl rfl rfl ?_
        refine k_icmp_ne C (t := 129) rfl rfl rfl (fun c108 => ?_) (fun c108 => ?_)
        · skip
          have hsk : sk1 D z k (Int32.ofNat i) j s = (s.1 + 1, s.2) := sk1_m hac c108
          refine k_inc1 C (lw := [(4, .int _), (7, .int _), (6, .int _), (5, .int _), (0, _), (1, .int _), (2, .int _), (3, .int _)]) rfl rfl rfl (Nat.le_of_ble_eq_true rfl) rfl ?_
          refine k_sub S [(6, .int j), (5, .int (Int32.ofNat i)), (4, _), (0, .ref m), (1, .int D), (2, .int z), (3, .int k)] (List.forall_mem_cons.mpr ⟨List.mem_of_getElem? (i := 2) rfl, List.forall_mem_cons.mpr ⟨List.mem_of_getElem? (i := 3) rfl, List.forall_mem_cons.mpr ⟨List.mem_of_getElem? (i := 0) rfl, List.forall_mem_cons.mpr ⟨List.mem_of_getElem? (i := 4) rfl, List.forall_mem_cons.mpr ⟨List.mem_of_getElem? (i := 5) rfl, List.forall_mem_cons.mpr ⟨List.mem_of_getElem? (i := 6) rfl, List.forall_mem_cons.mpr ⟨List.mem_of_getElem? (i := 7) rfl, fun _ h => nomatch h⟩⟩⟩⟩⟩⟩⟩) ?_
          refine k_inc1 C (lw := [(6, .int _), (5, .int _), (4, .int _), (0, _), (1, .int _), (2, .int _), (3, .int _)]) rfl rfl rfl (Nat.le_of_ble_eq_true rfl) rfl ?_
          refine k_goto C (pc2 := 24) rfl rfl ?_
          exact ih (j + 1) (s.1 + 1, s.2) _ (by rw [hj1]; omega) (by omega) hF ⟨hr.1.m c108, hr.2⟩ (fun L2 t ht hF2 hr2 => K L2 t (ht.trans (by show _ = itJ D z k (Int32.ofNat i) n (j + 1) (sk1 D z k (Int32.ofNat i) j s); rw [hsk])) hF2 hr2)
        refine k_aload_n C rfl rfl rfl ?_
        refine k_iload C rfl rfl rfl ?_
        refine p_I C rfl rfl rfl T_m (Or.inr rfl) rfl ?_
        refine k_aload_n C rfl rfl rfl ?_
        refine k_iload C rfl rfl rfl ?_
        refine p_I C rfl rfl rfl T_m (Or.inr rfl) rfl ?_
        refine k_aload_n C rfl rfl rfl ?_
        refine k_iload C rfl rfl rfl ?_
        refine p_I C rfl rfl rfl T_m (Or.inr rfl) rfl ?_
        refine k_inc1 C (lw := [(4, .int _), (7, .int _), (6, .int _), (5, .int _), (0, _), (1, .int _), (2, .int _), (3, .int _)]) rfl rfl rfl (Nat.le_of_ble_eq_true rfl) rfl ?_
        refine k_sub S [(6, .int j), (5, .int (Int32.ofNat i)), (4, _), (0, .ref m), (1, .int D), (2, .int z), (3, .int k)] (List.forall_mem_cons.mpr ⟨List.mem_of_getElem? (i := 2) rfl, List.forall_mem_cons.mpr ⟨List.mem_of_getElem? (i := 3) rfl, List.forall_mem_cons.mpr ⟨List.mem_of_getElem? (i := 0) rfl, List.forall_mem_cons.mpr ⟨List.mem_of_getElem? (i := 4) rfl, List.forall_mem_cons.mpr ⟨List.mem_of_getElem? (i := 5) rfl, List.forall_mem_cons.mpr ⟨List.mem_of_getElem? (i := 6) rfl, List.forall_mem_cons.mpr ⟨List.mem_of_getElem? (i := 7) rfl, fun _ h => nomatch h⟩⟩⟩⟩⟩⟩⟩) ?_
        refine k_inc1 C (lw := [(6, .int _), (5, .int _), (4, .int _), (0, _), (1, .int _), (2, .int _), (3, .int _)]) rfl rfl rfl (Nat.le_of_ble_eq_true rfl) rfl ?_
        refine k_goto C (pc2 := 24) rfl rfl ?_
        exact ih (j + 1) (s.1 + 1, Int32.ofNat i, j, ltP D (Int32.ofNat i) j) _ (by rw [hj1]; omega) (by omega) (Fr.i (Fr.i (Fr.i hF A_m) A_m) A_m) ⟨SKi.h, IK3.h hr.2⟩ (fun L2 t ht hF2 hr2 => K L2 t (ht.trans (by show _ = itJ D z k (Int32.ofNat i) n (j + 1) (sk1 D z k (Int32.ofNat i) j s); rw [sk1_y hac (Decidable.not_not.mp c108)])) hF2 hr2)
      refine k_iload C rfl rfl rfl ?_
      refine k_iload C rfl rfl rfl ?_
      refine c_SI C (e_m_shared  (by rw [n_int (by omega)]; omega) (by omega)) rfl rfl rfl rfl rfl rfl rfl (Nat.le_of_ble_eq_true rfl) (Nat.le_of_ble_eq_true rfl) (Nat.le_of_ble_eq_true rfl) ?_
      rintro _ _ _ ⟨hx7, hI8, hL9⟩
      have hx7 := hx7.symm; subst hx7
      have hI8 := hI8.symm; subst hI8; have hL9 := hL9.symm; subst hL9
      refine k_iload C rfl rfl rfl ?_
      refine c_SI C (e_m_shared  (by rw [n_int (by omega)]; omega) (show -2147483648 < (ltP D (Int32.ofNat i) j).toInt by omega)) rfl rfl rfl rfl rfl rfl rfl (Nat.le_of_ble_eq_true rfl) (Nat.le_of_ble_eq_true rfl) (Nat.le_of_ble_eq_true rfl) ?_
      rintro _ _ _ ⟨hx7, hI8, hL9⟩
      have hx7 := hx7.symm; subst hx7
      have hI8 := hI8.symm; subst hI8; have hL9 := hL9.symm; subst hL9
      refine k_iconst C (x := 1) rfl rfl rfl ?_
      refine k_icmp_le C (t := 105) rfl rfl rfl (fun c99 => ?_) (fun c99 => ?_)
      · skip
        have hac : acP D z (Int32.ofNat i) j := ⟨h56, hor, Or.inr (by have := (n_le (a := gdP D (Int32.ofNat i) j) (b := 1) (by omega) (by omega)).mp c99; omega)⟩
        refine k_iload C rfl rfl rfl ?_
        refine k_iload_n C rfl rfl rfl ?_
        refine k_icmp_ne C (t := 129) rfl rfl rfl (fun c108 => ?_) (fun c108 => ?_)
        · skip
          have hsk : sk1 D z k (Int32.ofNat i) j s = (s.1 + 1, s.2) := sk1_m hac c108
          refine k_inc1 C (lw := [(4, .int _), (7, .int _), (6, .int _), (5, .int _), (0, _), (1, .int _), (2, .int _), (3, .int _)]) rfl rfl rfl (Nat.le_of_ble_eq_true rfl) rfl ?_
          refine k_sub S [(6, .int j), (5, .int (Int32.ofNat i)), (4, _), (0, .ref m), (1, .int D), (2, .int z), (3, .int k)] (List.forall_mem_cons.mpr ⟨List.mem_of_getElem? (i := 2) rfl, List.forall_mem_cons.mpr ⟨List.mem_of_getElem? (i := 3) rfl, List.forall_mem_cons.mpr ⟨List.mem_of_getElem? (i := 0) rfl, List.forall_mem_cons.mpr ⟨List.mem_of_getElem? (i := 4) rfl, List.forall_mem_cons.mpr ⟨List.mem_of_getElem? (i := 5) rfl, List.forall_mem_cons.mpr ⟨List.mem_of_getElem? (i := 6) rfl, List.forall_mem_cons.mpr ⟨List.mem_of_getElem? (i := 7) rfl, fun _ h => nomatch h⟩⟩⟩⟩⟩⟩⟩) ?_
          refine k_inc1 C (lw := [(6, .int _), (5, .int _), (4, .int _), (0, _), (1, .int _), (2, .int _), (3, .int _)]) rfl rfl rfl (Nat.le_of_ble_eq_true rfl) rfl ?_
          refine k_goto C (pc2 := 24) rfl rfl ?_
          exact ih (j + 1) (s.1 + 1, s.2) _ (by rw [hj1]; omega) (by omega) hF ⟨hr.1.m c108, hr.2⟩ (fun L2 t ht hF2 hr2 => K L2 t (ht.trans (by show _ = itJ D z k (Int32.ofNat i) n (j + 1) (sk1 D z k (Int32.ofNat i) j s); rw [hsk])) hF2 hr2)
        refine k_aload_n C rfl rfl rfl ?_
        refine k_iload C rfl rfl rfl ?_
        refine p_I C rfl rfl rfl T_m (Or.inr rfl) rfl ?_
        refine k_aload_n C rfl rfl rfl ?_
        refine k_iload C rfl rfl rfl ?_
        refine p_I C rfl rfl rfl T_m (Or.inr rfl) rfl ?_
        refine k_aload_n C rfl rfl rfl ?_
        refine k_iload C rfl rfl rfl ?_
        refine p_I C rfl rfl rfl T_m (Or.inr rfl) rfl ?_
        refine k_inc1 C (lw := [(4, .int _), (7, .int _), (6, .int _), (5, .int _), (0, _), (1, .int _), (2, .int _), (3, .int _)]) rfl rfl rfl (Nat.le_of_ble_eq_true rfl) rfl ?_
        refine k_sub S [(6, .int j), (5, .int (Int32.ofNat i)), (4, _), (0, .ref m), (1, .int D), (2, .int z), (3, .int k)] (List.forall_mem_cons.mpr ⟨List.mem_of_getElem? (i := 2) rfl, List.forall_mem_cons.mpr ⟨List.mem_of_getElem? (i := 3) rfl, List.forall_mem_cons.mpr ⟨List.mem_of_getElem? (i := 0) rfl, List.forall_mem_cons.mpr ⟨List.mem_of_getElem? (i := 4) rfl, List.forall_mem_cons.mpr ⟨List.mem_of_getElem? (i := 5) rfl, List.forall_mem_cons.mpr ⟨List.mem_of_getElem? (i := 6) rfl, List.forall_mem_cons.mpr ⟨List.mem_of_getElem? (i := 7) rfl, fun _ h => nomatch h⟩⟩⟩⟩⟩⟩⟩) ?_
        refine k_inc1 C (lw := [(6, .int _), (5, .int _), (4, .int _), (0, _), (1, .int _), (2, .int _), (3, .int _)]) rfl rfl rfl (Nat.le_of_ble_eq_true rfl) rfl ?_
        refine k_goto C (pc2 := 24) rfl rfl ?_
        exact ih (j + 1) (s.1 + 1, Int32.ofNat i, j, ltP D (Int32.ofNat i) j) _ (by rw [hj1]; omega) (by omega) (Fr.i (Fr.i (Fr.i hF A_m) A_m) A_m) ⟨SKi.h, IK3.h hr.2⟩ (fun L2 t ht hF2 hr2 => K L2 t (ht.trans (by show _ = itJ D z k (Int32.ofNat i) n (j + 1) (sk1 D z k (Int32.ofNat i) j s); rw [sk1_y hac (Decidable.not_not.mp c108)])) hF2 hr2)
      have hsk : sk1 D z k (Int32.ofNat i) j s = s := sk1_n (fun h => h.2.2.elim (fun h => c83 h) (fun h => c99 ((n_le (a := gdP D (Int32.ofNat i) j) (b := 1) (by omega) (by omega)).mpr (by omega))))
      refine k_goto C (pc2 := 132) rfl rfl ?_
      refine k_sub S [(6, .int j), (5, .int (Int32.ofNat i)), (4, _), (0, .ref m), (1, .int D), (2, .int z), (3, .int k)] (List.forall_mem_cons.mpr ⟨List.mem_of_getElem? (i := 1) rfl, List.forall_mem_cons.mpr ⟨List.mem_of_getElem? (i := 2) rfl, List.forall_mem_cons.mpr ⟨List.mem_of_getElem? (i := 3) rfl, List.forall_mem_cons.mpr ⟨List.mem_of_getElem? (i := 4) rfl, List.forall_mem_cons.mpr ⟨List.mem_of_getElem? (i := 5) rfl, List.forall_mem_cons.mpr ⟨List.mem_of_getElem? (i := 6) rfl, List.forall_mem_cons.mpr ⟨List.mem_of_getElem? (i := 7) rfl, fun _ h => nomatch h⟩⟩⟩⟩⟩⟩⟩) ?_
      refine k_inc1 C (lw := [(6, .int _), (5, .int _), (4, .int _), (0, _), (1, .int _), (2, .int _), (3, .int _)]) rfl rfl rfl (Nat.le_of_ble_eq_true rfl) rfl ?_
      refine k_goto C (pc2 := 24) rfl rfl ?_
      exact ih (j + 1) s _ (by rw [hj1]; omega) (by omega) hF hr (fun L2 t ht hF2 hr2 => K L2 t (ht.trans (by show _ = itJ D z k (Int32.ofNat i) n (j + 1) (sk1 D z k (Int32.ofNat i) j s); rw [hsk])) hF2 hr2)
    have hsk : sk1 D z k (Int32.ofNat i) j s = s := sk1_n (fun h => c43 h.1)
    refine k_goto C (pc2 := 132) rfl rfl ?_
    refine k_sub S [(6, .int j), (5, .int (Int32.ofNat i)), (4, _), (0, .ref m), (1, .int D), (2, .int z), (3, .int k)] (List.forall_mem_cons.mpr ⟨List.mem_of_getElem? (i := 0) rfl, List.forall_mem_cons.mpr ⟨List.mem_of_getElem? (i := 1) rfl, List.forall_mem_cons.mpr ⟨List.mem_of_getElem? (i := 2) rfl, List.forall_mem_cons.mpr ⟨List.mem_of_getElem? (i := 3) rfl, List.forall_mem_cons.mpr ⟨List.mem_of_getElem? (i := 4) rfl, List.forall_mem_cons.mpr ⟨List.mem_of_getElem? (i := 5) rfl, List.forall_mem_cons.mpr ⟨List.mem_of_getElem? (i := 6) rfl, fun _ h => nomatch h⟩⟩⟩⟩⟩⟩⟩) ?_
    refine k_inc1 C (lw := [(6, .int _), (5, .int _), (4, .int _), (0, _), (1, .int _), (2, .int _), (3, .int _)]) rfl rfl rfl (Nat.le_of_ble_eq_true rfl) rfl ?_
    refine k_goto C (pc2 := 24) rfl rfl ?_
    exact ih (j + 1) s _ (by rw [hj1]; omega) (by omega) hF hr (fun L2 t ht hF2 hr2 => K L2 t (ht.trans (by show _ = itJ D z k (Int32.ofNat i) n (j + 1) (sk1 D z k (Int32.ofNat i) j s); rw [hsk])) hF2 hr2)
