/-! CLASSES, the calls -/
theorem cs_outer {d : Nat} {V : V_T} {q : mm_T} {Post : Po} {T N : Nat → Nat} {R : RT} {A : Nat → Prop} {I : IT} {L : LT} {wh : Nat} {D z k : Int32} (hq : P_ml[120]? = some q) (C : Cl (d + 2) q 0 0 Post V) (S : SB V) (T_wh : T wh = 11) (A_wh : A wh) (hD : isDc D) (hz : z = 0 ∨ z = 1) : ∀ (n i : Nat) (s : SG) (L1 : LT), n + i = 59 → 1 ≤ i → i ≤ 58 → Fr A I L I L1 → SKc k s L1 wh → (∀ (L2 : LT) (t : SG), t = itI D z k n i s → Fr A I L I L2 → SKc k t L2 wh → ∀ x5 : Int32, V 152 [(5, .int x5), (4, .int t.1), (0, .ref wh), (1, .int D), (2, .int z), (3, .int k)] [] (T, N, I, L2, R) 0 0) → V 6 [(5, .int (Int32.ofNat i)), (4, .int s.1), (0, .ref wh), (1, .int D), (2, .int z), (3, .int k)] [] (T, N, I, L1, R) 0 0 := by
  intro n
  induction n with
  | zero => intro i s L1 hn h1 h2; omega
  | succ n ih =>
    intro i s L1 hn h1 h2 hF hr K
    have hq9 := hq
    cases hq
    have e3 := i3_int h2
    have en := neg32 hD
    obtain ⟨d1, d2, d3⟩ := id hD
    refine k_iconst C (x := 3) rfl rfl rfl ?_
    refine k_iload C rfl rfl rfl ?_
    refine k_imul C rfl rfl ?_
    refine k_iload C rfl rfl rfl ?_
    refine k_imul C rfl rfl ?_
    refine k_iload_n C rfl rfl rfl ?_
    refine k_ineg C rfl rfl ?_
    refine k_icmp_gt C (t := 152) rfl rfl rfl (fun c => ?_) (fun c => ?_)
    · exact K _ s (by show _ = @ite SG _ (Classical.propDecidable _) s _; exact (if_pos c).symm) hF hr _
    · have hi57 : i ≤ 57 := by
        have c2 : ¬ (-D).toInt < (3 * Int32.ofNat i * Int32.ofNat i).toInt := fun h => c (i_lt.mpr h)
        rw [e3, en] at c2
        rcases Nat.lt_or_ge i 58 with q9 | q9
        · omega
        · have : i = 58 := by omega
          subst this; omega
      have e1 : (1 : Int32).toInt = 1 := rfl
      have hj : (1 - Int32.ofNat i).toInt = 1 - (i : Int) := by rw [ii_sub (by rw [e1, n_int (by omega)]; omega), e1, n_int (by omega)]
      refine k_iconst C (x := 1) rfl rfl rfl ?_
      refine k_iload C rfl rfl rfl ?_
      refine k_isub C rfl rfl ?_
      refine k_istore C (lw := [(6, .int _), (5, .int _), (4, .int _), (0, _), (1, .int _), (2, .int _), (3, .int _)]) rfl rfl (Nat.le_of_ble_eq_true rfl) rfl ?_
      refine cs_inner hq9 C S T_wh A_wh hD hz ⟨h1, hi57⟩ (2 * i) _ s _ (by rw [hj]; omega) (by rw [hj]; omega) hF hr (fun L2 t ht hF2 hr2 x6 => ?_)
      refine k_sub S [(5, .int (Int32.ofNat i)), (4, .int t.1), (0, .ref wh), (1, .int D), (2, .int z), (3, .int k)] (List.forall_mem_cons.mpr ⟨List.mem_of_getElem? (i := 1) rfl, List.forall_mem_cons.mpr ⟨List.mem_of_getElem? (i := 2) rfl, List.forall_mem_cons.mpr ⟨List.mem_of_getElem? (i := 3) rfl, List.forall_mem_cons.mpr ⟨List.mem_of_getElem? (i := 4) rfl, List.forall_mem_cons.mpr ⟨List.mem_of_getElem? (i := 5) rfl, List.forall_mem_cons.mpr ⟨List.mem_of_getElem? (i := 6) rfl, fun _ h => nomatch h⟩⟩⟩⟩⟩⟩) ?_
      refine k_inc1 C (lw := [(5, .int _), (4, .int _), (0, _), (1, .int _), (2, .int _), (3, .int _)]) rfl rfl rfl (Nat.le_of_ble_eq_true rfl) rfl ?_
      refine k_goto C (pc2 := 6) rfl rfl ?_
      rw [n_s]
      exact ih (i + 1) t _ (by omega) (by omega) (by omega) hF2 hr2 (fun L3 t3 ht3 hF3 hr3 => K L3 t3 (ht3.trans (by rw [ht]; show _ = @ite SG _ (Classical.propDecidable _) s _; exact (if_neg c).symm)) hF3 hr3)
theorem ms_outer {d : Nat} {V : V_T} {q : mm_T} {Post : Po} {T N : Nat → Nat} {R : RT} {A : Nat → Prop} {I : IT} {L : LT} {m : Nat} {D z k : Int32} (hq : P_ml[306]? = some q) (C : Cl (d + 2) q 0 0 Post V) (S : SB V) (T_m : T m = 13) (A_m : A m) (hD : isDc D) (hz : z = 0 ∨ z = 1) : ∀ (n i : Nat) (s : SG) (I1 : IT), n + i = 59 → 1 ≤ i → i ≤ 58 → Fr A I L I1 L → (SKi k s I1 m ∧ IK3 m I I1) → (∀ (I2 : IT) (t : SG), t = itI D z k n i s → Fr A I L I2 L → (SKi k t I2 m ∧ IK3 m I I2) → ∀ x5 : Int32, V 144 [(5, .int x5), (4, .int t.1), (0, .ref m), (1, .int D), (2, .int z), (3, .int k)] [] (T, N, I2, L, R) 0 0) → V 6 [(5, .int (Int32.ofNat i)), (4, .int s.1), (0, .ref m), (1, .int D), (2, .int z), (3, .int k)] [] (T, N, I1, L, R) 0 0 := by
  intro n
  induction n with
  | zero => intro i s I1 hn h1 h2; omega
  | succ n ih =>
    intro i s I1 hn h1 h2 hF hr K
    have hq9 := hq
    cases hq
    have e3 := i3_int h2
    have en := neg32 hD
    obtain ⟨d1, d2, d3⟩ := id hD
    refine k_iconst C (x := 3) rfl rfl rfl ?_
    refine k_iload C rfl rfl rfl ?_
    refine k_imul C rfl rfl ?_
    refine k_iload C rfl rfl rfl ?_
    refine k_imul C rfl rfl ?_
    refine k_iload_n C rfl rfl rfl ?_
    refine k_ineg C rfl rfl ?_
    refine k_icmp_gt C (t := 144) rfl rfl rfl (fun c => ?_) (fun c => ?_)
    · exact K _ s (by show _ = @ite SG _ (Classical.propDecidable _) s _; exact (if_pos c).symm) hF hr _
    · have hi57 : i ≤ 57 := by
        have c2 : ¬ (-D).toInt < (3 * Int32.ofNat i * Int32.ofNat i).toInt := fun h => c (i_lt.mpr h)
        rw [e3, en] at c2
        rcases Nat.lt_or_ge i 58 with q9 | q9
        · omega
        · have : i = 58 := by omega
          subst this; omega
      have e1 : (1 : Int32).toInt = 1 := rfl
      have hj : (1 - Int32.ofNat i).toInt = 1 - (i : Int) := by rw [ii_sub (by rw [e1, n_int (by omega)]; omega), e1, n_int (by omega)]
      refine k_iconst C (x := 1) rfl rfl rfl ?_
      refine k_iload C rfl rfl rfl ?_
      refine k_isub C rfl rfl ?_
      refine k_istore C (lw := [(6, .int _), (5, .int _), (4, .int _), (0, _), (1, .int _), (2, .int _), (3, .int _)]) rfl rfl (Nat.le_of_ble_eq_true rfl) rfl ?_
      refine ms_inner hq9 C S T_m A_m hD hz ⟨h1, hi57⟩ (2 * i) _ s _ (by rw [hj]; omega) (by rw [hj]; omega) hF hr (fun I2 t ht hF2 hr2 x6 => ?_)
      refine k_sub S [(5, .int (Int32.ofNat i)), (4, .int t.1), (0, .ref m), (1, .int D), (2, .int z), (3, .int k)] (List.forall_mem_cons.mpr ⟨List.mem_of_getElem? (i := 1) rfl, List.forall_mem_cons.mpr ⟨List.mem_of_getElem? (i := 2) rfl, List.forall_mem_cons.mpr ⟨List.mem_of_getElem? (i := 3) rfl, List.forall_mem_cons.mpr ⟨List.mem_of_getElem? (i := 4) rfl, List.forall_mem_cons.mpr ⟨List.mem_of_getElem? (i := 5) rfl, List.forall_mem_cons.mpr ⟨List.mem_of_getElem? (i := 6) rfl, fun _ h => nomatch h⟩⟩⟩⟩⟩⟩) ?_
      refine k_inc1 C (lw := [(5, .int _), (4, .int _), (0, _), (1, .int _), (2, .int _), (3, .int _)]) rfl rfl rfl (Nat.le_of_ble_eq_true rfl) rfl ?_
      refine k_goto C (pc2 := 6) rfl rfl ?_
      rw [n_s]
      exact ih (i + 1) t _ (by omega) (by omega) (by omega) hF2 hr2 (fun I3 t3 ht3 hF3 hr3 => K I3 t3 (ht3.trans (by rw [ht]; show _ = @ite SG _ (Classical.propDecidable _) s _; exact (if_neg c).symm)) hF3 hr3)
noncomputable def sgP (D z k : Int32) : SG := itI D z k 58 1 (0, 0, 0, 0)
theorem e_seek {d : Nat} {T N : Nat → Nat} {I : IT} {L : LT} {R : RT} {A : Nat → Prop} {wh : Nat} {D z k : Int32} (T_wh : T wh = 11) (A_wh : A wh) (hD : isDc D) (hz : z = 0 ∨ z = 1) : Ex (d + 3) 120 [.ref wh, .int D, .int z, .int k] (T, N, I, L, R) 0 0 (pI T N R (fun x9 I9 L9 => x9 = (sgP D z k).1 ∧ I9 = I ∧ Fr A I L I9 L9 ∧ SKc k (sgP D z k) L9 wh)) := by
  refine ⟨_, rfl, Nat.le_of_ble_eq_true rfl, fun V C S => ?_⟩
  show V 0 [(0, .ref wh), (1, .int D), (2, .int z), (3, .int k)] [] (T, N, I, L, R) 0 0
  refine k_iconst C (x := 0) rfl rfl rfl ?_
  refine k_istore C (lw := [(4, .int _), (0, _), (1, .int _), (2, .int _), (3, .int _)]) rfl rfl (Nat.le_of_ble_eq_true rfl) rfl ?_
  refine k_iconst C (x := 1) rfl rfl rfl ?_
  refine k_istore C (lw := [(5, .int _), (4, .int _), (0, _), (1, .int _), (2, .int _), (3, .int _)]) rfl rfl (Nat.le_of_ble_eq_true rfl) rfl ?_
  refine cs_outer (L := L) (I := I) rfl C S T_wh A_wh hD hz 58 1 (0, 0, 0, 0) _ (by omega) (Nat.le_refl _) (by omega) Fr.rf SKc.z (fun M2 t ht hF2 hr2 x5 => ?_)
  refine k_iload C rfl rfl rfl ?_
  subst ht
  exact k_iret C rfl (Or.inl rfl) (Nat.le_of_ble_eq_true rfl) (Nat.le_of_ble_eq_true rfl) ⟨_, _, _, rfl, rfl, rfl, rfl, hF2, hr2⟩


theorem e_m_reducedMany {d : Nat} {T N : Nat → Nat} {I : IT} {L : LT} {R : RT} {A : Nat → Prop} {m : Nat} {D z k : Int32} (T_m : T m = 13) (A_m : A m) (hD : isDc D) (hz : z = 0 ∨ z = 1) : Ex (d + 3) 306 [.ref m, .int D, .int z, .int k] (T, N, I, L, R) 0 0 (pI T N R (fun x9 I9 L9 => x9 = (sgP D z k).1 ∧ L9 = L ∧ Fr A I L I9 L9 ∧ SKi k (sgP D z k) I9 m ∧ IK3 m I I9)) := by
  refine ⟨_, rfl, Nat.le_of_ble_eq_true rfl, fun V C S => ?_⟩
  show V 0 [(0, .ref m), (1, .int D), (2, .int z), (3, .int k)] [] (T, N, I, L, R) 0 0
  refine k_iconst C (x := 0) rfl rfl rfl ?_
  refine k_istore C (lw := [(4, .int _), (0, _), (1, .int _), (2, .int _), (3, .int _)]) rfl rfl (Nat.le_of_ble_eq_true rfl) rfl ?_
  refine k_iconst C (x := 1) rfl rfl rfl ?_
  refine k_istore C (lw := [(5, .int _), (4, .int _), (0, _), (1, .int _), (2, .int _), (3, .int _)]) rfl rfl (Nat.le_of_ble_eq_true rfl) rfl ?_
  refine ms_outer (L := L) (I := I) rfl C S T_m A_m hD hz 58 1 (0, 0, 0, 0) _ (by omega) (Nat.le_refl _) (by omega) Fr.rf ⟨SKi.z, fun _ _ => rfl⟩ (fun M2 t ht hF2 hr2 x5 => ?_)
  refine k_iload C rfl rfl rfl ?_
  subst ht
  exact k_iret C rfl (Or.inl rfl) (Nat.le_of_ble_eq_true rfl) (Nat.le_of_ble_eq_true rfl) ⟨_, _, _, rfl, rfl, rfl, rfl, hF2, hr2⟩


theorem e_classes_no {d : Nat} {T N : Nat → Nat} {I : IT} {L : LT} {R : RT} {x : Nat} {D z : Int32} (T_x : T x = 12) (h : ¬ isDc D) : Ex (d + 3) 171 [.ref x, .int D, .int z] (T, N, I, L, R) 1 6 (pX 0 T N R (fun I9 L9 => I9 = I ∧ L9 = L)) := by
  refine ⟨_, rfl, Nat.le_of_ble_eq_true rfl, fun V C S => ?_⟩
  show V 0 [(0, .ref x), (1, .int D), (2, .int z)] [] (T, N, I, L, R) 0 0
  refine k_iload_n C rfl rfl rfl ?_
  refine c_SI C (e_isDisc_no  h) rfl rfl rfl rfl rfl rfl rfl (Nat.le_of_ble_eq_true rfl) (Nat.le_of_ble_eq_true rfl) (Nat.le_of_ble_eq_true rfl) ?_
  rintro _ _ _ ⟨hI8, hL9, hx7⟩
  subst hx7
  have hI8 := hI8.symm; subst hI8; have hL9 := hL9.symm; subst hL9
  refine k_if_ne C (t := 15) rfl rfl rfl (fun c4 => absurd c4 (by decide)) (fun _ => ?_)
  exact k_throw C rfl rfl rfl rfl rfl rfl (Nat.le_of_ble_eq_true rfl) (Nat.le_of_ble_eq_true rfl) (Nat.le_of_ble_eq_true rfl) ⟨_, _, rfl, rfl, ⟨rfl, rfl⟩⟩

theorem e_classes_yes {d : Nat} {T N : Nat → Nat} {I : IT} {L : LT} {R : RT} {A : Nat → Prop} {x wh : Nat} {D z : Int32} (T_x : T x = 12) (R_x_10 : R x 10 = some wh) (T_wh : T wh = 11) (A_wh : A wh) (hD : isDc D) (hz : z = 0 ∨ z = 1) : Ex (d + 4) 171 [.ref x, .int D, .int z] (T, N, I, L, R) 0 0 (pI T N R (fun x9 I9 L9 => x9 = (sgP D z (-1)).1 ∧ Fr A I L I9 L9)) := by
  refine ⟨_, rfl, Nat.le_of_ble_eq_true rfl, fun V C S => ?_⟩
  show V 0 [(0, .ref x), (1, .int D), (2, .int z)] [] (T, N, I, L, R) 0 0
  refine k_iload_n C rfl rfl rfl ?_
  refine c_SI C (e_isDisc_yes  hD) rfl rfl rfl rfl rfl rfl rfl (Nat.le_of_ble_eq_true rfl) (Nat.le_of_ble_eq_true rfl) (Nat.le_of_ble_eq_true rfl) ?_
  rintro _ _ _ ⟨hI8, hL9, hx7⟩
  subst hx7
  have hI8 := hI8.symm; subst hI8; have hL9 := hL9.symm; subst hL9
  refine k_if_ne C (t := 15) rfl rfl rfl (fun _ => ?_) (fun c4 => absurd (by decide) c4)
  refine k_aload_n C rfl rfl rfl ?_
  refine g_R C rfl rfl rfl T_x rfl R_x_10 ?_
  refine k_iload_n C rfl rfl rfl ?_
  refine k_iload_n C rfl rfl rfl ?_
  refine k_iconst C (x := -1) rfl rfl rfl ?_
  refine c_VI C (e_seek T_wh A_wh hD hz) rfl rfl rfl rfl rfl ⟨_, rfl, rfl, T_wh, Nat.le_of_ble_eq_true rfl⟩ rfl rfl (Nat.le_of_ble_eq_true rfl) (Nat.le_of_ble_eq_true rfl) (Nat.le_of_ble_eq_true rfl) ?_
  rintro _ I1 L1 ⟨rfl, hI8, hF, hr⟩
  exact k_iret C rfl (Or.inl rfl) (Nat.le_of_ble_eq_true rfl) (Nat.le_of_ble_eq_true rfl) ⟨_, _, _, rfl, rfl, ⟨rfl, hF⟩⟩

def okRa (D k : Int32) : Prop := isDc D ∧ 0 ≤ k
noncomputable def raP (D k : Int32) (n : Int) : Int32 := @ite _ (k < (sgP D 0 k).1) (Classical.propDecidable _) (if n = 0 then (sgP D 0 k).2.1 else if n = 1 then (sgP D 0 k).2.2.1 else (sgP D 0 k).2.2.2) (-9999)
theorem isDc_cases {D k : Int32} (h : ¬ okRa D k) : ¬ isDc D ∨ (isDc D ∧ k < 0) := by
  rcases Classical.em (isDc D) with q | q
  · exact Or.inr ⟨q, Classical.byContradiction (fun e => h ⟨q, Int32.not_lt.mp e⟩)⟩
  · exact Or.inl q
theorem in02 {n : Int32} : ((0 : Int32) ≤ n ∧ n ≤ 2) ↔ (0 ≤ n.toInt ∧ n.toInt ≤ 2) := by rw [i_le, i_le]; exact Iff.rfl
theorem e_reducedAt_no1 {d : Nat} {T N : Nat → Nat} {I : IT} {L : LT} {R : RT} {x : Nat} {D k n : Int32} (T_x : T x = 12) (h : ¬ isDc D) : Ex (d + 3) 172 [.ref x, .int D, .int k, .int n] (T, N, I, L, R) 1 6 (pX 0 T N R (fun I9 L9 => I9 = I ∧ L9 = L)) := by
  refine ⟨_, rfl, Nat.le_of_ble_eq_true rfl, fun V C S => ?_⟩
  show V 0 [(0, .ref x), (1, .int D), (2, .int k), (3, .int n)] [] (T, N, I, L, R) 0 0
  refine k_iload_n C rfl rfl rfl ?_
  refine c_SI C (e_isDisc_no  h) rfl rfl rfl rfl rfl rfl rfl (Nat.le_of_ble_eq_true rfl) (Nat.le_of_ble_eq_true rfl) (Nat.le_of_ble_eq_true rfl) ?_
  rintro _ _ _ ⟨hI8, hL9, hx7⟩
  subst hx7
  have hI8 := hI8.symm; subst hI8; have hL9 := hL9.symm; subst hL9
  refine k_if_eq C (t := 11) rfl rfl rfl (fun _ => ?_) (fun c4 => absurd (by decide) c4)
  exact k_throw C rfl rfl rfl rfl rfl rfl (Nat.le_of_ble_eq_true rfl) (Nat.le_of_ble_eq_true rfl) (Nat.le_of_ble_eq_true rfl) ⟨_, _, rfl, rfl, ⟨rfl, rfl⟩⟩

theorem e_reducedAt_no2 {d : Nat} {T N : Nat → Nat} {I : IT} {L : LT} {R : RT} {x : Nat} {D k n : Int32} (T_x : T x = 12) (hD : isDc D) (hk : k < 0) : Ex (d + 3) 172 [.ref x, .int D, .int k, .int n] (T, N, I, L, R) 1 6 (pX 0 T N R (fun I9 L9 => I9 = I ∧ L9 = L)) := by
  refine ⟨_, rfl, Nat.le_of_ble_eq_true rfl, fun V C S => ?_⟩
  show V 0 [(0, .ref x), (1, .int D), (2, .int k), (3, .int n)] [] (T, N, I, L, R) 0 0
  refine k_iload_n C rfl rfl rfl ?_
  refine c_SI C (e_isDisc_yes  hD) rfl rfl rfl rfl rfl rfl rfl (Nat.le_of_ble_eq_true rfl) (Nat.le_of_ble_eq_true rfl) (Nat.le_of_ble_eq_true rfl) ?_
  rintro _ _ _ ⟨hI8, hL9, hx7⟩
  subst hx7
  have hI8 := hI8.symm; subst hI8; have hL9 := hL9.symm; subst hL9
  refine k_if_eq C (t := 11) rfl rfl rfl (fun c4 => absurd c4 (by decide)) (fun _ => ?_)
  refine k_iload_n C rfl rfl rfl ?_
  refine k_if_ge C (t := 19) rfl rfl rfl (fun c8 => ?_) (fun c8 => ?_)
  · skip
    exact absurd hk (Int32.not_lt.mpr c8)
  exact k_throw C rfl rfl rfl rfl rfl rfl (Nat.le_of_ble_eq_true rfl) (Nat.le_of_ble_eq_true rfl) (Nat.le_of_ble_eq_true rfl) ⟨_, _, rfl, rfl, ⟨rfl, rfl⟩⟩

theorem e_reducedAt_nse {d : Nat} {T N : Nat → Nat} {I : IT} {L : LT} {R : RT} {x : Nat} {D k n : Int32} (T_x : T x = 12) (hD : isDc D) (hk : 0 ≤ k) (hn : ¬ (0 ≤ n.toInt ∧ n.toInt ≤ 2)) : Ex (d + 3) 172 [.ref x, .int D, .int k, .int n] (T, N, I, L, R) 1 6 (pX 4 T N R (fun I9 L9 => I9 = I ∧ L9 = L)) := by
  refine ⟨_, rfl, Nat.le_of_ble_eq_true rfl, fun V C S => ?_⟩
  show V 0 [(0, .ref x), (1, .int D), (2, .int k), (3, .int n)] [] (T, N, I, L, R) 0 0
  refine k_iload_n C rfl rfl rfl ?_
  refine c_SI C (e_isDisc_yes  hD) rfl rfl rfl rfl rfl rfl rfl (Nat.le_of_ble_eq_true rfl) (Nat.le_of_ble_eq_true rfl) (Nat.le_of_ble_eq_true rfl) ?_
  rintro _ _ _ ⟨hI8, hL9, hx7⟩
  subst hx7
  have hI8 := hI8.symm; subst hI8; have hL9 := hL9.symm; subst hL9
  refine k_if_eq C (t := 11) rfl rfl rfl (fun c4 => absurd c4 (by decide)) (fun _ => ?_)
  refine k_iload_n C rfl rfl rfl ?_
  refine k_if_ge C (t := 19) rfl rfl rfl (fun c8 => ?_) (fun c8 => ?_)
  · skip
    refine k_iload_n C rfl rfl rfl ?_
    refine k_if_lt C (t := 28) rfl rfl rfl (fun c20 => ?_) (fun c20 => ?_)
    · skip
      exact k_throw C rfl rfl rfl rfl rfl rfl (Nat.le_of_ble_eq_true rfl) (Nat.le_of_ble_eq_true rfl) (Nat.le_of_ble_eq_true rfl) ⟨_, _, rfl, rfl, ⟨rfl, rfl⟩⟩
    refine k_iload_n C rfl rfl rfl ?_
    refine k_iconst C (x := 2) rfl rfl rfl ?_
    refine k_icmp_le C (t := 36) rfl rfl rfl (fun c25 => ?_) (fun c25 => ?_)
    · skip
      exact absurd ⟨by have := i_le.mp (Int32.not_lt.mp c20); exact this, by have := i_le.mp c25; exact this⟩ hn
    exact k_throw C rfl rfl rfl rfl rfl rfl (Nat.le_of_ble_eq_true rfl) (Nat.le_of_ble_eq_true rfl) (Nat.le_of_ble_eq_true rfl) ⟨_, _, rfl, rfl, ⟨rfl, rfl⟩⟩
  exact absurd hk c8

theorem e_reducedAt_yes {d : Nat} {T N : Nat → Nat} {I : IT} {L : LT} {R : RT} {A : Nat → Prop} {x wh : Nat} {D k n : Int32} (T_x : T x = 12) (R_x_10 : R x 10 = some wh) (T_wh : T wh = 11) (A_wh : A wh) (hD : isDc D) (hk : 0 ≤ k) (hn : 0 ≤ n.toInt ∧ n.toInt ≤ 2) : Ex (d + 4) 172 [.ref x, .int D, .int k, .int n] (T, N, I, L, R) 0 0 (pI T N R (fun x9 I9 L9 => x9 = raP D k n.toInt ∧ Fr A I L I9 L9)) := by
  refine ⟨_, rfl, Nat.le_of_ble_eq_true rfl, fun V C S => ?_⟩
  show V 0 [(0, .ref x), (1, .int D), (2, .int k), (3, .int n)] [] (T, N, I, L, R) 0 0
  refine k_iload_n C rfl rfl rfl ?_
  refine c_SI C (e_isDisc_yes  hD) rfl rfl rfl rfl rfl rfl rfl (Nat.le_of_ble_eq_true rfl) (Nat.le_of_ble_eq_true rfl) (Nat.le_of_ble_eq_true rfl) ?_
  rintro _ _ _ ⟨hI8, hL9, hx7⟩
  subst hx7
  have hI8 := hI8.symm; subst hI8; have hL9 := hL9.symm; subst hL9
  refine k_if_eq C (t := 11) rfl rfl rfl (fun c4 => absurd c4 (by decide)) (fun _ => ?_)
  refine k_iload_n C rfl rfl rfl ?_
  refine k_if_ge C (t := 19) rfl rfl rfl (fun c8 => ?_) (fun c8 => ?_)
  · skip
    refine k_iload_n C rfl rfl rfl ?_
    refine k_if_lt C (t := 28) rfl rfl rfl (fun c20 => ?_) (fun c20 => ?_)
    · skip
      exact absurd (i_lt.mp c20) (by show ¬ _ < (0 : Int); omega)
    refine k_iload_n C rfl rfl rfl ?_
    refine k_iconst C (x := 2) rfl rfl rfl ?_
    refine k_icmp_le C (t := 36) rfl rfl rfl (fun c25 => ?_) (fun c25 => ?_)
    · skip
      refine k_aload_n C rfl rfl rfl ?_
      refine g_R C rfl rfl rfl T_x rfl R_x_10 ?_
      refine k_iload_n C rfl rfl rfl ?_
      refine k_iconst C (x := 0) rfl rfl rfl ?_
      refine k_iload_n C rfl rfl rfl ?_
      refine c_VI C (e_seek T_wh A_wh hD (Or.inl rfl)) rfl rfl rfl rfl rfl ⟨_, rfl, rfl, T_wh, Nat.le_of_ble_eq_true rfl⟩ rfl rfl (Nat.le_of_ble_eq_true rfl) (Nat.le_of_ble_eq_true rfl) (Nat.le_of_ble_eq_true rfl) ?_
      rintro _ I1 L1 ⟨rfl, hI8, hF, hr⟩
      refine k_istore C (lw := [(4, .int _), (0, _), (1, .int _), (2, .int _), (3, .int _)]) rfl rfl (Nat.le_of_ble_eq_true rfl) rfl ?_
      refine k_iload_n C rfl rfl rfl ?_
      refine k_iload C rfl rfl rfl ?_
      refine k_icmp_ge C (t := 66) rfl rfl rfl (fun c51 => ?_) (fun c51 => ?_)
      · skip
        have hv : raP D k n.toInt = -9999 := by unfold raP; rw [if_neg (Int32.not_lt.mpr c51)]
        refine k_sipush C (x := -9999) rfl rfl rfl ?_
        exact k_iret C rfl (Or.inl rfl) (Nat.le_of_ble_eq_true rfl) (Nat.le_of_ble_eq_true rfl) ⟨_, _, _, rfl, rfl, ⟨by first | exact hv | exact hv.symm, hF⟩⟩
      have c51 : k < (sgP D 0 k).1 := Int32.not_le.mp c51
      have hr := hr hk c51
      refine k_aload_n C rfl rfl rfl ?_
      refine g_R C rfl rfl rfl T_x rfl R_x_10 ?_
      refine k_iload_n C rfl rfl rfl ?_
      refine c_VL C (e_tell (s := L1 wh) T_wh rfl rfl rfl rfl rfl rfl rfl rfl (by omega)) rfl rfl rfl rfl rfl ⟨_, rfl, rfl, T_wh, Nat.le_of_ble_eq_true rfl⟩ rfl rfl (Nat.le_of_ble_eq_true rfl) (Nat.le_of_ble_eq_true rfl) (Nat.le_of_ble_eq_true rfl) ?_
      rintro _ _ _ ⟨hx7, hI8, hL9⟩
      have hx7 := hx7.symm; subst hx7
      have hI8 := hI8.symm; subst hI8; have hL9 := hL9.symm; subst hL9
      have hv : (tlS (L1 wh) n.toInt).toInt32 = raP D k n.toInt := by
        unfold raP tlS
        rw [if_pos c51, if_neg (by omega)]
        have h3 : n.toInt = 0 ∨ n.toInt = 1 ∨ n.toInt = 2 := by omega
        rcases h3 with e | e | e
        · rw [e, if_pos rfl]; show (L1 wh 0).toInt32 = _; rw [hr.1]; exact Int32.toInt32_toInt64 _
        · rw [e, if_neg (by decide), if_pos rfl]; show (L1 wh 1).toInt32 = _; rw [hr.2.1]; exact Int32.toInt32_toInt64 _
        · rw [e, if_neg (by decide), if_neg (by decide)]; show (L1 wh 2).toInt32 = _; rw [hr.2.2]; exact Int32.toInt32_toInt64 _
      refine k_l2i C rfl rfl ?_
      refine k_goto C (pc2 := 69) rfl rfl ?_
      exact k_iret C rfl (Or.inl rfl) (Nat.le_of_ble_eq_true rfl) (Nat.le_of_ble_eq_true rfl) ⟨_, _, _, rfl, rfl, ⟨by first | exact hv | exact hv.symm, hF⟩⟩
    exact absurd (i_le.mpr (show _ ≤ (2 : Int) from hn.2)) c25
  exact absurd hk c8

theorem e_m_noDisc_no {d : Nat} {T N : Nat → Nat} {I : IT} {L : LT} {R : RT} {x : Int32}  (h : isDc x) : Ex (d + 2) 305 [.int x] (T, N, I, L, R) 0 0 (pI T N R (fun x9 I9 L9 => x9 = (0) ∧ I9 = I ∧ L9 = L)) := by
  refine ⟨_, rfl, Nat.le_of_ble_eq_true rfl, fun V C S => ?_⟩
  show V 0 [(0, .int x)] [] (T, N, I, L, R) 0 0
  refine k_iload_n C rfl rfl rfl ?_
  refine k_sipush C (x := -9999) rfl rfl rfl ?_
  refine k_bipush C (x := -3) rfl rfl rfl ?_
  refine c_SI C e_in rfl rfl rfl rfl rfl rfl rfl (Nat.le_of_ble_eq_true rfl) (Nat.le_of_ble_eq_true rfl) (Nat.le_of_ble_eq_true rfl) ?_
  rintro _ _ _ ⟨hx7, hI8, hL9⟩
  have hx7 := hx7.symm; subst hx7
  have hI8 := hI8.symm; subst hI8; have hL9 := hL9.symm; subst hL9
  refine k_if_eq C (t := 21) rfl rfl rfl (fun c9 => ?_) (fun c9 => ?_)
  · skip
    exact absurd c9 (inN ⟨i_le.mpr (show (-9999 : Int) ≤ _ from h.1), i_le.mpr (show _ ≤ (-3 : Int) from h.2.1)⟩)
  refine k_iload_n C rfl rfl rfl ?_
  refine k_iconst C (x := 4) rfl rfl rfl ?_
  refine c_SI C (e_fmI  (by decide)) rfl rfl rfl rfl rfl rfl rfl (Nat.le_of_ble_eq_true rfl) (Nat.le_of_ble_eq_true rfl) (Nat.le_of_ble_eq_true rfl) ?_
  rintro x14 _ _ ⟨hI8, hL9, h14⟩
  have hI8 := hI8.symm; subst hI8; have hL9 := hL9.symm; subst hL9
  refine k_iconst C (x := 1) rfl rfl rfl ?_
  refine k_icmp_le C (t := 25) rfl rfl rfl (fun c18 => ?_) (fun c18 => ?_)
  · skip
    refine k_iconst C (x := 0) rfl rfl rfl ?_
    exact k_iret C rfl (Or.inr ⟨rfl, Or.inl rfl⟩) (Nat.le_of_ble_eq_true rfl) (Nat.le_of_ble_eq_true rfl) ⟨_, _, _, rfl, rfl, ⟨rfl, rfl, rfl⟩⟩
  exact absurd (i_le.mpr (by rw [h14]; exact h.2.2)) c18

theorem e_m_noDisc_yes {d : Nat} {T N : Nat → Nat} {I : IT} {L : LT} {R : RT} {x : Int32}  (h : ¬ isDc x) : Ex (d + 2) 305 [.int x] (T, N, I, L, R) 0 0 (pI T N R (fun x9 I9 L9 => x9 = (1) ∧ I9 = I ∧ L9 = L)) := by
  refine ⟨_, rfl, Nat.le_of_ble_eq_true rfl, fun V C S => ?_⟩
  show V 0 [(0, .int x)] [] (T, N, I, L, R) 0 0
  refine k_iload_n C rfl rfl rfl ?_
  refine k_sipush C (x := -9999) rfl rfl rfl ?_
  refine k_bipush C (x := -3) rfl rfl rfl ?_
  refine c_SI C e_in rfl rfl rfl rfl rfl rfl rfl (Nat.le_of_ble_eq_true rfl) (Nat.le_of_ble_eq_true rfl) (Nat.le_of_ble_eq_true rfl) ?_
  rintro _ _ _ ⟨hx7, hI8, hL9⟩
  have hx7 := hx7.symm; subst hx7
  have hI8 := hI8.symm; subst hI8; have hL9 := hL9.symm; subst hL9
  refine k_if_eq C (t := 21) rfl rfl rfl (fun c9 => ?_) (fun c9 => ?_)
  · skip
    refine k_iconst C (x := 1) rfl rfl rfl ?_
    refine k_goto C (pc2 := 26) rfl rfl ?_
    exact k_iret C rfl (Or.inr ⟨rfl, Or.inr rfl⟩) (Nat.le_of_ble_eq_true rfl) (Nat.le_of_ble_eq_true rfl) ⟨_, _, _, rfl, rfl, ⟨rfl, rfl, rfl⟩⟩
  refine k_iload_n C rfl rfl rfl ?_
  refine k_iconst C (x := 4) rfl rfl rfl ?_
  refine c_SI C (e_fmI  (by decide)) rfl rfl rfl rfl rfl rfl rfl (Nat.le_of_ble_eq_true rfl) (Nat.le_of_ble_eq_true rfl) (Nat.le_of_ble_eq_true rfl) ?_
  rintro x14 _ _ ⟨hI8, hL9, h14⟩
  have hI8 := hI8.symm; subst hI8; have hL9 := hL9.symm; subst hL9
  refine k_iconst C (x := 1) rfl rfl rfl ?_
  refine k_icmp_le C (t := 25) rfl rfl rfl (fun c18 => ?_) (fun c18 => ?_)
  · skip
    exact absurd ⟨i_le.mp (inY c9).1, i_le.mp (inY c9).2, by have := i_le.mp c18; rw [h14] at this; exact this⟩ h
  refine k_iconst C (x := 1) rfl rfl rfl ?_
  refine k_goto C (pc2 := 26) rfl rfl ?_
  exact k_iret C rfl (Or.inr ⟨rfl, Or.inr rfl⟩) (Nat.le_of_ble_eq_true rfl) (Nat.le_of_ble_eq_true rfl) ⟨_, _, _, rfl, rfl, ⟨rfl, rfl, rfl⟩⟩

theorem e_m_classes_no {d : Nat} {T N : Nat → Nat} {I : IT} {L : LT} {R : RT} {A : Nat → Prop} {m : Nat} {D z : Int32} (T_m : T m = 13) (A_m : A m) (h : ¬ isDc D) : Ex (d + 3) 307 [.ref m, .int D, .int z] (T, N, I, L, R) 0 0 (pI T N R (fun x9 I9 L9 => Fr A I L I9 L9 ∧ I9 m 0 = 1 ∧ IKm m I I9)) := by
  refine ⟨_, rfl, Nat.le_of_ble_eq_true rfl, fun V C S => ?_⟩
  show V 0 [(0, .ref m), (1, .int D), (2, .int z)] [] (T, N, I, L, R) 0 0
  refine k_aload_n C rfl rfl rfl ?_
  refine k_iconst C (x := 0) rfl rfl rfl ?_
  refine p_I C rfl rfl rfl T_m (Or.inr rfl) rfl ?_
  refine k_aload_n C rfl rfl rfl ?_
  refine k_iload_n C rfl rfl rfl ?_
  refine c_SI C (e_m_noDisc_yes  h) rfl rfl rfl rfl rfl rfl rfl (Nat.le_of_ble_eq_true rfl) (Nat.le_of_ble_eq_true rfl) (Nat.le_of_ble_eq_true rfl) ?_
  rintro _ _ _ ⟨hx7, hI8, hL9⟩
  have hx7 := hx7.symm; subst hx7
  have hI8 := hI8.symm; subst hI8; have hL9 := hL9.symm; subst hL9
  refine k_iconst C (x := 1) rfl rfl rfl ?_
  refine c_VI C (e_throwsIf1 T_m rfl) rfl rfl rfl rfl rfl ⟨_, rfl, rfl, T_m, Nat.le_of_ble_eq_true rfl⟩ rfl rfl (Nat.le_of_ble_eq_true rfl) (Nat.le_of_ble_eq_true rfl) (Nat.le_of_ble_eq_true rfl) ?_
  rintro _ _ _ ⟨hx7, hI8, hL9⟩
  have hx7 := hx7.symm; subst hx7
  have hI8 := hI8.symm; subst hI8; have hL9 := hL9.symm; subst hL9
  refine k_if_eq C (t := 21) rfl rfl rfl (fun c14 => absurd c14 (by decide)) (fun _ => ?_)
  refine k_iconst C (x := 0) rfl rfl rfl ?_
  refine k_goto C (pc2 := 28) rfl rfl ?_
  exact k_iret C rfl (Or.inl rfl) (Nat.le_of_ble_eq_true rfl) (Nat.le_of_ble_eq_true rfl) ⟨_, _, _, rfl, rfl, ⟨(Fr.i (Fr.i Fr.rf A_m) A_m), u2_s, (by first | exact IKm.i IKm.rf | exact IKm.i (IKm.i IKm.rf))⟩⟩

theorem e_m_classes_yes {d : Nat} {T N : Nat → Nat} {I : IT} {L : LT} {R : RT} {A : Nat → Prop} {m : Nat} {D z : Int32} (T_m : T m = 13) (A_m : A m) (hD : isDc D) (hz : z = 0 ∨ z = 1) : Ex (d + 4) 307 [.ref m, .int D, .int z] (T, N, I, L, R) 0 0 (pI T N R (fun x9 I9 L9 => x9 = (sgP D z (-1)).1 ∧ Fr A I L I9 L9 ∧ I9 m 0 = 0 ∧ IKm m I I9)) := by
  refine ⟨_, rfl, Nat.le_of_ble_eq_true rfl, fun V C S => ?_⟩
  show V 0 [(0, .ref m), (1, .int D), (2, .int z)] [] (T, N, I, L, R) 0 0
  refine k_aload_n C rfl rfl rfl ?_
  refine k_iconst C (x := 0) rfl rfl rfl ?_
  refine p_I C rfl rfl rfl T_m (Or.inr rfl) rfl ?_
  refine k_aload_n C rfl rfl rfl ?_
  refine k_iload_n C rfl rfl rfl ?_
  refine c_SI C (e_m_noDisc_no  hD) rfl rfl rfl rfl rfl rfl rfl (Nat.le_of_ble_eq_true rfl) (Nat.le_of_ble_eq_true rfl) (Nat.le_of_ble_eq_true rfl) ?_
  rintro _ _ _ ⟨hx7, hI8, hL9⟩
  have hx7 := hx7.symm; subst hx7
  have hI8 := hI8.symm; subst hI8; have hL9 := hL9.symm; subst hL9
  refine k_iconst C (x := 1) rfl rfl rfl ?_
  refine c_VI C (e_throwsIf0 T_m rfl) rfl rfl rfl rfl rfl ⟨_, rfl, rfl, T_m, Nat.le_of_ble_eq_true rfl⟩ rfl rfl (Nat.le_of_ble_eq_true rfl) (Nat.le_of_ble_eq_true rfl) (Nat.le_of_ble_eq_true rfl) ?_
  rintro _ _ _ ⟨hx7, hI8, hL9⟩
  have hx7 := hx7.symm; subst hx7
  have hI8 := hI8.symm; subst hI8; have hL9 := hL9.symm; subst hL9
  refine k_if_eq C (t := 21) rfl rfl rfl (fun _ => ?_) (fun c14 => absurd (by decide) c14)
  refine k_aload_n C rfl rfl rfl ?_
  refine k_iload_n C rfl rfl rfl ?_
  refine k_iload_n C rfl rfl rfl ?_
  refine k_iconst C (x := -1) rfl rfl rfl ?_
  refine c_VI C (e_m_reducedMany T_m A_m hD hz) rfl rfl rfl rfl rfl ⟨_, rfl, rfl, T_m, Nat.le_of_ble_eq_true rfl⟩ rfl rfl (Nat.le_of_ble_eq_true rfl) (Nat.le_of_ble_eq_true rfl) (Nat.le_of_ble_eq_true rfl) ?_
  rintro _ I1 L1 ⟨rfl, hI8, hF, hr⟩
  exact k_iret C rfl (Or.inl rfl) (Nat.le_of_ble_eq_true rfl) (Nat.le_of_ble_eq_true rfl) ⟨_, _, _, rfl, rfl, ⟨rfl, Fr.tr (Fr.i Fr.rf A_m) hF, (hr.2 0 (by decide)).trans u2_s, IKm.s hr.2⟩⟩

theorem e_m_reducedAt_no1 {d : Nat} {T N : Nat → Nat} {I : IT} {L : LT} {R : RT} {A : Nat → Prop} {m : Nat} {D k n : Int32} (T_m : T m = 13) (A_m : A m) (h : ¬ isDc D) : Ex (d + 3) 308 [.ref m, .int D, .int k, .int n] (T, N, I, L, R) 0 0 (pI T N R (fun x9 I9 L9 => Fr A I L I9 L9 ∧ I9 m 0 = 1 ∧ IKm m I I9)) := by
  refine ⟨_, rfl, Nat.le_of_ble_eq_true rfl, fun V C S => ?_⟩
  show V 0 [(0, .ref m), (1, .int D), (2, .int k), (3, .int n)] [] (T, N, I, L, R) 0 0
  refine k_aload_n C rfl rfl rfl ?_
  refine k_iconst C (x := 0) rfl rfl rfl ?_
  refine p_I C rfl rfl rfl T_m (Or.inr rfl) rfl ?_
  refine k_aload_n C rfl rfl rfl ?_
  refine k_iload_n C rfl rfl rfl ?_
  refine c_SI C (e_m_noDisc_yes  h) rfl rfl rfl rfl rfl rfl rfl (Nat.le_of_ble_eq_true rfl) (Nat.le_of_ble_eq_true rfl) (Nat.le_of_ble_eq_true rfl) ?_
  rintro _ _ _ ⟨hx7, hI8, hL9⟩
  have hx7 := hx7.symm; subst hx7
  have hI8 := hI8.symm; subst hI8; have hL9 := hL9.symm; subst hL9
  refine k_if_ne C (t := 17) rfl rfl rfl (fun _ => ?_) (fun c10 => absurd (by decide) c10)
  refine k_iconst C (x := 1) rfl rfl rfl ?_
  refine k_goto C (pc2 := 22) rfl rfl ?_
  refine k_iconst C (x := 1) rfl rfl rfl ?_
  refine c_VI C (e_throwsIf1 T_m rfl) rfl rfl rfl rfl rfl ⟨_, rfl, rfl, T_m, Nat.le_of_ble_eq_true rfl⟩ rfl rfl (Nat.le_of_ble_eq_true rfl) (Nat.le_of_ble_eq_true rfl) (Nat.le_of_ble_eq_true rfl) ?_
  rintro _ _ _ ⟨hx7, hI8, hL9⟩
  have hx7 := hx7.symm; subst hx7
  have hI8 := hI8.symm; subst hI8; have hL9 := hL9.symm; subst hL9
  refine k_if_ne C (t := 51) rfl rfl rfl (fun _ => ?_) (fun c26 => absurd (by decide) c26)
  refine k_iconst C (x := 0) rfl rfl rfl ?_
  exact k_iret C rfl (Or.inl rfl) (Nat.le_of_ble_eq_true rfl) (Nat.le_of_ble_eq_true rfl) ⟨_, _, _, rfl, rfl, ⟨(Fr.i (Fr.i Fr.rf A_m) A_m), u2_s, (by first | exact IKm.i IKm.rf | exact IKm.i (IKm.i IKm.rf))⟩⟩

theorem e_m_reducedAt_no2 {d : Nat} {T N : Nat → Nat} {I : IT} {L : LT} {R : RT} {A : Nat → Prop} {m : Nat} {D k n : Int32} (T_m : T m = 13) (A_m : A m) (hD : isDc D) (hk : k < 0) : Ex (d + 3) 308 [.ref m, .int D, .int k, .int n] (T, N, I, L, R) 0 0 (pI T N R (fun x9 I9 L9 => Fr A I L I9 L9 ∧ I9 m 0 = 1 ∧ IKm m I I9)) := by
  refine ⟨_, rfl, Nat.le_of_ble_eq_true rfl, fun V C S => ?_⟩
  show V 0 [(0, .ref m), (1, .int D), (2, .int k), (3, .int n)] [] (T, N, I, L, R) 0 0
  refine k_aload_n C rfl rfl rfl ?_
  refine k_iconst C (x := 0) rfl rfl rfl ?_
  refine p_I C rfl rfl rfl T_m (Or.inr rfl) rfl ?_
  refine k_aload_n C rfl rfl rfl ?_
  refine k_iload_n C rfl rfl rfl ?_
  refine c_SI C (e_m_noDisc_no  hD) rfl rfl rfl rfl rfl rfl rfl (Nat.le_of_ble_eq_true rfl) (Nat.le_of_ble_eq_true rfl) (Nat.le_of_ble_eq_true rfl) ?_
  rintro _ _ _ ⟨hx7, hI8, hL9⟩
  have hx7 := hx7.symm; subst hx7
  have hI8 := hI8.symm; subst hI8; have hL9 := hL9.symm; subst hL9
  refine k_if_ne C (t := 17) rfl rfl rfl (fun c10 => absurd c10 (by decide)) (fun _ => ?_)
  refine k_iload_n C rfl rfl rfl ?_
  refine k_if_ge C (t := 21) rfl rfl rfl (fun c14 => ?_) (fun c14 => ?_)
  · skip
    exact absurd hk (Int32.not_lt.mpr c14)
  refine k_iconst C (x := 1) rfl rfl rfl ?_
  refine k_goto C (pc2 := 22) rfl rfl ?_
  refine k_iconst C (x := 1) rfl rfl rfl ?_
  refine c_VI C (e_throwsIf1 T_m rfl) rfl rfl rfl rfl rfl ⟨_, rfl, rfl, T_m, Nat.le_of_ble_eq_true rfl⟩ rfl rfl (Nat.le_of_ble_eq_true rfl) (Nat.le_of_ble_eq_true rfl) (Nat.le_of_ble_eq_true rfl) ?_
  rintro _ _ _ ⟨hx7, hI8, hL9⟩
  have hx7 := hx7.symm; subst hx7
  have hI8 := hI8.symm; subst hI8; have hL9 := hL9.symm; subst hL9
  refine k_if_ne C (t := 51) rfl rfl rfl (fun _ => ?_) (fun c26 => absurd (by decide) c26)
  refine k_iconst C (x := 0) rfl rfl rfl ?_
  exact k_iret C rfl (Or.inl rfl) (Nat.le_of_ble_eq_true rfl) (Nat.le_of_ble_eq_true rfl) ⟨_, _, _, rfl, rfl, ⟨(Fr.i (Fr.i Fr.rf A_m) A_m), u2_s, (by first | exact IKm.i IKm.rf | exact IKm.i (IKm.i IKm.rf))⟩⟩

theorem e_m_reducedAt_nse {d : Nat} {T N : Nat → Nat} {I : IT} {L : LT} {R : RT} {A : Nat → Prop} {m : Nat} {D k n : Int32} (T_m : T m = 13) (A_m : A m) (hD : isDc D) (hk : 0 ≤ k) (hn : ¬ (0 ≤ n.toInt ∧ n.toInt ≤ 2)) : Ex (d + 3) 308 [.ref m, .int D, .int k, .int n] (T, N, I, L, R) 0 0 (pI T N R (fun x9 I9 L9 => Fr A I L I9 L9 ∧ I9 m 0 = 2 ∧ IKm m I I9)) := by
  refine ⟨_, rfl, Nat.le_of_ble_eq_true rfl, fun V C S => ?_⟩
  show V 0 [(0, .ref m), (1, .int D), (2, .int k), (3, .int n)] [] (T, N, I, L, R) 0 0
  refine k_aload_n C rfl rfl rfl ?_
  refine k_iconst C (x := 0) rfl rfl rfl ?_
  refine p_I C rfl rfl rfl T_m (Or.inr rfl) rfl ?_
  refine k_aload_n C rfl rfl rfl ?_
  refine k_iload_n C rfl rfl rfl ?_
  refine c_SI C (e_m_noDisc_no  hD) rfl rfl rfl rfl rfl rfl rfl (Nat.le_of_ble_eq_true rfl) (Nat.le_of_ble_eq_true rfl) (Nat.le_of_ble_eq_true rfl) ?_
  rintro _ _ _ ⟨hx7, hI8, hL9⟩
  have hx7 := hx7.symm; subst hx7
  have hI8 := hI8.symm; subst hI8; have hL9 := hL9.symm; subst hL9
  refine k_if_ne C (t := 17) rfl rfl rfl (fun c10 => absurd c10 (by decide)) (fun _ => ?_)
  refine k_iload_n C rfl rfl rfl ?_
  refine k_if_ge C (t := 21) rfl rfl rfl (fun c14 => ?_) (fun c14 => ?_)
  · skip
    refine k_iconst C (x := 0) rfl rfl rfl ?_
    refine k_iconst C (x := 1) rfl rfl rfl ?_
    refine c_VI C (e_throwsIf0 T_m rfl) rfl rfl rfl rfl rfl ⟨_, rfl, rfl, T_m, Nat.le_of_ble_eq_true rfl⟩ rfl rfl (Nat.le_of_ble_eq_true rfl) (Nat.le_of_ble_eq_true rfl) (Nat.le_of_ble_eq_true rfl) ?_
    rintro _ _ _ ⟨hx7, hI8, hL9⟩
    have hx7 := hx7.symm; subst hx7
    have hI8 := hI8.symm; subst hI8; have hL9 := hL9.symm; subst hL9
    refine k_if_ne C (t := 51) rfl rfl rfl (fun c26 => absurd c26 (by decide)) (fun _ => ?_)
    refine k_aload_n C rfl rfl rfl ?_
    refine k_iload_n C rfl rfl rfl ?_
    refine k_iconst C (x := 0) rfl rfl rfl ?_
    refine k_iconst C (x := 2) rfl rfl rfl ?_
    refine c_SI C e_in rfl rfl rfl rfl rfl rfl rfl (Nat.le_of_ble_eq_true rfl) (Nat.le_of_ble_eq_true rfl) (Nat.le_of_ble_eq_true rfl) ?_
    rintro _ _ _ ⟨hx7, hI8, hL9⟩
    have hx7 := hx7.symm; subst hx7
    have hI8 := hI8.symm; subst hI8; have hL9 := hL9.symm; subst hL9
    refine k_if_ne C (t := 43) rfl rfl rfl (fun c36 => ?_) (fun c36 => ?_)
    · skip
      exact absurd (in02.mp (inY c36)) hn
    refine k_iconst C (x := 1) rfl rfl rfl ?_
    refine k_goto C (pc2 := 44) rfl rfl ?_
    refine k_iconst C (x := 2) rfl rfl rfl ?_
    refine c_VI C (e_throwsIf1 T_m rfl) rfl rfl rfl rfl rfl ⟨_, rfl, rfl, T_m, Nat.le_of_ble_eq_true rfl⟩ rfl rfl (Nat.le_of_ble_eq_true rfl) (Nat.le_of_ble_eq_true rfl) (Nat.le_of_ble_eq_true rfl) ?_
    rintro _ _ _ ⟨hx7, hI8, hL9⟩
    have hx7 := hx7.symm; subst hx7
    have hI8 := hI8.symm; subst hI8; have hL9 := hL9.symm; subst hL9
    refine k_if_eq C (t := 53) rfl rfl rfl (fun c48 => absurd c48 (by decide)) (fun _ => ?_)
    refine k_iconst C (x := 0) rfl rfl rfl ?_
    exact k_iret C rfl (Or.inl rfl) (Nat.le_of_ble_eq_true rfl) (Nat.le_of_ble_eq_true rfl) ⟨_, _, _, rfl, rfl, ⟨(Fr.i (Fr.i Fr.rf A_m) A_m), u2_s, (by first | exact IKm.i IKm.rf | exact IKm.i (IKm.i IKm.rf))⟩⟩
  exact absurd hk c14

theorem e_m_reducedAt_yes {d : Nat} {T N : Nat → Nat} {I : IT} {L : LT} {R : RT} {A : Nat → Prop} {m : Nat} {D k n : Int32} (T_m : T m = 13) (A_m : A m) (hD : isDc D) (hk : 0 ≤ k) (hn : 0 ≤ n.toInt ∧ n.toInt ≤ 2) : Ex (d + 4) 308 [.ref m, .int D, .int k, .int n] (T, N, I, L, R) 0 0 (pI T N R (fun x9 I9 L9 => x9 = raP D k n.toInt ∧ Fr A I L I9 L9 ∧ I9 m 0 = 0 ∧ IKm m I I9)) := by
  refine ⟨_, rfl, Nat.le_of_ble_eq_true rfl, fun V C S => ?_⟩
  show V 0 [(0, .ref m), (1, .int D), (2, .int k), (3, .int n)] [] (T, N, I, L, R) 0 0
  refine k_aload_n C rfl rfl rfl ?_
  refine k_iconst C (x := 0) rfl rfl rfl ?_
  refine p_I C rfl rfl rfl T_m (Or.inr rfl) rfl ?_
  refine k_aload_n C rfl rfl rfl ?_
  refine k_iload_n C rfl rfl rfl ?_
  refine c_SI C (e_m_noDisc_no  hD) rfl rfl rfl rfl rfl rfl rfl (Nat.le_of_ble_eq_true rfl) (Nat.le_of_ble_eq_true rfl) (Nat.le_of_ble_eq_true rfl) ?_
  rintro _ _ _ ⟨hx7, hI8, hL9⟩
  have hx7 := hx7.symm; subst hx7
  have hI8 := hI8.symm; subst hI8; have hL9 := hL9.symm; subst hL9
  refine k_if_ne C (t := 17) rfl rfl rfl (fun c10 => absurd c10 (by decide)) (fun _ => ?_)
  refine k_iload_n C rfl rfl rfl ?_
  refine k_if_ge C (t := 21) rfl rfl rfl (fun c14 => ?_) (fun c14 => ?_)
  · skip
    refine k_iconst C (x := 0) rfl rfl rfl ?_
    refine k_iconst C (x := 1) rfl rfl rfl ?_
    refine c_VI C (e_throwsIf0 T_m rfl) rfl rfl rfl rfl rfl ⟨_, rfl, rfl, T_m, Nat.le_of_ble_eq_true rfl⟩ rfl rfl (Nat.le_of_ble_eq_true rfl) (Nat.le_of_ble_eq_true rfl) (Nat.le_of_ble_eq_true rfl) ?_
    rintro _ _ _ ⟨hx7, hI8, hL9⟩
    have hx7 := hx7.symm; subst hx7
    have hI8 := hI8.symm; subst hI8; have hL9 := hL9.symm; subst hL9
    refine k_if_ne C (t := 51) rfl rfl rfl (fun c26 => absurd c26 (by decide)) (fun _ => ?_)
    refine k_aload_n C rfl rfl rfl ?_
    refine k_iload_n C rfl rfl rfl ?_
    refine k_iconst C (x := 0) rfl rfl rfl ?_
    refine k_iconst C (x := 2) rfl rfl rfl ?_
    refine c_SI C e_in rfl rfl rfl rfl rfl rfl rfl (Nat.le_of_ble_eq_true rfl) (Nat.le_of_ble_eq_true rfl) (Nat.le_of_ble_eq_true rfl) ?_
    rintro _ _ _ ⟨hx7, hI8, hL9⟩
    have hx7 := hx7.symm; subst hx7
    have hI8 := hI8.symm; subst hI8; have hL9 := hL9.symm; subst hL9
    refine k_if_ne C (t := 43) rfl rfl rfl (fun c36 => ?_) (fun c36 => ?_)
    · skip
      refine k_iconst C (x := 0) rfl rfl rfl ?_
      refine k_iconst C (x := 2) rfl rfl rfl ?_
      refine c_VI C (e_throwsIf0 T_m rfl) rfl rfl rfl rfl rfl ⟨_, rfl, rfl, T_m, Nat.le_of_ble_eq_true rfl⟩ rfl rfl (Nat.le_of_ble_eq_true rfl) (Nat.le_of_ble_eq_true rfl) (Nat.le_of_ble_eq_true rfl) ?_
      rintro _ _ _ ⟨hx7, hI8, hL9⟩
      have hx7 := hx7.symm; subst hx7
      have hI8 := hI8.symm; subst hI8; have hL9 := hL9.symm; subst hL9
      refine k_if_eq C (t := 53) rfl rfl rfl (fun _ => ?_) (fun c48 => absurd (by decide) c48)
      refine k_iload_n C rfl rfl rfl ?_
      refine k_aload_n C rfl rfl rfl ?_
      refine k_iload_n C rfl rfl rfl ?_
      refine k_iconst C (x := 0) rfl rfl rfl ?_
      refine k_iload_n C rfl rfl rfl ?_
      refine c_VI C (e_m_reducedMany T_m A_m hD (Or.inl rfl)) rfl rfl rfl rfl rfl ⟨_, rfl, rfl, T_m, Nat.le_of_ble_eq_true rfl⟩ rfl rfl (Nat.le_of_ble_eq_true rfl) (Nat.le_of_ble_eq_true rfl) (Nat.le_of_ble_eq_true rfl) ?_
      rintro _ I1 L1 ⟨rfl, hI8, hF, hr⟩
      refine k_icmp_lt C (t := 70) rfl rfl rfl (fun c61 => ?_) (fun c61 => ?_)
      · skip
        refine k_iload_n C rfl rfl rfl ?_
        refine k_if_ne C (t := 81) rfl rfl rfl (fun c71 => ?_) (fun c71 => ?_)
        · skip
          have hn0 : n.toInt ≠ 0 := fun e => c71 (Int32.toInt_inj.mp e)
          refine k_iload_n C rfl rfl rfl ?_
          refine k_iconst C (x := 1) rfl rfl rfl ?_
          refine k_icmp_ne C (t := 93) rfl rfl rfl (fun c83 => ?_) (fun c83 => ?_)
          · skip
            have hn1 : n.toInt ≠ 1 := fun e => c83 (Int32.toInt_inj.mp e)
            have hv : I1 m 37 = raP D k n.toInt := by
              unfold raP; rw [if_pos c61, if_neg hn0, if_neg hn1]; exact (hr.1 hk c61).2.2
            refine k_aload_n C rfl rfl rfl ?_
            refine g_I C rfl rfl rfl T_m rfl (rfl) ?_
            exact k_iret C rfl (Or.inl rfl) (Nat.le_of_ble_eq_true rfl) (Nat.le_of_ble_eq_true rfl) ⟨_, _, _, rfl, rfl, ⟨by first | exact hv | exact hv.symm, Fr.tr (Fr.i Fr.rf A_m) hF, (hr.2 0 (by decide)).trans u2_s, IKm.s hr.2⟩⟩
          have hv : I1 m 36 = raP D k n.toInt := by
            have e : n.toInt = 1 := by rw [Decidable.not_not.mp c83]; rfl
            unfold raP; rw [if_pos c61, if_neg hn0, if_pos e]; exact (hr.1 hk c61).2.1
          refine k_aload_n C rfl rfl rfl ?_
          refine g_I C rfl rfl rfl T_m rfl (rfl) ?_
          refine k_goto C (pc2 := 97) rfl rfl ?_
          exact k_iret C rfl (Or.inl rfl) (Nat.le_of_ble_eq_true rfl) (Nat.le_of_ble_eq_true rfl) ⟨_, _, _, rfl, rfl, ⟨by first | exact hv | exact hv.symm, Fr.tr (Fr.i Fr.rf A_m) hF, (hr.2 0 (by decide)).trans u2_s, IKm.s hr.2⟩⟩
        have hv : I1 m 35 = raP D k n.toInt := by
          have e : n.toInt = 0 := by rw [Decidable.not_not.mp c71]; rfl
          unfold raP; rw [if_pos c61, if_pos e]; exact (hr.1 hk c61).1
        refine k_aload_n C rfl rfl rfl ?_
        refine g_I C rfl rfl rfl T_m rfl (rfl) ?_
        refine k_goto C (pc2 := 97) rfl rfl ?_
        exact k_iret C rfl (Or.inl rfl) (Nat.le_of_ble_eq_true rfl) (Nat.le_of_ble_eq_true rfl) ⟨_, _, _, rfl, rfl, ⟨by first | exact hv | exact hv.symm, Fr.tr (Fr.i Fr.rf A_m) hF, (hr.2 0 (by decide)).trans u2_s, IKm.s hr.2⟩⟩
      have hv : raP D k n.toInt = -9999 := by unfold raP; rw [if_neg c61]
      refine k_sipush C (x := -9999) rfl rfl rfl ?_
      refine k_goto C (pc2 := 97) rfl rfl ?_
      exact k_iret C rfl (Or.inl rfl) (Nat.le_of_ble_eq_true rfl) (Nat.le_of_ble_eq_true rfl) ⟨_, _, _, rfl, rfl, ⟨by first | exact hv | exact hv.symm, Fr.tr (Fr.i Fr.rf A_m) hF, (hr.2 0 (by decide)).trans u2_s, IKm.s hr.2⟩⟩
    exact absurd (inN (in02.mpr hn)) c36
  exact absurd hk c14

