/-! the law at any place: its table, its places -/
def offL (k : Nat) : Int := (#[184, 257, 282, 307, 323, 387, 403, 416, 456, 508, 536, 576, 589, 602, 654, 710, 762, 814, 866, 946, 998, 1026, 1054, 1094, 1122, 1162, 1214, 1242, 1282, 1310, 1338, 1378, 1406, 1446, 1498, 1562, 1626, 1682, 1734, 1810, 1821, 1834] : Array Int).getD k 0
theorem offs_ok : ∀ k, k < 42 → (#[184, 257, 282, 307, 323, 387, 403, 416, 456, 508, 536, 576, 589, 602, 654, 710, 762, 814, 866, 946, 998, 1026, 1054, 1094, 1122, 1162, 1214, 1242, 1282, 1310, 1338, 1378, 1406, 1446, 1498, 1562, 1626, 1682, 1734, 1810, 1821, 1834] : Array Int)[k]? = some (offL k) := by decide
theorem off_pos : ∀ k, k < 42 → 0 ≤ (((40 : Nat) : Int)) + offL k := by decide
set_option maxRecDepth 100000 in
theorem law_tb {V : V_T} {b x nw kp rd al m w im o cb tp Ln i : Nat} {xs : Nat → Int32} {T N : Nat → Nat} {I : IT} {L : LT} {R : RT} {A B : Nat → Prop} {ck sk : Nat} (C : Cl 40 q_law 601024 7293033 law_Po V) (S : SB V) (hL : LSc V b Ln xs) (E : LX T N R A B x nw kp rd al m w im o cb tp) (hi : i + 6 ≤ Ln) (hLn : Ln ≤ 3072) (hLI : LI T R A m I) (hRL : RY R x nw kp rd cb m w im tp I) (hck : ck + 3 ≤ 601024) (hsk : sk + 18 ≤ 7293033) (K : ∀ (lv : List (Nat × Value)) (I9 : IT) (L9 : LT) (ck9 sk9 : Nat), LI T R A m I9 → RY R x nw kp rd cb m w im tp I9 → ck9 ≤ ck + 3 → sk9 ≤ sk + 18 → (∀ z ∈ ([(4, .int (Int32.ofNat i)), (3, .ref o), (2, .ref m), (1, .ref x), (0, .ref b)] : List (Nat × Value)), z ∈ lv) → V 1899 lv [] (T, N, I9, L9, R) ck9 sk9) (k : Nat) (hk : k < 42) : V (tg 40 (offL k)) [(4, .int (Int32.ofNat i)), (3, .ref o), (2, .ref m), (1, .ref x), (0, .ref b)] [] (T, N, I, L, R) ck sk := by
  match k, hk with
  | 0, _ => exact (show V 224 [(4, .int (Int32.ofNat i)), (3, .ref o), (2, .ref m), (1, .ref x), (0, .ref b)] [] (T, N, I, L, R) ck sk from lc_0 C S hL E hi hLn hLI hRL hck hsk K)
  | 1, _ => exact (show V 297 [(4, .int (Int32.ofNat i)), (3, .ref o), (2, .ref m), (1, .ref x), (0, .ref b)] [] (T, N, I, L, R) ck sk from lc_1 C S hL E hi hLn hLI hRL hck hsk K)
  | 2, _ => exact (show V 322 [(4, .int (Int32.ofNat i)), (3, .ref o), (2, .ref m), (1, .ref x), (0, .ref b)] [] (T, N, I, L, R) ck sk from lc_2 C S hL E hi hLn hLI hRL hck hsk K)
  | 3, _ => exact (show V 347 [(4, .int (Int32.ofNat i)), (3, .ref o), (2, .ref m), (1, .ref x), (0, .ref b)] [] (T, N, I, L, R) ck sk from lc_3 C S hL E hi hLn hLI hRL hck hsk K)
  | 4, _ => exact (show V 363 [(4, .int (Int32.ofNat i)), (3, .ref o), (2, .ref m), (1, .ref x), (0, .ref b)] [] (T, N, I, L, R) ck sk from lc_4 C S hL E hi hLn hLI hRL hck hsk K)
  | 5, _ => exact (show V 427 [(4, .int (Int32.ofNat i)), (3, .ref o), (2, .ref m), (1, .ref x), (0, .ref b)] [] (T, N, I, L, R) ck sk from lc_5 C S hL E hi hLn hLI hRL hck hsk K)
  | 6, _ => exact (show V 443 [(4, .int (Int32.ofNat i)), (3, .ref o), (2, .ref m), (1, .ref x), (0, .ref b)] [] (T, N, I, L, R) ck sk from lc_6 C S hL E hi hLn hLI hRL hck hsk K)
  | 7, _ => exact (show V 456 [(4, .int (Int32.ofNat i)), (3, .ref o), (2, .ref m), (1, .ref x), (0, .ref b)] [] (T, N, I, L, R) ck sk from lc_7 C S hL E hi hLn hLI hRL hck hsk K)
  | 8, _ => exact (show V 496 [(4, .int (Int32.ofNat i)), (3, .ref o), (2, .ref m), (1, .ref x), (0, .ref b)] [] (T, N, I, L, R) ck sk from lc_8 C S hL E hi hLn hLI hRL hck hsk K)
  | 9, _ => exact (show V 548 [(4, .int (Int32.ofNat i)), (3, .ref o), (2, .ref m), (1, .ref x), (0, .ref b)] [] (T, N, I, L, R) ck sk from lc_9 C S hL E hi hLn hLI hRL hck hsk K)
  | 10, _ => exact (show V 576 [(4, .int (Int32.ofNat i)), (3, .ref o), (2, .ref m), (1, .ref x), (0, .ref b)] [] (T, N, I, L, R) ck sk from lc_10 C S hL E hi hLn hLI hRL hck hsk K)
  | 11, _ => exact (show V 616 [(4, .int (Int32.ofNat i)), (3, .ref o), (2, .ref m), (1, .ref x), (0, .ref b)] [] (T, N, I, L, R) ck sk from lc_11 C S hL E hi hLn hLI hRL hck hsk K)
  | 12, _ => exact (show V 629 [(4, .int (Int32.ofNat i)), (3, .ref o), (2, .ref m), (1, .ref x), (0, .ref b)] [] (T, N, I, L, R) ck sk from lc_12 C S hL E hi hLn hLI hRL hck hsk K)
  | 13, _ => exact (show V 642 [(4, .int (Int32.ofNat i)), (3, .ref o), (2, .ref m), (1, .ref x), (0, .ref b)] [] (T, N, I, L, R) ck sk from lc_13 C S hL E hi hLn hLI hRL hck hsk K)
  | 14, _ => exact (show V 694 [(4, .int (Int32.ofNat i)), (3, .ref o), (2, .ref m), (1, .ref x), (0, .ref b)] [] (T, N, I, L, R) ck sk from lc_14 C S hL E hi hLn hLI hRL hck hsk K)
  | 15, _ => exact (show V 750 [(4, .int (Int32.ofNat i)), (3, .ref o), (2, .ref m), (1, .ref x), (0, .ref b)] [] (T, N, I, L, R) ck sk from lc_15 C S hL E hi hLn hLI hRL hck hsk K)
  | 16, _ => exact (show V 802 [(4, .int (Int32.ofNat i)), (3, .ref o), (2, .ref m), (1, .ref x), (0, .ref b)] [] (T, N, I, L, R) ck sk from lc_16 C S hL E hi hLn hLI hRL hck hsk K)
  | 17, _ => exact (show V 854 [(4, .int (Int32.ofNat i)), (3, .ref o), (2, .ref m), (1, .ref x), (0, .ref b)] [] (T, N, I, L, R) ck sk from lc_17 C S hL E hi hLn hLI hRL hck hsk K)
  | 18, _ => exact (show V 906 [(4, .int (Int32.ofNat i)), (3, .ref o), (2, .ref m), (1, .ref x), (0, .ref b)] [] (T, N, I, L, R) ck sk from lc_18 C S hL E hi hLn hLI hRL hck hsk K)
  | 19, _ => exact (show V 986 [(4, .int (Int32.ofNat i)), (3, .ref o), (2, .ref m), (1, .ref x), (0, .ref b)] [] (T, N, I, L, R) ck sk from lc_19 C S hL E hi hLn hLI hRL hck hsk K)
  | 20, _ => exact (show V 1038 [(4, .int (Int32.ofNat i)), (3, .ref o), (2, .ref m), (1, .ref x), (0, .ref b)] [] (T, N, I, L, R) ck sk from lc_20 C S hL E hi hLn hLI hRL hck hsk K)
  | 21, _ => exact (show V 1066 [(4, .int (Int32.ofNat i)), (3, .ref o), (2, .ref m), (1, .ref x), (0, .ref b)] [] (T, N, I, L, R) ck sk from lc_21 C S hL E hi hLn hLI hRL hck hsk K)
  | 22, _ => exact (show V 1094 [(4, .int (Int32.ofNat i)), (3, .ref o), (2, .ref m), (1, .ref x), (0, .ref b)] [] (T, N, I, L, R) ck sk from lc_22 C S hL E hi hLn hLI hRL hck hsk K)
  | 23, _ => exact (show V 1134 [(4, .int (Int32.ofNat i)), (3, .ref o), (2, .ref m), (1, .ref x), (0, .ref b)] [] (T, N, I, L, R) ck sk from lc_23 C S hL E hi hLn hLI hRL hck hsk K)
  | 24, _ => exact (show V 1162 [(4, .int (Int32.ofNat i)), (3, .ref o), (2, .ref m), (1, .ref x), (0, .ref b)] [] (T, N, I, L, R) ck sk from lc_24 C S hL E hi hLn hLI hRL hck hsk K)
  | 25, _ => exact (show V 1202 [(4, .int (Int32.ofNat i)), (3, .ref o), (2, .ref m), (1, .ref x), (0, .ref b)] [] (T, N, I, L, R) ck sk from lc_25 C S hL E hi hLn hLI hRL hck hsk K)
  | 26, _ => exact (show V 1254 [(4, .int (Int32.ofNat i)), (3, .ref o), (2, .ref m), (1, .ref x), (0, .ref b)] [] (T, N, I, L, R) ck sk from lc_26 C S hL E hi hLn hLI hRL hck hsk K)
  | 27, _ => exact (show V 1282 [(4, .int (Int32.ofNat i)), (3, .ref o), (2, .ref m), (1, .ref x), (0, .ref b)] [] (T, N, I, L, R) ck sk from lc_27 C S hL E hi hLn hLI hRL hck hsk K)
  | 28, _ => exact (show V 1322 [(4, .int (Int32.ofNat i)), (3, .ref o), (2, .ref m), (1, .ref x), (0, .ref b)] [] (T, N, I, L, R) ck sk from lc_28 C S hL E hi hLn hLI hRL hck hsk K)
  | 29, _ => exact (show V 1350 [(4, .int (Int32.ofNat i)), (3, .ref o), (2, .ref m), (1, .ref x), (0, .ref b)] [] (T, N, I, L, R) ck sk from lc_29 C S hL E hi hLn hLI hRL hck hsk K)
  | 30, _ => exact (show V 1378 [(4, .int (Int32.ofNat i)), (3, .ref o), (2, .ref m), (1, .ref x), (0, .ref b)] [] (T, N, I, L, R) ck sk from lc_30 C S hL E hi hLn hLI hRL hck hsk K)
  | 31, _ => exact (show V 1418 [(4, .int (Int32.ofNat i)), (3, .ref o), (2, .ref m), (1, .ref x), (0, .ref b)] [] (T, N, I, L, R) ck sk from lc_31 C S hL E hi hLn hLI hRL hck hsk K)
  | 32, _ => exact (show V 1446 [(4, .int (Int32.ofNat i)), (3, .ref o), (2, .ref m), (1, .ref x), (0, .ref b)] [] (T, N, I, L, R) ck sk from lc_32 C S hL E hi hLn hLI hRL hck hsk K)
  | 33, _ => exact (show V 1486 [(4, .int (Int32.ofNat i)), (3, .ref o), (2, .ref m), (1, .ref x), (0, .ref b)] [] (T, N, I, L, R) ck sk from lc_33 C S hL E hi hLn hLI hRL hck hsk K)
  | 34, _ => exact (show V 1538 [(4, .int (Int32.ofNat i)), (3, .ref o), (2, .ref m), (1, .ref x), (0, .ref b)] [] (T, N, I, L, R) ck sk from lc_34 C S hL E hi hLn hLI hRL hck hsk K)
  | 35, _ => exact (show V 1602 [(4, .int (Int32.ofNat i)), (3, .ref o), (2, .ref m), (1, .ref x), (0, .ref b)] [] (T, N, I, L, R) ck sk from lc_35 C S hL E hi hLn hLI hRL hck hsk K)
  | 36, _ => exact (show V 1666 [(4, .int (Int32.ofNat i)), (3, .ref o), (2, .ref m), (1, .ref x), (0, .ref b)] [] (T, N, I, L, R) ck sk from lc_36 C S hL E hi hLn hLI hRL hck hsk K)
  | 37, _ => exact (show V 1722 [(4, .int (Int32.ofNat i)), (3, .ref o), (2, .ref m), (1, .ref x), (0, .ref b)] [] (T, N, I, L, R) ck sk from lc_37 C S hL E hi hLn hLI hRL hck hsk K)
  | 38, _ => exact (show V 1774 [(4, .int (Int32.ofNat i)), (3, .ref o), (2, .ref m), (1, .ref x), (0, .ref b)] [] (T, N, I, L, R) ck sk from lc_38 C S hL E hi hLn hLI hRL hck hsk K)
  | 39, _ => exact (show V 1850 [(4, .int (Int32.ofNat i)), (3, .ref o), (2, .ref m), (1, .ref x), (0, .ref b)] [] (T, N, I, L, R) ck sk from lc_39 C S hL E hi hLn hLI hRL hck hsk K)
  | 40, _ => exact (show V 1861 [(4, .int (Int32.ofNat i)), (3, .ref o), (2, .ref m), (1, .ref x), (0, .ref b)] [] (T, N, I, L, R) ck sk from lc_40 C S hL E hi hLn hLI hRL hck hsk K)
  | 41, _ => exact (show V 1874 [(4, .int (Int32.ofNat i)), (3, .ref o), (2, .ref m), (1, .ref x), (0, .ref b)] [] (T, N, I, L, R) ck sk from lc_41 C S hL E hi hLn hLI hRL hck hsk K)
  | k + 42, h => exact absurd h (by omega)
theorem law_i {i Ln : Nat} (hLn : Ln ≤ 3072) (hi : i ≤ 3078) : ((Int32.ofNat Ln - 6 < Int32.ofNat i) ↔ Ln < i + 6) := by
  have e6 : (6 : Int32).toInt = 6 := rfl
  rw [i_lt, ii_sub (by rw [e6, n_int (by omega)]; omega), e6, n_int (by omega), n_int (by omega)]; omega
set_option maxRecDepth 100000 in
theorem law_go {V : V_T} {b x nw kp rd al m w im o cb tp Ln : Nat} {xs : Nat → Int32} {T N : Nat → Nat} {R : RT} {A B : Nat → Prop} (C : Cl 40 q_law 601024 7293033 law_Po V) (S : SB V) (hL : LSc V b Ln xs) (E : LX T N R A B x nw kp rd al m w im o cb tp) (hLn : Ln ≤ 3072) : ∀ (n i : Nat) (I : IT) (L : LT) (ck sk : Nat), Ln ≤ i + 6 * n → i ≤ 3078 → LI T R A m I → RY R x nw kp rd cb m w im tp I → ck + 3 * n ≤ 601024 → sk + 18 * n ≤ 7293033 → V 23 [(4, .int (Int32.ofNat i)), (3, .ref o), (2, .ref m), (1, .ref x), (0, .ref b)] [] (T, N, I, L, R) ck sk := by
  intro n
  induction n with
  | zero =>
    intro i I L ck sk hn hi hLI hRL h1 h2
    refine k_iload C rfl rfl rfl ?_
    refine k_aload_n C rfl rfl rfl ?_
    refine hL.2 _ _ _ _ _ _ rfl ?_
    refine k_bipush C (x := 6) rfl rfl rfl ?_
    refine k_isub C rfl rfl ?_
    refine k_icmp_gt C (t := 1905) rfl rfl rfl (fun _ => ?_) (fun c => absurd ((law_i hLn hi).mpr (by omega)) c)
    refine k_iconst C (x := 1) rfl rfl rfl ?_
    exact k_iret C rfl (Or.inr ⟨rfl, Or.inr rfl⟩) (by omega) (by omega) rfl
  | succ n ih =>
    intro i I L ck sk hn hi hLI hRL h1 h2
    refine k_iload C rfl rfl rfl ?_
    refine k_aload_n C rfl rfl rfl ?_
    refine hL.2 _ _ _ _ _ _ rfl ?_
    refine k_bipush C (x := 6) rfl rfl rfl ?_
    refine k_isub C rfl rfl ?_
    refine k_icmp_gt C (t := 1905) rfl rfl rfl (fun _ => ?_) (fun c => ?_)
    · refine k_iconst C (x := 1) rfl rfl rfl ?_
      exact k_iret C rfl (Or.inr ⟨rfl, Or.inr rfl⟩) (by omega) (by omega) rfl
    have hi6 : i + 6 ≤ Ln := by
      have : ¬ Ln < i + 6 := fun q => c ((law_i hLn hi).mpr q)
      omega
    have K : ∀ (lv : List (Nat × Value)) (I9 : IT) (L9 : LT) (ck9 sk9 : Nat), LI T R A m I9 → RY R x nw kp rd cb m w im tp I9 → ck9 ≤ ck + 3 → sk9 ≤ sk + 18 → (∀ z ∈ ([(4, .int (Int32.ofNat i)), (3, .ref o), (2, .ref m), (1, .ref x), (0, .ref b)] : List (Nat × Value)), z ∈ lv) → V 1899 lv [] (T, N, I9, L9, R) ck9 sk9 := by
      intro lv I9 L9 ck9 sk9 hLI9 hRL9 q1 q2 hlv
      refine k_sub S [(4, .int (Int32.ofNat i)), (3, .ref o), (2, .ref m), (1, .ref x), (0, .ref b)] hlv ?_
      refine k_iinc C (lw := [(4, .int _), (3, _), (2, _), (1, _), (0, _)]) rfl rfl rfl (Nat.le_of_ble_eq_true rfl) rfl rfl ?_
      refine k_goto C (pc2 := 23) rfl rfl ?_
      have := ih (i + 6) I9 L9 ck9 sk9 (by omega) (by omega) hLI9 hRL9 (by omega) (by omega)
      rw [show Int32.ofNat (i + 6) = Int32.ofNat i + 6 from n_add6] at this
      exact this
    refine k_aload_n C rfl rfl rfl ?_
    refine k_iload C rfl rfl rfl ?_
    refine hL.1 _ _ _ _ _ _ _ rfl (vs0 hi6 hLn) ?_
    refine k_bipush C (x := 63) rfl rfl rfl ?_
    refine k_iand C rfl rfl ?_
    refine k_table C rfl (by decide) (fun _ => ?_) (fun h3 h4 => ?_)
    · exact K _ I L ck sk hLI hRL (by omega) (by omega) (fun _ h => h)
    · generalize (xs (Int32.ofNat i).toNatClampNeg &&& 63).toInt = y at h3 h4 ⊢
      obtain ⟨k, rfl⟩ : ∃ k : Nat, y = k := ⟨y.toNat, by omega⟩
      have hk : k < 42 := by omega
      refine ⟨offL k, ?_, ?_, law_tb C S hL E hi6 hLn hLI hRL (by omega) (by omega) K k hk⟩
      · rw [show ((k : Int) - 0).toNat = k from by omega]
        exact offs_ok k hk
      · exact off_pos k hk

