/-! roots of real numbers -/
def cuP (a b c d : Int64) : Int64 := 18 * a * b * c * d - 4 * b * b * b * d + b * b * c * c - 4 * a * c * c * c - 27 * a * a * d * d
def dfP (a b c d e : Int64) : Int64 := 256 * a * a * a * e * e * e - 192 * a * a * b * d * e * e - 128 * a * a * c * c * e * e + 144 * a * a * c * d * d * e - 27 * a * a * d * d * d * d + 144 * a * b * b * c * e * e - 6 * a * b * b * d * d * e - 80 * a * b * c * c * d * e + 18 * a * b * c * d * d * d + 16 * a * c * c * c * c * e - 4 * a * c * c * c * d * d - 27 * b * b * b * b * e * e + 18 * b * b * b * c * d * e - 4 * b * b * b * d * d * d - 4 * b * b * c * c * c * e + b * b * c * c * d * d
def sdP (a b c : Int64) : Int64 := 8 * a * c - 3 * b * b
def foP (a b c d e : Int64) : Int64 := 64 * a * a * a * e - 16 * a * a * c * c + 16 * a * b * b * c - 16 * a * a * b * d - 3 * b * b * b * b
def thP (a b c d : Int64) : Int64 := b * b * b + 8 * d * a * a - 4 * a * b * c
def zrP (a b c d e : Int64) : Int64 := c * c - 3 * b * d + 12 * a * e
def onP (a b c d e : Int64) : Int64 := 2 * c * c * c - 9 * b * c * d + 27 * b * b * e + 27 * a * d * d - 72 * a * c * e
def dsP (z o : Int64) : Int64 := 4 * z * z * z - o * o
def cuC (k : Int64) (a b c : Int64) : Int32 := if lg_cmp k 0 = 0 then (if ¬ lg_cmp (b * b) (3 * a * c) = 0 then 2 else 1) else if lg_cmp k 0 ≤ 0 then 1 else 3
def cuM (k : Int64) (a b c : Int64) : Int32 := if lg_cmp k 0 ≤ 0 then (if 0 ≤ lg_cmp k 0 then (if ¬ lg_cmp (b * b) (3 * a * c) = 0 then 2 else 1) else 1) else 3
def rdC (x y : Int64) : Int32 := if ¬ lg_cmp x 0 = 0 then (if 0 ≤ lg_cmp x 0 then (if ¬ lg_cmp y 0 = 0 then 1 else 0) else 2) else 1
def qC (df sd fo th zr : Int64) : Int32 := if 0 ≤ lg_cmp df 0 then (if lg_cmp df 0 ≤ 0 then (if ¬ lg_cmp fo 0 = 0 then (if ¬ lg_cmp zr 0 = 0 then (if 0 ≤ lg_cmp sd 0 then 1 else if 0 ≤ lg_cmp fo 0 then 1 else 3) else 2) else rdC sd th) else if 0 ≤ lg_cmp sd 0 then 0 else if 0 ≤ lg_cmp fo 0 then 0 else 4) else 2
def qM (ds sd fo th zr : Int64) : Int32 := if 0 ≤ lg_cmp ds 0 then (if lg_cmp ds 0 ≤ 0 then (if ¬ lg_cmp fo 0 = 0 then (if ¬ lg_cmp zr 0 = 0 then (if 0 ≤ lg_cmp sd 0 then 1 else if 0 ≤ lg_cmp fo 0 then 1 else 3) else 2) else if 0 ≤ lg_cmp sd 0 then (if lg_cmp zr 0 = 0 then 1 else if lg_cmp th 0 = 0 then 0 else 1) else 2) else if 0 ≤ lg_cmp sd 0 then 0 else if 0 ≤ lg_cmp fo 0 then 0 else 4) else 2
theorem cu_same {k a b c : Int64} : cuM k a b c = cuC k a b c := by
  unfold cuM cuC
  have e0 := lg_cmp_eq k 0; have e1 := lg_cmp_le k 0; have e2 := lg_cmp_ge k 0
  simp only [e0, e1, e2]
  by_cases h : k = 0
  · subst h; rw [if_pos (Int64.le_refl _), if_pos (Int64.le_refl _), if_pos rfl]
  · rw [if_neg h]
    by_cases h2 : k ≤ 0
    · rw [if_pos h2, if_pos h2, if_neg (fun q => h (Int64.le_antisymm h2 q))]
    · rw [if_neg h2, if_neg h2]
theorem q_same {df ds sd fo th zr : Int64} (h1 : 0 ≤ df ↔ 0 ≤ ds) (h2 : df ≤ 0 ↔ ds ≤ 0) (h3 : df = 0 → fo = 0 → (sd = 0 ↔ zr = 0) ∨ sd < 0) : qM ds sd fo th zr = qC df sd fo th zr := by
  unfold qM qC rdC
  simp only [lg_cmp_eq, lg_cmp_le, lg_cmp_ge, h1, h2]
  by_cases k1 : 0 ≤ ds
  · by_cases k2 : ds ≤ 0
    · simp only [if_pos k1, if_pos k2]
      by_cases k3 : fo = 0
      · have hd : df = 0 := Int64.le_antisymm (h2.mpr k2) (h1.mpr k1)
        simp only [k3, not_true_eq_false, if_false]
        by_cases k4 : 0 ≤ sd
        · rcases h3 hd k3 with q | q
          · by_cases k5 : sd = 0
            · simp [k4, k5, q.mp k5]
            · simp [k4, k5, show ¬ zr = 0 from fun e => k5 (q.mpr e)]
          · exact absurd k4 (Int64.not_le.mpr q)
        · have k5 : ¬ sd = 0 := fun e => k4 (e ▸ Int64.le_refl _)
          simp [k4, k5]
      · simp only [k3, not_false_eq_true, if_true]
    · simp only [if_pos k1, if_neg k2]
  · simp only [if_neg k1]
theorem e_rootsOfCubic {d : Nat} {T N : Nat → Nat} {I : IT} {L : LT} {R : RT} {a b c u : Int64}  {k : Int64} (hk : cuP a b c u = k) : Ex (d + 1) 121 [.long a, .long b, .long c, .long u] (T, N, I, L, R) 0 0 (pI T N R (fun x9 I9 L9 => x9 = (cuC k a b c) ∧ I9 = I ∧ L9 = L)) := by
  refine ⟨_, rfl, Nat.le_of_ble_eq_true rfl, fun V C S => ?_⟩
  show V 0 [(0, .long a), (2, .long b), (4, .long c), (6, .long u)] [] (T, N, I, L, R) 0 0
  refine k_ldc2_w C rfl rfl rfl ?_
  refine k_lload_n C rfl rfl rfl ?_
  refine k_lmul C rfl rfl ?_
  refine k_lload_n C rfl rfl rfl ?_
  refine k_lmul C rfl rfl ?_
  refine k_lload C rfl rfl rfl ?_
  refine k_lmul C rfl rfl ?_
  refine k_lload C rfl rfl rfl ?_
  refine k_lmul C rfl rfl ?_
  refine k_ldc2_w C rfl rfl rfl ?_
  refine k_lload_n C rfl rfl rfl ?_
  refine k_lmul C rfl rfl ?_
  refine k_lload_n C rfl rfl rfl ?_
  refine k_lmul C rfl rfl ?_
  refine k_lload_n C rfl rfl rfl ?_
  refine k_lmul C rfl rfl ?_
  refine k_lload C rfl rfl rfl ?_
  refine k_lmul C rfl rfl ?_
  refine k_lsub C rfl rfl ?_
  refine k_lload_n C rfl rfl rfl ?_
  refine k_lload_n C rfl rfl rfl ?_
  refine k_lmul C rfl rfl ?_
  refine k_lload C rfl rfl rfl ?_
  refine k_lmul C rfl rfl ?_
  refine k_lload C rfl rfl rfl ?_
  refine k_lmul C rfl rfl ?_
  refine k_ladd C rfl rfl ?_
  refine k_ldc2_w C rfl rfl rfl ?_
  refine k_lload_n C rfl rfl rfl ?_
  refine k_lmul C rfl rfl ?_
  refine k_lload C rfl rfl rfl ?_
  refine k_lmul C rfl rfl ?_
  refine k_lload C rfl rfl rfl ?_
  refine k_lmul C rfl rfl ?_
  refine k_lload C rfl rfl rfl ?_
  refine k_lmul C rfl rfl ?_
  refine k_lsub C rfl rfl ?_
  refine k_ldc2_w C rfl rfl rfl ?_
  refine k_lload_n C rfl rfl rfl ?_
  refine k_lmul C rfl rfl ?_
  refine k_lload_n C rfl rfl rfl ?_
  refine k_lmul C rfl rfl ?_
  refine k_lload C rfl rfl rfl ?_
  refine k_lmul C rfl rfl ?_
  refine k_lload C rfl rfl rfl ?_
  refine k_lmul C rfl rfl ?_
  refine k_lsub C rfl rfl ?_
  refine k_lstore C (lw := [(8, .long _), (0, .long _), (2, .long _), (4, .long _), (6, .long _)]) rfl rfl (Nat.le_of_ble_eq_true rfl) rfl ?_
  show V 67 [(8, .long (cuP a b c u)), (0, .long a), (2, .long b), (4, .long c), (6, .long u)] [] (T, N, I, L, R) 0 0
  rw [hk]
  refine k_lload C rfl rfl rfl ?_
  refine k_lconst C (x := 0) rfl rfl rfl ?_
  refine k_lcmp C rfl rfl ?_
  refine k_if_eq C (t := 87) rfl rfl rfl (fun c71 => ?_) (fun c71 => ?_)
  · skip
    refine k_lload_n C rfl rfl rfl ?_
    refine k_lload_n C rfl rfl rfl ?_
    refine k_lmul C rfl rfl ?_
    refine k_ldc2_w C rfl rfl rfl ?_
    refine k_lload_n C rfl rfl rfl ?_
    refine k_lmul C rfl rfl ?_
    refine k_lload C rfl rfl rfl ?_
    refine k_lmul C rfl rfl ?_
    refine k_lcmp C rfl rfl ?_
    refine k_if_ne C (t := 106) rfl rfl rfl (fun c99 => ?_) (fun c99 => ?_)
    · skip
      refine k_iconst C (x := 2) rfl rfl rfl ?_
      exact k_iret C rfl (Or.inl rfl) (Nat.le_of_ble_eq_true rfl) (Nat.le_of_ble_eq_true rfl) ⟨_, _, _, rfl, rfl, by rw [cuC, if_pos c71, if_pos c99], rfl, rfl⟩
    refine k_iconst C (x := 1) rfl rfl rfl ?_
    refine k_goto C (pc2 := 107) rfl rfl ?_
    exact k_iret C rfl (Or.inl rfl) (Nat.le_of_ble_eq_true rfl) (Nat.le_of_ble_eq_true rfl) ⟨_, _, _, rfl, rfl, by rw [cuC, if_pos c71, if_neg c99], rfl, rfl⟩
  refine k_lload C rfl rfl rfl ?_
  refine k_lconst C (x := 0) rfl rfl rfl ?_
  refine k_lcmp C rfl rfl ?_
  refine k_if_le C (t := 85) rfl rfl rfl (fun c78 => ?_) (fun c78 => ?_)
  · skip
    refine k_iconst C (x := 1) rfl rfl rfl ?_
    exact k_iret C rfl (Or.inl rfl) (Nat.le_of_ble_eq_true rfl) (Nat.le_of_ble_eq_true rfl) ⟨_, _, _, rfl, rfl, by rw [cuC, if_neg c71, if_pos c78], rfl, rfl⟩
  refine k_iconst C (x := 3) rfl rfl rfl ?_
  refine k_goto C (pc2 := 86) rfl rfl ?_
  exact k_iret C rfl (Or.inl rfl) (Nat.le_of_ble_eq_true rfl) (Nat.le_of_ble_eq_true rfl) ⟨_, _, _, rfl, rfl, by rw [cuC, if_neg c71, if_neg c78], rfl, rfl⟩

theorem e_m_realOfCubic {d : Nat} {T N : Nat → Nat} {I : IT} {L : LT} {R : RT} {a b c u : Int64}  {k : Int64} (hk : cuP a b c u = k) : Ex (d + 1) 309 [.long a, .long b, .long c, .long u] (T, N, I, L, R) 0 0 (pI T N R (fun x9 I9 L9 => x9 = (cuM k a b c) ∧ I9 = I ∧ L9 = L)) := by
  refine ⟨_, rfl, Nat.le_of_ble_eq_true rfl, fun V C S => ?_⟩
  show V 0 [(0, .long a), (2, .long b), (4, .long c), (6, .long u)] [] (T, N, I, L, R) 0 0
  refine k_ldc2_w C rfl rfl rfl ?_
  refine k_lload_n C rfl rfl rfl ?_
  refine k_lmul C rfl rfl ?_
  refine k_lload_n C rfl rfl rfl ?_
  refine k_lmul C rfl rfl ?_
  refine k_lload C rfl rfl rfl ?_
  refine k_lmul C rfl rfl ?_
  refine k_lload C rfl rfl rfl ?_
  refine k_lmul C rfl rfl ?_
  refine k_ldc2_w C rfl rfl rfl ?_
  refine k_lload_n C rfl rfl rfl ?_
  refine k_lmul C rfl rfl ?_
  refine k_lload_n C rfl rfl rfl ?_
  refine k_lmul C rfl rfl ?_
  refine k_lload_n C rfl rfl rfl ?_
  refine k_lmul C rfl rfl ?_
  refine k_lload C rfl rfl rfl ?_
  refine k_lmul C rfl rfl ?_
  refine k_lsub C rfl rfl ?_
  refine k_lload_n C rfl rfl rfl ?_
  refine k_lload_n C rfl rfl rfl ?_
  refine k_lmul C rfl rfl ?_
  refine k_lload C rfl rfl rfl ?_
  refine k_lmul C rfl rfl ?_
  refine k_lload C rfl rfl rfl ?_
  refine k_lmul C rfl rfl ?_
  refine k_ladd C rfl rfl ?_
  refine k_ldc2_w C rfl rfl rfl ?_
  refine k_lload_n C rfl rfl rfl ?_
  refine k_lmul C rfl rfl ?_
  refine k_lload C rfl rfl rfl ?_
  refine k_lmul C rfl rfl ?_
  refine k_lload C rfl rfl rfl ?_
  refine k_lmul C rfl rfl ?_
  refine k_lload C rfl rfl rfl ?_
  refine k_lmul C rfl rfl ?_
  refine k_lsub C rfl rfl ?_
  refine k_ldc2_w C rfl rfl rfl ?_
  refine k_lload_n C rfl rfl rfl ?_
  refine k_lmul C rfl rfl ?_
  refine k_lload_n C rfl rfl rfl ?_
  refine k_lmul C rfl rfl ?_
  refine k_lload C rfl rfl rfl ?_
  refine k_lmul C rfl rfl ?_
  refine k_lload C rfl rfl rfl ?_
  refine k_lmul C rfl rfl ?_
  refine k_lsub C rfl rfl ?_
  refine k_lstore C (lw := [(8, .long _), (0, .long _), (2, .long _), (4, .long _), (6, .long _)]) rfl rfl (Nat.le_of_ble_eq_true rfl) rfl ?_
  show V 67 [(8, .long (cuP a b c u)), (0, .long a), (2, .long b), (4, .long c), (6, .long u)] [] (T, N, I, L, R) 0 0
  rw [hk]
  refine k_lload C rfl rfl rfl ?_
  refine k_lconst C (x := 0) rfl rfl rfl ?_
  refine k_lcmp C rfl rfl ?_
  refine k_if_le C (t := 78) rfl rfl rfl (fun c71 => ?_) (fun c71 => ?_)
  · skip
    refine k_lload C rfl rfl rfl ?_
    refine k_lconst C (x := 0) rfl rfl rfl ?_
    refine k_lcmp C rfl rfl ?_
    refine k_if_ge C (t := 89) rfl rfl rfl (fun c82 => ?_) (fun c82 => ?_)
    · skip
      refine k_lload_n C rfl rfl rfl ?_
      refine k_lload_n C rfl rfl rfl ?_
      refine k_lmul C rfl rfl ?_
      refine k_ldc2_w C rfl rfl rfl ?_
      refine k_lload_n C rfl rfl rfl ?_
      refine k_lmul C rfl rfl ?_
      refine k_lload C rfl rfl rfl ?_
      refine k_lmul C rfl rfl ?_
      refine k_lcmp C rfl rfl ?_
      refine k_if_ne C (t := 108) rfl rfl rfl (fun c101 => ?_) (fun c101 => ?_)
      · skip
        refine k_iconst C (x := 2) rfl rfl rfl ?_
        exact k_iret C rfl (Or.inl rfl) (Nat.le_of_ble_eq_true rfl) (Nat.le_of_ble_eq_true rfl) ⟨_, _, _, rfl, rfl, by rw [cuM, if_pos c71, if_pos c82, if_pos c101], rfl, rfl⟩
      refine k_iconst C (x := 1) rfl rfl rfl ?_
      refine k_goto C (pc2 := 109) rfl rfl ?_
      exact k_iret C rfl (Or.inl rfl) (Nat.le_of_ble_eq_true rfl) (Nat.le_of_ble_eq_true rfl) ⟨_, _, _, rfl, rfl, by rw [cuM, if_pos c71, if_pos c82, if_neg c101], rfl, rfl⟩
    refine k_iconst C (x := 1) rfl rfl rfl ?_
    refine k_goto C (pc2 := 109) rfl rfl ?_
    exact k_iret C rfl (Or.inl rfl) (Nat.le_of_ble_eq_true rfl) (Nat.le_of_ble_eq_true rfl) ⟨_, _, _, rfl, rfl, by rw [cuM, if_pos c71, if_neg c82], rfl, rfl⟩
  refine k_iconst C (x := 3) rfl rfl rfl ?_
  refine k_goto C (pc2 := 109) rfl rfl ?_
  exact k_iret C rfl (Or.inl rfl) (Nat.le_of_ble_eq_true rfl) (Nat.le_of_ble_eq_true rfl) ⟨_, _, _, rfl, rfl, by rw [cuM, if_neg c71], rfl, rfl⟩

theorem e_rootsOfDoubles {d : Nat} {T N : Nat → Nat} {I : IT} {L : LT} {R : RT} {x y : Int64}  : Ex (d + 1) 123 [.long x, .long y] (T, N, I, L, R) 0 0 (pI T N R (fun x9 I9 L9 => x9 = (rdC x y) ∧ I9 = I ∧ L9 = L)) := by
  refine ⟨_, rfl, Nat.le_of_ble_eq_true rfl, fun V C S => ?_⟩
  show V 0 [(0, .long x), (2, .long y)] [] (T, N, I, L, R) 0 0
  refine k_lload_n C rfl rfl rfl ?_
  refine k_lconst C (x := 0) rfl rfl rfl ?_
  refine k_lcmp C rfl rfl ?_
  refine k_if_ne C (t := 8) rfl rfl rfl (fun c3 => ?_) (fun c3 => ?_)
  · skip
    refine k_lload_n C rfl rfl rfl ?_
    refine k_lconst C (x := 0) rfl rfl rfl ?_
    refine k_lcmp C rfl rfl ?_
    refine k_if_ge C (t := 16) rfl rfl rfl (fun c11 => ?_) (fun c11 => ?_)
    · skip
      refine k_lload_n C rfl rfl rfl ?_
      refine k_lconst C (x := 0) rfl rfl rfl ?_
      refine k_lcmp C rfl rfl ?_
      refine k_if_ne C (t := 26) rfl rfl rfl (fun c19 => ?_) (fun c19 => ?_)
      · skip
        refine k_iconst C (x := 1) rfl rfl rfl ?_
        exact k_iret C rfl (Or.inl rfl) (Nat.le_of_ble_eq_true rfl) (Nat.le_of_ble_eq_true rfl) ⟨_, _, _, rfl, rfl, by rw [rdC, if_pos c3, if_pos c11, if_pos c19], rfl, rfl⟩
      refine k_iconst C (x := 0) rfl rfl rfl ?_
      refine k_goto C (pc2 := 27) rfl rfl ?_
      exact k_iret C rfl (Or.inl rfl) (Nat.le_of_ble_eq_true rfl) (Nat.le_of_ble_eq_true rfl) ⟨_, _, _, rfl, rfl, by rw [rdC, if_pos c3, if_pos c11, if_neg c19], rfl, rfl⟩
    refine k_iconst C (x := 2) rfl rfl rfl ?_
    exact k_iret C rfl (Or.inl rfl) (Nat.le_of_ble_eq_true rfl) (Nat.le_of_ble_eq_true rfl) ⟨_, _, _, rfl, rfl, by rw [rdC, if_pos c3, if_neg c11], rfl, rfl⟩
  refine k_iconst C (x := 1) rfl rfl rfl ?_
  exact k_iret C rfl (Or.inl rfl) (Nat.le_of_ble_eq_true rfl) (Nat.le_of_ble_eq_true rfl) ⟨_, _, _, rfl, rfl, by rw [rdC, if_neg c3], rfl, rfl⟩

theorem e_differences {d : Nat} {T N : Nat → Nat} {I : IT} {L : LT} {R : RT} {a b c u e : Int64}  : Ex (d + 1) 122 [.long a, .long b, .long c, .long u, .long e] (T, N, I, L, R) 0 0 (pL T N R (fun x9 I9 L9 => x9 = (dfP a b c u e) ∧ I9 = I ∧ L9 = L)) := by
  refine ⟨_, rfl, Nat.le_of_ble_eq_true rfl, fun V C S => ?_⟩
  show V 0 [(0, .long a), (2, .long b), (4, .long c), (6, .long u), (8, .long e)] [] (T, N, I, L, R) 0 0
  refine k_ldc2_w C rfl rfl rfl ?_
  refine k_lload_n C rfl rfl rfl ?_
  refine k_lmul C rfl rfl ?_
  refine k_lload_n C rfl rfl rfl ?_
  refine k_lmul C rfl rfl ?_
  refine k_lload_n C rfl rfl rfl ?_
  refine k_lmul C rfl rfl ?_
  refine k_lload C rfl rfl rfl ?_
  refine k_lmul C rfl rfl ?_
  refine k_lload C rfl rfl rfl ?_
  refine k_lmul C rfl rfl ?_
  refine k_lload C rfl rfl rfl ?_
  refine k_lmul C rfl rfl ?_
  refine k_ldc2_w C rfl rfl rfl ?_
  refine k_lload_n C rfl rfl rfl ?_
  refine k_lmul C rfl rfl ?_
  refine k_lload_n C rfl rfl rfl ?_
  refine k_lmul C rfl rfl ?_
  refine k_lload_n C rfl rfl rfl ?_
  refine k_lmul C rfl rfl ?_
  refine k_lload C rfl rfl rfl ?_
  refine k_lmul C rfl rfl ?_
  refine k_lload C rfl rfl rfl ?_
  refine k_lmul C rfl rfl ?_
  refine k_lload C rfl rfl rfl ?_
  refine k_lmul C rfl rfl ?_
  refine k_lsub C rfl rfl ?_
  refine k_ldc2_w C rfl rfl rfl ?_
  refine k_lload_n C rfl rfl rfl ?_
  refine k_lmul C rfl rfl ?_
  refine k_lload_n C rfl rfl rfl ?_
  refine k_lmul C rfl rfl ?_
  refine k_lload C rfl rfl rfl ?_
  refine k_lmul C rfl rfl ?_
  refine k_lload C rfl rfl rfl ?_
  refine k_lmul C rfl rfl ?_
  refine k_lload C rfl rfl rfl ?_
  refine k_lmul C rfl rfl ?_
  refine k_lload C rfl rfl rfl ?_
  refine k_lmul C rfl rfl ?_
  refine k_lsub C rfl rfl ?_
  refine k_ldc2_w C rfl rfl rfl ?_
  refine k_lload_n C rfl rfl rfl ?_
  refine k_lmul C rfl rfl ?_
  refine k_lload_n C rfl rfl rfl ?_
  refine k_lmul C rfl rfl ?_
  refine k_lload C rfl rfl rfl ?_
  refine k_lmul C rfl rfl ?_
  refine k_lload C rfl rfl rfl ?_
  refine k_lmul C rfl rfl ?_
  refine k_lload C rfl rfl rfl ?_
  refine k_lmul C rfl rfl ?_
  refine k_lload C rfl rfl rfl ?_
  refine k_lmul C rfl rfl ?_
  refine k_ladd C rfl rfl ?_
  refine k_ldc2_w C rfl rfl rfl ?_
  refine k_lload_n C rfl rfl rfl ?_
  refine k_lmul C rfl rfl ?_
  refine k_lload_n C rfl rfl rfl ?_
  refine k_lmul C rfl rfl ?_
  refine k_lload C rfl rfl rfl ?_
  refine k_lmul C rfl rfl ?_
  refine k_lload C rfl rfl rfl ?_
  refine k_lmul C rfl rfl ?_
  refine k_lload C rfl rfl rfl ?_
  refine k_lmul C rfl rfl ?_
  refine k_lload C rfl rfl rfl ?_
  refine k_lmul C rfl rfl ?_
  refine k_lsub C rfl rfl ?_
  refine k_ldc2_w C rfl rfl rfl ?_
  refine k_lload_n C rfl rfl rfl ?_
  refine k_lmul C rfl rfl ?_
  refine k_lload_n C rfl rfl rfl ?_
  refine k_lmul C rfl rfl ?_
  refine k_lload_n C rfl rfl rfl ?_
  refine k_lmul C rfl rfl ?_
  refine k_lload C rfl rfl rfl ?_
  refine k_lmul C rfl rfl ?_
  refine k_lload C rfl rfl rfl ?_
  refine k_lmul C rfl rfl ?_
  refine k_lload C rfl rfl rfl ?_
  refine k_lmul C rfl rfl ?_
  refine k_ladd C rfl rfl ?_
  refine k_ldc2_w C rfl rfl rfl ?_
  refine k_lload_n C rfl rfl rfl ?_
  refine k_lmul C rfl rfl ?_
  refine k_lload_n C rfl rfl rfl ?_
  refine k_lmul C rfl rfl ?_
  refine k_lload_n C rfl rfl rfl ?_
  refine k_lmul C rfl rfl ?_
  refine k_lload C rfl rfl rfl ?_
  refine k_lmul C rfl rfl ?_
  refine k_lload C rfl rfl rfl ?_
  refine k_lmul C rfl rfl ?_
  refine k_lload C rfl rfl rfl ?_
  refine k_lmul C rfl rfl ?_
  refine k_lsub C rfl rfl ?_
  refine k_ldc2_w C rfl rfl rfl ?_
  refine k_lload_n C rfl rfl rfl ?_
  refine k_lmul C rfl rfl ?_
  refine k_lload_n C rfl rfl rfl ?_
  refine k_lmul C rfl rfl ?_
  refine k_lload C rfl rfl rfl ?_
  refine k_lmul C rfl rfl ?_
  refine k_lload C rfl rfl rfl ?_
  refine k_lmul C rfl rfl ?_
  refine k_lload C rfl rfl rfl ?_
  refine k_lmul C rfl rfl ?_
  refine k_lload C rfl rfl rfl ?_
  refine k_lmul C rfl rfl ?_
  refine k_lsub C rfl rfl ?_
  refine k_ldc2_w C rfl rfl rfl ?_
  refine k_lload_n C rfl rfl rfl ?_
  refine k_lmul C rfl rfl ?_
  refine k_lload_n C rfl rfl rfl ?_
  refine k_lmul C rfl rfl ?_
  refine k_lload C rfl rfl rfl ?_
  refine k_lmul C rfl rfl ?_
  refine k_lload C rfl rfl rfl ?_
  refine k_lmul C rfl rfl ?_
  refine k_lload C rfl rfl rfl ?_
  refine k_lmul C rfl rfl ?_
  refine k_lload C rfl rfl rfl ?_
  refine k_lmul C rfl rfl ?_
  refine k_ladd C rfl rfl ?_
  refine k_ldc2_w C rfl rfl rfl ?_
  refine k_lload_n C rfl rfl rfl ?_
  refine k_lmul C rfl rfl ?_
  refine k_lload C rfl rfl rfl ?_
  refine k_lmul C rfl rfl ?_
  refine k_lload C rfl rfl rfl ?_
  refine k_lmul C rfl rfl ?_
  refine k_lload C rfl rfl rfl ?_
  refine k_lmul C rfl rfl ?_
  refine k_lload C rfl rfl rfl ?_
  refine k_lmul C rfl rfl ?_
  refine k_lload C rfl rfl rfl ?_
  refine k_lmul C rfl rfl ?_
  refine k_ladd C rfl rfl ?_
  refine k_ldc2_w C rfl rfl rfl ?_
  refine k_lload_n C rfl rfl rfl ?_
  refine k_lmul C rfl rfl ?_
  refine k_lload C rfl rfl rfl ?_
  refine k_lmul C rfl rfl ?_
  refine k_lload C rfl rfl rfl ?_
  refine k_lmul C rfl rfl ?_
  refine k_lload C rfl rfl rfl ?_
  refine k_lmul C rfl rfl ?_
  refine k_lload C rfl rfl rfl ?_
  refine k_lmul C rfl rfl ?_
  refine k_lload C rfl rfl rfl ?_
  refine k_lmul C rfl rfl ?_
  refine k_lsub C rfl rfl ?_
  refine k_ldc2_w C rfl rfl rfl ?_
  refine k_lload_n C rfl rfl rfl ?_
  refine k_lmul C rfl rfl ?_
  refine k_lload_n C rfl rfl rfl ?_
  refine k_lmul C rfl rfl ?_
  refine k_lload_n C rfl rfl rfl ?_
  refine k_lmul C rfl rfl ?_
  refine k_lload_n C rfl rfl rfl ?_
  refine k_lmul C rfl rfl ?_
  refine k_lload C rfl rfl rfl ?_
  refine k_lmul C rfl rfl ?_
  refine k_lload C rfl rfl rfl ?_
  refine k_lmul C rfl rfl ?_
  refine k_lsub C rfl rfl ?_
  refine k_ldc2_w C rfl rfl rfl ?_
  refine k_lload_n C rfl rfl rfl ?_
  refine k_lmul C rfl rfl ?_
  refine k_lload_n C rfl rfl rfl ?_
  refine k_lmul C rfl rfl ?_
  refine k_lload_n C rfl rfl rfl ?_
  refine k_lmul C rfl rfl ?_
  refine k_lload C rfl rfl rfl ?_
  refine k_lmul C rfl rfl ?_
  refine k_lload C rfl rfl rfl ?_
  refine k_lmul C rfl rfl ?_
  refine k_lload C rfl rfl rfl ?_
  refine k_lmul C rfl rfl ?_
  refine k_ladd C rfl rfl ?_
  refine k_ldc2_w C rfl rfl rfl ?_
  refine k_lload_n C rfl rfl rfl ?_
  refine k_lmul C rfl rfl ?_
  refine k_lload_n C rfl rfl rfl ?_
  refine k_lmul C rfl rfl ?_
  refine k_lload_n C rfl rfl rfl ?_
  refine k_lmul C rfl rfl ?_
  refine k_lload C rfl rfl rfl ?_
  refine k_lmul C rfl rfl ?_
  refine k_lload C rfl rfl rfl ?_
  refine k_lmul C rfl rfl ?_
  refine k_lload C rfl rfl rfl ?_
  refine k_lmul C rfl rfl ?_
  refine k_lsub C rfl rfl ?_
  refine k_ldc2_w C rfl rfl rfl ?_
  refine k_lload_n C rfl rfl rfl ?_
  refine k_lmul C rfl rfl ?_
  refine k_lload_n C rfl rfl rfl ?_
  refine k_lmul C rfl rfl ?_
  refine k_lload C rfl rfl rfl ?_
  refine k_lmul C rfl rfl ?_
  refine k_lload C rfl rfl rfl ?_
  refine k_lmul C rfl rfl ?_
  refine k_lload C rfl rfl rfl ?_
  refine k_lmul C rfl rfl ?_
  refine k_lload C rfl rfl rfl ?_
  refine k_lmul C rfl rfl ?_
  refine k_lsub C rfl rfl ?_
  refine k_lload_n C rfl rfl rfl ?_
  refine k_lload_n C rfl rfl rfl ?_
  refine k_lmul C rfl rfl ?_
  refine k_lload C rfl rfl rfl ?_
  refine k_lmul C rfl rfl ?_
  refine k_lload C rfl rfl rfl ?_
  refine k_lmul C rfl rfl ?_
  refine k_lload C rfl rfl rfl ?_
  refine k_lmul C rfl rfl ?_
  refine k_lload C rfl rfl rfl ?_
  refine k_lmul C rfl rfl ?_
  refine k_ladd C rfl rfl ?_
  exact k_lret C rfl rfl (Nat.le_of_ble_eq_true rfl) (Nat.le_of_ble_eq_true rfl) ⟨_, _, _, rfl, rfl, ⟨rfl, rfl, rfl⟩⟩

theorem e_rootsOfQuartic {d : Nat} {T N : Nat → Nat} {I : IT} {L : LT} {R : RT} {a b c u e : Int64}  {df : Int64} (hdf : dfP a b c u e = df) {sd fo th zr : Int64} (hsd : sdP a b c = sd) (hfo : foP a b c u e = fo) (hth : thP a b c u = th) (hzr : zrP a b c u e = zr) : Ex (d + 2) 124 [.long a, .long b, .long c, .long u, .long e] (T, N, I, L, R) 0 0 (pI T N R (fun x9 I9 L9 => x9 = (qC df sd fo th zr) ∧ I9 = I ∧ L9 = L)) := by
  refine ⟨_, rfl, Nat.le_of_ble_eq_true rfl, fun V C S => ?_⟩
  show V 0 [(0, .long a), (2, .long b), (4, .long c), (6, .long u), (8, .long e)] [] (T, N, I, L, R) 0 0
  refine k_lload_n C rfl rfl rfl ?_
  refine k_lload_n C rfl rfl rfl ?_
  refine k_lload C rfl rfl rfl ?_
  refine k_lload C rfl rfl rfl ?_
  refine k_lload C rfl rfl rfl ?_
  refine c_SL C e_differences rfl rfl rfl rfl rfl rfl rfl (Nat.le_of_ble_eq_true rfl) (Nat.le_of_ble_eq_true rfl) (Nat.le_of_ble_eq_true rfl) ?_
  rintro _ _ _ ⟨hx7, hI8, hL9⟩
  have hx7 := hx7.symm; subst hx7
  have hI8 := hI8.symm; subst hI8; have hL9 := hL9.symm; subst hL9
  rw [hdf]
  refine k_lstore C (lw := [(10, .long _), (0, .long _), (2, .long _), (4, .long _), (6, .long _), (8, .long _)]) rfl rfl (Nat.le_of_ble_eq_true rfl) rfl ?_
  refine k_ldc2_w C rfl rfl rfl ?_
  refine k_lload_n C rfl rfl rfl ?_
  refine k_lmul C rfl rfl ?_
  refine k_lload C rfl rfl rfl ?_
  refine k_lmul C rfl rfl ?_
  refine k_ldc2_w C rfl rfl rfl ?_
  refine k_lload_n C rfl rfl rfl ?_
  refine k_lmul C rfl rfl ?_
  refine k_lload_n C rfl rfl rfl ?_
  refine k_lmul C rfl rfl ?_
  refine k_lsub C rfl rfl ?_
  refine k_lstore C (lw := [(12, .long _), (10, .long _), (0, .long _), (2, .long _), (4, .long _), (6, .long _), (8, .long _)]) rfl rfl (Nat.le_of_ble_eq_true rfl) rfl ?_
  refine k_ldc2_w C rfl rfl rfl ?_
  refine k_lload_n C rfl rfl rfl ?_
  refine k_lmul C rfl rfl ?_
  refine k_lload_n C rfl rfl rfl ?_
  refine k_lmul C rfl rfl ?_
  refine k_lload_n C rfl rfl rfl ?_
  refine k_lmul C rfl rfl ?_
  refine k_lload C rfl rfl rfl ?_
  refine k_lmul C rfl rfl ?_
  refine k_ldc2_w C rfl rfl rfl ?_
  refine k_lload_n C rfl rfl rfl ?_
  refine k_lmul C rfl rfl ?_
  refine k_lload_n C rfl rfl rfl ?_
  refine k_lmul C rfl rfl ?_
  refine k_lload C rfl rfl rfl ?_
  refine k_lmul C rfl rfl ?_
  refine k_lload C rfl rfl rfl ?_
  refine k_lmul C rfl rfl ?_
  refine k_lsub C rfl rfl ?_
  refine k_ldc2_w C rfl rfl rfl ?_
  refine k_lload_n C rfl rfl rfl ?_
  refine k_lmul C rfl rfl ?_
  refine k_lload_n C rfl rfl rfl ?_
  refine k_lmul C rfl rfl ?_
  refine k_lload_n C rfl rfl rfl ?_
  refine k_lmul C rfl rfl ?_
  refine k_lload C rfl rfl rfl ?_
  refine k_lmul C rfl rfl ?_
  refine k_ladd C rfl rfl ?_
  refine k_ldc2_w C rfl rfl rfl ?_
  refine k_lload_n C rfl rfl rfl ?_
  refine k_lmul C rfl rfl ?_
  refine k_lload_n C rfl rfl rfl ?_
  refine k_lmul C rfl rfl ?_
  refine k_lload_n C rfl rfl rfl ?_
  refine k_lmul C rfl rfl ?_
  refine k_lload C rfl rfl rfl ?_
  refine k_lmul C rfl rfl ?_
  refine k_lsub C rfl rfl ?_
  refine k_ldc2_w C rfl rfl rfl ?_
  refine k_lload_n C rfl rfl rfl ?_
  refine k_lmul C rfl rfl ?_
  refine k_lload_n C rfl rfl rfl ?_
  refine k_lmul C rfl rfl ?_
  refine k_lload_n C rfl rfl rfl ?_
  refine k_lmul C rfl rfl ?_
  refine k_lload_n C rfl rfl rfl ?_
  refine k_lmul C rfl rfl ?_
  refine k_lsub C rfl rfl ?_
  refine k_lstore C (lw := [(14, .long _), (12, .long _), (10, .long _), (0, .long _), (2, .long _), (4, .long _), (6, .long _), (8, .long _)]) rfl rfl (Nat.le_of_ble_eq_true rfl) rfl ?_
  show V 97 [(14, .long (foP a b c u e)), (12, .long (sdP a b c)), (10, .long df), (0, .long a), (2, .long b), (4, .long c), (6, .long u), (8, .long e)] [] (T, N, I, L, R) 0 0
  rw [hsd, hfo]
  refine k_lload C rfl rfl rfl ?_
  refine k_lconst C (x := 0) rfl rfl rfl ?_
  refine k_lcmp C rfl rfl ?_
  refine k_if_ge C (t := 106) rfl rfl rfl (fun c101 => ?_) (fun c101 => ?_)
  · skip
    refine k_lload C rfl rfl rfl ?_
    refine k_lconst C (x := 0) rfl rfl rfl ?_
    refine k_lcmp C rfl rfl ?_
    refine k_if_le C (t := 133) rfl rfl rfl (fun c110 => ?_) (fun c110 => ?_)
    · skip
      refine k_lload C rfl rfl rfl ?_
      refine k_lconst C (x := 0) rfl rfl rfl ?_
      refine k_lcmp C rfl rfl ?_
      refine k_if_ne C (t := 177) rfl rfl rfl (fun c137 => ?_) (fun c137 => ?_)
      · skip
        refine k_lload C rfl rfl rfl ?_
        refine k_lload C rfl rfl rfl ?_
        refine k_lmul C rfl rfl ?_
        refine k_ldc2_w C rfl rfl rfl ?_
        refine k_lload_n C rfl rfl rfl ?_
        refine k_lmul C rfl rfl ?_
        refine k_lload C rfl rfl rfl ?_
        refine k_lmul C rfl rfl ?_
        refine k_lsub C rfl rfl ?_
        refine k_ldc2_w C rfl rfl rfl ?_
        refine k_lload_n C rfl rfl rfl ?_
        refine k_lmul C rfl rfl ?_
        refine k_lload C rfl rfl rfl ?_
        refine k_lmul C rfl rfl ?_
        refine k_ladd C rfl rfl ?_
        show V 200 [(14, .long fo), (12, .long sd), (10, .long df), (0, .long a), (2, .long b), (4, .long c), (6, .long u), (8, .long e)] [.long (zrP a b c u e)] (T, N, I, L, R) 0 0
        rw [hzr]
        refine k_lconst C (x := 0) rfl rfl rfl ?_
        refine k_lcmp C rfl rfl ?_
        refine k_if_ne C (t := 207) rfl rfl rfl (fun c202 => ?_) (fun c202 => ?_)
        · skip
          refine k_lload C rfl rfl rfl ?_
          refine k_lconst C (x := 0) rfl rfl rfl ?_
          refine k_lcmp C rfl rfl ?_
          refine k_if_ge C (t := 225) rfl rfl rfl (fun c211 => ?_) (fun c211 => ?_)
          · skip
            refine k_iconst C (x := 1) rfl rfl rfl ?_
            exact k_iret C rfl (Or.inl rfl) (Nat.le_of_ble_eq_true rfl) (Nat.le_of_ble_eq_true rfl) ⟨_, _, _, rfl, rfl, by rw [qC, if_pos c101, if_pos c110, if_pos c137, if_pos c202, if_pos c211], rfl, rfl⟩
          refine k_lload C rfl rfl rfl ?_
          refine k_lconst C (x := 0) rfl rfl rfl ?_
          refine k_lcmp C rfl rfl ?_
          refine k_if_ge C (t := 225) rfl rfl rfl (fun c218 => ?_) (fun c218 => ?_)
          · skip
            refine k_iconst C (x := 1) rfl rfl rfl ?_
            exact k_iret C rfl (Or.inl rfl) (Nat.le_of_ble_eq_true rfl) (Nat.le_of_ble_eq_true rfl) ⟨_, _, _, rfl, rfl, by rw [qC, if_pos c101, if_pos c110, if_pos c137, if_pos c202, if_neg c211, if_pos c218], rfl, rfl⟩
          refine k_iconst C (x := 3) rfl rfl rfl ?_
          refine k_goto C (pc2 := 226) rfl rfl ?_
          exact k_iret C rfl (Or.inl rfl) (Nat.le_of_ble_eq_true rfl) (Nat.le_of_ble_eq_true rfl) ⟨_, _, _, rfl, rfl, by rw [qC, if_pos c101, if_pos c110, if_pos c137, if_pos c202, if_neg c211, if_neg c218], rfl, rfl⟩
        refine k_iconst C (x := 2) rfl rfl rfl ?_
        exact k_iret C rfl (Or.inl rfl) (Nat.le_of_ble_eq_true rfl) (Nat.le_of_ble_eq_true rfl) ⟨_, _, _, rfl, rfl, by rw [qC, if_pos c101, if_pos c110, if_pos c137, if_neg c202], rfl, rfl⟩
      refine k_lload_n C rfl rfl rfl ?_
      refine k_lload_n C rfl rfl rfl ?_
      refine k_lmul C rfl rfl ?_
      refine k_lload_n C rfl rfl rfl ?_
      refine k_lmul C rfl rfl ?_
      refine k_ldc2_w C rfl rfl rfl ?_
      refine k_lload C rfl rfl rfl ?_
      refine k_lmul C rfl rfl ?_
      refine k_lload_n C rfl rfl rfl ?_
      refine k_lmul C rfl rfl ?_
      refine k_lload_n C rfl rfl rfl ?_
      refine k_lmul C rfl rfl ?_
      refine k_ladd C rfl rfl ?_
      refine k_ldc2_w C rfl rfl rfl ?_
      refine k_lload_n C rfl rfl rfl ?_
      refine k_lmul C rfl rfl ?_
      refine k_lload_n C rfl rfl rfl ?_
      refine k_lmul C rfl rfl ?_
      refine k_lload C rfl rfl rfl ?_
      refine k_lmul C rfl rfl ?_
      refine k_lsub C rfl rfl ?_
      refine k_lstore C (lw := [(16, .long _), (14, .long _), (12, .long _), (10, .long _), (0, .long _), (2, .long _), (4, .long _), (6, .long _), (8, .long _)]) rfl rfl (Nat.le_of_ble_eq_true rfl) rfl ?_
      show V 169 [(16, .long (thP a b c u)), (14, .long fo), (12, .long sd), (10, .long df), (0, .long a), (2, .long b), (4, .long c), (6, .long u), (8, .long e)] [] (T, N, I, L, R) 0 0
      rw [hth]
      refine k_lload C rfl rfl rfl ?_
      refine k_lload C rfl rfl rfl ?_
      refine c_SI C e_rootsOfDoubles rfl rfl rfl rfl rfl rfl rfl (Nat.le_of_ble_eq_true rfl) (Nat.le_of_ble_eq_true rfl) (Nat.le_of_ble_eq_true rfl) ?_
      rintro _ _ _ ⟨hx7, hI8, hL9⟩
      have hx7 := hx7.symm; subst hx7
      have hI8 := hI8.symm; subst hI8; have hL9 := hL9.symm; subst hL9
      exact k_iret C rfl (Or.inl rfl) (Nat.le_of_ble_eq_true rfl) (Nat.le_of_ble_eq_true rfl) ⟨_, _, _, rfl, rfl, by rw [qC, if_pos c101, if_pos c110, if_neg c137], rfl, rfl⟩
    refine k_lload C rfl rfl rfl ?_
    refine k_lconst C (x := 0) rfl rfl rfl ?_
    refine k_lcmp C rfl rfl ?_
    refine k_if_ge C (t := 131) rfl rfl rfl (fun c117 => ?_) (fun c117 => ?_)
    · skip
      refine k_iconst C (x := 0) rfl rfl rfl ?_
      exact k_iret C rfl (Or.inl rfl) (Nat.le_of_ble_eq_true rfl) (Nat.le_of_ble_eq_true rfl) ⟨_, _, _, rfl, rfl, by rw [qC, if_pos c101, if_neg c110, if_pos c117], rfl, rfl⟩
    refine k_lload C rfl rfl rfl ?_
    refine k_lconst C (x := 0) rfl rfl rfl ?_
    refine k_lcmp C rfl rfl ?_
    refine k_if_ge C (t := 131) rfl rfl rfl (fun c124 => ?_) (fun c124 => ?_)
    · skip
      refine k_iconst C (x := 0) rfl rfl rfl ?_
      exact k_iret C rfl (Or.inl rfl) (Nat.le_of_ble_eq_true rfl) (Nat.le_of_ble_eq_true rfl) ⟨_, _, _, rfl, rfl, by rw [qC, if_pos c101, if_neg c110, if_neg c117, if_pos c124], rfl, rfl⟩
    refine k_iconst C (x := 4) rfl rfl rfl ?_
    refine k_goto C (pc2 := 132) rfl rfl ?_
    exact k_iret C rfl (Or.inl rfl) (Nat.le_of_ble_eq_true rfl) (Nat.le_of_ble_eq_true rfl) ⟨_, _, _, rfl, rfl, by rw [qC, if_pos c101, if_neg c110, if_neg c117, if_neg c124], rfl, rfl⟩
  refine k_iconst C (x := 2) rfl rfl rfl ?_
  exact k_iret C rfl (Or.inl rfl) (Nat.le_of_ble_eq_true rfl) (Nat.le_of_ble_eq_true rfl) ⟨_, _, _, rfl, rfl, by rw [qC, if_neg c101], rfl, rfl⟩

theorem e_m_realOfQuartic {d : Nat} {T N : Nat → Nat} {I : IT} {L : LT} {R : RT} {a b c u e : Int64} {sd fo th zr : Int64} (hsd : sdP a b c = sd) (hfo : foP a b c u e = fo) (hth : thP a b c u = th) (hzr : zrP a b c u e = zr)  {on ds : Int64} (hon : onP a b c u e = on) (hds : dsP zr on = ds)  : Ex (d + 1) 310 [.long a, .long b, .long c, .long u, .long e] (T, N, I, L, R) 0 0 (pI T N R (fun x9 I9 L9 => x9 = (qM ds sd fo th zr) ∧ I9 = I ∧ L9 = L)) := by
  refine ⟨_, rfl, Nat.le_of_ble_eq_true rfl, fun V C S => ?_⟩
  show V 0 [(0, .long a), (2, .long b), (4, .long c), (6, .long u), (8, .long e)] [] (T, N, I, L, R) 0 0
  refine k_lload C rfl rfl rfl ?_
  refine k_lload C rfl rfl rfl ?_
  refine k_lmul C rfl rfl ?_
  refine k_ldc2_w C rfl rfl rfl ?_
  refine k_lload_n C rfl rfl rfl ?_
  refine k_lmul C rfl rfl ?_
  refine k_lload C rfl rfl rfl ?_
  refine k_lmul C rfl rfl ?_
  refine k_lsub C rfl rfl ?_
  refine k_ldc2_w C rfl rfl rfl ?_
  refine k_lload_n C rfl rfl rfl ?_
  refine k_lmul C rfl rfl ?_
  refine k_lload C rfl rfl rfl ?_
  refine k_lmul C rfl rfl ?_
  refine k_ladd C rfl rfl ?_
  refine k_lstore C (lw := [(10, .long _), (0, .long _), (2, .long _), (4, .long _), (6, .long _), (8, .long _)]) rfl rfl (Nat.le_of_ble_eq_true rfl) rfl ?_
  show V 25 [(10, .long (zrP a b c u e)), (0, .long a), (2, .long b), (4, .long c), (6, .long u), (8, .long e)] [] (T, N, I, L, R) 0 0
  rw [hzr]
  refine k_ldc2_w C rfl rfl rfl ?_
  refine k_lload C rfl rfl rfl ?_
  refine k_lmul C rfl rfl ?_
  refine k_lload C rfl rfl rfl ?_
  refine k_lmul C rfl rfl ?_
  refine k_lload C rfl rfl rfl ?_
  refine k_lmul C rfl rfl ?_
  refine k_ldc2_w C rfl rfl rfl ?_
  refine k_lload_n C rfl rfl rfl ?_
  refine k_lmul C rfl rfl ?_
  refine k_lload C rfl rfl rfl ?_
  refine k_lmul C rfl rfl ?_
  refine k_lload C rfl rfl rfl ?_
  refine k_lmul C rfl rfl ?_
  refine k_lsub C rfl rfl ?_
  refine k_ldc2_w C rfl rfl rfl ?_
  refine k_lload_n C rfl rfl rfl ?_
  refine k_lmul C rfl rfl ?_
  refine k_lload_n C rfl rfl rfl ?_
  refine k_lmul C rfl rfl ?_
  refine k_lload C rfl rfl rfl ?_
  refine k_lmul C rfl rfl ?_
  refine k_ladd C rfl rfl ?_
  refine k_ldc2_w C rfl rfl rfl ?_
  refine k_lload_n C rfl rfl rfl ?_
  refine k_lmul C rfl rfl ?_
  refine k_lload C rfl rfl rfl ?_
  refine k_lmul C rfl rfl ?_
  refine k_lload C rfl rfl rfl ?_
  refine k_lmul C rfl rfl ?_
  refine k_ladd C rfl rfl ?_
  refine k_ldc2_w C rfl rfl rfl ?_
  refine k_lload_n C rfl rfl rfl ?_
  refine k_lmul C rfl rfl ?_
  refine k_lload C rfl rfl rfl ?_
  refine k_lmul C rfl rfl ?_
  refine k_lload C rfl rfl rfl ?_
  refine k_lmul C rfl rfl ?_
  refine k_lsub C rfl rfl ?_
  refine k_lstore C (lw := [(12, .long _), (10, .long _), (0, .long _), (2, .long _), (4, .long _), (6, .long _), (8, .long _)]) rfl rfl (Nat.le_of_ble_eq_true rfl) rfl ?_
  show V 86 [(12, .long (onP a b c u e)), (10, .long zr), (0, .long a), (2, .long b), (4, .long c), (6, .long u), (8, .long e)] [] (T, N, I, L, R) 0 0
  rw [hon]
  refine k_ldc2_w C rfl rfl rfl ?_
  refine k_lload C rfl rfl rfl ?_
  refine k_lmul C rfl rfl ?_
  refine k_lload C rfl rfl rfl ?_
  refine k_lmul C rfl rfl ?_
  refine k_lload C rfl rfl rfl ?_
  refine k_lmul C rfl rfl ?_
  refine k_lload C rfl rfl rfl ?_
  refine k_lload C rfl rfl rfl ?_
  refine k_lmul C rfl rfl ?_
  refine k_lsub C rfl rfl ?_
  refine k_lstore C (lw := [(14, .long _), (12, .long _), (10, .long _), (0, .long _), (2, .long _), (4, .long _), (6, .long _), (8, .long _)]) rfl rfl (Nat.le_of_ble_eq_true rfl) rfl ?_
  show V 106 [(14, .long (dsP zr on)), (12, .long on), (10, .long zr), (0, .long a), (2, .long b), (4, .long c), (6, .long u), (8, .long e)] [] (T, N, I, L, R) 0 0
  rw [hds]
  refine k_ldc2_w C rfl rfl rfl ?_
  refine k_lload_n C rfl rfl rfl ?_
  refine k_lmul C rfl rfl ?_
  refine k_lload C rfl rfl rfl ?_
  refine k_lmul C rfl rfl ?_
  refine k_ldc2_w C rfl rfl rfl ?_
  refine k_lload_n C rfl rfl rfl ?_
  refine k_lmul C rfl rfl ?_
  refine k_lload_n C rfl rfl rfl ?_
  refine k_lmul C rfl rfl ?_
  refine k_lsub C rfl rfl ?_
  refine k_lstore C (lw := [(16, .long _), (14, .long _), (12, .long _), (10, .long _), (0, .long _), (2, .long _), (4, .long _), (6, .long _), (8, .long _)]) rfl rfl (Nat.le_of_ble_eq_true rfl) rfl ?_
  refine k_lload_n C rfl rfl rfl ?_
  refine k_lload_n C rfl rfl rfl ?_
  refine k_lmul C rfl rfl ?_
  refine k_lload_n C rfl rfl rfl ?_
  refine k_lmul C rfl rfl ?_
  refine k_ldc2_w C rfl rfl rfl ?_
  refine k_lload C rfl rfl rfl ?_
  refine k_lmul C rfl rfl ?_
  refine k_lload_n C rfl rfl rfl ?_
  refine k_lmul C rfl rfl ?_
  refine k_lload_n C rfl rfl rfl ?_
  refine k_lmul C rfl rfl ?_
  refine k_ladd C rfl rfl ?_
  refine k_ldc2_w C rfl rfl rfl ?_
  refine k_lload_n C rfl rfl rfl ?_
  refine k_lmul C rfl rfl ?_
  refine k_lload_n C rfl rfl rfl ?_
  refine k_lmul C rfl rfl ?_
  refine k_lload C rfl rfl rfl ?_
  refine k_lmul C rfl rfl ?_
  refine k_lsub C rfl rfl ?_
  refine k_lstore C (lw := [(18, .long _), (16, .long _), (14, .long _), (12, .long _), (10, .long _), (0, .long _), (2, .long _), (4, .long _), (6, .long _), (8, .long _)]) rfl rfl (Nat.le_of_ble_eq_true rfl) rfl ?_
  refine k_ldc2_w C rfl rfl rfl ?_
  refine k_lload_n C rfl rfl rfl ?_
  refine k_lmul C rfl rfl ?_
  refine k_lload_n C rfl rfl rfl ?_
  refine k_lmul C rfl rfl ?_
  refine k_lload_n C rfl rfl rfl ?_
  refine k_lmul C rfl rfl ?_
  refine k_lload C rfl rfl rfl ?_
  refine k_lmul C rfl rfl ?_
  refine k_ldc2_w C rfl rfl rfl ?_
  refine k_lload_n C rfl rfl rfl ?_
  refine k_lmul C rfl rfl ?_
  refine k_lload_n C rfl rfl rfl ?_
  refine k_lmul C rfl rfl ?_
  refine k_lload C rfl rfl rfl ?_
  refine k_lmul C rfl rfl ?_
  refine k_lload C rfl rfl rfl ?_
  refine k_lmul C rfl rfl ?_
  refine k_lsub C rfl rfl ?_
  refine k_ldc2_w C rfl rfl rfl ?_
  refine k_lload_n C rfl rfl rfl ?_
  refine k_lmul C rfl rfl ?_
  refine k_lload_n C rfl rfl rfl ?_
  refine k_lmul C rfl rfl ?_
  refine k_lload_n C rfl rfl rfl ?_
  refine k_lmul C rfl rfl ?_
  refine k_lload C rfl rfl rfl ?_
  refine k_lmul C rfl rfl ?_
  refine k_ladd C rfl rfl ?_
  refine k_ldc2_w C rfl rfl rfl ?_
  refine k_lload_n C rfl rfl rfl ?_
  refine k_lmul C rfl rfl ?_
  refine k_lload_n C rfl rfl rfl ?_
  refine k_lmul C rfl rfl ?_
  refine k_lload_n C rfl rfl rfl ?_
  refine k_lmul C rfl rfl ?_
  refine k_lload C rfl rfl rfl ?_
  refine k_lmul C rfl rfl ?_
  refine k_lsub C rfl rfl ?_
  refine k_ldc2_w C rfl rfl rfl ?_
  refine k_lload_n C rfl rfl rfl ?_
  refine k_lmul C rfl rfl ?_
  refine k_lload_n C rfl rfl rfl ?_
  refine k_lmul C rfl rfl ?_
  refine k_lload_n C rfl rfl rfl ?_
  refine k_lmul C rfl rfl ?_
  refine k_lload_n C rfl rfl rfl ?_
  refine k_lmul C rfl rfl ?_
  refine k_lsub C rfl rfl ?_
  refine k_lstore C (lw := [(20, .long _), (18, .long _), (16, .long _), (14, .long _), (12, .long _), (10, .long _), (0, .long _), (2, .long _), (4, .long _), (6, .long _), (8, .long _)]) rfl rfl (Nat.le_of_ble_eq_true rfl) rfl ?_
  show V 219 [(20, .long (foP a b c u e)), (18, .long (thP a b c u)), (16, .long (sdP a b c)), (14, .long ds), (12, .long on), (10, .long zr), (0, .long a), (2, .long b), (4, .long c), (6, .long u), (8, .long e)] [] (T, N, I, L, R) 0 0
  rw [hfo, hth, hsd]
  refine k_lload C rfl rfl rfl ?_
  refine k_lconst C (x := 0) rfl rfl rfl ?_
  refine k_lcmp C rfl rfl ?_
  refine k_if_ge C (t := 228) rfl rfl rfl (fun c223 => ?_) (fun c223 => ?_)
  · skip
    refine k_lload C rfl rfl rfl ?_
    refine k_lconst C (x := 0) rfl rfl rfl ?_
    refine k_lcmp C rfl rfl ?_
    refine k_if_le C (t := 255) rfl rfl rfl (fun c232 => ?_) (fun c232 => ?_)
    · skip
      refine k_lload C rfl rfl rfl ?_
      refine k_lconst C (x := 0) rfl rfl rfl ?_
      refine k_lcmp C rfl rfl ?_
      refine k_if_ne C (t := 293) rfl rfl rfl (fun c259 => ?_) (fun c259 => ?_)
      · skip
        refine k_lload C rfl rfl rfl ?_
        refine k_lconst C (x := 0) rfl rfl rfl ?_
        refine k_lcmp C rfl rfl ?_
        refine k_if_ne C (t := 302) rfl rfl rfl (fun c297 => ?_) (fun c297 => ?_)
        · skip
          refine k_lload C rfl rfl rfl ?_
          refine k_lconst C (x := 0) rfl rfl rfl ?_
          refine k_lcmp C rfl rfl ?_
          refine k_if_ge C (t := 320) rfl rfl rfl (fun c306 => ?_) (fun c306 => ?_)
          · skip
            refine k_iconst C (x := 1) rfl rfl rfl ?_
            exact k_iret C rfl (Or.inl rfl) (Nat.le_of_ble_eq_true rfl) (Nat.le_of_ble_eq_true rfl) ⟨_, _, _, rfl, rfl, by rw [qM, if_pos c223, if_pos c232, if_pos c259, if_pos c297, if_pos c306], rfl, rfl⟩
          refine k_lload C rfl rfl rfl ?_
          refine k_lconst C (x := 0) rfl rfl rfl ?_
          refine k_lcmp C rfl rfl ?_
          refine k_if_ge C (t := 320) rfl rfl rfl (fun c313 => ?_) (fun c313 => ?_)
          · skip
            refine k_iconst C (x := 1) rfl rfl rfl ?_
            exact k_iret C rfl (Or.inl rfl) (Nat.le_of_ble_eq_true rfl) (Nat.le_of_ble_eq_true rfl) ⟨_, _, _, rfl, rfl, by rw [qM, if_pos c223, if_pos c232, if_pos c259, if_pos c297, if_neg c306, if_pos c313], rfl, rfl⟩
          refine k_iconst C (x := 3) rfl rfl rfl ?_
          refine k_goto C (pc2 := 321) rfl rfl ?_
          exact k_iret C rfl (Or.inl rfl) (Nat.le_of_ble_eq_true rfl) (Nat.le_of_ble_eq_true rfl) ⟨_, _, _, rfl, rfl, by rw [qM, if_pos c223, if_pos c232, if_pos c259, if_pos c297, if_neg c306, if_neg c313], rfl, rfl⟩
        refine k_iconst C (x := 2) rfl rfl rfl ?_
        exact k_iret C rfl (Or.inl rfl) (Nat.le_of_ble_eq_true rfl) (Nat.le_of_ble_eq_true rfl) ⟨_, _, _, rfl, rfl, by rw [qM, if_pos c223, if_pos c232, if_pos c259, if_neg c297], rfl, rfl⟩
      refine k_lload C rfl rfl rfl ?_
      refine k_lconst C (x := 0) rfl rfl rfl ?_
      refine k_lcmp C rfl rfl ?_
      refine k_if_ge C (t := 273) rfl rfl rfl (fun c266 => ?_) (fun c266 => ?_)
      · skip
        refine k_lload C rfl rfl rfl ?_
        refine k_lconst C (x := 0) rfl rfl rfl ?_
        refine k_lcmp C rfl rfl ?_
        refine k_if_eq C (t := 287) rfl rfl rfl (fun c277 => ?_) (fun c277 => ?_)
        · skip
          refine k_iconst C (x := 1) rfl rfl rfl ?_
          refine k_goto C (pc2 := 292) rfl rfl ?_
          exact k_iret C rfl (Or.inl rfl) (Nat.le_of_ble_eq_true rfl) (Nat.le_of_ble_eq_true rfl) ⟨_, _, _, rfl, rfl, by rw [qM, if_pos c223, if_pos c232, if_neg c259, if_pos c266, if_pos c277], rfl, rfl⟩
        refine k_lload C rfl rfl rfl ?_
        refine k_lconst C (x := 0) rfl rfl rfl ?_
        refine k_lcmp C rfl rfl ?_
        refine k_if_eq C (t := 291) rfl rfl rfl (fun c284 => ?_) (fun c284 => ?_)
        · skip
          refine k_iconst C (x := 0) rfl rfl rfl ?_
          exact k_iret C rfl (Or.inl rfl) (Nat.le_of_ble_eq_true rfl) (Nat.le_of_ble_eq_true rfl) ⟨_, _, _, rfl, rfl, by rw [qM, if_pos c223, if_pos c232, if_neg c259, if_pos c266, if_neg c277, if_pos c284], rfl, rfl⟩
        refine k_iconst C (x := 1) rfl rfl rfl ?_
        refine k_goto C (pc2 := 292) rfl rfl ?_
        exact k_iret C rfl (Or.inl rfl) (Nat.le_of_ble_eq_true rfl) (Nat.le_of_ble_eq_true rfl) ⟨_, _, _, rfl, rfl, by rw [qM, if_pos c223, if_pos c232, if_neg c259, if_pos c266, if_neg c277, if_neg c284], rfl, rfl⟩
      refine k_iconst C (x := 2) rfl rfl rfl ?_
      refine k_goto C (pc2 := 292) rfl rfl ?_
      exact k_iret C rfl (Or.inl rfl) (Nat.le_of_ble_eq_true rfl) (Nat.le_of_ble_eq_true rfl) ⟨_, _, _, rfl, rfl, by rw [qM, if_pos c223, if_pos c232, if_neg c259, if_neg c266], rfl, rfl⟩
    refine k_lload C rfl rfl rfl ?_
    refine k_lconst C (x := 0) rfl rfl rfl ?_
    refine k_lcmp C rfl rfl ?_
    refine k_if_ge C (t := 253) rfl rfl rfl (fun c239 => ?_) (fun c239 => ?_)
    · skip
      refine k_iconst C (x := 0) rfl rfl rfl ?_
      exact k_iret C rfl (Or.inl rfl) (Nat.le_of_ble_eq_true rfl) (Nat.le_of_ble_eq_true rfl) ⟨_, _, _, rfl, rfl, by rw [qM, if_pos c223, if_neg c232, if_pos c239], rfl, rfl⟩
    refine k_lload C rfl rfl rfl ?_
    refine k_lconst C (x := 0) rfl rfl rfl ?_
    refine k_lcmp C rfl rfl ?_
    refine k_if_ge C (t := 253) rfl rfl rfl (fun c246 => ?_) (fun c246 => ?_)
    · skip
      refine k_iconst C (x := 0) rfl rfl rfl ?_
      exact k_iret C rfl (Or.inl rfl) (Nat.le_of_ble_eq_true rfl) (Nat.le_of_ble_eq_true rfl) ⟨_, _, _, rfl, rfl, by rw [qM, if_pos c223, if_neg c232, if_neg c239, if_pos c246], rfl, rfl⟩
    refine k_iconst C (x := 4) rfl rfl rfl ?_
    refine k_goto C (pc2 := 254) rfl rfl ?_
    exact k_iret C rfl (Or.inl rfl) (Nat.le_of_ble_eq_true rfl) (Nat.le_of_ble_eq_true rfl) ⟨_, _, _, rfl, rfl, by rw [qM, if_pos c223, if_neg c232, if_neg c239, if_neg c246], rfl, rfl⟩
  refine k_iconst C (x := 2) rfl rfl rfl ?_
  exact k_iret C rfl (Or.inl rfl) (Nat.le_of_ble_eq_true rfl) (Nat.le_of_ble_eq_true rfl) ⟨_, _, _, rfl, rfl, by rw [qM, if_neg c223], rfl, rfl⟩

def dfI (a b c d e : Int) : Int := 256 * a * a * a * e * e * e - 192 * a * a * b * d * e * e - 128 * a * a * c * c * e * e + 144 * a * a * c * d * d * e - 27 * a * a * d * d * d * d + 144 * a * b * b * c * e * e - 6 * a * b * b * d * d * e - 80 * a * b * c * c * d * e + 18 * a * b * c * d * d * d + 16 * a * c * c * c * c * e - 4 * a * c * c * c * d * d - 27 * b * b * b * b * e * e + 18 * b * b * b * c * d * e - 4 * b * b * b * d * d * d - 4 * b * b * c * c * c * e + b * b * c * c * d * d
def sdI (a b c : Int) : Int := 8 * a * c - 3 * b * b
def foI (a b c d e : Int) : Int := 64 * a * a * a * e - 16 * a * a * c * c + 16 * a * b * b * c - 16 * a * a * b * d - 3 * b * b * b * b
def zrI (a b c d e : Int) : Int := c * c - 3 * b * d + 12 * a * e
theorem dfI_eq {a b c d e : Int} : dfP (Int64.ofInt a) (Int64.ofInt b) (Int64.ofInt c) (Int64.ofInt d) (Int64.ofInt e) = Int64.ofInt (dfI a b c d e) := by
  unfold dfP dfI; simp only [Int64.ofInt_add, Int64.ofInt_sub, Int64.ofInt_mul]; rfl
theorem sdI_eq {a b c : Int} : sdP (Int64.ofInt a) (Int64.ofInt b) (Int64.ofInt c) = Int64.ofInt (sdI a b c) := by
  unfold sdP sdI; simp only [Int64.ofInt_add, Int64.ofInt_sub, Int64.ofInt_mul]; rfl
theorem foI_eq {a b c d e : Int} : foP (Int64.ofInt a) (Int64.ofInt b) (Int64.ofInt c) (Int64.ofInt d) (Int64.ofInt e) = Int64.ofInt (foI a b c d e) := by
  unfold foP foI; simp only [Int64.ofInt_add, Int64.ofInt_sub, Int64.ofInt_mul]; rfl
theorem zrI_eq {a b c d e : Int} : zrP (Int64.ofInt a) (Int64.ofInt b) (Int64.ofInt c) (Int64.ofInt d) (Int64.ofInt e) = Int64.ofInt (zrI a b c d e) := by
  unfold zrP zrI; simp only [Int64.ofInt_add, Int64.ofInt_sub, Int64.ofInt_mul]; rfl
theorem ds27 {a b c d e : Int64} : dsP (zrP a b c d e) (onP a b c d e) = 27 * dfP a b c d e := by
  unfold dsP zrP onP dfP; grind
theorem id16 {a b c d e : Int} : 16 * a * a * zrI a b c d e = sdI a b c * sdI a b c + 3 * foI a b c d e := by
  unfold zrI sdI foI; grind
theorem dfI_bd {a b c d e : Int} (ha : -30 ≤ a ∧ a ≤ 30) (hb : -30 ≤ b ∧ b ≤ 30) (hc : -30 ≤ c ∧ c ≤ 30) (hd : -30 ≤ d ∧ d ≤ 30) (he : -30 ≤ e ∧ e ≤ 30) : -800000000000 ≤ 256 * a * a * a * e * e * e - 192 * a * a * b * d * e * e - 128 * a * a * c * c * e * e + 144 * a * a * c * d * d * e - 27 * a * a * d * d * d * d + 144 * a * b * b * c * e * e - 6 * a * b * b * d * d * e - 80 * a * b * c * c * d * e + 18 * a * b * c * d * d * d + 16 * a * c * c * c * c * e - 4 * a * c * c * c * d * d - 27 * b * b * b * b * e * e + 18 * b * b * b * c * d * e - 4 * b * b * b * d * d * d - 4 * b * b * c * c * c * e + b * b * c * c * d * d ∧ 256 * a * a * a * e * e * e - 192 * a * a * b * d * e * e - 128 * a * a * c * c * e * e + 144 * a * a * c * d * d * e - 27 * a * a * d * d * d * d + 144 * a * b * b * c * e * e - 6 * a * b * b * d * d * e - 80 * a * b * c * c * d * e + 18 * a * b * c * d * d * d + 16 * a * c * c * c * c * e - 4 * a * c * c * c * d * d - 27 * b * b * b * b * e * e + 18 * b * b * b * c * d * e - 4 * b * b * b * d * d * d - 4 * b * b * c * c * c * e + b * b * c * c * d * d ≤ 800000000000 := by
  have m0_2 := bdm (x := (256 : Int)) (X := 256) (by omega) ha
  simp only [Int.reduceMul] at m0_2
  have m0_3 := bdm (X := 7680) m0_2 ha
  simp only [Int.reduceMul] at m0_3
  have m0_4 := bdm (X := 230400) m0_3 ha
  simp only [Int.reduceMul] at m0_4
  have m0_5 := bdm (X := 6912000) m0_4 he
  simp only [Int.reduceMul] at m0_5
  have m0_6 := bdm (X := 207360000) m0_5 he
  simp only [Int.reduceMul] at m0_6
  have m0_7 := bdm (X := 6220800000) m0_6 he
  simp only [Int.reduceMul] at m0_7
  have m1_2 := bdm (x := (192 : Int)) (X := 192) (by omega) ha
  simp only [Int.reduceMul] at m1_2
  have m1_3 := bdm (X := 5760) m1_2 ha
  simp only [Int.reduceMul] at m1_3
  have m1_4 := bdm (X := 172800) m1_3 hb
  simp only [Int.reduceMul] at m1_4
  have m1_5 := bdm (X := 5184000) m1_4 hd
  simp only [Int.reduceMul] at m1_5
  have m1_6 := bdm (X := 155520000) m1_5 he
  simp only [Int.reduceMul] at m1_6
  have m1_7 := bdm (X := 4665600000) m1_6 he
  simp only [Int.reduceMul] at m1_7
  have m2_2 := bdm (x := (128 : Int)) (X := 128) (by omega) ha
  simp only [Int.reduceMul] at m2_2
  have m2_3 := bdm (X := 3840) m2_2 ha
  simp only [Int.reduceMul] at m2_3
  have m2_4 := bdm (X := 115200) m2_3 hc
  simp only [Int.reduceMul] at m2_4
  have m2_5 := bdm (X := 3456000) m2_4 hc
  simp only [Int.reduceMul] at m2_5
  have m2_6 := bdm (X := 103680000) m2_5 he
  simp only [Int.reduceMul] at m2_6
  have m2_7 := bdm (X := 3110400000) m2_6 he
  simp only [Int.reduceMul] at m2_7
  have m3_2 := bdm (x := (144 : Int)) (X := 144) (by omega) ha
  simp only [Int.reduceMul] at m3_2
  have m3_3 := bdm (X := 4320) m3_2 ha
  simp only [Int.reduceMul] at m3_3
  have m3_4 := bdm (X := 129600) m3_3 hc
  simp only [Int.reduceMul] at m3_4
  have m3_5 := bdm (X := 3888000) m3_4 hd
  simp only [Int.reduceMul] at m3_5
  have m3_6 := bdm (X := 116640000) m3_5 hd
  simp only [Int.reduceMul] at m3_6
  have m3_7 := bdm (X := 3499200000) m3_6 he
  simp only [Int.reduceMul] at m3_7
  have m4_2 := bdm (x := (27 : Int)) (X := 27) (by omega) ha
  simp only [Int.reduceMul] at m4_2
  have m4_3 := bdm (X := 810) m4_2 ha
  simp only [Int.reduceMul] at m4_3
  have m4_4 := bdm (X := 24300) m4_3 hd
  simp only [Int.reduceMul] at m4_4
  have m4_5 := bdm (X := 729000) m4_4 hd
  simp only [Int.reduceMul] at m4_5
  have m4_6 := bdm (X := 21870000) m4_5 hd
  simp only [Int.reduceMul] at m4_6
  have m4_7 := bdm (X := 656100000) m4_6 hd
  simp only [Int.reduceMul] at m4_7
  have m5_2 := bdm (x := (144 : Int)) (X := 144) (by omega) ha
  simp only [Int.reduceMul] at m5_2
  have m5_3 := bdm (X := 4320) m5_2 hb
  simp only [Int.reduceMul] at m5_3
  have m5_4 := bdm (X := 129600) m5_3 hb
  simp only [Int.reduceMul] at m5_4
  have m5_5 := bdm (X := 3888000) m5_4 hc
  simp only [Int.reduceMul] at m5_5
  have m5_6 := bdm (X := 116640000) m5_5 he
  simp only [Int.reduceMul] at m5_6
  have m5_7 := bdm (X := 3499200000) m5_6 he
  simp only [Int.reduceMul] at m5_7
  have m6_2 := bdm (x := (6 : Int)) (X := 6) (by omega) ha
  simp only [Int.reduceMul] at m6_2
  have m6_3 := bdm (X := 180) m6_2 hb
  simp only [Int.reduceMul] at m6_3
  have m6_4 := bdm (X := 5400) m6_3 hb
  simp only [Int.reduceMul] at m6_4
  have m6_5 := bdm (X := 162000) m6_4 hd
  simp only [Int.reduceMul] at m6_5
  have m6_6 := bdm (X := 4860000) m6_5 hd
  simp only [Int.reduceMul] at m6_6
  have m6_7 := bdm (X := 145800000) m6_6 he
  simp only [Int.reduceMul] at m6_7
  have m7_2 := bdm (x := (80 : Int)) (X := 80) (by omega) ha
  simp only [Int.reduceMul] at m7_2
  have m7_3 := bdm (X := 2400) m7_2 hb
  simp only [Int.reduceMul] at m7_3
  have m7_4 := bdm (X := 72000) m7_3 hc
  simp only [Int.reduceMul] at m7_4
  have m7_5 := bdm (X := 2160000) m7_4 hc
  simp only [Int.reduceMul] at m7_5
  have m7_6 := bdm (X := 64800000) m7_5 hd
  simp only [Int.reduceMul] at m7_6
  have m7_7 := bdm (X := 1944000000) m7_6 he
  simp only [Int.reduceMul] at m7_7
  have m8_2 := bdm (x := (18 : Int)) (X := 18) (by omega) ha
  simp only [Int.reduceMul] at m8_2
  have m8_3 := bdm (X := 540) m8_2 hb
  simp only [Int.reduceMul] at m8_3
  have m8_4 := bdm (X := 16200) m8_3 hc
  simp only [Int.reduceMul] at m8_4
  have m8_5 := bdm (X := 486000) m8_4 hd
  simp only [Int.reduceMul] at m8_5
  have m8_6 := bdm (X := 14580000) m8_5 hd
  simp only [Int.reduceMul] at m8_6
  have m8_7 := bdm (X := 437400000) m8_6 hd
  simp only [Int.reduceMul] at m8_7
  have m9_2 := bdm (x := (16 : Int)) (X := 16) (by omega) ha
  simp only [Int.reduceMul] at m9_2
  have m9_3 := bdm (X := 480) m9_2 hc
  simp only [Int.reduceMul] at m9_3
  have m9_4 := bdm (X := 14400) m9_3 hc
  simp only [Int.reduceMul] at m9_4
  have m9_5 := bdm (X := 432000) m9_4 hc
  simp only [Int.reduceMul] at m9_5
  have m9_6 := bdm (X := 12960000) m9_5 hc
  simp only [Int.reduceMul] at m9_6
  have m9_7 := bdm (X := 388800000) m9_6 he
  simp only [Int.reduceMul] at m9_7
  have m10_2 := bdm (x := (4 : Int)) (X := 4) (by omega) ha
  simp only [Int.reduceMul] at m10_2
  have m10_3 := bdm (X := 120) m10_2 hc
  simp only [Int.reduceMul] at m10_3
  have m10_4 := bdm (X := 3600) m10_3 hc
  simp only [Int.reduceMul] at m10_4
  have m10_5 := bdm (X := 108000) m10_4 hc
  simp only [Int.reduceMul] at m10_5
  have m10_6 := bdm (X := 3240000) m10_5 hd
  simp only [Int.reduceMul] at m10_6
  have m10_7 := bdm (X := 97200000) m10_6 hd
  simp only [Int.reduceMul] at m10_7
  have m11_2 := bdm (x := (27 : Int)) (X := 27) (by omega) hb
  simp only [Int.reduceMul] at m11_2
  have m11_3 := bdm (X := 810) m11_2 hb
  simp only [Int.reduceMul] at m11_3
  have m11_4 := bdm (X := 24300) m11_3 hb
  simp only [Int.reduceMul] at m11_4
  have m11_5 := bdm (X := 729000) m11_4 hb
  simp only [Int.reduceMul] at m11_5
  have m11_6 := bdm (X := 21870000) m11_5 he
  simp only [Int.reduceMul] at m11_6
  have m11_7 := bdm (X := 656100000) m11_6 he
  simp only [Int.reduceMul] at m11_7
  have m12_2 := bdm (x := (18 : Int)) (X := 18) (by omega) hb
  simp only [Int.reduceMul] at m12_2
  have m12_3 := bdm (X := 540) m12_2 hb
  simp only [Int.reduceMul] at m12_3
  have m12_4 := bdm (X := 16200) m12_3 hb
  simp only [Int.reduceMul] at m12_4
  have m12_5 := bdm (X := 486000) m12_4 hc
  simp only [Int.reduceMul] at m12_5
  have m12_6 := bdm (X := 14580000) m12_5 hd
  simp only [Int.reduceMul] at m12_6
  have m12_7 := bdm (X := 437400000) m12_6 he
  simp only [Int.reduceMul] at m12_7
  have m13_2 := bdm (x := (4 : Int)) (X := 4) (by omega) hb
  simp only [Int.reduceMul] at m13_2
  have m13_3 := bdm (X := 120) m13_2 hb
  simp only [Int.reduceMul] at m13_3
  have m13_4 := bdm (X := 3600) m13_3 hb
  simp only [Int.reduceMul] at m13_4
  have m13_5 := bdm (X := 108000) m13_4 hd
  simp only [Int.reduceMul] at m13_5
  have m13_6 := bdm (X := 3240000) m13_5 hd
  simp only [Int.reduceMul] at m13_6
  have m13_7 := bdm (X := 97200000) m13_6 hd
  simp only [Int.reduceMul] at m13_7
  have m14_2 := bdm (x := (4 : Int)) (X := 4) (by omega) hb
  simp only [Int.reduceMul] at m14_2
  have m14_3 := bdm (X := 120) m14_2 hb
  simp only [Int.reduceMul] at m14_3
  have m14_4 := bdm (X := 3600) m14_3 hc
  simp only [Int.reduceMul] at m14_4
  have m14_5 := bdm (X := 108000) m14_4 hc
  simp only [Int.reduceMul] at m14_5
  have m14_6 := bdm (X := 3240000) m14_5 hc
  simp only [Int.reduceMul] at m14_6
  have m14_7 := bdm (X := 97200000) m14_6 he
  simp only [Int.reduceMul] at m14_7
  have m15_2 := bdm (X := 30) hb hb
  simp only [Int.reduceMul] at m15_2
  have m15_3 := bdm (X := 900) m15_2 hc
  simp only [Int.reduceMul] at m15_3
  have m15_4 := bdm (X := 27000) m15_3 hc
  simp only [Int.reduceMul] at m15_4
  have m15_5 := bdm (X := 810000) m15_4 hd
  simp only [Int.reduceMul] at m15_5
  have m15_6 := bdm (X := 24300000) m15_5 hd
  simp only [Int.reduceMul] at m15_6
  clear m0_2 m0_3 m0_4 m0_5 m0_6 m1_2 m1_3 m1_4 m1_5 m1_6 m2_2 m2_3 m2_4 m2_5 m2_6 m3_2 m3_3 m3_4 m3_5 m3_6 m4_2 m4_3 m4_4 m4_5 m4_6 m5_2 m5_3 m5_4 m5_5 m5_6 m6_2 m6_3 m6_4 m6_5 m6_6 m7_2 m7_3 m7_4 m7_5 m7_6 m8_2 m8_3 m8_4 m8_5 m8_6 m9_2 m9_3 m9_4 m9_5 m9_6 m10_2 m10_3 m10_4 m10_5 m10_6 m11_2 m11_3 m11_4 m11_5 m11_6 m12_2 m12_3 m12_4 m12_5 m12_6 m13_2 m13_3 m13_4 m13_5 m13_6 m14_2 m14_3 m14_4 m14_5 m14_6 m15_2 m15_3 m15_4 m15_5
  omega
theorem foI_bd {a b c d e : Int} (ha : -30 ≤ a ∧ a ≤ 30) (hb : -30 ≤ b ∧ b ≤ 30) (hc : -30 ≤ c ∧ c ≤ 30) (hd : -30 ≤ d ∧ d ≤ 30) (he : -30 ≤ e ∧ e ≤ 30) : -100000000 ≤ 64 * a * a * a * e - 16 * a * a * c * c + 16 * a * b * b * c - 16 * a * a * b * d - 3 * b * b * b * b ∧ 64 * a * a * a * e - 16 * a * a * c * c + 16 * a * b * b * c - 16 * a * a * b * d - 3 * b * b * b * b ≤ 100000000 := by
  have m0_2 := bdm (x := (64 : Int)) (X := 64) (by omega) ha
  simp only [Int.reduceMul] at m0_2
  have m0_3 := bdm (X := 1920) m0_2 ha
  simp only [Int.reduceMul] at m0_3
  have m0_4 := bdm (X := 57600) m0_3 ha
  simp only [Int.reduceMul] at m0_4
  have m0_5 := bdm (X := 1728000) m0_4 he
  simp only [Int.reduceMul] at m0_5
  have m1_2 := bdm (x := (16 : Int)) (X := 16) (by omega) ha
  simp only [Int.reduceMul] at m1_2
  have m1_3 := bdm (X := 480) m1_2 ha
  simp only [Int.reduceMul] at m1_3
  have m1_4 := bdm (X := 14400) m1_3 hc
  simp only [Int.reduceMul] at m1_4
  have m1_5 := bdm (X := 432000) m1_4 hc
  simp only [Int.reduceMul] at m1_5
  have m2_2 := bdm (x := (16 : Int)) (X := 16) (by omega) ha
  simp only [Int.reduceMul] at m2_2
  have m2_3 := bdm (X := 480) m2_2 hb
  simp only [Int.reduceMul] at m2_3
  have m2_4 := bdm (X := 14400) m2_3 hb
  simp only [Int.reduceMul] at m2_4
  have m2_5 := bdm (X := 432000) m2_4 hc
  simp only [Int.reduceMul] at m2_5
  have m3_2 := bdm (x := (16 : Int)) (X := 16) (by omega) ha
  simp only [Int.reduceMul] at m3_2
  have m3_3 := bdm (X := 480) m3_2 ha
  simp only [Int.reduceMul] at m3_3
  have m3_4 := bdm (X := 14400) m3_3 hb
  simp only [Int.reduceMul] at m3_4
  have m3_5 := bdm (X := 432000) m3_4 hd
  simp only [Int.reduceMul] at m3_5
  have m4_2 := bdm (x := (3 : Int)) (X := 3) (by omega) hb
  simp only [Int.reduceMul] at m4_2
  have m4_3 := bdm (X := 90) m4_2 hb
  simp only [Int.reduceMul] at m4_3
  have m4_4 := bdm (X := 2700) m4_3 hb
  simp only [Int.reduceMul] at m4_4
  have m4_5 := bdm (X := 81000) m4_4 hb
  simp only [Int.reduceMul] at m4_5
  clear m0_2 m0_3 m0_4 m1_2 m1_3 m1_4 m2_2 m2_3 m2_4 m3_2 m3_3 m3_4 m4_2 m4_3 m4_4
  omega
theorem sdI_bd {a b c d e : Int} (ha : -30 ≤ a ∧ a ≤ 30) (hb : -30 ≤ b ∧ b ≤ 30) (hc : -30 ≤ c ∧ c ≤ 30) (hd : -30 ≤ d ∧ d ≤ 30) (he : -30 ≤ e ∧ e ≤ 30) : -10000 ≤ 8 * a * c - 3 * b * b ∧ 8 * a * c - 3 * b * b ≤ 10000 := by
  have m0_2 := bdm (x := (8 : Int)) (X := 8) (by omega) ha
  simp only [Int.reduceMul] at m0_2
  have m0_3 := bdm (X := 240) m0_2 hc
  simp only [Int.reduceMul] at m0_3
  have m1_2 := bdm (x := (3 : Int)) (X := 3) (by omega) hb
  simp only [Int.reduceMul] at m1_2
  have m1_3 := bdm (X := 90) m1_2 hb
  simp only [Int.reduceMul] at m1_3
  clear m0_2 m1_2
  omega
theorem zrI_bd {a b c d e : Int} (ha : -30 ≤ a ∧ a ≤ 30) (hb : -30 ≤ b ∧ b ≤ 30) (hc : -30 ≤ c ∧ c ≤ 30) (hd : -30 ≤ d ∧ d ≤ 30) (he : -30 ≤ e ∧ e ≤ 30) : -20000 ≤ c * c - 3 * b * d + 12 * a * e ∧ c * c - 3 * b * d + 12 * a * e ≤ 20000 := by
  have m0_2 := bdm (X := 30) hc hc
  simp only [Int.reduceMul] at m0_2
  have m1_2 := bdm (x := (3 : Int)) (X := 3) (by omega) hb
  simp only [Int.reduceMul] at m1_2
  have m1_3 := bdm (X := 90) m1_2 hd
  simp only [Int.reduceMul] at m1_3
  have m2_2 := bdm (x := (12 : Int)) (X := 12) (by omega) ha
  simp only [Int.reduceMul] at m2_2
  have m2_3 := bdm (X := 360) m2_2 he
  simp only [Int.reduceMul] at m2_3
  clear m1_2 m2_2
  omega
theorem oi {p : Int} (h1 : -9000000000000000000 ≤ p) (h2 : p ≤ 9000000000000000000) : (Int64.ofInt p).toInt = p := by
  have z : (Int64.size : Int) = 18446744073709551616 := rfl
  rw [Int64.toInt_ofInt]; exact Int.bmod_eq_of_le (by rw [z]; omega) (by rw [z]; omega)
theorem oi_ge {p : Int} (h1 : -9000000000000000000 ≤ p) (h2 : p ≤ 9000000000000000000) : 0 ≤ Int64.ofInt p ↔ 0 ≤ p := by
  rw [l_le, oi h1 h2]; exact Iff.rfl
theorem oi_le {p : Int} (h1 : -9000000000000000000 ≤ p) (h2 : p ≤ 9000000000000000000) : Int64.ofInt p ≤ 0 ↔ p ≤ 0 := by
  rw [l_le, oi h1 h2]; exact Iff.rfl
theorem oi_eq {p : Int} (h1 : -9000000000000000000 ≤ p) (h2 : p ≤ 9000000000000000000) : Int64.ofInt p = 0 ↔ p = 0 := by
  rw [← Int64.toInt_inj, oi h1 h2]; exact Iff.rfl
theorem real_same {a b c d e : Int} (ha : -30 ≤ a ∧ a ≤ 30) (hb : -30 ≤ b ∧ b ≤ 30) (hc : -30 ≤ c ∧ c ≤ 30) (hd : -30 ≤ d ∧ d ≤ 30) (he : -30 ≤ e ∧ e ≤ 30) (h0 : a ≠ 0) {th : Int64} : qM (dsP (zrP (Int64.ofInt a) (Int64.ofInt b) (Int64.ofInt c) (Int64.ofInt d) (Int64.ofInt e)) (onP (Int64.ofInt a) (Int64.ofInt b) (Int64.ofInt c) (Int64.ofInt d) (Int64.ofInt e))) (sdP (Int64.ofInt a) (Int64.ofInt b) (Int64.ofInt c)) (foP (Int64.ofInt a) (Int64.ofInt b) (Int64.ofInt c) (Int64.ofInt d) (Int64.ofInt e)) th (zrP (Int64.ofInt a) (Int64.ofInt b) (Int64.ofInt c) (Int64.ofInt d) (Int64.ofInt e)) = qC (dfP (Int64.ofInt a) (Int64.ofInt b) (Int64.ofInt c) (Int64.ofInt d) (Int64.ofInt e)) (sdP (Int64.ofInt a) (Int64.ofInt b) (Int64.ofInt c)) (foP (Int64.ofInt a) (Int64.ofInt b) (Int64.ofInt c) (Int64.ofInt d) (Int64.ofInt e)) th (zrP (Int64.ofInt a) (Int64.ofInt b) (Int64.ofInt c) (Int64.ofInt d) (Int64.ofInt e)) := by
  have b1 : -800000000000 ≤ dfI a b c d e ∧ dfI a b c d e ≤ 800000000000 := dfI_bd ha hb hc hd he
  have b2 : -100000000 ≤ foI a b c d e ∧ foI a b c d e ≤ 100000000 := foI_bd ha hb hc hd he
  have b3 : -10000 ≤ sdI a b c ∧ sdI a b c ≤ 10000 := sdI_bd ha hb hc hd he
  have b4 : -20000 ≤ zrI a b c d e ∧ zrI a b c d e ≤ 20000 := zrI_bd ha hb hc hd he
  rw [ds27, dfI_eq, sdI_eq, foI_eq, zrI_eq]
  have e27 : 27 * Int64.ofInt (dfI a b c d e) = Int64.ofInt (27 * dfI a b c d e) := (Int64.ofInt_mul 27 _).symm
  rw [e27]
  apply q_same
  · rw [oi_ge (by omega) (by omega), oi_ge (by omega) (by omega)]; omega
  · rw [oi_le (by omega) (by omega), oi_le (by omega) (by omega)]; omega
  · intro _ hf
    have hf := (oi_eq (by omega) (by omega)).mp hf
    refine Or.inl ?_
    rw [oi_eq (by omega) (by omega), oi_eq (by omega) (by omega)]
    have hi := id16 (a := a) (b := b) (c := c) (d := d) (e := e)
    rw [hf] at hi
    constructor
    · intro h; rw [h] at hi
      have h16 : 16 * a * a ≠ 0 := Int.mul_ne_zero (Int.mul_ne_zero (by decide) h0) h0
      exact (Int.mul_eq_zero.mp (hi.trans (by decide))).resolve_left h16
    · intro h; rw [h] at hi
      have : sdI a b c * sdI a b c = 0 := by omega
      exact (Int.mul_eq_zero.mp this).elim id id
def ok30 (v : Int32) : Prop := -30 ≤ v.toInt ∧ v.toInt ≤ 30
def okReal (a b c u e : Int32) : Prop := (ok30 a ∧ ok30 b ∧ ok30 c ∧ ok30 u ∧ ok30 e) ∧ ¬ (a = 0 ∧ b = 0)
theorem w30 {v : Int32} : (-(30 : Int32) ≤ v ∧ v ≤ 30) ↔ ok30 v := by
  rw [i_le, i_le]; exact Iff.rfl
theorem w30m {v : Int32} : ((-30 : Int32) ≤ v ∧ v ≤ 30) ↔ ok30 v := by
  rw [i_le, i_le]; exact Iff.rfl
def rlV (a b c u e : Int32) : Int32 := if a = 0 then cuC (cuP b.toInt64 c.toInt64 u.toInt64 e.toInt64) b.toInt64 c.toInt64 u.toInt64 else qC (dfP a.toInt64 b.toInt64 c.toInt64 u.toInt64 e.toInt64) (sdP a.toInt64 b.toInt64 c.toInt64) (foP a.toInt64 b.toInt64 c.toInt64 u.toInt64 e.toInt64) (thP a.toInt64 b.toInt64 c.toInt64 u.toInt64) (zrP a.toInt64 b.toInt64 c.toInt64 u.toInt64 e.toInt64)
theorem i64o {a : Int32} : a.toInt64 = Int64.ofInt a.toInt := by rw [← i2l_eq, Int64.ofInt_toInt]
theorem real_i {a b c u e : Int32} (h : okReal a b c u e) (h0 : ¬ a = 0) : qM (dsP (zrP a.toInt64 b.toInt64 c.toInt64 u.toInt64 e.toInt64) (onP a.toInt64 b.toInt64 c.toInt64 u.toInt64 e.toInt64)) (sdP a.toInt64 b.toInt64 c.toInt64) (foP a.toInt64 b.toInt64 c.toInt64 u.toInt64 e.toInt64) (thP a.toInt64 b.toInt64 c.toInt64 u.toInt64) (zrP a.toInt64 b.toInt64 c.toInt64 u.toInt64 e.toInt64) = rlV a b c u e := by
  rw [rlV, if_neg h0]
  obtain ⟨⟨ha, hb, hc, hu, he⟩, _⟩ := h
  have h1 : a.toInt ≠ 0 := fun q => h0 (Int32.toInt_inj.mp q)
  rw [i64o, i64o, i64o, i64o, i64o]
  exact real_same ha hb hc hu he h1
theorem real_c {a b c u e : Int32} (h0 : a = 0) : cuM (cuP b.toInt64 c.toInt64 u.toInt64 e.toInt64) b.toInt64 c.toInt64 u.toInt64 = rlV a b c u e := by
  rw [rlV, if_pos h0, cu_same]
theorem e_real_no {d : Nat} {T N : Nat → Nat} {I : IT} {L : LT} {R : RT} {x : Nat} {a b c u e : Int32} (T_x : T x = 12) (h : ¬ okReal a b c u e) : Ex (d + 2) 173 [.ref x, .int a, .int b, .int c, .int u, .int e] (T, N, I, L, R) 1 6 (pX 0 T N R (fun I9 L9 => I9 = I ∧ L9 = L)) := by
  refine ⟨_, rfl, Nat.le_of_ble_eq_true rfl, fun V C S => ?_⟩
  show V 0 [(0, .ref x), (1, .int a), (2, .int b), (3, .int c), (4, .int u), (5, .int e)] [] (T, N, I, L, R) 0 0
  refine k_iload_n C rfl rfl rfl ?_
  refine k_bipush C (x := 30) rfl rfl rfl ?_
  refine c_SI C e_isWhole rfl rfl rfl rfl rfl rfl rfl (Nat.le_of_ble_eq_true rfl) (Nat.le_of_ble_eq_true rfl) (Nat.le_of_ble_eq_true rfl) ?_
  rintro _ _ _ ⟨hx7, hI8, hL9⟩
  have hx7 := hx7.symm; subst hx7
  have hI8 := hI8.symm; subst hI8; have hL9 := hL9.symm; subst hL9
  refine k_if_eq C (t := 51) rfl rfl rfl (fun c6 => ?_) (fun c6 => ?_)
  · skip
    refine k_iconst C (x := 0) rfl rfl rfl ?_
    refine k_istore C (lw := [(6, .int _), (0, _), (1, .int _), (2, .int _), (3, .int _), (4, .int _), (5, .int _)]) rfl rfl (Nat.le_of_ble_eq_true rfl) rfl ?_
    refine k_iload C rfl rfl rfl ?_
    refine k_if_eq C (t := 67) rfl rfl rfl (fun _ => ?_) (fun c56 => absurd (by decide) c56)
    exact k_throw C rfl rfl rfl rfl rfl rfl (Nat.le_of_ble_eq_true rfl) (Nat.le_of_ble_eq_true rfl) (Nat.le_of_ble_eq_true rfl) ⟨_, _, rfl, rfl, ⟨rfl, rfl⟩⟩
  have qa := w30.mp (inY c6)
  refine k_iload_n C rfl rfl rfl ?_
  refine k_bipush C (x := 30) rfl rfl rfl ?_
  refine c_SI C e_isWhole rfl rfl rfl rfl rfl rfl rfl (Nat.le_of_ble_eq_true rfl) (Nat.le_of_ble_eq_true rfl) (Nat.le_of_ble_eq_true rfl) ?_
  rintro _ _ _ ⟨hx7, hI8, hL9⟩
  have hx7 := hx7.symm; subst hx7
  have hI8 := hI8.symm; subst hI8; have hL9 := hL9.symm; subst hL9
  refine k_if_eq C (t := 51) rfl rfl rfl (fun c15 => ?_) (fun c15 => ?_)
  · skip
    refine k_iconst C (x := 0) rfl rfl rfl ?_
    refine k_istore C (lw := [(6, .int _), (0, _), (1, .int _), (2, .int _), (3, .int _), (4, .int _), (5, .int _)]) rfl rfl (Nat.le_of_ble_eq_true rfl) rfl ?_
    refine k_iload C rfl rfl rfl ?_
    refine k_if_eq C (t := 67) rfl rfl rfl (fun _ => ?_) (fun c56 => absurd (by decide) c56)
    exact k_throw C rfl rfl rfl rfl rfl rfl (Nat.le_of_ble_eq_true rfl) (Nat.le_of_ble_eq_true rfl) (Nat.le_of_ble_eq_true rfl) ⟨_, _, rfl, rfl, ⟨rfl, rfl⟩⟩
  have qb := w30.mp (inY c15)
  refine k_iload_n C rfl rfl rfl ?_
  refine k_bipush C (x := 30) rfl rfl rfl ?_
  refine c_SI C e_isWhole rfl rfl rfl rfl rfl rfl rfl (Nat.le_of_ble_eq_true rfl) (Nat.le_of_ble_eq_true rfl) (Nat.le_of_ble_eq_true rfl) ?_
  rintro _ _ _ ⟨hx7, hI8, hL9⟩
  have hx7 := hx7.symm; subst hx7
  have hI8 := hI8.symm; subst hI8; have hL9 := hL9.symm; subst hL9
  refine k_if_eq C (t := 51) rfl rfl rfl (fun c24 => ?_) (fun c24 => ?_)
  · skip
    refine k_iconst C (x := 0) rfl rfl rfl ?_
    refine k_istore C (lw := [(6, .int _), (0, _), (1, .int _), (2, .int _), (3, .int _), (4, .int _), (5, .int _)]) rfl rfl (Nat.le_of_ble_eq_true rfl) rfl ?_
    refine k_iload C rfl rfl rfl ?_
    refine k_if_eq C (t := 67) rfl rfl rfl (fun _ => ?_) (fun c56 => absurd (by decide) c56)
    exact k_throw C rfl rfl rfl rfl rfl rfl (Nat.le_of_ble_eq_true rfl) (Nat.le_of_ble_eq_true rfl) (Nat.le_of_ble_eq_true rfl) ⟨_, _, rfl, rfl, ⟨rfl, rfl⟩⟩
  have qc := w30.mp (inY c24)
  refine k_iload C rfl rfl rfl ?_
  refine k_bipush C (x := 30) rfl rfl rfl ?_
  refine c_SI C e_isWhole rfl rfl rfl rfl rfl rfl rfl (Nat.le_of_ble_eq_true rfl) (Nat.le_of_ble_eq_true rfl) (Nat.le_of_ble_eq_true rfl) ?_
  rintro _ _ _ ⟨hx7, hI8, hL9⟩
  have hx7 := hx7.symm; subst hx7
  have hI8 := hI8.symm; subst hI8; have hL9 := hL9.symm; subst hL9
  refine k_if_eq C (t := 51) rfl rfl rfl (fun c34 => ?_) (fun c34 => ?_)
  · skip
    refine k_iconst C (x := 0) rfl rfl rfl ?_
    refine k_istore C (lw := [(6, .int _), (0, _), (1, .int _), (2, .int _), (3, .int _), (4, .int _), (5, .int _)]) rfl rfl (Nat.le_of_ble_eq_true rfl) rfl ?_
    refine k_iload C rfl rfl rfl ?_
    refine k_if_eq C (t := 67) rfl rfl rfl (fun _ => ?_) (fun c56 => absurd (by decide) c56)
    exact k_throw C rfl rfl rfl rfl rfl rfl (Nat.le_of_ble_eq_true rfl) (Nat.le_of_ble_eq_true rfl) (Nat.le_of_ble_eq_true rfl) ⟨_, _, rfl, rfl, ⟨rfl, rfl⟩⟩
  have qu := w30.mp (inY c34)
  refine k_iload C rfl rfl rfl ?_
  refine k_bipush C (x := 30) rfl rfl rfl ?_
  refine c_SI C e_isWhole rfl rfl rfl rfl rfl rfl rfl (Nat.le_of_ble_eq_true rfl) (Nat.le_of_ble_eq_true rfl) (Nat.le_of_ble_eq_true rfl) ?_
  rintro _ _ _ ⟨hx7, hI8, hL9⟩
  have hx7 := hx7.symm; subst hx7
  have hI8 := hI8.symm; subst hI8; have hL9 := hL9.symm; subst hL9
  refine k_if_eq C (t := 51) rfl rfl rfl (fun c44 => ?_) (fun c44 => ?_)
  · skip
    refine k_iconst C (x := 0) rfl rfl rfl ?_
    refine k_istore C (lw := [(6, .int _), (0, _), (1, .int _), (2, .int _), (3, .int _), (4, .int _), (5, .int _)]) rfl rfl (Nat.le_of_ble_eq_true rfl) rfl ?_
    refine k_iload C rfl rfl rfl ?_
    refine k_if_eq C (t := 67) rfl rfl rfl (fun _ => ?_) (fun c56 => absurd (by decide) c56)
    exact k_throw C rfl rfl rfl rfl rfl rfl (Nat.le_of_ble_eq_true rfl) (Nat.le_of_ble_eq_true rfl) (Nat.le_of_ble_eq_true rfl) ⟨_, _, rfl, rfl, ⟨rfl, rfl⟩⟩
  have qe := w30.mp (inY c44)
  refine k_iconst C (x := 1) rfl rfl rfl ?_
  refine k_goto C (pc2 := 52) rfl rfl ?_
  refine k_istore C (lw := [(6, .int _), (0, _), (1, .int _), (2, .int _), (3, .int _), (4, .int _), (5, .int _)]) rfl rfl (Nat.le_of_ble_eq_true rfl) rfl ?_
  refine k_iload C rfl rfl rfl ?_
  refine k_if_eq C (t := 67) rfl rfl rfl (fun c56 => absurd c56 (by decide)) (fun _ => ?_)
  refine k_iload_n C rfl rfl rfl ?_
  refine k_if_ne C (t := 75) rfl rfl rfl (fun c60 => ?_) (fun c60 => ?_)
  · skip
    exact absurd ⟨⟨qa, qb, qc, qu, qe⟩, fun z => c60 z.1⟩ h
  refine k_iload_n C rfl rfl rfl ?_
  refine k_if_ne C (t := 75) rfl rfl rfl (fun c64 => ?_) (fun c64 => ?_)
  · skip
    exact absurd ⟨⟨qa, qb, qc, qu, qe⟩, fun z => c64 z.2⟩ h
  exact k_throw C rfl rfl rfl rfl rfl rfl (Nat.le_of_ble_eq_true rfl) (Nat.le_of_ble_eq_true rfl) (Nat.le_of_ble_eq_true rfl) ⟨_, _, rfl, rfl, ⟨rfl, rfl⟩⟩

theorem e_real_yes {d : Nat} {T N : Nat → Nat} {I : IT} {L : LT} {R : RT} {x : Nat} {a b c u e : Int32} (T_x : T x = 12) (hok : okReal a b c u e) : Ex (d + 3) 173 [.ref x, .int a, .int b, .int c, .int u, .int e] (T, N, I, L, R) 1 6 (pI T N R (fun x9 I9 L9 => x9 = (rlV a b c u e) ∧ I9 = I ∧ L9 = L)) := by
  refine ⟨_, rfl, Nat.le_of_ble_eq_true rfl, fun V C S => ?_⟩
  show V 0 [(0, .ref x), (1, .int a), (2, .int b), (3, .int c), (4, .int u), (5, .int e)] [] (T, N, I, L, R) 0 0
  refine k_iload_n C rfl rfl rfl ?_
  refine k_bipush C (x := 30) rfl rfl rfl ?_
  refine c_SI C e_isWhole rfl rfl rfl rfl rfl rfl rfl (Nat.le_of_ble_eq_true rfl) (Nat.le_of_ble_eq_true rfl) (Nat.le_of_ble_eq_true rfl) ?_
  rintro _ _ _ ⟨hx7, hI8, hL9⟩
  have hx7 := hx7.symm; subst hx7
  have hI8 := hI8.symm; subst hI8; have hL9 := hL9.symm; subst hL9
  refine k_if_eq C (t := 51) rfl rfl rfl (fun c6 => ?_) (fun c6 => ?_)
  · skip
    exact absurd c6 (inN (w30.mpr hok.1.1))
  refine k_iload_n C rfl rfl rfl ?_
  refine k_bipush C (x := 30) rfl rfl rfl ?_
  refine c_SI C e_isWhole rfl rfl rfl rfl rfl rfl rfl (Nat.le_of_ble_eq_true rfl) (Nat.le_of_ble_eq_true rfl) (Nat.le_of_ble_eq_true rfl) ?_
  rintro _ _ _ ⟨hx7, hI8, hL9⟩
  have hx7 := hx7.symm; subst hx7
  have hI8 := hI8.symm; subst hI8; have hL9 := hL9.symm; subst hL9
  refine k_if_eq C (t := 51) rfl rfl rfl (fun c15 => ?_) (fun c15 => ?_)
  · skip
    exact absurd c15 (inN (w30.mpr hok.1.2.1))
  refine k_iload_n C rfl rfl rfl ?_
  refine k_bipush C (x := 30) rfl rfl rfl ?_
  refine c_SI C e_isWhole rfl rfl rfl rfl rfl rfl rfl (Nat.le_of_ble_eq_true rfl) (Nat.le_of_ble_eq_true rfl) (Nat.le_of_ble_eq_true rfl) ?_
  rintro _ _ _ ⟨hx7, hI8, hL9⟩
  have hx7 := hx7.symm; subst hx7
  have hI8 := hI8.symm; subst hI8; have hL9 := hL9.symm; subst hL9
  refine k_if_eq C (t := 51) rfl rfl rfl (fun c24 => ?_) (fun c24 => ?_)
  · skip
    exact absurd c24 (inN (w30.mpr hok.1.2.2.1))
  refine k_iload C rfl rfl rfl ?_
  refine k_bipush C (x := 30) rfl rfl rfl ?_
  refine c_SI C e_isWhole rfl rfl rfl rfl rfl rfl rfl (Nat.le_of_ble_eq_true rfl) (Nat.le_of_ble_eq_true rfl) (Nat.le_of_ble_eq_true rfl) ?_
  rintro _ _ _ ⟨hx7, hI8, hL9⟩
  have hx7 := hx7.symm; subst hx7
  have hI8 := hI8.symm; subst hI8; have hL9 := hL9.symm; subst hL9
  refine k_if_eq C (t := 51) rfl rfl rfl (fun c34 => ?_) (fun c34 => ?_)
  · skip
    exact absurd c34 (inN (w30.mpr hok.1.2.2.2.1))
  refine k_iload C rfl rfl rfl ?_
  refine k_bipush C (x := 30) rfl rfl rfl ?_
  refine c_SI C e_isWhole rfl rfl rfl rfl rfl rfl rfl (Nat.le_of_ble_eq_true rfl) (Nat.le_of_ble_eq_true rfl) (Nat.le_of_ble_eq_true rfl) ?_
  rintro _ _ _ ⟨hx7, hI8, hL9⟩
  have hx7 := hx7.symm; subst hx7
  have hI8 := hI8.symm; subst hI8; have hL9 := hL9.symm; subst hL9
  refine k_if_eq C (t := 51) rfl rfl rfl (fun c44 => ?_) (fun c44 => ?_)
  · skip
    exact absurd c44 (inN (w30.mpr hok.1.2.2.2.2))
  refine k_iconst C (x := 1) rfl rfl rfl ?_
  refine k_goto C (pc2 := 52) rfl rfl ?_
  refine k_istore C (lw := [(6, .int _), (0, _), (1, .int _), (2, .int _), (3, .int _), (4, .int _), (5, .int _)]) rfl rfl (Nat.le_of_ble_eq_true rfl) rfl ?_
  refine k_iload C rfl rfl rfl ?_
  refine k_if_eq C (t := 67) rfl rfl rfl (fun c56 => absurd c56 (by decide)) (fun _ => ?_)
  refine k_iload_n C rfl rfl rfl ?_
  refine k_if_ne C (t := 75) rfl rfl rfl (fun c60 => ?_) (fun c60 => ?_)
  · skip
    refine k_iload_n C rfl rfl rfl ?_
    refine k_if_ne C (t := 95) rfl rfl rfl (fun c76 => ?_) (fun c76 => ?_)
    · skip
      refine k_iload_n C rfl rfl rfl ?_
      refine k_i2l C rfl rfl ?_
      refine k_iload_n C rfl rfl rfl ?_
      refine k_i2l C rfl rfl ?_
      refine k_iload_n C rfl rfl rfl ?_
      refine k_i2l C rfl rfl ?_
      refine k_iload C rfl rfl rfl ?_
      refine k_i2l C rfl rfl ?_
      refine k_iload C rfl rfl rfl ?_
      refine k_i2l C rfl rfl ?_
      refine c_SI C (e_rootsOfQuartic  rfl rfl rfl rfl rfl) rfl rfl rfl rfl rfl rfl rfl (Nat.le_of_ble_eq_true rfl) (Nat.le_of_ble_eq_true rfl) (Nat.le_of_ble_eq_true rfl) ?_
      rintro _ _ _ ⟨hx7, hI8, hL9⟩
      have hx7 := hx7.symm; subst hx7
      have hI8 := hI8.symm; subst hI8; have hL9 := hL9.symm; subst hL9
      exact k_iret C rfl (Or.inl rfl) (Nat.le_of_ble_eq_true rfl) (Nat.le_of_ble_eq_true rfl) ⟨_, _, _, rfl, rfl, by rw [rlV, if_neg c76], rfl, rfl⟩
    refine k_iload_n C rfl rfl rfl ?_
    refine k_i2l C rfl rfl ?_
    refine k_iload_n C rfl rfl rfl ?_
    refine k_i2l C rfl rfl ?_
    refine k_iload C rfl rfl rfl ?_
    refine k_i2l C rfl rfl ?_
    refine k_iload C rfl rfl rfl ?_
    refine k_i2l C rfl rfl ?_
    refine c_SI C (e_rootsOfCubic  rfl) rfl rfl rfl rfl rfl rfl rfl (Nat.le_of_ble_eq_true rfl) (Nat.le_of_ble_eq_true rfl) (Nat.le_of_ble_eq_true rfl) ?_
    rintro _ _ _ ⟨hx7, hI8, hL9⟩
    have hx7 := hx7.symm; subst hx7
    have hI8 := hI8.symm; subst hI8; have hL9 := hL9.symm; subst hL9
    refine k_goto C (pc2 := 110) rfl rfl ?_
    exact k_iret C rfl (Or.inl rfl) (Nat.le_of_ble_eq_true rfl) (Nat.le_of_ble_eq_true rfl) ⟨_, _, _, rfl, rfl, by rw [rlV, if_pos (Decidable.not_not.mp c76)], rfl, rfl⟩
  refine k_iload_n C rfl rfl rfl ?_
  refine k_if_ne C (t := 75) rfl rfl rfl (fun c64 => ?_) (fun c64 => ?_)
  · skip
    refine k_iload_n C rfl rfl rfl ?_
    refine k_if_ne C (t := 95) rfl rfl rfl (fun c76 => ?_) (fun c76 => ?_)
    · skip
      refine k_iload_n C rfl rfl rfl ?_
      refine k_i2l C rfl rfl ?_
      refine k_iload_n C rfl rfl rfl ?_
      refine k_i2l C rfl rfl ?_
      refine k_iload_n C rfl rfl rfl ?_
      refine k_i2l C rfl rfl ?_
      refine k_iload C rfl rfl rfl ?_
      refine k_i2l C rfl rfl ?_
      refine k_iload C rfl rfl rfl ?_
      refine k_i2l C rfl rfl ?_
      refine c_SI C (e_rootsOfQuartic  rfl rfl rfl rfl rfl) rfl rfl rfl rfl rfl rfl rfl (Nat.le_of_ble_eq_true rfl) (Nat.le_of_ble_eq_true rfl) (Nat.le_of_ble_eq_true rfl) ?_
      rintro _ _ _ ⟨hx7, hI8, hL9⟩
      have hx7 := hx7.symm; subst hx7
      have hI8 := hI8.symm; subst hI8; have hL9 := hL9.symm; subst hL9
      exact k_iret C rfl (Or.inl rfl) (Nat.le_of_ble_eq_true rfl) (Nat.le_of_ble_eq_true rfl) ⟨_, _, _, rfl, rfl, by rw [rlV, if_neg c76], rfl, rfl⟩
    refine k_iload_n C rfl rfl rfl ?_
    refine k_i2l C rfl rfl ?_
    refine k_iload_n C rfl rfl rfl ?_
    refine k_i2l C rfl rfl ?_
    refine k_iload C rfl rfl rfl ?_
    refine k_i2l C rfl rfl ?_
    refine k_iload C rfl rfl rfl ?_
    refine k_i2l C rfl rfl ?_
    refine c_SI C (e_rootsOfCubic  rfl) rfl rfl rfl rfl rfl rfl rfl (Nat.le_of_ble_eq_true rfl) (Nat.le_of_ble_eq_true rfl) (Nat.le_of_ble_eq_true rfl) ?_
    rintro _ _ _ ⟨hx7, hI8, hL9⟩
    have hx7 := hx7.symm; subst hx7
    have hI8 := hI8.symm; subst hI8; have hL9 := hL9.symm; subst hL9
    refine k_goto C (pc2 := 110) rfl rfl ?_
    exact k_iret C rfl (Or.inl rfl) (Nat.le_of_ble_eq_true rfl) (Nat.le_of_ble_eq_true rfl) ⟨_, _, _, rfl, rfl, by rw [rlV, if_pos (Decidable.not_not.mp c76)], rfl, rfl⟩
  exact absurd ⟨Decidable.not_not.mp c60, Decidable.not_not.mp c64⟩ hok.2

theorem e_m_isThirty {d : Nat} {T N : Nat → Nat} {I : IT} {L : LT} {R : RT} {v : Int32}  : Ex (d + 2) 311 [.int v] (T, N, I, L, R) 0 0 (pI T N R (fun x9 I9 L9 => x9 = (if (-30 : Int32) ≤ v ∧ v ≤ 30 then (1 : Int32) else 0) ∧ I9 = I ∧ L9 = L)) := by
  refine ⟨_, rfl, Nat.le_of_ble_eq_true rfl, fun V C S => ?_⟩
  show V 0 [(0, .int v)] [] (T, N, I, L, R) 0 0
  refine k_iload_n C rfl rfl rfl ?_
  refine k_bipush C (x := -30) rfl rfl rfl ?_
  refine k_bipush C (x := 30) rfl rfl rfl ?_
  refine c_SI C e_in rfl rfl rfl rfl rfl rfl rfl (Nat.le_of_ble_eq_true rfl) (Nat.le_of_ble_eq_true rfl) (Nat.le_of_ble_eq_true rfl) ?_
  rintro _ _ _ ⟨hx7, hI8, hL9⟩
  have hx7 := hx7.symm; subst hx7
  have hI8 := hI8.symm; subst hI8; have hL9 := hL9.symm; subst hL9
  exact k_iret C rfl (Or.inr ⟨rfl, by by_cases h : (-30 : Int32) ≤ v ∧ v ≤ 30; exact Or.inr (if_pos h); exact Or.inl (if_neg h)⟩) (Nat.le_of_ble_eq_true rfl) (Nat.le_of_ble_eq_true rfl) ⟨_, _, _, rfl, rfl, ⟨rfl, rfl, rfl⟩⟩

theorem e_m_real_no {d : Nat} {T N : Nat → Nat} {I : IT} {L : LT} {R : RT} {A : Nat → Prop} {m : Nat} {a b c u e : Int32} (T_m : T m = 13) (A_m : A m) (h : ¬ okReal a b c u e) : Ex (d + 3) 312 [.ref m, .int a, .int b, .int c, .int u, .int e] (T, N, I, L, R) 0 0 (pI T N R (fun x9 I9 L9 => Fr A I L I9 L9 ∧ I9 m 0 = 1 ∧ IKm m I I9)) := by
  refine ⟨_, rfl, Nat.le_of_ble_eq_true rfl, fun V C S => ?_⟩
  show V 0 [(0, .ref m), (1, .int a), (2, .int b), (3, .int c), (4, .int u), (5, .int e)] [] (T, N, I, L, R) 0 0
  refine k_aload_n C rfl rfl rfl ?_
  refine k_iconst C (x := 0) rfl rfl rfl ?_
  refine p_I C rfl rfl rfl T_m (Or.inr rfl) rfl ?_
  refine k_iload_n C rfl rfl rfl ?_
  refine c_SI C e_m_isThirty rfl rfl rfl rfl rfl rfl rfl (Nat.le_of_ble_eq_true rfl) (Nat.le_of_ble_eq_true rfl) (Nat.le_of_ble_eq_true rfl) ?_
  rintro _ _ _ ⟨hx7, hI8, hL9⟩
  have hx7 := hx7.symm; subst hx7
  have hI8 := hI8.symm; subst hI8; have hL9 := hL9.symm; subst hL9
  refine k_if_eq C (t := 46) rfl rfl rfl (fun c9 => ?_) (fun c9 => ?_)
  · skip
    refine k_iconst C (x := 0) rfl rfl rfl ?_
    refine k_istore C (lw := [(6, .int _), (0, _), (1, .int _), (2, .int _), (3, .int _), (4, .int _), (5, .int _)]) rfl rfl (Nat.le_of_ble_eq_true rfl) rfl ?_
    refine k_aload_n C rfl rfl rfl ?_
    refine k_iload C rfl rfl rfl ?_
    refine k_if_eq C (t := 63) rfl rfl rfl (fun _ => ?_) (fun c52 => absurd (by decide) c52)
    refine k_iconst C (x := 1) rfl rfl rfl ?_
    refine k_goto C (pc2 := 68) rfl rfl ?_
    refine k_iconst C (x := 1) rfl rfl rfl ?_
    refine c_VI C (e_throwsIf1 T_m rfl) rfl rfl rfl rfl rfl ⟨_, rfl, rfl, T_m, Nat.le_of_ble_eq_true rfl⟩ rfl rfl (Nat.le_of_ble_eq_true rfl) (Nat.le_of_ble_eq_true rfl) (Nat.le_of_ble_eq_true rfl) ?_
    rintro _ _ _ ⟨hx7, hI8, hL9⟩
    have hx7 := hx7.symm; subst hx7
    have hI8 := hI8.symm; subst hI8; have hL9 := hL9.symm; subst hL9
    refine k_if_eq C (t := 77) rfl rfl rfl (fun c72 => absurd c72 (by decide)) (fun _ => ?_)
    refine k_iconst C (x := 0) rfl rfl rfl ?_
    exact k_iret C rfl (Or.inl rfl) (Nat.le_of_ble_eq_true rfl) (Nat.le_of_ble_eq_true rfl) ⟨_, _, _, rfl, rfl, ⟨(Fr.i (Fr.i Fr.rf A_m) A_m), u2_s, (by first | exact IKm.i IKm.rf | exact IKm.i (IKm.i IKm.rf))⟩⟩
  have qa := w30m.mp (inY c9)
  refine k_iload_n C rfl rfl rfl ?_
  refine c_SI C e_m_isThirty rfl rfl rfl rfl rfl rfl rfl (Nat.le_of_ble_eq_true rfl) (Nat.le_of_ble_eq_true rfl) (Nat.le_of_ble_eq_true rfl) ?_
  rintro _ _ _ ⟨hx7, hI8, hL9⟩
  have hx7 := hx7.symm; subst hx7
  have hI8 := hI8.symm; subst hI8; have hL9 := hL9.symm; subst hL9
  refine k_if_eq C (t := 46) rfl rfl rfl (fun c16 => ?_) (fun c16 => ?_)
  · skip
    refine k_iconst C (x := 0) rfl rfl rfl ?_
    refine k_istore C (lw := [(6, .int _), (0, _), (1, .int _), (2, .int _), (3, .int _), (4, .int _), (5, .int _)]) rfl rfl (Nat.le_of_ble_eq_true rfl) rfl ?_
    refine k_aload_n C rfl rfl rfl ?_
    refine k_iload C rfl rfl rfl ?_
    refine k_if_eq C (t := 63) rfl rfl rfl (fun _ => ?_) (fun c52 => absurd (by decide) c52)
    refine k_iconst C (x := 1) rfl rfl rfl ?_
    refine k_goto C (pc2 := 68) rfl rfl ?_
    refine k_iconst C (x := 1) rfl rfl rfl ?_
    refine c_VI C (e_throwsIf1 T_m rfl) rfl rfl rfl rfl rfl ⟨_, rfl, rfl, T_m, Nat.le_of_ble_eq_true rfl⟩ rfl rfl (Nat.le_of_ble_eq_true rfl) (Nat.le_of_ble_eq_true rfl) (Nat.le_of_ble_eq_true rfl) ?_
    rintro _ _ _ ⟨hx7, hI8, hL9⟩
    have hx7 := hx7.symm; subst hx7
    have hI8 := hI8.symm; subst hI8; have hL9 := hL9.symm; subst hL9
    refine k_if_eq C (t := 77) rfl rfl rfl (fun c72 => absurd c72 (by decide)) (fun _ => ?_)
    refine k_iconst C (x := 0) rfl rfl rfl ?_
    exact k_iret C rfl (Or.inl rfl) (Nat.le_of_ble_eq_true rfl) (Nat.le_of_ble_eq_true rfl) ⟨_, _, _, rfl, rfl, ⟨(Fr.i (Fr.i Fr.rf A_m) A_m), u2_s, (by first | exact IKm.i IKm.rf | exact IKm.i (IKm.i IKm.rf))⟩⟩
  have qb := w30m.mp (inY c16)
  refine k_iload_n C rfl rfl rfl ?_
  refine c_SI C e_m_isThirty rfl rfl rfl rfl rfl rfl rfl (Nat.le_of_ble_eq_true rfl) (Nat.le_of_ble_eq_true rfl) (Nat.le_of_ble_eq_true rfl) ?_
  rintro _ _ _ ⟨hx7, hI8, hL9⟩
  have hx7 := hx7.symm; subst hx7
  have hI8 := hI8.symm; subst hI8; have hL9 := hL9.symm; subst hL9
  refine k_if_eq C (t := 46) rfl rfl rfl (fun c23 => ?_) (fun c23 => ?_)
  · skip
    refine k_iconst C (x := 0) rfl rfl rfl ?_
    refine k_istore C (lw := [(6, .int _), (0, _), (1, .int _), (2, .int _), (3, .int _), (4, .int _), (5, .int _)]) rfl rfl (Nat.le_of_ble_eq_true rfl) rfl ?_
    refine k_aload_n C rfl rfl rfl ?_
    refine k_iload C rfl rfl rfl ?_
    refine k_if_eq C (t := 63) rfl rfl rfl (fun _ => ?_) (fun c52 => absurd (by decide) c52)
    refine k_iconst C (x := 1) rfl rfl rfl ?_
    refine k_goto C (pc2 := 68) rfl rfl ?_
    refine k_iconst C (x := 1) rfl rfl rfl ?_
    refine c_VI C (e_throwsIf1 T_m rfl) rfl rfl rfl rfl rfl ⟨_, rfl, rfl, T_m, Nat.le_of_ble_eq_true rfl⟩ rfl rfl (Nat.le_of_ble_eq_true rfl) (Nat.le_of_ble_eq_true rfl) (Nat.le_of_ble_eq_true rfl) ?_
    rintro _ _ _ ⟨hx7, hI8, hL9⟩
    have hx7 := hx7.symm; subst hx7
    have hI8 := hI8.symm; subst hI8; have hL9 := hL9.symm; subst hL9
    refine k_if_eq C (t := 77) rfl rfl rfl (fun c72 => absurd c72 (by decide)) (fun _ => ?_)
    refine k_iconst C (x := 0) rfl rfl rfl ?_
    exact k_iret C rfl (Or.inl rfl) (Nat.le_of_ble_eq_true rfl) (Nat.le_of_ble_eq_true rfl) ⟨_, _, _, rfl, rfl, ⟨(Fr.i (Fr.i Fr.rf A_m) A_m), u2_s, (by first | exact IKm.i IKm.rf | exact IKm.i (IKm.i IKm.rf))⟩⟩
  have qc := w30m.mp (inY c23)
  refine k_iload C rfl rfl rfl ?_
  refine c_SI C e_m_isThirty rfl rfl rfl rfl rfl rfl rfl (Nat.le_of_ble_eq_true rfl) (Nat.le_of_ble_eq_true rfl) (Nat.le_of_ble_eq_true rfl) ?_
  rintro _ _ _ ⟨hx7, hI8, hL9⟩
  have hx7 := hx7.symm; subst hx7
  have hI8 := hI8.symm; subst hI8; have hL9 := hL9.symm; subst hL9
  refine k_if_eq C (t := 46) rfl rfl rfl (fun c31 => ?_) (fun c31 => ?_)
  · skip
    refine k_iconst C (x := 0) rfl rfl rfl ?_
    refine k_istore C (lw := [(6, .int _), (0, _), (1, .int _), (2, .int _), (3, .int _), (4, .int _), (5, .int _)]) rfl rfl (Nat.le_of_ble_eq_true rfl) rfl ?_
    refine k_aload_n C rfl rfl rfl ?_
    refine k_iload C rfl rfl rfl ?_
    refine k_if_eq C (t := 63) rfl rfl rfl (fun _ => ?_) (fun c52 => absurd (by decide) c52)
    refine k_iconst C (x := 1) rfl rfl rfl ?_
    refine k_goto C (pc2 := 68) rfl rfl ?_
    refine k_iconst C (x := 1) rfl rfl rfl ?_
    refine c_VI C (e_throwsIf1 T_m rfl) rfl rfl rfl rfl rfl ⟨_, rfl, rfl, T_m, Nat.le_of_ble_eq_true rfl⟩ rfl rfl (Nat.le_of_ble_eq_true rfl) (Nat.le_of_ble_eq_true rfl) (Nat.le_of_ble_eq_true rfl) ?_
    rintro _ _ _ ⟨hx7, hI8, hL9⟩
    have hx7 := hx7.symm; subst hx7
    have hI8 := hI8.symm; subst hI8; have hL9 := hL9.symm; subst hL9
    refine k_if_eq C (t := 77) rfl rfl rfl (fun c72 => absurd c72 (by decide)) (fun _ => ?_)
    refine k_iconst C (x := 0) rfl rfl rfl ?_
    exact k_iret C rfl (Or.inl rfl) (Nat.le_of_ble_eq_true rfl) (Nat.le_of_ble_eq_true rfl) ⟨_, _, _, rfl, rfl, ⟨(Fr.i (Fr.i Fr.rf A_m) A_m), u2_s, (by first | exact IKm.i IKm.rf | exact IKm.i (IKm.i IKm.rf))⟩⟩
  have qu := w30m.mp (inY c31)
  refine k_iload C rfl rfl rfl ?_
  refine c_SI C e_m_isThirty rfl rfl rfl rfl rfl rfl rfl (Nat.le_of_ble_eq_true rfl) (Nat.le_of_ble_eq_true rfl) (Nat.le_of_ble_eq_true rfl) ?_
  rintro _ _ _ ⟨hx7, hI8, hL9⟩
  have hx7 := hx7.symm; subst hx7
  have hI8 := hI8.symm; subst hI8; have hL9 := hL9.symm; subst hL9
  refine k_if_eq C (t := 46) rfl rfl rfl (fun c39 => ?_) (fun c39 => ?_)
  · skip
    refine k_iconst C (x := 0) rfl rfl rfl ?_
    refine k_istore C (lw := [(6, .int _), (0, _), (1, .int _), (2, .int _), (3, .int _), (4, .int _), (5, .int _)]) rfl rfl (Nat.le_of_ble_eq_true rfl) rfl ?_
    refine k_aload_n C rfl rfl rfl ?_
    refine k_iload C rfl rfl rfl ?_
    refine k_if_eq C (t := 63) rfl rfl rfl (fun _ => ?_) (fun c52 => absurd (by decide) c52)
    refine k_iconst C (x := 1) rfl rfl rfl ?_
    refine k_goto C (pc2 := 68) rfl rfl ?_
    refine k_iconst C (x := 1) rfl rfl rfl ?_
    refine c_VI C (e_throwsIf1 T_m rfl) rfl rfl rfl rfl rfl ⟨_, rfl, rfl, T_m, Nat.le_of_ble_eq_true rfl⟩ rfl rfl (Nat.le_of_ble_eq_true rfl) (Nat.le_of_ble_eq_true rfl) (Nat.le_of_ble_eq_true rfl) ?_
    rintro _ _ _ ⟨hx7, hI8, hL9⟩
    have hx7 := hx7.symm; subst hx7
    have hI8 := hI8.symm; subst hI8; have hL9 := hL9.symm; subst hL9
    refine k_if_eq C (t := 77) rfl rfl rfl (fun c72 => absurd c72 (by decide)) (fun _ => ?_)
    refine k_iconst C (x := 0) rfl rfl rfl ?_
    exact k_iret C rfl (Or.inl rfl) (Nat.le_of_ble_eq_true rfl) (Nat.le_of_ble_eq_true rfl) ⟨_, _, _, rfl, rfl, ⟨(Fr.i (Fr.i Fr.rf A_m) A_m), u2_s, (by first | exact IKm.i IKm.rf | exact IKm.i (IKm.i IKm.rf))⟩⟩
  have qe := w30m.mp (inY c39)
  refine k_iconst C (x := 1) rfl rfl rfl ?_
  refine k_goto C (pc2 := 47) rfl rfl ?_
  refine k_istore C (lw := [(6, .int _), (0, _), (1, .int _), (2, .int _), (3, .int _), (4, .int _), (5, .int _)]) rfl rfl (Nat.le_of_ble_eq_true rfl) rfl ?_
  refine k_aload_n C rfl rfl rfl ?_
  refine k_iload C rfl rfl rfl ?_
  refine k_if_eq C (t := 63) rfl rfl rfl (fun c52 => absurd c52 (by decide)) (fun _ => ?_)
  refine k_iload_n C rfl rfl rfl ?_
  refine k_if_ne C (t := 67) rfl rfl rfl (fun c56 => ?_) (fun c56 => ?_)
  · skip
    exact absurd ⟨⟨qa, qb, qc, qu, qe⟩, fun z => c56 z.1⟩ h
  refine k_iload_n C rfl rfl rfl ?_
  refine k_if_ne C (t := 67) rfl rfl rfl (fun c60 => ?_) (fun c60 => ?_)
  · skip
    exact absurd ⟨⟨qa, qb, qc, qu, qe⟩, fun z => c60 z.2⟩ h
  refine k_iconst C (x := 1) rfl rfl rfl ?_
  refine k_goto C (pc2 := 68) rfl rfl ?_
  refine k_iconst C (x := 1) rfl rfl rfl ?_
  refine c_VI C (e_throwsIf1 T_m rfl) rfl rfl rfl rfl rfl ⟨_, rfl, rfl, T_m, Nat.le_of_ble_eq_true rfl⟩ rfl rfl (Nat.le_of_ble_eq_true rfl) (Nat.le_of_ble_eq_true rfl) (Nat.le_of_ble_eq_true rfl) ?_
  rintro _ _ _ ⟨hx7, hI8, hL9⟩
  have hx7 := hx7.symm; subst hx7
  have hI8 := hI8.symm; subst hI8; have hL9 := hL9.symm; subst hL9
  refine k_if_eq C (t := 77) rfl rfl rfl (fun c72 => absurd c72 (by decide)) (fun _ => ?_)
  refine k_iconst C (x := 0) rfl rfl rfl ?_
  exact k_iret C rfl (Or.inl rfl) (Nat.le_of_ble_eq_true rfl) (Nat.le_of_ble_eq_true rfl) ⟨_, _, _, rfl, rfl, ⟨(Fr.i (Fr.i Fr.rf A_m) A_m), u2_s, (by first | exact IKm.i IKm.rf | exact IKm.i (IKm.i IKm.rf))⟩⟩

theorem e_m_real_yes {d : Nat} {T N : Nat → Nat} {I : IT} {L : LT} {R : RT} {A : Nat → Prop} {m : Nat} {a b c u e : Int32} (T_m : T m = 13) (A_m : A m) (hok : okReal a b c u e) : Ex (d + 3) 312 [.ref m, .int a, .int b, .int c, .int u, .int e] (T, N, I, L, R) 0 0 (pI T N R (fun x9 I9 L9 => x9 = rlV a b c u e ∧ Fr A I L I9 L9 ∧ I9 m 0 = 0 ∧ IKm m I I9)) := by
  refine ⟨_, rfl, Nat.le_of_ble_eq_true rfl, fun V C S => ?_⟩
  show V 0 [(0, .ref m), (1, .int a), (2, .int b), (3, .int c), (4, .int u), (5, .int e)] [] (T, N, I, L, R) 0 0
  refine k_aload_n C rfl rfl rfl ?_
  refine k_iconst C (x := 0) rfl rfl rfl ?_
  refine p_I C rfl rfl rfl T_m (Or.inr rfl) rfl ?_
  refine k_iload_n C rfl rfl rfl ?_
  refine c_SI C e_m_isThirty rfl rfl rfl rfl rfl rfl rfl (Nat.le_of_ble_eq_true rfl) (Nat.le_of_ble_eq_true rfl) (Nat.le_of_ble_eq_true rfl) ?_
  rintro _ _ _ ⟨hx7, hI8, hL9⟩
  have hx7 := hx7.symm; subst hx7
  have hI8 := hI8.symm; subst hI8; have hL9 := hL9.symm; subst hL9
  refine k_if_eq C (t := 46) rfl rfl rfl (fun c9 => ?_) (fun c9 => ?_)
  · skip
    exact absurd c9 (inN (w30m.mpr hok.1.1))
  refine k_iload_n C rfl rfl rfl ?_
  refine c_SI C e_m_isThirty rfl rfl rfl rfl rfl rfl rfl (Nat.le_of_ble_eq_true rfl) (Nat.le_of_ble_eq_true rfl) (Nat.le_of_ble_eq_true rfl) ?_
  rintro _ _ _ ⟨hx7, hI8, hL9⟩
  have hx7 := hx7.symm; subst hx7
  have hI8 := hI8.symm; subst hI8; have hL9 := hL9.symm; subst hL9
  refine k_if_eq C (t := 46) rfl rfl rfl (fun c16 => ?_) (fun c16 => ?_)
  · skip
    exact absurd c16 (inN (w30m.mpr hok.1.2.1))
  refine k_iload_n C rfl rfl rfl ?_
  refine c_SI C e_m_isThirty rfl rfl rfl rfl rfl rfl rfl (Nat.le_of_ble_eq_true rfl) (Nat.le_of_ble_eq_true rfl) (Nat.le_of_ble_eq_true rfl) ?_
  rintro _ _ _ ⟨hx7, hI8, hL9⟩
  have hx7 := hx7.symm; subst hx7
  have hI8 := hI8.symm; subst hI8; have hL9 := hL9.symm; subst hL9
  refine k_if_eq C (t := 46) rfl rfl rfl (fun c23 => ?_) (fun c23 => ?_)
  · skip
    exact absurd c23 (inN (w30m.mpr hok.1.2.2.1))
  refine k_iload C rfl rfl rfl ?_
  refine c_SI C e_m_isThirty rfl rfl rfl rfl rfl rfl rfl (Nat.le_of_ble_eq_true rfl) (Nat.le_of_ble_eq_true rfl) (Nat.le_of_ble_eq_true rfl) ?_
  rintro _ _ _ ⟨hx7, hI8, hL9⟩
  have hx7 := hx7.symm; subst hx7
  have hI8 := hI8.symm; subst hI8; have hL9 := hL9.symm; subst hL9
  refine k_if_eq C (t := 46) rfl rfl rfl (fun c31 => ?_) (fun c31 => ?_)
  · skip
    exact absurd c31 (inN (w30m.mpr hok.1.2.2.2.1))
  refine k_iload C rfl rfl rfl ?_
  refine c_SI C e_m_isThirty rfl rfl rfl rfl rfl rfl rfl (Nat.le_of_ble_eq_true rfl) (Nat.le_of_ble_eq_true rfl) (Nat.le_of_ble_eq_true rfl) ?_
  rintro _ _ _ ⟨hx7, hI8, hL9⟩
  have hx7 := hx7.symm; subst hx7
  have hI8 := hI8.symm; subst hI8; have hL9 := hL9.symm; subst hL9
  refine k_if_eq C (t := 46) rfl rfl rfl (fun c39 => ?_) (fun c39 => ?_)
  · skip
    exact absurd c39 (inN (w30m.mpr hok.1.2.2.2.2))
  refine k_iconst C (x := 1) rfl rfl rfl ?_
  refine k_goto C (pc2 := 47) rfl rfl ?_
  refine k_istore C (lw := [(6, .int _), (0, _), (1, .int _), (2, .int _), (3, .int _), (4, .int _), (5, .int _)]) rfl rfl (Nat.le_of_ble_eq_true rfl) rfl ?_
  refine k_aload_n C rfl rfl rfl ?_
  refine k_iload C rfl rfl rfl ?_
  refine k_if_eq C (t := 63) rfl rfl rfl (fun c52 => absurd c52 (by decide)) (fun _ => ?_)
  refine k_iload_n C rfl rfl rfl ?_
  refine k_if_ne C (t := 67) rfl rfl rfl (fun c56 => ?_) (fun c56 => ?_)
  · skip
    refine k_iconst C (x := 0) rfl rfl rfl ?_
    refine k_iconst C (x := 1) rfl rfl rfl ?_
    refine c_VI C (e_throwsIf0 T_m rfl) rfl rfl rfl rfl rfl ⟨_, rfl, rfl, T_m, Nat.le_of_ble_eq_true rfl⟩ rfl rfl (Nat.le_of_ble_eq_true rfl) (Nat.le_of_ble_eq_true rfl) (Nat.le_of_ble_eq_true rfl) ?_
    rintro _ _ _ ⟨hx7, hI8, hL9⟩
    have hx7 := hx7.symm; subst hx7
    have hI8 := hI8.symm; subst hI8; have hL9 := hL9.symm; subst hL9
    refine k_if_eq C (t := 77) rfl rfl rfl (fun _ => ?_) (fun c72 => absurd (by decide) c72)
    refine k_iload_n C rfl rfl rfl ?_
    refine k_if_ne C (t := 97) rfl rfl rfl (fun c78 => ?_) (fun c78 => ?_)
    · skip
      refine k_iload_n C rfl rfl rfl ?_
      refine k_i2l C rfl rfl ?_
      refine k_iload_n C rfl rfl rfl ?_
      refine k_i2l C rfl rfl ?_
      refine k_iload_n C rfl rfl rfl ?_
      refine k_i2l C rfl rfl ?_
      refine k_iload C rfl rfl rfl ?_
      refine k_i2l C rfl rfl ?_
      refine k_iload C rfl rfl rfl ?_
      refine k_i2l C rfl rfl ?_
      refine c_SI C (e_m_realOfQuartic  rfl rfl rfl rfl rfl rfl) rfl rfl rfl rfl rfl rfl rfl (Nat.le_of_ble_eq_true rfl) (Nat.le_of_ble_eq_true rfl) (Nat.le_of_ble_eq_true rfl) ?_
      rintro _ _ _ ⟨hx7, hI8, hL9⟩
      have hx7 := hx7.symm; subst hx7
      have hI8 := hI8.symm; subst hI8; have hL9 := hL9.symm; subst hL9
      exact k_iret C rfl (Or.inl rfl) (Nat.le_of_ble_eq_true rfl) (Nat.le_of_ble_eq_true rfl) ⟨_, _, _, rfl, rfl, real_i hok c78, Fr.i Fr.rf A_m, u2_s, (by first | exact IKm.i IKm.rf | exact IKm.i (IKm.i IKm.rf))⟩
    refine k_iload_n C rfl rfl rfl ?_
    refine k_i2l C rfl rfl ?_
    refine k_iload_n C rfl rfl rfl ?_
    refine k_i2l C rfl rfl ?_
    refine k_iload C rfl rfl rfl ?_
    refine k_i2l C rfl rfl ?_
    refine k_iload C rfl rfl rfl ?_
    refine k_i2l C rfl rfl ?_
    refine c_SI C (e_m_realOfCubic  rfl) rfl rfl rfl rfl rfl rfl rfl (Nat.le_of_ble_eq_true rfl) (Nat.le_of_ble_eq_true rfl) (Nat.le_of_ble_eq_true rfl) ?_
    rintro _ _ _ ⟨hx7, hI8, hL9⟩
    have hx7 := hx7.symm; subst hx7
    have hI8 := hI8.symm; subst hI8; have hL9 := hL9.symm; subst hL9
    refine k_goto C (pc2 := 112) rfl rfl ?_
    exact k_iret C rfl (Or.inl rfl) (Nat.le_of_ble_eq_true rfl) (Nat.le_of_ble_eq_true rfl) ⟨_, _, _, rfl, rfl, real_c (Decidable.not_not.mp c78), Fr.i Fr.rf A_m, u2_s, (by first | exact IKm.i IKm.rf | exact IKm.i (IKm.i IKm.rf))⟩
  refine k_iload_n C rfl rfl rfl ?_
  refine k_if_ne C (t := 67) rfl rfl rfl (fun c60 => ?_) (fun c60 => ?_)
  · skip
    refine k_iconst C (x := 0) rfl rfl rfl ?_
    refine k_iconst C (x := 1) rfl rfl rfl ?_
    refine c_VI C (e_throwsIf0 T_m rfl) rfl rfl rfl rfl rfl ⟨_, rfl, rfl, T_m, Nat.le_of_ble_eq_true rfl⟩ rfl rfl (Nat.le_of_ble_eq_true rfl) (Nat.le_of_ble_eq_true rfl) (Nat.le_of_ble_eq_true rfl) ?_
    rintro _ _ _ ⟨hx7, hI8, hL9⟩
    have hx7 := hx7.symm; subst hx7
    have hI8 := hI8.symm; subst hI8; have hL9 := hL9.symm; subst hL9
    refine k_if_eq C (t := 77) rfl rfl rfl (fun _ => ?_) (fun c72 => absurd (by decide) c72)
    refine k_iload_n C rfl rfl rfl ?_
    refine k_if_ne C (t := 97) rfl rfl rfl (fun c78 => ?_) (fun c78 => ?_)
    · skip
      refine k_iload_n C rfl rfl rfl ?_
      refine k_i2l C rfl rfl ?_
      refine k_iload_n C rfl rfl rfl ?_
      refine k_i2l C rfl rfl ?_
      refine k_iload_n C rfl rfl rfl ?_
      refine k_i2l C rfl rfl ?_
      refine k_iload C rfl rfl rfl ?_
      refine k_i2l C rfl rfl ?_
      refine k_iload C rfl rfl rfl ?_
      refine k_i2l C rfl rfl ?_
      refine c_SI C (e_m_realOfQuartic  rfl rfl rfl rfl rfl rfl) rfl rfl rfl rfl rfl rfl rfl (Nat.le_of_ble_eq_true rfl) (Nat.le_of_ble_eq_true rfl) (Nat.le_of_ble_eq_true rfl) ?_
      rintro _ _ _ ⟨hx7, hI8, hL9⟩
      have hx7 := hx7.symm; subst hx7
      have hI8 := hI8.symm; subst hI8; have hL9 := hL9.symm; subst hL9
      exact k_iret C rfl (Or.inl rfl) (Nat.le_of_ble_eq_true rfl) (Nat.le_of_ble_eq_true rfl) ⟨_, _, _, rfl, rfl, real_i hok c78, Fr.i Fr.rf A_m, u2_s, (by first | exact IKm.i IKm.rf | exact IKm.i (IKm.i IKm.rf))⟩
    refine k_iload_n C rfl rfl rfl ?_
    refine k_i2l C rfl rfl ?_
    refine k_iload_n C rfl rfl rfl ?_
    refine k_i2l C rfl rfl ?_
    refine k_iload C rfl rfl rfl ?_
    refine k_i2l C rfl rfl ?_
    refine k_iload C rfl rfl rfl ?_
    refine k_i2l C rfl rfl ?_
    refine c_SI C (e_m_realOfCubic  rfl) rfl rfl rfl rfl rfl rfl rfl (Nat.le_of_ble_eq_true rfl) (Nat.le_of_ble_eq_true rfl) (Nat.le_of_ble_eq_true rfl) ?_
    rintro _ _ _ ⟨hx7, hI8, hL9⟩
    have hx7 := hx7.symm; subst hx7
    have hI8 := hI8.symm; subst hI8; have hL9 := hL9.symm; subst hL9
    refine k_goto C (pc2 := 112) rfl rfl ?_
    exact k_iret C rfl (Or.inl rfl) (Nat.le_of_ble_eq_true rfl) (Nat.le_of_ble_eq_true rfl) ⟨_, _, _, rfl, rfl, real_c (Decidable.not_not.mp c78), Fr.i Fr.rf A_m, u2_s, (by first | exact IKm.i IKm.rf | exact IKm.i (IKm.i IKm.rf))⟩
  exact absurd ⟨Decidable.not_not.mp c56, Decidable.not_not.mp c60⟩ hok.2

