/-! tables, exactly -/
theorem and1 {x : Int32} (h : 0 ≤ x.toInt) : (x &&& 1).toInt = x.toInt % 2 := by
  have e1 : x.toInt = (x.toBitVec.toNat : Int) := by
    rw [← Int32.toInt_toBitVec]
    have h1 : 0 ≤ x.toBitVec.toInt := by rw [Int32.toInt_toBitVec]; exact h
    rw [BitVec.toInt_eq_toNat_cond] at h1 ⊢
    by_cases q : 2 * x.toBitVec.toNat < 2 ^ 32
    · rw [if_pos q]
    · rw [if_neg q] at h1; have := x.toBitVec.isLt; omega
  have e2 : (x &&& 1).toInt = ((x.toBitVec &&& 1#32).toNat : Int) := by
    rw [← Int32.toInt_toBitVec, Int32.toBitVec_and]
    show (x.toBitVec &&& 1#32).toInt = _
    rw [BitVec.toInt_eq_toNat_cond, if_pos]
    rw [BitVec.toNat_and]
    have : x.toBitVec.toNat &&& (1#32).toNat ≤ (1#32).toNat := Nat.and_le_right
    have e : (1#32).toNat = 1 := rfl
    omega
  rw [e2, e1, BitVec.toNat_and]
  have e : (1#32).toNat = 1 := rfl
  rw [e, Nat.and_one_is_mod]
  omega
def POW (s : Int) : Nat → Int
  | 0 => 1
  | n + 1 => POW s n * s
theorem POW.dbl (s : Int) : ∀ n, POW s (2 * n) = POW (s * s) n
  | 0 => rfl
  | n + 1 => by
    show POW s (2 * n) * s * s = POW (s * s) n * (s * s)
    rw [POW.dbl s n]; grind
theorem POW.e {p s t : Int} (h : PmE p s t) : ∀ n, PmE p (POW s n) (POW t n)
  | 0 => PmE.rf
  | n + 1 => (POW.e h n).ml h
def PWR (p r s k v : Int) : Prop := PmE p (r * POW s k.toNat) v
theorem PWR.z {p r s k v n : Int} (hr : r = 1) (hs : s = n % p) (hv : v = POW n k.toNat) : PWR p r s k v := by
  unfold PWR
  rw [hr, hs, hv, Int.one_mul]
  exact POW.e (PmE.em n) _
theorem PWR.s1 {p v : Int} {r s k r' s' k' w1 w2 : Int32} {l1 l2 : Int64} (h : PWR p r.toInt s.toInt k.toInt v) (m1 : MXD w1 r s) (m2 : MXD w2 s s) (e1 : l1.toInt = w1.toInt) (e2 : l2.toInt = w2.toInt) (o1 : r'.toInt = l1.toInt % p) (o2 : s'.toInt = l2.toInt % p) (br : 0 ≤ r.toInt ∧ r.toInt ≤ 18) (bs : 0 ≤ s.toInt ∧ s.toInt ≤ 18) (hk : 0 < k.toInt) (hk' : k'.toInt = k.toInt / 2) (ho : k.toInt % 2 = 1) : PWR p r'.toInt s'.toInt k'.toInt v := by
  unfold PWR at *
  have q1 := m1 (by omega) (by omega) (by omega) (by omega)
  have q2 := m2 (by omega) (by omega) (by omega) (by omega)
  rw [o1, o2, e1, e2, q1, q2]
  refine PmE.tr (PmE.ml (PmE.em _) (POW.e (PmE.em _) _)) ?_
  rw [← POW.dbl]
  have e : k.toInt.toNat = 2 * k'.toInt.toNat + 1 := by omega
  rw [e] at h
  have h : PmE p (r.toInt * (POW s.toInt (2 * k'.toInt.toNat) * s.toInt)) v := h
  rwa [show r.toInt * s.toInt * POW s.toInt (2 * k'.toInt.toNat) = r.toInt * (POW s.toInt (2 * k'.toInt.toNat) * s.toInt) from by grind]
theorem PWR.s0 {p v : Int} {r s k s' k' w2 : Int32} {l2 : Int64} (h : PWR p r.toInt s.toInt k.toInt v) (m2 : MXD w2 s s) (e2 : l2.toInt = w2.toInt) (o2 : s'.toInt = l2.toInt % p) (bs : 0 ≤ s.toInt ∧ s.toInt ≤ 18) (hk : 0 < k.toInt) (hk' : k'.toInt = k.toInt / 2) (ho : k.toInt % 2 ≠ 1) : PWR p r.toInt s'.toInt k'.toInt v := by
  unfold PWR at *
  have q2 := m2 (by omega) (by omega) (by omega) (by omega)
  rw [o2, e2, q2]
  refine PmE.tr (PmE.ml PmE.rf (POW.e (PmE.em _) _)) ?_
  rw [← POW.dbl]
  have e : k.toInt.toNat = 2 * k'.toInt.toNat := by omega
  rwa [e] at h
theorem PWR.e {p r s k v : Int} (h : PWR p r s k v) (hk : k ≤ 0) : PmE p r v := by
  unfold PWR at h
  rw [show k.toNat = 0 from by omega] at h
  have h : PmE p (r * 1) v := h
  rwa [Int.mul_one] at h
theorem POW.inv : ∀ p ∈ ([11, 13, 17, 19] : List Nat), ∀ n : Nat, n < p → n ≠ 0 → ((n : Int) * POW n (p - 2)) % p = 1 := by decide +kernel
theorem z_iand1 {d : Nat} {q : mm_T} {mc ms : Nat} {Post : Po} {V : V_T} {pc pc2 : Nat} {lv : List (Nat × Value)} {r : List Value} {ck sk : Nat} (C : Cl d q mc ms Post V) {M : Mm} {x y : Int32} (hi : cdf q.2.2.2.2.2.2 pc = some (.iand, 1)) (hp : pc + 1 = pc2) (hy : y.toInt = 1) (hx : 0 ≤ x.toInt) (h : ∀ w : Int32, w.toInt = x.toInt % 2 → V pc2 lv (.int w :: r) M ck sk) : V pc lv (.int y :: .int x :: r) M ck sk := by
  have e : y = 1 := Int32.toInt_inj.mp hy
  subst e
  exact k_iand C hi hp (h _ (and1 hx))
theorem s_X0_power_x {d : Nat} {T N : Nat → Nat} {I : IT} {L : LT} {R : RT} {A B : Nat → Prop} {r0 : Nat} {n1 n2 : Int32} (hS : SUB B A) (hI : IX A T I) (H_r0 : (hs_Al T N R A B) r0) (b0_n1 : 0 ≤ n1.toInt) (b1_n1 : n1.toInt ≤ 18) : Ex (d + 2) 4 [.ref r0, .int n1, .int n2] (T, N, I, L, R) 0 0 (pI T N R (fun x9 I9 L9 => (0 ≤ x9.toInt) ∧ (x9.toInt ≤ 18) ∧ (PmE (I (rA R r0 0) 0).toInt x9.toInt (POW n1.toInt n2.toInt.toNat)) ∧ (0 ≤ x9.toInt ∧ x9.toInt < (I (rA R r0 0) 0).toInt) ∧ (I = I9 ∧ L = L9))) := by
  refine ⟨_, rfl, Nat.le_of_ble_eq_true rfl, fun V C S => ?_⟩
  show V 0 [(0, .ref r0), (1, .int n1), (2, .int n2)] [] (T, N, I, L, R) 0 0
  have gn1 := rg n1
  have gn2 := rg n2
  obtain ⟨T_r0, A_r0, B_r0, ⟨r0_0, R_r0_0, H_r0_0⟩, ⟨r0_1, R_r0_1, H_r0_1⟩, ⟨r0_2, R_r0_2, H_r0_2⟩⟩ := id H_r0
  have z_r0_0 : rA R r0 0 = r0_0 := rA_e R_r0_0
  have z_r0_1 : rA R r0 1 = r0_1 := rA_e R_r0_1
  have z_r0_2 : rA R r0 2 = r0_2 := rA_e R_r0_2
  obtain ⟨T_r0_0, A_r0_0, B_r0_0, ⟨r0_0_6, R_r0_0_6, H_r0_0_6⟩, ⟨r0_0_7, R_r0_0_7, H_r0_0_7⟩, ⟨r0_0_8, R_r0_0_8, H_r0_0_8⟩, ⟨r0_0_9, R_r0_0_9, H_r0_0_9⟩, ⟨r0_0_10, R_r0_0_10, H_r0_0_10⟩⟩ := id H_r0_0
  have z_r0_0_6 : rA R r0_0 6 = r0_0_6 := rA_e R_r0_0_6
  have z_r0_0_7 : rA R r0_0 7 = r0_0_7 := rA_e R_r0_0_7
  have z_r0_0_8 : rA R r0_0 8 = r0_0_8 := rA_e R_r0_0_8
  have z_r0_0_9 : rA R r0_0 9 = r0_0_9 := rA_e R_r0_0_9
  have z_r0_0_10 : rA R r0_0 10 = r0_0_10 := rA_e R_r0_0_10
  obtain ⟨w_r0_0_0, k0_r0_0_0⟩ : ∃ x, I r0_0 0 = x := ⟨_, rfl⟩
  have gw_r0_0_0 := rg w_r0_0_0
  have ow_r0_0_0 := IX.p hI A_r0_0 T_r0_0 k0_r0_0_0
  refine z_iconst C (z := 1) rfl rfl rfl (fun x1 ex1 => ?_)
  refine k_istore_n C (lw := [(3, .int x1), (0, .ref r0), (1, .int n1), (2, .int n2)]) rfl rfl (Nat.le_of_ble_eq_true rfl) rfl ?_
  refine k_aload_n C rfl rfl rfl ?_
  refine k_iload_n C rfl rfl rfl ?_
  refine z_i2l C rfl rfl (fun lg2 elg2 => ?_)
  have hl5 := elg2
  refine c_VI C (s_X0_of_x hS hI H_r0) rfl rfl rfl rfl rfl ⟨_, rfl, rfl, T_r0, Nat.le_of_ble_eq_true rfl⟩ rfl rfl (Nat.le_of_ble_eq_true rfl) (Nat.le_of_ble_eq_true rfl) (Nat.le_of_ble_eq_true rfl) ?_
  rintro x3 _ _ ⟨o0x3, o1x3, p0x3, p1x3, rfl, rfl⟩
  have gx3 := rg x3
  try simp only [z_r0_0, z_r0_1, z_r0_2, z_r0_0_6, z_r0_0_7, z_r0_0_8, z_r0_0_9, z_r0_0_10] at p0x3
  try simp only [z_r0_0, z_r0_1, z_r0_2, z_r0_0_6, z_r0_0_7, z_r0_0_8, z_r0_0_9, z_r0_0_10] at p1x3
  try simp only [k0_r0_0_0] at p0x3
  try have q0x3 := congrArg Int32.toInt p0x3
  try simp only [k0_r0_0_0] at p1x3
  try have q1x3 := congrArg Int32.toInt p1x3
  have ho5 := p0x3; (try simp only [k0_r0_0_0] at ho5); have hb5 := p1x3; (try simp only [k0_r0_0_0] at hb5)
  refine k_istore C (lw := [(4, .int x3), (3, .int x1), (0, .ref r0), (1, .int n1), (2, .int n2)]) rfl rfl (Nat.le_of_ble_eq_true rfl) rfl ?_
  refine k_iload_n C rfl rfl rfl ?_
  have J4 : ∀ (nn5 : Nat) (x6 : Int32) (x9 : Int32) (x12 : Int32), (MN x12.toInt nn5) → (0 ≤ x6.toInt) → (x6.toInt ≤ 18) → (0 ≤ x9.toInt) → (x9.toInt ≤ 18) → (PWR w_r0_0_0.toInt x6.toInt x9.toInt x12.toInt (POW n1.toInt n2.toInt.toNat)) → (0 ≤ x6.toInt ∧ x6.toInt ≤ 18) → (0 ≤ x9.toInt ∧ x9.toInt ≤ 18) → (x6.toInt < w_r0_0_0.toInt) → V 13 [(0, .ref r0), (3, .int x6), (4, .int x9), (5, .int x12)] [] (T, N, I, L, R) 0 0 := by
    intro nn5
    induction nn5 using Nat.strongRecOn with
    | _ nn5 ihJ4 =>
      intro x6 x9 x12 hmnn5 b7 b8 b10 b11 ff13_0 ff13_1 ff13_2 ff13_3
      have gx6 := rg x6
      have gx9 := rg x9
      have gx12 := rg x12
      refine k_iload C rfl rfl rfl ?_
      refine b_if_le C (t := 57) rfl rfl rfl (fun c17 => ?_) (fun c17 => ?_)
      · skip
        refine k_iload_n C rfl rfl rfl ?_
        exact k_iret C rfl (Or.inl rfl) (Nat.le_of_ble_eq_true rfl) (Nat.le_of_ble_eq_true rfl) ⟨_, _, _, rfl, rfl, by omega, by omega, by (try simp only [z_r0_0, z_r0_1, z_r0_2, z_r0_0_6, z_r0_0_7, z_r0_0_8, z_r0_0_9, z_r0_0_10]); simp only [k0_r0_0_0]; exact ff13_0.e (by omega), by (try simp only [z_r0_0, z_r0_1, z_r0_2, z_r0_0_6, z_r0_0_7, z_r0_0_8, z_r0_0_9, z_r0_0_10]); simp only [k0_r0_0_0]; omega, rfl, rfl⟩
      refine k_iload C rfl rfl rfl ?_
      refine z_iconst C (z := 1) rfl rfl rfl (fun x18 ex18 => ?_)
      refine z_iand1 C rfl rfl (by omega) (by omega) (fun x19 ex19 => ?_)
      have gx19 := rg x19
      refine z_iconst C (z := 1) rfl rfl rfl (fun x20 ex20 => ?_)
      refine b_icmp_ne C (t := 36) rfl rfl rfl (fun c21 => ?_) (fun c21 => ?_)
      · skip
        refine k_aload_n C rfl rfl rfl ?_
        refine k_iload C rfl rfl rfl ?_
        refine k_iload C rfl rfl rfl ?_
        refine z_imulN C rfl rfl (fun x22 hm41 => ?_)
        have gx22 := rg x22
        have mm41 := hm41.2
        clear hm41
        refine z_i2l C rfl rfl (fun lg23 elg23 => ?_)
        have hl43 := elg23
        refine c_VI C (s_X0_of_x hS hI H_r0) rfl rfl rfl rfl rfl ⟨_, rfl, rfl, T_r0, Nat.le_of_ble_eq_true rfl⟩ rfl rfl (Nat.le_of_ble_eq_true rfl) (Nat.le_of_ble_eq_true rfl) (Nat.le_of_ble_eq_true rfl) ?_
        rintro x24 _ _ ⟨o0x24, o1x24, p0x24, p1x24, rfl, rfl⟩
        have gx24 := rg x24
        try simp only [z_r0_0, z_r0_1, z_r0_2, z_r0_0_6, z_r0_0_7, z_r0_0_8, z_r0_0_9, z_r0_0_10] at p0x24
        try simp only [z_r0_0, z_r0_1, z_r0_2, z_r0_0_6, z_r0_0_7, z_r0_0_8, z_r0_0_9, z_r0_0_10] at p1x24
        try simp only [k0_r0_0_0] at p0x24
        try have q0x24 := congrArg Int32.toInt p0x24
        try simp only [k0_r0_0_0] at p1x24
        try have q1x24 := congrArg Int32.toInt p1x24
        have ho43 := p0x24; (try simp only [k0_r0_0_0] at ho43)
        refine k_istore C (lw := [(4, .int x24), (0, .ref r0), (3, .int x6), (5, .int x12)]) rfl rfl (Nat.le_of_ble_eq_true rfl) rfl ?_
        refine k_iload C rfl rfl rfl ?_
        refine z_iconst C (z := 1) rfl rfl rfl (fun x25 ex25 => ?_)
        refine z_ishr1 C rfl rfl (by omega) (by omega) (fun x26 ex26 => ?_)
        refine k_istore C (lw := [(5, .int x26), (4, .int x24), (0, .ref r0), (3, .int x6)]) rfl rfl (Nat.le_of_ble_eq_true rfl) rfl ?_
        refine k_goto C (pc2 := 13) rfl rfl ?_
        refine k_sub S [(0, .ref r0), (3, .int x6), (4, .int x24), (5, .int x26)] (List.forall_mem_cons.mpr ⟨List.mem_of_getElem? (i := 2) rfl, List.forall_mem_cons.mpr ⟨List.mem_of_getElem? (i := 3) rfl, List.forall_mem_cons.mpr ⟨List.mem_of_getElem? (i := 1) rfl, List.forall_mem_cons.mpr ⟨List.mem_of_getElem? (i := 0) rfl, fun _ h => nomatch h⟩⟩⟩⟩) ?_
        exact ihJ4 _ (MN.lt hmnn5 (by omega) (by omega)) x6 x24 x26 rfl (by omega) (by omega) (by omega) (by omega) (by first | exact PWR.s1 ff13_0 mm30 mm41 hl32 hl43 ho32 ho43 (by omega) (by omega) (by omega) (by omega) (by omega) | exact PWR.s0 ff13_0 mm41 hl43 ho43 (by omega) (by omega) (by omega) (by omega)) (by omega) (by omega) (by omega)
      refine k_aload_n C rfl rfl rfl ?_
      refine k_iload_n C rfl rfl rfl ?_
      refine k_iload C rfl rfl rfl ?_
      refine z_imulN C rfl rfl (fun x27 hm30 => ?_)
      have gx27 := rg x27
      have mm30 := hm30.2
      clear hm30
      refine z_i2l C rfl rfl (fun lg28 elg28 => ?_)
      have hl32 := elg28
      refine c_VI C (s_X0_of_x hS hI H_r0) rfl rfl rfl rfl rfl ⟨_, rfl, rfl, T_r0, Nat.le_of_ble_eq_true rfl⟩ rfl rfl (Nat.le_of_ble_eq_true rfl) (Nat.le_of_ble_eq_true rfl) (Nat.le_of_ble_eq_true rfl) ?_
      rintro x29 _ _ ⟨o0x29, o1x29, p0x29, p1x29, rfl, rfl⟩
      have gx29 := rg x29
      try simp only [z_r0_0, z_r0_1, z_r0_2, z_r0_0_6, z_r0_0_7, z_r0_0_8, z_r0_0_9, z_r0_0_10] at p0x29
      try simp only [z_r0_0, z_r0_1, z_r0_2, z_r0_0_6, z_r0_0_7, z_r0_0_8, z_r0_0_9, z_r0_0_10] at p1x29
      try simp only [k0_r0_0_0] at p0x29
      try have q0x29 := congrArg Int32.toInt p0x29
      try simp only [k0_r0_0_0] at p1x29
      try have q1x29 := congrArg Int32.toInt p1x29
      have ho32 := p0x29; (try simp only [k0_r0_0_0] at ho32)
      refine k_istore_n C (lw := [(3, .int x29), (0, .ref r0), (4, .int x9), (5, .int x12)]) rfl rfl (Nat.le_of_ble_eq_true rfl) rfl ?_
      refine k_aload_n C rfl rfl rfl ?_
      refine k_iload C rfl rfl rfl ?_
      refine k_iload C rfl rfl rfl ?_
      refine z_imulN C rfl rfl (fun x30 hm41 => ?_)
      have gx30 := rg x30
      have mm41 := hm41.2
      clear hm41
      refine z_i2l C rfl rfl (fun lg31 elg31 => ?_)
      have hl43 := elg31
      refine c_VI C (s_X0_of_x hS hI H_r0) rfl rfl rfl rfl rfl ⟨_, rfl, rfl, T_r0, Nat.le_of_ble_eq_true rfl⟩ rfl rfl (Nat.le_of_ble_eq_true rfl) (Nat.le_of_ble_eq_true rfl) (Nat.le_of_ble_eq_true rfl) ?_
      rintro x32 _ _ ⟨o0x32, o1x32, p0x32, p1x32, rfl, rfl⟩
      have gx32 := rg x32
      try simp only [z_r0_0, z_r0_1, z_r0_2, z_r0_0_6, z_r0_0_7, z_r0_0_8, z_r0_0_9, z_r0_0_10] at p0x32
      try simp only [z_r0_0, z_r0_1, z_r0_2, z_r0_0_6, z_r0_0_7, z_r0_0_8, z_r0_0_9, z_r0_0_10] at p1x32
      try simp only [k0_r0_0_0] at p0x32
      try have q0x32 := congrArg Int32.toInt p0x32
      try simp only [k0_r0_0_0] at p1x32
      try have q1x32 := congrArg Int32.toInt p1x32
      have ho43 := p0x32; (try simp only [k0_r0_0_0] at ho43)
      refine k_istore C (lw := [(4, .int x32), (3, .int x29), (0, .ref r0), (5, .int x12)]) rfl rfl (Nat.le_of_ble_eq_true rfl) rfl ?_
      refine k_iload C rfl rfl rfl ?_
      refine z_iconst C (z := 1) rfl rfl rfl (fun x33 ex33 => ?_)
      refine z_ishr1 C rfl rfl (by omega) (by omega) (fun x34 ex34 => ?_)
      refine k_istore C (lw := [(5, .int x34), (4, .int x32), (3, .int x29), (0, .ref r0)]) rfl rfl (Nat.le_of_ble_eq_true rfl) rfl ?_
      refine k_goto C (pc2 := 13) rfl rfl ?_
      refine k_sub S [(0, .ref r0), (3, .int x29), (4, .int x32), (5, .int x34)] (List.forall_mem_cons.mpr ⟨List.mem_of_getElem? (i := 3) rfl, List.forall_mem_cons.mpr ⟨List.mem_of_getElem? (i := 2) rfl, List.forall_mem_cons.mpr ⟨List.mem_of_getElem? (i := 1) rfl, List.forall_mem_cons.mpr ⟨List.mem_of_getElem? (i := 0) rfl, fun _ h => nomatch h⟩⟩⟩⟩) ?_
      exact ihJ4 _ (MN.lt hmnn5 (by omega) (by omega)) x29 x32 x34 rfl (by omega) (by omega) (by omega) (by omega) (by first | exact PWR.s1 ff13_0 mm30 mm41 hl32 hl43 ho32 ho43 (by omega) (by omega) (by omega) (by omega) (by omega) | exact PWR.s0 ff13_0 mm41 hl43 ho43 (by omega) (by omega) (by omega) (by omega)) (by omega) (by omega) (by omega)
  refine k_istore C (lw := [(5, .int n2), (4, .int x3), (3, .int x1), (0, .ref r0), (1, .int n1), (2, .int n2)]) rfl rfl (Nat.le_of_ble_eq_true rfl) rfl ?_
  refine k_sub S [(0, .ref r0), (3, .int x1), (4, .int x3), (5, .int n2)] (List.forall_mem_cons.mpr ⟨List.mem_of_getElem? (i := 3) rfl, List.forall_mem_cons.mpr ⟨List.mem_of_getElem? (i := 2) rfl, List.forall_mem_cons.mpr ⟨List.mem_of_getElem? (i := 1) rfl, List.forall_mem_cons.mpr ⟨List.mem_of_getElem? (i := 0) rfl, fun _ h => nomatch h⟩⟩⟩⟩) ?_
  exact J4 _ x1 x3 n2 rfl (by omega) (by omega) (by omega) (by omega) (by exact PWR.z (by omega) (by rw [ho5, hl5]) rfl) (by omega) (by omega) (by omega)

