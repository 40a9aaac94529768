/-! tables told, joined, turned; the tape: exactly -/
theorem s_X0_detOf_x {d : Nat} {T N : Nat → Nat} {I : IT} {L : LT} {R : RT} {A B : Nat → Prop} {r0 : Nat} {n1 n2 n3 n4 : Int32} (hS : SUB B A) (hI : IX A T I) (H_r0 : (hs_Al T N R A B) r0) : Ex (d + 2) 6 [.ref r0, .int n1, .int n2, .int n3, .int n4] (T, N, I, L, R) 0 0 (pI T N R (fun x9 I9 L9 => (0 ≤ x9.toInt) ∧ (x9.toInt ≤ 18) ∧ (x9.toInt = dt (I (rA R r0 0) 0).toInt n1.toInt n2.toInt n3.toInt n4.toInt) ∧ (I = I9 ∧ L = L9))) := by
  obtain ⟨T_r, A_r, -, ⟨b, Rb, Hb⟩, -⟩ := H_r0
  have hp := (hI b Hb.2.1 0).2 Hb.1 rfl
  exact Ex_mono (fun o M h => by
    obtain ⟨x, I9, L9, h1, h2, h3, h4, h5⟩ := h
    have e5 := h5
    unfold dt at e5
    have h6 := Int.emod_nonneg ((n1.toInt % (I b 0).toInt) * (n4.toInt % (I b 0).toInt) - (n2.toInt % (I b 0).toInt) * (n3.toInt % (I b 0).toInt)) (show (I b 0).toInt ≠ 0 from by omega)
    have h7 := Int.emod_lt_of_pos ((n1.toInt % (I b 0).toInt) * (n4.toInt % (I b 0).toInt) - (n2.toInt % (I b 0).toInt) * (n3.toInt % (I b 0).toInt)) (show 0 < (I b 0).toInt from by omega)
    refine ⟨x, I9, L9, h1, h2, by omega, by omega, ?_, h3.symm, h4.symm⟩
    rw [rA_e Rb]; exact h5) (e_detOf T_r Rb Hb.1 rfl (by omega) (by omega))
def PRM (p : Int) : Prop := p = 11 ∨ p = 13 ∨ p = 17 ∨ p = 19
def INC (x n p : Int) : Prop := (0 ≤ x ∧ x < p) ∧ (0 ≤ n → n < p → n ≠ 0 → (n * x) % p = 1)
theorem INC.of {x n p k : Int} (hp : PRM p) (h : PmE p x (POW n k.toNat)) (hk : k = p - 2) (b : 0 ≤ x ∧ x < p) : INC x n p := by
  refine ⟨b, fun h0 h1 hn => ?_⟩
  obtain ⟨i, hi⟩ : ∃ i : Nat, n = (i : Int) := ⟨n.toNat, by omega⟩
  obtain ⟨q, hq⟩ : ∃ q : Nat, p = (q : Int) := ⟨p.toNat, by unfold PRM at hp; omega⟩
  unfold PRM at hp
  have h9 := POW.inv q (by have : q = 11 ∨ q = 13 ∨ q = 17 ∨ q = 19 := by omega
                           rcases this with r | r | r | r <;> subst r <;> decide) i (by omega) (by omega)
  have e : PmE p (n * x) (n * POW n k.toNat) := PmE.rf.ml h
  unfold PmE at e
  rw [e, hk, hi, hq, show ((q : Int) - 2).toNat = q - 2 from by omega]
  exact h9
theorem ad4 {w u v a b c d : Int32} (m1 : MXD u a b) (m2 : MXD v c d) (ad : ADX w u v) (ha : -18 ≤ a.toInt ∧ a.toInt ≤ 18) (hb : -18 ≤ b.toInt ∧ b.toInt ≤ 18) (hc : -18 ≤ c.toInt ∧ c.toInt ≤ 18) (hd : -18 ≤ d.toInt ∧ d.toInt ≤ 18) : w.toInt = a.toInt * b.toInt + c.toInt * d.toInt := by
  have q1 := m1 ha.1 ha.2 hb.1 hb.2
  have q2 := m2 hc.1 hc.2 hd.1 hd.2
  have r1 := mul_ab ha.1 ha.2 hb.1 hb.2
  have r2 := mul_ab hc.1 hc.2 hd.1 hd.2
  rw [ad (by omega) (by omega), q1, q2]
/-- the class's table turned: what it lays -/
def TBC (a' b' c' d' a b c d p : Int) : Prop := ∃ x, INC x (dt p a b c d) p ∧ a' = (d * x) % p ∧ b' = (-b * x) % p ∧ c' = (-c * x) % p ∧ d' = (a * x) % p
theorem mx2 {u a b : Int32} (m1 : MXD u a b) (ha : -18 ≤ a.toInt ∧ a.toInt ≤ 18) (hb : -18 ≤ b.toInt ∧ b.toInt ≤ 18) : u.toInt = a.toInt * b.toInt := m1 ha.1 ha.2 hb.1 hb.2
theorem TBC.of {p a b c d a' b' c' d' z : Int} {xa xb xc xd x u1 u2 u3 u4 m2 m3 : Int32} (hx : INC x.toInt z p) (hz : z = dt p a b c d) (h18 : p ≤ 19) (ea : xa.toInt = a) (eb : xb.toInt = b) (ec : xc.toInt = c) (ed : xd.toInt = d) (ba : 0 ≤ a ∧ a < p) (bb : 0 ≤ b ∧ b < p) (bc : 0 ≤ c ∧ c < p) (bd : 0 ≤ d ∧ d < p) (n2 : m2.toInt = -xb.toInt) (n3 : m3.toInt = -xc.toInt) (k1 : MXD u1 xd x) (k2 : MXD u2 m2 x) (k3 : MXD u3 m3 x) (k4 : MXD u4 xa x) (e1 : a' = u1.toInt % p) (e2 : b' = u2.toInt % p) (e3 : c' = u3.toInt % p) (e4 : d' = u4.toInt % p) : TBC a' b' c' d' a b c d p := by
  have hb := hx.1
  subst hz; subst ea; subst eb; subst ec; subst ed
  refine ⟨x.toInt, hx, ?_, ?_, ?_, ?_⟩
  · rw [e1, mx2 k1 ⟨by omega, by omega⟩ ⟨by omega, by omega⟩]
  · rw [e2, mx2 k2 ⟨by omega, by omega⟩ ⟨by omega, by omega⟩, n2]
  · rw [e3, mx2 k3 ⟨by omega, by omega⟩ ⟨by omega, by omega⟩, n3]
  · rw [e4, mx2 k4 ⟨by omega, by omega⟩ ⟨by omega, by omega⟩]
/-- a byte of a number -/
def USR (w x y : Int32) : Prop := (y.toInt = 0 ∨ y.toInt = 8 ∨ y.toInt = 16 ∨ y.toInt = 24) → w.toInt % 256 = x.toInt / 2 ^ y.toInt.toNat % 256
theorem usr_n {x y : Int32} : USR (x.toUInt32 >>> (y.toUInt32 &&& Int32.toUInt32 31)).toInt32 x y := fun h => by
  have lt := x.toBitVec.isLt
  have e1 : x.toInt = (x.toBitVec.toNat : Int) ∨ x.toInt = (x.toBitVec.toNat : Int) - 4294967296 := by
    rw [← Int32.toInt_toBitVec, BitVec.toInt_eq_toNat_cond]
    by_cases q : 2 * x.toBitVec.toNat < 2 ^ 32
    · rw [if_pos q]; exact Or.inl rfl
    · rw [if_neg q]; exact Or.inr rfl
  have gen : ∀ s : Nat, (y = Int32.ofNat s ∧ (s = 0 ∨ s = 8 ∨ s = 16 ∨ s = 24)) → ((x.toUInt32 >>> (y.toUInt32 &&& Int32.toUInt32 31)).toInt32.toBitVec.toNat = x.toBitVec.toNat / 2 ^ s) := by
    rintro s ⟨rfl, hs⟩
    have k : ((x.toUInt32 >>> ((Int32.ofNat s).toUInt32 &&& Int32.toUInt32 31)).toNat = x.toUInt32.toNat / 2 ^ s) := by
      rw [UInt32.toNat_shiftRight, Nat.shiftRight_eq_div_pow]
      rcases hs with rfl | rfl | rfl | rfl <;> rfl
    exact k
  have hy : ∃ s : Nat, y = Int32.ofNat s ∧ (s = 0 ∨ s = 8 ∨ s = 16 ∨ s = 24) := by
    rcases h with h | h | h | h
    · exact ⟨0, Int32.toInt_inj.mp h, by decide⟩
    · exact ⟨8, Int32.toInt_inj.mp h, by decide⟩
    · exact ⟨16, Int32.toInt_inj.mp h, by decide⟩
    · exact ⟨24, Int32.toInt_inj.mp h, by decide⟩
  obtain ⟨s, hs, hv⟩ := hy
  have g := gen s ⟨hs, hv⟩
  have es : y.toInt.toNat = s := by subst hs; rcases hv with rfl | rfl | rfl | rfl <;> rfl
  have e2 : (x.toUInt32 >>> (y.toUInt32 &&& Int32.toUInt32 31)).toInt32.toInt = ((x.toUInt32 >>> (y.toUInt32 &&& Int32.toUInt32 31)).toInt32.toBitVec.toNat : Int) ∨ (x.toUInt32 >>> (y.toUInt32 &&& Int32.toUInt32 31)).toInt32.toInt = ((x.toUInt32 >>> (y.toUInt32 &&& Int32.toUInt32 31)).toInt32.toBitVec.toNat : Int) - 4294967296 := by
    rw [← Int32.toInt_toBitVec, BitVec.toInt_eq_toNat_cond]
    by_cases q : 2 * (x.toUInt32 >>> (y.toUInt32 &&& Int32.toUInt32 31)).toInt32.toBitVec.toNat < 2 ^ 32
    · rw [if_pos q]; exact Or.inl rfl
    · rw [if_neg q]; exact Or.inr rfl
  rw [g] at e2
  rw [es]
  rcases hv with rfl | rfl | rfl | rfl
  · have f : ((x.toBitVec.toNat / 2 ^ 0 : Nat) : Int) = (x.toBitVec.toNat : Int) := by simp
    rw [f] at e2; rw [show (2 : Int) ^ 0 = 1 from rfl, Int.ediv_one]; omega
  · rw [show (2 : Nat) ^ 8 = 256 from rfl] at e2; rw [show (2 : Int) ^ 8 = 256 from rfl]; omega
  · rw [show (2 : Nat) ^ 16 = 65536 from rfl] at e2; rw [show (2 : Int) ^ 16 = 65536 from rfl]; omega
  · rw [show (2 : Nat) ^ 24 = 16777216 from rfl] at e2; rw [show (2 : Int) ^ 24 = 16777216 from rfl]; omega
theorem z_iushrX {d : Nat} {q : mm_T} {mc ms : Nat} {Post : Po} {V : V_T} {pc pc2 : Nat} {lv : List (Nat × Value)} {r : List Value} {ck sk : Nat} (C : Cl d q mc ms Post V) {M : Mm} {x y : Int32} (hi : cdf q.2.2.2.2.2.2 pc = some (.iushr, 1)) (hp : pc + 1 = pc2) (h : ∀ w : Int32, USR w x y → V pc2 lv (.int w :: r) M ck sk) : V pc lv (.int y :: .int x :: r) M ck sk := k_iushr C hi hp (h _ usr_n)
def PTD (b' b : Nat → Int32) (n : Nat) (v : Int) (k : Int) : Prop := (∀ j : Nat, (j : Int) < k → (b' (n + j)).toInt = BYT v j) ∧ ∀ j : Nat, (j < n ∨ n + k.toNat ≤ j) → b' j = b j
theorem PTD.z {I1 I : IT} {b n : Nat} {v k : Int} (h : I1 b = I b) (hk : k = 0) : PTD (I1 b) (I b) n v k := ⟨fun j hj => by omega, fun j _ => by rw [h]⟩
theorem PTD.s {I1 I2 I3 : IT} {b n : Nat} {t : Nat → Int32} {v j y w z : Int32} {k k' s : Int} (h : PTD (I1 b) t n v.toInt k) (u : I2 = u2 I1 b j.toNatClampNeg z) (hn : I3 b = I2 b) (hz : z.toInt = w.toInt % 256) (hw : USR w v y) (hs : y.toInt = s) (hk : s = 24 - 8 * k) (h0 : 0 ≤ k ∧ k ≤ 3) (hj : j.toInt = (n : Int) + k) (hk' : k' = k + 1) : PTD (I3 b) t n v.toInt k' := by
  have nj := ncz (x := j) (by omega)
  refine ⟨fun i hi => ?_, fun i hi => ?_⟩
  · rw [hn, u]
    by_cases q : i = k.toNat
    · subst q
      rw [show n + k.toNat = j.toNatClampNeg from by omega, u2_s, hz, hw (by omega)]
      unfold BYT
      rw [show y.toInt.toNat = 24 - 8 * k.toNat from by omega]
    · rw [u2_k (by omega)]; exact h.1 i (by omega)
  · rw [hn, u, u2_k (by omega)]; exact h.2 i (by omega)
/-- five numbers' bytes behind the others -/
def FDC (b' b : Nat → Int32) (n : Nat) (g : Nat → Int32) (m : Nat) : Prop := (∀ j : Nat, j < 4 * m → (b' (n + j)).toInt = BYT (g (j / 4)).toInt (j % 4)) ∧ ∀ j : Nat, (j < n ∨ n + 4 * m ≤ j) → b' j = b j
theorem FDC.z {b' b : Nat → Int32} {n : Nat} {g : Nat → Int32} (h : b' = b) : FDC b' b n g 0 := ⟨fun j hj => by omega, fun j _ => by rw [h]⟩
theorem FDC.s {b2 b1 b : Nat → Int32} {n m : Nat} {x : Int32} {g : Nat → Int32} {v : Int} (h : FDC b1 b n g m) (p : PTD b2 b1 x.toNatClampNeg v 4) (hn : x.toInt = (n : Int) + 4 * (m : Int)) (hv : v = (g m).toInt) : FDC b2 b n g (m + 1) := by
  subst hv
  have hn : x.toNatClampNeg = n + 4 * m := by have := ncz (x := x) (by omega); omega
  rw [hn] at p
  refine ⟨fun j hj => ?_, fun j hj => by rw [p.2 j (by omega)]; exact h.2 j (by omega)⟩
  by_cases q : j < 4 * m
  · rw [p.2 _ (by omega)]; exact h.1 j q
  · have e := p.1 (j - 4 * m) (by omega)
    rw [show n + 4 * m + (j - 4 * m) = n + j from by omega] at e
    rw [e, show j / 4 = m from by omega, show j % 4 = j - 4 * m from by omega]
theorem s_X0_inverse_x {d : Nat} {T N : Nat → Nat} {I : IT} {L : LT} {R : RT} {A B : Nat → Prop} {r0 : Nat} {n1 : Int32} (hS : SUB B A) (hI : IX A T I) (H_r0 : (hs_Al T N R A B) r0) (b0_n1 : 0 ≤ n1.toInt) (b1_n1 : n1.toInt ≤ 18) (hp0 : PRM (I (rA R r0 0) 0).toInt) : Ex (d + 3) 5 [.ref r0, .int n1] (T, N, I, L, R) 0 0 (pI T N R (fun x9 I9 L9 => (0 ≤ x9.toInt) ∧ (x9.toInt ≤ 18) ∧ (INC x9.toInt n1.toInt (I (rA R r0 0) 0).toInt) ∧ (I = I9 ∧ L = L9))) := by
  refine ⟨_, rfl, Nat.le_of_ble_eq_true rfl, fun V C S => ?_⟩
  show V 0 [(0, .ref r0), (1, .int n1)] [] (T, N, I, L, R) 0 0
  have gn1 := rg n1
  obtain ⟨T_r0, A_r0, B_r0, ⟨r0_0, R_r0_0, H_r0_0⟩, ⟨r0_1, R_r0_1, H_r0_1⟩, ⟨r0_2, R_r0_2, H_r0_2⟩⟩ := id H_r0
  have z_r0_0 : rA R r0 0 = r0_0 := rA_e R_r0_0
  have z_r0_1 : rA R r0 1 = r0_1 := rA_e R_r0_1
  have z_r0_2 : rA R r0 2 = r0_2 := rA_e R_r0_2
  obtain ⟨T_r0_0, A_r0_0, B_r0_0, ⟨r0_0_6, R_r0_0_6, H_r0_0_6⟩, ⟨r0_0_7, R_r0_0_7, H_r0_0_7⟩, ⟨r0_0_8, R_r0_0_8, H_r0_0_8⟩, ⟨r0_0_9, R_r0_0_9, H_r0_0_9⟩, ⟨r0_0_10, R_r0_0_10, H_r0_0_10⟩⟩ := id H_r0_0
  have z_r0_0_6 : rA R r0_0 6 = r0_0_6 := rA_e R_r0_0_6
  have z_r0_0_7 : rA R r0_0 7 = r0_0_7 := rA_e R_r0_0_7
  have z_r0_0_8 : rA R r0_0 8 = r0_0_8 := rA_e R_r0_0_8
  have z_r0_0_9 : rA R r0_0 9 = r0_0_9 := rA_e R_r0_0_9
  have z_r0_0_10 : rA R r0_0 10 = r0_0_10 := rA_e R_r0_0_10
  try simp only [z_r0_0, z_r0_1, z_r0_2, z_r0_0_6, z_r0_0_7, z_r0_0_8, z_r0_0_9, z_r0_0_10] at hp0
  obtain ⟨w_r0_0_0, k0_r0_0_0⟩ : ∃ x, I r0_0 0 = x := ⟨_, rfl⟩
  have gw_r0_0_0 := rg w_r0_0_0
  have ow_r0_0_0 := IX.p hI A_r0_0 T_r0_0 k0_r0_0_0
  try simp only [k0_r0_0_0] at hp0
  refine k_aload_n C rfl rfl rfl ?_
  refine k_iload_n C rfl rfl rfl ?_
  refine k_aload_n C rfl rfl rfl ?_
  refine g_R C rfl rfl rfl T_r0 rfl R_r0_0 ?_
  refine g_I C rfl rfl rfl T_r0_0 rfl k0_r0_0_0 ?_
  refine z_iconst C (z := 2) rfl rfl rfl (fun x1 ex1 => ?_)
  refine z_isub C rfl rfl ⟨by omega, by omega⟩ (fun x2 ex2 => ?_)
  refine c_VI C (s_X0_power_x hS hI H_r0 (by omega) (by omega)) rfl rfl rfl rfl rfl ⟨_, rfl, rfl, T_r0, Nat.le_of_ble_eq_true rfl⟩ rfl rfl (Nat.le_of_ble_eq_true rfl) (Nat.le_of_ble_eq_true rfl) (Nat.le_of_ble_eq_true rfl) ?_
  rintro x3 _ _ ⟨o0x3, o1x3, p0x3, p1x3, rfl, rfl⟩
  have gx3 := rg x3
  try simp only [z_r0_0, z_r0_1, z_r0_2, z_r0_0_6, z_r0_0_7, z_r0_0_8, z_r0_0_9, z_r0_0_10] at p0x3
  try simp only [z_r0_0, z_r0_1, z_r0_2, z_r0_0_6, z_r0_0_7, z_r0_0_8, z_r0_0_9, z_r0_0_10] at p1x3
  try simp only [k0_r0_0_0] at p0x3
  try have q0x3 := congrArg Int32.toInt p0x3
  try simp only [k0_r0_0_0] at p1x3
  try have q1x3 := congrArg Int32.toInt p1x3
  have hq := p0x3; have hb := p1x3; (try simp only [k0_r0_0_0] at hq); (try simp only [k0_r0_0_0] at hb)
  exact k_iret C rfl (Or.inl rfl) (Nat.le_of_ble_eq_true rfl) (Nat.le_of_ble_eq_true rfl) ⟨_, _, _, rfl, rfl, by omega, by omega, by (try simp only [z_r0_0, z_r0_1, z_r0_2, z_r0_0_6, z_r0_0_7, z_r0_0_8, z_r0_0_9, z_r0_0_10]); simp only [k0_r0_0_0] at hp0 ⊢; exact INC.of hp0 hq (by omega) (by omega), rfl, rfl⟩

theorem s_X11_table_x {d : Nat} {T N : Nat → Nat} {I : IT} {L : LT} {R : RT} {A B : Nat → Prop} {r0 : Nat} {n1 n2 n3 n4 : Int32} (hS : SUB B A) (hI : IX A T I) (H_r0 : (hs_LF T N R A B) r0) (hU : UPR T R) (hp0 : 0 ≤ (I (rA R r0 1) 2).toInt) (hp1 : (I (rA R r0 1) 2).toInt ≤ 8) (hp2 : rA R (rA R r0 5) 0 = (rA R r0 1)) : Ex (d + 3) 130 [.ref r0, .int n1, .int n2, .int n3, .int n4] (T, N, I, L, R) 1 6 (pW2 [0, 2] T N R (pI T N R (fun x9 I9 L9 => (dt (I (rA R r0 1) 0).toInt n1.toInt n2.toInt n3.toInt n4.toInt ≠ 0 ∧ (I (rA R r0 1) 2).toInt < 8 ∧ x9.toInt = (I (rA R r0 1) 2).toInt) ∧ ((I9 (rA R r0 1) 2).toInt = (I (rA R r0 1) 2).toInt + 1) ∧ ((I9 (TA R (rA R r0 1) (I (rA R r0 1) 2).toNatClampNeg) 0).toInt = n1.toInt % (I (rA R r0 1) 0).toInt) ∧ ((I9 (TA R (rA R r0 1) (I (rA R r0 1) 2).toNatClampNeg) 1).toInt = n2.toInt % (I (rA R r0 1) 0).toInt) ∧ ((I9 (TA R (rA R r0 1) (I (rA R r0 1) 2).toNatClampNeg) 2).toInt = n3.toInt % (I (rA R r0 1) 0).toInt) ∧ ((I9 (TA R (rA R r0 1) (I (rA R r0 1) 2).toNatClampNeg) 3).toInt = n4.toInt % (I (rA R r0 1) 0).toInt) ∧ (IX A T I9 ∧ Chg (fun a => a = (rA R r0 1) ∨ a = TA R (rA R r0 1) (I (rA R r0 1) 2).toNatClampNeg) T [(9, 2), (10, 0), (10, 1), (10, 2), (10, 3)] I L I9 L9))) (fun e9 I9 L9 => (IX A T I9 ∧ Chg (fun a => a = (rA R r0 1) ∨ a = TA R (rA R r0 1) (I (rA R r0 1) 2).toNatClampNeg) T [(9, 2), (10, 0), (10, 1), (10, 2), (10, 3)] I L I9 L9) ∧ (e9 = 0 → dt (I (rA R r0 1) 0).toInt n1.toInt n2.toInt n3.toInt n4.toInt = 0) ∧ (e9 = 0 → ∀ a k, I9 a k = I a k) ∧ (e9 = 2 → dt (I (rA R r0 1) 0).toInt n1.toInt n2.toInt n3.toInt n4.toInt ≠ 0 ∧ 8 ≤ (I (rA R r0 1) 2).toInt) ∧ (e9 = 2 → ∀ a k, I9 a k = I a k))) := by
  refine ⟨_, rfl, Nat.le_of_ble_eq_true rfl, fun V C S => ?_⟩
  show V 0 [(0, .ref r0), (1, .int n1), (2, .int n2), (3, .int n3), (4, .int n4)] [] (T, N, I, L, R) 0 0
  have gn1 := rg n1
  have gn2 := rg n2
  have gn3 := rg n3
  have gn4 := rg n4
  obtain ⟨T_r0, A_r0, B_r0, ⟨r0_0, R_r0_0, H_r0_0⟩, ⟨r0_1, R_r0_1, H_r0_1⟩, ⟨r0_2, R_r0_2, H_r0_2⟩, ⟨r0_5, R_r0_5, H_r0_5⟩, ⟨r0_6, R_r0_6, H_r0_6⟩, ⟨r0_7, R_r0_7, H_r0_7⟩, ⟨r0_8, R_r0_8, H_r0_8⟩, ⟨r0_9, R_r0_9, H_r0_9⟩, ⟨r0_10, R_r0_10, H_r0_10⟩, ⟨r0_11, R_r0_11, H_r0_11⟩, ⟨r0_12, R_r0_12, H_r0_12⟩, ⟨r0_13, R_r0_13, H_r0_13⟩⟩ := id H_r0
  have z_r0_0 : rA R r0 0 = r0_0 := rA_e R_r0_0
  have z_r0_1 : rA R r0 1 = r0_1 := rA_e R_r0_1
  have z_r0_2 : rA R r0 2 = r0_2 := rA_e R_r0_2
  have z_r0_5 : rA R r0 5 = r0_5 := rA_e R_r0_5
  have z_r0_6 : rA R r0 6 = r0_6 := rA_e R_r0_6
  have z_r0_7 : rA R r0 7 = r0_7 := rA_e R_r0_7
  have z_r0_8 : rA R r0 8 = r0_8 := rA_e R_r0_8
  have z_r0_9 : rA R r0 9 = r0_9 := rA_e R_r0_9
  have z_r0_10 : rA R r0 10 = r0_10 := rA_e R_r0_10
  have z_r0_11 : rA R r0 11 = r0_11 := rA_e R_r0_11
  have z_r0_12 : rA R r0 12 = r0_12 := rA_e R_r0_12
  have z_r0_13 : rA R r0 13 = r0_13 := rA_e R_r0_13
  obtain ⟨T_r0_1, A_r0_1, B_r0_1, ⟨r0_1_6, R_r0_1_6, H_r0_1_6⟩, ⟨r0_1_7, R_r0_1_7, H_r0_1_7⟩, ⟨r0_1_8, R_r0_1_8, H_r0_1_8⟩, ⟨r0_1_9, R_r0_1_9, H_r0_1_9⟩, ⟨r0_1_10, R_r0_1_10, H_r0_1_10⟩⟩ := id H_r0_1
  have z_r0_1_6 : rA R r0_1 6 = r0_1_6 := rA_e R_r0_1_6
  have z_r0_1_7 : rA R r0_1 7 = r0_1_7 := rA_e R_r0_1_7
  have z_r0_1_8 : rA R r0_1 8 = r0_1_8 := rA_e R_r0_1_8
  have z_r0_1_9 : rA R r0_1 9 = r0_1_9 := rA_e R_r0_1_9
  have z_r0_1_10 : rA R r0_1 10 = r0_1_10 := rA_e R_r0_1_10
  obtain ⟨T_r0_5, A_r0_5, B_r0_5, ⟨r0_5_0, R_r0_5_0, H_r0_5_0⟩, ⟨r0_5_1, R_r0_5_1, H_r0_5_1⟩, ⟨r0_5_2, R_r0_5_2, H_r0_5_2⟩⟩ := id H_r0_5
  have z_r0_5_0 : rA R r0_5 0 = r0_5_0 := rA_e R_r0_5_0
  have z_r0_5_1 : rA R r0_5 1 = r0_5_1 := rA_e R_r0_5_1
  have z_r0_5_2 : rA R r0_5 2 = r0_5_2 := rA_e R_r0_5_2
  obtain ⟨T_r0_5_0, A_r0_5_0, B_r0_5_0, ⟨r0_5_0_6, R_r0_5_0_6, H_r0_5_0_6⟩, ⟨r0_5_0_7, R_r0_5_0_7, H_r0_5_0_7⟩, ⟨r0_5_0_8, R_r0_5_0_8, H_r0_5_0_8⟩, ⟨r0_5_0_9, R_r0_5_0_9, H_r0_5_0_9⟩, ⟨r0_5_0_10, R_r0_5_0_10, H_r0_5_0_10⟩⟩ := id H_r0_5_0
  have z_r0_5_0_6 : rA R r0_5_0 6 = r0_5_0_6 := rA_e R_r0_5_0_6
  have z_r0_5_0_7 : rA R r0_5_0 7 = r0_5_0_7 := rA_e R_r0_5_0_7
  have z_r0_5_0_8 : rA R r0_5_0 8 = r0_5_0_8 := rA_e R_r0_5_0_8
  have z_r0_5_0_9 : rA R r0_5_0 9 = r0_5_0_9 := rA_e R_r0_5_0_9
  have z_r0_5_0_10 : rA R r0_5_0 10 = r0_5_0_10 := rA_e R_r0_5_0_10
  obtain ⟨T_r0_1_9, N_r0_1_9, A_r0_1_9, E_r0_1_9⟩ := id H_r0_1_9
  have hG := GS.of H_r0_1
  try simp only [z_r0_0, z_r0_1, z_r0_2, z_r0_5, z_r0_6, z_r0_7, z_r0_8, z_r0_9, z_r0_10, z_r0_11, z_r0_12, z_r0_13, z_r0_1_6, z_r0_1_7, z_r0_1_8, z_r0_1_9, z_r0_1_10, z_r0_5_0, z_r0_5_1, z_r0_5_2, z_r0_5_0_6, z_r0_5_0_7, z_r0_5_0_8, z_r0_5_0_9, z_r0_5_0_10] at hp0
  try simp only [z_r0_0, z_r0_1, z_r0_2, z_r0_5, z_r0_6, z_r0_7, z_r0_8, z_r0_9, z_r0_10, z_r0_11, z_r0_12, z_r0_13, z_r0_1_6, z_r0_1_7, z_r0_1_8, z_r0_1_9, z_r0_1_10, z_r0_5_0, z_r0_5_1, z_r0_5_2, z_r0_5_0_6, z_r0_5_0_7, z_r0_5_0_8, z_r0_5_0_9, z_r0_5_0_10] at hp1
  try simp only [z_r0_0, z_r0_1, z_r0_2, z_r0_5, z_r0_6, z_r0_7, z_r0_8, z_r0_9, z_r0_10, z_r0_11, z_r0_12, z_r0_13, z_r0_1_6, z_r0_1_7, z_r0_1_8, z_r0_1_9, z_r0_1_10, z_r0_5_0, z_r0_5_1, z_r0_5_2, z_r0_5_0_6, z_r0_5_0_7, z_r0_5_0_8, z_r0_5_0_9, z_r0_5_0_10] at hp2
  obtain ⟨w_r0_1_0, k0_r0_1_0⟩ : ∃ x, I r0_1 0 = x := ⟨_, rfl⟩
  have gw_r0_1_0 := rg w_r0_1_0
  have ow_r0_1_0 := IX.p hI A_r0_1 T_r0_1 k0_r0_1_0
  obtain ⟨w_r0_1_2, k0_r0_1_2⟩ : ∃ x, I r0_1 2 = x := ⟨_, rfl⟩
  have gw_r0_1_2 := rg w_r0_1_2
  try simp only [k0_r0_1_0, k0_r0_1_2] at hp0
  try simp only [k0_r0_1_0, k0_r0_1_2] at hp1
  try simp only [k0_r0_1_0, k0_r0_1_2] at hp2
  refine k_aload_n C rfl rfl rfl ?_
  refine g_R C rfl rfl rfl T_r0 rfl R_r0_5 ?_
  refine k_iload_n C rfl rfl rfl ?_
  refine k_iload_n C rfl rfl rfl ?_
  refine k_iload_n C rfl rfl rfl ?_
  refine k_iload C rfl rfl rfl ?_
  refine c_VI C (s_X0_detOf_x hS hI H_r0_5) rfl rfl rfl rfl rfl ⟨_, rfl, rfl, T_r0_5, Nat.le_of_ble_eq_true rfl⟩ rfl rfl (Nat.le_of_ble_eq_true rfl) (Nat.le_of_ble_eq_true rfl) (Nat.le_of_ble_eq_true rfl) ?_
  rintro x1 _ _ ⟨o0x1, o1x1, p0x1, rfl, rfl⟩
  have gx1 := rg x1
  try simp only [z_r0_0, z_r0_1, z_r0_2, z_r0_5, z_r0_6, z_r0_7, z_r0_8, z_r0_9, z_r0_10, z_r0_11, z_r0_12, z_r0_13, z_r0_1_6, z_r0_1_7, z_r0_1_8, z_r0_1_9, z_r0_1_10, z_r0_5_0, z_r0_5_1, z_r0_5_2, z_r0_5_0_6, z_r0_5_0_7, z_r0_5_0_8, z_r0_5_0_9, z_r0_5_0_10] at p0x1
  try simp only [k0_r0_1_0, k0_r0_1_2] at p0x1
  try have q0x1 := congrArg Int32.toInt p0x1
  have hdt := p0x1; rw [hp2] at hdt; (try simp only [k0_r0_1_0] at hdt)
  refine b_if_ne C (t := 23) rfl rfl rfl (fun c2 => ?_) (fun c2 => ?_)
  · skip
    refine k_aload_n C rfl rfl rfl ?_
    refine g_R C rfl rfl rfl T_r0 rfl R_r0_1 ?_
    refine c_VR C (s_X8_nextTable_x hS hI H_r0_1 (by first | omega | (simp only [k0_r0_1_0, k0_r0_1_2, and_true, true_and, or_true, true_or, and_false, false_and, or_false, false_or] <;> omega))) rfl rfl rfl rfl rfl ⟨_, rfl, rfl, T_r0_1, Nat.le_of_ble_eq_true rfl⟩ rfl rfl (Nat.le_of_ble_eq_true rfl) (Nat.le_of_ble_eq_true rfl) (Nat.le_of_ble_eq_true rfl) ?_
    rintro yy3 I4 L5 ⟨hyy3, p0yy3, hI4, S6⟩
    try simp only [z_r0_0, z_r0_1, z_r0_2, z_r0_5, z_r0_6, z_r0_7, z_r0_8, z_r0_9, z_r0_10, z_r0_11, z_r0_12, z_r0_13, z_r0_1_6, z_r0_1_7, z_r0_1_8, z_r0_1_9, z_r0_1_10, z_r0_5_0, z_r0_5_1, z_r0_5_2, z_r0_5_0_6, z_r0_5_0_7, z_r0_5_0_8, z_r0_5_0_9, z_r0_5_0_10] at S6
    have e7 := Chg.k S6 T_r0_1 (by decide) (by decide) k0_r0_1_0
    obtain ⟨x8, e9⟩ : ∃ x, I4 r0_1 2 = x := ⟨_, rfl⟩
    have gx8 := rg x8
    try simp only [z_r0_0, z_r0_1, z_r0_2, z_r0_5, z_r0_6, z_r0_7, z_r0_8, z_r0_9, z_r0_10, z_r0_11, z_r0_12, z_r0_13, z_r0_1_6, z_r0_1_7, z_r0_1_8, z_r0_1_9, z_r0_1_10, z_r0_5_0, z_r0_5_1, z_r0_5_2, z_r0_5_0_6, z_r0_5_0_7, z_r0_5_0_8, z_r0_5_0_9, z_r0_5_0_10] at p0yy3
    try simp only [k0_r0_1_0, k0_r0_1_2, e9] at p0yy3
    try have q0yy3 := congrArg Int32.toInt p0yy3
    have hnt := p0yy3; have hNS := S6
    refine k_astoreV C (x := yy3) (lw := [(5, va_rf yy3), (0, .ref r0), (1, .int n1), (2, .int n2), (3, .int n3), (4, .int n4)]) rfl rfl (Nat.le_of_ble_eq_true rfl) rfl ?_
    refine k_aloadV C (x := yy3) rfl rfl rfl ?_
    refine k_ifnonnull C (x := yy3) (t := 45) rfl rfl rfl (fun c10 => ?_) (fun rr11 c10 => ?_)
    · skip
      subst c10
      have hnx := NXD.no hnt E_r0_1_9 (by omega)
      exact k_throw C rfl rfl rfl rfl rfl rfl (Nat.le_of_ble_eq_true rfl) (Nat.le_of_ble_eq_true rfl) (Nat.le_of_ble_eq_true rfl) (Or.inr ⟨_, _, _, (by decide : 2 ∈ [0, 2]), rfl, rfl, ⟨⟨hI4, (by (try simp only [z_r0_0, z_r0_1, z_r0_2, z_r0_5, z_r0_6, z_r0_7, z_r0_8, z_r0_9, z_r0_10, z_r0_11, z_r0_12, z_r0_13, z_r0_1_6, z_r0_1_7, z_r0_1_8, z_r0_1_9, z_r0_1_10, z_r0_5_0, z_r0_5_1, z_r0_5_2, z_r0_5_0_6, z_r0_5_0_7, z_r0_5_0_8, z_r0_5_0_9, z_r0_5_0_10]); exact (Chg.mono (Chg.up S6 (sl_1 (Or.inl rfl))) (by decide)))⟩, (fun h9 => absurd h9 (by decide)), (fun h9 => absurd h9 (by decide)), (fun _ => by simp only [z_r0_0, z_r0_1, z_r0_2, z_r0_5, z_r0_6, z_r0_7, z_r0_8, z_r0_9, z_r0_10, z_r0_11, z_r0_12, z_r0_13, z_r0_1_6, z_r0_1_7, z_r0_1_8, z_r0_1_9, z_r0_1_10, z_r0_5_0, z_r0_5_1, z_r0_5_2, z_r0_5_0_6, z_r0_5_0_7, z_r0_5_0_8, z_r0_5_0_9, z_r0_5_0_10, k0_r0_1_0, k0_r0_1_2]; rw [← hdt]; exact ⟨by omega, by omega⟩), (fun _ => by exact EXC0 hNS T_r0_1 (by rw [e9, k0_r0_1_2]; exact (hnt.2 hnx).2))⟩⟩)
    subst c10
    have H_rr11 := hyy3 rr11 rfl
    have hnx := NXD.yes hnt (by omega); have oN := TA_e z_r0_1_9 hnx.2.1; have tN := H_rr11.1
    refine k_aload_n C rfl rfl rfl ?_
    refine g_R C rfl rfl rfl T_r0 rfl R_r0_5 ?_
    refine k_aload C rfl rfl rfl ?_
    refine k_iload_n C rfl rfl rfl ?_
    refine k_iload_n C rfl rfl rfl ?_
    refine k_iload_n C rfl rfl rfl ?_
    refine k_iload C rfl rfl rfl ?_
    have hk56 := e7
    obtain ⟨T_rr11, A_rr11, B_rr11⟩ := id H_rr11
    refine c_VV C (s_X0_fill_x hS hI4 H_r0_5 H_rr11) rfl rfl rfl rfl rfl ⟨_, rfl, rfl, T_r0_5, Nat.le_of_ble_eq_true rfl⟩ rfl rfl (Nat.le_of_ble_eq_true rfl) (Nat.le_of_ble_eq_true rfl) (Nat.le_of_ble_eq_true rfl) ?_
    rintro I13 L14 ⟨p0v12, p1v12, p2v12, p3v12, hI13, S15⟩
    try simp only [z_r0_0, z_r0_1, z_r0_2, z_r0_5, z_r0_6, z_r0_7, z_r0_8, z_r0_9, z_r0_10, z_r0_11, z_r0_12, z_r0_13, z_r0_1_6, z_r0_1_7, z_r0_1_8, z_r0_1_9, z_r0_1_10, z_r0_5_0, z_r0_5_1, z_r0_5_2, z_r0_5_0_6, z_r0_5_0_7, z_r0_5_0_8, z_r0_5_0_9, z_r0_5_0_10] at S15
    have e16 := Chg.k S15 T_r0_1 (by decide) (by decide) e7
    have e17 := Chg.k S15 T_r0_1 (by decide) (by decide) e9
    try simp only [z_r0_0, z_r0_1, z_r0_2, z_r0_5, z_r0_6, z_r0_7, z_r0_8, z_r0_9, z_r0_10, z_r0_11, z_r0_12, z_r0_13, z_r0_1_6, z_r0_1_7, z_r0_1_8, z_r0_1_9, z_r0_1_10, z_r0_5_0, z_r0_5_1, z_r0_5_2, z_r0_5_0_6, z_r0_5_0_7, z_r0_5_0_8, z_r0_5_0_9, z_r0_5_0_10] at p0v12
    try simp only [z_r0_0, z_r0_1, z_r0_2, z_r0_5, z_r0_6, z_r0_7, z_r0_8, z_r0_9, z_r0_10, z_r0_11, z_r0_12, z_r0_13, z_r0_1_6, z_r0_1_7, z_r0_1_8, z_r0_1_9, z_r0_1_10, z_r0_5_0, z_r0_5_1, z_r0_5_2, z_r0_5_0_6, z_r0_5_0_7, z_r0_5_0_8, z_r0_5_0_9, z_r0_5_0_10] at p1v12
    try simp only [z_r0_0, z_r0_1, z_r0_2, z_r0_5, z_r0_6, z_r0_7, z_r0_8, z_r0_9, z_r0_10, z_r0_11, z_r0_12, z_r0_13, z_r0_1_6, z_r0_1_7, z_r0_1_8, z_r0_1_9, z_r0_1_10, z_r0_5_0, z_r0_5_1, z_r0_5_2, z_r0_5_0_6, z_r0_5_0_7, z_r0_5_0_8, z_r0_5_0_9, z_r0_5_0_10] at p2v12
    try simp only [z_r0_0, z_r0_1, z_r0_2, z_r0_5, z_r0_6, z_r0_7, z_r0_8, z_r0_9, z_r0_10, z_r0_11, z_r0_12, z_r0_13, z_r0_1_6, z_r0_1_7, z_r0_1_8, z_r0_1_9, z_r0_1_10, z_r0_5_0, z_r0_5_1, z_r0_5_2, z_r0_5_0_6, z_r0_5_0_7, z_r0_5_0_8, z_r0_5_0_9, z_r0_5_0_10] at p3v12
    try simp only [e7, e9] at p0v12
    try have q0v12 := congrArg Int32.toInt p0v12
    try simp only [e7, e9] at p1v12
    try have q1v12 := congrArg Int32.toInt p1v12
    try simp only [e7, e9] at p2v12
    try have q2v12 := congrArg Int32.toInt p2v12
    try simp only [e7, e9] at p3v12
    try have q3v12 := congrArg Int32.toInt p3v12
    have hs0 := p0v12; have hs1 := p1v12; have hs2 := p2v12; have hs3 := p3v12; rw [hp2, hk56] at hs0 hs1 hs2 hs3
    refine k_aload_n C rfl rfl rfl ?_
    refine g_R C rfl rfl rfl T_r0 rfl R_r0_1 ?_
    refine g_I C rfl rfl rfl T_r0_1 rfl e17 ?_
    refine z_iconst C (z := 1) rfl rfl rfl (fun x18 ex18 => ?_)
    refine z_isub C rfl rfl ⟨by omega, by omega⟩ (fun x19 ex19 => ?_)
    exact k_iret C rfl (Or.inl rfl) (Nat.le_of_ble_eq_true rfl) (Nat.le_of_ble_eq_true rfl) (Or.inl ⟨_, _, _, rfl, rfl, by (try simp only [z_r0_0, z_r0_1, z_r0_2, z_r0_5, z_r0_6, z_r0_7, z_r0_8, z_r0_9, z_r0_10, z_r0_11, z_r0_12, z_r0_13, z_r0_1_6, z_r0_1_7, z_r0_1_8, z_r0_1_9, z_r0_1_10, z_r0_5_0, z_r0_5_1, z_r0_5_2, z_r0_5_0_6, z_r0_5_0_7, z_r0_5_0_8, z_r0_5_0_9, z_r0_5_0_10]); simp only [k0_r0_1_0, k0_r0_1_2]; rw [← hdt]; exact ⟨by omega, by omega, by omega⟩, by (try simp only [z_r0_0, z_r0_1, z_r0_2, z_r0_5, z_r0_6, z_r0_7, z_r0_8, z_r0_9, z_r0_10, z_r0_11, z_r0_12, z_r0_13, z_r0_1_6, z_r0_1_7, z_r0_1_8, z_r0_1_9, z_r0_1_10, z_r0_5_0, z_r0_5_1, z_r0_5_2, z_r0_5_0_6, z_r0_5_0_7, z_r0_5_0_8, z_r0_5_0_9, z_r0_5_0_10]); rw [e17]; simp only [k0_r0_1_2]; omega, by (try simp only [z_r0_0, z_r0_1, z_r0_2, z_r0_5, z_r0_6, z_r0_7, z_r0_8, z_r0_9, z_r0_10, z_r0_11, z_r0_12, z_r0_13, z_r0_1_6, z_r0_1_7, z_r0_1_8, z_r0_1_9, z_r0_1_10, z_r0_5_0, z_r0_5_1, z_r0_5_2, z_r0_5_0_6, z_r0_5_0_7, z_r0_5_0_8, z_r0_5_0_9, z_r0_5_0_10]); rw [k0_r0_1_2, oN, k0_r0_1_0]; exact hs0, by (try simp only [z_r0_0, z_r0_1, z_r0_2, z_r0_5, z_r0_6, z_r0_7, z_r0_8, z_r0_9, z_r0_10, z_r0_11, z_r0_12, z_r0_13, z_r0_1_6, z_r0_1_7, z_r0_1_8, z_r0_1_9, z_r0_1_10, z_r0_5_0, z_r0_5_1, z_r0_5_2, z_r0_5_0_6, z_r0_5_0_7, z_r0_5_0_8, z_r0_5_0_9, z_r0_5_0_10]); rw [k0_r0_1_2, oN, k0_r0_1_0]; exact hs1, by (try simp only [z_r0_0, z_r0_1, z_r0_2, z_r0_5, z_r0_6, z_r0_7, z_r0_8, z_r0_9, z_r0_10, z_r0_11, z_r0_12, z_r0_13, z_r0_1_6, z_r0_1_7, z_r0_1_8, z_r0_1_9, z_r0_1_10, z_r0_5_0, z_r0_5_1, z_r0_5_2, z_r0_5_0_6, z_r0_5_0_7, z_r0_5_0_8, z_r0_5_0_9, z_r0_5_0_10]); rw [k0_r0_1_2, oN, k0_r0_1_0]; exact hs2, by (try simp only [z_r0_0, z_r0_1, z_r0_2, z_r0_5, z_r0_6, z_r0_7, z_r0_8, z_r0_9, z_r0_10, z_r0_11, z_r0_12, z_r0_13, z_r0_1_6, z_r0_1_7, z_r0_1_8, z_r0_1_9, z_r0_1_10, z_r0_5_0, z_r0_5_1, z_r0_5_2, z_r0_5_0_6, z_r0_5_0_7, z_r0_5_0_8, z_r0_5_0_9, z_r0_5_0_10]); rw [k0_r0_1_2, oN, k0_r0_1_0]; exact hs3, hI13, (by (try simp only [z_r0_0, z_r0_1, z_r0_2, z_r0_5, z_r0_6, z_r0_7, z_r0_8, z_r0_9, z_r0_10, z_r0_11, z_r0_12, z_r0_13, z_r0_1_6, z_r0_1_7, z_r0_1_8, z_r0_1_9, z_r0_1_10, z_r0_5_0, z_r0_5_1, z_r0_5_2, z_r0_5_0_6, z_r0_5_0_7, z_r0_5_0_8, z_r0_5_0_9, z_r0_5_0_10]); exact (Chg.cons (Chg.up S6 (sl_1 (Or.inl rfl))) (Chg.mono (Chg.up S15 (sl_1 (Or.inr (by rw [k0_r0_1_2, oN])))) (by decide)) (by decide)))⟩)
  exact k_throw C rfl rfl rfl rfl rfl rfl (Nat.le_of_ble_eq_true rfl) (Nat.le_of_ble_eq_true rfl) (Nat.le_of_ble_eq_true rfl) (Or.inr ⟨_, _, _, (by decide : 0 ∈ [0, 2]), rfl, rfl, ⟨⟨hI, (by (try simp only [z_r0_0, z_r0_1, z_r0_2, z_r0_5, z_r0_6, z_r0_7, z_r0_8, z_r0_9, z_r0_10, z_r0_11, z_r0_12, z_r0_13, z_r0_1_6, z_r0_1_7, z_r0_1_8, z_r0_1_9, z_r0_1_10, z_r0_5_0, z_r0_5_1, z_r0_5_2, z_r0_5_0_6, z_r0_5_0_7, z_r0_5_0_8, z_r0_5_0_9, z_r0_5_0_10]); exact Chg.rf)⟩, (fun _ => by simp only [z_r0_0, z_r0_1, z_r0_2, z_r0_5, z_r0_6, z_r0_7, z_r0_8, z_r0_9, z_r0_10, z_r0_11, z_r0_12, z_r0_13, z_r0_1_6, z_r0_1_7, z_r0_1_8, z_r0_1_9, z_r0_1_10, z_r0_5_0, z_r0_5_1, z_r0_5_2, z_r0_5_0_6, z_r0_5_0_7, z_r0_5_0_8, z_r0_5_0_9, z_r0_5_0_10, k0_r0_1_0]; rw [← hdt]; omega), (fun _ => by exact fun _ _ => rfl), (fun h9 => absurd h9 (by decide)), (fun h9 => absurd h9 (by decide))⟩⟩)

theorem s_X11_join_x {d : Nat} {T N : Nat → Nat} {I : IT} {L : LT} {R : RT} {A B : Nat → Prop} {r0 : Nat} {n1 n2 : Int32} (hS : SUB B A) (hI : IX A T I) (H_r0 : (hs_LF T N R A B) r0) (hU : UPR T R) (hp0 : 0 ≤ (I (rA R r0 1) 2).toInt) (hp1 : (I (rA R r0 1) 2).toInt ≤ 8) (hp2 : rA R (rA R r0 5) 0 = (rA R r0 1)) (hp3 : ∀ j : Nat, (j : Int) < (I (rA R r0 1) 2).toInt → ∀ k : Nat, k < 4 → 0 ≤ (I (TA R (rA R r0 1) j) k).toInt ∧ (I (TA R (rA R r0 1) j) k).toInt < (I (rA R r0 1) 0).toInt) : Ex (d + 3) 141 [.ref r0, .int n1, .int n2] (T, N, I, L, R) 3 18 (pW2 [2, 3] T N R (pI T N R (fun x9 I9 L9 => (¬ ((n1.toInt < 0 ∨ (I (rA R r0 1) 2).toInt ≤ n1.toInt ∨ 8 ≤ n1.toInt) ∨ (n2.toInt < 0 ∨ (I (rA R r0 1) 2).toInt ≤ n2.toInt ∨ 8 ≤ n2.toInt)) ∧ (I (rA R r0 1) 2).toInt < 8 ∧ x9.toInt = (I (rA R r0 1) 2).toInt) ∧ ((I9 (rA R r0 1) 2).toInt = (I (rA R r0 1) 2).toInt + 1) ∧ ((I9 (TA R (rA R r0 1) (I (rA R r0 1) 2).toNatClampNeg) 0).toInt = ((I (TA R (rA R r0 1) n1.toNatClampNeg) 0).toInt * (I (TA R (rA R r0 1) n2.toNatClampNeg) 0).toInt + (I (TA R (rA R r0 1) n1.toNatClampNeg) 1).toInt * (I (TA R (rA R r0 1) n2.toNatClampNeg) 2).toInt) % (I (rA R r0 1) 0).toInt) ∧ ((I9 (TA R (rA R r0 1) (I (rA R r0 1) 2).toNatClampNeg) 1).toInt = ((I (TA R (rA R r0 1) n1.toNatClampNeg) 0).toInt * (I (TA R (rA R r0 1) n2.toNatClampNeg) 1).toInt + (I (TA R (rA R r0 1) n1.toNatClampNeg) 1).toInt * (I (TA R (rA R r0 1) n2.toNatClampNeg) 3).toInt) % (I (rA R r0 1) 0).toInt) ∧ ((I9 (TA R (rA R r0 1) (I (rA R r0 1) 2).toNatClampNeg) 2).toInt = ((I (TA R (rA R r0 1) n1.toNatClampNeg) 2).toInt * (I (TA R (rA R r0 1) n2.toNatClampNeg) 0).toInt + (I (TA R (rA R r0 1) n1.toNatClampNeg) 3).toInt * (I (TA R (rA R r0 1) n2.toNatClampNeg) 2).toInt) % (I (rA R r0 1) 0).toInt) ∧ ((I9 (TA R (rA R r0 1) (I (rA R r0 1) 2).toNatClampNeg) 3).toInt = ((I (TA R (rA R r0 1) n1.toNatClampNeg) 2).toInt * (I (TA R (rA R r0 1) n2.toNatClampNeg) 1).toInt + (I (TA R (rA R r0 1) n1.toNatClampNeg) 3).toInt * (I (TA R (rA R r0 1) n2.toNatClampNeg) 3).toInt) % (I (rA R r0 1) 0).toInt) ∧ (IX A T I9 ∧ Chg (fun a => a = (rA R r0 1) ∨ a = TA R (rA R r0 1) (I (rA R r0 1) 2).toNatClampNeg) T [(9, 2), (10, 0), (10, 1), (10, 2), (10, 3)] I L I9 L9))) (fun e9 I9 L9 => (IX A T I9 ∧ Chg (fun a => a = (rA R r0 1) ∨ a = TA R (rA R r0 1) (I (rA R r0 1) 2).toNatClampNeg) T [(9, 2), (10, 0), (10, 1), (10, 2), (10, 3)] I L I9 L9) ∧ (e9 = 2 → ¬ ((n1.toInt < 0 ∨ (I (rA R r0 1) 2).toInt ≤ n1.toInt ∨ 8 ≤ n1.toInt) ∨ (n2.toInt < 0 ∨ (I (rA R r0 1) 2).toInt ≤ n2.toInt ∨ 8 ≤ n2.toInt)) ∧ 8 ≤ (I (rA R r0 1) 2).toInt) ∧ (e9 = 2 → ∀ a k, I9 a k = I a k) ∧ (e9 = 3 → (n1.toInt < 0 ∨ (I (rA R r0 1) 2).toInt ≤ n1.toInt ∨ 8 ≤ n1.toInt) ∨ (n2.toInt < 0 ∨ (I (rA R r0 1) 2).toInt ≤ n2.toInt ∨ 8 ≤ n2.toInt)) ∧ (e9 = 3 → ∀ a k, I9 a k = I a k))) := by
  refine ⟨_, rfl, Nat.le_of_ble_eq_true rfl, fun V C S => ?_⟩
  show V 0 [(0, .ref r0), (1, .int n1), (2, .int n2)] [] (T, N, I, L, R) 0 0
  have gn1 := rg n1
  have gn2 := rg n2
  obtain ⟨T_r0, A_r0, B_r0, ⟨r0_0, R_r0_0, H_r0_0⟩, ⟨r0_1, R_r0_1, H_r0_1⟩, ⟨r0_2, R_r0_2, H_r0_2⟩, ⟨r0_5, R_r0_5, H_r0_5⟩, ⟨r0_6, R_r0_6, H_r0_6⟩, ⟨r0_7, R_r0_7, H_r0_7⟩, ⟨r0_8, R_r0_8, H_r0_8⟩, ⟨r0_9, R_r0_9, H_r0_9⟩, ⟨r0_10, R_r0_10, H_r0_10⟩, ⟨r0_11, R_r0_11, H_r0_11⟩, ⟨r0_12, R_r0_12, H_r0_12⟩, ⟨r0_13, R_r0_13, H_r0_13⟩⟩ := id H_r0
  have z_r0_0 : rA R r0 0 = r0_0 := rA_e R_r0_0
  have z_r0_1 : rA R r0 1 = r0_1 := rA_e R_r0_1
  have z_r0_2 : rA R r0 2 = r0_2 := rA_e R_r0_2
  have z_r0_5 : rA R r0 5 = r0_5 := rA_e R_r0_5
  have z_r0_6 : rA R r0 6 = r0_6 := rA_e R_r0_6
  have z_r0_7 : rA R r0 7 = r0_7 := rA_e R_r0_7
  have z_r0_8 : rA R r0 8 = r0_8 := rA_e R_r0_8
  have z_r0_9 : rA R r0 9 = r0_9 := rA_e R_r0_9
  have z_r0_10 : rA R r0 10 = r0_10 := rA_e R_r0_10
  have z_r0_11 : rA R r0 11 = r0_11 := rA_e R_r0_11
  have z_r0_12 : rA R r0 12 = r0_12 := rA_e R_r0_12
  have z_r0_13 : rA R r0 13 = r0_13 := rA_e R_r0_13
  obtain ⟨T_r0_1, A_r0_1, B_r0_1, ⟨r0_1_6, R_r0_1_6, H_r0_1_6⟩, ⟨r0_1_7, R_r0_1_7, H_r0_1_7⟩, ⟨r0_1_8, R_r0_1_8, H_r0_1_8⟩, ⟨r0_1_9, R_r0_1_9, H_r0_1_9⟩, ⟨r0_1_10, R_r0_1_10, H_r0_1_10⟩⟩ := id H_r0_1
  have z_r0_1_6 : rA R r0_1 6 = r0_1_6 := rA_e R_r0_1_6
  have z_r0_1_7 : rA R r0_1 7 = r0_1_7 := rA_e R_r0_1_7
  have z_r0_1_8 : rA R r0_1 8 = r0_1_8 := rA_e R_r0_1_8
  have z_r0_1_9 : rA R r0_1 9 = r0_1_9 := rA_e R_r0_1_9
  have z_r0_1_10 : rA R r0_1 10 = r0_1_10 := rA_e R_r0_1_10
  obtain ⟨T_r0_5, A_r0_5, B_r0_5, ⟨r0_5_0, R_r0_5_0, H_r0_5_0⟩, ⟨r0_5_1, R_r0_5_1, H_r0_5_1⟩, ⟨r0_5_2, R_r0_5_2, H_r0_5_2⟩⟩ := id H_r0_5
  have z_r0_5_0 : rA R r0_5 0 = r0_5_0 := rA_e R_r0_5_0
  have z_r0_5_1 : rA R r0_5 1 = r0_5_1 := rA_e R_r0_5_1
  have z_r0_5_2 : rA R r0_5 2 = r0_5_2 := rA_e R_r0_5_2
  obtain ⟨T_r0_5_0, A_r0_5_0, B_r0_5_0, ⟨r0_5_0_6, R_r0_5_0_6, H_r0_5_0_6⟩, ⟨r0_5_0_7, R_r0_5_0_7, H_r0_5_0_7⟩, ⟨r0_5_0_8, R_r0_5_0_8, H_r0_5_0_8⟩, ⟨r0_5_0_9, R_r0_5_0_9, H_r0_5_0_9⟩, ⟨r0_5_0_10, R_r0_5_0_10, H_r0_5_0_10⟩⟩ := id H_r0_5_0
  have z_r0_5_0_6 : rA R r0_5_0 6 = r0_5_0_6 := rA_e R_r0_5_0_6
  have z_r0_5_0_7 : rA R r0_5_0 7 = r0_5_0_7 := rA_e R_r0_5_0_7
  have z_r0_5_0_8 : rA R r0_5_0 8 = r0_5_0_8 := rA_e R_r0_5_0_8
  have z_r0_5_0_9 : rA R r0_5_0 9 = r0_5_0_9 := rA_e R_r0_5_0_9
  have z_r0_5_0_10 : rA R r0_5_0 10 = r0_5_0_10 := rA_e R_r0_5_0_10
  obtain ⟨T_r0_1_9, N_r0_1_9, A_r0_1_9, E_r0_1_9⟩ := id H_r0_1_9
  have hG := GS.of H_r0_1
  try simp only [z_r0_0, z_r0_1, z_r0_2, z_r0_5, z_r0_6, z_r0_7, z_r0_8, z_r0_9, z_r0_10, z_r0_11, z_r0_12, z_r0_13, z_r0_1_6, z_r0_1_7, z_r0_1_8, z_r0_1_9, z_r0_1_10, z_r0_5_0, z_r0_5_1, z_r0_5_2, z_r0_5_0_6, z_r0_5_0_7, z_r0_5_0_8, z_r0_5_0_9, z_r0_5_0_10] at hp0
  try simp only [z_r0_0, z_r0_1, z_r0_2, z_r0_5, z_r0_6, z_r0_7, z_r0_8, z_r0_9, z_r0_10, z_r0_11, z_r0_12, z_r0_13, z_r0_1_6, z_r0_1_7, z_r0_1_8, z_r0_1_9, z_r0_1_10, z_r0_5_0, z_r0_5_1, z_r0_5_2, z_r0_5_0_6, z_r0_5_0_7, z_r0_5_0_8, z_r0_5_0_9, z_r0_5_0_10] at hp1
  try simp only [z_r0_0, z_r0_1, z_r0_2, z_r0_5, z_r0_6, z_r0_7, z_r0_8, z_r0_9, z_r0_10, z_r0_11, z_r0_12, z_r0_13, z_r0_1_6, z_r0_1_7, z_r0_1_8, z_r0_1_9, z_r0_1_10, z_r0_5_0, z_r0_5_1, z_r0_5_2, z_r0_5_0_6, z_r0_5_0_7, z_r0_5_0_8, z_r0_5_0_9, z_r0_5_0_10] at hp2
  try simp only [z_r0_0, z_r0_1, z_r0_2, z_r0_5, z_r0_6, z_r0_7, z_r0_8, z_r0_9, z_r0_10, z_r0_11, z_r0_12, z_r0_13, z_r0_1_6, z_r0_1_7, z_r0_1_8, z_r0_1_9, z_r0_1_10, z_r0_5_0, z_r0_5_1, z_r0_5_2, z_r0_5_0_6, z_r0_5_0_7, z_r0_5_0_8, z_r0_5_0_9, z_r0_5_0_10] at hp3
  obtain ⟨w_r0_1_0, k0_r0_1_0⟩ : ∃ x, I r0_1 0 = x := ⟨_, rfl⟩
  have gw_r0_1_0 := rg w_r0_1_0
  have ow_r0_1_0 := IX.p hI A_r0_1 T_r0_1 k0_r0_1_0
  obtain ⟨w_r0_1_2, k0_r0_1_2⟩ : ∃ x, I r0_1 2 = x := ⟨_, rfl⟩
  have gw_r0_1_2 := rg w_r0_1_2
  try simp only [k0_r0_1_0, k0_r0_1_2] at hp0
  try simp only [k0_r0_1_0, k0_r0_1_2] at hp1
  try simp only [k0_r0_1_0, k0_r0_1_2] at hp2
  try simp only [k0_r0_1_0, k0_r0_1_2] at hp3
  refine k_aload_n C rfl rfl rfl ?_
  refine k_iload_n C rfl rfl rfl ?_
  refine w2_VR C (s_X11_toldTable_x hS hI H_r0) rfl rfl rfl rfl rfl ⟨_, rfl, rfl, T_r0, Nat.le_of_ble_eq_true rfl⟩ rfl rfl (Nat.le_of_ble_eq_true rfl) (Nat.le_of_ble_eq_true rfl) (Nat.le_of_ble_eq_true rfl) (by decide) (fun e9 he I9 L9 hq => by obtain ⟨⟨rfl, rfl⟩, hq⟩ := hq; exact Or.inl ⟨rfl, Or.inr ⟨e9, _, _, (by decide : ∀ z ∈ [3], z ∈ [2, 3]) e9 he, rfl, rfl, ⟨⟨hI, (by (try simp only [z_r0_0, z_r0_1, z_r0_2, z_r0_5, z_r0_6, z_r0_7, z_r0_8, z_r0_9, z_r0_10, z_r0_11, z_r0_12, z_r0_13, z_r0_1_6, z_r0_1_7, z_r0_1_8, z_r0_1_9, z_r0_1_10, z_r0_5_0, z_r0_5_1, z_r0_5_2, z_r0_5_0_6, z_r0_5_0_7, z_r0_5_0_8, z_r0_5_0_9, z_r0_5_0_10]); exact Chg.rf)⟩, (fun h9 => by subst h9; exact absurd he (by decide)), (fun h9 => by subst h9; exact absurd he (by decide)), (fun h9 => by subst h9; first | exact absurd he (by decide) | (have hx := hq rfl; simp only [z_r0_0, z_r0_1, z_r0_2, z_r0_5, z_r0_6, z_r0_7, z_r0_8, z_r0_9, z_r0_10, z_r0_11, z_r0_12, z_r0_13, z_r0_1_6, z_r0_1_7, z_r0_1_8, z_r0_1_9, z_r0_1_10, z_r0_5_0, z_r0_5_1, z_r0_5_2, z_r0_5_0_6, z_r0_5_0_7, z_r0_5_0_8, z_r0_5_0_9, z_r0_5_0_10, k0_r0_1_2] at hx ⊢; exact Or.inl hx)), (fun h9 => by subst h9; first | exact absurd he (by decide) | (exact fun _ _ => rfl))⟩⟩⟩) ?_
  rintro yy1 _ _ ⟨hyy1, p0yy1, p1yy1, rfl, rfl⟩
  obtain ⟨rr2, err2, H_rr2⟩ := hyy1
  subst err2
  try simp only [z_r0_0, z_r0_1, z_r0_2, z_r0_5, z_r0_6, z_r0_7, z_r0_8, z_r0_9, z_r0_10, z_r0_11, z_r0_12, z_r0_13, z_r0_1_6, z_r0_1_7, z_r0_1_8, z_r0_1_9, z_r0_1_10, z_r0_5_0, z_r0_5_1, z_r0_5_2, z_r0_5_0_6, z_r0_5_0_7, z_r0_5_0_8, z_r0_5_0_9, z_r0_5_0_10] at p0yy1
  try simp only [z_r0_0, z_r0_1, z_r0_2, z_r0_5, z_r0_6, z_r0_7, z_r0_8, z_r0_9, z_r0_10, z_r0_11, z_r0_12, z_r0_13, z_r0_1_6, z_r0_1_7, z_r0_1_8, z_r0_1_9, z_r0_1_10, z_r0_5_0, z_r0_5_1, z_r0_5_2, z_r0_5_0_6, z_r0_5_0_7, z_r0_5_0_8, z_r0_5_0_9, z_r0_5_0_10] at p1yy1
  try simp only [k0_r0_1_0, k0_r0_1_2] at p0yy1
  try have q0yy1 := congrArg Int32.toInt p0yy1
  try simp only [k0_r0_1_0, k0_r0_1_2] at p1yy1
  try have q1yy1 := congrArg Int32.toInt p1yy1
  have hT1 := p0yy1.symm; have hB1 := p1yy1; have nT1 := ncn (n := 8) (j := n1) (by omega) (by omega); have nZ1 := ncz (x := n1) (by omega); have oT1 := TA_e z_r0_1_9 hT1
  refine k_astore_n C (lw := [(3, .ref rr2), (0, .ref r0), (1, .int n1), (2, .int n2)]) rfl rfl (Nat.le_of_ble_eq_true rfl) rfl ?_
  refine k_aload_n C rfl rfl rfl ?_
  refine k_iload_n C rfl rfl rfl ?_
  refine w2_VR C (s_X11_toldTable_x hS hI H_r0) rfl rfl rfl rfl rfl ⟨_, rfl, rfl, T_r0, Nat.le_of_ble_eq_true rfl⟩ rfl rfl (Nat.le_of_ble_eq_true rfl) (Nat.le_of_ble_eq_true rfl) (Nat.le_of_ble_eq_true rfl) (by decide) (fun e9 he I9 L9 hq => by obtain ⟨⟨rfl, rfl⟩, hq⟩ := hq; exact Or.inl ⟨rfl, Or.inr ⟨e9, _, _, (by decide : ∀ z ∈ [3], z ∈ [2, 3]) e9 he, rfl, rfl, ⟨⟨hI, (by (try simp only [z_r0_0, z_r0_1, z_r0_2, z_r0_5, z_r0_6, z_r0_7, z_r0_8, z_r0_9, z_r0_10, z_r0_11, z_r0_12, z_r0_13, z_r0_1_6, z_r0_1_7, z_r0_1_8, z_r0_1_9, z_r0_1_10, z_r0_5_0, z_r0_5_1, z_r0_5_2, z_r0_5_0_6, z_r0_5_0_7, z_r0_5_0_8, z_r0_5_0_9, z_r0_5_0_10]); exact Chg.rf)⟩, (fun h9 => by subst h9; exact absurd he (by decide)), (fun h9 => by subst h9; exact absurd he (by decide)), (fun h9 => by subst h9; first | exact absurd he (by decide) | (have hx := hq rfl; simp only [z_r0_0, z_r0_1, z_r0_2, z_r0_5, z_r0_6, z_r0_7, z_r0_8, z_r0_9, z_r0_10, z_r0_11, z_r0_12, z_r0_13, z_r0_1_6, z_r0_1_7, z_r0_1_8, z_r0_1_9, z_r0_1_10, z_r0_5_0, z_r0_5_1, z_r0_5_2, z_r0_5_0_6, z_r0_5_0_7, z_r0_5_0_8, z_r0_5_0_9, z_r0_5_0_10, k0_r0_1_2] at hx ⊢; exact Or.inr hx)), (fun h9 => by subst h9; first | exact absurd he (by decide) | (exact fun _ _ => rfl))⟩⟩⟩) ?_
  rintro yy3 _ _ ⟨hyy3, p0yy3, p1yy3, rfl, rfl⟩
  obtain ⟨rr4, err4, H_rr4⟩ := hyy3
  subst err4
  try simp only [z_r0_0, z_r0_1, z_r0_2, z_r0_5, z_r0_6, z_r0_7, z_r0_8, z_r0_9, z_r0_10, z_r0_11, z_r0_12, z_r0_13, z_r0_1_6, z_r0_1_7, z_r0_1_8, z_r0_1_9, z_r0_1_10, z_r0_5_0, z_r0_5_1, z_r0_5_2, z_r0_5_0_6, z_r0_5_0_7, z_r0_5_0_8, z_r0_5_0_9, z_r0_5_0_10] at p0yy3
  try simp only [z_r0_0, z_r0_1, z_r0_2, z_r0_5, z_r0_6, z_r0_7, z_r0_8, z_r0_9, z_r0_10, z_r0_11, z_r0_12, z_r0_13, z_r0_1_6, z_r0_1_7, z_r0_1_8, z_r0_1_9, z_r0_1_10, z_r0_5_0, z_r0_5_1, z_r0_5_2, z_r0_5_0_6, z_r0_5_0_7, z_r0_5_0_8, z_r0_5_0_9, z_r0_5_0_10] at p1yy3
  try simp only [k0_r0_1_0, k0_r0_1_2] at p0yy3
  try have q0yy3 := congrArg Int32.toInt p0yy3
  try simp only [k0_r0_1_0, k0_r0_1_2] at p1yy3
  try have q1yy3 := congrArg Int32.toInt p1yy3
  have hT2 := p0yy3.symm; have hB2 := p1yy3; have nT2 := ncn (n := 8) (j := n2) (by omega) (by omega); have nZ2 := ncz (x := n2) (by omega); have oT2 := TA_e z_r0_1_9 hT2
  refine k_astore C (lw := [(4, .ref rr4), (3, .ref rr2), (0, .ref r0), (1, .int n1), (2, .int n2)]) rfl rfl (Nat.le_of_ble_eq_true rfl) rfl ?_
  refine k_aload_n C rfl rfl rfl ?_
  refine g_R C rfl rfl rfl T_r0 rfl R_r0_1 ?_
  refine c_VR C (s_X8_nextTable_x hS hI H_r0_1 (by first | omega | (simp only [k0_r0_1_0, k0_r0_1_2, and_true, true_and, or_true, true_or, and_false, false_and, or_false, false_or] <;> omega))) rfl rfl rfl rfl rfl ⟨_, rfl, rfl, T_r0_1, Nat.le_of_ble_eq_true rfl⟩ rfl rfl (Nat.le_of_ble_eq_true rfl) (Nat.le_of_ble_eq_true rfl) (Nat.le_of_ble_eq_true rfl) ?_
  rintro yy5 I6 L7 ⟨hyy5, p0yy5, hI6, S8⟩
  try simp only [z_r0_0, z_r0_1, z_r0_2, z_r0_5, z_r0_6, z_r0_7, z_r0_8, z_r0_9, z_r0_10, z_r0_11, z_r0_12, z_r0_13, z_r0_1_6, z_r0_1_7, z_r0_1_8, z_r0_1_9, z_r0_1_10, z_r0_5_0, z_r0_5_1, z_r0_5_2, z_r0_5_0_6, z_r0_5_0_7, z_r0_5_0_8, z_r0_5_0_9, z_r0_5_0_10] at S8
  have e9 := Chg.k S8 T_r0_1 (by decide) (by decide) k0_r0_1_0
  obtain ⟨x10, e11⟩ : ∃ x, I6 r0_1 2 = x := ⟨_, rfl⟩
  have gx10 := rg x10
  try simp only [z_r0_0, z_r0_1, z_r0_2, z_r0_5, z_r0_6, z_r0_7, z_r0_8, z_r0_9, z_r0_10, z_r0_11, z_r0_12, z_r0_13, z_r0_1_6, z_r0_1_7, z_r0_1_8, z_r0_1_9, z_r0_1_10, z_r0_5_0, z_r0_5_1, z_r0_5_2, z_r0_5_0_6, z_r0_5_0_7, z_r0_5_0_8, z_r0_5_0_9, z_r0_5_0_10] at p0yy5
  try simp only [k0_r0_1_0, k0_r0_1_2, e11] at p0yy5
  try have q0yy5 := congrArg Int32.toInt p0yy5
  have hnt := p0yy5; have hNS := S8
  refine k_astoreV C (x := yy5) (lw := [(5, va_rf yy5), (4, .ref rr4), (3, .ref rr2), (0, .ref r0), (1, .int n1), (2, .int n2)]) rfl rfl (Nat.le_of_ble_eq_true rfl) rfl ?_
  refine k_aloadV C (x := yy5) rfl rfl rfl ?_
  refine k_ifnonnull C (x := yy5) (t := 35) rfl rfl rfl (fun c12 => ?_) (fun rr13 c12 => ?_)
  · skip
    subst c12
    have hnx := NXD.no hnt E_r0_1_9 (by omega)
    exact k_throw C rfl rfl rfl rfl rfl rfl (Nat.le_of_ble_eq_true rfl) (Nat.le_of_ble_eq_true rfl) (Nat.le_of_ble_eq_true rfl) (Or.inr ⟨_, _, _, (by decide : 2 ∈ [2, 3]), rfl, rfl, ⟨⟨hI6, (by (try simp only [z_r0_0, z_r0_1, z_r0_2, z_r0_5, z_r0_6, z_r0_7, z_r0_8, z_r0_9, z_r0_10, z_r0_11, z_r0_12, z_r0_13, z_r0_1_6, z_r0_1_7, z_r0_1_8, z_r0_1_9, z_r0_1_10, z_r0_5_0, z_r0_5_1, z_r0_5_2, z_r0_5_0_6, z_r0_5_0_7, z_r0_5_0_8, z_r0_5_0_9, z_r0_5_0_10]); exact (Chg.mono (Chg.up S8 (sl_1 (Or.inl rfl))) (by decide)))⟩, (fun _ => by simp only [z_r0_0, z_r0_1, z_r0_2, z_r0_5, z_r0_6, z_r0_7, z_r0_8, z_r0_9, z_r0_10, z_r0_11, z_r0_12, z_r0_13, z_r0_1_6, z_r0_1_7, z_r0_1_8, z_r0_1_9, z_r0_1_10, z_r0_5_0, z_r0_5_1, z_r0_5_2, z_r0_5_0_6, z_r0_5_0_7, z_r0_5_0_8, z_r0_5_0_9, z_r0_5_0_10, k0_r0_1_2]; omega), (fun _ => by exact EXC0 hNS T_r0_1 (by rw [e11, k0_r0_1_2]; exact (hnt.2 hnx).2)), (fun h9 => absurd h9 (by decide)), (fun h9 => absurd h9 (by decide))⟩⟩)
  subst c12
  have H_rr13 := hyy5 rr13 rfl
  have hnx := NXD.yes hnt (by omega); have oN := TA_e z_r0_1_9 hnx.2.1; have tN := H_rr13.1
  refine k_aload_n C rfl rfl rfl ?_
  refine g_R C rfl rfl rfl T_r0 rfl R_r0_5 ?_
  refine k_aload C rfl rfl rfl ?_
  refine k_aload_n C rfl rfl rfl ?_
  obtain ⟨T_rr2, A_rr2, B_rr2⟩ := id H_rr2
  refine z_gI C rfl rfl rfl T_rr2 rfl (fun x14 ex14 => ?_)
  have gx14 := rg x14
  refine k_aload C rfl rfl rfl ?_
  obtain ⟨T_rr4, A_rr4, B_rr4⟩ := id H_rr4
  refine z_gI C rfl rfl rfl T_rr4 rfl (fun x15 ex15 => ?_)
  have gx15 := rg x15
  refine z_imulN C rfl rfl (fun x16 hm50 => ?_)
  have gx16 := rg x16
  have mm50 := hm50.2
  clear hm50
  refine k_aload_n C rfl rfl rfl ?_
  refine z_gI C rfl rfl rfl T_rr2 rfl (fun x17 ex17 => ?_)
  have gx17 := rg x17
  refine k_aload C rfl rfl rfl ?_
  refine z_gI C rfl rfl rfl T_rr4 rfl (fun x18 ex18 => ?_)
  have gx18 := rg x18
  refine z_imulN C rfl rfl (fun x19 hm60 => ?_)
  have gx19 := rg x19
  have mm60 := hm60.2
  clear hm60
  refine z_iaddX C rfl rfl (fun x20 ad61 => ?_)
  have gx20 := rg x20
  refine k_aload_n C rfl rfl rfl ?_
  refine g_I C rfl rfl rfl T_rr2 rfl ex14 ?_
  refine k_aload C rfl rfl rfl ?_
  refine z_gI C rfl rfl rfl T_rr4 rfl (fun x21 ex21 => ?_)
  have gx21 := rg x21
  refine z_imulN C rfl rfl (fun x22 hm71 => ?_)
  have gx22 := rg x22
  have mm71 := hm71.2
  clear hm71
  refine k_aload_n C rfl rfl rfl ?_
  refine g_I C rfl rfl rfl T_rr2 rfl ex17 ?_
  refine k_aload C rfl rfl rfl ?_
  refine z_gI C rfl rfl rfl T_rr4 rfl (fun x23 ex23 => ?_)
  have gx23 := rg x23
  refine z_imulN C rfl rfl (fun x24 hm81 => ?_)
  have gx24 := rg x24
  have mm81 := hm81.2
  clear hm81
  refine z_iaddX C rfl rfl (fun x25 ad82 => ?_)
  have gx25 := rg x25
  refine k_aload_n C rfl rfl rfl ?_
  refine z_gI C rfl rfl rfl T_rr2 rfl (fun x26 ex26 => ?_)
  have gx26 := rg x26
  refine k_aload C rfl rfl rfl ?_
  refine g_I C rfl rfl rfl T_rr4 rfl ex15 ?_
  refine z_imulN C rfl rfl (fun x27 hm92 => ?_)
  have gx27 := rg x27
  have mm92 := hm92.2
  clear hm92
  refine k_aload_n C rfl rfl rfl ?_
  refine z_gI C rfl rfl rfl T_rr2 rfl (fun x28 ex28 => ?_)
  have gx28 := rg x28
  refine k_aload C rfl rfl rfl ?_
  refine g_I C rfl rfl rfl T_rr4 rfl ex18 ?_
  refine z_imulN C rfl rfl (fun x29 hm102 => ?_)
  have gx29 := rg x29
  have mm102 := hm102.2
  clear hm102
  refine z_iaddX C rfl rfl (fun x30 ad103 => ?_)
  have gx30 := rg x30
  refine k_aload_n C rfl rfl rfl ?_
  refine g_I C rfl rfl rfl T_rr2 rfl ex26 ?_
  refine k_aload C rfl rfl rfl ?_
  refine g_I C rfl rfl rfl T_rr4 rfl ex21 ?_
  refine z_imulN C rfl rfl (fun x31 hm113 => ?_)
  have gx31 := rg x31
  have mm113 := hm113.2
  clear hm113
  refine k_aload_n C rfl rfl rfl ?_
  refine g_I C rfl rfl rfl T_rr2 rfl ex28 ?_
  refine k_aload C rfl rfl rfl ?_
  refine g_I C rfl rfl rfl T_rr4 rfl ex23 ?_
  refine z_imulN C rfl rfl (fun x32 hm123 => ?_)
  have gx32 := rg x32
  have mm123 := hm123.2
  clear hm123
  refine z_iaddX C rfl rfl (fun x33 ad124 => ?_)
  have gx33 := rg x33
  have hk125 := e9; have ea0 := (congrFun (Chg.at hNS (nm_1 (t_nq T_rr2 T_r0_1 (by decide)))) 0).symm.trans ex14; have ba0 := hp3 n1.toNatClampNeg (by omega) 0 (by decide); rw [oT1, ea0] at ba0; have ea1 := (congrFun (Chg.at hNS (nm_1 (t_nq T_rr2 T_r0_1 (by decide)))) 1).symm.trans ex17; have ba1 := hp3 n1.toNatClampNeg (by omega) 1 (by decide); rw [oT1, ea1] at ba1; have ea2 := (congrFun (Chg.at hNS (nm_1 (t_nq T_rr2 T_r0_1 (by decide)))) 2).symm.trans ex26; have ba2 := hp3 n1.toNatClampNeg (by omega) 2 (by decide); rw [oT1, ea2] at ba2; have ea3 := (congrFun (Chg.at hNS (nm_1 (t_nq T_rr2 T_r0_1 (by decide)))) 3).symm.trans ex28; have ba3 := hp3 n1.toNatClampNeg (by omega) 3 (by decide); rw [oT1, ea3] at ba3; have eb0 := (congrFun (Chg.at hNS (nm_1 (t_nq T_rr4 T_r0_1 (by decide)))) 0).symm.trans ex15; have bb0 := hp3 n2.toNatClampNeg (by omega) 0 (by decide); rw [oT2, eb0] at bb0; have eb1 := (congrFun (Chg.at hNS (nm_1 (t_nq T_rr4 T_r0_1 (by decide)))) 1).symm.trans ex21; have bb1 := hp3 n2.toNatClampNeg (by omega) 1 (by decide); rw [oT2, eb1] at bb1; have eb2 := (congrFun (Chg.at hNS (nm_1 (t_nq T_rr4 T_r0_1 (by decide)))) 2).symm.trans ex18; have bb2 := hp3 n2.toNatClampNeg (by omega) 2 (by decide); rw [oT2, eb2] at bb2; have eb3 := (congrFun (Chg.at hNS (nm_1 (t_nq T_rr4 T_r0_1 (by decide)))) 3).symm.trans ex23; have bb3 := hp3 n2.toNatClampNeg (by omega) 3 (by decide); rw [oT2, eb3] at bb3
  obtain ⟨T_rr13, A_rr13, B_rr13⟩ := id H_rr13
  refine c_VV C (s_X0_fill_x hS hI6 H_r0_5 H_rr13) rfl rfl rfl rfl rfl ⟨_, rfl, rfl, T_r0_5, Nat.le_of_ble_eq_true rfl⟩ rfl rfl (Nat.le_of_ble_eq_true rfl) (Nat.le_of_ble_eq_true rfl) (Nat.le_of_ble_eq_true rfl) ?_
  rintro I35 L36 ⟨p0v34, p1v34, p2v34, p3v34, hI35, S37⟩
  try simp only [z_r0_0, z_r0_1, z_r0_2, z_r0_5, z_r0_6, z_r0_7, z_r0_8, z_r0_9, z_r0_10, z_r0_11, z_r0_12, z_r0_13, z_r0_1_6, z_r0_1_7, z_r0_1_8, z_r0_1_9, z_r0_1_10, z_r0_5_0, z_r0_5_1, z_r0_5_2, z_r0_5_0_6, z_r0_5_0_7, z_r0_5_0_8, z_r0_5_0_9, z_r0_5_0_10] at S37
  have e38 := Chg.k S37 T_r0_1 (by decide) (by decide) e9
  have e39 := Chg.k S37 T_r0_1 (by decide) (by decide) e11
  try simp only [z_r0_0, z_r0_1, z_r0_2, z_r0_5, z_r0_6, z_r0_7, z_r0_8, z_r0_9, z_r0_10, z_r0_11, z_r0_12, z_r0_13, z_r0_1_6, z_r0_1_7, z_r0_1_8, z_r0_1_9, z_r0_1_10, z_r0_5_0, z_r0_5_1, z_r0_5_2, z_r0_5_0_6, z_r0_5_0_7, z_r0_5_0_8, z_r0_5_0_9, z_r0_5_0_10] at p0v34
  try simp only [z_r0_0, z_r0_1, z_r0_2, z_r0_5, z_r0_6, z_r0_7, z_r0_8, z_r0_9, z_r0_10, z_r0_11, z_r0_12, z_r0_13, z_r0_1_6, z_r0_1_7, z_r0_1_8, z_r0_1_9, z_r0_1_10, z_r0_5_0, z_r0_5_1, z_r0_5_2, z_r0_5_0_6, z_r0_5_0_7, z_r0_5_0_8, z_r0_5_0_9, z_r0_5_0_10] at p1v34
  try simp only [z_r0_0, z_r0_1, z_r0_2, z_r0_5, z_r0_6, z_r0_7, z_r0_8, z_r0_9, z_r0_10, z_r0_11, z_r0_12, z_r0_13, z_r0_1_6, z_r0_1_7, z_r0_1_8, z_r0_1_9, z_r0_1_10, z_r0_5_0, z_r0_5_1, z_r0_5_2, z_r0_5_0_6, z_r0_5_0_7, z_r0_5_0_8, z_r0_5_0_9, z_r0_5_0_10] at p2v34
  try simp only [z_r0_0, z_r0_1, z_r0_2, z_r0_5, z_r0_6, z_r0_7, z_r0_8, z_r0_9, z_r0_10, z_r0_11, z_r0_12, z_r0_13, z_r0_1_6, z_r0_1_7, z_r0_1_8, z_r0_1_9, z_r0_1_10, z_r0_5_0, z_r0_5_1, z_r0_5_2, z_r0_5_0_6, z_r0_5_0_7, z_r0_5_0_8, z_r0_5_0_9, z_r0_5_0_10] at p3v34
  try simp only [e9, e11, ex14, ex15, ex17, ex18, ex21, ex23, ex26, ex28] at p0v34
  try have q0v34 := congrArg Int32.toInt p0v34
  try simp only [e9, e11, ex14, ex15, ex17, ex18, ex21, ex23, ex26, ex28] at p1v34
  try have q1v34 := congrArg Int32.toInt p1v34
  try simp only [e9, e11, ex14, ex15, ex17, ex18, ex21, ex23, ex26, ex28] at p2v34
  try have q2v34 := congrArg Int32.toInt p2v34
  try simp only [e9, e11, ex14, ex15, ex17, ex18, ex21, ex23, ex26, ex28] at p3v34
  try have q3v34 := congrArg Int32.toInt p3v34
  have hs0 := p0v34; have hs1 := p1v34; have hs2 := p2v34; have hs3 := p3v34; rw [hp2, hk125] at hs0 hs1 hs2 hs3
  refine k_aload_n C rfl rfl rfl ?_
  refine g_R C rfl rfl rfl T_r0 rfl R_r0_1 ?_
  refine g_I C rfl rfl rfl T_r0_1 rfl e39 ?_
  refine z_iconst C (z := 1) rfl rfl rfl (fun x40 ex40 => ?_)
  refine z_isub C rfl rfl ⟨by omega, by omega⟩ (fun x41 ex41 => ?_)
  exact k_iret C rfl (Or.inl rfl) (Nat.le_of_ble_eq_true rfl) (Nat.le_of_ble_eq_true rfl) (Or.inl ⟨_, _, _, rfl, rfl, by (try simp only [z_r0_0, z_r0_1, z_r0_2, z_r0_5, z_r0_6, z_r0_7, z_r0_8, z_r0_9, z_r0_10, z_r0_11, z_r0_12, z_r0_13, z_r0_1_6, z_r0_1_7, z_r0_1_8, z_r0_1_9, z_r0_1_10, z_r0_5_0, z_r0_5_1, z_r0_5_2, z_r0_5_0_6, z_r0_5_0_7, z_r0_5_0_8, z_r0_5_0_9, z_r0_5_0_10]); simp only [k0_r0_1_2]; omega, by (try simp only [z_r0_0, z_r0_1, z_r0_2, z_r0_5, z_r0_6, z_r0_7, z_r0_8, z_r0_9, z_r0_10, z_r0_11, z_r0_12, z_r0_13, z_r0_1_6, z_r0_1_7, z_r0_1_8, z_r0_1_9, z_r0_1_10, z_r0_5_0, z_r0_5_1, z_r0_5_2, z_r0_5_0_6, z_r0_5_0_7, z_r0_5_0_8, z_r0_5_0_9, z_r0_5_0_10]); rw [e39]; simp only [k0_r0_1_2]; omega, by (try simp only [z_r0_0, z_r0_1, z_r0_2, z_r0_5, z_r0_6, z_r0_7, z_r0_8, z_r0_9, z_r0_10, z_r0_11, z_r0_12, z_r0_13, z_r0_1_6, z_r0_1_7, z_r0_1_8, z_r0_1_9, z_r0_1_10, z_r0_5_0, z_r0_5_1, z_r0_5_2, z_r0_5_0_6, z_r0_5_0_7, z_r0_5_0_8, z_r0_5_0_9, z_r0_5_0_10]); rw [k0_r0_1_2, oN, oT1, oT2, ea0, eb0, ea1, eb2, k0_r0_1_0, hs0, ad4 mm50 mm60 ad61 ⟨by omega, by omega⟩ ⟨by omega, by omega⟩ ⟨by omega, by omega⟩ ⟨by omega, by omega⟩], by (try simp only [z_r0_0, z_r0_1, z_r0_2, z_r0_5, z_r0_6, z_r0_7, z_r0_8, z_r0_9, z_r0_10, z_r0_11, z_r0_12, z_r0_13, z_r0_1_6, z_r0_1_7, z_r0_1_8, z_r0_1_9, z_r0_1_10, z_r0_5_0, z_r0_5_1, z_r0_5_2, z_r0_5_0_6, z_r0_5_0_7, z_r0_5_0_8, z_r0_5_0_9, z_r0_5_0_10]); rw [k0_r0_1_2, oN, oT1, oT2, ea0, eb1, ea1, eb3, k0_r0_1_0, hs1, ad4 mm71 mm81 ad82 ⟨by omega, by omega⟩ ⟨by omega, by omega⟩ ⟨by omega, by omega⟩ ⟨by omega, by omega⟩], by (try simp only [z_r0_0, z_r0_1, z_r0_2, z_r0_5, z_r0_6, z_r0_7, z_r0_8, z_r0_9, z_r0_10, z_r0_11, z_r0_12, z_r0_13, z_r0_1_6, z_r0_1_7, z_r0_1_8, z_r0_1_9, z_r0_1_10, z_r0_5_0, z_r0_5_1, z_r0_5_2, z_r0_5_0_6, z_r0_5_0_7, z_r0_5_0_8, z_r0_5_0_9, z_r0_5_0_10]); rw [k0_r0_1_2, oN, oT1, oT2, ea2, eb0, ea3, eb2, k0_r0_1_0, hs2, ad4 mm92 mm102 ad103 ⟨by omega, by omega⟩ ⟨by omega, by omega⟩ ⟨by omega, by omega⟩ ⟨by omega, by omega⟩], by (try simp only [z_r0_0, z_r0_1, z_r0_2, z_r0_5, z_r0_6, z_r0_7, z_r0_8, z_r0_9, z_r0_10, z_r0_11, z_r0_12, z_r0_13, z_r0_1_6, z_r0_1_7, z_r0_1_8, z_r0_1_9, z_r0_1_10, z_r0_5_0, z_r0_5_1, z_r0_5_2, z_r0_5_0_6, z_r0_5_0_7, z_r0_5_0_8, z_r0_5_0_9, z_r0_5_0_10]); rw [k0_r0_1_2, oN, oT1, oT2, ea2, eb1, ea3, eb3, k0_r0_1_0, hs3, ad4 mm113 mm123 ad124 ⟨by omega, by omega⟩ ⟨by omega, by omega⟩ ⟨by omega, by omega⟩ ⟨by omega, by omega⟩], hI35, (by (try simp only [z_r0_0, z_r0_1, z_r0_2, z_r0_5, z_r0_6, z_r0_7, z_r0_8, z_r0_9, z_r0_10, z_r0_11, z_r0_12, z_r0_13, z_r0_1_6, z_r0_1_7, z_r0_1_8, z_r0_1_9, z_r0_1_10, z_r0_5_0, z_r0_5_1, z_r0_5_2, z_r0_5_0_6, z_r0_5_0_7, z_r0_5_0_8, z_r0_5_0_9, z_r0_5_0_10]); exact (Chg.cons (Chg.up S8 (sl_1 (Or.inl rfl))) (Chg.mono (Chg.up S37 (sl_1 (Or.inr (by rw [k0_r0_1_2, oN])))) (by decide)) (by decide)))⟩)

theorem s_X11_turn_x {d : Nat} {T N : Nat → Nat} {I : IT} {L : LT} {R : RT} {A B : Nat → Prop} {r0 : Nat} {n1 : Int32} (hS : SUB B A) (hI : IX A T I) (H_r0 : (hs_LF T N R A B) r0) (hU : UPR T R) (hp0 : 0 ≤ (I (rA R r0 1) 2).toInt) (hp1 : (I (rA R r0 1) 2).toInt ≤ 8) (hp2 : rA R (rA R r0 5) 0 = (rA R r0 1)) (hp3 : ∀ j : Nat, (j : Int) < (I (rA R r0 1) 2).toInt → ∀ k : Nat, k < 4 → 0 ≤ (I (TA R (rA R r0 1) j) k).toInt ∧ (I (TA R (rA R r0 1) j) k).toInt < (I (rA R r0 1) 0).toInt) (hp4 : PRM (I (rA R r0 1) 0).toInt) : Ex (d + 4) 142 [.ref r0, .int n1] (T, N, I, L, R) 2 12 (pW2 [2, 3] T N R (pI T N R (fun x9 I9 L9 => (¬ (n1.toInt < 0 ∨ (I (rA R r0 1) 2).toInt ≤ n1.toInt ∨ 8 ≤ n1.toInt) ∧ (I (rA R r0 1) 2).toInt < 8 ∧ x9.toInt = (I (rA R r0 1) 2).toInt) ∧ ((I9 (rA R r0 1) 2).toInt = (I (rA R r0 1) 2).toInt + 1) ∧ (TBC (I9 (TA R (rA R r0 1) (I (rA R r0 1) 2).toNatClampNeg) 0).toInt (I9 (TA R (rA R r0 1) (I (rA R r0 1) 2).toNatClampNeg) 1).toInt (I9 (TA R (rA R r0 1) (I (rA R r0 1) 2).toNatClampNeg) 2).toInt (I9 (TA R (rA R r0 1) (I (rA R r0 1) 2).toNatClampNeg) 3).toInt (I (TA R (rA R r0 1) n1.toNatClampNeg) 0).toInt (I (TA R (rA R r0 1) n1.toNatClampNeg) 1).toInt (I (TA R (rA R r0 1) n1.toNatClampNeg) 2).toInt (I (TA R (rA R r0 1) n1.toNatClampNeg) 3).toInt (I (rA R r0 1) 0).toInt) ∧ (IX A T I9 ∧ Chg (fun a => a = (rA R r0 1) ∨ a = TA R (rA R r0 1) (I (rA R r0 1) 2).toNatClampNeg) T [(9, 2), (10, 0), (10, 1), (10, 2), (10, 3)] I L I9 L9))) (fun e9 I9 L9 => (IX A T I9 ∧ Chg (fun a => a = (rA R r0 1) ∨ a = TA R (rA R r0 1) (I (rA R r0 1) 2).toNatClampNeg) T [(9, 2), (10, 0), (10, 1), (10, 2), (10, 3)] I L I9 L9) ∧ (e9 = 2 → ¬ (n1.toInt < 0 ∨ (I (rA R r0 1) 2).toInt ≤ n1.toInt ∨ 8 ≤ n1.toInt) ∧ 8 ≤ (I (rA R r0 1) 2).toInt) ∧ (e9 = 2 → ∀ a k, I9 a k = I a k) ∧ (e9 = 3 → (n1.toInt < 0 ∨ (I (rA R r0 1) 2).toInt ≤ n1.toInt ∨ 8 ≤ n1.toInt)) ∧ (e9 = 3 → ∀ a k, I9 a k = I a k))) := by
  refine ⟨_, rfl, Nat.le_of_ble_eq_true rfl, fun V C S => ?_⟩
  show V 0 [(0, .ref r0), (1, .int n1)] [] (T, N, I, L, R) 0 0
  have gn1 := rg n1
  obtain ⟨T_r0, A_r0, B_r0, ⟨r0_0, R_r0_0, H_r0_0⟩, ⟨r0_1, R_r0_1, H_r0_1⟩, ⟨r0_2, R_r0_2, H_r0_2⟩, ⟨r0_5, R_r0_5, H_r0_5⟩, ⟨r0_6, R_r0_6, H_r0_6⟩, ⟨r0_7, R_r0_7, H_r0_7⟩, ⟨r0_8, R_r0_8, H_r0_8⟩, ⟨r0_9, R_r0_9, H_r0_9⟩, ⟨r0_10, R_r0_10, H_r0_10⟩, ⟨r0_11, R_r0_11, H_r0_11⟩, ⟨r0_12, R_r0_12, H_r0_12⟩, ⟨r0_13, R_r0_13, H_r0_13⟩⟩ := id H_r0
  have z_r0_0 : rA R r0 0 = r0_0 := rA_e R_r0_0
  have z_r0_1 : rA R r0 1 = r0_1 := rA_e R_r0_1
  have z_r0_2 : rA R r0 2 = r0_2 := rA_e R_r0_2
  have z_r0_5 : rA R r0 5 = r0_5 := rA_e R_r0_5
  have z_r0_6 : rA R r0 6 = r0_6 := rA_e R_r0_6
  have z_r0_7 : rA R r0 7 = r0_7 := rA_e R_r0_7
  have z_r0_8 : rA R r0 8 = r0_8 := rA_e R_r0_8
  have z_r0_9 : rA R r0 9 = r0_9 := rA_e R_r0_9
  have z_r0_10 : rA R r0 10 = r0_10 := rA_e R_r0_10
  have z_r0_11 : rA R r0 11 = r0_11 := rA_e R_r0_11
  have z_r0_12 : rA R r0 12 = r0_12 := rA_e R_r0_12
  have z_r0_13 : rA R r0 13 = r0_13 := rA_e R_r0_13
  obtain ⟨T_r0_1, A_r0_1, B_r0_1, ⟨r0_1_6, R_r0_1_6, H_r0_1_6⟩, ⟨r0_1_7, R_r0_1_7, H_r0_1_7⟩, ⟨r0_1_8, R_r0_1_8, H_r0_1_8⟩, ⟨r0_1_9, R_r0_1_9, H_r0_1_9⟩, ⟨r0_1_10, R_r0_1_10, H_r0_1_10⟩⟩ := id H_r0_1
  have z_r0_1_6 : rA R r0_1 6 = r0_1_6 := rA_e R_r0_1_6
  have z_r0_1_7 : rA R r0_1 7 = r0_1_7 := rA_e R_r0_1_7
  have z_r0_1_8 : rA R r0_1 8 = r0_1_8 := rA_e R_r0_1_8
  have z_r0_1_9 : rA R r0_1 9 = r0_1_9 := rA_e R_r0_1_9
  have z_r0_1_10 : rA R r0_1 10 = r0_1_10 := rA_e R_r0_1_10
  obtain ⟨T_r0_5, A_r0_5, B_r0_5, ⟨r0_5_0, R_r0_5_0, H_r0_5_0⟩, ⟨r0_5_1, R_r0_5_1, H_r0_5_1⟩, ⟨r0_5_2, R_r0_5_2, H_r0_5_2⟩⟩ := id H_r0_5
  have z_r0_5_0 : rA R r0_5 0 = r0_5_0 := rA_e R_r0_5_0
  have z_r0_5_1 : rA R r0_5 1 = r0_5_1 := rA_e R_r0_5_1
  have z_r0_5_2 : rA R r0_5 2 = r0_5_2 := rA_e R_r0_5_2
  obtain ⟨T_r0_5_0, A_r0_5_0, B_r0_5_0, ⟨r0_5_0_6, R_r0_5_0_6, H_r0_5_0_6⟩, ⟨r0_5_0_7, R_r0_5_0_7, H_r0_5_0_7⟩, ⟨r0_5_0_8, R_r0_5_0_8, H_r0_5_0_8⟩, ⟨r0_5_0_9, R_r0_5_0_9, H_r0_5_0_9⟩, ⟨r0_5_0_10, R_r0_5_0_10, H_r0_5_0_10⟩⟩ := id H_r0_5_0
  have z_r0_5_0_6 : rA R r0_5_0 6 = r0_5_0_6 := rA_e R_r0_5_0_6
  have z_r0_5_0_7 : rA R r0_5_0 7 = r0_5_0_7 := rA_e R_r0_5_0_7
  have z_r0_5_0_8 : rA R r0_5_0 8 = r0_5_0_8 := rA_e R_r0_5_0_8
  have z_r0_5_0_9 : rA R r0_5_0 9 = r0_5_0_9 := rA_e R_r0_5_0_9
  have z_r0_5_0_10 : rA R r0_5_0 10 = r0_5_0_10 := rA_e R_r0_5_0_10
  obtain ⟨T_r0_1_9, N_r0_1_9, A_r0_1_9, E_r0_1_9⟩ := id H_r0_1_9
  have hG := GS.of H_r0_1
  try simp only [z_r0_0, z_r0_1, z_r0_2, z_r0_5, z_r0_6, z_r0_7, z_r0_8, z_r0_9, z_r0_10, z_r0_11, z_r0_12, z_r0_13, z_r0_1_6, z_r0_1_7, z_r0_1_8, z_r0_1_9, z_r0_1_10, z_r0_5_0, z_r0_5_1, z_r0_5_2, z_r0_5_0_6, z_r0_5_0_7, z_r0_5_0_8, z_r0_5_0_9, z_r0_5_0_10] at hp0
  try simp only [z_r0_0, z_r0_1, z_r0_2, z_r0_5, z_r0_6, z_r0_7, z_r0_8, z_r0_9, z_r0_10, z_r0_11, z_r0_12, z_r0_13, z_r0_1_6, z_r0_1_7, z_r0_1_8, z_r0_1_9, z_r0_1_10, z_r0_5_0, z_r0_5_1, z_r0_5_2, z_r0_5_0_6, z_r0_5_0_7, z_r0_5_0_8, z_r0_5_0_9, z_r0_5_0_10] at hp1
  try simp only [z_r0_0, z_r0_1, z_r0_2, z_r0_5, z_r0_6, z_r0_7, z_r0_8, z_r0_9, z_r0_10, z_r0_11, z_r0_12, z_r0_13, z_r0_1_6, z_r0_1_7, z_r0_1_8, z_r0_1_9, z_r0_1_10, z_r0_5_0, z_r0_5_1, z_r0_5_2, z_r0_5_0_6, z_r0_5_0_7, z_r0_5_0_8, z_r0_5_0_9, z_r0_5_0_10] at hp2
  try simp only [z_r0_0, z_r0_1, z_r0_2, z_r0_5, z_r0_6, z_r0_7, z_r0_8, z_r0_9, z_r0_10, z_r0_11, z_r0_12, z_r0_13, z_r0_1_6, z_r0_1_7, z_r0_1_8, z_r0_1_9, z_r0_1_10, z_r0_5_0, z_r0_5_1, z_r0_5_2, z_r0_5_0_6, z_r0_5_0_7, z_r0_5_0_8, z_r0_5_0_9, z_r0_5_0_10] at hp3
  try simp only [z_r0_0, z_r0_1, z_r0_2, z_r0_5, z_r0_6, z_r0_7, z_r0_8, z_r0_9, z_r0_10, z_r0_11, z_r0_12, z_r0_13, z_r0_1_6, z_r0_1_7, z_r0_1_8, z_r0_1_9, z_r0_1_10, z_r0_5_0, z_r0_5_1, z_r0_5_2, z_r0_5_0_6, z_r0_5_0_7, z_r0_5_0_8, z_r0_5_0_9, z_r0_5_0_10] at hp4
  obtain ⟨w_r0_1_0, k0_r0_1_0⟩ : ∃ x, I r0_1 0 = x := ⟨_, rfl⟩
  have gw_r0_1_0 := rg w_r0_1_0
  have ow_r0_1_0 := IX.p hI A_r0_1 T_r0_1 k0_r0_1_0
  obtain ⟨w_r0_1_2, k0_r0_1_2⟩ : ∃ x, I r0_1 2 = x := ⟨_, rfl⟩
  have gw_r0_1_2 := rg w_r0_1_2
  try simp only [k0_r0_1_0, k0_r0_1_2] at hp0
  try simp only [k0_r0_1_0, k0_r0_1_2] at hp1
  try simp only [k0_r0_1_0, k0_r0_1_2] at hp2
  try simp only [k0_r0_1_0, k0_r0_1_2] at hp3
  try simp only [k0_r0_1_0, k0_r0_1_2] at hp4
  refine k_aload_n C rfl rfl rfl ?_
  refine k_iload_n C rfl rfl rfl ?_
  refine w2_VR C (s_X11_toldTable_x hS hI H_r0) rfl rfl rfl rfl rfl ⟨_, rfl, rfl, T_r0, Nat.le_of_ble_eq_true rfl⟩ rfl rfl (Nat.le_of_ble_eq_true rfl) (Nat.le_of_ble_eq_true rfl) (Nat.le_of_ble_eq_true rfl) (by decide) (fun e9 he I9 L9 hq => by obtain ⟨⟨rfl, rfl⟩, hq⟩ := hq; exact Or.inl ⟨rfl, Or.inr ⟨e9, _, _, (by decide : ∀ z ∈ [3], z ∈ [2, 3]) e9 he, rfl, rfl, ⟨⟨hI, (by (try simp only [z_r0_0, z_r0_1, z_r0_2, z_r0_5, z_r0_6, z_r0_7, z_r0_8, z_r0_9, z_r0_10, z_r0_11, z_r0_12, z_r0_13, z_r0_1_6, z_r0_1_7, z_r0_1_8, z_r0_1_9, z_r0_1_10, z_r0_5_0, z_r0_5_1, z_r0_5_2, z_r0_5_0_6, z_r0_5_0_7, z_r0_5_0_8, z_r0_5_0_9, z_r0_5_0_10]); exact Chg.rf)⟩, (fun h9 => by subst h9; exact absurd he (by decide)), (fun h9 => by subst h9; exact absurd he (by decide)), (fun h9 => by subst h9; first | exact absurd he (by decide) | (have hx := hq rfl; simp only [z_r0_0, z_r0_1, z_r0_2, z_r0_5, z_r0_6, z_r0_7, z_r0_8, z_r0_9, z_r0_10, z_r0_11, z_r0_12, z_r0_13, z_r0_1_6, z_r0_1_7, z_r0_1_8, z_r0_1_9, z_r0_1_10, z_r0_5_0, z_r0_5_1, z_r0_5_2, z_r0_5_0_6, z_r0_5_0_7, z_r0_5_0_8, z_r0_5_0_9, z_r0_5_0_10, k0_r0_1_2] at hx ⊢; exact hx)), (fun h9 => by subst h9; first | exact absurd he (by decide) | (exact fun _ _ => rfl))⟩⟩⟩) ?_
  rintro yy1 _ _ ⟨hyy1, p0yy1, p1yy1, rfl, rfl⟩
  obtain ⟨rr2, err2, H_rr2⟩ := hyy1
  subst err2
  try simp only [z_r0_0, z_r0_1, z_r0_2, z_r0_5, z_r0_6, z_r0_7, z_r0_8, z_r0_9, z_r0_10, z_r0_11, z_r0_12, z_r0_13, z_r0_1_6, z_r0_1_7, z_r0_1_8, z_r0_1_9, z_r0_1_10, z_r0_5_0, z_r0_5_1, z_r0_5_2, z_r0_5_0_6, z_r0_5_0_7, z_r0_5_0_8, z_r0_5_0_9, z_r0_5_0_10] at p0yy1
  try simp only [z_r0_0, z_r0_1, z_r0_2, z_r0_5, z_r0_6, z_r0_7, z_r0_8, z_r0_9, z_r0_10, z_r0_11, z_r0_12, z_r0_13, z_r0_1_6, z_r0_1_7, z_r0_1_8, z_r0_1_9, z_r0_1_10, z_r0_5_0, z_r0_5_1, z_r0_5_2, z_r0_5_0_6, z_r0_5_0_7, z_r0_5_0_8, z_r0_5_0_9, z_r0_5_0_10] at p1yy1
  try simp only [k0_r0_1_0, k0_r0_1_2] at p0yy1
  try have q0yy1 := congrArg Int32.toInt p0yy1
  try simp only [k0_r0_1_0, k0_r0_1_2] at p1yy1
  try have q1yy1 := congrArg Int32.toInt p1yy1
  have hT1 := p0yy1.symm; have hB1 := p1yy1; have nT1 := ncn (n := 8) (j := n1) (by omega) (by omega); have nZ1 := ncz (x := n1) (by omega); have oT1 := TA_e z_r0_1_9 hT1
  refine k_astore_n C (lw := [(2, .ref rr2), (0, .ref r0), (1, .int n1)]) rfl rfl (Nat.le_of_ble_eq_true rfl) rfl ?_
  refine k_aload_n C rfl rfl rfl ?_
  refine g_R C rfl rfl rfl T_r0 rfl R_r0_1 ?_
  refine c_VR C (s_X8_nextTable_x hS hI H_r0_1 (by first | omega | (simp only [k0_r0_1_0, k0_r0_1_2, and_true, true_and, or_true, true_or, and_false, false_and, or_false, false_or] <;> omega))) rfl rfl rfl rfl rfl ⟨_, rfl, rfl, T_r0_1, Nat.le_of_ble_eq_true rfl⟩ rfl rfl (Nat.le_of_ble_eq_true rfl) (Nat.le_of_ble_eq_true rfl) (Nat.le_of_ble_eq_true rfl) ?_
  rintro yy3 I4 L5 ⟨hyy3, p0yy3, hI4, S6⟩
  try simp only [z_r0_0, z_r0_1, z_r0_2, z_r0_5, z_r0_6, z_r0_7, z_r0_8, z_r0_9, z_r0_10, z_r0_11, z_r0_12, z_r0_13, z_r0_1_6, z_r0_1_7, z_r0_1_8, z_r0_1_9, z_r0_1_10, z_r0_5_0, z_r0_5_1, z_r0_5_2, z_r0_5_0_6, z_r0_5_0_7, z_r0_5_0_8, z_r0_5_0_9, z_r0_5_0_10] at S6
  have e7 := Chg.k S6 T_r0_1 (by decide) (by decide) k0_r0_1_0
  obtain ⟨x8, e9⟩ : ∃ x, I4 r0_1 2 = x := ⟨_, rfl⟩
  have gx8 := rg x8
  try simp only [z_r0_0, z_r0_1, z_r0_2, z_r0_5, z_r0_6, z_r0_7, z_r0_8, z_r0_9, z_r0_10, z_r0_11, z_r0_12, z_r0_13, z_r0_1_6, z_r0_1_7, z_r0_1_8, z_r0_1_9, z_r0_1_10, z_r0_5_0, z_r0_5_1, z_r0_5_2, z_r0_5_0_6, z_r0_5_0_7, z_r0_5_0_8, z_r0_5_0_9, z_r0_5_0_10] at p0yy3
  try simp only [k0_r0_1_0, k0_r0_1_2, e9] at p0yy3
  try have q0yy3 := congrArg Int32.toInt p0yy3
  have hnt := p0yy3; have hNS := S6
  refine k_astore_nV C (x := yy3) (lw := [(3, va_rf yy3), (2, .ref rr2), (0, .ref r0), (1, .int n1)]) rfl rfl (Nat.le_of_ble_eq_true rfl) rfl ?_
  refine k_aload_nV C (x := yy3) rfl rfl rfl ?_
  refine k_ifnonnull C (x := yy3) (t := 26) rfl rfl rfl (fun c10 => ?_) (fun rr11 c10 => ?_)
  · skip
    subst c10
    have hnx := NXD.no hnt E_r0_1_9 (by omega)
    exact k_throw C rfl rfl rfl rfl rfl rfl (Nat.le_of_ble_eq_true rfl) (Nat.le_of_ble_eq_true rfl) (Nat.le_of_ble_eq_true rfl) (Or.inr ⟨_, _, _, (by decide : 2 ∈ [2, 3]), rfl, rfl, ⟨⟨hI4, (by (try simp only [z_r0_0, z_r0_1, z_r0_2, z_r0_5, z_r0_6, z_r0_7, z_r0_8, z_r0_9, z_r0_10, z_r0_11, z_r0_12, z_r0_13, z_r0_1_6, z_r0_1_7, z_r0_1_8, z_r0_1_9, z_r0_1_10, z_r0_5_0, z_r0_5_1, z_r0_5_2, z_r0_5_0_6, z_r0_5_0_7, z_r0_5_0_8, z_r0_5_0_9, z_r0_5_0_10]); exact (Chg.mono (Chg.up S6 (sl_1 (Or.inl rfl))) (by decide)))⟩, (fun _ => by simp only [z_r0_0, z_r0_1, z_r0_2, z_r0_5, z_r0_6, z_r0_7, z_r0_8, z_r0_9, z_r0_10, z_r0_11, z_r0_12, z_r0_13, z_r0_1_6, z_r0_1_7, z_r0_1_8, z_r0_1_9, z_r0_1_10, z_r0_5_0, z_r0_5_1, z_r0_5_2, z_r0_5_0_6, z_r0_5_0_7, z_r0_5_0_8, z_r0_5_0_9, z_r0_5_0_10, k0_r0_1_2]; omega), (fun _ => by exact EXC0 hNS T_r0_1 (by rw [e9, k0_r0_1_2]; exact (hnt.2 hnx).2)), (fun h9 => absurd h9 (by decide)), (fun h9 => absurd h9 (by decide))⟩⟩)
  subst c10
  have H_rr11 := hyy3 rr11 rfl
  have hnx := NXD.yes hnt (by omega); have oN := TA_e z_r0_1_9 hnx.2.1; have tN := H_rr11.1
  refine k_aload_n C rfl rfl rfl ?_
  refine g_R C rfl rfl rfl T_r0 rfl R_r0_5 ?_
  refine k_aload_n C rfl rfl rfl ?_
  refine g_R C rfl rfl rfl T_r0 rfl R_r0_5 ?_
  refine k_aload_n C rfl rfl rfl ?_
  obtain ⟨T_rr2, A_rr2, B_rr2⟩ := id H_rr2
  refine z_gI C rfl rfl rfl T_rr2 rfl (fun x12 ex12 => ?_)
  have gx12 := rg x12
  refine k_aload_n C rfl rfl rfl ?_
  refine z_gI C rfl rfl rfl T_rr2 rfl (fun x13 ex13 => ?_)
  have gx13 := rg x13
  refine k_aload_n C rfl rfl rfl ?_
  refine z_gI C rfl rfl rfl T_rr2 rfl (fun x14 ex14 => ?_)
  have gx14 := rg x14
  refine k_aload_n C rfl rfl rfl ?_
  refine z_gI C rfl rfl rfl T_rr2 rfl (fun x15 ex15 => ?_)
  have gx15 := rg x15
  refine c_VI C (s_X0_detOf_x hS hI4 H_r0_5) rfl rfl rfl rfl rfl ⟨_, rfl, rfl, T_r0_5, Nat.le_of_ble_eq_true rfl⟩ rfl rfl (Nat.le_of_ble_eq_true rfl) (Nat.le_of_ble_eq_true rfl) (Nat.le_of_ble_eq_true rfl) ?_
  rintro x16 _ _ ⟨o0x16, o1x16, p0x16, rfl, rfl⟩
  have gx16 := rg x16
  try simp only [z_r0_0, z_r0_1, z_r0_2, z_r0_5, z_r0_6, z_r0_7, z_r0_8, z_r0_9, z_r0_10, z_r0_11, z_r0_12, z_r0_13, z_r0_1_6, z_r0_1_7, z_r0_1_8, z_r0_1_9, z_r0_1_10, z_r0_5_0, z_r0_5_1, z_r0_5_2, z_r0_5_0_6, z_r0_5_0_7, z_r0_5_0_8, z_r0_5_0_9, z_r0_5_0_10] at p0x16
  try simp only [e7, e9, ex12, ex13, ex14, ex15] at p0x16
  try have q0x16 := congrArg Int32.toInt p0x16
  have hdt := p0x16; rw [hp2] at hdt; (try simp only [e7] at hdt)
  refine c_VI C (s_X0_inverse_x hS hI4 H_r0_5 (by omega) (by omega) (by rw [z_r0_5_0, hp2, e7]; exact hp4)) rfl rfl rfl rfl rfl ⟨_, rfl, rfl, T_r0_5, Nat.le_of_ble_eq_true rfl⟩ rfl rfl (Nat.le_of_ble_eq_true rfl) (Nat.le_of_ble_eq_true rfl) (Nat.le_of_ble_eq_true rfl) ?_
  rintro x17 _ _ ⟨o0x17, o1x17, p0x17, rfl, rfl⟩
  have gx17 := rg x17
  try simp only [z_r0_0, z_r0_1, z_r0_2, z_r0_5, z_r0_6, z_r0_7, z_r0_8, z_r0_9, z_r0_10, z_r0_11, z_r0_12, z_r0_13, z_r0_1_6, z_r0_1_7, z_r0_1_8, z_r0_1_9, z_r0_1_10, z_r0_5_0, z_r0_5_1, z_r0_5_2, z_r0_5_0_6, z_r0_5_0_7, z_r0_5_0_8, z_r0_5_0_9, z_r0_5_0_10] at p0x17
  try simp only [e7, e9, ex12, ex13, ex14, ex15] at p0x17
  try have q0x17 := congrArg Int32.toInt p0x17
  have hin := p0x17; rw [hp2] at hin; (try simp only [e7] at hin)
  refine k_istore C (lw := [(4, .int x17), (3, .ref rr11), (2, .ref rr2), (0, .ref r0), (1, .int n1)]) rfl rfl (Nat.le_of_ble_eq_true rfl) rfl ?_
  refine k_aload_n C rfl rfl rfl ?_
  refine g_R C rfl rfl rfl T_r0 rfl R_r0_5 ?_
  refine k_aload_n C rfl rfl rfl ?_
  refine k_aload_n C rfl rfl rfl ?_
  refine g_I C rfl rfl rfl T_rr2 rfl ex15 ?_
  refine k_iload C rfl rfl rfl ?_
  have ea0 := (congrFun (Chg.at hNS (nm_1 (t_nq T_rr2 T_r0_1 (by decide)))) 0).symm.trans ex12; have ba0 := hp3 n1.toNatClampNeg (by omega) 0 (by decide); rw [oT1, ea0] at ba0; have ea1 := (congrFun (Chg.at hNS (nm_1 (t_nq T_rr2 T_r0_1 (by decide)))) 1).symm.trans ex13; have ba1 := hp3 n1.toNatClampNeg (by omega) 1 (by decide); rw [oT1, ea1] at ba1; have ea2 := (congrFun (Chg.at hNS (nm_1 (t_nq T_rr2 T_r0_1 (by decide)))) 2).symm.trans ex14; have ba2 := hp3 n1.toNatClampNeg (by omega) 2 (by decide); rw [oT1, ea2] at ba2; have ea3 := (congrFun (Chg.at hNS (nm_1 (t_nq T_rr2 T_r0_1 (by decide)))) 3).symm.trans ex15; have ba3 := hp3 n1.toNatClampNeg (by omega) 3 (by decide); rw [oT1, ea3] at ba3
  refine z_imulN C rfl rfl (fun x18 hm69 => ?_)
  have gx18 := rg x18
  have mm69 := hm69.2
  clear hm69
  refine k_aload_n C rfl rfl rfl ?_
  refine g_I C rfl rfl rfl T_rr2 rfl ex13 ?_
  refine z_ineg C rfl rfl (by omega) (fun x19 ex19 => ?_)
  refine k_iload C rfl rfl rfl ?_
  refine z_imulN C rfl rfl (fun x20 hm77 => ?_)
  have gx20 := rg x20
  have mm77 := hm77.2
  clear hm77
  refine k_aload_n C rfl rfl rfl ?_
  refine g_I C rfl rfl rfl T_rr2 rfl ex14 ?_
  refine z_ineg C rfl rfl (by omega) (fun x21 ex21 => ?_)
  refine k_iload C rfl rfl rfl ?_
  refine z_imulN C rfl rfl (fun x22 hm85 => ?_)
  have gx22 := rg x22
  have mm85 := hm85.2
  clear hm85
  refine k_aload_n C rfl rfl rfl ?_
  refine g_I C rfl rfl rfl T_rr2 rfl ex12 ?_
  refine k_iload C rfl rfl rfl ?_
  refine z_imulN C rfl rfl (fun x23 hm92 => ?_)
  have gx23 := rg x23
  have mm92 := hm92.2
  clear hm92
  have hk93 := e7
  obtain ⟨T_rr11, A_rr11, B_rr11⟩ := id H_rr11
  refine c_VV C (s_X0_fill_x hS hI4 H_r0_5 H_rr11) rfl rfl rfl rfl rfl ⟨_, rfl, rfl, T_r0_5, Nat.le_of_ble_eq_true rfl⟩ rfl rfl (Nat.le_of_ble_eq_true rfl) (Nat.le_of_ble_eq_true rfl) (Nat.le_of_ble_eq_true rfl) ?_
  rintro I25 L26 ⟨p0v24, p1v24, p2v24, p3v24, hI25, S27⟩
  try simp only [z_r0_0, z_r0_1, z_r0_2, z_r0_5, z_r0_6, z_r0_7, z_r0_8, z_r0_9, z_r0_10, z_r0_11, z_r0_12, z_r0_13, z_r0_1_6, z_r0_1_7, z_r0_1_8, z_r0_1_9, z_r0_1_10, z_r0_5_0, z_r0_5_1, z_r0_5_2, z_r0_5_0_6, z_r0_5_0_7, z_r0_5_0_8, z_r0_5_0_9, z_r0_5_0_10] at S27
  have e28 := Chg.k S27 T_r0_1 (by decide) (by decide) e7
  have e29 := Chg.k S27 T_r0_1 (by decide) (by decide) e9
  try simp only [z_r0_0, z_r0_1, z_r0_2, z_r0_5, z_r0_6, z_r0_7, z_r0_8, z_r0_9, z_r0_10, z_r0_11, z_r0_12, z_r0_13, z_r0_1_6, z_r0_1_7, z_r0_1_8, z_r0_1_9, z_r0_1_10, z_r0_5_0, z_r0_5_1, z_r0_5_2, z_r0_5_0_6, z_r0_5_0_7, z_r0_5_0_8, z_r0_5_0_9, z_r0_5_0_10] at p0v24
  try simp only [z_r0_0, z_r0_1, z_r0_2, z_r0_5, z_r0_6, z_r0_7, z_r0_8, z_r0_9, z_r0_10, z_r0_11, z_r0_12, z_r0_13, z_r0_1_6, z_r0_1_7, z_r0_1_8, z_r0_1_9, z_r0_1_10, z_r0_5_0, z_r0_5_1, z_r0_5_2, z_r0_5_0_6, z_r0_5_0_7, z_r0_5_0_8, z_r0_5_0_9, z_r0_5_0_10] at p1v24
  try simp only [z_r0_0, z_r0_1, z_r0_2, z_r0_5, z_r0_6, z_r0_7, z_r0_8, z_r0_9, z_r0_10, z_r0_11, z_r0_12, z_r0_13, z_r0_1_6, z_r0_1_7, z_r0_1_8, z_r0_1_9, z_r0_1_10, z_r0_5_0, z_r0_5_1, z_r0_5_2, z_r0_5_0_6, z_r0_5_0_7, z_r0_5_0_8, z_r0_5_0_9, z_r0_5_0_10] at p2v24
  try simp only [z_r0_0, z_r0_1, z_r0_2, z_r0_5, z_r0_6, z_r0_7, z_r0_8, z_r0_9, z_r0_10, z_r0_11, z_r0_12, z_r0_13, z_r0_1_6, z_r0_1_7, z_r0_1_8, z_r0_1_9, z_r0_1_10, z_r0_5_0, z_r0_5_1, z_r0_5_2, z_r0_5_0_6, z_r0_5_0_7, z_r0_5_0_8, z_r0_5_0_9, z_r0_5_0_10] at p3v24
  try simp only [e7, e9, ex12, ex13, ex14, ex15] at p0v24
  try have q0v24 := congrArg Int32.toInt p0v24
  try simp only [e7, e9, ex12, ex13, ex14, ex15] at p1v24
  try have q1v24 := congrArg Int32.toInt p1v24
  try simp only [e7, e9, ex12, ex13, ex14, ex15] at p2v24
  try have q2v24 := congrArg Int32.toInt p2v24
  try simp only [e7, e9, ex12, ex13, ex14, ex15] at p3v24
  try have q3v24 := congrArg Int32.toInt p3v24
  have hs0 := p0v24; have hs1 := p1v24; have hs2 := p2v24; have hs3 := p3v24; rw [hp2, hk93] at hs0 hs1 hs2 hs3
  refine k_aload_n C rfl rfl rfl ?_
  refine g_R C rfl rfl rfl T_r0 rfl R_r0_1 ?_
  refine g_I C rfl rfl rfl T_r0_1 rfl e29 ?_
  refine z_iconst C (z := 1) rfl rfl rfl (fun x30 ex30 => ?_)
  refine z_isub C rfl rfl ⟨by omega, by omega⟩ (fun x31 ex31 => ?_)
  exact k_iret C rfl (Or.inl rfl) (Nat.le_of_ble_eq_true rfl) (Nat.le_of_ble_eq_true rfl) (Or.inl ⟨_, _, _, rfl, rfl, by (try simp only [z_r0_0, z_r0_1, z_r0_2, z_r0_5, z_r0_6, z_r0_7, z_r0_8, z_r0_9, z_r0_10, z_r0_11, z_r0_12, z_r0_13, z_r0_1_6, z_r0_1_7, z_r0_1_8, z_r0_1_9, z_r0_1_10, z_r0_5_0, z_r0_5_1, z_r0_5_2, z_r0_5_0_6, z_r0_5_0_7, z_r0_5_0_8, z_r0_5_0_9, z_r0_5_0_10]); simp only [k0_r0_1_2]; omega, by (try simp only [z_r0_0, z_r0_1, z_r0_2, z_r0_5, z_r0_6, z_r0_7, z_r0_8, z_r0_9, z_r0_10, z_r0_11, z_r0_12, z_r0_13, z_r0_1_6, z_r0_1_7, z_r0_1_8, z_r0_1_9, z_r0_1_10, z_r0_5_0, z_r0_5_1, z_r0_5_2, z_r0_5_0_6, z_r0_5_0_7, z_r0_5_0_8, z_r0_5_0_9, z_r0_5_0_10]); rw [e29]; simp only [k0_r0_1_2]; omega, by (try simp only [z_r0_0, z_r0_1, z_r0_2, z_r0_5, z_r0_6, z_r0_7, z_r0_8, z_r0_9, z_r0_10, z_r0_11, z_r0_12, z_r0_13, z_r0_1_6, z_r0_1_7, z_r0_1_8, z_r0_1_9, z_r0_1_10, z_r0_5_0, z_r0_5_1, z_r0_5_2, z_r0_5_0_6, z_r0_5_0_7, z_r0_5_0_8, z_r0_5_0_9, z_r0_5_0_10]); rw [k0_r0_1_2, oN, oT1, ea0, ea1, ea2, ea3, k0_r0_1_0]; exact TBC.of hin hdt (by omega) rfl rfl rfl rfl ba0 ba1 ba2 ba3 (by assumption) (by assumption) mm69 mm77 mm85 mm92 hs0 hs1 hs2 hs3, hI25, (by (try simp only [z_r0_0, z_r0_1, z_r0_2, z_r0_5, z_r0_6, z_r0_7, z_r0_8, z_r0_9, z_r0_10, z_r0_11, z_r0_12, z_r0_13, z_r0_1_6, z_r0_1_7, z_r0_1_8, z_r0_1_9, z_r0_1_10, z_r0_5_0, z_r0_5_1, z_r0_5_2, z_r0_5_0_6, z_r0_5_0_7, z_r0_5_0_8, z_r0_5_0_9, z_r0_5_0_10]); exact (Chg.cons (Chg.up S6 (sl_1 (Or.inl rfl))) (Chg.mono (Chg.up S27 (sl_1 (Or.inr (by rw [k0_r0_1_2, oN])))) (by decide)) (by decide)))⟩)

theorem s_X4_put_x {d : Nat} {T N : Nat → Nat} {I : IT} {L : LT} {R : RT} {A B : Nat → Prop} {r0 : Nat} {n1 : Int32} (hS : SUB B A) (hI : IX A T I) (H_r0 : (hs_Rd T N R A B) r0) (hp0 : 0 ≤ (I r0 1).toInt) (hp1 : (I r0 1).toInt ≤ 396) : Ex (d + 1) 59 [.ref r0, .int n1] (T, N, I, L, R) 0 0 (pV T N R (fun I9 L9 => ((I9 r0 1).toInt = (I r0 1).toInt + 4) ∧ (PTD (I9 (rA R r0 2)) (I (rA R r0 2)) (I r0 1).toNatClampNeg n1.toInt 4) ∧ (IX A T I9 ∧ Chg (SL [r0, (rA R r0 2)]) T [(5, 1)] I L I9 L9))) := by
  refine ⟨_, rfl, Nat.le_of_ble_eq_true rfl, fun V C S => ?_⟩
  show V 0 [(0, .ref r0), (1, .int n1)] [] (T, N, I, L, R) 0 0
  have gn1 := rg n1
  obtain ⟨T_r0, A_r0, B_r0, ⟨r0_0, R_r0_0, H_r0_0⟩, ⟨r0_2, R_r0_2, H_r0_2⟩⟩ := id H_r0
  have z_r0_0 : rA R r0 0 = r0_0 := rA_e R_r0_0
  have z_r0_2 : rA R r0 2 = r0_2 := rA_e R_r0_2
  obtain ⟨T_r0_2, N_r0_2, A_r0_2⟩ := id H_r0_2
  try simp only [z_r0_0, z_r0_2] at hp0
  try simp only [z_r0_0, z_r0_2] at hp1
  obtain ⟨w_r0_1, k0_r0_1⟩ : ∃ x, I r0 1 = x := ⟨_, rfl⟩
  have gw_r0_1 := rg w_r0_1
  try simp only [k0_r0_1] at hp0
  try simp only [k0_r0_1] at hp1
  refine z_bipush C (z := 24) rfl rfl rfl (fun x1 ex1 => ?_)
  have J2 : ∀ (nn3 : Nat) (I4 : IT) (L5 : LT) (x6 : Int32) (x11 : Int32), (MN (x6.toInt - (-8)) nn3) → (IX A T I4) → (Chg (SL [r0, r0_2]) T [(5, 1)] I L I4 L5) → (-8 ≤ x6.toInt) → (x6.toInt ≤ 24) → (I4 r0 1 = x11) → (0 ≤ x11.toInt) → (x11.toInt ≤ 400) → (8 * x11.toInt = 8 * w_r0_1.toInt + 24 - x6.toInt) → (x6.toInt % 8 = 0) → (PTD (I4 r0_2) (I r0_2) w_r0_1.toNatClampNeg n1.toInt ((24 - x6.toInt) / 8)) → V 3 [(0, .ref r0), (1, .int n1), (2, .int x6)] [] (T, N, I4, L5, R) 0 0 := by
    intro nn3
    induction nn3 using Nat.strongRecOn with
    | _ nn3 ihJ2 =>
      intro I4 L5 x6 x11 hmnn3 hI10 S9 b7 b8 e12 b13 b14 ff3_0 ff3_1 ff3_2
      have gx6 := rg x6
      have gx11 := rg x11
      refine k_iload_n C rfl rfl rfl ?_
      refine b_if_lt C (t := 58) rfl rfl rfl (fun c18 => ?_) (fun c18 => ?_)
      · skip
        exact k_vret C rfl rfl (Nat.le_of_ble_eq_true rfl) (Nat.le_of_ble_eq_true rfl) ⟨_, _, rfl, rfl, by (try simp only [z_r0_0, z_r0_2]); rw [e12]; simp only [k0_r0_1]; omega, by (try simp only [z_r0_0, z_r0_2]); simp only [k0_r0_1]; have h9 : (24 - x6.toInt) / 8 = 4 := (by omega); rw [← h9]; exact ff3_2, hI10, (by (try simp only [z_r0_0, z_r0_2]); exact (Chg.mono S9 (by decide)))⟩
      refine k_aload_n C rfl rfl rfl ?_
      refine g_I C rfl rfl rfl T_r0 rfl e12 ?_
      refine b_if_lt C (t := 52) rfl rfl rfl (fun c19 => by exfalso; omega) (fun c19 => ?_)
      refine k_aload_n C rfl rfl rfl ?_
      refine g_I C rfl rfl rfl T_r0 rfl e12 ?_
      refine k_aload_n C rfl rfl rfl ?_
      refine g_R C rfl rfl rfl T_r0 rfl R_r0_2 ?_
      refine z_len C (n := 400) rfl rfl (by rw [T_r0_2]; exact Nat.le_of_ble_eq_true rfl) N_r0_2 (Nat.le_of_ble_eq_true rfl) (fun x20 ex20 => ?_)
      refine b_icmp_ge C (t := 52) rfl rfl rfl (fun c21 => ?_) (fun c21 => ?_)
      · skip
        refine z_iinc C (z := -8) (lw := fun x22 => [(2, .int x22), (0, .ref r0), (1, .int n1)]) rfl rfl rfl (Nat.le_of_ble_eq_true rfl) rfl ⟨by omega, by omega⟩ (fun _ => rfl) (fun x22 ex22 => ?_)
        show V 55 [(2, .int x22), (0, .ref r0), (1, .int n1)] _ _ _ _
        refine k_goto C (pc2 := 3) rfl rfl ?_
        refine k_sub S [(0, .ref r0), (1, .int n1), (2, .int x22)] (List.forall_mem_cons.mpr ⟨List.mem_of_getElem? (i := 1) rfl, List.forall_mem_cons.mpr ⟨List.mem_of_getElem? (i := 2) rfl, List.forall_mem_cons.mpr ⟨List.mem_of_getElem? (i := 0) rfl, fun _ h => nomatch h⟩⟩⟩) ?_
        exact ihJ2 _ (MN.lt hmnn3 (by omega) (by omega)) I4 L5 x22 x11 rfl hI10 (Chg.mono S9 (by decide)) (by omega) (by omega) e12 (by omega) (by omega) (by omega) (by omega) (by first | (exfalso; omega) | exact PTD.s ff3_2 hu41 (by rw [hu49]; exact u2_r (t_nq T_r0_2 T_r0 (by decide))) m40 m36 rfl (by omega) (by omega) (by have := ncz (x := w_r0_1) (by omega); omega) (by omega))
      refine k_aload_n C rfl rfl rfl ?_
      refine g_R C rfl rfl rfl T_r0 rfl R_r0_2 ?_
      refine k_aload_n C rfl rfl rfl ?_
      refine g_I C rfl rfl rfl T_r0 rfl e12 ?_
      refine k_iload_n C rfl rfl rfl ?_
      refine k_iload_n C rfl rfl rfl ?_
      refine z_iushrX C rfl rfl (fun x23 ex23 => ?_)
      have gx23 := rg x23
      have m36 := ex23
      refine z_sipush C (z := 255) rfl rfl rfl (fun x24 ex24 => ?_)
      refine z_iand255 C rfl rfl (by omega) (fun x25 ex25 => ?_)
      have gx25 := rg x25
      have m40 := ex25
      refine z_sI C rfl rfl T_r0_2 N_r0_2 (by omega) (by omega) (fun I26 uI26 => ?_)
      have hI26 : IX A T I26 := IX.a hI10 T_r0_2 (Nat.le_of_ble_eq_true rfl) uI26
      have S27 : Chg (SL [r0_2]) T [] I4 L5 I26 L5 := Chg.a List.mem_cons_self T_r0_2 (Nat.le_of_ble_eq_true rfl) uI26
      have e28 := u2_n uI26 (t_nq T_r0 T_r0_2 (by decide)) e12
      have hu41 := uI26
      refine k_aload_n C rfl rfl rfl ?_
      refine k_dup C rfl rfl rfl ?_
      refine g_I C rfl rfl rfl T_r0 rfl e28 ?_
      refine z_iconst C (z := 1) rfl rfl rfl (fun x29 ex29 => ?_)
      refine z_iadd C rfl rfl ⟨by omega, by omega⟩ (fun x30 ex30 => ?_)
      refine z_pI C rfl rfl rfl T_r0 (Or.inr rfl) rfl (fun I31 uI31 => ?_)
      have hI31 : IX A T I31 := IX.f hI26 T_r0 (boX.tr (by decide) (by decide)) uI31
      have S32 : Chg (SL [r0]) T [(5, 1)] I26 L5 I31 L5 := Chg.f List.mem_cons_self T_r0 uI31
      have e33 := u2_e uI31
      have hu49 := uI31
      refine z_iinc C (z := -8) (lw := fun x34 => [(2, .int x34), (0, .ref r0), (1, .int n1)]) rfl rfl rfl (Nat.le_of_ble_eq_true rfl) rfl ⟨by omega, by omega⟩ (fun _ => rfl) (fun x34 ex34 => ?_)
      show V 55 [(2, .int x34), (0, .ref r0), (1, .int n1)] _ _ _ _
      refine k_goto C (pc2 := 3) rfl rfl ?_
      refine k_sub S [(0, .ref r0), (1, .int n1), (2, .int x34)] (List.forall_mem_cons.mpr ⟨List.mem_of_getElem? (i := 1) rfl, List.forall_mem_cons.mpr ⟨List.mem_of_getElem? (i := 2) rfl, List.forall_mem_cons.mpr ⟨List.mem_of_getElem? (i := 0) rfl, fun _ h => nomatch h⟩⟩⟩) ?_
      exact ihJ2 _ (MN.lt hmnn3 (by omega) (by omega)) I31 L5 x34 x30 rfl hI31 (Chg.cons S9 (Chg.cons (Chg.up S27 (List.forall_mem_cons.mpr ⟨List.mem_of_getElem? (i := 1) rfl, fun _ h => nomatch h⟩)) (Chg.mono (Chg.up S32 (List.forall_mem_cons.mpr ⟨List.mem_of_getElem? (i := 0) rfl, fun _ h => nomatch h⟩)) (by decide)) (by decide)) (by decide)) (by omega) (by omega) e33 (by omega) (by omega) (by omega) (by omega) (by first | (exfalso; omega) | exact PTD.s ff3_2 hu41 (by rw [hu49]; exact u2_r (t_nq T_r0_2 T_r0 (by decide))) m40 m36 rfl (by omega) (by omega) (by have := ncz (x := w_r0_1) (by omega); omega) (by omega))
  refine k_istore_n C (lw := [(2, .int x1), (0, .ref r0), (1, .int n1)]) rfl rfl (Nat.le_of_ble_eq_true rfl) rfl ?_
  refine k_sub S [(0, .ref r0), (1, .int n1), (2, .int x1)] (List.forall_mem_cons.mpr ⟨List.mem_of_getElem? (i := 1) rfl, List.forall_mem_cons.mpr ⟨List.mem_of_getElem? (i := 2) rfl, List.forall_mem_cons.mpr ⟨List.mem_of_getElem? (i := 0) rfl, fun _ h => nomatch h⟩⟩⟩) ?_
  exact J2 _ I L x1 w_r0_1 rfl hI Chg.rf (by omega) (by omega) k0_r0_1 (by omega) (by omega) (by omega) (by omega) (by exact PTD.z rfl (by omega))

theorem s_X11_feed_x {d : Nat} {T N : Nat → Nat} {I : IT} {L : LT} {R : RT} {A B : Nat → Prop} {r0 : Nat} {n1 n2 n3 n4 n5 : Int32} (hS : SUB B A) (hI : IX A T I) (H_r0 : (hs_LF T N R A B) r0) (hp0 : 0 ≤ (I (rA R r0 0) 1).toInt) (hp1 : (I (rA R r0 0) 1).toInt ≤ 400) : Ex (d + 2) 126 [.ref r0, .int n1, .int n2, .int n3, .int n4, .int n5] (T, N, I, L, R) 0 0 (pI T N R (fun x9 I9 L9 => (380 < (I (rA R r0 0) 1).toInt ∧ x9.toInt = -1 ∧ (I9 (rA R r0 0) 1).toInt = (I (rA R r0 0) 1).toInt ∧ I9 (rA R (rA R r0 0) 2) = I (rA R (rA R r0 0) 2) ∨ (I (rA R r0 0) 1).toInt ≤ 380 ∧ x9.toInt = (I (rA R r0 0) 1).toInt + 20 ∧ (I9 (rA R r0 0) 1).toInt = (I (rA R r0 0) 1).toInt + 20 ∧ FDC (I9 (rA R (rA R r0 0) 2)) (I (rA R (rA R r0 0) 2)) (I (rA R r0 0) 1).toNatClampNeg (F5 n1 n2 n3 n4 n5) 5) ∧ (IX A T I9 ∧ Chg (SL [(rA R r0 0), (rA R (rA R r0 0) 2)]) T [(5, 1)] I L I9 L9))) := by
  refine ⟨_, rfl, Nat.le_of_ble_eq_true rfl, fun V C S => ?_⟩
  show V 0 [(0, .ref r0), (1, .int n1), (2, .int n2), (3, .int n3), (4, .int n4), (5, .int n5)] [] (T, N, I, L, R) 0 0
  have gn1 := rg n1
  have gn2 := rg n2
  have gn3 := rg n3
  have gn4 := rg n4
  have gn5 := rg n5
  obtain ⟨T_r0, A_r0, B_r0, ⟨r0_0, R_r0_0, H_r0_0⟩, ⟨r0_1, R_r0_1, H_r0_1⟩, ⟨r0_2, R_r0_2, H_r0_2⟩, ⟨r0_5, R_r0_5, H_r0_5⟩, ⟨r0_6, R_r0_6, H_r0_6⟩, ⟨r0_7, R_r0_7, H_r0_7⟩, ⟨r0_8, R_r0_8, H_r0_8⟩, ⟨r0_9, R_r0_9, H_r0_9⟩, ⟨r0_10, R_r0_10, H_r0_10⟩, ⟨r0_11, R_r0_11, H_r0_11⟩, ⟨r0_12, R_r0_12, H_r0_12⟩, ⟨r0_13, R_r0_13, H_r0_13⟩⟩ := id H_r0
  have z_r0_0 : rA R r0 0 = r0_0 := rA_e R_r0_0
  have z_r0_1 : rA R r0 1 = r0_1 := rA_e R_r0_1
  have z_r0_2 : rA R r0 2 = r0_2 := rA_e R_r0_2
  have z_r0_5 : rA R r0 5 = r0_5 := rA_e R_r0_5
  have z_r0_6 : rA R r0 6 = r0_6 := rA_e R_r0_6
  have z_r0_7 : rA R r0 7 = r0_7 := rA_e R_r0_7
  have z_r0_8 : rA R r0 8 = r0_8 := rA_e R_r0_8
  have z_r0_9 : rA R r0 9 = r0_9 := rA_e R_r0_9
  have z_r0_10 : rA R r0 10 = r0_10 := rA_e R_r0_10
  have z_r0_11 : rA R r0 11 = r0_11 := rA_e R_r0_11
  have z_r0_12 : rA R r0 12 = r0_12 := rA_e R_r0_12
  have z_r0_13 : rA R r0 13 = r0_13 := rA_e R_r0_13
  obtain ⟨T_r0_0, A_r0_0, B_r0_0, ⟨r0_0_0, R_r0_0_0, H_r0_0_0⟩, ⟨r0_0_2, R_r0_0_2, H_r0_0_2⟩⟩ := id H_r0_0
  have z_r0_0_0 : rA R r0_0 0 = r0_0_0 := rA_e R_r0_0_0
  have z_r0_0_2 : rA R r0_0 2 = r0_0_2 := rA_e R_r0_0_2
  obtain ⟨T_r0_0_2, N_r0_0_2, A_r0_0_2⟩ := id H_r0_0_2
  try simp only [z_r0_0, z_r0_1, z_r0_2, z_r0_5, z_r0_6, z_r0_7, z_r0_8, z_r0_9, z_r0_10, z_r0_11, z_r0_12, z_r0_13, z_r0_0_0, z_r0_0_2] at hp0
  try simp only [z_r0_0, z_r0_1, z_r0_2, z_r0_5, z_r0_6, z_r0_7, z_r0_8, z_r0_9, z_r0_10, z_r0_11, z_r0_12, z_r0_13, z_r0_0_0, z_r0_0_2] at hp1
  obtain ⟨w_r0_0_1, k0_r0_0_1⟩ : ∃ x, I r0_0 1 = x := ⟨_, rfl⟩
  have gw_r0_0_1 := rg w_r0_0_1
  try simp only [k0_r0_0_1] at hp0
  try simp only [k0_r0_0_1] at hp1
  have hw9 := ncz (x := w_r0_0_1) (by omega)
  refine k_aload_n C rfl rfl rfl ?_
  refine g_R C rfl rfl rfl T_r0 rfl R_r0_0 ?_
  refine g_I C rfl rfl rfl T_r0_0 rfl k0_r0_0_1 ?_
  refine z_sipush C (z := 380) rfl rfl rfl (fun x1 ex1 => ?_)
  refine b_icmp_le C (t := 15) rfl rfl rfl (fun c2 => ?_) (fun c2 => ?_)
  · skip
    refine k_aload_n C rfl rfl rfl ?_
    refine g_R C rfl rfl rfl T_r0 rfl R_r0_0 ?_
    refine k_iload_n C rfl rfl rfl ?_
    refine c_VV C (s_X4_put_x hS hI H_r0_0 (by first | omega | (simp only [k0_r0_0_1, and_true, true_and, or_true, true_or, and_false, false_and, or_false, false_or] <;> omega)) (by first | omega | (simp only [k0_r0_0_1, and_true, true_and, or_true, true_or, and_false, false_and, or_false, false_or] <;> omega))) rfl rfl rfl rfl rfl ⟨_, rfl, rfl, T_r0_0, Nat.le_of_ble_eq_true rfl⟩ rfl rfl (Nat.le_of_ble_eq_true rfl) (Nat.le_of_ble_eq_true rfl) (Nat.le_of_ble_eq_true rfl) ?_
    rintro I4 L5 ⟨p0v3, p1v3, hI4, S6⟩
    try simp only [z_r0_0, z_r0_1, z_r0_2, z_r0_5, z_r0_6, z_r0_7, z_r0_8, z_r0_9, z_r0_10, z_r0_11, z_r0_12, z_r0_13, z_r0_0_0, z_r0_0_2] at S6
    obtain ⟨x7, e8⟩ : ∃ x, I4 r0_0 1 = x := ⟨_, rfl⟩
    have gx7 := rg x7
    try simp only [z_r0_0, z_r0_1, z_r0_2, z_r0_5, z_r0_6, z_r0_7, z_r0_8, z_r0_9, z_r0_10, z_r0_11, z_r0_12, z_r0_13, z_r0_0_0, z_r0_0_2] at p0v3
    try simp only [z_r0_0, z_r0_1, z_r0_2, z_r0_5, z_r0_6, z_r0_7, z_r0_8, z_r0_9, z_r0_10, z_r0_11, z_r0_12, z_r0_13, z_r0_0_0, z_r0_0_2] at p1v3
    try simp only [k0_r0_0_1, e8] at p0v3
    try have q0v3 := congrArg Int32.toInt p0v3
    try simp only [k0_r0_0_1, e8] at p1v3
    try have q1v3 := congrArg Int32.toInt p1v3
    have hP0 := p1v3; (try simp only [z_r0_0, z_r0_1, z_r0_2, z_r0_5, z_r0_6, z_r0_7, z_r0_8, z_r0_9, z_r0_10, z_r0_11, z_r0_12, z_r0_13, z_r0_0_0, z_r0_0_2] at hP0)
    refine k_aload_n C rfl rfl rfl ?_
    refine g_R C rfl rfl rfl T_r0 rfl R_r0_0 ?_
    refine k_iload_n C rfl rfl rfl ?_
    refine c_VV C (s_X4_put_x hS hI4 H_r0_0 (by first | omega | (simp only [e8, and_true, true_and, or_true, true_or, and_false, false_and, or_false, false_or] <;> omega)) (by first | omega | (simp only [e8, and_true, true_and, or_true, true_or, and_false, false_and, or_false, false_or] <;> omega))) rfl rfl rfl rfl rfl ⟨_, rfl, rfl, T_r0_0, Nat.le_of_ble_eq_true rfl⟩ rfl rfl (Nat.le_of_ble_eq_true rfl) (Nat.le_of_ble_eq_true rfl) (Nat.le_of_ble_eq_true rfl) ?_
    rintro I10 L11 ⟨p0v9, p1v9, hI10, S12⟩
    try simp only [z_r0_0, z_r0_1, z_r0_2, z_r0_5, z_r0_6, z_r0_7, z_r0_8, z_r0_9, z_r0_10, z_r0_11, z_r0_12, z_r0_13, z_r0_0_0, z_r0_0_2] at S12
    obtain ⟨x13, e14⟩ : ∃ x, I10 r0_0 1 = x := ⟨_, rfl⟩
    have gx13 := rg x13
    try simp only [z_r0_0, z_r0_1, z_r0_2, z_r0_5, z_r0_6, z_r0_7, z_r0_8, z_r0_9, z_r0_10, z_r0_11, z_r0_12, z_r0_13, z_r0_0_0, z_r0_0_2] at p0v9
    try simp only [z_r0_0, z_r0_1, z_r0_2, z_r0_5, z_r0_6, z_r0_7, z_r0_8, z_r0_9, z_r0_10, z_r0_11, z_r0_12, z_r0_13, z_r0_0_0, z_r0_0_2] at p1v9
    try simp only [e8, e14] at p0v9
    try have q0v9 := congrArg Int32.toInt p0v9
    try simp only [e8, e14] at p1v9
    try have q1v9 := congrArg Int32.toInt p1v9
    have hP1 := p1v9; (try simp only [z_r0_0, z_r0_1, z_r0_2, z_r0_5, z_r0_6, z_r0_7, z_r0_8, z_r0_9, z_r0_10, z_r0_11, z_r0_12, z_r0_13, z_r0_0_0, z_r0_0_2] at hP1)
    refine k_aload_n C rfl rfl rfl ?_
    refine g_R C rfl rfl rfl T_r0 rfl R_r0_0 ?_
    refine k_iload_n C rfl rfl rfl ?_
    refine c_VV C (s_X4_put_x hS hI10 H_r0_0 (by first | omega | (simp only [e14, and_true, true_and, or_true, true_or, and_false, false_and, or_false, false_or] <;> omega)) (by first | omega | (simp only [e14, and_true, true_and, or_true, true_or, and_false, false_and, or_false, false_or] <;> omega))) rfl rfl rfl rfl rfl ⟨_, rfl, rfl, T_r0_0, Nat.le_of_ble_eq_true rfl⟩ rfl rfl (Nat.le_of_ble_eq_true rfl) (Nat.le_of_ble_eq_true rfl) (Nat.le_of_ble_eq_true rfl) ?_
    rintro I16 L17 ⟨p0v15, p1v15, hI16, S18⟩
    try simp only [z_r0_0, z_r0_1, z_r0_2, z_r0_5, z_r0_6, z_r0_7, z_r0_8, z_r0_9, z_r0_10, z_r0_11, z_r0_12, z_r0_13, z_r0_0_0, z_r0_0_2] at S18
    obtain ⟨x19, e20⟩ : ∃ x, I16 r0_0 1 = x := ⟨_, rfl⟩
    have gx19 := rg x19
    try simp only [z_r0_0, z_r0_1, z_r0_2, z_r0_5, z_r0_6, z_r0_7, z_r0_8, z_r0_9, z_r0_10, z_r0_11, z_r0_12, z_r0_13, z_r0_0_0, z_r0_0_2] at p0v15
    try simp only [z_r0_0, z_r0_1, z_r0_2, z_r0_5, z_r0_6, z_r0_7, z_r0_8, z_r0_9, z_r0_10, z_r0_11, z_r0_12, z_r0_13, z_r0_0_0, z_r0_0_2] at p1v15
    try simp only [e14, e20] at p0v15
    try have q0v15 := congrArg Int32.toInt p0v15
    try simp only [e14, e20] at p1v15
    try have q1v15 := congrArg Int32.toInt p1v15
    have hP2 := p1v15; (try simp only [z_r0_0, z_r0_1, z_r0_2, z_r0_5, z_r0_6, z_r0_7, z_r0_8, z_r0_9, z_r0_10, z_r0_11, z_r0_12, z_r0_13, z_r0_0_0, z_r0_0_2] at hP2)
    refine k_aload_n C rfl rfl rfl ?_
    refine g_R C rfl rfl rfl T_r0 rfl R_r0_0 ?_
    refine k_iload C rfl rfl rfl ?_
    refine c_VV C (s_X4_put_x hS hI16 H_r0_0 (by first | omega | (simp only [e20, and_true, true_and, or_true, true_or, and_false, false_and, or_false, false_or] <;> omega)) (by first | omega | (simp only [e20, and_true, true_and, or_true, true_or, and_false, false_and, or_false, false_or] <;> omega))) rfl rfl rfl rfl rfl ⟨_, rfl, rfl, T_r0_0, Nat.le_of_ble_eq_true rfl⟩ rfl rfl (Nat.le_of_ble_eq_true rfl) (Nat.le_of_ble_eq_true rfl) (Nat.le_of_ble_eq_true rfl) ?_
    rintro I22 L23 ⟨p0v21, p1v21, hI22, S24⟩
    try simp only [z_r0_0, z_r0_1, z_r0_2, z_r0_5, z_r0_6, z_r0_7, z_r0_8, z_r0_9, z_r0_10, z_r0_11, z_r0_12, z_r0_13, z_r0_0_0, z_r0_0_2] at S24
    obtain ⟨x25, e26⟩ : ∃ x, I22 r0_0 1 = x := ⟨_, rfl⟩
    have gx25 := rg x25
    try simp only [z_r0_0, z_r0_1, z_r0_2, z_r0_5, z_r0_6, z_r0_7, z_r0_8, z_r0_9, z_r0_10, z_r0_11, z_r0_12, z_r0_13, z_r0_0_0, z_r0_0_2] at p0v21
    try simp only [z_r0_0, z_r0_1, z_r0_2, z_r0_5, z_r0_6, z_r0_7, z_r0_8, z_r0_9, z_r0_10, z_r0_11, z_r0_12, z_r0_13, z_r0_0_0, z_r0_0_2] at p1v21
    try simp only [e20, e26] at p0v21
    try have q0v21 := congrArg Int32.toInt p0v21
    try simp only [e20, e26] at p1v21
    try have q1v21 := congrArg Int32.toInt p1v21
    have hP3 := p1v21; (try simp only [z_r0_0, z_r0_1, z_r0_2, z_r0_5, z_r0_6, z_r0_7, z_r0_8, z_r0_9, z_r0_10, z_r0_11, z_r0_12, z_r0_13, z_r0_0_0, z_r0_0_2] at hP3)
    refine k_aload_n C rfl rfl rfl ?_
    refine g_R C rfl rfl rfl T_r0 rfl R_r0_0 ?_
    refine k_iload C rfl rfl rfl ?_
    refine c_VV C (s_X4_put_x hS hI22 H_r0_0 (by first | omega | (simp only [e26, and_true, true_and, or_true, true_or, and_false, false_and, or_false, false_or] <;> omega)) (by first | omega | (simp only [e26, and_true, true_and, or_true, true_or, and_false, false_and, or_false, false_or] <;> omega))) rfl rfl rfl rfl rfl ⟨_, rfl, rfl, T_r0_0, Nat.le_of_ble_eq_true rfl⟩ rfl rfl (Nat.le_of_ble_eq_true rfl) (Nat.le_of_ble_eq_true rfl) (Nat.le_of_ble_eq_true rfl) ?_
    rintro I28 L29 ⟨p0v27, p1v27, hI28, S30⟩
    try simp only [z_r0_0, z_r0_1, z_r0_2, z_r0_5, z_r0_6, z_r0_7, z_r0_8, z_r0_9, z_r0_10, z_r0_11, z_r0_12, z_r0_13, z_r0_0_0, z_r0_0_2] at S30
    obtain ⟨x31, e32⟩ : ∃ x, I28 r0_0 1 = x := ⟨_, rfl⟩
    have gx31 := rg x31
    try simp only [z_r0_0, z_r0_1, z_r0_2, z_r0_5, z_r0_6, z_r0_7, z_r0_8, z_r0_9, z_r0_10, z_r0_11, z_r0_12, z_r0_13, z_r0_0_0, z_r0_0_2] at p0v27
    try simp only [z_r0_0, z_r0_1, z_r0_2, z_r0_5, z_r0_6, z_r0_7, z_r0_8, z_r0_9, z_r0_10, z_r0_11, z_r0_12, z_r0_13, z_r0_0_0, z_r0_0_2] at p1v27
    try simp only [e26, e32] at p0v27
    try have q0v27 := congrArg Int32.toInt p0v27
    try simp only [e26, e32] at p1v27
    try have q1v27 := congrArg Int32.toInt p1v27
    have hP4 := p1v27; (try simp only [z_r0_0, z_r0_1, z_r0_2, z_r0_5, z_r0_6, z_r0_7, z_r0_8, z_r0_9, z_r0_10, z_r0_11, z_r0_12, z_r0_13, z_r0_0_0, z_r0_0_2] at hP4)
    refine k_aload_n C rfl rfl rfl ?_
    refine g_R C rfl rfl rfl T_r0 rfl R_r0_0 ?_
    refine g_I C rfl rfl rfl T_r0_0 rfl e32 ?_
    exact k_iret C rfl (Or.inl rfl) (Nat.le_of_ble_eq_true rfl) (Nat.le_of_ble_eq_true rfl) ⟨_, _, _, rfl, rfl, by (try simp only [z_r0_0, z_r0_1, z_r0_2, z_r0_5, z_r0_6, z_r0_7, z_r0_8, z_r0_9, z_r0_10, z_r0_11, z_r0_12, z_r0_13, z_r0_0_0, z_r0_0_2]); simp only [k0_r0_0_1]; exact Or.inr ⟨by omega, by omega, by rw [e32]; omega, FDC.s (FDC.s (FDC.s (FDC.s (FDC.s (FDC.z rfl) hP0 (by omega) rfl) hP1 (by omega) rfl) hP2 (by omega) rfl) hP3 (by omega) rfl) hP4 (by omega) rfl⟩, hI28, (by (try simp only [z_r0_0, z_r0_1, z_r0_2, z_r0_5, z_r0_6, z_r0_7, z_r0_8, z_r0_9, z_r0_10, z_r0_11, z_r0_12, z_r0_13, z_r0_0_0, z_r0_0_2]); exact (Chg.cons (Chg.up S6 (List.forall_mem_cons.mpr ⟨List.mem_of_getElem? (i := 0) rfl, List.forall_mem_cons.mpr ⟨List.mem_of_getElem? (i := 1) rfl, fun _ h => nomatch h⟩⟩)) (Chg.cons (Chg.up S12 (List.forall_mem_cons.mpr ⟨List.mem_of_getElem? (i := 0) rfl, List.forall_mem_cons.mpr ⟨List.mem_of_getElem? (i := 1) rfl, fun _ h => nomatch h⟩⟩)) (Chg.cons (Chg.up S18 (List.forall_mem_cons.mpr ⟨List.mem_of_getElem? (i := 0) rfl, List.forall_mem_cons.mpr ⟨List.mem_of_getElem? (i := 1) rfl, fun _ h => nomatch h⟩⟩)) (Chg.cons (Chg.up S24 (List.forall_mem_cons.mpr ⟨List.mem_of_getElem? (i := 0) rfl, List.forall_mem_cons.mpr ⟨List.mem_of_getElem? (i := 1) rfl, fun _ h => nomatch h⟩⟩)) (Chg.mono (Chg.up S30 (List.forall_mem_cons.mpr ⟨List.mem_of_getElem? (i := 0) rfl, List.forall_mem_cons.mpr ⟨List.mem_of_getElem? (i := 1) rfl, fun _ h => nomatch h⟩⟩)) (by decide)) (by decide)) (by decide)) (by decide)) (by decide)))⟩
  refine z_iconst C (z := -1) rfl rfl rfl (fun x33 ex33 => ?_)
  exact k_iret C rfl (Or.inl rfl) (Nat.le_of_ble_eq_true rfl) (Nat.le_of_ble_eq_true rfl) ⟨_, _, _, rfl, rfl, by (try simp only [z_r0_0, z_r0_1, z_r0_2, z_r0_5, z_r0_6, z_r0_7, z_r0_8, z_r0_9, z_r0_10, z_r0_11, z_r0_12, z_r0_13, z_r0_0_0, z_r0_0_2]); simp only [k0_r0_0_1]; exact Or.inl ⟨by omega, by omega, by first | trivial | omega, by first | trivial | rfl⟩, hI, (by (try simp only [z_r0_0, z_r0_1, z_r0_2, z_r0_5, z_r0_6, z_r0_7, z_r0_8, z_r0_9, z_r0_10, z_r0_11, z_r0_12, z_r0_13, z_r0_0_0, z_r0_0_2]); exact Chg.rf)⟩

