/-! mixing, exactly -/
theorem s_X0_of_x {d : Nat} {T N : Nat → Nat} {I : IT} {L : LT} {R : RT} {A B : Nat → Prop} {r0 : Nat} {l1 : Int64} (hS : SUB B A) (hI : IX A T I) (H_r0 : (hs_Al T N R A B) r0) : Ex (d + 1) 3 [.ref r0, .long l1] (T, N, I, L, R) 0 0 (pI T N R (fun x9 I9 L9 => (0 ≤ x9.toInt) ∧ (x9.toInt ≤ 18) ∧ (x9.toInt = l1.toInt % (I (rA R r0 0) 0).toInt) ∧ (x9.toInt < (I (rA R r0 0) 0).toInt) ∧ (I = I9 ∧ L = L9))) := by
  obtain ⟨T_r, A_r, -, ⟨b, Rb, Hb⟩, -⟩ := H_r0
  have hp := (hI b Hb.2.1 0).2 Hb.1 rfl
  exact Ex_mono (fun o M h => by
    obtain ⟨x, I9, L9, h1, h2, h3, h4, h5⟩ := h
    have h6 := md_lt h5 (by omega)
    refine ⟨x, I9, L9, h1, h2, by omega, by omega, ?_, ?_, h3.symm, h4.symm⟩
    · rw [rA_e Rb]; exact h5
    · rw [rA_e Rb]; exact h6.2) (e_of T_r Rb Hb.1 rfl (by omega) (by omega))
def BNX (I : IT) (b : Nat) (D p : Int) : Prop := ∀ j : Nat, (j : Int) ≤ D → 0 ≤ (I b j).toInt ∧ (I b j).toInt < p
def NF (I : IT) (b : Nat) (j : Nat) : Int := (I b j).toInt
def MLD (I' : IT) (b : Nat) (I : IT) (D u v p k : Int) : Prop := (∀ j : Nat, k < (j : Int) → (j : Int) ≤ D + 1 → (I' b j).toInt = PmW u v (ctF D (NF I b)) j % p) ∧ ∀ j : Nat, (j : Int) ≤ k → (I' b j).toInt = ctF D (NF I b) j
def MLE (I' : IT) (b : Nat) (I : IT) (D u v p : Int) : Prop := ∀ j : Nat, (j : Int) ≤ D + 1 → (I' b j).toInt = PmW u v (ctF D (NF I b)) j % p
theorem MLD.z {I I1 I2 : IT} {b st : Nat} {D u v p : Int} {k k' x y : Int32} (hb : b ≠ st) (e1 : I1 = u2 I st 0 y) (t : STD I1 I2 b k x) (hx : x.toInt = 0) (h0 : 0 ≤ k.toInt) (h41 : k.toInt < 41) (hk : k.toInt = D + 1) (hk' : k'.toInt = D + 1) : MLD I2 b I D u v p k'.toInt := by
  have n0 := ncz h0
  have e2 := t.1 h0 h41
  have eb : I1 b = I b := by rw [e1]; exact u2_r hb
  refine ⟨fun j h1 h2 => by omega, fun j hj => ?_⟩
  rw [e2]
  unfold ctF NF
  by_cases q : j = k.toNatClampNeg
  · subst q; rw [u2_s, if_neg (by omega)]; exact hx
  · rw [u2_k q, eb, if_pos (by omega)]
theorem MLD.s {I I1 I2 : IT} {b : Nat} {D u v p E : Int} {x y a c w1 w2 s o k k1 k' : Int32} {l : Int64} (h : MLD I1 b I D u v p k.toInt) (hB : BNX I b D p) (hp : p ≤ 19) (hp0 : 0 < p) (hx : x.toInt = u) (hy : y.toInt = v) (hu : 0 ≤ u ∧ u ≤ 18) (hv : 0 ≤ v ∧ v ≤ 18) (g1 : GTD a.toInt E (fun j => (I1 b j).toInt) k.toInt) (g2 : GTD c.toInt E (fun j => (I1 b j).toInt) k1.toInt) (m1 : MXD w1 x a) (m2 : MXD w2 y c) (ad : ADX s w1 w2) (el : l.toInt = s.toInt) (ho : o.toInt = l.toInt % p) (t : STD I1 I2 b k o) (h0 : 0 ≤ k.toInt) (hE : E = D + 1) (hk9 : k.toInt ≤ D + 1) (hD : 0 ≤ D ∧ D < 40) (e1 : k1.toInt = k.toInt - 1) (hk : k'.toInt = k.toInt - 1) : MLD I2 b I D u v p k'.toInt := by
  have n0 := ncz h0
  have ga := g1.i h0 (by omega)
  have ha : a.toInt = ctF D (NF I b) k.toNatClampNeg := ga.trans (h.2 _ (by omega))
  have hc : c.toInt = if k.toNatClampNeg = 0 then 0 else ctF D (NF I b) (k.toNatClampNeg - 1) := by
    by_cases q : k.toNatClampNeg = 0
    · rw [if_pos q]; exact g2.2 (Or.inl (by omega))
    · have n1 := ncz (x := k1) (by omega)
      have gc := g2.i (by omega) (by omega)
      rw [if_neg q, show k.toNatClampNeg - 1 = k1.toNatClampNeg from by omega]
      exact gc.trans (h.2 _ (by omega))
  have bd : ∀ j, 0 ≤ ctF D (NF I b) j ∧ ctF D (NF I b) j ≤ 18 := fun j => by
    unfold ctF
    by_cases q : (j : Int) ≤ D
    · rw [if_pos q]; have := hB j q; unfold NF; omega
    · rw [if_neg q]; omega
  have ba := bd k.toNatClampNeg
  have bc : 0 ≤ c.toInt ∧ c.toInt ≤ 18 := by
    rw [hc]
    by_cases q : k.toNatClampNeg = 0
    · rw [if_pos q]; omega
    · rw [if_neg q]; exact bd _
  have q1 := m1 (by omega) (by omega) (by omega) (by omega)
  have q2 := m2 (by omega) (by omega) (by omega) (by omega)
  have r1 := mul_ab (u := x.toInt) (v := a.toInt) (by omega) (by omega) (by omega) (by omega)
  have r2 := mul_ab (u := y.toInt) (v := c.toInt) (by omega) (by omega) (by omega) (by omega)
  have q3 := ad (by omega) (by omega)
  have e2 := t.1 h0 (by omega)
  refine ⟨fun j h1 h2 => ?_, fun j hj => ?_⟩
  · rw [e2]
    by_cases q : j = k.toNatClampNeg
    · subst q
      rw [u2_s, ho, el, q3, q1, q2, ha, hc, hx, hy]
      rfl
    · rw [u2_k q]; exact h.1 j (by omega) h2
  · rw [e2, u2_k (by omega)]; exact h.2 j (by omega)
theorem MLD.e {I' I : IT} {b : Nat} {D u v p k : Int} (h : MLD I' b I D u v p k) (hk : k < 0) : MLE I' b I D u v p := fun j hj => h.1 j (by omega) hj
/-- a row that is g modulo p, each number in 0 .. p - 1 -/
def VRX (I' : IT) (b : Nat) (p n : Int) (g : Nat → Int) : Prop := ∀ j : Nat, (j : Int) ≤ n → 0 ≤ (I' b j).toInt ∧ (I' b j).toInt < p ∧ PmE p (I' b j).toInt (g j)
theorem VRX.eq {I1 I2 : IT} {b : Nat} {p n : Int} {g : Nat → Int} (h : VRX I1 b p n g) (e : I2 b = I1 b) : VRX I2 b p n g := fun j hj => by rw [e]; exact h j hj
theorem BNX.of {I1 : IT} {b : Nat} {p n n' : Int} {g : Nat → Int} (h : VRX I1 b p n g) (e : n' = n) : BNX I1 b n' p := fun j hj => ⟨(h j (by omega)).1, (h j (by omega)).2.1⟩
theorem BNX.eq {I1 I2 : IT} {b : Nat} {p n : Int} (h : BNX I1 b n p) (e : I2 b = I1 b) : BNX I2 b n p := fun j hj => by rw [e]; exact h j hj
theorem VX0 {I I3 I4 : IT} {b b1 : Nat} {k k2 a : Int32} {D n p A B C E : Int} (t : STD I3 I4 b k a) (hk : k.toInt = 0) (g : GTD a.toInt D (fun j => (I3 b1 j).toInt) k2.toInt) (hk2 : k2.toInt = 0) (hD : 0 ≤ D) (e1 : I3 b1 = I b1) (hB : BNX I b1 D p) (hn : n = 0) : VRX I4 b p n (PmX A B C E (NF I b1) n.toNat) := fun j hj => by
  have hj0 : j = 0 := by omega
  have e2 := t.1 (by omega) (by omega)
  have kz : k.toNatClampNeg = 0 := by have := ncz (x := k) (by omega); omega
  have kz2 : k2.toNatClampNeg = 0 := by have := ncz (x := k2) (by omega); omega
  have ga := g.i (by omega) (by omega)
  rw [kz2] at ga
  have ga : a.toInt = (I3 b1 0).toInt := ga
  rw [kz] at e2
  have hb := hB 0 (by omega)
  subst hn; subst hj0
  rw [e2, u2_s, ga, e1]
  refine ⟨hb.1, hb.2, ?_⟩
  show PmE p (I b1 0).toInt ((I b1 0).toInt * 1)
  rw [Int.mul_one]; exact PmE.rf
theorem VN0 {I2 I3 I4 : IT} {b : Nat} {k v : Int32} {n p C E : Int} (t : STD I2 I3 b k v) (hk : k.toInt = 0) (hv : v.toInt = 1) (e : I4 b = I3 b) (hp : 1 < p) (hn : n = 0) : VRX I4 b p n (PmN C E n.toNat PmD) := fun j hj => by
  have hj0 : j = 0 := by omega
  have e2 := t.1 (by omega) (by omega)
  have kz : k.toNatClampNeg = 0 := by have := ncz (x := k) (by omega); omega
  rw [kz] at e2
  subst hn; subst hj0
  rw [e, e2, u2_s, hv]
  exact ⟨by omega, by omega, PmE.rf⟩
theorem VXW {I1 I2 : IT} {b : Nat} {p n n9 u v : Int} {g : Nat → Int} (h : VRX I1 b p n g) (hs : PmS g n.toNat) (m : MLE I2 b I1 n9 u v p) (e9 : n9 = n) (hp : 0 < p) (hn : 0 ≤ n) : VRX I2 b p (n + 1) (PmW u v g) := fun j hj => by
  rw [e9] at m
  have ct : ∀ i, PmE p (ctF n (NF I1 b) i) (g i) := fun i => by
    unfold ctF
    by_cases q : (i : Int) ≤ n
    · rw [if_pos q]; exact (h i q).2.2
    · rw [if_neg q, hs i (by omega)]; exact PmE.rf
  rw [m j hj]
  exact ⟨Int.emod_nonneg _ (by omega), Int.emod_lt_of_pos _ hp, (PmE.em _).tr (PmW.e PmE.rf PmE.rf (ct j) (fun _ => ct (j - 1)))⟩
theorem VXN {I1 I2 : IT} {b : Nat} {p n n' n9 u v : Int} (h : VRX I1 b p n (PmN u v n.toNat PmD)) (m : MLE I2 b I1 n9 u v p) (e9 : n9 = n) (hp : 0 < p) (hn : 0 ≤ n) (e : n' = n + 1) : VRX I2 b p n' (PmN u v n'.toNat PmD) := by
  subst e
  rw [show (n + 1).toNat = n.toNat + 1 from by omega]
  exact VXW h (by have := PmS.n (u := u) (v := v) PmS.d n.toNat; rwa [Nat.zero_add] at this) m e9 hp hn
def VRS (I' : IT) (b : Nat) (p k j : Int) (g h : Nat → Int) : Prop := ∀ i : Nat, (i : Int) ≤ k → 0 ≤ (I' b i).toInt ∧ (I' b i).toInt < p ∧ PmE p (I' b i).toInt (if (i : Int) < j then g i else h i)
theorem VRS.z {I1 I2 : IT} {b : Nat} {p n k j : Int} {g h : Nat → Int} (v : VRX I1 b p n h) (e : I2 b = I1 b) (hn : n = k) (hj : j = 0) : VRS I2 b p k j g h := fun i hi => by
  obtain ⟨a1, a2, a3⟩ := v i (by omega)
  rw [e, if_neg (by omega)]
  exact ⟨a1, a2, a3⟩
theorem VRS.s {I I1 I2 : IT} {b br bf : Nat} {p A B C E Dd Er Ef E0 : Int} {a f c w s o k j' j : Int32} {l : Int64} {n : Nat} (h : VRS I1 b p k.toInt j.toInt (PmX A B C E (NF I bf) (n + 1)) (PmW A B (PmX A B C E (NF I bf) n))) (hr : VRX I1 br p k.toInt (PmN C E (n + 1) PmD)) (hn : k.toInt = (n : Int) + 1) (hB : BNX I bf E0 p) (hp : p ≤ 19) (hp0 : 0 < p) (g1 : GTD a.toInt Dd (fun i => (I1 b i).toInt) j.toInt) (g2 : GTD f.toInt Ef (fun i => (I1 bf i).toInt) k.toInt) (g3 : GTD c.toInt Er (fun i => (I1 br i).toInt) j.toInt) (ef : I1 bf = I bf) (m : MXD w f c) (ad : ADX s a w) (el : l.toInt = s.toInt) (ho : o.toInt = l.toInt % p) (t : STD I1 I2 b j o) (h0 : 0 ≤ j.toInt) (hjk : j.toInt ≤ k.toInt) (hD : Dd = k.toInt) (hEr : Er = k.toInt) (hkf : k.toInt ≤ Ef) (hkE : k.toInt ≤ E0) (hk : k.toInt ≤ 40) (hj' : j'.toInt = j.toInt + 1) : VRS I2 b p k.toInt j'.toInt (PmX A B C E (NF I bf) (n + 1)) (PmW A B (PmX A B C E (NF I bf) n)) := by
  have n0 := ncz h0
  have nk := ncz (x := k) (by omega)
  have ga : a.toInt = (I1 b j.toNatClampNeg).toInt := g1.i h0 (by omega)
  have gf : f.toInt = (I1 bf k.toNatClampNeg).toInt := g2.i (by omega) (by omega)
  have gc : c.toInt = (I1 br j.toNatClampNeg).toInt := g3.i h0 (by omega)
  have hk1 : k.toNatClampNeg = n + 1 := by omega
  rw [ef, hk1] at gf
  obtain ⟨a1, a2, a3⟩ := h j.toNatClampNeg (by omega)
  rw [if_neg (by omega)] at a3
  obtain ⟨c1, c2, c3⟩ := hr j.toNatClampNeg (by omega)
  have bf := hB (n + 1) (by omega)
  have q1 := m (by omega) (by omega) (by omega) (by omega)
  have r1 := mul_ab (u := f.toInt) (v := c.toInt) (by omega) (by omega) (by omega) (by omega)
  have q2 := ad (by omega) (by omega)
  have e2 := t.1 h0 (by omega)
  intro i hi
  rw [e2]
  by_cases q : i = j.toNatClampNeg
  · subst q
    rw [u2_s, if_pos (by omega), ho, el, q2, q1]
    refine ⟨Int.emod_nonneg _ (by omega), Int.emod_lt_of_pos _ hp0, (PmE.em _).tr ?_⟩
    show PmE p (a.toInt + f.toInt * c.toInt) (1 * PmW A B (PmX A B C E (NF I _) n) j.toNatClampNeg + NF I _ (n + 1) * PmN C E (n + 1) PmD j.toNatClampNeg)
    rw [Int.one_mul]
    refine PmE.ad (by rw [ga]; exact a3) (PmE.ml ?_ (by rw [gc]; exact c3))
    rw [gf]; exact PmE.rf
  · rw [u2_k q]
    obtain ⟨b1, b2, b3⟩ := h i hi
    refine ⟨b1, b2, ?_⟩
    by_cases q2 : (i : Int) < j.toInt
    · rw [if_pos q2] at b3; rw [if_pos (by omega)]; exact b3
    · rw [if_neg q2] at b3; rw [if_neg (by omega)]; exact b3
theorem VRS.e {I1 : IT} {b : Nat} {p k j n : Int} {g h g' : Nat → Int} (v : VRS I1 b p k j g h) (hj : k < j) (hn : n = k) (hg : g = g') : VRX I1 b p n g' := fun i hi => by
  obtain ⟨a1, a2, a3⟩ := v i (by omega)
  rw [if_pos (by omega)] at a3
  rw [← hg]
  exact ⟨a1, a2, a3⟩
theorem s_X0_multiplyByLine_x {d : Nat} {T N : Nat → Nat} {I : IT} {L : LT} {R : RT} {A B : Nat → Prop} {r0 r1 : Nat} {n2 n3 : Int32} (hS : SUB B A) (hI : IX A T I) (H_r0 : (hs_Al T N R A B) r0) (H_r1 : (hs_F T N R A B) r1) (b0_n2 : 0 ≤ n2.toInt) (b1_n2 : n2.toInt ≤ 18) (b0_n3 : 0 ≤ n3.toInt) (b1_n3 : n3.toInt ≤ 18) (hp0 : (I r1 0).toInt < 40) (hp1 : BNX I (rA R r1 1) (I r1 0).toInt (I (rA R r0 0) 0).toInt) : Ex (d + 2) 17 [.ref r0, .ref r1, .int n2, .int n3] (T, N, I, L, R) 0 0 (pV T N R (fun I9 L9 => ((I9 r1 0).toInt = (I r1 0).toInt + 1) ∧ (MLE I9 (rA R r1 1) I (I r1 0).toInt n2.toInt n3.toInt (I (rA R r0 0) 0).toInt) ∧ (IX A T I9 ∧ Chg (SL [r1, (rA R r1 1)]) T [(3, 0)] I L I9 L9))) := by
  refine ⟨_, rfl, Nat.le_of_ble_eq_true rfl, fun V C S => ?_⟩
  show V 0 [(0, .ref r0), (1, .ref r1), (2, .int n2), (3, .int n3)] [] (T, N, I, L, R) 0 0
  have gn2 := rg n2
  have gn3 := rg n3
  obtain ⟨T_r0, A_r0, B_r0, ⟨r0_0, R_r0_0, H_r0_0⟩, ⟨r0_1, R_r0_1, H_r0_1⟩, ⟨r0_2, R_r0_2, H_r0_2⟩⟩ := id H_r0
  have z_r0_0 : rA R r0 0 = r0_0 := rA_e R_r0_0
  have z_r0_1 : rA R r0 1 = r0_1 := rA_e R_r0_1
  have z_r0_2 : rA R r0 2 = r0_2 := rA_e R_r0_2
  obtain ⟨T_r1, A_r1, ⟨r1_1, R_r1_1, H_r1_1⟩⟩ := id H_r1
  have z_r1_1 : rA R r1 1 = r1_1 := rA_e R_r1_1
  obtain ⟨T_r1_1, N_r1_1, A_r1_1⟩ := id H_r1_1
  try simp only [z_r0_0, z_r0_1, z_r0_2, z_r1_1] at hp0
  try simp only [z_r0_0, z_r0_1, z_r0_2, z_r1_1] at hp1
  obtain ⟨w_r1_0, k0_r1_0⟩ : ∃ x, I r1 0 = x := ⟨_, rfl⟩
  have gw_r1_0 := rg w_r1_0
  have ow_r1_0 := IX.deg hI A_r1 T_r1 k0_r1_0
  obtain ⟨T_r0_0, A_r0_0, B_r0_0, ⟨r0_0_6, R_r0_0_6, H_r0_0_6⟩, ⟨r0_0_7, R_r0_0_7, H_r0_0_7⟩, ⟨r0_0_8, R_r0_0_8, H_r0_0_8⟩, ⟨r0_0_9, R_r0_0_9, H_r0_0_9⟩, ⟨r0_0_10, R_r0_0_10, H_r0_0_10⟩⟩ := id H_r0_0
  have z_r0_0_6 : rA R r0_0 6 = r0_0_6 := rA_e R_r0_0_6
  have z_r0_0_7 : rA R r0_0 7 = r0_0_7 := rA_e R_r0_0_7
  have z_r0_0_8 : rA R r0_0 8 = r0_0_8 := rA_e R_r0_0_8
  have z_r0_0_9 : rA R r0_0 9 = r0_0_9 := rA_e R_r0_0_9
  have z_r0_0_10 : rA R r0_0 10 = r0_0_10 := rA_e R_r0_0_10
  obtain ⟨w_r0_0_0, k0_r0_0_0⟩ : ∃ x, I r0_0 0 = x := ⟨_, rfl⟩
  have gw_r0_0_0 := rg w_r0_0_0
  have ow_r0_0_0 := IX.p hI A_r0_0 T_r0_0 k0_r0_0_0
  try simp only [k0_r1_0, k0_r0_0_0] at hp0
  try simp only [k0_r1_0, k0_r0_0_0] at hp1
  refine k_aload_n C rfl rfl rfl ?_
  refine g_I C rfl rfl rfl T_r1 rfl k0_r1_0 ?_
  refine z_bipush C (z := 40) rfl rfl rfl (fun x1 ex1 => ?_)
  refine b_icmp_lt C (t := 10) rfl rfl rfl (fun c2 => ?_) (fun c2 => ?_)
  · skip
    refine k_aload_n C rfl rfl rfl ?_
    refine k_dup C rfl rfl rfl ?_
    refine g_I C rfl rfl rfl T_r1 rfl k0_r1_0 ?_
    refine z_iconst C (z := 1) rfl rfl rfl (fun x3 ex3 => ?_)
    refine z_iadd C rfl rfl ⟨by omega, by omega⟩ (fun x4 ex4 => ?_)
    refine z_pI C rfl rfl rfl T_r1 (Or.inr rfl) rfl (fun I5 uI5 => ?_)
    have hI5 : IX A T I5 := IX.f hI T_r1 ⟨fun _ _ => ⟨by omega, by omega⟩, fun h => absurd h (by decide)⟩ uI5
    have S6 : Chg (SL [r1]) T [(3, 0)] I L I5 L := Chg.f List.mem_cons_self T_r1 uI5
    have e7 := u2_n uI5 (t_nq T_r0_0 T_r1 (by decide)) k0_r0_0_0
    have e8 := u2_e uI5
    have hu1 := uI5
    refine k_aload_n C rfl rfl rfl ?_
    refine k_aload_n C rfl rfl rfl ?_
    refine g_I C rfl rfl rfl T_r1 rfl e8 ?_
    refine z_iconst C (z := 0) rfl rfl rfl (fun x9 ex9 => ?_)
    refine c_VV C (s_X2_set_x hS hI5 H_r1) rfl rfl rfl rfl rfl ⟨_, rfl, rfl, T_r1, Nat.le_of_ble_eq_true rfl⟩ rfl rfl (Nat.le_of_ble_eq_true rfl) (Nat.le_of_ble_eq_true rfl) (Nat.le_of_ble_eq_true rfl) ?_
    rintro I11 L12 ⟨p0v10, hI11, S13⟩
    try simp only [z_r0_0, z_r0_1, z_r0_2, z_r1_1, z_r0_0_6, z_r0_0_7, z_r0_0_8, z_r0_0_9, z_r0_0_10] at S13
    have e14 := Chg.k S13 T_r0_0 (by decide) (by decide) e7
    have e15 := Chg.k S13 T_r1 (by decide) (by decide) e8
    try simp only [z_r0_0, z_r0_1, z_r0_2, z_r1_1, z_r0_0_6, z_r0_0_7, z_r0_0_8, z_r0_0_9, z_r0_0_10] at p0v10
    try simp only [e7, e8] at p0v10
    try have q0v10 := congrArg Int32.toInt p0v10
    have hset := p0v10
    refine k_aload_n C rfl rfl rfl ?_
    refine g_I C rfl rfl rfl T_r1 rfl e15 ?_
    have J16 : ∀ (nn17 : Nat) (I18 : IT) (L19 : LT) (x20 : Int32) (x25 : Int32), (MN (x20.toInt - (-1)) nn17) → (IX A T I18) → (Chg (SL [r1, r1_1]) T [] I11 L12 I18 L19) → (-1 ≤ x20.toInt) → (x20.toInt ≤ 40) → (I18 r1 0 = x25) → (0 ≤ x25.toInt) → (x25.toInt ≤ 40) → (MLD I18 r1_1 I w_r1_0.toInt n2.toInt n3.toInt w_r0_0_0.toInt x20.toInt) → (x25.toInt = w_r1_0.toInt + 1) → (x20.toInt ≤ w_r1_0.toInt + 1) → V 35 [(0, .ref r0), (1, .ref r1), (2, .int n2), (3, .int n3), (4, .int x20)] [] (T, N, I18, L19, R) 0 0 := by
      intro nn17
      induction nn17 using Nat.strongRecOn with
      | _ nn17 ihJ16 =>
        intro I18 L19 x20 x25 hmnn17 hI24 S23 b21 b22 e26 b27 b28 ff35_0 ff35_1 ff35_2
        have gx20 := rg x20
        have gx25 := rg x25
        have e32 := Chg.k S23 T_r0_0 (by decide) (by decide) e14
        have e33 := Chg.k S23 T_r1 (by decide) (by decide) e15
        refine k_iload C rfl rfl rfl ?_
        refine b_if_lt C (t := 76) rfl rfl rfl (fun c34 => ?_) (fun c34 => ?_)
        · skip
          exact k_vret C rfl rfl (Nat.le_of_ble_eq_true rfl) (Nat.le_of_ble_eq_true rfl) ⟨_, _, rfl, rfl, by (try simp only [z_r0_0, z_r0_1, z_r0_2, z_r1_1, z_r0_0_6, z_r0_0_7, z_r0_0_8, z_r0_0_9, z_r0_0_10]); rw [e26]; simp only [k0_r1_0]; omega, by (try simp only [z_r0_0, z_r0_1, z_r0_2, z_r1_1, z_r0_0_6, z_r0_0_7, z_r0_0_8, z_r0_0_9, z_r0_0_10]); simp only [k0_r1_0, k0_r0_0_0]; exact ff35_0.e (by omega), hI24, (by (try simp only [z_r0_0, z_r0_1, z_r0_2, z_r1_1, z_r0_0_6, z_r0_0_7, z_r0_0_8, z_r0_0_9, z_r0_0_10]); exact (Chg.cons (Chg.up S6 (List.forall_mem_cons.mpr ⟨List.mem_of_getElem? (i := 0) rfl, fun _ h => nomatch h⟩)) (Chg.cons (Chg.up S13 (List.forall_mem_cons.mpr ⟨List.mem_of_getElem? (i := 1) rfl, fun _ h => nomatch h⟩)) (Chg.mono S23 (by decide)) (by decide)) (by decide)))⟩
        refine k_aload_n C rfl rfl rfl ?_
        refine k_iload C rfl rfl rfl ?_
        refine k_aload_n C rfl rfl rfl ?_
        refine k_iload_n C rfl rfl rfl ?_
        refine k_aload_n C rfl rfl rfl ?_
        refine k_iload C rfl rfl rfl ?_
        refine c_VI C (s_X2_get_x hS hI24 H_r1) rfl rfl rfl rfl rfl ⟨_, rfl, rfl, T_r1, Nat.le_of_ble_eq_true rfl⟩ rfl rfl (Nat.le_of_ble_eq_true rfl) (Nat.le_of_ble_eq_true rfl) (Nat.le_of_ble_eq_true rfl) ?_
        rintro x35 _ _ ⟨p0x35, rfl, rfl⟩
        have gx35 := rg x35
        try simp only [z_r0_0, z_r0_1, z_r0_2, z_r1_1, z_r0_0_6, z_r0_0_7, z_r0_0_8, z_r0_0_9, z_r0_0_10] at p0x35
        try simp only [e32, e26] at p0x35
        try have q0x35 := congrArg Int32.toInt p0x35
        have hga := p0x35; (try simp only [e26] at hga)
        refine z_imulN C rfl rfl (fun x36 hm51 => ?_)
        have gx36 := rg x36
        have mm51 := hm51.2
        clear hm51
        refine k_iload_n C rfl rfl rfl ?_
        refine k_aload_n C rfl rfl rfl ?_
        refine k_iload C rfl rfl rfl ?_
        refine z_iconst C (z := 1) rfl rfl rfl (fun x37 ex37 => ?_)
        refine z_isub C rfl rfl ⟨by omega, by omega⟩ (fun x38 ex38 => ?_)
        refine c_VI C (s_X2_get_x hS hI24 H_r1) rfl rfl rfl rfl rfl ⟨_, rfl, rfl, T_r1, Nat.le_of_ble_eq_true rfl⟩ rfl rfl (Nat.le_of_ble_eq_true rfl) (Nat.le_of_ble_eq_true rfl) (Nat.le_of_ble_eq_true rfl) ?_
        rintro x39 _ _ ⟨p0x39, rfl, rfl⟩
        have gx39 := rg x39
        try simp only [z_r0_0, z_r0_1, z_r0_2, z_r1_1, z_r0_0_6, z_r0_0_7, z_r0_0_8, z_r0_0_9, z_r0_0_10] at p0x39
        try simp only [e32, e26] at p0x39
        try have q0x39 := congrArg Int32.toInt p0x39
        have hgb := p0x39; (try simp only [e26] at hgb)
        refine z_imulN C rfl rfl (fun x40 hm61 => ?_)
        have gx40 := rg x40
        have mm61 := hm61.2
        clear hm61
        refine z_iaddX C rfl rfl (fun x41 ad62 => ?_)
        have gx41 := rg x41
        refine z_i2l C rfl rfl (fun lg42 elg42 => ?_)
        have hl := elg42
        refine c_VI C (s_X0_of_x hS hI24 H_r0) rfl rfl rfl rfl rfl ⟨_, rfl, rfl, T_r0, Nat.le_of_ble_eq_true rfl⟩ rfl rfl (Nat.le_of_ble_eq_true rfl) (Nat.le_of_ble_eq_true rfl) (Nat.le_of_ble_eq_true rfl) ?_
        rintro x43 _ _ ⟨o0x43, o1x43, p0x43, p1x43, rfl, rfl⟩
        have gx43 := rg x43
        try simp only [z_r0_0, z_r0_1, z_r0_2, z_r1_1, z_r0_0_6, z_r0_0_7, z_r0_0_8, z_r0_0_9, z_r0_0_10] at p0x43
        try simp only [z_r0_0, z_r0_1, z_r0_2, z_r1_1, z_r0_0_6, z_r0_0_7, z_r0_0_8, z_r0_0_9, z_r0_0_10] at p1x43
        try simp only [e32, e26] at p0x43
        try have q0x43 := congrArg Int32.toInt p0x43
        try simp only [e32, e26] at p1x43
        try have q1x43 := congrArg Int32.toInt p1x43
        have hof := p0x43; (try simp only [e32] at hof)
        refine c_VV C (s_X2_set_x hS hI24 H_r1) rfl rfl rfl rfl rfl ⟨_, rfl, rfl, T_r1, Nat.le_of_ble_eq_true rfl⟩ rfl rfl (Nat.le_of_ble_eq_true rfl) (Nat.le_of_ble_eq_true rfl) (Nat.le_of_ble_eq_true rfl) ?_
        rintro I45 L46 ⟨p0v44, hI45, S47⟩
        try simp only [z_r0_0, z_r0_1, z_r0_2, z_r1_1, z_r0_0_6, z_r0_0_7, z_r0_0_8, z_r0_0_9, z_r0_0_10] at S47
        have e48 := Chg.k S47 T_r0_0 (by decide) (by decide) e32
        have e49 := Chg.k S47 T_r1 (by decide) (by decide) e26
        try simp only [z_r0_0, z_r0_1, z_r0_2, z_r1_1, z_r0_0_6, z_r0_0_7, z_r0_0_8, z_r0_0_9, z_r0_0_10] at p0v44
        try simp only [e32, e26] at p0v44
        try have q0v44 := congrArg Int32.toInt p0v44
        have hse := p0v44
        refine z_iinc C (z := -1) (lw := fun x50 => [(4, .int x50), (0, .ref r0), (1, .ref r1), (2, .int n2), (3, .int n3)]) rfl rfl rfl (Nat.le_of_ble_eq_true rfl) rfl ⟨by omega, by omega⟩ (fun _ => rfl) (fun x50 ex50 => ?_)
        show V 73 [(4, .int x50), (0, .ref r0), (1, .ref r1), (2, .int n2), (3, .int n3)] _ _ _ _
        refine k_goto C (pc2 := 35) rfl rfl ?_
        refine k_sub S [(0, .ref r0), (1, .ref r1), (2, .int n2), (3, .int n3), (4, .int x50)] (List.forall_mem_cons.mpr ⟨List.mem_of_getElem? (i := 1) rfl, List.forall_mem_cons.mpr ⟨List.mem_of_getElem? (i := 2) rfl, List.forall_mem_cons.mpr ⟨List.mem_of_getElem? (i := 3) rfl, List.forall_mem_cons.mpr ⟨List.mem_of_getElem? (i := 4) rfl, List.forall_mem_cons.mpr ⟨List.mem_of_getElem? (i := 0) rfl, fun _ h => nomatch h⟩⟩⟩⟩⟩) ?_
        exact ihJ16 _ (MN.lt hmnn17 (by omega) (by omega)) I45 L46 x50 x25 rfl hI45 (Chg.cons S23 (Chg.mono (Chg.up S47 (List.forall_mem_cons.mpr ⟨List.mem_of_getElem? (i := 1) rfl, fun _ h => nomatch h⟩)) (by decide)) (by decide)) (by omega) (by omega) e49 (by omega) (by omega) (by exact MLD.s ff35_0 hp1 (by omega) (by omega) rfl rfl (by omega) (by omega) hga hgb mm51 mm61 ad62 hl hof hse (by omega) (by omega) (by omega) (by omega) (by omega) (by omega)) (by omega) (by omega)
    refine k_istore C (lw := [(4, .int x4), (0, .ref r0), (1, .ref r1), (2, .int n2), (3, .int n3)]) rfl rfl (Nat.le_of_ble_eq_true rfl) rfl ?_
    refine k_sub S [(0, .ref r0), (1, .ref r1), (2, .int n2), (3, .int n3), (4, .int x4)] (List.forall_mem_cons.mpr ⟨List.mem_of_getElem? (i := 1) rfl, List.forall_mem_cons.mpr ⟨List.mem_of_getElem? (i := 2) rfl, List.forall_mem_cons.mpr ⟨List.mem_of_getElem? (i := 3) rfl, List.forall_mem_cons.mpr ⟨List.mem_of_getElem? (i := 4) rfl, List.forall_mem_cons.mpr ⟨List.mem_of_getElem? (i := 0) rfl, fun _ h => nomatch h⟩⟩⟩⟩⟩) ?_
    exact J16 _ I11 L12 x4 x4 rfl hI11 Chg.rf (by omega) (by omega) e15 (by omega) (by omega) (by exact MLD.z (t_nq T_r1_1 T_r1 (by decide)) hu1 hset (by omega) (by omega) (by omega) (by omega) (by omega)) (by omega) (by omega)
  exact k_vret C rfl rfl (Nat.le_of_ble_eq_true rfl) (Nat.le_of_ble_eq_true rfl) ⟨_, _, rfl, rfl, by (try simp only [z_r0_0, z_r0_1, z_r0_2, z_r1_1, z_r0_0_6, z_r0_0_7, z_r0_0_8, z_r0_0_9, z_r0_0_10]); exfalso; omega, by (try simp only [z_r0_0, z_r0_1, z_r0_2, z_r1_1, z_r0_0_6, z_r0_0_7, z_r0_0_8, z_r0_0_9, z_r0_0_10]); exfalso; omega, hI, (by (try simp only [z_r0_0, z_r0_1, z_r0_2, z_r1_1, z_r0_0_6, z_r0_0_7, z_r0_0_8, z_r0_0_9, z_r0_0_10]); exact Chg.rf)⟩

theorem s_X0_mixInto_x {d : Nat} {T N : Nat → Nat} {I : IT} {L : LT} {R : RT} {A B : Nat → Prop} {r0 r1 r2 r3 : Nat} (hS : SUB B A) (hI : IX A T I) (H_r0 : (hs_Al T N R A B) r0) (H_r1 : (hs_F T N R A B) r1) (H_r2 : (hs_Tb T N R A B) r2) (H_r3 : (hs_F T N R A B) r3) (hU : UPR T R) (hp0 : r1 ≠ r3) (hp1 : r3 ≠ rA R r0 2) (hp2 : r1 ≠ rA R r0 2) (hp3 : BNX I (rA R r1 1) (I r1 0).toInt (I (rA R r0 0) 0).toInt) (hp4 : ∀ k : Nat, k < 4 → 0 ≤ (I r2 k).toInt ∧ (I r2 k).toInt < (I (rA R r0 0) 0).toInt) : Ex (d + 3) 18 [.ref r0, .ref r1, .ref r2, .ref r3] (T, N, I, L, R) 0 0 (pV T N R (fun I9 L9 => ((I9 r3 0).toInt = (I r1 0).toInt) ∧ (VRX I9 (rA R r3 1) (I (rA R r0 0) 0).toInt (I r1 0).toInt (PmX (I r2 0).toInt (I r2 1).toInt (I r2 2).toInt (I r2 3).toInt (NF I (rA R r1 1)) (I r1 0).toInt.toNat)) ∧ (IX A T I9 ∧ Chg (SL [r3, (rA R r3 1), (rA R r0 2), (rA R (rA R r0 2) 1)]) T [(3, 0)] I L I9 L9))) := by
  refine ⟨_, rfl, Nat.le_of_ble_eq_true rfl, fun V C S => ?_⟩
  show V 0 [(0, .ref r0), (1, .ref r1), (2, .ref r2), (3, .ref r3)] [] (T, N, I, L, R) 0 0
  obtain ⟨T_r0, A_r0, B_r0, ⟨r0_0, R_r0_0, H_r0_0⟩, ⟨r0_1, R_r0_1, H_r0_1⟩, ⟨r0_2, R_r0_2, H_r0_2⟩⟩ := id H_r0
  have z_r0_0 : rA R r0 0 = r0_0 := rA_e R_r0_0
  have z_r0_1 : rA R r0 1 = r0_1 := rA_e R_r0_1
  have z_r0_2 : rA R r0 2 = r0_2 := rA_e R_r0_2
  obtain ⟨T_r1, A_r1, ⟨r1_1, R_r1_1, H_r1_1⟩⟩ := id H_r1
  have z_r1_1 : rA R r1 1 = r1_1 := rA_e R_r1_1
  obtain ⟨T_r2, A_r2, B_r2⟩ := id H_r2
  obtain ⟨T_r3, A_r3, ⟨r3_1, R_r3_1, H_r3_1⟩⟩ := id H_r3
  have z_r3_1 : rA R r3 1 = r3_1 := rA_e R_r3_1
  obtain ⟨T_r0_0, A_r0_0, B_r0_0, ⟨r0_0_6, R_r0_0_6, H_r0_0_6⟩, ⟨r0_0_7, R_r0_0_7, H_r0_0_7⟩, ⟨r0_0_8, R_r0_0_8, H_r0_0_8⟩, ⟨r0_0_9, R_r0_0_9, H_r0_0_9⟩, ⟨r0_0_10, R_r0_0_10, H_r0_0_10⟩⟩ := id H_r0_0
  have z_r0_0_6 : rA R r0_0 6 = r0_0_6 := rA_e R_r0_0_6
  have z_r0_0_7 : rA R r0_0 7 = r0_0_7 := rA_e R_r0_0_7
  have z_r0_0_8 : rA R r0_0 8 = r0_0_8 := rA_e R_r0_0_8
  have z_r0_0_9 : rA R r0_0 9 = r0_0_9 := rA_e R_r0_0_9
  have z_r0_0_10 : rA R r0_0 10 = r0_0_10 := rA_e R_r0_0_10
  obtain ⟨T_r0_2, A_r0_2, B_r0_2, ⟨r0_2_1, R_r0_2_1, H_r0_2_1⟩⟩ := id H_r0_2
  have z_r0_2_1 : rA R r0_2 1 = r0_2_1 := rA_e R_r0_2_1
  obtain ⟨T_r1_1, N_r1_1, A_r1_1⟩ := id H_r1_1
  obtain ⟨T_r3_1, N_r3_1, A_r3_1⟩ := id H_r3_1
  obtain ⟨T_r0_2_1, N_r0_2_1, A_r0_2_1⟩ := id H_r0_2_1
  try simp only [z_r0_0, z_r0_1, z_r0_2, z_r1_1, z_r3_1, z_r0_0_6, z_r0_0_7, z_r0_0_8, z_r0_0_9, z_r0_0_10, z_r0_2_1] at hp0
  try simp only [z_r0_0, z_r0_1, z_r0_2, z_r1_1, z_r3_1, z_r0_0_6, z_r0_0_7, z_r0_0_8, z_r0_0_9, z_r0_0_10, z_r0_2_1] at hp1
  try simp only [z_r0_0, z_r0_1, z_r0_2, z_r1_1, z_r3_1, z_r0_0_6, z_r0_0_7, z_r0_0_8, z_r0_0_9, z_r0_0_10, z_r0_2_1] at hp2
  try simp only [z_r0_0, z_r0_1, z_r0_2, z_r1_1, z_r3_1, z_r0_0_6, z_r0_0_7, z_r0_0_8, z_r0_0_9, z_r0_0_10, z_r0_2_1] at hp3
  try simp only [z_r0_0, z_r0_1, z_r0_2, z_r1_1, z_r3_1, z_r0_0_6, z_r0_0_7, z_r0_0_8, z_r0_0_9, z_r0_0_10, z_r0_2_1] at hp4
  obtain ⟨w_r1_0, k0_r1_0⟩ : ∃ x, I r1 0 = x := ⟨_, rfl⟩
  have gw_r1_0 := rg w_r1_0
  have ow_r1_0 := IX.deg hI A_r1 T_r1 k0_r1_0
  obtain ⟨w_r0_0_0, k0_r0_0_0⟩ : ∃ x, I r0_0 0 = x := ⟨_, rfl⟩
  have gw_r0_0_0 := rg w_r0_0_0
  have ow_r0_0_0 := IX.p hI A_r0_0 T_r0_0 k0_r0_0_0
  obtain ⟨w_r2_0, k0_r2_0⟩ : ∃ x, I r2 0 = x := ⟨_, rfl⟩
  have gw_r2_0 := rg w_r2_0
  obtain ⟨w_r2_1, k0_r2_1⟩ : ∃ x, I r2 1 = x := ⟨_, rfl⟩
  have gw_r2_1 := rg w_r2_1
  obtain ⟨w_r2_2, k0_r2_2⟩ : ∃ x, I r2 2 = x := ⟨_, rfl⟩
  have gw_r2_2 := rg w_r2_2
  obtain ⟨w_r2_3, k0_r2_3⟩ : ∃ x, I r2 3 = x := ⟨_, rfl⟩
  have gw_r2_3 := rg w_r2_3
  try simp only [k0_r1_0, k0_r0_0_0, k0_r2_0, k0_r2_1, k0_r2_2, k0_r2_3] at hp0
  try simp only [k0_r1_0, k0_r0_0_0, k0_r2_0, k0_r2_1, k0_r2_2, k0_r2_3] at hp1
  try simp only [k0_r1_0, k0_r0_0_0, k0_r2_0, k0_r2_1, k0_r2_2, k0_r2_3] at hp2
  try simp only [k0_r1_0, k0_r0_0_0, k0_r2_0, k0_r2_1, k0_r2_2, k0_r2_3] at hp3
  try simp only [k0_r1_0, k0_r0_0_0, k0_r2_0, k0_r2_1, k0_r2_2, k0_r2_3] at hp4
  have tt : ∀ b, T b = 20 → T b = 3 ∨ T b = 8 ∨ T b = 10 ∨ 20 ≤ T b := fun b h => Or.inr (Or.inr (Or.inr (by omega)))
  have nb13 := hU.ne (tt _ T_r1_1) R_r1_1 R_r3_1 (Or.inl hp0)
  have nb3r := hU.ne (tt _ T_r3_1) R_r3_1 R_r0_2_1 (Or.inl hp1)
  have nb1r := hU.ne (tt _ T_r1_1) R_r1_1 R_r0_2_1 (Or.inl hp2)
  have ht0 := hp4 0 (by decide); rw [k0_r2_0] at ht0
  have ht1 := hp4 1 (by decide); rw [k0_r2_1] at ht1
  have ht2 := hp4 2 (by decide); rw [k0_r2_2] at ht2
  have ht3 := hp4 3 (by decide); rw [k0_r2_3] at ht3
  refine k_aload_n C rfl rfl rfl ?_
  refine z_iconst C (z := 0) rfl rfl rfl (fun x1 ex1 => ?_)
  refine c_VV C (s_X2_begin_x hS hI H_r3) rfl rfl rfl rfl rfl ⟨_, rfl, rfl, T_r3, Nat.le_of_ble_eq_true rfl⟩ rfl rfl (Nat.le_of_ble_eq_true rfl) (Nat.le_of_ble_eq_true rfl) (Nat.le_of_ble_eq_true rfl) ?_
  rintro I3 L4 ⟨p0v2, p1v2, hI3, S5⟩
  try simp only [z_r0_0, z_r0_1, z_r0_2, z_r1_1, z_r3_1, z_r0_0_6, z_r0_0_7, z_r0_0_8, z_r0_0_9, z_r0_0_10, z_r0_2_1] at S5
  have e6 := (congrFun (Chg.at S5 (nm_2 (by first | exact hp0 | exact fun e => hp0 e.symm) (t_nq T_r1 T_r3_1 (by decide)))) 0).trans k0_r1_0
  have e7 := Chg.k S5 T_r0_0 (by decide) (by decide) k0_r0_0_0
  have e8 := Chg.k S5 T_r2 (by decide) (by decide) k0_r2_0
  have e9 := Chg.k S5 T_r2 (by decide) (by decide) k0_r2_1
  have e10 := Chg.k S5 T_r2 (by decide) (by decide) k0_r2_2
  have e11 := Chg.k S5 T_r2 (by decide) (by decide) k0_r2_3
  obtain ⟨x12, e13⟩ : ∃ x, I3 r3 0 = x := ⟨_, rfl⟩
  have gx12 := rg x12
  have ox12 := IX.deg hI3 A_r3 T_r3 e13
  try simp only [z_r0_0, z_r0_1, z_r0_2, z_r1_1, z_r3_1, z_r0_0_6, z_r0_0_7, z_r0_0_8, z_r0_0_9, z_r0_0_10, z_r0_2_1] at p0v2
  try simp only [z_r0_0, z_r0_1, z_r0_2, z_r1_1, z_r3_1, z_r0_0_6, z_r0_0_7, z_r0_0_8, z_r0_0_9, z_r0_0_10, z_r0_2_1] at p1v2
  try simp only [k0_r1_0, k0_r0_0_0, k0_r2_0, k0_r2_1, k0_r2_2, k0_r2_3, e13] at p0v2
  try have q0v2 := congrArg Int32.toInt p0v2
  try simp only [k0_r1_0, k0_r0_0_0, k0_r2_0, k0_r2_1, k0_r2_2, k0_r2_3, e13] at p1v2
  try have q1v2 := congrArg Int32.toInt p1v2
  have hb3 := p0v2.2.2 (by omega) (by omega)
  refine k_aload_n C rfl rfl rfl ?_
  refine g_R C rfl rfl rfl T_r0 rfl R_r0_2 ?_
  refine z_iconst C (z := 0) rfl rfl rfl (fun x14 ex14 => ?_)
  refine c_VV C (s_X2_begin_x hS hI3 (hs_GF hS H_r0_2)) rfl rfl rfl rfl rfl ⟨_, rfl, rfl, T_r0_2, Nat.le_of_ble_eq_true rfl⟩ rfl rfl (Nat.le_of_ble_eq_true rfl) (Nat.le_of_ble_eq_true rfl) (Nat.le_of_ble_eq_true rfl) ?_
  rintro I16 L17 ⟨p0v15, p1v15, hI16, S18⟩
  try simp only [z_r0_0, z_r0_1, z_r0_2, z_r1_1, z_r3_1, z_r0_0_6, z_r0_0_7, z_r0_0_8, z_r0_0_9, z_r0_0_10, z_r0_2_1] at S18
  have e19 := (congrFun (Chg.at S18 (nm_2 (by first | exact hp2 | exact fun e => hp2 e.symm) (t_nq T_r1 T_r0_2_1 (by decide)))) 0).trans e6
  have e20 := Chg.k S18 T_r0_0 (by decide) (by decide) e7
  have e21 := Chg.k S18 T_r2 (by decide) (by decide) e8
  have e22 := Chg.k S18 T_r2 (by decide) (by decide) e9
  have e23 := Chg.k S18 T_r2 (by decide) (by decide) e10
  have e24 := Chg.k S18 T_r2 (by decide) (by decide) e11
  have e25 := (congrFun (Chg.at S18 (nm_2 (by first | exact hp1 | exact fun e => hp1 e.symm) (t_nq T_r3 T_r0_2_1 (by decide)))) 0).trans e13
  obtain ⟨x26, e27⟩ : ∃ x, I16 r0_2 0 = x := ⟨_, rfl⟩
  have gx26 := rg x26
  have ox26 := IX.deg hI16 A_r0_2 T_r0_2 e27
  try simp only [z_r0_0, z_r0_1, z_r0_2, z_r1_1, z_r3_1, z_r0_0_6, z_r0_0_7, z_r0_0_8, z_r0_0_9, z_r0_0_10, z_r0_2_1] at p0v15
  try simp only [z_r0_0, z_r0_1, z_r0_2, z_r1_1, z_r3_1, z_r0_0_6, z_r0_0_7, z_r0_0_8, z_r0_0_9, z_r0_0_10, z_r0_2_1] at p1v15
  try simp only [e6, e7, e8, e9, e10, e11, e13, e27] at p0v15
  try have q0v15 := congrArg Int32.toInt p0v15
  try simp only [e6, e7, e8, e9, e10, e11, e13, e27] at p1v15
  try have q1v15 := congrArg Int32.toInt p1v15
  have hbr := p0v15.2.2 (by omega) (by omega)
  refine k_aload_n C rfl rfl rfl ?_
  refine g_R C rfl rfl rfl T_r0 rfl R_r0_2 ?_
  refine z_iconst C (z := 0) rfl rfl rfl (fun x28 ex28 => ?_)
  refine z_iconst C (z := 1) rfl rfl rfl (fun x29 ex29 => ?_)
  refine c_VV C (s_X2_set_x hS hI16 (hs_GF hS H_r0_2)) rfl rfl rfl rfl rfl ⟨_, rfl, rfl, T_r0_2, Nat.le_of_ble_eq_true rfl⟩ rfl rfl (Nat.le_of_ble_eq_true rfl) (Nat.le_of_ble_eq_true rfl) (Nat.le_of_ble_eq_true rfl) ?_
  rintro I31 L32 ⟨p0v30, hI31, S33⟩
  try simp only [z_r0_0, z_r0_1, z_r0_2, z_r1_1, z_r3_1, z_r0_0_6, z_r0_0_7, z_r0_0_8, z_r0_0_9, z_r0_0_10, z_r0_2_1] at S33
  have e34 := Chg.k S33 T_r1 (by decide) (by decide) e19
  have e35 := Chg.k S33 T_r0_0 (by decide) (by decide) e20
  have e36 := Chg.k S33 T_r2 (by decide) (by decide) e21
  have e37 := Chg.k S33 T_r2 (by decide) (by decide) e22
  have e38 := Chg.k S33 T_r2 (by decide) (by decide) e23
  have e39 := Chg.k S33 T_r2 (by decide) (by decide) e24
  have e40 := Chg.k S33 T_r3 (by decide) (by decide) e25
  have e41 := Chg.k S33 T_r0_2 (by decide) (by decide) e27
  try simp only [z_r0_0, z_r0_1, z_r0_2, z_r1_1, z_r3_1, z_r0_0_6, z_r0_0_7, z_r0_0_8, z_r0_0_9, z_r0_0_10, z_r0_2_1] at p0v30
  try simp only [e19, e20, e21, e22, e23, e24, e25, e27] at p0v30
  try have q0v30 := congrArg Int32.toInt p0v30
  have hs19 := p0v30
  refine k_aload_n C rfl rfl rfl ?_
  refine z_iconst C (z := 0) rfl rfl rfl (fun x42 ex42 => ?_)
  refine k_aload_n C rfl rfl rfl ?_
  refine z_iconst C (z := 0) rfl rfl rfl (fun x43 ex43 => ?_)
  refine c_VI C (s_X2_get_x hS hI31 H_r1) rfl rfl rfl rfl rfl ⟨_, rfl, rfl, T_r1, Nat.le_of_ble_eq_true rfl⟩ rfl rfl (Nat.le_of_ble_eq_true rfl) (Nat.le_of_ble_eq_true rfl) (Nat.le_of_ble_eq_true rfl) ?_
  rintro x44 _ _ ⟨p0x44, rfl, rfl⟩
  have gx44 := rg x44
  try simp only [z_r0_0, z_r0_1, z_r0_2, z_r1_1, z_r3_1, z_r0_0_6, z_r0_0_7, z_r0_0_8, z_r0_0_9, z_r0_0_10, z_r0_2_1] at p0x44
  try simp only [e34, e35, e36, e37, e38, e39, e40, e41] at p0x44
  try have q0x44 := congrArg Int32.toInt p0x44
  have hg26 := p0x44; (try simp only [e34] at hg26); have he26 := (Chg.at ((Chg.cons (Chg.up S5 (List.forall_mem_cons.mpr ⟨List.mem_of_getElem? (i := 0) rfl, List.forall_mem_cons.mpr ⟨List.mem_of_getElem? (i := 1) rfl, fun _ h => nomatch h⟩⟩)) (Chg.cons (Chg.up S18 (List.forall_mem_cons.mpr ⟨List.mem_of_getElem? (i := 2) rfl, List.forall_mem_cons.mpr ⟨List.mem_of_getElem? (i := 3) rfl, fun _ h => nomatch h⟩⟩)) (Chg.mono (Chg.up S33 (List.forall_mem_cons.mpr ⟨List.mem_of_getElem? (i := 3) rfl, fun _ h => nomatch h⟩)) (by decide)) (by decide)) (by decide)) : Chg (SL [r3, r3_1, r0_2, r0_2_1]) T [(3, 0)] I L I31 L32) (nm_4 (t_nq T_r1_1 T_r3 (by decide)) (by first | exact nb13 | exact fun e => nb13 e.symm) (t_nq T_r1_1 T_r0_2 (by decide)) (by first | exact nb1r | exact fun e => nb1r e.symm)))
  refine c_VV C (s_X2_set_x hS hI31 H_r3) rfl rfl rfl rfl rfl ⟨_, rfl, rfl, T_r3, Nat.le_of_ble_eq_true rfl⟩ rfl rfl (Nat.le_of_ble_eq_true rfl) (Nat.le_of_ble_eq_true rfl) (Nat.le_of_ble_eq_true rfl) ?_
  rintro I46 L47 ⟨p0v45, hI46, S48⟩
  try simp only [z_r0_0, z_r0_1, z_r0_2, z_r1_1, z_r3_1, z_r0_0_6, z_r0_0_7, z_r0_0_8, z_r0_0_9, z_r0_0_10, z_r0_2_1] at S48
  have e49 := Chg.k S48 T_r1 (by decide) (by decide) e34
  have e50 := Chg.k S48 T_r0_0 (by decide) (by decide) e35
  have e51 := Chg.k S48 T_r2 (by decide) (by decide) e36
  have e52 := Chg.k S48 T_r2 (by decide) (by decide) e37
  have e53 := Chg.k S48 T_r2 (by decide) (by decide) e38
  have e54 := Chg.k S48 T_r2 (by decide) (by decide) e39
  have e55 := Chg.k S48 T_r3 (by decide) (by decide) e40
  have e56 := Chg.k S48 T_r0_2 (by decide) (by decide) e41
  try simp only [z_r0_0, z_r0_1, z_r0_2, z_r1_1, z_r3_1, z_r0_0_6, z_r0_0_7, z_r0_0_8, z_r0_0_9, z_r0_0_10, z_r0_2_1] at p0v45
  try simp only [e34, e35, e36, e37, e38, e39, e40, e41] at p0v45
  try have q0v45 := congrArg Int32.toInt p0v45
  have hs29 := p0v45; have he29 := Chg.at S48 (nm_1 (Ne.symm nb3r))
  refine z_iconst C (z := 1) rfl rfl rfl (fun x57 ex57 => ?_)
  have J58 : ∀ (nn59 : Nat) (I60 : IT) (L61 : LT) (x62 : Int32) (x67 : Int32) (x71 : Int32) (x75 : Int32), (MN (41 - x62.toInt) nn59) → (IX A T I60) → (Chg (SL [r3, r3_1, r0_2, r0_2_1]) T [(3, 0)] I46 L47 I60 L61) → (1 ≤ x62.toInt) → (x62.toInt ≤ 41) → (I60 r3 0 = x67) → (0 ≤ x67.toInt) → (x67.toInt ≤ 40) → (I60 r0_2 0 = x71) → (0 ≤ x71.toInt) → (x71.toInt ≤ 40) → (I60 r1 0 = x75) → (0 ≤ x75.toInt) → (x75.toInt ≤ 40) → (VRX I60 r3_1 w_r0_0_0.toInt (x62.toInt - 1) (PmX w_r2_0.toInt w_r2_1.toInt w_r2_2.toInt w_r2_3.toInt (NF I r1_1) (x62.toInt - 1).toNat)) → (VRX I60 r0_2_1 w_r0_0_0.toInt (x62.toInt - 1) (PmN w_r2_2.toInt w_r2_3.toInt (x62.toInt - 1).toNat PmD)) → (x67.toInt = x62.toInt - 1) → (x71.toInt = x62.toInt - 1) → (x62.toInt ≤ w_r1_0.toInt + 1) → (x75.toInt = w_r1_0.toInt) → V 35 [(0, .ref r0), (1, .ref r1), (2, .ref r2), (3, .ref r3), (4, .int x62)] [] (T, N, I60, L61, R) 0 0 := by
    intro nn59
    induction nn59 using Nat.strongRecOn with
    | _ nn59 ihJ58 =>
      intro I60 L61 x62 x67 x71 x75 hmnn59 hI66 S65 b63 b64 e68 b69 b70 e72 b73 b74 e76 b77 b78 ff35_0 ff35_1 ff35_2 ff35_3 ff35_4 ff35_5
      have gx62 := rg x62
      have gx67 := rg x67
      have gx71 := rg x71
      have gx75 := rg x75
      have e85 := Chg.k S65 T_r0_0 (by decide) (by decide) e50
      have e86 := Chg.k S65 T_r2 (by decide) (by decide) e51
      have e87 := Chg.k S65 T_r2 (by decide) (by decide) e52
      have e88 := Chg.k S65 T_r2 (by decide) (by decide) e53
      have e89 := Chg.k S65 T_r2 (by decide) (by decide) e54
      refine k_iload C rfl rfl rfl ?_
      refine k_aload_n C rfl rfl rfl ?_
      refine g_I C rfl rfl rfl T_r1 rfl e76 ?_
      refine b_icmp_gt C (t := 129) rfl rfl rfl (fun c90 => ?_) (fun c90 => ?_)
      · skip
        exact k_vret C rfl rfl (Nat.le_of_ble_eq_true rfl) (Nat.le_of_ble_eq_true rfl) ⟨_, _, rfl, rfl, by (try simp only [z_r0_0, z_r0_1, z_r0_2, z_r1_1, z_r3_1, z_r0_0_6, z_r0_0_7, z_r0_0_8, z_r0_0_9, z_r0_0_10, z_r0_2_1]); rw [e68]; simp only [k0_r1_0]; omega, by (try simp only [z_r0_0, z_r0_1, z_r0_2, z_r1_1, z_r3_1, z_r0_0_6, z_r0_0_7, z_r0_0_8, z_r0_0_9, z_r0_0_10, z_r0_2_1]); simp only [k0_r1_0, k0_r0_0_0, k0_r2_0, k0_r2_1, k0_r2_2, k0_r2_3]; have e9 : x62.toInt - 1 = w_r1_0.toInt := (by omega); rw [← e9]; exact ff35_0, hI66, (by (try simp only [z_r0_0, z_r0_1, z_r0_2, z_r1_1, z_r3_1, z_r0_0_6, z_r0_0_7, z_r0_0_8, z_r0_0_9, z_r0_0_10, z_r0_2_1]); exact (Chg.cons (Chg.up S5 (List.forall_mem_cons.mpr ⟨List.mem_of_getElem? (i := 0) rfl, List.forall_mem_cons.mpr ⟨List.mem_of_getElem? (i := 1) rfl, fun _ h => nomatch h⟩⟩)) (Chg.cons (Chg.up S18 (List.forall_mem_cons.mpr ⟨List.mem_of_getElem? (i := 2) rfl, List.forall_mem_cons.mpr ⟨List.mem_of_getElem? (i := 3) rfl, fun _ h => nomatch h⟩⟩)) (Chg.cons (Chg.up S33 (List.forall_mem_cons.mpr ⟨List.mem_of_getElem? (i := 3) rfl, fun _ h => nomatch h⟩)) (Chg.cons (Chg.up S48 (List.forall_mem_cons.mpr ⟨List.mem_of_getElem? (i := 1) rfl, fun _ h => nomatch h⟩)) (Chg.mono S65 (by decide)) (by decide)) (by decide)) (by decide)) (by decide)))⟩
      refine k_aload_n C rfl rfl rfl ?_
      refine k_aload_n C rfl rfl rfl ?_
      refine k_aload_n C rfl rfl rfl ?_
      refine g_I C rfl rfl rfl T_r2 rfl e86 ?_
      refine k_aload_n C rfl rfl rfl ?_
      refine g_I C rfl rfl rfl T_r2 rfl e87 ?_
      refine c_VV C (s_X0_multiplyByLine_x hS hI66 H_r0 H_r3 (by omega) (by omega) (by omega) (by omega) (by rw [e68]; omega) (by rw [z_r3_1, z_r0_0, e68, e85]; exact BNX.of ff35_0 (by omega))) rfl rfl rfl rfl rfl ⟨_, rfl, rfl, T_r0, Nat.le_of_ble_eq_true rfl⟩ rfl rfl (Nat.le_of_ble_eq_true rfl) (Nat.le_of_ble_eq_true rfl) (Nat.le_of_ble_eq_true rfl) ?_
      rintro I92 L93 ⟨p0v91, p1v91, hI92, S94⟩
      try simp only [z_r0_0, z_r0_1, z_r0_2, z_r1_1, z_r3_1, z_r0_0_6, z_r0_0_7, z_r0_0_8, z_r0_0_9, z_r0_0_10, z_r0_2_1] at S94
      have e95 := Chg.k S94 T_r0_0 (by decide) (by decide) e85
      have e96 := Chg.k S94 T_r2 (by decide) (by decide) e86
      have e97 := Chg.k S94 T_r2 (by decide) (by decide) e87
      have e98 := Chg.k S94 T_r2 (by decide) (by decide) e88
      have e99 := Chg.k S94 T_r2 (by decide) (by decide) e89
      have e100 := (congrFun (Chg.at S94 (nm_2 (by first | exact hp1 | exact fun e => hp1 e.symm) (t_nq T_r0_2 T_r3_1 (by decide)))) 0).trans e72
      have e101 := (congrFun (Chg.at S94 (nm_2 (by first | exact hp0 | exact fun e => hp0 e.symm) (t_nq T_r1 T_r3_1 (by decide)))) 0).trans e76
      obtain ⟨x102, e103⟩ : ∃ x, I92 r3 0 = x := ⟨_, rfl⟩
      have gx102 := rg x102
      have ox102 := IX.deg hI92 A_r3 T_r3 e103
      try simp only [z_r0_0, z_r0_1, z_r0_2, z_r1_1, z_r3_1, z_r0_0_6, z_r0_0_7, z_r0_0_8, z_r0_0_9, z_r0_0_10, z_r0_2_1] at p0v91
      try simp only [z_r0_0, z_r0_1, z_r0_2, z_r1_1, z_r3_1, z_r0_0_6, z_r0_0_7, z_r0_0_8, z_r0_0_9, z_r0_0_10, z_r0_2_1] at p1v91
      try simp only [e85, e86, e87, e88, e89, e68, e72, e76, e103] at p0v91
      try have q0v91 := congrArg Int32.toInt p0v91
      try simp only [e85, e86, e87, e88, e89, e68, e72, e76, e103] at p1v91
      try have q1v91 := congrArg Int32.toInt p1v91
      have hml := p1v91; have he54 := Chg.at S94 (nm_2 (t_nq T_r0_2_1 T_r3 (by decide)) (Ne.symm nb3r))
      refine k_aload_n C rfl rfl rfl ?_
      refine k_aload_n C rfl rfl rfl ?_
      refine g_R C rfl rfl rfl T_r0 rfl R_r0_2 ?_
      refine k_aload_n C rfl rfl rfl ?_
      refine g_I C rfl rfl rfl T_r2 rfl e98 ?_
      refine k_aload_n C rfl rfl rfl ?_
      refine g_I C rfl rfl rfl T_r2 rfl e99 ?_
      refine c_VV C (s_X0_multiplyByLine_x hS hI92 H_r0 (hs_GF hS H_r0_2) (by omega) (by omega) (by omega) (by omega) (by rw [e100]; omega) (by rw [z_r0_2_1, z_r0_0, e100, e95]; exact BNX.of (ff35_1.eq he54) (by omega))) rfl rfl rfl rfl rfl ⟨_, rfl, rfl, T_r0, Nat.le_of_ble_eq_true rfl⟩ rfl rfl (Nat.le_of_ble_eq_true rfl) (Nat.le_of_ble_eq_true rfl) (Nat.le_of_ble_eq_true rfl) ?_
      rintro I105 L106 ⟨p0v104, p1v104, hI105, S107⟩
      try simp only [z_r0_0, z_r0_1, z_r0_2, z_r1_1, z_r3_1, z_r0_0_6, z_r0_0_7, z_r0_0_8, z_r0_0_9, z_r0_0_10, z_r0_2_1] at S107
      have e108 := Chg.k S107 T_r0_0 (by decide) (by decide) e95
      have e109 := Chg.k S107 T_r2 (by decide) (by decide) e96
      have e110 := Chg.k S107 T_r2 (by decide) (by decide) e97
      have e111 := Chg.k S107 T_r2 (by decide) (by decide) e98
      have e112 := Chg.k S107 T_r2 (by decide) (by decide) e99
      have e113 := (congrFun (Chg.at S107 (nm_2 (by first | exact hp2 | exact fun e => hp2 e.symm) (t_nq T_r1 T_r0_2_1 (by decide)))) 0).trans e101
      have e114 := (congrFun (Chg.at S107 (nm_2 (by first | exact hp1 | exact fun e => hp1 e.symm) (t_nq T_r3 T_r0_2_1 (by decide)))) 0).trans e103
      obtain ⟨x115, e116⟩ : ∃ x, I105 r0_2 0 = x := ⟨_, rfl⟩
      have gx115 := rg x115
      have ox115 := IX.deg hI105 A_r0_2 T_r0_2 e116
      try simp only [z_r0_0, z_r0_1, z_r0_2, z_r1_1, z_r3_1, z_r0_0_6, z_r0_0_7, z_r0_0_8, z_r0_0_9, z_r0_0_10, z_r0_2_1] at p0v104
      try simp only [z_r0_0, z_r0_1, z_r0_2, z_r1_1, z_r3_1, z_r0_0_6, z_r0_0_7, z_r0_0_8, z_r0_0_9, z_r0_0_10, z_r0_2_1] at p1v104
      try simp only [e95, e96, e97, e98, e99, e100, e101, e103, e116] at p0v104
      try have q0v104 := congrArg Int32.toInt p0v104
      try simp only [e95, e96, e97, e98, e99, e100, e101, e103, e116] at p1v104
      try have q1v104 := congrArg Int32.toInt p1v104
      have hmr := p1v104; have he70 := Chg.at S107 (nm_2 (t_nq T_r3_1 T_r0_2 (by decide)) nb3r)
      refine z_iconst C (z := 0) rfl rfl rfl (fun x117 ex117 => ?_)
      have J118 : ∀ (nn119 : Nat) (I120 : IT) (L121 : LT) (x122 : Int32) (x127 : Int32) (x131 : Int32) (x135 : Int32), (MN (41 - x122.toInt) nn119) → (IX A T I120) → (Chg (SL [r3, r3_1, r0_2, r0_2_1]) T [] I105 L106 I120 L121) → (0 ≤ x122.toInt) → (x122.toInt ≤ 41) → (I120 r3 0 = x127) → (0 ≤ x127.toInt) → (x127.toInt ≤ 40) → (I120 r0_2 0 = x131) → (0 ≤ x131.toInt) → (x131.toInt ≤ 40) → (I120 r1 0 = x135) → (0 ≤ x135.toInt) → (x135.toInt ≤ 40) → (VRS I120 r3_1 w_r0_0_0.toInt x62.toInt x122.toInt (PmX w_r2_0.toInt w_r2_1.toInt w_r2_2.toInt w_r2_3.toInt (NF I r1_1) ((x62.toInt - 1).toNat + 1)) (PmW w_r2_0.toInt w_r2_1.toInt (PmX w_r2_0.toInt w_r2_1.toInt w_r2_2.toInt w_r2_3.toInt (NF I r1_1) (x62.toInt - 1).toNat))) → (VRX I120 r0_2_1 w_r0_0_0.toInt x62.toInt (PmN w_r2_2.toInt w_r2_3.toInt ((x62.toInt - 1).toNat + 1) PmD)) → (x127.toInt = x62.toInt) → (x131.toInt = x62.toInt) → (x135.toInt = w_r1_0.toInt) → V 76 [(0, .ref r0), (1, .ref r1), (2, .ref r2), (3, .ref r3), (4, .int x62), (5, .int x122)] [] (T, N, I120, L121, R) 0 0 := by
        intro nn119
        induction nn119 using Nat.strongRecOn with
        | _ nn119 ihJ118 =>
          intro I120 L121 x122 x127 x131 x135 hmnn119 hI126 S125 b123 b124 e128 b129 b130 e132 b133 b134 e136 b137 b138 ff76_0 ff76_1 ff76_2 ff76_3 ff76_4
          have gx122 := rg x122
          have gx127 := rg x127
          have gx131 := rg x131
          have gx135 := rg x135
          have e144 := Chg.k S125 T_r0_0 (by decide) (by decide) e108
          have e145 := Chg.k S125 T_r2 (by decide) (by decide) e109
          have e146 := Chg.k S125 T_r2 (by decide) (by decide) e110
          have e147 := Chg.k S125 T_r2 (by decide) (by decide) e111
          have e148 := Chg.k S125 T_r2 (by decide) (by decide) e112
          have e149 := Chg.k S125 T_r1 (by decide) (by decide) e113
          have e150 := Chg.k S125 T_r3 (by decide) (by decide) e114
          have e151 := Chg.k S125 T_r0_2 (by decide) (by decide) e116
          refine k_iload C rfl rfl rfl ?_
          refine k_iload C rfl rfl rfl ?_
          refine b_icmp_gt C (t := 123) rfl rfl rfl (fun c152 => ?_) (fun c152 => ?_)
          · skip
            refine z_iinc C (z := 1) (lw := fun x153 => [(4, .int x153), (0, .ref r0), (1, .ref r1), (2, .ref r2), (3, .ref r3), (5, .int x122)]) rfl rfl rfl (Nat.le_of_ble_eq_true rfl) rfl ⟨by omega, by omega⟩ (fun _ => rfl) (fun x153 ex153 => ?_)
            show V 126 [(4, .int x153), (0, .ref r0), (1, .ref r1), (2, .ref r2), (3, .ref r3), (5, .int x122)] _ _ _ _
            refine k_goto C (pc2 := 35) rfl rfl ?_
            refine k_sub S [(0, .ref r0), (1, .ref r1), (2, .ref r2), (3, .ref r3), (4, .int x153)] (List.forall_mem_cons.mpr ⟨List.mem_of_getElem? (i := 1) rfl, List.forall_mem_cons.mpr ⟨List.mem_of_getElem? (i := 2) rfl, List.forall_mem_cons.mpr ⟨List.mem_of_getElem? (i := 3) rfl, List.forall_mem_cons.mpr ⟨List.mem_of_getElem? (i := 4) rfl, List.forall_mem_cons.mpr ⟨List.mem_of_getElem? (i := 0) rfl, fun _ h => nomatch h⟩⟩⟩⟩⟩) ?_
            exact ihJ58 _ (MN.lt hmnn59 (by omega) (by omega)) I120 L121 x153 x127 x131 x135 rfl hI126 (Chg.cons S65 (Chg.cons (Chg.up S94 (List.forall_mem_cons.mpr ⟨List.mem_of_getElem? (i := 0) rfl, List.forall_mem_cons.mpr ⟨List.mem_of_getElem? (i := 1) rfl, fun _ h => nomatch h⟩⟩)) (Chg.cons (Chg.up S107 (List.forall_mem_cons.mpr ⟨List.mem_of_getElem? (i := 2) rfl, List.forall_mem_cons.mpr ⟨List.mem_of_getElem? (i := 3) rfl, fun _ h => nomatch h⟩⟩)) (Chg.mono S125 (by decide)) (by decide)) (by decide)) (by decide)) (by omega) (by omega) e128 (by omega) (by omega) e132 (by omega) (by omega) e136 (by omega) (by omega) (by exact VRS.e ff76_0 (by omega) (by omega) (by congr 1; omega)) (by rw [show (x153.toInt - 1) = x62.toInt from by omega, show x62.toInt.toNat = (x62.toInt - 1).toNat + 1 from by omega]; exact ff76_1) (by omega) (by omega) (by omega) (by omega)
          refine k_aload_n C rfl rfl rfl ?_
          refine k_iload C rfl rfl rfl ?_
          refine k_aload_n C rfl rfl rfl ?_
          refine k_aload_n C rfl rfl rfl ?_
          refine k_iload C rfl rfl rfl ?_
          refine c_VI C (s_X2_get_x hS hI126 H_r3) rfl rfl rfl rfl rfl ⟨_, rfl, rfl, T_r3, Nat.le_of_ble_eq_true rfl⟩ rfl rfl (Nat.le_of_ble_eq_true rfl) (Nat.le_of_ble_eq_true rfl) (Nat.le_of_ble_eq_true rfl) ?_
          rintro x154 _ _ ⟨p0x154, rfl, rfl⟩
          have gx154 := rg x154
          try simp only [z_r0_0, z_r0_1, z_r0_2, z_r1_1, z_r3_1, z_r0_0_6, z_r0_0_7, z_r0_0_8, z_r0_0_9, z_r0_0_10, z_r0_2_1] at p0x154
          try simp only [e144, e145, e146, e147, e148, e136, e128, e132] at p0x154
          try have q0x154 := congrArg Int32.toInt p0x154
          have hga := p0x154; (try simp only [e128] at hga)
          refine k_aload_n C rfl rfl rfl ?_
          refine k_iload C rfl rfl rfl ?_
          refine c_VI C (s_X2_get_x hS hI126 H_r1) rfl rfl rfl rfl rfl ⟨_, rfl, rfl, T_r1, Nat.le_of_ble_eq_true rfl⟩ rfl rfl (Nat.le_of_ble_eq_true rfl) (Nat.le_of_ble_eq_true rfl) (Nat.le_of_ble_eq_true rfl) ?_
          rintro x155 _ _ ⟨p0x155, rfl, rfl⟩
          have gx155 := rg x155
          try simp only [z_r0_0, z_r0_1, z_r0_2, z_r1_1, z_r3_1, z_r0_0_6, z_r0_0_7, z_r0_0_8, z_r0_0_9, z_r0_0_10, z_r0_2_1] at p0x155
          try simp only [e144, e145, e146, e147, e148, e136, e128, e132] at p0x155
          try have q0x155 := congrArg Int32.toInt p0x155
          have hgf := p0x155; (try simp only [e136] at hgf); have hef := (Chg.at ((Chg.cons (Chg.up S5 (List.forall_mem_cons.mpr ⟨List.mem_of_getElem? (i := 0) rfl, List.forall_mem_cons.mpr ⟨List.mem_of_getElem? (i := 1) rfl, fun _ h => nomatch h⟩⟩)) (Chg.cons (Chg.up S18 (List.forall_mem_cons.mpr ⟨List.mem_of_getElem? (i := 2) rfl, List.forall_mem_cons.mpr ⟨List.mem_of_getElem? (i := 3) rfl, fun _ h => nomatch h⟩⟩)) (Chg.cons (Chg.up S33 (List.forall_mem_cons.mpr ⟨List.mem_of_getElem? (i := 3) rfl, fun _ h => nomatch h⟩)) (Chg.cons (Chg.up S48 (List.forall_mem_cons.mpr ⟨List.mem_of_getElem? (i := 1) rfl, fun _ h => nomatch h⟩)) (Chg.cons S65 (Chg.cons (Chg.up S94 (List.forall_mem_cons.mpr ⟨List.mem_of_getElem? (i := 0) rfl, List.forall_mem_cons.mpr ⟨List.mem_of_getElem? (i := 1) rfl, fun _ h => nomatch h⟩⟩)) (Chg.cons (Chg.up S107 (List.forall_mem_cons.mpr ⟨List.mem_of_getElem? (i := 2) rfl, List.forall_mem_cons.mpr ⟨List.mem_of_getElem? (i := 3) rfl, fun _ h => nomatch h⟩⟩)) (Chg.mono S125 (by decide)) (by decide)) (by decide)) (by decide)) (by decide)) (by decide)) (by decide)) (by decide)) : Chg (SL [r3, r3_1, r0_2, r0_2_1]) T [(3, 0)] I L I120 L121) (nm_4 (t_nq T_r1_1 T_r3 (by decide)) (by first | exact nb13 | exact fun e => nb13 e.symm) (t_nq T_r1_1 T_r0_2 (by decide)) (by first | exact nb1r | exact fun e => nb1r e.symm)))
          refine k_aload_n C rfl rfl rfl ?_
          refine g_R C rfl rfl rfl T_r0 rfl R_r0_2 ?_
          refine k_iload C rfl rfl rfl ?_
          refine c_VI C (s_X2_get_x hS hI126 (hs_GF hS H_r0_2)) rfl rfl rfl rfl rfl ⟨_, rfl, rfl, T_r0_2, Nat.le_of_ble_eq_true rfl⟩ rfl rfl (Nat.le_of_ble_eq_true rfl) (Nat.le_of_ble_eq_true rfl) (Nat.le_of_ble_eq_true rfl) ?_
          rintro x156 _ _ ⟨p0x156, rfl, rfl⟩
          have gx156 := rg x156
          try simp only [z_r0_0, z_r0_1, z_r0_2, z_r1_1, z_r3_1, z_r0_0_6, z_r0_0_7, z_r0_0_8, z_r0_0_9, z_r0_0_10, z_r0_2_1] at p0x156
          try simp only [e144, e145, e146, e147, e148, e136, e128, e132] at p0x156
          try have q0x156 := congrArg Int32.toInt p0x156
          have hgr := p0x156; (try simp only [e132] at hgr)
          refine z_imulN C rfl rfl (fun x157 hm108 => ?_)
          have gx157 := rg x157
          have mm108 := hm108.2
          clear hm108
          refine z_iaddX C rfl rfl (fun x158 ad109 => ?_)
          have gx158 := rg x158
          refine z_i2l C rfl rfl (fun lg159 elg159 => ?_)
          have hl := elg159
          refine c_VI C (s_X0_of_x hS hI126 H_r0) rfl rfl rfl rfl rfl ⟨_, rfl, rfl, T_r0, Nat.le_of_ble_eq_true rfl⟩ rfl rfl (Nat.le_of_ble_eq_true rfl) (Nat.le_of_ble_eq_true rfl) (Nat.le_of_ble_eq_true rfl) ?_
          rintro x160 _ _ ⟨o0x160, o1x160, p0x160, p1x160, rfl, rfl⟩
          have gx160 := rg x160
          try simp only [z_r0_0, z_r0_1, z_r0_2, z_r1_1, z_r3_1, z_r0_0_6, z_r0_0_7, z_r0_0_8, z_r0_0_9, z_r0_0_10, z_r0_2_1] at p0x160
          try simp only [z_r0_0, z_r0_1, z_r0_2, z_r1_1, z_r3_1, z_r0_0_6, z_r0_0_7, z_r0_0_8, z_r0_0_9, z_r0_0_10, z_r0_2_1] at p1x160
          try simp only [e144, e145, e146, e147, e148, e136, e128, e132] at p0x160
          try have q0x160 := congrArg Int32.toInt p0x160
          try simp only [e144, e145, e146, e147, e148, e136, e128, e132] at p1x160
          try have q1x160 := congrArg Int32.toInt p1x160
          have hof := p0x160; (try simp only [e144] at hof)
          refine c_VV C (s_X2_set_x hS hI126 H_r3) rfl rfl rfl rfl rfl ⟨_, rfl, rfl, T_r3, Nat.le_of_ble_eq_true rfl⟩ rfl rfl (Nat.le_of_ble_eq_true rfl) (Nat.le_of_ble_eq_true rfl) (Nat.le_of_ble_eq_true rfl) ?_
          rintro I162 L163 ⟨p0v161, hI162, S164⟩
          try simp only [z_r0_0, z_r0_1, z_r0_2, z_r1_1, z_r3_1, z_r0_0_6, z_r0_0_7, z_r0_0_8, z_r0_0_9, z_r0_0_10, z_r0_2_1] at S164
          have e165 := Chg.k S164 T_r0_0 (by decide) (by decide) e144
          have e166 := Chg.k S164 T_r2 (by decide) (by decide) e145
          have e167 := Chg.k S164 T_r2 (by decide) (by decide) e146
          have e168 := Chg.k S164 T_r2 (by decide) (by decide) e147
          have e169 := Chg.k S164 T_r2 (by decide) (by decide) e148
          have e170 := Chg.k S164 T_r1 (by decide) (by decide) e136
          have e171 := Chg.k S164 T_r3 (by decide) (by decide) e128
          have e172 := Chg.k S164 T_r0_2 (by decide) (by decide) e132
          try simp only [z_r0_0, z_r0_1, z_r0_2, z_r1_1, z_r3_1, z_r0_0_6, z_r0_0_7, z_r0_0_8, z_r0_0_9, z_r0_0_10, z_r0_2_1] at p0v161
          try simp only [e144, e145, e146, e147, e148, e136, e128, e132] at p0v161
          try have q0v161 := congrArg Int32.toInt p0v161
          have hse := p0v161; have hne := Chg.at S164 (nm_1 (Ne.symm nb3r))
          refine z_iinc C (z := 1) (lw := fun x173 => [(5, .int x173), (0, .ref r0), (1, .ref r1), (2, .ref r2), (3, .ref r3), (4, .int x62)]) rfl rfl rfl (Nat.le_of_ble_eq_true rfl) rfl ⟨by omega, by omega⟩ (fun _ => rfl) (fun x173 ex173 => ?_)
          show V 120 [(5, .int x173), (0, .ref r0), (1, .ref r1), (2, .ref r2), (3, .ref r3), (4, .int x62)] _ _ _ _
          refine k_goto C (pc2 := 76) rfl rfl ?_
          refine k_sub S [(0, .ref r0), (1, .ref r1), (2, .ref r2), (3, .ref r3), (4, .int x62), (5, .int x173)] (List.forall_mem_cons.mpr ⟨List.mem_of_getElem? (i := 1) rfl, List.forall_mem_cons.mpr ⟨List.mem_of_getElem? (i := 2) rfl, List.forall_mem_cons.mpr ⟨List.mem_of_getElem? (i := 3) rfl, List.forall_mem_cons.mpr ⟨List.mem_of_getElem? (i := 4) rfl, List.forall_mem_cons.mpr ⟨List.mem_of_getElem? (i := 5) rfl, List.forall_mem_cons.mpr ⟨List.mem_of_getElem? (i := 0) rfl, fun _ h => nomatch h⟩⟩⟩⟩⟩⟩) ?_
          exact ihJ118 _ (MN.lt hmnn119 (by omega) (by omega)) I162 L163 x173 x127 x131 x135 rfl hI162 (Chg.cons S125 (Chg.mono (Chg.up S164 (List.forall_mem_cons.mpr ⟨List.mem_of_getElem? (i := 1) rfl, fun _ h => nomatch h⟩)) (by decide)) (by decide)) (by omega) (by omega) e171 (by omega) (by omega) e172 (by omega) (by omega) e170 (by omega) (by omega) (by exact VRS.s ff76_0 ff76_1 (by omega) hp3 (by omega) (by omega) hga hgf hgr hef mm108 ad109 hl hof hse (by omega) (by omega) (by omega) (by omega) (by omega) (by omega) (by omega) (by omega)) (by exact ff76_1.eq hne) (by omega) (by omega) (by omega)
      refine k_istore C (lw := [(5, .int x117), (0, .ref r0), (1, .ref r1), (2, .ref r2), (3, .ref r3), (4, .int x62)]) rfl rfl (Nat.le_of_ble_eq_true rfl) rfl ?_
      refine k_sub S [(0, .ref r0), (1, .ref r1), (2, .ref r2), (3, .ref r3), (4, .int x62), (5, .int x117)] (List.forall_mem_cons.mpr ⟨List.mem_of_getElem? (i := 1) rfl, List.forall_mem_cons.mpr ⟨List.mem_of_getElem? (i := 2) rfl, List.forall_mem_cons.mpr ⟨List.mem_of_getElem? (i := 3) rfl, List.forall_mem_cons.mpr ⟨List.mem_of_getElem? (i := 4) rfl, List.forall_mem_cons.mpr ⟨List.mem_of_getElem? (i := 5) rfl, List.forall_mem_cons.mpr ⟨List.mem_of_getElem? (i := 0) rfl, fun _ h => nomatch h⟩⟩⟩⟩⟩⟩) ?_
      exact J118 _ I105 L106 x117 x102 x115 x75 rfl hI105 Chg.rf (by omega) (by omega) e114 (by omega) (by omega) e116 (by omega) (by omega) e113 (by omega) (by omega) (by exact VRS.z (n := x62.toInt - 1 + 1) (VXW ff35_0 (PmS.x _ _ _ _ _ _) hml (by omega) (by omega) (by omega)) he70 (by omega) (by omega)) (by have v := VXN (n' := x62.toInt) (ff35_1.eq he54) hmr (by omega) (by omega) (by omega) (by omega); rwa [show x62.toInt.toNat = (x62.toInt - 1).toNat + 1 from by omega] at v) (by omega) (by omega) (by omega)
  refine k_istore C (lw := [(4, .int x57), (0, .ref r0), (1, .ref r1), (2, .ref r2), (3, .ref r3)]) rfl rfl (Nat.le_of_ble_eq_true rfl) rfl ?_
  refine k_sub S [(0, .ref r0), (1, .ref r1), (2, .ref r2), (3, .ref r3), (4, .int x57)] (List.forall_mem_cons.mpr ⟨List.mem_of_getElem? (i := 1) rfl, List.forall_mem_cons.mpr ⟨List.mem_of_getElem? (i := 2) rfl, List.forall_mem_cons.mpr ⟨List.mem_of_getElem? (i := 3) rfl, List.forall_mem_cons.mpr ⟨List.mem_of_getElem? (i := 4) rfl, List.forall_mem_cons.mpr ⟨List.mem_of_getElem? (i := 0) rfl, fun _ h => nomatch h⟩⟩⟩⟩⟩) ?_
  exact J58 _ I46 L47 x57 x12 x26 w_r1_0 rfl hI46 Chg.rf (by omega) (by omega) e55 (by omega) (by omega) e56 (by omega) (by omega) e49 (by omega) (by omega) (by exact VX0 hs29 (by omega) hg26 (by omega) (by omega) he26 hp3 (by omega)) (by exact VN0 hs19 (by omega) (by omega) he29 (by omega) (by omega)) (by omega) (by omega) (by omega) (by omega)

