/-! the reference: roots: exactly -/
/-- the world's forms, within p -/
def CNW (W : Nat → Int32) : Prop := ∀ f : Nat, (f : Int) < (W 1).toInt → ∀ k : Nat, (k : Int) ≤ (W (6 + 10 * f)).toInt → 0 ≤ (W (7 + 10 * f + k)).toInt ∧ (W (7 + 10 * f + k)).toInt < (W 0).toInt
theorem ZRL.i {I : IT} {nu r : Nat} {x k k' : Int32} (h : ZRL (RI I nu r) k.toInt) (o : x.toInt = (I nu (41 * r + k.toNatClampNeg)).toInt) (e : x.toInt = 0) (h0 : 0 ≤ k.toInt) (hk : k'.toInt = k.toInt + 1) : ZRL (RI I nu r) k'.toInt := fun j hj => by
  have n0 := ncz h0
  by_cases q : j = k.toNatClampNeg
  · subst q; exact o.symm.trans e
  · exact h j (by omega)
def OFR (x p t D : Int) (f : Nat → Int) : Prop := (t = p → 0 ≤ x ∧ f x.toNat ≠ 0 ∧ ZRL f x) ∧ (t ≠ p → HOW p t D f x)
theorem OFR.p {I : IT} {nu r : Nat} {x k : Int32} {p t D : Int} (h : ZRL (RI I nu r) k.toInt) (o : x.toInt = (I nu (41 * r + k.toNatClampNeg)).toInt) (e : x.toInt ≠ 0) (h0 : 0 ≤ k.toInt) (ht : t = p) : OFR k.toInt p t D (RI I nu r) := ⟨fun _ => ⟨h0, fun q => e (o.trans q), h⟩, fun q => absurd ht q⟩
theorem OFR.h {x p t D : Int} {f : Nat → Int} (h : HOW p t D f x) (ht : t ≠ p) : OFR x p t D f := ⟨fun q => absurd q ht, fun _ => h⟩
theorem OFR.f {x p t D : Int} {f : Nat → Int} (h : OFR x p t D f) (nz : ¬ ZRL f (D + 1)) : HOF x p t D f := ⟨fun z => absurd z nz, fun _ => ⟨fun q => by
  obtain ⟨a0, a2, a3⟩ := h.1 q
  refine ⟨a0, ?_, a2, a3⟩
  rcases Int.lt_or_le D x with c | c
  · exact absurd (fun j hj => a3 j (by omega)) nz
  · exact c, h.2⟩⟩
theorem RWF.cp {I I' : IT} {nu a b : Nat} {D n p t : Int} (c : CPN I I' nu a b (D + 1)) (hn : n = 0) : RWF I' nu b (D - n) (ITR p t (RI I nu a) n.toNat) := by
  subst hn
  intro j hj
  show (I' nu _).toInt = (I nu _).toInt
  rw [c j (by omega)]
def RDL (I : IT) (nu r : Nat) (p t E : Int) (g : Nat → Int) (k : Int) : Prop := ∀ j : Nat, (j : Int) ≤ E → RI I nu r j = if (j : Int) < k then SYN p t g j else g j
theorem RDL.z {I : IT} {nu r : Nat} {p t E k : Int} {g : Nat → Int} (h : RWF I nu r E g) (hk : k = 1) : RDL I nu r p t E g k := fun j hj => by
  rw [h j hj]
  by_cases q : (j : Int) < k
  · have z : j = 0 := by omega
    subst z; rw [if_pos q]; rfl
  · rw [if_neg q]
theorem RDL.s {I I' : IT} {nu r : Nat} {p E : Int} {t k k1 k' a b m w : Int32} {g : Nat → Int} (h : RDL I nu r p t.toInt E g k.toInt) (oa : a.toInt = (I nu (41 * r + k.toNatClampNeg)).toInt) (ob : b.toInt = (I nu (41 * r + k1.toNatClampNeg)).toInt) (tt : TMD m.toInt t.toInt b.toInt p) (pl : PLD w.toInt a.toInt m.toInt p) (hP : PUTD I I' nu r k.toNatClampNeg w) (hg : ∀ j : Nat, (j : Int) ≤ E → 0 ≤ g j ∧ g j < p) (hp : 0 < p) (ht : 0 ≤ t.toInt) (h1 : 1 ≤ k.toInt) (hE : k.toInt ≤ E) (e1 : k1.toInt = k.toInt - 1) (hk : k'.toInt = k.toInt + 1) : RDL I' nu r p t.toInt E g k'.toInt := fun j hj => by
  have n0 := ncz (x := k) (by omega)
  have n1 := ncz (x := k1) (by omega)
  have va : a.toInt = g k.toNatClampNeg := by
    have q := h k.toNatClampNeg (by omega)
    rw [if_neg (by omega)] at q
    rw [oa]; exact q
  have vb : b.toInt = SYN p t.toInt g k1.toNatClampNeg := by
    have q := h k1.toNatClampNeg (by omega)
    rw [if_pos (by omega)] at q
    rw [ob]; exact q
  have bb := SYN.b (t := t.toInt) hp (hg 0 (by omega)) k1.toNatClampNeg
  have ba := hg k.toNatClampNeg (by omega)
  show (I' nu _).toInt = _
  by_cases q : j = k.toNatClampNeg
  · subst q
    rw [hP.1, if_pos (by omega)]
    unfold PLD at pl; unfold TMD at tt
    have bm : 0 ≤ m.toInt := by rw [tt]; exact Int.tmod_nonneg _ (Int.mul_nonneg ht (by omega))
    have bw : 0 ≤ w.toInt ∧ w.toInt < p := by rw [pl]; exact ⟨Int.tmod_nonneg _ (by omega), Int.tmod_lt_of_pos _ hp⟩
    have bs := SYN.b (t := t.toInt) hp (hg 0 (by omega)) k.toNatClampNeg
    refine PmE.eq (p := p) ?_ bw.1 bw.2 bs.1 bs.2
    rw [show k.toNatClampNeg = k1.toNatClampNeg + 1 from by omega]
    show PmE p w.toInt ((g (k1.toNatClampNeg + 1) + SYN p t.toInt g k1.toNatClampNeg * t.toInt) % p)
    rw [pl, tt, va, vb, show k.toNatClampNeg = k1.toNatClampNeg + 1 from by omega, Int.mul_comm t.toInt]
    exact (PmE.tm _).tr ((PmE.rf.ad (PmE.tm _)).tr (PmE.em _).sy)
  · rw [hP.2 _ (by omega)]
    have z := h j hj
    have z : (I nu (41 * r + j)).toInt = _ := z
    rw [z]
    by_cases c : (j : Int) < k.toInt
    · rw [if_pos c, if_pos (by omega)]
    · rw [if_neg c, if_neg (by omega)]
theorem RDL.e {I I' : IT} {nu r : Nat} {p t E E' k n n' : Int} {f : Nat → Int} (h : RDL I nu r p t E (ITR p t f n.toNat) k) (e : I' nu = I nu) (hk : E < k) (hE : E' ≤ E) (h0 : 0 ≤ n) (hn : n' = n + 1) : RWF I' nu r E' (ITR p t f n'.toNat) := fun j hj => by
  rw [show n'.toNat = n.toNat + 1 from by omega]
  show (I' nu _).toInt = _
  rw [e]
  have z := h j (by omega)
  rw [if_pos (by omega)] at z
  exact z
theorem VAD.rt {I : IT} {nu r : Nat} {x p t y D E n : Int} {g : Nat → Int} (h : VAD x p (RI I nu r) t y E) (w : RWF I nu r (D - n) g) (hE : E = D - n) (hy : y = 1) (ht : 0 ≤ t) (hp : 0 < p) (h0 : 0 ≤ n) (hD : n ≤ D) (hg : ∀ k : Nat, (k : Int) ≤ D → 0 ≤ g k) : PmE p x (HRV t 1 g (D.toNat - n.toNat + 1)) ∧ 0 ≤ x ∧ x < p := by
  subst hE; subst hy
  have h := VAD.cg (g := g) h (fun k hk => w k hk) (by omega) rfl rfl rfl
  unfold VAD at h
  have e := vaS.h (p := p) (x := t) (y := 1) (f := g) (D := (D - n).toNat) ((D - n).toNat + 1) (Nat.le_refl _)
  rw [Nat.sub_self] at e
  have e : PmE p (vaS p g t 1 (D - n).toNat ((D - n).toNat + 1)) (HRV t 1 g ((D - n).toNat + 1) * 1) := e
  rw [Int.mul_one, ← h, show (D - n).toNat = D.toNat - n.toNat from by omega] at e
  have b := vaS.b (p := p) (x := t) (y := 1) (f := g) (D := (D - n).toNat) hp ht (by decide) (fun k hk => hg k (by omega)) ((D - n).toNat + 1) (Nat.le_refl _)
  rw [← h] at b
  exact ⟨e, b⟩
theorem ZRR.y {x p t D n : Int} {f : Nat → Int} (v : PmE p x (HRV t 1 (ITR p t f n.toNat) (D.toNat - n.toNat + 1)) ∧ 0 ≤ x ∧ x < p) (hx : x = 0) : ZRR p t D f n.toNat := by
  have v := v.1
  rw [hx] at v; exact v.sy
theorem ZRR.n {x p t D n : Int} {f : Nat → Int} (v : PmE p x (HRV t 1 (ITR p t f n.toNat) (D.toNat - n.toNat + 1)) ∧ 0 ≤ x ∧ x < p) (hx : x ≠ 0) : ¬ ZRR p t D f n.toNat := fun z => by
  have z : PmE p (HRV t 1 (ITR p t f n.toNat) (D.toNat - n.toNat + 1)) 0 := z
  exact hx ((v.1.tr z).eq v.2.1 v.2.2 (Int.le_refl 0) (by omega))
theorem ZRA.s {p t D n n' : Int} {f : Nat → Int} (h : ∀ i : Nat, (i : Int) < n → ZRR p t D f i) (z : ZRR p t D f n.toNat) (h0 : 0 ≤ n) (hn : n' = n + 1) : ∀ i : Nat, (i : Int) < n' → ZRR p t D f i := fun i hi => by
  by_cases q : i = n.toNat
  · subst q; exact z
  · exact h i (by omega)
/-- a row taken from the world, within p -/
theorem CNW.r {W : Nat → Int32} {I I' : IT} {w nu r : Nat} {f : Int32} {D : Int} (h : CNW W) (T : TKE I' I w nu r (6 + 10 * f.toNatClampNeg + 1) D) (e : I w = W) (hD : D = (W (6 + 10 * f.toNatClampNeg)).toInt) (h0 : 0 ≤ f.toInt) (h1 : f.toInt < (W 1).toInt) : (∀ k : Nat, (k : Int) ≤ D → 0 ≤ RI I' nu r k ∧ RI I' nu r k < (W 0).toInt) ∧ ∀ k : Nat, (k : Int) ≤ D → RI I' nu r k = (W (7 + 10 * f.toNatClampNeg + k)).toInt := by
  have n0 := ncz h0
  have g : ∀ k : Nat, (k : Int) ≤ D → RI I' nu r k = (W (7 + 10 * f.toNatClampNeg + k)).toInt := fun k hk => by
    rw [T k hk, e, show 6 + 10 * f.toNatClampNeg + 1 + k = 7 + 10 * f.toNatClampNeg + k from by omega]
  exact ⟨fun k hk => by rw [g k hk]; exact h _ (by omega) k (by omega), g⟩
theorem NQA.z {I : IT} {dg nu r : Nat} {D : Int} (h : NQA I dg nu r) (e : (I dg r).toInt = D) : ZRL (RI I nu r) (D + 1) := fun j hj => h j (by omega)
theorem NQA.n {I : IT} {dg nu r : Nat} {D : Int} (h : ¬ NQA I dg nu r) (e : (I dg r).toInt = D) : ¬ ZRL (RI I nu r) (D + 1) := fun z => h (fun j hj => z j (by omega))
theorem HOF.nq {I : IT} {dg nu r : Nat} {x y p t D : Int} (h : IFF y (NQA I dg nu r)) (e : (I dg r).toInt = D) (hy : y = 1) (hx : x = 99) : HOF x p t D (RI I nu r) := ⟨fun _ => hx, fun z => absurd (NQA.z (h.1 hy) e) z⟩
theorem OFR.nq {I : IT} {dg nu r : Nat} {x y p t D : Int} (g : OFR x p t D (RI I nu r)) (h : IFF y (NQA I dg nu r)) (e : (I dg r).toInt = D) (hy : y = 0) : HOF x p t D (RI I nu r) := g.f (NQA.n (h.2 hy) e)
theorem HOF.fin {x p t D D' : Int} {f g : Nat → Int} (h : HOF x p t D' f) (eD : D' = D) (e : ∀ k : Nat, (k : Int) ≤ D' → f k = g k) : HOF x p t D g := by subst eD; exact h.cg e
theorem RWF.w {I : IT} {nu r : Nat} {D D' : Int} {g : Nat → Int} (h : RWF I nu r D g) (e : D' = D) : ∀ k : Nat, (k : Int) ≤ D' → RI I nu r k = g k := fun k hk => h k (by omega)
theorem RWF.cn {I : IT} {nu r : Nat} {D p : Int} {g : Nat → Int} (h : RWF I nu r D g) (e : ∀ k : Nat, (k : Int) ≤ D → 0 ≤ g k ∧ g k < p) : ∀ k : Nat, (k : Int) ≤ D → 0 ≤ RI I nu r k ∧ RI I nu r k < p := fun k hk => by rw [h k hk]; exact e k hk
theorem CNW.g {W : Nat → Int32} {f : Int32} {D p : Int} (h : CNW W) (hD : (W (6 + 10 * f.toNatClampNeg)).toInt = D) (hp : (W 0).toInt = p) (h0 : 0 ≤ f.toInt) (h1 : f.toInt < (W 1).toInt) : ∀ k : Nat, (k : Int) ≤ D → 0 ≤ (W (7 + 10 * f.toNatClampNeg + k)).toInt ∧ (W (7 + 10 * f.toNatClampNeg + k)).toInt < p := fun k hk => by
  have n0 := ncz h0
  subst hp
  exact h _ (by omega) k (by omega)
theorem RBL.o {b z w : Int32} {p D k k' x : Int} {f : Nat → Int} (h : RBL b p D f k) (g : HOF x p k D f) (hx : x ≤ 0) (h0 : 0 ≤ k) (hz : z.toInt = 0) (ew : w = b ||| z) (hk : k' = k + 1) : RBL w p D f k' := by
  have e : z = 0 := Int32.toInt_inj.mp (hz.trans (show (0 : Int) = (0 : Int32).toInt from rfl))
  subst e
  rw [ew, Int32.or_zero]
  exact h.n g hx h0 hk
def EMQ (i p D : Int) (f : Nat → Int) (k : Int) : Prop := (i = 1 → EMA p D f) ∧ (i = 0 → EML p D f k)
theorem EMQ.z {I : IT} {dg nu r : Nat} {i p D D' k : Int} {g : Nat → Int} (h : IFF i (NQA I dg nu r)) (e : (I dg r).toInt = D') (eD : D' = D) (w : RWF I nu r D g) (hk : k = 0) (hp : 0 ≤ p) (h0 : 0 ≤ D) (hD : D ≤ 40) : EMQ i p D g k := by
  refine ⟨fun q => ⟨0, by omega, 99, ⟨fun _ => rfl, fun z => absurd (fun j hj => ?_) z⟩, by omega⟩, fun _ => EML.z hk⟩
  rw [← w j (by omega)]; exact h.1 q j (by omega)
theorem EMQ.y {i j p D k k' x : Int} {f : Nat → Int} (_ : EMQ i p D f k) (g : HOF x p k D f) (hx : D < 2 * x) (h0 : 0 ≤ k) (hk : k ≤ p) (hj : j = 1) : EMQ j p D f k' := ⟨fun _ => (EMA.y (y := 1) g hx h0 hk rfl).1 rfl, fun q => by omega⟩
theorem EMQ.n {i j p D k k' x : Int} {f : Nat → Int} (h : EMQ i p D f k) (hi : i = 0) (g : HOF x p k D f) (hx : ¬ D < 2 * x) (h0 : 0 ≤ k) (hj : j = 0) (hk : k' = k + 1) : EMQ j p D f k' := ⟨fun q => by omega, fun _ => (h.2 hi).s g hx h0 hk⟩
theorem EMQ.e {i p D k : Int} {f : Nat → Int} (h : EMQ i p D f k) (hk : p < k ∨ i = 1) (hi : 0 ≤ i ∧ i ≤ 1) : IFF i (EMA p D f) := ⟨h.1, fun q => by
  rcases hk with c | c
  · exact ((h.2 q).n c q).2 q
  · omega⟩
theorem a_X12_noPoint_e {d : Nat} {T N : Nat → Nat} {I : IT} {L : LT} {R : RT} {A : Nat → Prop} {r0 : Nat} {n1 : Int32} (hI : IM R r0 I) (H_r0 : (h_MD T N R A) r0) : Ex (d + 2) 267 [.ref r0, .int n1] (T, N, I, L, R) 0 0 (pI T N R (fun x9 I9 L9 => (0 ≤ x9.toInt) ∧ (x9.toInt ≤ 1) ∧ (∀ a1, R r0 1 = some a1 → x9.toInt = 1 ∧ (n1.toInt < 0 ∨ (I a1 0).toInt < n1.toInt) ∨ x9.toInt = 0 ∧ 0 ≤ n1.toInt ∧ n1.toInt ≤ (I a1 0).toInt) ∧ (I = I9 ∧ L = L9))) := by
  refine ⟨_, rfl, Nat.le_of_ble_eq_true rfl, fun V C S => ?_⟩
  show V 0 [(0, .ref r0), (1, .int n1)] [] (T, N, I, L, R) 0 0
  have gn1 := rg n1
  obtain ⟨T_r0, A_r0, ⟨r0_1, R_r0_1, H_r0_1⟩, ⟨r0_2, R_r0_2, H_r0_2⟩, ⟨r0_4, R_r0_4, H_r0_4⟩, ⟨r0_5, R_r0_5, H_r0_5⟩, ⟨r0_10, R_r0_10, H_r0_10⟩, ⟨r0_18, R_r0_18, H_r0_18⟩, ⟨r0_20, R_r0_20, H_r0_20⟩, ⟨r0_21, R_r0_21, H_r0_21⟩, ⟨r0_22, R_r0_22, H_r0_22⟩, ⟨r0_23, R_r0_23, H_r0_23⟩, ⟨r0_25, R_r0_25, H_r0_25⟩, ⟨r0_26, R_r0_26, H_r0_26⟩, ⟨r0_27, R_r0_27, H_r0_27⟩, ⟨r0_28, R_r0_28, H_r0_28⟩, ⟨r0_34, R_r0_34, H_r0_34⟩, J_r0, Y_r0⟩ := id H_r0
  have G_r0 : mF T R r0 := ⟨J_r0, Y_r0, T_r0⟩
  obtain ⟨w_r0_1_0, k0_r0_1_0⟩ : ∃ x, I r0_1 0 = x := ⟨_, rfl⟩
  have gw_r0_1_0 := rg w_r0_1_0
  have ow_r0_1_0 := IM.pi hI R_r0_1 k0_r0_1_0
  refine k_iload_n C rfl rfl rfl ?_
  refine z_iconst C (z := 0) rfl rfl rfl (fun x1 ex1 => ?_)
  refine k_aload_n C rfl rfl rfl ?_
  refine c_VI C (a_X12_p hI H_r0) rfl rfl rfl rfl rfl ⟨_, rfl, rfl, T_r0, Nat.le_of_ble_eq_true rfl⟩ rfl rfl (Nat.le_of_ble_eq_true rfl) (Nat.le_of_ble_eq_true rfl) (Nat.le_of_ble_eq_true rfl) ?_
  rintro x2 _ _ ⟨o0x2, o1x2, p0x2, rfl, rfl⟩
  have p0x2 := p0x2 r0_1 R_r0_1
  have gx2 := rg x2
  try simp only [k0_r0_1_0, k0_r0_1_0] at p0x2
  try have q0x2 := congrArg Int32.toInt p0x2
  have q3 : x1.toNatClampNeg = 0 := nck (by omega)
  refine c_SI C a_X12_in rfl rfl rfl rfl rfl rfl rfl (Nat.le_of_ble_eq_true rfl) (Nat.le_of_ble_eq_true rfl) (Nat.le_of_ble_eq_true rfl) ?_
  rintro x4 _ _ ⟨o0x4, o1x4, p0x4, rfl, rfl⟩
  have gx4 := rg x4
  try simp only [q3, k0_r0_1_0] at p0x4
  try have q0x4 := congrArg Int32.toInt p0x4
  refine b_if_ne C (t := 16) rfl rfl rfl (fun c5 => ?_) (fun c5 => ?_)
  · skip
    refine z_iconst C (z := 0) rfl rfl rfl (fun x6 ex6 => ?_)
    exact k_iret C rfl (Or.inr ⟨rfl, z01 (by omega) (by omega)⟩) (Nat.le_of_ble_eq_true rfl) (Nat.le_of_ble_eq_true rfl) ⟨_, _, _, rfl, rfl, by omega, by omega, fun a1 h1 => by cases (R_r0_1.symm.trans h1); first | omega | (simp only [k0_r0_1_0, and_true, true_and, or_true, true_or, and_false, false_and, or_false, false_or] <;> omega), rfl, rfl⟩
  refine z_iconst C (z := 1) rfl rfl rfl (fun x7 ex7 => ?_)
  refine k_goto C (pc2 := 17) rfl rfl ?_
  exact k_iret C rfl (Or.inr ⟨rfl, z01 (by omega) (by omega)⟩) (Nat.le_of_ble_eq_true rfl) (Nat.le_of_ble_eq_true rfl) ⟨_, _, _, rfl, rfl, by omega, by omega, fun a1 h1 => by cases (R_r0_1.symm.trans h1); first | omega | (simp only [k0_r0_1_0, and_true, true_and, or_true, true_or, and_false, false_and, or_false, false_or] <;> omega), rfl, rfl⟩

theorem a_X12_oftenRoot_x {d : Nat} {T N : Nat → Nat} {I : IT} {L : LT} {R : RT} {A : Nat → Prop} {r0 : Nat} {n1 n2 : Int32} (hI : IM R r0 I) (H_r0 : (h_MD T N R A) r0) (b0_n1 : 40 ≤ n1.toInt) (b1_n1 : n1.toInt ≤ 41) (b0_n2 : 0 ≤ n2.toInt) (b1_n2 : n2.toInt ≤ 19) (hp0 : ∀ a4 a5, R r0 4 = some a4 → R r0 5 = some a5 → NZ I a5 n1.toNatClampNeg (I a4 n1.toNatClampNeg).toInt) (hp1 : ∀ a1, R r0 1 = some a1 → n2.toInt ≤ (I a1 0).toInt) (hp2 : ∀ a1 a4 a5, R r0 1 = some a1 → R r0 4 = some a4 → R r0 5 = some a5 → ∀ k : Nat, (k : Int) ≤ (I a4 n1.toNatClampNeg).toInt → 0 ≤ RI I a5 n1.toNatClampNeg k ∧ RI I a5 n1.toNatClampNeg k < (I a1 0).toInt) : Ex (d + 5) 268 [.ref r0, .int n1, .int n2] (T, N, I, L, R) 0 0 (pI T N R (fun x9 I9 L9 => (∀ a1 a4 a5, R r0 1 = some a1 → R r0 4 = some a4 → R r0 5 = some a5 → OFR x9.toInt (I a1 0).toInt n2.toInt (I a4 n1.toNatClampNeg).toInt (RI I a5 n1.toNatClampNeg)) ∧ (0 ≤ x9.toInt) ∧ (x9.toInt ≤ 41) ∧ (∀ a4, R r0 4 = some a4 → ∀ r : Nat, r ≠ 43 → I9 a4 r = I a4 r) ∧ (∀ a5, R r0 5 = some a5 → ∀ r : Nat, (r < 41 * 43 ∨ 41 * 43 + 41 ≤ r) → I9 a5 r = I a5 r) ∧ (IM R r0 I9 ∧ CM A R r0 [] [4, 5] I L I9 L9))) := by
  refine ⟨_, rfl, Nat.le_of_ble_eq_true rfl, fun V C S => ?_⟩
  show V 0 [(0, .ref r0), (1, .int n1), (2, .int n2)] [] (T, N, I, L, R) 0 0
  have gn1 := rg n1
  have gn2 := rg n2
  obtain ⟨T_r0, A_r0, ⟨r0_1, R_r0_1, H_r0_1⟩, ⟨r0_2, R_r0_2, H_r0_2⟩, ⟨r0_4, R_r0_4, H_r0_4⟩, ⟨r0_5, R_r0_5, H_r0_5⟩, ⟨r0_10, R_r0_10, H_r0_10⟩, ⟨r0_18, R_r0_18, H_r0_18⟩, ⟨r0_20, R_r0_20, H_r0_20⟩, ⟨r0_21, R_r0_21, H_r0_21⟩, ⟨r0_22, R_r0_22, H_r0_22⟩, ⟨r0_23, R_r0_23, H_r0_23⟩, ⟨r0_25, R_r0_25, H_r0_25⟩, ⟨r0_26, R_r0_26, H_r0_26⟩, ⟨r0_27, R_r0_27, H_r0_27⟩, ⟨r0_28, R_r0_28, H_r0_28⟩, ⟨r0_34, R_r0_34, H_r0_34⟩, J_r0, Y_r0⟩ := id H_r0
  have G_r0 : mF T R r0 := ⟨J_r0, Y_r0, T_r0⟩
  obtain ⟨w_r0_4_n1, k0_r0_4_n1⟩ : ∃ x, I r0_4 n1.toNatClampNeg = x := ⟨_, rfl⟩
  have gw_r0_4_n1 := rg w_r0_4_n1
  have ow_r0_4_n1 := IM.dgR hI R_r0_4 k0_r0_4_n1
  obtain ⟨w_r0_1_0, k0_r0_1_0⟩ : ∃ x, I r0_1 0 = x := ⟨_, rfl⟩
  have gw_r0_1_0 := rg w_r0_1_0
  have ow_r0_1_0 := IM.pi hI R_r0_1 k0_r0_1_0
  have hp0 := hp0 r0_4 r0_5 R_r0_4 R_r0_5
  have hp1 := hp1 r0_1 R_r0_1
  have hp2 := hp2 r0_1 r0_4 r0_5 R_r0_1 R_r0_4 R_r0_5
  try simp only [k0_r0_4_n1, k0_r0_1_0] at hp0
  try simp only [k0_r0_4_n1, k0_r0_1_0] at hp1
  try simp only [k0_r0_4_n1, k0_r0_1_0] at hp2
  obtain ⟨K, hK1, hK2⟩ := hp0
  have hcn := hp2
  refine z_iconst C (z := 0) rfl rfl rfl (fun x1 ex1 => ?_)
  refine k_istore_n C (lw := [(3, .int x1), (0, .ref r0), (1, .int n1), (2, .int n2)]) rfl rfl (Nat.le_of_ble_eq_true rfl) rfl ?_
  refine k_iload_n C rfl rfl rfl ?_
  refine k_aload_n C rfl rfl rfl ?_
  refine c_VI C (a_X12_p hI H_r0) rfl rfl rfl rfl rfl ⟨_, rfl, rfl, T_r0, Nat.le_of_ble_eq_true rfl⟩ rfl rfl (Nat.le_of_ble_eq_true rfl) (Nat.le_of_ble_eq_true rfl) (Nat.le_of_ble_eq_true rfl) ?_
  rintro x2 _ _ ⟨o0x2, o1x2, p0x2, rfl, rfl⟩
  have p0x2 := p0x2 r0_1 R_r0_1
  have gx2 := rg x2
  try simp only [k0_r0_4_n1, k0_r0_1_0, k0_r0_1_0] at p0x2
  try have q0x2 := congrArg Int32.toInt p0x2
  have J3 : ∀ (nn4 : Nat) (x5 : Int32), ((41 - x5.toInt).toNat = nn4) → (0 ≤ x5.toInt) → (x5.toInt ≤ 41) → (x5.toInt ≤ (K : Int)) → (ZRL (RI I r0_5 n1.toNatClampNeg) x5.toInt) → (n2.toInt = w_r0_1_0.toInt) → V 10 [(0, .ref r0), (1, .int n1), (3, .int x5)] [] (T, N, I, L, R) 0 0 := by
    intro nn4
    induction nn4 using Nat.strongRecOn with
    | _ nn4 ihJ3 =>
      intro x5 hmnn4 b6 b7 ff10_0 ff10_1 ff10_2
      have gx5 := rg x5
      refine k_aload_n C rfl rfl rfl ?_
      refine k_iload_n C rfl rfl rfl ?_
      refine k_iload_n C rfl rfl rfl ?_
      refine c_VI C (a_X12_of hI H_r0 (by omega) (by omega) (by omega) (by omega)) rfl rfl rfl rfl rfl ⟨_, rfl, rfl, T_r0, Nat.le_of_ble_eq_true rfl⟩ rfl rfl (Nat.le_of_ble_eq_true rfl) (Nat.le_of_ble_eq_true rfl) (Nat.le_of_ble_eq_true rfl) ?_
      rintro x8 _ _ ⟨o0x8, o1x8, p0x8, rfl, rfl⟩
      have p0x8 := p0x8 r0_5 R_r0_5
      have gx8 := rg x8
      try simp only [k0_r0_4_n1, k0_r0_1_0] at p0x8
      try have q0x8 := congrArg Int32.toInt p0x8
      have hO13 := p0x8
      refine b_if_ne C (t := 25) rfl rfl rfl (fun c9 => ?_) (fun c9 => ?_)
      · skip
        refine k_iload_n C rfl rfl rfl ?_
        exact k_iret C rfl (Or.inl rfl) (Nat.le_of_ble_eq_true rfl) (Nat.le_of_ble_eq_true rfl) ⟨_, _, _, rfl, rfl, fun a1 a4 a5 h1 h4 h5 => by cases (R_r0_1.symm.trans h1); cases (R_r0_4.symm.trans h4); cases (R_r0_5.symm.trans h5); simp only [k0_r0_4_n1, k0_r0_1_0]; exact OFR.p ff10_1 hO13 (by omega) (by omega) (by omega), by omega, by omega, fun a4 h4 => by cases (R_r0_4.symm.trans h4); exact (fun r z0 => rfl), fun a5 h5 => by cases (R_r0_5.symm.trans h5); exact (fun r z0 => rfl), hI, CM.rf⟩
      refine z_iinc C (z := 1) (lw := fun x10 => [(3, .int x10), (0, .ref r0), (1, .int n1)]) rfl rfl rfl (Nat.le_of_ble_eq_true rfl) rfl ⟨by omega, by omega⟩ (fun _ => rfl) (fun x10 ex10 => ?_)
      show V 22 [(3, .int x10), (0, .ref r0), (1, .int n1)] _ _ _ _
      refine k_goto C (pc2 := 10) rfl rfl ?_
      refine k_sub S [(0, .ref r0), (1, .int n1), (3, .int x10)] (List.forall_mem_cons.mpr ⟨List.mem_of_getElem? (i := 1) rfl, List.forall_mem_cons.mpr ⟨List.mem_of_getElem? (i := 2) rfl, List.forall_mem_cons.mpr ⟨List.mem_of_getElem? (i := 0) rfl, fun _ h => nomatch h⟩⟩⟩) ?_
      exact ihJ3 _ (by omega) x10 rfl (by omega) (by omega) (by (have h9 : x5.toNatClampNeg ≠ K := by (intro q; have hK3 := hK2; rw [← q] at hK3; omega)); (have h8 := ncz (x := x5) (by omega)); omega) (by exact ZRL.i ff10_1 hO13 (by omega) (by omega) (by omega)) (by omega)
  refine b_icmp_ne C (t := 27) rfl rfl rfl (fun c11 => ?_) (fun c11 => ?_)
  · skip
    refine k_aload_n C rfl rfl rfl ?_
    refine k_iload_n C rfl rfl rfl ?_
    refine z_bipush C (z := 43) rfl rfl rfl (fun x12 ex12 => ?_)
    have J13 : ∀ (nn14 : Nat) (I15 : IT) (L16 : LT) (x17 : Int32) (x24 : Int32), (x24.toInt.toNat = nn14) → (IM R r0 I15) → (CM A R r0 [] [4, 5] I L I15 L16) → (∀ r : Nat, r ≠ 43 → I15 r0_4 r = I r0_4 r) → (∀ r : Nat, (r < 41 * 43 ∨ 41 * 43 + 41 ≤ r) → I15 r0_5 r = I r0_5 r) → (0 ≤ x17.toInt) → (x17.toInt ≤ 40) → (I15 r0_4 43 = x24) → (0 ≤ x24.toInt) → (x24.toInt ≤ 40) → (RWF I15 r0_5 43 (w_r0_4_n1.toInt - x17.toInt) (ITR w_r0_1_0.toInt n2.toInt (RI I r0_5 n1.toNatClampNeg) x17.toInt.toNat)) → (∀ i : Nat, (i : Int) < x17.toInt → ZRR w_r0_1_0.toInt n2.toInt w_r0_4_n1.toInt (RI I r0_5 n1.toNatClampNeg) i) → (x24.toInt = w_r0_4_n1.toInt - x17.toInt) → (x17.toInt ≤ w_r0_4_n1.toInt) → V 34 [(0, .ref r0), (2, .int n2), (3, .int x17)] [] (T, N, I15, L16, R) 0 0 := by
      intro nn14
      induction nn14 using Nat.strongRecOn with
      | _ nn14 ihJ13 =>
        intro I15 L16 x17 x24 hmnn14 hI21 S20 F22 F23 b18 b19 e25 b26 b27 ff34_0 ff34_1 ff34_2 ff34_3
        have gx17 := rg x17
        have gx24 := rg x24
        have e28 := (F22 n1.toNatClampNeg (by first | decide | exact ncne (by omega) (by omega) (by omega) | exact nckn (by omega) (by omega) | exact (nckn (by omega) (by omega)).symm)).trans k0_r0_4_n1
        have e29 := CM.j S20 R_r0_1 (by decide) k0_r0_1_0
        refine k_aload_n C rfl rfl rfl ?_
        refine g_R C rfl rfl rfl T_r0 rfl R_r0_4 ?_
        refine z_bipush C (z := 43) rfl rfl rfl (fun x30 ex30 => ?_)
        obtain ⟨T_r0_4, N_r0_4, A_r0_4⟩ := id H_r0_4
        refine a_I C rfl rfl T_r0_4 (by rw [N_r0_4]; exact vpi (by omega) (by omega)) ((congrArg (I15 r0_4) (nck (n := 43) (by omega))).trans e25) ?_
        refine b_if_le C (t := 128) rfl rfl rfl (fun c31 => ?_) (fun c31 => ?_)
        · skip
          refine k_iload_n C rfl rfl rfl ?_
          exact k_iret C rfl (Or.inl rfl) (Nat.le_of_ble_eq_true rfl) (Nat.le_of_ble_eq_true rfl) ⟨_, _, _, rfl, rfl, fun a1 a4 a5 h1 h4 h5 => by cases (R_r0_1.symm.trans h1); cases (R_r0_4.symm.trans h4); cases (R_r0_5.symm.trans h5); simp only [k0_r0_4_n1, k0_r0_1_0]; exact OFR.h (by first | exact ⟨by omega, by omega, ff34_1, Or.inr (ZRR.n hv (by omega))⟩ | exact ⟨by omega, by omega, ff34_1, Or.inl (by omega)⟩) (by omega), by omega, by omega, fun a4 h4 => by cases (R_r0_4.symm.trans h4); exact (fun r z0 => (F22 r z0)), fun a5 h5 => by cases (R_r0_5.symm.trans h5); exact (fun r z0 => (F23 r z0)), hI21, (CM.mono S20 (by decide) (by decide))⟩
        refine k_aload_n C rfl rfl rfl ?_
        refine z_bipush C (z := 43) rfl rfl rfl (fun x32 ex32 => ?_)
        refine k_iload_n C rfl rfl rfl ?_
        refine z_iconst C (z := 1) rfl rfl rfl (fun x33 ex33 => ?_)
        have q34 : x32.toNatClampNeg = 43 := nck (by omega)
        have q35 : x33.toNatClampNeg = 1 := nck (by omega)
        refine c_VI C (a_X12_valueAt_e hI21 H_r0 (by omega) (by omega) (by omega) (by omega) (by omega) (by omega)) rfl rfl rfl rfl rfl ⟨_, rfl, rfl, T_r0, Nat.le_of_ble_eq_true rfl⟩ rfl rfl (Nat.le_of_ble_eq_true rfl) (Nat.le_of_ble_eq_true rfl) (Nat.le_of_ble_eq_true rfl) ?_
        rintro x36 _ _ ⟨o0x36, o1x36, p0x36, rfl, rfl⟩
        have p0x36 := p0x36 r0_1 r0_4 r0_5 R_r0_1 R_r0_4 R_r0_5
        have gx36 := rg x36
        try simp only [q34, q35, e28, e29, e25] at p0x36
        try have q0x36 := congrArg Int32.toInt p0x36
        have hv := VAD.rt (D := w_r0_4_n1.toInt) (n := x17.toInt) p0x36 ff34_0 (by omega) (by first | rfl | omega) (by omega) (by omega) (by omega) (by omega) (fun k hk => (ITR.b (D := w_r0_4_n1.toInt.toNat) (by omega) (fun j hj => hcn j (by omega)) _ k (by omega)).1)
        refine b_if_ne C (t := 128) rfl rfl rfl (fun c37 => ?_) (fun c37 => ?_)
        · skip
          refine k_iload_n C rfl rfl rfl ?_
          exact k_iret C rfl (Or.inl rfl) (Nat.le_of_ble_eq_true rfl) (Nat.le_of_ble_eq_true rfl) ⟨_, _, _, rfl, rfl, fun a1 a4 a5 h1 h4 h5 => by cases (R_r0_1.symm.trans h1); cases (R_r0_4.symm.trans h4); cases (R_r0_5.symm.trans h5); simp only [k0_r0_4_n1, k0_r0_1_0]; exact OFR.h (by first | exact ⟨by omega, by omega, ff34_1, Or.inr (ZRR.n hv (by omega))⟩ | exact ⟨by omega, by omega, ff34_1, Or.inl (by omega)⟩) (by omega), by omega, by omega, fun a4 h4 => by cases (R_r0_4.symm.trans h4); exact (fun r z0 => (F22 r z0)), fun a5 h5 => by cases (R_r0_5.symm.trans h5); exact (fun r z0 => (F23 r z0)), hI21, (CM.mono S20 (by decide) (by decide))⟩
        refine z_iconst C (z := 1) rfl rfl rfl (fun x38 ex38 => ?_)
        have J39 : ∀ (nn40 : Nat) (I41 : IT) (L42 : LT) (x43 : Int32), ((41 - x43.toInt).toNat = nn40) → (IM R r0 I41) → (CM A R r0 [] [5] I15 L16 I41 L42) → (∀ r : Nat, (r < 41 * 43 ∨ 41 * 43 + 41 ≤ r) → I41 r0_5 r = I15 r0_5 r) → (1 ≤ x43.toInt) → (x43.toInt ≤ 41) → (RDL I41 r0_5 43 w_r0_1_0.toInt n2.toInt (w_r0_4_n1.toInt - x17.toInt) (ITR w_r0_1_0.toInt n2.toInt (RI I r0_5 n1.toNatClampNeg) x17.toInt.toNat) x43.toInt) → V 58 [(0, .ref r0), (2, .int n2), (3, .int x17), (4, .int x43)] [] (T, N, I41, L42, R) 0 0 := by
          intro nn40
          induction nn40 using Nat.strongRecOn with
          | _ nn40 ihJ39 =>
            intro I41 L42 x43 hmnn40 hI47 S46 F48 b44 b45 ff58_0
            have gx43 := rg x43
            have e49 := CM.j S46 R_r0_4 (by decide) e28
            have e50 := CM.j S46 R_r0_1 (by decide) e29
            have e51 := CM.j S46 R_r0_4 (by decide) e25
            refine k_iload C rfl rfl rfl ?_
            refine k_aload_n C rfl rfl rfl ?_
            refine g_R C rfl rfl rfl T_r0 rfl R_r0_4 ?_
            refine z_bipush C (z := 43) rfl rfl rfl (fun x52 ex52 => ?_)
            refine a_I C rfl rfl T_r0_4 (by rw [N_r0_4]; exact vpi (by omega) (by omega)) ((congrArg (I41 r0_4) (nck (n := 43) (by omega))).trans e51) ?_
            refine b_icmp_gt C (t := 111) rfl rfl rfl (fun c53 => ?_) (fun c53 => ?_)
            · skip
              refine k_aload_n C rfl rfl rfl ?_
              refine g_R C rfl rfl rfl T_r0 rfl R_r0_4 ?_
              refine z_bipush C (z := 43) rfl rfl rfl (fun x54 ex54 => ?_)
              refine k_dup2 C rfl rfl rfl rfl ?_
              refine a_I C rfl rfl T_r0_4 (by rw [N_r0_4]; exact vpi (by omega) (by omega)) ((congrArg (I41 r0_4) (nck (n := 43) (by omega))).trans e51) ?_
              refine z_iconst C (z := 1) rfl rfl rfl (fun x55 ex55 => ?_)
              refine z_isub C rfl rfl ⟨by omega, by omega⟩ (fun x56 ex56 => ?_)
              refine z_sI C rfl rfl T_r0_4 N_r0_4 (by omega) (by omega) (fun I57 uI57 => ?_)
              have uI57 : I57 = u2 I41 r0_4 43 (x56) := by rw [uI57, nck (n := 43) (by omega)]
              have hI57 : IM R r0 I57 := IM.arr hI47 G_r0 R_r0_4 ⟨(fun _ => ⟨by omega, by omega⟩), (fun h => absurd h (by decide)), (fun h => absurd h (by decide))⟩ (fun h => absurd h (by decide)) uI57
              have S58 : CM A R r0 [] [4] I41 L42 I57 L42 := CM.a G_r0 R_r0_4 A_r0_4 uI57
              have F59 : ∀ r : Nat, r ≠ 43 → I57 r0_4 r = I41 r0_4 r := fun r z0 => by rw [uI57]; first | exact u2_k z0
              have e60 := u2_j uI57 (by first | decide | exact ncne (by omega) (by omega) (by omega) | exact nckn (by omega) (by omega) | exact (nckn (by omega) (by omega)).symm) e49
              have e61 := u2_n uI57 (mF.nq G_r0 R_r0_1 R_r0_4 (by decide)) e50
              have e63 := u2_e uI57
              refine z_iinc C (z := 1) (lw := fun x64 => [(3, .int x64), (0, .ref r0), (2, .int n2), (4, .int x43)]) rfl rfl rfl (Nat.le_of_ble_eq_true rfl) rfl ⟨by omega, by omega⟩ (fun _ => rfl) (fun x64 ex64 => ?_)
              show V 125 [(3, .int x64), (0, .ref r0), (2, .int n2), (4, .int x43)] _ _ _ _
              refine k_goto C (pc2 := 34) rfl rfl ?_
              refine k_sub S [(0, .ref r0), (2, .int n2), (3, .int x64)] (List.forall_mem_cons.mpr ⟨List.mem_of_getElem? (i := 1) rfl, List.forall_mem_cons.mpr ⟨List.mem_of_getElem? (i := 2) rfl, List.forall_mem_cons.mpr ⟨List.mem_of_getElem? (i := 0) rfl, fun _ h => nomatch h⟩⟩⟩) ?_
              exact ihJ13 _ (by omega) I57 L42 x64 x56 rfl hI57 (CM.cons S20 (CM.cons S46 (CM.mono S58 (by decide) (by decide)) (by decide) (by decide)) (by decide) (by decide)) (fun r z0 => ((F59 r z0).trans ((congrFun (CM.j0 S46 R_r0_4 (by decide)) r).trans (F22 r z0)))) (fun r z0 => ((congrFun (CM.j0 S58 R_r0_5 (by decide)) r).trans ((F48 r z0).trans (F23 r z0)))) (by omega) (by omega) e63 (by omega) (by omega) (by exact RDL.e ff58_0 (CM.j0 S58 R_r0_5 (by decide)) (by omega) (by omega) (by omega) (by omega)) (by exact ZRA.s ff34_1 (ZRR.y hv (by omega)) (by omega) (by omega)) (by omega) (by omega)
            refine k_aload_n C rfl rfl rfl ?_
            refine z_bipush C (z := 43) rfl rfl rfl (fun x65 ex65 => ?_)
            refine k_iload C rfl rfl rfl ?_
            refine k_aload_n C rfl rfl rfl ?_
            refine k_aload_n C rfl rfl rfl ?_
            refine z_bipush C (z := 43) rfl rfl rfl (fun x66 ex66 => ?_)
            refine k_iload C rfl rfl rfl ?_
            have q67 : x66.toNatClampNeg = 43 := nck (by omega)
            refine c_VI C (a_X12_of hI47 H_r0 (by omega) (by omega) (by omega) (by omega)) rfl rfl rfl rfl rfl ⟨_, rfl, rfl, T_r0, Nat.le_of_ble_eq_true rfl⟩ rfl rfl (Nat.le_of_ble_eq_true rfl) (Nat.le_of_ble_eq_true rfl) (Nat.le_of_ble_eq_true rfl) ?_
            rintro x68 _ _ ⟨o0x68, o1x68, p0x68, rfl, rfl⟩
            have p0x68 := p0x68 r0_5 R_r0_5
            have gx68 := rg x68
            try simp only [q67, e49, e50, e51] at p0x68
            try have q0x68 := congrArg Int32.toInt p0x68
            have hA := p0x68
            refine k_aload_n C rfl rfl rfl ?_
            refine k_iload_n C rfl rfl rfl ?_
            refine k_aload_n C rfl rfl rfl ?_
            refine z_bipush C (z := 43) rfl rfl rfl (fun x69 ex69 => ?_)
            refine k_iload C rfl rfl rfl ?_
            refine z_iconst C (z := 1) rfl rfl rfl (fun x70 ex70 => ?_)
            refine z_isub C rfl rfl ⟨by omega, by omega⟩ (fun x71 ex71 => ?_)
            have q72 : x69.toNatClampNeg = 43 := nck (by omega)
            refine c_VI C (a_X12_of hI47 H_r0 (by omega) (by omega) (by omega) (by omega)) rfl rfl rfl rfl rfl ⟨_, rfl, rfl, T_r0, Nat.le_of_ble_eq_true rfl⟩ rfl rfl (Nat.le_of_ble_eq_true rfl) (Nat.le_of_ble_eq_true rfl) (Nat.le_of_ble_eq_true rfl) ?_
            rintro x73 _ _ ⟨o0x73, o1x73, p0x73, rfl, rfl⟩
            have p0x73 := p0x73 r0_5 R_r0_5
            have gx73 := rg x73
            try simp only [q72, e49, e50, e51] at p0x73
            try have q0x73 := congrArg Int32.toInt p0x73
            have hB := p0x73
            refine c_VI C (a_X12_times hI47 H_r0 (by omega) (by omega) (by omega) (by omega)) rfl rfl rfl rfl rfl ⟨_, rfl, rfl, T_r0, Nat.le_of_ble_eq_true rfl⟩ rfl rfl (Nat.le_of_ble_eq_true rfl) (Nat.le_of_ble_eq_true rfl) (Nat.le_of_ble_eq_true rfl) ?_
            rintro x74 _ _ ⟨o0x74, o1x74, p0x74, p1x74, p2x74, p3x74, rfl, rfl⟩
            have p0x74 := p0x74 r0_1 R_r0_1
            have p2x74 := p2x74 r0_1 R_r0_1
            have p3x74 := p3x74 r0_1 R_r0_1
            have gx74 := rg x74
            try simp only [e49, e50, e51] at p0x74
            try have q0x74 := congrArg Int32.toInt p0x74
            try simp only [e49, e50, e51] at p1x74
            try have q1x74 := congrArg Int32.toInt p1x74
            try simp only [e49, e50, e51] at p2x74
            try have q2x74 := congrArg Int32.toInt p2x74
            try simp only [e49, e50, e51] at p3x74
            try have q3x74 := congrArg Int32.toInt p3x74
            have hT := p3x74
            refine c_VI C (a_X12_plus_e hI47 H_r0 (by omega) (by omega) (by omega) (by omega)) rfl rfl rfl rfl rfl ⟨_, rfl, rfl, T_r0, Nat.le_of_ble_eq_true rfl⟩ rfl rfl (Nat.le_of_ble_eq_true rfl) (Nat.le_of_ble_eq_true rfl) (Nat.le_of_ble_eq_true rfl) ?_
            rintro x75 _ _ ⟨o0x75, o1x75, p0x75, p1x75, p2x75, p3x75, rfl, rfl⟩
            have p0x75 := p0x75 r0_1 R_r0_1
            have p2x75 := p2x75 r0_1 R_r0_1
            have p3x75 := p3x75 r0_1 R_r0_1
            have gx75 := rg x75
            try simp only [e49, e50, e51] at p0x75
            try have q0x75 := congrArg Int32.toInt p0x75
            try simp only [e49, e50, e51] at p1x75
            try have q1x75 := congrArg Int32.toInt p1x75
            try simp only [e49, e50, e51] at p2x75
            try have q2x75 := congrArg Int32.toInt p2x75
            try simp only [e49, e50, e51] at p3x75
            try have q3x75 := congrArg Int32.toInt p3x75
            have hS := p3x75
            have q76 : x65.toNatClampNeg = 43 := nck (by omega)
            refine c_VV C (a_X12_put hI47 H_r0 (by omega) (by omega) (by omega) (by omega) (by omega) (by omega)) rfl rfl rfl rfl rfl ⟨_, rfl, rfl, T_r0, Nat.le_of_ble_eq_true rfl⟩ rfl rfl (Nat.le_of_ble_eq_true rfl) (Nat.le_of_ble_eq_true rfl) (Nat.le_of_ble_eq_true rfl) ?_
            rintro I78 L79 ⟨p0v77, p1v77, hI78, S80⟩
            have p0v77 := p0v77 r0_5 R_r0_5
            have p1v77 := p1v77 r0_5 R_r0_5
            try simp only [q76] at p1v77
            have F81 : ∀ r : Nat, (r < 41 * 43 ∨ 41 * 43 + 41 ≤ r) → I78 r0_5 r = I41 r0_5 r := fun r z0 => p1v77 r (by first | exact z0)
            have e82 := CM.j S80 R_r0_4 (by decide) e49
            have e83 := CM.j S80 R_r0_1 (by decide) e50
            have e84 := CM.j S80 R_r0_4 (by decide) e51
            try simp only [q76, e49, e50, e51] at p0v77
            try have q0v77 := congrArg Int32.toInt p0v77
            have hP := p0v77
            refine z_iinc C (z := 1) (lw := fun x85 => [(4, .int x85), (0, .ref r0), (2, .int n2), (3, .int x17)]) rfl rfl rfl (Nat.le_of_ble_eq_true rfl) rfl ⟨by omega, by omega⟩ (fun _ => rfl) (fun x85 ex85 => ?_)
            show V 108 [(4, .int x85), (0, .ref r0), (2, .int n2), (3, .int x17)] _ _ _ _
            refine k_goto C (pc2 := 58) rfl rfl ?_
            refine k_sub S [(0, .ref r0), (2, .int n2), (3, .int x17), (4, .int x85)] (List.forall_mem_cons.mpr ⟨List.mem_of_getElem? (i := 1) rfl, List.forall_mem_cons.mpr ⟨List.mem_of_getElem? (i := 2) rfl, List.forall_mem_cons.mpr ⟨List.mem_of_getElem? (i := 3) rfl, List.forall_mem_cons.mpr ⟨List.mem_of_getElem? (i := 0) rfl, fun _ h => nomatch h⟩⟩⟩⟩) ?_
            exact ihJ39 _ (by omega) I78 L79 x85 rfl hI78 (CM.cons S46 (CM.mono S80 (by decide) (by decide)) (by decide) (by decide)) (fun r z0 => ((F81 r z0).trans (F48 r z0))) (by omega) (by omega) (by exact RDL.s ff58_0 hA hB hT hS hP (fun k hk => ITR.b (D := w_r0_4_n1.toInt.toNat) (by omega) (fun j hj => hcn j (by omega)) _ k (by omega)) (by omega) (by omega) (by omega) (by omega) (by omega) (by omega))
        refine k_istore C (lw := [(4, .int x38), (0, .ref r0), (2, .int n2), (3, .int x17)]) rfl rfl (Nat.le_of_ble_eq_true rfl) rfl ?_
        refine k_sub S [(0, .ref r0), (2, .int n2), (3, .int x17), (4, .int x38)] (List.forall_mem_cons.mpr ⟨List.mem_of_getElem? (i := 1) rfl, List.forall_mem_cons.mpr ⟨List.mem_of_getElem? (i := 2) rfl, List.forall_mem_cons.mpr ⟨List.mem_of_getElem? (i := 3) rfl, List.forall_mem_cons.mpr ⟨List.mem_of_getElem? (i := 0) rfl, fun _ h => nomatch h⟩⟩⟩⟩) ?_
        exact J39 _ I15 L16 x38 rfl hI21 CM.rf (fun r z0 => rfl) (by omega) (by omega) (by exact RDL.z ff34_0 (by omega))
    have q86 : x12.toNatClampNeg = 43 := nck (by omega)
    refine c_VV C (a_X12_copies hI H_r0 (by omega) (by omega) (by omega) (by omega) (by first | omega | (simp only [q86, k0_r0_4_n1, k0_r0_1_0, and_true, true_and, or_true, true_or, and_false, false_and, or_false, false_or] <;> omega))) rfl rfl rfl rfl rfl ⟨_, rfl, rfl, T_r0, Nat.le_of_ble_eq_true rfl⟩ rfl rfl (Nat.le_of_ble_eq_true rfl) (Nat.le_of_ble_eq_true rfl) (Nat.le_of_ble_eq_true rfl) ?_
    rintro I88 L89 ⟨p0v87, p1v87, p2v87, p3v87, hI88, S90⟩
    have p0v87 := p0v87 r0_4 R_r0_4
    have p1v87 := p1v87 r0_4 r0_5 R_r0_4 R_r0_5
    have p2v87 := p2v87 r0_4 R_r0_4
    have p3v87 := p3v87 r0_5 R_r0_5
    try simp only [q86] at p2v87
    have F91 : ∀ r : Nat, r ≠ 43 → I88 r0_4 r = I r0_4 r := fun r z0 => p2v87 r (by first | exact z0)
    try simp only [q86] at p3v87
    have F92 : ∀ r : Nat, (r < 41 * 43 ∨ 41 * 43 + 41 ≤ r) → I88 r0_5 r = I r0_5 r := fun r z0 => p3v87 r (by first | exact z0)
    have e93 := (p2v87 n1.toNatClampNeg (by first | decide | exact ncne (by omega) (by omega) (by omega) | exact nckn (by omega) (by omega) | exact (nckn (by omega) (by omega)).symm)).trans k0_r0_4_n1
    have e94 := CM.j S90 R_r0_1 (by decide) k0_r0_1_0
    obtain ⟨x95, e96⟩ : ∃ x, I88 r0_4 43 = x := ⟨_, rfl⟩
    have gx95 := rg x95
    have ox95 := IM.dgR hI88 R_r0_4 e96
    try simp only [q86, k0_r0_4_n1, k0_r0_1_0, e96] at p0v87
    try have q0v87 := congrArg Int32.toInt p0v87
    try simp only [q86, k0_r0_4_n1, k0_r0_1_0, e96] at p1v87
    try have q1v87 := congrArg Int32.toInt p1v87
    have hCP := p1v87
    try rw [k0_r0_4_n1] at hCP
    refine k_sub S [(0, .ref r0), (2, .int n2), (3, .int x1)] (List.forall_mem_cons.mpr ⟨List.mem_of_getElem? (i := 1) rfl, List.forall_mem_cons.mpr ⟨List.mem_of_getElem? (i := 3) rfl, List.forall_mem_cons.mpr ⟨List.mem_of_getElem? (i := 0) rfl, fun _ h => nomatch h⟩⟩⟩) ?_
    exact J13 _ I88 L89 x1 x95 rfl hI88 (CM.mono S90 (by decide) (by decide)) (fun r z0 => (F91 r z0)) (fun r z0 => (F92 r z0)) (by omega) (by omega) e96 (by omega) (by omega) (by exact RWF.cp hCP (by omega)) (by intro i hi; exfalso; omega) (by omega) (by omega)
  refine k_sub S [(0, .ref r0), (1, .int n1), (3, .int x1)] (List.forall_mem_cons.mpr ⟨List.mem_of_getElem? (i := 1) rfl, List.forall_mem_cons.mpr ⟨List.mem_of_getElem? (i := 2) rfl, List.forall_mem_cons.mpr ⟨List.mem_of_getElem? (i := 0) rfl, fun _ h => nomatch h⟩⟩⟩) ?_
  exact J3 _ x1 rfl (by omega) (by omega) (by omega) (by exact ZRL.z (by omega)) (by omega)

theorem a_X12_empty_x {d : Nat} {T N : Nat → Nat} {I : IT} {L : LT} {R : RT} {A : Nat → Prop} {r0 : Nat} {n1 : Int32} (hI : IM R r0 I) (H_r0 : (h_MD T N R A) r0) (hp0 : ∀ a1, R r0 1 = some a1 → CNW (I a1)) : Ex (d + 6) 271 [.ref r0, .int n1] (T, N, I, L, R) 0 0 (pI T N R (fun x9 I9 L9 => (0 ≤ x9.toInt) ∧ (x9.toInt ≤ 1) ∧ (∀ a1, R r0 1 = some a1 → (n1.toInt < 0 ∨ (I a1 1).toInt ≤ n1.toInt) ∧ (I9 r0 0).toInt = 1 ∨ ¬ (n1.toInt < 0 ∨ (I a1 1).toInt ≤ n1.toInt) ∧ (I9 r0 0).toInt = 0 ∧ IFF x9.toInt (EMA (I a1 0).toInt (I a1 (6 + 10 * n1.toNatClampNeg)).toInt (fun k => (I a1 (7 + 10 * n1.toNatClampNeg + k)).toInt))) ∧ (IM R r0 I9 ∧ CM A R r0 [0] [4, 5] I L I9 L9))) := by
  refine ⟨_, rfl, Nat.le_of_ble_eq_true rfl, fun V C S => ?_⟩
  show V 0 [(0, .ref r0), (1, .int n1)] [] (T, N, I, L, R) 0 0
  have gn1 := rg n1
  obtain ⟨T_r0, A_r0, ⟨r0_1, R_r0_1, H_r0_1⟩, ⟨r0_2, R_r0_2, H_r0_2⟩, ⟨r0_4, R_r0_4, H_r0_4⟩, ⟨r0_5, R_r0_5, H_r0_5⟩, ⟨r0_10, R_r0_10, H_r0_10⟩, ⟨r0_18, R_r0_18, H_r0_18⟩, ⟨r0_20, R_r0_20, H_r0_20⟩, ⟨r0_21, R_r0_21, H_r0_21⟩, ⟨r0_22, R_r0_22, H_r0_22⟩, ⟨r0_23, R_r0_23, H_r0_23⟩, ⟨r0_25, R_r0_25, H_r0_25⟩, ⟨r0_26, R_r0_26, H_r0_26⟩, ⟨r0_27, R_r0_27, H_r0_27⟩, ⟨r0_28, R_r0_28, H_r0_28⟩, ⟨r0_34, R_r0_34, H_r0_34⟩, J_r0, Y_r0⟩ := id H_r0
  have G_r0 : mF T R r0 := ⟨J_r0, Y_r0, T_r0⟩
  obtain ⟨w_r0_1_1, k0_r0_1_1⟩ : ∃ x, I r0_1 1 = x := ⟨_, rfl⟩
  have gw_r0_1_1 := rg w_r0_1_1
  have ow_r0_1_1 := IM.c1 hI R_r0_1 k0_r0_1_1
  obtain ⟨w_r0_1_0, k0_r0_1_0⟩ : ∃ x, I r0_1 0 = x := ⟨_, rfl⟩
  have gw_r0_1_0 := rg w_r0_1_0
  have ow_r0_1_0 := IM.pi hI R_r0_1 k0_r0_1_0
  obtain ⟨w_r0_1_E_6_10_n1_toNatClampNeg, k0_r0_1_E_6_10_n1_toNatClampNeg⟩ : ∃ x, I r0_1 (6 + 10 * n1.toNatClampNeg) = x := ⟨_, rfl⟩
  have gw_r0_1_E_6_10_n1_toNatClampNeg := rg w_r0_1_E_6_10_n1_toNatClampNeg
  have hp0 := hp0 r0_1 R_r0_1
  try simp only [k0_r0_1_1, k0_r0_1_0, k0_r0_1_E_6_10_n1_toNatClampNeg] at hp0
  refine k_aload_n C rfl rfl rfl ?_
  refine z_iconst C (z := 0) rfl rfl rfl (fun x1 ex1 => ?_)
  refine z_pI C rfl rfl rfl T_r0 (Or.inr rfl) rfl (fun I2 uI2 => ?_)
  have hI2 : IM R r0 I2 := IM.fld hI G_r0 ⟨(fun h => absurd h (by decide)), (fun h => absurd h (by decide)), (fun h => absurd h (by decide)), (fun h => absurd h (by decide)), (fun h => absurd h (by decide))⟩ uI2
  have S3 : CM A R r0 [0] [] I L I2 L := CM.f G_r0 A_r0 uI2
  have e4 := u2_n uI2 (mF.ne G_r0 R_r0_1) k0_r0_1_1
  have e5 := u2_n uI2 (mF.ne G_r0 R_r0_1) k0_r0_1_0
  have e6 := u2_n uI2 (mF.ne G_r0 R_r0_1) k0_r0_1_E_6_10_n1_toNatClampNeg
  have e7 := u2_e uI2
  refine k_aload_n C rfl rfl rfl ?_
  refine k_aload_n C rfl rfl rfl ?_
  refine k_iload_n C rfl rfl rfl ?_
  refine c_VI C (a_X12_noForm_e hI2 H_r0) rfl rfl rfl rfl rfl ⟨_, rfl, rfl, T_r0, Nat.le_of_ble_eq_true rfl⟩ rfl rfl (Nat.le_of_ble_eq_true rfl) (Nat.le_of_ble_eq_true rfl) (Nat.le_of_ble_eq_true rfl) ?_
  rintro x8 _ _ ⟨o0x8, o1x8, p0x8, rfl, rfl⟩
  have p0x8 := p0x8 r0_1 R_r0_1
  have gx8 := rg x8
  try simp only [e4, e5, e6, e7, e4] at p0x8
  try have q0x8 := congrArg Int32.toInt p0x8
  refine z_iconst C (z := 1) rfl rfl rfl (fun x9 ex9 => ?_)
  have q10 : x9.toNatClampNeg = 1 := nck (by omega)
  refine c_VI C (a_X12_throwsIf_e hI2 H_r0 (by omega) (by omega)) rfl rfl rfl rfl rfl ⟨_, rfl, rfl, T_r0, Nat.le_of_ble_eq_true rfl⟩ rfl rfl (Nat.le_of_ble_eq_true rfl) (Nat.le_of_ble_eq_true rfl) (Nat.le_of_ble_eq_true rfl) ?_
  rintro x11 I12 L13 ⟨o0x11, o1x11, p0x11, p1x11, hI12, S14⟩
  have e15 := CM.j S14 R_r0_1 (by decide) e4
  have e16 := CM.j S14 R_r0_1 (by decide) e5
  have e17 := CM.j S14 R_r0_1 (by decide) e6
  have gx11 := rg x11
  obtain ⟨x19, e20⟩ : ∃ x, I12 r0 0 = x := ⟨_, rfl⟩
  have gx19 := rg x19
  try simp only [q10, e4, e5, e6, e7, e20] at p0x11
  try have q0x11 := congrArg Int32.toInt p0x11
  try simp only [q10, e4, e5, e6, e7, e20] at p1x11
  try have q1x11 := congrArg Int32.toInt p1x11
  refine b_if_eq C (t := 20) rfl rfl rfl (fun c21 => ?_) (fun c21 => ?_)
  · skip
    refine k_aload_n C rfl rfl rfl ?_
    refine z_bipush C (z := 40) rfl rfl rfl (fun x22 ex22 => ?_)
    refine k_iload_n C rfl rfl rfl ?_
    have hw24 := CM.j0 (W := [0]) (WA := []) (CM.cons S3 (CM.mono S14 (by decide) (by decide)) (by decide) (by decide)) R_r0_1 (by decide)
    have q23 : x22.toNatClampNeg = 40 := nck (by omega)
    refine c_VV C (a_X12_takes_e hI12 H_r0 (by omega) (by omega) (by omega) (by omega)) rfl rfl rfl rfl rfl ⟨_, rfl, rfl, T_r0, Nat.le_of_ble_eq_true rfl⟩ rfl rfl (Nat.le_of_ble_eq_true rfl) (Nat.le_of_ble_eq_true rfl) (Nat.le_of_ble_eq_true rfl) ?_
    rintro I25 L26 ⟨p0v24, p1v24, p2v24, p3v24, p4v24, p5v24, hI25, S27⟩
    have p0v24 := p0v24 r0_4 R_r0_4
    have p1v24 := p1v24 r0_1 r0_4 R_r0_1 R_r0_4
    have p2v24 := p2v24 r0_1 r0_4 r0_5 R_r0_1 R_r0_4 R_r0_5
    have p3v24 := p3v24 r0_1 r0_4 r0_5 R_r0_1 R_r0_4 R_r0_5
    have p4v24 := p4v24 r0_4 R_r0_4
    have p5v24 := p5v24 r0_5 R_r0_5
    try simp only [q23] at p4v24
    try simp only [q23] at p5v24
    have e28 := CM.j S27 R_r0_1 (by decide) e15
    have e29 := CM.j S27 R_r0_1 (by decide) e16
    have e30 := CM.j S27 R_r0_1 (by decide) e17
    have e31 := CM.k S27 (by decide) e20
    obtain ⟨x32, e33⟩ : ∃ x, I25 r0_4 40 = x := ⟨_, rfl⟩
    have gx32 := rg x32
    have ox32 := IM.dgR hI25 R_r0_4 e33
    try simp only [q23, e15, e16, e17, e20, e33] at p0v24
    try have q0v24 := congrArg Int32.toInt p0v24
    try simp only [q23, e15, e16, e17, e20, e33] at p1v24
    try have q1v24 := congrArg Int32.toInt p1v24
    try simp only [q23, e15, e16, e17, e20, e33] at p2v24
    try have q2v24 := congrArg Int32.toInt p2v24
    try simp only [q23, e15, e16, e17, e20, e33] at p3v24
    try have q3v24 := congrArg Int32.toInt p3v24
    have hd9 := p1v24
    have hT9 := TKE.w p3v24 hw24
    have hk40 := e33
    have hcr := CNW.g (f := n1) hp0 (by rw [k0_r0_1_E_6_10_n1_toNatClampNeg]) (by rw [k0_r0_1_0]) (by omega) (by simp only [k0_r0_1_1]; omega)
    have hRW : RWF I25 r0_5 40 w_r0_1_E_6_10_n1_toNatClampNeg.toInt (fun k => (I r0_1 (7 + 10 * n1.toNatClampNeg + k)).toInt) := fun k hk => by (rw [hT9 k (by omega), show 6 + 10 * n1.toNatClampNeg + 1 + k = 7 + 10 * n1.toNatClampNeg + k from by omega])
    refine k_aload_n C rfl rfl rfl ?_
    refine z_bipush C (z := 40) rfl rfl rfl (fun x34 ex34 => ?_)
    have q35 : x34.toNatClampNeg = 40 := nck (by omega)
    refine c_VI C (a_X12_isNought_e hI25 H_r0 (by omega) (by omega)) rfl rfl rfl rfl rfl ⟨_, rfl, rfl, T_r0, Nat.le_of_ble_eq_true rfl⟩ rfl rfl (Nat.le_of_ble_eq_true rfl) (Nat.le_of_ble_eq_true rfl) (Nat.le_of_ble_eq_true rfl) ?_
    rintro x36 _ _ ⟨o0x36, o1x36, p0x36, p1x36, rfl, rfl⟩
    have p0x36 := p0x36 r0_4 r0_5 R_r0_4 R_r0_5
    have p1x36 := p1x36 r0_4 r0_5 R_r0_4 R_r0_5
    have gx36 := rg x36
    try simp only [q35, e28, e29, e30, e31, e33] at p0x36
    try have q0x36 := congrArg Int32.toInt p0x36
    try simp only [q35, e28, e29, e30, e31, e33] at p1x36
    try have q1x36 := congrArg Int32.toInt p1x36
    have hNZ := p0x36
    have hNQ := p1x36
    refine k_istore_n C (lw := [(2, .int x36), (0, .ref r0), (1, .int n1)]) rfl rfl (Nat.le_of_ble_eq_true rfl) rfl ?_
    refine z_iconst C (z := 0) rfl rfl rfl (fun x37 ex37 => ?_)
    have J38 : ∀ (nn39 : Nat) (I40 : IT) (L41 : LT) (x42 : Int32) (x45 : Int32), ((20 - x45.toInt).toNat = nn39) → (IM R r0 I40) → (CM A R r0 [] [4, 5] I25 L26 I40 L41) → (∀ r : Nat, r ≠ 43 → I40 r0_4 r = I25 r0_4 r) → (∀ r : Nat, (r < 41 * 43 ∨ 41 * 43 + 41 ≤ r) → I40 r0_5 r = I25 r0_5 r) → (0 ≤ x42.toInt) → (x42.toInt ≤ 1) → (0 ≤ x45.toInt) → (x45.toInt ≤ 20) → (x42.toInt = 0 → NZ I40 r0_5 40 x32.toInt) → (RWF I40 r0_5 40 w_r0_1_E_6_10_n1_toNatClampNeg.toInt (fun k => (I r0_1 (7 + 10 * n1.toNatClampNeg + k)).toInt)) → (EMQ x42.toInt w_r0_1_0.toInt w_r0_1_E_6_10_n1_toNatClampNeg.toInt (fun k => (I r0_1 (7 + 10 * n1.toNatClampNeg + k)).toInt) x45.toInt) → V 36 [(0, .ref r0), (2, .int x42), (3, .int x45)] [] (T, N, I40, L41, R) 0 0 := by
      intro nn39
      induction nn39 using Nat.strongRecOn with
      | _ nn39 ihJ38 =>
        intro I40 L41 x42 x45 hmnn39 hI49 S48 F50 F51 b43 b44 b46 b47 ff36_0 ff36_1 ff36_2
        have gx42 := rg x42
        have gx45 := rg x45
        have e52 := CM.j S48 R_r0_1 (by decide) e28
        have e53 := CM.j S48 R_r0_1 (by decide) e29
        have e54 := CM.j S48 R_r0_1 (by decide) e30
        have e55 := CM.k S48 (by decide) e31
        have e56 := (F50 40 (by first | decide | exact ncne (by omega) (by omega) (by omega) | exact nckn (by omega) (by omega) | exact (nckn (by omega) (by omega)).symm)).trans e33
        refine k_iload_n C rfl rfl rfl ?_
        refine k_aload_n C rfl rfl rfl ?_
        refine c_VI C (a_X12_p hI49 H_r0) rfl rfl rfl rfl rfl ⟨_, rfl, rfl, T_r0, Nat.le_of_ble_eq_true rfl⟩ rfl rfl (Nat.le_of_ble_eq_true rfl) (Nat.le_of_ble_eq_true rfl) (Nat.le_of_ble_eq_true rfl) ?_
        rintro x57 _ _ ⟨o0x57, o1x57, p0x57, rfl, rfl⟩
        have p0x57 := p0x57 r0_1 R_r0_1
        have gx57 := rg x57
        try simp only [e52, e53, e54, e55, e56, e53] at p0x57
        try have q0x57 := congrArg Int32.toInt p0x57
        refine b_icmp_gt C (t := 79) rfl rfl rfl (fun c58 => ?_) (fun c58 => ?_)
        · skip
          refine k_iload_n C rfl rfl rfl ?_
          exact k_iret C rfl (Or.inr ⟨rfl, z01 (by omega) (by omega)⟩) (Nat.le_of_ble_eq_true rfl) (Nat.le_of_ble_eq_true rfl) ⟨_, _, _, rfl, rfl, by omega, by omega, fun a1 h1 => by cases (R_r0_1.symm.trans h1); refine Or.inr ⟨by simp only [k0_r0_1_1]; omega, by rw [e55]; omega, ?_⟩; simp only [k0_r0_1_0, k0_r0_1_E_6_10_n1_toNatClampNeg]; exact EMQ.e ff36_2 (by omega) (by omega), hI49, (CM.cons S3 (CM.cons S14 (CM.cons S27 (CM.mono S48 (by decide) (by decide)) (by decide) (by decide)) (by decide) (by decide)) (by decide) (by decide))⟩
        refine k_iload_n C rfl rfl rfl ?_
        refine b_if_ne C (t := 79) rfl rfl rfl (fun c59 => ?_) (fun c59 => ?_)
        · skip
          refine k_iload_n C rfl rfl rfl ?_
          exact k_iret C rfl (Or.inr ⟨rfl, z01 (by omega) (by omega)⟩) (Nat.le_of_ble_eq_true rfl) (Nat.le_of_ble_eq_true rfl) ⟨_, _, _, rfl, rfl, by omega, by omega, fun a1 h1 => by cases (R_r0_1.symm.trans h1); refine Or.inr ⟨by simp only [k0_r0_1_1]; omega, by rw [e55]; omega, ?_⟩; simp only [k0_r0_1_0, k0_r0_1_E_6_10_n1_toNatClampNeg]; exact EMQ.e ff36_2 (by omega) (by omega), hI49, (CM.cons S3 (CM.cons S14 (CM.cons S27 (CM.mono S48 (by decide) (by decide)) (by decide) (by decide)) (by decide) (by decide)) (by decide) (by decide))⟩
        refine z_iconst C (z := 2) rfl rfl rfl (fun x60 ex60 => ?_)
        refine k_aload_n C rfl rfl rfl ?_
        refine z_bipush C (z := 40) rfl rfl rfl (fun x61 ex61 => ?_)
        refine k_iload_n C rfl rfl rfl ?_
        have q62 : x61.toNatClampNeg = 40 := nck (by omega)
        refine c_VI C (a_X12_oftenRoot_x hI49 H_r0 (by omega) (by omega) (by omega) (by omega) (fun a4 a5 h4 h5 => by cases (R_r0_4.symm.trans h4); cases (R_r0_5.symm.trans h5); simp only [q62, e52, e53, e54, e55, e56]; exact ff36_0 (by omega)) (fun a1 h1 => by cases (R_r0_1.symm.trans h1); first | omega | (simp only [q62, e52, e53, e54, e55, e56, and_true, true_and, or_true, true_or, and_false, false_and, or_false, false_or] <;> omega)) (fun a1 a4 a5 h1 h4 h5 => by cases (R_r0_1.symm.trans h1); cases (R_r0_4.symm.trans h4); cases (R_r0_5.symm.trans h5); simp only [q62, e52, e53, e54, e55, e56]; intro k hk; exact (RWF.cn ff36_1 hcr) k (by omega))) rfl rfl rfl rfl rfl ⟨_, rfl, rfl, T_r0, Nat.le_of_ble_eq_true rfl⟩ rfl rfl (Nat.le_of_ble_eq_true rfl) (Nat.le_of_ble_eq_true rfl) (Nat.le_of_ble_eq_true rfl) ?_
        rintro x63 I64 L65 ⟨p0x63, p1x63, p2x63, p3x63, p4x63, hI64, S66⟩
        have p0x63 := p0x63 r0_1 r0_4 r0_5 R_r0_1 R_r0_4 R_r0_5
        have p3x63 := p3x63 r0_4 R_r0_4
        have p4x63 := p4x63 r0_5 R_r0_5
        try simp only [q62] at p3x63
        have F67 : ∀ r : Nat, r ≠ 43 → I64 r0_4 r = I40 r0_4 r := fun r z0 => p3x63 r (by first | exact z0)
        try simp only [q62] at p4x63
        have F68 : ∀ r : Nat, (r < 41 * 43 ∨ 41 * 43 + 41 ≤ r) → I64 r0_5 r = I40 r0_5 r := fun r z0 => p4x63 r (by first | exact z0)
        have e69 := CM.j S66 R_r0_1 (by decide) e52
        have e70 := CM.j S66 R_r0_1 (by decide) e53
        have e71 := CM.j S66 R_r0_1 (by decide) e54
        have e72 := CM.k S66 (by decide) e55
        have e73 := (p3x63 40 (by first | decide | exact ncne (by omega) (by omega) (by omega) | exact nckn (by omega) (by omega) | exact (nckn (by omega) (by omega)).symm)).trans e56
        have gx63 := rg x63
        try simp only [q62, e52, e53, e54, e55, e56] at p0x63
        try have q0x63 := congrArg Int32.toInt p0x63
        try simp only [q62, e52, e53, e54, e55, e56] at p1x63
        try have q1x63 := congrArg Int32.toInt p1x63
        try simp only [q62, e52, e53, e54, e55, e56] at p2x63
        try have q2x63 := congrArg Int32.toInt p2x63
        have hOF := p0x63
        have hHO := HOF.fin (OFR.f hOF (fun z => (by obtain ⟨K9, h1, h2⟩ := ff36_0 (by omega); exact h2 (z K9 (by omega))))) hd9 (RWF.w ff36_1 hd9)
        refine z_imulL C (c := 2) rfl rfl (by omega) ⟨by omega, by omega⟩ (fun x74 ex74 => ?_)
        refine k_aload_n C rfl rfl rfl ?_
        refine g_R C rfl rfl rfl T_r0 rfl R_r0_4 ?_
        refine z_bipush C (z := 40) rfl rfl rfl (fun x75 ex75 => ?_)
        obtain ⟨T_r0_4, N_r0_4, A_r0_4⟩ := id H_r0_4
        refine a_I C rfl rfl T_r0_4 (by rw [N_r0_4]; exact vpi (by omega) (by omega)) ((congrArg (I64 r0_4) (nck (n := 40) (by omega))).trans e73) ?_
        refine b_icmp_le C (t := 71) rfl rfl rfl (fun c76 => ?_) (fun c76 => ?_)
        · skip
          refine z_iconst C (z := 0) rfl rfl rfl (fun x77 ex77 => ?_)
          refine k_istore_n C (lw := [(2, .int x77), (0, .ref r0), (3, .int x45)]) rfl rfl (Nat.le_of_ble_eq_true rfl) rfl ?_
          refine z_iinc C (z := 1) (lw := fun x78 => [(3, .int x78), (2, .int x77), (0, .ref r0)]) rfl rfl rfl (Nat.le_of_ble_eq_true rfl) rfl ⟨by omega, by omega⟩ (fun _ => rfl) (fun x78 ex78 => ?_)
          show V 76 [(3, .int x78), (2, .int x77), (0, .ref r0)] _ _ _ _
          refine k_goto C (pc2 := 36) rfl rfl ?_
          refine k_sub S [(0, .ref r0), (2, .int x77), (3, .int x78)] (List.forall_mem_cons.mpr ⟨List.mem_of_getElem? (i := 2) rfl, List.forall_mem_cons.mpr ⟨List.mem_of_getElem? (i := 1) rfl, List.forall_mem_cons.mpr ⟨List.mem_of_getElem? (i := 0) rfl, fun _ h => nomatch h⟩⟩⟩) ?_
          exact ihJ38 _ (by omega) I64 L65 x77 x78 rfl hI64 (CM.cons S48 (CM.mono S66 (by decide) (by decide)) (by decide) (by decide)) (fun r z0 => ((F67 r z0).trans (F50 r z0))) (fun r z0 => ((F68 r z0).trans (F51 r z0))) (by omega) (by omega) (by omega) (by omega) (by intro _; obtain ⟨K, h1, h2⟩ := ff36_0 (by omega); exact ⟨K, h1, by rw [(fun r z0 => (F68 r z0)) (41 * 40 + K) (by omega)]; exact h2⟩) (by first | exact ff36_1 | (intro k hk; show (I64 r0_5 _).toInt = _; rw [(fun r z0 => (F68 r z0)) (41 * 40 + k) (by omega)]; exact ff36_1 k hk)) (by first | exact EMQ.y ff36_2 hHO (by omega) (by omega) (by omega) (by omega) | exact EMQ.n ff36_2 (by omega) hHO (by omega) (by omega) (by omega) (by omega))
        refine z_iconst C (z := 1) rfl rfl rfl (fun x79 ex79 => ?_)
        refine k_goto C (pc2 := 72) rfl rfl ?_
        refine k_istore_n C (lw := [(2, .int x79), (0, .ref r0), (3, .int x45)]) rfl rfl (Nat.le_of_ble_eq_true rfl) rfl ?_
        refine z_iinc C (z := 1) (lw := fun x80 => [(3, .int x80), (2, .int x79), (0, .ref r0)]) rfl rfl rfl (Nat.le_of_ble_eq_true rfl) rfl ⟨by omega, by omega⟩ (fun _ => rfl) (fun x80 ex80 => ?_)
        show V 76 [(3, .int x80), (2, .int x79), (0, .ref r0)] _ _ _ _
        refine k_goto C (pc2 := 36) rfl rfl ?_
        refine k_sub S [(0, .ref r0), (2, .int x79), (3, .int x80)] (List.forall_mem_cons.mpr ⟨List.mem_of_getElem? (i := 2) rfl, List.forall_mem_cons.mpr ⟨List.mem_of_getElem? (i := 1) rfl, List.forall_mem_cons.mpr ⟨List.mem_of_getElem? (i := 0) rfl, fun _ h => nomatch h⟩⟩⟩) ?_
        exact ihJ38 _ (by omega) I64 L65 x79 x80 rfl hI64 (CM.cons S48 (CM.mono S66 (by decide) (by decide)) (by decide) (by decide)) (fun r z0 => ((F67 r z0).trans (F50 r z0))) (fun r z0 => ((F68 r z0).trans (F51 r z0))) (by omega) (by omega) (by omega) (by omega) (by intro _; obtain ⟨K, h1, h2⟩ := ff36_0 (by omega); exact ⟨K, h1, by rw [(fun r z0 => (F68 r z0)) (41 * 40 + K) (by omega)]; exact h2⟩) (by first | exact ff36_1 | (intro k hk; show (I64 r0_5 _).toInt = _; rw [(fun r z0 => (F68 r z0)) (41 * 40 + k) (by omega)]; exact ff36_1 k hk)) (by first | exact EMQ.y ff36_2 hHO (by omega) (by omega) (by omega) (by omega) | exact EMQ.n ff36_2 (by omega) hHO (by omega) (by omega) (by omega) (by omega))
    refine k_istore_n C (lw := [(3, .int x37), (2, .int x36), (0, .ref r0), (1, .int n1)]) rfl rfl (Nat.le_of_ble_eq_true rfl) rfl ?_
    refine k_sub S [(0, .ref r0), (2, .int x36), (3, .int x37)] (List.forall_mem_cons.mpr ⟨List.mem_of_getElem? (i := 2) rfl, List.forall_mem_cons.mpr ⟨List.mem_of_getElem? (i := 1) rfl, List.forall_mem_cons.mpr ⟨List.mem_of_getElem? (i := 0) rfl, fun _ h => nomatch h⟩⟩⟩) ?_
    exact J38 _ I25 L26 x36 x37 rfl hI25 CM.rf (fun r z0 => rfl) (fun r z0 => rfl) (by omega) (by omega) (by omega) (by omega) (by exact hNZ) (by exact hRW) (by exact EMQ.z hNQ (by rw [hk40]) hd9 hRW (by omega) (by omega) (by omega) (by omega))
  refine z_iconst C (z := 0) rfl rfl rfl (fun x81 ex81 => ?_)
  exact k_iret C rfl (Or.inr ⟨rfl, z01 (by omega) (by omega)⟩) (Nat.le_of_ble_eq_true rfl) (Nat.le_of_ble_eq_true rfl) ⟨_, _, _, rfl, rfl, by omega, by omega, fun a1 h1 => by cases (R_r0_1.symm.trans h1); exact Or.inl ⟨by simp only [k0_r0_1_1]; omega, by rw [e20]; omega⟩, hI12, (CM.cons S3 (CM.mono S14 (by decide) (by decide)) (by decide) (by decide))⟩

