/-! quotients: exactly -/
theorem PmE.sbt {p x y z w : Int} (h : PmE p x y) (g : PmE p z w) : PmE p (x - z) (y - w) := by unfold PmE at *; rw [Int.sub_emod, h, g, ← Int.sub_emod]
def SUMN (F : Nat → Int) : Nat → Int
  | 0 => 0
  | n + 1 => SUMN F n + F n
theorem SUMN.cg {F G : Nat → Int} : ∀ n, (∀ i, i < n → F i = G i) → SUMN F n = SUMN G n
  | 0, _ => rfl
  | n + 1, h => by show SUMN F n + F n = SUMN G n + G n; rw [SUMN.cg n (fun i hi => h i (by omega)), h n (by omega)]
theorem SUMN.ad (F G : Nat → Int) : ∀ n, SUMN (fun i => F i + G i) n = SUMN F n + SUMN G n
  | 0 => rfl
  | n + 1 => by show SUMN (fun i => F i + G i) n + (F n + G n) = SUMN F n + F n + (SUMN G n + G n); rw [SUMN.ad F G n]; omega
theorem SUMN.z : ∀ n, SUMN (fun _ => 0) n = 0
  | 0 => rfl
  | n + 1 => by show SUMN (fun _ => 0) n + 0 = 0; rw [SUMN.z n]; rfl
theorem SUMN.sc (x : Int) (F : Nat → Int) : ∀ n, SUMN (fun i => x * F i) n = x * SUMN F n
  | 0 => (Int.mul_zero x).symm
  | n + 1 => by show SUMN (fun i => x * F i) n + x * F n = x * (SUMN F n + F n); rw [SUMN.sc x F n, Int.mul_add]
theorem SUMN.sw (F : Nat → Nat → Int) (m : Nat) : ∀ n, SUMN (fun i => SUMN (fun j => F i j) m) n = SUMN (fun j => SUMN (fun i => F i j) n) m
  | 0 => by show (0 : Int) = SUMN (fun _ => 0) m; rw [SUMN.z]
  | n + 1 => by
    show SUMN (fun i => SUMN (fun j => F i j) m) n + SUMN (fun j => F n j) m = SUMN (fun j => SUMN (fun i => F i j) n + F n j) m
    rw [SUMN.sw F m n, SUMN.ad]
theorem SUMN.p {F : Nat → Int} (h : ∀ i, 0 ≤ F i) : ∀ n, 0 ≤ SUMN F n
  | 0 => Int.le_refl 0
  | n + 1 => Int.add_nonneg (SUMN.p h n) (h n)
theorem SUMN.pos {F : Nat → Int} (h : ∀ i, 0 ≤ F i) : ∀ {n : Nat}, 0 < SUMN F n → ∃ i, i < n ∧ 0 < F i
  | 0, q => absurd q (Int.lt_irrefl 0)
  | n + 1, q => by
    have q : 0 < SUMN F n + F n := q
    by_cases c : 0 < F n
    · exact ⟨n, by omega, c⟩
    · obtain ⟨i, hi, hF⟩ := SUMN.pos h (n := n) (by omega)
      exact ⟨i, by omega, hF⟩
theorem SUMN.ge {F : Nat → Int} (h : ∀ i, 0 ≤ F i) : ∀ {n i : Nat}, i < n → F i ≤ SUMN F n
  | 0, i, q => absurd q (by omega)
  | n + 1, i, q => by
    show F i ≤ SUMN F n + F n
    have a := SUMN.p h n
    have b := h n
    by_cases c : i = n
    · subst c; omega
    · have := SUMN.ge h (n := n) (i := i) (by omega); omega
theorem NF.e {I1 I : IT} {b : Nat} (e : I1 b = I b) : NF I1 b = NF I b := by unfold NF; rw [e]
theorem IMX.s9 {w x y : Int32} (m : IMX w x y) (hx : 0 ≤ x.toInt ∧ x.toInt ≤ 18) (hy : 0 ≤ y.toInt ∧ y.toInt ≤ 18) : w.toInt = x.toInt * y.toInt := by
  have a : x.toInt * y.toInt ≤ 18 * 18 := Int.mul_le_mul hx.2 hy.2 hy.1 (by decide)
  have b := Int.mul_nonneg hx.1 hy.1
  exact m (by omega) (by omega)
def SBX (w x y : Int32) : Prop := -2147483648 ≤ x.toInt - y.toInt → x.toInt - y.toInt ≤ 2147483647 → w.toInt = x.toInt - y.toInt
section AutoE
variable {d : Nat} {q : mm_T} {mc ms : Nat} {Post : Po} {V : V_T} {pc pc2 : Nat} {lv : List (Nat × Value)} {r : List Value} {ck sk : Nat}
theorem z_isubX (C : Cl d q mc ms Post V) {M : Mm} {x y : Int32} (hi : cdf q.2.2.2.2.2.2 pc = some (.isub, 1)) (hp : pc + 1 = pc2) (h : ∀ w : Int32, SBX w x y → V pc2 lv (.int w :: r) M ck sk) : V pc lv (.int y :: .int x :: r) M ck sk := k_isub C hi hp (h _ (fun h1 h2 => ii_sub (by omega)))
end AutoE
theorem VRX.z1 {I9 I1 I : IT} {b b1 b2 : Nat} {p D D' E E' t : Int} {n n' : Nat} (h : VRX I9 b p D' (fun m => NF I1 b m + t * CVS (NF I1 b1) (NF I1 b2) E' n' m)) (ht : t = 1) (hz : ∀ j : Nat, j < 41 → (I1 b j).toInt = 0) (e1 : I1 b1 = I b1) (e2 : I1 b2 = I b2) (hD' : D' = D) (hD : D ≤ 40) (hE : E' = E) (hn : n' = n) : VRX I9 b p D (CVS (NF I b1) (NF I b2) E n) := fun j hj => by
  subst hD'; subst hE; subst hn; subst ht
  have q := h j hj
  refine ⟨q.1, q.2.1, q.2.2.tr ?_⟩
  have f1 : NF I1 b1 = NF I b1 := by unfold NF; rw [e1]
  have f2 : NF I1 b2 = NF I b2 := by unfold NF; rw [e2]
  have z : NF I1 b j = 0 := hz j (by omega)
  show PmE p (NF I1 b j + 1 * CVS (NF I1 b1) (NF I1 b2) E' n' j) _
  rw [f1, f2, z, Int.zero_add, Int.one_mul]; exact PmE.rf
/-- one row times another -/
theorem SUMN.pe {p : Int} {F G : Nat → Int} : ∀ n, (∀ i, i < n → PmE p (F i) (G i)) → PmE p (SUMN F n) (SUMN G n)
  | 0, _ => PmE.rf
  | n + 1, h => (SUMN.pe n (fun i hi => h i (by omega))).ad (h n (by omega))
theorem SUMN.sp (F : Nat → Int) (m : Nat) : ∀ n, SUMN F (m + n) = SUMN F m + SUMN (fun i => F (m + i)) n
  | 0 => (Int.add_zero _).symm
  | n + 1 => by
    show SUMN F (m + n) + F (m + n) = SUMN F m + (SUMN (fun i => F (m + i)) n + F (m + n))
    rw [SUMN.sp F m n]; omega
theorem SUMN.z0 {F : Nat → Int} (n : Nat) (h : ∀ i, i < n → F i = 0) : SUMN F n = 0 := (SUMN.cg n h).trans (SUMN.z n)
def CNV (q g : Nat → Int) (k : Nat) : Int := SUMN (fun i => q i * g (k - i)) (k + 1)
theorem CNV.pe {p : Int} {q q' g g' : Nat → Int} {k : Nat} (hq : ∀ i, i ≤ k → PmE p (q i) (q' i)) (hg : ∀ i, i ≤ k → PmE p (g i) (g' i)) : PmE p (CNV q g k) (CNV q' g' k) := SUMN.pe _ (fun i hi => (hq i (by omega)).ml (hg (k - i) (by omega)))
theorem CNV.li (a b : Int) (q r g : Nat → Int) (k : Nat) : CNV (fun i => a * q i + b * r i) g k = a * CNV q g k + b * CNV r g k := by
  unfold CNV
  rw [← SUMN.sc, ← SUMN.sc, ← SUMN.ad]
  exact SUMN.cg _ (fun i _ => by grind)
/-- a row behind some noughts -/
def SHY (m : Nat) (q : Nat → Int) (i : Nat) : Int := if i < m then 0 else q (i - m)
theorem CNV.sh (m : Nat) (q g : Nat → Int) (k : Nat) : CNV (SHY m q) g (m + k) = CNV q g k := by
  unfold CNV
  rw [show m + k + 1 = m + (k + 1) from by omega, SUMN.sp]
  rw [SUMN.z0 m (fun i hi => by unfold SHY; rw [if_pos hi, Int.zero_mul]), Int.zero_add]
  refine SUMN.cg _ (fun i hi => ?_)
  unfold SHY
  rw [if_neg (by omega), show m + i - m = i from by omega, show m + k - (m + i) = k - i from by omega]
theorem CNV.s0 {m : Nat} {q g : Nat → Int} {k : Nat} (h : k < m) : CNV (SHY m q) g k = 0 := SUMN.z0 _ (fun i hi => by
  show SHY m q i * _ = 0
  unfold SHY; rw [if_pos (by omega), Int.zero_mul])
/-- a row's end -/
def SUP (d : Nat → Int) (H : Int) : Prop := ∀ i : Nat, H < (i : Int) → d i = 0
def UNI (p : Int) (d : Nat → Int) : Prop := ∃ e, PmE p (e * d 0) 1
theorem CNV.hi {r d : Nat → Int} {E H : Int} {j : Nat} (hr : ∀ i : Nat, E < (i : Int) + H → r i = 0) (hd : SUP d H) (hj : E < (j : Int)) : CNV r d j = 0 := SUMN.z0 _ (fun i hi => by
  show r i * d (j - i) = 0
  by_cases q : E < (i : Int) + H
  · rw [hr i q, Int.zero_mul]
  · rw [hd (j - i) (by omega), Int.mul_zero])
/-- d of degree H divides f of degree D -/
def DV (p : Int) (d : Nat → Int) (H : Int) (f : Nat → Int) (D : Int) : Prop := ∃ q : Nat → Int, (∀ i : Nat, D < (i : Int) + H → q i = 0) ∧ ∀ k : Nat, (k : Int) ≤ D → PmE p (f k) (CNV q d k)
theorem DV.cg {p : Int} {d : Nat → Int} {H : Int} {f f' : Nat → Int} {D : Int} (h : DV p d H f D) (e : ∀ k : Nat, (k : Int) ≤ D → PmE p (f' k) (f k)) : DV p d H f' D := by
  obtain ⟨q, q1, q2⟩ := h
  exact ⟨q, q1, fun k hk => (e k hk).tr (q2 k hk)⟩
theorem PmE.ng {p x y : Int} (h : PmE p x y) : PmE p (-x) (-y) := by
  have := PmE.sbt (PmE.rf (x := (0 : Int))) h
  rwa [Int.zero_sub, Int.zero_sub] at this
theorem DV.sb1 {p : Int} {d : Nat → Int} {H : Int} {f f1 g : Nat → Int} {D E c : Int} {m : Nat} (hd : SUP d H) (hE : E + m ≤ D) (e : ∀ k : Nat, (k : Int) ≤ D → PmE p (f1 k) (f k - c * (if m ≤ k ∧ ((k - m : Nat) : Int) ≤ E then g (k - m) else 0))) (hg : DV p d H g E) (h : DV p d H f D) : DV p d H f1 D := by
  obtain ⟨q, q1, q2⟩ := h
  obtain ⟨r, r1, r2⟩ := hg
  refine ⟨fun i => 1 * q i + (-c) * SHY m r i, fun i hi => ?_, fun k hk => ?_⟩
  · show 1 * q i + (-c) * SHY m r i = 0
    have z : SHY m r i = 0 := by
      unfold SHY
      by_cases x : i < m
      · rw [if_pos x]
      · rw [if_neg x]; exact r1 _ (by omega)
    rw [q1 i hi, z]; omega
  · rw [CNV.li]
    refine (e k hk).tr ?_
    have w : PmE p (if m ≤ k ∧ ((k - m : Nat) : Int) ≤ E then g (k - m) else 0) (CNV (SHY m r) d k) := by
      by_cases x : m ≤ k
      · have s := CNV.sh m r d (k - m)
        rw [show m + (k - m) = k from by omega] at s
        rw [s]
        by_cases y : ((k - m : Nat) : Int) ≤ E
        · rw [if_pos ⟨x, y⟩]; exact r2 _ y
        · rw [if_neg (fun z => y z.2), CNV.hi r1 hd (by omega)]; exact PmE.rf
      · rw [if_neg (fun z => x z.1), CNV.s0 (by omega)]; exact PmE.rf
    have a := PmE.sbt (q2 k hk) (PmE.ml (PmE.rf (x := c)) w)
    rwa [show 1 * CNV q d k + -c * CNV (SHY m r) d k = CNV q d k - c * CNV (SHY m r) d k from by grind]
theorem DV.sb {p : Int} {d : Nat → Int} {H : Int} {f f1 g : Nat → Int} {D E c : Int} {m : Nat} (hd : SUP d H) (hE : E + m ≤ D) (e : ∀ k : Nat, (k : Int) ≤ D → PmE p (f1 k) (f k - c * (if m ≤ k ∧ ((k - m : Nat) : Int) ≤ E then g (k - m) else 0))) (hg : DV p d H g E) : DV p d H f D ↔ DV p d H f1 D := by
  refine ⟨fun h => DV.sb1 hd hE e hg h, fun h => DV.sb1 (c := -c) (m := m) hd hE (fun k hk => ?_) hg h⟩
  have a := (e k hk).ad (PmE.rf (p := p) (x := c * (if m ≤ k ∧ ((k - m : Nat) : Int) ≤ E then g (k - m) else 0)))
  have a := a.sy
  rw [show f k - c * (if m ≤ k ∧ ((k - m : Nat) : Int) ≤ E then g (k - m) else 0) + c * (if m ≤ k ∧ ((k - m : Nat) : Int) ≤ E then g (k - m) else 0) = f k from by omega] at a
  rwa [show f1 k - -c * (if m ≤ k ∧ ((k - m : Nat) : Int) ≤ E then g (k - m) else 0) = f1 k + c * (if m ≤ k ∧ ((k - m : Nat) : Int) ≤ E then g (k - m) else 0) from by grind]
theorem CNV.u0 {p : Int} {q d : Nat → Int} (hu : UNI p d) : ∀ n : Nat, (∀ k, k < n → PmE p (CNV q d k) 0) → ∀ i, i < n → PmE p (q i) 0
  | 0, _, i, hi => absurd hi (by omega)
  | n + 1, h, i, hi => by
    have ih := CNV.u0 hu n (fun k hk => h k (by omega))
    by_cases x : i = n
    · subst x
      have a := h i (by omega)
      have a : PmE p (SUMN (fun j => q j * d (i - j)) i + q i * d (i - i)) 0 := a
      have z : PmE p (SUMN (fun j => q j * d (i - j)) i) 0 := by
        have := SUMN.pe (p := p) (F := fun j => q j * d (i - j)) (G := fun _ => 0) i (fun j hj => by
          have := (ih j hj).ml (PmE.rf (x := d (i - j)))
          rwa [Int.zero_mul] at this)
        rwa [SUMN.z] at this
      have b := PmE.sbt a z
      rw [show SUMN (fun j => q j * d (i - j)) i + q i * d (i - i) - SUMN (fun j => q j * d (i - j)) i = q i * d (i - i) from by omega, Nat.sub_self] at b
      obtain ⟨e, he⟩ := hu
      have c := PmE.ml (PmE.rf (p := p) (x := e)) b
      rw [show e * (q i * d 0) = e * d 0 * q i from by grind] at c
      have c2 := (he.sy.ml (PmE.rf (x := q i))).tr c
      rwa [Int.one_mul, Int.sub_self, Int.mul_zero] at c2
    · exact ih i (by omega)
theorem DV.sh {p : Int} {d : Nat → Int} {H : Int} {f f' : Nat → Int} {D D' : Int} {m : Nat} (hu : UNI p d) (hz : ∀ k : Nat, k < m → PmE p (f k) 0) (hf : ∀ k : Nat, (k : Int) ≤ D' → PmE p (f' k) (f (m + k))) (hD : D' = D - m) (hm : (m : Int) ≤ D + 1) : DV p d H f D ↔ DV p d H f' D' := by
  subst hD
  constructor
  · rintro ⟨q, q1, q2⟩
    have z := CNV.u0 (q := q) hu m (fun k hk => (q2 k (by omega)).sy.tr (hz k hk))
    refine ⟨fun i => q (m + i), fun i hi => q1 _ (by omega), fun k hk => ?_⟩
    refine (hf k hk).tr ((q2 (m + k) (by omega)).tr ?_)
    unfold CNV
    rw [show m + k + 1 = m + (k + 1) from by omega, SUMN.sp]
    have a : PmE p (SUMN (fun i => q i * d (m + k - i)) m) 0 := by
      have := SUMN.pe (p := p) (F := fun i => q i * d (m + k - i)) (G := fun _ => 0) m (fun j hj => by
        have := (z j hj).ml (PmE.rf (x := d (m + k - j)))
        rwa [Int.zero_mul] at this)
      rwa [SUMN.z] at this
    have b : SUMN (fun i => q (m + i) * d (m + k - (m + i))) (k + 1) = SUMN (fun i => q (m + i) * d (k - i)) (k + 1) := SUMN.cg _ (fun i _ => by rw [show m + k - (m + i) = k - i from by omega])
    have c := a.ad (PmE.rf (x := SUMN (fun i => q (m + i) * d (m + k - (m + i))) (k + 1)))
    rw [Int.zero_add, b] at c
    rw [b]; exact c
  · rintro ⟨q, q1, q2⟩
    refine ⟨SHY m q, fun i hi => ?_, fun k hk => ?_⟩
    · unfold SHY
      by_cases x : i < m
      · rw [if_pos x]
      · rw [if_neg x]; exact q1 _ (by omega)
    · by_cases x : k < m
      · rw [CNV.s0 x]; exact hz k x
      · have s := CNV.sh m q d (k - m)
        rw [show m + (k - m) = k from by omega] at s
        rw [s]
        have a := hf (k - m) (by omega)
        rw [show m + (k - m) = k from by omega] at a
        exact a.sy.tr (q2 _ (by omega))
/-- the same common divisors -/
def CDV (p : Int) (d : Nat → Int) (H : Int) (f : Nat → Int) (D : Int) (g : Nat → Int) (E : Int) : Prop := DV p d H f D ∧ DV p d H g E
def SCD (p : Int) (f : Nat → Int) (D : Int) (g : Nat → Int) (E : Int) (f' : Nat → Int) (D' : Int) (g' : Nat → Int) (E' : Int) : Prop := ∀ (d : Nat → Int) (H : Int), 0 ≤ H → UNI p d → SUP d H → (CDV p d H f D g E ↔ CDV p d H f' D' g' E')
theorem SCD.rf {p D E : Int} {f g : Nat → Int} : SCD p f D g E f D g E := fun _ _ _ _ _ => Iff.rfl
theorem SCD.tr {p D E D1 E1 D2 E2 : Int} {f g f1 g1 f2 g2 : Nat → Int} (h : SCD p f D g E f1 D1 g1 E1) (k : SCD p f1 D1 g1 E1 f2 D2 g2 E2) : SCD p f D g E f2 D2 g2 E2 := fun d H h0 hu hs => (h d H h0 hu hs).trans (k d H h0 hu hs)
theorem SCD.sw {p D E D1 E1 : Int} {f g f1 g1 : Nat → Int} (h : SCD p f D g E f1 D1 g1 E1) : SCD p f D g E g1 E1 f1 D1 := fun d H h0 hu hs => (h d H h0 hu hs).trans ⟨fun q => ⟨q.2, q.1⟩, fun q => ⟨q.2, q.1⟩⟩
theorem SCD.cg {p D E D1 E1 D2 E2 : Int} {f g f1 g1 f2 g2 : Nat → Int} (h : SCD p f D g E f1 D1 g1 E1) (eD : D2 = D1) (eE : E2 = E1) (ef : ∀ k : Nat, (k : Int) ≤ D1 → f2 k = f1 k) (eg : ∀ k : Nat, (k : Int) ≤ E1 → g2 k = g1 k) : SCD p f D g E f2 D2 g2 E2 := by
  subst eD; subst eE
  refine h.tr (fun d H _ _ _ => ⟨fun q => ⟨q.1.cg (fun k hk => by rw [ef k hk]; exact PmE.rf), q.2.cg (fun k hk => by rw [eg k hk]; exact PmE.rf)⟩, fun q => ⟨q.1.cg (fun k hk => by rw [ef k hk]; exact PmE.rf), q.2.cg (fun k hk => by rw [eg k hk]; exact PmE.rf)⟩⟩)
/-- less a part of the other -/
theorem SCD.sb {p D E c : Int} {f g f1 : Nat → Int} {m : Nat} (hE : E + m ≤ D) (e : ∀ k : Nat, (k : Int) ≤ D → PmE p (f1 k) (f k - c * (if m ≤ k ∧ ((k - m : Nat) : Int) ≤ E then g (k - m) else 0))) : SCD p f D g E f1 D g E := fun d H _ _ hs => ⟨fun q => ⟨(DV.sb hs hE e q.2).mp q.1, q.2⟩, fun q => ⟨(DV.sb hs hE e q.2).mpr q.1, q.2⟩⟩
/-- y taken away -/
theorem SCD.sh {p D D' E : Int} {f g f' : Nat → Int} {m : Nat} (hz : ∀ k : Nat, k < m → PmE p (f k) 0) (hf : ∀ k : Nat, (k : Int) ≤ D' → PmE p (f' k) (f (m + k))) (hD : D' = D - m) (hm : (m : Int) ≤ D + 1) : SCD p f D g E f' D' g E := fun d H _ hu _ => ⟨fun q => ⟨(DV.sh hu hz hf hD hm).mp q.1, q.2⟩, fun q => ⟨(DV.sh hu hz hf hD hm).mpr q.1, q.2⟩⟩
/-- what they have in common -/
def HCF (p : Int) (f : Nat → Int) (D : Int) (g : Nat → Int) (E : Int) (h : Nat → Int) (H : Int) : Prop := 0 ≤ H ∧ h 0 = 1 ∧ (∀ k : Nat, (k : Int) ≤ H → 0 ≤ h k ∧ h k < p) ∧ ∀ (d : Nat → Int) (Hd : Int), 0 ≤ Hd → UNI p d → SUP d Hd → (CDV p d Hd f D g E ↔ DV p d Hd h H)
def DL0 (x : Int) (i : Nat) : Int := if i = 0 then x else 0
theorem CNV.d0 (x : Int) (g : Nat → Int) (k : Nat) : CNV (DL0 x) g k = x * g k := by
  unfold CNV
  rw [show k + 1 = 1 + k from by omega, SUMN.sp]
  rw [SUMN.z0 k (fun i _ => by unfold DL0; rw [if_neg (by omega), Int.zero_mul])]
  show 0 + DL0 x 0 * g (k - 0) + 0 = x * g k
  unfold DL0
  rw [if_pos rfl, Nat.sub_zero]; omega
def CUT (h : Nat → Int) (H : Int) (k : Nat) : Int := if (k : Int) ≤ H then h k else 0
theorem HCF.le {p D E H H' : Int} {f g h h' : Nat → Int} (a : HCF p f D g E h H) (b : HCF p f D g E h' H') (hp : 1 < p) : H ≤ H' ∧ ∃ q : Nat → Int, (∀ i : Nat, H' < (i : Int) + H → q i = 0) ∧ ∀ k : Nat, (k : Int) ≤ H' → PmE p (h' k) (CNV q (CUT h H) k) := by
  obtain ⟨a0, a1, a2, a3⟩ := a
  obtain ⟨b0, b1, b2, b3⟩ := b
  have c0 : CUT h H 0 = 1 := by unfold CUT; rw [if_pos (by omega)]; exact a1
  have hu : UNI p (CUT h H) := ⟨1, by rw [c0]; exact PmE.rf⟩
  have hs : SUP (CUT h H) H := fun i hi => by unfold CUT; rw [if_neg (by omega)]
  have self : DV p (CUT h H) H h H := ⟨DL0 1, fun i hi => by unfold DL0; rw [if_neg (by omega)], fun k hk => by
    rw [CNV.d0, Int.one_mul]; unfold CUT; rw [if_pos hk]; exact PmE.rf⟩
  obtain ⟨q, q1, q2⟩ := (b3 _ H a0 hu hs).mp ((a3 _ H a0 hu hs).mpr self)
  refine ⟨?_, q, q1, q2⟩
  rcases Int.lt_or_le H' H with c | c
  · exfalso
    have e := q2 0 (by omega)
    have z : CNV q (CUT h H) 0 = 0 := SUMN.z0 _ (fun i hi => by
      show q i * _ = 0
      rw [q1 i (by omega), Int.zero_mul])
    rw [z, b1] at e
    have e : (1 : Int) % p = 0 % p := e
    rw [Int.emod_eq_of_lt (by decide) hp, Int.zero_emod] at e
    omega
  · exact c
theorem HCF.u {p D E H H' : Int} {f g h h' : Nat → Int} (a : HCF p f D g E h H) (b : HCF p f D g E h' H') (hp : 1 < p) : H = H' ∧ ∀ k : Nat, (k : Int) ≤ H → h k = h' k := by
  obtain ⟨l1, q, q1, q2⟩ := a.le b hp
  obtain ⟨l2, -⟩ := b.le a hp
  have e : H = H' := by omega
  subst e
  refine ⟨rfl, fun k hk => ?_⟩
  have hq : q = DL0 (q 0) := funext fun i => by
    unfold DL0
    by_cases x : i = 0
    · rw [if_pos x, x]
    · rw [if_neg x]; exact q1 i (by omega)
  have v : ∀ k : Nat, (k : Int) ≤ H → PmE p (h' k) (q 0 * h k) := fun k hk => by
    have := q2 k hk
    rw [hq, CNV.d0] at this
    unfold CUT at this
    rw [if_pos hk] at this
    exact this
  obtain ⟨a0, a1, a2, -⟩ := a
  obtain ⟨b0, b1, b2, -⟩ := b
  have v0 := v 0 (by omega)
  rw [a1, b1, Int.mul_one] at v0
  have w := (v k hk).tr (v0.sy.ml (PmE.rf (x := h k)))
  rw [Int.one_mul] at w
  exact (w.eq (b2 k hk).1 (b2 k hk).2 (a2 k hk).1 (a2 k hk).2).symm
/-- at the end: the other is nought -/
theorem HCF.fin {p D E B S c : Int} {f g b s h : Nat → Int} (t : SCD p f D g E b B s S) (z : ∀ k : Nat, (k : Int) ≤ S → s k = 0) (hB : 0 ≤ B) (hc : PmE p (c * b 0) 1) (hh : ∀ k : Nat, (k : Int) ≤ B → PmE p (h k) (c * b k) ∧ 0 ≤ h k ∧ h k < p) (hp : 1 < p) : HCF p f D g E h B := by
  refine ⟨hB, ?_, fun k hk => (hh k hk).2, fun d Hd h0 hu hs => (t d Hd h0 hu hs).trans ⟨fun q => ?_, fun q => ⟨?_, ⟨fun _ => 0, fun _ _ => rfl, fun k hk => ?_⟩⟩⟩⟩
  · have a := hh 0 (by omega)
    exact (a.1.tr hc).eq a.2.1 a.2.2 (by decide) hp
  · obtain ⟨r, r1, r2⟩ := q.1
    refine ⟨fun i => c * r i + 0 * r i, fun i hi => by show c * r i + 0 * r i = 0; rw [r1 i hi]; omega, fun k hk => ?_⟩
    rw [CNV.li, Int.zero_mul, Int.add_zero]
    exact (hh k hk).1.tr (PmE.rf.ml (r2 k hk))
  · obtain ⟨r, r1, r2⟩ := q
    refine ⟨fun i => b 0 * r i + 0 * r i, fun i hi => by show b 0 * r i + 0 * r i = 0; rw [r1 i hi]; omega, fun k hk => ?_⟩
    rw [CNV.li, Int.zero_mul, Int.add_zero]
    have a := (PmE.rf (x := b 0)).ml ((hh k hk).1.sy.tr (r2 k hk))
    rw [show b 0 * (c * b k) = c * b 0 * b k from by grind] at a
    have a2 := (hc.sy.ml (PmE.rf (x := b k))).tr a
    rwa [Int.one_mul] at a2
  · rw [z k hk]
    have : CNV (fun _ => 0) d k = 0 := SUMN.z0 _ (fun i _ => Int.zero_mul _)
    rw [this]; exact PmE.rf
/-- the first number that isn't nought -/
def FST (f : Nat → Int) (a : Nat) (D : Int) : Prop := (a : Int) ≤ D ∧ f a ≠ 0 ∧ ∀ k : Nat, k < a → f k = 0
theorem FST.u {f f' : Nat → Int} {a b : Nat} {D : Int} (h : FST f a D) (k : FST f' b D) (e : ∀ k : Nat, (k : Int) ≤ D → f k = f' k) : a = b := by
  obtain ⟨h1, h2, h3⟩ := h
  obtain ⟨k1, k2, k3⟩ := k
  rcases Nat.lt_trichotomy a b with c | c | c
  · exact absurd ((e a h1).trans (k3 a c)) h2
  · exact c
  · exact absurd ((e b k1).symm.trans (h3 b c)) k2
/-- what is told of two rows: y as often as in both, and what they have in common -/
def COM (p : Int) (f : Nat → Int) (D : Int) (g : Nat → Int) (E : Int) (r : Nat → Int) (W : Int) : Prop := ∃ (a b : Nat) (h : Nat → Int) (H : Int), FST f a D ∧ FST g b E ∧ HCF p (fun k => f (a + k)) (D - a) (fun k => g (b + k)) (E - b) h H ∧ W = ((min a b : Nat) : Int) + H ∧ ∀ k : Nat, (k : Int) ≤ W → r k = if k < min a b then 0 else h (k - min a b)
theorem COM.u {p D E W W' : Int} {f g f' g' r r' : Nat → Int} (x : COM p f D g E r W) (y : COM p f' D g' E r' W') (hp : 1 < p) (ef : ∀ k : Nat, (k : Int) ≤ D → f k = f' k) (eg : ∀ k : Nat, (k : Int) ≤ E → g k = g' k) : W = W' ∧ ∀ k : Nat, (k : Int) ≤ W → r k = r' k := by
  obtain ⟨a, b, h, H, x1, x2, x3, x4, x5⟩ := x
  obtain ⟨a', b', h', H', y1, y2, y3, y4, y5⟩ := y
  have ea := x1.u y1 ef
  have eb := x2.u y2 eg
  subst ea; subst eb
  have y3 : HCF p (fun k => f (a + k)) (D - a) (fun k => g (b + k)) (E - b) h' H' := by
    obtain ⟨z0, z1, z2, z3⟩ := y3
    refine ⟨z0, z1, z2, fun d Hd h0 hu hs => Iff.trans ⟨fun q => ⟨q.1.cg (fun k hk => ?_), q.2.cg (fun k hk => ?_)⟩, fun q => ⟨q.1.cg (fun k hk => ?_), q.2.cg (fun k hk => ?_)⟩⟩ (z3 d Hd h0 hu hs)⟩
    · show PmE p (f' (a + k)) (f (a + k)); rw [ef _ (by omega)]; exact PmE.rf
    · show PmE p (g' (b + k)) (g (b + k)); rw [eg _ (by omega)]; exact PmE.rf
    · show PmE p (f (a + k)) (f' (a + k)); rw [ef _ (by omega)]; exact PmE.rf
    · show PmE p (g (b + k)) (g' (b + k)); rw [eg _ (by omega)]; exact PmE.rf
  obtain ⟨eH, eh⟩ := x3.u y3 hp
  subst eH
  refine ⟨by omega, fun k hk => ?_⟩
  rw [x5 k hk, y5 k (by omega)]
  by_cases q : k < min a b
  · rw [if_pos q, if_pos q]
  · rw [if_neg q, if_neg q]; exact eh _ (by omega)
/-- a quotient -/
def QTO (p : Int) (q g : Nat → Int) (f : Nat → Int) (D E : Int) : Prop := (∀ i : Nat, D - E < (i : Int) → q i = 0) ∧ (∀ i : Nat, (i : Int) ≤ D - E → 0 ≤ q i ∧ q i < p) ∧ ∀ k : Nat, (k : Int) ≤ D → PmE p (f k) (CNV q (CUT g E) k)
theorem PRM.un {p a : Int} (hp : PRM p) (h0 : a ≠ 0) (h : 0 ≤ a ∧ a < p) : ∃ b, PmE p (b * a) 1 := by
  have d : ∀ q : Nat, q = 11 ∨ q = 13 ∨ q = 17 ∨ q = 19 → ∀ a : Nat, a < 19 → 0 < a → a < q → ∃ b : Nat, b < 19 ∧ (b * a) % q = 1 := by
    rintro q (rfl | rfl | rfl | rfl) <;> decide
  obtain ⟨b, -, hb⟩ := d p.toNat (by unfold PRM at hp; omega) a.toNat (by unfold PRM at hp; omega) (by omega) (by omega)
  refine ⟨(b : Int), ?_⟩
  have e1 : ((a.toNat : Nat) : Int) = a := by omega
  have e2 : ((p.toNat : Nat) : Int) = p := by unfold PRM at hp; omega
  have e3 : (((b * a.toNat) % p.toNat : Nat) : Int) = 1 := by rw [hb]; rfl
  rw [Int.natCast_emod, Int.natCast_mul, e1, e2] at e3
  show (b : Int) * a % p = 1 % p
  rw [e3]
  have : 1 < p := by unfold PRM at hp; omega
  exact (Int.emod_eq_of_lt (by decide) this).symm
/-- q times g where g begins behind b noughts -/
theorem CNV.fb {q g : Nat → Int} {b : Nat} (hz : ∀ k, k < b → g k = 0) (k : Nat) : CNV q g (k + b) = CNV q (fun i => g (i + b)) k := by
  unfold CNV
  rw [show k + b + 1 = (k + 1) + b from by omega, SUMN.sp]
  rw [SUMN.z0 b (fun i hi => by show q (k + 1 + i) * g (k + b - (k + 1 + i)) = 0; rw [hz _ (by omega), Int.mul_zero]), Int.add_zero]
  exact SUMN.cg _ (fun i hi => by rw [show k + b - i = k - i + b from by omega])
theorem QTO.u {p D E : Int} {q q' g g' f f' : Nat → Int} {b : Nat} (h : QTO p q g f D E) (k : QTO p q' g' f' D E) (hp : PRM p) (hb : FST g b E) (bg : ∀ k : Nat, (k : Int) ≤ E → 0 ≤ g k ∧ g k < p) (ef : ∀ k : Nat, (k : Int) ≤ D → f k = f' k) (eg : ∀ k : Nat, (k : Int) ≤ E → g k = g' k) (hE : E ≤ D) : ∀ i : Nat, (i : Int) ≤ D - E → q i = q' i := by
  obtain ⟨h1, h2, h3⟩ := h
  obtain ⟨k1, k2, k3⟩ := k
  have eC : CUT g E = CUT g' E := funext fun k => by
    unfold CUT
    by_cases c : (k : Int) ≤ E
    · rw [if_pos c, if_pos c]; exact eg k c
    · rw [if_neg c, if_neg c]
  obtain ⟨b1, b2, b3⟩ := hb
  have zb : ∀ k, k < b → CUT g E k = 0 := fun k hk => by unfold CUT; rw [if_pos (by omega)]; exact b3 k hk
  have hu : UNI p (fun i => CUT g E (i + b)) := by
    obtain ⟨e, he⟩ := PRM.un hp b2 (bg b b1)
    refine ⟨e, ?_⟩
    show PmE p (e * CUT g E (0 + b)) 1
    unfold CUT
    rw [Nat.zero_add, if_pos b1]; exact he
  have z := CNV.u0 (q := fun i => 1 * q i + (-1) * q' i) hu ((D - E).toNat + 1) (fun k hk => by
    rw [CNV.li, ← CNV.fb zb, ← CNV.fb zb]
    have a := h3 (k + b) (by omega)
    have c := k3 (k + b) (by omega)
    rw [← eC, ← ef _ (by omega)] at c
    have d := PmE.sbt a.sy c.sy
    rw [Int.sub_self] at d
    rwa [show 1 * CNV q (CUT g E) (k + b) + -1 * CNV q' (CUT g E) (k + b) = CNV q (CUT g E) (k + b) - CNV q' (CUT g E) (k + b) from by omega])
  intro i hi
  have a := z i (by omega)
  have a : PmE p (1 * q i + (-1) * q' i) 0 := a
  have c := a.ad (PmE.rf (x := q' i))
  rw [show 1 * q i + -1 * q' i + q' i = q i from by omega, Int.zero_add] at c
  exact c.eq (h2 i hi).1 (h2 i hi).2 (k2 i hi).1 (k2 i hi).2
/-- the first number that isn't nought, where there is one -/
theorem FST.ex {g : Nat → Int} : ∀ n : Nat, (∀ k, k < n → g k = 0) ∨ ∃ b, b < n ∧ g b ≠ 0 ∧ ∀ k, k < b → g k = 0
  | 0 => Or.inl (fun k hk => absurd hk (Nat.not_lt_zero k))
  | n + 1 => by
    rcases FST.ex (g := g) n with h | ⟨b, h1, h2, h3⟩
    · by_cases c : g n = 0
      · refine Or.inl (fun k hk => ?_)
        by_cases e : k = n
        · rw [e]; exact c
        · exact h k (by omega)
      · exact Or.inr ⟨n, by omega, c, h⟩
    · exact Or.inr ⟨b, by omega, h2, h3⟩
theorem FST.xo {g : Nat → Int} {E : Int} (h : ¬ ZRL g (E + 1)) : ∃ b, FST g b E := by
  rcases FST.ex (g := g) (E + 1).toNat with z | ⟨b, h1, h2, h3⟩
  · exact absurd (fun j hj => z j (by omega)) h
  · exact ⟨b, by omega, h2, h3⟩
theorem FSD.fst {x : Int32} {D : Int} {f : Nat → Int} (h : FSD x.toInt D f) (hx : x.toInt ≠ -1) : 0 ≤ x.toInt ∧ x.toInt ≤ D ∧ FST f x.toNatClampNeg D := by
  rcases h with ⟨h1, -⟩ | ⟨x0, xD, nz, zr⟩
  · exact absurd h1 hx
  · have k0 := ncz x0
    exact ⟨x0, xD, by omega, nz, fun k hk => zr k (by omega)⟩
theorem GTD.bk {x D k p : Int} {f : Nat → Int} (h : GTD x D f k) (h0 : 0 ≤ k) (h1 : k ≤ D) (b : ∀ j : Nat, (j : Int) ≤ D → 0 ≤ f j ∧ f j < p) (hp : p ≤ 19) : 0 ≤ x ∧ x ≤ 18 := by
  have e := h.1 h0 h1
  have q := b k.toNat (by omega)
  omega
theorem PmE.z0 {p x : Int} (h : PmE p x 0) (h0 : 0 ≤ x) (h1 : x < p) : x = 0 := h.eq h0 h1 (Int.le_refl 0) (by omega)
/-- there is a quotient; quotient's answer -/
def HQT (p : Int) (f : Nat → Int) (D : Int) (g : Nat → Int) (E : Int) : Prop := ¬ ZRL g (E + 1) ∧ E ≤ D ∧ ∃ q, QTO p q g f D E
def QUA (x p D E k : Int) (f g : Nat → Int) : Prop := (¬ HQT p f D g E → x = -2) ∧ (HQT p f D g E → ∃ q, QTO p q g f D E ∧ DON x (D - E) q k)
theorem CUT.cg {g g' : Nat → Int} {E : Int} (e : ∀ k : Nat, (k : Int) ≤ E → g k = g' k) : CUT g E = CUT g' E := funext fun k => by
  unfold CUT
  by_cases c : (k : Int) ≤ E
  · rw [if_pos c, if_pos c]; exact e k c
  · rw [if_neg c, if_neg c]
theorem QTO.cg {p D E : Int} {q g g' f f' : Nat → Int} (h : QTO p q g f D E) (ef : ∀ k : Nat, (k : Int) ≤ D → f k = f' k) (eg : ∀ k : Nat, (k : Int) ≤ E → g k = g' k) : QTO p q g' f' D E := by
  obtain ⟨h1, h2, h3⟩ := h
  refine ⟨h1, h2, fun k hk => ?_⟩
  rw [← CUT.cg eg, ← ef k hk]; exact h3 k hk
theorem QUA.u {x y p D E k : Int} {f g f' g' : Nat → Int} (h : QUA x p D E k f g) (h2 : QUA y p D E k f' g') (hp : PRM p) (bg : ∀ k : Nat, (k : Int) ≤ E → 0 ≤ g k ∧ g k < p) (ef : ∀ k : Nat, (k : Int) ≤ D → f k = f' k) (eg : ∀ k : Nat, (k : Int) ≤ E → g k = g' k) : x = y := by
  by_cases c : HQT p f D g E
  · obtain ⟨q, q1, q2⟩ := h.2 c
    have c' : HQT p f' D g' E := ⟨fun z => c.1 (z.cg (fun k hk => (eg k (by omega)).symm)), c.2.1, q, q1.cg ef eg⟩
    obtain ⟨q', r1, r2⟩ := h2.2 c'
    obtain ⟨b, hb⟩ := FST.xo c.1
    exact DON.eq' q2 r2 (QTO.u q1 r1 hp hb bg ef eg c.2.1)
  · have c' : ¬ HQT p f' D g' E := fun z => by
      obtain ⟨z1, z2, q, z3⟩ := z
      exact c ⟨fun y9 => z1 (y9.cg (fun k hk => eg k (by omega))), z2, q, z3.cg (fun k hk => (ef k hk).symm) (fun k hk => (eg k hk).symm)⟩
    rw [h.1 c, h2.1 c']
/-- what a side answers: whether there is one, and the row -/
def DVQ (x p : Int) (F : Nat → Int) (D : Int) (G : Nat → Int) (E : Int) (r : Nat → Int) (W : Int) : Prop := (x = 0 → ¬ HQT p F D G E) ∧ (x = 1 → HQT p F D G E ∧ QTO p (CUT r (D - E)) G F D E ∧ W = D - E)
theorem DVQ.s {x p D E W : Int} {F G r : Nat → Int} (h : D < E) (hx : x = 0) : DVQ x p F D G E r W := ⟨fun _ q => by have := q.2.1; omega, fun q => by omega⟩
theorem DVQ.z {x p D E W : Int} {F G r : Nat → Int} (h : ZRL G (E + 1)) (hx : x = 0) : DVQ x p F D G E r W := ⟨fun _ q => q.1 h, fun q => by omega⟩
theorem DVQ.g {x p D E W y : Int} {F G r : Nat → Int} (h : FSD y E G) (hy : y = -1) (hx : x = 0) : DVQ x p F D G E r W := by
  rcases h with ⟨-, z⟩ | ⟨h0, -⟩
  · exact DVQ.z z hx
  · exfalso; omega
theorem DON.cu {x W W' k : Int} {r : Nat → Int} (h : DON x W r k) (e : W = W') : DON x W' (CUT r W') k := by
  subst e
  obtain ⟨h1, h2, h3⟩ := h
  refine ⟨h1, h2, fun a b => ?_⟩
  unfold CUT
  rw [if_pos (by omega)]; exact h3 a b
theorem DVQ.n {x y p D E W k : Int} {F G r : Nat → Int} (h : DVQ y p F D G E r W) (hy : y = 0) (hx : x = -2) : QUA x p D E k F G := ⟨fun _ => hx, fun c => absurd c (h.1 hy)⟩
theorem DVQ.y {x y p D E W k : Int} {F G r : Nat → Int} (h : DVQ y p F D G E r W) (hy : y = 1) (dn : DON x W r k) : QUA x p D E k F G := by
  obtain ⟨c, t, e⟩ := h.2 hy
  exact ⟨fun n => absurd c n, fun _ => ⟨_, t, dn.cu e⟩⟩
theorem DVQ.cg {x p D D' E E' W W' : Int} {F F' G G' r r' : Nat → Int} (h : DVQ x p F D G E r W) (eD : D = D') (eE : E = E') (eW : W = W') (ef : ∀ k : Nat, (k : Int) ≤ D → F k = F' k) (eg : ∀ k : Nat, (k : Int) ≤ E → G k = G' k) (er : r = r') : DVQ x p F' D' G' E' r' W' := by
  subst eD; subst eE; subst eW; subst er
  have hc : HQT p F' D G' E → HQT p F D G E := fun z => by
    obtain ⟨z1, z2, q, z3⟩ := z
    exact ⟨fun y9 => z1 (y9.cg (fun k hk => eg k (by omega))), z2, q, z3.cg (fun k hk => (ef k hk).symm) (fun k hk => (eg k hk).symm)⟩
  refine ⟨fun q z => h.1 q (hc z), fun q => ?_⟩
  obtain ⟨⟨z1, z2, q', z3⟩, t, e⟩ := h.2 q
  exact ⟨⟨fun y9 => z1 (y9.cg (fun k hk => (eg k (by omega)).symm)), z2, q', z3.cg ef eg⟩, t.cg ef eg, e⟩
theorem CUT.lo {G : Nat → Int} {E : Int} {b : Nat} (h : FST G b E) : ∀ k, k < b → CUT G E k = 0 := fun k hk => by
  have h1 := h.1
  unfold CUT; rw [if_pos (by omega)]; exact h.2.2 k hk
theorem UNI.of {G : Nat → Int} {p E : Int} {b : Nat} (h : FST G b E) (hp : PRM p) (bG : ∀ j : Nat, (j : Int) ≤ E → 0 ≤ G j ∧ G j < p) : UNI p (fun i => CUT G E (i + b)) := by
  obtain ⟨e, he⟩ := PRM.un hp h.2.1 (bG b h.1)
  refine ⟨e, ?_⟩
  show PmE p (e * CUT G E (0 + b)) 1
  unfold CUT
  rw [Nat.zero_add, if_pos h.1]; exact he
theorem SUMN.ex {F : Nat → Int} {a b : Nat} (hab : a ≤ b) (h : ∀ i, a ≤ i → i < b → F i = 0) : SUMN F b = SUMN F a := by
  have s := SUMN.sp F a (b - a)
  rw [show a + (b - a) = b from by omega, SUMN.z0 (b - a) (fun i hi => h _ (by omega) (by omega)), Int.add_zero] at s
  exact s
theorem CNV.lo {q g : Nat → Int} {b m : Nat} (hz : ∀ k, k < b → g k = 0) (h : m < b) : CNV q g m = 0 := SUMN.z0 _ (fun i hi => by
  show q i * g (m - i) = 0
  rw [hz _ (by omega), Int.mul_zero])
/-- the class's division: the row so far; what is left on the way -/
def DIVK (J : Nat → Int32) (f gs : Nat → Int) (p k : Int) : Prop := (∀ j : Nat, (j : Int) < k → 0 ≤ (J j).toInt ∧ (J j).toInt < p ∧ PmE p (f j) (CNV (fun i => (J i).toInt) gs j)) ∧ ∀ j : Nat, k ≤ (j : Int) → j < 41 → (J j).toInt = 0
theorem DIVK.z {J : Nat → Int32} {f gs : Nat → Int} {p k : Int} (h : ∀ j : Nat, j < 41 → (J j).toInt = 0) (hk : k = 0) : DIVK J f gs p k := ⟨fun j hj => by omega, fun j _ h4 => h j h4⟩
def RSQ (w : Int) (J : Nat → Int32) (f gs : Nat → Int) (k : Nat) (i : Int) : Prop := w = f k - SUMN (fun j => (J j).toInt * gs (k - j)) i.toNat ∧ -324 * i ≤ w ∧ w ≤ 18
theorem RSQ.z {w n k s : Int32} {D p i : Int} {J : Nat → Int32} {f gs : Nat → Int} (ga : GTD w.toInt D f n.toInt) (en : n.toInt = k.toInt + s.toInt) (h0 : 0 ≤ k.toInt) (hs : 0 ≤ s.toInt) (hD : n.toInt ≤ D) (b : ∀ j : Nat, (j : Int) ≤ D → 0 ≤ f j ∧ f j < p) (hp : p ≤ 19) (hi : i = 0) : RSQ w.toInt J (fun j => f (j + s.toNatClampNeg)) gs k.toNatClampNeg i := by
  have k0 := ncz h0
  have s0 := ncz hs
  have n0 := ncz (x := n) (by omega)
  have e := ga.i (by omega) hD
  have q := b n.toNatClampNeg (by omega)
  subst hi
  refine ⟨?_, by omega, by omega⟩
  show w.toInt = f (k.toNatClampNeg + s.toNatClampNeg) - SUMN _ 0
  rw [show k.toNatClampNeg + s.toNatClampNeg = n.toNatClampNeg from by omega, e]
  show f n.toNatClampNeg = f n.toNatClampNeg - 0
  omega
theorem RSQ.s {J : Nat → Int32} {f G : Nat → Int} {k b : Nat} {w w' m a c i i' n : Int32} {D E : Int} (h : RSQ w.toInt J f (fun j => CUT G E (j + b)) k i.toInt) (ga : GTD a.toInt D (fun j => (J j).toInt) i.toInt) (hD : i.toInt ≤ D) (gc : GTD c.toInt E G n.toInt) (en : n.toInt = (k : Int) - i.toInt + b) (mm : IMX m a c) (sb : SBX w' w m) (bJ : 0 ≤ (J i.toNatClampNeg).toInt ∧ (J i.toNatClampNeg).toInt ≤ 18) (bG : ∀ j : Nat, (j : Int) ≤ E → 0 ≤ G j ∧ G j ≤ 18) (h0 : 0 ≤ i.toInt) (hik : i.toInt < (k : Int)) (h40 : i.toInt ≤ 40) (hi : i'.toInt = i.toInt + 1) : RSQ w'.toInt J f (fun j => CUT G E (j + b)) k i'.toInt := by
  have i0 := ncz h0
  have n0 := ncz (x := n) (by omega)
  have e1 : i'.toInt.toNat = i.toNatClampNeg + 1 := by omega
  have e0 : i.toInt.toNat = i.toNatClampNeg := rfl
  have va : a.toInt = (J i.toNatClampNeg).toInt := ga.i h0 hD
  have vc : c.toInt = CUT G E (k - i.toNatClampNeg + b) := by
    unfold CUT
    by_cases q : n.toInt ≤ E
    · rw [if_pos (by omega), show k - i.toNatClampNeg + b = n.toNatClampNeg from by omega]; exact gc.i (by omega) q
    · rw [if_neg (by omega)]; exact gc.2 (by omega)
  have bc : 0 ≤ c.toInt ∧ c.toInt ≤ 18 := by
    rw [vc]
    unfold CUT
    by_cases q : ((k - i.toNatClampNeg + b : Nat) : Int) ≤ E
    · rw [if_pos q]; exact bG _ q
    · rw [if_neg q]; omega
  obtain ⟨h1, h2, h3⟩ := h
  have b1 : a.toInt * c.toInt ≤ 18 * 18 := Int.mul_le_mul (by omega) bc.2 bc.1 (by decide)
  have b0 : 0 ≤ a.toInt * c.toInt := Int.mul_nonneg (by omega) bc.1
  have em := mm (by omega) (by omega)
  have es := sb (by omega) (by omega)
  rw [e0] at h1
  refine ⟨?_, by omega, by omega⟩
  rw [e1]
  show w'.toInt = f k - (SUMN (fun j => (J j).toInt * CUT G E (k - j + b)) i.toNatClampNeg + (J i.toNatClampNeg).toInt * CUT G E (k - i.toNatClampNeg + b))
  rw [← va, ← vc]
  have h1 : w.toInt = f k - SUMN (fun j => (J j).toInt * CUT G E (k - j + b)) i.toNatClampNeg := h1
  omega
theorem RSQ.fin {w i : Int} {J : Nat → Int32} {f gs : Nat → Int} {k : Nat} (h : RSQ w J f gs k i) (hi : i = (k : Int)) (h40 : i ≤ 41) : w = f k - SUMN (fun j => (J j).toInt * gs (k - j)) k ∧ -20000 ≤ w ∧ w ≤ 20000 := by
  obtain ⟨h1, h2, h3⟩ := h
  rw [show i.toNat = k from by omega] at h1
  exact ⟨h1, by omega, by omega⟩
theorem DIVK.s {I1 I2 : IT} {r : Nat} {f gs : Nat → Int} {p : Int} {k k' w o v : Int32} {a b l : Int64} (h : DIVK (I1 r) f gs p k.toInt) (rs : w.toInt = f k.toNatClampNeg - SUMN (fun j => (I1 r j).toInt * gs (k.toNatClampNeg - j)) k.toNatClampNeg ∧ -20000 ≤ w.toInt ∧ w.toInt ≤ 20000) (ob : 0 ≤ o.toInt ∧ o.toInt ≤ 18) (mm : LMX l a b) (ha : a.toInt = w.toInt) (hb : b.toInt = o.toInt) (hv : v.toInt = l.toInt % p) (st : STD I1 I2 r k v) (ho : PmE p (o.toInt * gs 0) 1) (h0 : 0 ≤ k.toInt) (h41 : k.toInt < 41) (hp : 0 < p) (hk : k'.toInt = k.toInt + 1) : DIVK (I2 r) f gs p k'.toInt := by
  have k0 := ncz h0
  have e2 := st.1 h0 h41
  obtain ⟨rs, wl, wh⟩ := rs
  have nn := Int.mul_nonneg (show 0 ≤ w.toInt + 20000 by omega) ob.1
  have nl : (w.toInt + 20000) * o.toInt ≤ 40000 * 18 := Int.mul_le_mul (by omega) ob.2 ob.1 (by decide)
  have ex : (w.toInt + 20000) * o.toInt = w.toInt * o.toInt + 20000 * o.toInt := Int.add_mul ..
  have em : l.toInt = w.toInt * o.toInt := by
    have q := mm (by rw [ha, hb]; omega) (by rw [ha, hb]; omega)
    rwa [ha, hb] at q
  have J2k : ∀ j : Nat, j ≠ k.toNatClampNeg → I2 r j = I1 r j := fun j q => by rw [e2, u2_k q]
  have J2e : I2 r k.toNatClampNeg = v := by rw [e2]; exact u2_s
  refine ⟨fun j hj => ?_, fun j hj h4 => ?_⟩
  · by_cases q : j = k.toNatClampNeg
    · subst q
      have s : CNV (fun i => (I2 r i).toInt) gs k.toNatClampNeg = SUMN (fun j => (I1 r j).toInt * gs (k.toNatClampNeg - j)) k.toNatClampNeg + v.toInt * gs 0 := by
        show SUMN (fun i => (I2 r i).toInt * gs (k.toNatClampNeg - i)) k.toNatClampNeg + (I2 r k.toNatClampNeg).toInt * gs (k.toNatClampNeg - k.toNatClampNeg) = _
        rw [J2e, Nat.sub_self]
        exact congrArg (· + v.toInt * gs 0) (SUMN.cg _ (fun i hi => by
          show (I2 r i).toInt * _ = (I1 r i).toInt * _
          rw [J2k i (by omega)]))
      rw [s, J2e]
      have q1 : PmE p (v.toInt * gs 0) w.toInt := by
        rw [hv, em]
        have a1 := (PmE.em (p := p) (w.toInt * o.toInt)).ml (PmE.rf (x := gs 0))
        rw [show w.toInt * o.toInt * gs 0 = w.toInt * (o.toInt * gs 0) from Int.mul_assoc ..] at a1
        have a2 := a1.tr (PmE.rf.ml ho)
        rwa [Int.mul_one] at a2
      have q2 := (PmE.rf (p := p) (x := SUMN (fun j => (I1 r j).toInt * gs (k.toNatClampNeg - j)) k.toNatClampNeg)).ad q1
      have q3 : SUMN (fun j => (I1 r j).toInt * gs (k.toNatClampNeg - j)) k.toNatClampNeg + w.toInt = f k.toNatClampNeg := by omega
      rw [q3] at q2
      exact ⟨by rw [hv]; exact Int.emod_nonneg _ (by omega), by rw [hv]; exact Int.emod_lt_of_pos _ hp, q2.sy⟩
    · rw [J2k j q]
      obtain ⟨a1, a2, a3⟩ := h.1 j (by omega)
      refine ⟨a1, a2, ?_⟩
      have s : CNV (fun i => (I2 r i).toInt) gs j = CNV (fun i => (I1 r i).toInt) gs j := SUMN.cg _ (fun i hi => by
        show (I2 r i).toInt * _ = (I1 r i).toInt * _
        rw [J2k i (by omega)])
      rw [s]; exact a3
  · rw [J2k j (by omega)]; exact h.2 j (by omega) h4
theorem DIVK.o {o n s : Int32} {p E : Int} {g : Nat → Int} (h : INC o.toInt n.toInt p) (ga : GTD n.toInt E g s.toInt) (f : FST g s.toNatClampNeg E) (h0 : 0 ≤ s.toInt) (bg : ∀ j : Nat, (j : Int) ≤ E → 0 ≤ g j ∧ g j < p) (hp : 1 < p) : PmE p (o.toInt * CUT g E (0 + s.toNatClampNeg)) 1 := by
  have s0 := ncz h0
  have f1 := f.1
  have e : n.toInt = g s.toNatClampNeg := ga.i h0 (by omega)
  have b := bg s.toNatClampNeg f1
  have nz := f.2.1
  have q := h.2 (by omega) (by omega) (by omega)
  rw [Nat.zero_add]
  unfold CUT
  rw [if_pos f1, ← e, Int.mul_comm]
  show _ % p = 1 % p
  rw [q, Int.emod_eq_of_lt (by decide) hp]
theorem DIVK.b {J : Nat → Int32} {f gs : Nat → Int} {p k : Int} {i : Int32} (h : DIVK J f gs p k) (h0 : 0 ≤ i.toInt) (hi : i.toInt < k) (hp : p ≤ 19) : 0 ≤ (J i.toNatClampNeg).toInt ∧ (J i.toNatClampNeg).toInt ≤ 18 := by
  have i0 := ncz h0
  have q := h.1 i.toNatClampNeg (by omega)
  omega
theorem DIVK.bn {I : IT} {r : Nat} {f gs : Nat → Int} {p k D : Int} (h : DIVK (I r) f gs p k) (hk : D < k) : BNX I r D p := fun j hj => by
  have q := h.1 j (by omega)
  exact ⟨q.1, q.2.1⟩
theorem CVS.sn (f g : Nat → Int) (E : Int) (m : Nat) : ∀ n, CVS f g E n m = SUMN (fun i => f i * CVI g i (E + 1) m) n
  | 0 => rfl
  | n + 1 => by
    show CVS f g E n m + f n * CVI g n (E + 1) m = SUMN (fun i => f i * CVI g i (E + 1) m) n + f n * CVI g n (E + 1) m
    rw [CVS.sn f g E m n]
theorem CVS.cn {f g : Nat → Int} {W E : Int} {n m : Nat} (hn : (n : Int) = W + 1) : CVS f g E n m = CNV (CUT f W) (CUT g E) m := by
  have z1 : SUMN (fun i => CUT f W i * CVI g i (E + 1) m) (n + (m + 1)) = SUMN (fun i => CUT f W i * CVI g i (E + 1) m) n := SUMN.ex (by omega) (fun i h1 h2 => by
    show CUT f W i * _ = 0
    unfold CUT; rw [if_neg (by omega), Int.zero_mul])
  have z2 : SUMN (fun i => CUT f W i * CVI g i (E + 1) m) (n + (m + 1)) = SUMN (fun i => CUT f W i * CVI g i (E + 1) m) (m + 1) := SUMN.ex (by omega) (fun i h1 h2 => by
    show _ * CVI g i (E + 1) m = 0
    unfold CVI; rw [if_neg (by omega), Int.mul_zero])
  have a : SUMN (fun i => f i * CVI g i (E + 1) m) n = SUMN (fun i => CUT f W i * CVI g i (E + 1) m) n := SUMN.cg n (fun i hi => by
    show f i * _ = CUT f W i * _
    unfold CUT; rw [if_pos (by omega)])
  have b : CNV (CUT f W) (CUT g E) m = SUMN (fun i => CUT f W i * CVI g i (E + 1) m) (m + 1) := SUMN.cg (m + 1) (fun i hi => by
    have e : CUT g E (m - i) = CVI g i (E + 1) m := by
      unfold CUT CVI
      by_cases c : ((m - i : Nat) : Int) ≤ E
      · rw [if_pos c, if_pos ⟨by omega, by omega⟩]
      · rw [if_neg c, if_neg (by omega)]
    show _ * CUT g E (m - i) = _ * CVI g i (E + 1) m
    rw [e])
  rw [CVS.sn, a, b, ← z1, z2]
theorem QTO.yes {p D E : Int} {F G J M : Nat → Int} {n : Nat} (bJ : ∀ i : Nat, (i : Int) ≤ D - E → 0 ≤ J i ∧ J i < p) (hn : (n : Int) = D - E + 1) (v : ∀ j : Nat, (j : Int) ≤ D → PmE p (M j) (CVS J G E n j)) (e : ∀ j : Nat, (j : Int) ≤ D → M j = F j) : QTO p (CUT J (D - E)) G F D E := by
  refine ⟨fun i hi => by unfold CUT; rw [if_neg (by omega)], fun i hi => by unfold CUT; rw [if_pos hi]; exact bJ i hi, fun k hk => ?_⟩
  have q := v k hk
  rw [CVS.cn (W := D - E) hn, e k hk] at q
  exact q
theorem QTO.fin {p D E k : Int} {F G q : Nat → Int} {J : Nat → Int32} {b : Nat} (h : QTO p q G F D E) (d : DIVK J (fun j => F (j + b)) (fun j => CUT G E (j + b)) p k) (hk : D - E < k) (hb : FST G b E) (hE : E ≤ D) (bG : ∀ j : Nat, (j : Int) ≤ E → 0 ≤ G j ∧ G j < p) (hp : PRM p) : ∀ i : Nat, (i : Int) ≤ D - E → q i = (J i).toInt := by
  obtain ⟨h1, h2, h3⟩ := h
  have b1 := hb.1
  have z := CNV.u0 (q := fun i => 1 * q i + (-1) * (J i).toInt) (UNI.of hb hp bG) ((D - E).toNat + 1) (fun j hj => by
    have li : CNV (fun i => 1 * q i + (-1) * (J i).toInt) (fun i => CUT G E (i + b)) j = 1 * CNV q (fun i => CUT G E (i + b)) j + -1 * CNV (fun i => (J i).toInt) (fun i => CUT G E (i + b)) j := CNV.li 1 (-1) _ _ _ _
    have a := h3 (j + b) (by omega)
    rw [CNV.fb (CUT.lo hb)] at a
    have c : PmE p (F (j + b)) (CNV (fun i => (J i).toInt) (fun i => CUT G E (i + b)) j) := (d.1 j (by omega)).2.2
    have s := PmE.sbt a.sy c.sy
    rw [Int.sub_self] at s
    rw [li, show 1 * CNV q (fun i => CUT G E (i + b)) j + -1 * CNV (fun i => (J i).toInt) (fun i => CUT G E (i + b)) j = CNV q (fun i => CUT G E (i + b)) j - CNV (fun i => (J i).toInt) (fun i => CUT G E (i + b)) j from by omega]
    exact s)
  intro i hi
  have a : PmE p (1 * q i + (-1) * (J i).toInt) 0 := z i (by omega)
  have c := a.ad (PmE.rf (x := (J i).toInt))
  rw [show 1 * q i + -1 * (J i).toInt + (J i).toInt = q i from by omega, Int.zero_add] at c
  have d2 := d.1 i (by omega)
  exact c.eq (h2 i hi).1 (h2 i hi).2 d2.1 d2.2.1
theorem DVQ.e {x p D E k W : Int} {n : Nat} {F G M : Nat → Int} {J : Nat → Int32} {b : Nat} (d : DIVK J (fun j => F (j + b)) (fun j => CUT G E (j + b)) p k) (hk : D - E < k) (hb : FST G b E) (hE : E ≤ D) (bG : ∀ j : Nat, (j : Int) ≤ E → 0 ≤ G j ∧ G j < p) (bF : ∀ j : Nat, (j : Int) ≤ D → 0 ≤ F j ∧ F j < p) (hp : PRM p) (hn : (n : Int) = D - E + 1) (v : ∀ j : Nat, (j : Int) ≤ D → 0 ≤ M j ∧ M j < p ∧ PmE p (M j) (CVS (fun i => (J i).toInt) G E n j)) (m1 : x = 1 → ∀ j : Nat, (j : Int) ≤ D → M j = F j) (m0 : x = 0 → ¬ ∀ j : Nat, (j : Int) ≤ D → M j = F j) (hW : x = 1 → W = D - E) : DVQ x p F D G E (fun i => (J i).toInt) W := by
  have bJ : ∀ i : Nat, (i : Int) ≤ D - E → 0 ≤ (J i).toInt ∧ (J i).toInt < p := fun i hi => ⟨(d.1 i (by omega)).1, (d.1 i (by omega)).2.1⟩
  refine ⟨fun hx c => ?_, fun hx => ?_⟩
  · obtain ⟨-, -, q, hq⟩ := c
    have e := hq.fin d hk hb hE bG hp
    refine m0 hx (fun j hj => ?_)
    have eq : CNV q (CUT G E) j = CNV (CUT (fun i => (J i).toInt) (D - E)) (CUT G E) j := SUMN.cg _ (fun i _ => by
      have t : q i = CUT (fun i => (J i).toInt) (D - E) i := by
        by_cases c : (i : Int) ≤ D - E
        · rw [e i c]; unfold CUT; rw [if_pos c]
        · rw [hq.1 i (by omega)]; unfold CUT; rw [if_neg c]
      show q i * _ = CUT (fun i => (J i).toInt) (D - E) i * _
      rw [t])
    have a := hq.2.2 j hj
    rw [eq, ← CVS.cn (W := D - E) hn] at a
    have v9 := v j hj
    exact (v9.2.2.tr a.sy).eq v9.1 v9.2.1 (bF j hj).1 (bF j hj).2
  · have t := QTO.yes (M := M) bJ hn (fun j hj => (v j hj).2.2) (m1 hx)
    exact ⟨⟨fun z => hb.2.1 (z b (by have h9 := hb.1; omega)), hE, _, t⟩, t, hW hx⟩
theorem FEQ.al {R : RT} {I : IT} {f g : Nat} {D : Int} {M F : Nat → Int} (hd : (I f 0).toInt = D) (hd2 : (I g 0).toInt = D) (eL : ∀ j : Nat, (j : Int) ≤ D → (I (rA R f 1) j).toInt = M j) (eF : ∀ j : Nat, (j : Int) ≤ D → (I (rA R g 1) j).toInt = F j) : FEQ R I f I g ↔ ∀ j : Nat, (j : Int) ≤ D → M j = F j := ⟨fun h j hj => by rw [← eL j hj, ← eF j hj]; exact h.2 j (by rw [hd2]; exact hj), fun h => ⟨by rw [hd, hd2], fun k hk => by
  rw [hd2] at hk
  rw [eL k hk, eF k hk]; exact h k hk⟩⟩
theorem s_X0_multiplyInto_x {d : Nat} {T N : Nat → Nat} {I : IT} {L : LT} {R : RT} {A B : Nat → Prop} {r0 r1 r2 r3 : Nat} (hS : SUB B A) (hI : IX A T I) (H_r0 : (hs_Al T N R A B) r0) (H_r1 : (hs_F T N R A B) r1) (H_r2 : (hs_F T N R A B) r2) (H_r3 : (hs_F T N R A B) r3) (hU : UPR T R) (hp0 : NQ9 r1 r3) (hp1 : NQ9 r2 r3) (hp2 : BNX I (rA R r1 1) (I r1 0).toInt (I (rA R r0 0) 0).toInt) (hp3 : BNX I (rA R r2 1) (I r2 0).toInt (I (rA R r0 0) 0).toInt) : Ex (d + 3) 20 [.ref r0, .ref r1, .ref r2, .ref r3] (T, N, I, L, R) 0 0 (pI T N R (fun x9 I9 L9 => (0 ≤ x9.toInt) ∧ (x9.toInt ≤ 1) ∧ (x9.toInt = 0 → 40 < (I r1 0).toInt + (I r2 0).toInt) ∧ (x9.toInt = 1 → (I r1 0).toInt + (I r2 0).toInt ≤ 40) ∧ (x9.toInt = 1 → (I9 r3 0).toInt = (I r1 0).toInt + (I r2 0).toInt) ∧ (x9.toInt = 1 → VRX I9 (rA R r3 1) (I (rA R r0 0) 0).toInt ((I r1 0).toInt + (I r2 0).toInt) (CVS (NF I (rA R r1 1)) (NF I (rA R r2 1)) (I r2 0).toInt ((I r1 0).toInt + 1).toNat)) ∧ (IX A T I9 ∧ Chg (SL [r3, (rA R r3 1)]) T [(3, 0)] I L I9 L9))) := by
  refine ⟨_, rfl, Nat.le_of_ble_eq_true rfl, fun V C S => ?_⟩
  show V 0 [(0, .ref r0), (1, .ref r1), (2, .ref r2), (3, .ref r3)] [] (T, N, I, L, R) 0 0
  obtain ⟨T_r0, A_r0, B_r0, ⟨r0_0, R_r0_0, H_r0_0⟩, ⟨r0_1, R_r0_1, H_r0_1⟩, ⟨r0_2, R_r0_2, H_r0_2⟩⟩ := id H_r0
  have z_r0_0 : rA R r0 0 = r0_0 := rA_e R_r0_0
  have z_r0_1 : rA R r0 1 = r0_1 := rA_e R_r0_1
  have z_r0_2 : rA R r0 2 = r0_2 := rA_e R_r0_2
  obtain ⟨T_r1, A_r1, ⟨r1_1, R_r1_1, H_r1_1⟩⟩ := id H_r1
  have z_r1_1 : rA R r1 1 = r1_1 := rA_e R_r1_1
  obtain ⟨T_r2, A_r2, ⟨r2_1, R_r2_1, H_r2_1⟩⟩ := id H_r2
  have z_r2_1 : rA R r2 1 = r2_1 := rA_e R_r2_1
  obtain ⟨T_r3, A_r3, ⟨r3_1, R_r3_1, H_r3_1⟩⟩ := id H_r3
  have z_r3_1 : rA R r3 1 = r3_1 := rA_e R_r3_1
  obtain ⟨T_r0_0, A_r0_0, B_r0_0, ⟨r0_0_6, R_r0_0_6, H_r0_0_6⟩, ⟨r0_0_7, R_r0_0_7, H_r0_0_7⟩, ⟨r0_0_8, R_r0_0_8, H_r0_0_8⟩, ⟨r0_0_9, R_r0_0_9, H_r0_0_9⟩, ⟨r0_0_10, R_r0_0_10, H_r0_0_10⟩⟩ := id H_r0_0
  have z_r0_0_6 : rA R r0_0 6 = r0_0_6 := rA_e R_r0_0_6
  have z_r0_0_7 : rA R r0_0 7 = r0_0_7 := rA_e R_r0_0_7
  have z_r0_0_8 : rA R r0_0 8 = r0_0_8 := rA_e R_r0_0_8
  have z_r0_0_9 : rA R r0_0 9 = r0_0_9 := rA_e R_r0_0_9
  have z_r0_0_10 : rA R r0_0 10 = r0_0_10 := rA_e R_r0_0_10
  obtain ⟨T_r1_1, N_r1_1, A_r1_1⟩ := id H_r1_1
  obtain ⟨T_r2_1, N_r2_1, A_r2_1⟩ := id H_r2_1
  obtain ⟨T_r3_1, N_r3_1, A_r3_1⟩ := id H_r3_1
  try simp only [z_r0_0, z_r0_1, z_r0_2, z_r1_1, z_r2_1, z_r3_1, z_r0_0_6, z_r0_0_7, z_r0_0_8, z_r0_0_9, z_r0_0_10] at hp0
  try simp only [z_r0_0, z_r0_1, z_r0_2, z_r1_1, z_r2_1, z_r3_1, z_r0_0_6, z_r0_0_7, z_r0_0_8, z_r0_0_9, z_r0_0_10] at hp1
  try simp only [z_r0_0, z_r0_1, z_r0_2, z_r1_1, z_r2_1, z_r3_1, z_r0_0_6, z_r0_0_7, z_r0_0_8, z_r0_0_9, z_r0_0_10] at hp2
  try simp only [z_r0_0, z_r0_1, z_r0_2, z_r1_1, z_r2_1, z_r3_1, z_r0_0_6, z_r0_0_7, z_r0_0_8, z_r0_0_9, z_r0_0_10] at hp3
  obtain ⟨w_r1_0, k0_r1_0⟩ : ∃ x, I r1 0 = x := ⟨_, rfl⟩
  have gw_r1_0 := rg w_r1_0
  have ow_r1_0 := IX.deg hI A_r1 T_r1 k0_r1_0
  obtain ⟨w_r2_0, k0_r2_0⟩ : ∃ x, I r2 0 = x := ⟨_, rfl⟩
  have gw_r2_0 := rg w_r2_0
  have ow_r2_0 := IX.deg hI A_r2 T_r2 k0_r2_0
  obtain ⟨w_r0_0_0, k0_r0_0_0⟩ : ∃ x, I r0_0 0 = x := ⟨_, rfl⟩
  have gw_r0_0_0 := rg w_r0_0_0
  have ow_r0_0_0 := IX.p hI A_r0_0 T_r0_0 k0_r0_0_0
  try simp only [k0_r1_0, k0_r2_0, k0_r0_0_0] at hp0
  try simp only [k0_r1_0, k0_r2_0, k0_r0_0_0] at hp1
  try simp only [k0_r1_0, k0_r2_0, k0_r0_0_0] at hp2
  try simp only [k0_r1_0, k0_r2_0, k0_r0_0_0] at hp3
  have nb1 : NQ9 r1_1 r3_1 := hU.ne (Or.inr (Or.inr (Or.inr (by omega)))) R_r1_1 R_r3_1 (Or.inl hp0)
  have nb2 : NQ9 r2_1 r3_1 := hU.ne (Or.inr (Or.inr (Or.inr (by omega)))) R_r2_1 R_r3_1 (Or.inl hp1)
  try simp only [k0_r1_0, k0_r0_0_0] at hp2
  try simp only [k0_r2_0, k0_r0_0_0] at hp3
  refine k_aload_n C rfl rfl rfl ?_
  refine g_I C rfl rfl rfl T_r1 rfl k0_r1_0 ?_
  refine k_aload_n C rfl rfl rfl ?_
  refine g_I C rfl rfl rfl T_r2 rfl k0_r2_0 ?_
  refine z_iadd C rfl rfl ⟨by omega, by omega⟩ (fun x1 ex1 => ?_)
  refine z_bipush C (z := 40) rfl rfl rfl (fun x2 ex2 => ?_)
  refine b_icmp_le C (t := 16) rfl rfl rfl (fun c3 => ?_) (fun c3 => ?_)
  · skip
    refine k_aload_n C rfl rfl rfl ?_
    refine k_aload_n C rfl rfl rfl ?_
    refine g_I C rfl rfl rfl T_r1 rfl k0_r1_0 ?_
    refine k_aload_n C rfl rfl rfl ?_
    refine g_I C rfl rfl rfl T_r2 rfl k0_r2_0 ?_
    refine z_iadd C rfl rfl ⟨by omega, by omega⟩ (fun x4 ex4 => ?_)
    refine c_VV C (s_X2_begin_x hS hI H_r3) rfl rfl rfl rfl rfl ⟨_, rfl, rfl, T_r3, Nat.le_of_ble_eq_true rfl⟩ rfl rfl (Nat.le_of_ble_eq_true rfl) (Nat.le_of_ble_eq_true rfl) (Nat.le_of_ble_eq_true rfl) ?_
    rintro I6 L7 ⟨p0v5, p1v5, hI6, S8⟩
    try simp only [z_r0_0, z_r0_1, z_r0_2, z_r1_1, z_r2_1, z_r3_1, z_r0_0_6, z_r0_0_7, z_r0_0_8, z_r0_0_9, z_r0_0_10] at S8
    have e9 := (congrFun (Chg.at S8 (nm_2 (by first | exact hp0 | exact fun e => hp0 e.symm) (t_nq T_r1 T_r3_1 (by decide)))) 0).trans k0_r1_0
    have e10 := (congrFun (Chg.at S8 (nm_2 (by first | exact hp1 | exact fun e => hp1 e.symm) (t_nq T_r2 T_r3_1 (by decide)))) 0).trans k0_r2_0
    have e11 := Chg.k S8 T_r0_0 (by decide) (by decide) k0_r0_0_0
    obtain ⟨x12, e13⟩ : ∃ x, I6 r3 0 = x := ⟨_, rfl⟩
    have gx12 := rg x12
    have ox12 := IX.deg hI6 A_r3 T_r3 e13
    try simp only [z_r0_0, z_r0_1, z_r0_2, z_r1_1, z_r2_1, z_r3_1, z_r0_0_6, z_r0_0_7, z_r0_0_8, z_r0_0_9, z_r0_0_10] at p0v5
    try simp only [z_r0_0, z_r0_1, z_r0_2, z_r1_1, z_r2_1, z_r3_1, z_r0_0_6, z_r0_0_7, z_r0_0_8, z_r0_0_9, z_r0_0_10] at p1v5
    try simp only [k0_r1_0, k0_r2_0, k0_r0_0_0, e13] at p0v5
    try have q0v5 := congrArg Int32.toInt p0v5
    try simp only [k0_r1_0, k0_r2_0, k0_r0_0_0, e13] at p1v5
    try have q1v5 := congrArg Int32.toInt p1v5
    have hbg := p0v5.2.2 (by omega) (by omega); (try rw [e13] at hbg); have hbz := p1v5
    refine k_aload_n C rfl rfl rfl ?_
    refine k_aload_n C rfl rfl rfl ?_
    refine k_aload_n C rfl rfl rfl ?_
    refine z_iconst C (z := 1) rfl rfl rfl (fun x14 ex14 => ?_)
    refine k_aload_n C rfl rfl rfl ?_
    have hk1 := e9; have hk2 := e10; have hk3 := e13; have hkp := e11; have hq1 := (Chg.at ((Chg.mono (Chg.up S8 (List.forall_mem_cons.mpr ⟨List.mem_of_getElem? (i := 0) rfl, List.forall_mem_cons.mpr ⟨List.mem_of_getElem? (i := 1) rfl, fun _ h => nomatch h⟩⟩)) (by decide)) : Chg (SL [r3, r3_1]) T [(3, 0)] I L I6 L7) (nm_2 (t_nq T_r1_1 T_r3 (by decide)) (by first | exact nb1 | exact fun e => nb1 e.symm))); have hq2 := (Chg.at ((Chg.mono (Chg.up S8 (List.forall_mem_cons.mpr ⟨List.mem_of_getElem? (i := 0) rfl, List.forall_mem_cons.mpr ⟨List.mem_of_getElem? (i := 1) rfl, fun _ h => nomatch h⟩⟩)) (by decide)) : Chg (SL [r3, r3_1]) T [(3, 0)] I L I6 L7) (nm_2 (t_nq T_r2_1 T_r3 (by decide)) (by first | exact nb2 | exact fun e => nb2 e.symm)))
    refine c_VV C (s_X0_addProduct_x hS hI6 H_r0 H_r1 H_r2 (by omega) (by omega) H_r3 hU hp0 hp1 (by rw [e9, e10, e13]; omega) (by rw [z_r1_1, z_r0_0, e9, e11]; exact BNX.c hp2 (Chg.at ((Chg.mono (Chg.up S8 (List.forall_mem_cons.mpr ⟨List.mem_of_getElem? (i := 0) rfl, List.forall_mem_cons.mpr ⟨List.mem_of_getElem? (i := 1) rfl, fun _ h => nomatch h⟩⟩)) (by decide)) : Chg (SL [r3, r3_1]) T [(3, 0)] I L I6 L7) (nm_2 (t_nq T_r1_1 T_r3 (by decide)) (by first | exact nb1 | exact fun e => nb1 e.symm))) (by omega)) (by rw [z_r2_1, z_r0_0, e10, e11]; exact BNX.c hp3 (Chg.at ((Chg.mono (Chg.up S8 (List.forall_mem_cons.mpr ⟨List.mem_of_getElem? (i := 0) rfl, List.forall_mem_cons.mpr ⟨List.mem_of_getElem? (i := 1) rfl, fun _ h => nomatch h⟩⟩)) (by decide)) : Chg (SL [r3, r3_1]) T [(3, 0)] I L I6 L7) (nm_2 (t_nq T_r2_1 T_r3 (by decide)) (by first | exact nb2 | exact fun e => nb2 e.symm))) (by omega)) (by rw [z_r3_1, z_r0_0, e13, e11]; exact fun j hj => by rw [hbz j (by omega)]; omega)) rfl rfl rfl rfl rfl ⟨_, rfl, rfl, T_r0, Nat.le_of_ble_eq_true rfl⟩ rfl rfl (Nat.le_of_ble_eq_true rfl) (Nat.le_of_ble_eq_true rfl) (Nat.le_of_ble_eq_true rfl) ?_
    rintro I16 L17 ⟨p0v15, hI16, S18⟩
    try simp only [z_r0_0, z_r0_1, z_r0_2, z_r1_1, z_r2_1, z_r3_1, z_r0_0_6, z_r0_0_7, z_r0_0_8, z_r0_0_9, z_r0_0_10] at S18
    have e19 := Chg.k S18 T_r1 (by decide) (by decide) e9
    have e20 := Chg.k S18 T_r2 (by decide) (by decide) e10
    have e21 := Chg.k S18 T_r0_0 (by decide) (by decide) e11
    have e22 := Chg.k S18 T_r3 (by decide) (by decide) e13
    try simp only [z_r0_0, z_r0_1, z_r0_2, z_r1_1, z_r2_1, z_r3_1, z_r0_0_6, z_r0_0_7, z_r0_0_8, z_r0_0_9, z_r0_0_10] at p0v15
    try simp only [e9, e10, e11, e13] at p0v15
    try have q0v15 := congrArg Int32.toInt p0v15
    have hap := p0v15; (try simp only [hk1, hk2, hk3, hkp] at hap)
    refine z_iconst C (z := 1) rfl rfl rfl (fun x23 ex23 => ?_)
    exact k_iret C rfl (Or.inr ⟨rfl, z01 (by omega) (by omega)⟩) (Nat.le_of_ble_eq_true rfl) (Nat.le_of_ble_eq_true rfl) ⟨_, _, _, rfl, rfl, by omega, by omega, by (try simp only [z_r0_0, z_r0_1, z_r0_2, z_r1_1, z_r2_1, z_r3_1, z_r0_0_6, z_r0_0_7, z_r0_0_8, z_r0_0_9, z_r0_0_10]); intro h; exfalso; omega, by (try simp only [z_r0_0, z_r0_1, z_r0_2, z_r1_1, z_r2_1, z_r3_1, z_r0_0_6, z_r0_0_7, z_r0_0_8, z_r0_0_9, z_r0_0_10]); simp only [k0_r1_0, k0_r2_0]; intro _; omega, by (try simp only [z_r0_0, z_r0_1, z_r0_2, z_r1_1, z_r2_1, z_r3_1, z_r0_0_6, z_r0_0_7, z_r0_0_8, z_r0_0_9, z_r0_0_10]); intro _; rw [e22]; simp only [k0_r1_0, k0_r2_0]; omega, by (try simp only [z_r0_0, z_r0_1, z_r0_2, z_r1_1, z_r2_1, z_r3_1, z_r0_0_6, z_r0_0_7, z_r0_0_8, z_r0_0_9, z_r0_0_10]); intro _; simp only [k0_r1_0, k0_r2_0, k0_r0_0_0]; exact VRX.z1 hap (by omega) hbz hq1 hq2 (by omega) (by omega) rfl rfl, hI16, (by (try simp only [z_r0_0, z_r0_1, z_r0_2, z_r1_1, z_r2_1, z_r3_1, z_r0_0_6, z_r0_0_7, z_r0_0_8, z_r0_0_9, z_r0_0_10]); exact (Chg.cons (Chg.up S8 (List.forall_mem_cons.mpr ⟨List.mem_of_getElem? (i := 0) rfl, List.forall_mem_cons.mpr ⟨List.mem_of_getElem? (i := 1) rfl, fun _ h => nomatch h⟩⟩)) (Chg.mono (Chg.up S18 (List.forall_mem_cons.mpr ⟨List.mem_of_getElem? (i := 1) rfl, fun _ h => nomatch h⟩)) (by decide)) (by decide)))⟩
  refine z_iconst C (z := 0) rfl rfl rfl (fun x24 ex24 => ?_)
  exact k_iret C rfl (Or.inr ⟨rfl, z01 (by omega) (by omega)⟩) (Nat.le_of_ble_eq_true rfl) (Nat.le_of_ble_eq_true rfl) ⟨_, _, _, rfl, rfl, by omega, by omega, by (try simp only [z_r0_0, z_r0_1, z_r0_2, z_r1_1, z_r2_1, z_r3_1, z_r0_0_6, z_r0_0_7, z_r0_0_8, z_r0_0_9, z_r0_0_10]); simp only [k0_r1_0, k0_r2_0]; intro _; omega, by (try simp only [z_r0_0, z_r0_1, z_r0_2, z_r1_1, z_r2_1, z_r3_1, z_r0_0_6, z_r0_0_7, z_r0_0_8, z_r0_0_9, z_r0_0_10]); intro h; exfalso; omega, by (try simp only [z_r0_0, z_r0_1, z_r0_2, z_r1_1, z_r2_1, z_r3_1, z_r0_0_6, z_r0_0_7, z_r0_0_8, z_r0_0_9, z_r0_0_10]); intro h; exfalso; omega, by (try simp only [z_r0_0, z_r0_1, z_r0_2, z_r1_1, z_r2_1, z_r3_1, z_r0_0_6, z_r0_0_7, z_r0_0_8, z_r0_0_9, z_r0_0_10]); intro h; exfalso; omega, hI, (by (try simp only [z_r0_0, z_r0_1, z_r0_2, z_r1_1, z_r2_1, z_r3_1, z_r0_0_6, z_r0_0_7, z_r0_0_8, z_r0_0_9, z_r0_0_10]); exact Chg.rf)⟩

theorem s_X0_divideInto_x {d : Nat} {T N : Nat → Nat} {I : IT} {L : LT} {R : RT} {A B : Nat → Prop} {r0 r1 r2 r3 : Nat} (hS : SUB B A) (hI : IX A T I) (H_r0 : (hs_Al T N R A B) r0) (H_r1 : (hs_F T N R A B) r1) (H_r2 : (hs_F T N R A B) r2) (H_r3 : (hs_F T N R A B) r3) (hU : UPR T R) (hp0 : NQ9 r1 r3) (hp1 : NQ9 r2 r3) (hp2 : NQ9 r1 (rA R r0 1)) (hp3 : NQ9 r2 (rA R r0 1)) (hp4 : NQ9 r3 (rA R r0 1)) (hp5 : BNX I (rA R r1 1) (I r1 0).toInt (I (rA R r0 0) 0).toInt) (hp6 : BNX I (rA R r2 1) (I r2 0).toInt (I (rA R r0 0) 0).toInt) (hp7 : (I r1 0).toInt ≤ 20) (hp8 : (I r2 0).toInt ≤ 20) (hp9 : PRM (I (rA R r0 0) 0).toInt) : Ex (d + 4) 28 [.ref r0, .ref r1, .ref r2, .ref r3] (T, N, I, L, R) 0 0 (pI T N R (fun x9 I9 L9 => (0 ≤ x9.toInt) ∧ (x9.toInt ≤ 1) ∧ (DVQ x9.toInt (I (rA R r0 0) 0).toInt (NF I (rA R r1 1)) (I r1 0).toInt (NF I (rA R r2 1)) (I r2 0).toInt (NF I9 (rA R r3 1)) (I9 r3 0).toInt) ∧ (IX A T I9 ∧ Chg (SL [r3, (rA R r3 1), (rA R r0 1), (rA R (rA R r0 1) 1)]) T [(3, 0)] I L I9 L9))) := by
  refine ⟨_, rfl, Nat.le_of_ble_eq_true rfl, fun V C S => ?_⟩
  show V 0 [(0, .ref r0), (1, .ref r1), (2, .ref r2), (3, .ref r3)] [] (T, N, I, L, R) 0 0
  obtain ⟨T_r0, A_r0, B_r0, ⟨r0_0, R_r0_0, H_r0_0⟩, ⟨r0_1, R_r0_1, H_r0_1⟩, ⟨r0_2, R_r0_2, H_r0_2⟩⟩ := id H_r0
  have z_r0_0 : rA R r0 0 = r0_0 := rA_e R_r0_0
  have z_r0_1 : rA R r0 1 = r0_1 := rA_e R_r0_1
  have z_r0_2 : rA R r0 2 = r0_2 := rA_e R_r0_2
  obtain ⟨T_r1, A_r1, ⟨r1_1, R_r1_1, H_r1_1⟩⟩ := id H_r1
  have z_r1_1 : rA R r1 1 = r1_1 := rA_e R_r1_1
  obtain ⟨T_r2, A_r2, ⟨r2_1, R_r2_1, H_r2_1⟩⟩ := id H_r2
  have z_r2_1 : rA R r2 1 = r2_1 := rA_e R_r2_1
  obtain ⟨T_r3, A_r3, ⟨r3_1, R_r3_1, H_r3_1⟩⟩ := id H_r3
  have z_r3_1 : rA R r3 1 = r3_1 := rA_e R_r3_1
  obtain ⟨T_r0_0, A_r0_0, B_r0_0, ⟨r0_0_6, R_r0_0_6, H_r0_0_6⟩, ⟨r0_0_7, R_r0_0_7, H_r0_0_7⟩, ⟨r0_0_8, R_r0_0_8, H_r0_0_8⟩, ⟨r0_0_9, R_r0_0_9, H_r0_0_9⟩, ⟨r0_0_10, R_r0_0_10, H_r0_0_10⟩⟩ := id H_r0_0
  have z_r0_0_6 : rA R r0_0 6 = r0_0_6 := rA_e R_r0_0_6
  have z_r0_0_7 : rA R r0_0 7 = r0_0_7 := rA_e R_r0_0_7
  have z_r0_0_8 : rA R r0_0 8 = r0_0_8 := rA_e R_r0_0_8
  have z_r0_0_9 : rA R r0_0 9 = r0_0_9 := rA_e R_r0_0_9
  have z_r0_0_10 : rA R r0_0 10 = r0_0_10 := rA_e R_r0_0_10
  obtain ⟨T_r0_1, A_r0_1, B_r0_1, ⟨r0_1_1, R_r0_1_1, H_r0_1_1⟩⟩ := id H_r0_1
  have z_r0_1_1 : rA R r0_1 1 = r0_1_1 := rA_e R_r0_1_1
  obtain ⟨T_r1_1, N_r1_1, A_r1_1⟩ := id H_r1_1
  obtain ⟨T_r2_1, N_r2_1, A_r2_1⟩ := id H_r2_1
  obtain ⟨T_r3_1, N_r3_1, A_r3_1⟩ := id H_r3_1
  obtain ⟨T_r0_1_1, N_r0_1_1, A_r0_1_1⟩ := id H_r0_1_1
  try simp only [z_r0_0, z_r0_1, z_r0_2, z_r1_1, z_r2_1, z_r3_1, z_r0_0_6, z_r0_0_7, z_r0_0_8, z_r0_0_9, z_r0_0_10, z_r0_1_1] at hp0
  try simp only [z_r0_0, z_r0_1, z_r0_2, z_r1_1, z_r2_1, z_r3_1, z_r0_0_6, z_r0_0_7, z_r0_0_8, z_r0_0_9, z_r0_0_10, z_r0_1_1] at hp1
  try simp only [z_r0_0, z_r0_1, z_r0_2, z_r1_1, z_r2_1, z_r3_1, z_r0_0_6, z_r0_0_7, z_r0_0_8, z_r0_0_9, z_r0_0_10, z_r0_1_1] at hp2
  try simp only [z_r0_0, z_r0_1, z_r0_2, z_r1_1, z_r2_1, z_r3_1, z_r0_0_6, z_r0_0_7, z_r0_0_8, z_r0_0_9, z_r0_0_10, z_r0_1_1] at hp3
  try simp only [z_r0_0, z_r0_1, z_r0_2, z_r1_1, z_r2_1, z_r3_1, z_r0_0_6, z_r0_0_7, z_r0_0_8, z_r0_0_9, z_r0_0_10, z_r0_1_1] at hp4
  try simp only [z_r0_0, z_r0_1, z_r0_2, z_r1_1, z_r2_1, z_r3_1, z_r0_0_6, z_r0_0_7, z_r0_0_8, z_r0_0_9, z_r0_0_10, z_r0_1_1] at hp5
  try simp only [z_r0_0, z_r0_1, z_r0_2, z_r1_1, z_r2_1, z_r3_1, z_r0_0_6, z_r0_0_7, z_r0_0_8, z_r0_0_9, z_r0_0_10, z_r0_1_1] at hp6
  try simp only [z_r0_0, z_r0_1, z_r0_2, z_r1_1, z_r2_1, z_r3_1, z_r0_0_6, z_r0_0_7, z_r0_0_8, z_r0_0_9, z_r0_0_10, z_r0_1_1] at hp7
  try simp only [z_r0_0, z_r0_1, z_r0_2, z_r1_1, z_r2_1, z_r3_1, z_r0_0_6, z_r0_0_7, z_r0_0_8, z_r0_0_9, z_r0_0_10, z_r0_1_1] at hp8
  try simp only [z_r0_0, z_r0_1, z_r0_2, z_r1_1, z_r2_1, z_r3_1, z_r0_0_6, z_r0_0_7, z_r0_0_8, z_r0_0_9, z_r0_0_10, z_r0_1_1] at hp9
  obtain ⟨w_r1_0, k0_r1_0⟩ : ∃ x, I r1 0 = x := ⟨_, rfl⟩
  have gw_r1_0 := rg w_r1_0
  have ow_r1_0 := IX.deg hI A_r1 T_r1 k0_r1_0
  obtain ⟨w_r2_0, k0_r2_0⟩ : ∃ x, I r2 0 = x := ⟨_, rfl⟩
  have gw_r2_0 := rg w_r2_0
  have ow_r2_0 := IX.deg hI A_r2 T_r2 k0_r2_0
  obtain ⟨w_r0_0_0, k0_r0_0_0⟩ : ∃ x, I r0_0 0 = x := ⟨_, rfl⟩
  have gw_r0_0_0 := rg w_r0_0_0
  have ow_r0_0_0 := IX.p hI A_r0_0 T_r0_0 k0_r0_0_0
  try simp only [k0_r1_0, k0_r2_0, k0_r0_0_0] at hp0
  try simp only [k0_r1_0, k0_r2_0, k0_r0_0_0] at hp1
  try simp only [k0_r1_0, k0_r2_0, k0_r0_0_0] at hp2
  try simp only [k0_r1_0, k0_r2_0, k0_r0_0_0] at hp3
  try simp only [k0_r1_0, k0_r2_0, k0_r0_0_0] at hp4
  try simp only [k0_r1_0, k0_r2_0, k0_r0_0_0] at hp5
  try simp only [k0_r1_0, k0_r2_0, k0_r0_0_0] at hp6
  try simp only [k0_r1_0, k0_r2_0, k0_r0_0_0] at hp7
  try simp only [k0_r1_0, k0_r2_0, k0_r0_0_0] at hp8
  try simp only [k0_r1_0, k0_r2_0, k0_r0_0_0] at hp9
  have nb_r1_r3 : NQ9 r1_1 r3_1 := hU.ne (Or.inr (Or.inr (Or.inr (by omega)))) R_r1_1 R_r3_1 (Or.inl hp0)
  have nb_r2_r3 : NQ9 r2_1 r3_1 := hU.ne (Or.inr (Or.inr (Or.inr (by omega)))) R_r2_1 R_r3_1 (Or.inl hp1)
  have nb_r1_r0_1 : NQ9 r1_1 r0_1_1 := hU.ne (Or.inr (Or.inr (Or.inr (by omega)))) R_r1_1 R_r0_1_1 (Or.inl hp2)
  have nb_r2_r0_1 : NQ9 r2_1 r0_1_1 := hU.ne (Or.inr (Or.inr (Or.inr (by omega)))) R_r2_1 R_r0_1_1 (Or.inl hp3)
  have nb_r3_r0_1 : NQ9 r3_1 r0_1_1 := hU.ne (Or.inr (Or.inr (Or.inr (by omega)))) R_r3_1 R_r0_1_1 (Or.inl hp4)
  try simp only [k0_r1_0, k0_r0_0_0] at hp5
  try simp only [k0_r2_0, k0_r0_0_0] at hp6
  try simp only [k0_r1_0] at hp7
  try simp only [k0_r2_0] at hp8
  try simp only [k0_r0_0_0] at hp9
  have hpF : ∀ j : Nat, (j : Int) ≤ w_r1_0.toInt → 0 ≤ NF I r1_1 j ∧ NF I r1_1 j < w_r0_0_0.toInt := hp5
  have hpG : ∀ j : Nat, (j : Int) ≤ w_r2_0.toInt → 0 ≤ NF I r2_1 j ∧ NF I r2_1 j < w_r0_0_0.toInt := hp6
  have hpG8 : ∀ j : Nat, (j : Int) ≤ w_r2_0.toInt → 0 ≤ NF I r2_1 j ∧ NF I r2_1 j ≤ 18 := fun j hj => by (have h9 := hpG j hj; omega)
  refine k_aload_n C rfl rfl rfl ?_
  refine g_I C rfl rfl rfl T_r1 rfl k0_r1_0 ?_
  refine k_aload_n C rfl rfl rfl ?_
  refine g_I C rfl rfl rfl T_r2 rfl k0_r2_0 ?_
  refine z_isub C rfl rfl ⟨by omega, by omega⟩ (fun x1 ex1 => ?_)
  refine k_istore C (lw := [(4, .int x1), (0, .ref r0), (1, .ref r1), (2, .ref r2), (3, .ref r3)]) rfl rfl (Nat.le_of_ble_eq_true rfl) rfl ?_
  refine k_aload_n C rfl rfl rfl ?_
  refine c_VI C (s_X2_first_x hS hI H_r2) rfl rfl rfl rfl rfl ⟨_, rfl, rfl, T_r2, Nat.le_of_ble_eq_true rfl⟩ rfl rfl (Nat.le_of_ble_eq_true rfl) (Nat.le_of_ble_eq_true rfl) (Nat.le_of_ble_eq_true rfl) ?_
  rintro x2 _ _ ⟨o0x2, o1x2, p0x2, p1x2, rfl, rfl⟩
  have gx2 := rg x2
  try simp only [z_r0_0, z_r0_1, z_r0_2, z_r1_1, z_r2_1, z_r3_1, z_r0_0_6, z_r0_0_7, z_r0_0_8, z_r0_0_9, z_r0_0_10, z_r0_1_1] at p0x2
  try simp only [z_r0_0, z_r0_1, z_r0_2, z_r1_1, z_r2_1, z_r3_1, z_r0_0_6, z_r0_0_7, z_r0_0_8, z_r0_0_9, z_r0_0_10, z_r0_1_1] at p1x2
  try simp only [k0_r1_0, k0_r2_0, k0_r0_0_0] at p0x2
  try have q0x2 := congrArg Int32.toInt p0x2
  try simp only [k0_r1_0, k0_r2_0, k0_r0_0_0] at p1x2
  try have q1x2 := congrArg Int32.toInt p1x2
  have hfs := p1x2; (try simp only [k0_r2_0] at hfs)
  refine k_istore C (lw := [(5, .int x2), (4, .int x1), (0, .ref r0), (1, .ref r1), (2, .ref r2), (3, .ref r3)]) rfl rfl (Nat.le_of_ble_eq_true rfl) rfl ?_
  refine k_iload C rfl rfl rfl ?_
  refine b_if_lt C (t := 28) rfl rfl rfl (fun c3 => ?_) (fun c3 => ?_)
  · skip
    refine z_iconst C (z := 0) rfl rfl rfl (fun x4 ex4 => ?_)
    exact k_iret C rfl (Or.inr ⟨rfl, z01 (by omega) (by omega)⟩) (Nat.le_of_ble_eq_true rfl) (Nat.le_of_ble_eq_true rfl) ⟨_, _, _, rfl, rfl, by omega, by omega, by (try simp only [z_r0_0, z_r0_1, z_r0_2, z_r1_1, z_r2_1, z_r3_1, z_r0_0_6, z_r0_0_7, z_r0_0_8, z_r0_0_9, z_r0_0_10, z_r0_1_1]); simp only [k0_r1_0, k0_r2_0, k0_r0_0_0]; first | exact DVQ.s (by omega) (by omega) | exact DVQ.g hfs (by omega) (by omega), hI, (by (try simp only [z_r0_0, z_r0_1, z_r0_2, z_r1_1, z_r2_1, z_r3_1, z_r0_0_6, z_r0_0_7, z_r0_0_8, z_r0_0_9, z_r0_0_10, z_r0_1_1]); exact Chg.rf)⟩
  refine k_iload C rfl rfl rfl ?_
  refine z_iconst C (z := -1) rfl rfl rfl (fun x5 ex5 => ?_)
  refine b_icmp_ne C (t := 30) rfl rfl rfl (fun c6 => ?_) (fun c6 => ?_)
  · skip
    obtain ⟨hs0, hsE, hFS⟩ := FSD.fst hfs (by omega)
    refine k_aload_n C rfl rfl rfl ?_
    refine k_aload_n C rfl rfl rfl ?_
    refine k_iload C rfl rfl rfl ?_
    refine c_VI C (s_X2_get_x hS hI H_r2) rfl rfl rfl rfl rfl ⟨_, rfl, rfl, T_r2, Nat.le_of_ble_eq_true rfl⟩ rfl rfl (Nat.le_of_ble_eq_true rfl) (Nat.le_of_ble_eq_true rfl) (Nat.le_of_ble_eq_true rfl) ?_
    rintro x7 _ _ ⟨p0x7, rfl, rfl⟩
    have gx7 := rg x7
    try simp only [z_r0_0, z_r0_1, z_r0_2, z_r1_1, z_r2_1, z_r3_1, z_r0_0_6, z_r0_0_7, z_r0_0_8, z_r0_0_9, z_r0_0_10, z_r0_1_1] at p0x7
    try simp only [k0_r1_0, k0_r2_0, k0_r0_0_0] at p0x7
    try have q0x7 := congrArg Int32.toInt p0x7
    have hg34 := p0x7; (try simp only [k0_r2_0] at hg34); have hg34 : GTD x7.toInt _ (NF I r2_1) _ := hg34; have hb34 := GTD.bk hg34 (by omega) (by omega) hpG (by omega)
    refine c_VI C (s_X0_inverse_x hS hI H_r0 (by omega) (by omega) (by rw [z_r0_0, k0_r0_0_0]; exact hp9)) rfl rfl rfl rfl rfl ⟨_, rfl, rfl, T_r0, Nat.le_of_ble_eq_true rfl⟩ rfl rfl (Nat.le_of_ble_eq_true rfl) (Nat.le_of_ble_eq_true rfl) (Nat.le_of_ble_eq_true rfl) ?_
    rintro x8 _ _ ⟨o0x8, o1x8, p0x8, rfl, rfl⟩
    have gx8 := rg x8
    try simp only [z_r0_0, z_r0_1, z_r0_2, z_r1_1, z_r2_1, z_r3_1, z_r0_0_6, z_r0_0_7, z_r0_0_8, z_r0_0_9, z_r0_0_10, z_r0_1_1] at p0x8
    try simp only [k0_r1_0, k0_r2_0, k0_r0_0_0] at p0x8
    try have q0x8 := congrArg Int32.toInt p0x8
    have hin := p0x8; (try simp only [k0_r0_0_0] at hin); have hib := hin.1; have ho9 := DIVK.o hin hg34 hFS (by omega) hpG (by omega)
    refine k_istore C (lw := [(6, .int x8), (5, .int x2), (4, .int x1), (0, .ref r0), (1, .ref r1), (2, .ref r2), (3, .ref r3)]) rfl rfl (Nat.le_of_ble_eq_true rfl) rfl ?_
    refine k_aload_n C rfl rfl rfl ?_
    refine k_iload C rfl rfl rfl ?_
    refine c_VV C (s_X2_begin_x hS hI H_r3) rfl rfl rfl rfl rfl ⟨_, rfl, rfl, T_r3, Nat.le_of_ble_eq_true rfl⟩ rfl rfl (Nat.le_of_ble_eq_true rfl) (Nat.le_of_ble_eq_true rfl) (Nat.le_of_ble_eq_true rfl) ?_
    rintro I10 L11 ⟨p0v9, p1v9, hI10, S12⟩
    try simp only [z_r0_0, z_r0_1, z_r0_2, z_r1_1, z_r2_1, z_r3_1, z_r0_0_6, z_r0_0_7, z_r0_0_8, z_r0_0_9, z_r0_0_10, z_r0_1_1] at S12
    have e13 := (congrFun (Chg.at S12 (nm_2 (by first | exact hp0 | exact fun e => hp0 e.symm) (t_nq T_r1 T_r3_1 (by decide)))) 0).trans k0_r1_0
    have e14 := (congrFun (Chg.at S12 (nm_2 (by first | exact hp1 | exact fun e => hp1 e.symm) (t_nq T_r2 T_r3_1 (by decide)))) 0).trans k0_r2_0
    have e15 := Chg.k S12 T_r0_0 (by decide) (by decide) k0_r0_0_0
    obtain ⟨x16, e17⟩ : ∃ x, I10 r3 0 = x := ⟨_, rfl⟩
    have gx16 := rg x16
    have ox16 := IX.deg hI10 A_r3 T_r3 e17
    try simp only [z_r0_0, z_r0_1, z_r0_2, z_r1_1, z_r2_1, z_r3_1, z_r0_0_6, z_r0_0_7, z_r0_0_8, z_r0_0_9, z_r0_0_10, z_r0_1_1] at p0v9
    try simp only [z_r0_0, z_r0_1, z_r0_2, z_r1_1, z_r2_1, z_r3_1, z_r0_0_6, z_r0_0_7, z_r0_0_8, z_r0_0_9, z_r0_0_10, z_r0_1_1] at p1v9
    try simp only [k0_r1_0, k0_r2_0, k0_r0_0_0, e17] at p0v9
    try have q0v9 := congrArg Int32.toInt p0v9
    try simp only [k0_r1_0, k0_r2_0, k0_r0_0_0, e17] at p1v9
    try have q1v9 := congrArg Int32.toInt p1v9
    have hbg := p0v9.2.2 (by omega) (by omega); (try rw [e17] at hbg); have hbz := p1v9
    refine z_iconst C (z := 0) rfl rfl rfl (fun x18 ex18 => ?_)
    have J19 : ∀ (nn20 : Nat) (I21 : IT) (L22 : LT) (x23 : Int32), ((41 - x23.toInt).toNat = nn20) → (IX A T I21) → (Chg (SL [r3, r3_1, r0_1, r0_1_1]) T [] I10 L11 I21 L22) → (0 ≤ x23.toInt) → (x23.toInt ≤ 41) → (DIVK (I21 r3_1) (fun j => NF I r1_1 (j + x2.toNatClampNeg)) (fun j => CUT (NF I r2_1) w_r2_0.toInt (j + x2.toNatClampNeg)) w_r0_0_0.toInt x23.toInt) → (x23.toInt ≤ x1.toInt + 1) → V 51 [(0, .ref r0), (1, .ref r1), (2, .ref r2), (3, .ref r3), (4, .int x1), (5, .int x2), (6, .int x8), (7, .int x23)] [] (T, N, I21, L22, R) 0 0 := by
      intro nn20
      induction nn20 using Nat.strongRecOn with
      | _ nn20 ihJ19 =>
        intro I21 L22 x23 hmnn20 hI27 S26 b24 b25 ff51_0 ff51_1
        have gx23 := rg x23
        have e30 := Chg.k S26 T_r1 (by decide) (by decide) e13
        have e31 := Chg.k S26 T_r2 (by decide) (by decide) e14
        have e32 := Chg.k S26 T_r0_0 (by decide) (by decide) e15
        have e33 := Chg.k S26 T_r3 (by decide) (by decide) e17
        refine k_iload C rfl rfl rfl ?_
        refine k_iload C rfl rfl rfl ?_
        refine b_icmp_gt C (t := 132) rfl rfl rfl (fun c34 => ?_) (fun c34 => ?_)
        · skip
          refine k_aload_n C rfl rfl rfl ?_
          refine k_aload_n C rfl rfl rfl ?_
          refine k_aload_n C rfl rfl rfl ?_
          refine k_aload_n C rfl rfl rfl ?_
          refine g_R C rfl rfl rfl T_r0 rfl R_r0_1 ?_
          have hk3 := e33; have hk2 := e31; have hkp := e32; have hq2 := (Chg.at ((Chg.cons (Chg.up S12 (List.forall_mem_cons.mpr ⟨List.mem_of_getElem? (i := 0) rfl, List.forall_mem_cons.mpr ⟨List.mem_of_getElem? (i := 1) rfl, fun _ h => nomatch h⟩⟩)) (Chg.mono S26 (by decide)) (by decide)) : Chg (SL [r3, r3_1, r0_1, r0_1_1]) T [(3, 0)] I L I21 L22) (nm_4 (t_nq T_r2_1 T_r3 (by decide)) (by first | exact nb_r2_r3 | exact fun e => nb_r2_r3 e.symm) (t_nq T_r2_1 T_r0_1 (by decide)) (by first | exact nb_r2_r0_1 | exact fun e => nb_r2_r0_1 e.symm)))
          refine c_VI C (s_X0_multiplyInto_x hS hI27 H_r0 H_r3 H_r2 (hs_GF hS H_r0_1) hU hp4 hp3 (by rw [z_r3_1, z_r0_0, e33, e32]; exact DIVK.bn ff51_0 (by omega)) (by rw [z_r2_1, z_r0_0, e31, e32]; exact BNX.c hp6 (Chg.at ((Chg.cons (Chg.up S12 (List.forall_mem_cons.mpr ⟨List.mem_of_getElem? (i := 0) rfl, List.forall_mem_cons.mpr ⟨List.mem_of_getElem? (i := 1) rfl, fun _ h => nomatch h⟩⟩)) (Chg.mono S26 (by decide)) (by decide)) : Chg (SL [r3, r3_1, r0_1, r0_1_1]) T [(3, 0)] I L I21 L22) (nm_4 (t_nq T_r2_1 T_r3 (by decide)) (by first | exact nb_r2_r3 | exact fun e => nb_r2_r3 e.symm) (t_nq T_r2_1 T_r0_1 (by decide)) (by first | exact nb_r2_r0_1 | exact fun e => nb_r2_r0_1 e.symm))) (by omega))) rfl rfl rfl rfl rfl ⟨_, rfl, rfl, T_r0, Nat.le_of_ble_eq_true rfl⟩ rfl rfl (Nat.le_of_ble_eq_true rfl) (Nat.le_of_ble_eq_true rfl) (Nat.le_of_ble_eq_true rfl) ?_
          rintro x35 I36 L37 ⟨o0x35, o1x35, p0x35, p1x35, p2x35, p3x35, hI36, S38⟩
          try simp only [z_r0_0, z_r0_1, z_r0_2, z_r1_1, z_r2_1, z_r3_1, z_r0_0_6, z_r0_0_7, z_r0_0_8, z_r0_0_9, z_r0_0_10, z_r0_1_1] at S38
          have e39 := (congrFun (Chg.at S38 (nm_2 (by first | exact hp2 | exact fun e => hp2 e.symm) (t_nq T_r1 T_r0_1_1 (by decide)))) 0).trans e30
          have e40 := (congrFun (Chg.at S38 (nm_2 (by first | exact hp3 | exact fun e => hp3 e.symm) (t_nq T_r2 T_r0_1_1 (by decide)))) 0).trans e31
          have e41 := Chg.k S38 T_r0_0 (by decide) (by decide) e32
          have e42 := (congrFun (Chg.at S38 (nm_2 (by first | exact hp4 | exact fun e => hp4 e.symm) (t_nq T_r3 T_r0_1_1 (by decide)))) 0).trans e33
          have gx35 := rg x35
          obtain ⟨x43, e44⟩ : ∃ x, I36 r0_1 0 = x := ⟨_, rfl⟩
          have gx43 := rg x43
          have ox43 := IX.deg hI36 A_r0_1 T_r0_1 e44
          try simp only [z_r0_0, z_r0_1, z_r0_2, z_r1_1, z_r2_1, z_r3_1, z_r0_0_6, z_r0_0_7, z_r0_0_8, z_r0_0_9, z_r0_0_10, z_r0_1_1] at p0x35
          try simp only [z_r0_0, z_r0_1, z_r0_2, z_r1_1, z_r2_1, z_r3_1, z_r0_0_6, z_r0_0_7, z_r0_0_8, z_r0_0_9, z_r0_0_10, z_r0_1_1] at p1x35
          try simp only [z_r0_0, z_r0_1, z_r0_2, z_r1_1, z_r2_1, z_r3_1, z_r0_0_6, z_r0_0_7, z_r0_0_8, z_r0_0_9, z_r0_0_10, z_r0_1_1] at p2x35
          try simp only [z_r0_0, z_r0_1, z_r0_2, z_r1_1, z_r2_1, z_r3_1, z_r0_0_6, z_r0_0_7, z_r0_0_8, z_r0_0_9, z_r0_0_10, z_r0_1_1] at p3x35
          try simp only [e30, e31, e32, e33, e44] at p0x35
          try have q0x35 := congrArg Int32.toInt p0x35
          try simp only [e30, e31, e32, e33, e44] at p1x35
          try have q1x35 := congrArg Int32.toInt p1x35
          try simp only [e30, e31, e32, e33, e44] at p2x35
          try have q2x35 := congrArg Int32.toInt p2x35
          try simp only [e30, e31, e32, e33, e44] at p3x35
          try have q3x35 := congrArg Int32.toInt p3x35
          have hv0 := p0x35; have hv2 := p2x35; have hv3 := p3x35; (try simp only [hk3, hk2] at hv0); (try simp only [hk3, hk2] at hv2); (try simp only [hk3, hk2, hkp, z_r0_0, z_r0_1, z_r0_2, z_r1_1, z_r2_1, z_r3_1, z_r0_0_6, z_r0_0_7, z_r0_0_8, z_r0_0_9, z_r0_0_10, z_r0_1_1] at hv3); (try rw [NF.e hq2] at hv3); have hR9 := Chg.at S38 (nm_2 (t_nq T_r3_1 T_r0_1 (by decide)) nb_r3_r0_1)
          refine b_if_eq C (t := 160) rfl rfl rfl (fun c45 => ?_) (fun c45 => ?_)
          · skip
            refine z_iconst C (z := 0) rfl rfl rfl (fun x46 ex46 => ?_)
            exact k_iret C rfl (Or.inr ⟨rfl, z01 (by omega) (by omega)⟩) (Nat.le_of_ble_eq_true rfl) (Nat.le_of_ble_eq_true rfl) ⟨_, _, _, rfl, rfl, by omega, by omega, by (try simp only [z_r0_0, z_r0_1, z_r0_2, z_r1_1, z_r2_1, z_r3_1, z_r0_0_6, z_r0_0_7, z_r0_0_8, z_r0_0_9, z_r0_0_10, z_r0_1_1]); simp only [k0_r1_0, k0_r2_0, k0_r0_0_0]; first | (exfalso; have h9 := hv0 (by omega); omega) | (rw [e42]; rw [NF.e hR9]; exact DVQ.e ff51_0 (by omega) hFS (by omega) hpG hpF hp9 (by omega) hVV (fun h9 => hAL.mp (hm150.1 (by omega))) (fun h9 q9 => hm150.2 (by omega) (hAL.mpr q9)) (fun _ => by omega)), hI36, (by (try simp only [z_r0_0, z_r0_1, z_r0_2, z_r1_1, z_r2_1, z_r3_1, z_r0_0_6, z_r0_0_7, z_r0_0_8, z_r0_0_9, z_r0_0_10, z_r0_1_1]); exact (Chg.cons (Chg.up S12 (List.forall_mem_cons.mpr ⟨List.mem_of_getElem? (i := 0) rfl, List.forall_mem_cons.mpr ⟨List.mem_of_getElem? (i := 1) rfl, fun _ h => nomatch h⟩⟩)) (Chg.cons S26 (Chg.mono (Chg.up S38 (List.forall_mem_cons.mpr ⟨List.mem_of_getElem? (i := 2) rfl, List.forall_mem_cons.mpr ⟨List.mem_of_getElem? (i := 3) rfl, fun _ h => nomatch h⟩⟩)) (by decide)) (by decide)) (by decide)))⟩
          refine k_aload_n C rfl rfl rfl ?_
          refine g_R C rfl rfl rfl T_r0 rfl R_r0_1 ?_
          refine k_aload_n C rfl rfl rfl ?_
          refine c_VI C (s_X2_matches_x hS hI36 (hs_GF hS H_r0_1) H_r1) rfl rfl rfl rfl rfl ⟨_, rfl, rfl, T_r0_1, Nat.le_of_ble_eq_true rfl⟩ rfl rfl (Nat.le_of_ble_eq_true rfl) (Nat.le_of_ble_eq_true rfl) (Nat.le_of_ble_eq_true rfl) ?_
          rintro x47 _ _ ⟨o0x47, o1x47, p0x47, rfl, rfl⟩
          have gx47 := rg x47
          try simp only [z_r0_0, z_r0_1, z_r0_2, z_r1_1, z_r2_1, z_r3_1, z_r0_0_6, z_r0_0_7, z_r0_0_8, z_r0_0_9, z_r0_0_10, z_r0_1_1] at p0x47
          try simp only [e39, e40, e41, e42, e44] at p0x47
          try have q0x47 := congrArg Int32.toInt p0x47
          have hm150 := p0x47; have hF9 := (Chg.at ((Chg.cons (Chg.up S12 (List.forall_mem_cons.mpr ⟨List.mem_of_getElem? (i := 0) rfl, List.forall_mem_cons.mpr ⟨List.mem_of_getElem? (i := 1) rfl, fun _ h => nomatch h⟩⟩)) (Chg.cons S26 (Chg.mono (Chg.up S38 (List.forall_mem_cons.mpr ⟨List.mem_of_getElem? (i := 2) rfl, List.forall_mem_cons.mpr ⟨List.mem_of_getElem? (i := 3) rfl, fun _ h => nomatch h⟩⟩)) (by decide)) (by decide)) (by decide)) : Chg (SL [r3, r3_1, r0_1, r0_1_1]) T [(3, 0)] I L I36 L37) (nm_4 (t_nq T_r1_1 T_r3 (by decide)) (by first | exact nb_r1_r3 | exact fun e => nb_r1_r3 e.symm) (t_nq T_r1_1 T_r0_1 (by decide)) (by first | exact nb_r1_r0_1 | exact fun e => nb_r1_r0_1 e.symm))); have hdf := e39; have hVV := fun (j : Nat) (hj : (j : Int) ≤ w_r1_0.toInt) => hv3 (by omega) j (by omega); have hAL := FEQ.al (R := R) (I := I36) (f := r0_1) (g := r1) (D := w_r1_0.toInt) (M := NF I36 r0_1_1) (F := NF I r1_1) (by rw [e44]; have h9 := hv2 (by omega); omega) (by rw [hdf]) (fun j _ => congrArg (fun a => (I36 a j).toInt) z_r0_1_1) (fun j _ => by rw [z_r1_1, hF9] <;> rfl)
          refine b_if_eq C (t := 160) rfl rfl rfl (fun c48 => ?_) (fun c48 => ?_)
          · skip
            refine z_iconst C (z := 0) rfl rfl rfl (fun x49 ex49 => ?_)
            exact k_iret C rfl (Or.inr ⟨rfl, z01 (by omega) (by omega)⟩) (Nat.le_of_ble_eq_true rfl) (Nat.le_of_ble_eq_true rfl) ⟨_, _, _, rfl, rfl, by omega, by omega, by (try simp only [z_r0_0, z_r0_1, z_r0_2, z_r1_1, z_r2_1, z_r3_1, z_r0_0_6, z_r0_0_7, z_r0_0_8, z_r0_0_9, z_r0_0_10, z_r0_1_1]); simp only [k0_r1_0, k0_r2_0, k0_r0_0_0]; first | (exfalso; have h9 := hv0 (by omega); omega) | (rw [e42]; rw [NF.e hR9]; exact DVQ.e ff51_0 (by omega) hFS (by omega) hpG hpF hp9 (by omega) hVV (fun h9 => hAL.mp (hm150.1 (by omega))) (fun h9 q9 => hm150.2 (by omega) (hAL.mpr q9)) (fun _ => by omega)), hI36, (by (try simp only [z_r0_0, z_r0_1, z_r0_2, z_r1_1, z_r2_1, z_r3_1, z_r0_0_6, z_r0_0_7, z_r0_0_8, z_r0_0_9, z_r0_0_10, z_r0_1_1]); exact (Chg.cons (Chg.up S12 (List.forall_mem_cons.mpr ⟨List.mem_of_getElem? (i := 0) rfl, List.forall_mem_cons.mpr ⟨List.mem_of_getElem? (i := 1) rfl, fun _ h => nomatch h⟩⟩)) (Chg.cons S26 (Chg.mono (Chg.up S38 (List.forall_mem_cons.mpr ⟨List.mem_of_getElem? (i := 2) rfl, List.forall_mem_cons.mpr ⟨List.mem_of_getElem? (i := 3) rfl, fun _ h => nomatch h⟩⟩)) (by decide)) (by decide)) (by decide)))⟩
          refine z_iconst C (z := 1) rfl rfl rfl (fun x50 ex50 => ?_)
          refine k_goto C (pc2 := 161) rfl rfl ?_
          exact k_iret C rfl (Or.inr ⟨rfl, z01 (by omega) (by omega)⟩) (Nat.le_of_ble_eq_true rfl) (Nat.le_of_ble_eq_true rfl) ⟨_, _, _, rfl, rfl, by omega, by omega, by (try simp only [z_r0_0, z_r0_1, z_r0_2, z_r1_1, z_r2_1, z_r3_1, z_r0_0_6, z_r0_0_7, z_r0_0_8, z_r0_0_9, z_r0_0_10, z_r0_1_1]); simp only [k0_r1_0, k0_r2_0, k0_r0_0_0]; first | (exfalso; have h9 := hv0 (by omega); omega) | (rw [e42]; rw [NF.e hR9]; exact DVQ.e ff51_0 (by omega) hFS (by omega) hpG hpF hp9 (by omega) hVV (fun h9 => hAL.mp (hm150.1 (by omega))) (fun h9 q9 => hm150.2 (by omega) (hAL.mpr q9)) (fun _ => by omega)), hI36, (by (try simp only [z_r0_0, z_r0_1, z_r0_2, z_r1_1, z_r2_1, z_r3_1, z_r0_0_6, z_r0_0_7, z_r0_0_8, z_r0_0_9, z_r0_0_10, z_r0_1_1]); exact (Chg.cons (Chg.up S12 (List.forall_mem_cons.mpr ⟨List.mem_of_getElem? (i := 0) rfl, List.forall_mem_cons.mpr ⟨List.mem_of_getElem? (i := 1) rfl, fun _ h => nomatch h⟩⟩)) (Chg.cons S26 (Chg.mono (Chg.up S38 (List.forall_mem_cons.mpr ⟨List.mem_of_getElem? (i := 2) rfl, List.forall_mem_cons.mpr ⟨List.mem_of_getElem? (i := 3) rfl, fun _ h => nomatch h⟩⟩)) (by decide)) (by decide)) (by decide)))⟩
        refine k_aload_n C rfl rfl rfl ?_
        refine k_iload C rfl rfl rfl ?_
        refine k_iload C rfl rfl rfl ?_
        refine z_iadd C rfl rfl ⟨by omega, by omega⟩ (fun x51 ex51 => ?_)
        refine c_VI C (s_X2_get_x hS hI27 H_r1) rfl rfl rfl rfl rfl ⟨_, rfl, rfl, T_r1, Nat.le_of_ble_eq_true rfl⟩ rfl rfl (Nat.le_of_ble_eq_true rfl) (Nat.le_of_ble_eq_true rfl) (Nat.le_of_ble_eq_true rfl) ?_
        rintro x52 _ _ ⟨p0x52, rfl, rfl⟩
        have gx52 := rg x52
        try simp only [z_r0_0, z_r0_1, z_r0_2, z_r1_1, z_r2_1, z_r3_1, z_r0_0_6, z_r0_0_7, z_r0_0_8, z_r0_0_9, z_r0_0_10, z_r0_1_1] at p0x52
        try simp only [e30, e31, e32, e33] at p0x52
        try have q0x52 := congrArg Int32.toInt p0x52
        have hg64 := p0x52; (try simp only [e30] at hg64); (try rw [(Chg.at ((Chg.cons (Chg.up S12 (List.forall_mem_cons.mpr ⟨List.mem_of_getElem? (i := 0) rfl, List.forall_mem_cons.mpr ⟨List.mem_of_getElem? (i := 1) rfl, fun _ h => nomatch h⟩⟩)) (Chg.mono S26 (by decide)) (by decide)) : Chg (SL [r3, r3_1, r0_1, r0_1_1]) T [(3, 0)] I L I21 L22) (nm_4 (t_nq T_r1_1 T_r3 (by decide)) (by first | exact nb_r1_r3 | exact fun e => nb_r1_r3 e.symm) (t_nq T_r1_1 T_r0_1 (by decide)) (by first | exact nb_r1_r0_1 | exact fun e => nb_r1_r0_1 e.symm)))] at hg64); have hg64 : GTD x52.toInt _ (NF I r1_1) _ := hg64
        refine k_istore C (lw := [(8, .int x52), (0, .ref r0), (1, .ref r1), (2, .ref r2), (3, .ref r3), (4, .int x1), (5, .int x2), (6, .int x8), (7, .int x23)]) rfl rfl (Nat.le_of_ble_eq_true rfl) rfl ?_
        refine z_iconst C (z := 0) rfl rfl rfl (fun x53 ex53 => ?_)
        have J54 : ∀ (nn55 : Nat) (x56 : Int32) (x57 : Int32), ((40 - x57.toInt).toNat = nn55) → (0 ≤ x57.toInt) → (x57.toInt ≤ 40) → (RSQ x56.toInt (I21 r3_1) (fun j => NF I r1_1 (j + x2.toNatClampNeg)) (fun j => CUT (NF I r2_1) w_r2_0.toInt (j + x2.toNatClampNeg)) x23.toNatClampNeg x57.toInt) → (x57.toInt ≤ x23.toInt) → V 72 [(0, .ref r0), (1, .ref r1), (2, .ref r2), (3, .ref r3), (4, .int x1), (5, .int x2), (6, .int x8), (7, .int x23), (8, .int x56), (9, .int x57)] [] (T, N, I21, L22, R) 0 0 := by
          intro nn55
          induction nn55 using Nat.strongRecOn with
          | _ nn55 ihJ54 =>
            intro x56 x57 hmnn55 b58 b59 ff72_0 ff72_1
            have gx56 := rg x56
            have gx57 := rg x57
            refine k_iload C rfl rfl rfl ?_
            refine k_iload C rfl rfl rfl ?_
            refine b_icmp_ge C (t := 109) rfl rfl rfl (fun c62 => ?_) (fun c62 => ?_)
            · skip
              refine k_aload_n C rfl rfl rfl ?_
              refine k_iload C rfl rfl rfl ?_
              refine k_aload_n C rfl rfl rfl ?_
              refine k_iload C rfl rfl rfl ?_
              refine z_i2l C rfl rfl (fun lg63 elg63 => ?_)
              have hl115 := elg63
              refine k_iload C rfl rfl rfl ?_
              refine z_i2l C rfl rfl (fun lg64 elg64 => ?_)
              have hl118 := elg64
              refine z_lmulE C rfl rfl (fun lg65 elg65 => ?_)
              have m119 := elg65
              refine c_VI C (s_X0_of_x hS hI27 H_r0) rfl rfl rfl rfl rfl ⟨_, rfl, rfl, T_r0, Nat.le_of_ble_eq_true rfl⟩ rfl rfl (Nat.le_of_ble_eq_true rfl) (Nat.le_of_ble_eq_true rfl) (Nat.le_of_ble_eq_true rfl) ?_
              rintro x66 _ _ ⟨o0x66, o1x66, p0x66, p1x66, rfl, rfl⟩
              have gx66 := rg x66
              try simp only [z_r0_0, z_r0_1, z_r0_2, z_r1_1, z_r2_1, z_r3_1, z_r0_0_6, z_r0_0_7, z_r0_0_8, z_r0_0_9, z_r0_0_10, z_r0_1_1] at p0x66
              try simp only [z_r0_0, z_r0_1, z_r0_2, z_r1_1, z_r2_1, z_r3_1, z_r0_0_6, z_r0_0_7, z_r0_0_8, z_r0_0_9, z_r0_0_10, z_r0_1_1] at p1x66
              try simp only [e30, e31, e32, e33] at p0x66
              try have q0x66 := congrArg Int32.toInt p0x66
              try simp only [e30, e31, e32, e33] at p1x66
              try have q1x66 := congrArg Int32.toInt p1x66
              have hof := p0x66; (try simp only [e32] at hof)
              refine c_VV C (s_X2_set_x hS hI27 H_r3) rfl rfl rfl rfl rfl ⟨_, rfl, rfl, T_r3, Nat.le_of_ble_eq_true rfl⟩ rfl rfl (Nat.le_of_ble_eq_true rfl) (Nat.le_of_ble_eq_true rfl) (Nat.le_of_ble_eq_true rfl) ?_
              rintro I68 L69 ⟨p0v67, hI68, S70⟩
              try simp only [z_r0_0, z_r0_1, z_r0_2, z_r1_1, z_r2_1, z_r3_1, z_r0_0_6, z_r0_0_7, z_r0_0_8, z_r0_0_9, z_r0_0_10, z_r0_1_1] at S70
              have e71 := Chg.k S70 T_r1 (by decide) (by decide) e30
              have e72 := Chg.k S70 T_r2 (by decide) (by decide) e31
              have e73 := Chg.k S70 T_r0_0 (by decide) (by decide) e32
              have e74 := Chg.k S70 T_r3 (by decide) (by decide) e33
              try simp only [z_r0_0, z_r0_1, z_r0_2, z_r1_1, z_r2_1, z_r3_1, z_r0_0_6, z_r0_0_7, z_r0_0_8, z_r0_0_9, z_r0_0_10, z_r0_1_1] at p0v67
              try simp only [e30, e31, e32, e33] at p0v67
              try have q0v67 := congrArg Int32.toInt p0v67
              have hse := p0v67
              refine z_iinc C (z := 1) (lw := fun x75 => [(7, .int x75), (0, .ref r0), (1, .ref r1), (2, .ref r2), (3, .ref r3), (4, .int x1), (5, .int x2), (6, .int x8), (8, .int x56), (9, .int x57)]) rfl rfl rfl (Nat.le_of_ble_eq_true rfl) rfl ⟨by omega, by omega⟩ (fun _ => rfl) (fun x75 ex75 => ?_)
              show V 129 [(7, .int x75), (0, .ref r0), (1, .ref r1), (2, .ref r2), (3, .ref r3), (4, .int x1), (5, .int x2), (6, .int x8), (8, .int x56), (9, .int x57)] _ _ _ _
              refine k_goto C (pc2 := 51) rfl rfl ?_
              refine k_sub S [(0, .ref r0), (1, .ref r1), (2, .ref r2), (3, .ref r3), (4, .int x1), (5, .int x2), (6, .int x8), (7, .int x75)] (List.forall_mem_cons.mpr ⟨List.mem_of_getElem? (i := 1) rfl, List.forall_mem_cons.mpr ⟨List.mem_of_getElem? (i := 2) rfl, List.forall_mem_cons.mpr ⟨List.mem_of_getElem? (i := 3) rfl, List.forall_mem_cons.mpr ⟨List.mem_of_getElem? (i := 4) rfl, List.forall_mem_cons.mpr ⟨List.mem_of_getElem? (i := 5) rfl, List.forall_mem_cons.mpr ⟨List.mem_of_getElem? (i := 6) rfl, List.forall_mem_cons.mpr ⟨List.mem_of_getElem? (i := 7) rfl, List.forall_mem_cons.mpr ⟨List.mem_of_getElem? (i := 0) rfl, fun _ h => nomatch h⟩⟩⟩⟩⟩⟩⟩⟩) ?_
              exact ihJ19 _ (by omega) I68 L69 x75 rfl hI68 (Chg.cons S26 (Chg.mono (Chg.up S70 (List.forall_mem_cons.mpr ⟨List.mem_of_getElem? (i := 1) rfl, fun _ h => nomatch h⟩)) (by decide)) (by decide)) (by omega) (by omega) (by exact DIVK.s ff51_0 (RSQ.fin ff72_0 (by have h9 := ncz (x := x23) (by omega); omega) (by omega)) (by omega) m119 hl115 hl118 hof hse ho9 (by omega) (by omega) (by omega) (by omega)) (by omega)
            refine k_iload C rfl rfl rfl ?_
            refine k_aload_n C rfl rfl rfl ?_
            refine k_iload C rfl rfl rfl ?_
            refine c_VI C (s_X2_get_x hS hI27 H_r3) rfl rfl rfl rfl rfl ⟨_, rfl, rfl, T_r3, Nat.le_of_ble_eq_true rfl⟩ rfl rfl (Nat.le_of_ble_eq_true rfl) (Nat.le_of_ble_eq_true rfl) (Nat.le_of_ble_eq_true rfl) ?_
            rintro x76 _ _ ⟨p0x76, rfl, rfl⟩
            have gx76 := rg x76
            try simp only [z_r0_0, z_r0_1, z_r0_2, z_r1_1, z_r2_1, z_r3_1, z_r0_0_6, z_r0_0_7, z_r0_0_8, z_r0_0_9, z_r0_0_10, z_r0_1_1] at p0x76
            try simp only [e30, e31, e32, e33] at p0x76
            try have q0x76 := congrArg Int32.toInt p0x76
            have hg84 := p0x76; (try simp only [e33] at hg84)
            refine k_aload_n C rfl rfl rfl ?_
            refine k_iload C rfl rfl rfl ?_
            refine k_iload C rfl rfl rfl ?_
            refine z_isub C rfl rfl ⟨by omega, by omega⟩ (fun x77 ex77 => ?_)
            refine k_iload C rfl rfl rfl ?_
            refine z_iadd C rfl rfl ⟨by omega, by omega⟩ (fun x78 ex78 => ?_)
            refine c_VI C (s_X2_get_x hS hI27 H_r2) rfl rfl rfl rfl rfl ⟨_, rfl, rfl, T_r2, Nat.le_of_ble_eq_true rfl⟩ rfl rfl (Nat.le_of_ble_eq_true rfl) (Nat.le_of_ble_eq_true rfl) (Nat.le_of_ble_eq_true rfl) ?_
            rintro x79 _ _ ⟨p0x79, rfl, rfl⟩
            have gx79 := rg x79
            try simp only [z_r0_0, z_r0_1, z_r0_2, z_r1_1, z_r2_1, z_r3_1, z_r0_0_6, z_r0_0_7, z_r0_0_8, z_r0_0_9, z_r0_0_10, z_r0_1_1] at p0x79
            try simp only [e30, e31, e32, e33] at p0x79
            try have q0x79 := congrArg Int32.toInt p0x79
            have hg96 := p0x79; (try simp only [e31] at hg96); (try rw [(Chg.at ((Chg.cons (Chg.up S12 (List.forall_mem_cons.mpr ⟨List.mem_of_getElem? (i := 0) rfl, List.forall_mem_cons.mpr ⟨List.mem_of_getElem? (i := 1) rfl, fun _ h => nomatch h⟩⟩)) (Chg.mono S26 (by decide)) (by decide)) : Chg (SL [r3, r3_1, r0_1, r0_1_1]) T [(3, 0)] I L I21 L22) (nm_4 (t_nq T_r2_1 T_r3 (by decide)) (by first | exact nb_r2_r3 | exact fun e => nb_r2_r3 e.symm) (t_nq T_r2_1 T_r0_1 (by decide)) (by first | exact nb_r2_r0_1 | exact fun e => nb_r2_r0_1 e.symm)))] at hg96); have hg96 : GTD x79.toInt _ (NF I r2_1) _ := hg96
            refine z_imulE C rfl rfl (fun x80 ex80 => ?_)
            have gx80 := rg x80
            have m99 := ex80
            refine z_isubX C rfl rfl (fun x81 ex81 => ?_)
            have gx81 := rg x81
            have m100 := ex81
            refine k_istore C (lw := [(8, .int x81), (0, .ref r0), (1, .ref r1), (2, .ref r2), (3, .ref r3), (4, .int x1), (5, .int x2), (6, .int x8), (7, .int x23), (9, .int x57)]) rfl rfl (Nat.le_of_ble_eq_true rfl) rfl ?_
            refine z_iinc C (z := 1) (lw := fun x82 => [(9, .int x82), (8, .int x81), (0, .ref r0), (1, .ref r1), (2, .ref r2), (3, .ref r3), (4, .int x1), (5, .int x2), (6, .int x8), (7, .int x23)]) rfl rfl rfl (Nat.le_of_ble_eq_true rfl) rfl ⟨by omega, by omega⟩ (fun _ => rfl) (fun x82 ex82 => ?_)
            show V 106 [(9, .int x82), (8, .int x81), (0, .ref r0), (1, .ref r1), (2, .ref r2), (3, .ref r3), (4, .int x1), (5, .int x2), (6, .int x8), (7, .int x23)] _ _ _ _
            refine k_goto C (pc2 := 72) rfl rfl ?_
            refine k_sub S [(0, .ref r0), (1, .ref r1), (2, .ref r2), (3, .ref r3), (4, .int x1), (5, .int x2), (6, .int x8), (7, .int x23), (8, .int x81), (9, .int x82)] (List.forall_mem_cons.mpr ⟨List.mem_of_getElem? (i := 2) rfl, List.forall_mem_cons.mpr ⟨List.mem_of_getElem? (i := 3) rfl, List.forall_mem_cons.mpr ⟨List.mem_of_getElem? (i := 4) rfl, List.forall_mem_cons.mpr ⟨List.mem_of_getElem? (i := 5) rfl, List.forall_mem_cons.mpr ⟨List.mem_of_getElem? (i := 6) rfl, List.forall_mem_cons.mpr ⟨List.mem_of_getElem? (i := 7) rfl, List.forall_mem_cons.mpr ⟨List.mem_of_getElem? (i := 8) rfl, List.forall_mem_cons.mpr ⟨List.mem_of_getElem? (i := 9) rfl, List.forall_mem_cons.mpr ⟨List.mem_of_getElem? (i := 1) rfl, List.forall_mem_cons.mpr ⟨List.mem_of_getElem? (i := 0) rfl, fun _ h => nomatch h⟩⟩⟩⟩⟩⟩⟩⟩⟩⟩) ?_
            exact ihJ54 _ (by omega) x81 x82 rfl (by omega) (by omega) (by exact RSQ.s ff72_0 hg84 (by omega) hg96 (by have h9 := ncz (x := x23) (by omega); have h8 := ncz (x := x2) (by omega); omega) m99 m100 (DIVK.b ff51_0 (by omega) (by omega) (by omega)) hpG8 (by omega) (by have h9 := ncz (x := x23) (by omega); omega) (by omega) (by omega)) (by omega)
        refine k_istore C (lw := [(9, .int x53), (8, .int x52), (0, .ref r0), (1, .ref r1), (2, .ref r2), (3, .ref r3), (4, .int x1), (5, .int x2), (6, .int x8), (7, .int x23)]) rfl rfl (Nat.le_of_ble_eq_true rfl) rfl ?_
        refine k_sub S [(0, .ref r0), (1, .ref r1), (2, .ref r2), (3, .ref r3), (4, .int x1), (5, .int x2), (6, .int x8), (7, .int x23), (8, .int x52), (9, .int x53)] (List.forall_mem_cons.mpr ⟨List.mem_of_getElem? (i := 2) rfl, List.forall_mem_cons.mpr ⟨List.mem_of_getElem? (i := 3) rfl, List.forall_mem_cons.mpr ⟨List.mem_of_getElem? (i := 4) rfl, List.forall_mem_cons.mpr ⟨List.mem_of_getElem? (i := 5) rfl, List.forall_mem_cons.mpr ⟨List.mem_of_getElem? (i := 6) rfl, List.forall_mem_cons.mpr ⟨List.mem_of_getElem? (i := 7) rfl, List.forall_mem_cons.mpr ⟨List.mem_of_getElem? (i := 8) rfl, List.forall_mem_cons.mpr ⟨List.mem_of_getElem? (i := 9) rfl, List.forall_mem_cons.mpr ⟨List.mem_of_getElem? (i := 1) rfl, List.forall_mem_cons.mpr ⟨List.mem_of_getElem? (i := 0) rfl, fun _ h => nomatch h⟩⟩⟩⟩⟩⟩⟩⟩⟩⟩) ?_
        exact J54 _ x52 x53 rfl (by omega) (by omega) (by exact RSQ.z hg64 (by omega) (by omega) (by omega) (by omega) hpF (by omega) (by omega)) (by omega)
    refine k_istore C (lw := [(7, .int x18), (6, .int x8), (5, .int x2), (4, .int x1), (0, .ref r0), (1, .ref r1), (2, .ref r2), (3, .ref r3)]) rfl rfl (Nat.le_of_ble_eq_true rfl) rfl ?_
    refine k_sub S [(0, .ref r0), (1, .ref r1), (2, .ref r2), (3, .ref r3), (4, .int x1), (5, .int x2), (6, .int x8), (7, .int x18)] (List.forall_mem_cons.mpr ⟨List.mem_of_getElem? (i := 4) rfl, List.forall_mem_cons.mpr ⟨List.mem_of_getElem? (i := 5) rfl, List.forall_mem_cons.mpr ⟨List.mem_of_getElem? (i := 6) rfl, List.forall_mem_cons.mpr ⟨List.mem_of_getElem? (i := 7) rfl, List.forall_mem_cons.mpr ⟨List.mem_of_getElem? (i := 3) rfl, List.forall_mem_cons.mpr ⟨List.mem_of_getElem? (i := 2) rfl, List.forall_mem_cons.mpr ⟨List.mem_of_getElem? (i := 1) rfl, List.forall_mem_cons.mpr ⟨List.mem_of_getElem? (i := 0) rfl, fun _ h => nomatch h⟩⟩⟩⟩⟩⟩⟩⟩) ?_
    exact J19 _ I10 L11 x18 rfl hI10 Chg.rf (by omega) (by omega) (by exact DIVK.z hbz (by omega)) (by omega)
  refine z_iconst C (z := 0) rfl rfl rfl (fun x83 ex83 => ?_)
  exact k_iret C rfl (Or.inr ⟨rfl, z01 (by omega) (by omega)⟩) (Nat.le_of_ble_eq_true rfl) (Nat.le_of_ble_eq_true rfl) ⟨_, _, _, rfl, rfl, by omega, by omega, by (try simp only [z_r0_0, z_r0_1, z_r0_2, z_r1_1, z_r2_1, z_r3_1, z_r0_0_6, z_r0_0_7, z_r0_0_8, z_r0_0_9, z_r0_0_10, z_r0_1_1]); simp only [k0_r1_0, k0_r2_0, k0_r0_0_0]; first | exact DVQ.s (by omega) (by omega) | exact DVQ.g hfs (by omega) (by omega), hI, (by (try simp only [z_r0_0, z_r0_1, z_r0_2, z_r1_1, z_r2_1, z_r3_1, z_r0_0_6, z_r0_0_7, z_r0_0_8, z_r0_0_9, z_r0_0_10, z_r0_1_1]); exact Chg.rf)⟩

theorem s_X11_quotient_x {d : Nat} {T N : Nat → Nat} {I : IT} {L : LT} {R : RT} {A B : Nat → Prop} {r0 : Nat} {n1 n2 n3 : Int32} (hS : SUB B A) (hI : IX A T I) (H_r0 : (hs_LF T N R A B) r0) (hU : UPR T R) (hp0 : rA R (rA R r0 5) 0 = (rA R r0 1)) (hp1 : ∀ j : Nat, (j : Int) < (I (rA R r0 1) 1).toInt → BNX I (rA R (FA R (rA R r0 1) j) 1) (I (FA R (rA R r0 1) j) 0).toInt (I (rA R r0 1) 0).toInt) (hp2 : ∀ j : Nat, (j : Int) < (I (rA R r0 1) 1).toInt → (I (FA R (rA R r0 1) j) 0).toInt ≤ 8) (hp3 : PRM (I (rA R r0 1) 0).toInt) : Ex (d + 5) 164 [.ref r0, .int n1, .int n2, .int n3] (T, N, I, L, R) 2 12 (pW2 [3] T N R (pI T N R (fun x9 I9 L9 => (¬ ((n1.toInt < 0 ∨ (I (rA R r0 1) 1).toInt ≤ n1.toInt ∨ 16 ≤ n1.toInt) ∨ (n2.toInt < 0 ∨ (I (rA R r0 1) 1).toInt ≤ n2.toInt ∨ 16 ≤ n2.toInt))) ∧ (QUA x9.toInt (I (rA R r0 1) 0).toInt (I (FA R (rA R r0 1) n1.toNatClampNeg) 0).toInt (I (FA R (rA R r0 1) n2.toNatClampNeg) 0).toInt n3.toInt (NF I (rA R (FA R (rA R r0 1) n1.toNatClampNeg) 1)) (NF I (rA R (FA R (rA R r0 1) n2.toNatClampNeg) 1))) ∧ (IX A T I9 ∧ Chg B T [(3, 0)] I L I9 L9))) (fun e9 I9 L9 => (IX A T I9 ∧ Chg B T [(3, 0)] I L I9 L9) ∧ (e9 = 3 → (n1.toInt < 0 ∨ (I (rA R r0 1) 1).toInt ≤ n1.toInt ∨ 16 ≤ n1.toInt) ∨ (n2.toInt < 0 ∨ (I (rA R r0 1) 1).toInt ≤ n2.toInt ∨ 16 ≤ n2.toInt)))) := by
  refine ⟨_, rfl, Nat.le_of_ble_eq_true rfl, fun V C S => ?_⟩
  show V 0 [(0, .ref r0), (1, .int n1), (2, .int n2), (3, .int n3)] [] (T, N, I, L, R) 0 0
  have gn1 := rg n1
  have gn2 := rg n2
  have gn3 := rg n3
  obtain ⟨T_r0, A_r0, B_r0, ⟨r0_0, R_r0_0, H_r0_0⟩, ⟨r0_1, R_r0_1, H_r0_1⟩, ⟨r0_2, R_r0_2, H_r0_2⟩, ⟨r0_5, R_r0_5, H_r0_5⟩, ⟨r0_6, R_r0_6, H_r0_6⟩, ⟨r0_7, R_r0_7, H_r0_7⟩, ⟨r0_8, R_r0_8, H_r0_8⟩, ⟨r0_9, R_r0_9, H_r0_9⟩, ⟨r0_10, R_r0_10, H_r0_10⟩, ⟨r0_11, R_r0_11, H_r0_11⟩, ⟨r0_12, R_r0_12, H_r0_12⟩, ⟨r0_13, R_r0_13, H_r0_13⟩⟩ := id H_r0
  have z_r0_0 : rA R r0 0 = r0_0 := rA_e R_r0_0
  have z_r0_1 : rA R r0 1 = r0_1 := rA_e R_r0_1
  have z_r0_2 : rA R r0 2 = r0_2 := rA_e R_r0_2
  have z_r0_5 : rA R r0 5 = r0_5 := rA_e R_r0_5
  have z_r0_6 : rA R r0 6 = r0_6 := rA_e R_r0_6
  have z_r0_7 : rA R r0 7 = r0_7 := rA_e R_r0_7
  have z_r0_8 : rA R r0 8 = r0_8 := rA_e R_r0_8
  have z_r0_9 : rA R r0 9 = r0_9 := rA_e R_r0_9
  have z_r0_10 : rA R r0 10 = r0_10 := rA_e R_r0_10
  have z_r0_11 : rA R r0 11 = r0_11 := rA_e R_r0_11
  have z_r0_12 : rA R r0 12 = r0_12 := rA_e R_r0_12
  have z_r0_13 : rA R r0 13 = r0_13 := rA_e R_r0_13
  obtain ⟨T_r0_1, A_r0_1, B_r0_1, ⟨r0_1_6, R_r0_1_6, H_r0_1_6⟩, ⟨r0_1_7, R_r0_1_7, H_r0_1_7⟩, ⟨r0_1_8, R_r0_1_8, H_r0_1_8⟩, ⟨r0_1_9, R_r0_1_9, H_r0_1_9⟩, ⟨r0_1_10, R_r0_1_10, H_r0_1_10⟩⟩ := id H_r0_1
  have z_r0_1_6 : rA R r0_1 6 = r0_1_6 := rA_e R_r0_1_6
  have z_r0_1_7 : rA R r0_1 7 = r0_1_7 := rA_e R_r0_1_7
  have z_r0_1_8 : rA R r0_1 8 = r0_1_8 := rA_e R_r0_1_8
  have z_r0_1_9 : rA R r0_1 9 = r0_1_9 := rA_e R_r0_1_9
  have z_r0_1_10 : rA R r0_1 10 = r0_1_10 := rA_e R_r0_1_10
  obtain ⟨T_r0_5, A_r0_5, B_r0_5, ⟨r0_5_0, R_r0_5_0, H_r0_5_0⟩, ⟨r0_5_1, R_r0_5_1, H_r0_5_1⟩, ⟨r0_5_2, R_r0_5_2, H_r0_5_2⟩⟩ := id H_r0_5
  have z_r0_5_0 : rA R r0_5 0 = r0_5_0 := rA_e R_r0_5_0
  have z_r0_5_1 : rA R r0_5 1 = r0_5_1 := rA_e R_r0_5_1
  have z_r0_5_2 : rA R r0_5 2 = r0_5_2 := rA_e R_r0_5_2
  obtain ⟨T_r0_5_1, A_r0_5_1, B_r0_5_1, ⟨r0_5_1_1, R_r0_5_1_1, H_r0_5_1_1⟩⟩ := id H_r0_5_1
  have z_r0_5_1_1 : rA R r0_5_1 1 = r0_5_1_1 := rA_e R_r0_5_1_1
  obtain ⟨T_r0_5_1_1, N_r0_5_1_1, A_r0_5_1_1⟩ := id H_r0_5_1_1
  obtain ⟨T_r0_5_2, A_r0_5_2, B_r0_5_2, ⟨r0_5_2_1, R_r0_5_2_1, H_r0_5_2_1⟩⟩ := id H_r0_5_2
  have z_r0_5_2_1 : rA R r0_5_2 1 = r0_5_2_1 := rA_e R_r0_5_2_1
  obtain ⟨T_r0_5_2_1, N_r0_5_2_1, A_r0_5_2_1⟩ := id H_r0_5_2_1
  obtain ⟨T_r0_11, A_r0_11, B_r0_11, ⟨r0_11_1, R_r0_11_1, H_r0_11_1⟩⟩ := id H_r0_11
  have z_r0_11_1 : rA R r0_11 1 = r0_11_1 := rA_e R_r0_11_1
  obtain ⟨T_r0_11_1, N_r0_11_1, A_r0_11_1⟩ := id H_r0_11_1
  have hG := GS.of H_r0_1
  obtain ⟨T_r0_1_8, N_r0_1_8, A_r0_1_8, E_r0_1_8⟩ := id H_r0_1_8
  obtain ⟨T_r0_5_0, A_r0_5_0, B_r0_5_0, ⟨r0_5_0_6, R_r0_5_0_6, H_r0_5_0_6⟩, ⟨r0_5_0_7, R_r0_5_0_7, H_r0_5_0_7⟩, ⟨r0_5_0_8, R_r0_5_0_8, H_r0_5_0_8⟩, ⟨r0_5_0_9, R_r0_5_0_9, H_r0_5_0_9⟩, ⟨r0_5_0_10, R_r0_5_0_10, H_r0_5_0_10⟩⟩ := id H_r0_5_0
  have z_r0_5_0_6 : rA R r0_5_0 6 = r0_5_0_6 := rA_e R_r0_5_0_6
  have z_r0_5_0_7 : rA R r0_5_0 7 = r0_5_0_7 := rA_e R_r0_5_0_7
  have z_r0_5_0_8 : rA R r0_5_0 8 = r0_5_0_8 := rA_e R_r0_5_0_8
  have z_r0_5_0_9 : rA R r0_5_0 9 = r0_5_0_9 := rA_e R_r0_5_0_9
  have z_r0_5_0_10 : rA R r0_5_0 10 = r0_5_0_10 := rA_e R_r0_5_0_10
  try simp only [z_r0_0, z_r0_1, z_r0_2, z_r0_5, z_r0_6, z_r0_7, z_r0_8, z_r0_9, z_r0_10, z_r0_11, z_r0_12, z_r0_13, z_r0_1_6, z_r0_1_7, z_r0_1_8, z_r0_1_9, z_r0_1_10, z_r0_5_0, z_r0_5_1, z_r0_5_2, z_r0_5_1_1, z_r0_5_2_1, z_r0_11_1, z_r0_5_0_6, z_r0_5_0_7, z_r0_5_0_8, z_r0_5_0_9, z_r0_5_0_10] at hp0
  try simp only [z_r0_0, z_r0_1, z_r0_2, z_r0_5, z_r0_6, z_r0_7, z_r0_8, z_r0_9, z_r0_10, z_r0_11, z_r0_12, z_r0_13, z_r0_1_6, z_r0_1_7, z_r0_1_8, z_r0_1_9, z_r0_1_10, z_r0_5_0, z_r0_5_1, z_r0_5_2, z_r0_5_1_1, z_r0_5_2_1, z_r0_11_1, z_r0_5_0_6, z_r0_5_0_7, z_r0_5_0_8, z_r0_5_0_9, z_r0_5_0_10] at hp1
  try simp only [z_r0_0, z_r0_1, z_r0_2, z_r0_5, z_r0_6, z_r0_7, z_r0_8, z_r0_9, z_r0_10, z_r0_11, z_r0_12, z_r0_13, z_r0_1_6, z_r0_1_7, z_r0_1_8, z_r0_1_9, z_r0_1_10, z_r0_5_0, z_r0_5_1, z_r0_5_2, z_r0_5_1_1, z_r0_5_2_1, z_r0_11_1, z_r0_5_0_6, z_r0_5_0_7, z_r0_5_0_8, z_r0_5_0_9, z_r0_5_0_10] at hp2
  try simp only [z_r0_0, z_r0_1, z_r0_2, z_r0_5, z_r0_6, z_r0_7, z_r0_8, z_r0_9, z_r0_10, z_r0_11, z_r0_12, z_r0_13, z_r0_1_6, z_r0_1_7, z_r0_1_8, z_r0_1_9, z_r0_1_10, z_r0_5_0, z_r0_5_1, z_r0_5_2, z_r0_5_1_1, z_r0_5_2_1, z_r0_11_1, z_r0_5_0_6, z_r0_5_0_7, z_r0_5_0_8, z_r0_5_0_9, z_r0_5_0_10] at hp3
  obtain ⟨w_r0_1_0, k0_r0_1_0⟩ : ∃ x, I r0_1 0 = x := ⟨_, rfl⟩
  have gw_r0_1_0 := rg w_r0_1_0
  have ow_r0_1_0 := IX.p hI A_r0_1 T_r0_1 k0_r0_1_0
  try simp only [k0_r0_1_0] at hp0
  try simp only [k0_r0_1_0] at hp1
  try simp only [k0_r0_1_0] at hp2
  try simp only [k0_r0_1_0] at hp3
  have wl : NQ9 _ _ := hU.ne (Or.inl T_r0_11) R_r0_11 R_r0_5_1 (Or.inl (t_nq T_r0 T_r0_5 (by decide)))
  refine k_aload_n C rfl rfl rfl ?_
  refine k_iload_n C rfl rfl rfl ?_
  refine w2_VR C (s_X11_toldForm_x hS hI H_r0) rfl rfl rfl rfl rfl ⟨_, rfl, rfl, T_r0, Nat.le_of_ble_eq_true rfl⟩ rfl rfl (Nat.le_of_ble_eq_true rfl) (Nat.le_of_ble_eq_true rfl) (Nat.le_of_ble_eq_true rfl) (by decide) (fun e9 he I9 L9 hq => by obtain ⟨⟨rfl, rfl⟩, hq⟩ := hq; exact Or.inl ⟨rfl, Or.inr ⟨e9, _, _, (by decide : ∀ z ∈ [3], z ∈ [3]) e9 he, rfl, rfl, ⟨⟨hI, Chg.rf⟩, (fun h9 => by subst h9; first | exact absurd he (by decide) | (have hx := hq rfl; exact Or.inl hx))⟩⟩⟩) ?_
  rintro yy1 _ _ ⟨hyy1, p0yy1, p1yy1, rfl, rfl⟩
  obtain ⟨rr2, err2, H_rr2⟩ := hyy1
  subst err2
  try simp only [z_r0_0, z_r0_1, z_r0_2, z_r0_5, z_r0_6, z_r0_7, z_r0_8, z_r0_9, z_r0_10, z_r0_11, z_r0_12, z_r0_13, z_r0_1_6, z_r0_1_7, z_r0_1_8, z_r0_1_9, z_r0_1_10, z_r0_5_0, z_r0_5_1, z_r0_5_2, z_r0_5_1_1, z_r0_5_2_1, z_r0_11_1, z_r0_5_0_6, z_r0_5_0_7, z_r0_5_0_8, z_r0_5_0_9, z_r0_5_0_10] at p0yy1
  try simp only [z_r0_0, z_r0_1, z_r0_2, z_r0_5, z_r0_6, z_r0_7, z_r0_8, z_r0_9, z_r0_10, z_r0_11, z_r0_12, z_r0_13, z_r0_1_6, z_r0_1_7, z_r0_1_8, z_r0_1_9, z_r0_1_10, z_r0_5_0, z_r0_5_1, z_r0_5_2, z_r0_5_1_1, z_r0_5_2_1, z_r0_11_1, z_r0_5_0_6, z_r0_5_0_7, z_r0_5_0_8, z_r0_5_0_9, z_r0_5_0_10] at p1yy1
  try simp only [k0_r0_1_0] at p0yy1
  try have q0yy1 := congrArg Int32.toInt p0yy1
  try simp only [k0_r0_1_0] at p1yy1
  try have q1yy1 := congrArg Int32.toInt p1yy1
  have hF := p0yy1.symm; have hF2 := p1yy1; have oF := FA_e z_r0_1_8 hF; have nF := ncn (n := 16) (j := n1) (by omega) (by omega); have nF1 := ncz (x := n1) (by omega); have fF := FO.of H_rr2; have TF := fF.1; have mw1 : NQ9 _ _ := hU.ne (Or.inl TF) hF R_r0_11 (Or.inl (t_nq T_r0_1_8 T_r0 (by decide))); have ml1 : NQ9 _ _ := hU.ne (Or.inl TF) hF R_r0_5_1 (Or.inl (t_nq T_r0_1_8 T_r0_5 (by decide)))
  refine k_astore C (lw := [(4, .ref rr2), (0, .ref r0), (1, .int n1), (2, .int n2), (3, .int n3)]) rfl rfl (Nat.le_of_ble_eq_true rfl) rfl ?_
  refine k_aload_n C rfl rfl rfl ?_
  refine k_iload_n C rfl rfl rfl ?_
  refine w2_VR C (s_X11_toldForm_x hS hI H_r0) rfl rfl rfl rfl rfl ⟨_, rfl, rfl, T_r0, Nat.le_of_ble_eq_true rfl⟩ rfl rfl (Nat.le_of_ble_eq_true rfl) (Nat.le_of_ble_eq_true rfl) (Nat.le_of_ble_eq_true rfl) (by decide) (fun e9 he I9 L9 hq => by obtain ⟨⟨rfl, rfl⟩, hq⟩ := hq; exact Or.inl ⟨rfl, Or.inr ⟨e9, _, _, (by decide : ∀ z ∈ [3], z ∈ [3]) e9 he, rfl, rfl, ⟨⟨hI, Chg.rf⟩, (fun h9 => by subst h9; first | exact absurd he (by decide) | (have hx := hq rfl; exact Or.inr hx))⟩⟩⟩) ?_
  rintro yy3 _ _ ⟨hyy3, p0yy3, p1yy3, rfl, rfl⟩
  obtain ⟨rr4, err4, H_rr4⟩ := hyy3
  subst err4
  try simp only [z_r0_0, z_r0_1, z_r0_2, z_r0_5, z_r0_6, z_r0_7, z_r0_8, z_r0_9, z_r0_10, z_r0_11, z_r0_12, z_r0_13, z_r0_1_6, z_r0_1_7, z_r0_1_8, z_r0_1_9, z_r0_1_10, z_r0_5_0, z_r0_5_1, z_r0_5_2, z_r0_5_1_1, z_r0_5_2_1, z_r0_11_1, z_r0_5_0_6, z_r0_5_0_7, z_r0_5_0_8, z_r0_5_0_9, z_r0_5_0_10] at p0yy3
  try simp only [z_r0_0, z_r0_1, z_r0_2, z_r0_5, z_r0_6, z_r0_7, z_r0_8, z_r0_9, z_r0_10, z_r0_11, z_r0_12, z_r0_13, z_r0_1_6, z_r0_1_7, z_r0_1_8, z_r0_1_9, z_r0_1_10, z_r0_5_0, z_r0_5_1, z_r0_5_2, z_r0_5_1_1, z_r0_5_2_1, z_r0_11_1, z_r0_5_0_6, z_r0_5_0_7, z_r0_5_0_8, z_r0_5_0_9, z_r0_5_0_10] at p1yy3
  try simp only [k0_r0_1_0] at p0yy3
  try have q0yy3 := congrArg Int32.toInt p0yy3
  try simp only [k0_r0_1_0] at p1yy3
  try have q1yy3 := congrArg Int32.toInt p1yy3
  have hG9 := p0yy3.symm; have hG2 := p1yy3; have oG := FA_e z_r0_1_8 hG9; have nG := ncn (n := 16) (j := n2) (by omega) (by omega); have nG1 := ncz (x := n2) (by omega); have fG := FO.of H_rr4; have TG := fG.1; have mw2 : NQ9 _ _ := hU.ne (Or.inl TG) hG9 R_r0_11 (Or.inl (t_nq T_r0_1_8 T_r0 (by decide))); have ml2 : NQ9 _ _ := hU.ne (Or.inl TG) hG9 R_r0_5_1 (Or.inl (t_nq T_r0_1_8 T_r0_5 (by decide))); have hd1 := hp2 n1.toNatClampNeg (by omega); have hd2 := hp2 n2.toNatClampNeg (by omega); rw [oF] at hd1; rw [oG] at hd2
  refine k_astore C (lw := [(5, .ref rr4), (4, .ref rr2), (0, .ref r0), (1, .int n1), (2, .int n2), (3, .int n3)]) rfl rfl (Nat.le_of_ble_eq_true rfl) rfl ?_
  refine k_aload_n C rfl rfl rfl ?_
  refine g_R C rfl rfl rfl T_r0 rfl R_r0_5 ?_
  refine k_aload C rfl rfl rfl ?_
  refine k_aload C rfl rfl rfl ?_
  refine k_aload_n C rfl rfl rfl ?_
  refine g_R C rfl rfl rfl T_r0 rfl R_r0_11 ?_
  obtain ⟨T_rr2, A_rr2, ⟨rr2_1, R_rr2_1, H_rr2_1⟩⟩ := id H_rr2
  have z_rr2_1 : rA R rr2 1 = rr2_1 := rA_e R_rr2_1
  obtain ⟨T_rr4, A_rr4, ⟨rr4_1, R_rr4_1, H_rr4_1⟩⟩ := id H_rr4
  have z_rr4_1 : rA R rr4 1 = rr4_1 := rA_e R_rr4_1
  refine c_VI C (s_X0_divideInto_x hS hI H_r0_5 H_rr2 H_rr4 (hs_GF hS H_r0_11) hU mw1 mw2 (by rw [z_r0_5_1]; exact ml1) (by rw [z_r0_5_1]; exact ml2) (by rw [z_r0_5_1]; exact wl) (by rw [z_r0_5_0, hp0, ← oF, k0_r0_1_0]; exact hp1 _ (by omega)) (by rw [z_r0_5_0, hp0, ← oG, k0_r0_1_0]; exact hp1 _ (by omega)) (by omega) (by omega) (by rw [z_r0_5_0, hp0, k0_r0_1_0]; exact hp3)) rfl rfl rfl rfl rfl ⟨_, rfl, rfl, T_r0_5, Nat.le_of_ble_eq_true rfl⟩ rfl rfl (Nat.le_of_ble_eq_true rfl) (Nat.le_of_ble_eq_true rfl) (Nat.le_of_ble_eq_true rfl) ?_
  rintro x5 I6 L7 ⟨o0x5, o1x5, p0x5, hI6, S8⟩
  try simp only [z_r0_0, z_r0_1, z_r0_2, z_r0_5, z_r0_6, z_r0_7, z_r0_8, z_r0_9, z_r0_10, z_r0_11, z_r0_12, z_r0_13, z_r0_1_6, z_r0_1_7, z_r0_1_8, z_r0_1_9, z_r0_1_10, z_r0_5_0, z_r0_5_1, z_r0_5_2, z_r0_5_1_1, z_r0_5_2_1, z_r0_11_1, z_r0_5_0_6, z_r0_5_0_7, z_r0_5_0_8, z_r0_5_0_9, z_r0_5_0_10, z_rr2_1, z_rr4_1] at S8
  have e9 := Chg.k S8 T_r0_1 (by decide) (by decide) k0_r0_1_0
  have gx5 := rg x5
  obtain ⟨x10, e11⟩ : ∃ x, I6 r0_11 0 = x := ⟨_, rfl⟩
  have gx10 := rg x10
  have ox10 := IX.deg hI6 A_r0_11 T_r0_11 e11
  try simp only [z_r0_0, z_r0_1, z_r0_2, z_r0_5, z_r0_6, z_r0_7, z_r0_8, z_r0_9, z_r0_10, z_r0_11, z_r0_12, z_r0_13, z_r0_1_6, z_r0_1_7, z_r0_1_8, z_r0_1_9, z_r0_1_10, z_r0_5_0, z_r0_5_1, z_r0_5_2, z_r0_5_1_1, z_r0_5_2_1, z_r0_11_1, z_r0_5_0_6, z_r0_5_0_7, z_r0_5_0_8, z_r0_5_0_9, z_r0_5_0_10, z_rr2_1, z_rr4_1] at p0x5
  try simp only [k0_r0_1_0, e11] at p0x5
  try have q0x5 := congrArg Int32.toInt p0x5
  have hdv := p0x5; rw [hp0] at hdv; (try simp only [z_r0_0, z_r0_1, z_r0_2, z_r0_5, z_r0_6, z_r0_7, z_r0_8, z_r0_9, z_r0_10, z_r0_11, z_r0_12, z_r0_13, z_r0_1_6, z_r0_1_7, z_r0_1_8, z_r0_1_9, z_r0_1_10, z_r0_5_0, z_r0_5_1, z_r0_5_2, z_r0_5_1_1, z_r0_5_2_1, z_r0_11_1, z_r0_5_0_6, z_r0_5_0_7, z_r0_5_0_8, z_r0_5_0_9, z_r0_5_0_10, z_rr2_1, z_rr4_1] at hdv)
  refine b_if_eq C (t := 43) rfl rfl rfl (fun c12 => ?_) (fun c12 => ?_)
  · skip
    refine z_bipush C (z := -2) rfl rfl rfl (fun x13 ex13 => ?_)
    exact k_iret C rfl (Or.inl rfl) (Nat.le_of_ble_eq_true rfl) (Nat.le_of_ble_eq_true rfl) (Or.inl ⟨_, _, _, rfl, rfl, by (try simp only [z_r0_0, z_r0_1, z_r0_2, z_r0_5, z_r0_6, z_r0_7, z_r0_8, z_r0_9, z_r0_10, z_r0_11, z_r0_12, z_r0_13, z_r0_1_6, z_r0_1_7, z_r0_1_8, z_r0_1_9, z_r0_1_10, z_r0_5_0, z_r0_5_1, z_r0_5_2, z_r0_5_1_1, z_r0_5_2_1, z_r0_11_1, z_r0_5_0_6, z_r0_5_0_7, z_r0_5_0_8, z_r0_5_0_9, z_r0_5_0_10, z_rr2_1, z_rr4_1]); omega, by (try simp only [z_r0_0, z_r0_1, z_r0_2, z_r0_5, z_r0_6, z_r0_7, z_r0_8, z_r0_9, z_r0_10, z_r0_11, z_r0_12, z_r0_13, z_r0_1_6, z_r0_1_7, z_r0_1_8, z_r0_1_9, z_r0_1_10, z_r0_5_0, z_r0_5_1, z_r0_5_2, z_r0_5_1_1, z_r0_5_2_1, z_r0_11_1, z_r0_5_0_6, z_r0_5_0_7, z_r0_5_0_8, z_r0_5_0_9, z_r0_5_0_10, z_rr2_1, z_rr4_1]); rw [oF, oG]; (try simp only [z_r0_0, z_r0_1, z_r0_2, z_r0_5, z_r0_6, z_r0_7, z_r0_8, z_r0_9, z_r0_10, z_r0_11, z_r0_12, z_r0_13, z_r0_1_6, z_r0_1_7, z_r0_1_8, z_r0_1_9, z_r0_1_10, z_r0_5_0, z_r0_5_1, z_r0_5_2, z_r0_5_1_1, z_r0_5_2_1, z_r0_11_1, z_r0_5_0_6, z_r0_5_0_7, z_r0_5_0_8, z_r0_5_0_9, z_r0_5_0_10, z_rr2_1, z_rr4_1]); first | exact DVQ.n hdv (by omega) (by omega) | exact DVQ.y hdv (by omega) hdn, hI6, (Chg.mono (Chg.up S8 (sl_4 (B_r0_11) (A_r0_11_1) (B_r0_5_1) (A_r0_5_1_1))) (by decide))⟩)
  refine k_aload_n C rfl rfl rfl ?_
  refine g_R C rfl rfl rfl T_r0 rfl R_r0_11 ?_
  refine k_iload_n C rfl rfl rfl ?_
  refine c_SI C (s_X11_degreeOrNumber_x hS hI6 (hs_GF hS H_r0_11)) rfl rfl rfl rfl rfl rfl rfl (Nat.le_of_ble_eq_true rfl) (Nat.le_of_ble_eq_true rfl) (Nat.le_of_ble_eq_true rfl) ?_
  rintro x14 _ _ ⟨p0x14, rfl, rfl⟩
  have gx14 := rg x14
  try simp only [z_r0_0, z_r0_1, z_r0_2, z_r0_5, z_r0_6, z_r0_7, z_r0_8, z_r0_9, z_r0_10, z_r0_11, z_r0_12, z_r0_13, z_r0_1_6, z_r0_1_7, z_r0_1_8, z_r0_1_9, z_r0_1_10, z_r0_5_0, z_r0_5_1, z_r0_5_2, z_r0_5_1_1, z_r0_5_2_1, z_r0_11_1, z_r0_5_0_6, z_r0_5_0_7, z_r0_5_0_8, z_r0_5_0_9, z_r0_5_0_10, z_rr2_1, z_rr4_1] at p0x14
  try simp only [e9, e11] at p0x14
  try have q0x14 := congrArg Int32.toInt p0x14
  have hdn := p0x14; (try simp only [z_r0_0, z_r0_1, z_r0_2, z_r0_5, z_r0_6, z_r0_7, z_r0_8, z_r0_9, z_r0_10, z_r0_11, z_r0_12, z_r0_13, z_r0_1_6, z_r0_1_7, z_r0_1_8, z_r0_1_9, z_r0_1_10, z_r0_5_0, z_r0_5_1, z_r0_5_2, z_r0_5_1_1, z_r0_5_2_1, z_r0_11_1, z_r0_5_0_6, z_r0_5_0_7, z_r0_5_0_8, z_r0_5_0_9, z_r0_5_0_10, z_rr2_1, z_rr4_1] at hdn)
  refine k_goto C (pc2 := 45) rfl rfl ?_
  exact k_iret C rfl (Or.inl rfl) (Nat.le_of_ble_eq_true rfl) (Nat.le_of_ble_eq_true rfl) (Or.inl ⟨_, _, _, rfl, rfl, by (try simp only [z_r0_0, z_r0_1, z_r0_2, z_r0_5, z_r0_6, z_r0_7, z_r0_8, z_r0_9, z_r0_10, z_r0_11, z_r0_12, z_r0_13, z_r0_1_6, z_r0_1_7, z_r0_1_8, z_r0_1_9, z_r0_1_10, z_r0_5_0, z_r0_5_1, z_r0_5_2, z_r0_5_1_1, z_r0_5_2_1, z_r0_11_1, z_r0_5_0_6, z_r0_5_0_7, z_r0_5_0_8, z_r0_5_0_9, z_r0_5_0_10, z_rr2_1, z_rr4_1]); omega, by (try simp only [z_r0_0, z_r0_1, z_r0_2, z_r0_5, z_r0_6, z_r0_7, z_r0_8, z_r0_9, z_r0_10, z_r0_11, z_r0_12, z_r0_13, z_r0_1_6, z_r0_1_7, z_r0_1_8, z_r0_1_9, z_r0_1_10, z_r0_5_0, z_r0_5_1, z_r0_5_2, z_r0_5_1_1, z_r0_5_2_1, z_r0_11_1, z_r0_5_0_6, z_r0_5_0_7, z_r0_5_0_8, z_r0_5_0_9, z_r0_5_0_10, z_rr2_1, z_rr4_1]); rw [oF, oG]; (try simp only [z_r0_0, z_r0_1, z_r0_2, z_r0_5, z_r0_6, z_r0_7, z_r0_8, z_r0_9, z_r0_10, z_r0_11, z_r0_12, z_r0_13, z_r0_1_6, z_r0_1_7, z_r0_1_8, z_r0_1_9, z_r0_1_10, z_r0_5_0, z_r0_5_1, z_r0_5_2, z_r0_5_1_1, z_r0_5_2_1, z_r0_11_1, z_r0_5_0_6, z_r0_5_0_7, z_r0_5_0_8, z_r0_5_0_9, z_r0_5_0_10, z_rr2_1, z_rr4_1]); first | exact DVQ.n hdv (by omega) (by omega) | exact DVQ.y hdv (by omega) hdn, hI6, (Chg.mono (Chg.up S8 (sl_4 (B_r0_11) (A_r0_11_1) (B_r0_5_1) (A_r0_5_1_1))) (by decide))⟩)

