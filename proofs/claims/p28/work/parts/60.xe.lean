/-! what two forms have in common: exactly -/
theorem PmE.sbt {p x y z w : Int} (h : PmE p x y) (g : PmE p z w) : PmE p (x - z) (y - w) := by unfold PmE at *; rw [Int.sub_emod, h, g, ← Int.sub_emod]
def SUMN (F : Nat → Int) : Nat → Int
  | 0 => 0
  | n + 1 => SUMN F n + F n
theorem SUMN.cg {F G : Nat → Int} : ∀ n, (∀ i, i < n → F i = G i) → SUMN F n = SUMN G n
  | 0, _ => rfl
  | n + 1, h => by show SUMN F n + F n = SUMN G n + G n; rw [SUMN.cg n (fun i hi => h i (by omega)), h n (by omega)]
theorem SUMN.ad (F G : Nat → Int) : ∀ n, SUMN (fun i => F i + G i) n = SUMN F n + SUMN G n
  | 0 => rfl
  | n + 1 => by show SUMN (fun i => F i + G i) n + (F n + G n) = SUMN F n + F n + (SUMN G n + G n); rw [SUMN.ad F G n]; omega
theorem SUMN.z : ∀ n, SUMN (fun _ => 0) n = 0
  | 0 => rfl
  | n + 1 => by show SUMN (fun _ => 0) n + 0 = 0; rw [SUMN.z n]; rfl
theorem SUMN.sc (x : Int) (F : Nat → Int) : ∀ n, SUMN (fun i => x * F i) n = x * SUMN F n
  | 0 => (Int.mul_zero x).symm
  | n + 1 => by show SUMN (fun i => x * F i) n + x * F n = x * (SUMN F n + F n); rw [SUMN.sc x F n, Int.mul_add]
theorem SUMN.sw (F : Nat → Nat → Int) (m : Nat) : ∀ n, SUMN (fun i => SUMN (fun j => F i j) m) n = SUMN (fun j => SUMN (fun i => F i j) n) m
  | 0 => by show (0 : Int) = SUMN (fun _ => 0) m; rw [SUMN.z]
  | n + 1 => by
    show SUMN (fun i => SUMN (fun j => F i j) m) n + SUMN (fun j => F n j) m = SUMN (fun j => SUMN (fun i => F i j) n + F n j) m
    rw [SUMN.sw F m n, SUMN.ad]
theorem SUMN.p {F : Nat → Int} (h : ∀ i, 0 ≤ F i) : ∀ n, 0 ≤ SUMN F n
  | 0 => Int.le_refl 0
  | n + 1 => Int.add_nonneg (SUMN.p h n) (h n)
theorem SUMN.pos {F : Nat → Int} (h : ∀ i, 0 ≤ F i) : ∀ {n : Nat}, 0 < SUMN F n → ∃ i, i < n ∧ 0 < F i
  | 0, q => absurd q (Int.lt_irrefl 0)
  | n + 1, q => by
    have q : 0 < SUMN F n + F n := q
    by_cases c : 0 < F n
    · exact ⟨n, by omega, c⟩
    · obtain ⟨i, hi, hF⟩ := SUMN.pos h (n := n) (by omega)
      exact ⟨i, by omega, hF⟩
theorem SUMN.ge {F : Nat → Int} (h : ∀ i, 0 ≤ F i) : ∀ {n i : Nat}, i < n → F i ≤ SUMN F n
  | 0, i, q => absurd q (by omega)
  | n + 1, i, q => by
    show F i ≤ SUMN F n + F n
    have a := SUMN.p h n
    have b := h n
    by_cases c : i = n
    · subst c; omega
    · have := SUMN.ge h (n := n) (i := i) (by omega); omega
/-- one row times another -/
theorem SUMN.pe {p : Int} {F G : Nat → Int} : ∀ n, (∀ i, i < n → PmE p (F i) (G i)) → PmE p (SUMN F n) (SUMN G n)
  | 0, _ => PmE.rf
  | n + 1, h => (SUMN.pe n (fun i hi => h i (by omega))).ad (h n (by omega))
theorem SUMN.sp (F : Nat → Int) (m : Nat) : ∀ n, SUMN F (m + n) = SUMN F m + SUMN (fun i => F (m + i)) n
  | 0 => (Int.add_zero _).symm
  | n + 1 => by
    show SUMN F (m + n) + F (m + n) = SUMN F m + (SUMN (fun i => F (m + i)) n + F (m + n))
    rw [SUMN.sp F m n]; omega
theorem SUMN.z0 {F : Nat → Int} (n : Nat) (h : ∀ i, i < n → F i = 0) : SUMN F n = 0 := (SUMN.cg n h).trans (SUMN.z n)
def CNV (q g : Nat → Int) (k : Nat) : Int := SUMN (fun i => q i * g (k - i)) (k + 1)
theorem CNV.pe {p : Int} {q q' g g' : Nat → Int} {k : Nat} (hq : ∀ i, i ≤ k → PmE p (q i) (q' i)) (hg : ∀ i, i ≤ k → PmE p (g i) (g' i)) : PmE p (CNV q g k) (CNV q' g' k) := SUMN.pe _ (fun i hi => (hq i (by omega)).ml (hg (k - i) (by omega)))
theorem CNV.li (a b : Int) (q r g : Nat → Int) (k : Nat) : CNV (fun i => a * q i + b * r i) g k = a * CNV q g k + b * CNV r g k := by
  unfold CNV
  rw [← SUMN.sc, ← SUMN.sc, ← SUMN.ad]
  exact SUMN.cg _ (fun i _ => by grind)
/-- a row behind some noughts -/
def SHY (m : Nat) (q : Nat → Int) (i : Nat) : Int := if i < m then 0 else q (i - m)
theorem CNV.sh (m : Nat) (q g : Nat → Int) (k : Nat) : CNV (SHY m q) g (m + k) = CNV q g k := by
  unfold CNV
  rw [show m + k + 1 = m + (k + 1) from by omega, SUMN.sp]
  rw [SUMN.z0 m (fun i hi => by unfold SHY; rw [if_pos hi, Int.zero_mul]), Int.zero_add]
  refine SUMN.cg _ (fun i hi => ?_)
  unfold SHY
  rw [if_neg (by omega), show m + i - m = i from by omega, show m + k - (m + i) = k - i from by omega]
theorem CNV.s0 {m : Nat} {q g : Nat → Int} {k : Nat} (h : k < m) : CNV (SHY m q) g k = 0 := SUMN.z0 _ (fun i hi => by
  show SHY m q i * _ = 0
  unfold SHY; rw [if_pos (by omega), Int.zero_mul])
/-- a row's end -/
def SUP (d : Nat → Int) (H : Int) : Prop := ∀ i : Nat, H < (i : Int) → d i = 0
def UNI (p : Int) (d : Nat → Int) : Prop := ∃ e, PmE p (e * d 0) 1
theorem CNV.hi {r d : Nat → Int} {E H : Int} {j : Nat} (hr : ∀ i : Nat, E < (i : Int) + H → r i = 0) (hd : SUP d H) (hj : E < (j : Int)) : CNV r d j = 0 := SUMN.z0 _ (fun i hi => by
  show r i * d (j - i) = 0
  by_cases q : E < (i : Int) + H
  · rw [hr i q, Int.zero_mul]
  · rw [hd (j - i) (by omega), Int.mul_zero])
/-- d of degree H divides f of degree D -/
def DV (p : Int) (d : Nat → Int) (H : Int) (f : Nat → Int) (D : Int) : Prop := ∃ q : Nat → Int, (∀ i : Nat, D < (i : Int) + H → q i = 0) ∧ ∀ k : Nat, (k : Int) ≤ D → PmE p (f k) (CNV q d k)
theorem DV.cg {p : Int} {d : Nat → Int} {H : Int} {f f' : Nat → Int} {D : Int} (h : DV p d H f D) (e : ∀ k : Nat, (k : Int) ≤ D → PmE p (f' k) (f k)) : DV p d H f' D := by
  obtain ⟨q, q1, q2⟩ := h
  exact ⟨q, q1, fun k hk => (e k hk).tr (q2 k hk)⟩
theorem DV.sb1 {p : Int} {d : Nat → Int} {H : Int} {f f1 g : Nat → Int} {D E c : Int} {m : Nat} (hd : SUP d H) (hE : E + m ≤ D) (e : ∀ k : Nat, (k : Int) ≤ D → PmE p (f1 k) (f k - c * (if m ≤ k ∧ ((k - m : Nat) : Int) ≤ E then g (k - m) else 0))) (hg : DV p d H g E) (h : DV p d H f D) : DV p d H f1 D := by
  obtain ⟨q, q1, q2⟩ := h
  obtain ⟨r, r1, r2⟩ := hg
  refine ⟨fun i => 1 * q i + (-c) * SHY m r i, fun i hi => ?_, fun k hk => ?_⟩
  · show 1 * q i + (-c) * SHY m r i = 0
    have z : SHY m r i = 0 := by
      unfold SHY
      by_cases x : i < m
      · rw [if_pos x]
      · rw [if_neg x]; exact r1 _ (by omega)
    rw [q1 i hi, z]; omega
  · rw [CNV.li]
    refine (e k hk).tr ?_
    have w : PmE p (if m ≤ k ∧ ((k - m : Nat) : Int) ≤ E then g (k - m) else 0) (CNV (SHY m r) d k) := by
      by_cases x : m ≤ k
      · have s := CNV.sh m r d (k - m)
        rw [show m + (k - m) = k from by omega] at s
        rw [s]
        by_cases y : ((k - m : Nat) : Int) ≤ E
        · rw [if_pos ⟨x, y⟩]; exact r2 _ y
        · rw [if_neg (fun z => y z.2), CNV.hi r1 hd (by omega)]; exact PmE.rf
      · rw [if_neg (fun z => x z.1), CNV.s0 (by omega)]; exact PmE.rf
    have a := PmE.sbt (q2 k hk) (PmE.ml (PmE.rf (x := c)) w)
    rwa [show 1 * CNV q d k + -c * CNV (SHY m r) d k = CNV q d k - c * CNV (SHY m r) d k from by grind]
theorem DV.sb {p : Int} {d : Nat → Int} {H : Int} {f f1 g : Nat → Int} {D E c : Int} {m : Nat} (hd : SUP d H) (hE : E + m ≤ D) (e : ∀ k : Nat, (k : Int) ≤ D → PmE p (f1 k) (f k - c * (if m ≤ k ∧ ((k - m : Nat) : Int) ≤ E then g (k - m) else 0))) (hg : DV p d H g E) : DV p d H f D ↔ DV p d H f1 D := by
  refine ⟨fun h => DV.sb1 hd hE e hg h, fun h => DV.sb1 (c := -c) (m := m) hd hE (fun k hk => ?_) hg h⟩
  have a := (e k hk).ad (PmE.rf (p := p) (x := c * (if m ≤ k ∧ ((k - m : Nat) : Int) ≤ E then g (k - m) else 0)))
  have a := a.sy
  rw [show f k - c * (if m ≤ k ∧ ((k - m : Nat) : Int) ≤ E then g (k - m) else 0) + c * (if m ≤ k ∧ ((k - m : Nat) : Int) ≤ E then g (k - m) else 0) = f k from by omega] at a
  rwa [show f1 k - -c * (if m ≤ k ∧ ((k - m : Nat) : Int) ≤ E then g (k - m) else 0) = f1 k + c * (if m ≤ k ∧ ((k - m : Nat) : Int) ≤ E then g (k - m) else 0) from by grind]
theorem CNV.u0 {p : Int} {q d : Nat → Int} (hu : UNI p d) : ∀ n : Nat, (∀ k, k < n → PmE p (CNV q d k) 0) → ∀ i, i < n → PmE p (q i) 0
  | 0, _, i, hi => absurd hi (by omega)
  | n + 1, h, i, hi => by
    have ih := CNV.u0 hu n (fun k hk => h k (by omega))
    by_cases x : i = n
    · subst x
      have a := h i (by omega)
      have a : PmE p (SUMN (fun j => q j * d (i - j)) i + q i * d (i - i)) 0 := a
      have z : PmE p (SUMN (fun j => q j * d (i - j)) i) 0 := by
        have := SUMN.pe (p := p) (F := fun j => q j * d (i - j)) (G := fun _ => 0) i (fun j hj => by
          have := (ih j hj).ml (PmE.rf (x := d (i - j)))
          rwa [Int.zero_mul] at this)
        rwa [SUMN.z] at this
      have b := PmE.sbt a z
      rw [show SUMN (fun j => q j * d (i - j)) i + q i * d (i - i) - SUMN (fun j => q j * d (i - j)) i = q i * d (i - i) from by omega, Nat.sub_self] at b
      obtain ⟨e, he⟩ := hu
      have c := PmE.ml (PmE.rf (p := p) (x := e)) b
      rw [show e * (q i * d 0) = e * d 0 * q i from by grind] at c
      have c2 := (he.sy.ml (PmE.rf (x := q i))).tr c
      rwa [Int.one_mul, Int.sub_self, Int.mul_zero] at c2
    · exact ih i (by omega)
theorem DV.sh {p : Int} {d : Nat → Int} {H : Int} {f f' : Nat → Int} {D D' : Int} {m : Nat} (hu : UNI p d) (hz : ∀ k : Nat, k < m → PmE p (f k) 0) (hf : ∀ k : Nat, (k : Int) ≤ D' → PmE p (f' k) (f (m + k))) (hD : D' = D - m) (hm : (m : Int) ≤ D + 1) : DV p d H f D ↔ DV p d H f' D' := by
  subst hD
  constructor
  · rintro ⟨q, q1, q2⟩
    have z := CNV.u0 (q := q) hu m (fun k hk => (q2 k (by omega)).sy.tr (hz k hk))
    refine ⟨fun i => q (m + i), fun i hi => q1 _ (by omega), fun k hk => ?_⟩
    refine (hf k hk).tr ((q2 (m + k) (by omega)).tr ?_)
    unfold CNV
    rw [show m + k + 1 = m + (k + 1) from by omega, SUMN.sp]
    have a : PmE p (SUMN (fun i => q i * d (m + k - i)) m) 0 := by
      have := SUMN.pe (p := p) (F := fun i => q i * d (m + k - i)) (G := fun _ => 0) m (fun j hj => by
        have := (z j hj).ml (PmE.rf (x := d (m + k - j)))
        rwa [Int.zero_mul] at this)
      rwa [SUMN.z] at this
    have b : SUMN (fun i => q (m + i) * d (m + k - (m + i))) (k + 1) = SUMN (fun i => q (m + i) * d (k - i)) (k + 1) := SUMN.cg _ (fun i _ => by rw [show m + k - (m + i) = k - i from by omega])
    have c := a.ad (PmE.rf (x := SUMN (fun i => q (m + i) * d (m + k - (m + i))) (k + 1)))
    rw [Int.zero_add, b] at c
    rw [b]; exact c
  · rintro ⟨q, q1, q2⟩
    refine ⟨SHY m q, fun i hi => ?_, fun k hk => ?_⟩
    · unfold SHY
      by_cases x : i < m
      · rw [if_pos x]
      · rw [if_neg x]; exact q1 _ (by omega)
    · by_cases x : k < m
      · rw [CNV.s0 x]; exact hz k x
      · have s := CNV.sh m q d (k - m)
        rw [show m + (k - m) = k from by omega] at s
        rw [s]
        have a := hf (k - m) (by omega)
        rw [show m + (k - m) = k from by omega] at a
        exact a.sy.tr (q2 _ (by omega))
/-- the same common divisors -/
def CDV (p : Int) (d : Nat → Int) (H : Int) (f : Nat → Int) (D : Int) (g : Nat → Int) (E : Int) : Prop := DV p d H f D ∧ DV p d H g E
def SCD (p : Int) (f : Nat → Int) (D : Int) (g : Nat → Int) (E : Int) (f' : Nat → Int) (D' : Int) (g' : Nat → Int) (E' : Int) : Prop := ∀ (d : Nat → Int) (H : Int), 0 ≤ H → UNI p d → SUP d H → (CDV p d H f D g E ↔ CDV p d H f' D' g' E')
theorem SCD.rf {p D E : Int} {f g : Nat → Int} : SCD p f D g E f D g E := fun _ _ _ _ _ => Iff.rfl
theorem SCD.tr {p D E D1 E1 D2 E2 : Int} {f g f1 g1 f2 g2 : Nat → Int} (h : SCD p f D g E f1 D1 g1 E1) (k : SCD p f1 D1 g1 E1 f2 D2 g2 E2) : SCD p f D g E f2 D2 g2 E2 := fun d H h0 hu hs => (h d H h0 hu hs).trans (k d H h0 hu hs)
theorem SCD.sw {p D E D1 E1 : Int} {f g f1 g1 : Nat → Int} (h : SCD p f D g E f1 D1 g1 E1) : SCD p f D g E g1 E1 f1 D1 := fun d H h0 hu hs => (h d H h0 hu hs).trans ⟨fun q => ⟨q.2, q.1⟩, fun q => ⟨q.2, q.1⟩⟩
theorem SCD.cg {p D E D1 E1 D2 E2 : Int} {f g f1 g1 f2 g2 : Nat → Int} (h : SCD p f D g E f1 D1 g1 E1) (eD : D2 = D1) (eE : E2 = E1) (ef : ∀ k : Nat, (k : Int) ≤ D1 → f2 k = f1 k) (eg : ∀ k : Nat, (k : Int) ≤ E1 → g2 k = g1 k) : SCD p f D g E f2 D2 g2 E2 := by
  subst eD; subst eE
  refine h.tr (fun d H _ _ _ => ⟨fun q => ⟨q.1.cg (fun k hk => by rw [ef k hk]; exact PmE.rf), q.2.cg (fun k hk => by rw [eg k hk]; exact PmE.rf)⟩, fun q => ⟨q.1.cg (fun k hk => by rw [ef k hk]; exact PmE.rf), q.2.cg (fun k hk => by rw [eg k hk]; exact PmE.rf)⟩⟩)
/-- less a part of the other -/
theorem SCD.sb {p D E c : Int} {f g f1 : Nat → Int} {m : Nat} (hE : E + m ≤ D) (e : ∀ k : Nat, (k : Int) ≤ D → PmE p (f1 k) (f k - c * (if m ≤ k ∧ ((k - m : Nat) : Int) ≤ E then g (k - m) else 0))) : SCD p f D g E f1 D g E := fun d H _ _ hs => ⟨fun q => ⟨(DV.sb hs hE e q.2).mp q.1, q.2⟩, fun q => ⟨(DV.sb hs hE e q.2).mpr q.1, q.2⟩⟩
/-- y taken away -/
theorem SCD.sh {p D D' E : Int} {f g f' : Nat → Int} {m : Nat} (hz : ∀ k : Nat, k < m → PmE p (f k) 0) (hf : ∀ k : Nat, (k : Int) ≤ D' → PmE p (f' k) (f (m + k))) (hD : D' = D - m) (hm : (m : Int) ≤ D + 1) : SCD p f D g E f' D' g E := fun d H _ hu _ => ⟨fun q => ⟨(DV.sh hu hz hf hD hm).mp q.1, q.2⟩, fun q => ⟨(DV.sh hu hz hf hD hm).mpr q.1, q.2⟩⟩
/-- what they have in common -/
def HCF (p : Int) (f : Nat → Int) (D : Int) (g : Nat → Int) (E : Int) (h : Nat → Int) (H : Int) : Prop := 0 ≤ H ∧ h 0 = 1 ∧ (∀ k : Nat, (k : Int) ≤ H → 0 ≤ h k ∧ h k < p) ∧ ∀ (d : Nat → Int) (Hd : Int), 0 ≤ Hd → UNI p d → SUP d Hd → (CDV p d Hd f D g E ↔ DV p d Hd h H)
def DL0 (x : Int) (i : Nat) : Int := if i = 0 then x else 0
theorem CNV.d0 (x : Int) (g : Nat → Int) (k : Nat) : CNV (DL0 x) g k = x * g k := by
  unfold CNV
  rw [show k + 1 = 1 + k from by omega, SUMN.sp]
  rw [SUMN.z0 k (fun i _ => by unfold DL0; rw [if_neg (by omega), Int.zero_mul])]
  show 0 + DL0 x 0 * g (k - 0) + 0 = x * g k
  unfold DL0
  rw [if_pos rfl, Nat.sub_zero]; omega
def CUT (h : Nat → Int) (H : Int) (k : Nat) : Int := if (k : Int) ≤ H then h k else 0
theorem HCF.le {p D E H H' : Int} {f g h h' : Nat → Int} (a : HCF p f D g E h H) (b : HCF p f D g E h' H') (hp : 1 < p) : H ≤ H' ∧ ∃ q : Nat → Int, (∀ i : Nat, H' < (i : Int) + H → q i = 0) ∧ ∀ k : Nat, (k : Int) ≤ H' → PmE p (h' k) (CNV q (CUT h H) k) := by
  obtain ⟨a0, a1, a2, a3⟩ := a
  obtain ⟨b0, b1, b2, b3⟩ := b
  have c0 : CUT h H 0 = 1 := by unfold CUT; rw [if_pos (by omega)]; exact a1
  have hu : UNI p (CUT h H) := ⟨1, by rw [c0]; exact PmE.rf⟩
  have hs : SUP (CUT h H) H := fun i hi => by unfold CUT; rw [if_neg (by omega)]
  have self : DV p (CUT h H) H h H := ⟨DL0 1, fun i hi => by unfold DL0; rw [if_neg (by omega)], fun k hk => by
    rw [CNV.d0, Int.one_mul]; unfold CUT; rw [if_pos hk]; exact PmE.rf⟩
  obtain ⟨q, q1, q2⟩ := (b3 _ H a0 hu hs).mp ((a3 _ H a0 hu hs).mpr self)
  refine ⟨?_, q, q1, q2⟩
  rcases Int.lt_or_le H' H with c | c
  · exfalso
    have e := q2 0 (by omega)
    have z : CNV q (CUT h H) 0 = 0 := SUMN.z0 _ (fun i hi => by
      show q i * _ = 0
      rw [q1 i (by omega), Int.zero_mul])
    rw [z, b1] at e
    have e : (1 : Int) % p = 0 % p := e
    rw [Int.emod_eq_of_lt (by decide) hp, Int.zero_emod] at e
    omega
  · exact c
theorem HCF.u {p D E H H' : Int} {f g h h' : Nat → Int} (a : HCF p f D g E h H) (b : HCF p f D g E h' H') (hp : 1 < p) : H = H' ∧ ∀ k : Nat, (k : Int) ≤ H → h k = h' k := by
  obtain ⟨l1, q, q1, q2⟩ := a.le b hp
  obtain ⟨l2, -⟩ := b.le a hp
  have e : H = H' := by omega
  subst e
  refine ⟨rfl, fun k hk => ?_⟩
  have hq : q = DL0 (q 0) := funext fun i => by
    unfold DL0
    by_cases x : i = 0
    · rw [if_pos x, x]
    · rw [if_neg x]; exact q1 i (by omega)
  have v : ∀ k : Nat, (k : Int) ≤ H → PmE p (h' k) (q 0 * h k) := fun k hk => by
    have := q2 k hk
    rw [hq, CNV.d0] at this
    unfold CUT at this
    rw [if_pos hk] at this
    exact this
  obtain ⟨a0, a1, a2, -⟩ := a
  obtain ⟨b0, b1, b2, -⟩ := b
  have v0 := v 0 (by omega)
  rw [a1, b1, Int.mul_one] at v0
  have w := (v k hk).tr (v0.sy.ml (PmE.rf (x := h k)))
  rw [Int.one_mul] at w
  exact (w.eq (b2 k hk).1 (b2 k hk).2 (a2 k hk).1 (a2 k hk).2).symm
/-- at the end: the other is nought -/
theorem HCF.fin {p D E B S c : Int} {f g b s h : Nat → Int} (t : SCD p f D g E b B s S) (z : ∀ k : Nat, (k : Int) ≤ S → s k = 0) (hB : 0 ≤ B) (hc : PmE p (c * b 0) 1) (hh : ∀ k : Nat, (k : Int) ≤ B → PmE p (h k) (c * b k) ∧ 0 ≤ h k ∧ h k < p) (hp : 1 < p) : HCF p f D g E h B := by
  refine ⟨hB, ?_, fun k hk => (hh k hk).2, fun d Hd h0 hu hs => (t d Hd h0 hu hs).trans ⟨fun q => ?_, fun q => ⟨?_, ⟨fun _ => 0, fun _ _ => rfl, fun k hk => ?_⟩⟩⟩⟩
  · have a := hh 0 (by omega)
    exact (a.1.tr hc).eq a.2.1 a.2.2 (by decide) hp
  · obtain ⟨r, r1, r2⟩ := q.1
    refine ⟨fun i => c * r i + 0 * r i, fun i hi => by show c * r i + 0 * r i = 0; rw [r1 i hi]; omega, fun k hk => ?_⟩
    rw [CNV.li, Int.zero_mul, Int.add_zero]
    exact (hh k hk).1.tr (PmE.rf.ml (r2 k hk))
  · obtain ⟨r, r1, r2⟩ := q
    refine ⟨fun i => b 0 * r i + 0 * r i, fun i hi => by show b 0 * r i + 0 * r i = 0; rw [r1 i hi]; omega, fun k hk => ?_⟩
    rw [CNV.li, Int.zero_mul, Int.add_zero]
    have a := (PmE.rf (x := b 0)).ml ((hh k hk).1.sy.tr (r2 k hk))
    rw [show b 0 * (c * b k) = c * b 0 * b k from by grind] at a
    have a2 := (hc.sy.ml (PmE.rf (x := b k))).tr a
    rwa [Int.one_mul] at a2
  · rw [z k hk]
    have : CNV (fun _ => 0) d k = 0 := SUMN.z0 _ (fun i _ => Int.zero_mul _)
    rw [this]; exact PmE.rf
/-- the first number that isn't nought -/
def FST (f : Nat → Int) (a : Nat) (D : Int) : Prop := (a : Int) ≤ D ∧ f a ≠ 0 ∧ ∀ k : Nat, k < a → f k = 0
theorem FST.u {f f' : Nat → Int} {a b : Nat} {D : Int} (h : FST f a D) (k : FST f' b D) (e : ∀ k : Nat, (k : Int) ≤ D → f k = f' k) : a = b := by
  obtain ⟨h1, h2, h3⟩ := h
  obtain ⟨k1, k2, k3⟩ := k
  rcases Nat.lt_trichotomy a b with c | c | c
  · exact absurd ((e a h1).trans (k3 a c)) h2
  · exact c
  · exact absurd ((e b k1).symm.trans (h3 b c)) k2
/-- what is told of two rows: y as often as in both, and what they have in common -/
def COM (p : Int) (f : Nat → Int) (D : Int) (g : Nat → Int) (E : Int) (r : Nat → Int) (W : Int) : Prop := ∃ (a b : Nat) (h : Nat → Int) (H : Int), FST f a D ∧ FST g b E ∧ HCF p (fun k => f (a + k)) (D - a) (fun k => g (b + k)) (E - b) h H ∧ W = ((min a b : Nat) : Int) + H ∧ ∀ k : Nat, (k : Int) ≤ W → r k = if k < min a b then 0 else h (k - min a b)
theorem COM.u {p D E W W' : Int} {f g f' g' r r' : Nat → Int} (x : COM p f D g E r W) (y : COM p f' D g' E r' W') (hp : 1 < p) (ef : ∀ k : Nat, (k : Int) ≤ D → f k = f' k) (eg : ∀ k : Nat, (k : Int) ≤ E → g k = g' k) : W = W' ∧ ∀ k : Nat, (k : Int) ≤ W → r k = r' k := by
  obtain ⟨a, b, h, H, x1, x2, x3, x4, x5⟩ := x
  obtain ⟨a', b', h', H', y1, y2, y3, y4, y5⟩ := y
  have ea := x1.u y1 ef
  have eb := x2.u y2 eg
  subst ea; subst eb
  have y3 : HCF p (fun k => f (a + k)) (D - a) (fun k => g (b + k)) (E - b) h' H' := by
    obtain ⟨z0, z1, z2, z3⟩ := y3
    refine ⟨z0, z1, z2, fun d Hd h0 hu hs => Iff.trans ⟨fun q => ⟨q.1.cg (fun k hk => ?_), q.2.cg (fun k hk => ?_)⟩, fun q => ⟨q.1.cg (fun k hk => ?_), q.2.cg (fun k hk => ?_)⟩⟩ (z3 d Hd h0 hu hs)⟩
    · show PmE p (f' (a + k)) (f (a + k)); rw [ef _ (by omega)]; exact PmE.rf
    · show PmE p (g' (b + k)) (g (b + k)); rw [eg _ (by omega)]; exact PmE.rf
    · show PmE p (f (a + k)) (f' (a + k)); rw [ef _ (by omega)]; exact PmE.rf
    · show PmE p (g (b + k)) (g' (b + k)); rw [eg _ (by omega)]; exact PmE.rf
  obtain ⟨eH, eh⟩ := x3.u y3 hp
  subst eH
  refine ⟨by omega, fun k hk => ?_⟩
  rw [x5 k hk, y5 k (by omega)]
  by_cases q : k < min a b
  · rw [if_pos q, if_pos q]
  · rw [if_neg q, if_neg q]; exact eh _ (by omega)
/-- a quotient -/
def QTO (p : Int) (q g : Nat → Int) (f : Nat → Int) (D E : Int) : Prop := (∀ i : Nat, D - E < (i : Int) → q i = 0) ∧ (∀ i : Nat, (i : Int) ≤ D - E → 0 ≤ q i ∧ q i < p) ∧ ∀ k : Nat, (k : Int) ≤ D → PmE p (f k) (CNV q (CUT g E) k)
theorem PRM.un {p a : Int} (hp : PRM p) (h0 : a ≠ 0) (h : 0 ≤ a ∧ a < p) : ∃ b, PmE p (b * a) 1 := by
  have d : ∀ q : Nat, q = 11 ∨ q = 13 ∨ q = 17 ∨ q = 19 → ∀ a : Nat, a < 19 → 0 < a → a < q → ∃ b : Nat, b < 19 ∧ (b * a) % q = 1 := by
    rintro q (rfl | rfl | rfl | rfl) <;> decide
  obtain ⟨b, -, hb⟩ := d p.toNat (by unfold PRM at hp; omega) a.toNat (by unfold PRM at hp; omega) (by omega) (by omega)
  refine ⟨(b : Int), ?_⟩
  have e1 : ((a.toNat : Nat) : Int) = a := by omega
  have e2 : ((p.toNat : Nat) : Int) = p := by unfold PRM at hp; omega
  have e3 : (((b * a.toNat) % p.toNat : Nat) : Int) = 1 := by rw [hb]; rfl
  rw [Int.natCast_emod, Int.natCast_mul, e1, e2] at e3
  show (b : Int) * a % p = 1 % p
  rw [e3]
  have : 1 < p := by unfold PRM at hp; omega
  exact (Int.emod_eq_of_lt (by decide) this).symm
/-- q times g where g begins behind b noughts -/
theorem CNV.fb {q g : Nat → Int} {b : Nat} (hz : ∀ k, k < b → g k = 0) (k : Nat) : CNV q g (k + b) = CNV q (fun i => g (i + b)) k := by
  unfold CNV
  rw [show k + b + 1 = (k + 1) + b from by omega, SUMN.sp]
  rw [SUMN.z0 b (fun i hi => by show q (k + 1 + i) * g (k + b - (k + 1 + i)) = 0; rw [hz _ (by omega), Int.mul_zero]), Int.add_zero]
  exact SUMN.cg _ (fun i hi => by rw [show k + b - i = k - i + b from by omega])
theorem QTO.u {p D E : Int} {q q' g g' f f' : Nat → Int} {b : Nat} (h : QTO p q g f D E) (k : QTO p q' g' f' D E) (hp : PRM p) (hb : FST g b E) (bg : ∀ k : Nat, (k : Int) ≤ E → 0 ≤ g k ∧ g k < p) (ef : ∀ k : Nat, (k : Int) ≤ D → f k = f' k) (eg : ∀ k : Nat, (k : Int) ≤ E → g k = g' k) (hE : E ≤ D) : ∀ i : Nat, (i : Int) ≤ D - E → q i = q' i := by
  obtain ⟨h1, h2, h3⟩ := h
  obtain ⟨k1, k2, k3⟩ := k
  have eC : CUT g E = CUT g' E := funext fun k => by
    unfold CUT
    by_cases c : (k : Int) ≤ E
    · rw [if_pos c, if_pos c]; exact eg k c
    · rw [if_neg c, if_neg c]
  obtain ⟨b1, b2, b3⟩ := hb
  have zb : ∀ k, k < b → CUT g E k = 0 := fun k hk => by unfold CUT; rw [if_pos (by omega)]; exact b3 k hk
  have hu : UNI p (fun i => CUT g E (i + b)) := by
    obtain ⟨e, he⟩ := PRM.un hp b2 (bg b b1)
    refine ⟨e, ?_⟩
    show PmE p (e * CUT g E (0 + b)) 1
    unfold CUT
    rw [Nat.zero_add, if_pos b1]; exact he
  have z := CNV.u0 (q := fun i => 1 * q i + (-1) * q' i) hu ((D - E).toNat + 1) (fun k hk => by
    rw [CNV.li, ← CNV.fb zb, ← CNV.fb zb]
    have a := h3 (k + b) (by omega)
    have c := k3 (k + b) (by omega)
    rw [← eC, ← ef _ (by omega)] at c
    have d := PmE.sbt a.sy c.sy
    rw [Int.sub_self] at d
    rwa [show 1 * CNV q (CUT g E) (k + b) + -1 * CNV q' (CUT g E) (k + b) = CNV q (CUT g E) (k + b) - CNV q' (CUT g E) (k + b) from by omega])
  intro i hi
  have a := z i (by omega)
  have a : PmE p (1 * q i + (-1) * q' i) 0 := a
  have c := a.ad (PmE.rf (x := q' i))
  rw [show 1 * q i + -1 * q' i + q' i = q i from by omega, Int.zero_add] at c
  exact c.eq (h2 i hi).1 (h2 i hi).2 (k2 i hi).1 (k2 i hi).2
theorem FSD.nq {f : Nat → Int} {x y D : Int} (h : FSD y D f) (hx : x = 1 ∧ y = -1 ∨ x = 0 ∧ y ≠ -1) : IFF x (ZRL f (D + 1)) := by
  rcases h with h | h
  · exact ⟨fun _ => h.2, fun q => by omega⟩
  · exact ⟨fun q => by omega, fun _ z => h.2.2.1 (z y.toNat (by have a := h.1; have b := h.2.1; omega))⟩
theorem NF.e {I1 I : IT} {b : Nat} (e : I1 b = I b) : NF I1 b = NF I b := by unfold NF; rw [e]
/-- y dropped -/
def DYL (I' I : IT) (b : Nat) (m k : Int) : Prop := ∀ j : Nat, (I' b j).toInt = if (j : Int) < k - m then (I b (j + m.toNat)).toInt else (I b j).toInt
theorem DYL.z {I : IT} {b : Nat} {m k : Int} (h : k = m) : DYL I I b m k := fun j => by rw [if_neg (by omega)]
theorem DYL.s {I I1 I2 : IT} {b : Nat} {D : Int} {m k k' n a : Int32} (h : DYL I1 I b m.toInt k.toInt) (ga : GTD a.toInt D (fun j => (I1 b j).toInt) k.toInt) (st : STD I1 I2 b n a) (hm : 0 < m.toInt) (hk : m.toInt ≤ k.toInt) (hD : k.toInt ≤ D) (h40 : D ≤ 40) (en : n.toInt = k.toInt - m.toInt) (hk' : k'.toInt = k.toInt + 1) : DYL I2 I b m.toInt k'.toInt := fun j => by
  have n0 := ncz (x := n) (by omega)
  have k0 := ncz (x := k) (by omega)
  have e2 := st.1 (by omega) (by omega)
  have va : a.toInt = (I b k.toNatClampNeg).toInt := by
    have q : a.toInt = (I1 b k.toNatClampNeg).toInt := ga.i (by omega) hD
    rw [q, h k.toNatClampNeg, if_neg (by omega)]
  rw [e2]
  by_cases q : j = n.toNatClampNeg
  · subst q
    rw [u2_s, va, if_pos (by omega), show n.toNatClampNeg + m.toInt.toNat = k.toNatClampNeg from by omega]
  · rw [u2_k q, h j]
    by_cases c : (j : Int) < k.toInt - m.toInt
    · rw [if_pos c, if_pos (by omega)]
    · rw [if_neg c, if_neg (by omega)]
def DRO (D : Int) (f : Nat → Int) (D' : Int) (f' : Nat → Int) : Prop := (ZRL f (D + 1) ∧ D' = D ∧ ∀ k : Nat, (k : Int) ≤ D → f' k = f k) ∨ ∃ a : Nat, FST f a D ∧ D' = D - a ∧ ∀ k : Nat, (k : Int) ≤ D' → f' k = f (a + k)
theorem DRO.of {I' I : IT} {b : Nat} {x D D' k : Int} {f' : Nat → Int} (f : FSD x D (NF I b)) (h : DYL I' I b x k) (hk : x ≤ 0 ∧ k = x ∨ 0 < x ∧ D < k) (h1 : 0 < x → D' = D - x) (h0 : x ≤ 0 → D' = D) (e : f' = NF I' b) : DRO D (NF I b) D' f' := by
  subst e
  rcases f with ⟨hx, z⟩ | ⟨x0, xD, nz, zr⟩
  · refine Or.inl ⟨z, h0 (by omega), fun j hj => ?_⟩
    have e := h j
    rw [if_neg (by omega)] at e; exact e
  · refine Or.inr ⟨x.toNat, ⟨by omega, nz, fun j hj => zr j (by omega)⟩, ?_, fun j hj => ?_⟩
    · by_cases c : 0 < x
      · have := h1 c; omega
      · have := h0 (by omega); omega
    · have e := h j
      by_cases c : 0 < x
      · have := h1 c
        rw [if_pos (by omega), Nat.add_comm] at e; exact e
      · have x9 : x = 0 := by omega
        subst x9
        rw [if_neg (by omega)] at e
        show (I' b j).toInt = (I b (0 + j)).toInt
        rw [Nat.zero_add]; exact e
theorem DRO.b {p D D' : Int} {f f' : Nat → Int} (h : DRO D f D' f') (hb : ∀ k : Nat, (k : Int) ≤ D → 0 ≤ f k ∧ f k < p) (h0 : 0 ≤ D) : (0 ≤ D' ∧ D' ≤ D) ∧ ∀ k : Nat, (k : Int) ≤ D' → 0 ≤ f' k ∧ f' k < p := by
  rcases h with ⟨-, e, q⟩ | ⟨a, ⟨a1, -⟩, e, q⟩
  · exact ⟨by omega, fun k hk => by rw [q k (by omega)]; exact hb k (by omega)⟩
  · exact ⟨by omega, fun k hk => by rw [q k hk]; exact hb _ (by omega)⟩
theorem IMX.s9 {w x y : Int32} (m : IMX w x y) (hx : 0 ≤ x.toInt ∧ x.toInt ≤ 18) (hy : 0 ≤ y.toInt ∧ y.toInt ≤ 18) : w.toInt = x.toInt * y.toInt := by
  have a : x.toInt * y.toInt ≤ 18 * 18 := Int.mul_le_mul hx.2 hy.2 hy.1 (by decide)
  have b := Int.mul_nonneg hx.1 hy.1
  exact m (by omega) (by omega)
theorem GTD.b0 {x D k p : Int} {f : Nat → Int} (h : GTD x D f k) (hk : k = 0) (hD : 0 ≤ D) (b : 0 ≤ f 0 ∧ f 0 < p) (hp : p ≤ 19) : 0 ≤ x ∧ x ≤ 18 := by
  subst hk
  have e : x = f 0 := h.1 (Int.le_refl 0) hD
  omega
def SBX (w x y : Int32) : Prop := -2147483648 ≤ x.toInt - y.toInt → x.toInt - y.toInt ≤ 2147483647 → w.toInt = x.toInt - y.toInt
section AutoE
variable {d : Nat} {q : mm_T} {mc ms : Nat} {Post : Po} {V : V_T} {pc pc2 : Nat} {lv : List (Nat × Value)} {r : List Value} {ck sk : Nat}
theorem z_isubX (C : Cl d q mc ms Post V) {M : Mm} {x y : Int32} (hi : cdf q.2.2.2.2.2.2 pc = some (.isub, 1)) (hp : pc + 1 = pc2) (h : ∀ w : Int32, SBX w x y → V pc2 lv (.int w :: r) M ck sk) : V pc lv (.int y :: .int x :: r) M ck sk := k_isub C hi hp (h _ (fun h1 h2 => ii_sub (by omega)))
end AutoE
/-- less the other, in place -/
def TRL (J F : Nat → Int32) (g : Nat → Int) (p t k : Int) : Prop := ∀ j : Nat, (J j).toInt = if (j : Int) < k then ((F j).toInt - t * g j) % p else (F j).toInt
theorem TRL.z {J F : Nat → Int32} {g : Nat → Int} {p t k : Int} (e : J = F) (h : k = 0) : TRL J F g p t k := fun j => by rw [if_neg (by omega), e]
theorem TRL.s {I1 I2 : IT} {b : Nat} {F : Nat → Int32} {g : Nat → Int} {p D E : Int} {t a c m s k k' o : Int32} {l : Int64} (h : TRL (I1 b) F g p t.toInt k.toInt) (ga : GTD a.toInt D (fun j => (I1 b j).toInt) k.toInt) (gc : GTD c.toInt E g k.toInt) (mm : IMX m t c) (sb : SBX s a m) (hl : l.toInt = s.toInt) (ho : o.toInt = l.toInt % p) (st : STD I1 I2 b k o) (bF : ∀ k : Nat, (k : Int) ≤ D → 0 ≤ (F k).toInt ∧ (F k).toInt < p) (bg : ∀ k : Nat, (k : Int) ≤ E → 0 ≤ g k ∧ g k < p) (hp : p ≤ 19) (bt : 0 ≤ t.toInt ∧ t.toInt ≤ 18) (h0 : 0 ≤ k.toInt) (hD : k.toInt ≤ D) (hE : k.toInt ≤ E) (h40 : D ≤ 40) (hk : k'.toInt = k.toInt + 1) : TRL (I2 b) F g p t.toInt k'.toInt := fun j => by
  have k0 := ncz h0
  have va : a.toInt = (F k.toNatClampNeg).toInt := by
    have q : a.toInt = (I1 b k.toNatClampNeg).toInt := ga.i h0 hD
    rw [q, h k.toNatClampNeg, if_neg (by omega)]
  have vc : c.toInt = g k.toNatClampNeg := gc.i h0 hE
  have bF := bF k.toNatClampNeg (by omega)
  have bg := bg k.toNatClampNeg (by omega)
  have b1 : t.toInt * c.toInt ≤ 18 * 18 := Int.mul_le_mul (by omega) (by omega) (by omega) (by decide)
  have b0 : 0 ≤ t.toInt * c.toInt := Int.mul_nonneg bt.1 (by omega)
  have em := mm (by omega) (by omega)
  have es := sb (by omega) (by omega)
  have e2 := st.1 h0 (by omega)
  rw [e2]
  by_cases q : j = k.toNatClampNeg
  · subst q
    rw [u2_s, if_pos (by omega), ho, hl, es, em, va, vc]
  · rw [u2_k q, h j]
    by_cases c : (j : Int) < k.toInt
    · rw [if_pos c, if_pos (by omega)]
    · rw [if_neg c, if_neg (by omega)]
theorem TRL.f {I1 I2 : IT} {b : Nat} {F : Nat → Int32} {g : Nat → Int} {p t k D E : Int} (h : TRL (I2 b) F g p t k) (e : I1 b = F) (hk : k = E + 1) : ∀ k : Nat, (k : Int) ≤ D → NF I2 b k = if (k : Int) ≤ E then (NF I1 b k - t * g k) % p else NF I1 b k := fun j _ => by
  have q := h j
  subst e
  show (I2 b j).toInt = _
  rw [q]
  by_cases c : (j : Int) ≤ E
  · rw [if_pos (by omega), if_pos c]; rfl
  · rw [if_neg (by omega), if_neg c]; rfl
theorem TRL.t {a o w k : Int32} {l : Int64} {t p D : Int} {f : Nat → Int} (ho : t = l.toInt % p) (hl : l.toInt = w.toInt) (mm : IMX w a o) (ga : GTD a.toInt D f k.toInt) (hk : k.toInt = 0) (hD : 0 ≤ D) (ba : 0 ≤ a.toInt ∧ a.toInt ≤ 18) (bo : 0 ≤ o.toInt ∧ o.toInt ≤ 18) : t = (f 0 * o.toInt) % p := by
  have e : a.toInt = f 0 := by
    have := ga.1 (by omega) (by omega)
    rw [hk] at this; exact this
  have m := IMX.s9 mm ba bo
  rw [ho, hl, m, e]
theorem TRL.o {o n k : Int32} {p D : Int} {g : Nat → Int} (h : INC o.toInt n.toInt p) (ga : GTD n.toInt D g k.toInt) (hk : k.toInt = 0) (hD : 0 ≤ D) (b : 0 ≤ g 0 ∧ g 0 < p) (nz : g 0 ≠ 0) (hp : 1 < p) : PmE p (o.toInt * g 0) 1 := by
  have e : n.toInt = g 0 := by
    have := ga.1 (by omega) (by omega)
    rw [hk] at this; exact this
  have q := h.2 (by omega) (by omega) (by omega)
  rw [e, Int.mul_comm] at q
  show _ % p = 1 % p
  rw [q, Int.emod_eq_of_lt (by decide) hp]
/-- what is left of f, divided by g -/
def TRF (p : Int) (F : Nat → Int) (D0 : Int) (f : Nat → Int) (D : Int) (g : Nat → Int) (E n : Int) : Prop := SCD p F D0 g E f D g E ∧ (∀ k : Nat, (k : Int) ≤ D → 0 ≤ f k ∧ f k < p) ∧ (0 ≤ D ∧ D ≤ D0) ∧ (ZRL f (D + 1) ∨ f 0 ≠ 0 ∧ D ≤ 40 - n)
theorem TRF.z {p D n E : Int} {F g : Nat → Int} (b : ∀ k : Nat, (k : Int) ≤ D → 0 ≤ F k ∧ F k < p) (h0 : 0 ≤ D) (h40 : D ≤ 40) (z : ZRL F (D + 1) ∨ F 0 ≠ 0) (hn : n = 0) : TRF p F D F D g E n := ⟨SCD.rf, b, ⟨h0, Int.le_refl _⟩, z.imp id (fun q => ⟨q, by omega⟩)⟩
theorem TRF.s {p D0 D D' E n n' t o : Int} {F f f1 f' g : Nat → Int} (h : TRF p F D0 f D g E n) (hE : E ≤ D) (h0 : 0 ≤ E) (nz : ¬ ZRL f (D + 1)) (e1 : ∀ k : Nat, (k : Int) ≤ D → f1 k = if (k : Int) ≤ E then (f k - t * g k) % p else f k) (ht : t = (f 0 * o) % p) (ho : PmE p (o * g 0) 1) (dr : DRO D f1 D' f') (hp : 0 < p) (hn : n' = n + 1) : TRF p F D0 f' D' g E n' := by
  obtain ⟨s, b, bD, z⟩ := h
  have z := z.resolve_left nz
  have b1 : ∀ k : Nat, (k : Int) ≤ D → 0 ≤ f1 k ∧ f1 k < p := fun k hk => by
    rw [e1 k hk]
    by_cases c : (k : Int) ≤ E
    · rw [if_pos c]; exact ⟨Int.emod_nonneg _ (by omega), Int.emod_lt_of_pos _ hp⟩
    · rw [if_neg c]; exact b k hk
  obtain ⟨dD, db⟩ := dr.b b1 bD.1
  have z0 : f1 0 = 0 := by
    have q : PmE p (f 0 - t * g 0) 0 := by
      rw [ht]
      have a : PmE p ((f 0 * o) % p * g 0) (f 0) := by
        have a := ((PmE.em (p := p) (f 0 * o)).ml (PmE.rf (x := g 0))).tr (by rw [Int.mul_assoc]; exact PmE.rf.ml ho : PmE p (f 0 * o * g 0) (f 0 * 1))
        rwa [Int.mul_one] at a
      have c := PmE.sbt (PmE.rf (x := f 0)) a
      rwa [Int.sub_self] at c
    rw [e1 0 (by omega), if_pos (by omega)]
    have q : (f 0 - t * g 0) % p = 0 % p := q
    rw [q, Int.zero_emod]
  have s1 : SCD p F D0 g E f1 D g E := s.tr (SCD.sb (c := t) (m := 0) (by omega) (fun k hk => by
    rw [e1 k hk]
    by_cases c : (k : Int) ≤ E
    · rw [if_pos c, if_pos ⟨Nat.zero_le _, by omega⟩, Nat.sub_zero]; exact PmE.em _
    · rw [if_neg c, if_neg (by omega), Int.mul_zero, Int.sub_zero]; exact PmE.rf))
  rcases dr with ⟨q1, q2, q3⟩ | ⟨a, ⟨a1, a2, a3⟩, q2, q3⟩
  · subst q2
    exact ⟨s1.cg rfl rfl q3 (fun _ _ => rfl), db, ⟨by omega, by omega⟩, Or.inl (q1.cg (fun k hk => (q3 k (by omega)).symm))⟩
  · have a0 : 1 ≤ a := by
      rcases Nat.eq_zero_or_pos a with c | c
      · subst c; exact absurd z0 a2
      · exact c
    refine ⟨s1.tr (SCD.sh (m := a) (fun k hk => by rw [a3 k hk]; exact PmE.rf) (fun k hk => by rw [q3 k hk]; exact PmE.rf) q2 (by omega)), db, ⟨by omega, by omega⟩, Or.inr ⟨?_, by omega⟩⟩
    rw [q3 0 (by omega), Nat.add_zero]; exact a2
def TRP9 (p : Int) (F : Nat → Int) (D0 : Int) (f : Nat → Int) (D : Int) (g : Nat → Int) (E : Int) : Prop := SCD p F D0 g E f D g E ∧ (∀ k : Nat, (k : Int) ≤ D → 0 ≤ f k ∧ f k < p) ∧ (0 ≤ D ∧ D ≤ D0) ∧ (ZRL f (D + 1) ∨ f 0 ≠ 0 ∧ D < E)
theorem TRF.e {p D0 D E n : Int} {F f g : Nat → Int} (h : TRF p F D0 f D g E n) (c : D < E ∨ ZRL f (D + 1) ∨ 40 < n) : TRP9 p F D0 f D g E := by
  obtain ⟨s, b, bD, z⟩ := h
  refine ⟨s, b, bD, ?_⟩
  rcases z with z | z
  · exact Or.inl z
  · rcases c with c | c | c
    · exact Or.inr ⟨z.1, c⟩
    · exact Or.inl c
    · omega
/-- behind copying: y dropped of what was copied -/
theorem DRO.cp {D D1 D' : Int} {f f1 f' : Nat → Int} (h : DRO D1 f1 D' f') (eD : D1 = D) (e : ∀ k : Nat, (k : Int) ≤ D → f1 k = f k) : DRO D f D' f' := by
  subst eD
  rcases h with ⟨q1, q2, q3⟩ | ⟨a, ⟨a1, a2, a3⟩, q2, q3⟩
  · exact Or.inl ⟨q1.cg (fun k hk => e k (by omega)), q2, fun k hk => (q3 k hk).trans (e k hk)⟩
  · exact Or.inr ⟨a, ⟨a1, by rw [← e a a1]; exact a2, fun k hk => (e k (by omega)).symm.trans (a3 k hk)⟩, q2, fun k hk => (q3 k hk).trans (e _ (by omega))⟩
theorem DRO.nz {D D' : Int} {f f' : Nat → Int} (h : DRO D f D' f') (nz : ¬ ZRL f (D + 1)) : ∃ a : Nat, FST f a D ∧ D' = D - a ∧ ∀ k : Nat, (k : Int) ≤ D' → f' k = f (a + k) := by
  rcases h with h | h
  · exact absurd h.1 nz
  · exact h
theorem FSD.a {x D : Int} {f : Nat → Int} {a : Nat} (h : FSD x D f) (g : FST f a D) : x = a := by
  rcases h with ⟨-, z⟩ | ⟨x0, xD, nz, zr⟩
  · exact absurd (z a (by have := g.1; omega)) g.2.1
  · have e : x.toNat = a := FST.u (f := f) (f' := f) (D := D) ⟨by omega, nz, fun k hk => zr k (by omega)⟩ g (fun _ _ => rfl)
    omega
/-- on the way: big and small -/
def EUS (p : Int) (F : Nat → Int) (D : Int) (G : Nat → Int) (E : Int) (b : Nat → Int) (B : Int) (s : Nat → Int) (S n : Int) : Prop := SCD p F D G E b B s S ∧ (∀ k : Nat, (k : Int) ≤ B → 0 ≤ b k ∧ b k < p) ∧ (∀ k : Nat, (k : Int) ≤ S → 0 ≤ s k ∧ s k < p) ∧ b 0 ≠ 0 ∧ (0 ≤ B ∧ 0 ≤ S) ∧ (ZRL s (S + 1) ∨ s 0 ≠ 0 ∧ S ≤ 40 - n) ∧ (B ≤ 20 ∧ S ≤ 20)
theorem EUS.z {p D E B S D1 E1 n : Int} {f g b s : Nat → Int} {i j : Nat} (hf : FST f i D1) (hg : FST g j E1) (bf : ∀ k : Nat, (k : Int) ≤ D1 → 0 ≤ f k ∧ f k < p) (bg : ∀ k : Nat, (k : Int) ≤ E1 → 0 ≤ g k ∧ g k < p) (eB : B = D1 - i) (eS : S = E1 - j) (eb : ∀ k : Nat, (k : Int) ≤ B → b k = f (i + k)) (es : ∀ k : Nat, (k : Int) ≤ S → s k = g (j + k)) (hD : D = D1 - i) (hE : E = E1 - j) (h4 : D1 ≤ 20 ∧ E1 ≤ 20) (hn : n = 0) : EUS p (fun k => f (i + k)) D (fun k => g (j + k)) E b B s S n := by
  subst hD; subst hE; subst eB; subst eS; subst hn
  have i1 := hf.1
  have j1 := hg.1
  refine ⟨SCD.rf.cg rfl rfl eb es, fun k hk => by rw [eb k hk]; exact bf _ (by omega), fun k hk => by rw [es k hk]; exact bg _ (by omega), ?_, ⟨by omega, by omega⟩, Or.inr ⟨?_, by omega⟩, by omega, by omega⟩
  · rw [eb 0 (by omega), Nat.add_zero]; exact hf.2.1
  · rw [es 0 (by omega), Nat.add_zero]; exact hg.2.1
theorem EUS.st {p D E B B' S S' n n' : Int} {F G b b' s s' : Nat → Int} (h : EUS p F D G E b B s S n) (nz : ¬ ZRL s (S + 1)) (t : TRP9 p b B b' B' s S) (es : s' = s) (eS : S' = S) (hn : n' = n + 1) : EUS p F D G E s' S' b' B' n' := by
  subst es; subst eS; subst hn
  obtain ⟨h1, h2, h3, h4, h5, h6, m2, m3⟩ := h
  obtain ⟨t1, t2, t3, t4⟩ := t
  have h6 := h6.resolve_left nz
  refine ⟨(h1.tr t1).sw, h3, t2, h6.1, ⟨h5.2, t3.1⟩, ?_, m3, by omega⟩
  rcases t4 with t4 | t4
  · exact Or.inl t4
  · exact Or.inr ⟨t4.1, by omega⟩
theorem EUS.n {p D E B S n n' : Int} {F G b s : Nat → Int} (h : EUS p F D G E b B s S n) (e : n' = n) : EUS p F D G E b B s S n' := by subst e; exact h
theorem EUS.fin {p D E B S n : Int} {F G b s : Nat → Int} (h : EUS p F D G E b B s S n) (c : ZRL s (S + 1) ∨ 80 < n) : SCD p F D G E b B s S ∧ (∀ k : Nat, (k : Int) ≤ S → s k = 0) ∧ b 0 ≠ 0 ∧ (∀ k : Nat, (k : Int) ≤ B → 0 ≤ b k ∧ b k < p) ∧ 0 ≤ B ∧ B ≤ 20 := by
  obtain ⟨h1, h2, h3, h4, h5, h6, m2, m3⟩ := h
  refine ⟨h1, fun k hk => ?_, h4, h2, h5.1, m2⟩
  rcases h6 with h6 | h6
  · exact h6 k (by omega)
  · rcases c with c | c
    · exact c k (by omega)
    · omega
/-- put behind y's -/
def COL (J : Nat → Int32) (y : Int) (b : Nat → Int) (o p k : Int) : Prop := ∀ j : Nat, j < 41 → (J j).toInt = if (j : Int) < y ∨ y + k ≤ (j : Int) then 0 else (b (j - y.toNat) * o) % p
theorem COL.z {J : Nat → Int32} {y : Int} {b : Nat → Int} {o p k : Int} (h : ∀ j : Nat, j < 41 → (J j).toInt = 0) (hk : k = 0) : COL J y b o p k := fun j hj => by rw [h j hj, if_pos (by omega)]
theorem COL.s {I1 I2 : IT} {r : Nat} {b : Nat → Int} {p B y : Int} {a w k k' n o v : Int32} {l : Int64} (h : COL (I1 r) y b o.toInt p k.toInt) (ga : GTD a.toInt B b k.toInt) (mm : IMX w a o) (hl : l.toInt = w.toInt) (hv : v.toInt = l.toInt % p) (st : STD I1 I2 r n v) (bb : ∀ k : Nat, (k : Int) ≤ B → 0 ≤ b k ∧ b k < p) (hp : p ≤ 19) (bo : 0 ≤ o.toInt ∧ o.toInt ≤ 18) (hy : 0 ≤ y) (h0 : 0 ≤ k.toInt) (hB : k.toInt ≤ B) (h40 : y + B ≤ 40) (en : n.toInt = y + k.toInt) (hk : k'.toInt = k.toInt + 1) : COL (I2 r) y b o.toInt p k'.toInt := fun j hj => by
  have n0 := ncz (x := n) (by omega)
  have k0 := ncz h0
  have e2 := st.1 (by omega) (by omega)
  have va : a.toInt = b k.toNatClampNeg := ga.i h0 hB
  have b9 := bb k.toNatClampNeg (by omega)
  have m := IMX.s9 mm (by omega) bo
  rw [e2]
  by_cases q : j = n.toNatClampNeg
  · subst q
    rw [u2_s, if_neg (by omega), hv, hl, m, va, show n.toNatClampNeg - y.toNat = k.toNatClampNeg from by omega]
  · rw [u2_k q, h j hj]
    by_cases c : (j : Int) < y ∨ y + k.toInt ≤ (j : Int)
    · rw [if_pos c, if_pos (by omega)]
    · rw [if_neg c, if_neg (by omega)]
theorem COM.of {p D E D1 E1 B S W y k : Int} {f g b s r : Nat → Int} {i j : Nat} {o : Int32} {J : Nat → Int32} (hf : FST f i D) (hg : FST g j E) (t : SCD p (fun k => f (i + k)) D1 (fun k => g (j + k)) E1 b B s S ∧ (∀ k : Nat, (k : Int) ≤ S → s k = 0) ∧ b 0 ≠ 0 ∧ (∀ k : Nat, (k : Int) ≤ B → 0 ≤ b k ∧ b k < p) ∧ 0 ≤ B ∧ B ≤ 20) (hD : D1 = D - i) (hE : E1 = E - j) (ho : PmE p (o.toInt * b 0) 1) (c : COL J y b o.toInt p k) (hk : k = B + 1) (hy : y = ((min i j : Nat) : Int)) (hW : W = y + B) (h40 : W ≤ 40) (er : r = fun j => (J j).toInt) (hp : 1 < p) : COM p f D g E r W := by
  subst hD; subst hE; subst er; subst hk
  obtain ⟨t1, t2, t3, t4, t5, t6⟩ := t
  refine ⟨i, j, fun k => (b k * o.toInt) % p, B, hf, hg, HCF.fin (c := o.toInt) t1 t2 t5 ho (fun k hk => ⟨?_, Int.emod_nonneg _ (by omega), Int.emod_lt_of_pos _ (by omega)⟩) hp, by omega, fun k hk => ?_⟩
  · rw [Int.mul_comm o.toInt]; exact PmE.em _
  · show (J k).toInt = _
    rw [c k (by omega)]
    by_cases q : k < min i j
    · rw [if_pos (by omega), if_pos q]
    · rw [if_neg (by omega), if_neg q, show k - y.toNat = k - min i j from by omega]
/-- common's answer -/
def CMA (x p D E k : Int) (f g : Nat → Int) : Prop := ((ZRL f (D + 1) ∨ ZRL g (E + 1)) → x = -2) ∧ (¬ (ZRL f (D + 1) ∨ ZRL g (E + 1)) → ∃ (r : Nat → Int) (W : Int), COM p f D g E r W ∧ DON x W r k)
theorem CMA.z {x p D E k : Int} {f g : Nat → Int} (z : ZRL f (D + 1) ∨ ZRL g (E + 1)) (h : x = -2) : CMA x p D E k f g := ⟨fun _ => h, fun q => absurd z q⟩
theorem CMA.y {x p D E W k : Int} {f g r : Nat → Int} (z1 : ¬ ZRL f (D + 1)) (z2 : ¬ ZRL g (E + 1)) (c : COM p f D g E r W) (d : DON x W r k) : CMA x p D E k f g := ⟨fun q => absurd q (fun z => z.elim z1 z2), fun _ => ⟨r, W, c, d⟩⟩
theorem CMA.u {x y p D E k : Int} {f g f' g' : Nat → Int} (h : CMA x p D E k f g) (h2 : CMA y p D E k f' g') (hp : 1 < p) (ef : ∀ k : Nat, (k : Int) ≤ D → f k = f' k) (eg : ∀ k : Nat, (k : Int) ≤ E → g k = g' k) : x = y := by
  by_cases z : ZRL f (D + 1) ∨ ZRL g (E + 1)
  · have z' : ZRL f' (D + 1) ∨ ZRL g' (E + 1) := z.imp (fun q => q.cg (fun k hk => ef k (by omega))) (fun q => q.cg (fun k hk => eg k (by omega)))
    rw [h.1 z, h2.1 z']
  · have z' : ¬ (ZRL f' (D + 1) ∨ ZRL g' (E + 1)) := fun q => z (q.imp (fun q => q.cg (fun k hk => (ef k (by omega)).symm)) (fun q => q.cg (fun k hk => (eg k (by omega)).symm)))
    obtain ⟨r, W, c, d⟩ := h.2 z
    obtain ⟨r', W', c', d'⟩ := h2.2 z'
    obtain ⟨e1, e2⟩ := c.u c' hp ef eg
    subst e1
    exact DON.eq' d d' e2
theorem ZRL.cg2 {f : Nat → Int} {n n' : Int} (h : ZRL f n) (e : n' = n) : ZRL f n' := by subst e; exact h
theorem COM.dd {p D D' E E' W : Int} {f g r : Nat → Int} (h : COM p f D g E r W) (eD : D' = D) (eE : E' = E) : COM p f D' g E' r W := by subst eD; subst eE; exact h
/-- plain's answer -/
def VRF (u : Nat → Int) (p n : Int) (g : Nat → Int) : Prop := ∀ j : Nat, (j : Int) ≤ n → 0 ≤ u j ∧ u j < p ∧ PmE p (u j) (g j)
theorem VRF.u {u v g g' : Nat → Int} {p n : Int} (h : VRF u p n g) (k : VRF v p n g') (e : ∀ j : Nat, (j : Int) ≤ n → PmE p (g j) (g' j)) : ∀ j : Nat, (j : Int) ≤ n → u j = v j := fun j hj => by
  obtain ⟨a1, a2, a3⟩ := h j hj
  obtain ⟨b1, b2, b3⟩ := k j hj
  exact (a3.tr ((e j hj).tr b3.sy)).eq a1 a2 b1 b2
theorem VRX.vf {I : IT} {b : Nat} {p n D : Int} {f : Nat → Int} {x y : Int32} {a c : Nat} {D' : Int} (h : VRX I b p n (DIF f D' x.toNatClampNeg y.toNatClampNeg)) (hn : n = D - 1) (eD : D' = D) (hx : x.toNatClampNeg = a) (hy : y.toNatClampNeg = c) : VRF (NF I b) p (D - 1) (DIF f D a c) := by
  subst hn; subst hx; subst hy; subst eD
  exact h
def PLN (x p D : Int) (f : Nat → Int) : Prop := (D < 2 → x = 0) ∧ (¬ D < 2 → ∃ u v : Nat → Int, VRF u p (D - 1) (DIF f D 1 0) ∧ VRF v p (D - 1) (DIF f D 0 1) ∧ ((ZRL u (D - 1 + 1) ∨ ZRL v (D - 1 + 1)) → x = 0) ∧ (¬ (ZRL u (D - 1 + 1) ∨ ZRL v (D - 1 + 1)) → ∃ (r : Nat → Int) (W : Int), COM p u (D - 1) v (D - 1) r W ∧ (W = 0 → x = 1) ∧ (W ≠ 0 → x = 0)))
theorem PLN.s {x p D : Int} {f : Nat → Int} (h : D < 2) (e : x = 0) : PLN x p D f := ⟨fun _ => e, fun q => absurd h q⟩
theorem PLN.z {x p D : Int} {f u v : Nat → Int} (h : ¬ D < 2) (hu : VRF u p (D - 1) (DIF f D 1 0)) (hv : VRF v p (D - 1) (DIF f D 0 1)) (z : ZRL u (D - 1 + 1) ∨ ZRL v (D - 1 + 1)) (e : x = 0) : PLN x p D f := ⟨fun q => absurd q h, fun _ => ⟨u, v, hu, hv, fun _ => e, fun q => absurd z q⟩⟩
theorem PLN.y {x p D W : Int} {f u v r : Nat → Int} (h : ¬ D < 2) (hu : VRF u p (D - 1) (DIF f D 1 0)) (hv : VRF v p (D - 1) (DIF f D 0 1)) (z1 : ¬ ZRL u (D - 1 + 1)) (z2 : ¬ ZRL v (D - 1 + 1)) (c : COM p u (D - 1) v (D - 1) r W) (h1 : W = 0 → x = 1) (h0 : W ≠ 0 → x = 0) : PLN x p D f := ⟨fun q => absurd q h, fun _ => ⟨u, v, hu, hv, fun q => absurd q (fun z => z.elim z1 z2), fun _ => ⟨r, W, c, h1, h0⟩⟩⟩
theorem PLN.u {x y p D : Int} {f f' : Nat → Int} (h : PLN x p D f) (k : PLN y p D f') (hp : 1 < p) (e : ∀ k : Nat, (k : Int) ≤ D → f k = f' k) : x = y := by
  by_cases q : D < 2
  · rw [h.1 q, k.1 q]
  · obtain ⟨u, v, h1, h2, h3, h4⟩ := h.2 q
    obtain ⟨u', v', k1, k2, k3, k4⟩ := k.2 q
    have d : ∀ a b : Nat, a + b = 1 → ∀ j : Nat, (j : Int) ≤ D - 1 → PmE p (DIF f D a b j) (DIF f' D a b j) := fun a b ab j hj => by
      unfold DIF
      rw [e (j + b) (by omega)]; exact PmE.rf
    have eu := h1.u k1 (d 1 0 rfl)
    have ev := h2.u k2 (d 0 1 rfl)
    by_cases z : ZRL u (D - 1 + 1) ∨ ZRL v (D - 1 + 1)
    · have z' : ZRL u' (D - 1 + 1) ∨ ZRL v' (D - 1 + 1) := z.imp (fun q => q.cg (fun k hk => eu k (by omega))) (fun q => q.cg (fun k hk => ev k (by omega)))
      rw [h3 z, k3 z']
    · have z' : ¬ (ZRL u' (D - 1 + 1) ∨ ZRL v' (D - 1 + 1)) := fun q => z (q.imp (fun q => q.cg (fun k hk => (eu k (by omega)).symm)) (fun q => q.cg (fun k hk => (ev k (by omega)).symm)))
      obtain ⟨r, W, c, c1, c0⟩ := h4 z
      obtain ⟨r', W', c', c1', c0'⟩ := k4 z'
      obtain ⟨e1, -⟩ := c.u c' hp eu ev
      subst e1
      by_cases w : W = 0
      · rw [c1 w, c1' w]
      · rw [c0 w, c0' w]
theorem s_X2_dropY_x {d : Nat} {T N : Nat → Nat} {I : IT} {L : LT} {R : RT} {A B : Nat → Prop} {r0 : Nat} (hS : SUB B A) (hI : IX A T I) (H_r0 : (hs_F T N R A B) r0) : Ex (d + 3) 29 [.ref r0] (T, N, I, L, R) 0 0 (pV T N R (fun I9 L9 => ((I9 r0 0).toInt ≤ (I r0 0).toInt) ∧ (DRO (I r0 0).toInt (NF I (rA R r0 1)) (I9 r0 0).toInt (NF I9 (rA R r0 1))) ∧ (IX A T I9 ∧ Chg (SL [r0, (rA R r0 1)]) T [(3, 0)] I L I9 L9))) := by
  refine ⟨_, rfl, Nat.le_of_ble_eq_true rfl, fun V C S => ?_⟩
  show V 0 [(0, .ref r0)] [] (T, N, I, L, R) 0 0
  obtain ⟨T_r0, A_r0, ⟨r0_1, R_r0_1, H_r0_1⟩⟩ := id H_r0
  have z_r0_1 : rA R r0 1 = r0_1 := rA_e R_r0_1
  obtain ⟨T_r0_1, N_r0_1, A_r0_1⟩ := id H_r0_1
  obtain ⟨w_r0_0, k0_r0_0⟩ : ∃ x, I r0 0 = x := ⟨_, rfl⟩
  have gw_r0_0 := rg w_r0_0
  have ow_r0_0 := IX.deg hI A_r0 T_r0 k0_r0_0
  refine k_aload_n C rfl rfl rfl ?_
  refine c_VI C (s_X2_first_x hS hI H_r0) rfl rfl rfl rfl rfl ⟨_, rfl, rfl, T_r0, Nat.le_of_ble_eq_true rfl⟩ rfl rfl (Nat.le_of_ble_eq_true rfl) (Nat.le_of_ble_eq_true rfl) (Nat.le_of_ble_eq_true rfl) ?_
  rintro x1 _ _ ⟨o0x1, o1x1, p0x1, p1x1, rfl, rfl⟩
  have gx1 := rg x1
  try simp only [z_r0_1] at p0x1
  try simp only [z_r0_1] at p1x1
  try simp only [k0_r0_0] at p0x1
  try have q0x1 := congrArg Int32.toInt p0x1
  try simp only [k0_r0_0] at p1x1
  try have q1x1 := congrArg Int32.toInt p1x1
  have hfs := p1x1; (try simp only [k0_r0_0] at hfs)
  refine k_istore_n C (lw := [(1, .int x1), (0, .ref r0)]) rfl rfl (Nat.le_of_ble_eq_true rfl) rfl ?_
  refine k_iload_n C rfl rfl rfl ?_
  have J2 : ∀ (nn3 : Nat) (I4 : IT) (L5 : LT) (x6 : Int32) (x11 : Int32), (MN (41 - x6.toInt) nn3) → (IX A T I4) → (Chg (SL [r0, r0_1]) T [] I L I4 L5) → (-1 ≤ x6.toInt) → (x6.toInt ≤ 41) → (I4 r0 0 = x11) → (0 ≤ x11.toInt) → (x11.toInt ≤ 40) → (DYL I4 I r0_1 x1.toInt x6.toInt) → (x11.toInt = w_r0_0.toInt) → (x1.toInt ≤ 0 ∧ x6.toInt = x1.toInt ∨ 0 < x1.toInt ∧ x1.toInt ≤ x6.toInt) → V 7 [(0, .ref r0), (1, .int x1), (2, .int x6)] [] (T, N, I4, L5, R) 0 0 := by
    intro nn3
    induction nn3 using Nat.strongRecOn with
    | _ nn3 ihJ2 =>
      intro I4 L5 x6 x11 hmnn3 hI10 S9 b7 b8 e12 b13 b14 ff7_0 ff7_1 ff7_2
      have gx6 := rg x6
      have gx11 := rg x11
      have e18 := Chg.k S9 T_r0 (by decide) (by decide) k0_r0_0
      refine k_iload_n C rfl rfl rfl ?_
      refine b_if_le C (t := 37) rfl rfl rfl (fun c19 => ?_) (fun c19 => ?_)
      · skip
        refine k_aload_n C rfl rfl rfl ?_
        refine k_dup C rfl rfl rfl ?_
        refine g_I C rfl rfl rfl T_r0 rfl e12 ?_
        refine k_iload_n C rfl rfl rfl ?_
        refine b_if_le C (t := 50) rfl rfl rfl (fun c20 => ?_) (fun c20 => ?_)
        · skip
          refine z_iconst C (z := 0) rfl rfl rfl (fun x21 ex21 => ?_)
          refine z_isub C rfl rfl ⟨by omega, by omega⟩ (fun x22 ex22 => ?_)
          refine z_pI C rfl rfl rfl T_r0 (Or.inr rfl) rfl (fun I23 uI23 => ?_)
          have hI23 : IX A T I23 := IX.f hI10 T_r0 ⟨fun _ _ => ⟨by omega, by omega⟩, fun h => absurd h (by decide)⟩ uI23
          have S24 : Chg (SL [r0]) T [(3, 0)] I4 L5 I23 L5 := Chg.f List.mem_cons_self T_r0 uI23
          have e25 := u2_e uI23
          have hput := uI23
          exact k_vret C rfl rfl (Nat.le_of_ble_eq_true rfl) (Nat.le_of_ble_eq_true rfl) ⟨_, _, rfl, rfl, by (try simp only [z_r0_1]); rw [e25]; simp only [k0_r0_0]; omega, by (try simp only [z_r0_1]); rw [e25]; simp only [k0_r0_0]; exact DRO.of hfs ff7_0 (by omega) (fun h9 => by omega) (fun h9 => by omega) (NF.e (by rw [hput]; exact u2_r (t_nq T_r0_1 T_r0 (by decide)))), hI23, (by (try simp only [z_r0_1]); exact (Chg.cons S9 (Chg.mono (Chg.up S24 (List.forall_mem_cons.mpr ⟨List.mem_of_getElem? (i := 0) rfl, fun _ h => nomatch h⟩)) (by decide)) (by decide)))⟩
        refine k_iload_n C rfl rfl rfl ?_
        refine k_goto C (pc2 := 51) rfl rfl ?_
        refine z_isub C rfl rfl ⟨by omega, by omega⟩ (fun x26 ex26 => ?_)
        refine z_pI C rfl rfl rfl T_r0 (Or.inr rfl) rfl (fun I27 uI27 => ?_)
        have hI27 : IX A T I27 := IX.f hI10 T_r0 ⟨fun _ _ => ⟨by omega, by omega⟩, fun h => absurd h (by decide)⟩ uI27
        have S28 : Chg (SL [r0]) T [(3, 0)] I4 L5 I27 L5 := Chg.f List.mem_cons_self T_r0 uI27
        have e29 := u2_e uI27
        have hput := uI27
        exact k_vret C rfl rfl (Nat.le_of_ble_eq_true rfl) (Nat.le_of_ble_eq_true rfl) ⟨_, _, rfl, rfl, by (try simp only [z_r0_1]); rw [e29]; simp only [k0_r0_0]; omega, by (try simp only [z_r0_1]); rw [e29]; simp only [k0_r0_0]; exact DRO.of hfs ff7_0 (by omega) (fun h9 => by omega) (fun h9 => by omega) (NF.e (by rw [hput]; exact u2_r (t_nq T_r0_1 T_r0 (by decide)))), hI27, (by (try simp only [z_r0_1]); exact (Chg.cons S9 (Chg.mono (Chg.up S28 (List.forall_mem_cons.mpr ⟨List.mem_of_getElem? (i := 0) rfl, fun _ h => nomatch h⟩)) (by decide)) (by decide)))⟩
      refine k_iload_n C rfl rfl rfl ?_
      refine k_aload_n C rfl rfl rfl ?_
      refine g_I C rfl rfl rfl T_r0 rfl e12 ?_
      refine b_icmp_gt C (t := 37) rfl rfl rfl (fun c30 => ?_) (fun c30 => ?_)
      · skip
        refine k_aload_n C rfl rfl rfl ?_
        refine k_dup C rfl rfl rfl ?_
        refine g_I C rfl rfl rfl T_r0 rfl e12 ?_
        refine k_iload_n C rfl rfl rfl ?_
        refine b_if_le C (t := 50) rfl rfl rfl (fun c31 => ?_) (fun c31 => ?_)
        · skip
          refine z_iconst C (z := 0) rfl rfl rfl (fun x32 ex32 => ?_)
          refine z_isub C rfl rfl ⟨by omega, by omega⟩ (fun x33 ex33 => ?_)
          refine z_pI C rfl rfl rfl T_r0 (Or.inr rfl) rfl (fun I34 uI34 => ?_)
          have hI34 : IX A T I34 := IX.f hI10 T_r0 ⟨fun _ _ => ⟨by omega, by omega⟩, fun h => absurd h (by decide)⟩ uI34
          have S35 : Chg (SL [r0]) T [(3, 0)] I4 L5 I34 L5 := Chg.f List.mem_cons_self T_r0 uI34
          have e36 := u2_e uI34
          have hput := uI34
          exact k_vret C rfl rfl (Nat.le_of_ble_eq_true rfl) (Nat.le_of_ble_eq_true rfl) ⟨_, _, rfl, rfl, by (try simp only [z_r0_1]); rw [e36]; simp only [k0_r0_0]; omega, by (try simp only [z_r0_1]); rw [e36]; simp only [k0_r0_0]; exact DRO.of hfs ff7_0 (by omega) (fun h9 => by omega) (fun h9 => by omega) (NF.e (by rw [hput]; exact u2_r (t_nq T_r0_1 T_r0 (by decide)))), hI34, (by (try simp only [z_r0_1]); exact (Chg.cons S9 (Chg.mono (Chg.up S35 (List.forall_mem_cons.mpr ⟨List.mem_of_getElem? (i := 0) rfl, fun _ h => nomatch h⟩)) (by decide)) (by decide)))⟩
        refine k_iload_n C rfl rfl rfl ?_
        refine k_goto C (pc2 := 51) rfl rfl ?_
        refine z_isub C rfl rfl ⟨by omega, by omega⟩ (fun x37 ex37 => ?_)
        refine z_pI C rfl rfl rfl T_r0 (Or.inr rfl) rfl (fun I38 uI38 => ?_)
        have hI38 : IX A T I38 := IX.f hI10 T_r0 ⟨fun _ _ => ⟨by omega, by omega⟩, fun h => absurd h (by decide)⟩ uI38
        have S39 : Chg (SL [r0]) T [(3, 0)] I4 L5 I38 L5 := Chg.f List.mem_cons_self T_r0 uI38
        have e40 := u2_e uI38
        have hput := uI38
        exact k_vret C rfl rfl (Nat.le_of_ble_eq_true rfl) (Nat.le_of_ble_eq_true rfl) ⟨_, _, rfl, rfl, by (try simp only [z_r0_1]); rw [e40]; simp only [k0_r0_0]; omega, by (try simp only [z_r0_1]); rw [e40]; simp only [k0_r0_0]; exact DRO.of hfs ff7_0 (by omega) (fun h9 => by omega) (fun h9 => by omega) (NF.e (by rw [hput]; exact u2_r (t_nq T_r0_1 T_r0 (by decide)))), hI38, (by (try simp only [z_r0_1]); exact (Chg.cons S9 (Chg.mono (Chg.up S39 (List.forall_mem_cons.mpr ⟨List.mem_of_getElem? (i := 0) rfl, fun _ h => nomatch h⟩)) (by decide)) (by decide)))⟩
      refine k_aload_n C rfl rfl rfl ?_
      refine k_iload_n C rfl rfl rfl ?_
      refine k_iload_n C rfl rfl rfl ?_
      refine z_isub C rfl rfl ⟨by omega, by omega⟩ (fun x41 ex41 => ?_)
      refine k_aload_n C rfl rfl rfl ?_
      refine k_iload_n C rfl rfl rfl ?_
      refine c_VI C (s_X2_get_x hS hI10 H_r0) rfl rfl rfl rfl rfl ⟨_, rfl, rfl, T_r0, Nat.le_of_ble_eq_true rfl⟩ rfl rfl (Nat.le_of_ble_eq_true rfl) (Nat.le_of_ble_eq_true rfl) (Nat.le_of_ble_eq_true rfl) ?_
      rintro x42 _ _ ⟨p0x42, rfl, rfl⟩
      have gx42 := rg x42
      try simp only [z_r0_1] at p0x42
      try simp only [e12] at p0x42
      try have q0x42 := congrArg Int32.toInt p0x42
      have hga := p0x42; (try simp only [e12] at hga)
      refine c_VV C (s_X2_set_x hS hI10 H_r0) rfl rfl rfl rfl rfl ⟨_, rfl, rfl, T_r0, Nat.le_of_ble_eq_true rfl⟩ rfl rfl (Nat.le_of_ble_eq_true rfl) (Nat.le_of_ble_eq_true rfl) (Nat.le_of_ble_eq_true rfl) ?_
      rintro I44 L45 ⟨p0v43, hI44, S46⟩
      try simp only [z_r0_1] at S46
      have e47 := Chg.k S46 T_r0 (by decide) (by decide) e12
      try simp only [z_r0_1] at p0v43
      try simp only [e12] at p0v43
      try have q0v43 := congrArg Int32.toInt p0v43
      have hse := p0v43
      refine z_iinc C (z := 1) (lw := fun x48 => [(2, .int x48), (0, .ref r0), (1, .int x1)]) rfl rfl rfl (Nat.le_of_ble_eq_true rfl) rfl ⟨by omega, by omega⟩ (fun _ => rfl) (fun x48 ex48 => ?_)
      show V 34 [(2, .int x48), (0, .ref r0), (1, .int x1)] _ _ _ _
      refine k_goto C (pc2 := 7) rfl rfl ?_
      refine k_sub S [(0, .ref r0), (1, .int x1), (2, .int x48)] (List.forall_mem_cons.mpr ⟨List.mem_of_getElem? (i := 1) rfl, List.forall_mem_cons.mpr ⟨List.mem_of_getElem? (i := 2) rfl, List.forall_mem_cons.mpr ⟨List.mem_of_getElem? (i := 0) rfl, fun _ h => nomatch h⟩⟩⟩) ?_
      exact ihJ2 _ (MN.lt hmnn3 (by omega) (by omega)) I44 L45 x48 x11 rfl hI44 (Chg.cons S9 (Chg.mono (Chg.up S46 (List.forall_mem_cons.mpr ⟨List.mem_of_getElem? (i := 1) rfl, fun _ h => nomatch h⟩)) (by decide)) (by decide)) (by omega) (by omega) e47 (by omega) (by omega) (by exact DYL.s ff7_0 hga hse (by omega) (by omega) (by omega) (by omega) (by omega) (by omega)) (by omega) (by omega)
  refine k_istore_n C (lw := [(2, .int x1), (1, .int x1), (0, .ref r0)]) rfl rfl (Nat.le_of_ble_eq_true rfl) rfl ?_
  refine k_sub S [(0, .ref r0), (1, .int x1), (2, .int x1)] (List.forall_mem_cons.mpr ⟨List.mem_of_getElem? (i := 2) rfl, List.forall_mem_cons.mpr ⟨List.mem_of_getElem? (i := 1) rfl, List.forall_mem_cons.mpr ⟨List.mem_of_getElem? (i := 0) rfl, fun _ h => nomatch h⟩⟩⟩) ?_
  exact J2 _ I L x1 w_r0_0 rfl hI Chg.rf (by omega) (by omega) k0_r0_0 (by omega) (by omega) (by exact DYL.z (by omega)) (by omega) (by omega)

theorem s_X2_isNought_x {d : Nat} {T N : Nat → Nat} {I : IT} {L : LT} {R : RT} {A B : Nat → Prop} {r0 : Nat} (hS : SUB B A) (hI : IX A T I) (H_r0 : (hs_F T N R A B) r0) : Ex (d + 3) 30 [.ref r0] (T, N, I, L, R) 0 0 (pI T N R (fun x9 I9 L9 => (0 ≤ x9.toInt) ∧ (x9.toInt ≤ 1) ∧ (IFF x9.toInt (ZRL (fun k => (I (rA R r0 1) k).toInt) ((I r0 0).toInt + 1))) ∧ (I = I9 ∧ L = L9))) := by
  refine ⟨_, rfl, Nat.le_of_ble_eq_true rfl, fun V C S => ?_⟩
  show V 0 [(0, .ref r0)] [] (T, N, I, L, R) 0 0
  obtain ⟨T_r0, A_r0, ⟨r0_1, R_r0_1, H_r0_1⟩⟩ := id H_r0
  have z_r0_1 : rA R r0 1 = r0_1 := rA_e R_r0_1
  refine k_aload_n C rfl rfl rfl ?_
  refine c_VI C (s_X2_first_x hS hI H_r0) rfl rfl rfl rfl rfl ⟨_, rfl, rfl, T_r0, Nat.le_of_ble_eq_true rfl⟩ rfl rfl (Nat.le_of_ble_eq_true rfl) (Nat.le_of_ble_eq_true rfl) (Nat.le_of_ble_eq_true rfl) ?_
  rintro x1 _ _ ⟨o0x1, o1x1, p0x1, p1x1, rfl, rfl⟩
  have gx1 := rg x1
  try simp only [z_r0_1] at p0x1
  try simp only [z_r0_1] at p1x1
  have hfs := p1x1
  refine z_iconst C (z := -1) rfl rfl rfl (fun x2 ex2 => ?_)
  refine b_icmp_ne C (t := 12) rfl rfl rfl (fun c3 => ?_) (fun c3 => ?_)
  · skip
    refine z_iconst C (z := 0) rfl rfl rfl (fun x4 ex4 => ?_)
    exact k_iret C rfl (Or.inr ⟨rfl, z01 (by omega) (by omega)⟩) (Nat.le_of_ble_eq_true rfl) (Nat.le_of_ble_eq_true rfl) ⟨_, _, _, rfl, rfl, by omega, by omega, by (try simp only [z_r0_1]); exact FSD.nq hfs (by omega), rfl, rfl⟩
  refine z_iconst C (z := 1) rfl rfl rfl (fun x5 ex5 => ?_)
  refine k_goto C (pc2 := 13) rfl rfl ?_
  exact k_iret C rfl (Or.inr ⟨rfl, z01 (by omega) (by omega)⟩) (Nat.le_of_ble_eq_true rfl) (Nat.le_of_ble_eq_true rfl) ⟨_, _, _, rfl, rfl, by omega, by omega, by (try simp only [z_r0_1]); exact FSD.nq hfs (by omega), rfl, rfl⟩

theorem s_X0_takeRest_x {d : Nat} {T N : Nat → Nat} {I : IT} {L : LT} {R : RT} {A B : Nat → Prop} {r0 r1 r2 : Nat} (hS : SUB B A) (hI : IX A T I) (H_r0 : (hs_Al T N R A B) r0) (H_r1 : (hs_F T N R A B) r1) (H_r2 : (hs_F T N R A B) r2) (hU : UPR T R) (hp0 : NQ9 r1 r2) (hp1 : BNX I (rA R r1 1) (I r1 0).toInt (I (rA R r0 0) 0).toInt) (hp2 : BNX I (rA R r2 1) (I r2 0).toInt (I (rA R r0 0) 0).toInt) (hp3 : ZRL (NF I (rA R r1 1)) ((I r1 0).toInt + 1) ∨ NF I (rA R r1 1) 0 ≠ 0) (hp4 : NF I (rA R r2 1) 0 ≠ 0) (hp5 : PRM (I (rA R r0 0) 0).toInt) : Ex (d + 4) 31 [.ref r0, .ref r1, .ref r2] (T, N, I, L, R) 0 0 (pV T N R (fun I9 L9 => (TRP9 (I (rA R r0 0) 0).toInt (NF I (rA R r1 1)) (I r1 0).toInt (NF I9 (rA R r1 1)) (I9 r1 0).toInt (NF I (rA R r2 1)) (I r2 0).toInt) ∧ (IX A T I9 ∧ Chg (SL [r1, (rA R r1 1)]) T [(3, 0)] I L I9 L9))) := by
  refine ⟨_, rfl, Nat.le_of_ble_eq_true rfl, fun V C S => ?_⟩
  show V 0 [(0, .ref r0), (1, .ref r1), (2, .ref r2)] [] (T, N, I, L, R) 0 0
  obtain ⟨T_r0, A_r0, B_r0, ⟨r0_0, R_r0_0, H_r0_0⟩, ⟨r0_1, R_r0_1, H_r0_1⟩, ⟨r0_2, R_r0_2, H_r0_2⟩⟩ := id H_r0
  have z_r0_0 : rA R r0 0 = r0_0 := rA_e R_r0_0
  have z_r0_1 : rA R r0 1 = r0_1 := rA_e R_r0_1
  have z_r0_2 : rA R r0 2 = r0_2 := rA_e R_r0_2
  obtain ⟨T_r1, A_r1, ⟨r1_1, R_r1_1, H_r1_1⟩⟩ := id H_r1
  have z_r1_1 : rA R r1 1 = r1_1 := rA_e R_r1_1
  obtain ⟨T_r2, A_r2, ⟨r2_1, R_r2_1, H_r2_1⟩⟩ := id H_r2
  have z_r2_1 : rA R r2 1 = r2_1 := rA_e R_r2_1
  obtain ⟨T_r0_0, A_r0_0, B_r0_0, ⟨r0_0_6, R_r0_0_6, H_r0_0_6⟩, ⟨r0_0_7, R_r0_0_7, H_r0_0_7⟩, ⟨r0_0_8, R_r0_0_8, H_r0_0_8⟩, ⟨r0_0_9, R_r0_0_9, H_r0_0_9⟩, ⟨r0_0_10, R_r0_0_10, H_r0_0_10⟩⟩ := id H_r0_0
  have z_r0_0_6 : rA R r0_0 6 = r0_0_6 := rA_e R_r0_0_6
  have z_r0_0_7 : rA R r0_0 7 = r0_0_7 := rA_e R_r0_0_7
  have z_r0_0_8 : rA R r0_0 8 = r0_0_8 := rA_e R_r0_0_8
  have z_r0_0_9 : rA R r0_0 9 = r0_0_9 := rA_e R_r0_0_9
  have z_r0_0_10 : rA R r0_0 10 = r0_0_10 := rA_e R_r0_0_10
  obtain ⟨T_r1_1, N_r1_1, A_r1_1⟩ := id H_r1_1
  obtain ⟨T_r2_1, N_r2_1, A_r2_1⟩ := id H_r2_1
  try simp only [z_r0_0, z_r0_1, z_r0_2, z_r1_1, z_r2_1, z_r0_0_6, z_r0_0_7, z_r0_0_8, z_r0_0_9, z_r0_0_10] at hp0
  try simp only [z_r0_0, z_r0_1, z_r0_2, z_r1_1, z_r2_1, z_r0_0_6, z_r0_0_7, z_r0_0_8, z_r0_0_9, z_r0_0_10] at hp1
  try simp only [z_r0_0, z_r0_1, z_r0_2, z_r1_1, z_r2_1, z_r0_0_6, z_r0_0_7, z_r0_0_8, z_r0_0_9, z_r0_0_10] at hp2
  try simp only [z_r0_0, z_r0_1, z_r0_2, z_r1_1, z_r2_1, z_r0_0_6, z_r0_0_7, z_r0_0_8, z_r0_0_9, z_r0_0_10] at hp3
  try simp only [z_r0_0, z_r0_1, z_r0_2, z_r1_1, z_r2_1, z_r0_0_6, z_r0_0_7, z_r0_0_8, z_r0_0_9, z_r0_0_10] at hp4
  try simp only [z_r0_0, z_r0_1, z_r0_2, z_r1_1, z_r2_1, z_r0_0_6, z_r0_0_7, z_r0_0_8, z_r0_0_9, z_r0_0_10] at hp5
  obtain ⟨w_r1_0, k0_r1_0⟩ : ∃ x, I r1 0 = x := ⟨_, rfl⟩
  have gw_r1_0 := rg w_r1_0
  have ow_r1_0 := IX.deg hI A_r1 T_r1 k0_r1_0
  obtain ⟨w_r2_0, k0_r2_0⟩ : ∃ x, I r2 0 = x := ⟨_, rfl⟩
  have gw_r2_0 := rg w_r2_0
  have ow_r2_0 := IX.deg hI A_r2 T_r2 k0_r2_0
  obtain ⟨w_r0_0_0, k0_r0_0_0⟩ : ∃ x, I r0_0 0 = x := ⟨_, rfl⟩
  have gw_r0_0_0 := rg w_r0_0_0
  have ow_r0_0_0 := IX.p hI A_r0_0 T_r0_0 k0_r0_0_0
  try simp only [k0_r1_0, k0_r2_0, k0_r0_0_0] at hp0
  try simp only [k0_r1_0, k0_r2_0, k0_r0_0_0] at hp1
  try simp only [k0_r1_0, k0_r2_0, k0_r0_0_0] at hp2
  try simp only [k0_r1_0, k0_r2_0, k0_r0_0_0] at hp3
  try simp only [k0_r1_0, k0_r2_0, k0_r0_0_0] at hp4
  try simp only [k0_r1_0, k0_r2_0, k0_r0_0_0] at hp5
  have nb : NQ9 r1_1 r2_1 := hU.ne (Or.inr (Or.inr (Or.inr (by omega)))) R_r1_1 R_r2_1 (Or.inl hp0)
  try simp only [k0_r1_0, k0_r0_0_0] at hp1
  try simp only [k0_r2_0, k0_r0_0_0] at hp2
  try simp only [k0_r1_0] at hp3
  try simp only [k0_r0_0_0] at hp5
  have hg0 := hp2 0 (by omega)
  refine k_aload_n C rfl rfl rfl ?_
  refine k_aload_n C rfl rfl rfl ?_
  refine z_iconst C (z := 0) rfl rfl rfl (fun x1 ex1 => ?_)
  refine c_VI C (s_X2_get_x hS hI H_r2) rfl rfl rfl rfl rfl ⟨_, rfl, rfl, T_r2, Nat.le_of_ble_eq_true rfl⟩ rfl rfl (Nat.le_of_ble_eq_true rfl) (Nat.le_of_ble_eq_true rfl) (Nat.le_of_ble_eq_true rfl) ?_
  rintro x2 _ _ ⟨p0x2, rfl, rfl⟩
  have gx2 := rg x2
  try simp only [z_r0_0, z_r0_1, z_r0_2, z_r1_1, z_r2_1, z_r0_0_6, z_r0_0_7, z_r0_0_8, z_r0_0_9, z_r0_0_10] at p0x2
  try simp only [k0_r1_0, k0_r2_0, k0_r0_0_0] at p0x2
  try have q0x2 := congrArg Int32.toInt p0x2
  have hg3 := p0x2; (try simp only [k0_r2_0] at hg3); have hb3 := GTD.b0 hg3 (by omega) (by omega) hg0 (by omega)
  refine c_VI C (s_X0_inverse_x hS hI H_r0 (by omega) (by omega) (by rw [z_r0_0, k0_r0_0_0]; exact hp5)) rfl rfl rfl rfl rfl ⟨_, rfl, rfl, T_r0, Nat.le_of_ble_eq_true rfl⟩ rfl rfl (Nat.le_of_ble_eq_true rfl) (Nat.le_of_ble_eq_true rfl) (Nat.le_of_ble_eq_true rfl) ?_
  rintro x3 _ _ ⟨o0x3, o1x3, p0x3, rfl, rfl⟩
  have gx3 := rg x3
  try simp only [z_r0_0, z_r0_1, z_r0_2, z_r1_1, z_r2_1, z_r0_0_6, z_r0_0_7, z_r0_0_8, z_r0_0_9, z_r0_0_10] at p0x3
  try simp only [k0_r1_0, k0_r2_0, k0_r0_0_0] at p0x3
  try have q0x3 := congrArg Int32.toInt p0x3
  have hin := p0x3; (try simp only [k0_r0_0_0] at hin); have hib := hin.1; have ho9 := TRL.o hin hg3 (by omega) (by omega) hg0 hp4 (by omega)
  refine k_istore_n C (lw := [(3, .int x3), (0, .ref r0), (1, .ref r1), (2, .ref r2)]) rfl rfl (Nat.le_of_ble_eq_true rfl) rfl ?_
  refine z_iconst C (z := 0) rfl rfl rfl (fun x4 ex4 => ?_)
  have J5 : ∀ (nn6 : Nat) (I7 : IT) (L8 : LT) (x9 : Int32) (x14 : Int32) (x18 : Int32), (MN (41 - x9.toInt) nn6) → (IX A T I7) → (Chg (SL [r1, r1_1]) T [(3, 0)] I L I7 L8) → (0 ≤ x9.toInt) → (x9.toInt ≤ 41) → (I7 r1 0 = x14) → (0 ≤ x14.toInt) → (x14.toInt ≤ 40) → (I7 r2 0 = x18) → (0 ≤ x18.toInt) → (x18.toInt ≤ 40) → (TRF w_r0_0_0.toInt (NF I r1_1) w_r1_0.toInt (NF I7 r1_1) x14.toInt (NF I r2_1) w_r2_0.toInt x9.toInt) → (x18.toInt = w_r2_0.toInt) → V 13 [(0, .ref r0), (1, .ref r1), (2, .ref r2), (3, .int x3), (4, .int x9)] [] (T, N, I7, L8, R) 0 0 := by
    intro nn6
    induction nn6 using Nat.strongRecOn with
    | _ nn6 ihJ5 =>
      intro I7 L8 x9 x14 x18 hmnn6 hI13 S12 b10 b11 e15 b16 b17 e19 b20 b21 ff13_0 ff13_1
      have gx9 := rg x9
      have gx14 := rg x14
      have gx18 := rg x18
      have e24 := Chg.k S12 T_r0_0 (by decide) (by decide) k0_r0_0_0
      refine k_iload C rfl rfl rfl ?_
      refine z_bipush C (z := 40) rfl rfl rfl (fun x25 ex25 => ?_)
      refine b_icmp_gt C (t := 107) rfl rfl rfl (fun c26 => ?_) (fun c26 => ?_)
      · skip
        exact k_vret C rfl rfl (Nat.le_of_ble_eq_true rfl) (Nat.le_of_ble_eq_true rfl) ⟨_, _, rfl, rfl, by (try simp only [z_r0_0, z_r0_1, z_r0_2, z_r1_1, z_r2_1, z_r0_0_6, z_r0_0_7, z_r0_0_8, z_r0_0_9, z_r0_0_10]); rw [e15]; simp only [k0_r1_0, k0_r2_0, k0_r0_0_0]; exact TRF.e ff13_0 (by first | exact Or.inl (by omega) | exact Or.inr (Or.inl (hnq.1 (by omega))) | exact Or.inr (Or.inr (by omega))), hI13, (by (try simp only [z_r0_0, z_r0_1, z_r0_2, z_r1_1, z_r2_1, z_r0_0_6, z_r0_0_7, z_r0_0_8, z_r0_0_9, z_r0_0_10]); exact (Chg.mono S12 (by decide)))⟩
      refine k_aload_n C rfl rfl rfl ?_
      refine g_I C rfl rfl rfl T_r1 rfl e15 ?_
      refine k_aload_n C rfl rfl rfl ?_
      refine g_I C rfl rfl rfl T_r2 rfl e19 ?_
      refine b_icmp_lt C (t := 107) rfl rfl rfl (fun c27 => ?_) (fun c27 => ?_)
      · skip
        exact k_vret C rfl rfl (Nat.le_of_ble_eq_true rfl) (Nat.le_of_ble_eq_true rfl) ⟨_, _, rfl, rfl, by (try simp only [z_r0_0, z_r0_1, z_r0_2, z_r1_1, z_r2_1, z_r0_0_6, z_r0_0_7, z_r0_0_8, z_r0_0_9, z_r0_0_10]); rw [e15]; simp only [k0_r1_0, k0_r2_0, k0_r0_0_0]; exact TRF.e ff13_0 (by first | exact Or.inl (by omega) | exact Or.inr (Or.inl (hnq.1 (by omega))) | exact Or.inr (Or.inr (by omega))), hI13, (by (try simp only [z_r0_0, z_r0_1, z_r0_2, z_r1_1, z_r2_1, z_r0_0_6, z_r0_0_7, z_r0_0_8, z_r0_0_9, z_r0_0_10]); exact (Chg.mono S12 (by decide)))⟩
      refine k_aload_n C rfl rfl rfl ?_
      refine c_VI C (s_X2_isNought_x hS hI13 H_r1) rfl rfl rfl rfl rfl ⟨_, rfl, rfl, T_r1, Nat.le_of_ble_eq_true rfl⟩ rfl rfl (Nat.le_of_ble_eq_true rfl) (Nat.le_of_ble_eq_true rfl) (Nat.le_of_ble_eq_true rfl) ?_
      rintro x28 _ _ ⟨o0x28, o1x28, p0x28, rfl, rfl⟩
      have gx28 := rg x28
      try simp only [z_r0_0, z_r0_1, z_r0_2, z_r1_1, z_r2_1, z_r0_0_6, z_r0_0_7, z_r0_0_8, z_r0_0_9, z_r0_0_10] at p0x28
      try simp only [e24, e15, e19] at p0x28
      try have q0x28 := congrArg Int32.toInt p0x28
      have hnq := p0x28; (try simp only [e15] at hnq)
      refine b_if_ne C (t := 107) rfl rfl rfl (fun c29 => ?_) (fun c29 => ?_)
      · skip
        exact k_vret C rfl rfl (Nat.le_of_ble_eq_true rfl) (Nat.le_of_ble_eq_true rfl) ⟨_, _, rfl, rfl, by (try simp only [z_r0_0, z_r0_1, z_r0_2, z_r1_1, z_r2_1, z_r0_0_6, z_r0_0_7, z_r0_0_8, z_r0_0_9, z_r0_0_10]); rw [e15]; simp only [k0_r1_0, k0_r2_0, k0_r0_0_0]; exact TRF.e ff13_0 (by first | exact Or.inl (by omega) | exact Or.inr (Or.inl (hnq.1 (by omega))) | exact Or.inr (Or.inr (by omega))), hI13, (by (try simp only [z_r0_0, z_r0_1, z_r0_2, z_r1_1, z_r2_1, z_r0_0_6, z_r0_0_7, z_r0_0_8, z_r0_0_9, z_r0_0_10]); exact (Chg.mono S12 (by decide)))⟩
      refine k_aload_n C rfl rfl rfl ?_
      refine k_aload_n C rfl rfl rfl ?_
      refine z_iconst C (z := 0) rfl rfl rfl (fun x30 ex30 => ?_)
      refine c_VI C (s_X2_get_x hS hI13 H_r1) rfl rfl rfl rfl rfl ⟨_, rfl, rfl, T_r1, Nat.le_of_ble_eq_true rfl⟩ rfl rfl (Nat.le_of_ble_eq_true rfl) (Nat.le_of_ble_eq_true rfl) (Nat.le_of_ble_eq_true rfl) ?_
      rintro x31 _ _ ⟨p0x31, rfl, rfl⟩
      have gx31 := rg x31
      try simp only [z_r0_0, z_r0_1, z_r0_2, z_r1_1, z_r2_1, z_r0_0_6, z_r0_0_7, z_r0_0_8, z_r0_0_9, z_r0_0_10] at p0x31
      try simp only [e24, e15, e19] at p0x31
      try have q0x31 := congrArg Int32.toInt p0x31
      have hg41 := p0x31; (try simp only [e15] at hg41); have hb41 := GTD.b0 hg41 (by omega) (by omega) (ff13_0.2.1 0 (by omega)) (by omega)
      refine k_iload_n C rfl rfl rfl ?_
      refine z_imulE C rfl rfl (fun x32 ex32 => ?_)
      have gx32 := rg x32
      have m45 := ex32
      refine z_i2l C rfl rfl (fun lg33 elg33 => ?_)
      have hl47 := elg33
      refine c_VI C (s_X0_of_x hS hI13 H_r0) rfl rfl rfl rfl rfl ⟨_, rfl, rfl, T_r0, Nat.le_of_ble_eq_true rfl⟩ rfl rfl (Nat.le_of_ble_eq_true rfl) (Nat.le_of_ble_eq_true rfl) (Nat.le_of_ble_eq_true rfl) ?_
      rintro x34 _ _ ⟨o0x34, o1x34, p0x34, p1x34, rfl, rfl⟩
      have gx34 := rg x34
      try simp only [z_r0_0, z_r0_1, z_r0_2, z_r1_1, z_r2_1, z_r0_0_6, z_r0_0_7, z_r0_0_8, z_r0_0_9, z_r0_0_10] at p0x34
      try simp only [z_r0_0, z_r0_1, z_r0_2, z_r1_1, z_r2_1, z_r0_0_6, z_r0_0_7, z_r0_0_8, z_r0_0_9, z_r0_0_10] at p1x34
      try simp only [e24, e15, e19] at p0x34
      try have q0x34 := congrArg Int32.toInt p0x34
      try simp only [e24, e15, e19] at p1x34
      try have q1x34 := congrArg Int32.toInt p1x34
      have ho47 := p0x34; (try simp only [e24] at ho47); obtain ⟨F1, eF1⟩ : ∃ F1 : Nat → Int32, I7 r1_1 = F1 := ⟨_, rfl⟩; have hbF : ∀ k : Nat, (k : Int) ≤ x14.toInt → 0 ≤ (F1 k).toInt ∧ (F1 k).toInt < w_r0_0_0.toInt := (fun k hk => by (rw [← eF1]; exact ff13_0.2.1 k hk)); have ht9 := TRL.t ho47 hl47 m45 hg41 (by omega) (by omega) ⟨by omega, by omega⟩ ⟨by omega, by omega⟩
      refine k_istore C (lw := [(5, .int x34), (0, .ref r0), (1, .ref r1), (2, .ref r2), (3, .int x3), (4, .int x9)]) rfl rfl (Nat.le_of_ble_eq_true rfl) rfl ?_
      refine z_iconst C (z := 0) rfl rfl rfl (fun x35 ex35 => ?_)
      have J36 : ∀ (nn37 : Nat) (I38 : IT) (L39 : LT) (x40 : Int32), (MN (41 - x40.toInt) nn37) → (IX A T I38) → (Chg (SL [r1, r1_1]) T [] I7 L8 I38 L39) → (0 ≤ x40.toInt) → (x40.toInt ≤ 41) → (TRL (I38 r1_1) F1 (NF I r2_1) w_r0_0_0.toInt x34.toInt x40.toInt) → (x40.toInt ≤ w_r2_0.toInt + 1) → V 55 [(0, .ref r0), (1, .ref r1), (2, .ref r2), (3, .int x3), (4, .int x9), (5, .int x34), (6, .int x40)] [] (T, N, I38, L39, R) 0 0 := by
        intro nn37
        induction nn37 using Nat.strongRecOn with
        | _ nn37 ihJ36 =>
          intro I38 L39 x40 hmnn37 hI44 S43 b41 b42 ff55_0 ff55_1
          have gx40 := rg x40
          have e47 := Chg.k S43 T_r0_0 (by decide) (by decide) e24
          have e48 := Chg.k S43 T_r1 (by decide) (by decide) e15
          have e49 := Chg.k S43 T_r2 (by decide) (by decide) e19
          refine k_iload C rfl rfl rfl ?_
          refine k_aload_n C rfl rfl rfl ?_
          refine g_I C rfl rfl rfl T_r2 rfl e49 ?_
          refine b_icmp_gt C (t := 97) rfl rfl rfl (fun c50 => ?_) (fun c50 => ?_)
          · skip
            refine k_aload_n C rfl rfl rfl ?_
            have hkd := e48
            refine c_VV C (s_X2_dropY_x hS hI44 H_r1) rfl rfl rfl rfl rfl ⟨_, rfl, rfl, T_r1, Nat.le_of_ble_eq_true rfl⟩ rfl rfl (Nat.le_of_ble_eq_true rfl) (Nat.le_of_ble_eq_true rfl) (Nat.le_of_ble_eq_true rfl) ?_
            rintro I52 L53 ⟨p0v51, p1v51, hI52, S54⟩
            try simp only [z_r0_0, z_r0_1, z_r0_2, z_r1_1, z_r2_1, z_r0_0_6, z_r0_0_7, z_r0_0_8, z_r0_0_9, z_r0_0_10] at S54
            have e55 := Chg.k S54 T_r0_0 (by decide) (by decide) e47
            have e56 := (congrFun (Chg.at S54 (nm_2 (by first | exact hp0 | exact fun e => hp0 e.symm) (t_nq T_r2 T_r1_1 (by decide)))) 0).trans e49
            obtain ⟨x57, e58⟩ : ∃ x, I52 r1 0 = x := ⟨_, rfl⟩
            have gx57 := rg x57
            have ox57 := IX.deg hI52 A_r1 T_r1 e58
            try simp only [z_r0_0, z_r0_1, z_r0_2, z_r1_1, z_r2_1, z_r0_0_6, z_r0_0_7, z_r0_0_8, z_r0_0_9, z_r0_0_10] at p0v51
            try simp only [z_r0_0, z_r0_1, z_r0_2, z_r1_1, z_r2_1, z_r0_0_6, z_r0_0_7, z_r0_0_8, z_r0_0_9, z_r0_0_10] at p1v51
            try simp only [e47, e48, e49, e58] at p0v51
            try have q0v51 := congrArg Int32.toInt p0v51
            try simp only [e47, e48, e49, e58] at p1v51
            try have q1v51 := congrArg Int32.toInt p1v51
            have hdr := p1v51; (try rw [hkd] at hdr); (try rw [e58] at hdr)
            refine z_iinc C (z := 1) (lw := fun x59 => [(4, .int x59), (0, .ref r0), (1, .ref r1), (2, .ref r2), (3, .int x3), (5, .int x34), (6, .int x40)]) rfl rfl rfl (Nat.le_of_ble_eq_true rfl) rfl ⟨by omega, by omega⟩ (fun _ => rfl) (fun x59 ex59 => ?_)
            show V 104 [(4, .int x59), (0, .ref r0), (1, .ref r1), (2, .ref r2), (3, .int x3), (5, .int x34), (6, .int x40)] _ _ _ _
            refine k_goto C (pc2 := 13) rfl rfl ?_
            refine k_sub S [(0, .ref r0), (1, .ref r1), (2, .ref r2), (3, .int x3), (4, .int x59)] (List.forall_mem_cons.mpr ⟨List.mem_of_getElem? (i := 1) rfl, List.forall_mem_cons.mpr ⟨List.mem_of_getElem? (i := 2) rfl, List.forall_mem_cons.mpr ⟨List.mem_of_getElem? (i := 3) rfl, List.forall_mem_cons.mpr ⟨List.mem_of_getElem? (i := 4) rfl, List.forall_mem_cons.mpr ⟨List.mem_of_getElem? (i := 0) rfl, fun _ h => nomatch h⟩⟩⟩⟩⟩) ?_
            exact ihJ5 _ (MN.lt hmnn6 (by omega) (by omega)) I52 L53 x59 x57 x18 rfl hI52 (Chg.cons S12 (Chg.cons S43 (Chg.mono (Chg.up S54 (List.forall_mem_cons.mpr ⟨List.mem_of_getElem? (i := 0) rfl, List.forall_mem_cons.mpr ⟨List.mem_of_getElem? (i := 1) rfl, fun _ h => nomatch h⟩⟩)) (by decide)) (by decide)) (by decide)) (by omega) (by omega) e58 (by omega) (by omega) e56 (by omega) (by omega) (by exact TRF.s ff13_0 (by omega) (by omega) (hnq.2 (by omega)) (TRL.f ff55_0 eF1 (by omega)) ht9 ho9 hdr (by omega) (by omega)) (by omega)
          refine k_aload_n C rfl rfl rfl ?_
          refine k_iload C rfl rfl rfl ?_
          refine k_aload_n C rfl rfl rfl ?_
          refine k_aload_n C rfl rfl rfl ?_
          refine k_iload C rfl rfl rfl ?_
          refine c_VI C (s_X2_get_x hS hI44 H_r1) rfl rfl rfl rfl rfl ⟨_, rfl, rfl, T_r1, Nat.le_of_ble_eq_true rfl⟩ rfl rfl (Nat.le_of_ble_eq_true rfl) (Nat.le_of_ble_eq_true rfl) (Nat.le_of_ble_eq_true rfl) ?_
          rintro x60 _ _ ⟨p0x60, rfl, rfl⟩
          have gx60 := rg x60
          try simp only [z_r0_0, z_r0_1, z_r0_2, z_r1_1, z_r2_1, z_r0_0_6, z_r0_0_7, z_r0_0_8, z_r0_0_9, z_r0_0_10] at p0x60
          try simp only [e47, e48, e49] at p0x60
          try have q0x60 := congrArg Int32.toInt p0x60
          have hg71 := p0x60; (try simp only [e48] at hg71)
          refine k_iload C rfl rfl rfl ?_
          refine k_aload_n C rfl rfl rfl ?_
          refine k_iload C rfl rfl rfl ?_
          refine c_VI C (s_X2_get_x hS hI44 H_r2) rfl rfl rfl rfl rfl ⟨_, rfl, rfl, T_r2, Nat.le_of_ble_eq_true rfl⟩ rfl rfl (Nat.le_of_ble_eq_true rfl) (Nat.le_of_ble_eq_true rfl) (Nat.le_of_ble_eq_true rfl) ?_
          rintro x61 _ _ ⟨p0x61, rfl, rfl⟩
          have gx61 := rg x61
          try simp only [z_r0_0, z_r0_1, z_r0_2, z_r1_1, z_r2_1, z_r0_0_6, z_r0_0_7, z_r0_0_8, z_r0_0_9, z_r0_0_10] at p0x61
          try simp only [e47, e48, e49] at p0x61
          try have q0x61 := congrArg Int32.toInt p0x61
          have hg79 := p0x61; (try simp only [e49] at hg79); (try rw [(Chg.at ((Chg.cons S12 (Chg.mono S43 (by decide)) (by decide)) : Chg (SL [r1, r1_1]) T [(3, 0)] I L I38 L39) (nm_2 (t_nq T_r2_1 T_r1 (by decide)) (by first | exact nb | exact fun e => nb e.symm)))] at hg79)
          refine z_imulE C rfl rfl (fun x62 ex62 => ?_)
          have gx62 := rg x62
          have m82 := ex62
          refine z_isubX C rfl rfl (fun x63 ex63 => ?_)
          have gx63 := rg x63
          have m83 := ex63
          refine z_i2l C rfl rfl (fun lg64 elg64 => ?_)
          have hl85 := elg64
          refine c_VI C (s_X0_of_x hS hI44 H_r0) rfl rfl rfl rfl rfl ⟨_, rfl, rfl, T_r0, Nat.le_of_ble_eq_true rfl⟩ rfl rfl (Nat.le_of_ble_eq_true rfl) (Nat.le_of_ble_eq_true rfl) (Nat.le_of_ble_eq_true rfl) ?_
          rintro x65 _ _ ⟨o0x65, o1x65, p0x65, p1x65, rfl, rfl⟩
          have gx65 := rg x65
          try simp only [z_r0_0, z_r0_1, z_r0_2, z_r1_1, z_r2_1, z_r0_0_6, z_r0_0_7, z_r0_0_8, z_r0_0_9, z_r0_0_10] at p0x65
          try simp only [z_r0_0, z_r0_1, z_r0_2, z_r1_1, z_r2_1, z_r0_0_6, z_r0_0_7, z_r0_0_8, z_r0_0_9, z_r0_0_10] at p1x65
          try simp only [e47, e48, e49] at p0x65
          try have q0x65 := congrArg Int32.toInt p0x65
          try simp only [e47, e48, e49] at p1x65
          try have q1x65 := congrArg Int32.toInt p1x65
          have ho85 := p0x65; (try simp only [e47] at ho85)
          refine c_VV C (s_X2_set_x hS hI44 H_r1) rfl rfl rfl rfl rfl ⟨_, rfl, rfl, T_r1, Nat.le_of_ble_eq_true rfl⟩ rfl rfl (Nat.le_of_ble_eq_true rfl) (Nat.le_of_ble_eq_true rfl) (Nat.le_of_ble_eq_true rfl) ?_
          rintro I67 L68 ⟨p0v66, hI67, S69⟩
          try simp only [z_r0_0, z_r0_1, z_r0_2, z_r1_1, z_r2_1, z_r0_0_6, z_r0_0_7, z_r0_0_8, z_r0_0_9, z_r0_0_10] at S69
          have e70 := Chg.k S69 T_r0_0 (by decide) (by decide) e47
          have e71 := Chg.k S69 T_r1 (by decide) (by decide) e48
          have e72 := Chg.k S69 T_r2 (by decide) (by decide) e49
          try simp only [z_r0_0, z_r0_1, z_r0_2, z_r1_1, z_r2_1, z_r0_0_6, z_r0_0_7, z_r0_0_8, z_r0_0_9, z_r0_0_10] at p0v66
          try simp only [e47, e48, e49] at p0v66
          try have q0v66 := congrArg Int32.toInt p0v66
          have hse := p0v66
          refine z_iinc C (z := 1) (lw := fun x73 => [(6, .int x73), (0, .ref r0), (1, .ref r1), (2, .ref r2), (3, .int x3), (4, .int x9), (5, .int x34)]) rfl rfl rfl (Nat.le_of_ble_eq_true rfl) rfl ⟨by omega, by omega⟩ (fun _ => rfl) (fun x73 ex73 => ?_)
          show V 94 [(6, .int x73), (0, .ref r0), (1, .ref r1), (2, .ref r2), (3, .int x3), (4, .int x9), (5, .int x34)] _ _ _ _
          refine k_goto C (pc2 := 55) rfl rfl ?_
          refine k_sub S [(0, .ref r0), (1, .ref r1), (2, .ref r2), (3, .int x3), (4, .int x9), (5, .int x34), (6, .int x73)] (List.forall_mem_cons.mpr ⟨List.mem_of_getElem? (i := 1) rfl, List.forall_mem_cons.mpr ⟨List.mem_of_getElem? (i := 2) rfl, List.forall_mem_cons.mpr ⟨List.mem_of_getElem? (i := 3) rfl, List.forall_mem_cons.mpr ⟨List.mem_of_getElem? (i := 4) rfl, List.forall_mem_cons.mpr ⟨List.mem_of_getElem? (i := 5) rfl, List.forall_mem_cons.mpr ⟨List.mem_of_getElem? (i := 6) rfl, List.forall_mem_cons.mpr ⟨List.mem_of_getElem? (i := 0) rfl, fun _ h => nomatch h⟩⟩⟩⟩⟩⟩⟩) ?_
          exact ihJ36 _ (MN.lt hmnn37 (by omega) (by omega)) I67 L68 x73 rfl hI67 (Chg.cons S43 (Chg.mono (Chg.up S69 (List.forall_mem_cons.mpr ⟨List.mem_of_getElem? (i := 1) rfl, fun _ h => nomatch h⟩)) (by decide)) (by decide)) (by omega) (by omega) (by exact TRL.s ff55_0 hg71 hg79 m82 m83 hl85 ho85 hse hbF (fun k hk => hp2 k (by omega)) (by omega) ⟨by omega, by omega⟩ (by omega) (by omega) (by omega) (by omega) (by omega)) (by omega)
      refine k_istore C (lw := [(6, .int x35), (5, .int x34), (0, .ref r0), (1, .ref r1), (2, .ref r2), (3, .int x3), (4, .int x9)]) rfl rfl (Nat.le_of_ble_eq_true rfl) rfl ?_
      refine k_sub S [(0, .ref r0), (1, .ref r1), (2, .ref r2), (3, .int x3), (4, .int x9), (5, .int x34), (6, .int x35)] (List.forall_mem_cons.mpr ⟨List.mem_of_getElem? (i := 2) rfl, List.forall_mem_cons.mpr ⟨List.mem_of_getElem? (i := 3) rfl, List.forall_mem_cons.mpr ⟨List.mem_of_getElem? (i := 4) rfl, List.forall_mem_cons.mpr ⟨List.mem_of_getElem? (i := 5) rfl, List.forall_mem_cons.mpr ⟨List.mem_of_getElem? (i := 6) rfl, List.forall_mem_cons.mpr ⟨List.mem_of_getElem? (i := 1) rfl, List.forall_mem_cons.mpr ⟨List.mem_of_getElem? (i := 0) rfl, fun _ h => nomatch h⟩⟩⟩⟩⟩⟩⟩) ?_
      exact J36 _ I7 L8 x35 rfl hI13 Chg.rf (by omega) (by omega) (by exact TRL.z eF1 (by omega)) (by omega)
  refine k_istore C (lw := [(4, .int x4), (3, .int x3), (0, .ref r0), (1, .ref r1), (2, .ref r2)]) rfl rfl (Nat.le_of_ble_eq_true rfl) rfl ?_
  refine k_sub S [(0, .ref r0), (1, .ref r1), (2, .ref r2), (3, .int x3), (4, .int x4)] (List.forall_mem_cons.mpr ⟨List.mem_of_getElem? (i := 2) rfl, List.forall_mem_cons.mpr ⟨List.mem_of_getElem? (i := 3) rfl, List.forall_mem_cons.mpr ⟨List.mem_of_getElem? (i := 4) rfl, List.forall_mem_cons.mpr ⟨List.mem_of_getElem? (i := 1) rfl, List.forall_mem_cons.mpr ⟨List.mem_of_getElem? (i := 0) rfl, fun _ h => nomatch h⟩⟩⟩⟩⟩) ?_
  exact J5 _ I L x4 w_r1_0 w_r2_0 rfl hI Chg.rf (by omega) (by omega) k0_r1_0 (by omega) (by omega) k0_r2_0 (by omega) (by omega) (by exact TRF.z hp1 (by omega) (by omega) hp3 (by omega)) (by omega)

theorem s_X0_shareInto_x {d : Nat} {T N : Nat → Nat} {I : IT} {L : LT} {R : RT} {A B : Nat → Prop} {r0 r1 r2 r3 : Nat} (hS : SUB B A) (hI : IX A T I) (H_r0 : (hs_Al T N R A B) r0) (H_r1 : (hs_F T N R A B) r1) (H_r2 : (hs_F T N R A B) r2) (H_r3 : (hs_F T N R A B) r3) (hU : UPR T R) (hp0 : NQ9 r1 (rA R r0 1)) (hp1 : NQ9 r1 (rA R r0 2)) (hp2 : NQ9 r2 (rA R r0 1)) (hp3 : NQ9 r2 (rA R r0 2)) (hp4 : NQ9 r3 (rA R r0 1)) (hp5 : NQ9 r3 (rA R r0 2)) (hp6 : NQ9 (rA R r0 1) (rA R r0 2)) (hp7 : NQ9 r1 r3) (hp8 : NQ9 r2 r3) (hp9 : BNX I (rA R r1 1) (I r1 0).toInt (I (rA R r0 0) 0).toInt) (hp10 : BNX I (rA R r2 1) (I r2 0).toInt (I (rA R r0 0) 0).toInt) (hp11 : ¬ ZRL (NF I (rA R r1 1)) ((I r1 0).toInt + 1)) (hp12 : ¬ ZRL (NF I (rA R r2 1)) ((I r2 0).toInt + 1)) (hp13 : (I r1 0).toInt ≤ 20) (hp14 : (I r2 0).toInt ≤ 20) (hp15 : PRM (I (rA R r0 0) 0).toInt) : Ex (d + 5) 32 [.ref r0, .ref r1, .ref r2, .ref r3] (T, N, I, L, R) 0 0 (pV T N R (fun I9 L9 => (COM (I (rA R r0 0) 0).toInt (NF I (rA R r1 1)) (I r1 0).toInt (NF I (rA R r2 1)) (I r2 0).toInt (NF I9 (rA R r3 1)) (I9 r3 0).toInt) ∧ (IX A T I9 ∧ Chg (SL [r3, (rA R r3 1), (rA R r0 1), (rA R (rA R r0 1) 1), (rA R r0 2), (rA R (rA R r0 2) 1)]) T [(3, 0)] I L I9 L9))) := by
  refine ⟨_, rfl, Nat.le_of_ble_eq_true rfl, fun V C S => ?_⟩
  show V 0 [(0, .ref r0), (1, .ref r1), (2, .ref r2), (3, .ref r3)] [] (T, N, I, L, R) 0 0
  obtain ⟨T_r0, A_r0, B_r0, ⟨r0_0, R_r0_0, H_r0_0⟩, ⟨r0_1, R_r0_1, H_r0_1⟩, ⟨r0_2, R_r0_2, H_r0_2⟩⟩ := id H_r0
  have z_r0_0 : rA R r0 0 = r0_0 := rA_e R_r0_0
  have z_r0_1 : rA R r0 1 = r0_1 := rA_e R_r0_1
  have z_r0_2 : rA R r0 2 = r0_2 := rA_e R_r0_2
  obtain ⟨T_r1, A_r1, ⟨r1_1, R_r1_1, H_r1_1⟩⟩ := id H_r1
  have z_r1_1 : rA R r1 1 = r1_1 := rA_e R_r1_1
  obtain ⟨T_r2, A_r2, ⟨r2_1, R_r2_1, H_r2_1⟩⟩ := id H_r2
  have z_r2_1 : rA R r2 1 = r2_1 := rA_e R_r2_1
  obtain ⟨T_r3, A_r3, ⟨r3_1, R_r3_1, H_r3_1⟩⟩ := id H_r3
  have z_r3_1 : rA R r3 1 = r3_1 := rA_e R_r3_1
  obtain ⟨T_r0_0, A_r0_0, B_r0_0, ⟨r0_0_6, R_r0_0_6, H_r0_0_6⟩, ⟨r0_0_7, R_r0_0_7, H_r0_0_7⟩, ⟨r0_0_8, R_r0_0_8, H_r0_0_8⟩, ⟨r0_0_9, R_r0_0_9, H_r0_0_9⟩, ⟨r0_0_10, R_r0_0_10, H_r0_0_10⟩⟩ := id H_r0_0
  have z_r0_0_6 : rA R r0_0 6 = r0_0_6 := rA_e R_r0_0_6
  have z_r0_0_7 : rA R r0_0 7 = r0_0_7 := rA_e R_r0_0_7
  have z_r0_0_8 : rA R r0_0 8 = r0_0_8 := rA_e R_r0_0_8
  have z_r0_0_9 : rA R r0_0 9 = r0_0_9 := rA_e R_r0_0_9
  have z_r0_0_10 : rA R r0_0 10 = r0_0_10 := rA_e R_r0_0_10
  obtain ⟨T_r0_1, A_r0_1, B_r0_1, ⟨r0_1_1, R_r0_1_1, H_r0_1_1⟩⟩ := id H_r0_1
  have z_r0_1_1 : rA R r0_1 1 = r0_1_1 := rA_e R_r0_1_1
  obtain ⟨T_r0_2, A_r0_2, B_r0_2, ⟨r0_2_1, R_r0_2_1, H_r0_2_1⟩⟩ := id H_r0_2
  have z_r0_2_1 : rA R r0_2 1 = r0_2_1 := rA_e R_r0_2_1
  obtain ⟨T_r1_1, N_r1_1, A_r1_1⟩ := id H_r1_1
  obtain ⟨T_r2_1, N_r2_1, A_r2_1⟩ := id H_r2_1
  obtain ⟨T_r3_1, N_r3_1, A_r3_1⟩ := id H_r3_1
  obtain ⟨T_r0_1_1, N_r0_1_1, A_r0_1_1⟩ := id H_r0_1_1
  obtain ⟨T_r0_2_1, N_r0_2_1, A_r0_2_1⟩ := id H_r0_2_1
  try simp only [z_r0_0, z_r0_1, z_r0_2, z_r1_1, z_r2_1, z_r3_1, z_r0_0_6, z_r0_0_7, z_r0_0_8, z_r0_0_9, z_r0_0_10, z_r0_1_1, z_r0_2_1] at hp0
  try simp only [z_r0_0, z_r0_1, z_r0_2, z_r1_1, z_r2_1, z_r3_1, z_r0_0_6, z_r0_0_7, z_r0_0_8, z_r0_0_9, z_r0_0_10, z_r0_1_1, z_r0_2_1] at hp1
  try simp only [z_r0_0, z_r0_1, z_r0_2, z_r1_1, z_r2_1, z_r3_1, z_r0_0_6, z_r0_0_7, z_r0_0_8, z_r0_0_9, z_r0_0_10, z_r0_1_1, z_r0_2_1] at hp2
  try simp only [z_r0_0, z_r0_1, z_r0_2, z_r1_1, z_r2_1, z_r3_1, z_r0_0_6, z_r0_0_7, z_r0_0_8, z_r0_0_9, z_r0_0_10, z_r0_1_1, z_r0_2_1] at hp3
  try simp only [z_r0_0, z_r0_1, z_r0_2, z_r1_1, z_r2_1, z_r3_1, z_r0_0_6, z_r0_0_7, z_r0_0_8, z_r0_0_9, z_r0_0_10, z_r0_1_1, z_r0_2_1] at hp4
  try simp only [z_r0_0, z_r0_1, z_r0_2, z_r1_1, z_r2_1, z_r3_1, z_r0_0_6, z_r0_0_7, z_r0_0_8, z_r0_0_9, z_r0_0_10, z_r0_1_1, z_r0_2_1] at hp5
  try simp only [z_r0_0, z_r0_1, z_r0_2, z_r1_1, z_r2_1, z_r3_1, z_r0_0_6, z_r0_0_7, z_r0_0_8, z_r0_0_9, z_r0_0_10, z_r0_1_1, z_r0_2_1] at hp6
  try simp only [z_r0_0, z_r0_1, z_r0_2, z_r1_1, z_r2_1, z_r3_1, z_r0_0_6, z_r0_0_7, z_r0_0_8, z_r0_0_9, z_r0_0_10, z_r0_1_1, z_r0_2_1] at hp7
  try simp only [z_r0_0, z_r0_1, z_r0_2, z_r1_1, z_r2_1, z_r3_1, z_r0_0_6, z_r0_0_7, z_r0_0_8, z_r0_0_9, z_r0_0_10, z_r0_1_1, z_r0_2_1] at hp8
  try simp only [z_r0_0, z_r0_1, z_r0_2, z_r1_1, z_r2_1, z_r3_1, z_r0_0_6, z_r0_0_7, z_r0_0_8, z_r0_0_9, z_r0_0_10, z_r0_1_1, z_r0_2_1] at hp9
  try simp only [z_r0_0, z_r0_1, z_r0_2, z_r1_1, z_r2_1, z_r3_1, z_r0_0_6, z_r0_0_7, z_r0_0_8, z_r0_0_9, z_r0_0_10, z_r0_1_1, z_r0_2_1] at hp10
  try simp only [z_r0_0, z_r0_1, z_r0_2, z_r1_1, z_r2_1, z_r3_1, z_r0_0_6, z_r0_0_7, z_r0_0_8, z_r0_0_9, z_r0_0_10, z_r0_1_1, z_r0_2_1] at hp11
  try simp only [z_r0_0, z_r0_1, z_r0_2, z_r1_1, z_r2_1, z_r3_1, z_r0_0_6, z_r0_0_7, z_r0_0_8, z_r0_0_9, z_r0_0_10, z_r0_1_1, z_r0_2_1] at hp12
  try simp only [z_r0_0, z_r0_1, z_r0_2, z_r1_1, z_r2_1, z_r3_1, z_r0_0_6, z_r0_0_7, z_r0_0_8, z_r0_0_9, z_r0_0_10, z_r0_1_1, z_r0_2_1] at hp13
  try simp only [z_r0_0, z_r0_1, z_r0_2, z_r1_1, z_r2_1, z_r3_1, z_r0_0_6, z_r0_0_7, z_r0_0_8, z_r0_0_9, z_r0_0_10, z_r0_1_1, z_r0_2_1] at hp14
  try simp only [z_r0_0, z_r0_1, z_r0_2, z_r1_1, z_r2_1, z_r3_1, z_r0_0_6, z_r0_0_7, z_r0_0_8, z_r0_0_9, z_r0_0_10, z_r0_1_1, z_r0_2_1] at hp15
  obtain ⟨w_r1_0, k0_r1_0⟩ : ∃ x, I r1 0 = x := ⟨_, rfl⟩
  have gw_r1_0 := rg w_r1_0
  have ow_r1_0 := IX.deg hI A_r1 T_r1 k0_r1_0
  obtain ⟨w_r2_0, k0_r2_0⟩ : ∃ x, I r2 0 = x := ⟨_, rfl⟩
  have gw_r2_0 := rg w_r2_0
  have ow_r2_0 := IX.deg hI A_r2 T_r2 k0_r2_0
  obtain ⟨w_r0_0_0, k0_r0_0_0⟩ : ∃ x, I r0_0 0 = x := ⟨_, rfl⟩
  have gw_r0_0_0 := rg w_r0_0_0
  have ow_r0_0_0 := IX.p hI A_r0_0 T_r0_0 k0_r0_0_0
  try simp only [k0_r1_0, k0_r2_0, k0_r0_0_0] at hp0
  try simp only [k0_r1_0, k0_r2_0, k0_r0_0_0] at hp1
  try simp only [k0_r1_0, k0_r2_0, k0_r0_0_0] at hp2
  try simp only [k0_r1_0, k0_r2_0, k0_r0_0_0] at hp3
  try simp only [k0_r1_0, k0_r2_0, k0_r0_0_0] at hp4
  try simp only [k0_r1_0, k0_r2_0, k0_r0_0_0] at hp5
  try simp only [k0_r1_0, k0_r2_0, k0_r0_0_0] at hp6
  try simp only [k0_r1_0, k0_r2_0, k0_r0_0_0] at hp7
  try simp only [k0_r1_0, k0_r2_0, k0_r0_0_0] at hp8
  try simp only [k0_r1_0, k0_r2_0, k0_r0_0_0] at hp9
  try simp only [k0_r1_0, k0_r2_0, k0_r0_0_0] at hp10
  try simp only [k0_r1_0, k0_r2_0, k0_r0_0_0] at hp11
  try simp only [k0_r1_0, k0_r2_0, k0_r0_0_0] at hp12
  try simp only [k0_r1_0, k0_r2_0, k0_r0_0_0] at hp13
  try simp only [k0_r1_0, k0_r2_0, k0_r0_0_0] at hp14
  try simp only [k0_r1_0, k0_r2_0, k0_r0_0_0] at hp15
  have nb_r1_r0_1 : NQ9 r1_1 r0_1_1 := hU.ne (Or.inr (Or.inr (Or.inr (by omega)))) R_r1_1 R_r0_1_1 (Or.inl hp0)
  have nb_r0_1_r1 : NQ9 r0_1_1 r1_1 := Ne.symm nb_r1_r0_1
  have nb_r1_r0_2 : NQ9 r1_1 r0_2_1 := hU.ne (Or.inr (Or.inr (Or.inr (by omega)))) R_r1_1 R_r0_2_1 (Or.inl hp1)
  have nb_r0_2_r1 : NQ9 r0_2_1 r1_1 := Ne.symm nb_r1_r0_2
  have nb_r2_r0_1 : NQ9 r2_1 r0_1_1 := hU.ne (Or.inr (Or.inr (Or.inr (by omega)))) R_r2_1 R_r0_1_1 (Or.inl hp2)
  have nb_r0_1_r2 : NQ9 r0_1_1 r2_1 := Ne.symm nb_r2_r0_1
  have nb_r2_r0_2 : NQ9 r2_1 r0_2_1 := hU.ne (Or.inr (Or.inr (Or.inr (by omega)))) R_r2_1 R_r0_2_1 (Or.inl hp3)
  have nb_r0_2_r2 : NQ9 r0_2_1 r2_1 := Ne.symm nb_r2_r0_2
  have nb_r3_r0_1 : NQ9 r3_1 r0_1_1 := hU.ne (Or.inr (Or.inr (Or.inr (by omega)))) R_r3_1 R_r0_1_1 (Or.inl hp4)
  have nb_r0_1_r3 : NQ9 r0_1_1 r3_1 := Ne.symm nb_r3_r0_1
  have nb_r3_r0_2 : NQ9 r3_1 r0_2_1 := hU.ne (Or.inr (Or.inr (Or.inr (by omega)))) R_r3_1 R_r0_2_1 (Or.inl hp5)
  have nb_r0_2_r3 : NQ9 r0_2_1 r3_1 := Ne.symm nb_r3_r0_2
  have nb_r0_1_r0_2 : NQ9 r0_1_1 r0_2_1 := hU.ne (Or.inr (Or.inr (Or.inr (by omega)))) R_r0_1_1 R_r0_2_1 (Or.inl hp6)
  have nb_r0_2_r0_1 : NQ9 r0_2_1 r0_1_1 := Ne.symm nb_r0_1_r0_2
  have nb_r1_r3 : NQ9 r1_1 r3_1 := hU.ne (Or.inr (Or.inr (Or.inr (by omega)))) R_r1_1 R_r3_1 (Or.inl hp7)
  have nb_r3_r1 : NQ9 r3_1 r1_1 := Ne.symm nb_r1_r3
  have nb_r2_r3 : NQ9 r2_1 r3_1 := hU.ne (Or.inr (Or.inr (Or.inr (by omega)))) R_r2_1 R_r3_1 (Or.inl hp8)
  have nb_r3_r2 : NQ9 r3_1 r2_1 := Ne.symm nb_r2_r3
  try simp only [k0_r1_0, k0_r0_0_0] at hp9
  try simp only [k0_r2_0, k0_r0_0_0] at hp10
  try simp only [k0_r1_0] at hp11
  try simp only [k0_r2_0] at hp12
  try simp only [k0_r0_0_0] at hp15
  refine k_aload_n C rfl rfl rfl ?_
  refine c_VI C (s_X2_first_x hS hI H_r1) rfl rfl rfl rfl rfl ⟨_, rfl, rfl, T_r1, Nat.le_of_ble_eq_true rfl⟩ rfl rfl (Nat.le_of_ble_eq_true rfl) (Nat.le_of_ble_eq_true rfl) (Nat.le_of_ble_eq_true rfl) ?_
  rintro x1 _ _ ⟨o0x1, o1x1, p0x1, p1x1, rfl, rfl⟩
  have gx1 := rg x1
  try simp only [z_r0_0, z_r0_1, z_r0_2, z_r1_1, z_r2_1, z_r3_1, z_r0_0_6, z_r0_0_7, z_r0_0_8, z_r0_0_9, z_r0_0_10, z_r0_1_1, z_r0_2_1] at p0x1
  try simp only [z_r0_0, z_r0_1, z_r0_2, z_r1_1, z_r2_1, z_r3_1, z_r0_0_6, z_r0_0_7, z_r0_0_8, z_r0_0_9, z_r0_0_10, z_r0_1_1, z_r0_2_1] at p1x1
  try simp only [k0_r1_0, k0_r2_0, k0_r0_0_0] at p0x1
  try have q0x1 := congrArg Int32.toInt p0x1
  try simp only [k0_r1_0, k0_r2_0, k0_r0_0_0] at p1x1
  try have q1x1 := congrArg Int32.toInt p1x1
  have hf1 := p1x1; (try simp only [k0_r1_0] at hf1)
  refine k_aload_n C rfl rfl rfl ?_
  refine c_VI C (s_X2_first_x hS hI H_r2) rfl rfl rfl rfl rfl ⟨_, rfl, rfl, T_r2, Nat.le_of_ble_eq_true rfl⟩ rfl rfl (Nat.le_of_ble_eq_true rfl) (Nat.le_of_ble_eq_true rfl) (Nat.le_of_ble_eq_true rfl) ?_
  rintro x2 _ _ ⟨o0x2, o1x2, p0x2, p1x2, rfl, rfl⟩
  have gx2 := rg x2
  try simp only [z_r0_0, z_r0_1, z_r0_2, z_r1_1, z_r2_1, z_r3_1, z_r0_0_6, z_r0_0_7, z_r0_0_8, z_r0_0_9, z_r0_0_10, z_r0_1_1, z_r0_2_1] at p0x2
  try simp only [z_r0_0, z_r0_1, z_r0_2, z_r1_1, z_r2_1, z_r3_1, z_r0_0_6, z_r0_0_7, z_r0_0_8, z_r0_0_9, z_r0_0_10, z_r0_1_1, z_r0_2_1] at p1x2
  try simp only [k0_r1_0, k0_r2_0, k0_r0_0_0] at p0x2
  try have q0x2 := congrArg Int32.toInt p0x2
  try simp only [k0_r1_0, k0_r2_0, k0_r0_0_0] at p1x2
  try have q1x2 := congrArg Int32.toInt p1x2
  have hf4 := p1x2; (try simp only [k0_r2_0] at hf4)
  refine c_SI C (s_J9_min_7cf53 hS hI ) rfl rfl rfl rfl rfl rfl rfl (Nat.le_of_ble_eq_true rfl) (Nat.le_of_ble_eq_true rfl) (Nat.le_of_ble_eq_true rfl) ?_
  rintro x3 _ _ ⟨p0x3, p1x3, p2x3, rfl, rfl⟩
  have gx3 := rg x3
  try simp only [z_r0_0, z_r0_1, z_r0_2, z_r1_1, z_r2_1, z_r3_1, z_r0_0_6, z_r0_0_7, z_r0_0_8, z_r0_0_9, z_r0_0_10, z_r0_1_1, z_r0_2_1] at p0x3
  try simp only [z_r0_0, z_r0_1, z_r0_2, z_r1_1, z_r2_1, z_r3_1, z_r0_0_6, z_r0_0_7, z_r0_0_8, z_r0_0_9, z_r0_0_10, z_r0_1_1, z_r0_2_1] at p1x3
  try simp only [z_r0_0, z_r0_1, z_r0_2, z_r1_1, z_r2_1, z_r3_1, z_r0_0_6, z_r0_0_7, z_r0_0_8, z_r0_0_9, z_r0_0_10, z_r0_1_1, z_r0_2_1] at p2x3
  try simp only [k0_r1_0, k0_r2_0, k0_r0_0_0] at p0x3
  try have q0x3 := congrArg Int32.toInt p0x3
  try simp only [k0_r1_0, k0_r2_0, k0_r0_0_0] at p1x3
  try have q1x3 := congrArg Int32.toInt p1x3
  try simp only [k0_r1_0, k0_r2_0, k0_r0_0_0] at p2x3
  try have q2x3 := congrArg Int32.toInt p2x3
  have hmn := p2x3; have hm0 := p0x3; have hm1 := p1x3
  refine k_istore C (lw := [(4, .int x3), (0, .ref r0), (1, .ref r1), (2, .ref r2), (3, .ref r3)]) rfl rfl (Nat.le_of_ble_eq_true rfl) rfl ?_
  refine k_aload_n C rfl rfl rfl ?_
  refine g_R C rfl rfl rfl T_r0 rfl R_r0_1 ?_
  refine k_aload_n C rfl rfl rfl ?_
  refine c_VV C (s_X2_copyFrom_x hS hI (hs_GF hS H_r0_1) H_r1 (Ne.symm hp0) (by rw [z_r0_1_1, z_r1_1]; exact Ne.symm nb_r1_r0_1)) rfl rfl rfl rfl rfl ⟨_, rfl, rfl, T_r0_1, Nat.le_of_ble_eq_true rfl⟩ rfl rfl (Nat.le_of_ble_eq_true rfl) (Nat.le_of_ble_eq_true rfl) (Nat.le_of_ble_eq_true rfl) ?_
  rintro I5 L6 ⟨p0v4, hI5, S7⟩
  try simp only [z_r0_0, z_r0_1, z_r0_2, z_r1_1, z_r2_1, z_r3_1, z_r0_0_6, z_r0_0_7, z_r0_0_8, z_r0_0_9, z_r0_0_10, z_r0_1_1, z_r0_2_1] at S7
  have e8 := (congrFun (Chg.at S7 (nm_2 (by first | exact hp0 | exact fun e => hp0 e.symm) (t_nq T_r1 T_r0_1_1 (by decide)))) 0).trans k0_r1_0
  have e9 := (congrFun (Chg.at S7 (nm_2 (by first | exact hp2 | exact fun e => hp2 e.symm) (t_nq T_r2 T_r0_1_1 (by decide)))) 0).trans k0_r2_0
  have e10 := Chg.k S7 T_r0_0 (by decide) (by decide) k0_r0_0_0
  obtain ⟨x11, e12⟩ : ∃ x, I5 r0_1 0 = x := ⟨_, rfl⟩
  have gx11 := rg x11
  have ox11 := IX.deg hI5 A_r0_1 T_r0_1 e12
  try simp only [z_r0_0, z_r0_1, z_r0_2, z_r1_1, z_r2_1, z_r3_1, z_r0_0_6, z_r0_0_7, z_r0_0_8, z_r0_0_9, z_r0_0_10, z_r0_1_1, z_r0_2_1] at p0v4
  try simp only [k0_r1_0, k0_r2_0, k0_r0_0_0, e12] at p0v4
  try have q0v4 := congrArg Int32.toInt p0v4
  have hcL := p0v4; have hcLd := hcL.1; (try rw [e12] at hcLd); (try rw [k0_r1_0] at hcLd); have hcLf := hcL.2; (try simp only [z_r0_1_1, z_r1_1, k0_r1_0] at hcLf)
  refine k_aload_n C rfl rfl rfl ?_
  refine g_R C rfl rfl rfl T_r0 rfl R_r0_1 ?_
  have hk1L := e12
  refine c_VV C (s_X2_dropY_x hS hI5 (hs_GF hS H_r0_1)) rfl rfl rfl rfl rfl ⟨_, rfl, rfl, T_r0_1, Nat.le_of_ble_eq_true rfl⟩ rfl rfl (Nat.le_of_ble_eq_true rfl) (Nat.le_of_ble_eq_true rfl) (Nat.le_of_ble_eq_true rfl) ?_
  rintro I14 L15 ⟨p0v13, p1v13, hI14, S16⟩
  try simp only [z_r0_0, z_r0_1, z_r0_2, z_r1_1, z_r2_1, z_r3_1, z_r0_0_6, z_r0_0_7, z_r0_0_8, z_r0_0_9, z_r0_0_10, z_r0_1_1, z_r0_2_1] at S16
  have e17 := (congrFun (Chg.at S16 (nm_2 (by first | exact hp0 | exact fun e => hp0 e.symm) (t_nq T_r1 T_r0_1_1 (by decide)))) 0).trans e8
  have e18 := (congrFun (Chg.at S16 (nm_2 (by first | exact hp2 | exact fun e => hp2 e.symm) (t_nq T_r2 T_r0_1_1 (by decide)))) 0).trans e9
  have e19 := Chg.k S16 T_r0_0 (by decide) (by decide) e10
  obtain ⟨x20, e21⟩ : ∃ x, I14 r0_1 0 = x := ⟨_, rfl⟩
  have gx20 := rg x20
  have ox20 := IX.deg hI14 A_r0_1 T_r0_1 e21
  try simp only [z_r0_0, z_r0_1, z_r0_2, z_r1_1, z_r2_1, z_r3_1, z_r0_0_6, z_r0_0_7, z_r0_0_8, z_r0_0_9, z_r0_0_10, z_r0_1_1, z_r0_2_1] at p0v13
  try simp only [z_r0_0, z_r0_1, z_r0_2, z_r1_1, z_r2_1, z_r3_1, z_r0_0_6, z_r0_0_7, z_r0_0_8, z_r0_0_9, z_r0_0_10, z_r0_1_1, z_r0_2_1] at p1v13
  try simp only [e8, e9, e10, e12, e21] at p0v13
  try have q0v13 := congrArg Int32.toInt p0v13
  try simp only [e8, e9, e10, e12, e21] at p1v13
  try have q1v13 := congrArg Int32.toInt p1v13
  have hdL := p1v13; (try rw [hk1L] at hdL); have hdL2 := DRO.cp hdL (by omega) hcLf; (try rw [e21] at hdL2)
  refine k_aload_n C rfl rfl rfl ?_
  refine g_R C rfl rfl rfl T_r0 rfl R_r0_2 ?_
  refine k_aload_n C rfl rfl rfl ?_
  have eqR0 := (Chg.at ((Chg.cons (Chg.up S7 (List.forall_mem_cons.mpr ⟨List.mem_of_getElem? (i := 2) rfl, List.forall_mem_cons.mpr ⟨List.mem_of_getElem? (i := 3) rfl, fun _ h => nomatch h⟩⟩)) (Chg.mono (Chg.up S16 (List.forall_mem_cons.mpr ⟨List.mem_of_getElem? (i := 2) rfl, List.forall_mem_cons.mpr ⟨List.mem_of_getElem? (i := 3) rfl, fun _ h => nomatch h⟩⟩)) (by decide)) (by decide)) : Chg (SL [r3, r3_1, r0_1, r0_1_1, r0_2, r0_2_1]) T [(3, 0)] I L I14 L15) (nm_6 (t_nq T_r2_1 T_r3 (by decide)) (by first | exact nb_r2_r3 | exact fun e => nb_r2_r3 e.symm) (t_nq T_r2_1 T_r0_1 (by decide)) (by first | exact nb_r2_r0_1 | exact fun e => nb_r2_r0_1 e.symm) (t_nq T_r2_1 T_r0_2 (by decide)) (by first | exact nb_r2_r0_2 | exact fun e => nb_r2_r0_2 e.symm))); have kR0 := e18
  refine c_VV C (s_X2_copyFrom_x hS hI14 (hs_GF hS H_r0_2) H_r2 (Ne.symm hp3) (by rw [z_r0_2_1, z_r2_1]; exact Ne.symm nb_r2_r0_2)) rfl rfl rfl rfl rfl ⟨_, rfl, rfl, T_r0_2, Nat.le_of_ble_eq_true rfl⟩ rfl rfl (Nat.le_of_ble_eq_true rfl) (Nat.le_of_ble_eq_true rfl) (Nat.le_of_ble_eq_true rfl) ?_
  rintro I23 L24 ⟨p0v22, hI23, S25⟩
  try simp only [z_r0_0, z_r0_1, z_r0_2, z_r1_1, z_r2_1, z_r3_1, z_r0_0_6, z_r0_0_7, z_r0_0_8, z_r0_0_9, z_r0_0_10, z_r0_1_1, z_r0_2_1] at S25
  have e26 := (congrFun (Chg.at S25 (nm_2 (by first | exact hp1 | exact fun e => hp1 e.symm) (t_nq T_r1 T_r0_2_1 (by decide)))) 0).trans e17
  have e27 := (congrFun (Chg.at S25 (nm_2 (by first | exact hp3 | exact fun e => hp3 e.symm) (t_nq T_r2 T_r0_2_1 (by decide)))) 0).trans e18
  have e28 := Chg.k S25 T_r0_0 (by decide) (by decide) e19
  have e29 := (congrFun (Chg.at S25 (nm_2 (by first | exact hp6 | exact fun e => hp6 e.symm) (t_nq T_r0_1 T_r0_2_1 (by decide)))) 0).trans e21
  obtain ⟨x30, e31⟩ : ∃ x, I23 r0_2 0 = x := ⟨_, rfl⟩
  have gx30 := rg x30
  have ox30 := IX.deg hI23 A_r0_2 T_r0_2 e31
  try simp only [z_r0_0, z_r0_1, z_r0_2, z_r1_1, z_r2_1, z_r3_1, z_r0_0_6, z_r0_0_7, z_r0_0_8, z_r0_0_9, z_r0_0_10, z_r0_1_1, z_r0_2_1] at p0v22
  try simp only [e17, e18, e19, e21, e31] at p0v22
  try have q0v22 := congrArg Int32.toInt p0v22
  have hcR := p0v22; have hcRd := hcR.1; (try rw [e31] at hcRd); have hcRf := hcR.2; (try rw [kR0] at hcRd); (try simp only [z_r0_2_1, z_r2_1, kR0, eqR0] at hcRf); have hL33 := NF.e (Chg.at S25 (nm_2 (t_nq T_r0_1_1 T_r0_2 (by decide)) nb_r0_1_r0_2))
  refine k_aload_n C rfl rfl rfl ?_
  refine g_R C rfl rfl rfl T_r0 rfl R_r0_2 ?_
  have hk1R := e31
  refine c_VV C (s_X2_dropY_x hS hI23 (hs_GF hS H_r0_2)) rfl rfl rfl rfl rfl ⟨_, rfl, rfl, T_r0_2, Nat.le_of_ble_eq_true rfl⟩ rfl rfl (Nat.le_of_ble_eq_true rfl) (Nat.le_of_ble_eq_true rfl) (Nat.le_of_ble_eq_true rfl) ?_
  rintro I33 L34 ⟨p0v32, p1v32, hI33, S35⟩
  try simp only [z_r0_0, z_r0_1, z_r0_2, z_r1_1, z_r2_1, z_r3_1, z_r0_0_6, z_r0_0_7, z_r0_0_8, z_r0_0_9, z_r0_0_10, z_r0_1_1, z_r0_2_1] at S35
  have e36 := (congrFun (Chg.at S35 (nm_2 (by first | exact hp1 | exact fun e => hp1 e.symm) (t_nq T_r1 T_r0_2_1 (by decide)))) 0).trans e26
  have e37 := (congrFun (Chg.at S35 (nm_2 (by first | exact hp3 | exact fun e => hp3 e.symm) (t_nq T_r2 T_r0_2_1 (by decide)))) 0).trans e27
  have e38 := Chg.k S35 T_r0_0 (by decide) (by decide) e28
  have e39 := (congrFun (Chg.at S35 (nm_2 (by first | exact hp6 | exact fun e => hp6 e.symm) (t_nq T_r0_1 T_r0_2_1 (by decide)))) 0).trans e29
  obtain ⟨x40, e41⟩ : ∃ x, I33 r0_2 0 = x := ⟨_, rfl⟩
  have gx40 := rg x40
  have ox40 := IX.deg hI33 A_r0_2 T_r0_2 e41
  try simp only [z_r0_0, z_r0_1, z_r0_2, z_r1_1, z_r2_1, z_r3_1, z_r0_0_6, z_r0_0_7, z_r0_0_8, z_r0_0_9, z_r0_0_10, z_r0_1_1, z_r0_2_1] at p0v32
  try simp only [z_r0_0, z_r0_1, z_r0_2, z_r1_1, z_r2_1, z_r3_1, z_r0_0_6, z_r0_0_7, z_r0_0_8, z_r0_0_9, z_r0_0_10, z_r0_1_1, z_r0_2_1] at p1v32
  try simp only [e26, e27, e28, e29, e31, e41] at p0v32
  try have q0v32 := congrArg Int32.toInt p0v32
  try simp only [e26, e27, e28, e29, e31, e41] at p1v32
  try have q1v32 := congrArg Int32.toInt p1v32
  have hdR := p1v32; (try rw [hk1R] at hdR); have hdR2 := DRO.cp hdR (by omega) hcRf; (try rw [e41] at hdR2); have hL40 := NF.e (Chg.at S35 (nm_2 (t_nq T_r0_1_1 T_r0_2 (by decide)) nb_r0_1_r0_2)); have hLL := hL40.trans hL33
  obtain ⟨a9, ha9, haD, haF⟩ := DRO.nz hdL2 hp11
  obtain ⟨b9, hb9, hbD, hbF⟩ := DRO.nz hdR2 hp12
  have hma := hf1.a ha9
  have hmb := hf4.a hb9
  refine k_aload_n C rfl rfl rfl ?_
  refine g_R C rfl rfl rfl T_r0 rfl R_r0_1 ?_
  refine k_astore C (lw := [(5, .ref r0_1), (4, .int x3), (0, .ref r0), (1, .ref r1), (2, .ref r2), (3, .ref r3)]) rfl rfl (Nat.le_of_ble_eq_true rfl) rfl ?_
  refine k_aload_n C rfl rfl rfl ?_
  refine g_R C rfl rfl rfl T_r0 rfl R_r0_2 ?_
  refine k_astore C (lw := [(6, .ref r0_2), (5, .ref r0_1), (4, .int x3), (0, .ref r0), (1, .ref r1), (2, .ref r2), (3, .ref r3)]) rfl rfl (Nat.le_of_ble_eq_true rfl) rfl ?_
  refine z_iconst C (z := 0) rfl rfl rfl (fun x42 ex42 => ?_)
  have J43 : ∀ (nn44 : Nat) (I45 : IT) (L46 : LT) (x47 : Int32) (x52 : Int32) (x56 : Int32), (MN (81 - x47.toInt) nn44) → (IX A T I45) → (Chg (SL [r3, r3_1, r0_1, r0_1_1, r0_2, r0_2_1]) T [(3, 0)] I33 L34 I45 L46) → (0 ≤ x47.toInt) → (x47.toInt ≤ 81) → (I45 r0_1 0 = x52) → (0 ≤ x52.toInt) → (x52.toInt ≤ 40) → (I45 r0_2 0 = x56) → (0 ≤ x56.toInt) → (x56.toInt ≤ 40) → (EUS w_r0_0_0.toInt (fun k => NF I r1_1 (a9 + k)) (w_r1_0.toInt - a9) (fun k => NF I r2_1 (b9 + k)) (w_r2_0.toInt - b9) (NF I45 r0_1_1) x52.toInt (NF I45 r0_2_1) x56.toInt x47.toInt) → V 58 [(0, .ref r0), (3, .ref r3), (4, .int x3), (5, .ref r0_1), (6, .ref r0_2), (7, .int x47)] [] (T, N, I45, L46, R) 0 0 := by
    intro nn44
    induction nn44 using Nat.strongRecOn with
    | _ nn44 ihJ43 =>
      intro I45 L46 x47 x52 x56 hmnn44 hI51 S50 b48 b49 e53 b54 b55 e57 b58 b59 ff58_0
      have gx47 := rg x47
      have gx52 := rg x52
      have gx56 := rg x56
      have e61 := Chg.k S50 T_r0_0 (by decide) (by decide) e38
      refine k_iload C rfl rfl rfl ?_
      refine z_bipush C (z := 80) rfl rfl rfl (fun x62 ex62 => ?_)
      refine b_icmp_gt C (t := 99) rfl rfl rfl (fun c63 => ?_) (fun c63 => ?_)
      · skip
        first | have hfin := EUS.fin hst1 (by first | exact Or.inl (hnq.1 (by omega)) | exact Or.inr (by omega)) | have hfin := EUS.fin ff58_0 (by first | exact Or.inl (hnq.1 (by omega)) | exact Or.inr (by omega))
        refine k_aload_n C rfl rfl rfl ?_
        refine k_aload C rfl rfl rfl ?_
        refine z_iconst C (z := 0) rfl rfl rfl (fun x64 ex64 => ?_)
        refine c_VI C (s_X2_get_x hS hI51 (hs_GF hS H_r0_1)) rfl rfl rfl rfl rfl ⟨_, rfl, rfl, T_r0_1, Nat.le_of_ble_eq_true rfl⟩ rfl rfl (Nat.le_of_ble_eq_true rfl) (Nat.le_of_ble_eq_true rfl) (Nat.le_of_ble_eq_true rfl) ?_
        rintro x65 _ _ ⟨p0x65, rfl, rfl⟩
        have gx65 := rg x65
        try simp only [z_r0_0, z_r0_1, z_r0_2, z_r1_1, z_r2_1, z_r3_1, z_r0_0_6, z_r0_0_7, z_r0_0_8, z_r0_0_9, z_r0_0_10, z_r0_1_1, z_r0_2_1] at p0x65
        try simp only [e61, e53, e57] at p0x65
        try have q0x65 := congrArg Int32.toInt p0x65
        have hg102 := p0x65; (try simp only [e53] at hg102); have hg102 : GTD x65.toInt _ (NF I45 r0_1_1) _ := hg102; have hb102 := GTD.b0 hg102 (by omega) (by omega) (hfin.2.2.2.1 0 (by omega)) (by omega)
        refine c_VI C (s_X0_inverse_x hS hI51 H_r0 (by omega) (by omega) (by rw [z_r0_0, e61]; exact hp15)) rfl rfl rfl rfl rfl ⟨_, rfl, rfl, T_r0, Nat.le_of_ble_eq_true rfl⟩ rfl rfl (Nat.le_of_ble_eq_true rfl) (Nat.le_of_ble_eq_true rfl) (Nat.le_of_ble_eq_true rfl) ?_
        rintro x66 _ _ ⟨o0x66, o1x66, p0x66, rfl, rfl⟩
        have gx66 := rg x66
        try simp only [z_r0_0, z_r0_1, z_r0_2, z_r1_1, z_r2_1, z_r3_1, z_r0_0_6, z_r0_0_7, z_r0_0_8, z_r0_0_9, z_r0_0_10, z_r0_1_1, z_r0_2_1] at p0x66
        try simp only [e61, e53, e57] at p0x66
        try have q0x66 := congrArg Int32.toInt p0x66
        have hin := p0x66; (try simp only [e61] at hin); have hib := hin.1; have ho9 := TRL.o hin hg102 (by omega) (by omega) (hfin.2.2.2.1 0 (by omega)) hfin.2.2.1 (by omega); have hfB := hfin.2.2.2.2
        refine k_istore C (lw := [(7, .int x66), (0, .ref r0), (3, .ref r3), (4, .int x3), (5, .ref r0_1), (6, .ref r0_2)]) rfl rfl (Nat.le_of_ble_eq_true rfl) rfl ?_
        refine k_aload_n C rfl rfl rfl ?_
        refine k_iload C rfl rfl rfl ?_
        refine k_aload C rfl rfl rfl ?_
        refine g_I C rfl rfl rfl T_r0_1 rfl e53 ?_
        refine z_iadd C rfl rfl ⟨by omega, by omega⟩ (fun x67 ex67 => ?_)
        refine c_VV C (s_X2_begin_x hS hI51 H_r3) rfl rfl rfl rfl rfl ⟨_, rfl, rfl, T_r3, Nat.le_of_ble_eq_true rfl⟩ rfl rfl (Nat.le_of_ble_eq_true rfl) (Nat.le_of_ble_eq_true rfl) (Nat.le_of_ble_eq_true rfl) ?_
        rintro I69 L70 ⟨p0v68, p1v68, hI69, S71⟩
        try simp only [z_r0_0, z_r0_1, z_r0_2, z_r1_1, z_r2_1, z_r3_1, z_r0_0_6, z_r0_0_7, z_r0_0_8, z_r0_0_9, z_r0_0_10, z_r0_1_1, z_r0_2_1] at S71
        have e72 := Chg.k S71 T_r0_0 (by decide) (by decide) e61
        have e73 := (congrFun (Chg.at S71 (nm_2 (by first | exact hp4 | exact fun e => hp4 e.symm) (t_nq T_r0_1 T_r3_1 (by decide)))) 0).trans e53
        have e74 := (congrFun (Chg.at S71 (nm_2 (by first | exact hp5 | exact fun e => hp5 e.symm) (t_nq T_r0_2 T_r3_1 (by decide)))) 0).trans e57
        obtain ⟨x75, e76⟩ : ∃ x, I69 r3 0 = x := ⟨_, rfl⟩
        have gx75 := rg x75
        have ox75 := IX.deg hI69 A_r3 T_r3 e76
        try simp only [z_r0_0, z_r0_1, z_r0_2, z_r1_1, z_r2_1, z_r3_1, z_r0_0_6, z_r0_0_7, z_r0_0_8, z_r0_0_9, z_r0_0_10, z_r0_1_1, z_r0_2_1] at p0v68
        try simp only [z_r0_0, z_r0_1, z_r0_2, z_r1_1, z_r2_1, z_r3_1, z_r0_0_6, z_r0_0_7, z_r0_0_8, z_r0_0_9, z_r0_0_10, z_r0_1_1, z_r0_2_1] at p1v68
        try simp only [e61, e53, e57, e76] at p0v68
        try have q0v68 := congrArg Int32.toInt p0v68
        try simp only [e61, e53, e57, e76] at p1v68
        try have q1v68 := congrArg Int32.toInt p1v68
        have hbg := p0v68.2.2 (by omega) (by omega); (try rw [e76] at hbg); have hbz := p1v68; have eBB := NF.e (Chg.at S71 (nm_2 (t_nq T_r0_1_1 T_r3 (by decide)) (Ne.symm nb_r3_r0_1))); obtain ⟨B9, eB9⟩ : ∃ B9 : Nat → Int, NF I69 r0_1_1 = B9 := ⟨_, rfl⟩; rw [← eBB, eB9] at hfin; (try rw [← eBB, eB9] at ho9); have eB8 := congrFun eB9 0; obtain ⟨bd9, ebd9⟩ : ∃ z : Int, x52.toInt = z := ⟨_, rfl⟩
        refine z_iconst C (z := 0) rfl rfl rfl (fun x77 ex77 => ?_)
        have J78 : ∀ (nn79 : Nat) (I80 : IT) (L81 : LT) (x82 : Int32), (MN (41 - x82.toInt) nn79) → (IX A T I80) → (Chg (SL [r3, r3_1, r0_1, r0_1_1, r0_2, r0_2_1]) T [] I69 L70 I80 L81) → (0 ≤ x82.toInt) → (x82.toInt ≤ 41) → (COL (I80 r3_1) x3.toInt B9 x66.toInt w_r0_0_0.toInt x82.toInt) → (x82.toInt ≤ bd9 + 1) → (NF I80 r0_1_1 = B9) → V 126 [(0, .ref r0), (3, .ref r3), (4, .int x3), (5, .ref r0_1), (7, .int x66), (8, .int x82)] [] (T, N, I80, L81, R) 0 0 := by
          intro nn79
          induction nn79 using Nat.strongRecOn with
          | _ nn79 ihJ78 =>
            intro I80 L81 x82 hmnn79 hI86 S85 b83 b84 ff126_0 ff126_1 ff126_2
            have gx82 := rg x82
            have e90 := Chg.k S85 T_r0_0 (by decide) (by decide) e72
            have e91 := Chg.k S85 T_r0_1 (by decide) (by decide) e73
            have e92 := Chg.k S85 T_r0_2 (by decide) (by decide) e74
            have e93 := Chg.k S85 T_r3 (by decide) (by decide) e76
            refine k_iload C rfl rfl rfl ?_
            refine k_aload C rfl rfl rfl ?_
            refine g_I C rfl rfl rfl T_r0_1 rfl e91 ?_
            refine b_icmp_gt C (t := 166) rfl rfl rfl (fun c94 => ?_) (fun c94 => ?_)
            · skip
              exact k_vret C rfl rfl (Nat.le_of_ble_eq_true rfl) (Nat.le_of_ble_eq_true rfl) ⟨_, _, rfl, rfl, by (try simp only [z_r0_0, z_r0_1, z_r0_2, z_r1_1, z_r2_1, z_r3_1, z_r0_0_6, z_r0_0_7, z_r0_0_8, z_r0_0_9, z_r0_0_10, z_r0_1_1, z_r0_2_1]); rw [e93]; simp only [k0_r1_0, k0_r2_0, k0_r0_0_0]; exact COM.of ha9 hb9 hfin rfl rfl ho9 ff126_0 (by omega) (by omega) (by omega) (by omega) rfl (by omega), hI86, (by (try simp only [z_r0_0, z_r0_1, z_r0_2, z_r1_1, z_r2_1, z_r3_1, z_r0_0_6, z_r0_0_7, z_r0_0_8, z_r0_0_9, z_r0_0_10, z_r0_1_1, z_r0_2_1]); exact (Chg.cons (Chg.up S7 (List.forall_mem_cons.mpr ⟨List.mem_of_getElem? (i := 2) rfl, List.forall_mem_cons.mpr ⟨List.mem_of_getElem? (i := 3) rfl, fun _ h => nomatch h⟩⟩)) (Chg.cons (Chg.up S16 (List.forall_mem_cons.mpr ⟨List.mem_of_getElem? (i := 2) rfl, List.forall_mem_cons.mpr ⟨List.mem_of_getElem? (i := 3) rfl, fun _ h => nomatch h⟩⟩)) (Chg.cons (Chg.up S25 (List.forall_mem_cons.mpr ⟨List.mem_of_getElem? (i := 4) rfl, List.forall_mem_cons.mpr ⟨List.mem_of_getElem? (i := 5) rfl, fun _ h => nomatch h⟩⟩)) (Chg.cons (Chg.up S35 (List.forall_mem_cons.mpr ⟨List.mem_of_getElem? (i := 4) rfl, List.forall_mem_cons.mpr ⟨List.mem_of_getElem? (i := 5) rfl, fun _ h => nomatch h⟩⟩)) (Chg.cons S50 (Chg.cons (Chg.up S71 (List.forall_mem_cons.mpr ⟨List.mem_of_getElem? (i := 0) rfl, List.forall_mem_cons.mpr ⟨List.mem_of_getElem? (i := 1) rfl, fun _ h => nomatch h⟩⟩)) (Chg.mono S85 (by decide)) (by decide)) (by decide)) (by decide)) (by decide)) (by decide)) (by decide)))⟩
            refine k_aload_n C rfl rfl rfl ?_
            refine k_iload C rfl rfl rfl ?_
            refine k_iload C rfl rfl rfl ?_
            refine z_iadd C rfl rfl ⟨by omega, by omega⟩ (fun x95 ex95 => ?_)
            refine k_aload_n C rfl rfl rfl ?_
            refine k_aload C rfl rfl rfl ?_
            refine k_iload C rfl rfl rfl ?_
            refine c_VI C (s_X2_get_x hS hI86 (hs_GF hS H_r0_1)) rfl rfl rfl rfl rfl ⟨_, rfl, rfl, T_r0_1, Nat.le_of_ble_eq_true rfl⟩ rfl rfl (Nat.le_of_ble_eq_true rfl) (Nat.le_of_ble_eq_true rfl) (Nat.le_of_ble_eq_true rfl) ?_
            rintro x96 _ _ ⟨p0x96, rfl, rfl⟩
            have gx96 := rg x96
            try simp only [z_r0_0, z_r0_1, z_r0_2, z_r1_1, z_r2_1, z_r3_1, z_r0_0_6, z_r0_0_7, z_r0_0_8, z_r0_0_9, z_r0_0_10, z_r0_1_1, z_r0_2_1] at p0x96
            try simp only [e90, e91, e92, e93] at p0x96
            try have q0x96 := congrArg Int32.toInt p0x96
            have hg147 := p0x96; (try simp only [e91] at hg147); have hg147 : GTD x96.toInt _ (NF I80 r0_1_1) _ := hg147; rw [ff126_2] at hg147
            refine k_iload C rfl rfl rfl ?_
            refine z_imulE C rfl rfl (fun x97 ex97 => ?_)
            have gx97 := rg x97
            have m152 := ex97
            refine z_i2l C rfl rfl (fun lg98 elg98 => ?_)
            have hl154 := elg98
            refine c_VI C (s_X0_of_x hS hI86 H_r0) rfl rfl rfl rfl rfl ⟨_, rfl, rfl, T_r0, Nat.le_of_ble_eq_true rfl⟩ rfl rfl (Nat.le_of_ble_eq_true rfl) (Nat.le_of_ble_eq_true rfl) (Nat.le_of_ble_eq_true rfl) ?_
            rintro x99 _ _ ⟨o0x99, o1x99, p0x99, p1x99, rfl, rfl⟩
            have gx99 := rg x99
            try simp only [z_r0_0, z_r0_1, z_r0_2, z_r1_1, z_r2_1, z_r3_1, z_r0_0_6, z_r0_0_7, z_r0_0_8, z_r0_0_9, z_r0_0_10, z_r0_1_1, z_r0_2_1] at p0x99
            try simp only [z_r0_0, z_r0_1, z_r0_2, z_r1_1, z_r2_1, z_r3_1, z_r0_0_6, z_r0_0_7, z_r0_0_8, z_r0_0_9, z_r0_0_10, z_r0_1_1, z_r0_2_1] at p1x99
            try simp only [e90, e91, e92, e93] at p0x99
            try have q0x99 := congrArg Int32.toInt p0x99
            try simp only [e90, e91, e92, e93] at p1x99
            try have q1x99 := congrArg Int32.toInt p1x99
            have ho154 := p0x99; (try simp only [e90] at ho154)
            refine c_VV C (s_X2_set_x hS hI86 H_r3) rfl rfl rfl rfl rfl ⟨_, rfl, rfl, T_r3, Nat.le_of_ble_eq_true rfl⟩ rfl rfl (Nat.le_of_ble_eq_true rfl) (Nat.le_of_ble_eq_true rfl) (Nat.le_of_ble_eq_true rfl) ?_
            rintro I101 L102 ⟨p0v100, hI101, S103⟩
            try simp only [z_r0_0, z_r0_1, z_r0_2, z_r1_1, z_r2_1, z_r3_1, z_r0_0_6, z_r0_0_7, z_r0_0_8, z_r0_0_9, z_r0_0_10, z_r0_1_1, z_r0_2_1] at S103
            have e104 := Chg.k S103 T_r0_0 (by decide) (by decide) e90
            have e105 := Chg.k S103 T_r0_1 (by decide) (by decide) e91
            have e106 := Chg.k S103 T_r0_2 (by decide) (by decide) e92
            have e107 := Chg.k S103 T_r3 (by decide) (by decide) e93
            try simp only [z_r0_0, z_r0_1, z_r0_2, z_r1_1, z_r2_1, z_r3_1, z_r0_0_6, z_r0_0_7, z_r0_0_8, z_r0_0_9, z_r0_0_10, z_r0_1_1, z_r0_2_1] at p0v100
            try simp only [e90, e91, e92, e93] at p0v100
            try have q0v100 := congrArg Int32.toInt p0v100
            have hse := p0v100; have hNB := NF.e (Chg.at S103 (nm_1 nb_r0_1_r3))
            refine z_iinc C (z := 1) (lw := fun x108 => [(8, .int x108), (0, .ref r0), (3, .ref r3), (4, .int x3), (5, .ref r0_1), (7, .int x66)]) rfl rfl rfl (Nat.le_of_ble_eq_true rfl) rfl ⟨by omega, by omega⟩ (fun _ => rfl) (fun x108 ex108 => ?_)
            show V 163 [(8, .int x108), (0, .ref r0), (3, .ref r3), (4, .int x3), (5, .ref r0_1), (7, .int x66)] _ _ _ _
            refine k_goto C (pc2 := 126) rfl rfl ?_
            refine k_sub S [(0, .ref r0), (3, .ref r3), (4, .int x3), (5, .ref r0_1), (7, .int x66), (8, .int x108)] (List.forall_mem_cons.mpr ⟨List.mem_of_getElem? (i := 1) rfl, List.forall_mem_cons.mpr ⟨List.mem_of_getElem? (i := 2) rfl, List.forall_mem_cons.mpr ⟨List.mem_of_getElem? (i := 3) rfl, List.forall_mem_cons.mpr ⟨List.mem_of_getElem? (i := 4) rfl, List.forall_mem_cons.mpr ⟨List.mem_of_getElem? (i := 5) rfl, List.forall_mem_cons.mpr ⟨List.mem_of_getElem? (i := 0) rfl, fun _ h => nomatch h⟩⟩⟩⟩⟩⟩) ?_
            exact ihJ78 _ (MN.lt hmnn79 (by omega) (by omega)) I101 L102 x108 rfl hI101 (Chg.cons S85 (Chg.mono (Chg.up S103 (List.forall_mem_cons.mpr ⟨List.mem_of_getElem? (i := 1) rfl, fun _ h => nomatch h⟩)) (by decide)) (by decide)) (by omega) (by omega) (by exact COL.s ff126_0 hg147 m152 hl154 ho154 hse hfin.2.2.2.1 (by omega) ⟨by omega, by omega⟩ (by omega) (by omega) (by omega) (by omega) (by omega) (by omega)) (by omega) (by exact hNB.trans ff126_2)
        refine k_istore C (lw := [(8, .int x77), (7, .int x66), (0, .ref r0), (3, .ref r3), (4, .int x3), (5, .ref r0_1), (6, .ref r0_2)]) rfl rfl (Nat.le_of_ble_eq_true rfl) rfl ?_
        refine k_sub S [(0, .ref r0), (3, .ref r3), (4, .int x3), (5, .ref r0_1), (7, .int x66), (8, .int x77)] (List.forall_mem_cons.mpr ⟨List.mem_of_getElem? (i := 2) rfl, List.forall_mem_cons.mpr ⟨List.mem_of_getElem? (i := 3) rfl, List.forall_mem_cons.mpr ⟨List.mem_of_getElem? (i := 4) rfl, List.forall_mem_cons.mpr ⟨List.mem_of_getElem? (i := 5) rfl, List.forall_mem_cons.mpr ⟨List.mem_of_getElem? (i := 1) rfl, List.forall_mem_cons.mpr ⟨List.mem_of_getElem? (i := 0) rfl, fun _ h => nomatch h⟩⟩⟩⟩⟩⟩) ?_
        exact J78 _ I69 L70 x77 rfl hI69 Chg.rf (by omega) (by omega) (by exact COL.z hbz (by omega)) (by omega) (by exact eB9)
      refine k_aload C rfl rfl rfl ?_
      refine c_VI C (s_X2_isNought_x hS hI51 (hs_GF hS H_r0_2)) rfl rfl rfl rfl rfl ⟨_, rfl, rfl, T_r0_2, Nat.le_of_ble_eq_true rfl⟩ rfl rfl (Nat.le_of_ble_eq_true rfl) (Nat.le_of_ble_eq_true rfl) (Nat.le_of_ble_eq_true rfl) ?_
      rintro x109 _ _ ⟨o0x109, o1x109, p0x109, rfl, rfl⟩
      have gx109 := rg x109
      try simp only [z_r0_0, z_r0_1, z_r0_2, z_r1_1, z_r2_1, z_r3_1, z_r0_0_6, z_r0_0_7, z_r0_0_8, z_r0_0_9, z_r0_0_10, z_r0_1_1, z_r0_2_1] at p0x109
      try simp only [e61, e53, e57] at p0x109
      try have q0x109 := congrArg Int32.toInt p0x109
      have hnq := p0x109; (try simp only [e57] at hnq)
      refine b_if_ne C (t := 99) rfl rfl rfl (fun c110 => ?_) (fun c110 => ?_)
      · skip
        first | have hfin := EUS.fin hst1 (by first | exact Or.inl (hnq.1 (by omega)) | exact Or.inr (by omega)) | have hfin := EUS.fin ff58_0 (by first | exact Or.inl (hnq.1 (by omega)) | exact Or.inr (by omega))
        refine k_aload_n C rfl rfl rfl ?_
        refine k_aload C rfl rfl rfl ?_
        refine z_iconst C (z := 0) rfl rfl rfl (fun x111 ex111 => ?_)
        refine c_VI C (s_X2_get_x hS hI51 (hs_GF hS H_r0_1)) rfl rfl rfl rfl rfl ⟨_, rfl, rfl, T_r0_1, Nat.le_of_ble_eq_true rfl⟩ rfl rfl (Nat.le_of_ble_eq_true rfl) (Nat.le_of_ble_eq_true rfl) (Nat.le_of_ble_eq_true rfl) ?_
        rintro x112 _ _ ⟨p0x112, rfl, rfl⟩
        have gx112 := rg x112
        try simp only [z_r0_0, z_r0_1, z_r0_2, z_r1_1, z_r2_1, z_r3_1, z_r0_0_6, z_r0_0_7, z_r0_0_8, z_r0_0_9, z_r0_0_10, z_r0_1_1, z_r0_2_1] at p0x112
        try simp only [e61, e53, e57] at p0x112
        try have q0x112 := congrArg Int32.toInt p0x112
        have hg102 := p0x112; (try simp only [e53] at hg102); have hg102 : GTD x112.toInt _ (NF I45 r0_1_1) _ := hg102; have hb102 := GTD.b0 hg102 (by omega) (by omega) (hfin.2.2.2.1 0 (by omega)) (by omega)
        refine c_VI C (s_X0_inverse_x hS hI51 H_r0 (by omega) (by omega) (by rw [z_r0_0, e61]; exact hp15)) rfl rfl rfl rfl rfl ⟨_, rfl, rfl, T_r0, Nat.le_of_ble_eq_true rfl⟩ rfl rfl (Nat.le_of_ble_eq_true rfl) (Nat.le_of_ble_eq_true rfl) (Nat.le_of_ble_eq_true rfl) ?_
        rintro x113 _ _ ⟨o0x113, o1x113, p0x113, rfl, rfl⟩
        have gx113 := rg x113
        try simp only [z_r0_0, z_r0_1, z_r0_2, z_r1_1, z_r2_1, z_r3_1, z_r0_0_6, z_r0_0_7, z_r0_0_8, z_r0_0_9, z_r0_0_10, z_r0_1_1, z_r0_2_1] at p0x113
        try simp only [e61, e53, e57] at p0x113
        try have q0x113 := congrArg Int32.toInt p0x113
        have hin := p0x113; (try simp only [e61] at hin); have hib := hin.1; have ho9 := TRL.o hin hg102 (by omega) (by omega) (hfin.2.2.2.1 0 (by omega)) hfin.2.2.1 (by omega); have hfB := hfin.2.2.2.2
        refine k_istore C (lw := [(7, .int x113), (0, .ref r0), (3, .ref r3), (4, .int x3), (5, .ref r0_1), (6, .ref r0_2)]) rfl rfl (Nat.le_of_ble_eq_true rfl) rfl ?_
        refine k_aload_n C rfl rfl rfl ?_
        refine k_iload C rfl rfl rfl ?_
        refine k_aload C rfl rfl rfl ?_
        refine g_I C rfl rfl rfl T_r0_1 rfl e53 ?_
        refine z_iadd C rfl rfl ⟨by omega, by omega⟩ (fun x114 ex114 => ?_)
        refine c_VV C (s_X2_begin_x hS hI51 H_r3) rfl rfl rfl rfl rfl ⟨_, rfl, rfl, T_r3, Nat.le_of_ble_eq_true rfl⟩ rfl rfl (Nat.le_of_ble_eq_true rfl) (Nat.le_of_ble_eq_true rfl) (Nat.le_of_ble_eq_true rfl) ?_
        rintro I116 L117 ⟨p0v115, p1v115, hI116, S118⟩
        try simp only [z_r0_0, z_r0_1, z_r0_2, z_r1_1, z_r2_1, z_r3_1, z_r0_0_6, z_r0_0_7, z_r0_0_8, z_r0_0_9, z_r0_0_10, z_r0_1_1, z_r0_2_1] at S118
        have e119 := Chg.k S118 T_r0_0 (by decide) (by decide) e61
        have e120 := (congrFun (Chg.at S118 (nm_2 (by first | exact hp4 | exact fun e => hp4 e.symm) (t_nq T_r0_1 T_r3_1 (by decide)))) 0).trans e53
        have e121 := (congrFun (Chg.at S118 (nm_2 (by first | exact hp5 | exact fun e => hp5 e.symm) (t_nq T_r0_2 T_r3_1 (by decide)))) 0).trans e57
        obtain ⟨x122, e123⟩ : ∃ x, I116 r3 0 = x := ⟨_, rfl⟩
        have gx122 := rg x122
        have ox122 := IX.deg hI116 A_r3 T_r3 e123
        try simp only [z_r0_0, z_r0_1, z_r0_2, z_r1_1, z_r2_1, z_r3_1, z_r0_0_6, z_r0_0_7, z_r0_0_8, z_r0_0_9, z_r0_0_10, z_r0_1_1, z_r0_2_1] at p0v115
        try simp only [z_r0_0, z_r0_1, z_r0_2, z_r1_1, z_r2_1, z_r3_1, z_r0_0_6, z_r0_0_7, z_r0_0_8, z_r0_0_9, z_r0_0_10, z_r0_1_1, z_r0_2_1] at p1v115
        try simp only [e61, e53, e57, e123] at p0v115
        try have q0v115 := congrArg Int32.toInt p0v115
        try simp only [e61, e53, e57, e123] at p1v115
        try have q1v115 := congrArg Int32.toInt p1v115
        have hbg := p0v115.2.2 (by omega) (by omega); (try rw [e123] at hbg); have hbz := p1v115; have eBB := NF.e (Chg.at S118 (nm_2 (t_nq T_r0_1_1 T_r3 (by decide)) (Ne.symm nb_r3_r0_1))); obtain ⟨B9, eB9⟩ : ∃ B9 : Nat → Int, NF I116 r0_1_1 = B9 := ⟨_, rfl⟩; rw [← eBB, eB9] at hfin; (try rw [← eBB, eB9] at ho9); have eB8 := congrFun eB9 0; obtain ⟨bd9, ebd9⟩ : ∃ z : Int, x52.toInt = z := ⟨_, rfl⟩
        refine z_iconst C (z := 0) rfl rfl rfl (fun x124 ex124 => ?_)
        have J125 : ∀ (nn126 : Nat) (I127 : IT) (L128 : LT) (x129 : Int32), (MN (41 - x129.toInt) nn126) → (IX A T I127) → (Chg (SL [r3, r3_1, r0_1, r0_1_1, r0_2, r0_2_1]) T [] I116 L117 I127 L128) → (0 ≤ x129.toInt) → (x129.toInt ≤ 41) → (COL (I127 r3_1) x3.toInt B9 x113.toInt w_r0_0_0.toInt x129.toInt) → (x129.toInt ≤ bd9 + 1) → (NF I127 r0_1_1 = B9) → V 126 [(0, .ref r0), (3, .ref r3), (4, .int x3), (5, .ref r0_1), (7, .int x113), (8, .int x129)] [] (T, N, I127, L128, R) 0 0 := by
          intro nn126
          induction nn126 using Nat.strongRecOn with
          | _ nn126 ihJ125 =>
            intro I127 L128 x129 hmnn126 hI133 S132 b130 b131 ff126_0 ff126_1 ff126_2
            have gx129 := rg x129
            have e137 := Chg.k S132 T_r0_0 (by decide) (by decide) e119
            have e138 := Chg.k S132 T_r0_1 (by decide) (by decide) e120
            have e139 := Chg.k S132 T_r0_2 (by decide) (by decide) e121
            have e140 := Chg.k S132 T_r3 (by decide) (by decide) e123
            refine k_iload C rfl rfl rfl ?_
            refine k_aload C rfl rfl rfl ?_
            refine g_I C rfl rfl rfl T_r0_1 rfl e138 ?_
            refine b_icmp_gt C (t := 166) rfl rfl rfl (fun c141 => ?_) (fun c141 => ?_)
            · skip
              exact k_vret C rfl rfl (Nat.le_of_ble_eq_true rfl) (Nat.le_of_ble_eq_true rfl) ⟨_, _, rfl, rfl, by (try simp only [z_r0_0, z_r0_1, z_r0_2, z_r1_1, z_r2_1, z_r3_1, z_r0_0_6, z_r0_0_7, z_r0_0_8, z_r0_0_9, z_r0_0_10, z_r0_1_1, z_r0_2_1]); rw [e140]; simp only [k0_r1_0, k0_r2_0, k0_r0_0_0]; exact COM.of ha9 hb9 hfin rfl rfl ho9 ff126_0 (by omega) (by omega) (by omega) (by omega) rfl (by omega), hI133, (by (try simp only [z_r0_0, z_r0_1, z_r0_2, z_r1_1, z_r2_1, z_r3_1, z_r0_0_6, z_r0_0_7, z_r0_0_8, z_r0_0_9, z_r0_0_10, z_r0_1_1, z_r0_2_1]); exact (Chg.cons (Chg.up S7 (List.forall_mem_cons.mpr ⟨List.mem_of_getElem? (i := 2) rfl, List.forall_mem_cons.mpr ⟨List.mem_of_getElem? (i := 3) rfl, fun _ h => nomatch h⟩⟩)) (Chg.cons (Chg.up S16 (List.forall_mem_cons.mpr ⟨List.mem_of_getElem? (i := 2) rfl, List.forall_mem_cons.mpr ⟨List.mem_of_getElem? (i := 3) rfl, fun _ h => nomatch h⟩⟩)) (Chg.cons (Chg.up S25 (List.forall_mem_cons.mpr ⟨List.mem_of_getElem? (i := 4) rfl, List.forall_mem_cons.mpr ⟨List.mem_of_getElem? (i := 5) rfl, fun _ h => nomatch h⟩⟩)) (Chg.cons (Chg.up S35 (List.forall_mem_cons.mpr ⟨List.mem_of_getElem? (i := 4) rfl, List.forall_mem_cons.mpr ⟨List.mem_of_getElem? (i := 5) rfl, fun _ h => nomatch h⟩⟩)) (Chg.cons S50 (Chg.cons (Chg.up S118 (List.forall_mem_cons.mpr ⟨List.mem_of_getElem? (i := 0) rfl, List.forall_mem_cons.mpr ⟨List.mem_of_getElem? (i := 1) rfl, fun _ h => nomatch h⟩⟩)) (Chg.mono S132 (by decide)) (by decide)) (by decide)) (by decide)) (by decide)) (by decide)) (by decide)))⟩
            refine k_aload_n C rfl rfl rfl ?_
            refine k_iload C rfl rfl rfl ?_
            refine k_iload C rfl rfl rfl ?_
            refine z_iadd C rfl rfl ⟨by omega, by omega⟩ (fun x142 ex142 => ?_)
            refine k_aload_n C rfl rfl rfl ?_
            refine k_aload C rfl rfl rfl ?_
            refine k_iload C rfl rfl rfl ?_
            refine c_VI C (s_X2_get_x hS hI133 (hs_GF hS H_r0_1)) rfl rfl rfl rfl rfl ⟨_, rfl, rfl, T_r0_1, Nat.le_of_ble_eq_true rfl⟩ rfl rfl (Nat.le_of_ble_eq_true rfl) (Nat.le_of_ble_eq_true rfl) (Nat.le_of_ble_eq_true rfl) ?_
            rintro x143 _ _ ⟨p0x143, rfl, rfl⟩
            have gx143 := rg x143
            try simp only [z_r0_0, z_r0_1, z_r0_2, z_r1_1, z_r2_1, z_r3_1, z_r0_0_6, z_r0_0_7, z_r0_0_8, z_r0_0_9, z_r0_0_10, z_r0_1_1, z_r0_2_1] at p0x143
            try simp only [e137, e138, e139, e140] at p0x143
            try have q0x143 := congrArg Int32.toInt p0x143
            have hg147 := p0x143; (try simp only [e138] at hg147); have hg147 : GTD x143.toInt _ (NF I127 r0_1_1) _ := hg147; rw [ff126_2] at hg147
            refine k_iload C rfl rfl rfl ?_
            refine z_imulE C rfl rfl (fun x144 ex144 => ?_)
            have gx144 := rg x144
            have m152 := ex144
            refine z_i2l C rfl rfl (fun lg145 elg145 => ?_)
            have hl154 := elg145
            refine c_VI C (s_X0_of_x hS hI133 H_r0) rfl rfl rfl rfl rfl ⟨_, rfl, rfl, T_r0, Nat.le_of_ble_eq_true rfl⟩ rfl rfl (Nat.le_of_ble_eq_true rfl) (Nat.le_of_ble_eq_true rfl) (Nat.le_of_ble_eq_true rfl) ?_
            rintro x146 _ _ ⟨o0x146, o1x146, p0x146, p1x146, rfl, rfl⟩
            have gx146 := rg x146
            try simp only [z_r0_0, z_r0_1, z_r0_2, z_r1_1, z_r2_1, z_r3_1, z_r0_0_6, z_r0_0_7, z_r0_0_8, z_r0_0_9, z_r0_0_10, z_r0_1_1, z_r0_2_1] at p0x146
            try simp only [z_r0_0, z_r0_1, z_r0_2, z_r1_1, z_r2_1, z_r3_1, z_r0_0_6, z_r0_0_7, z_r0_0_8, z_r0_0_9, z_r0_0_10, z_r0_1_1, z_r0_2_1] at p1x146
            try simp only [e137, e138, e139, e140] at p0x146
            try have q0x146 := congrArg Int32.toInt p0x146
            try simp only [e137, e138, e139, e140] at p1x146
            try have q1x146 := congrArg Int32.toInt p1x146
            have ho154 := p0x146; (try simp only [e137] at ho154)
            refine c_VV C (s_X2_set_x hS hI133 H_r3) rfl rfl rfl rfl rfl ⟨_, rfl, rfl, T_r3, Nat.le_of_ble_eq_true rfl⟩ rfl rfl (Nat.le_of_ble_eq_true rfl) (Nat.le_of_ble_eq_true rfl) (Nat.le_of_ble_eq_true rfl) ?_
            rintro I148 L149 ⟨p0v147, hI148, S150⟩
            try simp only [z_r0_0, z_r0_1, z_r0_2, z_r1_1, z_r2_1, z_r3_1, z_r0_0_6, z_r0_0_7, z_r0_0_8, z_r0_0_9, z_r0_0_10, z_r0_1_1, z_r0_2_1] at S150
            have e151 := Chg.k S150 T_r0_0 (by decide) (by decide) e137
            have e152 := Chg.k S150 T_r0_1 (by decide) (by decide) e138
            have e153 := Chg.k S150 T_r0_2 (by decide) (by decide) e139
            have e154 := Chg.k S150 T_r3 (by decide) (by decide) e140
            try simp only [z_r0_0, z_r0_1, z_r0_2, z_r1_1, z_r2_1, z_r3_1, z_r0_0_6, z_r0_0_7, z_r0_0_8, z_r0_0_9, z_r0_0_10, z_r0_1_1, z_r0_2_1] at p0v147
            try simp only [e137, e138, e139, e140] at p0v147
            try have q0v147 := congrArg Int32.toInt p0v147
            have hse := p0v147; have hNB := NF.e (Chg.at S150 (nm_1 nb_r0_1_r3))
            refine z_iinc C (z := 1) (lw := fun x155 => [(8, .int x155), (0, .ref r0), (3, .ref r3), (4, .int x3), (5, .ref r0_1), (7, .int x113)]) rfl rfl rfl (Nat.le_of_ble_eq_true rfl) rfl ⟨by omega, by omega⟩ (fun _ => rfl) (fun x155 ex155 => ?_)
            show V 163 [(8, .int x155), (0, .ref r0), (3, .ref r3), (4, .int x3), (5, .ref r0_1), (7, .int x113)] _ _ _ _
            refine k_goto C (pc2 := 126) rfl rfl ?_
            refine k_sub S [(0, .ref r0), (3, .ref r3), (4, .int x3), (5, .ref r0_1), (7, .int x113), (8, .int x155)] (List.forall_mem_cons.mpr ⟨List.mem_of_getElem? (i := 1) rfl, List.forall_mem_cons.mpr ⟨List.mem_of_getElem? (i := 2) rfl, List.forall_mem_cons.mpr ⟨List.mem_of_getElem? (i := 3) rfl, List.forall_mem_cons.mpr ⟨List.mem_of_getElem? (i := 4) rfl, List.forall_mem_cons.mpr ⟨List.mem_of_getElem? (i := 5) rfl, List.forall_mem_cons.mpr ⟨List.mem_of_getElem? (i := 0) rfl, fun _ h => nomatch h⟩⟩⟩⟩⟩⟩) ?_
            exact ihJ125 _ (MN.lt hmnn126 (by omega) (by omega)) I148 L149 x155 rfl hI148 (Chg.cons S132 (Chg.mono (Chg.up S150 (List.forall_mem_cons.mpr ⟨List.mem_of_getElem? (i := 1) rfl, fun _ h => nomatch h⟩)) (by decide)) (by decide)) (by omega) (by omega) (by exact COL.s ff126_0 hg147 m152 hl154 ho154 hse hfin.2.2.2.1 (by omega) ⟨by omega, by omega⟩ (by omega) (by omega) (by omega) (by omega) (by omega) (by omega)) (by omega) (by exact hNB.trans ff126_2)
        refine k_istore C (lw := [(8, .int x124), (7, .int x113), (0, .ref r0), (3, .ref r3), (4, .int x3), (5, .ref r0_1), (6, .ref r0_2)]) rfl rfl (Nat.le_of_ble_eq_true rfl) rfl ?_
        refine k_sub S [(0, .ref r0), (3, .ref r3), (4, .int x3), (5, .ref r0_1), (7, .int x113), (8, .int x124)] (List.forall_mem_cons.mpr ⟨List.mem_of_getElem? (i := 2) rfl, List.forall_mem_cons.mpr ⟨List.mem_of_getElem? (i := 3) rfl, List.forall_mem_cons.mpr ⟨List.mem_of_getElem? (i := 4) rfl, List.forall_mem_cons.mpr ⟨List.mem_of_getElem? (i := 5) rfl, List.forall_mem_cons.mpr ⟨List.mem_of_getElem? (i := 1) rfl, List.forall_mem_cons.mpr ⟨List.mem_of_getElem? (i := 0) rfl, fun _ h => nomatch h⟩⟩⟩⟩⟩⟩) ?_
        exact J125 _ I116 L117 x124 rfl hI116 Chg.rf (by omega) (by omega) (by exact COL.z hbz (by omega)) (by omega) (by exact eB9)
      refine k_aload_n C rfl rfl rfl ?_
      refine k_aload C rfl rfl rfl ?_
      refine k_aload C rfl rfl rfl ?_
      refine c_VV C (s_X0_takeRest_x hS hI51 H_r0 (hs_GF hS H_r0_1) (hs_GF hS H_r0_2) hU (by first | exact hp6 | exact Ne.symm hp6) (by first | (first | rw [z_r0_1_1] | skip); (try simp only [z_r0_1_1, z_r0_2_1, z_r0_0, e61, e53, e57]); first | exact hst1.2.1 | exact ff58_0.2.1) (by (try simp only [z_r0_1_1, z_r0_2_1, z_r0_0, e61, e53, e57]); first | exact hst1.2.2.1 | exact ff58_0.2.2.1) (Or.inr (by (try simp only [z_r0_1_1, z_r0_2_1]); first | exact hst1.2.2.2.1 | exact ff58_0.2.2.2.1)) (by (try simp only [z_r0_1_1, z_r0_2_1]); first | exact ((hst1.2.2.2.2.2.1).resolve_left (hnq.2 (by omega))).1 | exact ((ff58_0.2.2.2.2.2.1).resolve_left (hnq.2 (by omega))).1) (by rw [z_r0_0, e61]; exact hp15)) rfl rfl rfl rfl rfl ⟨_, rfl, rfl, T_r0, Nat.le_of_ble_eq_true rfl⟩ rfl rfl (Nat.le_of_ble_eq_true rfl) (Nat.le_of_ble_eq_true rfl) (Nat.le_of_ble_eq_true rfl) ?_
      rintro I157 L158 ⟨p0v156, hI157, S159⟩
      try simp only [z_r0_0, z_r0_1, z_r0_2, z_r1_1, z_r2_1, z_r3_1, z_r0_0_6, z_r0_0_7, z_r0_0_8, z_r0_0_9, z_r0_0_10, z_r0_1_1, z_r0_2_1] at S159
      have e160 := Chg.k S159 T_r0_0 (by decide) (by decide) e61
      have e161 := (congrFun (Chg.at S159 (nm_2 (by first | exact hp6 | exact fun e => hp6 e.symm) (t_nq T_r0_2 T_r0_1_1 (by decide)))) 0).trans e57
      obtain ⟨x162, e163⟩ : ∃ x, I157 r0_1 0 = x := ⟨_, rfl⟩
      have gx162 := rg x162
      have ox162 := IX.deg hI157 A_r0_1 T_r0_1 e163
      try simp only [z_r0_0, z_r0_1, z_r0_2, z_r1_1, z_r2_1, z_r3_1, z_r0_0_6, z_r0_0_7, z_r0_0_8, z_r0_0_9, z_r0_0_10, z_r0_1_1, z_r0_2_1] at p0v156
      try simp only [e61, e53, e57, e163] at p0v156
      try have q0v156 := congrArg Int32.toInt p0v156
      first | have hst2 := EUS.st (n' := x47.toInt + 1) hst1 (hnq.2 (by omega)) p0v156 (NF.e (Chg.at S159 (nm_2 (t_nq T_r0_2_1 T_r0_1 (by decide)) nb_r0_2_r0_1))) rfl (by omega) | have hst1 := EUS.st (n' := x47.toInt + 1) ff58_0 (hnq.2 (by omega)) p0v156 (NF.e (Chg.at S159 (nm_2 (t_nq T_r0_2_1 T_r0_1 (by decide)) nb_r0_2_r0_1))) rfl (by omega)
      refine k_aload C rfl rfl rfl ?_
      refine k_astore C (lw := [(8, .ref r0_1), (0, .ref r0), (3, .ref r3), (4, .int x3), (5, .ref r0_1), (6, .ref r0_2), (7, .int x47)]) rfl rfl (Nat.le_of_ble_eq_true rfl) rfl ?_
      refine k_aload C rfl rfl rfl ?_
      refine k_astore C (lw := [(5, .ref r0_2), (8, .ref r0_1), (0, .ref r0), (3, .ref r3), (4, .int x3), (6, .ref r0_2), (7, .int x47)]) rfl rfl (Nat.le_of_ble_eq_true rfl) rfl ?_
      refine k_aload C rfl rfl rfl ?_
      refine k_astore C (lw := [(6, .ref r0_1), (5, .ref r0_2), (8, .ref r0_1), (0, .ref r0), (3, .ref r3), (4, .int x3), (7, .int x47)]) rfl rfl (Nat.le_of_ble_eq_true rfl) rfl ?_
      refine z_iinc C (z := 1) (lw := fun x164 => [(7, .int x164), (6, .ref r0_1), (5, .ref r0_2), (8, .ref r0_1), (0, .ref r0), (3, .ref r3), (4, .int x3)]) rfl rfl rfl (Nat.le_of_ble_eq_true rfl) rfl ⟨by omega, by omega⟩ (fun _ => rfl) (fun x164 ex164 => ?_)
      show V 96 [(7, .int x164), (6, .ref r0_1), (5, .ref r0_2), (8, .ref r0_1), (0, .ref r0), (3, .ref r3), (4, .int x3)] _ _ _ _
      refine k_goto C (pc2 := 58) rfl rfl ?_
      refine k_iload C rfl rfl rfl ?_
      refine z_bipush C (z := 80) rfl rfl rfl (fun x165 ex165 => ?_)
      refine b_icmp_gt C (t := 99) rfl rfl rfl (fun c166 => ?_) (fun c166 => ?_)
      · skip
        first | have hfin := EUS.fin hst1 (by first | exact Or.inl (hnq.1 (by omega)) | exact Or.inr (by omega)) | have hfin := EUS.fin ff58_0 (by first | exact Or.inl (hnq.1 (by omega)) | exact Or.inr (by omega))
        refine k_aload_n C rfl rfl rfl ?_
        refine k_aload C rfl rfl rfl ?_
        refine z_iconst C (z := 0) rfl rfl rfl (fun x167 ex167 => ?_)
        refine c_VI C (s_X2_get_x hS hI157 (hs_GF hS H_r0_2)) rfl rfl rfl rfl rfl ⟨_, rfl, rfl, T_r0_2, Nat.le_of_ble_eq_true rfl⟩ rfl rfl (Nat.le_of_ble_eq_true rfl) (Nat.le_of_ble_eq_true rfl) (Nat.le_of_ble_eq_true rfl) ?_
        rintro x168 _ _ ⟨p0x168, rfl, rfl⟩
        have gx168 := rg x168
        try simp only [z_r0_0, z_r0_1, z_r0_2, z_r1_1, z_r2_1, z_r3_1, z_r0_0_6, z_r0_0_7, z_r0_0_8, z_r0_0_9, z_r0_0_10, z_r0_1_1, z_r0_2_1] at p0x168
        try simp only [e160, e161, e163] at p0x168
        try have q0x168 := congrArg Int32.toInt p0x168
        have hg102 := p0x168; (try simp only [e161] at hg102); have hg102 : GTD x168.toInt _ (NF I157 r0_2_1) _ := hg102; have hb102 := GTD.b0 hg102 (by omega) (by omega) (hfin.2.2.2.1 0 (by omega)) (by omega)
        refine c_VI C (s_X0_inverse_x hS hI157 H_r0 (by omega) (by omega) (by rw [z_r0_0, e160]; exact hp15)) rfl rfl rfl rfl rfl ⟨_, rfl, rfl, T_r0, Nat.le_of_ble_eq_true rfl⟩ rfl rfl (Nat.le_of_ble_eq_true rfl) (Nat.le_of_ble_eq_true rfl) (Nat.le_of_ble_eq_true rfl) ?_
        rintro x169 _ _ ⟨o0x169, o1x169, p0x169, rfl, rfl⟩
        have gx169 := rg x169
        try simp only [z_r0_0, z_r0_1, z_r0_2, z_r1_1, z_r2_1, z_r3_1, z_r0_0_6, z_r0_0_7, z_r0_0_8, z_r0_0_9, z_r0_0_10, z_r0_1_1, z_r0_2_1] at p0x169
        try simp only [e160, e161, e163] at p0x169
        try have q0x169 := congrArg Int32.toInt p0x169
        have hin := p0x169; (try simp only [e160] at hin); have hib := hin.1; have ho9 := TRL.o hin hg102 (by omega) (by omega) (hfin.2.2.2.1 0 (by omega)) hfin.2.2.1 (by omega); have hfB := hfin.2.2.2.2
        refine k_istore C (lw := [(7, .int x169), (6, .ref r0_1), (5, .ref r0_2), (8, .ref r0_1), (0, .ref r0), (3, .ref r3), (4, .int x3)]) rfl rfl (Nat.le_of_ble_eq_true rfl) rfl ?_
        refine k_aload_n C rfl rfl rfl ?_
        refine k_iload C rfl rfl rfl ?_
        refine k_aload C rfl rfl rfl ?_
        refine g_I C rfl rfl rfl T_r0_2 rfl e161 ?_
        refine z_iadd C rfl rfl ⟨by omega, by omega⟩ (fun x170 ex170 => ?_)
        refine c_VV C (s_X2_begin_x hS hI157 H_r3) rfl rfl rfl rfl rfl ⟨_, rfl, rfl, T_r3, Nat.le_of_ble_eq_true rfl⟩ rfl rfl (Nat.le_of_ble_eq_true rfl) (Nat.le_of_ble_eq_true rfl) (Nat.le_of_ble_eq_true rfl) ?_
        rintro I172 L173 ⟨p0v171, p1v171, hI172, S174⟩
        try simp only [z_r0_0, z_r0_1, z_r0_2, z_r1_1, z_r2_1, z_r3_1, z_r0_0_6, z_r0_0_7, z_r0_0_8, z_r0_0_9, z_r0_0_10, z_r0_1_1, z_r0_2_1] at S174
        have e175 := Chg.k S174 T_r0_0 (by decide) (by decide) e160
        have e176 := (congrFun (Chg.at S174 (nm_2 (by first | exact hp5 | exact fun e => hp5 e.symm) (t_nq T_r0_2 T_r3_1 (by decide)))) 0).trans e161
        have e177 := (congrFun (Chg.at S174 (nm_2 (by first | exact hp4 | exact fun e => hp4 e.symm) (t_nq T_r0_1 T_r3_1 (by decide)))) 0).trans e163
        obtain ⟨x178, e179⟩ : ∃ x, I172 r3 0 = x := ⟨_, rfl⟩
        have gx178 := rg x178
        have ox178 := IX.deg hI172 A_r3 T_r3 e179
        try simp only [z_r0_0, z_r0_1, z_r0_2, z_r1_1, z_r2_1, z_r3_1, z_r0_0_6, z_r0_0_7, z_r0_0_8, z_r0_0_9, z_r0_0_10, z_r0_1_1, z_r0_2_1] at p0v171
        try simp only [z_r0_0, z_r0_1, z_r0_2, z_r1_1, z_r2_1, z_r3_1, z_r0_0_6, z_r0_0_7, z_r0_0_8, z_r0_0_9, z_r0_0_10, z_r0_1_1, z_r0_2_1] at p1v171
        try simp only [e160, e161, e163, e179] at p0v171
        try have q0v171 := congrArg Int32.toInt p0v171
        try simp only [e160, e161, e163, e179] at p1v171
        try have q1v171 := congrArg Int32.toInt p1v171
        have hbg := p0v171.2.2 (by omega) (by omega); (try rw [e179] at hbg); have hbz := p1v171; have eBB := NF.e (Chg.at S174 (nm_2 (t_nq T_r0_2_1 T_r3 (by decide)) (Ne.symm nb_r3_r0_2))); obtain ⟨B9, eB9⟩ : ∃ B9 : Nat → Int, NF I172 r0_2_1 = B9 := ⟨_, rfl⟩; rw [← eBB, eB9] at hfin; (try rw [← eBB, eB9] at ho9); have eB8 := congrFun eB9 0; obtain ⟨bd9, ebd9⟩ : ∃ z : Int, x56.toInt = z := ⟨_, rfl⟩
        refine z_iconst C (z := 0) rfl rfl rfl (fun x180 ex180 => ?_)
        have J181 : ∀ (nn182 : Nat) (I183 : IT) (L184 : LT) (x185 : Int32), (MN (41 - x185.toInt) nn182) → (IX A T I183) → (Chg (SL [r3, r3_1, r0_1, r0_1_1, r0_2, r0_2_1]) T [] I172 L173 I183 L184) → (0 ≤ x185.toInt) → (x185.toInt ≤ 41) → (COL (I183 r3_1) x3.toInt B9 x169.toInt w_r0_0_0.toInt x185.toInt) → (x185.toInt ≤ bd9 + 1) → (NF I183 r0_2_1 = B9) → V 126 [(0, .ref r0), (3, .ref r3), (4, .int x3), (5, .ref r0_2), (7, .int x169), (8, .int x185)] [] (T, N, I183, L184, R) 0 0 := by
          intro nn182
          induction nn182 using Nat.strongRecOn with
          | _ nn182 ihJ181 =>
            intro I183 L184 x185 hmnn182 hI189 S188 b186 b187 ff126_0 ff126_1 ff126_2
            have gx185 := rg x185
            have e193 := Chg.k S188 T_r0_0 (by decide) (by decide) e175
            have e194 := Chg.k S188 T_r0_2 (by decide) (by decide) e176
            have e195 := Chg.k S188 T_r0_1 (by decide) (by decide) e177
            have e196 := Chg.k S188 T_r3 (by decide) (by decide) e179
            refine k_iload C rfl rfl rfl ?_
            refine k_aload C rfl rfl rfl ?_
            refine g_I C rfl rfl rfl T_r0_2 rfl e194 ?_
            refine b_icmp_gt C (t := 166) rfl rfl rfl (fun c197 => ?_) (fun c197 => ?_)
            · skip
              exact k_vret C rfl rfl (Nat.le_of_ble_eq_true rfl) (Nat.le_of_ble_eq_true rfl) ⟨_, _, rfl, rfl, by (try simp only [z_r0_0, z_r0_1, z_r0_2, z_r1_1, z_r2_1, z_r3_1, z_r0_0_6, z_r0_0_7, z_r0_0_8, z_r0_0_9, z_r0_0_10, z_r0_1_1, z_r0_2_1]); rw [e196]; simp only [k0_r1_0, k0_r2_0, k0_r0_0_0]; exact COM.of ha9 hb9 hfin rfl rfl ho9 ff126_0 (by omega) (by omega) (by omega) (by omega) rfl (by omega), hI189, (by (try simp only [z_r0_0, z_r0_1, z_r0_2, z_r1_1, z_r2_1, z_r3_1, z_r0_0_6, z_r0_0_7, z_r0_0_8, z_r0_0_9, z_r0_0_10, z_r0_1_1, z_r0_2_1]); exact (Chg.cons (Chg.up S7 (List.forall_mem_cons.mpr ⟨List.mem_of_getElem? (i := 2) rfl, List.forall_mem_cons.mpr ⟨List.mem_of_getElem? (i := 3) rfl, fun _ h => nomatch h⟩⟩)) (Chg.cons (Chg.up S16 (List.forall_mem_cons.mpr ⟨List.mem_of_getElem? (i := 2) rfl, List.forall_mem_cons.mpr ⟨List.mem_of_getElem? (i := 3) rfl, fun _ h => nomatch h⟩⟩)) (Chg.cons (Chg.up S25 (List.forall_mem_cons.mpr ⟨List.mem_of_getElem? (i := 4) rfl, List.forall_mem_cons.mpr ⟨List.mem_of_getElem? (i := 5) rfl, fun _ h => nomatch h⟩⟩)) (Chg.cons (Chg.up S35 (List.forall_mem_cons.mpr ⟨List.mem_of_getElem? (i := 4) rfl, List.forall_mem_cons.mpr ⟨List.mem_of_getElem? (i := 5) rfl, fun _ h => nomatch h⟩⟩)) (Chg.cons S50 (Chg.cons (Chg.up S159 (List.forall_mem_cons.mpr ⟨List.mem_of_getElem? (i := 2) rfl, List.forall_mem_cons.mpr ⟨List.mem_of_getElem? (i := 3) rfl, fun _ h => nomatch h⟩⟩)) (Chg.cons (Chg.up S174 (List.forall_mem_cons.mpr ⟨List.mem_of_getElem? (i := 0) rfl, List.forall_mem_cons.mpr ⟨List.mem_of_getElem? (i := 1) rfl, fun _ h => nomatch h⟩⟩)) (Chg.mono S188 (by decide)) (by decide)) (by decide)) (by decide)) (by decide)) (by decide)) (by decide)) (by decide)))⟩
            refine k_aload_n C rfl rfl rfl ?_
            refine k_iload C rfl rfl rfl ?_
            refine k_iload C rfl rfl rfl ?_
            refine z_iadd C rfl rfl ⟨by omega, by omega⟩ (fun x198 ex198 => ?_)
            refine k_aload_n C rfl rfl rfl ?_
            refine k_aload C rfl rfl rfl ?_
            refine k_iload C rfl rfl rfl ?_
            refine c_VI C (s_X2_get_x hS hI189 (hs_GF hS H_r0_2)) rfl rfl rfl rfl rfl ⟨_, rfl, rfl, T_r0_2, Nat.le_of_ble_eq_true rfl⟩ rfl rfl (Nat.le_of_ble_eq_true rfl) (Nat.le_of_ble_eq_true rfl) (Nat.le_of_ble_eq_true rfl) ?_
            rintro x199 _ _ ⟨p0x199, rfl, rfl⟩
            have gx199 := rg x199
            try simp only [z_r0_0, z_r0_1, z_r0_2, z_r1_1, z_r2_1, z_r3_1, z_r0_0_6, z_r0_0_7, z_r0_0_8, z_r0_0_9, z_r0_0_10, z_r0_1_1, z_r0_2_1] at p0x199
            try simp only [e193, e194, e195, e196] at p0x199
            try have q0x199 := congrArg Int32.toInt p0x199
            have hg147 := p0x199; (try simp only [e194] at hg147); have hg147 : GTD x199.toInt _ (NF I183 r0_2_1) _ := hg147; rw [ff126_2] at hg147
            refine k_iload C rfl rfl rfl ?_
            refine z_imulE C rfl rfl (fun x200 ex200 => ?_)
            have gx200 := rg x200
            have m152 := ex200
            refine z_i2l C rfl rfl (fun lg201 elg201 => ?_)
            have hl154 := elg201
            refine c_VI C (s_X0_of_x hS hI189 H_r0) rfl rfl rfl rfl rfl ⟨_, rfl, rfl, T_r0, Nat.le_of_ble_eq_true rfl⟩ rfl rfl (Nat.le_of_ble_eq_true rfl) (Nat.le_of_ble_eq_true rfl) (Nat.le_of_ble_eq_true rfl) ?_
            rintro x202 _ _ ⟨o0x202, o1x202, p0x202, p1x202, rfl, rfl⟩
            have gx202 := rg x202
            try simp only [z_r0_0, z_r0_1, z_r0_2, z_r1_1, z_r2_1, z_r3_1, z_r0_0_6, z_r0_0_7, z_r0_0_8, z_r0_0_9, z_r0_0_10, z_r0_1_1, z_r0_2_1] at p0x202
            try simp only [z_r0_0, z_r0_1, z_r0_2, z_r1_1, z_r2_1, z_r3_1, z_r0_0_6, z_r0_0_7, z_r0_0_8, z_r0_0_9, z_r0_0_10, z_r0_1_1, z_r0_2_1] at p1x202
            try simp only [e193, e194, e195, e196] at p0x202
            try have q0x202 := congrArg Int32.toInt p0x202
            try simp only [e193, e194, e195, e196] at p1x202
            try have q1x202 := congrArg Int32.toInt p1x202
            have ho154 := p0x202; (try simp only [e193] at ho154)
            refine c_VV C (s_X2_set_x hS hI189 H_r3) rfl rfl rfl rfl rfl ⟨_, rfl, rfl, T_r3, Nat.le_of_ble_eq_true rfl⟩ rfl rfl (Nat.le_of_ble_eq_true rfl) (Nat.le_of_ble_eq_true rfl) (Nat.le_of_ble_eq_true rfl) ?_
            rintro I204 L205 ⟨p0v203, hI204, S206⟩
            try simp only [z_r0_0, z_r0_1, z_r0_2, z_r1_1, z_r2_1, z_r3_1, z_r0_0_6, z_r0_0_7, z_r0_0_8, z_r0_0_9, z_r0_0_10, z_r0_1_1, z_r0_2_1] at S206
            have e207 := Chg.k S206 T_r0_0 (by decide) (by decide) e193
            have e208 := Chg.k S206 T_r0_2 (by decide) (by decide) e194
            have e209 := Chg.k S206 T_r0_1 (by decide) (by decide) e195
            have e210 := Chg.k S206 T_r3 (by decide) (by decide) e196
            try simp only [z_r0_0, z_r0_1, z_r0_2, z_r1_1, z_r2_1, z_r3_1, z_r0_0_6, z_r0_0_7, z_r0_0_8, z_r0_0_9, z_r0_0_10, z_r0_1_1, z_r0_2_1] at p0v203
            try simp only [e193, e194, e195, e196] at p0v203
            try have q0v203 := congrArg Int32.toInt p0v203
            have hse := p0v203; have hNB := NF.e (Chg.at S206 (nm_1 nb_r0_2_r3))
            refine z_iinc C (z := 1) (lw := fun x211 => [(8, .int x211), (0, .ref r0), (3, .ref r3), (4, .int x3), (5, .ref r0_2), (7, .int x169)]) rfl rfl rfl (Nat.le_of_ble_eq_true rfl) rfl ⟨by omega, by omega⟩ (fun _ => rfl) (fun x211 ex211 => ?_)
            show V 163 [(8, .int x211), (0, .ref r0), (3, .ref r3), (4, .int x3), (5, .ref r0_2), (7, .int x169)] _ _ _ _
            refine k_goto C (pc2 := 126) rfl rfl ?_
            refine k_sub S [(0, .ref r0), (3, .ref r3), (4, .int x3), (5, .ref r0_2), (7, .int x169), (8, .int x211)] (List.forall_mem_cons.mpr ⟨List.mem_of_getElem? (i := 1) rfl, List.forall_mem_cons.mpr ⟨List.mem_of_getElem? (i := 2) rfl, List.forall_mem_cons.mpr ⟨List.mem_of_getElem? (i := 3) rfl, List.forall_mem_cons.mpr ⟨List.mem_of_getElem? (i := 4) rfl, List.forall_mem_cons.mpr ⟨List.mem_of_getElem? (i := 5) rfl, List.forall_mem_cons.mpr ⟨List.mem_of_getElem? (i := 0) rfl, fun _ h => nomatch h⟩⟩⟩⟩⟩⟩) ?_
            exact ihJ181 _ (MN.lt hmnn182 (by omega) (by omega)) I204 L205 x211 rfl hI204 (Chg.cons S188 (Chg.mono (Chg.up S206 (List.forall_mem_cons.mpr ⟨List.mem_of_getElem? (i := 1) rfl, fun _ h => nomatch h⟩)) (by decide)) (by decide)) (by omega) (by omega) (by exact COL.s ff126_0 hg147 m152 hl154 ho154 hse hfin.2.2.2.1 (by omega) ⟨by omega, by omega⟩ (by omega) (by omega) (by omega) (by omega) (by omega) (by omega)) (by omega) (by exact hNB.trans ff126_2)
        refine k_istore C (lw := [(8, .int x180), (7, .int x169), (6, .ref r0_1), (5, .ref r0_2), (0, .ref r0), (3, .ref r3), (4, .int x3)]) rfl rfl (Nat.le_of_ble_eq_true rfl) rfl ?_
        refine k_sub S [(0, .ref r0), (3, .ref r3), (4, .int x3), (5, .ref r0_2), (7, .int x169), (8, .int x180)] (List.forall_mem_cons.mpr ⟨List.mem_of_getElem? (i := 4) rfl, List.forall_mem_cons.mpr ⟨List.mem_of_getElem? (i := 5) rfl, List.forall_mem_cons.mpr ⟨List.mem_of_getElem? (i := 6) rfl, List.forall_mem_cons.mpr ⟨List.mem_of_getElem? (i := 3) rfl, List.forall_mem_cons.mpr ⟨List.mem_of_getElem? (i := 1) rfl, List.forall_mem_cons.mpr ⟨List.mem_of_getElem? (i := 0) rfl, fun _ h => nomatch h⟩⟩⟩⟩⟩⟩) ?_
        exact J181 _ I172 L173 x180 rfl hI172 Chg.rf (by omega) (by omega) (by exact COL.z hbz (by omega)) (by omega) (by exact eB9)
      refine k_aload C rfl rfl rfl ?_
      refine c_VI C (s_X2_isNought_x hS hI157 (hs_GF hS H_r0_1)) rfl rfl rfl rfl rfl ⟨_, rfl, rfl, T_r0_1, Nat.le_of_ble_eq_true rfl⟩ rfl rfl (Nat.le_of_ble_eq_true rfl) (Nat.le_of_ble_eq_true rfl) (Nat.le_of_ble_eq_true rfl) ?_
      rintro x212 _ _ ⟨o0x212, o1x212, p0x212, rfl, rfl⟩
      have gx212 := rg x212
      try simp only [z_r0_0, z_r0_1, z_r0_2, z_r1_1, z_r2_1, z_r3_1, z_r0_0_6, z_r0_0_7, z_r0_0_8, z_r0_0_9, z_r0_0_10, z_r0_1_1, z_r0_2_1] at p0x212
      try simp only [e160, e161, e163] at p0x212
      try have q0x212 := congrArg Int32.toInt p0x212
      have hnq := p0x212; (try simp only [e163] at hnq)
      refine b_if_ne C (t := 99) rfl rfl rfl (fun c213 => ?_) (fun c213 => ?_)
      · skip
        first | have hfin := EUS.fin hst1 (by first | exact Or.inl (hnq.1 (by omega)) | exact Or.inr (by omega)) | have hfin := EUS.fin ff58_0 (by first | exact Or.inl (hnq.1 (by omega)) | exact Or.inr (by omega))
        refine k_aload_n C rfl rfl rfl ?_
        refine k_aload C rfl rfl rfl ?_
        refine z_iconst C (z := 0) rfl rfl rfl (fun x214 ex214 => ?_)
        refine c_VI C (s_X2_get_x hS hI157 (hs_GF hS H_r0_2)) rfl rfl rfl rfl rfl ⟨_, rfl, rfl, T_r0_2, Nat.le_of_ble_eq_true rfl⟩ rfl rfl (Nat.le_of_ble_eq_true rfl) (Nat.le_of_ble_eq_true rfl) (Nat.le_of_ble_eq_true rfl) ?_
        rintro x215 _ _ ⟨p0x215, rfl, rfl⟩
        have gx215 := rg x215
        try simp only [z_r0_0, z_r0_1, z_r0_2, z_r1_1, z_r2_1, z_r3_1, z_r0_0_6, z_r0_0_7, z_r0_0_8, z_r0_0_9, z_r0_0_10, z_r0_1_1, z_r0_2_1] at p0x215
        try simp only [e160, e161, e163] at p0x215
        try have q0x215 := congrArg Int32.toInt p0x215
        have hg102 := p0x215; (try simp only [e161] at hg102); have hg102 : GTD x215.toInt _ (NF I157 r0_2_1) _ := hg102; have hb102 := GTD.b0 hg102 (by omega) (by omega) (hfin.2.2.2.1 0 (by omega)) (by omega)
        refine c_VI C (s_X0_inverse_x hS hI157 H_r0 (by omega) (by omega) (by rw [z_r0_0, e160]; exact hp15)) rfl rfl rfl rfl rfl ⟨_, rfl, rfl, T_r0, Nat.le_of_ble_eq_true rfl⟩ rfl rfl (Nat.le_of_ble_eq_true rfl) (Nat.le_of_ble_eq_true rfl) (Nat.le_of_ble_eq_true rfl) ?_
        rintro x216 _ _ ⟨o0x216, o1x216, p0x216, rfl, rfl⟩
        have gx216 := rg x216
        try simp only [z_r0_0, z_r0_1, z_r0_2, z_r1_1, z_r2_1, z_r3_1, z_r0_0_6, z_r0_0_7, z_r0_0_8, z_r0_0_9, z_r0_0_10, z_r0_1_1, z_r0_2_1] at p0x216
        try simp only [e160, e161, e163] at p0x216
        try have q0x216 := congrArg Int32.toInt p0x216
        have hin := p0x216; (try simp only [e160] at hin); have hib := hin.1; have ho9 := TRL.o hin hg102 (by omega) (by omega) (hfin.2.2.2.1 0 (by omega)) hfin.2.2.1 (by omega); have hfB := hfin.2.2.2.2
        refine k_istore C (lw := [(7, .int x216), (6, .ref r0_1), (5, .ref r0_2), (8, .ref r0_1), (0, .ref r0), (3, .ref r3), (4, .int x3)]) rfl rfl (Nat.le_of_ble_eq_true rfl) rfl ?_
        refine k_aload_n C rfl rfl rfl ?_
        refine k_iload C rfl rfl rfl ?_
        refine k_aload C rfl rfl rfl ?_
        refine g_I C rfl rfl rfl T_r0_2 rfl e161 ?_
        refine z_iadd C rfl rfl ⟨by omega, by omega⟩ (fun x217 ex217 => ?_)
        refine c_VV C (s_X2_begin_x hS hI157 H_r3) rfl rfl rfl rfl rfl ⟨_, rfl, rfl, T_r3, Nat.le_of_ble_eq_true rfl⟩ rfl rfl (Nat.le_of_ble_eq_true rfl) (Nat.le_of_ble_eq_true rfl) (Nat.le_of_ble_eq_true rfl) ?_
        rintro I219 L220 ⟨p0v218, p1v218, hI219, S221⟩
        try simp only [z_r0_0, z_r0_1, z_r0_2, z_r1_1, z_r2_1, z_r3_1, z_r0_0_6, z_r0_0_7, z_r0_0_8, z_r0_0_9, z_r0_0_10, z_r0_1_1, z_r0_2_1] at S221
        have e222 := Chg.k S221 T_r0_0 (by decide) (by decide) e160
        have e223 := (congrFun (Chg.at S221 (nm_2 (by first | exact hp5 | exact fun e => hp5 e.symm) (t_nq T_r0_2 T_r3_1 (by decide)))) 0).trans e161
        have e224 := (congrFun (Chg.at S221 (nm_2 (by first | exact hp4 | exact fun e => hp4 e.symm) (t_nq T_r0_1 T_r3_1 (by decide)))) 0).trans e163
        obtain ⟨x225, e226⟩ : ∃ x, I219 r3 0 = x := ⟨_, rfl⟩
        have gx225 := rg x225
        have ox225 := IX.deg hI219 A_r3 T_r3 e226
        try simp only [z_r0_0, z_r0_1, z_r0_2, z_r1_1, z_r2_1, z_r3_1, z_r0_0_6, z_r0_0_7, z_r0_0_8, z_r0_0_9, z_r0_0_10, z_r0_1_1, z_r0_2_1] at p0v218
        try simp only [z_r0_0, z_r0_1, z_r0_2, z_r1_1, z_r2_1, z_r3_1, z_r0_0_6, z_r0_0_7, z_r0_0_8, z_r0_0_9, z_r0_0_10, z_r0_1_1, z_r0_2_1] at p1v218
        try simp only [e160, e161, e163, e226] at p0v218
        try have q0v218 := congrArg Int32.toInt p0v218
        try simp only [e160, e161, e163, e226] at p1v218
        try have q1v218 := congrArg Int32.toInt p1v218
        have hbg := p0v218.2.2 (by omega) (by omega); (try rw [e226] at hbg); have hbz := p1v218; have eBB := NF.e (Chg.at S221 (nm_2 (t_nq T_r0_2_1 T_r3 (by decide)) (Ne.symm nb_r3_r0_2))); obtain ⟨B9, eB9⟩ : ∃ B9 : Nat → Int, NF I219 r0_2_1 = B9 := ⟨_, rfl⟩; rw [← eBB, eB9] at hfin; (try rw [← eBB, eB9] at ho9); have eB8 := congrFun eB9 0; obtain ⟨bd9, ebd9⟩ : ∃ z : Int, x56.toInt = z := ⟨_, rfl⟩
        refine z_iconst C (z := 0) rfl rfl rfl (fun x227 ex227 => ?_)
        have J228 : ∀ (nn229 : Nat) (I230 : IT) (L231 : LT) (x232 : Int32), (MN (41 - x232.toInt) nn229) → (IX A T I230) → (Chg (SL [r3, r3_1, r0_1, r0_1_1, r0_2, r0_2_1]) T [] I219 L220 I230 L231) → (0 ≤ x232.toInt) → (x232.toInt ≤ 41) → (COL (I230 r3_1) x3.toInt B9 x216.toInt w_r0_0_0.toInt x232.toInt) → (x232.toInt ≤ bd9 + 1) → (NF I230 r0_2_1 = B9) → V 126 [(0, .ref r0), (3, .ref r3), (4, .int x3), (5, .ref r0_2), (7, .int x216), (8, .int x232)] [] (T, N, I230, L231, R) 0 0 := by
          intro nn229
          induction nn229 using Nat.strongRecOn with
          | _ nn229 ihJ228 =>
            intro I230 L231 x232 hmnn229 hI236 S235 b233 b234 ff126_0 ff126_1 ff126_2
            have gx232 := rg x232
            have e240 := Chg.k S235 T_r0_0 (by decide) (by decide) e222
            have e241 := Chg.k S235 T_r0_2 (by decide) (by decide) e223
            have e242 := Chg.k S235 T_r0_1 (by decide) (by decide) e224
            have e243 := Chg.k S235 T_r3 (by decide) (by decide) e226
            refine k_iload C rfl rfl rfl ?_
            refine k_aload C rfl rfl rfl ?_
            refine g_I C rfl rfl rfl T_r0_2 rfl e241 ?_
            refine b_icmp_gt C (t := 166) rfl rfl rfl (fun c244 => ?_) (fun c244 => ?_)
            · skip
              exact k_vret C rfl rfl (Nat.le_of_ble_eq_true rfl) (Nat.le_of_ble_eq_true rfl) ⟨_, _, rfl, rfl, by (try simp only [z_r0_0, z_r0_1, z_r0_2, z_r1_1, z_r2_1, z_r3_1, z_r0_0_6, z_r0_0_7, z_r0_0_8, z_r0_0_9, z_r0_0_10, z_r0_1_1, z_r0_2_1]); rw [e243]; simp only [k0_r1_0, k0_r2_0, k0_r0_0_0]; exact COM.of ha9 hb9 hfin rfl rfl ho9 ff126_0 (by omega) (by omega) (by omega) (by omega) rfl (by omega), hI236, (by (try simp only [z_r0_0, z_r0_1, z_r0_2, z_r1_1, z_r2_1, z_r3_1, z_r0_0_6, z_r0_0_7, z_r0_0_8, z_r0_0_9, z_r0_0_10, z_r0_1_1, z_r0_2_1]); exact (Chg.cons (Chg.up S7 (List.forall_mem_cons.mpr ⟨List.mem_of_getElem? (i := 2) rfl, List.forall_mem_cons.mpr ⟨List.mem_of_getElem? (i := 3) rfl, fun _ h => nomatch h⟩⟩)) (Chg.cons (Chg.up S16 (List.forall_mem_cons.mpr ⟨List.mem_of_getElem? (i := 2) rfl, List.forall_mem_cons.mpr ⟨List.mem_of_getElem? (i := 3) rfl, fun _ h => nomatch h⟩⟩)) (Chg.cons (Chg.up S25 (List.forall_mem_cons.mpr ⟨List.mem_of_getElem? (i := 4) rfl, List.forall_mem_cons.mpr ⟨List.mem_of_getElem? (i := 5) rfl, fun _ h => nomatch h⟩⟩)) (Chg.cons (Chg.up S35 (List.forall_mem_cons.mpr ⟨List.mem_of_getElem? (i := 4) rfl, List.forall_mem_cons.mpr ⟨List.mem_of_getElem? (i := 5) rfl, fun _ h => nomatch h⟩⟩)) (Chg.cons S50 (Chg.cons (Chg.up S159 (List.forall_mem_cons.mpr ⟨List.mem_of_getElem? (i := 2) rfl, List.forall_mem_cons.mpr ⟨List.mem_of_getElem? (i := 3) rfl, fun _ h => nomatch h⟩⟩)) (Chg.cons (Chg.up S221 (List.forall_mem_cons.mpr ⟨List.mem_of_getElem? (i := 0) rfl, List.forall_mem_cons.mpr ⟨List.mem_of_getElem? (i := 1) rfl, fun _ h => nomatch h⟩⟩)) (Chg.mono S235 (by decide)) (by decide)) (by decide)) (by decide)) (by decide)) (by decide)) (by decide)) (by decide)))⟩
            refine k_aload_n C rfl rfl rfl ?_
            refine k_iload C rfl rfl rfl ?_
            refine k_iload C rfl rfl rfl ?_
            refine z_iadd C rfl rfl ⟨by omega, by omega⟩ (fun x245 ex245 => ?_)
            refine k_aload_n C rfl rfl rfl ?_
            refine k_aload C rfl rfl rfl ?_
            refine k_iload C rfl rfl rfl ?_
            refine c_VI C (s_X2_get_x hS hI236 (hs_GF hS H_r0_2)) rfl rfl rfl rfl rfl ⟨_, rfl, rfl, T_r0_2, Nat.le_of_ble_eq_true rfl⟩ rfl rfl (Nat.le_of_ble_eq_true rfl) (Nat.le_of_ble_eq_true rfl) (Nat.le_of_ble_eq_true rfl) ?_
            rintro x246 _ _ ⟨p0x246, rfl, rfl⟩
            have gx246 := rg x246
            try simp only [z_r0_0, z_r0_1, z_r0_2, z_r1_1, z_r2_1, z_r3_1, z_r0_0_6, z_r0_0_7, z_r0_0_8, z_r0_0_9, z_r0_0_10, z_r0_1_1, z_r0_2_1] at p0x246
            try simp only [e240, e241, e242, e243] at p0x246
            try have q0x246 := congrArg Int32.toInt p0x246
            have hg147 := p0x246; (try simp only [e241] at hg147); have hg147 : GTD x246.toInt _ (NF I230 r0_2_1) _ := hg147; rw [ff126_2] at hg147
            refine k_iload C rfl rfl rfl ?_
            refine z_imulE C rfl rfl (fun x247 ex247 => ?_)
            have gx247 := rg x247
            have m152 := ex247
            refine z_i2l C rfl rfl (fun lg248 elg248 => ?_)
            have hl154 := elg248
            refine c_VI C (s_X0_of_x hS hI236 H_r0) rfl rfl rfl rfl rfl ⟨_, rfl, rfl, T_r0, Nat.le_of_ble_eq_true rfl⟩ rfl rfl (Nat.le_of_ble_eq_true rfl) (Nat.le_of_ble_eq_true rfl) (Nat.le_of_ble_eq_true rfl) ?_
            rintro x249 _ _ ⟨o0x249, o1x249, p0x249, p1x249, rfl, rfl⟩
            have gx249 := rg x249
            try simp only [z_r0_0, z_r0_1, z_r0_2, z_r1_1, z_r2_1, z_r3_1, z_r0_0_6, z_r0_0_7, z_r0_0_8, z_r0_0_9, z_r0_0_10, z_r0_1_1, z_r0_2_1] at p0x249
            try simp only [z_r0_0, z_r0_1, z_r0_2, z_r1_1, z_r2_1, z_r3_1, z_r0_0_6, z_r0_0_7, z_r0_0_8, z_r0_0_9, z_r0_0_10, z_r0_1_1, z_r0_2_1] at p1x249
            try simp only [e240, e241, e242, e243] at p0x249
            try have q0x249 := congrArg Int32.toInt p0x249
            try simp only [e240, e241, e242, e243] at p1x249
            try have q1x249 := congrArg Int32.toInt p1x249
            have ho154 := p0x249; (try simp only [e240] at ho154)
            refine c_VV C (s_X2_set_x hS hI236 H_r3) rfl rfl rfl rfl rfl ⟨_, rfl, rfl, T_r3, Nat.le_of_ble_eq_true rfl⟩ rfl rfl (Nat.le_of_ble_eq_true rfl) (Nat.le_of_ble_eq_true rfl) (Nat.le_of_ble_eq_true rfl) ?_
            rintro I251 L252 ⟨p0v250, hI251, S253⟩
            try simp only [z_r0_0, z_r0_1, z_r0_2, z_r1_1, z_r2_1, z_r3_1, z_r0_0_6, z_r0_0_7, z_r0_0_8, z_r0_0_9, z_r0_0_10, z_r0_1_1, z_r0_2_1] at S253
            have e254 := Chg.k S253 T_r0_0 (by decide) (by decide) e240
            have e255 := Chg.k S253 T_r0_2 (by decide) (by decide) e241
            have e256 := Chg.k S253 T_r0_1 (by decide) (by decide) e242
            have e257 := Chg.k S253 T_r3 (by decide) (by decide) e243
            try simp only [z_r0_0, z_r0_1, z_r0_2, z_r1_1, z_r2_1, z_r3_1, z_r0_0_6, z_r0_0_7, z_r0_0_8, z_r0_0_9, z_r0_0_10, z_r0_1_1, z_r0_2_1] at p0v250
            try simp only [e240, e241, e242, e243] at p0v250
            try have q0v250 := congrArg Int32.toInt p0v250
            have hse := p0v250; have hNB := NF.e (Chg.at S253 (nm_1 nb_r0_2_r3))
            refine z_iinc C (z := 1) (lw := fun x258 => [(8, .int x258), (0, .ref r0), (3, .ref r3), (4, .int x3), (5, .ref r0_2), (7, .int x216)]) rfl rfl rfl (Nat.le_of_ble_eq_true rfl) rfl ⟨by omega, by omega⟩ (fun _ => rfl) (fun x258 ex258 => ?_)
            show V 163 [(8, .int x258), (0, .ref r0), (3, .ref r3), (4, .int x3), (5, .ref r0_2), (7, .int x216)] _ _ _ _
            refine k_goto C (pc2 := 126) rfl rfl ?_
            refine k_sub S [(0, .ref r0), (3, .ref r3), (4, .int x3), (5, .ref r0_2), (7, .int x216), (8, .int x258)] (List.forall_mem_cons.mpr ⟨List.mem_of_getElem? (i := 1) rfl, List.forall_mem_cons.mpr ⟨List.mem_of_getElem? (i := 2) rfl, List.forall_mem_cons.mpr ⟨List.mem_of_getElem? (i := 3) rfl, List.forall_mem_cons.mpr ⟨List.mem_of_getElem? (i := 4) rfl, List.forall_mem_cons.mpr ⟨List.mem_of_getElem? (i := 5) rfl, List.forall_mem_cons.mpr ⟨List.mem_of_getElem? (i := 0) rfl, fun _ h => nomatch h⟩⟩⟩⟩⟩⟩) ?_
            exact ihJ228 _ (MN.lt hmnn229 (by omega) (by omega)) I251 L252 x258 rfl hI251 (Chg.cons S235 (Chg.mono (Chg.up S253 (List.forall_mem_cons.mpr ⟨List.mem_of_getElem? (i := 1) rfl, fun _ h => nomatch h⟩)) (by decide)) (by decide)) (by omega) (by omega) (by exact COL.s ff126_0 hg147 m152 hl154 ho154 hse hfin.2.2.2.1 (by omega) ⟨by omega, by omega⟩ (by omega) (by omega) (by omega) (by omega) (by omega) (by omega)) (by omega) (by exact hNB.trans ff126_2)
        refine k_istore C (lw := [(8, .int x227), (7, .int x216), (6, .ref r0_1), (5, .ref r0_2), (0, .ref r0), (3, .ref r3), (4, .int x3)]) rfl rfl (Nat.le_of_ble_eq_true rfl) rfl ?_
        refine k_sub S [(0, .ref r0), (3, .ref r3), (4, .int x3), (5, .ref r0_2), (7, .int x216), (8, .int x227)] (List.forall_mem_cons.mpr ⟨List.mem_of_getElem? (i := 4) rfl, List.forall_mem_cons.mpr ⟨List.mem_of_getElem? (i := 5) rfl, List.forall_mem_cons.mpr ⟨List.mem_of_getElem? (i := 6) rfl, List.forall_mem_cons.mpr ⟨List.mem_of_getElem? (i := 3) rfl, List.forall_mem_cons.mpr ⟨List.mem_of_getElem? (i := 1) rfl, List.forall_mem_cons.mpr ⟨List.mem_of_getElem? (i := 0) rfl, fun _ h => nomatch h⟩⟩⟩⟩⟩⟩) ?_
        exact J228 _ I219 L220 x227 rfl hI219 Chg.rf (by omega) (by omega) (by exact COL.z hbz (by omega)) (by omega) (by exact eB9)
      refine k_aload_n C rfl rfl rfl ?_
      refine k_aload C rfl rfl rfl ?_
      refine k_aload C rfl rfl rfl ?_
      refine c_VV C (s_X0_takeRest_x hS hI157 H_r0 (hs_GF hS H_r0_2) (hs_GF hS H_r0_1) hU (by first | exact hp6 | exact Ne.symm hp6) (by first | (first | rw [z_r0_2_1] | skip); (try simp only [z_r0_1_1, z_r0_2_1, z_r0_0, e160, e163, e161]); first | exact hst1.2.1 | exact ff58_0.2.1) (by (try simp only [z_r0_1_1, z_r0_2_1, z_r0_0, e160, e163, e161]); first | exact hst1.2.2.1 | exact ff58_0.2.2.1) (Or.inr (by (try simp only [z_r0_1_1, z_r0_2_1]); first | exact hst1.2.2.2.1 | exact ff58_0.2.2.2.1)) (by (try simp only [z_r0_1_1, z_r0_2_1]); first | exact ((hst1.2.2.2.2.2.1).resolve_left (hnq.2 (by omega))).1 | exact ((ff58_0.2.2.2.2.2.1).resolve_left (hnq.2 (by omega))).1) (by rw [z_r0_0, e160]; exact hp15)) rfl rfl rfl rfl rfl ⟨_, rfl, rfl, T_r0, Nat.le_of_ble_eq_true rfl⟩ rfl rfl (Nat.le_of_ble_eq_true rfl) (Nat.le_of_ble_eq_true rfl) (Nat.le_of_ble_eq_true rfl) ?_
      rintro I260 L261 ⟨p0v259, hI260, S262⟩
      try simp only [z_r0_0, z_r0_1, z_r0_2, z_r1_1, z_r2_1, z_r3_1, z_r0_0_6, z_r0_0_7, z_r0_0_8, z_r0_0_9, z_r0_0_10, z_r0_1_1, z_r0_2_1] at S262
      have e263 := Chg.k S262 T_r0_0 (by decide) (by decide) e160
      have e264 := (congrFun (Chg.at S262 (nm_2 (by first | exact hp6 | exact fun e => hp6 e.symm) (t_nq T_r0_1 T_r0_2_1 (by decide)))) 0).trans e163
      obtain ⟨x265, e266⟩ : ∃ x, I260 r0_2 0 = x := ⟨_, rfl⟩
      have gx265 := rg x265
      have ox265 := IX.deg hI260 A_r0_2 T_r0_2 e266
      try simp only [z_r0_0, z_r0_1, z_r0_2, z_r1_1, z_r2_1, z_r3_1, z_r0_0_6, z_r0_0_7, z_r0_0_8, z_r0_0_9, z_r0_0_10, z_r0_1_1, z_r0_2_1] at p0v259
      try simp only [e160, e161, e163, e266] at p0v259
      try have q0v259 := congrArg Int32.toInt p0v259
      first | have hst2 := EUS.st (n' := x164.toInt + 1) hst1 (hnq.2 (by omega)) p0v259 (NF.e (Chg.at S262 (nm_2 (t_nq T_r0_1_1 T_r0_2 (by decide)) nb_r0_1_r0_2))) rfl (by omega) | have hst1 := EUS.st (n' := x164.toInt + 1) ff58_0 (hnq.2 (by omega)) p0v259 (NF.e (Chg.at S262 (nm_2 (t_nq T_r0_1_1 T_r0_2 (by decide)) nb_r0_1_r0_2))) rfl (by omega)
      refine k_aload C rfl rfl rfl ?_
      refine k_astore C (lw := [(8, .ref r0_2), (7, .int x164), (6, .ref r0_1), (5, .ref r0_2), (0, .ref r0), (3, .ref r3), (4, .int x3)]) rfl rfl (Nat.le_of_ble_eq_true rfl) rfl ?_
      refine k_aload C rfl rfl rfl ?_
      refine k_astore C (lw := [(5, .ref r0_1), (8, .ref r0_2), (7, .int x164), (6, .ref r0_1), (0, .ref r0), (3, .ref r3), (4, .int x3)]) rfl rfl (Nat.le_of_ble_eq_true rfl) rfl ?_
      refine k_aload C rfl rfl rfl ?_
      refine k_astore C (lw := [(6, .ref r0_2), (5, .ref r0_1), (8, .ref r0_2), (7, .int x164), (0, .ref r0), (3, .ref r3), (4, .int x3)]) rfl rfl (Nat.le_of_ble_eq_true rfl) rfl ?_
      refine z_iinc C (z := 1) (lw := fun x267 => [(7, .int x267), (6, .ref r0_2), (5, .ref r0_1), (8, .ref r0_2), (0, .ref r0), (3, .ref r3), (4, .int x3)]) rfl rfl rfl (Nat.le_of_ble_eq_true rfl) rfl ⟨by omega, by omega⟩ (fun _ => rfl) (fun x267 ex267 => ?_)
      show V 96 [(7, .int x267), (6, .ref r0_2), (5, .ref r0_1), (8, .ref r0_2), (0, .ref r0), (3, .ref r3), (4, .int x3)] _ _ _ _
      refine k_goto C (pc2 := 58) rfl rfl ?_
      refine k_sub S [(0, .ref r0), (3, .ref r3), (4, .int x3), (5, .ref r0_1), (6, .ref r0_2), (7, .int x267)] (List.forall_mem_cons.mpr ⟨List.mem_of_getElem? (i := 4) rfl, List.forall_mem_cons.mpr ⟨List.mem_of_getElem? (i := 5) rfl, List.forall_mem_cons.mpr ⟨List.mem_of_getElem? (i := 6) rfl, List.forall_mem_cons.mpr ⟨List.mem_of_getElem? (i := 2) rfl, List.forall_mem_cons.mpr ⟨List.mem_of_getElem? (i := 1) rfl, List.forall_mem_cons.mpr ⟨List.mem_of_getElem? (i := 0) rfl, fun _ h => nomatch h⟩⟩⟩⟩⟩⟩) ?_
      exact ihJ43 _ (MN.lt hmnn44 (by omega) (by omega)) I260 L261 x267 x162 x265 rfl hI260 (Chg.cons S50 (Chg.cons (Chg.up S159 (List.forall_mem_cons.mpr ⟨List.mem_of_getElem? (i := 2) rfl, List.forall_mem_cons.mpr ⟨List.mem_of_getElem? (i := 3) rfl, fun _ h => nomatch h⟩⟩)) (Chg.mono (Chg.up S262 (List.forall_mem_cons.mpr ⟨List.mem_of_getElem? (i := 4) rfl, List.forall_mem_cons.mpr ⟨List.mem_of_getElem? (i := 5) rfl, fun _ h => nomatch h⟩⟩)) (by decide)) (by decide)) (by decide)) (by omega) (by omega) e264 (by omega) (by omega) e266 (by omega) (by omega) (by exact EUS.n hst2 (by omega))
  refine k_istore C (lw := [(7, .int x42), (6, .ref r0_2), (5, .ref r0_1), (4, .int x3), (0, .ref r0), (1, .ref r1), (2, .ref r2), (3, .ref r3)]) rfl rfl (Nat.le_of_ble_eq_true rfl) rfl ?_
  refine k_sub S [(0, .ref r0), (3, .ref r3), (4, .int x3), (5, .ref r0_1), (6, .ref r0_2), (7, .int x42)] (List.forall_mem_cons.mpr ⟨List.mem_of_getElem? (i := 4) rfl, List.forall_mem_cons.mpr ⟨List.mem_of_getElem? (i := 7) rfl, List.forall_mem_cons.mpr ⟨List.mem_of_getElem? (i := 3) rfl, List.forall_mem_cons.mpr ⟨List.mem_of_getElem? (i := 2) rfl, List.forall_mem_cons.mpr ⟨List.mem_of_getElem? (i := 1) rfl, List.forall_mem_cons.mpr ⟨List.mem_of_getElem? (i := 0) rfl, fun _ h => nomatch h⟩⟩⟩⟩⟩⟩) ?_
  exact J43 _ I33 L34 x42 x20 x40 rfl hI33 Chg.rf (by omega) (by omega) e39 (by omega) (by omega) e41 (by omega) (by omega) (by exact EUS.z ha9 hb9 hp9 hp10 (by omega) (by omega) (fun k hk => (congrFun hLL k).trans (haF k hk)) hbF rfl rfl ⟨by omega, by omega⟩ (by omega))

theorem s_X11_plain_x {d : Nat} {T N : Nat → Nat} {I : IT} {L : LT} {R : RT} {A B : Nat → Prop} {r0 : Nat} {n1 : Int32} (hS : SUB B A) (hI : IX A T I) (H_r0 : (hs_LF T N R A B) r0) (hU : UPR T R) (hp0 : rA R (rA R r0 5) 0 = (rA R r0 1)) (hp1 : ∀ j : Nat, (j : Int) < (I (rA R r0 1) 1).toInt → BNX I (rA R (FA R (rA R r0 1) j) 1) (I (FA R (rA R r0 1) j) 0).toInt (I (rA R r0 1) 0).toInt) (hp2 : ∀ j : Nat, (j : Int) < (I (rA R r0 1) 1).toInt → (I (FA R (rA R r0 1) j) 0).toInt ≤ 8) (hp3 : PRM (I (rA R r0 1) 0).toInt) (hp4 : ∀ j, j < 16 → ¬ B (FA R (rA R r0 1) j) ∧ ¬ B (rA R (FA R (rA R r0 1) j) 1)) : Ex (d + 6) 165 [.ref r0, .int n1] (T, N, I, L, R) 1 6 (pW2 [3] T N R (pI T N R (fun x9 I9 L9 => (0 ≤ x9.toInt) ∧ (x9.toInt ≤ 1) ∧ (¬ (n1.toInt < 0 ∨ (I (rA R r0 1) 1).toInt ≤ n1.toInt ∨ 16 ≤ n1.toInt)) ∧ (PLN x9.toInt (I (rA R r0 1) 0).toInt (I (FA R (rA R r0 1) n1.toNatClampNeg) 0).toInt (NF I (rA R (FA R (rA R r0 1) n1.toNatClampNeg) 1))) ∧ (IX A T I9 ∧ Chg B T [(3, 0)] I L I9 L9))) (fun e9 I9 L9 => (IX A T I9 ∧ Chg B T [(3, 0)] I L I9 L9) ∧ (e9 = 3 → n1.toInt < 0 ∨ (I (rA R r0 1) 1).toInt ≤ n1.toInt ∨ 16 ≤ n1.toInt))) := by
  refine ⟨_, rfl, Nat.le_of_ble_eq_true rfl, fun V C S => ?_⟩
  show V 0 [(0, .ref r0), (1, .int n1)] [] (T, N, I, L, R) 0 0
  have gn1 := rg n1
  obtain ⟨T_r0, A_r0, B_r0, ⟨r0_0, R_r0_0, H_r0_0⟩, ⟨r0_1, R_r0_1, H_r0_1⟩, ⟨r0_2, R_r0_2, H_r0_2⟩, ⟨r0_5, R_r0_5, H_r0_5⟩, ⟨r0_6, R_r0_6, H_r0_6⟩, ⟨r0_7, R_r0_7, H_r0_7⟩, ⟨r0_8, R_r0_8, H_r0_8⟩, ⟨r0_9, R_r0_9, H_r0_9⟩, ⟨r0_10, R_r0_10, H_r0_10⟩, ⟨r0_11, R_r0_11, H_r0_11⟩, ⟨r0_12, R_r0_12, H_r0_12⟩, ⟨r0_13, R_r0_13, H_r0_13⟩⟩ := id H_r0
  have z_r0_0 : rA R r0 0 = r0_0 := rA_e R_r0_0
  have z_r0_1 : rA R r0 1 = r0_1 := rA_e R_r0_1
  have z_r0_2 : rA R r0 2 = r0_2 := rA_e R_r0_2
  have z_r0_5 : rA R r0 5 = r0_5 := rA_e R_r0_5
  have z_r0_6 : rA R r0 6 = r0_6 := rA_e R_r0_6
  have z_r0_7 : rA R r0 7 = r0_7 := rA_e R_r0_7
  have z_r0_8 : rA R r0 8 = r0_8 := rA_e R_r0_8
  have z_r0_9 : rA R r0 9 = r0_9 := rA_e R_r0_9
  have z_r0_10 : rA R r0 10 = r0_10 := rA_e R_r0_10
  have z_r0_11 : rA R r0 11 = r0_11 := rA_e R_r0_11
  have z_r0_12 : rA R r0 12 = r0_12 := rA_e R_r0_12
  have z_r0_13 : rA R r0 13 = r0_13 := rA_e R_r0_13
  obtain ⟨T_r0_1, A_r0_1, B_r0_1, ⟨r0_1_6, R_r0_1_6, H_r0_1_6⟩, ⟨r0_1_7, R_r0_1_7, H_r0_1_7⟩, ⟨r0_1_8, R_r0_1_8, H_r0_1_8⟩, ⟨r0_1_9, R_r0_1_9, H_r0_1_9⟩, ⟨r0_1_10, R_r0_1_10, H_r0_1_10⟩⟩ := id H_r0_1
  have z_r0_1_6 : rA R r0_1 6 = r0_1_6 := rA_e R_r0_1_6
  have z_r0_1_7 : rA R r0_1 7 = r0_1_7 := rA_e R_r0_1_7
  have z_r0_1_8 : rA R r0_1 8 = r0_1_8 := rA_e R_r0_1_8
  have z_r0_1_9 : rA R r0_1 9 = r0_1_9 := rA_e R_r0_1_9
  have z_r0_1_10 : rA R r0_1 10 = r0_1_10 := rA_e R_r0_1_10
  obtain ⟨T_r0_5, A_r0_5, B_r0_5, ⟨r0_5_0, R_r0_5_0, H_r0_5_0⟩, ⟨r0_5_1, R_r0_5_1, H_r0_5_1⟩, ⟨r0_5_2, R_r0_5_2, H_r0_5_2⟩⟩ := id H_r0_5
  have z_r0_5_0 : rA R r0_5 0 = r0_5_0 := rA_e R_r0_5_0
  have z_r0_5_1 : rA R r0_5 1 = r0_5_1 := rA_e R_r0_5_1
  have z_r0_5_2 : rA R r0_5 2 = r0_5_2 := rA_e R_r0_5_2
  obtain ⟨T_r0_5_1, A_r0_5_1, B_r0_5_1, ⟨r0_5_1_1, R_r0_5_1_1, H_r0_5_1_1⟩⟩ := id H_r0_5_1
  have z_r0_5_1_1 : rA R r0_5_1 1 = r0_5_1_1 := rA_e R_r0_5_1_1
  obtain ⟨T_r0_5_1_1, N_r0_5_1_1, A_r0_5_1_1⟩ := id H_r0_5_1_1
  obtain ⟨T_r0_5_2, A_r0_5_2, B_r0_5_2, ⟨r0_5_2_1, R_r0_5_2_1, H_r0_5_2_1⟩⟩ := id H_r0_5_2
  have z_r0_5_2_1 : rA R r0_5_2 1 = r0_5_2_1 := rA_e R_r0_5_2_1
  obtain ⟨T_r0_5_2_1, N_r0_5_2_1, A_r0_5_2_1⟩ := id H_r0_5_2_1
  obtain ⟨T_r0_11, A_r0_11, B_r0_11, ⟨r0_11_1, R_r0_11_1, H_r0_11_1⟩⟩ := id H_r0_11
  have z_r0_11_1 : rA R r0_11 1 = r0_11_1 := rA_e R_r0_11_1
  obtain ⟨T_r0_11_1, N_r0_11_1, A_r0_11_1⟩ := id H_r0_11_1
  obtain ⟨T_r0_12, A_r0_12, B_r0_12, ⟨r0_12_1, R_r0_12_1, H_r0_12_1⟩⟩ := id H_r0_12
  have z_r0_12_1 : rA R r0_12 1 = r0_12_1 := rA_e R_r0_12_1
  obtain ⟨T_r0_12_1, N_r0_12_1, A_r0_12_1⟩ := id H_r0_12_1
  obtain ⟨T_r0_13, A_r0_13, B_r0_13, ⟨r0_13_1, R_r0_13_1, H_r0_13_1⟩⟩ := id H_r0_13
  have z_r0_13_1 : rA R r0_13 1 = r0_13_1 := rA_e R_r0_13_1
  obtain ⟨T_r0_13_1, N_r0_13_1, A_r0_13_1⟩ := id H_r0_13_1
  have hG := GS.of H_r0_1
  obtain ⟨T_r0_1_8, N_r0_1_8, A_r0_1_8, E_r0_1_8⟩ := id H_r0_1_8
  obtain ⟨T_r0_5_0, A_r0_5_0, B_r0_5_0, ⟨r0_5_0_6, R_r0_5_0_6, H_r0_5_0_6⟩, ⟨r0_5_0_7, R_r0_5_0_7, H_r0_5_0_7⟩, ⟨r0_5_0_8, R_r0_5_0_8, H_r0_5_0_8⟩, ⟨r0_5_0_9, R_r0_5_0_9, H_r0_5_0_9⟩, ⟨r0_5_0_10, R_r0_5_0_10, H_r0_5_0_10⟩⟩ := id H_r0_5_0
  have z_r0_5_0_6 : rA R r0_5_0 6 = r0_5_0_6 := rA_e R_r0_5_0_6
  have z_r0_5_0_7 : rA R r0_5_0 7 = r0_5_0_7 := rA_e R_r0_5_0_7
  have z_r0_5_0_8 : rA R r0_5_0 8 = r0_5_0_8 := rA_e R_r0_5_0_8
  have z_r0_5_0_9 : rA R r0_5_0 9 = r0_5_0_9 := rA_e R_r0_5_0_9
  have z_r0_5_0_10 : rA R r0_5_0 10 = r0_5_0_10 := rA_e R_r0_5_0_10
  try simp only [z_r0_0, z_r0_1, z_r0_2, z_r0_5, z_r0_6, z_r0_7, z_r0_8, z_r0_9, z_r0_10, z_r0_11, z_r0_12, z_r0_13, z_r0_1_6, z_r0_1_7, z_r0_1_8, z_r0_1_9, z_r0_1_10, z_r0_5_0, z_r0_5_1, z_r0_5_2, z_r0_5_1_1, z_r0_5_2_1, z_r0_11_1, z_r0_12_1, z_r0_13_1, z_r0_5_0_6, z_r0_5_0_7, z_r0_5_0_8, z_r0_5_0_9, z_r0_5_0_10] at hp0
  try simp only [z_r0_0, z_r0_1, z_r0_2, z_r0_5, z_r0_6, z_r0_7, z_r0_8, z_r0_9, z_r0_10, z_r0_11, z_r0_12, z_r0_13, z_r0_1_6, z_r0_1_7, z_r0_1_8, z_r0_1_9, z_r0_1_10, z_r0_5_0, z_r0_5_1, z_r0_5_2, z_r0_5_1_1, z_r0_5_2_1, z_r0_11_1, z_r0_12_1, z_r0_13_1, z_r0_5_0_6, z_r0_5_0_7, z_r0_5_0_8, z_r0_5_0_9, z_r0_5_0_10] at hp1
  try simp only [z_r0_0, z_r0_1, z_r0_2, z_r0_5, z_r0_6, z_r0_7, z_r0_8, z_r0_9, z_r0_10, z_r0_11, z_r0_12, z_r0_13, z_r0_1_6, z_r0_1_7, z_r0_1_8, z_r0_1_9, z_r0_1_10, z_r0_5_0, z_r0_5_1, z_r0_5_2, z_r0_5_1_1, z_r0_5_2_1, z_r0_11_1, z_r0_12_1, z_r0_13_1, z_r0_5_0_6, z_r0_5_0_7, z_r0_5_0_8, z_r0_5_0_9, z_r0_5_0_10] at hp2
  try simp only [z_r0_0, z_r0_1, z_r0_2, z_r0_5, z_r0_6, z_r0_7, z_r0_8, z_r0_9, z_r0_10, z_r0_11, z_r0_12, z_r0_13, z_r0_1_6, z_r0_1_7, z_r0_1_8, z_r0_1_9, z_r0_1_10, z_r0_5_0, z_r0_5_1, z_r0_5_2, z_r0_5_1_1, z_r0_5_2_1, z_r0_11_1, z_r0_12_1, z_r0_13_1, z_r0_5_0_6, z_r0_5_0_7, z_r0_5_0_8, z_r0_5_0_9, z_r0_5_0_10] at hp3
  try simp only [z_r0_0, z_r0_1, z_r0_2, z_r0_5, z_r0_6, z_r0_7, z_r0_8, z_r0_9, z_r0_10, z_r0_11, z_r0_12, z_r0_13, z_r0_1_6, z_r0_1_7, z_r0_1_8, z_r0_1_9, z_r0_1_10, z_r0_5_0, z_r0_5_1, z_r0_5_2, z_r0_5_1_1, z_r0_5_2_1, z_r0_11_1, z_r0_12_1, z_r0_13_1, z_r0_5_0_6, z_r0_5_0_7, z_r0_5_0_8, z_r0_5_0_9, z_r0_5_0_10] at hp4
  obtain ⟨w_r0_1_0, k0_r0_1_0⟩ : ∃ x, I r0_1 0 = x := ⟨_, rfl⟩
  have gw_r0_1_0 := rg w_r0_1_0
  have ow_r0_1_0 := IX.p hI A_r0_1 T_r0_1 k0_r0_1_0
  try simp only [k0_r0_1_0] at hp0
  try simp only [k0_r0_1_0] at hp1
  try simp only [k0_r0_1_0] at hp2
  try simp only [k0_r0_1_0] at hp3
  try simp only [k0_r0_1_0] at hp4
  have wl : NQ9 _ _ := hU.ne (Or.inl T_r0_11) R_r0_11 R_r0_5_1 (Or.inl (t_nq T_r0 T_r0_5 (by decide)))
  have wr : NQ9 _ _ := hU.ne (Or.inl T_r0_11) R_r0_11 R_r0_5_2 (Or.inl (t_nq T_r0 T_r0_5 (by decide)))
  have wlx : NQ9 _ _ := hU.ne (Or.inl T_r0_12) R_r0_12 R_r0_5_1 (Or.inl (t_nq T_r0 T_r0_5 (by decide)))
  have wrx : NQ9 _ _ := hU.ne (Or.inl T_r0_12) R_r0_12 R_r0_5_2 (Or.inl (t_nq T_r0 T_r0_5 (by decide)))
  have wly : NQ9 _ _ := hU.ne (Or.inl T_r0_13) R_r0_13 R_r0_5_1 (Or.inl (t_nq T_r0 T_r0_5 (by decide)))
  have wry : NQ9 _ _ := hU.ne (Or.inl T_r0_13) R_r0_13 R_r0_5_2 (Or.inl (t_nq T_r0 T_r0_5 (by decide)))
  have lr : NQ9 _ _ := hU.ne (Or.inl T_r0_5_1) R_r0_5_1 R_r0_5_2 (Or.inr (by decide))
  have xy : NQ9 r0_12 r0_13 := hU.ne (Or.inl T_r0_12) R_r0_12 R_r0_13 (Or.inr (by decide))
  have xw : NQ9 r0_12 r0_11 := hU.ne (Or.inl T_r0_12) R_r0_12 R_r0_11 (Or.inr (by decide))
  have yw : NQ9 r0_13 r0_11 := hU.ne (Or.inl T_r0_13) R_r0_13 R_r0_11 (Or.inr (by decide))
  have xyb : NQ9 r0_12_1 r0_13_1 := hU.ne (Or.inr (Or.inr (Or.inr (by omega)))) R_r0_12_1 R_r0_13_1 (Or.inl xy)
  refine k_aload_n C rfl rfl rfl ?_
  refine k_iload_n C rfl rfl rfl ?_
  refine w2_VR C (s_X11_toldForm_x hS hI H_r0) rfl rfl rfl rfl rfl ⟨_, rfl, rfl, T_r0, Nat.le_of_ble_eq_true rfl⟩ rfl rfl (Nat.le_of_ble_eq_true rfl) (Nat.le_of_ble_eq_true rfl) (Nat.le_of_ble_eq_true rfl) (by decide) (fun e9 he I9 L9 hq => by obtain ⟨⟨rfl, rfl⟩, hq⟩ := hq; exact Or.inl ⟨rfl, Or.inr ⟨e9, _, _, (by decide : ∀ z ∈ [3], z ∈ [3]) e9 he, rfl, rfl, ⟨⟨hI, Chg.rf⟩, (fun h9 => by subst h9; first | exact absurd he (by decide) | (have hx := hq rfl; exact hx))⟩⟩⟩) ?_
  rintro yy1 _ _ ⟨hyy1, p0yy1, p1yy1, rfl, rfl⟩
  obtain ⟨rr2, err2, H_rr2⟩ := hyy1
  subst err2
  try simp only [z_r0_0, z_r0_1, z_r0_2, z_r0_5, z_r0_6, z_r0_7, z_r0_8, z_r0_9, z_r0_10, z_r0_11, z_r0_12, z_r0_13, z_r0_1_6, z_r0_1_7, z_r0_1_8, z_r0_1_9, z_r0_1_10, z_r0_5_0, z_r0_5_1, z_r0_5_2, z_r0_5_1_1, z_r0_5_2_1, z_r0_11_1, z_r0_12_1, z_r0_13_1, z_r0_5_0_6, z_r0_5_0_7, z_r0_5_0_8, z_r0_5_0_9, z_r0_5_0_10] at p0yy1
  try simp only [z_r0_0, z_r0_1, z_r0_2, z_r0_5, z_r0_6, z_r0_7, z_r0_8, z_r0_9, z_r0_10, z_r0_11, z_r0_12, z_r0_13, z_r0_1_6, z_r0_1_7, z_r0_1_8, z_r0_1_9, z_r0_1_10, z_r0_5_0, z_r0_5_1, z_r0_5_2, z_r0_5_1_1, z_r0_5_2_1, z_r0_11_1, z_r0_12_1, z_r0_13_1, z_r0_5_0_6, z_r0_5_0_7, z_r0_5_0_8, z_r0_5_0_9, z_r0_5_0_10] at p1yy1
  try simp only [k0_r0_1_0] at p0yy1
  try have q0yy1 := congrArg Int32.toInt p0yy1
  try simp only [k0_r0_1_0] at p1yy1
  try have q1yy1 := congrArg Int32.toInt p1yy1
  have hF := p0yy1.symm; have hF2 := p1yy1; have oF := FA_e z_r0_1_8 hF; have nF := ncn (n := 16) (j := n1) (by omega) (by omega); have nF1 := ncz (x := n1) (by omega); have fF := FO.of H_rr2; have TF := fF.1; have mw1 : NQ9 _ _ := hU.ne (Or.inl TF) hF R_r0_11 (Or.inl (t_nq T_r0_1_8 T_r0 (by decide))); have mx1 : NQ9 _ _ := hU.ne (Or.inl TF) hF R_r0_12 (Or.inl (t_nq T_r0_1_8 T_r0 (by decide))); have my1 : NQ9 _ _ := hU.ne (Or.inl TF) hF R_r0_13 (Or.inl (t_nq T_r0_1_8 T_r0 (by decide))); have hd1 := hp2 n1.toNatClampNeg (by omega); rw [oF] at hd1; have hBF := hp1 n1.toNatClampNeg (by omega); rw [oF] at hBF
  refine k_astore_n C (lw := [(2, .ref rr2), (0, .ref r0), (1, .int n1)]) rfl rfl (Nat.le_of_ble_eq_true rfl) rfl ?_
  refine k_aload_n C rfl rfl rfl ?_
  obtain ⟨T_rr2, A_rr2, ⟨rr2_1, R_rr2_1, H_rr2_1⟩⟩ := id H_rr2
  have z_rr2_1 : rA R rr2 1 = rr2_1 := rA_e R_rr2_1
  refine z_gI C rfl rfl rfl T_rr2 rfl (fun x3 ex3 => ?_)
  have gx3 := rg x3
  have ox3 := IX.deg hI A_rr2 T_rr2 ex3
  have eH := congrArg Int32.toInt (show I (FA R r0_1 n1.toNatClampNeg) 0 = x3 from by rw [oF]; assumption); rw [oF] at eH
  refine z_iconst C (z := 2) rfl rfl rfl (fun x4 ex4 => ?_)
  refine b_icmp_ge C (t := 16) rfl rfl rfl (fun c5 => ?_) (fun c5 => ?_)
  · skip
    refine k_aload_n C rfl rfl rfl ?_
    refine g_R C rfl rfl rfl T_r0 rfl R_r0_5 ?_
    refine k_aload_n C rfl rfl rfl ?_
    refine z_iconst C (z := 1) rfl rfl rfl (fun x6 ex6 => ?_)
    refine z_iconst C (z := 0) rfl rfl rfl (fun x7 ex7 => ?_)
    refine k_aload_n C rfl rfl rfl ?_
    refine g_R C rfl rfl rfl T_r0 rfl R_r0_12 ?_
    have hqc := x6; have hqd := x7
    refine c_VV C (s_X0_differentiate_x hS hI H_r0_5 H_rr2 (by omega) (by omega) (by omega) (by omega) (hs_GF hS H_r0_12) hU mx1 (by omega) (by omega) (by rw [z_r0_5_0, hp0, ← oF, k0_r0_1_0]; exact hp1 _ (by omega))) rfl rfl rfl rfl rfl ⟨_, rfl, rfl, T_r0_5, Nat.le_of_ble_eq_true rfl⟩ rfl rfl (Nat.le_of_ble_eq_true rfl) (Nat.le_of_ble_eq_true rfl) (Nat.le_of_ble_eq_true rfl) ?_
    rintro I9 L10 ⟨p0v8, p1v8, hI9, S11⟩
    try simp only [z_r0_0, z_r0_1, z_r0_2, z_r0_5, z_r0_6, z_r0_7, z_r0_8, z_r0_9, z_r0_10, z_r0_11, z_r0_12, z_r0_13, z_r0_1_6, z_r0_1_7, z_r0_1_8, z_r0_1_9, z_r0_1_10, z_r0_5_0, z_r0_5_1, z_r0_5_2, z_r0_5_1_1, z_r0_5_2_1, z_r0_11_1, z_r0_12_1, z_r0_13_1, z_r0_5_0_6, z_r0_5_0_7, z_r0_5_0_8, z_r0_5_0_9, z_r0_5_0_10, z_rr2_1] at S11
    have e12 := Chg.k S11 T_r0_1 (by decide) (by decide) k0_r0_1_0
    obtain ⟨x13, e14⟩ : ∃ x, I9 r0_12 0 = x := ⟨_, rfl⟩
    have gx13 := rg x13
    have ox13 := IX.deg hI9 A_r0_12 T_r0_12 e14
    try simp only [z_r0_0, z_r0_1, z_r0_2, z_r0_5, z_r0_6, z_r0_7, z_r0_8, z_r0_9, z_r0_10, z_r0_11, z_r0_12, z_r0_13, z_r0_1_6, z_r0_1_7, z_r0_1_8, z_r0_1_9, z_r0_1_10, z_r0_5_0, z_r0_5_1, z_r0_5_2, z_r0_5_1_1, z_r0_5_2_1, z_r0_11_1, z_r0_12_1, z_r0_13_1, z_r0_5_0_6, z_r0_5_0_7, z_r0_5_0_8, z_r0_5_0_9, z_r0_5_0_10, z_rr2_1] at p0v8
    try simp only [z_r0_0, z_r0_1, z_r0_2, z_r0_5, z_r0_6, z_r0_7, z_r0_8, z_r0_9, z_r0_10, z_r0_11, z_r0_12, z_r0_13, z_r0_1_6, z_r0_1_7, z_r0_1_8, z_r0_1_9, z_r0_1_10, z_r0_5_0, z_r0_5_1, z_r0_5_2, z_r0_5_1_1, z_r0_5_2_1, z_r0_11_1, z_r0_12_1, z_r0_13_1, z_r0_5_0_6, z_r0_5_0_7, z_r0_5_0_8, z_r0_5_0_9, z_r0_5_0_10, z_rr2_1] at p1v8
    try simp only [k0_r0_1_0, ex3, e14] at p0v8
    try have q0v8 := congrArg Int32.toInt p0v8
    try simp only [k0_r0_1_0, ex3, e14] at p1v8
    try have q1v8 := congrArg Int32.toInt p1v8
    have hvx := p1v8; rw [hp0] at hvx; (try simp only [z_r0_0, z_r0_1, z_r0_2, z_r0_5, z_r0_6, z_r0_7, z_r0_8, z_r0_9, z_r0_10, z_r0_11, z_r0_12, z_r0_13, z_r0_1_6, z_r0_1_7, z_r0_1_8, z_r0_1_9, z_r0_1_10, z_r0_5_0, z_r0_5_1, z_r0_5_2, z_r0_5_1_1, z_r0_5_2_1, z_r0_11_1, z_r0_12_1, z_r0_13_1, z_r0_5_0_6, z_r0_5_0_7, z_r0_5_0_8, z_r0_5_0_9, z_r0_5_0_10, z_rr2_1, k0_r0_1_0] at hvx); have hvdx := p0v8; (try simp only [z_r0_0, z_r0_1, z_r0_2, z_r0_5, z_r0_6, z_r0_7, z_r0_8, z_r0_9, z_r0_10, z_r0_11, z_r0_12, z_r0_13, z_r0_1_6, z_r0_1_7, z_r0_1_8, z_r0_1_9, z_r0_1_10, z_r0_5_0, z_r0_5_1, z_r0_5_2, z_r0_5_1_1, z_r0_5_2_1, z_r0_11_1, z_r0_12_1, z_r0_13_1, z_r0_5_0_6, z_r0_5_0_7, z_r0_5_0_8, z_r0_5_0_9, z_r0_5_0_10, z_rr2_1] at hvdx)
    refine k_aload_n C rfl rfl rfl ?_
    refine g_R C rfl rfl rfl T_r0 rfl R_r0_5 ?_
    refine k_aload_n C rfl rfl rfl ?_
    refine z_iconst C (z := 0) rfl rfl rfl (fun x15 ex15 => ?_)
    refine z_iconst C (z := 1) rfl rfl rfl (fun x16 ex16 => ?_)
    refine k_aload_n C rfl rfl rfl ?_
    refine g_R C rfl rfl rfl T_r0 rfl R_r0_13 ?_
    have eF := Chg.at (((Chg.mono (Chg.up S11 (sl_2 (B_r0_12) (A_r0_12_1))) (by decide)) : Chg B T [(3, 0)] I L I9 L10)) (hp4 _ nF).1; have eB := Chg.at (((Chg.mono (Chg.up S11 (sl_2 (B_r0_12) (A_r0_12_1))) (by decide)) : Chg B T [(3, 0)] I L I9 L10)) (hp4 _ nF).2; rw [oF] at eF eB; have eC := eB; (try simp only [z_r0_0, z_r0_1, z_r0_2, z_r0_5, z_r0_6, z_r0_7, z_r0_8, z_r0_9, z_r0_10, z_r0_11, z_r0_12, z_r0_13, z_r0_1_6, z_r0_1_7, z_r0_1_8, z_r0_1_9, z_r0_1_10, z_r0_5_0, z_r0_5_1, z_r0_5_2, z_r0_5_1_1, z_r0_5_2_1, z_r0_11_1, z_r0_12_1, z_r0_13_1, z_r0_5_0_6, z_r0_5_0_7, z_r0_5_0_8, z_r0_5_0_9, z_r0_5_0_10, z_rr2_1] at eC); have hk9 := e12; have hqa := x15; have hqb := x16
    refine c_VV C (s_X0_differentiate_x hS hI9 H_r0_5 H_rr2 (by omega) (by omega) (by omega) (by omega) (hs_GF hS H_r0_13) hU my1 (by omega) (by rw [congrFun eF 0]; omega) (BNX.mv (hp1 n1.toNatClampNeg (by omega)) oF eF eB (by rw [z_r0_5_0, hp0, hk9]))) rfl rfl rfl rfl rfl ⟨_, rfl, rfl, T_r0_5, Nat.le_of_ble_eq_true rfl⟩ rfl rfl (Nat.le_of_ble_eq_true rfl) (Nat.le_of_ble_eq_true rfl) (Nat.le_of_ble_eq_true rfl) ?_
    rintro I18 L19 ⟨p0v17, p1v17, hI18, S20⟩
    try simp only [z_r0_0, z_r0_1, z_r0_2, z_r0_5, z_r0_6, z_r0_7, z_r0_8, z_r0_9, z_r0_10, z_r0_11, z_r0_12, z_r0_13, z_r0_1_6, z_r0_1_7, z_r0_1_8, z_r0_1_9, z_r0_1_10, z_r0_5_0, z_r0_5_1, z_r0_5_2, z_r0_5_1_1, z_r0_5_2_1, z_r0_11_1, z_r0_12_1, z_r0_13_1, z_r0_5_0_6, z_r0_5_0_7, z_r0_5_0_8, z_r0_5_0_9, z_r0_5_0_10, z_rr2_1] at S20
    have e21 := Chg.k S20 T_r0_1 (by decide) (by decide) e12
    have e22 := (congrFun (Chg.at S20 (nm_2 (by first | exact xy | exact fun e => xy e.symm) (t_nq T_r0_12 T_r0_13_1 (by decide)))) 0).trans e14
    obtain ⟨x23, e24⟩ : ∃ x, I18 r0_13 0 = x := ⟨_, rfl⟩
    have gx23 := rg x23
    have ox23 := IX.deg hI18 A_r0_13 T_r0_13 e24
    try simp only [z_r0_0, z_r0_1, z_r0_2, z_r0_5, z_r0_6, z_r0_7, z_r0_8, z_r0_9, z_r0_10, z_r0_11, z_r0_12, z_r0_13, z_r0_1_6, z_r0_1_7, z_r0_1_8, z_r0_1_9, z_r0_1_10, z_r0_5_0, z_r0_5_1, z_r0_5_2, z_r0_5_1_1, z_r0_5_2_1, z_r0_11_1, z_r0_12_1, z_r0_13_1, z_r0_5_0_6, z_r0_5_0_7, z_r0_5_0_8, z_r0_5_0_9, z_r0_5_0_10, z_rr2_1] at p0v17
    try simp only [z_r0_0, z_r0_1, z_r0_2, z_r0_5, z_r0_6, z_r0_7, z_r0_8, z_r0_9, z_r0_10, z_r0_11, z_r0_12, z_r0_13, z_r0_1_6, z_r0_1_7, z_r0_1_8, z_r0_1_9, z_r0_1_10, z_r0_5_0, z_r0_5_1, z_r0_5_2, z_r0_5_1_1, z_r0_5_2_1, z_r0_11_1, z_r0_12_1, z_r0_13_1, z_r0_5_0_6, z_r0_5_0_7, z_r0_5_0_8, z_r0_5_0_9, z_r0_5_0_10, z_rr2_1] at p1v17
    try simp only [e12, e14, e24] at p0v17
    try have q0v17 := congrArg Int32.toInt p0v17
    try simp only [e12, e14, e24] at p1v17
    try have q1v17 := congrArg Int32.toInt p1v17
    have hvy := p1v17; rw [hp0] at hvy; (try simp only [z_r0_0, z_r0_1, z_r0_2, z_r0_5, z_r0_6, z_r0_7, z_r0_8, z_r0_9, z_r0_10, z_r0_11, z_r0_12, z_r0_13, z_r0_1_6, z_r0_1_7, z_r0_1_8, z_r0_1_9, z_r0_1_10, z_r0_5_0, z_r0_5_1, z_r0_5_2, z_r0_5_1_1, z_r0_5_2_1, z_r0_11_1, z_r0_12_1, z_r0_13_1, z_r0_5_0_6, z_r0_5_0_7, z_r0_5_0_8, z_r0_5_0_9, z_r0_5_0_10, z_rr2_1, k0_r0_1_0] at hvy); have hvdy := p0v17; (try simp only [z_r0_0, z_r0_1, z_r0_2, z_r0_5, z_r0_6, z_r0_7, z_r0_8, z_r0_9, z_r0_10, z_r0_11, z_r0_12, z_r0_13, z_r0_1_6, z_r0_1_7, z_r0_1_8, z_r0_1_9, z_r0_1_10, z_r0_5_0, z_r0_5_1, z_r0_5_2, z_r0_5_1_1, z_r0_5_2_1, z_r0_11_1, z_r0_12_1, z_r0_13_1, z_r0_5_0_6, z_r0_5_0_7, z_r0_5_0_8, z_r0_5_0_9, z_r0_5_0_10, z_rr2_1] at hvdy); (try rw [hk9] at hvy); (try rw [NF.e eC] at hvy); (try rw [congrFun eF 0] at hvy hvdy); (try rw [eH] at hvy hvdy); have hvx2 := VRX.eq hvx (Chg.at S20 (nm_2 (t_nq T_r0_12_1 T_r0_13 (by decide)) xyb))
    refine k_aload_n C rfl rfl rfl ?_
    refine g_R C rfl rfl rfl T_r0 rfl R_r0_12 ?_
    refine c_VI C (s_X2_isNought_x hS hI18 (hs_GF hS H_r0_12)) rfl rfl rfl rfl rfl ⟨_, rfl, rfl, T_r0_12, Nat.le_of_ble_eq_true rfl⟩ rfl rfl (Nat.le_of_ble_eq_true rfl) (Nat.le_of_ble_eq_true rfl) (Nat.le_of_ble_eq_true rfl) ?_
    rintro x25 _ _ ⟨o0x25, o1x25, p0x25, rfl, rfl⟩
    have gx25 := rg x25
    try simp only [z_r0_0, z_r0_1, z_r0_2, z_r0_5, z_r0_6, z_r0_7, z_r0_8, z_r0_9, z_r0_10, z_r0_11, z_r0_12, z_r0_13, z_r0_1_6, z_r0_1_7, z_r0_1_8, z_r0_1_9, z_r0_1_10, z_r0_5_0, z_r0_5_1, z_r0_5_2, z_r0_5_1_1, z_r0_5_2_1, z_r0_11_1, z_r0_12_1, z_r0_13_1, z_r0_5_0_6, z_r0_5_0_7, z_r0_5_0_8, z_r0_5_0_9, z_r0_5_0_10, z_rr2_1] at p0x25
    try simp only [e21, e22, e24] at p0x25
    try have q0x25 := congrArg Int32.toInt p0x25
    have hn1 := p0x25; (try simp only [z_r0_0, z_r0_1, z_r0_2, z_r0_5, z_r0_6, z_r0_7, z_r0_8, z_r0_9, z_r0_10, z_r0_11, z_r0_12, z_r0_13, z_r0_1_6, z_r0_1_7, z_r0_1_8, z_r0_1_9, z_r0_1_10, z_r0_5_0, z_r0_5_1, z_r0_5_2, z_r0_5_1_1, z_r0_5_2_1, z_r0_11_1, z_r0_12_1, z_r0_13_1, z_r0_5_0_6, z_r0_5_0_7, z_r0_5_0_8, z_r0_5_0_9, z_r0_5_0_10, z_rr2_1, e22] at hn1)
    refine b_if_ne C (t := 64) rfl rfl rfl (fun c26 => ?_) (fun c26 => ?_)
    · skip
      refine z_iconst C (z := 0) rfl rfl rfl (fun x27 ex27 => ?_)
      exact k_iret C rfl (Or.inr ⟨rfl, z01 (by omega) (by omega)⟩) (Nat.le_of_ble_eq_true rfl) (Nat.le_of_ble_eq_true rfl) (Or.inl ⟨_, _, _, rfl, rfl, by omega, by omega, by (try simp only [z_r0_0, z_r0_1, z_r0_2, z_r0_5, z_r0_6, z_r0_7, z_r0_8, z_r0_9, z_r0_10, z_r0_11, z_r0_12, z_r0_13, z_r0_1_6, z_r0_1_7, z_r0_1_8, z_r0_1_9, z_r0_1_10, z_r0_5_0, z_r0_5_1, z_r0_5_2, z_r0_5_1_1, z_r0_5_2_1, z_r0_11_1, z_r0_12_1, z_r0_13_1, z_r0_5_0_6, z_r0_5_0_7, z_r0_5_0_8, z_r0_5_0_9, z_r0_5_0_10, z_rr2_1]); omega, by (try simp only [z_r0_0, z_r0_1, z_r0_2, z_r0_5, z_r0_6, z_r0_7, z_r0_8, z_r0_9, z_r0_10, z_r0_11, z_r0_12, z_r0_13, z_r0_1_6, z_r0_1_7, z_r0_1_8, z_r0_1_9, z_r0_1_10, z_r0_5_0, z_r0_5_1, z_r0_5_2, z_r0_5_1_1, z_r0_5_2_1, z_r0_11_1, z_r0_12_1, z_r0_13_1, z_r0_5_0_6, z_r0_5_0_7, z_r0_5_0_8, z_r0_5_0_9, z_r0_5_0_10, z_rr2_1]); rw [oF]; (try simp only [z_r0_0, z_r0_1, z_r0_2, z_r0_5, z_r0_6, z_r0_7, z_r0_8, z_r0_9, z_r0_10, z_r0_11, z_r0_12, z_r0_13, z_r0_1_6, z_r0_1_7, z_r0_1_8, z_r0_1_9, z_r0_1_10, z_r0_5_0, z_r0_5_1, z_r0_5_2, z_r0_5_1_1, z_r0_5_2_1, z_r0_11_1, z_r0_12_1, z_r0_13_1, z_r0_5_0_6, z_r0_5_0_7, z_r0_5_0_8, z_r0_5_0_9, z_r0_5_0_10, z_rr2_1]); rw [k0_r0_1_0, eH]; exact PLN.z (by omega) (VRX.vf hvx2 (by omega) (by omega) (nck (by omega)) (nck (by omega))) (VRX.vf hvy (by omega) (by omega) (nck (by omega)) (nck (by omega))) (by first | exact Or.inl (by have h9 := hn1.1 (by omega); exact h9.cg2 (by omega)) | exact Or.inr (by have h9 := hn2.1 (by omega); exact h9.cg2 (by omega))) (by omega), hI18, (Chg.cons (Chg.up S11 (sl_2 (B_r0_12) (A_r0_12_1))) (Chg.mono (Chg.up S20 (sl_2 (B_r0_13) (A_r0_13_1))) (by decide)) (by decide))⟩)
    refine k_aload_n C rfl rfl rfl ?_
    refine g_R C rfl rfl rfl T_r0 rfl R_r0_13 ?_
    refine c_VI C (s_X2_isNought_x hS hI18 (hs_GF hS H_r0_13)) rfl rfl rfl rfl rfl ⟨_, rfl, rfl, T_r0_13, Nat.le_of_ble_eq_true rfl⟩ rfl rfl (Nat.le_of_ble_eq_true rfl) (Nat.le_of_ble_eq_true rfl) (Nat.le_of_ble_eq_true rfl) ?_
    rintro x28 _ _ ⟨o0x28, o1x28, p0x28, rfl, rfl⟩
    have gx28 := rg x28
    try simp only [z_r0_0, z_r0_1, z_r0_2, z_r0_5, z_r0_6, z_r0_7, z_r0_8, z_r0_9, z_r0_10, z_r0_11, z_r0_12, z_r0_13, z_r0_1_6, z_r0_1_7, z_r0_1_8, z_r0_1_9, z_r0_1_10, z_r0_5_0, z_r0_5_1, z_r0_5_2, z_r0_5_1_1, z_r0_5_2_1, z_r0_11_1, z_r0_12_1, z_r0_13_1, z_r0_5_0_6, z_r0_5_0_7, z_r0_5_0_8, z_r0_5_0_9, z_r0_5_0_10, z_rr2_1] at p0x28
    try simp only [e21, e22, e24] at p0x28
    try have q0x28 := congrArg Int32.toInt p0x28
    have hn2 := p0x28; (try simp only [z_r0_0, z_r0_1, z_r0_2, z_r0_5, z_r0_6, z_r0_7, z_r0_8, z_r0_9, z_r0_10, z_r0_11, z_r0_12, z_r0_13, z_r0_1_6, z_r0_1_7, z_r0_1_8, z_r0_1_9, z_r0_1_10, z_r0_5_0, z_r0_5_1, z_r0_5_2, z_r0_5_1_1, z_r0_5_2_1, z_r0_11_1, z_r0_12_1, z_r0_13_1, z_r0_5_0_6, z_r0_5_0_7, z_r0_5_0_8, z_r0_5_0_9, z_r0_5_0_10, z_rr2_1, e24] at hn2)
    refine b_if_eq C (t := 66) rfl rfl rfl (fun c29 => ?_) (fun c29 => ?_)
    · skip
      refine k_aload_n C rfl rfl rfl ?_
      refine g_R C rfl rfl rfl T_r0 rfl R_r0_5 ?_
      refine k_aload_n C rfl rfl rfl ?_
      refine g_R C rfl rfl rfl T_r0 rfl R_r0_12 ?_
      refine k_aload_n C rfl rfl rfl ?_
      refine g_R C rfl rfl rfl T_r0 rfl R_r0_13 ?_
      refine k_aload_n C rfl rfl rfl ?_
      refine g_R C rfl rfl rfl T_r0 rfl R_r0_11 ?_
      have hk12 := e22; have hk13 := e24; have hk92 := e21
      refine c_VV C (s_X0_shareInto_x hS hI18 H_r0_5 (hs_GF hS H_r0_12) (hs_GF hS H_r0_13) (hs_GF hS H_r0_11) hU (by rw [z_r0_5_1]; exact wlx) (by rw [z_r0_5_2]; exact wrx) (by rw [z_r0_5_1]; exact wly) (by rw [z_r0_5_2]; exact wry) (by rw [z_r0_5_1]; exact wl) (by rw [z_r0_5_2]; exact wr) (by rw [z_r0_5_1, z_r0_5_2]; exact lr) xw yw (by rw [z_r0_5_0, hp0, e22, e21, z_r0_12_1]; exact BNX.of hvx2 (by omega)) (by rw [z_r0_5_0, hp0, e24, e21, z_r0_13_1]; exact BNX.of hvy (by omega)) (by rw [z_r0_12_1, e22]; exact hn1.2 (by omega)) (by rw [z_r0_13_1, e24]; exact hn2.2 (by omega)) (by rw [e22]; omega) (by rw [e24]; omega) (by rw [z_r0_5_0, hp0, e21]; exact hp3)) rfl rfl rfl rfl rfl ⟨_, rfl, rfl, T_r0_5, Nat.le_of_ble_eq_true rfl⟩ rfl rfl (Nat.le_of_ble_eq_true rfl) (Nat.le_of_ble_eq_true rfl) (Nat.le_of_ble_eq_true rfl) ?_
      rintro I31 L32 ⟨p0v30, hI31, S33⟩
      try simp only [z_r0_0, z_r0_1, z_r0_2, z_r0_5, z_r0_6, z_r0_7, z_r0_8, z_r0_9, z_r0_10, z_r0_11, z_r0_12, z_r0_13, z_r0_1_6, z_r0_1_7, z_r0_1_8, z_r0_1_9, z_r0_1_10, z_r0_5_0, z_r0_5_1, z_r0_5_2, z_r0_5_1_1, z_r0_5_2_1, z_r0_11_1, z_r0_12_1, z_r0_13_1, z_r0_5_0_6, z_r0_5_0_7, z_r0_5_0_8, z_r0_5_0_9, z_r0_5_0_10, z_rr2_1] at S33
      have e34 := Chg.k S33 T_r0_1 (by decide) (by decide) e21
      obtain ⟨x35, e36⟩ : ∃ x, I31 r0_11 0 = x := ⟨_, rfl⟩
      have gx35 := rg x35
      have ox35 := IX.deg hI31 A_r0_11 T_r0_11 e36
      try simp only [z_r0_0, z_r0_1, z_r0_2, z_r0_5, z_r0_6, z_r0_7, z_r0_8, z_r0_9, z_r0_10, z_r0_11, z_r0_12, z_r0_13, z_r0_1_6, z_r0_1_7, z_r0_1_8, z_r0_1_9, z_r0_1_10, z_r0_5_0, z_r0_5_1, z_r0_5_2, z_r0_5_1_1, z_r0_5_2_1, z_r0_11_1, z_r0_12_1, z_r0_13_1, z_r0_5_0_6, z_r0_5_0_7, z_r0_5_0_8, z_r0_5_0_9, z_r0_5_0_10, z_rr2_1] at p0v30
      try simp only [e21, e22, e24, e36] at p0v30
      try have q0v30 := congrArg Int32.toInt p0v30
      have hcm := p0v30; rw [hp0] at hcm; (try simp only [z_r0_0, z_r0_1, z_r0_2, z_r0_5, z_r0_6, z_r0_7, z_r0_8, z_r0_9, z_r0_10, z_r0_11, z_r0_12, z_r0_13, z_r0_1_6, z_r0_1_7, z_r0_1_8, z_r0_1_9, z_r0_1_10, z_r0_5_0, z_r0_5_1, z_r0_5_2, z_r0_5_1_1, z_r0_5_2_1, z_r0_11_1, z_r0_12_1, z_r0_13_1, z_r0_5_0_6, z_r0_5_0_7, z_r0_5_0_8, z_r0_5_0_9, z_r0_5_0_10, z_rr2_1, hk12, hk13, hk92] at hcm)
      refine k_aload_n C rfl rfl rfl ?_
      refine g_R C rfl rfl rfl T_r0 rfl R_r0_11 ?_
      refine g_I C rfl rfl rfl T_r0_11 rfl e36 ?_
      refine b_if_ne C (t := 99) rfl rfl rfl (fun c37 => ?_) (fun c37 => ?_)
      · skip
        refine z_iconst C (z := 0) rfl rfl rfl (fun x38 ex38 => ?_)
        exact k_iret C rfl (Or.inr ⟨rfl, z01 (by omega) (by omega)⟩) (Nat.le_of_ble_eq_true rfl) (Nat.le_of_ble_eq_true rfl) (Or.inl ⟨_, _, _, rfl, rfl, by omega, by omega, by (try simp only [z_r0_0, z_r0_1, z_r0_2, z_r0_5, z_r0_6, z_r0_7, z_r0_8, z_r0_9, z_r0_10, z_r0_11, z_r0_12, z_r0_13, z_r0_1_6, z_r0_1_7, z_r0_1_8, z_r0_1_9, z_r0_1_10, z_r0_5_0, z_r0_5_1, z_r0_5_2, z_r0_5_1_1, z_r0_5_2_1, z_r0_11_1, z_r0_12_1, z_r0_13_1, z_r0_5_0_6, z_r0_5_0_7, z_r0_5_0_8, z_r0_5_0_9, z_r0_5_0_10, z_rr2_1]); omega, by (try simp only [z_r0_0, z_r0_1, z_r0_2, z_r0_5, z_r0_6, z_r0_7, z_r0_8, z_r0_9, z_r0_10, z_r0_11, z_r0_12, z_r0_13, z_r0_1_6, z_r0_1_7, z_r0_1_8, z_r0_1_9, z_r0_1_10, z_r0_5_0, z_r0_5_1, z_r0_5_2, z_r0_5_1_1, z_r0_5_2_1, z_r0_11_1, z_r0_12_1, z_r0_13_1, z_r0_5_0_6, z_r0_5_0_7, z_r0_5_0_8, z_r0_5_0_9, z_r0_5_0_10, z_rr2_1]); rw [oF]; (try simp only [z_r0_0, z_r0_1, z_r0_2, z_r0_5, z_r0_6, z_r0_7, z_r0_8, z_r0_9, z_r0_10, z_r0_11, z_r0_12, z_r0_13, z_r0_1_6, z_r0_1_7, z_r0_1_8, z_r0_1_9, z_r0_1_10, z_r0_5_0, z_r0_5_1, z_r0_5_2, z_r0_5_1_1, z_r0_5_2_1, z_r0_11_1, z_r0_12_1, z_r0_13_1, z_r0_5_0_6, z_r0_5_0_7, z_r0_5_0_8, z_r0_5_0_9, z_r0_5_0_10, z_rr2_1]); rw [k0_r0_1_0, eH]; exact PLN.y (by omega) (VRX.vf hvx2 (by omega) (by omega) (nck (by omega)) (nck (by omega))) (VRX.vf hvy (by omega) (by omega) (nck (by omega)) (nck (by omega))) (fun z => hn1.2 (by omega) (ZRL.cg2 z (by omega))) (fun z => hn2.2 (by omega) (ZRL.cg2 z (by omega))) (COM.dd hcm (by omega) (by omega)) (fun h9 => by omega) (fun h9 => by omega), hI31, (Chg.cons (Chg.up S11 (sl_2 (B_r0_12) (A_r0_12_1))) (Chg.cons (Chg.up S20 (sl_2 (B_r0_13) (A_r0_13_1))) (Chg.mono (Chg.up S33 (sl_6 (B_r0_11) (A_r0_11_1) (B_r0_5_1) (A_r0_5_1_1) (B_r0_5_2) (A_r0_5_2_1))) (by decide)) (by decide)) (by decide))⟩)
      refine z_iconst C (z := 1) rfl rfl rfl (fun x39 ex39 => ?_)
      refine k_goto C (pc2 := 100) rfl rfl ?_
      exact k_iret C rfl (Or.inr ⟨rfl, z01 (by omega) (by omega)⟩) (Nat.le_of_ble_eq_true rfl) (Nat.le_of_ble_eq_true rfl) (Or.inl ⟨_, _, _, rfl, rfl, by omega, by omega, by (try simp only [z_r0_0, z_r0_1, z_r0_2, z_r0_5, z_r0_6, z_r0_7, z_r0_8, z_r0_9, z_r0_10, z_r0_11, z_r0_12, z_r0_13, z_r0_1_6, z_r0_1_7, z_r0_1_8, z_r0_1_9, z_r0_1_10, z_r0_5_0, z_r0_5_1, z_r0_5_2, z_r0_5_1_1, z_r0_5_2_1, z_r0_11_1, z_r0_12_1, z_r0_13_1, z_r0_5_0_6, z_r0_5_0_7, z_r0_5_0_8, z_r0_5_0_9, z_r0_5_0_10, z_rr2_1]); omega, by (try simp only [z_r0_0, z_r0_1, z_r0_2, z_r0_5, z_r0_6, z_r0_7, z_r0_8, z_r0_9, z_r0_10, z_r0_11, z_r0_12, z_r0_13, z_r0_1_6, z_r0_1_7, z_r0_1_8, z_r0_1_9, z_r0_1_10, z_r0_5_0, z_r0_5_1, z_r0_5_2, z_r0_5_1_1, z_r0_5_2_1, z_r0_11_1, z_r0_12_1, z_r0_13_1, z_r0_5_0_6, z_r0_5_0_7, z_r0_5_0_8, z_r0_5_0_9, z_r0_5_0_10, z_rr2_1]); rw [oF]; (try simp only [z_r0_0, z_r0_1, z_r0_2, z_r0_5, z_r0_6, z_r0_7, z_r0_8, z_r0_9, z_r0_10, z_r0_11, z_r0_12, z_r0_13, z_r0_1_6, z_r0_1_7, z_r0_1_8, z_r0_1_9, z_r0_1_10, z_r0_5_0, z_r0_5_1, z_r0_5_2, z_r0_5_1_1, z_r0_5_2_1, z_r0_11_1, z_r0_12_1, z_r0_13_1, z_r0_5_0_6, z_r0_5_0_7, z_r0_5_0_8, z_r0_5_0_9, z_r0_5_0_10, z_rr2_1]); rw [k0_r0_1_0, eH]; exact PLN.y (by omega) (VRX.vf hvx2 (by omega) (by omega) (nck (by omega)) (nck (by omega))) (VRX.vf hvy (by omega) (by omega) (nck (by omega)) (nck (by omega))) (fun z => hn1.2 (by omega) (ZRL.cg2 z (by omega))) (fun z => hn2.2 (by omega) (ZRL.cg2 z (by omega))) (COM.dd hcm (by omega) (by omega)) (fun h9 => by omega) (fun h9 => by omega), hI31, (Chg.cons (Chg.up S11 (sl_2 (B_r0_12) (A_r0_12_1))) (Chg.cons (Chg.up S20 (sl_2 (B_r0_13) (A_r0_13_1))) (Chg.mono (Chg.up S33 (sl_6 (B_r0_11) (A_r0_11_1) (B_r0_5_1) (A_r0_5_1_1) (B_r0_5_2) (A_r0_5_2_1))) (by decide)) (by decide)) (by decide))⟩)
    refine z_iconst C (z := 0) rfl rfl rfl (fun x40 ex40 => ?_)
    exact k_iret C rfl (Or.inr ⟨rfl, z01 (by omega) (by omega)⟩) (Nat.le_of_ble_eq_true rfl) (Nat.le_of_ble_eq_true rfl) (Or.inl ⟨_, _, _, rfl, rfl, by omega, by omega, by (try simp only [z_r0_0, z_r0_1, z_r0_2, z_r0_5, z_r0_6, z_r0_7, z_r0_8, z_r0_9, z_r0_10, z_r0_11, z_r0_12, z_r0_13, z_r0_1_6, z_r0_1_7, z_r0_1_8, z_r0_1_9, z_r0_1_10, z_r0_5_0, z_r0_5_1, z_r0_5_2, z_r0_5_1_1, z_r0_5_2_1, z_r0_11_1, z_r0_12_1, z_r0_13_1, z_r0_5_0_6, z_r0_5_0_7, z_r0_5_0_8, z_r0_5_0_9, z_r0_5_0_10, z_rr2_1]); omega, by (try simp only [z_r0_0, z_r0_1, z_r0_2, z_r0_5, z_r0_6, z_r0_7, z_r0_8, z_r0_9, z_r0_10, z_r0_11, z_r0_12, z_r0_13, z_r0_1_6, z_r0_1_7, z_r0_1_8, z_r0_1_9, z_r0_1_10, z_r0_5_0, z_r0_5_1, z_r0_5_2, z_r0_5_1_1, z_r0_5_2_1, z_r0_11_1, z_r0_12_1, z_r0_13_1, z_r0_5_0_6, z_r0_5_0_7, z_r0_5_0_8, z_r0_5_0_9, z_r0_5_0_10, z_rr2_1]); rw [oF]; (try simp only [z_r0_0, z_r0_1, z_r0_2, z_r0_5, z_r0_6, z_r0_7, z_r0_8, z_r0_9, z_r0_10, z_r0_11, z_r0_12, z_r0_13, z_r0_1_6, z_r0_1_7, z_r0_1_8, z_r0_1_9, z_r0_1_10, z_r0_5_0, z_r0_5_1, z_r0_5_2, z_r0_5_1_1, z_r0_5_2_1, z_r0_11_1, z_r0_12_1, z_r0_13_1, z_r0_5_0_6, z_r0_5_0_7, z_r0_5_0_8, z_r0_5_0_9, z_r0_5_0_10, z_rr2_1]); rw [k0_r0_1_0, eH]; exact PLN.z (by omega) (VRX.vf hvx2 (by omega) (by omega) (nck (by omega)) (nck (by omega))) (VRX.vf hvy (by omega) (by omega) (nck (by omega)) (nck (by omega))) (by first | exact Or.inl (by have h9 := hn1.1 (by omega); exact h9.cg2 (by omega)) | exact Or.inr (by have h9 := hn2.1 (by omega); exact h9.cg2 (by omega))) (by omega), hI18, (Chg.cons (Chg.up S11 (sl_2 (B_r0_12) (A_r0_12_1))) (Chg.mono (Chg.up S20 (sl_2 (B_r0_13) (A_r0_13_1))) (by decide)) (by decide))⟩)
  refine z_iconst C (z := 0) rfl rfl rfl (fun x41 ex41 => ?_)
  exact k_iret C rfl (Or.inr ⟨rfl, z01 (by omega) (by omega)⟩) (Nat.le_of_ble_eq_true rfl) (Nat.le_of_ble_eq_true rfl) (Or.inl ⟨_, _, _, rfl, rfl, by omega, by omega, by (try simp only [z_r0_0, z_r0_1, z_r0_2, z_r0_5, z_r0_6, z_r0_7, z_r0_8, z_r0_9, z_r0_10, z_r0_11, z_r0_12, z_r0_13, z_r0_1_6, z_r0_1_7, z_r0_1_8, z_r0_1_9, z_r0_1_10, z_r0_5_0, z_r0_5_1, z_r0_5_2, z_r0_5_1_1, z_r0_5_2_1, z_r0_11_1, z_r0_12_1, z_r0_13_1, z_r0_5_0_6, z_r0_5_0_7, z_r0_5_0_8, z_r0_5_0_9, z_r0_5_0_10, z_rr2_1]); omega, by (try simp only [z_r0_0, z_r0_1, z_r0_2, z_r0_5, z_r0_6, z_r0_7, z_r0_8, z_r0_9, z_r0_10, z_r0_11, z_r0_12, z_r0_13, z_r0_1_6, z_r0_1_7, z_r0_1_8, z_r0_1_9, z_r0_1_10, z_r0_5_0, z_r0_5_1, z_r0_5_2, z_r0_5_1_1, z_r0_5_2_1, z_r0_11_1, z_r0_12_1, z_r0_13_1, z_r0_5_0_6, z_r0_5_0_7, z_r0_5_0_8, z_r0_5_0_9, z_r0_5_0_10, z_rr2_1]); rw [oF]; (try simp only [z_r0_0, z_r0_1, z_r0_2, z_r0_5, z_r0_6, z_r0_7, z_r0_8, z_r0_9, z_r0_10, z_r0_11, z_r0_12, z_r0_13, z_r0_1_6, z_r0_1_7, z_r0_1_8, z_r0_1_9, z_r0_1_10, z_r0_5_0, z_r0_5_1, z_r0_5_2, z_r0_5_1_1, z_r0_5_2_1, z_r0_11_1, z_r0_12_1, z_r0_13_1, z_r0_5_0_6, z_r0_5_0_7, z_r0_5_0_8, z_r0_5_0_9, z_r0_5_0_10, z_rr2_1]); exact PLN.s (by omega) (by omega), hI, Chg.rf⟩)

