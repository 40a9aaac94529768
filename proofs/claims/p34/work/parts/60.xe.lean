/-! powers: exactly -/
theorem PmE.sbt {p x y z w : Int} (h : PmE p x y) (g : PmE p z w) : PmE p (x - z) (y - w) := by unfold PmE at *; rw [Int.sub_emod, h, g, ← Int.sub_emod]
def SUMN (F : Nat → Int) : Nat → Int
  | 0 => 0
  | n + 1 => SUMN F n + F n
theorem SUMN.cg {F G : Nat → Int} : ∀ n, (∀ i, i < n → F i = G i) → SUMN F n = SUMN G n
  | 0, _ => rfl
  | n + 1, h => by show SUMN F n + F n = SUMN G n + G n; rw [SUMN.cg n (fun i hi => h i (by omega)), h n (by omega)]
theorem SUMN.ad (F G : Nat → Int) : ∀ n, SUMN (fun i => F i + G i) n = SUMN F n + SUMN G n
  | 0 => rfl
  | n + 1 => by show SUMN (fun i => F i + G i) n + (F n + G n) = SUMN F n + F n + (SUMN G n + G n); rw [SUMN.ad F G n]; omega
theorem SUMN.z : ∀ n, SUMN (fun _ => 0) n = 0
  | 0 => rfl
  | n + 1 => by show SUMN (fun _ => 0) n + 0 = 0; rw [SUMN.z n]; rfl
theorem SUMN.sc (x : Int) (F : Nat → Int) : ∀ n, SUMN (fun i => x * F i) n = x * SUMN F n
  | 0 => (Int.mul_zero x).symm
  | n + 1 => by show SUMN (fun i => x * F i) n + x * F n = x * (SUMN F n + F n); rw [SUMN.sc x F n, Int.mul_add]
theorem SUMN.sw (F : Nat → Nat → Int) (m : Nat) : ∀ n, SUMN (fun i => SUMN (fun j => F i j) m) n = SUMN (fun j => SUMN (fun i => F i j) n) m
  | 0 => by show (0 : Int) = SUMN (fun _ => 0) m; rw [SUMN.z]
  | n + 1 => by
    show SUMN (fun i => SUMN (fun j => F i j) m) n + SUMN (fun j => F n j) m = SUMN (fun j => SUMN (fun i => F i j) n + F n j) m
    rw [SUMN.sw F m n, SUMN.ad]
theorem SUMN.p {F : Nat → Int} (h : ∀ i, 0 ≤ F i) : ∀ n, 0 ≤ SUMN F n
  | 0 => Int.le_refl 0
  | n + 1 => Int.add_nonneg (SUMN.p h n) (h n)
theorem SUMN.pos {F : Nat → Int} (h : ∀ i, 0 ≤ F i) : ∀ {n : Nat}, 0 < SUMN F n → ∃ i, i < n ∧ 0 < F i
  | 0, q => absurd q (Int.lt_irrefl 0)
  | n + 1, q => by
    have q : 0 < SUMN F n + F n := q
    by_cases c : 0 < F n
    · exact ⟨n, by omega, c⟩
    · obtain ⟨i, hi, hF⟩ := SUMN.pos h (n := n) (by omega)
      exact ⟨i, by omega, hF⟩
theorem SUMN.ge {F : Nat → Int} (h : ∀ i, 0 ≤ F i) : ∀ {n i : Nat}, i < n → F i ≤ SUMN F n
  | 0, i, q => absurd q (by omega)
  | n + 1, i, q => by
    show F i ≤ SUMN F n + F n
    have a := SUMN.p h n
    have b := h n
    by_cases c : i = n
    · subst c; omega
    · have := SUMN.ge h (n := n) (i := i) (by omega); omega
theorem NF.e {I1 I : IT} {b : Nat} (e : I1 b = I b) : NF I1 b = NF I b := by unfold NF; rw [e]
theorem IMX.s9 {w x y : Int32} (m : IMX w x y) (hx : 0 ≤ x.toInt ∧ x.toInt ≤ 18) (hy : 0 ≤ y.toInt ∧ y.toInt ≤ 18) : w.toInt = x.toInt * y.toInt := by
  have a : x.toInt * y.toInt ≤ 18 * 18 := Int.mul_le_mul hx.2 hy.2 hy.1 (by decide)
  have b := Int.mul_nonneg hx.1 hy.1
  exact m (by omega) (by omega)
def SBX (w x y : Int32) : Prop := -2147483648 ≤ x.toInt - y.toInt → x.toInt - y.toInt ≤ 2147483647 → w.toInt = x.toInt - y.toInt
section AutoE
variable {d : Nat} {q : mm_T} {mc ms : Nat} {Post : Po} {V : V_T} {pc pc2 : Nat} {lv : List (Nat × Value)} {r : List Value} {ck sk : Nat}
theorem z_isubX (C : Cl d q mc ms Post V) {M : Mm} {x y : Int32} (hi : cdf q.2.2.2.2.2.2 pc = some (.isub, 1)) (hp : pc + 1 = pc2) (h : ∀ w : Int32, SBX w x y → V pc2 lv (.int w :: r) M ck sk) : V pc lv (.int y :: .int x :: r) M ck sk := k_isub C hi hp (h _ (fun h1 h2 => ii_sub (by omega)))
end AutoE
/-- one row times another -/
theorem SUMN.pe {p : Int} {F G : Nat → Int} : ∀ n, (∀ i, i < n → PmE p (F i) (G i)) → PmE p (SUMN F n) (SUMN G n)
  | 0, _ => PmE.rf
  | n + 1, h => (SUMN.pe n (fun i hi => h i (by omega))).ad (h n (by omega))
theorem SUMN.sp (F : Nat → Int) (m : Nat) : ∀ n, SUMN F (m + n) = SUMN F m + SUMN (fun i => F (m + i)) n
  | 0 => (Int.add_zero _).symm
  | n + 1 => by
    show SUMN F (m + n) + F (m + n) = SUMN F m + (SUMN (fun i => F (m + i)) n + F (m + n))
    rw [SUMN.sp F m n]; omega
theorem SUMN.z0 {F : Nat → Int} (n : Nat) (h : ∀ i, i < n → F i = 0) : SUMN F n = 0 := (SUMN.cg n h).trans (SUMN.z n)
def CNV (q g : Nat → Int) (k : Nat) : Int := SUMN (fun i => q i * g (k - i)) (k + 1)
theorem CNV.pe {p : Int} {q q' g g' : Nat → Int} {k : Nat} (hq : ∀ i, i ≤ k → PmE p (q i) (q' i)) (hg : ∀ i, i ≤ k → PmE p (g i) (g' i)) : PmE p (CNV q g k) (CNV q' g' k) := SUMN.pe _ (fun i hi => (hq i (by omega)).ml (hg (k - i) (by omega)))
theorem CNV.li (a b : Int) (q r g : Nat → Int) (k : Nat) : CNV (fun i => a * q i + b * r i) g k = a * CNV q g k + b * CNV r g k := by
  unfold CNV
  rw [← SUMN.sc, ← SUMN.sc, ← SUMN.ad]
  exact SUMN.cg _ (fun i _ => by grind)
/-- a row behind some noughts -/
def SHY (m : Nat) (q : Nat → Int) (i : Nat) : Int := if i < m then 0 else q (i - m)
theorem CNV.sh (m : Nat) (q g : Nat → Int) (k : Nat) : CNV (SHY m q) g (m + k) = CNV q g k := by
  unfold CNV
  rw [show m + k + 1 = m + (k + 1) from by omega, SUMN.sp]
  rw [SUMN.z0 m (fun i hi => by unfold SHY; rw [if_pos hi, Int.zero_mul]), Int.zero_add]
  refine SUMN.cg _ (fun i hi => ?_)
  unfold SHY
  rw [if_neg (by omega), show m + i - m = i from by omega, show m + k - (m + i) = k - i from by omega]
theorem CNV.s0 {m : Nat} {q g : Nat → Int} {k : Nat} (h : k < m) : CNV (SHY m q) g k = 0 := SUMN.z0 _ (fun i hi => by
  show SHY m q i * _ = 0
  unfold SHY; rw [if_pos (by omega), Int.zero_mul])
/-- a row's end -/
def SUP (d : Nat → Int) (H : Int) : Prop := ∀ i : Nat, H < (i : Int) → d i = 0
def UNI (p : Int) (d : Nat → Int) : Prop := ∃ e, PmE p (e * d 0) 1
theorem CNV.hi {r d : Nat → Int} {E H : Int} {j : Nat} (hr : ∀ i : Nat, E < (i : Int) + H → r i = 0) (hd : SUP d H) (hj : E < (j : Int)) : CNV r d j = 0 := SUMN.z0 _ (fun i hi => by
  show r i * d (j - i) = 0
  by_cases q : E < (i : Int) + H
  · rw [hr i q, Int.zero_mul]
  · rw [hd (j - i) (by omega), Int.mul_zero])
/-- d of degree H divides f of degree D -/
def DV (p : Int) (d : Nat → Int) (H : Int) (f : Nat → Int) (D : Int) : Prop := ∃ q : Nat → Int, (∀ i : Nat, D < (i : Int) + H → q i = 0) ∧ ∀ k : Nat, (k : Int) ≤ D → PmE p (f k) (CNV q d k)
theorem DV.cg {p : Int} {d : Nat → Int} {H : Int} {f f' : Nat → Int} {D : Int} (h : DV p d H f D) (e : ∀ k : Nat, (k : Int) ≤ D → PmE p (f' k) (f k)) : DV p d H f' D := by
  obtain ⟨q, q1, q2⟩ := h
  exact ⟨q, q1, fun k hk => (e k hk).tr (q2 k hk)⟩
theorem DV.sb1 {p : Int} {d : Nat → Int} {H : Int} {f f1 g : Nat → Int} {D E c : Int} {m : Nat} (hd : SUP d H) (hE : E + m ≤ D) (e : ∀ k : Nat, (k : Int) ≤ D → PmE p (f1 k) (f k - c * (if m ≤ k ∧ ((k - m : Nat) : Int) ≤ E then g (k - m) else 0))) (hg : DV p d H g E) (h : DV p d H f D) : DV p d H f1 D := by
  obtain ⟨q, q1, q2⟩ := h
  obtain ⟨r, r1, r2⟩ := hg
  refine ⟨fun i => 1 * q i + (-c) * SHY m r i, fun i hi => ?_, fun k hk => ?_⟩
  · show 1 * q i + (-c) * SHY m r i = 0
    have z : SHY m r i = 0 := by
      unfold SHY
      by_cases x : i < m
      · rw [if_pos x]
      · rw [if_neg x]; exact r1 _ (by omega)
    rw [q1 i hi, z]; omega
  · rw [CNV.li]
    refine (e k hk).tr ?_
    have w : PmE p (if m ≤ k ∧ ((k - m : Nat) : Int) ≤ E then g (k - m) else 0) (CNV (SHY m r) d k) := by
      by_cases x : m ≤ k
      · have s := CNV.sh m r d (k - m)
        rw [show m + (k - m) = k from by omega] at s
        rw [s]
        by_cases y : ((k - m : Nat) : Int) ≤ E
        · rw [if_pos ⟨x, y⟩]; exact r2 _ y
        · rw [if_neg (fun z => y z.2), CNV.hi r1 hd (by omega)]; exact PmE.rf
      · rw [if_neg (fun z => x z.1), CNV.s0 (by omega)]; exact PmE.rf
    have a := PmE.sbt (q2 k hk) (PmE.ml (PmE.rf (x := c)) w)
    rwa [show 1 * CNV q d k + -c * CNV (SHY m r) d k = CNV q d k - c * CNV (SHY m r) d k from by grind]
theorem DV.sb {p : Int} {d : Nat → Int} {H : Int} {f f1 g : Nat → Int} {D E c : Int} {m : Nat} (hd : SUP d H) (hE : E + m ≤ D) (e : ∀ k : Nat, (k : Int) ≤ D → PmE p (f1 k) (f k - c * (if m ≤ k ∧ ((k - m : Nat) : Int) ≤ E then g (k - m) else 0))) (hg : DV p d H g E) : DV p d H f D ↔ DV p d H f1 D := by
  refine ⟨fun h => DV.sb1 hd hE e hg h, fun h => DV.sb1 (c := -c) (m := m) hd hE (fun k hk => ?_) hg h⟩
  have a := (e k hk).ad (PmE.rf (p := p) (x := c * (if m ≤ k ∧ ((k - m : Nat) : Int) ≤ E then g (k - m) else 0)))
  have a := a.sy
  rw [show f k - c * (if m ≤ k ∧ ((k - m : Nat) : Int) ≤ E then g (k - m) else 0) + c * (if m ≤ k ∧ ((k - m : Nat) : Int) ≤ E then g (k - m) else 0) = f k from by omega] at a
  rwa [show f1 k - -c * (if m ≤ k ∧ ((k - m : Nat) : Int) ≤ E then g (k - m) else 0) = f1 k + c * (if m ≤ k ∧ ((k - m : Nat) : Int) ≤ E then g (k - m) else 0) from by grind]
theorem CNV.u0 {p : Int} {q d : Nat → Int} (hu : UNI p d) : ∀ n : Nat, (∀ k, k < n → PmE p (CNV q d k) 0) → ∀ i, i < n → PmE p (q i) 0
  | 0, _, i, hi => absurd hi (by omega)
  | n + 1, h, i, hi => by
    have ih := CNV.u0 hu n (fun k hk => h k (by omega))
    by_cases x : i = n
    · subst x
      have a := h i (by omega)
      have a : PmE p (SUMN (fun j => q j * d (i - j)) i + q i * d (i - i)) 0 := a
      have z : PmE p (SUMN (fun j => q j * d (i - j)) i) 0 := by
        have := SUMN.pe (p := p) (F := fun j => q j * d (i - j)) (G := fun _ => 0) i (fun j hj => by
          have := (ih j hj).ml (PmE.rf (x := d (i - j)))
          rwa [Int.zero_mul] at this)
        rwa [SUMN.z] at this
      have b := PmE.sbt a z
      rw [show SUMN (fun j => q j * d (i - j)) i + q i * d (i - i) - SUMN (fun j => q j * d (i - j)) i = q i * d (i - i) from by omega, Nat.sub_self] at b
      obtain ⟨e, he⟩ := hu
      have c := PmE.ml (PmE.rf (p := p) (x := e)) b
      rw [show e * (q i * d 0) = e * d 0 * q i from by grind] at c
      have c2 := (he.sy.ml (PmE.rf (x := q i))).tr c
      rwa [Int.one_mul, Int.sub_self, Int.mul_zero] at c2
    · exact ih i (by omega)
theorem DV.sh {p : Int} {d : Nat → Int} {H : Int} {f f' : Nat → Int} {D D' : Int} {m : Nat} (hu : UNI p d) (hz : ∀ k : Nat, k < m → PmE p (f k) 0) (hf : ∀ k : Nat, (k : Int) ≤ D' → PmE p (f' k) (f (m + k))) (hD : D' = D - m) (hm : (m : Int) ≤ D + 1) : DV p d H f D ↔ DV p d H f' D' := by
  subst hD
  constructor
  · rintro ⟨q, q1, q2⟩
    have z := CNV.u0 (q := q) hu m (fun k hk => (q2 k (by omega)).sy.tr (hz k hk))
    refine ⟨fun i => q (m + i), fun i hi => q1 _ (by omega), fun k hk => ?_⟩
    refine (hf k hk).tr ((q2 (m + k) (by omega)).tr ?_)
    unfold CNV
    rw [show m + k + 1 = m + (k + 1) from by omega, SUMN.sp]
    have a : PmE p (SUMN (fun i => q i * d (m + k - i)) m) 0 := by
      have := SUMN.pe (p := p) (F := fun i => q i * d (m + k - i)) (G := fun _ => 0) m (fun j hj => by
        have := (z j hj).ml (PmE.rf (x := d (m + k - j)))
        rwa [Int.zero_mul] at this)
      rwa [SUMN.z] at this
    have b : SUMN (fun i => q (m + i) * d (m + k - (m + i))) (k + 1) = SUMN (fun i => q (m + i) * d (k - i)) (k + 1) := SUMN.cg _ (fun i _ => by rw [show m + k - (m + i) = k - i from by omega])
    have c := a.ad (PmE.rf (x := SUMN (fun i => q (m + i) * d (m + k - (m + i))) (k + 1)))
    rw [Int.zero_add, b] at c
    rw [b]; exact c
  · rintro ⟨q, q1, q2⟩
    refine ⟨SHY m q, fun i hi => ?_, fun k hk => ?_⟩
    · unfold SHY
      by_cases x : i < m
      · rw [if_pos x]
      · rw [if_neg x]; exact q1 _ (by omega)
    · by_cases x : k < m
      · rw [CNV.s0 x]; exact hz k x
      · have s := CNV.sh m q d (k - m)
        rw [show m + (k - m) = k from by omega] at s
        rw [s]
        have a := hf (k - m) (by omega)
        rw [show m + (k - m) = k from by omega] at a
        exact a.sy.tr (q2 _ (by omega))
/-- the same common divisors -/
def CDV (p : Int) (d : Nat → Int) (H : Int) (f : Nat → Int) (D : Int) (g : Nat → Int) (E : Int) : Prop := DV p d H f D ∧ DV p d H g E
def SCD (p : Int) (f : Nat → Int) (D : Int) (g : Nat → Int) (E : Int) (f' : Nat → Int) (D' : Int) (g' : Nat → Int) (E' : Int) : Prop := ∀ (d : Nat → Int) (H : Int), 0 ≤ H → UNI p d → SUP d H → (CDV p d H f D g E ↔ CDV p d H f' D' g' E')
theorem SCD.rf {p D E : Int} {f g : Nat → Int} : SCD p f D g E f D g E := fun _ _ _ _ _ => Iff.rfl
theorem SCD.tr {p D E D1 E1 D2 E2 : Int} {f g f1 g1 f2 g2 : Nat → Int} (h : SCD p f D g E f1 D1 g1 E1) (k : SCD p f1 D1 g1 E1 f2 D2 g2 E2) : SCD p f D g E f2 D2 g2 E2 := fun d H h0 hu hs => (h d H h0 hu hs).trans (k d H h0 hu hs)
theorem SCD.sw {p D E D1 E1 : Int} {f g f1 g1 : Nat → Int} (h : SCD p f D g E f1 D1 g1 E1) : SCD p f D g E g1 E1 f1 D1 := fun d H h0 hu hs => (h d H h0 hu hs).trans ⟨fun q => ⟨q.2, q.1⟩, fun q => ⟨q.2, q.1⟩⟩
theorem SCD.cg {p D E D1 E1 D2 E2 : Int} {f g f1 g1 f2 g2 : Nat → Int} (h : SCD p f D g E f1 D1 g1 E1) (eD : D2 = D1) (eE : E2 = E1) (ef : ∀ k : Nat, (k : Int) ≤ D1 → f2 k = f1 k) (eg : ∀ k : Nat, (k : Int) ≤ E1 → g2 k = g1 k) : SCD p f D g E f2 D2 g2 E2 := by
  subst eD; subst eE
  refine h.tr (fun d H _ _ _ => ⟨fun q => ⟨q.1.cg (fun k hk => by rw [ef k hk]; exact PmE.rf), q.2.cg (fun k hk => by rw [eg k hk]; exact PmE.rf)⟩, fun q => ⟨q.1.cg (fun k hk => by rw [ef k hk]; exact PmE.rf), q.2.cg (fun k hk => by rw [eg k hk]; exact PmE.rf)⟩⟩)
/-- less a part of the other -/
theorem SCD.sb {p D E c : Int} {f g f1 : Nat → Int} {m : Nat} (hE : E + m ≤ D) (e : ∀ k : Nat, (k : Int) ≤ D → PmE p (f1 k) (f k - c * (if m ≤ k ∧ ((k - m : Nat) : Int) ≤ E then g (k - m) else 0))) : SCD p f D g E f1 D g E := fun d H _ _ hs => ⟨fun q => ⟨(DV.sb hs hE e q.2).mp q.1, q.2⟩, fun q => ⟨(DV.sb hs hE e q.2).mpr q.1, q.2⟩⟩
/-- y taken away -/
theorem SCD.sh {p D D' E : Int} {f g f' : Nat → Int} {m : Nat} (hz : ∀ k : Nat, k < m → PmE p (f k) 0) (hf : ∀ k : Nat, (k : Int) ≤ D' → PmE p (f' k) (f (m + k))) (hD : D' = D - m) (hm : (m : Int) ≤ D + 1) : SCD p f D g E f' D' g E := fun d H _ hu _ => ⟨fun q => ⟨(DV.sh hu hz hf hD hm).mp q.1, q.2⟩, fun q => ⟨(DV.sh hu hz hf hD hm).mpr q.1, q.2⟩⟩
/-- what they have in common -/
def HCF (p : Int) (f : Nat → Int) (D : Int) (g : Nat → Int) (E : Int) (h : Nat → Int) (H : Int) : Prop := 0 ≤ H ∧ h 0 = 1 ∧ (∀ k : Nat, (k : Int) ≤ H → 0 ≤ h k ∧ h k < p) ∧ ∀ (d : Nat → Int) (Hd : Int), 0 ≤ Hd → UNI p d → SUP d Hd → (CDV p d Hd f D g E ↔ DV p d Hd h H)
def DL0 (x : Int) (i : Nat) : Int := if i = 0 then x else 0
theorem CNV.d0 (x : Int) (g : Nat → Int) (k : Nat) : CNV (DL0 x) g k = x * g k := by
  unfold CNV
  rw [show k + 1 = 1 + k from by omega, SUMN.sp]
  rw [SUMN.z0 k (fun i _ => by unfold DL0; rw [if_neg (by omega), Int.zero_mul])]
  show 0 + DL0 x 0 * g (k - 0) + 0 = x * g k
  unfold DL0
  rw [if_pos rfl, Nat.sub_zero]; omega
def CUT (h : Nat → Int) (H : Int) (k : Nat) : Int := if (k : Int) ≤ H then h k else 0
theorem HCF.le {p D E H H' : Int} {f g h h' : Nat → Int} (a : HCF p f D g E h H) (b : HCF p f D g E h' H') (hp : 1 < p) : H ≤ H' ∧ ∃ q : Nat → Int, (∀ i : Nat, H' < (i : Int) + H → q i = 0) ∧ ∀ k : Nat, (k : Int) ≤ H' → PmE p (h' k) (CNV q (CUT h H) k) := by
  obtain ⟨a0, a1, a2, a3⟩ := a
  obtain ⟨b0, b1, b2, b3⟩ := b
  have c0 : CUT h H 0 = 1 := by unfold CUT; rw [if_pos (by omega)]; exact a1
  have hu : UNI p (CUT h H) := ⟨1, by rw [c0]; exact PmE.rf⟩
  have hs : SUP (CUT h H) H := fun i hi => by unfold CUT; rw [if_neg (by omega)]
  have self : DV p (CUT h H) H h H := ⟨DL0 1, fun i hi => by unfold DL0; rw [if_neg (by omega)], fun k hk => by
    rw [CNV.d0, Int.one_mul]; unfold CUT; rw [if_pos hk]; exact PmE.rf⟩
  obtain ⟨q, q1, q2⟩ := (b3 _ H a0 hu hs).mp ((a3 _ H a0 hu hs).mpr self)
  refine ⟨?_, q, q1, q2⟩
  rcases Int.lt_or_le H' H with c | c
  · exfalso
    have e := q2 0 (by omega)
    have z : CNV q (CUT h H) 0 = 0 := SUMN.z0 _ (fun i hi => by
      show q i * _ = 0
      rw [q1 i (by omega), Int.zero_mul])
    rw [z, b1] at e
    have e : (1 : Int) % p = 0 % p := e
    rw [Int.emod_eq_of_lt (by decide) hp, Int.zero_emod] at e
    omega
  · exact c
theorem HCF.u {p D E H H' : Int} {f g h h' : Nat → Int} (a : HCF p f D g E h H) (b : HCF p f D g E h' H') (hp : 1 < p) : H = H' ∧ ∀ k : Nat, (k : Int) ≤ H → h k = h' k := by
  obtain ⟨l1, q, q1, q2⟩ := a.le b hp
  obtain ⟨l2, -⟩ := b.le a hp
  have e : H = H' := by omega
  subst e
  refine ⟨rfl, fun k hk => ?_⟩
  have hq : q = DL0 (q 0) := funext fun i => by
    unfold DL0
    by_cases x : i = 0
    · rw [if_pos x, x]
    · rw [if_neg x]; exact q1 i (by omega)
  have v : ∀ k : Nat, (k : Int) ≤ H → PmE p (h' k) (q 0 * h k) := fun k hk => by
    have := q2 k hk
    rw [hq, CNV.d0] at this
    unfold CUT at this
    rw [if_pos hk] at this
    exact this
  obtain ⟨a0, a1, a2, -⟩ := a
  obtain ⟨b0, b1, b2, -⟩ := b
  have v0 := v 0 (by omega)
  rw [a1, b1, Int.mul_one] at v0
  have w := (v k hk).tr (v0.sy.ml (PmE.rf (x := h k)))
  rw [Int.one_mul] at w
  exact (w.eq (b2 k hk).1 (b2 k hk).2 (a2 k hk).1 (a2 k hk).2).symm
/-- at the end: the other is nought -/
theorem HCF.fin {p D E B S c : Int} {f g b s h : Nat → Int} (t : SCD p f D g E b B s S) (z : ∀ k : Nat, (k : Int) ≤ S → s k = 0) (hB : 0 ≤ B) (hc : PmE p (c * b 0) 1) (hh : ∀ k : Nat, (k : Int) ≤ B → PmE p (h k) (c * b k) ∧ 0 ≤ h k ∧ h k < p) (hp : 1 < p) : HCF p f D g E h B := by
  refine ⟨hB, ?_, fun k hk => (hh k hk).2, fun d Hd h0 hu hs => (t d Hd h0 hu hs).trans ⟨fun q => ?_, fun q => ⟨?_, ⟨fun _ => 0, fun _ _ => rfl, fun k hk => ?_⟩⟩⟩⟩
  · have a := hh 0 (by omega)
    exact (a.1.tr hc).eq a.2.1 a.2.2 (by decide) hp
  · obtain ⟨r, r1, r2⟩ := q.1
    refine ⟨fun i => c * r i + 0 * r i, fun i hi => by show c * r i + 0 * r i = 0; rw [r1 i hi]; omega, fun k hk => ?_⟩
    rw [CNV.li, Int.zero_mul, Int.add_zero]
    exact (hh k hk).1.tr (PmE.rf.ml (r2 k hk))
  · obtain ⟨r, r1, r2⟩ := q
    refine ⟨fun i => b 0 * r i + 0 * r i, fun i hi => by show b 0 * r i + 0 * r i = 0; rw [r1 i hi]; omega, fun k hk => ?_⟩
    rw [CNV.li, Int.zero_mul, Int.add_zero]
    have a := (PmE.rf (x := b 0)).ml ((hh k hk).1.sy.tr (r2 k hk))
    rw [show b 0 * (c * b k) = c * b 0 * b k from by grind] at a
    have a2 := (hc.sy.ml (PmE.rf (x := b k))).tr a
    rwa [Int.one_mul] at a2
  · rw [z k hk]
    have : CNV (fun _ => 0) d k = 0 := SUMN.z0 _ (fun i _ => Int.zero_mul _)
    rw [this]; exact PmE.rf
/-- the first number that isn't nought -/
def FST (f : Nat → Int) (a : Nat) (D : Int) : Prop := (a : Int) ≤ D ∧ f a ≠ 0 ∧ ∀ k : Nat, k < a → f k = 0
theorem FST.u {f f' : Nat → Int} {a b : Nat} {D : Int} (h : FST f a D) (k : FST f' b D) (e : ∀ k : Nat, (k : Int) ≤ D → f k = f' k) : a = b := by
  obtain ⟨h1, h2, h3⟩ := h
  obtain ⟨k1, k2, k3⟩ := k
  rcases Nat.lt_trichotomy a b with c | c | c
  · exact absurd ((e a h1).trans (k3 a c)) h2
  · exact c
  · exact absurd ((e b k1).symm.trans (h3 b c)) k2
/-- what is told of two rows: y as often as in both, and what they have in common -/
def COM (p : Int) (f : Nat → Int) (D : Int) (g : Nat → Int) (E : Int) (r : Nat → Int) (W : Int) : Prop := ∃ (a b : Nat) (h : Nat → Int) (H : Int), FST f a D ∧ FST g b E ∧ HCF p (fun k => f (a + k)) (D - a) (fun k => g (b + k)) (E - b) h H ∧ W = ((min a b : Nat) : Int) + H ∧ ∀ k : Nat, (k : Int) ≤ W → r k = if k < min a b then 0 else h (k - min a b)
theorem COM.u {p D E W W' : Int} {f g f' g' r r' : Nat → Int} (x : COM p f D g E r W) (y : COM p f' D g' E r' W') (hp : 1 < p) (ef : ∀ k : Nat, (k : Int) ≤ D → f k = f' k) (eg : ∀ k : Nat, (k : Int) ≤ E → g k = g' k) : W = W' ∧ ∀ k : Nat, (k : Int) ≤ W → r k = r' k := by
  obtain ⟨a, b, h, H, x1, x2, x3, x4, x5⟩ := x
  obtain ⟨a', b', h', H', y1, y2, y3, y4, y5⟩ := y
  have ea := x1.u y1 ef
  have eb := x2.u y2 eg
  subst ea; subst eb
  have y3 : HCF p (fun k => f (a + k)) (D - a) (fun k => g (b + k)) (E - b) h' H' := by
    obtain ⟨z0, z1, z2, z3⟩ := y3
    refine ⟨z0, z1, z2, fun d Hd h0 hu hs => Iff.trans ⟨fun q => ⟨q.1.cg (fun k hk => ?_), q.2.cg (fun k hk => ?_)⟩, fun q => ⟨q.1.cg (fun k hk => ?_), q.2.cg (fun k hk => ?_)⟩⟩ (z3 d Hd h0 hu hs)⟩
    · show PmE p (f' (a + k)) (f (a + k)); rw [ef _ (by omega)]; exact PmE.rf
    · show PmE p (g' (b + k)) (g (b + k)); rw [eg _ (by omega)]; exact PmE.rf
    · show PmE p (f (a + k)) (f' (a + k)); rw [ef _ (by omega)]; exact PmE.rf
    · show PmE p (g (b + k)) (g' (b + k)); rw [eg _ (by omega)]; exact PmE.rf
  obtain ⟨eH, eh⟩ := x3.u y3 hp
  subst eH
  refine ⟨by omega, fun k hk => ?_⟩
  rw [x5 k hk, y5 k (by omega)]
  by_cases q : k < min a b
  · rw [if_pos q, if_pos q]
  · rw [if_neg q, if_neg q]; exact eh _ (by omega)
/-- a quotient -/
def QTO (p : Int) (q g : Nat → Int) (f : Nat → Int) (D E : Int) : Prop := (∀ i : Nat, D - E < (i : Int) → q i = 0) ∧ (∀ i : Nat, (i : Int) ≤ D - E → 0 ≤ q i ∧ q i < p) ∧ ∀ k : Nat, (k : Int) ≤ D → PmE p (f k) (CNV q (CUT g E) k)
theorem PRM.un {p a : Int} (hp : PRM p) (h0 : a ≠ 0) (h : 0 ≤ a ∧ a < p) : ∃ b, PmE p (b * a) 1 := by
  have d : ∀ q : Nat, q = 11 ∨ q = 13 ∨ q = 17 ∨ q = 19 → ∀ a : Nat, a < 19 → 0 < a → a < q → ∃ b : Nat, b < 19 ∧ (b * a) % q = 1 := by
    rintro q (rfl | rfl | rfl | rfl) <;> decide
  obtain ⟨b, -, hb⟩ := d p.toNat (by unfold PRM at hp; omega) a.toNat (by unfold PRM at hp; omega) (by omega) (by omega)
  refine ⟨(b : Int), ?_⟩
  have e1 : ((a.toNat : Nat) : Int) = a := by omega
  have e2 : ((p.toNat : Nat) : Int) = p := by unfold PRM at hp; omega
  have e3 : (((b * a.toNat) % p.toNat : Nat) : Int) = 1 := by rw [hb]; rfl
  rw [Int.natCast_emod, Int.natCast_mul, e1, e2] at e3
  show (b : Int) * a % p = 1 % p
  rw [e3]
  have : 1 < p := by unfold PRM at hp; omega
  exact (Int.emod_eq_of_lt (by decide) this).symm
/-- q times g where g begins behind b noughts -/
theorem CNV.fb {q g : Nat → Int} {b : Nat} (hz : ∀ k, k < b → g k = 0) (k : Nat) : CNV q g (k + b) = CNV q (fun i => g (i + b)) k := by
  unfold CNV
  rw [show k + b + 1 = (k + 1) + b from by omega, SUMN.sp]
  rw [SUMN.z0 b (fun i hi => by show q (k + 1 + i) * g (k + b - (k + 1 + i)) = 0; rw [hz _ (by omega), Int.mul_zero]), Int.add_zero]
  exact SUMN.cg _ (fun i hi => by rw [show k + b - i = k - i + b from by omega])
theorem QTO.u {p D E : Int} {q q' g g' f f' : Nat → Int} {b : Nat} (h : QTO p q g f D E) (k : QTO p q' g' f' D E) (hp : PRM p) (hb : FST g b E) (bg : ∀ k : Nat, (k : Int) ≤ E → 0 ≤ g k ∧ g k < p) (ef : ∀ k : Nat, (k : Int) ≤ D → f k = f' k) (eg : ∀ k : Nat, (k : Int) ≤ E → g k = g' k) (hE : E ≤ D) : ∀ i : Nat, (i : Int) ≤ D - E → q i = q' i := by
  obtain ⟨h1, h2, h3⟩ := h
  obtain ⟨k1, k2, k3⟩ := k
  have eC : CUT g E = CUT g' E := funext fun k => by
    unfold CUT
    by_cases c : (k : Int) ≤ E
    · rw [if_pos c, if_pos c]; exact eg k c
    · rw [if_neg c, if_neg c]
  obtain ⟨b1, b2, b3⟩ := hb
  have zb : ∀ k, k < b → CUT g E k = 0 := fun k hk => by unfold CUT; rw [if_pos (by omega)]; exact b3 k hk
  have hu : UNI p (fun i => CUT g E (i + b)) := by
    obtain ⟨e, he⟩ := PRM.un hp b2 (bg b b1)
    refine ⟨e, ?_⟩
    show PmE p (e * CUT g E (0 + b)) 1
    unfold CUT
    rw [Nat.zero_add, if_pos b1]; exact he
  have z := CNV.u0 (q := fun i => 1 * q i + (-1) * q' i) hu ((D - E).toNat + 1) (fun k hk => by
    rw [CNV.li, ← CNV.fb zb, ← CNV.fb zb]
    have a := h3 (k + b) (by omega)
    have c := k3 (k + b) (by omega)
    rw [← eC, ← ef _ (by omega)] at c
    have d := PmE.sbt a.sy c.sy
    rw [Int.sub_self] at d
    rwa [show 1 * CNV q (CUT g E) (k + b) + -1 * CNV q' (CUT g E) (k + b) = CNV q (CUT g E) (k + b) - CNV q' (CUT g E) (k + b) from by omega])
  intro i hi
  have a := z i (by omega)
  have a : PmE p (1 * q i + (-1) * q' i) 0 := a
  have c := a.ad (PmE.rf (x := q' i))
  rw [show 1 * q i + -1 * q' i + q' i = q i from by omega, Int.zero_add] at c
  exact c.eq (h2 i hi).1 (h2 i hi).2 (k2 i hi).1 (k2 i hi).2
/-- powers: a point (0 .. p - 1; p: y alone) taken out of a row; the row of a point's power, its binomial numbers left away; what taking out makes of it -/
def TKO (p t : Int) (r : Nat → Int) (k : Nat) : Int := if t = p then r k else r (k + 1) + t * r k
def PTV (p s L : Int) (k : Nat) : Int := if s = p then (if (k : Int) = L - 1 then 1 else 0) else (-s) ^ k
def FAC (p t s : Int) : Int := if t = p then (if s = p then 0 else 1) else if s = p then 1 else t - s
theorem TKO.pt {p t s L : Int} {k : Nat} (hk : (k : Int) < L - 1) : TKO p t (PTV p s L) k = FAC p t s * PTV p s (L - 1) k := by
  unfold TKO
  by_cases a : t = p
  · rw [if_pos a]
    unfold FAC
    rw [if_pos a]
    unfold PTV
    by_cases b : s = p
    · rw [if_pos b, if_pos b, if_neg (by omega), Int.zero_mul]
    · rw [if_neg b, if_neg b, if_neg b, Int.one_mul]
  · rw [if_neg a]
    unfold FAC
    rw [if_neg a]
    by_cases b : s = p
    · have e : ∀ (M : Int) (j : Nat), PTV p s M j = if (j : Int) = M - 1 then 1 else 0 := fun M j => by unfold PTV; rw [if_pos b]
      rw [e, e, e, if_pos b, if_neg (show ¬ (k : Int) = L - 1 by omega), Int.mul_zero, Int.add_zero, Int.one_mul]
      by_cases c : (k : Int) = L - 1 - 1
      · rw [if_pos (by omega), if_pos c]
      · rw [if_neg (by omega), if_neg c]
    · have e : ∀ (M : Int) (j : Nat), PTV p s M j = (-s) ^ j := fun M j => by unfold PTV; rw [if_neg b]
      rw [e, e, e, if_neg b, Int.pow_succ]; grind
theorem TKO.pe {p t L : Int} {r q : Nat → Int} {k : Nat} (h : ∀ i : Nat, (i : Int) < L → PmE p (r i) (q i)) (hk : (k : Int) < L - 1) : PmE p (TKO p t r k) (TKO p t q k) := by
  unfold TKO
  by_cases c : t = p
  · rw [if_pos c, if_pos c]; exact h k (by omega)
  · rw [if_neg c, if_neg c]; exact (h (k + 1) (by omega)).ad (PmE.rf.ml (h k (by omega)))
theorem TKO.ad {p t a : Int} {r q : Nat → Int} {k : Nat} : TKO p t (fun i => r i + a * q i) k = TKO p t r k + a * TKO p t q k := by
  unfold TKO
  by_cases c : t = p
  · rw [if_pos c, if_pos c, if_pos c]
  · rw [if_neg c, if_neg c, if_neg c]; grind
theorem TKO.sc {p t a : Int} {q : Nat → Int} {k : Nat} : TKO p t (fun i => a * q i) k = a * TKO p t q k := by
  unfold TKO
  by_cases c : t = p
  · rw [if_pos c, if_pos c]
  · rw [if_neg c, if_neg c]; grind
theorem TKO.ker {p t L : Int} {r : Nat → Int} (h : ∀ k : Nat, (k : Int) < L - 1 → PmE p (TKO p t r k) 0) : ∃ c : Int, ∀ k : Nat, (k : Int) < L → PmE p (r k) (c * PTV p t L k) := by
  by_cases c : t = p
  · refine ⟨r (L - 1).toNat, fun k hk => ?_⟩
    have e : PTV p t L k = if (k : Int) = L - 1 then 1 else 0 := by unfold PTV; rw [if_pos c]
    rw [e]
    by_cases d : (k : Int) = L - 1
    · rw [if_pos d, Int.mul_one, show (L - 1).toNat = k from by omega]; exact PmE.rf
    · rw [if_neg d, Int.mul_zero]
      have q := h k (by omega)
      unfold TKO at q; rw [if_pos c] at q; exact q
  · refine ⟨r 0, fun k => ?_⟩
    have e : ∀ j, PTV p t L j = (-t) ^ j := fun j => by unfold PTV; rw [if_neg c]
    rw [e]
    induction k with
    | zero => intro _; rw [Int.pow_zero, Int.mul_one]; exact PmE.rf
    | succ n ih =>
      intro hk
      have q := h n (by omega)
      unfold TKO at q; rw [if_neg c] at q
      have b := PmE.sbt q ((PmE.rf (x := t)).ml (ih (by omega)))
      rw [show r (n + 1) + t * r n - t * r n = r (n + 1) from by omega] at b
      rw [Int.pow_succ]
      rwa [show 0 - t * (r 0 * (-t) ^ n) = r 0 * ((-t) ^ n * -t) from by grind] at b
/-- points taken out one behind another, but w -/
def TKS (p : Int) (w : Nat) (ts r : Nat → Int) : Nat → Nat → Int
  | 0 => r
  | n + 1 => if n = w then TKS p w ts r n else TKO p (ts n) (TKS p w ts r n)
def LNS (w : Nat) (L : Int) : Nat → Int
  | 0 => L
  | n + 1 => if n = w then LNS w L n else LNS w L n - 1
def KFS (p : Int) (w : Nat) (ts : Nat → Int) (s : Int) : Nat → Int
  | 0 => 1
  | n + 1 => if n = w then KFS p w ts s n else FAC p (ts n) s * KFS p w ts s n
theorem TKS.w {p : Int} {w : Nat} {ts r : Nat → Int} {n : Nat} (c : n = w) : TKS p w ts r (n + 1) = TKS p w ts r n := if_pos c
theorem TKS.o {p : Int} {w : Nat} {ts r : Nat → Int} {n : Nat} (c : n ≠ w) : TKS p w ts r (n + 1) = TKO p (ts n) (TKS p w ts r n) := if_neg c
theorem LNS.w {w : Nat} {L : Int} {n : Nat} (c : n = w) : LNS w L (n + 1) = LNS w L n := if_pos c
theorem LNS.o {w : Nat} {L : Int} {n : Nat} (c : n ≠ w) : LNS w L (n + 1) = LNS w L n - 1 := if_neg c
theorem KFS.w {p s : Int} {w : Nat} {ts : Nat → Int} {n : Nat} (c : n = w) : KFS p w ts s (n + 1) = KFS p w ts s n := if_pos c
theorem KFS.o {p s : Int} {w : Nat} {ts : Nat → Int} {n : Nat} (c : n ≠ w) : KFS p w ts s (n + 1) = FAC p (ts n) s * KFS p w ts s n := if_neg c
theorem TKS.pt {p s L : Int} {w : Nat} {ts : Nat → Int} : ∀ (n k : Nat), (k : Int) < LNS w L n → PmE p (TKS p w ts (PTV p s L) n k) (KFS p w ts s n * PTV p s (LNS w L n) k)
  | 0, k, _ => by
    show PmE p (PTV p s L k) (1 * PTV p s L k)
    rw [Int.one_mul]; exact PmE.rf
  | n + 1, k, hk => by
    by_cases c : n = w
    · rw [LNS.w c] at hk
      rw [TKS.w c, KFS.w c, LNS.w c]; exact TKS.pt n k hk
    · rw [LNS.o c] at hk
      rw [TKS.o c, KFS.o c, LNS.o c]
      have a := TKO.pe (t := ts n) (q := fun i => KFS p w ts s n * PTV p s (LNS w L n) i) (fun i hi => TKS.pt n i hi) hk
      rw [TKO.sc, TKO.pt hk] at a
      rwa [show KFS p w ts s n * (FAC p (ts n) s * PTV p s (LNS w L n - 1) k) = FAC p (ts n) s * KFS p w ts s n * PTV p s (LNS w L n - 1) k from by grind] at a
theorem TKS.ad {p a L : Int} {w : Nat} {ts u r q : Nat → Int} (h : ∀ i : Nat, (i : Int) < L → PmE p (u i) (r i + a * q i)) : ∀ (n k : Nat), (k : Int) < LNS w L n → PmE p (TKS p w ts u n k) (TKS p w ts r n k + a * TKS p w ts q n k)
  | 0, k, hk => h k hk
  | n + 1, k, hk => by
    by_cases c : n = w
    · rw [LNS.w c] at hk
      rw [TKS.w c, TKS.w c, TKS.w c]; exact TKS.ad h n k hk
    · rw [LNS.o c] at hk
      rw [TKS.o c, TKS.o c, TKS.o c]
      have b := TKO.pe (t := ts n) (q := fun i => TKS p w ts r n i + a * TKS p w ts q n i) (fun i hi => TKS.ad h n i hi) hk
      rwa [TKO.ad] at b
theorem TKS.z {p L : Int} {w : Nat} {ts u : Nat → Int} (h : ∀ i : Nat, (i : Int) < L → PmE p (u i) 0) : ∀ (n k : Nat), (k : Int) < LNS w L n → PmE p (TKS p w ts u n k) 0
  | 0, k, hk => h k hk
  | n + 1, k, hk => by
    by_cases c : n = w
    · rw [LNS.w c] at hk
      rw [TKS.w c]; exact TKS.z h n k hk
    · rw [LNS.o c] at hk
      rw [TKS.o c]
      have b := TKO.pe (t := ts n) (r := TKS p w ts u n) (q := fun _ => 0) (fun i hi => TKS.z h n i hi) hk
      have e : TKO p (ts n) (fun _ => 0) k = 0 := by
        unfold TKO
        by_cases d : ts n = p
        · rw [if_pos d]
        · rw [if_neg d, Int.mul_zero]; rfl
      rwa [e] at b
/-- a sum of powers -/
def SPS (p L : Int) (ts cs : Nat → Int) : Nat → Nat → Int
  | 0, _ => 0
  | n + 1, k => SPS p L ts cs n k + cs n * PTV p (ts n) L k
def SKS (p : Int) (w : Nat) (L : Int) (ts cs : Nat → Int) (m : Nat) : Nat → Nat → Int
  | 0, _ => 0
  | n + 1, k => SKS p w L ts cs m n k + cs n * (KFS p w ts (ts n) m * PTV p (ts n) (LNS w L m) k)
theorem TKS.sp {p L : Int} {w : Nat} {ts cs : Nat → Int} {m : Nat} : ∀ (n : Nat) (r : Nat → Int), (∀ i : Nat, (i : Int) < L → PmE p (r i) (SPS p L ts cs n i)) → ∀ k : Nat, (k : Int) < LNS w L m → PmE p (TKS p w ts r m k) (SKS p w L ts cs m n k)
  | 0, _, h, k, hk => TKS.z h m k hk
  | n + 1, r, h, k, hk => by
    have a := TKS.ad (w := w) (ts := ts) (r := fun i => SPS p L ts cs n i) (q := PTV p (ts n) L) (a := cs n) h m k hk
    refine a.tr ?_
    exact (TKS.sp n (fun i => SPS p L ts cs n i) (fun i _ => PmE.rf) k hk).ad (PmE.rf.ml (TKS.pt m k hk))
theorem FAC.z {p t : Int} : FAC p t t = 0 := by
  unfold FAC
  by_cases c : t = p
  · rw [if_pos c, if_pos c]
  · rw [if_neg c, if_neg c, Int.sub_self]
theorem KFS.z {p : Int} {w : Nat} {ts : Nat → Int} {i : Nat} (hw : i ≠ w) : ∀ n : Nat, i < n → KFS p w ts (ts i) n = 0
  | 0, h => absurd h (Nat.not_lt_zero i)
  | n + 1, h => by
    by_cases c : n = w
    · rw [KFS.w c]; exact KFS.z hw n (by omega)
    · rw [KFS.o c]
      by_cases d : n = i
      · subst d; rw [FAC.z, Int.zero_mul]
      · rw [KFS.z hw n (by omega), Int.mul_zero]
/-- nothing is left of a sum when all its points are taken out -/
theorem SKS.z {p L : Int} {w : Nat} {ts cs : Nat → Int} {m k : Nat} : ∀ n : Nat, n ≤ m → n ≤ w → SKS p w L ts cs m n k = 0
  | 0, _, _ => rfl
  | n + 1, h, hw => by
    show SKS p w L ts cs m n k + cs n * (KFS p w ts (ts n) m * PTV p (ts n) (LNS w L m) k) = 0
    rw [SKS.z n (by omega) (by omega), KFS.z (by omega) m (by omega), Int.zero_mul, Int.mul_zero]; rfl
/-- one is left when all the others are -/
theorem SKS.on {p L : Int} {w : Nat} {ts cs : Nat → Int} {m k : Nat} : ∀ n : Nat, n ≤ m → w < n → SKS p w L ts cs m n k = cs w * (KFS p w ts (ts w) m * PTV p (ts w) (LNS w L m) k)
  | 0, _, h => absurd h (Nat.not_lt_zero w)
  | n + 1, h, hw => by
    show SKS p w L ts cs m n k + cs n * (KFS p w ts (ts n) m * PTV p (ts n) (LNS w L m) k) = _
    by_cases d : n = w
    · subst d
      rw [SKS.z n (by omega) (Nat.le_refl n), Int.zero_add]
    · rw [KFS.z d m (by omega), Int.zero_mul, Int.mul_zero, Int.add_zero]; exact SKS.on n (by omega) (by omega)
/-- numbers that can be divided by -/
def UNT (p x : Int) : Prop := ∃ y, PmE p (y * x) 1
theorem UNT.o {p : Int} : UNT p 1 := ⟨1, PmE.rf⟩
theorem UNT.ml {p x y : Int} (h : UNT p x) (g : UNT p y) : UNT p (x * y) := by
  obtain ⟨a, ha⟩ := h
  obtain ⟨b, hb⟩ := g
  refine ⟨a * b, ?_⟩
  have q := ha.ml hb
  rwa [show a * x * (b * y) = a * b * (x * y) from by grind, Int.one_mul] at q
theorem UNT.of {p x : Int} (hp : PRM p) (h : ¬ PmE p x 0) : UNT p x := by
  have p0 : 0 < p := by unfold PRM at hp; omega
  obtain ⟨b, hb⟩ := PRM.un hp (a := x % p) (fun e => h (by show x % p = 0 % p; rw [e, Int.zero_emod])) ⟨Int.emod_nonneg _ (by omega), Int.emod_lt_of_pos _ p0⟩
  exact ⟨b, (PmE.rf.ml (PmE.em x).sy).tr hb⟩
theorem FAC.u {p t s : Int} (hp : PRM p) (h : t ≠ s) (ht : 0 ≤ t ∧ t ≤ p) (hs : 0 ≤ s ∧ s ≤ p) : UNT p (FAC p t s) := by
  have p0 : 0 < p := by unfold PRM at hp; omega
  unfold FAC
  by_cases a : t = p
  · rw [if_pos a, if_neg (by omega)]; exact UNT.o
  · rw [if_neg a]
    by_cases b : s = p
    · rw [if_pos b]; exact UNT.o
    · rw [if_neg b]
      refine UNT.of hp (fun z => ?_)
      have q := z.ad (PmE.rf (x := s))
      rw [show t - s + s = t from by omega, Int.zero_add] at q
      exact h (q.eq ht.1 (by omega) hs.1 (by omega))
/-- points in rising order -/
def RIS (p : Int) (n : Nat) (ts : Nat → Int) : Prop := (∀ i, i < n → 0 ≤ ts i ∧ ts i ≤ p) ∧ ∀ i, i + 1 < n → ts i < ts (i + 1)
theorem RIS.le {p : Int} {n m : Nat} {ts : Nat → Int} (h : RIS p n ts) (e : m ≤ n) : RIS p m ts := ⟨fun i hi => h.1 i (by omega), fun i hi => h.2 i (by omega)⟩
theorem RIS.lt {p : Int} {n : Nat} {ts : Nat → Int} (h : RIS p n ts) {i : Nat} : ∀ j, i < j → j < n → ts i < ts j
  | 0, q, _ => absurd q (Nat.not_lt_zero i)
  | j + 1, q, hj => by
    have a := h.2 j hj
    by_cases c : i = j
    · subst c; exact a
    · have b := RIS.lt h (i := i) j (by omega) (by omega); omega
theorem RIS.ne {p : Int} {n : Nat} {ts : Nat → Int} (h : RIS p n ts) {i j : Nat} (hi : i < n) (hj : j < n) (c : i ≠ j) : ts i ≠ ts j := by
  rcases Nat.lt_or_ge i j with q | q
  · have a := h.lt j q hj; omega
  · have a := h.lt i (show j < i by omega) hi; omega
theorem KFS.u {p : Int} {N w : Nat} {ts : Nat → Int} (hp : PRM p) (h : RIS p N ts) {i : Nat} (hi : i < N) : ∀ n : Nat, n ≤ N → (∀ j, j < n → j ≠ w → j ≠ i) → UNT p (KFS p w ts (ts i) n)
  | 0, _, _ => UNT.o
  | n + 1, hn, q => by
    by_cases c : n = w
    · rw [KFS.w c]; exact KFS.u hp h hi n (by omega) (fun j hj => q j (by omega))
    · rw [KFS.o c]
      exact (FAC.u hp (h.ne (by omega) hi (q n (by omega) c)) (h.1 n (by omega)) (h.1 i hi)).ml (KFS.u hp h hi n (by omega) (fun j hj => q j (by omega)))
theorem SPS.cg {p L : Int} {ts ts' cs cs' : Nat → Int} {k : Nat} : ∀ n : Nat, (∀ i, i < n → ts i = ts' i ∧ PmE p (cs i) (cs' i)) → PmE p (SPS p L ts cs n k) (SPS p L ts' cs' n k)
  | 0, _ => PmE.rf
  | n + 1, h => by
    obtain ⟨a, b⟩ := h n (by omega)
    show PmE p (SPS p L ts cs n k + cs n * PTV p (ts n) L k) (SPS p L ts' cs' n k + cs' n * PTV p (ts' n) L k)
    rw [a]
    exact (SPS.cg n (fun i hi => h i (by omega))).ad (b.ml PmE.rf)
/-- what nothing is left of is a sum -/
theorem TKS.span {p L : Int} {w : Nat} {ts : Nat → Int} (hp : PRM p) : ∀ (n : Nat) (r : Nat → Int), n ≤ w → RIS p n ts → (∀ k : Nat, (k : Int) < LNS w L n → PmE p (TKS p w ts r n k) 0) → ∃ cs : Nat → Int, ∀ k : Nat, (k : Int) < L → PmE p (r k) (SPS p L ts cs n k)
  | 0, r, _, _, h => ⟨fun _ => 0, fun k hk => h k hk⟩
  | n + 1, r, hw, hr, h => by
    have c : n ≠ w := by omega
    rw [TKS.o c, LNS.o c] at h
    obtain ⟨x, hx⟩ := TKO.ker h
    obtain ⟨y, hy⟩ := KFS.u (w := w) hp hr (show n < n + 1 by omega) n (by omega) (fun j hj _ => by omega)
    have z := TKS.ad (p := p) (w := w) (ts := ts) (u := fun i => r i + -(x * y) * PTV p (ts n) L i) (r := r) (q := PTV p (ts n) L) (a := -(x * y)) (L := L) (fun i _ => PmE.rf) n
    obtain ⟨cs, hcs⟩ := TKS.span (L := L) (w := w) (ts := ts) hp n (fun i => r i + -(x * y) * PTV p (ts n) L i) (by omega) (hr.le (by omega)) (fun k hk => by
      have a := z k hk
      have b := (hx k hk).ad (PmE.rf.ml (TKS.pt (ts := ts) n k hk) : PmE p (-(x * y) * TKS p w ts (PTV p (ts n) L) n k) (-(x * y) * (KFS p w ts (ts n) n * PTV p (ts n) (LNS w L n) k)))
      have d := (PmE.rf (p := p) (x := -(x * PTV p (ts n) (LNS w L n) k))).ml hy
      have e := (PmE.rf (p := p) (x := x * PTV p (ts n) (LNS w L n) k)).ad d
      rw [show x * PTV p (ts n) (LNS w L n) k + -(x * PTV p (ts n) (LNS w L n) k) * (y * KFS p w ts (ts n) n) = x * PTV p (ts n) (LNS w L n) k + -(x * y) * (KFS p w ts (ts n) n * PTV p (ts n) (LNS w L n) k) from by grind, show x * PTV p (ts n) (LNS w L n) k + -(x * PTV p (ts n) (LNS w L n) k) * 1 = 0 from by omega] at e
      exact (a.tr b).tr e)
    refine ⟨fun i => if i = n then x * y else cs i, fun k hk => ?_⟩
    have a := hcs k hk
    have b := a.ad (PmE.rf (x := x * y * PTV p (ts n) L k))
    rw [show r k + -(x * y) * PTV p (ts n) L k + x * y * PTV p (ts n) L k = r k from by grind] at b
    refine b.tr ?_
    show PmE p _ (SPS p L ts (fun i => if i = n then x * y else cs i) n k + (if n = n then x * y else cs n) * PTV p (ts n) L k)
    rw [if_pos rfl]
    exact (SPS.cg (p := p) (L := L) (ts := ts) (ts' := ts) (cs := cs) (cs' := fun i => if i = n then x * y else cs i) (k := k) n (fun i hi => ⟨rfl, by show PmE p (cs i) (if i = n then x * y else cs i); rw [if_neg (by omega)]; exact PmE.rf⟩)).ad PmE.rf
theorem TKS.nil {p L : Int} {w : Nat} {ts cs : Nat → Int} {n : Nat} {r : Nat → Int} (hw : n ≤ w) (h : ∀ k : Nat, (k : Int) < L → PmE p (r k) (SPS p L ts cs n k)) : ∀ k : Nat, (k : Int) < LNS w L n → PmE p (TKS p w ts r n k) 0 := fun k hk => by
  have a := TKS.sp (w := w) (m := n) n r h k hk
  rwa [SKS.z n (Nat.le_refl n) hw] at a
theorem LNS.e {w : Nat} {L : Int} : ∀ n : Nat, n ≤ w → LNS w L n = L - n
  | 0, _ => (Int.sub_zero L).symm
  | n + 1, h => by rw [LNS.o (by omega), LNS.e n (by omega)]; omega
theorem LNS.b {w : Nat} {L : Int} : ∀ n : Nat, w < n → LNS w L n = L - n + 1
  | 0, h => absurd h (Nat.not_lt_zero w)
  | n + 1, h => by
    by_cases c : n = w
    · rw [LNS.w c, LNS.e n (by omega)]; omega
    · rw [LNS.o c, LNS.b n (by omega)]; omega
/-- one of the points left away -/
def DEL (j : Nat) (f : Nat → Int) (i : Nat) : Int := if i < j then f i else f (i + 1)
theorem SPS.del {p L : Int} {ts cs : Nat → Int} {j k : Nat} : ∀ n : Nat, j ≤ n → SPS p L (DEL j ts) (DEL j cs) n k + cs j * PTV p (ts j) L k = SPS p L ts cs (n + 1) k
  | 0, h => by
    have e : j = 0 := by omega
    subst e; rfl
  | n + 1, h => by
    by_cases c : j = n + 1
    · subst c
      have e : ∀ m, m ≤ n + 1 → SPS p L (DEL (n + 1) ts) (DEL (n + 1) cs) m k = SPS p L ts cs m k := fun m => by
        induction m with
        | zero => intro _; rfl
        | succ m ih =>
          intro hm
          show SPS p L (DEL (n + 1) ts) (DEL (n + 1) cs) m k + DEL (n + 1) cs m * PTV p (DEL (n + 1) ts m) L k = SPS p L ts cs m k + cs m * PTV p (ts m) L k
          unfold DEL at ih ⊢
          rw [if_pos (by omega), if_pos (by omega), ih (by omega)]
      rw [e (n + 1) (Nat.le_refl _)]; rfl
    · have ih := SPS.del (p := p) (L := L) (ts := ts) (cs := cs) (j := j) (k := k) n (by omega)
      show SPS p L (DEL j ts) (DEL j cs) n k + DEL j cs n * PTV p (DEL j ts n) L k + cs j * PTV p (ts j) L k = SPS p L ts cs (n + 1) k + cs (n + 1) * PTV p (ts (n + 1)) L k
      rw [← ih]
      have e1 : DEL j cs n = cs (n + 1) := by unfold DEL; rw [if_neg (by omega)]
      have e2 : DEL j ts n = ts (n + 1) := by unfold DEL; rw [if_neg (by omega)]
      rw [e1, e2]; omega
theorem RIS.del {p : Int} {n j : Nat} {ts : Nat → Int} (h : RIS p (n + 1) ts) (hj : j ≤ n) : RIS p n (DEL j ts) := by
  refine ⟨fun i hi => ?_, fun i hi => ?_⟩
  · unfold DEL
    by_cases c : i < j
    · rw [if_pos c]; exact h.1 i (by omega)
    · rw [if_neg c]; exact h.1 (i + 1) (by omega)
  · unfold DEL
    by_cases c : i + 1 < j
    · rw [if_pos (by omega), if_pos c]; exact h.2 i (by omega)
    · by_cases d : i < j
      · rw [if_pos d, if_neg c]; exact h.lt (i + 1 + 1) (by omega) (by omega)
      · rw [if_neg d, if_neg c]; exact h.2 (i + 1) (by omega)
/-- a form is a sum of the powers of these points, with these numbers; none of them 0 -/
def SPF (p D : Int) (B F : Nat → Int) (n : Nat) (ts cs : Nat → Int) : Prop := ∀ k : Nat, (k : Int) ≤ D → PmE p (F k) (B k * SPS p (D + 1) ts cs n k)
def NZS (p : Int) (n : Nat) (cs : Nat → Int) : Prop := ∀ i, i < n → 0 < cs i ∧ cs i < p
def EXN (p D : Int) (B F : Nat → Int) (n : Nat) : Prop := ∃ ts cs, RIS p n ts ∧ NZS p n cs ∧ SPF p D B F n ts cs
theorem SPF.cs {p D : Int} {B F : Nat → Int} {n : Nat} {ts cs cs' : Nat → Int} (h : SPF p D B F n ts cs) (e : ∀ i, i < n → PmE p (cs i) (cs' i)) : SPF p D B F n ts cs' := fun k hk => (h k hk).tr (PmE.rf.ml (SPS.cg n (fun i hi => ⟨rfl, e i hi⟩)))
theorem SPF.del {p D : Int} {B F : Nat → Int} {n j : Nat} {ts cs : Nat → Int} (h : SPF p D B F (n + 1) ts cs) (hj : j ≤ n) (z : PmE p (cs j) 0) : SPF p D B F n (DEL j ts) (DEL j cs) := fun k hk => by
  have a := h k hk
  rw [← SPS.del n hj] at a
  refine a.tr (PmE.rf.ml ?_)
  have b := (PmE.rf (p := p) (x := SPS p (D + 1) (DEL j ts) (DEL j cs) n k)).ad (z.ml (PmE.rf (x := PTV p (ts j) (D + 1) k)))
  rwa [Int.zero_mul, Int.add_zero] at b
theorem EXN.dr {p D : Int} {B F : Nat → Int} (hp : 0 < p) : ∀ (n : Nat) (ts cs : Nat → Int), RIS p n ts → SPF p D B F n ts cs → ∃ m, m ≤ n ∧ EXN p D B F m
  | 0, ts, cs, hr, h => ⟨0, Nat.le_refl 0, ts, cs, hr, fun i hi => absurd hi (Nat.not_lt_zero i), h⟩
  | n + 1, ts, cs, hr, h => by
    by_cases c : ∃ j, j ≤ n ∧ PmE p (cs j) 0
    · obtain ⟨j, hj, z⟩ := c
      obtain ⟨m, hm, e⟩ := EXN.dr hp n _ _ (hr.del hj) (h.del hj z)
      exact ⟨m, by omega, e⟩
    · refine ⟨n + 1, Nat.le_refl _, ts, fun i => cs i % p, hr, fun i hi => ?_, h.cs (fun i _ => (PmE.em _).sy)⟩
      have a := Int.emod_nonneg (cs i) (show p ≠ 0 by omega)
      have b := Int.emod_lt_of_pos (cs i) hp
      have d : cs i % p ≠ 0 := fun z => c ⟨i, by omega, by show cs i % p = 0 % p; rw [z, Int.zero_emod]⟩
      show 0 < cs i % p ∧ cs i % p < p
      omega
/-- at the least count no number is 0 -/
theorem SPF.nz {p D : Int} {B F : Nat → Int} {n : Nat} {ts cs : Nat → Int} (hp : 0 < p) (hr : RIS p n ts) (h : SPF p D B F n ts cs) (no : ∀ m, m < n → ¬ EXN p D B F m) (hb : ∀ i, i < n → 0 ≤ cs i ∧ cs i < p) : NZS p n cs := fun i hi => by
  have b := hb i hi
  refine ⟨?_, b.2⟩
  rcases Int.lt_or_le 0 (cs i) with c | c
  · exact c
  · exfalso
    obtain ⟨m, rfl⟩ : ∃ m, n = m + 1 := ⟨n - 1, by omega⟩
    obtain ⟨m', hm, e⟩ := EXN.dr hp m _ _ (hr.del (j := i) (by omega)) (h.del (by omega) (by rw [show cs i = 0 from by omega]; exact PmE.rf))
    exact no m' (by omega) e
/-- the order of the choices of points -/
def CDN (ts : Nat → Int) : Nat → Int
  | 0 => 0
  | n + 1 => CDN ts n * 20 + ts n
/-- powers' answer -/
def PWA (x : Int) (n : Nat) (ts cs : Nat → Int) (k : Int) : Prop := (k = -1 → x = n) ∧ (0 ≤ k → k < n → x = ts k.toNat) ∧ (10 ≤ k → k < 10 + n → x = cs (k - 10).toNat) ∧ (k ≠ -1 → ¬ (0 ≤ k ∧ k < n) → ¬ (10 ≤ k ∧ k < 10 + n) → x = -1)
def PWL (p D : Int) (B F : Nat → Int) (n : Nat) (ts cs : Nat → Int) : Prop := RIS p n ts ∧ NZS p n cs ∧ SPF p D B F n ts cs ∧ ∀ ts' cs', RIS p n ts' → NZS p n cs' → SPF p D B F n ts' cs' → CDN ts n ≤ CDN ts' n
def PWX (x p D : Int) (B F : Nat → Int) (k : Int) : Prop := ∃ n : Nat, (∀ m, m < n → m ≤ 3 → ¬ EXN p D B F m) ∧ ((n = 4 ∧ x = -1) ∨ (n ≤ 3 ∧ ∃ ts cs, PWL p D B F n ts cs ∧ PWA x n ts cs k))
theorem SPF.sh {p D : Int} {B F S : Nat → Int} {n : Nat} {ts cs : Nat → Int} (hS : ∀ k : Nat, (k : Int) ≤ D → PmE p (F k) (B k * S k) ∧ UNT p (B k)) (h : SPF p D B F n ts cs) : ∀ k : Nat, (k : Int) < D + 1 → PmE p (S k) (SPS p (D + 1) ts cs n k) := fun k hk => by
  obtain ⟨e, y, hy⟩ := hS k (by omega)
  have a := (PmE.rf (x := y)).ml (e.sy.tr (h k (by omega)))
  rw [← Int.mul_assoc, ← Int.mul_assoc] at a
  have b := hy.ml (PmE.rf (x := S k))
  have c := hy.ml (PmE.rf (x := SPS p (D + 1) ts cs n k))
  rw [Int.one_mul] at b c
  exact (b.sy.tr a).tr c
theorem SPF.hs {p D : Int} {B F S : Nat → Int} {n : Nat} {ts cs : Nat → Int} (hS : ∀ k : Nat, (k : Int) ≤ D → PmE p (F k) (B k * S k) ∧ UNT p (B k)) (h : ∀ k : Nat, (k : Int) < D + 1 → PmE p (S k) (SPS p (D + 1) ts cs n k)) : SPF p D B F n ts cs := fun k hk => (hS k hk).1.tr (PmE.rf.ml (h k (by omega)))
/-- the shares -/
def SHA (p D : Int) (B F S : Nat → Int) : Prop := ∀ k : Nat, (k : Int) ≤ D → PmE p (F k) (B k * S k) ∧ UNT p (B k)
/-- as many points as there are numbers make any form -/
theorem EXN.al {p D : Int} {B F S : Nat → Int} (hp : PRM p) (hS : SHA p D B F S) {n : Nat} (hn : (n : Int) = D + 1) (h3 : n ≤ 3) : ∃ m, m ≤ n ∧ EXN p D B F m := by
  have p0 : 11 ≤ p := by unfold PRM at hp; omega
  have hr : RIS p n (fun i => (i : Int)) := ⟨fun i hi => by show 0 ≤ (i : Int) ∧ (i : Int) ≤ p; omega, fun i _ => by show (i : Int) < ((i + 1 : Nat) : Int); omega⟩
  obtain ⟨cs, h⟩ := TKS.span (L := D + 1) (w := 9) hp n S (by omega) hr (fun k hk => by
    rw [LNS.e n (by omega)] at hk; omega)
  exact EXN.dr (by omega) n _ cs hr (SPF.hs hS h)
/-- the least count's numbers are the only ones -/
theorem SPF.u {p D : Int} {B F S : Nat → Int} {n : Nat} {ts cs cs' : Nat → Int} (hp : PRM p) (hS : SHA p D B F S) (hr : RIS p n ts) (hD : (n : Int) ≤ D + 1) (h : SPF p D B F n ts cs) (g : SPF p D B F n ts cs') : ∀ i, i < n → PmE p (cs i) (cs' i) := fun i hi => by
  have L1 : LNS i (D + 1) n = D + 1 - n + 1 := LNS.b n hi
  have u := KFS.u (w := i) hp hr hi n (Nat.le_refl n) (fun j _ q => q)
  obtain ⟨k0, k1, k2⟩ : ∃ k0 : Nat, (k0 : Int) < LNS i (D + 1) n ∧ PTV p (ts i) (LNS i (D + 1) n) k0 = 1 := by
    by_cases c : ts i = p
    · refine ⟨(D + 1 - n).toNat, by omega, ?_⟩
      unfold PTV; rw [if_pos c, if_pos (by omega)]
    · refine ⟨0, by omega, ?_⟩
      unfold PTV; rw [if_neg c]; exact Int.pow_zero _
  have a := TKS.sp (w := i) (m := n) n S (h.sh hS) k0 k1
  have b := TKS.sp (w := i) (m := n) n S (g.sh hS) k0 k1
  rw [SKS.on n (Nat.le_refl n) hi, k2, Int.mul_one] at a b
  have c := a.sy.tr b
  obtain ⟨y, hy⟩ := u
  have d := (PmE.rf (x := y)).ml c
  have e1 := (PmE.rf (x := cs i)).ml hy
  have e2 := (PmE.rf (x := cs' i)).ml hy
  rw [Int.mul_one] at e1 e2
  rw [show y * (cs i * KFS p i ts (ts i) n) = cs i * (y * KFS p i ts (ts i) n) from by grind, show y * (cs' i * KFS p i ts (ts i) n) = cs' i * (y * KFS p i ts (ts i) n) from by grind] at d
  exact (e1.sy.tr d).tr e2
theorem CDN.u {p : Int} {n : Nat} {ts ts' : Nat → Int} (hp : p ≤ 19) (h : RIS p n ts) (g : RIS p n ts') (h3 : n ≤ 3) (e : CDN ts n = CDN ts' n) : ∀ i, i < n → ts i = ts' i := by
  have b := fun i (hi : i < n) => (⟨h.1 i hi, g.1 i hi⟩ : (0 ≤ ts i ∧ ts i ≤ p) ∧ 0 ≤ ts' i ∧ ts' i ≤ p)
  rcases (show n = 0 ∨ n = 1 ∨ n = 2 ∨ n = 3 by omega) with c | c | c | c <;> subst c
  · intro i hi; omega
  · have e : (0 : Int) * 20 + ts 0 = 0 * 20 + ts' 0 := e
    intro i hi
    have z : i = 0 := by omega
    subst z; omega
  · have e : ((0 : Int) * 20 + ts 0) * 20 + ts 1 = (0 * 20 + ts' 0) * 20 + ts' 1 := e
    have b0 := b 0 (by omega)
    have b1 := b 1 (by omega)
    intro i hi
    rcases (show i = 0 ∨ i = 1 by omega) with z | z <;> subst z <;> omega
  · have e : (((0 : Int) * 20 + ts 0) * 20 + ts 1) * 20 + ts 2 = ((0 * 20 + ts' 0) * 20 + ts' 1) * 20 + ts' 2 := e
    have b0 := b 0 (by omega)
    have b1 := b 1 (by omega)
    have b2 := b 2 (by omega)
    intro i hi
    rcases (show i = 0 ∨ i = 1 ∨ i = 2 by omega) with z | z | z <;> subst z <;> omega
theorem EXN.cg {p D : Int} {B F F' : Nat → Int} {n : Nat} (h : EXN p D B F n) (e : ∀ k : Nat, (k : Int) ≤ D → F k = F' k) : EXN p D B F' n := by
  obtain ⟨ts, cs, h1, h2, h3⟩ := h
  exact ⟨ts, cs, h1, h2, fun k hk => by rw [← e k hk]; exact h3 k hk⟩
theorem PWA.u {x y : Int} {n : Nat} {ts ts' cs cs' : Nat → Int} {k : Int} (h : PWA x n ts cs k) (g : PWA y n ts' cs' k) (et : ∀ i, i < n → ts i = ts' i) (ec : ∀ i, i < n → cs i = cs' i) : x = y := by
  obtain ⟨h1, h2, h3, h4⟩ := h
  obtain ⟨g1, g2, g3, g4⟩ := g
  by_cases a : k = -1
  · rw [h1 a, g1 a]
  · by_cases b : 0 ≤ k ∧ k < n
    · rw [h2 b.1 b.2, g2 b.1 b.2, et _ (by omega)]
    · by_cases c : 10 ≤ k ∧ k < 10 + n
      · rw [h3 c.1 c.2, g3 c.1 c.2, ec _ (by omega)]
      · rw [h4 a b c, g4 a b c]
theorem PWX.u {x y p D : Int} {B F F' S : Nat → Int} {k : Int} (h : PWX x p D B F k) (g : PWX y p D B F' k) (hp : PRM p) (hD : 1 ≤ D) (hS : SHA p D B F S) (e : ∀ k : Nat, (k : Int) ≤ D → F k = F' k) : x = y := by
  have p0 : 11 ≤ p ∧ p ≤ 19 := by unfold PRM at hp; omega
  obtain ⟨n, h1, h2⟩ := h
  obtain ⟨m, g1, g2⟩ := g
  have g1 : ∀ j, j < m → j ≤ 3 → ¬ EXN p D B F j := fun j hj h3 q => g1 j hj h3 (q.cg e)
  have hE : n ≤ 3 → EXN p D B F n := fun q => by
    rcases h2 with ⟨c, -⟩ | ⟨-, ts, cs, ⟨a1, a2, a3, -⟩, -⟩
    · omega
    · exact ⟨ts, cs, a1, a2, a3⟩
  have gE : m ≤ 3 → EXN p D B F m := fun q => by
    rcases g2 with ⟨c, -⟩ | ⟨-, ts, cs, ⟨a1, a2, a3, -⟩, -⟩
    · omega
    · exact EXN.cg ⟨ts, cs, a1, a2, a3⟩ (fun k hk => (e k hk).symm)
  have nm : n = m := by
    have bn : n ≤ 4 := by rcases h2 with ⟨c, -⟩ | ⟨c, -⟩ <;> omega
    have bm : m ≤ 4 := by rcases g2 with ⟨c, -⟩ | ⟨c, -⟩ <;> omega
    rcases Nat.lt_trichotomy n m with c | c | c
    · exact absurd (hE (by omega)) (g1 n c (by omega))
    · exact c
    · exact absurd (gE (by omega)) (h1 m c (by omega))
  subst nm
  rcases h2 with ⟨c, hx⟩ | ⟨h3, ts, cs, ⟨a1, a2, a3, a4⟩, ha⟩
  · rcases g2 with ⟨-, hy⟩ | ⟨c', -⟩
    · rw [hx, hy]
    · omega
  · rcases g2 with ⟨c, -⟩ | ⟨-, ts', cs', ⟨b1, b2, b3, b4⟩, hb⟩
    · omega
    · have b3 : SPF p D B F n ts' cs' := fun k hk => by rw [e k hk]; exact b3 k hk
      have c1 := a4 ts' cs' b1 b2 b3
      have c2 := b4 ts cs a1 a2 (fun k hk => by rw [← e k hk]; exact a3 k hk)
      have et := CDN.u p0.2 a1 b1 h3 (by omega)
      have hn : (n : Int) ≤ D + 1 := by
        rcases Int.lt_or_le (D + 1) n with q | q
        · exfalso
          obtain ⟨j, j1, j2⟩ := EXN.al hp hS (n := (D + 1).toNat) (by omega) (by omega)
          exact h1 j (by omega) (by omega) j2
        · exact q
      have b5 : SPF p D B F n ts cs' := fun k hk => (b3 k hk).tr (PmE.rf.ml (SPS.cg n (fun i hi => ⟨(et i hi).symm, PmE.rf⟩)))
      have ec := SPF.u hp hS a1 hn a3 b5
      exact ha.u hb et (fun i hi => (ec i hi).eq (by have := a2 i hi; omega) (a2 i hi).2 (by have := b2 i hi; omega) (b2 i hi).2)
/-- taking out, on the row itself -/
def TKL (J J0 : Nat → Int32) (p t k : Int) : Prop := (∀ j : Nat, (j : Int) < k → 0 ≤ (J j).toInt ∧ (J j).toInt < p ∧ PmE p (J j).toInt (TKO p t (fun i => (J0 i).toInt) j)) ∧ ∀ j : Nat, k ≤ (j : Int) → J j = J0 j
theorem TKL.z {J J0 : Nat → Int32} {p t k : Int} (h : J = J0) (hk : k = 0) : TKL J J0 p t k := ⟨fun j hj => by omega, fun j _ => by rw [h]⟩
theorem TKL.s {I1 I2 : IT} {b : Nat} {J0 : Nat → Int32} {p L : Int} {k k' k1 x y m s v t : Int32} {l : Int64} (h : TKL (I1 b) J0 p t.toInt k.toInt) (hput : I2 = u2 I1 b k.toNatClampNeg v) (hx : I1 b k1.toNatClampNeg = x) (hy : I1 b k.toNatClampNeg = y) (mm : IMX m t y) (ad : ADX s x m) (hl : l.toInt = s.toInt) (hv : v.toInt = l.toInt % p) (ek : k1.toInt = k.toInt + 1) (b0 : ∀ j : Nat, (j : Int) < L → 0 ≤ (J0 j).toInt ∧ (J0 j).toInt < p) (hL : k.toInt + 1 < L) (ht : t.toInt ≠ p) (hp : 0 < p ∧ p ≤ 19) (bt : 0 ≤ t.toInt ∧ t.toInt ≤ 19) (h0 : 0 ≤ k.toInt) (hk : k'.toInt = k.toInt + 1) : TKL (I2 b) J0 p t.toInt k'.toInt := by
  have k0 := ncz h0
  have k2 := ncz (x := k1) (by omega)
  have vx : x.toInt = (J0 (k.toNatClampNeg + 1)).toInt := by rw [← hx, show k1.toNatClampNeg = k.toNatClampNeg + 1 from by omega, h.2 _ (by omega)]
  have vy : y.toInt = (J0 k.toNatClampNeg).toInt := by rw [← hy, h.2 _ (by omega)]
  have bx := b0 (k.toNatClampNeg + 1) (by omega)
  have by9 := b0 k.toNatClampNeg (by omega)
  have b1 : t.toInt * y.toInt ≤ 19 * 18 := Int.mul_le_mul bt.2 (by omega) (by omega) (by decide)
  have b2 : 0 ≤ t.toInt * y.toInt := Int.mul_nonneg bt.1 (by omega)
  have em := mm (by omega) (by omega)
  have es := ad (by omega) (by omega)
  refine ⟨fun j hj => ?_, fun j hj => ?_⟩
  · by_cases q : j = k.toNatClampNeg
    · subst q
      rw [hput, u2_s, hv, hl]
      refine ⟨Int.emod_nonneg _ (by omega), Int.emod_lt_of_pos _ hp.1, (PmE.em _).tr ?_⟩
      unfold TKO
      rw [if_neg ht, es, em, vx, vy]; exact PmE.rf
    · rw [hput, u2_k q]; exact h.1 j (by omega)
  · rw [hput, u2_k (by omega)]; exact h.2 j (by omega)
theorem TKL.e {J J0 : Nat → Int32} {p t k L : Int} (h : TKL J J0 p t k) (b0 : ∀ j : Nat, (j : Int) < L → 0 ≤ (J0 j).toInt ∧ (J0 j).toInt < p) (c : t = p ∨ L - 1 ≤ k) : ∀ j : Nat, (j : Int) < L - 1 → 0 ≤ (J j).toInt ∧ (J j).toInt < p ∧ PmE p (J j).toInt (TKO p t (fun i => (J0 i).toInt) j) := fun j hj => by
  by_cases q : (j : Int) < k
  · exact h.1 j q
  · have e := h.2 j (by omega)
    have t9 : t = p := by omega
    rw [e]
    refine ⟨(b0 j (by omega)).1, (b0 j (by omega)).2, ?_⟩
    unfold TKO
    rw [if_pos t9]; exact PmE.rf
def BRL (J S : Nat → Int32) (k : Int) : Prop := ∀ j : Nat, (j : Int) < k → J j = S j
theorem BRL.z {J S : Nat → Int32} {k : Int} (h : k = 0) : BRL J S k := fun j hj => by omega
theorem BRL.s {I1 I2 : IT} {b s : Nat} {S : Nat → Int32} {k k' x : Int32} (h : BRL (I1 b) S k.toInt) (hput : I2 = u2 I1 b k.toNatClampNeg x) (hx : I1 s k.toNatClampNeg = x) (hs : I1 s = S) (h0 : 0 ≤ k.toInt) (hk : k'.toInt = k.toInt + 1) : BRL (I2 b) S k'.toInt := fun j hj => by
  have k0 := ncz h0
  by_cases q : j = k.toNatClampNeg
  · subst q; rw [hput, u2_s, ← hx, hs]
  · rw [hput, u2_k q]; exact h j (by omega)
theorem BRL.le {J S : Nat → Int32} {k k' : Int} (h : BRL J S k) (e : k' ≤ k) : BRL J S k' := fun j hj => h j (by omega)
/-- the row behind n of the points -/
def RWK (J : Nat → Int32) (p : Int) (w : Nat) (ts sh : Nat → Int) (L : Int) (n : Nat) : Prop := ∀ k : Nat, (k : Int) < LNS w L n → 0 ≤ (J k).toInt ∧ (J k).toInt < p ∧ PmE p (J k).toInt (TKS p w ts sh n k)
theorem RWK.z {J S : Nat → Int32} {p L : Int} {w n : Nat} {ts : Nat → Int} (h : BRL J S L) (b : ∀ j : Nat, (j : Int) < L → 0 ≤ (S j).toInt ∧ (S j).toInt < p) (hn : n = 0) : RWK J p w ts (fun j => (S j).toInt) L n := by
  subst hn
  intro k hk
  have hk : (k : Int) < L := hk
  rw [h k hk]
  exact ⟨(b k hk).1, (b k hk).2, PmE.rf⟩
theorem RWK.s {J J' : Nat → Int32} {p L M t : Int} {w n n' : Nat} {ts sh : Nat → Int} (h : RWK J p w ts sh L n) (q : ∀ j : Nat, (j : Int) < M - 1 → 0 ≤ (J' j).toInt ∧ (J' j).toInt < p ∧ PmE p (J' j).toInt (TKO p t (fun i => (J i).toInt) j)) (hM : M = LNS w L n) (ht : t = ts n) (hw : n ≠ w) (hn : n' = n + 1) : RWK J' p w ts sh L n' := by
  subst hn; subst hM; subst ht
  intro k hk
  rw [LNS.o hw] at hk
  obtain ⟨a, b, c⟩ := q k hk
  rw [TKS.o hw]
  exact ⟨a, b, c.tr (TKO.pe (fun i hi => (h i hi).2.2) hk)⟩
theorem RWK.w {J : Nat → Int32} {p L : Int} {w n n' : Nat} {ts sh : Nat → Int} (h : RWK J p w ts sh L n) (hw : n = w) (hn : n' = n + 1) : RWK J p w ts sh L n' := by
  subst hn
  intro k hk
  rw [LNS.w hw] at hk
  rw [TKS.w hw]; exact h k hk
theorem RWK.b {J : Nat → Int32} {p L M : Int} {w n : Nat} {ts sh : Nat → Int} (h : RWK J p w ts sh L n) (hM : M = LNS w L n) : ∀ j : Nat, (j : Int) < M → 0 ≤ (J j).toInt ∧ (J j).toInt < p := fun j hj => by
  subst hM; exact ⟨(h j hj).1, (h j hj).2.1⟩
/-- nothing is left -/
def ISQ (p D : Int) (sh ts : Nat → Int) (n : Nat) : Prop := ∀ k : Nat, (k : Int) < LNS 9 (D + 1) n → PmE p (TKS p 9 ts sh n k) 0
theorem ISQ.n {J : Nat → Int32} {p D M x : Int} {n m : Nat} {ts sh : Nat → Int} {k y : Int32} (h : RWK J p 9 ts sh (D + 1) n) (hM : M = LNS 9 (D + 1) n) (hy : J k.toNatClampNeg = y) (nz : y.toInt ≠ 0) (h0 : 0 ≤ k.toInt) (hk : k.toInt < M) (hx : x = 0) (hn : m = n) : IFF x (ISQ p D sh ts m) := by
  subst hn
  refine ⟨fun q => by omega, fun _ z => ?_⟩
  have k0 := ncz h0
  obtain ⟨a, b, c⟩ := h k.toNatClampNeg (by omega)
  rw [hy] at a b c
  exact nz ((c.tr (z k.toNatClampNeg (by omega))).eq a b (Int.le_refl 0) (by omega))
theorem ISQ.y {J : Nat → Int32} {p D M x k : Int} {n m : Nat} {ts sh : Nat → Int} (h : RWK J p 9 ts sh (D + 1) n) (hM : M = LNS 9 (D + 1) n) (z : ∀ j : Nat, (j : Int) < k → (J j).toInt = 0) (hk : M ≤ k) (hx : x = 1) (hn : m = n) : IFF x (ISQ p D sh ts m) := by
  subst hn
  refine ⟨fun _ j hj => ?_, fun q => by omega⟩
  have e := h j hj
  rw [z j (by omega)] at e
  exact e.2.2.sy
theorem ISQ.cg {p D : Int} {sh ts ts' : Nat → Int} {n : Nat} (h : ISQ p D sh ts n) (e : ∀ i, i < n → ts i = ts' i) : ISQ p D sh ts' n := by
  have a : ∀ m, m ≤ n → TKS p 9 ts sh m = TKS p 9 ts' sh m := fun m => by
    induction m with
    | zero => intro _; rfl
    | succ m ih =>
      intro hm
      by_cases c : m = 9
      · rw [TKS.w c, TKS.w c]; exact ih (by omega)
      · rw [TKS.o c, TKS.o c, ih (by omega), e m (by omega)]
  intro k hk
  rw [← a n (Nat.le_refl n)]; exact h k hk
theorem ISQ.of {p D : Int} {B F sh ts cs : Nat → Int} {n : Nat} (hS : SHA p D B F sh) (h : SPF p D B F n ts cs) (h9 : n ≤ 9) : ISQ p D sh ts n := TKS.nil h9 (h.sh hS)
theorem ISQ.sp {p D : Int} {B F sh ts : Nat → Int} {n : Nat} (hp : PRM p) (hS : SHA p D B F sh) (hr : RIS p n ts) (h : ISQ p D sh ts n) (h9 : n ≤ 9) : ∃ cs, SPF p D B F n ts cs := by
  obtain ⟨cs, q⟩ := TKS.span (L := D + 1) hp n sh h9 hr h
  exact ⟨cs, SPF.hs hS q⟩
/-- the next choice of points -/
def NXC (ts' ts : Nat → Int) (p : Int) (n : Nat) : Prop := ∃ k, k < n ∧ (∀ j, k < j → j < n → p - ((n : Int) - 1 - j) ≤ ts j) ∧ ts k < p - ((n : Int) - 1 - k) ∧ (∀ j, j < k → ts' j = ts j) ∧ ∀ j, k ≤ j → j < n → ts' j = ts k + 1 + ((j : Int) - k)
def LSC (ts : Nat → Int) (p : Int) (n : Nat) : Prop := ∀ j, j < n → p - ((n : Int) - 1 - j) ≤ ts j
def BBR (p : Nat) : Nat → Nat
  | 0 => 0
  | a + 1 => BBR p a + (p - a - 1)
def AAR (p : Nat) : Nat → Nat
  | 0 => 0
  | a + 1 => AAR p a + (BBR p (p - 1) - BBR p (a + 2) + p)
def RKN (p : Int) (ts : Nat → Int) (n : Nat) : Int := if n = 0 then 0 else if n = 1 then ts 0 else if n = 2 then (BBR p.toNat (ts 0).toNat : Int) + ts 1 else (AAR p.toNat (ts 0).toNat : Int) + (BBR p.toNat (ts 1).toNat : Int) + ts 2
theorem RKN.b {p : Int} {ts : Nat → Int} {n : Nat} (hp : PRM p) (h : RIS p n ts) (h3 : n ≤ 3) : 0 ≤ RKN p ts n ∧ RKN p ts n < 2000 := by
  have d : ∀ q ∈ ([11, 13, 17, 19] : List Nat), ∀ a : Nat, a < 20 → AAR q a ≤ 1700 ∧ BBR q a ≤ 200 := by decide +kernel
  have d := fun a (ha : a < 20) => d p.toNat (by
    have : p.toNat = 11 ∨ p.toNat = 13 ∨ p.toNat = 17 ∨ p.toNat = 19 := by unfold PRM at hp; omega
    rcases this with r | r | r | r <;> rw [r] <;> decide) a ha
  have p9 : 11 ≤ p ∧ p ≤ 19 := by unfold PRM at hp; omega
  rcases (show n = 0 ∨ n = 1 ∨ n = 2 ∨ n = 3 by omega) with c | c | c | c <;> subst c
  · show 0 ≤ (0 : Int) ∧ (0 : Int) < 2000; omega
  · have b := h.1 0 (by omega)
    show 0 ≤ ts 0 ∧ ts 0 < 2000; omega
  · have b := h.1 0 (by omega)
    have b1 := h.1 1 (by omega)
    have d0 := d (ts 0).toNat (by omega)
    show 0 ≤ (BBR p.toNat (ts 0).toNat : Int) + ts 1 ∧ (BBR p.toNat (ts 0).toNat : Int) + ts 1 < 2000; omega
  · have b := h.1 0 (by omega)
    have b1 := h.1 1 (by omega)
    have b2 := h.1 2 (by omega)
    have d0 := d (ts 0).toNat (by omega)
    have d1 := d (ts 1).toNat (by omega)
    show 0 ≤ (AAR p.toNat (ts 0).toNat : Int) + (BBR p.toNat (ts 1).toNat : Int) + ts 2 ∧ (AAR p.toNat (ts 0).toNat : Int) + (BBR p.toNat (ts 1).toNat : Int) + ts 2 < 2000; omega
theorem NXC.all {p : Int} {n : Nat} {ts ts' : Nat → Int} (hp : 11 ≤ p ∧ p ≤ 19) (hr : RIS p n ts) (h : NXC ts' ts p n) (h3 : n ≤ 3) : RIS p n ts' ∧ RKN p ts n + 1 ≤ RKN p ts' n ∧ CDN ts n < CDN ts' n ∧ ∀ u, RIS p n u → CDN u n ≤ CDN ts n ∨ CDN ts' n ≤ CDN u n := by
  obtain ⟨k, hk, h1, h2, h4, h5⟩ := h
  rcases (show n = 1 ∨ n = 2 ∨ n = 3 by omega) with c | c | c <;> subst c
  · have z : k = 0 := by omega
    subst z
    have e0 := h5 0 (by omega) (by omega)
    have b0 := hr.1 0 (by omega)
    refine ⟨⟨fun i hi => by have z : i = 0 := by omega
                            subst z; omega, fun i hi => by omega⟩, ?_, ?_, fun u hu => ?_⟩
    · show ts 0 + 1 ≤ ts' 0; omega
    · show (0 : Int) * 20 + ts 0 < 0 * 20 + ts' 0; omega
    · show (0 : Int) * 20 + u 0 ≤ 0 * 20 + ts 0 ∨ (0 : Int) * 20 + ts' 0 ≤ 0 * 20 + u 0; omega
  · have b0 := hr.1 0 (by omega)
    have b1 := hr.1 1 (by omega)
    have l0 : ts 0 < ts 1 := hr.2 0 (by omega)
    rcases (show k = 0 ∨ k = 1 by omega) with z | z <;> subst z
    · have m1 := h1 1 (by omega) (by omega)
      have e0 := h5 0 (by omega) (by omega)
      have e1 := h5 1 (by omega) (by omega)
      refine ⟨⟨fun i hi => by rcases (show i = 0 ∨ i = 1 by omega) with z | z <;> subst z <;> omega, fun i hi => by
        have z : i = 0 := by omega
        subst z; show ts' 0 < ts' 1; omega⟩, ?_, ?_, fun u hu => ?_⟩
      · show (BBR p.toNat (ts 0).toNat : Int) + ts 1 + 1 ≤ (BBR p.toNat (ts' 0).toNat : Int) + ts' 1
        have q : BBR p.toNat (ts' 0).toNat = BBR p.toNat (ts 0).toNat + (p.toNat - (ts 0).toNat - 1) := by rw [show (ts' 0).toNat = (ts 0).toNat + 1 from by omega]; rfl
        omega
      · show ((0 : Int) * 20 + ts 0) * 20 + ts 1 < (0 * 20 + ts' 0) * 20 + ts' 1; omega
      · have u0 := hu.1 0 (by omega)
        have u1 := hu.1 1 (by omega)
        have w0 : u 0 < u 1 := hu.2 0 (by omega)
        show ((0 : Int) * 20 + u 0) * 20 + u 1 ≤ (0 * 20 + ts 0) * 20 + ts 1 ∨ ((0 : Int) * 20 + ts' 0) * 20 + ts' 1 ≤ (0 * 20 + u 0) * 20 + u 1
        omega
    · have e0 := h4 0 (by omega)
      have e1 := h5 1 (by omega) (by omega)
      refine ⟨⟨fun i hi => by rcases (show i = 0 ∨ i = 1 by omega) with z | z <;> subst z <;> omega, fun i hi => by
        have z : i = 0 := by omega
        subst z; show ts' 0 < ts' 1; omega⟩, ?_, ?_, fun u hu => ?_⟩
      · show (BBR p.toNat (ts 0).toNat : Int) + ts 1 + 1 ≤ (BBR p.toNat (ts' 0).toNat : Int) + ts' 1
        rw [e0]; omega
      · show ((0 : Int) * 20 + ts 0) * 20 + ts 1 < (0 * 20 + ts' 0) * 20 + ts' 1; omega
      · show ((0 : Int) * 20 + u 0) * 20 + u 1 ≤ (0 * 20 + ts 0) * 20 + ts 1 ∨ ((0 : Int) * 20 + ts' 0) * 20 + ts' 1 ≤ (0 * 20 + u 0) * 20 + u 1
        omega
  · have b0 := hr.1 0 (by omega)
    have b1 := hr.1 1 (by omega)
    have b2 := hr.1 2 (by omega)
    have l0 := hr.2 0 (by omega)
    have l1 := hr.2 1 (by omega)
    have l0 : ts 0 < ts 1 := l0
    have l1 : ts 1 < ts 2 := l1
    rcases (show k = 0 ∨ k = 1 ∨ k = 2 by omega) with z | z | z <;> subst z
    · have m1 := h1 1 (by omega) (by omega)
      have m2 := h1 2 (by omega) (by omega)
      have e0 := h5 0 (by omega) (by omega)
      have e1 := h5 1 (by omega) (by omega)
      have e2 := h5 2 (by omega) (by omega)
      refine ⟨⟨fun i hi => by rcases (show i = 0 ∨ i = 1 ∨ i = 2 by omega) with z | z | z <;> subst z <;> omega, fun i hi => by
        rcases (show i = 0 ∨ i = 1 by omega) with z | z <;> subst z
        · show ts' 0 < ts' 1; omega
        · show ts' 1 < ts' 2; omega⟩, ?_, ?_, fun u hu => ?_⟩
      · show (AAR p.toNat (ts 0).toNat : Int) + (BBR p.toNat (ts 1).toNat : Int) + ts 2 + 1 ≤ (AAR p.toNat (ts' 0).toNat : Int) + (BBR p.toNat (ts' 1).toNat : Int) + ts' 2
        have q : AAR p.toNat (ts' 0).toNat = AAR p.toNat (ts 0).toNat + (BBR p.toNat (p.toNat - 1) - BBR p.toNat ((ts 0).toNat + 2) + p.toNat) := by rw [show (ts' 0).toNat = (ts 0).toNat + 1 from by omega]; rfl
        rw [q, show (ts' 1).toNat = (ts 0).toNat + 2 from by omega, show (ts 1).toNat = p.toNat - 1 from by omega]
        omega
      · show (((0 : Int) * 20 + ts 0) * 20 + ts 1) * 20 + ts 2 < ((0 * 20 + ts' 0) * 20 + ts' 1) * 20 + ts' 2; omega
      · have u0 := hu.1 0 (by omega)
        have u1 := hu.1 1 (by omega)
        have u2 := hu.1 2 (by omega)
        have w0 : u 0 < u 1 := hu.2 0 (by omega)
        have w1 : u 1 < u 2 := hu.2 1 (by omega)
        show (((0 : Int) * 20 + u 0) * 20 + u 1) * 20 + u 2 ≤ ((0 * 20 + ts 0) * 20 + ts 1) * 20 + ts 2 ∨ (((0 : Int) * 20 + ts' 0) * 20 + ts' 1) * 20 + ts' 2 ≤ ((0 * 20 + u 0) * 20 + u 1) * 20 + u 2
        omega
    · have m2 := h1 2 (by omega) (by omega)
      have e0 := h4 0 (by omega)
      have e1 := h5 1 (by omega) (by omega)
      have e2 := h5 2 (by omega) (by omega)
      refine ⟨⟨fun i hi => by rcases (show i = 0 ∨ i = 1 ∨ i = 2 by omega) with z | z | z <;> subst z <;> omega, fun i hi => by
        rcases (show i = 0 ∨ i = 1 by omega) with z | z <;> subst z
        · show ts' 0 < ts' 1; omega
        · show ts' 1 < ts' 2; omega⟩, ?_, ?_, fun u hu => ?_⟩
      · show (AAR p.toNat (ts 0).toNat : Int) + (BBR p.toNat (ts 1).toNat : Int) + ts 2 + 1 ≤ (AAR p.toNat (ts' 0).toNat : Int) + (BBR p.toNat (ts' 1).toNat : Int) + ts' 2
        have q : BBR p.toNat (ts' 1).toNat = BBR p.toNat (ts 1).toNat + (p.toNat - (ts 1).toNat - 1) := by rw [show (ts' 1).toNat = (ts 1).toNat + 1 from by omega]; rfl
        rw [e0]; omega
      · show (((0 : Int) * 20 + ts 0) * 20 + ts 1) * 20 + ts 2 < ((0 * 20 + ts' 0) * 20 + ts' 1) * 20 + ts' 2; omega
      · have u0 := hu.1 0 (by omega)
        have u1 := hu.1 1 (by omega)
        have u2 := hu.1 2 (by omega)
        have w0 : u 0 < u 1 := hu.2 0 (by omega)
        have w1 : u 1 < u 2 := hu.2 1 (by omega)
        show (((0 : Int) * 20 + u 0) * 20 + u 1) * 20 + u 2 ≤ ((0 * 20 + ts 0) * 20 + ts 1) * 20 + ts 2 ∨ (((0 : Int) * 20 + ts' 0) * 20 + ts' 1) * 20 + ts' 2 ≤ ((0 * 20 + u 0) * 20 + u 1) * 20 + u 2
        omega
    · have e0 := h4 0 (by omega)
      have e1 := h4 1 (by omega)
      have e2 := h5 2 (by omega) (by omega)
      refine ⟨⟨fun i hi => by rcases (show i = 0 ∨ i = 1 ∨ i = 2 by omega) with z | z | z <;> subst z <;> omega, fun i hi => by
        rcases (show i = 0 ∨ i = 1 by omega) with z | z <;> subst z
        · show ts' 0 < ts' 1; omega
        · show ts' 1 < ts' 2; omega⟩, ?_, ?_, fun u hu => ?_⟩
      · show (AAR p.toNat (ts 0).toNat : Int) + (BBR p.toNat (ts 1).toNat : Int) + ts 2 + 1 ≤ (AAR p.toNat (ts' 0).toNat : Int) + (BBR p.toNat (ts' 1).toNat : Int) + ts' 2
        rw [e0, e1]; omega
      · show (((0 : Int) * 20 + ts 0) * 20 + ts 1) * 20 + ts 2 < ((0 * 20 + ts' 0) * 20 + ts' 1) * 20 + ts' 2; omega
      · show (((0 : Int) * 20 + u 0) * 20 + u 1) * 20 + u 2 ≤ ((0 * 20 + ts 0) * 20 + ts 1) * 20 + ts 2 ∨ (((0 : Int) * 20 + ts' 0) * 20 + ts' 1) * 20 + ts' 2 ≤ ((0 * 20 + u 0) * 20 + u 1) * 20 + u 2
        omega
theorem LSC.all {p : Int} {n : Nat} {ts : Nat → Int} (hr : RIS p n ts) (h : LSC ts p n) (h3 : n ≤ 3) : ∀ u, RIS p n u → CDN u n ≤ CDN ts n := fun u hu => by
  rcases (show n = 0 ∨ n = 1 ∨ n = 2 ∨ n = 3 by omega) with c | c | c | c <;> subst c
  · exact Int.le_refl _
  · have m0 := h 0 (by omega)
    have u0 := hu.1 0 (by omega)
    show (0 : Int) * 20 + u 0 ≤ 0 * 20 + ts 0; omega
  · have m0 := h 0 (by omega)
    have m1 := h 1 (by omega)
    have u0 := hu.1 0 (by omega)
    have u1 := hu.1 1 (by omega)
    have w0 : u 0 < u 1 := hu.2 0 (by omega)
    show ((0 : Int) * 20 + u 0) * 20 + u 1 ≤ (0 * 20 + ts 0) * 20 + ts 1; omega
  · have m0 := h 0 (by omega)
    have m1 := h 1 (by omega)
    have m2 := h 2 (by omega)
    have u0 := hu.1 0 (by omega)
    have u1 := hu.1 1 (by omega)
    have u2 := hu.1 2 (by omega)
    have w0 : u 0 < u 1 := hu.2 0 (by omega)
    have w1 : u 1 < u 2 := hu.2 1 (by omega)
    show (((0 : Int) * 20 + u 0) * 20 + u 1) * 20 + u 2 ≤ ((0 * 20 + ts 0) * 20 + ts 1) * 20 + ts 2; omega
/-- the first choice -/
theorem RIS.in0 {p : Int} {n : Nat} {ts : Nat → Int} (hp : 11 ≤ p) (h : ∀ j : Nat, j < n → ts j = j) (h3 : n ≤ 3) : RIS p n ts ∧ ∀ u, RIS p n u → CDN ts n ≤ CDN u n := by
  refine ⟨⟨fun i hi => by rw [h i hi]; omega, fun i hi => by rw [h i (by omega), h (i + 1) hi]; omega⟩, fun u hu => ?_⟩
  rcases (show n = 0 ∨ n = 1 ∨ n = 2 ∨ n = 3 by omega) with c | c | c | c <;> subst c
  · exact Int.le_refl _
  · have m0 := h 0 (by omega)
    have u0 := hu.1 0 (by omega)
    show (0 : Int) * 20 + ts 0 ≤ 0 * 20 + u 0; omega
  · have m0 := h 0 (by omega)
    have m1 := h 1 (by omega)
    have u0 := hu.1 0 (by omega)
    have w0 : u 0 < u 1 := hu.2 0 (by omega)
    show ((0 : Int) * 20 + ts 0) * 20 + ts 1 ≤ (0 * 20 + u 0) * 20 + u 1; omega
  · have m0 := h 0 (by omega)
    have m1 := h 1 (by omega)
    have m2 := h 2 (by omega)
    have u0 := hu.1 0 (by omega)
    have w0 : u 0 < u 1 := hu.2 0 (by omega)
    have w1 : u 1 < u 2 := hu.2 1 (by omega)
    show (((0 : Int) * 20 + ts 0) * 20 + ts 1) * 20 + ts 2 ≤ ((0 * 20 + u 0) * 20 + u 1) * 20 + u 2; omega
/-- divided by any number that isn't 0 modulo p -/
def INC7 (x n p : Int) : Prop := (0 ≤ x ∧ x < p) ∧ (¬ PmE p n 0 → PmE p (x * n) 1)
theorem INC7.of {x n p k : Int} (hp : PRM p) (h : PmE p x (POW n k.toNat)) (hk : k = p - 2) (b : 0 ≤ x ∧ x < p) : INC7 x n p := ⟨b, fun hn => by
  have p0 : 11 ≤ p := by unfold PRM at hp; omega
  have q := INC.of hp (h.tr (POW.e (PmE.em n).sy _)) hk b
  have m0 := Int.emod_nonneg n (show p ≠ 0 by omega)
  have m1 := Int.emod_lt_of_pos n (show 0 < p by omega)
  have e := q.2 m0 m1 (fun z => hn (by show n % p = 0 % p; rw [z, Int.zero_emod]))
  have a : PmE p (n % p * x) 1 := by
    show _ % p = 1 % p
    rw [e, Int.emod_eq_of_lt (by decide) (by omega)]
  have c := ((PmE.em (p := p) n).sy.ml (PmE.rf (x := x))).tr a
  rwa [Int.mul_comm] at c⟩
theorem BNI.nz {p D : Int} {k : Nat} (hp : PRM p) (h0 : 0 ≤ D) (h8 : D ≤ 8) (hk : (k : Int) ≤ D) : ¬ PmE p (BNI D k) 0 := by
  have d : ∀ q ∈ ([11, 13, 17, 19] : List Int), ∀ a : Nat, a < 9 → ∀ b : Nat, b < 9 → b ≤ a → BNI a b % q ≠ 0 := by decide
  intro z
  have z : BNI D k % p = 0 % p := z
  rw [Int.zero_emod] at z
  have e := d p (by unfold PRM at hp; rcases hp with r | r | r | r <;> rw [r] <;> decide) D.toNat (by omega) k (by omega) (by omega)
  rw [show ((D.toNat : Nat) : Int) = D from by omega] at e
  exact e z
theorem BNI.st {D : Int} {b b' d w k k' n : Int32} (h : b.toInt = BNI D k.toNatClampNeg) (mm : IMX w b d) (dv : IDX b' w n) (ed : d.toInt = D - k.toInt) (en : n.toInt = k.toInt + 1) (h0 : 0 ≤ k.toInt) (hD : 0 ≤ D ∧ D ≤ 8) (hk : k.toInt ≤ D) (hk' : k'.toInt = k.toInt + 1) : b'.toInt = BNI D k'.toNatClampNeg := by
  have k0 := ncz h0
  have kp := ncz (x := k') (by omega)
  have bb := BNI.b (k := D) (i := k.toNatClampNeg) hD.1 hD.2 (by omega)
  have b1 : b.toInt * d.toInt ≤ 70 * 8 := Int.mul_le_mul (by omega) (by omega) (by omega) (by decide)
  have b0 : 0 ≤ b.toInt * d.toInt := Int.mul_nonneg (by omega) (by omega)
  have em := mm (by omega) (by omega)
  have e := dv (by omega) (by omega)
  rw [e, em, h, ed, en, show k'.toNatClampNeg = k.toNatClampNeg + 1 from by omega]
  show BNI D k.toNatClampNeg * (D - k.toInt) / (k.toInt + 1) = BNI D k.toNatClampNeg * (D - (k.toNatClampNeg : Int)) / ((k.toNatClampNeg : Int) + 1)
  rw [k0]
/-- the shares so far -/
def SHL (S : Nat → Int32) (F : Nat → Int) (p D k : Int) : Prop := ∀ j : Nat, (j : Int) < k → 0 ≤ (S j).toInt ∧ (S j).toInt < p ∧ PmE p (F j) (BNI D j * (S j).toInt)
theorem SHL.z {S : Nat → Int32} {F : Nat → Int} {p D k : Int} (h : k = 0) : SHL S F p D k := fun j hj => by omega
theorem SHL.s {I1 I2 : IT} {s : Nat} {F : Nat → Int} {p D E : Int} {k k' a o w v b : Int32} {l : Int64} (h : SHL (I1 s) F p D k.toInt) (hput : I2 = u2 I1 s k.toNatClampNeg v) (ga : GTD a.toInt E F k.toInt) (hE : k.toInt ≤ E) (ho : INC7 o.toInt b.toInt p) (hb : b.toInt = BNI D k.toNatClampNeg) (nz : ¬ PmE p (BNI D k.toNatClampNeg) 0) (mm : IMX w a o) (hl : l.toInt = w.toInt) (hv : v.toInt = l.toInt % p) (bF : ∀ j : Nat, (j : Int) ≤ E → 0 ≤ F j ∧ F j < p) (hp : 0 < p ∧ p ≤ 19) (h0 : 0 ≤ k.toInt) (hk : k'.toInt = k.toInt + 1) : SHL (I2 s) F p D k'.toInt := fun j hj => by
  have k0 := ncz h0
  by_cases q : j = k.toNatClampNeg
  · subst q
    have va : a.toInt = F k.toNatClampNeg := ga.i h0 hE
    have ba := bF k.toNatClampNeg (by omega)
    have bo := ho.1
    have em := IMX.s9 mm (by omega) (by omega)
    have c := ho.2 (by rw [hb]; exact nz)
    rw [hb] at c
    rw [hput, u2_s, hv, hl, em, va]
    refine ⟨Int.emod_nonneg _ (by omega), Int.emod_lt_of_pos _ hp.1, ?_⟩
    have d := (PmE.rf (p := p) (x := F k.toNatClampNeg)).ml c
    have e := (PmE.rf (p := p) (x := BNI D k.toNatClampNeg)).ml (PmE.em (p := p) (F k.toNatClampNeg * o.toInt))
    rw [show BNI D k.toNatClampNeg * (F k.toNatClampNeg * o.toInt) = F k.toNatClampNeg * (o.toInt * BNI D k.toNatClampNeg) from by grind] at e
    have g := (e.tr d).sy
    rwa [Int.mul_one] at g
  · rw [hput, u2_k q]; exact h j (by omega)
theorem SHL.e {S : Nat → Int32} {F : Nat → Int} {p D k : Int} (h : SHL S F p D k) (hk : D < k) : SHL S F p D (D + 1) := fun j hj => h j (by omega)
theorem SHL.sha {S : Nat → Int32} {F : Nat → Int} {p D : Int} (h : SHL S F p D (D + 1)) (hp : PRM p) (h0 : 0 ≤ D) (h8 : D ≤ 8) : SHA p D (BNI D) F (fun j => (S j).toInt) := fun k hk => ⟨(h k (by omega)).2.2, UNT.of hp (BNI.nz hp h0 h8 hk)⟩
theorem SHL.b {S : Nat → Int32} {F : Nat → Int} {p D : Int} (h : SHL S F p D (D + 1)) : ∀ j : Nat, (j : Int) < D + 1 → 0 ≤ (S j).toInt ∧ (S j).toInt < p := fun j hj => ⟨(h j hj).1, (h j hj).2.1⟩
/-- a number told: the only one -/
def NMQ (x p D : Int) (sh ts : Nat → Int) (n w : Nat) : Prop := (0 ≤ x ∧ x < p) ∧ ∀ cs : Nat → Int, (∀ k : Nat, (k : Int) < D + 1 → PmE p (sh k) (SPS p (D + 1) ts cs n k)) → PmE p x (cs w)
theorem KFS.o1 {p s : Int} {w : Nat} {ts : Nat → Int} (hs : s = p) : ∀ n : Nat, (∀ j, j < n → j ≠ w → ts j ≠ p) → KFS p w ts s n = 1
  | 0, _ => rfl
  | n + 1, h => by
    by_cases c : n = w
    · rw [KFS.w c]; exact KFS.o1 hs n (fun j hj => h j (by omega))
    · rw [KFS.o c, KFS.o1 hs n (fun j hj => h j (by omega))]
      unfold FAC
      rw [if_neg (h n (by omega) c), if_pos hs]; rfl
theorem NMQ.p {J : Nat → Int32} {p D M x : Int} {sh ts : Nat → Int} {n w j : Nat} (h : RWK J p w ts sh (D + 1) n) (hw : w < n) (hM : M = LNS w (D + 1) n) (hj : (j : Int) = M - 1) (hx : x = (J j).toInt) (ht : ts w = p) (hr : RIS p n ts) : NMQ x p D sh ts n w := by
  have e := h j (by omega)
  subst hx
  refine ⟨⟨e.1, e.2.1⟩, fun cs hc => ?_⟩
  have a := TKS.sp (w := w) (m := n) n sh hc j (by omega)
  have k1 : KFS p w ts (ts w) n = 1 := KFS.o1 ht n (fun i hi q => by
    have z := hr.ne (show i < n from hi) hw q
    rw [ht] at z; exact z)
  have p1 : PTV p (ts w) (LNS w (D + 1) n) j = 1 := by unfold PTV; rw [if_pos ht, if_pos (by omega)]
  rw [SKS.on n (Nat.le_refl n) hw, k1, p1, Int.mul_one, Int.mul_one] at a
  exact e.2.2.tr a
theorem UNT.nz {p x : Int} (h : UNT p x) (hp : 1 < p) : ¬ PmE p x 0 := fun z => by
  obtain ⟨y, hy⟩ := h
  have a := ((PmE.rf (x := y)).ml z).sy.tr hy
  rw [Int.mul_zero] at a
  have a : (0 : Int) % p = 1 % p := a
  rw [Int.zero_emod, Int.emod_eq_of_lt (by decide) hp] at a
  exact absurd a (by decide)
theorem NMQ.q {J : Nat → Int32} {p D M x i o : Int} {sh ts : Nat → Int} {n w : Nat} (h : RWK J p w ts sh (D + 1) n) (hw : w < n) (hM : M = LNS w (D + 1) n) (h1 : 1 ≤ M) (hx : x = ((J 0).toInt * i) % p) (ht : ts w ≠ p) (hr : RIS p n ts) (hp : PRM p) (hi : INC7 i o p) (ho : PmE p o (KFS p w ts (ts w) n)) : NMQ x p D sh ts n w := by
  have p0 : 11 ≤ p := by unfold PRM at hp; omega
  have e := h 0 (by omega)
  subst hx
  refine ⟨⟨Int.emod_nonneg _ (by omega), Int.emod_lt_of_pos _ (by omega)⟩, fun cs hc => ?_⟩
  have a := TKS.sp (w := w) (m := n) n sh hc 0 (by omega)
  have p1 : PTV p (ts w) (LNS w (D + 1) n) 0 = 1 := by unfold PTV; rw [if_neg ht]; exact Int.pow_zero _
  rw [SKS.on n (Nat.le_refl n) hw, p1, Int.mul_one] at a
  have u := KFS.u (w := w) hp hr hw n (Nat.le_refl n) (fun j _ q => q)
  have nz : ¬ PmE p o 0 := fun z => u.nz (by omega) (ho.sy.tr z)
  have c := hi.2 nz
  have d := ((e.2.2.tr a).ml (PmE.rf (x := i)))
  have f := (PmE.rf (p := p) (x := cs w)).ml (((PmE.rf (x := i)).ml ho.sy).tr c)
  rw [Int.mul_one] at f
  rw [show cs w * KFS p w ts (ts w) n * i = cs w * (i * KFS p w ts (ts w) n) from by grind] at d
  exact (PmE.em _).tr (d.tr f)
/-- what to divide by, so far -/
def OVK (o p : Int) (w : Nat) (ts : Nat → Int) (n : Nat) : Prop := ts w ≠ p → PmE p o (KFS p w ts (ts w) n)
theorem OVK.z {o p : Int} {w n : Nat} {ts : Nat → Int} (h : o = 1) (hn : n = 0) : OVK o p w ts n := fun _ => by subst h; subst hn; exact PmE.rf
theorem OVK.w {o p : Int} {w n n' : Nat} {ts : Nat → Int} (h : OVK o p w ts n) (hw : n = w) (hn : n' = n + 1) : OVK o p w ts n' := fun q => by subst hn; rw [KFS.w hw]; exact h q
theorem OVK.p {o p : Int} {w n n' : Nat} {ts : Nat → Int} (h : OVK o p w ts n) (hw : n ≠ w) (e : ts n = p) (hn : n' = n + 1) : OVK o p w ts n' := fun q => by
  subst hn
  rw [KFS.o hw]
  have f : FAC p (ts n) (ts w) = 1 := by unfold FAC; rw [if_pos e, if_neg q]
  rw [f, Int.one_mul]; exact h q
theorem OVK.s {o o' p m : Int} {w n n' : Nat} {ts : Nat → Int} (h : OVK o p w ts n) (hw : n ≠ w) (e : ts n ≠ p) (ho : o' = m % p) (hm : m = o * (ts n - ts w)) (hn : n' = n + 1) : OVK o' p w ts n' := fun q => by
  subst hn
  rw [KFS.o hw, ho, hm]
  have f : FAC p (ts n) (ts w) = ts n - ts w := by unfold FAC; rw [if_neg e, if_neg q]
  rw [f, Int.mul_comm (ts n - ts w)]
  exact (PmE.em _).tr ((h q).ml PmE.rf)
/-- a search among the choices of n points -/
def NOP (p D : Int) (sh : Nat → Int) (m : Nat) : Prop := ∀ ts, RIS p m ts → ¬ ISQ p D sh ts m
def FNY (p D : Int) (sh ts : Nat → Int) (n : Nat) : Prop := RIS p n ts ∧ ISQ p D sh ts n ∧ ∀ u, RIS p n u → ISQ p D sh u n → CDN ts n ≤ CDN u n
def FNQ (x p D : Int) (sh ts : Nat → Int) (n : Nat) : Prop := (x = 1 → FNY p D sh ts n) ∧ (x = 0 → NOP p D sh n)
def FNI (x p D : Int) (sh ts : Nat → Int) (n : Nat) (k : Int) : Prop := RIS p n ts ∧ k ≤ RKN p ts n ∧ IFF x (ISQ p D sh ts n) ∧ ∀ u, RIS p n u → CDN u n < CDN ts n → ¬ ISQ p D sh u n
theorem FNI.z {x p D k : Int} {sh ts : Nat → Int} {n : Nat} (hp : PRM p) (h : ∀ j : Nat, j < n → ts j = j) (h3 : n ≤ 3) (i : IFF x (ISQ p D sh ts n)) (hk : k = 0) : FNI x p D sh ts n k := by
  obtain ⟨r, m⟩ := RIS.in0 (p := p) (by unfold PRM at hp; omega) h h3
  exact ⟨r, by rw [hk]; exact (RKN.b hp r h3).1, i, fun u hu c => by have := m u hu; omega⟩
theorem FNI.s {x x' p D k k' : Int} {sh ts ts' : Nat → Int} {n : Nat} (h : FNI x p D sh ts n k) (hx : x = 0) (hp : PRM p) (c : NXC ts' ts p n) (h3 : n ≤ 3) (i : IFF x' (ISQ p D sh ts' n)) (hk : k' = k + 1) : FNI x' p D sh ts' n k' := by
  have p9 : 11 ≤ p ∧ p ≤ 19 := by unfold PRM at hp; omega
  obtain ⟨r, a, b, m⟩ := h
  obtain ⟨r', a', d, e⟩ := NXC.all p9 r c h3
  refine ⟨r', by omega, i, fun u hu q z => ?_⟩
  rcases e u hu with f | f
  · rcases Int.lt_or_le (CDN u n) (CDN ts n) with g | g
    · exact m u hu g z
    · exact b.2 hx (z.cg (CDN.u p9.2 hu r h3 (by omega)))
  · omega
theorem FNI.b {x p D k : Int} {sh ts : Nat → Int} {n : Nat} (h : FNI x p D sh ts n k) (hp : PRM p) (h3 : n ≤ 3) : k < 2000 := by
  have a := RKN.b hp h.1 h3
  have b := h.2.1
  omega
theorem FNI.y {x p D k : Int} {sh ts : Nat → Int} {n : Nat} (h : FNI x p D sh ts n k) (hx : x = 1) : FNQ x p D sh ts n := by
  obtain ⟨r, a, b, m⟩ := h
  refine ⟨fun _ => ⟨r, b.1 hx, fun u hu z => ?_⟩, fun q => by omega⟩
  rcases Int.lt_or_le (CDN u n) (CDN ts n) with g | g
  · exact absurd z (m u hu g)
  · exact g
theorem FNI.l {x p D k : Int} {sh ts ts' : Nat → Int} {n : Nat} (h : FNI x p D sh ts n k) (hx : x = 0) (hp : p ≤ 19) (c : LSC ts p n) (h3 : n ≤ 3) : FNQ x p D sh ts' n := by
  obtain ⟨r, a, b, m⟩ := h
  refine ⟨fun q => by omega, fun _ u hu z => ?_⟩
  have f := LSC.all r c h3 u hu
  rcases Int.lt_or_le (CDN u n) (CDN ts n) with g | g
  · exact m u hu g z
  · exact b.2 hx (z.cg (CDN.u hp hu r h3 (by omega)))
/-- the least count, so far -/
def FDI (mn p D : Int) (sh ts : Nat → Int) (n : Int) : Prop := (mn = -1 ∧ ∀ m : Nat, (m : Int) < n → NOP p D sh m) ∨ (0 ≤ mn ∧ mn < n ∧ mn ≤ 3 ∧ (∀ m : Nat, (m : Int) < mn → NOP p D sh m) ∧ FNY p D sh ts mn.toNat)
theorem FDI.z {mn p D n : Int} {sh ts : Nat → Int} (h : mn = -1) (hn : n = 0) : FDI mn p D sh ts n := Or.inl ⟨h, fun m hm => by omega⟩
theorem FDI.n {mn mn' x p D n n' : Int} {sh ts ts' : Nat → Int} {k : Nat} (h : FDI mn p D sh ts n) (hm : mn = -1) (q : FNQ x p D sh ts' k) (hx : x = 0) (hk : (k : Int) = n) (hn : n' = n + 1) (hm' : mn' = -1) : FDI mn' p D sh ts' n' := by
  rcases h with ⟨-, h⟩ | ⟨h, -⟩
  · refine Or.inl ⟨hm', fun m h9 => ?_⟩
    by_cases c : (m : Int) < n
    · exact h m c
    · have e : m = k := by omega
      rw [e]; exact q.2 hx
  · omega
theorem FDI.y {mn mn' x p D n n' : Int} {sh ts ts' : Nat → Int} {k : Nat} (h : FDI mn p D sh ts n) (hm : mn = -1) (q : FNQ x p D sh ts' k) (hx : x = 1) (hk : (k : Int) = n) (h3 : n ≤ 3) (hn : n' = n + 1) (hm' : mn' = n) : FDI mn' p D sh ts' n' := by
  rcases h with ⟨-, h⟩ | ⟨h, -⟩
  · refine Or.inr ⟨by omega, by omega, by omega, fun m h9 => h m (by omega), ?_⟩
    rw [show mn'.toNat = k from by omega]; exact q.1 hx
  · omega
theorem FDI.le {mn p D n : Int} {sh ts : Nat → Int} (h : FDI mn p D sh ts n) (hp : 11 ≤ p) (hD : 1 ≤ D) : mn ≤ D + 1 := by
  rcases h with ⟨h, -⟩ | ⟨h1, -, h3, h4, -⟩
  · omega
  · rcases Int.lt_or_le (D + 1) mn with c | c
    · exfalso
      refine h4 (D + 1).toNat (by omega) (fun i => (i : Int)) ⟨fun i hi => by show 0 ≤ (i : Int) ∧ (i : Int) ≤ p; omega, fun i _ => by show (i : Int) < ((i + 1 : Nat) : Int); omega⟩ (fun k hk => ?_)
      rw [LNS.e _ (by omega)] at hk; omega
    · exact c
theorem NOP.ex {p D : Int} {B F sh : Nat → Int} {m : Nat} (h : NOP p D sh m) (hS : SHA p D B F sh) (h9 : m ≤ 9) : ¬ EXN p D B F m := fun z => by
  obtain ⟨ts, cs, h1, -, h3⟩ := z
  exact h ts h1 (ISQ.of hS h3 h9)
def FDR (mn p D : Int) (B F ts cs : Nat → Int) : Prop := (mn = -1 ∧ ∀ m : Nat, m ≤ 3 → ¬ EXN p D B F m) ∨ (0 ≤ mn ∧ mn ≤ 3 ∧ (∀ m : Nat, (m : Int) < mn → ¬ EXN p D B F m) ∧ PWL p D B F mn.toNat ts cs)
theorem FDR.of {mn p D n k : Int} {B F sh ts cs : Nat → Int} (hp : PRM p) (hS : SHA p D B F sh) (h : FDI mn p D sh ts n) (hn : mn ≠ -1 ∨ 3 < n) (nm : ∀ j : Nat, (j : Int) < k → NMQ (cs j) p D sh ts mn.toNat j) (hk : mn ≤ k) : FDR mn p D B F ts cs := by
  have p0 : 11 ≤ p := by unfold PRM at hp; omega
  rcases h with ⟨h1, h2⟩ | ⟨h1, -, h3, h4, h5, h6, h7⟩
  · exact Or.inl ⟨h1, fun m hm => (h2 m (by omega)).ex hS (by omega)⟩
  · obtain ⟨c0, g⟩ := ISQ.sp hp hS h5 h6 (by omega)
    have no : ∀ m : Nat, (m : Int) < mn → ¬ EXN p D B F m := fun m hm => (h4 m hm).ex hS (by omega)
    have e : SPF p D B F mn.toNat ts cs := g.cs (fun i hi => ((nm i (by omega)).2 c0 (g.sh hS)).sy)
    exact Or.inr ⟨h1, h3, no, h5, SPF.nz (by omega) h5 e (fun m hm => no m (by omega)) (fun i hi => (nm i (by omega)).1), e, fun ts' cs' a _ c => h7 ts' a (ISQ.of hS c (by omega))⟩
def PTA (x : Int) (a : Nat → Int) (mn k : Int) : Prop := (0 ≤ k → k < mn → x = a k.toNat) ∧ ((k < 0 ∨ mn ≤ k) → x = -1)
theorem PTA.r {I : IT} {b : Nat} {x k : Int32} {mn : Int} (h0 : 0 ≤ k.toInt) (h1 : k.toInt < mn) (e : I b k.toNatClampNeg = x) : PTA x.toInt (NF I b) mn k.toInt := ⟨fun _ _ => by show x.toInt = (I b _).toInt; rw [← e]; rfl, fun h => by omega⟩
theorem PTA.z {x mn k : Int} {a : Nat → Int} (hx : x = -1) (h : k < 0 ∨ mn ≤ k) : PTA x a mn k := ⟨fun _ _ => by omega, fun _ => hx⟩
theorem PWX.of {x mn p D k : Int} {B F ts cs : Nat → Int} (h : FDR mn p D B F ts cs) (hk : -1 ≤ k) (c : (k = -1 ∧ x = mn) ∨ (k ≠ -1 ∧ k < 10 ∧ PTA x ts mn k) ∨ (10 ≤ k ∧ PTA x cs mn (k - 10))) : PWX x p D B F k := by
  rcases h with ⟨h1, h2⟩ | ⟨h1, h3, h4, h5⟩
  · refine ⟨4, fun m hm h3 => h2 m h3, Or.inl ⟨rfl, ?_⟩⟩
    rcases c with ⟨-, c⟩ | ⟨-, -, c⟩ | ⟨-, c⟩
    · omega
    · exact c.2 (by omega)
    · exact c.2 (by omega)
  · refine ⟨mn.toNat, fun m hm _ => h4 m (by omega), Or.inr ⟨by omega, ts, cs, h5, ?_⟩⟩
    have e : ((mn.toNat : Nat) : Int) = mn := by omega
    unfold PWA
    rw [e]
    rcases c with ⟨c1, c⟩ | ⟨c1, c2, c⟩ | ⟨c1, c⟩
    · exact ⟨fun _ => c, fun q => by omega, fun q => by omega, fun q => absurd c1 q⟩
    · exact ⟨fun q => absurd q c1, fun a b => c.1 a b, fun q => by omega, fun _ b _ => c.2 (by omega)⟩
    · exact ⟨fun q => by omega, fun a b => by omega, fun a b => c.1 (by omega) (by omega), fun _ b d => c.2 (by omega)⟩
theorem ncz0 {x : Int32} (h : x.toInt = 0) : x.toNatClampNeg = 0 := by
  have e := ncz (x := x) (by omega)
  omega
theorem ncs {x k : Int32} (h : x.toInt = k.toInt + 1) (h0 : 0 ≤ k.toInt) : x.toNatClampNeg = k.toNatClampNeg + 1 := by
  have e := ncz (x := x) (by omega)
  have e2 := ncz h0
  omega
theorem nct {x y : Int32} (h : x.toInt = y.toInt) : x.toNatClampNeg = y.toNatClampNeg := by rw [Int32.toInt_inj.mp h]
def NXL (J J0 : Nat → Int32) (k i : Int) : Prop := (∀ j : Nat, (j : Int) < k → J j = J0 j) ∧ ∀ j : Nat, k ≤ (j : Int) → (j : Int) < i → (J j).toInt = (J0 k.toNat).toInt + 1 + ((j : Int) - k)
theorem NXL.z {I1 I2 : IT} {b : Nat} {P : Int} {k i x y w : Int32} (hput : I2 = u2 I1 b k.toNatClampNeg w) (hx : I1 b k.toNatClampNeg = x) (ad : ADX w x y) (hy : y.toInt = 1) (h0 : 0 ≤ k.toInt) (hb : 0 ≤ NF I1 b k.toNatClampNeg ∧ NF I1 b k.toNatClampNeg ≤ P) (hi : i.toInt = k.toInt + 1 ∧ P ≤ 19) : NXL (I2 b) (I1 b) k.toInt i.toInt := by
  have k0 := ncz h0
  have ex : x.toInt = NF I1 b k.toNatClampNeg := by rw [← hx]; rfl
  have e := ad (by omega) (by omega)
  refine ⟨fun j hj => by rw [hput, u2_k (by omega)], fun j h1 h2 => ?_⟩
  have z : j = k.toNatClampNeg := by omega
  subst z
  rw [hput, u2_s, e, ex]
  show NF I1 b k.toNatClampNeg + y.toInt = NF I1 b k.toNatClampNeg + 1 + _
  omega
theorem NXL.s {I1 I2 : IT} {b : Nat} {J0 : Nat → Int32} {P : Int} {k i i' n x y w : Int32} (h : NXL (I1 b) J0 k.toInt i.toInt) (hput : I2 = u2 I1 b i.toNatClampNeg w) (hx : I1 b n.toNatClampNeg = x) (ad : ADX w x y) (hy : y.toInt = 1) (en : n.toInt = i.toInt - 1) (h0 : 0 ≤ k.toInt) (hk : k.toInt < i.toInt ∧ i.toInt ≤ 9) (hi : i'.toInt = i.toInt + 1 ∧ P ≤ 19) (hb : 0 ≤ (J0 k.toNatClampNeg).toInt ∧ (J0 k.toNatClampNeg).toInt ≤ P) : NXL (I2 b) J0 k.toInt i'.toInt := by
  have k0 := ncz h0
  have i0 := ncz (x := i) (by omega)
  have n0 := ncz (x := n) (by omega)
  have e0 : k.toInt.toNat = k.toNatClampNeg := rfl
  obtain ⟨h1, h2⟩ := h
  have ex : x.toInt = (J0 k.toNatClampNeg).toInt + 1 + ((n.toNatClampNeg : Int) - k.toInt) := by rw [← hx]; exact h2 n.toNatClampNeg (by omega) (by omega)
  have e := ad (by omega) (by omega)
  refine ⟨fun j hj => by rw [hput, u2_k (by omega)]; exact h1 j hj, fun j g1 g2 => ?_⟩
  by_cases z : j = i.toNatClampNeg
  · subst z
    rw [hput, u2_s, e, ex, e0]; omega
  · rw [hput, u2_k z]; exact h2 j g1 (by omega)
theorem LSC.of {ts : Nat → Int} {P k : Int} {n : Int32} (h : ∀ j : Nat, k < (j : Int) → (j : Int) < n.toInt → P - (n.toInt - 1 - (j : Int)) ≤ ts j) (hk : k < 0) (h0 : 0 ≤ n.toInt) : LSC ts P n.toNatClampNeg := fun j hj => by
  have n0 := ncz h0
  have e := h j (by omega) (by omega)
  rw [n0]; exact e
theorem NXC.of {J J0 : Nat → Int32} {P : Int} {n k i : Int32} (h : ∀ j : Nat, k.toInt < (j : Int) → (j : Int) < n.toInt → P - (n.toInt - 1 - (j : Int)) ≤ (J0 j).toInt) (g : NXL J J0 k.toInt i.toInt) (h0 : 0 ≤ k.toInt) (hk : k.toInt < n.toInt) (hi : n.toInt ≤ i.toInt) (hn : 0 ≤ n.toInt) (lt : (J0 k.toNatClampNeg).toInt < P - (n.toInt - 1 - k.toInt)) : NXC (fun j => (J j).toInt) (fun j => (J0 j).toInt) P n.toNatClampNeg := by
  have k0 := ncz h0
  have n0 := ncz hn
  refine ⟨k.toNatClampNeg, by omega, fun j g1 g2 => by rw [n0]; exact h j (by omega) (by omega), by rw [n0, k0]; exact lt, fun j hj => ?_, fun j g1 g2 => ?_⟩
  · show (J j).toInt = (J0 j).toInt
    rw [g.1 j (by omega)]
  · have e := g.2 j (by omega) (by omega)
    rw [k0]; exact e
theorem OVM {o m d t y : Int32} {f g : Int} (mm : IMX m o d) (sb : SBX d t y) (_ : True) (bo : 0 ≤ o.toInt ∧ o.toInt ≤ 18) (ht : t.toInt = f) (hy : y.toInt = g) (bt : 0 ≤ f ∧ f ≤ 19) (by9 : 0 ≤ g ∧ g ≤ 19) : m.toInt = o.toInt * (f - g) := by
  have e := sb (by omega) (by omega)
  have nn := Int.mul_nonneg bo.1 (show 0 ≤ d.toInt + 19 by omega)
  have nl : o.toInt * (d.toInt + 19) ≤ 18 * 38 := Int.mul_le_mul bo.2 (by omega) (by omega) (by decide)
  have ex : o.toInt * (d.toInt + 19) = o.toInt * d.toInt + o.toInt * 19 := Int.mul_add ..
  have em := mm (by omega) (by omega)
  rw [em, e, ht, hy]
theorem NMQ.q2 {J : Nat → Int32} {p D M : Int} {sh ts : Nat → Int} {n w : Nat} {a i o v m pl : Int32} {l : Int64} (h : RWK J p w ts sh (D + 1) n) (hw : w < n) (hM : M = LNS w (D + 1) n) (h1 : 1 ≤ M) (ha : J pl.toNatClampNeg = a) (hpl : pl.toInt = 0) (mm : IMX m a i) (hl : l.toInt = m.toInt) (hv : v.toInt = l.toInt % p) (ht : ts w ≠ p) (hr : RIS p n ts) (hp : PRM p) (hi : INC7 i.toInt o.toInt p) (ho : PmE p o.toInt (KFS p w ts (ts w) n)) : NMQ v.toInt p D sh ts n w := by
  have p9 : 11 ≤ p ∧ p ≤ 19 := by unfold PRM at hp; omega
  have e := h 0 (by omega)
  have bi := hi.1
  rw [ncz0 hpl] at ha
  rw [ha] at e
  have em := IMX.s9 mm (by omega) (by omega)
  exact NMQ.q h hw hM h1 (by rw [hv, hl, em, ha]) ht hr hp hi ho
theorem PTA.e {x mn k k' : Int} {a : Nat → Int} (h : PTA x a mn k) (e : k' = k) : PTA x a mn k' := by subst e; exact h
theorem FDI.ris {mn p D n : Int} {sh ts : Nat → Int} (h : FDI mn p D sh ts n) (h0 : 0 ≤ mn) : RIS p mn.toNat ts := by
  rcases h with ⟨h1, -⟩ | ⟨-, -, -, -, h5, -⟩
  · omega
  · exact h5
theorem s_X0_p_x {d : Nat} {T N : Nat → Nat} {I : IT} {L : LT} {R : RT} {A B : Nat → Prop} {r0 : Nat} (hS : SUB B A) (hI : IX A T I) (H_r0 : (hs_Al T N R A B) r0) : Ex (d + 1) 2 [.ref r0] (T, N, I, L, R) 0 0 (pI T N R (fun x9 I9 L9 => (11 ≤ x9.toInt) ∧ (x9.toInt ≤ 19) ∧ (x9.toInt = (I (rA R r0 0) 0).toInt) ∧ (I = I9 ∧ L = L9))) := by
  refine ⟨_, rfl, Nat.le_of_ble_eq_true rfl, fun V C S => ?_⟩
  show V 0 [(0, .ref r0)] [] (T, N, I, L, R) 0 0
  obtain ⟨T_r0, A_r0, B_r0, ⟨r0_0, R_r0_0, H_r0_0⟩, ⟨r0_1, R_r0_1, H_r0_1⟩, ⟨r0_2, R_r0_2, H_r0_2⟩⟩ := id H_r0
  have z_r0_0 : rA R r0 0 = r0_0 := rA_e R_r0_0
  have z_r0_1 : rA R r0 1 = r0_1 := rA_e R_r0_1
  have z_r0_2 : rA R r0 2 = r0_2 := rA_e R_r0_2
  obtain ⟨T_r0_0, A_r0_0, B_r0_0, ⟨r0_0_6, R_r0_0_6, H_r0_0_6⟩, ⟨r0_0_7, R_r0_0_7, H_r0_0_7⟩, ⟨r0_0_8, R_r0_0_8, H_r0_0_8⟩, ⟨r0_0_9, R_r0_0_9, H_r0_0_9⟩, ⟨r0_0_10, R_r0_0_10, H_r0_0_10⟩⟩ := id H_r0_0
  have z_r0_0_6 : rA R r0_0 6 = r0_0_6 := rA_e R_r0_0_6
  have z_r0_0_7 : rA R r0_0 7 = r0_0_7 := rA_e R_r0_0_7
  have z_r0_0_8 : rA R r0_0 8 = r0_0_8 := rA_e R_r0_0_8
  have z_r0_0_9 : rA R r0_0 9 = r0_0_9 := rA_e R_r0_0_9
  have z_r0_0_10 : rA R r0_0 10 = r0_0_10 := rA_e R_r0_0_10
  obtain ⟨w_r0_0_0, k0_r0_0_0⟩ : ∃ x, I r0_0 0 = x := ⟨_, rfl⟩
  have gw_r0_0_0 := rg w_r0_0_0
  have ow_r0_0_0 := IX.p hI A_r0_0 T_r0_0 k0_r0_0_0
  refine k_aload_n C rfl rfl rfl ?_
  refine g_R C rfl rfl rfl T_r0 rfl R_r0_0 ?_
  refine g_I C rfl rfl rfl T_r0_0 rfl k0_r0_0_0 ?_
  exact k_iret C rfl (Or.inl rfl) (Nat.le_of_ble_eq_true rfl) (Nat.le_of_ble_eq_true rfl) ⟨_, _, _, rfl, rfl, by omega, by omega, by (try simp only [z_r0_0, z_r0_1, z_r0_2, z_r0_0_6, z_r0_0_7, z_r0_0_8, z_r0_0_9, z_r0_0_10]); simp only [k0_r0_0_0], rfl, rfl⟩

theorem s_X0_power_y {d : Nat} {T N : Nat → Nat} {I : IT} {L : LT} {R : RT} {A B : Nat → Prop} {r0 : Nat} {n1 n2 : Int32} (hS : SUB B A) (hI : IX A T I) (H_r0 : (hs_Al T N R A B) r0) (b0_n1 : 0 ≤ n1.toInt) (b1_n1 : n1.toInt ≤ 70) : Ex (d + 2) 4 [.ref r0, .int n1, .int n2] (T, N, I, L, R) 0 0 (pI T N R (fun x9 I9 L9 => (0 ≤ x9.toInt) ∧ (x9.toInt ≤ 18) ∧ (PmE (I (rA R r0 0) 0).toInt x9.toInt (POW n1.toInt n2.toInt.toNat)) ∧ (0 ≤ x9.toInt ∧ x9.toInt < (I (rA R r0 0) 0).toInt) ∧ (I = I9 ∧ L = L9))) := by
  refine ⟨_, rfl, Nat.le_of_ble_eq_true rfl, fun V C S => ?_⟩
  show V 0 [(0, .ref r0), (1, .int n1), (2, .int n2)] [] (T, N, I, L, R) 0 0
  have gn1 := rg n1
  have gn2 := rg n2
  obtain ⟨T_r0, A_r0, B_r0, ⟨r0_0, R_r0_0, H_r0_0⟩, ⟨r0_1, R_r0_1, H_r0_1⟩, ⟨r0_2, R_r0_2, H_r0_2⟩⟩ := id H_r0
  have z_r0_0 : rA R r0 0 = r0_0 := rA_e R_r0_0
  have z_r0_1 : rA R r0 1 = r0_1 := rA_e R_r0_1
  have z_r0_2 : rA R r0 2 = r0_2 := rA_e R_r0_2
  obtain ⟨T_r0_0, A_r0_0, B_r0_0, ⟨r0_0_6, R_r0_0_6, H_r0_0_6⟩, ⟨r0_0_7, R_r0_0_7, H_r0_0_7⟩, ⟨r0_0_8, R_r0_0_8, H_r0_0_8⟩, ⟨r0_0_9, R_r0_0_9, H_r0_0_9⟩, ⟨r0_0_10, R_r0_0_10, H_r0_0_10⟩⟩ := id H_r0_0
  have z_r0_0_6 : rA R r0_0 6 = r0_0_6 := rA_e R_r0_0_6
  have z_r0_0_7 : rA R r0_0 7 = r0_0_7 := rA_e R_r0_0_7
  have z_r0_0_8 : rA R r0_0 8 = r0_0_8 := rA_e R_r0_0_8
  have z_r0_0_9 : rA R r0_0 9 = r0_0_9 := rA_e R_r0_0_9
  have z_r0_0_10 : rA R r0_0 10 = r0_0_10 := rA_e R_r0_0_10
  obtain ⟨w_r0_0_0, k0_r0_0_0⟩ : ∃ x, I r0_0 0 = x := ⟨_, rfl⟩
  have gw_r0_0_0 := rg w_r0_0_0
  have ow_r0_0_0 := IX.p hI A_r0_0 T_r0_0 k0_r0_0_0
  refine z_iconst C (z := 1) rfl rfl rfl (fun x1 ex1 => ?_)
  refine k_istore_n C (lw := [(3, .int x1), (0, .ref r0), (1, .int n1), (2, .int n2)]) rfl rfl (Nat.le_of_ble_eq_true rfl) rfl ?_
  refine k_aload_n C rfl rfl rfl ?_
  refine k_iload_n C rfl rfl rfl ?_
  refine z_i2l C rfl rfl (fun lg2 elg2 => ?_)
  have hl5 := elg2
  refine c_VI C (s_X0_of_x hS hI H_r0) rfl rfl rfl rfl rfl ⟨_, rfl, rfl, T_r0, Nat.le_of_ble_eq_true rfl⟩ rfl rfl (Nat.le_of_ble_eq_true rfl) (Nat.le_of_ble_eq_true rfl) (Nat.le_of_ble_eq_true rfl) ?_
  rintro x3 _ _ ⟨o0x3, o1x3, p0x3, p1x3, rfl, rfl⟩
  have gx3 := rg x3
  try simp only [z_r0_0, z_r0_1, z_r0_2, z_r0_0_6, z_r0_0_7, z_r0_0_8, z_r0_0_9, z_r0_0_10] at p0x3
  try simp only [z_r0_0, z_r0_1, z_r0_2, z_r0_0_6, z_r0_0_7, z_r0_0_8, z_r0_0_9, z_r0_0_10] at p1x3
  try simp only [k0_r0_0_0] at p0x3
  try have q0x3 := congrArg Int32.toInt p0x3
  try simp only [k0_r0_0_0] at p1x3
  try have q1x3 := congrArg Int32.toInt p1x3
  have ho5 := p0x3; (try simp only [k0_r0_0_0] at ho5); have hb5 := p1x3; (try simp only [k0_r0_0_0] at hb5)
  refine k_istore C (lw := [(4, .int x3), (3, .int x1), (0, .ref r0), (1, .int n1), (2, .int n2)]) rfl rfl (Nat.le_of_ble_eq_true rfl) rfl ?_
  refine k_iload_n C rfl rfl rfl ?_
  have J4 : ∀ (nn5 : Nat) (x6 : Int32) (x9 : Int32) (x12 : Int32), (MN x12.toInt nn5) → (0 ≤ x6.toInt) → (x6.toInt ≤ 18) → (0 ≤ x9.toInt) → (x9.toInt ≤ 18) → (PWR w_r0_0_0.toInt x6.toInt x9.toInt x12.toInt (POW n1.toInt n2.toInt.toNat)) → (0 ≤ x6.toInt ∧ x6.toInt ≤ 18) → (0 ≤ x9.toInt ∧ x9.toInt ≤ 18) → (x6.toInt < w_r0_0_0.toInt) → V 13 [(0, .ref r0), (3, .int x6), (4, .int x9), (5, .int x12)] [] (T, N, I, L, R) 0 0 := by
    intro nn5
    induction nn5 using Nat.strongRecOn with
    | _ nn5 ihJ4 =>
      intro x6 x9 x12 hmnn5 b7 b8 b10 b11 ff13_0 ff13_1 ff13_2 ff13_3
      have gx6 := rg x6
      have gx9 := rg x9
      have gx12 := rg x12
      refine k_iload C rfl rfl rfl ?_
      refine b_if_le C (t := 57) rfl rfl rfl (fun c17 => ?_) (fun c17 => ?_)
      · skip
        refine k_iload_n C rfl rfl rfl ?_
        exact k_iret C rfl (Or.inl rfl) (Nat.le_of_ble_eq_true rfl) (Nat.le_of_ble_eq_true rfl) ⟨_, _, _, rfl, rfl, by omega, by omega, by (try simp only [z_r0_0, z_r0_1, z_r0_2, z_r0_0_6, z_r0_0_7, z_r0_0_8, z_r0_0_9, z_r0_0_10]); simp only [k0_r0_0_0]; exact ff13_0.e (by omega), by (try simp only [z_r0_0, z_r0_1, z_r0_2, z_r0_0_6, z_r0_0_7, z_r0_0_8, z_r0_0_9, z_r0_0_10]); simp only [k0_r0_0_0]; omega, rfl, rfl⟩
      refine k_iload C rfl rfl rfl ?_
      refine z_iconst C (z := 1) rfl rfl rfl (fun x18 ex18 => ?_)
      refine z_iand1 C rfl rfl (by omega) (by omega) (fun x19 ex19 => ?_)
      have gx19 := rg x19
      refine z_iconst C (z := 1) rfl rfl rfl (fun x20 ex20 => ?_)
      refine b_icmp_ne C (t := 36) rfl rfl rfl (fun c21 => ?_) (fun c21 => ?_)
      · skip
        refine k_aload_n C rfl rfl rfl ?_
        refine k_iload C rfl rfl rfl ?_
        refine k_iload C rfl rfl rfl ?_
        refine z_imulN C rfl rfl (fun x22 hm41 => ?_)
        have gx22 := rg x22
        have mm41 := hm41.2
        clear hm41
        refine z_i2l C rfl rfl (fun lg23 elg23 => ?_)
        have hl43 := elg23
        refine c_VI C (s_X0_of_x hS hI H_r0) rfl rfl rfl rfl rfl ⟨_, rfl, rfl, T_r0, Nat.le_of_ble_eq_true rfl⟩ rfl rfl (Nat.le_of_ble_eq_true rfl) (Nat.le_of_ble_eq_true rfl) (Nat.le_of_ble_eq_true rfl) ?_
        rintro x24 _ _ ⟨o0x24, o1x24, p0x24, p1x24, rfl, rfl⟩
        have gx24 := rg x24
        try simp only [z_r0_0, z_r0_1, z_r0_2, z_r0_0_6, z_r0_0_7, z_r0_0_8, z_r0_0_9, z_r0_0_10] at p0x24
        try simp only [z_r0_0, z_r0_1, z_r0_2, z_r0_0_6, z_r0_0_7, z_r0_0_8, z_r0_0_9, z_r0_0_10] at p1x24
        try simp only [k0_r0_0_0] at p0x24
        try have q0x24 := congrArg Int32.toInt p0x24
        try simp only [k0_r0_0_0] at p1x24
        try have q1x24 := congrArg Int32.toInt p1x24
        have ho43 := p0x24; (try simp only [k0_r0_0_0] at ho43)
        refine k_istore C (lw := [(4, .int x24), (0, .ref r0), (3, .int x6), (5, .int x12)]) rfl rfl (Nat.le_of_ble_eq_true rfl) rfl ?_
        refine k_iload C rfl rfl rfl ?_
        refine z_iconst C (z := 1) rfl rfl rfl (fun x25 ex25 => ?_)
        refine z_ishr1 C rfl rfl (by omega) (by omega) (fun x26 ex26 => ?_)
        refine k_istore C (lw := [(5, .int x26), (4, .int x24), (0, .ref r0), (3, .int x6)]) rfl rfl (Nat.le_of_ble_eq_true rfl) rfl ?_
        refine k_goto C (pc2 := 13) rfl rfl ?_
        refine k_sub S [(0, .ref r0), (3, .int x6), (4, .int x24), (5, .int x26)] (List.forall_mem_cons.mpr ⟨List.mem_of_getElem? (i := 2) rfl, List.forall_mem_cons.mpr ⟨List.mem_of_getElem? (i := 3) rfl, List.forall_mem_cons.mpr ⟨List.mem_of_getElem? (i := 1) rfl, List.forall_mem_cons.mpr ⟨List.mem_of_getElem? (i := 0) rfl, fun _ h => nomatch h⟩⟩⟩⟩) ?_
        exact ihJ4 _ (MN.lt hmnn5 (by omega) (by omega)) x6 x24 x26 rfl (by omega) (by omega) (by omega) (by omega) (by first | exact PWR.s1 ff13_0 mm30 mm41 hl32 hl43 ho32 ho43 (by omega) (by omega) (by omega) (by omega) (by omega) | exact PWR.s0 ff13_0 mm41 hl43 ho43 (by omega) (by omega) (by omega) (by omega)) (by omega) (by omega) (by omega)
      refine k_aload_n C rfl rfl rfl ?_
      refine k_iload_n C rfl rfl rfl ?_
      refine k_iload C rfl rfl rfl ?_
      refine z_imulN C rfl rfl (fun x27 hm30 => ?_)
      have gx27 := rg x27
      have mm30 := hm30.2
      clear hm30
      refine z_i2l C rfl rfl (fun lg28 elg28 => ?_)
      have hl32 := elg28
      refine c_VI C (s_X0_of_x hS hI H_r0) rfl rfl rfl rfl rfl ⟨_, rfl, rfl, T_r0, Nat.le_of_ble_eq_true rfl⟩ rfl rfl (Nat.le_of_ble_eq_true rfl) (Nat.le_of_ble_eq_true rfl) (Nat.le_of_ble_eq_true rfl) ?_
      rintro x29 _ _ ⟨o0x29, o1x29, p0x29, p1x29, rfl, rfl⟩
      have gx29 := rg x29
      try simp only [z_r0_0, z_r0_1, z_r0_2, z_r0_0_6, z_r0_0_7, z_r0_0_8, z_r0_0_9, z_r0_0_10] at p0x29
      try simp only [z_r0_0, z_r0_1, z_r0_2, z_r0_0_6, z_r0_0_7, z_r0_0_8, z_r0_0_9, z_r0_0_10] at p1x29
      try simp only [k0_r0_0_0] at p0x29
      try have q0x29 := congrArg Int32.toInt p0x29
      try simp only [k0_r0_0_0] at p1x29
      try have q1x29 := congrArg Int32.toInt p1x29
      have ho32 := p0x29; (try simp only [k0_r0_0_0] at ho32)
      refine k_istore_n C (lw := [(3, .int x29), (0, .ref r0), (4, .int x9), (5, .int x12)]) rfl rfl (Nat.le_of_ble_eq_true rfl) rfl ?_
      refine k_aload_n C rfl rfl rfl ?_
      refine k_iload C rfl rfl rfl ?_
      refine k_iload C rfl rfl rfl ?_
      refine z_imulN C rfl rfl (fun x30 hm41 => ?_)
      have gx30 := rg x30
      have mm41 := hm41.2
      clear hm41
      refine z_i2l C rfl rfl (fun lg31 elg31 => ?_)
      have hl43 := elg31
      refine c_VI C (s_X0_of_x hS hI H_r0) rfl rfl rfl rfl rfl ⟨_, rfl, rfl, T_r0, Nat.le_of_ble_eq_true rfl⟩ rfl rfl (Nat.le_of_ble_eq_true rfl) (Nat.le_of_ble_eq_true rfl) (Nat.le_of_ble_eq_true rfl) ?_
      rintro x32 _ _ ⟨o0x32, o1x32, p0x32, p1x32, rfl, rfl⟩
      have gx32 := rg x32
      try simp only [z_r0_0, z_r0_1, z_r0_2, z_r0_0_6, z_r0_0_7, z_r0_0_8, z_r0_0_9, z_r0_0_10] at p0x32
      try simp only [z_r0_0, z_r0_1, z_r0_2, z_r0_0_6, z_r0_0_7, z_r0_0_8, z_r0_0_9, z_r0_0_10] at p1x32
      try simp only [k0_r0_0_0] at p0x32
      try have q0x32 := congrArg Int32.toInt p0x32
      try simp only [k0_r0_0_0] at p1x32
      try have q1x32 := congrArg Int32.toInt p1x32
      have ho43 := p0x32; (try simp only [k0_r0_0_0] at ho43)
      refine k_istore C (lw := [(4, .int x32), (3, .int x29), (0, .ref r0), (5, .int x12)]) rfl rfl (Nat.le_of_ble_eq_true rfl) rfl ?_
      refine k_iload C rfl rfl rfl ?_
      refine z_iconst C (z := 1) rfl rfl rfl (fun x33 ex33 => ?_)
      refine z_ishr1 C rfl rfl (by omega) (by omega) (fun x34 ex34 => ?_)
      refine k_istore C (lw := [(5, .int x34), (4, .int x32), (3, .int x29), (0, .ref r0)]) rfl rfl (Nat.le_of_ble_eq_true rfl) rfl ?_
      refine k_goto C (pc2 := 13) rfl rfl ?_
      refine k_sub S [(0, .ref r0), (3, .int x29), (4, .int x32), (5, .int x34)] (List.forall_mem_cons.mpr ⟨List.mem_of_getElem? (i := 3) rfl, List.forall_mem_cons.mpr ⟨List.mem_of_getElem? (i := 2) rfl, List.forall_mem_cons.mpr ⟨List.mem_of_getElem? (i := 1) rfl, List.forall_mem_cons.mpr ⟨List.mem_of_getElem? (i := 0) rfl, fun _ h => nomatch h⟩⟩⟩⟩) ?_
      exact ihJ4 _ (MN.lt hmnn5 (by omega) (by omega)) x29 x32 x34 rfl (by omega) (by omega) (by omega) (by omega) (by first | exact PWR.s1 ff13_0 mm30 mm41 hl32 hl43 ho32 ho43 (by omega) (by omega) (by omega) (by omega) (by omega) | exact PWR.s0 ff13_0 mm41 hl43 ho43 (by omega) (by omega) (by omega) (by omega)) (by omega) (by omega) (by omega)
  refine k_istore C (lw := [(5, .int n2), (4, .int x3), (3, .int x1), (0, .ref r0), (1, .int n1), (2, .int n2)]) rfl rfl (Nat.le_of_ble_eq_true rfl) rfl ?_
  refine k_sub S [(0, .ref r0), (3, .int x1), (4, .int x3), (5, .int n2)] (List.forall_mem_cons.mpr ⟨List.mem_of_getElem? (i := 3) rfl, List.forall_mem_cons.mpr ⟨List.mem_of_getElem? (i := 2) rfl, List.forall_mem_cons.mpr ⟨List.mem_of_getElem? (i := 1) rfl, List.forall_mem_cons.mpr ⟨List.mem_of_getElem? (i := 0) rfl, fun _ h => nomatch h⟩⟩⟩⟩) ?_
  exact J4 _ x1 x3 n2 rfl (by omega) (by omega) (by omega) (by omega) (by exact PWR.z (by omega) (by rw [ho5, hl5]) rfl) (by omega) (by omega) (by omega)

theorem s_X0_inverse_y {d : Nat} {T N : Nat → Nat} {I : IT} {L : LT} {R : RT} {A B : Nat → Prop} {r0 : Nat} {n1 : Int32} (hS : SUB B A) (hI : IX A T I) (H_r0 : (hs_Al T N R A B) r0) (b0_n1 : 0 ≤ n1.toInt) (b1_n1 : n1.toInt ≤ 70) (hp0 : PRM (I (rA R r0 0) 0).toInt) : Ex (d + 3) 5 [.ref r0, .int n1] (T, N, I, L, R) 0 0 (pI T N R (fun x9 I9 L9 => (0 ≤ x9.toInt) ∧ (x9.toInt ≤ 18) ∧ (INC7 x9.toInt n1.toInt (I (rA R r0 0) 0).toInt) ∧ (I = I9 ∧ L = L9))) := by
  refine ⟨_, rfl, Nat.le_of_ble_eq_true rfl, fun V C S => ?_⟩
  show V 0 [(0, .ref r0), (1, .int n1)] [] (T, N, I, L, R) 0 0
  have gn1 := rg n1
  obtain ⟨T_r0, A_r0, B_r0, ⟨r0_0, R_r0_0, H_r0_0⟩, ⟨r0_1, R_r0_1, H_r0_1⟩, ⟨r0_2, R_r0_2, H_r0_2⟩⟩ := id H_r0
  have z_r0_0 : rA R r0 0 = r0_0 := rA_e R_r0_0
  have z_r0_1 : rA R r0 1 = r0_1 := rA_e R_r0_1
  have z_r0_2 : rA R r0 2 = r0_2 := rA_e R_r0_2
  obtain ⟨T_r0_0, A_r0_0, B_r0_0, ⟨r0_0_6, R_r0_0_6, H_r0_0_6⟩, ⟨r0_0_7, R_r0_0_7, H_r0_0_7⟩, ⟨r0_0_8, R_r0_0_8, H_r0_0_8⟩, ⟨r0_0_9, R_r0_0_9, H_r0_0_9⟩, ⟨r0_0_10, R_r0_0_10, H_r0_0_10⟩⟩ := id H_r0_0
  have z_r0_0_6 : rA R r0_0 6 = r0_0_6 := rA_e R_r0_0_6
  have z_r0_0_7 : rA R r0_0 7 = r0_0_7 := rA_e R_r0_0_7
  have z_r0_0_8 : rA R r0_0 8 = r0_0_8 := rA_e R_r0_0_8
  have z_r0_0_9 : rA R r0_0 9 = r0_0_9 := rA_e R_r0_0_9
  have z_r0_0_10 : rA R r0_0 10 = r0_0_10 := rA_e R_r0_0_10
  try simp only [z_r0_0, z_r0_1, z_r0_2, z_r0_0_6, z_r0_0_7, z_r0_0_8, z_r0_0_9, z_r0_0_10] at hp0
  obtain ⟨w_r0_0_0, k0_r0_0_0⟩ : ∃ x, I r0_0 0 = x := ⟨_, rfl⟩
  have gw_r0_0_0 := rg w_r0_0_0
  have ow_r0_0_0 := IX.p hI A_r0_0 T_r0_0 k0_r0_0_0
  try simp only [k0_r0_0_0] at hp0
  refine k_aload_n C rfl rfl rfl ?_
  refine k_iload_n C rfl rfl rfl ?_
  refine k_aload_n C rfl rfl rfl ?_
  refine g_R C rfl rfl rfl T_r0 rfl R_r0_0 ?_
  refine g_I C rfl rfl rfl T_r0_0 rfl k0_r0_0_0 ?_
  refine z_iconst C (z := 2) rfl rfl rfl (fun x1 ex1 => ?_)
  refine z_isub C rfl rfl ⟨by omega, by omega⟩ (fun x2 ex2 => ?_)
  refine c_VI C (s_X0_power_y hS hI H_r0 (by omega) (by omega)) rfl rfl rfl rfl rfl ⟨_, rfl, rfl, T_r0, Nat.le_of_ble_eq_true rfl⟩ rfl rfl (Nat.le_of_ble_eq_true rfl) (Nat.le_of_ble_eq_true rfl) (Nat.le_of_ble_eq_true rfl) ?_
  rintro x3 _ _ ⟨o0x3, o1x3, p0x3, p1x3, rfl, rfl⟩
  have gx3 := rg x3
  try simp only [z_r0_0, z_r0_1, z_r0_2, z_r0_0_6, z_r0_0_7, z_r0_0_8, z_r0_0_9, z_r0_0_10] at p0x3
  try simp only [z_r0_0, z_r0_1, z_r0_2, z_r0_0_6, z_r0_0_7, z_r0_0_8, z_r0_0_9, z_r0_0_10] at p1x3
  try simp only [k0_r0_0_0] at p0x3
  try have q0x3 := congrArg Int32.toInt p0x3
  try simp only [k0_r0_0_0] at p1x3
  try have q1x3 := congrArg Int32.toInt p1x3
  have hq := p0x3; have hb := p1x3; (try simp only [k0_r0_0_0] at hq); (try simp only [k0_r0_0_0] at hb)
  exact k_iret C rfl (Or.inl rfl) (Nat.le_of_ble_eq_true rfl) (Nat.le_of_ble_eq_true rfl) ⟨_, _, _, rfl, rfl, by omega, by omega, by (try simp only [z_r0_0, z_r0_1, z_r0_2, z_r0_0_6, z_r0_0_7, z_r0_0_8, z_r0_0_9, z_r0_0_10]); simp only [k0_r0_0_0] at hp0 ⊢; exact INC7.of hp0 hq (by omega) (by omega), rfl, rfl⟩

theorem s_X3_takeOut_x {d : Nat} {T N : Nat → Nat} {I : IT} {L : LT} {R : RT} {A B : Nat → Prop} {r0 : Nat} {n1 : Int32} (hS : SUB B A) (hI : IX A T I) (H_r0 : (hs_Po T N R A B) r0) (b0_n1 : 0 ≤ n1.toInt) (b1_n1 : n1.toInt ≤ 19) (hU : UPR T R) (hp0 : -90 ≤ (I r0 7).toInt ∧ (I r0 7).toInt ≤ 9) (hp1 : ∀ j : Nat, (j : Int) < (I r0 7).toInt → 0 ≤ (I (rA R r0 5) j).toInt ∧ (I (rA R r0 5) j).toInt < (I (rA R (rA R r0 1) 0) 0).toInt) (hp2 : n1.toInt ≤ (I (rA R (rA R r0 1) 0) 0).toInt) : Ex (d + 2) 51 [.ref r0, .int n1] (T, N, I, L, R) 0 0 (pV T N R (fun I9 L9 => ((I9 r0 7).toInt = (I r0 7).toInt - 1) ∧ (∀ j : Nat, (j : Int) < (I r0 7).toInt - 1 → 0 ≤ (I9 (rA R r0 5) j).toInt ∧ (I9 (rA R r0 5) j).toInt < (I (rA R (rA R r0 1) 0) 0).toInt ∧ PmE (I (rA R (rA R r0 1) 0) 0).toInt (I9 (rA R r0 5) j).toInt (TKO (I (rA R (rA R r0 1) 0) 0).toInt n1.toInt (fun i => (I (rA R r0 5) i).toInt) j)) ∧ (IX A T I9 ∧ Chg (SL [r0, (rA R r0 5)]) T [(4, 7)] I L I9 L9))) := by
  refine ⟨_, rfl, Nat.le_of_ble_eq_true rfl, fun V C S => ?_⟩
  show V 0 [(0, .ref r0), (1, .int n1)] [] (T, N, I, L, R) 0 0
  have gn1 := rg n1
  obtain ⟨T_r0, A_r0, B_r0, ⟨r0_1, R_r0_1, H_r0_1⟩, ⟨r0_2, R_r0_2, H_r0_2⟩, ⟨r0_3, R_r0_3, H_r0_3⟩, ⟨r0_4, R_r0_4, H_r0_4⟩, ⟨r0_5, R_r0_5, H_r0_5⟩⟩ := id H_r0
  have z_r0_1 : rA R r0 1 = r0_1 := rA_e R_r0_1
  have z_r0_2 : rA R r0 2 = r0_2 := rA_e R_r0_2
  have z_r0_3 : rA R r0 3 = r0_3 := rA_e R_r0_3
  have z_r0_4 : rA R r0 4 = r0_4 := rA_e R_r0_4
  have z_r0_5 : rA R r0 5 = r0_5 := rA_e R_r0_5
  obtain ⟨T_r0_1, A_r0_1, B_r0_1, ⟨r0_1_0, R_r0_1_0, H_r0_1_0⟩, ⟨r0_1_1, R_r0_1_1, H_r0_1_1⟩, ⟨r0_1_2, R_r0_1_2, H_r0_1_2⟩⟩ := id H_r0_1
  have z_r0_1_0 : rA R r0_1 0 = r0_1_0 := rA_e R_r0_1_0
  have z_r0_1_1 : rA R r0_1 1 = r0_1_1 := rA_e R_r0_1_1
  have z_r0_1_2 : rA R r0_1 2 = r0_1_2 := rA_e R_r0_1_2
  obtain ⟨T_r0_1_0, A_r0_1_0, B_r0_1_0, ⟨r0_1_0_6, R_r0_1_0_6, H_r0_1_0_6⟩, ⟨r0_1_0_7, R_r0_1_0_7, H_r0_1_0_7⟩, ⟨r0_1_0_8, R_r0_1_0_8, H_r0_1_0_8⟩, ⟨r0_1_0_9, R_r0_1_0_9, H_r0_1_0_9⟩, ⟨r0_1_0_10, R_r0_1_0_10, H_r0_1_0_10⟩⟩ := id H_r0_1_0
  have z_r0_1_0_6 : rA R r0_1_0 6 = r0_1_0_6 := rA_e R_r0_1_0_6
  have z_r0_1_0_7 : rA R r0_1_0 7 = r0_1_0_7 := rA_e R_r0_1_0_7
  have z_r0_1_0_8 : rA R r0_1_0 8 = r0_1_0_8 := rA_e R_r0_1_0_8
  have z_r0_1_0_9 : rA R r0_1_0 9 = r0_1_0_9 := rA_e R_r0_1_0_9
  have z_r0_1_0_10 : rA R r0_1_0 10 = r0_1_0_10 := rA_e R_r0_1_0_10
  obtain ⟨T_r0_5, N_r0_5, A_r0_5⟩ := id H_r0_5
  try simp only [z_r0_1, z_r0_2, z_r0_3, z_r0_4, z_r0_5, z_r0_1_0, z_r0_1_1, z_r0_1_2, z_r0_1_0_6, z_r0_1_0_7, z_r0_1_0_8, z_r0_1_0_9, z_r0_1_0_10] at hp0
  try simp only [z_r0_1, z_r0_2, z_r0_3, z_r0_4, z_r0_5, z_r0_1_0, z_r0_1_1, z_r0_1_2, z_r0_1_0_6, z_r0_1_0_7, z_r0_1_0_8, z_r0_1_0_9, z_r0_1_0_10] at hp1
  try simp only [z_r0_1, z_r0_2, z_r0_3, z_r0_4, z_r0_5, z_r0_1_0, z_r0_1_1, z_r0_1_2, z_r0_1_0_6, z_r0_1_0_7, z_r0_1_0_8, z_r0_1_0_9, z_r0_1_0_10] at hp2
  obtain ⟨w_r0_1_0_0, k0_r0_1_0_0⟩ : ∃ x, I r0_1_0 0 = x := ⟨_, rfl⟩
  have gw_r0_1_0_0 := rg w_r0_1_0_0
  have ow_r0_1_0_0 := IX.p hI A_r0_1_0 T_r0_1_0 k0_r0_1_0_0
  obtain ⟨w_r0_7, k0_r0_7⟩ : ∃ x, I r0 7 = x := ⟨_, rfl⟩
  have gw_r0_7 := rg w_r0_7
  try simp only [k0_r0_1_0_0, k0_r0_7] at hp0
  try simp only [k0_r0_1_0_0, k0_r0_7] at hp1
  try simp only [k0_r0_1_0_0, k0_r0_7] at hp2
  refine k_aload_n C rfl rfl rfl ?_
  refine k_dup C rfl rfl rfl ?_
  refine g_I C rfl rfl rfl T_r0 rfl k0_r0_7 ?_
  refine z_iconst C (z := 1) rfl rfl rfl (fun x1 ex1 => ?_)
  refine z_isub C rfl rfl ⟨by omega, by omega⟩ (fun x2 ex2 => ?_)
  refine z_pI C rfl rfl rfl T_r0 (Or.inr rfl) rfl (fun I3 uI3 => ?_)
  have hI3 : IX A T I3 := IX.f hI T_r0 (boX.tr (by decide) (by decide)) uI3
  have S4 : Chg (SL [r0]) T [(4, 7)] I L I3 L := Chg.f List.mem_cons_self T_r0 uI3
  have e5 := u2_j uI3 (by decide) k0_r0_1_0_0
  have e6 := u2_e uI3
  have hput7 := uI3
  refine z_iconst C (z := 0) rfl rfl rfl (fun x7 ex7 => ?_)
  have J8 : ∀ (nn9 : Nat) (I10 : IT) (L11 : LT) (x12 : Int32), (MN (8 - x12.toInt) nn9) → (IX A T I10) → (Chg (SL [r0, r0_5]) T [] I3 L I10 L11) → (0 ≤ x12.toInt) → (x12.toInt ≤ 8) → (TKL (I10 r0_5) (I r0_5) w_r0_1_0_0.toInt n1.toInt x12.toInt) → V 12 [(0, .ref r0), (1, .int n1), (2, .int x12)] [] (T, N, I10, L11, R) 0 0 := by
    intro nn9
    induction nn9 using Nat.strongRecOn with
    | _ nn9 ihJ8 =>
      intro I10 L11 x12 hmnn9 hI16 S15 b13 b14 ff12_0
      have gx12 := rg x12
      have e18 := Chg.k S15 T_r0_1_0 (by decide) (by decide) e5
      have e19 := Chg.k S15 T_r0 (by decide) (by decide) e6
      refine k_iload_n C rfl rfl rfl ?_
      refine k_aload_n C rfl rfl rfl ?_
      refine g_R C rfl rfl rfl T_r0 rfl R_r0_1 ?_
      refine c_VI C (s_X0_p_x hS hI16 H_r0_1) rfl rfl rfl rfl rfl ⟨_, rfl, rfl, T_r0_1, Nat.le_of_ble_eq_true rfl⟩ rfl rfl (Nat.le_of_ble_eq_true rfl) (Nat.le_of_ble_eq_true rfl) (Nat.le_of_ble_eq_true rfl) ?_
      rintro x20 _ _ ⟨o0x20, o1x20, p0x20, rfl, rfl⟩
      have gx20 := rg x20
      try simp only [z_r0_1, z_r0_2, z_r0_3, z_r0_4, z_r0_5, z_r0_1_0, z_r0_1_1, z_r0_1_2, z_r0_1_0_6, z_r0_1_0_7, z_r0_1_0_8, z_r0_1_0_9, z_r0_1_0_10] at p0x20
      try simp only [e18, e19] at p0x20
      try have q0x20 := congrArg Int32.toInt p0x20
      have hp17 := p0x20; (try simp only [e18] at hp17)
      refine b_icmp_eq C (t := 79) rfl rfl rfl (fun c21 => ?_) (fun c21 => ?_)
      · skip
        exact k_vret C rfl rfl (Nat.le_of_ble_eq_true rfl) (Nat.le_of_ble_eq_true rfl) ⟨_, _, rfl, rfl, by (try simp only [z_r0_1, z_r0_2, z_r0_3, z_r0_4, z_r0_5, z_r0_1_0, z_r0_1_1, z_r0_1_2, z_r0_1_0_6, z_r0_1_0_7, z_r0_1_0_8, z_r0_1_0_9, z_r0_1_0_10]); rw [e19]; simp only [k0_r0_7]; omega, by (try simp only [z_r0_1, z_r0_2, z_r0_3, z_r0_4, z_r0_5, z_r0_1_0, z_r0_1_1, z_r0_1_2, z_r0_1_0_6, z_r0_1_0_7, z_r0_1_0_8, z_r0_1_0_9, z_r0_1_0_10]); simp only [k0_r0_7, k0_r0_1_0_0]; exact TKL.e ff12_0 hp1 (by omega), hI16, (by (try simp only [z_r0_1, z_r0_2, z_r0_3, z_r0_4, z_r0_5, z_r0_1_0, z_r0_1_1, z_r0_1_2, z_r0_1_0_6, z_r0_1_0_7, z_r0_1_0_8, z_r0_1_0_9, z_r0_1_0_10]); exact (Chg.cons (Chg.up S4 (List.forall_mem_cons.mpr ⟨List.mem_of_getElem? (i := 0) rfl, fun _ h => nomatch h⟩)) (Chg.mono S15 (by decide)) (by decide)))⟩
      refine k_iload_n C rfl rfl rfl ?_
      refine k_aload_n C rfl rfl rfl ?_
      refine g_I C rfl rfl rfl T_r0 rfl e19 ?_
      refine b_icmp_ge C (t := 79) rfl rfl rfl (fun c22 => ?_) (fun c22 => ?_)
      · skip
        exact k_vret C rfl rfl (Nat.le_of_ble_eq_true rfl) (Nat.le_of_ble_eq_true rfl) ⟨_, _, rfl, rfl, by (try simp only [z_r0_1, z_r0_2, z_r0_3, z_r0_4, z_r0_5, z_r0_1_0, z_r0_1_1, z_r0_1_2, z_r0_1_0_6, z_r0_1_0_7, z_r0_1_0_8, z_r0_1_0_9, z_r0_1_0_10]); rw [e19]; simp only [k0_r0_7]; omega, by (try simp only [z_r0_1, z_r0_2, z_r0_3, z_r0_4, z_r0_5, z_r0_1_0, z_r0_1_1, z_r0_1_2, z_r0_1_0_6, z_r0_1_0_7, z_r0_1_0_8, z_r0_1_0_9, z_r0_1_0_10]); simp only [k0_r0_7, k0_r0_1_0_0]; exact TKL.e ff12_0 hp1 (by omega), hI16, (by (try simp only [z_r0_1, z_r0_2, z_r0_3, z_r0_4, z_r0_5, z_r0_1_0, z_r0_1_1, z_r0_1_2, z_r0_1_0_6, z_r0_1_0_7, z_r0_1_0_8, z_r0_1_0_9, z_r0_1_0_10]); exact (Chg.cons (Chg.up S4 (List.forall_mem_cons.mpr ⟨List.mem_of_getElem? (i := 0) rfl, fun _ h => nomatch h⟩)) (Chg.mono S15 (by decide)) (by decide)))⟩
      refine k_iload_n C rfl rfl rfl ?_
      refine z_iconst C (z := 1) rfl rfl rfl (fun x23 ex23 => ?_)
      refine z_iadd C rfl rfl ⟨by omega, by omega⟩ (fun x24 ex24 => ?_)
      refine k_aload_n C rfl rfl rfl ?_
      refine g_R C rfl rfl rfl T_r0 rfl R_r0_5 ?_
      refine z_len C (n := 9) rfl rfl (by rw [T_r0_5]; exact Nat.le_of_ble_eq_true rfl) N_r0_5 (Nat.le_of_ble_eq_true rfl) (fun x25 ex25 => ?_)
      refine b_icmp_ge C (t := 79) rfl rfl rfl (fun c26 => by exfalso; omega) (fun c26 => ?_)
      refine k_aload_n C rfl rfl rfl ?_
      refine g_R C rfl rfl rfl T_r0 rfl R_r0_5 ?_
      refine k_iload_n C rfl rfl rfl ?_
      refine k_aload_n C rfl rfl rfl ?_
      refine g_R C rfl rfl rfl T_r0 rfl R_r0_1 ?_
      refine k_aload_n C rfl rfl rfl ?_
      refine g_R C rfl rfl rfl T_r0 rfl R_r0_5 ?_
      refine k_iload_n C rfl rfl rfl ?_
      refine z_iconst C (z := 1) rfl rfl rfl (fun x27 ex27 => ?_)
      refine z_iadd C rfl rfl ⟨by omega, by omega⟩ (fun x28 ex28 => ?_)
      refine z_aI C rfl rfl T_r0_5 N_r0_5 (by omega) (by omega) (fun x29 ex29 => ?_)
      have gx29 := rg x29
      have hr58 := ex29
      refine k_iload_n C rfl rfl rfl ?_
      refine k_aload_n C rfl rfl rfl ?_
      refine g_R C rfl rfl rfl T_r0 rfl R_r0_5 ?_
      refine k_iload_n C rfl rfl rfl ?_
      refine z_aI C rfl rfl T_r0_5 N_r0_5 (by omega) (by omega) (fun x30 ex30 => ?_)
      have gx30 := rg x30
      have hr65 := ex30
      refine z_imulE C rfl rfl (fun x31 ex31 => ?_)
      have gx31 := rg x31
      have m66 := ex31
      refine z_iaddX C rfl rfl (fun x32 ad67 => ?_)
      have gx32 := rg x32
      refine z_i2l C rfl rfl (fun lg33 elg33 => ?_)
      have hl68 := elg33
      refine c_VI C (s_X0_of_x hS hI16 H_r0_1) rfl rfl rfl rfl rfl ⟨_, rfl, rfl, T_r0_1, Nat.le_of_ble_eq_true rfl⟩ rfl rfl (Nat.le_of_ble_eq_true rfl) (Nat.le_of_ble_eq_true rfl) (Nat.le_of_ble_eq_true rfl) ?_
      rintro x34 _ _ ⟨o0x34, o1x34, p0x34, p1x34, rfl, rfl⟩
      have gx34 := rg x34
      try simp only [z_r0_1, z_r0_2, z_r0_3, z_r0_4, z_r0_5, z_r0_1_0, z_r0_1_1, z_r0_1_2, z_r0_1_0_6, z_r0_1_0_7, z_r0_1_0_8, z_r0_1_0_9, z_r0_1_0_10] at p0x34
      try simp only [z_r0_1, z_r0_2, z_r0_3, z_r0_4, z_r0_5, z_r0_1_0, z_r0_1_1, z_r0_1_2, z_r0_1_0_6, z_r0_1_0_7, z_r0_1_0_8, z_r0_1_0_9, z_r0_1_0_10] at p1x34
      try simp only [e18, e19] at p0x34
      try have q0x34 := congrArg Int32.toInt p0x34
      try simp only [e18, e19] at p1x34
      try have q1x34 := congrArg Int32.toInt p1x34
      have hof := p0x34; (try simp only [e18] at hof)
      refine z_sI C rfl rfl T_r0_5 N_r0_5 (by omega) (by omega) (fun I35 uI35 => ?_)
      have hI35 : IX A T I35 := IX.a hI16 T_r0_5 (Nat.le_of_ble_eq_true rfl) uI35
      have S36 : Chg (SL [r0_5]) T [] I10 L11 I35 L11 := Chg.a List.mem_cons_self T_r0_5 (Nat.le_of_ble_eq_true rfl) uI35
      have e37 := u2_n uI35 (t_nq T_r0_1_0 T_r0_5 (by decide)) e18
      have e38 := u2_n uI35 (t_nq T_r0 T_r0_5 (by decide)) e19
      have hput := uI35
      refine z_iinc C (z := 1) (lw := fun x39 => [(2, .int x39), (0, .ref r0), (1, .int n1)]) rfl rfl rfl (Nat.le_of_ble_eq_true rfl) rfl ⟨by omega, by omega⟩ (fun _ => rfl) (fun x39 ex39 => ?_)
      show V 76 [(2, .int x39), (0, .ref r0), (1, .int n1)] _ _ _ _
      refine k_goto C (pc2 := 12) rfl rfl ?_
      refine k_sub S [(0, .ref r0), (1, .int n1), (2, .int x39)] (List.forall_mem_cons.mpr ⟨List.mem_of_getElem? (i := 1) rfl, List.forall_mem_cons.mpr ⟨List.mem_of_getElem? (i := 2) rfl, List.forall_mem_cons.mpr ⟨List.mem_of_getElem? (i := 0) rfl, fun _ h => nomatch h⟩⟩⟩) ?_
      exact ihJ8 _ (MN.lt hmnn9 (by omega) (by omega)) I35 L11 x39 rfl hI35 (Chg.cons S15 (Chg.mono (Chg.up S36 (List.forall_mem_cons.mpr ⟨List.mem_of_getElem? (i := 1) rfl, fun _ h => nomatch h⟩)) (by decide)) (by decide)) (by omega) (by omega) (by exact TKL.s ff12_0 hput hr58 hr65 m66 ad67 hl68 hof (by omega) hp1 (by omega) (by omega) (by omega) (by omega) (by omega) (by omega))
  refine k_istore_n C (lw := [(2, .int x7), (0, .ref r0), (1, .int n1)]) rfl rfl (Nat.le_of_ble_eq_true rfl) rfl ?_
  refine k_sub S [(0, .ref r0), (1, .int n1), (2, .int x7)] (List.forall_mem_cons.mpr ⟨List.mem_of_getElem? (i := 1) rfl, List.forall_mem_cons.mpr ⟨List.mem_of_getElem? (i := 2) rfl, List.forall_mem_cons.mpr ⟨List.mem_of_getElem? (i := 0) rfl, fun _ h => nomatch h⟩⟩⟩) ?_
  exact J8 _ I3 L x7 rfl hI3 Chg.rf (by omega) (by omega) (by exact TKL.z (by rw [hput7]; exact u2_r (t_nq T_r0_5 T_r0 (by decide))) (by omega))

theorem s_X3_beginRow_x {d : Nat} {T N : Nat → Nat} {I : IT} {L : LT} {R : RT} {A B : Nat → Prop} {r0 : Nat} (hS : SUB B A) (hI : IX A T I) (H_r0 : (hs_Po T N R A B) r0) (hU : UPR T R) (hp0 : 0 ≤ (I r0 6).toInt ∧ (I r0 6).toInt ≤ 8) : Ex (d + 1) 50 [.ref r0] (T, N, I, L, R) 0 0 (pV T N R (fun I9 L9 => ((I9 r0 7).toInt = (I r0 6).toInt + 1) ∧ (BRL (I9 (rA R r0 5)) (I (rA R r0 4)) ((I r0 6).toInt + 1)) ∧ (IX A T I9 ∧ Chg (SL [r0, (rA R r0 5)]) T [(4, 7)] I L I9 L9))) := by
  refine ⟨_, rfl, Nat.le_of_ble_eq_true rfl, fun V C S => ?_⟩
  show V 0 [(0, .ref r0)] [] (T, N, I, L, R) 0 0
  obtain ⟨T_r0, A_r0, B_r0, ⟨r0_1, R_r0_1, H_r0_1⟩, ⟨r0_2, R_r0_2, H_r0_2⟩, ⟨r0_3, R_r0_3, H_r0_3⟩, ⟨r0_4, R_r0_4, H_r0_4⟩, ⟨r0_5, R_r0_5, H_r0_5⟩⟩ := id H_r0
  have z_r0_1 : rA R r0 1 = r0_1 := rA_e R_r0_1
  have z_r0_2 : rA R r0 2 = r0_2 := rA_e R_r0_2
  have z_r0_3 : rA R r0 3 = r0_3 := rA_e R_r0_3
  have z_r0_4 : rA R r0 4 = r0_4 := rA_e R_r0_4
  have z_r0_5 : rA R r0 5 = r0_5 := rA_e R_r0_5
  obtain ⟨T_r0_4, N_r0_4, A_r0_4⟩ := id H_r0_4
  obtain ⟨T_r0_5, N_r0_5, A_r0_5⟩ := id H_r0_5
  try simp only [z_r0_1, z_r0_2, z_r0_3, z_r0_4, z_r0_5] at hp0
  obtain ⟨w_r0_6, k0_r0_6⟩ : ∃ x, I r0 6 = x := ⟨_, rfl⟩
  have gw_r0_6 := rg w_r0_6
  try simp only [k0_r0_6] at hp0
  have n45 : NQ9 r0_4 r0_5 := hU.ne (Or.inr (Or.inr (Or.inr (by omega)))) R_r0_4 R_r0_5 (Or.inr (by decide))
  refine k_aload_n C rfl rfl rfl ?_
  refine k_aload_n C rfl rfl rfl ?_
  refine g_I C rfl rfl rfl T_r0 rfl k0_r0_6 ?_
  refine z_iconst C (z := 1) rfl rfl rfl (fun x1 ex1 => ?_)
  refine z_iadd C rfl rfl ⟨by omega, by omega⟩ (fun x2 ex2 => ?_)
  refine z_pI C rfl rfl rfl T_r0 (Or.inr rfl) rfl (fun I3 uI3 => ?_)
  have hI3 : IX A T I3 := IX.f hI T_r0 (boX.tr (by decide) (by decide)) uI3
  have S4 : Chg (SL [r0]) T [(4, 7)] I L I3 L := Chg.f List.mem_cons_self T_r0 uI3
  have e5 := u2_j uI3 (by decide) k0_r0_6
  have e6 := u2_e uI3
  refine z_iconst C (z := 0) rfl rfl rfl (fun x7 ex7 => ?_)
  have J8 : ∀ (nn9 : Nat) (I10 : IT) (L11 : LT) (x12 : Int32), (MN (9 - x12.toInt) nn9) → (IX A T I10) → (Chg (SL [r0, r0_5]) T [] I3 L I10 L11) → (0 ≤ x12.toInt) → (x12.toInt ≤ 9) → (BRL (I10 r0_5) (I r0_4) x12.toInt) → V 12 [(0, .ref r0), (1, .int x12)] [] (T, N, I10, L11, R) 0 0 := by
    intro nn9
    induction nn9 using Nat.strongRecOn with
    | _ nn9 ihJ8 =>
      intro I10 L11 x12 hmnn9 hI16 S15 b13 b14 ff12_0
      have gx12 := rg x12
      have e18 := Chg.k S15 T_r0 (by decide) (by decide) e5
      have e19 := Chg.k S15 T_r0 (by decide) (by decide) e6
      refine k_iload_n C rfl rfl rfl ?_
      refine k_aload_n C rfl rfl rfl ?_
      refine g_I C rfl rfl rfl T_r0 rfl e19 ?_
      refine b_icmp_ge C (t := 56) rfl rfl rfl (fun c20 => ?_) (fun c20 => ?_)
      · skip
        exact k_vret C rfl rfl (Nat.le_of_ble_eq_true rfl) (Nat.le_of_ble_eq_true rfl) ⟨_, _, rfl, rfl, by (try simp only [z_r0_1, z_r0_2, z_r0_3, z_r0_4, z_r0_5]); rw [e19]; simp only [k0_r0_6]; omega, by (try simp only [z_r0_1, z_r0_2, z_r0_3, z_r0_4, z_r0_5]); simp only [k0_r0_6]; exact ff12_0.le (by omega), hI16, (by (try simp only [z_r0_1, z_r0_2, z_r0_3, z_r0_4, z_r0_5]); exact (Chg.cons (Chg.up S4 (List.forall_mem_cons.mpr ⟨List.mem_of_getElem? (i := 0) rfl, fun _ h => nomatch h⟩)) (Chg.mono S15 (by decide)) (by decide)))⟩
      refine k_iload_n C rfl rfl rfl ?_
      refine k_aload_n C rfl rfl rfl ?_
      refine g_R C rfl rfl rfl T_r0 rfl R_r0_5 ?_
      refine z_len C (n := 9) rfl rfl (by rw [T_r0_5]; exact Nat.le_of_ble_eq_true rfl) N_r0_5 (Nat.le_of_ble_eq_true rfl) (fun x21 ex21 => ?_)
      refine b_icmp_ge C (t := 56) rfl rfl rfl (fun c22 => by exfalso; omega) (fun c22 => ?_)
      refine k_iload_n C rfl rfl rfl ?_
      refine k_aload_n C rfl rfl rfl ?_
      refine g_R C rfl rfl rfl T_r0 rfl R_r0_4 ?_
      refine z_len C (n := 9) rfl rfl (by rw [T_r0_4]; exact Nat.le_of_ble_eq_true rfl) N_r0_4 (Nat.le_of_ble_eq_true rfl) (fun x23 ex23 => ?_)
      refine b_icmp_ge C (t := 56) rfl rfl rfl (fun c24 => by exfalso; omega) (fun c24 => ?_)
      refine k_aload_n C rfl rfl rfl ?_
      refine g_R C rfl rfl rfl T_r0 rfl R_r0_5 ?_
      refine k_iload_n C rfl rfl rfl ?_
      refine k_aload_n C rfl rfl rfl ?_
      refine g_R C rfl rfl rfl T_r0 rfl R_r0_4 ?_
      refine k_iload_n C rfl rfl rfl ?_
      refine z_aI C rfl rfl T_r0_4 N_r0_4 (by omega) (by omega) (fun x25 ex25 => ?_)
      have gx25 := rg x25
      have hr48 := ex25; have hq48 := (Chg.at ((Chg.cons (Chg.up S4 (List.forall_mem_cons.mpr ⟨List.mem_of_getElem? (i := 0) rfl, fun _ h => nomatch h⟩)) (Chg.mono S15 (by decide)) (by decide)) : Chg (SL [r0, r0_5]) T [(4, 7)] I L I10 L11) (nm_2 (t_nq T_r0_4 T_r0 (by decide)) (by first | exact n45 | exact fun e => n45 e.symm)))
      refine z_sI C rfl rfl T_r0_5 N_r0_5 (by omega) (by omega) (fun I26 uI26 => ?_)
      have hI26 : IX A T I26 := IX.a hI16 T_r0_5 (Nat.le_of_ble_eq_true rfl) uI26
      have S27 : Chg (SL [r0_5]) T [] I10 L11 I26 L11 := Chg.a List.mem_cons_self T_r0_5 (Nat.le_of_ble_eq_true rfl) uI26
      have e28 := u2_n uI26 (t_nq T_r0 T_r0_5 (by decide)) e18
      have e29 := u2_n uI26 (t_nq T_r0 T_r0_5 (by decide)) e19
      have hput49 := uI26
      refine z_iinc C (z := 1) (lw := fun x30 => [(1, .int x30), (0, .ref r0)]) rfl rfl rfl (Nat.le_of_ble_eq_true rfl) rfl ⟨by omega, by omega⟩ (fun _ => rfl) (fun x30 ex30 => ?_)
      show V 53 [(1, .int x30), (0, .ref r0)] _ _ _ _
      refine k_goto C (pc2 := 12) rfl rfl ?_
      refine k_sub S [(0, .ref r0), (1, .int x30)] (List.forall_mem_cons.mpr ⟨List.mem_of_getElem? (i := 1) rfl, List.forall_mem_cons.mpr ⟨List.mem_of_getElem? (i := 0) rfl, fun _ h => nomatch h⟩⟩) ?_
      exact ihJ8 _ (MN.lt hmnn9 (by omega) (by omega)) I26 L11 x30 rfl hI26 (Chg.cons S15 (Chg.mono (Chg.up S27 (List.forall_mem_cons.mpr ⟨List.mem_of_getElem? (i := 1) rfl, fun _ h => nomatch h⟩)) (by decide)) (by decide)) (by omega) (by omega) (by exact BRL.s ff12_0 hput49 hr48 hq48 (by omega) (by omega))
  refine k_istore_n C (lw := [(1, .int x7), (0, .ref r0)]) rfl rfl (Nat.le_of_ble_eq_true rfl) rfl ?_
  refine k_sub S [(0, .ref r0), (1, .int x7)] (List.forall_mem_cons.mpr ⟨List.mem_of_getElem? (i := 1) rfl, List.forall_mem_cons.mpr ⟨List.mem_of_getElem? (i := 0) rfl, fun _ h => nomatch h⟩⟩) ?_
  exact J8 _ I3 L x7 rfl hI3 Chg.rf (by omega) (by omega) (by exact BRL.z (by omega))

theorem s_X3_isSumOf_x {d : Nat} {T N : Nat → Nat} {I : IT} {L : LT} {R : RT} {A B : Nat → Prop} {r0 : Nat} {n1 : Int32} (hS : SUB B A) (hI : IX A T I) (H_r0 : (hs_Po T N R A B) r0) (b0_n1 : 0 ≤ n1.toInt) (b1_n1 : n1.toInt ≤ 3) (hU : UPR T R) (hp0 : 0 ≤ (I r0 6).toInt ∧ (I r0 6).toInt ≤ 8) (hp1 : ∀ j : Nat, (j : Int) < (I r0 6).toInt + 1 → 0 ≤ NF I (rA R r0 4) j ∧ NF I (rA R r0 4) j < (I (rA R (rA R r0 1) 0) 0).toInt) (hp2 : ∀ j : Nat, (j : Int) < n1.toInt → 0 ≤ NF I (rA R r0 2) j ∧ NF I (rA R r0 2) j ≤ (I (rA R (rA R r0 1) 0) 0).toInt) : Ex (d + 3) 52 [.ref r0, .int n1] (T, N, I, L, R) 0 0 (pI T N R (fun x9 I9 L9 => (0 ≤ x9.toInt) ∧ (x9.toInt ≤ 1) ∧ (IFF x9.toInt (ISQ (I (rA R (rA R r0 1) 0) 0).toInt (I r0 6).toInt (NF I (rA R r0 4)) (NF I (rA R r0 2)) n1.toNatClampNeg)) ∧ (IX A T I9 ∧ Chg (SL [r0, (rA R r0 5)]) T [(4, 7)] I L I9 L9))) := by
  refine ⟨_, rfl, Nat.le_of_ble_eq_true rfl, fun V C S => ?_⟩
  show V 0 [(0, .ref r0), (1, .int n1)] [] (T, N, I, L, R) 0 0
  have gn1 := rg n1
  obtain ⟨T_r0, A_r0, B_r0, ⟨r0_1, R_r0_1, H_r0_1⟩, ⟨r0_2, R_r0_2, H_r0_2⟩, ⟨r0_3, R_r0_3, H_r0_3⟩, ⟨r0_4, R_r0_4, H_r0_4⟩, ⟨r0_5, R_r0_5, H_r0_5⟩⟩ := id H_r0
  have z_r0_1 : rA R r0 1 = r0_1 := rA_e R_r0_1
  have z_r0_2 : rA R r0 2 = r0_2 := rA_e R_r0_2
  have z_r0_3 : rA R r0 3 = r0_3 := rA_e R_r0_3
  have z_r0_4 : rA R r0 4 = r0_4 := rA_e R_r0_4
  have z_r0_5 : rA R r0 5 = r0_5 := rA_e R_r0_5
  obtain ⟨T_r0_1, A_r0_1, B_r0_1, ⟨r0_1_0, R_r0_1_0, H_r0_1_0⟩, ⟨r0_1_1, R_r0_1_1, H_r0_1_1⟩, ⟨r0_1_2, R_r0_1_2, H_r0_1_2⟩⟩ := id H_r0_1
  have z_r0_1_0 : rA R r0_1 0 = r0_1_0 := rA_e R_r0_1_0
  have z_r0_1_1 : rA R r0_1 1 = r0_1_1 := rA_e R_r0_1_1
  have z_r0_1_2 : rA R r0_1 2 = r0_1_2 := rA_e R_r0_1_2
  obtain ⟨T_r0_1_0, A_r0_1_0, B_r0_1_0, ⟨r0_1_0_6, R_r0_1_0_6, H_r0_1_0_6⟩, ⟨r0_1_0_7, R_r0_1_0_7, H_r0_1_0_7⟩, ⟨r0_1_0_8, R_r0_1_0_8, H_r0_1_0_8⟩, ⟨r0_1_0_9, R_r0_1_0_9, H_r0_1_0_9⟩, ⟨r0_1_0_10, R_r0_1_0_10, H_r0_1_0_10⟩⟩ := id H_r0_1_0
  have z_r0_1_0_6 : rA R r0_1_0 6 = r0_1_0_6 := rA_e R_r0_1_0_6
  have z_r0_1_0_7 : rA R r0_1_0 7 = r0_1_0_7 := rA_e R_r0_1_0_7
  have z_r0_1_0_8 : rA R r0_1_0 8 = r0_1_0_8 := rA_e R_r0_1_0_8
  have z_r0_1_0_9 : rA R r0_1_0 9 = r0_1_0_9 := rA_e R_r0_1_0_9
  have z_r0_1_0_10 : rA R r0_1_0 10 = r0_1_0_10 := rA_e R_r0_1_0_10
  obtain ⟨T_r0_2, N_r0_2, A_r0_2⟩ := id H_r0_2
  obtain ⟨T_r0_4, N_r0_4, A_r0_4⟩ := id H_r0_4
  obtain ⟨T_r0_5, N_r0_5, A_r0_5⟩ := id H_r0_5
  try simp only [z_r0_1, z_r0_2, z_r0_3, z_r0_4, z_r0_5, z_r0_1_0, z_r0_1_1, z_r0_1_2, z_r0_1_0_6, z_r0_1_0_7, z_r0_1_0_8, z_r0_1_0_9, z_r0_1_0_10] at hp0
  try simp only [z_r0_1, z_r0_2, z_r0_3, z_r0_4, z_r0_5, z_r0_1_0, z_r0_1_1, z_r0_1_2, z_r0_1_0_6, z_r0_1_0_7, z_r0_1_0_8, z_r0_1_0_9, z_r0_1_0_10] at hp1
  try simp only [z_r0_1, z_r0_2, z_r0_3, z_r0_4, z_r0_5, z_r0_1_0, z_r0_1_1, z_r0_1_2, z_r0_1_0_6, z_r0_1_0_7, z_r0_1_0_8, z_r0_1_0_9, z_r0_1_0_10] at hp2
  obtain ⟨w_r0_1_0_0, k0_r0_1_0_0⟩ : ∃ x, I r0_1_0 0 = x := ⟨_, rfl⟩
  have gw_r0_1_0_0 := rg w_r0_1_0_0
  have ow_r0_1_0_0 := IX.p hI A_r0_1_0 T_r0_1_0 k0_r0_1_0_0
  obtain ⟨w_r0_6, k0_r0_6⟩ : ∃ x, I r0 6 = x := ⟨_, rfl⟩
  have gw_r0_6 := rg w_r0_6
  try simp only [k0_r0_1_0_0, k0_r0_6] at hp0
  try simp only [k0_r0_1_0_0, k0_r0_6] at hp1
  try simp only [k0_r0_1_0_0, k0_r0_6] at hp2
  have n25 : NQ9 r0_2 r0_5 := hU.ne (Or.inr (Or.inr (Or.inr (by omega)))) R_r0_2 R_r0_5 (Or.inr (by decide))
  have n45 : NQ9 r0_4 r0_5 := hU.ne (Or.inr (Or.inr (Or.inr (by omega)))) R_r0_4 R_r0_5 (Or.inr (by decide))
  refine k_aload_n C rfl rfl rfl ?_
  refine c_VV C (s_X3_beginRow_x hS hI H_r0 hU (by first | omega | (simp only [k0_r0_1_0_0, k0_r0_6, and_true, true_and, or_true, true_or, and_false, false_and, or_false, false_or] <;> omega))) rfl rfl rfl rfl rfl ⟨_, rfl, rfl, T_r0, Nat.le_of_ble_eq_true rfl⟩ rfl rfl (Nat.le_of_ble_eq_true rfl) (Nat.le_of_ble_eq_true rfl) (Nat.le_of_ble_eq_true rfl) ?_
  rintro I2 L3 ⟨p0v1, p1v1, hI2, S4⟩
  try simp only [z_r0_1, z_r0_2, z_r0_3, z_r0_4, z_r0_5, z_r0_1_0, z_r0_1_1, z_r0_1_2, z_r0_1_0_6, z_r0_1_0_7, z_r0_1_0_8, z_r0_1_0_9, z_r0_1_0_10] at S4
  have e5 := Chg.k S4 T_r0_1_0 (by decide) (by decide) k0_r0_1_0_0
  have e6 := Chg.k S4 T_r0 (by decide) (by decide) k0_r0_6
  obtain ⟨x7, e8⟩ : ∃ x, I2 r0 7 = x := ⟨_, rfl⟩
  have gx7 := rg x7
  try simp only [z_r0_1, z_r0_2, z_r0_3, z_r0_4, z_r0_5, z_r0_1_0, z_r0_1_1, z_r0_1_2, z_r0_1_0_6, z_r0_1_0_7, z_r0_1_0_8, z_r0_1_0_9, z_r0_1_0_10] at p0v1
  try simp only [z_r0_1, z_r0_2, z_r0_3, z_r0_4, z_r0_5, z_r0_1_0, z_r0_1_1, z_r0_1_2, z_r0_1_0_6, z_r0_1_0_7, z_r0_1_0_8, z_r0_1_0_9, z_r0_1_0_10] at p1v1
  try simp only [k0_r0_1_0_0, k0_r0_6, e8] at p0v1
  try have q0v1 := congrArg Int32.toInt p0v1
  try simp only [k0_r0_1_0_0, k0_r0_6, e8] at p1v1
  try have q1v1 := congrArg Int32.toInt p1v1
  have hbr := p1v1; (try simp only [z_r0_1, z_r0_2, z_r0_3, z_r0_4, z_r0_5, z_r0_1_0, z_r0_1_1, z_r0_1_2, z_r0_1_0_6, z_r0_1_0_7, z_r0_1_0_8, z_r0_1_0_9, z_r0_1_0_10] at hbr)
  refine z_iconst C (z := 0) rfl rfl rfl (fun x9 ex9 => ?_)
  have J10 : ∀ (nn11 : Nat) (I12 : IT) (L13 : LT) (x14 : Int32) (x19 : Int32), (MN (3 - x14.toInt) nn11) → (IX A T I12) → (Chg (SL [r0, r0_5]) T [(4, 7)] I2 L3 I12 L13) → (0 ≤ x14.toInt) → (x14.toInt ≤ 3) → (I12 r0 7 = x19) → (-90 ≤ x19.toInt) → (x19.toInt ≤ 9) → (RWK (I12 r0_5) w_r0_1_0_0.toInt 9 (NF I r0_2) (NF I r0_4) (w_r0_6.toInt + 1) x14.toNatClampNeg) → (x19.toInt = LNS 9 (w_r0_6.toInt + 1) x14.toNatClampNeg) → (x19.toInt = w_r0_6.toInt + 1 - x14.toInt) → (x14.toInt ≤ n1.toInt) → V 6 [(0, .ref r0), (1, .int n1), (2, .int x14)] [] (T, N, I12, L13, R) 0 0 := by
    intro nn11
    induction nn11 using Nat.strongRecOn with
    | _ nn11 ihJ10 =>
      intro I12 L13 x14 x19 hmnn11 hI18 S17 b15 b16 e20 b21 b22 ff6_0 ff6_1 ff6_2 ff6_3
      have gx14 := rg x14
      have gx19 := rg x19
      have e27 := Chg.k S17 T_r0_1_0 (by decide) (by decide) e5
      have e28 := Chg.k S17 T_r0 (by decide) (by decide) e6
      refine k_iload_n C rfl rfl rfl ?_
      refine k_iload_n C rfl rfl rfl ?_
      refine b_icmp_ge C (t := 36) rfl rfl rfl (fun c29 => ?_) (fun c29 => ?_)
      · skip
        refine z_iconst C (z := 0) rfl rfl rfl (fun x30 ex30 => ?_)
        have J31 : ∀ (nn32 : Nat) (x33 : Int32), (MN (9 - x33.toInt) nn32) → (0 ≤ x33.toInt) → (x33.toInt ≤ 9) → (∀ j : Nat, (j : Int) < x33.toInt → (I12 r0_5 j).toInt = 0) → V 38 [(0, .ref r0), (2, .int x33)] [] (T, N, I12, L13, R) 0 0 := by
          intro nn32
          induction nn32 using Nat.strongRecOn with
          | _ nn32 ihJ31 =>
            intro x33 hmnn32 b34 b35 ff38_0
            have gx33 := rg x33
            refine k_iload_n C rfl rfl rfl ?_
            refine k_aload_n C rfl rfl rfl ?_
            refine g_I C rfl rfl rfl T_r0 rfl e20 ?_
            refine b_icmp_ge C (t := 72) rfl rfl rfl (fun c37 => ?_) (fun c37 => ?_)
            · skip
              refine z_iconst C (z := 1) rfl rfl rfl (fun x38 ex38 => ?_)
              exact k_iret C rfl (Or.inr ⟨rfl, z01 (by omega) (by omega)⟩) (Nat.le_of_ble_eq_true rfl) (Nat.le_of_ble_eq_true rfl) ⟨_, _, _, rfl, rfl, by omega, by omega, by (try simp only [z_r0_1, z_r0_2, z_r0_3, z_r0_4, z_r0_5, z_r0_1_0, z_r0_1_1, z_r0_1_2, z_r0_1_0_6, z_r0_1_0_7, z_r0_1_0_8, z_r0_1_0_9, z_r0_1_0_10]); simp only [k0_r0_6, k0_r0_1_0_0]; exact ISQ.y ff6_0 ff6_1 ff38_0 (by omega) (by omega) (nct (by omega)), hI18, (by (try simp only [z_r0_1, z_r0_2, z_r0_3, z_r0_4, z_r0_5, z_r0_1_0, z_r0_1_1, z_r0_1_2, z_r0_1_0_6, z_r0_1_0_7, z_r0_1_0_8, z_r0_1_0_9, z_r0_1_0_10]); exact (Chg.cons (Chg.up S4 (List.forall_mem_cons.mpr ⟨List.mem_of_getElem? (i := 0) rfl, List.forall_mem_cons.mpr ⟨List.mem_of_getElem? (i := 1) rfl, fun _ h => nomatch h⟩⟩)) (Chg.mono S17 (by decide)) (by decide)))⟩
            refine k_iload_n C rfl rfl rfl ?_
            refine k_aload_n C rfl rfl rfl ?_
            refine g_R C rfl rfl rfl T_r0 rfl R_r0_5 ?_
            refine z_len C (n := 9) rfl rfl (by rw [T_r0_5]; exact Nat.le_of_ble_eq_true rfl) N_r0_5 (Nat.le_of_ble_eq_true rfl) (fun x39 ex39 => ?_)
            refine b_icmp_ge C (t := 72) rfl rfl rfl (fun c40 => by exfalso; omega) (fun c40 => ?_)
            refine k_aload_n C rfl rfl rfl ?_
            refine g_R C rfl rfl rfl T_r0 rfl R_r0_5 ?_
            refine k_iload_n C rfl rfl rfl ?_
            refine z_aI C rfl rfl T_r0_5 N_r0_5 (by omega) (by omega) (fun x41 ex41 => ?_)
            have gx41 := rg x41
            have hr60 := ex41
            refine b_if_eq C (t := 66) rfl rfl rfl (fun c42 => ?_) (fun c42 => ?_)
            · skip
              refine z_iinc C (z := 1) (lw := fun x43 => [(2, .int x43), (0, .ref r0)]) rfl rfl rfl (Nat.le_of_ble_eq_true rfl) rfl ⟨by omega, by omega⟩ (fun _ => rfl) (fun x43 ex43 => ?_)
              show V 69 [(2, .int x43), (0, .ref r0)] _ _ _ _
              refine k_goto C (pc2 := 38) rfl rfl ?_
              refine k_sub S [(0, .ref r0), (2, .int x43)] (List.forall_mem_cons.mpr ⟨List.mem_of_getElem? (i := 1) rfl, List.forall_mem_cons.mpr ⟨List.mem_of_getElem? (i := 0) rfl, fun _ h => nomatch h⟩⟩) ?_
              exact ihJ31 _ (MN.lt hmnn32 (by omega) (by omega)) x43 rfl (by omega) (by omega) (by intro j hj; have h9 := ncz (x := x33) (by omega); exact (Classical.em (j = x33.toNatClampNeg)).elim (fun h8 => by ((rw [h8, hr60]; omega))) (fun h8 => by (exact ff38_0 j (by omega))))
            refine z_iconst C (z := 0) rfl rfl rfl (fun x44 ex44 => ?_)
            exact k_iret C rfl (Or.inr ⟨rfl, z01 (by omega) (by omega)⟩) (Nat.le_of_ble_eq_true rfl) (Nat.le_of_ble_eq_true rfl) ⟨_, _, _, rfl, rfl, by omega, by omega, by (try simp only [z_r0_1, z_r0_2, z_r0_3, z_r0_4, z_r0_5, z_r0_1_0, z_r0_1_1, z_r0_1_2, z_r0_1_0_6, z_r0_1_0_7, z_r0_1_0_8, z_r0_1_0_9, z_r0_1_0_10]); simp only [k0_r0_6, k0_r0_1_0_0]; exact ISQ.n ff6_0 ff6_1 hr60 (by omega) (by omega) (by omega) (by omega) (nct (by omega)), hI18, (by (try simp only [z_r0_1, z_r0_2, z_r0_3, z_r0_4, z_r0_5, z_r0_1_0, z_r0_1_1, z_r0_1_2, z_r0_1_0_6, z_r0_1_0_7, z_r0_1_0_8, z_r0_1_0_9, z_r0_1_0_10]); exact (Chg.cons (Chg.up S4 (List.forall_mem_cons.mpr ⟨List.mem_of_getElem? (i := 0) rfl, List.forall_mem_cons.mpr ⟨List.mem_of_getElem? (i := 1) rfl, fun _ h => nomatch h⟩⟩)) (Chg.mono S17 (by decide)) (by decide)))⟩
        refine k_istore_n C (lw := [(2, .int x30), (0, .ref r0), (1, .int n1)]) rfl rfl (Nat.le_of_ble_eq_true rfl) rfl ?_
        refine k_sub S [(0, .ref r0), (2, .int x30)] (List.forall_mem_cons.mpr ⟨List.mem_of_getElem? (i := 1) rfl, List.forall_mem_cons.mpr ⟨List.mem_of_getElem? (i := 0) rfl, fun _ h => nomatch h⟩⟩) ?_
        exact J31 _ x30 rfl (by omega) (by omega) (by intro j hj; omega)
      refine k_iload_n C rfl rfl rfl ?_
      refine k_aload_n C rfl rfl rfl ?_
      refine g_R C rfl rfl rfl T_r0 rfl R_r0_2 ?_
      refine z_len C (n := 3) rfl rfl (by rw [T_r0_2]; exact Nat.le_of_ble_eq_true rfl) N_r0_2 (Nat.le_of_ble_eq_true rfl) (fun x45 ex45 => ?_)
      refine b_icmp_ge C (t := 36) rfl rfl rfl (fun c46 => by exfalso; omega) (fun c46 => ?_)
      refine k_aload_n C rfl rfl rfl ?_
      refine k_aload_n C rfl rfl rfl ?_
      refine g_R C rfl rfl rfl T_r0 rfl R_r0_2 ?_
      refine k_iload_n C rfl rfl rfl ?_
      refine z_aI C rfl rfl T_r0_2 N_r0_2 (by omega) (by omega) (fun x47 ex47 => ?_)
      have gx47 := rg x47
      have hr26 := ex47; have hq26 := (Chg.at ((Chg.cons (Chg.up S4 (List.forall_mem_cons.mpr ⟨List.mem_of_getElem? (i := 0) rfl, List.forall_mem_cons.mpr ⟨List.mem_of_getElem? (i := 1) rfl, fun _ h => nomatch h⟩⟩)) (Chg.mono S17 (by decide)) (by decide)) : Chg (SL [r0, r0_5]) T [(4, 7)] I L I12 L13) (nm_2 (t_nq T_r0_2 T_r0 (by decide)) (by first | exact n25 | exact fun e => n25 e.symm))); have ht26 : x47.toInt = NF I r0_2 x14.toNatClampNeg := (by rw [← hr26, hq26]; rfl); have hb26 := hp2 x14.toNatClampNeg (by have h9 := ncz (x := x14) (by omega); omega); have hk26 := e20; have hw26 := e27
      refine c_VV C (s_X3_takeOut_x hS hI18 H_r0 (by omega) (by omega) hU (by rw [e20]; omega) (by rw [e20, z_r0_5, z_r0_1, z_r0_1_0, e27]; exact RWK.b ff6_0 ff6_1) (by rw [z_r0_1, z_r0_1_0, e27]; omega)) rfl rfl rfl rfl rfl ⟨_, rfl, rfl, T_r0, Nat.le_of_ble_eq_true rfl⟩ rfl rfl (Nat.le_of_ble_eq_true rfl) (Nat.le_of_ble_eq_true rfl) (Nat.le_of_ble_eq_true rfl) ?_
      rintro I49 L50 ⟨p0v48, p1v48, hI49, S51⟩
      try simp only [z_r0_1, z_r0_2, z_r0_3, z_r0_4, z_r0_5, z_r0_1_0, z_r0_1_1, z_r0_1_2, z_r0_1_0_6, z_r0_1_0_7, z_r0_1_0_8, z_r0_1_0_9, z_r0_1_0_10] at S51
      have e52 := Chg.k S51 T_r0_1_0 (by decide) (by decide) e27
      have e53 := Chg.k S51 T_r0 (by decide) (by decide) e28
      obtain ⟨x54, e55⟩ : ∃ x, I49 r0 7 = x := ⟨_, rfl⟩
      have gx54 := rg x54
      try simp only [z_r0_1, z_r0_2, z_r0_3, z_r0_4, z_r0_5, z_r0_1_0, z_r0_1_1, z_r0_1_2, z_r0_1_0_6, z_r0_1_0_7, z_r0_1_0_8, z_r0_1_0_9, z_r0_1_0_10] at p0v48
      try simp only [z_r0_1, z_r0_2, z_r0_3, z_r0_4, z_r0_5, z_r0_1_0, z_r0_1_1, z_r0_1_2, z_r0_1_0_6, z_r0_1_0_7, z_r0_1_0_8, z_r0_1_0_9, z_r0_1_0_10] at p1v48
      try simp only [e27, e28, e20, e55] at p0v48
      try have q0v48 := congrArg Int32.toInt p0v48
      try simp only [e27, e28, e20, e55] at p1v48
      try have q1v48 := congrArg Int32.toInt p1v48
      have hto := p1v48; (try simp only [z_r0_1, z_r0_2, z_r0_3, z_r0_4, z_r0_5, z_r0_1_0, z_r0_1_1, z_r0_1_2, z_r0_1_0_6, z_r0_1_0_7, z_r0_1_0_8, z_r0_1_0_9, z_r0_1_0_10, hk26, hw26] at hto)
      refine z_iinc C (z := 1) (lw := fun x56 => [(2, .int x56), (0, .ref r0), (1, .int n1)]) rfl rfl rfl (Nat.le_of_ble_eq_true rfl) rfl ⟨by omega, by omega⟩ (fun _ => rfl) (fun x56 ex56 => ?_)
      show V 33 [(2, .int x56), (0, .ref r0), (1, .int n1)] _ _ _ _
      refine k_goto C (pc2 := 6) rfl rfl ?_
      refine k_sub S [(0, .ref r0), (1, .int n1), (2, .int x56)] (List.forall_mem_cons.mpr ⟨List.mem_of_getElem? (i := 1) rfl, List.forall_mem_cons.mpr ⟨List.mem_of_getElem? (i := 2) rfl, List.forall_mem_cons.mpr ⟨List.mem_of_getElem? (i := 0) rfl, fun _ h => nomatch h⟩⟩⟩) ?_
      exact ihJ10 _ (MN.lt hmnn11 (by omega) (by omega)) I49 L50 x56 x54 rfl hI49 (Chg.cons S17 (Chg.mono (Chg.up S51 (List.forall_mem_cons.mpr ⟨List.mem_of_getElem? (i := 0) rfl, List.forall_mem_cons.mpr ⟨List.mem_of_getElem? (i := 1) rfl, fun _ h => nomatch h⟩⟩)) (by decide)) (by decide)) (by omega) (by omega) e55 (by omega) (by omega) (by exact RWK.s ff6_0 hto ff6_1 ht26 (by have h9 := ncz (x := x14) (by omega); omega) (ncs (by omega) (by omega))) (by rw [ncs (k := x14) (by omega) (by omega), LNS.o (by have h9 := ncz (x := x14) (by omega); omega), ← ff6_1]; omega) (by omega) (by omega)
  refine k_istore_n C (lw := [(2, .int x9), (0, .ref r0), (1, .int n1)]) rfl rfl (Nat.le_of_ble_eq_true rfl) rfl ?_
  refine k_sub S [(0, .ref r0), (1, .int n1), (2, .int x9)] (List.forall_mem_cons.mpr ⟨List.mem_of_getElem? (i := 1) rfl, List.forall_mem_cons.mpr ⟨List.mem_of_getElem? (i := 2) rfl, List.forall_mem_cons.mpr ⟨List.mem_of_getElem? (i := 0) rfl, fun _ h => nomatch h⟩⟩⟩) ?_
  exact J10 _ I2 L3 x9 x7 rfl hI2 Chg.rf (by omega) (by omega) e8 (by omega) (by omega) (by exact RWK.z hbr (fun j hj => hp1 j hj) (ncz0 (by omega))) (by rw [ncz0 (by omega)]; show _ = _ + (1 : Int); omega) (by omega) (by omega)

theorem s_X3_isNextChoice_x {d : Nat} {T N : Nat → Nat} {I : IT} {L : LT} {R : RT} {A B : Nat → Prop} {r0 : Nat} {n1 : Int32} (hS : SUB B A) (hI : IX A T I) (H_r0 : (hs_Po T N R A B) r0) (b0_n1 : 0 ≤ n1.toInt) (b1_n1 : n1.toInt ≤ 3) (hU : UPR T R) (hp0 : ∀ j : Nat, (j : Int) < n1.toInt → 0 ≤ NF I (rA R r0 2) j ∧ NF I (rA R r0 2) j ≤ (I (rA R (rA R r0 1) 0) 0).toInt) : Ex (d + 2) 53 [.ref r0, .int n1] (T, N, I, L, R) 0 0 (pI T N R (fun x9 I9 L9 => (0 ≤ x9.toInt) ∧ (x9.toInt ≤ 1) ∧ (x9.toInt = 0 → LSC (NF I (rA R r0 2)) (I (rA R (rA R r0 1) 0) 0).toInt n1.toNatClampNeg) ∧ (x9.toInt = 1 → NXC (NF I9 (rA R r0 2)) (NF I (rA R r0 2)) (I (rA R (rA R r0 1) 0) 0).toInt n1.toNatClampNeg) ∧ (IX A T I9 ∧ Chg (SL [(rA R r0 2)]) T [] I L I9 L9))) := by
  refine ⟨_, rfl, Nat.le_of_ble_eq_true rfl, fun V C S => ?_⟩
  show V 0 [(0, .ref r0), (1, .int n1)] [] (T, N, I, L, R) 0 0
  have gn1 := rg n1
  obtain ⟨T_r0, A_r0, B_r0, ⟨r0_1, R_r0_1, H_r0_1⟩, ⟨r0_2, R_r0_2, H_r0_2⟩, ⟨r0_3, R_r0_3, H_r0_3⟩, ⟨r0_4, R_r0_4, H_r0_4⟩, ⟨r0_5, R_r0_5, H_r0_5⟩⟩ := id H_r0
  have z_r0_1 : rA R r0 1 = r0_1 := rA_e R_r0_1
  have z_r0_2 : rA R r0 2 = r0_2 := rA_e R_r0_2
  have z_r0_3 : rA R r0 3 = r0_3 := rA_e R_r0_3
  have z_r0_4 : rA R r0 4 = r0_4 := rA_e R_r0_4
  have z_r0_5 : rA R r0 5 = r0_5 := rA_e R_r0_5
  obtain ⟨T_r0_1, A_r0_1, B_r0_1, ⟨r0_1_0, R_r0_1_0, H_r0_1_0⟩, ⟨r0_1_1, R_r0_1_1, H_r0_1_1⟩, ⟨r0_1_2, R_r0_1_2, H_r0_1_2⟩⟩ := id H_r0_1
  have z_r0_1_0 : rA R r0_1 0 = r0_1_0 := rA_e R_r0_1_0
  have z_r0_1_1 : rA R r0_1 1 = r0_1_1 := rA_e R_r0_1_1
  have z_r0_1_2 : rA R r0_1 2 = r0_1_2 := rA_e R_r0_1_2
  obtain ⟨T_r0_1_0, A_r0_1_0, B_r0_1_0, ⟨r0_1_0_6, R_r0_1_0_6, H_r0_1_0_6⟩, ⟨r0_1_0_7, R_r0_1_0_7, H_r0_1_0_7⟩, ⟨r0_1_0_8, R_r0_1_0_8, H_r0_1_0_8⟩, ⟨r0_1_0_9, R_r0_1_0_9, H_r0_1_0_9⟩, ⟨r0_1_0_10, R_r0_1_0_10, H_r0_1_0_10⟩⟩ := id H_r0_1_0
  have z_r0_1_0_6 : rA R r0_1_0 6 = r0_1_0_6 := rA_e R_r0_1_0_6
  have z_r0_1_0_7 : rA R r0_1_0 7 = r0_1_0_7 := rA_e R_r0_1_0_7
  have z_r0_1_0_8 : rA R r0_1_0 8 = r0_1_0_8 := rA_e R_r0_1_0_8
  have z_r0_1_0_9 : rA R r0_1_0 9 = r0_1_0_9 := rA_e R_r0_1_0_9
  have z_r0_1_0_10 : rA R r0_1_0 10 = r0_1_0_10 := rA_e R_r0_1_0_10
  obtain ⟨T_r0_2, N_r0_2, A_r0_2⟩ := id H_r0_2
  try simp only [z_r0_1, z_r0_2, z_r0_3, z_r0_4, z_r0_5, z_r0_1_0, z_r0_1_1, z_r0_1_2, z_r0_1_0_6, z_r0_1_0_7, z_r0_1_0_8, z_r0_1_0_9, z_r0_1_0_10] at hp0
  obtain ⟨w_r0_1_0_0, k0_r0_1_0_0⟩ : ∃ x, I r0_1_0 0 = x := ⟨_, rfl⟩
  have gw_r0_1_0_0 := rg w_r0_1_0_0
  have ow_r0_1_0_0 := IX.p hI A_r0_1_0 T_r0_1_0 k0_r0_1_0_0
  try simp only [k0_r0_1_0_0] at hp0
  refine k_iload_n C rfl rfl rfl ?_
  refine k_aload_n C rfl rfl rfl ?_
  refine g_R C rfl rfl rfl T_r0 rfl R_r0_2 ?_
  refine z_len C (n := 3) rfl rfl (by rw [T_r0_2]; exact Nat.le_of_ble_eq_true rfl) N_r0_2 (Nat.le_of_ble_eq_true rfl) (fun x1 ex1 => ?_)
  refine c_SI C (s_J9_min_7cf53 hS hI ) rfl rfl rfl rfl rfl rfl rfl (Nat.le_of_ble_eq_true rfl) (Nat.le_of_ble_eq_true rfl) (Nat.le_of_ble_eq_true rfl) ?_
  rintro x2 _ _ ⟨p0x2, p1x2, p2x2, rfl, rfl⟩
  have gx2 := rg x2
  try simp only [z_r0_1, z_r0_2, z_r0_3, z_r0_4, z_r0_5, z_r0_1_0, z_r0_1_1, z_r0_1_2, z_r0_1_0_6, z_r0_1_0_7, z_r0_1_0_8, z_r0_1_0_9, z_r0_1_0_10] at p0x2
  try simp only [z_r0_1, z_r0_2, z_r0_3, z_r0_4, z_r0_5, z_r0_1_0, z_r0_1_1, z_r0_1_2, z_r0_1_0_6, z_r0_1_0_7, z_r0_1_0_8, z_r0_1_0_9, z_r0_1_0_10] at p1x2
  try simp only [z_r0_1, z_r0_2, z_r0_3, z_r0_4, z_r0_5, z_r0_1_0, z_r0_1_1, z_r0_1_2, z_r0_1_0_6, z_r0_1_0_7, z_r0_1_0_8, z_r0_1_0_9, z_r0_1_0_10] at p2x2
  try simp only [k0_r0_1_0_0] at p0x2
  try have q0x2 := congrArg Int32.toInt p0x2
  try simp only [k0_r0_1_0_0] at p1x2
  try have q1x2 := congrArg Int32.toInt p1x2
  try simp only [k0_r0_1_0_0] at p2x2
  try have q2x2 := congrArg Int32.toInt p2x2
  have hm0 := p0x2; have hm1 := p1x2; have hm2 := p2x2
  refine z_iconst C (z := 1) rfl rfl rfl (fun x3 ex3 => ?_)
  refine z_isub C rfl rfl ⟨by omega, by omega⟩ (fun x4 ex4 => ?_)
  have J5 : ∀ (nn6 : Nat) (x7 : Int32), (MN (x7.toInt - (-1)) nn6) → (-1 ≤ x7.toInt) → (x7.toInt ≤ 2) → (∀ j : Nat, x7.toInt < (j : Int) → (j : Int) < n1.toInt → w_r0_1_0_0.toInt - (n1.toInt - 1 - (j : Int)) ≤ NF I r0_2 j) → (x7.toInt ≤ n1.toInt - 1) → V 12 [(0, .ref r0), (1, .int n1), (2, .int x7)] [] (T, N, I, L, R) 0 0 := by
    intro nn6
    induction nn6 using Nat.strongRecOn with
    | _ nn6 ihJ5 =>
      intro x7 hmnn6 b8 b9 ff12_0 ff12_1
      have gx7 := rg x7
      refine k_iload_n C rfl rfl rfl ?_
      refine b_if_lt C (t := 44) rfl rfl rfl (fun c12 => ?_) (fun c12 => ?_)
      · skip
        refine k_iload_n C rfl rfl rfl ?_
        refine b_if_ge C (t := 50) rfl rfl rfl (fun c13 => by exfalso; omega) (fun c13 => ?_)
        refine z_iconst C (z := 0) rfl rfl rfl (fun x14 ex14 => ?_)
        exact k_iret C rfl (Or.inr ⟨rfl, z01 (by omega) (by omega)⟩) (Nat.le_of_ble_eq_true rfl) (Nat.le_of_ble_eq_true rfl) ⟨_, _, _, rfl, rfl, by omega, by omega, by (try simp only [z_r0_1, z_r0_2, z_r0_3, z_r0_4, z_r0_5, z_r0_1_0, z_r0_1_1, z_r0_1_2, z_r0_1_0_6, z_r0_1_0_7, z_r0_1_0_8, z_r0_1_0_9, z_r0_1_0_10]); intro _; simp only [k0_r0_1_0_0]; exact LSC.of ff12_0 (by omega) (by omega), by (try simp only [z_r0_1, z_r0_2, z_r0_3, z_r0_4, z_r0_5, z_r0_1_0, z_r0_1_1, z_r0_1_2, z_r0_1_0_6, z_r0_1_0_7, z_r0_1_0_8, z_r0_1_0_9, z_r0_1_0_10]); intro h; exfalso; omega, hI, (by (try simp only [z_r0_1, z_r0_2, z_r0_3, z_r0_4, z_r0_5, z_r0_1_0, z_r0_1_1, z_r0_1_2, z_r0_1_0_6, z_r0_1_0_7, z_r0_1_0_8, z_r0_1_0_9, z_r0_1_0_10]); exact Chg.rf)⟩
      refine k_aload_n C rfl rfl rfl ?_
      refine g_R C rfl rfl rfl T_r0 rfl R_r0_2 ?_
      refine k_iload_n C rfl rfl rfl ?_
      refine z_aI C rfl rfl T_r0_2 N_r0_2 (by omega) (by omega) (fun x15 ex15 => ?_)
      have gx15 := rg x15
      have hr21 := ex15; have ht21 : x15.toInt = NF I r0_2 x7.toNatClampNeg := (by rw [← hr21]; rfl); have hb21 := hp0 x7.toNatClampNeg (by have h9 := ncz (x := x7) (by omega); omega)
      refine k_aload_n C rfl rfl rfl ?_
      refine g_R C rfl rfl rfl T_r0 rfl R_r0_1 ?_
      refine c_VI C (s_X0_p_x hS hI H_r0_1) rfl rfl rfl rfl rfl ⟨_, rfl, rfl, T_r0_1, Nat.le_of_ble_eq_true rfl⟩ rfl rfl (Nat.le_of_ble_eq_true rfl) (Nat.le_of_ble_eq_true rfl) (Nat.le_of_ble_eq_true rfl) ?_
      rintro x16 _ _ ⟨o0x16, o1x16, p0x16, rfl, rfl⟩
      have gx16 := rg x16
      try simp only [z_r0_1, z_r0_2, z_r0_3, z_r0_4, z_r0_5, z_r0_1_0, z_r0_1_1, z_r0_1_2, z_r0_1_0_6, z_r0_1_0_7, z_r0_1_0_8, z_r0_1_0_9, z_r0_1_0_10] at p0x16
      try simp only [k0_r0_1_0_0] at p0x16
      try have q0x16 := congrArg Int32.toInt p0x16
      have hp26 := p0x16; (try simp only [k0_r0_1_0_0] at hp26)
      refine k_iload_n C rfl rfl rfl ?_
      refine z_iconst C (z := 1) rfl rfl rfl (fun x17 ex17 => ?_)
      refine z_isub C rfl rfl ⟨by omega, by omega⟩ (fun x18 ex18 => ?_)
      refine k_iload_n C rfl rfl rfl ?_
      refine z_isub C rfl rfl ⟨by omega, by omega⟩ (fun x19 ex19 => ?_)
      refine z_isub C rfl rfl ⟨by omega, by omega⟩ (fun x20 ex20 => ?_)
      refine b_icmp_lt C (t := 44) rfl rfl rfl (fun c21 => ?_) (fun c21 => ?_)
      · skip
        refine k_iload_n C rfl rfl rfl ?_
        refine b_if_ge C (t := 50) rfl rfl rfl (fun c22 => ?_) (fun c22 => by exfalso; omega)
        refine k_aload_n C rfl rfl rfl ?_
        refine g_R C rfl rfl rfl T_r0 rfl R_r0_2 ?_
        refine k_iload_n C rfl rfl rfl ?_
        refine k_dup2 C rfl rfl rfl rfl ?_
        refine z_aI C rfl rfl T_r0_2 N_r0_2 (by omega) (by omega) (fun x23 ex23 => ?_)
        have gx23 := rg x23
        have hr56 := ex23; have hb56 := hp0 x7.toNatClampNeg (by have h9 := ncz (x := x7) (by omega); omega); obtain ⟨k9, hk9⟩ : ∃ k : Int32, k = x7 := ⟨_, rfl⟩; have hk9i : k9.toInt = x7.toInt := (by rw [hk9])
        refine z_iconst C (z := 1) rfl rfl rfl (fun x24 ex24 => ?_)
        refine z_iaddX C rfl rfl (fun x25 ad58 => ?_)
        have gx25 := rg x25
        refine z_sI C rfl rfl T_r0_2 N_r0_2 (by omega) (by omega) (fun I26 uI26 => ?_)
        have hI26 : IX A T I26 := IX.a hI T_r0_2 (Nat.le_of_ble_eq_true rfl) uI26
        have S27 : Chg (SL [r0_2]) T [] I L I26 L := Chg.a List.mem_cons_self T_r0_2 (Nat.le_of_ble_eq_true rfl) uI26
        have e28 := u2_n uI26 (t_nq T_r0_1_0 T_r0_2 (by decide)) k0_r0_1_0_0
        have hput59 := uI26
        refine k_iload_n C rfl rfl rfl ?_
        refine z_iconst C (z := 1) rfl rfl rfl (fun x29 ex29 => ?_)
        refine z_iadd C rfl rfl ⟨by omega, by omega⟩ (fun x30 ex30 => ?_)
        have J31 : ∀ (nn32 : Nat) (I33 : IT) (L34 : LT) (x35 : Int32), (MN (3 - x35.toInt) nn32) → (IX A T I33) → (Chg (SL [r0_2]) T [] I26 L I33 L34) → (1 ≤ x35.toInt) → (x35.toInt ≤ 3) → (NXL (I33 r0_2) (I r0_2) k9.toInt x35.toInt) → (x35.toInt ≤ n1.toInt) → (k9.toInt < x35.toInt) → V 64 [(0, .ref r0), (1, .int n1), (3, .int x35)] [] (T, N, I33, L34, R) 0 0 := by
          intro nn32
          induction nn32 using Nat.strongRecOn with
          | _ nn32 ihJ31 =>
            intro I33 L34 x35 hmnn32 hI39 S38 b36 b37 ff64_0 ff64_1 ff64_2
            have gx35 := rg x35
            have e43 := Chg.k S38 T_r0_1_0 (by decide) (by decide) e28
            refine k_iload_n C rfl rfl rfl ?_
            refine k_iload_n C rfl rfl rfl ?_
            refine b_icmp_ge C (t := 100) rfl rfl rfl (fun c44 => ?_) (fun c44 => ?_)
            · skip
              refine z_iconst C (z := 1) rfl rfl rfl (fun x45 ex45 => ?_)
              exact k_iret C rfl (Or.inr ⟨rfl, z01 (by omega) (by omega)⟩) (Nat.le_of_ble_eq_true rfl) (Nat.le_of_ble_eq_true rfl) ⟨_, _, _, rfl, rfl, by omega, by omega, by (try simp only [z_r0_1, z_r0_2, z_r0_3, z_r0_4, z_r0_5, z_r0_1_0, z_r0_1_1, z_r0_1_2, z_r0_1_0_6, z_r0_1_0_7, z_r0_1_0_8, z_r0_1_0_9, z_r0_1_0_10]); intro h; exfalso; omega, by (try simp only [z_r0_1, z_r0_2, z_r0_3, z_r0_4, z_r0_5, z_r0_1_0, z_r0_1_1, z_r0_1_2, z_r0_1_0_6, z_r0_1_0_7, z_r0_1_0_8, z_r0_1_0_9, z_r0_1_0_10]); intro _; simp only [k0_r0_1_0_0]; exact NXC.of (k := k9) (fun j h1 h2 => ff12_0 j (by omega) h2) ff64_0 (by omega) (by omega) (by omega) (by omega) (by rw [hk9]; have h9 := ht21; show NF I r0_2 _ < _; omega), hI39, (by (try simp only [z_r0_1, z_r0_2, z_r0_3, z_r0_4, z_r0_5, z_r0_1_0, z_r0_1_1, z_r0_1_2, z_r0_1_0_6, z_r0_1_0_7, z_r0_1_0_8, z_r0_1_0_9, z_r0_1_0_10]); exact (Chg.cons (Chg.up S27 (List.forall_mem_cons.mpr ⟨List.mem_of_getElem? (i := 0) rfl, fun _ h => nomatch h⟩)) (Chg.mono S38 (by decide)) (by decide)))⟩
            refine k_iload_n C rfl rfl rfl ?_
            refine k_aload_n C rfl rfl rfl ?_
            refine g_R C rfl rfl rfl T_r0 rfl R_r0_2 ?_
            refine z_len C (n := 3) rfl rfl (by rw [T_r0_2]; exact Nat.le_of_ble_eq_true rfl) N_r0_2 (Nat.le_of_ble_eq_true rfl) (fun x46 ex46 => ?_)
            refine b_icmp_ge C (t := 100) rfl rfl rfl (fun c47 => by exfalso; omega) (fun c47 => ?_)
            refine k_aload_n C rfl rfl rfl ?_
            refine g_R C rfl rfl rfl T_r0 rfl R_r0_2 ?_
            refine k_iload_n C rfl rfl rfl ?_
            refine k_aload_n C rfl rfl rfl ?_
            refine g_R C rfl rfl rfl T_r0 rfl R_r0_2 ?_
            refine k_iload_n C rfl rfl rfl ?_
            refine z_iconst C (z := 1) rfl rfl rfl (fun x48 ex48 => ?_)
            refine z_isub C rfl rfl ⟨by omega, by omega⟩ (fun x49 ex49 => ?_)
            refine z_aI C rfl rfl T_r0_2 N_r0_2 (by omega) (by omega) (fun x50 ex50 => ?_)
            have gx50 := rg x50
            have hr90 := ex50
            refine z_iconst C (z := 1) rfl rfl rfl (fun x51 ex51 => ?_)
            refine z_iaddX C rfl rfl (fun x52 ad92 => ?_)
            have gx52 := rg x52
            refine z_sI C rfl rfl T_r0_2 N_r0_2 (by omega) (by omega) (fun I53 uI53 => ?_)
            have hI53 : IX A T I53 := IX.a hI39 T_r0_2 (Nat.le_of_ble_eq_true rfl) uI53
            have S54 : Chg (SL [r0_2]) T [] I33 L34 I53 L34 := Chg.a List.mem_cons_self T_r0_2 (Nat.le_of_ble_eq_true rfl) uI53
            have e55 := u2_n uI53 (t_nq T_r0_1_0 T_r0_2 (by decide)) e43
            have hput93 := uI53
            refine z_iinc C (z := 1) (lw := fun x56 => [(3, .int x56), (0, .ref r0), (1, .int n1)]) rfl rfl rfl (Nat.le_of_ble_eq_true rfl) rfl ⟨by omega, by omega⟩ (fun _ => rfl) (fun x56 ex56 => ?_)
            show V 97 [(3, .int x56), (0, .ref r0), (1, .int n1)] _ _ _ _
            refine k_goto C (pc2 := 64) rfl rfl ?_
            refine k_sub S [(0, .ref r0), (1, .int n1), (3, .int x56)] (List.forall_mem_cons.mpr ⟨List.mem_of_getElem? (i := 1) rfl, List.forall_mem_cons.mpr ⟨List.mem_of_getElem? (i := 2) rfl, List.forall_mem_cons.mpr ⟨List.mem_of_getElem? (i := 0) rfl, fun _ h => nomatch h⟩⟩⟩) ?_
            exact ihJ31 _ (MN.lt hmnn32 (by omega) (by omega)) I53 L34 x56 rfl hI53 (Chg.cons S38 (Chg.mono (Chg.up S54 (List.forall_mem_cons.mpr ⟨List.mem_of_getElem? (i := 0) rfl, fun _ h => nomatch h⟩)) (by decide)) (by decide)) (by omega) (by omega) (by exact NXL.s (P := w_r0_1_0_0.toInt) ff64_0 hput93 hr90 ad92 (by omega) (by omega) (by omega) (by omega) (by omega) (by rw [hk9]; exact hb56)) (by omega) (by omega)
        refine k_istore_n C (lw := [(3, .int x30), (0, .ref r0), (1, .int n1), (2, .int x7)]) rfl rfl (Nat.le_of_ble_eq_true rfl) rfl ?_
        refine k_sub S [(0, .ref r0), (1, .int n1), (3, .int x30)] (List.forall_mem_cons.mpr ⟨List.mem_of_getElem? (i := 1) rfl, List.forall_mem_cons.mpr ⟨List.mem_of_getElem? (i := 2) rfl, List.forall_mem_cons.mpr ⟨List.mem_of_getElem? (i := 0) rfl, fun _ h => nomatch h⟩⟩⟩) ?_
        exact J31 _ I26 L x30 rfl hI26 Chg.rf (by omega) (by omega) (by rw [hk9]; exact NXL.z hput59 hr56 ad58 (by omega) (by omega) hb56 (by omega)) (by omega) (by omega)
      refine z_iinc C (z := -1) (lw := fun x57 => [(2, .int x57), (0, .ref r0), (1, .int n1)]) rfl rfl rfl (Nat.le_of_ble_eq_true rfl) rfl ⟨by omega, by omega⟩ (fun _ => rfl) (fun x57 ex57 => ?_)
      show V 41 [(2, .int x57), (0, .ref r0), (1, .int n1)] _ _ _ _
      refine k_goto C (pc2 := 12) rfl rfl ?_
      refine k_sub S [(0, .ref r0), (1, .int n1), (2, .int x57)] (List.forall_mem_cons.mpr ⟨List.mem_of_getElem? (i := 1) rfl, List.forall_mem_cons.mpr ⟨List.mem_of_getElem? (i := 2) rfl, List.forall_mem_cons.mpr ⟨List.mem_of_getElem? (i := 0) rfl, fun _ h => nomatch h⟩⟩⟩) ?_
      exact ihJ5 _ (MN.lt hmnn6 (by omega) (by omega)) x57 rfl (by omega) (by omega) (by intro j h1 h2; exact (Classical.em (x57.toInt + 1 < (j : Int))).elim (fun h8 => by (exact ff12_0 j (by omega) h2)) (fun h8 => by ((have h9 := ncz (x := x7) (by omega); have h7 : j = x7.toNatClampNeg := (by omega); rw [h7, ← ht21]; omega)))) (by omega)
  refine k_istore_n C (lw := [(2, .int x4), (0, .ref r0), (1, .int n1)]) rfl rfl (Nat.le_of_ble_eq_true rfl) rfl ?_
  refine k_sub S [(0, .ref r0), (1, .int n1), (2, .int x4)] (List.forall_mem_cons.mpr ⟨List.mem_of_getElem? (i := 1) rfl, List.forall_mem_cons.mpr ⟨List.mem_of_getElem? (i := 2) rfl, List.forall_mem_cons.mpr ⟨List.mem_of_getElem? (i := 0) rfl, fun _ h => nomatch h⟩⟩⟩) ?_
  exact J5 _ x4 rfl (by omega) (by omega) (by intro j h1 h2; omega) (by omega)

theorem s_X3_isFound_x {d : Nat} {T N : Nat → Nat} {I : IT} {L : LT} {R : RT} {A B : Nat → Prop} {r0 : Nat} {n1 : Int32} (hS : SUB B A) (hI : IX A T I) (H_r0 : (hs_Po T N R A B) r0) (b0_n1 : 0 ≤ n1.toInt) (b1_n1 : n1.toInt ≤ 3) (hU : UPR T R) (hp0 : 0 ≤ (I r0 6).toInt ∧ (I r0 6).toInt ≤ 8) (hp1 : ∀ j : Nat, (j : Int) < (I r0 6).toInt + 1 → 0 ≤ NF I (rA R r0 4) j ∧ NF I (rA R r0 4) j < (I (rA R (rA R r0 1) 0) 0).toInt) (hp2 : PRM (I (rA R (rA R r0 1) 0) 0).toInt) : Ex (d + 4) 54 [.ref r0, .int n1] (T, N, I, L, R) 0 0 (pI T N R (fun x9 I9 L9 => (0 ≤ x9.toInt) ∧ (x9.toInt ≤ 1) ∧ (FNQ x9.toInt (I (rA R (rA R r0 1) 0) 0).toInt (I r0 6).toInt (NF I (rA R r0 4)) (NF I9 (rA R r0 2)) n1.toNatClampNeg) ∧ (IX A T I9 ∧ Chg (SL [r0, (rA R r0 2), (rA R r0 5)]) T [(4, 7)] I L I9 L9))) := by
  refine ⟨_, rfl, Nat.le_of_ble_eq_true rfl, fun V C S => ?_⟩
  show V 0 [(0, .ref r0), (1, .int n1)] [] (T, N, I, L, R) 0 0
  have gn1 := rg n1
  obtain ⟨T_r0, A_r0, B_r0, ⟨r0_1, R_r0_1, H_r0_1⟩, ⟨r0_2, R_r0_2, H_r0_2⟩, ⟨r0_3, R_r0_3, H_r0_3⟩, ⟨r0_4, R_r0_4, H_r0_4⟩, ⟨r0_5, R_r0_5, H_r0_5⟩⟩ := id H_r0
  have z_r0_1 : rA R r0 1 = r0_1 := rA_e R_r0_1
  have z_r0_2 : rA R r0 2 = r0_2 := rA_e R_r0_2
  have z_r0_3 : rA R r0 3 = r0_3 := rA_e R_r0_3
  have z_r0_4 : rA R r0 4 = r0_4 := rA_e R_r0_4
  have z_r0_5 : rA R r0 5 = r0_5 := rA_e R_r0_5
  obtain ⟨T_r0_1, A_r0_1, B_r0_1, ⟨r0_1_0, R_r0_1_0, H_r0_1_0⟩, ⟨r0_1_1, R_r0_1_1, H_r0_1_1⟩, ⟨r0_1_2, R_r0_1_2, H_r0_1_2⟩⟩ := id H_r0_1
  have z_r0_1_0 : rA R r0_1 0 = r0_1_0 := rA_e R_r0_1_0
  have z_r0_1_1 : rA R r0_1 1 = r0_1_1 := rA_e R_r0_1_1
  have z_r0_1_2 : rA R r0_1 2 = r0_1_2 := rA_e R_r0_1_2
  obtain ⟨T_r0_1_0, A_r0_1_0, B_r0_1_0, ⟨r0_1_0_6, R_r0_1_0_6, H_r0_1_0_6⟩, ⟨r0_1_0_7, R_r0_1_0_7, H_r0_1_0_7⟩, ⟨r0_1_0_8, R_r0_1_0_8, H_r0_1_0_8⟩, ⟨r0_1_0_9, R_r0_1_0_9, H_r0_1_0_9⟩, ⟨r0_1_0_10, R_r0_1_0_10, H_r0_1_0_10⟩⟩ := id H_r0_1_0
  have z_r0_1_0_6 : rA R r0_1_0 6 = r0_1_0_6 := rA_e R_r0_1_0_6
  have z_r0_1_0_7 : rA R r0_1_0 7 = r0_1_0_7 := rA_e R_r0_1_0_7
  have z_r0_1_0_8 : rA R r0_1_0 8 = r0_1_0_8 := rA_e R_r0_1_0_8
  have z_r0_1_0_9 : rA R r0_1_0 9 = r0_1_0_9 := rA_e R_r0_1_0_9
  have z_r0_1_0_10 : rA R r0_1_0 10 = r0_1_0_10 := rA_e R_r0_1_0_10
  obtain ⟨T_r0_2, N_r0_2, A_r0_2⟩ := id H_r0_2
  obtain ⟨T_r0_4, N_r0_4, A_r0_4⟩ := id H_r0_4
  obtain ⟨T_r0_5, N_r0_5, A_r0_5⟩ := id H_r0_5
  try simp only [z_r0_1, z_r0_2, z_r0_3, z_r0_4, z_r0_5, z_r0_1_0, z_r0_1_1, z_r0_1_2, z_r0_1_0_6, z_r0_1_0_7, z_r0_1_0_8, z_r0_1_0_9, z_r0_1_0_10] at hp0
  try simp only [z_r0_1, z_r0_2, z_r0_3, z_r0_4, z_r0_5, z_r0_1_0, z_r0_1_1, z_r0_1_2, z_r0_1_0_6, z_r0_1_0_7, z_r0_1_0_8, z_r0_1_0_9, z_r0_1_0_10] at hp1
  try simp only [z_r0_1, z_r0_2, z_r0_3, z_r0_4, z_r0_5, z_r0_1_0, z_r0_1_1, z_r0_1_2, z_r0_1_0_6, z_r0_1_0_7, z_r0_1_0_8, z_r0_1_0_9, z_r0_1_0_10] at hp2
  obtain ⟨w_r0_1_0_0, k0_r0_1_0_0⟩ : ∃ x, I r0_1_0 0 = x := ⟨_, rfl⟩
  have gw_r0_1_0_0 := rg w_r0_1_0_0
  have ow_r0_1_0_0 := IX.p hI A_r0_1_0 T_r0_1_0 k0_r0_1_0_0
  obtain ⟨w_r0_6, k0_r0_6⟩ : ∃ x, I r0 6 = x := ⟨_, rfl⟩
  have gw_r0_6 := rg w_r0_6
  try simp only [k0_r0_1_0_0, k0_r0_6] at hp0
  try simp only [k0_r0_1_0_0, k0_r0_6] at hp1
  try simp only [k0_r0_1_0_0, k0_r0_6] at hp2
  have n25 : NQ9 r0_2 r0_5 := hU.ne (Or.inr (Or.inr (Or.inr (by omega)))) R_r0_2 R_r0_5 (Or.inr (by decide))
  have n24 : NQ9 r0_2 r0_4 := hU.ne (Or.inr (Or.inr (Or.inr (by omega)))) R_r0_2 R_r0_4 (Or.inr (by decide))
  have n45 : NQ9 r0_4 r0_5 := hU.ne (Or.inr (Or.inr (Or.inr (by omega)))) R_r0_4 R_r0_5 (Or.inr (by decide))
  refine z_iconst C (z := 0) rfl rfl rfl (fun x1 ex1 => ?_)
  have J2 : ∀ (nn3 : Nat) (I4 : IT) (L5 : LT) (x6 : Int32), (MN (3 - x6.toInt) nn3) → (IX A T I4) → (Chg (SL [r0, r0_2, r0_5]) T [] I L I4 L5) → (0 ≤ x6.toInt) → (x6.toInt ≤ 3) → (∀ j : Nat, (j : Int) < x6.toInt → (I4 r0_2 j).toInt = j) → (x6.toInt ≤ n1.toInt) → V 2 [(0, .ref r0), (1, .int n1), (2, .int x6)] [] (T, N, I4, L5, R) 0 0 := by
    intro nn3
    induction nn3 using Nat.strongRecOn with
    | _ nn3 ihJ2 =>
      intro I4 L5 x6 hmnn3 hI10 S9 b7 b8 ff2_0 ff2_1
      have gx6 := rg x6
      have e13 := Chg.k S9 T_r0_1_0 (by decide) (by decide) k0_r0_1_0_0
      have e14 := Chg.k S9 T_r0 (by decide) (by decide) k0_r0_6
      refine k_iload_n C rfl rfl rfl ?_
      refine k_iload_n C rfl rfl rfl ?_
      refine b_icmp_ge C (t := 29) rfl rfl rfl (fun c15 => ?_) (fun c15 => ?_)
      · skip
        refine k_aload_n C rfl rfl rfl ?_
        refine k_iload_n C rfl rfl rfl ?_
        have hq4 := (Chg.at ((Chg.mono S9 (by decide)) : Chg (SL [r0, r0_2, r0_5]) T [(4, 7)] I L I4 L5) (nm_3 (t_nq T_r0_4 T_r0 (by decide)) (by first | exact n24 | exact fun e => n24 e.symm) (by first | exact n45 | exact fun e => n45 e.symm))); have hk6 := e14; have hw31 := e13; have hi29 : ∀ j : Nat, j < n1.toNatClampNeg → NF I4 r0_2 j = j := (fun j hj => by have h9 := ncz (x := n1) (by omega); have h8 := ff2_0 j (by omega); exact h8)
        refine c_VI C (s_X3_isSumOf_x hS hI10 H_r0 (by omega) (by omega) hU (by rw [e14]; omega) (by rw [e14, z_r0_4, z_r0_1, z_r0_1_0, e13, NF.e (Chg.at ((Chg.mono S9 (by decide)) : Chg (SL [r0, r0_2, r0_5]) T [(4, 7)] I L I4 L5) (nm_3 (t_nq T_r0_4 T_r0 (by decide)) (by first | exact n24 | exact fun e => n24 e.symm) (by first | exact n45 | exact fun e => n45 e.symm)))]; exact hp1) (by rw [z_r0_2, z_r0_1, z_r0_1_0, e13]; exact fun j hj => by have h9 := ncz (x := n1) (by omega); rw [hi29 j (by omega)]; omega)) rfl rfl rfl rfl rfl ⟨_, rfl, rfl, T_r0, Nat.le_of_ble_eq_true rfl⟩ rfl rfl (Nat.le_of_ble_eq_true rfl) (Nat.le_of_ble_eq_true rfl) (Nat.le_of_ble_eq_true rfl) ?_
        rintro x16 I17 L18 ⟨o0x16, o1x16, p0x16, hI17, S19⟩
        try simp only [z_r0_1, z_r0_2, z_r0_3, z_r0_4, z_r0_5, z_r0_1_0, z_r0_1_1, z_r0_1_2, z_r0_1_0_6, z_r0_1_0_7, z_r0_1_0_8, z_r0_1_0_9, z_r0_1_0_10] at S19
        have e20 := Chg.k S19 T_r0_1_0 (by decide) (by decide) e13
        have e21 := Chg.k S19 T_r0 (by decide) (by decide) e14
        have gx16 := rg x16
        try simp only [z_r0_1, z_r0_2, z_r0_3, z_r0_4, z_r0_5, z_r0_1_0, z_r0_1_1, z_r0_1_2, z_r0_1_0_6, z_r0_1_0_7, z_r0_1_0_8, z_r0_1_0_9, z_r0_1_0_10] at p0x16
        try simp only [e13, e14] at p0x16
        try have q0x16 := congrArg Int32.toInt p0x16
        have his := p0x16; (try simp only [z_r0_1, z_r0_2, z_r0_3, z_r0_4, z_r0_5, z_r0_1_0, z_r0_1_1, z_r0_1_2, z_r0_1_0_6, z_r0_1_0_7, z_r0_1_0_8, z_r0_1_0_9, z_r0_1_0_10, hk6, hw31, NF.e hq4] at his); have he31 := NF.e (Chg.at S19 (nm_2 (t_nq T_r0_2 T_r0 (by decide)) n25)); rw [← he31] at hi29; rw [← he31] at his
        refine k_istore_n C (lw := [(2, .int x16), (0, .ref r0), (1, .int n1)]) rfl rfl (Nat.le_of_ble_eq_true rfl) rfl ?_
        refine z_iconst C (z := 0) rfl rfl rfl (fun x22 ex22 => ?_)
        have J23 : ∀ (nn24 : Nat) (I25 : IT) (L26 : LT) (x27 : Int32) (x30 : Int32), (MN (2000 - x30.toInt) nn24) → (IX A T I25) → (Chg (SL [r0, r0_2, r0_5]) T [(4, 7)] I17 L18 I25 L26) → (0 ≤ x27.toInt) → (x27.toInt ≤ 1) → (0 ≤ x30.toInt) → (x30.toInt ≤ 2000) → (FNI x27.toInt w_r0_1_0_0.toInt w_r0_6.toInt (NF I r0_4) (NF I25 r0_2) n1.toNatClampNeg x30.toInt) → V 37 [(0, .ref r0), (1, .int n1), (2, .int x27), (3, .int x30)] [] (T, N, I25, L26, R) 0 0 := by
          intro nn24
          induction nn24 using Nat.strongRecOn with
          | _ nn24 ihJ23 =>
            intro I25 L26 x27 x30 hmnn24 hI34 S33 b28 b29 b31 b32 ff37_0
            have gx27 := rg x27
            have gx30 := rg x30
            have e36 := Chg.k S33 T_r0_1_0 (by decide) (by decide) e20
            have e37 := Chg.k S33 T_r0 (by decide) (by decide) e21
            refine k_iload_n C rfl rfl rfl ?_
            refine z_sipush C (z := 2000) rfl rfl rfl (fun x38 ex38 => ?_)
            refine b_icmp_ge C (t := 68) rfl rfl rfl (fun c39 => ?_) (fun c39 => ?_)
            · skip
              refine k_iload_n C rfl rfl rfl ?_
              exact k_iret C rfl (Or.inr ⟨rfl, z01 (by omega) (by omega)⟩) (Nat.le_of_ble_eq_true rfl) (Nat.le_of_ble_eq_true rfl) ⟨_, _, _, rfl, rfl, by omega, by omega, by (try simp only [z_r0_1, z_r0_2, z_r0_3, z_r0_4, z_r0_5, z_r0_1_0, z_r0_1_1, z_r0_1_2, z_r0_1_0_6, z_r0_1_0_7, z_r0_1_0_8, z_r0_1_0_9, z_r0_1_0_10]); simp only [k0_r0_6, k0_r0_1_0_0]; first | exact FNI.y ff37_0 (by omega) | (exfalso; have h9 := ff37_0.b hp2 (by have h9 := ncz (x := n1) (by omega); omega); omega) | exact FNI.l hFN (by omega) (by omega) (hno0 (by omega)) (by have h9 := ncz (x := n1) (by omega); omega), hI34, (by (try simp only [z_r0_1, z_r0_2, z_r0_3, z_r0_4, z_r0_5, z_r0_1_0, z_r0_1_1, z_r0_1_2, z_r0_1_0_6, z_r0_1_0_7, z_r0_1_0_8, z_r0_1_0_9, z_r0_1_0_10]); exact (Chg.cons S9 (Chg.cons (Chg.up S19 (List.forall_mem_cons.mpr ⟨List.mem_of_getElem? (i := 0) rfl, List.forall_mem_cons.mpr ⟨List.mem_of_getElem? (i := 2) rfl, fun _ h => nomatch h⟩⟩)) (Chg.mono S33 (by decide)) (by decide)) (by decide)))⟩
            refine k_iload_n C rfl rfl rfl ?_
            refine b_if_ne C (t := 68) rfl rfl rfl (fun c40 => ?_) (fun c40 => ?_)
            · skip
              refine k_iload_n C rfl rfl rfl ?_
              exact k_iret C rfl (Or.inr ⟨rfl, z01 (by omega) (by omega)⟩) (Nat.le_of_ble_eq_true rfl) (Nat.le_of_ble_eq_true rfl) ⟨_, _, _, rfl, rfl, by omega, by omega, by (try simp only [z_r0_1, z_r0_2, z_r0_3, z_r0_4, z_r0_5, z_r0_1_0, z_r0_1_1, z_r0_1_2, z_r0_1_0_6, z_r0_1_0_7, z_r0_1_0_8, z_r0_1_0_9, z_r0_1_0_10]); simp only [k0_r0_6, k0_r0_1_0_0]; first | exact FNI.y ff37_0 (by omega) | (exfalso; have h9 := ff37_0.b hp2 (by have h9 := ncz (x := n1) (by omega); omega); omega) | exact FNI.l hFN (by omega) (by omega) (hno0 (by omega)) (by have h9 := ncz (x := n1) (by omega); omega), hI34, (by (try simp only [z_r0_1, z_r0_2, z_r0_3, z_r0_4, z_r0_5, z_r0_1_0, z_r0_1_1, z_r0_1_2, z_r0_1_0_6, z_r0_1_0_7, z_r0_1_0_8, z_r0_1_0_9, z_r0_1_0_10]); exact (Chg.cons S9 (Chg.cons (Chg.up S19 (List.forall_mem_cons.mpr ⟨List.mem_of_getElem? (i := 0) rfl, List.forall_mem_cons.mpr ⟨List.mem_of_getElem? (i := 2) rfl, fun _ h => nomatch h⟩⟩)) (Chg.mono S33 (by decide)) (by decide)) (by decide)))⟩
            refine k_aload_n C rfl rfl rfl ?_
            refine k_iload_n C rfl rfl rfl ?_
            have hw50 := e36; obtain ⟨T5, eT5⟩ : ∃ f : Nat → Int, NF I25 r0_2 = f := ⟨_, rfl⟩; have hFN := ff37_0; rw [eT5] at hFN; have hL50 := x30
            refine c_VI C (s_X3_isNextChoice_x hS hI34 H_r0 (by omega) (by omega) hU (by rw [z_r0_2, z_r0_1, z_r0_1_0, e36]; exact fun j hj => ff37_0.1.1 j (by have h9 := ncz (x := n1) (by omega); omega))) rfl rfl rfl rfl rfl ⟨_, rfl, rfl, T_r0, Nat.le_of_ble_eq_true rfl⟩ rfl rfl (Nat.le_of_ble_eq_true rfl) (Nat.le_of_ble_eq_true rfl) (Nat.le_of_ble_eq_true rfl) ?_
            rintro x41 I42 L43 ⟨o0x41, o1x41, p0x41, p1x41, hI42, S44⟩
            try simp only [z_r0_1, z_r0_2, z_r0_3, z_r0_4, z_r0_5, z_r0_1_0, z_r0_1_1, z_r0_1_2, z_r0_1_0_6, z_r0_1_0_7, z_r0_1_0_8, z_r0_1_0_9, z_r0_1_0_10] at S44
            have e45 := Chg.k S44 T_r0_1_0 (by decide) (by decide) e36
            have e46 := Chg.k S44 T_r0 (by decide) (by decide) e37
            have gx41 := rg x41
            try simp only [z_r0_1, z_r0_2, z_r0_3, z_r0_4, z_r0_5, z_r0_1_0, z_r0_1_1, z_r0_1_2, z_r0_1_0_6, z_r0_1_0_7, z_r0_1_0_8, z_r0_1_0_9, z_r0_1_0_10] at p0x41
            try simp only [z_r0_1, z_r0_2, z_r0_3, z_r0_4, z_r0_5, z_r0_1_0, z_r0_1_1, z_r0_1_2, z_r0_1_0_6, z_r0_1_0_7, z_r0_1_0_8, z_r0_1_0_9, z_r0_1_0_10] at p1x41
            try simp only [e36, e37] at p0x41
            try have q0x41 := congrArg Int32.toInt p0x41
            try simp only [e36, e37] at p1x41
            try have q1x41 := congrArg Int32.toInt p1x41
            have hno0 := p0x41; have hno1 := p1x41; (try simp only [z_r0_1, z_r0_2, z_r0_3, z_r0_4, z_r0_5, z_r0_1_0, z_r0_1_1, z_r0_1_2, z_r0_1_0_6, z_r0_1_0_7, z_r0_1_0_8, z_r0_1_0_9, z_r0_1_0_10, hw50] at hno0 hno1); (try rw [eT5] at hno0); (try rw [eT5] at hno1)
            refine b_if_eq C (t := 68) rfl rfl rfl (fun c47 => ?_) (fun c47 => ?_)
            · skip
              refine k_iload_n C rfl rfl rfl ?_
              exact k_iret C rfl (Or.inr ⟨rfl, z01 (by omega) (by omega)⟩) (Nat.le_of_ble_eq_true rfl) (Nat.le_of_ble_eq_true rfl) ⟨_, _, _, rfl, rfl, by omega, by omega, by (try simp only [z_r0_1, z_r0_2, z_r0_3, z_r0_4, z_r0_5, z_r0_1_0, z_r0_1_1, z_r0_1_2, z_r0_1_0_6, z_r0_1_0_7, z_r0_1_0_8, z_r0_1_0_9, z_r0_1_0_10]); simp only [k0_r0_6, k0_r0_1_0_0]; first | exact FNI.y ff37_0 (by omega) | (exfalso; have h9 := ff37_0.b hp2 (by have h9 := ncz (x := n1) (by omega); omega); omega) | exact FNI.l hFN (by omega) (by omega) (hno0 (by omega)) (by have h9 := ncz (x := n1) (by omega); omega), hI42, (by (try simp only [z_r0_1, z_r0_2, z_r0_3, z_r0_4, z_r0_5, z_r0_1_0, z_r0_1_1, z_r0_1_2, z_r0_1_0_6, z_r0_1_0_7, z_r0_1_0_8, z_r0_1_0_9, z_r0_1_0_10]); exact (Chg.cons S9 (Chg.cons (Chg.up S19 (List.forall_mem_cons.mpr ⟨List.mem_of_getElem? (i := 0) rfl, List.forall_mem_cons.mpr ⟨List.mem_of_getElem? (i := 2) rfl, fun _ h => nomatch h⟩⟩)) (Chg.cons S33 (Chg.mono (Chg.up S44 (List.forall_mem_cons.mpr ⟨List.mem_of_getElem? (i := 1) rfl, fun _ h => nomatch h⟩)) (by decide)) (by decide)) (by decide)) (by decide)))⟩
            refine k_aload_n C rfl rfl rfl ?_
            refine k_iload_n C rfl rfl rfl ?_
            have hq58 := (Chg.at ((Chg.cons S9 (Chg.cons (Chg.up S19 (List.forall_mem_cons.mpr ⟨List.mem_of_getElem? (i := 0) rfl, List.forall_mem_cons.mpr ⟨List.mem_of_getElem? (i := 2) rfl, fun _ h => nomatch h⟩⟩)) (Chg.cons S33 (Chg.mono (Chg.up S44 (List.forall_mem_cons.mpr ⟨List.mem_of_getElem? (i := 1) rfl, fun _ h => nomatch h⟩)) (by decide)) (by decide)) (by decide)) (by decide)) : Chg (SL [r0, r0_2, r0_5]) T [(4, 7)] I L I42 L43) (nm_3 (t_nq T_r0_4 T_r0 (by decide)) (by first | exact n24 | exact fun e => n24 e.symm) (by first | exact n45 | exact fun e => n45 e.symm))); have hk58 := e46; have hw58 := e45; have hnx := hno1 (by omega)
            refine c_VI C (s_X3_isSumOf_x hS hI42 H_r0 (by omega) (by omega) hU (by rw [e46]; omega) (by rw [e46, z_r0_4, z_r0_1, z_r0_1_0, e45, NF.e (Chg.at ((Chg.cons S9 (Chg.cons (Chg.up S19 (List.forall_mem_cons.mpr ⟨List.mem_of_getElem? (i := 0) rfl, List.forall_mem_cons.mpr ⟨List.mem_of_getElem? (i := 2) rfl, fun _ h => nomatch h⟩⟩)) (Chg.cons S33 (Chg.mono (Chg.up S44 (List.forall_mem_cons.mpr ⟨List.mem_of_getElem? (i := 1) rfl, fun _ h => nomatch h⟩)) (by decide)) (by decide)) (by decide)) (by decide)) : Chg (SL [r0, r0_2, r0_5]) T [(4, 7)] I L I42 L43) (nm_3 (t_nq T_r0_4 T_r0 (by decide)) (by first | exact n24 | exact fun e => n24 e.symm) (by first | exact n45 | exact fun e => n45 e.symm)))]; exact hp1) (by rw [z_r0_2, z_r0_1, z_r0_1_0, e45]; exact fun j hj => (NXC.all (by omega) hFN.1 hnx (by have h9 := ncz (x := n1) (by omega); omega)).1.1 j (by have h9 := ncz (x := n1) (by omega); omega))) rfl rfl rfl rfl rfl ⟨_, rfl, rfl, T_r0, Nat.le_of_ble_eq_true rfl⟩ rfl rfl (Nat.le_of_ble_eq_true rfl) (Nat.le_of_ble_eq_true rfl) (Nat.le_of_ble_eq_true rfl) ?_
            rintro x48 I49 L50 ⟨o0x48, o1x48, p0x48, hI49, S51⟩
            try simp only [z_r0_1, z_r0_2, z_r0_3, z_r0_4, z_r0_5, z_r0_1_0, z_r0_1_1, z_r0_1_2, z_r0_1_0_6, z_r0_1_0_7, z_r0_1_0_8, z_r0_1_0_9, z_r0_1_0_10] at S51
            have e52 := Chg.k S51 T_r0_1_0 (by decide) (by decide) e45
            have e53 := Chg.k S51 T_r0 (by decide) (by decide) e46
            have gx48 := rg x48
            try simp only [z_r0_1, z_r0_2, z_r0_3, z_r0_4, z_r0_5, z_r0_1_0, z_r0_1_1, z_r0_1_2, z_r0_1_0_6, z_r0_1_0_7, z_r0_1_0_8, z_r0_1_0_9, z_r0_1_0_10] at p0x48
            try simp only [e45, e46] at p0x48
            try have q0x48 := congrArg Int32.toInt p0x48
            have his := p0x48; (try simp only [z_r0_1, z_r0_2, z_r0_3, z_r0_4, z_r0_5, z_r0_1_0, z_r0_1_1, z_r0_1_2, z_r0_1_0_6, z_r0_1_0_7, z_r0_1_0_8, z_r0_1_0_9, z_r0_1_0_10, hk58, hw58, NF.e hq58] at his); have he58 := NF.e (Chg.at S51 (nm_2 (t_nq T_r0_2 T_r0 (by decide)) n25)); rw [← he58] at hnx; rw [← he58] at his
            refine k_istore_n C (lw := [(2, .int x48), (0, .ref r0), (1, .int n1), (3, .int x30)]) rfl rfl (Nat.le_of_ble_eq_true rfl) rfl ?_
            refine z_iinc C (z := 1) (lw := fun x54 => [(3, .int x54), (2, .int x48), (0, .ref r0), (1, .int n1)]) rfl rfl rfl (Nat.le_of_ble_eq_true rfl) rfl ⟨by omega, by omega⟩ (fun _ => rfl) (fun x54 ex54 => ?_)
            show V 65 [(3, .int x54), (2, .int x48), (0, .ref r0), (1, .int n1)] _ _ _ _
            refine k_goto C (pc2 := 37) rfl rfl ?_
            refine k_sub S [(0, .ref r0), (1, .int n1), (2, .int x48), (3, .int x54)] (List.forall_mem_cons.mpr ⟨List.mem_of_getElem? (i := 2) rfl, List.forall_mem_cons.mpr ⟨List.mem_of_getElem? (i := 3) rfl, List.forall_mem_cons.mpr ⟨List.mem_of_getElem? (i := 1) rfl, List.forall_mem_cons.mpr ⟨List.mem_of_getElem? (i := 0) rfl, fun _ h => nomatch h⟩⟩⟩⟩) ?_
            exact ihJ23 _ (MN.lt hmnn24 (by omega) (by omega)) I49 L50 x48 x54 rfl hI49 (Chg.cons S33 (Chg.cons (Chg.up S44 (List.forall_mem_cons.mpr ⟨List.mem_of_getElem? (i := 1) rfl, fun _ h => nomatch h⟩)) (Chg.mono (Chg.up S51 (List.forall_mem_cons.mpr ⟨List.mem_of_getElem? (i := 0) rfl, List.forall_mem_cons.mpr ⟨List.mem_of_getElem? (i := 2) rfl, fun _ h => nomatch h⟩⟩)) (by decide)) (by decide)) (by decide)) (by omega) (by omega) (by omega) (by omega) (by exact FNI.s hFN (by omega) hp2 hnx (by have h9 := ncz (x := n1) (by omega); omega) his (by omega))
        refine k_istore_n C (lw := [(3, .int x22), (2, .int x16), (0, .ref r0), (1, .int n1)]) rfl rfl (Nat.le_of_ble_eq_true rfl) rfl ?_
        refine k_sub S [(0, .ref r0), (1, .int n1), (2, .int x16), (3, .int x22)] (List.forall_mem_cons.mpr ⟨List.mem_of_getElem? (i := 2) rfl, List.forall_mem_cons.mpr ⟨List.mem_of_getElem? (i := 3) rfl, List.forall_mem_cons.mpr ⟨List.mem_of_getElem? (i := 1) rfl, List.forall_mem_cons.mpr ⟨List.mem_of_getElem? (i := 0) rfl, fun _ h => nomatch h⟩⟩⟩⟩) ?_
        exact J23 _ I17 L18 x16 x22 rfl hI17 Chg.rf (by omega) (by omega) (by omega) (by omega) (by exact FNI.z hp2 hi29 (by have h9 := ncz (x := n1) (by omega); omega) his (by omega))
      refine k_iload_n C rfl rfl rfl ?_
      refine k_aload_n C rfl rfl rfl ?_
      refine g_R C rfl rfl rfl T_r0 rfl R_r0_2 ?_
      refine z_len C (n := 3) rfl rfl (by rw [T_r0_2]; exact Nat.le_of_ble_eq_true rfl) N_r0_2 (Nat.le_of_ble_eq_true rfl) (fun x55 ex55 => ?_)
      refine b_icmp_ge C (t := 29) rfl rfl rfl (fun c56 => by exfalso; omega) (fun c56 => ?_)
      refine k_aload_n C rfl rfl rfl ?_
      refine g_R C rfl rfl rfl T_r0 rfl R_r0_2 ?_
      refine k_iload_n C rfl rfl rfl ?_
      refine k_iload_n C rfl rfl rfl ?_
      refine z_sI C rfl rfl T_r0_2 N_r0_2 (by omega) (by omega) (fun I57 uI57 => ?_)
      have hI57 : IX A T I57 := IX.a hI10 T_r0_2 (Nat.le_of_ble_eq_true rfl) uI57
      have S58 : Chg (SL [r0_2]) T [] I4 L5 I57 L5 := Chg.a List.mem_cons_self T_r0_2 (Nat.le_of_ble_eq_true rfl) uI57
      have e59 := u2_n uI57 (t_nq T_r0_1_0 T_r0_2 (by decide)) e13
      have e60 := u2_n uI57 (t_nq T_r0 T_r0_2 (by decide)) e14
      have hput22 := uI57
      refine z_iinc C (z := 1) (lw := fun x61 => [(2, .int x61), (0, .ref r0), (1, .int n1)]) rfl rfl rfl (Nat.le_of_ble_eq_true rfl) rfl ⟨by omega, by omega⟩ (fun _ => rfl) (fun x61 ex61 => ?_)
      show V 26 [(2, .int x61), (0, .ref r0), (1, .int n1)] _ _ _ _
      refine k_goto C (pc2 := 2) rfl rfl ?_
      refine k_sub S [(0, .ref r0), (1, .int n1), (2, .int x61)] (List.forall_mem_cons.mpr ⟨List.mem_of_getElem? (i := 1) rfl, List.forall_mem_cons.mpr ⟨List.mem_of_getElem? (i := 2) rfl, List.forall_mem_cons.mpr ⟨List.mem_of_getElem? (i := 0) rfl, fun _ h => nomatch h⟩⟩⟩) ?_
      exact ihJ2 _ (MN.lt hmnn3 (by omega) (by omega)) I57 L5 x61 rfl hI57 (Chg.cons S9 (Chg.mono (Chg.up S58 (List.forall_mem_cons.mpr ⟨List.mem_of_getElem? (i := 1) rfl, fun _ h => nomatch h⟩)) (by decide)) (by decide)) (by omega) (by omega) (by intro j hj; have h9 := ncz (x := x6) (by omega); rw [hput22]; exact (Classical.em (j = x6.toNatClampNeg)).elim (fun h8 => by ((rw [h8, u2_s]; omega))) (fun h8 => by ((rw [u2_k h8]; exact ff2_0 j (by omega))))) (by omega)
  refine k_istore_n C (lw := [(2, .int x1), (0, .ref r0), (1, .int n1)]) rfl rfl (Nat.le_of_ble_eq_true rfl) rfl ?_
  refine k_sub S [(0, .ref r0), (1, .int n1), (2, .int x1)] (List.forall_mem_cons.mpr ⟨List.mem_of_getElem? (i := 1) rfl, List.forall_mem_cons.mpr ⟨List.mem_of_getElem? (i := 2) rfl, List.forall_mem_cons.mpr ⟨List.mem_of_getElem? (i := 0) rfl, fun _ h => nomatch h⟩⟩⟩) ?_
  exact J2 _ I L x1 rfl hI Chg.rf (by omega) (by omega) (by intro j hj; omega) (by omega)

theorem s_X3_share_x {d : Nat} {T N : Nat → Nat} {I : IT} {L : LT} {R : RT} {A B : Nat → Prop} {r0 r1 : Nat} (hS : SUB B A) (hI : IX A T I) (H_r0 : (hs_Po T N R A B) r0) (H_r1 : (hs_F T N R A B) r1) (hU : UPR T R) (hp0 : 0 ≤ (I r0 6).toInt ∧ (I r0 6).toInt ≤ 8) (hp1 : (I r1 0).toInt = (I r0 6).toInt) (hp2 : BNX I (rA R r1 1) (I r1 0).toInt (I (rA R (rA R r0 1) 0) 0).toInt) (hp3 : PRM (I (rA R (rA R r0 1) 0) 0).toInt) : Ex (d + 4) 49 [.ref r0, .ref r1] (T, N, I, L, R) 0 0 (pV T N R (fun I9 L9 => (SHL (I9 (rA R r0 4)) (NF I (rA R r1 1)) (I (rA R (rA R r0 1) 0) 0).toInt (I r0 6).toInt ((I r0 6).toInt + 1)) ∧ (IX A T I9 ∧ Chg (SL [(rA R r0 4)]) T [] I L I9 L9))) := by
  refine ⟨_, rfl, Nat.le_of_ble_eq_true rfl, fun V C S => ?_⟩
  show V 0 [(0, .ref r0), (1, .ref r1)] [] (T, N, I, L, R) 0 0
  obtain ⟨T_r0, A_r0, B_r0, ⟨r0_1, R_r0_1, H_r0_1⟩, ⟨r0_2, R_r0_2, H_r0_2⟩, ⟨r0_3, R_r0_3, H_r0_3⟩, ⟨r0_4, R_r0_4, H_r0_4⟩, ⟨r0_5, R_r0_5, H_r0_5⟩⟩ := id H_r0
  have z_r0_1 : rA R r0 1 = r0_1 := rA_e R_r0_1
  have z_r0_2 : rA R r0 2 = r0_2 := rA_e R_r0_2
  have z_r0_3 : rA R r0 3 = r0_3 := rA_e R_r0_3
  have z_r0_4 : rA R r0 4 = r0_4 := rA_e R_r0_4
  have z_r0_5 : rA R r0 5 = r0_5 := rA_e R_r0_5
  obtain ⟨T_r0_1, A_r0_1, B_r0_1, ⟨r0_1_0, R_r0_1_0, H_r0_1_0⟩, ⟨r0_1_1, R_r0_1_1, H_r0_1_1⟩, ⟨r0_1_2, R_r0_1_2, H_r0_1_2⟩⟩ := id H_r0_1
  have z_r0_1_0 : rA R r0_1 0 = r0_1_0 := rA_e R_r0_1_0
  have z_r0_1_1 : rA R r0_1 1 = r0_1_1 := rA_e R_r0_1_1
  have z_r0_1_2 : rA R r0_1 2 = r0_1_2 := rA_e R_r0_1_2
  obtain ⟨T_r0_1_0, A_r0_1_0, B_r0_1_0, ⟨r0_1_0_6, R_r0_1_0_6, H_r0_1_0_6⟩, ⟨r0_1_0_7, R_r0_1_0_7, H_r0_1_0_7⟩, ⟨r0_1_0_8, R_r0_1_0_8, H_r0_1_0_8⟩, ⟨r0_1_0_9, R_r0_1_0_9, H_r0_1_0_9⟩, ⟨r0_1_0_10, R_r0_1_0_10, H_r0_1_0_10⟩⟩ := id H_r0_1_0
  have z_r0_1_0_6 : rA R r0_1_0 6 = r0_1_0_6 := rA_e R_r0_1_0_6
  have z_r0_1_0_7 : rA R r0_1_0 7 = r0_1_0_7 := rA_e R_r0_1_0_7
  have z_r0_1_0_8 : rA R r0_1_0 8 = r0_1_0_8 := rA_e R_r0_1_0_8
  have z_r0_1_0_9 : rA R r0_1_0 9 = r0_1_0_9 := rA_e R_r0_1_0_9
  have z_r0_1_0_10 : rA R r0_1_0 10 = r0_1_0_10 := rA_e R_r0_1_0_10
  obtain ⟨T_r1, A_r1, ⟨r1_1, R_r1_1, H_r1_1⟩⟩ := id H_r1
  have z_r1_1 : rA R r1 1 = r1_1 := rA_e R_r1_1
  obtain ⟨T_r1_1, N_r1_1, A_r1_1⟩ := id H_r1_1
  obtain ⟨T_r0_4, N_r0_4, A_r0_4⟩ := id H_r0_4
  try simp only [z_r0_1, z_r0_2, z_r0_3, z_r0_4, z_r0_5, z_r0_1_0, z_r0_1_1, z_r0_1_2, z_r0_1_0_6, z_r0_1_0_7, z_r0_1_0_8, z_r0_1_0_9, z_r0_1_0_10, z_r1_1] at hp0
  try simp only [z_r0_1, z_r0_2, z_r0_3, z_r0_4, z_r0_5, z_r0_1_0, z_r0_1_1, z_r0_1_2, z_r0_1_0_6, z_r0_1_0_7, z_r0_1_0_8, z_r0_1_0_9, z_r0_1_0_10, z_r1_1] at hp1
  try simp only [z_r0_1, z_r0_2, z_r0_3, z_r0_4, z_r0_5, z_r0_1_0, z_r0_1_1, z_r0_1_2, z_r0_1_0_6, z_r0_1_0_7, z_r0_1_0_8, z_r0_1_0_9, z_r0_1_0_10, z_r1_1] at hp2
  try simp only [z_r0_1, z_r0_2, z_r0_3, z_r0_4, z_r0_5, z_r0_1_0, z_r0_1_1, z_r0_1_2, z_r0_1_0_6, z_r0_1_0_7, z_r0_1_0_8, z_r0_1_0_9, z_r0_1_0_10, z_r1_1] at hp3
  obtain ⟨w_r0_1_0_0, k0_r0_1_0_0⟩ : ∃ x, I r0_1_0 0 = x := ⟨_, rfl⟩
  have gw_r0_1_0_0 := rg w_r0_1_0_0
  have ow_r0_1_0_0 := IX.p hI A_r0_1_0 T_r0_1_0 k0_r0_1_0_0
  obtain ⟨w_r0_6, k0_r0_6⟩ : ∃ x, I r0 6 = x := ⟨_, rfl⟩
  have gw_r0_6 := rg w_r0_6
  obtain ⟨w_r1_0, k0_r1_0⟩ : ∃ x, I r1 0 = x := ⟨_, rfl⟩
  have gw_r1_0 := rg w_r1_0
  have ow_r1_0 := IX.deg hI A_r1 T_r1 k0_r1_0
  try simp only [k0_r0_1_0_0, k0_r0_6, k0_r1_0] at hp0
  try simp only [k0_r0_1_0_0, k0_r0_6, k0_r1_0] at hp1
  try simp only [k0_r0_1_0_0, k0_r0_6, k0_r1_0] at hp2
  try simp only [k0_r0_1_0_0, k0_r0_6, k0_r1_0] at hp3
  have nf : NQ9 r1_1 r0_4 := hU.ne (Or.inr (Or.inr (Or.inr (by omega)))) R_r1_1 R_r0_4 (Or.inl (t_nq T_r1 T_r0 (by decide)))
  have hpF : ∀ j : Nat, (j : Int) ≤ w_r1_0.toInt → 0 ≤ NF I r1_1 j ∧ NF I r1_1 j < w_r0_1_0_0.toInt := hp2
  refine z_iconst C (z := 1) rfl rfl rfl (fun x1 ex1 => ?_)
  refine k_istore_n C (lw := [(2, .int x1), (0, .ref r0), (1, .ref r1)]) rfl rfl (Nat.le_of_ble_eq_true rfl) rfl ?_
  refine z_iconst C (z := 0) rfl rfl rfl (fun x2 ex2 => ?_)
  have J3 : ∀ (nn4 : Nat) (I5 : IT) (L6 : LT) (x7 : Int32) (x8 : Int32), (MN (9 - x8.toInt) nn4) → (IX A T I5) → (Chg (SL [r0_4]) T [] I L I5 L6) → (0 ≤ x8.toInt) → (x8.toInt ≤ 9) → (SHL (I5 r0_4) (NF I r1_1) w_r0_1_0_0.toInt w_r0_6.toInt x8.toInt) → (x7.toInt = BNI w_r0_6.toInt x8.toNatClampNeg) → (x8.toInt ≤ w_r0_6.toInt + 1) → V 4 [(0, .ref r0), (1, .ref r1), (2, .int x7), (3, .int x8)] [] (T, N, I5, L6, R) 0 0 := by
    intro nn4
    induction nn4 using Nat.strongRecOn with
    | _ nn4 ihJ3 =>
      intro I5 L6 x7 x8 hmnn4 hI12 S11 b9 b10 ff4_0 ff4_1 ff4_2
      have gx7 := rg x7
      have gx8 := rg x8
      have e16 := Chg.k S11 T_r0_1_0 (by decide) (by decide) k0_r0_1_0_0
      have e17 := Chg.k S11 T_r0 (by decide) (by decide) k0_r0_6
      have e18 := Chg.k S11 T_r1 (by decide) (by decide) k0_r1_0
      refine k_iload_n C rfl rfl rfl ?_
      refine k_aload_n C rfl rfl rfl ?_
      refine g_I C rfl rfl rfl T_r0 rfl e17 ?_
      refine b_icmp_gt C (t := 68) rfl rfl rfl (fun c19 => ?_) (fun c19 => ?_)
      · skip
        exact k_vret C rfl rfl (Nat.le_of_ble_eq_true rfl) (Nat.le_of_ble_eq_true rfl) ⟨_, _, rfl, rfl, by (try simp only [z_r0_1, z_r0_2, z_r0_3, z_r0_4, z_r0_5, z_r0_1_0, z_r0_1_1, z_r0_1_2, z_r0_1_0_6, z_r0_1_0_7, z_r0_1_0_8, z_r0_1_0_9, z_r0_1_0_10, z_r1_1]); simp only [k0_r0_6, k0_r0_1_0_0]; exact ff4_0.e (by omega), hI12, (by (try simp only [z_r0_1, z_r0_2, z_r0_3, z_r0_4, z_r0_5, z_r0_1_0, z_r0_1_1, z_r0_1_2, z_r0_1_0_6, z_r0_1_0_7, z_r0_1_0_8, z_r0_1_0_9, z_r0_1_0_10, z_r1_1]); exact (Chg.mono S11 (by decide)))⟩
      refine k_iload_n C rfl rfl rfl ?_
      refine k_aload_n C rfl rfl rfl ?_
      refine g_R C rfl rfl rfl T_r0 rfl R_r0_4 ?_
      refine z_len C (n := 9) rfl rfl (by rw [T_r0_4]; exact Nat.le_of_ble_eq_true rfl) N_r0_4 (Nat.le_of_ble_eq_true rfl) (fun x20 ex20 => ?_)
      refine b_icmp_ge C (t := 68) rfl rfl rfl (fun c21 => by exfalso; omega) (fun c21 => ?_)
      refine k_aload_n C rfl rfl rfl ?_
      refine g_R C rfl rfl rfl T_r0 rfl R_r0_4 ?_
      refine k_iload_n C rfl rfl rfl ?_
      refine k_aload_n C rfl rfl rfl ?_
      refine g_R C rfl rfl rfl T_r0 rfl R_r0_1 ?_
      refine k_aload_n C rfl rfl rfl ?_
      refine k_iload_n C rfl rfl rfl ?_
      refine c_VI C (s_X2_get_x hS hI12 H_r1) rfl rfl rfl rfl rfl ⟨_, rfl, rfl, T_r1, Nat.le_of_ble_eq_true rfl⟩ rfl rfl (Nat.le_of_ble_eq_true rfl) (Nat.le_of_ble_eq_true rfl) (Nat.le_of_ble_eq_true rfl) ?_
      rintro x22 _ _ ⟨p0x22, rfl, rfl⟩
      have gx22 := rg x22
      try simp only [z_r0_1, z_r0_2, z_r0_3, z_r0_4, z_r0_5, z_r0_1_0, z_r0_1_1, z_r0_1_2, z_r0_1_0_6, z_r0_1_0_7, z_r0_1_0_8, z_r0_1_0_9, z_r0_1_0_10, z_r1_1] at p0x22
      try simp only [e16, e17, e18] at p0x22
      try have q0x22 := congrArg Int32.toInt p0x22
      have hga := p0x22; (try simp only [e18] at hga); (try rw [(Chg.at ((Chg.mono S11 (by decide)) : Chg (SL [r0_4]) T [] I L I5 L6) (nm_1 (by first | exact nf | exact fun e => nf e.symm)))] at hga); have hga : GTD x22.toInt _ (NF I r1_1) _ := hga
      refine k_aload_n C rfl rfl rfl ?_
      refine g_R C rfl rfl rfl T_r0 rfl R_r0_1 ?_
      refine k_iload_n C rfl rfl rfl ?_
      have hbb := BNI.b (k := w_r0_6.toInt) (i := x8.toNatClampNeg) (by omega) (by omega) (by have h9 := ncz (x := x8) (by omega); omega); rw [← ff4_1] at hbb
      refine c_VI C (s_X0_inverse_y hS hI12 H_r0_1 (by omega) (by omega) (by rw [z_r0_1_0, e16]; exact hp3)) rfl rfl rfl rfl rfl ⟨_, rfl, rfl, T_r0_1, Nat.le_of_ble_eq_true rfl⟩ rfl rfl (Nat.le_of_ble_eq_true rfl) (Nat.le_of_ble_eq_true rfl) (Nat.le_of_ble_eq_true rfl) ?_
      rintro x23 _ _ ⟨o0x23, o1x23, p0x23, rfl, rfl⟩
      have gx23 := rg x23
      try simp only [z_r0_1, z_r0_2, z_r0_3, z_r0_4, z_r0_5, z_r0_1_0, z_r0_1_1, z_r0_1_2, z_r0_1_0_6, z_r0_1_0_7, z_r0_1_0_8, z_r0_1_0_9, z_r0_1_0_10, z_r1_1] at p0x23
      try simp only [e16, e17, e18] at p0x23
      try have q0x23 := congrArg Int32.toInt p0x23
      have hin := p0x23; (try simp only [e16] at hin)
      refine z_imulE C rfl rfl (fun x24 ex24 => ?_)
      have gx24 := rg x24
      have m43 := ex24
      refine z_i2l C rfl rfl (fun lg25 elg25 => ?_)
      have hl44 := elg25
      refine c_VI C (s_X0_of_x hS hI12 H_r0_1) rfl rfl rfl rfl rfl ⟨_, rfl, rfl, T_r0_1, Nat.le_of_ble_eq_true rfl⟩ rfl rfl (Nat.le_of_ble_eq_true rfl) (Nat.le_of_ble_eq_true rfl) (Nat.le_of_ble_eq_true rfl) ?_
      rintro x26 _ _ ⟨o0x26, o1x26, p0x26, p1x26, rfl, rfl⟩
      have gx26 := rg x26
      try simp only [z_r0_1, z_r0_2, z_r0_3, z_r0_4, z_r0_5, z_r0_1_0, z_r0_1_1, z_r0_1_2, z_r0_1_0_6, z_r0_1_0_7, z_r0_1_0_8, z_r0_1_0_9, z_r0_1_0_10, z_r1_1] at p0x26
      try simp only [z_r0_1, z_r0_2, z_r0_3, z_r0_4, z_r0_5, z_r0_1_0, z_r0_1_1, z_r0_1_2, z_r0_1_0_6, z_r0_1_0_7, z_r0_1_0_8, z_r0_1_0_9, z_r0_1_0_10, z_r1_1] at p1x26
      try simp only [e16, e17, e18] at p0x26
      try have q0x26 := congrArg Int32.toInt p0x26
      try simp only [e16, e17, e18] at p1x26
      try have q1x26 := congrArg Int32.toInt p1x26
      have hof := p0x26; (try simp only [e16] at hof)
      refine z_sI C rfl rfl T_r0_4 N_r0_4 (by omega) (by omega) (fun I27 uI27 => ?_)
      have hI27 : IX A T I27 := IX.a hI12 T_r0_4 (Nat.le_of_ble_eq_true rfl) uI27
      have S28 : Chg (SL [r0_4]) T [] I5 L6 I27 L6 := Chg.a List.mem_cons_self T_r0_4 (Nat.le_of_ble_eq_true rfl) uI27
      have e29 := u2_n uI27 (t_nq T_r0_1_0 T_r0_4 (by decide)) e16
      have e30 := u2_n uI27 (t_nq T_r0 T_r0_4 (by decide)) e17
      have e31 := u2_n uI27 (t_nq T_r1 T_r0_4 (by decide)) e18
      have hput48 := uI27
      refine k_iload_n C rfl rfl rfl ?_
      refine k_aload_n C rfl rfl rfl ?_
      refine g_I C rfl rfl rfl T_r0 rfl e30 ?_
      refine k_iload_n C rfl rfl rfl ?_
      refine z_isub C rfl rfl ⟨by omega, by omega⟩ (fun x32 ex32 => ?_)
      refine z_imulE C rfl rfl (fun x33 ex33 => ?_)
      have gx33 := rg x33
      have m56 := ex33
      refine k_iload_n C rfl rfl rfl ?_
      refine z_iconst C (z := 1) rfl rfl rfl (fun x34 ex34 => ?_)
      refine z_iadd C rfl rfl ⟨by omega, by omega⟩ (fun x35 ex35 => ?_)
      refine z_idivE C rfl rfl (by omega) (fun x36 ex36 => ?_)
      have gx36 := rg x36
      have m60 := ex36
      refine k_istore_n C (lw := [(2, .int x36), (0, .ref r0), (1, .ref r1), (3, .int x8)]) rfl rfl (Nat.le_of_ble_eq_true rfl) rfl ?_
      refine z_iinc C (z := 1) (lw := fun x37 => [(3, .int x37), (2, .int x36), (0, .ref r0), (1, .ref r1)]) rfl rfl rfl (Nat.le_of_ble_eq_true rfl) rfl ⟨by omega, by omega⟩ (fun _ => rfl) (fun x37 ex37 => ?_)
      show V 65 [(3, .int x37), (2, .int x36), (0, .ref r0), (1, .ref r1)] _ _ _ _
      refine k_goto C (pc2 := 4) rfl rfl ?_
      refine k_sub S [(0, .ref r0), (1, .ref r1), (2, .int x36), (3, .int x37)] (List.forall_mem_cons.mpr ⟨List.mem_of_getElem? (i := 2) rfl, List.forall_mem_cons.mpr ⟨List.mem_of_getElem? (i := 3) rfl, List.forall_mem_cons.mpr ⟨List.mem_of_getElem? (i := 1) rfl, List.forall_mem_cons.mpr ⟨List.mem_of_getElem? (i := 0) rfl, fun _ h => nomatch h⟩⟩⟩⟩) ?_
      exact ihJ3 _ (MN.lt hmnn4 (by omega) (by omega)) I27 L6 x36 x37 rfl hI27 (Chg.cons S11 (Chg.mono (Chg.up S28 (List.forall_mem_cons.mpr ⟨List.mem_of_getElem? (i := 0) rfl, fun _ h => nomatch h⟩)) (by decide)) (by decide)) (by omega) (by omega) (by exact SHL.s ff4_0 hput48 hga (by omega) hin ff4_1 (BNI.nz hp3 (by omega) (by omega) (by have h9 := ncz (x := x8) (by omega); omega)) m43 hl44 hof hpF (by omega) (by omega) (by omega)) (by exact BNI.st ff4_1 m56 m60 (by omega) (by omega) (by omega) (by omega) (by omega) (by omega)) (by omega)
  refine k_istore_n C (lw := [(3, .int x2), (2, .int x1), (0, .ref r0), (1, .ref r1)]) rfl rfl (Nat.le_of_ble_eq_true rfl) rfl ?_
  refine k_sub S [(0, .ref r0), (1, .ref r1), (2, .int x1), (3, .int x2)] (List.forall_mem_cons.mpr ⟨List.mem_of_getElem? (i := 2) rfl, List.forall_mem_cons.mpr ⟨List.mem_of_getElem? (i := 3) rfl, List.forall_mem_cons.mpr ⟨List.mem_of_getElem? (i := 1) rfl, List.forall_mem_cons.mpr ⟨List.mem_of_getElem? (i := 0) rfl, fun _ h => nomatch h⟩⟩⟩⟩) ?_
  exact J3 _ I L x1 x2 rfl hI Chg.rf (by omega) (by omega) (by exact SHL.z (by omega)) (by rw [ncz0 (by omega)]; show _ = (1 : Int); omega) (by omega)

theorem s_X3_pointAt_x {d : Nat} {T N : Nat → Nat} {I : IT} {L : LT} {R : RT} {A B : Nat → Prop} {r0 : Nat} {n1 : Int32} (hS : SUB B A) (hI : IX A T I) (H_r0 : (hs_Po T N R A B) r0) (hp0 : -1 ≤ (I r0 0).toInt ∧ (I r0 0).toInt ≤ 3) : Ex (d + 1) 47 [.ref r0, .int n1] (T, N, I, L, R) 0 0 (pI T N R (fun x9 I9 L9 => (PTA x9.toInt (NF I (rA R r0 2)) (I r0 0).toInt n1.toInt) ∧ (I = I9 ∧ L = L9))) := by
  refine ⟨_, rfl, Nat.le_of_ble_eq_true rfl, fun V C S => ?_⟩
  show V 0 [(0, .ref r0), (1, .int n1)] [] (T, N, I, L, R) 0 0
  have gn1 := rg n1
  obtain ⟨T_r0, A_r0, B_r0, ⟨r0_1, R_r0_1, H_r0_1⟩, ⟨r0_2, R_r0_2, H_r0_2⟩, ⟨r0_3, R_r0_3, H_r0_3⟩, ⟨r0_4, R_r0_4, H_r0_4⟩, ⟨r0_5, R_r0_5, H_r0_5⟩⟩ := id H_r0
  have z_r0_1 : rA R r0 1 = r0_1 := rA_e R_r0_1
  have z_r0_2 : rA R r0 2 = r0_2 := rA_e R_r0_2
  have z_r0_3 : rA R r0 3 = r0_3 := rA_e R_r0_3
  have z_r0_4 : rA R r0 4 = r0_4 := rA_e R_r0_4
  have z_r0_5 : rA R r0 5 = r0_5 := rA_e R_r0_5
  obtain ⟨T_r0_2, N_r0_2, A_r0_2⟩ := id H_r0_2
  try simp only [z_r0_1, z_r0_2, z_r0_3, z_r0_4, z_r0_5] at hp0
  obtain ⟨w_r0_0, k0_r0_0⟩ : ∃ x, I r0 0 = x := ⟨_, rfl⟩
  have gw_r0_0 := rg w_r0_0
  try simp only [k0_r0_0] at hp0
  refine k_iload_n C rfl rfl rfl ?_
  refine b_if_lt C (t := 21) rfl rfl rfl (fun c1 => ?_) (fun c1 => ?_)
  · skip
    refine z_iconst C (z := -1) rfl rfl rfl (fun x2 ex2 => ?_)
    refine k_goto C (pc2 := 31) rfl rfl ?_
    exact k_iret C rfl (Or.inl rfl) (Nat.le_of_ble_eq_true rfl) (Nat.le_of_ble_eq_true rfl) ⟨_, _, _, rfl, rfl, by (try simp only [z_r0_1, z_r0_2, z_r0_3, z_r0_4, z_r0_5]); simp only [k0_r0_0]; first | exact PTA.z (by omega) (by omega) | exact PTA.r (by omega) (by omega) ex2, rfl, rfl⟩
  refine k_iload_n C rfl rfl rfl ?_
  refine k_aload_n C rfl rfl rfl ?_
  refine g_I C rfl rfl rfl T_r0 rfl k0_r0_0 ?_
  refine b_icmp_ge C (t := 21) rfl rfl rfl (fun c3 => ?_) (fun c3 => ?_)
  · skip
    refine z_iconst C (z := -1) rfl rfl rfl (fun x4 ex4 => ?_)
    refine k_goto C (pc2 := 31) rfl rfl ?_
    exact k_iret C rfl (Or.inl rfl) (Nat.le_of_ble_eq_true rfl) (Nat.le_of_ble_eq_true rfl) ⟨_, _, _, rfl, rfl, by (try simp only [z_r0_1, z_r0_2, z_r0_3, z_r0_4, z_r0_5]); simp only [k0_r0_0]; first | exact PTA.z (by omega) (by omega) | exact PTA.r (by omega) (by omega) ex4, rfl, rfl⟩
  refine k_iload_n C rfl rfl rfl ?_
  refine k_aload_n C rfl rfl rfl ?_
  refine g_R C rfl rfl rfl T_r0 rfl R_r0_2 ?_
  refine z_len C (n := 3) rfl rfl (by rw [T_r0_2]; exact Nat.le_of_ble_eq_true rfl) N_r0_2 (Nat.le_of_ble_eq_true rfl) (fun x5 ex5 => ?_)
  refine b_icmp_lt C (t := 25) rfl rfl rfl (fun c6 => ?_) (fun c6 => by exfalso; omega)
  refine k_aload_n C rfl rfl rfl ?_
  refine g_R C rfl rfl rfl T_r0 rfl R_r0_2 ?_
  refine k_iload_n C rfl rfl rfl ?_
  refine z_aI C rfl rfl T_r0_2 N_r0_2 (by omega) (by omega) (fun x7 ex7 => ?_)
  have gx7 := rg x7
  exact k_iret C rfl (Or.inl rfl) (Nat.le_of_ble_eq_true rfl) (Nat.le_of_ble_eq_true rfl) ⟨_, _, _, rfl, rfl, by (try simp only [z_r0_1, z_r0_2, z_r0_3, z_r0_4, z_r0_5]); simp only [k0_r0_0]; first | exact PTA.z (by omega) (by omega) | exact PTA.r (by omega) (by omega) ex7, rfl, rfl⟩

theorem s_X3_numberAt_x {d : Nat} {T N : Nat → Nat} {I : IT} {L : LT} {R : RT} {A B : Nat → Prop} {r0 : Nat} {n1 : Int32} (hS : SUB B A) (hI : IX A T I) (H_r0 : (hs_Po T N R A B) r0) (hp0 : -1 ≤ (I r0 0).toInt ∧ (I r0 0).toInt ≤ 3) : Ex (d + 1) 48 [.ref r0, .int n1] (T, N, I, L, R) 0 0 (pI T N R (fun x9 I9 L9 => (PTA x9.toInt (NF I (rA R r0 3)) (I r0 0).toInt n1.toInt) ∧ (I = I9 ∧ L = L9))) := by
  refine ⟨_, rfl, Nat.le_of_ble_eq_true rfl, fun V C S => ?_⟩
  show V 0 [(0, .ref r0), (1, .int n1)] [] (T, N, I, L, R) 0 0
  have gn1 := rg n1
  obtain ⟨T_r0, A_r0, B_r0, ⟨r0_1, R_r0_1, H_r0_1⟩, ⟨r0_2, R_r0_2, H_r0_2⟩, ⟨r0_3, R_r0_3, H_r0_3⟩, ⟨r0_4, R_r0_4, H_r0_4⟩, ⟨r0_5, R_r0_5, H_r0_5⟩⟩ := id H_r0
  have z_r0_1 : rA R r0 1 = r0_1 := rA_e R_r0_1
  have z_r0_2 : rA R r0 2 = r0_2 := rA_e R_r0_2
  have z_r0_3 : rA R r0 3 = r0_3 := rA_e R_r0_3
  have z_r0_4 : rA R r0 4 = r0_4 := rA_e R_r0_4
  have z_r0_5 : rA R r0 5 = r0_5 := rA_e R_r0_5
  obtain ⟨T_r0_3, N_r0_3, A_r0_3⟩ := id H_r0_3
  try simp only [z_r0_1, z_r0_2, z_r0_3, z_r0_4, z_r0_5] at hp0
  obtain ⟨w_r0_0, k0_r0_0⟩ : ∃ x, I r0 0 = x := ⟨_, rfl⟩
  have gw_r0_0 := rg w_r0_0
  try simp only [k0_r0_0] at hp0
  refine k_iload_n C rfl rfl rfl ?_
  refine b_if_lt C (t := 21) rfl rfl rfl (fun c1 => ?_) (fun c1 => ?_)
  · skip
    refine z_iconst C (z := -1) rfl rfl rfl (fun x2 ex2 => ?_)
    refine k_goto C (pc2 := 31) rfl rfl ?_
    exact k_iret C rfl (Or.inl rfl) (Nat.le_of_ble_eq_true rfl) (Nat.le_of_ble_eq_true rfl) ⟨_, _, _, rfl, rfl, by (try simp only [z_r0_1, z_r0_2, z_r0_3, z_r0_4, z_r0_5]); simp only [k0_r0_0]; first | exact PTA.z (by omega) (by omega) | exact PTA.r (by omega) (by omega) ex2, rfl, rfl⟩
  refine k_iload_n C rfl rfl rfl ?_
  refine k_aload_n C rfl rfl rfl ?_
  refine g_I C rfl rfl rfl T_r0 rfl k0_r0_0 ?_
  refine b_icmp_ge C (t := 21) rfl rfl rfl (fun c3 => ?_) (fun c3 => ?_)
  · skip
    refine z_iconst C (z := -1) rfl rfl rfl (fun x4 ex4 => ?_)
    refine k_goto C (pc2 := 31) rfl rfl ?_
    exact k_iret C rfl (Or.inl rfl) (Nat.le_of_ble_eq_true rfl) (Nat.le_of_ble_eq_true rfl) ⟨_, _, _, rfl, rfl, by (try simp only [z_r0_1, z_r0_2, z_r0_3, z_r0_4, z_r0_5]); simp only [k0_r0_0]; first | exact PTA.z (by omega) (by omega) | exact PTA.r (by omega) (by omega) ex4, rfl, rfl⟩
  refine k_iload_n C rfl rfl rfl ?_
  refine k_aload_n C rfl rfl rfl ?_
  refine g_R C rfl rfl rfl T_r0 rfl R_r0_3 ?_
  refine z_len C (n := 3) rfl rfl (by rw [T_r0_3]; exact Nat.le_of_ble_eq_true rfl) N_r0_3 (Nat.le_of_ble_eq_true rfl) (fun x5 ex5 => ?_)
  refine b_icmp_lt C (t := 25) rfl rfl rfl (fun c6 => ?_) (fun c6 => by exfalso; omega)
  refine k_aload_n C rfl rfl rfl ?_
  refine g_R C rfl rfl rfl T_r0 rfl R_r0_3 ?_
  refine k_iload_n C rfl rfl rfl ?_
  refine z_aI C rfl rfl T_r0_3 N_r0_3 (by omega) (by omega) (fun x7 ex7 => ?_)
  have gx7 := rg x7
  exact k_iret C rfl (Or.inl rfl) (Nat.le_of_ble_eq_true rfl) (Nat.le_of_ble_eq_true rfl) ⟨_, _, _, rfl, rfl, by (try simp only [z_r0_1, z_r0_2, z_r0_3, z_r0_4, z_r0_5]); simp only [k0_r0_0]; first | exact PTA.z (by omega) (by omega) | exact PTA.r (by omega) (by omega) ex7, rfl, rfl⟩

theorem s_X3_numberOf_x {d : Nat} {T N : Nat → Nat} {I : IT} {L : LT} {R : RT} {A B : Nat → Prop} {r0 : Nat} {n1 : Int32} (hS : SUB B A) (hI : IX A T I) (H_r0 : (hs_Po T N R A B) r0) (b0_n1 : 0 ≤ n1.toInt) (b1_n1 : n1.toInt ≤ 2) (hU : UPR T R) (hp0 : 0 ≤ (I r0 6).toInt ∧ (I r0 6).toInt ≤ 8) (hp1 : (I r0 0).toInt ≤ 3) (hp2 : n1.toInt < (I r0 0).toInt) (hp3 : (I r0 0).toInt ≤ (I r0 6).toInt + 1) (hp4 : RIS (I (rA R (rA R r0 1) 0) 0).toInt (I r0 0).toInt.toNat (NF I (rA R r0 2))) (hp5 : ∀ j : Nat, (j : Int) < (I r0 6).toInt + 1 → 0 ≤ NF I (rA R r0 4) j ∧ NF I (rA R r0 4) j < (I (rA R (rA R r0 1) 0) 0).toInt) (hp6 : PRM (I (rA R (rA R r0 1) 0) 0).toInt) : Ex (d + 4) 55 [.ref r0, .int n1] (T, N, I, L, R) 0 0 (pI T N R (fun x9 I9 L9 => (NMQ x9.toInt (I (rA R (rA R r0 1) 0) 0).toInt (I r0 6).toInt (NF I (rA R r0 4)) (NF I (rA R r0 2)) (I r0 0).toInt.toNat n1.toNatClampNeg) ∧ (IX A T I9 ∧ Chg (SL [r0, (rA R r0 5)]) T [(4, 7)] I L I9 L9))) := by
  refine ⟨_, rfl, Nat.le_of_ble_eq_true rfl, fun V C S => ?_⟩
  show V 0 [(0, .ref r0), (1, .int n1)] [] (T, N, I, L, R) 0 0
  have gn1 := rg n1
  obtain ⟨T_r0, A_r0, B_r0, ⟨r0_1, R_r0_1, H_r0_1⟩, ⟨r0_2, R_r0_2, H_r0_2⟩, ⟨r0_3, R_r0_3, H_r0_3⟩, ⟨r0_4, R_r0_4, H_r0_4⟩, ⟨r0_5, R_r0_5, H_r0_5⟩⟩ := id H_r0
  have z_r0_1 : rA R r0 1 = r0_1 := rA_e R_r0_1
  have z_r0_2 : rA R r0 2 = r0_2 := rA_e R_r0_2
  have z_r0_3 : rA R r0 3 = r0_3 := rA_e R_r0_3
  have z_r0_4 : rA R r0 4 = r0_4 := rA_e R_r0_4
  have z_r0_5 : rA R r0 5 = r0_5 := rA_e R_r0_5
  obtain ⟨T_r0_1, A_r0_1, B_r0_1, ⟨r0_1_0, R_r0_1_0, H_r0_1_0⟩, ⟨r0_1_1, R_r0_1_1, H_r0_1_1⟩, ⟨r0_1_2, R_r0_1_2, H_r0_1_2⟩⟩ := id H_r0_1
  have z_r0_1_0 : rA R r0_1 0 = r0_1_0 := rA_e R_r0_1_0
  have z_r0_1_1 : rA R r0_1 1 = r0_1_1 := rA_e R_r0_1_1
  have z_r0_1_2 : rA R r0_1 2 = r0_1_2 := rA_e R_r0_1_2
  obtain ⟨T_r0_1_0, A_r0_1_0, B_r0_1_0, ⟨r0_1_0_6, R_r0_1_0_6, H_r0_1_0_6⟩, ⟨r0_1_0_7, R_r0_1_0_7, H_r0_1_0_7⟩, ⟨r0_1_0_8, R_r0_1_0_8, H_r0_1_0_8⟩, ⟨r0_1_0_9, R_r0_1_0_9, H_r0_1_0_9⟩, ⟨r0_1_0_10, R_r0_1_0_10, H_r0_1_0_10⟩⟩ := id H_r0_1_0
  have z_r0_1_0_6 : rA R r0_1_0 6 = r0_1_0_6 := rA_e R_r0_1_0_6
  have z_r0_1_0_7 : rA R r0_1_0 7 = r0_1_0_7 := rA_e R_r0_1_0_7
  have z_r0_1_0_8 : rA R r0_1_0 8 = r0_1_0_8 := rA_e R_r0_1_0_8
  have z_r0_1_0_9 : rA R r0_1_0 9 = r0_1_0_9 := rA_e R_r0_1_0_9
  have z_r0_1_0_10 : rA R r0_1_0 10 = r0_1_0_10 := rA_e R_r0_1_0_10
  obtain ⟨T_r0_2, N_r0_2, A_r0_2⟩ := id H_r0_2
  obtain ⟨T_r0_4, N_r0_4, A_r0_4⟩ := id H_r0_4
  obtain ⟨T_r0_5, N_r0_5, A_r0_5⟩ := id H_r0_5
  try simp only [z_r0_1, z_r0_2, z_r0_3, z_r0_4, z_r0_5, z_r0_1_0, z_r0_1_1, z_r0_1_2, z_r0_1_0_6, z_r0_1_0_7, z_r0_1_0_8, z_r0_1_0_9, z_r0_1_0_10] at hp0
  try simp only [z_r0_1, z_r0_2, z_r0_3, z_r0_4, z_r0_5, z_r0_1_0, z_r0_1_1, z_r0_1_2, z_r0_1_0_6, z_r0_1_0_7, z_r0_1_0_8, z_r0_1_0_9, z_r0_1_0_10] at hp1
  try simp only [z_r0_1, z_r0_2, z_r0_3, z_r0_4, z_r0_5, z_r0_1_0, z_r0_1_1, z_r0_1_2, z_r0_1_0_6, z_r0_1_0_7, z_r0_1_0_8, z_r0_1_0_9, z_r0_1_0_10] at hp2
  try simp only [z_r0_1, z_r0_2, z_r0_3, z_r0_4, z_r0_5, z_r0_1_0, z_r0_1_1, z_r0_1_2, z_r0_1_0_6, z_r0_1_0_7, z_r0_1_0_8, z_r0_1_0_9, z_r0_1_0_10] at hp3
  try simp only [z_r0_1, z_r0_2, z_r0_3, z_r0_4, z_r0_5, z_r0_1_0, z_r0_1_1, z_r0_1_2, z_r0_1_0_6, z_r0_1_0_7, z_r0_1_0_8, z_r0_1_0_9, z_r0_1_0_10] at hp4
  try simp only [z_r0_1, z_r0_2, z_r0_3, z_r0_4, z_r0_5, z_r0_1_0, z_r0_1_1, z_r0_1_2, z_r0_1_0_6, z_r0_1_0_7, z_r0_1_0_8, z_r0_1_0_9, z_r0_1_0_10] at hp5
  try simp only [z_r0_1, z_r0_2, z_r0_3, z_r0_4, z_r0_5, z_r0_1_0, z_r0_1_1, z_r0_1_2, z_r0_1_0_6, z_r0_1_0_7, z_r0_1_0_8, z_r0_1_0_9, z_r0_1_0_10] at hp6
  obtain ⟨w_r0_1_0_0, k0_r0_1_0_0⟩ : ∃ x, I r0_1_0 0 = x := ⟨_, rfl⟩
  have gw_r0_1_0_0 := rg w_r0_1_0_0
  have ow_r0_1_0_0 := IX.p hI A_r0_1_0 T_r0_1_0 k0_r0_1_0_0
  obtain ⟨w_r0_6, k0_r0_6⟩ : ∃ x, I r0 6 = x := ⟨_, rfl⟩
  have gw_r0_6 := rg w_r0_6
  obtain ⟨w_r0_0, k0_r0_0⟩ : ∃ x, I r0 0 = x := ⟨_, rfl⟩
  have gw_r0_0 := rg w_r0_0
  try simp only [k0_r0_1_0_0, k0_r0_6, k0_r0_0] at hp0
  try simp only [k0_r0_1_0_0, k0_r0_6, k0_r0_0] at hp1
  try simp only [k0_r0_1_0_0, k0_r0_6, k0_r0_0] at hp2
  try simp only [k0_r0_1_0_0, k0_r0_6, k0_r0_0] at hp3
  try simp only [k0_r0_1_0_0, k0_r0_6, k0_r0_0] at hp4
  try simp only [k0_r0_1_0_0, k0_r0_6, k0_r0_0] at hp5
  try simp only [k0_r0_1_0_0, k0_r0_6, k0_r0_0] at hp6
  have n25 : NQ9 r0_2 r0_5 := hU.ne (Or.inr (Or.inr (Or.inr (by omega)))) R_r0_2 R_r0_5 (Or.inr (by decide))
  have n45 : NQ9 r0_4 r0_5 := hU.ne (Or.inr (Or.inr (Or.inr (by omega)))) R_r0_4 R_r0_5 (Or.inr (by decide))
  have hw9 := ncz (x := n1) (by omega)
  have hbw := hp4.1 n1.toNatClampNeg (by omega)
  refine k_aload_n C rfl rfl rfl ?_
  refine k_iload_n C rfl rfl rfl ?_
  refine c_VI C (s_X3_pointAt_x hS hI H_r0 (by rw [k0_r0_0]; omega)) rfl rfl rfl rfl rfl ⟨_, rfl, rfl, T_r0, Nat.le_of_ble_eq_true rfl⟩ rfl rfl (Nat.le_of_ble_eq_true rfl) (Nat.le_of_ble_eq_true rfl) (Nat.le_of_ble_eq_true rfl) ?_
  rintro x1 _ _ ⟨p0x1, rfl, rfl⟩
  have gx1 := rg x1
  try simp only [z_r0_1, z_r0_2, z_r0_3, z_r0_4, z_r0_5, z_r0_1_0, z_r0_1_1, z_r0_1_2, z_r0_1_0_6, z_r0_1_0_7, z_r0_1_0_8, z_r0_1_0_9, z_r0_1_0_10] at p0x1
  try simp only [k0_r0_1_0_0, k0_r0_6, k0_r0_0] at p0x1
  try have q0x1 := congrArg Int32.toInt p0x1
  have hpt := p0x1; (try simp only [z_r0_1, z_r0_2, z_r0_3, z_r0_4, z_r0_5, z_r0_1_0, z_r0_1_1, z_r0_1_2, z_r0_1_0_6, z_r0_1_0_7, z_r0_1_0_8, z_r0_1_0_9, z_r0_1_0_10, k0_r0_0] at hpt); have hmi : x1.toInt = NF I r0_2 n1.toNatClampNeg := hpt.1 (by omega) (by omega)
  refine k_istore_n C (lw := [(2, .int x1), (0, .ref r0), (1, .int n1)]) rfl rfl (Nat.le_of_ble_eq_true rfl) rfl ?_
  refine z_iconst C (z := 1) rfl rfl rfl (fun x2 ex2 => ?_)
  refine k_istore_n C (lw := [(3, .int x2), (2, .int x1), (0, .ref r0), (1, .int n1)]) rfl rfl (Nat.le_of_ble_eq_true rfl) rfl ?_
  refine k_aload_n C rfl rfl rfl ?_
  refine c_VV C (s_X3_beginRow_x hS hI H_r0 hU (by rw [k0_r0_6]; omega)) rfl rfl rfl rfl rfl ⟨_, rfl, rfl, T_r0, Nat.le_of_ble_eq_true rfl⟩ rfl rfl (Nat.le_of_ble_eq_true rfl) (Nat.le_of_ble_eq_true rfl) (Nat.le_of_ble_eq_true rfl) ?_
  rintro I4 L5 ⟨p0v3, p1v3, hI4, S6⟩
  try simp only [z_r0_1, z_r0_2, z_r0_3, z_r0_4, z_r0_5, z_r0_1_0, z_r0_1_1, z_r0_1_2, z_r0_1_0_6, z_r0_1_0_7, z_r0_1_0_8, z_r0_1_0_9, z_r0_1_0_10] at S6
  have e7 := Chg.k S6 T_r0_1_0 (by decide) (by decide) k0_r0_1_0_0
  have e8 := Chg.k S6 T_r0 (by decide) (by decide) k0_r0_6
  have e9 := Chg.k S6 T_r0 (by decide) (by decide) k0_r0_0
  obtain ⟨x10, e11⟩ : ∃ x, I4 r0 7 = x := ⟨_, rfl⟩
  have gx10 := rg x10
  try simp only [z_r0_1, z_r0_2, z_r0_3, z_r0_4, z_r0_5, z_r0_1_0, z_r0_1_1, z_r0_1_2, z_r0_1_0_6, z_r0_1_0_7, z_r0_1_0_8, z_r0_1_0_9, z_r0_1_0_10] at p0v3
  try simp only [z_r0_1, z_r0_2, z_r0_3, z_r0_4, z_r0_5, z_r0_1_0, z_r0_1_1, z_r0_1_2, z_r0_1_0_6, z_r0_1_0_7, z_r0_1_0_8, z_r0_1_0_9, z_r0_1_0_10] at p1v3
  try simp only [k0_r0_1_0_0, k0_r0_6, k0_r0_0, e11] at p0v3
  try have q0v3 := congrArg Int32.toInt p0v3
  try simp only [k0_r0_1_0_0, k0_r0_6, k0_r0_0, e11] at p1v3
  try have q1v3 := congrArg Int32.toInt p1v3
  have hbr := p1v3; (try simp only [z_r0_1, z_r0_2, z_r0_3, z_r0_4, z_r0_5, z_r0_1_0, z_r0_1_1, z_r0_1_2, z_r0_1_0_6, z_r0_1_0_7, z_r0_1_0_8, z_r0_1_0_9, z_r0_1_0_10] at hbr)
  refine z_iconst C (z := 0) rfl rfl rfl (fun x12 ex12 => ?_)
  have J13 : ∀ (nn14 : Nat) (I15 : IT) (L16 : LT) (x17 : Int32) (x20 : Int32) (x25 : Int32), (MN (3 - x20.toInt) nn14) → (IX A T I15) → (Chg (SL [r0, r0_5]) T [(4, 7)] I4 L5 I15 L16) → (0 ≤ x17.toInt) → (x17.toInt ≤ 18) → (0 ≤ x20.toInt) → (x20.toInt ≤ 3) → (I15 r0 7 = x25) → (-90 ≤ x25.toInt) → (x25.toInt ≤ 9) → (RWK (I15 r0_5) w_r0_1_0_0.toInt n1.toNatClampNeg (NF I r0_2) (NF I r0_4) (w_r0_6.toInt + 1) x20.toNatClampNeg) → (x25.toInt = LNS n1.toNatClampNeg (w_r0_6.toInt + 1) x20.toNatClampNeg) → (w_r0_6.toInt + 1 - x20.toInt ≤ x25.toInt ∧ x25.toInt ≤ w_r0_6.toInt + 1) → (OVK x17.toInt w_r0_1_0_0.toInt n1.toNatClampNeg (NF I r0_2) x20.toNatClampNeg) → (0 ≤ x17.toInt ∧ x17.toInt ≤ 18) → (x20.toInt ≤ w_r0_0.toInt) → V 15 [(0, .ref r0), (1, .int n1), (2, .int x1), (3, .int x17), (4, .int x20)] [] (T, N, I15, L16, R) 0 0 := by
    intro nn14
    induction nn14 using Nat.strongRecOn with
    | _ nn14 ihJ13 =>
      intro I15 L16 x17 x20 x25 hmnn14 hI24 S23 b18 b19 b21 b22 e26 b27 b28 ff15_0 ff15_1 ff15_2 ff15_3 ff15_4 ff15_5
      have gx17 := rg x17
      have gx20 := rg x20
      have gx25 := rg x25
      have e35 := Chg.k S23 T_r0_1_0 (by decide) (by decide) e7
      have e36 := Chg.k S23 T_r0 (by decide) (by decide) e8
      have e37 := Chg.k S23 T_r0 (by decide) (by decide) e9
      refine k_iload C rfl rfl rfl ?_
      refine k_aload_n C rfl rfl rfl ?_
      refine g_I C rfl rfl rfl T_r0 rfl e37 ?_
      refine b_icmp_ge C (t := 98) rfl rfl rfl (fun c38 => ?_) (fun c38 => ?_)
      · skip
        have hkn : x20.toNatClampNeg = w_r0_0.toInt.toNat := (by have h9 := ncz (x := x20) (by omega); omega); have hR := ff15_0; rw [hkn] at hR; have hM := ff15_1; rw [hkn] at hM; have hO := ff15_3; rw [hkn] at hO; have hLb := LNS.b (w := n1.toNatClampNeg) (L := w_r0_6.toInt + 1) w_r0_0.toInt.toNat (by omega)
        refine k_iload_n C rfl rfl rfl ?_
        refine k_aload_n C rfl rfl rfl ?_
        refine g_R C rfl rfl rfl T_r0 rfl R_r0_1 ?_
        refine c_VI C (s_X0_p_x hS hI24 H_r0_1) rfl rfl rfl rfl rfl ⟨_, rfl, rfl, T_r0_1, Nat.le_of_ble_eq_true rfl⟩ rfl rfl (Nat.le_of_ble_eq_true rfl) (Nat.le_of_ble_eq_true rfl) (Nat.le_of_ble_eq_true rfl) ?_
        rintro x39 _ _ ⟨o0x39, o1x39, p0x39, rfl, rfl⟩
        have gx39 := rg x39
        try simp only [z_r0_1, z_r0_2, z_r0_3, z_r0_4, z_r0_5, z_r0_1_0, z_r0_1_1, z_r0_1_2, z_r0_1_0_6, z_r0_1_0_7, z_r0_1_0_8, z_r0_1_0_9, z_r0_1_0_10] at p0x39
        try simp only [e35, e36, e37, e26] at p0x39
        try have q0x39 := congrArg Int32.toInt p0x39
        have hp103 := p0x39; (try simp only [e35] at hp103)
        refine b_icmp_ne C (t := 118) rfl rfl rfl (fun c40 => ?_) (fun c40 => ?_)
        · skip
          refine z_iconst C (z := 0) rfl rfl rfl (fun x41 ex41 => ?_)
          refine k_istore C (lw := [(4, .int x41), (0, .ref r0), (1, .int n1), (2, .int x1), (3, .int x17)]) rfl rfl (Nat.le_of_ble_eq_true rfl) rfl ?_
          refine k_iload C rfl rfl rfl ?_
          refine b_if_lt C (t := 136) rfl rfl rfl (fun c42 => by exfalso; omega) (fun c42 => ?_)
          refine k_iload C rfl rfl rfl ?_
          refine k_aload_n C rfl rfl rfl ?_
          refine g_R C rfl rfl rfl T_r0 rfl R_r0_5 ?_
          refine z_len C (n := 9) rfl rfl (by rw [T_r0_5]; exact Nat.le_of_ble_eq_true rfl) N_r0_5 (Nat.le_of_ble_eq_true rfl) (fun x43 ex43 => ?_)
          refine b_icmp_lt C (t := 140) rfl rfl rfl (fun c44 => ?_) (fun c44 => by exfalso; omega)
          refine k_aload_n C rfl rfl rfl ?_
          refine g_R C rfl rfl rfl T_r0 rfl R_r0_5 ?_
          refine k_iload C rfl rfl rfl ?_
          refine z_aI C rfl rfl T_r0_5 N_r0_5 (by omega) (by omega) (fun x45 ex45 => ?_)
          have gx45 := rg x45
          have hr146 := ex45
          refine k_istore C (lw := [(5, .int x45), (4, .int x41), (0, .ref r0), (1, .int n1), (2, .int x1), (3, .int x17)]) rfl rfl (Nat.le_of_ble_eq_true rfl) rfl ?_
          refine k_iload_n C rfl rfl rfl ?_
          refine k_aload_n C rfl rfl rfl ?_
          refine g_R C rfl rfl rfl T_r0 rfl R_r0_1 ?_
          refine c_VI C (s_X0_p_x hS hI24 H_r0_1) rfl rfl rfl rfl rfl ⟨_, rfl, rfl, T_r0_1, Nat.le_of_ble_eq_true rfl⟩ rfl rfl (Nat.le_of_ble_eq_true rfl) (Nat.le_of_ble_eq_true rfl) (Nat.le_of_ble_eq_true rfl) ?_
          rintro x46 _ _ ⟨o0x46, o1x46, p0x46, rfl, rfl⟩
          have gx46 := rg x46
          try simp only [z_r0_1, z_r0_2, z_r0_3, z_r0_4, z_r0_5, z_r0_1_0, z_r0_1_1, z_r0_1_2, z_r0_1_0_6, z_r0_1_0_7, z_r0_1_0_8, z_r0_1_0_9, z_r0_1_0_10] at p0x46
          try simp only [e35, e36, e37, e26] at p0x46
          try have q0x46 := congrArg Int32.toInt p0x46
          have hp154 := p0x46; (try simp only [e35] at hp154)
          refine b_icmp_ne C (t := 165) rfl rfl rfl (fun c47 => ?_) (fun c47 => ?_)
          · skip
            refine k_aload_n C rfl rfl rfl ?_
            refine g_R C rfl rfl rfl T_r0 rfl R_r0_1 ?_
            refine k_iload C rfl rfl rfl ?_
            refine k_aload_n C rfl rfl rfl ?_
            refine g_R C rfl rfl rfl T_r0 rfl R_r0_1 ?_
            refine k_iload_n C rfl rfl rfl ?_
            refine c_VI C (s_X0_inverse_y hS hI24 H_r0_1 (by omega) (by omega) (by rw [z_r0_1_0, e35]; exact hp6)) rfl rfl rfl rfl rfl ⟨_, rfl, rfl, T_r0_1, Nat.le_of_ble_eq_true rfl⟩ rfl rfl (Nat.le_of_ble_eq_true rfl) (Nat.le_of_ble_eq_true rfl) (Nat.le_of_ble_eq_true rfl) ?_
            rintro x48 _ _ ⟨o0x48, o1x48, p0x48, rfl, rfl⟩
            have gx48 := rg x48
            try simp only [z_r0_1, z_r0_2, z_r0_3, z_r0_4, z_r0_5, z_r0_1_0, z_r0_1_1, z_r0_1_2, z_r0_1_0_6, z_r0_1_0_7, z_r0_1_0_8, z_r0_1_0_9, z_r0_1_0_10] at p0x48
            try simp only [e35, e36, e37, e26] at p0x48
            try have q0x48 := congrArg Int32.toInt p0x48
            have hin := p0x48; (try simp only [e35] at hin)
            refine z_imulE C rfl rfl (fun x49 ex49 => ?_)
            have gx49 := rg x49
            have m179 := ex49
            refine z_i2l C rfl rfl (fun lg50 elg50 => ?_)
            have hl180 := elg50
            refine c_VI C (s_X0_of_x hS hI24 H_r0_1) rfl rfl rfl rfl rfl ⟨_, rfl, rfl, T_r0_1, Nat.le_of_ble_eq_true rfl⟩ rfl rfl (Nat.le_of_ble_eq_true rfl) (Nat.le_of_ble_eq_true rfl) (Nat.le_of_ble_eq_true rfl) ?_
            rintro x51 _ _ ⟨o0x51, o1x51, p0x51, p1x51, rfl, rfl⟩
            have gx51 := rg x51
            try simp only [z_r0_1, z_r0_2, z_r0_3, z_r0_4, z_r0_5, z_r0_1_0, z_r0_1_1, z_r0_1_2, z_r0_1_0_6, z_r0_1_0_7, z_r0_1_0_8, z_r0_1_0_9, z_r0_1_0_10] at p0x51
            try simp only [z_r0_1, z_r0_2, z_r0_3, z_r0_4, z_r0_5, z_r0_1_0, z_r0_1_1, z_r0_1_2, z_r0_1_0_6, z_r0_1_0_7, z_r0_1_0_8, z_r0_1_0_9, z_r0_1_0_10] at p1x51
            try simp only [e35, e36, e37, e26] at p0x51
            try have q0x51 := congrArg Int32.toInt p0x51
            try simp only [e35, e36, e37, e26] at p1x51
            try have q1x51 := congrArg Int32.toInt p1x51
            have hof181 := p0x51; (try simp only [e35] at hof181)
            exact k_iret C rfl (Or.inl rfl) (Nat.le_of_ble_eq_true rfl) (Nat.le_of_ble_eq_true rfl) ⟨_, _, _, rfl, rfl, by (try simp only [z_r0_1, z_r0_2, z_r0_3, z_r0_4, z_r0_5, z_r0_1_0, z_r0_1_1, z_r0_1_2, z_r0_1_0_6, z_r0_1_0_7, z_r0_1_0_8, z_r0_1_0_9, z_r0_1_0_10]); simp only [k0_r0_6, k0_r0_0, k0_r0_1_0_0]; first | (exfalso; omega) | exact NMQ.p (j := x41.toNatClampNeg) hR (by omega) hM (by have h9 := ncz (x := x41) (by omega); omega) (by rw [← hr146]) (by rw [← hmi]; omega) hp4 | exact NMQ.q2 hR (by omega) hM (by omega) hr146 (by omega) m179 hl180 hof181 (by rw [← hmi]; omega) hp4 hp6 hin (hO (by rw [← hmi]; omega)), hI24, (by (try simp only [z_r0_1, z_r0_2, z_r0_3, z_r0_4, z_r0_5, z_r0_1_0, z_r0_1_1, z_r0_1_2, z_r0_1_0_6, z_r0_1_0_7, z_r0_1_0_8, z_r0_1_0_9, z_r0_1_0_10]); exact (Chg.cons (Chg.up S6 (List.forall_mem_cons.mpr ⟨List.mem_of_getElem? (i := 0) rfl, List.forall_mem_cons.mpr ⟨List.mem_of_getElem? (i := 1) rfl, fun _ h => nomatch h⟩⟩)) (Chg.mono S23 (by decide)) (by decide)))⟩
          refine k_iload C rfl rfl rfl ?_
          refine k_goto C (pc2 := 184) rfl rfl ?_
          exact k_iret C rfl (Or.inl rfl) (Nat.le_of_ble_eq_true rfl) (Nat.le_of_ble_eq_true rfl) ⟨_, _, _, rfl, rfl, by (try simp only [z_r0_1, z_r0_2, z_r0_3, z_r0_4, z_r0_5, z_r0_1_0, z_r0_1_1, z_r0_1_2, z_r0_1_0_6, z_r0_1_0_7, z_r0_1_0_8, z_r0_1_0_9, z_r0_1_0_10]); simp only [k0_r0_6, k0_r0_0, k0_r0_1_0_0]; first | (exfalso; omega) | exact NMQ.p (j := x41.toNatClampNeg) hR (by omega) hM (by have h9 := ncz (x := x41) (by omega); omega) (by rw [← hr146]) (by rw [← hmi]; omega) hp4 | exact NMQ.q2 hR (by omega) hM (by omega) hr146 (by omega) m179 hl180 hof181 (by rw [← hmi]; omega) hp4 hp6 hin (hO (by rw [← hmi]; omega)), hI24, (by (try simp only [z_r0_1, z_r0_2, z_r0_3, z_r0_4, z_r0_5, z_r0_1_0, z_r0_1_1, z_r0_1_2, z_r0_1_0_6, z_r0_1_0_7, z_r0_1_0_8, z_r0_1_0_9, z_r0_1_0_10]); exact (Chg.cons (Chg.up S6 (List.forall_mem_cons.mpr ⟨List.mem_of_getElem? (i := 0) rfl, List.forall_mem_cons.mpr ⟨List.mem_of_getElem? (i := 1) rfl, fun _ h => nomatch h⟩⟩)) (Chg.mono S23 (by decide)) (by decide)))⟩
        refine k_aload_n C rfl rfl rfl ?_
        refine g_I C rfl rfl rfl T_r0 rfl e26 ?_
        refine z_iconst C (z := 1) rfl rfl rfl (fun x52 ex52 => ?_)
        refine z_isub C rfl rfl ⟨by omega, by omega⟩ (fun x53 ex53 => ?_)
        refine k_goto C (pc2 := 119) rfl rfl ?_
        refine k_istore C (lw := [(4, .int x53), (0, .ref r0), (1, .int n1), (2, .int x1), (3, .int x17)]) rfl rfl (Nat.le_of_ble_eq_true rfl) rfl ?_
        refine k_iload C rfl rfl rfl ?_
        refine b_if_lt C (t := 136) rfl rfl rfl (fun c54 => ?_) (fun c54 => ?_)
        · skip
          refine z_iconst C (z := 0) rfl rfl rfl (fun x55 ex55 => ?_)
          refine k_goto C (pc2 := 147) rfl rfl ?_
          have hr146 := ex55
          refine k_istore C (lw := [(5, .int x55), (4, .int x53), (0, .ref r0), (1, .int n1), (2, .int x1), (3, .int x17)]) rfl rfl (Nat.le_of_ble_eq_true rfl) rfl ?_
          refine k_iload_n C rfl rfl rfl ?_
          refine k_aload_n C rfl rfl rfl ?_
          refine g_R C rfl rfl rfl T_r0 rfl R_r0_1 ?_
          refine c_VI C (s_X0_p_x hS hI24 H_r0_1) rfl rfl rfl rfl rfl ⟨_, rfl, rfl, T_r0_1, Nat.le_of_ble_eq_true rfl⟩ rfl rfl (Nat.le_of_ble_eq_true rfl) (Nat.le_of_ble_eq_true rfl) (Nat.le_of_ble_eq_true rfl) ?_
          rintro x56 _ _ ⟨o0x56, o1x56, p0x56, rfl, rfl⟩
          have gx56 := rg x56
          try simp only [z_r0_1, z_r0_2, z_r0_3, z_r0_4, z_r0_5, z_r0_1_0, z_r0_1_1, z_r0_1_2, z_r0_1_0_6, z_r0_1_0_7, z_r0_1_0_8, z_r0_1_0_9, z_r0_1_0_10] at p0x56
          try simp only [e35, e36, e37, e26] at p0x56
          try have q0x56 := congrArg Int32.toInt p0x56
          have hp154 := p0x56; (try simp only [e35] at hp154)
          refine b_icmp_ne C (t := 165) rfl rfl rfl (fun c57 => ?_) (fun c57 => ?_)
          · skip
            refine k_aload_n C rfl rfl rfl ?_
            refine g_R C rfl rfl rfl T_r0 rfl R_r0_1 ?_
            refine k_iload C rfl rfl rfl ?_
            refine k_aload_n C rfl rfl rfl ?_
            refine g_R C rfl rfl rfl T_r0 rfl R_r0_1 ?_
            refine k_iload_n C rfl rfl rfl ?_
            refine c_VI C (s_X0_inverse_y hS hI24 H_r0_1 (by omega) (by omega) (by rw [z_r0_1_0, e35]; exact hp6)) rfl rfl rfl rfl rfl ⟨_, rfl, rfl, T_r0_1, Nat.le_of_ble_eq_true rfl⟩ rfl rfl (Nat.le_of_ble_eq_true rfl) (Nat.le_of_ble_eq_true rfl) (Nat.le_of_ble_eq_true rfl) ?_
            rintro x58 _ _ ⟨o0x58, o1x58, p0x58, rfl, rfl⟩
            have gx58 := rg x58
            try simp only [z_r0_1, z_r0_2, z_r0_3, z_r0_4, z_r0_5, z_r0_1_0, z_r0_1_1, z_r0_1_2, z_r0_1_0_6, z_r0_1_0_7, z_r0_1_0_8, z_r0_1_0_9, z_r0_1_0_10] at p0x58
            try simp only [e35, e36, e37, e26] at p0x58
            try have q0x58 := congrArg Int32.toInt p0x58
            have hin := p0x58; (try simp only [e35] at hin)
            refine z_imulE C rfl rfl (fun x59 ex59 => ?_)
            have gx59 := rg x59
            have m179 := ex59
            refine z_i2l C rfl rfl (fun lg60 elg60 => ?_)
            have hl180 := elg60
            refine c_VI C (s_X0_of_x hS hI24 H_r0_1) rfl rfl rfl rfl rfl ⟨_, rfl, rfl, T_r0_1, Nat.le_of_ble_eq_true rfl⟩ rfl rfl (Nat.le_of_ble_eq_true rfl) (Nat.le_of_ble_eq_true rfl) (Nat.le_of_ble_eq_true rfl) ?_
            rintro x61 _ _ ⟨o0x61, o1x61, p0x61, p1x61, rfl, rfl⟩
            have gx61 := rg x61
            try simp only [z_r0_1, z_r0_2, z_r0_3, z_r0_4, z_r0_5, z_r0_1_0, z_r0_1_1, z_r0_1_2, z_r0_1_0_6, z_r0_1_0_7, z_r0_1_0_8, z_r0_1_0_9, z_r0_1_0_10] at p0x61
            try simp only [z_r0_1, z_r0_2, z_r0_3, z_r0_4, z_r0_5, z_r0_1_0, z_r0_1_1, z_r0_1_2, z_r0_1_0_6, z_r0_1_0_7, z_r0_1_0_8, z_r0_1_0_9, z_r0_1_0_10] at p1x61
            try simp only [e35, e36, e37, e26] at p0x61
            try have q0x61 := congrArg Int32.toInt p0x61
            try simp only [e35, e36, e37, e26] at p1x61
            try have q1x61 := congrArg Int32.toInt p1x61
            have hof181 := p0x61; (try simp only [e35] at hof181)
            exact k_iret C rfl (Or.inl rfl) (Nat.le_of_ble_eq_true rfl) (Nat.le_of_ble_eq_true rfl) ⟨_, _, _, rfl, rfl, by (try simp only [z_r0_1, z_r0_2, z_r0_3, z_r0_4, z_r0_5, z_r0_1_0, z_r0_1_1, z_r0_1_2, z_r0_1_0_6, z_r0_1_0_7, z_r0_1_0_8, z_r0_1_0_9, z_r0_1_0_10]); simp only [k0_r0_6, k0_r0_0, k0_r0_1_0_0]; first | (exfalso; omega) | exact NMQ.p (j := x53.toNatClampNeg) hR (by omega) hM (by have h9 := ncz (x := x53) (by omega); omega) (by rw [← hr146]) (by rw [← hmi]; omega) hp4 | exact NMQ.q2 hR (by omega) hM (by omega) hr146 (by omega) m179 hl180 hof181 (by rw [← hmi]; omega) hp4 hp6 hin (hO (by rw [← hmi]; omega)), hI24, (by (try simp only [z_r0_1, z_r0_2, z_r0_3, z_r0_4, z_r0_5, z_r0_1_0, z_r0_1_1, z_r0_1_2, z_r0_1_0_6, z_r0_1_0_7, z_r0_1_0_8, z_r0_1_0_9, z_r0_1_0_10]); exact (Chg.cons (Chg.up S6 (List.forall_mem_cons.mpr ⟨List.mem_of_getElem? (i := 0) rfl, List.forall_mem_cons.mpr ⟨List.mem_of_getElem? (i := 1) rfl, fun _ h => nomatch h⟩⟩)) (Chg.mono S23 (by decide)) (by decide)))⟩
          refine k_iload C rfl rfl rfl ?_
          refine k_goto C (pc2 := 184) rfl rfl ?_
          exact k_iret C rfl (Or.inl rfl) (Nat.le_of_ble_eq_true rfl) (Nat.le_of_ble_eq_true rfl) ⟨_, _, _, rfl, rfl, by (try simp only [z_r0_1, z_r0_2, z_r0_3, z_r0_4, z_r0_5, z_r0_1_0, z_r0_1_1, z_r0_1_2, z_r0_1_0_6, z_r0_1_0_7, z_r0_1_0_8, z_r0_1_0_9, z_r0_1_0_10]); simp only [k0_r0_6, k0_r0_0, k0_r0_1_0_0]; first | (exfalso; omega) | exact NMQ.p (j := x53.toNatClampNeg) hR (by omega) hM (by have h9 := ncz (x := x53) (by omega); omega) (by rw [← hr146]) (by rw [← hmi]; omega) hp4 | exact NMQ.q2 hR (by omega) hM (by omega) hr146 (by omega) m179 hl180 hof181 (by rw [← hmi]; omega) hp4 hp6 hin (hO (by rw [← hmi]; omega)), hI24, (by (try simp only [z_r0_1, z_r0_2, z_r0_3, z_r0_4, z_r0_5, z_r0_1_0, z_r0_1_1, z_r0_1_2, z_r0_1_0_6, z_r0_1_0_7, z_r0_1_0_8, z_r0_1_0_9, z_r0_1_0_10]); exact (Chg.cons (Chg.up S6 (List.forall_mem_cons.mpr ⟨List.mem_of_getElem? (i := 0) rfl, List.forall_mem_cons.mpr ⟨List.mem_of_getElem? (i := 1) rfl, fun _ h => nomatch h⟩⟩)) (Chg.mono S23 (by decide)) (by decide)))⟩
        refine k_iload C rfl rfl rfl ?_
        refine k_aload_n C rfl rfl rfl ?_
        refine g_R C rfl rfl rfl T_r0 rfl R_r0_5 ?_
        refine z_len C (n := 9) rfl rfl (by rw [T_r0_5]; exact Nat.le_of_ble_eq_true rfl) N_r0_5 (Nat.le_of_ble_eq_true rfl) (fun x62 ex62 => ?_)
        refine b_icmp_lt C (t := 140) rfl rfl rfl (fun c63 => ?_) (fun c63 => by exfalso; omega)
        refine k_aload_n C rfl rfl rfl ?_
        refine g_R C rfl rfl rfl T_r0 rfl R_r0_5 ?_
        refine k_iload C rfl rfl rfl ?_
        refine z_aI C rfl rfl T_r0_5 N_r0_5 (by omega) (by omega) (fun x64 ex64 => ?_)
        have gx64 := rg x64
        have hr146 := ex64
        refine k_istore C (lw := [(5, .int x64), (4, .int x53), (0, .ref r0), (1, .int n1), (2, .int x1), (3, .int x17)]) rfl rfl (Nat.le_of_ble_eq_true rfl) rfl ?_
        refine k_iload_n C rfl rfl rfl ?_
        refine k_aload_n C rfl rfl rfl ?_
        refine g_R C rfl rfl rfl T_r0 rfl R_r0_1 ?_
        refine c_VI C (s_X0_p_x hS hI24 H_r0_1) rfl rfl rfl rfl rfl ⟨_, rfl, rfl, T_r0_1, Nat.le_of_ble_eq_true rfl⟩ rfl rfl (Nat.le_of_ble_eq_true rfl) (Nat.le_of_ble_eq_true rfl) (Nat.le_of_ble_eq_true rfl) ?_
        rintro x65 _ _ ⟨o0x65, o1x65, p0x65, rfl, rfl⟩
        have gx65 := rg x65
        try simp only [z_r0_1, z_r0_2, z_r0_3, z_r0_4, z_r0_5, z_r0_1_0, z_r0_1_1, z_r0_1_2, z_r0_1_0_6, z_r0_1_0_7, z_r0_1_0_8, z_r0_1_0_9, z_r0_1_0_10] at p0x65
        try simp only [e35, e36, e37, e26] at p0x65
        try have q0x65 := congrArg Int32.toInt p0x65
        have hp154 := p0x65; (try simp only [e35] at hp154)
        refine b_icmp_ne C (t := 165) rfl rfl rfl (fun c66 => ?_) (fun c66 => ?_)
        · skip
          refine k_aload_n C rfl rfl rfl ?_
          refine g_R C rfl rfl rfl T_r0 rfl R_r0_1 ?_
          refine k_iload C rfl rfl rfl ?_
          refine k_aload_n C rfl rfl rfl ?_
          refine g_R C rfl rfl rfl T_r0 rfl R_r0_1 ?_
          refine k_iload_n C rfl rfl rfl ?_
          refine c_VI C (s_X0_inverse_y hS hI24 H_r0_1 (by omega) (by omega) (by rw [z_r0_1_0, e35]; exact hp6)) rfl rfl rfl rfl rfl ⟨_, rfl, rfl, T_r0_1, Nat.le_of_ble_eq_true rfl⟩ rfl rfl (Nat.le_of_ble_eq_true rfl) (Nat.le_of_ble_eq_true rfl) (Nat.le_of_ble_eq_true rfl) ?_
          rintro x67 _ _ ⟨o0x67, o1x67, p0x67, rfl, rfl⟩
          have gx67 := rg x67
          try simp only [z_r0_1, z_r0_2, z_r0_3, z_r0_4, z_r0_5, z_r0_1_0, z_r0_1_1, z_r0_1_2, z_r0_1_0_6, z_r0_1_0_7, z_r0_1_0_8, z_r0_1_0_9, z_r0_1_0_10] at p0x67
          try simp only [e35, e36, e37, e26] at p0x67
          try have q0x67 := congrArg Int32.toInt p0x67
          have hin := p0x67; (try simp only [e35] at hin)
          refine z_imulE C rfl rfl (fun x68 ex68 => ?_)
          have gx68 := rg x68
          have m179 := ex68
          refine z_i2l C rfl rfl (fun lg69 elg69 => ?_)
          have hl180 := elg69
          refine c_VI C (s_X0_of_x hS hI24 H_r0_1) rfl rfl rfl rfl rfl ⟨_, rfl, rfl, T_r0_1, Nat.le_of_ble_eq_true rfl⟩ rfl rfl (Nat.le_of_ble_eq_true rfl) (Nat.le_of_ble_eq_true rfl) (Nat.le_of_ble_eq_true rfl) ?_
          rintro x70 _ _ ⟨o0x70, o1x70, p0x70, p1x70, rfl, rfl⟩
          have gx70 := rg x70
          try simp only [z_r0_1, z_r0_2, z_r0_3, z_r0_4, z_r0_5, z_r0_1_0, z_r0_1_1, z_r0_1_2, z_r0_1_0_6, z_r0_1_0_7, z_r0_1_0_8, z_r0_1_0_9, z_r0_1_0_10] at p0x70
          try simp only [z_r0_1, z_r0_2, z_r0_3, z_r0_4, z_r0_5, z_r0_1_0, z_r0_1_1, z_r0_1_2, z_r0_1_0_6, z_r0_1_0_7, z_r0_1_0_8, z_r0_1_0_9, z_r0_1_0_10] at p1x70
          try simp only [e35, e36, e37, e26] at p0x70
          try have q0x70 := congrArg Int32.toInt p0x70
          try simp only [e35, e36, e37, e26] at p1x70
          try have q1x70 := congrArg Int32.toInt p1x70
          have hof181 := p0x70; (try simp only [e35] at hof181)
          exact k_iret C rfl (Or.inl rfl) (Nat.le_of_ble_eq_true rfl) (Nat.le_of_ble_eq_true rfl) ⟨_, _, _, rfl, rfl, by (try simp only [z_r0_1, z_r0_2, z_r0_3, z_r0_4, z_r0_5, z_r0_1_0, z_r0_1_1, z_r0_1_2, z_r0_1_0_6, z_r0_1_0_7, z_r0_1_0_8, z_r0_1_0_9, z_r0_1_0_10]); simp only [k0_r0_6, k0_r0_0, k0_r0_1_0_0]; first | (exfalso; omega) | exact NMQ.p (j := x53.toNatClampNeg) hR (by omega) hM (by have h9 := ncz (x := x53) (by omega); omega) (by rw [← hr146]) (by rw [← hmi]; omega) hp4 | exact NMQ.q2 hR (by omega) hM (by omega) hr146 (by omega) m179 hl180 hof181 (by rw [← hmi]; omega) hp4 hp6 hin (hO (by rw [← hmi]; omega)), hI24, (by (try simp only [z_r0_1, z_r0_2, z_r0_3, z_r0_4, z_r0_5, z_r0_1_0, z_r0_1_1, z_r0_1_2, z_r0_1_0_6, z_r0_1_0_7, z_r0_1_0_8, z_r0_1_0_9, z_r0_1_0_10]); exact (Chg.cons (Chg.up S6 (List.forall_mem_cons.mpr ⟨List.mem_of_getElem? (i := 0) rfl, List.forall_mem_cons.mpr ⟨List.mem_of_getElem? (i := 1) rfl, fun _ h => nomatch h⟩⟩)) (Chg.mono S23 (by decide)) (by decide)))⟩
        refine k_iload C rfl rfl rfl ?_
        refine k_goto C (pc2 := 184) rfl rfl ?_
        exact k_iret C rfl (Or.inl rfl) (Nat.le_of_ble_eq_true rfl) (Nat.le_of_ble_eq_true rfl) ⟨_, _, _, rfl, rfl, by (try simp only [z_r0_1, z_r0_2, z_r0_3, z_r0_4, z_r0_5, z_r0_1_0, z_r0_1_1, z_r0_1_2, z_r0_1_0_6, z_r0_1_0_7, z_r0_1_0_8, z_r0_1_0_9, z_r0_1_0_10]); simp only [k0_r0_6, k0_r0_0, k0_r0_1_0_0]; first | (exfalso; omega) | exact NMQ.p (j := x53.toNatClampNeg) hR (by omega) hM (by have h9 := ncz (x := x53) (by omega); omega) (by rw [← hr146]) (by rw [← hmi]; omega) hp4 | exact NMQ.q2 hR (by omega) hM (by omega) hr146 (by omega) m179 hl180 hof181 (by rw [← hmi]; omega) hp4 hp6 hin (hO (by rw [← hmi]; omega)), hI24, (by (try simp only [z_r0_1, z_r0_2, z_r0_3, z_r0_4, z_r0_5, z_r0_1_0, z_r0_1_1, z_r0_1_2, z_r0_1_0_6, z_r0_1_0_7, z_r0_1_0_8, z_r0_1_0_9, z_r0_1_0_10]); exact (Chg.cons (Chg.up S6 (List.forall_mem_cons.mpr ⟨List.mem_of_getElem? (i := 0) rfl, List.forall_mem_cons.mpr ⟨List.mem_of_getElem? (i := 1) rfl, fun _ h => nomatch h⟩⟩)) (Chg.mono S23 (by decide)) (by decide)))⟩
      refine k_iload C rfl rfl rfl ?_
      refine k_aload_n C rfl rfl rfl ?_
      refine g_R C rfl rfl rfl T_r0 rfl R_r0_2 ?_
      refine z_len C (n := 3) rfl rfl (by rw [T_r0_2]; exact Nat.le_of_ble_eq_true rfl) N_r0_2 (Nat.le_of_ble_eq_true rfl) (fun x71 ex71 => ?_)
      refine b_icmp_ge C (t := 98) rfl rfl rfl (fun c72 => by exfalso; omega) (fun c72 => ?_)
      refine k_iload C rfl rfl rfl ?_
      refine k_iload_n C rfl rfl rfl ?_
      refine b_icmp_eq C (t := 92) rfl rfl rfl (fun c73 => ?_) (fun c73 => ?_)
      · skip
        refine z_iinc C (z := 1) (lw := fun x74 => [(4, .int x74), (0, .ref r0), (1, .int n1), (2, .int x1), (3, .int x17)]) rfl rfl rfl (Nat.le_of_ble_eq_true rfl) rfl ⟨by omega, by omega⟩ (fun _ => rfl) (fun x74 ex74 => ?_)
        show V 95 [(4, .int x74), (0, .ref r0), (1, .int n1), (2, .int x1), (3, .int x17)] _ _ _ _
        refine k_goto C (pc2 := 15) rfl rfl ?_
        refine k_sub S [(0, .ref r0), (1, .int n1), (2, .int x1), (3, .int x17), (4, .int x74)] (List.forall_mem_cons.mpr ⟨List.mem_of_getElem? (i := 1) rfl, List.forall_mem_cons.mpr ⟨List.mem_of_getElem? (i := 2) rfl, List.forall_mem_cons.mpr ⟨List.mem_of_getElem? (i := 3) rfl, List.forall_mem_cons.mpr ⟨List.mem_of_getElem? (i := 4) rfl, List.forall_mem_cons.mpr ⟨List.mem_of_getElem? (i := 0) rfl, fun _ h => nomatch h⟩⟩⟩⟩⟩) ?_
        exact ihJ13 _ (MN.lt hmnn14 (by omega) (by omega)) I15 L16 x17 x74 x25 rfl hI24 (Chg.mono S23 (by decide)) (by omega) (by omega) (by omega) (by omega) e26 (by omega) (by omega) (by first | exact RWK.w ff15_0 (nct (by omega)) (ncs (by omega) (by omega)) | exact RWK.s ff15_0 hto ff15_1 ht47 (fun h8 => by have h9 := ncz (x := x20) (by omega); have h7 := ncz (x := n1) (by omega); omega) (ncs (by omega) (by omega))) (by first | (rw [ncs (x := x74) (k := x20) (by omega) (by omega), LNS.w (nct (by omega))]; exact ff15_1) | (rw [ncs (x := x74) (k := x20) (by omega) (by omega), LNS.o (fun h8 => by have h9 := ncz (x := x20) (by omega); have h7 := ncz (x := n1) (by omega); omega), ← ff15_1]; omega)) (by omega) (by first | exact OVK.w ff15_3 (nct (by omega)) (ncs (by omega) (by omega)) | exact OVK.p ff15_3 (fun h8 => by have h9 := ncz (x := x20) (by omega); have h7 := ncz (x := n1) (by omega); omega) (by rw [← ht57]; omega) (ncs (by omega) (by omega)) | exact OVK.s ff15_3 (fun h8 => by have h9 := ncz (x := x20) (by omega); have h7 := ncz (x := n1) (by omega); omega) (by rw [← ht57]; omega) (hof88.trans (by rw [hl87])) (OVM m86 m85 trivial ff15_4 ht83 hmi (by omega) (by omega)) (ncs (by omega) (by omega))) (by omega) (by omega)
      refine k_aload_n C rfl rfl rfl ?_
      refine k_aload_n C rfl rfl rfl ?_
      refine g_R C rfl rfl rfl T_r0 rfl R_r0_2 ?_
      refine k_iload C rfl rfl rfl ?_
      refine z_aI C rfl rfl T_r0_2 N_r0_2 (by omega) (by omega) (fun x75 ex75 => ?_)
      have gx75 := rg x75
      have hr47 := ex75; have hq47 := (Chg.at ((Chg.cons (Chg.up S6 (List.forall_mem_cons.mpr ⟨List.mem_of_getElem? (i := 0) rfl, List.forall_mem_cons.mpr ⟨List.mem_of_getElem? (i := 1) rfl, fun _ h => nomatch h⟩⟩)) (Chg.mono S23 (by decide)) (by decide)) : Chg (SL [r0, r0_5]) T [(4, 7)] I L I15 L16) (nm_2 (t_nq T_r0_2 T_r0 (by decide)) (by first | exact n25 | exact fun e => n25 e.symm))); have ht47 : x75.toInt = NF I r0_2 x20.toNatClampNeg := (by rw [← hr47, hq47]; rfl); have hb47 := hp4.1 x20.toNatClampNeg (by have h9 := ncz (x := x20) (by omega); omega); have hk47 := e26; have hw47 := e35
      refine c_VV C (s_X3_takeOut_x hS hI24 H_r0 (by omega) (by omega) hU (by rw [e26]; omega) (by rw [e26, z_r0_5, z_r0_1, z_r0_1_0, e35]; exact RWK.b ff15_0 ff15_1) (by rw [z_r0_1, z_r0_1_0, e35]; omega)) rfl rfl rfl rfl rfl ⟨_, rfl, rfl, T_r0, Nat.le_of_ble_eq_true rfl⟩ rfl rfl (Nat.le_of_ble_eq_true rfl) (Nat.le_of_ble_eq_true rfl) (Nat.le_of_ble_eq_true rfl) ?_
      rintro I77 L78 ⟨p0v76, p1v76, hI77, S79⟩
      try simp only [z_r0_1, z_r0_2, z_r0_3, z_r0_4, z_r0_5, z_r0_1_0, z_r0_1_1, z_r0_1_2, z_r0_1_0_6, z_r0_1_0_7, z_r0_1_0_8, z_r0_1_0_9, z_r0_1_0_10] at S79
      have e80 := Chg.k S79 T_r0_1_0 (by decide) (by decide) e35
      have e81 := Chg.k S79 T_r0 (by decide) (by decide) e36
      have e82 := Chg.k S79 T_r0 (by decide) (by decide) e37
      obtain ⟨x83, e84⟩ : ∃ x, I77 r0 7 = x := ⟨_, rfl⟩
      have gx83 := rg x83
      try simp only [z_r0_1, z_r0_2, z_r0_3, z_r0_4, z_r0_5, z_r0_1_0, z_r0_1_1, z_r0_1_2, z_r0_1_0_6, z_r0_1_0_7, z_r0_1_0_8, z_r0_1_0_9, z_r0_1_0_10] at p0v76
      try simp only [z_r0_1, z_r0_2, z_r0_3, z_r0_4, z_r0_5, z_r0_1_0, z_r0_1_1, z_r0_1_2, z_r0_1_0_6, z_r0_1_0_7, z_r0_1_0_8, z_r0_1_0_9, z_r0_1_0_10] at p1v76
      try simp only [e35, e36, e37, e26, e84] at p0v76
      try have q0v76 := congrArg Int32.toInt p0v76
      try simp only [e35, e36, e37, e26, e84] at p1v76
      try have q1v76 := congrArg Int32.toInt p1v76
      have hto := p1v76; (try simp only [z_r0_1, z_r0_2, z_r0_3, z_r0_4, z_r0_5, z_r0_1_0, z_r0_1_1, z_r0_1_2, z_r0_1_0_6, z_r0_1_0_7, z_r0_1_0_8, z_r0_1_0_9, z_r0_1_0_10, hk47, hw47] at hto)
      refine k_aload_n C rfl rfl rfl ?_
      refine g_R C rfl rfl rfl T_r0 rfl R_r0_2 ?_
      refine k_iload C rfl rfl rfl ?_
      refine z_aI C rfl rfl T_r0_2 N_r0_2 (by omega) (by omega) (fun x85 ex85 => ?_)
      have gx85 := rg x85
      have hr57 := ex85; have hq57 := (Chg.at ((Chg.cons (Chg.up S6 (List.forall_mem_cons.mpr ⟨List.mem_of_getElem? (i := 0) rfl, List.forall_mem_cons.mpr ⟨List.mem_of_getElem? (i := 1) rfl, fun _ h => nomatch h⟩⟩)) (Chg.cons S23 (Chg.mono (Chg.up S79 (List.forall_mem_cons.mpr ⟨List.mem_of_getElem? (i := 0) rfl, List.forall_mem_cons.mpr ⟨List.mem_of_getElem? (i := 1) rfl, fun _ h => nomatch h⟩⟩)) (by decide)) (by decide)) (by decide)) : Chg (SL [r0, r0_5]) T [(4, 7)] I L I77 L78) (nm_2 (t_nq T_r0_2 T_r0 (by decide)) (by first | exact n25 | exact fun e => n25 e.symm))); have ht57 : x85.toInt = NF I r0_2 x20.toNatClampNeg := (by rw [← hr57, hq57]; rfl); have hb57 := hp4.1 x20.toNatClampNeg (by have h9 := ncz (x := x20) (by omega); omega)
      refine k_aload_n C rfl rfl rfl ?_
      refine g_R C rfl rfl rfl T_r0 rfl R_r0_1 ?_
      refine c_VI C (s_X0_p_x hS hI77 H_r0_1) rfl rfl rfl rfl rfl ⟨_, rfl, rfl, T_r0_1, Nat.le_of_ble_eq_true rfl⟩ rfl rfl (Nat.le_of_ble_eq_true rfl) (Nat.le_of_ble_eq_true rfl) (Nat.le_of_ble_eq_true rfl) ?_
      rintro x86 _ _ ⟨o0x86, o1x86, p0x86, rfl, rfl⟩
      have gx86 := rg x86
      try simp only [z_r0_1, z_r0_2, z_r0_3, z_r0_4, z_r0_5, z_r0_1_0, z_r0_1_1, z_r0_1_2, z_r0_1_0_6, z_r0_1_0_7, z_r0_1_0_8, z_r0_1_0_9, z_r0_1_0_10] at p0x86
      try simp only [e80, e81, e82, e84] at p0x86
      try have q0x86 := congrArg Int32.toInt p0x86
      have hp62 := p0x86; (try simp only [e80] at hp62)
      refine b_icmp_ne C (t := 72) rfl rfl rfl (fun c87 => ?_) (fun c87 => ?_)
      · skip
        refine k_aload_n C rfl rfl rfl ?_
        refine g_R C rfl rfl rfl T_r0 rfl R_r0_1 ?_
        refine k_iload_n C rfl rfl rfl ?_
        refine k_aload_n C rfl rfl rfl ?_
        refine g_R C rfl rfl rfl T_r0 rfl R_r0_2 ?_
        refine k_iload C rfl rfl rfl ?_
        refine z_aI C rfl rfl T_r0_2 N_r0_2 (by omega) (by omega) (fun x88 ex88 => ?_)
        have gx88 := rg x88
        have hr83 := ex88; have hq83 := (Chg.at ((Chg.cons (Chg.up S6 (List.forall_mem_cons.mpr ⟨List.mem_of_getElem? (i := 0) rfl, List.forall_mem_cons.mpr ⟨List.mem_of_getElem? (i := 1) rfl, fun _ h => nomatch h⟩⟩)) (Chg.cons S23 (Chg.mono (Chg.up S79 (List.forall_mem_cons.mpr ⟨List.mem_of_getElem? (i := 0) rfl, List.forall_mem_cons.mpr ⟨List.mem_of_getElem? (i := 1) rfl, fun _ h => nomatch h⟩⟩)) (by decide)) (by decide)) (by decide)) : Chg (SL [r0, r0_5]) T [(4, 7)] I L I77 L78) (nm_2 (t_nq T_r0_2 T_r0 (by decide)) (by first | exact n25 | exact fun e => n25 e.symm))); have ht83 : x88.toInt = NF I r0_2 x20.toNatClampNeg := (by rw [← hr83, hq83]; rfl); have hb83 := hp4.1 x20.toNatClampNeg (by have h9 := ncz (x := x20) (by omega); omega)
        refine k_iload_n C rfl rfl rfl ?_
        have hy84 := x1
        refine z_isubX C rfl rfl (fun x89 ex89 => ?_)
        have gx89 := rg x89
        have m85 := ex89
        refine z_imulE C rfl rfl (fun x90 ex90 => ?_)
        have gx90 := rg x90
        have m86 := ex90
        refine z_i2l C rfl rfl (fun lg91 elg91 => ?_)
        have hl87 := elg91
        refine c_VI C (s_X0_of_x hS hI77 H_r0_1) rfl rfl rfl rfl rfl ⟨_, rfl, rfl, T_r0_1, Nat.le_of_ble_eq_true rfl⟩ rfl rfl (Nat.le_of_ble_eq_true rfl) (Nat.le_of_ble_eq_true rfl) (Nat.le_of_ble_eq_true rfl) ?_
        rintro x92 _ _ ⟨o0x92, o1x92, p0x92, p1x92, rfl, rfl⟩
        have gx92 := rg x92
        try simp only [z_r0_1, z_r0_2, z_r0_3, z_r0_4, z_r0_5, z_r0_1_0, z_r0_1_1, z_r0_1_2, z_r0_1_0_6, z_r0_1_0_7, z_r0_1_0_8, z_r0_1_0_9, z_r0_1_0_10] at p0x92
        try simp only [z_r0_1, z_r0_2, z_r0_3, z_r0_4, z_r0_5, z_r0_1_0, z_r0_1_1, z_r0_1_2, z_r0_1_0_6, z_r0_1_0_7, z_r0_1_0_8, z_r0_1_0_9, z_r0_1_0_10] at p1x92
        try simp only [e80, e81, e82, e84] at p0x92
        try have q0x92 := congrArg Int32.toInt p0x92
        try simp only [e80, e81, e82, e84] at p1x92
        try have q1x92 := congrArg Int32.toInt p1x92
        have hof88 := p0x92; (try simp only [e80] at hof88)
        refine k_istore_n C (lw := [(3, .int x92), (0, .ref r0), (1, .int n1), (2, .int x1), (4, .int x20)]) rfl rfl (Nat.le_of_ble_eq_true rfl) rfl ?_
        refine z_iinc C (z := 1) (lw := fun x93 => [(4, .int x93), (3, .int x92), (0, .ref r0), (1, .int n1), (2, .int x1)]) rfl rfl rfl (Nat.le_of_ble_eq_true rfl) rfl ⟨by omega, by omega⟩ (fun _ => rfl) (fun x93 ex93 => ?_)
        show V 95 [(4, .int x93), (3, .int x92), (0, .ref r0), (1, .int n1), (2, .int x1)] _ _ _ _
        refine k_goto C (pc2 := 15) rfl rfl ?_
        refine k_sub S [(0, .ref r0), (1, .int n1), (2, .int x1), (3, .int x92), (4, .int x93)] (List.forall_mem_cons.mpr ⟨List.mem_of_getElem? (i := 2) rfl, List.forall_mem_cons.mpr ⟨List.mem_of_getElem? (i := 3) rfl, List.forall_mem_cons.mpr ⟨List.mem_of_getElem? (i := 4) rfl, List.forall_mem_cons.mpr ⟨List.mem_of_getElem? (i := 1) rfl, List.forall_mem_cons.mpr ⟨List.mem_of_getElem? (i := 0) rfl, fun _ h => nomatch h⟩⟩⟩⟩⟩) ?_
        exact ihJ13 _ (MN.lt hmnn14 (by omega) (by omega)) I77 L78 x92 x93 x83 rfl hI77 (Chg.cons S23 (Chg.mono (Chg.up S79 (List.forall_mem_cons.mpr ⟨List.mem_of_getElem? (i := 0) rfl, List.forall_mem_cons.mpr ⟨List.mem_of_getElem? (i := 1) rfl, fun _ h => nomatch h⟩⟩)) (by decide)) (by decide)) (by omega) (by omega) (by omega) (by omega) e84 (by omega) (by omega) (by first | exact RWK.w ff15_0 (nct (by omega)) (ncs (by omega) (by omega)) | exact RWK.s ff15_0 hto ff15_1 ht47 (fun h8 => by have h9 := ncz (x := x20) (by omega); have h7 := ncz (x := n1) (by omega); omega) (ncs (by omega) (by omega))) (by first | (rw [ncs (x := x93) (k := x20) (by omega) (by omega), LNS.w (nct (by omega))]; exact ff15_1) | (rw [ncs (x := x93) (k := x20) (by omega) (by omega), LNS.o (fun h8 => by have h9 := ncz (x := x20) (by omega); have h7 := ncz (x := n1) (by omega); omega), ← ff15_1]; omega)) (by omega) (by first | exact OVK.w ff15_3 (nct (by omega)) (ncs (by omega) (by omega)) | exact OVK.p ff15_3 (fun h8 => by have h9 := ncz (x := x20) (by omega); have h7 := ncz (x := n1) (by omega); omega) (by rw [← ht57]; omega) (ncs (by omega) (by omega)) | exact OVK.s ff15_3 (fun h8 => by have h9 := ncz (x := x20) (by omega); have h7 := ncz (x := n1) (by omega); omega) (by rw [← ht57]; omega) (hof88.trans (by rw [hl87])) (OVM m86 m85 trivial ff15_4 ht83 hmi (by omega) (by omega)) (ncs (by omega) (by omega))) (by omega) (by omega)
      refine k_iload_n C rfl rfl rfl ?_
      refine k_goto C (pc2 := 91) rfl rfl ?_
      refine k_istore_n C (lw := [(3, .int x17), (0, .ref r0), (1, .int n1), (2, .int x1), (4, .int x20)]) rfl rfl (Nat.le_of_ble_eq_true rfl) rfl ?_
      refine z_iinc C (z := 1) (lw := fun x94 => [(4, .int x94), (3, .int x17), (0, .ref r0), (1, .int n1), (2, .int x1)]) rfl rfl rfl (Nat.le_of_ble_eq_true rfl) rfl ⟨by omega, by omega⟩ (fun _ => rfl) (fun x94 ex94 => ?_)
      show V 95 [(4, .int x94), (3, .int x17), (0, .ref r0), (1, .int n1), (2, .int x1)] _ _ _ _
      refine k_goto C (pc2 := 15) rfl rfl ?_
      refine k_sub S [(0, .ref r0), (1, .int n1), (2, .int x1), (3, .int x17), (4, .int x94)] (List.forall_mem_cons.mpr ⟨List.mem_of_getElem? (i := 2) rfl, List.forall_mem_cons.mpr ⟨List.mem_of_getElem? (i := 3) rfl, List.forall_mem_cons.mpr ⟨List.mem_of_getElem? (i := 4) rfl, List.forall_mem_cons.mpr ⟨List.mem_of_getElem? (i := 1) rfl, List.forall_mem_cons.mpr ⟨List.mem_of_getElem? (i := 0) rfl, fun _ h => nomatch h⟩⟩⟩⟩⟩) ?_
      exact ihJ13 _ (MN.lt hmnn14 (by omega) (by omega)) I77 L78 x17 x94 x83 rfl hI77 (Chg.cons S23 (Chg.mono (Chg.up S79 (List.forall_mem_cons.mpr ⟨List.mem_of_getElem? (i := 0) rfl, List.forall_mem_cons.mpr ⟨List.mem_of_getElem? (i := 1) rfl, fun _ h => nomatch h⟩⟩)) (by decide)) (by decide)) (by omega) (by omega) (by omega) (by omega) e84 (by omega) (by omega) (by first | exact RWK.w ff15_0 (nct (by omega)) (ncs (by omega) (by omega)) | exact RWK.s ff15_0 hto ff15_1 ht47 (fun h8 => by have h9 := ncz (x := x20) (by omega); have h7 := ncz (x := n1) (by omega); omega) (ncs (by omega) (by omega))) (by first | (rw [ncs (x := x94) (k := x20) (by omega) (by omega), LNS.w (nct (by omega))]; exact ff15_1) | (rw [ncs (x := x94) (k := x20) (by omega) (by omega), LNS.o (fun h8 => by have h9 := ncz (x := x20) (by omega); have h7 := ncz (x := n1) (by omega); omega), ← ff15_1]; omega)) (by omega) (by first | exact OVK.w ff15_3 (nct (by omega)) (ncs (by omega) (by omega)) | exact OVK.p ff15_3 (fun h8 => by have h9 := ncz (x := x20) (by omega); have h7 := ncz (x := n1) (by omega); omega) (by rw [← ht57]; omega) (ncs (by omega) (by omega)) | exact OVK.s ff15_3 (fun h8 => by have h9 := ncz (x := x20) (by omega); have h7 := ncz (x := n1) (by omega); omega) (by rw [← ht57]; omega) (hof88.trans (by rw [hl87])) (OVM m86 m85 trivial ff15_4 ht83 hmi (by omega) (by omega)) (ncs (by omega) (by omega))) (by omega) (by omega)
  refine k_istore C (lw := [(4, .int x12), (3, .int x2), (2, .int x1), (0, .ref r0), (1, .int n1)]) rfl rfl (Nat.le_of_ble_eq_true rfl) rfl ?_
  refine k_sub S [(0, .ref r0), (1, .int n1), (2, .int x1), (3, .int x2), (4, .int x12)] (List.forall_mem_cons.mpr ⟨List.mem_of_getElem? (i := 3) rfl, List.forall_mem_cons.mpr ⟨List.mem_of_getElem? (i := 4) rfl, List.forall_mem_cons.mpr ⟨List.mem_of_getElem? (i := 2) rfl, List.forall_mem_cons.mpr ⟨List.mem_of_getElem? (i := 1) rfl, List.forall_mem_cons.mpr ⟨List.mem_of_getElem? (i := 0) rfl, fun _ h => nomatch h⟩⟩⟩⟩⟩) ?_
  exact J13 _ I4 L5 x2 x12 x10 rfl hI4 Chg.rf (by omega) (by omega) (by omega) (by omega) e11 (by omega) (by omega) (by exact RWK.z hbr (fun j hj => hp5 j hj) (ncz0 (by omega))) (by rw [ncz0 (x := x12) (by omega)]; show _ = _ + (1 : Int); omega) (by omega) (by exact OVK.z (by omega) (ncz0 (by omega))) (by omega) (by omega)

theorem s_X3_find_x {d : Nat} {T N : Nat → Nat} {I : IT} {L : LT} {R : RT} {A B : Nat → Prop} {r0 r1 : Nat} (hS : SUB B A) (hI : IX A T I) (H_r0 : (hs_Po T N R A B) r0) (H_r1 : (hs_F T N R A B) r1) (hU : UPR T R) (hp0 : 1 ≤ (I r1 0).toInt ∧ (I r1 0).toInt ≤ 8) (hp1 : BNX I (rA R r1 1) (I r1 0).toInt (I (rA R (rA R r0 1) 0) 0).toInt) (hp2 : PRM (I (rA R (rA R r0 1) 0) 0).toInt) : Ex (d + 5) 56 [.ref r0, .ref r1] (T, N, I, L, R) 0 0 (pV T N R (fun I9 L9 => (-1 ≤ (I9 r0 0).toInt ∧ (I9 r0 0).toInt ≤ 3) ∧ (FDR (I9 r0 0).toInt (I (rA R (rA R r0 1) 0) 0).toInt (I r1 0).toInt (BNI (I r1 0).toInt) (NF I (rA R r1 1)) (NF I9 (rA R r0 2)) (NF I9 (rA R r0 3))) ∧ (IX A T I9 ∧ Chg (SL [r0, (rA R r0 2), (rA R r0 3), (rA R r0 4), (rA R r0 5)]) T [(4, 0), (4, 6), (4, 7)] I L I9 L9))) := by
  refine ⟨_, rfl, Nat.le_of_ble_eq_true rfl, fun V C S => ?_⟩
  show V 0 [(0, .ref r0), (1, .ref r1)] [] (T, N, I, L, R) 0 0
  obtain ⟨T_r0, A_r0, B_r0, ⟨r0_1, R_r0_1, H_r0_1⟩, ⟨r0_2, R_r0_2, H_r0_2⟩, ⟨r0_3, R_r0_3, H_r0_3⟩, ⟨r0_4, R_r0_4, H_r0_4⟩, ⟨r0_5, R_r0_5, H_r0_5⟩⟩ := id H_r0
  have z_r0_1 : rA R r0 1 = r0_1 := rA_e R_r0_1
  have z_r0_2 : rA R r0 2 = r0_2 := rA_e R_r0_2
  have z_r0_3 : rA R r0 3 = r0_3 := rA_e R_r0_3
  have z_r0_4 : rA R r0 4 = r0_4 := rA_e R_r0_4
  have z_r0_5 : rA R r0 5 = r0_5 := rA_e R_r0_5
  obtain ⟨T_r0_1, A_r0_1, B_r0_1, ⟨r0_1_0, R_r0_1_0, H_r0_1_0⟩, ⟨r0_1_1, R_r0_1_1, H_r0_1_1⟩, ⟨r0_1_2, R_r0_1_2, H_r0_1_2⟩⟩ := id H_r0_1
  have z_r0_1_0 : rA R r0_1 0 = r0_1_0 := rA_e R_r0_1_0
  have z_r0_1_1 : rA R r0_1 1 = r0_1_1 := rA_e R_r0_1_1
  have z_r0_1_2 : rA R r0_1 2 = r0_1_2 := rA_e R_r0_1_2
  obtain ⟨T_r0_1_0, A_r0_1_0, B_r0_1_0, ⟨r0_1_0_6, R_r0_1_0_6, H_r0_1_0_6⟩, ⟨r0_1_0_7, R_r0_1_0_7, H_r0_1_0_7⟩, ⟨r0_1_0_8, R_r0_1_0_8, H_r0_1_0_8⟩, ⟨r0_1_0_9, R_r0_1_0_9, H_r0_1_0_9⟩, ⟨r0_1_0_10, R_r0_1_0_10, H_r0_1_0_10⟩⟩ := id H_r0_1_0
  have z_r0_1_0_6 : rA R r0_1_0 6 = r0_1_0_6 := rA_e R_r0_1_0_6
  have z_r0_1_0_7 : rA R r0_1_0 7 = r0_1_0_7 := rA_e R_r0_1_0_7
  have z_r0_1_0_8 : rA R r0_1_0 8 = r0_1_0_8 := rA_e R_r0_1_0_8
  have z_r0_1_0_9 : rA R r0_1_0 9 = r0_1_0_9 := rA_e R_r0_1_0_9
  have z_r0_1_0_10 : rA R r0_1_0 10 = r0_1_0_10 := rA_e R_r0_1_0_10
  obtain ⟨T_r1, A_r1, ⟨r1_1, R_r1_1, H_r1_1⟩⟩ := id H_r1
  have z_r1_1 : rA R r1 1 = r1_1 := rA_e R_r1_1
  obtain ⟨T_r1_1, N_r1_1, A_r1_1⟩ := id H_r1_1
  obtain ⟨T_r0_2, N_r0_2, A_r0_2⟩ := id H_r0_2
  obtain ⟨T_r0_3, N_r0_3, A_r0_3⟩ := id H_r0_3
  obtain ⟨T_r0_4, N_r0_4, A_r0_4⟩ := id H_r0_4
  obtain ⟨T_r0_5, N_r0_5, A_r0_5⟩ := id H_r0_5
  try simp only [z_r0_1, z_r0_2, z_r0_3, z_r0_4, z_r0_5, z_r0_1_0, z_r0_1_1, z_r0_1_2, z_r0_1_0_6, z_r0_1_0_7, z_r0_1_0_8, z_r0_1_0_9, z_r0_1_0_10, z_r1_1] at hp0
  try simp only [z_r0_1, z_r0_2, z_r0_3, z_r0_4, z_r0_5, z_r0_1_0, z_r0_1_1, z_r0_1_2, z_r0_1_0_6, z_r0_1_0_7, z_r0_1_0_8, z_r0_1_0_9, z_r0_1_0_10, z_r1_1] at hp1
  try simp only [z_r0_1, z_r0_2, z_r0_3, z_r0_4, z_r0_5, z_r0_1_0, z_r0_1_1, z_r0_1_2, z_r0_1_0_6, z_r0_1_0_7, z_r0_1_0_8, z_r0_1_0_9, z_r0_1_0_10, z_r1_1] at hp2
  obtain ⟨w_r0_1_0_0, k0_r0_1_0_0⟩ : ∃ x, I r0_1_0 0 = x := ⟨_, rfl⟩
  have gw_r0_1_0_0 := rg w_r0_1_0_0
  have ow_r0_1_0_0 := IX.p hI A_r0_1_0 T_r0_1_0 k0_r0_1_0_0
  obtain ⟨w_r1_0, k0_r1_0⟩ : ∃ x, I r1 0 = x := ⟨_, rfl⟩
  have gw_r1_0 := rg w_r1_0
  have ow_r1_0 := IX.deg hI A_r1 T_r1 k0_r1_0
  try simp only [k0_r0_1_0_0, k0_r1_0] at hp0
  try simp only [k0_r0_1_0_0, k0_r1_0] at hp1
  try simp only [k0_r0_1_0_0, k0_r1_0] at hp2
  have n23 : NQ9 r0_2 r0_3 := hU.ne (Or.inr (Or.inr (Or.inr (by omega)))) R_r0_2 R_r0_3 (Or.inr (by decide))
  have n24 : NQ9 r0_2 r0_4 := hU.ne (Or.inr (Or.inr (Or.inr (by omega)))) R_r0_2 R_r0_4 (Or.inr (by decide))
  have n25 : NQ9 r0_2 r0_5 := hU.ne (Or.inr (Or.inr (Or.inr (by omega)))) R_r0_2 R_r0_5 (Or.inr (by decide))
  have n34 : NQ9 r0_3 r0_4 := hU.ne (Or.inr (Or.inr (Or.inr (by omega)))) R_r0_3 R_r0_4 (Or.inr (by decide))
  have n35 : NQ9 r0_3 r0_5 := hU.ne (Or.inr (Or.inr (Or.inr (by omega)))) R_r0_3 R_r0_5 (Or.inr (by decide))
  have n45 : NQ9 r0_4 r0_5 := hU.ne (Or.inr (Or.inr (Or.inr (by omega)))) R_r0_4 R_r0_5 (Or.inr (by decide))
  have nf2 : NQ9 r1_1 r0_2 := hU.ne (Or.inr (Or.inr (Or.inr (by omega)))) R_r1_1 R_r0_2 (Or.inl (t_nq T_r1 T_r0 (by decide)))
  have nf3 : NQ9 r1_1 r0_3 := hU.ne (Or.inr (Or.inr (Or.inr (by omega)))) R_r1_1 R_r0_3 (Or.inl (t_nq T_r1 T_r0 (by decide)))
  have nf4 : NQ9 r1_1 r0_4 := hU.ne (Or.inr (Or.inr (Or.inr (by omega)))) R_r1_1 R_r0_4 (Or.inl (t_nq T_r1 T_r0 (by decide)))
  have nf5 : NQ9 r1_1 r0_5 := hU.ne (Or.inr (Or.inr (Or.inr (by omega)))) R_r1_1 R_r0_5 (Or.inl (t_nq T_r1 T_r0 (by decide)))
  refine k_aload_n C rfl rfl rfl ?_
  refine z_iconst C (z := -1) rfl rfl rfl (fun x1 ex1 => ?_)
  refine z_pI C rfl rfl rfl T_r0 (Or.inr rfl) rfl (fun I2 uI2 => ?_)
  have hI2 : IX A T I2 := IX.f hI T_r0 (boX.tr (by decide) (by decide)) uI2
  have S3 : Chg (SL [r0]) T [(4, 0)] I L I2 L := Chg.f List.mem_cons_self T_r0 uI2
  have e4 := u2_n uI2 (t_nq T_r0_1_0 T_r0 (by decide)) k0_r0_1_0_0
  have e5 := u2_n uI2 (t_nq T_r1 T_r0 (by decide)) k0_r1_0
  have e6 := u2_e uI2
  refine k_aload_n C rfl rfl rfl ?_
  refine k_aload_n C rfl rfl rfl ?_
  refine g_I C rfl rfl rfl T_r1 rfl e5 ?_
  refine z_pI C rfl rfl rfl T_r0 (Or.inr rfl) rfl (fun I7 uI7 => ?_)
  have hI7 : IX A T I7 := IX.f hI2 T_r0 (boX.tr (by decide) (by decide)) uI7
  have S8 : Chg (SL [r0]) T [(4, 6)] I2 L I7 L := Chg.f List.mem_cons_self T_r0 uI7
  have e9 := u2_j uI7 (by decide) e4
  have e10 := u2_j uI7 (by decide) e5
  have e11 := u2_j uI7 (by decide) e6
  have e12 := u2_e uI7
  refine k_aload_n C rfl rfl rfl ?_
  refine k_aload_n C rfl rfl rfl ?_
  have hq15 := (Chg.at ((Chg.cons (Chg.up S3 (List.forall_mem_cons.mpr ⟨List.mem_of_getElem? (i := 0) rfl, fun _ h => nomatch h⟩)) (Chg.mono (Chg.up S8 (List.forall_mem_cons.mpr ⟨List.mem_of_getElem? (i := 0) rfl, fun _ h => nomatch h⟩)) (by decide)) (by decide)) : Chg (SL [r0, r0_2, r0_3, r0_4, r0_5]) T [(4, 0), (4, 6), (4, 7)] I L I7 L) (nm_5 (t_nq T_r1_1 T_r0 (by decide)) (by first | exact nf2 | exact fun e => nf2 e.symm) (by first | exact nf3 | exact fun e => nf3 e.symm) (by first | exact nf4 | exact fun e => nf4 e.symm) (by first | exact nf5 | exact fun e => nf5 e.symm))); have hk15 := e12; have hw15 := e9
  refine c_VV C (s_X3_share_x hS hI7 H_r0 H_r1 hU (by rw [e12]; omega) (by rw [e10, e12]) (by rw [z_r1_1, z_r0_1, z_r0_1_0, e10, e9]; exact BNX.c hp1 (Chg.at ((Chg.cons (Chg.up S3 (List.forall_mem_cons.mpr ⟨List.mem_of_getElem? (i := 0) rfl, fun _ h => nomatch h⟩)) (Chg.mono (Chg.up S8 (List.forall_mem_cons.mpr ⟨List.mem_of_getElem? (i := 0) rfl, fun _ h => nomatch h⟩)) (by decide)) (by decide)) : Chg (SL [r0, r0_2, r0_3, r0_4, r0_5]) T [(4, 0), (4, 6), (4, 7)] I L I7 L) (nm_5 (t_nq T_r1_1 T_r0 (by decide)) (by first | exact nf2 | exact fun e => nf2 e.symm) (by first | exact nf3 | exact fun e => nf3 e.symm) (by first | exact nf4 | exact fun e => nf4 e.symm) (by first | exact nf5 | exact fun e => nf5 e.symm))) (by omega)) (by rw [z_r0_1, z_r0_1_0, e9]; exact hp2)) rfl rfl rfl rfl rfl ⟨_, rfl, rfl, T_r0, Nat.le_of_ble_eq_true rfl⟩ rfl rfl (Nat.le_of_ble_eq_true rfl) (Nat.le_of_ble_eq_true rfl) (Nat.le_of_ble_eq_true rfl) ?_
  rintro I14 L15 ⟨p0v13, hI14, S16⟩
  try simp only [z_r0_1, z_r0_2, z_r0_3, z_r0_4, z_r0_5, z_r0_1_0, z_r0_1_1, z_r0_1_2, z_r0_1_0_6, z_r0_1_0_7, z_r0_1_0_8, z_r0_1_0_9, z_r0_1_0_10, z_r1_1] at S16
  have e17 := Chg.k S16 T_r0_1_0 (by decide) (by decide) e9
  have e18 := Chg.k S16 T_r1 (by decide) (by decide) e10
  have e19 := Chg.k S16 T_r0 (by decide) (by decide) e11
  have e20 := Chg.k S16 T_r0 (by decide) (by decide) e12
  try simp only [z_r0_1, z_r0_2, z_r0_3, z_r0_4, z_r0_5, z_r0_1_0, z_r0_1_1, z_r0_1_2, z_r0_1_0_6, z_r0_1_0_7, z_r0_1_0_8, z_r0_1_0_9, z_r0_1_0_10, z_r1_1] at p0v13
  try simp only [e9, e10, e11, e12] at p0v13
  try have q0v13 := congrArg Int32.toInt p0v13
  have hsl := p0v13; (try simp only [z_r0_1, z_r0_2, z_r0_3, z_r0_4, z_r0_5, z_r0_1_0, z_r0_1_1, z_r0_1_2, z_r0_1_0_6, z_r0_1_0_7, z_r0_1_0_8, z_r0_1_0_9, z_r0_1_0_10, z_r1_1, hk15, hw15] at hsl); (try rw [NF.e hq15] at hsl); have hsb := hsl.b; have hsh := hsl.sha hp2 (by omega) (by omega); obtain ⟨S9, eS9⟩ : ∃ f : Nat → Int, NF I14 r0_4 = f := ⟨_, rfl⟩; have hsb : ∀ j : Nat, (j : Int) < w_r1_0.toInt + 1 → 0 ≤ S9 j ∧ S9 j < w_r0_1_0_0.toInt := (by rw [← eS9]; exact hsb); have hsh : SHA w_r0_1_0_0.toInt w_r1_0.toInt (BNI w_r1_0.toInt) (NF I r1_1) S9 := (by rw [← eS9]; exact hsh)
  refine z_iconst C (z := 0) rfl rfl rfl (fun x21 ex21 => ?_)
  have J22 : ∀ (nn23 : Nat) (I24 : IT) (L25 : LT) (x26 : Int32) (x31 : Int32), (MN (4 - x26.toInt) nn23) → (IX A T I24) → (Chg (SL [r0, r0_2, r0_3, r0_4, r0_5]) T [(4, 0), (4, 7)] I14 L15 I24 L25) → (0 ≤ x26.toInt) → (x26.toInt ≤ 4) → (I24 r0 0 = x31) → (-1 ≤ x31.toInt) → (x31.toInt ≤ 3) → (FDI x31.toInt w_r0_1_0_0.toInt w_r1_0.toInt S9 (NF I24 r0_2) x26.toInt) → (NF I24 r0_4 = S9) → (x26.toInt ≤ 4) → V 20 [(0, .ref r0), (2, .int x26)] [] (T, N, I24, L25, R) 0 0 := by
    intro nn23
    induction nn23 using Nat.strongRecOn with
    | _ nn23 ihJ22 =>
      intro I24 L25 x26 x31 hmnn23 hI30 S29 b27 b28 e32 b33 b34 ff20_0 ff20_1 ff20_2
      have gx26 := rg x26
      have gx31 := rg x31
      have e38 := Chg.k S29 T_r0_1_0 (by decide) (by decide) e17
      have e39 := Chg.k S29 T_r1 (by decide) (by decide) e18
      have e40 := Chg.k S29 T_r0 (by decide) (by decide) e20
      refine k_iload_n C rfl rfl rfl ?_
      refine z_iconst C (z := 3) rfl rfl rfl (fun x41 ex41 => ?_)
      refine b_icmp_gt C (t := 52) rfl rfl rfl (fun c42 => ?_) (fun c42 => ?_)
      · skip
        obtain ⟨T9, eT9⟩ : ∃ f : Nat → Int, NF I24 r0_2 = f := ⟨_, rfl⟩; have hFD := ff20_0; rw [eT9] at hFD; have hS52 := ff20_1; obtain ⟨m9, em9⟩ : ∃ z : Int, z = x31.toInt := ⟨_, rfl⟩; have hle := hFD.le (by omega) (by omega)
        refine z_iconst C (z := 0) rfl rfl rfl (fun x43 ex43 => ?_)
        have J44 : ∀ (nn45 : Nat) (I46 : IT) (L47 : LT) (x48 : Int32), (MN (3 - x48.toInt) nn45) → (IX A T I46) → (Chg (SL [r0, r0_2, r0_3, r0_4, r0_5]) T [(4, 7)] I24 L25 I46 L47) → (0 ≤ x48.toInt) → (x48.toInt ≤ 3) → (∀ j : Nat, (j : Int) < x48.toInt → NMQ (NF I46 r0_3 j) w_r0_1_0_0.toInt w_r1_0.toInt S9 T9 m9.toNat j) → (NF I46 r0_2 = T9) → (NF I46 r0_4 = S9) → (x48.toInt ≤ 3) → V 54 [(0, .ref r0), (2, .int x48)] [] (T, N, I46, L47, R) 0 0 := by
          intro nn45
          induction nn45 using Nat.strongRecOn with
          | _ nn45 ihJ44 =>
            intro I46 L47 x48 hmnn45 hI52 S51 b49 b50 ff54_0 ff54_1 ff54_2 ff54_3
            have gx48 := rg x48
            have e57 := Chg.k S51 T_r0_1_0 (by decide) (by decide) e38
            have e58 := Chg.k S51 T_r1 (by decide) (by decide) e39
            have e59 := Chg.k S51 T_r0 (by decide) (by decide) e40
            have e60 := Chg.k S51 T_r0 (by decide) (by decide) e32
            refine k_iload_n C rfl rfl rfl ?_
            refine k_aload_n C rfl rfl rfl ?_
            refine g_I C rfl rfl rfl T_r0 rfl e60 ?_
            refine b_icmp_ge C (t := 88) rfl rfl rfl (fun c61 => ?_) (fun c61 => ?_)
            · skip
              exact k_vret C rfl rfl (Nat.le_of_ble_eq_true rfl) (Nat.le_of_ble_eq_true rfl) ⟨_, _, rfl, rfl, by (try simp only [z_r0_1, z_r0_2, z_r0_3, z_r0_4, z_r0_5, z_r0_1_0, z_r0_1_1, z_r0_1_2, z_r0_1_0_6, z_r0_1_0_7, z_r0_1_0_8, z_r0_1_0_9, z_r0_1_0_10, z_r1_1]); rw [e60]; omega, by (try simp only [z_r0_1, z_r0_2, z_r0_3, z_r0_4, z_r0_5, z_r0_1_0, z_r0_1_1, z_r0_1_2, z_r0_1_0_6, z_r0_1_0_7, z_r0_1_0_8, z_r0_1_0_9, z_r0_1_0_10, z_r1_1]); rw [e60, ff54_1]; simp only [k0_r1_0, k0_r0_1_0_0]; exact FDR.of hp2 hsh hFD (by omega) (fun j hj => by have h8 := ff54_0 j hj; rw [em9] at h8; exact h8) (by omega), hI52, (by (try simp only [z_r0_1, z_r0_2, z_r0_3, z_r0_4, z_r0_5, z_r0_1_0, z_r0_1_1, z_r0_1_2, z_r0_1_0_6, z_r0_1_0_7, z_r0_1_0_8, z_r0_1_0_9, z_r0_1_0_10, z_r1_1]); exact (Chg.cons (Chg.up S3 (List.forall_mem_cons.mpr ⟨List.mem_of_getElem? (i := 0) rfl, fun _ h => nomatch h⟩)) (Chg.cons (Chg.up S8 (List.forall_mem_cons.mpr ⟨List.mem_of_getElem? (i := 0) rfl, fun _ h => nomatch h⟩)) (Chg.cons (Chg.up S16 (List.forall_mem_cons.mpr ⟨List.mem_of_getElem? (i := 3) rfl, fun _ h => nomatch h⟩)) (Chg.cons S29 (Chg.mono S51 (by decide)) (by decide)) (by decide)) (by decide)) (by decide)))⟩
            refine k_iload_n C rfl rfl rfl ?_
            refine k_aload_n C rfl rfl rfl ?_
            refine g_R C rfl rfl rfl T_r0 rfl R_r0_3 ?_
            refine z_len C (n := 3) rfl rfl (by rw [T_r0_3]; exact Nat.le_of_ble_eq_true rfl) N_r0_3 (Nat.le_of_ble_eq_true rfl) (fun x62 ex62 => ?_)
            refine b_icmp_ge C (t := 88) rfl rfl rfl (fun c63 => by exfalso; omega) (fun c63 => ?_)
            refine k_aload_n C rfl rfl rfl ?_
            refine g_R C rfl rfl rfl T_r0 rfl R_r0_3 ?_
            refine k_iload_n C rfl rfl rfl ?_
            refine k_aload_n C rfl rfl rfl ?_
            refine k_iload_n C rfl rfl rfl ?_
            have hk78 := e59; have hw78 := e57; have hn78 := e60
            refine c_VI C (s_X3_numberOf_x hS hI52 H_r0 (by omega) (by omega) hU (by rw [e59]; omega) (by rw [e60]; omega) (by rw [e60]; omega) (by rw [e60, e59]; omega) (by rw [e60, z_r0_2, z_r0_1, z_r0_1_0, e57, ff54_1]; exact hFD.ris (by omega)) (by rw [e59, z_r0_4, z_r0_1, z_r0_1_0, e57, ff54_2]; exact hsb) (by rw [z_r0_1, z_r0_1_0, e57]; exact hp2)) rfl rfl rfl rfl rfl ⟨_, rfl, rfl, T_r0, Nat.le_of_ble_eq_true rfl⟩ rfl rfl (Nat.le_of_ble_eq_true rfl) (Nat.le_of_ble_eq_true rfl) (Nat.le_of_ble_eq_true rfl) ?_
            rintro x64 I65 L66 ⟨p0x64, hI65, S67⟩
            try simp only [z_r0_1, z_r0_2, z_r0_3, z_r0_4, z_r0_5, z_r0_1_0, z_r0_1_1, z_r0_1_2, z_r0_1_0_6, z_r0_1_0_7, z_r0_1_0_8, z_r0_1_0_9, z_r0_1_0_10, z_r1_1] at S67
            have e68 := Chg.k S67 T_r0_1_0 (by decide) (by decide) e57
            have e69 := Chg.k S67 T_r1 (by decide) (by decide) e58
            have e70 := Chg.k S67 T_r0 (by decide) (by decide) e59
            have e71 := Chg.k S67 T_r0 (by decide) (by decide) e60
            have gx64 := rg x64
            try simp only [z_r0_1, z_r0_2, z_r0_3, z_r0_4, z_r0_5, z_r0_1_0, z_r0_1_1, z_r0_1_2, z_r0_1_0_6, z_r0_1_0_7, z_r0_1_0_8, z_r0_1_0_9, z_r0_1_0_10, z_r1_1] at p0x64
            try simp only [e57, e58, e59, e60] at p0x64
            try have q0x64 := congrArg Int32.toInt p0x64
            have hnm := p0x64; (try simp only [z_r0_1, z_r0_2, z_r0_3, z_r0_4, z_r0_5, z_r0_1_0, z_r0_1_1, z_r0_1_2, z_r0_1_0_6, z_r0_1_0_7, z_r0_1_0_8, z_r0_1_0_9, z_r0_1_0_10, z_r1_1, hk78, hw78, hn78] at hnm); rw [ff54_1, ff54_2] at hnm; have ha78 := NF.e (Chg.at S67 (nm_2 (t_nq T_r0_2 T_r0 (by decide)) n25)); have hb78 := NF.e (Chg.at S67 (nm_2 (t_nq T_r0_3 T_r0 (by decide)) n35)); have hc78 := NF.e (Chg.at S67 (nm_2 (t_nq T_r0_4 T_r0 (by decide)) n45))
            refine z_sI C rfl rfl T_r0_3 N_r0_3 (by omega) (by omega) (fun I72 uI72 => ?_)
            have hI72 : IX A T I72 := IX.a hI65 T_r0_3 (Nat.le_of_ble_eq_true rfl) uI72
            have S73 : Chg (SL [r0_3]) T [] I65 L66 I72 L66 := Chg.a List.mem_cons_self T_r0_3 (Nat.le_of_ble_eq_true rfl) uI72
            have e74 := u2_n uI72 (t_nq T_r0_1_0 T_r0_3 (by decide)) e68
            have e75 := u2_n uI72 (t_nq T_r1 T_r0_3 (by decide)) e69
            have e76 := u2_n uI72 (t_nq T_r0 T_r0_3 (by decide)) e70
            have e77 := u2_n uI72 (t_nq T_r0 T_r0_3 (by decide)) e71
            have hput81 := uI72
            refine z_iinc C (z := 1) (lw := fun x78 => [(2, .int x78), (0, .ref r0)]) rfl rfl rfl (Nat.le_of_ble_eq_true rfl) rfl ⟨by omega, by omega⟩ (fun _ => rfl) (fun x78 ex78 => ?_)
            show V 85 [(2, .int x78), (0, .ref r0)] _ _ _ _
            refine k_goto C (pc2 := 54) rfl rfl ?_
            refine k_sub S [(0, .ref r0), (2, .int x78)] (List.forall_mem_cons.mpr ⟨List.mem_of_getElem? (i := 1) rfl, List.forall_mem_cons.mpr ⟨List.mem_of_getElem? (i := 0) rfl, fun _ h => nomatch h⟩⟩) ?_
            exact ihJ44 _ (MN.lt hmnn45 (by omega) (by omega)) I72 L66 x78 rfl hI72 (Chg.cons S51 (Chg.cons (Chg.up S67 (List.forall_mem_cons.mpr ⟨List.mem_of_getElem? (i := 0) rfl, List.forall_mem_cons.mpr ⟨List.mem_of_getElem? (i := 4) rfl, fun _ h => nomatch h⟩⟩)) (Chg.mono (Chg.up S73 (List.forall_mem_cons.mpr ⟨List.mem_of_getElem? (i := 2) rfl, fun _ h => nomatch h⟩)) (by decide)) (by decide)) (by decide)) (by omega) (by omega) (by intro j hj; have h9 := ncz (x := x48) (by omega); exact (Classical.em (j = x48.toNatClampNeg)).elim (fun h8 => by ((rw [h8, show NF I72 r0_3 x48.toNatClampNeg = _ from congrArg Int32.toInt ((congrFun (congrFun hput81 r0_3) _).trans u2_s), em9]; exact hnm))) (fun h8 => by ((rw [show NF I72 r0_3 j = _ from (congrArg Int32.toInt ((congrFun (congrFun hput81 r0_3) j).trans (u2_k h8))).trans (congrFun hb78 j)]; exact ff54_0 j (by omega))))) (by exact (NF.e ((congrFun hput81 r0_2).trans (u2_r n23))).trans (ha78.trans ff54_1)) (by exact (NF.e ((congrFun hput81 r0_4).trans (u2_r (Ne.symm n34)))).trans (hc78.trans ff54_2)) (by omega)
        refine k_istore_n C (lw := [(2, .int x43), (0, .ref r0)]) rfl rfl (Nat.le_of_ble_eq_true rfl) rfl ?_
        refine k_sub S [(0, .ref r0), (2, .int x43)] (List.forall_mem_cons.mpr ⟨List.mem_of_getElem? (i := 1) rfl, List.forall_mem_cons.mpr ⟨List.mem_of_getElem? (i := 0) rfl, fun _ h => nomatch h⟩⟩) ?_
        exact J44 _ I24 L25 x43 rfl hI30 Chg.rf (by omega) (by omega) (by intro j hj; omega) (by exact eT9) (by exact hS52) (by omega)
      refine k_aload_n C rfl rfl rfl ?_
      refine g_I C rfl rfl rfl T_r0 rfl e32 ?_
      refine z_iconst C (z := -1) rfl rfl rfl (fun x79 ex79 => ?_)
      refine b_icmp_ne C (t := 52) rfl rfl rfl (fun c80 => ?_) (fun c80 => ?_)
      · skip
        obtain ⟨T9, eT9⟩ : ∃ f : Nat → Int, NF I24 r0_2 = f := ⟨_, rfl⟩; have hFD := ff20_0; rw [eT9] at hFD; have hS52 := ff20_1; obtain ⟨m9, em9⟩ : ∃ z : Int, z = x31.toInt := ⟨_, rfl⟩; have hle := hFD.le (by omega) (by omega)
        refine z_iconst C (z := 0) rfl rfl rfl (fun x81 ex81 => ?_)
        have J82 : ∀ (nn83 : Nat) (I84 : IT) (L85 : LT) (x86 : Int32), (MN (3 - x86.toInt) nn83) → (IX A T I84) → (Chg (SL [r0, r0_2, r0_3, r0_4, r0_5]) T [(4, 7)] I24 L25 I84 L85) → (0 ≤ x86.toInt) → (x86.toInt ≤ 3) → (∀ j : Nat, (j : Int) < x86.toInt → NMQ (NF I84 r0_3 j) w_r0_1_0_0.toInt w_r1_0.toInt S9 T9 m9.toNat j) → (NF I84 r0_2 = T9) → (NF I84 r0_4 = S9) → (x86.toInt ≤ 3) → V 54 [(0, .ref r0), (2, .int x86)] [] (T, N, I84, L85, R) 0 0 := by
          intro nn83
          induction nn83 using Nat.strongRecOn with
          | _ nn83 ihJ82 =>
            intro I84 L85 x86 hmnn83 hI90 S89 b87 b88 ff54_0 ff54_1 ff54_2 ff54_3
            have gx86 := rg x86
            have e95 := Chg.k S89 T_r0_1_0 (by decide) (by decide) e38
            have e96 := Chg.k S89 T_r1 (by decide) (by decide) e39
            have e97 := Chg.k S89 T_r0 (by decide) (by decide) e40
            have e98 := Chg.k S89 T_r0 (by decide) (by decide) e32
            refine k_iload_n C rfl rfl rfl ?_
            refine k_aload_n C rfl rfl rfl ?_
            refine g_I C rfl rfl rfl T_r0 rfl e98 ?_
            refine b_icmp_ge C (t := 88) rfl rfl rfl (fun c99 => ?_) (fun c99 => ?_)
            · skip
              exact k_vret C rfl rfl (Nat.le_of_ble_eq_true rfl) (Nat.le_of_ble_eq_true rfl) ⟨_, _, rfl, rfl, by (try simp only [z_r0_1, z_r0_2, z_r0_3, z_r0_4, z_r0_5, z_r0_1_0, z_r0_1_1, z_r0_1_2, z_r0_1_0_6, z_r0_1_0_7, z_r0_1_0_8, z_r0_1_0_9, z_r0_1_0_10, z_r1_1]); rw [e98]; omega, by (try simp only [z_r0_1, z_r0_2, z_r0_3, z_r0_4, z_r0_5, z_r0_1_0, z_r0_1_1, z_r0_1_2, z_r0_1_0_6, z_r0_1_0_7, z_r0_1_0_8, z_r0_1_0_9, z_r0_1_0_10, z_r1_1]); rw [e98, ff54_1]; simp only [k0_r1_0, k0_r0_1_0_0]; exact FDR.of hp2 hsh hFD (by omega) (fun j hj => by have h8 := ff54_0 j hj; rw [em9] at h8; exact h8) (by omega), hI90, (by (try simp only [z_r0_1, z_r0_2, z_r0_3, z_r0_4, z_r0_5, z_r0_1_0, z_r0_1_1, z_r0_1_2, z_r0_1_0_6, z_r0_1_0_7, z_r0_1_0_8, z_r0_1_0_9, z_r0_1_0_10, z_r1_1]); exact (Chg.cons (Chg.up S3 (List.forall_mem_cons.mpr ⟨List.mem_of_getElem? (i := 0) rfl, fun _ h => nomatch h⟩)) (Chg.cons (Chg.up S8 (List.forall_mem_cons.mpr ⟨List.mem_of_getElem? (i := 0) rfl, fun _ h => nomatch h⟩)) (Chg.cons (Chg.up S16 (List.forall_mem_cons.mpr ⟨List.mem_of_getElem? (i := 3) rfl, fun _ h => nomatch h⟩)) (Chg.cons S29 (Chg.mono S89 (by decide)) (by decide)) (by decide)) (by decide)) (by decide)))⟩
            refine k_iload_n C rfl rfl rfl ?_
            refine k_aload_n C rfl rfl rfl ?_
            refine g_R C rfl rfl rfl T_r0 rfl R_r0_3 ?_
            refine z_len C (n := 3) rfl rfl (by rw [T_r0_3]; exact Nat.le_of_ble_eq_true rfl) N_r0_3 (Nat.le_of_ble_eq_true rfl) (fun x100 ex100 => ?_)
            refine b_icmp_ge C (t := 88) rfl rfl rfl (fun c101 => by exfalso; omega) (fun c101 => ?_)
            refine k_aload_n C rfl rfl rfl ?_
            refine g_R C rfl rfl rfl T_r0 rfl R_r0_3 ?_
            refine k_iload_n C rfl rfl rfl ?_
            refine k_aload_n C rfl rfl rfl ?_
            refine k_iload_n C rfl rfl rfl ?_
            have hk78 := e97; have hw78 := e95; have hn78 := e98
            refine c_VI C (s_X3_numberOf_x hS hI90 H_r0 (by omega) (by omega) hU (by rw [e97]; omega) (by rw [e98]; omega) (by rw [e98]; omega) (by rw [e98, e97]; omega) (by rw [e98, z_r0_2, z_r0_1, z_r0_1_0, e95, ff54_1]; exact hFD.ris (by omega)) (by rw [e97, z_r0_4, z_r0_1, z_r0_1_0, e95, ff54_2]; exact hsb) (by rw [z_r0_1, z_r0_1_0, e95]; exact hp2)) rfl rfl rfl rfl rfl ⟨_, rfl, rfl, T_r0, Nat.le_of_ble_eq_true rfl⟩ rfl rfl (Nat.le_of_ble_eq_true rfl) (Nat.le_of_ble_eq_true rfl) (Nat.le_of_ble_eq_true rfl) ?_
            rintro x102 I103 L104 ⟨p0x102, hI103, S105⟩
            try simp only [z_r0_1, z_r0_2, z_r0_3, z_r0_4, z_r0_5, z_r0_1_0, z_r0_1_1, z_r0_1_2, z_r0_1_0_6, z_r0_1_0_7, z_r0_1_0_8, z_r0_1_0_9, z_r0_1_0_10, z_r1_1] at S105
            have e106 := Chg.k S105 T_r0_1_0 (by decide) (by decide) e95
            have e107 := Chg.k S105 T_r1 (by decide) (by decide) e96
            have e108 := Chg.k S105 T_r0 (by decide) (by decide) e97
            have e109 := Chg.k S105 T_r0 (by decide) (by decide) e98
            have gx102 := rg x102
            try simp only [z_r0_1, z_r0_2, z_r0_3, z_r0_4, z_r0_5, z_r0_1_0, z_r0_1_1, z_r0_1_2, z_r0_1_0_6, z_r0_1_0_7, z_r0_1_0_8, z_r0_1_0_9, z_r0_1_0_10, z_r1_1] at p0x102
            try simp only [e95, e96, e97, e98] at p0x102
            try have q0x102 := congrArg Int32.toInt p0x102
            have hnm := p0x102; (try simp only [z_r0_1, z_r0_2, z_r0_3, z_r0_4, z_r0_5, z_r0_1_0, z_r0_1_1, z_r0_1_2, z_r0_1_0_6, z_r0_1_0_7, z_r0_1_0_8, z_r0_1_0_9, z_r0_1_0_10, z_r1_1, hk78, hw78, hn78] at hnm); rw [ff54_1, ff54_2] at hnm; have ha78 := NF.e (Chg.at S105 (nm_2 (t_nq T_r0_2 T_r0 (by decide)) n25)); have hb78 := NF.e (Chg.at S105 (nm_2 (t_nq T_r0_3 T_r0 (by decide)) n35)); have hc78 := NF.e (Chg.at S105 (nm_2 (t_nq T_r0_4 T_r0 (by decide)) n45))
            refine z_sI C rfl rfl T_r0_3 N_r0_3 (by omega) (by omega) (fun I110 uI110 => ?_)
            have hI110 : IX A T I110 := IX.a hI103 T_r0_3 (Nat.le_of_ble_eq_true rfl) uI110
            have S111 : Chg (SL [r0_3]) T [] I103 L104 I110 L104 := Chg.a List.mem_cons_self T_r0_3 (Nat.le_of_ble_eq_true rfl) uI110
            have e112 := u2_n uI110 (t_nq T_r0_1_0 T_r0_3 (by decide)) e106
            have e113 := u2_n uI110 (t_nq T_r1 T_r0_3 (by decide)) e107
            have e114 := u2_n uI110 (t_nq T_r0 T_r0_3 (by decide)) e108
            have e115 := u2_n uI110 (t_nq T_r0 T_r0_3 (by decide)) e109
            have hput81 := uI110
            refine z_iinc C (z := 1) (lw := fun x116 => [(2, .int x116), (0, .ref r0)]) rfl rfl rfl (Nat.le_of_ble_eq_true rfl) rfl ⟨by omega, by omega⟩ (fun _ => rfl) (fun x116 ex116 => ?_)
            show V 85 [(2, .int x116), (0, .ref r0)] _ _ _ _
            refine k_goto C (pc2 := 54) rfl rfl ?_
            refine k_sub S [(0, .ref r0), (2, .int x116)] (List.forall_mem_cons.mpr ⟨List.mem_of_getElem? (i := 1) rfl, List.forall_mem_cons.mpr ⟨List.mem_of_getElem? (i := 0) rfl, fun _ h => nomatch h⟩⟩) ?_
            exact ihJ82 _ (MN.lt hmnn83 (by omega) (by omega)) I110 L104 x116 rfl hI110 (Chg.cons S89 (Chg.cons (Chg.up S105 (List.forall_mem_cons.mpr ⟨List.mem_of_getElem? (i := 0) rfl, List.forall_mem_cons.mpr ⟨List.mem_of_getElem? (i := 4) rfl, fun _ h => nomatch h⟩⟩)) (Chg.mono (Chg.up S111 (List.forall_mem_cons.mpr ⟨List.mem_of_getElem? (i := 2) rfl, fun _ h => nomatch h⟩)) (by decide)) (by decide)) (by decide)) (by omega) (by omega) (by intro j hj; have h9 := ncz (x := x86) (by omega); exact (Classical.em (j = x86.toNatClampNeg)).elim (fun h8 => by ((rw [h8, show NF I110 r0_3 x86.toNatClampNeg = _ from congrArg Int32.toInt ((congrFun (congrFun hput81 r0_3) _).trans u2_s), em9]; exact hnm))) (fun h8 => by ((rw [show NF I110 r0_3 j = _ from (congrArg Int32.toInt ((congrFun (congrFun hput81 r0_3) j).trans (u2_k h8))).trans (congrFun hb78 j)]; exact ff54_0 j (by omega))))) (by exact (NF.e ((congrFun hput81 r0_2).trans (u2_r n23))).trans (ha78.trans ff54_1)) (by exact (NF.e ((congrFun hput81 r0_4).trans (u2_r (Ne.symm n34)))).trans (hc78.trans ff54_2)) (by omega)
        refine k_istore_n C (lw := [(2, .int x81), (0, .ref r0)]) rfl rfl (Nat.le_of_ble_eq_true rfl) rfl ?_
        refine k_sub S [(0, .ref r0), (2, .int x81)] (List.forall_mem_cons.mpr ⟨List.mem_of_getElem? (i := 1) rfl, List.forall_mem_cons.mpr ⟨List.mem_of_getElem? (i := 0) rfl, fun _ h => nomatch h⟩⟩) ?_
        exact J82 _ I24 L25 x81 rfl hI30 Chg.rf (by omega) (by omega) (by intro j hj; omega) (by exact eT9) (by exact hS52) (by omega)
      refine k_aload_n C rfl rfl rfl ?_
      refine k_iload_n C rfl rfl rfl ?_
      have hk35 := e40; have hw35 := e38; have hm35 := x31
      refine c_VI C (s_X3_isFound_x hS hI30 H_r0 (by omega) (by omega) hU (by rw [e40]; omega) (by rw [e40, z_r0_4, z_r0_1, z_r0_1_0, e38, ff20_1]; exact hsb) (by rw [z_r0_1, z_r0_1_0, e38]; exact hp2)) rfl rfl rfl rfl rfl ⟨_, rfl, rfl, T_r0, Nat.le_of_ble_eq_true rfl⟩ rfl rfl (Nat.le_of_ble_eq_true rfl) (Nat.le_of_ble_eq_true rfl) (Nat.le_of_ble_eq_true rfl) ?_
      rintro x117 I118 L119 ⟨o0x117, o1x117, p0x117, hI118, S120⟩
      try simp only [z_r0_1, z_r0_2, z_r0_3, z_r0_4, z_r0_5, z_r0_1_0, z_r0_1_1, z_r0_1_2, z_r0_1_0_6, z_r0_1_0_7, z_r0_1_0_8, z_r0_1_0_9, z_r0_1_0_10, z_r1_1] at S120
      have e121 := Chg.k S120 T_r0_1_0 (by decide) (by decide) e38
      have e122 := Chg.k S120 T_r1 (by decide) (by decide) e39
      have e123 := Chg.k S120 T_r0 (by decide) (by decide) e40
      have e124 := Chg.k S120 T_r0 (by decide) (by decide) e32
      have gx117 := rg x117
      try simp only [z_r0_1, z_r0_2, z_r0_3, z_r0_4, z_r0_5, z_r0_1_0, z_r0_1_1, z_r0_1_2, z_r0_1_0_6, z_r0_1_0_7, z_r0_1_0_8, z_r0_1_0_9, z_r0_1_0_10, z_r1_1] at p0x117
      try simp only [e38, e39, e40, e32] at p0x117
      try have q0x117 := congrArg Int32.toInt p0x117
      have hfq := p0x117; (try simp only [z_r0_1, z_r0_2, z_r0_3, z_r0_4, z_r0_5, z_r0_1_0, z_r0_1_1, z_r0_1_2, z_r0_1_0_6, z_r0_1_0_7, z_r0_1_0_8, z_r0_1_0_9, z_r0_1_0_10, z_r1_1, hk35, hw35] at hfq); rw [ff20_1] at hfq; have he35 := NF.e (Chg.at S120 (nm_3 (t_nq T_r0_4 T_r0 (by decide)) (Ne.symm n24) n45))
      refine b_if_eq C (t := 46) rfl rfl rfl (fun c125 => ?_) (fun c125 => ?_)
      · skip
        refine z_iinc C (z := 1) (lw := fun x126 => [(2, .int x126), (0, .ref r0)]) rfl rfl rfl (Nat.le_of_ble_eq_true rfl) rfl ⟨by omega, by omega⟩ (fun _ => rfl) (fun x126 ex126 => ?_)
        show V 49 [(2, .int x126), (0, .ref r0)] _ _ _ _
        refine k_goto C (pc2 := 20) rfl rfl ?_
        refine k_sub S [(0, .ref r0), (2, .int x126)] (List.forall_mem_cons.mpr ⟨List.mem_of_getElem? (i := 1) rfl, List.forall_mem_cons.mpr ⟨List.mem_of_getElem? (i := 0) rfl, fun _ h => nomatch h⟩⟩) ?_
        exact ihJ22 _ (MN.lt hmnn23 (by omega) (by omega)) I118 L119 x126 x31 rfl hI118 (Chg.cons S29 (Chg.mono (Chg.up S120 (List.forall_mem_cons.mpr ⟨List.mem_of_getElem? (i := 0) rfl, List.forall_mem_cons.mpr ⟨List.mem_of_getElem? (i := 1) rfl, List.forall_mem_cons.mpr ⟨List.mem_of_getElem? (i := 4) rfl, fun _ h => nomatch h⟩⟩⟩)) (by decide)) (by decide)) (by omega) (by omega) e124 (by omega) (by omega) (by first | exact FDI.n ff20_0 (by omega) hfq (by omega) (ncz (by omega)) (by omega) (by omega) | (rw [NF.e ((congrFun hput43 r0_2).trans (u2_r (t_nq T_r0_2 T_r0 (by decide))))]; exact FDI.y ff20_0 (by omega) hfq (by omega) (ncz (by omega)) (by omega) (by omega) (by omega))) (by first | exact he35.trans ff20_1 | exact (NF.e ((congrFun hput43 r0_4).trans (u2_r (t_nq T_r0_4 T_r0 (by decide))))).trans (he35.trans ff20_1)) (by omega)
      refine k_aload_n C rfl rfl rfl ?_
      refine k_iload_n C rfl rfl rfl ?_
      refine z_pI C rfl rfl rfl T_r0 (Or.inr rfl) rfl (fun I127 uI127 => ?_)
      have hI127 : IX A T I127 := IX.f hI118 T_r0 (boX.tr (by decide) (by decide)) uI127
      have S128 : Chg (SL [r0]) T [(4, 0)] I118 L119 I127 L119 := Chg.f List.mem_cons_self T_r0 uI127
      have e129 := u2_n uI127 (t_nq T_r0_1_0 T_r0 (by decide)) e121
      have e130 := u2_n uI127 (t_nq T_r1 T_r0 (by decide)) e122
      have e131 := u2_j uI127 (by decide) e123
      have e132 := u2_e uI127
      have hput43 := uI127
      refine z_iinc C (z := 1) (lw := fun x133 => [(2, .int x133), (0, .ref r0)]) rfl rfl rfl (Nat.le_of_ble_eq_true rfl) rfl ⟨by omega, by omega⟩ (fun _ => rfl) (fun x133 ex133 => ?_)
      show V 49 [(2, .int x133), (0, .ref r0)] _ _ _ _
      refine k_goto C (pc2 := 20) rfl rfl ?_
      refine k_sub S [(0, .ref r0), (2, .int x133)] (List.forall_mem_cons.mpr ⟨List.mem_of_getElem? (i := 1) rfl, List.forall_mem_cons.mpr ⟨List.mem_of_getElem? (i := 0) rfl, fun _ h => nomatch h⟩⟩) ?_
      exact ihJ22 _ (MN.lt hmnn23 (by omega) (by omega)) I127 L119 x133 x26 rfl hI127 (Chg.cons S29 (Chg.cons (Chg.up S120 (List.forall_mem_cons.mpr ⟨List.mem_of_getElem? (i := 0) rfl, List.forall_mem_cons.mpr ⟨List.mem_of_getElem? (i := 1) rfl, List.forall_mem_cons.mpr ⟨List.mem_of_getElem? (i := 4) rfl, fun _ h => nomatch h⟩⟩⟩)) (Chg.mono (Chg.up S128 (List.forall_mem_cons.mpr ⟨List.mem_of_getElem? (i := 0) rfl, fun _ h => nomatch h⟩)) (by decide)) (by decide)) (by decide)) (by omega) (by omega) e132 (by omega) (by omega) (by first | exact FDI.n ff20_0 (by omega) hfq (by omega) (ncz (by omega)) (by omega) (by omega) | (rw [NF.e ((congrFun hput43 r0_2).trans (u2_r (t_nq T_r0_2 T_r0 (by decide))))]; exact FDI.y ff20_0 (by omega) hfq (by omega) (ncz (by omega)) (by omega) (by omega) (by omega))) (by first | exact he35.trans ff20_1 | exact (NF.e ((congrFun hput43 r0_4).trans (u2_r (t_nq T_r0_4 T_r0 (by decide))))).trans (he35.trans ff20_1)) (by omega)
  refine k_istore_n C (lw := [(2, .int x21), (0, .ref r0), (1, .ref r1)]) rfl rfl (Nat.le_of_ble_eq_true rfl) rfl ?_
  refine k_sub S [(0, .ref r0), (2, .int x21)] (List.forall_mem_cons.mpr ⟨List.mem_of_getElem? (i := 1) rfl, List.forall_mem_cons.mpr ⟨List.mem_of_getElem? (i := 0) rfl, fun _ h => nomatch h⟩⟩) ?_
  exact J22 _ I14 L15 x21 x1 rfl hI14 Chg.rf (by omega) (by omega) e19 (by omega) (by omega) (by exact FDI.z (by omega) (by omega)) (by exact eS9) (by omega)

theorem s_X11_powers_x {d : Nat} {T N : Nat → Nat} {I : IT} {L : LT} {R : RT} {A B : Nat → Prop} {r0 : Nat} {n1 n2 : Int32} (hS : SUB B A) (hI : IX A T I) (H_r0 : (hs_LF T N R A B) r0) (hU : UPR T R) (hp0 : rA R (rA R (rA R r0 9) 1) 0 = (rA R r0 1)) (hp1 : ∀ j : Nat, (j : Int) < (I (rA R r0 1) 1).toInt → BNX I (rA R (FA R (rA R r0 1) j) 1) (I (FA R (rA R r0 1) j) 0).toInt (I (rA R r0 1) 0).toInt) (hp2 : ∀ j : Nat, (j : Int) < (I (rA R r0 1) 1).toInt → (I (FA R (rA R r0 1) j) 0).toInt ≤ 8) (hp3 : PRM (I (rA R r0 1) 0).toInt) : Ex (d + 6) 162 [.ref r0, .int n1, .int n2] (T, N, I, L, R) 2 12 (pW2 [0, 3] T N R (pI T N R (fun x9 I9 L9 => (¬ (n1.toInt < 0 ∨ (I (rA R r0 1) 1).toInt ≤ n1.toInt ∨ 16 ≤ n1.toInt)) ∧ (¬ ((I (FA R (rA R r0 1) n1.toNatClampNeg) 0).toInt = 0 ∨ n2.toInt < -1)) ∧ (PWX x9.toInt (I (rA R r0 1) 0).toInt (I (FA R (rA R r0 1) n1.toNatClampNeg) 0).toInt (BNI (I (FA R (rA R r0 1) n1.toNatClampNeg) 0).toInt) (NF I (rA R (FA R (rA R r0 1) n1.toNatClampNeg) 1)) n2.toInt) ∧ (IX A T I9 ∧ Chg B T [(4, 0), (4, 6), (4, 7)] I L I9 L9))) (fun e9 I9 L9 => (IX A T I9 ∧ Chg B T [(4, 0), (4, 6), (4, 7)] I L I9 L9) ∧ (e9 = 0 → ¬ (n1.toInt < 0 ∨ (I (rA R r0 1) 1).toInt ≤ n1.toInt ∨ 16 ≤ n1.toInt)) ∧ (e9 = 0 → (I (FA R (rA R r0 1) n1.toNatClampNeg) 0).toInt = 0 ∨ n2.toInt < -1) ∧ (e9 = 3 → n1.toInt < 0 ∨ (I (rA R r0 1) 1).toInt ≤ n1.toInt ∨ 16 ≤ n1.toInt))) := by
  refine ⟨_, rfl, Nat.le_of_ble_eq_true rfl, fun V C S => ?_⟩
  show V 0 [(0, .ref r0), (1, .int n1), (2, .int n2)] [] (T, N, I, L, R) 0 0
  have gn1 := rg n1
  have gn2 := rg n2
  obtain ⟨T_r0, A_r0, B_r0, ⟨r0_0, R_r0_0, H_r0_0⟩, ⟨r0_1, R_r0_1, H_r0_1⟩, ⟨r0_2, R_r0_2, H_r0_2⟩, ⟨r0_5, R_r0_5, H_r0_5⟩, ⟨r0_6, R_r0_6, H_r0_6⟩, ⟨r0_7, R_r0_7, H_r0_7⟩, ⟨r0_8, R_r0_8, H_r0_8⟩, ⟨r0_9, R_r0_9, H_r0_9⟩, ⟨r0_10, R_r0_10, H_r0_10⟩, ⟨r0_11, R_r0_11, H_r0_11⟩, ⟨r0_12, R_r0_12, H_r0_12⟩, ⟨r0_13, R_r0_13, H_r0_13⟩⟩ := id H_r0
  have z_r0_0 : rA R r0 0 = r0_0 := rA_e R_r0_0
  have z_r0_1 : rA R r0 1 = r0_1 := rA_e R_r0_1
  have z_r0_2 : rA R r0 2 = r0_2 := rA_e R_r0_2
  have z_r0_5 : rA R r0 5 = r0_5 := rA_e R_r0_5
  have z_r0_6 : rA R r0 6 = r0_6 := rA_e R_r0_6
  have z_r0_7 : rA R r0 7 = r0_7 := rA_e R_r0_7
  have z_r0_8 : rA R r0 8 = r0_8 := rA_e R_r0_8
  have z_r0_9 : rA R r0 9 = r0_9 := rA_e R_r0_9
  have z_r0_10 : rA R r0 10 = r0_10 := rA_e R_r0_10
  have z_r0_11 : rA R r0 11 = r0_11 := rA_e R_r0_11
  have z_r0_12 : rA R r0 12 = r0_12 := rA_e R_r0_12
  have z_r0_13 : rA R r0 13 = r0_13 := rA_e R_r0_13
  obtain ⟨T_r0_1, A_r0_1, B_r0_1, ⟨r0_1_6, R_r0_1_6, H_r0_1_6⟩, ⟨r0_1_7, R_r0_1_7, H_r0_1_7⟩, ⟨r0_1_8, R_r0_1_8, H_r0_1_8⟩, ⟨r0_1_9, R_r0_1_9, H_r0_1_9⟩, ⟨r0_1_10, R_r0_1_10, H_r0_1_10⟩⟩ := id H_r0_1
  have z_r0_1_6 : rA R r0_1 6 = r0_1_6 := rA_e R_r0_1_6
  have z_r0_1_7 : rA R r0_1 7 = r0_1_7 := rA_e R_r0_1_7
  have z_r0_1_8 : rA R r0_1 8 = r0_1_8 := rA_e R_r0_1_8
  have z_r0_1_9 : rA R r0_1 9 = r0_1_9 := rA_e R_r0_1_9
  have z_r0_1_10 : rA R r0_1 10 = r0_1_10 := rA_e R_r0_1_10
  obtain ⟨T_r0_9, A_r0_9, B_r0_9, ⟨r0_9_1, R_r0_9_1, H_r0_9_1⟩, ⟨r0_9_2, R_r0_9_2, H_r0_9_2⟩, ⟨r0_9_3, R_r0_9_3, H_r0_9_3⟩, ⟨r0_9_4, R_r0_9_4, H_r0_9_4⟩, ⟨r0_9_5, R_r0_9_5, H_r0_9_5⟩⟩ := id H_r0_9
  have z_r0_9_1 : rA R r0_9 1 = r0_9_1 := rA_e R_r0_9_1
  have z_r0_9_2 : rA R r0_9 2 = r0_9_2 := rA_e R_r0_9_2
  have z_r0_9_3 : rA R r0_9 3 = r0_9_3 := rA_e R_r0_9_3
  have z_r0_9_4 : rA R r0_9 4 = r0_9_4 := rA_e R_r0_9_4
  have z_r0_9_5 : rA R r0_9 5 = r0_9_5 := rA_e R_r0_9_5
  obtain ⟨T_r0_9_2, N_r0_9_2, A_r0_9_2⟩ := id H_r0_9_2
  obtain ⟨T_r0_9_3, N_r0_9_3, A_r0_9_3⟩ := id H_r0_9_3
  obtain ⟨T_r0_9_4, N_r0_9_4, A_r0_9_4⟩ := id H_r0_9_4
  obtain ⟨T_r0_9_5, N_r0_9_5, A_r0_9_5⟩ := id H_r0_9_5
  have hG := GS.of H_r0_1
  obtain ⟨T_r0_1_8, N_r0_1_8, A_r0_1_8, E_r0_1_8⟩ := id H_r0_1_8
  obtain ⟨T_r0_9_1, A_r0_9_1, B_r0_9_1, ⟨r0_9_1_0, R_r0_9_1_0, H_r0_9_1_0⟩, ⟨r0_9_1_1, R_r0_9_1_1, H_r0_9_1_1⟩, ⟨r0_9_1_2, R_r0_9_1_2, H_r0_9_1_2⟩⟩ := id H_r0_9_1
  have z_r0_9_1_0 : rA R r0_9_1 0 = r0_9_1_0 := rA_e R_r0_9_1_0
  have z_r0_9_1_1 : rA R r0_9_1 1 = r0_9_1_1 := rA_e R_r0_9_1_1
  have z_r0_9_1_2 : rA R r0_9_1 2 = r0_9_1_2 := rA_e R_r0_9_1_2
  obtain ⟨T_r0_9_1_0, A_r0_9_1_0, B_r0_9_1_0, ⟨r0_9_1_0_6, R_r0_9_1_0_6, H_r0_9_1_0_6⟩, ⟨r0_9_1_0_7, R_r0_9_1_0_7, H_r0_9_1_0_7⟩, ⟨r0_9_1_0_8, R_r0_9_1_0_8, H_r0_9_1_0_8⟩, ⟨r0_9_1_0_9, R_r0_9_1_0_9, H_r0_9_1_0_9⟩, ⟨r0_9_1_0_10, R_r0_9_1_0_10, H_r0_9_1_0_10⟩⟩ := id H_r0_9_1_0
  have z_r0_9_1_0_6 : rA R r0_9_1_0 6 = r0_9_1_0_6 := rA_e R_r0_9_1_0_6
  have z_r0_9_1_0_7 : rA R r0_9_1_0 7 = r0_9_1_0_7 := rA_e R_r0_9_1_0_7
  have z_r0_9_1_0_8 : rA R r0_9_1_0 8 = r0_9_1_0_8 := rA_e R_r0_9_1_0_8
  have z_r0_9_1_0_9 : rA R r0_9_1_0 9 = r0_9_1_0_9 := rA_e R_r0_9_1_0_9
  have z_r0_9_1_0_10 : rA R r0_9_1_0 10 = r0_9_1_0_10 := rA_e R_r0_9_1_0_10
  try simp only [z_r0_0, z_r0_1, z_r0_2, z_r0_5, z_r0_6, z_r0_7, z_r0_8, z_r0_9, z_r0_10, z_r0_11, z_r0_12, z_r0_13, z_r0_1_6, z_r0_1_7, z_r0_1_8, z_r0_1_9, z_r0_1_10, z_r0_9_1, z_r0_9_2, z_r0_9_3, z_r0_9_4, z_r0_9_5, z_r0_9_1_0, z_r0_9_1_1, z_r0_9_1_2, z_r0_9_1_0_6, z_r0_9_1_0_7, z_r0_9_1_0_8, z_r0_9_1_0_9, z_r0_9_1_0_10] at hp0
  try simp only [z_r0_0, z_r0_1, z_r0_2, z_r0_5, z_r0_6, z_r0_7, z_r0_8, z_r0_9, z_r0_10, z_r0_11, z_r0_12, z_r0_13, z_r0_1_6, z_r0_1_7, z_r0_1_8, z_r0_1_9, z_r0_1_10, z_r0_9_1, z_r0_9_2, z_r0_9_3, z_r0_9_4, z_r0_9_5, z_r0_9_1_0, z_r0_9_1_1, z_r0_9_1_2, z_r0_9_1_0_6, z_r0_9_1_0_7, z_r0_9_1_0_8, z_r0_9_1_0_9, z_r0_9_1_0_10] at hp1
  try simp only [z_r0_0, z_r0_1, z_r0_2, z_r0_5, z_r0_6, z_r0_7, z_r0_8, z_r0_9, z_r0_10, z_r0_11, z_r0_12, z_r0_13, z_r0_1_6, z_r0_1_7, z_r0_1_8, z_r0_1_9, z_r0_1_10, z_r0_9_1, z_r0_9_2, z_r0_9_3, z_r0_9_4, z_r0_9_5, z_r0_9_1_0, z_r0_9_1_1, z_r0_9_1_2, z_r0_9_1_0_6, z_r0_9_1_0_7, z_r0_9_1_0_8, z_r0_9_1_0_9, z_r0_9_1_0_10] at hp2
  try simp only [z_r0_0, z_r0_1, z_r0_2, z_r0_5, z_r0_6, z_r0_7, z_r0_8, z_r0_9, z_r0_10, z_r0_11, z_r0_12, z_r0_13, z_r0_1_6, z_r0_1_7, z_r0_1_8, z_r0_1_9, z_r0_1_10, z_r0_9_1, z_r0_9_2, z_r0_9_3, z_r0_9_4, z_r0_9_5, z_r0_9_1_0, z_r0_9_1_1, z_r0_9_1_2, z_r0_9_1_0_6, z_r0_9_1_0_7, z_r0_9_1_0_8, z_r0_9_1_0_9, z_r0_9_1_0_10] at hp3
  obtain ⟨w_r0_1_0, k0_r0_1_0⟩ : ∃ x, I r0_1 0 = x := ⟨_, rfl⟩
  have gw_r0_1_0 := rg w_r0_1_0
  have ow_r0_1_0 := IX.p hI A_r0_1 T_r0_1 k0_r0_1_0
  try simp only [k0_r0_1_0] at hp0
  try simp only [k0_r0_1_0] at hp1
  try simp only [k0_r0_1_0] at hp2
  try simp only [k0_r0_1_0] at hp3
  refine k_aload_n C rfl rfl rfl ?_
  refine k_iload_n C rfl rfl rfl ?_
  refine w2_VR C (s_X11_toldForm_x hS hI H_r0) rfl rfl rfl rfl rfl ⟨_, rfl, rfl, T_r0, Nat.le_of_ble_eq_true rfl⟩ rfl rfl (Nat.le_of_ble_eq_true rfl) (Nat.le_of_ble_eq_true rfl) (Nat.le_of_ble_eq_true rfl) (by decide) (fun e9 he I9 L9 hq => by obtain ⟨⟨rfl, rfl⟩, hq⟩ := hq; exact Or.inl ⟨rfl, Or.inr ⟨e9, _, _, (by decide : ∀ z ∈ [3], z ∈ [0, 3]) e9 he, rfl, rfl, ⟨⟨hI, Chg.rf⟩, (fun h9 => by subst h9; exact absurd he (by decide)), (fun h9 => by subst h9; exact absurd he (by decide)), (fun h9 => by subst h9; first | exact absurd he (by decide) | (have hx := hq rfl; exact hx))⟩⟩⟩) ?_
  rintro yy1 _ _ ⟨hyy1, p0yy1, p1yy1, rfl, rfl⟩
  obtain ⟨rr2, err2, H_rr2⟩ := hyy1
  subst err2
  try simp only [z_r0_0, z_r0_1, z_r0_2, z_r0_5, z_r0_6, z_r0_7, z_r0_8, z_r0_9, z_r0_10, z_r0_11, z_r0_12, z_r0_13, z_r0_1_6, z_r0_1_7, z_r0_1_8, z_r0_1_9, z_r0_1_10, z_r0_9_1, z_r0_9_2, z_r0_9_3, z_r0_9_4, z_r0_9_5, z_r0_9_1_0, z_r0_9_1_1, z_r0_9_1_2, z_r0_9_1_0_6, z_r0_9_1_0_7, z_r0_9_1_0_8, z_r0_9_1_0_9, z_r0_9_1_0_10] at p0yy1
  try simp only [z_r0_0, z_r0_1, z_r0_2, z_r0_5, z_r0_6, z_r0_7, z_r0_8, z_r0_9, z_r0_10, z_r0_11, z_r0_12, z_r0_13, z_r0_1_6, z_r0_1_7, z_r0_1_8, z_r0_1_9, z_r0_1_10, z_r0_9_1, z_r0_9_2, z_r0_9_3, z_r0_9_4, z_r0_9_5, z_r0_9_1_0, z_r0_9_1_1, z_r0_9_1_2, z_r0_9_1_0_6, z_r0_9_1_0_7, z_r0_9_1_0_8, z_r0_9_1_0_9, z_r0_9_1_0_10] at p1yy1
  try simp only [k0_r0_1_0] at p0yy1
  try have q0yy1 := congrArg Int32.toInt p0yy1
  try simp only [k0_r0_1_0] at p1yy1
  try have q1yy1 := congrArg Int32.toInt p1yy1
  have hF := p0yy1.symm; have hF2 := p1yy1; have oF := FA_e z_r0_1_8 hF; have nF := ncn (n := 16) (j := n1) (by omega) (by omega); have nF1 := ncz (x := n1) (by omega); have fF := FO.of H_rr2; have TF := fF.1; have hd1 := hp2 n1.toNatClampNeg (by omega); rw [oF] at hd1
  refine k_astore_n C (lw := [(3, .ref rr2), (0, .ref r0), (1, .int n1), (2, .int n2)]) rfl rfl (Nat.le_of_ble_eq_true rfl) rfl ?_
  refine k_aload_n C rfl rfl rfl ?_
  obtain ⟨T_rr2, A_rr2, ⟨rr2_1, R_rr2_1, H_rr2_1⟩⟩ := id H_rr2
  have z_rr2_1 : rA R rr2 1 = rr2_1 := rA_e R_rr2_1
  refine z_gI C rfl rfl rfl T_rr2 rfl (fun x3 ex3 => ?_)
  have gx3 := rg x3
  have ox3 := IX.deg hI A_rr2 T_rr2 ex3
  have eH := congrArg Int32.toInt (show I (FA R r0_1 n1.toNatClampNeg) 0 = x3 from by rw [oF]; assumption); rw [oF] at eH; rw [eH] at hd1
  refine b_if_eq C (t := 18) rfl rfl rfl (fun c4 => ?_) (fun c4 => ?_)
  · skip
    exact k_throw C rfl rfl rfl rfl rfl rfl (Nat.le_of_ble_eq_true rfl) (Nat.le_of_ble_eq_true rfl) (Nat.le_of_ble_eq_true rfl) (Or.inr ⟨_, _, _, (by decide : 0 ∈ [0, 3]), rfl, rfl, ⟨⟨hI, Chg.rf⟩, (fun _ => by (try simp only [z_r0_0, z_r0_1, z_r0_2, z_r0_5, z_r0_6, z_r0_7, z_r0_8, z_r0_9, z_r0_10, z_r0_11, z_r0_12, z_r0_13, z_r0_1_6, z_r0_1_7, z_r0_1_8, z_r0_1_9, z_r0_1_10, z_r0_9_1, z_r0_9_2, z_r0_9_3, z_r0_9_4, z_r0_9_5, z_r0_9_1_0, z_r0_9_1_1, z_r0_9_1_2, z_r0_9_1_0_6, z_r0_9_1_0_7, z_r0_9_1_0_8, z_r0_9_1_0_9, z_r0_9_1_0_10, z_rr2_1]); omega), (fun _ => by (try simp only [z_r0_0, z_r0_1, z_r0_2, z_r0_5, z_r0_6, z_r0_7, z_r0_8, z_r0_9, z_r0_10, z_r0_11, z_r0_12, z_r0_13, z_r0_1_6, z_r0_1_7, z_r0_1_8, z_r0_1_9, z_r0_1_10, z_r0_9_1, z_r0_9_2, z_r0_9_3, z_r0_9_4, z_r0_9_5, z_r0_9_1_0, z_r0_9_1_1, z_r0_9_1_2, z_r0_9_1_0_6, z_r0_9_1_0_7, z_r0_9_1_0_8, z_r0_9_1_0_9, z_r0_9_1_0_10, z_rr2_1]); rw [oF, eH]; omega), (fun h9 => absurd h9 (by decide))⟩⟩)
  refine k_iload_n C rfl rfl rfl ?_
  refine z_iconst C (z := -1) rfl rfl rfl (fun x5 ex5 => ?_)
  refine b_icmp_ge C (t := 26) rfl rfl rfl (fun c6 => ?_) (fun c6 => ?_)
  · skip
    refine k_aload_n C rfl rfl rfl ?_
    refine g_R C rfl rfl rfl T_r0 rfl R_r0_9 ?_
    refine k_aload_n C rfl rfl rfl ?_
    have hw31 := k0_r0_1_0
    refine c_VV C (s_X3_find_x hS hI H_r0_9 H_rr2 hU (by rw [eH]; omega) (by rw [z_r0_9_1, z_r0_9_1_0, hp0, ← oF, k0_r0_1_0]; exact hp1 _ (by omega)) (by rw [z_r0_9_1, z_r0_9_1_0, hp0, k0_r0_1_0]; exact hp3)) rfl rfl rfl rfl rfl ⟨_, rfl, rfl, T_r0_9, Nat.le_of_ble_eq_true rfl⟩ rfl rfl (Nat.le_of_ble_eq_true rfl) (Nat.le_of_ble_eq_true rfl) (Nat.le_of_ble_eq_true rfl) ?_
    rintro I8 L9 ⟨p0v7, p1v7, hI8, S10⟩
    try simp only [z_r0_0, z_r0_1, z_r0_2, z_r0_5, z_r0_6, z_r0_7, z_r0_8, z_r0_9, z_r0_10, z_r0_11, z_r0_12, z_r0_13, z_r0_1_6, z_r0_1_7, z_r0_1_8, z_r0_1_9, z_r0_1_10, z_r0_9_1, z_r0_9_2, z_r0_9_3, z_r0_9_4, z_r0_9_5, z_r0_9_1_0, z_r0_9_1_1, z_r0_9_1_2, z_r0_9_1_0_6, z_r0_9_1_0_7, z_r0_9_1_0_8, z_r0_9_1_0_9, z_r0_9_1_0_10, z_rr2_1] at S10
    have e11 := Chg.k S10 T_r0_1 (by decide) (by decide) k0_r0_1_0
    have e12 := Chg.k S10 T_rr2 (by decide) (by decide) ex3
    obtain ⟨x13, e14⟩ : ∃ x, I8 r0_9 0 = x := ⟨_, rfl⟩
    have gx13 := rg x13
    try simp only [z_r0_0, z_r0_1, z_r0_2, z_r0_5, z_r0_6, z_r0_7, z_r0_8, z_r0_9, z_r0_10, z_r0_11, z_r0_12, z_r0_13, z_r0_1_6, z_r0_1_7, z_r0_1_8, z_r0_1_9, z_r0_1_10, z_r0_9_1, z_r0_9_2, z_r0_9_3, z_r0_9_4, z_r0_9_5, z_r0_9_1_0, z_r0_9_1_1, z_r0_9_1_2, z_r0_9_1_0_6, z_r0_9_1_0_7, z_r0_9_1_0_8, z_r0_9_1_0_9, z_r0_9_1_0_10, z_rr2_1] at p0v7
    try simp only [z_r0_0, z_r0_1, z_r0_2, z_r0_5, z_r0_6, z_r0_7, z_r0_8, z_r0_9, z_r0_10, z_r0_11, z_r0_12, z_r0_13, z_r0_1_6, z_r0_1_7, z_r0_1_8, z_r0_1_9, z_r0_1_10, z_r0_9_1, z_r0_9_2, z_r0_9_3, z_r0_9_4, z_r0_9_5, z_r0_9_1_0, z_r0_9_1_1, z_r0_9_1_2, z_r0_9_1_0_6, z_r0_9_1_0_7, z_r0_9_1_0_8, z_r0_9_1_0_9, z_r0_9_1_0_10, z_rr2_1] at p1v7
    try simp only [k0_r0_1_0, ex3, e14] at p0v7
    try have q0v7 := congrArg Int32.toInt p0v7
    try simp only [k0_r0_1_0, ex3, e14] at p1v7
    try have q1v7 := congrArg Int32.toInt p1v7
    have hfb := p0v7; have hfr := p1v7; (try simp only [z_r0_0, z_r0_1, z_r0_2, z_r0_5, z_r0_6, z_r0_7, z_r0_8, z_r0_9, z_r0_10, z_r0_11, z_r0_12, z_r0_13, z_r0_1_6, z_r0_1_7, z_r0_1_8, z_r0_1_9, z_r0_1_10, z_r0_9_1, z_r0_9_2, z_r0_9_3, z_r0_9_4, z_r0_9_5, z_r0_9_1_0, z_r0_9_1_1, z_r0_9_1_2, z_r0_9_1_0_6, z_r0_9_1_0_7, z_r0_9_1_0_8, z_r0_9_1_0_9, z_r0_9_1_0_10, z_rr2_1, e14] at hfb); (try simp only [z_r0_0, z_r0_1, z_r0_2, z_r0_5, z_r0_6, z_r0_7, z_r0_8, z_r0_9, z_r0_10, z_r0_11, z_r0_12, z_r0_13, z_r0_1_6, z_r0_1_7, z_r0_1_8, z_r0_1_9, z_r0_1_10, z_r0_9_1, z_r0_9_2, z_r0_9_3, z_r0_9_4, z_r0_9_5, z_r0_9_1_0, z_r0_9_1_1, z_r0_9_1_2, z_r0_9_1_0_6, z_r0_9_1_0_7, z_r0_9_1_0_8, z_r0_9_1_0_9, z_r0_9_1_0_10, z_rr2_1, e14, hp0, hw31, eH] at hfr)
    refine k_iload_n C rfl rfl rfl ?_
    refine z_iconst C (z := -1) rfl rfl rfl (fun x15 ex15 => ?_)
    refine b_icmp_ne C (t := 47) rfl rfl rfl (fun c16 => ?_) (fun c16 => ?_)
    · skip
      refine k_iload_n C rfl rfl rfl ?_
      refine z_bipush C (z := 10) rfl rfl rfl (fun x17 ex17 => ?_)
      refine b_icmp_ge C (t := 64) rfl rfl rfl (fun c18 => ?_) (fun c18 => ?_)
      · skip
        refine k_aload_n C rfl rfl rfl ?_
        refine g_R C rfl rfl rfl T_r0 rfl R_r0_9 ?_
        refine k_iload_n C rfl rfl rfl ?_
        refine z_bipush C (z := 10) rfl rfl rfl (fun x19 ex19 => ?_)
        refine z_isub C rfl rfl ⟨by omega, by omega⟩ (fun x20 ex20 => ?_)
        refine c_VI C (s_X3_numberAt_x hS hI8 H_r0_9 (by rw [e14]; omega)) rfl rfl rfl rfl rfl ⟨_, rfl, rfl, T_r0_9, Nat.le_of_ble_eq_true rfl⟩ rfl rfl (Nat.le_of_ble_eq_true rfl) (Nat.le_of_ble_eq_true rfl) (Nat.le_of_ble_eq_true rfl) ?_
        rintro x21 _ _ ⟨p0x21, rfl, rfl⟩
        have gx21 := rg x21
        try simp only [z_r0_0, z_r0_1, z_r0_2, z_r0_5, z_r0_6, z_r0_7, z_r0_8, z_r0_9, z_r0_10, z_r0_11, z_r0_12, z_r0_13, z_r0_1_6, z_r0_1_7, z_r0_1_8, z_r0_1_9, z_r0_1_10, z_r0_9_1, z_r0_9_2, z_r0_9_3, z_r0_9_4, z_r0_9_5, z_r0_9_1_0, z_r0_9_1_1, z_r0_9_1_2, z_r0_9_1_0_6, z_r0_9_1_0_7, z_r0_9_1_0_8, z_r0_9_1_0_9, z_r0_9_1_0_10, z_rr2_1] at p0x21
        try simp only [e11, e12, e14] at p0x21
        try have q0x21 := congrArg Int32.toInt p0x21
        have hnt := p0x21; (try simp only [z_r0_0, z_r0_1, z_r0_2, z_r0_5, z_r0_6, z_r0_7, z_r0_8, z_r0_9, z_r0_10, z_r0_11, z_r0_12, z_r0_13, z_r0_1_6, z_r0_1_7, z_r0_1_8, z_r0_1_9, z_r0_1_10, z_r0_9_1, z_r0_9_2, z_r0_9_3, z_r0_9_4, z_r0_9_5, z_r0_9_1_0, z_r0_9_1_1, z_r0_9_1_2, z_r0_9_1_0_6, z_r0_9_1_0_7, z_r0_9_1_0_8, z_r0_9_1_0_9, z_r0_9_1_0_10, z_rr2_1, e14] at hnt)
        exact k_iret C rfl (Or.inl rfl) (Nat.le_of_ble_eq_true rfl) (Nat.le_of_ble_eq_true rfl) (Or.inl ⟨_, _, _, rfl, rfl, by (try simp only [z_r0_0, z_r0_1, z_r0_2, z_r0_5, z_r0_6, z_r0_7, z_r0_8, z_r0_9, z_r0_10, z_r0_11, z_r0_12, z_r0_13, z_r0_1_6, z_r0_1_7, z_r0_1_8, z_r0_1_9, z_r0_1_10, z_r0_9_1, z_r0_9_2, z_r0_9_3, z_r0_9_4, z_r0_9_5, z_r0_9_1_0, z_r0_9_1_1, z_r0_9_1_2, z_r0_9_1_0_6, z_r0_9_1_0_7, z_r0_9_1_0_8, z_r0_9_1_0_9, z_r0_9_1_0_10, z_rr2_1]); omega, by (try simp only [z_r0_0, z_r0_1, z_r0_2, z_r0_5, z_r0_6, z_r0_7, z_r0_8, z_r0_9, z_r0_10, z_r0_11, z_r0_12, z_r0_13, z_r0_1_6, z_r0_1_7, z_r0_1_8, z_r0_1_9, z_r0_1_10, z_r0_9_1, z_r0_9_2, z_r0_9_3, z_r0_9_4, z_r0_9_5, z_r0_9_1_0, z_r0_9_1_1, z_r0_9_1_2, z_r0_9_1_0_6, z_r0_9_1_0_7, z_r0_9_1_0_8, z_r0_9_1_0_9, z_r0_9_1_0_10, z_rr2_1]); rw [oF, eH]; omega, by (try simp only [z_r0_0, z_r0_1, z_r0_2, z_r0_5, z_r0_6, z_r0_7, z_r0_8, z_r0_9, z_r0_10, z_r0_11, z_r0_12, z_r0_13, z_r0_1_6, z_r0_1_7, z_r0_1_8, z_r0_1_9, z_r0_1_10, z_r0_9_1, z_r0_9_2, z_r0_9_3, z_r0_9_4, z_r0_9_5, z_r0_9_1_0, z_r0_9_1_1, z_r0_9_1_2, z_r0_9_1_0_6, z_r0_9_1_0_7, z_r0_9_1_0_8, z_r0_9_1_0_9, z_r0_9_1_0_10, z_rr2_1]); rw [oF]; (try simp only [z_r0_0, z_r0_1, z_r0_2, z_r0_5, z_r0_6, z_r0_7, z_r0_8, z_r0_9, z_r0_10, z_r0_11, z_r0_12, z_r0_13, z_r0_1_6, z_r0_1_7, z_r0_1_8, z_r0_1_9, z_r0_1_10, z_r0_9_1, z_r0_9_2, z_r0_9_3, z_r0_9_4, z_r0_9_5, z_r0_9_1_0, z_r0_9_1_1, z_r0_9_1_2, z_r0_9_1_0_6, z_r0_9_1_0_7, z_r0_9_1_0_8, z_r0_9_1_0_9, z_r0_9_1_0_10, z_rr2_1]); rw [k0_r0_1_0, eH]; first | exact PWX.of hfr (by omega) (Or.inr (Or.inl ⟨by omega, by omega, hpt⟩)) | exact PWX.of hfr (by omega) (Or.inr (Or.inr ⟨by omega, PTA.e hnt (by omega)⟩)), hI8, (Chg.mono (Chg.up S10 (sl_5 (B_r0_9) (A_r0_9_2) (A_r0_9_3) (A_r0_9_4) (A_r0_9_5))) (by decide))⟩)
      refine k_aload_n C rfl rfl rfl ?_
      refine g_R C rfl rfl rfl T_r0 rfl R_r0_9 ?_
      refine k_iload_n C rfl rfl rfl ?_
      refine c_VI C (s_X3_pointAt_x hS hI8 H_r0_9 (by rw [e14]; omega)) rfl rfl rfl rfl rfl ⟨_, rfl, rfl, T_r0_9, Nat.le_of_ble_eq_true rfl⟩ rfl rfl (Nat.le_of_ble_eq_true rfl) (Nat.le_of_ble_eq_true rfl) (Nat.le_of_ble_eq_true rfl) ?_
      rintro x22 _ _ ⟨p0x22, rfl, rfl⟩
      have gx22 := rg x22
      try simp only [z_r0_0, z_r0_1, z_r0_2, z_r0_5, z_r0_6, z_r0_7, z_r0_8, z_r0_9, z_r0_10, z_r0_11, z_r0_12, z_r0_13, z_r0_1_6, z_r0_1_7, z_r0_1_8, z_r0_1_9, z_r0_1_10, z_r0_9_1, z_r0_9_2, z_r0_9_3, z_r0_9_4, z_r0_9_5, z_r0_9_1_0, z_r0_9_1_1, z_r0_9_1_2, z_r0_9_1_0_6, z_r0_9_1_0_7, z_r0_9_1_0_8, z_r0_9_1_0_9, z_r0_9_1_0_10, z_rr2_1] at p0x22
      try simp only [e11, e12, e14] at p0x22
      try have q0x22 := congrArg Int32.toInt p0x22
      have hpt := p0x22; (try simp only [z_r0_0, z_r0_1, z_r0_2, z_r0_5, z_r0_6, z_r0_7, z_r0_8, z_r0_9, z_r0_10, z_r0_11, z_r0_12, z_r0_13, z_r0_1_6, z_r0_1_7, z_r0_1_8, z_r0_1_9, z_r0_1_10, z_r0_9_1, z_r0_9_2, z_r0_9_3, z_r0_9_4, z_r0_9_5, z_r0_9_1_0, z_r0_9_1_1, z_r0_9_1_2, z_r0_9_1_0_6, z_r0_9_1_0_7, z_r0_9_1_0_8, z_r0_9_1_0_9, z_r0_9_1_0_10, z_rr2_1, e14] at hpt)
      refine k_goto C (pc2 := 75) rfl rfl ?_
      exact k_iret C rfl (Or.inl rfl) (Nat.le_of_ble_eq_true rfl) (Nat.le_of_ble_eq_true rfl) (Or.inl ⟨_, _, _, rfl, rfl, by (try simp only [z_r0_0, z_r0_1, z_r0_2, z_r0_5, z_r0_6, z_r0_7, z_r0_8, z_r0_9, z_r0_10, z_r0_11, z_r0_12, z_r0_13, z_r0_1_6, z_r0_1_7, z_r0_1_8, z_r0_1_9, z_r0_1_10, z_r0_9_1, z_r0_9_2, z_r0_9_3, z_r0_9_4, z_r0_9_5, z_r0_9_1_0, z_r0_9_1_1, z_r0_9_1_2, z_r0_9_1_0_6, z_r0_9_1_0_7, z_r0_9_1_0_8, z_r0_9_1_0_9, z_r0_9_1_0_10, z_rr2_1]); omega, by (try simp only [z_r0_0, z_r0_1, z_r0_2, z_r0_5, z_r0_6, z_r0_7, z_r0_8, z_r0_9, z_r0_10, z_r0_11, z_r0_12, z_r0_13, z_r0_1_6, z_r0_1_7, z_r0_1_8, z_r0_1_9, z_r0_1_10, z_r0_9_1, z_r0_9_2, z_r0_9_3, z_r0_9_4, z_r0_9_5, z_r0_9_1_0, z_r0_9_1_1, z_r0_9_1_2, z_r0_9_1_0_6, z_r0_9_1_0_7, z_r0_9_1_0_8, z_r0_9_1_0_9, z_r0_9_1_0_10, z_rr2_1]); rw [oF, eH]; omega, by (try simp only [z_r0_0, z_r0_1, z_r0_2, z_r0_5, z_r0_6, z_r0_7, z_r0_8, z_r0_9, z_r0_10, z_r0_11, z_r0_12, z_r0_13, z_r0_1_6, z_r0_1_7, z_r0_1_8, z_r0_1_9, z_r0_1_10, z_r0_9_1, z_r0_9_2, z_r0_9_3, z_r0_9_4, z_r0_9_5, z_r0_9_1_0, z_r0_9_1_1, z_r0_9_1_2, z_r0_9_1_0_6, z_r0_9_1_0_7, z_r0_9_1_0_8, z_r0_9_1_0_9, z_r0_9_1_0_10, z_rr2_1]); rw [oF]; (try simp only [z_r0_0, z_r0_1, z_r0_2, z_r0_5, z_r0_6, z_r0_7, z_r0_8, z_r0_9, z_r0_10, z_r0_11, z_r0_12, z_r0_13, z_r0_1_6, z_r0_1_7, z_r0_1_8, z_r0_1_9, z_r0_1_10, z_r0_9_1, z_r0_9_2, z_r0_9_3, z_r0_9_4, z_r0_9_5, z_r0_9_1_0, z_r0_9_1_1, z_r0_9_1_2, z_r0_9_1_0_6, z_r0_9_1_0_7, z_r0_9_1_0_8, z_r0_9_1_0_9, z_r0_9_1_0_10, z_rr2_1]); rw [k0_r0_1_0, eH]; first | exact PWX.of hfr (by omega) (Or.inr (Or.inl ⟨by omega, by omega, hpt⟩)) | exact PWX.of hfr (by omega) (Or.inr (Or.inr ⟨by omega, PTA.e hnt (by omega)⟩)), hI8, (Chg.mono (Chg.up S10 (sl_5 (B_r0_9) (A_r0_9_2) (A_r0_9_3) (A_r0_9_4) (A_r0_9_5))) (by decide))⟩)
    refine k_aload_n C rfl rfl rfl ?_
    refine g_R C rfl rfl rfl T_r0 rfl R_r0_9 ?_
    refine g_I C rfl rfl rfl T_r0_9 rfl e14 ?_
    exact k_iret C rfl (Or.inl rfl) (Nat.le_of_ble_eq_true rfl) (Nat.le_of_ble_eq_true rfl) (Or.inl ⟨_, _, _, rfl, rfl, by (try simp only [z_r0_0, z_r0_1, z_r0_2, z_r0_5, z_r0_6, z_r0_7, z_r0_8, z_r0_9, z_r0_10, z_r0_11, z_r0_12, z_r0_13, z_r0_1_6, z_r0_1_7, z_r0_1_8, z_r0_1_9, z_r0_1_10, z_r0_9_1, z_r0_9_2, z_r0_9_3, z_r0_9_4, z_r0_9_5, z_r0_9_1_0, z_r0_9_1_1, z_r0_9_1_2, z_r0_9_1_0_6, z_r0_9_1_0_7, z_r0_9_1_0_8, z_r0_9_1_0_9, z_r0_9_1_0_10, z_rr2_1]); omega, by (try simp only [z_r0_0, z_r0_1, z_r0_2, z_r0_5, z_r0_6, z_r0_7, z_r0_8, z_r0_9, z_r0_10, z_r0_11, z_r0_12, z_r0_13, z_r0_1_6, z_r0_1_7, z_r0_1_8, z_r0_1_9, z_r0_1_10, z_r0_9_1, z_r0_9_2, z_r0_9_3, z_r0_9_4, z_r0_9_5, z_r0_9_1_0, z_r0_9_1_1, z_r0_9_1_2, z_r0_9_1_0_6, z_r0_9_1_0_7, z_r0_9_1_0_8, z_r0_9_1_0_9, z_r0_9_1_0_10, z_rr2_1]); rw [oF, eH]; omega, by (try simp only [z_r0_0, z_r0_1, z_r0_2, z_r0_5, z_r0_6, z_r0_7, z_r0_8, z_r0_9, z_r0_10, z_r0_11, z_r0_12, z_r0_13, z_r0_1_6, z_r0_1_7, z_r0_1_8, z_r0_1_9, z_r0_1_10, z_r0_9_1, z_r0_9_2, z_r0_9_3, z_r0_9_4, z_r0_9_5, z_r0_9_1_0, z_r0_9_1_1, z_r0_9_1_2, z_r0_9_1_0_6, z_r0_9_1_0_7, z_r0_9_1_0_8, z_r0_9_1_0_9, z_r0_9_1_0_10, z_rr2_1]); rw [oF]; (try simp only [z_r0_0, z_r0_1, z_r0_2, z_r0_5, z_r0_6, z_r0_7, z_r0_8, z_r0_9, z_r0_10, z_r0_11, z_r0_12, z_r0_13, z_r0_1_6, z_r0_1_7, z_r0_1_8, z_r0_1_9, z_r0_1_10, z_r0_9_1, z_r0_9_2, z_r0_9_3, z_r0_9_4, z_r0_9_5, z_r0_9_1_0, z_r0_9_1_1, z_r0_9_1_2, z_r0_9_1_0_6, z_r0_9_1_0_7, z_r0_9_1_0_8, z_r0_9_1_0_9, z_r0_9_1_0_10, z_rr2_1]); rw [k0_r0_1_0, eH]; exact PWX.of hfr (by omega) (Or.inl ⟨by omega, by omega⟩), hI8, (Chg.mono (Chg.up S10 (sl_5 (B_r0_9) (A_r0_9_2) (A_r0_9_3) (A_r0_9_4) (A_r0_9_5))) (by decide))⟩)
  exact k_throw C rfl rfl rfl rfl rfl rfl (Nat.le_of_ble_eq_true rfl) (Nat.le_of_ble_eq_true rfl) (Nat.le_of_ble_eq_true rfl) (Or.inr ⟨_, _, _, (by decide : 0 ∈ [0, 3]), rfl, rfl, ⟨⟨hI, Chg.rf⟩, (fun _ => by (try simp only [z_r0_0, z_r0_1, z_r0_2, z_r0_5, z_r0_6, z_r0_7, z_r0_8, z_r0_9, z_r0_10, z_r0_11, z_r0_12, z_r0_13, z_r0_1_6, z_r0_1_7, z_r0_1_8, z_r0_1_9, z_r0_1_10, z_r0_9_1, z_r0_9_2, z_r0_9_3, z_r0_9_4, z_r0_9_5, z_r0_9_1_0, z_r0_9_1_1, z_r0_9_1_2, z_r0_9_1_0_6, z_r0_9_1_0_7, z_r0_9_1_0_8, z_r0_9_1_0_9, z_r0_9_1_0_10, z_rr2_1]); omega), (fun _ => by (try simp only [z_r0_0, z_r0_1, z_r0_2, z_r0_5, z_r0_6, z_r0_7, z_r0_8, z_r0_9, z_r0_10, z_r0_11, z_r0_12, z_r0_13, z_r0_1_6, z_r0_1_7, z_r0_1_8, z_r0_1_9, z_r0_1_10, z_r0_9_1, z_r0_9_2, z_r0_9_3, z_r0_9_4, z_r0_9_5, z_r0_9_1_0, z_r0_9_1_1, z_r0_9_1_2, z_r0_9_1_0_6, z_r0_9_1_0_7, z_r0_9_1_0_8, z_r0_9_1_0_9, z_r0_9_1_0_10, z_rr2_1]); rw [oF, eH]; omega), (fun h9 => absurd h9 (by decide))⟩⟩)

