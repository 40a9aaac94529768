/-! independent signs: the numbers drawn, the rows, what is left of a row: pure -/
theorem s32n (x : Int32) : x.toInt = (x.toBitVec.toNat : Int) ∨ x.toInt = (x.toBitVec.toNat : Int) - 4294967296 := by
  rw [← Int32.toInt_toBitVec, BitVec.toInt_eq_toNat_cond]
  by_cases q : 2 * x.toBitVec.toNat < 2 ^ 32
  · rw [if_pos q]; exact Or.inl rfl
  · rw [if_neg q]; exact Or.inr rfl
theorem and15 (x : Int32) : (x &&& 32767).toInt = x.toInt % 32768 := by
  have e2 : (x &&& 32767).toInt = ((x.toBitVec &&& 32767#32).toNat : Int) := by
    rw [← Int32.toInt_toBitVec, Int32.toBitVec_and]
    show (x.toBitVec &&& 32767#32).toInt = _
    rw [BitVec.toInt_eq_toNat_cond, if_pos]
    rw [BitVec.toNat_and]
    have : x.toBitVec.toNat &&& (32767#32).toNat ≤ (32767#32).toNat := Nat.and_le_right
    have e : (32767#32).toNat = 32767 := rfl
    omega
  have e1 := s32n x
  have e : (32767#32).toNat = 2 ^ 15 - 1 := rfl
  rw [e2, BitVec.toNat_and, e, Nat.and_two_pow_sub_one_eq_mod]
  omega
theorem and01 (x : Int32) : (x &&& 1).toInt = x.toInt % 2 := by
  have e2 : (x &&& 1).toInt = ((x.toBitVec &&& 1#32).toNat : Int) := by
    rw [← Int32.toInt_toBitVec, Int32.toBitVec_and]
    show (x.toBitVec &&& 1#32).toInt = _
    rw [BitVec.toInt_eq_toNat_cond, if_pos]
    rw [BitVec.toNat_and]
    have : x.toBitVec.toNat &&& (1#32).toNat ≤ (1#32).toNat := Nat.and_le_right
    have e : (1#32).toNat = 1 := rfl
    omega
  have e1 := s32n x
  have e : (1#32).toNat = 2 ^ 1 - 1 := rfl
  rw [e2, BitVec.toNat_and, e, Nat.and_two_pow_sub_one_eq_mod]
  omega
/-- shifted without the sign: fifteen bits of it -/
def USL (w x y : Int32) : Prop := 0 ≤ y.toInt → y.toInt ≤ 16 → w.toInt % 32768 = x.toInt / 2 ^ y.toInt.toNat % 32768
theorem usl_n {x y : Int32} : USL (x.toUInt32 >>> (y.toUInt32 &&& Int32.toUInt32 31)).toInt32 x y := fun h0 h1 => by
  have lt := x.toBitVec.isLt
  have e1 := s32n x
  have c : ∀ s, s < 17 → ((Int32.ofNat s).toUInt32 &&& Int32.toUInt32 31).toNat % 32 = s ∧ (Int32.ofNat s).toInt = s := by decide
  have e2 := s32n (x.toUInt32 >>> (y.toUInt32 &&& Int32.toUInt32 31)).toInt32
  have hs : y = Int32.ofNat y.toInt.toNat := Int32.toInt_inj.mp (by rw [(c y.toInt.toNat (by omega)).2]; omega)
  have k : (x.toUInt32 >>> (y.toUInt32 &&& Int32.toUInt32 31)).toInt32.toBitVec.toNat = x.toBitVec.toNat / 2 ^ y.toInt.toNat := by
    show (x.toUInt32 >>> (y.toUInt32 &&& Int32.toUInt32 31)).toNat = _
    have c1 := (c y.toInt.toNat (by omega)).1
    rw [← hs] at c1
    rw [UInt32.toNat_shiftRight, Nat.shiftRight_eq_div_pow, c1]; rfl
  rw [k] at e2
  have : y.toInt.toNat < 17 := by omega
  generalize y.toInt.toNat = s at *
  have ps : s = 0 ∨ s = 1 ∨ s = 2 ∨ s = 3 ∨ s = 4 ∨ s = 5 ∨ s = 6 ∨ s = 7 ∨ s = 8 ∨ s = 9 ∨ s = 10 ∨ s = 11 ∨ s = 12 ∨ s = 13 ∨ s = 14 ∨ s = 15 ∨ s = 16 := by omega
  generalize (x.toUInt32 >>> (y.toUInt32 &&& Int32.toUInt32 31)).toInt32.toInt = w at *
  generalize x.toInt = a at *
  generalize x.toBitVec.toNat = b at *
  clear c k hs
  rcases ps with rfl | rfl | rfl | rfl | rfl | rfl | rfl | rfl | rfl | rfl | rfl | rfl | rfl | rfl | rfl | rfl | rfl <;> simp only [Nat.reducePow, Int.reducePow] at * <;> omega
theorem or0 (x : Int32) : x ||| 0 = x := by
  apply Int32.toBitVec_inj.mp
  rw [Int32.toBitVec_or]
  show x.toBitVec ||| 0#32 = _
  exact BitVec.or_zero
theorem or_nn {x y : Int32} (hx : 0 ≤ x.toInt) (hy : 0 ≤ y.toInt) : 0 ≤ (x ||| y).toInt := by
  have m : ∀ z : Int32, 0 ≤ z.toInt ↔ z.toBitVec.msb = false := fun z => by
    rw [BitVec.msb_eq_toInt, Int32.toInt_toBitVec]
    by_cases q : z.toInt < 0
    · rw [decide_eq_true q]; exact ⟨fun h => by omega, fun h => by cases h⟩
    · rw [decide_eq_false q]; exact ⟨fun _ => rfl, fun _ => by omega⟩
  rw [m] at hx hy ⊢
  rw [Int32.toBitVec_or, BitVec.msb_or, hx, hy]; rfl
/-- the sign n's bit -/
def BTN (n : Int32) : Int32 := 1 <<< (n &&& 31)
theorem BTN.nn {n : Int32} (h0 : 0 ≤ n.toInt) (h1 : n.toInt < 8) : 0 ≤ (BTN n).toInt := by
  have c : ∀ s, s < 8 → 0 ≤ (BTN (Int32.ofNat s)).toInt ∧ (Int32.ofNat s).toInt = s := by decide
  have hs : n = Int32.ofNat n.toInt.toNat := Int32.toInt_inj.mp (by rw [(c n.toInt.toNat (by omega)).2]; omega)
  rw [hs]; exact (c _ (by omega)).1
theorem i32n {n : Int32} {k : Nat} (h : n.toInt = k) (hk : k < 8) : n = Int32.ofNat k := by
  have c : ∀ s, s < 8 → (Int32.ofNat s).toInt = s := by decide
  exact Int32.toInt_inj.mp (by rw [c k hk]; exact h)
/-- the numbers drawn -/
def LCG (s : Int32) : Nat → Int32
  | 0 => s
  | n + 1 => 1103515245 * LCG s n + 12345
def DRN (s : Int32) (n : Nat) : Int := (LCG s (n + 1)).toInt / 65536 % 32768
theorem LCG.s {s x y z : Int32} {n : Nat} (h : x = LCG s n) (m : y = 1103515245 * x) (a : z = y + 12345) : z = LCG s (n + 1) := by rw [a, m, h]; rfl
theorem DRN.u {s x y z v w : Int32} {n : Nat} (h : x = LCG s (n + 1)) (hy : y.toInt = 16) (hz : USL z x y) (hw : w = z &&& v) (hv : v = 32767) : w.toInt = DRN s n := by
  rw [hw, hv, and15, hz (by omega) (by omega), hy, h]; rfl
theorem DRN.a {s x y z v w : Int32} {n : Nat} (h : x = LCG s (n + 1)) (hy : y.toInt = 16) (hz : SHR z x y) (hw : w = z &&& v) (hv : v = 32767) : w.toInt = DRN s n := by
  rw [hw, hv, and15, hz (by omega) (by omega), hy, h]; rfl
theorem DRN.b {s : Int32} {n : Nat} : 0 ≤ DRN s n ∧ DRN s n < 32768 := ⟨Int.emod_nonneg _ (by decide), Int.emod_lt_of_pos _ (by decide)⟩
/-- a form of them -/
def DRF (s : Int32) (d : Int) (k : Nat) : FVV := (d, fun j => DRN s (k * (d.toNat + 1) + j))
/-- the degree of signs' value: the form's degree tells it -/
theorem VJN.dg {k z : Int} {a a' b b' : FVV} (ha : a.1 = a'.1) (hb : b.1 = b'.1) : (VJN k z a b).map Prod.fst = (VJN k z a' b').map Prod.fst := by
  obtain ⟨D, f⟩ := a
  obtain ⟨D', f'⟩ := a'
  obtain ⟨E, g⟩ := b
  obtain ⟨E', g'⟩ := b'
  have ha : D = D' := ha
  have hb : E = E' := hb
  subst ha; subst hb
  unfold VJN
  by_cases k2 : k = 2
  · rw [if_pos k2, if_pos k2]
    by_cases q : D = E
    · rw [if_pos (show (D, f).1 = (E, g).1 from q), if_pos (show (D, f').1 = (E, g').1 from q)]; rfl
    · rw [if_neg (show ¬ (D, f).1 = (E, g).1 from q), if_neg (show ¬ (D, f').1 = (E, g').1 from q)]
  · rw [if_neg k2, if_neg k2]
    by_cases k3 : k = 3
    · rw [if_pos k3, if_pos k3]
      by_cases q : D + E ≤ 40
      · rw [if_pos (show (D, f).1 + (E, g).1 ≤ 40 from q), if_pos (show (D, f').1 + (E, g').1 ≤ 40 from q)]; rfl
      · rw [if_neg (show ¬ (D, f).1 + (E, g).1 ≤ 40 from q), if_neg (show ¬ (D, f').1 + (E, g').1 ≤ 40 from q)]
    · rw [if_neg k3, if_neg k3]
      by_cases q : z ≤ D ∧ z ≤ E ∧ D + E - 2 * z ≤ 40
      · rw [if_pos (show z ≤ (D, f).1 ∧ z ≤ (E, g).1 ∧ (D, f).1 + (E, g).1 - 2 * z ≤ 40 from q), if_pos (show z ≤ (D, f').1 ∧ z ≤ (E, g').1 ∧ (D, f').1 + (E, g').1 - 2 * z ≤ 40 from q)]; rfl
      · rw [if_neg (show ¬ (z ≤ (D, f).1 ∧ z ≤ (E, g).1 ∧ (D, f).1 + (E, g).1 - 2 * z ≤ 40) from q), if_neg (show ¬ (z ≤ (D, f').1 ∧ z ≤ (E, g').1 ∧ (D, f').1 + (E, g').1 - 2 * z ≤ 40) from q)]
def DEQ (s t : VST) : Prop := s.1 = t.1 ∧ ∀ j, (s.2 j).1 = (t.2 j).1
theorem DEQ.u {s t : VST} {n j : Nat} {v w : FVV} (h : DEQ s t) (hv : v.1 = w.1) : DEQ (n, UPV s.2 j v) (n, UPV t.2 j w) := ⟨rfl, fun i => by
  show (UPV s.2 j v i).1 = (UPV t.2 j w i).1
  by_cases q : i = j
  · rw [q, UPV.s, UPV.s]; exact hv
  · rw [UPV.k q, UPV.k q]; exact h.2 i⟩
theorem VCL.dg {f f' : FVV} (hf : f.1 = f'.1) : ∀ (l : List (Int × Int)) (s t : VST), DEQ s t → (VCL f l s).map (fun u => (u.2 0).1) = (VCL f' l t).map (fun u => (u.2 0).1)
  | [], s, t, q => by
    show some (s.2 0).1 = some (t.2 0).1
    rw [q.2 0]
  | (kd, z) :: l, s, t, q => by
    have e := q.1
    show ((VC1 f (kd, z) s).bind (VCL f l)).map _ = ((VC1 f' (kd, z) t).bind (VCL f' l)).map _
    by_cases k0 : kd = 0
    · rw [VC1.l0 k0, VC1.l0 k0, ← e]; exact VCL.dg hf l _ _ (q.u hf)
    · by_cases k1 : kd = 1
      · rw [VC1.l1 k1, VC1.l1 k1, ← e]; exact VCL.dg hf l _ _ (q.u rfl)
      · by_cases k5 : kd = 5
        · rw [VC1.l5 k5, VC1.l5 k5, ← e]; exact VCL.dg hf l _ _ (q.u (q.2 _))
        · rw [VC1.lj k0 k1 k5, VC1.lj k0 k1 k5, ← e]
          have j := VJN.dg (k := kd) (z := z) (q.2 (s.1 - 2)) (q.2 (s.1 - 1))
          generalize hx : VJN kd z (s.2 (s.1 - 2)) (s.2 (s.1 - 1)) = x at *
          generalize hy : VJN kd z (t.2 (s.1 - 2)) (t.2 (s.1 - 1)) = y at *
          cases x with
          | none => cases y with
            | none => rfl
            | some w => cases j
          | some v => cases y with
            | none => cases j
            | some w =>
              have j : v.1 = w.1 := Option.some.inj j
              exact VCL.dg hf l _ _ (q.u j)
def DGL (l : List (Int × Int)) (d : Int) : Option Int := (VWF (d, fun _ => 0) l).map Prod.fst
theorem DGL.of {f : FVV} {l : List (Int × Int)} : (VWF f l).map Prod.fst = DGL l f.1 := by
  have r := VCL.dg (f := f) (f' := (f.1, fun _ => 0)) rfl l VZ VZ ⟨rfl, fun _ => rfl⟩
  unfold DGL VWF
  generalize VCL f l VZ = x at *
  generalize VCL (f.1, fun _ => 0) l VZ = y at *
  cases x with
  | none => cases y with
    | none => rfl
    | some w => cases r
  | some v => cases y with
    | none => cases r
    | some w => exact r
theorem DGL.n {f : FVV} {l : List (Int × Int)} (h : VWF f l = none) : DGL l f.1 = none := by rw [← DGL.of, h]; rfl
theorem DGL.y {f v : FVV} {l : List (Int × Int)} (h : VWF f l = some v) : DGL l f.1 = some v.1 := by rw [← DGL.of, h]; rfl
/-- a row: the values on the forms drawn, one behind another -/
def RWV (p : Int) (s : Int32) (d : Int) (l : List (Int × Int)) (D : Int) (k : Nat) : Int :=
  match VWF (DRF s d (k / (D.toNat + 1))) l with
  | some v => v.2 (k % (D.toNat + 1)) % p
  | none => 0
theorem RWV.e {p : Int} {s : Int32} {d D : Int} {l : List (Int × Int)} {v : FVV} {x j k : Nat} (h : VWF (DRF s d x) l = some v) (hk : k = x * (D.toNat + 1) + j) (hj : j < D.toNat + 1) : RWV p s d l D k = v.2 j % p := by
  have e1 : k / (D.toNat + 1) = x := by rw [hk, Nat.mul_comm, Nat.mul_add_div (by omega), Nat.div_eq_of_lt hj]; rfl
  have e2 : k % (D.toNat + 1) = j := by rw [hk, Nat.mul_comm, Nat.mul_add_mod, Nat.mod_eq_of_lt hj]
  unfold RWV
  rw [e1, e2, h]
theorem RWV.b {p : Int} {s : Int32} {d D : Int} {l : List (Int × Int)} {k : Nat} (hp : 0 < p) : 0 ≤ RWV p s d l D k ∧ RWV p s d l D k < p := by
  unfold RWV
  cases VWF (DRF s d (k / (D.toNat + 1))) l with
  | none => exact ⟨Int.le_refl 0, hp⟩
  | some v => exact ⟨Int.emod_nonneg _ (by omega), Int.emod_lt_of_pos _ hp⟩
/-- the rows held taken out of another -/
def ELM (p : Int) (U : Nat → Nat → Int) (ld : Nat → Nat) (row : Nat → Int) : Nat → Nat → Int
  | 0 => row
  | m + 1 => fun k => (ELM p U ld row m k - ELM p U ld row m (ld m) * U m k) % p
theorem ELM.b {p : Int} {U : Nat → Nat → Int} {ld : Nat → Nat} {row : Nat → Int} {k : Nat} (hp : 0 < p) (h : 0 ≤ row k ∧ row k < p) : ∀ m, 0 ≤ ELM p U ld row m k ∧ ELM p U ld row m k < p
  | 0 => h
  | m + 1 => ⟨Int.emod_nonneg _ (by omega), Int.emod_lt_of_pos _ hp⟩
/-- the same rows, the same that is left -/
theorem ELM.cg {p : Int} {U U' : Nat → Nat → Int} {ld ld' : Nat → Nat} {row row' : Nat → Int} {w : Nat} (hr : ∀ k, k < w → row k = row' k) : ∀ m, (∀ i, i < m → (∀ k, k < w → U i k = U' i k) ∧ ld i = ld' i ∧ ld i < w) → ∀ k, k < w → ELM p U ld row m k = ELM p U' ld' row' m k
  | 0, _, k, hk => hr k hk
  | m + 1, h, k, hk => by
    have ih := ELM.cg (p := p) (U := U) (U' := U') (ld := ld) (ld' := ld') hr m (fun i hi => h i (by omega))
    obtain ⟨h1, h2, h3⟩ := h m (by omega)
    show (ELM p U ld row m k - ELM p U ld row m (ld m) * U m k) % p = (ELM p U' ld' row' m k - ELM p U' ld' row' m (ld' m) * U' m k) % p
    rw [ih k hk, ih (ld m) h3, h1 k hk, h2]
/-- the first that is not nought -/
def FSX (row : Nat → Int) (w x : Nat) : Prop := x ≤ w ∧ (∀ j, j < x → row j = 0) ∧ (x < w → row x ≠ 0)
def FSW (row : Nat → Int) : Nat → Nat
  | 0 => 0
  | w + 1 => if FSW row w < w then FSW row w else if row w ≠ 0 then w else w + 1
theorem FSW.x (row : Nat → Int) : ∀ w, FSX row w (FSW row w)
  | 0 => ⟨Nat.le_refl 0, fun j hj => absurd hj (Nat.not_lt_zero _), fun h => absurd h (Nat.not_lt_zero _)⟩
  | w + 1 => by
    obtain ⟨a, b, c⟩ := FSW.x row w
    show FSX row (w + 1) (if FSW row w < w then FSW row w else if row w ≠ 0 then w else w + 1)
    by_cases q : FSW row w < w
    · rw [if_pos q]; exact ⟨by omega, b, fun _ => c q⟩
    · have ew : FSW row w = w := by omega
      rw [if_neg q]
      rw [ew] at b
      by_cases r : row w ≠ 0
      · rw [if_pos r]; exact ⟨by omega, b, fun _ => r⟩
      · rw [if_neg r]
        refine ⟨Nat.le_refl _, fun j hj => ?_, fun h => absurd h (Nat.lt_irrefl _)⟩
        by_cases z : j = w
        · subst z; exact Decidable.of_not_not r
        · exact b j (by omega)
theorem FSX.u {row : Nat → Int} {w x y : Nat} (h : FSX row w x) (g : FSX row w y) : x = y := by
  obtain ⟨a, b, c⟩ := h
  obtain ⟨a', b', c'⟩ := g
  rcases Nat.lt_trichotomy x y with q | q | q
  · exact absurd (b' x q) (c (by omega))
  · exact q
  · exact absurd (b y q) (c' (by omega))
theorem FSX.w {row row' : Nat → Int} {w x : Nat} (h : FSX row w x) (e : ∀ j, j < w → row j = row' j) : FSW row' w = x := by
  refine FSX.u (FSW.x row' w) ⟨h.1, fun j hj => ?_, fun q => ?_⟩
  · rw [← e j (by have := h.1; omega)]; exact h.2.1 j hj
  · rw [← e x q]; exact h.2.2 q
theorem FSW.cg {row row' : Nat → Int} {w : Nat} (h : ∀ k, k < w → row k = row' k) : FSW row w = FSW row' w := (FSX.w (FSW.x row w) h).symm
/-- the inverse -/
def IVP (p a : Int) : Int := POW a (p - 2).toNat % p
theorem IVP.u {p a x : Int} (hp : PRM p) (h0 : 0 < a) (h1 : a < p) (hx : 0 ≤ x ∧ x < p) (h : (a * x) % p = 1) : x = IVP p a := by
  have p0 : 0 < p := by omega
  have b : 0 ≤ IVP p a ∧ IVP p a < p := ⟨Int.emod_nonneg _ (by omega), Int.emod_lt_of_pos _ p0⟩
  have g : (a * IVP p a) % p = 1 := (INC.of hp (PmE.em _) rfl b).2 (by omega) h1 (by omega)
  have p2 : 1 < p := by unfold PRM at hp; omega
  have e1 : PmE p (a * x) 1 := by unfold PmE; rw [h, Int.emod_eq_of_lt (by omega) p2]
  have e2 : PmE p (a * IVP p a) 1 := by unfold PmE; rw [g, Int.emod_eq_of_lt (by omega) p2]
  have e3 : PmE p x ((a * IVP p a) * x) := by
    have := (e2.sy.ml (PmE.rf (x := x)))
    rw [Int.one_mul] at this; exact this
  have e4 : PmE p ((a * x) * IVP p a) (IVP p a) := by
    have := (e1.ml (PmE.rf (x := IVP p a)))
    rw [Int.one_mul] at this; exact this
  refine PmE.eq (e3.tr ?_) hx.1 hx.2 b.1 b.2
  rw [show a * IVP p a * x = a * x * IVP p a from by rw [Int.mul_assoc, Int.mul_comm (IVP p a) x, ← Int.mul_assoc]]
  exact e4
/-- rows held: how many, each with a one ahead, where the one stands -/
abbrev SPT := Nat × (Nat → Nat → Int) × (Nat → Nat)
def NRW (p : Int) (r : Nat → Int) (f k : Nat) : Int := (r k * IVP p (r f)) % p
def SPA (p : Int) (w : Nat) (row : Nat → Int) (t : SPT) : Bool × SPT :=
  if FSW (ELM p t.2.1 t.2.2 row t.1) w < w then (true, (t.1 + 1, (fun i => if i = t.1 then NRW p (ELM p t.2.1 t.2.2 row t.1) (FSW (ELM p t.2.1 t.2.2 row t.1) w) else t.2.1 i), (fun i => if i = t.1 then FSW (ELM p t.2.1 t.2.2 row t.1) w else t.2.2 i))) else (false, t)
abbrev SPS := SPT × Int32 × Int
def SPB (p : Int) (s : Int32) (d : Int) (l : List (Int × Int)) (n : Nat) (z : SPS) : Option SPS :=
  match DGL l d with
  | none => none
  | some D => if z.2.2 ≠ -1 ∧ D ≠ z.2.2 then none else some ((SPA p (12 * (D.toNat + 1)) (RWV p s d l D) z.1).2, (if (SPA p (12 * (D.toNat + 1)) (RWV p s d l D) z.1).1 = true then z.2.1 ||| BTN (Int32.ofNat n) else z.2.1), D)
def SPF (p : Int) (s : Int32) (d set nS : Int) (L : Nat → List (Int × Int)) : Nat → Option SPS
  | 0 => some ((0, (fun _ _ => 0), fun _ => 0), 0, -1)
  | n + 1 => (SPF p s d set nS L n).bind (fun z => if set / 2 ^ n % 2 = 1 ∧ (n : Int) < nS then SPB p s d (L n) n z else some z)
theorem SPF.s {p : Int} {s : Int32} {d set nS : Int} {L : Nat → List (Int × Int)} {n : Nat} {z : SPS} (h : SPF p s d set nS L n = some z) (hq : set / 2 ^ n % 2 = 1) (hn : (n : Int) < nS) : SPF p s d set nS L (n + 1) = SPB p s d (L n) n z := by
  show (SPF p s d set nS L n).bind _ = _
  rw [h]
  show (if set / 2 ^ n % 2 = 1 ∧ (n : Int) < nS then SPB p s d (L n) n z else some z) = _
  rw [if_pos ⟨hq, hn⟩]
theorem SPF.k {p : Int} {s : Int32} {d set nS : Int} {L : Nat → List (Int × Int)} {n : Nat} {z : SPS} (h : SPF p s d set nS L n = some z) (hq : ¬ (set / 2 ^ n % 2 = 1 ∧ (n : Int) < nS)) : SPF p s d set nS L (n + 1) = some z := by
  show (SPF p s d set nS L n).bind _ = _
  rw [h]
  show (if set / 2 ^ n % 2 = 1 ∧ (n : Int) < nS then SPB p s d (L n) n z else some z) = _
  rw [if_neg hq]
theorem SPF.n {p : Int} {s : Int32} {d set nS : Int} {L : Nat → List (Int × Int)} {n : Nat} (h : SPF p s d set nS L n = none) : ∀ i, SPF p s d set nS L (n + i) = none
  | 0 => h
  | i + 1 => by
    show (SPF p s d set nS L (n + i)).bind _ = none
    rw [SPF.n h i]; rfl
theorem SPF.e {p : Int} {s : Int32} {d set nS : Int} {L : Nat → List (Int × Int)} {n : Nat} (hn : nS ≤ (n : Int)) : ∀ i, SPF p s d set nS L (n + i) = SPF p s d set nS L n
  | 0 => rfl
  | i + 1 => by
    rw [← SPF.e hn i]
    show (SPF p s d set nS L (n + i)).bind _ = SPF p s d set nS L (n + i)
    cases hz : SPF p s d set nS L (n + i) with
    | none => rfl
    | some z =>
      show (if set / 2 ^ (n + i) % 2 = 1 ∧ ((n + i : Nat) : Int) < nS then SPB p s d (L (n + i)) (n + i) z else some z) = _
      rw [if_neg (by omega)]
theorem SPF.cg {p : Int} {s : Int32} {d set nS : Int} {L L' : Nat → List (Int × Int)} (e : ∀ n : Nat, (n : Int) < nS → L n = L' n) : ∀ n, SPF p s d set nS L n = SPF p s d set nS L' n
  | 0 => rfl
  | n + 1 => by
    show (SPF p s d set nS L n).bind _ = (SPF p s d set nS L' n).bind _
    rw [SPF.cg e n]
    cases SPF p s d set nS L' n with
    | none => rfl
    | some z =>
      show (if set / 2 ^ n % 2 = 1 ∧ (n : Int) < nS then SPB p s d (L n) n z else some z) = (if set / 2 ^ n % 2 = 1 ∧ (n : Int) < nS then SPB p s d (L' n) n z else some z)
      by_cases q : set / 2 ^ n % 2 = 1 ∧ (n : Int) < nS
      · rw [if_pos q, if_pos q, e n q.2]
      · rw [if_neg q, if_neg q]
theorem SPB.nn {p : Int} {s : Int32} {d : Int} {l : List (Int × Int)} {n : Nat} {z z' : SPS} (h : SPB p s d l n z = some z') (h8 : n < 8) (hz : 0 ≤ z.2.1.toInt) : 0 ≤ z'.2.1.toInt := by
  unfold SPB at h
  cases hd : DGL l d with
  | none => rw [hd] at h; cases h
  | some D =>
    rw [hd] at h
    have h : (if z.2.2 ≠ -1 ∧ D ≠ z.2.2 then none else some ((SPA p (12 * (D.toNat + 1)) (RWV p s d l D) z.1).2, (if (SPA p (12 * (D.toNat + 1)) (RWV p s d l D) z.1).1 = true then z.2.1 ||| BTN (Int32.ofNat n) else z.2.1), D)) = some z' := h
    by_cases q : z.2.2 ≠ -1 ∧ D ≠ z.2.2
    · rw [if_pos q] at h; cases h
    · rw [if_neg q] at h
      have h := Option.some.inj h
      generalize SPA p (12 * (D.toNat + 1)) (RWV p s d l D) z.1 = S at h
      obtain ⟨b, t⟩ := S
      obtain ⟨t', x, D'⟩ := z'
      have h := (Prod.mk.inj (Prod.mk.inj h).2).1
      show 0 ≤ x.toInt
      rw [← h]
      cases b with
      | true =>
        have c : ∀ s, s < 8 → 0 ≤ (Int32.ofNat s).toInt ∧ (Int32.ofNat s).toInt < 8 := by decide
        exact or_nn hz (BTN.nn (c n h8).1 (c n h8).2)
      | false => exact hz
theorem SPF.nn {p : Int} {s : Int32} {d set nS : Int} {L : Nat → List (Int × Int)} : ∀ (n : Nat) (z : SPS), n ≤ 8 → SPF p s d set nS L n = some z → 0 ≤ z.2.1.toInt
  | 0, z, _, h => by
    have h : some _ = some z := h
    have h := Option.some.inj h
    rw [← h]; exact (by decide : 0 ≤ (0 : Int32).toInt)
  | n + 1, z, h8, h => by
    cases hz : SPF p s d set nS L n with
    | none =>
      have h : (SPF p s d set nS L n).bind _ = some z := h
      rw [hz] at h; cases h
    | some y =>
      have b := SPF.nn n y (by omega) hz
      by_cases q : set / 2 ^ n % 2 = 1 ∧ (n : Int) < nS
      · rw [SPF.s hz q.1 q.2] at h; exact SPB.nn h (by omega) b
      · rw [SPF.k hz q] at h
        have h := Option.some.inj h
        rw [← h]; exact b
/-- the answers -/
def SPQ (x : Int32) (o : Option SPS) : Prop := (o = none ∧ x.toInt = -1) ∨ ∃ z, o = some z ∧ x = z.2.1
theorem SPQ.u {x y : Int32} {o : Option SPS} (h : SPQ x o) (g : SPQ y o) : x = y := by
  rcases h with ⟨h1, h2⟩ | ⟨z, h1, h2⟩
  · rcases g with ⟨g1, g2⟩ | ⟨z, g1, g2⟩
    · exact Int32.toInt_inj.mp (by omega)
    · rw [h1] at g1; cases g1
  · rcases g with ⟨g1, g2⟩ | ⟨z', g1, g2⟩
    · rw [h1] at g1; cases g1
    · rw [h1] at g1; cases g1
      rw [h2, g2]
theorem SPQ.nn {x : Int32} {p : Int} {s : Int32} {d set nS : Int} {L : Nat → List (Int × Int)} {n : Nat} (h : SPQ x (SPF p s d set nS L n)) (hn : n ≤ 8) : x.toInt = -1 ∨ 0 ≤ x.toInt := by
  rcases h with ⟨-, h⟩ | ⟨z, h1, h2⟩
  · exact Or.inl h
  · rw [h2]; exact Or.inr (SPF.nn n z hn h1)
