/-! the values of signs: exactly -/
/-- the stack of forms -/
abbrev VST := Nat × (Nat → FVV)
def UPV (g : Nat → FVV) (j : Nat) (v : FVV) : Nat → FVV := fun i => if i = j then v else g i
theorem UPV.s {g : Nat → FVV} {j : Nat} {v : FVV} : UPV g j v j = v := if_pos rfl
theorem UPV.k {g : Nat → FVV} {i j : Nat} {v : FVV} (h : i ≠ j) : UPV g j v i = g i := if_neg h
/-- the same up to p's multiples -/
def FQV (p : Int) (v w : FVV) : Prop := v.1 = w.1 ∧ ∀ m : Nat, (m : Int) ≤ v.1 → PmE p (v.2 m) (w.2 m)
def OQV (p : Int) (o o' : Option FVV) : Prop := (o = none ∧ o' = none) ∨ ∃ v w, o = some v ∧ o' = some w ∧ FQV p v w
theorem VFR.fq {R : RT} {I : IT} {f : Nat} {p : Int} {v : FVV} (h : VFR R I f p v) : FQV p ((I f 0).toInt, NF I (rA R f 1)) v := ⟨h.1, fun m hm => (h.2.2.2 m (by have := h.1; have hm : (m : Int) ≤ (I f 0).toInt := hm; omega)).2.2⟩
theorem VFR.tr {R : RT} {I : IT} {f : Nat} {p : Int} {v w : FVV} (h : VFR R I f p v) (e : FQV p v w) : VFR R I f p w := by
  obtain ⟨e1, e2⟩ := e
  exact ⟨h.1.trans e1, by rw [← e1]; exact h.2.1, by rw [← e1]; exact h.2.2.1, fun j hj => by
    rw [← e1] at hj
    exact ⟨(h.2.2.2 j hj).1, (h.2.2.2 j hj).2.1, (h.2.2.2 j hj).2.2.tr (e2 j hj)⟩⟩
theorem DIG.pe {p D : Int} {f f' : Nat → Int} {a b j : Nat} (h : ∀ k : Nat, (k : Int) ≤ D → PmE p (f k) (f' k)) (hj : ((j + b : Nat) : Int) ≤ D) : PmE p (DIF f D a b j) (DIF f' D a b j) := ((h _ hj).ml PmE.rf).ml PmE.rf
theorem OVT.pe {p D E k : Int} {f f' g g' : Nat → Int} (hf : ∀ j : Nat, (j : Int) ≤ D → PmE p (f j) (f' j)) (hg : ∀ j : Nat, (j : Int) ≤ E → PmE p (g j) (g' j)) (hD : k ≤ D) (hE : k ≤ E) {m : Nat} : ∀ n : Nat, (n : Int) ≤ k + 1 → PmE p (OVS f g D E k n m) (OVS f' g' D E k n m)
  | 0, _ => PmE.rf
  | i + 1, h => (OVT.pe hf hg hD hE i (by omega)).ad (PmE.rf.ml (CVS.pe _ (fun j hj => DIG.pe hf (by omega)) (fun j hj => DIG.pe hg (by omega))))
theorem VJN.pe {p k z : Int} {a a' b b' : FVV} (ha : FQV p a a') (hb : FQV p b b') (hz : k ≠ 2 → k ≠ 3 → 0 ≤ z) (h0 : 0 ≤ a.1) : OQV p (VJN k z a b) (VJN k z a' b') := by
  obtain ⟨D, f⟩ := a
  obtain ⟨D', f'⟩ := a'
  obtain ⟨E, g⟩ := b
  obtain ⟨E', g'⟩ := b'
  obtain ⟨e1, hf⟩ := ha
  obtain ⟨e2, hg⟩ := hb
  have e1 : D = D' := e1
  have e2 : E = E' := e2
  subst e1; subst e2
  have hf : ∀ m : Nat, (m : Int) ≤ D → PmE p (f m) (f' m) := hf
  have hg : ∀ m : Nat, (m : Int) ≤ E → PmE p (g m) (g' m) := hg
  have h0 : 0 ≤ D := h0
  unfold VJN
  by_cases k2 : k = 2
  · rw [if_pos k2, if_pos k2]
    show OQV p (if D = E then _ else none) (if D = E then _ else none)
    by_cases q : D = E
    · rw [if_pos q, if_pos q]
      exact Or.inr ⟨_, _, rfl, rfl, rfl, fun m hm => (hf m hm).ad (hg m (by have hm : (m : Int) ≤ D := hm; omega))⟩
    · rw [if_neg q, if_neg q]; exact Or.inl ⟨rfl, rfl⟩
  · rw [if_neg k2, if_neg k2]
    by_cases k3 : k = 3
    · rw [if_pos k3, if_pos k3]
      show OQV p (if D + E ≤ 40 then _ else none) (if D + E ≤ 40 then _ else none)
      by_cases q : D + E ≤ 40
      · rw [if_pos q, if_pos q]
        exact Or.inr ⟨_, _, rfl, rfl, rfl, fun m hm => CVS.pe _ (fun j hj => hf j (by have hj : j < (D + 1).toNat := hj; omega)) hg⟩
      · rw [if_neg q, if_neg q]; exact Or.inl ⟨rfl, rfl⟩
    · rw [if_neg k3, if_neg k3]
      have hz := hz k2 k3
      show OQV p (if z ≤ D ∧ z ≤ E ∧ D + E - 2 * z ≤ 40 then _ else none) (if z ≤ D ∧ z ≤ E ∧ D + E - 2 * z ≤ 40 then _ else none)
      by_cases q : z ≤ D ∧ z ≤ E ∧ D + E - 2 * z ≤ 40
      · rw [if_pos q, if_pos q]
        exact Or.inr ⟨_, _, rfl, rfl, rfl, fun m hm => OVT.pe hf hg q.1 q.2.1 _ (by omega)⟩
      · rw [if_neg q, if_neg q]; exact Or.inl ⟨rfl, rfl⟩
/-- one step of signs; all of them; what they come to on a form -/
def VC1 (f : FVV) (x : Int × Int) (s : VST) : Option VST :=
  if x.1 = 0 then some (s.1 + 1, UPV s.2 s.1 f)
  else if x.1 = 1 then some (s.1 + 1, UPV s.2 s.1 (0, fun _ => x.2))
  else if x.1 = 5 then some (s.1, UPV s.2 (s.1 - 1) ((s.2 (s.1 - 1)).1, fun m => -1 * (s.2 (s.1 - 1)).2 m))
  else (VJN x.1 x.2 (s.2 (s.1 - 2)) (s.2 (s.1 - 1))).bind (fun v => some (s.1 - 1, UPV s.2 (s.1 - 2) v))
def VCL (f : FVV) : List (Int × Int) → VST → Option VST
  | [], s => some s
  | x :: l, s => (VC1 f x s).bind (VCL f l)
def VZ : VST := (0, fun _ => (0, fun _ => 0))
def VWF (f : FVV) (l : List (Int × Int)) : Option FVV := (VCL f l VZ).bind (fun s => some (s.2 0))
theorem VC1.l0 {f : FVV} {kd z : Int} {s : VST} (h : kd = 0) : VC1 f (kd, z) s = some (s.1 + 1, UPV s.2 s.1 f) := if_pos h
theorem VC1.l1 {f : FVV} {kd z : Int} {s : VST} (h : kd = 1) : VC1 f (kd, z) s = some (s.1 + 1, UPV s.2 s.1 (0, fun _ => z)) := (if_neg (show ¬ kd = 0 by omega)).trans (if_pos h)
theorem VC1.l5 {f : FVV} {kd z : Int} {s : VST} (h : kd = 5) : VC1 f (kd, z) s = some (s.1, UPV s.2 (s.1 - 1) ((s.2 (s.1 - 1)).1, fun m => -1 * (s.2 (s.1 - 1)).2 m)) := (if_neg (show ¬ kd = 0 by omega)).trans ((if_neg (show ¬ kd = 1 by omega)).trans (if_pos h))
theorem VC1.lj {f : FVV} {kd z : Int} {s : VST} (h0 : kd ≠ 0) (h1 : kd ≠ 1) (h5 : kd ≠ 5) : VC1 f (kd, z) s = (VJN kd z (s.2 (s.1 - 2)) (s.2 (s.1 - 1))).bind (fun v => some (s.1 - 1, UPV s.2 (s.1 - 2) v)) := (if_neg h0).trans ((if_neg h1).trans (if_neg h5))
/-- a form stands there for a sign of less -/
def HO5 : List (Int × Int) → Int → Prop
  | [], _ => True
  | x :: l, h => (x.1 = 5 → 1 ≤ h) ∧ HO5 l (h + HG1 x.1)
def HOV (l : List (Int × Int)) (h : Int) : Prop := HOK l h ∧ HO5 l h ∧ ∀ x, x ∈ l → x.1 = 4 → x.2 ≤ 8
theorem HOV.c {l : List (Int × Int)} {x : Int × Int} {h : Int} (q : HOV (x :: l) h) : (0 ≤ x.1 ∧ x.1 ≤ 5 ∧ 0 ≤ x.2 ∧ 0 ≤ h ∧ (x.1 ≤ 1 → h ≤ 19) ∧ (2 ≤ x.1 → x.1 ≤ 4 → 2 ≤ h ∧ h ≤ 20)) ∧ (x.1 = 5 → 1 ≤ h) ∧ (x.1 = 4 → x.2 ≤ 8) ∧ HOV l (h + HG1 x.1) := by
  obtain ⟨⟨a1, a2, a3, a4, a5, a6, a7⟩, ⟨b1, b2⟩, c⟩ := q
  exact ⟨⟨a1, a2, a3, a4, a5, a6⟩, b1, c x List.mem_cons_self, a7, b2, fun y hy => c y (List.mem_cons_of_mem _ hy)⟩
def VSI (R : RT) (I : IT) (c : Nat) (p : Int) (s : VST) : Prop := (I c 5).toInt = s.1 ∧ s.1 ≤ 20 ∧ ∀ j, j < s.1 → VFR R I (KA R c j) p (s.2 j)
def VOI (R : RT) (I : IT) (c : Nat) (p : Int) (f : FVV) (l : List (Int × Int)) (k : Int) : Prop := ∃ s : VST, VSI R I c p s ∧ HOV (l.drop k.toNat) s.1 ∧ VCL f l VZ = VCL f (l.drop k.toNat) s
theorem VOI.z {R : RT} {I : IT} {c : Nat} {p k : Int} {f : FVV} {l : List (Int × Int)} (h : HOV l 0) (h5 : (I c 5).toInt = 0) (hk : k = 0) : VOI R I c p f l k := by
  subst hk
  exact ⟨VZ, ⟨h5, Nat.zero_le _, fun j hj => absurd hj (Nat.not_lt_zero _)⟩, h, rfl⟩
theorem VOI.k {R : RT} {I : IT} {c : Nat} {p k k' : Int} {f : FVV} {l : List (Int × Int)} (h : VOI R I c p f l k) (e : k' = k) : VOI R I c p f l k' := by subst e; exact h
theorem VOI.ge {R : RT} {I : IT} {c : Nat} {p k kd z : Int} {f : FVV} {l : List (Int × Int)} (h : VOI R I c p f l k) (hx : l[k.toNat]? = some (kd, z)) : (0 ≤ kd ∧ kd ≤ 5 ∧ 0 ≤ z) ∧ (kd ≤ 1 → 0 ≤ (I c 5).toInt ∧ (I c 5).toInt < 20) ∧ (kd = 5 → 1 ≤ (I c 5).toInt ∧ (I c 5).toInt ≤ 20) ∧ (2 ≤ kd → kd ≤ 4 → 2 ≤ (I c 5).toInt ∧ (I c 5).toInt ≤ 20) ∧ (kd = 4 → z ≤ 8) := by
  obtain ⟨s, ⟨e, b, v⟩, ho, -⟩ := h
  rw [DRP hx] at ho
  obtain ⟨⟨a1, a2, a3, a4, a5, a6⟩, b1, b2, -⟩ := ho.c
  have a1 : 0 ≤ kd := a1
  have a2 : kd ≤ 5 := a2
  have a3 : 0 ≤ z := a3
  have a5 : kd ≤ 1 → (s.1 : Int) ≤ 19 := a5
  have a6 : 2 ≤ kd → kd ≤ 4 → 2 ≤ (s.1 : Int) ∧ (s.1 : Int) ≤ 20 := a6
  have b1 : kd = 5 → 1 ≤ (s.1 : Int) := b1
  have b2 : kd = 4 → z ≤ 8 := b2
  rw [e]
  exact ⟨⟨a1, a2, a3⟩, fun q => ⟨a4, by have := a5 q; omega⟩, fun q => ⟨b1 q, by omega⟩, a6, b2⟩
theorem VOI.bn {R : RT} {I : IT} {c : Nat} {p k : Int} {f : FVV} {l : List (Int × Int)} (h : VOI R I c p f l k) (j : Nat) (hj : (j : Int) < (I c 5).toInt) : BNX I (rA R (KA R c j) 1) (I (KA R c j) 0).toInt p := by
  obtain ⟨s, ⟨e, b, v⟩, -, -⟩ := h
  exact (v j (by omega)).bn
theorem VOI.one {R : RT} {I : IT} {c : Nat} {p k : Int} {f : FVV} {l : List (Int × Int)} (h : VOI R I c p f l k) (hk : k = l.length) : (I c 5).toInt = 1 ∧ ∃ v, VWF f l = some v ∧ VFR R I (KA R c 0) p v := by
  obtain ⟨s, ⟨e, b, v⟩, ho, r⟩ := h
  rw [hk, show ((l.length : Nat) : Int).toNat = l.length from by omega, List.drop_length] at ho r
  have h1 : (s.1 : Int) = 1 := ho.1
  refine ⟨by omega, s.2 0, ?_, v 0 (by omega)⟩
  unfold VWF
  rw [r]; rfl
/-- a form apart from the stack's -/
theorem GK.ne {T : Nat → Nat} {R : RT} {c j g q k : Nat} (hU : UPR T R) (hG : GK T R c) (hj : j < 20) (hg : FO T R g) (hR : R q k = some g) (hq : q ≠ rA R c 1) : KA R c j ≠ g ∧ KA R c j ≠ rA R g 1 ∧ rA R (KA R c j) 1 ≠ g ∧ rA R (KA R c j) 1 ≠ rA R g 1 := by
  obtain ⟨-, -, gj, -⟩ := hG
  obtain ⟨j1, j2⟩ := gj j hj
  have n1 : KA R c j ≠ g := hU.ne (Or.inl j2.1) j1 hR (Or.inl (fun e => hq e.symm))
  exact ⟨n1, fun e => by have := hg.2.2; rw [← e] at this; have := j2.1; omega, fun e => by have := j2.2.2; rw [e] at this; have := hg.1; omega, obneq hU j2 hg n1⟩
theorem VOI.sm {T : Nat → Nat} {R : RT} {I I' : IT} {L L' : LT} {S : Nat → Prop} {W : List (Nat × Nat)} {c : Nat} {p k : Int} {f : FVV} {l : List (Int × Int)} (h : VOI R I c p f l k) (hU : UPR T R) (hG : GK T R c) (ch : Chg S T W I L I' L') (hS : ∀ a, S a → a = rA R c 3 ∨ a = rA R (rA R c 3) 1) : VOI R I' c p f l k := by
  obtain ⟨s, ⟨e, b, v⟩, ho, r⟩ := h
  have hG' := hG
  obtain ⟨tc, ⟨-, t1⟩, gj, ⟨r3, f3⟩, -⟩ := hG'
  have ec : I' c = I c := Chg.at ch (fun q => by
    rcases hS _ q with q | q
    · have := f3.1; rw [← q] at this; omega
    · have := f3.2.2; rw [← q] at this; omega)
  refine ⟨s, ⟨by rw [ec]; exact e, b, fun j hj => ?_⟩, ho, r⟩
  obtain ⟨n1, n2, n3, n4⟩ := GK.ne hU hG (j := j) (by omega) f3 r3 (fun q => by rw [← q] at t1; omega)
  exact (v j hj).sm (Chg.at ch (fun q => (hS _ q).elim n1 n2)) (Chg.at ch (fun q => (hS _ q).elim n3 n4))
theorem GK.nj {T : Nat → Nat} {R : RT} {c i j : Nat} (hU : UPR T R) (hG : GK T R c) (hi : i < 20) (hj : j < 20) (hn : i ≠ j) : KA R c i ≠ KA R c j ∧ KA R c i ≠ rA R (KA R c j) 1 ∧ rA R (KA R c i) 1 ≠ KA R c j ∧ rA R (KA R c i) 1 ≠ rA R (KA R c j) 1 := by
  obtain ⟨-, -, gj, -⟩ := hG
  obtain ⟨i1, i2⟩ := gj i hi
  obtain ⟨j1, j2⟩ := gj j hj
  have n1 : KA R c i ≠ KA R c j := hU.ne (Or.inl i2.1) i1 j1 (Or.inr hn)
  exact ⟨n1, fun e => by have := j2.2.2; rw [← e] at this; have := i2.1; omega, fun e => by have := i2.2.2; rw [e] at this; have := j2.1; omega, obneq hU i2 j2 n1⟩
theorem GK.nc {T : Nat → Nat} {R : RT} {c j : Nat} (hG : GK T R c) (hj : j < 20) : KA R c j ≠ c ∧ rA R (KA R c j) 1 ≠ c := by
  obtain ⟨tc, -, gj, -⟩ := hG
  obtain ⟨-, j2⟩ := gj j hj
  exact ⟨fun e => by have := j2.1; rw [e] at this; omega, fun e => by have := j2.2.2; rw [e] at this; omega⟩
theorem VOI.ly {T : Nat → Nat} {R : RT} {I I' : IT} {L L' : LT} {S : Nat → Prop} {W : List (Nat × Nat)} {c r2 : Nat} {p k kd z : Int} {f v : FVV} {l : List (Int × Int)} (h : VOI R I c p f l k) (hU : UPR T R) (hG : GK T R c) (hx : l[k.toNat]? = some (kd, z)) (hkd : kd = 0 ∧ v = f ∨ kd = 1 ∧ v = (0, fun _ => z)) (ch : Chg S T W I L I' L') (hS : ∀ a, S a → a = c ∨ a = KA R c (I c 5).toNatClampNeg ∨ a = rA R (KA R c (I c 5).toNatClampNeg) 1) (h5 : (I' c 5).toInt = (I c 5).toInt + 1) (hf : FEQ R I' (KA R c (I c 5).toNatClampNeg) I r2) (hv : VFR R I r2 p v) (h0 : 0 ≤ k) : VOI R I' c p f l (k + 1) := by
  have hge := h.ge hx
  obtain ⟨s, ⟨e, b, vs⟩, ho, r⟩ := h
  have hlt := hge.2.1 (by omega)
  have n0 := ncz hlt.1
  have en : (I c 5).toNatClampNeg = s.1 := by omega
  rw [en] at hS hf
  rw [DRP hx] at ho r
  obtain ⟨-, -, -, ho⟩ := ho.c
  have st : VC1 f (kd, z) s = some (s.1 + 1, UPV s.2 s.1 v) := by
    rcases hkd with ⟨q1, q2⟩ | ⟨q1, q2⟩
    · rw [VC1.l0 q1, q2]
    · rw [VC1.l1 q1, q2]
  have hg1 : HG1 kd = 1 := by unfold HG1; rw [if_pos (by omega)]
  have ho : HOV (l.drop (k.toNat + 1)) (s.1 + HG1 kd) := ho
  rw [hg1] at ho
  refine ⟨(s.1 + 1, UPV s.2 s.1 v), ⟨?_, ?_, fun j hj => ?_⟩, ?_, ?_⟩
  · show (I' c 5).toInt = ((s.1 + 1 : Nat) : Int); omega
  · show s.1 + 1 ≤ 20; omega
  · have hj : j < s.1 + 1 := hj
    show VFR R I' (KA R c j) p (UPV s.2 s.1 v j)
    by_cases q : j = s.1
    · subst q
      rw [UPV.s]; exact hv.cp hf
    · rw [UPV.k q]
      obtain ⟨n1, n2, n3, n4⟩ := GK.nj hU hG (i := j) (j := s.1) (by omega) (by omega) q
      obtain ⟨m1, m2⟩ := GK.nc hG (j := j) (by omega)
      exact (vs j (by omega)).sm (Chg.at ch (fun q => (hS _ q).elim m1 (fun q => q.elim n1 n2))) (Chg.at ch (fun q => (hS _ q).elim m2 (fun q => q.elim n3 n4)))
  · rw [show (k + 1).toNat = k.toNat + 1 from by omega]
    show HOV _ ((s.1 + 1 : Nat) : Int)
    rw [show ((s.1 + 1 : Nat) : Int) = (s.1 : Int) + 1 from by omega]; exact ho
  · rw [r, show (k + 1).toNat = k.toNat + 1 from by omega]
    show (VC1 f (kd, z) s).bind _ = _
    rw [st]; rfl
theorem VOI.tn {T : Nat → Nat} {R : RT} {I I' : IT} {L L' : LT} {S : Nat → Prop} {W : List (Nat × Nat)} {c : Nat} {p k kd z : Int} {f : FVV} {l : List (Int × Int)} (h : VOI R I c p f l k) (hU : UPR T R) (hG : GK T R c) (hx : l[k.toNat]? = some (kd, z)) (hkd : kd = 5) (ch : Chg S T W I L I' L') (hS : ∀ a, S a → a = rA R (KA R c ((I c 5).toInt - 1).toNat) 1) (hv : VRX I' (rA R (KA R c ((I c 5).toInt - 1).toNat) 1) p (I (KA R c ((I c 5).toInt - 1).toNat) 0).toInt (fun m => -1 * NF I (rA R (KA R c ((I c 5).toInt - 1).toNat) 1) m)) (h0 : 0 ≤ k) : VOI R I' c p f l (k + 1) := by
  have hge := h.ge hx
  obtain ⟨s, ⟨e, b, vs⟩, ho, r⟩ := h
  have hlt := hge.2.2.1 hkd
  have en : ((I c 5).toInt - 1).toNat = s.1 - 1 := by omega
  rw [en] at hS hv
  rw [DRP hx] at ho r
  obtain ⟨-, -, -, ho⟩ := ho.c
  have hg1 : HG1 kd = 0 := by unfold HG1; rw [if_neg (by omega), if_pos hkd]
  have ho : HOV (l.drop (k.toNat + 1)) (s.1 + HG1 kd) := ho
  rw [hg1, Int.add_zero] at ho
  obtain ⟨m1, m2⟩ := GK.nc hG (j := s.1 - 1) (by omega)
  have ec : I' c = I c := Chg.at ch (fun q => m2 (hS _ q).symm)
  have vt := vs (s.1 - 1) (by omega)
  have hG' := hG
  obtain ⟨-, -, gj, -⟩ := hG
  have ft := (gj (s.1 - 1) (by omega)).2
  have et : I' (KA R c (s.1 - 1)) = I (KA R c (s.1 - 1)) := Chg.at ch (fun q => by have := hS _ q; have t1 := ft.1; rw [this] at t1; have := ft.2.2; omega)
  refine ⟨(s.1, UPV s.2 (s.1 - 1) ((s.2 (s.1 - 1)).1, fun m => -1 * (s.2 (s.1 - 1)).2 m)), ⟨by rw [ec]; exact e, b, fun j hj => ?_⟩, ?_, ?_⟩
  · have hj : j < s.1 := hj
    show VFR R I' (KA R c j) p (UPV s.2 (s.1 - 1) _ j)
    by_cases q : j = s.1 - 1
    · subst q
      rw [UPV.s]
      refine ⟨by rw [et]; exact vt.1, vt.2.1, vt.2.2.1, fun m hm => ?_⟩
      have hm : (m : Int) ≤ (s.2 (s.1 - 1)).1 := hm
      have w := hv m (by have := vt.1; omega)
      exact ⟨w.1, w.2.1, w.2.2.tr (PmE.rf.ml (vt.2.2.2 m hm).2.2)⟩
    · rw [UPV.k q]
      obtain ⟨n1, n2, n3, n4⟩ := GK.nj hU hG' (i := j) (j := s.1 - 1) (by omega) (by omega) q
      exact (vs j (by omega)).sm (Chg.at ch (fun q => n2 (hS _ q))) (Chg.at ch (fun q => n4 (hS _ q)))
  · rw [show (k + 1).toNat = k.toNat + 1 from by omega]; exact ho
  · rw [r, show (k + 1).toNat = k.toNat + 1 from by omega]
    show (VC1 f (kd, z) s).bind _ = _
    rw [VC1.l5 hkd]; rfl
theorem GK.n6 {T : Nat → Nat} {R : RT} {c j : Nat} (hU : UPR T R) (hG : GK T R c) (hj : j < 20) : (¬ SL [(rA R c 4), (rA R (rA R c 4) 1), (rA R (rA R c 0) 1), (rA R (rA R (rA R c 0) 1) 1), (rA R (rA R c 0) 2), (rA R (rA R (rA R c 0) 2) 1)] (KA R c j)) ∧ ¬ SL [(rA R c 4), (rA R (rA R c 4) 1), (rA R (rA R c 0) 1), (rA R (rA R (rA R c 0) 1) 1), (rA R (rA R c 0) 2), (rA R (rA R (rA R c 0) 2) 1)] (rA R (KA R c j) 1) := by
  have hG' := hG
  obtain ⟨tc, ⟨-, t1⟩, gj, -, ⟨r4, f4⟩, ⟨t0, ⟨rl, fl⟩, rr, fr⟩⟩ := hG'
  have a4 := GK.ne hU hG hj f4 r4 (fun q => by rw [← q] at t1; omega)
  have al := GK.ne hU hG hj fl rl (fun q => by rw [← q] at t1; omega)
  have ar := GK.ne hU hG hj fr rr (fun q => by rw [← q] at t1; omega)
  refine ⟨fun e => ?_, fun e => ?_⟩
  · simp only [SL, List.mem_cons, List.not_mem_nil, or_false] at e
    rcases e with e | e | e | e | e | e
    · exact a4.1 e
    · exact a4.2.1 e
    · exact al.1 e
    · exact al.2.1 e
    · exact ar.1 e
    · exact ar.2.1 e
  · simp only [SL, List.mem_cons, List.not_mem_nil, or_false] at e
    rcases e with e | e | e | e | e | e
    · exact a4.2.2.1 e
    · exact a4.2.2.2 e
    · exact al.2.2.1 e
    · exact al.2.2.2 e
    · exact ar.2.2.1 e
    · exact ar.2.2.2 e
theorem VOI.jd {T : Nat → Nat} {R : RT} {I I' : IT} {L L' : LT} {S : Nat → Prop} {W : List (Nat × Nat)} {c : Nat} {p k kd z x : Int} {f : FVV} {l : List (Int × Int)} (h : VOI R I c p f l k) (hU : UPR T R) (hG : GK T R c) (hx : l[k.toNat]? = some (kd, z)) (hk0 : kd ≠ 0) (hk1 : kd ≠ 1) (hk5 : kd ≠ 5) (ch : Chg S T W I L I' L') (hS : ∀ a, S a → a = c ∨ a = KA R c ((I c 5).toInt - 2).toNat ∨ a = rA R (KA R c ((I c 5).toInt - 2).toNat) 1 ∨ SL [(rA R c 4), (rA R (rA R c 4) 1), (rA R (rA R c 0) 1), (rA R (rA R (rA R c 0) 1) 1), (rA R (rA R c 0) 2), (rA R (rA R (rA R c 0) 2) 1)] a) (h5 : (I' c 5).toInt = (I c 5).toInt - 1) (hj : JND R I' I (KA R c ((I c 5).toInt - 2).toNat) (KA R c ((I c 5).toInt - 1).toNat) kd z x p) (h0 : 0 ≤ k) : (x = 0 → VWF f l = none) ∧ (x = 1 → VOI R I' c p f l (k + 1)) := by
  have hge := h.ge hx
  obtain ⟨s, ⟨e, b, vs⟩, ho, r⟩ := h
  have hlt := hge.2.2.2.1 (by omega) (by omega)
  have en : ((I c 5).toInt - 1).toNat = s.1 - 1 := by omega
  have e2 : ((I c 5).toInt - 2).toNat = s.1 - 2 := by omega
  rw [e2] at hS
  rw [en, e2] at hj
  rw [DRP hx] at ho r
  obtain ⟨-, -, -, ho⟩ := ho.c
  have hg1 : HG1 kd = -1 := by unfold HG1; rw [if_neg (by omega), if_neg hk5]
  have ho : HOV (l.drop (k.toNat + 1)) (s.1 + HG1 kd) := ho
  rw [hg1] at ho
  have va := vs (s.1 - 2) (by omega)
  have vb := vs (s.1 - 1) (by omega)
  have pe := VJN.pe (k := kd) (z := z) va.fq vb.fq (fun _ _ => hge.1.2.2) (by have := va.1; have := va.2.1; show (0 : Int) ≤ (I _ 0).toInt; omega)
  have rr : VCL f l VZ = ((VJN kd z (s.2 (s.1 - 2)) (s.2 (s.1 - 1))).bind (fun v => some (s.1 - 1, UPV s.2 (s.1 - 2) v))).bind (VCL f (l.drop (k.toNat + 1))) := by
    rw [r]
    show (VC1 f (kd, z) s).bind _ = _
    rw [VC1.lj hk0 hk1 hk5]
  refine ⟨fun q => ?_, fun q => ?_⟩
  · have z0 := hj.1 q
    rcases pe with ⟨p1, p2⟩ | ⟨v, w, p1, -⟩
    · unfold VWF; rw [rr, p2]; rfl
    · rw [z0] at p1; cases p1
  · obtain ⟨v, z0, z1⟩ := hj.2 q
    rcases pe with ⟨p1, p2⟩ | ⟨v', w, p1, p2, p3⟩
    · rw [z0] at p1; cases p1
    · rw [z0] at p1; cases p1
      refine ⟨(s.1 - 1, UPV s.2 (s.1 - 2) w), ⟨?_, ?_, fun j hj => ?_⟩, ?_, ?_⟩
      · show (I' c 5).toInt = ((s.1 - 1 : Nat) : Int); omega
      · show s.1 - 1 ≤ 20; omega
      · have hj : j < s.1 - 1 := hj
        show VFR R I' (KA R c j) p (UPV s.2 (s.1 - 2) w j)
        by_cases q : j = s.1 - 2
        · subst q
          rw [UPV.s]; exact z1.tr p3
        · rw [UPV.k q]
          have n9 := GK.n6 hU hG (j := j) (by omega)
          obtain ⟨n1, n2, n3, n4⟩ := GK.nj hU hG (i := j) (j := s.1 - 2) (by omega) (by omega) q
          obtain ⟨m1, m2⟩ := GK.nc hG (j := j) (by omega)
          exact (vs j (by omega)).sm (Chg.at ch (fun q => (hS _ q).elim m1 (fun q => q.elim n1 (fun q => q.elim n2 n9.1)))) (Chg.at ch (fun q => (hS _ q).elim m2 (fun q => q.elim n3 (fun q => q.elim n4 n9.2))))
      · rw [show (k + 1).toNat = k.toNat + 1 from by omega]
        show HOV _ ((s.1 - 1 : Nat) : Int)
        rw [show ((s.1 - 1 : Nat) : Int) = (s.1 : Int) + -1 from by omega]; exact ho
      · rw [rr, show (k + 1).toNat = k.toNat + 1 from by omega, p2]; rfl
/-- all that a value changes -/
def CSX (R : RT) (c a : Nat) : Prop := a = c ∨ (∃ j, j < 20 ∧ (a = KA R c j ∨ a = rA R (KA R c j) 1)) ∨ a = rA R c 3 ∨ a = rA R (rA R c 3) 1 ∨ SL [(rA R c 4), (rA R (rA R c 4) 1), (rA R (rA R c 0) 1), (rA R (rA R (rA R c 0) 1) 1), (rA R (rA R c 0) 2), (rA R (rA R (rA R c 0) 2) 1)] a
theorem CSX.f {R : RT} {c a j : Nat} (hj : j < 20) (h : KA R c j = a) : CSX R c a := Or.inr (Or.inl ⟨j, hj, Or.inl h.symm⟩)
theorem CSX.ly {R : RT} {c n a : Nat} (hn : n < 20) (h : a = c ∨ a = KA R c n ∨ a = rA R (KA R c n) 1) : CSX R c a := h.elim Or.inl (fun h => Or.inr (Or.inl ⟨n, hn, h⟩))
theorem CSX.tn {R : RT} {c n a : Nat} (hn : n < 20) (h : a = rA R (KA R c n) 1) : CSX R c a := Or.inr (Or.inl ⟨n, hn, Or.inr h⟩)
theorem CSX.jd {R : RT} {c n a : Nat} (hn : n < 20) (h : a = c ∨ a = KA R c n ∨ a = rA R (KA R c n) 1 ∨ SL [(rA R c 4), (rA R (rA R c 4) 1), (rA R (rA R c 0) 1), (rA R (rA R (rA R c 0) 1) 1), (rA R (rA R c 0) 2), (rA R (rA R (rA R c 0) 2) 1)] a) : CSX R c a := by
  rcases h with h | h | h | h
  · exact Or.inl h
  · exact Or.inr (Or.inl ⟨n, hn, Or.inl h⟩)
  · exact Or.inr (Or.inl ⟨n, hn, Or.inr h⟩)
  · exact Or.inr (Or.inr (Or.inr (Or.inr h)))
theorem CSX.n3 {R : RT} {c z : Nat} (h : rA R c 3 = z) : CSX R c z := Or.inr (Or.inr (Or.inl h.symm))
theorem CSX.n4 {R : RT} {c z w : Nat} (h : rA R c 3 = z) (h2 : rA R z 1 = w) : CSX R c w := Or.inr (Or.inr (Or.inr (Or.inl (by rw [h]; exact h2.symm))))
/-- an array that no form holds; an object that is no form and no calculator -/
theorem CSX.na {T : Nat → Nat} {R : RT} {c a q k : Nat} (hU : UPR T R) (hG : GK T R c) (Ta : T a = 20) (Rq : R q k = some a) (Tq : T q ≠ 3) : ¬ CSX R c a := by
  obtain ⟨tc, -, gj, ⟨-, f3⟩, ⟨-, f4⟩, ⟨-, ⟨-, fl⟩, -, fr⟩⟩ := hG
  have nf : ∀ f, FO T R f → a ≠ f ∧ a ≠ rA R f 1 := fun f hf => ⟨fun e => by rw [e] at Ta; have := hf.1; omega, hU.ne (Or.inr (Or.inr (Or.inr (by omega)))) Rq hf.2.1 (Or.inl (fun e => by rw [e] at Tq; exact Tq hf.1))⟩
  rintro (e | ⟨j, hj, e⟩ | e | e | e)
  · rw [e] at Ta; omega
  · exact e.elim (nf _ (gj j hj).2).1 (nf _ (gj j hj).2).2
  · exact (nf _ f3).1 e
  · exact (nf _ f3).2 e
  · simp only [SL, List.mem_cons, List.not_mem_nil, or_false] at e
    rcases e with e | e | e | e | e | e
    · exact (nf _ f4).1 e
    · exact (nf _ f4).2 e
    · exact (nf _ fl).1 e
    · exact (nf _ fl).2 e
    · exact (nf _ fr).1 e
    · exact (nf _ fr).2 e
theorem CSX.nt {T : Nat → Nat} {R : RT} {c a : Nat} (hG : GK T R c) (h2 : T a ≠ 2) (h3 : T a ≠ 3) (h20 : T a ≠ 20) : ¬ CSX R c a := by
  obtain ⟨tc, -, gj, ⟨-, f3⟩, ⟨-, f4⟩, ⟨-, ⟨-, fl⟩, -, fr⟩⟩ := hG
  have nf : ∀ f, FO T R f → a ≠ f ∧ a ≠ rA R f 1 := fun f hf => ⟨fun e => by rw [e] at h3; exact h3 hf.1, fun e => by rw [e] at h20; exact h20 hf.2.2⟩
  rintro (e | ⟨j, hj, e⟩ | e | e | e)
  · rw [e] at h2; exact h2 tc
  · exact e.elim (nf _ (gj j hj).2).1 (nf _ (gj j hj).2).2
  · exact (nf _ f3).1 e
  · exact (nf _ f3).2 e
  · simp only [SL, List.mem_cons, List.not_mem_nil, or_false] at e
    rcases e with e | e | e | e | e | e
    · exact (nf _ f4).1 e
    · exact (nf _ f4).2 e
    · exact (nf _ fl).1 e
    · exact (nf _ fl).2 e
    · exact (nf _ fr).1 e
    · exact (nf _ fr).2 e
theorem SLN {R : RT} {c z w : Nat} (h : rA R c 3 = z) (h2 : rA R z 1 = w) : ∀ a, SL [z, w] a → a = rA R c 3 ∨ a = rA R (rA R c 3) 1 := fun a q => by
  simp only [SL, List.mem_cons, List.not_mem_nil, or_false] at q
  rcases q with q | q
  · exact Or.inl (q.trans h.symm)
  · exact Or.inr (by rw [h, h2]; exact q)
theorem SLN1 {R : RT} {c z w : Nat} (h : rA R c 3 = z) (h2 : rA R z 1 = w) : ∀ a, SL [w] a → a = rA R c 3 ∨ a = rA R (rA R c 3) 1 := fun a q => by
  simp only [SL, List.mem_cons, List.not_mem_nil, or_false] at q
  exact Or.inr (by rw [h, h2]; exact q)
theorem VFR.src {R : RT} {I I' : IT} {f fb : Nat} {p : Int} (e1 : I' f = I f) (e2 : I' fb = I fb) (z : rA R f 1 = fb) (hb : BNX I fb (I f 0).toInt p) (hd : 0 ≤ (I f 0).toInt ∧ (I f 0).toInt ≤ 40) : VFR R I' f p ((I f 0).toInt, NF I fb) := ⟨by rw [e1], hd.1, hd.2, by rw [z]; exact fun j hj => by rw [e2]; exact ⟨(hb j hj).1, (hb j hj).2, PmE.rf⟩⟩
theorem VFR.num {R : RT} {I1 I2 : IT} {f fb : Nat} {k u : Int32} {p z : Int} (z9 : rA R f 1 = fb) (hd : (I1 f 0).toInt = 0) (st : STD I1 I2 fb k u) (hk : k.toInt = 0) (hu : u.toInt = z % p) (hp : 0 < p) (ne : f ≠ fb) : VFR R I2 f p (0, fun _ => z) := by
  have e := st.1 (by omega) (by omega)
  have k0 : k.toNatClampNeg = 0 := by have := ncz (x := k) (by omega); omega
  refine ⟨by rw [e, u2_r ne]; exact hd, Int.le_refl 0, by show (0 : Int) ≤ 40; decide, fun j hj => ?_⟩
  have hj : (j : Int) ≤ 0 := hj
  have j0 : j = 0 := by omega
  rw [z9, e, k0, j0, u2_s, hu]
  exact ⟨Int.emod_nonneg _ (by omega), Int.emod_lt_of_pos _ hp, PmE.em _⟩
theorem VRX.pi {I9 : IT} {b : Nat} {p p' D : Int} {g : Nat → Int} (h : VRX I9 b p' D g) (e : p' = p) : VRX I9 b p D g := by subst e; exact h
theorem JND.pi {R : RT} {I9 I : IT} {a b : Nat} {k z x p p' : Int} (h : JND R I9 I a b k z x p') (e : p' = p) : JND R I9 I a b k z x p := by subst e; exact h
theorem VPB {I : IT} {b : Nat} {D p p' : Int} (h : BNX I b D p') (e : p' = p) : BNX I b D p := by subst e; exact h
theorem VFR.pq {R : RT} {I : IT} {f : Nat} {p p' : Int} {v : FVV} (h : VFR R I f p' v) (e : p' = p) : VFR R I f p v := by subst e; exact h
/-- a value, or none -/
def VPO (R : RT) (I : IT) (c : Nat) (x : Option Nat) (p : Int) (o : Option FVV) : Prop := (x = none ∧ o = none) ∨ ∃ v, x = some (KA R c 0) ∧ o = some v ∧ VFR R I (KA R c 0) p v
theorem VPO.pq {R : RT} {I : IT} {c : Nat} {x : Option Nat} {p p' : Int} {o : Option FVV} (h : VPO R I c x p' o) (e : p' = p) : VPO R I c x p o := by subst e; exact h
theorem VPO.n {R : RT} {I : IT} {c : Nat} {p : Int} {o : Option FVV} (h : o = none) : VPO R I c none p o := Or.inl ⟨rfl, h⟩
theorem VPO.y {R : RT} {I : IT} {c st : Nat} {x : Option Nat} {k : Int32} {p : Int} {f : FVV} {l : List (Int × Int)} (h : (I c 5).toInt = 1 ∧ ∃ v, VWF f l = some v ∧ VFR R I (KA R c 0) p v) (g : PKD R x st k 20) (hk : k.toInt = 0) (z : rA R c 1 = st) (hr : R st 0 = some (KA R c 0)) : VPO R I c x p (VWF f l) := by
  obtain ⟨-, v, h1, h2⟩ := h
  have e := g.1 (by omega) (by omega)
  rw [show k.toNatClampNeg = 0 from by have := ncz (x := k) (by omega); omega, hr] at e
  exact Or.inr ⟨v, e, h1, h2⟩
theorem fone {T : Nat → Nat} {R : RT} {f g : Nat} (hU : UPR T R) (hf : FO T R f) (hg : FO T R g) (n : f ≠ g) : f ≠ g ∧ f ≠ rA R g 1 ∧ rA R f 1 ≠ g ∧ rA R f 1 ≠ rA R g 1 := ⟨n, fun e => by have := hg.2.2; rw [← e] at this; have := hf.1; omega, fun e => by have := hf.2.2; rw [e] at this; have := hg.1; omega, obneq hU hf hg n⟩
/-- a form that is held elsewhere -/
theorem CSX.fo {T : Nat → Nat} {R : RT} {c f q k : Nat} (hU : UPR T R) (hG : GK T R c) (hf : FO T R f) (hR : R q k = some f) (q1 : q ≠ rA R c 1) (q2 : T q ≠ 2) (q3 : T q ≠ 1) : (¬ CSX R c f) ∧ ¬ CSX R c (rA R f 1) := by
  have hG' := hG
  obtain ⟨tc, -, gj, ⟨r3, f3⟩, ⟨r4, f4⟩, ⟨t0, ⟨rl, fl⟩, rr, fr⟩⟩ := hG'
  have n3 := fone hU hf f3 (hU.ne (Or.inl hf.1) hR r3 (Or.inl (fun e => by rw [e] at q2; exact q2 tc)))
  have n4 := fone hU hf f4 (hU.ne (Or.inl hf.1) hR r4 (Or.inl (fun e => by rw [e] at q2; exact q2 tc)))
  have nl := fone hU hf fl (hU.ne (Or.inl hf.1) hR rl (Or.inl (fun e => by rw [e] at q3; exact q3 t0)))
  have nr := fone hU hf fr (hU.ne (Or.inl hf.1) hR rr (Or.inl (fun e => by rw [e] at q3; exact q3 t0)))
  refine ⟨?_, ?_⟩
  · rintro (e | ⟨j, hj, e⟩ | e | e | e)
    · have := hf.1; rw [e] at this; omega
    · have nj := GK.ne hU hG hj hf hR q1
      exact e.elim (fun e => nj.1 e.symm) (fun e => nj.2.2.1 e.symm)
    · exact n3.1 e
    · exact n3.2.1 e
    · simp only [SL, List.mem_cons, List.not_mem_nil, or_false] at e
      rcases e with e | e | e | e | e | e
      · exact n4.1 e
      · exact n4.2.1 e
      · exact nl.1 e
      · exact nl.2.1 e
      · exact nr.1 e
      · exact nr.2.1 e
  · rintro (e | ⟨j, hj, e⟩ | e | e | e)
    · have := hf.2.2; rw [e] at this; omega
    · have nj := GK.ne hU hG hj hf hR q1
      exact e.elim (fun e => nj.2.1 e.symm) (fun e => nj.2.2.2 e.symm)
    · exact n3.2.2.1 e
    · exact n3.2.2.2 e
    · simp only [SL, List.mem_cons, List.not_mem_nil, or_false] at e
      rcases e with e | e | e | e | e | e
      · exact n4.2.2.1 e
      · exact n4.2.2.2 e
      · exact nl.2.2.1 e
      · exact nl.2.2.2 e
      · exact nr.2.2.1 e
      · exact nr.2.2.2 e
theorem CSX.fa {T : Nat → Nat} {R : RT} {c st f w j : Nat} (hU : UPR T R) (hG : GK T R c) (hS : GS T R st) (hf : FO T R f) (z : rA R st 8 = w) (hR : R w j = some f) : (¬ CSX R c f) ∧ ¬ CSX R c (rA R f 1) := by
  obtain ⟨ts, -, -, ⟨r8, t8⟩, -⟩ := hS
  rw [z] at r8 t8
  have hG' := hG
  obtain ⟨tc, ⟨r1, t1⟩, -⟩ := hG'
  exact CSX.fo hU hG hf hR (hU.ne (Or.inr (Or.inr (Or.inr (by omega)))) r8 r1 (Or.inl (fun e => by rw [e] at ts; omega))) (by omega) (by omega)
theorem hs_GB {T N : Nat → Nat} {R : RT} {A B : Nat → Prop} {f : Nat} (h : hs_G T N R A B f) : B f ∧ B (rA R f 1) := by
  obtain ⟨-, -, h1, b, h2, h3⟩ := h
  rw [rA_e h2]
  exact ⟨h1, h3.2.2⟩
theorem CSX.b {T N : Nat → Nat} {R : RT} {A B : Nat → Prop} {c : Nat} (h : hs_Cc T N R A B c) : ∀ a, CSX R c a → B a := by
  obtain ⟨h1, -, hB, ⟨al, R0, H0⟩, ⟨st, R1, T1, -, -, E1⟩, -, ⟨nu, R3, H3⟩, ⟨re, R4, H4⟩⟩ := h
  obtain ⟨g1, -, -, -, ⟨lf, Rl, Hl⟩, ⟨rg, Rr, Hr⟩⟩ := H0
  have z0 := rA_e R0
  have z1 := rA_e R1
  have z3 := rA_e R3
  have z4 := rA_e R4
  have zl := rA_e Rl
  have zr := rA_e Rr
  rintro a (e | ⟨j, hj, e⟩ | e | e | e)
  · rw [e]; exact hB
  · obtain ⟨f, f1, f2⟩ := E1 j hj
    have zf : KA R c j = f := KA_e z1 f1
    rw [zf] at e
    rcases e with e | e
    · rw [e]; exact (hs_GB f2).1
    · rw [e]; exact (hs_GB f2).2
  · rw [e, z3]; exact (hs_GB H3).1
  · rw [e, z3]; exact (hs_GB H3).2
  · simp only [SL, List.mem_cons, List.not_mem_nil, or_false] at e
    rcases e with e | e | e | e | e | e
    · rw [e, z4]; exact (hs_GB H4).1
    · rw [e, z4]; exact (hs_GB H4).2
    · rw [e, z0, zl]; exact (hs_GB Hl).1
    · rw [e, z0, zl]; exact (hs_GB Hl).2
    · rw [e, z0, zr]; exact (hs_GB Hr).1
    · rw [e, z0, zr]; exact (hs_GB Hr).2
theorem VJN.d0 {k z : Int} {a b v : FVV} (h : VJN k z a b = some v) (ha : 0 ≤ a.1) (hb : 0 ≤ b.1) : 0 ≤ v.1 := by
  unfold VJN at h
  by_cases k2 : k = 2
  · rw [if_pos k2] at h
    by_cases q : a.1 = b.1
    · rw [if_pos q] at h; cases h; exact ha
    · rw [if_neg q] at h; cases h
  · rw [if_neg k2] at h
    by_cases k3 : k = 3
    · rw [if_pos k3] at h
      by_cases q : a.1 + b.1 ≤ 40
      · rw [if_pos q] at h; cases h; show 0 ≤ a.1 + b.1; omega
      · rw [if_neg q] at h; cases h
    · rw [if_neg k3] at h
      by_cases q : z ≤ a.1 ∧ z ≤ b.1 ∧ a.1 + b.1 - 2 * z ≤ 40
      · rw [if_pos q] at h; cases h; show 0 ≤ a.1 + b.1 - 2 * z; omega
      · rw [if_neg q] at h; cases h
/-- two stacks alike -/
def SQV (p : Int) (s t : VST) : Prop := s.1 = t.1 ∧ ∀ j, j < s.1 → FQV p (s.2 j) (t.2 j) ∧ 0 ≤ (s.2 j).1
theorem SQV.u {p : Int} {s t : VST} {n j : Nat} {v w : FVV} (h : SQV p s t) (hn : ∀ i, i < n → i ≠ j → i < s.1) (hv : FQV p v w) (h0 : 0 ≤ v.1) : SQV p (n, UPV s.2 j v) (n, UPV t.2 j w) := ⟨rfl, fun i hi => by
  have hi : i < n := hi
  show FQV p (UPV s.2 j v i) (UPV t.2 j w i) ∧ 0 ≤ (UPV s.2 j v i).1
  by_cases q : i = j
  · rw [q, UPV.s, UPV.s]; exact ⟨hv, h0⟩
  · rw [UPV.k q, UPV.k q]; exact h.2 i (hn i hi q)⟩
theorem VCL.cg {p : Int} {f f' : FVV} (hf : FQV p f f') (h0 : 0 ≤ f.1) : ∀ (l : List (Int × Int)) (s t : VST), SQV p s t → HOV l s.1 → (VCL f l s = none ∧ VCL f' l t = none) ∨ ∃ u w, VCL f l s = some u ∧ VCL f' l t = some w ∧ FQV p (u.2 0) (w.2 0) ∧ 0 ≤ (u.2 0).1
  | [], s, t, q, h => by
    have h1 : (s.1 : Int) = 1 := h.1
    have a := q.2 0 (by omega)
    exact Or.inr ⟨s, t, rfl, rfl, a.1, a.2⟩
  | (kd, z) :: l, s, t, q, h => by
    obtain ⟨⟨a1, a2, a3, a4, a5, a6⟩, b1, b2, hl⟩ := h.c
    have a1 : 0 ≤ kd := a1
    have a2 : kd ≤ 5 := a2
    have a3 : 0 ≤ z := a3
    have a6 : 2 ≤ kd → kd ≤ 4 → 2 ≤ (s.1 : Int) ∧ (s.1 : Int) ≤ 20 := a6
    have b1 : kd = 5 → 1 ≤ (s.1 : Int) := b1
    have hl : HOV l (s.1 + HG1 kd) := hl
    have e := q.1
    by_cases k0 : kd = 0
    · have hg : HG1 kd = 1 := by unfold HG1; rw [if_pos (by omega)]
      rw [hg] at hl
      have r := VCL.cg hf h0 l (s.1 + 1, UPV s.2 s.1 f) (t.1 + 1, UPV t.2 t.1 f') (by rw [← e]; exact q.u (fun i hi hn => by omega) hf h0) (by show HOV l ((s.1 + 1 : Nat) : Int); rw [show ((s.1 + 1 : Nat) : Int) = (s.1 : Int) + 1 from by omega]; exact hl)
      show ((VC1 f (kd, z) s).bind (VCL f l) = none ∧ (VC1 f' (kd, z) t).bind (VCL f' l) = none) ∨ ∃ u w, (VC1 f (kd, z) s).bind (VCL f l) = some u ∧ (VC1 f' (kd, z) t).bind (VCL f' l) = some w ∧ FQV p (u.2 0) (w.2 0) ∧ 0 ≤ (u.2 0).1
      rw [VC1.l0 k0, VC1.l0 k0]; exact r
    · by_cases k1 : kd = 1
      · have hg : HG1 kd = 1 := by unfold HG1; rw [if_pos (by omega)]
        rw [hg] at hl
        have r := VCL.cg hf h0 l (s.1 + 1, UPV s.2 s.1 (0, fun _ => z)) (t.1 + 1, UPV t.2 t.1 (0, fun _ => z)) (by rw [← e]; exact q.u (fun i hi hn => by omega) ⟨rfl, fun _ _ => PmE.rf⟩ (Int.le_refl 0)) (by show HOV l ((s.1 + 1 : Nat) : Int); rw [show ((s.1 + 1 : Nat) : Int) = (s.1 : Int) + 1 from by omega]; exact hl)
        show ((VC1 f (kd, z) s).bind (VCL f l) = none ∧ (VC1 f' (kd, z) t).bind (VCL f' l) = none) ∨ ∃ u w, (VC1 f (kd, z) s).bind (VCL f l) = some u ∧ (VC1 f' (kd, z) t).bind (VCL f' l) = some w ∧ FQV p (u.2 0) (w.2 0) ∧ 0 ≤ (u.2 0).1
        rw [VC1.l1 k1, VC1.l1 k1]; exact r
      · by_cases k5 : kd = 5
        · have hg : HG1 kd = 0 := by unfold HG1; rw [if_neg (by omega), if_pos k5]
          rw [hg, Int.add_zero] at hl
          have at1 := q.2 (s.1 - 1) (by have := b1 k5; omega)
          have r := VCL.cg hf h0 l (s.1, UPV s.2 (s.1 - 1) ((s.2 (s.1 - 1)).1, fun m => -1 * (s.2 (s.1 - 1)).2 m)) (t.1, UPV t.2 (t.1 - 1) ((t.2 (t.1 - 1)).1, fun m => -1 * (t.2 (t.1 - 1)).2 m)) (by rw [← e]; exact q.u (fun i hi hn => hi) ⟨at1.1.1, fun m hm => PmE.rf.ml (at1.1.2 m hm)⟩ at1.2) hl
          show ((VC1 f (kd, z) s).bind (VCL f l) = none ∧ (VC1 f' (kd, z) t).bind (VCL f' l) = none) ∨ ∃ u w, (VC1 f (kd, z) s).bind (VCL f l) = some u ∧ (VC1 f' (kd, z) t).bind (VCL f' l) = some w ∧ FQV p (u.2 0) (w.2 0) ∧ 0 ≤ (u.2 0).1
          rw [VC1.l5 k5, VC1.l5 k5]; exact r
        · have hg : HG1 kd = -1 := by unfold HG1; rw [if_neg (by omega), if_neg k5]
          rw [hg] at hl
          have h2 := a6 (by omega) (by omega)
          have at1 := q.2 (s.1 - 1) (by omega)
          have at2 := q.2 (s.1 - 2) (by omega)
          have pe := VJN.pe (k := kd) (z := z) at2.1 at1.1 (fun _ _ => a3) at2.2
          show ((VC1 f (kd, z) s).bind (VCL f l) = none ∧ (VC1 f' (kd, z) t).bind (VCL f' l) = none) ∨ ∃ u w, (VC1 f (kd, z) s).bind (VCL f l) = some u ∧ (VC1 f' (kd, z) t).bind (VCL f' l) = some w ∧ FQV p (u.2 0) (w.2 0) ∧ 0 ≤ (u.2 0).1
          rw [VC1.lj k0 k1 k5, VC1.lj k0 k1 k5, ← e]
          rcases pe with ⟨p1, p2⟩ | ⟨v, w, p1, p2, p3⟩
          · rw [p1, p2]; exact Or.inl ⟨rfl, rfl⟩
          · rw [p1, p2]
            exact VCL.cg hf h0 l (s.1 - 1, UPV s.2 (s.1 - 2) v) (s.1 - 1, UPV t.2 (s.1 - 2) w) (q.u (fun i hi hn => by omega) p3 (VJN.d0 p1 at2.2 at1.2)) (by show HOV l ((s.1 - 1 : Nat) : Int); rw [show ((s.1 - 1 : Nat) : Int) = (s.1 : Int) + -1 from by omega]; exact hl)
theorem VWF.cg {p : Int} {f f' : FVV} {l : List (Int × Int)} (hf : FQV p f f') (h0 : 0 ≤ f.1) (h : HOV l 0) : OQV p (VWF f l) (VWF f' l) := by
  have r := VCL.cg hf h0 l VZ VZ ⟨rfl, fun j hj => absurd hj (Nat.not_lt_zero _)⟩ h
  unfold VWF
  rcases r with ⟨r1, r2⟩ | ⟨u, w, r1, r2, r3, -⟩
  · rw [r1, r2]; exact Or.inl ⟨rfl, rfl⟩
  · rw [r1, r2]; exact Or.inr ⟨_, _, rfl, rfl, r3⟩
/-- the k-th number of a value, its degree, or none -/
def VQ (x p : Int) (o : Option FVV) (k : Int) : Prop := (o = none ∧ x = -2) ∨ ∃ v, o = some v ∧ OVQ x p v.1 k v.2
theorem VQ.u {x y p k : Int} {o o' : Option FVV} (h : VQ x p o k) (g : VQ y p o' k) (e : OQV p o o') : x = y := by
  rcases e with ⟨e1, e2⟩ | ⟨v, w, e1, e2, e3, e4⟩
  · rcases h with ⟨-, h⟩ | ⟨v, h, -⟩
    · rcases g with ⟨-, g⟩ | ⟨v, g, -⟩
      · omega
      · rw [e2] at g; cases g
    · rw [e1] at h; cases h
  · rcases h with ⟨h, -⟩ | ⟨v', h, h2⟩
    · rw [e1] at h; cases h
    · rcases g with ⟨g, -⟩ | ⟨w', g, g2⟩
      · rw [e2] at g; cases g
      · rw [e1] at h; cases h
        rw [e2] at g; cases g
        rw [← e3] at g2
        exact OVQ.u h2 g2 e4
theorem VQ.n {R : RT} {I : IT} {c : Nat} {x p k : Int} {o : Option FVV} (h : VPO R I c none p o) (hx : x = -2) : VQ x p o k := by
  rcases h with ⟨-, h⟩ | ⟨v, h, -⟩
  · exact Or.inl ⟨h, hx⟩
  · cases h
theorem VQ.y {R : RT} {I : IT} {c b : Nat} {x p k : Int} {o : Option FVV} (h : VPO R I c (some b) p o) (d : DON x (I b 0).toInt (fun j => (I (rA R b 1) j).toInt) k) : VQ x p o k := by
  rcases h with ⟨h, -⟩ | ⟨v, h, h2, h3⟩
  · cases h
  · cases h
    exact Or.inr ⟨v, h2, OVQ.of h3.2.2.2 d h3.1⟩
theorem VPO.b {R : RT} {I : IT} {c b : Nat} {p : Int} {o : Option FVV} (h : VPO R I c (some b) p o) : KA R c 0 = b := by
  rcases h with ⟨h, -⟩ | ⟨v, h, -⟩
  · cases h
  · cases h; rfl
theorem s_X1_valueOf_x {d : Nat} {T N : Nat → Nat} {I : IT} {L : LT} {R : RT} {A B : Nat → Prop} {r0 r1 r2 : Nat} (hS : SUB B A) (hI : IX A T I) (H_r0 : (hs_Cc T N R A B) r0) (H_r1 : (hs_Sg T N R A B) r1) (H_r2 : (hs_F T N R A B) r2) (hU : UPR T R) (hp0 : 0 ≤ (I r1 2).toInt ∧ (I r1 2).toInt ≤ 160) (hp1 : HOV (STL R I r1) 0) (hp2 : (¬ CSX R r0 r2) ∧ ¬ CSX R r0 (rA R r2 1)) (hp3 : BNX I (rA R r2 1) (I r2 0).toInt (I (rA R (rA R r0 0) 0) 0).toInt) : Ex (d + 6) 41 [.ref r0, .ref r1, .ref r2] (T, N, I, L, R) 0 0 (pR T N R (fun x9 I9 L9 => (∀ b, x9 = some b → (hs_G T N R A B) b) ∧ (VPO R I9 r0 x9 (I (rA R (rA R r0 0) 0) 0).toInt (VWF ((I r2 0).toInt, NF I (rA R r2 1)) (STL R I r1))) ∧ (IX A T I9 ∧ Chg (CSX R r0) T [(2, 5), (3, 0)] I L I9 L9))) := by
  refine ⟨_, rfl, Nat.le_of_ble_eq_true rfl, fun V C S => ?_⟩
  show V 0 [(0, .ref r0), (1, .ref r1), (2, .ref r2)] [] (T, N, I, L, R) 0 0
  obtain ⟨T_r0, A_r0, B_r0, ⟨r0_0, R_r0_0, H_r0_0⟩, ⟨r0_1, R_r0_1, H_r0_1⟩, ⟨r0_2, R_r0_2, H_r0_2⟩, ⟨r0_3, R_r0_3, H_r0_3⟩, ⟨r0_4, R_r0_4, H_r0_4⟩⟩ := id H_r0
  have z_r0_0 : rA R r0 0 = r0_0 := rA_e R_r0_0
  have z_r0_1 : rA R r0 1 = r0_1 := rA_e R_r0_1
  have z_r0_2 : rA R r0 2 = r0_2 := rA_e R_r0_2
  have z_r0_3 : rA R r0 3 = r0_3 := rA_e R_r0_3
  have z_r0_4 : rA R r0 4 = r0_4 := rA_e R_r0_4
  obtain ⟨T_r0_0, A_r0_0, B_r0_0, ⟨r0_0_0, R_r0_0_0, H_r0_0_0⟩, ⟨r0_0_1, R_r0_0_1, H_r0_0_1⟩, ⟨r0_0_2, R_r0_0_2, H_r0_0_2⟩⟩ := id H_r0_0
  have z_r0_0_0 : rA R r0_0 0 = r0_0_0 := rA_e R_r0_0_0
  have z_r0_0_1 : rA R r0_0 1 = r0_0_1 := rA_e R_r0_0_1
  have z_r0_0_2 : rA R r0_0 2 = r0_0_2 := rA_e R_r0_0_2
  obtain ⟨T_r0_0_0, A_r0_0_0, B_r0_0_0, ⟨r0_0_0_6, R_r0_0_0_6, H_r0_0_0_6⟩, ⟨r0_0_0_7, R_r0_0_0_7, H_r0_0_0_7⟩, ⟨r0_0_0_8, R_r0_0_0_8, H_r0_0_0_8⟩, ⟨r0_0_0_9, R_r0_0_0_9, H_r0_0_0_9⟩, ⟨r0_0_0_10, R_r0_0_0_10, H_r0_0_0_10⟩⟩ := id H_r0_0_0
  have z_r0_0_0_6 : rA R r0_0_0 6 = r0_0_0_6 := rA_e R_r0_0_0_6
  have z_r0_0_0_7 : rA R r0_0_0 7 = r0_0_0_7 := rA_e R_r0_0_0_7
  have z_r0_0_0_8 : rA R r0_0_0 8 = r0_0_0_8 := rA_e R_r0_0_0_8
  have z_r0_0_0_9 : rA R r0_0_0 9 = r0_0_0_9 := rA_e R_r0_0_0_9
  have z_r0_0_0_10 : rA R r0_0_0 10 = r0_0_0_10 := rA_e R_r0_0_0_10
  obtain ⟨T_r0_1, N_r0_1, A_r0_1, E_r0_1⟩ := id H_r0_1
  obtain ⟨T_r0_3, A_r0_3, B_r0_3, ⟨r0_3_1, R_r0_3_1, H_r0_3_1⟩⟩ := id H_r0_3
  have z_r0_3_1 : rA R r0_3 1 = r0_3_1 := rA_e R_r0_3_1
  obtain ⟨T_r0_3_1, N_r0_3_1, A_r0_3_1⟩ := id H_r0_3_1
  obtain ⟨T_r1, A_r1, ⟨r1_0, R_r1_0, H_r1_0⟩, ⟨r1_1, R_r1_1, H_r1_1⟩⟩ := id H_r1
  have z_r1_0 : rA R r1 0 = r1_0 := rA_e R_r1_0
  have z_r1_1 : rA R r1 1 = r1_1 := rA_e R_r1_1
  obtain ⟨T_r1_0, N_r1_0, A_r1_0⟩ := id H_r1_0
  obtain ⟨T_r1_1, N_r1_1, A_r1_1⟩ := id H_r1_1
  obtain ⟨T_r2, A_r2, ⟨r2_1, R_r2_1, H_r2_1⟩⟩ := id H_r2
  have z_r2_1 : rA R r2 1 = r2_1 := rA_e R_r2_1
  obtain ⟨T_r2_1, N_r2_1, A_r2_1⟩ := id H_r2_1
  have gK := GK.of hS H_r0
  have hn0 := CSX.na hU gK T_r1_0 R_r1_0 (by omega)
  have hn1 := CSX.na hU gK T_r1_1 R_r1_1 (by omega)
  try simp only [z_r0_0, z_r0_1, z_r0_2, z_r0_3, z_r0_4, z_r0_0_0, z_r0_0_1, z_r0_0_2, z_r0_0_0_6, z_r0_0_0_7, z_r0_0_0_8, z_r0_0_0_9, z_r0_0_0_10, z_r0_3_1, z_r1_0, z_r1_1, z_r2_1] at hp0
  try simp only [z_r0_0, z_r0_1, z_r0_2, z_r0_3, z_r0_4, z_r0_0_0, z_r0_0_1, z_r0_0_2, z_r0_0_0_6, z_r0_0_0_7, z_r0_0_0_8, z_r0_0_0_9, z_r0_0_0_10, z_r0_3_1, z_r1_0, z_r1_1, z_r2_1] at hp1
  try simp only [z_r0_0, z_r0_1, z_r0_2, z_r0_3, z_r0_4, z_r0_0_0, z_r0_0_1, z_r0_0_2, z_r0_0_0_6, z_r0_0_0_7, z_r0_0_0_8, z_r0_0_0_9, z_r0_0_0_10, z_r0_3_1, z_r1_0, z_r1_1, z_r2_1] at hp2
  try simp only [z_r0_0, z_r0_1, z_r0_2, z_r0_3, z_r0_4, z_r0_0_0, z_r0_0_1, z_r0_0_2, z_r0_0_0_6, z_r0_0_0_7, z_r0_0_0_8, z_r0_0_0_9, z_r0_0_0_10, z_r0_3_1, z_r1_0, z_r1_1, z_r2_1] at hp3
  obtain ⟨w_r1_2, k0_r1_2⟩ : ∃ x, I r1 2 = x := ⟨_, rfl⟩
  have gw_r1_2 := rg w_r1_2
  obtain ⟨w_r0_0_0_0, k0_r0_0_0_0⟩ : ∃ x, I r0_0_0 0 = x := ⟨_, rfl⟩
  have gw_r0_0_0_0 := rg w_r0_0_0_0
  have ow_r0_0_0_0 := IX.p hI A_r0_0_0 T_r0_0_0 k0_r0_0_0_0
  try simp only [k0_r1_2, k0_r0_0_0_0] at hp0
  try simp only [k0_r1_2, k0_r0_0_0_0] at hp1
  try simp only [k0_r1_2, k0_r0_0_0_0] at hp2
  try simp only [k0_r1_2, k0_r0_0_0_0] at hp3
  try simp only [k0_r0_0_0_0] at hp3
  have hd2 := IX.deg hI A_r2 T_r2 rfl
  have nq13 : r1_1 ≠ r0_3_1 := hU.ne (t20 T_r1_1) R_r1_1 R_r0_3_1 (Or.inl (t_nq T_r1 T_r0_3 (by decide)))
  refine k_aload_n C rfl rfl rfl ?_
  refine z_iconst C (z := 0) rfl rfl rfl (fun x1 ex1 => ?_)
  refine z_pI C rfl rfl rfl T_r0 (Or.inr rfl) rfl (fun I2 uI2 => ?_)
  have hI2 : IX A T I2 := IX.f hI T_r0 (boX.tr (by decide) (by decide)) uI2
  have S3 : Chg (SL [r0]) T [(2, 5)] I L I2 L := Chg.f List.mem_cons_self T_r0 uI2
  have e4 := u2_j uI2 (by decide) k0_r1_2
  have e5 := u2_j uI2 (by decide) k0_r0_0_0_0
  have e6 := u2_e uI2
  refine z_iconst C (z := 0) rfl rfl rfl (fun x7 ex7 => ?_)
  have J8 : ∀ (nn9 : Nat) (I10 : IT) (L11 : LT) (x12 : Int32), (MN (2147483647 - x12.toInt) nn9) → (IX A T I10) → (Chg (CSX R r0) T [(2, 5), (3, 0)] I2 L I10 L11) → (0 ≤ x12.toInt) → (VOI R I10 r0 w_r0_0_0_0.toInt ((I r2 0).toInt, NF I r2_1) (STL R I r1) x12.toInt) → (x12.toInt ≤ w_r1_2.toInt) → V 7 [(0, .ref r0), (1, .ref r1), (2, .ref r2), (3, .int x12)] [] (T, N, I10, L11, R) 0 0 := by
    intro nn9
    induction nn9 using Nat.strongRecOn with
    | _ nn9 ihJ8 =>
      intro I10 L11 x12 hmnn9 hI15 S14 b13 ff7_0 ff7_1
      have gx12 := rg x12
      have e18 := Chg.k S14 T_r1 (by decide) (by decide) e4
      have e19 := Chg.k S14 T_r0_0_0 (by decide) (by decide) e5
      refine k_iload_n C rfl rfl rfl ?_
      refine k_aload_n C rfl rfl rfl ?_
      refine g_I C rfl rfl rfl T_r1 rfl e18 ?_
      refine b_icmp_ge C (t := 126) rfl rfl rfl (fun c20 => ?_) (fun c20 => ?_)
      · skip
        refine k_aload_n C rfl rfl rfl ?_
        refine z_gI C rfl rfl rfl T_r0 rfl (fun x21 ex21 => ?_)
        have gx21 := rg x21
        refine z_iconst C (z := 1) rfl rfl rfl (fun x22 ex22 => ?_)
        have h131 := congrArg Int32.toInt ex21
        refine b_icmp_ne C (t := 145) rfl rfl rfl (fun c23 => ?_) (fun c23 => ?_)
        · skip
          refine k_null C rfl rfl ?_
          exact k_aret C (x := none) rfl (Or.inl ⟨_, rfl⟩) (Nat.le_of_ble_eq_true rfl) (Nat.le_of_ble_eq_true rfl) ⟨_, _, _, rfl, rfl, fz, by (try simp only [z_r0_0, z_r0_1, z_r0_2, z_r0_3, z_r0_4, z_r0_0_0, z_r0_0_1, z_r0_0_2, z_r0_0_0_6, z_r0_0_0_7, z_r0_0_0_8, z_r0_0_0_9, z_r0_0_0_10, z_r0_3_1, z_r1_0, z_r1_1, z_r2_1]); have hon := ff7_0.one (by have h9 := STL.len (R := R) (I := I) (o := r1); rw [k0_r1_2] at h9; omega); first | (exfalso; have := hon.1; omega) | exact VPO.pq (VPO.y hon hpk (by omega) z_r0_1 (by rw [← z_r0_1]; exact (gK.2.2.1 0 (by decide)).1)) (by rw [k0_r0_0_0_0]), hI15, (Chg.cons (Chg.up S3 (sl_1 (Or.inl rfl))) (Chg.mono S14 (by decide)) (by decide))⟩
        refine k_aload_n C rfl rfl rfl ?_
        refine g_R C rfl rfl rfl T_r0 rfl R_r0_1 ?_
        refine z_iconst C (z := 0) rfl rfl rfl (fun x24 ex24 => ?_)
        refine c_SR C (s_X2_pick_Row20_x hS hI15 H_r0_1) rfl rfl rfl rfl rfl rfl rfl (Nat.le_of_ble_eq_true rfl) (Nat.le_of_ble_eq_true rfl) (Nat.le_of_ble_eq_true rfl) ?_
        rintro yy25 _ _ ⟨hyy25, p0yy25, rfl, rfl⟩
        try simp only [z_r0_0, z_r0_1, z_r0_2, z_r0_3, z_r0_4, z_r0_0_0, z_r0_0_1, z_r0_0_2, z_r0_0_0_6, z_r0_0_0_7, z_r0_0_0_8, z_r0_0_0_9, z_r0_0_0_10, z_r0_3_1, z_r1_0, z_r1_1, z_r2_1] at p0yy25
        try simp only [e18, e19, ex21] at p0yy25
        try have q0yy25 := congrArg Int32.toInt p0yy25
        have hpk := p0yy25; rw [N_r0_1] at hpk
        refine k_goto C (pc2 := 146) rfl rfl ?_
        exact k_aret C (x := yy25) rfl (Or.inl ⟨_, rfl⟩) (Nat.le_of_ble_eq_true rfl) (Nat.le_of_ble_eq_true rfl) ⟨_, _, _, rfl, rfl, hyy25, by (try simp only [z_r0_0, z_r0_1, z_r0_2, z_r0_3, z_r0_4, z_r0_0_0, z_r0_0_1, z_r0_0_2, z_r0_0_0_6, z_r0_0_0_7, z_r0_0_0_8, z_r0_0_0_9, z_r0_0_0_10, z_r0_3_1, z_r1_0, z_r1_1, z_r2_1]); have hon := ff7_0.one (by have h9 := STL.len (R := R) (I := I) (o := r1); rw [k0_r1_2] at h9; omega); first | (exfalso; have := hon.1; omega) | exact VPO.pq (VPO.y hon hpk (by omega) z_r0_1 (by rw [← z_r0_1]; exact (gK.2.2.1 0 (by decide)).1)) (by rw [k0_r0_0_0_0]), hI15, (Chg.cons (Chg.up S3 (sl_1 (Or.inl rfl))) (Chg.mono S14 (by decide)) (by decide))⟩
      refine k_aload_n C rfl rfl rfl ?_
      refine k_iload_n C rfl rfl rfl ?_
      have hFR := (((Chg.cons (Chg.up S3 (sl_1 (Or.inl rfl))) (Chg.mono S14 (by decide)) (by decide)) : Chg (CSX R r0) T [(2, 5), (3, 0)] I L I10 L11))
      refine c_VI C (s_X7_kindAt_x hS hI15 H_r1) rfl rfl rfl rfl rfl ⟨_, rfl, rfl, T_r1, Nat.le_of_ble_eq_true rfl⟩ rfl rfl (Nat.le_of_ble_eq_true rfl) (Nat.le_of_ble_eq_true rfl) (Nat.le_of_ble_eq_true rfl) ?_
      rintro x26 _ _ ⟨p0x26, rfl, rfl⟩
      have gx26 := rg x26
      try simp only [z_r0_0, z_r0_1, z_r0_2, z_r0_3, z_r0_4, z_r0_0_0, z_r0_0_1, z_r0_0_2, z_r0_0_0_6, z_r0_0_0_7, z_r0_0_0_8, z_r0_0_0_9, z_r0_0_0_10, z_r0_3_1, z_r1_0, z_r1_1, z_r2_1] at p0x26
      try simp only [e18, e19] at p0x26
      try have q0x26 := congrArg Int32.toInt p0x26
      have hkd := p0x26; have hk0 := Chg.at hFR hn0; have hk1 := Chg.at hFR hn1; have hel := STL.get (R := R) (I := I) (k := x12) z_r1_0 z_r1_1 k0_r1_2 (by omega) (by omega); have hkd := hkd (by omega) (by omega); rw [hk0] at hkd; rw [hkd] at hel; have hg := ff7_0.ge hel
      refine k_istore C (lw := [(4, .int x26), (0, .ref r0), (1, .ref r1), (2, .ref r2), (3, .int x12)]) rfl rfl (Nat.le_of_ble_eq_true rfl) rfl ?_
      refine k_iload C rfl rfl rfl ?_
      refine b_if_ne C (t := 37) rfl rfl rfl (fun c27 => ?_) (fun c27 => ?_)
      · skip
        refine k_iload C rfl rfl rfl ?_
        refine z_iconst C (z := 1) rfl rfl rfl (fun x28 ex28 => ?_)
        refine b_icmp_ne C (t := 85) rfl rfl rfl (fun c29 => ?_) (fun c29 => ?_)
        · skip
          refine k_iload C rfl rfl rfl ?_
          refine z_iconst C (z := 5) rfl rfl rfl (fun x30 ex30 => ?_)
          refine b_icmp_ne C (t := 100) rfl rfl rfl (fun c31 => ?_) (fun c31 => ?_)
          · skip
            refine k_aload_n C rfl rfl rfl ?_
            refine k_iload C rfl rfl rfl ?_
            refine k_aload_n C rfl rfl rfl ?_
            refine k_iload_n C rfl rfl rfl ?_
            refine c_VI C (s_X7_sizeAt_x hS hI15 H_r1) rfl rfl rfl rfl rfl ⟨_, rfl, rfl, T_r1, Nat.le_of_ble_eq_true rfl⟩ rfl rfl (Nat.le_of_ble_eq_true rfl) (Nat.le_of_ble_eq_true rfl) (Nat.le_of_ble_eq_true rfl) ?_
            rintro x32 _ _ ⟨p0x32, rfl, rfl⟩
            have gx32 := rg x32
            try simp only [z_r0_0, z_r0_1, z_r0_2, z_r0_3, z_r0_4, z_r0_0_0, z_r0_0_1, z_r0_0_2, z_r0_0_0_6, z_r0_0_0_7, z_r0_0_0_8, z_r0_0_0_9, z_r0_0_0_10, z_r0_3_1, z_r1_0, z_r1_1, z_r2_1] at p0x32
            try simp only [e18, e19] at p0x32
            try have q0x32 := congrArg Int32.toInt p0x32
            have hs105 := p0x32 (by omega) (by omega); rw [hk1] at hs105; rw [hs105] at hel; have hg := ff7_0.ge hel
            have hg6 := hg.2.2.2.1 (by omega) (by omega); have n9 : ((I10 r0 5).toInt - 2).toNat < 20 := (by omega)
            refine c_VI C (s_X1_isJoined_x hS hI15 H_r0 hU hg6 (by rw [z_r0_0, z_r0_0_0, e19]; exact VPB (ff7_0.bn _ (by omega)) (by omega)) (by rw [z_r0_0, z_r0_0_0, e19]; exact VPB (ff7_0.bn _ (by omega)) (by omega)) (fun a b => ⟨hg.1.2.2, hg.2.2.2.2 (by omega)⟩)) rfl rfl rfl rfl rfl ⟨_, rfl, rfl, T_r0, Nat.le_of_ble_eq_true rfl⟩ rfl rfl (Nat.le_of_ble_eq_true rfl) (Nat.le_of_ble_eq_true rfl) (Nat.le_of_ble_eq_true rfl) ?_
            rintro x33 I34 L35 ⟨o0x33, o1x33, p0x33, p1x33, hI34, S36⟩
            try simp only [z_r0_0, z_r0_1, z_r0_2, z_r0_3, z_r0_4, z_r0_0_0, z_r0_0_1, z_r0_0_2, z_r0_0_0_6, z_r0_0_0_7, z_r0_0_0_8, z_r0_0_0_9, z_r0_0_0_10, z_r0_3_1, z_r1_0, z_r1_1, z_r2_1] at S36
            have e37 := Chg.k S36 T_r1 (by decide) (by decide) e18
            have e38 := Chg.k S36 T_r0_0_0 (by decide) (by decide) e19
            have gx33 := rg x33
            try simp only [z_r0_0, z_r0_1, z_r0_2, z_r0_3, z_r0_4, z_r0_0_0, z_r0_0_1, z_r0_0_2, z_r0_0_0_6, z_r0_0_0_7, z_r0_0_0_8, z_r0_0_0_9, z_r0_0_0_10, z_r0_3_1, z_r1_0, z_r1_1, z_r2_1] at p0x33
            try simp only [z_r0_0, z_r0_1, z_r0_2, z_r0_3, z_r0_4, z_r0_0_0, z_r0_0_1, z_r0_0_2, z_r0_0_0_6, z_r0_0_0_7, z_r0_0_0_8, z_r0_0_0_9, z_r0_0_0_10, z_r0_3_1, z_r1_0, z_r1_1, z_r2_1] at p1x33
            try simp only [e18, e19] at p0x33
            try have q0x33 := congrArg Int32.toInt p0x33
            try simp only [e18, e19] at p1x33
            try have q1x33 := congrArg Int32.toInt p1x33
            have hv9 := VOI.jd ff7_0 hU gK hel (by omega) (by omega) (by omega) S36 (fun _ h => by rw [z_r0_0, z_r0_4, z_r0_0_1, z_r0_0_2]; exact h) p0x33 (JND.pi p1x33 (by omega)) (by omega)
            refine k_istore C (lw := [(5, .int x33), (4, .int x26), (0, .ref r0), (1, .ref r1), (2, .ref r2), (3, .int x12)]) rfl rfl (Nat.le_of_ble_eq_true rfl) rfl ?_
            refine k_iload C rfl rfl rfl ?_
            refine b_if_ne C (t := 120) rfl rfl rfl (fun c39 => ?_) (fun c39 => ?_)
            · skip
              refine z_iinc C (z := 1) (lw := fun x40 => [(3, .int x40), (5, .int x33), (4, .int x26), (0, .ref r0), (1, .ref r1), (2, .ref r2)]) rfl rfl rfl (Nat.le_of_ble_eq_true rfl) rfl ⟨by omega, by omega⟩ (fun _ => rfl) (fun x40 ex40 => ?_)
              show V 123 [(3, .int x40), (5, .int x33), (4, .int x26), (0, .ref r0), (1, .ref r1), (2, .ref r2)] _ _ _ _
              refine k_goto C (pc2 := 7) rfl rfl ?_
              refine k_sub S [(0, .ref r0), (1, .ref r1), (2, .ref r2), (3, .int x40)] (List.forall_mem_cons.mpr ⟨List.mem_of_getElem? (i := 3) rfl, List.forall_mem_cons.mpr ⟨List.mem_of_getElem? (i := 4) rfl, List.forall_mem_cons.mpr ⟨List.mem_of_getElem? (i := 5) rfl, List.forall_mem_cons.mpr ⟨List.mem_of_getElem? (i := 0) rfl, fun _ h => nomatch h⟩⟩⟩⟩) ?_
              exact ihJ8 _ (MN.lt hmnn9 (by omega) (by omega)) I34 L35 x40 rfl hI34 (Chg.cons S14 (Chg.mono (Chg.up S36 (fun _ h => CSX.jd n9 (by rw [z_r0_0, z_r0_4, z_r0_0_1, z_r0_0_2]; exact h))) (by decide)) (by decide)) (by omega) (by first | exact VOI.k hv (by omega) | exact VOI.k (hv9.2 (by omega)) (by omega)) (by omega)
            refine k_null C rfl rfl ?_
            exact k_aret C (x := none) rfl (Or.inl ⟨_, rfl⟩) (Nat.le_of_ble_eq_true rfl) (Nat.le_of_ble_eq_true rfl) ⟨_, _, _, rfl, rfl, fz, by (try simp only [z_r0_0, z_r0_1, z_r0_2, z_r0_3, z_r0_4, z_r0_0_0, z_r0_0_1, z_r0_0_2, z_r0_0_0_6, z_r0_0_0_7, z_r0_0_0_8, z_r0_0_0_9, z_r0_0_0_10, z_r0_3_1, z_r1_0, z_r1_1, z_r2_1]); first | (exfalso; omega) | exact VPO.n (hv9.1 (by omega)), hI34, (Chg.cons (Chg.up S3 (sl_1 (Or.inl rfl))) (Chg.cons S14 (Chg.mono (Chg.up S36 (fun _ h => CSX.jd n9 (by rw [z_r0_0, z_r0_4, z_r0_0_1, z_r0_0_2]; exact h))) (by decide)) (by decide)) (by decide))⟩
          refine k_aload_n C rfl rfl rfl ?_
          have hg5 := hg.2.2.1 (by omega); have n9 : ((I10 r0 5).toInt - 1).toNat < 20 := (by omega)
          refine c_VI C (s_X1_isTurned_x hS hI15 H_r0 hU hg5 (by rw [z_r0_0, z_r0_0_0, e19]; exact VPB (ff7_0.bn _ (by omega)) (by omega))) rfl rfl rfl rfl rfl ⟨_, rfl, rfl, T_r0, Nat.le_of_ble_eq_true rfl⟩ rfl rfl (Nat.le_of_ble_eq_true rfl) (Nat.le_of_ble_eq_true rfl) (Nat.le_of_ble_eq_true rfl) ?_
          rintro x41 I42 L43 ⟨o0x41, o1x41, p0x41, p1x41, hI42, S44⟩
          try simp only [z_r0_0, z_r0_1, z_r0_2, z_r0_3, z_r0_4, z_r0_0_0, z_r0_0_1, z_r0_0_2, z_r0_0_0_6, z_r0_0_0_7, z_r0_0_0_8, z_r0_0_0_9, z_r0_0_0_10, z_r0_3_1, z_r1_0, z_r1_1, z_r2_1] at S44
          have e45 := Chg.k S44 T_r1 (by decide) (by decide) e18
          have e46 := Chg.k S44 T_r0_0_0 (by decide) (by decide) e19
          have gx41 := rg x41
          try simp only [z_r0_0, z_r0_1, z_r0_2, z_r0_3, z_r0_4, z_r0_0_0, z_r0_0_1, z_r0_0_2, z_r0_0_0_6, z_r0_0_0_7, z_r0_0_0_8, z_r0_0_0_9, z_r0_0_0_10, z_r0_3_1, z_r1_0, z_r1_1, z_r2_1] at p0x41
          try simp only [z_r0_0, z_r0_1, z_r0_2, z_r0_3, z_r0_4, z_r0_0_0, z_r0_0_1, z_r0_0_2, z_r0_0_0_6, z_r0_0_0_7, z_r0_0_0_8, z_r0_0_0_9, z_r0_0_0_10, z_r0_3_1, z_r1_0, z_r1_1, z_r2_1] at p1x41
          try simp only [e18, e19] at p0x41
          try have q0x41 := congrArg Int32.toInt p0x41
          try simp only [e18, e19] at p1x41
          try have q1x41 := congrArg Int32.toInt p1x41
          have hv := VOI.tn ff7_0 hU gK hel (by omega) S44 (fun _ h => h) (VRX.pi p1x41 (by omega)) (by omega)
          refine k_istore C (lw := [(5, .int x41), (4, .int x26), (0, .ref r0), (1, .ref r1), (2, .ref r2), (3, .int x12)]) rfl rfl (Nat.le_of_ble_eq_true rfl) rfl ?_
          refine k_goto C (pc2 := 113) rfl rfl ?_
          refine k_iload C rfl rfl rfl ?_
          refine b_if_ne C (t := 120) rfl rfl rfl (fun c47 => ?_) (fun c47 => ?_)
          · skip
            refine z_iinc C (z := 1) (lw := fun x48 => [(3, .int x48), (5, .int x41), (4, .int x26), (0, .ref r0), (1, .ref r1), (2, .ref r2)]) rfl rfl rfl (Nat.le_of_ble_eq_true rfl) rfl ⟨by omega, by omega⟩ (fun _ => rfl) (fun x48 ex48 => ?_)
            show V 123 [(3, .int x48), (5, .int x41), (4, .int x26), (0, .ref r0), (1, .ref r1), (2, .ref r2)] _ _ _ _
            refine k_goto C (pc2 := 7) rfl rfl ?_
            refine k_sub S [(0, .ref r0), (1, .ref r1), (2, .ref r2), (3, .int x48)] (List.forall_mem_cons.mpr ⟨List.mem_of_getElem? (i := 3) rfl, List.forall_mem_cons.mpr ⟨List.mem_of_getElem? (i := 4) rfl, List.forall_mem_cons.mpr ⟨List.mem_of_getElem? (i := 5) rfl, List.forall_mem_cons.mpr ⟨List.mem_of_getElem? (i := 0) rfl, fun _ h => nomatch h⟩⟩⟩⟩) ?_
            exact ihJ8 _ (MN.lt hmnn9 (by omega) (by omega)) I42 L43 x48 rfl hI42 (Chg.cons S14 (Chg.mono (Chg.up S44 (fun _ h => CSX.tn n9 h)) (by decide)) (by decide)) (by omega) (by first | exact VOI.k hv (by omega) | exact VOI.k (hv9.2 (by omega)) (by omega)) (by omega)
          refine k_null C rfl rfl ?_
          exact k_aret C (x := none) rfl (Or.inl ⟨_, rfl⟩) (Nat.le_of_ble_eq_true rfl) (Nat.le_of_ble_eq_true rfl) ⟨_, _, _, rfl, rfl, fz, by (try simp only [z_r0_0, z_r0_1, z_r0_2, z_r0_3, z_r0_4, z_r0_0_0, z_r0_0_1, z_r0_0_2, z_r0_0_0_6, z_r0_0_0_7, z_r0_0_0_8, z_r0_0_0_9, z_r0_0_0_10, z_r0_3_1, z_r1_0, z_r1_1, z_r2_1]); first | (exfalso; omega) | exact VPO.n (hv9.1 (by omega)), hI42, (Chg.cons (Chg.up S3 (sl_1 (Or.inl rfl))) (Chg.cons S14 (Chg.mono (Chg.up S44 (fun _ h => CSX.tn n9 h)) (by decide)) (by decide)) (by decide))⟩
        refine k_aload_n C rfl rfl rfl ?_
        refine g_R C rfl rfl rfl T_r0 rfl R_r0_3 ?_
        refine z_iconst C (z := 0) rfl rfl rfl (fun x49 ex49 => ?_)
        refine c_VV C (s_X2_begin_x hS hI15 (hs_GF hS H_r0_3)) rfl rfl rfl rfl rfl ⟨_, rfl, rfl, T_r0_3, Nat.le_of_ble_eq_true rfl⟩ rfl rfl (Nat.le_of_ble_eq_true rfl) (Nat.le_of_ble_eq_true rfl) (Nat.le_of_ble_eq_true rfl) ?_
        rintro I51 L52 ⟨p0v50, p1v50, hI51, S53⟩
        try simp only [z_r0_0, z_r0_1, z_r0_2, z_r0_3, z_r0_4, z_r0_0_0, z_r0_0_1, z_r0_0_2, z_r0_0_0_6, z_r0_0_0_7, z_r0_0_0_8, z_r0_0_0_9, z_r0_0_0_10, z_r0_3_1, z_r1_0, z_r1_1, z_r2_1] at S53
        have e54 := Chg.k S53 T_r1 (by decide) (by decide) e18
        have e55 := Chg.k S53 T_r0_0_0 (by decide) (by decide) e19
        obtain ⟨x56, e57⟩ : ∃ x, I51 r0_3 0 = x := ⟨_, rfl⟩
        have gx56 := rg x56
        have ox56 := IX.deg hI51 A_r0_3 T_r0_3 e57
        try simp only [z_r0_0, z_r0_1, z_r0_2, z_r0_3, z_r0_4, z_r0_0_0, z_r0_0_1, z_r0_0_2, z_r0_0_0_6, z_r0_0_0_7, z_r0_0_0_8, z_r0_0_0_9, z_r0_0_0_10, z_r0_3_1, z_r1_0, z_r1_1, z_r2_1] at p0v50
        try simp only [z_r0_0, z_r0_1, z_r0_2, z_r0_3, z_r0_4, z_r0_0_0, z_r0_0_1, z_r0_0_2, z_r0_0_0_6, z_r0_0_0_7, z_r0_0_0_8, z_r0_0_0_9, z_r0_0_0_10, z_r0_3_1, z_r1_0, z_r1_1, z_r2_1] at p1v50
        try simp only [e18, e19, e57] at p0v50
        try have q0v50 := congrArg Int32.toInt p0v50
        try simp only [e18, e19, e57] at p1v50
        try have q1v50 := congrArg Int32.toInt p1v50
        have hb48 := p0v50.2.2 (by omega) (by omega); have v48 := ff7_0.sm hU gK S53 (SLN z_r0_3 z_r0_3_1); have hS48 := S53
        refine k_aload_n C rfl rfl rfl ?_
        refine g_R C rfl rfl rfl T_r0 rfl R_r0_3 ?_
        refine z_iconst C (z := 0) rfl rfl rfl (fun x58 ex58 => ?_)
        refine k_aload_n C rfl rfl rfl ?_
        refine g_R C rfl rfl rfl T_r0 rfl R_r0_0 ?_
        refine k_aload_n C rfl rfl rfl ?_
        refine k_iload_n C rfl rfl rfl ?_
        refine c_VI C (s_X7_sizeAt_x hS hI51 H_r1) rfl rfl rfl rfl rfl ⟨_, rfl, rfl, T_r1, Nat.le_of_ble_eq_true rfl⟩ rfl rfl (Nat.le_of_ble_eq_true rfl) (Nat.le_of_ble_eq_true rfl) (Nat.le_of_ble_eq_true rfl) ?_
        rintro x59 _ _ ⟨p0x59, rfl, rfl⟩
        have gx59 := rg x59
        try simp only [z_r0_0, z_r0_1, z_r0_2, z_r0_3, z_r0_4, z_r0_0_0, z_r0_0_1, z_r0_0_2, z_r0_0_0_6, z_r0_0_0_7, z_r0_0_0_8, z_r0_0_0_9, z_r0_0_0_10, z_r0_3_1, z_r1_0, z_r1_1, z_r2_1] at p0x59
        try simp only [e54, e55, e57] at p0x59
        try have q0x59 := congrArg Int32.toInt p0x59
        have hs62 := p0x59 (by omega) (by omega); have hk62 : I51 r1_1 = I r1_1 := (Chg.at hS48 (nm_2 (t_nq T_r1_1 T_r0_3 (by decide)) nq13)).trans hk1; rw [hk62] at hs62; rw [hs62] at hel
        refine z_i2l C rfl rfl (fun lg60 elg60 => ?_)
        have hl66 := elg60
        refine c_VI C (s_X0_of_x hS hI51 H_r0_0) rfl rfl rfl rfl rfl ⟨_, rfl, rfl, T_r0_0, Nat.le_of_ble_eq_true rfl⟩ rfl rfl (Nat.le_of_ble_eq_true rfl) (Nat.le_of_ble_eq_true rfl) (Nat.le_of_ble_eq_true rfl) ?_
        rintro x61 _ _ ⟨o0x61, o1x61, p0x61, p1x61, rfl, rfl⟩
        have gx61 := rg x61
        try simp only [z_r0_0, z_r0_1, z_r0_2, z_r0_3, z_r0_4, z_r0_0_0, z_r0_0_1, z_r0_0_2, z_r0_0_0_6, z_r0_0_0_7, z_r0_0_0_8, z_r0_0_0_9, z_r0_0_0_10, z_r0_3_1, z_r1_0, z_r1_1, z_r2_1] at p0x61
        try simp only [z_r0_0, z_r0_1, z_r0_2, z_r0_3, z_r0_4, z_r0_0_0, z_r0_0_1, z_r0_0_2, z_r0_0_0_6, z_r0_0_0_7, z_r0_0_0_8, z_r0_0_0_9, z_r0_0_0_10, z_r0_3_1, z_r1_0, z_r1_1, z_r2_1] at p1x61
        try simp only [e54, e55, e57] at p0x61
        try have q0x61 := congrArg Int32.toInt p0x61
        try simp only [e54, e55, e57] at p1x61
        try have q1x61 := congrArg Int32.toInt p1x61
        have hof := p0x61; (try rw [z_r0_0_0] at hof); (try rw [e55] at hof)
        have h69 := e57
        refine c_VV C (s_X2_set_x hS hI51 (hs_GF hS H_r0_3)) rfl rfl rfl rfl rfl ⟨_, rfl, rfl, T_r0_3, Nat.le_of_ble_eq_true rfl⟩ rfl rfl (Nat.le_of_ble_eq_true rfl) (Nat.le_of_ble_eq_true rfl) (Nat.le_of_ble_eq_true rfl) ?_
        rintro I63 L64 ⟨p0v62, hI63, S65⟩
        try simp only [z_r0_0, z_r0_1, z_r0_2, z_r0_3, z_r0_4, z_r0_0_0, z_r0_0_1, z_r0_0_2, z_r0_0_0_6, z_r0_0_0_7, z_r0_0_0_8, z_r0_0_0_9, z_r0_0_0_10, z_r0_3_1, z_r1_0, z_r1_1, z_r2_1] at S65
        have e66 := Chg.k S65 T_r1 (by decide) (by decide) e54
        have e67 := Chg.k S65 T_r0_0_0 (by decide) (by decide) e55
        have e68 := Chg.k S65 T_r0_3 (by decide) (by decide) e57
        try simp only [z_r0_0, z_r0_1, z_r0_2, z_r0_3, z_r0_4, z_r0_0_0, z_r0_0_1, z_r0_0_2, z_r0_0_0_6, z_r0_0_0_7, z_r0_0_0_8, z_r0_0_0_9, z_r0_0_0_10, z_r0_3_1, z_r1_0, z_r1_1, z_r2_1] at p0v62
        try simp only [e54, e55, e57] at p0v62
        try have q0v62 := congrArg Int32.toInt p0v62
        have v69 := v48.sm hU gK S65 (SLN1 z_r0_3 z_r0_3_1); have vn := VFR.num z_r0_3_1 (by rw [h69]; omega) p0v62 (by omega) (by rw [hof, hl66]) (by omega) (t_nq T_r0_3 T_r0_3_1 (by decide))
        refine k_aload_n C rfl rfl rfl ?_
        refine k_aload_n C rfl rfl rfl ?_
        refine g_R C rfl rfl rfl T_r0 rfl R_r0_3 ?_
        have hg7 := v69.ge hel; have n9 := ncn (n := 20) (j := I63 r0 5) (hg7.2.1 (by omega)).1 (hg7.2.1 (by omega)).2
        refine c_VI C (s_X1_isLaid_x hS hI63 H_r0 (hs_GF hS H_r0_3) hU (hg7.2.1 (by omega)) (fun j hj => (GK.ne hU gK hj (FO.of (hs_GF hS H_r0_3)) R_r0_3 (t_nq T_r0 T_r0_1 (by decide) |> fun h => by rw [z_r0_1]; exact h)).1)) rfl rfl rfl rfl rfl ⟨_, rfl, rfl, T_r0, Nat.le_of_ble_eq_true rfl⟩ rfl rfl (Nat.le_of_ble_eq_true rfl) (Nat.le_of_ble_eq_true rfl) (Nat.le_of_ble_eq_true rfl) ?_
        rintro x69 I70 L71 ⟨o0x69, o1x69, p0x69, p1x69, p2x69, hI70, S72⟩
        try simp only [z_r0_0, z_r0_1, z_r0_2, z_r0_3, z_r0_4, z_r0_0_0, z_r0_0_1, z_r0_0_2, z_r0_0_0_6, z_r0_0_0_7, z_r0_0_0_8, z_r0_0_0_9, z_r0_0_0_10, z_r0_3_1, z_r1_0, z_r1_1, z_r2_1] at S72
        have e73 := Chg.k S72 T_r1 (by decide) (by decide) e66
        have e74 := Chg.k S72 T_r0_0_0 (by decide) (by decide) e67
        have gx69 := rg x69
        try simp only [z_r0_0, z_r0_1, z_r0_2, z_r0_3, z_r0_4, z_r0_0_0, z_r0_0_1, z_r0_0_2, z_r0_0_0_6, z_r0_0_0_7, z_r0_0_0_8, z_r0_0_0_9, z_r0_0_0_10, z_r0_3_1, z_r1_0, z_r1_1, z_r2_1] at p0x69
        try simp only [z_r0_0, z_r0_1, z_r0_2, z_r0_3, z_r0_4, z_r0_0_0, z_r0_0_1, z_r0_0_2, z_r0_0_0_6, z_r0_0_0_7, z_r0_0_0_8, z_r0_0_0_9, z_r0_0_0_10, z_r0_3_1, z_r1_0, z_r1_1, z_r2_1] at p1x69
        try simp only [z_r0_0, z_r0_1, z_r0_2, z_r0_3, z_r0_4, z_r0_0_0, z_r0_0_1, z_r0_0_2, z_r0_0_0_6, z_r0_0_0_7, z_r0_0_0_8, z_r0_0_0_9, z_r0_0_0_10, z_r0_3_1, z_r1_0, z_r1_1, z_r2_1] at p2x69
        try simp only [e66, e67, e68] at p0x69
        try have q0x69 := congrArg Int32.toInt p0x69
        try simp only [e66, e67, e68] at p1x69
        try have q1x69 := congrArg Int32.toInt p1x69
        try simp only [e66, e67, e68] at p2x69
        try have q2x69 := congrArg Int32.toInt p2x69
        have hv := VOI.ly v69 hU gK hel (Or.inr ⟨by omega, rfl⟩) S72 (fun _ h => h) p1x69 p2x69 (VFR.pq vn (by omega)) (by omega)
        refine k_istore C (lw := [(5, .int x69), (4, .int x26), (0, .ref r0), (1, .ref r1), (2, .ref r2), (3, .int x12)]) rfl rfl (Nat.le_of_ble_eq_true rfl) rfl ?_
        refine k_goto C (pc2 := 113) rfl rfl ?_
        refine k_iload C rfl rfl rfl ?_
        refine b_if_ne C (t := 120) rfl rfl rfl (fun c75 => ?_) (fun c75 => ?_)
        · skip
          refine z_iinc C (z := 1) (lw := fun x76 => [(3, .int x76), (5, .int x69), (4, .int x26), (0, .ref r0), (1, .ref r1), (2, .ref r2)]) rfl rfl rfl (Nat.le_of_ble_eq_true rfl) rfl ⟨by omega, by omega⟩ (fun _ => rfl) (fun x76 ex76 => ?_)
          show V 123 [(3, .int x76), (5, .int x69), (4, .int x26), (0, .ref r0), (1, .ref r1), (2, .ref r2)] _ _ _ _
          refine k_goto C (pc2 := 7) rfl rfl ?_
          refine k_sub S [(0, .ref r0), (1, .ref r1), (2, .ref r2), (3, .int x76)] (List.forall_mem_cons.mpr ⟨List.mem_of_getElem? (i := 3) rfl, List.forall_mem_cons.mpr ⟨List.mem_of_getElem? (i := 4) rfl, List.forall_mem_cons.mpr ⟨List.mem_of_getElem? (i := 5) rfl, List.forall_mem_cons.mpr ⟨List.mem_of_getElem? (i := 0) rfl, fun _ h => nomatch h⟩⟩⟩⟩) ?_
          exact ihJ8 _ (MN.lt hmnn9 (by omega) (by omega)) I70 L71 x76 rfl hI70 (Chg.cons S14 (Chg.cons (Chg.up S53 (sl_2 (CSX.n3 z_r0_3) (CSX.n4 z_r0_3 z_r0_3_1))) (Chg.cons (Chg.up S65 (sl_1 (CSX.n4 z_r0_3 z_r0_3_1))) (Chg.mono (Chg.up S72 (fun _ h => CSX.ly n9 h)) (by decide)) (by decide)) (by decide)) (by decide)) (by omega) (by first | exact VOI.k hv (by omega) | exact VOI.k (hv9.2 (by omega)) (by omega)) (by omega)
        refine k_null C rfl rfl ?_
        exact k_aret C (x := none) rfl (Or.inl ⟨_, rfl⟩) (Nat.le_of_ble_eq_true rfl) (Nat.le_of_ble_eq_true rfl) ⟨_, _, _, rfl, rfl, fz, by (try simp only [z_r0_0, z_r0_1, z_r0_2, z_r0_3, z_r0_4, z_r0_0_0, z_r0_0_1, z_r0_0_2, z_r0_0_0_6, z_r0_0_0_7, z_r0_0_0_8, z_r0_0_0_9, z_r0_0_0_10, z_r0_3_1, z_r1_0, z_r1_1, z_r2_1]); first | (exfalso; omega) | exact VPO.n (hv9.1 (by omega)), hI70, (Chg.cons (Chg.up S3 (sl_1 (Or.inl rfl))) (Chg.cons S14 (Chg.cons (Chg.up S53 (sl_2 (CSX.n3 z_r0_3) (CSX.n4 z_r0_3 z_r0_3_1))) (Chg.cons (Chg.up S65 (sl_1 (CSX.n4 z_r0_3 z_r0_3_1))) (Chg.mono (Chg.up S72 (fun _ h => CSX.ly n9 h)) (by decide)) (by decide)) (by decide)) (by decide)) (by decide))⟩
      refine k_aload_n C rfl rfl rfl ?_
      refine k_aload_n C rfl rfl rfl ?_
      have n9 := ncn (n := 20) (j := I10 r0 5) (hg.2.1 (by omega)).1 (hg.2.1 (by omega)).2
      refine c_VI C (s_X1_isLaid_x hS hI15 H_r0 H_r2 hU (hg.2.1 (by omega)) (fun j hj e => hp2.1 (CSX.f hj e))) rfl rfl rfl rfl rfl ⟨_, rfl, rfl, T_r0, Nat.le_of_ble_eq_true rfl⟩ rfl rfl (Nat.le_of_ble_eq_true rfl) (Nat.le_of_ble_eq_true rfl) (Nat.le_of_ble_eq_true rfl) ?_
      rintro x77 I78 L79 ⟨o0x77, o1x77, p0x77, p1x77, p2x77, hI78, S80⟩
      try simp only [z_r0_0, z_r0_1, z_r0_2, z_r0_3, z_r0_4, z_r0_0_0, z_r0_0_1, z_r0_0_2, z_r0_0_0_6, z_r0_0_0_7, z_r0_0_0_8, z_r0_0_0_9, z_r0_0_0_10, z_r0_3_1, z_r1_0, z_r1_1, z_r2_1] at S80
      have e81 := Chg.k S80 T_r1 (by decide) (by decide) e18
      have e82 := Chg.k S80 T_r0_0_0 (by decide) (by decide) e19
      have gx77 := rg x77
      try simp only [z_r0_0, z_r0_1, z_r0_2, z_r0_3, z_r0_4, z_r0_0_0, z_r0_0_1, z_r0_0_2, z_r0_0_0_6, z_r0_0_0_7, z_r0_0_0_8, z_r0_0_0_9, z_r0_0_0_10, z_r0_3_1, z_r1_0, z_r1_1, z_r2_1] at p0x77
      try simp only [z_r0_0, z_r0_1, z_r0_2, z_r0_3, z_r0_4, z_r0_0_0, z_r0_0_1, z_r0_0_2, z_r0_0_0_6, z_r0_0_0_7, z_r0_0_0_8, z_r0_0_0_9, z_r0_0_0_10, z_r0_3_1, z_r1_0, z_r1_1, z_r2_1] at p1x77
      try simp only [z_r0_0, z_r0_1, z_r0_2, z_r0_3, z_r0_4, z_r0_0_0, z_r0_0_1, z_r0_0_2, z_r0_0_0_6, z_r0_0_0_7, z_r0_0_0_8, z_r0_0_0_9, z_r0_0_0_10, z_r0_3_1, z_r1_0, z_r1_1, z_r2_1] at p2x77
      try simp only [e18, e19] at p0x77
      try have q0x77 := congrArg Int32.toInt p0x77
      try simp only [e18, e19] at p1x77
      try have q1x77 := congrArg Int32.toInt p1x77
      try simp only [e18, e19] at p2x77
      try have q2x77 := congrArg Int32.toInt p2x77
      have hv := VOI.ly ff7_0 hU gK hel (Or.inl ⟨by omega, rfl⟩) S80 (fun _ h => h) p1x77 p2x77 (VFR.src (Chg.at hFR hp2.1) (Chg.at hFR hp2.2) z_r2_1 hp3 hd2) (by omega)
      refine k_istore C (lw := [(5, .int x77), (4, .int x26), (0, .ref r0), (1, .ref r1), (2, .ref r2), (3, .int x12)]) rfl rfl (Nat.le_of_ble_eq_true rfl) rfl ?_
      refine k_goto C (pc2 := 113) rfl rfl ?_
      refine k_iload C rfl rfl rfl ?_
      refine b_if_ne C (t := 120) rfl rfl rfl (fun c83 => ?_) (fun c83 => ?_)
      · skip
        refine z_iinc C (z := 1) (lw := fun x84 => [(3, .int x84), (5, .int x77), (4, .int x26), (0, .ref r0), (1, .ref r1), (2, .ref r2)]) rfl rfl rfl (Nat.le_of_ble_eq_true rfl) rfl ⟨by omega, by omega⟩ (fun _ => rfl) (fun x84 ex84 => ?_)
        show V 123 [(3, .int x84), (5, .int x77), (4, .int x26), (0, .ref r0), (1, .ref r1), (2, .ref r2)] _ _ _ _
        refine k_goto C (pc2 := 7) rfl rfl ?_
        refine k_sub S [(0, .ref r0), (1, .ref r1), (2, .ref r2), (3, .int x84)] (List.forall_mem_cons.mpr ⟨List.mem_of_getElem? (i := 3) rfl, List.forall_mem_cons.mpr ⟨List.mem_of_getElem? (i := 4) rfl, List.forall_mem_cons.mpr ⟨List.mem_of_getElem? (i := 5) rfl, List.forall_mem_cons.mpr ⟨List.mem_of_getElem? (i := 0) rfl, fun _ h => nomatch h⟩⟩⟩⟩) ?_
        exact ihJ8 _ (MN.lt hmnn9 (by omega) (by omega)) I78 L79 x84 rfl hI78 (Chg.cons S14 (Chg.mono (Chg.up S80 (fun _ h => CSX.ly n9 h)) (by decide)) (by decide)) (by omega) (by first | exact VOI.k hv (by omega) | exact VOI.k (hv9.2 (by omega)) (by omega)) (by omega)
      refine k_null C rfl rfl ?_
      exact k_aret C (x := none) rfl (Or.inl ⟨_, rfl⟩) (Nat.le_of_ble_eq_true rfl) (Nat.le_of_ble_eq_true rfl) ⟨_, _, _, rfl, rfl, fz, by (try simp only [z_r0_0, z_r0_1, z_r0_2, z_r0_3, z_r0_4, z_r0_0_0, z_r0_0_1, z_r0_0_2, z_r0_0_0_6, z_r0_0_0_7, z_r0_0_0_8, z_r0_0_0_9, z_r0_0_0_10, z_r0_3_1, z_r1_0, z_r1_1, z_r2_1]); first | (exfalso; omega) | exact VPO.n (hv9.1 (by omega)), hI78, (Chg.cons (Chg.up S3 (sl_1 (Or.inl rfl))) (Chg.cons S14 (Chg.mono (Chg.up S80 (fun _ h => CSX.ly n9 h)) (by decide)) (by decide)) (by decide))⟩
  refine k_istore_n C (lw := [(3, .int x7), (0, .ref r0), (1, .ref r1), (2, .ref r2)]) rfl rfl (Nat.le_of_ble_eq_true rfl) rfl ?_
  refine k_sub S [(0, .ref r0), (1, .ref r1), (2, .ref r2), (3, .int x7)] (List.forall_mem_cons.mpr ⟨List.mem_of_getElem? (i := 1) rfl, List.forall_mem_cons.mpr ⟨List.mem_of_getElem? (i := 2) rfl, List.forall_mem_cons.mpr ⟨List.mem_of_getElem? (i := 3) rfl, List.forall_mem_cons.mpr ⟨List.mem_of_getElem? (i := 0) rfl, fun _ h => nomatch h⟩⟩⟩⟩) ?_
  exact J8 _ I2 L x7 rfl hI2 Chg.rf (by omega) (by exact VOI.z hp1 (by rw [e6]; omega) (by omega)) (by omega)

