/-! the reference: signs read, exactly -/
def WSL (W : Nat → Int32) (n : Nat) : List (Int × Int) := (List.range (W (198 + 401 * n)).toInt.toNat).map (fun k => ((W (199 + 401 * n + 2 * k)).toInt, (W (200 + 401 * n + 2 * k)).toInt))
theorem WSL.len {W : Nat → Int32} {n : Nat} : (WSL W n).length = (W (198 + 401 * n)).toInt.toNat := by unfold WSL; rw [List.length_map, List.length_range]
theorem WSL.eq {W W1 : Nat → Int32} {n : Nat} (hl : (WSL W n).length ≤ 160) (e : ∀ r, 198 + 401 * n ≤ r → r < 599 + 401 * n → W1 r = W r) : WSL W1 n = WSL W n := by
  have l := WSL.len (W := W) (n := n)
  unfold WSL
  rw [e _ (by omega) (by omega)]
  exact List.map_congr_left (fun k hk => by
    have hk := List.mem_range.mp hk
    rw [e (199 + 401 * n + 2 * k) (by omega) (by omega), e (200 + 401 * n + 2 * k) (by omega) (by omega)])
section Lrp
variable {M : Nat}
def BCM (f : Nat → Int32) (m : Int) (k : Nat) : Int := if (k : Int) < m then (f k).toInt % 256 else -1
def WTL (W : Nat → Int32) (n : Nat) : List (Int × Int) := (List.range n).map (fun k => ((W (3607 + 2 * k)).toInt, (W (3608 + 2 * k)).toInt))
def RDM (I : IT) (m w : Nat) : PSt := ((I m 12).toInt.toNat, (I m 16).toInt.toNat, WTL (I w) (I m 19).toInt.toNat)
theorem BCM.at {f f1 : Nat → Int32} {m : Int} {k x : Int32} {j : Nat} (e1 : f1 = f) (e : f1 k.toNatClampNeg = x) (h0 : 0 ≤ k.toInt) (h1 : k.toInt < m) (hj : (j : Int) = k.toInt) : BCM f m j = x.toInt % 256 := by
  have n0 := ncz h0
  unfold BCM
  rw [if_pos (by omega), ← e1, show j = k.toNatClampNeg from by omega, e]
theorem BCM.ab {f f1 : Nat → Int32} {m : Int} {k x : Int32} {j : Nat} (hT : TBY f) (e1 : f1 = f) (e : f1 k.toNatClampNeg = x) (h0 : 0 ≤ k.toInt) (h1 : k.toInt < m) (hj : (j : Int) = k.toInt) : BCM f m j = x.toInt % 256 ∧ -128 ≤ x.toInt ∧ x.toInt ≤ 127 := ⟨BCM.at e1 e h0 h1 hj, by have q := hT k.toNatClampNeg; rw [← e1, e] at q; exact q⟩
theorem BCM.no {f : Nat → Int32} {m : Int} {j : Nat} (h : m ≤ (j : Int)) : BCM f m j = -1 := by unfold BCM; rw [if_neg (by omega)]
theorem BCM.lt {f : Nat → Int32} {m v : Int} {j : Nat} (h : BCM f m j = v) (hv : v ≠ -1) : (j : Int) < m := by
  unfold BCM at h
  by_cases q : (j : Int) < m
  · exact q
  · rw [if_neg q] at h; omega
theorem BCM.tb {x : Int32} {n : Int} (h : -128 ≤ x.toInt ∧ x.toInt ≤ 127) (hn : 0 ≤ n ∧ n ≤ 127) : (n ≤ x.toInt % 256 ↔ n ≤ x.toInt ∨ x.toInt < 0) ∧ (x.toInt % 256 ≤ n ↔ 0 ≤ x.toInt ∧ x.toInt ≤ n) := by omega
theorem WTL.len {W : Nat → Int32} {n : Nat} : (WTL W n).length = n := by unfold WTL; rw [List.length_map, List.length_range]
theorem WTL.em {W W1 : Nat → Int32} {s s' a b : Int32} (h : EMT W W1 s.toNatClampNeg a b) (h0 : 0 ≤ s.toInt) (hs : s'.toInt = s.toInt + 1) : WTL W1 s'.toInt.toNat = WTL W s.toInt.toNat ++ [(a.toInt, b.toInt)] := by
  have n0 := ncz h0
  obtain ⟨h1, h2, h3⟩ := h
  unfold WTL
  rw [show s'.toInt.toNat = s.toInt.toNat + 1 from by omega, List.range_succ, List.map_append]
  have e : (List.range s.toInt.toNat).map (fun k => ((W1 (3607 + 2 * k)).toInt, (W1 (3608 + 2 * k)).toInt)) = (List.range s.toInt.toNat).map (fun k => ((W (3607 + 2 * k)).toInt, (W (3608 + 2 * k)).toInt)) := List.map_congr_left (fun k hk => by
    have hk := List.mem_range.mp hk
    rw [h3 (3607 + 2 * k) (by omega) (by omega), h3 (3608 + 2 * k) (by omega) (by omega)])
  rw [e]
  show _ ++ [((W1 (3607 + 2 * s.toInt.toNat)).toInt, (W1 (3608 + 2 * s.toInt.toNat)).toInt)] = _
  rw [show 3607 + 2 * s.toInt.toNat = 3606 + 1 + 2 * s.toNatClampNeg from by omega, show 3608 + 2 * s.toInt.toNat = 3606 + 2 + 2 * s.toNatClampNeg from by omega, h1, h2]
theorem RDM.mk {I : IT} {m w : Nat} {p c : Nat} {g : Nat → Int32} {z : Int32} (h1 : (I m 12).toInt = p) (h2 : (I m 16).toInt = c) (h3 : I m 19 = z) (h4 : I w = g) : RDM I m w = (p, c, WTL g z.toInt.toNat) := by
  unfold RDM
  rw [h1, h2, h3, h4]; rfl
theorem RDM.l {I : IT} {m w : Nat} {s : PSt} {g : Nat → Int32} {z : Int32} (hs : RDM I m w = s) (h3 : I m 19 = z) (h4 : I w = g) : WTL g z.toInt.toNat = s.2.2 := by subst hs; subst h3; subst h4; rfl
theorem RDM.c1 {I : IT} {m w : Nat} {s : PSt} {z : Int32} (hs : RDM I m w = s) (e : I m 12 = z) (h : 0 ≤ z.toInt) : z.toInt = s.1 := by
  subst hs; show z.toInt = ((I m 12).toInt.toNat : Int); rw [e]; omega
theorem RDM.c2 {I : IT} {m w : Nat} {s : PSt} {z : Int32} (hs : RDM I m w = s) (e : I m 16 = z) (h : 0 ≤ z.toInt) : z.toInt = s.2.1 := by
  subst hs; show z.toInt = ((I m 16).toInt.toNat : Int); rw [e]; omega
theorem RDM.c3 {I : IT} {m w : Nat} {s : PSt} {z : Int32} (hs : RDM I m w = s) (e : I m 19 = z) (h : 0 ≤ z.toInt) : z.toInt = s.2.2.length := by
  subst hs; show z.toInt = ((WTL (I w) (I m 19).toInt.toNat).length : Int); rw [WTL.len, e]; omega
theorem RDM.u {I I1 : IT} {m w j : Nat} {v : Int32} {s : PSt} (hs : RDM I m w = s) (u : I1 = u2 I m j v) (hw : w ≠ m) (h1 : 12 ≠ j) (h2 : 16 ≠ j) (h3 : 19 ≠ j) : RDM I1 m w = s := by
  subst hs; unfold RDM
  rw [u, u2_k h1, u2_k h2, u2_k h3, u2_r hw]
theorem APS.in {l : List (Int × Int)} {x : Int × Int} (h : l.length < M) : l ++ [x] = APS M l x := by unfold APS; rw [if_pos h]
/-- behind a sign that may stand there -/
def HSR (c : Nat → Int) (v x : Int) (s t : PSt) : Prop := (x = 1 ∧ c (SKP c s.1) = v ∧ t = (SKP c s.1 + 1, s.2)) ∨ (x = 0 ∧ c (SKP c s.1) ≠ v ∧ t = (SKP c s.1, s.2))
def CTR (c : Nat → Int) (v x : Int) (s t : PSt) : Prop := (x = 1 ∧ c (SKP c s.1) = v ∧ s.2.1 ≠ 40 ∧ t = (SKP c s.1 + 1, s.2.1 + 1, s.2.2)) ∨ (x = 0 ∧ (c (SKP c s.1) ≠ v ∨ s.2.1 = 40) ∧ t = (SKP c s.1, s.2))
def NMG (c : Nat → Int) (most : Int) (q : Nat) : Prop := 1 ≤ DGF c 4 q ∧ DGF c 4 q ≤ 3 ∧ VLU c q (DGF c 4 q) ≤ most
def NMR (c : Nat → Int) (most x : Int) (s t : PSt) : Prop := (x < 0 ∧ ¬ NMG c most (SKP c s.1)) ∨ (0 ≤ x ∧ NMG c most (SKP c s.1) ∧ x = VLU c (SKP c s.1) (DGF c 4 (SKP c s.1)) ∧ t = (SKP c s.1 + DGF c 4 (SKP c s.1), s.2))
theorem NUB.g {c : Nat → Int} {k most : Int} {s : PSt} (h : NMG c most s.1) : NUB M c k most s = some (s.1 + DGF c 4 s.1, s.2.1, APS M s.2.2 (k, VLU c s.1 (DGF c 4 s.1))) := by unfold NUB; exact if_pos h
theorem NUB.ng {c : Nat → Int} {k most : Int} {s : PSt} (h : ¬ NMG c most s.1) : NUB M c k most s = none := by unfold NUB; exact if_neg h
/-- nothing that can stand there follows any more -/
def STK (c : Nat → Int) (t : PSt) : Prop := (65 ≤ c (SKP c t.1) ∧ c (SKP c t.1) ≤ 90) ∨ ((c (SKP c t.1) = 42 ∨ c (SKP c t.1) = 43) ∧ 40 ≤ t.2.1)
theorem STK.sk {c : Nat → Int} {t u : PSt} (hc : C40 c) (h : STK c t) (e1 : u.1 = SKP c t.1) (e2 : u.2.1 = t.2.1) : STK c u := by
  unfold STK at *
  rw [e1, SKP.sk hc, e2]; exact h
theorem STK.cg {c : Nat → Int} {t u : PSt} (h : STK c t) (e1 : u.1 = t.1) (e2 : u.2.1 = t.2.1) : STK c u := by
  unfold STK at *
  rw [e1, e2]; exact h
def RS3 (c : Nat → Int) (x : Int) (o : Option PSt) (t : PSt) : Prop := (x = 0 ∧ o = none) ∨ (x = 1 ∧ (o = some t ∨ (o = none ∧ STK c t)))
theorem RS3.f {c : Nat → Int} {x : Int} {o : Option PSt} {t : PSt} (hx : x = 0) (h : o = none) : RS3 c x o t := Or.inl ⟨hx, h⟩
theorem RS3.t {c : Nat → Int} {x : Int} {o : Option PSt} {t : PSt} (hx : x = 1) (h : o = some t) : RS3 c x o t := Or.inr ⟨hx, Or.inl h⟩
theorem RS3.s {c : Nat → Int} {x : Int} {o : Option PSt} {t : PSt} (hx : x = 1) (h : o = none) (k : STK c t) : RS3 c x o t := Or.inr ⟨hx, Or.inr ⟨h, k⟩⟩
theorem RS3.no {c : Nat → Int} {x : Int} {o : Option PSt} {t : PSt} (h : RS3 c x o t) (hx : x ≠ 1) : o = none := by
  rcases h with h | h
  · exact h.2
  · exact absurd h.1 hx
theorem RS3.y {c : Nat → Int} {x : Int} {o : Option PSt} {t : PSt} (h : RS3 c x o t) (hx : x ≠ 0) : o = some t ∨ (o = none ∧ STK c t) := by
  rcases h with h | h
  · exact absurd h.1 hx
  · exact h.2
theorem RS3.b {c : Nat → Int} {x : Int} {o o' : Option PSt} {t : PSt} (h : RS3 c x o' t) (e : o = o') : RS3 c x o t := by subst e; exact h
theorem RS3.x {c : Nat → Int} {x y : Int} {o : Option PSt} {t : PSt} (h : RS3 c x o t) (e : y = x) : RS3 c y o t := by subst e; exact h
/-- then one step -/
theorem RS3.m {c : Nat → Int} {x : Int} {o : Option PSt} {u t : PSt} {k n : Int} (h : o = some u ∨ (o = none ∧ STK c u)) (hx : x = 1) (ht : t = (u.1, u.2.1, APS M u.2.2 (k, n))) : RS3 c x (o.bind (fun t => some (t.1, t.2.1, APS M t.2.2 (k, n)))) t := by
  subst ht
  rcases h with h | ⟨h, s⟩
  · exact RS3.t hx (by rw [h]; rfl)
  · exact RS3.s hx (by rw [h]; rfl) (s.cg rfl rfl)
/-- then a sign that isn't one of those -/
theorem HSR.tk {c : Nat → Int} {v x : Int} {u t : PSt} (g : HSR c v x u t) : (x = 1 ∧ TAK c v u = some t) ∨ (x = 0 ∧ TAK c v u = none) := by
  unfold TAK
  rcases g with ⟨g1, g2, g3⟩ | ⟨g1, g2, g3⟩
  · left; rw [if_pos g2, g3]; exact ⟨g1, rfl⟩
  · right; rw [if_neg g2]; exact ⟨g1, rfl⟩
theorem STK.no {c : Nat → Int} {v x : Int} {u t : PSt} (s : STK c u) (g : HSR c v x u t) (hv : v ≠ 42 ∧ v ≠ 43 ∧ ¬ (65 ≤ v ∧ v ≤ 90)) : x = 0 := by
  rcases g with ⟨g1, g2, g3⟩ | ⟨g1, g2, g3⟩
  · exfalso; unfold STK at s; omega
  · exact g1
theorem RS3.k {c : Nat → Int} {v x : Int} {o : Option PSt} {u t : PSt} (h : o = some u ∨ (o = none ∧ STK c u)) (g : HSR c v x u t) (hv : v ≠ 42 ∧ v ≠ 43 ∧ ¬ (65 ≤ v ∧ v ≤ 90)) : RS3 c x (o.bind (TAK c v)) t := by
  rcases h with h | ⟨h, s⟩
  · rw [h]
    rcases g.tk with ⟨g1, g2⟩ | ⟨g1, g2⟩
    · exact RS3.t g1 g2
    · exact RS3.f g1 g2
  · exact RS3.f (s.no g hv) (by rw [h]; rfl)
def ROV2 (M : Nat) (c : Nat → Int) (S : PSt → Option PSt) (s : PSt) : Option PSt := if 40 ≤ s.2.1 then none else (S (s.1, s.2.1 + 1, s.2.2)).bind (fun t => (TAK c 44 t).bind (fun t => (S t).bind (fun t => (TAK c 93 t).bind (fun t => NUB M c 4 8 (SKP c t.1, t.2)))))
theorem ROV2.e {c : Nat → Int} {S : PSt → Option PSt} {s : PSt} : ROV M c S s = ROV2 M c S (s.1 + 1, s.2) := rfl
theorem ROV2.n0 {c : Nat → Int} {S : PSt → Option PSt} {s : PSt} (h : 40 ≤ s.2.1) : ROV2 M c S s = none := by unfold ROV2; rw [if_pos h]
theorem ROV2.u {c : Nat → Int} {S : PSt → Option PSt} {s : PSt} (h : s.2.1 < 40) : ROV2 M c S s = (((S (s.1, s.2.1 + 1, s.2.2)).bind (TAK c 44)).bind S).bind (fun t => (TAK c 93 t).bind (fun t => NUB M c 4 8 (SKP c t.1, t.2))) := by
  unfold ROV2; rw [if_neg (by omega)]
  cases S (s.1, s.2.1 + 1, s.2.2) with
  | none => rfl
  | some t =>
    show (TAK c 44 t).bind _ = ((TAK c 44 t).bind S).bind _
    cases TAK c 44 t with
    | none => rfl
    | some t => rfl
/-- on the way through joined ones, or where nothing can stand any more -/
def LP3 (M : Nat) (c : Nat → Int) (v k : Int) (P : PSt → Option PSt) (o : Option PSt) (s : PSt) : Prop := LPI M c v k P o s 0 ∨ (o = none ∧ STK c s)
theorem LP3.z {c : Nat → Int} {v k : Int} {P : PSt → Option PSt} {o o1 : Option PSt} {s : PSt} (h1 : o1 = some s ∨ (o1 = none ∧ STK c s)) (h : o = o1.bind (RLP M c v k P 41)) (hs : s.2.1 ≤ 40) : LP3 M c v k P o s := by
  rcases h1 with e | ⟨e, q⟩
  · exact Or.inl (LPI.z e h rfl hs)
  · exact Or.inr ⟨by rw [h, e]; rfl, q⟩
theorem LP3.in {c : Nat → Int} {v k y : Int} {P : PSt → Option PSt} {o : Option PSt} {s t : PSt} (h : LP3 M c v k P o s) (g : CTR c v y s t) (hy : y ≠ 0) (hv : v = 42 ∨ v = 43) (h4 : s.2.1 ≤ 40) : LPI M c v k P o s 0 ∧ c (SKP c s.1) = v ∧ s.2.1 < 40 ∧ t = (SKP c s.1 + 1, s.2.1 + 1, s.2.2) := by
  rcases g with ⟨-, g1, g2, g3⟩ | g
  · refine ⟨h.resolve_right (fun q => ?_), g1, by omega, g3⟩
    have q := q.2
    unfold STK at q; omega
  · exact absurd g.1 hy
theorem LP3.s {c : Nat → Int} {v k : Int} {P : PSt → Option PSt} {o : Option PSt} {s u t : PSt} (h : LPI M c v k P o s 0) (e : c (SKP c s.1) = v) (hs : s.2.1 < 40) (hy : P (SKP c s.1 + 1, s.2.1 + 1, s.2.2) = some u ∨ (P (SKP c s.1 + 1, s.2.1 + 1, s.2.2) = none ∧ STK c u)) (hu : s.2.1 + 1 ≤ u.2.1) (h4 : u.2.1 ≤ 40) (et : t = (u.1, u.2.1, APS M u.2.2 (k, 0))) : LP3 M c v k P o t := by
  rcases hy with y | ⟨y, q⟩
  · obtain ⟨n, a1, a2, a3, a4⟩ := LPI.s (turn' := 1) h e hs y hu h4 et (by omega)
    exact Or.inl ⟨n, a1, a2, by omega, a4⟩
  · exact Or.inr ⟨h.no2 e hs y, q.cg (by rw [et]) (by rw [et])⟩
/-- letters from p to q -/
def LTB (c : Nat → Int) (p q : Nat) : Prop := p ≤ q ∧ ∀ i, p ≤ i → i < q → 97 ≤ c i ∧ c i ≤ 122
theorem LTB.z {c : Nat → Int} {p q : Nat} (h : q = p) : LTB c p q := ⟨by omega, fun i h1 h2 => by omega⟩
theorem LTB.s {c : Nat → Int} {p q q' : Nat} (h : LTB c p q) (e : 97 ≤ c q ∧ c q ≤ 122) (hq : q' = q + 1) : LTB c p q' := by
  subst hq
  refine ⟨by have := h.1; omega, fun i h1 h2 => ?_⟩
  by_cases x : i = q
  · subst x; exact e
  · exact h.2 i h1 (by omega)
/-- no sign begins there but perhaps a letter; a word is none -/
theorem LTB.no {c : Nat → Int} {k p q : Nat} {s : PSt} (h : LTB c p q) (hp : p = SKP c s.1) (nd : ¬ (48 ≤ c p ∧ c p ≤ 57)) (n1 : c p ≠ 45) (n2 : c p ≠ 40) (n3 : c p ≠ 91) (e : ¬ (97 ≤ c q ∧ c q ≤ 122)) (hq : q ≠ p + 1) : RPT M c k s = none := by
  subst hp
  by_cases f : c (SKP c s.1) = 102
  · rw [RPT.l f]
    have q2 : SKP c s.1 + 1 < q := by
      have := h.1
      rcases Nat.eq_or_lt_of_le h.1 with z | z
      · exfalso; rw [← z] at e; omega
      · omega
    have := h.2 (SKP c s.1 + 1) (by omega) q2
    exact RLU.n2 (s := (SKP c s.1, s.2)) rfl (Or.inl this)
  · exact RPT.n f nd n2 n3 n1
theorem LTB.nf {c : Nat → Int} {k p : Nat} {s : PSt} (hp : p = SKP c s.1) (nd : ¬ (48 ≤ c p ∧ c p ≤ 57)) (n1 : c p ≠ 45) (n2 : c p ≠ 40) (n3 : c p ≠ 91) (f : c p ≠ 102) : RPT M c k s = none := by
  subst hp
  exact RPT.n f nd n2 n3 n1
theorem LTB.f {c : Nat → Int} {k p : Nat} {s t : PSt} {y : Int} (hc : C40 c) (hp : p = SKP c s.1) (f : c p = 102) (hs : s.2.1 < 40) (e : ¬ (97 ≤ c (p + 1) ∧ c (p + 1) ≤ 122)) (ht : t = (p + 1, s.2.1 + 1, APS M s.2.2 (0, 0))) (hy : y = 1) : RS3 c y (RPT M c k s) t := by
  subst hp; subst ht
  rw [RPT.l f]
  by_cases u : 65 ≤ c (SKP c s.1 + 1) ∧ c (SKP c s.1 + 1) ≤ 90
  · refine RS3.s hy (RLU.n2 (s := (SKP c s.1, s.2)) rfl (Or.inr u)) (Or.inl ?_)
    have : SKP c (SKP c s.1 + 1) = SKP c s.1 + 1 := SKP.id hc (by omega)
    show 65 ≤ c (SKP c (SKP c s.1 + 1)) ∧ c (SKP c (SKP c s.1 + 1)) ≤ 90
    rw [this]; exact u
  · refine RS3.t hy ?_
    unfold RLU
    rw [if_neg (by show ¬ (40 ≤ s.2.1 ∨ (97 ≤ c (SKP c s.1 + 1) ∧ c (SKP c s.1 + 1) ≤ 122) ∨ (65 ≤ c (SKP c s.1 + 1) ∧ c (SKP c s.1 + 1) ≤ 90)); omega)]
theorem LTB.n4 {c : Nat → Int} {k p : Nat} {s : PSt} (hp : p = SKP c s.1) (f : c p = 102) (hs : 40 ≤ s.2.1) : RPT M c k s = none := by
  subst hp
  rw [RPT.l f]; exact RLU.n1 hs
theorem RDM.em {t s : PSt} {a b k n : Int} (h : t = (s.1, s.2.1, s.2.2 ++ [(a, b)])) (ha : a = k) (hb : b = n) (hl : s.2.2.length < M) : t = (s.1, s.2.1, APS M s.2.2 (k, n)) := by
  subst ha; subst hb
  rw [h, APS.in hl]
theorem HSR.v {c : Nat → Int} {a b x : Int} {s t : PSt} (h : HSR c a x s t) (e : a = b) : HSR c b x s t := by subst e; exact h
theorem CTR.v {c : Nat → Int} {a b x : Int} {s t : PSt} (h : CTR c a x s t) (e : a = b) : CTR c b x s t := by subst e; exact h
theorem HSR.n {c : Nat → Int} {v x : Int} {s t : PSt} (h : HSR c v x s t) (hx : x ≠ 1) : c (SKP c s.1) ≠ v ∧ t = (SKP c s.1, s.2) := by
  rcases h with h | h
  · exact absurd h.1 hx
  · exact h.2
theorem HSR.y {c : Nat → Int} {v x : Int} {s t : PSt} (h : HSR c v x s t) (hx : x ≠ 0) : c (SKP c s.1) = v ∧ t = (SKP c s.1 + 1, s.2) := by
  rcases h with h | h
  · exact h.2
  · exact absurd h.1 hx
theorem HSR.sk {c : Nat → Int} {v x : Int} {s t : PSt} (hc : C40 c) (h : HSR c v x (SKP c s.1, s.2) t) : HSR c v x s t := by
  unfold HSR at *
  have e : SKP c (SKP c s.1, s.2).1 = SKP c s.1 := SKP.sk hc _
  rw [e] at h; exact h
def NMI (c : Nat → Int) (q : Nat) (v p : Int) : Prop := ∃ j : Nat, p = q + j ∧ DGB c q j ∧ v = VLU c q (min j 3)
theorem NMI.z {c : Nat → Int} {q : Nat} {v p : Int} (hp : p = q) (hv : v = 0) : NMI c q v p := ⟨0, by omega, fun i hi => absurd hi (by omega), by rw [hv]; rfl⟩
theorem NMI.s1 {c : Nat → Int} {q k : Nat} {v v' p p' : Int} (h : NMI c q v p) (hk : (k : Int) = p) (d : 48 ≤ c k ∧ c k ≤ 57) (h3 : p - q < 3) (hv : v' = 10 * v + c k - 48) (hp : p' = p + 1) : NMI c q v' p' := by
  obtain ⟨j, a1, a2, a3⟩ := h
  have e : k = q + j := by omega
  subst e
  refine ⟨j + 1, by omega, fun i hi => ?_, ?_⟩
  · by_cases y : i = j
    · subst y; exact d
    · exact a2 i (by omega)
  · rw [show min (j + 1) 3 = j + 1 from by omega]
    rw [show min j 3 = j from by omega] at a3
    show v' = 10 * VLU c q j + (c (q + j) - 48)
    omega
theorem NMI.s2 {c : Nat → Int} {q k : Nat} {v v' p p' : Int} (h : NMI c q v p) (hk : (k : Int) = p) (d : 48 ≤ c k ∧ c k ≤ 57) (h3 : 3 ≤ p - q) (hv : v' = v) (hp : p' = p + 1) : NMI c q v' p' := by
  obtain ⟨j, a1, a2, a3⟩ := h
  have e : k = q + j := by omega
  subst e
  refine ⟨j + 1, by omega, fun i hi => ?_, ?_⟩
  · by_cases y : i = j
    · subst y; exact d
    · exact a2 i (by omega)
  · rw [show min (j + 1) 3 = min j 3 from by omega, hv]; exact a3
theorem NMI.d {c : Nat → Int} {q k : Nat} {v p : Int} (h : NMI c q v p) (hk : (k : Int) = p) (d : ¬ (48 ≤ c k ∧ c k ≤ 57)) : (p - q ≤ 3 → (DGF c 4 q : Int) = p - q ∧ v = VLU c q (DGF c 4 q)) ∧ (3 < p - q → DGF c 4 q = 4) := by
  obtain ⟨j, a1, a2, a3⟩ := h
  have e : k = q + j := by omega
  subst e
  refine ⟨fun h3 => ?_, fun h3 => ?_⟩
  · have e := DGF.of 4 q j a2 (by omega) (Or.inr d)
    rw [e]
    refine ⟨by omega, ?_⟩
    rw [a3, show min j 3 = j from by omega]
  · exact DGF.of 4 q 4 (fun i hi => a2 i (by omega)) (by omega) (Or.inl rfl)
theorem NMR.no {c : Nat → Int} {q k : Nat} {v p most x : Int} {s t : PSt} (h : NMI c q v p) (hq : q = SKP c s.1) (hk : (k : Int) = p) (d : ¬ (48 ≤ c k ∧ c k ≤ 57)) (e : p = q ∨ 3 < p - q ∨ most < v) (hx : x < 0) : NMR c most x s t := by
  subst hq
  obtain ⟨d1, d2⟩ := h.d hk d
  refine Or.inl ⟨hx, fun g => ?_⟩
  obtain ⟨g1, g2, g3⟩ := g
  by_cases z : p - (SKP c s.1 : Nat) ≤ 3
  · have d1 := d1 z
    omega
  · have d2 := d2 (by omega)
    omega
theorem NMR.yes {c : Nat → Int} {q k : Nat} {v p most x : Int} {s t : PSt} (h : NMI c q v p) (hq : q = SKP c s.1) (hk : (k : Int) = p) (d : ¬ (48 ≤ c k ∧ c k ≤ 57)) (e1 : p ≠ q) (e2 : p - q ≤ 3) (e3 : v ≤ most) (hv : 0 ≤ v) (hx : x = v) (ht : t = (k, s.2)) : NMR c most x s t := by
  subst hq; subst ht; subst hx
  obtain ⟨d1, d2⟩ := h.d hk d
  have d1 := d1 e2
  obtain ⟨j, a1, -⟩ := h
  have ek : k = SKP c s.1 + DGF c 4 (SKP c s.1) := by omega
  exact Or.inr ⟨hv, ⟨by omega, by omega, by omega⟩, d1.2, by rw [ek]⟩
theorem NMR.b {c : Nat → Int} {most x : Int} {s t : PSt} (h : NMR c most x s t) (h0 : ¬ x < 0) : NMG c most (SKP c s.1) ∧ x = VLU c (SKP c s.1) (DGF c 4 (SKP c s.1)) ∧ t = (SKP c s.1 + DGF c 4 (SKP c s.1), s.2) := by
  rcases h with h | h
  · exact absurd h.1 h0
  · exact h.2
theorem NMR.n {c : Nat → Int} {most x : Int} {s t : PSt} (h : NMR c most x s t) (h0 : x < 0) : ¬ NMG c most (SKP c s.1) := by
  rcases h with h | h
  · exact h.2
  · omega
theorem NMR.v {c : Nat → Int} {a b x : Int} {s t : PSt} (h : NMR c a x s t) (e : a = b) : NMR c b x s t := by subst e; exact h
/-- a number that stands alone as a part -/
theorem RNB.no {c : Nat → Int} {s t : PSt} {k : Nat} {x : Int} (hc : C40 c) (hd : 48 ≤ c (SKP c s.1) ∧ c (SKP c s.1) ≤ 57) (h : NMR c 999 x (SKP c s.1, s.2.1 + 1, s.2.2) t) (h0 : x < 0) : RPT M c k s = none := by
  rw [RPT.d hd]
  have g := h.n h0
  rw [show SKP c (SKP c s.1, s.2.1 + 1, s.2.2).1 = SKP c s.1 from SKP.sk hc _] at g
  unfold RNB
  by_cases z : 40 ≤ s.2.1
  · rw [if_pos z]
  · rw [if_neg z]; exact NUB.ng g
theorem RNB.yes {c : Nat → Int} {s t u : PSt} {k : Nat} {x : Int} (hc : C40 c) (hs : s.2.1 < 40) (hd : 48 ≤ c (SKP c s.1) ∧ c (SKP c s.1) ≤ 57) (h : NMR c 999 x (SKP c s.1, s.2.1 + 1, s.2.2) t) (h0 : ¬ x < 0) (hu : u = (t.1, t.2.1, APS M t.2.2 (1, x))) : RPT M c k s = some u := by
  rw [RPT.d hd]
  obtain ⟨g, gx, gt⟩ := h.b h0
  rw [show SKP c (SKP c s.1, s.2.1 + 1, s.2.2).1 = SKP c s.1 from SKP.sk hc _] at g gx gt
  subst hu; subst gt
  unfold RNB
  rw [if_neg (by show ¬ 40 ≤ s.2.1; omega)]
  refine (NUB.g (s := (SKP c s.1, s.2.1 + 1, s.2.2)) g).trans ?_
  rw [gx]
/-- the end of [ .. ] -/
theorem ROV2.f {c : Nat → Int} {S : PSt → Option PSt} {s t1 t2 t3 t4 t5 u : PSt} {x : Int} {o1 : Option PSt} (hc : C40 c) (hs : s.2.1 < 40) (e1 : o1 = S (s.1, s.2.1 + 1, s.2.2)) (h1 : o1 = some t1 ∨ (o1 = none ∧ STK c t1)) (g1 : HSR c 44 1 t1 t2) (h2 : S t2 = some t3 ∨ (S t2 = none ∧ STK c t3)) (g2 : HSR c 93 1 t3 t4) (hn : NMR c 8 x t4 t5) : (x < 0 → ROV2 M c S s = none) ∧ (¬ x < 0 → u = (t5.1, t5.2.1, APS M t5.2.2 (4, x)) → ROV2 M c S s = some u) := by
  have a1 := h1.resolve_right (fun q => by have := q.2.no g1 (by decide); omega)
  have a2 := h2.resolve_right (fun q => by have := q.2.no g2 (by decide); omega)
  have k1 : TAK c 44 t1 = some t2 := by
    rcases g1.tk with z | z
    · exact z.2
    · exact absurd z.1 (by decide)
  have k2 : TAK c 93 t3 = some t4 := by
    rcases g2.tk with z | z
    · exact z.2
    · exact absurd z.1 (by decide)
  have e : ROV2 M c S s = NUB M c 4 8 (SKP c t4.1, t4.2) := by
    rw [ROV2.u hs, ← e1, a1]
    show ((TAK c 44 t1).bind S).bind _ = _
    rw [k1]
    show (S t2).bind _ = _
    rw [a2]
    show (TAK c 93 t3).bind _ = _
    rw [k2]; rfl
  rw [e]
  refine ⟨fun h0 => NUB.ng (s := (SKP c t4.1, t4.2)) (hn.n h0), fun h0 hu => ?_⟩
  obtain ⟨g, gx, gt⟩ := hn.b h0
  subst hu; subst gt
  refine (NUB.g (s := (SKP c t4.1, t4.2)) g).trans ?_
  rw [gx]
theorem ROV2.n1 {c : Nat → Int} {S : PSt → Option PSt} {s : PSt} (hs : s.2.1 < 40) (h : S (s.1, s.2.1 + 1, s.2.2) = none) : ROV2 M c S s = none := by rw [ROV2.u hs, h]; rfl
theorem ROV2.n2 {c : Nat → Int} {S : PSt → Option PSt} {s t1 t2 : PSt} {x : Int} (hs : s.2.1 < 40) (h1 : S (s.1, s.2.1 + 1, s.2.2) = some t1 ∨ (S (s.1, s.2.1 + 1, s.2.2) = none ∧ STK c t1)) (g1 : HSR c 44 x t1 t2) (hx : x ≠ 1) : ROV2 M c S s = none := by
  rw [ROV2.u hs]
  rcases h1 with h | ⟨h, -⟩
  · rw [h]
    show ((TAK c 44 t1).bind S).bind _ = none
    rw [(g1.tk.resolve_left (fun q => hx q.1)).2]; rfl
  · rw [h]; rfl
theorem ROV2.n3 {c : Nat → Int} {S : PSt → Option PSt} {s t1 t2 : PSt} {x : Int} (hs : s.2.1 < 40) (h1 : S (s.1, s.2.1 + 1, s.2.2) = some t1 ∨ (S (s.1, s.2.1 + 1, s.2.2) = none ∧ STK c t1)) (g1 : HSR c 44 x t1 t2) (hx : x ≠ 0) (h2 : S t2 = none) : ROV2 M c S s = none := by
  rw [ROV2.u hs]
  rcases h1 with h | ⟨h, -⟩
  · rw [h]
    show ((TAK c 44 t1).bind S).bind _ = none
    rw [(g1.tk.resolve_right (fun q => hx q.1)).2]
    show (S t2).bind _ = none
    rw [h2]; rfl
  · rw [h]; rfl
theorem ROV2.n4 {c : Nat → Int} {S : PSt → Option PSt} {s t1 t2 t3 t4 : PSt} {x y : Int} (hs : s.2.1 < 40) (h1 : S (s.1, s.2.1 + 1, s.2.2) = some t1 ∨ (S (s.1, s.2.1 + 1, s.2.2) = none ∧ STK c t1)) (g1 : HSR c 44 x t1 t2) (hx : x ≠ 0) (h2 : S t2 = some t3 ∨ (S t2 = none ∧ STK c t3)) (g2 : HSR c 93 y t3 t4) (hy : y ≠ 1) : ROV2 M c S s = none := by
  rw [ROV2.u hs]
  rcases h1 with h | ⟨h, -⟩
  · rw [h]
    show ((TAK c 44 t1).bind S).bind _ = none
    rw [(g1.tk.resolve_right (fun q => hx q.1)).2]
    show (S t2).bind _ = none
    rcases h2 with h2 | ⟨h2, -⟩
    · rw [h2]
      show (TAK c 93 t3).bind _ = none
      rw [(g2.tk.resolve_left (fun q => hy q.1)).2]; rfl
    · rw [h2]; rfl
  · rw [h]; rfl
theorem HSR.o {c : Nat → Int} {v x : Int} {s t : PSt} (h : HSR c v x s t) (hx : x = 1) : HSR c v 1 s t := by subst hx; exact h
theorem RDM.z0 {I : IT} {m w : Nat} (h1 : (I m 12).toInt = 0) (h2 : (I m 16).toInt = 0) (h3 : (I m 19).toInt = 0) : RDM I m w = (0, 0, []) := by
  unfold RDM WTL
  rw [h1, h2, h3]; rfl
/-- nothing from m on -/
def CM9 (c : Nat → Int) (m : Nat) : Prop := ∀ i, m ≤ i → c i = -1
theorem SKP.m {c : Nat → Int} {m p : Nat} (hc : CM9 c m) (h : p ≤ m) : SKP c p ≤ m := by
  by_cases x : SKP c p ≤ m
  · exact x
  · have a := (SKF.b 401 p (c := c)).1.2 m h (by show m < SKP c p; omega)
    rw [hc m (Nat.le_refl _)] at a; omega
theorem CM9.lt {c : Nat → Int} {m q : Nat} {v : Int} (hc : CM9 c m) (h : c q = v) (hv : v ≠ -1) : q < m := by
  by_cases x : q < m
  · exact x
  · have := hc q (by omega); omega
def PB9 (m : Nat) (P : PSt → Option PSt) : Prop := ∀ s t, P s = some t → s.1 ≤ m → t.1 ≤ m
theorem PB9.bd {m : Nat} {o : Option PSt} {P : PSt → Option PSt} {t : PSt} (hP : PB9 m P) (h : ∀ u, o = some u → u.1 ≤ m) (e : o.bind P = some t) : t.1 ≤ m := by
  obtain ⟨u, e1, e2⟩ := OB9.y e
  exact hP u t e2 (h u e1)
theorem PB9.tak {c : Nat → Int} {m : Nat} {v : Int} (hc : CM9 c m) (hv : v ≠ -1) : PB9 m (TAK c v) := fun s t e hs => by
  unfold TAK at e
  by_cases a : c (SKP c s.1) = v
  · rw [if_pos a] at e; cases e
    exact hc.lt a hv
  · rw [if_neg a] at e; cases e
theorem PB9.rlp {c : Nat → Int} {m : Nat} {v k : Int} {P : PSt → Option PSt} (hc : CM9 c m) (hv : v ≠ -1) (h : PB9 m P) : ∀ n, PB9 m (RLP M c v k P n)
  | 0 => fun _ _ e _ => by cases e
  | n + 1 => fun s t e hs => by
    have e : (if c (SKP c s.1) = v then (if 40 ≤ s.2.1 then none else (P (SKP c s.1 + 1, s.2.1 + 1, s.2.2)).bind (fun t => RLP M c v k P n (t.1, t.2.1, APS M t.2.2 (k, 0)))) else some (SKP c s.1, s.2)) = some t := e
    by_cases a : c (SKP c s.1) = v
    · rw [if_pos a] at e
      by_cases b : 40 ≤ s.2.1
      · rw [if_pos b] at e; cases e
      · rw [if_neg b] at e
        obtain ⟨u, e1, e2⟩ := OB9.y e
        have g := h _ _ e1 (by show SKP c s.1 + 1 ≤ m; exact hc.lt a hv)
        exact PB9.rlp hc hv h n _ _ e2 g
    · rw [if_neg a] at e; cases e
      exact SKP.m hc hs
theorem PB9.rpr {c : Nat → Int} {m : Nat} {P : PSt → Option PSt} (hc : CM9 c m) (h : PB9 m P) : PB9 m (RPR M c P) := fun s t e hs => by
  obtain ⟨u, e1, e2⟩ := OB9.y (show (P s).bind (RLP M c 42 3 P 41) = some t from e)
  exact PB9.rlp hc (by decide) h 41 u t e2 (h s u e1 hs)
theorem PB9.rsu {c : Nat → Int} {m : Nat} {P : PSt → Option PSt} (hc : CM9 c m) (h : PB9 m P) : PB9 m (RSU M c P) := fun s t e hs => by
  obtain ⟨u, e1, e2⟩ := OB9.y (show (RPR M c P s).bind (RLP M c 43 2 (RPR M c P) 41) = some t from e)
  exact PB9.rlp hc (by decide) (PB9.rpr hc h) 41 u t e2 (PB9.rpr hc h s u e1 hs)
theorem DGF.m {c : Nat → Int} {m : Nat} (hc : CM9 c m) : ∀ n p, p ≤ m → p + DGF c n p ≤ m
  | 0, p, h => h
  | n + 1, p, h => by
    show p + (if 48 ≤ c p ∧ c p ≤ 57 then DGF c n (p + 1) + 1 else 0) ≤ m
    by_cases a : 48 ≤ c p ∧ c p ≤ 57
    · rw [if_pos a]
      have l := hc.lt (q := p) rfl (by omega)
      have := DGF.m hc n (p + 1) (by omega)
      omega
    · rw [if_neg a]; omega
theorem PB9.nub {c : Nat → Int} {m : Nat} {w k : Int} (hc : CM9 c m) : PB9 m (NUB M c w k) := fun s t e hs => by
  unfold NUB at e
  by_cases a : 1 ≤ DGF c 4 s.1 ∧ DGF c 4 s.1 ≤ 3 ∧ VLU c s.1 (DGF c 4 s.1) ≤ k
  · rw [if_pos a] at e; cases e
    exact DGF.m hc 4 s.1 hs
  · rw [if_neg a] at e; cases e
theorem PB9.rlt {c : Nat → Int} {m : Nat} {s t : PSt} (hc : CM9 c m) (h : c s.1 ≠ -1) (e : RLU M c s = some t) : t.1 ≤ m := by
  unfold RLU at e
  by_cases a : 40 ≤ s.2.1 ∨ (97 ≤ c (s.1 + 1) ∧ c (s.1 + 1) ≤ 122) ∨ (65 ≤ c (s.1 + 1) ∧ c (s.1 + 1) ≤ 90)
  · rw [if_pos a] at e; cases e
  · rw [if_neg a] at e; cases e
    exact hc.lt rfl h
theorem PB9.rnb {c : Nat → Int} {m : Nat} (hc : CM9 c m) : PB9 m (RNB M c) := fun s t e hs => by
  unfold RNB at e
  by_cases a : 40 ≤ s.2.1
  · rw [if_pos a] at e; cases e
  · rw [if_neg a] at e; exact PB9.nub hc _ _ e hs
theorem PB9.rov {c : Nat → Int} {m : Nat} {S : PSt → Option PSt} (hc : CM9 c m) (h : PB9 m S) {s t : PSt} (h9 : c s.1 = 91) (e : ROV M c S s = some t) : t.1 ≤ m := by
  unfold ROV at e
  by_cases a : 40 ≤ s.2.1
  · rw [if_pos a] at e; cases e
  · rw [if_neg a] at e
    obtain ⟨u1, e1, e⟩ := OB9.y e
    obtain ⟨u2, e2, e⟩ := OB9.y e
    obtain ⟨u3, e3, e⟩ := OB9.y e
    obtain ⟨u4, e4, e⟩ := OB9.y e
    have l1 := h _ _ e1 (by show s.1 + 1 ≤ m; exact hc.lt h9 (by decide))
    have l2 := PB9.tak hc (by decide) _ _ e2 l1
    have l3 := h _ _ e3 l2
    have l4 := PB9.tak hc (by decide) _ _ e4 l3
    exact PB9.nub hc _ _ e (by show SKP c u4.1 ≤ m; exact SKP.m hc l4)
theorem PB9.rpt {c : Nat → Int} {m : Nat} (hc : CM9 c m) : ∀ k, PB9 m (RPT M c k)
  | 0 => fun s t e hs => by
    by_cases a : c (SKP c s.1) = 102
    · rw [RPT.l a] at e; exact PB9.rlt hc (by show c (SKP c s.1) ≠ -1; omega) e
    · by_cases b : 48 ≤ c (SKP c s.1) ∧ c (SKP c s.1) ≤ 57
      · rw [RPT.d b] at e; exact PB9.rnb hc _ _ e (by show SKP c s.1 ≤ m; exact SKP.m hc hs)
      · rw [RPT.z a b] at e; cases e
  | k + 1 => fun s t e hs => by
    by_cases a : c (SKP c s.1) = 102
    · rw [RPT.l a] at e; exact PB9.rlt hc (by show c (SKP c s.1) ≠ -1; omega) e
    · by_cases b : 48 ≤ c (SKP c s.1) ∧ c (SKP c s.1) ≤ 57
      · rw [RPT.d b] at e; exact PB9.rnb hc _ _ e (by show SKP c s.1 ≤ m; exact SKP.m hc hs)
      · by_cases p : c (SKP c s.1) = 40
        · rw [RPT.p p] at e
          obtain ⟨u, e1, e2⟩ := OB9.y e
          exact PB9.tak hc (by decide) _ _ e2 (PB9.rsu hc (PB9.rpt hc k) _ _ e1 (by show SKP c s.1 + 1 ≤ m; exact hc.lt p (by decide)))
        · by_cases q : c (SKP c s.1) = 91
          · rw [RPT.o q] at e
            exact PB9.rov hc (PB9.rsu hc (PB9.rpt hc k)) (by show c (SKP c s.1) = 91; exact q) e
          · by_cases r : c (SKP c s.1) = 45
            · rw [RPT.m r] at e
              obtain ⟨u, e1, e2⟩ := OB9.y e
              have g := PB9.rpt hc k (SKP c s.1 + 1, s.2) u e1 (by show SKP c s.1 + 1 ≤ m; exact hc.lt r (by decide))
              cases e2
              exact g
            · rw [RPT.n a b p q r] at e; cases e
theorem BCM.ge {f : Nat → Int32} {m : Int} {j : Nat} (h : (j : Int) < m) : BCM f m j ≠ -1 := by
  unfold BCM; rw [if_pos h]; omega
/-- all is read: signs, if nothing is left -/
theorem RDA.g1 {c : Nat → Int} {t : PSt} {q : Nat} (h : RSU M c (RPT M c 6) (0, 0, []) = some t ∨ (RSU M c (RPT M c 6) (0, 0, []) = none ∧ STK c t)) (hq : q = SKP c t.1) (e : c q = -1) : RDA M c = some t.2.2 := by
  subst hq
  rcases h with h | ⟨-, s⟩
  · exact RDA.y h rfl rfl e rfl
  · exfalso; unfold STK at s; omega
theorem RDA.g0 {c : Nat → Int} {t : PSt} {q : Nat} (h : RSU M c (RPT M c 6) (0, 0, []) = some t ∨ (RSU M c (RPT M c 6) (0, 0, []) = none ∧ STK c t)) (hq : q = SKP c t.1) (e : RSU M c (RPT M c 6) (0, 0, []) = some t → c q ≠ -1) : RDA M c = none := by
  subst hq
  rcases h with h | ⟨h, -⟩
  · exact RDA.n h rfl rfl (e h)
  · exact RDA.n0 h rfl
theorem WTL.cg {g g' : Nat → Int32} {n : Nat} (h : ∀ r, 3607 ≤ r → g r = g' r) : WTL g n = WTL g' n := by
  unfold WTL
  exact List.map_congr_left (fun k _ => by rw [h (3607 + 2 * k) (by omega), h (3608 + 2 * k) (by omega)])
/-- the draft laid where the signs stand: k cells of it -/
def SGF (W g : Nat → Int32) (n : Nat) (k : Int) : Prop := (∀ j : Nat, (j : Int) < k → W (198 + 401 * n + j) = g (3606 + j)) ∧ ∀ r : Nat, (r < 198 + 401 * n ∨ 198 + 401 * n + k.toNat ≤ r) → W r = g r
theorem SGF.z {W g : Nat → Int32} {n : Nat} {k : Int} (e : W = g) (h : k = 0) : SGF W g n k := by
  subst e; exact ⟨fun j hj => by omega, fun _ _ => rfl⟩
theorem SGF.s {I1 I2 : IT} {w n : Nat} {g : Nat → Int32} {j a x k k' : Int32} (h : SGF (I1 w) g n k.toInt) (u : I2 = u2 I1 w j.toNatClampNeg x) (r : I1 w a.toNatClampNeg = x) (hn : n < 8) (hj : j.toInt = 198 + 401 * n + k.toInt) (ha : a.toInt = 3606 + k.toInt) (h0 : 0 ≤ k.toInt) (hk4 : k.toInt < 401) (hk : k'.toInt = k.toInt + 1) : SGF (I2 w) g n k'.toInt := by
  have n0 := ncz h0
  have n1 := ncz (x := j) (by omega)
  have n2 := ncz (x := a) (by omega)
  have v : x = g a.toNatClampNeg := by rw [← r]; exact h.2 _ (by omega)
  refine ⟨fun i hi => ?_, fun i hi => ?_⟩
  · rw [u]
    by_cases q : i = k.toNatClampNeg
    · rw [show 198 + 401 * n + i = j.toNatClampNeg from by omega, u2_s, v, show a.toNatClampNeg = 3606 + i from by omega]
    · rw [u2_k (by omega)]; exact h.1 i (by omega)
  · rw [u, u2_k (by omega)]; exact h.2 i (by omega)
theorem SGF.w {W W1 g : Nat → Int32} {n : Nat} {s k : Int} (h : SGF W1 g n k) (hk : k = 401) (e : ∀ r, r ≠ 3 → W r = W1 r) (hs : (g 3606).toInt = s) (h0 : 0 ≤ s) (h2 : s ≤ 199) : WSL W n = WTL g s.toNat := by
  subst hk
  unfold WSL WTL
  have e0 := h.1 0 (by decide)
  rw [e _ (by omega), show 198 + 401 * n = 198 + 401 * n + 0 from rfl, e0, hs]
  exact List.map_congr_left (fun k hk => by
    have hk := List.mem_range.mp hk
    have a := h.1 (1 + 2 * k) (by omega)
    have b := h.1 (2 + 2 * k) (by omega)
    rw [e (199 + 401 * n + 2 * k) (by omega), e (200 + 401 * n + 2 * k) (by omega), show 199 + 401 * n + 2 * k = 198 + 401 * n + (1 + 2 * k) from by omega, show 200 + 401 * n + 2 * k = 198 + 401 * n + (2 + 2 * k) from by omega, a, b, show 3606 + (1 + 2 * k) = 3607 + 2 * k from by omega, show 3606 + (2 + 2 * k) = 3608 + 2 * k from by omega])
/-- signs told: what became of the world -/
def SIG9 (W9 W : Nat → Int32) (t x : Int) (Z : Option (List (Int × Int))) : Prop := (t = 1 ∧ Z = none ∧ ∀ r : Nat, r < 3606 → W9 r = W r) ∨ (t = 2 ∧ Z ≠ none ∧ (W 3).toInt = 8 ∧ ∀ r : Nat, r < 3606 → W9 r = W r) ∨ (t = 0 ∧ (W 3).toInt < 8 ∧ x = (W 3).toInt ∧ (W9 3).toInt = (W 3).toInt + 1 ∧ Z = some (WSL W9 (W 3).toInt.toNat) ∧ ∀ r : Nat, r ≠ 3 → (r < 198 + 401 * (W 3).toInt.toNat ∨ 599 + 401 * (W 3).toInt.toNat ≤ r) → r < 3606 → W9 r = W r)
theorem SIG9.fr {W9 W : Nat → Int32} {t x : Int} {Z : Option (List (Int × Int))} (h : SIG9 W9 W t x Z) : ∀ r : Nat, r ≠ 3 ∧ (r < 198 ∨ 3406 ≤ r) ∧ r < 3606 → W9 r = W r := fun r hr => by
  rcases h with h | h | h
  · exact h.2.2 r hr.2.2
  · exact h.2.2.2 r hr.2.2
  · exact h.2.2.2.2.2 r hr.1 (by have := h.2.1; omega) hr.2.2
end Lrp
