/-! the reference: signs read, exactly -/
def WSL (W : Nat → Int32) (n : Nat) : List (Int × Int) := (List.range (W (198 + 401 * n)).toInt.toNat).map (fun k => ((W (199 + 401 * n + 2 * k)).toInt, (W (200 + 401 * n + 2 * k)).toInt))
theorem WSL.len {W : Nat → Int32} {n : Nat} : (WSL W n).length = (W (198 + 401 * n)).toInt.toNat := by unfold WSL; rw [List.length_map, List.length_range]
theorem WSL.eq {W W1 : Nat → Int32} {n : Nat} (hl : (WSL W n).length ≤ 160) (e : ∀ r, 198 + 401 * n ≤ r → r < 599 + 401 * n → W1 r = W r) : WSL W1 n = WSL W n := by
  have l := WSL.len (W := W) (n := n)
  unfold WSL
  rw [e _ (by omega) (by omega)]
  exact List.map_congr_left (fun k hk => by
    have hk := List.mem_range.mp hk
    rw [e (199 + 401 * n + 2 * k) (by omega) (by omega), e (200 + 401 * n + 2 * k) (by omega) (by omega)])
section Lrp
variable {M : Nat}
def BCM (f : Nat → Int32) (m : Int) (k : Nat) : Int := if (k : Int) < m then (f k).toInt % 256 else -1
def WTL (W : Nat → Int32) (n : Nat) : List (Int × Int) := (List.range n).map (fun k => ((W (3607 + 2 * k)).toInt, (W (3608 + 2 * k)).toInt))
def RDM (I : IT) (m w : Nat) : PSt := ((I m 12).toInt.toNat, (I m 16).toInt.toNat, WTL (I w) (I m 19).toInt.toNat)
theorem BCM.c40 {f : Nat → Int32} {m : Int} (h : m ≤ 400) : C40 (BCM f m) := fun i hi => by unfold BCM; rw [if_neg (by omega)]
theorem BCM.at {f f1 : Nat → Int32} {m : Int} {k x : Int32} {j : Nat} (e1 : f1 = f) (e : f1 k.toNatClampNeg = x) (h0 : 0 ≤ k.toInt) (h1 : k.toInt < m) (hj : (j : Int) = k.toInt) : BCM f m j = x.toInt % 256 := by
  have n0 := ncz h0
  unfold BCM
  rw [if_pos (by omega), ← e1, show j = k.toNatClampNeg from by omega, e]
theorem BCM.ab {f f1 : Nat → Int32} {m : Int} {k x : Int32} {j : Nat} (hT : TBY f) (e1 : f1 = f) (e : f1 k.toNatClampNeg = x) (h0 : 0 ≤ k.toInt) (h1 : k.toInt < m) (hj : (j : Int) = k.toInt) : BCM f m j = x.toInt % 256 ∧ -128 ≤ x.toInt ∧ x.toInt ≤ 127 := ⟨BCM.at e1 e h0 h1 hj, by have q := hT k.toNatClampNeg; rw [← e1, e] at q; exact q⟩
theorem BCM.no {f : Nat → Int32} {m : Int} {j : Nat} (h : m ≤ (j : Int)) : BCM f m j = -1 := by unfold BCM; rw [if_neg (by omega)]
theorem BCM.lt {f : Nat → Int32} {m v : Int} {j : Nat} (h : BCM f m j = v) (hv : v ≠ -1) : (j : Int) < m := by
  unfold BCM at h
  by_cases q : (j : Int) < m
  · exact q
  · rw [if_neg q] at h; omega
theorem BCM.tb {x : Int32} {n : Int} (h : -128 ≤ x.toInt ∧ x.toInt ≤ 127) (hn : 0 ≤ n ∧ n ≤ 127) : (n ≤ x.toInt % 256 ↔ n ≤ x.toInt ∨ x.toInt < 0) ∧ (x.toInt % 256 ≤ n ↔ 0 ≤ x.toInt ∧ x.toInt ≤ n) := by omega
theorem WTL.len {W : Nat → Int32} {n : Nat} : (WTL W n).length = n := by unfold WTL; rw [List.length_map, List.length_range]
theorem WTL.em {W W1 : Nat → Int32} {s s' a b : Int32} (h : EMT W W1 s.toNatClampNeg a b) (h0 : 0 ≤ s.toInt) (hs : s'.toInt = s.toInt + 1) : WTL W1 s'.toInt.toNat = WTL W s.toInt.toNat ++ [(a.toInt, b.toInt)] := by
  have n0 := ncz h0
  obtain ⟨h1, h2, h3⟩ := h
  unfold WTL
  rw [show s'.toInt.toNat = s.toInt.toNat + 1 from by omega, List.range_succ, List.map_append]
  have e : (List.range s.toInt.toNat).map (fun k => ((W1 (3607 + 2 * k)).toInt, (W1 (3608 + 2 * k)).toInt)) = (List.range s.toInt.toNat).map (fun k => ((W (3607 + 2 * k)).toInt, (W (3608 + 2 * k)).toInt)) := List.map_congr_left (fun k hk => by
    have hk := List.mem_range.mp hk
    rw [h3 (3607 + 2 * k) (by omega) (by omega), h3 (3608 + 2 * k) (by omega) (by omega)])
  rw [e]
  show _ ++ [((W1 (3607 + 2 * s.toInt.toNat)).toInt, (W1 (3608 + 2 * s.toInt.toNat)).toInt)] = _
  rw [show 3607 + 2 * s.toInt.toNat = 3606 + 1 + 2 * s.toNatClampNeg from by omega, show 3608 + 2 * s.toInt.toNat = 3606 + 2 + 2 * s.toNatClampNeg from by omega, h1, h2]
theorem RDM.mk {I : IT} {m w : Nat} {p c : Nat} {g : Nat → Int32} {z : Int32} (h1 : (I m 12).toInt = p) (h2 : (I m 16).toInt = c) (h3 : I m 19 = z) (h4 : I w = g) : RDM I m w = (p, c, WTL g z.toInt.toNat) := by
  unfold RDM
  rw [h1, h2, h3, h4]; rfl
theorem RDM.l {I : IT} {m w : Nat} {s : PSt} {g : Nat → Int32} {z : Int32} (hs : RDM I m w = s) (h3 : I m 19 = z) (h4 : I w = g) : WTL g z.toInt.toNat = s.2.2 := by subst hs; subst h3; subst h4; rfl
theorem RDM.c1 {I : IT} {m w : Nat} {s : PSt} {z : Int32} (hs : RDM I m w = s) (e : I m 12 = z) (h : 0 ≤ z.toInt) : z.toInt = s.1 := by
  subst hs; show z.toInt = ((I m 12).toInt.toNat : Int); rw [e]; omega
theorem RDM.c2 {I : IT} {m w : Nat} {s : PSt} {z : Int32} (hs : RDM I m w = s) (e : I m 16 = z) (h : 0 ≤ z.toInt) : z.toInt = s.2.1 := by
  subst hs; show z.toInt = ((I m 16).toInt.toNat : Int); rw [e]; omega
theorem RDM.c3 {I : IT} {m w : Nat} {s : PSt} {z : Int32} (hs : RDM I m w = s) (e : I m 19 = z) (h : 0 ≤ z.toInt) : z.toInt = s.2.2.length := by
  subst hs; show z.toInt = ((WTL (I w) (I m 19).toInt.toNat).length : Int); rw [WTL.len, e]; omega
/-- the same world and steps: place and count told -/
theorem RDM.nx {I I1 : IT} {m w : Nat} {s : PSt} (hs : RDM I m w = s) (e3 : (I1 m 19).toInt = (I m 19).toInt) (e4 : I1 w = I w) {p c : Nat} (h1 : (I1 m 12).toInt = p) (h2 : (I1 m 16).toInt = c) : RDM I1 m w = (p, c, s.2.2) := by
  subst hs; unfold RDM
  rw [h1, h2, e3, e4]; rfl
theorem RDM.u {I I1 : IT} {m w j : Nat} {v : Int32} {s : PSt} (hs : RDM I m w = s) (u : I1 = u2 I m j v) (hw : w ≠ m) (h1 : 12 ≠ j) (h2 : 16 ≠ j) (h3 : 19 ≠ j) : RDM I1 m w = s := by
  subst hs; unfold RDM
  rw [u, u2_k h1, u2_k h2, u2_k h3, u2_r hw]
theorem RDM.u12 {I I1 : IT} {m w : Nat} {v : Int32} {s : PSt} {p : Nat} (hs : RDM I m w = s) (u : I1 = u2 I m 12 v) (hw : w ≠ m) (hp : v.toInt = p) : RDM I1 m w = (p, s.2) := by
  subst hs; unfold RDM
  rw [u, u2_s, u2_k (by decide), u2_k (by decide), u2_r hw, hp]; rfl
theorem RDM.u16 {I I1 : IT} {m w : Nat} {v : Int32} {s : PSt} {c : Nat} (hs : RDM I m w = s) (u : I1 = u2 I m 16 v) (hw : w ≠ m) (hc : v.toInt = c) : RDM I1 m w = (s.1, c, s.2.2) := by
  subst hs; unfold RDM
  rw [u, u2_k (by decide), u2_s, u2_k (by decide), u2_r hw, hc]; rfl
theorem APS.in {l : List (Int × Int)} {x : Int × Int} (h : l.length < M) : l ++ [x] = APS M l x := by unfold APS; rw [if_pos h]
/-- behind a sign that may stand there -/
def HSR (c : Nat → Int) (v x : Int) (s t : PSt) : Prop := (x = 1 ∧ c (SKP c s.1) = v ∧ t = (SKP c s.1 + 1, s.2)) ∨ (x = 0 ∧ c (SKP c s.1) ≠ v ∧ t = (SKP c s.1, s.2))
def CTR (c : Nat → Int) (v x : Int) (s t : PSt) : Prop := (x = 1 ∧ c (SKP c s.1) = v ∧ s.2.1 ≠ 40 ∧ t = (SKP c s.1 + 1, s.2.1 + 1, s.2.2)) ∨ (x = 0 ∧ (c (SKP c s.1) ≠ v ∨ s.2.1 = 40) ∧ t = (SKP c s.1, s.2))
def NMG (c : Nat → Int) (most : Int) (q : Nat) : Prop := 1 ≤ DGF c 4 q ∧ DGF c 4 q ≤ 3 ∧ VLU c q (DGF c 4 q) ≤ most
def NMR (c : Nat → Int) (most x : Int) (s t : PSt) : Prop := (x < 0 ∧ ¬ NMG c most (SKP c s.1)) ∨ (0 ≤ x ∧ NMG c most (SKP c s.1) ∧ x = VLU c (SKP c s.1) (DGF c 4 (SKP c s.1)) ∧ t = (SKP c s.1 + DGF c 4 (SKP c s.1), s.2))
theorem NUB.g {c : Nat → Int} {k most : Int} {s : PSt} (h : NMG c most s.1) : NUB M c k most s = some (s.1 + DGF c 4 s.1, s.2.1, APS M s.2.2 (k, VLU c s.1 (DGF c 4 s.1))) := by unfold NUB; exact if_pos h
theorem NUB.ng {c : Nat → Int} {k most : Int} {s : PSt} (h : ¬ NMG c most s.1) : NUB M c k most s = none := by unfold NUB; exact if_neg h
/-- nothing that can stand there follows any more -/
def STK (c : Nat → Int) (t : PSt) : Prop := (65 ≤ c (SKP c t.1) ∧ c (SKP c t.1) ≤ 90) ∨ ((c (SKP c t.1) = 42 ∨ c (SKP c t.1) = 43) ∧ 40 ≤ t.2.1)
theorem STK.sk {c : Nat → Int} {t u : PSt} (hc : C40 c) (h : STK c t) (e1 : u.1 = SKP c t.1) (e2 : u.2.1 = t.2.1) : STK c u := by
  unfold STK at *
  rw [e1, SKP.sk hc, e2]; exact h
theorem STK.cg {c : Nat → Int} {t u : PSt} (h : STK c t) (e1 : u.1 = t.1) (e2 : u.2.1 = t.2.1) : STK c u := by
  unfold STK at *
  rw [e1, e2]; exact h
def RS3 (c : Nat → Int) (x : Int) (o : Option PSt) (t : PSt) : Prop := (x = 0 ∧ o = none) ∨ (x = 1 ∧ (o = some t ∨ (o = none ∧ STK c t)))
theorem RS3.f {c : Nat → Int} {x : Int} {o : Option PSt} {t : PSt} (hx : x = 0) (h : o = none) : RS3 c x o t := Or.inl ⟨hx, h⟩
theorem RS3.t {c : Nat → Int} {x : Int} {o : Option PSt} {t : PSt} (hx : x = 1) (h : o = some t) : RS3 c x o t := Or.inr ⟨hx, Or.inl h⟩
theorem RS3.s {c : Nat → Int} {x : Int} {o : Option PSt} {t : PSt} (hx : x = 1) (h : o = none) (k : STK c t) : RS3 c x o t := Or.inr ⟨hx, Or.inr ⟨h, k⟩⟩
theorem RS3.no {c : Nat → Int} {x : Int} {o : Option PSt} {t : PSt} (h : RS3 c x o t) (hx : x ≠ 1) : o = none := by
  rcases h with h | h
  · exact h.2
  · exact absurd h.1 hx
theorem RS3.y {c : Nat → Int} {x : Int} {o : Option PSt} {t : PSt} (h : RS3 c x o t) (hx : x ≠ 0) : o = some t ∨ (o = none ∧ STK c t) := by
  rcases h with h | h
  · exact absurd h.1 hx
  · exact h.2
theorem RS3.b {c : Nat → Int} {x : Int} {o o' : Option PSt} {t : PSt} (h : RS3 c x o' t) (e : o = o') : RS3 c x o t := by subst e; exact h
theorem RS3.x {c : Nat → Int} {x y : Int} {o : Option PSt} {t : PSt} (h : RS3 c x o t) (e : y = x) : RS3 c y o t := by subst e; exact h
/-- then one step -/
theorem RS3.m {c : Nat → Int} {x : Int} {o : Option PSt} {u t : PSt} {k n : Int} (h : o = some u ∨ (o = none ∧ STK c u)) (hx : x = 1) (ht : t = (u.1, u.2.1, APS M u.2.2 (k, n))) : RS3 c x (o.bind (fun t => some (t.1, t.2.1, APS M t.2.2 (k, n)))) t := by
  subst ht
  rcases h with h | ⟨h, s⟩
  · exact RS3.t hx (by rw [h]; rfl)
  · exact RS3.s hx (by rw [h]; rfl) (s.cg rfl rfl)
/-- then a sign that isn't one of those -/
theorem HSR.tk {c : Nat → Int} {v x : Int} {u t : PSt} (g : HSR c v x u t) : (x = 1 ∧ TAK c v u = some t) ∨ (x = 0 ∧ TAK c v u = none) := by
  unfold TAK
  rcases g with ⟨g1, g2, g3⟩ | ⟨g1, g2, g3⟩
  · left; rw [if_pos g2, g3]; exact ⟨g1, rfl⟩
  · right; rw [if_neg g2]; exact ⟨g1, rfl⟩
theorem STK.no {c : Nat → Int} {v x : Int} {u t : PSt} (s : STK c u) (g : HSR c v x u t) (hv : v ≠ 42 ∧ v ≠ 43 ∧ ¬ (65 ≤ v ∧ v ≤ 90)) : x = 0 := by
  rcases g with ⟨g1, g2, g3⟩ | ⟨g1, g2, g3⟩
  · exfalso; unfold STK at s; omega
  · exact g1
theorem RS3.k {c : Nat → Int} {v x : Int} {o : Option PSt} {u t : PSt} (h : o = some u ∨ (o = none ∧ STK c u)) (g : HSR c v x u t) (hv : v ≠ 42 ∧ v ≠ 43 ∧ ¬ (65 ≤ v ∧ v ≤ 90)) : RS3 c x (o.bind (TAK c v)) t := by
  rcases h with h | ⟨h, s⟩
  · rw [h]
    rcases g.tk with ⟨g1, g2⟩ | ⟨g1, g2⟩
    · exact RS3.t g1 g2
    · exact RS3.f g1 g2
  · exact RS3.f (s.no g hv) (by rw [h]; rfl)
def ROV2 (M : Nat) (c : Nat → Int) (S : PSt → Option PSt) (s : PSt) : Option PSt := if 40 ≤ s.2.1 then none else (S (s.1, s.2.1 + 1, s.2.2)).bind (fun t => (TAK c 44 t).bind (fun t => (S t).bind (fun t => (TAK c 93 t).bind (fun t => NUB M c 4 8 (SKP c t.1, t.2)))))
theorem ROV2.e {c : Nat → Int} {S : PSt → Option PSt} {s : PSt} : ROV M c S s = ROV2 M c S (s.1 + 1, s.2) := rfl
theorem ROV2.n0 {c : Nat → Int} {S : PSt → Option PSt} {s : PSt} (h : 40 ≤ s.2.1) : ROV2 M c S s = none := by unfold ROV2; rw [if_pos h]
theorem ROV2.u {c : Nat → Int} {S : PSt → Option PSt} {s : PSt} (h : s.2.1 < 40) : ROV2 M c S s = (((S (s.1, s.2.1 + 1, s.2.2)).bind (TAK c 44)).bind S).bind (fun t => (TAK c 93 t).bind (fun t => NUB M c 4 8 (SKP c t.1, t.2))) := by
  unfold ROV2; rw [if_neg (by omega)]
  cases S (s.1, s.2.1 + 1, s.2.2) with
  | none => rfl
  | some t =>
    show (TAK c 44 t).bind _ = ((TAK c 44 t).bind S).bind _
    cases TAK c 44 t with
    | none => rfl
    | some t => rfl
/-- on the way through joined ones, or where nothing can stand any more -/
def LP3 (M : Nat) (c : Nat → Int) (v k : Int) (P : PSt → Option PSt) (o : Option PSt) (s : PSt) : Prop := LPI M c v k P o s 0 ∨ (o = none ∧ STK c s)
theorem LP3.z {c : Nat → Int} {v k : Int} {P : PSt → Option PSt} {o o1 : Option PSt} {s : PSt} (h1 : o1 = some s ∨ (o1 = none ∧ STK c s)) (h : o = o1.bind (RLP M c v k P 41)) (hs : s.2.1 ≤ 40) : LP3 M c v k P o s := by
  rcases h1 with e | ⟨e, q⟩
  · exact Or.inl (LPI.z e h rfl hs)
  · exact Or.inr ⟨by rw [h, e]; rfl, q⟩
theorem LP3.out {c : Nat → Int} {v k x y : Int} {P : PSt → Option PSt} {o : Option PSt} {s t : PSt} (h : LP3 M c v k P o s) (hc : C40 c) (g : CTR c v y s t) (hy : y ≠ 1) (hv : v = 42 ∨ v = 43) (hx : x = 1) : RS3 c x o t := by
  rcases g with g | ⟨-, g2, g3⟩
  · exact absurd g.1 hy
  · subst g3
    rcases h with h | ⟨h, q⟩
    · by_cases e : c (SKP c s.1) = v
      · have e4 := g2.resolve_left (fun z => z e)
        refine RS3.s hx (h.no e (by omega)) (Or.inr ⟨?_, by show 40 ≤ s.2.1; omega⟩)
        show c (SKP c (SKP c s.1)) = 42 ∨ c (SKP c (SKP c s.1)) = 43
        rw [SKP.sk hc, e]; exact hv
      · exact RS3.t hx (h.out e)
    · exact RS3.s hx h (q.sk hc rfl rfl)
theorem LP3.in {c : Nat → Int} {v k y : Int} {P : PSt → Option PSt} {o : Option PSt} {s t : PSt} (h : LP3 M c v k P o s) (g : CTR c v y s t) (hy : y ≠ 0) (hv : v = 42 ∨ v = 43) (h4 : s.2.1 ≤ 40) : LPI M c v k P o s 0 ∧ c (SKP c s.1) = v ∧ s.2.1 < 40 ∧ t = (SKP c s.1 + 1, s.2.1 + 1, s.2.2) := by
  rcases g with ⟨-, g1, g2, g3⟩ | g
  · refine ⟨h.resolve_right (fun q => ?_), g1, by omega, g3⟩
    have q := q.2
    unfold STK at q; omega
  · exact absurd g.1 hy
theorem LP3.s {c : Nat → Int} {v k : Int} {P : PSt → Option PSt} {o : Option PSt} {s u t : PSt} (h : LPI M c v k P o s 0) (e : c (SKP c s.1) = v) (hs : s.2.1 < 40) (hy : P (SKP c s.1 + 1, s.2.1 + 1, s.2.2) = some u ∨ (P (SKP c s.1 + 1, s.2.1 + 1, s.2.2) = none ∧ STK c u)) (hu : s.2.1 + 1 ≤ u.2.1) (h4 : u.2.1 ≤ 40) (et : t = (u.1, u.2.1, APS M u.2.2 (k, 0))) : LP3 M c v k P o t := by
  rcases hy with y | ⟨y, q⟩
  · obtain ⟨n, a1, a2, a3, a4⟩ := LPI.s (turn' := 1) h e hs y hu h4 et (by omega)
    exact Or.inl ⟨n, a1, a2, by omega, a4⟩
  · exact Or.inr ⟨h.no2 e hs y, q.cg (by rw [et]) (by rw [et])⟩
/-- letters from p to q -/
def LTB (c : Nat → Int) (p q : Nat) : Prop := p ≤ q ∧ ∀ i, p ≤ i → i < q → 97 ≤ c i ∧ c i ≤ 122
theorem LTB.z {c : Nat → Int} {p q : Nat} (h : q = p) : LTB c p q := ⟨by omega, fun i h1 h2 => by omega⟩
theorem LTB.s {c : Nat → Int} {p q q' : Nat} (h : LTB c p q) (e : 97 ≤ c q ∧ c q ≤ 122) (hq : q' = q + 1) : LTB c p q' := by
  subst hq
  refine ⟨by have := h.1; omega, fun i h1 h2 => ?_⟩
  by_cases x : i = q
  · subst x; exact e
  · exact h.2 i h1 (by omega)
/-- no sign begins there but perhaps a letter; a word is none -/
theorem LTB.no {c : Nat → Int} {k p q : Nat} {s : PSt} (h : LTB c p q) (hp : p = SKP c s.1) (nd : ¬ (48 ≤ c p ∧ c p ≤ 57)) (n1 : c p ≠ 45) (n2 : c p ≠ 40) (n3 : c p ≠ 91) (e : ¬ (97 ≤ c q ∧ c q ≤ 122)) (hq : q ≠ p + 1) : RPT M c k s = none := by
  subst hp
  by_cases f : c (SKP c s.1) = 102
  · rw [RPT.l f]
    have q2 : SKP c s.1 + 1 < q := by
      have := h.1
      rcases Nat.eq_or_lt_of_le h.1 with z | z
      · exfalso; rw [← z] at e; omega
      · omega
    have := h.2 (SKP c s.1 + 1) (by omega) q2
    exact RLU.n2 (s := (SKP c s.1, s.2)) rfl (Or.inl this)
  · exact RPT.n f nd n2 n3 n1
theorem LTB.nf {c : Nat → Int} {k p : Nat} {s : PSt} (hp : p = SKP c s.1) (nd : ¬ (48 ≤ c p ∧ c p ≤ 57)) (n1 : c p ≠ 45) (n2 : c p ≠ 40) (n3 : c p ≠ 91) (f : c p ≠ 102) : RPT M c k s = none := by
  subst hp
  exact RPT.n f nd n2 n3 n1
theorem LTB.f {c : Nat → Int} {k p : Nat} {s t : PSt} {y : Int} (hc : C40 c) (hp : p = SKP c s.1) (f : c p = 102) (hs : s.2.1 < 40) (e : ¬ (97 ≤ c (p + 1) ∧ c (p + 1) ≤ 122)) (ht : t = (p + 1, s.2.1 + 1, APS M s.2.2 (0, 0))) (hy : y = 1) : RS3 c y (RPT M c k s) t := by
  subst hp; subst ht
  rw [RPT.l f]
  by_cases u : 65 ≤ c (SKP c s.1 + 1) ∧ c (SKP c s.1 + 1) ≤ 90
  · refine RS3.s hy (RLU.n2 (s := (SKP c s.1, s.2)) rfl (Or.inr u)) (Or.inl ?_)
    have : SKP c (SKP c s.1 + 1) = SKP c s.1 + 1 := SKP.id hc (by omega)
    show 65 ≤ c (SKP c (SKP c s.1 + 1)) ∧ c (SKP c (SKP c s.1 + 1)) ≤ 90
    rw [this]; exact u
  · refine RS3.t hy ?_
    unfold RLU
    rw [if_neg (by show ¬ (40 ≤ s.2.1 ∨ (97 ≤ c (SKP c s.1 + 1) ∧ c (SKP c s.1 + 1) ≤ 122) ∨ (65 ≤ c (SKP c s.1 + 1) ∧ c (SKP c s.1 + 1) ≤ 90)); omega)]
theorem LTB.n4 {c : Nat → Int} {k p : Nat} {s : PSt} (hp : p = SKP c s.1) (f : c p = 102) (hs : 40 ≤ s.2.1) : RPT M c k s = none := by
  subst hp
  rw [RPT.l f]; exact RLU.n1 hs
theorem RDM.em {t s : PSt} {a b k n : Int} (h : t = (s.1, s.2.1, s.2.2 ++ [(a, b)])) (ha : a = k) (hb : b = n) (hl : s.2.2.length < M) : t = (s.1, s.2.1, APS M s.2.2 (k, n)) := by
  subst ha; subst hb
  rw [h, APS.in hl]
theorem HSR.v {c : Nat → Int} {a b x : Int} {s t : PSt} (h : HSR c a x s t) (e : a = b) : HSR c b x s t := by subst e; exact h
theorem CTR.v {c : Nat → Int} {a b x : Int} {s t : PSt} (h : CTR c a x s t) (e : a = b) : CTR c b x s t := by subst e; exact h
theorem HSR.n {c : Nat → Int} {v x : Int} {s t : PSt} (h : HSR c v x s t) (hx : x ≠ 1) : c (SKP c s.1) ≠ v ∧ t = (SKP c s.1, s.2) := by
  rcases h with h | h
  · exact absurd h.1 hx
  · exact h.2
theorem HSR.y {c : Nat → Int} {v x : Int} {s t : PSt} (h : HSR c v x s t) (hx : x ≠ 0) : c (SKP c s.1) = v ∧ t = (SKP c s.1 + 1, s.2) := by
  rcases h with h | h
  · exact h.2
  · exact absurd h.1 hx
theorem HSR.sk {c : Nat → Int} {v x : Int} {s t : PSt} (hc : C40 c) (h : HSR c v x (SKP c s.1, s.2) t) : HSR c v x s t := by
  unfold HSR at *
  have e : SKP c (SKP c s.1, s.2).1 = SKP c s.1 := SKP.sk hc _
  rw [e] at h; exact h
def NMI (c : Nat → Int) (q : Nat) (v p : Int) : Prop := ∃ j : Nat, p = q + j ∧ DGB c q j ∧ v = VLU c q (min j 3)
theorem NMI.z {c : Nat → Int} {q : Nat} {v p : Int} (hp : p = q) (hv : v = 0) : NMI c q v p := ⟨0, by omega, fun i hi => absurd hi (by omega), by rw [hv]; rfl⟩
theorem NMI.s1 {c : Nat → Int} {q k : Nat} {v v' p p' : Int} (h : NMI c q v p) (hk : (k : Int) = p) (d : 48 ≤ c k ∧ c k ≤ 57) (h3 : p - q < 3) (hv : v' = 10 * v + c k - 48) (hp : p' = p + 1) : NMI c q v' p' := by
  obtain ⟨j, a1, a2, a3⟩ := h
  have e : k = q + j := by omega
  subst e
  refine ⟨j + 1, by omega, fun i hi => ?_, ?_⟩
  · by_cases y : i = j
    · subst y; exact d
    · exact a2 i (by omega)
  · rw [show min (j + 1) 3 = j + 1 from by omega]
    rw [show min j 3 = j from by omega] at a3
    show v' = 10 * VLU c q j + (c (q + j) - 48)
    omega
theorem NMI.s2 {c : Nat → Int} {q k : Nat} {v v' p p' : Int} (h : NMI c q v p) (hk : (k : Int) = p) (d : 48 ≤ c k ∧ c k ≤ 57) (h3 : 3 ≤ p - q) (hv : v' = v) (hp : p' = p + 1) : NMI c q v' p' := by
  obtain ⟨j, a1, a2, a3⟩ := h
  have e : k = q + j := by omega
  subst e
  refine ⟨j + 1, by omega, fun i hi => ?_, ?_⟩
  · by_cases y : i = j
    · subst y; exact d
    · exact a2 i (by omega)
  · rw [show min (j + 1) 3 = min j 3 from by omega, hv]; exact a3
theorem NMI.d {c : Nat → Int} {q k : Nat} {v p : Int} (h : NMI c q v p) (hk : (k : Int) = p) (d : ¬ (48 ≤ c k ∧ c k ≤ 57)) : (p - q ≤ 3 → (DGF c 4 q : Int) = p - q ∧ v = VLU c q (DGF c 4 q)) ∧ (3 < p - q → DGF c 4 q = 4) := by
  obtain ⟨j, a1, a2, a3⟩ := h
  have e : k = q + j := by omega
  subst e
  refine ⟨fun h3 => ?_, fun h3 => ?_⟩
  · have e := DGF.of 4 q j a2 (by omega) (Or.inr d)
    rw [e]
    refine ⟨by omega, ?_⟩
    rw [a3, show min j 3 = j from by omega]
  · exact DGF.of 4 q 4 (fun i hi => a2 i (by omega)) (by omega) (Or.inl rfl)
theorem NMR.no {c : Nat → Int} {q k : Nat} {v p most x : Int} {s t : PSt} (h : NMI c q v p) (hq : q = SKP c s.1) (hk : (k : Int) = p) (d : ¬ (48 ≤ c k ∧ c k ≤ 57)) (e : p = q ∨ 3 < p - q ∨ most < v) (hx : x < 0) : NMR c most x s t := by
  subst hq
  obtain ⟨d1, d2⟩ := h.d hk d
  refine Or.inl ⟨hx, fun g => ?_⟩
  obtain ⟨g1, g2, g3⟩ := g
  by_cases z : p - (SKP c s.1 : Nat) ≤ 3
  · have d1 := d1 z
    omega
  · have d2 := d2 (by omega)
    omega
theorem NMR.yes {c : Nat → Int} {q k : Nat} {v p most x : Int} {s t : PSt} (h : NMI c q v p) (hq : q = SKP c s.1) (hk : (k : Int) = p) (d : ¬ (48 ≤ c k ∧ c k ≤ 57)) (e1 : p ≠ q) (e2 : p - q ≤ 3) (e3 : v ≤ most) (hv : 0 ≤ v) (hx : x = v) (ht : t = (k, s.2)) : NMR c most x s t := by
  subst hq; subst ht; subst hx
  obtain ⟨d1, d2⟩ := h.d hk d
  have d1 := d1 e2
  obtain ⟨j, a1, -⟩ := h
  have ek : k = SKP c s.1 + DGF c 4 (SKP c s.1) := by omega
  exact Or.inr ⟨hv, ⟨by omega, by omega, by omega⟩, d1.2, by rw [ek]⟩
theorem NMR.b {c : Nat → Int} {most x : Int} {s t : PSt} (h : NMR c most x s t) (h0 : ¬ x < 0) : NMG c most (SKP c s.1) ∧ x = VLU c (SKP c s.1) (DGF c 4 (SKP c s.1)) ∧ t = (SKP c s.1 + DGF c 4 (SKP c s.1), s.2) := by
  rcases h with h | h
  · exact absurd h.1 h0
  · exact h.2
theorem NMR.n {c : Nat → Int} {most x : Int} {s t : PSt} (h : NMR c most x s t) (h0 : x < 0) : ¬ NMG c most (SKP c s.1) := by
  rcases h with h | h
  · exact h.2
  · omega
theorem NMR.v {c : Nat → Int} {a b x : Int} {s t : PSt} (h : NMR c a x s t) (e : a = b) : NMR c b x s t := by subst e; exact h
/-- a number that stands alone as a part -/
theorem RNB.no {c : Nat → Int} {s t : PSt} {k : Nat} {x : Int} (hc : C40 c) (hd : 48 ≤ c (SKP c s.1) ∧ c (SKP c s.1) ≤ 57) (h : NMR c 999 x (SKP c s.1, s.2.1 + 1, s.2.2) t) (h0 : x < 0) : RPT M c k s = none := by
  rw [RPT.d hd]
  have g := h.n h0
  rw [show SKP c (SKP c s.1, s.2.1 + 1, s.2.2).1 = SKP c s.1 from SKP.sk hc _] at g
  unfold RNB
  by_cases z : 40 ≤ s.2.1
  · rw [if_pos z]
  · rw [if_neg z]; exact NUB.ng g
theorem RNB.yes {c : Nat → Int} {s t u : PSt} {k : Nat} {x : Int} (hc : C40 c) (hs : s.2.1 < 40) (hd : 48 ≤ c (SKP c s.1) ∧ c (SKP c s.1) ≤ 57) (h : NMR c 999 x (SKP c s.1, s.2.1 + 1, s.2.2) t) (h0 : ¬ x < 0) (hu : u = (t.1, t.2.1, APS M t.2.2 (1, x))) : RPT M c k s = some u := by
  rw [RPT.d hd]
  obtain ⟨g, gx, gt⟩ := h.b h0
  rw [show SKP c (SKP c s.1, s.2.1 + 1, s.2.2).1 = SKP c s.1 from SKP.sk hc _] at g gx gt
  subst hu; subst gt
  unfold RNB
  rw [if_neg (by show ¬ 40 ≤ s.2.1; omega)]
  refine (NUB.g (s := (SKP c s.1, s.2.1 + 1, s.2.2)) g).trans ?_
  rw [gx]
/-- the end of [ .. ] -/
theorem ROV2.f {c : Nat → Int} {S : PSt → Option PSt} {s t1 t2 t3 t4 t5 u : PSt} {x : Int} {o1 : Option PSt} (hc : C40 c) (hs : s.2.1 < 40) (e1 : o1 = S (s.1, s.2.1 + 1, s.2.2)) (h1 : o1 = some t1 ∨ (o1 = none ∧ STK c t1)) (g1 : HSR c 44 1 t1 t2) (h2 : S t2 = some t3 ∨ (S t2 = none ∧ STK c t3)) (g2 : HSR c 93 1 t3 t4) (hn : NMR c 8 x t4 t5) : (x < 0 → ROV2 M c S s = none) ∧ (¬ x < 0 → u = (t5.1, t5.2.1, APS M t5.2.2 (4, x)) → ROV2 M c S s = some u) := by
  have a1 := h1.resolve_right (fun q => by have := q.2.no g1 (by decide); omega)
  have a2 := h2.resolve_right (fun q => by have := q.2.no g2 (by decide); omega)
  have k1 : TAK c 44 t1 = some t2 := by
    rcases g1.tk with z | z
    · exact z.2
    · exact absurd z.1 (by decide)
  have k2 : TAK c 93 t3 = some t4 := by
    rcases g2.tk with z | z
    · exact z.2
    · exact absurd z.1 (by decide)
  have e : ROV2 M c S s = NUB M c 4 8 (SKP c t4.1, t4.2) := by
    rw [ROV2.u hs, ← e1, a1]
    show ((TAK c 44 t1).bind S).bind _ = _
    rw [k1]
    show (S t2).bind _ = _
    rw [a2]
    show (TAK c 93 t3).bind _ = _
    rw [k2]; rfl
  rw [e]
  refine ⟨fun h0 => NUB.ng (s := (SKP c t4.1, t4.2)) (hn.n h0), fun h0 hu => ?_⟩
  obtain ⟨g, gx, gt⟩ := hn.b h0
  subst hu; subst gt
  refine (NUB.g (s := (SKP c t4.1, t4.2)) g).trans ?_
  rw [gx]
theorem ROV2.n1 {c : Nat → Int} {S : PSt → Option PSt} {s : PSt} (hs : s.2.1 < 40) (h : S (s.1, s.2.1 + 1, s.2.2) = none) : ROV2 M c S s = none := by rw [ROV2.u hs, h]; rfl
theorem ROV2.n2 {c : Nat → Int} {S : PSt → Option PSt} {s t1 t2 : PSt} {x : Int} (hs : s.2.1 < 40) (h1 : S (s.1, s.2.1 + 1, s.2.2) = some t1 ∨ (S (s.1, s.2.1 + 1, s.2.2) = none ∧ STK c t1)) (g1 : HSR c 44 x t1 t2) (hx : x ≠ 1) : ROV2 M c S s = none := by
  rw [ROV2.u hs]
  rcases h1 with h | ⟨h, -⟩
  · rw [h]
    show ((TAK c 44 t1).bind S).bind _ = none
    rw [(g1.tk.resolve_left (fun q => hx q.1)).2]; rfl
  · rw [h]; rfl
theorem ROV2.n3 {c : Nat → Int} {S : PSt → Option PSt} {s t1 t2 : PSt} {x : Int} (hs : s.2.1 < 40) (h1 : S (s.1, s.2.1 + 1, s.2.2) = some t1 ∨ (S (s.1, s.2.1 + 1, s.2.2) = none ∧ STK c t1)) (g1 : HSR c 44 x t1 t2) (hx : x ≠ 0) (h2 : S t2 = none) : ROV2 M c S s = none := by
  rw [ROV2.u hs]
  rcases h1 with h | ⟨h, -⟩
  · rw [h]
    show ((TAK c 44 t1).bind S).bind _ = none
    rw [(g1.tk.resolve_right (fun q => hx q.1)).2]
    show (S t2).bind _ = none
    rw [h2]; rfl
  · rw [h]; rfl
theorem ROV2.n4 {c : Nat → Int} {S : PSt → Option PSt} {s t1 t2 t3 t4 : PSt} {x y : Int} (hs : s.2.1 < 40) (h1 : S (s.1, s.2.1 + 1, s.2.2) = some t1 ∨ (S (s.1, s.2.1 + 1, s.2.2) = none ∧ STK c t1)) (g1 : HSR c 44 x t1 t2) (hx : x ≠ 0) (h2 : S t2 = some t3 ∨ (S t2 = none ∧ STK c t3)) (g2 : HSR c 93 y t3 t4) (hy : y ≠ 1) : ROV2 M c S s = none := by
  rw [ROV2.u hs]
  rcases h1 with h | ⟨h, -⟩
  · rw [h]
    show ((TAK c 44 t1).bind S).bind _ = none
    rw [(g1.tk.resolve_right (fun q => hx q.1)).2]
    show (S t2).bind _ = none
    rcases h2 with h2 | ⟨h2, -⟩
    · rw [h2]
      show (TAK c 93 t3).bind _ = none
      rw [(g2.tk.resolve_left (fun q => hy q.1)).2]; rfl
    · rw [h2]; rfl
  · rw [h]; rfl
theorem HSR.o {c : Nat → Int} {v x : Int} {s t : PSt} (h : HSR c v x s t) (hx : x = 1) : HSR c v 1 s t := by subst hx; exact h
theorem RDM.z0 {I : IT} {m w : Nat} (h1 : (I m 12).toInt = 0) (h2 : (I m 16).toInt = 0) (h3 : (I m 19).toInt = 0) : RDM I m w = (0, 0, []) := by
  unfold RDM WTL
  rw [h1, h2, h3]; rfl
/-- nothing from m on -/
def CM9 (c : Nat → Int) (m : Nat) : Prop := ∀ i, m ≤ i → c i = -1
theorem SKP.m {c : Nat → Int} {m p : Nat} (hc : CM9 c m) (h : p ≤ m) : SKP c p ≤ m := by
  by_cases x : SKP c p ≤ m
  · exact x
  · have a := (SKF.b 401 p (c := c)).1.2 m h (by show m < SKP c p; omega)
    rw [hc m (Nat.le_refl _)] at a; omega
theorem CM9.lt {c : Nat → Int} {m q : Nat} {v : Int} (hc : CM9 c m) (h : c q = v) (hv : v ≠ -1) : q < m := by
  by_cases x : q < m
  · exact x
  · have := hc q (by omega); omega
def PB9 (m : Nat) (P : PSt → Option PSt) : Prop := ∀ s t, P s = some t → s.1 ≤ m → t.1 ≤ m
theorem PB9.bd {m : Nat} {o : Option PSt} {P : PSt → Option PSt} {t : PSt} (hP : PB9 m P) (h : ∀ u, o = some u → u.1 ≤ m) (e : o.bind P = some t) : t.1 ≤ m := by
  obtain ⟨u, e1, e2⟩ := OB9.y e
  exact hP u t e2 (h u e1)
theorem PB9.tak {c : Nat → Int} {m : Nat} {v : Int} (hc : CM9 c m) (hv : v ≠ -1) : PB9 m (TAK c v) := fun s t e hs => by
  unfold TAK at e
  by_cases a : c (SKP c s.1) = v
  · rw [if_pos a] at e; cases e
    exact hc.lt a hv
  · rw [if_neg a] at e; cases e
theorem PB9.rlp {c : Nat → Int} {m : Nat} {v k : Int} {P : PSt → Option PSt} (hc : CM9 c m) (hv : v ≠ -1) (h : PB9 m P) : ∀ n, PB9 m (RLP M c v k P n)
  | 0 => fun _ _ e _ => by cases e
  | n + 1 => fun s t e hs => by
    have e : (if c (SKP c s.1) = v then (if 40 ≤ s.2.1 then none else (P (SKP c s.1 + 1, s.2.1 + 1, s.2.2)).bind (fun t => RLP M c v k P n (t.1, t.2.1, APS M t.2.2 (k, 0)))) else some (SKP c s.1, s.2)) = some t := e
    by_cases a : c (SKP c s.1) = v
    · rw [if_pos a] at e
      by_cases b : 40 ≤ s.2.1
      · rw [if_pos b] at e; cases e
      · rw [if_neg b] at e
        obtain ⟨u, e1, e2⟩ := OB9.y e
        have g := h _ _ e1 (by show SKP c s.1 + 1 ≤ m; exact hc.lt a hv)
        exact PB9.rlp hc hv h n _ _ e2 g
    · rw [if_neg a] at e; cases e
      exact SKP.m hc hs
theorem PB9.rpr {c : Nat → Int} {m : Nat} {P : PSt → Option PSt} (hc : CM9 c m) (h : PB9 m P) : PB9 m (RPR M c P) := fun s t e hs => by
  obtain ⟨u, e1, e2⟩ := OB9.y (show (P s).bind (RLP M c 42 3 P 41) = some t from e)
  exact PB9.rlp hc (by decide) h 41 u t e2 (h s u e1 hs)
theorem PB9.rsu {c : Nat → Int} {m : Nat} {P : PSt → Option PSt} (hc : CM9 c m) (h : PB9 m P) : PB9 m (RSU M c P) := fun s t e hs => by
  obtain ⟨u, e1, e2⟩ := OB9.y (show (RPR M c P s).bind (RLP M c 43 2 (RPR M c P) 41) = some t from e)
  exact PB9.rlp hc (by decide) (PB9.rpr hc h) 41 u t e2 (PB9.rpr hc h s u e1 hs)
theorem DGF.m {c : Nat → Int} {m : Nat} (hc : CM9 c m) : ∀ n p, p ≤ m → p + DGF c n p ≤ m
  | 0, p, h => h
  | n + 1, p, h => by
    show p + (if 48 ≤ c p ∧ c p ≤ 57 then DGF c n (p + 1) + 1 else 0) ≤ m
    by_cases a : 48 ≤ c p ∧ c p ≤ 57
    · rw [if_pos a]
      have l := hc.lt (q := p) rfl (by omega)
      have := DGF.m hc n (p + 1) (by omega)
      omega
    · rw [if_neg a]; omega
theorem PB9.nub {c : Nat → Int} {m : Nat} {w k : Int} (hc : CM9 c m) : PB9 m (NUB M c w k) := fun s t e hs => by
  unfold NUB at e
  by_cases a : 1 ≤ DGF c 4 s.1 ∧ DGF c 4 s.1 ≤ 3 ∧ VLU c s.1 (DGF c 4 s.1) ≤ k
  · rw [if_pos a] at e; cases e
    exact DGF.m hc 4 s.1 hs
  · rw [if_neg a] at e; cases e
theorem PB9.rlt {c : Nat → Int} {m : Nat} {s t : PSt} (hc : CM9 c m) (h : c s.1 ≠ -1) (e : RLU M c s = some t) : t.1 ≤ m := by
  unfold RLU at e
  by_cases a : 40 ≤ s.2.1 ∨ (97 ≤ c (s.1 + 1) ∧ c (s.1 + 1) ≤ 122) ∨ (65 ≤ c (s.1 + 1) ∧ c (s.1 + 1) ≤ 90)
  · rw [if_pos a] at e; cases e
  · rw [if_neg a] at e; cases e
    exact hc.lt rfl h
theorem PB9.rnb {c : Nat → Int} {m : Nat} (hc : CM9 c m) : PB9 m (RNB M c) := fun s t e hs => by
  unfold RNB at e
  by_cases a : 40 ≤ s.2.1
  · rw [if_pos a] at e; cases e
  · rw [if_neg a] at e; exact PB9.nub hc _ _ e hs
theorem PB9.rov {c : Nat → Int} {m : Nat} {S : PSt → Option PSt} (hc : CM9 c m) (h : PB9 m S) {s t : PSt} (h9 : c s.1 = 91) (e : ROV M c S s = some t) : t.1 ≤ m := by
  unfold ROV at e
  by_cases a : 40 ≤ s.2.1
  · rw [if_pos a] at e; cases e
  · rw [if_neg a] at e
    obtain ⟨u1, e1, e⟩ := OB9.y e
    obtain ⟨u2, e2, e⟩ := OB9.y e
    obtain ⟨u3, e3, e⟩ := OB9.y e
    obtain ⟨u4, e4, e⟩ := OB9.y e
    have l1 := h _ _ e1 (by show s.1 + 1 ≤ m; exact hc.lt h9 (by decide))
    have l2 := PB9.tak hc (by decide) _ _ e2 l1
    have l3 := h _ _ e3 l2
    have l4 := PB9.tak hc (by decide) _ _ e4 l3
    exact PB9.nub hc _ _ e (by show SKP c u4.1 ≤ m; exact SKP.m hc l4)
theorem PB9.rpt {c : Nat → Int} {m : Nat} (hc : CM9 c m) : ∀ k, PB9 m (RPT M c k)
  | 0 => fun s t e hs => by
    by_cases a : c (SKP c s.1) = 102
    · rw [RPT.l a] at e; exact PB9.rlt hc (by show c (SKP c s.1) ≠ -1; omega) e
    · by_cases b : 48 ≤ c (SKP c s.1) ∧ c (SKP c s.1) ≤ 57
      · rw [RPT.d b] at e; exact PB9.rnb hc _ _ e (by show SKP c s.1 ≤ m; exact SKP.m hc hs)
      · rw [RPT.z a b] at e; cases e
  | k + 1 => fun s t e hs => by
    by_cases a : c (SKP c s.1) = 102
    · rw [RPT.l a] at e; exact PB9.rlt hc (by show c (SKP c s.1) ≠ -1; omega) e
    · by_cases b : 48 ≤ c (SKP c s.1) ∧ c (SKP c s.1) ≤ 57
      · rw [RPT.d b] at e; exact PB9.rnb hc _ _ e (by show SKP c s.1 ≤ m; exact SKP.m hc hs)
      · by_cases p : c (SKP c s.1) = 40
        · rw [RPT.p p] at e
          obtain ⟨u, e1, e2⟩ := OB9.y e
          exact PB9.tak hc (by decide) _ _ e2 (PB9.rsu hc (PB9.rpt hc k) _ _ e1 (by show SKP c s.1 + 1 ≤ m; exact hc.lt p (by decide)))
        · by_cases q : c (SKP c s.1) = 91
          · rw [RPT.o q] at e
            exact PB9.rov hc (PB9.rsu hc (PB9.rpt hc k)) (by show c (SKP c s.1) = 91; exact q) e
          · by_cases r : c (SKP c s.1) = 45
            · rw [RPT.m r] at e
              obtain ⟨u, e1, e2⟩ := OB9.y e
              have g := PB9.rpt hc k (SKP c s.1 + 1, s.2) u e1 (by show SKP c s.1 + 1 ≤ m; exact hc.lt r (by decide))
              cases e2
              exact g
            · rw [RPT.n a b p q r] at e; cases e
theorem BCM.m9 {f : Nat → Int32} {m : Int} {j : Nat} (h : m ≤ (j : Int)) : CM9 (BCM f m) j := fun i hi => BCM.no (by omega)
theorem BCM.ge {f : Nat → Int32} {m : Int} {j : Nat} (h : (j : Int) < m) : BCM f m j ≠ -1 := by
  unfold BCM; rw [if_pos h]; omega
/-- all is read: signs, if nothing is left -/
theorem RDA.g1 {c : Nat → Int} {t : PSt} {q : Nat} (h : RSU M c (RPT M c 6) (0, 0, []) = some t ∨ (RSU M c (RPT M c 6) (0, 0, []) = none ∧ STK c t)) (hq : q = SKP c t.1) (e : c q = -1) : RDA M c = some t.2.2 := by
  subst hq
  rcases h with h | ⟨-, s⟩
  · exact RDA.y h rfl rfl e rfl
  · exfalso; unfold STK at s; omega
theorem RDA.g0 {c : Nat → Int} {t : PSt} {q : Nat} (h : RSU M c (RPT M c 6) (0, 0, []) = some t ∨ (RSU M c (RPT M c 6) (0, 0, []) = none ∧ STK c t)) (hq : q = SKP c t.1) (e : RSU M c (RPT M c 6) (0, 0, []) = some t → c q ≠ -1) : RDA M c = none := by
  subst hq
  rcases h with h | ⟨h, -⟩
  · exact RDA.n h rfl rfl (e h)
  · exact RDA.n0 h rfl
theorem WTL.cg {g g' : Nat → Int32} {n : Nat} (h : ∀ r, 3607 ≤ r → g r = g' r) : WTL g n = WTL g' n := by
  unfold WTL
  exact List.map_congr_left (fun k _ => by rw [h (3607 + 2 * k) (by omega), h (3608 + 2 * k) (by omega)])
/-- the draft laid where the signs stand: k cells of it -/
def SGF (W g : Nat → Int32) (n : Nat) (k : Int) : Prop := (∀ j : Nat, (j : Int) < k → W (198 + 401 * n + j) = g (3606 + j)) ∧ ∀ r : Nat, (r < 198 + 401 * n ∨ 198 + 401 * n + k.toNat ≤ r) → W r = g r
theorem SGF.z {W g : Nat → Int32} {n : Nat} {k : Int} (e : W = g) (h : k = 0) : SGF W g n k := by
  subst e; exact ⟨fun j hj => by omega, fun _ _ => rfl⟩
theorem SGF.s {I1 I2 : IT} {w n : Nat} {g : Nat → Int32} {j a x k k' : Int32} (h : SGF (I1 w) g n k.toInt) (u : I2 = u2 I1 w j.toNatClampNeg x) (r : I1 w a.toNatClampNeg = x) (hn : n < 8) (hj : j.toInt = 198 + 401 * n + k.toInt) (ha : a.toInt = 3606 + k.toInt) (h0 : 0 ≤ k.toInt) (hk4 : k.toInt < 401) (hk : k'.toInt = k.toInt + 1) : SGF (I2 w) g n k'.toInt := by
  have n0 := ncz h0
  have n1 := ncz (x := j) (by omega)
  have n2 := ncz (x := a) (by omega)
  have v : x = g a.toNatClampNeg := by rw [← r]; exact h.2 _ (by omega)
  refine ⟨fun i hi => ?_, fun i hi => ?_⟩
  · rw [u]
    by_cases q : i = k.toNatClampNeg
    · rw [show 198 + 401 * n + i = j.toNatClampNeg from by omega, u2_s, v, show a.toNatClampNeg = 3606 + i from by omega]
    · rw [u2_k (by omega)]; exact h.1 i (by omega)
  · rw [u, u2_k (by omega)]; exact h.2 i (by omega)
theorem SGF.w {W W1 g : Nat → Int32} {n : Nat} {s k : Int} (h : SGF W1 g n k) (hk : k = 401) (e : ∀ r, r ≠ 3 → W r = W1 r) (hs : (g 3606).toInt = s) (h0 : 0 ≤ s) (h2 : s ≤ 199) : WSL W n = WTL g s.toNat := by
  subst hk
  unfold WSL WTL
  have e0 := h.1 0 (by decide)
  rw [e _ (by omega), show 198 + 401 * n = 198 + 401 * n + 0 from rfl, e0, hs]
  exact List.map_congr_left (fun k hk => by
    have hk := List.mem_range.mp hk
    have a := h.1 (1 + 2 * k) (by omega)
    have b := h.1 (2 + 2 * k) (by omega)
    rw [e (199 + 401 * n + 2 * k) (by omega), e (200 + 401 * n + 2 * k) (by omega), show 199 + 401 * n + 2 * k = 198 + 401 * n + (1 + 2 * k) from by omega, show 200 + 401 * n + 2 * k = 198 + 401 * n + (2 + 2 * k) from by omega, a, b, show 3606 + (1 + 2 * k) = 3607 + 2 * k from by omega, show 3606 + (2 + 2 * k) = 3608 + 2 * k from by omega])
/-- signs told: what became of the world -/
def SIG9 (W9 W : Nat → Int32) (t x : Int) (Z : Option (List (Int × Int))) : Prop := (t = 1 ∧ Z = none ∧ ∀ r : Nat, r < 3606 → W9 r = W r) ∨ (t = 2 ∧ Z ≠ none ∧ (W 3).toInt = 8 ∧ ∀ r : Nat, r < 3606 → W9 r = W r) ∨ (t = 0 ∧ (W 3).toInt < 8 ∧ x = (W 3).toInt ∧ (W9 3).toInt = (W 3).toInt + 1 ∧ Z = some (WSL W9 (W 3).toInt.toNat) ∧ ∀ r : Nat, r ≠ 3 → (r < 198 + 401 * (W 3).toInt.toNat ∨ 599 + 401 * (W 3).toInt.toNat ≤ r) → r < 3606 → W9 r = W r)
theorem SIG9.fr {W9 W : Nat → Int32} {t x : Int} {Z : Option (List (Int × Int))} (h : SIG9 W9 W t x Z) : ∀ r : Nat, r ≠ 3 ∧ (r < 198 ∨ 3406 ≤ r) ∧ r < 3606 → W9 r = W r := fun r hr => by
  rcases h with h | h | h
  · exact h.2.2 r hr.2.2
  · exact h.2.2.2 r hr.2.2
  · exact h.2.2.2.2.2 r hr.1 (by have := h.2.1; omega) hr.2.2
end Lrp
theorem a_X12_isAt_x {d : Nat} {T N : Nat → Nat} {I : IT} {L : LT} {R : RT} {A : Nat → Prop} {r0 : Nat} {n1 n2 : Int32} (hI : IM R r0 I) (H_r0 : (h_MD T N R A) r0) (b0_n1 : 0 ≤ n1.toInt) (b1_n1 : n1.toInt ≤ 127) (b0_n2 : 0 ≤ n2.toInt) (b1_n2 : n2.toInt ≤ 127) (hp0 : ∀ a10, R r0 10 = some a10 → TBY (I a10)) : Ex (d + 1) 218 [.ref r0, .int n1, .int n2] (T, N, I, L, R) 0 0 (pI T N R (fun x9 I9 L9 => (0 ≤ x9.toInt) ∧ (x9.toInt ≤ 1) ∧ (x9.toInt = 0 ∨ (I r0 12).toInt < (I r0 13).toInt) ∧ (∀ a10, R r0 10 = some a10 → IFF x9.toInt (n1.toInt ≤ (BCM (I a10) (I r0 13).toInt) (I r0 12).toInt.toNat ∧ (BCM (I a10) (I r0 13).toInt) (I r0 12).toInt.toNat ≤ n2.toInt)) ∧ (I = I9 ∧ L = L9))) := by
  refine ⟨_, rfl, Nat.le_of_ble_eq_true rfl, fun V C S => ?_⟩
  show V 0 [(0, .ref r0), (1, .int n1), (2, .int n2)] [] (T, N, I, L, R) 0 0
  have gn1 := rg n1
  have gn2 := rg n2
  obtain ⟨T_r0, A_r0, ⟨r0_1, R_r0_1, H_r0_1⟩, ⟨r0_2, R_r0_2, H_r0_2⟩, ⟨r0_4, R_r0_4, H_r0_4⟩, ⟨r0_5, R_r0_5, H_r0_5⟩, ⟨r0_10, R_r0_10, H_r0_10⟩, ⟨r0_18, R_r0_18, H_r0_18⟩, ⟨r0_20, R_r0_20, H_r0_20⟩, ⟨r0_21, R_r0_21, H_r0_21⟩, ⟨r0_22, R_r0_22, H_r0_22⟩, ⟨r0_23, R_r0_23, H_r0_23⟩, ⟨r0_25, R_r0_25, H_r0_25⟩, ⟨r0_26, R_r0_26, H_r0_26⟩, ⟨r0_27, R_r0_27, H_r0_27⟩, ⟨r0_28, R_r0_28, H_r0_28⟩, ⟨r0_34, R_r0_34, H_r0_34⟩, J_r0, Y_r0⟩ := id H_r0
  have G_r0 : mF T R r0 := ⟨J_r0, Y_r0, T_r0⟩
  obtain ⟨w_r0_12, k0_r0_12⟩ : ∃ x, I r0 12 = x := ⟨_, rfl⟩
  have gw_r0_12 := rg w_r0_12
  have ow_r0_12 := IM.f12 hI k0_r0_12
  obtain ⟨w_r0_13, k0_r0_13⟩ : ∃ x, I r0 13 = x := ⟨_, rfl⟩
  have gw_r0_13 := rg w_r0_13
  have ow_r0_13 := IM.f13 hI k0_r0_13
  have hp0 := hp0 r0_10 R_r0_10
  try simp only [k0_r0_12, k0_r0_13] at hp0
  refine k_aload_n C rfl rfl rfl ?_
  refine g_I C rfl rfl rfl T_r0 rfl k0_r0_12 ?_
  refine k_aload_n C rfl rfl rfl ?_
  refine g_I C rfl rfl rfl T_r0 rfl k0_r0_13 ?_
  refine b_icmp_ge C (t := 41) rfl rfl rfl (fun c1 => ?_) (fun c1 => ?_)
  · skip
    refine z_iconst C (z := 0) rfl rfl rfl (fun x2 ex2 => ?_)
    exact k_iret C rfl (Or.inr ⟨rfl, z01 (by omega) (by omega)⟩) (Nat.le_of_ble_eq_true rfl) (Nat.le_of_ble_eq_true rfl) ⟨_, _, _, rfl, rfl, by omega, by omega, by first | omega | (simp only [k0_r0_12, k0_r0_13, and_true, true_and, or_true, true_or, and_false, false_and, or_false, false_or] <;> omega), fun a10 h10 => by cases (R_r0_10.symm.trans h10); rw [k0_r0_12, k0_r0_13]; first | (rw [BCM.no (by omega)]; exact ⟨fun h => by omega, fun _ h => by omega⟩) | (have hbt := hp0 w_r0_12.toNatClampNeg; rw [hb19] at hbt; have hbn := BCM.tb hbt (n := n1.toInt) ⟨by omega, by omega⟩; have hbm := BCM.tb hbt (n := n2.toInt) ⟨by omega, by omega⟩; rw [BCM.at rfl hb19 (by omega) (by omega) (by omega)]; exact ⟨fun h => by omega, fun h q => by omega⟩), rfl, rfl⟩
  refine k_aload_n C rfl rfl rfl ?_
  refine g_R C rfl rfl rfl T_r0 rfl R_r0_10 ?_
  refine k_aload_n C rfl rfl rfl ?_
  refine g_I C rfl rfl rfl T_r0 rfl k0_r0_12 ?_
  obtain ⟨T_r0_10, N_r0_10, A_r0_10⟩ := id H_r0_10
  refine z_aB C rfl rfl T_r0_10 N_r0_10 (by omega) (by omega) (fun x3 ex3 => ?_)
  have gx3 := rg x3
  have hb19 := ex3
  refine k_iload_n C rfl rfl rfl ?_
  refine b_icmp_lt C (t := 41) rfl rfl rfl (fun c4 => ?_) (fun c4 => ?_)
  · skip
    refine z_iconst C (z := 0) rfl rfl rfl (fun x5 ex5 => ?_)
    exact k_iret C rfl (Or.inr ⟨rfl, z01 (by omega) (by omega)⟩) (Nat.le_of_ble_eq_true rfl) (Nat.le_of_ble_eq_true rfl) ⟨_, _, _, rfl, rfl, by omega, by omega, by first | omega | (simp only [k0_r0_12, k0_r0_13, ex3, and_true, true_and, or_true, true_or, and_false, false_and, or_false, false_or] <;> omega), fun a10 h10 => by cases (R_r0_10.symm.trans h10); rw [k0_r0_12, k0_r0_13]; first | (rw [BCM.no (by omega)]; exact ⟨fun h => by omega, fun _ h => by omega⟩) | (have hbt := hp0 w_r0_12.toNatClampNeg; rw [hb19] at hbt; have hbn := BCM.tb hbt (n := n1.toInt) ⟨by omega, by omega⟩; have hbm := BCM.tb hbt (n := n2.toInt) ⟨by omega, by omega⟩; rw [BCM.at rfl hb19 (by omega) (by omega) (by omega)]; exact ⟨fun h => by omega, fun h q => by omega⟩), rfl, rfl⟩
  refine k_aload_n C rfl rfl rfl ?_
  refine g_R C rfl rfl rfl T_r0 rfl R_r0_10 ?_
  refine k_aload_n C rfl rfl rfl ?_
  refine g_I C rfl rfl rfl T_r0 rfl k0_r0_12 ?_
  refine a_B C rfl rfl T_r0_10 (by rw [N_r0_10]; exact vpi (by omega) (by omega)) ex3 ?_
  refine k_iload_n C rfl rfl rfl ?_
  refine b_icmp_gt C (t := 41) rfl rfl rfl (fun c6 => ?_) (fun c6 => ?_)
  · skip
    refine z_iconst C (z := 0) rfl rfl rfl (fun x7 ex7 => ?_)
    exact k_iret C rfl (Or.inr ⟨rfl, z01 (by omega) (by omega)⟩) (Nat.le_of_ble_eq_true rfl) (Nat.le_of_ble_eq_true rfl) ⟨_, _, _, rfl, rfl, by omega, by omega, by first | omega | (simp only [k0_r0_12, k0_r0_13, ex3, and_true, true_and, or_true, true_or, and_false, false_and, or_false, false_or] <;> omega), fun a10 h10 => by cases (R_r0_10.symm.trans h10); rw [k0_r0_12, k0_r0_13]; first | (rw [BCM.no (by omega)]; exact ⟨fun h => by omega, fun _ h => by omega⟩) | (have hbt := hp0 w_r0_12.toNatClampNeg; rw [hb19] at hbt; have hbn := BCM.tb hbt (n := n1.toInt) ⟨by omega, by omega⟩; have hbm := BCM.tb hbt (n := n2.toInt) ⟨by omega, by omega⟩; rw [BCM.at rfl hb19 (by omega) (by omega) (by omega)]; exact ⟨fun h => by omega, fun h q => by omega⟩), rfl, rfl⟩
  refine z_iconst C (z := 1) rfl rfl rfl (fun x8 ex8 => ?_)
  refine k_goto C (pc2 := 42) rfl rfl ?_
  exact k_iret C rfl (Or.inr ⟨rfl, z01 (by omega) (by omega)⟩) (Nat.le_of_ble_eq_true rfl) (Nat.le_of_ble_eq_true rfl) ⟨_, _, _, rfl, rfl, by omega, by omega, by first | omega | (simp only [k0_r0_12, k0_r0_13, ex3, and_true, true_and, or_true, true_or, and_false, false_and, or_false, false_or] <;> omega), fun a10 h10 => by cases (R_r0_10.symm.trans h10); rw [k0_r0_12, k0_r0_13]; first | (rw [BCM.no (by omega)]; exact ⟨fun h => by omega, fun _ h => by omega⟩) | (have hbt := hp0 w_r0_12.toNatClampNeg; rw [hb19] at hbt; have hbn := BCM.tb hbt (n := n1.toInt) ⟨by omega, by omega⟩; have hbm := BCM.tb hbt (n := n2.toInt) ⟨by omega, by omega⟩; rw [BCM.at rfl hb19 (by omega) (by omega) (by omega)]; exact ⟨fun h => by omega, fun h q => by omega⟩), rfl, rfl⟩

theorem a_X12_blanks_x {d : Nat} {T N : Nat → Nat} {I : IT} {L : LT} {R : RT} {A : Nat → Prop} {r0 : Nat} (hI : IM R r0 I) (H_r0 : (h_MD T N R A) r0) (hp0 : ∀ a10, R r0 10 = some a10 → TBY (I a10)) : Ex (d + 2) 219 [.ref r0] (T, N, I, L, R) 0 0 (pV T N R (fun I9 L9 => (∀ a1 a10, R r0 1 = some a1 → R r0 10 = some a10 → RDM I9 r0 a1 = (SKP (BCM (I a10) (I r0 13).toInt) (RDM I r0 a1).1, (RDM I r0 a1).2)) ∧ ((I9 r0 14).toInt = (I9 r0 12).toInt) ∧ (IM R r0 I9 ∧ CM A R r0 [12, 14] [] I L I9 L9))) := by
  refine ⟨_, rfl, Nat.le_of_ble_eq_true rfl, fun V C S => ?_⟩
  show V 0 [(0, .ref r0)] [] (T, N, I, L, R) 0 0
  obtain ⟨T_r0, A_r0, ⟨r0_1, R_r0_1, H_r0_1⟩, ⟨r0_2, R_r0_2, H_r0_2⟩, ⟨r0_4, R_r0_4, H_r0_4⟩, ⟨r0_5, R_r0_5, H_r0_5⟩, ⟨r0_10, R_r0_10, H_r0_10⟩, ⟨r0_18, R_r0_18, H_r0_18⟩, ⟨r0_20, R_r0_20, H_r0_20⟩, ⟨r0_21, R_r0_21, H_r0_21⟩, ⟨r0_22, R_r0_22, H_r0_22⟩, ⟨r0_23, R_r0_23, H_r0_23⟩, ⟨r0_25, R_r0_25, H_r0_25⟩, ⟨r0_26, R_r0_26, H_r0_26⟩, ⟨r0_27, R_r0_27, H_r0_27⟩, ⟨r0_28, R_r0_28, H_r0_28⟩, ⟨r0_34, R_r0_34, H_r0_34⟩, J_r0, Y_r0⟩ := id H_r0
  have G_r0 : mF T R r0 := ⟨J_r0, Y_r0, T_r0⟩
  obtain ⟨w_r0_12, k0_r0_12⟩ : ∃ x, I r0 12 = x := ⟨_, rfl⟩
  have gw_r0_12 := rg w_r0_12
  have ow_r0_12 := IM.f12 hI k0_r0_12
  obtain ⟨w_r0_13, k0_r0_13⟩ : ∃ x, I r0 13 = x := ⟨_, rfl⟩
  have gw_r0_13 := rg w_r0_13
  have ow_r0_13 := IM.f13 hI k0_r0_13
  obtain ⟨w_r0_16, k0_r0_16⟩ : ∃ x, I r0 16 = x := ⟨_, rfl⟩
  have gw_r0_16 := rg w_r0_16
  have ow_r0_16 := IM.f16 hI k0_r0_16
  obtain ⟨w_r0_19, k0_r0_19⟩ : ∃ x, I r0 19 = x := ⟨_, rfl⟩
  have gw_r0_19 := rg w_r0_19
  have hp0 := hp0 r0_10 R_r0_10
  try simp only [k0_r0_12, k0_r0_13, k0_r0_16, k0_r0_19] at hp0
  have hTB := hp0
  obtain ⟨cc, hcc⟩ : ∃ c, BCM (I r0_10) w_r0_13.toInt = c := ⟨_, rfl⟩
  have hc40 : C40 cc := by rw [← hcc]; exact BCM.c40 (by omega)
  obtain ⟨s0, hs0⟩ : ∃ s, RDM I r0 r0_1 = s := ⟨_, rfl⟩
  have hd1 := RDM.c1 hs0 k0_r0_12 (by omega)
  have hd2 := RDM.c2 hs0 k0_r0_16 (by omega)
  have J1 : ∀ (nn2 : Nat) (I3 : IT) (L4 : LT) (x7 : Int32), (MN (400 - x7.toInt) nn2) → (IM R r0 I3) → (CM A R r0 [12] [] I L I3 L4) → (I3 r0 12 = x7) → (0 ≤ x7.toInt) → (x7.toInt ≤ 400) → (SKB cc s0.1 x7.toInt.toNat) → (w_r0_12.toInt ≤ x7.toInt) → V 0 [(0, .ref r0)] [] (T, N, I3, L4, R) 0 0 := by
    intro nn2
    induction nn2 using Nat.strongRecOn with
    | _ nn2 ihJ1 =>
      intro I3 L4 x7 hmnn2 hI6 S5 e8 b9 b10 ff0_0 ff0_1
      have gx7 := rg x7
      have e11 := CM.k S5 (by decide) k0_r0_13
      have e12 := CM.k S5 (by decide) k0_r0_16
      have e13 := CM.k S5 (by decide) k0_r0_19
      refine k_aload_n C rfl rfl rfl ?_
      refine z_bipush C (z := 32) rfl rfl rfl (fun x14 ex14 => ?_)
      refine z_bipush C (z := 32) rfl rfl rfl (fun x15 ex15 => ?_)
      have w5 := (CM.j0 (I := I) (L := L) (I' := I3) (L' := L4) (A := A) (W := [12, 14]) (WA := []) (CM.mono S5 (by decide) (by decide)) R_r0_10 (by decide))
      have q16 : x14.toNatClampNeg = 32 := nck (by omega)
      have q17 : x15.toNatClampNeg = 32 := nck (by omega)
      refine c_VI C (a_X12_isAt_x hI6 H_r0 (by omega) (by omega) (by omega) (by omega) (fun a10 h10 => by cases (R_r0_10.symm.trans h10); rw [(CM.j0 (I := I) (L := L) (I' := I3) (L' := L4) (A := A) (W := [12, 14]) (WA := []) (CM.mono S5 (by decide) (by decide)) R_r0_10 (by decide))]; exact hTB)) rfl rfl rfl rfl rfl ⟨_, rfl, rfl, T_r0, Nat.le_of_ble_eq_true rfl⟩ rfl rfl (Nat.le_of_ble_eq_true rfl) (Nat.le_of_ble_eq_true rfl) (Nat.le_of_ble_eq_true rfl) ?_
      rintro x18 _ _ ⟨o0x18, o1x18, p0x18, p1x18, rfl, rfl⟩
      have p1x18 := p1x18 r0_10 R_r0_10
      have gx18 := rg x18
      try simp only [q16, q17, e11, e12, e13, e8] at p0x18
      try have q0x18 := congrArg Int32.toInt p0x18
      try simp only [q16, q17, e11, e12, e13, e8] at p1x18
      try have q1x18 := congrArg Int32.toInt p1x18
      have h5 := p1x18
      (try rw [w5] at h5)
      rw [hcc] at h5
      refine b_if_eq C (t := 24) rfl rfl rfl (fun c19 => ?_) (fun c19 => ?_)
      · skip
        refine k_aload_n C rfl rfl rfl ?_
        refine k_aload_n C rfl rfl rfl ?_
        refine g_I C rfl rfl rfl T_r0 rfl e8 ?_
        refine z_pI C rfl rfl rfl T_r0 (Or.inr rfl) rfl (fun I20 uI20 => ?_)
        have hI20 : IM R r0 I20 := IM.fld hI6 G_r0 ⟨(fun _ => ⟨by omega, by omega⟩), (fun h => absurd h (by decide)), (fun h => absurd h (by decide)), (fun h => absurd h (by decide)), (fun h => absurd h (by decide))⟩ uI20
        have S21 : CM A R r0 [14] [] I3 L4 I20 L4 := CM.f G_r0 A_r0 uI20
        have e22 := u2_j uI20 (by first | decide | exact ncne (by omega) (by omega) (by omega) | exact nckn (by omega) (by omega) | exact (nckn (by omega) (by omega)).symm) e11
        have e23 := u2_j uI20 (by first | decide | exact ncne (by omega) (by omega) (by omega) | exact nckn (by omega) (by omega) | exact (nckn (by omega) (by omega)).symm) e12
        have e24 := u2_j uI20 (by first | decide | exact ncne (by omega) (by omega) (by omega) | exact nckn (by omega) (by omega) | exact (nckn (by omega) (by omega)).symm) e13
        have e25 := u2_j uI20 (by first | decide | exact ncne (by omega) (by omega) (by omega) | exact nckn (by omega) (by omega) | exact (nckn (by omega) (by omega)).symm) e8
        have e26 := u2_e uI20
        exact k_vret C rfl rfl (Nat.le_of_ble_eq_true rfl) (Nat.le_of_ble_eq_true rfl) ⟨_, _, rfl, rfl, fun a1 a10 h1 h10 => by cases (R_r0_1.symm.trans h1); cases (R_r0_10.symm.trans h10); rw [k0_r0_13, hcc, hs0]; have hnc : cc x7.toInt.toNat ≠ 32 := fun q => (h5.2 (by omega)) (by omega); have hsk := SKB.e ff0_0 hnc hc40; exact RDM.nx hs0 (by rw [e24, k0_r0_19]) (CM.j0 (I := I) (L := L) (I' := I20) (L' := L4) (A := A) (W := [12, 14]) (WA := []) (CM.cons S5 (CM.mono S21 (by decide) (by decide)) (by decide) (by decide)) R_r0_1 (by decide)) (p := SKP cc s0.1) (c := s0.2.1) (by rw [e25, hsk]; omega) (by rw [e23]; omega), by rw [e26, e25], hI20, (CM.cons S5 (CM.mono S21 (by decide) (by decide)) (by decide) (by decide))⟩
      refine k_aload_n C rfl rfl rfl ?_
      refine k_dup C rfl rfl rfl ?_
      refine g_I C rfl rfl rfl T_r0 rfl e8 ?_
      refine z_iconst C (z := 1) rfl rfl rfl (fun x27 ex27 => ?_)
      refine z_iadd C rfl rfl ⟨by omega, by omega⟩ (fun x28 ex28 => ?_)
      refine z_pI C rfl rfl rfl T_r0 (Or.inr rfl) rfl (fun I29 uI29 => ?_)
      have hI29 : IM R r0 I29 := IM.fld hI6 G_r0 ⟨(fun _ => ⟨by omega, by omega⟩), (fun h => absurd h (by decide)), (fun h => absurd h (by decide)), (fun h => absurd h (by decide)), (fun h => absurd h (by decide))⟩ uI29
      have S30 : CM A R r0 [12] [] I3 L4 I29 L4 := CM.f G_r0 A_r0 uI29
      have e31 := u2_j uI29 (by first | decide | exact ncne (by omega) (by omega) (by omega) | exact nckn (by omega) (by omega) | exact (nckn (by omega) (by omega)).symm) e11
      have e32 := u2_j uI29 (by first | decide | exact ncne (by omega) (by omega) (by omega) | exact nckn (by omega) (by omega) | exact (nckn (by omega) (by omega)).symm) e12
      have e33 := u2_j uI29 (by first | decide | exact ncne (by omega) (by omega) (by omega) | exact nckn (by omega) (by omega) | exact (nckn (by omega) (by omega)).symm) e13
      have e35 := u2_e uI29
      refine k_goto C (pc2 := 0) rfl rfl ?_
      refine k_sub S [(0, .ref r0)] (List.forall_mem_cons.mpr ⟨List.mem_of_getElem? (i := 0) rfl, fun _ h => nomatch h⟩) ?_
      exact ihJ1 _ (MN.lt hmnn2 (by omega) (by omega)) I29 L4 x28 rfl hI29 (CM.cons S5 (CM.mono S30 (by decide) (by decide)) (by decide) (by decide)) e35 (by omega) (by omega) (by exact SKB.s ff0_0 (by have := h5.1 (by omega); omega) (by omega)) (by omega)
  refine k_sub S [(0, .ref r0)] (List.forall_mem_cons.mpr ⟨List.mem_of_getElem? (i := 0) rfl, fun _ h => nomatch h⟩) ?_
  exact J1 _ I L w_r0_12 rfl hI CM.rf k0_r0_12 (by omega) (by omega) (by exact SKB.z (by omega)) (by omega)

theorem a_X12_has_x {d : Nat} {T N : Nat → Nat} {I : IT} {L : LT} {R : RT} {A : Nat → Prop} {r0 : Nat} {n1 : Int32} (hI : IM R r0 I) (H_r0 : (h_MD T N R A) r0) (b0_n1 : 0 ≤ n1.toInt) (b1_n1 : n1.toInt ≤ 127) (hp0 : ∀ a10, R r0 10 = some a10 → TBY (I a10)) : Ex (d + 3) 220 [.ref r0, .int n1] (T, N, I, L, R) 0 0 (pI T N R (fun x9 I9 L9 => (0 ≤ x9.toInt) ∧ (x9.toInt ≤ 1) ∧ (∀ a1 a10, R r0 1 = some a1 → R r0 10 = some a10 → HSR (BCM (I a10) (I r0 13).toInt) n1.toInt x9.toInt (RDM I r0 a1) (RDM I9 r0 a1)) ∧ (IM R r0 I9 ∧ CM A R r0 [12, 14] [] I L I9 L9))) := by
  refine ⟨_, rfl, Nat.le_of_ble_eq_true rfl, fun V C S => ?_⟩
  show V 0 [(0, .ref r0), (1, .int n1)] [] (T, N, I, L, R) 0 0
  have gn1 := rg n1
  obtain ⟨T_r0, A_r0, ⟨r0_1, R_r0_1, H_r0_1⟩, ⟨r0_2, R_r0_2, H_r0_2⟩, ⟨r0_4, R_r0_4, H_r0_4⟩, ⟨r0_5, R_r0_5, H_r0_5⟩, ⟨r0_10, R_r0_10, H_r0_10⟩, ⟨r0_18, R_r0_18, H_r0_18⟩, ⟨r0_20, R_r0_20, H_r0_20⟩, ⟨r0_21, R_r0_21, H_r0_21⟩, ⟨r0_22, R_r0_22, H_r0_22⟩, ⟨r0_23, R_r0_23, H_r0_23⟩, ⟨r0_25, R_r0_25, H_r0_25⟩, ⟨r0_26, R_r0_26, H_r0_26⟩, ⟨r0_27, R_r0_27, H_r0_27⟩, ⟨r0_28, R_r0_28, H_r0_28⟩, ⟨r0_34, R_r0_34, H_r0_34⟩, J_r0, Y_r0⟩ := id H_r0
  have G_r0 : mF T R r0 := ⟨J_r0, Y_r0, T_r0⟩
  obtain ⟨w_r0_12, k0_r0_12⟩ : ∃ x, I r0 12 = x := ⟨_, rfl⟩
  have gw_r0_12 := rg w_r0_12
  have ow_r0_12 := IM.f12 hI k0_r0_12
  obtain ⟨w_r0_13, k0_r0_13⟩ : ∃ x, I r0 13 = x := ⟨_, rfl⟩
  have gw_r0_13 := rg w_r0_13
  have ow_r0_13 := IM.f13 hI k0_r0_13
  obtain ⟨w_r0_16, k0_r0_16⟩ : ∃ x, I r0 16 = x := ⟨_, rfl⟩
  have gw_r0_16 := rg w_r0_16
  have ow_r0_16 := IM.f16 hI k0_r0_16
  obtain ⟨w_r0_19, k0_r0_19⟩ : ∃ x, I r0 19 = x := ⟨_, rfl⟩
  have gw_r0_19 := rg w_r0_19
  have hp0 := hp0 r0_10 R_r0_10
  try simp only [k0_r0_12, k0_r0_13, k0_r0_16, k0_r0_19] at hp0
  have hTB := hp0
  obtain ⟨cc, hcc⟩ : ∃ c, BCM (I r0_10) w_r0_13.toInt = c := ⟨_, rfl⟩
  have hc40 : C40 cc := by rw [← hcc]; exact BCM.c40 (by omega)
  obtain ⟨s0, hs0⟩ : ∃ s, RDM I r0 r0_1 = s := ⟨_, rfl⟩
  have hd1 := RDM.c1 hs0 k0_r0_12 (by omega)
  have hd2 := RDM.c2 hs0 k0_r0_16 (by omega)
  refine k_aload_n C rfl rfl rfl ?_
  have w1 := (CM.j0 (I := I) (L := L) (I' := I) (L' := L) (A := A) (W := [12, 14]) (WA := []) CM.rf R_r0_10 (by decide))
  refine c_VV C (a_X12_blanks_x hI H_r0 (fun a10 h10 => by cases (R_r0_10.symm.trans h10); rw [(CM.j0 (I := I) (L := L) (I' := I) (L' := L) (A := A) (W := [12, 14]) (WA := []) CM.rf R_r0_10 (by decide))]; exact hTB)) rfl rfl rfl rfl rfl ⟨_, rfl, rfl, T_r0, Nat.le_of_ble_eq_true rfl⟩ rfl rfl (Nat.le_of_ble_eq_true rfl) (Nat.le_of_ble_eq_true rfl) (Nat.le_of_ble_eq_true rfl) ?_
  rintro I2 L3 ⟨p0v1, p1v1, hI2, S4⟩
  have p0v1 := p0v1 r0_1 r0_10 R_r0_1 R_r0_10
  have e6 := CM.k S4 (by decide) k0_r0_13
  have e7 := CM.k S4 (by decide) k0_r0_16
  have e8 := CM.k S4 (by decide) k0_r0_19
  obtain ⟨x9, e10⟩ : ∃ x, I2 r0 12 = x := ⟨_, rfl⟩
  have gx9 := rg x9
  have ox9 := IM.f12 hI2 e10
  obtain ⟨x11, e12⟩ : ∃ x, I2 r0 14 = x := ⟨_, rfl⟩
  have gx11 := rg x11
  have ox11 := IM.f14 hI2 e12
  try simp only [k0_r0_12, k0_r0_13, k0_r0_16, k0_r0_19, e10, e12] at p0v1
  try have q0v1 := congrArg Int32.toInt p0v1
  try simp only [k0_r0_12, k0_r0_13, k0_r0_16, k0_r0_19, e10, e12] at p1v1
  try have q1v1 := congrArg Int32.toInt p1v1
  have hy1 := p0v1
  (try rw [w1] at hy1)
  rw [hcc, hs0] at hy1
  have hq1 : x9.toInt = ((SKP cc s0.1 : Nat) : Int) := RDM.c1 hy1 e10 (by omega)
  refine k_aload_n C rfl rfl rfl ?_
  refine k_iload_n C rfl rfl rfl ?_
  refine k_iload_n C rfl rfl rfl ?_
  have w7 := (CM.j0 (I := I) (L := L) (I' := I2) (L' := L3) (A := A) (W := [12, 14]) (WA := []) (CM.mono S4 (by decide) (by decide)) R_r0_10 (by decide))
  refine c_VI C (a_X12_isAt_x hI2 H_r0 (by omega) (by omega) (by omega) (by omega) (fun a10 h10 => by cases (R_r0_10.symm.trans h10); rw [(CM.j0 (I := I) (L := L) (I' := I2) (L' := L3) (A := A) (W := [12, 14]) (WA := []) (CM.mono S4 (by decide) (by decide)) R_r0_10 (by decide))]; exact hTB)) rfl rfl rfl rfl rfl ⟨_, rfl, rfl, T_r0, Nat.le_of_ble_eq_true rfl⟩ rfl rfl (Nat.le_of_ble_eq_true rfl) (Nat.le_of_ble_eq_true rfl) (Nat.le_of_ble_eq_true rfl) ?_
  rintro x13 _ _ ⟨o0x13, o1x13, p0x13, p1x13, rfl, rfl⟩
  have p1x13 := p1x13 r0_10 R_r0_10
  have gx13 := rg x13
  try simp only [e6, e7, e8, e10, e12] at p0x13
  try have q0x13 := congrArg Int32.toInt p0x13
  try simp only [e6, e7, e8, e10, e12] at p1x13
  try have q1x13 := congrArg Int32.toInt p1x13
  have h7 := p1x13
  (try rw [w7] at h7)
  rw [hcc, show x9.toInt.toNat = SKP cc s0.1 from by omega] at h7
  refine b_if_ne C (t := 15) rfl rfl rfl (fun c14 => ?_) (fun c14 => ?_)
  · skip
    refine k_aload_n C rfl rfl rfl ?_
    refine k_dup C rfl rfl rfl ?_
    refine g_I C rfl rfl rfl T_r0 rfl e10 ?_
    refine z_iconst C (z := 1) rfl rfl rfl (fun x15 ex15 => ?_)
    refine z_iadd C rfl rfl ⟨by omega, by omega⟩ (fun x16 ex16 => ?_)
    refine z_pI C rfl rfl rfl T_r0 (Or.inr rfl) rfl (fun I17 uI17 => ?_)
    have hI17 : IM R r0 I17 := IM.fld hI2 G_r0 ⟨(fun _ => ⟨by omega, by omega⟩), (fun h => absurd h (by decide)), (fun h => absurd h (by decide)), (fun h => absurd h (by decide)), (fun h => absurd h (by decide))⟩ uI17
    have S18 : CM A R r0 [12] [] I2 L3 I17 L3 := CM.f G_r0 A_r0 uI17
    have e19 := u2_j uI17 (by first | decide | exact ncne (by omega) (by omega) (by omega) | exact nckn (by omega) (by omega) | exact (nckn (by omega) (by omega)).symm) e6
    have e20 := u2_j uI17 (by first | decide | exact ncne (by omega) (by omega) (by omega) | exact nckn (by omega) (by omega) | exact (nckn (by omega) (by omega)).symm) e7
    have e21 := u2_j uI17 (by first | decide | exact ncne (by omega) (by omega) (by omega) | exact nckn (by omega) (by omega) | exact (nckn (by omega) (by omega)).symm) e8
    have e23 := u2_j uI17 (by first | decide | exact ncne (by omega) (by omega) (by omega) | exact nckn (by omega) (by omega) | exact (nckn (by omega) (by omega)).symm) e12
    have e24 := u2_e uI17
    have hu22 := uI17
    refine z_iconst C (z := 1) rfl rfl rfl (fun x25 ex25 => ?_)
    exact k_iret C rfl (Or.inr ⟨rfl, z01 (by omega) (by omega)⟩) (Nat.le_of_ble_eq_true rfl) (Nat.le_of_ble_eq_true rfl) ⟨_, _, _, rfl, rfl, by omega, by omega, fun a1 a10 h1 h10 => by cases (R_r0_1.symm.trans h1); cases (R_r0_10.symm.trans h10); rw [k0_r0_13, hcc, hs0]; exact Or.inl ⟨by omega, (by have q := h7.1 (by omega); omega), RDM.u12 (s := (SKP cc s0.1, s0.2)) (p := SKP cc s0.1 + 1) hy1 hu22 (mF.ne G_r0 R_r0_1) (by omega)⟩, hI17, (CM.cons S4 (CM.mono S18 (by decide) (by decide)) (by decide) (by decide))⟩
  refine z_iconst C (z := 0) rfl rfl rfl (fun x26 ex26 => ?_)
  exact k_iret C rfl (Or.inr ⟨rfl, z01 (by omega) (by omega)⟩) (Nat.le_of_ble_eq_true rfl) (Nat.le_of_ble_eq_true rfl) ⟨_, _, _, rfl, rfl, by omega, by omega, fun a1 a10 h1 h10 => by cases (R_r0_1.symm.trans h1); cases (R_r0_10.symm.trans h10); rw [k0_r0_13, hcc, hs0]; exact Or.inr ⟨by omega, (fun q => (h7.2 (by omega)) (by omega)), hy1⟩, hI2, (CM.mono S4 (by decide) (by decide))⟩

theorem a_X12_counts_x {d : Nat} {T N : Nat → Nat} {I : IT} {L : LT} {R : RT} {A : Nat → Prop} {r0 : Nat} {n1 : Int32} (hI : IM R r0 I) (H_r0 : (h_MD T N R A) r0) (b0_n1 : 0 ≤ n1.toInt) (b1_n1 : n1.toInt ≤ 127) (hp0 : ∀ a10, R r0 10 = some a10 → TBY (I a10)) : Ex (d + 3) 221 [.ref r0, .int n1] (T, N, I, L, R) 0 0 (pI T N R (fun x9 I9 L9 => (0 ≤ x9.toInt) ∧ (x9.toInt ≤ 1) ∧ ((I9 r0 16).toInt = (I r0 16).toInt + x9.toInt) ∧ (∀ a1 a10, R r0 1 = some a1 → R r0 10 = some a10 → CTR (BCM (I a10) (I r0 13).toInt) n1.toInt x9.toInt (RDM I r0 a1) (RDM I9 r0 a1)) ∧ (IM R r0 I9 ∧ CM A R r0 [12, 14, 16] [] I L I9 L9))) := by
  refine ⟨_, rfl, Nat.le_of_ble_eq_true rfl, fun V C S => ?_⟩
  show V 0 [(0, .ref r0), (1, .int n1)] [] (T, N, I, L, R) 0 0
  have gn1 := rg n1
  obtain ⟨T_r0, A_r0, ⟨r0_1, R_r0_1, H_r0_1⟩, ⟨r0_2, R_r0_2, H_r0_2⟩, ⟨r0_4, R_r0_4, H_r0_4⟩, ⟨r0_5, R_r0_5, H_r0_5⟩, ⟨r0_10, R_r0_10, H_r0_10⟩, ⟨r0_18, R_r0_18, H_r0_18⟩, ⟨r0_20, R_r0_20, H_r0_20⟩, ⟨r0_21, R_r0_21, H_r0_21⟩, ⟨r0_22, R_r0_22, H_r0_22⟩, ⟨r0_23, R_r0_23, H_r0_23⟩, ⟨r0_25, R_r0_25, H_r0_25⟩, ⟨r0_26, R_r0_26, H_r0_26⟩, ⟨r0_27, R_r0_27, H_r0_27⟩, ⟨r0_28, R_r0_28, H_r0_28⟩, ⟨r0_34, R_r0_34, H_r0_34⟩, J_r0, Y_r0⟩ := id H_r0
  have G_r0 : mF T R r0 := ⟨J_r0, Y_r0, T_r0⟩
  obtain ⟨w_r0_16, k0_r0_16⟩ : ∃ x, I r0 16 = x := ⟨_, rfl⟩
  have gw_r0_16 := rg w_r0_16
  have ow_r0_16 := IM.f16 hI k0_r0_16
  obtain ⟨w_r0_12, k0_r0_12⟩ : ∃ x, I r0 12 = x := ⟨_, rfl⟩
  have gw_r0_12 := rg w_r0_12
  have ow_r0_12 := IM.f12 hI k0_r0_12
  obtain ⟨w_r0_13, k0_r0_13⟩ : ∃ x, I r0 13 = x := ⟨_, rfl⟩
  have gw_r0_13 := rg w_r0_13
  have ow_r0_13 := IM.f13 hI k0_r0_13
  obtain ⟨w_r0_19, k0_r0_19⟩ : ∃ x, I r0 19 = x := ⟨_, rfl⟩
  have gw_r0_19 := rg w_r0_19
  have hp0 := hp0 r0_10 R_r0_10
  try simp only [k0_r0_16, k0_r0_12, k0_r0_13, k0_r0_19] at hp0
  have hTB := hp0
  obtain ⟨cc, hcc⟩ : ∃ c, BCM (I r0_10) w_r0_13.toInt = c := ⟨_, rfl⟩
  have hc40 : C40 cc := by rw [← hcc]; exact BCM.c40 (by omega)
  obtain ⟨s0, hs0⟩ : ∃ s, RDM I r0 r0_1 = s := ⟨_, rfl⟩
  have hd1 := RDM.c1 hs0 k0_r0_12 (by omega)
  have hd2 := RDM.c2 hs0 k0_r0_16 (by omega)
  refine k_aload_n C rfl rfl rfl ?_
  have w1 := (CM.j0 (I := I) (L := L) (I' := I) (L' := L) (A := A) (W := [12, 14, 16]) (WA := []) CM.rf R_r0_10 (by decide))
  refine c_VV C (a_X12_blanks_x hI H_r0 (fun a10 h10 => by cases (R_r0_10.symm.trans h10); rw [(CM.j0 (I := I) (L := L) (I' := I) (L' := L) (A := A) (W := [12, 14, 16]) (WA := []) CM.rf R_r0_10 (by decide))]; exact hTB)) rfl rfl rfl rfl rfl ⟨_, rfl, rfl, T_r0, Nat.le_of_ble_eq_true rfl⟩ rfl rfl (Nat.le_of_ble_eq_true rfl) (Nat.le_of_ble_eq_true rfl) (Nat.le_of_ble_eq_true rfl) ?_
  rintro I2 L3 ⟨p0v1, p1v1, hI2, S4⟩
  have p0v1 := p0v1 r0_1 r0_10 R_r0_1 R_r0_10
  have e5 := CM.k S4 (by decide) k0_r0_16
  have e7 := CM.k S4 (by decide) k0_r0_13
  have e8 := CM.k S4 (by decide) k0_r0_19
  obtain ⟨x9, e10⟩ : ∃ x, I2 r0 12 = x := ⟨_, rfl⟩
  have gx9 := rg x9
  have ox9 := IM.f12 hI2 e10
  obtain ⟨x11, e12⟩ : ∃ x, I2 r0 14 = x := ⟨_, rfl⟩
  have gx11 := rg x11
  have ox11 := IM.f14 hI2 e12
  try simp only [k0_r0_16, k0_r0_12, k0_r0_13, k0_r0_19, e10, e12] at p0v1
  try have q0v1 := congrArg Int32.toInt p0v1
  try simp only [k0_r0_16, k0_r0_12, k0_r0_13, k0_r0_19, e10, e12] at p1v1
  try have q1v1 := congrArg Int32.toInt p1v1
  have hy1 := p0v1
  (try rw [w1] at hy1)
  rw [hcc, hs0] at hy1
  have hq1 : x9.toInt = ((SKP cc s0.1 : Nat) : Int) := RDM.c1 hy1 e10 (by omega)
  refine k_aload_n C rfl rfl rfl ?_
  refine k_iload_n C rfl rfl rfl ?_
  refine k_iload_n C rfl rfl rfl ?_
  have w7 := (CM.j0 (I := I) (L := L) (I' := I2) (L' := L3) (A := A) (W := [12, 14, 16]) (WA := []) (CM.mono S4 (by decide) (by decide)) R_r0_10 (by decide))
  refine c_VI C (a_X12_isAt_x hI2 H_r0 (by omega) (by omega) (by omega) (by omega) (fun a10 h10 => by cases (R_r0_10.symm.trans h10); rw [(CM.j0 (I := I) (L := L) (I' := I2) (L' := L3) (A := A) (W := [12, 14, 16]) (WA := []) (CM.mono S4 (by decide) (by decide)) R_r0_10 (by decide))]; exact hTB)) rfl rfl rfl rfl rfl ⟨_, rfl, rfl, T_r0, Nat.le_of_ble_eq_true rfl⟩ rfl rfl (Nat.le_of_ble_eq_true rfl) (Nat.le_of_ble_eq_true rfl) (Nat.le_of_ble_eq_true rfl) ?_
  rintro x13 _ _ ⟨o0x13, o1x13, p0x13, p1x13, rfl, rfl⟩
  have p1x13 := p1x13 r0_10 R_r0_10
  have gx13 := rg x13
  try simp only [e5, e7, e8, e10, e12] at p0x13
  try have q0x13 := congrArg Int32.toInt p0x13
  try simp only [e5, e7, e8, e10, e12] at p1x13
  try have q1x13 := congrArg Int32.toInt p1x13
  have h7 := p1x13
  (try rw [w7] at h7)
  rw [hcc, show x9.toInt.toNat = SKP cc s0.1 from by omega] at h7
  refine b_if_ne C (t := 15) rfl rfl rfl (fun c14 => ?_) (fun c14 => ?_)
  · skip
    refine k_aload_n C rfl rfl rfl ?_
    refine g_I C rfl rfl rfl T_r0 rfl e5 ?_
    refine z_bipush C (z := 40) rfl rfl rfl (fun x15 ex15 => ?_)
    refine b_icmp_ne C (t := 26) rfl rfl rfl (fun c16 => ?_) (fun c16 => ?_)
    · skip
      refine k_aload_n C rfl rfl rfl ?_
      refine k_dup C rfl rfl rfl ?_
      refine g_I C rfl rfl rfl T_r0 rfl e10 ?_
      refine z_iconst C (z := 1) rfl rfl rfl (fun x17 ex17 => ?_)
      refine z_iadd C rfl rfl ⟨by omega, by omega⟩ (fun x18 ex18 => ?_)
      refine z_pI C rfl rfl rfl T_r0 (Or.inr rfl) rfl (fun I19 uI19 => ?_)
      have hI19 : IM R r0 I19 := IM.fld hI2 G_r0 ⟨(fun _ => ⟨by omega, by omega⟩), (fun h => absurd h (by decide)), (fun h => absurd h (by decide)), (fun h => absurd h (by decide)), (fun h => absurd h (by decide))⟩ uI19
      have S20 : CM A R r0 [12] [] I2 L3 I19 L3 := CM.f G_r0 A_r0 uI19
      have e21 := u2_j uI19 (by first | decide | exact ncne (by omega) (by omega) (by omega) | exact nckn (by omega) (by omega) | exact (nckn (by omega) (by omega)).symm) e5
      have e22 := u2_j uI19 (by first | decide | exact ncne (by omega) (by omega) (by omega) | exact nckn (by omega) (by omega) | exact (nckn (by omega) (by omega)).symm) e7
      have e23 := u2_j uI19 (by first | decide | exact ncne (by omega) (by omega) (by omega) | exact nckn (by omega) (by omega) | exact (nckn (by omega) (by omega)).symm) e8
      have e25 := u2_j uI19 (by first | decide | exact ncne (by omega) (by omega) (by omega) | exact nckn (by omega) (by omega) | exact (nckn (by omega) (by omega)).symm) e12
      have e26 := u2_e uI19
      have hu33 := uI19
      refine k_aload_n C rfl rfl rfl ?_
      refine k_dup C rfl rfl rfl ?_
      refine g_I C rfl rfl rfl T_r0 rfl e21 ?_
      refine z_iconst C (z := 1) rfl rfl rfl (fun x27 ex27 => ?_)
      refine z_iadd C rfl rfl ⟨by omega, by omega⟩ (fun x28 ex28 => ?_)
      refine z_pI C rfl rfl rfl T_r0 (Or.inr rfl) rfl (fun I29 uI29 => ?_)
      have hI29 : IM R r0 I29 := IM.fld hI19 G_r0 ⟨(fun h => absurd h (by decide)), (fun h => absurd h (by decide)), (fun _ => ⟨by omega, by omega⟩), (fun h => absurd h (by decide)), (fun h => absurd h (by decide))⟩ uI29
      have S30 : CM A R r0 [16] [] I19 L3 I29 L3 := CM.f G_r0 A_r0 uI29
      have e32 := u2_j uI29 (by first | decide | exact ncne (by omega) (by omega) (by omega) | exact nckn (by omega) (by omega) | exact (nckn (by omega) (by omega)).symm) e22
      have e33 := u2_j uI29 (by first | decide | exact ncne (by omega) (by omega) (by omega) | exact nckn (by omega) (by omega) | exact (nckn (by omega) (by omega)).symm) e23
      have e34 := u2_j uI29 (by first | decide | exact ncne (by omega) (by omega) (by omega) | exact nckn (by omega) (by omega) | exact (nckn (by omega) (by omega)).symm) e25
      have e35 := u2_j uI29 (by first | decide | exact ncne (by omega) (by omega) (by omega) | exact nckn (by omega) (by omega) | exact (nckn (by omega) (by omega)).symm) e26
      have e36 := u2_e uI29
      have hu43 := uI29
      refine z_iconst C (z := 1) rfl rfl rfl (fun x37 ex37 => ?_)
      exact k_iret C rfl (Or.inr ⟨rfl, z01 (by omega) (by omega)⟩) (Nat.le_of_ble_eq_true rfl) (Nat.le_of_ble_eq_true rfl) ⟨_, _, _, rfl, rfl, by omega, by omega, by first | omega | (simp only [e32, e33, e34, e35, e36, k0_r0_16, k0_r0_12, k0_r0_13, k0_r0_19, and_true, true_and, or_true, true_or, and_false, false_and, or_false, false_or] <;> omega), fun a1 a10 h1 h10 => by cases (R_r0_1.symm.trans h1); cases (R_r0_10.symm.trans h10); rw [k0_r0_13, hcc, hs0]; exact Or.inl ⟨by omega, (by have q := h7.1 (by omega); omega), by omega, RDM.u16 (s := (SKP cc s0.1 + 1, s0.2)) (c := s0.2.1 + 1) (RDM.u12 (s := (SKP cc s0.1, s0.2)) (p := SKP cc s0.1 + 1) hy1 hu33 (mF.ne G_r0 R_r0_1) (by omega)) hu43 (mF.ne G_r0 R_r0_1) (by omega)⟩, hI29, (CM.cons S4 (CM.cons S20 (CM.mono S30 (by decide) (by decide)) (by decide) (by decide)) (by decide) (by decide))⟩
    refine z_iconst C (z := 0) rfl rfl rfl (fun x38 ex38 => ?_)
    exact k_iret C rfl (Or.inr ⟨rfl, z01 (by omega) (by omega)⟩) (Nat.le_of_ble_eq_true rfl) (Nat.le_of_ble_eq_true rfl) ⟨_, _, _, rfl, rfl, by omega, by omega, by first | omega | (simp only [e5, e7, e8, e10, e12, k0_r0_16, k0_r0_12, k0_r0_13, k0_r0_19, and_true, true_and, or_true, true_or, and_false, false_and, or_false, false_or] <;> omega), fun a1 a10 h1 h10 => by cases (R_r0_1.symm.trans h1); cases (R_r0_10.symm.trans h10); rw [k0_r0_13, hcc, hs0]; exact Or.inr ⟨by omega, Or.inr (by omega), hy1⟩, hI2, (CM.mono S4 (by decide) (by decide))⟩
  refine z_iconst C (z := 0) rfl rfl rfl (fun x39 ex39 => ?_)
  exact k_iret C rfl (Or.inr ⟨rfl, z01 (by omega) (by omega)⟩) (Nat.le_of_ble_eq_true rfl) (Nat.le_of_ble_eq_true rfl) ⟨_, _, _, rfl, rfl, by omega, by omega, by first | omega | (simp only [e5, e7, e8, e10, e12, k0_r0_16, k0_r0_12, k0_r0_13, k0_r0_19, and_true, true_and, or_true, true_or, and_false, false_and, or_false, false_or] <;> omega), fun a1 a10 h1 h10 => by cases (R_r0_1.symm.trans h1); cases (R_r0_10.symm.trans h10); rw [k0_r0_13, hcc, hs0]; exact Or.inr ⟨by omega, Or.inl (fun q => (h7.2 (by omega)) (by omega)), hy1⟩, hI2, (CM.mono S4 (by decide) (by decide))⟩

theorem a_X12_number_x {d : Nat} {T N : Nat → Nat} {I : IT} {L : LT} {R : RT} {A : Nat → Prop} {r0 : Nat} {n1 : Int32} (hI : IM R r0 I) (H_r0 : (h_MD T N R A) r0) (b0_n1 : 0 ≤ n1.toInt) (b1_n1 : n1.toInt ≤ 999) (hp0 : ∀ a10, R r0 10 = some a10 → TBY (I a10)) : Ex (d + 3) 222 [.ref r0, .int n1] (T, N, I, L, R) 0 0 (pI T N R (fun x9 I9 L9 => (x9.toInt ≤ 999) ∧ (x9.toInt = -1 ∨ x9.toInt ≤ n1.toInt) ∧ (∀ a1 a10, R r0 1 = some a1 → R r0 10 = some a10 → NMR (BCM (I a10) (I r0 13).toInt) n1.toInt x9.toInt (RDM I r0 a1) (RDM I9 r0 a1)) ∧ (x9.toInt = -1 ∨ 0 ≤ x9.toInt) ∧ (IM R r0 I9 ∧ CM A R r0 [12, 14] [] I L I9 L9))) := by
  refine ⟨_, rfl, Nat.le_of_ble_eq_true rfl, fun V C S => ?_⟩
  show V 0 [(0, .ref r0), (1, .int n1)] [] (T, N, I, L, R) 0 0
  have gn1 := rg n1
  obtain ⟨T_r0, A_r0, ⟨r0_1, R_r0_1, H_r0_1⟩, ⟨r0_2, R_r0_2, H_r0_2⟩, ⟨r0_4, R_r0_4, H_r0_4⟩, ⟨r0_5, R_r0_5, H_r0_5⟩, ⟨r0_10, R_r0_10, H_r0_10⟩, ⟨r0_18, R_r0_18, H_r0_18⟩, ⟨r0_20, R_r0_20, H_r0_20⟩, ⟨r0_21, R_r0_21, H_r0_21⟩, ⟨r0_22, R_r0_22, H_r0_22⟩, ⟨r0_23, R_r0_23, H_r0_23⟩, ⟨r0_25, R_r0_25, H_r0_25⟩, ⟨r0_26, R_r0_26, H_r0_26⟩, ⟨r0_27, R_r0_27, H_r0_27⟩, ⟨r0_28, R_r0_28, H_r0_28⟩, ⟨r0_34, R_r0_34, H_r0_34⟩, J_r0, Y_r0⟩ := id H_r0
  have G_r0 : mF T R r0 := ⟨J_r0, Y_r0, T_r0⟩
  obtain ⟨w_r0_12, k0_r0_12⟩ : ∃ x, I r0 12 = x := ⟨_, rfl⟩
  have gw_r0_12 := rg w_r0_12
  have ow_r0_12 := IM.f12 hI k0_r0_12
  obtain ⟨w_r0_13, k0_r0_13⟩ : ∃ x, I r0 13 = x := ⟨_, rfl⟩
  have gw_r0_13 := rg w_r0_13
  have ow_r0_13 := IM.f13 hI k0_r0_13
  obtain ⟨w_r0_16, k0_r0_16⟩ : ∃ x, I r0 16 = x := ⟨_, rfl⟩
  have gw_r0_16 := rg w_r0_16
  have ow_r0_16 := IM.f16 hI k0_r0_16
  obtain ⟨w_r0_19, k0_r0_19⟩ : ∃ x, I r0 19 = x := ⟨_, rfl⟩
  have gw_r0_19 := rg w_r0_19
  have hp0 := hp0 r0_10 R_r0_10
  try simp only [k0_r0_12, k0_r0_13, k0_r0_16, k0_r0_19] at hp0
  have hTB := hp0
  obtain ⟨cc, hcc⟩ : ∃ c, BCM (I r0_10) w_r0_13.toInt = c := ⟨_, rfl⟩
  have hc40 : C40 cc := by rw [← hcc]; exact BCM.c40 (by omega)
  obtain ⟨s0, hs0⟩ : ∃ s, RDM I r0 r0_1 = s := ⟨_, rfl⟩
  have hd1 := RDM.c1 hs0 k0_r0_12 (by omega)
  have hd2 := RDM.c2 hs0 k0_r0_16 (by omega)
  refine k_aload_n C rfl rfl rfl ?_
  have w1 := (CM.j0 (I := I) (L := L) (I' := I) (L' := L) (A := A) (W := [12, 14]) (WA := []) CM.rf R_r0_10 (by decide))
  refine c_VV C (a_X12_blanks_x hI H_r0 (fun a10 h10 => by cases (R_r0_10.symm.trans h10); rw [(CM.j0 (I := I) (L := L) (I' := I) (L' := L) (A := A) (W := [12, 14]) (WA := []) CM.rf R_r0_10 (by decide))]; exact hTB)) rfl rfl rfl rfl rfl ⟨_, rfl, rfl, T_r0, Nat.le_of_ble_eq_true rfl⟩ rfl rfl (Nat.le_of_ble_eq_true rfl) (Nat.le_of_ble_eq_true rfl) (Nat.le_of_ble_eq_true rfl) ?_
  rintro I2 L3 ⟨p0v1, p1v1, hI2, S4⟩
  have p0v1 := p0v1 r0_1 r0_10 R_r0_1 R_r0_10
  have e6 := CM.k S4 (by decide) k0_r0_13
  have e7 := CM.k S4 (by decide) k0_r0_16
  have e8 := CM.k S4 (by decide) k0_r0_19
  obtain ⟨x9, e10⟩ : ∃ x, I2 r0 12 = x := ⟨_, rfl⟩
  have gx9 := rg x9
  have ox9 := IM.f12 hI2 e10
  obtain ⟨x11, e12⟩ : ∃ x, I2 r0 14 = x := ⟨_, rfl⟩
  have gx11 := rg x11
  have ox11 := IM.f14 hI2 e12
  try simp only [k0_r0_12, k0_r0_13, k0_r0_16, k0_r0_19, e10, e12] at p0v1
  try have q0v1 := congrArg Int32.toInt p0v1
  try simp only [k0_r0_12, k0_r0_13, k0_r0_16, k0_r0_19, e10, e12] at p1v1
  try have q1v1 := congrArg Int32.toInt p1v1
  have hy1 := p0v1
  (try rw [w1] at hy1)
  rw [hcc, hs0] at hy1
  have hq1 : x9.toInt = ((SKP cc s0.1 : Nat) : Int) := RDM.c1 hy1 e10 (by omega)
  have hb1 : x11.toInt = ((SKP cc s0.1 : Nat) : Int) := by omega
  have ht1 := RDM.c2 hy1 e7 (by omega)
  refine z_iconst C (z := 0) rfl rfl rfl (fun x13 ex13 => ?_)
  have J14 : ∀ (nn15 : Nat) (I16 : IT) (L17 : LT) (x18 : Int32) (x21 : Int32), (MN (400 - x21.toInt) nn15) → (IM R r0 I16) → (CM A R r0 [12] [] I2 L3 I16 L17) → (I16 r0 12 = x21) → (0 ≤ x21.toInt) → (x21.toInt ≤ 400) → (NMI cc (SKP cc s0.1) x18.toInt x21.toInt) → (0 ≤ x18.toInt ∧ (x21.toInt = ((SKP cc s0.1 : Nat) : Int) ∧ x18.toInt ≤ 0 ∨ x21.toInt = ((SKP cc s0.1 : Nat) : Int) + 1 ∧ x18.toInt ≤ 9 ∨ x21.toInt = ((SKP cc s0.1 : Nat) : Int) + 2 ∧ x18.toInt ≤ 99 ∨ ((SKP cc s0.1 : Nat) : Int) + 3 ≤ x21.toInt ∧ x18.toInt ≤ 999)) → V 6 [(0, .ref r0), (1, .int n1), (2, .int x18)] [] (T, N, I16, L17, R) 0 0 := by
    intro nn15
    induction nn15 using Nat.strongRecOn with
    | _ nn15 ihJ14 =>
      intro I16 L17 x18 x21 hmnn15 hI20 S19 e22 b23 b24 ff6_0 ff6_1
      have gx18 := rg x18
      have gx21 := rg x21
      have e25 := CM.k S19 (by decide) e6
      have e26 := CM.k S19 (by decide) e7
      have e27 := CM.k S19 (by decide) e8
      have e28 := CM.k S19 (by decide) e12
      obtain ⟨k6, hk6⟩ : ∃ k : Nat, k = x21.toInt.toNat := ⟨_, rfl⟩
      refine k_aload_n C rfl rfl rfl ?_
      refine z_bipush C (z := 48) rfl rfl rfl (fun x29 ex29 => ?_)
      refine z_bipush C (z := 57) rfl rfl rfl (fun x30 ex30 => ?_)
      have w11 := (CM.j0 (I := I) (L := L) (I' := I16) (L' := L17) (A := A) (W := [12, 14]) (WA := []) (CM.cons S4 (CM.mono S19 (by decide) (by decide)) (by decide) (by decide)) R_r0_10 (by decide))
      have q31 : x29.toNatClampNeg = 48 := nck (by omega)
      have q32 : x30.toNatClampNeg = 57 := nck (by omega)
      refine c_VI C (a_X12_isAt_x hI20 H_r0 (by omega) (by omega) (by omega) (by omega) (fun a10 h10 => by cases (R_r0_10.symm.trans h10); rw [(CM.j0 (I := I) (L := L) (I' := I16) (L' := L17) (A := A) (W := [12, 14]) (WA := []) (CM.cons S4 (CM.mono S19 (by decide) (by decide)) (by decide) (by decide)) R_r0_10 (by decide))]; exact hTB)) rfl rfl rfl rfl rfl ⟨_, rfl, rfl, T_r0, Nat.le_of_ble_eq_true rfl⟩ rfl rfl (Nat.le_of_ble_eq_true rfl) (Nat.le_of_ble_eq_true rfl) (Nat.le_of_ble_eq_true rfl) ?_
      rintro x33 _ _ ⟨o0x33, o1x33, p0x33, p1x33, rfl, rfl⟩
      have p1x33 := p1x33 r0_10 R_r0_10
      have gx33 := rg x33
      try simp only [q31, q32, e25, e26, e27, e28, e22] at p0x33
      try have q0x33 := congrArg Int32.toInt p0x33
      try simp only [q31, q32, e25, e26, e27, e28, e22] at p1x33
      try have q1x33 := congrArg Int32.toInt p1x33
      have h11 := p1x33
      (try rw [w11] at h11)
      rw [hcc] at h11
      rw [← hk6] at h11
      refine b_if_eq C (t := 65) rfl rfl rfl (fun c34 => ?_) (fun c34 => ?_)
      · skip
        refine k_aload_n C rfl rfl rfl ?_
        refine g_I C rfl rfl rfl T_r0 rfl e22 ?_
        refine k_aload_n C rfl rfl rfl ?_
        refine g_I C rfl rfl rfl T_r0 rfl e28 ?_
        refine b_icmp_eq C (t := 94) rfl rfl rfl (fun c35 => ?_) (fun c35 => ?_)
        · skip
          refine z_iconst C (z := -1) rfl rfl rfl (fun x36 ex36 => ?_)
          refine k_goto C (pc2 := 99) rfl rfl ?_
          exact k_iret C rfl (Or.inl rfl) (Nat.le_of_ble_eq_true rfl) (Nat.le_of_ble_eq_true rfl) ⟨_, _, _, rfl, rfl, by omega, by first | omega | (simp only [e25, e26, e27, e28, e22, k0_r0_12, k0_r0_13, k0_r0_16, k0_r0_19, and_true, true_and, or_true, true_or, and_false, false_and, or_false, false_or] <;> omega), fun a1 a10 h1 h10 => by cases (R_r0_1.symm.trans h1); cases (R_r0_10.symm.trans h10); rw [k0_r0_13, hcc, hs0]; have hnd9 : ¬ (48 ≤ cc k6 ∧ cc k6 ≤ 57) := fun q => (h11.2 (by omega)) (by omega); first | exact NMR.no ff6_0 rfl (k := k6) (by omega) hnd9 (by omega) (by omega) | exact NMR.yes ff6_0 rfl (k := k6) (by omega) hnd9 (by omega) (by omega) (by omega) (by omega) (by omega) (RDM.nx hs0 (by rw [e27, k0_r0_19]) (CM.j0 (I := I) (L := L) (I' := I16) (L' := L17) (A := A) (W := [12, 14]) (WA := []) (CM.cons S4 (CM.mono S19 (by decide) (by decide)) (by decide) (by decide)) R_r0_1 (by decide)) (p := k6) (c := s0.2.1) (by rw [e22]; omega) (by rw [e26]; omega)), by first | omega | (simp only [e25, e26, e27, e28, e22, k0_r0_12, k0_r0_13, k0_r0_16, k0_r0_19, and_true, true_and, or_true, true_or, and_false, false_and, or_false, false_or] <;> omega), hI20, (CM.cons S4 (CM.mono S19 (by decide) (by decide)) (by decide) (by decide))⟩
        refine k_aload_n C rfl rfl rfl ?_
        refine g_I C rfl rfl rfl T_r0 rfl e22 ?_
        refine k_aload_n C rfl rfl rfl ?_
        refine g_I C rfl rfl rfl T_r0 rfl e28 ?_
        refine z_isub C rfl rfl ⟨by omega, by omega⟩ (fun x37 ex37 => ?_)
        refine z_iconst C (z := 3) rfl rfl rfl (fun x38 ex38 => ?_)
        refine b_icmp_gt C (t := 94) rfl rfl rfl (fun c39 => ?_) (fun c39 => ?_)
        · skip
          refine z_iconst C (z := -1) rfl rfl rfl (fun x40 ex40 => ?_)
          refine k_goto C (pc2 := 99) rfl rfl ?_
          exact k_iret C rfl (Or.inl rfl) (Nat.le_of_ble_eq_true rfl) (Nat.le_of_ble_eq_true rfl) ⟨_, _, _, rfl, rfl, by omega, by first | omega | (simp only [e25, e26, e27, e28, e22, k0_r0_12, k0_r0_13, k0_r0_16, k0_r0_19, and_true, true_and, or_true, true_or, and_false, false_and, or_false, false_or] <;> omega), fun a1 a10 h1 h10 => by cases (R_r0_1.symm.trans h1); cases (R_r0_10.symm.trans h10); rw [k0_r0_13, hcc, hs0]; have hnd9 : ¬ (48 ≤ cc k6 ∧ cc k6 ≤ 57) := fun q => (h11.2 (by omega)) (by omega); first | exact NMR.no ff6_0 rfl (k := k6) (by omega) hnd9 (by omega) (by omega) | exact NMR.yes ff6_0 rfl (k := k6) (by omega) hnd9 (by omega) (by omega) (by omega) (by omega) (by omega) (RDM.nx hs0 (by rw [e27, k0_r0_19]) (CM.j0 (I := I) (L := L) (I' := I16) (L' := L17) (A := A) (W := [12, 14]) (WA := []) (CM.cons S4 (CM.mono S19 (by decide) (by decide)) (by decide) (by decide)) R_r0_1 (by decide)) (p := k6) (c := s0.2.1) (by rw [e22]; omega) (by rw [e26]; omega)), by first | omega | (simp only [e25, e26, e27, e28, e22, k0_r0_12, k0_r0_13, k0_r0_16, k0_r0_19, and_true, true_and, or_true, true_or, and_false, false_and, or_false, false_or] <;> omega), hI20, (CM.cons S4 (CM.mono S19 (by decide) (by decide)) (by decide) (by decide))⟩
        refine k_iload_n C rfl rfl rfl ?_
        refine k_iload_n C rfl rfl rfl ?_
        refine b_icmp_le C (t := 98) rfl rfl rfl (fun c41 => ?_) (fun c41 => ?_)
        · skip
          refine k_iload_n C rfl rfl rfl ?_
          exact k_iret C rfl (Or.inl rfl) (Nat.le_of_ble_eq_true rfl) (Nat.le_of_ble_eq_true rfl) ⟨_, _, _, rfl, rfl, by omega, by first | omega | (simp only [e25, e26, e27, e28, e22, k0_r0_12, k0_r0_13, k0_r0_16, k0_r0_19, and_true, true_and, or_true, true_or, and_false, false_and, or_false, false_or] <;> omega), fun a1 a10 h1 h10 => by cases (R_r0_1.symm.trans h1); cases (R_r0_10.symm.trans h10); rw [k0_r0_13, hcc, hs0]; have hnd9 : ¬ (48 ≤ cc k6 ∧ cc k6 ≤ 57) := fun q => (h11.2 (by omega)) (by omega); first | exact NMR.no ff6_0 rfl (k := k6) (by omega) hnd9 (by omega) (by omega) | exact NMR.yes ff6_0 rfl (k := k6) (by omega) hnd9 (by omega) (by omega) (by omega) (by omega) (by omega) (RDM.nx hs0 (by rw [e27, k0_r0_19]) (CM.j0 (I := I) (L := L) (I' := I16) (L' := L17) (A := A) (W := [12, 14]) (WA := []) (CM.cons S4 (CM.mono S19 (by decide) (by decide)) (by decide) (by decide)) R_r0_1 (by decide)) (p := k6) (c := s0.2.1) (by rw [e22]; omega) (by rw [e26]; omega)), by first | omega | (simp only [e25, e26, e27, e28, e22, k0_r0_12, k0_r0_13, k0_r0_16, k0_r0_19, and_true, true_and, or_true, true_or, and_false, false_and, or_false, false_or] <;> omega), hI20, (CM.cons S4 (CM.mono S19 (by decide) (by decide)) (by decide) (by decide))⟩
        refine z_iconst C (z := -1) rfl rfl rfl (fun x42 ex42 => ?_)
        refine k_goto C (pc2 := 99) rfl rfl ?_
        exact k_iret C rfl (Or.inl rfl) (Nat.le_of_ble_eq_true rfl) (Nat.le_of_ble_eq_true rfl) ⟨_, _, _, rfl, rfl, by omega, by first | omega | (simp only [e25, e26, e27, e28, e22, k0_r0_12, k0_r0_13, k0_r0_16, k0_r0_19, and_true, true_and, or_true, true_or, and_false, false_and, or_false, false_or] <;> omega), fun a1 a10 h1 h10 => by cases (R_r0_1.symm.trans h1); cases (R_r0_10.symm.trans h10); rw [k0_r0_13, hcc, hs0]; have hnd9 : ¬ (48 ≤ cc k6 ∧ cc k6 ≤ 57) := fun q => (h11.2 (by omega)) (by omega); first | exact NMR.no ff6_0 rfl (k := k6) (by omega) hnd9 (by omega) (by omega) | exact NMR.yes ff6_0 rfl (k := k6) (by omega) hnd9 (by omega) (by omega) (by omega) (by omega) (by omega) (RDM.nx hs0 (by rw [e27, k0_r0_19]) (CM.j0 (I := I) (L := L) (I' := I16) (L' := L17) (A := A) (W := [12, 14]) (WA := []) (CM.cons S4 (CM.mono S19 (by decide) (by decide)) (by decide) (by decide)) R_r0_1 (by decide)) (p := k6) (c := s0.2.1) (by rw [e22]; omega) (by rw [e26]; omega)), by first | omega | (simp only [e25, e26, e27, e28, e22, k0_r0_12, k0_r0_13, k0_r0_16, k0_r0_19, and_true, true_and, or_true, true_or, and_false, false_and, or_false, false_or] <;> omega), hI20, (CM.cons S4 (CM.mono S19 (by decide) (by decide)) (by decide) (by decide))⟩
      refine k_aload_n C rfl rfl rfl ?_
      refine g_I C rfl rfl rfl T_r0 rfl e22 ?_
      refine k_aload_n C rfl rfl rfl ?_
      refine g_I C rfl rfl rfl T_r0 rfl e28 ?_
      refine z_isub C rfl rfl ⟨by omega, by omega⟩ (fun x43 ex43 => ?_)
      refine z_iconst C (z := 3) rfl rfl rfl (fun x44 ex44 => ?_)
      refine b_icmp_ge C (t := 50) rfl rfl rfl (fun c45 => ?_) (fun c45 => ?_)
      · skip
        refine k_iload_n C rfl rfl rfl ?_
        refine k_istore_n C (lw := [(2, .int x18), (0, .ref r0), (1, .int n1)]) rfl rfl (Nat.le_of_ble_eq_true rfl) rfl ?_
        refine k_aload_n C rfl rfl rfl ?_
        refine k_dup C rfl rfl rfl ?_
        refine g_I C rfl rfl rfl T_r0 rfl e22 ?_
        refine z_iconst C (z := 1) rfl rfl rfl (fun x46 ex46 => ?_)
        refine z_iadd C rfl rfl ⟨by omega, by omega⟩ (fun x47 ex47 => ?_)
        refine z_pI C rfl rfl rfl T_r0 (Or.inr rfl) rfl (fun I48 uI48 => ?_)
        have hI48 : IM R r0 I48 := IM.fld hI20 G_r0 ⟨(fun _ => ⟨by omega, by omega⟩), (fun h => absurd h (by decide)), (fun h => absurd h (by decide)), (fun h => absurd h (by decide)), (fun h => absurd h (by decide))⟩ uI48
        have S49 : CM A R r0 [12] [] I16 L17 I48 L17 := CM.f G_r0 A_r0 uI48
        have e50 := u2_j uI48 (by first | decide | exact ncne (by omega) (by omega) (by omega) | exact nckn (by omega) (by omega) | exact (nckn (by omega) (by omega)).symm) e25
        have e51 := u2_j uI48 (by first | decide | exact ncne (by omega) (by omega) (by omega) | exact nckn (by omega) (by omega) | exact (nckn (by omega) (by omega)).symm) e26
        have e52 := u2_j uI48 (by first | decide | exact ncne (by omega) (by omega) (by omega) | exact nckn (by omega) (by omega) | exact (nckn (by omega) (by omega)).symm) e27
        have e53 := u2_j uI48 (by first | decide | exact ncne (by omega) (by omega) (by omega) | exact nckn (by omega) (by omega) | exact (nckn (by omega) (by omega)).symm) e28
        have e55 := u2_e uI48
        refine k_goto C (pc2 := 6) rfl rfl ?_
        refine k_sub S [(0, .ref r0), (1, .int n1), (2, .int x18)] (List.forall_mem_cons.mpr ⟨List.mem_of_getElem? (i := 1) rfl, List.forall_mem_cons.mpr ⟨List.mem_of_getElem? (i := 2) rfl, List.forall_mem_cons.mpr ⟨List.mem_of_getElem? (i := 0) rfl, fun _ h => nomatch h⟩⟩⟩) ?_
        exact ihJ14 _ (MN.lt hmnn15 (by omega) (by omega)) I48 L17 x18 x47 rfl hI48 (CM.cons S19 (CM.mono S49 (by decide) (by decide)) (by decide) (by decide)) e55 (by omega) (by omega) (by have hd : 48 ≤ cc k6 ∧ cc k6 ≤ 57 := (by have q := h11.1 (by omega); omega); first | exact NMI.s2 ff6_0 (k := k6) (by omega) hd (by omega) (by omega) (by omega) | exact NMI.s1 ff6_0 (k := k6) (by omega) hd (by omega) (by omega) (by omega)) (by have hd : 48 ≤ cc k6 ∧ cc k6 ≤ 57 := (by have q := h11.1 (by omega); omega); omega)
      refine z_bipush C (z := 10) rfl rfl rfl (fun x56 ex56 => ?_)
      refine k_iload_n C rfl rfl rfl ?_
      refine z_imul10 C rfl rfl ⟨by omega, by omega, by omega⟩ (fun x57 ex57 => ?_)
      have gx57 := rg x57
      have m33 := ex57
      refine k_aload_n C rfl rfl rfl ?_
      refine g_R C rfl rfl rfl T_r0 rfl R_r0_10 ?_
      refine k_aload_n C rfl rfl rfl ?_
      refine g_I C rfl rfl rfl T_r0 rfl e22 ?_
      have w42 := (CM.j0 (I := I) (L := L) (I' := I16) (L' := L17) (A := A) (W := [12, 14]) (WA := []) (CM.cons S4 (CM.mono S19 (by decide) (by decide)) (by decide) (by decide)) R_r0_10 (by decide))
      obtain ⟨T_r0_10, N_r0_10, A_r0_10⟩ := id H_r0_10
      refine z_aB C rfl rfl T_r0_10 N_r0_10 (by omega) (by omega) (fun x58 ex58 => ?_)
      have gx58 := rg x58
      have hb42 := ex58
      have hbc := BCM.ab (m := w_r0_13.toInt) (j := k6) hTB w42 hb42 (by omega) (by omega) (by omega)
      rw [hcc] at hbc
      refine z_iadd C rfl rfl ⟨by omega, by omega⟩ (fun x59 ex59 => ?_)
      have gx59 := rg x59
      have m43 := ex59
      refine z_bipush C (z := 48) rfl rfl rfl (fun x60 ex60 => ?_)
      refine z_isub C rfl rfl ⟨by omega, by omega⟩ (fun x61 ex61 => ?_)
      have gx61 := rg x61
      have m46 := ex61
      refine k_goto C (pc2 := 51) rfl rfl ?_
      refine k_istore_n C (lw := [(2, .int x61), (0, .ref r0), (1, .int n1)]) rfl rfl (Nat.le_of_ble_eq_true rfl) rfl ?_
      refine k_aload_n C rfl rfl rfl ?_
      refine k_dup C rfl rfl rfl ?_
      refine g_I C rfl rfl rfl T_r0 rfl e22 ?_
      refine z_iconst C (z := 1) rfl rfl rfl (fun x62 ex62 => ?_)
      refine z_iadd C rfl rfl ⟨by omega, by omega⟩ (fun x63 ex63 => ?_)
      refine z_pI C rfl rfl rfl T_r0 (Or.inr rfl) rfl (fun I64 uI64 => ?_)
      have hI64 : IM R r0 I64 := IM.fld hI20 G_r0 ⟨(fun _ => ⟨by omega, by omega⟩), (fun h => absurd h (by decide)), (fun h => absurd h (by decide)), (fun h => absurd h (by decide)), (fun h => absurd h (by decide))⟩ uI64
      have S65 : CM A R r0 [12] [] I16 L17 I64 L17 := CM.f G_r0 A_r0 uI64
      have e66 := u2_j uI64 (by first | decide | exact ncne (by omega) (by omega) (by omega) | exact nckn (by omega) (by omega) | exact (nckn (by omega) (by omega)).symm) e25
      have e67 := u2_j uI64 (by first | decide | exact ncne (by omega) (by omega) (by omega) | exact nckn (by omega) (by omega) | exact (nckn (by omega) (by omega)).symm) e26
      have e68 := u2_j uI64 (by first | decide | exact ncne (by omega) (by omega) (by omega) | exact nckn (by omega) (by omega) | exact (nckn (by omega) (by omega)).symm) e27
      have e69 := u2_j uI64 (by first | decide | exact ncne (by omega) (by omega) (by omega) | exact nckn (by omega) (by omega) | exact (nckn (by omega) (by omega)).symm) e28
      have e71 := u2_n uI64 (mF.ne G_r0 R_r0_10) ex58
      have e72 := u2_e uI64
      refine k_goto C (pc2 := 6) rfl rfl ?_
      refine k_sub S [(0, .ref r0), (1, .int n1), (2, .int x61)] (List.forall_mem_cons.mpr ⟨List.mem_of_getElem? (i := 1) rfl, List.forall_mem_cons.mpr ⟨List.mem_of_getElem? (i := 2) rfl, List.forall_mem_cons.mpr ⟨List.mem_of_getElem? (i := 0) rfl, fun _ h => nomatch h⟩⟩⟩) ?_
      exact ihJ14 _ (MN.lt hmnn15 (by omega) (by omega)) I64 L17 x61 x63 rfl hI64 (CM.cons S19 (CM.mono S65 (by decide) (by decide)) (by decide) (by decide)) e72 (by omega) (by omega) (by have hd : 48 ≤ cc k6 ∧ cc k6 ≤ 57 := (by have q := h11.1 (by omega); omega); first | exact NMI.s2 ff6_0 (k := k6) (by omega) hd (by omega) (by omega) (by omega) | exact NMI.s1 ff6_0 (k := k6) (by omega) hd (by omega) (by omega) (by omega)) (by have hd : 48 ≤ cc k6 ∧ cc k6 ≤ 57 := (by have q := h11.1 (by omega); omega); omega)
  refine k_istore_n C (lw := [(2, .int x13), (0, .ref r0), (1, .int n1)]) rfl rfl (Nat.le_of_ble_eq_true rfl) rfl ?_
  refine k_sub S [(0, .ref r0), (1, .int n1), (2, .int x13)] (List.forall_mem_cons.mpr ⟨List.mem_of_getElem? (i := 1) rfl, List.forall_mem_cons.mpr ⟨List.mem_of_getElem? (i := 2) rfl, List.forall_mem_cons.mpr ⟨List.mem_of_getElem? (i := 0) rfl, fun _ h => nomatch h⟩⟩⟩) ?_
  exact J14 _ I2 L3 x13 x9 rfl hI2 CM.rf e10 (by omega) (by omega) (by exact NMI.z (by omega) (by omega)) (by omega)

theorem a_X12_emits_x {d : Nat} {T N : Nat → Nat} {I : IT} {L : LT} {R : RT} {A : Nat → Prop} {r0 : Nat} {n1 n2 : Int32} (hI : IM R r0 I) (H_r0 : (h_MD T N R A) r0) (b0_n1 : 0 ≤ n1.toInt) (b1_n1 : n1.toInt ≤ 5) (b0_n2 : 0 ≤ n2.toInt) (b1_n2 : n2.toInt ≤ 999) (hp0 : 0 ≤ (I r0 19).toInt) (hp1 : (I r0 19).toInt ≤ 198) : Ex (d + 1) 224 [.ref r0, .int n1, .int n2] (T, N, I, L, R) 0 0 (pI T N R (fun x9 I9 L9 => (1 ≤ x9.toInt) ∧ (x9.toInt ≤ 1) ∧ (∀ a1, R r0 1 = some a1 → EMT (I a1) (I9 a1) (I r0 19).toNatClampNeg n1 n2) ∧ ((I9 r0 19).toInt = (I r0 19).toInt + 1) ∧ (∀ a1, R r0 1 = some a1 → RDM I9 r0 a1 = ((RDM I r0 a1).1, (RDM I r0 a1).2.1, (RDM I r0 a1).2.2 ++ [(n1.toInt, n2.toInt)])) ∧ (∀ a1, R r0 1 = some a1 → ∀ r : Nat, r < 3606 → I9 a1 r = I a1 r) ∧ (IM R r0 I9 ∧ CM A R r0 [19] [1] I L I9 L9))) := by
  refine ⟨_, rfl, Nat.le_of_ble_eq_true rfl, fun V C S => ?_⟩
  show V 0 [(0, .ref r0), (1, .int n1), (2, .int n2)] [] (T, N, I, L, R) 0 0
  have gn1 := rg n1
  have gn2 := rg n2
  obtain ⟨T_r0, A_r0, ⟨r0_1, R_r0_1, H_r0_1⟩, ⟨r0_2, R_r0_2, H_r0_2⟩, ⟨r0_4, R_r0_4, H_r0_4⟩, ⟨r0_5, R_r0_5, H_r0_5⟩, ⟨r0_10, R_r0_10, H_r0_10⟩, ⟨r0_18, R_r0_18, H_r0_18⟩, ⟨r0_20, R_r0_20, H_r0_20⟩, ⟨r0_21, R_r0_21, H_r0_21⟩, ⟨r0_22, R_r0_22, H_r0_22⟩, ⟨r0_23, R_r0_23, H_r0_23⟩, ⟨r0_25, R_r0_25, H_r0_25⟩, ⟨r0_26, R_r0_26, H_r0_26⟩, ⟨r0_27, R_r0_27, H_r0_27⟩, ⟨r0_28, R_r0_28, H_r0_28⟩, ⟨r0_34, R_r0_34, H_r0_34⟩, J_r0, Y_r0⟩ := id H_r0
  have G_r0 : mF T R r0 := ⟨J_r0, Y_r0, T_r0⟩
  obtain ⟨w_r0_19, k0_r0_19⟩ : ∃ x, I r0 19 = x := ⟨_, rfl⟩
  have gw_r0_19 := rg w_r0_19
  obtain ⟨w_r0_12, k0_r0_12⟩ : ∃ x, I r0 12 = x := ⟨_, rfl⟩
  have gw_r0_12 := rg w_r0_12
  have ow_r0_12 := IM.f12 hI k0_r0_12
  obtain ⟨w_r0_16, k0_r0_16⟩ : ∃ x, I r0 16 = x := ⟨_, rfl⟩
  have gw_r0_16 := rg w_r0_16
  have ow_r0_16 := IM.f16 hI k0_r0_16
  try simp only [k0_r0_19, k0_r0_12, k0_r0_16] at hp0
  try simp only [k0_r0_19, k0_r0_12, k0_r0_16] at hp1
  refine k_aload_n C rfl rfl rfl ?_
  refine g_R C rfl rfl rfl T_r0 rfl R_r0_1 ?_
  refine z_sipush C (z := 3607) rfl rfl rfl (fun x1 ex1 => ?_)
  refine z_iconst C (z := 2) rfl rfl rfl (fun x2 ex2 => ?_)
  refine k_aload_n C rfl rfl rfl ?_
  refine g_I C rfl rfl rfl T_r0 rfl k0_r0_19 ?_
  refine z_imulL C (c := 2) rfl rfl (by omega) ⟨by omega, by omega⟩ (fun x3 ex3 => ?_)
  refine z_iadd C rfl rfl ⟨by omega, by omega⟩ (fun x4 ex4 => ?_)
  refine k_iload_n C rfl rfl rfl ?_
  obtain ⟨T_r0_1, N_r0_1, A_r0_1⟩ := id H_r0_1
  refine z_sI C rfl rfl T_r0_1 N_r0_1 (by omega) (by omega) (fun I5 uI5 => ?_)
  have hI5 : IM R r0 I5 := IM.arr hI G_r0 R_r0_1 ⟨(fun h => absurd h (by decide)), (fun h => absurd h (by decide)), (fun h => absurd h (by decide))⟩ (fun _ => WOK.dr (IM.w hI R_r0_1) (by omega)) uI5
  have S6 : CM A R r0 [] [1] I L I5 L := CM.a G_r0 R_r0_1 A_r0_1 uI5
  have F7 : ∀ r : Nat, r < 3606 → I5 r0_1 r = I r0_1 r := fun r z0 => by rw [uI5]; exact u2_k (by have h2 := ncz (x := x4) (by omega); omega)
  have e8 := u2_n uI5 (fun e => (mF.ne G_r0 R_r0_1) e.symm) k0_r0_19
  have e9 := u2_n uI5 (fun e => (mF.ne G_r0 R_r0_1) e.symm) k0_r0_12
  have e10 := u2_n uI5 (fun e => (mF.ne G_r0 R_r0_1) e.symm) k0_r0_16
  have e11 := u2_e uI5
  have hu15 := uI5
  refine k_aload_n C rfl rfl rfl ?_
  refine g_R C rfl rfl rfl T_r0 rfl R_r0_1 ?_
  refine z_sipush C (z := 3608) rfl rfl rfl (fun x12 ex12 => ?_)
  refine z_iconst C (z := 2) rfl rfl rfl (fun x13 ex13 => ?_)
  refine k_aload_n C rfl rfl rfl ?_
  refine g_I C rfl rfl rfl T_r0 rfl e8 ?_
  refine z_imulL C (c := 2) rfl rfl (by omega) ⟨by omega, by omega⟩ (fun x14 ex14 => ?_)
  refine z_iadd C rfl rfl ⟨by omega, by omega⟩ (fun x15 ex15 => ?_)
  refine k_iload_n C rfl rfl rfl ?_
  refine z_sI C rfl rfl T_r0_1 N_r0_1 (by omega) (by omega) (fun I16 uI16 => ?_)
  have hI16 : IM R r0 I16 := IM.arr hI5 G_r0 R_r0_1 ⟨(fun h => absurd h (by decide)), (fun h => absurd h (by decide)), (fun h => absurd h (by decide))⟩ (fun _ => WOK.dr (IM.w hI5 R_r0_1) (by omega)) uI16
  have S17 : CM A R r0 [] [1] I5 L I16 L := CM.a G_r0 R_r0_1 A_r0_1 uI16
  have F18 : ∀ r : Nat, r < 3606 → I16 r0_1 r = I5 r0_1 r := fun r z0 => by rw [uI16]; exact u2_k (by have h2 := ncz (x := x15) (by omega); omega)
  have e19 := u2_n uI16 (fun e => (mF.ne G_r0 R_r0_1) e.symm) e8
  have e20 := u2_n uI16 (fun e => (mF.ne G_r0 R_r0_1) e.symm) e9
  have e21 := u2_n uI16 (fun e => (mF.ne G_r0 R_r0_1) e.symm) e10
  have e23 := u2_e uI16
  have hu31 := uI16
  refine k_aload_n C rfl rfl rfl ?_
  refine k_dup C rfl rfl rfl ?_
  refine g_I C rfl rfl rfl T_r0 rfl e19 ?_
  refine z_iconst C (z := 1) rfl rfl rfl (fun x24 ex24 => ?_)
  refine z_iadd C rfl rfl ⟨by omega, by omega⟩ (fun x25 ex25 => ?_)
  refine z_pI C rfl rfl rfl T_r0 (Or.inr rfl) rfl (fun I26 uI26 => ?_)
  have hI26 : IM R r0 I26 := IM.fld hI16 G_r0 ⟨(fun h => absurd h (by decide)), (fun h => absurd h (by decide)), (fun h => absurd h (by decide)), (fun h => absurd h (by decide)), (fun h => absurd h (by decide))⟩ uI26
  have S27 : CM A R r0 [19] [] I16 L I26 L := CM.f G_r0 A_r0 uI26
  have e29 := u2_j uI26 (by first | decide | exact ncne (by omega) (by omega) (by omega) | exact nckn (by omega) (by omega) | exact (nckn (by omega) (by omega)).symm) e20
  have e30 := u2_j uI26 (by first | decide | exact ncne (by omega) (by omega) (by omega) | exact nckn (by omega) (by omega) | exact (nckn (by omega) (by omega)).symm) e21
  have e31 := u2_n uI26 (mF.ne G_r0 R_r0_1) e23
  have e32 := u2_e uI26
  refine z_iconst C (z := 1) rfl rfl rfl (fun x33 ex33 => ?_)
  exact k_iret C rfl (Or.inr ⟨rfl, z01 (by omega) (by omega)⟩) (Nat.le_of_ble_eq_true rfl) (Nat.le_of_ble_eq_true rfl) ⟨_, _, _, rfl, rfl, by omega, by omega, fun a1 h1 => by cases (R_r0_1.symm.trans h1); rw [CM.j0 S27 R_r0_1 (by decide)]; simp only [k0_r0_19]; exact EMT.of hu15 hu31 (by omega) (by omega) (by omega), by first | omega | (simp only [e29, e30, e31, e32, k0_r0_19, k0_r0_12, k0_r0_16, and_true, true_and, or_true, true_or, and_false, false_and, or_false, false_or] <;> omega), fun a1 h1 => by cases (R_r0_1.symm.trans h1); rw [RDM.mk (p := (RDM I r0 r0_1).1) (c := (RDM I r0 r0_1).2.1) (by rw [e29]; exact RDM.c1 rfl k0_r0_12 (by omega)) (by rw [e30]; exact RDM.c2 rfl k0_r0_16 (by omega)) e32 (CM.j0 S27 R_r0_1 (by decide)), WTL.em (EMT.of (s := w_r0_19) hu15 hu31 (by omega) (by omega) (by omega)) (by omega) (by omega), RDM.l rfl k0_r0_19 rfl], fun a1 h1 => by cases (R_r0_1.symm.trans h1); exact (fun r z0 => ((congrFun (CM.j0 S27 R_r0_1 (by decide)) r).trans ((F18 r z0).trans (F7 r z0)))), hI26, (CM.cons S6 (CM.cons S17 (CM.mono S27 (by decide) (by decide)) (by decide) (by decide)) (by decide) (by decide))⟩

theorem a_X12_deeper_x {d : Nat} {T N : Nat → Nat} {I : IT} {L : LT} {R : RT} {A : Nat → Prop} {r0 : Nat} (hI : IM R r0 I) (H_r0 : (h_MD T N R A) r0) : Ex (d + 1) 225 [.ref r0] (T, N, I, L, R) 0 0 (pI T N R (fun x9 I9 L9 => (0 ≤ x9.toInt) ∧ (x9.toInt ≤ 1) ∧ (x9.toInt = 0 ∨ (I9 r0 15).toInt = (I r0 15).toInt + 1 ∧ (I r0 15).toInt ≤ 5) ∧ (x9.toInt = 0 → (I r0 15).toInt = 6) ∧ (∀ a1, R r0 1 = some a1 → RDM I9 r0 a1 = RDM I r0 a1) ∧ (IM R r0 I9 ∧ CM A R r0 [15] [] I L I9 L9))) := by
  refine ⟨_, rfl, Nat.le_of_ble_eq_true rfl, fun V C S => ?_⟩
  show V 0 [(0, .ref r0)] [] (T, N, I, L, R) 0 0
  obtain ⟨T_r0, A_r0, ⟨r0_1, R_r0_1, H_r0_1⟩, ⟨r0_2, R_r0_2, H_r0_2⟩, ⟨r0_4, R_r0_4, H_r0_4⟩, ⟨r0_5, R_r0_5, H_r0_5⟩, ⟨r0_10, R_r0_10, H_r0_10⟩, ⟨r0_18, R_r0_18, H_r0_18⟩, ⟨r0_20, R_r0_20, H_r0_20⟩, ⟨r0_21, R_r0_21, H_r0_21⟩, ⟨r0_22, R_r0_22, H_r0_22⟩, ⟨r0_23, R_r0_23, H_r0_23⟩, ⟨r0_25, R_r0_25, H_r0_25⟩, ⟨r0_26, R_r0_26, H_r0_26⟩, ⟨r0_27, R_r0_27, H_r0_27⟩, ⟨r0_28, R_r0_28, H_r0_28⟩, ⟨r0_34, R_r0_34, H_r0_34⟩, J_r0, Y_r0⟩ := id H_r0
  have G_r0 : mF T R r0 := ⟨J_r0, Y_r0, T_r0⟩
  obtain ⟨w_r0_15, k0_r0_15⟩ : ∃ x, I r0 15 = x := ⟨_, rfl⟩
  have gw_r0_15 := rg w_r0_15
  have ow_r0_15 := IM.f15 hI k0_r0_15
  obtain ⟨w_r0_12, k0_r0_12⟩ : ∃ x, I r0 12 = x := ⟨_, rfl⟩
  have gw_r0_12 := rg w_r0_12
  have ow_r0_12 := IM.f12 hI k0_r0_12
  obtain ⟨w_r0_13, k0_r0_13⟩ : ∃ x, I r0 13 = x := ⟨_, rfl⟩
  have gw_r0_13 := rg w_r0_13
  have ow_r0_13 := IM.f13 hI k0_r0_13
  obtain ⟨w_r0_16, k0_r0_16⟩ : ∃ x, I r0 16 = x := ⟨_, rfl⟩
  have gw_r0_16 := rg w_r0_16
  have ow_r0_16 := IM.f16 hI k0_r0_16
  obtain ⟨w_r0_19, k0_r0_19⟩ : ∃ x, I r0 19 = x := ⟨_, rfl⟩
  have gw_r0_19 := rg w_r0_19
  refine k_aload_n C rfl rfl rfl ?_
  refine g_I C rfl rfl rfl T_r0 rfl k0_r0_15 ?_
  refine z_bipush C (z := 6) rfl rfl rfl (fun x1 ex1 => ?_)
  refine b_icmp_ne C (t := 11) rfl rfl rfl (fun c2 => ?_) (fun c2 => ?_)
  · skip
    refine k_aload_n C rfl rfl rfl ?_
    refine k_dup C rfl rfl rfl ?_
    refine g_I C rfl rfl rfl T_r0 rfl k0_r0_15 ?_
    refine z_iconst C (z := 1) rfl rfl rfl (fun x3 ex3 => ?_)
    refine z_iadd C rfl rfl ⟨by omega, by omega⟩ (fun x4 ex4 => ?_)
    refine z_pI C rfl rfl rfl T_r0 (Or.inr rfl) rfl (fun I5 uI5 => ?_)
    have hI5 : IM R r0 I5 := IM.fld hI G_r0 ⟨(fun h => absurd h (by decide)), (fun _ => ⟨by omega, by omega⟩), (fun h => absurd h (by decide)), (fun h => absurd h (by decide)), (fun h => absurd h (by decide))⟩ uI5
    have S6 : CM A R r0 [15] [] I L I5 L := CM.f G_r0 A_r0 uI5
    have e8 := u2_j uI5 (by first | decide | exact ncne (by omega) (by omega) (by omega) | exact nckn (by omega) (by omega) | exact (nckn (by omega) (by omega)).symm) k0_r0_12
    have e9 := u2_j uI5 (by first | decide | exact ncne (by omega) (by omega) (by omega) | exact nckn (by omega) (by omega) | exact (nckn (by omega) (by omega)).symm) k0_r0_13
    have e10 := u2_j uI5 (by first | decide | exact ncne (by omega) (by omega) (by omega) | exact nckn (by omega) (by omega) | exact (nckn (by omega) (by omega)).symm) k0_r0_16
    have e11 := u2_j uI5 (by first | decide | exact ncne (by omega) (by omega) (by omega) | exact nckn (by omega) (by omega) | exact (nckn (by omega) (by omega)).symm) k0_r0_19
    have e12 := u2_e uI5
    have hu18 := uI5
    refine z_iconst C (z := 1) rfl rfl rfl (fun x13 ex13 => ?_)
    exact k_iret C rfl (Or.inr ⟨rfl, z01 (by omega) (by omega)⟩) (Nat.le_of_ble_eq_true rfl) (Nat.le_of_ble_eq_true rfl) ⟨_, _, _, rfl, rfl, by omega, by omega, by first | omega | (simp only [e8, e9, e10, e11, e12, k0_r0_15, k0_r0_12, k0_r0_13, k0_r0_16, k0_r0_19, and_true, true_and, or_true, true_or, and_false, false_and, or_false, false_or] <;> omega), by first | omega | (simp only [e8, e9, e10, e11, e12, k0_r0_15, k0_r0_12, k0_r0_13, k0_r0_16, k0_r0_19, and_true, true_and, or_true, true_or, and_false, false_and, or_false, false_or] <;> omega), fun a1 h1 => by cases (R_r0_1.symm.trans h1); exact RDM.u rfl hu18 (mF.ne G_r0 R_r0_1) (by decide) (by decide) (by decide), hI5, (CM.mono S6 (by decide) (by decide))⟩
  refine z_iconst C (z := 0) rfl rfl rfl (fun x14 ex14 => ?_)
  exact k_iret C rfl (Or.inr ⟨rfl, z01 (by omega) (by omega)⟩) (Nat.le_of_ble_eq_true rfl) (Nat.le_of_ble_eq_true rfl) ⟨_, _, _, rfl, rfl, by omega, by omega, by first | omega | (simp only [k0_r0_15, k0_r0_12, k0_r0_13, k0_r0_16, k0_r0_19, and_true, true_and, or_true, true_or, and_false, false_and, or_false, false_or] <;> omega), by first | omega | (simp only [k0_r0_15, k0_r0_12, k0_r0_13, k0_r0_16, k0_r0_19, and_true, true_and, or_true, true_or, and_false, false_and, or_false, false_or] <;> omega), fun a1 h1 => by cases (R_r0_1.symm.trans h1); rfl, hI, CM.rf⟩

