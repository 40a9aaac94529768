/-! signs read: exactly -/
section Lxp
variable {M : Nat}
def NQ8 (a b : Nat) : Prop := a ≠ b
def STL (R : RT) (I : IT) (o : Nat) : List (Int × Int) := (List.range (I o 2).toInt.toNat).map (fun k => ((I (rA R o 0) k).toInt, (I (rA R o 1) k).toInt))
def RDT (R : RT) (I : IT) (r : Nat) : PSt := ((I r 4).toInt.toNat, (I r 5).toInt.toNat, STL R I (rA R r 0))
def BCH (f : Nat → Int32) (m : Int) (k : Nat) : Int := if (k : Int) < m then (f k).toInt else -1
def RCH (R : RT) (I : IT) (r : Nat) : Nat → Int := BCH (I (rA R r 2)) (I r 3).toInt
theorem RCH.mv {R : RT} {I I1 : IT} {r b : Nat} {w : Int32} (e1 : I1 b = I b) (e2 : I1 r 3 = w) (e3 : I r 3 = w) (z : rA R r 2 = b) : RCH R I1 r = RCH R I r := by unfold RCH; rw [z, e1, e2, e3]
theorem RCH.mk {R : RT} {I I1 : IT} {r b : Nat} {n : Int32} (e1 : I1 b = I b) (e2 : I1 r 3 = n) (z : rA R r 2 = b) : RCH R I1 r = BCH (I b) n.toInt := by unfold RCH; rw [z, e1, e2]
theorem RCH.c40 {R : RT} {I : IT} {r : Nat} (h : (I r 3).toInt ≤ 400) : C40 (RCH R I r) := fun i hi => by unfold RCH BCH; rw [if_neg (by omega)]
theorem BCH.c40 {f : Nat → Int32} {m : Int} (h : m ≤ 400) : C40 (BCH f m) := fun i hi => by unfold BCH; rw [if_neg (by omega)]
theorem RCH.at {R : RT} {I I1 : IT} {r b : Nat} {x k : Int32} {m : Int} {j : Nat} (z : rA R r 2 = b) (e : I1 b = I b) (h : BYD x (I1 b) k) (h0 : 0 ≤ k.toInt) (hm : (I r 3).toInt = m) (h1 : k.toInt < m) (h4 : m ≤ 400) (hj : j = k.toInt.toNat) : x.toInt = RCH R I r j := by
  have n0 := ncz h0
  subst hj
  unfold RCH BCH
  rw [if_pos (by omega), z, ← e, h h0 (by omega)]; rfl
theorem RCH.no {R : RT} {I : IT} {r : Nat} {m x : Int} {j : Nat} (hm : (I r 3).toInt = m) (h1 : m ≤ (j : Int)) (hx : x = -1) : x = RCH R I r j := by
  unfold RCH BCH
  rw [if_neg (by omega), hx]
theorem RCH.lt {R : RT} {I : IT} {r j : Nat} {x m : Int} (e : x = RCH R I r j) (hm : (I r 3).toInt = m) (h : x ≠ -1) : (j : Int) < m := by
  unfold RCH BCH at e
  by_cases q : (j : Int) < (I r 3).toInt
  · omega
  · rw [if_neg q] at e; exact absurd e h
theorem STL.fr {R : RT} {I I1 : IT} {o a b : Nat} (z0 : rA R o 0 = a) (z1 : rA R o 1 = b) (e : I1 o 2 = I o 2) (e0 : I1 a = I a) (e1 : I1 b = I b) : STL R I1 o = STL R I o := by unfold STL; rw [z0, z1, e, e0, e1]
theorem STL.len {R : RT} {I : IT} {o : Nat} : (STL R I o).length = (I o 2).toInt.toNat := by unfold STL; rw [List.length_map, List.length_range]
/-- one step more -/
theorem STL.put {R : RT} {I I1 I2 I3 : IT} {o a b : Nat} {w w' v1 v2 : Int32} (z0 : rA R o 0 = a) (z1 : rA R o 1 = b) (hab : a ≠ b) (ho : o ≠ a ∧ o ≠ b) (hw : I o 2 = w) (u1 : I1 = u2 I a w.toNatClampNeg v1) (u2' : I2 = u2 I1 b w.toNatClampNeg v2) (u3 : I3 = u2 I2 o 2 w') (h0 : 0 ≤ w.toInt) (h1 : w.toInt < 160) (hw' : w'.toInt = w.toInt + 1) : STL R I3 o = APS 160 (STL R I o) (v1.toInt, v2.toInt) := by
  have n0 := ncz h0
  have ea : I3 a = I1 a := by rw [u3, u2_r (Ne.symm ho.1), u2', u2_r hab]
  have eb : I3 b = I2 b := by rw [u3, u2_r (Ne.symm ho.2)]
  have eo : I3 o 2 = w' := by rw [u3]; exact u2_s
  have eb0 : I1 b = I b := by rw [u1, u2_r (Ne.symm hab)]
  have hl : (STL R I o).length < 160 := by rw [STL.len, hw]; omega
  unfold APS
  rw [if_pos hl]
  unfold STL
  rw [eo, hw, z0, z1, ea, eb, hw', show (w.toInt + 1).toNat = w.toInt.toNat + 1 from by omega, List.range_succ, List.map_append]
  have k1 : ∀ k, k < w.toInt.toNat → I1 a k = I a k ∧ I2 b k = I b k := fun k hk => by
    rw [u1, u2', eb0.symm]
    exact ⟨u2_k (by omega), u2_k (by omega)⟩
  have e1 : (List.range w.toInt.toNat).map (fun k => ((I1 a k).toInt, (I2 b k).toInt)) = (List.range w.toInt.toNat).map (fun k => ((I a k).toInt, (I b k).toInt)) := List.map_congr_left (fun k hk => by
    rw [(k1 k (List.mem_range.mp hk)).1, (k1 k (List.mem_range.mp hk)).2])
  rw [e1]
  have e2 : I1 a w.toInt.toNat = v1 := by rw [u1, show w.toInt.toNat = w.toNatClampNeg from by omega]; exact u2_s
  have e3 : I2 b w.toInt.toNat = v2 := by rw [u2', show w.toInt.toNat = w.toNatClampNeg from by omega]; exact u2_s
  show _ ++ [((I1 a w.toInt.toNat).toInt, (I2 b w.toInt.toNat).toInt)] = _
  rw [e2, e3]
theorem STL.ful {R : RT} {I : IT} {o : Nat} {w : Int32} {x : Int × Int} (hw : I o 2 = w) (h1 : 160 ≤ w.toInt) : STL R I o = APS 160 (STL R I o) x := by
  have hl : ¬ (STL R I o).length < 160 := by rw [STL.len, hw]; omega
  unfold APS
  rw [if_neg hl]
theorem RDT.nx {R : RT} {I I1 : IT} {r o : Nat} {s : PSt} (hs : RDT R I r = s) (z : rA R r 0 = o) (e5 : (I1 r 5).toInt = (I r 5).toInt) (el : STL R I1 o = STL R I o) {p : Nat} (hp : (I1 r 4).toInt = p) : RDT R I1 r = (p, s.2) := by
  subst hs
  unfold RDT
  rw [z, e5, el, hp]; rfl
theorem RDT.th {R : RT} {I I1 : IT} {r o : Nat} {s : PSt} (hs : RDT R I r = s) (z : rA R r 0 = o) (e4 : (I1 r 4).toInt = (I r 4).toInt) (el : STL R I1 o = STL R I o) {p : Nat} (hp : (I1 r 5).toInt = p) : RDT R I1 r = (s.1, p, s.2.2) := by
  subst hs
  unfold RDT
  rw [z, e4, el, hp]; rfl
theorem RDT.pt {R : RT} {I I1 : IT} {r o : Nat} {s : PSt} {l : List (Int × Int)} (hs : RDT R I r = s) (z : rA R r 0 = o) (e4 : I1 r = I r) (el : STL R I1 o = l) : RDT R I1 r = (s.1, s.2.1, l) := by
  subst hs
  unfold RDT
  rw [z, e4, el]
theorem RDT.c1 {R : RT} {I : IT} {r : Nat} {s : PSt} {w : Int32} (hs : RDT R I r = s) (e : I r 4 = w) (h : 0 ≤ w.toInt) : w.toInt = s.1 := by
  subst hs
  show w.toInt = ((I r 4).toInt.toNat : Int)
  rw [e]; omega
theorem RDT.c2 {R : RT} {I : IT} {r : Nat} {s : PSt} {w : Int32} (hs : RDT R I r = s) (e : I r 5 = w) (h : 0 ≤ w.toInt) : w.toInt = s.2.1 := by
  subst hs
  show w.toInt = ((I r 5).toInt.toNat : Int)
  rw [e]; omega
theorem RDT.c3 {R : RT} {I : IT} {r o : Nat} {s : PSt} (hs : RDT R I r = s) (z : rA R r 0 = o) : STL R I o = s.2.2 := by
  subst hs; subst z; rfl
def NBI (c : Nat → Int) (p : Nat) (v j : Int) : Prop := DGB c p j.toNat ∧ v = VLU c p j.toNat ∧ 0 ≤ j ∧ j ≤ 4
theorem NBI.z {c : Nat → Int} {p : Nat} {v j : Int} (hv : v = 0) (hj : j = 0) : NBI c p v j := by
  subst hv; subst hj
  exact ⟨fun i hi => absurd hi (by omega), rfl, by omega, by omega⟩
theorem NBI.s {c : Nat → Int} {p q : Nat} {v v' x j j' : Int} (h : NBI c p v j) (hx : x = c q) (hq : (q : Int) = p + j) (hd : 48 ≤ x ∧ x ≤ 57) (hv : v' = 10 * v + x - 48) (hj : j' = j + 1) (h3 : j ≤ 3) : NBI c p v' j' := by
  obtain ⟨h1, h2, h4, h5⟩ := h
  have e : j'.toNat = j.toNat + 1 := by omega
  have eq : q = p + j.toNat := by omega
  refine ⟨fun i hi => ?_, ?_, by omega, by omega⟩
  · by_cases y : i = j.toNat
    · subst y; rw [← eq, ← hx]; exact hd
    · exact h1 i (by omega)
  · rw [e]
    show v' = 10 * VLU c p j.toNat + (c (p + j.toNat) - 48)
    rw [← h2, ← eq, ← hx]; omega
/-- all digits are read: the place behind them holds none, or there are four -/
theorem NBI.d {c : Nat → Int} {p q : Nat} {v j : Int} (h : NBI c p v j) (hq : (q : Int) = p + j) (e : j = 4 ∨ ¬ (48 ≤ c q ∧ c q ≤ 57)) : DGF c 4 p = j.toNat ∧ v = VLU c p (DGF c 4 p) := by
  obtain ⟨h1, h2, h4, h5⟩ := h
  have eq : q = p + j.toNat := by omega
  subst eq
  have d := DGF.of 4 p j.toNat h1 (by omega) (e.imp (fun q => by omega) id)
  exact ⟨d, by rw [d]; exact h2⟩
theorem NUB.no {c : Nat → Int} {k m v j : Int} {s : PSt} (d : DGF c 4 s.1 = j.toNat ∧ v = VLU c s.1 (DGF c 4 s.1)) (h : j > 3 ∨ m < v) : NUB M c k m s = none := by
  unfold NUB
  rw [if_neg (by rw [← d.2, d.1]; omega)]
theorem NUB.yes {c : Nat → Int} {k m v j : Int} {s : PSt} {p : Nat} (d : DGF c 4 s.1 = j.toNat ∧ v = VLU c s.1 (DGF c 4 s.1)) (h1 : 1 ≤ j) (h : j ≤ 3) (hm : v ≤ m) (hp : (p : Int) = s.1 + j) : NUB M c k m s = some (p, s.2.1, APS M s.2.2 (k, v)) := by
  unfold NUB
  rw [if_pos (by rw [← d.2, d.1]; omega), ← d.2, d.1, show s.1 + j.toNat = p from by omega]
theorem NBI.j1 {c : Nat → Int} {p : Nat} {v j : Int} (d : DGF c 4 p = j.toNat ∧ v = VLU c p (DGF c 4 p)) (h : 48 ≤ c p ∧ c p ≤ 57) : 1 ≤ j := by
  have : 1 ≤ DGF c 4 p := by
    show 1 ≤ (if 48 ≤ c p ∧ c p ≤ 57 then DGF c 3 (p + 1) + 1 else 0)
    rw [if_pos h]; omega
  omega
theorem TAK.y {c : Nat → Int} {v x : Int} {s : PSt} {p : Nat} (hx : x = c (SKP c s.1)) (h : x = v) (hp : p = SKP c s.1 + 1) : TAK c v s = some (p, s.2) := by
  unfold TAK; rw [if_pos (by omega), hp]
theorem TAK.n {c : Nat → Int} {v x : Int} {s : PSt} (hx : x = c (SKP c s.1)) (h : x ≠ v) : TAK c v s = none := by
  unfold TAK; rw [if_neg (by omega)]
theorem TAK.c {c : Nat → Int} {v : Int} {s t : PSt} (h : TAK c v s = some t) : t.2 = s.2 := by
  unfold TAK at h
  by_cases q : c (SKP c s.1) = v
  · rw [if_pos q] at h; cases h; rfl
  · rw [if_neg q] at h; cases h
theorem RLU.n1 {c : Nat → Int} {s : PSt} (h : 40 ≤ s.2.1) : RLU M c s = none := by unfold RLU; rw [if_pos (Or.inl h)]
theorem RLU.n2 {c : Nat → Int} {s : PSt} {x : Int} (hx : x = c (s.1 + 1)) (h : (97 ≤ x ∧ x ≤ 122) ∨ (65 ≤ x ∧ x ≤ 90)) : RLU M c s = none := by unfold RLU; rw [if_pos (Or.inr (by omega))]
theorem RLU.y {c : Nat → Int} {s : PSt} {x : Int} {p : Nat} (hx : x = c (s.1 + 1)) (h : ¬ ((97 ≤ x ∧ x ≤ 122) ∨ (65 ≤ x ∧ x ≤ 90))) (hs : s.2.1 < 40) (hp : p = s.1 + 1) : RLU M c s = some (p, s.2.1 + 1, APS M s.2.2 (0, 0)) := by unfold RLU; rw [if_neg (by omega), hp]
theorem RES.x {x y : Int} {o : Option PSt} {t : PSt} (h : RES x o t) (e : y = x) : RES y o t := by subst e; exact h
theorem RES.tk {x a b : Int} {c : Nat → Int} {s t : PSt} (h : RES x (TAK c a s) t) (e : a = b) : RES x (TAK c b s) t := by subst e; exact h
theorem RES.nb {x a b a' b' : Int} {c : Nat → Int} {s t : PSt} (h : RES x (NUB M c a b s) t) (e : a = a') (e2 : b = b') : RES x (NUB M c a' b' s) t := by subst e; subst e2; exact h
theorem RNB.n {c : Nat → Int} {s : PSt} (h : 40 ≤ s.2.1) : RNB M c s = none := by unfold RNB; rw [if_pos h]
theorem RNB.y {c : Nat → Int} {s : PSt} (h : s.2.1 < 40) : RNB M c s = NUB M c 1 999 (s.1, s.2.1 + 1, s.2.2) := by unfold RNB; rw [if_neg (by omega)]
theorem ROV.n0 {c : Nat → Int} {S : PSt → Option PSt} {s : PSt} (h : 40 ≤ s.2.1) : ROV M c S s = none := by unfold ROV; rw [if_pos h]
theorem ROV.n1 {c : Nat → Int} {S : PSt → Option PSt} {s : PSt} (h : s.2.1 < 40) (e : S (s.1 + 1, s.2.1 + 1, s.2.2) = none) : ROV M c S s = none := by unfold ROV; rw [if_neg (by omega), e]; rfl
theorem ROV.n2 {c : Nat → Int} {S : PSt → Option PSt} {s t : PSt} (h : s.2.1 < 40) (e : S (s.1 + 1, s.2.1 + 1, s.2.2) = some t) (e2 : TAK c 44 t = none) : ROV M c S s = none := by
  unfold ROV; rw [if_neg (by omega), e]
  show (TAK c 44 t).bind _ = none
  rw [e2]; rfl
theorem ROV.n3 {c : Nat → Int} {S : PSt → Option PSt} {s t t2 : PSt} (h : s.2.1 < 40) (e : S (s.1 + 1, s.2.1 + 1, s.2.2) = some t) (e2 : TAK c 44 t = some t2) (e3 : S t2 = none) : ROV M c S s = none := by
  unfold ROV; rw [if_neg (by omega), e]
  show (TAK c 44 t).bind _ = none
  rw [e2]
  show (S t2).bind _ = none
  rw [e3]; rfl
theorem ROV.y {c : Nat → Int} {S : PSt → Option PSt} {s t t2 t3 : PSt} (h : s.2.1 < 40) (e : S (s.1 + 1, s.2.1 + 1, s.2.2) = some t) (e2 : TAK c 44 t = some t2) (e3 : S t2 = some t3) : ROV M c S s = (TAK c 93 t3).bind (fun t => NUB M c 4 8 (SKP c t.1, t.2)) := by
  unfold ROV; rw [if_neg (by omega), e]
  show (TAK c 44 t).bind _ = _
  rw [e2]
  show (S t2).bind _ = _
  rw [e3]; rfl
theorem NUB.z {c : Nat → Int} {k m : Int} {s : PSt} (h : ¬ (48 ≤ c s.1 ∧ c s.1 ≤ 57)) : NUB M c k m s = none := by
  unfold NUB
  have : DGF c 4 s.1 = 0 := by
    show (if 48 ≤ c s.1 ∧ c s.1 ≤ 57 then DGF c 3 (s.1 + 1) + 1 else 0) = 0
    rw [if_neg h]
  rw [if_neg (by rw [this]; omega)]
theorem RDT.ap {R : RT} {I I1 : IT} {r o : Nat} {s : PSt} {a b a' b' : Int} (hs : RDT R I r = s) (z : rA R r 0 = o) (e4 : I1 r = I r) (h : STL R I1 o = APS M (STL R I o) (a, b)) (ha : a = a') (hb : b = b') : RDT R I1 r = (s.1, s.2.1, APS M s.2.2 (a', b')) := by
  subst ha; subst hb
  exact RDT.pt hs z e4 (by rw [h, RDT.c3 hs z])
theorem RDT.z0 {R : RT} {I : IT} {r o : Nat} (e4 : (I r 4).toInt = 0) (e5 : (I r 5).toInt = 0) (z : rA R r 0 = o) (e2 : (I o 2).toInt = 0) : RDT R I r = (0, 0, []) := by
  unfold RDT STL
  rw [e4, e5, z, e2]; rfl
theorem RDA.y {c : Nat → Int} {s t : PSt} {l : List (Int × Int)} {x : Int} (h : RSU M c (RPT M c 6) s = some t) (hs : s = (0, 0, [])) (hx : x = c (SKP c t.1)) (h1 : x = -1) (hl : l = t.2.2) : RDA M c = some l := by
  subst hs; unfold RDA
  rw [h]
  show (if c (SKP c t.1) = -1 then _ else _) = _
  rw [if_pos (by omega), hl]
theorem RDA.n {c : Nat → Int} {s t : PSt} {x : Int} (h : RSU M c (RPT M c 6) s = some t) (hs : s = (0, 0, [])) (hx : x = c (SKP c t.1)) (h1 : x ≠ -1) : RDA M c = none := by
  subst hs; unfold RDA
  rw [h]
  show (if c (SKP c t.1) = -1 then _ else _) = _
  rw [if_neg (by omega)]
theorem RDA.n0 {c : Nat → Int} {s : PSt} (h : RSU M c (RPT M c 6) s = none) (hs : s = (0, 0, [])) : RDA M c = none := by
  subst hs; unfold RDA
  rw [h]; rfl
end Lxp
def KAD (x : Int32) (w : Nat → Int32) (k : Int32) : Prop := 0 ≤ k.toInt → k.toInt < 160 → w k.toNatClampNeg = x
theorem STL.z {R : RT} {I : IT} {o : Nat} {n : Nat} {l : List (Int × Int)} (h : (I o 2).toInt = 0) (hn : n = 0) : STL R I o = l.take n := by
  subst hn; unfold STL; rw [h]; rfl
theorem STL.cs {R : RT} {I0 I1 I2 : IT} {o o' a b : Nat} {k k' x y : Int32} {n : Int} (h : STL R I1 o = (STL R I0 o').take k.toInt.toNat) (hp : STL R I2 o = APS 160 (STL R I1 o) (x.toInt, y.toInt)) (za : rA R o' 0 = a) (zb : rA R o' 1 = b) (hx : KAD x (I1 a) k) (ea : I1 a = I0 a) (hy : KAD y (I1 b) k) (eb : I1 b = I0 b) (hn : (I0 o' 2).toInt = n) (h0 : 0 ≤ k.toInt) (h1 : k.toInt < n) (h160 : n ≤ 160) (hk : k'.toInt = k.toInt + 1) : STL R I2 o = (STL R I0 o').take k'.toInt.toNat := by
  have n0 := ncz h0
  have l : (STL R I0 o').length = n.toNat := by rw [STL.len, hn]
  have hx := hx h0 (by omega)
  have hy := hy h0 (by omega)
  have e : (STL R I0 o')[k.toInt.toNat]? = some (x.toInt, y.toInt) := by
    unfold STL
    rw [List.getElem?_map, List.getElem?_range (by omega), za, zb, ← ea, ← eb, show k.toInt.toNat = k.toNatClampNeg from by omega]
    show some ((I1 a k.toNatClampNeg).toInt, (I1 b k.toNatClampNeg).toInt) = _
    rw [hx, hy]
  rw [hp, h]
  unfold APS
  rw [if_pos (by rw [List.length_take]; omega), show k'.toInt.toNat = k.toInt.toNat + 1 from by omega, List.take_succ, e]; rfl
theorem STL.ce {R : RT} {I0 I1 : IT} {o o' : Nat} {k : Int} (h : STL R I1 o = (STL R I0 o').take k.toNat) (h1 : (I0 o' 2).toInt ≤ k) : STL R I1 o = STL R I0 o' := by
  rw [h, List.take_of_length_le (by rw [STL.len]; omega)]
/-- the first k signs of a state laid into another -/
def SLL (R : RT) (I' I : IT) (r0 r1 : Nat) (k : Int) : Prop := ∀ j : Nat, j < 8 → (j : Int) < k → STL R I' (SA R r0 j) = STL R I (SA R r1 j) ∧ 0 ≤ (I' (SA R r0 j) 2).toInt ∧ (I' (SA R r0 j) 2).toInt ≤ 160
def SG3 (R : RT) (st j a : Nat) : Prop := a = SA R st j ∨ a = rA R (SA R st j) 0 ∨ a = rA R (SA R st j) 1
theorem SG3.u {T : Nat → Nat} {R : RT} (hU : UPR T R) {st st' i j a : Nat} (gg : GG T R st) (gg' : GG T R st') (hi : i < 8) (hj : j < 8) (h : SG3 R st i a) (h' : SG3 R st' j a) : st = st' ∧ i = j := by
  obtain ⟨r1, r2, r3⟩ := gg
  obtain ⟨q1, q2, q3⟩ := gg'
  obtain ⟨o1, o2, ⟨o3, o4⟩, o5, o6⟩ := r3 i hi
  obtain ⟨p1, p2, ⟨p3, p4⟩, p5, p6⟩ := q3 j hj
  have key : SA R st i = SA R st' j → st = st' ∧ i = j := fun e => by
    have e2 := hU (rA R st 10) i (rA R st' 10) j _ (Or.inr (Or.inl o2)) o1 (by rw [e]; exact p1)
    refine ⟨?_, e2.2⟩
    have q1' : R st' 10 = some (rA R st 10) := by rw [e2.1]; exact q1
    exact (hU st 10 st' 10 _ (Or.inr (Or.inr (Or.inr (by omega)))) r1 q1').1
  have arr : ∀ {c k c' k' b : Nat}, T b = 20 → R c k = some b → R c' k' = some b → c = c' := fun hb h1 h2 => (hU _ _ _ _ _ (t20 hb) h1 h2).1
  rcases h with h | h | h <;> rcases h' with h' | h' | h'
  · exact key (h.symm.trans h')
  · have e : SA R st i = rA R (SA R st' j) 0 := h.symm.trans h'
    exfalso; rw [← e] at p4; omega
  · have e : SA R st i = rA R (SA R st' j) 1 := h.symm.trans h'
    exfalso; rw [← e] at p6; omega
  · have e : rA R (SA R st i) 0 = SA R st' j := h.symm.trans h'
    exfalso; rw [e] at o4; omega
  · have e : rA R (SA R st i) 0 = rA R (SA R st' j) 0 := h.symm.trans h'
    exact key (arr o4 o3 (by rw [e]; exact p3))
  · have e : rA R (SA R st i) 0 = rA R (SA R st' j) 1 := h.symm.trans h'
    exact key (arr o4 o3 (by rw [e]; exact p5))
  · have e : rA R (SA R st i) 1 = SA R st' j := h.symm.trans h'
    exfalso; rw [e] at o6; omega
  · have e : rA R (SA R st i) 1 = rA R (SA R st' j) 0 := h.symm.trans h'
    exact key (arr o6 o5 (by rw [e]; exact p3))
  · have e : rA R (SA R st i) 1 = rA R (SA R st' j) 1 := h.symm.trans h'
    exact key (arr o6 o5 (by rw [e]; exact p5))
theorem SG3.ty {T : Nat → Nat} {R : RT} {st i a : Nat} (gg : GG T R st) (hi : i < 8) (h : SG3 R st i a) : T a = 8 ∨ T a = 20 ∧ ∃ c k, R c k = some a ∧ T c = 8 := by
  obtain ⟨o1, o2, ⟨o3, o4⟩, o5, o6⟩ := gg.2.2 i hi
  rcases h with h | h | h
  · left; rw [h]; exact o2
  · right; rw [h]; exact ⟨o4, _, 0, o3, o2⟩
  · right; rw [h]; exact ⟨o6, _, 1, o5, o2⟩
/-- the other state's signs are none of its cells -/
theorem OWN.ns {T : Nat → Nat} {R : RT} (hU : UPR T R) {r0 r1 j a : Nat} (g : GS T R r0) (gg : GG T R r0) (gg' : GG T R r1) (hn : r0 ≠ r1) (hj : j < 8) (h : SG3 R r1 j a) : ¬ OWN R r0 a := by
  intro q
  have ty := h.ty gg' hj
  have ho : T a = 20 → ∀ c k, R c k = some a → T c = 8 := fun t c k hc => by
    rcases ty with z | ⟨-, c', k', hc', z⟩
    · omega
    · have := (hU c k c' k' a (t20 t) hc hc').1
      rw [this]; exact z
  obtain ⟨g1, ⟨g2, g3⟩, g4, g5, g6, g7, g8, g9⟩ := g
  rcases q with (q | q | ⟨i, hi, q | q⟩) | ⟨i, hi, q | q⟩ | ⟨i, hi, q⟩ | ⟨i, hi, q⟩
  · rw [q] at ty; omega
  · subst q
    have := ho g3 r0 6 g2
    omega
  · have f := (g7 i hi).2
    rw [q] at ty; have := f.1; omega
  · have f := (g7 i hi).2
    subst q
    have := ho f.2.2 _ 1 f.2.1
    have := f.1; omega
  · have f := (g8 i hi).2
    rw [q] at ty; have := f.1; omega
  · have f := (g8 i hi).2
    subst q
    have := ho f.2.2 _ 1 f.2.1
    have := f.1; omega
  · have f := (g9 i hi).2
    rw [q] at ty; omega
  · exact hn (SG3.u hU gg gg' hi hj q h).1
theorem SLL.at {R : RT} {I I1 I2 : IT} {r0 r1 : Nat} {k : Int} (h : SLL R I1 I r0 r1 k) (f : ∀ a j, j < 8 → SG3 R r0 j a → I2 a = I1 a) : SLL R I2 I r0 r1 k := fun j hj hk => by
  obtain ⟨h1, h2⟩ := h j hj hk
  rw [STL.fr rfl rfl (by rw [f _ j hj (Or.inl rfl)]) (f _ j hj (Or.inr (Or.inl rfl))) (f _ j hj (Or.inr (Or.inr rfl))), f _ j hj (Or.inl rfl)]
  exact ⟨h1, h2⟩
theorem SLL.z {R : RT} {I' I : IT} {r0 r1 : Nat} {k : Int} (h : k = 0) : SLL R I' I r0 r1 k := fun j _ hj => by omega
theorem SLL.s {T : Nat → Nat} {R : RT} {I I1 I2 : IT} {L L1 L2 : LT} {W W2 : List (Nat × Nat)} {r0 r1 s s' a b : Nat} {k k' : Int32} (h : SLL R I1 I r0 r1 k.toInt) (hU : UPR T R) (g : GS T R r0) (gg : GG T R r0) (gg' : GG T R r1) (hn : r0 ≠ r1) (c1 : Chg (OWN R r0) T W I L I1 L1) (c2 : Chg (SL [s, a, b]) T W2 I1 L1 I2 L2) (hs : SA R r0 k.toNatClampNeg = s) (hs' : SA R r1 k.toNatClampNeg = s') (z0 : rA R s 0 = a) (z1 : rA R s 1 = b) (e : STL R I2 s = STL R I1 s') (bd : 0 ≤ (I2 s 2).toInt ∧ (I2 s 2).toInt ≤ 160) (h0 : 0 ≤ k.toInt) (h8 : k.toInt < 8) (hk : k'.toInt = k.toInt + 1) : SLL R I2 I r0 r1 k'.toInt := fun j hj hjk => by
  have n0 := ncz h0
  have hk8 : k.toNatClampNeg < 8 := by omega
  by_cases q : j = k.toNatClampNeg
  · subst q
    rw [hs, hs', e]
    refine ⟨?_, bd⟩
    subst hs'
    have f : ∀ a, SG3 R r1 k.toNatClampNeg a → I1 a = I a := fun a ha => Chg.at c1 (OWN.ns hU g gg gg' hn hk8 ha)
    exact STL.fr rfl rfl (by rw [f _ (Or.inl rfl)]) (f _ (Or.inr (Or.inl rfl))) (f _ (Or.inr (Or.inr rfl)))
  · obtain ⟨h1, h2⟩ := h j hj (by omega)
    subst hs; subst z0; subst z1
    have f : ∀ a, SG3 R r0 j a → I2 a = I1 a := fun a ha => Chg.at c2 (fun w => by
      simp only [SL, List.mem_cons, List.not_mem_nil, or_false] at w
      exact q (SG3.u hU gg gg hj hk8 ha w).2)
    rw [STL.fr rfl rfl (by rw [f _ (Or.inl rfl)]) (f _ (Or.inr (Or.inl rfl))) (f _ (Or.inr (Or.inr rfl))), f _ (Or.inl rfl)]
    exact ⟨h1, h2⟩
section AutoP
variable {d : Nat} {q : mm_T} {mc ms : Nat} {Post : Po} {V : V_T} {pc pc2 : Nat} {lv : List (Nat × Value)} {r : List Value} {ck sk : Nat}
theorem z_imul10 (C : Cl d q mc ms Post V) {M : Mm} {x y : Int32} (hi : cdf q.2.2.2.2.2.2 pc = some (.imul, 1)) (hp : pc + 1 = pc2) (b : x.toInt = 10 ∧ 0 ≤ y.toInt ∧ y.toInt ≤ 99999) (h : ∀ w : Int32, w.toInt = 10 * y.toInt → V pc2 lv (.int w :: r) M ck sk) : V pc lv (.int y :: .int x :: r) M ck sk := k_imul C hi hp (h _ (by rw [ii_mul (by rw [b.1]; omega), b.1]))
end AutoP
theorem s_X4_next_x {d : Nat} {T N : Nat → Nat} {I : IT} {L : LT} {R : RT} {A B : Nat → Prop} {r0 : Nat} (hS : SUB B A) (hI : IX A T I) (H_r0 : (hs_Rd T N R A B) r0) (hp0 : 0 ≤ (I r0 4).toInt) (hp1 : (I r0 4).toInt ≤ (I r0 3).toInt) (hp2 : (I r0 3).toInt ≤ 400) (hp3 : 0 ≤ (I r0 5).toInt) : Ex (d + 2) 63 [.ref r0] (T, N, I, L, R) 0 0 (pI T N R (fun x9 I9 L9 => (x9.toInt = RCH R I r0 (SKP (RCH R I r0) (RDT R I r0).1)) ∧ (RDT R I9 r0 = (SKP (RCH R I r0) (RDT R I r0).1, (RDT R I r0).2)) ∧ (x9.toInt ≠ -1 → (I9 r0 4).toInt < (I r0 3).toInt) ∧ (0 ≤ (I9 r0 4).toInt ∧ (I9 r0 4).toInt ≤ (I r0 3).toInt) ∧ (IX A T I9 ∧ Chg (SL [r0]) T [(5, 4)] I L I9 L9))) := by
  refine ⟨_, rfl, Nat.le_of_ble_eq_true rfl, fun V C S => ?_⟩
  show V 0 [(0, .ref r0)] [] (T, N, I, L, R) 0 0
  obtain ⟨T_r0, A_r0, B_r0, ⟨r0_0, R_r0_0, H_r0_0⟩, ⟨r0_2, R_r0_2, H_r0_2⟩⟩ := id H_r0
  have z_r0_0 : rA R r0 0 = r0_0 := rA_e R_r0_0
  have z_r0_2 : rA R r0 2 = r0_2 := rA_e R_r0_2
  obtain ⟨T_r0_0, A_r0_0, B_r0_0, ⟨r0_0_0, R_r0_0_0, H_r0_0_0⟩, ⟨r0_0_1, R_r0_0_1, H_r0_0_1⟩⟩ := id H_r0_0
  have z_r0_0_0 : rA R r0_0 0 = r0_0_0 := rA_e R_r0_0_0
  have z_r0_0_1 : rA R r0_0 1 = r0_0_1 := rA_e R_r0_0_1
  obtain ⟨T_r0_0_0, N_r0_0_0, A_r0_0_0⟩ := id H_r0_0_0
  obtain ⟨T_r0_0_1, N_r0_0_1, A_r0_0_1⟩ := id H_r0_0_1
  obtain ⟨T_r0_2, N_r0_2, A_r0_2⟩ := id H_r0_2
  try simp only [z_r0_0, z_r0_2, z_r0_0_0, z_r0_0_1] at hp0
  try simp only [z_r0_0, z_r0_2, z_r0_0_0, z_r0_0_1] at hp1
  try simp only [z_r0_0, z_r0_2, z_r0_0_0, z_r0_0_1] at hp2
  try simp only [z_r0_0, z_r0_2, z_r0_0_0, z_r0_0_1] at hp3
  obtain ⟨w_r0_3, k0_r0_3⟩ : ∃ x, I r0 3 = x := ⟨_, rfl⟩
  have gw_r0_3 := rg w_r0_3
  obtain ⟨w_r0_4, k0_r0_4⟩ : ∃ x, I r0 4 = x := ⟨_, rfl⟩
  have gw_r0_4 := rg w_r0_4
  obtain ⟨w_r0_5, k0_r0_5⟩ : ∃ x, I r0 5 = x := ⟨_, rfl⟩
  have gw_r0_5 := rg w_r0_5
  try simp only [k0_r0_3, k0_r0_4, k0_r0_5] at hp0
  try simp only [k0_r0_3, k0_r0_4, k0_r0_5] at hp1
  try simp only [k0_r0_3, k0_r0_4, k0_r0_5] at hp2
  try simp only [k0_r0_3, k0_r0_4, k0_r0_5] at hp3
  have hp4 := ncz (x := w_r0_4) (by omega)
  have J1 : ∀ (nn2 : Nat) (I3 : IT) (L4 : LT) (x7 : Int32), (MN (400 - x7.toInt) nn2) → (IX A T I3) → (Chg (SL [r0]) T [(5, 4)] I L I3 L4) → (I3 r0 4 = x7) → (0 ≤ x7.toInt) → (x7.toInt ≤ 400) → (SKB (RCH R I r0) w_r0_4.toInt.toNat x7.toInt.toNat) → (w_r0_4.toInt ≤ x7.toInt) → (x7.toInt ≤ w_r0_3.toInt) → V 0 [(0, .ref r0)] [] (T, N, I3, L4, R) 0 0 := by
    intro nn2
    induction nn2 using Nat.strongRecOn with
    | _ nn2 ihJ1 =>
      intro I3 L4 x7 hmnn2 hI6 S5 e8 b9 b10 ff0_0 ff0_1 ff0_2
      have gx7 := rg x7
      have e14 := Chg.k S5 T_r0 (by decide) (by decide) k0_r0_3
      have e15 := Chg.k S5 T_r0 (by decide) (by decide) k0_r0_5
      refine k_aload_n C rfl rfl rfl ?_
      refine g_I C rfl rfl rfl T_r0 rfl e8 ?_
      refine k_aload_n C rfl rfl rfl ?_
      refine g_I C rfl rfl rfl T_r0 rfl e14 ?_
      refine b_icmp_ge C (t := 37) rfl rfl rfl (fun c16 => ?_) (fun c16 => ?_)
      · skip
        refine k_aload_n C rfl rfl rfl ?_
        refine g_I C rfl rfl rfl T_r0 rfl e8 ?_
        refine k_aload_n C rfl rfl rfl ?_
        refine g_I C rfl rfl rfl T_r0 rfl e14 ?_
        refine b_icmp_ge C (t := 59) rfl rfl rfl (fun c17 => ?_) (fun c17 => ?_)
        · skip
          refine z_iconst C (z := -1) rfl rfl rfl (fun x18 ex18 => ?_)
          exact k_iret C rfl (Or.inl rfl) (Nat.le_of_ble_eq_true rfl) (Nat.le_of_ble_eq_true rfl) ⟨_, _, _, rfl, rfl, by (try simp only [z_r0_0, z_r0_2, z_r0_0_0, z_r0_0_1]); first | (exfalso; omega) | (have hsk : SKP (RCH R I r0) (RDT R I r0).1 = x7.toInt.toNat := SKB.e (by unfold RDT; rw [k0_r0_4]; exact ff0_0) (by first | (rw [← hr]; omega) | (rw [← RCH.no (x := -1) (congrArg Int32.toInt k0_r0_3) (by omega) rfl]; omega)) (RCH.c40 (by rw [k0_r0_3]; omega)); rw [hsk]; first | exact hr9 | exact RCH.no (congrArg Int32.toInt k0_r0_3) (by omega) (by omega)), by (try simp only [z_r0_0, z_r0_2, z_r0_0_0, z_r0_0_1]); first | (exfalso; omega) | (have hsk : SKP (RCH R I r0) (RDT R I r0).1 = x7.toInt.toNat := SKB.e (by unfold RDT; rw [k0_r0_4]; exact ff0_0) (by first | (rw [← hr]; omega) | (rw [← RCH.no (x := -1) (congrArg Int32.toInt k0_r0_3) (by omega) rfl]; omega)) (RCH.c40 (by rw [k0_r0_3]; omega)); rw [hsk]; exact RDT.nx rfl z_r0_0 (by rw [e15, k0_r0_5]) (STL.fr z_r0_0_0 z_r0_0_1 (congrFun (Chg.at ((Chg.mono S5 (by decide)) : Chg (SL [r0]) T [(5, 4)] I L I3 L4) (nm_1 (t_nq T_r0_0 T_r0 (by decide)))) 2) (Chg.at ((Chg.mono S5 (by decide)) : Chg (SL [r0]) T [(5, 4)] I L I3 L4) (nm_1 (t_nq T_r0_0_0 T_r0 (by decide)))) (Chg.at ((Chg.mono S5 (by decide)) : Chg (SL [r0]) T [(5, 4)] I L I3 L4) (nm_1 (t_nq T_r0_0_1 T_r0 (by decide))))) (by rw [e8]; omega)), by first | omega | (simp only [e14, e15, e8, k0_r0_3, k0_r0_4, k0_r0_5, and_true, true_and, or_true, true_or, and_false, false_and, or_false, false_or] <;> omega), by first | omega | (simp only [e14, e15, e8, k0_r0_3, k0_r0_4, k0_r0_5, and_true, true_and, or_true, true_or, and_false, false_and, or_false, false_or] <;> omega), hI6, (by (try simp only [z_r0_0, z_r0_2, z_r0_0_0, z_r0_0_1]); exact (Chg.mono S5 (by decide)))⟩
        refine k_aload_n C rfl rfl rfl ?_
        refine k_aload_n C rfl rfl rfl ?_
        refine g_I C rfl rfl rfl T_r0 rfl e8 ?_
        refine c_VI C (s_X4_byteAt_x hS hI6 H_r0) rfl rfl rfl rfl rfl ⟨_, rfl, rfl, T_r0, Nat.le_of_ble_eq_true rfl⟩ rfl rfl (Nat.le_of_ble_eq_true rfl) (Nat.le_of_ble_eq_true rfl) (Nat.le_of_ble_eq_true rfl) ?_
        rintro x19 _ _ ⟨p0x19, rfl, rfl⟩
        have gx19 := rg x19
        try simp only [z_r0_0, z_r0_2, z_r0_0_0, z_r0_0_1] at p0x19
        try simp only [e14, e15, e8] at p0x19
        try have q0x19 := congrArg Int32.toInt p0x19
        have hr9 := RCH.at (j := x7.toInt.toNat) z_r0_2 (Chg.at ((Chg.mono S5 (by decide)) : Chg (SL [r0]) T [(5, 4)] I L I3 L4) (nm_1 (t_nq T_r0_2 T_r0 (by decide)))) p0x19 (by omega) (congrArg Int32.toInt k0_r0_3) (by omega) (by omega) rfl
        refine k_goto C (pc2 := 60) rfl rfl ?_
        exact k_iret C rfl (Or.inl rfl) (Nat.le_of_ble_eq_true rfl) (Nat.le_of_ble_eq_true rfl) ⟨_, _, _, rfl, rfl, by (try simp only [z_r0_0, z_r0_2, z_r0_0_0, z_r0_0_1]); first | (exfalso; omega) | (have hsk : SKP (RCH R I r0) (RDT R I r0).1 = x7.toInt.toNat := SKB.e (by unfold RDT; rw [k0_r0_4]; exact ff0_0) (by first | (rw [← hr]; omega) | (rw [← RCH.no (x := -1) (congrArg Int32.toInt k0_r0_3) (by omega) rfl]; omega)) (RCH.c40 (by rw [k0_r0_3]; omega)); rw [hsk]; first | exact hr9 | exact RCH.no (congrArg Int32.toInt k0_r0_3) (by omega) (by omega)), by (try simp only [z_r0_0, z_r0_2, z_r0_0_0, z_r0_0_1]); first | (exfalso; omega) | (have hsk : SKP (RCH R I r0) (RDT R I r0).1 = x7.toInt.toNat := SKB.e (by unfold RDT; rw [k0_r0_4]; exact ff0_0) (by first | (rw [← hr]; omega) | (rw [← RCH.no (x := -1) (congrArg Int32.toInt k0_r0_3) (by omega) rfl]; omega)) (RCH.c40 (by rw [k0_r0_3]; omega)); rw [hsk]; exact RDT.nx rfl z_r0_0 (by rw [e15, k0_r0_5]) (STL.fr z_r0_0_0 z_r0_0_1 (congrFun (Chg.at ((Chg.mono S5 (by decide)) : Chg (SL [r0]) T [(5, 4)] I L I3 L4) (nm_1 (t_nq T_r0_0 T_r0 (by decide)))) 2) (Chg.at ((Chg.mono S5 (by decide)) : Chg (SL [r0]) T [(5, 4)] I L I3 L4) (nm_1 (t_nq T_r0_0_0 T_r0 (by decide)))) (Chg.at ((Chg.mono S5 (by decide)) : Chg (SL [r0]) T [(5, 4)] I L I3 L4) (nm_1 (t_nq T_r0_0_1 T_r0 (by decide))))) (by rw [e8]; omega)), by first | omega | (simp only [e14, e15, e8, k0_r0_3, k0_r0_4, k0_r0_5, and_true, true_and, or_true, true_or, and_false, false_and, or_false, false_or] <;> omega), by first | omega | (simp only [e14, e15, e8, k0_r0_3, k0_r0_4, k0_r0_5, and_true, true_and, or_true, true_or, and_false, false_and, or_false, false_or] <;> omega), hI6, (by (try simp only [z_r0_0, z_r0_2, z_r0_0_0, z_r0_0_1]); exact (Chg.mono S5 (by decide)))⟩
      refine k_aload_n C rfl rfl rfl ?_
      refine k_aload_n C rfl rfl rfl ?_
      refine g_I C rfl rfl rfl T_r0 rfl e8 ?_
      refine c_VI C (s_X4_byteAt_x hS hI6 H_r0) rfl rfl rfl rfl rfl ⟨_, rfl, rfl, T_r0, Nat.le_of_ble_eq_true rfl⟩ rfl rfl (Nat.le_of_ble_eq_true rfl) (Nat.le_of_ble_eq_true rfl) (Nat.le_of_ble_eq_true rfl) ?_
      rintro x20 _ _ ⟨p0x20, rfl, rfl⟩
      have gx20 := rg x20
      try simp only [z_r0_0, z_r0_2, z_r0_0_0, z_r0_0_1] at p0x20
      try simp only [e14, e15, e8] at p0x20
      try have q0x20 := congrArg Int32.toInt p0x20
      have hb := p0x20; have hr := RCH.at (j := x7.toInt.toNat) z_r0_2 (Chg.at ((Chg.mono S5 (by decide)) : Chg (SL [r0]) T [(5, 4)] I L I3 L4) (nm_1 (t_nq T_r0_2 T_r0 (by decide)))) hb (by omega) (congrArg Int32.toInt k0_r0_3) (by omega) (by omega) rfl
      refine z_bipush C (z := 32) rfl rfl rfl (fun x21 ex21 => ?_)
      refine b_icmp_ne C (t := 37) rfl rfl rfl (fun c22 => ?_) (fun c22 => ?_)
      · skip
        refine k_aload_n C rfl rfl rfl ?_
        refine g_I C rfl rfl rfl T_r0 rfl e8 ?_
        refine k_aload_n C rfl rfl rfl ?_
        refine g_I C rfl rfl rfl T_r0 rfl e14 ?_
        refine b_icmp_ge C (t := 59) rfl rfl rfl (fun c23 => ?_) (fun c23 => ?_)
        · skip
          refine z_iconst C (z := -1) rfl rfl rfl (fun x24 ex24 => ?_)
          exact k_iret C rfl (Or.inl rfl) (Nat.le_of_ble_eq_true rfl) (Nat.le_of_ble_eq_true rfl) ⟨_, _, _, rfl, rfl, by (try simp only [z_r0_0, z_r0_2, z_r0_0_0, z_r0_0_1]); first | (exfalso; omega) | (have hsk : SKP (RCH R I r0) (RDT R I r0).1 = x7.toInt.toNat := SKB.e (by unfold RDT; rw [k0_r0_4]; exact ff0_0) (by first | (rw [← hr]; omega) | (rw [← RCH.no (x := -1) (congrArg Int32.toInt k0_r0_3) (by omega) rfl]; omega)) (RCH.c40 (by rw [k0_r0_3]; omega)); rw [hsk]; first | exact hr9 | exact RCH.no (congrArg Int32.toInt k0_r0_3) (by omega) (by omega)), by (try simp only [z_r0_0, z_r0_2, z_r0_0_0, z_r0_0_1]); first | (exfalso; omega) | (have hsk : SKP (RCH R I r0) (RDT R I r0).1 = x7.toInt.toNat := SKB.e (by unfold RDT; rw [k0_r0_4]; exact ff0_0) (by first | (rw [← hr]; omega) | (rw [← RCH.no (x := -1) (congrArg Int32.toInt k0_r0_3) (by omega) rfl]; omega)) (RCH.c40 (by rw [k0_r0_3]; omega)); rw [hsk]; exact RDT.nx rfl z_r0_0 (by rw [e15, k0_r0_5]) (STL.fr z_r0_0_0 z_r0_0_1 (congrFun (Chg.at ((Chg.mono S5 (by decide)) : Chg (SL [r0]) T [(5, 4)] I L I3 L4) (nm_1 (t_nq T_r0_0 T_r0 (by decide)))) 2) (Chg.at ((Chg.mono S5 (by decide)) : Chg (SL [r0]) T [(5, 4)] I L I3 L4) (nm_1 (t_nq T_r0_0_0 T_r0 (by decide)))) (Chg.at ((Chg.mono S5 (by decide)) : Chg (SL [r0]) T [(5, 4)] I L I3 L4) (nm_1 (t_nq T_r0_0_1 T_r0 (by decide))))) (by rw [e8]; omega)), by first | omega | (simp only [e14, e15, e8, k0_r0_3, k0_r0_4, k0_r0_5, and_true, true_and, or_true, true_or, and_false, false_and, or_false, false_or] <;> omega), by first | omega | (simp only [e14, e15, e8, k0_r0_3, k0_r0_4, k0_r0_5, and_true, true_and, or_true, true_or, and_false, false_and, or_false, false_or] <;> omega), hI6, (by (try simp only [z_r0_0, z_r0_2, z_r0_0_0, z_r0_0_1]); exact (Chg.mono S5 (by decide)))⟩
        refine k_aload_n C rfl rfl rfl ?_
        refine k_aload_n C rfl rfl rfl ?_
        refine g_I C rfl rfl rfl T_r0 rfl e8 ?_
        refine c_VI C (s_X4_byteAt_x hS hI6 H_r0) rfl rfl rfl rfl rfl ⟨_, rfl, rfl, T_r0, Nat.le_of_ble_eq_true rfl⟩ rfl rfl (Nat.le_of_ble_eq_true rfl) (Nat.le_of_ble_eq_true rfl) (Nat.le_of_ble_eq_true rfl) ?_
        rintro x25 _ _ ⟨p0x25, rfl, rfl⟩
        have gx25 := rg x25
        try simp only [z_r0_0, z_r0_2, z_r0_0_0, z_r0_0_1] at p0x25
        try simp only [e14, e15, e8] at p0x25
        try have q0x25 := congrArg Int32.toInt p0x25
        have hr9 := RCH.at (j := x7.toInt.toNat) z_r0_2 (Chg.at ((Chg.mono S5 (by decide)) : Chg (SL [r0]) T [(5, 4)] I L I3 L4) (nm_1 (t_nq T_r0_2 T_r0 (by decide)))) p0x25 (by omega) (congrArg Int32.toInt k0_r0_3) (by omega) (by omega) rfl
        refine k_goto C (pc2 := 60) rfl rfl ?_
        exact k_iret C rfl (Or.inl rfl) (Nat.le_of_ble_eq_true rfl) (Nat.le_of_ble_eq_true rfl) ⟨_, _, _, rfl, rfl, by (try simp only [z_r0_0, z_r0_2, z_r0_0_0, z_r0_0_1]); first | (exfalso; omega) | (have hsk : SKP (RCH R I r0) (RDT R I r0).1 = x7.toInt.toNat := SKB.e (by unfold RDT; rw [k0_r0_4]; exact ff0_0) (by first | (rw [← hr]; omega) | (rw [← RCH.no (x := -1) (congrArg Int32.toInt k0_r0_3) (by omega) rfl]; omega)) (RCH.c40 (by rw [k0_r0_3]; omega)); rw [hsk]; first | exact hr9 | exact RCH.no (congrArg Int32.toInt k0_r0_3) (by omega) (by omega)), by (try simp only [z_r0_0, z_r0_2, z_r0_0_0, z_r0_0_1]); first | (exfalso; omega) | (have hsk : SKP (RCH R I r0) (RDT R I r0).1 = x7.toInt.toNat := SKB.e (by unfold RDT; rw [k0_r0_4]; exact ff0_0) (by first | (rw [← hr]; omega) | (rw [← RCH.no (x := -1) (congrArg Int32.toInt k0_r0_3) (by omega) rfl]; omega)) (RCH.c40 (by rw [k0_r0_3]; omega)); rw [hsk]; exact RDT.nx rfl z_r0_0 (by rw [e15, k0_r0_5]) (STL.fr z_r0_0_0 z_r0_0_1 (congrFun (Chg.at ((Chg.mono S5 (by decide)) : Chg (SL [r0]) T [(5, 4)] I L I3 L4) (nm_1 (t_nq T_r0_0 T_r0 (by decide)))) 2) (Chg.at ((Chg.mono S5 (by decide)) : Chg (SL [r0]) T [(5, 4)] I L I3 L4) (nm_1 (t_nq T_r0_0_0 T_r0 (by decide)))) (Chg.at ((Chg.mono S5 (by decide)) : Chg (SL [r0]) T [(5, 4)] I L I3 L4) (nm_1 (t_nq T_r0_0_1 T_r0 (by decide))))) (by rw [e8]; omega)), by first | omega | (simp only [e14, e15, e8, k0_r0_3, k0_r0_4, k0_r0_5, and_true, true_and, or_true, true_or, and_false, false_and, or_false, false_or] <;> omega), by first | omega | (simp only [e14, e15, e8, k0_r0_3, k0_r0_4, k0_r0_5, and_true, true_and, or_true, true_or, and_false, false_and, or_false, false_or] <;> omega), hI6, (by (try simp only [z_r0_0, z_r0_2, z_r0_0_0, z_r0_0_1]); exact (Chg.mono S5 (by decide)))⟩
      refine k_aload_n C rfl rfl rfl ?_
      refine k_dup C rfl rfl rfl ?_
      refine g_I C rfl rfl rfl T_r0 rfl e8 ?_
      refine z_iconst C (z := 1) rfl rfl rfl (fun x26 ex26 => ?_)
      refine z_iadd C rfl rfl ⟨by omega, by omega⟩ (fun x27 ex27 => ?_)
      refine z_pI C rfl rfl rfl T_r0 (Or.inr rfl) rfl (fun I28 uI28 => ?_)
      have hI28 : IX A T I28 := IX.f hI6 T_r0 (boX.tr (by decide) (by decide)) uI28
      have S29 : Chg (SL [r0]) T [(5, 4)] I3 L4 I28 L4 := Chg.f List.mem_cons_self T_r0 uI28
      have e30 := u2_j uI28 (by decide) e14
      have e31 := u2_j uI28 (by decide) e15
      have e32 := u2_e uI28
      refine k_goto C (pc2 := 0) rfl rfl ?_
      refine k_sub S [(0, .ref r0)] (List.forall_mem_cons.mpr ⟨List.mem_of_getElem? (i := 0) rfl, fun _ h => nomatch h⟩) ?_
      exact ihJ1 _ (MN.lt hmnn2 (by omega) (by omega)) I28 L4 x27 rfl hI28 (Chg.cons S5 (Chg.mono (Chg.up S29 (List.forall_mem_cons.mpr ⟨List.mem_of_getElem? (i := 0) rfl, fun _ h => nomatch h⟩)) (by decide)) (by decide)) e32 (by omega) (by omega) (by exact SKB.s ff0_0 (by rw [← hr]; omega) (by omega)) (by omega) (by omega)
  refine k_sub S [(0, .ref r0)] (List.forall_mem_cons.mpr ⟨List.mem_of_getElem? (i := 0) rfl, fun _ h => nomatch h⟩) ?_
  exact J1 _ I L w_r0_4 rfl hI Chg.rf k0_r0_4 (by omega) (by omega) (by exact SKB.z rfl) (by omega) (by omega)

theorem s_X4_isThingMore_x {d : Nat} {T N : Nat → Nat} {I : IT} {L : LT} {R : RT} {A B : Nat → Prop} {r0 : Nat} (hS : SUB B A) (hI : IX A T I) (H_r0 : (hs_Rd T N R A B) r0) (hp0 : 0 ≤ (I r0 5).toInt) (hp1 : (I r0 5).toInt ≤ 40) : Ex (d + 1) 62 [.ref r0] (T, N, I, L, R) 0 0 (pI T N R (fun x9 I9 L9 => (0 ≤ x9.toInt) ∧ (x9.toInt ≤ 1) ∧ (RDT R I9 r0 = ((RDT R I r0).1, (RDT R I r0).2.1 + 1, (RDT R I r0).2.2)) ∧ (x9.toInt = 1 → (I r0 5).toInt < 40) ∧ (x9.toInt = 0 → 40 ≤ (I r0 5).toInt) ∧ ((I9 r0 5).toInt = (I r0 5).toInt + 1) ∧ (IX A T I9 ∧ Chg (SL [r0]) T [(5, 5)] I L I9 L9))) := by
  refine ⟨_, rfl, Nat.le_of_ble_eq_true rfl, fun V C S => ?_⟩
  show V 0 [(0, .ref r0)] [] (T, N, I, L, R) 0 0
  obtain ⟨T_r0, A_r0, B_r0, ⟨r0_0, R_r0_0, H_r0_0⟩, ⟨r0_2, R_r0_2, H_r0_2⟩⟩ := id H_r0
  have z_r0_0 : rA R r0 0 = r0_0 := rA_e R_r0_0
  have z_r0_2 : rA R r0 2 = r0_2 := rA_e R_r0_2
  obtain ⟨T_r0_0, A_r0_0, B_r0_0, ⟨r0_0_0, R_r0_0_0, H_r0_0_0⟩, ⟨r0_0_1, R_r0_0_1, H_r0_0_1⟩⟩ := id H_r0_0
  have z_r0_0_0 : rA R r0_0 0 = r0_0_0 := rA_e R_r0_0_0
  have z_r0_0_1 : rA R r0_0 1 = r0_0_1 := rA_e R_r0_0_1
  obtain ⟨T_r0_0_0, N_r0_0_0, A_r0_0_0⟩ := id H_r0_0_0
  obtain ⟨T_r0_0_1, N_r0_0_1, A_r0_0_1⟩ := id H_r0_0_1
  obtain ⟨T_r0_2, N_r0_2, A_r0_2⟩ := id H_r0_2
  try simp only [z_r0_0, z_r0_2, z_r0_0_0, z_r0_0_1] at hp0
  try simp only [z_r0_0, z_r0_2, z_r0_0_0, z_r0_0_1] at hp1
  obtain ⟨w_r0_3, k0_r0_3⟩ : ∃ x, I r0 3 = x := ⟨_, rfl⟩
  have gw_r0_3 := rg w_r0_3
  obtain ⟨w_r0_4, k0_r0_4⟩ : ∃ x, I r0 4 = x := ⟨_, rfl⟩
  have gw_r0_4 := rg w_r0_4
  obtain ⟨w_r0_5, k0_r0_5⟩ : ∃ x, I r0 5 = x := ⟨_, rfl⟩
  have gw_r0_5 := rg w_r0_5
  try simp only [k0_r0_3, k0_r0_4, k0_r0_5] at hp0
  try simp only [k0_r0_3, k0_r0_4, k0_r0_5] at hp1
  refine k_aload_n C rfl rfl rfl ?_
  refine k_dup C rfl rfl rfl ?_
  refine g_I C rfl rfl rfl T_r0 rfl k0_r0_5 ?_
  refine z_iconst C (z := 1) rfl rfl rfl (fun x1 ex1 => ?_)
  refine z_iadd C rfl rfl ⟨by omega, by omega⟩ (fun x2 ex2 => ?_)
  refine z_pI C rfl rfl rfl T_r0 (Or.inr rfl) rfl (fun I3 uI3 => ?_)
  have hI3 : IX A T I3 := IX.f hI T_r0 (boX.tr (by decide) (by decide)) uI3
  have S4 : Chg (SL [r0]) T [(5, 5)] I L I3 L := Chg.f List.mem_cons_self T_r0 uI3
  have e5 := u2_j uI3 (by decide) k0_r0_3
  have e6 := u2_j uI3 (by decide) k0_r0_4
  have e7 := u2_e uI3
  refine k_aload_n C rfl rfl rfl ?_
  refine g_I C rfl rfl rfl T_r0 rfl e7 ?_
  refine z_bipush C (z := 40) rfl rfl rfl (fun x8 ex8 => ?_)
  refine b_icmp_gt C (t := 23) rfl rfl rfl (fun c9 => ?_) (fun c9 => ?_)
  · skip
    refine z_iconst C (z := 0) rfl rfl rfl (fun x10 ex10 => ?_)
    exact k_iret C rfl (Or.inr ⟨rfl, z01 (by omega) (by omega)⟩) (Nat.le_of_ble_eq_true rfl) (Nat.le_of_ble_eq_true rfl) ⟨_, _, _, rfl, rfl, by omega, by omega, by (try simp only [z_r0_0, z_r0_2, z_r0_0_0, z_r0_0_1]); exact RDT.th rfl z_r0_0 (by rw [e6, k0_r0_4]) (STL.fr z_r0_0_0 z_r0_0_1 (congrFun (Chg.at ((Chg.mono (Chg.up S4 (List.forall_mem_cons.mpr ⟨List.mem_of_getElem? (i := 0) rfl, fun _ h => nomatch h⟩)) (by decide)) : Chg (SL [r0]) T [(5, 5)] I L I3 L) (nm_1 (t_nq T_r0_0 T_r0 (by decide)))) 2) (Chg.at ((Chg.mono (Chg.up S4 (List.forall_mem_cons.mpr ⟨List.mem_of_getElem? (i := 0) rfl, fun _ h => nomatch h⟩)) (by decide)) : Chg (SL [r0]) T [(5, 5)] I L I3 L) (nm_1 (t_nq T_r0_0_0 T_r0 (by decide)))) (Chg.at ((Chg.mono (Chg.up S4 (List.forall_mem_cons.mpr ⟨List.mem_of_getElem? (i := 0) rfl, fun _ h => nomatch h⟩)) (by decide)) : Chg (SL [r0]) T [(5, 5)] I L I3 L) (nm_1 (t_nq T_r0_0_1 T_r0 (by decide))))) (by have q := RDT.c2 rfl k0_r0_5 (R := R) (by omega); rw [e7]; omega), by first | omega | (simp only [e5, e6, e7, k0_r0_3, k0_r0_4, k0_r0_5, and_true, true_and, or_true, true_or, and_false, false_and, or_false, false_or] <;> omega), by first | omega | (simp only [e5, e6, e7, k0_r0_3, k0_r0_4, k0_r0_5, and_true, true_and, or_true, true_or, and_false, false_and, or_false, false_or] <;> omega), by first | omega | (simp only [e5, e6, e7, k0_r0_3, k0_r0_4, k0_r0_5, and_true, true_and, or_true, true_or, and_false, false_and, or_false, false_or] <;> omega), hI3, (by (try simp only [z_r0_0, z_r0_2, z_r0_0_0, z_r0_0_1]); exact (Chg.mono (Chg.up S4 (List.forall_mem_cons.mpr ⟨List.mem_of_getElem? (i := 0) rfl, fun _ h => nomatch h⟩)) (by decide)))⟩
  refine z_iconst C (z := 1) rfl rfl rfl (fun x11 ex11 => ?_)
  refine k_goto C (pc2 := 24) rfl rfl ?_
  exact k_iret C rfl (Or.inr ⟨rfl, z01 (by omega) (by omega)⟩) (Nat.le_of_ble_eq_true rfl) (Nat.le_of_ble_eq_true rfl) ⟨_, _, _, rfl, rfl, by omega, by omega, by (try simp only [z_r0_0, z_r0_2, z_r0_0_0, z_r0_0_1]); exact RDT.th rfl z_r0_0 (by rw [e6, k0_r0_4]) (STL.fr z_r0_0_0 z_r0_0_1 (congrFun (Chg.at ((Chg.mono (Chg.up S4 (List.forall_mem_cons.mpr ⟨List.mem_of_getElem? (i := 0) rfl, fun _ h => nomatch h⟩)) (by decide)) : Chg (SL [r0]) T [(5, 5)] I L I3 L) (nm_1 (t_nq T_r0_0 T_r0 (by decide)))) 2) (Chg.at ((Chg.mono (Chg.up S4 (List.forall_mem_cons.mpr ⟨List.mem_of_getElem? (i := 0) rfl, fun _ h => nomatch h⟩)) (by decide)) : Chg (SL [r0]) T [(5, 5)] I L I3 L) (nm_1 (t_nq T_r0_0_0 T_r0 (by decide)))) (Chg.at ((Chg.mono (Chg.up S4 (List.forall_mem_cons.mpr ⟨List.mem_of_getElem? (i := 0) rfl, fun _ h => nomatch h⟩)) (by decide)) : Chg (SL [r0]) T [(5, 5)] I L I3 L) (nm_1 (t_nq T_r0_0_1 T_r0 (by decide))))) (by have q := RDT.c2 rfl k0_r0_5 (R := R) (by omega); rw [e7]; omega), by first | omega | (simp only [e5, e6, e7, k0_r0_3, k0_r0_4, k0_r0_5, and_true, true_and, or_true, true_or, and_false, false_and, or_false, false_or] <;> omega), by first | omega | (simp only [e5, e6, e7, k0_r0_3, k0_r0_4, k0_r0_5, and_true, true_and, or_true, true_or, and_false, false_and, or_false, false_or] <;> omega), by first | omega | (simp only [e5, e6, e7, k0_r0_3, k0_r0_4, k0_r0_5, and_true, true_and, or_true, true_or, and_false, false_and, or_false, false_or] <;> omega), hI3, (by (try simp only [z_r0_0, z_r0_2, z_r0_0_0, z_r0_0_1]); exact (Chg.mono (Chg.up S4 (List.forall_mem_cons.mpr ⟨List.mem_of_getElem? (i := 0) rfl, fun _ h => nomatch h⟩)) (by decide)))⟩

theorem s_X7_put_p {d : Nat} {T N : Nat → Nat} {I : IT} {L : LT} {R : RT} {A B : Nat → Prop} {r0 : Nat} {n1 n2 : Int32} (hS : SUB B A) (hI : IX A T I) (H_r0 : (hs_Sg T N R A B) r0) (hU : UPR T R) (hp0 : 0 ≤ (I r0 2).toInt) (hp1 : (I r0 2).toInt ≤ 160) : Ex (d + 1) 66 [.ref r0, .int n1, .int n2] (T, N, I, L, R) 0 0 (pV T N R (fun I9 L9 => (STL R I9 r0 = APS 160 (STL R I r0) (n1.toInt, n2.toInt)) ∧ (0 ≤ (I9 r0 2).toInt ∧ (I9 r0 2).toInt ≤ 160) ∧ (IX A T I9 ∧ Chg (SL [r0, (rA R r0 0), (rA R r0 1)]) T [(8, 2)] I L I9 L9))) := by
  refine ⟨_, rfl, Nat.le_of_ble_eq_true rfl, fun V C S => ?_⟩
  show V 0 [(0, .ref r0), (1, .int n1), (2, .int n2)] [] (T, N, I, L, R) 0 0
  have gn1 := rg n1
  have gn2 := rg n2
  obtain ⟨T_r0, A_r0, ⟨r0_0, R_r0_0, H_r0_0⟩, ⟨r0_1, R_r0_1, H_r0_1⟩⟩ := id H_r0
  have z_r0_0 : rA R r0 0 = r0_0 := rA_e R_r0_0
  have z_r0_1 : rA R r0 1 = r0_1 := rA_e R_r0_1
  obtain ⟨T_r0_0, N_r0_0, A_r0_0⟩ := id H_r0_0
  obtain ⟨T_r0_1, N_r0_1, A_r0_1⟩ := id H_r0_1
  have nqp : NQ8 r0_0 r0_1 := hU.ne (t20 T_r0_0) R_r0_0 R_r0_1 (Or.inr (by decide))
  try simp only [z_r0_0, z_r0_1] at hp0
  try simp only [z_r0_0, z_r0_1] at hp1
  obtain ⟨w_r0_2, k0_r0_2⟩ : ∃ x, I r0 2 = x := ⟨_, rfl⟩
  have gw_r0_2 := rg w_r0_2
  try simp only [k0_r0_2] at hp0
  try simp only [k0_r0_2] at hp1
  refine k_aload_n C rfl rfl rfl ?_
  refine g_I C rfl rfl rfl T_r0 rfl k0_r0_2 ?_
  refine b_if_lt C (t := 61) rfl rfl rfl (fun c1 => by exfalso; omega) (fun c1 => ?_)
  refine k_aload_n C rfl rfl rfl ?_
  refine g_I C rfl rfl rfl T_r0 rfl k0_r0_2 ?_
  refine k_aload_n C rfl rfl rfl ?_
  refine g_R C rfl rfl rfl T_r0 rfl R_r0_0 ?_
  refine z_len C (n := 160) rfl rfl (by rw [T_r0_0]; exact Nat.le_of_ble_eq_true rfl) N_r0_0 (Nat.le_of_ble_eq_true rfl) (fun x2 ex2 => ?_)
  refine b_icmp_ge C (t := 61) rfl rfl rfl (fun c3 => ?_) (fun c3 => ?_)
  · skip
    exact k_vret C rfl rfl (Nat.le_of_ble_eq_true rfl) (Nat.le_of_ble_eq_true rfl) ⟨_, _, rfl, rfl, by (try simp only [z_r0_0, z_r0_1]); first | (exfalso; omega) | exact STL.put z_r0_0 z_r0_1 nqp ⟨t_nq T_r0 T_r0_0 (by decide), t_nq T_r0 T_r0_1 (by decide)⟩ k0_r0_2 hq40 hq50 hq58 (by omega) (by omega) (by omega) | exact STL.ful k0_r0_2 (by omega), by first | omega | (simp only [k0_r0_2, and_true, true_and, or_true, true_or, and_false, false_and, or_false, false_or] <;> omega), hI, (by (try simp only [z_r0_0, z_r0_1]); exact Chg.rf)⟩
  refine k_aload_n C rfl rfl rfl ?_
  refine g_I C rfl rfl rfl T_r0 rfl k0_r0_2 ?_
  refine k_aload_n C rfl rfl rfl ?_
  refine g_R C rfl rfl rfl T_r0 rfl R_r0_1 ?_
  refine z_len C (n := 160) rfl rfl (by rw [T_r0_1]; exact Nat.le_of_ble_eq_true rfl) N_r0_1 (Nat.le_of_ble_eq_true rfl) (fun x4 ex4 => ?_)
  refine b_icmp_ge C (t := 61) rfl rfl rfl (fun c5 => by exfalso; omega) (fun c5 => ?_)
  refine k_aload_n C rfl rfl rfl ?_
  refine g_R C rfl rfl rfl T_r0 rfl R_r0_0 ?_
  refine k_aload_n C rfl rfl rfl ?_
  refine g_I C rfl rfl rfl T_r0 rfl k0_r0_2 ?_
  refine k_iload_n C rfl rfl rfl ?_
  refine z_sI C rfl rfl T_r0_0 N_r0_0 (by omega) (by omega) (fun I6 uI6 => ?_)
  have hI6 : IX A T I6 := IX.a hI T_r0_0 (Nat.le_of_ble_eq_true rfl) uI6
  have S7 : Chg (SL [r0_0]) T [] I L I6 L := Chg.a List.mem_cons_self T_r0_0 (Nat.le_of_ble_eq_true rfl) uI6
  have e8 := u2_n uI6 (t_nq T_r0 T_r0_0 (by decide)) k0_r0_2
  have hq40 := uI6
  refine k_aload_n C rfl rfl rfl ?_
  refine g_R C rfl rfl rfl T_r0 rfl R_r0_1 ?_
  refine k_aload_n C rfl rfl rfl ?_
  refine g_I C rfl rfl rfl T_r0 rfl e8 ?_
  refine k_iload_n C rfl rfl rfl ?_
  refine z_sI C rfl rfl T_r0_1 N_r0_1 (by omega) (by omega) (fun I9 uI9 => ?_)
  have hI9 : IX A T I9 := IX.a hI6 T_r0_1 (Nat.le_of_ble_eq_true rfl) uI9
  have S10 : Chg (SL [r0_1]) T [] I6 L I9 L := Chg.a List.mem_cons_self T_r0_1 (Nat.le_of_ble_eq_true rfl) uI9
  have e11 := u2_n uI9 (t_nq T_r0 T_r0_1 (by decide)) e8
  have hq50 := uI9
  refine k_aload_n C rfl rfl rfl ?_
  refine k_dup C rfl rfl rfl ?_
  refine g_I C rfl rfl rfl T_r0 rfl e11 ?_
  refine z_iconst C (z := 1) rfl rfl rfl (fun x12 ex12 => ?_)
  refine z_iadd C rfl rfl ⟨by omega, by omega⟩ (fun x13 ex13 => ?_)
  refine z_pI C rfl rfl rfl T_r0 (Or.inr rfl) rfl (fun I14 uI14 => ?_)
  have hI14 : IX A T I14 := IX.f hI9 T_r0 (boX.tr (by decide) (by decide)) uI14
  have S15 : Chg (SL [r0]) T [(8, 2)] I9 L I14 L := Chg.f List.mem_cons_self T_r0 uI14
  have e16 := u2_e uI14
  have hq58 := uI14
  exact k_vret C rfl rfl (Nat.le_of_ble_eq_true rfl) (Nat.le_of_ble_eq_true rfl) ⟨_, _, rfl, rfl, by (try simp only [z_r0_0, z_r0_1]); first | (exfalso; omega) | exact STL.put z_r0_0 z_r0_1 nqp ⟨t_nq T_r0 T_r0_0 (by decide), t_nq T_r0 T_r0_1 (by decide)⟩ k0_r0_2 hq40 hq50 hq58 (by omega) (by omega) (by omega) | exact STL.ful k0_r0_2 (by omega), by first | omega | (simp only [e16, k0_r0_2, and_true, true_and, or_true, true_or, and_false, false_and, or_false, false_or] <;> omega), hI14, (by (try simp only [z_r0_0, z_r0_1]); exact (Chg.cons (Chg.up S7 (List.forall_mem_cons.mpr ⟨List.mem_of_getElem? (i := 1) rfl, fun _ h => nomatch h⟩)) (Chg.cons (Chg.up S10 (List.forall_mem_cons.mpr ⟨List.mem_of_getElem? (i := 2) rfl, fun _ h => nomatch h⟩)) (Chg.mono (Chg.up S15 (List.forall_mem_cons.mpr ⟨List.mem_of_getElem? (i := 0) rfl, fun _ h => nomatch h⟩)) (by decide)) (by decide)) (by decide)))⟩

theorem s_X4_isDigit_x {d : Nat} {T N : Nat → Nat} {I : IT} {L : LT} {R : RT} {A B : Nat → Prop} {n0 : Int32} (hS : SUB B A) (hI : IX A T I)  : Ex (d + 1) 65 [.int n0] (T, N, I, L, R) 0 0 (pI T N R (fun x9 I9 L9 => (0 ≤ x9.toInt) ∧ (x9.toInt ≤ 1) ∧ (x9.toInt = 1 → 48 ≤ n0.toInt ∧ n0.toInt ≤ 57) ∧ (x9.toInt = 0 → ¬ (48 ≤ n0.toInt ∧ n0.toInt ≤ 57)) ∧ (I = I9 ∧ L = L9))) := by
  refine ⟨_, rfl, Nat.le_of_ble_eq_true rfl, fun V C S => ?_⟩
  show V 0 [(0, .int n0)] [] (T, N, I, L, R) 0 0
  have gn0 := rg n0
  refine k_iload_n C rfl rfl rfl ?_
  refine z_bipush C (z := 48) rfl rfl rfl (fun x1 ex1 => ?_)
  refine b_icmp_lt C (t := 16) rfl rfl rfl (fun c2 => ?_) (fun c2 => ?_)
  · skip
    refine z_iconst C (z := 0) rfl rfl rfl (fun x3 ex3 => ?_)
    exact k_iret C rfl (Or.inr ⟨rfl, z01 (by omega) (by omega)⟩) (Nat.le_of_ble_eq_true rfl) (Nat.le_of_ble_eq_true rfl) ⟨_, _, _, rfl, rfl, by omega, by omega, by omega, by omega, rfl, rfl⟩
  refine k_iload_n C rfl rfl rfl ?_
  refine z_bipush C (z := 57) rfl rfl rfl (fun x4 ex4 => ?_)
  refine b_icmp_gt C (t := 16) rfl rfl rfl (fun c5 => ?_) (fun c5 => ?_)
  · skip
    refine z_iconst C (z := 0) rfl rfl rfl (fun x6 ex6 => ?_)
    exact k_iret C rfl (Or.inr ⟨rfl, z01 (by omega) (by omega)⟩) (Nat.le_of_ble_eq_true rfl) (Nat.le_of_ble_eq_true rfl) ⟨_, _, _, rfl, rfl, by omega, by omega, by omega, by omega, rfl, rfl⟩
  refine z_iconst C (z := 1) rfl rfl rfl (fun x7 ex7 => ?_)
  refine k_goto C (pc2 := 17) rfl rfl ?_
  exact k_iret C rfl (Or.inr ⟨rfl, z01 (by omega) (by omega)⟩) (Nat.le_of_ble_eq_true rfl) (Nat.le_of_ble_eq_true rfl) ⟨_, _, _, rfl, rfl, by omega, by omega, by omega, by omega, rfl, rfl⟩

theorem s_X4_isLetter_x {d : Nat} {T N : Nat → Nat} {I : IT} {L : LT} {R : RT} {A B : Nat → Prop} {n0 : Int32} (hS : SUB B A) (hI : IX A T I)  : Ex (d + 1) 68 [.int n0] (T, N, I, L, R) 0 0 (pI T N R (fun x9 I9 L9 => (0 ≤ x9.toInt) ∧ (x9.toInt ≤ 1) ∧ (x9.toInt = 1 → (97 ≤ n0.toInt ∧ n0.toInt ≤ 122) ∨ (65 ≤ n0.toInt ∧ n0.toInt ≤ 90)) ∧ (x9.toInt = 0 → ¬ ((97 ≤ n0.toInt ∧ n0.toInt ≤ 122) ∨ (65 ≤ n0.toInt ∧ n0.toInt ≤ 90))) ∧ (I = I9 ∧ L = L9))) := by
  refine ⟨_, rfl, Nat.le_of_ble_eq_true rfl, fun V C S => ?_⟩
  show V 0 [(0, .int n0)] [] (T, N, I, L, R) 0 0
  have gn0 := rg n0
  refine k_iload_n C rfl rfl rfl ?_
  refine z_bipush C (z := 97) rfl rfl rfl (fun x1 ex1 => ?_)
  refine b_icmp_lt C (t := 12) rfl rfl rfl (fun c2 => ?_) (fun c2 => ?_)
  · skip
    refine k_iload_n C rfl rfl rfl ?_
    refine z_bipush C (z := 65) rfl rfl rfl (fun x3 ex3 => ?_)
    refine b_icmp_lt C (t := 28) rfl rfl rfl (fun c4 => ?_) (fun c4 => ?_)
    · skip
      refine z_iconst C (z := 0) rfl rfl rfl (fun x5 ex5 => ?_)
      exact k_iret C rfl (Or.inr ⟨rfl, z01 (by omega) (by omega)⟩) (Nat.le_of_ble_eq_true rfl) (Nat.le_of_ble_eq_true rfl) ⟨_, _, _, rfl, rfl, by omega, by omega, by omega, by omega, rfl, rfl⟩
    refine k_iload_n C rfl rfl rfl ?_
    refine z_bipush C (z := 90) rfl rfl rfl (fun x6 ex6 => ?_)
    refine b_icmp_gt C (t := 28) rfl rfl rfl (fun c7 => ?_) (fun c7 => ?_)
    · skip
      refine z_iconst C (z := 0) rfl rfl rfl (fun x8 ex8 => ?_)
      exact k_iret C rfl (Or.inr ⟨rfl, z01 (by omega) (by omega)⟩) (Nat.le_of_ble_eq_true rfl) (Nat.le_of_ble_eq_true rfl) ⟨_, _, _, rfl, rfl, by omega, by omega, by omega, by omega, rfl, rfl⟩
    refine z_iconst C (z := 1) rfl rfl rfl (fun x9 ex9 => ?_)
    refine k_goto C (pc2 := 29) rfl rfl ?_
    exact k_iret C rfl (Or.inr ⟨rfl, z01 (by omega) (by omega)⟩) (Nat.le_of_ble_eq_true rfl) (Nat.le_of_ble_eq_true rfl) ⟨_, _, _, rfl, rfl, by omega, by omega, by omega, by omega, rfl, rfl⟩
  refine k_iload_n C rfl rfl rfl ?_
  refine z_bipush C (z := 122) rfl rfl rfl (fun x10 ex10 => ?_)
  refine b_icmp_le C (t := 24) rfl rfl rfl (fun c11 => ?_) (fun c11 => ?_)
  · skip
    refine z_iconst C (z := 1) rfl rfl rfl (fun x12 ex12 => ?_)
    refine k_goto C (pc2 := 29) rfl rfl ?_
    exact k_iret C rfl (Or.inr ⟨rfl, z01 (by omega) (by omega)⟩) (Nat.le_of_ble_eq_true rfl) (Nat.le_of_ble_eq_true rfl) ⟨_, _, _, rfl, rfl, by omega, by omega, by omega, by omega, rfl, rfl⟩
  refine k_iload_n C rfl rfl rfl ?_
  refine z_bipush C (z := 65) rfl rfl rfl (fun x13 ex13 => ?_)
  refine b_icmp_lt C (t := 28) rfl rfl rfl (fun c14 => by exfalso; omega) (fun c14 => ?_)
  refine k_iload_n C rfl rfl rfl ?_
  refine z_bipush C (z := 90) rfl rfl rfl (fun x15 ex15 => ?_)
  refine b_icmp_gt C (t := 28) rfl rfl rfl (fun c16 => ?_) (fun c16 => by exfalso; omega)
  refine z_iconst C (z := 0) rfl rfl rfl (fun x17 ex17 => ?_)
  exact k_iret C rfl (Or.inr ⟨rfl, z01 (by omega) (by omega)⟩) (Nat.le_of_ble_eq_true rfl) (Nat.le_of_ble_eq_true rfl) ⟨_, _, _, rfl, rfl, by omega, by omega, by omega, by omega, rfl, rfl⟩

theorem s_X4_take_x {d : Nat} {T N : Nat → Nat} {I : IT} {L : LT} {R : RT} {A B : Nat → Prop} {r0 : Nat} {n1 : Int32} (hS : SUB B A) (hI : IX A T I) (H_r0 : (hs_Rd T N R A B) r0) (b0_n1 : 0 ≤ n1.toInt) (b1_n1 : n1.toInt ≤ 127) (hU : UPR T R) (hp0 : 0 ≤ (I r0 4).toInt) (hp1 : (I r0 4).toInt ≤ (I r0 3).toInt) (hp2 : (I r0 3).toInt ≤ 400) (hp3 : 0 ≤ (I r0 5).toInt) (hp4 : (I r0 5).toInt ≤ 40) (hp5 : 0 ≤ (I (rA R r0 0) 2).toInt ∧ (I (rA R r0 0) 2).toInt ≤ 160) : Ex (d + 3) 64 [.ref r0, .int n1] (T, N, I, L, R) 0 0 (pI T N R (fun x9 I9 L9 => (0 ≤ x9.toInt) ∧ (x9.toInt ≤ 1) ∧ (RES x9.toInt (TAK (RCH R I r0) n1.toInt (RDT R I r0)) (RDT R I9 r0)) ∧ (0 ≤ (I9 (rA R r0 0) 2).toInt ∧ (I9 (rA R r0 0) 2).toInt ≤ 160) ∧ (x9.toInt = 1 → (I9 r0 4).toInt ≤ (I r0 3).toInt ∧ (I r0 5).toInt ≤ (I9 r0 5).toInt ∧ (I9 r0 5).toInt ≤ 40) ∧ (0 ≤ (I9 r0 4).toInt ∧ 0 ≤ (I9 r0 5).toInt) ∧ (IX A T I9 ∧ Chg (SL [r0]) T [(5, 4)] I L I9 L9))) := by
  refine ⟨_, rfl, Nat.le_of_ble_eq_true rfl, fun V C S => ?_⟩
  show V 0 [(0, .ref r0), (1, .int n1)] [] (T, N, I, L, R) 0 0
  have gn1 := rg n1
  obtain ⟨T_r0, A_r0, B_r0, ⟨r0_0, R_r0_0, H_r0_0⟩, ⟨r0_2, R_r0_2, H_r0_2⟩⟩ := id H_r0
  have z_r0_0 : rA R r0 0 = r0_0 := rA_e R_r0_0
  have z_r0_2 : rA R r0 2 = r0_2 := rA_e R_r0_2
  obtain ⟨T_r0_0, A_r0_0, B_r0_0, ⟨r0_0_0, R_r0_0_0, H_r0_0_0⟩, ⟨r0_0_1, R_r0_0_1, H_r0_0_1⟩⟩ := id H_r0_0
  have z_r0_0_0 : rA R r0_0 0 = r0_0_0 := rA_e R_r0_0_0
  have z_r0_0_1 : rA R r0_0 1 = r0_0_1 := rA_e R_r0_0_1
  obtain ⟨T_r0_2, N_r0_2, A_r0_2⟩ := id H_r0_2
  obtain ⟨T_r0_0_0, N_r0_0_0, A_r0_0_0⟩ := id H_r0_0_0
  obtain ⟨T_r0_0_1, N_r0_0_1, A_r0_0_1⟩ := id H_r0_0_1
  have nq20 : NQ8 r0_2 r0_0_0 := hU.ne (t20 T_r0_2) R_r0_2 R_r0_0_0 (Or.inl (t_nq T_r0 T_r0_0 (by decide)))
  have nq21 : NQ8 r0_2 r0_0_1 := hU.ne (t20 T_r0_2) R_r0_2 R_r0_0_1 (Or.inl (t_nq T_r0 T_r0_0 (by decide)))
  have nq01 : NQ8 r0_0_0 r0_0_1 := hU.ne (t20 T_r0_0_0) R_r0_0_0 R_r0_0_1 (Or.inr (by decide))
  try simp only [z_r0_0, z_r0_2, z_r0_0_0, z_r0_0_1] at hp0
  try simp only [z_r0_0, z_r0_2, z_r0_0_0, z_r0_0_1] at hp1
  try simp only [z_r0_0, z_r0_2, z_r0_0_0, z_r0_0_1] at hp2
  try simp only [z_r0_0, z_r0_2, z_r0_0_0, z_r0_0_1] at hp3
  try simp only [z_r0_0, z_r0_2, z_r0_0_0, z_r0_0_1] at hp4
  try simp only [z_r0_0, z_r0_2, z_r0_0_0, z_r0_0_1] at hp5
  obtain ⟨w_r0_3, k0_r0_3⟩ : ∃ x, I r0 3 = x := ⟨_, rfl⟩
  have gw_r0_3 := rg w_r0_3
  obtain ⟨w_r0_4, k0_r0_4⟩ : ∃ x, I r0 4 = x := ⟨_, rfl⟩
  have gw_r0_4 := rg w_r0_4
  obtain ⟨w_r0_5, k0_r0_5⟩ : ∃ x, I r0 5 = x := ⟨_, rfl⟩
  have gw_r0_5 := rg w_r0_5
  obtain ⟨w_r0_0_2, k0_r0_0_2⟩ : ∃ x, I r0_0 2 = x := ⟨_, rfl⟩
  have gw_r0_0_2 := rg w_r0_0_2
  try simp only [k0_r0_3, k0_r0_4, k0_r0_5, k0_r0_0_2] at hp0
  try simp only [k0_r0_3, k0_r0_4, k0_r0_5, k0_r0_0_2] at hp1
  try simp only [k0_r0_3, k0_r0_4, k0_r0_5, k0_r0_0_2] at hp2
  try simp only [k0_r0_3, k0_r0_4, k0_r0_5, k0_r0_0_2] at hp3
  try simp only [k0_r0_3, k0_r0_4, k0_r0_5, k0_r0_0_2] at hp4
  try simp only [k0_r0_3, k0_r0_4, k0_r0_5, k0_r0_0_2] at hp5
  obtain ⟨cc, hcc⟩ : ∃ c, RCH R I r0 = c := ⟨_, rfl⟩
  have hc40 : C40 cc := by rw [← hcc]; exact RCH.c40 (by rw [k0_r0_3]; omega)
  obtain ⟨s0, hs0⟩ : ∃ s, RDT R I r0 = s := ⟨_, rfl⟩
  have hp0 := RDT.c1 hs0 k0_r0_4 (by omega)
  have ht0 := RDT.c2 hs0 k0_r0_5 (by omega)
  refine k_aload_n C rfl rfl rfl ?_
  have c1 : RCH R I r0 = cc := (RCH.mv (Chg.at (Chg.rf : Chg (SL [r0]) T [(5, 4)] I L I L) (nm_1 (t_nq T_r0_2 T_r0 (by decide)))) k0_r0_3 k0_r0_3 z_r0_2).trans hcc
  refine c_VI C (s_X4_next_x hS hI H_r0 (by (try simp only [z_r0_0, z_r0_2, z_r0_0_0, z_r0_0_1]); first | omega | (simp only [k0_r0_3, k0_r0_4, k0_r0_5, k0_r0_0_2, and_true, true_and, or_true, true_or, and_false, false_and, or_false, false_or] <;> omega)) (by (try simp only [z_r0_0, z_r0_2, z_r0_0_0, z_r0_0_1]); first | omega | (simp only [k0_r0_3, k0_r0_4, k0_r0_5, k0_r0_0_2, and_true, true_and, or_true, true_or, and_false, false_and, or_false, false_or] <;> omega)) (by (try simp only [z_r0_0, z_r0_2, z_r0_0_0, z_r0_0_1]); first | omega | (simp only [k0_r0_3, k0_r0_4, k0_r0_5, k0_r0_0_2, and_true, true_and, or_true, true_or, and_false, false_and, or_false, false_or] <;> omega)) (by (try simp only [z_r0_0, z_r0_2, z_r0_0_0, z_r0_0_1]); first | omega | (simp only [k0_r0_3, k0_r0_4, k0_r0_5, k0_r0_0_2, and_true, true_and, or_true, true_or, and_false, false_and, or_false, false_or] <;> omega))) rfl rfl rfl rfl rfl ⟨_, rfl, rfl, T_r0, Nat.le_of_ble_eq_true rfl⟩ rfl rfl (Nat.le_of_ble_eq_true rfl) (Nat.le_of_ble_eq_true rfl) (Nat.le_of_ble_eq_true rfl) ?_
  rintro x1 I2 L3 ⟨p0x1, p1x1, p2x1, p3x1, hI2, S4⟩
  try simp only [z_r0_0, z_r0_2, z_r0_0_0, z_r0_0_1] at S4
  have e5 := Chg.k S4 T_r0 (by decide) (by decide) k0_r0_3
  have e6 := Chg.k S4 T_r0 (by decide) (by decide) k0_r0_5
  have e7 := Chg.k S4 T_r0_0 (by decide) (by decide) k0_r0_0_2
  have gx1 := rg x1
  obtain ⟨x8, e9⟩ : ∃ x, I2 r0 4 = x := ⟨_, rfl⟩
  have gx8 := rg x8
  try simp only [z_r0_0, z_r0_2, z_r0_0_0, z_r0_0_1] at p0x1
  try simp only [z_r0_0, z_r0_2, z_r0_0_0, z_r0_0_1] at p1x1
  try simp only [z_r0_0, z_r0_2, z_r0_0_0, z_r0_0_1] at p2x1
  try simp only [z_r0_0, z_r0_2, z_r0_0_0, z_r0_0_1] at p3x1
  try simp only [k0_r0_3, k0_r0_4, k0_r0_5, k0_r0_0_2, e9] at p0x1
  try have q0x1 := congrArg Int32.toInt p0x1
  try simp only [k0_r0_3, k0_r0_4, k0_r0_5, k0_r0_0_2, e9] at p1x1
  try have q1x1 := congrArg Int32.toInt p1x1
  try simp only [k0_r0_3, k0_r0_4, k0_r0_5, k0_r0_0_2, e9] at p2x1
  try have q2x1 := congrArg Int32.toInt p2x1
  try simp only [k0_r0_3, k0_r0_4, k0_r0_5, k0_r0_0_2, e9] at p3x1
  try have q3x1 := congrArg Int32.toInt p3x1
  have hx1 := p0x1; have hs1 := p1x1; rw [c1, hs0] at hx1 hs1; have hq1 := RDT.c1 hs1 e9 (by omega)
  refine k_iload_n C rfl rfl rfl ?_
  refine b_icmp_eq C (t := 10) rfl rfl rfl (fun c10 => ?_) (fun c10 => ?_)
  · skip
    refine k_aload_n C rfl rfl rfl ?_
    refine k_dup C rfl rfl rfl ?_
    refine g_I C rfl rfl rfl T_r0 rfl e9 ?_
    refine z_iconst C (z := 1) rfl rfl rfl (fun x11 ex11 => ?_)
    refine z_iadd C rfl rfl ⟨by omega, by omega⟩ (fun x12 ex12 => ?_)
    refine z_pI C rfl rfl rfl T_r0 (Or.inr rfl) rfl (fun I13 uI13 => ?_)
    have hI13 : IX A T I13 := IX.f hI2 T_r0 (boX.tr (by decide) (by decide)) uI13
    have S14 : Chg (SL [r0]) T [(5, 4)] I2 L3 I13 L3 := Chg.f List.mem_cons_self T_r0 uI13
    have e15 := u2_j uI13 (by decide) e5
    have e16 := u2_j uI13 (by decide) e6
    have e17 := u2_j uI13 (by decide) e7
    have e18 := u2_e uI13
    have hq17 := uI13
    refine z_iconst C (z := 1) rfl rfl rfl (fun x19 ex19 => ?_)
    exact k_iret C rfl (Or.inr ⟨rfl, z01 (by omega) (by omega)⟩) (Nat.le_of_ble_eq_true rfl) (Nat.le_of_ble_eq_true rfl) ⟨_, _, _, rfl, rfl, by omega, by omega, by (try simp only [z_r0_0, z_r0_2, z_r0_0_0, z_r0_0_1]); rw [hcc, hs0]; refine RES.t (by omega) ?_; rw [(RDT.nx (I1 := I13) hs1 z_r0_0 (p := SKP cc s0.1 + 1) (by rw [hq17, u2_k (by decide)]) (STL.fr z_r0_0_0 z_r0_0_1 (by rw [hq17, u2_r (t_nq T_r0_0 T_r0 (by decide))]) (by rw [hq17, u2_r (t_nq T_r0_0_0 T_r0 (by decide))]) (by rw [hq17, u2_r (t_nq T_r0_0_1 T_r0 (by decide))])) (by rw [e18]; omega))]; exact TAK.y hx1 (by omega) rfl, by (try simp only [z_r0_0, z_r0_2, z_r0_0_0, z_r0_0_1]); first | omega | (simp only [e15, e16, e17, e18, k0_r0_3, k0_r0_4, k0_r0_5, k0_r0_0_2, and_true, true_and] <;> omega), by (try simp only [z_r0_0, z_r0_2, z_r0_0_0, z_r0_0_1]); intro h9; first | omega | (simp only [e15, e16, e17, e18, k0_r0_3, k0_r0_4, k0_r0_5, k0_r0_0_2, and_true, true_and] <;> omega), by (try simp only [z_r0_0, z_r0_2, z_r0_0_0, z_r0_0_1]); first | omega | (simp only [e15, e16, e17, e18, k0_r0_3, k0_r0_4, k0_r0_5, k0_r0_0_2, and_true, true_and] <;> omega), hI13, (by (try simp only [z_r0_0, z_r0_2, z_r0_0_0, z_r0_0_1]); exact (Chg.cons (Chg.up S4 (List.forall_mem_cons.mpr ⟨List.mem_of_getElem? (i := 0) rfl, fun _ h => nomatch h⟩)) (Chg.mono (Chg.up S14 (List.forall_mem_cons.mpr ⟨List.mem_of_getElem? (i := 0) rfl, fun _ h => nomatch h⟩)) (by decide)) (by decide)))⟩
  refine z_iconst C (z := 0) rfl rfl rfl (fun x20 ex20 => ?_)
  exact k_iret C rfl (Or.inr ⟨rfl, z01 (by omega) (by omega)⟩) (Nat.le_of_ble_eq_true rfl) (Nat.le_of_ble_eq_true rfl) ⟨_, _, _, rfl, rfl, by omega, by omega, by (try simp only [z_r0_0, z_r0_2, z_r0_0_0, z_r0_0_1]); rw [hcc, hs0]; exact RES.f (by omega) (TAK.n hx1 (by omega)), by (try simp only [z_r0_0, z_r0_2, z_r0_0_0, z_r0_0_1]); first | omega | (simp only [e5, e6, e7, e9, k0_r0_3, k0_r0_4, k0_r0_5, k0_r0_0_2, and_true, true_and] <;> omega), by (try simp only [z_r0_0, z_r0_2, z_r0_0_0, z_r0_0_1]); intro h9; first | omega | (simp only [e5, e6, e7, e9, k0_r0_3, k0_r0_4, k0_r0_5, k0_r0_0_2, and_true, true_and] <;> omega), by (try simp only [z_r0_0, z_r0_2, z_r0_0_0, z_r0_0_1]); first | omega | (simp only [e5, e6, e7, e9, k0_r0_3, k0_r0_4, k0_r0_5, k0_r0_0_2, and_true, true_and] <;> omega), hI2, (by (try simp only [z_r0_0, z_r0_2, z_r0_0_0, z_r0_0_1]); exact (Chg.mono (Chg.up S4 (List.forall_mem_cons.mpr ⟨List.mem_of_getElem? (i := 0) rfl, fun _ h => nomatch h⟩)) (by decide)))⟩

theorem s_X4_readLetter_x {d : Nat} {T N : Nat → Nat} {I : IT} {L : LT} {R : RT} {A B : Nat → Prop} {r0 : Nat} (hS : SUB B A) (hI : IX A T I) (H_r0 : (hs_Rd T N R A B) r0) (hU : UPR T R) (hp0 : 0 ≤ (I r0 4).toInt) (hp1 : (I r0 4).toInt ≤ (I r0 3).toInt) (hp2 : (I r0 3).toInt ≤ 400) (hp3 : 0 ≤ (I r0 5).toInt) (hp4 : (I r0 5).toInt ≤ 40) (hp5 : 0 ≤ (I (rA R r0 0) 2).toInt ∧ (I (rA R r0 0) 2).toInt ≤ 160) (hp6 : (I r0 4).toInt < (I r0 3).toInt) : Ex (d + 2) 69 [.ref r0] (T, N, I, L, R) 0 0 (pI T N R (fun x9 I9 L9 => (0 ≤ x9.toInt) ∧ (x9.toInt ≤ 1) ∧ (RES x9.toInt (RLU 160 (RCH R I r0) (RDT R I r0)) (RDT R I9 r0)) ∧ (0 ≤ (I9 (rA R r0 0) 2).toInt ∧ (I9 (rA R r0 0) 2).toInt ≤ 160) ∧ (x9.toInt = 1 → (I9 r0 4).toInt ≤ (I r0 3).toInt ∧ (I r0 5).toInt ≤ (I9 r0 5).toInt ∧ (I9 r0 5).toInt ≤ 40) ∧ (0 ≤ (I9 r0 4).toInt ∧ 0 ≤ (I9 r0 5).toInt) ∧ (IX A T I9 ∧ Chg (SL [r0, (rA R r0 0), (rA R (rA R r0 0) 0), (rA R (rA R r0 0) 1)]) T [(5, 4), (5, 5), (8, 2)] I L I9 L9))) := by
  refine ⟨_, rfl, Nat.le_of_ble_eq_true rfl, fun V C S => ?_⟩
  show V 0 [(0, .ref r0)] [] (T, N, I, L, R) 0 0
  obtain ⟨T_r0, A_r0, B_r0, ⟨r0_0, R_r0_0, H_r0_0⟩, ⟨r0_2, R_r0_2, H_r0_2⟩⟩ := id H_r0
  have z_r0_0 : rA R r0 0 = r0_0 := rA_e R_r0_0
  have z_r0_2 : rA R r0 2 = r0_2 := rA_e R_r0_2
  obtain ⟨T_r0_0, A_r0_0, B_r0_0, ⟨r0_0_0, R_r0_0_0, H_r0_0_0⟩, ⟨r0_0_1, R_r0_0_1, H_r0_0_1⟩⟩ := id H_r0_0
  have z_r0_0_0 : rA R r0_0 0 = r0_0_0 := rA_e R_r0_0_0
  have z_r0_0_1 : rA R r0_0 1 = r0_0_1 := rA_e R_r0_0_1
  obtain ⟨T_r0_2, N_r0_2, A_r0_2⟩ := id H_r0_2
  obtain ⟨T_r0_0_0, N_r0_0_0, A_r0_0_0⟩ := id H_r0_0_0
  obtain ⟨T_r0_0_1, N_r0_0_1, A_r0_0_1⟩ := id H_r0_0_1
  have nq20 : NQ8 r0_2 r0_0_0 := hU.ne (t20 T_r0_2) R_r0_2 R_r0_0_0 (Or.inl (t_nq T_r0 T_r0_0 (by decide)))
  have nq21 : NQ8 r0_2 r0_0_1 := hU.ne (t20 T_r0_2) R_r0_2 R_r0_0_1 (Or.inl (t_nq T_r0 T_r0_0 (by decide)))
  have nq01 : NQ8 r0_0_0 r0_0_1 := hU.ne (t20 T_r0_0_0) R_r0_0_0 R_r0_0_1 (Or.inr (by decide))
  try simp only [z_r0_0, z_r0_2, z_r0_0_0, z_r0_0_1] at hp0
  try simp only [z_r0_0, z_r0_2, z_r0_0_0, z_r0_0_1] at hp1
  try simp only [z_r0_0, z_r0_2, z_r0_0_0, z_r0_0_1] at hp2
  try simp only [z_r0_0, z_r0_2, z_r0_0_0, z_r0_0_1] at hp3
  try simp only [z_r0_0, z_r0_2, z_r0_0_0, z_r0_0_1] at hp4
  try simp only [z_r0_0, z_r0_2, z_r0_0_0, z_r0_0_1] at hp5
  try simp only [z_r0_0, z_r0_2, z_r0_0_0, z_r0_0_1] at hp6
  obtain ⟨w_r0_3, k0_r0_3⟩ : ∃ x, I r0 3 = x := ⟨_, rfl⟩
  have gw_r0_3 := rg w_r0_3
  obtain ⟨w_r0_4, k0_r0_4⟩ : ∃ x, I r0 4 = x := ⟨_, rfl⟩
  have gw_r0_4 := rg w_r0_4
  obtain ⟨w_r0_5, k0_r0_5⟩ : ∃ x, I r0 5 = x := ⟨_, rfl⟩
  have gw_r0_5 := rg w_r0_5
  obtain ⟨w_r0_0_2, k0_r0_0_2⟩ : ∃ x, I r0_0 2 = x := ⟨_, rfl⟩
  have gw_r0_0_2 := rg w_r0_0_2
  try simp only [k0_r0_3, k0_r0_4, k0_r0_5, k0_r0_0_2] at hp0
  try simp only [k0_r0_3, k0_r0_4, k0_r0_5, k0_r0_0_2] at hp1
  try simp only [k0_r0_3, k0_r0_4, k0_r0_5, k0_r0_0_2] at hp2
  try simp only [k0_r0_3, k0_r0_4, k0_r0_5, k0_r0_0_2] at hp3
  try simp only [k0_r0_3, k0_r0_4, k0_r0_5, k0_r0_0_2] at hp4
  try simp only [k0_r0_3, k0_r0_4, k0_r0_5, k0_r0_0_2] at hp5
  try simp only [k0_r0_3, k0_r0_4, k0_r0_5, k0_r0_0_2] at hp6
  obtain ⟨cc, hcc⟩ : ∃ c, RCH R I r0 = c := ⟨_, rfl⟩
  have hc40 : C40 cc := by rw [← hcc]; exact RCH.c40 (by rw [k0_r0_3]; omega)
  obtain ⟨s0, hs0⟩ : ∃ s, RDT R I r0 = s := ⟨_, rfl⟩
  have hp0 := RDT.c1 hs0 k0_r0_4 (by omega)
  have ht0 := RDT.c2 hs0 k0_r0_5 (by omega)
  refine k_aload_n C rfl rfl rfl ?_
  refine c_VI C (s_X4_isThingMore_x hS hI H_r0 (by (try simp only [z_r0_0, z_r0_2, z_r0_0_0, z_r0_0_1]); first | omega | (simp only [k0_r0_3, k0_r0_4, k0_r0_5, k0_r0_0_2, and_true, true_and, or_true, true_or, and_false, false_and, or_false, false_or] <;> omega)) (by (try simp only [z_r0_0, z_r0_2, z_r0_0_0, z_r0_0_1]); first | omega | (simp only [k0_r0_3, k0_r0_4, k0_r0_5, k0_r0_0_2, and_true, true_and, or_true, true_or, and_false, false_and, or_false, false_or] <;> omega))) rfl rfl rfl rfl rfl ⟨_, rfl, rfl, T_r0, Nat.le_of_ble_eq_true rfl⟩ rfl rfl (Nat.le_of_ble_eq_true rfl) (Nat.le_of_ble_eq_true rfl) (Nat.le_of_ble_eq_true rfl) ?_
  rintro x1 I2 L3 ⟨o0x1, o1x1, p0x1, p1x1, p2x1, p3x1, hI2, S4⟩
  try simp only [z_r0_0, z_r0_2, z_r0_0_0, z_r0_0_1] at S4
  have e5 := Chg.k S4 T_r0 (by decide) (by decide) k0_r0_3
  have e6 := Chg.k S4 T_r0 (by decide) (by decide) k0_r0_4
  have e7 := Chg.k S4 T_r0_0 (by decide) (by decide) k0_r0_0_2
  have gx1 := rg x1
  obtain ⟨x8, e9⟩ : ∃ x, I2 r0 5 = x := ⟨_, rfl⟩
  have gx8 := rg x8
  try simp only [z_r0_0, z_r0_2, z_r0_0_0, z_r0_0_1] at p0x1
  try simp only [z_r0_0, z_r0_2, z_r0_0_0, z_r0_0_1] at p1x1
  try simp only [z_r0_0, z_r0_2, z_r0_0_0, z_r0_0_1] at p2x1
  try simp only [z_r0_0, z_r0_2, z_r0_0_0, z_r0_0_1] at p3x1
  try simp only [k0_r0_3, k0_r0_4, k0_r0_5, k0_r0_0_2, e9] at p0x1
  try have q0x1 := congrArg Int32.toInt p0x1
  try simp only [k0_r0_3, k0_r0_4, k0_r0_5, k0_r0_0_2, e9] at p1x1
  try have q1x1 := congrArg Int32.toInt p1x1
  try simp only [k0_r0_3, k0_r0_4, k0_r0_5, k0_r0_0_2, e9] at p2x1
  try have q2x1 := congrArg Int32.toInt p2x1
  try simp only [k0_r0_3, k0_r0_4, k0_r0_5, k0_r0_0_2, e9] at p3x1
  try have q3x1 := congrArg Int32.toInt p3x1
  have hs1 := p0x1; rw [hs0] at hs1; have hy1 := p1x1; have hn1 := p2x1
  refine b_if_eq C (t := 36) rfl rfl rfl (fun c10 => ?_) (fun c10 => ?_)
  · skip
    refine z_iconst C (z := 0) rfl rfl rfl (fun x11 ex11 => ?_)
    exact k_iret C rfl (Or.inr ⟨rfl, z01 (by omega) (by omega)⟩) (Nat.le_of_ble_eq_true rfl) (Nat.le_of_ble_eq_true rfl) ⟨_, _, _, rfl, rfl, by omega, by omega, by (try simp only [z_r0_0, z_r0_2, z_r0_0_0, z_r0_0_1]); rw [hcc, hs0]; first | exact RES.f (by omega) (RLU.n1 (by omega)) | exact RES.f (by omega) (RLU.n2 hr (hL (by omega))), by (try simp only [z_r0_0, z_r0_2, z_r0_0_0, z_r0_0_1]); first | omega | (simp only [e5, e6, e7, e9, k0_r0_3, k0_r0_4, k0_r0_5, k0_r0_0_2, and_true, true_and] <;> omega), by (try simp only [z_r0_0, z_r0_2, z_r0_0_0, z_r0_0_1]); intro h9; first | omega | (simp only [e5, e6, e7, e9, k0_r0_3, k0_r0_4, k0_r0_5, k0_r0_0_2, and_true, true_and] <;> omega), by (try simp only [z_r0_0, z_r0_2, z_r0_0_0, z_r0_0_1]); first | omega | (simp only [e5, e6, e7, e9, k0_r0_3, k0_r0_4, k0_r0_5, k0_r0_0_2, and_true, true_and] <;> omega), hI2, (by (try simp only [z_r0_0, z_r0_2, z_r0_0_0, z_r0_0_1]); exact (Chg.mono (Chg.up S4 (List.forall_mem_cons.mpr ⟨List.mem_of_getElem? (i := 0) rfl, fun _ h => nomatch h⟩)) (by decide)))⟩
  refine k_aload_n C rfl rfl rfl ?_
  refine g_I C rfl rfl rfl T_r0 rfl e6 ?_
  refine z_iconst C (z := 1) rfl rfl rfl (fun x12 ex12 => ?_)
  refine z_iadd C rfl rfl ⟨by omega, by omega⟩ (fun x13 ex13 => ?_)
  refine k_aload_n C rfl rfl rfl ?_
  refine g_I C rfl rfl rfl T_r0 rfl e5 ?_
  refine b_icmp_ge C (t := 38) rfl rfl rfl (fun c14 => ?_) (fun c14 => ?_)
  · skip
    refine k_aload_n C rfl rfl rfl ?_
    refine k_dup C rfl rfl rfl ?_
    refine g_I C rfl rfl rfl T_r0 rfl e6 ?_
    refine z_iconst C (z := 1) rfl rfl rfl (fun x15 ex15 => ?_)
    refine z_iadd C rfl rfl ⟨by omega, by omega⟩ (fun x16 ex16 => ?_)
    refine z_pI C rfl rfl rfl T_r0 (Or.inr rfl) rfl (fun I17 uI17 => ?_)
    have hI17 : IX A T I17 := IX.f hI2 T_r0 (boX.tr (by decide) (by decide)) uI17
    have S18 : Chg (SL [r0]) T [(5, 4)] I2 L3 I17 L3 := Chg.f List.mem_cons_self T_r0 uI17
    have e19 := u2_j uI17 (by decide) e5
    have e20 := u2_j uI17 (by decide) e7
    have e21 := u2_j uI17 (by decide) e9
    have e22 := u2_e uI17
    have hq45 := uI17
    have hs45 := (RDT.nx (I1 := I17) hs1 z_r0_0 (p := s0.1 + 1) (by rw [hq45, u2_k (by decide)]) (STL.fr z_r0_0_0 z_r0_0_1 (by rw [hq45, u2_r (t_nq T_r0_0 T_r0 (by decide))]) (by rw [hq45, u2_r (t_nq T_r0_0_0 T_r0 (by decide))]) (by rw [hq45, u2_r (t_nq T_r0_0_1 T_r0 (by decide))])) (by rw [e22]; omega))
    refine k_aload_n C rfl rfl rfl ?_
    refine g_R C rfl rfl rfl T_r0 rfl R_r0_0 ?_
    refine z_iconst C (z := 0) rfl rfl rfl (fun x23 ex23 => ?_)
    refine z_iconst C (z := 0) rfl rfl rfl (fun x24 ex24 => ?_)
    refine c_VV C (s_X7_put_p hS hI17 (hs_SuSg hS H_r0_0) hU (by (try simp only [z_r0_0, z_r0_2, z_r0_0_0, z_r0_0_1]); first | omega | (simp only [e19, e20, e21, e22, and_true, true_and, or_true, true_or, and_false, false_and, or_false, false_or] <;> omega)) (by (try simp only [z_r0_0, z_r0_2, z_r0_0_0, z_r0_0_1]); first | omega | (simp only [e19, e20, e21, e22, and_true, true_and, or_true, true_or, and_false, false_and, or_false, false_or] <;> omega))) rfl rfl rfl rfl rfl ⟨_, rfl, rfl, T_r0_0, Nat.le_of_ble_eq_true rfl⟩ rfl rfl (Nat.le_of_ble_eq_true rfl) (Nat.le_of_ble_eq_true rfl) (Nat.le_of_ble_eq_true rfl) ?_
    rintro I26 L27 ⟨p0v25, p1v25, hI26, S28⟩
    try simp only [z_r0_0, z_r0_2, z_r0_0_0, z_r0_0_1] at S28
    have e29 := Chg.k S28 T_r0 (by decide) (by decide) e19
    have e30 := Chg.k S28 T_r0 (by decide) (by decide) e21
    have e31 := Chg.k S28 T_r0 (by decide) (by decide) e22
    obtain ⟨x32, e33⟩ : ∃ x, I26 r0_0 2 = x := ⟨_, rfl⟩
    have gx32 := rg x32
    try simp only [z_r0_0, z_r0_2, z_r0_0_0, z_r0_0_1] at p0v25
    try simp only [z_r0_0, z_r0_2, z_r0_0_0, z_r0_0_1] at p1v25
    try simp only [e19, e20, e21, e22, e33] at p0v25
    try have q0v25 := congrArg Int32.toInt p0v25
    try simp only [e19, e20, e21, e22, e33] at p1v25
    try have q1v25 := congrArg Int32.toInt p1v25
    have hs54 := RDT.ap hs45 z_r0_0 (Chg.at S28 (nm_3 (t_nq T_r0 T_r0_0 (by decide)) (t_nq T_r0 T_r0_0_0 (by decide)) (t_nq T_r0 T_r0_0_1 (by decide)))) p0v25 (a' := 0) (b' := 0) (by omega) (by omega)
    refine z_iconst C (z := 1) rfl rfl rfl (fun x34 ex34 => ?_)
    exact k_iret C rfl (Or.inr ⟨rfl, z01 (by omega) (by omega)⟩) (Nat.le_of_ble_eq_true rfl) (Nat.le_of_ble_eq_true rfl) ⟨_, _, _, rfl, rfl, by omega, by omega, by (try simp only [z_r0_0, z_r0_2, z_r0_0_0, z_r0_0_1]); rw [hcc, hs0]; refine RES.t (by omega) ?_; rw [hs54]; first | exact RLU.y hr (hNL (by omega)) (by omega) rfl | exact RLU.y (x := -1) (by rw [← hcc]; exact RCH.no (congrArg Int32.toInt k0_r0_3) (by omega) rfl) (by omega) (by omega) rfl, by (try simp only [z_r0_0, z_r0_2, z_r0_0_0, z_r0_0_1]); first | omega | (simp only [e29, e30, e31, e33, k0_r0_3, k0_r0_4, k0_r0_5, k0_r0_0_2, and_true, true_and] <;> omega), by (try simp only [z_r0_0, z_r0_2, z_r0_0_0, z_r0_0_1]); intro h9; first | omega | (simp only [e29, e30, e31, e33, k0_r0_3, k0_r0_4, k0_r0_5, k0_r0_0_2, and_true, true_and] <;> omega), by (try simp only [z_r0_0, z_r0_2, z_r0_0_0, z_r0_0_1]); first | omega | (simp only [e29, e30, e31, e33, k0_r0_3, k0_r0_4, k0_r0_5, k0_r0_0_2, and_true, true_and] <;> omega), hI26, (by (try simp only [z_r0_0, z_r0_2, z_r0_0_0, z_r0_0_1]); exact (Chg.cons (Chg.up S4 (List.forall_mem_cons.mpr ⟨List.mem_of_getElem? (i := 0) rfl, fun _ h => nomatch h⟩)) (Chg.cons (Chg.up S18 (List.forall_mem_cons.mpr ⟨List.mem_of_getElem? (i := 0) rfl, fun _ h => nomatch h⟩)) (Chg.mono (Chg.up S28 (List.forall_mem_cons.mpr ⟨List.mem_of_getElem? (i := 1) rfl, List.forall_mem_cons.mpr ⟨List.mem_of_getElem? (i := 2) rfl, List.forall_mem_cons.mpr ⟨List.mem_of_getElem? (i := 3) rfl, fun _ h => nomatch h⟩⟩⟩)) (by decide)) (by decide)) (by decide)))⟩
  refine k_aload_n C rfl rfl rfl ?_
  refine k_aload_n C rfl rfl rfl ?_
  refine g_I C rfl rfl rfl T_r0 rfl e6 ?_
  refine z_iconst C (z := 1) rfl rfl rfl (fun x35 ex35 => ?_)
  refine z_iadd C rfl rfl ⟨by omega, by omega⟩ (fun x36 ex36 => ?_)
  refine c_VI C (s_X4_byteAt_x hS hI2 H_r0) rfl rfl rfl rfl rfl ⟨_, rfl, rfl, T_r0, Nat.le_of_ble_eq_true rfl⟩ rfl rfl (Nat.le_of_ble_eq_true rfl) (Nat.le_of_ble_eq_true rfl) (Nat.le_of_ble_eq_true rfl) ?_
  rintro x37 _ _ ⟨p0x37, rfl, rfl⟩
  have gx37 := rg x37
  try simp only [z_r0_0, z_r0_2, z_r0_0_0, z_r0_0_1] at p0x37
  try simp only [e5, e6, e7, e9] at p0x37
  try have q0x37 := congrArg Int32.toInt p0x37
  have hr := RCH.at (j := s0.1 + 1) z_r0_2 (Chg.at ((Chg.mono (Chg.up S4 (List.forall_mem_cons.mpr ⟨List.mem_of_getElem? (i := 0) rfl, fun _ h => nomatch h⟩)) (by decide)) : Chg (SL [r0, r0_0, r0_0_0, r0_0_1]) T [(5, 4), (5, 5), (8, 2)] I L I2 L3) (nm_4 (t_nq T_r0_2 T_r0 (by decide)) (t_nq T_r0_2 T_r0_0 (by decide)) (by first | exact nq20 | exact fun e => nq20 e.symm) (by first | exact nq21 | exact fun e => nq21 e.symm))) p0x37 (by omega) (congrArg Int32.toInt k0_r0_3) (by omega) (by omega) (by omega); rw [hcc] at hr
  refine c_SI C (s_X4_isLetter_x hS hI2 ) rfl rfl rfl rfl rfl rfl rfl (Nat.le_of_ble_eq_true rfl) (Nat.le_of_ble_eq_true rfl) (Nat.le_of_ble_eq_true rfl) ?_
  rintro x38 _ _ ⟨o0x38, o1x38, p0x38, p1x38, rfl, rfl⟩
  have gx38 := rg x38
  try simp only [z_r0_0, z_r0_2, z_r0_0_0, z_r0_0_1] at p0x38
  try simp only [z_r0_0, z_r0_2, z_r0_0_0, z_r0_0_1] at p1x38
  try simp only [e5, e6, e7, e9] at p0x38
  try have q0x38 := congrArg Int32.toInt p0x38
  try simp only [e5, e6, e7, e9] at p1x38
  try have q1x38 := congrArg Int32.toInt p1x38
  have hL := p0x38; have hNL := p1x38
  refine b_if_eq C (t := 38) rfl rfl rfl (fun c39 => ?_) (fun c39 => ?_)
  · skip
    refine k_aload_n C rfl rfl rfl ?_
    refine k_dup C rfl rfl rfl ?_
    refine g_I C rfl rfl rfl T_r0 rfl e6 ?_
    refine z_iconst C (z := 1) rfl rfl rfl (fun x40 ex40 => ?_)
    refine z_iadd C rfl rfl ⟨by omega, by omega⟩ (fun x41 ex41 => ?_)
    refine z_pI C rfl rfl rfl T_r0 (Or.inr rfl) rfl (fun I42 uI42 => ?_)
    have hI42 : IX A T I42 := IX.f hI2 T_r0 (boX.tr (by decide) (by decide)) uI42
    have S43 : Chg (SL [r0]) T [(5, 4)] I2 L3 I42 L3 := Chg.f List.mem_cons_self T_r0 uI42
    have e44 := u2_j uI42 (by decide) e5
    have e45 := u2_j uI42 (by decide) e7
    have e46 := u2_j uI42 (by decide) e9
    have e47 := u2_e uI42
    have hq45 := uI42
    have hs45 := (RDT.nx (I1 := I42) hs1 z_r0_0 (p := s0.1 + 1) (by rw [hq45, u2_k (by decide)]) (STL.fr z_r0_0_0 z_r0_0_1 (by rw [hq45, u2_r (t_nq T_r0_0 T_r0 (by decide))]) (by rw [hq45, u2_r (t_nq T_r0_0_0 T_r0 (by decide))]) (by rw [hq45, u2_r (t_nq T_r0_0_1 T_r0 (by decide))])) (by rw [e47]; omega))
    refine k_aload_n C rfl rfl rfl ?_
    refine g_R C rfl rfl rfl T_r0 rfl R_r0_0 ?_
    refine z_iconst C (z := 0) rfl rfl rfl (fun x48 ex48 => ?_)
    refine z_iconst C (z := 0) rfl rfl rfl (fun x49 ex49 => ?_)
    refine c_VV C (s_X7_put_p hS hI42 (hs_SuSg hS H_r0_0) hU (by (try simp only [z_r0_0, z_r0_2, z_r0_0_0, z_r0_0_1]); first | omega | (simp only [e44, e45, e46, e47, and_true, true_and, or_true, true_or, and_false, false_and, or_false, false_or] <;> omega)) (by (try simp only [z_r0_0, z_r0_2, z_r0_0_0, z_r0_0_1]); first | omega | (simp only [e44, e45, e46, e47, and_true, true_and, or_true, true_or, and_false, false_and, or_false, false_or] <;> omega))) rfl rfl rfl rfl rfl ⟨_, rfl, rfl, T_r0_0, Nat.le_of_ble_eq_true rfl⟩ rfl rfl (Nat.le_of_ble_eq_true rfl) (Nat.le_of_ble_eq_true rfl) (Nat.le_of_ble_eq_true rfl) ?_
    rintro I51 L52 ⟨p0v50, p1v50, hI51, S53⟩
    try simp only [z_r0_0, z_r0_2, z_r0_0_0, z_r0_0_1] at S53
    have e54 := Chg.k S53 T_r0 (by decide) (by decide) e44
    have e55 := Chg.k S53 T_r0 (by decide) (by decide) e46
    have e56 := Chg.k S53 T_r0 (by decide) (by decide) e47
    obtain ⟨x57, e58⟩ : ∃ x, I51 r0_0 2 = x := ⟨_, rfl⟩
    have gx57 := rg x57
    try simp only [z_r0_0, z_r0_2, z_r0_0_0, z_r0_0_1] at p0v50
    try simp only [z_r0_0, z_r0_2, z_r0_0_0, z_r0_0_1] at p1v50
    try simp only [e44, e45, e46, e47, e58] at p0v50
    try have q0v50 := congrArg Int32.toInt p0v50
    try simp only [e44, e45, e46, e47, e58] at p1v50
    try have q1v50 := congrArg Int32.toInt p1v50
    have hs54 := RDT.ap hs45 z_r0_0 (Chg.at S53 (nm_3 (t_nq T_r0 T_r0_0 (by decide)) (t_nq T_r0 T_r0_0_0 (by decide)) (t_nq T_r0 T_r0_0_1 (by decide)))) p0v50 (a' := 0) (b' := 0) (by omega) (by omega)
    refine z_iconst C (z := 1) rfl rfl rfl (fun x59 ex59 => ?_)
    exact k_iret C rfl (Or.inr ⟨rfl, z01 (by omega) (by omega)⟩) (Nat.le_of_ble_eq_true rfl) (Nat.le_of_ble_eq_true rfl) ⟨_, _, _, rfl, rfl, by omega, by omega, by (try simp only [z_r0_0, z_r0_2, z_r0_0_0, z_r0_0_1]); rw [hcc, hs0]; refine RES.t (by omega) ?_; rw [hs54]; first | exact RLU.y hr (hNL (by omega)) (by omega) rfl | exact RLU.y (x := -1) (by rw [← hcc]; exact RCH.no (congrArg Int32.toInt k0_r0_3) (by omega) rfl) (by omega) (by omega) rfl, by (try simp only [z_r0_0, z_r0_2, z_r0_0_0, z_r0_0_1]); first | omega | (simp only [e54, e55, e56, e58, k0_r0_3, k0_r0_4, k0_r0_5, k0_r0_0_2, and_true, true_and] <;> omega), by (try simp only [z_r0_0, z_r0_2, z_r0_0_0, z_r0_0_1]); intro h9; first | omega | (simp only [e54, e55, e56, e58, k0_r0_3, k0_r0_4, k0_r0_5, k0_r0_0_2, and_true, true_and] <;> omega), by (try simp only [z_r0_0, z_r0_2, z_r0_0_0, z_r0_0_1]); first | omega | (simp only [e54, e55, e56, e58, k0_r0_3, k0_r0_4, k0_r0_5, k0_r0_0_2, and_true, true_and] <;> omega), hI51, (by (try simp only [z_r0_0, z_r0_2, z_r0_0_0, z_r0_0_1]); exact (Chg.cons (Chg.up S4 (List.forall_mem_cons.mpr ⟨List.mem_of_getElem? (i := 0) rfl, fun _ h => nomatch h⟩)) (Chg.cons (Chg.up S43 (List.forall_mem_cons.mpr ⟨List.mem_of_getElem? (i := 0) rfl, fun _ h => nomatch h⟩)) (Chg.mono (Chg.up S53 (List.forall_mem_cons.mpr ⟨List.mem_of_getElem? (i := 1) rfl, List.forall_mem_cons.mpr ⟨List.mem_of_getElem? (i := 2) rfl, List.forall_mem_cons.mpr ⟨List.mem_of_getElem? (i := 3) rfl, fun _ h => nomatch h⟩⟩⟩)) (by decide)) (by decide)) (by decide)))⟩
  refine z_iconst C (z := 0) rfl rfl rfl (fun x60 ex60 => ?_)
  exact k_iret C rfl (Or.inr ⟨rfl, z01 (by omega) (by omega)⟩) (Nat.le_of_ble_eq_true rfl) (Nat.le_of_ble_eq_true rfl) ⟨_, _, _, rfl, rfl, by omega, by omega, by (try simp only [z_r0_0, z_r0_2, z_r0_0_0, z_r0_0_1]); rw [hcc, hs0]; first | exact RES.f (by omega) (RLU.n1 (by omega)) | exact RES.f (by omega) (RLU.n2 hr (hL (by omega))), by (try simp only [z_r0_0, z_r0_2, z_r0_0_0, z_r0_0_1]); first | omega | (simp only [e5, e6, e7, e9, k0_r0_3, k0_r0_4, k0_r0_5, k0_r0_0_2, and_true, true_and] <;> omega), by (try simp only [z_r0_0, z_r0_2, z_r0_0_0, z_r0_0_1]); intro h9; first | omega | (simp only [e5, e6, e7, e9, k0_r0_3, k0_r0_4, k0_r0_5, k0_r0_0_2, and_true, true_and] <;> omega), by (try simp only [z_r0_0, z_r0_2, z_r0_0_0, z_r0_0_1]); first | omega | (simp only [e5, e6, e7, e9, k0_r0_3, k0_r0_4, k0_r0_5, k0_r0_0_2, and_true, true_and] <;> omega), hI2, (by (try simp only [z_r0_0, z_r0_2, z_r0_0_0, z_r0_0_1]); exact (Chg.mono (Chg.up S4 (List.forall_mem_cons.mpr ⟨List.mem_of_getElem? (i := 0) rfl, fun _ h => nomatch h⟩)) (by decide)))⟩

theorem s_X4_readNumber_x {d : Nat} {T N : Nat → Nat} {I : IT} {L : LT} {R : RT} {A B : Nat → Prop} {r0 : Nat} {n1 n2 : Int32} (hS : SUB B A) (hI : IX A T I) (H_r0 : (hs_Rd T N R A B) r0) (b0_n2 : 0 ≤ n2.toInt) (b1_n2 : n2.toInt ≤ 999) (hU : UPR T R) (hp0 : 0 ≤ (I r0 4).toInt) (hp1 : (I r0 4).toInt ≤ (I r0 3).toInt) (hp2 : (I r0 3).toInt ≤ 400) (hp3 : 0 ≤ (I r0 5).toInt) (hp4 : (I r0 5).toInt ≤ 40) (hp5 : 0 ≤ (I (rA R r0 0) 2).toInt ∧ (I (rA R r0 0) 2).toInt ≤ 160) (hp6 : 48 ≤ RCH R I r0 (RDT R I r0).1 ∧ RCH R I r0 (RDT R I r0).1 ≤ 57) : Ex (d + 2) 67 [.ref r0, .int n1, .int n2] (T, N, I, L, R) 0 0 (pI T N R (fun x9 I9 L9 => (0 ≤ x9.toInt) ∧ (x9.toInt ≤ 1) ∧ (RES x9.toInt (NUB 160 (RCH R I r0) n1.toInt n2.toInt (RDT R I r0)) (RDT R I9 r0)) ∧ (0 ≤ (I9 (rA R r0 0) 2).toInt ∧ (I9 (rA R r0 0) 2).toInt ≤ 160) ∧ (x9.toInt = 1 → (I9 r0 4).toInt ≤ (I r0 3).toInt ∧ (I r0 5).toInt ≤ (I9 r0 5).toInt ∧ (I9 r0 5).toInt ≤ 40) ∧ (0 ≤ (I9 r0 4).toInt ∧ 0 ≤ (I9 r0 5).toInt) ∧ (IX A T I9 ∧ Chg (SL [r0, (rA R r0 0), (rA R (rA R r0 0) 0), (rA R (rA R r0 0) 1)]) T [(5, 4), (8, 2)] I L I9 L9))) := by
  refine ⟨_, rfl, Nat.le_of_ble_eq_true rfl, fun V C S => ?_⟩
  show V 0 [(0, .ref r0), (1, .int n1), (2, .int n2)] [] (T, N, I, L, R) 0 0
  have gn1 := rg n1
  have gn2 := rg n2
  obtain ⟨T_r0, A_r0, B_r0, ⟨r0_0, R_r0_0, H_r0_0⟩, ⟨r0_2, R_r0_2, H_r0_2⟩⟩ := id H_r0
  have z_r0_0 : rA R r0 0 = r0_0 := rA_e R_r0_0
  have z_r0_2 : rA R r0 2 = r0_2 := rA_e R_r0_2
  obtain ⟨T_r0_0, A_r0_0, B_r0_0, ⟨r0_0_0, R_r0_0_0, H_r0_0_0⟩, ⟨r0_0_1, R_r0_0_1, H_r0_0_1⟩⟩ := id H_r0_0
  have z_r0_0_0 : rA R r0_0 0 = r0_0_0 := rA_e R_r0_0_0
  have z_r0_0_1 : rA R r0_0 1 = r0_0_1 := rA_e R_r0_0_1
  obtain ⟨T_r0_2, N_r0_2, A_r0_2⟩ := id H_r0_2
  obtain ⟨T_r0_0_0, N_r0_0_0, A_r0_0_0⟩ := id H_r0_0_0
  obtain ⟨T_r0_0_1, N_r0_0_1, A_r0_0_1⟩ := id H_r0_0_1
  have nq20 : NQ8 r0_2 r0_0_0 := hU.ne (t20 T_r0_2) R_r0_2 R_r0_0_0 (Or.inl (t_nq T_r0 T_r0_0 (by decide)))
  have nq21 : NQ8 r0_2 r0_0_1 := hU.ne (t20 T_r0_2) R_r0_2 R_r0_0_1 (Or.inl (t_nq T_r0 T_r0_0 (by decide)))
  have nq01 : NQ8 r0_0_0 r0_0_1 := hU.ne (t20 T_r0_0_0) R_r0_0_0 R_r0_0_1 (Or.inr (by decide))
  try simp only [z_r0_0, z_r0_2, z_r0_0_0, z_r0_0_1] at hp0
  try simp only [z_r0_0, z_r0_2, z_r0_0_0, z_r0_0_1] at hp1
  try simp only [z_r0_0, z_r0_2, z_r0_0_0, z_r0_0_1] at hp2
  try simp only [z_r0_0, z_r0_2, z_r0_0_0, z_r0_0_1] at hp3
  try simp only [z_r0_0, z_r0_2, z_r0_0_0, z_r0_0_1] at hp4
  try simp only [z_r0_0, z_r0_2, z_r0_0_0, z_r0_0_1] at hp5
  try simp only [z_r0_0, z_r0_2, z_r0_0_0, z_r0_0_1] at hp6
  obtain ⟨w_r0_3, k0_r0_3⟩ : ∃ x, I r0 3 = x := ⟨_, rfl⟩
  have gw_r0_3 := rg w_r0_3
  obtain ⟨w_r0_4, k0_r0_4⟩ : ∃ x, I r0 4 = x := ⟨_, rfl⟩
  have gw_r0_4 := rg w_r0_4
  obtain ⟨w_r0_5, k0_r0_5⟩ : ∃ x, I r0 5 = x := ⟨_, rfl⟩
  have gw_r0_5 := rg w_r0_5
  obtain ⟨w_r0_0_2, k0_r0_0_2⟩ : ∃ x, I r0_0 2 = x := ⟨_, rfl⟩
  have gw_r0_0_2 := rg w_r0_0_2
  try simp only [k0_r0_3, k0_r0_4, k0_r0_5, k0_r0_0_2] at hp0
  try simp only [k0_r0_3, k0_r0_4, k0_r0_5, k0_r0_0_2] at hp1
  try simp only [k0_r0_3, k0_r0_4, k0_r0_5, k0_r0_0_2] at hp2
  try simp only [k0_r0_3, k0_r0_4, k0_r0_5, k0_r0_0_2] at hp3
  try simp only [k0_r0_3, k0_r0_4, k0_r0_5, k0_r0_0_2] at hp4
  try simp only [k0_r0_3, k0_r0_4, k0_r0_5, k0_r0_0_2] at hp5
  try simp only [k0_r0_3, k0_r0_4, k0_r0_5, k0_r0_0_2] at hp6
  obtain ⟨cc, hcc⟩ : ∃ c, RCH R I r0 = c := ⟨_, rfl⟩
  have hc40 : C40 cc := by rw [← hcc]; exact RCH.c40 (by rw [k0_r0_3]; omega)
  obtain ⟨s0, hs0⟩ : ∃ s, RDT R I r0 = s := ⟨_, rfl⟩
  have hp0 := RDT.c1 hs0 k0_r0_4 (by omega)
  have ht0 := RDT.c2 hs0 k0_r0_5 (by omega)
  have hdi := hp6
  refine z_iconst C (z := 0) rfl rfl rfl (fun x1 ex1 => ?_)
  refine k_istore_n C (lw := [(3, .int x1), (0, .ref r0), (1, .int n1), (2, .int n2)]) rfl rfl (Nat.le_of_ble_eq_true rfl) rfl ?_
  refine z_iconst C (z := 0) rfl rfl rfl (fun x2 ex2 => ?_)
  have J3 : ∀ (nn4 : Nat) (x5 : Int32) (x6 : Int32), (MN (4 - x6.toInt) nn4) → (0 ≤ x6.toInt) → (x6.toInt ≤ 4) → (NBI cc s0.1 x5.toInt x6.toInt) → (0 ≤ x5.toInt ∧ (x6.toInt = 0 ∧ x5.toInt ≤ 0 ∨ x6.toInt = 1 ∧ x5.toInt ≤ 9 ∨ x6.toInt = 2 ∧ x5.toInt ≤ 99 ∨ x6.toInt = 3 ∧ x5.toInt ≤ 999 ∨ x6.toInt = 4 ∧ x5.toInt ≤ 9999)) → (w_r0_4.toInt + x6.toInt ≤ w_r0_3.toInt) → V 5 [(0, .ref r0), (1, .int n1), (2, .int n2), (3, .int x5), (4, .int x6)] [] (T, N, I, L, R) 0 0 := by
    intro nn4
    induction nn4 using Nat.strongRecOn with
    | _ nn4 ihJ3 =>
      intro x5 x6 hmnn4 b7 b8 ff5_0 ff5_1 ff5_2
      have gx5 := rg x5
      have gx6 := rg x6
      refine k_aload_n C rfl rfl rfl ?_
      refine g_I C rfl rfl rfl T_r0 rfl k0_r0_4 ?_
      refine k_iload C rfl rfl rfl ?_
      refine z_iadd C rfl rfl ⟨by omega, by omega⟩ (fun x12 ex12 => ?_)
      refine k_aload_n C rfl rfl rfl ?_
      refine g_I C rfl rfl rfl T_r0 rfl k0_r0_3 ?_
      refine b_icmp_ge C (t := 68) rfl rfl rfl (fun c13 => ?_) (fun c13 => ?_)
      · skip
        refine k_iload C rfl rfl rfl ?_
        refine z_iconst C (z := 3) rfl rfl rfl (fun x14 ex14 => ?_)
        refine b_icmp_gt C (t := 79) rfl rfl rfl (fun c15 => ?_) (fun c15 => ?_)
        · skip
          refine z_iconst C (z := 0) rfl rfl rfl (fun x16 ex16 => ?_)
          exact k_iret C rfl (Or.inr ⟨rfl, z01 (by omega) (by omega)⟩) (Nat.le_of_ble_eq_true rfl) (Nat.le_of_ble_eq_true rfl) ⟨_, _, _, rfl, rfl, by omega, by omega, by (try simp only [z_r0_0, z_r0_2, z_r0_0_0, z_r0_0_1]); have hdg : DGF cc 4 s0.1 = x6.toInt.toNat ∧ x5.toInt = VLU cc s0.1 (DGF cc 4 s0.1) := (by first | exact NBI.d ff5_0 (q := s0.1 + x6.toInt.toNat) (by omega) (Or.inl (by omega)) | exact NBI.d ff5_0 (q := s0.1 + x6.toInt.toNat) (by omega) (Or.inr (by rw [← hr33]; exact hnd (by omega))) | exact NBI.d ff5_0 (q := s0.1 + x6.toInt.toNat) (by omega) (Or.inr (by rw [← hcc, ← RCH.no (x := -1) (congrArg Int32.toInt k0_r0_3) (by omega) rfl]; omega))); rw [hcc, hs0]; exact RES.f (by omega) (NUB.no hdg (by omega)), by (try simp only [z_r0_0, z_r0_2, z_r0_0_0, z_r0_0_1]); first | omega | (simp only [k0_r0_3, k0_r0_4, k0_r0_5, k0_r0_0_2, and_true, true_and] <;> omega), by (try simp only [z_r0_0, z_r0_2, z_r0_0_0, z_r0_0_1]); intro h9; first | omega | (simp only [k0_r0_3, k0_r0_4, k0_r0_5, k0_r0_0_2, and_true, true_and] <;> omega), by (try simp only [z_r0_0, z_r0_2, z_r0_0_0, z_r0_0_1]); first | omega | (simp only [k0_r0_3, k0_r0_4, k0_r0_5, k0_r0_0_2, and_true, true_and] <;> omega), hI, (by (try simp only [z_r0_0, z_r0_2, z_r0_0_0, z_r0_0_1]); exact Chg.rf)⟩
        refine k_iload_n C rfl rfl rfl ?_
        refine k_iload_n C rfl rfl rfl ?_
        refine b_icmp_le C (t := 81) rfl rfl rfl (fun c17 => ?_) (fun c17 => ?_)
        · skip
          refine k_aload_n C rfl rfl rfl ?_
          refine k_dup C rfl rfl rfl ?_
          refine g_I C rfl rfl rfl T_r0 rfl k0_r0_4 ?_
          refine k_iload C rfl rfl rfl ?_
          refine z_iadd C rfl rfl ⟨by omega, by omega⟩ (fun x18 ex18 => ?_)
          refine z_pI C rfl rfl rfl T_r0 (Or.inr rfl) rfl (fun I19 uI19 => ?_)
          have hI19 : IX A T I19 := IX.f hI T_r0 (boX.tr (by decide) (by decide)) uI19
          have S20 : Chg (SL [r0]) T [(5, 4)] I L I19 L := Chg.f List.mem_cons_self T_r0 uI19
          have e21 := u2_j uI19 (by decide) k0_r0_3
          have e22 := u2_j uI19 (by decide) k0_r0_5
          have e23 := u2_j uI19 (by decide) k0_r0_0_2
          have e24 := u2_e uI19
          have hq89 := uI19
          have hs89 := (RDT.nx (I1 := I19) hs0 z_r0_0 (p := s0.1 + x6.toInt.toNat) (by rw [hq89, u2_k (by decide)]) (STL.fr z_r0_0_0 z_r0_0_1 (by rw [hq89, u2_r (t_nq T_r0_0 T_r0 (by decide))]) (by rw [hq89, u2_r (t_nq T_r0_0_0 T_r0 (by decide))]) (by rw [hq89, u2_r (t_nq T_r0_0_1 T_r0 (by decide))])) (by rw [e24]; omega))
          refine k_aload_n C rfl rfl rfl ?_
          refine g_R C rfl rfl rfl T_r0 rfl R_r0_0 ?_
          refine k_iload_n C rfl rfl rfl ?_
          refine k_iload_n C rfl rfl rfl ?_
          refine c_VV C (s_X7_put_p hS hI19 (hs_SuSg hS H_r0_0) hU (by (try simp only [z_r0_0, z_r0_2, z_r0_0_0, z_r0_0_1]); first | omega | (simp only [e21, e22, e23, e24, and_true, true_and, or_true, true_or, and_false, false_and, or_false, false_or] <;> omega)) (by (try simp only [z_r0_0, z_r0_2, z_r0_0_0, z_r0_0_1]); first | omega | (simp only [e21, e22, e23, e24, and_true, true_and, or_true, true_or, and_false, false_and, or_false, false_or] <;> omega))) rfl rfl rfl rfl rfl ⟨_, rfl, rfl, T_r0_0, Nat.le_of_ble_eq_true rfl⟩ rfl rfl (Nat.le_of_ble_eq_true rfl) (Nat.le_of_ble_eq_true rfl) (Nat.le_of_ble_eq_true rfl) ?_
          rintro I26 L27 ⟨p0v25, p1v25, hI26, S28⟩
          try simp only [z_r0_0, z_r0_2, z_r0_0_0, z_r0_0_1] at S28
          have e29 := Chg.k S28 T_r0 (by decide) (by decide) e21
          have e30 := Chg.k S28 T_r0 (by decide) (by decide) e22
          have e31 := Chg.k S28 T_r0 (by decide) (by decide) e24
          obtain ⟨x32, e33⟩ : ∃ x, I26 r0_0 2 = x := ⟨_, rfl⟩
          have gx32 := rg x32
          try simp only [z_r0_0, z_r0_2, z_r0_0_0, z_r0_0_1] at p0v25
          try simp only [z_r0_0, z_r0_2, z_r0_0_0, z_r0_0_1] at p1v25
          try simp only [e21, e22, e23, e24, e33] at p0v25
          try have q0v25 := congrArg Int32.toInt p0v25
          try simp only [e21, e22, e23, e24, e33] at p1v25
          try have q1v25 := congrArg Int32.toInt p1v25
          have hs98 := RDT.ap hs89 z_r0_0 (Chg.at S28 (nm_3 (t_nq T_r0 T_r0_0 (by decide)) (t_nq T_r0 T_r0_0_0 (by decide)) (t_nq T_r0 T_r0_0_1 (by decide)))) p0v25 (a' := n1.toInt) (b' := x5.toInt) (by omega) (by omega)
          refine z_iconst C (z := 1) rfl rfl rfl (fun x34 ex34 => ?_)
          exact k_iret C rfl (Or.inr ⟨rfl, z01 (by omega) (by omega)⟩) (Nat.le_of_ble_eq_true rfl) (Nat.le_of_ble_eq_true rfl) ⟨_, _, _, rfl, rfl, by omega, by omega, by (try simp only [z_r0_0, z_r0_2, z_r0_0_0, z_r0_0_1]); have hdg : DGF cc 4 s0.1 = x6.toInt.toNat ∧ x5.toInt = VLU cc s0.1 (DGF cc 4 s0.1) := (by first | exact NBI.d ff5_0 (q := s0.1 + x6.toInt.toNat) (by omega) (Or.inl (by omega)) | exact NBI.d ff5_0 (q := s0.1 + x6.toInt.toNat) (by omega) (Or.inr (by rw [← hr33]; exact hnd (by omega))) | exact NBI.d ff5_0 (q := s0.1 + x6.toInt.toNat) (by omega) (Or.inr (by rw [← hcc, ← RCH.no (x := -1) (congrArg Int32.toInt k0_r0_3) (by omega) rfl]; omega))); rw [hcc, hs0]; refine RES.t (by omega) ?_; rw [hs98]; exact NUB.yes hdg (NBI.j1 hdg (by rw [hcc, hs0] at hdi; exact hdi)) (by omega) (by omega) (by omega), by (try simp only [z_r0_0, z_r0_2, z_r0_0_0, z_r0_0_1]); first | omega | (simp only [e29, e30, e31, e33, k0_r0_3, k0_r0_4, k0_r0_5, k0_r0_0_2, and_true, true_and] <;> omega), by (try simp only [z_r0_0, z_r0_2, z_r0_0_0, z_r0_0_1]); intro h9; first | omega | (simp only [e29, e30, e31, e33, k0_r0_3, k0_r0_4, k0_r0_5, k0_r0_0_2, and_true, true_and] <;> omega), by (try simp only [z_r0_0, z_r0_2, z_r0_0_0, z_r0_0_1]); first | omega | (simp only [e29, e30, e31, e33, k0_r0_3, k0_r0_4, k0_r0_5, k0_r0_0_2, and_true, true_and] <;> omega), hI26, (by (try simp only [z_r0_0, z_r0_2, z_r0_0_0, z_r0_0_1]); exact (Chg.cons (Chg.up S20 (List.forall_mem_cons.mpr ⟨List.mem_of_getElem? (i := 0) rfl, fun _ h => nomatch h⟩)) (Chg.mono (Chg.up S28 (List.forall_mem_cons.mpr ⟨List.mem_of_getElem? (i := 1) rfl, List.forall_mem_cons.mpr ⟨List.mem_of_getElem? (i := 2) rfl, List.forall_mem_cons.mpr ⟨List.mem_of_getElem? (i := 3) rfl, fun _ h => nomatch h⟩⟩⟩)) (by decide)) (by decide)))⟩
        refine z_iconst C (z := 0) rfl rfl rfl (fun x35 ex35 => ?_)
        exact k_iret C rfl (Or.inr ⟨rfl, z01 (by omega) (by omega)⟩) (Nat.le_of_ble_eq_true rfl) (Nat.le_of_ble_eq_true rfl) ⟨_, _, _, rfl, rfl, by omega, by omega, by (try simp only [z_r0_0, z_r0_2, z_r0_0_0, z_r0_0_1]); have hdg : DGF cc 4 s0.1 = x6.toInt.toNat ∧ x5.toInt = VLU cc s0.1 (DGF cc 4 s0.1) := (by first | exact NBI.d ff5_0 (q := s0.1 + x6.toInt.toNat) (by omega) (Or.inl (by omega)) | exact NBI.d ff5_0 (q := s0.1 + x6.toInt.toNat) (by omega) (Or.inr (by rw [← hr33]; exact hnd (by omega))) | exact NBI.d ff5_0 (q := s0.1 + x6.toInt.toNat) (by omega) (Or.inr (by rw [← hcc, ← RCH.no (x := -1) (congrArg Int32.toInt k0_r0_3) (by omega) rfl]; omega))); rw [hcc, hs0]; exact RES.f (by omega) (NUB.no hdg (by omega)), by (try simp only [z_r0_0, z_r0_2, z_r0_0_0, z_r0_0_1]); first | omega | (simp only [k0_r0_3, k0_r0_4, k0_r0_5, k0_r0_0_2, and_true, true_and] <;> omega), by (try simp only [z_r0_0, z_r0_2, z_r0_0_0, z_r0_0_1]); intro h9; first | omega | (simp only [k0_r0_3, k0_r0_4, k0_r0_5, k0_r0_0_2, and_true, true_and] <;> omega), by (try simp only [z_r0_0, z_r0_2, z_r0_0_0, z_r0_0_1]); first | omega | (simp only [k0_r0_3, k0_r0_4, k0_r0_5, k0_r0_0_2, and_true, true_and] <;> omega), hI, (by (try simp only [z_r0_0, z_r0_2, z_r0_0_0, z_r0_0_1]); exact Chg.rf)⟩
      refine k_iload C rfl rfl rfl ?_
      refine z_iconst C (z := 3) rfl rfl rfl (fun x36 ex36 => ?_)
      refine b_icmp_gt C (t := 68) rfl rfl rfl (fun c37 => ?_) (fun c37 => ?_)
      · skip
        refine k_iload C rfl rfl rfl ?_
        refine z_iconst C (z := 3) rfl rfl rfl (fun x38 ex38 => ?_)
        refine b_icmp_gt C (t := 79) rfl rfl rfl (fun c39 => ?_) (fun c39 => by exfalso; omega)
        refine z_iconst C (z := 0) rfl rfl rfl (fun x40 ex40 => ?_)
        exact k_iret C rfl (Or.inr ⟨rfl, z01 (by omega) (by omega)⟩) (Nat.le_of_ble_eq_true rfl) (Nat.le_of_ble_eq_true rfl) ⟨_, _, _, rfl, rfl, by omega, by omega, by (try simp only [z_r0_0, z_r0_2, z_r0_0_0, z_r0_0_1]); have hdg : DGF cc 4 s0.1 = x6.toInt.toNat ∧ x5.toInt = VLU cc s0.1 (DGF cc 4 s0.1) := (by first | exact NBI.d ff5_0 (q := s0.1 + x6.toInt.toNat) (by omega) (Or.inl (by omega)) | exact NBI.d ff5_0 (q := s0.1 + x6.toInt.toNat) (by omega) (Or.inr (by rw [← hr33]; exact hnd (by omega))) | exact NBI.d ff5_0 (q := s0.1 + x6.toInt.toNat) (by omega) (Or.inr (by rw [← hcc, ← RCH.no (x := -1) (congrArg Int32.toInt k0_r0_3) (by omega) rfl]; omega))); rw [hcc, hs0]; exact RES.f (by omega) (NUB.no hdg (by omega)), by (try simp only [z_r0_0, z_r0_2, z_r0_0_0, z_r0_0_1]); first | omega | (simp only [k0_r0_3, k0_r0_4, k0_r0_5, k0_r0_0_2, and_true, true_and] <;> omega), by (try simp only [z_r0_0, z_r0_2, z_r0_0_0, z_r0_0_1]); intro h9; first | omega | (simp only [k0_r0_3, k0_r0_4, k0_r0_5, k0_r0_0_2, and_true, true_and] <;> omega), by (try simp only [z_r0_0, z_r0_2, z_r0_0_0, z_r0_0_1]); first | omega | (simp only [k0_r0_3, k0_r0_4, k0_r0_5, k0_r0_0_2, and_true, true_and] <;> omega), hI, (by (try simp only [z_r0_0, z_r0_2, z_r0_0_0, z_r0_0_1]); exact Chg.rf)⟩
      refine k_aload_n C rfl rfl rfl ?_
      refine k_aload_n C rfl rfl rfl ?_
      refine g_I C rfl rfl rfl T_r0 rfl k0_r0_4 ?_
      refine k_iload C rfl rfl rfl ?_
      refine z_iadd C rfl rfl ⟨by omega, by omega⟩ (fun x41 ex41 => ?_)
      refine c_VI C (s_X4_byteAt_x hS hI H_r0) rfl rfl rfl rfl rfl ⟨_, rfl, rfl, T_r0, Nat.le_of_ble_eq_true rfl⟩ rfl rfl (Nat.le_of_ble_eq_true rfl) (Nat.le_of_ble_eq_true rfl) (Nat.le_of_ble_eq_true rfl) ?_
      rintro x42 _ _ ⟨p0x42, rfl, rfl⟩
      have gx42 := rg x42
      try simp only [z_r0_0, z_r0_2, z_r0_0_0, z_r0_0_1] at p0x42
      try simp only [k0_r0_3, k0_r0_4, k0_r0_5, k0_r0_0_2] at p0x42
      try have q0x42 := congrArg Int32.toInt p0x42
      have hr33 := RCH.at (j := s0.1 + x6.toInt.toNat) z_r0_2 (Chg.at (Chg.rf : Chg (SL [r0, r0_0, r0_0_0, r0_0_1]) T [(5, 4), (8, 2)] I L I L) (nm_4 (t_nq T_r0_2 T_r0 (by decide)) (t_nq T_r0_2 T_r0_0 (by decide)) (by first | exact nq20 | exact fun e => nq20 e.symm) (by first | exact nq21 | exact fun e => nq21 e.symm))) p0x42 (by omega) (congrArg Int32.toInt k0_r0_3) (by omega) (by omega) (by omega); rw [hcc] at hr33
      refine c_SI C (s_X4_isDigit_x hS hI ) rfl rfl rfl rfl rfl rfl rfl (Nat.le_of_ble_eq_true rfl) (Nat.le_of_ble_eq_true rfl) (Nat.le_of_ble_eq_true rfl) ?_
      rintro x43 _ _ ⟨o0x43, o1x43, p0x43, p1x43, rfl, rfl⟩
      have gx43 := rg x43
      try simp only [z_r0_0, z_r0_2, z_r0_0_0, z_r0_0_1] at p0x43
      try simp only [z_r0_0, z_r0_2, z_r0_0_0, z_r0_0_1] at p1x43
      try simp only [k0_r0_3, k0_r0_4, k0_r0_5, k0_r0_0_2] at p0x43
      try have q0x43 := congrArg Int32.toInt p0x43
      try simp only [k0_r0_3, k0_r0_4, k0_r0_5, k0_r0_0_2] at p1x43
      try have q1x43 := congrArg Int32.toInt p1x43
      have hd := p0x43; have hnd := p1x43
      refine b_if_eq C (t := 68) rfl rfl rfl (fun c44 => ?_) (fun c44 => ?_)
      · skip
        refine k_iload C rfl rfl rfl ?_
        refine z_iconst C (z := 3) rfl rfl rfl (fun x45 ex45 => ?_)
        refine b_icmp_gt C (t := 79) rfl rfl rfl (fun c46 => by exfalso; omega) (fun c46 => ?_)
        refine k_iload_n C rfl rfl rfl ?_
        refine k_iload_n C rfl rfl rfl ?_
        refine b_icmp_le C (t := 81) rfl rfl rfl (fun c47 => ?_) (fun c47 => ?_)
        · skip
          refine k_aload_n C rfl rfl rfl ?_
          refine k_dup C rfl rfl rfl ?_
          refine g_I C rfl rfl rfl T_r0 rfl k0_r0_4 ?_
          refine k_iload C rfl rfl rfl ?_
          refine z_iadd C rfl rfl ⟨by omega, by omega⟩ (fun x48 ex48 => ?_)
          refine z_pI C rfl rfl rfl T_r0 (Or.inr rfl) rfl (fun I49 uI49 => ?_)
          have hI49 : IX A T I49 := IX.f hI T_r0 (boX.tr (by decide) (by decide)) uI49
          have S50 : Chg (SL [r0]) T [(5, 4)] I L I49 L := Chg.f List.mem_cons_self T_r0 uI49
          have e51 := u2_j uI49 (by decide) k0_r0_3
          have e52 := u2_j uI49 (by decide) k0_r0_5
          have e53 := u2_j uI49 (by decide) k0_r0_0_2
          have e54 := u2_e uI49
          have hq89 := uI49
          have hs89 := (RDT.nx (I1 := I49) hs0 z_r0_0 (p := s0.1 + x6.toInt.toNat) (by rw [hq89, u2_k (by decide)]) (STL.fr z_r0_0_0 z_r0_0_1 (by rw [hq89, u2_r (t_nq T_r0_0 T_r0 (by decide))]) (by rw [hq89, u2_r (t_nq T_r0_0_0 T_r0 (by decide))]) (by rw [hq89, u2_r (t_nq T_r0_0_1 T_r0 (by decide))])) (by rw [e54]; omega))
          refine k_aload_n C rfl rfl rfl ?_
          refine g_R C rfl rfl rfl T_r0 rfl R_r0_0 ?_
          refine k_iload_n C rfl rfl rfl ?_
          refine k_iload_n C rfl rfl rfl ?_
          refine c_VV C (s_X7_put_p hS hI49 (hs_SuSg hS H_r0_0) hU (by (try simp only [z_r0_0, z_r0_2, z_r0_0_0, z_r0_0_1]); first | omega | (simp only [e51, e52, e53, e54, and_true, true_and, or_true, true_or, and_false, false_and, or_false, false_or] <;> omega)) (by (try simp only [z_r0_0, z_r0_2, z_r0_0_0, z_r0_0_1]); first | omega | (simp only [e51, e52, e53, e54, and_true, true_and, or_true, true_or, and_false, false_and, or_false, false_or] <;> omega))) rfl rfl rfl rfl rfl ⟨_, rfl, rfl, T_r0_0, Nat.le_of_ble_eq_true rfl⟩ rfl rfl (Nat.le_of_ble_eq_true rfl) (Nat.le_of_ble_eq_true rfl) (Nat.le_of_ble_eq_true rfl) ?_
          rintro I56 L57 ⟨p0v55, p1v55, hI56, S58⟩
          try simp only [z_r0_0, z_r0_2, z_r0_0_0, z_r0_0_1] at S58
          have e59 := Chg.k S58 T_r0 (by decide) (by decide) e51
          have e60 := Chg.k S58 T_r0 (by decide) (by decide) e52
          have e61 := Chg.k S58 T_r0 (by decide) (by decide) e54
          obtain ⟨x62, e63⟩ : ∃ x, I56 r0_0 2 = x := ⟨_, rfl⟩
          have gx62 := rg x62
          try simp only [z_r0_0, z_r0_2, z_r0_0_0, z_r0_0_1] at p0v55
          try simp only [z_r0_0, z_r0_2, z_r0_0_0, z_r0_0_1] at p1v55
          try simp only [e51, e52, e53, e54, e63] at p0v55
          try have q0v55 := congrArg Int32.toInt p0v55
          try simp only [e51, e52, e53, e54, e63] at p1v55
          try have q1v55 := congrArg Int32.toInt p1v55
          have hs98 := RDT.ap hs89 z_r0_0 (Chg.at S58 (nm_3 (t_nq T_r0 T_r0_0 (by decide)) (t_nq T_r0 T_r0_0_0 (by decide)) (t_nq T_r0 T_r0_0_1 (by decide)))) p0v55 (a' := n1.toInt) (b' := x5.toInt) (by omega) (by omega)
          refine z_iconst C (z := 1) rfl rfl rfl (fun x64 ex64 => ?_)
          exact k_iret C rfl (Or.inr ⟨rfl, z01 (by omega) (by omega)⟩) (Nat.le_of_ble_eq_true rfl) (Nat.le_of_ble_eq_true rfl) ⟨_, _, _, rfl, rfl, by omega, by omega, by (try simp only [z_r0_0, z_r0_2, z_r0_0_0, z_r0_0_1]); have hdg : DGF cc 4 s0.1 = x6.toInt.toNat ∧ x5.toInt = VLU cc s0.1 (DGF cc 4 s0.1) := (by first | exact NBI.d ff5_0 (q := s0.1 + x6.toInt.toNat) (by omega) (Or.inl (by omega)) | exact NBI.d ff5_0 (q := s0.1 + x6.toInt.toNat) (by omega) (Or.inr (by rw [← hr33]; exact hnd (by omega))) | exact NBI.d ff5_0 (q := s0.1 + x6.toInt.toNat) (by omega) (Or.inr (by rw [← hcc, ← RCH.no (x := -1) (congrArg Int32.toInt k0_r0_3) (by omega) rfl]; omega))); rw [hcc, hs0]; refine RES.t (by omega) ?_; rw [hs98]; exact NUB.yes hdg (NBI.j1 hdg (by rw [hcc, hs0] at hdi; exact hdi)) (by omega) (by omega) (by omega), by (try simp only [z_r0_0, z_r0_2, z_r0_0_0, z_r0_0_1]); first | omega | (simp only [e59, e60, e61, e63, k0_r0_3, k0_r0_4, k0_r0_5, k0_r0_0_2, and_true, true_and] <;> omega), by (try simp only [z_r0_0, z_r0_2, z_r0_0_0, z_r0_0_1]); intro h9; first | omega | (simp only [e59, e60, e61, e63, k0_r0_3, k0_r0_4, k0_r0_5, k0_r0_0_2, and_true, true_and] <;> omega), by (try simp only [z_r0_0, z_r0_2, z_r0_0_0, z_r0_0_1]); first | omega | (simp only [e59, e60, e61, e63, k0_r0_3, k0_r0_4, k0_r0_5, k0_r0_0_2, and_true, true_and] <;> omega), hI56, (by (try simp only [z_r0_0, z_r0_2, z_r0_0_0, z_r0_0_1]); exact (Chg.cons (Chg.up S50 (List.forall_mem_cons.mpr ⟨List.mem_of_getElem? (i := 0) rfl, fun _ h => nomatch h⟩)) (Chg.mono (Chg.up S58 (List.forall_mem_cons.mpr ⟨List.mem_of_getElem? (i := 1) rfl, List.forall_mem_cons.mpr ⟨List.mem_of_getElem? (i := 2) rfl, List.forall_mem_cons.mpr ⟨List.mem_of_getElem? (i := 3) rfl, fun _ h => nomatch h⟩⟩⟩)) (by decide)) (by decide)))⟩
        refine z_iconst C (z := 0) rfl rfl rfl (fun x65 ex65 => ?_)
        exact k_iret C rfl (Or.inr ⟨rfl, z01 (by omega) (by omega)⟩) (Nat.le_of_ble_eq_true rfl) (Nat.le_of_ble_eq_true rfl) ⟨_, _, _, rfl, rfl, by omega, by omega, by (try simp only [z_r0_0, z_r0_2, z_r0_0_0, z_r0_0_1]); have hdg : DGF cc 4 s0.1 = x6.toInt.toNat ∧ x5.toInt = VLU cc s0.1 (DGF cc 4 s0.1) := (by first | exact NBI.d ff5_0 (q := s0.1 + x6.toInt.toNat) (by omega) (Or.inl (by omega)) | exact NBI.d ff5_0 (q := s0.1 + x6.toInt.toNat) (by omega) (Or.inr (by rw [← hr33]; exact hnd (by omega))) | exact NBI.d ff5_0 (q := s0.1 + x6.toInt.toNat) (by omega) (Or.inr (by rw [← hcc, ← RCH.no (x := -1) (congrArg Int32.toInt k0_r0_3) (by omega) rfl]; omega))); rw [hcc, hs0]; exact RES.f (by omega) (NUB.no hdg (by omega)), by (try simp only [z_r0_0, z_r0_2, z_r0_0_0, z_r0_0_1]); first | omega | (simp only [k0_r0_3, k0_r0_4, k0_r0_5, k0_r0_0_2, and_true, true_and] <;> omega), by (try simp only [z_r0_0, z_r0_2, z_r0_0_0, z_r0_0_1]); intro h9; first | omega | (simp only [k0_r0_3, k0_r0_4, k0_r0_5, k0_r0_0_2, and_true, true_and] <;> omega), by (try simp only [z_r0_0, z_r0_2, z_r0_0_0, z_r0_0_1]); first | omega | (simp only [k0_r0_3, k0_r0_4, k0_r0_5, k0_r0_0_2, and_true, true_and] <;> omega), hI, (by (try simp only [z_r0_0, z_r0_2, z_r0_0_0, z_r0_0_1]); exact Chg.rf)⟩
      refine z_bipush C (z := 10) rfl rfl rfl (fun x66 ex66 => ?_)
      refine k_iload_n C rfl rfl rfl ?_
      refine z_imul10 C rfl rfl ⟨by omega, by omega, by omega⟩ (fun x67 ex67 => ?_)
      have gx67 := rg x67
      have m45 := ex67
      refine k_aload_n C rfl rfl rfl ?_
      refine k_aload_n C rfl rfl rfl ?_
      refine g_I C rfl rfl rfl T_r0 rfl k0_r0_4 ?_
      refine k_iload C rfl rfl rfl ?_
      refine z_iadd C rfl rfl ⟨by omega, by omega⟩ (fun x68 ex68 => ?_)
      refine c_VI C (s_X4_byteAt_x hS hI H_r0) rfl rfl rfl rfl rfl ⟨_, rfl, rfl, T_r0, Nat.le_of_ble_eq_true rfl⟩ rfl rfl (Nat.le_of_ble_eq_true rfl) (Nat.le_of_ble_eq_true rfl) (Nat.le_of_ble_eq_true rfl) ?_
      rintro x69 _ _ ⟨p0x69, rfl, rfl⟩
      have gx69 := rg x69
      try simp only [z_r0_0, z_r0_2, z_r0_0_0, z_r0_0_1] at p0x69
      try simp only [k0_r0_3, k0_r0_4, k0_r0_5, k0_r0_0_2] at p0x69
      try have q0x69 := congrArg Int32.toInt p0x69
      have hr54 := RCH.at (j := s0.1 + x6.toInt.toNat) z_r0_2 (Chg.at (Chg.rf : Chg (SL [r0, r0_0, r0_0_0, r0_0_1]) T [(5, 4), (8, 2)] I L I L) (nm_4 (t_nq T_r0_2 T_r0 (by decide)) (t_nq T_r0_2 T_r0_0 (by decide)) (by first | exact nq20 | exact fun e => nq20 e.symm) (by first | exact nq21 | exact fun e => nq21 e.symm))) p0x69 (by omega) (congrArg Int32.toInt k0_r0_3) (by omega) (by omega) (by omega); rw [hcc] at hr54; have hd9 := hd (by omega)
      refine z_iadd C rfl rfl ⟨by omega, by omega⟩ (fun x70 ex70 => ?_)
      have gx70 := rg x70
      have m57 := ex70
      refine z_bipush C (z := 48) rfl rfl rfl (fun x71 ex71 => ?_)
      refine z_isub C rfl rfl ⟨by omega, by omega⟩ (fun x72 ex72 => ?_)
      have gx72 := rg x72
      have m60 := ex72
      refine k_istore_n C (lw := [(3, .int x72), (0, .ref r0), (1, .int n1), (2, .int n2), (4, .int x6)]) rfl rfl (Nat.le_of_ble_eq_true rfl) rfl ?_
      refine z_iinc C (z := 1) (lw := fun x73 => [(4, .int x73), (3, .int x72), (0, .ref r0), (1, .int n1), (2, .int n2)]) rfl rfl rfl (Nat.le_of_ble_eq_true rfl) rfl ⟨by omega, by omega⟩ (fun _ => rfl) (fun x73 ex73 => ?_)
      show V 65 [(4, .int x73), (3, .int x72), (0, .ref r0), (1, .int n1), (2, .int n2)] _ _ _ _
      refine k_goto C (pc2 := 5) rfl rfl ?_
      refine k_sub S [(0, .ref r0), (1, .int n1), (2, .int n2), (3, .int x72), (4, .int x73)] (List.forall_mem_cons.mpr ⟨List.mem_of_getElem? (i := 2) rfl, List.forall_mem_cons.mpr ⟨List.mem_of_getElem? (i := 3) rfl, List.forall_mem_cons.mpr ⟨List.mem_of_getElem? (i := 4) rfl, List.forall_mem_cons.mpr ⟨List.mem_of_getElem? (i := 1) rfl, List.forall_mem_cons.mpr ⟨List.mem_of_getElem? (i := 0) rfl, fun _ h => nomatch h⟩⟩⟩⟩⟩) ?_
      exact ihJ3 _ (MN.lt hmnn4 (by omega) (by omega)) x72 x73 rfl (by omega) (by omega) (by exact NBI.s ff5_0 hr54 (by omega) (by omega) (by omega) (by omega) (by omega)) (by omega) (by omega)
  refine k_istore C (lw := [(4, .int x2), (3, .int x1), (0, .ref r0), (1, .int n1), (2, .int n2)]) rfl rfl (Nat.le_of_ble_eq_true rfl) rfl ?_
  refine k_sub S [(0, .ref r0), (1, .int n1), (2, .int n2), (3, .int x1), (4, .int x2)] (List.forall_mem_cons.mpr ⟨List.mem_of_getElem? (i := 2) rfl, List.forall_mem_cons.mpr ⟨List.mem_of_getElem? (i := 3) rfl, List.forall_mem_cons.mpr ⟨List.mem_of_getElem? (i := 4) rfl, List.forall_mem_cons.mpr ⟨List.mem_of_getElem? (i := 1) rfl, List.forall_mem_cons.mpr ⟨List.mem_of_getElem? (i := 0) rfl, fun _ h => nomatch h⟩⟩⟩⟩⟩) ?_
  exact J3 _ x1 x2 rfl (by omega) (by omega) (by exact NBI.z (by omega) (by omega)) (by omega) (by omega)

theorem s_X4_readPart_6_x {d : Nat} {T N : Nat → Nat} {I : IT} {L : LT} {R : RT} {A B : Nat → Prop} {r0 : Nat} {n1 : Int32} (hS : SUB B A) (hI : IX A T I) (H_r0 : (hs_Rd T N R A B) r0) (b0_n1 : 6 ≤ n1.toInt) (b1_n1 : n1.toInt ≤ 6) (hU : UPR T R) (hp0 : 0 ≤ (I r0 4).toInt) (hp1 : (I r0 4).toInt ≤ (I r0 3).toInt) (hp2 : (I r0 3).toInt ≤ 400) (hp3 : 0 ≤ (I r0 5).toInt) (hp4 : (I r0 5).toInt ≤ 40) (hp5 : 0 ≤ (I (rA R r0 0) 2).toInt ∧ (I (rA R r0 0) 2).toInt ≤ 160) : Ex (d + 3) 71 [.ref r0, .int n1] (T, N, I, L, R) 0 0 (pI T N R (fun x9 I9 L9 => (0 ≤ x9.toInt) ∧ (x9.toInt ≤ 1) ∧ (RES x9.toInt (RPT 160 (RCH R I r0) 0 (RDT R I r0)) (RDT R I9 r0)) ∧ (0 ≤ (I9 (rA R r0 0) 2).toInt ∧ (I9 (rA R r0 0) 2).toInt ≤ 160) ∧ (x9.toInt = 1 → (I9 r0 4).toInt ≤ (I r0 3).toInt ∧ (I r0 5).toInt ≤ (I9 r0 5).toInt ∧ (I9 r0 5).toInt ≤ 40) ∧ (0 ≤ (I9 r0 4).toInt ∧ 0 ≤ (I9 r0 5).toInt) ∧ (IX A T I9 ∧ Chg (SL [r0, (rA R r0 0), (rA R (rA R r0 0) 0), (rA R (rA R r0 0) 1)]) T [(5, 4), (5, 5), (8, 2)] I L I9 L9))) := by
  refine ⟨_, rfl, Nat.le_of_ble_eq_true rfl, fun V C S => ?_⟩
  show V 0 [(0, .ref r0), (1, .int n1)] [] (T, N, I, L, R) 0 0
  have gn1 := rg n1
  obtain ⟨T_r0, A_r0, B_r0, ⟨r0_0, R_r0_0, H_r0_0⟩, ⟨r0_2, R_r0_2, H_r0_2⟩⟩ := id H_r0
  have z_r0_0 : rA R r0 0 = r0_0 := rA_e R_r0_0
  have z_r0_2 : rA R r0 2 = r0_2 := rA_e R_r0_2
  obtain ⟨T_r0_0, A_r0_0, B_r0_0, ⟨r0_0_0, R_r0_0_0, H_r0_0_0⟩, ⟨r0_0_1, R_r0_0_1, H_r0_0_1⟩⟩ := id H_r0_0
  have z_r0_0_0 : rA R r0_0 0 = r0_0_0 := rA_e R_r0_0_0
  have z_r0_0_1 : rA R r0_0 1 = r0_0_1 := rA_e R_r0_0_1
  obtain ⟨T_r0_2, N_r0_2, A_r0_2⟩ := id H_r0_2
  obtain ⟨T_r0_0_0, N_r0_0_0, A_r0_0_0⟩ := id H_r0_0_0
  obtain ⟨T_r0_0_1, N_r0_0_1, A_r0_0_1⟩ := id H_r0_0_1
  have nq20 : NQ8 r0_2 r0_0_0 := hU.ne (t20 T_r0_2) R_r0_2 R_r0_0_0 (Or.inl (t_nq T_r0 T_r0_0 (by decide)))
  have nq21 : NQ8 r0_2 r0_0_1 := hU.ne (t20 T_r0_2) R_r0_2 R_r0_0_1 (Or.inl (t_nq T_r0 T_r0_0 (by decide)))
  have nq01 : NQ8 r0_0_0 r0_0_1 := hU.ne (t20 T_r0_0_0) R_r0_0_0 R_r0_0_1 (Or.inr (by decide))
  try simp only [z_r0_0, z_r0_2, z_r0_0_0, z_r0_0_1] at hp0
  try simp only [z_r0_0, z_r0_2, z_r0_0_0, z_r0_0_1] at hp1
  try simp only [z_r0_0, z_r0_2, z_r0_0_0, z_r0_0_1] at hp2
  try simp only [z_r0_0, z_r0_2, z_r0_0_0, z_r0_0_1] at hp3
  try simp only [z_r0_0, z_r0_2, z_r0_0_0, z_r0_0_1] at hp4
  try simp only [z_r0_0, z_r0_2, z_r0_0_0, z_r0_0_1] at hp5
  obtain ⟨w_r0_3, k0_r0_3⟩ : ∃ x, I r0 3 = x := ⟨_, rfl⟩
  have gw_r0_3 := rg w_r0_3
  obtain ⟨w_r0_4, k0_r0_4⟩ : ∃ x, I r0 4 = x := ⟨_, rfl⟩
  have gw_r0_4 := rg w_r0_4
  obtain ⟨w_r0_5, k0_r0_5⟩ : ∃ x, I r0 5 = x := ⟨_, rfl⟩
  have gw_r0_5 := rg w_r0_5
  obtain ⟨w_r0_0_2, k0_r0_0_2⟩ : ∃ x, I r0_0 2 = x := ⟨_, rfl⟩
  have gw_r0_0_2 := rg w_r0_0_2
  try simp only [k0_r0_3, k0_r0_4, k0_r0_5, k0_r0_0_2] at hp0
  try simp only [k0_r0_3, k0_r0_4, k0_r0_5, k0_r0_0_2] at hp1
  try simp only [k0_r0_3, k0_r0_4, k0_r0_5, k0_r0_0_2] at hp2
  try simp only [k0_r0_3, k0_r0_4, k0_r0_5, k0_r0_0_2] at hp3
  try simp only [k0_r0_3, k0_r0_4, k0_r0_5, k0_r0_0_2] at hp4
  try simp only [k0_r0_3, k0_r0_4, k0_r0_5, k0_r0_0_2] at hp5
  obtain ⟨cc, hcc⟩ : ∃ c, RCH R I r0 = c := ⟨_, rfl⟩
  have hc40 : C40 cc := by rw [← hcc]; exact RCH.c40 (by rw [k0_r0_3]; omega)
  obtain ⟨s0, hs0⟩ : ∃ s, RDT R I r0 = s := ⟨_, rfl⟩
  have hp0 := RDT.c1 hs0 k0_r0_4 (by omega)
  have ht0 := RDT.c2 hs0 k0_r0_5 (by omega)
  refine k_aload_n C rfl rfl rfl ?_
  have c1 : RCH R I r0 = cc := (RCH.mv (Chg.at (Chg.rf : Chg (SL [r0, r0_0, r0_0_0, r0_0_1]) T [(5, 4), (5, 5), (8, 2)] I L I L) (nm_4 (t_nq T_r0_2 T_r0 (by decide)) (t_nq T_r0_2 T_r0_0 (by decide)) (by first | exact nq20 | exact fun e => nq20 e.symm) (by first | exact nq21 | exact fun e => nq21 e.symm))) k0_r0_3 k0_r0_3 z_r0_2).trans hcc
  refine c_VI C (s_X4_next_x hS hI H_r0 (by (try simp only [z_r0_0, z_r0_2, z_r0_0_0, z_r0_0_1]); first | omega | (simp only [k0_r0_3, k0_r0_4, k0_r0_5, k0_r0_0_2, and_true, true_and, or_true, true_or, and_false, false_and, or_false, false_or] <;> omega)) (by (try simp only [z_r0_0, z_r0_2, z_r0_0_0, z_r0_0_1]); first | omega | (simp only [k0_r0_3, k0_r0_4, k0_r0_5, k0_r0_0_2, and_true, true_and, or_true, true_or, and_false, false_and, or_false, false_or] <;> omega)) (by (try simp only [z_r0_0, z_r0_2, z_r0_0_0, z_r0_0_1]); first | omega | (simp only [k0_r0_3, k0_r0_4, k0_r0_5, k0_r0_0_2, and_true, true_and, or_true, true_or, and_false, false_and, or_false, false_or] <;> omega)) (by (try simp only [z_r0_0, z_r0_2, z_r0_0_0, z_r0_0_1]); first | omega | (simp only [k0_r0_3, k0_r0_4, k0_r0_5, k0_r0_0_2, and_true, true_and, or_true, true_or, and_false, false_and, or_false, false_or] <;> omega))) rfl rfl rfl rfl rfl ⟨_, rfl, rfl, T_r0, Nat.le_of_ble_eq_true rfl⟩ rfl rfl (Nat.le_of_ble_eq_true rfl) (Nat.le_of_ble_eq_true rfl) (Nat.le_of_ble_eq_true rfl) ?_
  rintro x1 I2 L3 ⟨p0x1, p1x1, p2x1, p3x1, hI2, S4⟩
  try simp only [z_r0_0, z_r0_2, z_r0_0_0, z_r0_0_1] at S4
  have e5 := Chg.k S4 T_r0 (by decide) (by decide) k0_r0_3
  have e6 := Chg.k S4 T_r0 (by decide) (by decide) k0_r0_5
  have e7 := Chg.k S4 T_r0_0 (by decide) (by decide) k0_r0_0_2
  have gx1 := rg x1
  obtain ⟨x8, e9⟩ : ∃ x, I2 r0 4 = x := ⟨_, rfl⟩
  have gx8 := rg x8
  try simp only [z_r0_0, z_r0_2, z_r0_0_0, z_r0_0_1] at p0x1
  try simp only [z_r0_0, z_r0_2, z_r0_0_0, z_r0_0_1] at p1x1
  try simp only [z_r0_0, z_r0_2, z_r0_0_0, z_r0_0_1] at p2x1
  try simp only [z_r0_0, z_r0_2, z_r0_0_0, z_r0_0_1] at p3x1
  try simp only [k0_r0_3, k0_r0_4, k0_r0_5, k0_r0_0_2, e9] at p0x1
  try have q0x1 := congrArg Int32.toInt p0x1
  try simp only [k0_r0_3, k0_r0_4, k0_r0_5, k0_r0_0_2, e9] at p1x1
  try have q1x1 := congrArg Int32.toInt p1x1
  try simp only [k0_r0_3, k0_r0_4, k0_r0_5, k0_r0_0_2, e9] at p2x1
  try have q2x1 := congrArg Int32.toInt p2x1
  try simp only [k0_r0_3, k0_r0_4, k0_r0_5, k0_r0_0_2, e9] at p3x1
  try have q3x1 := congrArg Int32.toInt p3x1
  have hx1 := p0x1; have hs1 := p1x1; rw [c1, hs0] at hx1 hs1; have hq1 := RDT.c1 hs1 e9 (by omega)
  refine k_istore_n C (lw := [(2, .int x1), (0, .ref r0), (1, .int n1)]) rfl rfl (Nat.le_of_ble_eq_true rfl) rfl ?_
  refine k_iload_n C rfl rfl rfl ?_
  refine z_bipush C (z := 102) rfl rfl rfl (fun x10 ex10 => ?_)
  refine b_icmp_ne C (t := 16) rfl rfl rfl (fun c11 => ?_) (fun c11 => ?_)
  · skip
    refine k_iload_n C rfl rfl rfl ?_
    refine c_SI C (s_X4_isDigit_x hS hI2 ) rfl rfl rfl rfl rfl rfl rfl (Nat.le_of_ble_eq_true rfl) (Nat.le_of_ble_eq_true rfl) (Nat.le_of_ble_eq_true rfl) ?_
    rintro x12 _ _ ⟨o0x12, o1x12, p0x12, p1x12, rfl, rfl⟩
    have gx12 := rg x12
    try simp only [z_r0_0, z_r0_2, z_r0_0_0, z_r0_0_1] at p0x12
    try simp only [z_r0_0, z_r0_2, z_r0_0_0, z_r0_0_1] at p1x12
    try simp only [e5, e6, e7, e9] at p0x12
    try have q0x12 := congrArg Int32.toInt p0x12
    try simp only [e5, e6, e7, e9] at p1x12
    try have q1x12 := congrArg Int32.toInt p1x12
    have hd17 := p0x12; have hnd17 := p1x12
    refine b_if_eq C (t := 47) rfl rfl rfl (fun c13 => ?_) (fun c13 => ?_)
    · skip
      refine k_iload_n C rfl rfl rfl ?_
      refine z_bipush C (z := 6) rfl rfl rfl (fun x14 ex14 => ?_)
      refine b_icmp_lt C (t := 55) rfl rfl rfl (fun c15 => by exfalso; omega) (fun c15 => ?_)
      refine z_iconst C (z := 0) rfl rfl rfl (fun x16 ex16 => ?_)
      exact k_iret C rfl (Or.inr ⟨rfl, z01 (by omega) (by omega)⟩) (Nat.le_of_ble_eq_true rfl) (Nat.le_of_ble_eq_true rfl) ⟨_, _, _, rfl, rfl, by omega, by omega, by (try simp only [z_r0_0, z_r0_2, z_r0_0_0, z_r0_0_1]); rw [hcc, hs0]; exact RES.f (by omega) (RPT.z (by omega) (by rw [← hx1]; exact hnd17 (by omega))), by (try simp only [z_r0_0, z_r0_2, z_r0_0_0, z_r0_0_1]); first | omega | (simp only [e5, e6, e7, e9, k0_r0_3, k0_r0_4, k0_r0_5, k0_r0_0_2, and_true, true_and] <;> omega), by (try simp only [z_r0_0, z_r0_2, z_r0_0_0, z_r0_0_1]); intro h9; first | omega | (simp only [e5, e6, e7, e9, k0_r0_3, k0_r0_4, k0_r0_5, k0_r0_0_2, and_true, true_and] <;> omega), by (try simp only [z_r0_0, z_r0_2, z_r0_0_0, z_r0_0_1]); first | omega | (simp only [e5, e6, e7, e9, k0_r0_3, k0_r0_4, k0_r0_5, k0_r0_0_2, and_true, true_and] <;> omega), hI2, (by (try simp only [z_r0_0, z_r0_2, z_r0_0_0, z_r0_0_1]); exact (Chg.mono (Chg.up S4 (List.forall_mem_cons.mpr ⟨List.mem_of_getElem? (i := 0) rfl, fun _ h => nomatch h⟩)) (by decide)))⟩
    refine k_aload_n C rfl rfl rfl ?_
    refine c_VI C (s_X4_isThingMore_x hS hI2 H_r0 (by (try simp only [z_r0_0, z_r0_2, z_r0_0_0, z_r0_0_1]); first | omega | (simp only [e5, e6, e7, e9, and_true, true_and, or_true, true_or, and_false, false_and, or_false, false_or] <;> omega)) (by (try simp only [z_r0_0, z_r0_2, z_r0_0_0, z_r0_0_1]); first | omega | (simp only [e5, e6, e7, e9, and_true, true_and, or_true, true_or, and_false, false_and, or_false, false_or] <;> omega))) rfl rfl rfl rfl rfl ⟨_, rfl, rfl, T_r0, Nat.le_of_ble_eq_true rfl⟩ rfl rfl (Nat.le_of_ble_eq_true rfl) (Nat.le_of_ble_eq_true rfl) (Nat.le_of_ble_eq_true rfl) ?_
    rintro x17 I18 L19 ⟨o0x17, o1x17, p0x17, p1x17, p2x17, p3x17, hI18, S20⟩
    try simp only [z_r0_0, z_r0_2, z_r0_0_0, z_r0_0_1] at S20
    have e21 := Chg.k S20 T_r0 (by decide) (by decide) e5
    have e22 := Chg.k S20 T_r0_0 (by decide) (by decide) e7
    have e23 := Chg.k S20 T_r0 (by decide) (by decide) e9
    have gx17 := rg x17
    obtain ⟨x24, e25⟩ : ∃ x, I18 r0 5 = x := ⟨_, rfl⟩
    have gx24 := rg x24
    try simp only [z_r0_0, z_r0_2, z_r0_0_0, z_r0_0_1] at p0x17
    try simp only [z_r0_0, z_r0_2, z_r0_0_0, z_r0_0_1] at p1x17
    try simp only [z_r0_0, z_r0_2, z_r0_0_0, z_r0_0_1] at p2x17
    try simp only [z_r0_0, z_r0_2, z_r0_0_0, z_r0_0_1] at p3x17
    try simp only [e5, e6, e7, e9, e25] at p0x17
    try have q0x17 := congrArg Int32.toInt p0x17
    try simp only [e5, e6, e7, e9, e25] at p1x17
    try have q1x17 := congrArg Int32.toInt p1x17
    try simp only [e5, e6, e7, e9, e25] at p2x17
    try have q2x17 := congrArg Int32.toInt p2x17
    try simp only [e5, e6, e7, e9, e25] at p3x17
    try have q3x17 := congrArg Int32.toInt p3x17
    have h24 := p0x17; rw [hs1] at h24; have h24y := p1x17; have h24n := p2x17
    refine b_if_eq C (t := 45) rfl rfl rfl (fun c26 => ?_) (fun c26 => ?_)
    · skip
      refine z_iconst C (z := 0) rfl rfl rfl (fun x27 ex27 => ?_)
      exact k_iret C rfl (Or.inr ⟨rfl, z01 (by omega) (by omega)⟩) (Nat.le_of_ble_eq_true rfl) (Nat.le_of_ble_eq_true rfl) ⟨_, _, _, rfl, rfl, by omega, by omega, by (try simp only [z_r0_0, z_r0_2, z_r0_0_0, z_r0_0_1]); rw [hcc, hs0]; first | exact RES.f (by omega) ((RPT.d (by rw [← hx1]; exact hd17 (by omega))).trans (RNB.n (s := (SKP cc s0.1, s0.2)) (show 40 ≤ s0.2.1 from by omega))) | exact ((h35.nb (a' := 1) (b' := 999) (by omega) (by omega)).x (by omega)).b ((RPT.d (by rw [← hx1]; exact hd17 (by omega))).trans (RNB.y (s := (SKP cc s0.1, s0.2)) (show s0.2.1 < 40 from by omega))), by (try simp only [z_r0_0, z_r0_2, z_r0_0_0, z_r0_0_1]); first | omega | (simp only [e21, e22, e23, e25, k0_r0_3, k0_r0_4, k0_r0_5, k0_r0_0_2, and_true, true_and] <;> omega), by (try simp only [z_r0_0, z_r0_2, z_r0_0_0, z_r0_0_1]); intro h9; first | omega | (simp only [e21, e22, e23, e25, k0_r0_3, k0_r0_4, k0_r0_5, k0_r0_0_2, and_true, true_and] <;> omega), by (try simp only [z_r0_0, z_r0_2, z_r0_0_0, z_r0_0_1]); first | omega | (simp only [e21, e22, e23, e25, k0_r0_3, k0_r0_4, k0_r0_5, k0_r0_0_2, and_true, true_and] <;> omega), hI18, (by (try simp only [z_r0_0, z_r0_2, z_r0_0_0, z_r0_0_1]); exact (Chg.cons (Chg.up S4 (List.forall_mem_cons.mpr ⟨List.mem_of_getElem? (i := 0) rfl, fun _ h => nomatch h⟩)) (Chg.mono (Chg.up S20 (List.forall_mem_cons.mpr ⟨List.mem_of_getElem? (i := 0) rfl, fun _ h => nomatch h⟩)) (by decide)) (by decide)))⟩
    refine k_aload_n C rfl rfl rfl ?_
    refine z_iconst C (z := 1) rfl rfl rfl (fun x28 ex28 => ?_)
    refine z_sipush C (z := 999) rfl rfl rfl (fun x29 ex29 => ?_)
    have c35 : RCH R I18 r0 = cc := (RCH.mv (Chg.at ((Chg.cons (Chg.up S4 (List.forall_mem_cons.mpr ⟨List.mem_of_getElem? (i := 0) rfl, fun _ h => nomatch h⟩)) (Chg.mono (Chg.up S20 (List.forall_mem_cons.mpr ⟨List.mem_of_getElem? (i := 0) rfl, fun _ h => nomatch h⟩)) (by decide)) (by decide)) : Chg (SL [r0, r0_0, r0_0_0, r0_0_1]) T [(5, 4), (5, 5), (8, 2)] I L I18 L19) (nm_4 (t_nq T_r0_2 T_r0 (by decide)) (t_nq T_r0_2 T_r0_0 (by decide)) (by first | exact nq20 | exact fun e => nq20 e.symm) (by first | exact nq21 | exact fun e => nq21 e.symm))) e21 k0_r0_3 z_r0_2).trans hcc
    refine c_VI C (s_X4_readNumber_x hS hI18 H_r0 (by omega) (by omega) hU (by (try simp only [z_r0_0, z_r0_2, z_r0_0_0, z_r0_0_1]); first | omega | (simp only [e21, e22, e23, e25, and_true, true_and, or_true, true_or, and_false, false_and, or_false, false_or] <;> omega)) (by (try simp only [z_r0_0, z_r0_2, z_r0_0_0, z_r0_0_1]); first | omega | (simp only [e21, e22, e23, e25, and_true, true_and, or_true, true_or, and_false, false_and, or_false, false_or] <;> omega)) (by (try simp only [z_r0_0, z_r0_2, z_r0_0_0, z_r0_0_1]); first | omega | (simp only [e21, e22, e23, e25, and_true, true_and, or_true, true_or, and_false, false_and, or_false, false_or] <;> omega)) (by (try simp only [z_r0_0, z_r0_2, z_r0_0_0, z_r0_0_1]); first | omega | (simp only [e21, e22, e23, e25, and_true, true_and, or_true, true_or, and_false, false_and, or_false, false_or] <;> omega)) (by (try simp only [z_r0_0, z_r0_2, z_r0_0_0, z_r0_0_1]); first | omega | (simp only [e21, e22, e23, e25, and_true, true_and, or_true, true_or, and_false, false_and, or_false, false_or] <;> omega)) (by (try simp only [z_r0_0, z_r0_2, z_r0_0_0, z_r0_0_1]); first | omega | (simp only [e21, e22, e23, e25, and_true, true_and, or_true, true_or, and_false, false_and, or_false, false_or] <;> omega)) (by rw [c35, h24]; show 48 ≤ cc (SKP cc s0.1) ∧ cc (SKP cc s0.1) ≤ 57; rw [← hx1]; exact hd17 (by omega))) rfl rfl rfl rfl rfl ⟨_, rfl, rfl, T_r0, Nat.le_of_ble_eq_true rfl⟩ rfl rfl (Nat.le_of_ble_eq_true rfl) (Nat.le_of_ble_eq_true rfl) (Nat.le_of_ble_eq_true rfl) ?_
    rintro x30 I31 L32 ⟨o0x30, o1x30, p0x30, p1x30, p2x30, p3x30, hI31, S33⟩
    try simp only [z_r0_0, z_r0_2, z_r0_0_0, z_r0_0_1] at S33
    have e34 := Chg.k S33 T_r0 (by decide) (by decide) e21
    have e35 := Chg.k S33 T_r0 (by decide) (by decide) e25
    have gx30 := rg x30
    obtain ⟨x36, e37⟩ : ∃ x, I31 r0 4 = x := ⟨_, rfl⟩
    have gx36 := rg x36
    obtain ⟨x38, e39⟩ : ∃ x, I31 r0 5 = x := ⟨_, rfl⟩
    have gx38 := rg x38
    obtain ⟨x40, e41⟩ : ∃ x, I31 r0_0 2 = x := ⟨_, rfl⟩
    have gx40 := rg x40
    try simp only [z_r0_0, z_r0_2, z_r0_0_0, z_r0_0_1] at p0x30
    try simp only [z_r0_0, z_r0_2, z_r0_0_0, z_r0_0_1] at p1x30
    try simp only [z_r0_0, z_r0_2, z_r0_0_0, z_r0_0_1] at p2x30
    try simp only [z_r0_0, z_r0_2, z_r0_0_0, z_r0_0_1] at p3x30
    try simp only [e21, e22, e23, e25, e37, e39, e41] at p0x30
    try have q0x30 := congrArg Int32.toInt p0x30
    try simp only [e21, e22, e23, e25, e37, e39, e41] at p1x30
    try have q1x30 := congrArg Int32.toInt p1x30
    try simp only [e21, e22, e23, e25, e37, e39, e41] at p2x30
    try have q2x30 := congrArg Int32.toInt p2x30
    try simp only [e21, e22, e23, e25, e37, e39, e41] at p3x30
    try have q3x30 := congrArg Int32.toInt p3x30
    have h35 := p0x30; rw [c35, h24] at h35
    refine b_if_eq C (t := 45) rfl rfl rfl (fun c42 => ?_) (fun c42 => ?_)
    · skip
      refine z_iconst C (z := 0) rfl rfl rfl (fun x43 ex43 => ?_)
      exact k_iret C rfl (Or.inr ⟨rfl, z01 (by omega) (by omega)⟩) (Nat.le_of_ble_eq_true rfl) (Nat.le_of_ble_eq_true rfl) ⟨_, _, _, rfl, rfl, by omega, by omega, by (try simp only [z_r0_0, z_r0_2, z_r0_0_0, z_r0_0_1]); rw [hcc, hs0]; first | exact RES.f (by omega) ((RPT.d (by rw [← hx1]; exact hd17 (by omega))).trans (RNB.n (s := (SKP cc s0.1, s0.2)) (show 40 ≤ s0.2.1 from by omega))) | exact ((h35.nb (a' := 1) (b' := 999) (by omega) (by omega)).x (by omega)).b ((RPT.d (by rw [← hx1]; exact hd17 (by omega))).trans (RNB.y (s := (SKP cc s0.1, s0.2)) (show s0.2.1 < 40 from by omega))), by (try simp only [z_r0_0, z_r0_2, z_r0_0_0, z_r0_0_1]); first | omega | (simp only [e34, e39, e37, e41, k0_r0_3, k0_r0_4, k0_r0_5, k0_r0_0_2, and_true, true_and] <;> omega), by (try simp only [z_r0_0, z_r0_2, z_r0_0_0, z_r0_0_1]); intro h9; first | omega | (simp only [e34, e39, e37, e41, k0_r0_3, k0_r0_4, k0_r0_5, k0_r0_0_2, and_true, true_and] <;> omega), by (try simp only [z_r0_0, z_r0_2, z_r0_0_0, z_r0_0_1]); first | omega | (simp only [e34, e39, e37, e41, k0_r0_3, k0_r0_4, k0_r0_5, k0_r0_0_2, and_true, true_and] <;> omega), hI31, (by (try simp only [z_r0_0, z_r0_2, z_r0_0_0, z_r0_0_1]); exact (Chg.cons (Chg.up S4 (List.forall_mem_cons.mpr ⟨List.mem_of_getElem? (i := 0) rfl, fun _ h => nomatch h⟩)) (Chg.cons (Chg.up S20 (List.forall_mem_cons.mpr ⟨List.mem_of_getElem? (i := 0) rfl, fun _ h => nomatch h⟩)) (Chg.mono (Chg.up S33 (List.forall_mem_cons.mpr ⟨List.mem_of_getElem? (i := 0) rfl, List.forall_mem_cons.mpr ⟨List.mem_of_getElem? (i := 1) rfl, List.forall_mem_cons.mpr ⟨List.mem_of_getElem? (i := 2) rfl, List.forall_mem_cons.mpr ⟨List.mem_of_getElem? (i := 3) rfl, fun _ h => nomatch h⟩⟩⟩⟩)) (by decide)) (by decide)) (by decide)))⟩
    refine z_iconst C (z := 1) rfl rfl rfl (fun x44 ex44 => ?_)
    refine k_goto C (pc2 := 46) rfl rfl ?_
    exact k_iret C rfl (Or.inr ⟨rfl, z01 (by omega) (by omega)⟩) (Nat.le_of_ble_eq_true rfl) (Nat.le_of_ble_eq_true rfl) ⟨_, _, _, rfl, rfl, by omega, by omega, by (try simp only [z_r0_0, z_r0_2, z_r0_0_0, z_r0_0_1]); rw [hcc, hs0]; first | exact RES.f (by omega) ((RPT.d (by rw [← hx1]; exact hd17 (by omega))).trans (RNB.n (s := (SKP cc s0.1, s0.2)) (show 40 ≤ s0.2.1 from by omega))) | exact ((h35.nb (a' := 1) (b' := 999) (by omega) (by omega)).x (by omega)).b ((RPT.d (by rw [← hx1]; exact hd17 (by omega))).trans (RNB.y (s := (SKP cc s0.1, s0.2)) (show s0.2.1 < 40 from by omega))), by (try simp only [z_r0_0, z_r0_2, z_r0_0_0, z_r0_0_1]); first | omega | (simp only [e34, e39, e37, e41, k0_r0_3, k0_r0_4, k0_r0_5, k0_r0_0_2, and_true, true_and] <;> omega), by (try simp only [z_r0_0, z_r0_2, z_r0_0_0, z_r0_0_1]); intro h9; first | omega | (simp only [e34, e39, e37, e41, k0_r0_3, k0_r0_4, k0_r0_5, k0_r0_0_2, and_true, true_and] <;> omega), by (try simp only [z_r0_0, z_r0_2, z_r0_0_0, z_r0_0_1]); first | omega | (simp only [e34, e39, e37, e41, k0_r0_3, k0_r0_4, k0_r0_5, k0_r0_0_2, and_true, true_and] <;> omega), hI31, (by (try simp only [z_r0_0, z_r0_2, z_r0_0_0, z_r0_0_1]); exact (Chg.cons (Chg.up S4 (List.forall_mem_cons.mpr ⟨List.mem_of_getElem? (i := 0) rfl, fun _ h => nomatch h⟩)) (Chg.cons (Chg.up S20 (List.forall_mem_cons.mpr ⟨List.mem_of_getElem? (i := 0) rfl, fun _ h => nomatch h⟩)) (Chg.mono (Chg.up S33 (List.forall_mem_cons.mpr ⟨List.mem_of_getElem? (i := 0) rfl, List.forall_mem_cons.mpr ⟨List.mem_of_getElem? (i := 1) rfl, List.forall_mem_cons.mpr ⟨List.mem_of_getElem? (i := 2) rfl, List.forall_mem_cons.mpr ⟨List.mem_of_getElem? (i := 3) rfl, fun _ h => nomatch h⟩⟩⟩⟩)) (by decide)) (by decide)) (by decide)))⟩
  refine k_aload_n C rfl rfl rfl ?_
  have c12 : RCH R I2 r0 = cc := (RCH.mv (Chg.at ((Chg.mono (Chg.up S4 (List.forall_mem_cons.mpr ⟨List.mem_of_getElem? (i := 0) rfl, fun _ h => nomatch h⟩)) (by decide)) : Chg (SL [r0, r0_0, r0_0_0, r0_0_1]) T [(5, 4), (5, 5), (8, 2)] I L I2 L3) (nm_4 (t_nq T_r0_2 T_r0 (by decide)) (t_nq T_r0_2 T_r0_0 (by decide)) (by first | exact nq20 | exact fun e => nq20 e.symm) (by first | exact nq21 | exact fun e => nq21 e.symm))) e5 k0_r0_3 z_r0_2).trans hcc
  refine c_VI C (s_X4_readLetter_x hS hI2 H_r0 hU (by (try simp only [z_r0_0, z_r0_2, z_r0_0_0, z_r0_0_1]); first | omega | (simp only [e5, e6, e7, e9, and_true, true_and, or_true, true_or, and_false, false_and, or_false, false_or] <;> omega)) (by (try simp only [z_r0_0, z_r0_2, z_r0_0_0, z_r0_0_1]); first | omega | (simp only [e5, e6, e7, e9, and_true, true_and, or_true, true_or, and_false, false_and, or_false, false_or] <;> omega)) (by (try simp only [z_r0_0, z_r0_2, z_r0_0_0, z_r0_0_1]); first | omega | (simp only [e5, e6, e7, e9, and_true, true_and, or_true, true_or, and_false, false_and, or_false, false_or] <;> omega)) (by (try simp only [z_r0_0, z_r0_2, z_r0_0_0, z_r0_0_1]); first | omega | (simp only [e5, e6, e7, e9, and_true, true_and, or_true, true_or, and_false, false_and, or_false, false_or] <;> omega)) (by (try simp only [z_r0_0, z_r0_2, z_r0_0_0, z_r0_0_1]); first | omega | (simp only [e5, e6, e7, e9, and_true, true_and, or_true, true_or, and_false, false_and, or_false, false_or] <;> omega)) (by (try simp only [z_r0_0, z_r0_2, z_r0_0_0, z_r0_0_1]); first | omega | (simp only [e5, e6, e7, e9, and_true, true_and, or_true, true_or, and_false, false_and, or_false, false_or] <;> omega)) (by (try simp only [z_r0_0, z_r0_2, z_r0_0_0, z_r0_0_1]); first | omega | (simp only [e5, e6, e7, e9, and_true, true_and, or_true, true_or, and_false, false_and, or_false, false_or] <;> omega))) rfl rfl rfl rfl rfl ⟨_, rfl, rfl, T_r0, Nat.le_of_ble_eq_true rfl⟩ rfl rfl (Nat.le_of_ble_eq_true rfl) (Nat.le_of_ble_eq_true rfl) (Nat.le_of_ble_eq_true rfl) ?_
  rintro x45 I46 L47 ⟨o0x45, o1x45, p0x45, p1x45, p2x45, p3x45, hI46, S48⟩
  try simp only [z_r0_0, z_r0_2, z_r0_0_0, z_r0_0_1] at S48
  have e49 := Chg.k S48 T_r0 (by decide) (by decide) e5
  have gx45 := rg x45
  obtain ⟨x50, e51⟩ : ∃ x, I46 r0 4 = x := ⟨_, rfl⟩
  have gx50 := rg x50
  obtain ⟨x52, e53⟩ : ∃ x, I46 r0 5 = x := ⟨_, rfl⟩
  have gx52 := rg x52
  obtain ⟨x54, e55⟩ : ∃ x, I46 r0_0 2 = x := ⟨_, rfl⟩
  have gx54 := rg x54
  try simp only [z_r0_0, z_r0_2, z_r0_0_0, z_r0_0_1] at p0x45
  try simp only [z_r0_0, z_r0_2, z_r0_0_0, z_r0_0_1] at p1x45
  try simp only [z_r0_0, z_r0_2, z_r0_0_0, z_r0_0_1] at p2x45
  try simp only [z_r0_0, z_r0_2, z_r0_0_0, z_r0_0_1] at p3x45
  try simp only [e5, e6, e7, e9, e51, e53, e55] at p0x45
  try have q0x45 := congrArg Int32.toInt p0x45
  try simp only [e5, e6, e7, e9, e51, e53, e55] at p1x45
  try have q1x45 := congrArg Int32.toInt p1x45
  try simp only [e5, e6, e7, e9, e51, e53, e55] at p2x45
  try have q2x45 := congrArg Int32.toInt p2x45
  try simp only [e5, e6, e7, e9, e51, e53, e55] at p3x45
  try have q3x45 := congrArg Int32.toInt p3x45
  have h12 := p0x45; rw [c12, hs1] at h12
  exact k_iret C rfl (Or.inr ⟨rfl, z01 (by omega) (by omega)⟩) (Nat.le_of_ble_eq_true rfl) (Nat.le_of_ble_eq_true rfl) ⟨_, _, _, rfl, rfl, by omega, by omega, by (try simp only [z_r0_0, z_r0_2, z_r0_0_0, z_r0_0_1]); rw [hcc, hs0]; exact h12.b (RPT.l (by omega)), by (try simp only [z_r0_0, z_r0_2, z_r0_0_0, z_r0_0_1]); first | omega | (simp only [e49, e51, e53, e55, k0_r0_3, k0_r0_4, k0_r0_5, k0_r0_0_2, and_true, true_and] <;> omega), by (try simp only [z_r0_0, z_r0_2, z_r0_0_0, z_r0_0_1]); intro h9; first | omega | (simp only [e49, e51, e53, e55, k0_r0_3, k0_r0_4, k0_r0_5, k0_r0_0_2, and_true, true_and] <;> omega), by (try simp only [z_r0_0, z_r0_2, z_r0_0_0, z_r0_0_1]); first | omega | (simp only [e49, e51, e53, e55, k0_r0_3, k0_r0_4, k0_r0_5, k0_r0_0_2, and_true, true_and] <;> omega), hI46, (by (try simp only [z_r0_0, z_r0_2, z_r0_0_0, z_r0_0_1]); exact (Chg.cons (Chg.up S4 (List.forall_mem_cons.mpr ⟨List.mem_of_getElem? (i := 0) rfl, fun _ h => nomatch h⟩)) (Chg.mono (Chg.up S48 (List.forall_mem_cons.mpr ⟨List.mem_of_getElem? (i := 0) rfl, List.forall_mem_cons.mpr ⟨List.mem_of_getElem? (i := 1) rfl, List.forall_mem_cons.mpr ⟨List.mem_of_getElem? (i := 2) rfl, List.forall_mem_cons.mpr ⟨List.mem_of_getElem? (i := 3) rfl, fun _ h => nomatch h⟩⟩⟩⟩)) (by decide)) (by decide)))⟩

