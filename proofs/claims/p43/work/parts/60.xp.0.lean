/-! signs read: exactly -/
section Lxp
variable {M : Nat}
def STL (R : RT) (I : IT) (o : Nat) : List (Int × Int) := (List.range (I o 2).toInt.toNat).map (fun k => ((I (rA R o 0) k).toInt, (I (rA R o 1) k).toInt))
def RDT (R : RT) (I : IT) (r : Nat) : PSt := ((I r 4).toInt.toNat, (I r 5).toInt.toNat, STL R I (rA R r 0))
def BCH (f : Nat → Int32) (m : Int) (k : Nat) : Int := if (k : Int) < m then (f k).toInt else -1
def RCH (R : RT) (I : IT) (r : Nat) : Nat → Int := BCH (I (rA R r 2)) (I r 3).toInt
theorem RCH.mv {R : RT} {I I1 : IT} {r b : Nat} {w : Int32} (e1 : I1 b = I b) (e2 : I1 r 3 = w) (e3 : I r 3 = w) (z : rA R r 2 = b) : RCH R I1 r = RCH R I r := by unfold RCH; rw [z, e1, e2, e3]
theorem RCH.mk {R : RT} {I I1 : IT} {r b : Nat} {n : Int32} (e1 : I1 b = I b) (e2 : I1 r 3 = n) (z : rA R r 2 = b) : RCH R I1 r = BCH (I b) n.toInt := by unfold RCH; rw [z, e1, e2]
theorem RCH.at {R : RT} {I I1 : IT} {r b : Nat} {x k : Int32} {m : Int} {j : Nat} (z : rA R r 2 = b) (e : I1 b = I b) (h : BYD x (I1 b) k) (h0 : 0 ≤ k.toInt) (hm : (I r 3).toInt = m) (h1 : k.toInt < m) (h4 : m ≤ 400) (hj : j = k.toInt.toNat) : x.toInt = RCH R I r j := by
  have n0 := ncz h0
  subst hj
  unfold RCH BCH
  rw [if_pos (by omega), z, ← e, h h0 (by omega)]; rfl
theorem RCH.no {R : RT} {I : IT} {r : Nat} {m x : Int} {j : Nat} (hm : (I r 3).toInt = m) (h1 : m ≤ (j : Int)) (hx : x = -1) : x = RCH R I r j := by
  unfold RCH BCH
  rw [if_neg (by omega), hx]
theorem RCH.lt {R : RT} {I : IT} {r j : Nat} {x m : Int} (e : x = RCH R I r j) (hm : (I r 3).toInt = m) (h : x ≠ -1) : (j : Int) < m := by
  unfold RCH BCH at e
  by_cases q : (j : Int) < (I r 3).toInt
  · omega
  · rw [if_neg q] at e; exact absurd e h
theorem STL.fr {R : RT} {I I1 : IT} {o a b : Nat} (z0 : rA R o 0 = a) (z1 : rA R o 1 = b) (e : I1 o 2 = I o 2) (e0 : I1 a = I a) (e1 : I1 b = I b) : STL R I1 o = STL R I o := by unfold STL; rw [z0, z1, e, e0, e1]
theorem STL.len {R : RT} {I : IT} {o : Nat} : (STL R I o).length = (I o 2).toInt.toNat := by unfold STL; rw [List.length_map, List.length_range]
/-- one step more -/
theorem STL.put {R : RT} {I I1 I2 I3 : IT} {o a b : Nat} {w w' v1 v2 : Int32} (z0 : rA R o 0 = a) (z1 : rA R o 1 = b) (hab : a ≠ b) (ho : o ≠ a ∧ o ≠ b) (hw : I o 2 = w) (u1 : I1 = u2 I a w.toNatClampNeg v1) (u2' : I2 = u2 I1 b w.toNatClampNeg v2) (u3 : I3 = u2 I2 o 2 w') (h0 : 0 ≤ w.toInt) (h1 : w.toInt < 160) (hw' : w'.toInt = w.toInt + 1) : STL R I3 o = APS 160 (STL R I o) (v1.toInt, v2.toInt) := by
  have n0 := ncz h0
  have ea : I3 a = I1 a := by rw [u3, u2_r (Ne.symm ho.1), u2', u2_r hab]
  have eb : I3 b = I2 b := by rw [u3, u2_r (Ne.symm ho.2)]
  have eo : I3 o 2 = w' := by rw [u3]; exact u2_s
  have eb0 : I1 b = I b := by rw [u1, u2_r (Ne.symm hab)]
  have hl : (STL R I o).length < 160 := by rw [STL.len, hw]; omega
  unfold APS
  rw [if_pos hl]
  unfold STL
  rw [eo, hw, z0, z1, ea, eb, hw', show (w.toInt + 1).toNat = w.toInt.toNat + 1 from by omega, List.range_succ, List.map_append]
  have k1 : ∀ k, k < w.toInt.toNat → I1 a k = I a k ∧ I2 b k = I b k := fun k hk => by
    rw [u1, u2', eb0.symm]
    exact ⟨u2_k (by omega), u2_k (by omega)⟩
  have e1 : (List.range w.toInt.toNat).map (fun k => ((I1 a k).toInt, (I2 b k).toInt)) = (List.range w.toInt.toNat).map (fun k => ((I a k).toInt, (I b k).toInt)) := List.map_congr_left (fun k hk => by
    rw [(k1 k (List.mem_range.mp hk)).1, (k1 k (List.mem_range.mp hk)).2])
  rw [e1]
  have e2 : I1 a w.toInt.toNat = v1 := by rw [u1, show w.toInt.toNat = w.toNatClampNeg from by omega]; exact u2_s
  have e3 : I2 b w.toInt.toNat = v2 := by rw [u2', show w.toInt.toNat = w.toNatClampNeg from by omega]; exact u2_s
  show _ ++ [((I1 a w.toInt.toNat).toInt, (I2 b w.toInt.toNat).toInt)] = _
  rw [e2, e3]
theorem RDT.pt {R : RT} {I I1 : IT} {r o : Nat} {s : PSt} {l : List (Int × Int)} (hs : RDT R I r = s) (z : rA R r 0 = o) (e4 : I1 r = I r) (el : STL R I1 o = l) : RDT R I1 r = (s.1, s.2.1, l) := by
  subst hs
  unfold RDT
  rw [z, e4, el]
theorem RDT.c1 {R : RT} {I : IT} {r : Nat} {s : PSt} {w : Int32} (hs : RDT R I r = s) (e : I r 4 = w) (h : 0 ≤ w.toInt) : w.toInt = s.1 := by
  subst hs
  show w.toInt = ((I r 4).toInt.toNat : Int)
  rw [e]; omega
theorem RDT.c2 {R : RT} {I : IT} {r : Nat} {s : PSt} {w : Int32} (hs : RDT R I r = s) (e : I r 5 = w) (h : 0 ≤ w.toInt) : w.toInt = s.2.1 := by
  subst hs
  show w.toInt = ((I r 5).toInt.toNat : Int)
  rw [e]; omega
theorem RDT.c3 {R : RT} {I : IT} {r o : Nat} {s : PSt} (hs : RDT R I r = s) (z : rA R r 0 = o) : STL R I o = s.2.2 := by
  subst hs; subst z; rfl
def NBI (c : Nat → Int) (p : Nat) (v j : Int) : Prop := DGB c p j.toNat ∧ v = VLU c p j.toNat ∧ 0 ≤ j ∧ j ≤ 4
theorem NBI.z {c : Nat → Int} {p : Nat} {v j : Int} (hv : v = 0) (hj : j = 0) : NBI c p v j := by
  subst hv; subst hj
  exact ⟨fun i hi => absurd hi (by omega), rfl, by omega, by omega⟩
theorem NBI.s {c : Nat → Int} {p q : Nat} {v v' x j j' : Int} (h : NBI c p v j) (hx : x = c q) (hq : (q : Int) = p + j) (hd : 48 ≤ x ∧ x ≤ 57) (hv : v' = 10 * v + x - 48) (hj : j' = j + 1) (h3 : j ≤ 3) : NBI c p v' j' := by
  obtain ⟨h1, h2, h4, h5⟩ := h
  have e : j'.toNat = j.toNat + 1 := by omega
  have eq : q = p + j.toNat := by omega
  refine ⟨fun i hi => ?_, ?_, by omega, by omega⟩
  · by_cases y : i = j.toNat
    · subst y; rw [← eq, ← hx]; exact hd
    · exact h1 i (by omega)
  · rw [e]
    show v' = 10 * VLU c p j.toNat + (c (p + j.toNat) - 48)
    rw [← h2, ← eq, ← hx]; omega
/-- all digits are read: the place behind them holds none, or there are four -/
theorem NBI.d {c : Nat → Int} {p q : Nat} {v j : Int} (h : NBI c p v j) (hq : (q : Int) = p + j) (e : j = 4 ∨ ¬ (48 ≤ c q ∧ c q ≤ 57)) : DGF c 4 p = j.toNat ∧ v = VLU c p (DGF c 4 p) := by
  obtain ⟨h1, h2, h4, h5⟩ := h
  have eq : q = p + j.toNat := by omega
  subst eq
  have d := DGF.of 4 p j.toNat h1 (by omega) (e.imp (fun q => by omega) id)
  exact ⟨d, by rw [d]; exact h2⟩
theorem NUB.no {c : Nat → Int} {k m v j : Int} {s : PSt} (d : DGF c 4 s.1 = j.toNat ∧ v = VLU c s.1 (DGF c 4 s.1)) (h : j > 3 ∨ m < v) : NUB M c k m s = none := by
  unfold NUB
  rw [if_neg (by rw [← d.2, d.1]; omega)]
theorem NUB.yes {c : Nat → Int} {k m v j : Int} {s : PSt} {p : Nat} (d : DGF c 4 s.1 = j.toNat ∧ v = VLU c s.1 (DGF c 4 s.1)) (h1 : 1 ≤ j) (h : j ≤ 3) (hm : v ≤ m) (hp : (p : Int) = s.1 + j) : NUB M c k m s = some (p, s.2.1, APS M s.2.2 (k, v)) := by
  unfold NUB
  rw [if_pos (by rw [← d.2, d.1]; omega), ← d.2, d.1, show s.1 + j.toNat = p from by omega]
theorem NBI.j1 {c : Nat → Int} {p : Nat} {v j : Int} (d : DGF c 4 p = j.toNat ∧ v = VLU c p (DGF c 4 p)) (h : 48 ≤ c p ∧ c p ≤ 57) : 1 ≤ j := by
  have : 1 ≤ DGF c 4 p := by
    show 1 ≤ (if 48 ≤ c p ∧ c p ≤ 57 then DGF c 3 (p + 1) + 1 else 0)
    rw [if_pos h]; omega
  omega
theorem TAK.y {c : Nat → Int} {v x : Int} {s : PSt} {p : Nat} (hx : x = c (SKP c s.1)) (h : x = v) (hp : p = SKP c s.1 + 1) : TAK c v s = some (p, s.2) := by
  unfold TAK; rw [if_pos (by omega), hp]
theorem TAK.n {c : Nat → Int} {v x : Int} {s : PSt} (hx : x = c (SKP c s.1)) (h : x ≠ v) : TAK c v s = none := by
  unfold TAK; rw [if_neg (by omega)]
theorem TAK.c {c : Nat → Int} {v : Int} {s t : PSt} (h : TAK c v s = some t) : t.2 = s.2 := by
  unfold TAK at h
  by_cases q : c (SKP c s.1) = v
  · rw [if_pos q] at h; cases h; rfl
  · rw [if_neg q] at h; cases h
theorem RLU.n1 {c : Nat → Int} {s : PSt} (h : 40 ≤ s.2.1) : RLU M c s = none := by unfold RLU; rw [if_pos (Or.inl h)]
theorem RLU.n2 {c : Nat → Int} {s : PSt} {x : Int} (hx : x = c (s.1 + 1)) (h : (97 ≤ x ∧ x ≤ 122) ∨ (65 ≤ x ∧ x ≤ 90)) : RLU M c s = none := by unfold RLU; rw [if_pos (Or.inr (by omega))]
theorem RLU.y {c : Nat → Int} {s : PSt} {x : Int} {p : Nat} (hx : x = c (s.1 + 1)) (h : ¬ ((97 ≤ x ∧ x ≤ 122) ∨ (65 ≤ x ∧ x ≤ 90))) (hs : s.2.1 < 40) (hp : p = s.1 + 1) : RLU M c s = some (p, s.2.1 + 1, APS M s.2.2 (0, 0)) := by unfold RLU; rw [if_neg (by omega), hp]
theorem RES.x {x y : Int} {o : Option PSt} {t : PSt} (h : RES x o t) (e : y = x) : RES y o t := by subst e; exact h
theorem RES.tk {x a b : Int} {c : Nat → Int} {s t : PSt} (h : RES x (TAK c a s) t) (e : a = b) : RES x (TAK c b s) t := by subst e; exact h
theorem RES.nb {x a b a' b' : Int} {c : Nat → Int} {s t : PSt} (h : RES x (NUB M c a b s) t) (e : a = a') (e2 : b = b') : RES x (NUB M c a' b' s) t := by subst e; subst e2; exact h
theorem RNB.n {c : Nat → Int} {s : PSt} (h : 40 ≤ s.2.1) : RNB M c s = none := by unfold RNB; rw [if_pos h]
theorem RNB.y {c : Nat → Int} {s : PSt} (h : s.2.1 < 40) : RNB M c s = NUB M c 1 999 (s.1, s.2.1 + 1, s.2.2) := by unfold RNB; rw [if_neg (by omega)]
theorem ROV.n0 {c : Nat → Int} {S : PSt → Option PSt} {s : PSt} (h : 40 ≤ s.2.1) : ROV M c S s = none := by unfold ROV; rw [if_pos h]
theorem ROV.n1 {c : Nat → Int} {S : PSt → Option PSt} {s : PSt} (h : s.2.1 < 40) (e : S (s.1 + 1, s.2.1 + 1, s.2.2) = none) : ROV M c S s = none := by unfold ROV; rw [if_neg (by omega), e]; rfl
theorem ROV.n2 {c : Nat → Int} {S : PSt → Option PSt} {s t : PSt} (h : s.2.1 < 40) (e : S (s.1 + 1, s.2.1 + 1, s.2.2) = some t) (e2 : TAK c 44 t = none) : ROV M c S s = none := by
  unfold ROV; rw [if_neg (by omega), e]
  show (TAK c 44 t).bind _ = none
  rw [e2]; rfl
theorem ROV.n3 {c : Nat → Int} {S : PSt → Option PSt} {s t t2 : PSt} (h : s.2.1 < 40) (e : S (s.1 + 1, s.2.1 + 1, s.2.2) = some t) (e2 : TAK c 44 t = some t2) (e3 : S t2 = none) : ROV M c S s = none := by
  unfold ROV; rw [if_neg (by omega), e]
  show (TAK c 44 t).bind _ = none
  rw [e2]
  show (S t2).bind _ = none
  rw [e3]; rfl
theorem ROV.y {c : Nat → Int} {S : PSt → Option PSt} {s t t2 t3 : PSt} (h : s.2.1 < 40) (e : S (s.1 + 1, s.2.1 + 1, s.2.2) = some t) (e2 : TAK c 44 t = some t2) (e3 : S t2 = some t3) : ROV M c S s = (TAK c 93 t3).bind (fun t => NUB M c 4 8 (SKP c t.1, t.2)) := by
  unfold ROV; rw [if_neg (by omega), e]
  show (TAK c 44 t).bind _ = _
  rw [e2]
  show (S t2).bind _ = _
  rw [e3]; rfl
theorem NUB.z {c : Nat → Int} {k m : Int} {s : PSt} (h : ¬ (48 ≤ c s.1 ∧ c s.1 ≤ 57)) : NUB M c k m s = none := by
  unfold NUB
  have : DGF c 4 s.1 = 0 := by
    show (if 48 ≤ c s.1 ∧ c s.1 ≤ 57 then DGF c 3 (s.1 + 1) + 1 else 0) = 0
    rw [if_neg h]
  rw [if_neg (by rw [this]; omega)]
theorem RDT.ap {R : RT} {I I1 : IT} {r o : Nat} {s : PSt} {a b a' b' : Int} (hs : RDT R I r = s) (z : rA R r 0 = o) (e4 : I1 r = I r) (h : STL R I1 o = APS M (STL R I o) (a, b)) (ha : a = a') (hb : b = b') : RDT R I1 r = (s.1, s.2.1, APS M s.2.2 (a', b')) := by
  subst ha; subst hb
  exact RDT.pt hs z e4 (by rw [h, RDT.c3 hs z])
theorem RDT.z0 {R : RT} {I : IT} {r o : Nat} (e4 : (I r 4).toInt = 0) (e5 : (I r 5).toInt = 0) (z : rA R r 0 = o) (e2 : (I o 2).toInt = 0) : RDT R I r = (0, 0, []) := by
  unfold RDT STL
  rw [e4, e5, z, e2]; rfl
theorem RDA.y {c : Nat → Int} {s t : PSt} {l : List (Int × Int)} {x : Int} (h : RSU M c (RPT M c 6) s = some t) (hs : s = (0, 0, [])) (hx : x = c (SKP c t.1)) (h1 : x = -1) (hl : l = t.2.2) : RDA M c = some l := by
  subst hs; unfold RDA
  rw [h]
  show (if c (SKP c t.1) = -1 then _ else _) = _
  rw [if_pos (by omega), hl]
theorem RDA.n {c : Nat → Int} {s t : PSt} {x : Int} (h : RSU M c (RPT M c 6) s = some t) (hs : s = (0, 0, [])) (hx : x = c (SKP c t.1)) (h1 : x ≠ -1) : RDA M c = none := by
  subst hs; unfold RDA
  rw [h]
  show (if c (SKP c t.1) = -1 then _ else _) = _
  rw [if_neg (by omega)]
theorem RDA.n0 {c : Nat → Int} {s : PSt} (h : RSU M c (RPT M c 6) s = none) (hs : s = (0, 0, [])) : RDA M c = none := by
  subst hs; unfold RDA
  rw [h]; rfl
end Lxp
theorem STL.z {R : RT} {I : IT} {o : Nat} {n : Nat} {l : List (Int × Int)} (h : (I o 2).toInt = 0) (hn : n = 0) : STL R I o = l.take n := by
  subst hn; unfold STL; rw [h]; rfl
/-- the first k signs of a state laid into another -/
def SLL (R : RT) (I' I : IT) (r0 r1 : Nat) (k : Int) : Prop := ∀ j : Nat, j < 8 → (j : Int) < k → STL R I' (SA R r0 j) = STL R I (SA R r1 j) ∧ 0 ≤ (I' (SA R r0 j) 2).toInt ∧ (I' (SA R r0 j) 2).toInt ≤ 160
def SG3 (R : RT) (st j a : Nat) : Prop := a = SA R st j ∨ a = rA R (SA R st j) 0 ∨ a = rA R (SA R st j) 1
theorem SG3.u {T : Nat → Nat} {R : RT} (hU : UPR T R) {st st' i j a : Nat} (gg : GG T R st) (gg' : GG T R st') (hi : i < 8) (hj : j < 8) (h : SG3 R st i a) (h' : SG3 R st' j a) : st = st' ∧ i = j := by
  obtain ⟨r1, r2, r3⟩ := gg
  obtain ⟨q1, q2, q3⟩ := gg'
  obtain ⟨o1, o2, ⟨o3, o4⟩, o5, o6⟩ := r3 i hi
  obtain ⟨p1, p2, ⟨p3, p4⟩, p5, p6⟩ := q3 j hj
  have key : SA R st i = SA R st' j → st = st' ∧ i = j := fun e => by
    have e2 := hU (rA R st 10) i (rA R st' 10) j _ (Or.inr (Or.inl o2)) o1 (by rw [e]; exact p1)
    refine ⟨?_, e2.2⟩
    have q1' : R st' 10 = some (rA R st 10) := by rw [e2.1]; exact q1
    exact (hU st 10 st' 10 _ (Or.inr (Or.inr (Or.inr (by omega)))) r1 q1').1
  have arr : ∀ {c k c' k' b : Nat}, T b = 20 → R c k = some b → R c' k' = some b → c = c' := fun hb h1 h2 => (hU _ _ _ _ _ (t20 hb) h1 h2).1
  rcases h with h | h | h <;> rcases h' with h' | h' | h'
  · exact key (h.symm.trans h')
  · have e : SA R st i = rA R (SA R st' j) 0 := h.symm.trans h'
    exfalso; rw [← e] at p4; omega
  · have e : SA R st i = rA R (SA R st' j) 1 := h.symm.trans h'
    exfalso; rw [← e] at p6; omega
  · have e : rA R (SA R st i) 0 = SA R st' j := h.symm.trans h'
    exfalso; rw [e] at o4; omega
  · have e : rA R (SA R st i) 0 = rA R (SA R st' j) 0 := h.symm.trans h'
    exact key (arr o4 o3 (by rw [e]; exact p3))
  · have e : rA R (SA R st i) 0 = rA R (SA R st' j) 1 := h.symm.trans h'
    exact key (arr o4 o3 (by rw [e]; exact p5))
  · have e : rA R (SA R st i) 1 = SA R st' j := h.symm.trans h'
    exfalso; rw [e] at o6; omega
  · have e : rA R (SA R st i) 1 = rA R (SA R st' j) 0 := h.symm.trans h'
    exact key (arr o6 o5 (by rw [e]; exact p3))
  · have e : rA R (SA R st i) 1 = rA R (SA R st' j) 1 := h.symm.trans h'
    exact key (arr o6 o5 (by rw [e]; exact p5))
theorem SG3.ty {T : Nat → Nat} {R : RT} {st i a : Nat} (gg : GG T R st) (hi : i < 8) (h : SG3 R st i a) : T a = 8 ∨ T a = 20 ∧ ∃ c k, R c k = some a ∧ T c = 8 := by
  obtain ⟨o1, o2, ⟨o3, o4⟩, o5, o6⟩ := gg.2.2 i hi
  rcases h with h | h | h
  · left; rw [h]; exact o2
  · right; rw [h]; exact ⟨o4, _, 0, o3, o2⟩
  · right; rw [h]; exact ⟨o6, _, 1, o5, o2⟩
/-- the other state's signs are none of its cells -/
theorem OWN.ns {T : Nat → Nat} {R : RT} (hU : UPR T R) {r0 r1 j a : Nat} (g : GS T R r0) (gg : GG T R r0) (gg' : GG T R r1) (hn : r0 ≠ r1) (hj : j < 8) (h : SG3 R r1 j a) : ¬ OWN R r0 a := by
  intro q
  have ty := h.ty gg' hj
  have ho : T a = 20 → ∀ c k, R c k = some a → T c = 8 := fun t c k hc => by
    rcases ty with z | ⟨-, c', k', hc', z⟩
    · omega
    · have := (hU c k c' k' a (t20 t) hc hc').1
      rw [this]; exact z
  obtain ⟨g1, ⟨g2, g3⟩, g4, g5, g6, g7, g8, g9⟩ := g
  rcases q with (q | q | ⟨i, hi, q | q⟩) | ⟨i, hi, q | q⟩ | ⟨i, hi, q⟩ | ⟨i, hi, q⟩
  · rw [q] at ty; omega
  · subst q
    have := ho g3 r0 6 g2
    omega
  · have f := (g7 i hi).2
    rw [q] at ty; have := f.1; omega
  · have f := (g7 i hi).2
    subst q
    have := ho f.2.2 _ 1 f.2.1
    have := f.1; omega
  · have f := (g8 i hi).2
    rw [q] at ty; have := f.1; omega
  · have f := (g8 i hi).2
    subst q
    have := ho f.2.2 _ 1 f.2.1
    have := f.1; omega
  · have f := (g9 i hi).2
    rw [q] at ty; omega
  · exact hn (SG3.u hU gg gg' hi hj q h).1
theorem SLL.at {R : RT} {I I1 I2 : IT} {r0 r1 : Nat} {k : Int} (h : SLL R I1 I r0 r1 k) (f : ∀ a j, j < 8 → SG3 R r0 j a → I2 a = I1 a) : SLL R I2 I r0 r1 k := fun j hj hk => by
  obtain ⟨h1, h2⟩ := h j hj hk
  rw [STL.fr rfl rfl (by rw [f _ j hj (Or.inl rfl)]) (f _ j hj (Or.inr (Or.inl rfl))) (f _ j hj (Or.inr (Or.inr rfl))), f _ j hj (Or.inl rfl)]
  exact ⟨h1, h2⟩
theorem SLL.z {R : RT} {I' I : IT} {r0 r1 : Nat} {k : Int} (h : k = 0) : SLL R I' I r0 r1 k := fun j _ hj => by omega
theorem SLL.s {T : Nat → Nat} {R : RT} {I I1 I2 : IT} {L L1 L2 : LT} {W W2 : List (Nat × Nat)} {r0 r1 s s' a b : Nat} {k k' : Int32} (h : SLL R I1 I r0 r1 k.toInt) (hU : UPR T R) (g : GS T R r0) (gg : GG T R r0) (gg' : GG T R r1) (hn : r0 ≠ r1) (c1 : Chg (OWN R r0) T W I L I1 L1) (c2 : Chg (SL [s, a, b]) T W2 I1 L1 I2 L2) (hs : SA R r0 k.toNatClampNeg = s) (hs' : SA R r1 k.toNatClampNeg = s') (z0 : rA R s 0 = a) (z1 : rA R s 1 = b) (e : STL R I2 s = STL R I1 s') (bd : 0 ≤ (I2 s 2).toInt ∧ (I2 s 2).toInt ≤ 160) (h0 : 0 ≤ k.toInt) (h8 : k.toInt < 8) (hk : k'.toInt = k.toInt + 1) : SLL R I2 I r0 r1 k'.toInt := fun j hj hjk => by
  have n0 := ncz h0
  have hk8 : k.toNatClampNeg < 8 := by omega
  by_cases q : j = k.toNatClampNeg
  · subst q
    rw [hs, hs', e]
    refine ⟨?_, bd⟩
    subst hs'
    have f : ∀ a, SG3 R r1 k.toNatClampNeg a → I1 a = I a := fun a ha => Chg.at c1 (OWN.ns hU g gg gg' hn hk8 ha)
    exact STL.fr rfl rfl (by rw [f _ (Or.inl rfl)]) (f _ (Or.inr (Or.inl rfl))) (f _ (Or.inr (Or.inr rfl)))
  · obtain ⟨h1, h2⟩ := h j hj (by omega)
    subst hs; subst z0; subst z1
    have f : ∀ a, SG3 R r0 j a → I2 a = I1 a := fun a ha => Chg.at c2 (fun w => by
      simp only [SL, List.mem_cons, List.not_mem_nil, or_false] at w
      exact q (SG3.u hU gg gg hj hk8 ha w).2)
    rw [STL.fr rfl rfl (by rw [f _ (Or.inl rfl)]) (f _ (Or.inr (Or.inl rfl))) (f _ (Or.inr (Or.inr rfl))), f _ (Or.inl rfl)]
    exact ⟨h1, h2⟩
section AutoP
variable {d : Nat} {q : mm_T} {mc ms : Nat} {Post : Po} {V : V_T} {pc pc2 : Nat} {lv : List (Nat × Value)} {r : List Value} {ck sk : Nat}
end AutoP
