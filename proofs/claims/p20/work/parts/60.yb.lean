/-! rows of values: exactly -/
/-! -/
section AutoQ
variable {d : Nat} {q : mm_T} {mc ms : Nat} {Post : Po} {V : V_T} {pc pc2 : Nat} {lv : List (Nat × Value)} {r : List Value} {ck sk : Nat}
theorem z_imulQ (C : Cl d q mc ms Post V) {M : Mm} {x y : Int32} (hi : cdf q.2.2.2.2.2.2 pc = some (.imul, 1)) (hp : pc + 1 = pc2) (h : ∀ w : Int32, w = x * y → V pc2 lv (.int w :: r) M ck sk) : V pc lv (.int y :: .int x :: r) M ck sk := k_imul C hi hp (h _ rfl)
theorem z_iaddQ (C : Cl d q mc ms Post V) {M : Mm} {x y : Int32} (hi : cdf q.2.2.2.2.2.2 pc = some (.iadd, 1)) (hp : pc + 1 = pc2) (h : ∀ w : Int32, w = x + y → V pc2 lv (.int w :: r) M ck sk) : V pc lv (.int y :: .int x :: r) M ck sk := k_iadd C hi hp (h _ rfl)
theorem z_iandQ (C : Cl d q mc ms Post V) {M : Mm} {x y : Int32} (hi : cdf q.2.2.2.2.2.2 pc = some (.iand, 1)) (hp : pc + 1 = pc2) (h : ∀ w : Int32, w = x &&& y → V pc2 lv (.int w :: r) M ck sk) : V pc lv (.int y :: .int x :: r) M ck sk := k_iand C hi hp (h _ rfl)
theorem z_iorQ (C : Cl d q mc ms Post V) {M : Mm} {x y : Int32} (hi : cdf q.2.2.2.2.2.2 pc = some (.ior, 1)) (hp : pc + 1 = pc2) (h : ∀ w : Int32, w = x ||| y → V pc2 lv (.int w :: r) M ck sk) : V pc lv (.int y :: .int x :: r) M ck sk := k_ior C hi hp (h _ rfl)
theorem z_ishlQ (C : Cl d q mc ms Post V) {M : Mm} {x y : Int32} (hi : cdf q.2.2.2.2.2.2 pc = some (.ishl, 1)) (hp : pc + 1 = pc2) (h : ∀ w : Int32, w = x <<< (y &&& 31) → V pc2 lv (.int w :: r) M ck sk) : V pc lv (.int y :: .int x :: r) M ck sk := k_ishl C hi hp (h _ rfl)
theorem z_iushrL (C : Cl d q mc ms Post V) {M : Mm} {x y : Int32} (hi : cdf q.2.2.2.2.2.2 pc = some (.iushr, 1)) (hp : pc + 1 = pc2) (h : ∀ w : Int32, USL w x y → V pc2 lv (.int w :: r) M ck sk) : V pc lv (.int y :: .int x :: r) M ck sk := k_iushr C hi hp (h _ usl_n)
theorem isubQ {x y : Int32} (h1 : -2147483648 ≤ x.toInt - y.toInt) (h2 : x.toInt - y.toInt ≤ 2147483647) : (x - y).toInt = x.toInt - y.toInt := by
  rw [Int32.toInt_sub]
  exact Int.bmod_eq_of_le (by omega) (by omega)
def SBQ (w x y : Int32) : Prop := -2147483648 ≤ x.toInt - y.toInt → x.toInt - y.toInt ≤ 2147483647 → w.toInt = x.toInt - y.toInt
theorem z_isubQ (C : Cl d q mc ms Post V) {M : Mm} {x y : Int32} (hi : cdf q.2.2.2.2.2.2 pc = some (.isub, 1)) (hp : pc + 1 = pc2) (h : ∀ w : Int32, SBQ w x y → V pc2 lv (.int w :: r) M ck sk) : V pc lv (.int y :: .int x :: r) M ck sk := k_isub C hi hp (h _ (fun h1 h2 => isubQ h1 h2))
end AutoQ
theorem ceq {c : Int32} (h : c.toInt = 1103515245) : c = 1103515245 := Int32.toInt_inj.mp (h.trans (by decide))
theorem ceq2 {c : Int32} (h : c.toInt = 12345) : c = 12345 := Int32.toInt_inj.mp (h.trans (by decide))
theorem ceq3 {c : Int32} (h : c.toInt = 32767) : c = 32767 := Int32.toInt_inj.mp (h.trans (by decide))
theorem ceq1 {c : Int32} (h : c.toInt = 1) : c = 1 := Int32.toInt_inj.mp (h.trans (by decide))
theorem ceq0 {c : Int32} (h : c.toInt = 0) : c = 0 := Int32.toInt_inj.mp (h.trans (by decide))
theorem SL1.o {x a : Nat} (h : SL [x] a) : a = x := by
  simp only [SL, List.mem_cons, List.not_mem_nil, or_false] at h; exact h
theorem SL2.o {x y a : Nat} (h : SL [x, y] a) : a = x ∨ a = y := by
  simp only [SL, List.mem_cons, List.not_mem_nil, or_false] at h; exact h
theorem LCG.t {s x y z c e : Int32} {m : Nat} {j j' : Int32} (h : x = LCG s (m + j.toNatClampNeg)) (m1 : y = c * x) (a : z = y + e) (hc : c.toInt = 1103515245) (he : e.toInt = 12345) (h0 : 0 ≤ j.toInt) (hj : j'.toInt = j.toInt + 1) : z = LCG s (m + j'.toNatClampNeg) := by
  have n0 := ncz h0
  have n1 := ncz (x := j') (by omega)
  rw [show m + j'.toNatClampNeg = m + j.toNatClampNeg + 1 from by omega]
  have e1 := ceq hc
  have e2 := ceq2 he
  subst e1; subst e2
  exact LCG.s h m1 a
theorem LCG.n {s x y z c e : Int32} {m : Nat} (h : x = LCG s m) (m1 : y = c * x) (a : z = y + e) (hc : c.toInt = 1103515245) (he : e.toInt = 12345) : z = LCG s (m + 1) := by
  have e1 := ceq hc
  have e2 := ceq2 he
  subst e1; subst e2
  exact LCG.s h m1 a
theorem LCG.o {s x : Int32} {D : Nat} {i i' j : Int32} (h : x = LCG s (i.toNatClampNeg * (D + 1) + j.toNatClampNeg)) (hj : j.toInt = D + 1) (h0 : 0 ≤ i.toInt) (hi : i'.toInt = i.toInt + 1) : x = LCG s (i'.toNatClampNeg * (D + 1)) := by
  have n0 := ncz h0
  have n1 := ncz (x := i') (by omega)
  have n2 := ncz (x := j) (by omega)
  rw [show i'.toNatClampNeg = i.toNatClampNeg + 1 from by omega, Nat.succ_mul, show D + 1 = j.toNatClampNeg from by omega]
  rw [show D + 1 = j.toNatClampNeg from by omega] at h
  exact h
theorem LCG.z9 {s k : Int32} {m : Nat} (h : k.toInt = 0) : s = LCG s (k.toNatClampNeg * m) := by
  have n0 := ncz (x := k) (by omega)
  rw [show k.toNatClampNeg = 0 from by omega, Nat.zero_mul]; rfl
theorem LCG.a {s x : Int32} {m : Nat} {j : Int32} (h : x = LCG s m) (hj : j.toInt = 0) : x = LCG s (m + j.toNatClampNeg) := by
  have n0 := ncz (x := j) (by omega)
  rw [show m + j.toNatClampNeg = m from by omega]; exact h
/-- the objects -/
def DA (R : RT) (r k : Nat) : Nat := rA R (rA R r 2) k
theorem DA_e {R : RT} {r st o j : Nat} (z : rA R r 2 = st) (h : R st j = some o) : DA R r j = o := by unfold DA; rw [z]; exact rA_e h
def HA (R : RT) (r i : Nat) : Nat := rA R (rA R r 3) i
theorem HA_e {R : RT} {r st o j : Nat} (z : rA R r 3 = st) (h : R st j = some o) : HA R r j = o := by unfold HA; rw [z]; exact rA_e h
def GR (T : Nat → Nat) (R : RT) (r : Nat) : Prop := T r = 6 ∧ T (rA R r 2) = 23 ∧ (∀ j, j < 12 → R (rA R r 2) j = some (DA R r j) ∧ FO T R (DA R r j)) ∧ T (rA R r 3) = 26 ∧ (∀ j, j < 8 → R (rA R r 3) j = some (HA R r j) ∧ T (HA R r j) = 20) ∧ R r 4 = some (rA R r 4) ∧ T (rA R r 4) = 20 ∧ R r 2 = some (rA R r 2) ∧ R r 3 = some (rA R r 3)
theorem GR.of {T N : Nat → Nat} {R : RT} {A B : Nat → Prop} {r : Nat} (hS : SUB B A) (h : hs_Rw T N R A B r) : GR T R r := by
  obtain ⟨h1, -, -, -, -, ⟨dr, R2, T2, -, -, E2⟩, ⟨hl, R3, T3, -, -, E3⟩, ⟨fs, R4, H4⟩, -⟩ := h
  have z2 := rA_e R2
  have z3 := rA_e R3
  have z4 := rA_e R4
  refine ⟨h1, by rw [z2]; exact T2, fun j hj => ?_, by rw [z3]; exact T3, fun j hj => ?_, by rw [z4]; exact R4, by rw [z4]; exact H4.1, by rw [z2]; exact R2, by rw [z3]; exact R3⟩
  · obtain ⟨f, f1, f2⟩ := E2 j hj
    unfold DA; rw [z2, rA_e f1]; exact ⟨f1, FO.of (hs_GF hS f2)⟩
  · obtain ⟨f, f1, f2⟩ := E3 j hj
    unfold HA; rw [z3, rA_e f1]; exact ⟨f1, f2.1⟩
theorem GR.nj {T : Nat → Nat} {R : RT} {r i j : Nat} (hU : UPR T R) (hG : GR T R r) (hi : i < 12) (hj : j < 12) (hn : i ≠ j) : DA R r i ≠ DA R r j ∧ DA R r i ≠ rA R (DA R r j) 1 ∧ rA R (DA R r i) 1 ≠ DA R r j ∧ rA R (DA R r i) 1 ≠ rA R (DA R r j) 1 := by
  obtain ⟨-, -, gj, -⟩ := hG
  obtain ⟨i1, i2⟩ := gj i hi
  obtain ⟨j1, j2⟩ := gj j hj
  have n1 : DA R r i ≠ DA R r j := hU.ne (Or.inl i2.1) i1 j1 (Or.inr hn)
  exact ⟨n1, fun e => by have := j2.2.2; rw [← e] at this; have := i2.1; omega, fun e => by have := i2.2.2; rw [e] at this; have := j2.1; omega, obneq hU i2 j2 n1⟩
theorem GR.hj {T : Nat → Nat} {R : RT} {r i j : Nat} (hU : UPR T R) (hG : GR T R r) (hi : i < 8) (hj : j < 8) (hn : i ≠ j) : HA R r i ≠ HA R r j := by
  obtain ⟨-, -, -, -, gj, -⟩ := hG
  exact hU.ne (Or.inr (Or.inr (Or.inr (by have := (gj i hi).2; omega)))) (gj i hi).1 (gj j hj).1 (Or.inr hn)
theorem GR.hf {T : Nat → Nat} {R : RT} {r i : Nat} (hU : UPR T R) (hG : GR T R r) (hi : i < 8) : HA R r i ≠ rA R r 4 := by
  obtain ⟨t1, -, -, t3, gj, r4, -⟩ := hG
  exact hU.ne (Or.inr (Or.inr (Or.inr (by have := (gj i hi).2; omega)))) (gj i hi).1 r4 (Or.inl (fun e => by rw [e] at t3; omega))
/-- the forms drawn: laid -/
def DRI (R : RT) (I : IT) (r : Nat) (p : Int) (s : Int32) (D n : Nat) : Prop := ∀ k, k < n → (I (DA R r k) 0).toInt = D ∧ ∀ j : Nat, j ≤ D → (I (rA R (DA R r k) 1) j).toInt = DRN s (k * (D + 1) + j) % p
theorem DRI.z {R : RT} {I : IT} {r D : Nat} {p : Int} {s k : Int32} (h : k.toInt = 0) : DRI R I r p s D k.toNatClampNeg := fun j hj => by
  have n0 := ncz (x := k) (by omega)
  omega
theorem DRI.fr {T : Nat → Nat} {R : RT} {I I' : IT} {L L' : LT} {S : Nat → Prop} {W : List (Nat × Nat)} {r D n f fb : Nat} {p : Int} {s : Int32} (h : DRI R I r p s D n) (hU : UPR T R) (hG : GR T R r) (hn : n < 12) (ch : Chg S T W I L I' L') (o : DA R r n = f) (z : rA R f 1 = fb) (hS : ∀ a, S a → a = f ∨ a = fb) : DRI R I' r p s D n := fun k hk => by
  subst z; subst o
  obtain ⟨n1, n2, n3, n4⟩ := GR.nj hU hG (i := k) (j := n) (by omega) hn (by omega)
  have e1 : I' (DA R r k) = I (DA R r k) := Chg.at ch (fun q => (hS _ q).elim n1 n2)
  have e2 : I' (rA R (DA R r k) 1) = I (rA R (DA R r k) 1) := Chg.at ch (fun q => (hS _ q).elim n3 n4)
  rw [e1, e2]; exact h k hk
def DRK (I : IT) (b : Nat) (p : Int) (s : Int32) (m : Nat) (k : Int) : Prop := ∀ j : Nat, (j : Int) < k → (I b j).toInt = DRN s (m + j) % p
theorem DRK.z {I : IT} {b m : Nat} {p k : Int} {s : Int32} (h : k = 0) : DRK I b p s m k := fun j hj => by omega
theorem DRK.s {I1 I2 : IT} {b m : Nat} {p : Int} {s u w k k' : Int32} {l : Int64} (h : DRK I1 b p s m k.toInt) (st : STD I1 I2 b k u) (hu : u.toInt = l.toInt % p) (hl : l.toInt = w.toInt) (hw : w.toInt = DRN s (m + k.toNatClampNeg)) (h0 : 0 ≤ k.toInt) (h40 : k.toInt < 41) (hk : k'.toInt = k.toInt + 1) : DRK I2 b p s m k'.toInt := fun j hj => by
  have n0 := ncz h0
  rw [st.1 h0 h40]
  by_cases z : j = k.toNatClampNeg
  · subst z
    rw [u2_s, hu, hl, hw]
  · rw [u2_k z]; exact h j (by omega)
theorem DRI.s {R : RT} {I : IT} {r D f fb : Nat} {p : Int} {s k k' : Int32} {kk : Int} (h : DRI R I r p s D k.toNatClampNeg) (o : DA R r k.toNatClampNeg = f) (z : rA R f 1 = fb) (hd : (I f 0).toInt = D) (hk : DRK I fb p s (k.toNatClampNeg * (D + 1)) kk) (hkk : D < kk) (h0 : 0 ≤ k.toInt) (e : k'.toInt = k.toInt + 1) : DRI R I r p s D k'.toNatClampNeg := fun i hi => by
  have n0 := ncz h0
  have n1 := ncz (x := k') (by omega)
  by_cases q : i = k.toNatClampNeg
  · subst q
    rw [o, z]; exact ⟨hd, fun j hj => hk j (by omega)⟩
  · exact h i (by omega)
theorem DRI.n {R : RT} {I : IT} {r D n : Nat} {p : Int} {s k : Int32} (h : DRI R I r p s D k.toNatClampNeg) (hk : k.toInt = n) : DRI R I r p s D n := fun i hi => h i (by have := ncz (x := k) (by omega); omega)
/-- what is left of the next row when n of the rows held are taken out -/
def HEL (R : RT) (I : IT) (r : Nat) (p : Int) (n : Nat) : Nat → Int := ELM p (fun i k => (I (HA R r i) k).toInt) (fun i => (I (rA R r 4) i).toInt.toNat) (fun k => (I (HA R r (I r 6).toNatClampNeg) k).toInt) n
def CAN (R : RT) (I : IT) (r : Nat) (p w : Int) : Prop := ∀ i, i ≤ (I r 6).toNatClampNeg → ∀ k : Nat, (k : Int) < w → 0 ≤ (I (HA R r i) k).toInt ∧ (I (HA R r i) k).toInt < p
def LDX (R : RT) (I : IT) (r : Nat) (w : Int) : Prop := ∀ i, i < (I r 6).toNatClampNeg → 0 ≤ (I (rA R r 4) i).toInt ∧ (I (rA R r 4) i).toInt < w
theorem HEL.b {R : RT} {I : IT} {r n k : Nat} {p w : Int} (h : CAN R I r p w) (hp : 0 < p) (hk : (k : Int) < w) : 0 ≤ HEL R I r p n k ∧ HEL R I r p n k < p := ELM.b hp (h _ (Nat.le_refl _) k hk) n
def EDN (I' : IT) (h : Nat) (E : Nat → Int) (w : Int) : Prop := ∀ k : Nat, (k : Int) < w → (I' h k).toInt = E k
theorem EDN.z {R : RT} {I I' : IT} {r h : Nat} {p w : Int} {k : Int32} (o : HA R r (I r 6).toNatClampNeg = h) (e : I' h = I h) (hk : k.toInt = 0) : EDN I' h (HEL R I r p k.toNatClampNeg) w := fun j _ => by
  have n0 := ncz (x := k) (by omega)
  rw [show k.toNatClampNeg = 0 from by omega, e, ← o]; rfl
theorem EDN.sm {I1 I2 : IT} {h : Nat} {E : Nat → Int} {w : Int} (q : EDN I1 h E w) (e : I2 h = I1 h) : EDN I2 h E w := fun k hk => by rw [e]; exact q k hk
def EDM (I' : IT) (h : Nat) (E1 E0 : Nat → Int) (w k : Int) : Prop := ∀ j : Nat, (j : Int) < w → (I' h j).toInt = if (j : Int) < k then E1 j else E0 j
theorem EDM.z {I' : IT} {h : Nat} {E1 E0 : Nat → Int} {w k : Int} (q : EDN I' h E0 w) (hk : k = 0) : EDM I' h E1 E0 w k := fun j hj => by rw [if_neg (by omega)]; exact q j hj
theorem EDM.s {I1 I2 : IT} {h : Nat} {E1 E0 : Nat → Int} {w : Int} {k k' v : Int32} (q : EDM I1 h E1 E0 w k.toInt) (u : I2 = u2 I1 h k.toNatClampNeg v) (hv : v.toInt = E1 k.toNatClampNeg) (h0 : 0 ≤ k.toInt) (hk : k'.toInt = k.toInt + 1) : EDM I2 h E1 E0 w k'.toInt := fun j hj => by
  have n0 := ncz h0
  rw [u]
  by_cases z : j = k.toNatClampNeg
  · subst z
    rw [u2_s, if_pos (by omega)]; exact hv
  · rw [u2_k z, q j hj]
    by_cases c : (j : Int) < k.toInt
    · rw [if_pos c, if_pos (by omega)]
    · rw [if_neg c, if_neg (by omega)]
theorem EDM.e {I' : IT} {h : Nat} {E1 E0 : Nat → Int} {w k : Int} (q : EDM I' h E1 E0 w k) (hk : w ≤ k) : EDN I' h E1 w := fun j hj => by rw [q j hj, if_pos (by omega)]
theorem EDM.t {I' : IT} {h : Nat} {E1 E0 : Nat → Int} {w k : Int} (q : EDM I' h E1 E0 w k) (he : ∀ j : Nat, (j : Int) < w → E1 j = E0 j) : EDN I' h E1 w := fun j hj => by
  rw [q j hj]
  by_cases c : (j : Int) < k
  · rw [if_pos c]
  · rw [if_neg c, he j hj]
theorem EDM.g {I' : IT} {h : Nat} {E1 E0 : Nat → Int} {w : Int} {k a : Int32} (q : EDM I' h E1 E0 w k.toInt) (e : I' h k.toNatClampNeg = a) (h0 : 0 ≤ k.toInt) (hk : k.toInt < w) : a.toInt = E0 k.toNatClampNeg := by
  have n0 := ncz h0
  rw [← e, q _ (by omega), if_neg (by omega)]
theorem EDN.g {I' : IT} {h : Nat} {E : Nat → Int} {w : Int} {k a : Int32} (q : EDN I' h E w) (e : I' h k.toNatClampNeg = a) (h0 : 0 ≤ k.toInt) (hk : k.toInt < w) : a.toInt = E k.toNatClampNeg := by
  have n0 := ncz h0
  rw [← e, q _ (by omega)]
theorem EDN.s {I' : IT} {R : RT} {I : IT} {r h : Nat} {p w : Int} {k k' : Int32} (q : EDN I' h (HEL R I r p (k.toNatClampNeg + 1)) w) (h0 : 0 ≤ k.toInt) (hk : k'.toInt = k.toInt + 1) : EDN I' h (HEL R I r p k'.toNatClampNeg) w := by
  have n0 := ncz h0
  have n1 := ncz (x := k') (by omega)
  rw [show k'.toNatClampNeg = k.toNatClampNeg + 1 from by omega]; exact q
theorem HEL.z {R : RT} {I : IT} {r n : Nat} {p w : Int} (h : CAN R I r p w) (hp : 0 < p) (ht : HEL R I r p n (I (rA R r 4) n).toInt.toNat = 0) (j : Nat) (hj : (j : Int) < w) : HEL R I r p (n + 1) j = HEL R I r p n j := by
  have b := HEL.b (n := n) h hp hj
  show (HEL R I r p n j - HEL R I r p n (I (rA R r 4) n).toInt.toNat * (I (HA R r n) j).toInt) % p = _
  rw [ht, Int.zero_mul, Int.sub_zero]
  exact Int.emod_eq_of_lt b.1 b.2
theorem mul19 {a b : Int} (h1 : 0 ≤ a) (h2 : a < 19) (h3 : 0 ≤ b) (h4 : b < 19) : 0 ≤ a * b ∧ a * b ≤ 324 := ⟨Int.mul_nonneg h1 h3, Int.le_trans (Int.mul_le_mul (show a ≤ 18 by omega) (show b ≤ 18 by omega) h3 (by omega)) (by decide)⟩
theorem HEL.v {R : RT} {I : IT} {r : Nat} {p w : Int} {n k a t o m s v : Int32} {l : Int64} (h : CAN R I r p w) (hl : LDX R I r w) (hp : 0 < p ∧ p ≤ 19) (hk : k.toInt < w) (h0 : 0 ≤ k.toInt) (hn : n.toNatClampNeg < (I r 6).toNatClampNeg) (ha : a.toInt = HEL R I r p n.toNatClampNeg k.toNatClampNeg) (ht : t.toInt = HEL R I r p n.toNatClampNeg (I (rA R r 4) n.toNatClampNeg).toInt.toNat) (ho : (I (HA R r n.toNatClampNeg) k.toNatClampNeg).toInt = o.toInt) (mm : IMX m t o) (sb : SBQ s a m) (el : l.toInt = s.toInt) (hv : v.toInt = l.toInt % p) : v.toInt = HEL R I r p (n.toNatClampNeg + 1) k.toNatClampNeg := by
  have n0 := ncz h0
  have ba := HEL.b (n := n.toNatClampNeg) h hp.1 (show (k.toNatClampNeg : Int) < w by omega)
  have lb := hl _ hn
  have bt := HEL.b (n := n.toNatClampNeg) (k := (I (rA R r 4) n.toNatClampNeg).toInt.toNat) h hp.1 (by omega)
  have bo := h n.toNatClampNeg (by omega) k.toNatClampNeg (by omega)
  rw [ho] at bo
  rw [← ha] at ba
  rw [← ht] at bt
  have mb := mul19 (a := t.toInt) (b := o.toInt) (by omega) (by omega) (by omega) (by omega)
  have em := mm (by omega) (by omega)
  have es := sb (by omega) (by omega)
  show v.toInt = (HEL R I r p n.toNatClampNeg k.toNatClampNeg - HEL R I r p n.toNatClampNeg (I (rA R r 4) n.toNatClampNeg).toInt.toNat * (I (HA R r n.toNatClampNeg) k.toNatClampNeg).toInt) % p
  rw [← ha, ← ht, ho, hv, el, es, em]
theorem FSW.h {I' : IT} {h : Nat} {E : Nat → Int} {w x : Int} (q : EDN I' h E w) (z : ∀ j : Nat, (j : Int) < x → (I' h j).toInt = 0) (h0 : 0 ≤ x) (hx : x ≤ w) (hn : x < w → (I' h x.toNat).toInt ≠ 0) : FSW E w.toNat = x.toNat := by
  refine FSX.w (row := fun j => (I' h j).toInt) ⟨by omega, fun j hj => z j (by omega), fun c => hn (by omega)⟩ (fun j hj => q j (by omega))
theorem EDM.f {I' : IT} {h : Nat} {E : Nat → Int} {p w k : Int} {f : Nat} (q : EDN I' h E w) (z : ∀ j : Nat, (j : Int) < k → (I' h j).toInt = 0) (hk : k ≤ w) : EDM I' h (NRW p E f) E w k := fun j hj => by
  by_cases c : (j : Int) < k
  · rw [if_pos c, z j c]
    have e := q j hj
    rw [z j c] at e
    show 0 = (E j * IVP p (E f)) % p
    rw [← e, Int.zero_mul]; rfl
  · rw [if_neg c]; exact q j hj
theorem NRW.v {R : RT} {I : IT} {r n f : Nat} {p w : Int} {k a o m v : Int32} {l : Int64} (h : CAN R I r p w) (hp : 0 < p ∧ p ≤ 19) (hk : k.toInt < w) (h0 : 0 ≤ k.toInt) (ha : a.toInt = HEL R I r p n k.toNatClampNeg) (ho : o.toInt = IVP p (HEL R I r p n f)) (mm : IMX m a o) (el : l.toInt = m.toInt) (hv : v.toInt = l.toInt % p) : v.toInt = NRW p (HEL R I r p n) f k.toNatClampNeg := by
  have n0 := ncz h0
  have ba := HEL.b (n := n) h hp.1 (show (k.toNatClampNeg : Int) < w by omega)
  rw [← ha] at ba
  have bo : 0 ≤ o.toInt ∧ o.toInt < p := by
    rw [ho]; exact ⟨Int.emod_nonneg _ (by omega), Int.emod_lt_of_pos _ hp.1⟩
  have mb := mul19 (a := a.toInt) (b := o.toInt) (by omega) (by omega) (by omega) (by omega)
  have em := mm (by omega) (by omega)
  show v.toInt = (HEL R I r p n k.toNatClampNeg * IVP p (HEL R I r p n f)) % p
  rw [← ha, ← ho, hv, el, em]
theorem FSW.h2 {I' : IT} {h : Nat} {E : Nat → Int} {w : Int} {x a : Int32} (q : EDN I' h E w) (z : ∀ j : Nat, (j : Int) < x.toInt → (I' h j).toInt = 0) (e : I' h x.toNatClampNeg = a) (ha : a.toInt ≠ 0) (h0 : 0 ≤ x.toInt) (hx : x.toInt < w) : FSW E w.toNat = x.toNatClampNeg := by
  have n0 := ncz h0
  have r := FSW.h q z h0 (by omega) (fun _ => by rw [show x.toInt.toNat = x.toNatClampNeg from by omega, e]; exact ha)
  rw [r]; omega
theorem ZNJ.s {I' : IT} {h : Nat} {k k' a : Int32} (z : ∀ j : Nat, (j : Int) < k.toInt → (I' h j).toInt = 0) (e : I' h k.toNatClampNeg = a) (ha : a.toInt = 0) (h0 : 0 ≤ k.toInt) (hk : k'.toInt = k.toInt + 1) : ∀ j : Nat, (j : Int) < k'.toInt → (I' h j).toInt = 0 := fun j hj => by
  have n0 := ncz h0
  by_cases q : j = k.toNatClampNeg
  · subst q; rw [e]; exact ha
  · exact z j (by omega)
theorem GR.h3 {T : Nat → Nat} {R : RT} {r i j : Nat} (hU : UPR T R) (hG : GR T R r) (hi : i < 8) (hj : j < 8) (hn : i ≠ j) : ¬ (HA R r i = r ∨ HA R r i = HA R r j ∨ HA R r i = rA R r 4) := fun q => by
  rcases q with q | q | q
  · have := (hG.2.2.2.2.1 i hi).2
    rw [q] at this
    have := hG.1
    omega
  · exact GR.hj hU hG hi hj hn q
  · exact GR.hf hU hG hi q
/-- a value put behind the others -/
def APK (I9 I : IT) (h b P : Nat) (k : Int) : Prop := (∀ j : Nat, (j : Int) < k → (I9 h (P + j)).toInt = (I b j).toInt) ∧ ∀ j, j < P → I9 h j = I h j
theorem APK.z {I9 I : IT} {h b P : Nat} {k : Int} (e : I9 h = I h) (hk : k = 0) : APK I9 I h b P k := ⟨fun j hj => by omega, fun j _ => by rw [e]⟩
theorem APK.s {I1 I2 I3 I : IT} {h b : Nat} {x D : Int} {P k k' i v : Int32} (q : APK I1 I h b P.toNatClampNeg k.toInt) (ga : GTD x D (fun j => (I1 b j).toInt) k.toInt) (eb : I1 b = I b) (hv : v.toInt = x) (u : I2 = u2 I1 h i.toNatClampNeg v) (e3 : I3 h = I2 h) (hi : i.toInt = P.toInt + k.toInt) (hP : 0 ≤ P.toInt) (h0 : 0 ≤ k.toInt) (hD : k.toInt ≤ D) (hk : k'.toInt = k.toInt + 1) : APK I3 I h b P.toNatClampNeg k'.toInt := by
  have n0 := ncz h0
  have n1 := ncz hP
  have n2 := ncz (x := i) (by omega)
  refine ⟨fun j hj => ?_, fun j hj => ?_⟩
  · rw [e3, u]
    by_cases z : j = k.toNatClampNeg
    · subst z
      rw [show P.toNatClampNeg + k.toNatClampNeg = i.toNatClampNeg from by omega, u2_s, hv]
      have := ga.1 h0 hD
      rw [this, show k.toInt.toNat = k.toNatClampNeg from by omega, eb]
    · rw [u2_k (by omega)]; exact q.1 j (by omega)
  · rw [e3, u, u2_k (by omega)]; exact q.2 j hj
theorem s_X5_draw_x {d : Nat} {T N : Nat → Nat} {I : IT} {L : LT} {R : RT} {A B : Nat → Prop} {r0 : Nat} {n1 n2 : Int32} (hS : SUB B A) (hI : IX A T I) (H_r0 : (hs_Rw T N R A B) r0) (b0_n1 : 1 ≤ n1.toInt) (b1_n1 : n1.toInt ≤ 8) (hU : UPR T R) : Ex (d + 3) 76 [.ref r0, .int n1, .int n2] (T, N, I, L, R) 0 0 (pV T N R (fun I9 L9 => (DRI R I9 r0 (I (rA R (rA R r0 0) 0) 0).toInt n2 n1.toInt.toNat 12) ∧ (IX A T I9 ∧ Chg (fun a => ∃ k, k < 12 ∧ (a = DA R r0 k ∨ a = rA R (DA R r0 k) 1)) T [(3, 0)] I L I9 L9))) := by
  refine ⟨_, rfl, Nat.le_of_ble_eq_true rfl, fun V C S => ?_⟩
  show V 0 [(0, .ref r0), (1, .int n1), (2, .int n2)] [] (T, N, I, L, R) 0 0
  have gn1 := rg n1
  have gn2 := rg n2
  obtain ⟨T_r0, A_r0, B_r0, ⟨r0_0, R_r0_0, H_r0_0⟩, ⟨r0_1, R_r0_1, H_r0_1⟩, ⟨r0_2, R_r0_2, H_r0_2⟩, ⟨r0_3, R_r0_3, H_r0_3⟩, ⟨r0_4, R_r0_4, H_r0_4⟩, ⟨r0_5, R_r0_5, H_r0_5⟩⟩ := id H_r0
  have z_r0_0 : rA R r0 0 = r0_0 := rA_e R_r0_0
  have z_r0_1 : rA R r0 1 = r0_1 := rA_e R_r0_1
  have z_r0_2 : rA R r0 2 = r0_2 := rA_e R_r0_2
  have z_r0_3 : rA R r0 3 = r0_3 := rA_e R_r0_3
  have z_r0_4 : rA R r0 4 = r0_4 := rA_e R_r0_4
  have z_r0_5 : rA R r0 5 = r0_5 := rA_e R_r0_5
  obtain ⟨T_r0_0, A_r0_0, B_r0_0, ⟨r0_0_0, R_r0_0_0, H_r0_0_0⟩, ⟨r0_0_1, R_r0_0_1, H_r0_0_1⟩, ⟨r0_0_2, R_r0_0_2, H_r0_0_2⟩⟩ := id H_r0_0
  have z_r0_0_0 : rA R r0_0 0 = r0_0_0 := rA_e R_r0_0_0
  have z_r0_0_1 : rA R r0_0 1 = r0_0_1 := rA_e R_r0_0_1
  have z_r0_0_2 : rA R r0_0 2 = r0_0_2 := rA_e R_r0_0_2
  obtain ⟨T_r0_0_0, A_r0_0_0, B_r0_0_0, ⟨r0_0_0_6, R_r0_0_0_6, H_r0_0_0_6⟩, ⟨r0_0_0_7, R_r0_0_0_7, H_r0_0_0_7⟩, ⟨r0_0_0_8, R_r0_0_0_8, H_r0_0_0_8⟩, ⟨r0_0_0_9, R_r0_0_0_9, H_r0_0_0_9⟩, ⟨r0_0_0_10, R_r0_0_0_10, H_r0_0_0_10⟩⟩ := id H_r0_0_0
  have z_r0_0_0_6 : rA R r0_0_0 6 = r0_0_0_6 := rA_e R_r0_0_0_6
  have z_r0_0_0_7 : rA R r0_0_0 7 = r0_0_0_7 := rA_e R_r0_0_0_7
  have z_r0_0_0_8 : rA R r0_0_0 8 = r0_0_0_8 := rA_e R_r0_0_0_8
  have z_r0_0_0_9 : rA R r0_0_0 9 = r0_0_0_9 := rA_e R_r0_0_0_9
  have z_r0_0_0_10 : rA R r0_0_0 10 = r0_0_0_10 := rA_e R_r0_0_0_10
  obtain ⟨T_r0_2, N_r0_2, A_r0_2, E_r0_2⟩ := id H_r0_2
  have gR := GR.of hS H_r0
  obtain ⟨w_r0_0_0_0, k0_r0_0_0_0⟩ : ∃ x, I r0_0_0 0 = x := ⟨_, rfl⟩
  have gw_r0_0_0_0 := rg w_r0_0_0_0
  have ow_r0_0_0_0 := IX.p hI A_r0_0_0 T_r0_0_0 k0_r0_0_0_0
  refine k_iload_n C rfl rfl rfl ?_
  refine k_istore_n C (lw := [(3, .int n2), (0, .ref r0), (1, .int n1), (2, .int n2)]) rfl rfl (Nat.le_of_ble_eq_true rfl) rfl ?_
  refine z_iconst C (z := 0) rfl rfl rfl (fun x1 ex1 => ?_)
  have J2 : ∀ (nn3 : Nat) (I4 : IT) (L5 : LT) (x6 : Int32) (x7 : Int32), (MN (12 - x7.toInt) nn3) → (IX A T I4) → (Chg (fun a => ∃ k, k < 12 ∧ (a = DA R r0 k ∨ a = rA R (DA R r0 k) 1)) T [(3, 0)] I L I4 L5) → (0 ≤ x7.toInt) → (x7.toInt ≤ 12) → (x6 = LCG n2 (x7.toNatClampNeg * (n1.toInt.toNat + 1))) → (DRI R I4 r0 w_r0_0_0_0.toInt n2 n1.toInt.toNat x7.toNatClampNeg) → (x7.toInt ≤ 12) → V 5 [(0, .ref r0), (1, .int n1), (3, .int x6), (4, .int x7)] [] (T, N, I4, L5, R) 0 0 := by
    intro nn3
    induction nn3 using Nat.strongRecOn with
    | _ nn3 ihJ2 =>
      intro I4 L5 x6 x7 hmnn3 hI11 S10 b8 b9 ff5_0 ff5_1 ff5_2
      have gx6 := rg x6
      have gx7 := rg x7
      have e15 := Chg.k S10 T_r0_0_0 (by decide) (by decide) k0_r0_0_0_0
      refine k_iload C rfl rfl rfl ?_
      refine z_bipush C (z := 12) rfl rfl rfl (fun x16 ex16 => ?_)
      refine b_icmp_ge C (t := 87) rfl rfl rfl (fun c17 => ?_) (fun c17 => ?_)
      · skip
        exact k_vret C rfl rfl (Nat.le_of_ble_eq_true rfl) (Nat.le_of_ble_eq_true rfl) ⟨_, _, rfl, rfl, by (try simp only [z_r0_0, z_r0_1, z_r0_2, z_r0_3, z_r0_4, z_r0_5, z_r0_0_0, z_r0_0_1, z_r0_0_2, z_r0_0_0_6, z_r0_0_0_7, z_r0_0_0_8, z_r0_0_0_9, z_r0_0_0_10]); simp only [k0_r0_0_0_0]; exact ff5_1.n (by omega), hI11, (Chg.mono S10 (by decide))⟩
      refine k_aload_n C rfl rfl rfl ?_
      refine g_R C rfl rfl rfl T_r0 rfl R_r0_2 ?_
      refine k_iload C rfl rfl rfl ?_
      have iN := ncn (n := 12) (j := x7) (by omega) (by omega)
      refine c_SR C (s_X2_pick_Row12_x hS hI11 H_r0_2) rfl rfl rfl rfl rfl rfl rfl (Nat.le_of_ble_eq_true rfl) (Nat.le_of_ble_eq_true rfl) (Nat.le_of_ble_eq_true rfl) ?_
      rintro yy18 _ _ ⟨hyy18, p0yy18, rfl, rfl⟩
      try simp only [z_r0_0, z_r0_1, z_r0_2, z_r0_3, z_r0_4, z_r0_5, z_r0_0_0, z_r0_0_1, z_r0_0_2, z_r0_0_0_6, z_r0_0_0_7, z_r0_0_0_8, z_r0_0_0_9, z_r0_0_0_10] at p0yy18
      try simp only [e15] at p0yy18
      try have q0yy18 := congrArg Int32.toInt p0yy18
      have hpN := p0yy18; rw [N_r0_2] at hpN
      refine k_astoreV C (x := yy18) (lw := [(5, va_rf yy18), (0, .ref r0), (1, .int n1), (3, .int x6), (4, .int x7)]) rfl rfl (Nat.le_of_ble_eq_true rfl) rfl ?_
      refine k_aloadV C (x := yy18) rfl rfl rfl ?_
      refine k_ifnull C (x := yy18) (t := 81) rfl rfl rfl (fun c19 => ?_) (fun rr20 c19 => ?_)
      · skip
        subst c19
        exact (PKD.no hpN (by omega) (by omega) E_r0_2).elim
      subst c19
      have H_rr20 := hyy18 rr20 rfl
      have oN := DA_e z_r0_2 (PKD.q hpN (by omega) (by omega)); have fN := FO.of (hs_GF hS H_rr20)
      refine k_aload C rfl rfl rfl ?_
      refine k_iload_n C rfl rfl rfl ?_
      obtain ⟨T_rr20, A_rr20, B_rr20, ⟨rr20_1, R_rr20_1, H_rr20_1⟩⟩ := id H_rr20
      have z_rr20_1 : rA R rr20 1 = rr20_1 := rA_e R_rr20_1
      refine c_VV C (s_X2_begin_x hS hI11 (hs_GF hS H_rr20)) rfl rfl rfl rfl rfl ⟨_, rfl, rfl, T_rr20, Nat.le_of_ble_eq_true rfl⟩ rfl rfl (Nat.le_of_ble_eq_true rfl) (Nat.le_of_ble_eq_true rfl) (Nat.le_of_ble_eq_true rfl) ?_
      rintro I22 L23 ⟨p0v21, p1v21, hI22, S24⟩
      try simp only [z_r0_0, z_r0_1, z_r0_2, z_r0_3, z_r0_4, z_r0_5, z_r0_0_0, z_r0_0_1, z_r0_0_2, z_r0_0_0_6, z_r0_0_0_7, z_r0_0_0_8, z_r0_0_0_9, z_r0_0_0_10, z_rr20_1] at S24
      have e25 := Chg.k S24 T_r0_0_0 (by decide) (by decide) e15
      obtain ⟨x26, e27⟩ : ∃ x, I22 rr20 0 = x := ⟨_, rfl⟩
      have gx26 := rg x26
      have ox26 := IX.deg hI22 A_rr20 T_rr20 e27
      try simp only [z_r0_0, z_r0_1, z_r0_2, z_r0_3, z_r0_4, z_r0_5, z_r0_0_0, z_r0_0_1, z_r0_0_2, z_r0_0_0_6, z_r0_0_0_7, z_r0_0_0_8, z_r0_0_0_9, z_r0_0_0_10, z_rr20_1] at p0v21
      try simp only [z_r0_0, z_r0_1, z_r0_2, z_r0_3, z_r0_4, z_r0_5, z_r0_0_0, z_r0_0_1, z_r0_0_2, z_r0_0_0_6, z_r0_0_0_7, z_r0_0_0_8, z_r0_0_0_9, z_r0_0_0_10, z_rr20_1] at p1v21
      try simp only [e15, e27] at p0v21
      try have q0v21 := congrArg Int32.toInt p0v21
      try simp only [e15, e27] at p1v21
      try have q1v21 := congrArg Int32.toInt p1v21
      have hcl := p0v21.2.2 (by omega) (by omega); have hD31 := ff5_1.fr hU gR iN S24 oN rfl (fun a h => by have z9 := SL2.o h; rw [← z_rr20_1] at z9; exact z9)
      refine z_iconst C (z := 0) rfl rfl rfl (fun x28 ex28 => ?_)
      have J29 : ∀ (nn30 : Nat) (I31 : IT) (L32 : LT) (x33 : Int32) (x34 : Int32), (MN (9 - x34.toInt) nn30) → (IX A T I31) → (Chg (fun a => ∃ k, k < 12 ∧ (a = DA R r0 k ∨ a = rA R (DA R r0 k) 1)) T [] I22 L23 I31 L32) → (0 ≤ x34.toInt) → (x34.toInt ≤ 9) → (x33 = LCG n2 (x7.toNatClampNeg * (n1.toInt.toNat + 1) + x34.toNatClampNeg)) → (DRI R I31 r0 w_r0_0_0_0.toInt n2 n1.toInt.toNat x7.toNatClampNeg) → ((I31 rr20 0).toInt = n1.toInt.toNat) → (DRK I31 (rA R rr20 1) w_r0_0_0_0.toInt n2 (x7.toNatClampNeg * (n1.toInt.toNat + 1)) x34.toInt) → (x34.toInt ≤ n1.toInt + 1) → V 37 [(0, .ref r0), (1, .int n1), (3, .int x33), (4, .int x7), (5, .ref rr20), (6, .int x34)] [] (T, N, I31, L32, R) 0 0 := by
        intro nn30
        induction nn30 using Nat.strongRecOn with
        | _ nn30 ihJ29 =>
          intro I31 L32 x33 x34 hmnn30 hI38 S37 b35 b36 ff37_0 ff37_1 ff37_2 ff37_3 ff37_4
          have gx33 := rg x33
          have gx34 := rg x34
          have e44 := Chg.k S37 T_r0_0_0 (by decide) (by decide) e25
          have e45 := Chg.k S37 T_rr20 (by decide) (by decide) e27
          refine k_iload C rfl rfl rfl ?_
          refine k_iload_n C rfl rfl rfl ?_
          refine b_icmp_gt C (t := 81) rfl rfl rfl (fun c46 => ?_) (fun c46 => ?_)
          · skip
            refine z_iinc C (z := 1) (lw := fun x47 => [(4, .int x47), (0, .ref r0), (1, .int n1), (3, .int x33), (5, .ref rr20), (6, .int x34)]) rfl rfl rfl (Nat.le_of_ble_eq_true rfl) rfl ⟨by omega, by omega⟩ (fun _ => rfl) (fun x47 ex47 => ?_)
            show V 84 [(4, .int x47), (0, .ref r0), (1, .int n1), (3, .int x33), (5, .ref rr20), (6, .int x34)] _ _ _ _
            refine k_goto C (pc2 := 5) rfl rfl ?_
            refine k_sub S [(0, .ref r0), (1, .int n1), (3, .int x33), (4, .int x47)] (List.forall_mem_cons.mpr ⟨List.mem_of_getElem? (i := 1) rfl, List.forall_mem_cons.mpr ⟨List.mem_of_getElem? (i := 2) rfl, List.forall_mem_cons.mpr ⟨List.mem_of_getElem? (i := 3) rfl, List.forall_mem_cons.mpr ⟨List.mem_of_getElem? (i := 0) rfl, fun _ h => nomatch h⟩⟩⟩⟩) ?_
            exact ihJ2 _ (MN.lt hmnn3 (by omega) (by omega)) I31 L32 x33 x47 rfl hI38 (Chg.cons S10 (Chg.cons (Chg.up S24 (sl_2 (⟨_, iN, Or.inl oN.symm⟩) (⟨_, iN, Or.inr (by rw [oN]; exact z_rr20_1.symm)⟩))) (Chg.mono S37 (by decide)) (by decide)) (by decide)) (by omega) (by omega) (by exact LCG.o ff37_0 (by omega) (by omega) (by omega)) (by exact ff37_1.s oN rfl ff37_2 ff37_3 (by omega) (by omega) (by omega)) (by omega)
          refine z_ldc C (y := 1103515245) rfl rfl rfl (fun x48 ex48 => ?_)
          have gx48 := rg x48
          have c43 : x48.toInt = 1103515245 := ex48.trans (by decide)
          clear ex48
          refine k_iload_n C rfl rfl rfl ?_
          refine z_imulQ C rfl rfl (fun x49 ex49 => ?_)
          have gx49 := rg x49
          have m46 := ex49
          refine z_sipush C (z := 12345) rfl rfl rfl (fun x50 ex50 => ?_)
          have c50 : x50.toInt = 12345 := (by omega)
          refine z_iaddQ C rfl rfl (fun x51 ex51 => ?_)
          have gx51 := rg x51
          have m50 := ex51
          refine k_istore_n C (lw := [(3, .int x51), (0, .ref r0), (1, .int n1), (4, .int x7), (5, .ref rr20), (6, .int x34)]) rfl rfl (Nat.le_of_ble_eq_true rfl) rfl ?_
          refine k_aload C rfl rfl rfl ?_
          refine k_iload C rfl rfl rfl ?_
          refine k_aload_n C rfl rfl rfl ?_
          refine g_R C rfl rfl rfl T_r0 rfl R_r0_0 ?_
          refine k_iload_n C rfl rfl rfl ?_
          refine z_bipush C (z := 16) rfl rfl rfl (fun x52 ex52 => ?_)
          have c63 : x52.toInt = 16 := (by omega)
          refine z_iushrL C rfl rfl (fun x53 ex53 => ?_)
          have gx53 := rg x53
          have m63 := ex53
          refine z_sipush C (z := 32767) rfl rfl rfl (fun x54 ex54 => ?_)
          have c67 := ceq3 (c := x54) (by omega)
          refine z_iandQ C rfl rfl (fun x55 ex55 => ?_)
          have gx55 := rg x55
          have m67 := ex55
          refine z_i2l C rfl rfl (fun lg56 elg56 => ?_)
          have hl69 := elg56
          refine c_VI C (s_X0_of_x hS hI38 H_r0_0) rfl rfl rfl rfl rfl ⟨_, rfl, rfl, T_r0_0, Nat.le_of_ble_eq_true rfl⟩ rfl rfl (Nat.le_of_ble_eq_true rfl) (Nat.le_of_ble_eq_true rfl) (Nat.le_of_ble_eq_true rfl) ?_
          rintro x57 _ _ ⟨o0x57, o1x57, p0x57, p1x57, rfl, rfl⟩
          have gx57 := rg x57
          try simp only [z_r0_0, z_r0_1, z_r0_2, z_r0_3, z_r0_4, z_r0_5, z_r0_0_0, z_r0_0_1, z_r0_0_2, z_r0_0_0_6, z_r0_0_0_7, z_r0_0_0_8, z_r0_0_0_9, z_r0_0_0_10, z_rr20_1] at p0x57
          try simp only [z_r0_0, z_r0_1, z_r0_2, z_r0_3, z_r0_4, z_r0_5, z_r0_0_0, z_r0_0_1, z_r0_0_2, z_r0_0_0_6, z_r0_0_0_7, z_r0_0_0_8, z_r0_0_0_9, z_r0_0_0_10, z_rr20_1] at p1x57
          try simp only [e44, e45] at p0x57
          try have q0x57 := congrArg Int32.toInt p0x57
          try simp only [e44, e45] at p1x57
          try have q1x57 := congrArg Int32.toInt p1x57
          have hof := p0x57; (try simp only [e44] at hof)
          refine c_VV C (s_X2_set_x hS hI38 (hs_GF hS H_rr20)) rfl rfl rfl rfl rfl ⟨_, rfl, rfl, T_rr20, Nat.le_of_ble_eq_true rfl⟩ rfl rfl (Nat.le_of_ble_eq_true rfl) (Nat.le_of_ble_eq_true rfl) (Nat.le_of_ble_eq_true rfl) ?_
          rintro I59 L60 ⟨p0v58, hI59, S61⟩
          try simp only [z_r0_0, z_r0_1, z_r0_2, z_r0_3, z_r0_4, z_r0_5, z_r0_0_0, z_r0_0_1, z_r0_0_2, z_r0_0_0_6, z_r0_0_0_7, z_r0_0_0_8, z_r0_0_0_9, z_r0_0_0_10, z_rr20_1] at S61
          have e62 := Chg.k S61 T_r0_0_0 (by decide) (by decide) e44
          have e63 := Chg.k S61 T_rr20 (by decide) (by decide) e45
          try simp only [z_r0_0, z_r0_1, z_r0_2, z_r0_3, z_r0_4, z_r0_5, z_r0_0_0, z_r0_0_1, z_r0_0_2, z_r0_0_0_6, z_r0_0_0_7, z_r0_0_0_8, z_r0_0_0_9, z_r0_0_0_10, z_rr20_1] at p0v58
          try simp only [e44, e45] at p0v58
          try have q0v58 := congrArg Int32.toInt p0v58
          have hse := p0v58; have hS72 := S61; have hw72 := DRN.u (LCG.n ff37_0 m46 m50 c43 c50) c63 m63 m67 c67; have hD72 := ff37_1.fr hU gR iN hS72 oN z_rr20_1 (fun a h => Or.inr (SL1.o h)); have e72 := Chg.at hS72 (nm_1 (by rw [← z_rr20_1]; exact t_nq fN.1 fN.2.2 (by decide)))
          refine z_iinc C (z := 1) (lw := fun x64 => [(6, .int x64), (3, .int x51), (0, .ref r0), (1, .int n1), (4, .int x7), (5, .ref rr20)]) rfl rfl rfl (Nat.le_of_ble_eq_true rfl) rfl ⟨by omega, by omega⟩ (fun _ => rfl) (fun x64 ex64 => ?_)
          show V 78 [(6, .int x64), (3, .int x51), (0, .ref r0), (1, .int n1), (4, .int x7), (5, .ref rr20)] _ _ _ _
          refine k_goto C (pc2 := 37) rfl rfl ?_
          refine k_sub S [(0, .ref r0), (1, .int n1), (3, .int x51), (4, .int x7), (5, .ref rr20), (6, .int x64)] (List.forall_mem_cons.mpr ⟨List.mem_of_getElem? (i := 2) rfl, List.forall_mem_cons.mpr ⟨List.mem_of_getElem? (i := 3) rfl, List.forall_mem_cons.mpr ⟨List.mem_of_getElem? (i := 1) rfl, List.forall_mem_cons.mpr ⟨List.mem_of_getElem? (i := 4) rfl, List.forall_mem_cons.mpr ⟨List.mem_of_getElem? (i := 5) rfl, List.forall_mem_cons.mpr ⟨List.mem_of_getElem? (i := 0) rfl, fun _ h => nomatch h⟩⟩⟩⟩⟩⟩) ?_
          exact ihJ29 _ (MN.lt hmnn30 (by omega) (by omega)) I59 L60 x51 x64 rfl hI59 (Chg.cons S37 (Chg.mono (Chg.up S61 (sl_1 (⟨_, iN, Or.inr (by rw [oN]; exact z_rr20_1.symm)⟩))) (by decide)) (by decide)) (by omega) (by omega) (by exact LCG.t ff37_0 m46 m50 c43 c50 (by omega) (by omega)) (by exact hD72) (by rw [e72]; exact ff37_2) (by exact ff37_3.s (by rw [z_rr20_1]; exact hse) hof hl69 hw72 (by omega) (by omega) (by omega)) (by omega)
      refine k_istore C (lw := [(6, .int x28), (5, .ref rr20), (0, .ref r0), (1, .int n1), (3, .int x6), (4, .int x7)]) rfl rfl (Nat.le_of_ble_eq_true rfl) rfl ?_
      refine k_sub S [(0, .ref r0), (1, .int n1), (3, .int x6), (4, .int x7), (5, .ref rr20), (6, .int x28)] (List.forall_mem_cons.mpr ⟨List.mem_of_getElem? (i := 2) rfl, List.forall_mem_cons.mpr ⟨List.mem_of_getElem? (i := 3) rfl, List.forall_mem_cons.mpr ⟨List.mem_of_getElem? (i := 4) rfl, List.forall_mem_cons.mpr ⟨List.mem_of_getElem? (i := 5) rfl, List.forall_mem_cons.mpr ⟨List.mem_of_getElem? (i := 1) rfl, List.forall_mem_cons.mpr ⟨List.mem_of_getElem? (i := 0) rfl, fun _ h => nomatch h⟩⟩⟩⟩⟩⟩) ?_
      exact J29 _ I22 L23 x6 x28 rfl hI22 Chg.rf (by omega) (by omega) (by exact LCG.a ff5_0 (by omega)) (by exact hD31) (by rw [e27]; omega) (by exact DRK.z (by omega)) (by omega)
  refine k_istore C (lw := [(4, .int x1), (3, .int n2), (0, .ref r0), (1, .int n1), (2, .int n2)]) rfl rfl (Nat.le_of_ble_eq_true rfl) rfl ?_
  refine k_sub S [(0, .ref r0), (1, .int n1), (3, .int n2), (4, .int x1)] (List.forall_mem_cons.mpr ⟨List.mem_of_getElem? (i := 2) rfl, List.forall_mem_cons.mpr ⟨List.mem_of_getElem? (i := 3) rfl, List.forall_mem_cons.mpr ⟨List.mem_of_getElem? (i := 1) rfl, List.forall_mem_cons.mpr ⟨List.mem_of_getElem? (i := 0) rfl, fun _ h => nomatch h⟩⟩⟩⟩) ?_
  exact J2 _ I L n2 x1 rfl hI Chg.rf (by omega) (by omega) (by exact LCG.z9 (by omega)) (by exact DRI.z (by omega)) (by omega)

theorem s_X5_isAppended_x {d : Nat} {T N : Nat → Nat} {I : IT} {L : LT} {R : RT} {A B : Nat → Prop} {r0 : Nat} {y1 : Option Nat} (hS : SUB B A) (hI : IX A T I) (H_r0 : (hs_Rw T N R A B) r0) (H_y1 : ∀ b, y1 = some b → (hs_F T N R A B) b) (hU : UPR T R) (hp0 : 0 ≤ (I r0 6).toInt ∧ (I r0 6).toInt < 8) (hp1 : 0 ≤ (I r0 8).toInt ∧ (I r0 8).toInt ≤ 451) : Ex (d + 2) 78 [.ref r0, va_rf y1] (T, N, I, L, R) 0 0 (pI T N R (fun x9 I9 L9 => (0 ≤ x9.toInt) ∧ (x9.toInt ≤ 1) ∧ (x9.toInt = 0 → ∀ b, y1 = some b → (I r0 7).toInt ≠ -1 ∧ (I b 0).toInt ≠ (I r0 7).toInt) ∧ (x9.toInt = 1 → ∃ b, y1 = some b ∧ ((I r0 7).toInt = -1 ∨ (I b 0).toInt = (I r0 7).toInt) ∧ (I9 r0 7).toInt = (I b 0).toInt ∧ (I9 r0 8).toInt = (I r0 8).toInt + (I b 0).toInt + 1 ∧ APK I9 I (HA R r0 (I r0 6).toNatClampNeg) (rA R b 1) (I r0 8).toNatClampNeg ((I b 0).toInt + 1)) ∧ (IX A T I9 ∧ Chg (fun a => a = r0 ∨ a = HA R r0 (I r0 6).toNatClampNeg) T [(6, 7), (6, 8)] I L I9 L9))) := by
  refine ⟨_, rfl, (by cases y1 <;> exact Nat.le_of_ble_eq_true rfl), fun V C S => ?_⟩
  show V 0 [(0, .ref r0), (1, va_rf y1)] [] (T, N, I, L, R) 0 0
  obtain ⟨T_r0, A_r0, B_r0, ⟨r0_0, R_r0_0, H_r0_0⟩, ⟨r0_1, R_r0_1, H_r0_1⟩, ⟨r0_2, R_r0_2, H_r0_2⟩, ⟨r0_3, R_r0_3, H_r0_3⟩, ⟨r0_4, R_r0_4, H_r0_4⟩, ⟨r0_5, R_r0_5, H_r0_5⟩⟩ := id H_r0
  have z_r0_0 : rA R r0 0 = r0_0 := rA_e R_r0_0
  have z_r0_1 : rA R r0 1 = r0_1 := rA_e R_r0_1
  have z_r0_2 : rA R r0 2 = r0_2 := rA_e R_r0_2
  have z_r0_3 : rA R r0 3 = r0_3 := rA_e R_r0_3
  have z_r0_4 : rA R r0 4 = r0_4 := rA_e R_r0_4
  have z_r0_5 : rA R r0 5 = r0_5 := rA_e R_r0_5
  obtain ⟨T_r0_3, N_r0_3, A_r0_3, E_r0_3⟩ := id H_r0_3
  have gR := GR.of hS H_r0
  try simp only [z_r0_0, z_r0_1, z_r0_2, z_r0_3, z_r0_4, z_r0_5] at hp0
  try simp only [z_r0_0, z_r0_1, z_r0_2, z_r0_3, z_r0_4, z_r0_5] at hp1
  obtain ⟨w_r0_6, k0_r0_6⟩ : ∃ x, I r0 6 = x := ⟨_, rfl⟩
  have gw_r0_6 := rg w_r0_6
  obtain ⟨w_r0_7, k0_r0_7⟩ : ∃ x, I r0 7 = x := ⟨_, rfl⟩
  have gw_r0_7 := rg w_r0_7
  obtain ⟨w_r0_8, k0_r0_8⟩ : ∃ x, I r0 8 = x := ⟨_, rfl⟩
  have gw_r0_8 := rg w_r0_8
  try simp only [k0_r0_6, k0_r0_7, k0_r0_8] at hp0
  try simp only [k0_r0_6, k0_r0_7, k0_r0_8] at hp1
  have im : (I r0 6).toNatClampNeg < 8 := (by rw [k0_r0_6]; exact ncn (n := 8) (by omega) (by omega))
  refine k_aload_nV C (x := y1) rfl rfl rfl ?_
  refine k_ifnull C (x := y1) (t := 42) rfl rfl rfl (fun c1 => ?_) (fun rr2 c1 => ?_)
  · skip
    subst c1
    refine z_iconst C (z := 0) rfl rfl rfl (fun x3 ex3 => ?_)
    exact k_iret C rfl (Or.inr ⟨rfl, z01 (by omega) (by omega)⟩) (Nat.le_of_ble_eq_true rfl) (Nat.le_of_ble_eq_true rfl) ⟨_, _, _, rfl, rfl, by omega, by omega, by (try simp only [z_r0_0, z_r0_1, z_r0_2, z_r0_3, z_r0_4, z_r0_5]); first | (intro _ b hb; cases hb; done) | (intro _ b hb; cases hb; simp only [k0_r0_7]; exact ⟨by omega, by omega⟩) | (exfalso; omega), by (try simp only [z_r0_0, z_r0_1, z_r0_2, z_r0_3, z_r0_4, z_r0_5]); intro h; exfalso; omega, hI, Chg.rf⟩
  subst c1
  have H_rr2 := H_y1 rr2 rfl
  have fV := FO.of H_rr2; have nV1 : rA R rr2 1 ≠ r0 := t_nq fV.2.2 T_r0 (by decide); have nV2 : rA R rr2 1 ≠ HA R r0 (I r0 6).toNatClampNeg := hU.ne (Or.inr (Or.inr (Or.inr (by have := fV.2.2; omega)))) fV.2.1 (gR.2.2.2.2.1 _ im).1 (Or.inl (fun e => by have z9 := gR.2.2.2.1; rw [← e] at z9; have := fV.1; omega))
  refine k_aload_n C rfl rfl rfl ?_
  refine g_I C rfl rfl rfl T_r0 rfl k0_r0_7 ?_
  refine z_iconst C (z := -1) rfl rfl rfl (fun x4 ex4 => ?_)
  refine b_icmp_eq C (t := 23) rfl rfl rfl (fun c5 => ?_) (fun c5 => ?_)
  · skip
    refine k_aload_n C rfl rfl rfl ?_
    refine g_I C rfl rfl rfl T_r0 rfl k0_r0_6 ?_
    refine b_if_lt C (t := 42) rfl rfl rfl (fun c6 => by exfalso; omega) (fun c6 => ?_)
    refine k_aload_n C rfl rfl rfl ?_
    refine g_I C rfl rfl rfl T_r0 rfl k0_r0_6 ?_
    refine k_aload_n C rfl rfl rfl ?_
    refine g_R C rfl rfl rfl T_r0 rfl R_r0_3 ?_
    refine z_len C (n := 8) rfl rfl (by rw [T_r0_3]; exact Nat.le_of_ble_eq_true rfl) N_r0_3 (Nat.le_of_ble_eq_true rfl) (fun x7 ex7 => ?_)
    refine b_icmp_lt C (t := 44) rfl rfl rfl (fun c8 => ?_) (fun c8 => by exfalso; omega)
    refine k_aload_n C rfl rfl rfl ?_
    refine k_aload_n C rfl rfl rfl ?_
    obtain ⟨T_rr2, A_rr2, ⟨rr2_1, R_rr2_1, H_rr2_1⟩⟩ := id H_rr2
    have z_rr2_1 : rA R rr2 1 = rr2_1 := rA_e R_rr2_1
    refine z_gI C rfl rfl rfl T_rr2 rfl (fun x9 ex9 => ?_)
    have gx9 := rg x9
    have ox9 := IX.deg hI A_rr2 T_rr2 ex9
    have hd49 := congrArg Int32.toInt ex9; have od49 := ox9
    refine z_pI C rfl rfl rfl T_r0 (Or.inr rfl) rfl (fun I10 uI10 => ?_)
    have hI10 : IX A T I10 := IX.f hI T_r0 (boX.tr (by decide) (by decide)) uI10
    have S11 : Chg (SL [r0]) T [(6, 7)] I L I10 L := Chg.f List.mem_cons_self T_r0 uI10
    have e12 := u2_j uI10 (by decide) k0_r0_6
    have e13 := u2_j uI10 (by decide) k0_r0_8
    have e14 := u2_j uI10 (by decide) ex9
    have e15 := u2_e uI10
    have hu49 := uI10
    refine k_aload_n C rfl rfl rfl ?_
    refine g_R C rfl rfl rfl T_r0 rfl R_r0_3 ?_
    refine k_aload_n C rfl rfl rfl ?_
    refine g_I C rfl rfl rfl T_r0 rfl e12 ?_
    refine z_aRe C (t := 3) rfl rfl (Nat.le_of_ble_eq_true rfl) T_r0_3 N_r0_3 E_r0_3 (by omega) (by omega) (fun rr16 Q_rr16 H_rr16 => ?_)
    have oH := HA_e z_r0_3 Q_rr16; have hH61 := H_rr16.1
    refine k_astore_n C (lw := [(2, .ref rr16), (0, .ref r0), (1, .ref rr2)]) rfl rfl (Nat.le_of_ble_eq_true rfl) rfl ?_
    refine z_iconst C (z := 0) rfl rfl rfl (fun x17 ex17 => ?_)
    have J18 : ∀ (nn19 : Nat) (I20 : IT) (L21 : LT) (x22 : Int32) (x25 : Int32), (MN (2147483647 - x22.toInt) nn19) → (IX A T I20) → (Chg (fun a => a = r0 ∨ a = HA R r0 (I r0 6).toNatClampNeg) T [(6, 8)] I10 L I20 L21) → (I20 r0 8 = x25) → (0 ≤ x25.toInt) → (x25.toInt ≤ 492) → (x25.toInt = w_r0_8.toInt + x22.toInt) → (APK I20 I rr16 (rA R rr2 1) w_r0_8.toNatClampNeg x22.toInt) → (0 ≤ x22.toInt ∧ x22.toInt ≤ (I rr2 0).toInt + 1) → V 64 [(0, .ref r0), (1, .ref rr2), (2, .ref rr16), (3, .int x22)] [] (T, N, I20, L21, R) 0 0 := by
      intro nn19
      induction nn19 using Nat.strongRecOn with
      | _ nn19 ihJ18 =>
        intro I20 L21 x22 x25 hmnn19 hI24 S23 e26 b27 b28 ff64_0 ff64_1 ff64_2
        have gx22 := rg x22
        have gx25 := rg x25
        have e32 := Chg.k S23 T_r0 (by decide) (by decide) e12
        have e33 := Chg.k S23 T_rr2 (by decide) (by decide) e14
        have e34 := Chg.k S23 T_r0 (by decide) (by decide) e15
        refine k_iload_n C rfl rfl rfl ?_
        refine k_aload_n C rfl rfl rfl ?_
        refine g_I C rfl rfl rfl T_r0 rfl e34 ?_
        refine b_icmp_gt C (t := 108) rfl rfl rfl (fun c35 => ?_) (fun c35 => ?_)
        · skip
          refine z_iconst C (z := 1) rfl rfl rfl (fun x36 ex36 => ?_)
          exact k_iret C rfl (Or.inr ⟨rfl, z01 (by omega) (by omega)⟩) (Nat.le_of_ble_eq_true rfl) (Nat.le_of_ble_eq_true rfl) ⟨_, _, _, rfl, rfl, by omega, by omega, by (try simp only [z_r0_0, z_r0_1, z_r0_2, z_r0_3, z_r0_4, z_r0_5, z_rr2_1]); intro h; exfalso; omega, by (try simp only [z_r0_0, z_r0_1, z_r0_2, z_r0_3, z_r0_4, z_r0_5, z_rr2_1]); first | (exfalso; omega) | (intro _; exact ⟨_, rfl, (by simp only [k0_r0_7]; omega), (by rw [e34]; omega), (by rw [e26]; simp only [k0_r0_8]; omega), (by rw [k0_r0_6, oH, k0_r0_8, show (I rr2 0).toInt + 1 = x22.toInt from by omega]; exact ff64_1)⟩), hI24, (Chg.cons (Chg.up S11 (sl_1 (Or.inl rfl))) (Chg.mono S23 (by decide)) (by decide))⟩
        refine k_aload_n C rfl rfl rfl ?_
        refine g_I C rfl rfl rfl T_r0 rfl e26 ?_
        refine k_aload_n C rfl rfl rfl ?_
        obtain ⟨T_rr16, N_rr16, A_rr16⟩ := id H_rr16
        refine z_len C (n := 492) rfl rfl (by rw [T_rr16]; exact Nat.le_of_ble_eq_true rfl) N_rr16 (Nat.le_of_ble_eq_true rfl) (fun x37 ex37 => ?_)
        refine b_icmp_ge C (t := 108) rfl rfl rfl (fun c38 => ?_) (fun c38 => ?_)
        · skip
          refine z_iconst C (z := 1) rfl rfl rfl (fun x39 ex39 => ?_)
          exact k_iret C rfl (Or.inr ⟨rfl, z01 (by omega) (by omega)⟩) (Nat.le_of_ble_eq_true rfl) (Nat.le_of_ble_eq_true rfl) ⟨_, _, _, rfl, rfl, by omega, by omega, by (try simp only [z_r0_0, z_r0_1, z_r0_2, z_r0_3, z_r0_4, z_r0_5, z_rr2_1]); intro h; exfalso; omega, by (try simp only [z_r0_0, z_r0_1, z_r0_2, z_r0_3, z_r0_4, z_r0_5, z_rr2_1]); first | (exfalso; omega) | (intro _; exact ⟨_, rfl, (by simp only [k0_r0_7]; omega), (by rw [e34]; omega), (by rw [e26]; simp only [k0_r0_8]; omega), (by rw [k0_r0_6, oH, k0_r0_8, show (I rr2 0).toInt + 1 = x22.toInt from by omega]; exact ff64_1)⟩), hI24, (Chg.cons (Chg.up S11 (sl_1 (Or.inl rfl))) (Chg.mono S23 (by decide)) (by decide))⟩
        refine k_aload_n C rfl rfl rfl ?_
        refine k_aload_n C rfl rfl rfl ?_
        refine g_I C rfl rfl rfl T_r0 rfl e26 ?_
        refine k_aload_n C rfl rfl rfl ?_
        refine k_iload_n C rfl rfl rfl ?_
        refine c_VI C (s_X2_get_x hS hI24 H_rr2) rfl rfl rfl rfl rfl ⟨_, rfl, rfl, T_rr2, Nat.le_of_ble_eq_true rfl⟩ rfl rfl (Nat.le_of_ble_eq_true rfl) (Nat.le_of_ble_eq_true rfl) (Nat.le_of_ble_eq_true rfl) ?_
        rintro x40 _ _ ⟨p0x40, rfl, rfl⟩
        have gx40 := rg x40
        try simp only [z_r0_0, z_r0_1, z_r0_2, z_r0_3, z_r0_4, z_r0_5, z_rr2_1] at p0x40
        try simp only [e32, e33, e34, e26] at p0x40
        try have q0x40 := congrArg Int32.toInt p0x40
        have hga := p0x40; have hFR := (((Chg.cons (Chg.up S11 (sl_1 (Or.inl rfl))) (Chg.mono S23 (by decide)) (by decide)) : Chg (fun a => a = r0 ∨ a = HA R r0 (I r0 6).toNatClampNeg) T [(6, 7), (6, 8)] I L I20 L21)); have eb88 := Chg.at hFR (fun q => q.elim nV1 nV2); rw [z_rr2_1] at eb88
        refine z_sI C rfl rfl T_rr16 N_rr16 (by omega) (by omega) (fun I41 uI41 => ?_)
        have hI41 : IX A T I41 := IX.a hI24 T_rr16 (Nat.le_of_ble_eq_true rfl) uI41
        have S42 : Chg (SL [rr16]) T [] I20 L21 I41 L21 := Chg.a List.mem_cons_self T_rr16 (Nat.le_of_ble_eq_true rfl) uI41
        have e43 := u2_n uI41 (t_nq T_r0 T_rr16 (by decide)) e32
        have e44 := u2_n uI41 (t_nq T_rr2 T_rr16 (by decide)) e33
        have e45 := u2_n uI41 (t_nq T_r0 T_rr16 (by decide)) e34
        have e46 := u2_n uI41 (t_nq T_r0 T_rr16 (by decide)) e26
        have hu91 := uI41
        refine k_aload_n C rfl rfl rfl ?_
        refine k_dup C rfl rfl rfl ?_
        refine g_I C rfl rfl rfl T_r0 rfl e46 ?_
        refine z_iconst C (z := 1) rfl rfl rfl (fun x47 ex47 => ?_)
        refine z_iadd C rfl rfl ⟨by omega, by omega⟩ (fun x48 ex48 => ?_)
        refine z_pI C rfl rfl rfl T_r0 (Or.inr rfl) rfl (fun I49 uI49 => ?_)
        have hI49 : IX A T I49 := IX.f hI41 T_r0 (boX.tr (by decide) (by decide)) uI49
        have S50 : Chg (SL [r0]) T [(6, 8)] I41 L21 I49 L21 := Chg.f List.mem_cons_self T_r0 uI49
        have e51 := u2_j uI49 (by decide) e43
        have e52 := u2_j uI49 (by decide) e44
        have e53 := u2_j uI49 (by decide) e45
        have e54 := u2_e uI49
        have hu99 := uI49
        refine z_iinc C (z := 1) (lw := fun x55 => [(3, .int x55), (0, .ref r0), (1, .ref rr2), (2, .ref rr16)]) rfl rfl rfl (Nat.le_of_ble_eq_true rfl) rfl ⟨by omega, by omega⟩ (fun _ => rfl) (fun x55 ex55 => ?_)
        show V 105 [(3, .int x55), (0, .ref r0), (1, .ref rr2), (2, .ref rr16)] _ _ _ _
        refine k_goto C (pc2 := 64) rfl rfl ?_
        refine k_sub S [(0, .ref r0), (1, .ref rr2), (2, .ref rr16), (3, .int x55)] (List.forall_mem_cons.mpr ⟨List.mem_of_getElem? (i := 1) rfl, List.forall_mem_cons.mpr ⟨List.mem_of_getElem? (i := 2) rfl, List.forall_mem_cons.mpr ⟨List.mem_of_getElem? (i := 3) rfl, List.forall_mem_cons.mpr ⟨List.mem_of_getElem? (i := 0) rfl, fun _ h => nomatch h⟩⟩⟩⟩) ?_
        exact ihJ18 _ (MN.lt hmnn19 (by omega) (by omega)) I49 L21 x55 x48 rfl hI49 (Chg.cons S23 (Chg.cons (Chg.up S42 (sl_1 (Or.inr (by rw [k0_r0_6]; exact oH.symm)))) (Chg.mono (Chg.up S50 (sl_1 (Or.inl rfl))) (by decide)) (by decide)) (by decide)) e54 (by omega) (by omega) (by omega) (by (try rw [z_rr2_1]); (try rw [z_rr2_1] at ff64_1); exact ff64_1.s hga eb88 rfl hu91 (by rw [hu99]; exact u2_r (t_nq hH61 T_r0 (by decide))) (by omega) (by omega) (by omega) (by omega) (by omega)) (by omega)
    refine k_istore_n C (lw := [(3, .int x17), (2, .ref rr16), (0, .ref r0), (1, .ref rr2)]) rfl rfl (Nat.le_of_ble_eq_true rfl) rfl ?_
    refine k_sub S [(0, .ref r0), (1, .ref rr2), (2, .ref rr16), (3, .int x17)] (List.forall_mem_cons.mpr ⟨List.mem_of_getElem? (i := 2) rfl, List.forall_mem_cons.mpr ⟨List.mem_of_getElem? (i := 3) rfl, List.forall_mem_cons.mpr ⟨List.mem_of_getElem? (i := 1) rfl, List.forall_mem_cons.mpr ⟨List.mem_of_getElem? (i := 0) rfl, fun _ h => nomatch h⟩⟩⟩⟩) ?_
    exact J18 _ I10 L x17 w_r0_8 rfl hI10 Chg.rf e13 (by omega) (by omega) (by omega) (by exact APK.z (by first | rfl | (rw [hu49]; exact u2_r (t_nq hH61 T_r0 (by decide)))) (by omega)) (by omega)
  refine k_aload_n C rfl rfl rfl ?_
  obtain ⟨T_rr2, A_rr2, ⟨rr2_1, R_rr2_1, H_rr2_1⟩⟩ := id H_rr2
  have z_rr2_1 : rA R rr2 1 = rr2_1 := rA_e R_rr2_1
  refine z_gI C rfl rfl rfl T_rr2 rfl (fun x56 ex56 => ?_)
  have gx56 := rg x56
  have ox56 := IX.deg hI A_rr2 T_rr2 ex56
  refine k_aload_n C rfl rfl rfl ?_
  refine g_I C rfl rfl rfl T_r0 rfl k0_r0_7 ?_
  have hd20 := congrArg Int32.toInt ex56
  refine b_icmp_ne C (t := 42) rfl rfl rfl (fun c57 => ?_) (fun c57 => ?_)
  · skip
    refine z_iconst C (z := 0) rfl rfl rfl (fun x58 ex58 => ?_)
    exact k_iret C rfl (Or.inr ⟨rfl, z01 (by omega) (by omega)⟩) (Nat.le_of_ble_eq_true rfl) (Nat.le_of_ble_eq_true rfl) ⟨_, _, _, rfl, rfl, by omega, by omega, by (try simp only [z_r0_0, z_r0_1, z_r0_2, z_r0_3, z_r0_4, z_r0_5, z_rr2_1]); first | (intro _ b hb; cases hb; done) | (intro _ b hb; cases hb; simp only [k0_r0_7]; exact ⟨by omega, by omega⟩) | (exfalso; omega), by (try simp only [z_r0_0, z_r0_1, z_r0_2, z_r0_3, z_r0_4, z_r0_5, z_rr2_1]); intro h; exfalso; omega, hI, Chg.rf⟩
  refine k_aload_n C rfl rfl rfl ?_
  refine g_I C rfl rfl rfl T_r0 rfl k0_r0_6 ?_
  refine b_if_lt C (t := 42) rfl rfl rfl (fun c59 => by exfalso; omega) (fun c59 => ?_)
  refine k_aload_n C rfl rfl rfl ?_
  refine g_I C rfl rfl rfl T_r0 rfl k0_r0_6 ?_
  refine k_aload_n C rfl rfl rfl ?_
  refine g_R C rfl rfl rfl T_r0 rfl R_r0_3 ?_
  refine z_len C (n := 8) rfl rfl (by rw [T_r0_3]; exact Nat.le_of_ble_eq_true rfl) N_r0_3 (Nat.le_of_ble_eq_true rfl) (fun x60 ex60 => ?_)
  refine b_icmp_lt C (t := 44) rfl rfl rfl (fun c61 => ?_) (fun c61 => by exfalso; omega)
  refine k_aload_n C rfl rfl rfl ?_
  refine k_aload_n C rfl rfl rfl ?_
  refine g_I C rfl rfl rfl T_rr2 rfl ex56 ?_
  have hd49 := congrArg Int32.toInt ex56; have od49 := ox56
  refine z_pI C rfl rfl rfl T_r0 (Or.inr rfl) rfl (fun I62 uI62 => ?_)
  have hI62 : IX A T I62 := IX.f hI T_r0 (boX.tr (by decide) (by decide)) uI62
  have S63 : Chg (SL [r0]) T [(6, 7)] I L I62 L := Chg.f List.mem_cons_self T_r0 uI62
  have e64 := u2_j uI62 (by decide) k0_r0_6
  have e65 := u2_j uI62 (by decide) k0_r0_8
  have e66 := u2_j uI62 (by decide) ex56
  have e67 := u2_e uI62
  have hu49 := uI62
  refine k_aload_n C rfl rfl rfl ?_
  refine g_R C rfl rfl rfl T_r0 rfl R_r0_3 ?_
  refine k_aload_n C rfl rfl rfl ?_
  refine g_I C rfl rfl rfl T_r0 rfl e64 ?_
  refine z_aRe C (t := 3) rfl rfl (Nat.le_of_ble_eq_true rfl) T_r0_3 N_r0_3 E_r0_3 (by omega) (by omega) (fun rr68 Q_rr68 H_rr68 => ?_)
  have oH := HA_e z_r0_3 Q_rr68; have hH61 := H_rr68.1
  refine k_astore_n C (lw := [(2, .ref rr68), (0, .ref r0), (1, .ref rr2)]) rfl rfl (Nat.le_of_ble_eq_true rfl) rfl ?_
  refine z_iconst C (z := 0) rfl rfl rfl (fun x69 ex69 => ?_)
  have J70 : ∀ (nn71 : Nat) (I72 : IT) (L73 : LT) (x74 : Int32) (x77 : Int32), (MN (2147483647 - x74.toInt) nn71) → (IX A T I72) → (Chg (fun a => a = r0 ∨ a = HA R r0 (I r0 6).toNatClampNeg) T [(6, 8)] I62 L I72 L73) → (I72 r0 8 = x77) → (0 ≤ x77.toInt) → (x77.toInt ≤ 492) → (x77.toInt = w_r0_8.toInt + x74.toInt) → (APK I72 I rr68 (rA R rr2 1) w_r0_8.toNatClampNeg x74.toInt) → (0 ≤ x74.toInt ∧ x74.toInt ≤ (I rr2 0).toInt + 1) → V 64 [(0, .ref r0), (1, .ref rr2), (2, .ref rr68), (3, .int x74)] [] (T, N, I72, L73, R) 0 0 := by
    intro nn71
    induction nn71 using Nat.strongRecOn with
    | _ nn71 ihJ70 =>
      intro I72 L73 x74 x77 hmnn71 hI76 S75 e78 b79 b80 ff64_0 ff64_1 ff64_2
      have gx74 := rg x74
      have gx77 := rg x77
      have e84 := Chg.k S75 T_r0 (by decide) (by decide) e64
      have e85 := Chg.k S75 T_rr2 (by decide) (by decide) e66
      have e86 := Chg.k S75 T_r0 (by decide) (by decide) e67
      refine k_iload_n C rfl rfl rfl ?_
      refine k_aload_n C rfl rfl rfl ?_
      refine g_I C rfl rfl rfl T_r0 rfl e86 ?_
      refine b_icmp_gt C (t := 108) rfl rfl rfl (fun c87 => ?_) (fun c87 => ?_)
      · skip
        refine z_iconst C (z := 1) rfl rfl rfl (fun x88 ex88 => ?_)
        exact k_iret C rfl (Or.inr ⟨rfl, z01 (by omega) (by omega)⟩) (Nat.le_of_ble_eq_true rfl) (Nat.le_of_ble_eq_true rfl) ⟨_, _, _, rfl, rfl, by omega, by omega, by (try simp only [z_r0_0, z_r0_1, z_r0_2, z_r0_3, z_r0_4, z_r0_5, z_rr2_1]); intro h; exfalso; omega, by (try simp only [z_r0_0, z_r0_1, z_r0_2, z_r0_3, z_r0_4, z_r0_5, z_rr2_1]); first | (exfalso; omega) | (intro _; exact ⟨_, rfl, (by simp only [k0_r0_7]; omega), (by rw [e86]; omega), (by rw [e78]; simp only [k0_r0_8]; omega), (by rw [k0_r0_6, oH, k0_r0_8, show (I rr2 0).toInt + 1 = x74.toInt from by omega]; exact ff64_1)⟩), hI76, (Chg.cons (Chg.up S63 (sl_1 (Or.inl rfl))) (Chg.mono S75 (by decide)) (by decide))⟩
      refine k_aload_n C rfl rfl rfl ?_
      refine g_I C rfl rfl rfl T_r0 rfl e78 ?_
      refine k_aload_n C rfl rfl rfl ?_
      obtain ⟨T_rr68, N_rr68, A_rr68⟩ := id H_rr68
      refine z_len C (n := 492) rfl rfl (by rw [T_rr68]; exact Nat.le_of_ble_eq_true rfl) N_rr68 (Nat.le_of_ble_eq_true rfl) (fun x89 ex89 => ?_)
      refine b_icmp_ge C (t := 108) rfl rfl rfl (fun c90 => ?_) (fun c90 => ?_)
      · skip
        refine z_iconst C (z := 1) rfl rfl rfl (fun x91 ex91 => ?_)
        exact k_iret C rfl (Or.inr ⟨rfl, z01 (by omega) (by omega)⟩) (Nat.le_of_ble_eq_true rfl) (Nat.le_of_ble_eq_true rfl) ⟨_, _, _, rfl, rfl, by omega, by omega, by (try simp only [z_r0_0, z_r0_1, z_r0_2, z_r0_3, z_r0_4, z_r0_5, z_rr2_1]); intro h; exfalso; omega, by (try simp only [z_r0_0, z_r0_1, z_r0_2, z_r0_3, z_r0_4, z_r0_5, z_rr2_1]); first | (exfalso; omega) | (intro _; exact ⟨_, rfl, (by simp only [k0_r0_7]; omega), (by rw [e86]; omega), (by rw [e78]; simp only [k0_r0_8]; omega), (by rw [k0_r0_6, oH, k0_r0_8, show (I rr2 0).toInt + 1 = x74.toInt from by omega]; exact ff64_1)⟩), hI76, (Chg.cons (Chg.up S63 (sl_1 (Or.inl rfl))) (Chg.mono S75 (by decide)) (by decide))⟩
      refine k_aload_n C rfl rfl rfl ?_
      refine k_aload_n C rfl rfl rfl ?_
      refine g_I C rfl rfl rfl T_r0 rfl e78 ?_
      refine k_aload_n C rfl rfl rfl ?_
      refine k_iload_n C rfl rfl rfl ?_
      refine c_VI C (s_X2_get_x hS hI76 H_rr2) rfl rfl rfl rfl rfl ⟨_, rfl, rfl, T_rr2, Nat.le_of_ble_eq_true rfl⟩ rfl rfl (Nat.le_of_ble_eq_true rfl) (Nat.le_of_ble_eq_true rfl) (Nat.le_of_ble_eq_true rfl) ?_
      rintro x92 _ _ ⟨p0x92, rfl, rfl⟩
      have gx92 := rg x92
      try simp only [z_r0_0, z_r0_1, z_r0_2, z_r0_3, z_r0_4, z_r0_5, z_rr2_1] at p0x92
      try simp only [e84, e85, e86, e78] at p0x92
      try have q0x92 := congrArg Int32.toInt p0x92
      have hga := p0x92; have hFR := (((Chg.cons (Chg.up S63 (sl_1 (Or.inl rfl))) (Chg.mono S75 (by decide)) (by decide)) : Chg (fun a => a = r0 ∨ a = HA R r0 (I r0 6).toNatClampNeg) T [(6, 7), (6, 8)] I L I72 L73)); have eb88 := Chg.at hFR (fun q => q.elim nV1 nV2); rw [z_rr2_1] at eb88
      refine z_sI C rfl rfl T_rr68 N_rr68 (by omega) (by omega) (fun I93 uI93 => ?_)
      have hI93 : IX A T I93 := IX.a hI76 T_rr68 (Nat.le_of_ble_eq_true rfl) uI93
      have S94 : Chg (SL [rr68]) T [] I72 L73 I93 L73 := Chg.a List.mem_cons_self T_rr68 (Nat.le_of_ble_eq_true rfl) uI93
      have e95 := u2_n uI93 (t_nq T_r0 T_rr68 (by decide)) e84
      have e96 := u2_n uI93 (t_nq T_rr2 T_rr68 (by decide)) e85
      have e97 := u2_n uI93 (t_nq T_r0 T_rr68 (by decide)) e86
      have e98 := u2_n uI93 (t_nq T_r0 T_rr68 (by decide)) e78
      have hu91 := uI93
      refine k_aload_n C rfl rfl rfl ?_
      refine k_dup C rfl rfl rfl ?_
      refine g_I C rfl rfl rfl T_r0 rfl e98 ?_
      refine z_iconst C (z := 1) rfl rfl rfl (fun x99 ex99 => ?_)
      refine z_iadd C rfl rfl ⟨by omega, by omega⟩ (fun x100 ex100 => ?_)
      refine z_pI C rfl rfl rfl T_r0 (Or.inr rfl) rfl (fun I101 uI101 => ?_)
      have hI101 : IX A T I101 := IX.f hI93 T_r0 (boX.tr (by decide) (by decide)) uI101
      have S102 : Chg (SL [r0]) T [(6, 8)] I93 L73 I101 L73 := Chg.f List.mem_cons_self T_r0 uI101
      have e103 := u2_j uI101 (by decide) e95
      have e104 := u2_j uI101 (by decide) e96
      have e105 := u2_j uI101 (by decide) e97
      have e106 := u2_e uI101
      have hu99 := uI101
      refine z_iinc C (z := 1) (lw := fun x107 => [(3, .int x107), (0, .ref r0), (1, .ref rr2), (2, .ref rr68)]) rfl rfl rfl (Nat.le_of_ble_eq_true rfl) rfl ⟨by omega, by omega⟩ (fun _ => rfl) (fun x107 ex107 => ?_)
      show V 105 [(3, .int x107), (0, .ref r0), (1, .ref rr2), (2, .ref rr68)] _ _ _ _
      refine k_goto C (pc2 := 64) rfl rfl ?_
      refine k_sub S [(0, .ref r0), (1, .ref rr2), (2, .ref rr68), (3, .int x107)] (List.forall_mem_cons.mpr ⟨List.mem_of_getElem? (i := 1) rfl, List.forall_mem_cons.mpr ⟨List.mem_of_getElem? (i := 2) rfl, List.forall_mem_cons.mpr ⟨List.mem_of_getElem? (i := 3) rfl, List.forall_mem_cons.mpr ⟨List.mem_of_getElem? (i := 0) rfl, fun _ h => nomatch h⟩⟩⟩⟩) ?_
      exact ihJ70 _ (MN.lt hmnn71 (by omega) (by omega)) I101 L73 x107 x100 rfl hI101 (Chg.cons S75 (Chg.cons (Chg.up S94 (sl_1 (Or.inr (by rw [k0_r0_6]; exact oH.symm)))) (Chg.mono (Chg.up S102 (sl_1 (Or.inl rfl))) (by decide)) (by decide)) (by decide)) e106 (by omega) (by omega) (by omega) (by (try rw [z_rr2_1]); (try rw [z_rr2_1] at ff64_1); exact ff64_1.s hga eb88 rfl hu91 (by rw [hu99]; exact u2_r (t_nq hH61 T_r0 (by decide))) (by omega) (by omega) (by omega) (by omega) (by omega)) (by omega)
  refine k_istore_n C (lw := [(3, .int x69), (2, .ref rr68), (0, .ref r0), (1, .ref rr2)]) rfl rfl (Nat.le_of_ble_eq_true rfl) rfl ?_
  refine k_sub S [(0, .ref r0), (1, .ref rr2), (2, .ref rr68), (3, .int x69)] (List.forall_mem_cons.mpr ⟨List.mem_of_getElem? (i := 2) rfl, List.forall_mem_cons.mpr ⟨List.mem_of_getElem? (i := 3) rfl, List.forall_mem_cons.mpr ⟨List.mem_of_getElem? (i := 1) rfl, List.forall_mem_cons.mpr ⟨List.mem_of_getElem? (i := 0) rfl, fun _ h => nomatch h⟩⟩⟩⟩) ?_
  exact J70 _ I62 L x69 w_r0_8 rfl hI62 Chg.rf e65 (by omega) (by omega) (by omega) (by exact APK.z (by first | rfl | (rw [hu49]; exact u2_r (t_nq hH61 T_r0 (by decide)))) (by omega)) (by omega)

theorem s_X5_isHeld_x {d : Nat} {T N : Nat → Nat} {I : IT} {L : LT} {R : RT} {A B : Nat → Prop} {r0 : Nat} (hS : SUB B A) (hI : IX A T I) (H_r0 : (hs_Rw T N R A B) r0) (hU : UPR T R) (hp0 : 0 ≤ (I r0 6).toInt ∧ (I r0 6).toInt < 8) (hp1 : 0 ≤ (I r0 8).toInt ∧ (I r0 8).toInt ≤ 492) (hp2 : CAN R I r0 (I (rA R (rA R r0 0) 0) 0).toInt (I r0 8).toInt) (hp3 : LDX R I r0 (I r0 8).toInt) (hp4 : PRM (I (rA R (rA R r0 0) 0) 0).toInt) : Ex (d + 4) 79 [.ref r0] (T, N, I, L, R) 0 0 (pI T N R (fun x9 I9 L9 => (0 ≤ x9.toInt) ∧ (x9.toInt ≤ 1) ∧ (x9.toInt = 0 → ¬ (FSW (HEL R I r0 (I (rA R (rA R r0 0) 0) 0).toInt (I r0 6).toNatClampNeg) (I r0 8).toInt.toNat < (I r0 8).toInt.toNat) ∧ (I9 r0 6).toInt = (I r0 6).toInt) ∧ (x9.toInt = 1 → FSW (HEL R I r0 (I (rA R (rA R r0 0) 0) 0).toInt (I r0 6).toNatClampNeg) (I r0 8).toInt.toNat < (I r0 8).toInt.toNat ∧ (I9 r0 6).toInt = (I r0 6).toInt + 1 ∧ (∀ k : Nat, (k : Int) < (I r0 8).toInt → (I9 (HA R r0 (I r0 6).toNatClampNeg) k).toInt = NRW (I (rA R (rA R r0 0) 0) 0).toInt (HEL R I r0 (I (rA R (rA R r0 0) 0) 0).toInt (I r0 6).toNatClampNeg) (FSW (HEL R I r0 (I (rA R (rA R r0 0) 0) 0).toInt (I r0 6).toNatClampNeg) (I r0 8).toInt.toNat) k) ∧ (I9 (rA R r0 4) (I r0 6).toNatClampNeg).toInt = FSW (HEL R I r0 (I (rA R (rA R r0 0) 0) 0).toInt (I r0 6).toNatClampNeg) (I r0 8).toInt.toNat) ∧ (∀ i, i < (I r0 6).toNatClampNeg → I9 (rA R r0 4) i = I (rA R r0 4) i) ∧ (IX A T I9 ∧ Chg (fun a => a = r0 ∨ a = HA R r0 (I r0 6).toNatClampNeg ∨ a = rA R r0 4) T [(6, 6)] I L I9 L9))) := by
  refine ⟨_, rfl, Nat.le_of_ble_eq_true rfl, fun V C S => ?_⟩
  show V 0 [(0, .ref r0)] [] (T, N, I, L, R) 0 0
  obtain ⟨T_r0, A_r0, B_r0, ⟨r0_0, R_r0_0, H_r0_0⟩, ⟨r0_1, R_r0_1, H_r0_1⟩, ⟨r0_2, R_r0_2, H_r0_2⟩, ⟨r0_3, R_r0_3, H_r0_3⟩, ⟨r0_4, R_r0_4, H_r0_4⟩, ⟨r0_5, R_r0_5, H_r0_5⟩⟩ := id H_r0
  have z_r0_0 : rA R r0 0 = r0_0 := rA_e R_r0_0
  have z_r0_1 : rA R r0 1 = r0_1 := rA_e R_r0_1
  have z_r0_2 : rA R r0 2 = r0_2 := rA_e R_r0_2
  have z_r0_3 : rA R r0 3 = r0_3 := rA_e R_r0_3
  have z_r0_4 : rA R r0 4 = r0_4 := rA_e R_r0_4
  have z_r0_5 : rA R r0 5 = r0_5 := rA_e R_r0_5
  obtain ⟨T_r0_0, A_r0_0, B_r0_0, ⟨r0_0_0, R_r0_0_0, H_r0_0_0⟩, ⟨r0_0_1, R_r0_0_1, H_r0_0_1⟩, ⟨r0_0_2, R_r0_0_2, H_r0_0_2⟩⟩ := id H_r0_0
  have z_r0_0_0 : rA R r0_0 0 = r0_0_0 := rA_e R_r0_0_0
  have z_r0_0_1 : rA R r0_0 1 = r0_0_1 := rA_e R_r0_0_1
  have z_r0_0_2 : rA R r0_0 2 = r0_0_2 := rA_e R_r0_0_2
  obtain ⟨T_r0_0_0, A_r0_0_0, B_r0_0_0, ⟨r0_0_0_6, R_r0_0_0_6, H_r0_0_0_6⟩, ⟨r0_0_0_7, R_r0_0_0_7, H_r0_0_0_7⟩, ⟨r0_0_0_8, R_r0_0_0_8, H_r0_0_0_8⟩, ⟨r0_0_0_9, R_r0_0_0_9, H_r0_0_0_9⟩, ⟨r0_0_0_10, R_r0_0_0_10, H_r0_0_0_10⟩⟩ := id H_r0_0_0
  have z_r0_0_0_6 : rA R r0_0_0 6 = r0_0_0_6 := rA_e R_r0_0_0_6
  have z_r0_0_0_7 : rA R r0_0_0 7 = r0_0_0_7 := rA_e R_r0_0_0_7
  have z_r0_0_0_8 : rA R r0_0_0 8 = r0_0_0_8 := rA_e R_r0_0_0_8
  have z_r0_0_0_9 : rA R r0_0_0 9 = r0_0_0_9 := rA_e R_r0_0_0_9
  have z_r0_0_0_10 : rA R r0_0_0 10 = r0_0_0_10 := rA_e R_r0_0_0_10
  obtain ⟨T_r0_3, N_r0_3, A_r0_3, E_r0_3⟩ := id H_r0_3
  obtain ⟨T_r0_4, N_r0_4, A_r0_4⟩ := id H_r0_4
  have gR := GR.of hS H_r0
  try simp only [z_r0_0, z_r0_1, z_r0_2, z_r0_3, z_r0_4, z_r0_5, z_r0_0_0, z_r0_0_1, z_r0_0_2, z_r0_0_0_6, z_r0_0_0_7, z_r0_0_0_8, z_r0_0_0_9, z_r0_0_0_10] at hp0
  try simp only [z_r0_0, z_r0_1, z_r0_2, z_r0_3, z_r0_4, z_r0_5, z_r0_0_0, z_r0_0_1, z_r0_0_2, z_r0_0_0_6, z_r0_0_0_7, z_r0_0_0_8, z_r0_0_0_9, z_r0_0_0_10] at hp1
  try simp only [z_r0_0, z_r0_1, z_r0_2, z_r0_3, z_r0_4, z_r0_5, z_r0_0_0, z_r0_0_1, z_r0_0_2, z_r0_0_0_6, z_r0_0_0_7, z_r0_0_0_8, z_r0_0_0_9, z_r0_0_0_10] at hp2
  try simp only [z_r0_0, z_r0_1, z_r0_2, z_r0_3, z_r0_4, z_r0_5, z_r0_0_0, z_r0_0_1, z_r0_0_2, z_r0_0_0_6, z_r0_0_0_7, z_r0_0_0_8, z_r0_0_0_9, z_r0_0_0_10] at hp3
  try simp only [z_r0_0, z_r0_1, z_r0_2, z_r0_3, z_r0_4, z_r0_5, z_r0_0_0, z_r0_0_1, z_r0_0_2, z_r0_0_0_6, z_r0_0_0_7, z_r0_0_0_8, z_r0_0_0_9, z_r0_0_0_10] at hp4
  obtain ⟨w_r0_6, k0_r0_6⟩ : ∃ x, I r0 6 = x := ⟨_, rfl⟩
  have gw_r0_6 := rg w_r0_6
  obtain ⟨w_r0_8, k0_r0_8⟩ : ∃ x, I r0 8 = x := ⟨_, rfl⟩
  have gw_r0_8 := rg w_r0_8
  obtain ⟨w_r0_0_0_0, k0_r0_0_0_0⟩ : ∃ x, I r0_0_0 0 = x := ⟨_, rfl⟩
  have gw_r0_0_0_0 := rg w_r0_0_0_0
  have ow_r0_0_0_0 := IX.p hI A_r0_0_0 T_r0_0_0 k0_r0_0_0_0
  try simp only [k0_r0_6, k0_r0_8, k0_r0_0_0_0] at hp0
  try simp only [k0_r0_6, k0_r0_8, k0_r0_0_0_0] at hp1
  try simp only [k0_r0_6, k0_r0_8, k0_r0_0_0_0] at hp2
  try simp only [k0_r0_6, k0_r0_8, k0_r0_0_0_0] at hp3
  try simp only [k0_r0_6, k0_r0_8, k0_r0_0_0_0] at hp4
  try simp only [k0_r0_0_0_0] at hp2
  try simp only [k0_r0_0_0_0] at hp4
  have hp18 : 0 < w_r0_0_0_0.toInt ∧ w_r0_0_0_0.toInt ≤ 19 := (by have z9 := hp4; unfold PRM at z9; omega)
  have im : (I r0 6).toNatClampNeg < 8 := (by rw [k0_r0_6]; exact ncn (n := 8) (by omega) (by omega))
  refine k_aload_n C rfl rfl rfl ?_
  refine g_I C rfl rfl rfl T_r0 rfl k0_r0_6 ?_
  refine b_if_lt C (t := 31) rfl rfl rfl (fun c1 => by exfalso; omega) (fun c1 => ?_)
  refine k_aload_n C rfl rfl rfl ?_
  refine g_I C rfl rfl rfl T_r0 rfl k0_r0_6 ?_
  refine k_aload_n C rfl rfl rfl ?_
  refine g_R C rfl rfl rfl T_r0 rfl R_r0_3 ?_
  refine z_len C (n := 8) rfl rfl (by rw [T_r0_3]; exact Nat.le_of_ble_eq_true rfl) N_r0_3 (Nat.le_of_ble_eq_true rfl) (fun x2 ex2 => ?_)
  refine b_icmp_ge C (t := 31) rfl rfl rfl (fun c3 => by exfalso; omega) (fun c3 => ?_)
  refine k_aload_n C rfl rfl rfl ?_
  refine g_I C rfl rfl rfl T_r0 rfl k0_r0_6 ?_
  refine k_aload_n C rfl rfl rfl ?_
  refine g_R C rfl rfl rfl T_r0 rfl R_r0_4 ?_
  refine z_len C (n := 8) rfl rfl (by rw [T_r0_4]; exact Nat.le_of_ble_eq_true rfl) N_r0_4 (Nat.le_of_ble_eq_true rfl) (fun x4 ex4 => ?_)
  refine b_icmp_lt C (t := 33) rfl rfl rfl (fun c5 => ?_) (fun c5 => by exfalso; omega)
  refine k_aload_n C rfl rfl rfl ?_
  refine g_R C rfl rfl rfl T_r0 rfl R_r0_3 ?_
  refine k_aload_n C rfl rfl rfl ?_
  refine g_I C rfl rfl rfl T_r0 rfl k0_r0_6 ?_
  refine z_aRe C (t := 3) rfl rfl (Nat.le_of_ble_eq_true rfl) T_r0_3 N_r0_3 E_r0_3 (by omega) (by omega) (fun rr6 Q_rr6 H_rr6 => ?_)
  have oH := HA_e z_r0_3 Q_rr6; have hH := H_rr6.1; have oI : HA R r0 (I r0 6).toNatClampNeg = rr6 := (by rw [k0_r0_6]; exact oH); have nF : r0_4 ≠ rr6 := (by rw [← oI, ← z_r0_4]; exact (GR.hf hU gR im).symm)
  refine k_astore_n C (lw := [(1, .ref rr6), (0, .ref r0)]) rfl rfl (Nat.le_of_ble_eq_true rfl) rfl ?_
  refine k_aload_n C rfl rfl rfl ?_
  obtain ⟨T_rr6, N_rr6, A_rr6⟩ := id H_rr6
  refine z_len C (n := 492) rfl rfl (by rw [T_rr6]; exact Nat.le_of_ble_eq_true rfl) N_rr6 (Nat.le_of_ble_eq_true rfl) (fun x7 ex7 => ?_)
  refine k_aload_n C rfl rfl rfl ?_
  refine g_I C rfl rfl rfl T_r0 rfl k0_r0_8 ?_
  refine c_SI C (s_J9_min_7cf53 hS hI ) rfl rfl rfl rfl rfl rfl rfl (Nat.le_of_ble_eq_true rfl) (Nat.le_of_ble_eq_true rfl) (Nat.le_of_ble_eq_true rfl) ?_
  rintro x8 _ _ ⟨p0x8, p1x8, p2x8, rfl, rfl⟩
  have gx8 := rg x8
  try simp only [z_r0_0, z_r0_1, z_r0_2, z_r0_3, z_r0_4, z_r0_5, z_r0_0_0, z_r0_0_1, z_r0_0_2, z_r0_0_0_6, z_r0_0_0_7, z_r0_0_0_8, z_r0_0_0_9, z_r0_0_0_10] at p0x8
  try simp only [z_r0_0, z_r0_1, z_r0_2, z_r0_3, z_r0_4, z_r0_5, z_r0_0_0, z_r0_0_1, z_r0_0_2, z_r0_0_0_6, z_r0_0_0_7, z_r0_0_0_8, z_r0_0_0_9, z_r0_0_0_10] at p1x8
  try simp only [z_r0_0, z_r0_1, z_r0_2, z_r0_3, z_r0_4, z_r0_5, z_r0_0_0, z_r0_0_1, z_r0_0_2, z_r0_0_0_6, z_r0_0_0_7, z_r0_0_0_8, z_r0_0_0_9, z_r0_0_0_10] at p2x8
  try simp only [k0_r0_6, k0_r0_8, k0_r0_0_0_0] at p0x8
  try have q0x8 := congrArg Int32.toInt p0x8
  try simp only [k0_r0_6, k0_r0_8, k0_r0_0_0_0] at p1x8
  try have q1x8 := congrArg Int32.toInt p1x8
  try simp only [k0_r0_6, k0_r0_8, k0_r0_0_0_0] at p2x8
  try have q2x8 := congrArg Int32.toInt p2x8
  refine k_istore_n C (lw := [(2, .int x8), (1, .ref rr6), (0, .ref r0)]) rfl rfl (Nat.le_of_ble_eq_true rfl) rfl ?_
  refine z_iconst C (z := 0) rfl rfl rfl (fun x9 ex9 => ?_)
  have J10 : ∀ (nn11 : Nat) (I12 : IT) (L13 : LT) (x14 : Int32), (MN (2147483647 - x14.toInt) nn11) → (IX A T I12) → (Chg (fun a => a = r0 ∨ a = HA R r0 (I r0 6).toNatClampNeg ∨ a = rA R r0 4) T [] I L I12 L13) → (0 ≤ x14.toInt) → (EDN I12 rr6 (HEL R I r0 w_r0_0_0_0.toInt x14.toNatClampNeg) w_r0_8.toInt) → (I12 r0_4 = I r0_4) → (x14.toInt ≤ w_r0_6.toInt) → V 55 [(0, .ref r0), (1, .ref rr6), (2, .int x8), (3, .int x14)] [] (T, N, I12, L13, R) 0 0 := by
    intro nn11
    induction nn11 using Nat.strongRecOn with
    | _ nn11 ihJ10 =>
      intro I12 L13 x14 hmnn11 hI17 S16 b15 ff55_0 ff55_1 ff55_2
      have gx14 := rg x14
      have e21 := Chg.k S16 T_r0 (by decide) (by decide) k0_r0_6
      have e22 := Chg.k S16 T_r0 (by decide) (by decide) k0_r0_8
      have e23 := Chg.k S16 T_r0_0_0 (by decide) (by decide) k0_r0_0_0_0
      refine k_iload_n C rfl rfl rfl ?_
      refine k_aload_n C rfl rfl rfl ?_
      refine g_I C rfl rfl rfl T_r0 rfl e21 ?_
      refine b_icmp_ge C (t := 160) rfl rfl rfl (fun c24 => ?_) (fun c24 => ?_)
      · skip
        have hE160 : EDN I12 rr6 (HEL R I r0 w_r0_0_0_0.toInt (I r0 6).toNatClampNeg) w_r0_8.toInt := (by rw [show x14.toNatClampNeg = (I r0 6).toNatClampNeg from (by rw [k0_r0_6]; have z9 := ncz (x := x14) (by omega); have z8 := ncz (x := w_r0_6) (by omega); omega)] at ff55_0; exact ff55_0)
        refine z_iconst C (z := 0) rfl rfl rfl (fun x25 ex25 => ?_)
        have J26 : ∀ (nn27 : Nat) (x28 : Int32), (MN (492 - x28.toInt) nn27) → (0 ≤ x28.toInt) → (x28.toInt ≤ 492) → (∀ j : Nat, (j : Int) < x28.toInt → (I12 rr6 j).toInt = 0) → (0 ≤ x28.toInt ∧ x28.toInt ≤ w_r0_8.toInt) → V 162 [(0, .ref r0), (1, .ref rr6), (2, .int x8), (3, .int x28)] [] (T, N, I12, L13, R) 0 0 := by
          intro nn27
          induction nn27 using Nat.strongRecOn with
          | _ nn27 ihJ26 =>
            intro x28 hmnn27 b29 b30 ff162_0 ff162_1
            have gx28 := rg x28
            refine k_iload_n C rfl rfl rfl ?_
            refine k_iload_n C rfl rfl rfl ?_
            refine b_icmp_ge C (t := 179) rfl rfl rfl (fun c33 => ?_) (fun c33 => ?_)
            · skip
              refine k_iload_n C rfl rfl rfl ?_
              refine k_iload_n C rfl rfl rfl ?_
              refine b_icmp_lt C (t := 186) rfl rfl rfl (fun c34 => ?_) (fun c34 => ?_)
              · skip
                refine k_aload_n C rfl rfl rfl ?_
                refine g_R C rfl rfl rfl T_r0 rfl R_r0_0 ?_
                refine k_aload_n C rfl rfl rfl ?_
                refine k_iload_n C rfl rfl rfl ?_
                refine z_aI C rfl rfl T_rr6 N_rr6 (by omega) (by omega) (fun x35 ex35 => ?_)
                have gx35 := rg x35
                have hi193 := hE160.g ex35 (by omega) (by omega); have hb193 : 0 ≤ x35.toInt ∧ x35.toInt < w_r0_0_0_0.toInt := (by rw [hi193]; exact HEL.b hp2 hp18.1 (by have z9 := ncz (x := x28) (by omega); omega)); have hfw : FSW (HEL R I r0 w_r0_0_0_0.toInt (I r0 6).toNatClampNeg) w_r0_8.toInt.toNat = x28.toNatClampNeg := (by first | (exfalso; omega) | exact FSW.h2 hE160 ff162_0 hz170 (by omega) (by omega) (by omega))
                refine c_VI C (s_X0_inverse_x hS hI17 H_r0_0 (by omega) (by omega) (by rw [z_r0_0_0, e23]; exact hp4)) rfl rfl rfl rfl rfl ⟨_, rfl, rfl, T_r0_0, Nat.le_of_ble_eq_true rfl⟩ rfl rfl (Nat.le_of_ble_eq_true rfl) (Nat.le_of_ble_eq_true rfl) (Nat.le_of_ble_eq_true rfl) ?_
                rintro x36 _ _ ⟨o0x36, o1x36, p0x36, rfl, rfl⟩
                have gx36 := rg x36
                try simp only [z_r0_0, z_r0_1, z_r0_2, z_r0_3, z_r0_4, z_r0_5, z_r0_0_0, z_r0_0_1, z_r0_0_2, z_r0_0_0_6, z_r0_0_0_7, z_r0_0_0_8, z_r0_0_0_9, z_r0_0_0_10] at p0x36
                try simp only [e21, e22, e23] at p0x36
                try have q0x36 := congrArg Int32.toInt p0x36
                have hiv := p0x36; (try simp only [e23] at hiv); have hiv9 := (IVP.u hp4 (by omega) (by omega) hiv.1 (hiv.2 (by omega) (by omega) (by omega))).trans (congrArg (IVP w_r0_0_0_0.toInt) hi193)
                refine k_istore C (lw := [(4, .int x36), (0, .ref r0), (1, .ref rr6), (2, .int x8), (3, .int x28)]) rfl rfl (Nat.le_of_ble_eq_true rfl) rfl ?_
                refine k_iload_n C rfl rfl rfl ?_
                have J37 : ∀ (nn38 : Nat) (I39 : IT) (L40 : LT) (x41 : Int32), (MN (492 - x41.toInt) nn38) → (IX A T I39) → (Chg (fun a => a = r0 ∨ a = HA R r0 (I r0 6).toNatClampNeg ∨ a = rA R r0 4) T [] I12 L13 I39 L40) → (0 ≤ x41.toInt) → (x41.toInt ≤ 492) → (EDM I39 rr6 (NRW w_r0_0_0_0.toInt (HEL R I r0 w_r0_0_0_0.toInt (I r0 6).toNatClampNeg) x28.toNatClampNeg) (HEL R I r0 w_r0_0_0_0.toInt (I r0 6).toNatClampNeg) w_r0_8.toInt x41.toInt) → (I39 r0_4 = I r0_4) → (0 ≤ x41.toInt ∧ x41.toInt ≤ w_r0_8.toInt) → V 201 [(0, .ref r0), (1, .ref rr6), (2, .int x8), (3, .int x28), (4, .int x36), (5, .int x41)] [] (T, N, I39, L40, R) 0 0 := by
                  intro nn38
                  induction nn38 using Nat.strongRecOn with
                  | _ nn38 ihJ37 =>
                    intro I39 L40 x41 hmnn38 hI45 S44 b42 b43 ff201_0 ff201_1 ff201_2
                    have gx41 := rg x41
                    have e49 := Chg.k S44 T_r0 (by decide) (by decide) e21
                    have e50 := Chg.k S44 T_r0 (by decide) (by decide) e22
                    have e51 := Chg.k S44 T_r0_0_0 (by decide) (by decide) e23
                    refine k_iload C rfl rfl rfl ?_
                    refine k_iload_n C rfl rfl rfl ?_
                    refine b_icmp_ge C (t := 232) rfl rfl rfl (fun c52 => ?_) (fun c52 => ?_)
                    · skip
                      refine k_aload_n C rfl rfl rfl ?_
                      refine g_R C rfl rfl rfl T_r0 rfl R_r0_4 ?_
                      refine k_aload_n C rfl rfl rfl ?_
                      refine g_I C rfl rfl rfl T_r0 rfl e49 ?_
                      refine k_iload_n C rfl rfl rfl ?_
                      refine z_sI C rfl rfl T_r0_4 N_r0_4 (by omega) (by omega) (fun I53 uI53 => ?_)
                      have hI53 : IX A T I53 := IX.a hI45 T_r0_4 (Nat.le_of_ble_eq_true rfl) uI53
                      have S54 : Chg (SL [r0_4]) T [] I39 L40 I53 L40 := Chg.a List.mem_cons_self T_r0_4 (Nat.le_of_ble_eq_true rfl) uI53
                      have e55 := u2_n uI53 (t_nq T_r0 T_r0_4 (by decide)) e49
                      have e56 := u2_n uI53 (t_nq T_r0 T_r0_4 (by decide)) e50
                      have e57 := u2_n uI53 (t_nq T_r0_0_0 T_r0_4 (by decide)) e51
                      have hu241 := uI53
                      refine k_aload_n C rfl rfl rfl ?_
                      refine k_dup C rfl rfl rfl ?_
                      refine g_I C rfl rfl rfl T_r0 rfl e55 ?_
                      refine z_iconst C (z := 1) rfl rfl rfl (fun x58 ex58 => ?_)
                      refine z_iadd C rfl rfl ⟨by omega, by omega⟩ (fun x59 ex59 => ?_)
                      refine z_pI C rfl rfl rfl T_r0 (Or.inr rfl) rfl (fun I60 uI60 => ?_)
                      have hI60 : IX A T I60 := IX.f hI53 T_r0 (boX.tr (by decide) (by decide)) uI60
                      have S61 : Chg (SL [r0]) T [(6, 6)] I53 L40 I60 L40 := Chg.f List.mem_cons_self T_r0 uI60
                      have e62 := u2_j uI60 (by decide) e56
                      have e63 := u2_j uI60 (by decide) e57
                      have e64 := u2_e uI60
                      have hu249 := uI60
                      refine z_iconst C (z := 1) rfl rfl rfl (fun x65 ex65 => ?_)
                      exact k_iret C rfl (Or.inr ⟨rfl, z01 (by omega) (by omega)⟩) (Nat.le_of_ble_eq_true rfl) (Nat.le_of_ble_eq_true rfl) ⟨_, _, _, rfl, rfl, by omega, by omega, by (try simp only [z_r0_0, z_r0_1, z_r0_2, z_r0_3, z_r0_4, z_r0_5, z_r0_0_0, z_r0_0_1, z_r0_0_2, z_r0_0_0_6, z_r0_0_0_7, z_r0_0_0_8, z_r0_0_0_9, z_r0_0_0_10]); intro h; exfalso; omega, by (try simp only [z_r0_0, z_r0_1, z_r0_2, z_r0_3, z_r0_4, z_r0_5, z_r0_0_0, z_r0_0_1, z_r0_0_2, z_r0_0_0_6, z_r0_0_0_7, z_r0_0_0_8, z_r0_0_0_9, z_r0_0_0_10]); intro _; simp only [k0_r0_8, k0_r0_0_0_0]; exact ⟨(by rw [hfw]; have z9 := ncz (x := x28) (by omega); omega), (by rw [e64, k0_r0_6]; omega), (fun k hk => by rw [hfw, oI, hu249, u2_r (t_nq hH T_r0 (by decide)), hu241, u2_r (Ne.symm nF)]; exact ff201_0.e (by omega) k hk), (by rw [hfw, hu249, u2_r (t_nq T_r0_4 T_r0 (by decide)), hu241, k0_r0_6, u2_s]; exact (ncz (by omega)).symm)⟩, by (try simp only [z_r0_0, z_r0_1, z_r0_2, z_r0_3, z_r0_4, z_r0_5, z_r0_0_0, z_r0_0_1, z_r0_0_2, z_r0_0_0_6, z_r0_0_0_7, z_r0_0_0_8, z_r0_0_0_9, z_r0_0_0_10]); intro i hi; rw [hu249, u2_r (t_nq T_r0_4 T_r0 (by decide)), hu241, u2_k (by rw [k0_r0_6] at hi; omega), ff201_1], hI60, (Chg.cons S16 (Chg.cons S44 (Chg.cons (Chg.up S54 (sl_1 (Or.inr (Or.inr z_r0_4.symm)))) (Chg.mono (Chg.up S61 (sl_1 (Or.inl rfl))) (by decide)) (by decide)) (by decide)) (by decide))⟩
                    refine k_aload_n C rfl rfl rfl ?_
                    refine k_iload C rfl rfl rfl ?_
                    refine k_aload_n C rfl rfl rfl ?_
                    refine g_R C rfl rfl rfl T_r0 rfl R_r0_0 ?_
                    refine k_aload_n C rfl rfl rfl ?_
                    refine k_iload C rfl rfl rfl ?_
                    refine z_aI C rfl rfl T_rr6 N_rr6 (by omega) (by omega) (fun x66 ex66 => ?_)
                    have gx66 := rg x66
                    have hr218 := ff201_0.g ex66 (by omega) (by omega)
                    refine k_iload C rfl rfl rfl ?_
                    refine z_imulE C rfl rfl (fun x67 ex67 => ?_)
                    have gx67 := rg x67
                    have m220 := ex67
                    refine z_i2l C rfl rfl (fun lg68 elg68 => ?_)
                    have hl222 := elg68
                    refine c_VI C (s_X0_of_x hS hI45 H_r0_0) rfl rfl rfl rfl rfl ⟨_, rfl, rfl, T_r0_0, Nat.le_of_ble_eq_true rfl⟩ rfl rfl (Nat.le_of_ble_eq_true rfl) (Nat.le_of_ble_eq_true rfl) (Nat.le_of_ble_eq_true rfl) ?_
                    rintro x69 _ _ ⟨o0x69, o1x69, p0x69, p1x69, rfl, rfl⟩
                    have gx69 := rg x69
                    try simp only [z_r0_0, z_r0_1, z_r0_2, z_r0_3, z_r0_4, z_r0_5, z_r0_0_0, z_r0_0_1, z_r0_0_2, z_r0_0_0_6, z_r0_0_0_7, z_r0_0_0_8, z_r0_0_0_9, z_r0_0_0_10] at p0x69
                    try simp only [z_r0_0, z_r0_1, z_r0_2, z_r0_3, z_r0_4, z_r0_5, z_r0_0_0, z_r0_0_1, z_r0_0_2, z_r0_0_0_6, z_r0_0_0_7, z_r0_0_0_8, z_r0_0_0_9, z_r0_0_0_10] at p1x69
                    try simp only [e49, e50, e51] at p0x69
                    try have q0x69 := congrArg Int32.toInt p0x69
                    try simp only [e49, e50, e51] at p1x69
                    try have q1x69 := congrArg Int32.toInt p1x69
                    have hof2 := p0x69; (try simp only [e51] at hof2)
                    refine z_sI C rfl rfl T_rr6 N_rr6 (by omega) (by omega) (fun I70 uI70 => ?_)
                    have hI70 : IX A T I70 := IX.a hI45 T_rr6 (Nat.le_of_ble_eq_true rfl) uI70
                    have S71 : Chg (SL [rr6]) T [] I39 L40 I70 L40 := Chg.a List.mem_cons_self T_rr6 (Nat.le_of_ble_eq_true rfl) uI70
                    have e72 := u2_n uI70 (t_nq T_r0 T_rr6 (by decide)) e49
                    have e73 := u2_n uI70 (t_nq T_r0 T_rr6 (by decide)) e50
                    have e74 := u2_n uI70 (t_nq T_r0_0_0 T_rr6 (by decide)) e51
                    have hu225 := uI70
                    refine z_iinc C (z := 1) (lw := fun x75 => [(5, .int x75), (0, .ref r0), (1, .ref rr6), (2, .int x8), (3, .int x28), (4, .int x36)]) rfl rfl rfl (Nat.le_of_ble_eq_true rfl) rfl ⟨by omega, by omega⟩ (fun _ => rfl) (fun x75 ex75 => ?_)
                    show V 229 [(5, .int x75), (0, .ref r0), (1, .ref rr6), (2, .int x8), (3, .int x28), (4, .int x36)] _ _ _ _
                    refine k_goto C (pc2 := 201) rfl rfl ?_
                    refine k_sub S [(0, .ref r0), (1, .ref rr6), (2, .int x8), (3, .int x28), (4, .int x36), (5, .int x75)] (List.forall_mem_cons.mpr ⟨List.mem_of_getElem? (i := 1) rfl, List.forall_mem_cons.mpr ⟨List.mem_of_getElem? (i := 2) rfl, List.forall_mem_cons.mpr ⟨List.mem_of_getElem? (i := 3) rfl, List.forall_mem_cons.mpr ⟨List.mem_of_getElem? (i := 4) rfl, List.forall_mem_cons.mpr ⟨List.mem_of_getElem? (i := 5) rfl, List.forall_mem_cons.mpr ⟨List.mem_of_getElem? (i := 0) rfl, fun _ h => nomatch h⟩⟩⟩⟩⟩⟩) ?_
                    exact ihJ37 _ (MN.lt hmnn38 (by omega) (by omega)) I70 L40 x75 rfl hI70 (Chg.cons S44 (Chg.mono (Chg.up S71 (sl_1 (Or.inr (Or.inl (by rw [k0_r0_6]; exact oH.symm))))) (by decide)) (by decide)) (by omega) (by omega) (by exact ff201_0.s hu225 (NRW.v hp2 hp18 (by omega) (by omega) hr218 hiv9 m220 hl222 hof2) (by omega) (by omega)) (by rw [hu225, u2_r nF]; exact ff201_1) (by omega)
                refine k_istore C (lw := [(5, .int x28), (4, .int x36), (0, .ref r0), (1, .ref rr6), (2, .int x8), (3, .int x28)]) rfl rfl (Nat.le_of_ble_eq_true rfl) rfl ?_
                refine k_sub S [(0, .ref r0), (1, .ref rr6), (2, .int x8), (3, .int x28), (4, .int x36), (5, .int x28)] (List.forall_mem_cons.mpr ⟨List.mem_of_getElem? (i := 2) rfl, List.forall_mem_cons.mpr ⟨List.mem_of_getElem? (i := 3) rfl, List.forall_mem_cons.mpr ⟨List.mem_of_getElem? (i := 4) rfl, List.forall_mem_cons.mpr ⟨List.mem_of_getElem? (i := 5) rfl, List.forall_mem_cons.mpr ⟨List.mem_of_getElem? (i := 1) rfl, List.forall_mem_cons.mpr ⟨List.mem_of_getElem? (i := 0) rfl, fun _ h => nomatch h⟩⟩⟩⟩⟩⟩) ?_
                exact J37 _ I12 L13 x28 rfl hI17 Chg.rf (by omega) (by omega) (by exact EDM.f hE160 ff162_0 (by omega)) (by exact ff55_1) (by omega)
              refine z_iconst C (z := 0) rfl rfl rfl (fun x76 ex76 => ?_)
              exact k_iret C rfl (Or.inr ⟨rfl, z01 (by omega) (by omega)⟩) (Nat.le_of_ble_eq_true rfl) (Nat.le_of_ble_eq_true rfl) ⟨_, _, _, rfl, rfl, by omega, by omega, by (try simp only [z_r0_0, z_r0_1, z_r0_2, z_r0_3, z_r0_4, z_r0_5, z_r0_0_0, z_r0_0_1, z_r0_0_2, z_r0_0_0_6, z_r0_0_0_7, z_r0_0_0_8, z_r0_0_0_9, z_r0_0_0_10]); first | (exfalso; omega) | (intro _; simp only [k0_r0_8, k0_r0_0_0_0]; exact ⟨(by rw [FSW.h hE160 ff162_0 (by omega) (by omega) (fun c => by omega)]; omega), (by rw [e21, k0_r0_6])⟩), by (try simp only [z_r0_0, z_r0_1, z_r0_2, z_r0_3, z_r0_4, z_r0_5, z_r0_0_0, z_r0_0_1, z_r0_0_2, z_r0_0_0_6, z_r0_0_0_7, z_r0_0_0_8, z_r0_0_0_9, z_r0_0_0_10]); intro h; exfalso; omega, by (try simp only [z_r0_0, z_r0_1, z_r0_2, z_r0_3, z_r0_4, z_r0_5, z_r0_0_0, z_r0_0_1, z_r0_0_2, z_r0_0_0_6, z_r0_0_0_7, z_r0_0_0_8, z_r0_0_0_9, z_r0_0_0_10]); intro i _; first | rw [ff55_1] | rw [z_r0_4, ff55_1], hI17, (Chg.mono S16 (by decide))⟩
            refine k_aload_n C rfl rfl rfl ?_
            refine k_iload_n C rfl rfl rfl ?_
            refine z_aI C rfl rfl T_rr6 N_rr6 (by omega) (by omega) (fun x77 ex77 => ?_)
            have gx77 := rg x77
            have hz170 := ex77; have hi170 := hE160.g ex77 (by omega) (by omega)
            refine b_if_ne C (t := 179) rfl rfl rfl (fun c78 => ?_) (fun c78 => ?_)
            · skip
              refine k_iload_n C rfl rfl rfl ?_
              refine k_iload_n C rfl rfl rfl ?_
              refine b_icmp_lt C (t := 186) rfl rfl rfl (fun c79 => ?_) (fun c79 => ?_)
              · skip
                refine k_aload_n C rfl rfl rfl ?_
                refine g_R C rfl rfl rfl T_r0 rfl R_r0_0 ?_
                refine k_aload_n C rfl rfl rfl ?_
                refine k_iload_n C rfl rfl rfl ?_
                refine z_aI C rfl rfl T_rr6 N_rr6 (by omega) (by omega) (fun x80 ex80 => ?_)
                have gx80 := rg x80
                have hi193 := hE160.g ex80 (by omega) (by omega); have hb193 : 0 ≤ x80.toInt ∧ x80.toInt < w_r0_0_0_0.toInt := (by rw [hi193]; exact HEL.b hp2 hp18.1 (by have z9 := ncz (x := x28) (by omega); omega)); have hfw : FSW (HEL R I r0 w_r0_0_0_0.toInt (I r0 6).toNatClampNeg) w_r0_8.toInt.toNat = x28.toNatClampNeg := (by first | (exfalso; omega) | exact FSW.h2 hE160 ff162_0 hz170 (by omega) (by omega) (by omega))
                refine c_VI C (s_X0_inverse_x hS hI17 H_r0_0 (by omega) (by omega) (by rw [z_r0_0_0, e23]; exact hp4)) rfl rfl rfl rfl rfl ⟨_, rfl, rfl, T_r0_0, Nat.le_of_ble_eq_true rfl⟩ rfl rfl (Nat.le_of_ble_eq_true rfl) (Nat.le_of_ble_eq_true rfl) (Nat.le_of_ble_eq_true rfl) ?_
                rintro x81 _ _ ⟨o0x81, o1x81, p0x81, rfl, rfl⟩
                have gx81 := rg x81
                try simp only [z_r0_0, z_r0_1, z_r0_2, z_r0_3, z_r0_4, z_r0_5, z_r0_0_0, z_r0_0_1, z_r0_0_2, z_r0_0_0_6, z_r0_0_0_7, z_r0_0_0_8, z_r0_0_0_9, z_r0_0_0_10] at p0x81
                try simp only [e21, e22, e23] at p0x81
                try have q0x81 := congrArg Int32.toInt p0x81
                have hiv := p0x81; (try simp only [e23] at hiv); have hiv9 := (IVP.u hp4 (by omega) (by omega) hiv.1 (hiv.2 (by omega) (by omega) (by omega))).trans (congrArg (IVP w_r0_0_0_0.toInt) hi193)
                refine k_istore C (lw := [(4, .int x81), (0, .ref r0), (1, .ref rr6), (2, .int x8), (3, .int x28)]) rfl rfl (Nat.le_of_ble_eq_true rfl) rfl ?_
                refine k_iload_n C rfl rfl rfl ?_
                have J82 : ∀ (nn83 : Nat) (I84 : IT) (L85 : LT) (x86 : Int32), (MN (492 - x86.toInt) nn83) → (IX A T I84) → (Chg (fun a => a = r0 ∨ a = HA R r0 (I r0 6).toNatClampNeg ∨ a = rA R r0 4) T [] I12 L13 I84 L85) → (0 ≤ x86.toInt) → (x86.toInt ≤ 492) → (EDM I84 rr6 (NRW w_r0_0_0_0.toInt (HEL R I r0 w_r0_0_0_0.toInt (I r0 6).toNatClampNeg) x28.toNatClampNeg) (HEL R I r0 w_r0_0_0_0.toInt (I r0 6).toNatClampNeg) w_r0_8.toInt x86.toInt) → (I84 r0_4 = I r0_4) → (0 ≤ x86.toInt ∧ x86.toInt ≤ w_r0_8.toInt) → V 201 [(0, .ref r0), (1, .ref rr6), (2, .int x8), (3, .int x28), (4, .int x81), (5, .int x86)] [] (T, N, I84, L85, R) 0 0 := by
                  intro nn83
                  induction nn83 using Nat.strongRecOn with
                  | _ nn83 ihJ82 =>
                    intro I84 L85 x86 hmnn83 hI90 S89 b87 b88 ff201_0 ff201_1 ff201_2
                    have gx86 := rg x86
                    have e94 := Chg.k S89 T_r0 (by decide) (by decide) e21
                    have e95 := Chg.k S89 T_r0 (by decide) (by decide) e22
                    have e96 := Chg.k S89 T_r0_0_0 (by decide) (by decide) e23
                    refine k_iload C rfl rfl rfl ?_
                    refine k_iload_n C rfl rfl rfl ?_
                    refine b_icmp_ge C (t := 232) rfl rfl rfl (fun c97 => ?_) (fun c97 => ?_)
                    · skip
                      refine k_aload_n C rfl rfl rfl ?_
                      refine g_R C rfl rfl rfl T_r0 rfl R_r0_4 ?_
                      refine k_aload_n C rfl rfl rfl ?_
                      refine g_I C rfl rfl rfl T_r0 rfl e94 ?_
                      refine k_iload_n C rfl rfl rfl ?_
                      refine z_sI C rfl rfl T_r0_4 N_r0_4 (by omega) (by omega) (fun I98 uI98 => ?_)
                      have hI98 : IX A T I98 := IX.a hI90 T_r0_4 (Nat.le_of_ble_eq_true rfl) uI98
                      have S99 : Chg (SL [r0_4]) T [] I84 L85 I98 L85 := Chg.a List.mem_cons_self T_r0_4 (Nat.le_of_ble_eq_true rfl) uI98
                      have e100 := u2_n uI98 (t_nq T_r0 T_r0_4 (by decide)) e94
                      have e101 := u2_n uI98 (t_nq T_r0 T_r0_4 (by decide)) e95
                      have e102 := u2_n uI98 (t_nq T_r0_0_0 T_r0_4 (by decide)) e96
                      have hu241 := uI98
                      refine k_aload_n C rfl rfl rfl ?_
                      refine k_dup C rfl rfl rfl ?_
                      refine g_I C rfl rfl rfl T_r0 rfl e100 ?_
                      refine z_iconst C (z := 1) rfl rfl rfl (fun x103 ex103 => ?_)
                      refine z_iadd C rfl rfl ⟨by omega, by omega⟩ (fun x104 ex104 => ?_)
                      refine z_pI C rfl rfl rfl T_r0 (Or.inr rfl) rfl (fun I105 uI105 => ?_)
                      have hI105 : IX A T I105 := IX.f hI98 T_r0 (boX.tr (by decide) (by decide)) uI105
                      have S106 : Chg (SL [r0]) T [(6, 6)] I98 L85 I105 L85 := Chg.f List.mem_cons_self T_r0 uI105
                      have e107 := u2_j uI105 (by decide) e101
                      have e108 := u2_j uI105 (by decide) e102
                      have e109 := u2_e uI105
                      have hu249 := uI105
                      refine z_iconst C (z := 1) rfl rfl rfl (fun x110 ex110 => ?_)
                      exact k_iret C rfl (Or.inr ⟨rfl, z01 (by omega) (by omega)⟩) (Nat.le_of_ble_eq_true rfl) (Nat.le_of_ble_eq_true rfl) ⟨_, _, _, rfl, rfl, by omega, by omega, by (try simp only [z_r0_0, z_r0_1, z_r0_2, z_r0_3, z_r0_4, z_r0_5, z_r0_0_0, z_r0_0_1, z_r0_0_2, z_r0_0_0_6, z_r0_0_0_7, z_r0_0_0_8, z_r0_0_0_9, z_r0_0_0_10]); intro h; exfalso; omega, by (try simp only [z_r0_0, z_r0_1, z_r0_2, z_r0_3, z_r0_4, z_r0_5, z_r0_0_0, z_r0_0_1, z_r0_0_2, z_r0_0_0_6, z_r0_0_0_7, z_r0_0_0_8, z_r0_0_0_9, z_r0_0_0_10]); intro _; simp only [k0_r0_8, k0_r0_0_0_0]; exact ⟨(by rw [hfw]; have z9 := ncz (x := x28) (by omega); omega), (by rw [e109, k0_r0_6]; omega), (fun k hk => by rw [hfw, oI, hu249, u2_r (t_nq hH T_r0 (by decide)), hu241, u2_r (Ne.symm nF)]; exact ff201_0.e (by omega) k hk), (by rw [hfw, hu249, u2_r (t_nq T_r0_4 T_r0 (by decide)), hu241, k0_r0_6, u2_s]; exact (ncz (by omega)).symm)⟩, by (try simp only [z_r0_0, z_r0_1, z_r0_2, z_r0_3, z_r0_4, z_r0_5, z_r0_0_0, z_r0_0_1, z_r0_0_2, z_r0_0_0_6, z_r0_0_0_7, z_r0_0_0_8, z_r0_0_0_9, z_r0_0_0_10]); intro i hi; rw [hu249, u2_r (t_nq T_r0_4 T_r0 (by decide)), hu241, u2_k (by rw [k0_r0_6] at hi; omega), ff201_1], hI105, (Chg.cons S16 (Chg.cons S89 (Chg.cons (Chg.up S99 (sl_1 (Or.inr (Or.inr z_r0_4.symm)))) (Chg.mono (Chg.up S106 (sl_1 (Or.inl rfl))) (by decide)) (by decide)) (by decide)) (by decide))⟩
                    refine k_aload_n C rfl rfl rfl ?_
                    refine k_iload C rfl rfl rfl ?_
                    refine k_aload_n C rfl rfl rfl ?_
                    refine g_R C rfl rfl rfl T_r0 rfl R_r0_0 ?_
                    refine k_aload_n C rfl rfl rfl ?_
                    refine k_iload C rfl rfl rfl ?_
                    refine z_aI C rfl rfl T_rr6 N_rr6 (by omega) (by omega) (fun x111 ex111 => ?_)
                    have gx111 := rg x111
                    have hr218 := ff201_0.g ex111 (by omega) (by omega)
                    refine k_iload C rfl rfl rfl ?_
                    refine z_imulE C rfl rfl (fun x112 ex112 => ?_)
                    have gx112 := rg x112
                    have m220 := ex112
                    refine z_i2l C rfl rfl (fun lg113 elg113 => ?_)
                    have hl222 := elg113
                    refine c_VI C (s_X0_of_x hS hI90 H_r0_0) rfl rfl rfl rfl rfl ⟨_, rfl, rfl, T_r0_0, Nat.le_of_ble_eq_true rfl⟩ rfl rfl (Nat.le_of_ble_eq_true rfl) (Nat.le_of_ble_eq_true rfl) (Nat.le_of_ble_eq_true rfl) ?_
                    rintro x114 _ _ ⟨o0x114, o1x114, p0x114, p1x114, rfl, rfl⟩
                    have gx114 := rg x114
                    try simp only [z_r0_0, z_r0_1, z_r0_2, z_r0_3, z_r0_4, z_r0_5, z_r0_0_0, z_r0_0_1, z_r0_0_2, z_r0_0_0_6, z_r0_0_0_7, z_r0_0_0_8, z_r0_0_0_9, z_r0_0_0_10] at p0x114
                    try simp only [z_r0_0, z_r0_1, z_r0_2, z_r0_3, z_r0_4, z_r0_5, z_r0_0_0, z_r0_0_1, z_r0_0_2, z_r0_0_0_6, z_r0_0_0_7, z_r0_0_0_8, z_r0_0_0_9, z_r0_0_0_10] at p1x114
                    try simp only [e94, e95, e96] at p0x114
                    try have q0x114 := congrArg Int32.toInt p0x114
                    try simp only [e94, e95, e96] at p1x114
                    try have q1x114 := congrArg Int32.toInt p1x114
                    have hof2 := p0x114; (try simp only [e96] at hof2)
                    refine z_sI C rfl rfl T_rr6 N_rr6 (by omega) (by omega) (fun I115 uI115 => ?_)
                    have hI115 : IX A T I115 := IX.a hI90 T_rr6 (Nat.le_of_ble_eq_true rfl) uI115
                    have S116 : Chg (SL [rr6]) T [] I84 L85 I115 L85 := Chg.a List.mem_cons_self T_rr6 (Nat.le_of_ble_eq_true rfl) uI115
                    have e117 := u2_n uI115 (t_nq T_r0 T_rr6 (by decide)) e94
                    have e118 := u2_n uI115 (t_nq T_r0 T_rr6 (by decide)) e95
                    have e119 := u2_n uI115 (t_nq T_r0_0_0 T_rr6 (by decide)) e96
                    have hu225 := uI115
                    refine z_iinc C (z := 1) (lw := fun x120 => [(5, .int x120), (0, .ref r0), (1, .ref rr6), (2, .int x8), (3, .int x28), (4, .int x81)]) rfl rfl rfl (Nat.le_of_ble_eq_true rfl) rfl ⟨by omega, by omega⟩ (fun _ => rfl) (fun x120 ex120 => ?_)
                    show V 229 [(5, .int x120), (0, .ref r0), (1, .ref rr6), (2, .int x8), (3, .int x28), (4, .int x81)] _ _ _ _
                    refine k_goto C (pc2 := 201) rfl rfl ?_
                    refine k_sub S [(0, .ref r0), (1, .ref rr6), (2, .int x8), (3, .int x28), (4, .int x81), (5, .int x120)] (List.forall_mem_cons.mpr ⟨List.mem_of_getElem? (i := 1) rfl, List.forall_mem_cons.mpr ⟨List.mem_of_getElem? (i := 2) rfl, List.forall_mem_cons.mpr ⟨List.mem_of_getElem? (i := 3) rfl, List.forall_mem_cons.mpr ⟨List.mem_of_getElem? (i := 4) rfl, List.forall_mem_cons.mpr ⟨List.mem_of_getElem? (i := 5) rfl, List.forall_mem_cons.mpr ⟨List.mem_of_getElem? (i := 0) rfl, fun _ h => nomatch h⟩⟩⟩⟩⟩⟩) ?_
                    exact ihJ82 _ (MN.lt hmnn83 (by omega) (by omega)) I115 L85 x120 rfl hI115 (Chg.cons S89 (Chg.mono (Chg.up S116 (sl_1 (Or.inr (Or.inl (by rw [k0_r0_6]; exact oH.symm))))) (by decide)) (by decide)) (by omega) (by omega) (by exact ff201_0.s hu225 (NRW.v hp2 hp18 (by omega) (by omega) hr218 hiv9 m220 hl222 hof2) (by omega) (by omega)) (by rw [hu225, u2_r nF]; exact ff201_1) (by omega)
                refine k_istore C (lw := [(5, .int x28), (4, .int x81), (0, .ref r0), (1, .ref rr6), (2, .int x8), (3, .int x28)]) rfl rfl (Nat.le_of_ble_eq_true rfl) rfl ?_
                refine k_sub S [(0, .ref r0), (1, .ref rr6), (2, .int x8), (3, .int x28), (4, .int x81), (5, .int x28)] (List.forall_mem_cons.mpr ⟨List.mem_of_getElem? (i := 2) rfl, List.forall_mem_cons.mpr ⟨List.mem_of_getElem? (i := 3) rfl, List.forall_mem_cons.mpr ⟨List.mem_of_getElem? (i := 4) rfl, List.forall_mem_cons.mpr ⟨List.mem_of_getElem? (i := 5) rfl, List.forall_mem_cons.mpr ⟨List.mem_of_getElem? (i := 1) rfl, List.forall_mem_cons.mpr ⟨List.mem_of_getElem? (i := 0) rfl, fun _ h => nomatch h⟩⟩⟩⟩⟩⟩) ?_
                exact J82 _ I12 L13 x28 rfl hI17 Chg.rf (by omega) (by omega) (by exact EDM.f hE160 ff162_0 (by omega)) (by exact ff55_1) (by omega)
              refine z_iconst C (z := 0) rfl rfl rfl (fun x121 ex121 => ?_)
              exact k_iret C rfl (Or.inr ⟨rfl, z01 (by omega) (by omega)⟩) (Nat.le_of_ble_eq_true rfl) (Nat.le_of_ble_eq_true rfl) ⟨_, _, _, rfl, rfl, by omega, by omega, by (try simp only [z_r0_0, z_r0_1, z_r0_2, z_r0_3, z_r0_4, z_r0_5, z_r0_0_0, z_r0_0_1, z_r0_0_2, z_r0_0_0_6, z_r0_0_0_7, z_r0_0_0_8, z_r0_0_0_9, z_r0_0_0_10]); first | (exfalso; omega) | (intro _; simp only [k0_r0_8, k0_r0_0_0_0]; exact ⟨(by rw [FSW.h hE160 ff162_0 (by omega) (by omega) (fun c => by omega)]; omega), (by rw [e21, k0_r0_6])⟩), by (try simp only [z_r0_0, z_r0_1, z_r0_2, z_r0_3, z_r0_4, z_r0_5, z_r0_0_0, z_r0_0_1, z_r0_0_2, z_r0_0_0_6, z_r0_0_0_7, z_r0_0_0_8, z_r0_0_0_9, z_r0_0_0_10]); intro h; exfalso; omega, by (try simp only [z_r0_0, z_r0_1, z_r0_2, z_r0_3, z_r0_4, z_r0_5, z_r0_0_0, z_r0_0_1, z_r0_0_2, z_r0_0_0_6, z_r0_0_0_7, z_r0_0_0_8, z_r0_0_0_9, z_r0_0_0_10]); intro i _; first | rw [ff55_1] | rw [z_r0_4, ff55_1], hI17, (Chg.mono S16 (by decide))⟩
            refine z_iinc C (z := 1) (lw := fun x122 => [(3, .int x122), (0, .ref r0), (1, .ref rr6), (2, .int x8)]) rfl rfl rfl (Nat.le_of_ble_eq_true rfl) rfl ⟨by omega, by omega⟩ (fun _ => rfl) (fun x122 ex122 => ?_)
            show V 176 [(3, .int x122), (0, .ref r0), (1, .ref rr6), (2, .int x8)] _ _ _ _
            refine k_goto C (pc2 := 162) rfl rfl ?_
            refine k_sub S [(0, .ref r0), (1, .ref rr6), (2, .int x8), (3, .int x122)] (List.forall_mem_cons.mpr ⟨List.mem_of_getElem? (i := 1) rfl, List.forall_mem_cons.mpr ⟨List.mem_of_getElem? (i := 2) rfl, List.forall_mem_cons.mpr ⟨List.mem_of_getElem? (i := 3) rfl, List.forall_mem_cons.mpr ⟨List.mem_of_getElem? (i := 0) rfl, fun _ h => nomatch h⟩⟩⟩⟩) ?_
            exact ihJ26 _ (MN.lt hmnn27 (by omega) (by omega)) x122 rfl (by omega) (by omega) (by exact ZNJ.s ff162_0 hz170 (by omega) (by omega) (by omega)) (by omega)
        refine k_istore_n C (lw := [(3, .int x25), (0, .ref r0), (1, .ref rr6), (2, .int x8)]) rfl rfl (Nat.le_of_ble_eq_true rfl) rfl ?_
        refine k_sub S [(0, .ref r0), (1, .ref rr6), (2, .int x8), (3, .int x25)] (List.forall_mem_cons.mpr ⟨List.mem_of_getElem? (i := 1) rfl, List.forall_mem_cons.mpr ⟨List.mem_of_getElem? (i := 2) rfl, List.forall_mem_cons.mpr ⟨List.mem_of_getElem? (i := 3) rfl, List.forall_mem_cons.mpr ⟨List.mem_of_getElem? (i := 0) rfl, fun _ h => nomatch h⟩⟩⟩⟩) ?_
        exact J26 _ x25 rfl (by omega) (by omega) (by intro j hj; exfalso; omega) (by omega)
      refine k_aload_n C rfl rfl rfl ?_
      refine g_R C rfl rfl rfl T_r0 rfl R_r0_4 ?_
      refine k_iload_n C rfl rfl rfl ?_
      refine z_aI C rfl rfl T_r0_4 N_r0_4 (by omega) (by omega) (fun x123 ex123 => ?_)
      have gx123 := rg x123
      have hf69 := congrArg Int32.toInt ex123; rw [ff55_1] at hf69; have iO : x14.toNatClampNeg < (I r0 6).toNatClampNeg := (by rw [k0_r0_6]; have z9 := ncz (x := x14) (by omega); have z8 := ncz (x := w_r0_6) (by omega); omega); have ld69 := hp3 _ iO; rw [z_r0_4, hf69] at ld69
      refine k_istore C (lw := [(4, .int x123), (0, .ref r0), (1, .ref rr6), (2, .int x8), (3, .int x14)]) rfl rfl (Nat.le_of_ble_eq_true rfl) rfl ?_
      refine k_iload C rfl rfl rfl ?_
      refine b_if_lt C (t := 90) rfl rfl rfl (fun c124 => ?_) (fun c124 => ?_)
      · skip
        exfalso; omega
      refine k_iload C rfl rfl rfl ?_
      refine k_aload_n C rfl rfl rfl ?_
      refine z_len C (n := 492) rfl rfl (by rw [T_rr6]; exact Nat.le_of_ble_eq_true rfl) N_rr6 (Nat.le_of_ble_eq_true rfl) (fun x125 ex125 => ?_)
      refine b_icmp_ge C (t := 90) rfl rfl rfl (fun c126 => ?_) (fun c126 => ?_)
      · skip
        exfalso; omega
      refine k_aload_n C rfl rfl rfl ?_
      refine k_iload C rfl rfl rfl ?_
      refine z_aI C rfl rfl T_rr6 N_rr6 (by omega) (by omega) (fun x127 ex127 => ?_)
      have gx127 := rg x127
      have ht87 := ff55_0.g ex127 (by omega) (by omega); rw [show x123.toNatClampNeg = (I (rA R r0 4) x14.toNatClampNeg).toInt.toNat from (by rw [z_r0_4, hf69]; have z9 := ncz (x := x123) (by omega); omega)] at ht87
      refine k_goto C (pc2 := 91) rfl rfl ?_
      refine k_istore C (lw := [(5, .int x127), (4, .int x123), (0, .ref r0), (1, .ref rr6), (2, .int x8), (3, .int x14)]) rfl rfl (Nat.le_of_ble_eq_true rfl) rfl ?_
      refine k_aload_n C rfl rfl rfl ?_
      refine g_R C rfl rfl rfl T_r0 rfl R_r0_3 ?_
      refine k_iload_n C rfl rfl rfl ?_
      refine z_aRe C (t := 3) rfl rfl (Nat.le_of_ble_eq_true rfl) T_r0_3 N_r0_3 E_r0_3 (by omega) (by omega) (fun rr128 Q_rr128 H_rr128 => ?_)
      have oO := HA_e z_r0_3 Q_rr128; have hO := H_rr128.1; have nO := GR.h3 hU gR (i := x14.toNatClampNeg) (j := (I r0 6).toNatClampNeg) (by omega) im (by omega); rw [oO] at nO
      refine k_astore C (lw := [(6, .ref rr128), (5, .int x127), (4, .int x123), (0, .ref r0), (1, .ref rr6), (2, .int x8), (3, .int x14)]) rfl rfl (Nat.le_of_ble_eq_true rfl) rfl ?_
      refine z_iconst C (z := 0) rfl rfl rfl (fun x129 ex129 => ?_)
      have J130 : ∀ (nn131 : Nat) (I132 : IT) (L133 : LT) (x134 : Int32), (MN (492 - x134.toInt) nn131) → (IX A T I132) → (Chg (fun a => a = r0 ∨ a = HA R r0 (I r0 6).toNatClampNeg ∨ a = rA R r0 4) T [] I12 L13 I132 L133) → (0 ≤ x134.toInt) → (x134.toInt ≤ 492) → (EDM I132 rr6 (HEL R I r0 w_r0_0_0_0.toInt (x14.toNatClampNeg + 1)) (HEL R I r0 w_r0_0_0_0.toInt x14.toNatClampNeg) w_r0_8.toInt x134.toInt) → (I132 r0_4 = I r0_4) → (0 ≤ x134.toInt ∧ x134.toInt ≤ w_r0_8.toInt) → V 104 [(0, .ref r0), (1, .ref rr6), (2, .int x8), (3, .int x14), (5, .int x127), (6, .ref rr128), (7, .int x134)] [] (T, N, I132, L133, R) 0 0 := by
        intro nn131
        induction nn131 using Nat.strongRecOn with
        | _ nn131 ihJ130 =>
          intro I132 L133 x134 hmnn131 hI138 S137 b135 b136 ff104_0 ff104_1 ff104_2
          have gx134 := rg x134
          have e142 := Chg.k S137 T_r0 (by decide) (by decide) e21
          have e143 := Chg.k S137 T_r0 (by decide) (by decide) e22
          have e144 := Chg.k S137 T_r0_0_0 (by decide) (by decide) e23
          refine k_iload C rfl rfl rfl ?_
          refine b_if_eq C (t := 154) rfl rfl rfl (fun c145 => ?_) (fun c145 => ?_)
          · skip
            refine z_iinc C (z := 1) (lw := fun x146 => [(3, .int x146), (0, .ref r0), (1, .ref rr6), (2, .int x8), (5, .int x127), (6, .ref rr128), (7, .int x134)]) rfl rfl rfl (Nat.le_of_ble_eq_true rfl) rfl ⟨by omega, by omega⟩ (fun _ => rfl) (fun x146 ex146 => ?_)
            show V 157 [(3, .int x146), (0, .ref r0), (1, .ref rr6), (2, .int x8), (5, .int x127), (6, .ref rr128), (7, .int x134)] _ _ _ _
            refine k_goto C (pc2 := 55) rfl rfl ?_
            refine k_sub S [(0, .ref r0), (1, .ref rr6), (2, .int x8), (3, .int x146)] (List.forall_mem_cons.mpr ⟨List.mem_of_getElem? (i := 1) rfl, List.forall_mem_cons.mpr ⟨List.mem_of_getElem? (i := 2) rfl, List.forall_mem_cons.mpr ⟨List.mem_of_getElem? (i := 3) rfl, List.forall_mem_cons.mpr ⟨List.mem_of_getElem? (i := 0) rfl, fun _ h => nomatch h⟩⟩⟩⟩) ?_
            exact ihJ10 _ (MN.lt hmnn11 (by omega) (by omega)) I132 L133 x146 rfl hI138 (Chg.cons S16 (Chg.mono S137 (by decide)) (by decide)) (by omega) (by first | exact (ff104_0.e (by omega)).s (by omega) (by omega) | exact (ff104_0.t (HEL.z hp2 hp18.1 (by omega))).s (by omega) (by omega)) (by exact ff104_1) (by omega)
          refine k_iload C rfl rfl rfl ?_
          refine k_iload_n C rfl rfl rfl ?_
          refine b_icmp_ge C (t := 154) rfl rfl rfl (fun c147 => ?_) (fun c147 => ?_)
          · skip
            refine z_iinc C (z := 1) (lw := fun x148 => [(3, .int x148), (0, .ref r0), (1, .ref rr6), (2, .int x8), (5, .int x127), (6, .ref rr128), (7, .int x134)]) rfl rfl rfl (Nat.le_of_ble_eq_true rfl) rfl ⟨by omega, by omega⟩ (fun _ => rfl) (fun x148 ex148 => ?_)
            show V 157 [(3, .int x148), (0, .ref r0), (1, .ref rr6), (2, .int x8), (5, .int x127), (6, .ref rr128), (7, .int x134)] _ _ _ _
            refine k_goto C (pc2 := 55) rfl rfl ?_
            refine k_sub S [(0, .ref r0), (1, .ref rr6), (2, .int x8), (3, .int x148)] (List.forall_mem_cons.mpr ⟨List.mem_of_getElem? (i := 1) rfl, List.forall_mem_cons.mpr ⟨List.mem_of_getElem? (i := 2) rfl, List.forall_mem_cons.mpr ⟨List.mem_of_getElem? (i := 3) rfl, List.forall_mem_cons.mpr ⟨List.mem_of_getElem? (i := 0) rfl, fun _ h => nomatch h⟩⟩⟩⟩) ?_
            exact ihJ10 _ (MN.lt hmnn11 (by omega) (by omega)) I132 L133 x148 rfl hI138 (Chg.cons S16 (Chg.mono S137 (by decide)) (by decide)) (by omega) (by first | exact (ff104_0.e (by omega)).s (by omega) (by omega) | exact (ff104_0.t (HEL.z hp2 hp18.1 (by omega))).s (by omega) (by omega)) (by exact ff104_1) (by omega)
          refine k_iload C rfl rfl rfl ?_
          refine k_aload C rfl rfl rfl ?_
          obtain ⟨T_rr128, N_rr128, A_rr128⟩ := id H_rr128
          refine z_len C (n := 492) rfl rfl (by rw [T_rr128]; exact Nat.le_of_ble_eq_true rfl) N_rr128 (Nat.le_of_ble_eq_true rfl) (fun x149 ex149 => ?_)
          refine b_icmp_ge C (t := 154) rfl rfl rfl (fun c150 => by exfalso; omega) (fun c150 => ?_)
          refine k_aload_n C rfl rfl rfl ?_
          refine k_iload C rfl rfl rfl ?_
          refine k_aload_n C rfl rfl rfl ?_
          refine g_R C rfl rfl rfl T_r0 rfl R_r0_0 ?_
          refine k_aload_n C rfl rfl rfl ?_
          refine k_iload C rfl rfl rfl ?_
          refine z_aI C rfl rfl T_rr6 N_rr6 (by omega) (by omega) (fun x151 ex151 => ?_)
          have gx151 := rg x151
          have hr134 := ff104_0.g ex151 (by omega) (by omega)
          refine k_iload C rfl rfl rfl ?_
          refine k_aload C rfl rfl rfl ?_
          refine k_iload C rfl rfl rfl ?_
          refine z_aI C rfl rfl T_rr128 N_rr128 (by omega) (by omega) (fun x152 ex152 => ?_)
          have gx152 := rg x152
          have ho141 := congrArg Int32.toInt ex152; rw [Chg.at (((Chg.cons S16 (Chg.mono S137 (by decide)) (by decide)) : Chg (fun a => a = r0 ∨ a = HA R r0 (I r0 6).toNatClampNeg ∨ a = rA R r0 4) T [(6, 6)] I L I132 L133)) nO, ← oO] at ho141
          refine z_imulE C rfl rfl (fun x153 ex153 => ?_)
          have gx153 := rg x153
          have m141 := ex153
          refine z_isubQ C rfl rfl (fun x154 ex154 => ?_)
          have gx154 := rg x154
          have m142 := ex154
          refine z_i2l C rfl rfl (fun lg155 elg155 => ?_)
          have hl144 := elg155
          refine c_VI C (s_X0_of_x hS hI138 H_r0_0) rfl rfl rfl rfl rfl ⟨_, rfl, rfl, T_r0_0, Nat.le_of_ble_eq_true rfl⟩ rfl rfl (Nat.le_of_ble_eq_true rfl) (Nat.le_of_ble_eq_true rfl) (Nat.le_of_ble_eq_true rfl) ?_
          rintro x156 _ _ ⟨o0x156, o1x156, p0x156, p1x156, rfl, rfl⟩
          have gx156 := rg x156
          try simp only [z_r0_0, z_r0_1, z_r0_2, z_r0_3, z_r0_4, z_r0_5, z_r0_0_0, z_r0_0_1, z_r0_0_2, z_r0_0_0_6, z_r0_0_0_7, z_r0_0_0_8, z_r0_0_0_9, z_r0_0_0_10] at p0x156
          try simp only [z_r0_0, z_r0_1, z_r0_2, z_r0_3, z_r0_4, z_r0_5, z_r0_0_0, z_r0_0_1, z_r0_0_2, z_r0_0_0_6, z_r0_0_0_7, z_r0_0_0_8, z_r0_0_0_9, z_r0_0_0_10] at p1x156
          try simp only [e142, e143, e144] at p0x156
          try have q0x156 := congrArg Int32.toInt p0x156
          try simp only [e142, e143, e144] at p1x156
          try have q1x156 := congrArg Int32.toInt p1x156
          have hof := p0x156; (try simp only [e144] at hof)
          refine z_sI C rfl rfl T_rr6 N_rr6 (by omega) (by omega) (fun I157 uI157 => ?_)
          have hI157 : IX A T I157 := IX.a hI138 T_rr6 (Nat.le_of_ble_eq_true rfl) uI157
          have S158 : Chg (SL [rr6]) T [] I132 L133 I157 L133 := Chg.a List.mem_cons_self T_rr6 (Nat.le_of_ble_eq_true rfl) uI157
          have e159 := u2_n uI157 (t_nq T_r0 T_rr6 (by decide)) e142
          have e160 := u2_n uI157 (t_nq T_r0 T_rr6 (by decide)) e143
          have e161 := u2_n uI157 (t_nq T_r0_0_0 T_rr6 (by decide)) e144
          have hu147 := uI157
          refine z_iinc C (z := 1) (lw := fun x162 => [(7, .int x162), (0, .ref r0), (1, .ref rr6), (2, .int x8), (3, .int x14), (5, .int x127), (6, .ref rr128)]) rfl rfl rfl (Nat.le_of_ble_eq_true rfl) rfl ⟨by omega, by omega⟩ (fun _ => rfl) (fun x162 ex162 => ?_)
          show V 151 [(7, .int x162), (0, .ref r0), (1, .ref rr6), (2, .int x8), (3, .int x14), (5, .int x127), (6, .ref rr128)] _ _ _ _
          refine k_goto C (pc2 := 104) rfl rfl ?_
          refine k_sub S [(0, .ref r0), (1, .ref rr6), (2, .int x8), (3, .int x14), (5, .int x127), (6, .ref rr128), (7, .int x162)] (List.forall_mem_cons.mpr ⟨List.mem_of_getElem? (i := 1) rfl, List.forall_mem_cons.mpr ⟨List.mem_of_getElem? (i := 2) rfl, List.forall_mem_cons.mpr ⟨List.mem_of_getElem? (i := 3) rfl, List.forall_mem_cons.mpr ⟨List.mem_of_getElem? (i := 4) rfl, List.forall_mem_cons.mpr ⟨List.mem_of_getElem? (i := 5) rfl, List.forall_mem_cons.mpr ⟨List.mem_of_getElem? (i := 6) rfl, List.forall_mem_cons.mpr ⟨List.mem_of_getElem? (i := 0) rfl, fun _ h => nomatch h⟩⟩⟩⟩⟩⟩⟩) ?_
          exact ihJ130 _ (MN.lt hmnn131 (by omega) (by omega)) I157 L133 x162 rfl hI157 (Chg.cons S137 (Chg.mono (Chg.up S158 (sl_1 (Or.inr (Or.inl (by rw [k0_r0_6]; exact oH.symm))))) (by decide)) (by decide)) (by omega) (by omega) (by exact ff104_0.s hu147 (HEL.v hp2 hp3 hp18 (by omega) (by omega) iO hr134 ht87 ho141 m141 m142 hl144 hof) (by omega) (by omega)) (by rw [hu147, u2_r nF]; exact ff104_1) (by omega)
      refine k_istore C (lw := [(7, .int x129), (6, .ref rr128), (5, .int x127), (4, .int x123), (0, .ref r0), (1, .ref rr6), (2, .int x8), (3, .int x14)]) rfl rfl (Nat.le_of_ble_eq_true rfl) rfl ?_
      refine k_sub S [(0, .ref r0), (1, .ref rr6), (2, .int x8), (3, .int x14), (5, .int x127), (6, .ref rr128), (7, .int x129)] (List.forall_mem_cons.mpr ⟨List.mem_of_getElem? (i := 4) rfl, List.forall_mem_cons.mpr ⟨List.mem_of_getElem? (i := 5) rfl, List.forall_mem_cons.mpr ⟨List.mem_of_getElem? (i := 6) rfl, List.forall_mem_cons.mpr ⟨List.mem_of_getElem? (i := 7) rfl, List.forall_mem_cons.mpr ⟨List.mem_of_getElem? (i := 2) rfl, List.forall_mem_cons.mpr ⟨List.mem_of_getElem? (i := 1) rfl, List.forall_mem_cons.mpr ⟨List.mem_of_getElem? (i := 0) rfl, fun _ h => nomatch h⟩⟩⟩⟩⟩⟩⟩) ?_
      exact J130 _ I12 L13 x129 rfl hI17 Chg.rf (by omega) (by omega) (by exact EDM.z ff55_0 (by omega)) (by exact ff55_1) (by omega)
  refine k_istore_n C (lw := [(3, .int x9), (2, .int x8), (1, .ref rr6), (0, .ref r0)]) rfl rfl (Nat.le_of_ble_eq_true rfl) rfl ?_
  refine k_sub S [(0, .ref r0), (1, .ref rr6), (2, .int x8), (3, .int x9)] (List.forall_mem_cons.mpr ⟨List.mem_of_getElem? (i := 3) rfl, List.forall_mem_cons.mpr ⟨List.mem_of_getElem? (i := 2) rfl, List.forall_mem_cons.mpr ⟨List.mem_of_getElem? (i := 1) rfl, List.forall_mem_cons.mpr ⟨List.mem_of_getElem? (i := 0) rfl, fun _ h => nomatch h⟩⟩⟩⟩) ?_
  exact J10 _ I L x9 rfl hI Chg.rf (by omega) (by exact EDN.z oI rfl (by omega)) (by rfl) (by omega)

