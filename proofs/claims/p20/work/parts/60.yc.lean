/-! independent signs: exactly -/
/-- all that the search for independent signs changes -/
def LSX (R : RT) (r a : Nat) : Prop := a = r ∨ (∃ i, i < 8 ∧ a = HA R r i) ∨ a = rA R r 4
def ISX (R : RT) (r a : Nat) : Prop := (∃ k, k < 12 ∧ (a = DA R r k ∨ a = rA R (DA R r k) 1)) ∨ CSX R (rA R r 1) a ∨ LSX R r a
theorem ISX.b {T N : Nat → Nat} {R : RT} {A B : Nat → Prop} {r : Nat} (h : hs_Rw T N R A B r) : ∀ a, ISX R r a → B a := by
  obtain ⟨h1, -, hb, -, ⟨ca, R1, H1⟩, ⟨dr, R2, T2, -, -, E2⟩, ⟨hl, R3, T3, -, -, E3⟩, ⟨fs, R4, H4⟩, -⟩ := h
  have z1 := rA_e R1
  have z2 := rA_e R2
  have z3 := rA_e R3
  have z4 := rA_e R4
  rintro a (⟨k, hk, e⟩ | e | e | ⟨i, hi, e⟩ | e)
  · obtain ⟨f, f1, f2⟩ := E2 k hk
    have zf : DA R r k = f := DA_e z2 f1
    rw [zf] at e
    rcases e with e | e
    · rw [e]; exact (hs_GB f2).1
    · rw [e]; exact (hs_GB f2).2
  · rw [z1] at e; exact CSX.b H1 a e
  · rw [e]; exact hb
  · obtain ⟨f, f1, f2⟩ := E3 i hi
    have zf : HA R r i = f := HA_e z3 f1
    rw [e, zf]; exact f2.2.2
  · rw [e, z4]; exact H4.2.2
theorem GR.dc {T : Nat → Nat} {R : RT} {r c k : Nat} (hU : UPR T R) (hG : GR T R r) (gK : GK T R c) (hk : k < 12) : (¬ CSX R c (DA R r k)) ∧ ¬ CSX R c (rA R (DA R r k) 1) := by
  obtain ⟨t1, t2, gd, t3, gh, r4, t4, r2, r3⟩ := hG
  have t9 := gK.1
  exact CSX.fo hU gK (gd k hk).2 (gd k hk).1 (hU.ne (Or.inr (Or.inr (Or.inr (by omega)))) r2 gK.2.1.1 (Or.inl (fun e => by rw [e] at t1; omega))) (by omega) (by omega)
theorem GR.dl {T : Nat → Nat} {R : RT} {r k : Nat} (hU : UPR T R) (hG : GR T R r) (hk : k < 12) : (¬ LSX R r (DA R r k)) ∧ ¬ LSX R r (rA R (DA R r k) 1) := by
  obtain ⟨t1, t2, gd, t3, gh, r4, t4, r2, r3⟩ := hG
  obtain ⟨d1, d2⟩ := gd k hk
  refine ⟨fun q => ?_, fun q => ?_⟩
  · have := d2.1
    rcases q with q | ⟨i, hi, q⟩ | q
    · rw [q] at this; omega
    · rw [q] at this; have := (gh i hi).2; omega
    · rw [q] at this; omega
  · have z := d2.2.2
    rcases q with q | ⟨i, hi, q⟩ | q
    · rw [q] at z; omega
    · exact hU.ne (Or.inr (Or.inr (Or.inr (by omega)))) d2.2.1 (gh i hi).1 (Or.inl (fun e => by have := d2.1; rw [e] at this; omega)) q
    · exact hU.ne (Or.inr (Or.inr (Or.inr (by omega)))) d2.2.1 r4 (Or.inl (fun e => by have := d2.1; rw [e] at this; omega)) q
theorem GR.hc {T : Nat → Nat} {R : RT} {r c i : Nat} (hU : UPR T R) (hG : GR T R r) (gK : GK T R c) (hi : i < 8) : ¬ CSX R c (HA R r i) := by
  obtain ⟨t1, t2, gd, t3, gh, r4, t4, r2, r3⟩ := hG
  exact CSX.na hU gK (gh i hi).2 (gh i hi).1 (by omega)
theorem GR.rc {T : Nat → Nat} {R : RT} {r c : Nat} (hU : UPR T R) (hG : GR T R r) (gK : GK T R c) : (¬ CSX R c r) ∧ ¬ CSX R c (rA R r 4) := by
  obtain ⟨t1, t2, gd, t3, gh, r4, t4, r2, r3⟩ := hG
  exact ⟨CSX.nt gK (by omega) (by omega) (by omega), CSX.na hU gK t4 r4 (by omega)⟩
theorem ISX.na {T : Nat → Nat} {R : RT} {r a q k : Nat} (hU : UPR T R) (hG : GR T R r) (gK : GK T R (rA R r 1)) (ta : T a = 20) (ra : R q k = some a) (h3 : T q ≠ 3) (h26 : T q ≠ 26) (h6 : T q ≠ 6) : ¬ ISX R r a := fun e => by
  obtain ⟨t1, t2, gd, t3, gh, r4, t4, r2, r3⟩ := hG
  rcases e with ⟨j, hj, e | e⟩ | e | e | ⟨i, hi, e⟩ | e
  · have := (gd j hj).2.1; rw [← e] at this; omega
  · exact hU.ne (Or.inr (Or.inr (Or.inr (by omega)))) ra (gd j hj).2.2.1 (Or.inl (fun e => by have := (gd j hj).2.1; rw [e] at h3; omega)) e
  · exact CSX.na hU gK ta ra h3 e
  · rw [e] at ta; omega
  · exact hU.ne (Or.inr (Or.inr (Or.inr (by omega)))) ra (gh i hi).1 (Or.inl (fun e => by rw [e] at h26; omega)) e
  · exact hU.ne (Or.inr (Or.inr (Or.inr (by omega)))) ra r4 (Or.inl (fun e => by rw [e] at h6; omega)) e
theorem ISX.nt {T : Nat → Nat} {R : RT} {r a : Nat} (hG : GR T R r) (gK : GK T R (rA R r 1)) (h2 : T a ≠ 2) (h3 : T a ≠ 3) (h20 : T a ≠ 20) (h6 : T a ≠ 6) : ¬ ISX R r a := fun e => by
  obtain ⟨t1, t2, gd, t3, gh, r4, t4, r2, r3⟩ := hG
  rcases e with ⟨j, hj, e | e⟩ | e | e | ⟨i, hi, e⟩ | e
  · rw [e] at h3; exact h3 (gd j hj).2.1
  · rw [e] at h20; exact h20 (gd j hj).2.2.2
  · exact CSX.nt gK h2 h3 h20 e
  · rw [e] at h6; exact h6 t1
  · rw [e] at h20; exact h20 (gh i hi).2
  · rw [e] at h20; exact h20 t4
theorem ISX.sg {T N : Nat → Nat} {R : RT} {A B S : Nat → Prop} {W : List (Nat × Nat)} {r s : Nat} {I I' : IT} {L L' : LT} (hU : UPR T R) (hG : GR T R r) (gK : GK T R (rA R r 1)) (hs : hs_Sg T N R A B s) (ch : Chg S T W I L I' L') (hS : ∀ a, S a → ISX R r a) : STL R I' s = STL R I s ∧ I' s = I s := by
  obtain ⟨ts, -, ⟨a, ra, ta, -, -⟩, ⟨b, rb, tb9, -, -⟩⟩ := hs
  have na := ISX.na hU hG gK ta ra (by omega) (by omega) (by omega)
  have nb := ISX.na hU hG gK tb9 rb (by omega) (by omega) (by omega)
  have ns := ISX.nt (a := s) hG gK (by omega) (by omega) (by omega) (by omega)
  have es : I' s = I s := Chg.at ch (fun q => ns (hS _ q))
  have ea : I' a = I a := Chg.at ch (fun q => na (hS _ q))
  have eb : I' b = I b := Chg.at ch (fun q => nb (hS _ q))
  exact ⟨STL.fr (rA_e ra) (rA_e rb) (congrFun es 2) ea eb, es⟩
theorem DRI.ne {T : Nat → Nat} {R : RT} {I I' : IT} {L L' : LT} {S : Nat → Prop} {W : List (Nat × Nat)} {r D n : Nat} {p : Int} {s : Int32} (h : DRI R I r p s D n) (ch : Chg S T W I L I' L') (hn : ∀ k, k < n → (¬ S (DA R r k)) ∧ ¬ S (rA R (DA R r k) 1)) : DRI R I' r p s D n := fun k hk => by
  have e1 : I' (DA R r k) = I (DA R r k) := Chg.at ch (hn k hk).1
  have e2 : I' (rA R (DA R r k) 1) = I (rA R (DA R r k) 1) := Chg.at ch (hn k hk).2
  rw [e1, e2]; exact h k hk
theorem DRI.q {R : RT} {I : IT} {r n k f : Nat} {p d : Int} {s : Int32} (h : DRI R I r p s d.toNat n) (hk : k < n) (hd : 0 ≤ d) (hp : 0 < p) (o : DA R r k = f) : FQV p ((I f 0).toInt, NF I (rA R f 1)) (DRF s d k) ∧ BNX I (rA R f 1) (I f 0).toInt p ∧ (I f 0).toInt = d := by
  subst o
  obtain ⟨h1, h2⟩ := h k hk
  refine ⟨⟨by show (I (DA R r k) 0).toInt = d; omega, fun m hm => ?_⟩, fun m hm => ?_, by omega⟩
  · have hm : (m : Int) ≤ (I (DA R r k) 0).toInt := hm
    show PmE p (I (rA R (DA R r k) 1) m).toInt (DRN s (k * (d.toNat + 1) + m))
    rw [h2 m (by omega)]; exact PmE.em _
  · rw [h2 m (by omega)]
    exact ⟨Int.emod_nonneg _ (by omega), Int.emod_lt_of_pos _ hp⟩
/-- the rows held are the rows told -/
def RWH (R : RT) (I : IT) (r : Nat) (p : Int) (t : SPT) (D : Int) : Prop := (I r 6).toInt = (t.1 : Int) ∧ (-1 ≤ D ∧ D ≤ 40) ∧ (D = -1 → t.1 = 0) ∧ ∀ i, i < t.1 → (∀ k, k < 12 * (D.toNat + 1) → (I (HA R r i) k).toInt = t.2.1 i k ∧ 0 ≤ t.2.1 i k ∧ t.2.1 i k < p) ∧ (I (rA R r 4) i).toInt = (t.2.2 i : Int) ∧ t.2.2 i < 12 * (D.toNat + 1)
theorem RWH.fr {R : RT} {I I' : IT} {r : Nat} {p D : Int} {t : SPT} (h : RWH R I r p t D) (e0 : I' r 6 = I r 6) (e1 : ∀ i, i < t.1 → I' (HA R r i) = I (HA R r i)) (e2 : ∀ i, i < t.1 → I' (rA R r 4) i = I (rA R r 4) i) : RWH R I' r p t D := ⟨by rw [e0]; exact h.1, h.2.1, h.2.2.1, fun i hi => by
  rw [e1 i hi, e2 i hi]; exact h.2.2.2 i hi⟩
def SPI (R : RT) (I : IT) (r : Nat) (p : Int) (o : Option SPS) (x : Int32) (n : Int) : Prop := ∃ t D, o = some (t, x, D) ∧ (I r 7).toInt = D ∧ RWH R I r p t D ∧ (t.1 : Int) ≤ n
def SPJ (R : RT) (I : IT) (r : Nat) (p : Int) (o : Option SPS) (x : Int32) (n : Int) (s : Int32) (d : Int) (l : List (Int × Int)) (k : Int) : Prop := ∃ t D0, o = some (t, x, D0) ∧ RWH R I r p t D0 ∧ (t.1 : Int) ≤ n ∧ ((k = 0 ∧ (I r 7).toInt = D0 ∧ (I r 8).toInt = 0) ∨ (0 < k ∧ ∃ D, DGL l d = some D ∧ (0 ≤ D ∧ D ≤ 40) ∧ (D0 = -1 ∨ D = D0) ∧ (I r 7).toInt = D ∧ (I r 8).toInt = k * (D + 1) ∧ ∀ j : Nat, (j : Int) < k * (D + 1) → (I (HA R r t.1) j).toInt = RWV p s d l D j))
theorem SPI.z {R : RT} {I : IT} {r : Nat} {p n : Int} {x : Int32} {s : Int32} {d set nS : Int} {L : Nat → List (Int × Int)} {k : Int32} (h6 : (I r 6).toInt = 0) (h7 : (I r 7).toInt = -1) (hx : x.toInt = 0) (hk : k.toInt = 0) (hn : n = 0) : SPI R I r p (SPF p s d set nS L k.toNatClampNeg) x n := by
  have n0 := ncz (x := k) (by omega)
  rw [show k.toNatClampNeg = 0 from by omega, ceq0 hx]
  exact ⟨_, _, rfl, h7, ⟨h6, by omega, fun _ => rfl, fun i hi => absurd hi (Nat.not_lt_zero _)⟩, by rw [hn]; exact Int.le_refl 0⟩
theorem SPI.k {R : RT} {I : IT} {r : Nat} {p : Int} {x : Int32} {s : Int32} {d set nS : Int} {L : Nat → List (Int × Int)} {k k' : Int32} (h : SPI R I r p (SPF p s d set nS L k.toNatClampNeg) x k.toInt) (hq : ¬ (set / 2 ^ k.toNatClampNeg % 2 = 1 ∧ k.toInt < nS)) (h0 : 0 ≤ k.toInt) (hk : k'.toInt = k.toInt + 1) : SPI R I r p (SPF p s d set nS L k'.toNatClampNeg) x k'.toInt := by
  have n0 := ncz h0
  have n1 := ncz (x := k') (by omega)
  obtain ⟨t, D, h1, h2, h3, h4⟩ := h
  rw [show k'.toNatClampNeg = k.toNatClampNeg + 1 from by omega, SPF.k h1 (by rw [n0]; exact hq)]
  exact ⟨t, D, rfl, h2, h3, by omega⟩
theorem SPJ.z {R : RT} {I I' : IT} {r : Nat} {p n d k : Int} {o : Option SPS} {x s z : Int32} {l : List (Int × Int)} (h : SPI R I r p o x n) (u : I' = u2 I r 8 z) (hz : z.toInt = 0) (hk : k = 0) (nh : ∀ i, i < 8 → HA R r i ≠ r) (nf : rA R r 4 ≠ r) (h8 : n ≤ 7) : SPJ R I' r p o x n s d l k := by
  obtain ⟨t, D, h1, h2, h3, h4⟩ := h
  refine ⟨t, D, h1, h3.fr (by rw [u]; exact u2_k (by decide)) (fun i hi => by rw [u]; exact u2_r (nh i (by omega))) (fun i hi => by rw [u, u2_r nf]), h4, Or.inl ⟨hk, ?_, ?_⟩⟩
  · rw [u, u2_k (by decide)]; exact h2
  · rw [u, u2_s]; exact hz
theorem SPJ.pl {R : RT} {I : IT} {r : Nat} {p n d k : Int} {o : Option SPS} {x s : Int32} {l : List (Int × Int)} (h : SPJ R I r p o x n s d l k) (h0 : 0 ≤ k) (hk : k ≤ 12) (hn : n < 8) : (0 ≤ (I r 6).toInt ∧ (I r 6).toInt < 8) ∧ (0 ≤ (I r 8).toInt ∧ (I r 8).toInt ≤ 41 * k) := by
  obtain ⟨t, D0, h1, h2, h3, h4⟩ := h
  have a := h2.1
  refine ⟨by omega, ?_⟩
  rcases h4 with ⟨c1, c2, c3⟩ | ⟨c0, D, c1, c2, c3, c4, c5, c6⟩
  · omega
  · rw [c5]
    exact ⟨Int.mul_nonneg (by omega) (by omega), by
      have := Int.mul_le_mul_of_nonneg_left (show D + 1 ≤ 41 by omega) h0
      omega⟩
theorem SPJ.no {R : RT} {I1 I2 : IT} {L1 L2 : LT} {T : Nat → Nat} {r c : Nat} {p set nS d : Int} {x s : Int32} {L : Nat → List (Int × Int)} {n : Int32} {k : Int} {W : List (Nat × Nat)} {y : Option Nat} {F : FVV} (h : SPJ R I1 r p (SPF p s d set nS L n.toNatClampNeg) x n.toInt s d (L n.toNatClampNeg) k) (hF : F.1 = d) (hv : VPO R I2 c y p (VWF F (L n.toNatClampNeg))) (ch : Chg (CSX R c) T W I1 L1 I2 L2) (nr : ¬ CSX R c r) (ha : ∀ b, y = some b → (I2 r 7).toInt ≠ -1 ∧ (I2 b 0).toInt ≠ (I2 r 7).toInt) (hq : set / 2 ^ n.toNatClampNeg % 2 = 1) (hn : n.toInt < nS) (h0 : 0 ≤ n.toInt) (h8 : n.toInt < 8) : SPF p s d set nS L 8 = none := by
  have n0 := ncz h0
  obtain ⟨t, D0, h1, h2, h3, h4⟩ := h
  have er : I2 r = I1 r := Chg.at ch nr
  have hz : SPF p s d set nS L (n.toNatClampNeg + 1) = none := by
    rw [SPF.s h1 hq (by omega)]
    rcases hv with ⟨v1, v2⟩ | ⟨v, v1, v2, v3⟩
    · have g := DGL.n v2
      rw [hF] at g
      unfold SPB; rw [g]
    · have g := DGL.y v2
      rw [hF] at g
      obtain ⟨a1, a2⟩ := ha _ v1
      rw [er] at a1 a2
      have vd := v3.1
      rcases h4 with ⟨c1, c2, c3⟩ | ⟨c0, D, c1, c2, c3, c4, c5, c6⟩
      · unfold SPB; rw [g]
        show (if D0 ≠ -1 ∧ v.1 ≠ D0 then none else _) = none
        rw [if_pos ⟨by omega, by omega⟩]
      · rw [g] at c1
        have c1 := Option.some.inj c1
        omega
  have := SPF.n hz (8 - (n.toNatClampNeg + 1))
  rw [show n.toNatClampNeg + 1 + (8 - (n.toNatClampNeg + 1)) = 8 from by omega] at this
  exact this
theorem SPJ.s {R : RT} {I1 I2 I3 : IT} {L1 L2 L3 : LT} {T : Nat → Nat} {r c : Nat} {p d : Int} {x s : Int32} {o : Option SPS} {l : List (Int × Int)} {n : Int} {k k' : Int32} {W : List (Nat × Nat)} {y : Option Nat} (h : SPJ R I1 r p o x n s d l k.toInt) (hU : UPR T R) (hG : GR T R r) (gK : GK T R c) (hn : n < 8) (hp : 0 < p) (hv : VPO R I2 c y p (VWF (DRF s d k.toNatClampNeg) l)) (ch : Chg (CSX R c) T W I1 L1 I2 L2) (ha : ∃ b, y = some b ∧ ((I2 r 7).toInt = -1 ∨ (I2 b 0).toInt = (I2 r 7).toInt) ∧ (I3 r 7).toInt = (I2 b 0).toInt ∧ (I3 r 8).toInt = (I2 r 8).toInt + (I2 b 0).toInt + 1 ∧ APK I3 I2 (HA R r (I2 r 6).toNatClampNeg) (rA R b 1) (I2 r 8).toNatClampNeg ((I2 b 0).toInt + 1)) (ch2 : Chg (fun a => a = r ∨ a = HA R r (I2 r 6).toNatClampNeg) T [(6, 7), (6, 8)] I2 L2 I3 L3) (h0 : 0 ≤ k.toInt) (hk : k'.toInt = k.toInt + 1) : SPJ R I3 r p o x n s d l k'.toInt := by
  have n0 := ncz h0
  obtain ⟨t, D0, h1, h2, h3, h4⟩ := h
  have er : I2 r = I1 r := Chg.at ch (GR.rc hU hG gK).1
  have e4 : I2 (rA R r 4) = I1 (rA R r 4) := Chg.at ch (GR.rc hU hG gK).2
  have eh : ∀ i, i < 8 → I2 (HA R r i) = I1 (HA R r i) := fun i hi => Chg.at ch (GR.hc hU hG gK hi)
  obtain ⟨b, hb, b1, b2, b3, b5⟩ := ha
  have t6 := h2.1
  have m6 : (I2 r 6).toNatClampNeg = t.1 := by rw [er]; have := ncz (x := I1 r 6) (by omega); omega
  rw [m6] at b5 ch2
  rcases hv with ⟨v1, -⟩ | ⟨v, v1, v2, v3⟩
  · rw [v1] at hb; cases hb
  · rw [v1] at hb
    have hb := Option.some.inj hb
    rw [hb] at v3
    have g : DGL l d = some v.1 := DGL.y (f := DRF s d k.toNatClampNeg) v2
    have vd := v3.1
    have vb := v3.2.1
    have vb2 := v3.2.2.1
    have e36 : I3 r 6 = I2 r 6 := ch2.2 r 6 (by have := hG.1; omega) (by rw [hG.1]; decide)
    have e34 : I3 (rA R r 4) = I2 (rA R r 4) := Chg.at ch2 (fun q => q.elim (fun e => by have := hG.1; have := hG.2.2.2.2.2.2.1; rw [e] at this; omega) (fun e => GR.hf hU hG (by omega) e.symm))
    have e3h : ∀ i, i < t.1 → I3 (HA R r i) = I2 (HA R r i) := fun i hi => Chg.at ch2 (fun q => q.elim (fun e => by have := (hG.2.2.2.2.1 i (by omega)).2; rw [e] at this; have := hG.1; omega) (fun e => GR.hj hU hG (by omega) (by omega) (by omega) e))
    have pe : (I2 r 8).toInt = k.toInt * (v.1 + 1) ∧ (D0 = -1 ∨ v.1 = D0) ∧ ∀ j : Nat, (j : Int) < k.toInt * (v.1 + 1) → (I2 (HA R r t.1) j).toInt = RWV p s d l v.1 j := by
      rw [eh t.1 (by omega), er]
      rw [er] at b1
      rcases h4 with ⟨c1, c2, c3⟩ | ⟨c0, D, c1, c2, c3, c4, c5, c6⟩
      · rw [c1, Int.zero_mul]
        exact ⟨c3, by omega, fun j hj => by omega⟩
      · rw [g] at c1
        have c1 := Option.some.inj c1
        rw [c1]; exact ⟨c5, c3, c6⟩
    obtain ⟨p1, p2, p3⟩ := pe
    have P0 : 0 ≤ (I2 r 8).toInt := by rw [p1]; exact Int.mul_nonneg h0 (by omega)
    have nP := ncz P0
    have k1 : k'.toInt * (v.1 + 1) = k.toInt * (v.1 + 1) + (v.1 + 1) := by rw [hk, Int.add_mul, Int.one_mul]
    refine ⟨t, D0, h1, (h2.fr (congrFun er 6) (fun i hi => eh i (by omega)) (fun i _ => congrFun e4 i)).fr e36 e3h (fun i _ => congrFun e34 i), h3, Or.inr ⟨by omega, v.1, g, ⟨vb, vb2⟩, p2, by omega, by omega, fun j hj => ?_⟩⟩
    by_cases q : (j : Int) < k.toInt * (v.1 + 1)
    · rw [b5.2 j (by omega)]; exact p3 j q
    · have ej : j = (I2 r 8).toNatClampNeg + (j - (I2 r 8).toNatClampNeg) := by omega
      have hj' : ((j - (I2 r 8).toNatClampNeg : Nat) : Int) ≤ v.1 := by omega
      rw [ej, b5.1 _ (by omega), ← ej]
      obtain ⟨w1, w2, w3⟩ := v3.2.2.2 _ hj'
      have kz : (I2 r 8).toNatClampNeg = k.toNatClampNeg * (v.1.toNat + 1) := by
        have : (((I2 r 8).toNatClampNeg : Nat) : Int) = ((k.toNatClampNeg * (v.1.toNat + 1) : Nat) : Int) := by
          rw [nP, p1, Int.natCast_mul, n0, show ((v.1.toNat + 1 : Nat) : Int) = v.1 + 1 from by omega]
        omega
      rw [RWV.e v2 (D := v.1) (j := j - (I2 r 8).toNatClampNeg) (by omega) (by omega)]
      exact (PmE.eq (w3.tr (PmE.em _).sy) w1 w2 (Int.emod_nonneg _ (by omega)) (Int.emod_lt_of_pos _ hp))
/-- the row is held or not -/
theorem SPJ.p {R : RT} {I : IT} {r : Nat} {p n d : Int} {o : Option SPS} {x s : Int32} {l : List (Int × Int)} (h : SPJ R I r p o x n s d l 12) (hp : 0 < p) : CAN R I r p (I r 8).toInt ∧ LDX R I r (I r 8).toInt := by
  obtain ⟨t, D0, h1, h2, h3, h4⟩ := h
  rcases h4 with ⟨c1, -⟩ | ⟨c0, D, c1, c2, c3, c4, c5, c6⟩
  · omega
  · have t6 := h2.1
    have m6 : (I r 6).toNatClampNeg = t.1 := by have := ncz (x := I r 6) (by omega); omega
    have hD : ∀ i, i < t.1 → D0 = D := fun i hi => by
      rcases c3 with c3 | c3
      · have := h2.2.2.1 c3; omega
      · exact c3.symm
    refine ⟨fun i hi k hk => ?_, fun i hi => ?_⟩
    · by_cases q : i = t.1
      · rw [q, c6 k (by omega)]; exact RWV.b hp
      · obtain ⟨a1, -⟩ := h2.2.2.2 i (by omega)
        rw [hD i (by omega)] at a1
        obtain ⟨a2, a3, a4⟩ := a1 k (by omega)
        rw [a2]; exact ⟨a3, a4⟩
    · obtain ⟨-, a2, a3⟩ := h2.2.2.2 i (by omega)
      rw [hD i (by omega)] at a3
      rw [a2]; omega
theorem SPI.h {R : RT} {I I2 : IT} {L L2 : LT} {T : Nat → Nat} {r : Nat} {p set nS d : Int} {x x2 s v : Int32} {LL : Nat → List (Int × Int)} {n n' : Int32} (h : SPJ R I r p (SPF p s d set nS LL n.toNatClampNeg) x n.toInt s d (LL n.toNatClampNeg) 12) (hU : UPR T R) (hG : GR T R r) (hp : 0 < p) (h8 : n.toInt < 8) (h0 : 0 ≤ n.toInt) (hq : set / 2 ^ n.toNatClampNeg % 2 = 1) (hn : n.toInt < nS) (ch : Chg (fun a => a = r ∨ a = HA R r (I r 6).toNatClampNeg ∨ a = rA R r 4) T [(6, 6)] I L I2 L2)
    (p0 : v.toInt = 0 → ¬ (FSW (HEL R I r p (I r 6).toNatClampNeg) (I r 8).toInt.toNat < (I r 8).toInt.toNat) ∧ (I2 r 6).toInt = (I r 6).toInt)
    (p1 : v.toInt = 1 → FSW (HEL R I r p (I r 6).toNatClampNeg) (I r 8).toInt.toNat < (I r 8).toInt.toNat ∧ (I2 r 6).toInt = (I r 6).toInt + 1 ∧ (∀ k : Nat, (k : Int) < (I r 8).toInt → (I2 (HA R r (I r 6).toNatClampNeg) k).toInt = NRW p (HEL R I r p (I r 6).toNatClampNeg) (FSW (HEL R I r p (I r 6).toNatClampNeg) (I r 8).toInt.toNat) k) ∧ (I2 (rA R r 4) (I r 6).toNatClampNeg).toInt = FSW (HEL R I r p (I r 6).toNatClampNeg) (I r 8).toInt.toNat)
    (p2 : ∀ i, i < (I r 6).toNatClampNeg → I2 (rA R r 4) i = I (rA R r 4) i) (hx : v.toInt = 0 ∧ x2 = x ∨ v.toInt = 1 ∧ x2 = x ||| BTN (Int32.ofNat n.toNatClampNeg)) (hn' : n'.toInt = n.toInt + 1) : SPI R I2 r p (SPF p s d set nS LL n'.toNatClampNeg) x2 n'.toInt := by
  have n0 := ncz h0
  have n1 := ncz (x := n') (by omega)
  have hc := SPJ.p h hp
  obtain ⟨t, D0, h1, h2, h3, h4⟩ := h
  rcases h4 with ⟨c1, -⟩ | ⟨c0, D, c1, c2, c3, c4, c5, c6⟩
  · omega
  · have t6 := h2.1
    have m6 : (I r 6).toNatClampNeg = t.1 := by have := ncz (x := I r 6) (by omega); omega
    have hD : ∀ i, i < t.1 → D0 = D := fun i hi => by
      rcases c3 with c3 | c3
      · have := h2.2.2.1 c3; omega
      · exact c3.symm
    have ew : (I r 8).toInt.toNat = 12 * (D.toNat + 1) := by omega
    have E : ∀ k, k < 12 * (D.toNat + 1) → HEL R I r p (I r 6).toNatClampNeg k = ELM p t.2.1 t.2.2 (RWV p s d (LL n.toNatClampNeg) D) t.1 k := by
      unfold HEL
      rw [m6]
      refine ELM.cg (fun k hk => c6 k (by omega)) t.1 (fun i hi => ?_)
      obtain ⟨a1, a2, a3⟩ := h2.2.2.2 i hi
      rw [hD i hi] at a1 a3
      have a4 : (I (rA R r 4) i).toInt.toNat = t.2.2 i := by omega
      exact ⟨fun k hk => (a1 k hk).1, a4, by show (I (rA R r 4) i).toInt.toNat < _; omega⟩
    have F := FSW.cg E
    have hs : SPF p s d set nS LL n'.toNatClampNeg = some ((SPA p (12 * (D.toNat + 1)) (RWV p s d (LL n.toNatClampNeg) D) t).2, (if (SPA p (12 * (D.toNat + 1)) (RWV p s d (LL n.toNatClampNeg) D) t).1 = true then x ||| BTN (Int32.ofNat n.toNatClampNeg) else x), D) := by
      rw [show n'.toNatClampNeg = n.toNatClampNeg + 1 from by omega, SPF.s h1 hq (by omega)]
      unfold SPB; rw [c1]
      show (if D0 ≠ -1 ∧ D ≠ D0 then none else _) = _
      rw [if_neg (fun q => by omega)]
    have e27 : (I2 r 7).toInt = D := by
      rw [ch.2 r 7 (by have := hG.1; omega) (by rw [hG.1]; decide)]; exact c4
    have e2h : ∀ i, i < t.1 → I2 (HA R r i) = I (HA R r i) := fun i hi => Chg.at ch (fun q => by
      rw [m6] at q
      exact GR.h3 hU hG (by omega) (by omega) (by omega) q)
    rw [hs]
    rw [ew, m6] at p0 p1
    rw [m6] at p2
    rw [m6] at F E
    rw [F] at p0 p1
    have gD : ∀ i, i < t.1 → (∀ k, k < 12 * (D.toNat + 1) → (I2 (HA R r i) k).toInt = t.2.1 i k ∧ 0 ≤ t.2.1 i k ∧ t.2.1 i k < p) ∧ (I2 (rA R r 4) i).toInt = (t.2.2 i : Int) ∧ t.2.2 i < 12 * (D.toNat + 1) := fun i hi => by
      rw [e2h i hi, p2 i hi]
      have := h2.2.2.2 i hi
      rw [hD i hi] at this; exact this
    rcases hx with ⟨x0, x1⟩ | ⟨x0, x1⟩
    · obtain ⟨q1, q2⟩ := p0 x0
      have sp : SPA p (12 * (D.toNat + 1)) (RWV p s d (LL n.toNatClampNeg) D) t = (false, t) := if_neg q1
      rw [sp, x1]
      exact ⟨t, D, rfl, e27, ⟨by omega, by omega, fun q => by omega, gD⟩, by omega⟩
    · obtain ⟨q1, q2, q3, q4⟩ := p1 x0
      have sp : SPA p (12 * (D.toNat + 1)) (RWV p s d (LL n.toNatClampNeg) D) t = (true, (t.1 + 1, (fun i => if i = t.1 then NRW p (ELM p t.2.1 t.2.2 (RWV p s d (LL n.toNatClampNeg) D) t.1) (FSW (ELM p t.2.1 t.2.2 (RWV p s d (LL n.toNatClampNeg) D) t.1) (12 * (D.toNat + 1))) else t.2.1 i), (fun i => if i = t.1 then FSW (ELM p t.2.1 t.2.2 (RWV p s d (LL n.toNatClampNeg) D) t.1) (12 * (D.toNat + 1)) else t.2.2 i))) := if_pos q1
      rw [sp, x1]
      refine ⟨_, D, rfl, e27, ⟨by show (I2 r 6).toInt = ((t.1 + 1 : Nat) : Int); omega, by omega, fun q => by omega, fun i hi => ?_⟩, by show ((t.1 + 1 : Nat) : Int) ≤ n'.toInt; omega⟩
      have hi : i < t.1 + 1 := hi
      show (∀ k, k < 12 * (D.toNat + 1) → (I2 (HA R r i) k).toInt = (if i = t.1 then NRW p (ELM p t.2.1 t.2.2 (RWV p s d (LL n.toNatClampNeg) D) t.1) (FSW (ELM p t.2.1 t.2.2 (RWV p s d (LL n.toNatClampNeg) D) t.1) (12 * (D.toNat + 1))) else t.2.1 i) k ∧ 0 ≤ (if i = t.1 then NRW p (ELM p t.2.1 t.2.2 (RWV p s d (LL n.toNatClampNeg) D) t.1) (FSW (ELM p t.2.1 t.2.2 (RWV p s d (LL n.toNatClampNeg) D) t.1) (12 * (D.toNat + 1))) else t.2.1 i) k ∧ (if i = t.1 then NRW p (ELM p t.2.1 t.2.2 (RWV p s d (LL n.toNatClampNeg) D) t.1) (FSW (ELM p t.2.1 t.2.2 (RWV p s d (LL n.toNatClampNeg) D) t.1) (12 * (D.toNat + 1))) else t.2.1 i) k < p) ∧ (I2 (rA R r 4) i).toInt = ((if i = t.1 then FSW (ELM p t.2.1 t.2.2 (RWV p s d (LL n.toNatClampNeg) D) t.1) (12 * (D.toNat + 1)) else t.2.2 i : Nat) : Int) ∧ (if i = t.1 then FSW (ELM p t.2.1 t.2.2 (RWV p s d (LL n.toNatClampNeg) D) t.1) (12 * (D.toNat + 1)) else t.2.2 i) < 12 * (D.toNat + 1)
      by_cases z : i = t.1
      · subst z
        rw [if_pos rfl, if_pos rfl]
        refine ⟨fun k hk => ?_, q4, q1⟩
        rw [q3 k (by omega)]
        unfold NRW
        rw [E k hk, E _ q1]
        exact ⟨rfl, Int.emod_nonneg _ (by omega), Int.emod_lt_of_pos _ hp⟩
      · rw [if_neg z, if_neg z]; exact gD i (by omega)
theorem DRI.u {T : Nat → Nat} {R : RT} {I I' : IT} {r D n k : Nat} {p : Int} {s y : Int32} (h : DRI R I r p s D n) (u : I' = u2 I r k y) (hU : UPR T R) (hG : GR T R r) (hn : n ≤ 12) : DRI R I' r p s D n := fun i hi => by
  have d := GR.dl hU hG (k := i) (by omega)
  have e1 : I' (DA R r i) = I (DA R r i) := by rw [u]; exact u2_r (fun e => d.1 (Or.inl e))
  have e2 : I' (rA R (DA R r i) 1) = I (rA R (DA R r i) 1) := by rw [u]; exact u2_r (fun e => d.2 (Or.inl e))
  rw [e1, e2]; exact h i hi
theorem VPO.c5 {R : RT} {I : IT} {c : Nat} {x : Option Nat} {p : Int} {o o' : Option FVV} (h : VPO R I c x p o) (e : OQV p o o') : VPO R I c x p o' := by
  rcases h with ⟨h1, h2⟩ | ⟨v, h1, h2, h3⟩
  · rcases e with ⟨-, e2⟩ | ⟨a, b, e1, -, -⟩
    · exact Or.inl ⟨h1, e2⟩
    · rw [h2] at e1; cases e1
  · rcases e with ⟨e1, -⟩ | ⟨a, b, e1, e2, e3⟩
    · rw [h2] at e1; cases e1
    · rw [h2] at e1; cases e1
      exact Or.inr ⟨b, h1, e2, h3.tr e3⟩
theorem LSX.a {R : RT} {r a i : Nat} (h : a = r ∨ a = HA R r i) (hi : i < 8) : LSX R r a := h.elim Or.inl (fun e => Or.inr (Or.inl ⟨i, hi, e⟩))
theorem LSX.h {R : RT} {r a i : Nat} (h : a = r ∨ a = HA R r i ∨ a = rA R r 4) (hi : i < 8) : LSX R r a := h.elim Or.inl (fun e => e.elim (fun e => Or.inr (Or.inl ⟨i, hi, e⟩)) (fun e => Or.inr (Or.inr e)))
theorem GR.hr {T : Nat → Nat} {R : RT} {r : Nat} (hG : GR T R r) : (∀ i, i < 8 → HA R r i ≠ r) ∧ rA R r 4 ≠ r := by
  obtain ⟨t1, t2, gd, t3, gh, r4, t4, r2, r3⟩ := hG
  exact ⟨fun i hi e => by have := (gh i hi).2; rw [e] at this; omega, fun e => by rw [e] at t4; omega⟩
def SL5 (R : RT) (I : IT) (st n : Nat) : List (Int × Int) := STL R I (SA R st n)
theorem SPI.q {R : RT} {I : IT} {r : Nat} {p n : Int} {x : Int32} {s : Int32} {d set nS : Int} {L : Nat → List (Int × Int)} {k : Int32} (h : SPI R I r p (SPF p s d set nS L k.toNatClampNeg) x n) (hk : k.toInt = 8) : SPQ x (SPF p s d set nS L 8) := by
  have n0 := ncz (x := k) (by omega)
  rw [show k.toNatClampNeg = 8 from by omega] at h
  obtain ⟨t, D, h1, -⟩ := h
  exact Or.inr ⟨_, h1, rfl⟩
theorem msr5 {m a b : Int} {n : Nat} (h : (m - a).toNat = n) (h1 : a < m) (h2 : b = a + 1) : (m - b).toNat < n := by omega
theorem SBT.u {w x y v c : Int32} (m : USL w x y) (a : v = w &&& c) (hc : c.toInt = 1) (h0 : 0 ≤ y.toInt) (h1 : y.toInt ≤ 7) : v.toInt = x.toInt / 2 ^ y.toNatClampNeg % 2 := by
  have n0 := ncz h0
  have g := m h0 (by omega)
  rw [a, ceq1 hc, and01, show y.toNatClampNeg = y.toInt.toNat from by omega]
  omega
theorem BTN.e {w c n : Int32} (m : w = c <<< (n &&& 31)) (hc : c.toInt = 1) (h0 : 0 ≤ n.toInt) (h1 : n.toInt < 8) : w = BTN (Int32.ofNat n.toNatClampNeg) := by
  have n0 := ncz h0
  rw [m, ceq1 hc, ← i32n (n := n) (k := n.toNatClampNeg) (by omega) (by omega)]; rfl
theorem s_X5_independent_x {d : Nat} {T N : Nat → Nat} {I : IT} {L : LT} {R : RT} {A B : Nat → Prop} {r0 r1 : Nat} {n2 n3 n4 : Int32} (hS : SUB B A) (hI : IX A T I) (H_r0 : (hs_Rw T N R A B) r0) (H_r1 : (hs_St T N R A B) r1) (b0_n3 : 1 ≤ n3.toInt) (b1_n3 : n3.toInt ≤ 8) (hU : UPR T R) (hp0 : rA R (rA R r0 0) 0 = r1) (hp1 : rA R (rA R (rA R r0 1) 0) 0 = r1) (hp2 : ∀ j : Nat, j < 8 → (j : Int) < (I r1 3).toInt → (0 ≤ (I (SA R r1 j) 2).toInt ∧ (I (SA R r1 j) 2).toInt ≤ 160) ∧ HOV (STL R I (SA R r1 j)) 0) (hp3 : PRM (I r1 0).toInt) : Ex (d + 7) 80 [.ref r0, .ref r1, .int n2, .int n3, .int n4] (T, N, I, L, R) 0 0 (pI T N R (fun x9 I9 L9 => (SPQ x9 (SPF (I r1 0).toInt n4 n3.toInt n2.toInt (I r1 3).toInt (SL5 R I r1) 8)) ∧ (IX A T I9 ∧ Chg (ISX R r0) T [(2, 5), (3, 0), (6, 6), (6, 7), (6, 8)] I L I9 L9))) := by
  refine ⟨_, rfl, Nat.le_of_ble_eq_true rfl, fun V C S => ?_⟩
  show V 0 [(0, .ref r0), (1, .ref r1), (2, .int n2), (3, .int n3), (4, .int n4)] [] (T, N, I, L, R) 0 0
  have gn2 := rg n2
  have gn3 := rg n3
  have gn4 := rg n4
  obtain ⟨T_r0, A_r0, B_r0, ⟨r0_0, R_r0_0, H_r0_0⟩, ⟨r0_1, R_r0_1, H_r0_1⟩, ⟨r0_2, R_r0_2, H_r0_2⟩, ⟨r0_3, R_r0_3, H_r0_3⟩, ⟨r0_4, R_r0_4, H_r0_4⟩, ⟨r0_5, R_r0_5, H_r0_5⟩⟩ := id H_r0
  have z_r0_0 : rA R r0 0 = r0_0 := rA_e R_r0_0
  have z_r0_1 : rA R r0 1 = r0_1 := rA_e R_r0_1
  have z_r0_2 : rA R r0 2 = r0_2 := rA_e R_r0_2
  have z_r0_3 : rA R r0 3 = r0_3 := rA_e R_r0_3
  have z_r0_4 : rA R r0 4 = r0_4 := rA_e R_r0_4
  have z_r0_5 : rA R r0 5 = r0_5 := rA_e R_r0_5
  obtain ⟨T_r0_0, A_r0_0, B_r0_0, ⟨r0_0_0, R_r0_0_0, H_r0_0_0⟩, ⟨r0_0_1, R_r0_0_1, H_r0_0_1⟩, ⟨r0_0_2, R_r0_0_2, H_r0_0_2⟩⟩ := id H_r0_0
  have z_r0_0_0 : rA R r0_0 0 = r0_0_0 := rA_e R_r0_0_0
  have z_r0_0_1 : rA R r0_0 1 = r0_0_1 := rA_e R_r0_0_1
  have z_r0_0_2 : rA R r0_0 2 = r0_0_2 := rA_e R_r0_0_2
  obtain ⟨T_r0_2, N_r0_2, A_r0_2, E_r0_2⟩ := id H_r0_2
  obtain ⟨T_r0_3, N_r0_3, A_r0_3, E_r0_3⟩ := id H_r0_3
  obtain ⟨T_r0_4, N_r0_4, A_r0_4⟩ := id H_r0_4
  obtain ⟨T_r1, A_r1, B_r1, ⟨r1_6, R_r1_6, H_r1_6⟩, ⟨r1_7, R_r1_7, H_r1_7⟩, ⟨r1_8, R_r1_8, H_r1_8⟩, ⟨r1_9, R_r1_9, H_r1_9⟩, ⟨r1_10, R_r1_10, H_r1_10⟩⟩ := id H_r1
  have z_r1_6 : rA R r1 6 = r1_6 := rA_e R_r1_6
  have z_r1_7 : rA R r1 7 = r1_7 := rA_e R_r1_7
  have z_r1_8 : rA R r1 8 = r1_8 := rA_e R_r1_8
  have z_r1_9 : rA R r1 9 = r1_9 := rA_e R_r1_9
  have z_r1_10 : rA R r1 10 = r1_10 := rA_e R_r1_10
  obtain ⟨T_r1_10, N_r1_10, A_r1_10, E_r1_10⟩ := id H_r1_10
  have gR := GR.of hS H_r0
  have gK1 := GK.of hS H_r0_1
  have gK : GK T R (rA R r0 1) := (by rw [z_r0_1]; exact gK1)
  try simp only [z_r0_0, z_r0_1, z_r0_2, z_r0_3, z_r0_4, z_r0_5, z_r0_0_0, z_r0_0_1, z_r0_0_2, z_r1_6, z_r1_7, z_r1_8, z_r1_9, z_r1_10] at hp0
  try simp only [z_r0_0, z_r0_1, z_r0_2, z_r0_3, z_r0_4, z_r0_5, z_r0_0_0, z_r0_0_1, z_r0_0_2, z_r1_6, z_r1_7, z_r1_8, z_r1_9, z_r1_10] at hp1
  try simp only [z_r0_0, z_r0_1, z_r0_2, z_r0_3, z_r0_4, z_r0_5, z_r0_0_0, z_r0_0_1, z_r0_0_2, z_r1_6, z_r1_7, z_r1_8, z_r1_9, z_r1_10] at hp2
  try simp only [z_r0_0, z_r0_1, z_r0_2, z_r0_3, z_r0_4, z_r0_5, z_r0_0_0, z_r0_0_1, z_r0_0_2, z_r1_6, z_r1_7, z_r1_8, z_r1_9, z_r1_10] at hp3
  obtain ⟨w_r1_0, k0_r1_0⟩ : ∃ x, I r1 0 = x := ⟨_, rfl⟩
  have gw_r1_0 := rg w_r1_0
  have ow_r1_0 := IX.p hI A_r1 T_r1 k0_r1_0
  obtain ⟨w_r1_3, k0_r1_3⟩ : ∃ x, I r1 3 = x := ⟨_, rfl⟩
  have gw_r1_3 := rg w_r1_3
  try simp only [k0_r1_0, k0_r1_3] at hp0
  try simp only [k0_r1_0, k0_r1_3] at hp1
  try simp only [k0_r1_0, k0_r1_3] at hp2
  try simp only [k0_r1_0, k0_r1_3] at hp3
  have hA0 : r0_0_0 = r1 := (by first | exact hp0 | (rw [z_r0_0, z_r0_0_0] at hp0; exact hp0))
  have hA1 : rA R (rA R r0_1 0) 0 = r1 := (by first | exact hp1 | (rw [z_r0_1_0]; exact hp1) | (rw [← z_r0_1]; exact hp1))
  have hp18 : 0 < w_r1_0.toInt ∧ w_r1_0.toInt ≤ 19 := (by have z9 := hp3; unfold PRM at z9; omega)
  refine k_aload_n C rfl rfl rfl ?_
  refine k_iload_n C rfl rfl rfl ?_
  refine k_iload C rfl rfl rfl ?_
  have hk4 := k0_r1_0
  refine c_VV C (s_X5_draw_x hS hI H_r0 (by omega) (by omega) hU) rfl rfl rfl rfl rfl ⟨_, rfl, rfl, T_r0, Nat.le_of_ble_eq_true rfl⟩ rfl rfl (Nat.le_of_ble_eq_true rfl) (Nat.le_of_ble_eq_true rfl) (Nat.le_of_ble_eq_true rfl) ?_
  rintro I2 L3 ⟨p0v1, hI2, S4⟩
  try simp only [z_r0_0, z_r0_1, z_r0_2, z_r0_3, z_r0_4, z_r0_5, z_r0_0_0, z_r0_0_1, z_r0_0_2, z_r1_6, z_r1_7, z_r1_8, z_r1_9, z_r1_10] at S4
  have e5 := Chg.k S4 T_r1 (by decide) (by decide) k0_r1_0
  have e6 := Chg.k S4 T_r1 (by decide) (by decide) k0_r1_3
  try simp only [z_r0_0, z_r0_1, z_r0_2, z_r0_3, z_r0_4, z_r0_5, z_r0_0_0, z_r0_0_1, z_r0_0_2, z_r1_6, z_r1_7, z_r1_8, z_r1_9, z_r1_10] at p0v1
  try simp only [k0_r1_0, k0_r1_3] at p0v1
  try have q0v1 := congrArg Int32.toInt p0v1
  have hdr := p0v1; (try simp only [z_r0_0, z_r0_1, z_r0_2, z_r0_3, z_r0_4, z_r0_5, z_r0_0_0, z_r0_0_1, z_r0_0_2, z_r1_6, z_r1_7, z_r1_8, z_r1_9, z_r1_10] at hdr); rw [hA0, hk4] at hdr
  refine k_aload_n C rfl rfl rfl ?_
  refine z_iconst C (z := 0) rfl rfl rfl (fun x7 ex7 => ?_)
  refine z_pI C rfl rfl rfl T_r0 (Or.inr rfl) rfl (fun I8 uI8 => ?_)
  have hI8 : IX A T I8 := IX.f hI2 T_r0 (boX.tr (by decide) (by decide)) uI8
  have S9 : Chg (SL [r0]) T [(6, 6)] I2 L3 I8 L3 := Chg.f List.mem_cons_self T_r0 uI8
  have e10 := u2_j uI8 (by decide) e5
  have e11 := u2_j uI8 (by decide) e6
  have e12 := u2_e uI8
  have hu9 := uI8
  refine k_aload_n C rfl rfl rfl ?_
  refine z_iconst C (z := -1) rfl rfl rfl (fun x13 ex13 => ?_)
  refine z_pI C rfl rfl rfl T_r0 (Or.inr rfl) rfl (fun I14 uI14 => ?_)
  have hI14 : IX A T I14 := IX.f hI8 T_r0 (boX.tr (by decide) (by decide)) uI14
  have S15 : Chg (SL [r0]) T [(6, 7)] I8 L3 I14 L3 := Chg.f List.mem_cons_self T_r0 uI14
  have e16 := u2_j uI14 (by decide) e10
  have e17 := u2_j uI14 (by decide) e11
  have e18 := u2_j uI14 (by decide) e12
  have e19 := u2_e uI14
  have hu14 := uI14
  have hd17 := (hdr.u hu9 hU gR (by decide)).u hu14 hU gR (by decide)
  refine z_iconst C (z := 0) rfl rfl rfl (fun x20 ex20 => ?_)
  refine k_istore C (lw := [(5, .int x20), (0, .ref r0), (1, .ref r1), (2, .int n2), (3, .int n3), (4, .int n4)]) rfl rfl (Nat.le_of_ble_eq_true rfl) rfl ?_
  refine z_iconst C (z := 0) rfl rfl rfl (fun x21 ex21 => ?_)
  have J22 : ∀ (nn23 : Nat) (I24 : IT) (L25 : LT) (x26 : Int32) (x27 : Int32), (MN (8 - x27.toInt) nn23) → (IX A T I24) → (Chg (ISX R r0) T [(2, 5), (3, 0), (6, 6), (6, 7), (6, 8)] I14 L3 I24 L25) → (0 ≤ x27.toInt) → (x27.toInt ≤ 8) → (SPI R I24 r0 w_r1_0.toInt (SPF w_r1_0.toInt n4 n3.toInt n2.toInt w_r1_3.toInt (SL5 R I r1) x27.toNatClampNeg) x26 x27.toInt) → (DRI R I24 r0 w_r1_0.toInt n4 n3.toInt.toNat 12) → (0 ≤ x27.toInt ∧ x27.toInt ≤ 8) → V 23 [(0, .ref r0), (1, .ref r1), (2, .int n2), (5, .int x26), (6, .int x27)] [] (T, N, I24, L25, R) 0 0 := by
    intro nn23
    induction nn23 using Nat.strongRecOn with
    | _ nn23 ihJ22 =>
      intro I24 L25 x26 x27 hmnn23 hI31 S30 b28 b29 ff23_0 ff23_1 ff23_2
      have gx26 := rg x26
      have gx27 := rg x27
      have e35 := Chg.k S30 T_r1 (by decide) (by decide) e16
      have e36 := Chg.k S30 T_r1 (by decide) (by decide) e17
      refine k_iload C rfl rfl rfl ?_
      refine z_bipush C (z := 8) rfl rfl rfl (fun x37 ex37 => ?_)
      refine b_icmp_ge C (t := 140) rfl rfl rfl (fun c38 => ?_) (fun c38 => ?_)
      · skip
        refine k_iload C rfl rfl rfl ?_
        exact k_iret C rfl (Or.inl rfl) (Nat.le_of_ble_eq_true rfl) (Nat.le_of_ble_eq_true rfl) ⟨_, _, _, rfl, rfl, by (try simp only [z_r0_0, z_r0_1, z_r0_2, z_r0_3, z_r0_4, z_r0_5, z_r0_0_0, z_r0_0_1, z_r0_0_2, z_r1_6, z_r1_7, z_r1_8, z_r1_9, z_r1_10]); simp only [k0_r1_0, k0_r1_3]; exact ff23_0.q (by omega), hI31, (Chg.cons (Chg.up S4 (fun a h => Or.inl h)) (Chg.cons (Chg.up S9 (sl_1 (Or.inr (Or.inr (Or.inl rfl))))) (Chg.cons (Chg.up S15 (sl_1 (Or.inr (Or.inr (Or.inl rfl))))) (Chg.mono S30 (by decide)) (by decide)) (by decide)) (by decide))⟩
      refine k_iload_n C rfl rfl rfl ?_
      refine k_iload C rfl rfl rfl ?_
      refine z_iushrL C rfl rfl (fun x39 ex39 => ?_)
      have gx39 := rg x39
      have m33 := ex39
      refine z_iconst C (z := 1) rfl rfl rfl (fun x40 ex40 => ?_)
      have c35 : x40.toInt = 1 := (by omega)
      refine z_iandQ C rfl rfl (fun x41 ex41 => ?_)
      have gx41 := rg x41
      have m35 := ex41
      refine z_iconst C (z := 1) rfl rfl rfl (fun x42 ex42 => ?_)
      have hb37 := SBT.u m33 m35 c35 (by omega) (by omega)
      refine b_icmp_ne C (t := 49) rfl rfl rfl (fun c43 => ?_) (fun c43 => ?_)
      · skip
        refine k_null C rfl rfl ?_
        refine k_astoreV C (x := none) (lw := [(7, va_rf none), (0, .ref r0), (1, .ref r1), (2, .int n2), (5, .int x26), (6, .int x27)]) rfl rfl (Nat.le_of_ble_eq_true rfl) rfl ?_
        refine k_aloadV C (x := none) rfl rfl rfl ?_
        refine k_ifnull C (x := none) (t := 134) rfl rfl rfl (fun _ => ?_) (fun _ c44 => nomatch c44)
        refine z_iinc C (z := 1) (lw := fun x46 => [(6, .int x46), (7, va_rf none), (0, .ref r0), (1, .ref r1), (2, .int n2), (5, .int x26)]) rfl rfl rfl (Nat.le_of_ble_eq_true rfl) rfl ⟨by omega, by omega⟩ (fun _ => rfl) (fun x46 ex46 => ?_)
        show V 137 [(6, .int x46), (7, va_rf none), (0, .ref r0), (1, .ref r1), (2, .int n2), (5, .int x26)] _ _ _ _
        refine k_goto C (pc2 := 23) rfl rfl ?_
        refine k_sub S [(0, .ref r0), (1, .ref r1), (2, .int n2), (5, .int x26), (6, .int x46)] (List.forall_mem_cons.mpr ⟨List.mem_of_getElem? (i := 2) rfl, List.forall_mem_cons.mpr ⟨List.mem_of_getElem? (i := 3) rfl, List.forall_mem_cons.mpr ⟨List.mem_of_getElem? (i := 4) rfl, List.forall_mem_cons.mpr ⟨List.mem_of_getElem? (i := 5) rfl, List.forall_mem_cons.mpr ⟨List.mem_of_getElem? (i := 0) rfl, fun _ h => nomatch h⟩⟩⟩⟩⟩) ?_
        exact ihJ22 _ (msr5 hmnn23 (by omega) (by omega)) I24 L25 x26 x46 rfl hI31 (Chg.mono S30 (by decide)) (by omega) (by omega) (by first | exact SPI.k ff23_0 (fun q => absurd q.1 (by rw [← hb37]; omega)) (by omega) (by omega) | exact SPI.k ff23_0 (fun q => by have z9 := q.2; omega) (by omega) (by omega) | exact SPI.h hJ12 hU gR hp18.1 (by omega) (by omega) (by rw [← hb37]; omega) (by omega) hS117 hh0 hh1 hh2 (by first | exact Or.inl ⟨by omega, by rw [m131, c131 (by omega), or0]⟩ | exact Or.inr ⟨by omega, by rw [m131, BTN.e m126 c126 (by omega) (by omega)]⟩) (by omega)) (by first | exact ff23_1 | exact ff65_1.ne hS117 (fun k hk => ⟨fun q => (GR.dl hU gR hk).1 (LSX.h q m8b), fun q => (GR.dl hU gR hk).2 (LSX.h q m8b)⟩)) (by omega)
      refine k_aload_n C rfl rfl rfl ?_
      refine k_iload C rfl rfl rfl ?_
      refine c_VR C (s_X8_signsAt_x hS hI31 H_r1) rfl rfl rfl rfl rfl ⟨_, rfl, rfl, T_r1, Nat.le_of_ble_eq_true rfl⟩ rfl rfl (Nat.le_of_ble_eq_true rfl) (Nat.le_of_ble_eq_true rfl) (Nat.le_of_ble_eq_true rfl) ?_
      rintro yy47 _ _ ⟨hyy47, p0yy47, rfl, rfl⟩
      try simp only [z_r0_0, z_r0_1, z_r0_2, z_r0_3, z_r0_4, z_r0_5, z_r0_0_0, z_r0_0_1, z_r0_0_2, z_r1_6, z_r1_7, z_r1_8, z_r1_9, z_r1_10] at p0yy47
      try simp only [e35, e36] at p0yy47
      try have q0yy47 := congrArg Int32.toInt p0yy47
      have hsg := p0yy47; (try simp only [z_r0_0, z_r0_1, z_r0_2, z_r0_3, z_r0_4, z_r0_5, z_r0_0_0, z_r0_0_1, z_r0_0_2, z_r1_6, z_r1_7, z_r1_8, z_r1_9, z_r1_10] at hsg); (try rw [e36] at hsg)
      refine k_goto C (pc2 := 50) rfl rfl ?_
      refine k_astoreV C (x := yy47) (lw := [(7, va_rf yy47), (0, .ref r0), (1, .ref r1), (2, .int n2), (5, .int x26), (6, .int x27)]) rfl rfl (Nat.le_of_ble_eq_true rfl) rfl ?_
      refine k_aloadV C (x := yy47) rfl rfl rfl ?_
      refine k_ifnull C (x := yy47) (t := 134) rfl rfl rfl (fun c48 => ?_) (fun rr49 c48 => ?_)
      · skip
        subst c48
        have hN54 := FAD.no hsg E_r1_10
        refine z_iinc C (z := 1) (lw := fun x50 => [(6, .int x50), (7, va_rf none), (0, .ref r0), (1, .ref r1), (2, .int n2), (5, .int x26)]) rfl rfl rfl (Nat.le_of_ble_eq_true rfl) rfl ⟨by omega, by omega⟩ (fun _ => rfl) (fun x50 ex50 => ?_)
        show V 137 [(6, .int x50), (7, va_rf none), (0, .ref r0), (1, .ref r1), (2, .int n2), (5, .int x26)] _ _ _ _
        refine k_goto C (pc2 := 23) rfl rfl ?_
        refine k_sub S [(0, .ref r0), (1, .ref r1), (2, .int n2), (5, .int x26), (6, .int x50)] (List.forall_mem_cons.mpr ⟨List.mem_of_getElem? (i := 2) rfl, List.forall_mem_cons.mpr ⟨List.mem_of_getElem? (i := 3) rfl, List.forall_mem_cons.mpr ⟨List.mem_of_getElem? (i := 4) rfl, List.forall_mem_cons.mpr ⟨List.mem_of_getElem? (i := 5) rfl, List.forall_mem_cons.mpr ⟨List.mem_of_getElem? (i := 0) rfl, fun _ h => nomatch h⟩⟩⟩⟩⟩) ?_
        exact ihJ22 _ (msr5 hmnn23 (by omega) (by omega)) I24 L25 x26 x50 rfl hI31 (Chg.mono S30 (by decide)) (by omega) (by omega) (by first | exact SPI.k ff23_0 (fun q => absurd q.1 (by rw [← hb37]; omega)) (by omega) (by omega) | exact SPI.k ff23_0 (fun q => by have z9 := q.2; omega) (by omega) (by omega) | exact SPI.h hJ12 hU gR hp18.1 (by omega) (by omega) (by rw [← hb37]; omega) (by omega) hS117 hh0 hh1 hh2 (by first | exact Or.inl ⟨by omega, by rw [m131, c131 (by omega), or0]⟩ | exact Or.inr ⟨by omega, by rw [m131, BTN.e m126 c126 (by omega) (by omega)]⟩) (by omega)) (by first | exact ff23_1 | exact ff65_1.ne hS117 (fun k hk => ⟨fun q => (GR.dl hU gR hk).1 (LSX.h q m8b), fun q => (GR.dl hU gR hk).2 (LSX.h q m8b)⟩)) (by omega)
      subst c48
      have H_rr49 := hyy47 rr49 rfl
      have hq9 := FAD.q hsg; have oS := SA_e z_r1_10 hq9.2.2.2; have hSg := H_rr49; have nS9 := ncn (n := 8) (j := x27) (by omega) (by omega); have nS8 := ncz (x := x27) (by omega)
      refine k_aload_n C rfl rfl rfl ?_
      refine z_iconst C (z := 0) rfl rfl rfl (fun x51 ex51 => ?_)
      refine z_pI C rfl rfl rfl T_r0 (Or.inr rfl) rfl (fun I52 uI52 => ?_)
      have hI52 : IX A T I52 := IX.f hI31 T_r0 (boX.tr (by decide) (by decide)) uI52
      have S53 : Chg (SL [r0]) T [(6, 8)] I24 L25 I52 L25 := Chg.f List.mem_cons_self T_r0 uI52
      have e54 := u2_j uI52 (by decide) e35
      have e55 := u2_j uI52 (by decide) e36
      have e56 := u2_e uI52
      have hu59 := uI52
      refine z_iconst C (z := 0) rfl rfl rfl (fun x57 ex57 => ?_)
      have J58 : ∀ (nn59 : Nat) (I60 : IT) (L61 : LT) (x62 : Int32), (MN (12 - x62.toInt) nn59) → (IX A T I60) → (Chg (ISX R r0) T [(2, 5), (3, 0), (6, 7), (6, 8)] I52 L25 I60 L61) → (0 ≤ x62.toInt) → (x62.toInt ≤ 12) → (SPJ R I60 r0 w_r1_0.toInt (SPF w_r1_0.toInt n4 n3.toInt n2.toInt w_r1_3.toInt (SL5 R I r1) x27.toNatClampNeg) x26 x27.toInt n4 n3.toInt (SL5 R I r1 x27.toNatClampNeg) x62.toInt) → (DRI R I60 r0 w_r1_0.toInt n4 n3.toInt.toNat 12) → (0 ≤ x62.toInt ∧ x62.toInt ≤ 12) → V 65 [(0, .ref r0), (1, .ref r1), (2, .int n2), (5, .int x26), (6, .int x27), (7, .ref rr49), (8, .int x62)] [] (T, N, I60, L61, R) 0 0 := by
        intro nn59
        induction nn59 using Nat.strongRecOn with
        | _ nn59 ihJ58 =>
          intro I60 L61 x62 hmnn59 hI66 S65 b63 b64 ff65_0 ff65_1 ff65_2
          have gx62 := rg x62
          have e70 := Chg.k S65 T_r1 (by decide) (by decide) e54
          have e71 := Chg.k S65 T_r1 (by decide) (by decide) e55
          refine k_iload C rfl rfl rfl ?_
          refine z_bipush C (z := 12) rfl rfl rfl (fun x72 ex72 => ?_)
          refine b_icmp_ge C (t := 114) rfl rfl rfl (fun c73 => ?_) (fun c73 => ?_)
          · skip
            have hJ12 : SPJ R I60 r0 w_r1_0.toInt (SPF w_r1_0.toInt n4 n3.toInt n2.toInt w_r1_3.toInt (SL5 R I r1) x27.toNatClampNeg) x26 x27.toInt n4 n3.toInt (SL5 R I r1 x27.toNatClampNeg) 12 := (by rw [show x62.toInt = 12 from by omega] at ff65_0; exact ff65_0); have pl2 := SPJ.pl hJ12 (by decide) (by decide) (by omega); have m8b := ncn (n := 8) (j := I60 r0 6) pl2.1.1 pl2.1.2; have hk117 := e70
            refine k_iload C rfl rfl rfl ?_
            refine k_aload_n C rfl rfl rfl ?_
            refine c_VI C (s_X5_isHeld_x hS hI66 H_r0 hU pl2.1 (by have z9 := pl2.2; omega) (by rw [z_r0_0, z_r0_0_0, hA0, hk117]; exact (SPJ.p hJ12 hp18.1).1) (SPJ.p hJ12 hp18.1).2 (by rw [z_r0_0, z_r0_0_0, hA0, hk117]; exact hp3)) rfl rfl rfl rfl rfl ⟨_, rfl, rfl, T_r0, Nat.le_of_ble_eq_true rfl⟩ rfl rfl (Nat.le_of_ble_eq_true rfl) (Nat.le_of_ble_eq_true rfl) (Nat.le_of_ble_eq_true rfl) ?_
            rintro x74 I75 L76 ⟨o0x74, o1x74, p0x74, p1x74, p2x74, hI75, S77⟩
            try simp only [z_r0_0, z_r0_1, z_r0_2, z_r0_3, z_r0_4, z_r0_5, z_r0_0_0, z_r0_0_1, z_r0_0_2, z_r1_6, z_r1_7, z_r1_8, z_r1_9, z_r1_10] at S77
            have e78 := Chg.k S77 T_r1 (by decide) (by decide) e70
            have e79 := Chg.k S77 T_r1 (by decide) (by decide) e71
            have gx74 := rg x74
            try simp only [z_r0_0, z_r0_1, z_r0_2, z_r0_3, z_r0_4, z_r0_5, z_r0_0_0, z_r0_0_1, z_r0_0_2, z_r1_6, z_r1_7, z_r1_8, z_r1_9, z_r1_10] at p0x74
            try simp only [z_r0_0, z_r0_1, z_r0_2, z_r0_3, z_r0_4, z_r0_5, z_r0_0_0, z_r0_0_1, z_r0_0_2, z_r1_6, z_r1_7, z_r1_8, z_r1_9, z_r1_10] at p1x74
            try simp only [z_r0_0, z_r0_1, z_r0_2, z_r0_3, z_r0_4, z_r0_5, z_r0_0_0, z_r0_0_1, z_r0_0_2, z_r1_6, z_r1_7, z_r1_8, z_r1_9, z_r1_10] at p2x74
            try simp only [e70, e71] at p0x74
            try have q0x74 := congrArg Int32.toInt p0x74
            try simp only [e70, e71] at p1x74
            try have q1x74 := congrArg Int32.toInt p1x74
            try simp only [e70, e71] at p2x74
            try have q2x74 := congrArg Int32.toInt p2x74
            have hh0 := p0x74; have hh1 := p1x74; have hh2 := p2x74; (try simp only [z_r0_0, z_r0_1, z_r0_2, z_r0_3, z_r0_4, z_r0_5, z_r0_0_0, z_r0_0_1, z_r0_0_2, z_r1_6, z_r1_7, z_r1_8, z_r1_9, z_r1_10] at hh0 hh1); rw [hA0, hk117] at hh0 hh1; have hS117 := S77; rw [← z_r0_4] at hS117 hh1 hh2
            refine b_if_eq C (t := 130) rfl rfl rfl (fun c80 => ?_) (fun c80 => ?_)
            · skip
              refine z_iconst C (z := 0) rfl rfl rfl (fun x81 ex81 => ?_)
              have c131 : x81.toInt = 0 → x81 = 0 := ceq0
              refine z_iorQ C rfl rfl (fun x82 ex82 => ?_)
              have gx82 := rg x82
              have m131 := ex82
              refine k_istore C (lw := [(5, .int x82), (0, .ref r0), (1, .ref r1), (2, .int n2), (6, .int x27), (7, .ref rr49), (8, .int x62)]) rfl rfl (Nat.le_of_ble_eq_true rfl) rfl ?_
              refine z_iinc C (z := 1) (lw := fun x83 => [(6, .int x83), (5, .int x82), (0, .ref r0), (1, .ref r1), (2, .int n2), (7, .ref rr49), (8, .int x62)]) rfl rfl rfl (Nat.le_of_ble_eq_true rfl) rfl ⟨by omega, by omega⟩ (fun _ => rfl) (fun x83 ex83 => ?_)
              show V 137 [(6, .int x83), (5, .int x82), (0, .ref r0), (1, .ref r1), (2, .int n2), (7, .ref rr49), (8, .int x62)] _ _ _ _
              refine k_goto C (pc2 := 23) rfl rfl ?_
              refine k_sub S [(0, .ref r0), (1, .ref r1), (2, .int n2), (5, .int x82), (6, .int x83)] (List.forall_mem_cons.mpr ⟨List.mem_of_getElem? (i := 2) rfl, List.forall_mem_cons.mpr ⟨List.mem_of_getElem? (i := 3) rfl, List.forall_mem_cons.mpr ⟨List.mem_of_getElem? (i := 4) rfl, List.forall_mem_cons.mpr ⟨List.mem_of_getElem? (i := 1) rfl, List.forall_mem_cons.mpr ⟨List.mem_of_getElem? (i := 0) rfl, fun _ h => nomatch h⟩⟩⟩⟩⟩) ?_
              exact ihJ22 _ (msr5 hmnn23 (by omega) (by omega)) I75 L76 x82 x83 rfl hI75 (Chg.cons S30 (Chg.cons (Chg.up S53 (sl_1 (Or.inr (Or.inr (Or.inl rfl))))) (Chg.cons S65 (Chg.mono (Chg.up S77 (fun a h => Or.inr (Or.inr (LSX.h (by rw [z_r0_4]; exact h) m8b)))) (by decide)) (by decide)) (by decide)) (by decide)) (by omega) (by omega) (by first | exact SPI.k ff23_0 (fun q => absurd q.1 (by rw [← hb37]; omega)) (by omega) (by omega) | exact SPI.k ff23_0 (fun q => by have z9 := q.2; omega) (by omega) (by omega) | exact SPI.h hJ12 hU gR hp18.1 (by omega) (by omega) (by rw [← hb37]; omega) (by omega) hS117 hh0 hh1 hh2 (by first | exact Or.inl ⟨by omega, by rw [m131, c131 (by omega), or0]⟩ | exact Or.inr ⟨by omega, by rw [m131, BTN.e m126 c126 (by omega) (by omega)]⟩) (by omega)) (by first | exact ff23_1 | exact ff65_1.ne hS117 (fun k hk => ⟨fun q => (GR.dl hU gR hk).1 (LSX.h q m8b), fun q => (GR.dl hU gR hk).2 (LSX.h q m8b)⟩)) (by omega)
            refine z_iconst C (z := 1) rfl rfl rfl (fun x84 ex84 => ?_)
            refine k_iload C rfl rfl rfl ?_
            have c126 : x84.toInt = 1 := (by omega)
            refine z_ishlQ C rfl rfl (fun x85 ex85 => ?_)
            have gx85 := rg x85
            have m126 := ex85
            refine k_goto C (pc2 := 131) rfl rfl ?_
            have c131 : x85.toInt = 0 → x85 = 0 := ceq0
            refine z_iorQ C rfl rfl (fun x86 ex86 => ?_)
            have gx86 := rg x86
            have m131 := ex86
            refine k_istore C (lw := [(5, .int x86), (0, .ref r0), (1, .ref r1), (2, .int n2), (6, .int x27), (7, .ref rr49), (8, .int x62)]) rfl rfl (Nat.le_of_ble_eq_true rfl) rfl ?_
            refine z_iinc C (z := 1) (lw := fun x87 => [(6, .int x87), (5, .int x86), (0, .ref r0), (1, .ref r1), (2, .int n2), (7, .ref rr49), (8, .int x62)]) rfl rfl rfl (Nat.le_of_ble_eq_true rfl) rfl ⟨by omega, by omega⟩ (fun _ => rfl) (fun x87 ex87 => ?_)
            show V 137 [(6, .int x87), (5, .int x86), (0, .ref r0), (1, .ref r1), (2, .int n2), (7, .ref rr49), (8, .int x62)] _ _ _ _
            refine k_goto C (pc2 := 23) rfl rfl ?_
            refine k_sub S [(0, .ref r0), (1, .ref r1), (2, .int n2), (5, .int x86), (6, .int x87)] (List.forall_mem_cons.mpr ⟨List.mem_of_getElem? (i := 2) rfl, List.forall_mem_cons.mpr ⟨List.mem_of_getElem? (i := 3) rfl, List.forall_mem_cons.mpr ⟨List.mem_of_getElem? (i := 4) rfl, List.forall_mem_cons.mpr ⟨List.mem_of_getElem? (i := 1) rfl, List.forall_mem_cons.mpr ⟨List.mem_of_getElem? (i := 0) rfl, fun _ h => nomatch h⟩⟩⟩⟩⟩) ?_
            exact ihJ22 _ (msr5 hmnn23 (by omega) (by omega)) I75 L76 x86 x87 rfl hI75 (Chg.cons S30 (Chg.cons (Chg.up S53 (sl_1 (Or.inr (Or.inr (Or.inl rfl))))) (Chg.cons S65 (Chg.mono (Chg.up S77 (fun a h => Or.inr (Or.inr (LSX.h (by rw [z_r0_4]; exact h) m8b)))) (by decide)) (by decide)) (by decide)) (by decide)) (by omega) (by omega) (by first | exact SPI.k ff23_0 (fun q => absurd q.1 (by rw [← hb37]; omega)) (by omega) (by omega) | exact SPI.k ff23_0 (fun q => by have z9 := q.2; omega) (by omega) (by omega) | exact SPI.h hJ12 hU gR hp18.1 (by omega) (by omega) (by rw [← hb37]; omega) (by omega) hS117 hh0 hh1 hh2 (by first | exact Or.inl ⟨by omega, by rw [m131, c131 (by omega), or0]⟩ | exact Or.inr ⟨by omega, by rw [m131, BTN.e m126 c126 (by omega) (by omega)]⟩) (by omega)) (by first | exact ff23_1 | exact ff65_1.ne hS117 (fun k hk => ⟨fun q => (GR.dl hU gR hk).1 (LSX.h q m8b), fun q => (GR.dl hU gR hk).2 (LSX.h q m8b)⟩)) (by omega)
          refine k_aload_n C rfl rfl rfl ?_
          refine g_R C rfl rfl rfl T_r0 rfl R_r0_2 ?_
          refine k_iload C rfl rfl rfl ?_
          refine c_SR C (s_X2_pick_Row12_x hS hI66 H_r0_2) rfl rfl rfl rfl rfl rfl rfl (Nat.le_of_ble_eq_true rfl) (Nat.le_of_ble_eq_true rfl) (Nat.le_of_ble_eq_true rfl) ?_
          rintro yy88 _ _ ⟨hyy88, p0yy88, rfl, rfl⟩
          try simp only [z_r0_0, z_r0_1, z_r0_2, z_r0_3, z_r0_4, z_r0_5, z_r0_0_0, z_r0_0_1, z_r0_0_2, z_r1_6, z_r1_7, z_r1_8, z_r1_9, z_r1_10] at p0yy88
          try simp only [e70, e71] at p0yy88
          try have q0yy88 := congrArg Int32.toInt p0yy88
          have hpN := p0yy88; rw [N_r0_2] at hpN
          refine k_astoreV C (x := yy88) (lw := [(9, va_rf yy88), (0, .ref r0), (1, .ref r1), (2, .int n2), (5, .int x26), (6, .int x27), (7, .ref rr49), (8, .int x62)]) rfl rfl (Nat.le_of_ble_eq_true rfl) rfl ?_
          refine k_aloadV C (x := yy88) rfl rfl rfl ?_
          refine k_ifnull C (x := yy88) (t := 106) rfl rfl rfl (fun c89 => ?_) (fun rr90 c89 => ?_)
          · skip
            subst c89
            exact (PKD.no hpN (by omega) (by omega) E_r0_2).elim
          subst c89
          have H_rr90 := hyy88 rr90 rfl
          have oK := DA_e z_r0_2 (PKD.q hpN (by omega) (by omega)); have fK := FO.of (hs_GF hS H_rr90)
          refine k_aload_n C rfl rfl rfl ?_
          refine k_aload_n C rfl rfl rfl ?_
          refine g_R C rfl rfl rfl T_r0 rfl R_r0_1 ?_
          refine k_aload C rfl rfl rfl ?_
          refine k_aload C rfl rfl rfl ?_
          have iK := ncn (n := 12) (j := x62) (by omega) (by omega); have hFQ := ff65_1.q iK (by omega) hp18.1 oK; have hsgF := ISX.sg hU gR gK hSg (((Chg.cons (Chg.up S4 (fun a h => Or.inl h)) (Chg.cons (Chg.up S9 (sl_1 (Or.inr (Or.inr (Or.inl rfl))))) (Chg.cons (Chg.up S15 (sl_1 (Or.inr (Or.inr (Or.inl rfl))))) (Chg.cons S30 (Chg.cons (Chg.up S53 (sl_1 (Or.inr (Or.inr (Or.inl rfl))))) (Chg.mono S65 (by decide)) (by decide)) (by decide)) (by decide)) (by decide)) (by decide)) : Chg (ISX R r0) T [(2, 5), (3, 0), (6, 6), (6, 7), (6, 8)] I L I60 L61)) (fun _ h => h); have hk97 := e70; have pl := SPJ.pl ff65_0 (by omega) (by omega) (by omega)
          obtain ⟨T_r0_1, A_r0_1, B_r0_1, ⟨r0_1_0, R_r0_1_0, H_r0_1_0⟩, ⟨r0_1_1, R_r0_1_1, H_r0_1_1⟩, ⟨r0_1_2, R_r0_1_2, H_r0_1_2⟩, ⟨r0_1_3, R_r0_1_3, H_r0_1_3⟩, ⟨r0_1_4, R_r0_1_4, H_r0_1_4⟩⟩ := id H_r0_1
          have z_r0_1_0 : rA R r0_1 0 = r0_1_0 := rA_e R_r0_1_0
          have z_r0_1_1 : rA R r0_1 1 = r0_1_1 := rA_e R_r0_1_1
          have z_r0_1_2 : rA R r0_1 2 = r0_1_2 := rA_e R_r0_1_2
          have z_r0_1_3 : rA R r0_1 3 = r0_1_3 := rA_e R_r0_1_3
          have z_r0_1_4 : rA R r0_1 4 = r0_1_4 := rA_e R_r0_1_4
          obtain ⟨T_rr49, A_rr49, ⟨rr49_0, R_rr49_0, H_rr49_0⟩, ⟨rr49_1, R_rr49_1, H_rr49_1⟩⟩ := id H_rr49
          have z_rr49_0 : rA R rr49 0 = rr49_0 := rA_e R_rr49_0
          have z_rr49_1 : rA R rr49 1 = rr49_1 := rA_e R_rr49_1
          obtain ⟨T_rr90, A_rr90, B_rr90, ⟨rr90_1, R_rr90_1, H_rr90_1⟩⟩ := id H_rr90
          have z_rr90_1 : rA R rr90 1 = rr90_1 := rA_e R_rr90_1
          refine c_VR C (s_X1_valueOf_x hS hI66 H_r0_1 H_rr49 (hs_GF hS H_rr90) hU (by rw [hsgF.2, ← oS]; exact (hp2 _ nS9 (by omega)).1) (by rw [hsgF.1, ← oS]; exact (hp2 _ nS9 (by omega)).2) (by rw [← oK]; exact GR.dc hU gR gK1 (ncn (n := 12) (by omega) (by omega))) (by rw [hA1, hk97]; exact hFQ.2.1)) rfl rfl rfl rfl rfl ⟨_, rfl, rfl, T_r0_1, Nat.le_of_ble_eq_true rfl⟩ rfl rfl (Nat.le_of_ble_eq_true rfl) (Nat.le_of_ble_eq_true rfl) (Nat.le_of_ble_eq_true rfl) ?_
          rintro yy91 I92 L93 ⟨hyy91, p0yy91, hI92, S94⟩
          try simp only [z_r0_0, z_r0_1, z_r0_2, z_r0_3, z_r0_4, z_r0_5, z_r0_0_0, z_r0_0_1, z_r0_0_2, z_r1_6, z_r1_7, z_r1_8, z_r1_9, z_r1_10, z_r0_1_0, z_r0_1_1, z_r0_1_2, z_r0_1_3, z_r0_1_4, z_rr49_0, z_rr49_1, z_rr90_1] at S94
          have e95 := Chg.k S94 T_r1 (by decide) (by decide) e70
          have e96 := Chg.k S94 T_r1 (by decide) (by decide) e71
          try simp only [z_r0_0, z_r0_1, z_r0_2, z_r0_3, z_r0_4, z_r0_5, z_r0_0_0, z_r0_0_1, z_r0_0_2, z_r1_6, z_r1_7, z_r1_8, z_r1_9, z_r1_10, z_r0_1_0, z_r0_1_1, z_r0_1_2, z_r0_1_3, z_r0_1_4, z_rr49_0, z_rr49_1, z_rr90_1] at p0yy91
          try simp only [e70, e71] at p0yy91
          try have q0yy91 := congrArg Int32.toInt p0yy91
          have hv0 := p0yy91; (try rw [← z_r0_1_0] at hv0); rw [hA1, hk97, hsgF.1, ← oS, ← z_rr90_1] at hv0; have hS97 := S94; have er97 := Chg.at hS97 (GR.rc hU gR gK1).1; have m8 := ncn (n := 8) (j := I92 r0 6) (by rw [er97]; exact pl.1.1) (by rw [er97]; exact pl.1.2); have hvc := VPO.c5 hv0 (VWF.cg hFQ.1 (by show (0 : Int) ≤ _; rw [hFQ.2.2]; omega) (hp2 _ nS9 (by omega)).2)
          refine c_VI C (s_X5_isAppended_x hS hI92 H_r0 (fun b9 h9 => hs_GF hS (hyy91 b9 h9)) hU (by rw [er97]; exact pl.1) (by rw [er97]; have z9 := pl.2; omega)) rfl rfl rfl rfl rfl ⟨_, rfl, rfl, T_r0, Nat.le_of_ble_eq_true rfl⟩ rfl rfl (Nat.le_of_ble_eq_true rfl) (Nat.le_of_ble_eq_true rfl) (Nat.le_of_ble_eq_true rfl) ?_
          rintro x97 I98 L99 ⟨o0x97, o1x97, p0x97, p1x97, hI98, S100⟩
          try simp only [z_r0_0, z_r0_1, z_r0_2, z_r0_3, z_r0_4, z_r0_5, z_r0_0_0, z_r0_0_1, z_r0_0_2, z_r1_6, z_r1_7, z_r1_8, z_r1_9, z_r1_10, z_r0_1_0, z_r0_1_1, z_r0_1_2, z_r0_1_3, z_r0_1_4, z_rr49_0, z_rr49_1, z_rr90_1] at S100
          have e101 := Chg.k S100 T_r1 (by decide) (by decide) e95
          have e102 := Chg.k S100 T_r1 (by decide) (by decide) e96
          have gx97 := rg x97
          try simp only [z_r0_0, z_r0_1, z_r0_2, z_r0_3, z_r0_4, z_r0_5, z_r0_0_0, z_r0_0_1, z_r0_0_2, z_r1_6, z_r1_7, z_r1_8, z_r1_9, z_r1_10, z_r0_1_0, z_r0_1_1, z_r0_1_2, z_r0_1_3, z_r0_1_4, z_rr49_0, z_rr49_1, z_rr90_1] at p0x97
          try simp only [z_r0_0, z_r0_1, z_r0_2, z_r0_3, z_r0_4, z_r0_5, z_r0_0_0, z_r0_0_1, z_r0_0_2, z_r1_6, z_r1_7, z_r1_8, z_r1_9, z_r1_10, z_r0_1_0, z_r0_1_1, z_r0_1_2, z_r0_1_3, z_r0_1_4, z_rr49_0, z_rr49_1, z_rr90_1] at p1x97
          try simp only [e95, e96] at p0x97
          try have q0x97 := congrArg Int32.toInt p0x97
          try simp only [e95, e96] at p1x97
          try have q1x97 := congrArg Int32.toInt p1x97
          have ha0 := p0x97; have ha1 := p1x97; have hS100 := S100
          refine b_if_ne C (t := 108) rfl rfl rfl (fun c103 => ?_) (fun c103 => ?_)
          · skip
            refine z_iinc C (z := 1) (lw := fun x104 => [(8, .int x104), (9, .ref rr90), (0, .ref r0), (1, .ref r1), (2, .int n2), (5, .int x26), (6, .int x27), (7, .ref rr49)]) rfl rfl rfl (Nat.le_of_ble_eq_true rfl) rfl ⟨by omega, by omega⟩ (fun _ => rfl) (fun x104 ex104 => ?_)
            show V 111 [(8, .int x104), (9, .ref rr90), (0, .ref r0), (1, .ref r1), (2, .int n2), (5, .int x26), (6, .int x27), (7, .ref rr49)] _ _ _ _
            refine k_goto C (pc2 := 65) rfl rfl ?_
            refine k_sub S [(0, .ref r0), (1, .ref r1), (2, .int n2), (5, .int x26), (6, .int x27), (7, .ref rr49), (8, .int x104)] (List.forall_mem_cons.mpr ⟨List.mem_of_getElem? (i := 2) rfl, List.forall_mem_cons.mpr ⟨List.mem_of_getElem? (i := 3) rfl, List.forall_mem_cons.mpr ⟨List.mem_of_getElem? (i := 4) rfl, List.forall_mem_cons.mpr ⟨List.mem_of_getElem? (i := 5) rfl, List.forall_mem_cons.mpr ⟨List.mem_of_getElem? (i := 6) rfl, List.forall_mem_cons.mpr ⟨List.mem_of_getElem? (i := 7) rfl, List.forall_mem_cons.mpr ⟨List.mem_of_getElem? (i := 0) rfl, fun _ h => nomatch h⟩⟩⟩⟩⟩⟩⟩) ?_
            exact ihJ58 _ (msr5 hmnn59 (by omega) (by omega)) I98 L99 x104 rfl hI98 (Chg.cons S65 (Chg.cons (Chg.up S94 (fun a h => Or.inr (Or.inl (by rw [z_r0_1]; exact h)))) (Chg.mono (Chg.up S100 (fun a h => Or.inr (Or.inr (LSX.a h m8)))) (by decide)) (by decide)) (by decide)) (by omega) (by omega) (by exact SPJ.s ff65_0 hU gR gK1 (by omega) hp18.1 hvc hS97 (ha1 (by omega)) hS100 (by omega) (by omega)) (by exact (ff65_1.ne hS97 (fun k hk => GR.dc hU gR gK1 hk)).ne hS100 (fun k hk => ⟨fun q => (GR.dl hU gR hk).1 (LSX.a q m8), fun q => (GR.dl hU gR hk).2 (LSX.a q m8)⟩)) (by omega)
          refine z_iconst C (z := -1) rfl rfl rfl (fun x105 ex105 => ?_)
          exact k_iret C rfl (Or.inl rfl) (Nat.le_of_ble_eq_true rfl) (Nat.le_of_ble_eq_true rfl) ⟨_, _, _, rfl, rfl, by (try simp only [z_r0_0, z_r0_1, z_r0_2, z_r0_3, z_r0_4, z_r0_5, z_r0_0_0, z_r0_0_1, z_r0_0_2, z_r1_6, z_r1_7, z_r1_8, z_r1_9, z_r1_10, z_r0_1_0, z_r0_1_1, z_r0_1_2, z_r0_1_3, z_r0_1_4, z_rr49_0, z_rr49_1, z_rr90_1]); simp only [k0_r1_0, k0_r1_3]; exact Or.inl ⟨SPJ.no ff65_0 hFQ.2.2 hv0 hS97 (GR.rc hU gR gK1).1 (ha0 (by omega)) (by rw [← hb37]; omega) (by omega) (by omega) (by omega), by omega⟩, hI98, (Chg.cons (Chg.up S4 (fun a h => Or.inl h)) (Chg.cons (Chg.up S9 (sl_1 (Or.inr (Or.inr (Or.inl rfl))))) (Chg.cons (Chg.up S15 (sl_1 (Or.inr (Or.inr (Or.inl rfl))))) (Chg.cons S30 (Chg.cons (Chg.up S53 (sl_1 (Or.inr (Or.inr (Or.inl rfl))))) (Chg.cons S65 (Chg.cons (Chg.up S94 (fun a h => Or.inr (Or.inl (by rw [z_r0_1]; exact h)))) (Chg.mono (Chg.up S100 (fun a h => Or.inr (Or.inr (LSX.a h m8)))) (by decide)) (by decide)) (by decide)) (by decide)) (by decide)) (by decide)) (by decide)) (by decide))⟩
      refine k_istore C (lw := [(8, .int x57), (7, .ref rr49), (0, .ref r0), (1, .ref r1), (2, .int n2), (5, .int x26), (6, .int x27)]) rfl rfl (Nat.le_of_ble_eq_true rfl) rfl ?_
      refine k_sub S [(0, .ref r0), (1, .ref r1), (2, .int n2), (5, .int x26), (6, .int x27), (7, .ref rr49), (8, .int x57)] (List.forall_mem_cons.mpr ⟨List.mem_of_getElem? (i := 2) rfl, List.forall_mem_cons.mpr ⟨List.mem_of_getElem? (i := 3) rfl, List.forall_mem_cons.mpr ⟨List.mem_of_getElem? (i := 4) rfl, List.forall_mem_cons.mpr ⟨List.mem_of_getElem? (i := 5) rfl, List.forall_mem_cons.mpr ⟨List.mem_of_getElem? (i := 6) rfl, List.forall_mem_cons.mpr ⟨List.mem_of_getElem? (i := 1) rfl, List.forall_mem_cons.mpr ⟨List.mem_of_getElem? (i := 0) rfl, fun _ h => nomatch h⟩⟩⟩⟩⟩⟩⟩) ?_
      exact J58 _ I52 L25 x57 rfl hI52 Chg.rf (by omega) (by omega) (by exact SPJ.z ff23_0 hu59 (by omega) (by omega) (GR.hr gR).1 (GR.hr gR).2 (by omega)) (by exact ff23_1.u hu59 hU gR (by decide)) (by omega)
  refine k_istore C (lw := [(6, .int x21), (5, .int x20), (0, .ref r0), (1, .ref r1), (2, .int n2), (3, .int n3), (4, .int n4)]) rfl rfl (Nat.le_of_ble_eq_true rfl) rfl ?_
  refine k_sub S [(0, .ref r0), (1, .ref r1), (2, .int n2), (5, .int x20), (6, .int x21)] (List.forall_mem_cons.mpr ⟨List.mem_of_getElem? (i := 2) rfl, List.forall_mem_cons.mpr ⟨List.mem_of_getElem? (i := 3) rfl, List.forall_mem_cons.mpr ⟨List.mem_of_getElem? (i := 4) rfl, List.forall_mem_cons.mpr ⟨List.mem_of_getElem? (i := 1) rfl, List.forall_mem_cons.mpr ⟨List.mem_of_getElem? (i := 0) rfl, fun _ h => nomatch h⟩⟩⟩⟩⟩) ?_
  exact J22 _ I14 L3 x20 x21 rfl hI14 Chg.rf (by omega) (by omega) (by exact SPI.z (by rw [e18]; omega) (by rw [e19]; omega) (by omega) (by omega) (by omega)) (by exact hd17) (by omega)

