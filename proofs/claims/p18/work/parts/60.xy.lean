/-! two values: exactly -/
/-- two values: alike or not -/
theorem VFR.fe {R : RT} {I : IT} {f g : Nat} {p : Int} {v w : FVV} (hf : VFR R I f p v) (hg : VFR R I g p w) : FEQ R I f I g ↔ FQV p v w := by
  obtain ⟨a1, a2, a3, a4⟩ := hf
  obtain ⟨b1, b2, b3, b4⟩ := hg
  refine ⟨fun e => ⟨by have := e.1; omega, fun m hm => ?_⟩, fun e => ⟨by have := e.1; omega, fun m hm => ?_⟩⟩
  · have z := e.2 m (by have := e.1; omega)
    have y1 := (a4 m hm).2.2
    have y2 := (b4 m (by have := e.1; omega)).2.2
    rw [z] at y1
    exact y1.sy.tr y2
  · have h1 := a4 m (by have := e.1; omega)
    have h2 := b4 m (by omega)
    exact (h1.2.2.tr ((e.2 m (by have := e.1; omega)).tr h2.2.2.sy)).eq h1.1 h1.2.1 h2.1 h2.2.1
theorem OV.nn {R : RT} {I2 I4 : IT} {c : Nat} {x p : Int} {o1 o2 : Option FVV} (h1 : VPO R I2 c none p o1) (h2 : VPO R I4 c none p o2) (hx : x = 1) : IFF x (OQV p o1 o2) := by
  rcases h1 with ⟨-, e1⟩ | ⟨v, e1, -⟩
  · rcases h2 with ⟨-, e2⟩ | ⟨v, e2, -⟩
    · exact ⟨fun _ => Or.inl ⟨e1, e2⟩, fun q => by omega⟩
    · cases e2
  · cases e1
theorem OV.sn {R : RT} {I2 I4 : IT} {c b : Nat} {x p : Int} {o1 o2 : Option FVV} (h1 : VPO R I2 c (some b) p o1) (h2 : VPO R I4 c none p o2) (hx : x = 0) : IFF x (OQV p o1 o2) := by
  rcases h1 with ⟨e1, -⟩ | ⟨v, -, e1, -⟩
  · cases e1
  · rcases h2 with ⟨-, e2⟩ | ⟨w, e2, -⟩
    · refine ⟨fun q => by omega, fun _ q => ?_⟩
      rw [e1, e2] at q
      rcases q with ⟨q, -⟩ | ⟨v9, w9, -, q, -⟩ <;> cases q
    · cases e2
theorem OV.ns {R : RT} {I2 I4 : IT} {c b : Nat} {x p : Int} {o1 o2 : Option FVV} (h1 : VPO R I2 c none p o1) (h2 : VPO R I4 c (some b) p o2) (hx : x = 0) : IFF x (OQV p o1 o2) := by
  rcases h2 with ⟨e1, -⟩ | ⟨v, -, e1, -⟩
  · cases e1
  · rcases h1 with ⟨-, e2⟩ | ⟨w, e2, -⟩
    · refine ⟨fun q => by omega, fun _ q => ?_⟩
      rw [e1, e2] at q
      rcases q with ⟨-, q⟩ | ⟨v9, w9, q, -⟩ <;> cases q
    · cases e2
theorem OV.ss {R : RT} {I2 I3 I4 : IT} {c b1 b2 wk : Nat} {x y p : Int} {o1 o2 : Option FVV} (h1 : VPO R I2 c (some b1) p o1) (h2 : VPO R I4 c (some b2) p o2) (hcp : FEQ R I3 wk I2 b1) (e1 : I4 wk = I3 wk) (e2 : I4 (rA R wk 1) = I3 (rA R wk 1)) (m : IFF y (FEQ R I4 wk I4 b2)) (hx : x = 1 ∧ y = 1 ∨ x = 0 ∧ y = 0) : IFF x (OQV p o1 o2) := by
  rcases h1 with ⟨q, -⟩ | ⟨v, q1, q2, q3⟩
  · cases q
  · rcases h2 with ⟨q, -⟩ | ⟨w, r1, r2, r3⟩
    · cases q
    · cases q1
      cases r1
      have fw : VFR R I4 wk p v := (q3.cp hcp).sm e1 e2
      have fe := VFR.fe fw r3
      rcases hx with ⟨x1, y1⟩ | ⟨x0, y0⟩
      · exact ⟨fun _ => Or.inr ⟨v, w, q2, r2, fe.mp (m.1 y1)⟩, fun q => by omega⟩
      · refine ⟨fun q => by omega, fun _ q => m.2 y0 (fe.mpr ?_)⟩
        rw [q2, r2] at q
        rcases q with ⟨q, -⟩ | ⟨v9, w9, q, q', q9⟩
        · cases q
        · cases q; cases q'; exact q9
/-- the first for which it doesn't hold -/
def AGQ (Q : Nat → Prop) (n x : Int) : Prop := (x = -1 ∧ ∀ j : Nat, (j : Int) < n → Q j) ∨ (0 ≤ x ∧ x < n ∧ ¬ Q x.toNat ∧ ∀ j : Nat, (j : Int) < x → Q j)
theorem AGQ.u {Q Q' : Nat → Prop} {n x y : Int} (e : ∀ j : Nat, (j : Int) < n → (Q j ↔ Q' j)) (h : AGQ Q n x) (g : AGQ Q' n y) : x = y := by
  rcases h with ⟨h1, h2⟩ | ⟨h1, h2, h3, h4⟩
  · rcases g with ⟨g1, g2⟩ | ⟨g1, g2, g3, g4⟩
    · omega
    · exact absurd ((e _ (by omega)).mp (h2 _ (by omega))) g3
  · rcases g with ⟨g1, g2⟩ | ⟨g1, g2, g3, g4⟩
    · exact absurd ((e _ (by omega)).mpr (g2 _ (by omega))) h3
    · rcases Int.lt_trichotomy x y with c | c | c
      · exact absurd ((e _ (by omega)).mpr (g4 x.toNat (by omega))) h3
      · exact c
      · exact absurd ((e _ (by omega)).mp (h4 y.toNat (by omega))) g3
def AGP (R : RT) (I : IT) (st : Nat) (p d : Int) (ls lt : List (Int × Int)) (j : Nat) : Prop := (I (FA R st j) 0).toInt = d → OQV p (VWF ((I (FA R st j) 0).toInt, NF I (rA R (FA R st j) 1)) ls) (VWF ((I (FA R st j) 0).toInt, NF I (rA R (FA R st j) 1)) lt)
def AGI (Q : Nat → Prop) (n : Int) : Prop := ∀ j : Nat, (j : Int) < n → Q j
theorem AGI.z {Q : Nat → Prop} {n : Int} (h : n = 0) : AGI Q n := fun j hj => by omega
theorem AGI.s {Q : Nat → Prop} {k k' : Int32} (h : AGI Q k.toInt) (q : Q k.toNatClampNeg) (h0 : 0 ≤ k.toInt) (e : k'.toInt = k.toInt + 1) : AGI Q k'.toInt := fun j hj => by
  have n0 := ncz h0
  by_cases z : j = k.toNatClampNeg
  · subst z; exact q
  · exact h j (by omega)
theorem AGQ.n {Q : Nat → Prop} {k n x : Int} (h : AGI Q k) (hk : n ≤ k) (hx : x = -1) : AGQ Q n x := Or.inl ⟨hx, fun j hj => h j (by omega)⟩
theorem AGQ.y {Q : Nat → Prop} {k : Int32} {n x : Int} (h : AGI Q k.toInt) (q : ¬ Q k.toNatClampNeg) (h0 : 0 ≤ k.toInt) (hn : k.toInt < n) (hx : x = k.toInt) : AGQ Q n x := Or.inr ⟨by omega, by omega, by
  have n0 := ncz h0
  rw [show x.toNat = k.toNatClampNeg from by omega]; exact q, fun j hj => h j (by omega)⟩
theorem WCX.sg {T N : Nat → Nat} {R : RT} {A B : Nat → Prop} {c wk wb s : Nat} {I I' : IT} (hU : UPR T R) (hG : GK T R c) (tw : T wk = 3) (rw9 : R wk 1 = some wb) (tb : T wb = 20) (hs : hs_Sg T N R A B s) (k9 : ∀ a, ¬ (CSX R c a ∨ a = wk ∨ a = wb) → I' a = I a) : STL R I' s = STL R I s ∧ I' s = I s := by
  obtain ⟨ts, -, ⟨a, ra, ta, -, -⟩, ⟨b, rb, tb9, -, -⟩⟩ := hs
  have na := CSX.na hU hG ta ra (by omega)
  have nb := CSX.na hU hG tb9 rb (by omega)
  have ns := CSX.nt (a := s) hG (by omega) (by omega) (by omega)
  have wa : a ≠ wb := hU.ne (Or.inr (Or.inr (Or.inr (by omega)))) ra rw9 (Or.inl (fun e => by rw [e] at ts; omega))
  have w2 : b ≠ wb := hU.ne (Or.inr (Or.inr (Or.inr (by omega)))) rb rw9 (Or.inl (fun e => by rw [e] at ts; omega))
  have es : I' s = I s := k9 s (fun q => q.elim ns (fun q => q.elim (fun e => by rw [e] at ts; omega) (fun e => by rw [e] at ts; omega)))
  have ea : I' a = I a := k9 a (fun q => q.elim na (fun q => q.elim (fun e => by rw [e] at ta; omega) wa))
  have eb : I' b = I b := k9 b (fun q => q.elim nb (fun q => q.elim (fun e => by rw [e] at tb9; omega) w2))
  exact ⟨STL.fr (rA_e ra) (rA_e rb) (congrFun es 2) ea eb, es⟩
theorem WCX.fo {T : Nat → Nat} {R : RT} {c wk wb f : Nat} {I I' : IT} (hn : (¬ CSX R c f) ∧ ¬ CSX R c (rA R f 1)) (hf : FO T R f) (tw : T wk = 3) (tb : T wb = 20) (n1 : f ≠ wk) (n2 : rA R f 1 ≠ wb) (k9 : ∀ a, ¬ (CSX R c a ∨ a = wk ∨ a = wb) → I' a = I a) : I' f = I f ∧ I' (rA R f 1) = I (rA R f 1) := ⟨k9 f (fun q => q.elim hn.1 (fun q => q.elim n1 (fun e => by have := hf.1; rw [e] at this; omega))), k9 _ (fun q => q.elim hn.2 (fun q => q.elim (fun e => by have := hf.2.2; rw [e] at this; omega) n2))⟩
theorem AGP.of {R : RT} {I I' : IT} {st f fb j : Nat} {p d x D : Int} {ls lt : List (Int × Int)} (o : FA R st j = f) (z : rA R f 1 = fb) (h : IFF x (OQV p (VWF (D, NF I' fb) ls) (VWF (D, NF I' fb) lt))) (hD : (I' f 0).toInt = D) (e1 : I' f = I f) (e2 : I' (rA R f 1) = I (rA R f 1)) : (x = 1 → AGP R I st p d ls lt j) ∧ (x = 0 → D = d → ¬ AGP R I st p d ls lt j) := by
  subst z; subst hD
  have f1 : NF I' (rA R f 1) = NF I (rA R f 1) := by unfold NF; rw [e2]
  rw [e1, f1] at h
  unfold AGP
  rw [o, e1]
  exact ⟨fun q _ => h.1 q, fun q hd z => h.2 q (z hd)⟩
theorem AGP.no {R : RT} {I I' : IT} {st f j : Nat} {p d : Int} {ls lt : List (Int × Int)} (o : FA R st j = f) (e1 : I' f = I f) (hd : (I' f 0).toInt ≠ d) : AGP R I st p d ls lt j := fun q => by
  rw [o, ← e1] at q
  exact absurd q hd
theorem s_X11_isOneValue_x {d : Nat} {T N : Nat → Nat} {I : IT} {L : LT} {R : RT} {A B : Nat → Prop} {r0 r1 r2 r3 : Nat} (hS : SUB B A) (hI : IX A T I) (H_r0 : (hs_LF T N R A B) r0) (H_r1 : (hs_Sg T N R A B) r1) (H_r2 : (hs_Sg T N R A B) r2) (H_r3 : (hs_F T N R A B) r3) (hU : UPR T R) (hp0 : rA R (rA R (rA R r0 6) 0) 0 = (rA R r0 1)) (hp1 : (0 ≤ (I r1 2).toInt ∧ (I r1 2).toInt ≤ 160) ∧ HOV (STL R I r1) 0) (hp2 : (0 ≤ (I r2 2).toInt ∧ (I r2 2).toInt ≤ 160) ∧ HOV (STL R I r2) 0) (hp3 : (¬ CSX R (rA R r0 6) r3) ∧ ¬ CSX R (rA R r0 6) (rA R r3 1)) (hp4 : BNX I (rA R r3 1) (I r3 0).toInt (I (rA R r0 1) 0).toInt) (hp5 : (r3 ≠ rA R r0 11) ∧ rA R r3 1 ≠ rA R (rA R r0 11) 1) : Ex (d + 7) 149 [.ref r0, .ref r1, .ref r2, .ref r3] (T, N, I, L, R) 0 0 (pI T N R (fun x9 I9 L9 => (0 ≤ x9.toInt) ∧ (x9.toInt ≤ 1) ∧ (IFF x9.toInt (OQV (I (rA R r0 1) 0).toInt (VWF ((I r3 0).toInt, NF I (rA R r3 1)) (STL R I r1)) (VWF ((I r3 0).toInt, NF I (rA R r3 1)) (STL R I r2)))) ∧ (IX A T I9 ∧ Chg (fun a => CSX R (rA R r0 6) a ∨ a = rA R r0 11 ∨ a = rA R (rA R r0 11) 1) T [(2, 5), (3, 0)] I L I9 L9))) := by
  refine ⟨_, rfl, Nat.le_of_ble_eq_true rfl, fun V C S => ?_⟩
  show V 0 [(0, .ref r0), (1, .ref r1), (2, .ref r2), (3, .ref r3)] [] (T, N, I, L, R) 0 0
  obtain ⟨T_r0, A_r0, B_r0, ⟨r0_0, R_r0_0, H_r0_0⟩, ⟨r0_1, R_r0_1, H_r0_1⟩, ⟨r0_2, R_r0_2, H_r0_2⟩, ⟨r0_5, R_r0_5, H_r0_5⟩, ⟨r0_6, R_r0_6, H_r0_6⟩, ⟨r0_7, R_r0_7, H_r0_7⟩, ⟨r0_8, R_r0_8, H_r0_8⟩, ⟨r0_9, R_r0_9, H_r0_9⟩, ⟨r0_10, R_r0_10, H_r0_10⟩, ⟨r0_11, R_r0_11, H_r0_11⟩, ⟨r0_12, R_r0_12, H_r0_12⟩, ⟨r0_13, R_r0_13, H_r0_13⟩⟩ := id H_r0
  have z_r0_0 : rA R r0 0 = r0_0 := rA_e R_r0_0
  have z_r0_1 : rA R r0 1 = r0_1 := rA_e R_r0_1
  have z_r0_2 : rA R r0 2 = r0_2 := rA_e R_r0_2
  have z_r0_5 : rA R r0 5 = r0_5 := rA_e R_r0_5
  have z_r0_6 : rA R r0 6 = r0_6 := rA_e R_r0_6
  have z_r0_7 : rA R r0 7 = r0_7 := rA_e R_r0_7
  have z_r0_8 : rA R r0 8 = r0_8 := rA_e R_r0_8
  have z_r0_9 : rA R r0 9 = r0_9 := rA_e R_r0_9
  have z_r0_10 : rA R r0 10 = r0_10 := rA_e R_r0_10
  have z_r0_11 : rA R r0 11 = r0_11 := rA_e R_r0_11
  have z_r0_12 : rA R r0 12 = r0_12 := rA_e R_r0_12
  have z_r0_13 : rA R r0 13 = r0_13 := rA_e R_r0_13
  obtain ⟨T_r0_1, A_r0_1, B_r0_1, ⟨r0_1_6, R_r0_1_6, H_r0_1_6⟩, ⟨r0_1_7, R_r0_1_7, H_r0_1_7⟩, ⟨r0_1_8, R_r0_1_8, H_r0_1_8⟩, ⟨r0_1_9, R_r0_1_9, H_r0_1_9⟩, ⟨r0_1_10, R_r0_1_10, H_r0_1_10⟩⟩ := id H_r0_1
  have z_r0_1_6 : rA R r0_1 6 = r0_1_6 := rA_e R_r0_1_6
  have z_r0_1_7 : rA R r0_1 7 = r0_1_7 := rA_e R_r0_1_7
  have z_r0_1_8 : rA R r0_1 8 = r0_1_8 := rA_e R_r0_1_8
  have z_r0_1_9 : rA R r0_1 9 = r0_1_9 := rA_e R_r0_1_9
  have z_r0_1_10 : rA R r0_1 10 = r0_1_10 := rA_e R_r0_1_10
  obtain ⟨T_r0_6, A_r0_6, B_r0_6, ⟨r0_6_0, R_r0_6_0, H_r0_6_0⟩, ⟨r0_6_1, R_r0_6_1, H_r0_6_1⟩, ⟨r0_6_2, R_r0_6_2, H_r0_6_2⟩, ⟨r0_6_3, R_r0_6_3, H_r0_6_3⟩, ⟨r0_6_4, R_r0_6_4, H_r0_6_4⟩⟩ := id H_r0_6
  have z_r0_6_0 : rA R r0_6 0 = r0_6_0 := rA_e R_r0_6_0
  have z_r0_6_1 : rA R r0_6 1 = r0_6_1 := rA_e R_r0_6_1
  have z_r0_6_2 : rA R r0_6 2 = r0_6_2 := rA_e R_r0_6_2
  have z_r0_6_3 : rA R r0_6 3 = r0_6_3 := rA_e R_r0_6_3
  have z_r0_6_4 : rA R r0_6 4 = r0_6_4 := rA_e R_r0_6_4
  obtain ⟨T_r0_11, A_r0_11, B_r0_11, ⟨r0_11_1, R_r0_11_1, H_r0_11_1⟩⟩ := id H_r0_11
  have z_r0_11_1 : rA R r0_11 1 = r0_11_1 := rA_e R_r0_11_1
  obtain ⟨T_r0_11_1, N_r0_11_1, A_r0_11_1⟩ := id H_r0_11_1
  obtain ⟨T_r1, A_r1, ⟨r1_0, R_r1_0, H_r1_0⟩, ⟨r1_1, R_r1_1, H_r1_1⟩⟩ := id H_r1
  have z_r1_0 : rA R r1 0 = r1_0 := rA_e R_r1_0
  have z_r1_1 : rA R r1 1 = r1_1 := rA_e R_r1_1
  obtain ⟨T_r1_0, N_r1_0, A_r1_0⟩ := id H_r1_0
  obtain ⟨T_r1_1, N_r1_1, A_r1_1⟩ := id H_r1_1
  obtain ⟨T_r2, A_r2, ⟨r2_0, R_r2_0, H_r2_0⟩, ⟨r2_1, R_r2_1, H_r2_1⟩⟩ := id H_r2
  have z_r2_0 : rA R r2 0 = r2_0 := rA_e R_r2_0
  have z_r2_1 : rA R r2 1 = r2_1 := rA_e R_r2_1
  obtain ⟨T_r2_0, N_r2_0, A_r2_0⟩ := id H_r2_0
  obtain ⟨T_r2_1, N_r2_1, A_r2_1⟩ := id H_r2_1
  obtain ⟨T_r3, A_r3, ⟨r3_1, R_r3_1, H_r3_1⟩⟩ := id H_r3
  have z_r3_1 : rA R r3 1 = r3_1 := rA_e R_r3_1
  obtain ⟨T_r3_1, N_r3_1, A_r3_1⟩ := id H_r3_1
  have gK := GK.of hS H_r0_6
  try simp only [z_r0_0, z_r0_1, z_r0_2, z_r0_5, z_r0_6, z_r0_7, z_r0_8, z_r0_9, z_r0_10, z_r0_11, z_r0_12, z_r0_13, z_r0_1_6, z_r0_1_7, z_r0_1_8, z_r0_1_9, z_r0_1_10, z_r0_6_0, z_r0_6_1, z_r0_6_2, z_r0_6_3, z_r0_6_4, z_r0_11_1, z_r1_0, z_r1_1, z_r2_0, z_r2_1, z_r3_1] at hp0
  try simp only [z_r0_0, z_r0_1, z_r0_2, z_r0_5, z_r0_6, z_r0_7, z_r0_8, z_r0_9, z_r0_10, z_r0_11, z_r0_12, z_r0_13, z_r0_1_6, z_r0_1_7, z_r0_1_8, z_r0_1_9, z_r0_1_10, z_r0_6_0, z_r0_6_1, z_r0_6_2, z_r0_6_3, z_r0_6_4, z_r0_11_1, z_r1_0, z_r1_1, z_r2_0, z_r2_1, z_r3_1] at hp1
  try simp only [z_r0_0, z_r0_1, z_r0_2, z_r0_5, z_r0_6, z_r0_7, z_r0_8, z_r0_9, z_r0_10, z_r0_11, z_r0_12, z_r0_13, z_r0_1_6, z_r0_1_7, z_r0_1_8, z_r0_1_9, z_r0_1_10, z_r0_6_0, z_r0_6_1, z_r0_6_2, z_r0_6_3, z_r0_6_4, z_r0_11_1, z_r1_0, z_r1_1, z_r2_0, z_r2_1, z_r3_1] at hp2
  try simp only [z_r0_0, z_r0_1, z_r0_2, z_r0_5, z_r0_6, z_r0_7, z_r0_8, z_r0_9, z_r0_10, z_r0_11, z_r0_12, z_r0_13, z_r0_1_6, z_r0_1_7, z_r0_1_8, z_r0_1_9, z_r0_1_10, z_r0_6_0, z_r0_6_1, z_r0_6_2, z_r0_6_3, z_r0_6_4, z_r0_11_1, z_r1_0, z_r1_1, z_r2_0, z_r2_1, z_r3_1] at hp3
  try simp only [z_r0_0, z_r0_1, z_r0_2, z_r0_5, z_r0_6, z_r0_7, z_r0_8, z_r0_9, z_r0_10, z_r0_11, z_r0_12, z_r0_13, z_r0_1_6, z_r0_1_7, z_r0_1_8, z_r0_1_9, z_r0_1_10, z_r0_6_0, z_r0_6_1, z_r0_6_2, z_r0_6_3, z_r0_6_4, z_r0_11_1, z_r1_0, z_r1_1, z_r2_0, z_r2_1, z_r3_1] at hp4
  try simp only [z_r0_0, z_r0_1, z_r0_2, z_r0_5, z_r0_6, z_r0_7, z_r0_8, z_r0_9, z_r0_10, z_r0_11, z_r0_12, z_r0_13, z_r0_1_6, z_r0_1_7, z_r0_1_8, z_r0_1_9, z_r0_1_10, z_r0_6_0, z_r0_6_1, z_r0_6_2, z_r0_6_3, z_r0_6_4, z_r0_11_1, z_r1_0, z_r1_1, z_r2_0, z_r2_1, z_r3_1] at hp5
  have n2 := CSX.nt (a := r2) gK (by omega) (by omega) (by omega)
  have n9 := CSX.nt (a := r0_1) gK (by omega) (by omega) (by omega)
  have n20 := CSX.na hU gK T_r2_0 R_r2_0 (by omega)
  have n21 := CSX.na hU gK T_r2_1 R_r2_1 (by omega)
  have fW := FO.of (hs_GF hS H_r0_11)
  have nW := CSX.fo hU gK fW R_r0_11 (fun e => by have z9 := gK.2.1.2; rw [← e] at z9; omega) (by omega) (by omega)
  have q20 : r2_0 ≠ r0_11_1 := hU.ne (t20 T_r2_0) R_r2_0 R_r0_11_1 (Or.inl (t_nq T_r2 T_r0_11 (by decide)))
  have q21 : r2_1 ≠ r0_11_1 := hU.ne (t20 T_r2_1) R_r2_1 R_r0_11_1 (Or.inl (t_nq T_r2 T_r0_11 (by decide)))
  refine k_aload_n C rfl rfl rfl ?_
  refine g_R C rfl rfl rfl T_r0 rfl R_r0_6 ?_
  refine k_aload_n C rfl rfl rfl ?_
  refine k_aload_n C rfl rfl rfl ?_
  refine c_VR C (s_X1_valueOf_x hS hI H_r0_6 H_r1 H_r3 hU hp1.1 hp1.2 (by rw [z_r3_1]; exact hp3) (by rw [z_r3_1, z_r0_6_0, hp0]; exact hp4)) rfl rfl rfl rfl rfl ⟨_, rfl, rfl, T_r0_6, Nat.le_of_ble_eq_true rfl⟩ rfl rfl (Nat.le_of_ble_eq_true rfl) (Nat.le_of_ble_eq_true rfl) (Nat.le_of_ble_eq_true rfl) ?_
  rintro yy1 I2 L3 ⟨hyy1, p0yy1, hI2, S4⟩
  try simp only [z_r0_0, z_r0_1, z_r0_2, z_r0_5, z_r0_6, z_r0_7, z_r0_8, z_r0_9, z_r0_10, z_r0_11, z_r0_12, z_r0_13, z_r0_1_6, z_r0_1_7, z_r0_1_8, z_r0_1_9, z_r0_1_10, z_r0_6_0, z_r0_6_1, z_r0_6_2, z_r0_6_3, z_r0_6_4, z_r0_11_1, z_r1_0, z_r1_1, z_r2_0, z_r2_1, z_r3_1] at S4
  try simp only [z_r0_0, z_r0_1, z_r0_2, z_r0_5, z_r0_6, z_r0_7, z_r0_8, z_r0_9, z_r0_10, z_r0_11, z_r0_12, z_r0_13, z_r0_1_6, z_r0_1_7, z_r0_1_8, z_r0_1_9, z_r0_1_10, z_r0_6_0, z_r0_6_1, z_r0_6_2, z_r0_6_3, z_r0_6_4, z_r0_11_1, z_r1_0, z_r1_1, z_r2_0, z_r2_1, z_r3_1] at p0yy1
  have hv1 := p0yy1; (try simp only [z_r0_0, z_r0_1, z_r0_2, z_r0_5, z_r0_6, z_r0_7, z_r0_8, z_r0_9, z_r0_10, z_r0_11, z_r0_12, z_r0_13, z_r0_1_6, z_r0_1_7, z_r0_1_8, z_r0_1_9, z_r0_1_10, z_r0_6_0, z_r0_6_1, z_r0_6_2, z_r0_6_3, z_r0_6_4, z_r0_11_1, z_r1_0, z_r1_1, z_r2_0, z_r2_1, z_r3_1] at hv1); rw [hp0] at hv1; have hS1 := S4
  refine k_astoreV C (x := yy1) (lw := [(4, va_rf yy1), (0, .ref r0), (1, .ref r1), (2, .ref r2), (3, .ref r3)]) rfl rfl (Nat.le_of_ble_eq_true rfl) rfl ?_
  refine k_aloadV C (x := yy1) rfl rfl rfl ?_
  refine k_ifnull C (x := yy1) (t := 20) rfl rfl rfl (fun c5 => ?_) (fun rr6 c5 => ?_)
  · skip
    subst c5
    refine z_iconst C (z := 0) rfl rfl rfl (fun x7 ex7 => ?_)
    refine k_istore C (lw := [(5, .int x7), (4, va_rf none), (0, .ref r0), (1, .ref r1), (2, .ref r2), (3, .ref r3)]) rfl rfl (Nat.le_of_ble_eq_true rfl) rfl ?_
    refine k_aloadV C (x := none) rfl rfl rfl ?_
    refine k_ifnull C (x := none) (t := 37) rfl rfl rfl (fun _ => ?_) (fun _ c8 => nomatch c8)
    refine k_aload_n C rfl rfl rfl ?_
    refine g_R C rfl rfl rfl T_r0 rfl R_r0_6 ?_
    refine k_aload_n C rfl rfl rfl ?_
    refine k_aload_n C rfl rfl rfl ?_
    have hX : ∀ a, ¬ CSX R r0_6 a → a ≠ r0_11 → a ≠ r0_11_1 → I2 a = I a := (by first | exact fun a h1 h2 h3 => (Chg.at hS34 (nm_2 h2 h3)).trans (Chg.at hS1 h1) | exact fun a h1 _ _ => Chg.at hS1 h1); have qx2 := hX r2 n2 (t_nq T_r2 T_r0_11 (by decide)) (t_nq T_r2 T_r0_11_1 (by decide)); have qx9 := hX r0_1 n9 (t_nq T_r0_1 T_r0_11 (by decide)) (t_nq T_r0_1 T_r0_11_1 (by decide)); have qx20 := hX r2_0 n20 (t_nq T_r2_0 T_r0_11 (by decide)) q20; have qx21 := hX r2_1 n21 (t_nq T_r2_1 T_r0_11 (by decide)) q21; have qx3 := hX r3 hp3.1 hp5.1 (t_nq T_r3 T_r0_11_1 (by decide)); have qx31 := hX r3_1 hp3.2 (t_nq T_r3_1 T_r0_11 (by decide)) hp5.2; have qxS := STL.fr z_r2_0 z_r2_1 (congrFun qx2 2) qx20 qx21; have qxN : NF I2 r3_1 = NF I r3_1 := (by unfold NF; rw [qx31])
    refine c_VR C (s_X1_valueOf_x hS hI2 H_r0_6 H_r2 H_r3 hU (by rw [qx2]; exact hp2.1) (by rw [qxS]; exact hp2.2) (by rw [z_r3_1]; exact hp3) (by rw [z_r3_1, z_r0_6_0, hp0, qx3, qx9]; exact fun j hj => by rw [qx31]; exact hp4 j hj)) rfl rfl rfl rfl rfl ⟨_, rfl, rfl, T_r0_6, Nat.le_of_ble_eq_true rfl⟩ rfl rfl (Nat.le_of_ble_eq_true rfl) (Nat.le_of_ble_eq_true rfl) (Nat.le_of_ble_eq_true rfl) ?_
    rintro yy10 I11 L12 ⟨hyy10, p0yy10, hI11, S13⟩
    try simp only [z_r0_0, z_r0_1, z_r0_2, z_r0_5, z_r0_6, z_r0_7, z_r0_8, z_r0_9, z_r0_10, z_r0_11, z_r0_12, z_r0_13, z_r0_1_6, z_r0_1_7, z_r0_1_8, z_r0_1_9, z_r0_1_10, z_r0_6_0, z_r0_6_1, z_r0_6_2, z_r0_6_3, z_r0_6_4, z_r0_11_1, z_r1_0, z_r1_1, z_r2_0, z_r2_1, z_r3_1] at S13
    try simp only [z_r0_0, z_r0_1, z_r0_2, z_r0_5, z_r0_6, z_r0_7, z_r0_8, z_r0_9, z_r0_10, z_r0_11, z_r0_12, z_r0_13, z_r0_1_6, z_r0_1_7, z_r0_1_8, z_r0_1_9, z_r0_1_10, z_r0_6_0, z_r0_6_1, z_r0_6_2, z_r0_6_3, z_r0_6_4, z_r0_11_1, z_r1_0, z_r1_1, z_r2_0, z_r2_1, z_r3_1] at p0yy10
    have hv2 := p0yy10; (try simp only [z_r0_0, z_r0_1, z_r0_2, z_r0_5, z_r0_6, z_r0_7, z_r0_8, z_r0_9, z_r0_10, z_r0_11, z_r0_12, z_r0_13, z_r0_1_6, z_r0_1_7, z_r0_1_8, z_r0_1_9, z_r0_1_10, z_r0_6_0, z_r0_6_1, z_r0_6_2, z_r0_6_3, z_r0_6_4, z_r0_11_1, z_r1_0, z_r1_1, z_r2_0, z_r2_1, z_r3_1] at hv2); rw [hp0, qx9, qx3, qxN, qxS] at hv2; have hS2 := S13
    refine k_astoreV C (x := yy10) (lw := [(6, va_rf yy10), (5, .int x7), (4, va_rf none), (0, .ref r0), (1, .ref r1), (2, .ref r2), (3, .ref r3)]) rfl rfl (Nat.le_of_ble_eq_true rfl) rfl ?_
    refine k_aloadV C (x := yy10) rfl rfl rfl ?_
    refine k_ifnonnull C (x := yy10) (t := 64) rfl rfl rfl (fun c14 => ?_) (fun rr15 c14 => ?_)
    · skip
      subst c14
      refine k_iload C rfl rfl rfl ?_
      refine b_if_ne C (t := 62) rfl rfl rfl (fun c16 => by exfalso; omega) (fun c16 => ?_)
      refine z_iconst C (z := 1) rfl rfl rfl (fun x17 ex17 => ?_)
      refine k_goto C (pc2 := 63) rfl rfl ?_
      exact k_iret C rfl (Or.inr ⟨rfl, z01 (by omega) (by omega)⟩) (Nat.le_of_ble_eq_true rfl) (Nat.le_of_ble_eq_true rfl) ⟨_, _, _, rfl, rfl, by omega, by omega, by (try simp only [z_r0_0, z_r0_1, z_r0_2, z_r0_5, z_r0_6, z_r0_7, z_r0_8, z_r0_9, z_r0_10, z_r0_11, z_r0_12, z_r0_13, z_r0_1_6, z_r0_1_7, z_r0_1_8, z_r0_1_9, z_r0_1_10, z_r0_6_0, z_r0_6_1, z_r0_6_2, z_r0_6_3, z_r0_6_4, z_r0_11_1, z_r1_0, z_r1_1, z_r2_0, z_r2_1, z_r3_1]); first | exact OV.nn hv1 hv2 (by omega) | exact OV.sn hv1 hv2 (by omega), hI11, (by (try simp only [z_r0_0, z_r0_1, z_r0_2, z_r0_5, z_r0_6, z_r0_7, z_r0_8, z_r0_9, z_r0_10, z_r0_11, z_r0_12, z_r0_13, z_r0_1_6, z_r0_1_7, z_r0_1_8, z_r0_1_9, z_r0_1_10, z_r0_6_0, z_r0_6_1, z_r0_6_2, z_r0_6_3, z_r0_6_4, z_r0_11_1, z_r1_0, z_r1_1, z_r2_0, z_r2_1, z_r3_1]); exact (Chg.cons (Chg.up S4 (fun _ h => Or.inl h)) (Chg.mono (Chg.up S13 (fun _ h => Or.inl h)) (by decide)) (by decide)))⟩
    subst c14
    have H_rr15 := hyy10 rr15 rfl
    refine k_iload C rfl rfl rfl ?_
    refine b_if_eq C (t := 85) rfl rfl rfl (fun c18 => ?_) (fun c18 => by exfalso; omega)
    refine z_iconst C (z := 0) rfl rfl rfl (fun x19 ex19 => ?_)
    exact k_iret C rfl (Or.inr ⟨rfl, z01 (by omega) (by omega)⟩) (Nat.le_of_ble_eq_true rfl) (Nat.le_of_ble_eq_true rfl) ⟨_, _, _, rfl, rfl, by omega, by omega, by (try simp only [z_r0_0, z_r0_1, z_r0_2, z_r0_5, z_r0_6, z_r0_7, z_r0_8, z_r0_9, z_r0_10, z_r0_11, z_r0_12, z_r0_13, z_r0_1_6, z_r0_1_7, z_r0_1_8, z_r0_1_9, z_r0_1_10, z_r0_6_0, z_r0_6_1, z_r0_6_2, z_r0_6_3, z_r0_6_4, z_r0_11_1, z_r1_0, z_r1_1, z_r2_0, z_r2_1, z_r3_1]); first | exact OV.ns hv1 hv2 (by omega) | exact OV.ss hv1 hv2 hcp (Chg.at hS2 nW.1) (Chg.at hS2 nW.2) hmt (by omega), hI11, (by (try simp only [z_r0_0, z_r0_1, z_r0_2, z_r0_5, z_r0_6, z_r0_7, z_r0_8, z_r0_9, z_r0_10, z_r0_11, z_r0_12, z_r0_13, z_r0_1_6, z_r0_1_7, z_r0_1_8, z_r0_1_9, z_r0_1_10, z_r0_6_0, z_r0_6_1, z_r0_6_2, z_r0_6_3, z_r0_6_4, z_r0_11_1, z_r1_0, z_r1_1, z_r2_0, z_r2_1, z_r3_1]); exact (Chg.cons (Chg.up S4 (fun _ h => Or.inl h)) (Chg.mono (Chg.up S13 (fun _ h => Or.inl h)) (by decide)) (by decide)))⟩
  subst c5
  have H_rr6 := hyy1 rr6 rfl
  have bV := VPO.b hv1; have fV := FO.of (hs_GF hS H_rr6); have mV : r0_11 ≠ rr6 := (fun e => nW.1 (CSX.f (j := 0) (by decide) (bV.trans e.symm)))
  refine z_iconst C (z := 1) rfl rfl rfl (fun x20 ex20 => ?_)
  refine k_goto C (pc2 := 21) rfl rfl ?_
  refine k_istore C (lw := [(5, .int x20), (4, .ref rr6), (0, .ref r0), (1, .ref r1), (2, .ref r2), (3, .ref r3)]) rfl rfl (Nat.le_of_ble_eq_true rfl) rfl ?_
  refine k_aload C rfl rfl rfl ?_
  refine k_ifnull C (x := some _) (t := 37) rfl rfl rfl (fun c21 => nomatch c21) (fun _ _ => ?_)
  refine k_aload_n C rfl rfl rfl ?_
  refine g_R C rfl rfl rfl T_r0 rfl R_r0_11 ?_
  refine k_aload C rfl rfl rfl ?_
  obtain ⟨T_rr6, A_rr6, B_rr6, ⟨rr6_1, R_rr6_1, H_rr6_1⟩⟩ := id H_rr6
  have z_rr6_1 : rA R rr6 1 = rr6_1 := rA_e R_rr6_1
  refine c_VV C (s_X2_copyFrom_x hS hI2 (hs_GF hS H_r0_11) (hs_GF hS H_rr6) mV (obneq hU fW fV mV)) rfl rfl rfl rfl rfl ⟨_, rfl, rfl, T_r0_11, Nat.le_of_ble_eq_true rfl⟩ rfl rfl (Nat.le_of_ble_eq_true rfl) (Nat.le_of_ble_eq_true rfl) (Nat.le_of_ble_eq_true rfl) ?_
  rintro I24 L25 ⟨p0v23, hI24, S26⟩
  try simp only [z_r0_0, z_r0_1, z_r0_2, z_r0_5, z_r0_6, z_r0_7, z_r0_8, z_r0_9, z_r0_10, z_r0_11, z_r0_12, z_r0_13, z_r0_1_6, z_r0_1_7, z_r0_1_8, z_r0_1_9, z_r0_1_10, z_r0_6_0, z_r0_6_1, z_r0_6_2, z_r0_6_3, z_r0_6_4, z_r0_11_1, z_r1_0, z_r1_1, z_r2_0, z_r2_1, z_r3_1, z_rr6_1] at S26
  obtain ⟨x27, e28⟩ : ∃ x, I24 r0_11 0 = x := ⟨_, rfl⟩
  have gx27 := rg x27
  have ox27 := IX.deg hI24 A_r0_11 T_r0_11 e28
  try simp only [z_r0_0, z_r0_1, z_r0_2, z_r0_5, z_r0_6, z_r0_7, z_r0_8, z_r0_9, z_r0_10, z_r0_11, z_r0_12, z_r0_13, z_r0_1_6, z_r0_1_7, z_r0_1_8, z_r0_1_9, z_r0_1_10, z_r0_6_0, z_r0_6_1, z_r0_6_2, z_r0_6_3, z_r0_6_4, z_r0_11_1, z_r1_0, z_r1_1, z_r2_0, z_r2_1, z_r3_1, z_rr6_1] at p0v23
  try simp only [e28] at p0v23
  try have q0v23 := congrArg Int32.toInt p0v23
  have hcp := p0v23; have hS34 := S26
  refine k_aload_n C rfl rfl rfl ?_
  refine g_R C rfl rfl rfl T_r0 rfl R_r0_6 ?_
  refine k_aload_n C rfl rfl rfl ?_
  refine k_aload_n C rfl rfl rfl ?_
  have hX : ∀ a, ¬ CSX R r0_6 a → a ≠ r0_11 → a ≠ r0_11_1 → I24 a = I a := (by first | exact fun a h1 h2 h3 => (Chg.at hS34 (nm_2 h2 h3)).trans (Chg.at hS1 h1) | exact fun a h1 _ _ => Chg.at hS1 h1); have qx2 := hX r2 n2 (t_nq T_r2 T_r0_11 (by decide)) (t_nq T_r2 T_r0_11_1 (by decide)); have qx9 := hX r0_1 n9 (t_nq T_r0_1 T_r0_11 (by decide)) (t_nq T_r0_1 T_r0_11_1 (by decide)); have qx20 := hX r2_0 n20 (t_nq T_r2_0 T_r0_11 (by decide)) q20; have qx21 := hX r2_1 n21 (t_nq T_r2_1 T_r0_11 (by decide)) q21; have qx3 := hX r3 hp3.1 hp5.1 (t_nq T_r3 T_r0_11_1 (by decide)); have qx31 := hX r3_1 hp3.2 (t_nq T_r3_1 T_r0_11 (by decide)) hp5.2; have qxS := STL.fr z_r2_0 z_r2_1 (congrFun qx2 2) qx20 qx21; have qxN : NF I24 r3_1 = NF I r3_1 := (by unfold NF; rw [qx31])
  refine c_VR C (s_X1_valueOf_x hS hI24 H_r0_6 H_r2 H_r3 hU (by rw [qx2]; exact hp2.1) (by rw [qxS]; exact hp2.2) (by rw [z_r3_1]; exact hp3) (by rw [z_r3_1, z_r0_6_0, hp0, qx3, qx9]; exact fun j hj => by rw [qx31]; exact hp4 j hj)) rfl rfl rfl rfl rfl ⟨_, rfl, rfl, T_r0_6, Nat.le_of_ble_eq_true rfl⟩ rfl rfl (Nat.le_of_ble_eq_true rfl) (Nat.le_of_ble_eq_true rfl) (Nat.le_of_ble_eq_true rfl) ?_
  rintro yy29 I30 L31 ⟨hyy29, p0yy29, hI30, S32⟩
  try simp only [z_r0_0, z_r0_1, z_r0_2, z_r0_5, z_r0_6, z_r0_7, z_r0_8, z_r0_9, z_r0_10, z_r0_11, z_r0_12, z_r0_13, z_r0_1_6, z_r0_1_7, z_r0_1_8, z_r0_1_9, z_r0_1_10, z_r0_6_0, z_r0_6_1, z_r0_6_2, z_r0_6_3, z_r0_6_4, z_r0_11_1, z_r1_0, z_r1_1, z_r2_0, z_r2_1, z_r3_1, z_rr6_1] at S32
  try simp only [z_r0_0, z_r0_1, z_r0_2, z_r0_5, z_r0_6, z_r0_7, z_r0_8, z_r0_9, z_r0_10, z_r0_11, z_r0_12, z_r0_13, z_r0_1_6, z_r0_1_7, z_r0_1_8, z_r0_1_9, z_r0_1_10, z_r0_6_0, z_r0_6_1, z_r0_6_2, z_r0_6_3, z_r0_6_4, z_r0_11_1, z_r1_0, z_r1_1, z_r2_0, z_r2_1, z_r3_1, z_rr6_1] at p0yy29
  try simp only [e28] at p0yy29
  try have q0yy29 := congrArg Int32.toInt p0yy29
  have hv2 := p0yy29; (try simp only [z_r0_0, z_r0_1, z_r0_2, z_r0_5, z_r0_6, z_r0_7, z_r0_8, z_r0_9, z_r0_10, z_r0_11, z_r0_12, z_r0_13, z_r0_1_6, z_r0_1_7, z_r0_1_8, z_r0_1_9, z_r0_1_10, z_r0_6_0, z_r0_6_1, z_r0_6_2, z_r0_6_3, z_r0_6_4, z_r0_11_1, z_r1_0, z_r1_1, z_r2_0, z_r2_1, z_r3_1, z_rr6_1] at hv2); rw [hp0, qx9, qx3, qxN, qxS] at hv2; have hS2 := S32
  refine k_astoreV C (x := yy29) (lw := [(6, va_rf yy29), (5, .int x20), (4, .ref rr6), (0, .ref r0), (1, .ref r1), (2, .ref r2), (3, .ref r3)]) rfl rfl (Nat.le_of_ble_eq_true rfl) rfl ?_
  refine k_aloadV C (x := yy29) rfl rfl rfl ?_
  refine k_ifnonnull C (x := yy29) (t := 64) rfl rfl rfl (fun c33 => ?_) (fun rr34 c33 => ?_)
  · skip
    subst c33
    refine k_iload C rfl rfl rfl ?_
    refine b_if_ne C (t := 62) rfl rfl rfl (fun c35 => ?_) (fun c35 => by exfalso; omega)
    refine z_iconst C (z := 0) rfl rfl rfl (fun x36 ex36 => ?_)
    exact k_iret C rfl (Or.inr ⟨rfl, z01 (by omega) (by omega)⟩) (Nat.le_of_ble_eq_true rfl) (Nat.le_of_ble_eq_true rfl) ⟨_, _, _, rfl, rfl, by omega, by omega, by (try simp only [z_r0_0, z_r0_1, z_r0_2, z_r0_5, z_r0_6, z_r0_7, z_r0_8, z_r0_9, z_r0_10, z_r0_11, z_r0_12, z_r0_13, z_r0_1_6, z_r0_1_7, z_r0_1_8, z_r0_1_9, z_r0_1_10, z_r0_6_0, z_r0_6_1, z_r0_6_2, z_r0_6_3, z_r0_6_4, z_r0_11_1, z_r1_0, z_r1_1, z_r2_0, z_r2_1, z_r3_1, z_rr6_1]); first | exact OV.nn hv1 hv2 (by omega) | exact OV.sn hv1 hv2 (by omega), hI30, (by (try simp only [z_r0_0, z_r0_1, z_r0_2, z_r0_5, z_r0_6, z_r0_7, z_r0_8, z_r0_9, z_r0_10, z_r0_11, z_r0_12, z_r0_13, z_r0_1_6, z_r0_1_7, z_r0_1_8, z_r0_1_9, z_r0_1_10, z_r0_6_0, z_r0_6_1, z_r0_6_2, z_r0_6_3, z_r0_6_4, z_r0_11_1, z_r1_0, z_r1_1, z_r2_0, z_r2_1, z_r3_1, z_rr6_1]); exact (Chg.cons (Chg.up S4 (fun _ h => Or.inl h)) (Chg.cons (Chg.up S26 (sl_2 (Or.inr (Or.inl rfl)) (Or.inr (Or.inr rfl)))) (Chg.mono (Chg.up S32 (fun _ h => Or.inl h)) (by decide)) (by decide)) (by decide)))⟩
  subst c33
  have H_rr34 := hyy29 rr34 rfl
  refine k_iload C rfl rfl rfl ?_
  refine b_if_eq C (t := 85) rfl rfl rfl (fun c37 => by exfalso; omega) (fun c37 => ?_)
  refine k_aload_n C rfl rfl rfl ?_
  refine g_R C rfl rfl rfl T_r0 rfl R_r0_11 ?_
  refine k_aload C rfl rfl rfl ?_
  obtain ⟨T_rr34, A_rr34, B_rr34, ⟨rr34_1, R_rr34_1, H_rr34_1⟩⟩ := id H_rr34
  have z_rr34_1 : rA R rr34 1 = rr34_1 := rA_e R_rr34_1
  refine c_VI C (s_X2_matches_x hS hI30 (hs_GF hS H_r0_11) (hs_GF hS H_rr34)) rfl rfl rfl rfl rfl ⟨_, rfl, rfl, T_r0_11, Nat.le_of_ble_eq_true rfl⟩ rfl rfl (Nat.le_of_ble_eq_true rfl) (Nat.le_of_ble_eq_true rfl) (Nat.le_of_ble_eq_true rfl) ?_
  rintro x38 _ _ ⟨o0x38, o1x38, p0x38, rfl, rfl⟩
  have gx38 := rg x38
  try simp only [z_r0_0, z_r0_1, z_r0_2, z_r0_5, z_r0_6, z_r0_7, z_r0_8, z_r0_9, z_r0_10, z_r0_11, z_r0_12, z_r0_13, z_r0_1_6, z_r0_1_7, z_r0_1_8, z_r0_1_9, z_r0_1_10, z_r0_6_0, z_r0_6_1, z_r0_6_2, z_r0_6_3, z_r0_6_4, z_r0_11_1, z_r1_0, z_r1_1, z_r2_0, z_r2_1, z_r3_1, z_rr6_1, z_rr34_1] at p0x38
  have hmt := p0x38
  refine b_if_eq C (t := 85) rfl rfl rfl (fun c39 => ?_) (fun c39 => ?_)
  · skip
    refine z_iconst C (z := 0) rfl rfl rfl (fun x40 ex40 => ?_)
    exact k_iret C rfl (Or.inr ⟨rfl, z01 (by omega) (by omega)⟩) (Nat.le_of_ble_eq_true rfl) (Nat.le_of_ble_eq_true rfl) ⟨_, _, _, rfl, rfl, by omega, by omega, by (try simp only [z_r0_0, z_r0_1, z_r0_2, z_r0_5, z_r0_6, z_r0_7, z_r0_8, z_r0_9, z_r0_10, z_r0_11, z_r0_12, z_r0_13, z_r0_1_6, z_r0_1_7, z_r0_1_8, z_r0_1_9, z_r0_1_10, z_r0_6_0, z_r0_6_1, z_r0_6_2, z_r0_6_3, z_r0_6_4, z_r0_11_1, z_r1_0, z_r1_1, z_r2_0, z_r2_1, z_r3_1, z_rr6_1, z_rr34_1]); first | exact OV.ns hv1 hv2 (by omega) | exact OV.ss hv1 hv2 hcp (Chg.at hS2 nW.1) (Chg.at hS2 nW.2) hmt (by omega), hI30, (by (try simp only [z_r0_0, z_r0_1, z_r0_2, z_r0_5, z_r0_6, z_r0_7, z_r0_8, z_r0_9, z_r0_10, z_r0_11, z_r0_12, z_r0_13, z_r0_1_6, z_r0_1_7, z_r0_1_8, z_r0_1_9, z_r0_1_10, z_r0_6_0, z_r0_6_1, z_r0_6_2, z_r0_6_3, z_r0_6_4, z_r0_11_1, z_r1_0, z_r1_1, z_r2_0, z_r2_1, z_r3_1, z_rr6_1, z_rr34_1]); exact (Chg.cons (Chg.up S4 (fun _ h => Or.inl h)) (Chg.cons (Chg.up S26 (sl_2 (Or.inr (Or.inl rfl)) (Or.inr (Or.inr rfl)))) (Chg.mono (Chg.up S32 (fun _ h => Or.inl h)) (by decide)) (by decide)) (by decide)))⟩
  refine z_iconst C (z := 1) rfl rfl rfl (fun x41 ex41 => ?_)
  refine k_goto C (pc2 := 86) rfl rfl ?_
  exact k_iret C rfl (Or.inr ⟨rfl, z01 (by omega) (by omega)⟩) (Nat.le_of_ble_eq_true rfl) (Nat.le_of_ble_eq_true rfl) ⟨_, _, _, rfl, rfl, by omega, by omega, by (try simp only [z_r0_0, z_r0_1, z_r0_2, z_r0_5, z_r0_6, z_r0_7, z_r0_8, z_r0_9, z_r0_10, z_r0_11, z_r0_12, z_r0_13, z_r0_1_6, z_r0_1_7, z_r0_1_8, z_r0_1_9, z_r0_1_10, z_r0_6_0, z_r0_6_1, z_r0_6_2, z_r0_6_3, z_r0_6_4, z_r0_11_1, z_r1_0, z_r1_1, z_r2_0, z_r2_1, z_r3_1, z_rr6_1, z_rr34_1]); first | exact OV.ns hv1 hv2 (by omega) | exact OV.ss hv1 hv2 hcp (Chg.at hS2 nW.1) (Chg.at hS2 nW.2) hmt (by omega), hI30, (by (try simp only [z_r0_0, z_r0_1, z_r0_2, z_r0_5, z_r0_6, z_r0_7, z_r0_8, z_r0_9, z_r0_10, z_r0_11, z_r0_12, z_r0_13, z_r0_1_6, z_r0_1_7, z_r0_1_8, z_r0_1_9, z_r0_1_10, z_r0_6_0, z_r0_6_1, z_r0_6_2, z_r0_6_3, z_r0_6_4, z_r0_11_1, z_r1_0, z_r1_1, z_r2_0, z_r2_1, z_r3_1, z_rr6_1, z_rr34_1]); exact (Chg.cons (Chg.up S4 (fun _ h => Or.inl h)) (Chg.cons (Chg.up S26 (sl_2 (Or.inr (Or.inl rfl)) (Or.inr (Or.inr rfl)))) (Chg.mono (Chg.up S32 (fun _ h => Or.inl h)) (by decide)) (by decide)) (by decide)))⟩

theorem s_X11_agree_x {d : Nat} {T N : Nat → Nat} {I : IT} {L : LT} {R : RT} {A B : Nat → Prop} {r0 : Nat} {n1 n2 n3 : Int32} (hS : SUB B A) (hI : IX A T I) (H_r0 : (hs_LF T N R A B) r0) (hU : UPR T R) (hp0 : rA R (rA R (rA R r0 6) 0) 0 = (rA R r0 1)) (hp1 : ∀ j : Nat, (j : Int) < (I (rA R r0 1) 1).toInt → BNX I (rA R (FA R (rA R r0 1) j) 1) (I (FA R (rA R r0 1) j) 0).toInt (I (rA R r0 1) 0).toInt) (hp2 : ∀ j : Nat, j < 8 → (j : Int) < (I (rA R r0 1) 3).toInt → (0 ≤ (I (SA R (rA R r0 1) j) 2).toInt ∧ (I (SA R (rA R r0 1) j) 2).toInt ≤ 160) ∧ HOV (STL R I (SA R (rA R r0 1) j)) 0) (hp3 : 0 ≤ (I (rA R r0 1) 1).toInt ∧ (I (rA R r0 1) 1).toInt ≤ 16) : Ex (d + 8) 150 [.ref r0, .int n1, .int n2, .int n3] (T, N, I, L, R) 3 18 (pW2 [0, 3] T N R (pI T N R (fun x9 I9 L9 => (-1 ≤ x9.toInt) ∧ (x9.toInt ≤ 2147483646) ∧ (¬ ((n1.toInt < 0 ∨ (I (rA R r0 1) 3).toInt ≤ n1.toInt ∨ 8 ≤ n1.toInt) ∨ (n2.toInt < 0 ∨ (I (rA R r0 1) 3).toInt ≤ n2.toInt ∨ 8 ≤ n2.toInt))) ∧ (0 ≤ n3.toInt ∧ n3.toInt ≤ 8) ∧ (AGQ (AGP R I (rA R r0 1) (I (rA R r0 1) 0).toInt n3.toInt (STL R I (SA R (rA R r0 1) n1.toNatClampNeg)) (STL R I (SA R (rA R r0 1) n2.toNatClampNeg))) (I (rA R r0 1) 1).toInt x9.toInt) ∧ (IX A T I9 ∧ Chg B T [(2, 5), (3, 0)] I L I9 L9))) (fun e9 I9 L9 => (IX A T I9 ∧ Chg B T [(2, 5), (3, 0)] I L I9 L9) ∧ (e9 = 0 → ¬ ((n1.toInt < 0 ∨ (I (rA R r0 1) 3).toInt ≤ n1.toInt ∨ 8 ≤ n1.toInt) ∨ (n2.toInt < 0 ∨ (I (rA R r0 1) 3).toInt ≤ n2.toInt ∨ 8 ≤ n2.toInt))) ∧ (e9 = 0 → n3.toInt < 0 ∨ 8 < n3.toInt) ∧ (e9 = 3 → (n1.toInt < 0 ∨ (I (rA R r0 1) 3).toInt ≤ n1.toInt ∨ 8 ≤ n1.toInt) ∨ (n2.toInt < 0 ∨ (I (rA R r0 1) 3).toInt ≤ n2.toInt ∨ 8 ≤ n2.toInt)))) := by
  refine ⟨_, rfl, Nat.le_of_ble_eq_true rfl, fun V C S => ?_⟩
  show V 0 [(0, .ref r0), (1, .int n1), (2, .int n2), (3, .int n3)] [] (T, N, I, L, R) 0 0
  have gn1 := rg n1
  have gn2 := rg n2
  have gn3 := rg n3
  obtain ⟨T_r0, A_r0, B_r0, ⟨r0_0, R_r0_0, H_r0_0⟩, ⟨r0_1, R_r0_1, H_r0_1⟩, ⟨r0_2, R_r0_2, H_r0_2⟩, ⟨r0_5, R_r0_5, H_r0_5⟩, ⟨r0_6, R_r0_6, H_r0_6⟩, ⟨r0_7, R_r0_7, H_r0_7⟩, ⟨r0_8, R_r0_8, H_r0_8⟩, ⟨r0_9, R_r0_9, H_r0_9⟩, ⟨r0_10, R_r0_10, H_r0_10⟩, ⟨r0_11, R_r0_11, H_r0_11⟩, ⟨r0_12, R_r0_12, H_r0_12⟩, ⟨r0_13, R_r0_13, H_r0_13⟩⟩ := id H_r0
  have z_r0_0 : rA R r0 0 = r0_0 := rA_e R_r0_0
  have z_r0_1 : rA R r0 1 = r0_1 := rA_e R_r0_1
  have z_r0_2 : rA R r0 2 = r0_2 := rA_e R_r0_2
  have z_r0_5 : rA R r0 5 = r0_5 := rA_e R_r0_5
  have z_r0_6 : rA R r0 6 = r0_6 := rA_e R_r0_6
  have z_r0_7 : rA R r0 7 = r0_7 := rA_e R_r0_7
  have z_r0_8 : rA R r0 8 = r0_8 := rA_e R_r0_8
  have z_r0_9 : rA R r0 9 = r0_9 := rA_e R_r0_9
  have z_r0_10 : rA R r0 10 = r0_10 := rA_e R_r0_10
  have z_r0_11 : rA R r0 11 = r0_11 := rA_e R_r0_11
  have z_r0_12 : rA R r0 12 = r0_12 := rA_e R_r0_12
  have z_r0_13 : rA R r0 13 = r0_13 := rA_e R_r0_13
  obtain ⟨T_r0_1, A_r0_1, B_r0_1, ⟨r0_1_6, R_r0_1_6, H_r0_1_6⟩, ⟨r0_1_7, R_r0_1_7, H_r0_1_7⟩, ⟨r0_1_8, R_r0_1_8, H_r0_1_8⟩, ⟨r0_1_9, R_r0_1_9, H_r0_1_9⟩, ⟨r0_1_10, R_r0_1_10, H_r0_1_10⟩⟩ := id H_r0_1
  have z_r0_1_6 : rA R r0_1 6 = r0_1_6 := rA_e R_r0_1_6
  have z_r0_1_7 : rA R r0_1 7 = r0_1_7 := rA_e R_r0_1_7
  have z_r0_1_8 : rA R r0_1 8 = r0_1_8 := rA_e R_r0_1_8
  have z_r0_1_9 : rA R r0_1 9 = r0_1_9 := rA_e R_r0_1_9
  have z_r0_1_10 : rA R r0_1 10 = r0_1_10 := rA_e R_r0_1_10
  obtain ⟨T_r0_1_8, N_r0_1_8, A_r0_1_8, E_r0_1_8⟩ := id H_r0_1_8
  obtain ⟨T_r0_1_10, N_r0_1_10, A_r0_1_10, E_r0_1_10⟩ := id H_r0_1_10
  obtain ⟨T_r0_6, A_r0_6, B_r0_6, ⟨r0_6_0, R_r0_6_0, H_r0_6_0⟩, ⟨r0_6_1, R_r0_6_1, H_r0_6_1⟩, ⟨r0_6_2, R_r0_6_2, H_r0_6_2⟩, ⟨r0_6_3, R_r0_6_3, H_r0_6_3⟩, ⟨r0_6_4, R_r0_6_4, H_r0_6_4⟩⟩ := id H_r0_6
  have z_r0_6_0 : rA R r0_6 0 = r0_6_0 := rA_e R_r0_6_0
  have z_r0_6_1 : rA R r0_6 1 = r0_6_1 := rA_e R_r0_6_1
  have z_r0_6_2 : rA R r0_6 2 = r0_6_2 := rA_e R_r0_6_2
  have z_r0_6_3 : rA R r0_6 3 = r0_6_3 := rA_e R_r0_6_3
  have z_r0_6_4 : rA R r0_6 4 = r0_6_4 := rA_e R_r0_6_4
  obtain ⟨T_r0_11, A_r0_11, B_r0_11, ⟨r0_11_1, R_r0_11_1, H_r0_11_1⟩⟩ := id H_r0_11
  have z_r0_11_1 : rA R r0_11 1 = r0_11_1 := rA_e R_r0_11_1
  obtain ⟨T_r0_11_1, N_r0_11_1, A_r0_11_1⟩ := id H_r0_11_1
  have hG := GS.of H_r0_1
  have hg := GG.of H_r0_1
  have gK := GK.of hS H_r0_6
  have hWB : ∀ a, (CSX R r0_6 a ∨ a = r0_11 ∨ a = r0_11_1) → B a := fun a h => h.elim (CSX.b H_r0_6 a) (fun h => h.elim (fun e => by rw [e]; exact (hs_GB H_r0_11).1) (fun e => by rw [e, ← z_r0_11_1]; exact (hs_GB H_r0_11).2))
  try simp only [z_r0_0, z_r0_1, z_r0_2, z_r0_5, z_r0_6, z_r0_7, z_r0_8, z_r0_9, z_r0_10, z_r0_11, z_r0_12, z_r0_13, z_r0_1_6, z_r0_1_7, z_r0_1_8, z_r0_1_9, z_r0_1_10, z_r0_6_0, z_r0_6_1, z_r0_6_2, z_r0_6_3, z_r0_6_4, z_r0_11_1] at hp0
  try simp only [z_r0_0, z_r0_1, z_r0_2, z_r0_5, z_r0_6, z_r0_7, z_r0_8, z_r0_9, z_r0_10, z_r0_11, z_r0_12, z_r0_13, z_r0_1_6, z_r0_1_7, z_r0_1_8, z_r0_1_9, z_r0_1_10, z_r0_6_0, z_r0_6_1, z_r0_6_2, z_r0_6_3, z_r0_6_4, z_r0_11_1] at hp1
  try simp only [z_r0_0, z_r0_1, z_r0_2, z_r0_5, z_r0_6, z_r0_7, z_r0_8, z_r0_9, z_r0_10, z_r0_11, z_r0_12, z_r0_13, z_r0_1_6, z_r0_1_7, z_r0_1_8, z_r0_1_9, z_r0_1_10, z_r0_6_0, z_r0_6_1, z_r0_6_2, z_r0_6_3, z_r0_6_4, z_r0_11_1] at hp2
  try simp only [z_r0_0, z_r0_1, z_r0_2, z_r0_5, z_r0_6, z_r0_7, z_r0_8, z_r0_9, z_r0_10, z_r0_11, z_r0_12, z_r0_13, z_r0_1_6, z_r0_1_7, z_r0_1_8, z_r0_1_9, z_r0_1_10, z_r0_6_0, z_r0_6_1, z_r0_6_2, z_r0_6_3, z_r0_6_4, z_r0_11_1] at hp3
  obtain ⟨w_r0_1_0, k0_r0_1_0⟩ : ∃ x, I r0_1 0 = x := ⟨_, rfl⟩
  have gw_r0_1_0 := rg w_r0_1_0
  have ow_r0_1_0 := IX.p hI A_r0_1 T_r0_1 k0_r0_1_0
  obtain ⟨w_r0_1_1, k0_r0_1_1⟩ : ∃ x, I r0_1 1 = x := ⟨_, rfl⟩
  have gw_r0_1_1 := rg w_r0_1_1
  try simp only [k0_r0_1_0, k0_r0_1_1] at hp0
  try simp only [k0_r0_1_0, k0_r0_1_1] at hp1
  try simp only [k0_r0_1_0, k0_r0_1_1] at hp2
  try simp only [k0_r0_1_0, k0_r0_1_1] at hp3
  refine k_aload_n C rfl rfl rfl ?_
  refine k_iload_n C rfl rfl rfl ?_
  refine w2_VR C (s_X11_toldSigns_x hS hI H_r0) rfl rfl rfl rfl rfl ⟨_, rfl, rfl, T_r0, Nat.le_of_ble_eq_true rfl⟩ rfl rfl (Nat.le_of_ble_eq_true rfl) (Nat.le_of_ble_eq_true rfl) (Nat.le_of_ble_eq_true rfl) (by decide) (fun e9 he I9 L9 hq => by obtain ⟨⟨rfl, rfl⟩, hq⟩ := hq; exact Or.inl ⟨rfl, Or.inr ⟨e9, _, _, (by decide : ∀ z ∈ [3], z ∈ [0, 3]) e9 he, rfl, rfl, ⟨⟨hI, Chg.rf⟩, (fun h9 => by subst h9; exact absurd he (by decide)), (fun h9 => by subst h9; exact absurd he (by decide)), (fun h9 => by subst h9; first | exact absurd he (by decide) | (have hx := hq rfl; exact Or.inl hx))⟩⟩⟩) ?_
  rintro yy1 _ _ ⟨hyy1, p0yy1, p1yy1, rfl, rfl⟩
  obtain ⟨rr2, err2, H_rr2⟩ := hyy1
  subst err2
  try simp only [z_r0_0, z_r0_1, z_r0_2, z_r0_5, z_r0_6, z_r0_7, z_r0_8, z_r0_9, z_r0_10, z_r0_11, z_r0_12, z_r0_13, z_r0_1_6, z_r0_1_7, z_r0_1_8, z_r0_1_9, z_r0_1_10, z_r0_6_0, z_r0_6_1, z_r0_6_2, z_r0_6_3, z_r0_6_4, z_r0_11_1] at p0yy1
  try simp only [z_r0_0, z_r0_1, z_r0_2, z_r0_5, z_r0_6, z_r0_7, z_r0_8, z_r0_9, z_r0_10, z_r0_11, z_r0_12, z_r0_13, z_r0_1_6, z_r0_1_7, z_r0_1_8, z_r0_1_9, z_r0_1_10, z_r0_6_0, z_r0_6_1, z_r0_6_2, z_r0_6_3, z_r0_6_4, z_r0_11_1] at p1yy1
  try simp only [k0_r0_1_0, k0_r0_1_1] at p0yy1
  try have q0yy1 := congrArg Int32.toInt p0yy1
  try simp only [k0_r0_1_0, k0_r0_1_1] at p1yy1
  try have q1yy1 := congrArg Int32.toInt p1yy1
  have hF := p0yy1.symm; have hF2 := p1yy1; have oF := SA_e z_r0_1_10 hF; have nF := ncn (n := 8) (j := n1) (by omega) (by omega); have nF1 := ncz (x := n1) (by omega)
  refine k_astore C (lw := [(4, .ref rr2), (0, .ref r0), (1, .int n1), (2, .int n2), (3, .int n3)]) rfl rfl (Nat.le_of_ble_eq_true rfl) rfl ?_
  refine k_aload_n C rfl rfl rfl ?_
  refine k_iload_n C rfl rfl rfl ?_
  refine w2_VR C (s_X11_toldSigns_x hS hI H_r0) rfl rfl rfl rfl rfl ⟨_, rfl, rfl, T_r0, Nat.le_of_ble_eq_true rfl⟩ rfl rfl (Nat.le_of_ble_eq_true rfl) (Nat.le_of_ble_eq_true rfl) (Nat.le_of_ble_eq_true rfl) (by decide) (fun e9 he I9 L9 hq => by obtain ⟨⟨rfl, rfl⟩, hq⟩ := hq; exact Or.inl ⟨rfl, Or.inr ⟨e9, _, _, (by decide : ∀ z ∈ [3], z ∈ [0, 3]) e9 he, rfl, rfl, ⟨⟨hI, Chg.rf⟩, (fun h9 => by subst h9; exact absurd he (by decide)), (fun h9 => by subst h9; exact absurd he (by decide)), (fun h9 => by subst h9; first | exact absurd he (by decide) | (have hx := hq rfl; exact Or.inr hx))⟩⟩⟩) ?_
  rintro yy3 _ _ ⟨hyy3, p0yy3, p1yy3, rfl, rfl⟩
  obtain ⟨rr4, err4, H_rr4⟩ := hyy3
  subst err4
  try simp only [z_r0_0, z_r0_1, z_r0_2, z_r0_5, z_r0_6, z_r0_7, z_r0_8, z_r0_9, z_r0_10, z_r0_11, z_r0_12, z_r0_13, z_r0_1_6, z_r0_1_7, z_r0_1_8, z_r0_1_9, z_r0_1_10, z_r0_6_0, z_r0_6_1, z_r0_6_2, z_r0_6_3, z_r0_6_4, z_r0_11_1] at p0yy3
  try simp only [z_r0_0, z_r0_1, z_r0_2, z_r0_5, z_r0_6, z_r0_7, z_r0_8, z_r0_9, z_r0_10, z_r0_11, z_r0_12, z_r0_13, z_r0_1_6, z_r0_1_7, z_r0_1_8, z_r0_1_9, z_r0_1_10, z_r0_6_0, z_r0_6_1, z_r0_6_2, z_r0_6_3, z_r0_6_4, z_r0_11_1] at p1yy3
  try simp only [k0_r0_1_0, k0_r0_1_1] at p0yy3
  try have q0yy3 := congrArg Int32.toInt p0yy3
  try simp only [k0_r0_1_0, k0_r0_1_1] at p1yy3
  try have q1yy3 := congrArg Int32.toInt p1yy3
  have hD := p0yy3.symm; have hD2 := p1yy3; have oD := SA_e z_r0_1_10 hD; have nD := ncn (n := 8) (j := n2) (by omega) (by omega); have nD1 := ncz (x := n2) (by omega)
  refine k_astore C (lw := [(5, .ref rr4), (4, .ref rr2), (0, .ref r0), (1, .int n1), (2, .int n2), (3, .int n3)]) rfl rfl (Nat.le_of_ble_eq_true rfl) rfl ?_
  refine k_iload_n C rfl rfl rfl ?_
  refine b_if_lt C (t := 24) rfl rfl rfl (fun c5 => ?_) (fun c5 => ?_)
  · skip
    exact k_throw C rfl rfl rfl rfl rfl rfl (Nat.le_of_ble_eq_true rfl) (Nat.le_of_ble_eq_true rfl) (Nat.le_of_ble_eq_true rfl) (Or.inr ⟨_, _, _, (by decide : 0 ∈ [0, 3]), rfl, rfl, ⟨⟨hI, Chg.rf⟩, (fun _ => by (try simp only [z_r0_0, z_r0_1, z_r0_2, z_r0_5, z_r0_6, z_r0_7, z_r0_8, z_r0_9, z_r0_10, z_r0_11, z_r0_12, z_r0_13, z_r0_1_6, z_r0_1_7, z_r0_1_8, z_r0_1_9, z_r0_1_10, z_r0_6_0, z_r0_6_1, z_r0_6_2, z_r0_6_3, z_r0_6_4, z_r0_11_1]); omega), (fun _ => by omega), (fun h9 => absurd h9 (by decide))⟩⟩)
  refine k_iload_n C rfl rfl rfl ?_
  refine z_bipush C (z := 8) rfl rfl rfl (fun x6 ex6 => ?_)
  refine b_icmp_le C (t := 32) rfl rfl rfl (fun c7 => ?_) (fun c7 => ?_)
  · skip
    refine z_iconst C (z := 0) rfl rfl rfl (fun x8 ex8 => ?_)
    have J9 : ∀ (nn10 : Nat) (I11 : IT) (L12 : LT) (x13 : Int32), (MN (2147483647 - x13.toInt) nn10) → (IX A T I11) → (Chg B T [(2, 5), (3, 0)] I L I11 L12) → (0 ≤ x13.toInt) → (∀ a, ¬ (CSX R r0_6 a ∨ a = r0_11 ∨ a = r0_11_1) → I11 a = I a) → (AGI (AGP R I r0_1 w_r0_1_0.toInt n3.toInt (STL R I rr2) (STL R I rr4)) x13.toInt) → (x13.toInt ≤ w_r0_1_1.toInt) → V 35 [(0, .ref r0), (3, .int n3), (4, .ref rr2), (5, .ref rr4), (6, .int x13)] [] (T, N, I11, L12, R) 2 12 := by
      intro nn10
      induction nn10 using Nat.strongRecOn with
      | _ nn10 ihJ9 =>
        intro I11 L12 x13 hmnn10 hI16 S15 b14 ff35_0 ff35_1 ff35_2
        have gx13 := rg x13
        have e20 := Chg.k S15 T_r0_1 (by decide) (by decide) k0_r0_1_0
        have e21 := Chg.k S15 T_r0_1 (by decide) (by decide) k0_r0_1_1
        refine k_iload C rfl rfl rfl ?_
        refine k_aload_n C rfl rfl rfl ?_
        refine g_R C rfl rfl rfl T_r0 rfl R_r0_1 ?_
        refine g_I C rfl rfl rfl T_r0_1 rfl e21 ?_
        refine b_icmp_ge C (t := 94) rfl rfl rfl (fun c22 => ?_) (fun c22 => ?_)
        · skip
          refine z_iconst C (z := -1) rfl rfl rfl (fun x23 ex23 => ?_)
          exact k_iret C rfl (Or.inl rfl) (Nat.le_of_ble_eq_true rfl) (Nat.le_of_ble_eq_true rfl) (Or.inl ⟨_, _, _, rfl, rfl, by omega, by omega, by (try simp only [z_r0_0, z_r0_1, z_r0_2, z_r0_5, z_r0_6, z_r0_7, z_r0_8, z_r0_9, z_r0_10, z_r0_11, z_r0_12, z_r0_13, z_r0_1_6, z_r0_1_7, z_r0_1_8, z_r0_1_9, z_r0_1_10, z_r0_6_0, z_r0_6_1, z_r0_6_2, z_r0_6_3, z_r0_6_4, z_r0_11_1]); omega, by (try simp only [z_r0_0, z_r0_1, z_r0_2, z_r0_5, z_r0_6, z_r0_7, z_r0_8, z_r0_9, z_r0_10, z_r0_11, z_r0_12, z_r0_13, z_r0_1_6, z_r0_1_7, z_r0_1_8, z_r0_1_9, z_r0_1_10, z_r0_6_0, z_r0_6_1, z_r0_6_2, z_r0_6_3, z_r0_6_4, z_r0_11_1]); omega, by (try simp only [z_r0_0, z_r0_1, z_r0_2, z_r0_5, z_r0_6, z_r0_7, z_r0_8, z_r0_9, z_r0_10, z_r0_11, z_r0_12, z_r0_13, z_r0_1_6, z_r0_1_7, z_r0_1_8, z_r0_1_9, z_r0_1_10, z_r0_6_0, z_r0_6_1, z_r0_6_2, z_r0_6_3, z_r0_6_4, z_r0_11_1]); rw [oF, oD]; simp only [k0_r0_1_0, k0_r0_1_1]; exact AGQ.n ff35_1 (by omega) (by omega), hI16, (Chg.mono S15 (by decide))⟩)
        refine k_aload_n C rfl rfl rfl ?_
        refine g_R C rfl rfl rfl T_r0 rfl R_r0_1 ?_
        refine k_iload C rfl rfl rfl ?_
        refine c_VR C (s_X8_formAt_x hS hI16 H_r0_1) rfl rfl rfl rfl rfl ⟨_, rfl, rfl, T_r0_1, Nat.le_of_ble_eq_true rfl⟩ rfl rfl (Nat.le_of_ble_eq_true rfl) (Nat.le_of_ble_eq_true rfl) (Nat.le_of_ble_eq_true rfl) ?_
        rintro yy24 _ _ ⟨hyy24, p0yy24, rfl, rfl⟩
        try simp only [z_r0_0, z_r0_1, z_r0_2, z_r0_5, z_r0_6, z_r0_7, z_r0_8, z_r0_9, z_r0_10, z_r0_11, z_r0_12, z_r0_13, z_r0_1_6, z_r0_1_7, z_r0_1_8, z_r0_1_9, z_r0_1_10, z_r0_6_0, z_r0_6_1, z_r0_6_2, z_r0_6_3, z_r0_6_4, z_r0_11_1] at p0yy24
        try simp only [e20, e21] at p0yy24
        try have q0yy24 := congrArg Int32.toInt p0yy24
        have hfA := p0yy24; have hK35 := ff35_0
        refine k_astoreV C (x := yy24) (lw := [(7, va_rf yy24), (0, .ref r0), (3, .int n3), (4, .ref rr2), (5, .ref rr4), (6, .int x13)]) rfl rfl (Nat.le_of_ble_eq_true rfl) rfl ?_
        refine k_aloadV C (x := yy24) rfl rfl rfl ?_
        refine k_ifnull C (x := yy24) (t := 88) rfl rfl rfl (fun c25 => ?_) (fun rr26 c25 => ?_)
        · skip
          subst c25
          exfalso; have q9 := FAD.no hfA E_r0_1_8; omega
        subst c25
        have H_rr26 := hyy24 rr26 rfl
        have hN := (FAD.q hfA).2.2.2; have oN := FA_e z_r0_1_8 hN; have fN := FO.of H_rr26; have cN := CSX.fa hU gK hG fN z_r0_1_8 hN; have m1 : rr26 ≠ r0_11 := hU.ne (Or.inl fN.1) hN R_r0_11 (Or.inl (t_nq T_r0_1_8 T_r0 (by decide))); have m2 : rA R rr26 1 ≠ r0_11_1 := (by have z9 := obneq hU fN (FO.of (hs_GF hS H_r0_11)) m1; rw [z_r0_11_1] at z9; exact z9); have ef := WCX.fo cN fN T_r0_11 T_r0_11_1 m1 m2 ff35_0
        refine k_aload C rfl rfl rfl ?_
        obtain ⟨T_rr26, A_rr26, ⟨rr26_1, R_rr26_1, H_rr26_1⟩⟩ := id H_rr26
        have z_rr26_1 : rA R rr26 1 = rr26_1 := rA_e R_rr26_1
        refine z_gI C rfl rfl rfl T_rr26 rfl (fun x27 ex27 => ?_)
        have gx27 := rg x27
        have ox27 := IX.deg hI16 A_rr26 T_rr26 ex27
        refine k_iload_n C rfl rfl rfl ?_
        have hdg := congrArg Int32.toInt ex27
        refine b_icmp_ne C (t := 88) rfl rfl rfl (fun c28 => ?_) (fun c28 => ?_)
        · skip
          refine z_iinc C (z := 1) (lw := fun x29 => [(6, .int x29), (7, .ref rr26), (0, .ref r0), (3, .int n3), (4, .ref rr2), (5, .ref rr4)]) rfl rfl rfl (Nat.le_of_ble_eq_true rfl) rfl ⟨by omega, by omega⟩ (fun _ => rfl) (fun x29 ex29 => ?_)
          show V 91 [(6, .int x29), (7, .ref rr26), (0, .ref r0), (3, .int n3), (4, .ref rr2), (5, .ref rr4)] _ _ _ _
          refine k_goto C (pc2 := 35) rfl rfl ?_
          refine k_sub S [(0, .ref r0), (3, .int n3), (4, .ref rr2), (5, .ref rr4), (6, .int x29)] (List.forall_mem_cons.mpr ⟨List.mem_of_getElem? (i := 2) rfl, List.forall_mem_cons.mpr ⟨List.mem_of_getElem? (i := 3) rfl, List.forall_mem_cons.mpr ⟨List.mem_of_getElem? (i := 4) rfl, List.forall_mem_cons.mpr ⟨List.mem_of_getElem? (i := 5) rfl, List.forall_mem_cons.mpr ⟨List.mem_of_getElem? (i := 0) rfl, fun _ h => nomatch h⟩⟩⟩⟩⟩) ?_
          exact ihJ9 _ (MN.lt hmnn10 (by omega) (by omega)) I11 L12 x29 rfl hI16 (Chg.mono S15 (by decide)) (by omega) (by first | exact hK9 | exact ff35_0) (by first | exact AGI.s ff35_1 (hag.1 (by omega)) (by omega) (by omega) | exact AGI.s ff35_1 (AGP.no oN ef.1 (by omega)) (by omega) (by omega)) (by omega)
        refine k_aload_n C rfl rfl rfl ?_
        refine k_aload C rfl rfl rfl ?_
        refine k_aload C rfl rfl rfl ?_
        refine k_aload C rfl rfl rfl ?_
        have sg1 := WCX.sg hU gK T_r0_11 R_r0_11_1 T_r0_11_1 H_rr2 ff35_0; have sg2 := WCX.sg hU gK T_r0_11 R_r0_11_1 T_r0_11_1 H_rr4 ff35_0
        obtain ⟨T_rr2, A_rr2, ⟨rr2_0, R_rr2_0, H_rr2_0⟩, ⟨rr2_1, R_rr2_1, H_rr2_1⟩⟩ := id H_rr2
        have z_rr2_0 : rA R rr2 0 = rr2_0 := rA_e R_rr2_0
        have z_rr2_1 : rA R rr2 1 = rr2_1 := rA_e R_rr2_1
        obtain ⟨T_rr4, A_rr4, ⟨rr4_0, R_rr4_0, H_rr4_0⟩, ⟨rr4_1, R_rr4_1, H_rr4_1⟩⟩ := id H_rr4
        have z_rr4_0 : rA R rr4 0 = rr4_0 := rA_e R_rr4_0
        have z_rr4_1 : rA R rr4 1 = rr4_1 := rA_e R_rr4_1
        refine c_VI C (s_X11_isOneValue_x hS hI16 H_r0 H_rr2 H_rr4 H_rr26 hU (by rw [z_r0_6, z_r0_6_0, z_r0_1]; exact hp0) (by rw [sg1.1, sg1.2, ← oF]; exact hp2 _ nF (by omega)) (by rw [sg2.1, sg2.2, ← oD]; exact hp2 _ nD (by omega)) (by rw [z_r0_6]; exact cN) (by rw [z_r0_1, ef.1, e20, ← oN]; exact fun j hj => by rw [oN, ef.2, ← oN]; exact hp1 x13.toNatClampNeg (by have h9 := ncz (x := x13) (by omega); omega) j hj) (by rw [z_r0_11, z_r0_11_1]; exact ⟨m1, m2⟩)) rfl rfl rfl rfl rfl ⟨_, rfl, rfl, T_r0, Nat.le_of_ble_eq_true rfl⟩ rfl rfl (Nat.le_of_ble_eq_true rfl) (Nat.le_of_ble_eq_true rfl) (Nat.le_of_ble_eq_true rfl) ?_
        rintro x30 I31 L32 ⟨o0x30, o1x30, p0x30, hI31, S33⟩
        try simp only [z_r0_0, z_r0_1, z_r0_2, z_r0_5, z_r0_6, z_r0_7, z_r0_8, z_r0_9, z_r0_10, z_r0_11, z_r0_12, z_r0_13, z_r0_1_6, z_r0_1_7, z_r0_1_8, z_r0_1_9, z_r0_1_10, z_r0_6_0, z_r0_6_1, z_r0_6_2, z_r0_6_3, z_r0_6_4, z_r0_11_1, z_rr26_1, z_rr2_0, z_rr2_1, z_rr4_0, z_rr4_1] at S33
        have e34 := Chg.k S33 T_r0_1 (by decide) (by decide) e20
        have e35 := Chg.k S33 T_r0_1 (by decide) (by decide) e21
        have gx30 := rg x30
        try simp only [z_r0_0, z_r0_1, z_r0_2, z_r0_5, z_r0_6, z_r0_7, z_r0_8, z_r0_9, z_r0_10, z_r0_11, z_r0_12, z_r0_13, z_r0_1_6, z_r0_1_7, z_r0_1_8, z_r0_1_9, z_r0_1_10, z_r0_6_0, z_r0_6_1, z_r0_6_2, z_r0_6_3, z_r0_6_4, z_r0_11_1, z_rr26_1, z_rr2_0, z_rr2_1, z_rr4_0, z_rr4_1] at p0x30
        try simp only [e20, e21, ex27] at p0x30
        try have q0x30 := congrArg Int32.toInt p0x30
        have hIF := p0x30; (try simp only [z_r0_0, z_r0_1, z_r0_2, z_r0_5, z_r0_6, z_r0_7, z_r0_8, z_r0_9, z_r0_10, z_r0_11, z_r0_12, z_r0_13, z_r0_1_6, z_r0_1_7, z_r0_1_8, z_r0_1_9, z_r0_1_10, z_r0_6_0, z_r0_6_1, z_r0_6_2, z_r0_6_3, z_r0_6_4, z_r0_11_1, z_rr26_1, z_rr2_0, z_rr2_1, z_rr4_0, z_rr4_1] at hIF); rw [sg1.1, sg2.1] at hIF; have hag := AGP.of (d := n3.toInt) (j := x13.toNatClampNeg) oN z_rr26_1 hIF hdg ef.1 ef.2; have hS79 := S33; have hK9 : ∀ a, ¬ (CSX R r0_6 a ∨ a = r0_11 ∨ a = r0_11_1) → I31 a = I a := (fun a ha => (Chg.at hS79 ha).trans (ff35_0 a ha))
        refine b_if_ne C (t := 88) rfl rfl rfl (fun c36 => ?_) (fun c36 => ?_)
        · skip
          refine z_iinc C (z := 1) (lw := fun x37 => [(6, .int x37), (7, .ref rr26), (0, .ref r0), (3, .int n3), (4, .ref rr2), (5, .ref rr4)]) rfl rfl rfl (Nat.le_of_ble_eq_true rfl) rfl ⟨by omega, by omega⟩ (fun _ => rfl) (fun x37 ex37 => ?_)
          show V 91 [(6, .int x37), (7, .ref rr26), (0, .ref r0), (3, .int n3), (4, .ref rr2), (5, .ref rr4)] _ _ _ _
          refine k_goto C (pc2 := 35) rfl rfl ?_
          refine k_sub S [(0, .ref r0), (3, .int n3), (4, .ref rr2), (5, .ref rr4), (6, .int x37)] (List.forall_mem_cons.mpr ⟨List.mem_of_getElem? (i := 2) rfl, List.forall_mem_cons.mpr ⟨List.mem_of_getElem? (i := 3) rfl, List.forall_mem_cons.mpr ⟨List.mem_of_getElem? (i := 4) rfl, List.forall_mem_cons.mpr ⟨List.mem_of_getElem? (i := 5) rfl, List.forall_mem_cons.mpr ⟨List.mem_of_getElem? (i := 0) rfl, fun _ h => nomatch h⟩⟩⟩⟩⟩) ?_
          exact ihJ9 _ (MN.lt hmnn10 (by omega) (by omega)) I31 L32 x37 rfl hI31 (Chg.cons S15 (Chg.mono (Chg.up S33 hWB) (by decide)) (by decide)) (by omega) (by first | exact hK9 | exact ff35_0) (by first | exact AGI.s ff35_1 (hag.1 (by omega)) (by omega) (by omega) | exact AGI.s ff35_1 (AGP.no oN ef.1 (by omega)) (by omega) (by omega)) (by omega)
        refine k_iload C rfl rfl rfl ?_
        exact k_iret C rfl (Or.inl rfl) (Nat.le_of_ble_eq_true rfl) (Nat.le_of_ble_eq_true rfl) (Or.inl ⟨_, _, _, rfl, rfl, by omega, by omega, by (try simp only [z_r0_0, z_r0_1, z_r0_2, z_r0_5, z_r0_6, z_r0_7, z_r0_8, z_r0_9, z_r0_10, z_r0_11, z_r0_12, z_r0_13, z_r0_1_6, z_r0_1_7, z_r0_1_8, z_r0_1_9, z_r0_1_10, z_r0_6_0, z_r0_6_1, z_r0_6_2, z_r0_6_3, z_r0_6_4, z_r0_11_1, z_rr26_1, z_rr2_0, z_rr2_1, z_rr4_0, z_rr4_1]); omega, by (try simp only [z_r0_0, z_r0_1, z_r0_2, z_r0_5, z_r0_6, z_r0_7, z_r0_8, z_r0_9, z_r0_10, z_r0_11, z_r0_12, z_r0_13, z_r0_1_6, z_r0_1_7, z_r0_1_8, z_r0_1_9, z_r0_1_10, z_r0_6_0, z_r0_6_1, z_r0_6_2, z_r0_6_3, z_r0_6_4, z_r0_11_1, z_rr26_1, z_rr2_0, z_rr2_1, z_rr4_0, z_rr4_1]); omega, by (try simp only [z_r0_0, z_r0_1, z_r0_2, z_r0_5, z_r0_6, z_r0_7, z_r0_8, z_r0_9, z_r0_10, z_r0_11, z_r0_12, z_r0_13, z_r0_1_6, z_r0_1_7, z_r0_1_8, z_r0_1_9, z_r0_1_10, z_r0_6_0, z_r0_6_1, z_r0_6_2, z_r0_6_3, z_r0_6_4, z_r0_11_1, z_rr26_1, z_rr2_0, z_rr2_1, z_rr4_0, z_rr4_1]); rw [oF, oD]; simp only [k0_r0_1_0, k0_r0_1_1]; exact AGQ.y ff35_1 (hag.2 (by omega) (by omega)) (by omega) (by omega) (by omega), hI31, (Chg.cons S15 (Chg.mono (Chg.up S33 hWB) (by decide)) (by decide))⟩)
    refine k_istore C (lw := [(6, .int x8), (5, .ref rr4), (4, .ref rr2), (0, .ref r0), (1, .int n1), (2, .int n2), (3, .int n3)]) rfl rfl (Nat.le_of_ble_eq_true rfl) rfl ?_
    refine k_sub S [(0, .ref r0), (3, .int n3), (4, .ref rr2), (5, .ref rr4), (6, .int x8)] (List.forall_mem_cons.mpr ⟨List.mem_of_getElem? (i := 3) rfl, List.forall_mem_cons.mpr ⟨List.mem_of_getElem? (i := 6) rfl, List.forall_mem_cons.mpr ⟨List.mem_of_getElem? (i := 2) rfl, List.forall_mem_cons.mpr ⟨List.mem_of_getElem? (i := 1) rfl, List.forall_mem_cons.mpr ⟨List.mem_of_getElem? (i := 0) rfl, fun _ h => nomatch h⟩⟩⟩⟩⟩) ?_
    exact J9 _ I L x8 rfl hI Chg.rf (by omega) (by exact fun _ _ => rfl) (by exact AGI.z (by omega)) (by omega)
  exact k_throw C rfl rfl rfl rfl rfl rfl (Nat.le_of_ble_eq_true rfl) (Nat.le_of_ble_eq_true rfl) (Nat.le_of_ble_eq_true rfl) (Or.inr ⟨_, _, _, (by decide : 0 ∈ [0, 3]), rfl, rfl, ⟨⟨hI, Chg.rf⟩, (fun _ => by (try simp only [z_r0_0, z_r0_1, z_r0_2, z_r0_5, z_r0_6, z_r0_7, z_r0_8, z_r0_9, z_r0_10, z_r0_11, z_r0_12, z_r0_13, z_r0_1_6, z_r0_1_7, z_r0_1_8, z_r0_1_9, z_r0_1_10, z_r0_6_0, z_r0_6_1, z_r0_6_2, z_r0_6_3, z_r0_6_4, z_r0_11_1]); omega), (fun _ => by omega), (fun h9 => absurd h9 (by decide))⟩⟩)

