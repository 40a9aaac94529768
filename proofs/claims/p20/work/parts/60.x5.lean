/-! the calls that change forms, exactly -/
theorem EXC0 {T : Nat → Nat} {I I2 : IT} {L L2 : LT} {st f : Nat} (S2 : Chg (SL [st]) T [(9, f)] I L I2 L2) (hT : T st = 9) (e : (I2 st f).toInt = (I st f).toInt) : ∀ a k, I2 a k = I a k := fun a k => by
  by_cases q : a = st
  · subst q
    by_cases qk : k = f
    · subst qk; exact Int32.toInt_inj.mp e
    · exact S2.2 a k (by omega) (by rw [hT]; intro h; simp only [List.mem_cons, List.not_mem_nil, or_false, Prod.mk.injEq] at h; exact qk h.2)
  · exact congrFun (Chg.at S2 (nm_1 q)) k
theorem EXC1 {T : Nat → Nat} {I I1 I2 : IT} {L L1 L2 : LT} {W1 : List (Nat × Nat)} {rd st f : Nat} (S1 : Chg (SL [rd]) T W1 I L I1 L1) (S2 : Chg (SL [st]) T [(9, f)] I1 L1 I2 L2) (hT : T st = 9) (hr : st ≠ rd) (e : (I2 st f).toInt = (I st f).toInt) : ∀ a, a ≠ rd → ∀ k, I2 a k = I a k := fun a ha k => by
  have e1 : ∀ b, b ≠ rd → I1 b = I b := fun b hb => Chg.at S1 (nm_1 hb)
  rw [← e1 st hr] at e
  rw [EXC0 S2 hT e a k, e1 a ha]
theorem WRD.mono {R : RT} {I I1 Iw I9 : IT} {st f : Nat} {n : Int32} {d : Int} (h : WRD R Iw I1 st n f d) (hin : ∀ j, j < 40 → AEQ R I1 st j I st j) (hf : FEQ R I1 f I f) (hout : ∀ j, j < 40 → AEQ R I9 st j Iw st j) (h4 : I9 st 4 = Iw st 4) : WRD R I9 I st n f d := by
  refine ⟨fun h0 h1 => ?_, fun h0 => ?_⟩
  · obtain ⟨a1, a2, a3, a4⟩ := h.1 h0 h1
    have o := hout d.toNat (by omega)
    exact ⟨o.1.trans a1, (o.2.tr a2).tr hf, fun j hj hn => ((hout j hj).tr (a3 j hj hn)).tr (hin j hj), by rw [h4]; exact a4⟩
  · obtain ⟨a1, a2, a3, a4⟩ := h.2 h0
    have o := hout 39 (by omega)
    exact ⟨o.1.trans a1, (o.2.tr a2).tr hf, fun j hj => ((hout j (by omega)).tr (a3 j hj)).tr (hin (j + 1) (by omega)), by rw [h4]; exact a4⟩
/-- the forms of a row but one stay -/
def FSM (R : RT) (I' I : IT) (st : Nat) (n : Int) : Prop := ∀ j : Nat, j < 16 → (j : Int) ≠ n → FEQ R I' (FA R st j) I (FA R st j)
theorem FEQ.vrx {R : RT} {I9 Iw I1 : IT} {f m fb mb : Nat} {p D : Int} {g : Nat → Int} (h : FEQ R I9 f Iw m) (zf : rA R f 1 = fb) (zm : rA R m 1 = mb) (e1 : Iw m = I1 m) (e2 : Iw mb = I1 mb) (v : VRX I1 mb p D g) (hD : (I1 m 0).toInt = D) : VRX I9 fb p D g := fun j hj => by
  have := h.2 j (by rw [e1]; omega)
  rw [zf, zm, e2] at this
  rw [this]
  exact v j hj
theorem FEQ.at {T : Nat → Nat} {R : RT} {I I' : IT} {L L' : LT} {W : List (Nat × Nat)} {S : Nat → Prop} {f : Nat} (h : Chg S T W I L I' L') (h1 : ¬ S f) (h2 : ¬ S (rA R f 1)) : FEQ R I' f I f := FEQ.rf.l (Chg.at h h1) (Chg.at h h2)
theorem AEQ.sl {T : Nat → Nat} {R : RT} {I I' : IT} {L L' : LT} {W : List (Nat × Nat)} {S : Nat → Prop} {st : Nat} (h : Chg S T W I L I' L') (hS : ∀ a, S a → ¬ WSX R st a) : ∀ j, j < 40 → AEQ R I' st j I st j := fun j h9 =>
  AEQ.at h (fun q => hS _ q (Or.inr (Or.inl rfl))) (fun q => hS _ q (Or.inr (Or.inr ⟨j, h9, Or.inl rfl⟩))) (fun q => hS _ q (Or.inr (Or.inr ⟨j, h9, Or.inr rfl⟩)))
theorem nSM {T : Nat → Nat} {R : RT} {B : Nat → Prop} {st j k : Nat} (hU : UPR T R) (hG : GS T R st) (hB : ¬ B (FA R st j) ∧ ¬ B (rA R (FA R st j) 1)) (hj : j < 16) (hk : k < 16) (hn : j ≠ k) : ¬ (B (FA R st j) ∨ WSX R st (FA R st j) ∨ FA R st j = FA R st k ∨ FA R st j = rA R (FA R st k) 1) ∧ ¬ (B (rA R (FA R st j) 1) ∨ WSX R st (rA R (FA R st j) 1) ∨ rA R (FA R st j) 1 = FA R st k ∨ rA R (FA R st j) 1 = rA R (FA R st k) 1) := by
  have a := hG.2.2.2.2.2.2.1 j hj
  have b := hG.2.2.2.2.2.2.1 k hk
  have n1 : FA R st j ≠ FA R st k := hU.ne (Or.inl a.2.1) a.1 b.1 (Or.inr hn)
  refine ⟨?_, ?_⟩
  · rintro (e | e | e | e)
    · exact hB.1 e
    · exact WSX.nf hU hG a.2.1 a.1 (GS.r87 hU hG hG) e
    · exact n1 e
    · have := a.2.1; rw [e] at this; have := b.2.2.2; omega
  · rintro (e | e | e | e)
    · exact hB.2 e
    · exact WSX.nb hU hG a.2 a.1 (GS.r87 hU hG hG) e
    · have := a.2.2.2; rw [e] at this; have := b.2.1; omega
    · exact hU.ne (t20 a.2.2.2) a.2.2.1 b.2.2.1 (Or.inl n1) e
def UDX (R : RT) (st a : Nat) : Prop := WSX R st a ∨ ∃ j, j < 16 ∧ a = rA R (FA R st j) 1
theorem NBD.pos {w : Nat → Int32} {x : Int32} {d : Int} (h : NBD w x d) (hx : 0 ≤ x.toInt) : 1 ≤ d := by
  by_cases q : d ≤ 0
  · have := h.2 q; omega
  · omega
theorem NOD.pos {w : Nat → Int32} {x d : Int32} {u : Int} (h : NOD w x d u) (hx : 0 ≤ x.toInt) : 0 < u := by
  by_cases q : u ≤ 0
  · have := h.2 (Or.inl q); omega
  · omega
def UND (R : RT) (I' I : IT) (st : Nat) (x : Int32) (d u : Int) : Prop := (d ≤ 0 → x.toInt = -1 ∧ I' = I) ∧ (0 < d → I (WH R st) (d - 1).toNat = x ∧ SBD R I' I st (FA R st x.toNatClampNeg) (d - 1).toNat ∧ (I' st 4).toInt = d - 1 ∧ (I' st 5).toInt = u + 1 ∧ FSM R I' I st x.toInt)
def RDD (R : RT) (I' I : IT) (st : Nat) (x : Int32) (d u : Int) : Prop := (u ≤ 0 → x.toInt = -1 ∧ I' = I) ∧ (0 < u → I (WH R st) d.toNat = x ∧ SBD R I' I st (FA R st x.toNatClampNeg) d.toNat ∧ (I' st 4).toInt = d + 1 ∧ (I' st 5).toInt = u - 1 ∧ FSM R I' I st x.toInt)
theorem FSM.sb {T : Nat → Nat} {R : RT} {I I' : IT} {L L' : LT} {W : List (Nat × Nat)} {st f fb k : Nat} {n : Int} (hU : UPR T R) (hG : GS T R st) (S : Chg (fun a => WSX R st a ∨ a = fb) T W I L I' L') (oF : FA R st k = f) (zf : rA R f 1 = fb) (hk : k < 16) (hn : (k : Int) = n) : FSM R I' I st n := fun j hj hne => by
  subst oF; subst zf
  have a := hG.2.2.2.2.2.2.1 j hj
  have b := hG.2.2.2.2.2.2.1 k hk
  have n1 : FA R st j ≠ FA R st k := hU.ne (Or.inl a.2.1) a.1 b.1 (Or.inr (by omega))
  refine FEQ.at S ?_ ?_
  · rintro (e | e)
    · exact WSX.nf hU hG a.2.1 a.1 (GS.r87 hU hG hG) e
    · have := a.2.1; rw [e] at this; have := b.2.2.2; omega
  · rintro (e | e)
    · exact WSX.nb hU hG a.2 a.1 (GS.r87 hU hG hG) e
    · exact hU.ne (t20 a.2.2.2) a.2.2.1 b.2.2.1 (Or.inl n1) e
/-- the object itself is none of a state's cells -/
theorem nO {T : Nat → Nat} {R : RT} {st o : Nat} (hG : GS T R st) (hg : GG T R st) (ho : T o = 12) : ¬ OWN R st o := by
  have hF := hG.2.2.2.2.2.2.1
  have hT := hG.2.2.2.2.2.2.2
  rintro ((e | e | ⟨j, hj, e | e⟩) | ⟨j, hj, e | e⟩ | ⟨j, hj, e⟩ | ⟨j, hj, e | e | e⟩)
  · have := hG.1; rw [← e] at this; omega
  · have := hG.2.1.2; rw [← e] at this; omega
  · have := (hG.2.2.2.2.2.1 j hj).2.1; rw [← e] at this; omega
  · have := (hG.2.2.2.2.2.1 j hj).2.2.2; rw [← e] at this; omega
  · have := (hF j hj).2.1; rw [← e] at this; omega
  · have := (hF j hj).2.2.2; rw [← e] at this; omega
  · have := (hT j hj).2; rw [← e] at this; omega
  · have := (hg.2.2 j hj).2.1; rw [← e] at this; omega
  · have := (hg.2.2 j hj).2.2.1.2; rw [← e] at this; omega
  · have := (hg.2.2 j hj).2.2.2.2; rw [← e] at this; omega
theorem nOl {T : Nat → Nat} {R : RT} {st o : Nat} (hG : GS T R st) (hg : GG T R st) (ho : T o = 12) : ∀ a, SL [o] a → ¬ OWN R st a := sl_1 (B := fun a => ¬ OWN R st a) (nO hG hg ho)
def BKX (R : RT) (I' I : IT) (st kp : Nat) (x f : Int) : Prop := (f = 0 → x = 0 ∧ I' = I) ∧ (f ≠ 0 → x = 1 ∧ (∀ k, k < 6 → (I' st k).toInt = (I kp k).toInt) ∧ CAL R I' I st kp 40 ∧ FLL R I' I st kp (I kp 1).toInt ∧ TLL R I' I st kp (I kp 2).toInt)
theorem k6 {P : Nat → Prop} (h0 : P 0) (h1 : P 1) (h2 : P 2) (h3 : P 3) (h4 : P 4) (h5 : P 5) : ∀ k, k < 6 → P k := fun k hk => by
  match k, hk with
  | 0, _ => exact h0
  | 1, _ => exact h1
  | 2, _ => exact h2
  | 3, _ => exact h3
  | 4, _ => exact h4
  | 5, _ => exact h5
theorem UND.z {R : RT} {I : IT} {st w fc9 : Nat} {x y : Int32} {d u fc : Int} (h : NBD (I w) x d) (hn : x.toInt < 0 ∨ fc ≤ x.toInt ∨ ((16 : Nat) : Int) ≤ x.toInt) (h0 : 0 ≤ d) (h40 : d ≤ 40) (hs : d + u ≤ 40) (h16 : fc ≤ 16) (ha : ∀ k : Nat, (k : Int) < d + u → 0 ≤ (I (WH R st) k).toInt ∧ (I (WH R st) k).toInt < fc ∧ (I (OA R st k) 0).toInt = (I (FA R st (I (WH R st) k).toNatClampNeg) 0).toInt) (hu : 0 ≤ u) (w6 : WH R st = w) (e : y.toInt = -1) : UND R I I st y d u := by
  refine ⟨fun _ => ⟨e, rfl⟩, fun hd => ?_⟩
  have hx := h.1 (by omega) h40
  have hk := ha (d - 1).toNat (by omega)
  rw [w6, hx] at hk
  omega
theorem RDD.z {R : RT} {I : IT} {st w fc9 : Nat} {x y d : Int32} {u fc : Int} (h : NOD (I w) x d u) (hn : x.toInt < 0 ∨ fc ≤ x.toInt ∨ ((16 : Nat) : Int) ≤ x.toInt) (h0 : 0 ≤ d.toInt) (h40 : d.toInt ≤ 40) (hs : d.toInt + u ≤ 40) (h16 : fc ≤ 16) (ha : ∀ k : Nat, (k : Int) < d.toInt + u → 0 ≤ (I (WH R st) k).toInt ∧ (I (WH R st) k).toInt < fc ∧ (I (OA R st k) 0).toInt = (I (FA R st (I (WH R st) k).toNatClampNeg) 0).toInt) (hu : 0 ≤ u) (w6 : WH R st = w) (e : y.toInt = -1) : RDD R I I st y d.toInt u := by
  refine ⟨fun _ => ⟨e, rfl⟩, fun hd => ?_⟩
  have hx := h.1 hd h0 (by omega)
  have hk := ha d.toInt.toNat (by omega)
  rw [w6, show d.toInt.toNat = d.toNatClampNeg from rfl, hx] at hk
  omega
/-- two forms alike: what the loop knows -/
def MTL (R : RT) (I : IT) (a b : Nat) (is k : Int) : Prop := (is = 1 → (I a 0).toInt = (I b 0).toInt ∧ ∀ j : Nat, (j : Int) < k → (I (rA R a 1) j).toInt = (I (rA R b 1) j).toInt) ∧ (is = 0 → ¬ FEQ R I a I b)
theorem MTL.z1 {R : RT} {I : IT} {a b : Nat} {is k : Int} (h : (I a 0).toInt = (I b 0).toInt) (hi : is = 1) (hk : k = 0) : MTL R I a b is k := ⟨fun _ => ⟨h, fun j hj => by omega⟩, fun h => by omega⟩
theorem MTL.z0 {R : RT} {I : IT} {a b : Nat} {is k : Int} (h : (I a 0).toInt ≠ (I b 0).toInt) (hi : is = 0) : MTL R I a b is k := ⟨fun h => by omega, fun _ g => h g.1⟩
theorem MTL.s1 {R : RT} {I : IT} {a b ab bb : Nat} {is is' D1 D2 : Int} {x y k k' : Int32} (h : MTL R I a b is k.toInt) (hi : is = 1) (za : rA R a 1 = ab) (zb : rA R b 1 = bb) (g1 : GTD x.toInt D1 (fun j => (I ab j).toInt) k.toInt) (g2 : GTD y.toInt D2 (fun j => (I bb j).toInt) k.toInt) (e : x.toInt = y.toInt) (h0 : 0 ≤ k.toInt) (h1 : k.toInt ≤ D1) (h2 : k.toInt ≤ D2) (hi' : is' = 1) (hk : k'.toInt = k.toInt + 1) : MTL R I a b is' k'.toInt := by
  have n0 := ncz h0
  refine ⟨fun _ => ⟨(h.1 hi).1, fun j hj => ?_⟩, fun q => by omega⟩
  by_cases q : j = k.toNatClampNeg
  · subst q
    have a1 := g1.i h0 h1
    have a2 := g2.i h0 h2
    rw [za, zb]
    have a1 : x.toInt = (I ab k.toNatClampNeg).toInt := a1
    have a2 : y.toInt = (I bb k.toNatClampNeg).toInt := a2
    omega
  · exact (h.1 hi).2 j (by omega)
theorem MTL.s0 {R : RT} {I : IT} {a b ab bb : Nat} {is' D1 D2 : Int} {x y k : Int32} {k' : Int} (za : rA R a 1 = ab) (zb : rA R b 1 = bb) (g1 : GTD x.toInt D1 (fun j => (I ab j).toInt) k.toInt) (g2 : GTD y.toInt D2 (fun j => (I bb j).toInt) k.toInt) (e : x.toInt ≠ y.toInt) (h0 : 0 ≤ k.toInt) (h1 : k.toInt ≤ D1) (h2 : k.toInt ≤ D2) (hd : (I b 0).toInt = D2) (hi' : is' = 0) : MTL R I a b is' k' := by
  have n0 := ncz h0
  refine ⟨fun q => by omega, fun _ f => ?_⟩
  have a1 : x.toInt = (I ab k.toNatClampNeg).toInt := g1.i h0 h1
  have a2 : y.toInt = (I bb k.toNatClampNeg).toInt := g2.i h0 h2
  have c := f.2 k.toNatClampNeg (by omega)
  rw [za, zb] at c
  omega
theorem MTL.e1 {R : RT} {I : IT} {a b : Nat} {is k : Int} (h : MTL R I a b is k) (hk : (I a 0).toInt < k) : IFF is (FEQ R I a I b) := ⟨fun q => ⟨(h.1 q).1, fun j hj => (h.1 q).2 j (by have := (h.1 q).1; omega)⟩, h.2⟩
theorem MTL.e0 {R : RT} {I : IT} {a b : Nat} {is k : Int} (h : MTL R I a b is k) (hi : is = 0) : IFF is (FEQ R I a I b) := ⟨fun q => by omega, h.2⟩
/-- the form mixed is another one: told by what its numbers were, and are -/
theorem FEQ.mx {R : RT} {I I1 Iw I9 : IT} {m f mb fb : Nat} {x y : Int} (h : IFF y (FEQ R I1 m I1 f)) (hx : x = 1 - y) (c : FEQ R I9 f Iw m) (zf : rA R f 1 = fb) (zm : rA R m 1 = mb) (e1 : I1 f = I f) (e2 : I1 (rA R f 1) = I (rA R f 1)) (e3 : Iw m = I1 m) (e4 : Iw mb = I1 mb) (hd : (I1 m 0).toInt = (I f 0).toInt) : IFF (1 - x) (∀ k : Nat, (k : Int) ≤ (I f 0).toInt → (I9 (rA R f 1) k).toInt = (I (rA R f 1) k).toInt) := by
  have n : ∀ k : Nat, (k : Int) ≤ (I f 0).toInt → (I9 (rA R f 1) k).toInt = (I1 mb k).toInt := fun k hk => by
    have := c.2 k (by rw [e3, hd]; exact hk)
    rwa [zm, e4] at this
  have q : FEQ R I1 m I1 f ↔ (∀ k : Nat, (k : Int) ≤ (I f 0).toInt → (I9 (rA R f 1) k).toInt = (I (rA R f 1) k).toInt) := by
    unfold FEQ
    rw [e1, e2, zm, hd]
    exact ⟨fun g k hk => by rw [n k hk]; exact g.2 k hk, fun g => ⟨rfl, fun k hk => by rw [← n k hk]; exact g k hk⟩⟩
  rw [show 1 - x = y from by omega]
  exact ⟨fun z => q.mp (h.1 z), fun z g => h.2 z (q.mpr g)⟩
theorem s_X2_matches_x {d : Nat} {T N : Nat → Nat} {I : IT} {L : LT} {R : RT} {A B : Nat → Prop} {r0 r1 : Nat} (hS : SUB B A) (hI : IX A T I) (H_r0 : (hs_F T N R A B) r0) (H_r1 : (hs_F T N R A B) r1) : Ex (d + 2) 27 [.ref r0, .ref r1] (T, N, I, L, R) 0 0 (pI T N R (fun x9 I9 L9 => (0 ≤ x9.toInt) ∧ (x9.toInt ≤ 1) ∧ (IFF x9.toInt (FEQ R I r0 I r1)) ∧ (I = I9 ∧ L = L9))) := by
  refine ⟨_, rfl, Nat.le_of_ble_eq_true rfl, fun V C S => ?_⟩
  show V 0 [(0, .ref r0), (1, .ref r1)] [] (T, N, I, L, R) 0 0
  obtain ⟨T_r0, A_r0, ⟨r0_1, R_r0_1, H_r0_1⟩⟩ := id H_r0
  have z_r0_1 : rA R r0 1 = r0_1 := rA_e R_r0_1
  obtain ⟨T_r1, A_r1, ⟨r1_1, R_r1_1, H_r1_1⟩⟩ := id H_r1
  have z_r1_1 : rA R r1 1 = r1_1 := rA_e R_r1_1
  obtain ⟨w_r0_0, k0_r0_0⟩ : ∃ x, I r0 0 = x := ⟨_, rfl⟩
  have gw_r0_0 := rg w_r0_0
  have ow_r0_0 := IX.deg hI A_r0 T_r0 k0_r0_0
  obtain ⟨w_r1_0, k0_r1_0⟩ : ∃ x, I r1 0 = x := ⟨_, rfl⟩
  have gw_r1_0 := rg w_r1_0
  have ow_r1_0 := IX.deg hI A_r1 T_r1 k0_r1_0
  refine k_aload_n C rfl rfl rfl ?_
  refine g_I C rfl rfl rfl T_r0 rfl k0_r0_0 ?_
  refine k_aload_n C rfl rfl rfl ?_
  refine g_I C rfl rfl rfl T_r1 rfl k0_r1_0 ?_
  refine b_icmp_ne C (t := 15) rfl rfl rfl (fun c1 => ?_) (fun c1 => ?_)
  · skip
    refine z_iconst C (z := 0) rfl rfl rfl (fun x2 ex2 => ?_)
    refine k_istore_n C (lw := [(2, .int x2), (0, .ref r0), (1, .ref r1)]) rfl rfl (Nat.le_of_ble_eq_true rfl) rfl ?_
    refine z_iconst C (z := 0) rfl rfl rfl (fun x3 ex3 => ?_)
    have J4 : ∀ (nn5 : Nat) (x6 : Int32) (x9 : Int32), (MN (41 - x9.toInt) nn5) → (0 ≤ x6.toInt) → (x6.toInt ≤ 1) → (0 ≤ x9.toInt) → (x9.toInt ≤ 41) → (MTL R I r0 r1 x6.toInt x9.toInt) → (x6.toInt = 1 → w_r0_0.toInt = w_r1_0.toInt) → V 19 [(0, .ref r0), (1, .ref r1), (2, .int x6), (3, .int x9)] [] (T, N, I, L, R) 0 0 := by
      intro nn5
      induction nn5 using Nat.strongRecOn with
      | _ nn5 ihJ4 =>
        intro x6 x9 hmnn5 b7 b8 b10 b11 ff19_0 ff19_1
        have gx6 := rg x6
        have gx9 := rg x9
        refine k_iload_n C rfl rfl rfl ?_
        refine b_if_eq C (t := 56) rfl rfl rfl (fun c14 => ?_) (fun c14 => ?_)
        · skip
          refine k_iload_n C rfl rfl rfl ?_
          exact k_iret C rfl (Or.inr ⟨rfl, z01 (by omega) (by omega)⟩) (Nat.le_of_ble_eq_true rfl) (Nat.le_of_ble_eq_true rfl) ⟨_, _, _, rfl, rfl, by omega, by omega, by (try simp only [z_r0_1, z_r1_1]); first | exact ff19_0.e0 (by omega) | exact ff19_0.e1 (by rw [k0_r0_0]; omega), rfl, rfl⟩
        refine k_iload_n C rfl rfl rfl ?_
        refine k_aload_n C rfl rfl rfl ?_
        refine g_I C rfl rfl rfl T_r0 rfl k0_r0_0 ?_
        refine b_icmp_gt C (t := 56) rfl rfl rfl (fun c15 => ?_) (fun c15 => ?_)
        · skip
          refine k_iload_n C rfl rfl rfl ?_
          exact k_iret C rfl (Or.inr ⟨rfl, z01 (by omega) (by omega)⟩) (Nat.le_of_ble_eq_true rfl) (Nat.le_of_ble_eq_true rfl) ⟨_, _, _, rfl, rfl, by omega, by omega, by (try simp only [z_r0_1, z_r1_1]); first | exact ff19_0.e0 (by omega) | exact ff19_0.e1 (by rw [k0_r0_0]; omega), rfl, rfl⟩
        refine k_aload_n C rfl rfl rfl ?_
        refine k_iload_n C rfl rfl rfl ?_
        refine c_VI C (s_X2_get_x hS hI H_r0) rfl rfl rfl rfl rfl ⟨_, rfl, rfl, T_r0, Nat.le_of_ble_eq_true rfl⟩ rfl rfl (Nat.le_of_ble_eq_true rfl) (Nat.le_of_ble_eq_true rfl) (Nat.le_of_ble_eq_true rfl) ?_
        rintro x16 _ _ ⟨p0x16, rfl, rfl⟩
        have gx16 := rg x16
        try simp only [z_r0_1, z_r1_1] at p0x16
        try simp only [k0_r0_0, k0_r1_0] at p0x16
        try have q0x16 := congrArg Int32.toInt p0x16
        have hg1 := p0x16; (try simp only [k0_r0_0] at hg1)
        refine k_aload_n C rfl rfl rfl ?_
        refine k_iload_n C rfl rfl rfl ?_
        refine c_VI C (s_X2_get_x hS hI H_r1) rfl rfl rfl rfl rfl ⟨_, rfl, rfl, T_r1, Nat.le_of_ble_eq_true rfl⟩ rfl rfl (Nat.le_of_ble_eq_true rfl) (Nat.le_of_ble_eq_true rfl) (Nat.le_of_ble_eq_true rfl) ?_
        rintro x17 _ _ ⟨p0x17, rfl, rfl⟩
        have gx17 := rg x17
        try simp only [z_r0_1, z_r1_1] at p0x17
        try simp only [k0_r0_0, k0_r1_0] at p0x17
        try have q0x17 := congrArg Int32.toInt p0x17
        have hg2 := p0x17; (try simp only [k0_r1_0] at hg2)
        refine b_icmp_ne C (t := 48) rfl rfl rfl (fun c18 => ?_) (fun c18 => ?_)
        · skip
          refine z_iconst C (z := 0) rfl rfl rfl (fun x19 ex19 => ?_)
          refine k_istore_n C (lw := [(2, .int x19), (0, .ref r0), (1, .ref r1), (3, .int x9)]) rfl rfl (Nat.le_of_ble_eq_true rfl) rfl ?_
          refine z_iinc C (z := 1) (lw := fun x20 => [(3, .int x20), (2, .int x19), (0, .ref r0), (1, .ref r1)]) rfl rfl rfl (Nat.le_of_ble_eq_true rfl) rfl ⟨by omega, by omega⟩ (fun _ => rfl) (fun x20 ex20 => ?_)
          show V 53 [(3, .int x20), (2, .int x19), (0, .ref r0), (1, .ref r1)] _ _ _ _
          refine k_goto C (pc2 := 19) rfl rfl ?_
          refine k_sub S [(0, .ref r0), (1, .ref r1), (2, .int x19), (3, .int x20)] (List.forall_mem_cons.mpr ⟨List.mem_of_getElem? (i := 2) rfl, List.forall_mem_cons.mpr ⟨List.mem_of_getElem? (i := 3) rfl, List.forall_mem_cons.mpr ⟨List.mem_of_getElem? (i := 1) rfl, List.forall_mem_cons.mpr ⟨List.mem_of_getElem? (i := 0) rfl, fun _ h => nomatch h⟩⟩⟩⟩) ?_
          exact ihJ4 _ (MN.lt hmnn5 (by omega) (by omega)) x19 x20 rfl (by omega) (by omega) (by omega) (by omega) (by first | exact MTL.s1 ff19_0 (by omega) z_r0_1 z_r1_1 hg1 hg2 (by omega) (by omega) (by omega) (by have := ff19_1 (by omega); omega) (by omega) (by omega) | exact MTL.s0 (k := x9) z_r0_1 z_r1_1 hg1 hg2 (by omega) (by omega) (by omega) (by have := ff19_1 (by omega); omega) (by rw [k0_r1_0]) (by omega)) (by intro _; first | omega | (have := ff19_1 (by omega); omega))
        refine z_iconst C (z := 1) rfl rfl rfl (fun x21 ex21 => ?_)
        refine k_goto C (pc2 := 49) rfl rfl ?_
        refine k_istore_n C (lw := [(2, .int x21), (0, .ref r0), (1, .ref r1), (3, .int x9)]) rfl rfl (Nat.le_of_ble_eq_true rfl) rfl ?_
        refine z_iinc C (z := 1) (lw := fun x22 => [(3, .int x22), (2, .int x21), (0, .ref r0), (1, .ref r1)]) rfl rfl rfl (Nat.le_of_ble_eq_true rfl) rfl ⟨by omega, by omega⟩ (fun _ => rfl) (fun x22 ex22 => ?_)
        show V 53 [(3, .int x22), (2, .int x21), (0, .ref r0), (1, .ref r1)] _ _ _ _
        refine k_goto C (pc2 := 19) rfl rfl ?_
        refine k_sub S [(0, .ref r0), (1, .ref r1), (2, .int x21), (3, .int x22)] (List.forall_mem_cons.mpr ⟨List.mem_of_getElem? (i := 2) rfl, List.forall_mem_cons.mpr ⟨List.mem_of_getElem? (i := 3) rfl, List.forall_mem_cons.mpr ⟨List.mem_of_getElem? (i := 1) rfl, List.forall_mem_cons.mpr ⟨List.mem_of_getElem? (i := 0) rfl, fun _ h => nomatch h⟩⟩⟩⟩) ?_
        exact ihJ4 _ (MN.lt hmnn5 (by omega) (by omega)) x21 x22 rfl (by omega) (by omega) (by omega) (by omega) (by first | exact MTL.s1 ff19_0 (by omega) z_r0_1 z_r1_1 hg1 hg2 (by omega) (by omega) (by omega) (by have := ff19_1 (by omega); omega) (by omega) (by omega) | exact MTL.s0 (k := x9) z_r0_1 z_r1_1 hg1 hg2 (by omega) (by omega) (by omega) (by have := ff19_1 (by omega); omega) (by rw [k0_r1_0]) (by omega)) (by intro _; first | omega | (have := ff19_1 (by omega); omega))
    refine k_istore_n C (lw := [(3, .int x3), (2, .int x2), (0, .ref r0), (1, .ref r1)]) rfl rfl (Nat.le_of_ble_eq_true rfl) rfl ?_
    refine k_sub S [(0, .ref r0), (1, .ref r1), (2, .int x2), (3, .int x3)] (List.forall_mem_cons.mpr ⟨List.mem_of_getElem? (i := 2) rfl, List.forall_mem_cons.mpr ⟨List.mem_of_getElem? (i := 3) rfl, List.forall_mem_cons.mpr ⟨List.mem_of_getElem? (i := 1) rfl, List.forall_mem_cons.mpr ⟨List.mem_of_getElem? (i := 0) rfl, fun _ h => nomatch h⟩⟩⟩⟩) ?_
    exact J4 _ x2 x3 rfl (by omega) (by omega) (by omega) (by omega) (by first | exact MTL.z1 (by rw [k0_r0_0, k0_r1_0]; omega) (by omega) (by omega) | exact MTL.z0 (by rw [k0_r0_0, k0_r1_0]; omega) (by omega)) (by intro _; omega)
  refine z_iconst C (z := 1) rfl rfl rfl (fun x23 ex23 => ?_)
  refine k_goto C (pc2 := 16) rfl rfl ?_
  refine k_istore_n C (lw := [(2, .int x23), (0, .ref r0), (1, .ref r1)]) rfl rfl (Nat.le_of_ble_eq_true rfl) rfl ?_
  refine z_iconst C (z := 0) rfl rfl rfl (fun x24 ex24 => ?_)
  have J25 : ∀ (nn26 : Nat) (x27 : Int32) (x30 : Int32), (MN (41 - x30.toInt) nn26) → (0 ≤ x27.toInt) → (x27.toInt ≤ 1) → (0 ≤ x30.toInt) → (x30.toInt ≤ 41) → (MTL R I r0 r1 x27.toInt x30.toInt) → (x27.toInt = 1 → w_r0_0.toInt = w_r1_0.toInt) → V 19 [(0, .ref r0), (1, .ref r1), (2, .int x27), (3, .int x30)] [] (T, N, I, L, R) 0 0 := by
    intro nn26
    induction nn26 using Nat.strongRecOn with
    | _ nn26 ihJ25 =>
      intro x27 x30 hmnn26 b28 b29 b31 b32 ff19_0 ff19_1
      have gx27 := rg x27
      have gx30 := rg x30
      refine k_iload_n C rfl rfl rfl ?_
      refine b_if_eq C (t := 56) rfl rfl rfl (fun c35 => ?_) (fun c35 => ?_)
      · skip
        refine k_iload_n C rfl rfl rfl ?_
        exact k_iret C rfl (Or.inr ⟨rfl, z01 (by omega) (by omega)⟩) (Nat.le_of_ble_eq_true rfl) (Nat.le_of_ble_eq_true rfl) ⟨_, _, _, rfl, rfl, by omega, by omega, by (try simp only [z_r0_1, z_r1_1]); first | exact ff19_0.e0 (by omega) | exact ff19_0.e1 (by rw [k0_r0_0]; omega), rfl, rfl⟩
      refine k_iload_n C rfl rfl rfl ?_
      refine k_aload_n C rfl rfl rfl ?_
      refine g_I C rfl rfl rfl T_r0 rfl k0_r0_0 ?_
      refine b_icmp_gt C (t := 56) rfl rfl rfl (fun c36 => ?_) (fun c36 => ?_)
      · skip
        refine k_iload_n C rfl rfl rfl ?_
        exact k_iret C rfl (Or.inr ⟨rfl, z01 (by omega) (by omega)⟩) (Nat.le_of_ble_eq_true rfl) (Nat.le_of_ble_eq_true rfl) ⟨_, _, _, rfl, rfl, by omega, by omega, by (try simp only [z_r0_1, z_r1_1]); first | exact ff19_0.e0 (by omega) | exact ff19_0.e1 (by rw [k0_r0_0]; omega), rfl, rfl⟩
      refine k_aload_n C rfl rfl rfl ?_
      refine k_iload_n C rfl rfl rfl ?_
      refine c_VI C (s_X2_get_x hS hI H_r0) rfl rfl rfl rfl rfl ⟨_, rfl, rfl, T_r0, Nat.le_of_ble_eq_true rfl⟩ rfl rfl (Nat.le_of_ble_eq_true rfl) (Nat.le_of_ble_eq_true rfl) (Nat.le_of_ble_eq_true rfl) ?_
      rintro x37 _ _ ⟨p0x37, rfl, rfl⟩
      have gx37 := rg x37
      try simp only [z_r0_1, z_r1_1] at p0x37
      try simp only [k0_r0_0, k0_r1_0] at p0x37
      try have q0x37 := congrArg Int32.toInt p0x37
      have hg1 := p0x37; (try simp only [k0_r0_0] at hg1)
      refine k_aload_n C rfl rfl rfl ?_
      refine k_iload_n C rfl rfl rfl ?_
      refine c_VI C (s_X2_get_x hS hI H_r1) rfl rfl rfl rfl rfl ⟨_, rfl, rfl, T_r1, Nat.le_of_ble_eq_true rfl⟩ rfl rfl (Nat.le_of_ble_eq_true rfl) (Nat.le_of_ble_eq_true rfl) (Nat.le_of_ble_eq_true rfl) ?_
      rintro x38 _ _ ⟨p0x38, rfl, rfl⟩
      have gx38 := rg x38
      try simp only [z_r0_1, z_r1_1] at p0x38
      try simp only [k0_r0_0, k0_r1_0] at p0x38
      try have q0x38 := congrArg Int32.toInt p0x38
      have hg2 := p0x38; (try simp only [k0_r1_0] at hg2)
      refine b_icmp_ne C (t := 48) rfl rfl rfl (fun c39 => ?_) (fun c39 => ?_)
      · skip
        refine z_iconst C (z := 0) rfl rfl rfl (fun x40 ex40 => ?_)
        refine k_istore_n C (lw := [(2, .int x40), (0, .ref r0), (1, .ref r1), (3, .int x30)]) rfl rfl (Nat.le_of_ble_eq_true rfl) rfl ?_
        refine z_iinc C (z := 1) (lw := fun x41 => [(3, .int x41), (2, .int x40), (0, .ref r0), (1, .ref r1)]) rfl rfl rfl (Nat.le_of_ble_eq_true rfl) rfl ⟨by omega, by omega⟩ (fun _ => rfl) (fun x41 ex41 => ?_)
        show V 53 [(3, .int x41), (2, .int x40), (0, .ref r0), (1, .ref r1)] _ _ _ _
        refine k_goto C (pc2 := 19) rfl rfl ?_
        refine k_sub S [(0, .ref r0), (1, .ref r1), (2, .int x40), (3, .int x41)] (List.forall_mem_cons.mpr ⟨List.mem_of_getElem? (i := 2) rfl, List.forall_mem_cons.mpr ⟨List.mem_of_getElem? (i := 3) rfl, List.forall_mem_cons.mpr ⟨List.mem_of_getElem? (i := 1) rfl, List.forall_mem_cons.mpr ⟨List.mem_of_getElem? (i := 0) rfl, fun _ h => nomatch h⟩⟩⟩⟩) ?_
        exact ihJ25 _ (MN.lt hmnn26 (by omega) (by omega)) x40 x41 rfl (by omega) (by omega) (by omega) (by omega) (by first | exact MTL.s1 ff19_0 (by omega) z_r0_1 z_r1_1 hg1 hg2 (by omega) (by omega) (by omega) (by have := ff19_1 (by omega); omega) (by omega) (by omega) | exact MTL.s0 (k := x30) z_r0_1 z_r1_1 hg1 hg2 (by omega) (by omega) (by omega) (by have := ff19_1 (by omega); omega) (by rw [k0_r1_0]) (by omega)) (by intro _; first | omega | (have := ff19_1 (by omega); omega))
      refine z_iconst C (z := 1) rfl rfl rfl (fun x42 ex42 => ?_)
      refine k_goto C (pc2 := 49) rfl rfl ?_
      refine k_istore_n C (lw := [(2, .int x42), (0, .ref r0), (1, .ref r1), (3, .int x30)]) rfl rfl (Nat.le_of_ble_eq_true rfl) rfl ?_
      refine z_iinc C (z := 1) (lw := fun x43 => [(3, .int x43), (2, .int x42), (0, .ref r0), (1, .ref r1)]) rfl rfl rfl (Nat.le_of_ble_eq_true rfl) rfl ⟨by omega, by omega⟩ (fun _ => rfl) (fun x43 ex43 => ?_)
      show V 53 [(3, .int x43), (2, .int x42), (0, .ref r0), (1, .ref r1)] _ _ _ _
      refine k_goto C (pc2 := 19) rfl rfl ?_
      refine k_sub S [(0, .ref r0), (1, .ref r1), (2, .int x42), (3, .int x43)] (List.forall_mem_cons.mpr ⟨List.mem_of_getElem? (i := 2) rfl, List.forall_mem_cons.mpr ⟨List.mem_of_getElem? (i := 3) rfl, List.forall_mem_cons.mpr ⟨List.mem_of_getElem? (i := 1) rfl, List.forall_mem_cons.mpr ⟨List.mem_of_getElem? (i := 0) rfl, fun _ h => nomatch h⟩⟩⟩⟩) ?_
      exact ihJ25 _ (MN.lt hmnn26 (by omega) (by omega)) x42 x43 rfl (by omega) (by omega) (by omega) (by omega) (by first | exact MTL.s1 ff19_0 (by omega) z_r0_1 z_r1_1 hg1 hg2 (by omega) (by omega) (by omega) (by have := ff19_1 (by omega); omega) (by omega) (by omega) | exact MTL.s0 (k := x30) z_r0_1 z_r1_1 hg1 hg2 (by omega) (by omega) (by omega) (by have := ff19_1 (by omega); omega) (by rw [k0_r1_0]) (by omega)) (by intro _; first | omega | (have := ff19_1 (by omega); omega))
  refine k_istore_n C (lw := [(3, .int x24), (2, .int x23), (0, .ref r0), (1, .ref r1)]) rfl rfl (Nat.le_of_ble_eq_true rfl) rfl ?_
  refine k_sub S [(0, .ref r0), (1, .ref r1), (2, .int x23), (3, .int x24)] (List.forall_mem_cons.mpr ⟨List.mem_of_getElem? (i := 2) rfl, List.forall_mem_cons.mpr ⟨List.mem_of_getElem? (i := 3) rfl, List.forall_mem_cons.mpr ⟨List.mem_of_getElem? (i := 1) rfl, List.forall_mem_cons.mpr ⟨List.mem_of_getElem? (i := 0) rfl, fun _ h => nomatch h⟩⟩⟩⟩) ?_
  exact J25 _ x23 x24 rfl (by omega) (by omega) (by omega) (by omega) (by first | exact MTL.z1 (by rw [k0_r0_0, k0_r1_0]; omega) (by omega) (by omega) | exact MTL.z0 (by rw [k0_r0_0, k0_r1_0]; omega) (by omega)) (by intro _; omega)

theorem s_X11_toldForm_x {d : Nat} {T N : Nat → Nat} {I : IT} {L : LT} {R : RT} {A B : Nat → Prop} {r0 : Nat} {n1 : Int32} (hS : SUB B A) (hI : IX A T I) (H_r0 : (hs_LF T N R A B) r0) : Ex (d + 3) 133 [.ref r0, .int n1] (T, N, I, L, R) 1 6 (pW2 [3] T N R (pR T N R (fun x9 I9 L9 => (∃ b, x9 = some b ∧ (hs_F T N R A B) b) ∧ (x9 = R (rA R (rA R r0 1) 8) n1.toNatClampNeg) ∧ (0 ≤ n1.toInt ∧ n1.toInt < (I (rA R r0 1) 1).toInt ∧ n1.toInt < 16) ∧ (I = I9 ∧ L = L9))) (fun e9 I9 L9 => (I = I9 ∧ L = L9) ∧ (e9 = 3 → n1.toInt < 0 ∨ (I (rA R r0 1) 1).toInt ≤ n1.toInt ∨ 16 ≤ n1.toInt))) := by
  refine ⟨_, rfl, Nat.le_of_ble_eq_true rfl, fun V C S => ?_⟩
  show V 0 [(0, .ref r0), (1, .int n1)] [] (T, N, I, L, R) 0 0
  have gn1 := rg n1
  obtain ⟨T_r0, A_r0, B_r0, ⟨r0_0, R_r0_0, H_r0_0⟩, ⟨r0_1, R_r0_1, H_r0_1⟩, ⟨r0_2, R_r0_2, H_r0_2⟩, ⟨r0_5, R_r0_5, H_r0_5⟩, ⟨r0_6, R_r0_6, H_r0_6⟩, ⟨r0_7, R_r0_7, H_r0_7⟩, ⟨r0_8, R_r0_8, H_r0_8⟩, ⟨r0_9, R_r0_9, H_r0_9⟩, ⟨r0_10, R_r0_10, H_r0_10⟩, ⟨r0_11, R_r0_11, H_r0_11⟩, ⟨r0_12, R_r0_12, H_r0_12⟩, ⟨r0_13, R_r0_13, H_r0_13⟩⟩ := id H_r0
  have z_r0_0 : rA R r0 0 = r0_0 := rA_e R_r0_0
  have z_r0_1 : rA R r0 1 = r0_1 := rA_e R_r0_1
  have z_r0_2 : rA R r0 2 = r0_2 := rA_e R_r0_2
  have z_r0_5 : rA R r0 5 = r0_5 := rA_e R_r0_5
  have z_r0_6 : rA R r0 6 = r0_6 := rA_e R_r0_6
  have z_r0_7 : rA R r0 7 = r0_7 := rA_e R_r0_7
  have z_r0_8 : rA R r0 8 = r0_8 := rA_e R_r0_8
  have z_r0_9 : rA R r0 9 = r0_9 := rA_e R_r0_9
  have z_r0_10 : rA R r0 10 = r0_10 := rA_e R_r0_10
  have z_r0_11 : rA R r0 11 = r0_11 := rA_e R_r0_11
  have z_r0_12 : rA R r0 12 = r0_12 := rA_e R_r0_12
  have z_r0_13 : rA R r0 13 = r0_13 := rA_e R_r0_13
  obtain ⟨T_r0_1, A_r0_1, B_r0_1, ⟨r0_1_6, R_r0_1_6, H_r0_1_6⟩, ⟨r0_1_7, R_r0_1_7, H_r0_1_7⟩, ⟨r0_1_8, R_r0_1_8, H_r0_1_8⟩, ⟨r0_1_9, R_r0_1_9, H_r0_1_9⟩, ⟨r0_1_10, R_r0_1_10, H_r0_1_10⟩⟩ := id H_r0_1
  have z_r0_1_6 : rA R r0_1 6 = r0_1_6 := rA_e R_r0_1_6
  have z_r0_1_7 : rA R r0_1 7 = r0_1_7 := rA_e R_r0_1_7
  have z_r0_1_8 : rA R r0_1 8 = r0_1_8 := rA_e R_r0_1_8
  have z_r0_1_9 : rA R r0_1 9 = r0_1_9 := rA_e R_r0_1_9
  have z_r0_1_10 : rA R r0_1 10 = r0_1_10 := rA_e R_r0_1_10
  obtain ⟨T_r0_1_8, N_r0_1_8, A_r0_1_8, E_r0_1_8⟩ := id H_r0_1_8
  obtain ⟨w_r0_1_1, k0_r0_1_1⟩ : ∃ x, I r0_1 1 = x := ⟨_, rfl⟩
  have gw_r0_1_1 := rg w_r0_1_1
  refine k_aload_n C rfl rfl rfl ?_
  refine g_R C rfl rfl rfl T_r0 rfl R_r0_1 ?_
  refine k_iload_n C rfl rfl rfl ?_
  refine c_VR C (s_X8_formAt_x hS hI H_r0_1) rfl rfl rfl rfl rfl ⟨_, rfl, rfl, T_r0_1, Nat.le_of_ble_eq_true rfl⟩ rfl rfl (Nat.le_of_ble_eq_true rfl) (Nat.le_of_ble_eq_true rfl) (Nat.le_of_ble_eq_true rfl) ?_
  rintro yy1 _ _ ⟨hyy1, p0yy1, rfl, rfl⟩
  try simp only [z_r0_0, z_r0_1, z_r0_2, z_r0_5, z_r0_6, z_r0_7, z_r0_8, z_r0_9, z_r0_10, z_r0_11, z_r0_12, z_r0_13, z_r0_1_6, z_r0_1_7, z_r0_1_8, z_r0_1_9, z_r0_1_10] at p0yy1
  try simp only [k0_r0_1_1] at p0yy1
  try have q0yy1 := congrArg Int32.toInt p0yy1
  have hfA := p0yy1
  refine k_astore_nV C (x := yy1) (lw := [(2, va_rf yy1), (0, .ref r0), (1, .int n1)]) rfl rfl (Nat.le_of_ble_eq_true rfl) rfl ?_
  refine k_aload_nV C (x := yy1) rfl rfl rfl ?_
  refine k_ifnonnull C (x := yy1) (t := 21) rfl rfl rfl (fun c2 => ?_) (fun rr3 c2 => ?_)
  · skip
    subst c2
    exact k_throw C rfl rfl rfl rfl rfl rfl (Nat.le_of_ble_eq_true rfl) (Nat.le_of_ble_eq_true rfl) (Nat.le_of_ble_eq_true rfl) (Or.inr ⟨_, _, _, (by decide : 3 ∈ [3]), rfl, rfl, ⟨⟨rfl, rfl⟩, (fun _ => by simp only [z_r0_1, k0_r0_1_1]; have q9 := FAD.no hfA E_r0_1_8; omega)⟩⟩)
  subst c2
  have H_rr3 := hyy1 rr3 rfl
  refine k_aload_n C rfl rfl rfl ?_
  exact k_aret C (x := some _) rfl (Or.inl ⟨_, rfl⟩) (Nat.le_of_ble_eq_true rfl) (Nat.le_of_ble_eq_true rfl) (Or.inl ⟨_, _, _, rfl, rfl, ⟨_, rfl, H_rr3⟩, by (try simp only [z_r0_0, z_r0_1, z_r0_2, z_r0_5, z_r0_6, z_r0_7, z_r0_8, z_r0_9, z_r0_10, z_r0_11, z_r0_12, z_r0_13, z_r0_1_6, z_r0_1_7, z_r0_1_8, z_r0_1_9, z_r0_1_10]); exact (FAD.q hfA).2.2.2.symm, by (try simp only [z_r0_0, z_r0_1, z_r0_2, z_r0_5, z_r0_6, z_r0_7, z_r0_8, z_r0_9, z_r0_10, z_r0_11, z_r0_12, z_r0_13, z_r0_1_6, z_r0_1_7, z_r0_1_8, z_r0_1_9, z_r0_1_10]); simp only [k0_r0_1_1]; have q9 := FAD.q hfA; omega, rfl, rfl⟩)

theorem s_X11_toldTable_x {d : Nat} {T N : Nat → Nat} {I : IT} {L : LT} {R : RT} {A B : Nat → Prop} {r0 : Nat} {n1 : Int32} (hS : SUB B A) (hI : IX A T I) (H_r0 : (hs_LF T N R A B) r0) : Ex (d + 2) 134 [.ref r0, .int n1] (T, N, I, L, R) 1 6 (pW2 [3] T N R (pR T N R (fun x9 I9 L9 => (∃ b, x9 = some b ∧ (hs_Tb T N R A B) b) ∧ (x9 = R (rA R (rA R r0 1) 9) n1.toNatClampNeg) ∧ (0 ≤ n1.toInt ∧ n1.toInt < (I (rA R r0 1) 2).toInt ∧ n1.toInt < 8) ∧ (I = I9 ∧ L = L9))) (fun e9 I9 L9 => (I = I9 ∧ L = L9) ∧ (e9 = 3 → n1.toInt < 0 ∨ (I (rA R r0 1) 2).toInt ≤ n1.toInt ∨ 8 ≤ n1.toInt))) := by
  refine ⟨_, rfl, Nat.le_of_ble_eq_true rfl, fun V C S => ?_⟩
  show V 0 [(0, .ref r0), (1, .int n1)] [] (T, N, I, L, R) 0 0
  have gn1 := rg n1
  obtain ⟨T_r0, A_r0, B_r0, ⟨r0_0, R_r0_0, H_r0_0⟩, ⟨r0_1, R_r0_1, H_r0_1⟩, ⟨r0_2, R_r0_2, H_r0_2⟩, ⟨r0_5, R_r0_5, H_r0_5⟩, ⟨r0_6, R_r0_6, H_r0_6⟩, ⟨r0_7, R_r0_7, H_r0_7⟩, ⟨r0_8, R_r0_8, H_r0_8⟩, ⟨r0_9, R_r0_9, H_r0_9⟩, ⟨r0_10, R_r0_10, H_r0_10⟩, ⟨r0_11, R_r0_11, H_r0_11⟩, ⟨r0_12, R_r0_12, H_r0_12⟩, ⟨r0_13, R_r0_13, H_r0_13⟩⟩ := id H_r0
  have z_r0_0 : rA R r0 0 = r0_0 := rA_e R_r0_0
  have z_r0_1 : rA R r0 1 = r0_1 := rA_e R_r0_1
  have z_r0_2 : rA R r0 2 = r0_2 := rA_e R_r0_2
  have z_r0_5 : rA R r0 5 = r0_5 := rA_e R_r0_5
  have z_r0_6 : rA R r0 6 = r0_6 := rA_e R_r0_6
  have z_r0_7 : rA R r0 7 = r0_7 := rA_e R_r0_7
  have z_r0_8 : rA R r0 8 = r0_8 := rA_e R_r0_8
  have z_r0_9 : rA R r0 9 = r0_9 := rA_e R_r0_9
  have z_r0_10 : rA R r0 10 = r0_10 := rA_e R_r0_10
  have z_r0_11 : rA R r0 11 = r0_11 := rA_e R_r0_11
  have z_r0_12 : rA R r0 12 = r0_12 := rA_e R_r0_12
  have z_r0_13 : rA R r0 13 = r0_13 := rA_e R_r0_13
  obtain ⟨T_r0_1, A_r0_1, B_r0_1, ⟨r0_1_6, R_r0_1_6, H_r0_1_6⟩, ⟨r0_1_7, R_r0_1_7, H_r0_1_7⟩, ⟨r0_1_8, R_r0_1_8, H_r0_1_8⟩, ⟨r0_1_9, R_r0_1_9, H_r0_1_9⟩, ⟨r0_1_10, R_r0_1_10, H_r0_1_10⟩⟩ := id H_r0_1
  have z_r0_1_6 : rA R r0_1 6 = r0_1_6 := rA_e R_r0_1_6
  have z_r0_1_7 : rA R r0_1 7 = r0_1_7 := rA_e R_r0_1_7
  have z_r0_1_8 : rA R r0_1 8 = r0_1_8 := rA_e R_r0_1_8
  have z_r0_1_9 : rA R r0_1 9 = r0_1_9 := rA_e R_r0_1_9
  have z_r0_1_10 : rA R r0_1 10 = r0_1_10 := rA_e R_r0_1_10
  obtain ⟨T_r0_1_9, N_r0_1_9, A_r0_1_9, E_r0_1_9⟩ := id H_r0_1_9
  obtain ⟨w_r0_1_2, k0_r0_1_2⟩ : ∃ x, I r0_1 2 = x := ⟨_, rfl⟩
  have gw_r0_1_2 := rg w_r0_1_2
  refine k_aload_n C rfl rfl rfl ?_
  refine g_R C rfl rfl rfl T_r0 rfl R_r0_1 ?_
  refine k_iload_n C rfl rfl rfl ?_
  refine c_VR C (s_X8_tableAt_x hS hI H_r0_1) rfl rfl rfl rfl rfl ⟨_, rfl, rfl, T_r0_1, Nat.le_of_ble_eq_true rfl⟩ rfl rfl (Nat.le_of_ble_eq_true rfl) (Nat.le_of_ble_eq_true rfl) (Nat.le_of_ble_eq_true rfl) ?_
  rintro yy1 _ _ ⟨hyy1, p0yy1, rfl, rfl⟩
  try simp only [z_r0_0, z_r0_1, z_r0_2, z_r0_5, z_r0_6, z_r0_7, z_r0_8, z_r0_9, z_r0_10, z_r0_11, z_r0_12, z_r0_13, z_r0_1_6, z_r0_1_7, z_r0_1_8, z_r0_1_9, z_r0_1_10] at p0yy1
  try simp only [k0_r0_1_2] at p0yy1
  try have q0yy1 := congrArg Int32.toInt p0yy1
  have hfA := p0yy1
  refine k_astore_nV C (x := yy1) (lw := [(2, va_rf yy1), (0, .ref r0), (1, .int n1)]) rfl rfl (Nat.le_of_ble_eq_true rfl) rfl ?_
  refine k_aload_nV C (x := yy1) rfl rfl rfl ?_
  refine k_ifnonnull C (x := yy1) (t := 21) rfl rfl rfl (fun c2 => ?_) (fun rr3 c2 => ?_)
  · skip
    subst c2
    exact k_throw C rfl rfl rfl rfl rfl rfl (Nat.le_of_ble_eq_true rfl) (Nat.le_of_ble_eq_true rfl) (Nat.le_of_ble_eq_true rfl) (Or.inr ⟨_, _, _, (by decide : 3 ∈ [3]), rfl, rfl, ⟨⟨rfl, rfl⟩, (fun _ => by simp only [z_r0_1, k0_r0_1_2]; have q9 := FAD.no hfA E_r0_1_9; omega)⟩⟩)
  subst c2
  have H_rr3 := hyy1 rr3 rfl
  refine k_aload_n C rfl rfl rfl ?_
  exact k_aret C (x := some _) rfl (Or.inl ⟨_, rfl⟩) (Nat.le_of_ble_eq_true rfl) (Nat.le_of_ble_eq_true rfl) (Or.inl ⟨_, _, _, rfl, rfl, ⟨_, rfl, H_rr3⟩, by (try simp only [z_r0_0, z_r0_1, z_r0_2, z_r0_5, z_r0_6, z_r0_7, z_r0_8, z_r0_9, z_r0_10, z_r0_11, z_r0_12, z_r0_13, z_r0_1_6, z_r0_1_7, z_r0_1_8, z_r0_1_9, z_r0_1_10]); exact (FAD.q hfA).2.2.2.symm, by (try simp only [z_r0_0, z_r0_1, z_r0_2, z_r0_5, z_r0_6, z_r0_7, z_r0_8, z_r0_9, z_r0_10, z_r0_11, z_r0_12, z_r0_13, z_r0_1_6, z_r0_1_7, z_r0_1_8, z_r0_1_9, z_r0_1_10]); simp only [k0_r0_1_2]; have q9 := FAD.q hfA; omega, rfl, rfl⟩)

theorem s_X11_mix_x {d : Nat} {T N : Nat → Nat} {I : IT} {L : LT} {R : RT} {A B : Nat → Prop} {r0 : Nat} {n1 n2 : Int32} (hS : SUB B A) (hI : IX A T I) (H_r0 : (hs_LF T N R A B) r0) (hU : UPR T R) (hp0 : 0 ≤ (I (rA R r0 1) 4).toInt) (hp1 : (I (rA R r0 1) 4).toInt ≤ 40) (hp2 : rA R (rA R r0 5) 0 = (rA R r0 1)) (hp3 : ∀ j : Nat, (j : Int) < (I (rA R r0 1) 1).toInt → BNX I (rA R (FA R (rA R r0 1) j) 1) (I (FA R (rA R r0 1) j) 0).toInt (I (rA R r0 1) 0).toInt) (hp4 : ∀ j : Nat, (j : Int) < (I (rA R r0 1) 2).toInt → ∀ k : Nat, k < 4 → 0 ≤ (I (TA R (rA R r0 1) j) k).toInt ∧ (I (TA R (rA R r0 1) j) k).toInt < (I (rA R r0 1) 0).toInt) (hp5 : ∀ j, j < 16 → ¬ B (FA R (rA R r0 1) j) ∧ ¬ B (rA R (FA R (rA R r0 1) j) 1)) : Ex (d + 5) 143 [.ref r0, .int n1, .int n2] (T, N, I, L, R) 2 12 (pW2 [3] T N R (pI T N R (fun x9 I9 L9 => (0 ≤ x9.toInt) ∧ (x9.toInt ≤ 1) ∧ (¬ ((n1.toInt < 0 ∨ (I (rA R r0 1) 1).toInt ≤ n1.toInt ∨ 16 ≤ n1.toInt) ∨ (n2.toInt < 0 ∨ (I (rA R r0 1) 2).toInt ≤ n2.toInt ∨ 8 ≤ n2.toInt))) ∧ ((I9 (FA R (rA R r0 1) n1.toNatClampNeg) 0).toInt = (I (FA R (rA R r0 1) n1.toNatClampNeg) 0).toInt) ∧ (VRX I9 (rA R (FA R (rA R r0 1) n1.toNatClampNeg) 1) (I (rA R r0 1) 0).toInt (I (FA R (rA R r0 1) n1.toNatClampNeg) 0).toInt (PmX (I (TA R (rA R r0 1) n2.toNatClampNeg) 0).toInt (I (TA R (rA R r0 1) n2.toNatClampNeg) 1).toInt (I (TA R (rA R r0 1) n2.toNatClampNeg) 2).toInt (I (TA R (rA R r0 1) n2.toNatClampNeg) 3).toInt (NF I (rA R (FA R (rA R r0 1) n1.toNatClampNeg) 1)) (I (FA R (rA R r0 1) n1.toNatClampNeg) 0).toInt.toNat)) ∧ (WRD R I9 I (rA R r0 1) n1 (FA R (rA R r0 1) n1.toNatClampNeg) (I (rA R r0 1) 4).toInt) ∧ ((I9 (rA R r0 1) 5).toInt = 0) ∧ (FSM R I9 I (rA R r0 1) n1.toInt) ∧ (IFF (1 - x9.toInt) (∀ k : Nat, (k : Int) ≤ (I (FA R (rA R r0 1) n1.toNatClampNeg) 0).toInt → (I9 (rA R (FA R (rA R r0 1) n1.toNatClampNeg) 1) k).toInt = (I (rA R (FA R (rA R r0 1) n1.toNatClampNeg) 1) k).toInt)) ∧ (IX A T I9 ∧ Chg (fun a => (B a ∧ T a ≠ 9) ∨ WSX R (rA R r0 1) a ∨ a = FA R (rA R r0 1) n1.toNatClampNeg ∨ a = rA R (FA R (rA R r0 1) n1.toNatClampNeg) 1) T [(3, 0), (9, 4), (9, 5)] I L I9 L9))) (fun e9 I9 L9 => (IX A T I9 ∧ Chg (fun a => (B a ∧ T a ≠ 9) ∨ WSX R (rA R r0 1) a ∨ a = FA R (rA R r0 1) n1.toNatClampNeg ∨ a = rA R (FA R (rA R r0 1) n1.toNatClampNeg) 1) T [(3, 0), (9, 4), (9, 5)] I L I9 L9) ∧ (e9 = 3 → ((n1.toInt < 0 ∨ (I (rA R r0 1) 1).toInt ≤ n1.toInt ∨ 16 ≤ n1.toInt) ∨ (n2.toInt < 0 ∨ (I (rA R r0 1) 2).toInt ≤ n2.toInt ∨ 8 ≤ n2.toInt))) ∧ (e9 = 3 → ∀ a k, I9 a k = I a k))) := by
  refine ⟨_, rfl, Nat.le_of_ble_eq_true rfl, fun V C S => ?_⟩
  show V 0 [(0, .ref r0), (1, .int n1), (2, .int n2)] [] (T, N, I, L, R) 0 0
  have gn1 := rg n1
  have gn2 := rg n2
  obtain ⟨T_r0, A_r0, B_r0, ⟨r0_0, R_r0_0, H_r0_0⟩, ⟨r0_1, R_r0_1, H_r0_1⟩, ⟨r0_2, R_r0_2, H_r0_2⟩, ⟨r0_5, R_r0_5, H_r0_5⟩, ⟨r0_6, R_r0_6, H_r0_6⟩, ⟨r0_7, R_r0_7, H_r0_7⟩, ⟨r0_8, R_r0_8, H_r0_8⟩, ⟨r0_9, R_r0_9, H_r0_9⟩, ⟨r0_10, R_r0_10, H_r0_10⟩, ⟨r0_11, R_r0_11, H_r0_11⟩, ⟨r0_12, R_r0_12, H_r0_12⟩, ⟨r0_13, R_r0_13, H_r0_13⟩⟩ := id H_r0
  have z_r0_0 : rA R r0 0 = r0_0 := rA_e R_r0_0
  have z_r0_1 : rA R r0 1 = r0_1 := rA_e R_r0_1
  have z_r0_2 : rA R r0 2 = r0_2 := rA_e R_r0_2
  have z_r0_5 : rA R r0 5 = r0_5 := rA_e R_r0_5
  have z_r0_6 : rA R r0 6 = r0_6 := rA_e R_r0_6
  have z_r0_7 : rA R r0 7 = r0_7 := rA_e R_r0_7
  have z_r0_8 : rA R r0 8 = r0_8 := rA_e R_r0_8
  have z_r0_9 : rA R r0 9 = r0_9 := rA_e R_r0_9
  have z_r0_10 : rA R r0 10 = r0_10 := rA_e R_r0_10
  have z_r0_11 : rA R r0 11 = r0_11 := rA_e R_r0_11
  have z_r0_12 : rA R r0 12 = r0_12 := rA_e R_r0_12
  have z_r0_13 : rA R r0 13 = r0_13 := rA_e R_r0_13
  obtain ⟨T_r0_1, A_r0_1, B_r0_1, ⟨r0_1_6, R_r0_1_6, H_r0_1_6⟩, ⟨r0_1_7, R_r0_1_7, H_r0_1_7⟩, ⟨r0_1_8, R_r0_1_8, H_r0_1_8⟩, ⟨r0_1_9, R_r0_1_9, H_r0_1_9⟩, ⟨r0_1_10, R_r0_1_10, H_r0_1_10⟩⟩ := id H_r0_1
  have z_r0_1_6 : rA R r0_1 6 = r0_1_6 := rA_e R_r0_1_6
  have z_r0_1_7 : rA R r0_1 7 = r0_1_7 := rA_e R_r0_1_7
  have z_r0_1_8 : rA R r0_1 8 = r0_1_8 := rA_e R_r0_1_8
  have z_r0_1_9 : rA R r0_1 9 = r0_1_9 := rA_e R_r0_1_9
  have z_r0_1_10 : rA R r0_1 10 = r0_1_10 := rA_e R_r0_1_10
  obtain ⟨T_r0_5, A_r0_5, B_r0_5, ⟨r0_5_0, R_r0_5_0, H_r0_5_0⟩, ⟨r0_5_1, R_r0_5_1, H_r0_5_1⟩, ⟨r0_5_2, R_r0_5_2, H_r0_5_2⟩⟩ := id H_r0_5
  have z_r0_5_0 : rA R r0_5 0 = r0_5_0 := rA_e R_r0_5_0
  have z_r0_5_1 : rA R r0_5 1 = r0_5_1 := rA_e R_r0_5_1
  have z_r0_5_2 : rA R r0_5 2 = r0_5_2 := rA_e R_r0_5_2
  obtain ⟨T_r0_5_2, A_r0_5_2, B_r0_5_2, ⟨r0_5_2_1, R_r0_5_2_1, H_r0_5_2_1⟩⟩ := id H_r0_5_2
  have z_r0_5_2_1 : rA R r0_5_2 1 = r0_5_2_1 := rA_e R_r0_5_2_1
  obtain ⟨T_r0_12, A_r0_12, B_r0_12, ⟨r0_12_1, R_r0_12_1, H_r0_12_1⟩⟩ := id H_r0_12
  have z_r0_12_1 : rA R r0_12 1 = r0_12_1 := rA_e R_r0_12_1
  obtain ⟨T_r0_12_1, N_r0_12_1, A_r0_12_1⟩ := id H_r0_12_1
  obtain ⟨T_r0_5_2_1, N_r0_5_2_1, A_r0_5_2_1⟩ := id H_r0_5_2_1
  have hG := GS.of H_r0_1
  obtain ⟨T_r0_1_8, N_r0_1_8, A_r0_1_8, E_r0_1_8⟩ := id H_r0_1_8
  obtain ⟨T_r0_1_9, N_r0_1_9, A_r0_1_9, E_r0_1_9⟩ := id H_r0_1_9
  try simp only [z_r0_0, z_r0_1, z_r0_2, z_r0_5, z_r0_6, z_r0_7, z_r0_8, z_r0_9, z_r0_10, z_r0_11, z_r0_12, z_r0_13, z_r0_1_6, z_r0_1_7, z_r0_1_8, z_r0_1_9, z_r0_1_10, z_r0_5_0, z_r0_5_1, z_r0_5_2, z_r0_5_2_1, z_r0_12_1] at hp0
  try simp only [z_r0_0, z_r0_1, z_r0_2, z_r0_5, z_r0_6, z_r0_7, z_r0_8, z_r0_9, z_r0_10, z_r0_11, z_r0_12, z_r0_13, z_r0_1_6, z_r0_1_7, z_r0_1_8, z_r0_1_9, z_r0_1_10, z_r0_5_0, z_r0_5_1, z_r0_5_2, z_r0_5_2_1, z_r0_12_1] at hp1
  try simp only [z_r0_0, z_r0_1, z_r0_2, z_r0_5, z_r0_6, z_r0_7, z_r0_8, z_r0_9, z_r0_10, z_r0_11, z_r0_12, z_r0_13, z_r0_1_6, z_r0_1_7, z_r0_1_8, z_r0_1_9, z_r0_1_10, z_r0_5_0, z_r0_5_1, z_r0_5_2, z_r0_5_2_1, z_r0_12_1] at hp2
  try simp only [z_r0_0, z_r0_1, z_r0_2, z_r0_5, z_r0_6, z_r0_7, z_r0_8, z_r0_9, z_r0_10, z_r0_11, z_r0_12, z_r0_13, z_r0_1_6, z_r0_1_7, z_r0_1_8, z_r0_1_9, z_r0_1_10, z_r0_5_0, z_r0_5_1, z_r0_5_2, z_r0_5_2_1, z_r0_12_1] at hp3
  try simp only [z_r0_0, z_r0_1, z_r0_2, z_r0_5, z_r0_6, z_r0_7, z_r0_8, z_r0_9, z_r0_10, z_r0_11, z_r0_12, z_r0_13, z_r0_1_6, z_r0_1_7, z_r0_1_8, z_r0_1_9, z_r0_1_10, z_r0_5_0, z_r0_5_1, z_r0_5_2, z_r0_5_2_1, z_r0_12_1] at hp4
  try simp only [z_r0_0, z_r0_1, z_r0_2, z_r0_5, z_r0_6, z_r0_7, z_r0_8, z_r0_9, z_r0_10, z_r0_11, z_r0_12, z_r0_13, z_r0_1_6, z_r0_1_7, z_r0_1_8, z_r0_1_9, z_r0_1_10, z_r0_5_0, z_r0_5_1, z_r0_5_2, z_r0_5_2_1, z_r0_12_1] at hp5
  obtain ⟨w_r0_1_0, k0_r0_1_0⟩ : ∃ x, I r0_1 0 = x := ⟨_, rfl⟩
  have gw_r0_1_0 := rg w_r0_1_0
  have ow_r0_1_0 := IX.p hI A_r0_1 T_r0_1 k0_r0_1_0
  obtain ⟨w_r0_1_1, k0_r0_1_1⟩ : ∃ x, I r0_1 1 = x := ⟨_, rfl⟩
  have gw_r0_1_1 := rg w_r0_1_1
  obtain ⟨w_r0_1_2, k0_r0_1_2⟩ : ∃ x, I r0_1 2 = x := ⟨_, rfl⟩
  have gw_r0_1_2 := rg w_r0_1_2
  obtain ⟨w_r0_1_4, k0_r0_1_4⟩ : ∃ x, I r0_1 4 = x := ⟨_, rfl⟩
  have gw_r0_1_4 := rg w_r0_1_4
  obtain ⟨w_r0_1_5, k0_r0_1_5⟩ : ∃ x, I r0_1 5 = x := ⟨_, rfl⟩
  have gw_r0_1_5 := rg w_r0_1_5
  try simp only [k0_r0_1_0, k0_r0_1_1, k0_r0_1_2, k0_r0_1_4, k0_r0_1_5] at hp0
  try simp only [k0_r0_1_0, k0_r0_1_1, k0_r0_1_2, k0_r0_1_4, k0_r0_1_5] at hp1
  try simp only [k0_r0_1_0, k0_r0_1_1, k0_r0_1_2, k0_r0_1_4, k0_r0_1_5] at hp2
  try simp only [k0_r0_1_0, k0_r0_1_1, k0_r0_1_2, k0_r0_1_4, k0_r0_1_5] at hp3
  try simp only [k0_r0_1_0, k0_r0_1_1, k0_r0_1_2, k0_r0_1_4, k0_r0_1_5] at hp4
  try simp only [k0_r0_1_0, k0_r0_1_1, k0_r0_1_2, k0_r0_1_4, k0_r0_1_5] at hp5
  have n87 : r0_1_8 ≠ rA R r0_1 7 := by have := GS.r87 hU hG hG; rwa [z_r0_1_8] at this
  have nM7 : r0 ≠ rA R r0_1 7 := fun e => by have := hG.2.2.1.2; rw [← e] at this; omega
  have nR7 : r0_5 ≠ rA R r0_1 7 := fun e => by have := hG.2.2.1.2; rw [← e] at this; omega
  have fM : FO T R r0_12 := FO.of (hs_GF hS H_r0_12)
  have fR : FO T R r0_5_2 := FO.of (hs_GF hS H_r0_5_2)
  refine k_aload_n C rfl rfl rfl ?_
  refine k_iload_n C rfl rfl rfl ?_
  refine w2_VR C (s_X11_toldForm_x hS hI H_r0) rfl rfl rfl rfl rfl ⟨_, rfl, rfl, T_r0, Nat.le_of_ble_eq_true rfl⟩ rfl rfl (Nat.le_of_ble_eq_true rfl) (Nat.le_of_ble_eq_true rfl) (Nat.le_of_ble_eq_true rfl) (by decide) (fun e9 he I9 L9 hq => by obtain ⟨⟨rfl, rfl⟩, hq⟩ := hq; exact Or.inl ⟨rfl, Or.inr ⟨e9, _, _, (by decide : ∀ z ∈ [3], z ∈ [3]) e9 he, rfl, rfl, ⟨⟨hI, (by (try simp only [z_r0_0, z_r0_1, z_r0_2, z_r0_5, z_r0_6, z_r0_7, z_r0_8, z_r0_9, z_r0_10, z_r0_11, z_r0_12, z_r0_13, z_r0_1_6, z_r0_1_7, z_r0_1_8, z_r0_1_9, z_r0_1_10, z_r0_5_0, z_r0_5_1, z_r0_5_2, z_r0_5_2_1, z_r0_12_1]); exact Chg.rf)⟩, (fun h9 => by subst h9; first | exact absurd he (by decide) | (have hx := hq rfl; simp only [z_r0_1, k0_r0_1_1, k0_r0_1_2] at hx ⊢; exact Or.inl hx)), (fun h9 => by subst h9; first | exact absurd he (by decide) | (exact fun _ _ => rfl))⟩⟩⟩) ?_
  rintro yy1 _ _ ⟨hyy1, p0yy1, p1yy1, rfl, rfl⟩
  obtain ⟨rr2, err2, H_rr2⟩ := hyy1
  subst err2
  try simp only [z_r0_0, z_r0_1, z_r0_2, z_r0_5, z_r0_6, z_r0_7, z_r0_8, z_r0_9, z_r0_10, z_r0_11, z_r0_12, z_r0_13, z_r0_1_6, z_r0_1_7, z_r0_1_8, z_r0_1_9, z_r0_1_10, z_r0_5_0, z_r0_5_1, z_r0_5_2, z_r0_5_2_1, z_r0_12_1] at p0yy1
  try simp only [z_r0_0, z_r0_1, z_r0_2, z_r0_5, z_r0_6, z_r0_7, z_r0_8, z_r0_9, z_r0_10, z_r0_11, z_r0_12, z_r0_13, z_r0_1_6, z_r0_1_7, z_r0_1_8, z_r0_1_9, z_r0_1_10, z_r0_5_0, z_r0_5_1, z_r0_5_2, z_r0_5_2_1, z_r0_12_1] at p1yy1
  try simp only [k0_r0_1_0, k0_r0_1_1, k0_r0_1_2, k0_r0_1_4, k0_r0_1_5] at p0yy1
  try have q0yy1 := congrArg Int32.toInt p0yy1
  try simp only [k0_r0_1_0, k0_r0_1_1, k0_r0_1_2, k0_r0_1_4, k0_r0_1_5] at p1yy1
  try have q1yy1 := congrArg Int32.toInt p1yy1
  have hF := p0yy1.symm; have hF2 := p1yy1; have nF := ncn (n := 16) (j := n1) (by omega) (by omega); have nF1 := ncz (x := n1) (by omega); have oF := FA_e z_r0_1_8 hF; have fF := FO.of H_rr2; have TF := fF.1; have m1 := hU.ne (Or.inl TF) hF R_r0_12 (Or.inl (t_nq T_r0_1_8 T_r0 (by decide))); have m2 := hU.ne (Or.inl TF) hF R_r0_5_2 (Or.inl (t_nq T_r0_1_8 T_r0_5 (by decide))); have m3 := hU.ne (Or.inl T_r0_12) R_r0_12 R_r0_5_2 (Or.inl (t_nq T_r0 T_r0_5 (by decide)))
  refine k_astore_n C (lw := [(3, .ref rr2), (0, .ref r0), (1, .int n1), (2, .int n2)]) rfl rfl (Nat.le_of_ble_eq_true rfl) rfl ?_
  refine k_aload_n C rfl rfl rfl ?_
  refine k_iload_n C rfl rfl rfl ?_
  refine w2_VR C (s_X11_toldTable_x hS hI H_r0) rfl rfl rfl rfl rfl ⟨_, rfl, rfl, T_r0, Nat.le_of_ble_eq_true rfl⟩ rfl rfl (Nat.le_of_ble_eq_true rfl) (Nat.le_of_ble_eq_true rfl) (Nat.le_of_ble_eq_true rfl) (by decide) (fun e9 he I9 L9 hq => by obtain ⟨⟨rfl, rfl⟩, hq⟩ := hq; exact Or.inl ⟨rfl, Or.inr ⟨e9, _, _, (by decide : ∀ z ∈ [3], z ∈ [3]) e9 he, rfl, rfl, ⟨⟨hI, (by (try simp only [z_r0_0, z_r0_1, z_r0_2, z_r0_5, z_r0_6, z_r0_7, z_r0_8, z_r0_9, z_r0_10, z_r0_11, z_r0_12, z_r0_13, z_r0_1_6, z_r0_1_7, z_r0_1_8, z_r0_1_9, z_r0_1_10, z_r0_5_0, z_r0_5_1, z_r0_5_2, z_r0_5_2_1, z_r0_12_1]); exact Chg.rf)⟩, (fun h9 => by subst h9; first | exact absurd he (by decide) | (have hx := hq rfl; simp only [z_r0_1, k0_r0_1_1, k0_r0_1_2] at hx ⊢; exact Or.inr hx)), (fun h9 => by subst h9; first | exact absurd he (by decide) | (exact fun _ _ => rfl))⟩⟩⟩) ?_
  rintro yy3 _ _ ⟨hyy3, p0yy3, p1yy3, rfl, rfl⟩
  obtain ⟨rr4, err4, H_rr4⟩ := hyy3
  subst err4
  try simp only [z_r0_0, z_r0_1, z_r0_2, z_r0_5, z_r0_6, z_r0_7, z_r0_8, z_r0_9, z_r0_10, z_r0_11, z_r0_12, z_r0_13, z_r0_1_6, z_r0_1_7, z_r0_1_8, z_r0_1_9, z_r0_1_10, z_r0_5_0, z_r0_5_1, z_r0_5_2, z_r0_5_2_1, z_r0_12_1] at p0yy3
  try simp only [z_r0_0, z_r0_1, z_r0_2, z_r0_5, z_r0_6, z_r0_7, z_r0_8, z_r0_9, z_r0_10, z_r0_11, z_r0_12, z_r0_13, z_r0_1_6, z_r0_1_7, z_r0_1_8, z_r0_1_9, z_r0_1_10, z_r0_5_0, z_r0_5_1, z_r0_5_2, z_r0_5_2_1, z_r0_12_1] at p1yy3
  try simp only [k0_r0_1_0, k0_r0_1_1, k0_r0_1_2, k0_r0_1_4, k0_r0_1_5] at p0yy3
  try have q0yy3 := congrArg Int32.toInt p0yy3
  try simp only [k0_r0_1_0, k0_r0_1_1, k0_r0_1_2, k0_r0_1_4, k0_r0_1_5] at p1yy3
  try have q1yy3 := congrArg Int32.toInt p1yy3
  have hT := p0yy3.symm; have hT2 := p1yy3; have nT := ncn (n := 8) (j := n2) (by omega) (by omega); have nT1 := ncz (x := n2) (by omega); have oT := TA_e z_r0_1_9 hT
  refine k_astore C (lw := [(4, .ref rr4), (3, .ref rr2), (0, .ref r0), (1, .int n1), (2, .int n2)]) rfl rfl (Nat.le_of_ble_eq_true rfl) rfl ?_
  refine k_aload_n C rfl rfl rfl ?_
  refine g_R C rfl rfl rfl T_r0 rfl R_r0_5 ?_
  refine k_aload_n C rfl rfl rfl ?_
  refine k_aload C rfl rfl rfl ?_
  refine k_aload_n C rfl rfl rfl ?_
  refine g_R C rfl rfl rfl T_r0 rfl R_r0_12 ?_
  obtain ⟨T_rr2, A_rr2, ⟨rr2_1, R_rr2_1, H_rr2_1⟩⟩ := id H_rr2
  have z_rr2_1 : rA R rr2 1 = rr2_1 := rA_e R_rr2_1
  obtain ⟨T_rr4, A_rr4, B_rr4⟩ := id H_rr4
  refine c_VV C (s_X0_mixInto_x hS hI H_r0_5 H_rr2 H_rr4 (hs_GF hS H_r0_12) hU m1 (by rw [z_r0_5_2]; exact m3) (by rw [z_r0_5_2]; exact m2) (by rw [z_r0_5_0, hp2, ← oF, k0_r0_1_0]; exact hp3 _ (by omega)) (by rw [z_r0_5_0, hp2, ← oT, k0_r0_1_0]; exact hp4 _ (by omega))) rfl rfl rfl rfl rfl ⟨_, rfl, rfl, T_r0_5, Nat.le_of_ble_eq_true rfl⟩ rfl rfl (Nat.le_of_ble_eq_true rfl) (Nat.le_of_ble_eq_true rfl) (Nat.le_of_ble_eq_true rfl) ?_
  rintro I6 L7 ⟨p0v5, p1v5, hI6, S8⟩
  try simp only [z_r0_0, z_r0_1, z_r0_2, z_r0_5, z_r0_6, z_r0_7, z_r0_8, z_r0_9, z_r0_10, z_r0_11, z_r0_12, z_r0_13, z_r0_1_6, z_r0_1_7, z_r0_1_8, z_r0_1_9, z_r0_1_10, z_r0_5_0, z_r0_5_1, z_r0_5_2, z_r0_5_2_1, z_r0_12_1, z_rr2_1] at S8
  have e9 := Chg.k S8 T_r0_1 (by decide) (by decide) k0_r0_1_0
  have e10 := Chg.k S8 T_r0_1 (by decide) (by decide) k0_r0_1_1
  have e11 := Chg.k S8 T_r0_1 (by decide) (by decide) k0_r0_1_2
  have e12 := Chg.k S8 T_r0_1 (by decide) (by decide) k0_r0_1_4
  have e13 := Chg.k S8 T_r0_1 (by decide) (by decide) k0_r0_1_5
  obtain ⟨x14, e15⟩ : ∃ x, I6 r0_12 0 = x := ⟨_, rfl⟩
  have gx14 := rg x14
  have ox14 := IX.deg hI6 A_r0_12 T_r0_12 e15
  try simp only [z_r0_0, z_r0_1, z_r0_2, z_r0_5, z_r0_6, z_r0_7, z_r0_8, z_r0_9, z_r0_10, z_r0_11, z_r0_12, z_r0_13, z_r0_1_6, z_r0_1_7, z_r0_1_8, z_r0_1_9, z_r0_1_10, z_r0_5_0, z_r0_5_1, z_r0_5_2, z_r0_5_2_1, z_r0_12_1, z_rr2_1] at p0v5
  try simp only [z_r0_0, z_r0_1, z_r0_2, z_r0_5, z_r0_6, z_r0_7, z_r0_8, z_r0_9, z_r0_10, z_r0_11, z_r0_12, z_r0_13, z_r0_1_6, z_r0_1_7, z_r0_1_8, z_r0_1_9, z_r0_1_10, z_r0_5_0, z_r0_5_1, z_r0_5_2, z_r0_5_2_1, z_r0_12_1, z_rr2_1] at p1v5
  try simp only [k0_r0_1_0, k0_r0_1_1, k0_r0_1_2, k0_r0_1_4, k0_r0_1_5, e15] at p0v5
  try have q0v5 := congrArg Int32.toInt p0v5
  try simp only [k0_r0_1_0, k0_r0_1_1, k0_r0_1_2, k0_r0_1_4, k0_r0_1_5, e15] at p1v5
  try have q1v5 := congrArg Int32.toInt p1v5
  have hm0 := p0v5; rw [← e15] at hm0; have hmv := p1v5; have hmS := S8
  refine k_aload_n C rfl rfl rfl ?_
  refine g_R C rfl rfl rfl T_r0 rfl R_r0_12 ?_
  refine k_aload_n C rfl rfl rfl ?_
  refine c_VI C (s_X2_matches_x hS hI6 (hs_GF hS H_r0_12) H_rr2) rfl rfl rfl rfl rfl ⟨_, rfl, rfl, T_r0_12, Nat.le_of_ble_eq_true rfl⟩ rfl rfl (Nat.le_of_ble_eq_true rfl) (Nat.le_of_ble_eq_true rfl) (Nat.le_of_ble_eq_true rfl) ?_
  rintro x16 _ _ ⟨o0x16, o1x16, p0x16, rfl, rfl⟩
  have gx16 := rg x16
  try simp only [z_r0_0, z_r0_1, z_r0_2, z_r0_5, z_r0_6, z_r0_7, z_r0_8, z_r0_9, z_r0_10, z_r0_11, z_r0_12, z_r0_13, z_r0_1_6, z_r0_1_7, z_r0_1_8, z_r0_1_9, z_r0_1_10, z_r0_5_0, z_r0_5_1, z_r0_5_2, z_r0_5_2_1, z_r0_12_1, z_rr2_1] at p0x16
  try simp only [e9, e10, e11, e12, e13, e15] at p0x16
  try have q0x16 := congrArg Int32.toInt p0x16
  have hmt := p0x16
  refine b_if_ne C (t := 42) rfl rfl rfl (fun c17 => ?_) (fun c17 => ?_)
  · skip
    refine z_iconst C (z := 0) rfl rfl rfl (fun x18 ex18 => ?_)
    refine k_istore C (lw := [(5, .int x18), (4, .ref rr4), (3, .ref rr2), (0, .ref r0), (1, .int n1), (2, .int n2)]) rfl rfl (Nat.le_of_ble_eq_true rfl) rfl ?_
    refine k_aload_n C rfl rfl rfl ?_
    refine g_R C rfl rfl rfl T_r0 rfl R_r0_1 ?_
    refine k_iload_n C rfl rfl rfl ?_
    refine k_aload_n C rfl rfl rfl ?_
    refine c_VV C (s_X8_write_x hS hI6 H_r0_1 H_rr2 hU (by rw [e12]; omega) (by rw [e12]; omega) (WSX.nf hU hG TF hF n87) (WSX.nb hU hG fF hF n87)) rfl rfl rfl rfl rfl ⟨_, rfl, rfl, T_r0_1, Nat.le_of_ble_eq_true rfl⟩ rfl rfl (Nat.le_of_ble_eq_true rfl) (Nat.le_of_ble_eq_true rfl) (Nat.le_of_ble_eq_true rfl) ?_
    rintro I20 L21 ⟨p0v19, p1v19, hI20, S22⟩
    try simp only [z_r0_0, z_r0_1, z_r0_2, z_r0_5, z_r0_6, z_r0_7, z_r0_8, z_r0_9, z_r0_10, z_r0_11, z_r0_12, z_r0_13, z_r0_1_6, z_r0_1_7, z_r0_1_8, z_r0_1_9, z_r0_1_10, z_r0_5_0, z_r0_5_1, z_r0_5_2, z_r0_5_2_1, z_r0_12_1, z_rr2_1] at S22
    have e23 := Chg.k S22 T_r0_1 (by decide) (by decide) e9
    have e24 := Chg.k S22 T_r0_1 (by decide) (by decide) e10
    have e25 := Chg.k S22 T_r0_1 (by decide) (by decide) e11
    obtain ⟨x26, e27⟩ : ∃ x, I20 r0_1 4 = x := ⟨_, rfl⟩
    have gx26 := rg x26
    obtain ⟨x28, e29⟩ : ∃ x, I20 r0_1 5 = x := ⟨_, rfl⟩
    have gx28 := rg x28
    try simp only [z_r0_0, z_r0_1, z_r0_2, z_r0_5, z_r0_6, z_r0_7, z_r0_8, z_r0_9, z_r0_10, z_r0_11, z_r0_12, z_r0_13, z_r0_1_6, z_r0_1_7, z_r0_1_8, z_r0_1_9, z_r0_1_10, z_r0_5_0, z_r0_5_1, z_r0_5_2, z_r0_5_2_1, z_r0_12_1, z_rr2_1] at p0v19
    try simp only [z_r0_0, z_r0_1, z_r0_2, z_r0_5, z_r0_6, z_r0_7, z_r0_8, z_r0_9, z_r0_10, z_r0_11, z_r0_12, z_r0_13, z_r0_1_6, z_r0_1_7, z_r0_1_8, z_r0_1_9, z_r0_1_10, z_r0_5_0, z_r0_5_1, z_r0_5_2, z_r0_5_2_1, z_r0_12_1, z_rr2_1] at p1v19
    try simp only [e9, e10, e11, e12, e13, e15, e27, e29] at p0v19
    try have q0v19 := congrArg Int32.toInt p0v19
    try simp only [e9, e10, e11, e12, e13, e15, e27, e29] at p1v19
    try have q1v19 := congrArg Int32.toInt p1v19
    have hw := p0v19; have hw5 := p1v19; have hwS := S22
    refine k_aload_n C rfl rfl rfl ?_
    refine k_aload_n C rfl rfl rfl ?_
    refine g_R C rfl rfl rfl T_r0 rfl R_r0_12 ?_
    refine c_VV C (s_X2_copyFrom_x hS hI20 H_rr2 (hs_GF hS H_r0_12) m1 (obneq hU fF fM m1)) rfl rfl rfl rfl rfl ⟨_, rfl, rfl, T_rr2, Nat.le_of_ble_eq_true rfl⟩ rfl rfl (Nat.le_of_ble_eq_true rfl) (Nat.le_of_ble_eq_true rfl) (Nat.le_of_ble_eq_true rfl) ?_
    rintro I31 L32 ⟨p0v30, hI31, S33⟩
    try simp only [z_r0_0, z_r0_1, z_r0_2, z_r0_5, z_r0_6, z_r0_7, z_r0_8, z_r0_9, z_r0_10, z_r0_11, z_r0_12, z_r0_13, z_r0_1_6, z_r0_1_7, z_r0_1_8, z_r0_1_9, z_r0_1_10, z_r0_5_0, z_r0_5_1, z_r0_5_2, z_r0_5_2_1, z_r0_12_1, z_rr2_1] at S33
    have e34 := Chg.k S33 T_r0_1 (by decide) (by decide) e23
    have e35 := Chg.k S33 T_r0_1 (by decide) (by decide) e24
    have e36 := Chg.k S33 T_r0_1 (by decide) (by decide) e25
    have e37 := Chg.k S33 T_r0_1 (by decide) (by decide) e27
    have e38 := Chg.k S33 T_r0_1 (by decide) (by decide) e29
    obtain ⟨x39, e40⟩ : ∃ x, I31 rr2 0 = x := ⟨_, rfl⟩
    have gx39 := rg x39
    have ox39 := IX.deg hI31 A_rr2 T_rr2 e40
    try simp only [z_r0_0, z_r0_1, z_r0_2, z_r0_5, z_r0_6, z_r0_7, z_r0_8, z_r0_9, z_r0_10, z_r0_11, z_r0_12, z_r0_13, z_r0_1_6, z_r0_1_7, z_r0_1_8, z_r0_1_9, z_r0_1_10, z_r0_5_0, z_r0_5_1, z_r0_5_2, z_r0_5_2_1, z_r0_12_1, z_rr2_1] at p0v30
    try simp only [e23, e24, e25, e27, e29, e40] at p0v30
    try have q0v30 := congrArg Int32.toInt p0v30
    have hcp := p0v30; have hcS := S33
    refine k_iload C rfl rfl rfl ?_
    exact k_iret C rfl (Or.inr ⟨rfl, z01 (by omega) (by omega)⟩) (Nat.le_of_ble_eq_true rfl) (Nat.le_of_ble_eq_true rfl) (Or.inl ⟨_, _, _, rfl, rfl, by omega, by omega, by (try simp only [z_r0_0, z_r0_1, z_r0_2, z_r0_5, z_r0_6, z_r0_7, z_r0_8, z_r0_9, z_r0_10, z_r0_11, z_r0_12, z_r0_13, z_r0_1_6, z_r0_1_7, z_r0_1_8, z_r0_1_9, z_r0_1_10, z_r0_5_0, z_r0_5_1, z_r0_5_2, z_r0_5_2_1, z_r0_12_1, z_rr2_1]); simp only [k0_r0_1_1, k0_r0_1_2]; omega, by (try simp only [z_r0_0, z_r0_1, z_r0_2, z_r0_5, z_r0_6, z_r0_7, z_r0_8, z_r0_9, z_r0_10, z_r0_11, z_r0_12, z_r0_13, z_r0_1_6, z_r0_1_7, z_r0_1_8, z_r0_1_9, z_r0_1_10, z_r0_5_0, z_r0_5_1, z_r0_5_2, z_r0_5_2_1, z_r0_12_1, z_rr2_1]); rw [oF, hcp.1, Chg.at hwS (WSX.nf hU hG T_r0_12 R_r0_12 nM7), hm0], by (try simp only [z_r0_0, z_r0_1, z_r0_2, z_r0_5, z_r0_6, z_r0_7, z_r0_8, z_r0_9, z_r0_10, z_r0_11, z_r0_12, z_r0_13, z_r0_1_6, z_r0_1_7, z_r0_1_8, z_r0_1_9, z_r0_1_10, z_r0_5_0, z_r0_5_1, z_r0_5_2, z_r0_5_2_1, z_r0_12_1, z_rr2_1]); rw [oF, oT, k0_r0_1_0]; have v := FEQ.vrx hcp rfl z_r0_12_1 (Chg.at hwS (WSX.nf hU hG T_r0_12 R_r0_12 nM7)) (Chg.at hwS (by have q9 := WSX.nb hU hG fM R_r0_12 nM7; rwa [z_r0_12_1] at q9)) hmv hm0; rw [hp2, k0_r0_1_0] at v; simp only [z_r0_0, z_r0_1, z_r0_2, z_r0_5, z_r0_6, z_r0_7, z_r0_8, z_r0_9, z_r0_10, z_r0_11, z_r0_12, z_r0_13, z_r0_1_6, z_r0_1_7, z_r0_1_8, z_r0_1_9, z_r0_1_10, z_r0_5_0, z_r0_5_1, z_r0_5_2, z_r0_5_2_1, z_r0_12_1, z_rr2_1] at v ⊢; exact v, by (try simp only [z_r0_0, z_r0_1, z_r0_2, z_r0_5, z_r0_6, z_r0_7, z_r0_8, z_r0_9, z_r0_10, z_r0_11, z_r0_12, z_r0_13, z_r0_1_6, z_r0_1_7, z_r0_1_8, z_r0_1_9, z_r0_1_10, z_r0_5_0, z_r0_5_1, z_r0_5_2, z_r0_5_2_1, z_r0_12_1, z_rr2_1]); rw [oF, k0_r0_1_4]; exact WRD.mono hw (AEQ.sl hmS (sl_4 (B := fun a => ¬ WSX R r0_1 a) (WSX.nf hU hG T_r0_12 R_r0_12 nM7) (by have q9 := WSX.nb hU hG fM R_r0_12 nM7; rwa [z_r0_12_1] at q9) (WSX.nf hU hG T_r0_5_2 R_r0_5_2 nR7) (by have q9 := WSX.nb hU hG fR R_r0_5_2 nR7; rwa [z_r0_5_2_1] at q9))) (FEQ.at hmS (nm_4 m1 (t_nq TF T_r0_12_1 (by decide)) m2 (t_nq TF T_r0_5_2_1 (by decide))) (nm_4 (t_nq fF.2.2 T_r0_12 (by decide)) (by have q9 := obneq hU fF fM m1; rwa [z_r0_12_1] at q9) (t_nq fF.2.2 T_r0_5_2 (by decide)) (by have q9 := obneq hU fF fR m2; rwa [z_r0_5_2_1] at q9))) (AEQ.sl hcS (nWf hU hG oF nF (by assumption))) (congrFun (Chg.at hcS (nm_2 (t_nq T_r0_1 TF (by decide)) (fun e => by have q9 := fF.2.2; simp only [z_r0_0, z_r0_1, z_r0_2, z_r0_5, z_r0_6, z_r0_7, z_r0_8, z_r0_9, z_r0_10, z_r0_11, z_r0_12, z_r0_13, z_r0_1_6, z_r0_1_7, z_r0_1_8, z_r0_1_9, z_r0_1_10, z_r0_5_0, z_r0_5_1, z_r0_5_2, z_r0_5_2_1, z_r0_12_1, z_rr2_1] at q9; rw [← e, T_r0_1] at q9; cases q9))) 4), by (try simp only [z_r0_0, z_r0_1, z_r0_2, z_r0_5, z_r0_6, z_r0_7, z_r0_8, z_r0_9, z_r0_10, z_r0_11, z_r0_12, z_r0_13, z_r0_1_6, z_r0_1_7, z_r0_1_8, z_r0_1_9, z_r0_1_10, z_r0_5_0, z_r0_5_1, z_r0_5_2, z_r0_5_2_1, z_r0_12_1, z_rr2_1]); rw [e38]; omega, by (try simp only [z_r0_0, z_r0_1, z_r0_2, z_r0_5, z_r0_6, z_r0_7, z_r0_8, z_r0_9, z_r0_10, z_r0_11, z_r0_12, z_r0_13, z_r0_1_6, z_r0_1_7, z_r0_1_8, z_r0_1_9, z_r0_1_10, z_r0_5_0, z_r0_5_1, z_r0_5_2, z_r0_5_2_1, z_r0_12_1, z_rr2_1]); exact fun j hj hn => FEQ.at (((Chg.cons (Chg.up S8 (sl_4 (Or.inl ⟨B_r0_12, by rw [T_r0_12]; decide⟩) (Or.inl ⟨A_r0_12_1, by rw [T_r0_12_1]; decide⟩) (Or.inl ⟨B_r0_5_2, by rw [T_r0_5_2]; decide⟩) (Or.inl ⟨A_r0_5_2_1, by rw [T_r0_5_2_1]; decide⟩))) (Chg.cons (Chg.up S22 (fun a h => Or.inr (Or.inl h))) (Chg.mono (Chg.up S33 (sl_2 (Or.inr (Or.inr (Or.inl oF.symm))) (Or.inr (Or.inr (Or.inr (z_rr2_1.symm.trans (by rw [oF]))))))) (by decide)) (by decide)) (by decide)) : Chg (fun a => (B a ∧ T a ≠ 9) ∨ WSX R r0_1 a ∨ a = FA R r0_1 n1.toNatClampNeg ∨ a = rA R (FA R r0_1 n1.toNatClampNeg) 1) T [(3, 0), (9, 4), (9, 5)] I L I31 L32)) (nSM (B := fun a => B a ∧ T a ≠ 9) hU hG ⟨fun h => (hp5 j hj).1 h.1, fun h => (hp5 j hj).2 h.1⟩ hj nF (by omega)).1 (nSM (B := fun a => B a ∧ T a ≠ 9) hU hG ⟨fun h => (hp5 j hj).1 h.1, fun h => (hp5 j hj).2 h.1⟩ hj nF (by omega)).2, by (try simp only [z_r0_0, z_r0_1, z_r0_2, z_r0_5, z_r0_6, z_r0_7, z_r0_8, z_r0_9, z_r0_10, z_r0_11, z_r0_12, z_r0_13, z_r0_1_6, z_r0_1_7, z_r0_1_8, z_r0_1_9, z_r0_1_10, z_r0_5_0, z_r0_5_1, z_r0_5_2, z_r0_5_2_1, z_r0_12_1, z_rr2_1]); rw [oF]; exact FEQ.mx hmt (by omega) hcp rfl z_r0_12_1 (Chg.at hmS (nm_4 m1 (t_nq TF T_r0_12_1 (by decide)) m2 (t_nq TF T_r0_5_2_1 (by decide)))) (Chg.at hmS (nm_4 (t_nq fF.2.2 T_r0_12 (by decide)) (by have q9 := obneq hU fF fM m1; rwa [z_r0_12_1] at q9) (t_nq fF.2.2 T_r0_5_2 (by decide)) (by have q9 := obneq hU fF fR m2; rwa [z_r0_5_2_1] at q9))) (Chg.at hwS (WSX.nf hU hG T_r0_12 R_r0_12 nM7)) (Chg.at hwS (by have q9 := WSX.nb hU hG fM R_r0_12 nM7; rwa [z_r0_12_1] at q9)) hm0, hI31, (by (try simp only [z_r0_0, z_r0_1, z_r0_2, z_r0_5, z_r0_6, z_r0_7, z_r0_8, z_r0_9, z_r0_10, z_r0_11, z_r0_12, z_r0_13, z_r0_1_6, z_r0_1_7, z_r0_1_8, z_r0_1_9, z_r0_1_10, z_r0_5_0, z_r0_5_1, z_r0_5_2, z_r0_5_2_1, z_r0_12_1, z_rr2_1]); exact (Chg.cons (Chg.up S8 (sl_4 (Or.inl ⟨B_r0_12, by rw [T_r0_12]; decide⟩) (Or.inl ⟨A_r0_12_1, by rw [T_r0_12_1]; decide⟩) (Or.inl ⟨B_r0_5_2, by rw [T_r0_5_2]; decide⟩) (Or.inl ⟨A_r0_5_2_1, by rw [T_r0_5_2_1]; decide⟩))) (Chg.cons (Chg.up S22 (fun a h => Or.inr (Or.inl h))) (Chg.mono (Chg.up S33 (sl_2 (Or.inr (Or.inr (Or.inl oF.symm))) (Or.inr (Or.inr (Or.inr (z_rr2_1.symm.trans (by rw [oF]))))))) (by decide)) (by decide)) (by decide)))⟩)
  refine z_iconst C (z := 1) rfl rfl rfl (fun x41 ex41 => ?_)
  refine k_goto C (pc2 := 43) rfl rfl ?_
  refine k_istore C (lw := [(5, .int x41), (4, .ref rr4), (3, .ref rr2), (0, .ref r0), (1, .int n1), (2, .int n2)]) rfl rfl (Nat.le_of_ble_eq_true rfl) rfl ?_
  refine k_aload_n C rfl rfl rfl ?_
  refine g_R C rfl rfl rfl T_r0 rfl R_r0_1 ?_
  refine k_iload_n C rfl rfl rfl ?_
  refine k_aload_n C rfl rfl rfl ?_
  refine c_VV C (s_X8_write_x hS hI6 H_r0_1 H_rr2 hU (by rw [e12]; omega) (by rw [e12]; omega) (WSX.nf hU hG TF hF n87) (WSX.nb hU hG fF hF n87)) rfl rfl rfl rfl rfl ⟨_, rfl, rfl, T_r0_1, Nat.le_of_ble_eq_true rfl⟩ rfl rfl (Nat.le_of_ble_eq_true rfl) (Nat.le_of_ble_eq_true rfl) (Nat.le_of_ble_eq_true rfl) ?_
  rintro I43 L44 ⟨p0v42, p1v42, hI43, S45⟩
  try simp only [z_r0_0, z_r0_1, z_r0_2, z_r0_5, z_r0_6, z_r0_7, z_r0_8, z_r0_9, z_r0_10, z_r0_11, z_r0_12, z_r0_13, z_r0_1_6, z_r0_1_7, z_r0_1_8, z_r0_1_9, z_r0_1_10, z_r0_5_0, z_r0_5_1, z_r0_5_2, z_r0_5_2_1, z_r0_12_1, z_rr2_1] at S45
  have e46 := Chg.k S45 T_r0_1 (by decide) (by decide) e9
  have e47 := Chg.k S45 T_r0_1 (by decide) (by decide) e10
  have e48 := Chg.k S45 T_r0_1 (by decide) (by decide) e11
  obtain ⟨x49, e50⟩ : ∃ x, I43 r0_1 4 = x := ⟨_, rfl⟩
  have gx49 := rg x49
  obtain ⟨x51, e52⟩ : ∃ x, I43 r0_1 5 = x := ⟨_, rfl⟩
  have gx51 := rg x51
  try simp only [z_r0_0, z_r0_1, z_r0_2, z_r0_5, z_r0_6, z_r0_7, z_r0_8, z_r0_9, z_r0_10, z_r0_11, z_r0_12, z_r0_13, z_r0_1_6, z_r0_1_7, z_r0_1_8, z_r0_1_9, z_r0_1_10, z_r0_5_0, z_r0_5_1, z_r0_5_2, z_r0_5_2_1, z_r0_12_1, z_rr2_1] at p0v42
  try simp only [z_r0_0, z_r0_1, z_r0_2, z_r0_5, z_r0_6, z_r0_7, z_r0_8, z_r0_9, z_r0_10, z_r0_11, z_r0_12, z_r0_13, z_r0_1_6, z_r0_1_7, z_r0_1_8, z_r0_1_9, z_r0_1_10, z_r0_5_0, z_r0_5_1, z_r0_5_2, z_r0_5_2_1, z_r0_12_1, z_rr2_1] at p1v42
  try simp only [e9, e10, e11, e12, e13, e15, e50, e52] at p0v42
  try have q0v42 := congrArg Int32.toInt p0v42
  try simp only [e9, e10, e11, e12, e13, e15, e50, e52] at p1v42
  try have q1v42 := congrArg Int32.toInt p1v42
  have hw := p0v42; have hw5 := p1v42; have hwS := S45
  refine k_aload_n C rfl rfl rfl ?_
  refine k_aload_n C rfl rfl rfl ?_
  refine g_R C rfl rfl rfl T_r0 rfl R_r0_12 ?_
  refine c_VV C (s_X2_copyFrom_x hS hI43 H_rr2 (hs_GF hS H_r0_12) m1 (obneq hU fF fM m1)) rfl rfl rfl rfl rfl ⟨_, rfl, rfl, T_rr2, Nat.le_of_ble_eq_true rfl⟩ rfl rfl (Nat.le_of_ble_eq_true rfl) (Nat.le_of_ble_eq_true rfl) (Nat.le_of_ble_eq_true rfl) ?_
  rintro I54 L55 ⟨p0v53, hI54, S56⟩
  try simp only [z_r0_0, z_r0_1, z_r0_2, z_r0_5, z_r0_6, z_r0_7, z_r0_8, z_r0_9, z_r0_10, z_r0_11, z_r0_12, z_r0_13, z_r0_1_6, z_r0_1_7, z_r0_1_8, z_r0_1_9, z_r0_1_10, z_r0_5_0, z_r0_5_1, z_r0_5_2, z_r0_5_2_1, z_r0_12_1, z_rr2_1] at S56
  have e57 := Chg.k S56 T_r0_1 (by decide) (by decide) e46
  have e58 := Chg.k S56 T_r0_1 (by decide) (by decide) e47
  have e59 := Chg.k S56 T_r0_1 (by decide) (by decide) e48
  have e60 := Chg.k S56 T_r0_1 (by decide) (by decide) e50
  have e61 := Chg.k S56 T_r0_1 (by decide) (by decide) e52
  obtain ⟨x62, e63⟩ : ∃ x, I54 rr2 0 = x := ⟨_, rfl⟩
  have gx62 := rg x62
  have ox62 := IX.deg hI54 A_rr2 T_rr2 e63
  try simp only [z_r0_0, z_r0_1, z_r0_2, z_r0_5, z_r0_6, z_r0_7, z_r0_8, z_r0_9, z_r0_10, z_r0_11, z_r0_12, z_r0_13, z_r0_1_6, z_r0_1_7, z_r0_1_8, z_r0_1_9, z_r0_1_10, z_r0_5_0, z_r0_5_1, z_r0_5_2, z_r0_5_2_1, z_r0_12_1, z_rr2_1] at p0v53
  try simp only [e46, e47, e48, e50, e52, e63] at p0v53
  try have q0v53 := congrArg Int32.toInt p0v53
  have hcp := p0v53; have hcS := S56
  refine k_iload C rfl rfl rfl ?_
  exact k_iret C rfl (Or.inr ⟨rfl, z01 (by omega) (by omega)⟩) (Nat.le_of_ble_eq_true rfl) (Nat.le_of_ble_eq_true rfl) (Or.inl ⟨_, _, _, rfl, rfl, by omega, by omega, by (try simp only [z_r0_0, z_r0_1, z_r0_2, z_r0_5, z_r0_6, z_r0_7, z_r0_8, z_r0_9, z_r0_10, z_r0_11, z_r0_12, z_r0_13, z_r0_1_6, z_r0_1_7, z_r0_1_8, z_r0_1_9, z_r0_1_10, z_r0_5_0, z_r0_5_1, z_r0_5_2, z_r0_5_2_1, z_r0_12_1, z_rr2_1]); simp only [k0_r0_1_1, k0_r0_1_2]; omega, by (try simp only [z_r0_0, z_r0_1, z_r0_2, z_r0_5, z_r0_6, z_r0_7, z_r0_8, z_r0_9, z_r0_10, z_r0_11, z_r0_12, z_r0_13, z_r0_1_6, z_r0_1_7, z_r0_1_8, z_r0_1_9, z_r0_1_10, z_r0_5_0, z_r0_5_1, z_r0_5_2, z_r0_5_2_1, z_r0_12_1, z_rr2_1]); rw [oF, hcp.1, Chg.at hwS (WSX.nf hU hG T_r0_12 R_r0_12 nM7), hm0], by (try simp only [z_r0_0, z_r0_1, z_r0_2, z_r0_5, z_r0_6, z_r0_7, z_r0_8, z_r0_9, z_r0_10, z_r0_11, z_r0_12, z_r0_13, z_r0_1_6, z_r0_1_7, z_r0_1_8, z_r0_1_9, z_r0_1_10, z_r0_5_0, z_r0_5_1, z_r0_5_2, z_r0_5_2_1, z_r0_12_1, z_rr2_1]); rw [oF, oT, k0_r0_1_0]; have v := FEQ.vrx hcp rfl z_r0_12_1 (Chg.at hwS (WSX.nf hU hG T_r0_12 R_r0_12 nM7)) (Chg.at hwS (by have q9 := WSX.nb hU hG fM R_r0_12 nM7; rwa [z_r0_12_1] at q9)) hmv hm0; rw [hp2, k0_r0_1_0] at v; simp only [z_r0_0, z_r0_1, z_r0_2, z_r0_5, z_r0_6, z_r0_7, z_r0_8, z_r0_9, z_r0_10, z_r0_11, z_r0_12, z_r0_13, z_r0_1_6, z_r0_1_7, z_r0_1_8, z_r0_1_9, z_r0_1_10, z_r0_5_0, z_r0_5_1, z_r0_5_2, z_r0_5_2_1, z_r0_12_1, z_rr2_1] at v ⊢; exact v, by (try simp only [z_r0_0, z_r0_1, z_r0_2, z_r0_5, z_r0_6, z_r0_7, z_r0_8, z_r0_9, z_r0_10, z_r0_11, z_r0_12, z_r0_13, z_r0_1_6, z_r0_1_7, z_r0_1_8, z_r0_1_9, z_r0_1_10, z_r0_5_0, z_r0_5_1, z_r0_5_2, z_r0_5_2_1, z_r0_12_1, z_rr2_1]); rw [oF, k0_r0_1_4]; exact WRD.mono hw (AEQ.sl hmS (sl_4 (B := fun a => ¬ WSX R r0_1 a) (WSX.nf hU hG T_r0_12 R_r0_12 nM7) (by have q9 := WSX.nb hU hG fM R_r0_12 nM7; rwa [z_r0_12_1] at q9) (WSX.nf hU hG T_r0_5_2 R_r0_5_2 nR7) (by have q9 := WSX.nb hU hG fR R_r0_5_2 nR7; rwa [z_r0_5_2_1] at q9))) (FEQ.at hmS (nm_4 m1 (t_nq TF T_r0_12_1 (by decide)) m2 (t_nq TF T_r0_5_2_1 (by decide))) (nm_4 (t_nq fF.2.2 T_r0_12 (by decide)) (by have q9 := obneq hU fF fM m1; rwa [z_r0_12_1] at q9) (t_nq fF.2.2 T_r0_5_2 (by decide)) (by have q9 := obneq hU fF fR m2; rwa [z_r0_5_2_1] at q9))) (AEQ.sl hcS (nWf hU hG oF nF (by assumption))) (congrFun (Chg.at hcS (nm_2 (t_nq T_r0_1 TF (by decide)) (fun e => by have q9 := fF.2.2; simp only [z_r0_0, z_r0_1, z_r0_2, z_r0_5, z_r0_6, z_r0_7, z_r0_8, z_r0_9, z_r0_10, z_r0_11, z_r0_12, z_r0_13, z_r0_1_6, z_r0_1_7, z_r0_1_8, z_r0_1_9, z_r0_1_10, z_r0_5_0, z_r0_5_1, z_r0_5_2, z_r0_5_2_1, z_r0_12_1, z_rr2_1] at q9; rw [← e, T_r0_1] at q9; cases q9))) 4), by (try simp only [z_r0_0, z_r0_1, z_r0_2, z_r0_5, z_r0_6, z_r0_7, z_r0_8, z_r0_9, z_r0_10, z_r0_11, z_r0_12, z_r0_13, z_r0_1_6, z_r0_1_7, z_r0_1_8, z_r0_1_9, z_r0_1_10, z_r0_5_0, z_r0_5_1, z_r0_5_2, z_r0_5_2_1, z_r0_12_1, z_rr2_1]); rw [e61]; omega, by (try simp only [z_r0_0, z_r0_1, z_r0_2, z_r0_5, z_r0_6, z_r0_7, z_r0_8, z_r0_9, z_r0_10, z_r0_11, z_r0_12, z_r0_13, z_r0_1_6, z_r0_1_7, z_r0_1_8, z_r0_1_9, z_r0_1_10, z_r0_5_0, z_r0_5_1, z_r0_5_2, z_r0_5_2_1, z_r0_12_1, z_rr2_1]); exact fun j hj hn => FEQ.at (((Chg.cons (Chg.up S8 (sl_4 (Or.inl ⟨B_r0_12, by rw [T_r0_12]; decide⟩) (Or.inl ⟨A_r0_12_1, by rw [T_r0_12_1]; decide⟩) (Or.inl ⟨B_r0_5_2, by rw [T_r0_5_2]; decide⟩) (Or.inl ⟨A_r0_5_2_1, by rw [T_r0_5_2_1]; decide⟩))) (Chg.cons (Chg.up S45 (fun a h => Or.inr (Or.inl h))) (Chg.mono (Chg.up S56 (sl_2 (Or.inr (Or.inr (Or.inl oF.symm))) (Or.inr (Or.inr (Or.inr (z_rr2_1.symm.trans (by rw [oF]))))))) (by decide)) (by decide)) (by decide)) : Chg (fun a => (B a ∧ T a ≠ 9) ∨ WSX R r0_1 a ∨ a = FA R r0_1 n1.toNatClampNeg ∨ a = rA R (FA R r0_1 n1.toNatClampNeg) 1) T [(3, 0), (9, 4), (9, 5)] I L I54 L55)) (nSM (B := fun a => B a ∧ T a ≠ 9) hU hG ⟨fun h => (hp5 j hj).1 h.1, fun h => (hp5 j hj).2 h.1⟩ hj nF (by omega)).1 (nSM (B := fun a => B a ∧ T a ≠ 9) hU hG ⟨fun h => (hp5 j hj).1 h.1, fun h => (hp5 j hj).2 h.1⟩ hj nF (by omega)).2, by (try simp only [z_r0_0, z_r0_1, z_r0_2, z_r0_5, z_r0_6, z_r0_7, z_r0_8, z_r0_9, z_r0_10, z_r0_11, z_r0_12, z_r0_13, z_r0_1_6, z_r0_1_7, z_r0_1_8, z_r0_1_9, z_r0_1_10, z_r0_5_0, z_r0_5_1, z_r0_5_2, z_r0_5_2_1, z_r0_12_1, z_rr2_1]); rw [oF]; exact FEQ.mx hmt (by omega) hcp rfl z_r0_12_1 (Chg.at hmS (nm_4 m1 (t_nq TF T_r0_12_1 (by decide)) m2 (t_nq TF T_r0_5_2_1 (by decide)))) (Chg.at hmS (nm_4 (t_nq fF.2.2 T_r0_12 (by decide)) (by have q9 := obneq hU fF fM m1; rwa [z_r0_12_1] at q9) (t_nq fF.2.2 T_r0_5_2 (by decide)) (by have q9 := obneq hU fF fR m2; rwa [z_r0_5_2_1] at q9))) (Chg.at hwS (WSX.nf hU hG T_r0_12 R_r0_12 nM7)) (Chg.at hwS (by have q9 := WSX.nb hU hG fM R_r0_12 nM7; rwa [z_r0_12_1] at q9)) hm0, hI54, (by (try simp only [z_r0_0, z_r0_1, z_r0_2, z_r0_5, z_r0_6, z_r0_7, z_r0_8, z_r0_9, z_r0_10, z_r0_11, z_r0_12, z_r0_13, z_r0_1_6, z_r0_1_7, z_r0_1_8, z_r0_1_9, z_r0_1_10, z_r0_5_0, z_r0_5_1, z_r0_5_2, z_r0_5_2_1, z_r0_12_1, z_rr2_1]); exact (Chg.cons (Chg.up S8 (sl_4 (Or.inl ⟨B_r0_12, by rw [T_r0_12]; decide⟩) (Or.inl ⟨A_r0_12_1, by rw [T_r0_12_1]; decide⟩) (Or.inl ⟨B_r0_5_2, by rw [T_r0_5_2]; decide⟩) (Or.inl ⟨A_r0_5_2_1, by rw [T_r0_5_2_1]; decide⟩))) (Chg.cons (Chg.up S45 (fun a h => Or.inr (Or.inl h))) (Chg.mono (Chg.up S56 (sl_2 (Or.inr (Or.inr (Or.inl oF.symm))) (Or.inr (Or.inr (Or.inr (z_rr2_1.symm.trans (by rw [oF]))))))) (by decide)) (by decide)) (by decide)))⟩)

theorem s_X11_undo_x {d : Nat} {T N : Nat → Nat} {I : IT} {L : LT} {R : RT} {A B : Nat → Prop} {r0 : Nat} (hS : SUB B A) (hI : IX A T I) (H_r0 : (hs_LF T N R A B) r0) (hU : UPR T R) (hp0 : 0 ≤ (I (rA R r0 1) 4).toInt) (hp1 : (I (rA R r0 1) 4).toInt ≤ 40) (hp2 : 0 ≤ (I (rA R r0 1) 5).toInt) (hp3 : (I (rA R r0 1) 4).toInt + (I (rA R r0 1) 5).toInt ≤ 40) (hp4 : (I (rA R r0 1) 1).toInt ≤ 16) (hp5 : ∀ k : Nat, (k : Int) < (I (rA R r0 1) 4).toInt + (I (rA R r0 1) 5).toInt → 0 ≤ (I (WH R (rA R r0 1)) k).toInt ∧ (I (WH R (rA R r0 1)) k).toInt < (I (rA R r0 1) 1).toInt ∧ (I (OA R (rA R r0 1) k) 0).toInt = (I (FA R (rA R r0 1) (I (WH R (rA R r0 1)) k).toNatClampNeg) 0).toInt) : Ex (d + 4) 144 [.ref r0] (T, N, I, L, R) 0 0 (pI T N R (fun x9 I9 L9 => (UND R I9 I (rA R r0 1) x9 (I (rA R r0 1) 4).toInt (I (rA R r0 1) 5).toInt) ∧ (IX A T I9 ∧ Chg (UDX R (rA R r0 1)) T [(9, 4), (9, 5)] I L I9 L9))) := by
  refine ⟨_, rfl, Nat.le_of_ble_eq_true rfl, fun V C S => ?_⟩
  show V 0 [(0, .ref r0)] [] (T, N, I, L, R) 0 0
  obtain ⟨T_r0, A_r0, B_r0, ⟨r0_0, R_r0_0, H_r0_0⟩, ⟨r0_1, R_r0_1, H_r0_1⟩, ⟨r0_2, R_r0_2, H_r0_2⟩, ⟨r0_5, R_r0_5, H_r0_5⟩, ⟨r0_6, R_r0_6, H_r0_6⟩, ⟨r0_7, R_r0_7, H_r0_7⟩, ⟨r0_8, R_r0_8, H_r0_8⟩, ⟨r0_9, R_r0_9, H_r0_9⟩, ⟨r0_10, R_r0_10, H_r0_10⟩, ⟨r0_11, R_r0_11, H_r0_11⟩, ⟨r0_12, R_r0_12, H_r0_12⟩, ⟨r0_13, R_r0_13, H_r0_13⟩⟩ := id H_r0
  have z_r0_0 : rA R r0 0 = r0_0 := rA_e R_r0_0
  have z_r0_1 : rA R r0 1 = r0_1 := rA_e R_r0_1
  have z_r0_2 : rA R r0 2 = r0_2 := rA_e R_r0_2
  have z_r0_5 : rA R r0 5 = r0_5 := rA_e R_r0_5
  have z_r0_6 : rA R r0 6 = r0_6 := rA_e R_r0_6
  have z_r0_7 : rA R r0 7 = r0_7 := rA_e R_r0_7
  have z_r0_8 : rA R r0 8 = r0_8 := rA_e R_r0_8
  have z_r0_9 : rA R r0 9 = r0_9 := rA_e R_r0_9
  have z_r0_10 : rA R r0 10 = r0_10 := rA_e R_r0_10
  have z_r0_11 : rA R r0 11 = r0_11 := rA_e R_r0_11
  have z_r0_12 : rA R r0 12 = r0_12 := rA_e R_r0_12
  have z_r0_13 : rA R r0 13 = r0_13 := rA_e R_r0_13
  obtain ⟨T_r0_1, A_r0_1, B_r0_1, ⟨r0_1_6, R_r0_1_6, H_r0_1_6⟩, ⟨r0_1_7, R_r0_1_7, H_r0_1_7⟩, ⟨r0_1_8, R_r0_1_8, H_r0_1_8⟩, ⟨r0_1_9, R_r0_1_9, H_r0_1_9⟩, ⟨r0_1_10, R_r0_1_10, H_r0_1_10⟩⟩ := id H_r0_1
  have z_r0_1_6 : rA R r0_1 6 = r0_1_6 := rA_e R_r0_1_6
  have z_r0_1_7 : rA R r0_1 7 = r0_1_7 := rA_e R_r0_1_7
  have z_r0_1_8 : rA R r0_1 8 = r0_1_8 := rA_e R_r0_1_8
  have z_r0_1_9 : rA R r0_1 9 = r0_1_9 := rA_e R_r0_1_9
  have z_r0_1_10 : rA R r0_1 10 = r0_1_10 := rA_e R_r0_1_10
  obtain ⟨T_r0_1_6, N_r0_1_6, A_r0_1_6⟩ := id H_r0_1_6
  obtain ⟨T_r0_1_8, N_r0_1_8, A_r0_1_8, E_r0_1_8⟩ := id H_r0_1_8
  have hG := GS.of H_r0_1
  have w6 : WH R r0_1 = r0_1_6 := z_r0_1_6
  have n87 : r0_1_8 ≠ rA R r0_1 7 := by have := GS.r87 hU hG hG; rwa [z_r0_1_8] at this
  try simp only [z_r0_0, z_r0_1, z_r0_2, z_r0_5, z_r0_6, z_r0_7, z_r0_8, z_r0_9, z_r0_10, z_r0_11, z_r0_12, z_r0_13, z_r0_1_6, z_r0_1_7, z_r0_1_8, z_r0_1_9, z_r0_1_10] at hp0
  try simp only [z_r0_0, z_r0_1, z_r0_2, z_r0_5, z_r0_6, z_r0_7, z_r0_8, z_r0_9, z_r0_10, z_r0_11, z_r0_12, z_r0_13, z_r0_1_6, z_r0_1_7, z_r0_1_8, z_r0_1_9, z_r0_1_10] at hp1
  try simp only [z_r0_0, z_r0_1, z_r0_2, z_r0_5, z_r0_6, z_r0_7, z_r0_8, z_r0_9, z_r0_10, z_r0_11, z_r0_12, z_r0_13, z_r0_1_6, z_r0_1_7, z_r0_1_8, z_r0_1_9, z_r0_1_10] at hp2
  try simp only [z_r0_0, z_r0_1, z_r0_2, z_r0_5, z_r0_6, z_r0_7, z_r0_8, z_r0_9, z_r0_10, z_r0_11, z_r0_12, z_r0_13, z_r0_1_6, z_r0_1_7, z_r0_1_8, z_r0_1_9, z_r0_1_10] at hp3
  try simp only [z_r0_0, z_r0_1, z_r0_2, z_r0_5, z_r0_6, z_r0_7, z_r0_8, z_r0_9, z_r0_10, z_r0_11, z_r0_12, z_r0_13, z_r0_1_6, z_r0_1_7, z_r0_1_8, z_r0_1_9, z_r0_1_10] at hp4
  try simp only [z_r0_0, z_r0_1, z_r0_2, z_r0_5, z_r0_6, z_r0_7, z_r0_8, z_r0_9, z_r0_10, z_r0_11, z_r0_12, z_r0_13, z_r0_1_6, z_r0_1_7, z_r0_1_8, z_r0_1_9, z_r0_1_10] at hp5
  obtain ⟨w_r0_1_1, k0_r0_1_1⟩ : ∃ x, I r0_1 1 = x := ⟨_, rfl⟩
  have gw_r0_1_1 := rg w_r0_1_1
  obtain ⟨w_r0_1_4, k0_r0_1_4⟩ : ∃ x, I r0_1 4 = x := ⟨_, rfl⟩
  have gw_r0_1_4 := rg w_r0_1_4
  obtain ⟨w_r0_1_5, k0_r0_1_5⟩ : ∃ x, I r0_1 5 = x := ⟨_, rfl⟩
  have gw_r0_1_5 := rg w_r0_1_5
  try simp only [k0_r0_1_1, k0_r0_1_4, k0_r0_1_5] at hp0
  try simp only [k0_r0_1_1, k0_r0_1_4, k0_r0_1_5] at hp1
  try simp only [k0_r0_1_1, k0_r0_1_4, k0_r0_1_5] at hp2
  try simp only [k0_r0_1_1, k0_r0_1_4, k0_r0_1_5] at hp3
  try simp only [k0_r0_1_1, k0_r0_1_4, k0_r0_1_5] at hp4
  try simp only [k0_r0_1_1, k0_r0_1_4, k0_r0_1_5] at hp5
  refine k_aload_n C rfl rfl rfl ?_
  refine g_R C rfl rfl rfl T_r0 rfl R_r0_1 ?_
  refine c_VI C (s_X8_nextBack_x hS hI H_r0_1) rfl rfl rfl rfl rfl ⟨_, rfl, rfl, T_r0_1, Nat.le_of_ble_eq_true rfl⟩ rfl rfl (Nat.le_of_ble_eq_true rfl) (Nat.le_of_ble_eq_true rfl) (Nat.le_of_ble_eq_true rfl) ?_
  rintro x1 _ _ ⟨p0x1, rfl, rfl⟩
  have gx1 := rg x1
  try simp only [z_r0_0, z_r0_1, z_r0_2, z_r0_5, z_r0_6, z_r0_7, z_r0_8, z_r0_9, z_r0_10, z_r0_11, z_r0_12, z_r0_13, z_r0_1_6, z_r0_1_7, z_r0_1_8, z_r0_1_9, z_r0_1_10] at p0x1
  try simp only [k0_r0_1_1, k0_r0_1_4, k0_r0_1_5] at p0x1
  try have q0x1 := congrArg Int32.toInt p0x1
  have hnb := p0x1
  refine k_istore_n C (lw := [(1, .int x1), (0, .ref r0)]) rfl rfl (Nat.le_of_ble_eq_true rfl) rfl ?_
  refine k_aload_n C rfl rfl rfl ?_
  refine g_R C rfl rfl rfl T_r0 rfl R_r0_1 ?_
  refine k_iload_n C rfl rfl rfl ?_
  refine c_VR C (s_X8_formAt_x hS hI H_r0_1) rfl rfl rfl rfl rfl ⟨_, rfl, rfl, T_r0_1, Nat.le_of_ble_eq_true rfl⟩ rfl rfl (Nat.le_of_ble_eq_true rfl) (Nat.le_of_ble_eq_true rfl) (Nat.le_of_ble_eq_true rfl) ?_
  rintro yy2 _ _ ⟨hyy2, p0yy2, rfl, rfl⟩
  try simp only [z_r0_0, z_r0_1, z_r0_2, z_r0_5, z_r0_6, z_r0_7, z_r0_8, z_r0_9, z_r0_10, z_r0_11, z_r0_12, z_r0_13, z_r0_1_6, z_r0_1_7, z_r0_1_8, z_r0_1_9, z_r0_1_10] at p0yy2
  try simp only [k0_r0_1_1, k0_r0_1_4, k0_r0_1_5] at p0yy2
  try have q0yy2 := congrArg Int32.toInt p0yy2
  have hfA := p0yy2
  refine k_astore_nV C (x := yy2) (lw := [(2, va_rf yy2), (1, .int x1), (0, .ref r0)]) rfl rfl (Nat.le_of_ble_eq_true rfl) rfl ?_
  refine k_aload_nV C (x := yy2) rfl rfl rfl ?_
  refine k_ifnonnull C (x := yy2) (t := 23) rfl rfl rfl (fun c3 => ?_) (fun rr4 c3 => ?_)
  · skip
    subst c3
    refine z_iconst C (z := -1) rfl rfl rfl (fun x5 ex5 => ?_)
    exact k_iret C rfl (Or.inl rfl) (Nat.le_of_ble_eq_true rfl) (Nat.le_of_ble_eq_true rfl) ⟨_, _, _, rfl, rfl, by (try simp only [z_r0_0, z_r0_1, z_r0_2, z_r0_5, z_r0_6, z_r0_7, z_r0_8, z_r0_9, z_r0_10, z_r0_11, z_r0_12, z_r0_13, z_r0_1_6, z_r0_1_7, z_r0_1_8, z_r0_1_9, z_r0_1_10]); simp only [k0_r0_1_4, k0_r0_1_5]; exact UND.z (fc9 := 0) hnb (FAD.no hfA E_r0_1_8) hp0 hp1 hp3 hp4 hp5 hp2 w6 ex5, hI, (by (try simp only [z_r0_0, z_r0_1, z_r0_2, z_r0_5, z_r0_6, z_r0_7, z_r0_8, z_r0_9, z_r0_10, z_r0_11, z_r0_12, z_r0_13, z_r0_1_6, z_r0_1_7, z_r0_1_8, z_r0_1_9, z_r0_1_10]); exact Chg.rf)⟩
  subst c3
  have H_rr4 := hyy2 rr4 rfl
  have hq9 := FAD.q hfA; have oF := FA_e z_r0_1_8 hq9.2.2.2; have nF := ncn (n := 16) (j := x1) (by omega) (by omega); have nF1 := ncz (x := x1) (by omega); have hd1 := NBD.pos hnb hq9.1; have hj16 : ∃ j, j < 16 ∧ FA R r0_1 j = rr4 := ⟨_, nF, oF⟩; have hx9 : I r0_1_6 (w_r0_1_4.toInt - 1).toNat = x1 := hnb.1 hd1 (by omega); have hk := hp5 (w_r0_1_4.toInt - 1).toNat (by omega); rw [w6, hx9, oF] at hk; have TF := H_rr4.1; have fF := FO.of H_rr4; have hF := hq9.2.2.2
  refine k_aload_n C rfl rfl rfl ?_
  refine g_R C rfl rfl rfl T_r0 rfl R_r0_1 ?_
  refine k_aload_n C rfl rfl rfl ?_
  obtain ⟨T_rr4, A_rr4, ⟨rr4_1, R_rr4_1, H_rr4_1⟩⟩ := id H_rr4
  have z_rr4_1 : rA R rr4 1 = rr4_1 := rA_e R_rr4_1
  refine c_VV C (s_X8_stepBack_x hS hI H_r0_1 H_rr4 hU (by rw [k0_r0_1_4]; omega) (by rw [k0_r0_1_4]; omega) (by rw [k0_r0_1_5]; omega) (WSX.nf hU hG TF hF n87) (WSX.nb hU hG fF hF n87) (by rw [k0_r0_1_4]; exact hk.2.2)) rfl rfl rfl rfl rfl ⟨_, rfl, rfl, T_r0_1, Nat.le_of_ble_eq_true rfl⟩ rfl rfl (Nat.le_of_ble_eq_true rfl) (Nat.le_of_ble_eq_true rfl) (Nat.le_of_ble_eq_true rfl) ?_
  rintro I7 L8 ⟨p0v6, p1v6, p2v6, hI7, S9⟩
  try simp only [z_r0_0, z_r0_1, z_r0_2, z_r0_5, z_r0_6, z_r0_7, z_r0_8, z_r0_9, z_r0_10, z_r0_11, z_r0_12, z_r0_13, z_r0_1_6, z_r0_1_7, z_r0_1_8, z_r0_1_9, z_r0_1_10, z_rr4_1] at S9
  have e10 := Chg.k S9 T_r0_1 (by decide) (by decide) k0_r0_1_1
  try simp only [z_r0_0, z_r0_1, z_r0_2, z_r0_5, z_r0_6, z_r0_7, z_r0_8, z_r0_9, z_r0_10, z_r0_11, z_r0_12, z_r0_13, z_r0_1_6, z_r0_1_7, z_r0_1_8, z_r0_1_9, z_r0_1_10, z_rr4_1] at p0v6
  try simp only [z_r0_0, z_r0_1, z_r0_2, z_r0_5, z_r0_6, z_r0_7, z_r0_8, z_r0_9, z_r0_10, z_r0_11, z_r0_12, z_r0_13, z_r0_1_6, z_r0_1_7, z_r0_1_8, z_r0_1_9, z_r0_1_10, z_rr4_1] at p1v6
  try simp only [z_r0_0, z_r0_1, z_r0_2, z_r0_5, z_r0_6, z_r0_7, z_r0_8, z_r0_9, z_r0_10, z_r0_11, z_r0_12, z_r0_13, z_r0_1_6, z_r0_1_7, z_r0_1_8, z_r0_1_9, z_r0_1_10, z_rr4_1] at p2v6
  try simp only [k0_r0_1_1, k0_r0_1_4, k0_r0_1_5] at p0v6
  try have q0v6 := congrArg Int32.toInt p0v6
  try simp only [k0_r0_1_1, k0_r0_1_4, k0_r0_1_5] at p1v6
  try have q1v6 := congrArg Int32.toInt p1v6
  try simp only [k0_r0_1_1, k0_r0_1_4, k0_r0_1_5] at p2v6
  try have q2v6 := congrArg Int32.toInt p2v6
  have hsb := p0v6; have hs4 := p1v6; have hs5 := p2v6; have hsS := S9
  refine k_iload_n C rfl rfl rfl ?_
  exact k_iret C rfl (Or.inl rfl) (Nat.le_of_ble_eq_true rfl) (Nat.le_of_ble_eq_true rfl) ⟨_, _, _, rfl, rfl, by (try simp only [z_r0_0, z_r0_1, z_r0_2, z_r0_5, z_r0_6, z_r0_7, z_r0_8, z_r0_9, z_r0_10, z_r0_11, z_r0_12, z_r0_13, z_r0_1_6, z_r0_1_7, z_r0_1_8, z_r0_1_9, z_r0_1_10, z_rr4_1]); simp only [k0_r0_1_4, k0_r0_1_5]; rw [← oF] at hsb; exact ⟨fun h9 => by omega, fun _ => ⟨by rw [w6]; exact hx9, hsb, by omega, by omega, FSM.sb hU hG hsS oF (by assumption) nF (by omega)⟩⟩, hI7, (by (try simp only [z_r0_0, z_r0_1, z_r0_2, z_r0_5, z_r0_6, z_r0_7, z_r0_8, z_r0_9, z_r0_10, z_r0_11, z_r0_12, z_r0_13, z_r0_1_6, z_r0_1_7, z_r0_1_8, z_r0_1_9, z_r0_1_10, z_rr4_1]); exact (Chg.mono (Chg.up S9 (fun a h => h.elim Or.inl (fun e => by obtain ⟨j, j1, j2⟩ := hj16; exact Or.inr ⟨j, j1, by rw [j2]; first | exact e | exact e.trans (by symm; assumption)⟩))) (by decide)))⟩

theorem s_X11_redo_x {d : Nat} {T N : Nat → Nat} {I : IT} {L : LT} {R : RT} {A B : Nat → Prop} {r0 : Nat} (hS : SUB B A) (hI : IX A T I) (H_r0 : (hs_LF T N R A B) r0) (hU : UPR T R) (hp0 : 0 ≤ (I (rA R r0 1) 4).toInt) (hp1 : (I (rA R r0 1) 4).toInt ≤ 40) (hp2 : 0 ≤ (I (rA R r0 1) 5).toInt) (hp3 : (I (rA R r0 1) 4).toInt + (I (rA R r0 1) 5).toInt ≤ 40) (hp4 : (I (rA R r0 1) 1).toInt ≤ 16) (hp5 : ∀ k : Nat, (k : Int) < (I (rA R r0 1) 4).toInt + (I (rA R r0 1) 5).toInt → 0 ≤ (I (WH R (rA R r0 1)) k).toInt ∧ (I (WH R (rA R r0 1)) k).toInt < (I (rA R r0 1) 1).toInt ∧ (I (OA R (rA R r0 1) k) 0).toInt = (I (FA R (rA R r0 1) (I (WH R (rA R r0 1)) k).toNatClampNeg) 0).toInt) : Ex (d + 4) 145 [.ref r0] (T, N, I, L, R) 0 0 (pI T N R (fun x9 I9 L9 => (RDD R I9 I (rA R r0 1) x9 (I (rA R r0 1) 4).toInt (I (rA R r0 1) 5).toInt) ∧ (IX A T I9 ∧ Chg (UDX R (rA R r0 1)) T [(9, 4), (9, 5)] I L I9 L9))) := by
  refine ⟨_, rfl, Nat.le_of_ble_eq_true rfl, fun V C S => ?_⟩
  show V 0 [(0, .ref r0)] [] (T, N, I, L, R) 0 0
  obtain ⟨T_r0, A_r0, B_r0, ⟨r0_0, R_r0_0, H_r0_0⟩, ⟨r0_1, R_r0_1, H_r0_1⟩, ⟨r0_2, R_r0_2, H_r0_2⟩, ⟨r0_5, R_r0_5, H_r0_5⟩, ⟨r0_6, R_r0_6, H_r0_6⟩, ⟨r0_7, R_r0_7, H_r0_7⟩, ⟨r0_8, R_r0_8, H_r0_8⟩, ⟨r0_9, R_r0_9, H_r0_9⟩, ⟨r0_10, R_r0_10, H_r0_10⟩, ⟨r0_11, R_r0_11, H_r0_11⟩, ⟨r0_12, R_r0_12, H_r0_12⟩, ⟨r0_13, R_r0_13, H_r0_13⟩⟩ := id H_r0
  have z_r0_0 : rA R r0 0 = r0_0 := rA_e R_r0_0
  have z_r0_1 : rA R r0 1 = r0_1 := rA_e R_r0_1
  have z_r0_2 : rA R r0 2 = r0_2 := rA_e R_r0_2
  have z_r0_5 : rA R r0 5 = r0_5 := rA_e R_r0_5
  have z_r0_6 : rA R r0 6 = r0_6 := rA_e R_r0_6
  have z_r0_7 : rA R r0 7 = r0_7 := rA_e R_r0_7
  have z_r0_8 : rA R r0 8 = r0_8 := rA_e R_r0_8
  have z_r0_9 : rA R r0 9 = r0_9 := rA_e R_r0_9
  have z_r0_10 : rA R r0 10 = r0_10 := rA_e R_r0_10
  have z_r0_11 : rA R r0 11 = r0_11 := rA_e R_r0_11
  have z_r0_12 : rA R r0 12 = r0_12 := rA_e R_r0_12
  have z_r0_13 : rA R r0 13 = r0_13 := rA_e R_r0_13
  obtain ⟨T_r0_1, A_r0_1, B_r0_1, ⟨r0_1_6, R_r0_1_6, H_r0_1_6⟩, ⟨r0_1_7, R_r0_1_7, H_r0_1_7⟩, ⟨r0_1_8, R_r0_1_8, H_r0_1_8⟩, ⟨r0_1_9, R_r0_1_9, H_r0_1_9⟩, ⟨r0_1_10, R_r0_1_10, H_r0_1_10⟩⟩ := id H_r0_1
  have z_r0_1_6 : rA R r0_1 6 = r0_1_6 := rA_e R_r0_1_6
  have z_r0_1_7 : rA R r0_1 7 = r0_1_7 := rA_e R_r0_1_7
  have z_r0_1_8 : rA R r0_1 8 = r0_1_8 := rA_e R_r0_1_8
  have z_r0_1_9 : rA R r0_1 9 = r0_1_9 := rA_e R_r0_1_9
  have z_r0_1_10 : rA R r0_1 10 = r0_1_10 := rA_e R_r0_1_10
  obtain ⟨T_r0_1_6, N_r0_1_6, A_r0_1_6⟩ := id H_r0_1_6
  obtain ⟨T_r0_1_8, N_r0_1_8, A_r0_1_8, E_r0_1_8⟩ := id H_r0_1_8
  have hG := GS.of H_r0_1
  have w6 : WH R r0_1 = r0_1_6 := z_r0_1_6
  have n87 : r0_1_8 ≠ rA R r0_1 7 := by have := GS.r87 hU hG hG; rwa [z_r0_1_8] at this
  try simp only [z_r0_0, z_r0_1, z_r0_2, z_r0_5, z_r0_6, z_r0_7, z_r0_8, z_r0_9, z_r0_10, z_r0_11, z_r0_12, z_r0_13, z_r0_1_6, z_r0_1_7, z_r0_1_8, z_r0_1_9, z_r0_1_10] at hp0
  try simp only [z_r0_0, z_r0_1, z_r0_2, z_r0_5, z_r0_6, z_r0_7, z_r0_8, z_r0_9, z_r0_10, z_r0_11, z_r0_12, z_r0_13, z_r0_1_6, z_r0_1_7, z_r0_1_8, z_r0_1_9, z_r0_1_10] at hp1
  try simp only [z_r0_0, z_r0_1, z_r0_2, z_r0_5, z_r0_6, z_r0_7, z_r0_8, z_r0_9, z_r0_10, z_r0_11, z_r0_12, z_r0_13, z_r0_1_6, z_r0_1_7, z_r0_1_8, z_r0_1_9, z_r0_1_10] at hp2
  try simp only [z_r0_0, z_r0_1, z_r0_2, z_r0_5, z_r0_6, z_r0_7, z_r0_8, z_r0_9, z_r0_10, z_r0_11, z_r0_12, z_r0_13, z_r0_1_6, z_r0_1_7, z_r0_1_8, z_r0_1_9, z_r0_1_10] at hp3
  try simp only [z_r0_0, z_r0_1, z_r0_2, z_r0_5, z_r0_6, z_r0_7, z_r0_8, z_r0_9, z_r0_10, z_r0_11, z_r0_12, z_r0_13, z_r0_1_6, z_r0_1_7, z_r0_1_8, z_r0_1_9, z_r0_1_10] at hp4
  try simp only [z_r0_0, z_r0_1, z_r0_2, z_r0_5, z_r0_6, z_r0_7, z_r0_8, z_r0_9, z_r0_10, z_r0_11, z_r0_12, z_r0_13, z_r0_1_6, z_r0_1_7, z_r0_1_8, z_r0_1_9, z_r0_1_10] at hp5
  obtain ⟨w_r0_1_1, k0_r0_1_1⟩ : ∃ x, I r0_1 1 = x := ⟨_, rfl⟩
  have gw_r0_1_1 := rg w_r0_1_1
  obtain ⟨w_r0_1_4, k0_r0_1_4⟩ : ∃ x, I r0_1 4 = x := ⟨_, rfl⟩
  have gw_r0_1_4 := rg w_r0_1_4
  obtain ⟨w_r0_1_5, k0_r0_1_5⟩ : ∃ x, I r0_1 5 = x := ⟨_, rfl⟩
  have gw_r0_1_5 := rg w_r0_1_5
  try simp only [k0_r0_1_1, k0_r0_1_4, k0_r0_1_5] at hp0
  try simp only [k0_r0_1_1, k0_r0_1_4, k0_r0_1_5] at hp1
  try simp only [k0_r0_1_1, k0_r0_1_4, k0_r0_1_5] at hp2
  try simp only [k0_r0_1_1, k0_r0_1_4, k0_r0_1_5] at hp3
  try simp only [k0_r0_1_1, k0_r0_1_4, k0_r0_1_5] at hp4
  try simp only [k0_r0_1_1, k0_r0_1_4, k0_r0_1_5] at hp5
  refine k_aload_n C rfl rfl rfl ?_
  refine g_R C rfl rfl rfl T_r0 rfl R_r0_1 ?_
  refine c_VI C (s_X8_nextOn_x hS hI H_r0_1) rfl rfl rfl rfl rfl ⟨_, rfl, rfl, T_r0_1, Nat.le_of_ble_eq_true rfl⟩ rfl rfl (Nat.le_of_ble_eq_true rfl) (Nat.le_of_ble_eq_true rfl) (Nat.le_of_ble_eq_true rfl) ?_
  rintro x1 _ _ ⟨p0x1, rfl, rfl⟩
  have gx1 := rg x1
  try simp only [z_r0_0, z_r0_1, z_r0_2, z_r0_5, z_r0_6, z_r0_7, z_r0_8, z_r0_9, z_r0_10, z_r0_11, z_r0_12, z_r0_13, z_r0_1_6, z_r0_1_7, z_r0_1_8, z_r0_1_9, z_r0_1_10] at p0x1
  try simp only [k0_r0_1_1, k0_r0_1_4, k0_r0_1_5] at p0x1
  try have q0x1 := congrArg Int32.toInt p0x1
  have hnb := p0x1
  refine k_istore_n C (lw := [(1, .int x1), (0, .ref r0)]) rfl rfl (Nat.le_of_ble_eq_true rfl) rfl ?_
  refine k_aload_n C rfl rfl rfl ?_
  refine g_R C rfl rfl rfl T_r0 rfl R_r0_1 ?_
  refine k_iload_n C rfl rfl rfl ?_
  refine c_VR C (s_X8_formAt_x hS hI H_r0_1) rfl rfl rfl rfl rfl ⟨_, rfl, rfl, T_r0_1, Nat.le_of_ble_eq_true rfl⟩ rfl rfl (Nat.le_of_ble_eq_true rfl) (Nat.le_of_ble_eq_true rfl) (Nat.le_of_ble_eq_true rfl) ?_
  rintro yy2 _ _ ⟨hyy2, p0yy2, rfl, rfl⟩
  try simp only [z_r0_0, z_r0_1, z_r0_2, z_r0_5, z_r0_6, z_r0_7, z_r0_8, z_r0_9, z_r0_10, z_r0_11, z_r0_12, z_r0_13, z_r0_1_6, z_r0_1_7, z_r0_1_8, z_r0_1_9, z_r0_1_10] at p0yy2
  try simp only [k0_r0_1_1, k0_r0_1_4, k0_r0_1_5] at p0yy2
  try have q0yy2 := congrArg Int32.toInt p0yy2
  have hfA := p0yy2
  refine k_astore_nV C (x := yy2) (lw := [(2, va_rf yy2), (1, .int x1), (0, .ref r0)]) rfl rfl (Nat.le_of_ble_eq_true rfl) rfl ?_
  refine k_aload_nV C (x := yy2) rfl rfl rfl ?_
  refine k_ifnonnull C (x := yy2) (t := 23) rfl rfl rfl (fun c3 => ?_) (fun rr4 c3 => ?_)
  · skip
    subst c3
    refine z_iconst C (z := -1) rfl rfl rfl (fun x5 ex5 => ?_)
    exact k_iret C rfl (Or.inl rfl) (Nat.le_of_ble_eq_true rfl) (Nat.le_of_ble_eq_true rfl) ⟨_, _, _, rfl, rfl, by (try simp only [z_r0_0, z_r0_1, z_r0_2, z_r0_5, z_r0_6, z_r0_7, z_r0_8, z_r0_9, z_r0_10, z_r0_11, z_r0_12, z_r0_13, z_r0_1_6, z_r0_1_7, z_r0_1_8, z_r0_1_9, z_r0_1_10]); simp only [k0_r0_1_4, k0_r0_1_5]; exact RDD.z (fc9 := 0) hnb (FAD.no hfA E_r0_1_8) hp0 hp1 hp3 hp4 hp5 hp2 w6 ex5, hI, (by (try simp only [z_r0_0, z_r0_1, z_r0_2, z_r0_5, z_r0_6, z_r0_7, z_r0_8, z_r0_9, z_r0_10, z_r0_11, z_r0_12, z_r0_13, z_r0_1_6, z_r0_1_7, z_r0_1_8, z_r0_1_9, z_r0_1_10]); exact Chg.rf)⟩
  subst c3
  have H_rr4 := hyy2 rr4 rfl
  have hq9 := FAD.q hfA; have oF := FA_e z_r0_1_8 hq9.2.2.2; have nF := ncn (n := 16) (j := x1) (by omega) (by omega); have nF1 := ncz (x := x1) (by omega); have hd1 := NOD.pos hnb hq9.1; have hj16 : ∃ j, j < 16 ∧ FA R r0_1 j = rr4 := ⟨_, nF, oF⟩; have hx9 : I r0_1_6 w_r0_1_4.toInt.toNat = x1 := by (have h9 := hnb.1 hd1 (by omega) (by omega); rwa [show w_r0_1_4.toNatClampNeg = w_r0_1_4.toInt.toNat from rfl] at h9)
  have hk := hp5 w_r0_1_4.toInt.toNat (by omega); rw [w6, hx9, oF] at hk; have TF := H_rr4.1; have fF := FO.of H_rr4; have hF := hq9.2.2.2
  refine k_aload_n C rfl rfl rfl ?_
  refine g_R C rfl rfl rfl T_r0 rfl R_r0_1 ?_
  refine k_aload_n C rfl rfl rfl ?_
  obtain ⟨T_rr4, A_rr4, ⟨rr4_1, R_rr4_1, H_rr4_1⟩⟩ := id H_rr4
  have z_rr4_1 : rA R rr4 1 = rr4_1 := rA_e R_rr4_1
  refine c_VV C (s_X8_stepOn_x hS hI H_r0_1 H_rr4 hU (by rw [k0_r0_1_4]; omega) (by rw [k0_r0_1_4]; omega) (by rw [k0_r0_1_5]; omega) (WSX.nf hU hG TF hF n87) (WSX.nb hU hG fF hF n87) (by rw [k0_r0_1_4]; exact hk.2.2)) rfl rfl rfl rfl rfl ⟨_, rfl, rfl, T_r0_1, Nat.le_of_ble_eq_true rfl⟩ rfl rfl (Nat.le_of_ble_eq_true rfl) (Nat.le_of_ble_eq_true rfl) (Nat.le_of_ble_eq_true rfl) ?_
  rintro I7 L8 ⟨p0v6, p1v6, p2v6, hI7, S9⟩
  try simp only [z_r0_0, z_r0_1, z_r0_2, z_r0_5, z_r0_6, z_r0_7, z_r0_8, z_r0_9, z_r0_10, z_r0_11, z_r0_12, z_r0_13, z_r0_1_6, z_r0_1_7, z_r0_1_8, z_r0_1_9, z_r0_1_10, z_rr4_1] at S9
  have e10 := Chg.k S9 T_r0_1 (by decide) (by decide) k0_r0_1_1
  try simp only [z_r0_0, z_r0_1, z_r0_2, z_r0_5, z_r0_6, z_r0_7, z_r0_8, z_r0_9, z_r0_10, z_r0_11, z_r0_12, z_r0_13, z_r0_1_6, z_r0_1_7, z_r0_1_8, z_r0_1_9, z_r0_1_10, z_rr4_1] at p0v6
  try simp only [z_r0_0, z_r0_1, z_r0_2, z_r0_5, z_r0_6, z_r0_7, z_r0_8, z_r0_9, z_r0_10, z_r0_11, z_r0_12, z_r0_13, z_r0_1_6, z_r0_1_7, z_r0_1_8, z_r0_1_9, z_r0_1_10, z_rr4_1] at p1v6
  try simp only [z_r0_0, z_r0_1, z_r0_2, z_r0_5, z_r0_6, z_r0_7, z_r0_8, z_r0_9, z_r0_10, z_r0_11, z_r0_12, z_r0_13, z_r0_1_6, z_r0_1_7, z_r0_1_8, z_r0_1_9, z_r0_1_10, z_rr4_1] at p2v6
  try simp only [k0_r0_1_1, k0_r0_1_4, k0_r0_1_5] at p0v6
  try have q0v6 := congrArg Int32.toInt p0v6
  try simp only [k0_r0_1_1, k0_r0_1_4, k0_r0_1_5] at p1v6
  try have q1v6 := congrArg Int32.toInt p1v6
  try simp only [k0_r0_1_1, k0_r0_1_4, k0_r0_1_5] at p2v6
  try have q2v6 := congrArg Int32.toInt p2v6
  have hsb := p0v6; have hs4 := p1v6; have hs5 := p2v6; have hsS := S9
  refine k_iload_n C rfl rfl rfl ?_
  exact k_iret C rfl (Or.inl rfl) (Nat.le_of_ble_eq_true rfl) (Nat.le_of_ble_eq_true rfl) ⟨_, _, _, rfl, rfl, by (try simp only [z_r0_0, z_r0_1, z_r0_2, z_r0_5, z_r0_6, z_r0_7, z_r0_8, z_r0_9, z_r0_10, z_r0_11, z_r0_12, z_r0_13, z_r0_1_6, z_r0_1_7, z_r0_1_8, z_r0_1_9, z_r0_1_10, z_rr4_1]); simp only [k0_r0_1_4, k0_r0_1_5]; rw [← oF] at hsb; exact ⟨fun h9 => by omega, fun _ => ⟨by rw [w6]; exact hx9, hsb, by omega, by omega, FSM.sb hU hG hsS oF (by assumption) nF (by omega)⟩⟩, hI7, (by (try simp only [z_r0_0, z_r0_1, z_r0_2, z_r0_5, z_r0_6, z_r0_7, z_r0_8, z_r0_9, z_r0_10, z_r0_11, z_r0_12, z_r0_13, z_r0_1_6, z_r0_1_7, z_r0_1_8, z_r0_1_9, z_r0_1_10, z_rr4_1]); exact (Chg.mono (Chg.up S9 (fun a h => h.elim Or.inl (fun e => by obtain ⟨j, j1, j2⟩ := hj16; exact Or.inr ⟨j, j1, by rw [j2]; first | exact e | exact e.trans (by symm; assumption)⟩))) (by decide)))⟩

