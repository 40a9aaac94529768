/-! the signs told: both sides hold the same -/
def SGR (R : RT) (st : Nat) (W : Nat → Int32) (I : IT) : Prop := (I st 3).toInt = (W 3).toInt ∧ ∀ j : Nat, j < 8 → (j : Int) < (I st 3).toInt → STL R I (SA R st j) = WSL W j ∧ 0 ≤ (I (SA R st j) 2).toInt ∧ (I (SA R st j) 2).toInt ≤ 160 ∧ HLV (WSL W j)
/-- the cells that hold a state's signs -/
def SGCL (R : RT) (st a : Nat) : Prop := ∃ j, j < 8 ∧ (a = SA R st j ∨ a = rA R (SA R st j) 0 ∨ a = rA R (SA R st j) 1)
def NS8 (T : Nat → Nat) (R : RT) (a : Nat) : Prop := T a ≠ 8 ∧ (T a = 20 → ∃ c k, R c k = some a ∧ T c ≠ 8)
def SGS (R : RT) (nw kp m w im tp : Nat) (I : IT) : Prop := TBY (I tp) ∧ SGR R nw (I w) I ∧ ((I m 3).toInt = 0 ∨ SGR R kp (I im) I)
section Sgn
variable {T N : Nat → Nat} {R : RT} {A B : Nat → Prop} {x nw kp rd al m w im o cb tp st : Nat} {I I1 I2 : IT} {L L1 L2 : LT} {Wf WA : List Nat} {S : Nat → Prop} {Wl : List (Nat × Nat)}
theorem NS8.no (hU : UPR T R) (gg : GG T R st) {a : Nat} (h : NS8 T R a) : ¬ SGCL R st a := by
  rintro ⟨j, hj, q⟩
  obtain ⟨o1, o2, ⟨o3, o4⟩, o5, o6⟩ := gg.2.2 j hj
  rcases q with q | q | q
  · exact h.1 (by rw [q]; exact o2)
  · obtain ⟨c, k, hc, hk⟩ := h.2 (by rw [q]; exact o4)
    rw [q] at hc
    have e := (hU (SA R st j) 0 c k _ (t20 o4) o3 hc).1
    exact hk (by rw [← e]; exact o2)
  · obtain ⟨c, k, hc, hk⟩ := h.2 (by rw [q]; exact o6)
    rw [q] at hc
    have e := (hU (SA R st j) 1 c k _ (t20 o6) o5 hc).1
    exact hk (by rw [← e]; exact o2)
theorem NS8.t {a : Nat} (h : T a ≠ 8) (h2 : T a ≠ 20) : NS8 T R a := ⟨h, fun q => absurd q h2⟩
theorem NS8.a {a c k : Nat} (h : T a ≠ 8) (hR : R c k = some a) (hc : T c ≠ 8) : NS8 T R a := ⟨h, fun _ => ⟨c, k, hR, hc⟩⟩
theorem KEEP.sg (gg : GG T R st) {a : Nat} (h : ¬ KEEP T R a) : ¬ SGCL R st a := by
  rintro ⟨j, hj, q | q | q⟩
  · exact h (by rw [q]; exact Or.inr (Or.inl (KEEP.sa gg hj)))
  · exact h (by rw [q]; exact KEEP.s0 gg hj)
  · exact h (by rw [q]; exact KEEP.s1 gg hj)
theorem NS8.ws (g : GS T R st) {a : Nat} (h : WSX R st a) : NS8 T R a := by
  obtain ⟨g1, ⟨g2, g3⟩, g4, g5, g6, g7, g8, g9⟩ := g
  rcases h with rfl | rfl | ⟨j, hj, rfl | rfl⟩
  · exact NS8.t (by omega) (by omega)
  · exact NS8.a (by omega) g2 (by omega)
  · have f := (g7 j hj).2
    exact NS8.t (by have := f.1; omega) (by have := f.1; omega)
  · have f := (g7 j hj).2
    exact NS8.a (by have := f.2.2; omega) f.2.1 (by have := f.1; omega)
theorem NS8.fa (g : GS T R st) {j : Nat} (hj : j < 16) : NS8 T R (FA R st j) ∧ NS8 T R (rA R (FA R st j) 1) := by
  obtain ⟨g1, g2, g4, g5, g6, g7, g8, g9⟩ := g
  have f := (g8 j hj).2
  exact ⟨NS8.t (by have := f.1; omega) (by have := f.1; omega), NS8.a (by have := f.2.2; omega) f.2.1 (by have := f.1; omega)⟩
theorem NS8.ta (g : GS T R st) {j : Nat} (hj : j < 8) : NS8 T R (TA R st j) := by
  obtain ⟨g1, g2, g4, g5, g6, g7, g8, g9⟩ := g
  have f := (g9 j hj).2
  exact NS8.t (by omega) (by omega)
/-- cells and world as they were -/
theorem SGR.fr {W W1 : Nat → Int32} (h : SGR R st W I) (e3 : (I1 st 3).toInt = (I st 3).toInt) (eo : ∀ a, SGCL R st a → I1 a = I a) (fw : ∀ r, (r = 3 ∨ 198 ≤ r ∧ r < 3406) → W1 r = W r) : SGR R st W1 I1 := by
  refine ⟨by rw [e3, fw 3 (Or.inl rfl)]; exact h.1, fun j hj hk => ?_⟩
  obtain ⟨h1, h2, h3, h4⟩ := h.2 j hj (by omega)
  have l : (WSL W j).length ≤ 160 := by rw [← h1, STL.len]; omega
  rw [STL.fr rfl rfl (by rw [eo _ ⟨j, hj, Or.inl rfl⟩]) (eo _ ⟨j, hj, Or.inr (Or.inl rfl)⟩) (eo _ ⟨j, hj, Or.inr (Or.inr rfl)⟩), WSL.eq l (fun r h1 h2 => fw r (Or.inr ⟨by omega, by omega⟩)), eo _ ⟨j, hj, Or.inl rfl⟩]
  exact ⟨h1, h2, h3, h4⟩
/-- behind a call of the class that leaves all signs -/
theorem SGS.c (E : LX T N R A B x nw kp rd al m w im o cb tp) (h : SGS R nw kp m w im tp I) (c : CB S T Wl I I1) (hS : ∀ a, S a → A a ∧ (NS8 T R a ∨ ¬ KEEP T R a)) (e9 : (9, 3) ∉ Wl) : SGS R nw kp m w im tp I1 := by
  obtain ⟨⟨g1, gg1⟩, g2, gg2⟩ := E.g
  obtain ⟨⟨t1, t2, t3, t4⟩, -, b1, b2, b3⟩ := E.1.t
  have nAB := E.1.2.2.2.1
  have hU := E.2.1
  have eB : ∀ a, B a → I1 a = I a := fun a ha => c.1 a (fun q => nAB a (hS a q).1 ha)
  have eo : ∀ st, GG T R st → ∀ a, SGCL R st a → I1 a = I a := fun st gg a ha => c.1 a (fun q => (hS a q).2.elim (fun z => z.no hU gg ha) (fun z => KEEP.sg gg z ha))
  obtain ⟨h1, h2, h3⟩ := h
  refine ⟨by rw [eB tp E.tb]; exact h1, ?_, ?_⟩
  · rw [eB w b2]
    exact h2.fr (by rw [c.2 nw 3 (by omega) (by rw [t2]; exact e9)]) (eo nw gg1) (fun _ _ => rfl)
  · rw [eB m b1, eB im b3]
    exact h3.imp id (fun q => q.fr (by rw [c.2 kp 3 (by omega) (by rw [t3]; exact e9)]) (eo kp gg2) (fun _ _ => rfl))
/-- behind a call of the reference that leaves all signs -/
theorem SGS.r (E : LX T N R A B x nw kp rd al m w im o cb tp) (h : SGS R nw kp m w im tp I) (cm : CM B R m Wf WA I L I1 L1) (h3 : 3 ∉ Wf) (h2 : 2 ∉ WA) (ht : TBY (I1 tp)) (fw : ∀ r, (r = 3 ∨ 198 ≤ r ∧ r < 3406) → I1 w r = I w r) : SGS R nw kp m w im tp I1 := by
  obtain ⟨⟨g1, gg1⟩, g2, gg2⟩ := E.g
  obtain ⟨⟨t1, t2, t3, t4⟩, ⟨a1, a2, a3, a4⟩, b1, b2, b3⟩ := E.1.t
  have nAB := E.1.2.2.2.1
  have w2 := E.1.2.2.2.2.2.2.2.2.2.2.2
  have eA : ∀ a, A a → I1 a = I a := fun a ha => (cm.1 a (nAB a ha)).1
  have eo : ∀ st, h_St T N R A st → ∀ a, SGCL R st a → I1 a = I a := fun st hs a ⟨j, hj, q⟩ => by
    have z := (ST.a9 hs).2.2.2.2.2 j hj
    rcases q with q | q | q
    · rw [q]; exact eA _ z.1
    · rw [q]; exact eA _ z.2.1
    · rw [q]; exact eA _ z.2.2
  obtain ⟨h1, h2', h3'⟩ := h
  refine ⟨ht, ?_, ?_⟩
  · exact h2'.fr (by rw [eA nw a2]) (eo nw E.s.1) fw
  · rw [cm.2.1 3 h3, (cm.2.2 2 im w2 h2).1]
    exact h3'.imp id (fun q => q.fr (by rw [eA kp a3]) (eo kp E.s.2) (fun _ _ => rfl))
theorem SGS.r0 (E : LX T N R A B x nw kp rd al m w im o cb tp) (h : SGS R nw kp m w im tp I) (cm : CM B R m Wf WA I L I1 L1) (h3 : 3 ∉ Wf) (h1 : 1 ∉ WA) (h2 : 2 ∉ WA) (h10 : 10 ∉ WA) : SGS R nw kp m w im tp I1 := by
  have w1 := E.1.2.2.2.2.2.2.2.2.2.2.1
  exact h.r E cm h3 h2 (by rw [(cm.2.2 10 tp E.2.2.2 h10).1]; exact h.1) (fun r _ => by rw [(cm.2.2 1 w w1 h1).1])
theorem SGS.rw (E : LX T N R A B x nw kp rd al m w im o cb tp) (h : SGS R nw kp m w im tp I) (cm : CM B R m Wf WA I L I1 L1) (h3 : 3 ∉ Wf) (h2 : 2 ∉ WA) (h10 : 10 ∉ WA) (fw : ∀ r, (r = 3 ∨ 198 ≤ r ∧ r < 3406) → I1 w r = I w r) : SGS R nw kp m w im tp I1 := h.r E cm h3 h2 (by rw [(cm.2.2 10 tp E.2.2.2 h10).1]; exact h.1) fw
end Sgn
def RY (R : RT) (x nw kp rd cb m w im tp : Nat) (I : IT) : Prop := RYo R x nw kp rd cb m w im tp I ∧ SGS R nw kp m w im tp I
section Ops9
variable {T N : Nat → Nat} {R : RT} {A B : Nat → Prop} {x nw kp rd al m w im o cb tp : Nat} {I I1 I2 : IT} {L L1 L2 : LT} {Wf WA : List Nat} {S : Nat → Prop} {Wl : List (Nat × Nat)}
theorem SGS.e (h : SGS R nw kp m w im tp I) (eo : ∀ st, (st = nw ∨ st = kp) → I1 st 3 = I st 3 ∧ ∀ a, SGCL R st a → I1 a = I a) (e3 : (I1 m 3).toInt = (I m 3).toInt) (ew : I1 w = I w) (ei : I1 im = I im) (et : I1 tp = I tp) : SGS R nw kp m w im tp I1 := by
  obtain ⟨h1, h2, h3⟩ := h
  refine ⟨by rw [et]; exact h1, ?_, ?_⟩
  · rw [ew]; exact h2.fr (by rw [(eo nw (Or.inl rfl)).1]) (eo nw (Or.inl rfl)).2 (fun _ _ => rfl)
  · rw [e3, ei]; exact h3.imp id (fun q => q.fr (by rw [(eo kp (Or.inr rfl)).1]) (eo kp (Or.inr rfl)).2 (fun _ _ => rfl))
theorem SGCL.ty (gg : GG T R nw) {a : Nat} (h : SGCL R nw a) : T a = 8 ∨ T a = 20 := by
  obtain ⟨j, hj, q⟩ := h
  obtain ⟨o1, o2, ⟨o3, o4⟩, o5, o6⟩ := gg.2.2 j hj
  rcases q with q | q | q
  · left; rw [q]; exact o2
  · right; rw [q]; exact o4
  · right; rw [q]; exact o6
theorem SGCL.a (hs : h_St T N R A nw) {a : Nat} (h : SGCL R nw a) : A a := by
  obtain ⟨j, hj, q⟩ := h
  have z := (ST.a9 hs).2.2.2.2.2 j hj
  rcases q with q | q | q
  · rw [q]; exact z.1
  · rw [q]; exact z.2.1
  · rw [q]; exact z.2.2
theorem RY.q (E : LX T N R A B x nw kp rd al m w im o cb tp) (hl : LI T R A m I) (h : RY R x nw kp rd cb m w im tp I) (c : CB (BS T R A) T Wl I I1) (h5 : (5, 1) ∉ Wl) (h12 : (12, 3) ∉ Wl) (h9 : ∀ k, k < 6 → (9, k) ∉ Wl) (h10 : ∀ k, k < 4 → (10, k) ∉ Wl) : RY R x nw kp rd cb m w im tp I1 := ⟨RYo.q E hl h.1 c h5 h12 h9 h10, h.2.c E c (fun a q => ⟨q.1, Or.inr q.2⟩) (h9 3 (by decide))⟩
theorem RY.r0 (E : LX T N R A B x nw kp rd al m w im o cb tp) (hl : LI T R A m I) (h : RY R x nw kp rd cb m w im tp I) (c : CM B R m Wf WA I L I1 L1) (h11 : 11 ∉ Wf) (h3 : 3 ∉ Wf) (h1 : 1 ∉ WA) (h2 : 2 ∉ WA) (h10 : 10 ∉ WA) : RY R x nw kp rd cb m w im tp I1 := ⟨RYo.r0 E hl h.1 c h11 h3 h1 h2 h10, h.2.r0 E c h3 h1 h2 h10⟩
theorem RY.rf (E : LX T N R A B x nw kp rd al m w im o cb tp) (hl : LI T R A m I) (h : RY R x nw kp rd cb m w im tp I) (f : Fr (fun a => a = m ∨ R m 21 = some a ∨ R m 34 = some a) I L I1 L1) (k : IKm m I I1) : RY R x nw kp rd cb m w im tp I1 := by
  refine ⟨RYo.rf E hl h.1 f k, ?_⟩
  obtain ⟨-, ⟨a1, a2, a3, a4⟩, b1, b2, b3⟩ := E.1.t
  have G := MD.G E.1.2.1
  have w1 := E.1.2.2.2.2.2.2.2.2.2.2.1
  have w2 := E.1.2.2.2.2.2.2.2.2.2.2.2
  have eA : ∀ a, A a → I1 a = I a := fun a ha => (f a (fun q => by
    rcases q with q | q | q
    · subst q; exact E.1.2.2.2.1 _ ha b1
    · exact E.1.2.2.2.1 a ha (MD.B E.1.2.1 (by decide) q)
    · exact E.1.2.2.2.1 a ha (MD.B E.1.2.1 (by decide) q))).1
  have e : ∀ g a, R m g = some a → g ≠ 21 → g ≠ 34 → I1 a = I a := fun g a ha h1 h2 => (f a (fun q => by
    rcases q with q | q | q
    · exact G.ne ha q
    · exact h1 (G.1 _ _ _ ha q)
    · exact h2 (G.1 _ _ _ ha q))).1
  refine h.2.e (fun st hst => ?_) (by rw [k 3 (by decide) (by decide)]) (e 1 w w1 (by decide) (by decide)) (e 2 im w2 (by decide) (by decide)) (e 10 tp E.2.2.2 (by decide) (by decide))
  rcases hst with rfl | rfl
  · exact ⟨by rw [eA _ a2], fun a ha => eA a (ha.a E.s.1)⟩
  · exact ⟨by rw [eA _ a3], fun a ha => eA a (ha.a E.s.2)⟩
theorem SL.s1 {a b : Nat} (h : SL [b] a) : a = b := List.mem_singleton.mp (SL.a h)
theorem SL.s2 {a b c : Nat} (h : SL [b, c] a) : a = b ∨ a = c := by
  have q := SL.a h
  simpa only [List.mem_cons, List.not_mem_nil, or_false] using q
theorem hS.rr (E : LX T N R A B x nw kp rd al m w im o cb tp) : ∀ a, SL [rd] a → A a ∧ (NS8 T R a ∨ ¬ KEEP T R a) := fun a q => by
  obtain ⟨⟨t1, t2, t3, t4⟩, ⟨a1, a2, a3, a4⟩, -⟩ := E.1.t
  rw [SL.s1 q]; exact ⟨a4, Or.inl (NS8.t (by omega) (by omega))⟩
theorem hS.nn (E : LX T N R A B x nw kp rd al m w im o cb tp) : ∀ a, SL [nw] a → A a ∧ (NS8 T R a ∨ ¬ KEEP T R a) := fun a q => by
  obtain ⟨⟨t1, t2, t3, t4⟩, ⟨a1, a2, a3, a4⟩, -⟩ := E.1.t
  rw [SL.s1 q]; exact ⟨a2, Or.inl (NS8.t (by omega) (by omega))⟩
theorem hS.tb (E : LX T N R A B x nw kp rd al m w im o cb tp) {n : Nat} (hn : n < 8) : ∀ a, sTb R nw n a → A a ∧ (NS8 T R a ∨ ¬ KEEP T R a) := fun a q => by
  obtain ⟨⟨t1, t2, t3, t4⟩, -⟩ := E.1.t
  obtain ⟨⟨g1, gg1⟩, -⟩ := E.g
  refine ⟨sTb.a9 E hn q, Or.inl ?_⟩
  rcases q with e | e
  · rw [e]; exact NS8.t (by omega) (by omega)
  · rw [e]; exact NS8.ta g1 hn
/-- nothing changed but what is no state's -/
theorem SGS.sm (E : LX T N R A B x nw kp rd al m w im o cb tp) (h : SGS R nw kp m w im tp I) (e : ∀ a, a ≠ rd → I1 a = I a) : SGS R nw kp m w im tp I1 := by
  obtain ⟨⟨g1, gg1⟩, g2, gg2⟩ := E.g
  obtain ⟨⟨t1, t2, t3, t4⟩, ⟨a1, a2, a3, a4⟩, b1, b2, b3⟩ := E.1.t
  have nAB := E.1.2.2.2.1
  have eB : ∀ a, B a → I1 a = I a := fun a ha => e a (fun q => nAB _ a4 (q ▸ ha))
  refine h.e (fun st hst => ?_) (by rw [eB m b1]) (eB w b2) (eB im b3) (eB tp E.tb)
  rcases hst with rfl | rfl
  · exact ⟨by rw [e _ (fun q => by rw [q] at t2; omega)], fun a ha => e a (fun q => by have := ha.ty gg1; rw [q] at this; omega)⟩
  · exact ⟨by rw [e _ (fun q => by rw [q] at t3; omega)], fun a ha => e a (fun q => by have := ha.ty gg2; rw [q] at this; omega)⟩
theorem RY.b (E : LX T N R A B x nw kp rd al m w im o cb tp) (hl : LI T R A m I) (h : RY R x nw kp rd cb m w im tp I) : (0 ≤ (I nw 1).toInt ∧ (I nw 1).toInt ≤ 16) ∧ (0 ≤ (I nw 2).toInt ∧ (I nw 2).toInt ≤ 8) ∧ (0 ≤ (I nw 4).toInt ∧ 0 ≤ (I nw 5).toInt ∧ (I nw 4).toInt + (I nw 5).toInt ≤ 40) ∧ (0 ≤ (I rd 1).toInt ∧ (I rd 1).toInt ≤ 400) ∧ (0 ≤ (I nw 3).toInt ∧ (I nw 3).toInt ≤ 8) ∧ PRM (I nw 0).toInt := RYo.b E hl h.1
theorem RY.bf (E : LX T N R A B x nw kp rd al m w im o cb tp) (h : RY R x nw kp rd cb m w im tp I) : ∀ j : Nat, (j : Int) < (I nw 1).toInt → BNX I (rA R (FA R nw j) 1) (I (FA R nw j) 0).toInt (I nw 0).toInt := RYo.bf E h.1
theorem RY.ba (E : LX T N R A B x nw kp rd al m w im o cb tp) (hl : LI T R A m I) (h : RY R x nw kp rd cb m w im tp I) : ∀ k : Nat, (k : Int) < (I nw 4).toInt + (I nw 5).toInt → 0 ≤ (I (WH R nw) k).toInt ∧ (I (WH R nw) k).toInt < (I nw 1).toInt ∧ (I (OA R nw k) 0).toInt = (I (FA R nw (I (WH R nw) k).toNatClampNeg) 0).toInt := RYo.ba E hl h.1
theorem fw.tw {W' W : Nat → Int32} {a b c d : Int} (h : TBW W' W a b c d) (h2 : (W 2).toInt < 8) : ∀ r, (r = 3 ∨ 198 ≤ r ∧ r < 3406) → W' r = W r := fun r hr => h.2 r (by omega) (by omega)
theorem fw.tt {W' W : Nat → Int32} {t : Int} {f : Nat} (h : TBt W' W t f) (h2 : t = 0 → (W 2).toInt < 8) : ∀ r, (r = 3 ∨ 198 ≤ r ∧ r < 3406) → W' r = W r := fun r hr => by
  by_cases z : t = 0
  · obtain ⟨a, b, c, d, -, q⟩ := h.2 z
    exact fw.tw q (h2 z) r hr
  · rw [h.1 z]
theorem SGCL.s3 {st a : Nat} (h : SGCL R st a) : ∃ j, j < 8 ∧ SG3 R st j a := h
/-- the cells that telling signs changes -/
def sSG (R : RT) (x rd nw n a : Nat) : Prop := a = x ∨ a = rd ∨ a = rA R rd 0 ∨ a = rA R (rA R rd 0) 0 ∨ a = rA R (rA R rd 0) 1 ∨ a = nw ∨ a = SA R nw n ∨ a = rA R (SA R nw n) 0 ∨ a = rA R (SA R nw n) 1
theorem BC.eq {f g : Nat → Int32} {m n : Int} (hm : m = n) (h : ∀ k : Nat, (k : Int) < n → (f k).toInt = (g k).toInt % 256) : BCH f m = BCM g n := by
  subst hm
  exact funext fun k => by
    unfold BCH BCM
    by_cases q : (k : Int) < m
    · rw [if_pos q, if_pos q]; exact h k q
    · rw [if_neg q, if_neg q]
theorem LX.oq (E : LX T N R A B x nw kp rd al m w im o cb tp) : (T (rA R rd 0) = 8 ∧ R rd 0 = some (rA R rd 0) ∧ A (rA R rd 0)) ∧ (T (rA R (rA R rd 0) 0) = 20 ∧ R (rA R rd 0) 0 = some (rA R (rA R rd 0) 0) ∧ A (rA R (rA R rd 0) 0)) ∧ T (rA R (rA R rd 0) 1) = 20 ∧ R (rA R rd 0) 1 = some (rA R (rA R rd 0) 1) ∧ A (rA R (rA R rd 0) 1) := by
  obtain ⟨⟨hx, -, -, -, -, -, r0, -⟩, -⟩ := E
  obtain ⟨b, e, h⟩ := hx.2.2.1
  cases e.symm.trans r0
  obtain ⟨-, -, ⟨s, s1, s2, s3, ⟨c, c1, c2, -, c4⟩, ⟨d, d1, d2, -, d4⟩⟩, -⟩ := h
  rw [rA_e s1, rA_e c1, rA_e d1]
  exact ⟨⟨s2, s1, s3⟩, ⟨c2, c1, c4⟩, d2, d1, d4⟩
theorem sSG.sn (E : LX T N R A B x nw kp rd al m w im o cb tp) {n : Nat} (hn : n < 8) {a : Nat} (h : sSG R x rd nw n a) : sSN T R A nw a := by
  obtain ⟨⟨t1, t2, t3, t4⟩, ⟨a1, a2, a3, a4⟩, b1, b2, b3⟩ := E.1.t
  obtain ⟨⟨o1, o2, o3⟩, ⟨p1, p2, p3⟩, q1, q2, q3⟩ := E.oq
  have hU := E.2.1
  have ko : ¬ KEEP T R (rA R rd 0) := KEEP.s hU o1 o2 (by omega)
  rcases h with e | e | e | e | e | e | e | e | e
  · rw [e]; exact Or.inl ⟨⟨a1, KEEP.n (by omega) (by omega) (by omega)⟩, Or.inl (by omega)⟩
  · rw [e]; exact Or.inl ⟨⟨a4, KEEP.n (by omega) (by omega) (by omega)⟩, Or.inl (by omega)⟩
  · rw [e]; exact Or.inl ⟨⟨o3, ko⟩, Or.inl (by omega)⟩
  · rw [e]; exact Or.inl ⟨⟨p3, KEEP.a hU p1 p2 ko (by omega) (by omega)⟩, Or.inl (by omega)⟩
  · rw [e]; exact Or.inl ⟨⟨q3, KEEP.a hU q1 q2 ko (by omega) (by omega)⟩, Or.inl (by omega)⟩
  · rw [e]; exact Or.inl ⟨⟨a2, KEEP.n (by omega) (by omega) (by omega)⟩, Or.inr rfl⟩
  · exact Or.inr ⟨n, hn, Or.inl e⟩
  · exact Or.inr ⟨n, hn, Or.inr (Or.inl e)⟩
  · exact Or.inr ⟨n, hn, Or.inr (Or.inr e)⟩
theorem CB.mn {S' : Nat → Prop} (c : CB S T Wl I I1) (h : ∀ a, S a → S' a) : CB S' T Wl I I1 := ⟨fun a ha => c.1 a (fun q => ha (h a q)), c.2⟩
theorem sSG.no (E : LX T N R A B x nw kp rd al m w im o cb tp) {st n j a : Nat} (hst : st = nw ∨ st = kp) (hn : n < 8) (hj : j < 8) (hne : ¬ (st = nw ∧ j = n)) (h : SG3 R st j a) : ¬ sSG R x rd nw n a := by
  obtain ⟨⟨g1, gg1⟩, g2, gg2⟩ := E.g
  obtain ⟨⟨t1, t2, t3, t4⟩, -⟩ := E.1.t
  obtain ⟨⟨o1, o2, o3⟩, ⟨p1, p2, p3⟩, q1, q2, q3⟩ := E.oq
  have hU := E.2.1
  have gg : GG T R st := by rcases hst with e | e <;> (rw [e]; assumption)
  have ty := h.ty gg hj
  obtain ⟨s1, s2, ⟨s3, s4⟩, s5, s6⟩ := gg.2.2 j hj
  have ns : SA R st j ≠ rA R rd 0 := fun e => by
    have := (hU _ _ _ _ _ (Or.inr (Or.inl s2)) s1 (by rw [e]; exact o2)).1
    have t := gg.2.1
    rw [this] at t; omega
  intro q
  rcases q with e | e | e | e | e | e | e
  · rw [e] at ty; omega
  · rw [e] at ty; omega
  · rcases h with h | h | h
    · exact ns (h.symm.trans e)
    · rw [h.symm.trans e] at s4; omega
    · rw [h.symm.trans e] at s6; omega
  · rcases h with h | h | h
    · rw [h.symm.trans e] at s2; omega
    · exact ns (hU _ _ _ _ _ (t20 s4) s3 (by rw [h.symm.trans e]; exact p2)).1
    · exact ns (hU _ _ _ _ _ (t20 s6) s5 (by rw [h.symm.trans e]; exact p2)).1
  · rcases h with h | h | h
    · rw [h.symm.trans e] at s2; omega
    · exact ns (hU _ _ _ _ _ (t20 s4) s3 (by rw [h.symm.trans e]; exact q2)).1
    · exact ns (hU _ _ _ _ _ (t20 s6) s5 (by rw [h.symm.trans e]; exact q2)).1
  · rw [e] at ty; omega
  · exact hne (SG3.u hU gg gg1 hj hn h e)
theorem RZ.eq (h : RYo R x nw kp rd cb m w im tp I) : RDA 200 (BCM (I tp) (I m 11).toInt) = RDA 160 (BCH (I cb) (I rd 1).toInt) := by
  rw [RDA.eq, BC.eq h.1 h.2.2.1]
theorem SG9.c {S : Nat → Prop} {Wl : List (Nat × Nat)} (E : LX T N R A B x nw kp rd al m w im o cb tp) (q9 : ∀ a, ¬ (a = x ∨ a = rd ∨ a = rA R rd 0 ∨ a = rA R (rA R rd 0) 0 ∨ a = rA R (rA R rd 0) 1) → I1 a = I a) (c : CB S T Wl I I1) : CB (sSN T R A nw) T Wl I I1 := by
  have sn : ∀ a, (a = x ∨ a = rd ∨ a = rA R rd 0 ∨ a = rA R (rA R rd 0) 0 ∨ a = rA R (rA R rd 0) 1) → sSN T R A nw a := fun a q => sSG.sn (n := 0) E (by decide) (by
    rcases q with e | e | e | e | e
    · exact Or.inl e
    · exact Or.inr (Or.inl e)
    · exact Or.inr (Or.inr (Or.inl e))
    · exact Or.inr (Or.inr (Or.inr (Or.inl e)))
    · exact Or.inr (Or.inr (Or.inr (Or.inr (Or.inl e)))))
  exact ⟨fun a ha => q9 a (fun q => ha (sn a q)), c.2⟩
theorem SG9.n (E : LX T N R A B x nw kp rd al m w im o cb tp) (hl : LI T R A m I) (h : RY R x nw kp rd cb m w im tp I) {Wl : List (Nat × Nat)} {u : Int} (q1 : (I nw 3).toInt < 8 ∧ u = (I nw 3).toInt) (c : CB (sSG R x rd nw (I nw 3).toNatClampNeg) T Wl I I1) : CB (sSN T R A nw) T Wl I I1 := by
  have hb := (RYo.b E hl h.1).2.2.2.2.1
  have n0 := ncz hb.1
  exact c.mn (fun a q => sSG.sn E (by omega) q)
end Ops9
