/-! the signs told: both sides hold the same -/
def SGR (R : RT) (st : Nat) (W : Nat → Int32) (I : IT) : Prop := (I st 3).toInt = (W 3).toInt ∧ ∀ j : Nat, j < 8 → (j : Int) < (I st 3).toInt → STL R I (SA R st j) = WSL W j ∧ 0 ≤ (I (SA R st j) 2).toInt ∧ (I (SA R st j) 2).toInt ≤ 160 ∧ HLV (WSL W j)
/-- the cells that hold a state's signs -/
def SGCL (R : RT) (st a : Nat) : Prop := ∃ j, j < 8 ∧ (a = SA R st j ∨ a = rA R (SA R st j) 0 ∨ a = rA R (SA R st j) 1)
def NS8 (T : Nat → Nat) (R : RT) (a : Nat) : Prop := T a ≠ 8 ∧ (T a = 20 → ∃ c k, R c k = some a ∧ T c ≠ 8)
def SGS (R : RT) (nw kp m w im tp : Nat) (I : IT) : Prop := TBY (I tp) ∧ SGR R nw (I w) I ∧ ((I m 3).toInt = 0 ∨ SGR R kp (I im) I)
section Sgn
variable {T N : Nat → Nat} {R : RT} {A B : Nat → Prop} {x nw kp rd al m w im o cb tp st : Nat} {I I1 I2 : IT} {L L1 L2 : LT} {Wf WA : List Nat} {S : Nat → Prop} {Wl : List (Nat × Nat)}
theorem NS8.no (hU : UPR T R) (gg : GG T R st) {a : Nat} (h : NS8 T R a) : ¬ SGCL R st a := by
  rintro ⟨j, hj, q⟩
  obtain ⟨o1, o2, ⟨o3, o4⟩, o5, o6⟩ := gg.2.2 j hj
  rcases q with q | q | q
  · exact h.1 (by rw [q]; exact o2)
  · obtain ⟨c, k, hc, hk⟩ := h.2 (by rw [q]; exact o4)
    rw [q] at hc
    have e := (hU (SA R st j) 0 c k _ (t20 o4) o3 hc).1
    exact hk (by rw [← e]; exact o2)
  · obtain ⟨c, k, hc, hk⟩ := h.2 (by rw [q]; exact o6)
    rw [q] at hc
    have e := (hU (SA R st j) 1 c k _ (t20 o6) o5 hc).1
    exact hk (by rw [← e]; exact o2)
theorem NS8.t {a : Nat} (h : T a ≠ 8) (h2 : T a ≠ 20) : NS8 T R a := ⟨h, fun q => absurd q h2⟩
theorem NS8.a {a c k : Nat} (h : T a ≠ 8) (hR : R c k = some a) (hc : T c ≠ 8) : NS8 T R a := ⟨h, fun _ => ⟨c, k, hR, hc⟩⟩
theorem KEEP.sg (gg : GG T R st) {a : Nat} (h : ¬ KEEP T R a) : ¬ SGCL R st a := by
  rintro ⟨j, hj, q | q | q⟩
  · exact h (by rw [q]; exact Or.inr (Or.inl (KEEP.sa gg hj)))
  · exact h (by rw [q]; exact KEEP.s0 gg hj)
  · exact h (by rw [q]; exact KEEP.s1 gg hj)
theorem NS8.ws (g : GS T R st) {a : Nat} (h : WSX R st a) : NS8 T R a := by
  obtain ⟨g1, ⟨g2, g3⟩, g4, g5, g6, g7, g8, g9⟩ := g
  rcases h with rfl | rfl | ⟨j, hj, rfl | rfl⟩
  · exact NS8.t (by omega) (by omega)
  · exact NS8.a (by omega) g2 (by omega)
  · have f := (g7 j hj).2
    exact NS8.t (by have := f.1; omega) (by have := f.1; omega)
  · have f := (g7 j hj).2
    exact NS8.a (by have := f.2.2; omega) f.2.1 (by have := f.1; omega)
theorem NS8.fa (g : GS T R st) {j : Nat} (hj : j < 16) : NS8 T R (FA R st j) ∧ NS8 T R (rA R (FA R st j) 1) := by
  obtain ⟨g1, g2, g4, g5, g6, g7, g8, g9⟩ := g
  have f := (g8 j hj).2
  exact ⟨NS8.t (by have := f.1; omega) (by have := f.1; omega), NS8.a (by have := f.2.2; omega) f.2.1 (by have := f.1; omega)⟩
theorem NS8.ta (g : GS T R st) {j : Nat} (hj : j < 8) : NS8 T R (TA R st j) := by
  obtain ⟨g1, g2, g4, g5, g6, g7, g8, g9⟩ := g
  have f := (g9 j hj).2
  exact NS8.t (by omega) (by omega)
/-- cells and world as they were -/
theorem SGR.fr {W W1 : Nat → Int32} (h : SGR R st W I) (e3 : (I1 st 3).toInt = (I st 3).toInt) (eo : ∀ a, SGCL R st a → I1 a = I a) (fw : ∀ r, (r = 3 ∨ 198 ≤ r ∧ r < 3406) → W1 r = W r) : SGR R st W1 I1 := by
  refine ⟨by rw [e3, fw 3 (Or.inl rfl)]; exact h.1, fun j hj hk => ?_⟩
  obtain ⟨h1, h2, h3, h4⟩ := h.2 j hj (by omega)
  have l : (WSL W j).length ≤ 160 := by rw [← h1, STL.len]; omega
  rw [STL.fr rfl rfl (by rw [eo _ ⟨j, hj, Or.inl rfl⟩]) (eo _ ⟨j, hj, Or.inr (Or.inl rfl)⟩) (eo _ ⟨j, hj, Or.inr (Or.inr rfl)⟩), WSL.eq l (fun r h1 h2 => fw r (Or.inr ⟨by omega, by omega⟩)), eo _ ⟨j, hj, Or.inl rfl⟩]
  exact ⟨h1, h2, h3, h4⟩
/-- behind a call of the class that leaves all signs -/
theorem SGS.c (E : LX T N R A B x nw kp rd al m w im o cb tp) (h : SGS R nw kp m w im tp I) (c : CB S T Wl I I1) (hS : ∀ a, S a → A a ∧ (NS8 T R a ∨ ¬ KEEP T R a)) (e9 : (9, 3) ∉ Wl) : SGS R nw kp m w im tp I1 := by
  obtain ⟨⟨g1, gg1⟩, g2, gg2⟩ := E.g
  obtain ⟨⟨t1, t2, t3, t4⟩, -, b1, b2, b3⟩ := E.1.t
  have nAB := E.1.2.2.2.1
  have hU := E.2.1
  have eB : ∀ a, B a → I1 a = I a := fun a ha => c.1 a (fun q => nAB a (hS a q).1 ha)
  have eo : ∀ st, GG T R st → ∀ a, SGCL R st a → I1 a = I a := fun st gg a ha => c.1 a (fun q => (hS a q).2.elim (fun z => z.no hU gg ha) (fun z => KEEP.sg gg z ha))
  obtain ⟨h1, h2, h3⟩ := h
  refine ⟨by rw [eB tp E.tb]; exact h1, ?_, ?_⟩
  · rw [eB w b2]
    exact h2.fr (by rw [c.2 nw 3 (by omega) (by rw [t2]; exact e9)]) (eo nw gg1) (fun _ _ => rfl)
  · rw [eB m b1, eB im b3]
    exact h3.imp id (fun q => q.fr (by rw [c.2 kp 3 (by omega) (by rw [t3]; exact e9)]) (eo kp gg2) (fun _ _ => rfl))
/-- behind a call of the reference that leaves all signs -/
theorem SGS.r (E : LX T N R A B x nw kp rd al m w im o cb tp) (h : SGS R nw kp m w im tp I) (cm : CM B R m Wf WA I L I1 L1) (h3 : 3 ∉ Wf) (h2 : 2 ∉ WA) (ht : TBY (I1 tp)) (fw : ∀ r, (r = 3 ∨ 198 ≤ r ∧ r < 3406) → I1 w r = I w r) : SGS R nw kp m w im tp I1 := by
  obtain ⟨⟨g1, gg1⟩, g2, gg2⟩ := E.g
  obtain ⟨⟨t1, t2, t3, t4⟩, ⟨a1, a2, a3, a4⟩, b1, b2, b3⟩ := E.1.t
  have nAB := E.1.2.2.2.1
  have w2 := E.1.2.2.2.2.2.2.2.2.2.2.2
  have eA : ∀ a, A a → I1 a = I a := fun a ha => (cm.1 a (nAB a ha)).1
  have eo : ∀ st, h_St T N R A st → ∀ a, SGCL R st a → I1 a = I a := fun st hs a ⟨j, hj, q⟩ => by
    have z := (ST.a9 hs).2.2.2.2.2 j hj
    rcases q with q | q | q
    · rw [q]; exact eA _ z.1
    · rw [q]; exact eA _ z.2.1
    · rw [q]; exact eA _ z.2.2
  obtain ⟨h1, h2', h3'⟩ := h
  refine ⟨ht, ?_, ?_⟩
  · exact h2'.fr (by rw [eA nw a2]) (eo nw E.s.1) fw
  · rw [cm.2.1 3 h3, (cm.2.2 2 im w2 h2).1]
    exact h3'.imp id (fun q => q.fr (by rw [eA kp a3]) (eo kp E.s.2) (fun _ _ => rfl))
theorem SGS.r0 (E : LX T N R A B x nw kp rd al m w im o cb tp) (h : SGS R nw kp m w im tp I) (cm : CM B R m Wf WA I L I1 L1) (h3 : 3 ∉ Wf) (h1 : 1 ∉ WA) (h2 : 2 ∉ WA) (h10 : 10 ∉ WA) : SGS R nw kp m w im tp I1 := by
  have w1 := E.1.2.2.2.2.2.2.2.2.2.2.1
  exact h.r E cm h3 h2 (by rw [(cm.2.2 10 tp E.2.2.2.1 h10).1]; exact h.1) (fun r _ => by rw [(cm.2.2 1 w w1 h1).1])
theorem SGS.rw (E : LX T N R A B x nw kp rd al m w im o cb tp) (h : SGS R nw kp m w im tp I) (cm : CM B R m Wf WA I L I1 L1) (h3 : 3 ∉ Wf) (h2 : 2 ∉ WA) (h10 : 10 ∉ WA) (fw : ∀ r, (r = 3 ∨ 198 ≤ r ∧ r < 3406) → I1 w r = I w r) : SGS R nw kp m w im tp I1 := h.r E cm h3 h2 (by rw [(cm.2.2 10 tp E.2.2.2.1 h10).1]; exact h.1) fw
end Sgn
def RY (R : RT) (x nw kp rd cb m w im tp : Nat) (I : IT) : Prop := RYo R x nw kp rd cb m w im tp I ∧ SGS R nw kp m w im tp I
section Ops9
variable {T N : Nat → Nat} {R : RT} {A B : Nat → Prop} {x nw kp rd al m w im o cb tp : Nat} {I I1 I2 : IT} {L L1 L2 : LT} {Wf WA : List Nat} {S : Nat → Prop} {Wl : List (Nat × Nat)}
theorem SGS.e (h : SGS R nw kp m w im tp I) (eo : ∀ st, (st = nw ∨ st = kp) → I1 st 3 = I st 3 ∧ ∀ a, SGCL R st a → I1 a = I a) (e3 : (I1 m 3).toInt = (I m 3).toInt) (ew : I1 w = I w) (ei : I1 im = I im) (et : I1 tp = I tp) : SGS R nw kp m w im tp I1 := by
  obtain ⟨h1, h2, h3⟩ := h
  refine ⟨by rw [et]; exact h1, ?_, ?_⟩
  · rw [ew]; exact h2.fr (by rw [(eo nw (Or.inl rfl)).1]) (eo nw (Or.inl rfl)).2 (fun _ _ => rfl)
  · rw [e3, ei]; exact h3.imp id (fun q => q.fr (by rw [(eo kp (Or.inr rfl)).1]) (eo kp (Or.inr rfl)).2 (fun _ _ => rfl))
theorem SGCL.ty (gg : GG T R nw) {a : Nat} (h : SGCL R nw a) : T a = 8 ∨ T a = 20 := by
  obtain ⟨j, hj, q⟩ := h
  obtain ⟨o1, o2, ⟨o3, o4⟩, o5, o6⟩ := gg.2.2 j hj
  rcases q with q | q | q
  · left; rw [q]; exact o2
  · right; rw [q]; exact o4
  · right; rw [q]; exact o6
theorem SGCL.a (hs : h_St T N R A nw) {a : Nat} (h : SGCL R nw a) : A a := by
  obtain ⟨j, hj, q⟩ := h
  have z := (ST.a9 hs).2.2.2.2.2 j hj
  rcases q with q | q | q
  · rw [q]; exact z.1
  · rw [q]; exact z.2.1
  · rw [q]; exact z.2.2
theorem RY.q (E : LX T N R A B x nw kp rd al m w im o cb tp) (hl : LI T R A m I) (h : RY R x nw kp rd cb m w im tp I) (c : CB (BS T R A) T Wl I I1) (h5 : (5, 1) ∉ Wl) (h12 : (12, 3) ∉ Wl) (h9 : ∀ k, k < 6 → (9, k) ∉ Wl) (h10 : ∀ k, k < 4 → (10, k) ∉ Wl) : RY R x nw kp rd cb m w im tp I1 := ⟨RYo.q E hl h.1 c h5 h12 h9 h10, h.2.c E c (fun a q => ⟨q.1, Or.inr q.2⟩) (h9 3 (by decide))⟩
theorem RY.r0 (E : LX T N R A B x nw kp rd al m w im o cb tp) (hl : LI T R A m I) (h : RY R x nw kp rd cb m w im tp I) (c : CM B R m Wf WA I L I1 L1) (h11 : 11 ∉ Wf) (h3 : 3 ∉ Wf) (h1 : 1 ∉ WA) (h2 : 2 ∉ WA) (h10 : 10 ∉ WA) : RY R x nw kp rd cb m w im tp I1 := ⟨RYo.r0 E hl h.1 c h11 h3 h1 h2 h10, h.2.r0 E c h3 h1 h2 h10⟩
theorem RY.cf {A9 : Nat → Prop} (E : LX T N R A B x nw kp rd al m w im o cb tp) (hl : LI T R A m I) (h : RY R x nw kp rd cb m w im tp I) (hA : ∀ a, A9 a → A a ∧ (T a = 11 ∨ T a = 21)) (f : Fr A9 I L I1 L1) : RY R x nw kp rd cb m w im tp I1 := by
  refine ⟨RYo.cf E hl h.1 hA f, ?_⟩
  obtain ⟨⟨g1, gg1⟩, g2, gg2⟩ := E.g
  obtain ⟨⟨t1, t2, t3, t4⟩, -, b1, b2, b3⟩ := E.1.t
  have e : ∀ a, (B a ∨ T a ≠ 11 ∧ T a ≠ 21) → I1 a = I a := fun a ha => (f a (fun q => by
    have := hA a q
    rcases ha with z | z
    · exact E.1.2.2.2.1 a this.1 z
    · omega)).1
  refine h.2.e (fun st hst => ?_) (by rw [e m (Or.inl b1)]) (e w (Or.inl b2)) (e im (Or.inl b3)) (e tp (Or.inl E.tb))
  rcases hst with rfl | rfl
  · exact ⟨by rw [e _ (Or.inr (by omega))], fun a ha => e a (Or.inr (by have := ha.ty gg1; omega))⟩
  · exact ⟨by rw [e _ (Or.inr (by omega))], fun a ha => e a (Or.inr (by have := ha.ty gg2; omega))⟩
theorem RY.rf (E : LX T N R A B x nw kp rd al m w im o cb tp) (hl : LI T R A m I) (h : RY R x nw kp rd cb m w im tp I) (f : Fr (fun a => a = m ∨ R m 21 = some a ∨ R m 34 = some a) I L I1 L1) (k : IKm m I I1) : RY R x nw kp rd cb m w im tp I1 := by
  refine ⟨RYo.rf E hl h.1 f k, ?_⟩
  obtain ⟨-, ⟨a1, a2, a3, a4⟩, b1, b2, b3⟩ := E.1.t
  have G := MD.G E.1.2.1
  have w1 := E.1.2.2.2.2.2.2.2.2.2.2.1
  have w2 := E.1.2.2.2.2.2.2.2.2.2.2.2
  have eA : ∀ a, A a → I1 a = I a := fun a ha => (f a (fun q => by
    rcases q with q | q | q
    · subst q; exact E.1.2.2.2.1 _ ha b1
    · exact E.1.2.2.2.1 a ha (MD.B E.1.2.1 (by decide) q)
    · exact E.1.2.2.2.1 a ha (MD.B E.1.2.1 (by decide) q))).1
  have e : ∀ g a, R m g = some a → g ≠ 21 → g ≠ 34 → I1 a = I a := fun g a ha h1 h2 => (f a (fun q => by
    rcases q with q | q | q
    · exact G.ne ha q
    · exact h1 (G.1 _ _ _ ha q)
    · exact h2 (G.1 _ _ _ ha q))).1
  refine h.2.e (fun st hst => ?_) (by rw [k 3 (by decide) (by decide)]) (e 1 w w1 (by decide) (by decide)) (e 2 im w2 (by decide) (by decide)) (e 10 tp E.2.2.2.1 (by decide) (by decide))
  rcases hst with rfl | rfl
  · exact ⟨by rw [eA _ a2], fun a ha => eA a (ha.a E.s.1)⟩
  · exact ⟨by rw [eA _ a3], fun a ha => eA a (ha.a E.s.2)⟩
theorem SL.s1 {a b : Nat} (h : SL [b] a) : a = b := List.mem_singleton.mp (SL.a h)
theorem SL.s2 {a b c : Nat} (h : SL [b, c] a) : a = b ∨ a = c := by
  have q := SL.a h
  simpa only [List.mem_cons, List.not_mem_nil, or_false] using q
theorem hS.rr (E : LX T N R A B x nw kp rd al m w im o cb tp) : ∀ a, SL [rd] a → A a ∧ (NS8 T R a ∨ ¬ KEEP T R a) := fun a q => by
  obtain ⟨⟨t1, t2, t3, t4⟩, ⟨a1, a2, a3, a4⟩, -⟩ := E.1.t
  rw [SL.s1 q]; exact ⟨a4, Or.inl (NS8.t (by omega) (by omega))⟩
theorem hS.nn (E : LX T N R A B x nw kp rd al m w im o cb tp) : ∀ a, SL [nw] a → A a ∧ (NS8 T R a ∨ ¬ KEEP T R a) := fun a q => by
  obtain ⟨⟨t1, t2, t3, t4⟩, ⟨a1, a2, a3, a4⟩, -⟩ := E.1.t
  rw [SL.s1 q]; exact ⟨a2, Or.inl (NS8.t (by omega) (by omega))⟩
theorem hS.fd (E : LX T N R A B x nw kp rd al m w im o cb tp) : ∀ a, SL [rd, cb] a → A a ∧ (NS8 T R a ∨ ¬ KEEP T R a) := fun a q => by
  obtain ⟨⟨t1, t2, t3, t4⟩, ⟨a1, a2, a3, a4⟩, -⟩ := E.1.t
  rcases SL.s2 q with e | e
  · rw [e]; exact ⟨a4, Or.inl (NS8.t (by omega) (by omega))⟩
  · rw [e]; exact ⟨E.c.2, Or.inl (NS8.a (by have := E.c.1; omega) E.2.2.1 (by omega))⟩
theorem hS.fm (E : LX T N R A B x nw kp rd al m w im o cb tp) {n : Nat} (hn : n < 16) : ∀ a, sFm R rd nw n a → A a ∧ (NS8 T R a ∨ ¬ KEEP T R a) := fun a q => by
  obtain ⟨⟨t1, t2, t3, t4⟩, -⟩ := E.1.t
  obtain ⟨⟨g1, gg1⟩, -⟩ := E.g
  refine ⟨sFm.a9 E hn q, Or.inl ?_⟩
  rcases q with e | e | e | e
  · rw [e]; exact NS8.t (by omega) (by omega)
  · rw [e]; exact NS8.t (by omega) (by omega)
  · rw [e]; exact (NS8.fa g1 hn).1
  · rw [e]; exact (NS8.fa g1 hn).2
theorem hS.tb (E : LX T N R A B x nw kp rd al m w im o cb tp) {n : Nat} (hn : n < 8) : ∀ a, sTb R nw n a → A a ∧ (NS8 T R a ∨ ¬ KEEP T R a) := fun a q => by
  obtain ⟨⟨t1, t2, t3, t4⟩, -⟩ := E.1.t
  obtain ⟨⟨g1, gg1⟩, -⟩ := E.g
  refine ⟨sTb.a9 E hn q, Or.inl ?_⟩
  rcases q with e | e
  · rw [e]; exact NS8.t (by omega) (by omega)
  · rw [e]; exact NS8.ta g1 hn
theorem hS.mx (E : LX T N R A B x nw kp rd al m w im o cb tp) {n : Nat} (hn : n < 16) : ∀ a, sMx T R A nw n a → A a ∧ (NS8 T R a ∨ ¬ KEEP T R a) := fun a q => by
  obtain ⟨⟨g1, gg1⟩, -⟩ := E.g
  refine ⟨sMx.a9 E hn q, ?_⟩
  rcases q with e | e | e | e
  · exact Or.inr e.1.2
  · exact Or.inl (NS8.ws g1 e)
  · rw [e]; exact Or.inl (NS8.fa g1 hn).1
  · rw [e]; exact Or.inl (NS8.fa g1 hn).2
theorem hS.ud (E : LX T N R A B x nw kp rd al m w im o cb tp) : ∀ a, UDX R nw a → A a ∧ (NS8 T R a ∨ ¬ KEEP T R a) := fun a q => by
  obtain ⟨⟨g1, gg1⟩, -⟩ := E.g
  refine ⟨OWN.a9 E.s.1 (OWN.ud q), Or.inl ?_⟩
  rcases q with e | ⟨j, hj, e⟩
  · exact NS8.ws g1 e
  · rw [e]; exact (NS8.fa g1 hj).2
/-- nothing changed but what is no state's -/
theorem SGS.sm (E : LX T N R A B x nw kp rd al m w im o cb tp) (h : SGS R nw kp m w im tp I) (e : ∀ a, a ≠ rd → I1 a = I a) : SGS R nw kp m w im tp I1 := by
  obtain ⟨⟨g1, gg1⟩, g2, gg2⟩ := E.g
  obtain ⟨⟨t1, t2, t3, t4⟩, ⟨a1, a2, a3, a4⟩, b1, b2, b3⟩ := E.1.t
  have nAB := E.1.2.2.2.1
  have eB : ∀ a, B a → I1 a = I a := fun a ha => e a (fun q => nAB _ a4 (q ▸ ha))
  refine h.e (fun st hst => ?_) (by rw [eB m b1]) (eB w b2) (eB im b3) (eB tp E.tb)
  rcases hst with rfl | rfl
  · exact ⟨by rw [e _ (fun q => by rw [q] at t2; omega)], fun a ha => e a (fun q => by have := ha.ty gg1; rw [q] at this; omega)⟩
  · exact ⟨by rw [e _ (fun q => by rw [q] at t3; omega)], fun a ha => e a (fun q => by have := ha.ty gg2; rw [q] at this; omega)⟩
theorem RY.b (E : LX T N R A B x nw kp rd al m w im o cb tp) (hl : LI T R A m I) (h : RY R x nw kp rd cb m w im tp I) : (0 ≤ (I nw 1).toInt ∧ (I nw 1).toInt ≤ 16) ∧ (0 ≤ (I nw 2).toInt ∧ (I nw 2).toInt ≤ 8) ∧ (0 ≤ (I nw 4).toInt ∧ 0 ≤ (I nw 5).toInt ∧ (I nw 4).toInt + (I nw 5).toInt ≤ 40) ∧ (0 ≤ (I rd 1).toInt ∧ (I rd 1).toInt ≤ 400) ∧ (0 ≤ (I nw 3).toInt ∧ (I nw 3).toInt ≤ 8) ∧ PRM (I nw 0).toInt := RYo.b E hl h.1
theorem RY.bk (E : LX T N R A B x nw kp rd al m w im o cb tp) (hl : LI T R A m I) (h : RY R x nw kp rd cb m w im tp I) : (I x 3).toInt ≠ 0 → (I kp 1).toInt ≤ 16 ∧ (I kp 2).toInt ≤ 8 := RYo.bk E hl h.1
theorem RY.bf (E : LX T N R A B x nw kp rd al m w im o cb tp) (h : RY R x nw kp rd cb m w im tp I) : ∀ j : Nat, (j : Int) < (I nw 1).toInt → BNX I (rA R (FA R nw j) 1) (I (FA R nw j) 0).toInt (I nw 0).toInt := RYo.bf E h.1
theorem RY.bt (E : LX T N R A B x nw kp rd al m w im o cb tp) (h : RY R x nw kp rd cb m w im tp I) : ∀ j : Nat, (j : Int) < (I nw 2).toInt → ∀ k : Nat, k < 4 → 0 ≤ (I (TA R nw j) k).toInt ∧ (I (TA R nw j) k).toInt < (I nw 0).toInt := RYo.bt E h.1
theorem RY.ba (E : LX T N R A B x nw kp rd al m w im o cb tp) (hl : LI T R A m I) (h : RY R x nw kp rd cb m w im tp I) : ∀ k : Nat, (k : Int) < (I nw 4).toInt + (I nw 5).toInt → 0 ≤ (I (WH R nw) k).toInt ∧ (I (WH R nw) k).toInt < (I nw 1).toInt ∧ (I (OA R nw k) 0).toInt = (I (FA R nw (I (WH R nw) k).toNatClampNeg) 0).toInt := RYo.ba E hl h.1
theorem fw.fm {W' W tp : Nat → Int32} {n t : Int} (h : FMX W' W tp n t) (hb : t ≠ 0 ∨ (W 1).toInt < 16 ∧ n ≤ 9) : ∀ r, (r = 3 ∨ 198 ≤ r ∧ r < 3406) → W' r = W r := fun r hr => by
  by_cases z : t = 0
  · exact (h.2 z).2.2.2.2 r (by omega) (by omega) (by omega)
  · rw [h.1 z]
theorem fw.tw {W' W : Nat → Int32} {a b c d : Int} (h : TBW W' W a b c d) (h2 : (W 2).toInt < 8) : ∀ r, (r = 3 ∨ 198 ≤ r ∧ r < 3406) → W' r = W r := fun r hr => h.2 r (by omega) (by omega)
theorem fw.tx {W' W : Nat → Int32} {t a b c d : Int} (h : TBX W' W t a b c d) (h2 : t = 0 → (W 2).toInt < 8) : ∀ r, (r = 3 ∨ 198 ≤ r ∧ r < 3406) → W' r = W r := fun r hr => by
  by_cases z : t = 0
  · exact fw.tw (h.2 z) (h2 z) r hr
  · rw [h.1 z]
theorem fw.tt {W' W : Nat → Int32} {t : Int} {f : Nat} (h : TBt W' W t f) (h2 : t = 0 → (W 2).toInt < 8) : ∀ r, (r = 3 ∨ 198 ≤ r ∧ r < 3406) → W' r = W r := fun r hr => by
  by_cases z : t = 0
  · obtain ⟨a, b, c, d, -, q⟩ := h.2 z
    exact fw.tw q (h2 z) r hr
  · rw [h.1 z]
theorem fw.md {W' W : Nat → Int32} {f : Nat} {a b c d p : Int} (h : MFD W' W f a b c d p) (hf : f < 16) (hd : (W (6 + 10 * f)).toInt ≤ 8) : ∀ r, (r = 3 ∨ 198 ≤ r ∧ r < 3406) → W' r = W r := fun r hr => h.2 r (by omega)
theorem fw.mx {W' W : Nat → Int32} {f t : Int32} (h : MXT W' W f t) (hW : WOS W) (hf : f.toNatClampNeg < 16) : ∀ r, (r = 3 ∨ 198 ≤ r ∧ r < 3406) → W' r = W r := fun r hr => by
  obtain ⟨W1, ⟨x1, -⟩, x2⟩ := h
  have d := (hW.1.2.2.1 _ hf).2.1
  rw [fw.md x2 hf (by rw [x1 _ (by omega) (by omega) (by omega)]; exact d) r hr, x1 r (by omega) (by omega) (by omega)]
theorem fw.ag {W' W1 W : Nat → Int32} {a : Nat} {b x : Int} (h : AGX W' W1 a b x) (e : ∀ r : Nat, r ≠ 4 → r ≠ 5 → W1 r = W r) (hW : WOS W) (ha : a < 40) : ∀ r, (r = 3 ∨ 198 ≤ r ∧ r < 3406) → W' r = W r := fun r hr => by
  obtain ⟨ta, tb, tc, td, -, -, m, -⟩ := h
  have q := hW.1.2.2.2.2.2.2 a ha
  have nf := ncz (x := W (3406 + 5 * a)) q.1
  rw [e (3406 + 5 * a) (by omega) (by omega)] at m
  have d := (hW.1.2.2.1 (W (3406 + 5 * a)).toNatClampNeg (by omega)).2.1
  rw [fw.md m (by omega) (by rw [e _ (by omega) (by omega)]; exact d) r hr, e r (by omega) (by omega)]
theorem fw.un {W' W : Nat → Int32} {x : Int} (h : UNX W' W x) (hW : WOS W) : ∀ r, (r = 3 ∨ 198 ≤ r ∧ r < 3406) → W' r = W r := fun r hr => by
  have b := hW.b
  by_cases z : (W 4).toInt = 0
  · rw [(h.1 z).2]
  · obtain ⟨W1, -, -, e, g⟩ := h.2 (by omega)
    exact fw.ag g e hW (by omega) r hr
theorem fw.re {W' W : Nat → Int32} {x : Int} (h : RDX W' W x) (hW : WOS W) : ∀ r, (r = 3 ∨ 198 ≤ r ∧ r < 3406) → W' r = W r := fun r hr => by
  have b := hW.b
  by_cases z : (W 5).toInt = 0
  · rw [(h.1 z).2]
  · obtain ⟨W1, -, -, e, g⟩ := h.2 (by omega)
    exact fw.ag g e hW (by omega) r hr
theorem OP_end {n u v : Int32} (E : LX T N R A B x nw kp rd al m w im o cb tp) (hl : LI T R A m I) (hl1 : LI T R A m I1) (u0_ : LI T R A m I2) (h : RY R x nw kp rd cb m w im tp I) (c : CB (SL [rd]) T [(5, 1)] I I1) (u1_ : 0 ≤ u.toInt) (u2_ : u.toInt ≤ 1) (q2 : (n.toInt < 0 ∨ (I rd 1).toInt < n.toInt) ∧ u.toInt = 0 ∧ (I1 rd 1).toInt = (I rd 1).toInt ∨ 0 ≤ n.toInt ∧ n.toInt ≤ (I rd 1).toInt ∧ u.toInt = 1 ∧ (I1 rd 1).toInt = n.toInt) (cm : CM B R m [0, 11] [] I1 L1 I2 L2) (u3_ : 0 ≤ v.toInt) (u4_ : v.toInt ≤ 1) (p2 : (n.toInt < 0 ∨ (I1 m 11).toInt < n.toInt) ∧ v.toInt = 0 ∧ (I2 m 11).toInt = (I1 m 11).toInt ∨ 0 ≤ n.toInt ∧ n.toInt ≤ (I1 m 11).toInt ∧ v.toInt = 1 ∧ (I2 m 11).toInt = n.toInt) : RY R x nw kp rd cb m w im tp I2 := ⟨OPo_end E hl hl1 u0_ h.1 c u1_ u2_ q2 cm u3_ u4_ p2, (h.2.c E c (hS.rr E) (by decide)).r0 E cm (by decide) (by decide) (by decide) (by decide)⟩
theorem OP_feed {n1 n2 n3 n4 n5 u v : Int32} (E : LX T N R A B x nw kp rd al m w im o cb tp) (hl : LI T R A m I) (u0_ : LI T R A m I1) (hl2 : LI T R A m I2) (h : RY R x nw kp rd cb m w im tp I) (c : CB (SL [rd, cb]) T [(5, 1)] I I1) (q0 : 380 < (I rd 1).toInt ∧ u.toInt = -1 ∧ (I1 rd 1).toInt = (I rd 1).toInt ∧ I1 cb = I cb ∨ (I rd 1).toInt ≤ 380 ∧ u.toInt = (I rd 1).toInt + 20 ∧ (I1 rd 1).toInt = (I rd 1).toInt + 20 ∧ FDC (I1 cb) (I cb) (I rd 1).toNatClampNeg (F5 n1 n2 n3 n4 n5) 5) (cm : CM B R m [0, 11] [10, 18] I1 L1 I2 L2) (u1_ : -1 ≤ v.toInt) (u2_ : v.toInt ≤ 400) (p2 : 380 < (I1 m 11).toInt ∧ v.toInt = -1 ∧ (I2 m 11).toInt = (I1 m 11).toInt ∨ (I1 m 11).toInt ≤ 380 ∧ v.toInt = (I1 m 11).toInt + 20 ∧ (I2 m 11).toInt = (I1 m 11).toInt + 20) (p3 : ∀ a10, R m 10 = some a10 → TFX (I2 a10) (I1 a10) (I1 m 11) (F5 n1 n2 n3 n4 n5)) (tb9 : ∀ a10, R m 10 = some a10 → TBY (I1 a10) → TBY (I2 a10)) : RY R x nw kp rd cb m w im tp I2 := by
  have w1 := E.1.2.2.2.2.2.2.2.2.2.2.1
  exact ⟨OPo_feed E hl u0_ hl2 h.1 c q0 cm u1_ u2_ p2 p3, ((h.2.c E c (hS.fd E) (by decide)).r E cm (by decide) (by decide) (tb9 tp E.2.2.2.1 (h.2.c E c (hS.fd E) (by decide)).1) (fun r _ => by rw [(cm.2.2 1 w w1 (by decide)).1]))⟩
theorem OP_field {n : Int32} {P0 : Prop} (E : LX T N R A B x nw kp rd al m w im o cb tp) (hl : LI T R A m I) (u0_ : LI T R A m I1) (hl2 : LI T R A m I2) (h : RY R x nw kp rd cb m w im tp I) (c : CB (SL [nw]) T [(9, 0)] I I1) (q0 : (n.toInt = 11 ∨ n.toInt = 13 ∨ n.toInt = 17 ∨ n.toInt = 19) ∧ (I nw 1).toInt ≤ 0 ∧ (I nw 2).toInt ≤ 0) (q1 : (I1 nw 0).toInt = n.toInt) (cm : CM B R m [0] [1] I1 L1 I2 L2) (u1_ : P0) (p1 : ∀ a1, R m 1 = some a1 → ¬ (n.toInt = 11 ∨ n.toInt = 13 ∨ n.toInt = 17 ∨ n.toInt = 19) ∧ (I2 m 0).toInt = 1 ∧ (I2 a1 0).toInt = (I1 a1 0).toInt ∨ (n.toInt = 11 ∨ n.toInt = 13 ∨ n.toInt = 17 ∨ n.toInt = 19) ∧ 0 < (I1 a1 1).toInt + (I1 a1 2).toInt ∧ (I2 m 0).toInt = 2 ∧ (I2 a1 0).toInt = (I1 a1 0).toInt ∨ (n.toInt = 11 ∨ n.toInt = 13 ∨ n.toInt = 17 ∨ n.toInt = 19) ∧ (I1 a1 1).toInt + (I1 a1 2).toInt ≤ 0 ∧ (I2 m 0).toInt = 0 ∧ (I2 a1 0).toInt = n.toInt) (p2 : ∀ a1, R m 1 = some a1 → ∀ r : Nat, r ≠ 0 → I2 a1 r = I1 a1 r) : RY R x nw kp rd cb m w im tp I2 := by
  have w1 := E.1.2.2.2.2.2.2.2.2.2.2.1
  have hW := (LI.wos E u0_).1
  exact ⟨OPo_field E hl u0_ hl2 h.1 c q0 q1 cm u1_ p1 p2, (h.2.c E c (hS.nn E) (by decide)).rw E cm (by decide) (by decide) (by decide) (fun r hr => p2 w w1 r (by omega))⟩
theorem OP_field_0 {n : Int32} {P0 : Prop} (E : LX T N R A B x nw kp rd al m w im o cb tp) (hl : LI T R A m I) (hl1 : LI T R A m I1) (hl2 : LI T R A m I2) (h : RY R x nw kp rd cb m w im tp I) (u0_ : CB (SL [nw]) T [(9, 0)] I I1) (q0 : ¬ (n.toInt = 11 ∨ n.toInt = 13 ∨ n.toInt = 17 ∨ n.toInt = 19)) (q1 : ∀ a k, I1 a k = I a k) (cm : CM B R m [0] [1] I1 L1 I2 L2) (u1_ : P0) (p1 : ∀ a1, R m 1 = some a1 → ¬ (n.toInt = 11 ∨ n.toInt = 13 ∨ n.toInt = 17 ∨ n.toInt = 19) ∧ (I2 m 0).toInt = 1 ∧ (I2 a1 0).toInt = (I1 a1 0).toInt ∨ (n.toInt = 11 ∨ n.toInt = 13 ∨ n.toInt = 17 ∨ n.toInt = 19) ∧ 0 < (I1 a1 1).toInt + (I1 a1 2).toInt ∧ (I2 m 0).toInt = 2 ∧ (I2 a1 0).toInt = (I1 a1 0).toInt ∨ (n.toInt = 11 ∨ n.toInt = 13 ∨ n.toInt = 17 ∨ n.toInt = 19) ∧ (I1 a1 1).toInt + (I1 a1 2).toInt ≤ 0 ∧ (I2 m 0).toInt = 0 ∧ (I2 a1 0).toInt = n.toInt) (p2 : ∀ a1, R m 1 = some a1 → ∀ r : Nat, r ≠ 0 → I2 a1 r = I1 a1 r) : RY R x nw kp rd cb m w im tp I2 := by
  have w1 := E.1.2.2.2.2.2.2.2.2.2.2.1
  have hW := (LI.wos E hl1).1
  exact ⟨OPo_field_0 E hl hl1 hl2 h.1 u0_ q0 q1 cm u1_ p1 p2, (h.2.sm E (fun a _ => funext (q1 a))).rw E cm (by decide) (by decide) (by decide) (fun r hr => p2 w w1 r (by omega))⟩
theorem OP_field_1 {n : Int32} {P0 : Prop} (E : LX T N R A B x nw kp rd al m w im o cb tp) (hl : LI T R A m I) (hl1 : LI T R A m I1) (hl2 : LI T R A m I2) (h : RY R x nw kp rd cb m w im tp I) (u0_ : CB (SL [nw]) T [(9, 0)] I I1) (q0 : (n.toInt = 11 ∨ n.toInt = 13 ∨ n.toInt = 17 ∨ n.toInt = 19) ∧ (0 < (I nw 1).toInt ∨ 0 < (I nw 2).toInt)) (q1 : ∀ a k, I1 a k = I a k) (cm : CM B R m [0] [1] I1 L1 I2 L2) (u1_ : P0) (p1 : ∀ a1, R m 1 = some a1 → ¬ (n.toInt = 11 ∨ n.toInt = 13 ∨ n.toInt = 17 ∨ n.toInt = 19) ∧ (I2 m 0).toInt = 1 ∧ (I2 a1 0).toInt = (I1 a1 0).toInt ∨ (n.toInt = 11 ∨ n.toInt = 13 ∨ n.toInt = 17 ∨ n.toInt = 19) ∧ 0 < (I1 a1 1).toInt + (I1 a1 2).toInt ∧ (I2 m 0).toInt = 2 ∧ (I2 a1 0).toInt = (I1 a1 0).toInt ∨ (n.toInt = 11 ∨ n.toInt = 13 ∨ n.toInt = 17 ∨ n.toInt = 19) ∧ (I1 a1 1).toInt + (I1 a1 2).toInt ≤ 0 ∧ (I2 m 0).toInt = 0 ∧ (I2 a1 0).toInt = n.toInt) (p2 : ∀ a1, R m 1 = some a1 → ∀ r : Nat, r ≠ 0 → I2 a1 r = I1 a1 r) : RY R x nw kp rd cb m w im tp I2 := by
  have w1 := E.1.2.2.2.2.2.2.2.2.2.2.1
  have hW := (LI.wos E hl1).1
  exact ⟨OPo_field_1 E hl hl1 hl2 h.1 u0_ q0 q1 cm u1_ p1 p2, (h.2.sm E (fun a _ => funext (q1 a))).rw E cm (by decide) (by decide) (by decide) (fun r hr => p2 w w1 r (by omega))⟩
theorem OP_form {u v : Int32} {P0 P1 P2 P4 P5 P6 : Prop} (E : LX T N R A B x nw kp rd al m w im o cb tp) (hl : LI T R A m I) (hl1 : LI T R A m I1) (hl2 : LI T R A m I2) (h : RY R x nw kp rd cb m w im tp I) (c : CB (sFm R rd nw (I nw 1).toNatClampNeg) T [(3, 0), (5, 1), (9, 1), (9, 5)] I I1) (q0 : (I1 rd 1).toInt = 0) (q1 : 1 ≤ (I rd 1).toInt ∧ (I rd 1).toInt ≤ 9 ∧ (I nw 1).toInt < 16 ∧ u.toInt = (I nw 1).toInt) (q2 : (I1 nw 1).toInt = (I nw 1).toInt + 1) (q3 : (I1 nw 5).toInt = 0) (q4 : (I1 (FA R nw (I nw 1).toNatClampNeg) 0).toInt = (I rd 1).toInt - 1) (q5 : NMF I1 (rA R (FA R nw (I nw 1).toNatClampNeg) 1) (I rd 1).toInt (fun j => (I cb j).toInt % (I nw 0).toInt)) (cm : CM B R m [0, 11, 12, 13] [1] I1 L1 I2 L2) (u0_ : P0) (u1_ : P1) (u2_ : P2) (p3 : (I2 m 11).toInt = 0) (u3_ : P4) (u4_ : P5) (u5_ : P6) (p7 : ∀ a1, R m 1 = some a1 → ((I1 m 11).toInt < 1 ∨ 9 < (I1 m 11).toInt) ∧ (I2 m 0).toInt = 1 ∧ (I2 a1 1).toInt = (I1 a1 1).toInt ∨ 1 ≤ (I1 m 11).toInt ∧ (I1 m 11).toInt ≤ 9 ∧ (I1 a1 1).toInt = 16 ∧ (I2 m 0).toInt = 2 ∧ (I2 a1 1).toInt = (I1 a1 1).toInt ∨ 1 ≤ (I1 m 11).toInt ∧ (I1 m 11).toInt ≤ 9 ∧ (I1 a1 1).toInt < 16 ∧ (I2 m 0).toInt = 0 ∧ v.toInt = (I1 a1 1).toInt ∧ (I2 a1 1).toInt = (I1 a1 1).toInt + 1) (p8 : ∀ a1 a10, R m 1 = some a1 → R m 10 = some a10 → FMX (I2 a1) (I1 a1) (I1 a10) (I1 m 11).toInt (I2 m 0).toInt) : RY R x nw kp rd cb m w im tp I2 := by
  have w1 := E.1.2.2.2.2.2.2.2.2.2.2.1
  have hW := (LI.wos E hl1).1
  have Z := p7 w w1
  exact ⟨OPo_form E hl hl1 hl2 h.1 c q0 q1 q2 q3 q4 q5 cm u0_ u1_ u2_ p3 u3_ u4_ u5_ p7 p8, (h.2.c E c (hS.fm E (ncn (n := 16) (by have := (RYo.b E hl h.1).1; omega) (by omega))) (by decide)).rw E cm (by decide) (by decide) (by decide) (fw.fm (p8 w tp w1 E.2.2.2.1) (by omega))⟩
theorem OP_form_0 {v : Int32} {P0 P1 P2 P4 P5 P6 : Prop} (E : LX T N R A B x nw kp rd al m w im o cb tp) (hl : LI T R A m I) (hl1 : LI T R A m I1) (hl2 : LI T R A m I2) (h : RY R x nw kp rd cb m w im tp I) (u0_ : CB (sFm R rd nw (I nw 1).toNatClampNeg) T [(3, 0), (5, 1), (9, 1), (9, 5)] I I1) (q0 : (I rd 1).toInt < 1 ∨ 9 < (I rd 1).toInt) (q1 : (I1 rd 1).toInt = 0) (q2 : ∀ a, a ≠ rd → ∀ k, I1 a k = I a k) (cm : CM B R m [0, 11, 12, 13] [1] I1 L1 I2 L2) (u1_ : P0) (u2_ : P1) (u3_ : P2) (p3 : (I2 m 11).toInt = 0) (u4_ : P4) (u5_ : P5) (u6_ : P6) (p7 : ∀ a1, R m 1 = some a1 → ((I1 m 11).toInt < 1 ∨ 9 < (I1 m 11).toInt) ∧ (I2 m 0).toInt = 1 ∧ (I2 a1 1).toInt = (I1 a1 1).toInt ∨ 1 ≤ (I1 m 11).toInt ∧ (I1 m 11).toInt ≤ 9 ∧ (I1 a1 1).toInt = 16 ∧ (I2 m 0).toInt = 2 ∧ (I2 a1 1).toInt = (I1 a1 1).toInt ∨ 1 ≤ (I1 m 11).toInt ∧ (I1 m 11).toInt ≤ 9 ∧ (I1 a1 1).toInt < 16 ∧ (I2 m 0).toInt = 0 ∧ v.toInt = (I1 a1 1).toInt ∧ (I2 a1 1).toInt = (I1 a1 1).toInt + 1) (p8 : ∀ a1 a10, R m 1 = some a1 → R m 10 = some a10 → FMX (I2 a1) (I1 a1) (I1 a10) (I1 m 11).toInt (I2 m 0).toInt) : RY R x nw kp rd cb m w im tp I2 := by
  have w1 := E.1.2.2.2.2.2.2.2.2.2.2.1
  have hW := (LI.wos E hl1).1
  have Z := p7 w w1
  exact ⟨OPo_form_0 E hl hl1 hl2 h.1 u0_ q0 q1 q2 cm u1_ u2_ u3_ p3 u4_ u5_ u6_ p7 p8, (h.2.sm E (fun a ha => funext (q2 a ha))).rw E cm (by decide) (by decide) (by decide) (fw.fm (p8 w tp w1 E.2.2.2.1) (by omega))⟩
theorem OP_form_2 {v : Int32} {P0 P1 P2 P4 P5 P6 : Prop} (E : LX T N R A B x nw kp rd al m w im o cb tp) (hl : LI T R A m I) (hl1 : LI T R A m I1) (hl2 : LI T R A m I2) (h : RY R x nw kp rd cb m w im tp I) (u0_ : CB (sFm R rd nw (I nw 1).toNatClampNeg) T [(3, 0), (5, 1), (9, 1), (9, 5)] I I1) (q0 : 1 ≤ (I rd 1).toInt ∧ (I rd 1).toInt ≤ 9 ∧ 16 ≤ (I nw 1).toInt) (q1 : (I1 rd 1).toInt = 0) (q2 : ∀ a, a ≠ rd → ∀ k, I1 a k = I a k) (cm : CM B R m [0, 11, 12, 13] [1] I1 L1 I2 L2) (u1_ : P0) (u2_ : P1) (u3_ : P2) (p3 : (I2 m 11).toInt = 0) (u4_ : P4) (u5_ : P5) (u6_ : P6) (p7 : ∀ a1, R m 1 = some a1 → ((I1 m 11).toInt < 1 ∨ 9 < (I1 m 11).toInt) ∧ (I2 m 0).toInt = 1 ∧ (I2 a1 1).toInt = (I1 a1 1).toInt ∨ 1 ≤ (I1 m 11).toInt ∧ (I1 m 11).toInt ≤ 9 ∧ (I1 a1 1).toInt = 16 ∧ (I2 m 0).toInt = 2 ∧ (I2 a1 1).toInt = (I1 a1 1).toInt ∨ 1 ≤ (I1 m 11).toInt ∧ (I1 m 11).toInt ≤ 9 ∧ (I1 a1 1).toInt < 16 ∧ (I2 m 0).toInt = 0 ∧ v.toInt = (I1 a1 1).toInt ∧ (I2 a1 1).toInt = (I1 a1 1).toInt + 1) (p8 : ∀ a1 a10, R m 1 = some a1 → R m 10 = some a10 → FMX (I2 a1) (I1 a1) (I1 a10) (I1 m 11).toInt (I2 m 0).toInt) : RY R x nw kp rd cb m w im tp I2 := by
  have w1 := E.1.2.2.2.2.2.2.2.2.2.2.1
  have hW := (LI.wos E hl1).1
  have Z := p7 w w1
  exact ⟨OPo_form_2 E hl hl1 hl2 h.1 u0_ q0 q1 q2 cm u1_ u2_ u3_ p3 u4_ u5_ u6_ p7 p8, (h.2.sm E (fun a ha => funext (q2 a ha))).rw E cm (by decide) (by decide) (by decide) (fw.fm (p8 w tp w1 E.2.2.2.1) (by omega))⟩
theorem OP_table {n1 n2 n3 n4 u v : Int32} {P0 P1 P2 P5 : Prop} (E : LX T N R A B x nw kp rd al m w im o cb tp) (hl : LI T R A m I) (hl1 : LI T R A m I1) (hl2 : LI T R A m I2) (h : RY R x nw kp rd cb m w im tp I) (c : CB (sTb R nw (I nw 2).toNatClampNeg) T [(9, 2), (10, 0), (10, 1), (10, 2), (10, 3)] I I1) (q0 : dt (I nw 0).toInt n1.toInt n2.toInt n3.toInt n4.toInt ≠ 0 ∧ (I nw 2).toInt < 8 ∧ u.toInt = (I nw 2).toInt) (q1 : (I1 nw 2).toInt = (I nw 2).toInt + 1) (q2 : (I1 (TA R nw (I nw 2).toNatClampNeg) 0).toInt = n1.toInt % (I nw 0).toInt) (q3 : (I1 (TA R nw (I nw 2).toNatClampNeg) 1).toInt = n2.toInt % (I nw 0).toInt) (q4 : (I1 (TA R nw (I nw 2).toNatClampNeg) 2).toInt = n3.toInt % (I nw 0).toInt) (q5 : (I1 (TA R nw (I nw 2).toNatClampNeg) 3).toInt = n4.toInt % (I nw 0).toInt) (cm : CM B R m [0, 6, 7, 8, 9] [1] I1 L1 I2 L2) (u0_ : P0) (u1_ : P1) (u2_ : P2) (p3 : ∀ a1, R m 1 = some a1 → TBD (dtR (I1 a1 0).toInt n1.toInt n2.toInt n3.toInt n4.toInt) (I1 a1 2).toInt (I2 a1 2).toInt (I2 m 0).toInt v.toInt) (p4 : ∀ a1, R m 1 = some a1 → TBX (I2 a1) (I1 a1) (I2 m 0).toInt (n1.toInt % (I1 a1 0).toInt) (n2.toInt % (I1 a1 0).toInt) (n3.toInt % (I1 a1 0).toInt) (n4.toInt % (I1 a1 0).toInt)) (u3_ : P5) : RY R x nw kp rd cb m w im tp I2 := by
  have w1 := E.1.2.2.2.2.2.2.2.2.2.2.1
  have hW := (LI.wos E hl1).1
  have Z := p3 w w1
  (try unfold TBD at Z)
  exact ⟨OPo_table E hl hl1 hl2 h.1 c q0 q1 q2 q3 q4 q5 cm u0_ u1_ u2_ p3 p4 u3_, (h.2.c E c (hS.tb E (ncn (n := 8) (by have := (RYo.b E hl h.1).2.1; omega) (by omega))) (by decide)).rw E cm (by decide) (by decide) (by decide) (fw.tx (p4 w w1) (fun z => by omega))⟩
theorem OP_table_0 {n1 n2 n3 n4 v : Int32} {P0 P1 P2 P5 : Prop} (E : LX T N R A B x nw kp rd al m w im o cb tp) (hl : LI T R A m I) (hl1 : LI T R A m I1) (hl2 : LI T R A m I2) (h : RY R x nw kp rd cb m w im tp I) (u0_ : CB (sTb R nw (I nw 2).toNatClampNeg) T [(9, 2), (10, 0), (10, 1), (10, 2), (10, 3)] I I1) (q0 : dt (I nw 0).toInt n1.toInt n2.toInt n3.toInt n4.toInt = 0) (q1 : ∀ a k, I1 a k = I a k) (cm : CM B R m [0, 6, 7, 8, 9] [1] I1 L1 I2 L2) (u1_ : P0) (u2_ : P1) (u3_ : P2) (p3 : ∀ a1, R m 1 = some a1 → TBD (dtR (I1 a1 0).toInt n1.toInt n2.toInt n3.toInt n4.toInt) (I1 a1 2).toInt (I2 a1 2).toInt (I2 m 0).toInt v.toInt) (p4 : ∀ a1, R m 1 = some a1 → TBX (I2 a1) (I1 a1) (I2 m 0).toInt (n1.toInt % (I1 a1 0).toInt) (n2.toInt % (I1 a1 0).toInt) (n3.toInt % (I1 a1 0).toInt) (n4.toInt % (I1 a1 0).toInt)) (u4_ : P5) : RY R x nw kp rd cb m w im tp I2 := by
  have w1 := E.1.2.2.2.2.2.2.2.2.2.2.1
  have hW := (LI.wos E hl1).1
  have Z := p3 w w1
  (try unfold TBD at Z)
  exact ⟨OPo_table_0 E hl hl1 hl2 h.1 u0_ q0 q1 cm u1_ u2_ u3_ p3 p4 u4_, (h.2.sm E (fun a _ => funext (q1 a))).rw E cm (by decide) (by decide) (by decide) (fw.tx (p4 w w1) (fun z => by omega))⟩
theorem OP_table_2 {n1 n2 n3 n4 v : Int32} {P0 P1 P2 P5 : Prop} (E : LX T N R A B x nw kp rd al m w im o cb tp) (hl : LI T R A m I) (hl1 : LI T R A m I1) (hl2 : LI T R A m I2) (h : RY R x nw kp rd cb m w im tp I) (u0_ : CB (sTb R nw (I nw 2).toNatClampNeg) T [(9, 2), (10, 0), (10, 1), (10, 2), (10, 3)] I I1) (q0 : dt (I nw 0).toInt n1.toInt n2.toInt n3.toInt n4.toInt ≠ 0 ∧ 8 ≤ (I nw 2).toInt) (q1 : ∀ a k, I1 a k = I a k) (cm : CM B R m [0, 6, 7, 8, 9] [1] I1 L1 I2 L2) (u1_ : P0) (u2_ : P1) (u3_ : P2) (p3 : ∀ a1, R m 1 = some a1 → TBD (dtR (I1 a1 0).toInt n1.toInt n2.toInt n3.toInt n4.toInt) (I1 a1 2).toInt (I2 a1 2).toInt (I2 m 0).toInt v.toInt) (p4 : ∀ a1, R m 1 = some a1 → TBX (I2 a1) (I1 a1) (I2 m 0).toInt (n1.toInt % (I1 a1 0).toInt) (n2.toInt % (I1 a1 0).toInt) (n3.toInt % (I1 a1 0).toInt) (n4.toInt % (I1 a1 0).toInt)) (u4_ : P5) : RY R x nw kp rd cb m w im tp I2 := by
  have w1 := E.1.2.2.2.2.2.2.2.2.2.2.1
  have hW := (LI.wos E hl1).1
  have Z := p3 w w1
  (try unfold TBD at Z)
  exact ⟨OPo_table_2 E hl hl1 hl2 h.1 u0_ q0 q1 cm u1_ u2_ u3_ p3 p4 u4_, (h.2.sm E (fun a _ => funext (q1 a))).rw E cm (by decide) (by decide) (by decide) (fw.tx (p4 w w1) (fun z => by omega))⟩
theorem OP_join {n1 n2 u v : Int32} {P0 P1 P2 P5 : Prop} (E : LX T N R A B x nw kp rd al m w im o cb tp) (hl : LI T R A m I) (hl1 : LI T R A m I1) (hl2 : LI T R A m I2) (h : RY R x nw kp rd cb m w im tp I) (c : CB (sTb R nw (I nw 2).toNatClampNeg) T [(9, 2), (10, 0), (10, 1), (10, 2), (10, 3)] I I1) (q0 : ¬ ((n1.toInt < 0 ∨ (I nw 2).toInt ≤ n1.toInt ∨ 8 ≤ n1.toInt) ∨ (n2.toInt < 0 ∨ (I nw 2).toInt ≤ n2.toInt ∨ 8 ≤ n2.toInt)) ∧ (I nw 2).toInt < 8 ∧ u.toInt = (I nw 2).toInt) (q1 : (I1 nw 2).toInt = (I nw 2).toInt + 1) (q2 : (I1 (TA R nw (I nw 2).toNatClampNeg) 0).toInt = ((I (TA R nw n1.toNatClampNeg) 0).toInt * (I (TA R nw n2.toNatClampNeg) 0).toInt + (I (TA R nw n1.toNatClampNeg) 1).toInt * (I (TA R nw n2.toNatClampNeg) 2).toInt) % (I nw 0).toInt) (q3 : (I1 (TA R nw (I nw 2).toNatClampNeg) 1).toInt = ((I (TA R nw n1.toNatClampNeg) 0).toInt * (I (TA R nw n2.toNatClampNeg) 1).toInt + (I (TA R nw n1.toNatClampNeg) 1).toInt * (I (TA R nw n2.toNatClampNeg) 3).toInt) % (I nw 0).toInt) (q4 : (I1 (TA R nw (I nw 2).toNatClampNeg) 2).toInt = ((I (TA R nw n1.toNatClampNeg) 2).toInt * (I (TA R nw n2.toNatClampNeg) 0).toInt + (I (TA R nw n1.toNatClampNeg) 3).toInt * (I (TA R nw n2.toNatClampNeg) 2).toInt) % (I nw 0).toInt) (q5 : (I1 (TA R nw (I nw 2).toNatClampNeg) 3).toInt = ((I (TA R nw n1.toNatClampNeg) 2).toInt * (I (TA R nw n2.toNatClampNeg) 1).toInt + (I (TA R nw n1.toNatClampNeg) 3).toInt * (I (TA R nw n2.toNatClampNeg) 3).toInt) % (I nw 0).toInt) (cm : CM B R m [0, 6, 7, 8, 9] [1] I1 L1 I2 L2) (u0_ : P0) (u1_ : P1) (u2_ : P2) (p3 : ∀ a1, R m 1 = some a1 → (n1.toInt < 0 ∨ (I1 a1 2).toInt ≤ n1.toInt ∨ n2.toInt < 0 ∨ (I1 a1 2).toInt ≤ n2.toInt) ∧ (I2 m 0).toInt = 1 ∧ (I2 a1 2).toInt = (I1 a1 2).toInt ∨ ¬ (n1.toInt < 0 ∨ (I1 a1 2).toInt ≤ n1.toInt ∨ n2.toInt < 0 ∨ (I1 a1 2).toInt ≤ n2.toInt) ∧ (I1 a1 2).toInt = 8 ∧ (I2 m 0).toInt = 2 ∧ (I2 a1 2).toInt = (I1 a1 2).toInt ∨ ¬ (n1.toInt < 0 ∨ (I1 a1 2).toInt ≤ n1.toInt ∨ n2.toInt < 0 ∨ (I1 a1 2).toInt ≤ n2.toInt) ∧ (I1 a1 2).toInt < 8 ∧ (I2 m 0).toInt = 0 ∧ v.toInt = (I1 a1 2).toInt ∧ (I2 a1 2).toInt = (I1 a1 2).toInt + 1) (p4 : ∀ a1, R m 1 = some a1 → TBj (I2 a1) (I1 a1) (I2 m 0).toInt n1.toNatClampNeg n2.toNatClampNeg) (u3_ : P5) : RY R x nw kp rd cb m w im tp I2 := by
  have w1 := E.1.2.2.2.2.2.2.2.2.2.2.1
  have hW := (LI.wos E hl1).1
  have Z := p3 w w1
  (try unfold TBD at Z)
  exact ⟨OPo_join E hl hl1 hl2 h.1 c q0 q1 q2 q3 q4 q5 cm u0_ u1_ u2_ p3 p4 u3_, (h.2.c E c (hS.tb E (ncn (n := 8) (by have := (RYo.b E hl h.1).2.1; omega) (by omega))) (by decide)).rw E cm (by decide) (by decide) (by decide) (fw.tx (p4 w w1) (fun z => by omega))⟩
theorem OP_join_2 {n1 n2 v : Int32} {P0 P1 P2 P5 : Prop} (E : LX T N R A B x nw kp rd al m w im o cb tp) (hl : LI T R A m I) (hl1 : LI T R A m I1) (hl2 : LI T R A m I2) (h : RY R x nw kp rd cb m w im tp I) (u0_ : CB (sTb R nw (I nw 2).toNatClampNeg) T [(9, 2), (10, 0), (10, 1), (10, 2), (10, 3)] I I1) (q0 : ¬ ((n1.toInt < 0 ∨ (I nw 2).toInt ≤ n1.toInt ∨ 8 ≤ n1.toInt) ∨ (n2.toInt < 0 ∨ (I nw 2).toInt ≤ n2.toInt ∨ 8 ≤ n2.toInt)) ∧ 8 ≤ (I nw 2).toInt) (q1 : ∀ a k, I1 a k = I a k) (cm : CM B R m [0, 6, 7, 8, 9] [1] I1 L1 I2 L2) (u1_ : P0) (u2_ : P1) (u3_ : P2) (p3 : ∀ a1, R m 1 = some a1 → (n1.toInt < 0 ∨ (I1 a1 2).toInt ≤ n1.toInt ∨ n2.toInt < 0 ∨ (I1 a1 2).toInt ≤ n2.toInt) ∧ (I2 m 0).toInt = 1 ∧ (I2 a1 2).toInt = (I1 a1 2).toInt ∨ ¬ (n1.toInt < 0 ∨ (I1 a1 2).toInt ≤ n1.toInt ∨ n2.toInt < 0 ∨ (I1 a1 2).toInt ≤ n2.toInt) ∧ (I1 a1 2).toInt = 8 ∧ (I2 m 0).toInt = 2 ∧ (I2 a1 2).toInt = (I1 a1 2).toInt ∨ ¬ (n1.toInt < 0 ∨ (I1 a1 2).toInt ≤ n1.toInt ∨ n2.toInt < 0 ∨ (I1 a1 2).toInt ≤ n2.toInt) ∧ (I1 a1 2).toInt < 8 ∧ (I2 m 0).toInt = 0 ∧ v.toInt = (I1 a1 2).toInt ∧ (I2 a1 2).toInt = (I1 a1 2).toInt + 1) (p4 : ∀ a1, R m 1 = some a1 → TBj (I2 a1) (I1 a1) (I2 m 0).toInt n1.toNatClampNeg n2.toNatClampNeg) (u4_ : P5) : RY R x nw kp rd cb m w im tp I2 := by
  have w1 := E.1.2.2.2.2.2.2.2.2.2.2.1
  have hW := (LI.wos E hl1).1
  have Z := p3 w w1
  (try unfold TBD at Z)
  exact ⟨OPo_join_2 E hl hl1 hl2 h.1 u0_ q0 q1 cm u1_ u2_ u3_ p3 p4 u4_, (h.2.sm E (fun a _ => funext (q1 a))).rw E cm (by decide) (by decide) (by decide) (fw.tx (p4 w w1) (fun z => by omega))⟩
theorem OP_join_3 {n1 n2 v : Int32} {P0 P1 P2 P5 : Prop} (E : LX T N R A B x nw kp rd al m w im o cb tp) (hl : LI T R A m I) (hl1 : LI T R A m I1) (hl2 : LI T R A m I2) (h : RY R x nw kp rd cb m w im tp I) (u0_ : CB (sTb R nw (I nw 2).toNatClampNeg) T [(9, 2), (10, 0), (10, 1), (10, 2), (10, 3)] I I1) (q0 : (n1.toInt < 0 ∨ (I nw 2).toInt ≤ n1.toInt ∨ 8 ≤ n1.toInt) ∨ (n2.toInt < 0 ∨ (I nw 2).toInt ≤ n2.toInt ∨ 8 ≤ n2.toInt)) (q1 : ∀ a k, I1 a k = I a k) (cm : CM B R m [0, 6, 7, 8, 9] [1] I1 L1 I2 L2) (u1_ : P0) (u2_ : P1) (u3_ : P2) (p3 : ∀ a1, R m 1 = some a1 → (n1.toInt < 0 ∨ (I1 a1 2).toInt ≤ n1.toInt ∨ n2.toInt < 0 ∨ (I1 a1 2).toInt ≤ n2.toInt) ∧ (I2 m 0).toInt = 1 ∧ (I2 a1 2).toInt = (I1 a1 2).toInt ∨ ¬ (n1.toInt < 0 ∨ (I1 a1 2).toInt ≤ n1.toInt ∨ n2.toInt < 0 ∨ (I1 a1 2).toInt ≤ n2.toInt) ∧ (I1 a1 2).toInt = 8 ∧ (I2 m 0).toInt = 2 ∧ (I2 a1 2).toInt = (I1 a1 2).toInt ∨ ¬ (n1.toInt < 0 ∨ (I1 a1 2).toInt ≤ n1.toInt ∨ n2.toInt < 0 ∨ (I1 a1 2).toInt ≤ n2.toInt) ∧ (I1 a1 2).toInt < 8 ∧ (I2 m 0).toInt = 0 ∧ v.toInt = (I1 a1 2).toInt ∧ (I2 a1 2).toInt = (I1 a1 2).toInt + 1) (p4 : ∀ a1, R m 1 = some a1 → TBj (I2 a1) (I1 a1) (I2 m 0).toInt n1.toNatClampNeg n2.toNatClampNeg) (u4_ : P5) : RY R x nw kp rd cb m w im tp I2 := by
  have w1 := E.1.2.2.2.2.2.2.2.2.2.2.1
  have hW := (LI.wos E hl1).1
  have Z := p3 w w1
  (try unfold TBD at Z)
  exact ⟨OPo_join_3 E hl hl1 hl2 h.1 u0_ q0 q1 cm u1_ u2_ u3_ p3 p4 u4_, (h.2.sm E (fun a _ => funext (q1 a))).rw E cm (by decide) (by decide) (by decide) (fw.tx (p4 w w1) (fun z => by omega))⟩
theorem OP_turn {n1 u v : Int32} {P0 P1 P2 P5 : Prop} (E : LX T N R A B x nw kp rd al m w im o cb tp) (hl : LI T R A m I) (hl1 : LI T R A m I1) (hl2 : LI T R A m I2) (h : RY R x nw kp rd cb m w im tp I) (c : CB (sTb R nw (I nw 2).toNatClampNeg) T [(9, 2), (10, 0), (10, 1), (10, 2), (10, 3)] I I1) (q0 : ¬ (n1.toInt < 0 ∨ (I nw 2).toInt ≤ n1.toInt ∨ 8 ≤ n1.toInt) ∧ (I nw 2).toInt < 8 ∧ u.toInt = (I nw 2).toInt) (q1 : (I1 nw 2).toInt = (I nw 2).toInt + 1) (q2 : TBC (I1 (TA R nw (I nw 2).toNatClampNeg) 0).toInt (I1 (TA R nw (I nw 2).toNatClampNeg) 1).toInt (I1 (TA R nw (I nw 2).toNatClampNeg) 2).toInt (I1 (TA R nw (I nw 2).toNatClampNeg) 3).toInt (I (TA R nw n1.toNatClampNeg) 0).toInt (I (TA R nw n1.toNatClampNeg) 1).toInt (I (TA R nw n1.toNatClampNeg) 2).toInt (I (TA R nw n1.toNatClampNeg) 3).toInt (I nw 0).toInt) (cm : CM B R m [0, 6, 7, 8, 9] [1] I1 L1 I2 L2) (u0_ : P0) (u1_ : P1) (u2_ : P2) (p3 : ∀ a1, R m 1 = some a1 → (n1.toInt < 0 ∨ (I1 a1 2).toInt ≤ n1.toInt) ∧ (I2 m 0).toInt = 1 ∧ (I2 a1 2).toInt = (I1 a1 2).toInt ∨ ¬ (n1.toInt < 0 ∨ (I1 a1 2).toInt ≤ n1.toInt) ∧ (I1 a1 2).toInt = 8 ∧ (I2 m 0).toInt = 2 ∧ (I2 a1 2).toInt = (I1 a1 2).toInt ∨ ¬ (n1.toInt < 0 ∨ (I1 a1 2).toInt ≤ n1.toInt) ∧ (I1 a1 2).toInt < 8 ∧ (I2 m 0).toInt = 0 ∧ v.toInt = (I1 a1 2).toInt ∧ (I2 a1 2).toInt = (I1 a1 2).toInt + 1) (p4 : ∀ a1, R m 1 = some a1 → TBt (I2 a1) (I1 a1) (I2 m 0).toInt n1.toNatClampNeg) (u3_ : P5) : RY R x nw kp rd cb m w im tp I2 := by
  have w1 := E.1.2.2.2.2.2.2.2.2.2.2.1
  have hW := (LI.wos E hl1).1
  have Z := p3 w w1
  exact ⟨OPo_turn E hl hl1 hl2 h.1 c q0 q1 q2 cm u0_ u1_ u2_ p3 p4 u3_, (h.2.c E c (hS.tb E (ncn (n := 8) (by have := (RYo.b E hl h.1).2.1; omega) (by omega))) (by decide)).rw E cm (by decide) (by decide) (by decide) (fw.tt (p4 w w1) (fun z => by omega))⟩
theorem OP_turn_2 {n1 v : Int32} {P0 P1 P2 P5 : Prop} (E : LX T N R A B x nw kp rd al m w im o cb tp) (hl : LI T R A m I) (hl1 : LI T R A m I1) (hl2 : LI T R A m I2) (h : RY R x nw kp rd cb m w im tp I) (u0_ : CB (sTb R nw (I nw 2).toNatClampNeg) T [(9, 2), (10, 0), (10, 1), (10, 2), (10, 3)] I I1) (q0 : ¬ (n1.toInt < 0 ∨ (I nw 2).toInt ≤ n1.toInt ∨ 8 ≤ n1.toInt) ∧ 8 ≤ (I nw 2).toInt) (q1 : ∀ a k, I1 a k = I a k) (cm : CM B R m [0, 6, 7, 8, 9] [1] I1 L1 I2 L2) (u1_ : P0) (u2_ : P1) (u3_ : P2) (p3 : ∀ a1, R m 1 = some a1 → (n1.toInt < 0 ∨ (I1 a1 2).toInt ≤ n1.toInt) ∧ (I2 m 0).toInt = 1 ∧ (I2 a1 2).toInt = (I1 a1 2).toInt ∨ ¬ (n1.toInt < 0 ∨ (I1 a1 2).toInt ≤ n1.toInt) ∧ (I1 a1 2).toInt = 8 ∧ (I2 m 0).toInt = 2 ∧ (I2 a1 2).toInt = (I1 a1 2).toInt ∨ ¬ (n1.toInt < 0 ∨ (I1 a1 2).toInt ≤ n1.toInt) ∧ (I1 a1 2).toInt < 8 ∧ (I2 m 0).toInt = 0 ∧ v.toInt = (I1 a1 2).toInt ∧ (I2 a1 2).toInt = (I1 a1 2).toInt + 1) (p4 : ∀ a1, R m 1 = some a1 → TBt (I2 a1) (I1 a1) (I2 m 0).toInt n1.toNatClampNeg) (u4_ : P5) : RY R x nw kp rd cb m w im tp I2 := by
  have w1 := E.1.2.2.2.2.2.2.2.2.2.2.1
  have hW := (LI.wos E hl1).1
  have Z := p3 w w1
  exact ⟨OPo_turn_2 E hl hl1 hl2 h.1 u0_ q0 q1 cm u1_ u2_ u3_ p3 p4 u4_, (h.2.sm E (fun a _ => funext (q1 a))).rw E cm (by decide) (by decide) (by decide) (fw.tt (p4 w w1) (fun z => by omega))⟩
theorem OP_turn_3 {n1 v : Int32} {P0 P1 P2 P5 : Prop} (E : LX T N R A B x nw kp rd al m w im o cb tp) (hl : LI T R A m I) (hl1 : LI T R A m I1) (hl2 : LI T R A m I2) (h : RY R x nw kp rd cb m w im tp I) (u0_ : CB (sTb R nw (I nw 2).toNatClampNeg) T [(9, 2), (10, 0), (10, 1), (10, 2), (10, 3)] I I1) (q0 : (n1.toInt < 0 ∨ (I nw 2).toInt ≤ n1.toInt ∨ 8 ≤ n1.toInt)) (q1 : ∀ a k, I1 a k = I a k) (cm : CM B R m [0, 6, 7, 8, 9] [1] I1 L1 I2 L2) (u1_ : P0) (u2_ : P1) (u3_ : P2) (p3 : ∀ a1, R m 1 = some a1 → (n1.toInt < 0 ∨ (I1 a1 2).toInt ≤ n1.toInt) ∧ (I2 m 0).toInt = 1 ∧ (I2 a1 2).toInt = (I1 a1 2).toInt ∨ ¬ (n1.toInt < 0 ∨ (I1 a1 2).toInt ≤ n1.toInt) ∧ (I1 a1 2).toInt = 8 ∧ (I2 m 0).toInt = 2 ∧ (I2 a1 2).toInt = (I1 a1 2).toInt ∨ ¬ (n1.toInt < 0 ∨ (I1 a1 2).toInt ≤ n1.toInt) ∧ (I1 a1 2).toInt < 8 ∧ (I2 m 0).toInt = 0 ∧ v.toInt = (I1 a1 2).toInt ∧ (I2 a1 2).toInt = (I1 a1 2).toInt + 1) (p4 : ∀ a1, R m 1 = some a1 → TBt (I2 a1) (I1 a1) (I2 m 0).toInt n1.toNatClampNeg) (u4_ : P5) : RY R x nw kp rd cb m w im tp I2 := by
  have w1 := E.1.2.2.2.2.2.2.2.2.2.2.1
  have hW := (LI.wos E hl1).1
  have Z := p3 w w1
  exact ⟨OPo_turn_3 E hl hl1 hl2 h.1 u0_ q0 q1 cm u1_ u2_ u3_ p3 p4 u4_, (h.2.sm E (fun a _ => funext (q1 a))).rw E cm (by decide) (by decide) (by decide) (fw.tt (p4 w w1) (fun z => by omega))⟩
theorem OP_mix {n1 n2 : Int32} {P0 P1 P2 P4 P7 Q0 Q1 Q8 : Prop} (E : LX T N R A B x nw kp rd al m w im o cb tp) (hl : LI T R A m I) (hl1 : LI T R A m I1) (hl2 : LI T R A m I2) (h : RY R x nw kp rd cb m w im tp I) (c : CB (sMx T R A nw n1.toNatClampNeg) T [(3, 0), (9, 4), (9, 5)] I I1) (u0_ : Q0) (u1_ : Q1) (q2 : ¬ ((n1.toInt < 0 ∨ (I nw 1).toInt ≤ n1.toInt ∨ 16 ≤ n1.toInt) ∨ (n2.toInt < 0 ∨ (I nw 2).toInt ≤ n2.toInt ∨ 8 ≤ n2.toInt))) (q3 : (I1 (FA R nw n1.toNatClampNeg) 0).toInt = (I (FA R nw n1.toNatClampNeg) 0).toInt) (q4 : VRX I1 (rA R (FA R nw n1.toNatClampNeg) 1) (I nw 0).toInt (I (FA R nw n1.toNatClampNeg) 0).toInt (PmX (I (TA R nw n2.toNatClampNeg) 0).toInt (I (TA R nw n2.toNatClampNeg) 1).toInt (I (TA R nw n2.toNatClampNeg) 2).toInt (I (TA R nw n2.toNatClampNeg) 3).toInt (NF I (rA R (FA R nw n1.toNatClampNeg) 1)) (I (FA R nw n1.toNatClampNeg) 0).toInt.toNat)) (q5 : WRD R I1 I nw n1 (FA R nw n1.toNatClampNeg) (I nw 4).toInt) (q6 : (I1 nw 5).toInt = 0) (q7 : FSM R I1 I nw n1.toInt) (u2_ : Q8) (cm : CM B R m [0, 6, 7, 8, 9] [1, 4, 5] I1 L1 I2 L2) (u3_ : P0) (u4_ : P1) (u5_ : P2) (p3 : ∀ a1, R m 1 = some a1 → (I2 m 0).toInt = 0 → MXT (I2 a1) (I1 a1) n1 n2) (u6_ : P4) (p5 : ∀ a1, R m 1 = some a1 → (I2 m 0).toInt ≠ 0 → I2 a1 = I1 a1) (p6 : ∀ a1, R m 1 = some a1 → ¬ (n1.toInt < 0 ∨ (I1 a1 1).toInt ≤ n1.toInt ∨ n2.toInt < 0 ∨ (I1 a1 2).toInt ≤ n2.toInt) ∧ (I2 m 0).toInt = 0 ∨ (n1.toInt < 0 ∨ (I1 a1 1).toInt ≤ n1.toInt ∨ n2.toInt < 0 ∨ (I1 a1 2).toInt ≤ n2.toInt) ∧ (I2 m 0).toInt = 1) (u7_ : P7) : RY R x nw kp rd cb m w im tp I2 := by
  have w1 := E.1.2.2.2.2.2.2.2.2.2.2.1
  have hW := (LI.wos E hl1).1
  have Z := p6 w w1
  have hb := hW.b
  exact ⟨OPo_mix E hl hl1 hl2 h.1 c u0_ u1_ q2 q3 q4 q5 q6 q7 u2_ cm u3_ u4_ u5_ p3 u6_ p5 p6 u7_, (h.2.c E c (hS.mx E (ncn (n := 16) (by omega) (by omega))) (by decide)).rw E cm (by decide) (by decide) (by decide) (fun r hr => by
    by_cases z : (I2 m 0).toInt = 0
    · exact fw.mx (p3 w w1 z) hW (ncn (n := 16) (by omega) (by omega)) r hr
    · rw [p5 w w1 z])⟩
theorem OP_mix_3 {n1 n2 : Int32} {P0 P1 P2 P4 P7 : Prop} (E : LX T N R A B x nw kp rd al m w im o cb tp) (hl : LI T R A m I) (hl1 : LI T R A m I1) (hl2 : LI T R A m I2) (h : RY R x nw kp rd cb m w im tp I) (u0_ : CB (sMx T R A nw n1.toNatClampNeg) T [(3, 0), (9, 4), (9, 5)] I I1) (q0 : (n1.toInt < 0 ∨ (I nw 1).toInt ≤ n1.toInt ∨ 16 ≤ n1.toInt) ∨ (n2.toInt < 0 ∨ (I nw 2).toInt ≤ n2.toInt ∨ 8 ≤ n2.toInt)) (q1 : ∀ a k, I1 a k = I a k) (cm : CM B R m [0, 6, 7, 8, 9] [1, 4, 5] I1 L1 I2 L2) (u1_ : P0) (u2_ : P1) (u3_ : P2) (p3 : ∀ a1, R m 1 = some a1 → (I2 m 0).toInt = 0 → MXT (I2 a1) (I1 a1) n1 n2) (u4_ : P4) (p5 : ∀ a1, R m 1 = some a1 → (I2 m 0).toInt ≠ 0 → I2 a1 = I1 a1) (p6 : ∀ a1, R m 1 = some a1 → ¬ (n1.toInt < 0 ∨ (I1 a1 1).toInt ≤ n1.toInt ∨ n2.toInt < 0 ∨ (I1 a1 2).toInt ≤ n2.toInt) ∧ (I2 m 0).toInt = 0 ∨ (n1.toInt < 0 ∨ (I1 a1 1).toInt ≤ n1.toInt ∨ n2.toInt < 0 ∨ (I1 a1 2).toInt ≤ n2.toInt) ∧ (I2 m 0).toInt = 1) (u5_ : P7) : RY R x nw kp rd cb m w im tp I2 := by
  have w1 := E.1.2.2.2.2.2.2.2.2.2.2.1
  have hW := (LI.wos E hl1).1
  have Z := p6 w w1
  have hb := hW.b
  exact ⟨OPo_mix_3 E hl hl1 hl2 h.1 u0_ q0 q1 cm u1_ u2_ u3_ p3 u4_ p5 p6 u5_, (h.2.sm E (fun a _ => funext (q1 a))).rw E cm (by decide) (by decide) (by decide) (fun r hr => by
    by_cases z : (I2 m 0).toInt = 0
    · exact fw.mx (p3 w w1 z) hW (ncn (n := 16) (by omega) (by omega)) r hr
    · rw [p5 w w1 z])⟩
theorem OP_undo {u v : Int32} {P0 P2 : Prop} (E : LX T N R A B x nw kp rd al m w im o cb tp) (hl : LI T R A m I) (hl1 : LI T R A m I1) (hl2 : LI T R A m I2) (h : RY R x nw kp rd cb m w im tp I) (c : CB (UDX R nw) T [(9, 4), (9, 5)] I I1) (q0 : UND R I1 I nw u (I nw 4).toInt (I nw 5).toInt) (cm : CM B R m [0, 6, 7, 8, 9] [1, 4, 5] I1 L1 I2 L2) (u0_ : P0) (p1 : ∀ a1, R m 1 = some a1 → UNX (I2 a1) (I1 a1) v.toInt) (u1_ : P2) : RY R x nw kp rd cb m w im tp I2 := by
  have w1 := E.1.2.2.2.2.2.2.2.2.2.2.1
  have hW := (LI.wos E hl1).1
  exact ⟨OPo_undo E hl hl1 hl2 h.1 c q0 cm u0_ p1 u1_, (h.2.c E c (hS.ud E) (by decide)).rw E cm (by decide) (by decide) (by decide) (fw.un (p1 w w1) hW)⟩
theorem OP_redo {u v : Int32} {P0 P2 : Prop} (E : LX T N R A B x nw kp rd al m w im o cb tp) (hl : LI T R A m I) (hl1 : LI T R A m I1) (hl2 : LI T R A m I2) (h : RY R x nw kp rd cb m w im tp I) (c : CB (UDX R nw) T [(9, 4), (9, 5)] I I1) (q0 : RDD R I1 I nw u (I nw 4).toInt (I nw 5).toInt) (cm : CM B R m [0, 6, 7, 8, 9] [1, 4, 5] I1 L1 I2 L2) (u0_ : P0) (p1 : ∀ a1, R m 1 = some a1 → RDX (I2 a1) (I1 a1) v.toInt) (u1_ : P2) : RY R x nw kp rd cb m w im tp I2 := by
  have w1 := E.1.2.2.2.2.2.2.2.2.2.2.1
  have hW := (LI.wos E hl1).1
  exact ⟨OPo_redo E hl hl1 hl2 h.1 c q0 cm u0_ p1 u1_, (h.2.c E c (hS.ud E) (by decide)).rw E cm (by decide) (by decide) (by decide) (fw.re (p1 w w1) hW)⟩
theorem SGCL.s3 {st a : Nat} (h : SGCL R st a) : ∃ j, j < 8 ∧ SG3 R st j a := h
theorem SGR.cp {st st' : Nat} {W W' : Nat → Int32} (h : SGR R st' W I) (hb : (I st' 3).toInt ≤ 8) (l : SLL R I1 I st st' (I st' 3).toInt) (e3 : (I1 st 3).toInt = (I st' 3).toInt) (fw : ∀ r, r < 3606 → W' r = W r) : SGR R st W' I1 := by
  refine ⟨by rw [e3, fw 3 (by decide)]; exact h.1, fun j hj hk => ?_⟩
  obtain ⟨l1, l2⟩ := l j hj (by omega)
  obtain ⟨h1, h2, h3, h4⟩ := h.2 j hj (by omega)
  have le : (WSL W j).length ≤ 160 := by rw [← h1, STL.len]; omega
  rw [l1, h1, WSL.eq le (fun r h1 h2 => fw r (by omega))]
  exact ⟨rfl, l2.1, l2.2, h4⟩
theorem OP_image {P0 : Prop} (E : LX T N R A B x nw kp rd al m w im o cb tp) (hl : LI T R A m I) (hl1 : LI T R A m I1) (hl2 : LI T R A m I2) (h : RY R x nw kp rd cb m w im tp I) (c : CB (sIm R kp x) T [(3, 0), (8, 2), (9, 0), (9, 1), (9, 2), (9, 3), (9, 4), (9, 5), (10, 0), (10, 1), (10, 2), (10, 3), (12, 3)] I I1) (q0 : (I1 x 3).toInt = 1) (q1 : (I1 kp 0).toInt = (I nw 0).toInt) (q2 : (I1 kp 1).toInt = (I nw 1).toInt) (q3 : (I1 kp 2).toInt = (I nw 2).toInt) (q4 : (I1 kp 3).toInt = (I nw 3).toInt) (q5 : (I1 kp 4).toInt = (I nw 4).toInt) (q6 : (I1 kp 5).toInt = (I nw 5).toInt) (q7 : CAL R I1 I kp nw 40) (q8 : FLL R I1 I kp nw (I nw 1).toInt) (q9 : TLL R I1 I kp nw (I nw 2).toInt) (q10 : SLL R I1 I kp nw (I nw 3).toInt) (cm : CM B R m [0, 3] [2] I1 L1 I2 L2) (u0_ : P0) (p1 : (I2 m 3).toInt = 1) (p2 : ∀ a1 a2, R m 1 = some a1 → R m 2 = some a2 → CPA I2 I1 a2 a1) : RY R x nw kp rd cb m w im tp I2 := by
  refine ⟨OPo_image E hl hl1 hl2 h.1 c q0 q1 q2 q3 q4 q5 q6 q7 q8 q9 cm u0_ p1 p2, ?_⟩
  obtain ⟨⟨g1, gg1⟩, g2, gg2⟩ := E.g
  obtain ⟨⟨t1, t2, t3, t4⟩, ⟨a1, a2, a3, a4⟩, b1, b2, b3⟩ := E.1.t
  have w1 := E.1.2.2.2.2.2.2.2.2.2.2.1
  have w2 := E.1.2.2.2.2.2.2.2.2.2.2.2
  have nAB := E.1.2.2.2.1
  have hnk := E.1.2.2.2.2.2.2.2.1
  have hU := E.2.1
  have eB : ∀ a, B a → I1 a = I a := fun a ha => c.1 a (fun q => q.elim (fun q => nAB a (OWN.a9 E.s.2 q) ha) (fun e => nAB _ a1 (e ▸ ha)))
  have eA : ∀ a, A a → I2 a = I1 a := fun a ha => (cm.1 a (nAB a ha)).1
  have X := p2 w im w1 w2
  have Y : ∀ r, r < 3606 → I2 im r = I w r := fun r hr => by rw [X r hr, eB w b2]
  have ew : I2 w = I w := ((cm.2.2 1 w w1 (by decide)).1).trans (eB w b2)
  have enw : I1 nw = I nw := c.1 nw (fun q => q.elim (fun q => by
    rcases OWN.ty g2 gg2 q with e | e | e | e | e
    · exact hnk e.symm
    · omega
    · omega
    · omega
    · omega) (fun e => by rw [e] at t2; omega))
  have en : ∀ a, SGCL R nw a → I2 a = I a := fun a ha => by
    obtain ⟨j, hj, q⟩ := ha.s3
    rw [eA a (ha.a E.s.1)]
    exact c.1 a (fun z => z.elim (OWN.ns hU g2 gg2 gg1 hnk hj q) (fun e => by have := q.ty gg1 hj; rw [e] at this; omega))
  have hb := (RYo.b E hl h.1).2.2.2.2.1
  refine ⟨by rw [(cm.2.2 10 tp E.2.2.2.1 (by decide)).1, eB tp E.tb]; exact h.2.1, ?_, Or.inr ?_⟩
  · rw [ew]
    exact h.2.2.1.fr (by rw [eA nw a2, enw]) en (fun _ _ => rfl)
  · have q := h.2.2.1.cp (st := kp) hb.2 q10 q4 Y
    exact q.fr (by rw [eA kp a3]) (fun a ha => eA a (ha.a E.s.2)) (fun _ _ => rfl)
theorem OP_back {u v : Int32} {P0 P1 P2 Q0 Q1 : Prop} (E : LX T N R A B x nw kp rd al m w im o cb tp) (hl : LI T R A m I) (hl1 : LI T R A m I1) (hl2 : LI T R A m I2) (h : RY R x nw kp rd cb m w im tp I) (c : CB (OWN R nw) T [(3, 0), (8, 2), (9, 0), (9, 1), (9, 2), (9, 3), (9, 4), (9, 5), (10, 0), (10, 1), (10, 2), (10, 3)] I I1) (u0_ : Q0) (u1_ : Q1) (q2 : BKX R I1 I nw kp u.toInt (I x 3).toInt) (q3 : u.toInt ≠ 0 → SLL R I1 I nw kp (I kp 3).toInt) (cm : CM B R m [0] [1] I1 L1 I2 L2) (u2_ : P0) (u3_ : P1) (u4_ : P2) (p3 : ∀ a1 a2, R m 1 = some a1 → R m 2 = some a2 → BKD I2 I1 a1 a2 v.toInt (I1 m 3).toInt) : RY R x nw kp rd cb m w im tp I2 := by
  refine ⟨OPo_back E hl hl1 hl2 h.1 c u0_ u1_ q2 cm u2_ u3_ u4_ p3, ?_⟩
  obtain ⟨⟨g1, gg1⟩, g2, gg2⟩ := E.g
  obtain ⟨⟨t1, t2, t3, t4⟩, ⟨a1, a2, a3, a4⟩, b1, b2, b3⟩ := E.1.t
  have w1 := E.1.2.2.2.2.2.2.2.2.2.2.1
  have w2 := E.1.2.2.2.2.2.2.2.2.2.2.2
  have nAB := E.1.2.2.2.1
  have hnk := E.1.2.2.2.2.2.2.2.1
  have hU := E.2.1
  obtain ⟨r1, r2, r3⟩ := id h.1
  have eB : ∀ a, B a → I1 a = I a := fun a ha => c.1 a (fun q => nAB a (OWN.a9 E.s.1 q) ha)
  have eA : ∀ a, A a → I2 a = I1 a := fun a ha => (cm.1 a (nAB a ha)).1
  have X := p3 w im w1 w2
  rw [eB m b1] at X
  have et : I2 tp = I tp := ((cm.2.2 10 tp E.2.2.2.1 (by decide)).1).trans (eB tp E.tb)
  have ei : I2 im = I im := ((cm.2.2 2 im w2 (by decide)).1).trans (eB im b3)
  have e3 : I2 m 3 = I m 3 := by rw [cm.2.1 3 (by decide), eB m b1]
  have ekp : I1 kp = I kp := c.1 kp (fun q => by
    rcases OWN.ty g1 gg1 q with e | e | e | e | e
    · exact hnk e
    · omega
    · omega
    · omega
    · omega)
  have ek : ∀ a, SGCL R kp a → I2 a = I a := fun a ha => by
    obtain ⟨j, hj, q⟩ := ha.s3
    rw [eA a (ha.a E.s.2)]
    exact c.1 a (OWN.ns hU g1 gg1 gg2 (Ne.symm hnk) hj q)
  refine ⟨by rw [et]; exact h.2.1, ?_, ?_⟩
  · by_cases z : (I m 3).toInt = 0
    · obtain ⟨-, eI⟩ := q2.1 (by omega)
      rcases X with ⟨-, -, C⟩ | ⟨-, n, -⟩
      · exact h.2.2.1.fr (by rw [eA nw a2, eI]) (fun a ha => by rw [eA a (ha.a E.s.1), eI]) (fun r hr => by rw [C r (by omega), eI])
      · exact absurd z n
    · obtain ⟨zu, i6, -⟩ := q2.2 (by omega)
      rcases X with ⟨-, n, -⟩ | ⟨-, -, C⟩
      · exact absurd n z
      have s3 := r3.2.2.2.2.resolve_left z
      have q := (h.2.2.2.resolve_left z).cp (st := nw) s3.2 (q3 (by omega)) (i6 3 (by decide)) (W' := I2 w) (fun r hr => by rw [C r hr, eB im b3])
      exact q.fr (by rw [eA nw a2]) (fun a ha => eA a (ha.a E.s.1)) (fun _ _ => rfl)
  · rw [e3, ei]
    exact h.2.2.2.imp id (fun q => q.fr (by rw [eA kp a3, ekp]) ek (fun _ _ => rfl))
/-- the cells that telling signs changes -/
def sSG (R : RT) (x rd nw n a : Nat) : Prop := a = x ∨ a = rd ∨ a = rA R rd 0 ∨ a = rA R (rA R rd 0) 0 ∨ a = rA R (rA R rd 0) 1 ∨ a = nw ∨ a = SA R nw n ∨ a = rA R (SA R nw n) 0 ∨ a = rA R (SA R nw n) 1
theorem BC.eq {f g : Nat → Int32} {m n : Int} (hm : m = n) (h : ∀ k : Nat, (k : Int) < n → (f k).toInt = (g k).toInt % 256) : BCH f m = BCM g n := by
  subst hm
  exact funext fun k => by
    unfold BCH BCM
    by_cases q : (k : Int) < m
    · rw [if_pos q, if_pos q]; exact h k q
    · rw [if_neg q, if_neg q]
theorem LX.oq (E : LX T N R A B x nw kp rd al m w im o cb tp) : (T (rA R rd 0) = 8 ∧ R rd 0 = some (rA R rd 0) ∧ A (rA R rd 0)) ∧ (T (rA R (rA R rd 0) 0) = 20 ∧ R (rA R rd 0) 0 = some (rA R (rA R rd 0) 0) ∧ A (rA R (rA R rd 0) 0)) ∧ T (rA R (rA R rd 0) 1) = 20 ∧ R (rA R rd 0) 1 = some (rA R (rA R rd 0) 1) ∧ A (rA R (rA R rd 0) 1) := by
  obtain ⟨⟨hx, -, -, -, -, -, r0, -⟩, -⟩ := E
  obtain ⟨b, e, h⟩ := hx.2.2.1
  cases e.symm.trans r0
  obtain ⟨-, -, ⟨s, s1, s2, s3, ⟨c, c1, c2, -, c4⟩, ⟨d, d1, d2, -, d4⟩⟩, -⟩ := h
  rw [rA_e s1, rA_e c1, rA_e d1]
  exact ⟨⟨s2, s1, s3⟩, ⟨c2, c1, c4⟩, d2, d1, d4⟩
theorem sSG.sn (E : LX T N R A B x nw kp rd al m w im o cb tp) {n : Nat} (hn : n < 8) {a : Nat} (h : sSG R x rd nw n a) : sSN T R A nw a := by
  obtain ⟨⟨t1, t2, t3, t4⟩, ⟨a1, a2, a3, a4⟩, b1, b2, b3⟩ := E.1.t
  obtain ⟨⟨o1, o2, o3⟩, ⟨p1, p2, p3⟩, q1, q2, q3⟩ := E.oq
  have hU := E.2.1
  have ko : ¬ KEEP T R (rA R rd 0) := KEEP.s hU o1 o2 (by omega)
  rcases h with e | e | e | e | e | e | e | e | e
  · rw [e]; exact Or.inl ⟨⟨a1, KEEP.n (by omega) (by omega) (by omega)⟩, Or.inl (by omega)⟩
  · rw [e]; exact Or.inl ⟨⟨a4, KEEP.n (by omega) (by omega) (by omega)⟩, Or.inl (by omega)⟩
  · rw [e]; exact Or.inl ⟨⟨o3, ko⟩, Or.inl (by omega)⟩
  · rw [e]; exact Or.inl ⟨⟨p3, KEEP.a hU p1 p2 ko (by omega) (by omega)⟩, Or.inl (by omega)⟩
  · rw [e]; exact Or.inl ⟨⟨q3, KEEP.a hU q1 q2 ko (by omega) (by omega)⟩, Or.inl (by omega)⟩
  · rw [e]; exact Or.inl ⟨⟨a2, KEEP.n (by omega) (by omega) (by omega)⟩, Or.inr rfl⟩
  · exact Or.inr ⟨n, hn, Or.inl e⟩
  · exact Or.inr ⟨n, hn, Or.inr (Or.inl e)⟩
  · exact Or.inr ⟨n, hn, Or.inr (Or.inr e)⟩
theorem CB.mn {S' : Nat → Prop} (c : CB S T Wl I I1) (h : ∀ a, S a → S' a) : CB S' T Wl I I1 := ⟨fun a ha => c.1 a (fun q => ha (h a q)), c.2⟩
theorem sSG.no (E : LX T N R A B x nw kp rd al m w im o cb tp) {st n j a : Nat} (hst : st = nw ∨ st = kp) (hn : n < 8) (hj : j < 8) (hne : ¬ (st = nw ∧ j = n)) (h : SG3 R st j a) : ¬ sSG R x rd nw n a := by
  obtain ⟨⟨g1, gg1⟩, g2, gg2⟩ := E.g
  obtain ⟨⟨t1, t2, t3, t4⟩, -⟩ := E.1.t
  obtain ⟨⟨o1, o2, o3⟩, ⟨p1, p2, p3⟩, q1, q2, q3⟩ := E.oq
  have hU := E.2.1
  have gg : GG T R st := by rcases hst with e | e <;> (rw [e]; assumption)
  have ty := h.ty gg hj
  obtain ⟨s1, s2, ⟨s3, s4⟩, s5, s6⟩ := gg.2.2 j hj
  have ns : SA R st j ≠ rA R rd 0 := fun e => by
    have := (hU _ _ _ _ _ (Or.inr (Or.inl s2)) s1 (by rw [e]; exact o2)).1
    have t := gg.2.1
    rw [this] at t; omega
  intro q
  rcases q with e | e | e | e | e | e | e
  · rw [e] at ty; omega
  · rw [e] at ty; omega
  · rcases h with h | h | h
    · exact ns (h.symm.trans e)
    · rw [h.symm.trans e] at s4; omega
    · rw [h.symm.trans e] at s6; omega
  · rcases h with h | h | h
    · rw [h.symm.trans e] at s2; omega
    · exact ns (hU _ _ _ _ _ (t20 s4) s3 (by rw [h.symm.trans e]; exact p2)).1
    · exact ns (hU _ _ _ _ _ (t20 s6) s5 (by rw [h.symm.trans e]; exact p2)).1
  · rcases h with h | h | h
    · rw [h.symm.trans e] at s2; omega
    · exact ns (hU _ _ _ _ _ (t20 s4) s3 (by rw [h.symm.trans e]; exact q2)).1
    · exact ns (hU _ _ _ _ _ (t20 s6) s5 (by rw [h.symm.trans e]; exact q2)).1
  · rw [e] at ty; omega
  · exact hne (SG3.u hU gg gg1 hj hn h e)
theorem RZ.eq (h : RYo R x nw kp rd cb m w im tp I) : RDA 200 (BCM (I tp) (I m 11).toInt) = RDA 160 (BCH (I cb) (I rd 1).toInt) := by
  rw [RDA.eq, BC.eq h.1 h.2.2.1]
theorem SG9.c {S : Nat → Prop} {Wl : List (Nat × Nat)} (E : LX T N R A B x nw kp rd al m w im o cb tp) (q9 : ∀ a, ¬ (a = x ∨ a = rd ∨ a = rA R rd 0 ∨ a = rA R (rA R rd 0) 0 ∨ a = rA R (rA R rd 0) 1) → I1 a = I a) (c : CB S T Wl I I1) : CB (sSN T R A nw) T Wl I I1 := by
  have sn : ∀ a, (a = x ∨ a = rd ∨ a = rA R rd 0 ∨ a = rA R (rA R rd 0) 0 ∨ a = rA R (rA R rd 0) 1) → sSN T R A nw a := fun a q => sSG.sn (n := 0) E (by decide) (by
    rcases q with e | e | e | e | e
    · exact Or.inl e
    · exact Or.inr (Or.inl e)
    · exact Or.inr (Or.inr (Or.inl e))
    · exact Or.inr (Or.inr (Or.inr (Or.inl e)))
    · exact Or.inr (Or.inr (Or.inr (Or.inr (Or.inl e)))))
  exact ⟨fun a ha => q9 a (fun q => ha (sn a q)), c.2⟩
theorem SG9.n (E : LX T N R A B x nw kp rd al m w im o cb tp) (hl : LI T R A m I) (h : RY R x nw kp rd cb m w im tp I) {Wl : List (Nat × Nat)} {u : Int} (q1 : (I nw 3).toInt < 8 ∧ u = (I nw 3).toInt) (c : CB (sSG R x rd nw (I nw 3).toNatClampNeg) T Wl I I1) : CB (sSN T R A nw) T Wl I I1 := by
  have hb := (RYo.b E hl h.1).2.2.2.2.1
  have n0 := ncz hb.1
  exact c.mn (fun a q => sSG.sn E (by omega) q)
theorem RY.tb1 (E : LX T N R A B x nw kp rd al m w im o cb tp) {S : Nat → Prop} {Wl : List (Nat × Nat)} (h : RY R x nw kp rd cb m w im tp I) (c : CB S T Wl I I1) (hS : ∀ a, S a → A a) : ∀ a10, R m 10 = some a10 → TBY (I1 a10) := fun a q => by
  have e : a = tp := Option.some.inj (q.symm.trans E.2.2.2.1)
  rw [e, c.1 tp (fun z => E.1.2.2.2.1 _ (hS _ z) E.tb)]; exact h.2.1
theorem RY.sl (h : RY R x nw kp rd cb m w im tp I) : ∀ j : Nat, j < 8 → (j : Int) < (I nw 3).toInt → 0 ≤ (I (SA R nw j) 2).toInt ∧ (I (SA R nw j) 2).toInt ≤ 160 := fun j hj hk => ⟨(h.2.2.1.2 j hj hk).2.1, (h.2.2.1.2 j hj hk).2.2.1⟩
theorem RY.bk3 (h : RY R x nw kp rd cb m w im tp I) : (I x 3).toInt ≠ 0 → (I kp 3).toInt ≤ 8 ∧ ∀ j : Nat, j < 8 → (j : Int) < (I kp 3).toInt → 0 ≤ (I (SA R kp j) 2).toInt ∧ (I (SA R kp j) 2).toInt ≤ 160 := fun z => by
  rw [h.1.2.1] at z
  exact ⟨(h.1.2.2.2.2.2.2.resolve_left z).2, fun j hj hk => ⟨((h.2.2.2.resolve_left z).2 j hj hk).2.1, ((h.2.2.2.resolve_left z).2 j hj hk).2.2.1⟩⟩
theorem OP_signs {u v : Int32} {P0 P1 P2 P4 P5 P6 : Prop} (E : LX T N R A B x nw kp rd al m w im o cb tp) (hl : LI T R A m I) (hl1 : LI T R A m I1) (hl2 : LI T R A m I2) (h : RY R x nw kp rd cb m w im tp I) (c : CB (sSG R x rd nw (I nw 3).toNatClampNeg) T [(5, 1), (5, 3), (5, 4), (5, 5), (8, 2), (9, 3), (12, 4)] I I1) (q0 : (I1 rd 1).toInt = 0) (q1 : (I nw 3).toInt < 8 ∧ u.toInt = (I nw 3).toInt) (q2 : (I1 nw 3).toInt = (I nw 3).toInt + 1) (q3 : (RDA 160 (BCH (I cb) (I rd 1).toInt)) = some (STL R I1 (SA R nw (I nw 3).toNatClampNeg))) (q4 : 0 ≤ (I1 (SA R nw (I nw 3).toNatClampNeg) 2).toInt ∧ (I1 (SA R nw (I nw 3).toNatClampNeg) 2).toInt ≤ 160) (cm : CM B R m [0, 11, 12, 13, 14, 15, 16, 17, 19] [1] I1 L1 I2 L2) (_ : P0) (_ : P1) (_ : P2) (p3 : (I2 m 11).toInt = 0) (_ : P4) (_ : P5) (_ : P6) (p8 : ∀ a1 a10, R m 1 = some a1 → R m 10 = some a10 → SIG9 (I2 a1) (I1 a1) (I2 m 0).toInt v.toInt (RDA 200 (BCM (I1 a10) (I1 m 11).toInt))) : RY R x nw kp rd cb m w im tp I2 := by
  have p7 : ∀ a1, R m 1 = some a1 → ∀ r : Nat, r ≠ 3 ∧ (r < 198 ∨ 3406 ≤ r) ∧ r < 3606 → I2 a1 r = I1 a1 r := fun a1 h9 => (p8 a1 tp h9 E.2.2.2.1).fr
  obtain ⟨⟨g1, gg1⟩, g2, gg2⟩ := E.g
  obtain ⟨⟨t1, t2, t3, t4⟩, ⟨a1, a2, a3, a4⟩, b1, b2, b3⟩ := E.1.t
  have w1 := E.1.2.2.2.2.2.2.2.2.2.2.1
  have w2 := E.1.2.2.2.2.2.2.2.2.2.2.2
  have nAB := E.1.2.2.2.1
  have hnk := E.1.2.2.2.2.2.2.2.1
  have hb := (RYo.b E hl h.1).2.2.2.2.1
  have n0 := ncz hb.1
  have n8 : (I nw 3).toNatClampNeg < 8 := by omega
  have c9 := c.mn (S' := sSN T R A nw) (fun a q => sSG.sn E n8 q)
  have eB : ∀ a, B a → I1 a = I a := fun a ha => c9.1 a (fun q => nAB a (sSN.a9 E q) ha)
  have eA : ∀ a, A a → I2 a = I1 a := fun a ha => (cm.1 a (nAB a ha)).1
  have S8 := p8 w tp w1 E.2.2.2.1
  rw [eB w b2, eB tp E.tb, eB m b1, RZ.eq h.1, q3] at S8
  have ec := h.2.2.1.1
  refine ⟨OPo_signsx E hl hl1 hl2 h.1 c9 q0 (by omega) cm p3 p7, ?_⟩
  rcases S8 with ⟨-, z, -⟩ | ⟨-, -, z, -⟩ | ⟨z0, z1, z2, z3, z4, z5⟩
  · cases z
  · exfalso; omega
  have ew : (I w 3).toInt.toNat = (I nw 3).toNatClampNeg := by omega
  rw [ew] at z4 z5
  have en : ∀ st, (st = nw ∨ st = kp) → ∀ j a, j < 8 → ¬ (st = nw ∧ j = (I nw 3).toNatClampNeg) → SG3 R st j a → I1 a = I a := fun st hst j a hj hne q => c.1 a (sSG.no E hst n8 hj hne q)
  refine ⟨by rw [(cm.2.2 10 tp E.2.2.2.1 (by decide)).1, eB tp E.tb]; exact h.2.1, ⟨by rw [eA nw a2, q2, z3, ec], fun j hj hk => ?_⟩, ?_⟩
  · rw [eA nw a2, q2] at hk
    have fr2 : ∀ a, SG3 R nw j a → I2 a = I1 a := fun a q => eA a (SGCL.a E.s.1 ⟨j, hj, q⟩)
    rw [STL.fr rfl rfl (by rw [fr2 _ (Or.inl rfl)]) (fr2 _ (Or.inr (Or.inl rfl))) (fr2 _ (Or.inr (Or.inr rfl))), fr2 _ (Or.inl rfl)]
    by_cases y : j = (I nw 3).toNatClampNeg
    · subst y
      exact ⟨Option.some.inj z4, q4.1, q4.2, by rw [← Option.some.inj z4]; exact RDA.h1 q3⟩
    · have f : ∀ a, SG3 R nw j a → I1 a = I a := fun a q => en nw (Or.inl rfl) j a hj (fun z => y z.2) q
      obtain ⟨h1, h2, h3, h4⟩ := h.2.2.1.2 j hj (by omega)
      have le : (WSL (I w) j).length ≤ 160 := by rw [← h1, STL.len]; omega
      rw [STL.fr rfl rfl (by rw [f _ (Or.inl rfl)]) (f _ (Or.inr (Or.inl rfl))) (f _ (Or.inr (Or.inr rfl))), f _ (Or.inl rfl), h1, WSL.eq le (fun r r1 r2 => z5 r (by omega) (Or.inl (by omega)) (by omega))]
      exact ⟨rfl, h2, h3, h4⟩
  · rw [cm.2.1 3 (by decide), eB m b1, (cm.2.2 2 im w2 (by decide)).1, eB im b3]
    have nk : ¬ sSG R x rd nw (I nw 3).toNatClampNeg kp := fun q => by
      have := sSG.sn E n8 q
      rcases this with z | z
      · exact z.2.elim (fun e => e t3) hnk
      · obtain ⟨j, hj, z⟩ := z
        have ty := SG3.ty gg1 hj z
        omega
    exact h.2.2.2.imp id (fun q => q.fr (by rw [eA kp a3, c.1 kp nk]) (fun a ha => by
      obtain ⟨j, hj, z⟩ := ha.s3
      rw [eA a (ha.a E.s.2)]
      exact en kp (Or.inr rfl) j a hj (fun y => hnk y.1) z) (fun _ _ => rfl))
theorem OP_signs_0 {v : Int32} {P0 P1 P2 P4 P5 P6 : Prop} (E : LX T N R A B x nw kp rd al m w im o cb tp) (hl : LI T R A m I) (hl1 : LI T R A m I1) (hl2 : LI T R A m I2) (h : RY R x nw kp rd cb m w im tp I) (c : CB (sSG R x rd nw (I nw 3).toNatClampNeg) T [(5, 1), (5, 3), (5, 4), (5, 5), (8, 2), (9, 3), (12, 4)] I I1) (q0 : (I1 rd 1).toInt = 0) (q1 : (RDA 160 (BCH (I cb) (I rd 1).toInt)) = none) (q9 : ∀ a, ¬ (a = x ∨ a = rd ∨ a = rA R rd 0 ∨ a = rA R (rA R rd 0) 0 ∨ a = rA R (rA R rd 0) 1) → I1 a = I a) (cm : CM B R m [0, 11, 12, 13, 14, 15, 16, 17, 19] [1] I1 L1 I2 L2) (_ : P0) (_ : P1) (_ : P2) (p3 : (I2 m 11).toInt = 0) (_ : P4) (_ : P5) (_ : P6) (p8 : ∀ a1 a10, R m 1 = some a1 → R m 10 = some a10 → SIG9 (I2 a1) (I1 a1) (I2 m 0).toInt v.toInt (RDA 200 (BCM (I1 a10) (I1 m 11).toInt))) : RY R x nw kp rd cb m w im tp I2 := by
  have p7 : ∀ a1, R m 1 = some a1 → ∀ r : Nat, r ≠ 3 ∧ (r < 198 ∨ 3406 ≤ r) ∧ r < 3606 → I2 a1 r = I1 a1 r := fun a1 h9 => (p8 a1 tp h9 E.2.2.2.1).fr
  obtain ⟨⟨g1, gg1⟩, g2, gg2⟩ := E.g
  obtain ⟨⟨t1, t2, t3, t4⟩, ⟨a1, a2, a3, a4⟩, b1, b2, b3⟩ := E.1.t
  have w1 := E.1.2.2.2.2.2.2.2.2.2.2.1
  have w2 := E.1.2.2.2.2.2.2.2.2.2.2.2
  have nAB := E.1.2.2.2.1
  have hnk := E.1.2.2.2.2.2.2.2.1
  have hb := (RYo.b E hl h.1).2.2.2.2.1
  have c9 : CB (sSN T R A nw) T [(5, 1), (5, 3), (5, 4), (5, 5), (8, 2), (9, 3), (12, 4)] I I1 := SG9.c E q9 c
  have eB : ∀ a, B a → I1 a = I a := fun a ha => c9.1 a (fun q => nAB a (sSN.a9 E q) ha)
  have enw : I1 nw = I nw := q9 nw (fun q => by
    rcases q with e | e | e | e | e
    · rw [e] at t2; omega
    · rw [e] at t2; omega
    · have := E.oq.1.1; rw [← e] at this; omega
    · have := E.oq.2.1.1; rw [← e] at this; omega
    · have := E.oq.2.2.1; rw [← e] at this; omega)
  have ekp : I1 kp = I kp := q9 kp (fun q => by
    rcases q with e | e | e | e | e
    · rw [e] at t3; omega
    · rw [e] at t3; omega
    · have := E.oq.1.1; rw [← e] at this; omega
    · have := E.oq.2.1.1; rw [← e] at this; omega
    · have := E.oq.2.2.1; rw [← e] at this; omega)
  have es : ∀ st, (st = nw ∨ st = kp) → ∀ a, SGCL R st a → I1 a = I a := fun st hst a ha => by
    obtain ⟨j, hj, q⟩ := ha.s3
    refine q9 a (fun z => ?_)
    by_cases y : st = nw ∧ j = 0
    · refine sSG.no (n := 1) E hst (by decide) hj (fun u => by have := u.2; have := y.2; omega) q ?_
      rcases z with e | e | e | e | e
      · exact Or.inl e
      · exact Or.inr (Or.inl e)
      · exact Or.inr (Or.inr (Or.inl e))
      · exact Or.inr (Or.inr (Or.inr (Or.inl e)))
      · exact Or.inr (Or.inr (Or.inr (Or.inr (Or.inl e))))
    · refine sSG.no (n := 0) E hst (by decide) hj y q ?_
      rcases z with e | e | e | e | e
      · exact Or.inl e
      · exact Or.inr (Or.inl e)
      · exact Or.inr (Or.inr (Or.inl e))
      · exact Or.inr (Or.inr (Or.inr (Or.inl e)))
      · exact Or.inr (Or.inr (Or.inr (Or.inr (Or.inl e))))
  have S8 := p8 w tp w1 E.2.2.2.1
  rw [eB w b2, eB tp E.tb, eB m b1, RZ.eq h.1] at S8
  have ec := h.2.2.1.1
  have C : ∀ r, r < 3606 → I2 w r = I w r := by
    rcases S8 with ⟨-, -, C⟩ | ⟨-, -, -, C⟩ | ⟨-, z1, -, -, z4, -⟩
    · exact C
    · exact C
    · exfalso; rw [q1] at z4; cases z4
  refine ⟨OPo_signsx E hl hl1 hl2 h.1 c9 q0 (by rw [enw]; exact hb) cm p3 p7, ?_⟩
  have s1 : SGS R nw kp m w im tp I1 := h.2.e (fun st hst => ⟨by rcases hst with e | e <;> (rw [e]; first | rw [enw] | rw [ekp]), es st hst⟩) (by rw [eB m b1]) (eB w b2) (eB im b3) (eB tp E.tb)
  exact s1.rw E cm (by decide) (by decide) (by decide) (fun r hr => by rw [C r (by omega), eB w b2])
theorem OP_signs_2 {v : Int32} {P0 P1 P2 P4 P5 P6 : Prop} (E : LX T N R A B x nw kp rd al m w im o cb tp) (hl : LI T R A m I) (hl1 : LI T R A m I1) (hl2 : LI T R A m I2) (h : RY R x nw kp rd cb m w im tp I) (c : CB (sSG R x rd nw (I nw 3).toNatClampNeg) T [(5, 1), (5, 3), (5, 4), (5, 5), (8, 2), (9, 3), (12, 4)] I I1) (q0 : (I1 rd 1).toInt = 0) (q1 : 8 ≤ (I nw 3).toInt) (q2 : (RDA 160 (BCH (I cb) (I rd 1).toInt)) ≠ none) (q9 : ∀ a, ¬ (a = x ∨ a = rd ∨ a = rA R rd 0 ∨ a = rA R (rA R rd 0) 0 ∨ a = rA R (rA R rd 0) 1) → I1 a = I a) (cm : CM B R m [0, 11, 12, 13, 14, 15, 16, 17, 19] [1] I1 L1 I2 L2) (_ : P0) (_ : P1) (_ : P2) (p3 : (I2 m 11).toInt = 0) (_ : P4) (_ : P5) (_ : P6) (p8 : ∀ a1 a10, R m 1 = some a1 → R m 10 = some a10 → SIG9 (I2 a1) (I1 a1) (I2 m 0).toInt v.toInt (RDA 200 (BCM (I1 a10) (I1 m 11).toInt))) : RY R x nw kp rd cb m w im tp I2 := by
  have p7 : ∀ a1, R m 1 = some a1 → ∀ r : Nat, r ≠ 3 ∧ (r < 198 ∨ 3406 ≤ r) ∧ r < 3606 → I2 a1 r = I1 a1 r := fun a1 h9 => (p8 a1 tp h9 E.2.2.2.1).fr
  obtain ⟨⟨g1, gg1⟩, g2, gg2⟩ := E.g
  obtain ⟨⟨t1, t2, t3, t4⟩, ⟨a1, a2, a3, a4⟩, b1, b2, b3⟩ := E.1.t
  have w1 := E.1.2.2.2.2.2.2.2.2.2.2.1
  have w2 := E.1.2.2.2.2.2.2.2.2.2.2.2
  have nAB := E.1.2.2.2.1
  have hnk := E.1.2.2.2.2.2.2.2.1
  have hb := (RYo.b E hl h.1).2.2.2.2.1
  have c9 : CB (sSN T R A nw) T [(5, 1), (5, 3), (5, 4), (5, 5), (8, 2), (9, 3), (12, 4)] I I1 := SG9.c E q9 c
  have eB : ∀ a, B a → I1 a = I a := fun a ha => c9.1 a (fun q => nAB a (sSN.a9 E q) ha)
  have enw : I1 nw = I nw := q9 nw (fun q => by
    rcases q with e | e | e | e | e
    · rw [e] at t2; omega
    · rw [e] at t2; omega
    · have := E.oq.1.1; rw [← e] at this; omega
    · have := E.oq.2.1.1; rw [← e] at this; omega
    · have := E.oq.2.2.1; rw [← e] at this; omega)
  have ekp : I1 kp = I kp := q9 kp (fun q => by
    rcases q with e | e | e | e | e
    · rw [e] at t3; omega
    · rw [e] at t3; omega
    · have := E.oq.1.1; rw [← e] at this; omega
    · have := E.oq.2.1.1; rw [← e] at this; omega
    · have := E.oq.2.2.1; rw [← e] at this; omega)
  have es : ∀ st, (st = nw ∨ st = kp) → ∀ a, SGCL R st a → I1 a = I a := fun st hst a ha => by
    obtain ⟨j, hj, q⟩ := ha.s3
    refine q9 a (fun z => ?_)
    by_cases y : st = nw ∧ j = 0
    · refine sSG.no (n := 1) E hst (by decide) hj (fun u => by have := u.2; have := y.2; omega) q ?_
      rcases z with e | e | e | e | e
      · exact Or.inl e
      · exact Or.inr (Or.inl e)
      · exact Or.inr (Or.inr (Or.inl e))
      · exact Or.inr (Or.inr (Or.inr (Or.inl e)))
      · exact Or.inr (Or.inr (Or.inr (Or.inr (Or.inl e))))
    · refine sSG.no (n := 0) E hst (by decide) hj y q ?_
      rcases z with e | e | e | e | e
      · exact Or.inl e
      · exact Or.inr (Or.inl e)
      · exact Or.inr (Or.inr (Or.inl e))
      · exact Or.inr (Or.inr (Or.inr (Or.inl e)))
      · exact Or.inr (Or.inr (Or.inr (Or.inr (Or.inl e))))
  have S8 := p8 w tp w1 E.2.2.2.1
  rw [eB w b2, eB tp E.tb, eB m b1, RZ.eq h.1] at S8
  have ec := h.2.2.1.1
  have C : ∀ r, r < 3606 → I2 w r = I w r := by
    rcases S8 with ⟨-, -, C⟩ | ⟨-, -, -, C⟩ | ⟨-, z1, -, -, z4, -⟩
    · exact C
    · exact C
    · exfalso; omega
  refine ⟨OPo_signsx E hl hl1 hl2 h.1 c9 q0 (by rw [enw]; exact hb) cm p3 p7, ?_⟩
  have s1 : SGS R nw kp m w im tp I1 := h.2.e (fun st hst => ⟨by rcases hst with e | e <;> (rw [e]; first | rw [enw] | rw [ekp]), es st hst⟩) (by rw [eB m b1]) (eB w b2) (eB im b3) (eB tp E.tb)
  exact s1.rw E cm (by decide) (by decide) (by decide) (fun r hr => by rw [C r (by omega), eB w b2])
end Ops9
