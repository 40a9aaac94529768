-- 39.16.init.lean.txt
section
/-! what the constructors leave -/
def Ag (M M' : Mm) (a : Nat) : Prop := mT M' a = mT M a ∧ mN M' a = mN M a ∧ mI M' a = mI M a ∧ mL M' a = mL M a ∧ mR M' a = mR M a
theorem Ag.rf {M : Mm} {a : Nat} : Ag M M a := ⟨rfl, rfl, rfl, rfl, rfl⟩
theorem Ag.tr {M M1 M2 : Mm} {a : Nat} (h : Ag M M1 a) (g : Ag M1 M2 a) : Ag M M2 a := ⟨g.1.trans h.1, g.2.1.trans h.2.1, g.2.2.1.trans h.2.2.1, g.2.2.2.1.trans h.2.2.2.1, g.2.2.2.2.trans h.2.2.2.2⟩
/-- all that was there is as it was -/
def Ext (M M' : Mm) : Prop := ∀ a, mT M a ≠ 0 → Ag M M' a
/-- all but x -/
def Ex1 (x : Nat) (M M' : Mm) : Prop := ∀ a, mT M a ≠ 0 → a ≠ x → Ag M M' a
/-- all but what has tag t -/
def Stt (t : Nat) (M M' : Mm) : Prop := ∀ a, mT M a ≠ 0 → mT M a ≠ t → Ag M M' a
theorem Ext.rf {M : Mm} : Ext M M := fun _ _ => Ag.rf
theorem Ext.tr {M M1 M2 : Mm} (h : Ext M M1) (g : Ext M1 M2) : Ext M M2 := fun a ha => (h a ha).tr (g a (by rw [(h a ha).1]; exact ha))
theorem Ex1.rf {x : Nat} {M : Mm} : Ex1 x M M := fun _ _ _ => Ag.rf
theorem Ex1.tr {x : Nat} {M M1 M2 : Mm} (h : Ex1 x M M1) (g : Ex1 x M1 M2) : Ex1 x M M2 := fun a ha hx => (h a ha hx).tr (g a (by rw [(h a ha hx).1]; exact ha) hx)
theorem Ext.st {t : Nat} {M M1 : Mm} (h : Ext M M1) : Stt t M M1 := fun a ha _ => h a ha
theorem Ex1.st {x t : Nat} {M M1 : Mm} (h : Ex1 x M M1) (hx : mT M x = t) : Stt t M M1 := fun a ha ht => h a ha (fun e => ht (by rw [e]; exact hx))
theorem ag_new {M : Mm} {b t n a : Nat} (h : a ≠ b) : Ag M (sN M b t n) a := by
  refine ⟨?_, ?_, ?_, ?_, ?_⟩ <;> simp [sN, u1, h, mT, mN, mI, mL, mR]
theorem ag_sR {M : Mm} {b k a : Nat} {x : Option Nat} (h : a ≠ b) : Ag M (sR M b k x) a := ⟨rfl, rfl, rfl, rfl, u2_r h⟩
theorem Ext.new {M M1 : Mm} {b t n : Nat} (h : Ext M M1) (hb : mT M1 b = 0) : Ext M (sN M1 b t n) := fun a ha => (h a ha).tr (ag_new (fun e => ha (by rw [← (h a ha).1, e, hb])))
theorem Ext.e1 {M M1 M2 : Mm} {b : Nat} (h : Ext M M1) (g : Ex1 b M1 M2) (hb : mT M b = 0) : Ext M M2 := fun a ha => (h a ha).tr (g a (by rw [(h a ha).1]; exact ha) (fun e => ha (by rw [e, hb])))
theorem Ext.sR {M M1 : Mm} {r k : Nat} {x : Option Nat} (h : Ext M M1) (hr : mT M r = 0) : Ext M (sR M1 r k x) := fun a ha => (h a ha).tr (ag_sR (fun e => ha (by rw [e, hr])))
theorem T_new {M : Mm} {b t n : Nat} : mT (sN M b t n) b = t := by simp [sN, u1, mT]
theorem N_new {M : Mm} {b t n : Nat} : mN (sN M b t n) b = n := by simp [sN, u1, mN]
theorem I_new {M : Mm} {b t n k : Nat} : mI (sN M b t n) b k = 0 := by simp [sN, u1, mI]
theorem L_new {M : Mm} {b t n k : Nat} : mL (sN M b t n) b k = 0 := by simp [sN, u1, mL]
theorem T_old {M : Mm} {a b t n : Nat} (h : a ≠ b) : mT (sN M b t n) a = mT M a := (ag_new h).1
/-! who holds whom: a Form, Signs, a Table, an array is held by one cell alone -/
def trT (t : Nat) : Prop := t = 3 ∨ t = 8 ∨ t = 10 ∨ 20 ≤ t
theorem trT.n0 {t : Nat} (h : trT t) : t ≠ 0 := by unfold trT at h; omega
def unr (M : Mm) (b : Nat) : Prop := ∀ a k, mR M a k ≠ some b
def UP (M : Mm) : Prop := (∀ a k b, mR M a k = some b → mT M b ≠ 0) ∧ ∀ a k a' k' b, trT (mT M b) → mR M a k = some b → mR M a' k' = some b → a = a' ∧ k = k'
def Ko (M M1 : Mm) : Prop := UP M → UP M1 ∧ (∀ a, mT M a ≠ 0 → mT M1 a = mT M a) ∧ ∀ b, trT (mT M b) → unr M b → unr M1 b
theorem Ko.rf {M : Mm} : Ko M M := fun h => ⟨h, fun _ _ => rfl, fun _ _ h => h⟩
theorem Ko.tr {M M1 M2 : Mm} (h : Ko M M1) (g : Ko M1 M2) : Ko M M2 := fun u => by
  obtain ⟨v1, t1, r1⟩ := h u
  obtain ⟨v2, t2, r2⟩ := g v1
  exact ⟨v2, fun a ha => (t2 a (by rw [t1 a ha]; exact ha)).trans (t1 a ha), fun b hb hr => r2 b (by rw [t1 b hb.n0]; exact hb) (r1 b hb hr)⟩
theorem R_new {M : Mm} {a b t n k c : Nat} (h : mR (sN M b t n) a k = some c) : mR M a k = some c := by
  by_cases e : a = b
  · subst e; simp [sN, u1, mR] at h
  · exact (congrFun (ag_new (M := M) (t := t) (n := n) e).2.2.2.2 k).symm.trans h
theorem Ko.nw {M : Mm} {b t n : Nat} (hb : mT M b = 0) : Ko M (sN M b t n) := fun u => by
  have tt : ∀ c, mT M c ≠ 0 → mT (sN M b t n) c = mT M c := fun c hc => T_old (fun e => hc (by rw [e, hb]))
  refine ⟨⟨fun a k c h => ?_, fun a k a' k' c hc h h' => ?_⟩, tt, fun c _ hr a k h => hr a k (R_new h)⟩
  · have q := u.1 a k c (R_new h)
    rw [tt c q]; exact q
  · have h := R_new h
    rw [tt c (u.1 a k c h)] at hc
    exact u.2 a k a' k' c hc h (R_new h')
theorem unr.nw {M : Mm} {b t n : Nat} (u : UP M) (hb : mT M b = 0) : unr (sN M b t n) b := fun a k h => u.1 a k b (R_new h) hb
theorem R_put {M : Mm} {x k c a j b : Nat} (h : mR (sR M x k (some c)) a j = some b) : (a = x ∧ j = k ∧ b = c) ∨ mR M a j = some b := by
  have h : (if a = x ∧ j = k then some c else mR M a j) = some b := h
  by_cases e : a = x ∧ j = k
  · rw [if_pos e] at h; exact Or.inl ⟨e.1, e.2, (Option.some.inj h).symm⟩
  · rw [if_neg e] at h; exact Or.inr h
theorem Ko.pt {M : Mm} {x k c : Nat} (hc : ¬ trT (mT M c)) (h0 : mT M c ≠ 0) : Ko M (sR M x k (some c)) := fun u => by
  refine ⟨⟨fun a j b h => ?_, fun a j a' j' b hb h h' => ?_⟩, fun _ _ => rfl, fun b hb hr a j h => ?_⟩
  · rcases R_put h with ⟨-, -, e⟩ | h
    · rw [e]; exact h0
    · exact u.1 a j b h
  · rcases R_put h with ⟨-, -, e⟩ | h
    · rw [e] at hb; exact absurd hb hc
    · rcases R_put h' with ⟨-, -, e⟩ | h'
      · rw [e] at hb; exact absurd hb hc
      · exact u.2 a j a' j' b hb h h'
  · rcases R_put h with ⟨-, -, e⟩ | h
    · rw [e] at hb; exact hc hb
    · exact hr a j h
theorem Ko.put {M0 M : Mm} {x k c : Nat} (g : Ko M0 M) (h0 : mT M0 c = 0) (hU : UP M0 → mT M c ≠ 0 ∧ (trT (mT M c) → unr M c)) : Ko M0 (sR M x k (some c)) := fun u => by
  obtain ⟨v, tt, rr⟩ := g u
  obtain ⟨c0, cu⟩ := hU u
  refine ⟨⟨fun a j b h => ?_, fun a j a' j' b hb h h' => ?_⟩, tt, fun b hb hr a j h => ?_⟩
  · rcases R_put h with ⟨-, -, e⟩ | h
    · rw [e]; exact c0
    · exact v.1 a j b h
  · rcases R_put h with ⟨e1, e2, e⟩ | h
    · rcases R_put h' with ⟨e3, e4, -⟩ | h'
      · exact ⟨e1.trans e3.symm, e2.trans e4.symm⟩
      · rw [e] at hb h'; exact absurd h' (cu hb a' j')
    · rcases R_put h' with ⟨-, -, e⟩ | h'
      · rw [e] at hb h; exact absurd h (cu hb a j)
      · exact v.2 a j a' j' b hb h h'
  · rcases R_put h with ⟨-, -, e⟩ | h
    · rw [e] at hb; exact absurd h0 hb.n0
    · exact rr b hb hr a j h
theorem Ko.arr {M : Mm} {x k b t n : Nat} (hb : mT M b = 0) (ht : t ≠ 0) : Ko M (sR (sN M b t n) x k (some b)) := (Ko.nw hb).put hb (fun u => ⟨by rw [T_new]; exact ht, fun _ => unr.nw u hb⟩)
def gArr (M : Mm) (b t n : Nat) : Prop := mT M b = t ∧ mN M b = n
def gF (M : Mm) (f : Nat) : Prop := mT M f = 3 ∧ mI M f 0 = 0 ∧ ∃ b, mR M f 1 = some b ∧ gArr M b 20 41
def gRow (M : Mm) (r n : Nat) : Prop := mT M r = 23 ∧ mN M r = n ∧ ∀ j, j < n → ∃ f, mR M r j = some f ∧ gF M f
def gSg (M : Mm) (s : Nat) : Prop := mT M s = 8 ∧ mI M s 2 = 0 ∧ (∃ a, mR M s 0 = some a ∧ gArr M a 20 160) ∧ ∃ b, mR M s 1 = some b ∧ gArr M b 20 160
def gTabs (M : Mm) (r n : Nat) : Prop := mT M r = 24 ∧ mN M r = n ∧ ∀ j, j < n → ∃ t, mR M r j = some t ∧ mT M t = 10
def gSgs (M : Mm) (r n : Nat) : Prop := mT M r = 25 ∧ mN M r = n ∧ ∀ j, j < n → ∃ s, mR M r j = some s ∧ gSg M s
theorem gArr.go {M M1 : Mm} {b t n : Nat} (h : gArr M b t n) (a : Ag M M1 b) : gArr M1 b t n := ⟨a.1.trans h.1, a.2.1.trans h.2⟩
theorem gArr.st {M M1 : Mm} {b t n u : Nat} (h : gArr M b t n) (a : Stt u M M1) (h0 : t ≠ 0) (hu : t ≠ u) : gArr M1 b t n := h.go (a b (by rw [h.1]; exact h0) (by rw [h.1]; exact hu))
theorem gF.go {M M1 : Mm} {f : Nat} (h : gF M f) (a : ∀ a, mT M a = 3 ∨ mT M a = 20 → Ag M M1 a) : gF M1 f := by
  obtain ⟨h1, h2, b, h3, h4⟩ := h
  have e := a f (Or.inl h1)
  exact ⟨e.1.trans h1, by rw [e.2.2.1]; exact h2, b, by rw [e.2.2.2.2]; exact h3, h4.go (a b (Or.inr h4.1))⟩
theorem gF.st {M M1 : Mm} {f u : Nat} (h : gF M f) (a : Stt u M M1) (hu : u ≠ 3 ∧ u ≠ 20) : gF M1 f := h.go (fun b hb => a b (by omega) (by omega))
theorem gRow.go {M M1 : Mm} {r n : Nat} (h : gRow M r n) (a : ∀ a, mT M a = 3 ∨ mT M a = 20 ∨ mT M a = 23 → Ag M M1 a) : gRow M1 r n := by
  obtain ⟨h1, h2, h3⟩ := h
  have e := a r (Or.inr (Or.inr h1))
  refine ⟨e.1.trans h1, e.2.1.trans h2, fun j hj => ?_⟩
  obtain ⟨f, f1, f2⟩ := h3 j hj
  exact ⟨f, by rw [e.2.2.2.2]; exact f1, f2.go (fun b hb => a b (by omega))⟩
theorem gRow.st {M M1 : Mm} {r n u : Nat} (h : gRow M r n) (a : Stt u M M1) (hu : u ≠ 3 ∧ u ≠ 20 ∧ u ≠ 23) : gRow M1 r n := h.go (fun b hb => a b (by omega) (by omega))
theorem gSg.go {M M1 : Mm} {s : Nat} (h : gSg M s) (a : ∀ a, mT M a = 8 ∨ mT M a = 20 → Ag M M1 a) : gSg M1 s := by
  obtain ⟨h1, h2, ⟨b, h3, h4⟩, c, h5, h6⟩ := h
  have e := a s (Or.inl h1)
  exact ⟨e.1.trans h1, by rw [e.2.2.1]; exact h2, ⟨b, by rw [e.2.2.2.2]; exact h3, h4.go (a b (Or.inr h4.1))⟩, c, by rw [e.2.2.2.2]; exact h5, h6.go (a c (Or.inr h6.1))⟩
theorem gSg.st {M M1 : Mm} {s u : Nat} (h : gSg M s) (a : Stt u M M1) (hu : u ≠ 8 ∧ u ≠ 20) : gSg M1 s := h.go (fun b hb => a b (by omega) (by omega))
theorem gTabs.go {M M1 : Mm} {r n : Nat} (h : gTabs M r n) (a : ∀ a, mT M a = 24 ∨ mT M a = 10 → Ag M M1 a) : gTabs M1 r n := by
  obtain ⟨h1, h2, h3⟩ := h
  have e := a r (Or.inl h1)
  refine ⟨e.1.trans h1, e.2.1.trans h2, fun j hj => ?_⟩
  obtain ⟨f, f1, f2⟩ := h3 j hj
  exact ⟨f, by rw [e.2.2.2.2]; exact f1, (a f (Or.inr f2)).1.trans f2⟩
theorem gTabs.st {M M1 : Mm} {r n u : Nat} (h : gTabs M r n) (a : Stt u M M1) (hu : u ≠ 24 ∧ u ≠ 10) : gTabs M1 r n := h.go (fun b hb => a b (by omega) (by omega))
theorem gSgs.go {M M1 : Mm} {r n : Nat} (h : gSgs M r n) (a : ∀ a, mT M a = 25 ∨ mT M a = 8 ∨ mT M a = 20 → Ag M M1 a) : gSgs M1 r n := by
  obtain ⟨h1, h2, h3⟩ := h
  have e := a r (Or.inl h1)
  refine ⟨e.1.trans h1, e.2.1.trans h2, fun j hj => ?_⟩
  obtain ⟨f, f1, f2⟩ := h3 j hj
  exact ⟨f, by rw [e.2.2.2.2]; exact f1, f2.go (fun b hb => a b (by omega))⟩
theorem gSgs.st {M M1 : Mm} {r n u : Nat} (h : gSgs M r n) (a : Stt u M M1) (hu : u ≠ 25 ∧ u ≠ 8 ∧ u ≠ 20) : gSgs M1 r n := h.go (fun b hb => a b (by omega) (by omega))
section Mk
variable {d : Nat} {q : mm_T} {mc ms : Nat} {Post : Po} {V : V_T} {pc pc2 : Nat} {lv : List (Nat × Value)} {r : List Value} {M : Mm} {ck sk : Nat}
/-- what the step 'x.k = a new array b' leaves -/
def Nw (M M1 : Mm) (x k b t n : Nat) : Prop := Ex1 x M M1 ∧ mT M1 x = mT M x ∧ mI M1 x = mI M x ∧ mL M1 x = mL M x ∧ (∀ j, j ≠ k → mR M1 x j = mR M x j) ∧ mR M1 x k = some b ∧ gArr M1 b t n ∧ (∀ j, mI M1 b j = 0) ∧ (∀ j, mL M1 b j = 0) ∧ mT M b = 0
theorem Nw.of {x k b t n : Nat} (hx : mT M x ≠ 0) (hb : mT M b = 0) (ht : t ≠ 0) : Nw M (sR (sN M b t n) x k (some b)) x k b t n := by
  have hne : x ≠ b := fun e => hx (by rw [e, hb])
  have e := ag_new (M := M) (t := t) (n := n) hne
  refine ⟨fun a ha hax => (ag_new (fun e => ha (by rw [e, hb]))).tr (ag_sR hax), e.1, e.2.2.1, e.2.2.2.1, fun j hj => (u2_k hj).trans (congrFun e.2.2.2.2 j), u2_s, ⟨T_new (n := n), N_new (t := t)⟩, fun j => I_new (t := t) (n := n), fun j => L_new (t := t) (n := n), hb⟩
end Mk
end
-- 39.17.init.lean.txt
section
def gHeld (M : Mm) (r n k : Nat) : Prop := mT M r = 26 ∧ mN M r = n ∧ ∀ j, j < n → ∃ a, mR M r j = some a ∧ gArr M a 20 k
theorem gHeld.st {M M1 : Mm} {r n k u : Nat} (h : gHeld M r n k) (a : Stt u M M1) (hu : u ≠ 26 ∧ u ≠ 20) : gHeld M1 r n k := by
  obtain ⟨h1, h2, h3⟩ := h
  have e := a r (by omega) (by omega)
  refine ⟨e.1.trans h1, e.2.1.trans h2, fun j hj => ?_⟩
  obtain ⟨f, f1, f2⟩ := h3 j hj
  exact ⟨f, by rw [e.2.2.2.2]; exact f1, f2.st a (by decide) (by omega)⟩
def gRd (M : Mm) (x : Nat) : Prop := mT M x = 5 ∧ mI M x 1 = 0 ∧ (∃ b, mR M x 0 = some b ∧ gSg M b) ∧ (∃ b, mR M x 2 = some b ∧ gArr M b 20 400)
theorem gRd.st {M M1 : Mm} {x u : Nat} (h : gRd M x) (a : Stt u M M1) (hu : u ≠ 5 ∧ u ≠ 8 ∧ u ≠ 20) : gRd M1 x := by
  obtain ⟨h1, i1, ⟨b0, r0, p0⟩, ⟨b2, r2, p2⟩⟩ := h
  have e := a x (by rw [h1]; decide) (by rw [h1]; omega)
  exact ⟨e.1.trans h1, (congrFun e.2.2.1 1).trans i1, ⟨b0, (congrFun e.2.2.2.2 0).trans r0, p0.st a (by omega)⟩, ⟨b2, (congrFun e.2.2.2.2 2).trans r2, p2.st a (by decide) (by omega)⟩⟩
def gAl (M : Mm) (x : Nat) (st : Nat) : Prop := mT M x = 1 ∧ (∃ b, mR M x 1 = some b ∧ gF M b) ∧ (∃ b, mR M x 2 = some b ∧ gF M b) ∧ mR M x 0 = some st
theorem gAl.st {M M1 : Mm} {x st u : Nat} (h : gAl M x st) (a : Stt u M M1) (hu : u ≠ 1 ∧ u ≠ 3 ∧ u ≠ 20) : gAl M1 x st := by
  obtain ⟨h1, ⟨b1, r1, p1⟩, ⟨b2, r2, p2⟩, r0⟩ := h
  have e := a x (by rw [h1]; decide) (by rw [h1]; omega)
  exact ⟨e.1.trans h1, ⟨b1, (congrFun e.2.2.2.2 1).trans r1, p1.st a (by omega)⟩, ⟨b2, (congrFun e.2.2.2.2 2).trans r2, p2.st a (by omega)⟩, (congrFun e.2.2.2.2 0).trans r0⟩
def gCc (M : Mm) (x : Nat) (al : Nat) : Prop := mT M x = 2 ∧ (∃ b, mR M x 1 = some b ∧ gRow M b 20) ∧ (∃ b, mR M x 2 = some b ∧ gArr M b 20 20) ∧ (∃ b, mR M x 3 = some b ∧ gF M b) ∧ (∃ b, mR M x 4 = some b ∧ gF M b) ∧ mR M x 0 = some al
theorem gCc.st {M M1 : Mm} {x al u : Nat} (h : gCc M x al) (a : Stt u M M1) (hu : u ≠ 2 ∧ u ≠ 3 ∧ u ≠ 20 ∧ u ≠ 23) : gCc M1 x al := by
  obtain ⟨h1, ⟨b1, r1, p1⟩, ⟨b2, r2, p2⟩, ⟨b3, r3, p3⟩, ⟨b4, r4, p4⟩, r0⟩ := h
  have e := a x (by rw [h1]; decide) (by rw [h1]; omega)
  exact ⟨e.1.trans h1, ⟨b1, (congrFun e.2.2.2.2 1).trans r1, p1.st a (by omega)⟩, ⟨b2, (congrFun e.2.2.2.2 2).trans r2, p2.st a (by decide) (by omega)⟩, ⟨b3, (congrFun e.2.2.2.2 3).trans r3, p3.st a (by omega)⟩, ⟨b4, (congrFun e.2.2.2.2 4).trans r4, p4.st a (by omega)⟩, (congrFun e.2.2.2.2 0).trans r0⟩
def gRw (M : Mm) (x : Nat) (al : Nat) (cc : Nat) : Prop := mT M x = 6 ∧ (∃ b, mR M x 2 = some b ∧ gRow M b 12) ∧ (∃ b, mR M x 3 = some b ∧ gHeld M b 8 492) ∧ (∃ b, mR M x 4 = some b ∧ gArr M b 20 8) ∧ (∃ b, mR M x 5 = some b ∧ gArr M b 21 637) ∧ mR M x 0 = some al ∧ mR M x 1 = some cc
theorem gRw.st {M M1 : Mm} {x al cc u : Nat} (h : gRw M x al cc) (a : Stt u M M1) (hu : u ≠ 3 ∧ u ≠ 6 ∧ u ≠ 20 ∧ u ≠ 21 ∧ u ≠ 23 ∧ u ≠ 26) : gRw M1 x al cc := by
  obtain ⟨h1, ⟨b2, r2, p2⟩, ⟨b3, r3, p3⟩, ⟨b4, r4, p4⟩, ⟨b5, r5, p5⟩, r0, r1⟩ := h
  have e := a x (by rw [h1]; decide) (by rw [h1]; omega)
  exact ⟨e.1.trans h1, ⟨b2, (congrFun e.2.2.2.2 2).trans r2, p2.st a (by omega)⟩, ⟨b3, (congrFun e.2.2.2.2 3).trans r3, p3.st a (by omega)⟩, ⟨b4, (congrFun e.2.2.2.2 4).trans r4, p4.st a (by decide) (by omega)⟩, ⟨b5, (congrFun e.2.2.2.2 5).trans r5, p5.st a (by decide) (by omega)⟩, (congrFun e.2.2.2.2 0).trans r0, (congrFun e.2.2.2.2 1).trans r1⟩
def gSe (M : Mm) (x : Nat) (al : Nat) : Prop := mT M x = 7 ∧ (∃ b, mR M x 3 = some b ∧ gArr M b 20 400) ∧ (∃ b, mR M x 4 = some b ∧ gArr M b 20 9) ∧ (∃ b, mR M x 5 = some b ∧ gArr M b 20 400) ∧ (∃ b, mR M x 6 = some b ∧ gArr M b 20 400) ∧ mR M x 2 = some al
theorem gSe.st {M M1 : Mm} {x al u : Nat} (h : gSe M x al) (a : Stt u M M1) (hu : u ≠ 7 ∧ u ≠ 20) : gSe M1 x al := by
  obtain ⟨h1, ⟨b3, r3, p3⟩, ⟨b4, r4, p4⟩, ⟨b5, r5, p5⟩, ⟨b6, r6, p6⟩, r2⟩ := h
  have e := a x (by rw [h1]; decide) (by rw [h1]; omega)
  exact ⟨e.1.trans h1, ⟨b3, (congrFun e.2.2.2.2 3).trans r3, p3.st a (by decide) (by omega)⟩, ⟨b4, (congrFun e.2.2.2.2 4).trans r4, p4.st a (by decide) (by omega)⟩, ⟨b5, (congrFun e.2.2.2.2 5).trans r5, p5.st a (by decide) (by omega)⟩, ⟨b6, (congrFun e.2.2.2.2 6).trans r6, p6.st a (by decide) (by omega)⟩, (congrFun e.2.2.2.2 2).trans r2⟩
def gPo (M : Mm) (x : Nat) (al : Nat) : Prop := mT M x = 4 ∧ (∃ b, mR M x 2 = some b ∧ gArr M b 20 3) ∧ (∃ b, mR M x 3 = some b ∧ gArr M b 20 3) ∧ (∃ b, mR M x 4 = some b ∧ gArr M b 20 9) ∧ (∃ b, mR M x 5 = some b ∧ gArr M b 20 9) ∧ mR M x 1 = some al
theorem gPo.st {M M1 : Mm} {x al u : Nat} (h : gPo M x al) (a : Stt u M M1) (hu : u ≠ 4 ∧ u ≠ 20) : gPo M1 x al := by
  obtain ⟨h1, ⟨b2, r2, p2⟩, ⟨b3, r3, p3⟩, ⟨b4, r4, p4⟩, ⟨b5, r5, p5⟩, r1⟩ := h
  have e := a x (by rw [h1]; decide) (by rw [h1]; omega)
  exact ⟨e.1.trans h1, ⟨b2, (congrFun e.2.2.2.2 2).trans r2, p2.st a (by decide) (by omega)⟩, ⟨b3, (congrFun e.2.2.2.2 3).trans r3, p3.st a (by decide) (by omega)⟩, ⟨b4, (congrFun e.2.2.2.2 4).trans r4, p4.st a (by decide) (by omega)⟩, ⟨b5, (congrFun e.2.2.2.2 5).trans r5, p5.st a (by decide) (by omega)⟩, (congrFun e.2.2.2.2 1).trans r1⟩
def gWh (M : Mm) (x : Nat) : Prop := mT M x = 11 ∧ ∀ j, mL M x j = 0
theorem gWh.st {M M1 : Mm} {x u : Nat} (h : gWh M x) (a : Stt u M M1) (hu : u ≠ 11) : gWh M1 x := by
  obtain ⟨h1, h2⟩ := h
  have e := a x (by rw [h1]; decide) (by rw [h1]; omega)
  exact ⟨e.1.trans h1, fun j => (congrFun e.2.2.2.1 j).trans (h2 j)⟩
def gSt (M : Mm) (x : Nat) : Prop := mT M x = 9 ∧ mI M x 0 = 11 ∧ mI M x 1 = 0 ∧ mI M x 2 = 0 ∧ mI M x 3 = 0 ∧ mI M x 4 = 0 ∧ mI M x 5 = 0 ∧ (∃ b, mR M x 6 = some b ∧ gArr M b 20 40) ∧ (∃ b, mR M x 7 = some b ∧ gRow M b 40) ∧ (∃ b, mR M x 8 = some b ∧ gRow M b 16) ∧ (∃ b, mR M x 9 = some b ∧ gTabs M b 8) ∧ (∃ b, mR M x 10 = some b ∧ gSgs M b 8)
theorem gSt.st {M M1 : Mm} {x u : Nat} (h : gSt M x) (a : Stt u M M1) (hu : u ≠ 3 ∧ u ≠ 8 ∧ u ≠ 9 ∧ u ≠ 10 ∧ u ≠ 20 ∧ u ≠ 23 ∧ u ≠ 24 ∧ u ≠ 25) : gSt M1 x := by
  obtain ⟨h1, i0, i1, i2, i3, i4, i5, ⟨b6, r6, p6⟩, ⟨b7, r7, p7⟩, ⟨b8, r8, p8⟩, ⟨b9, r9, p9⟩, ⟨b10, r10, p10⟩⟩ := h
  have e := a x (by rw [h1]; decide) (by rw [h1]; omega)
  exact ⟨e.1.trans h1, (congrFun e.2.2.1 0).trans i0, (congrFun e.2.2.1 1).trans i1, (congrFun e.2.2.1 2).trans i2, (congrFun e.2.2.1 3).trans i3, (congrFun e.2.2.1 4).trans i4, (congrFun e.2.2.1 5).trans i5, ⟨b6, (congrFun e.2.2.2.2 6).trans r6, p6.st a (by decide) (by omega)⟩, ⟨b7, (congrFun e.2.2.2.2 7).trans r7, p7.st a (by omega)⟩, ⟨b8, (congrFun e.2.2.2.2 8).trans r8, p8.st a (by omega)⟩, ⟨b9, (congrFun e.2.2.2.2 9).trans r9, p9.st a (by omega)⟩, ⟨b10, (congrFun e.2.2.2.2 10).trans r10, p10.st a (by omega)⟩⟩
section Mk2
variable {d : Nat} {q : mm_T} {mc ms : Nat} {Post : Po} {V : V_T} {pc pc2 : Nat} {lv : List (Nat × Value)} {r : List Value} {M : Mm} {ck sk : Nat}
end Mk2
end
-- 39.18.init.lean.txt
section

end
-- 39.19.init.lean.txt
section
def gArrZ (M : Mm) (b t n : Nat) : Prop := gArr M b t n ∧ ∀ j, mI M b j = 0
theorem gArrZ.st {M M1 : Mm} {b t n u : Nat} (h : gArrZ M b t n) (a : Stt u M M1) (h0 : t ≠ 0) (hu : t ≠ u) : gArrZ M1 b t n := ⟨h.1.st a h0 hu, fun j => (congrFun (a b (by rw [h.1.1]; exact h0) (by rw [h.1.1]; exact hu)).2.2.1 j).trans (h.2 j)⟩
end
-- 39.20.cls.lean.txt
section
/-! the class on a new object: what throws, and small calls -/
end
-- 39.22.cls.lean.txt
section
/-! the class: numbers, tables, tests of numbers -/
def dt (p a b c d : Int) : Int := ((a % p) * (d % p) - (b % p) * (c % p)) % p
end
-- 39.23.cls.lean.txt
section
/-! the class: the tape, drawn forms -/
end
-- 39.24.cls.lean.txt
section
/-! the class: an empty text, the image, the stock -/
end
-- 39.25.cls.lean.txt
section
/-! the class: span and basis without signs -/
end
-- 39.26.cnt.lean.txt
section
/-! COUNT -/
/-! COUNT: how many ways, as the loops count them -/
end
-- 39.27.cnt.lean.txt
section
/-! COUNT in the reference -/
end
