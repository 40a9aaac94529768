-- 39.16.init.lean.txt
section
/-! what the constructors leave -/
def Ag (M M' : Mm) (a : Nat) : Prop := mT M' a = mT M a ∧ mN M' a = mN M a ∧ mI M' a = mI M a ∧ mL M' a = mL M a ∧ mR M' a = mR M a
theorem Ag.rf {M : Mm} {a : Nat} : Ag M M a := ⟨rfl, rfl, rfl, rfl, rfl⟩
theorem Ag.tr {M M1 M2 : Mm} {a : Nat} (h : Ag M M1 a) (g : Ag M1 M2 a) : Ag M M2 a := ⟨g.1.trans h.1, g.2.1.trans h.2.1, g.2.2.1.trans h.2.2.1, g.2.2.2.1.trans h.2.2.2.1, g.2.2.2.2.trans h.2.2.2.2⟩
/-- all that was there is as it was -/
def Ext (M M' : Mm) : Prop := ∀ a, mT M a ≠ 0 → Ag M M' a
/-- all but x -/
def Ex1 (x : Nat) (M M' : Mm) : Prop := ∀ a, mT M a ≠ 0 → a ≠ x → Ag M M' a
/-- all but what has tag t -/
def Stt (t : Nat) (M M' : Mm) : Prop := ∀ a, mT M a ≠ 0 → mT M a ≠ t → Ag M M' a
theorem Ext.rf {M : Mm} : Ext M M := fun _ _ => Ag.rf
theorem Ext.tr {M M1 M2 : Mm} (h : Ext M M1) (g : Ext M1 M2) : Ext M M2 := fun a ha => (h a ha).tr (g a (by rw [(h a ha).1]; exact ha))
theorem Ex1.rf {x : Nat} {M : Mm} : Ex1 x M M := fun _ _ _ => Ag.rf
theorem Ex1.tr {x : Nat} {M M1 M2 : Mm} (h : Ex1 x M M1) (g : Ex1 x M1 M2) : Ex1 x M M2 := fun a ha hx => (h a ha hx).tr (g a (by rw [(h a ha hx).1]; exact ha) hx)
theorem Ext.to1 {x : Nat} {M M1 : Mm} (h : Ext M M1) : Ex1 x M M1 := fun a ha _ => h a ha
theorem Ext.st {t : Nat} {M M1 : Mm} (h : Ext M M1) : Stt t M M1 := fun a ha _ => h a ha
theorem Ex1.st {x t : Nat} {M M1 : Mm} (h : Ex1 x M M1) (hx : mT M x = t) : Stt t M M1 := fun a ha ht => h a ha (fun e => ht (by rw [e]; exact hx))
theorem ag_new {M : Mm} {b t n a : Nat} (h : a ≠ b) : Ag M (sN M b t n) a := by
  refine ⟨?_, ?_, ?_, ?_, ?_⟩ <;> simp [sN, u1, h, mT, mN, mI, mL, mR]
theorem ag_sR {M : Mm} {b k a : Nat} {x : Option Nat} (h : a ≠ b) : Ag M (sR M b k x) a := ⟨rfl, rfl, rfl, rfl, u2_r h⟩
theorem ag_sI {M : Mm} {b k a : Nat} {x : Int32} (h : a ≠ b) : Ag M (sI M b k x) a := ⟨rfl, rfl, u2_r h, rfl, rfl⟩
theorem ne0 {M : Mm} {a b t : Nat} (ha : mT M a = t) (ht : t ≠ 0) (hb : mT M b = 0) : a ≠ b := fun e => ht (by rw [← ha, e, hb])
theorem Ext.new {M M1 : Mm} {b t n : Nat} (h : Ext M M1) (hb : mT M1 b = 0) : Ext M (sN M1 b t n) := fun a ha => (h a ha).tr (ag_new (fun e => ha (by rw [← (h a ha).1, e, hb])))
theorem Ext.e1 {M M1 M2 : Mm} {b : Nat} (h : Ext M M1) (g : Ex1 b M1 M2) (hb : mT M b = 0) : Ext M M2 := fun a ha => (h a ha).tr (g a (by rw [(h a ha).1]; exact ha) (fun e => ha (by rw [e, hb])))
theorem Ext.sR {M M1 : Mm} {r k : Nat} {x : Option Nat} (h : Ext M M1) (hr : mT M r = 0) : Ext M (sR M1 r k x) := fun a ha => (h a ha).tr (ag_sR (fun e => ha (by rw [e, hr])))
theorem Ext.sI {M M1 : Mm} {r k : Nat} {x : Int32} (h : Ext M M1) (hr : mT M r = 0) : Ext M (sI M1 r k x) := fun a ha => (h a ha).tr (ag_sI (fun e => ha (by rw [e, hr])))
theorem T_new {M : Mm} {b t n : Nat} : mT (sN M b t n) b = t := by simp [sN, u1, mT]
theorem N_new {M : Mm} {b t n : Nat} : mN (sN M b t n) b = n := by simp [sN, u1, mN]
theorem I_new {M : Mm} {b t n k : Nat} : mI (sN M b t n) b k = 0 := by simp [sN, u1, mI]
theorem L_new {M : Mm} {b t n k : Nat} : mL (sN M b t n) b k = 0 := by simp [sN, u1, mL]
theorem T_old {M : Mm} {a b t n : Nat} (h : a ≠ b) : mT (sN M b t n) a = mT M a := (ag_new h).1
/-! who holds whom: a Form, Signs, a Table, an array is held by one cell alone -/
def trT (t : Nat) : Prop := t = 3 ∨ t = 8 ∨ t = 10 ∨ 20 ≤ t
theorem trT.n0 {t : Nat} (h : trT t) : t ≠ 0 := by unfold trT at h; omega
def unr (M : Mm) (b : Nat) : Prop := ∀ a k, mR M a k ≠ some b
def UP (M : Mm) : Prop := (∀ a k b, mR M a k = some b → mT M b ≠ 0) ∧ ∀ a k a' k' b, trT (mT M b) → mR M a k = some b → mR M a' k' = some b → a = a' ∧ k = k'
def Ko (M M1 : Mm) : Prop := UP M → UP M1 ∧ (∀ a, mT M a ≠ 0 → mT M1 a = mT M a) ∧ ∀ b, trT (mT M b) → unr M b → unr M1 b
theorem Ko.rf {M : Mm} : Ko M M := fun h => ⟨h, fun _ _ => rfl, fun _ _ h => h⟩
theorem Ko.tr {M M1 M2 : Mm} (h : Ko M M1) (g : Ko M1 M2) : Ko M M2 := fun u => by
  obtain ⟨v1, t1, r1⟩ := h u
  obtain ⟨v2, t2, r2⟩ := g v1
  exact ⟨v2, fun a ha => (t2 a (by rw [t1 a ha]; exact ha)).trans (t1 a ha), fun b hb hr => r2 b (by rw [t1 b hb.n0]; exact hb) (r1 b hb hr)⟩
theorem R_new {M : Mm} {a b t n k c : Nat} (h : mR (sN M b t n) a k = some c) : mR M a k = some c := by
  by_cases e : a = b
  · subst e; simp [sN, u1, mR] at h
  · exact (congrFun (ag_new (M := M) (t := t) (n := n) e).2.2.2.2 k).symm.trans h
theorem Ko.nw {M : Mm} {b t n : Nat} (hb : mT M b = 0) : Ko M (sN M b t n) := fun u => by
  have tt : ∀ c, mT M c ≠ 0 → mT (sN M b t n) c = mT M c := fun c hc => T_old (fun e => hc (by rw [e, hb]))
  refine ⟨⟨fun a k c h => ?_, fun a k a' k' c hc h h' => ?_⟩, tt, fun c _ hr a k h => hr a k (R_new h)⟩
  · have q := u.1 a k c (R_new h)
    rw [tt c q]; exact q
  · have h := R_new h
    rw [tt c (u.1 a k c h)] at hc
    exact u.2 a k a' k' c hc h (R_new h')
theorem unr.nw {M : Mm} {b t n : Nat} (u : UP M) (hb : mT M b = 0) : unr (sN M b t n) b := fun a k h => u.1 a k b (R_new h) hb
theorem Ko.iI {M : Mm} {b k : Nat} {x : Int32} : Ko M (sI M b k x) := fun u => ⟨u, fun _ _ => rfl, fun _ _ h => h⟩
theorem R_put {M : Mm} {x k c a j b : Nat} (h : mR (sR M x k (some c)) a j = some b) : (a = x ∧ j = k ∧ b = c) ∨ mR M a j = some b := by
  have h : (if a = x ∧ j = k then some c else mR M a j) = some b := h
  by_cases e : a = x ∧ j = k
  · rw [if_pos e] at h; exact Or.inl ⟨e.1, e.2, (Option.some.inj h).symm⟩
  · rw [if_neg e] at h; exact Or.inr h
theorem Ko.pt {M : Mm} {x k c : Nat} (hc : ¬ trT (mT M c)) (h0 : mT M c ≠ 0) : Ko M (sR M x k (some c)) := fun u => by
  refine ⟨⟨fun a j b h => ?_, fun a j a' j' b hb h h' => ?_⟩, fun _ _ => rfl, fun b hb hr a j h => ?_⟩
  · rcases R_put h with ⟨-, -, e⟩ | h
    · rw [e]; exact h0
    · exact u.1 a j b h
  · rcases R_put h with ⟨-, -, e⟩ | h
    · rw [e] at hb; exact absurd hb hc
    · rcases R_put h' with ⟨-, -, e⟩ | h'
      · rw [e] at hb; exact absurd hb hc
      · exact u.2 a j a' j' b hb h h'
  · rcases R_put h with ⟨-, -, e⟩ | h
    · rw [e] at hb; exact hc hb
    · exact hr a j h
theorem Ko.par {M0 M : Mm} {x k c t : Nat} (g : Ko M0 M) (hc : mT M0 c = t) (ht : ¬ trT t) (h0 : t ≠ 0) : Ko M0 (sR M x k (some c)) := fun u => by
  have e : mT M c = t := ((g u).2.1 c (by rw [hc]; exact h0)).trans hc
  exact g.tr (Ko.pt (by rw [e]; exact ht) (by rw [e]; exact h0)) u
theorem Ko.put {M0 M : Mm} {x k c : Nat} (g : Ko M0 M) (h0 : mT M0 c = 0) (hU : UP M0 → mT M c ≠ 0 ∧ (trT (mT M c) → unr M c)) : Ko M0 (sR M x k (some c)) := fun u => by
  obtain ⟨v, tt, rr⟩ := g u
  obtain ⟨c0, cu⟩ := hU u
  refine ⟨⟨fun a j b h => ?_, fun a j a' j' b hb h h' => ?_⟩, tt, fun b hb hr a j h => ?_⟩
  · rcases R_put h with ⟨-, -, e⟩ | h
    · rw [e]; exact c0
    · exact v.1 a j b h
  · rcases R_put h with ⟨e1, e2, e⟩ | h
    · rcases R_put h' with ⟨e3, e4, -⟩ | h'
      · exact ⟨e1.trans e3.symm, e2.trans e4.symm⟩
      · rw [e] at hb h'; exact absurd h' (cu hb a' j')
    · rcases R_put h' with ⟨-, -, e⟩ | h'
      · rw [e] at hb h; exact absurd h (cu hb a j)
      · exact v.2 a j a' j' b hb h h'
  · rcases R_put h with ⟨-, -, e⟩ | h
    · rw [e] at hb; exact absurd h0 hb.n0
    · exact rr b hb hr a j h
theorem Ko.obj {M M1 M2 : Mm} {x k b : Nat} (h : Ko M M1) (hu : UP M → unr M1 b) (h0 : mT M b = 0) (hT : mT M1 b ≠ 0) (g : Ko M1 M2) : Ko M (sR M2 x k (some b)) :=
  (h.tr g).put h0 (fun u => by
    obtain ⟨v, tt, -⟩ := h u
    obtain ⟨-, t2, r2⟩ := g v
    exact ⟨by rw [t2 b hT]; exact hT, fun q => r2 b (by rw [t2 b hT] at q; exact q) (hu u)⟩)
theorem Ko.arr {M : Mm} {x k b t n : Nat} (hb : mT M b = 0) (ht : t ≠ 0) : Ko M (sR (sN M b t n) x k (some b)) := (Ko.nw hb).put hb (fun u => ⟨by rw [T_new]; exact ht, fun _ => unr.nw u hb⟩)
theorem Ko.mna {M : Mm} {x k b n w : Nat} (hb : ∀ c, b ≤ c → mT M c = 0) : Ko M (sR (sMN M b n w) x k (some b)) := fun u => by
  have lt : ∀ c, mT M c ≠ 0 → c < b := fun c hc => Nat.lt_of_not_le (fun h => hc (hb c h))
  have tt : ∀ c, mT M c ≠ 0 → mT (sMN M b n w) c = mT M c := fun c hc => by
    have := lt c hc
    show (if c = b then 26 else if b < c ∧ c ≤ b + n then 20 else mT M c) = mT M c
    rw [if_neg (by omega), if_neg (by omega)]
  have cl : ∀ a j c, mR (sMN M b n w) a j = some c → (a = b ∧ j < n ∧ c = b + 1 + j) ∨ mR M a j = some c := fun a j c h => by
    have h : (if a = b then (if j < n then some (b + 1 + j) else none) else if b < a ∧ a ≤ b + n then none else mR M a j) = some c := h
    by_cases e : a = b
    · rw [if_pos e] at h
      by_cases e2 : j < n
      · rw [if_pos e2] at h; exact Or.inl ⟨e, e2, (Option.some.inj h).symm⟩
      · rw [if_neg e2] at h; cases h
    · rw [if_neg e] at h
      by_cases e2 : b < a ∧ a ≤ b + n
      · rw [if_pos e2] at h; cases h
      · rw [if_neg e2] at h; exact Or.inr h
  have all : ∀ a j c, mR (sR (sMN M b n w) x k (some b)) a j = some c → (a = x ∧ j = k ∧ c = b) ∨ (a = b ∧ j < n ∧ c = b + 1 + j) ∨ (c < b ∧ mR M a j = some c) := fun a j c h => by
    rcases R_put h with h | h
    · exact Or.inl h
    · rcases cl a j c h with h | h
      · exact Or.inr (Or.inl h)
      · exact Or.inr (Or.inr ⟨lt c (u.1 a j c h), h⟩)
  refine ⟨⟨fun a j c h => ?_, fun a j a' j' c hc h h' => ?_⟩, tt, fun c hc hr a j h => ?_⟩
  · show mT (sMN M b n w) c ≠ 0
    rcases all a j c h with ⟨-, -, e⟩ | ⟨-, hj, e⟩ | ⟨-, h⟩
    · rw [e]; show (if b = b then 26 else if b < b ∧ b ≤ b + n then 20 else mT M b) ≠ 0
      rw [if_pos rfl]; decide
    · rw [e]; show (if b + 1 + j = b then 26 else if b < b + 1 + j ∧ b + 1 + j ≤ b + n then 20 else mT M (b + 1 + j)) ≠ 0
      rw [if_neg (by omega), if_pos (by omega)]; decide
    · have q := u.1 a j c h
      rw [tt c q]; exact q
  · rcases all a j c h with ⟨e1, e2, e⟩ | ⟨e1, e2, e⟩ | ⟨e, h⟩
    · rcases all a' j' c h' with ⟨d1, d2, d⟩ | ⟨d1, d2, d⟩ | ⟨d, h'⟩
      · exact ⟨e1.trans d1.symm, e2.trans d2.symm⟩
      · exfalso; omega
      · exfalso; omega
    · rcases all a' j' c h' with ⟨d1, d2, d⟩ | ⟨d1, d2, d⟩ | ⟨d, h'⟩
      · exfalso; omega
      · exact ⟨e1.trans d1.symm, by omega⟩
      · exfalso; omega
    · rcases all a' j' c h' with ⟨d1, d2, d⟩ | ⟨d1, d2, d⟩ | ⟨d, h'⟩
      · exfalso; omega
      · exfalso; omega
      · have hc2 : trT (mT (sMN M b n w) c) := hc
        rw [tt c (u.1 a j c h)] at hc2
        exact u.2 a j a' j' c hc2 h h'
  · rcases all a j c h with ⟨-, -, e⟩ | ⟨-, -, e⟩ | ⟨-, h⟩
    · have := lt c hc.n0; omega
    · have := lt c hc.n0; omega
    · exact hr a j h
def gArr (M : Mm) (b t n : Nat) : Prop := mT M b = t ∧ mN M b = n
def gF (M : Mm) (f : Nat) : Prop := mT M f = 3 ∧ mI M f 0 = 0 ∧ ∃ b, mR M f 1 = some b ∧ gArr M b 20 41
def gRow (M : Mm) (r n : Nat) : Prop := mT M r = 23 ∧ mN M r = n ∧ ∀ j, j < n → ∃ f, mR M r j = some f ∧ gF M f
def gSg (M : Mm) (s : Nat) : Prop := mT M s = 8 ∧ mI M s 2 = 0 ∧ (∃ a, mR M s 0 = some a ∧ gArr M a 20 160) ∧ ∃ b, mR M s 1 = some b ∧ gArr M b 20 160
def gTabs (M : Mm) (r n : Nat) : Prop := mT M r = 24 ∧ mN M r = n ∧ ∀ j, j < n → ∃ t, mR M r j = some t ∧ mT M t = 10
def gSgs (M : Mm) (r n : Nat) : Prop := mT M r = 25 ∧ mN M r = n ∧ ∀ j, j < n → ∃ s, mR M r j = some s ∧ gSg M s
theorem gArr.go {M M1 : Mm} {b t n : Nat} (h : gArr M b t n) (a : Ag M M1 b) : gArr M1 b t n := ⟨a.1.trans h.1, a.2.1.trans h.2⟩
theorem gArr.st {M M1 : Mm} {b t n u : Nat} (h : gArr M b t n) (a : Stt u M M1) (h0 : t ≠ 0) (hu : t ≠ u) : gArr M1 b t n := h.go (a b (by rw [h.1]; exact h0) (by rw [h.1]; exact hu))
theorem gF.go {M M1 : Mm} {f : Nat} (h : gF M f) (a : ∀ a, mT M a = 3 ∨ mT M a = 20 → Ag M M1 a) : gF M1 f := by
  obtain ⟨h1, h2, b, h3, h4⟩ := h
  have e := a f (Or.inl h1)
  exact ⟨e.1.trans h1, by rw [e.2.2.1]; exact h2, b, by rw [e.2.2.2.2]; exact h3, h4.go (a b (Or.inr h4.1))⟩
theorem gF.st {M M1 : Mm} {f u : Nat} (h : gF M f) (a : Stt u M M1) (hu : u ≠ 3 ∧ u ≠ 20) : gF M1 f := h.go (fun b hb => a b (by omega) (by omega))
theorem gRow.go {M M1 : Mm} {r n : Nat} (h : gRow M r n) (a : ∀ a, mT M a = 3 ∨ mT M a = 20 ∨ mT M a = 23 → Ag M M1 a) : gRow M1 r n := by
  obtain ⟨h1, h2, h3⟩ := h
  have e := a r (Or.inr (Or.inr h1))
  refine ⟨e.1.trans h1, e.2.1.trans h2, fun j hj => ?_⟩
  obtain ⟨f, f1, f2⟩ := h3 j hj
  exact ⟨f, by rw [e.2.2.2.2]; exact f1, f2.go (fun b hb => a b (by omega))⟩
theorem gRow.st {M M1 : Mm} {r n u : Nat} (h : gRow M r n) (a : Stt u M M1) (hu : u ≠ 3 ∧ u ≠ 20 ∧ u ≠ 23) : gRow M1 r n := h.go (fun b hb => a b (by omega) (by omega))
theorem gSg.go {M M1 : Mm} {s : Nat} (h : gSg M s) (a : ∀ a, mT M a = 8 ∨ mT M a = 20 → Ag M M1 a) : gSg M1 s := by
  obtain ⟨h1, h2, ⟨b, h3, h4⟩, c, h5, h6⟩ := h
  have e := a s (Or.inl h1)
  exact ⟨e.1.trans h1, by rw [e.2.2.1]; exact h2, ⟨b, by rw [e.2.2.2.2]; exact h3, h4.go (a b (Or.inr h4.1))⟩, c, by rw [e.2.2.2.2]; exact h5, h6.go (a c (Or.inr h6.1))⟩
theorem gSg.st {M M1 : Mm} {s u : Nat} (h : gSg M s) (a : Stt u M M1) (hu : u ≠ 8 ∧ u ≠ 20) : gSg M1 s := h.go (fun b hb => a b (by omega) (by omega))
theorem gTabs.go {M M1 : Mm} {r n : Nat} (h : gTabs M r n) (a : ∀ a, mT M a = 24 ∨ mT M a = 10 → Ag M M1 a) : gTabs M1 r n := by
  obtain ⟨h1, h2, h3⟩ := h
  have e := a r (Or.inl h1)
  refine ⟨e.1.trans h1, e.2.1.trans h2, fun j hj => ?_⟩
  obtain ⟨f, f1, f2⟩ := h3 j hj
  exact ⟨f, by rw [e.2.2.2.2]; exact f1, (a f (Or.inr f2)).1.trans f2⟩
theorem gTabs.st {M M1 : Mm} {r n u : Nat} (h : gTabs M r n) (a : Stt u M M1) (hu : u ≠ 24 ∧ u ≠ 10) : gTabs M1 r n := h.go (fun b hb => a b (by omega) (by omega))
theorem gSgs.go {M M1 : Mm} {r n : Nat} (h : gSgs M r n) (a : ∀ a, mT M a = 25 ∨ mT M a = 8 ∨ mT M a = 20 → Ag M M1 a) : gSgs M1 r n := by
  obtain ⟨h1, h2, h3⟩ := h
  have e := a r (Or.inl h1)
  refine ⟨e.1.trans h1, e.2.1.trans h2, fun j hj => ?_⟩
  obtain ⟨f, f1, f2⟩ := h3 j hj
  exact ⟨f, by rw [e.2.2.2.2]; exact f1, f2.go (fun b hb => a b (by omega))⟩
theorem gSgs.st {M M1 : Mm} {r n u : Nat} (h : gSgs M r n) (a : Stt u M M1) (hu : u ≠ 25 ∧ u ≠ 8 ∧ u ≠ 20) : gSgs M1 r n := h.go (fun b hb => a b (by omega) (by omega))
def pC (Q : Mm → Prop) : Po := fun o M => o = .inl none ∧ Q M
section Mk
variable {d : Nat} {q : mm_T} {mc ms : Nat} {Post : Po} {V : V_T} {pc pc2 : Nat} {lv : List (Nat × Value)} {r : List Value} {M : Mm} {ck sk : Nat}
/-- what the step 'x.k = a new array b' leaves -/
def Nw (M M1 : Mm) (x k b t n : Nat) : Prop := Ex1 x M M1 ∧ mT M1 x = mT M x ∧ mI M1 x = mI M x ∧ mL M1 x = mL M x ∧ (∀ j, j ≠ k → mR M1 x j = mR M x j) ∧ mR M1 x k = some b ∧ gArr M1 b t n ∧ (∀ j, mI M1 b j = 0) ∧ (∀ j, mL M1 b j = 0) ∧ mT M b = 0
theorem Nw.of {x k b t n : Nat} (hx : mT M x ≠ 0) (hb : mT M b = 0) (ht : t ≠ 0) : Nw M (sR (sN M b t n) x k (some b)) x k b t n := by
  have hne : x ≠ b := fun e => hx (by rw [e, hb])
  have e := ag_new (M := M) (t := t) (n := n) hne
  refine ⟨fun a ha hax => (ag_new (fun e => ha (by rw [e, hb]))).tr (ag_sR hax), e.1, e.2.2.1, e.2.2.2.1, fun j hj => (u2_k hj).trans (congrFun e.2.2.2.2 j), u2_s, ⟨T_new (n := n), N_new (t := t)⟩, fun j => I_new (t := t) (n := n), fun j => L_new (t := t) (n := n), hb⟩
theorem iu_arr (C : Cl d q mc ms Post V) {t : ArrayType} {tt n x ci k j ck2 sk2 : Nat} {z : Int32} (hi : cdf q.2.2.2.2.2.2 pc = some (.newarray t, 2)) (hi2 : cdf q.2.2.2.2.2.2 (pc + 2) = some (.putfield j, 3)) (hp : pc + 5 = pc2) (ht : t = .int ∧ tt = 0 ∨ t = .long ∧ tt = 1 ∨ t = .byte ∧ tt = 2) (h0 : ¬ z < 0) (hn : z.toNatClampNeg = n) (hz : n ≤ 10000) (e1 : ck + 1 = ck2) (e2 : sk + n = sk2) (h1 : ck2 ≤ mc) (h2 : sk2 ≤ ms)
    (hf : P_fl q.2.2.2.2.1 j = some (ci, k)) (hx : mT M x = ci + 1) (hnm : q.1.name = "<init>" ∧ q.2.2.2.2.1 = ci) (hy : kt (P_ty ci k) = 2)
    (h : ∀ b M1, Nw M M1 x k b (20 + tt) n → Ko M M1 → V pc2 lv r M1 ck2 sk2) : V pc lv (.int z :: .ref x :: r) M ck sk := by
  subst e1; subst e2
  refine k_newarr C hi rfl ht h0 hn hz h1 h2 (fun b hb => ?_)
  refine k_putR C hi2 hp hf ((T_old (ne0 hx (by omega) hb)).trans hx) (Or.inl hnm) hy ?_
  exact h b _ (Nw.of (by rw [hx]; omega) hb (by omega)) (Ko.arr hb (by omega))
theorem iu_arrA (C : Cl d q mc ms Post V) {tt n x ci ca k j i9 ck2 sk2 : Nat} {z : Int32} (hi : cdf q.2.2.2.2.2.2 pc = some (.anewarray i9, 3)) (hi2 : cdf q.2.2.2.2.2.2 (pc + 3) = some (.putfield j, 3)) (hp : pc + 6 = pc2) (hn9 : P_nw q.2.2.2.2.1 i9 = some ca) (ht : tt = 3 ∧ ca = 2 ∨ tt = 4 ∧ ca = 9 ∨ tt = 5 ∧ ca = 7) (h0 : ¬ z < 0) (hn : z.toNatClampNeg = n) (hz : n ≤ 10000) (e1 : ck + 1 = ck2) (e2 : sk + n = sk2) (h1 : ck2 ≤ mc) (h2 : sk2 ≤ ms)
    (hf : P_fl q.2.2.2.2.1 j = some (ci, k)) (hx : mT M x = ci + 1) (hnm : q.1.name = "<init>" ∧ q.2.2.2.2.1 = ci) (hy : kt (P_ty ci k) = 2)
    (h : ∀ b M1, Nw M M1 x k b (20 + tt) n → Ko M M1 → V pc2 lv r M1 ck2 sk2) : V pc lv (.int z :: .ref x :: r) M ck sk := by
  subst e1; subst e2
  refine k_anew C hi rfl hn9 ht h0 hn hz h1 h2 (fun b hb => ?_)
  refine k_putR C hi2 hp hf ((T_old (ne0 hx (by omega) hb)).trans hx) (Or.inl hnm) hy ?_
  exact h b _ (Nw.of (by rw [hx]; omega) hb (by omega)) (Ko.arr hb (by omega))
/-- x.k = an object that is there -/
def Pt (M M1 : Mm) (x k b : Nat) : Prop := Ex1 x M M1 ∧ mT M1 x = mT M x ∧ mI M1 x = mI M x ∧ mL M1 x = mL M x ∧ (∀ j, j ≠ k → mR M1 x j = mR M x j) ∧ mR M1 x k = some b
theorem iu_put (C : Cl d q mc ms Post V) {x ci k j b : Nat} (hi : cdf q.2.2.2.2.2.2 pc = some (.putfield j, 3)) (hp : pc + 3 = pc2) (hf : P_fl q.2.2.2.2.1 j = some (ci, k)) (hx : mT M x = ci + 1) (hnm : q.1.name = "<init>" ∧ q.2.2.2.2.1 = ci) (hy : kt (P_ty ci k) = 2)
    (h : ∀ M1, Pt M M1 x k b → M1 = sR M x k (some b) → V pc2 lv r M1 ck sk) : V pc lv (.ref b :: .ref x :: r) M ck sk :=
  k_putR C hi hp hf hx (Or.inl hnm) hy (h _ ⟨fun a _ hax => ag_sR hax, rfl, rfl, rfl, fun j hj => u2_k hj, u2_s⟩ rfl)
def Pi (M M1 : Mm) (x k : Nat) (v : Int32) : Prop := Ex1 x M M1 ∧ mT M1 x = mT M x ∧ mR M1 x = mR M x ∧ mL M1 x = mL M x ∧ (∀ j, j ≠ k → mI M1 x j = mI M x j) ∧ mI M1 x k = v
theorem iu_putI (C : Cl d q mc ms Post V) {x ci k j : Nat} {v : Int32} (hi : cdf q.2.2.2.2.2.2 pc = some (.putfield j, 3)) (hp : pc + 3 = pc2) (hf : P_fl q.2.2.2.2.1 j = some (ci, k)) (hx : mT M x = ci + 1) (hn : q.1.name = "<init>" ∧ q.2.2.2.2.1 = ci ∨ ((vwCl[ci]?).map (fun r => (r.2.1 k).2.2.2)) = some false) (hy : P_ty ci k = .int)
    (h : ∀ M1, Pi M M1 x k v → Ko M M1 → V pc2 lv r M1 ck sk) : V pc lv (.int v :: .ref x :: r) M ck sk :=
  k_putI C hi hp hf hx hn hy (h _ ⟨fun a _ hax => ag_sI hax, rfl, rfl, rfl, fun j hj => u2_k hj, u2_s⟩ Ko.iI)
theorem iu_new (C : Cl d q mc ms Post V) {j ci n ck2 sk2 : Nat} (hi : cdf q.2.2.2.2.2.2 pc = some (.new j, 3)) (hp : pc + 3 = pc2) (hn : P_nw q.2.2.2.2.1 j = some ci) (hz : P_sz ci = n) (e1 : ck + 1 = ck2) (e2 : sk + n = sk2) (h1 : ck2 ≤ mc) (h2 : sk2 ≤ ms)
    (h : ∀ b M1, mT M b = 0 → Ext M M1 → mT M1 b = ci + 1 → (∀ j, mI M1 b j = 0) → (∀ j, mL M1 b j = 0) → Ko M M1 ∧ (UP M → unr M1 b) → V pc2 lv (.ref b :: r) M1 ck2 sk2) : V pc lv r M ck sk := by
  subst e1; subst e2
  exact k_new C hi hp hn hz h1 h2 (fun b hb => h b _ hb (Ext.rf.new hb) T_new (fun j => I_new) (fun j => L_new) ⟨Ko.nw hb, fun u => unr.nw u hb⟩)
theorem i_call (C : Cl d q mc ms Post V) {j k na b : Nat} {as st9 : List Value} {mc' ms' ck2 sk2 : Nat} {Q : Mm → Prop} (hE : Ex d k (.ref b :: as) M mc' ms' (pC Q)) (hi : cdf q.2.2.2.2.2.2 pc = some (.invokespecial j, 3)) (hp : pc + 3 = pc2) (hm : P_mt q.2.2.2.2.1 j = some (2, k, na)) (hs : st9 = as.reverse ++ .ref b :: r) (hl : as.length = na) (hy : ∃ y, P_mq k = some y ∧ y.2.2.2.2.2.1 = [] ∧ y.2.2.2.1 = none) (h1 : ck + mc' = ck2) (h2 : sk + ms' = sk2) (h3 : ck2 ≤ mc) (h4 : sk2 ≤ ms) (hc : (r.map fun v => v.category).sum ≤ 8) (h : ∀ M1, Q M1 → V pc2 lv r M1 ck2 sk2) : V pc lv st9 M ck sk := k_callI C hi hp hm hs hl hy hE h1 h2 h3 h4 hc (fun v M1 h9 => by obtain ⟨e1, e2⟩ := h9; cases e1; exact h M1 e2) (fun e M1 h9 => by cases h9.1)
theorem i_obj (C : Cl d q mc ms Post V) {j a : Nat} (hi : cdf q.2.2.2.2.2.2 pc = some (.invokespecial j, 3)) (hp : pc + 3 = pc2) (ho : P_oi q.2.2.2.2.1 j = true) (hc : (r.map fun v => v.category).sum ≤ 8) (h : V pc2 lv r M ck sk) : V pc lv (.ref a :: r) M ck sk := k_objinit C hi hp ho hc h
theorem i_getR (C : Cl d q mc ms Post V) {j a ci k b : Nat} (hi : cdf q.2.2.2.2.2.2 pc = some (.getfield j, 3)) (hp : pc + 3 = pc2) (hf : P_fl q.2.2.2.2.1 j = some (ci, k)) (ht : mT M a = ci + 1) (hk : kt (P_ty ci k) = 2) (hv : mR M a k = some b) (h : V pc2 lv (.ref b :: r) M ck sk) : V pc lv (.ref a :: r) M ck sk := k_get C hi hp hf ht (by rw [hk]; show va_rf (mR M a k) = _; rw [hv]; rfl) h
end Mk
theorem i_Form {d : Nat} {M : Mm} {f : Nat} (hT : mT M f = 3) (h0 : mI M f 0 = 0) : Ex (d + 1) 0 [.ref f] M 1 41 (pC fun M1 => Ko M M1 ∧ Ex1 f M M1 ∧ gF M1 f) := by
  refine ⟨_, rfl, Nat.le_of_ble_eq_true rfl, fun V C S => ?_⟩
  show V 0 [(0, .ref f)] [] M 0 0
  refine k_aload_n C rfl rfl rfl ?_
  refine i_obj C rfl rfl rfl (Nat.le_of_ble_eq_true rfl) ?_
  refine k_aload_n C rfl rfl rfl ?_
  refine k_bipush C (x := 41) rfl rfl rfl ?_
  refine iu_arr C (tt := 0) (n := 41) rfl rfl rfl (Or.inl ⟨rfl, rfl⟩) (by decide) (by decide) (Nat.le_of_ble_eq_true rfl) rfl rfl (Nat.le_of_ble_eq_true rfl) (Nat.le_of_ble_eq_true rfl) rfl hT ⟨rfl, rfl⟩ rfl (fun b M1 h hK => ?_)
  obtain ⟨e1, e2, e3, e4, e5, e6, e7, -⟩ := h
  exact k_vret C rfl rfl (Nat.le_of_ble_eq_true rfl) (Nat.le_of_ble_eq_true rfl) ⟨rfl, hK, e1, e2.trans hT, by rw [e3]; exact h0, b, e6, e7⟩
theorem i_row {d : Nat} {M : Mm} {n : Nat} (hn : n ≤ 100) : Ex (d + 2) 33 [.int (Int32.ofNat n)] M (1 + 2 * n) (44 * n) (fun o M1 => ∃ r, o = .inl (some (.ref r)) ∧ Ext M M1 ∧ gRow M1 r n ∧ mT M r = 0 ∧ Ko M M1 ∧ (UP M → unr M1 r)) := by
  refine ⟨_, rfl, Nat.le_of_ble_eq_true rfl, fun V C S => ?_⟩
  show V 0 [(0, .int (Int32.ofNat n))] [] M 0 0
  refine k_iload_n C rfl rfl rfl ?_
  refine k_if_ge C (t := 8) rfl rfl rfl (fun _ => ?_) (fun c => absurd (Int32.not_lt.mp (n_nn (by omega))) c)
  refine k_iload_n C rfl rfl rfl ?_
  refine k_anew C (tt := 3) (n := n) rfl rfl rfl (Or.inl ⟨rfl, rfl⟩) (n_nn (by omega)) (n_nat (by omega)) (by omega) (by omega) (by omega) (fun r hr => ?_)
  refine k_astore_n C (lw := [(1, _), (0, .int _)]) rfl rfl (Nat.le_of_ble_eq_true rfl) rfl ?_
  refine k_iconst C (x := 0) rfl rfl rfl ?_
  refine k_istore_n C (lw := [(2, .int _), (1, _), (0, .int _)]) rfl rfl (Nat.le_of_ble_eq_true rfl) rfl ?_
  have loop : ∀ (k i : Nat) (M1 : Mm), k = n - i → i ≤ n → Ext M M1 → Ko M M1 → (UP M → unr M1 r) → mT M1 r = 23 → mN M1 r = n → (∀ j, j < i → ∃ f, mR M1 r j = some f ∧ gF M1 f) → V 15 [(2, .int (Int32.ofNat i)), (1, .ref r), (0, .int (Int32.ofNat n))] [] M1 (0 + 1 + 2 * i) (0 + n + 43 * i) := by
    intro k
    induction k using Nat.strongRecOn with
    | _ k ih =>
      intro i M1 hk hin hE hK hU hT hN hf
      refine k_iload_n C rfl rfl rfl ?_
      refine k_aload_n C rfl rfl rfl ?_
      refine k_alen C rfl rfl (by rw [hT]; exact Nat.le_of_ble_eq_true rfl) ?_
      rw [hN]
      refine k_icmp_ge C (t := 37) rfl rfl rfl (fun c => ?_) (fun c => ?_)
      · have hi : i = n := Nat.le_antisymm hin ((n_le (by omega) (by omega)).mp c)
        refine k_aload_n C rfl rfl rfl ?_
        exact k_aret C (x := some _) rfl (Or.inr ⟨_, rfl⟩) (by omega) (by omega) ⟨r, rfl, hE, ⟨hT, hN, hi ▸ hf⟩, hr, hK, hU⟩
      · have hi : i < n := Nat.lt_of_not_le (fun h => c ((n_le (by omega) (by omega)).mpr h))
        refine k_aload_n C rfl rfl rfl ?_
        refine k_iload_n C rfl rfl rfl ?_
        refine iu_new C (n := 2) rfl rfl rfl rfl rfl rfl (by omega) (by omega) (fun f M2 hf0 hE2 hT2 hI2 _ fK => ?_)
        refine k_dup C rfl rfl rfl ?_
        refine i_call C (i_Form hT2 (hI2 0)) rfl rfl rfl rfl rfl ⟨_, rfl, rfl, rfl⟩ rfl rfl (by omega) (by omega) (Nat.le_of_ble_eq_true rfl) ?_
        intro M3 h3
        have hE3 : Ext M1 M3 := hE2.e1 h3.2.1 hf0
        have hT3 : mT M3 r = 23 := (hE3 r (by rw [hT]; decide)).1.trans hT
        have hN3 : mN M3 r = n := (hE3 r (by rw [hT]; decide)).2.1.trans hN
        refine k_aast C (t := 3) (ci := 2) rfl rfl hT3 h3.2.2.1 (Or.inl ⟨rfl, rfl⟩) (vin rfl (by rw [hN3]; exact hi) (by rw [hN3]; omega)) ?_
        rw [n_nat (by omega)]
        refine k_inc1 C (lw := [(2, .int _), (1, _), (0, .int _)]) rfl rfl rfl (Nat.le_of_ble_eq_true rfl) rfl ?_
        refine k_goto C (pc2 := 15) rfl rfl ?_
        rw [n_s, show 0 + 1 + 2 * i + 1 + 1 = 0 + 1 + 2 * (i + 1) by omega, show 0 + n + 43 * i + 2 + 41 = 0 + n + 43 * (i + 1) by omega]
        have gs : ∀ g, gF M3 g → gF (sR M3 r i (some f)) g := fun g hg => hg.go (fun a ha => ag_sR (fun e => by rw [e, hT3] at ha; omega))
        have hKs : Ko M1 (sR M3 r i (some f)) := Ko.obj fK.1 fK.2 hf0 (by rw [hT2]; decide) h3.1
        refine ih (n - (i + 1)) (by omega) (i + 1) _ rfl hi ((hE.tr hE3).sR hr) (hK.tr hKs) (fun u => (hKs (hK u).1).2.2 r (by rw [hT]; unfold trT; omega) (hU u)) hT3 hN3 (fun j hj => ?_)
        by_cases hji : j = i
        · subst hji; exact ⟨f, u2_s, gs f h3.2.2⟩
        · obtain ⟨g, g1, g2⟩ := hf j (by omega)
          refine ⟨g, (u2_k hji).trans ?_, gs g (g2.go (fun a ha => hE3 a (by omega)))⟩
          show mR M3 r j = some g
          rw [(hE3 r (by rw [hT]; decide)).2.2.2.2]; exact g1
  exact loop n 0 _ (by omega) (Nat.zero_le n) (Ext.rf.new hr) (Ko.nw hr) (fun u => unr.nw u hr) T_new N_new (fun j hj => absurd hj (Nat.not_lt_zero j))
end
-- 39.17.init.lean.txt
section
def gHeld (M : Mm) (r n k : Nat) : Prop := mT M r = 26 ∧ mN M r = n ∧ ∀ j, j < n → ∃ a, mR M r j = some a ∧ gArr M a 20 k
theorem gHeld.st {M M1 : Mm} {r n k u : Nat} (h : gHeld M r n k) (a : Stt u M M1) (hu : u ≠ 26 ∧ u ≠ 20) : gHeld M1 r n k := by
  obtain ⟨h1, h2, h3⟩ := h
  have e := a r (by omega) (by omega)
  refine ⟨e.1.trans h1, e.2.1.trans h2, fun j hj => ?_⟩
  obtain ⟨f, f1, f2⟩ := h3 j hj
  exact ⟨f, by rw [e.2.2.2.2]; exact f1, f2.st a (by decide) (by omega)⟩
def gRd (M : Mm) (x : Nat) : Prop := mT M x = 5 ∧ mI M x 1 = 0 ∧ (∃ b, mR M x 0 = some b ∧ gSg M b) ∧ (∃ b, mR M x 2 = some b ∧ gArr M b 20 400)
theorem gRd.st {M M1 : Mm} {x u : Nat} (h : gRd M x) (a : Stt u M M1) (hu : u ≠ 5 ∧ u ≠ 8 ∧ u ≠ 20) : gRd M1 x := by
  obtain ⟨h1, i1, ⟨b0, r0, p0⟩, ⟨b2, r2, p2⟩⟩ := h
  have e := a x (by rw [h1]; decide) (by rw [h1]; omega)
  exact ⟨e.1.trans h1, (congrFun e.2.2.1 1).trans i1, ⟨b0, (congrFun e.2.2.2.2 0).trans r0, p0.st a (by omega)⟩, ⟨b2, (congrFun e.2.2.2.2 2).trans r2, p2.st a (by decide) (by omega)⟩⟩
def gAl (M : Mm) (x : Nat) (st : Nat) : Prop := mT M x = 1 ∧ (∃ b, mR M x 1 = some b ∧ gF M b) ∧ (∃ b, mR M x 2 = some b ∧ gF M b) ∧ mR M x 0 = some st
theorem gAl.st {M M1 : Mm} {x st u : Nat} (h : gAl M x st) (a : Stt u M M1) (hu : u ≠ 1 ∧ u ≠ 3 ∧ u ≠ 20) : gAl M1 x st := by
  obtain ⟨h1, ⟨b1, r1, p1⟩, ⟨b2, r2, p2⟩, r0⟩ := h
  have e := a x (by rw [h1]; decide) (by rw [h1]; omega)
  exact ⟨e.1.trans h1, ⟨b1, (congrFun e.2.2.2.2 1).trans r1, p1.st a (by omega)⟩, ⟨b2, (congrFun e.2.2.2.2 2).trans r2, p2.st a (by omega)⟩, (congrFun e.2.2.2.2 0).trans r0⟩
def gCc (M : Mm) (x : Nat) (al : Nat) : Prop := mT M x = 2 ∧ (∃ b, mR M x 1 = some b ∧ gRow M b 20) ∧ (∃ b, mR M x 2 = some b ∧ gArr M b 20 20) ∧ (∃ b, mR M x 3 = some b ∧ gF M b) ∧ (∃ b, mR M x 4 = some b ∧ gF M b) ∧ mR M x 0 = some al
theorem gCc.st {M M1 : Mm} {x al u : Nat} (h : gCc M x al) (a : Stt u M M1) (hu : u ≠ 2 ∧ u ≠ 3 ∧ u ≠ 20 ∧ u ≠ 23) : gCc M1 x al := by
  obtain ⟨h1, ⟨b1, r1, p1⟩, ⟨b2, r2, p2⟩, ⟨b3, r3, p3⟩, ⟨b4, r4, p4⟩, r0⟩ := h
  have e := a x (by rw [h1]; decide) (by rw [h1]; omega)
  exact ⟨e.1.trans h1, ⟨b1, (congrFun e.2.2.2.2 1).trans r1, p1.st a (by omega)⟩, ⟨b2, (congrFun e.2.2.2.2 2).trans r2, p2.st a (by decide) (by omega)⟩, ⟨b3, (congrFun e.2.2.2.2 3).trans r3, p3.st a (by omega)⟩, ⟨b4, (congrFun e.2.2.2.2 4).trans r4, p4.st a (by omega)⟩, (congrFun e.2.2.2.2 0).trans r0⟩
def gRw (M : Mm) (x : Nat) (al : Nat) (cc : Nat) : Prop := mT M x = 6 ∧ (∃ b, mR M x 2 = some b ∧ gRow M b 12) ∧ (∃ b, mR M x 3 = some b ∧ gHeld M b 8 492) ∧ (∃ b, mR M x 4 = some b ∧ gArr M b 20 8) ∧ (∃ b, mR M x 5 = some b ∧ gArr M b 21 637) ∧ mR M x 0 = some al ∧ mR M x 1 = some cc
theorem gRw.st {M M1 : Mm} {x al cc u : Nat} (h : gRw M x al cc) (a : Stt u M M1) (hu : u ≠ 3 ∧ u ≠ 6 ∧ u ≠ 20 ∧ u ≠ 21 ∧ u ≠ 23 ∧ u ≠ 26) : gRw M1 x al cc := by
  obtain ⟨h1, ⟨b2, r2, p2⟩, ⟨b3, r3, p3⟩, ⟨b4, r4, p4⟩, ⟨b5, r5, p5⟩, r0, r1⟩ := h
  have e := a x (by rw [h1]; decide) (by rw [h1]; omega)
  exact ⟨e.1.trans h1, ⟨b2, (congrFun e.2.2.2.2 2).trans r2, p2.st a (by omega)⟩, ⟨b3, (congrFun e.2.2.2.2 3).trans r3, p3.st a (by omega)⟩, ⟨b4, (congrFun e.2.2.2.2 4).trans r4, p4.st a (by decide) (by omega)⟩, ⟨b5, (congrFun e.2.2.2.2 5).trans r5, p5.st a (by decide) (by omega)⟩, (congrFun e.2.2.2.2 0).trans r0, (congrFun e.2.2.2.2 1).trans r1⟩
def gSe (M : Mm) (x : Nat) (al : Nat) : Prop := mT M x = 7 ∧ (∃ b, mR M x 3 = some b ∧ gArr M b 20 400) ∧ (∃ b, mR M x 4 = some b ∧ gArr M b 20 9) ∧ (∃ b, mR M x 5 = some b ∧ gArr M b 20 400) ∧ (∃ b, mR M x 6 = some b ∧ gArr M b 20 400) ∧ mR M x 2 = some al
theorem gSe.st {M M1 : Mm} {x al u : Nat} (h : gSe M x al) (a : Stt u M M1) (hu : u ≠ 7 ∧ u ≠ 20) : gSe M1 x al := by
  obtain ⟨h1, ⟨b3, r3, p3⟩, ⟨b4, r4, p4⟩, ⟨b5, r5, p5⟩, ⟨b6, r6, p6⟩, r2⟩ := h
  have e := a x (by rw [h1]; decide) (by rw [h1]; omega)
  exact ⟨e.1.trans h1, ⟨b3, (congrFun e.2.2.2.2 3).trans r3, p3.st a (by decide) (by omega)⟩, ⟨b4, (congrFun e.2.2.2.2 4).trans r4, p4.st a (by decide) (by omega)⟩, ⟨b5, (congrFun e.2.2.2.2 5).trans r5, p5.st a (by decide) (by omega)⟩, ⟨b6, (congrFun e.2.2.2.2 6).trans r6, p6.st a (by decide) (by omega)⟩, (congrFun e.2.2.2.2 2).trans r2⟩
def gPo (M : Mm) (x : Nat) (al : Nat) : Prop := mT M x = 4 ∧ (∃ b, mR M x 2 = some b ∧ gArr M b 20 3) ∧ (∃ b, mR M x 3 = some b ∧ gArr M b 20 3) ∧ (∃ b, mR M x 4 = some b ∧ gArr M b 20 9) ∧ (∃ b, mR M x 5 = some b ∧ gArr M b 20 9) ∧ mR M x 1 = some al
theorem gPo.st {M M1 : Mm} {x al u : Nat} (h : gPo M x al) (a : Stt u M M1) (hu : u ≠ 4 ∧ u ≠ 20) : gPo M1 x al := by
  obtain ⟨h1, ⟨b2, r2, p2⟩, ⟨b3, r3, p3⟩, ⟨b4, r4, p4⟩, ⟨b5, r5, p5⟩, r1⟩ := h
  have e := a x (by rw [h1]; decide) (by rw [h1]; omega)
  exact ⟨e.1.trans h1, ⟨b2, (congrFun e.2.2.2.2 2).trans r2, p2.st a (by decide) (by omega)⟩, ⟨b3, (congrFun e.2.2.2.2 3).trans r3, p3.st a (by decide) (by omega)⟩, ⟨b4, (congrFun e.2.2.2.2 4).trans r4, p4.st a (by decide) (by omega)⟩, ⟨b5, (congrFun e.2.2.2.2 5).trans r5, p5.st a (by decide) (by omega)⟩, (congrFun e.2.2.2.2 1).trans r1⟩
def gWh (M : Mm) (x : Nat) : Prop := mT M x = 11 ∧ ∀ j, mL M x j = 0
theorem gWh.st {M M1 : Mm} {x u : Nat} (h : gWh M x) (a : Stt u M M1) (hu : u ≠ 11) : gWh M1 x := by
  obtain ⟨h1, h2⟩ := h
  have e := a x (by rw [h1]; decide) (by rw [h1]; omega)
  exact ⟨e.1.trans h1, fun j => (congrFun e.2.2.2.1 j).trans (h2 j)⟩
def gSt (M : Mm) (x : Nat) : Prop := mT M x = 9 ∧ mI M x 0 = 11 ∧ mI M x 1 = 0 ∧ mI M x 2 = 0 ∧ mI M x 3 = 0 ∧ mI M x 4 = 0 ∧ mI M x 5 = 0 ∧ (∃ b, mR M x 6 = some b ∧ gArr M b 20 40) ∧ (∃ b, mR M x 7 = some b ∧ gRow M b 40) ∧ (∃ b, mR M x 8 = some b ∧ gRow M b 16) ∧ (∃ b, mR M x 9 = some b ∧ gTabs M b 8) ∧ (∃ b, mR M x 10 = some b ∧ gSgs M b 8)
theorem gSt.st {M M1 : Mm} {x u : Nat} (h : gSt M x) (a : Stt u M M1) (hu : u ≠ 3 ∧ u ≠ 8 ∧ u ≠ 9 ∧ u ≠ 10 ∧ u ≠ 20 ∧ u ≠ 23 ∧ u ≠ 24 ∧ u ≠ 25) : gSt M1 x := by
  obtain ⟨h1, i0, i1, i2, i3, i4, i5, ⟨b6, r6, p6⟩, ⟨b7, r7, p7⟩, ⟨b8, r8, p8⟩, ⟨b9, r9, p9⟩, ⟨b10, r10, p10⟩⟩ := h
  have e := a x (by rw [h1]; decide) (by rw [h1]; omega)
  exact ⟨e.1.trans h1, (congrFun e.2.2.1 0).trans i0, (congrFun e.2.2.1 1).trans i1, (congrFun e.2.2.1 2).trans i2, (congrFun e.2.2.1 3).trans i3, (congrFun e.2.2.1 4).trans i4, (congrFun e.2.2.1 5).trans i5, ⟨b6, (congrFun e.2.2.2.2 6).trans r6, p6.st a (by decide) (by omega)⟩, ⟨b7, (congrFun e.2.2.2.2 7).trans r7, p7.st a (by omega)⟩, ⟨b8, (congrFun e.2.2.2.2 8).trans r8, p8.st a (by omega)⟩, ⟨b9, (congrFun e.2.2.2.2 9).trans r9, p9.st a (by omega)⟩, ⟨b10, (congrFun e.2.2.2.2 10).trans r10, p10.st a (by omega)⟩⟩
theorem Ex1.fresh {x b : Nat} {M M1 : Mm} (h : Ex1 x M M1) (hT : mT M1 x ≠ 0) (hb : mT M1 b = 0) : mT M b = 0 := Classical.byContradiction fun hne => hne ((h b hne (fun e => hT (e ▸ hb))).1.symm.trans hb)
section Mk2
variable {d : Nat} {q : mm_T} {mc ms : Nat} {Post : Po} {V : V_T} {pc pc2 : Nat} {lv : List (Nat × Value)} {r : List Value} {M : Mm} {ck sk : Nat}
def Nh (M M1 : Mm) (x k b n w : Nat) : Prop := Ex1 x M M1 ∧ mT M1 x = mT M x ∧ mI M1 x = mI M x ∧ mL M1 x = mL M x ∧ (∀ j, j ≠ k → mR M1 x j = mR M x j) ∧ mR M1 x k = some b ∧ gHeld M1 b n w
theorem iu_mna (C : Cl d q mc ms Post V) {z y : Int32} {n w x ci k j ck2 sk2 : Nat} (hi : cdf q.2.2.2.2.2.2 pc = some (.multianewarray 21 2, 4)) (hi2 : cdf q.2.2.2.2.2.2 (pc + 4) = some (.putfield j, 3)) (hp : pc + 7 = pc2) (ho : q.2.2.2.2.1 = 5) (h0 : ¬ z < 0) (h1 : ¬ y < 0) (hz : z.toNatClampNeg = n) (hy : y.toNatClampNeg = w) (h2 : n ≤ 1000) (h3 : w ≤ 1000) (e1 : ck + (1 + n) = ck2) (e2 : sk + (n + n * w) = sk2) (h4 : ck2 ≤ mc) (h5 : sk2 ≤ ms)
    (hf : P_fl q.2.2.2.2.1 j = some (ci, k)) (hx : mT M x = ci + 1) (hnm : q.1.name = "<init>" ∧ q.2.2.2.2.1 = ci) (hk : kt (P_ty ci k) = 2)
    (h : ∀ b M1, Nh M M1 x k b n w → Ko M M1 → V pc2 lv r M1 ck2 sk2) : V pc lv (.int y :: .int z :: .ref x :: r) M ck sk := by
  refine k_mna C hi rfl ho h0 h1 hz hy h2 h3 e1 e2 h4 h5 (fun b hb => ?_)
  have old : ∀ a, mT M a ≠ 0 → Ag M (sMN M b n w) a := by
    intro a ha
    have hab : a < b := Nat.lt_of_not_le (fun h => ha (hb a h))
    have q1 : a ≠ b := by omega
    have q2 : ¬ (b < a ∧ a ≤ b + n) := by omega
    have q3 : ¬ (b ≤ a ∧ a ≤ b + n) := by omega
    refine ⟨?_, ?_, ?_, ?_, ?_⟩ <;> simp [sMN, mT, mN, mI, mL, mR, q1, q2, q3]
  have hxb := old x (by rw [hx]; omega)
  refine k_putR C hi2 hp hf (hxb.1.trans hx) (Or.inl hnm) hk ?_
  refine h b _ ⟨fun a ha hax => (old a ha).tr (ag_sR hax), hxb.1, hxb.2.2.1, hxb.2.2.2.1, fun j hj => (u2_k hj).trans (congrFun hxb.2.2.2.2 j), u2_s, ?_⟩ (Ko.mna hb)
  have hbx : b ≠ x := fun e => by
    have := hb x (by omega); omega
  have eR : ∀ a, a ≠ x → Ag (sMN M b n w) (sR (sMN M b n w) x k (some b)) a := fun a ha => ag_sR ha
  refine ⟨by rw [(eR b hbx).1]; simp [sMN, mT], by rw [(eR b hbx).2.1]; simp [sMN, mN], fun j hj => ⟨b + 1 + j, ?_, ?_⟩⟩
  · rw [(eR b hbx).2.2.2.2]; simp [sMN, mR, hj]
  · have hne : b + 1 + j ≠ x := fun e => by
      have := hb x (by omega); omega
    refine gArr.go ?_ (eR _ hne)
    constructor
    · show (if b + 1 + j = b then 26 else if b < b + 1 + j ∧ b + 1 + j ≤ b + n then 20 else mT M (b + 1 + j)) = 20
      rw [if_neg (by omega), if_pos (by omega)]
    · show (if b + 1 + j = b then n else if b < b + 1 + j ∧ b + 1 + j ≤ b + n then w else mN M (b + 1 + j)) = w
      rw [if_neg (by omega), if_pos (by omega)]
theorem i_callN (C : Cl d q mc ms Post V) {j k b : Nat} {mc' ms' ck2 sk2 : Nat} {Q : Mm → Prop} (hE : Ex d k [.ref b] M mc' ms' (pC Q)) (hi : cdf q.2.2.2.2.2.2 pc = some (.invokespecial j, 3)) (hp : pc + 3 = pc2) (hm : P_ni q.2.2.2.2.1 j = some k) (h1 : ck + mc' = ck2) (h2 : sk + ms' = sk2) (h3 : ck2 ≤ mc) (h4 : sk2 ≤ ms) (hc : (r.map fun v => v.category).sum ≤ 8) (h : ∀ M1, Q M1 → V pc2 lv r M1 ck2 sk2) : V pc lv (.ref b :: r) M ck sk := k_callN C hi hp hm hE h1 h2 h3 h4 hc (fun v M1 h9 => by obtain ⟨e1, e2⟩ := h9; cases e1; exact h M1 e2) (fun e M1 h9 => by cases h9.1)
theorem i_rowP (C : Cl (d + 1) q mc ms Post V) {x ci k j i9 n ck2 sk2 : Nat} {z : Int32} (hz : z = Int32.ofNat n) (hn : n ≤ 100) (hi : cdf q.2.2.2.2.2.2 pc = some (.invokestatic i9, 3)) (hm : P_mt q.2.2.2.2.1 i9 = some (1, 33, 1)) (hi2 : cdf q.2.2.2.2.2.2 (pc + 3) = some (.putfield j, 3)) (hp : pc + 6 = pc2) (e1 : ck + (1 + 2 * n) = ck2) (e2 : sk + 44 * n = sk2) (h4 : ck2 ≤ mc) (h5 : sk2 ≤ ms) (hd : 1 ≤ d)
    (hf : P_fl q.2.2.2.2.1 j = some (ci, k)) (hx : mT M x = ci + 1) (hnm : q.1.name = "<init>" ∧ q.2.2.2.2.1 = ci) (hk : kt (P_ty ci k) = 2) (hc : (([.ref x] ++ r : List Value).map fun v => v.category).sum ≤ 8)
    (h : ∀ b M1, (Ex1 x M M1 ∧ mT M1 x = mT M x ∧ mI M1 x = mI M x ∧ mL M1 x = mL M x ∧ (∀ j, j ≠ k → mR M1 x j = mR M x j) ∧ mR M1 x k = some b ∧ (ci + 1 ≠ 3 → ci + 1 ≠ 20 → ci + 1 ≠ 23 → gRow M1 b n)) → Ko M M1 → V pc2 lv r M1 ck2 sk2) : V pc lv (.int z :: .ref x :: r) M ck sk := by
  subst hz
  obtain ⟨d9, rfl⟩ : ∃ d9, d = d9 + 1 := ⟨d - 1, by omega⟩
  refine k_callS C hi rfl hm (as := [.int (Int32.ofNat n)]) (r := .ref x :: r) rfl rfl (i_row hn) e1 e2 h4 h5 hc (fun v M1 h9 => ?_) (fun e M1 h9 => ?_)
  · obtain ⟨b, e3, hE, hrow, hb, gK, gU⟩ := h9
    cases e3
    have ex := hE x (by rw [hx]; omega)
    refine k_putR C hi2 hp hf (ex.1.trans hx) (Or.inl hnm) hk ?_
    refine h b _ ⟨fun a ha hax => (hE a ha).tr (ag_sR hax), ex.1, ex.2.2.1, ex.2.2.2.1, fun j hj => (u2_k hj).trans (congrFun ex.2.2.2.2 j), u2_s, fun t1 t2 t3 => ?_⟩ (gK.put hb (fun u => ⟨by rw [hrow.1]; decide, fun _ => gU u⟩))
    exact hrow.go (fun a ha => ag_sR (fun e => by rw [e, ex.1, hx] at ha; omega))
  · obtain ⟨b, e3, -⟩ := h9
    cases e3
end Mk2
theorem i_X7 {d : Nat} {M : Mm} {x : Nat} (hT : mT M x = 8) (h0 : ∀ j, mI M x j = 0) : Ex (d + 1) 57 [.ref x] M 2 320 (pC fun M1 => Ko M M1 ∧ Ex1 x M M1 ∧ gSg M1 x) := by
  refine ⟨_, rfl, Nat.le_of_ble_eq_true rfl, fun V C S => ?_⟩
  show V 0 [(0, .ref x)] [] M 0 0
  have hX : Ex1 x M M := Ex1.rf
  have hK : Ko M M := Ko.rf
  have i2 : mI M x 2 = 0 := h0 2
  refine k_aload_n C rfl rfl rfl ?_
  refine i_obj C rfl rfl rfl (Nat.le_of_ble_eq_true rfl) ?_
  refine k_aload_n C rfl rfl rfl ?_
  refine k_sipush C (x := 160) rfl rfl rfl ?_
  refine iu_arr C (tt := 0) (n := 160) rfl rfl rfl (Or.inl ⟨rfl, rfl⟩) (by decide) (by decide) (Nat.le_of_ble_eq_true rfl) rfl rfl (Nat.le_of_ble_eq_true rfl) (Nat.le_of_ble_eq_true rfl) rfl hT ⟨rfl, rfl⟩ rfl (fun b0 M1 s sK => ?_)
  have hx9 := s.1.st hT
  have hX := hX.tr s.1
  have hK := hK.tr sK
  have i2 := (congrFun s.2.2.1 2).trans i2
  have r0 := s.2.2.2.2.2.1
  have p0 := s.2.2.2.2.2.2.1
  have hT := s.2.1.trans hT
  refine k_aload_n C rfl rfl rfl ?_
  refine k_sipush C (x := 160) rfl rfl rfl ?_
  refine iu_arr C (tt := 0) (n := 160) rfl rfl rfl (Or.inl ⟨rfl, rfl⟩) (by decide) (by decide) (Nat.le_of_ble_eq_true rfl) rfl rfl (Nat.le_of_ble_eq_true rfl) (Nat.le_of_ble_eq_true rfl) rfl hT ⟨rfl, rfl⟩ rfl (fun b1 M1 s sK => ?_)
  have hx9 := s.1.st hT
  have p0 := p0.st hx9 (by decide) (by decide)
  have hX := hX.tr s.1
  have hK := hK.tr sK
  have r0 := (s.2.2.2.2.1 0 (by decide)).trans r0
  have i2 := (congrFun s.2.2.1 2).trans i2
  have r1 := s.2.2.2.2.2.1
  have p1 := s.2.2.2.2.2.2.1
  have hT := s.2.1.trans hT
  exact k_vret C rfl rfl (Nat.le_of_ble_eq_true rfl) (Nat.le_of_ble_eq_true rfl) ⟨rfl, hK, hX, ⟨hT, i2, ⟨_, r0, p0⟩, ⟨_, r1, p1⟩⟩⟩
theorem i_X4 {d : Nat} {M : Mm} {x : Nat} (hT : mT M x = 5) (h0 : ∀ j, mI M x j = 0) : Ex (d + 2) 58 [.ref x] M 4 723 (pC fun M1 => Ko M M1 ∧ Ex1 x M M1 ∧ gRd M1 x) := by
  refine ⟨_, rfl, Nat.le_of_ble_eq_true rfl, fun V C S => ?_⟩
  show V 0 [(0, .ref x)] [] M 0 0
  have hX : Ex1 x M M := Ex1.rf
  have hK : Ko M M := Ko.rf
  have i1 : mI M x 1 = 0 := h0 1
  refine k_aload_n C rfl rfl rfl ?_
  refine i_obj C rfl rfl rfl (Nat.le_of_ble_eq_true rfl) ?_
  refine k_aload_n C rfl rfl rfl ?_
  refine iu_new C (n := 3) rfl rfl rfl rfl rfl rfl (Nat.le_of_ble_eq_true rfl) (Nat.le_of_ble_eq_true rfl) (fun n1 M1 f0 fE fT fI fL fK => ?_)
  have ex := fE _ (by rw [hT]; decide)
  have hT1 := ex.1.trans hT
  refine k_dup C rfl rfl rfl ?_
  refine i_callN C (i_X7 fT fI) rfl rfl rfl rfl rfl (Nat.le_of_ble_eq_true rfl) (Nat.le_of_ble_eq_true rfl) (Nat.le_of_ble_eq_true rfl) ?_
  intro M2 g
  have gE := fE.e1 g.2.1 f0
  have ex2 := gE _ (by rw [hT]; decide)
  refine iu_put C rfl rfl rfl (ex2.1.trans hT) ⟨rfl, rfl⟩ rfl (fun M3 s sE => ?_)
  have kO := Ko.obj (x := x) (k := 0) fK.1 fK.2 f0 (by rw [fT]; decide) g.1
  rw [← sE] at kO
  have hK := hK.tr kO
  have hX9 := s.1.st (ex2.1.trans hT)
  have gS : Stt 5 _ _ := gE.st
  have i1 := ((congrFun s.2.2.1 1).trans (congrFun ex2.2.2.1 1)).trans i1
  have r0 := s.2.2.2.2.2
  have p0 := g.2.2.st hX9 (by decide)
  have hX := hX.tr ((gE.to1 (x := x)).tr s.1)
  have hT := s.2.1.trans (ex2.1.trans hT)
  refine k_aload_n C rfl rfl rfl ?_
  refine k_sipush C (x := 400) rfl rfl rfl ?_
  refine iu_arr C (tt := 0) (n := 400) rfl rfl rfl (Or.inl ⟨rfl, rfl⟩) (by decide) (by decide) (Nat.le_of_ble_eq_true rfl) rfl rfl (Nat.le_of_ble_eq_true rfl) (Nat.le_of_ble_eq_true rfl) rfl hT ⟨rfl, rfl⟩ rfl (fun b2 M1 s sK => ?_)
  have hx9 := s.1.st hT
  have p0 := p0.st hx9 (by decide)
  have hX := hX.tr s.1
  have hK := hK.tr sK
  have r0 := (s.2.2.2.2.1 0 (by decide)).trans r0
  have i1 := (congrFun s.2.2.1 1).trans i1
  have r2 := s.2.2.2.2.2.1
  have p2 := s.2.2.2.2.2.2.1
  have hT := s.2.1.trans hT
  exact k_vret C rfl rfl (Nat.le_of_ble_eq_true rfl) (Nat.le_of_ble_eq_true rfl) ⟨rfl, hK, hX, ⟨hT, i1, ⟨_, r0, p0⟩, ⟨_, r2, p2⟩⟩⟩
theorem i_X0 {d : Nat} {M : Mm} {x st : Nat} (hT : mT M x = 1) (h0 : ∀ j, mI M x j = 0) (hp_st : mT M st = 9) : Ex (d + 2) 1 [.ref x, .ref st] M 4 86 (pC fun M1 => Ko M M1 ∧ Ex1 x M M1 ∧ gAl M1 x st) := by
  refine ⟨_, rfl, Nat.le_of_ble_eq_true rfl, fun V C S => ?_⟩
  show V 0 [(0, .ref x), (1, .ref st)] [] M 0 0
  have hX : Ex1 x M M := Ex1.rf
  have hK : Ko M M := Ko.rf
  refine k_aload_n C rfl rfl rfl ?_
  refine i_obj C rfl rfl rfl (Nat.le_of_ble_eq_true rfl) ?_
  refine k_aload_n C rfl rfl rfl ?_
  refine iu_new C (n := 2) rfl rfl rfl rfl rfl rfl (Nat.le_of_ble_eq_true rfl) (Nat.le_of_ble_eq_true rfl) (fun n1 M1 f0 fE fT fI fL fK => ?_)
  have ex := fE _ (by rw [hT]; decide)
  have hT1 := ex.1.trans hT
  refine k_dup C rfl rfl rfl ?_
  refine i_callN C (i_Form fT (fI 0)) rfl rfl rfl rfl rfl (Nat.le_of_ble_eq_true rfl) (Nat.le_of_ble_eq_true rfl) (Nat.le_of_ble_eq_true rfl) ?_
  intro M2 g
  have gE := fE.e1 g.2.1 f0
  have ex2 := gE _ (by rw [hT]; decide)
  refine iu_put C rfl rfl rfl (ex2.1.trans hT) ⟨rfl, rfl⟩ rfl (fun M3 s sE => ?_)
  have kO := Ko.obj (x := x) (k := 1) fK.1 fK.2 f0 (by rw [fT]; decide) g.1
  rw [← sE] at kO
  have hK := hK.tr kO
  have hX9 := s.1.st (ex2.1.trans hT)
  have gS : Stt 1 _ _ := gE.st
  have r1 := s.2.2.2.2.2
  have p1 := g.2.2.st hX9 (by decide)
  have hX := hX.tr ((gE.to1 (x := x)).tr s.1)
  have hT := s.2.1.trans (ex2.1.trans hT)
  refine k_aload_n C rfl rfl rfl ?_
  refine iu_new C (n := 2) rfl rfl rfl rfl rfl rfl (Nat.le_of_ble_eq_true rfl) (Nat.le_of_ble_eq_true rfl) (fun n2 M1 f0 fE fT fI fL fK => ?_)
  have ex := fE _ (by rw [hT]; decide)
  have hT1 := ex.1.trans hT
  have q1 := (congrFun ex.2.2.2.2 1).trans r1
  refine k_dup C rfl rfl rfl ?_
  refine i_callN C (i_Form fT (fI 0)) rfl rfl rfl rfl rfl (Nat.le_of_ble_eq_true rfl) (Nat.le_of_ble_eq_true rfl) (Nat.le_of_ble_eq_true rfl) ?_
  intro M2 g
  have gE := fE.e1 g.2.1 f0
  have ex2 := gE _ (by rw [hT]; decide)
  refine iu_put C rfl rfl rfl (ex2.1.trans hT) ⟨rfl, rfl⟩ rfl (fun M3 s sE => ?_)
  have kO := Ko.obj (x := x) (k := 2) fK.1 fK.2 f0 (by rw [fT]; decide) g.1
  rw [← sE] at kO
  have hK := hK.tr kO
  have hX9 := s.1.st (ex2.1.trans hT)
  have gS : Stt 1 _ _ := gE.st
  have p1 := p1.st gS (by decide)
  have p1 := p1.st hX9 (by decide)
  have r1 := (s.2.2.2.2.1 1 (by decide)).trans ((congrFun ex2.2.2.2.2 1).trans r1)
  have r2 := s.2.2.2.2.2
  have p2 := g.2.2.st hX9 (by decide)
  have hX := hX.tr ((gE.to1 (x := x)).tr s.1)
  have hT := s.2.1.trans (ex2.1.trans hT)
  refine k_aload_n C rfl rfl rfl ?_
  refine k_aload_n C rfl rfl rfl ?_
  refine iu_put C rfl rfl rfl hT ⟨rfl, rfl⟩ rfl (fun M1 s sE => ?_)
  have hx9 := s.1.st hT
  have p1 := p1.st hx9 (by decide)
  have p2 := p2.st hx9 (by decide)
  have hX := hX.tr s.1
  have hK := hK.par (x := x) (k := 0) hp_st (by unfold trT; omega) (by decide)
  rw [← sE] at hK
  have r1 := (s.2.2.2.2.1 1 (by decide)).trans r1
  have r2 := (s.2.2.2.2.1 2 (by decide)).trans r2
  have r0 := s.2.2.2.2.2
  have hT := s.2.1.trans hT
  exact k_vret C rfl rfl (Nat.le_of_ble_eq_true rfl) (Nat.le_of_ble_eq_true rfl) ⟨rfl, hK, hX, ⟨hT, ⟨_, r1, p1⟩, ⟨_, r2, p2⟩, r0⟩⟩
theorem i_X1 {d : Nat} {M : Mm} {x al : Nat} (hT : mT M x = 2) (h0 : ∀ j, mI M x j = 0) (hp_al : mT M al = 1) : Ex (d + 3) 34 [.ref x, .ref al] M 46 986 (pC fun M1 => Ko M M1 ∧ Ex1 x M M1 ∧ gCc M1 x al) := by
  refine ⟨_, rfl, Nat.le_of_ble_eq_true rfl, fun V C S => ?_⟩
  show V 0 [(0, .ref x), (1, .ref al)] [] M 0 0
  have hX : Ex1 x M M := Ex1.rf
  have hK : Ko M M := Ko.rf
  refine k_aload_n C rfl rfl rfl ?_
  refine i_obj C rfl rfl rfl (Nat.le_of_ble_eq_true rfl) ?_
  refine k_aload_n C rfl rfl rfl ?_
  refine k_bipush C (x := 20) rfl rfl rfl ?_
  refine i_rowP C (n := 20) rfl (Nat.le_of_ble_eq_true rfl) rfl rfl rfl rfl rfl rfl (Nat.le_of_ble_eq_true rfl) (Nat.le_of_ble_eq_true rfl) (by omega) rfl hT ⟨rfl, rfl⟩ rfl (Nat.le_of_ble_eq_true rfl) (fun b1 M1 s sK => ?_)
  have hx9 := s.1.st hT
  have hX := hX.tr s.1
  have hK := hK.tr sK
  have r1 := s.2.2.2.2.2.1
  have p1 := s.2.2.2.2.2.2 (by decide) (by decide) (by decide)
  have hT := s.2.1.trans hT
  refine k_aload_n C rfl rfl rfl ?_
  refine k_bipush C (x := 20) rfl rfl rfl ?_
  refine iu_arr C (tt := 0) (n := 20) rfl rfl rfl (Or.inl ⟨rfl, rfl⟩) (by decide) (by decide) (Nat.le_of_ble_eq_true rfl) rfl rfl (Nat.le_of_ble_eq_true rfl) (Nat.le_of_ble_eq_true rfl) rfl hT ⟨rfl, rfl⟩ rfl (fun b2 M1 s sK => ?_)
  have hx9 := s.1.st hT
  have p1 := p1.st hx9 (by decide)
  have hX := hX.tr s.1
  have hK := hK.tr sK
  have r1 := (s.2.2.2.2.1 1 (by decide)).trans r1
  have r2 := s.2.2.2.2.2.1
  have p2 := s.2.2.2.2.2.2.1
  have hT := s.2.1.trans hT
  refine k_aload_n C rfl rfl rfl ?_
  refine iu_new C (n := 2) rfl rfl rfl rfl rfl rfl (Nat.le_of_ble_eq_true rfl) (Nat.le_of_ble_eq_true rfl) (fun n1 M1 f0 fE fT fI fL fK => ?_)
  have ex := fE _ (by rw [hT]; decide)
  have hT1 := ex.1.trans hT
  have q1 := (congrFun ex.2.2.2.2 1).trans r1
  have q2 := (congrFun ex.2.2.2.2 2).trans r2
  refine k_dup C rfl rfl rfl ?_
  refine i_callN C (i_Form fT (fI 0)) rfl rfl rfl rfl rfl (Nat.le_of_ble_eq_true rfl) (Nat.le_of_ble_eq_true rfl) (Nat.le_of_ble_eq_true rfl) ?_
  intro M2 g
  have gE := fE.e1 g.2.1 f0
  have ex2 := gE _ (by rw [hT]; decide)
  refine iu_put C rfl rfl rfl (ex2.1.trans hT) ⟨rfl, rfl⟩ rfl (fun M3 s sE => ?_)
  have kO := Ko.obj (x := x) (k := 3) fK.1 fK.2 f0 (by rw [fT]; decide) g.1
  rw [← sE] at kO
  have hK := hK.tr kO
  have hX9 := s.1.st (ex2.1.trans hT)
  have gS : Stt 2 _ _ := gE.st
  have p1 := p1.st gS (by decide)
  have p1 := p1.st hX9 (by decide)
  have r1 := (s.2.2.2.2.1 1 (by decide)).trans ((congrFun ex2.2.2.2.2 1).trans r1)
  have p2 := p2.st gS (by decide) (by decide)
  have p2 := p2.st hX9 (by decide) (by decide)
  have r2 := (s.2.2.2.2.1 2 (by decide)).trans ((congrFun ex2.2.2.2.2 2).trans r2)
  have r3 := s.2.2.2.2.2
  have p3 := g.2.2.st hX9 (by decide)
  have hX := hX.tr ((gE.to1 (x := x)).tr s.1)
  have hT := s.2.1.trans (ex2.1.trans hT)
  refine k_aload_n C rfl rfl rfl ?_
  refine iu_new C (n := 2) rfl rfl rfl rfl rfl rfl (Nat.le_of_ble_eq_true rfl) (Nat.le_of_ble_eq_true rfl) (fun n2 M1 f0 fE fT fI fL fK => ?_)
  have ex := fE _ (by rw [hT]; decide)
  have hT1 := ex.1.trans hT
  have q1 := (congrFun ex.2.2.2.2 1).trans r1
  have q2 := (congrFun ex.2.2.2.2 2).trans r2
  have q3 := (congrFun ex.2.2.2.2 3).trans r3
  refine k_dup C rfl rfl rfl ?_
  refine i_callN C (i_Form fT (fI 0)) rfl rfl rfl rfl rfl (Nat.le_of_ble_eq_true rfl) (Nat.le_of_ble_eq_true rfl) (Nat.le_of_ble_eq_true rfl) ?_
  intro M2 g
  have gE := fE.e1 g.2.1 f0
  have ex2 := gE _ (by rw [hT]; decide)
  refine iu_put C rfl rfl rfl (ex2.1.trans hT) ⟨rfl, rfl⟩ rfl (fun M3 s sE => ?_)
  have kO := Ko.obj (x := x) (k := 4) fK.1 fK.2 f0 (by rw [fT]; decide) g.1
  rw [← sE] at kO
  have hK := hK.tr kO
  have hX9 := s.1.st (ex2.1.trans hT)
  have gS : Stt 2 _ _ := gE.st
  have p1 := p1.st gS (by decide)
  have p1 := p1.st hX9 (by decide)
  have r1 := (s.2.2.2.2.1 1 (by decide)).trans ((congrFun ex2.2.2.2.2 1).trans r1)
  have p2 := p2.st gS (by decide) (by decide)
  have p2 := p2.st hX9 (by decide) (by decide)
  have r2 := (s.2.2.2.2.1 2 (by decide)).trans ((congrFun ex2.2.2.2.2 2).trans r2)
  have p3 := p3.st gS (by decide)
  have p3 := p3.st hX9 (by decide)
  have r3 := (s.2.2.2.2.1 3 (by decide)).trans ((congrFun ex2.2.2.2.2 3).trans r3)
  have r4 := s.2.2.2.2.2
  have p4 := g.2.2.st hX9 (by decide)
  have hX := hX.tr ((gE.to1 (x := x)).tr s.1)
  have hT := s.2.1.trans (ex2.1.trans hT)
  refine k_aload_n C rfl rfl rfl ?_
  refine k_aload_n C rfl rfl rfl ?_
  refine iu_put C rfl rfl rfl hT ⟨rfl, rfl⟩ rfl (fun M1 s sE => ?_)
  have hx9 := s.1.st hT
  have p1 := p1.st hx9 (by decide)
  have p2 := p2.st hx9 (by decide) (by decide)
  have p3 := p3.st hx9 (by decide)
  have p4 := p4.st hx9 (by decide)
  have hX := hX.tr s.1
  have hK := hK.par (x := x) (k := 0) hp_al (by unfold trT; omega) (by decide)
  rw [← sE] at hK
  have r1 := (s.2.2.2.2.1 1 (by decide)).trans r1
  have r2 := (s.2.2.2.2.1 2 (by decide)).trans r2
  have r3 := (s.2.2.2.2.1 3 (by decide)).trans r3
  have r4 := (s.2.2.2.2.1 4 (by decide)).trans r4
  have r0 := s.2.2.2.2.2
  have hT := s.2.1.trans hT
  exact k_vret C rfl rfl (Nat.le_of_ble_eq_true rfl) (Nat.le_of_ble_eq_true rfl) ⟨rfl, hK, hX, ⟨hT, ⟨_, r1, p1⟩, ⟨_, r2, p2⟩, ⟨_, r3, p3⟩, ⟨_, r4, p4⟩, r0⟩⟩
theorem i_X5 {d : Nat} {M : Mm} {x al cc : Nat} (hT : mT M x = 6) (h0 : ∀ j, mI M x j = 0) (hp_al : mT M al = 1) (hp_cc : mT M cc = 2) : Ex (d + 3) 75 [.ref x, .ref al, .ref cc] M 36 5117 (pC fun M1 => Ko M M1 ∧ Ex1 x M M1 ∧ gRw M1 x al cc) := by
  refine ⟨_, rfl, Nat.le_of_ble_eq_true rfl, fun V C S => ?_⟩
  show V 0 [(0, .ref x), (1, .ref al), (2, .ref cc)] [] M 0 0
  have hX : Ex1 x M M := Ex1.rf
  have hK : Ko M M := Ko.rf
  refine k_aload_n C rfl rfl rfl ?_
  refine i_obj C rfl rfl rfl (Nat.le_of_ble_eq_true rfl) ?_
  refine k_aload_n C rfl rfl rfl ?_
  refine k_bipush C (x := 12) rfl rfl rfl ?_
  refine i_rowP C (n := 12) rfl (Nat.le_of_ble_eq_true rfl) rfl rfl rfl rfl rfl rfl (Nat.le_of_ble_eq_true rfl) (Nat.le_of_ble_eq_true rfl) (by omega) rfl hT ⟨rfl, rfl⟩ rfl (Nat.le_of_ble_eq_true rfl) (fun b2 M1 s sK => ?_)
  have hx9 := s.1.st hT
  have hX := hX.tr s.1
  have hK := hK.tr sK
  have r2 := s.2.2.2.2.2.1
  have p2 := s.2.2.2.2.2.2 (by decide) (by decide) (by decide)
  have hT := s.2.1.trans hT
  refine k_aload_n C rfl rfl rfl ?_
  refine k_bipush C (x := 8) rfl rfl rfl ?_
  refine k_sipush C (x := 492) rfl rfl rfl ?_
  refine iu_mna C (n := 8) (w := 492) rfl rfl rfl rfl (by decide) (by decide) (by decide) (by decide) (Nat.le_of_ble_eq_true rfl) (Nat.le_of_ble_eq_true rfl) rfl rfl (Nat.le_of_ble_eq_true rfl) (Nat.le_of_ble_eq_true rfl) rfl hT ⟨rfl, rfl⟩ rfl (fun b3 M1 s sK => ?_)
  have hx9 := s.1.st hT
  have p2 := p2.st hx9 (by decide)
  have hX := hX.tr s.1
  have hK := hK.tr sK
  have r2 := (s.2.2.2.2.1 2 (by decide)).trans r2
  have r3 := s.2.2.2.2.2.1
  have p3 := s.2.2.2.2.2.2
  have hT := s.2.1.trans hT
  refine k_aload_n C rfl rfl rfl ?_
  refine k_bipush C (x := 8) rfl rfl rfl ?_
  refine iu_arr C (tt := 0) (n := 8) rfl rfl rfl (Or.inl ⟨rfl, rfl⟩) (by decide) (by decide) (Nat.le_of_ble_eq_true rfl) rfl rfl (Nat.le_of_ble_eq_true rfl) (Nat.le_of_ble_eq_true rfl) rfl hT ⟨rfl, rfl⟩ rfl (fun b4 M1 s sK => ?_)
  have hx9 := s.1.st hT
  have p2 := p2.st hx9 (by decide)
  have p3 := p3.st hx9 (by decide)
  have hX := hX.tr s.1
  have hK := hK.tr sK
  have r2 := (s.2.2.2.2.1 2 (by decide)).trans r2
  have r3 := (s.2.2.2.2.1 3 (by decide)).trans r3
  have r4 := s.2.2.2.2.2.1
  have p4 := s.2.2.2.2.2.2.1
  have hT := s.2.1.trans hT
  refine k_aload_n C rfl rfl rfl ?_
  refine k_sipush C (x := 637) rfl rfl rfl ?_
  refine iu_arr C (tt := 1) (n := 637) rfl rfl rfl (Or.inr (Or.inl ⟨rfl, rfl⟩)) (by decide) (by decide) (Nat.le_of_ble_eq_true rfl) rfl rfl (Nat.le_of_ble_eq_true rfl) (Nat.le_of_ble_eq_true rfl) rfl hT ⟨rfl, rfl⟩ rfl (fun b5 M1 s sK => ?_)
  have hx9 := s.1.st hT
  have p2 := p2.st hx9 (by decide)
  have p3 := p3.st hx9 (by decide)
  have p4 := p4.st hx9 (by decide) (by decide)
  have hX := hX.tr s.1
  have hK := hK.tr sK
  have r2 := (s.2.2.2.2.1 2 (by decide)).trans r2
  have r3 := (s.2.2.2.2.1 3 (by decide)).trans r3
  have r4 := (s.2.2.2.2.1 4 (by decide)).trans r4
  have r5 := s.2.2.2.2.2.1
  have p5 := s.2.2.2.2.2.2.1
  have hT := s.2.1.trans hT
  refine k_aload_n C rfl rfl rfl ?_
  refine k_aload_n C rfl rfl rfl ?_
  refine iu_put C rfl rfl rfl hT ⟨rfl, rfl⟩ rfl (fun M1 s sE => ?_)
  have hx9 := s.1.st hT
  have p2 := p2.st hx9 (by decide)
  have p3 := p3.st hx9 (by decide)
  have p4 := p4.st hx9 (by decide) (by decide)
  have p5 := p5.st hx9 (by decide) (by decide)
  have hX := hX.tr s.1
  have hK := hK.par (x := x) (k := 0) hp_al (by unfold trT; omega) (by decide)
  rw [← sE] at hK
  have r2 := (s.2.2.2.2.1 2 (by decide)).trans r2
  have r3 := (s.2.2.2.2.1 3 (by decide)).trans r3
  have r4 := (s.2.2.2.2.1 4 (by decide)).trans r4
  have r5 := (s.2.2.2.2.1 5 (by decide)).trans r5
  have r0 := s.2.2.2.2.2
  have hT := s.2.1.trans hT
  refine k_aload_n C rfl rfl rfl ?_
  refine k_aload_n C rfl rfl rfl ?_
  refine iu_put C rfl rfl rfl hT ⟨rfl, rfl⟩ rfl (fun M1 s sE => ?_)
  have hx9 := s.1.st hT
  have p2 := p2.st hx9 (by decide)
  have p3 := p3.st hx9 (by decide)
  have p4 := p4.st hx9 (by decide) (by decide)
  have p5 := p5.st hx9 (by decide) (by decide)
  have hX := hX.tr s.1
  have hK := hK.par (x := x) (k := 1) hp_cc (by unfold trT; omega) (by decide)
  rw [← sE] at hK
  have r2 := (s.2.2.2.2.1 2 (by decide)).trans r2
  have r3 := (s.2.2.2.2.1 3 (by decide)).trans r3
  have r4 := (s.2.2.2.2.1 4 (by decide)).trans r4
  have r5 := (s.2.2.2.2.1 5 (by decide)).trans r5
  have r0 := (s.2.2.2.2.1 0 (by decide)).trans r0
  have r1 := s.2.2.2.2.2
  have hT := s.2.1.trans hT
  exact k_vret C rfl rfl (Nat.le_of_ble_eq_true rfl) (Nat.le_of_ble_eq_true rfl) ⟨rfl, hK, hX, ⟨hT, ⟨_, r2, p2⟩, ⟨_, r3, p3⟩, ⟨_, r4, p4⟩, ⟨_, r5, p5⟩, r0, r1⟩⟩
theorem i_X6 {d : Nat} {M : Mm} {x al : Nat} (hT : mT M x = 7) (h0 : ∀ j, mI M x j = 0) (hp_al : mT M al = 1) : Ex (d + 1) 84 [.ref x, .ref al] M 4 1209 (pC fun M1 => Ko M M1 ∧ Ex1 x M M1 ∧ gSe M1 x al) := by
  refine ⟨_, rfl, Nat.le_of_ble_eq_true rfl, fun V C S => ?_⟩
  show V 0 [(0, .ref x), (1, .ref al)] [] M 0 0
  have hX : Ex1 x M M := Ex1.rf
  have hK : Ko M M := Ko.rf
  refine k_aload_n C rfl rfl rfl ?_
  refine i_obj C rfl rfl rfl (Nat.le_of_ble_eq_true rfl) ?_
  refine k_aload_n C rfl rfl rfl ?_
  refine k_sipush C (x := 400) rfl rfl rfl ?_
  refine iu_arr C (tt := 0) (n := 400) rfl rfl rfl (Or.inl ⟨rfl, rfl⟩) (by decide) (by decide) (Nat.le_of_ble_eq_true rfl) rfl rfl (Nat.le_of_ble_eq_true rfl) (Nat.le_of_ble_eq_true rfl) rfl hT ⟨rfl, rfl⟩ rfl (fun b3 M1 s sK => ?_)
  have hx9 := s.1.st hT
  have hX := hX.tr s.1
  have hK := hK.tr sK
  have r3 := s.2.2.2.2.2.1
  have p3 := s.2.2.2.2.2.2.1
  have hT := s.2.1.trans hT
  refine k_aload_n C rfl rfl rfl ?_
  refine k_bipush C (x := 9) rfl rfl rfl ?_
  refine iu_arr C (tt := 0) (n := 9) rfl rfl rfl (Or.inl ⟨rfl, rfl⟩) (by decide) (by decide) (Nat.le_of_ble_eq_true rfl) rfl rfl (Nat.le_of_ble_eq_true rfl) (Nat.le_of_ble_eq_true rfl) rfl hT ⟨rfl, rfl⟩ rfl (fun b4 M1 s sK => ?_)
  have hx9 := s.1.st hT
  have p3 := p3.st hx9 (by decide) (by decide)
  have hX := hX.tr s.1
  have hK := hK.tr sK
  have r3 := (s.2.2.2.2.1 3 (by decide)).trans r3
  have r4 := s.2.2.2.2.2.1
  have p4 := s.2.2.2.2.2.2.1
  have hT := s.2.1.trans hT
  refine k_aload_n C rfl rfl rfl ?_
  refine k_sipush C (x := 400) rfl rfl rfl ?_
  refine iu_arr C (tt := 0) (n := 400) rfl rfl rfl (Or.inl ⟨rfl, rfl⟩) (by decide) (by decide) (Nat.le_of_ble_eq_true rfl) rfl rfl (Nat.le_of_ble_eq_true rfl) (Nat.le_of_ble_eq_true rfl) rfl hT ⟨rfl, rfl⟩ rfl (fun b5 M1 s sK => ?_)
  have hx9 := s.1.st hT
  have p3 := p3.st hx9 (by decide) (by decide)
  have p4 := p4.st hx9 (by decide) (by decide)
  have hX := hX.tr s.1
  have hK := hK.tr sK
  have r3 := (s.2.2.2.2.1 3 (by decide)).trans r3
  have r4 := (s.2.2.2.2.1 4 (by decide)).trans r4
  have r5 := s.2.2.2.2.2.1
  have p5 := s.2.2.2.2.2.2.1
  have hT := s.2.1.trans hT
  refine k_aload_n C rfl rfl rfl ?_
  refine k_sipush C (x := 400) rfl rfl rfl ?_
  refine iu_arr C (tt := 0) (n := 400) rfl rfl rfl (Or.inl ⟨rfl, rfl⟩) (by decide) (by decide) (Nat.le_of_ble_eq_true rfl) rfl rfl (Nat.le_of_ble_eq_true rfl) (Nat.le_of_ble_eq_true rfl) rfl hT ⟨rfl, rfl⟩ rfl (fun b6 M1 s sK => ?_)
  have hx9 := s.1.st hT
  have p3 := p3.st hx9 (by decide) (by decide)
  have p4 := p4.st hx9 (by decide) (by decide)
  have p5 := p5.st hx9 (by decide) (by decide)
  have hX := hX.tr s.1
  have hK := hK.tr sK
  have r3 := (s.2.2.2.2.1 3 (by decide)).trans r3
  have r4 := (s.2.2.2.2.1 4 (by decide)).trans r4
  have r5 := (s.2.2.2.2.1 5 (by decide)).trans r5
  have r6 := s.2.2.2.2.2.1
  have p6 := s.2.2.2.2.2.2.1
  have hT := s.2.1.trans hT
  refine k_aload_n C rfl rfl rfl ?_
  refine k_aload_n C rfl rfl rfl ?_
  refine iu_put C rfl rfl rfl hT ⟨rfl, rfl⟩ rfl (fun M1 s sE => ?_)
  have hx9 := s.1.st hT
  have p3 := p3.st hx9 (by decide) (by decide)
  have p4 := p4.st hx9 (by decide) (by decide)
  have p5 := p5.st hx9 (by decide) (by decide)
  have p6 := p6.st hx9 (by decide) (by decide)
  have hX := hX.tr s.1
  have hK := hK.par (x := x) (k := 2) hp_al (by unfold trT; omega) (by decide)
  rw [← sE] at hK
  have r3 := (s.2.2.2.2.1 3 (by decide)).trans r3
  have r4 := (s.2.2.2.2.1 4 (by decide)).trans r4
  have r5 := (s.2.2.2.2.1 5 (by decide)).trans r5
  have r6 := (s.2.2.2.2.1 6 (by decide)).trans r6
  have r2 := s.2.2.2.2.2
  have hT := s.2.1.trans hT
  exact k_vret C rfl rfl (Nat.le_of_ble_eq_true rfl) (Nat.le_of_ble_eq_true rfl) ⟨rfl, hK, hX, ⟨hT, ⟨_, r3, p3⟩, ⟨_, r4, p4⟩, ⟨_, r5, p5⟩, ⟨_, r6, p6⟩, r2⟩⟩
theorem i_X3 {d : Nat} {M : Mm} {x al : Nat} (hT : mT M x = 4) (h0 : ∀ j, mI M x j = 0) (hp_al : mT M al = 1) : Ex (d + 1) 46 [.ref x, .ref al] M 4 24 (pC fun M1 => Ko M M1 ∧ Ex1 x M M1 ∧ gPo M1 x al) := by
  refine ⟨_, rfl, Nat.le_of_ble_eq_true rfl, fun V C S => ?_⟩
  show V 0 [(0, .ref x), (1, .ref al)] [] M 0 0
  have hX : Ex1 x M M := Ex1.rf
  have hK : Ko M M := Ko.rf
  refine k_aload_n C rfl rfl rfl ?_
  refine i_obj C rfl rfl rfl (Nat.le_of_ble_eq_true rfl) ?_
  refine k_aload_n C rfl rfl rfl ?_
  refine k_iconst C (x := 3) rfl rfl rfl ?_
  refine iu_arr C (tt := 0) (n := 3) rfl rfl rfl (Or.inl ⟨rfl, rfl⟩) (by decide) (by decide) (Nat.le_of_ble_eq_true rfl) rfl rfl (Nat.le_of_ble_eq_true rfl) (Nat.le_of_ble_eq_true rfl) rfl hT ⟨rfl, rfl⟩ rfl (fun b2 M1 s sK => ?_)
  have hx9 := s.1.st hT
  have hX := hX.tr s.1
  have hK := hK.tr sK
  have r2 := s.2.2.2.2.2.1
  have p2 := s.2.2.2.2.2.2.1
  have hT := s.2.1.trans hT
  refine k_aload_n C rfl rfl rfl ?_
  refine k_iconst C (x := 3) rfl rfl rfl ?_
  refine iu_arr C (tt := 0) (n := 3) rfl rfl rfl (Or.inl ⟨rfl, rfl⟩) (by decide) (by decide) (Nat.le_of_ble_eq_true rfl) rfl rfl (Nat.le_of_ble_eq_true rfl) (Nat.le_of_ble_eq_true rfl) rfl hT ⟨rfl, rfl⟩ rfl (fun b3 M1 s sK => ?_)
  have hx9 := s.1.st hT
  have p2 := p2.st hx9 (by decide) (by decide)
  have hX := hX.tr s.1
  have hK := hK.tr sK
  have r2 := (s.2.2.2.2.1 2 (by decide)).trans r2
  have r3 := s.2.2.2.2.2.1
  have p3 := s.2.2.2.2.2.2.1
  have hT := s.2.1.trans hT
  refine k_aload_n C rfl rfl rfl ?_
  refine k_bipush C (x := 9) rfl rfl rfl ?_
  refine iu_arr C (tt := 0) (n := 9) rfl rfl rfl (Or.inl ⟨rfl, rfl⟩) (by decide) (by decide) (Nat.le_of_ble_eq_true rfl) rfl rfl (Nat.le_of_ble_eq_true rfl) (Nat.le_of_ble_eq_true rfl) rfl hT ⟨rfl, rfl⟩ rfl (fun b4 M1 s sK => ?_)
  have hx9 := s.1.st hT
  have p2 := p2.st hx9 (by decide) (by decide)
  have p3 := p3.st hx9 (by decide) (by decide)
  have hX := hX.tr s.1
  have hK := hK.tr sK
  have r2 := (s.2.2.2.2.1 2 (by decide)).trans r2
  have r3 := (s.2.2.2.2.1 3 (by decide)).trans r3
  have r4 := s.2.2.2.2.2.1
  have p4 := s.2.2.2.2.2.2.1
  have hT := s.2.1.trans hT
  refine k_aload_n C rfl rfl rfl ?_
  refine k_bipush C (x := 9) rfl rfl rfl ?_
  refine iu_arr C (tt := 0) (n := 9) rfl rfl rfl (Or.inl ⟨rfl, rfl⟩) (by decide) (by decide) (Nat.le_of_ble_eq_true rfl) rfl rfl (Nat.le_of_ble_eq_true rfl) (Nat.le_of_ble_eq_true rfl) rfl hT ⟨rfl, rfl⟩ rfl (fun b5 M1 s sK => ?_)
  have hx9 := s.1.st hT
  have p2 := p2.st hx9 (by decide) (by decide)
  have p3 := p3.st hx9 (by decide) (by decide)
  have p4 := p4.st hx9 (by decide) (by decide)
  have hX := hX.tr s.1
  have hK := hK.tr sK
  have r2 := (s.2.2.2.2.1 2 (by decide)).trans r2
  have r3 := (s.2.2.2.2.1 3 (by decide)).trans r3
  have r4 := (s.2.2.2.2.1 4 (by decide)).trans r4
  have r5 := s.2.2.2.2.2.1
  have p5 := s.2.2.2.2.2.2.1
  have hT := s.2.1.trans hT
  refine k_aload_n C rfl rfl rfl ?_
  refine k_aload_n C rfl rfl rfl ?_
  refine iu_put C rfl rfl rfl hT ⟨rfl, rfl⟩ rfl (fun M1 s sE => ?_)
  have hx9 := s.1.st hT
  have p2 := p2.st hx9 (by decide) (by decide)
  have p3 := p3.st hx9 (by decide) (by decide)
  have p4 := p4.st hx9 (by decide) (by decide)
  have p5 := p5.st hx9 (by decide) (by decide)
  have hX := hX.tr s.1
  have hK := hK.par (x := x) (k := 1) hp_al (by unfold trT; omega) (by decide)
  rw [← sE] at hK
  have r2 := (s.2.2.2.2.1 2 (by decide)).trans r2
  have r3 := (s.2.2.2.2.1 3 (by decide)).trans r3
  have r4 := (s.2.2.2.2.1 4 (by decide)).trans r4
  have r5 := (s.2.2.2.2.1 5 (by decide)).trans r5
  have r1 := s.2.2.2.2.2
  have hT := s.2.1.trans hT
  exact k_vret C rfl rfl (Nat.le_of_ble_eq_true rfl) (Nat.le_of_ble_eq_true rfl) ⟨rfl, hK, hX, ⟨hT, ⟨_, r2, p2⟩, ⟨_, r3, p3⟩, ⟨_, r4, p4⟩, ⟨_, r5, p5⟩, r1⟩⟩
theorem i_X10 {d : Nat} {M : Mm} {x : Nat} (hT : mT M x = 11) (h0 : ∀ j, mI M x j = 0) (hL : ∀ j, mL M x j = 0) : Ex (d + 1) 111 [.ref x] M 0 0 (pC fun M1 => Ko M M1 ∧ Ex1 x M M1 ∧ gWh M1 x) := by
  refine ⟨_, rfl, Nat.le_of_ble_eq_true rfl, fun V C S => ?_⟩
  show V 0 [(0, .ref x)] [] M 0 0
  have hX : Ex1 x M M := Ex1.rf
  have hK : Ko M M := Ko.rf
  refine k_aload_n C rfl rfl rfl ?_
  refine i_obj C rfl rfl rfl (Nat.le_of_ble_eq_true rfl) ?_
  exact k_vret C rfl rfl (Nat.le_of_ble_eq_true rfl) (Nat.le_of_ble_eq_true rfl) ⟨rfl, hK, hX, hT, hL⟩
end
-- 39.18.init.lean.txt
section
def gTb (M : Mm) (x : Nat) : Prop := mT M x = 10
theorem i_X9 {d : Nat} {M : Mm} {x : Nat} (hT : mT M x = 10) (h0 : ∀ j, mI M x j = 0) : Ex (d + 1) 94 [.ref x] M 0 0 (pC fun M1 => Ko M M1 ∧ Ex1 x M M1 ∧ gTb M1 x) := by
  refine ⟨_, rfl, Nat.le_of_ble_eq_true rfl, fun V C S => ?_⟩
  show V 0 [(0, .ref x)] [] M 0 0
  have hX : Ex1 x M M := Ex1.rf
  have hK : Ko M M := Ko.rf
  refine k_aload_n C rfl rfl rfl ?_
  refine i_obj C rfl rfl rfl (Nat.le_of_ble_eq_true rfl) ?_
  exact k_vret C rfl rfl (Nat.le_of_ble_eq_true rfl) (Nat.le_of_ble_eq_true rfl) ⟨rfl, hK, hX, hT⟩
set_option maxHeartbeats 1000000 in
theorem i_X8 {d : Nat} {M : Mm} {x : Nat} (hT : mT M x = 9) (h0 : ∀ j, mI M x j = 0) : Ex (d + 4) 95 [.ref x] M 149 5136 (pC fun M1 => Ko M M1 ∧ Ex1 x M M1 ∧ gSt M1 x) := by
  refine ⟨_, rfl, Nat.le_of_ble_eq_true rfl, fun V C S => ?_⟩
  show V 0 [(0, .ref x)] [] M 0 0
  have hX : Ex1 x M M := Ex1.rf
  have hK : Ko M M := Ko.rf
  have i0 : mI M x 0 = 0 := h0 0
  have i1 : mI M x 1 = 0 := h0 1
  have i2 : mI M x 2 = 0 := h0 2
  have i3 : mI M x 3 = 0 := h0 3
  have i4 : mI M x 4 = 0 := h0 4
  have i5 : mI M x 5 = 0 := h0 5
  refine k_aload_n C rfl rfl rfl ?_
  refine i_obj C rfl rfl rfl (Nat.le_of_ble_eq_true rfl) ?_
  refine k_aload_n C rfl rfl rfl ?_
  refine k_bipush C (x := 11) rfl rfl rfl ?_
  refine iu_putI C rfl rfl rfl hT (Or.inr rfl) rfl (fun M1 s sK => ?_)
  have hx9 := s.1.st hT
  have hX := hX.tr s.1
  have hK := hK.tr sK
  have i1 := (s.2.2.2.2.1 1 (by decide)).trans i1
  have i2 := (s.2.2.2.2.1 2 (by decide)).trans i2
  have i3 := (s.2.2.2.2.1 3 (by decide)).trans i3
  have i4 := (s.2.2.2.2.1 4 (by decide)).trans i4
  have i5 := (s.2.2.2.2.1 5 (by decide)).trans i5
  have i0 := s.2.2.2.2.2
  have hT := s.2.1.trans hT
  refine k_aload_n C rfl rfl rfl ?_
  refine k_bipush C (x := 40) rfl rfl rfl ?_
  refine iu_arr C (tt := 0) (n := 40) rfl rfl rfl (Or.inl ⟨rfl, rfl⟩) (by decide) (by decide) (Nat.le_of_ble_eq_true rfl) rfl rfl (Nat.le_of_ble_eq_true rfl) (Nat.le_of_ble_eq_true rfl) rfl hT ⟨rfl, rfl⟩ rfl (fun b6 M1 s sK => ?_)
  have hx9 := s.1.st hT
  have hX := hX.tr s.1
  have hK := hK.tr sK
  have i0 := (congrFun s.2.2.1 0).trans i0
  have i1 := (congrFun s.2.2.1 1).trans i1
  have i2 := (congrFun s.2.2.1 2).trans i2
  have i3 := (congrFun s.2.2.1 3).trans i3
  have i4 := (congrFun s.2.2.1 4).trans i4
  have i5 := (congrFun s.2.2.1 5).trans i5
  have r6 := s.2.2.2.2.2.1
  have p6 := s.2.2.2.2.2.2.1
  have hT := s.2.1.trans hT
  refine k_aload_n C rfl rfl rfl ?_
  refine k_bipush C (x := 40) rfl rfl rfl ?_
  refine i_rowP C (n := 40) rfl (Nat.le_of_ble_eq_true rfl) rfl rfl rfl rfl rfl rfl (Nat.le_of_ble_eq_true rfl) (Nat.le_of_ble_eq_true rfl) (by omega) rfl hT ⟨rfl, rfl⟩ rfl (Nat.le_of_ble_eq_true rfl) (fun b7 M1 s sK => ?_)
  have hx9 := s.1.st hT
  have p6 := p6.st hx9 (by decide) (by decide)
  have hX := hX.tr s.1
  have hK := hK.tr sK
  have r6 := (s.2.2.2.2.1 6 (by decide)).trans r6
  have i0 := (congrFun s.2.2.1 0).trans i0
  have i1 := (congrFun s.2.2.1 1).trans i1
  have i2 := (congrFun s.2.2.1 2).trans i2
  have i3 := (congrFun s.2.2.1 3).trans i3
  have i4 := (congrFun s.2.2.1 4).trans i4
  have i5 := (congrFun s.2.2.1 5).trans i5
  have r7 := s.2.2.2.2.2.1
  have p7 := s.2.2.2.2.2.2 (by decide) (by decide) (by decide)
  have hT := s.2.1.trans hT
  refine k_aload_n C rfl rfl rfl ?_
  refine k_bipush C (x := 16) rfl rfl rfl ?_
  refine i_rowP C (n := 16) rfl (Nat.le_of_ble_eq_true rfl) rfl rfl rfl rfl rfl rfl (Nat.le_of_ble_eq_true rfl) (Nat.le_of_ble_eq_true rfl) (by omega) rfl hT ⟨rfl, rfl⟩ rfl (Nat.le_of_ble_eq_true rfl) (fun b8 M1 s sK => ?_)
  have hx9 := s.1.st hT
  have p6 := p6.st hx9 (by decide) (by decide)
  have p7 := p7.st hx9 (by decide)
  have hX := hX.tr s.1
  have hK := hK.tr sK
  have r6 := (s.2.2.2.2.1 6 (by decide)).trans r6
  have r7 := (s.2.2.2.2.1 7 (by decide)).trans r7
  have i0 := (congrFun s.2.2.1 0).trans i0
  have i1 := (congrFun s.2.2.1 1).trans i1
  have i2 := (congrFun s.2.2.1 2).trans i2
  have i3 := (congrFun s.2.2.1 3).trans i3
  have i4 := (congrFun s.2.2.1 4).trans i4
  have i5 := (congrFun s.2.2.1 5).trans i5
  have r8 := s.2.2.2.2.2.1
  have p8 := s.2.2.2.2.2.2 (by decide) (by decide) (by decide)
  have hT := s.2.1.trans hT
  refine k_aload_n C rfl rfl rfl ?_
  refine k_bipush C (x := 8) rfl rfl rfl ?_
  refine iu_arrA C (tt := 4) (n := 8) rfl rfl rfl rfl (Or.inr (Or.inl ⟨rfl, rfl⟩)) (by decide) (by decide) (Nat.le_of_ble_eq_true rfl) rfl rfl (Nat.le_of_ble_eq_true rfl) (Nat.le_of_ble_eq_true rfl) rfl hT ⟨rfl, rfl⟩ rfl (fun b9 M1 s sK => ?_)
  have b9new := hX.fresh (by rw [hT]; decide) s.2.2.2.2.2.2.2.2.2
  have hx9 := s.1.st hT
  have p6 := p6.st hx9 (by decide) (by decide)
  have p7 := p7.st hx9 (by decide)
  have p8 := p8.st hx9 (by decide)
  have hX := hX.tr s.1
  have hK := hK.tr sK
  have r6 := (s.2.2.2.2.1 6 (by decide)).trans r6
  have r7 := (s.2.2.2.2.1 7 (by decide)).trans r7
  have r8 := (s.2.2.2.2.1 8 (by decide)).trans r8
  have i0 := (congrFun s.2.2.1 0).trans i0
  have i1 := (congrFun s.2.2.1 1).trans i1
  have i2 := (congrFun s.2.2.1 2).trans i2
  have i3 := (congrFun s.2.2.1 3).trans i3
  have i4 := (congrFun s.2.2.1 4).trans i4
  have i5 := (congrFun s.2.2.1 5).trans i5
  have r9 := s.2.2.2.2.2.1
  have p9 := s.2.2.2.2.2.2.1
  have hT := s.2.1.trans hT
  refine k_aload_n C rfl rfl rfl ?_
  refine k_bipush C (x := 8) rfl rfl rfl ?_
  refine iu_arrA C (tt := 5) (n := 8) rfl rfl rfl rfl (Or.inr (Or.inr ⟨rfl, rfl⟩)) (by decide) (by decide) (Nat.le_of_ble_eq_true rfl) rfl rfl (Nat.le_of_ble_eq_true rfl) (Nat.le_of_ble_eq_true rfl) rfl hT ⟨rfl, rfl⟩ rfl (fun b10 M1 s sK => ?_)
  have b10new := hX.fresh (by rw [hT]; decide) s.2.2.2.2.2.2.2.2.2
  have hx9 := s.1.st hT
  have p6 := p6.st hx9 (by decide) (by decide)
  have p7 := p7.st hx9 (by decide)
  have p8 := p8.st hx9 (by decide)
  have p9 := p9.st hx9 (by decide) (by decide)
  have hX := hX.tr s.1
  have hK := hK.tr sK
  have r6 := (s.2.2.2.2.1 6 (by decide)).trans r6
  have r7 := (s.2.2.2.2.1 7 (by decide)).trans r7
  have r8 := (s.2.2.2.2.1 8 (by decide)).trans r8
  have r9 := (s.2.2.2.2.1 9 (by decide)).trans r9
  have i0 := (congrFun s.2.2.1 0).trans i0
  have i1 := (congrFun s.2.2.1 1).trans i1
  have i2 := (congrFun s.2.2.1 2).trans i2
  have i3 := (congrFun s.2.2.1 3).trans i3
  have i4 := (congrFun s.2.2.1 4).trans i4
  have i5 := (congrFun s.2.2.1 5).trans i5
  have r10 := s.2.2.2.2.2.1
  have p10 := s.2.2.2.2.2.2.1
  have hT := s.2.1.trans hT
  refine k_iconst C (x := 0) rfl rfl rfl ?_
  refine k_istore_n C (lw := [(1, .int _), (0, _)]) rfl rfl (Nat.le_of_ble_eq_true rfl) rfl ?_
  have hTb := p9.1; have hNb := p9.2
  have loop : ∀ (k i : Nat) (M2 : Mm), k = 8 - i → i ≤ 8 → Ex1 b9 M1 M2 → Ko M1 M2 → mT M2 b9 = 24 → mN M2 b9 = 8 → (∀ j, j < i → ∃ t, mR M2 b9 j = some t ∧ gTb M2 t) → V 56 [(1, .int (Int32.ofNat i)), (0, .ref x)] [] M2 (117 + 1 * i) (2520 + 4 * i) := by
    intro k
    induction k using Nat.strongRecOn with
    | _ k ih =>
      intro i M2 hk hin hE hK2 hT2 hN2 hf
      have gx := hE x (by rw [hT]; decide) (fun e => by rw [e, hTb] at hT; exact absurd hT (by decide))
      refine k_iload_n C rfl rfl rfl ?_
      refine k_aload_n C rfl rfl rfl ?_
      refine i_getR C rfl rfl rfl (gx.1.trans hT) rfl ((congrFun gx.2.2.2.2 9).trans r9) ?_
      refine k_alen C rfl rfl (by rw [hT2]; exact Nat.le_of_ble_eq_true rfl) ?_
      rw [hN2]
      refine k_icmp_ge C (t := 84) rfl rfl rfl (fun c => ?_) (fun c => ?_)
      · have hi : i = 8 := Nat.le_antisymm hin ((n_le (Nat.le_of_ble_eq_true rfl) (by omega)).mp c)
        subst hi
        have hst := hE.st hTb
        have hgood : gTabs M2 b9 8 := ⟨hT2, hN2, hf⟩
        have p6 := p6.st hst (by decide) (by decide)
        have r6 := (congrFun gx.2.2.2.2 6).trans r6
        have p7 := p7.st hst (by decide)
        have r7 := (congrFun gx.2.2.2.2 7).trans r7
        have p8 := p8.st hst (by decide)
        have r8 := (congrFun gx.2.2.2.2 8).trans r8
        have p9 := hgood
        have r9 := (congrFun gx.2.2.2.2 9).trans r9
        have p10 := p10.st hst (by decide) (by decide)
        have r10 := (congrFun gx.2.2.2.2 10).trans r10
        have i0 := (congrFun gx.2.2.1 0).trans i0
        have i1 := (congrFun gx.2.2.1 1).trans i1
        have i2 := (congrFun gx.2.2.1 2).trans i2
        have i3 := (congrFun gx.2.2.1 3).trans i3
        have i4 := (congrFun gx.2.2.1 4).trans i4
        have i5 := (congrFun gx.2.2.1 5).trans i5
        have hT := gx.1.trans hT
        have hX9 := hX
        have hB9 : mT M b9 = 0 := b9new
        have hX : Ex1 x M M2 := fun a ha hax => (hX9 a ha hax).tr (hE a (by rw [(hX9 a ha hax).1]; exact ha) (fun e => ha (by rw [e]; exact hB9)))
        have hK := hK.tr hK2
        clear ih hf hk hin hE hK2 hT2 hN2 hst gx hTb hNb hX9
        generalize M2 = M1 at *
        refine k_iconst C (x := 0) rfl rfl rfl ?_
        refine k_istore_n C (lw := [(1, .int _), (0, _)]) rfl rfl (Nat.le_of_ble_eq_true rfl) rfl ?_
        have hTb := p10.1; have hNb := p10.2
        have loop : ∀ (k i : Nat) (M2 : Mm), k = 8 - i → i ≤ 8 → Ex1 b10 M1 M2 → Ko M1 M2 → mT M2 b10 = 25 → mN M2 b10 = 8 → (∀ j, j < i → ∃ t, mR M2 b10 j = some t ∧ gSg M2 t) → V 86 [(1, .int (Int32.ofNat i)), (0, .ref x)] [] M2 (125 + 3 * i) (2552 + 323 * i) := by
          intro k
          induction k using Nat.strongRecOn with
          | _ k ih =>
            intro i M2 hk hin hE hK2 hT2 hN2 hf
            have gx := hE x (by rw [hT]; decide) (fun e => by rw [e, hTb] at hT; exact absurd hT (by decide))
            refine k_iload_n C rfl rfl rfl ?_
            refine k_aload_n C rfl rfl rfl ?_
            refine i_getR C rfl rfl rfl (gx.1.trans hT) rfl ((congrFun gx.2.2.2.2 10).trans r10) ?_
            refine k_alen C rfl rfl (by rw [hT2]; exact Nat.le_of_ble_eq_true rfl) ?_
            rw [hN2]
            refine k_icmp_ge C (t := 114) rfl rfl rfl (fun c => ?_) (fun c => ?_)
            · have hi : i = 8 := Nat.le_antisymm hin ((n_le (Nat.le_of_ble_eq_true rfl) (by omega)).mp c)
              subst hi
              have hst := hE.st hTb
              have hgood : gSgs M2 b10 8 := ⟨hT2, hN2, hf⟩
              have p6 := p6.st hst (by decide) (by decide)
              have r6 := (congrFun gx.2.2.2.2 6).trans r6
              have p7 := p7.st hst (by decide)
              have r7 := (congrFun gx.2.2.2.2 7).trans r7
              have p8 := p8.st hst (by decide)
              have r8 := (congrFun gx.2.2.2.2 8).trans r8
              have p9 := p9.st hst (by decide)
              have r9 := (congrFun gx.2.2.2.2 9).trans r9
              have p10 := hgood
              have r10 := (congrFun gx.2.2.2.2 10).trans r10
              have i0 := (congrFun gx.2.2.1 0).trans i0
              have i1 := (congrFun gx.2.2.1 1).trans i1
              have i2 := (congrFun gx.2.2.1 2).trans i2
              have i3 := (congrFun gx.2.2.1 3).trans i3
              have i4 := (congrFun gx.2.2.1 4).trans i4
              have i5 := (congrFun gx.2.2.1 5).trans i5
              have hX1 : Ex1 x M M2 := fun a ha hax => (hX a ha hax).tr (hE a (by rw [(hX a ha hax).1]; exact ha) (fun e => ha (by rw [e]; exact b10new)))
              have hK := hK.tr hK2
              exact k_vret C rfl rfl (Nat.le_of_ble_eq_true rfl) (Nat.le_of_ble_eq_true rfl) ⟨rfl, hK, hX1, gx.1.trans hT, i0, i1, i2, i3, i4, i5, ⟨_, r6, p6⟩, ⟨_, r7, p7⟩, ⟨_, r8, p8⟩, ⟨_, r9, p9⟩, ⟨_, r10, p10⟩⟩
            · have hi : i < 8 := Nat.lt_of_not_le (fun h => c ((n_le (Nat.le_of_ble_eq_true rfl) (by omega)).mpr h))
              refine k_aload_n C rfl rfl rfl ?_
              refine i_getR C rfl rfl rfl (gx.1.trans hT) rfl ((congrFun gx.2.2.2.2 10).trans r10) ?_
              refine k_iload_n C rfl rfl rfl ?_
              refine iu_new C (n := 3) rfl rfl rfl rfl rfl rfl (by omega) (by omega) (fun f M3 f0 fE fT fI fL fK => ?_)
              refine k_dup C rfl rfl rfl ?_
              refine i_callN C (i_X7 fT fI) rfl rfl rfl rfl rfl (by omega) (by omega) (Nat.le_of_ble_eq_true rfl) ?_
              intro M4 h4
              have hE4 : Ext M2 M4 := fE.e1 h4.2.1 f0
              have eb := hE4 b10 (by rw [hT2]; decide)
              have hT4 := eb.1.trans hT2
              have hN4 := eb.2.1.trans hN2
              refine k_aast C (t := 5) (ci := 7) rfl rfl hT4 (h4.2.2.1) (Or.inr (Or.inr ⟨rfl, rfl⟩)) (vin rfl (by rw [hN4]; exact hi) (by rw [hN4]; exact Nat.le_of_ble_eq_true rfl)) ?_
              rw [n_nat (by omega)]
              refine k_inc1 C (lw := [(1, .int _), (0, _)]) rfl rfl rfl (Nat.le_of_ble_eq_true rfl) rfl ?_
              refine k_goto C (pc2 := 86) rfl rfl ?_
              rw [n_s]
              have hE5 : Ex1 b10 M2 (sR M4 b10 i (some f)) := fun a ha hab => (hE4 a ha).tr (ag_sR hab)
              have hcc : 125 + 3 * i + 1 + 2 = 125 + 3 * (i + 1) := by omega
              have hss : 2552 + 323 * i + 3 + 320 = 2552 + 323 * (i + 1) := by omega
              rw [hcc, hss]
              refine ih (8 - (i + 1)) (by omega) (i + 1) _ rfl hi (hE.tr hE5) (hK2.tr (Ko.obj fK.1 fK.2 f0 (by rw [fT]; decide) h4.1)) hT4 hN4 (fun j hj => ?_)
              by_cases hji : j = i
              · exact ⟨f, by rw [hji]; exact u2_s, (fun {t} (h : gSg M4 t) => h.go (fun a ha => ag_sR (fun e => by rw [e, hT4] at ha; omega)) : ∀ {t}, gSg M4 t → gSg (sR M4 b10 i (some f)) t) h4.2.2⟩
              · obtain ⟨g, g1, g2⟩ := hf j (by omega)
                refine ⟨g, (u2_k hji).trans ?_, (fun {t} (h : gSg M4 t) => h.go (fun a ha => ag_sR (fun e => by rw [e, hT4] at ha; omega)) : ∀ {t}, gSg M4 t → gSg (sR M4 b10 i (some f)) t) ((fun {t} (h : gSg M2 t) => h.go (fun a ha => hE4 a (by omega)) : ∀ {t}, gSg M2 t → gSg M4 t) g2)⟩
                show mR M4 b10 j = some g
                rw [eb.2.2.2.2]; exact g1
        exact loop 8 0 M1 rfl (Nat.zero_le 8) Ex1.rf Ko.rf hTb hNb (fun j hj => absurd hj (Nat.not_lt_zero j))
      · have hi : i < 8 := Nat.lt_of_not_le (fun h => c ((n_le (Nat.le_of_ble_eq_true rfl) (by omega)).mpr h))
        refine k_aload_n C rfl rfl rfl ?_
        refine i_getR C rfl rfl rfl (gx.1.trans hT) rfl ((congrFun gx.2.2.2.2 9).trans r9) ?_
        refine k_iload_n C rfl rfl rfl ?_
        refine iu_new C (n := 4) rfl rfl rfl rfl rfl rfl (by omega) (by omega) (fun f M3 f0 fE fT fI fL fK => ?_)
        refine k_dup C rfl rfl rfl ?_
        refine i_callN C (i_X9 fT fI) rfl rfl rfl rfl rfl (by omega) (by omega) (Nat.le_of_ble_eq_true rfl) ?_
        intro M4 h4
        have hE4 : Ext M2 M4 := fE.e1 h4.2.1 f0
        have eb := hE4 b9 (by rw [hT2]; decide)
        have hT4 := eb.1.trans hT2
        have hN4 := eb.2.1.trans hN2
        refine k_aast C (t := 4) (ci := 9) rfl rfl hT4 (h4.2.2) (Or.inr (Or.inl ⟨rfl, rfl⟩)) (vin rfl (by rw [hN4]; exact hi) (by rw [hN4]; exact Nat.le_of_ble_eq_true rfl)) ?_
        rw [n_nat (by omega)]
        refine k_inc1 C (lw := [(1, .int _), (0, _)]) rfl rfl rfl (Nat.le_of_ble_eq_true rfl) rfl ?_
        refine k_goto C (pc2 := 56) rfl rfl ?_
        rw [n_s]
        have hE5 : Ex1 b9 M2 (sR M4 b9 i (some f)) := fun a ha hab => (hE4 a ha).tr (ag_sR hab)
        have hcc : 117 + 1 * i + 1 + 0 = 117 + 1 * (i + 1) := by omega
        have hss : 2520 + 4 * i + 4 + 0 = 2520 + 4 * (i + 1) := by omega
        rw [hcc, hss]
        refine ih (8 - (i + 1)) (by omega) (i + 1) _ rfl hi (hE.tr hE5) (hK2.tr (Ko.obj fK.1 fK.2 f0 (by rw [fT]; decide) h4.1)) hT4 hN4 (fun j hj => ?_)
        by_cases hji : j = i
        · exact ⟨f, by rw [hji]; exact u2_s, (fun {t} (h : mT M4 t = 10) => (ag_sR (fun e => by rw [e, hT4] at h; exact absurd h (by decide))).1.trans h : ∀ {t}, gTb M4 t → gTb (sR M4 b9 i (some f)) t) h4.2.2⟩
        · obtain ⟨g, g1, g2⟩ := hf j (by omega)
          refine ⟨g, (u2_k hji).trans ?_, (fun {t} (h : mT M4 t = 10) => (ag_sR (fun e => by rw [e, hT4] at h; exact absurd h (by decide))).1.trans h : ∀ {t}, gTb M4 t → gTb (sR M4 b9 i (some f)) t) ((fun {t} (h : mT M2 t = 10) => (hE4 t (by rw [h]; decide)).1.trans h : ∀ {t}, gTb M2 t → gTb M4 t) g2)⟩
          show mR M4 b9 j = some g
          rw [eb.2.2.2.2]; exact g1
  exact loop 8 0 M1 rfl (Nat.zero_le 8) Ex1.rf Ko.rf hTb hNb (fun j hj => absurd hj (Nat.not_lt_zero j))
def gLF (M1 : Mm) (x : Nat) : Prop := mT M1 x = 12 ∧ mI M1 x 3 = 0 ∧ mI M1 x 4 = -1 ∧ ∃ rd nw kp al cc rw se po wh w1 w2 w3 : Nat, mR M1 x 0 = some rd ∧ mR M1 x 1 = some nw ∧ mR M1 x 2 = some kp ∧ mR M1 x 5 = some al ∧ mR M1 x 6 = some cc ∧ mR M1 x 7 = some rw ∧ mR M1 x 8 = some se ∧ mR M1 x 9 = some po ∧ mR M1 x 10 = some wh ∧ mR M1 x 11 = some w1 ∧ mR M1 x 12 = some w2 ∧ mR M1 x 13 = some w3 ∧ gRd M1 rd ∧ gSt M1 nw ∧ gSt M1 kp ∧ gAl M1 al nw ∧ gCc M1 cc al ∧ gRw M1 rw al cc ∧ gSe M1 se al ∧ gPo M1 po al ∧ gWh M1 wh ∧ gF M1 w1 ∧ gF M1 w2 ∧ gF M1 w3 ∧ kp ≠ nw
set_option maxHeartbeats 1000000 in
theorem i_X11 {d : Nat} {M : Mm} {x : Nat} (hT : mT M x = 12) (h0 : ∀ j, mI M x j = 0) : Ex (d + 5) 125 [.ref x] M 411 18615 (pC fun M1 => Ko M M1 ∧ Ex1 x M M1 ∧ gLF M1 x) := by
  refine ⟨_, rfl, Nat.le_of_ble_eq_true rfl, fun V C S => ?_⟩
  show V 0 [(0, .ref x)] [] M 0 0
  have hX : Ex1 x M M := Ex1.rf
  have hK : Ko M M := Ko.rf
  have i3 : mI M x 3 = 0 := h0 3
  have i4 : mI M x 4 = 0 := h0 4
  refine k_aload_n C rfl rfl rfl ?_
  refine i_obj C rfl rfl rfl (Nat.le_of_ble_eq_true rfl) ?_
  refine k_aload_n C rfl rfl rfl ?_
  refine iu_new C (n := 6) rfl rfl rfl rfl rfl rfl (Nat.le_of_ble_eq_true rfl) (Nat.le_of_ble_eq_true rfl) (fun n1 M1 f0 fE fT fI fL fK => ?_)
  have ex := fE _ (by rw [hT]; decide)
  have hT1 := ex.1.trans hT
  refine k_dup C rfl rfl rfl ?_
  refine i_callN C (i_X4 fT fI) rfl rfl rfl rfl rfl (Nat.le_of_ble_eq_true rfl) (Nat.le_of_ble_eq_true rfl) (Nat.le_of_ble_eq_true rfl) ?_
  intro M2 g
  have gE := fE.e1 g.2.1 f0
  have ex2 := gE _ (by rw [hT]; decide)
  refine iu_put C rfl rfl rfl (ex2.1.trans hT) ⟨rfl, rfl⟩ rfl (fun M3 s sE => ?_)
  have kO := Ko.obj (x := x) (k := 0) fK.1 fK.2 f0 (by rw [fT]; decide) g.1
  rw [← sE] at kO
  have hK := hK.tr kO
  have hX9 := s.1.st (ex2.1.trans hT)
  have gS : Stt 12 _ _ := gE.st
  have i3 := ((congrFun s.2.2.1 3).trans (congrFun ex2.2.2.1 3)).trans i3
  have i4 := ((congrFun s.2.2.1 4).trans (congrFun ex2.2.2.1 4)).trans i4
  have r0 := s.2.2.2.2.2
  have p0 := g.2.2.st hX9 (by decide)
  have hX := hX.tr ((gE.to1 (x := x)).tr s.1)
  have hT := s.2.1.trans (ex2.1.trans hT)
  refine k_aload_n C rfl rfl rfl ?_
  refine iu_new C (n := 11) rfl rfl rfl rfl rfl rfl (Nat.le_of_ble_eq_true rfl) (Nat.le_of_ble_eq_true rfl) (fun n2 M1 f0 fE fT fI fL fK => ?_)
  have ex := fE _ (by rw [hT]; decide)
  have hT1 := ex.1.trans hT
  have q0 := (congrFun ex.2.2.2.2 0).trans r0
  refine k_dup C rfl rfl rfl ?_
  refine i_call C (i_X8 fT fI) rfl rfl rfl rfl rfl ⟨_, rfl, rfl, rfl⟩ rfl rfl (Nat.le_of_ble_eq_true rfl) (Nat.le_of_ble_eq_true rfl) (Nat.le_of_ble_eq_true rfl) ?_
  intro M2 g
  have gE := fE.e1 g.2.1 f0
  have ex2 := gE _ (by rw [hT]; decide)
  refine iu_put C rfl rfl rfl (ex2.1.trans hT) ⟨rfl, rfl⟩ rfl (fun M3 s sE => ?_)
  have kO := Ko.obj (x := x) (k := 1) fK.1 fK.2 f0 (by rw [fT]; decide) g.1
  rw [← sE] at kO
  have hK := hK.tr kO
  have hX9 := s.1.st (ex2.1.trans hT)
  have gS : Stt 12 _ _ := gE.st
  have p0 := p0.st gS (by decide)
  have p0 := p0.st hX9 (by decide)
  have r0 := (s.2.2.2.2.1 0 (by decide)).trans ((congrFun ex2.2.2.2.2 0).trans r0)
  have i3 := ((congrFun s.2.2.1 3).trans (congrFun ex2.2.2.1 3)).trans i3
  have i4 := ((congrFun s.2.2.1 4).trans (congrFun ex2.2.2.1 4)).trans i4
  have r1 := s.2.2.2.2.2
  have p1 := g.2.2.st hX9 (by decide)
  have hX := hX.tr ((gE.to1 (x := x)).tr s.1)
  have hT := s.2.1.trans (ex2.1.trans hT)
  refine k_aload_n C rfl rfl rfl ?_
  refine iu_new C (n := 11) rfl rfl rfl rfl rfl rfl (Nat.le_of_ble_eq_true rfl) (Nat.le_of_ble_eq_true rfl) (fun n3 M1 f0 fE fT fI fL fK => ?_)
  have hkn : n3 ≠ n2 := fun e => by rw [e, p1.1] at f0; exact absurd f0 (by decide)
  have ex := fE _ (by rw [hT]; decide)
  have hT1 := ex.1.trans hT
  have q0 := (congrFun ex.2.2.2.2 0).trans r0
  have q1 := (congrFun ex.2.2.2.2 1).trans r1
  refine k_dup C rfl rfl rfl ?_
  refine i_call C (i_X8 fT fI) rfl rfl rfl rfl rfl ⟨_, rfl, rfl, rfl⟩ rfl rfl (Nat.le_of_ble_eq_true rfl) (Nat.le_of_ble_eq_true rfl) (Nat.le_of_ble_eq_true rfl) ?_
  intro M2 g
  have gE := fE.e1 g.2.1 f0
  have ex2 := gE _ (by rw [hT]; decide)
  refine iu_put C rfl rfl rfl (ex2.1.trans hT) ⟨rfl, rfl⟩ rfl (fun M3 s sE => ?_)
  have kO := Ko.obj (x := x) (k := 2) fK.1 fK.2 f0 (by rw [fT]; decide) g.1
  rw [← sE] at kO
  have hK := hK.tr kO
  have hX9 := s.1.st (ex2.1.trans hT)
  have gS : Stt 12 _ _ := gE.st
  have p0 := p0.st gS (by decide)
  have p0 := p0.st hX9 (by decide)
  have r0 := (s.2.2.2.2.1 0 (by decide)).trans ((congrFun ex2.2.2.2.2 0).trans r0)
  have p1 := p1.st gS (by decide)
  have p1 := p1.st hX9 (by decide)
  have r1 := (s.2.2.2.2.1 1 (by decide)).trans ((congrFun ex2.2.2.2.2 1).trans r1)
  have i3 := ((congrFun s.2.2.1 3).trans (congrFun ex2.2.2.1 3)).trans i3
  have i4 := ((congrFun s.2.2.1 4).trans (congrFun ex2.2.2.1 4)).trans i4
  have r2 := s.2.2.2.2.2
  have p2 := g.2.2.st hX9 (by decide)
  have hX := hX.tr ((gE.to1 (x := x)).tr s.1)
  have hT := s.2.1.trans (ex2.1.trans hT)
  refine k_aload_n C rfl rfl rfl ?_
  refine k_iconst C (x := -1) rfl rfl rfl ?_
  refine iu_putI C rfl rfl rfl hT (Or.inr rfl) rfl (fun M1 s sK => ?_)
  have hx9 := s.1.st hT
  have p0 := p0.st hx9 (by decide)
  have p1 := p1.st hx9 (by decide)
  have p2 := p2.st hx9 (by decide)
  have hX := hX.tr s.1
  have hK := hK.tr sK
  have r0 := (congrFun s.2.2.1 0).trans r0
  have r1 := (congrFun s.2.2.1 1).trans r1
  have r2 := (congrFun s.2.2.1 2).trans r2
  have i3 := (s.2.2.2.2.1 3 (by decide)).trans i3
  have i4 := s.2.2.2.2.2
  have hT := s.2.1.trans hT
  refine k_aload_n C rfl rfl rfl ?_
  refine iu_new C (n := 3) rfl rfl rfl rfl rfl rfl (Nat.le_of_ble_eq_true rfl) (Nat.le_of_ble_eq_true rfl) (fun n4 M1 f0 fE fT fI fL fK => ?_)
  have ex := fE _ (by rw [hT]; decide)
  have hT1 := ex.1.trans hT
  have q0 := (congrFun ex.2.2.2.2 0).trans r0
  have q1 := (congrFun ex.2.2.2.2 1).trans r1
  have q2 := (congrFun ex.2.2.2.2 2).trans r2
  refine k_dup C rfl rfl rfl ?_
  refine k_aload_n C rfl rfl rfl ?_
  refine i_getR C rfl rfl rfl hT1 rfl q1 ?_
  refine i_call C (i_X0 fT fI ((fE _ (by rw [p1.1]; decide)).1.trans p1.1)) rfl rfl rfl rfl rfl ⟨_, rfl, rfl, rfl⟩ rfl rfl (Nat.le_of_ble_eq_true rfl) (Nat.le_of_ble_eq_true rfl) (Nat.le_of_ble_eq_true rfl) ?_
  intro M2 g
  have gE := fE.e1 g.2.1 f0
  have ex2 := gE _ (by rw [hT]; decide)
  refine iu_put C rfl rfl rfl (ex2.1.trans hT) ⟨rfl, rfl⟩ rfl (fun M3 s sE => ?_)
  have kO := Ko.obj (x := x) (k := 5) fK.1 fK.2 f0 (by rw [fT]; decide) g.1
  rw [← sE] at kO
  have hK := hK.tr kO
  have hX9 := s.1.st (ex2.1.trans hT)
  have gS : Stt 12 _ _ := gE.st
  have p0 := p0.st gS (by decide)
  have p0 := p0.st hX9 (by decide)
  have r0 := (s.2.2.2.2.1 0 (by decide)).trans ((congrFun ex2.2.2.2.2 0).trans r0)
  have p1 := p1.st gS (by decide)
  have p1 := p1.st hX9 (by decide)
  have r1 := (s.2.2.2.2.1 1 (by decide)).trans ((congrFun ex2.2.2.2.2 1).trans r1)
  have p2 := p2.st gS (by decide)
  have p2 := p2.st hX9 (by decide)
  have r2 := (s.2.2.2.2.1 2 (by decide)).trans ((congrFun ex2.2.2.2.2 2).trans r2)
  have i3 := ((congrFun s.2.2.1 3).trans (congrFun ex2.2.2.1 3)).trans i3
  have i4 := ((congrFun s.2.2.1 4).trans (congrFun ex2.2.2.1 4)).trans i4
  have r5 := s.2.2.2.2.2
  have p5 := g.2.2.st hX9 (by decide)
  have hX := hX.tr ((gE.to1 (x := x)).tr s.1)
  have hT := s.2.1.trans (ex2.1.trans hT)
  refine k_aload_n C rfl rfl rfl ?_
  refine iu_new C (n := 6) rfl rfl rfl rfl rfl rfl (Nat.le_of_ble_eq_true rfl) (Nat.le_of_ble_eq_true rfl) (fun n5 M1 f0 fE fT fI fL fK => ?_)
  have ex := fE _ (by rw [hT]; decide)
  have hT1 := ex.1.trans hT
  have q0 := (congrFun ex.2.2.2.2 0).trans r0
  have q1 := (congrFun ex.2.2.2.2 1).trans r1
  have q2 := (congrFun ex.2.2.2.2 2).trans r2
  have q5 := (congrFun ex.2.2.2.2 5).trans r5
  refine k_dup C rfl rfl rfl ?_
  refine k_aload_n C rfl rfl rfl ?_
  refine i_getR C rfl rfl rfl hT1 rfl q5 ?_
  refine i_call C (i_X1 fT fI ((fE _ (by rw [p5.1]; decide)).1.trans p5.1)) rfl rfl rfl rfl rfl ⟨_, rfl, rfl, rfl⟩ rfl rfl (Nat.le_of_ble_eq_true rfl) (Nat.le_of_ble_eq_true rfl) (Nat.le_of_ble_eq_true rfl) ?_
  intro M2 g
  have gE := fE.e1 g.2.1 f0
  have ex2 := gE _ (by rw [hT]; decide)
  refine iu_put C rfl rfl rfl (ex2.1.trans hT) ⟨rfl, rfl⟩ rfl (fun M3 s sE => ?_)
  have kO := Ko.obj (x := x) (k := 6) fK.1 fK.2 f0 (by rw [fT]; decide) g.1
  rw [← sE] at kO
  have hK := hK.tr kO
  have hX9 := s.1.st (ex2.1.trans hT)
  have gS : Stt 12 _ _ := gE.st
  have p0 := p0.st gS (by decide)
  have p0 := p0.st hX9 (by decide)
  have r0 := (s.2.2.2.2.1 0 (by decide)).trans ((congrFun ex2.2.2.2.2 0).trans r0)
  have p1 := p1.st gS (by decide)
  have p1 := p1.st hX9 (by decide)
  have r1 := (s.2.2.2.2.1 1 (by decide)).trans ((congrFun ex2.2.2.2.2 1).trans r1)
  have p2 := p2.st gS (by decide)
  have p2 := p2.st hX9 (by decide)
  have r2 := (s.2.2.2.2.1 2 (by decide)).trans ((congrFun ex2.2.2.2.2 2).trans r2)
  have p5 := p5.st gS (by decide)
  have p5 := p5.st hX9 (by decide)
  have r5 := (s.2.2.2.2.1 5 (by decide)).trans ((congrFun ex2.2.2.2.2 5).trans r5)
  have i3 := ((congrFun s.2.2.1 3).trans (congrFun ex2.2.2.1 3)).trans i3
  have i4 := ((congrFun s.2.2.1 4).trans (congrFun ex2.2.2.1 4)).trans i4
  have r6 := s.2.2.2.2.2
  have p6 := g.2.2.st hX9 (by decide)
  have hX := hX.tr ((gE.to1 (x := x)).tr s.1)
  have hT := s.2.1.trans (ex2.1.trans hT)
  refine k_aload_n C rfl rfl rfl ?_
  refine iu_new C (n := 9) rfl rfl rfl rfl rfl rfl (Nat.le_of_ble_eq_true rfl) (Nat.le_of_ble_eq_true rfl) (fun n6 M1 f0 fE fT fI fL fK => ?_)
  have ex := fE _ (by rw [hT]; decide)
  have hT1 := ex.1.trans hT
  have q0 := (congrFun ex.2.2.2.2 0).trans r0
  have q1 := (congrFun ex.2.2.2.2 1).trans r1
  have q2 := (congrFun ex.2.2.2.2 2).trans r2
  have q5 := (congrFun ex.2.2.2.2 5).trans r5
  have q6 := (congrFun ex.2.2.2.2 6).trans r6
  refine k_dup C rfl rfl rfl ?_
  refine k_aload_n C rfl rfl rfl ?_
  refine i_getR C rfl rfl rfl hT1 rfl q5 ?_
  refine k_aload_n C rfl rfl rfl ?_
  refine i_getR C rfl rfl rfl hT1 rfl q6 ?_
  refine i_call C (i_X5 fT fI ((fE _ (by rw [p5.1]; decide)).1.trans p5.1) ((fE _ (by rw [p6.1]; decide)).1.trans p6.1)) rfl rfl rfl rfl rfl ⟨_, rfl, rfl, rfl⟩ rfl rfl (Nat.le_of_ble_eq_true rfl) (Nat.le_of_ble_eq_true rfl) (Nat.le_of_ble_eq_true rfl) ?_
  intro M2 g
  have gE := fE.e1 g.2.1 f0
  have ex2 := gE _ (by rw [hT]; decide)
  refine iu_put C rfl rfl rfl (ex2.1.trans hT) ⟨rfl, rfl⟩ rfl (fun M3 s sE => ?_)
  have kO := Ko.obj (x := x) (k := 7) fK.1 fK.2 f0 (by rw [fT]; decide) g.1
  rw [← sE] at kO
  have hK := hK.tr kO
  have hX9 := s.1.st (ex2.1.trans hT)
  have gS : Stt 12 _ _ := gE.st
  have p0 := p0.st gS (by decide)
  have p0 := p0.st hX9 (by decide)
  have r0 := (s.2.2.2.2.1 0 (by decide)).trans ((congrFun ex2.2.2.2.2 0).trans r0)
  have p1 := p1.st gS (by decide)
  have p1 := p1.st hX9 (by decide)
  have r1 := (s.2.2.2.2.1 1 (by decide)).trans ((congrFun ex2.2.2.2.2 1).trans r1)
  have p2 := p2.st gS (by decide)
  have p2 := p2.st hX9 (by decide)
  have r2 := (s.2.2.2.2.1 2 (by decide)).trans ((congrFun ex2.2.2.2.2 2).trans r2)
  have p5 := p5.st gS (by decide)
  have p5 := p5.st hX9 (by decide)
  have r5 := (s.2.2.2.2.1 5 (by decide)).trans ((congrFun ex2.2.2.2.2 5).trans r5)
  have p6 := p6.st gS (by decide)
  have p6 := p6.st hX9 (by decide)
  have r6 := (s.2.2.2.2.1 6 (by decide)).trans ((congrFun ex2.2.2.2.2 6).trans r6)
  have i3 := ((congrFun s.2.2.1 3).trans (congrFun ex2.2.2.1 3)).trans i3
  have i4 := ((congrFun s.2.2.1 4).trans (congrFun ex2.2.2.1 4)).trans i4
  have r7 := s.2.2.2.2.2
  have p7 := g.2.2.st hX9 (by decide)
  have hX := hX.tr ((gE.to1 (x := x)).tr s.1)
  have hT := s.2.1.trans (ex2.1.trans hT)
  refine k_aload_n C rfl rfl rfl ?_
  refine iu_new C (n := 7) rfl rfl rfl rfl rfl rfl (Nat.le_of_ble_eq_true rfl) (Nat.le_of_ble_eq_true rfl) (fun n7 M1 f0 fE fT fI fL fK => ?_)
  have ex := fE _ (by rw [hT]; decide)
  have hT1 := ex.1.trans hT
  have q0 := (congrFun ex.2.2.2.2 0).trans r0
  have q1 := (congrFun ex.2.2.2.2 1).trans r1
  have q2 := (congrFun ex.2.2.2.2 2).trans r2
  have q5 := (congrFun ex.2.2.2.2 5).trans r5
  have q6 := (congrFun ex.2.2.2.2 6).trans r6
  have q7 := (congrFun ex.2.2.2.2 7).trans r7
  refine k_dup C rfl rfl rfl ?_
  refine k_aload_n C rfl rfl rfl ?_
  refine i_getR C rfl rfl rfl hT1 rfl q5 ?_
  refine i_call C (i_X6 fT fI ((fE _ (by rw [p5.1]; decide)).1.trans p5.1)) rfl rfl rfl rfl rfl ⟨_, rfl, rfl, rfl⟩ rfl rfl (Nat.le_of_ble_eq_true rfl) (Nat.le_of_ble_eq_true rfl) (Nat.le_of_ble_eq_true rfl) ?_
  intro M2 g
  have gE := fE.e1 g.2.1 f0
  have ex2 := gE _ (by rw [hT]; decide)
  refine iu_put C rfl rfl rfl (ex2.1.trans hT) ⟨rfl, rfl⟩ rfl (fun M3 s sE => ?_)
  have kO := Ko.obj (x := x) (k := 8) fK.1 fK.2 f0 (by rw [fT]; decide) g.1
  rw [← sE] at kO
  have hK := hK.tr kO
  have hX9 := s.1.st (ex2.1.trans hT)
  have gS : Stt 12 _ _ := gE.st
  have p0 := p0.st gS (by decide)
  have p0 := p0.st hX9 (by decide)
  have r0 := (s.2.2.2.2.1 0 (by decide)).trans ((congrFun ex2.2.2.2.2 0).trans r0)
  have p1 := p1.st gS (by decide)
  have p1 := p1.st hX9 (by decide)
  have r1 := (s.2.2.2.2.1 1 (by decide)).trans ((congrFun ex2.2.2.2.2 1).trans r1)
  have p2 := p2.st gS (by decide)
  have p2 := p2.st hX9 (by decide)
  have r2 := (s.2.2.2.2.1 2 (by decide)).trans ((congrFun ex2.2.2.2.2 2).trans r2)
  have p5 := p5.st gS (by decide)
  have p5 := p5.st hX9 (by decide)
  have r5 := (s.2.2.2.2.1 5 (by decide)).trans ((congrFun ex2.2.2.2.2 5).trans r5)
  have p6 := p6.st gS (by decide)
  have p6 := p6.st hX9 (by decide)
  have r6 := (s.2.2.2.2.1 6 (by decide)).trans ((congrFun ex2.2.2.2.2 6).trans r6)
  have p7 := p7.st gS (by decide)
  have p7 := p7.st hX9 (by decide)
  have r7 := (s.2.2.2.2.1 7 (by decide)).trans ((congrFun ex2.2.2.2.2 7).trans r7)
  have i3 := ((congrFun s.2.2.1 3).trans (congrFun ex2.2.2.1 3)).trans i3
  have i4 := ((congrFun s.2.2.1 4).trans (congrFun ex2.2.2.1 4)).trans i4
  have r8 := s.2.2.2.2.2
  have p8 := g.2.2.st hX9 (by decide)
  have hX := hX.tr ((gE.to1 (x := x)).tr s.1)
  have hT := s.2.1.trans (ex2.1.trans hT)
  refine k_aload_n C rfl rfl rfl ?_
  refine iu_new C (n := 8) rfl rfl rfl rfl rfl rfl (Nat.le_of_ble_eq_true rfl) (Nat.le_of_ble_eq_true rfl) (fun n8 M1 f0 fE fT fI fL fK => ?_)
  have ex := fE _ (by rw [hT]; decide)
  have hT1 := ex.1.trans hT
  have q0 := (congrFun ex.2.2.2.2 0).trans r0
  have q1 := (congrFun ex.2.2.2.2 1).trans r1
  have q2 := (congrFun ex.2.2.2.2 2).trans r2
  have q5 := (congrFun ex.2.2.2.2 5).trans r5
  have q6 := (congrFun ex.2.2.2.2 6).trans r6
  have q7 := (congrFun ex.2.2.2.2 7).trans r7
  have q8 := (congrFun ex.2.2.2.2 8).trans r8
  refine k_dup C rfl rfl rfl ?_
  refine k_aload_n C rfl rfl rfl ?_
  refine i_getR C rfl rfl rfl hT1 rfl q5 ?_
  refine i_call C (i_X3 fT fI ((fE _ (by rw [p5.1]; decide)).1.trans p5.1)) rfl rfl rfl rfl rfl ⟨_, rfl, rfl, rfl⟩ rfl rfl (Nat.le_of_ble_eq_true rfl) (Nat.le_of_ble_eq_true rfl) (Nat.le_of_ble_eq_true rfl) ?_
  intro M2 g
  have gE := fE.e1 g.2.1 f0
  have ex2 := gE _ (by rw [hT]; decide)
  refine iu_put C rfl rfl rfl (ex2.1.trans hT) ⟨rfl, rfl⟩ rfl (fun M3 s sE => ?_)
  have kO := Ko.obj (x := x) (k := 9) fK.1 fK.2 f0 (by rw [fT]; decide) g.1
  rw [← sE] at kO
  have hK := hK.tr kO
  have hX9 := s.1.st (ex2.1.trans hT)
  have gS : Stt 12 _ _ := gE.st
  have p0 := p0.st gS (by decide)
  have p0 := p0.st hX9 (by decide)
  have r0 := (s.2.2.2.2.1 0 (by decide)).trans ((congrFun ex2.2.2.2.2 0).trans r0)
  have p1 := p1.st gS (by decide)
  have p1 := p1.st hX9 (by decide)
  have r1 := (s.2.2.2.2.1 1 (by decide)).trans ((congrFun ex2.2.2.2.2 1).trans r1)
  have p2 := p2.st gS (by decide)
  have p2 := p2.st hX9 (by decide)
  have r2 := (s.2.2.2.2.1 2 (by decide)).trans ((congrFun ex2.2.2.2.2 2).trans r2)
  have p5 := p5.st gS (by decide)
  have p5 := p5.st hX9 (by decide)
  have r5 := (s.2.2.2.2.1 5 (by decide)).trans ((congrFun ex2.2.2.2.2 5).trans r5)
  have p6 := p6.st gS (by decide)
  have p6 := p6.st hX9 (by decide)
  have r6 := (s.2.2.2.2.1 6 (by decide)).trans ((congrFun ex2.2.2.2.2 6).trans r6)
  have p7 := p7.st gS (by decide)
  have p7 := p7.st hX9 (by decide)
  have r7 := (s.2.2.2.2.1 7 (by decide)).trans ((congrFun ex2.2.2.2.2 7).trans r7)
  have p8 := p8.st gS (by decide)
  have p8 := p8.st hX9 (by decide)
  have r8 := (s.2.2.2.2.1 8 (by decide)).trans ((congrFun ex2.2.2.2.2 8).trans r8)
  have i3 := ((congrFun s.2.2.1 3).trans (congrFun ex2.2.2.1 3)).trans i3
  have i4 := ((congrFun s.2.2.1 4).trans (congrFun ex2.2.2.1 4)).trans i4
  have r9 := s.2.2.2.2.2
  have p9 := g.2.2.st hX9 (by decide)
  have hX := hX.tr ((gE.to1 (x := x)).tr s.1)
  have hT := s.2.1.trans (ex2.1.trans hT)
  refine k_aload_n C rfl rfl rfl ?_
  refine iu_new C (n := 8) rfl rfl rfl rfl rfl rfl (Nat.le_of_ble_eq_true rfl) (Nat.le_of_ble_eq_true rfl) (fun n9 M1 f0 fE fT fI fL fK => ?_)
  have ex := fE _ (by rw [hT]; decide)
  have hT1 := ex.1.trans hT
  have q0 := (congrFun ex.2.2.2.2 0).trans r0
  have q1 := (congrFun ex.2.2.2.2 1).trans r1
  have q2 := (congrFun ex.2.2.2.2 2).trans r2
  have q5 := (congrFun ex.2.2.2.2 5).trans r5
  have q6 := (congrFun ex.2.2.2.2 6).trans r6
  have q7 := (congrFun ex.2.2.2.2 7).trans r7
  have q8 := (congrFun ex.2.2.2.2 8).trans r8
  have q9 := (congrFun ex.2.2.2.2 9).trans r9
  refine k_dup C rfl rfl rfl ?_
  refine i_callN C (i_X10 fT fI fL) rfl rfl rfl rfl rfl (Nat.le_of_ble_eq_true rfl) (Nat.le_of_ble_eq_true rfl) (Nat.le_of_ble_eq_true rfl) ?_
  intro M2 g
  have gE := fE.e1 g.2.1 f0
  have ex2 := gE _ (by rw [hT]; decide)
  refine iu_put C rfl rfl rfl (ex2.1.trans hT) ⟨rfl, rfl⟩ rfl (fun M3 s sE => ?_)
  have kO := Ko.obj (x := x) (k := 10) fK.1 fK.2 f0 (by rw [fT]; decide) g.1
  rw [← sE] at kO
  have hK := hK.tr kO
  have hX9 := s.1.st (ex2.1.trans hT)
  have gS : Stt 12 _ _ := gE.st
  have p0 := p0.st gS (by decide)
  have p0 := p0.st hX9 (by decide)
  have r0 := (s.2.2.2.2.1 0 (by decide)).trans ((congrFun ex2.2.2.2.2 0).trans r0)
  have p1 := p1.st gS (by decide)
  have p1 := p1.st hX9 (by decide)
  have r1 := (s.2.2.2.2.1 1 (by decide)).trans ((congrFun ex2.2.2.2.2 1).trans r1)
  have p2 := p2.st gS (by decide)
  have p2 := p2.st hX9 (by decide)
  have r2 := (s.2.2.2.2.1 2 (by decide)).trans ((congrFun ex2.2.2.2.2 2).trans r2)
  have p5 := p5.st gS (by decide)
  have p5 := p5.st hX9 (by decide)
  have r5 := (s.2.2.2.2.1 5 (by decide)).trans ((congrFun ex2.2.2.2.2 5).trans r5)
  have p6 := p6.st gS (by decide)
  have p6 := p6.st hX9 (by decide)
  have r6 := (s.2.2.2.2.1 6 (by decide)).trans ((congrFun ex2.2.2.2.2 6).trans r6)
  have p7 := p7.st gS (by decide)
  have p7 := p7.st hX9 (by decide)
  have r7 := (s.2.2.2.2.1 7 (by decide)).trans ((congrFun ex2.2.2.2.2 7).trans r7)
  have p8 := p8.st gS (by decide)
  have p8 := p8.st hX9 (by decide)
  have r8 := (s.2.2.2.2.1 8 (by decide)).trans ((congrFun ex2.2.2.2.2 8).trans r8)
  have p9 := p9.st gS (by decide)
  have p9 := p9.st hX9 (by decide)
  have r9 := (s.2.2.2.2.1 9 (by decide)).trans ((congrFun ex2.2.2.2.2 9).trans r9)
  have i3 := ((congrFun s.2.2.1 3).trans (congrFun ex2.2.2.1 3)).trans i3
  have i4 := ((congrFun s.2.2.1 4).trans (congrFun ex2.2.2.1 4)).trans i4
  have r10 := s.2.2.2.2.2
  have p10 := g.2.2.st hX9 (by decide)
  have hX := hX.tr ((gE.to1 (x := x)).tr s.1)
  have hT := s.2.1.trans (ex2.1.trans hT)
  refine k_aload_n C rfl rfl rfl ?_
  refine iu_new C (n := 2) rfl rfl rfl rfl rfl rfl (Nat.le_of_ble_eq_true rfl) (Nat.le_of_ble_eq_true rfl) (fun n10 M1 f0 fE fT fI fL fK => ?_)
  have ex := fE _ (by rw [hT]; decide)
  have hT1 := ex.1.trans hT
  have q0 := (congrFun ex.2.2.2.2 0).trans r0
  have q1 := (congrFun ex.2.2.2.2 1).trans r1
  have q2 := (congrFun ex.2.2.2.2 2).trans r2
  have q5 := (congrFun ex.2.2.2.2 5).trans r5
  have q6 := (congrFun ex.2.2.2.2 6).trans r6
  have q7 := (congrFun ex.2.2.2.2 7).trans r7
  have q8 := (congrFun ex.2.2.2.2 8).trans r8
  have q9 := (congrFun ex.2.2.2.2 9).trans r9
  have q10 := (congrFun ex.2.2.2.2 10).trans r10
  refine k_dup C rfl rfl rfl ?_
  refine i_callN C (i_Form fT (fI 0)) rfl rfl rfl rfl rfl (Nat.le_of_ble_eq_true rfl) (Nat.le_of_ble_eq_true rfl) (Nat.le_of_ble_eq_true rfl) ?_
  intro M2 g
  have gE := fE.e1 g.2.1 f0
  have ex2 := gE _ (by rw [hT]; decide)
  refine iu_put C rfl rfl rfl (ex2.1.trans hT) ⟨rfl, rfl⟩ rfl (fun M3 s sE => ?_)
  have kO := Ko.obj (x := x) (k := 11) fK.1 fK.2 f0 (by rw [fT]; decide) g.1
  rw [← sE] at kO
  have hK := hK.tr kO
  have hX9 := s.1.st (ex2.1.trans hT)
  have gS : Stt 12 _ _ := gE.st
  have p0 := p0.st gS (by decide)
  have p0 := p0.st hX9 (by decide)
  have r0 := (s.2.2.2.2.1 0 (by decide)).trans ((congrFun ex2.2.2.2.2 0).trans r0)
  have p1 := p1.st gS (by decide)
  have p1 := p1.st hX9 (by decide)
  have r1 := (s.2.2.2.2.1 1 (by decide)).trans ((congrFun ex2.2.2.2.2 1).trans r1)
  have p2 := p2.st gS (by decide)
  have p2 := p2.st hX9 (by decide)
  have r2 := (s.2.2.2.2.1 2 (by decide)).trans ((congrFun ex2.2.2.2.2 2).trans r2)
  have p5 := p5.st gS (by decide)
  have p5 := p5.st hX9 (by decide)
  have r5 := (s.2.2.2.2.1 5 (by decide)).trans ((congrFun ex2.2.2.2.2 5).trans r5)
  have p6 := p6.st gS (by decide)
  have p6 := p6.st hX9 (by decide)
  have r6 := (s.2.2.2.2.1 6 (by decide)).trans ((congrFun ex2.2.2.2.2 6).trans r6)
  have p7 := p7.st gS (by decide)
  have p7 := p7.st hX9 (by decide)
  have r7 := (s.2.2.2.2.1 7 (by decide)).trans ((congrFun ex2.2.2.2.2 7).trans r7)
  have p8 := p8.st gS (by decide)
  have p8 := p8.st hX9 (by decide)
  have r8 := (s.2.2.2.2.1 8 (by decide)).trans ((congrFun ex2.2.2.2.2 8).trans r8)
  have p9 := p9.st gS (by decide)
  have p9 := p9.st hX9 (by decide)
  have r9 := (s.2.2.2.2.1 9 (by decide)).trans ((congrFun ex2.2.2.2.2 9).trans r9)
  have p10 := p10.st gS (by decide)
  have p10 := p10.st hX9 (by decide)
  have r10 := (s.2.2.2.2.1 10 (by decide)).trans ((congrFun ex2.2.2.2.2 10).trans r10)
  have i3 := ((congrFun s.2.2.1 3).trans (congrFun ex2.2.2.1 3)).trans i3
  have i4 := ((congrFun s.2.2.1 4).trans (congrFun ex2.2.2.1 4)).trans i4
  have r11 := s.2.2.2.2.2
  have p11 := g.2.2.st hX9 (by decide)
  have hX := hX.tr ((gE.to1 (x := x)).tr s.1)
  have hT := s.2.1.trans (ex2.1.trans hT)
  refine k_aload_n C rfl rfl rfl ?_
  refine iu_new C (n := 2) rfl rfl rfl rfl rfl rfl (Nat.le_of_ble_eq_true rfl) (Nat.le_of_ble_eq_true rfl) (fun n11 M1 f0 fE fT fI fL fK => ?_)
  have ex := fE _ (by rw [hT]; decide)
  have hT1 := ex.1.trans hT
  have q0 := (congrFun ex.2.2.2.2 0).trans r0
  have q1 := (congrFun ex.2.2.2.2 1).trans r1
  have q2 := (congrFun ex.2.2.2.2 2).trans r2
  have q5 := (congrFun ex.2.2.2.2 5).trans r5
  have q6 := (congrFun ex.2.2.2.2 6).trans r6
  have q7 := (congrFun ex.2.2.2.2 7).trans r7
  have q8 := (congrFun ex.2.2.2.2 8).trans r8
  have q9 := (congrFun ex.2.2.2.2 9).trans r9
  have q10 := (congrFun ex.2.2.2.2 10).trans r10
  have q11 := (congrFun ex.2.2.2.2 11).trans r11
  refine k_dup C rfl rfl rfl ?_
  refine i_callN C (i_Form fT (fI 0)) rfl rfl rfl rfl rfl (Nat.le_of_ble_eq_true rfl) (Nat.le_of_ble_eq_true rfl) (Nat.le_of_ble_eq_true rfl) ?_
  intro M2 g
  have gE := fE.e1 g.2.1 f0
  have ex2 := gE _ (by rw [hT]; decide)
  refine iu_put C rfl rfl rfl (ex2.1.trans hT) ⟨rfl, rfl⟩ rfl (fun M3 s sE => ?_)
  have kO := Ko.obj (x := x) (k := 12) fK.1 fK.2 f0 (by rw [fT]; decide) g.1
  rw [← sE] at kO
  have hK := hK.tr kO
  have hX9 := s.1.st (ex2.1.trans hT)
  have gS : Stt 12 _ _ := gE.st
  have p0 := p0.st gS (by decide)
  have p0 := p0.st hX9 (by decide)
  have r0 := (s.2.2.2.2.1 0 (by decide)).trans ((congrFun ex2.2.2.2.2 0).trans r0)
  have p1 := p1.st gS (by decide)
  have p1 := p1.st hX9 (by decide)
  have r1 := (s.2.2.2.2.1 1 (by decide)).trans ((congrFun ex2.2.2.2.2 1).trans r1)
  have p2 := p2.st gS (by decide)
  have p2 := p2.st hX9 (by decide)
  have r2 := (s.2.2.2.2.1 2 (by decide)).trans ((congrFun ex2.2.2.2.2 2).trans r2)
  have p5 := p5.st gS (by decide)
  have p5 := p5.st hX9 (by decide)
  have r5 := (s.2.2.2.2.1 5 (by decide)).trans ((congrFun ex2.2.2.2.2 5).trans r5)
  have p6 := p6.st gS (by decide)
  have p6 := p6.st hX9 (by decide)
  have r6 := (s.2.2.2.2.1 6 (by decide)).trans ((congrFun ex2.2.2.2.2 6).trans r6)
  have p7 := p7.st gS (by decide)
  have p7 := p7.st hX9 (by decide)
  have r7 := (s.2.2.2.2.1 7 (by decide)).trans ((congrFun ex2.2.2.2.2 7).trans r7)
  have p8 := p8.st gS (by decide)
  have p8 := p8.st hX9 (by decide)
  have r8 := (s.2.2.2.2.1 8 (by decide)).trans ((congrFun ex2.2.2.2.2 8).trans r8)
  have p9 := p9.st gS (by decide)
  have p9 := p9.st hX9 (by decide)
  have r9 := (s.2.2.2.2.1 9 (by decide)).trans ((congrFun ex2.2.2.2.2 9).trans r9)
  have p10 := p10.st gS (by decide)
  have p10 := p10.st hX9 (by decide)
  have r10 := (s.2.2.2.2.1 10 (by decide)).trans ((congrFun ex2.2.2.2.2 10).trans r10)
  have p11 := p11.st gS (by decide)
  have p11 := p11.st hX9 (by decide)
  have r11 := (s.2.2.2.2.1 11 (by decide)).trans ((congrFun ex2.2.2.2.2 11).trans r11)
  have i3 := ((congrFun s.2.2.1 3).trans (congrFun ex2.2.2.1 3)).trans i3
  have i4 := ((congrFun s.2.2.1 4).trans (congrFun ex2.2.2.1 4)).trans i4
  have r12 := s.2.2.2.2.2
  have p12 := g.2.2.st hX9 (by decide)
  have hX := hX.tr ((gE.to1 (x := x)).tr s.1)
  have hT := s.2.1.trans (ex2.1.trans hT)
  refine k_aload_n C rfl rfl rfl ?_
  refine iu_new C (n := 2) rfl rfl rfl rfl rfl rfl (Nat.le_of_ble_eq_true rfl) (Nat.le_of_ble_eq_true rfl) (fun n12 M1 f0 fE fT fI fL fK => ?_)
  have ex := fE _ (by rw [hT]; decide)
  have hT1 := ex.1.trans hT
  have q0 := (congrFun ex.2.2.2.2 0).trans r0
  have q1 := (congrFun ex.2.2.2.2 1).trans r1
  have q2 := (congrFun ex.2.2.2.2 2).trans r2
  have q5 := (congrFun ex.2.2.2.2 5).trans r5
  have q6 := (congrFun ex.2.2.2.2 6).trans r6
  have q7 := (congrFun ex.2.2.2.2 7).trans r7
  have q8 := (congrFun ex.2.2.2.2 8).trans r8
  have q9 := (congrFun ex.2.2.2.2 9).trans r9
  have q10 := (congrFun ex.2.2.2.2 10).trans r10
  have q11 := (congrFun ex.2.2.2.2 11).trans r11
  have q12 := (congrFun ex.2.2.2.2 12).trans r12
  refine k_dup C rfl rfl rfl ?_
  refine i_callN C (i_Form fT (fI 0)) rfl rfl rfl rfl rfl (Nat.le_of_ble_eq_true rfl) (Nat.le_of_ble_eq_true rfl) (Nat.le_of_ble_eq_true rfl) ?_
  intro M2 g
  have gE := fE.e1 g.2.1 f0
  have ex2 := gE _ (by rw [hT]; decide)
  refine iu_put C rfl rfl rfl (ex2.1.trans hT) ⟨rfl, rfl⟩ rfl (fun M3 s sE => ?_)
  have kO := Ko.obj (x := x) (k := 13) fK.1 fK.2 f0 (by rw [fT]; decide) g.1
  rw [← sE] at kO
  have hK := hK.tr kO
  have hX9 := s.1.st (ex2.1.trans hT)
  have gS : Stt 12 _ _ := gE.st
  have p0 := p0.st gS (by decide)
  have p0 := p0.st hX9 (by decide)
  have r0 := (s.2.2.2.2.1 0 (by decide)).trans ((congrFun ex2.2.2.2.2 0).trans r0)
  have p1 := p1.st gS (by decide)
  have p1 := p1.st hX9 (by decide)
  have r1 := (s.2.2.2.2.1 1 (by decide)).trans ((congrFun ex2.2.2.2.2 1).trans r1)
  have p2 := p2.st gS (by decide)
  have p2 := p2.st hX9 (by decide)
  have r2 := (s.2.2.2.2.1 2 (by decide)).trans ((congrFun ex2.2.2.2.2 2).trans r2)
  have p5 := p5.st gS (by decide)
  have p5 := p5.st hX9 (by decide)
  have r5 := (s.2.2.2.2.1 5 (by decide)).trans ((congrFun ex2.2.2.2.2 5).trans r5)
  have p6 := p6.st gS (by decide)
  have p6 := p6.st hX9 (by decide)
  have r6 := (s.2.2.2.2.1 6 (by decide)).trans ((congrFun ex2.2.2.2.2 6).trans r6)
  have p7 := p7.st gS (by decide)
  have p7 := p7.st hX9 (by decide)
  have r7 := (s.2.2.2.2.1 7 (by decide)).trans ((congrFun ex2.2.2.2.2 7).trans r7)
  have p8 := p8.st gS (by decide)
  have p8 := p8.st hX9 (by decide)
  have r8 := (s.2.2.2.2.1 8 (by decide)).trans ((congrFun ex2.2.2.2.2 8).trans r8)
  have p9 := p9.st gS (by decide)
  have p9 := p9.st hX9 (by decide)
  have r9 := (s.2.2.2.2.1 9 (by decide)).trans ((congrFun ex2.2.2.2.2 9).trans r9)
  have p10 := p10.st gS (by decide)
  have p10 := p10.st hX9 (by decide)
  have r10 := (s.2.2.2.2.1 10 (by decide)).trans ((congrFun ex2.2.2.2.2 10).trans r10)
  have p11 := p11.st gS (by decide)
  have p11 := p11.st hX9 (by decide)
  have r11 := (s.2.2.2.2.1 11 (by decide)).trans ((congrFun ex2.2.2.2.2 11).trans r11)
  have p12 := p12.st gS (by decide)
  have p12 := p12.st hX9 (by decide)
  have r12 := (s.2.2.2.2.1 12 (by decide)).trans ((congrFun ex2.2.2.2.2 12).trans r12)
  have i3 := ((congrFun s.2.2.1 3).trans (congrFun ex2.2.2.1 3)).trans i3
  have i4 := ((congrFun s.2.2.1 4).trans (congrFun ex2.2.2.1 4)).trans i4
  have r13 := s.2.2.2.2.2
  have p13 := g.2.2.st hX9 (by decide)
  have hX := hX.tr ((gE.to1 (x := x)).tr s.1)
  have hT := s.2.1.trans (ex2.1.trans hT)
  exact k_vret C rfl rfl (Nat.le_of_ble_eq_true rfl) (Nat.le_of_ble_eq_true rfl) ⟨rfl, hK, hX, hT, i3, i4, n1, n2, n3, n4, n5, n6, n7, n8, n9, n10, n11, n12, r0, r1, r2, r5, r6, r7, r8, r9, r10, r11, r12, r13, p0, p1, p2, p5, p6, p7, p8, p9, p10, p11, p12, p13, hkn⟩
end
-- 39.19.init.lean.txt
section
def gArrZ (M : Mm) (b t n : Nat) : Prop := gArr M b t n ∧ ∀ j, mI M b j = 0
theorem gArrZ.st {M M1 : Mm} {b t n u : Nat} (h : gArrZ M b t n) (a : Stt u M M1) (h0 : t ≠ 0) (hu : t ≠ u) : gArrZ M1 b t n := ⟨h.1.st a h0 hu, fun j => (congrFun (a b (by rw [h.1.1]; exact h0) (by rw [h.1.1]; exact hu)).2.2.1 j).trans (h.2 j)⟩
def RFS : List Nat := [34, 28, 27, 26, 25, 23, 22, 21, 20, 18, 10, 5, 4, 2, 1]
def gMd (M0 M1 : Mm) (x : Nat) : Prop := mT M1 x = 13 ∧ mI M1 x 0 = 0 ∧ mI M1 x 3 = 0 ∧ mI M1 x 11 = 0 ∧ mI M1 x 17 = -1 ∧ mI M1 x 35 = 0 ∧ mI M1 x 36 = 0 ∧ mI M1 x 37 = 0 ∧ (∀ j, j ≠ 17 → mI M1 x j = 0) ∧ (∀ j, j ∉ RFS → mR M1 x j = none) ∧ ∃ w im dg nu tp fv rk wy rs dn vd pw sp fc wl : Nat, mI M1 w 0 = 11 ∧ (∀ j, 1 ≤ j → mI M1 w j = 0) ∧ w ≠ dn ∧ dg ≠ rk ∧ sp ≠ fc ∧ mR M1 x 1 = some w ∧ gArr M1 w 20 4007 ∧ mT M0 w = 0 ∧ mR M1 x 2 = some im ∧ gArr M1 im 20 3606 ∧ mT M0 im = 0 ∧ mR M1 x 4 = some dg ∧ gArrZ M1 dg 20 48 ∧ mT M0 dg = 0 ∧ mR M1 x 5 = some nu ∧ gArrZ M1 nu 20 1968 ∧ mT M0 nu = 0 ∧ mR M1 x 10 = some tp ∧ gArrZ M1 tp 22 400 ∧ mT M0 tp = 0 ∧ mR M1 x 18 = some fv ∧ gArr M1 fv 20 5 ∧ mT M0 fv = 0 ∧ mR M1 x 20 = some rk ∧ gArr M1 rk 20 48 ∧ mT M0 rk = 0 ∧ mR M1 x 21 = some wy ∧ gArr M1 wy 21 1261 ∧ mT M0 wy = 0 ∧ mR M1 x 22 = some rs ∧ gArrZ M1 rs 20 3936 ∧ mT M0 rs = 0 ∧ mR M1 x 23 = some dn ∧ gArrZ M1 dn 20 108 ∧ mT M0 dn = 0 ∧ mR M1 x 25 = some vd ∧ gArr M1 vd 20 361 ∧ mT M0 vd = 0 ∧ mR M1 x 26 = some pw ∧ gArrZ M1 pw 20 180 ∧ mT M0 pw = 0 ∧ mR M1 x 27 = some sp ∧ gArrZ M1 sp 20 3 ∧ mT M0 sp = 0 ∧ mR M1 x 28 = some fc ∧ gArrZ M1 fc 20 3 ∧ mT M0 fc = 0 ∧ mR M1 x 34 = some wl ∧ gArr M1 wl 21 4 ∧ mT M0 wl = 0
set_option maxHeartbeats 1000000 in
theorem i_X12 {d : Nat} {M : Mm} {x : Nat} (hT : mT M x = 13) (h0 : ∀ j, mI M x j = 0) (hR : ∀ j, mR M x j = none) : Ex (d + 1) 180 [.ref x] M 15 15938 (pC fun M1 => Ko M M1 ∧ Ex1 x M M1 ∧ gMd M M1 x) := by
  refine ⟨_, rfl, Nat.le_of_ble_eq_true rfl, fun V C S => ?_⟩
  show V 0 [(0, .ref x)] [] M 0 0
  have hX : Ex1 x M M := Ex1.rf
  have hK : Ko M M := Ko.rf
  have iO : ∀ j, j ≠ 17 → mI M x j = 0 := fun j _ => h0 j
  have rO : ∀ j, j ∉ ([] : List Nat) → mR M x j = none := fun j _ => hR j
  have i0 : mI M x 0 = 0 := h0 0
  have i3 : mI M x 3 = 0 := h0 3
  have i11 : mI M x 11 = 0 := h0 11
  have i17 : mI M x 17 = 0 := h0 17
  have i35 : mI M x 35 = 0 := h0 35
  have i36 : mI M x 36 = 0 := h0 36
  have i37 : mI M x 37 = 0 := h0 37
  refine k_aload_n C rfl rfl rfl ?_
  refine i_obj C rfl rfl rfl (Nat.le_of_ble_eq_true rfl) ?_
  refine k_aload_n C rfl rfl rfl ?_
  refine k_sipush C (x := 4007) rfl rfl rfl ?_
  refine iu_arr C (tt := 0) (n := 4007) rfl rfl rfl (Or.inl ⟨rfl, rfl⟩) (by decide) (by decide) (Nat.le_of_ble_eq_true rfl) rfl rfl (Nat.le_of_ble_eq_true rfl) (Nat.le_of_ble_eq_true rfl) rfl hT ⟨rfl, rfl⟩ rfl (fun b1 M1 s sK => ?_)
  have n1 := hX.fresh (by rw [hT]; decide) s.2.2.2.2.2.2.2.2.2
  have hx9 := s.1.st hT
  have hX := hX.tr s.1
  have hK := hK.tr sK
  have i0 := (congrFun s.2.2.1 0).trans i0
  have iO : ∀ j, j ≠ 17 → mI M1 x j = 0 := fun j hj => (congrFun s.2.2.1 j).trans (iO j hj)
  have i3 := (congrFun s.2.2.1 3).trans i3
  have i11 := (congrFun s.2.2.1 11).trans i11
  have i17 := (congrFun s.2.2.1 17).trans i17
  have i35 := (congrFun s.2.2.1 35).trans i35
  have i36 := (congrFun s.2.2.1 36).trans i36
  have i37 := (congrFun s.2.2.1 37).trans i37
  have r1 := s.2.2.2.2.2.1
  have rO : ∀ j, j ∉ ([1] : List Nat) → mR M1 x j = none := fun j hj => (s.2.2.2.2.1 j (fun e => hj (by rw [e]; exact List.mem_cons_self))).trans (rO j (fun h => hj (List.mem_cons_of_mem _ h)))
  have p1 : gArrZ _ b1 20 4007 := ⟨s.2.2.2.2.2.2.1, s.2.2.2.2.2.2.2.1⟩
  have hT := s.2.1.trans hT
  refine k_aload_n C rfl rfl rfl ?_
  refine k_sipush C (x := 3606) rfl rfl rfl ?_
  refine iu_arr C (tt := 0) (n := 3606) rfl rfl rfl (Or.inl ⟨rfl, rfl⟩) (by decide) (by decide) (Nat.le_of_ble_eq_true rfl) rfl rfl (Nat.le_of_ble_eq_true rfl) (Nat.le_of_ble_eq_true rfl) rfl hT ⟨rfl, rfl⟩ rfl (fun b2 M1 s sK => ?_)
  have n2 := hX.fresh (by rw [hT]; decide) s.2.2.2.2.2.2.2.2.2
  have hx9 := s.1.st hT
  have p1 := p1.st hx9 (by decide) (by decide)
  have hX := hX.tr s.1
  have hK := hK.tr sK
  have r1 := (s.2.2.2.2.1 1 (by decide)).trans r1
  have i0 := (congrFun s.2.2.1 0).trans i0
  have iO : ∀ j, j ≠ 17 → mI M1 x j = 0 := fun j hj => (congrFun s.2.2.1 j).trans (iO j hj)
  have i3 := (congrFun s.2.2.1 3).trans i3
  have i11 := (congrFun s.2.2.1 11).trans i11
  have i17 := (congrFun s.2.2.1 17).trans i17
  have i35 := (congrFun s.2.2.1 35).trans i35
  have i36 := (congrFun s.2.2.1 36).trans i36
  have i37 := (congrFun s.2.2.1 37).trans i37
  have r2 := s.2.2.2.2.2.1
  have rO : ∀ j, j ∉ ([2, 1] : List Nat) → mR M1 x j = none := fun j hj => (s.2.2.2.2.1 j (fun e => hj (by rw [e]; exact List.mem_cons_self))).trans (rO j (fun h => hj (List.mem_cons_of_mem _ h)))
  have p2 := s.2.2.2.2.2.2.1
  have hT := s.2.1.trans hT
  refine k_aload_n C rfl rfl rfl ?_
  refine k_bipush C (x := 48) rfl rfl rfl ?_
  refine iu_arr C (tt := 0) (n := 48) rfl rfl rfl (Or.inl ⟨rfl, rfl⟩) (by decide) (by decide) (Nat.le_of_ble_eq_true rfl) rfl rfl (Nat.le_of_ble_eq_true rfl) (Nat.le_of_ble_eq_true rfl) rfl hT ⟨rfl, rfl⟩ rfl (fun b4 M1 s sK => ?_)
  have n4 := hX.fresh (by rw [hT]; decide) s.2.2.2.2.2.2.2.2.2
  have hx9 := s.1.st hT
  have p1 := p1.st hx9 (by decide) (by decide)
  have p2 := p2.st hx9 (by decide) (by decide)
  have hX := hX.tr s.1
  have hK := hK.tr sK
  have r1 := (s.2.2.2.2.1 1 (by decide)).trans r1
  have r2 := (s.2.2.2.2.1 2 (by decide)).trans r2
  have i0 := (congrFun s.2.2.1 0).trans i0
  have iO : ∀ j, j ≠ 17 → mI M1 x j = 0 := fun j hj => (congrFun s.2.2.1 j).trans (iO j hj)
  have i3 := (congrFun s.2.2.1 3).trans i3
  have i11 := (congrFun s.2.2.1 11).trans i11
  have i17 := (congrFun s.2.2.1 17).trans i17
  have i35 := (congrFun s.2.2.1 35).trans i35
  have i36 := (congrFun s.2.2.1 36).trans i36
  have i37 := (congrFun s.2.2.1 37).trans i37
  have r4 := s.2.2.2.2.2.1
  have rO : ∀ j, j ∉ ([4, 2, 1] : List Nat) → mR M1 x j = none := fun j hj => (s.2.2.2.2.1 j (fun e => hj (by rw [e]; exact List.mem_cons_self))).trans (rO j (fun h => hj (List.mem_cons_of_mem _ h)))
  have p4 : gArrZ _ b4 20 48 := ⟨s.2.2.2.2.2.2.1, s.2.2.2.2.2.2.2.1⟩
  have hT := s.2.1.trans hT
  refine k_aload_n C rfl rfl rfl ?_
  refine k_sipush C (x := 1968) rfl rfl rfl ?_
  refine iu_arr C (tt := 0) (n := 1968) rfl rfl rfl (Or.inl ⟨rfl, rfl⟩) (by decide) (by decide) (Nat.le_of_ble_eq_true rfl) rfl rfl (Nat.le_of_ble_eq_true rfl) (Nat.le_of_ble_eq_true rfl) rfl hT ⟨rfl, rfl⟩ rfl (fun b5 M1 s sK => ?_)
  have n5 := hX.fresh (by rw [hT]; decide) s.2.2.2.2.2.2.2.2.2
  have hx9 := s.1.st hT
  have p1 := p1.st hx9 (by decide) (by decide)
  have p2 := p2.st hx9 (by decide) (by decide)
  have p4 := p4.st hx9 (by decide) (by decide)
  have hX := hX.tr s.1
  have hK := hK.tr sK
  have r1 := (s.2.2.2.2.1 1 (by decide)).trans r1
  have r2 := (s.2.2.2.2.1 2 (by decide)).trans r2
  have r4 := (s.2.2.2.2.1 4 (by decide)).trans r4
  have i0 := (congrFun s.2.2.1 0).trans i0
  have iO : ∀ j, j ≠ 17 → mI M1 x j = 0 := fun j hj => (congrFun s.2.2.1 j).trans (iO j hj)
  have i3 := (congrFun s.2.2.1 3).trans i3
  have i11 := (congrFun s.2.2.1 11).trans i11
  have i17 := (congrFun s.2.2.1 17).trans i17
  have i35 := (congrFun s.2.2.1 35).trans i35
  have i36 := (congrFun s.2.2.1 36).trans i36
  have i37 := (congrFun s.2.2.1 37).trans i37
  have r5 := s.2.2.2.2.2.1
  have rO : ∀ j, j ∉ ([5, 4, 2, 1] : List Nat) → mR M1 x j = none := fun j hj => (s.2.2.2.2.1 j (fun e => hj (by rw [e]; exact List.mem_cons_self))).trans (rO j (fun h => hj (List.mem_cons_of_mem _ h)))
  have p5 : gArrZ _ b5 20 1968 := ⟨s.2.2.2.2.2.2.1, s.2.2.2.2.2.2.2.1⟩
  have hT := s.2.1.trans hT
  refine k_aload_n C rfl rfl rfl ?_
  refine k_sipush C (x := 400) rfl rfl rfl ?_
  refine iu_arr C (tt := 2) (n := 400) rfl rfl rfl (Or.inr (Or.inr ⟨rfl, rfl⟩)) (by decide) (by decide) (Nat.le_of_ble_eq_true rfl) rfl rfl (Nat.le_of_ble_eq_true rfl) (Nat.le_of_ble_eq_true rfl) rfl hT ⟨rfl, rfl⟩ rfl (fun b10 M1 s sK => ?_)
  have n10 := hX.fresh (by rw [hT]; decide) s.2.2.2.2.2.2.2.2.2
  have hx9 := s.1.st hT
  have p1 := p1.st hx9 (by decide) (by decide)
  have p2 := p2.st hx9 (by decide) (by decide)
  have p4 := p4.st hx9 (by decide) (by decide)
  have p5 := p5.st hx9 (by decide) (by decide)
  have hX := hX.tr s.1
  have hK := hK.tr sK
  have r1 := (s.2.2.2.2.1 1 (by decide)).trans r1
  have r2 := (s.2.2.2.2.1 2 (by decide)).trans r2
  have r4 := (s.2.2.2.2.1 4 (by decide)).trans r4
  have r5 := (s.2.2.2.2.1 5 (by decide)).trans r5
  have i0 := (congrFun s.2.2.1 0).trans i0
  have iO : ∀ j, j ≠ 17 → mI M1 x j = 0 := fun j hj => (congrFun s.2.2.1 j).trans (iO j hj)
  have i3 := (congrFun s.2.2.1 3).trans i3
  have i11 := (congrFun s.2.2.1 11).trans i11
  have i17 := (congrFun s.2.2.1 17).trans i17
  have i35 := (congrFun s.2.2.1 35).trans i35
  have i36 := (congrFun s.2.2.1 36).trans i36
  have i37 := (congrFun s.2.2.1 37).trans i37
  have r10 := s.2.2.2.2.2.1
  have rO : ∀ j, j ∉ ([10, 5, 4, 2, 1] : List Nat) → mR M1 x j = none := fun j hj => (s.2.2.2.2.1 j (fun e => hj (by rw [e]; exact List.mem_cons_self))).trans (rO j (fun h => hj (List.mem_cons_of_mem _ h)))
  have p10 : gArrZ _ b10 22 400 := ⟨s.2.2.2.2.2.2.1, s.2.2.2.2.2.2.2.1⟩
  have hT := s.2.1.trans hT
  refine k_aload_n C rfl rfl rfl ?_
  refine k_iconst C (x := -1) rfl rfl rfl ?_
  refine iu_putI C rfl rfl rfl hT (Or.inr rfl) rfl (fun M1 s sK => ?_)
  have hx9 := s.1.st hT
  have p1 := p1.st hx9 (by decide) (by decide)
  have p2 := p2.st hx9 (by decide) (by decide)
  have p4 := p4.st hx9 (by decide) (by decide)
  have p5 := p5.st hx9 (by decide) (by decide)
  have p10 := p10.st hx9 (by decide) (by decide)
  have hX := hX.tr s.1
  have hK := hK.tr sK
  have r1 := (congrFun s.2.2.1 1).trans r1
  have rO : ∀ j, j ∉ ([10, 5, 4, 2, 1] : List Nat) → mR M1 x j = none := fun j hj => (congrFun s.2.2.1 j).trans (rO j hj)
  have r2 := (congrFun s.2.2.1 2).trans r2
  have r4 := (congrFun s.2.2.1 4).trans r4
  have r5 := (congrFun s.2.2.1 5).trans r5
  have r10 := (congrFun s.2.2.1 10).trans r10
  have i0 := (s.2.2.2.2.1 0 (by decide)).trans i0
  have iO : ∀ j, j ≠ 17 → mI M1 x j = 0 := fun j hj => (s.2.2.2.2.1 j hj).trans (iO j hj)
  have i3 := (s.2.2.2.2.1 3 (by decide)).trans i3
  have i11 := (s.2.2.2.2.1 11 (by decide)).trans i11
  have i35 := (s.2.2.2.2.1 35 (by decide)).trans i35
  have i36 := (s.2.2.2.2.1 36 (by decide)).trans i36
  have i37 := (s.2.2.2.2.1 37 (by decide)).trans i37
  have i17 := s.2.2.2.2.2
  have hT := s.2.1.trans hT
  refine k_aload_n C rfl rfl rfl ?_
  refine k_iconst C (x := 5) rfl rfl rfl ?_
  refine iu_arr C (tt := 0) (n := 5) rfl rfl rfl (Or.inl ⟨rfl, rfl⟩) (by decide) (by decide) (Nat.le_of_ble_eq_true rfl) rfl rfl (Nat.le_of_ble_eq_true rfl) (Nat.le_of_ble_eq_true rfl) rfl hT ⟨rfl, rfl⟩ rfl (fun b18 M1 s sK => ?_)
  have n18 := hX.fresh (by rw [hT]; decide) s.2.2.2.2.2.2.2.2.2
  have hx9 := s.1.st hT
  have p1 := p1.st hx9 (by decide) (by decide)
  have p2 := p2.st hx9 (by decide) (by decide)
  have p4 := p4.st hx9 (by decide) (by decide)
  have p5 := p5.st hx9 (by decide) (by decide)
  have p10 := p10.st hx9 (by decide) (by decide)
  have hX := hX.tr s.1
  have hK := hK.tr sK
  have r1 := (s.2.2.2.2.1 1 (by decide)).trans r1
  have r2 := (s.2.2.2.2.1 2 (by decide)).trans r2
  have r4 := (s.2.2.2.2.1 4 (by decide)).trans r4
  have r5 := (s.2.2.2.2.1 5 (by decide)).trans r5
  have r10 := (s.2.2.2.2.1 10 (by decide)).trans r10
  have i0 := (congrFun s.2.2.1 0).trans i0
  have iO : ∀ j, j ≠ 17 → mI M1 x j = 0 := fun j hj => (congrFun s.2.2.1 j).trans (iO j hj)
  have i3 := (congrFun s.2.2.1 3).trans i3
  have i11 := (congrFun s.2.2.1 11).trans i11
  have i17 := (congrFun s.2.2.1 17).trans i17
  have i35 := (congrFun s.2.2.1 35).trans i35
  have i36 := (congrFun s.2.2.1 36).trans i36
  have i37 := (congrFun s.2.2.1 37).trans i37
  have r18 := s.2.2.2.2.2.1
  have rO : ∀ j, j ∉ ([18, 10, 5, 4, 2, 1] : List Nat) → mR M1 x j = none := fun j hj => (s.2.2.2.2.1 j (fun e => hj (by rw [e]; exact List.mem_cons_self))).trans (rO j (fun h => hj (List.mem_cons_of_mem _ h)))
  have p18 := s.2.2.2.2.2.2.1
  have hT := s.2.1.trans hT
  refine k_aload_n C rfl rfl rfl ?_
  refine k_bipush C (x := 48) rfl rfl rfl ?_
  refine iu_arr C (tt := 0) (n := 48) rfl rfl rfl (Or.inl ⟨rfl, rfl⟩) (by decide) (by decide) (Nat.le_of_ble_eq_true rfl) rfl rfl (Nat.le_of_ble_eq_true rfl) (Nat.le_of_ble_eq_true rfl) rfl hT ⟨rfl, rfl⟩ rfl (fun b20 M1 s sK => ?_)
  have n20 := hX.fresh (by rw [hT]; decide) s.2.2.2.2.2.2.2.2.2
  have h420 : b4 ≠ b20 := fun e => by have z := p4.1.1; rw [e, s.2.2.2.2.2.2.2.2.2] at z; exact absurd z (by decide)
  have hx9 := s.1.st hT
  have p1 := p1.st hx9 (by decide) (by decide)
  have p2 := p2.st hx9 (by decide) (by decide)
  have p4 := p4.st hx9 (by decide) (by decide)
  have p5 := p5.st hx9 (by decide) (by decide)
  have p10 := p10.st hx9 (by decide) (by decide)
  have p18 := p18.st hx9 (by decide) (by decide)
  have hX := hX.tr s.1
  have hK := hK.tr sK
  have r1 := (s.2.2.2.2.1 1 (by decide)).trans r1
  have r2 := (s.2.2.2.2.1 2 (by decide)).trans r2
  have r4 := (s.2.2.2.2.1 4 (by decide)).trans r4
  have r5 := (s.2.2.2.2.1 5 (by decide)).trans r5
  have r10 := (s.2.2.2.2.1 10 (by decide)).trans r10
  have r18 := (s.2.2.2.2.1 18 (by decide)).trans r18
  have i0 := (congrFun s.2.2.1 0).trans i0
  have iO : ∀ j, j ≠ 17 → mI M1 x j = 0 := fun j hj => (congrFun s.2.2.1 j).trans (iO j hj)
  have i3 := (congrFun s.2.2.1 3).trans i3
  have i11 := (congrFun s.2.2.1 11).trans i11
  have i17 := (congrFun s.2.2.1 17).trans i17
  have i35 := (congrFun s.2.2.1 35).trans i35
  have i36 := (congrFun s.2.2.1 36).trans i36
  have i37 := (congrFun s.2.2.1 37).trans i37
  have r20 := s.2.2.2.2.2.1
  have rO : ∀ j, j ∉ ([20, 18, 10, 5, 4, 2, 1] : List Nat) → mR M1 x j = none := fun j hj => (s.2.2.2.2.1 j (fun e => hj (by rw [e]; exact List.mem_cons_self))).trans (rO j (fun h => hj (List.mem_cons_of_mem _ h)))
  have p20 := s.2.2.2.2.2.2.1
  have hT := s.2.1.trans hT
  refine k_aload_n C rfl rfl rfl ?_
  refine k_sipush C (x := 1261) rfl rfl rfl ?_
  refine iu_arr C (tt := 1) (n := 1261) rfl rfl rfl (Or.inr (Or.inl ⟨rfl, rfl⟩)) (by decide) (by decide) (Nat.le_of_ble_eq_true rfl) rfl rfl (Nat.le_of_ble_eq_true rfl) (Nat.le_of_ble_eq_true rfl) rfl hT ⟨rfl, rfl⟩ rfl (fun b21 M1 s sK => ?_)
  have n21 := hX.fresh (by rw [hT]; decide) s.2.2.2.2.2.2.2.2.2
  have hx9 := s.1.st hT
  have p1 := p1.st hx9 (by decide) (by decide)
  have p2 := p2.st hx9 (by decide) (by decide)
  have p4 := p4.st hx9 (by decide) (by decide)
  have p5 := p5.st hx9 (by decide) (by decide)
  have p10 := p10.st hx9 (by decide) (by decide)
  have p18 := p18.st hx9 (by decide) (by decide)
  have p20 := p20.st hx9 (by decide) (by decide)
  have hX := hX.tr s.1
  have hK := hK.tr sK
  have r1 := (s.2.2.2.2.1 1 (by decide)).trans r1
  have r2 := (s.2.2.2.2.1 2 (by decide)).trans r2
  have r4 := (s.2.2.2.2.1 4 (by decide)).trans r4
  have r5 := (s.2.2.2.2.1 5 (by decide)).trans r5
  have r10 := (s.2.2.2.2.1 10 (by decide)).trans r10
  have r18 := (s.2.2.2.2.1 18 (by decide)).trans r18
  have r20 := (s.2.2.2.2.1 20 (by decide)).trans r20
  have i0 := (congrFun s.2.2.1 0).trans i0
  have iO : ∀ j, j ≠ 17 → mI M1 x j = 0 := fun j hj => (congrFun s.2.2.1 j).trans (iO j hj)
  have i3 := (congrFun s.2.2.1 3).trans i3
  have i11 := (congrFun s.2.2.1 11).trans i11
  have i17 := (congrFun s.2.2.1 17).trans i17
  have i35 := (congrFun s.2.2.1 35).trans i35
  have i36 := (congrFun s.2.2.1 36).trans i36
  have i37 := (congrFun s.2.2.1 37).trans i37
  have r21 := s.2.2.2.2.2.1
  have rO : ∀ j, j ∉ ([21, 20, 18, 10, 5, 4, 2, 1] : List Nat) → mR M1 x j = none := fun j hj => (s.2.2.2.2.1 j (fun e => hj (by rw [e]; exact List.mem_cons_self))).trans (rO j (fun h => hj (List.mem_cons_of_mem _ h)))
  have p21 := s.2.2.2.2.2.2.1
  have hT := s.2.1.trans hT
  refine k_aload_n C rfl rfl rfl ?_
  refine k_sipush C (x := 3936) rfl rfl rfl ?_
  refine iu_arr C (tt := 0) (n := 3936) rfl rfl rfl (Or.inl ⟨rfl, rfl⟩) (by decide) (by decide) (Nat.le_of_ble_eq_true rfl) rfl rfl (Nat.le_of_ble_eq_true rfl) (Nat.le_of_ble_eq_true rfl) rfl hT ⟨rfl, rfl⟩ rfl (fun b22 M1 s sK => ?_)
  have n22 := hX.fresh (by rw [hT]; decide) s.2.2.2.2.2.2.2.2.2
  have hx9 := s.1.st hT
  have p1 := p1.st hx9 (by decide) (by decide)
  have p2 := p2.st hx9 (by decide) (by decide)
  have p4 := p4.st hx9 (by decide) (by decide)
  have p5 := p5.st hx9 (by decide) (by decide)
  have p10 := p10.st hx9 (by decide) (by decide)
  have p18 := p18.st hx9 (by decide) (by decide)
  have p20 := p20.st hx9 (by decide) (by decide)
  have p21 := p21.st hx9 (by decide) (by decide)
  have hX := hX.tr s.1
  have hK := hK.tr sK
  have r1 := (s.2.2.2.2.1 1 (by decide)).trans r1
  have r2 := (s.2.2.2.2.1 2 (by decide)).trans r2
  have r4 := (s.2.2.2.2.1 4 (by decide)).trans r4
  have r5 := (s.2.2.2.2.1 5 (by decide)).trans r5
  have r10 := (s.2.2.2.2.1 10 (by decide)).trans r10
  have r18 := (s.2.2.2.2.1 18 (by decide)).trans r18
  have r20 := (s.2.2.2.2.1 20 (by decide)).trans r20
  have r21 := (s.2.2.2.2.1 21 (by decide)).trans r21
  have i0 := (congrFun s.2.2.1 0).trans i0
  have iO : ∀ j, j ≠ 17 → mI M1 x j = 0 := fun j hj => (congrFun s.2.2.1 j).trans (iO j hj)
  have i3 := (congrFun s.2.2.1 3).trans i3
  have i11 := (congrFun s.2.2.1 11).trans i11
  have i17 := (congrFun s.2.2.1 17).trans i17
  have i35 := (congrFun s.2.2.1 35).trans i35
  have i36 := (congrFun s.2.2.1 36).trans i36
  have i37 := (congrFun s.2.2.1 37).trans i37
  have r22 := s.2.2.2.2.2.1
  have rO : ∀ j, j ∉ ([22, 21, 20, 18, 10, 5, 4, 2, 1] : List Nat) → mR M1 x j = none := fun j hj => (s.2.2.2.2.1 j (fun e => hj (by rw [e]; exact List.mem_cons_self))).trans (rO j (fun h => hj (List.mem_cons_of_mem _ h)))
  have p22 : gArrZ _ b22 20 3936 := ⟨s.2.2.2.2.2.2.1, s.2.2.2.2.2.2.2.1⟩
  have hT := s.2.1.trans hT
  refine k_aload_n C rfl rfl rfl ?_
  refine k_bipush C (x := 108) rfl rfl rfl ?_
  refine iu_arr C (tt := 0) (n := 108) rfl rfl rfl (Or.inl ⟨rfl, rfl⟩) (by decide) (by decide) (Nat.le_of_ble_eq_true rfl) rfl rfl (Nat.le_of_ble_eq_true rfl) (Nat.le_of_ble_eq_true rfl) rfl hT ⟨rfl, rfl⟩ rfl (fun b23 M1 s sK => ?_)
  have n23 := hX.fresh (by rw [hT]; decide) s.2.2.2.2.2.2.2.2.2
  have hwd : b1 ≠ b23 := fun e => by have z := p1.1.1; rw [e, s.2.2.2.2.2.2.2.2.2] at z; exact absurd z (by decide)
  have hx9 := s.1.st hT
  have p1 := p1.st hx9 (by decide) (by decide)
  have p2 := p2.st hx9 (by decide) (by decide)
  have p4 := p4.st hx9 (by decide) (by decide)
  have p5 := p5.st hx9 (by decide) (by decide)
  have p10 := p10.st hx9 (by decide) (by decide)
  have p18 := p18.st hx9 (by decide) (by decide)
  have p20 := p20.st hx9 (by decide) (by decide)
  have p21 := p21.st hx9 (by decide) (by decide)
  have p22 := p22.st hx9 (by decide) (by decide)
  have hX := hX.tr s.1
  have hK := hK.tr sK
  have r1 := (s.2.2.2.2.1 1 (by decide)).trans r1
  have r2 := (s.2.2.2.2.1 2 (by decide)).trans r2
  have r4 := (s.2.2.2.2.1 4 (by decide)).trans r4
  have r5 := (s.2.2.2.2.1 5 (by decide)).trans r5
  have r10 := (s.2.2.2.2.1 10 (by decide)).trans r10
  have r18 := (s.2.2.2.2.1 18 (by decide)).trans r18
  have r20 := (s.2.2.2.2.1 20 (by decide)).trans r20
  have r21 := (s.2.2.2.2.1 21 (by decide)).trans r21
  have r22 := (s.2.2.2.2.1 22 (by decide)).trans r22
  have i0 := (congrFun s.2.2.1 0).trans i0
  have iO : ∀ j, j ≠ 17 → mI M1 x j = 0 := fun j hj => (congrFun s.2.2.1 j).trans (iO j hj)
  have i3 := (congrFun s.2.2.1 3).trans i3
  have i11 := (congrFun s.2.2.1 11).trans i11
  have i17 := (congrFun s.2.2.1 17).trans i17
  have i35 := (congrFun s.2.2.1 35).trans i35
  have i36 := (congrFun s.2.2.1 36).trans i36
  have i37 := (congrFun s.2.2.1 37).trans i37
  have r23 := s.2.2.2.2.2.1
  have rO : ∀ j, j ∉ ([23, 22, 21, 20, 18, 10, 5, 4, 2, 1] : List Nat) → mR M1 x j = none := fun j hj => (s.2.2.2.2.1 j (fun e => hj (by rw [e]; exact List.mem_cons_self))).trans (rO j (fun h => hj (List.mem_cons_of_mem _ h)))
  have p23 : gArrZ _ b23 20 108 := ⟨s.2.2.2.2.2.2.1, s.2.2.2.2.2.2.2.1⟩
  have hT := s.2.1.trans hT
  refine k_aload_n C rfl rfl rfl ?_
  refine k_sipush C (x := 361) rfl rfl rfl ?_
  refine iu_arr C (tt := 0) (n := 361) rfl rfl rfl (Or.inl ⟨rfl, rfl⟩) (by decide) (by decide) (Nat.le_of_ble_eq_true rfl) rfl rfl (Nat.le_of_ble_eq_true rfl) (Nat.le_of_ble_eq_true rfl) rfl hT ⟨rfl, rfl⟩ rfl (fun b25 M1 s sK => ?_)
  have n25 := hX.fresh (by rw [hT]; decide) s.2.2.2.2.2.2.2.2.2
  have hx9 := s.1.st hT
  have p1 := p1.st hx9 (by decide) (by decide)
  have p2 := p2.st hx9 (by decide) (by decide)
  have p4 := p4.st hx9 (by decide) (by decide)
  have p5 := p5.st hx9 (by decide) (by decide)
  have p10 := p10.st hx9 (by decide) (by decide)
  have p18 := p18.st hx9 (by decide) (by decide)
  have p20 := p20.st hx9 (by decide) (by decide)
  have p21 := p21.st hx9 (by decide) (by decide)
  have p22 := p22.st hx9 (by decide) (by decide)
  have p23 := p23.st hx9 (by decide) (by decide)
  have hX := hX.tr s.1
  have hK := hK.tr sK
  have r1 := (s.2.2.2.2.1 1 (by decide)).trans r1
  have r2 := (s.2.2.2.2.1 2 (by decide)).trans r2
  have r4 := (s.2.2.2.2.1 4 (by decide)).trans r4
  have r5 := (s.2.2.2.2.1 5 (by decide)).trans r5
  have r10 := (s.2.2.2.2.1 10 (by decide)).trans r10
  have r18 := (s.2.2.2.2.1 18 (by decide)).trans r18
  have r20 := (s.2.2.2.2.1 20 (by decide)).trans r20
  have r21 := (s.2.2.2.2.1 21 (by decide)).trans r21
  have r22 := (s.2.2.2.2.1 22 (by decide)).trans r22
  have r23 := (s.2.2.2.2.1 23 (by decide)).trans r23
  have i0 := (congrFun s.2.2.1 0).trans i0
  have iO : ∀ j, j ≠ 17 → mI M1 x j = 0 := fun j hj => (congrFun s.2.2.1 j).trans (iO j hj)
  have i3 := (congrFun s.2.2.1 3).trans i3
  have i11 := (congrFun s.2.2.1 11).trans i11
  have i17 := (congrFun s.2.2.1 17).trans i17
  have i35 := (congrFun s.2.2.1 35).trans i35
  have i36 := (congrFun s.2.2.1 36).trans i36
  have i37 := (congrFun s.2.2.1 37).trans i37
  have r25 := s.2.2.2.2.2.1
  have rO : ∀ j, j ∉ ([25, 23, 22, 21, 20, 18, 10, 5, 4, 2, 1] : List Nat) → mR M1 x j = none := fun j hj => (s.2.2.2.2.1 j (fun e => hj (by rw [e]; exact List.mem_cons_self))).trans (rO j (fun h => hj (List.mem_cons_of_mem _ h)))
  have p25 := s.2.2.2.2.2.2.1
  have hT := s.2.1.trans hT
  refine k_aload_n C rfl rfl rfl ?_
  refine k_sipush C (x := 180) rfl rfl rfl ?_
  refine iu_arr C (tt := 0) (n := 180) rfl rfl rfl (Or.inl ⟨rfl, rfl⟩) (by decide) (by decide) (Nat.le_of_ble_eq_true rfl) rfl rfl (Nat.le_of_ble_eq_true rfl) (Nat.le_of_ble_eq_true rfl) rfl hT ⟨rfl, rfl⟩ rfl (fun b26 M1 s sK => ?_)
  have n26 := hX.fresh (by rw [hT]; decide) s.2.2.2.2.2.2.2.2.2
  have hx9 := s.1.st hT
  have p1 := p1.st hx9 (by decide) (by decide)
  have p2 := p2.st hx9 (by decide) (by decide)
  have p4 := p4.st hx9 (by decide) (by decide)
  have p5 := p5.st hx9 (by decide) (by decide)
  have p10 := p10.st hx9 (by decide) (by decide)
  have p18 := p18.st hx9 (by decide) (by decide)
  have p20 := p20.st hx9 (by decide) (by decide)
  have p21 := p21.st hx9 (by decide) (by decide)
  have p22 := p22.st hx9 (by decide) (by decide)
  have p23 := p23.st hx9 (by decide) (by decide)
  have p25 := p25.st hx9 (by decide) (by decide)
  have hX := hX.tr s.1
  have hK := hK.tr sK
  have r1 := (s.2.2.2.2.1 1 (by decide)).trans r1
  have r2 := (s.2.2.2.2.1 2 (by decide)).trans r2
  have r4 := (s.2.2.2.2.1 4 (by decide)).trans r4
  have r5 := (s.2.2.2.2.1 5 (by decide)).trans r5
  have r10 := (s.2.2.2.2.1 10 (by decide)).trans r10
  have r18 := (s.2.2.2.2.1 18 (by decide)).trans r18
  have r20 := (s.2.2.2.2.1 20 (by decide)).trans r20
  have r21 := (s.2.2.2.2.1 21 (by decide)).trans r21
  have r22 := (s.2.2.2.2.1 22 (by decide)).trans r22
  have r23 := (s.2.2.2.2.1 23 (by decide)).trans r23
  have r25 := (s.2.2.2.2.1 25 (by decide)).trans r25
  have i0 := (congrFun s.2.2.1 0).trans i0
  have iO : ∀ j, j ≠ 17 → mI M1 x j = 0 := fun j hj => (congrFun s.2.2.1 j).trans (iO j hj)
  have i3 := (congrFun s.2.2.1 3).trans i3
  have i11 := (congrFun s.2.2.1 11).trans i11
  have i17 := (congrFun s.2.2.1 17).trans i17
  have i35 := (congrFun s.2.2.1 35).trans i35
  have i36 := (congrFun s.2.2.1 36).trans i36
  have i37 := (congrFun s.2.2.1 37).trans i37
  have r26 := s.2.2.2.2.2.1
  have rO : ∀ j, j ∉ ([26, 25, 23, 22, 21, 20, 18, 10, 5, 4, 2, 1] : List Nat) → mR M1 x j = none := fun j hj => (s.2.2.2.2.1 j (fun e => hj (by rw [e]; exact List.mem_cons_self))).trans (rO j (fun h => hj (List.mem_cons_of_mem _ h)))
  have p26 : gArrZ _ b26 20 180 := ⟨s.2.2.2.2.2.2.1, s.2.2.2.2.2.2.2.1⟩
  have hT := s.2.1.trans hT
  refine k_aload_n C rfl rfl rfl ?_
  refine k_iconst C (x := 3) rfl rfl rfl ?_
  refine iu_arr C (tt := 0) (n := 3) rfl rfl rfl (Or.inl ⟨rfl, rfl⟩) (by decide) (by decide) (Nat.le_of_ble_eq_true rfl) rfl rfl (Nat.le_of_ble_eq_true rfl) (Nat.le_of_ble_eq_true rfl) rfl hT ⟨rfl, rfl⟩ rfl (fun b27 M1 s sK => ?_)
  have n27 := hX.fresh (by rw [hT]; decide) s.2.2.2.2.2.2.2.2.2
  have hx9 := s.1.st hT
  have p1 := p1.st hx9 (by decide) (by decide)
  have p2 := p2.st hx9 (by decide) (by decide)
  have p4 := p4.st hx9 (by decide) (by decide)
  have p5 := p5.st hx9 (by decide) (by decide)
  have p10 := p10.st hx9 (by decide) (by decide)
  have p18 := p18.st hx9 (by decide) (by decide)
  have p20 := p20.st hx9 (by decide) (by decide)
  have p21 := p21.st hx9 (by decide) (by decide)
  have p22 := p22.st hx9 (by decide) (by decide)
  have p23 := p23.st hx9 (by decide) (by decide)
  have p25 := p25.st hx9 (by decide) (by decide)
  have p26 := p26.st hx9 (by decide) (by decide)
  have hX := hX.tr s.1
  have hK := hK.tr sK
  have r1 := (s.2.2.2.2.1 1 (by decide)).trans r1
  have r2 := (s.2.2.2.2.1 2 (by decide)).trans r2
  have r4 := (s.2.2.2.2.1 4 (by decide)).trans r4
  have r5 := (s.2.2.2.2.1 5 (by decide)).trans r5
  have r10 := (s.2.2.2.2.1 10 (by decide)).trans r10
  have r18 := (s.2.2.2.2.1 18 (by decide)).trans r18
  have r20 := (s.2.2.2.2.1 20 (by decide)).trans r20
  have r21 := (s.2.2.2.2.1 21 (by decide)).trans r21
  have r22 := (s.2.2.2.2.1 22 (by decide)).trans r22
  have r23 := (s.2.2.2.2.1 23 (by decide)).trans r23
  have r25 := (s.2.2.2.2.1 25 (by decide)).trans r25
  have r26 := (s.2.2.2.2.1 26 (by decide)).trans r26
  have i0 := (congrFun s.2.2.1 0).trans i0
  have iO : ∀ j, j ≠ 17 → mI M1 x j = 0 := fun j hj => (congrFun s.2.2.1 j).trans (iO j hj)
  have i3 := (congrFun s.2.2.1 3).trans i3
  have i11 := (congrFun s.2.2.1 11).trans i11
  have i17 := (congrFun s.2.2.1 17).trans i17
  have i35 := (congrFun s.2.2.1 35).trans i35
  have i36 := (congrFun s.2.2.1 36).trans i36
  have i37 := (congrFun s.2.2.1 37).trans i37
  have r27 := s.2.2.2.2.2.1
  have rO : ∀ j, j ∉ ([27, 26, 25, 23, 22, 21, 20, 18, 10, 5, 4, 2, 1] : List Nat) → mR M1 x j = none := fun j hj => (s.2.2.2.2.1 j (fun e => hj (by rw [e]; exact List.mem_cons_self))).trans (rO j (fun h => hj (List.mem_cons_of_mem _ h)))
  have p27 : gArrZ _ b27 20 3 := ⟨s.2.2.2.2.2.2.1, s.2.2.2.2.2.2.2.1⟩
  have hT := s.2.1.trans hT
  refine k_aload_n C rfl rfl rfl ?_
  refine k_iconst C (x := 3) rfl rfl rfl ?_
  refine iu_arr C (tt := 0) (n := 3) rfl rfl rfl (Or.inl ⟨rfl, rfl⟩) (by decide) (by decide) (Nat.le_of_ble_eq_true rfl) rfl rfl (Nat.le_of_ble_eq_true rfl) (Nat.le_of_ble_eq_true rfl) rfl hT ⟨rfl, rfl⟩ rfl (fun b28 M1 s sK => ?_)
  have n28 := hX.fresh (by rw [hT]; decide) s.2.2.2.2.2.2.2.2.2
  have h2728 : b27 ≠ b28 := fun e => by have z := p27.1.1; rw [e, s.2.2.2.2.2.2.2.2.2] at z; exact absurd z (by decide)
  have hx9 := s.1.st hT
  have p1 := p1.st hx9 (by decide) (by decide)
  have p2 := p2.st hx9 (by decide) (by decide)
  have p4 := p4.st hx9 (by decide) (by decide)
  have p5 := p5.st hx9 (by decide) (by decide)
  have p10 := p10.st hx9 (by decide) (by decide)
  have p18 := p18.st hx9 (by decide) (by decide)
  have p20 := p20.st hx9 (by decide) (by decide)
  have p21 := p21.st hx9 (by decide) (by decide)
  have p22 := p22.st hx9 (by decide) (by decide)
  have p23 := p23.st hx9 (by decide) (by decide)
  have p25 := p25.st hx9 (by decide) (by decide)
  have p26 := p26.st hx9 (by decide) (by decide)
  have p27 := p27.st hx9 (by decide) (by decide)
  have hX := hX.tr s.1
  have hK := hK.tr sK
  have r1 := (s.2.2.2.2.1 1 (by decide)).trans r1
  have r2 := (s.2.2.2.2.1 2 (by decide)).trans r2
  have r4 := (s.2.2.2.2.1 4 (by decide)).trans r4
  have r5 := (s.2.2.2.2.1 5 (by decide)).trans r5
  have r10 := (s.2.2.2.2.1 10 (by decide)).trans r10
  have r18 := (s.2.2.2.2.1 18 (by decide)).trans r18
  have r20 := (s.2.2.2.2.1 20 (by decide)).trans r20
  have r21 := (s.2.2.2.2.1 21 (by decide)).trans r21
  have r22 := (s.2.2.2.2.1 22 (by decide)).trans r22
  have r23 := (s.2.2.2.2.1 23 (by decide)).trans r23
  have r25 := (s.2.2.2.2.1 25 (by decide)).trans r25
  have r26 := (s.2.2.2.2.1 26 (by decide)).trans r26
  have r27 := (s.2.2.2.2.1 27 (by decide)).trans r27
  have i0 := (congrFun s.2.2.1 0).trans i0
  have iO : ∀ j, j ≠ 17 → mI M1 x j = 0 := fun j hj => (congrFun s.2.2.1 j).trans (iO j hj)
  have i3 := (congrFun s.2.2.1 3).trans i3
  have i11 := (congrFun s.2.2.1 11).trans i11
  have i17 := (congrFun s.2.2.1 17).trans i17
  have i35 := (congrFun s.2.2.1 35).trans i35
  have i36 := (congrFun s.2.2.1 36).trans i36
  have i37 := (congrFun s.2.2.1 37).trans i37
  have r28 := s.2.2.2.2.2.1
  have rO : ∀ j, j ∉ ([28, 27, 26, 25, 23, 22, 21, 20, 18, 10, 5, 4, 2, 1] : List Nat) → mR M1 x j = none := fun j hj => (s.2.2.2.2.1 j (fun e => hj (by rw [e]; exact List.mem_cons_self))).trans (rO j (fun h => hj (List.mem_cons_of_mem _ h)))
  have p28 : gArrZ _ b28 20 3 := ⟨s.2.2.2.2.2.2.1, s.2.2.2.2.2.2.2.1⟩
  have hT := s.2.1.trans hT
  refine k_aload_n C rfl rfl rfl ?_
  refine k_iconst C (x := 4) rfl rfl rfl ?_
  refine iu_arr C (tt := 1) (n := 4) rfl rfl rfl (Or.inr (Or.inl ⟨rfl, rfl⟩)) (by decide) (by decide) (Nat.le_of_ble_eq_true rfl) rfl rfl (Nat.le_of_ble_eq_true rfl) (Nat.le_of_ble_eq_true rfl) rfl hT ⟨rfl, rfl⟩ rfl (fun b34 M1 s sK => ?_)
  have n34 := hX.fresh (by rw [hT]; decide) s.2.2.2.2.2.2.2.2.2
  have hx9 := s.1.st hT
  have p1 := p1.st hx9 (by decide) (by decide)
  have p2 := p2.st hx9 (by decide) (by decide)
  have p4 := p4.st hx9 (by decide) (by decide)
  have p5 := p5.st hx9 (by decide) (by decide)
  have p10 := p10.st hx9 (by decide) (by decide)
  have p18 := p18.st hx9 (by decide) (by decide)
  have p20 := p20.st hx9 (by decide) (by decide)
  have p21 := p21.st hx9 (by decide) (by decide)
  have p22 := p22.st hx9 (by decide) (by decide)
  have p23 := p23.st hx9 (by decide) (by decide)
  have p25 := p25.st hx9 (by decide) (by decide)
  have p26 := p26.st hx9 (by decide) (by decide)
  have p27 := p27.st hx9 (by decide) (by decide)
  have p28 := p28.st hx9 (by decide) (by decide)
  have hX := hX.tr s.1
  have hK := hK.tr sK
  have r1 := (s.2.2.2.2.1 1 (by decide)).trans r1
  have r2 := (s.2.2.2.2.1 2 (by decide)).trans r2
  have r4 := (s.2.2.2.2.1 4 (by decide)).trans r4
  have r5 := (s.2.2.2.2.1 5 (by decide)).trans r5
  have r10 := (s.2.2.2.2.1 10 (by decide)).trans r10
  have r18 := (s.2.2.2.2.1 18 (by decide)).trans r18
  have r20 := (s.2.2.2.2.1 20 (by decide)).trans r20
  have r21 := (s.2.2.2.2.1 21 (by decide)).trans r21
  have r22 := (s.2.2.2.2.1 22 (by decide)).trans r22
  have r23 := (s.2.2.2.2.1 23 (by decide)).trans r23
  have r25 := (s.2.2.2.2.1 25 (by decide)).trans r25
  have r26 := (s.2.2.2.2.1 26 (by decide)).trans r26
  have r27 := (s.2.2.2.2.1 27 (by decide)).trans r27
  have r28 := (s.2.2.2.2.1 28 (by decide)).trans r28
  have i0 := (congrFun s.2.2.1 0).trans i0
  have iO : ∀ j, j ≠ 17 → mI M1 x j = 0 := fun j hj => (congrFun s.2.2.1 j).trans (iO j hj)
  have i3 := (congrFun s.2.2.1 3).trans i3
  have i11 := (congrFun s.2.2.1 11).trans i11
  have i17 := (congrFun s.2.2.1 17).trans i17
  have i35 := (congrFun s.2.2.1 35).trans i35
  have i36 := (congrFun s.2.2.1 36).trans i36
  have i37 := (congrFun s.2.2.1 37).trans i37
  have r34 := s.2.2.2.2.2.1
  have rO : ∀ j, j ∉ ([34, 28, 27, 26, 25, 23, 22, 21, 20, 18, 10, 5, 4, 2, 1] : List Nat) → mR M1 x j = none := fun j hj => (s.2.2.2.2.1 j (fun e => hj (by rw [e]; exact List.mem_cons_self))).trans (rO j (fun h => hj (List.mem_cons_of_mem _ h)))
  have p34 := s.2.2.2.2.2.2.1
  have hT := s.2.1.trans hT
  refine k_aload_n C rfl rfl rfl ?_
  refine i_getR C rfl rfl rfl hT rfl r1 ?_
  refine k_iconst C (x := 0) rfl rfl rfl ?_
  refine k_bipush C (x := 11) rfl rfl rfl ?_
  refine k_iast C rfl rfl p1.1.1 (vin (n := 0) rfl (by rw [p1.1.2]; exact Nat.le_of_ble_eq_true rfl) (by rw [p1.1.2]; exact Nat.le_of_ble_eq_true rfl)) ?_
  have hwx : x ≠ b1 := fun e => by have := p1.1.1; rw [← e, hT] at this; exact absurd this (by decide)
  have g9 : ∀ a, a ≠ b1 → Ag M1 (sI M1 b1 (0 : Int32).toNatClampNeg 11) a := fun a ha => ag_sI ha
  have hX1 : Ex1 x M (sI M1 b1 (0 : Int32).toNatClampNeg 11) := fun a ha hax => (hX a ha hax).tr (g9 a (fun e => ha (by rw [e]; exact n1)))
  have q0 : ∀ j v, mI M1 x j = v → mI (sI M1 b1 (0 : Int32).toNatClampNeg 11) x j = v := fun j v h => (congrFun (g9 x hwx).2.2.1 j).trans h
  have qZ : ∀ {b n}, n ≠ 4007 → gArrZ M1 b 20 n → gArrZ (sI M1 b1 (0 : Int32).toNatClampNeg 11) b 20 n := fun hn h => ⟨h.1, fun j => (congrFun (g9 _ (fun e => hn (by rw [← h.1.2, e, p1.1.2]))).2.2.1 j).trans (h.2 j)⟩
  have qA : ∀ {b t n}, t ≠ 20 → gArr M1 b t n → gArr (sI M1 b1 (0 : Int32).toNatClampNeg 11) b t n := fun _ h => h
  exact k_vret C rfl rfl (Nat.le_of_ble_eq_true rfl) (Nat.le_of_ble_eq_true rfl) ⟨rfl, hK.tr Ko.iI, hX1, hT, q0 0 _ i0, q0 3 _ i3, q0 11 _ i11, q0 17 _ i17, q0 35 _ i35, q0 36 _ i36, q0 37 _ i37, fun j hj => q0 j _ (iO j hj), rO, b1, b2, b4, b5, b10, b18, b20, b21, b22, b23, b25, b26, b27, b28, b34, u2_s, fun j hj => (u2_k (show j ≠ (0 : Int32).toNatClampNeg from fun e => by rw [e] at hj; exact absurd hj (by decide))).trans (p1.2 j), hwd, h420, h2728, r1, p1.1, n1, r2, p2, n2, r4, qZ (by decide) p4, n4, r5, qZ (by decide) p5, n5, r10, ⟨p10.1, fun j => (congrFun (g9 _ (fun e => by have z := p10.1.1; rw [e, p1.1.1] at z; exact absurd z (by decide))).2.2.1 j).trans (p10.2 j)⟩, n10, r18, p18, n18, r20, p20, n20, r21, p21, n21, r22, qZ (by decide) p22, n22, r23, qZ (by decide) p23, n23, r25, p25, n25, r26, qZ (by decide) p26, n26, r27, qZ (by decide) p27, n27, r28, qZ (by decide) p28, n28, r34, p34, n34⟩
end
-- 39.20.cls.lean.txt
section
/-! the class on a new object: what throws, and small calls -/
end
-- 39.22.cls.lean.txt
section
/-! the class: numbers, tables, tests of numbers -/
theorem of_a {n : Int64} {p : Int32} (hp1 : 2 ≤ p.toInt) (hp2 : p.toInt ≤ 19) (c : 0 ≤ lg_cmp (n - n / p.toInt64 * p.toInt64) 0) : (n - n / p.toInt64 * p.toInt64).toInt32.toInt = n.toInt % p.toInt := by
  have hy : 0 < p.toInt64.toInt := by rw [i2l_eq]; omega
  have h0 := l_le.mp ((lg_cmp_ge _ _).mp c)
  have h1 := l_rem (x := n) hy
  have h2 := Int.tmod_lt_of_pos n.toInt hy
  rw [i2l_eq] at h1 h2
  have h00 : (0 : Int64).toInt = 0 := rfl
  rw [h00, h1] at h0
  rw [l2i_eq (by rw [h1]; omega), h1]
  exact (tm_em _ (by omega)).1 h0
theorem of_b {n : Int64} {p : Int32} (hp1 : 2 ≤ p.toInt) (hp2 : p.toInt ≤ 19) (c : ¬ 0 ≤ lg_cmp (n - n / p.toInt64 * p.toInt64) 0) : (n - n / p.toInt64 * p.toInt64 + p.toInt64).toInt32.toInt = n.toInt % p.toInt := by
  have hy : 0 < p.toInt64.toInt := by rw [i2l_eq]; omega
  have h0 : ¬ (0 : Int64).toInt ≤ (n - n / p.toInt64 * p.toInt64).toInt := fun h => c ((lg_cmp_ge _ _).mpr (l_le.mpr h))
  have h1 := l_rem (x := n) hy
  have h2 := Int.tmod_lt_of_pos n.toInt hy
  have h3 := Int.lt_tmod_of_pos n.toInt hy
  rw [i2l_eq] at h1 h2 h3
  have h00 : (0 : Int64).toInt = 0 := rfl
  rw [h00, h1] at h0
  have h4 : (n - n / p.toInt64 * p.toInt64 + p.toInt64).toInt = n.toInt.tmod p.toInt + p.toInt := by rw [li_add (by rw [h1, i2l_eq]; omega), h1, i2l_eq]
  rw [l2i_eq (by rw [h4]; omega), h4]
  exact (tm_em _ (by omega)).2 (by omega)
theorem md_lt {u n p : Int} (h : u = n % p) (hp1 : 2 ≤ p) : 0 ≤ u ∧ u < p := by
  rw [h]; exact ⟨Int.emod_nonneg _ (by omega), Int.emod_lt_of_pos _ (by omega)⟩
theorem mul_bd {u v : Int} (h1 : 0 ≤ u ∧ u ≤ 18) (h2 : 0 ≤ v ∧ v ≤ 18) : 0 ≤ u * v ∧ u * v ≤ 324 := by
  refine ⟨Int.mul_nonneg h1.1 h2.1, ?_⟩
  have := Int.mul_le_mul h1.2 h2.2 h2.1 (by omega)
  omega
def dt (p a b c d : Int) : Int := ((a % p) * (d % p) - (b % p) * (c % p)) % p
theorem e_of {d : Nat} {T N : Nat → Nat} {I : IT} {L : LT} {R : RT} {al nw : Nat} {n : Int64}{p : Int32} (T_al : T al = 1) (R_al_0 : R al 0 = some nw) (T_nw : T nw = 9) (I_nw_0 : I nw 0 = p) (hp1 : 2 ≤ p.toInt) (hp2 : p.toInt ≤ 19) : Ex (d + 1) 3 [.ref al, .long n] (T, N, I, L, R) 0 0 (pI T N R (fun x9 I9 L9 => I9 = I ∧ L9 = L ∧ (x9.toInt = n.toInt % p.toInt))) := by
  refine ⟨_, rfl, Nat.le_of_ble_eq_true rfl, fun V C S => ?_⟩
  show V 0 [(0, .ref al), (1, .long n)] [] (T, N, I, L, R) 0 0
  refine k_aload_n C rfl rfl rfl ?_
  refine g_R C rfl rfl rfl T_al rfl R_al_0 ?_
  refine g_I C rfl rfl rfl T_nw rfl (I_nw_0) ?_
  refine k_iconst C (x := 2) rfl rfl rfl ?_
  refine k_icmp_ge C (t := 13) rfl rfl rfl (fun c8 => ?_) (fun c8 => ?_)
  · skip
    refine k_lload_n C rfl rfl rfl ?_
    refine k_aload_n C rfl rfl rfl ?_
    refine g_R C rfl rfl rfl T_al rfl R_al_0 ?_
    refine g_I C rfl rfl rfl T_nw rfl (I_nw_0) ?_
    refine k_i2l C rfl rfl ?_
    refine k_lrem C rfl rfl (l_ne0 (by rw [i2l_eq]; omega)) ?_
    refine k_lstore_n C (lw := [(3, .long _), (0, _), (1, .long _)]) rfl rfl (Nat.le_of_ble_eq_true rfl) rfl ?_
    refine k_lload_n C rfl rfl rfl ?_
    refine k_lconst C (x := 0) rfl rfl rfl ?_
    refine k_lcmp C rfl rfl ?_
    refine k_if_ge C (t := 43) rfl rfl rfl (fun c27 => ?_) (fun c27 => ?_)
    · skip
      have q := of_a hp1 hp2 c27
      refine k_lload_n C rfl rfl rfl ?_
      refine k_l2i C rfl rfl ?_
      exact k_iret C rfl (Or.inl rfl) (Nat.le_of_ble_eq_true rfl) (Nat.le_of_ble_eq_true rfl) ⟨_, _, _, rfl, rfl, ⟨rfl, rfl, q⟩⟩
    have q := of_b hp1 hp2 c27
    refine k_lload_n C rfl rfl rfl ?_
    refine k_aload_n C rfl rfl rfl ?_
    refine g_R C rfl rfl rfl T_al rfl R_al_0 ?_
    refine g_I C rfl rfl rfl T_nw rfl (I_nw_0) ?_
    refine k_i2l C rfl rfl ?_
    refine k_ladd C rfl rfl ?_
    refine k_goto C (pc2 := 44) rfl rfl ?_
    refine k_l2i C rfl rfl ?_
    exact k_iret C rfl (Or.inl rfl) (Nat.le_of_ble_eq_true rfl) (Nat.le_of_ble_eq_true rfl) ⟨_, _, _, rfl, rfl, ⟨rfl, rfl, q⟩⟩
  exact absurd ((i_le (x := 2) (y := p)).mpr hp1) c8

theorem e_detOf {d : Nat} {T N : Nat → Nat} {I : IT} {L : LT} {R : RT} {al nw : Nat} {a b c e : Int32}{p : Int32} (T_al : T al = 1) (R_al_0 : R al 0 = some nw) (T_nw : T nw = 9) (I_nw_0 : I nw 0 = p) (hp1 : 2 ≤ p.toInt) (hp2 : p.toInt ≤ 19) : Ex (d + 2) 6 [.ref al, .int a, .int b, .int c, .int e] (T, N, I, L, R) 0 0 (pI T N R (fun x9 I9 L9 => I9 = I ∧ L9 = L ∧ (x9.toInt = dt p.toInt a.toInt b.toInt c.toInt e.toInt))) := by
  refine ⟨_, rfl, Nat.le_of_ble_eq_true rfl, fun V C S => ?_⟩
  show V 0 [(0, .ref al), (1, .int a), (2, .int b), (3, .int c), (4, .int e)] [] (T, N, I, L, R) 0 0
  refine k_aload_n C rfl rfl rfl ?_
  refine k_aload_n C rfl rfl rfl ?_
  refine k_iload_n C rfl rfl rfl ?_
  refine k_i2l C rfl rfl ?_
  refine c_VI C (e_of T_al R_al_0 T_nw (I_nw_0) hp1 hp2) rfl rfl rfl rfl rfl ⟨_, rfl, rfl, T_al, Nat.le_of_ble_eq_true rfl⟩ rfl rfl (Nat.le_of_ble_eq_true rfl) (Nat.le_of_ble_eq_true rfl) (Nat.le_of_ble_eq_true rfl) ?_
  rintro x4 _ _ ⟨rfl, rfl, h4⟩
  refine k_aload_n C rfl rfl rfl ?_
  refine k_iload C rfl rfl rfl ?_
  refine k_i2l C rfl rfl ?_
  refine c_VI C (e_of T_al R_al_0 T_nw (I_nw_0) hp1 hp2) rfl rfl rfl rfl rfl ⟨_, rfl, rfl, T_al, Nat.le_of_ble_eq_true rfl⟩ rfl rfl (Nat.le_of_ble_eq_true rfl) (Nat.le_of_ble_eq_true rfl) (Nat.le_of_ble_eq_true rfl) ?_
  rintro x11 _ _ ⟨rfl, rfl, h11⟩
  refine k_imul C rfl rfl ?_
  refine k_aload_n C rfl rfl rfl ?_
  refine k_iload_n C rfl rfl rfl ?_
  refine k_i2l C rfl rfl ?_
  refine c_VI C (e_of T_al R_al_0 T_nw (I_nw_0) hp1 hp2) rfl rfl rfl rfl rfl ⟨_, rfl, rfl, T_al, Nat.le_of_ble_eq_true rfl⟩ rfl rfl (Nat.le_of_ble_eq_true rfl) (Nat.le_of_ble_eq_true rfl) (Nat.le_of_ble_eq_true rfl) ?_
  rintro x18 _ _ ⟨rfl, rfl, h18⟩
  refine k_aload_n C rfl rfl rfl ?_
  refine k_iload_n C rfl rfl rfl ?_
  refine k_i2l C rfl rfl ?_
  refine c_VI C (e_of T_al R_al_0 T_nw (I_nw_0) hp1 hp2) rfl rfl rfl rfl rfl ⟨_, rfl, rfl, T_al, Nat.le_of_ble_eq_true rfl⟩ rfl rfl (Nat.le_of_ble_eq_true rfl) (Nat.le_of_ble_eq_true rfl) (Nat.le_of_ble_eq_true rfl) ?_
  rintro x24 _ _ ⟨rfl, rfl, h24⟩
  refine k_imul C rfl rfl ?_
  refine k_isub C rfl rfl ?_
  refine k_i2l C rfl rfl ?_
  refine c_VI C (e_of T_al R_al_0 T_nw (I_nw_0) hp1 hp2) rfl rfl rfl rfl rfl ⟨_, rfl, rfl, T_al, Nat.le_of_ble_eq_true rfl⟩ rfl rfl (Nat.le_of_ble_eq_true rfl) (Nat.le_of_ble_eq_true rfl) (Nat.le_of_ble_eq_true rfl) ?_
  rintro x30 _ _ ⟨rfl, rfl, h30⟩
  exact k_iret C rfl (Or.inl rfl) (Nat.le_of_ble_eq_true rfl) (Nat.le_of_ble_eq_true rfl) ⟨_, _, _, rfl, rfl, ⟨rfl, rfl, by
      rw [i2l_eq] at h4 h11 h18 h24
      have b1 := md_lt h4 hp1
      have b2 := md_lt h11 hp1
      have b3 := md_lt h18 hp1
      have b4 := md_lt h24 hp1
      have m1 := mul_bd (u := x4.toInt) (v := x11.toInt) (by omega) (by omega)
      have m2 := mul_bd (u := x18.toInt) (v := x24.toInt) (by omega) (by omega)
      have e1 := ii_mul (x := x4) (y := x11) (by omega)
      have e2 := ii_mul (x := x18) (y := x24) (by omega)
      rw [h30, i2l_eq, ii_sub (by rw [e1, e2]; omega), e1, e2, h4, h11, h18, h24]
      rfl⟩⟩

theorem e_fmL {d : Nat} {T N : Nat → Nat} {I : IT} {L : LT} {R : RT} {x y : Int64}  (hy : 0 < y.toInt) : Ex (d + 1) 191 [.long x, .long y] (T, N, I, L, R) 0 0 (pL T N R (fun x9 I9 L9 => I9 = I ∧ L9 = L ∧ (x9.toInt = x.toInt % y.toInt))) := by
  refine ⟨_, rfl, Nat.le_of_ble_eq_true rfl, fun V C S => ?_⟩
  show V 0 [(0, .long x), (2, .long y)] [] (T, N, I, L, R) 0 0
  refine k_lload_n C rfl rfl rfl ?_
  refine k_lload_n C rfl rfl rfl ?_
  refine k_lrem C rfl rfl (l_ne0 (by omega)) ?_
  refine k_lstore C (lw := [(4, .long _), (0, .long _), (2, .long _)]) rfl rfl (Nat.le_of_ble_eq_true rfl) rfl ?_
  refine k_lload_n C rfl rfl rfl ?_
  refine k_lload_n C rfl rfl rfl ?_
  refine k_lxor C rfl rfl ?_
  refine k_lconst C (x := 0) rfl rfl rfl ?_
  refine k_lcmp C rfl rfl ?_
  refine k_if_ge C (t := 25) rfl rfl rfl (fun c10 => ?_) (fun c10 => ?_)
  · skip
    have q := fm64a hy ((lg_cmp_ge _ _).mp c10)
    refine k_lload C rfl rfl rfl ?_
    exact k_lret C rfl rfl (Nat.le_of_ble_eq_true rfl) (Nat.le_of_ble_eq_true rfl) ⟨_, _, _, rfl, rfl, ⟨rfl, rfl, q⟩⟩
  have c10 : ¬ (0 : Int64) ≤ x ^^^ y := fun h => c10 ((lg_cmp_ge _ _).mpr h)
  refine k_lload C rfl rfl rfl ?_
  refine k_lconst C (x := 0) rfl rfl rfl ?_
  refine k_lcmp C rfl rfl ?_
  refine k_if_eq C (t := 25) rfl rfl rfl (fun c17 => ?_) (fun c17 => ?_)
  · skip
    have q := fm64b hy ((lg_cmp_eq _ _).mp c17)
    refine k_lload C rfl rfl rfl ?_
    exact k_lret C rfl rfl (Nat.le_of_ble_eq_true rfl) (Nat.le_of_ble_eq_true rfl) ⟨_, _, _, rfl, rfl, ⟨rfl, rfl, q⟩⟩
  have q := fm64c hy c10 (fun h => c17 ((lg_cmp_eq _ _).mpr h))
  refine k_lload C rfl rfl rfl ?_
  refine k_lload_n C rfl rfl rfl ?_
  refine k_ladd C rfl rfl ?_
  exact k_lret C rfl rfl (Nat.le_of_ble_eq_true rfl) (Nat.le_of_ble_eq_true rfl) ⟨_, _, _, rfl, rfl, ⟨rfl, rfl, q⟩⟩

theorem e_fmI {d : Nat} {T N : Nat → Nat} {I : IT} {L : LT} {R : RT} {x y : Int32}  (hy : 0 < y.toInt) : Ex (d + 1) 169 [.int x, .int y] (T, N, I, L, R) 0 0 (pI T N R (fun x9 I9 L9 => I9 = I ∧ L9 = L ∧ (x9.toInt = x.toInt % y.toInt))) := by
  refine ⟨_, rfl, Nat.le_of_ble_eq_true rfl, fun V C S => ?_⟩
  show V 0 [(0, .int x), (1, .int y)] [] (T, N, I, L, R) 0 0
  refine k_iload_n C rfl rfl rfl ?_
  refine k_iload_n C rfl rfl rfl ?_
  refine k_irem C rfl rfl (i_ne0 (by omega)) ?_
  refine k_istore_n C (lw := [(2, .int _), (0, .int _), (1, .int _)]) rfl rfl (Nat.le_of_ble_eq_true rfl) rfl ?_
  refine k_iload_n C rfl rfl rfl ?_
  refine k_iload_n C rfl rfl rfl ?_
  refine k_ixor C rfl rfl ?_
  refine k_if_ge C (t := 18) rfl rfl rfl (fun c7 => ?_) (fun c7 => ?_)
  · skip
    have q := fm32a hy c7
    refine k_iload_n C rfl rfl rfl ?_
    exact k_iret C rfl (Or.inl rfl) (Nat.le_of_ble_eq_true rfl) (Nat.le_of_ble_eq_true rfl) ⟨_, _, _, rfl, rfl, ⟨rfl, rfl, q⟩⟩
  refine k_iload_n C rfl rfl rfl ?_
  refine k_if_eq C (t := 18) rfl rfl rfl (fun c11 => ?_) (fun c11 => ?_)
  · skip
    have q := fm32b hy c11
    refine k_iload_n C rfl rfl rfl ?_
    exact k_iret C rfl (Or.inl rfl) (Nat.le_of_ble_eq_true rfl) (Nat.le_of_ble_eq_true rfl) ⟨_, _, _, rfl, rfl, ⟨rfl, rfl, q⟩⟩
  have q := fm32c hy c7 c11
  refine k_iload_n C rfl rfl rfl ?_
  refine k_iload_n C rfl rfl rfl ?_
  refine k_iadd C rfl rfl ?_
  exact k_iret C rfl (Or.inl rfl) (Nat.le_of_ble_eq_true rfl) (Nat.le_of_ble_eq_true rfl) ⟨_, _, _, rfl, rfl, ⟨rfl, rfl, q⟩⟩

theorem e_fdL {d : Nat} {T N : Nat → Nat} {I : IT} {L : LT} {R : RT} {x y : Int64}  (hy : 0 < y.toInt) : Ex (d + 1) 113 [.long x, .long y] (T, N, I, L, R) 0 0 (pL T N R (fun x9 I9 L9 => I9 = I ∧ L9 = L ∧ (x9.toInt = x.toInt / y.toInt))) := by
  refine ⟨_, rfl, Nat.le_of_ble_eq_true rfl, fun V C S => ?_⟩
  show V 0 [(0, .long x), (2, .long y)] [] (T, N, I, L, R) 0 0
  refine k_lload_n C rfl rfl rfl ?_
  refine k_lload_n C rfl rfl rfl ?_
  refine k_ldiv C rfl rfl (l_ne0 (by omega)) ?_
  refine k_lstore C (lw := [(4, .long _), (0, .long _), (2, .long _)]) rfl rfl (Nat.le_of_ble_eq_true rfl) rfl ?_
  refine k_lload_n C rfl rfl rfl ?_
  refine k_lload_n C rfl rfl rfl ?_
  refine k_lxor C rfl rfl ?_
  refine k_lconst C (x := 0) rfl rfl rfl ?_
  refine k_lcmp C rfl rfl ?_
  refine k_if_ge C (t := 27) rfl rfl rfl (fun c10 => ?_) (fun c10 => ?_)
  · skip
    have q := fd64a hy ((lg_cmp_ge _ _).mp c10)
    refine k_lload C rfl rfl rfl ?_
    exact k_lret C rfl rfl (Nat.le_of_ble_eq_true rfl) (Nat.le_of_ble_eq_true rfl) ⟨_, _, _, rfl, rfl, ⟨rfl, rfl, q⟩⟩
  have c10 : ¬ (0 : Int64) ≤ x ^^^ y := fun h => c10 ((lg_cmp_ge _ _).mpr h)
  refine k_lload C rfl rfl rfl ?_
  refine k_lload_n C rfl rfl rfl ?_
  refine k_lmul C rfl rfl ?_
  refine k_lload_n C rfl rfl rfl ?_
  refine k_lcmp C rfl rfl ?_
  refine k_if_eq C (t := 27) rfl rfl rfl (fun c19 => ?_) (fun c19 => ?_)
  · skip
    have q := fd64b hy ((lg_cmp_eq _ _).mp c19)
    refine k_lload C rfl rfl rfl ?_
    exact k_lret C rfl rfl (Nat.le_of_ble_eq_true rfl) (Nat.le_of_ble_eq_true rfl) ⟨_, _, _, rfl, rfl, ⟨rfl, rfl, q⟩⟩
  have q := fd64c hy c10 (fun h => c19 ((lg_cmp_eq _ _).mpr h))
  refine k_lload C rfl rfl rfl ?_
  refine k_lconst C (x := 1) rfl rfl rfl ?_
  refine k_lsub C rfl rfl ?_
  exact k_lret C rfl rfl (Nat.le_of_ble_eq_true rfl) (Nat.le_of_ble_eq_true rfl) ⟨_, _, _, rfl, rfl, ⟨rfl, rfl, q⟩⟩

theorem e_abs {d : Nat} {T N : Nat → Nat} {I : IT} {L : LT} {R : RT} {x : Int32}  : Ex (d + 1) 314 [.int x] (T, N, I, L, R) 0 0 (pI T N R (fun x9 I9 L9 => x9 = (if 0 ≤ x then x else -x) ∧ I9 = I ∧ L9 = L)) := by
  refine ⟨_, rfl, Nat.le_of_ble_eq_true rfl, fun V C S => ?_⟩
  show V 0 [(0, .int x)] [] (T, N, I, L, R) 0 0
  refine k_iload_n C rfl rfl rfl ?_
  refine k_if_ge C (t := 9) rfl rfl rfl (fun c1 => ?_) (fun c1 => ?_)
  · skip
    refine k_iload_n C rfl rfl rfl ?_
    exact k_iret C rfl (Or.inl rfl) (Nat.le_of_ble_eq_true rfl) (Nat.le_of_ble_eq_true rfl) ⟨_, _, _, rfl, rfl, ⟨by first | exact (if_pos c1).symm | exact (if_neg c1).symm, rfl, rfl⟩⟩
  refine k_iload_n C rfl rfl rfl ?_
  refine k_ineg C rfl rfl ?_
  refine k_goto C (pc2 := 10) rfl rfl ?_
  exact k_iret C rfl (Or.inl rfl) (Nat.le_of_ble_eq_true rfl) (Nat.le_of_ble_eq_true rfl) ⟨_, _, _, rfl, rfl, ⟨by first | exact (if_pos c1).symm | exact (if_neg c1).symm, rfl, rfl⟩⟩

theorem e_isWhole {d : Nat} {T N : Nat → Nat} {I : IT} {L : LT} {R : RT} {v w : Int32}  : Ex (d + 1) 167 [.int v, .int w] (T, N, I, L, R) 0 0 (pI T N R (fun x9 I9 L9 => x9 = (if -w ≤ v ∧ v ≤ w then (1 : Int32) else 0) ∧ I9 = I ∧ L9 = L)) := by
  refine ⟨_, rfl, Nat.le_of_ble_eq_true rfl, fun V C S => ?_⟩
  show V 0 [(0, .int v), (1, .int w)] [] (T, N, I, L, R) 0 0
  refine k_iload_n C rfl rfl rfl ?_
  refine k_iload_n C rfl rfl rfl ?_
  refine k_ineg C rfl rfl ?_
  refine k_icmp_lt C (t := 15) rfl rfl rfl (fun c3 => ?_) (fun c3 => ?_)
  · skip
    refine k_iconst C (x := 0) rfl rfl rfl ?_
    exact k_iret C rfl (Or.inr ⟨rfl, by first | exact Or.inl rfl | exact Or.inr rfl⟩) (Nat.le_of_ble_eq_true rfl) (Nat.le_of_ble_eq_true rfl) ⟨_, _, _, rfl, rfl, ⟨by first | exact (if_pos ⟨Int32.not_lt.mp c3, Int32.not_lt.mp c8⟩).symm | exact (if_neg (fun h => Int32.not_lt.mpr h.2 c8)).symm | exact (if_neg (fun h => Int32.not_lt.mpr h.1 c3)).symm, rfl, rfl⟩⟩
  refine k_iload_n C rfl rfl rfl ?_
  refine k_iload_n C rfl rfl rfl ?_
  refine k_icmp_gt C (t := 15) rfl rfl rfl (fun c8 => ?_) (fun c8 => ?_)
  · skip
    refine k_iconst C (x := 0) rfl rfl rfl ?_
    exact k_iret C rfl (Or.inr ⟨rfl, by first | exact Or.inl rfl | exact Or.inr rfl⟩) (Nat.le_of_ble_eq_true rfl) (Nat.le_of_ble_eq_true rfl) ⟨_, _, _, rfl, rfl, ⟨by first | exact (if_pos ⟨Int32.not_lt.mp c3, Int32.not_lt.mp c8⟩).symm | exact (if_neg (fun h => Int32.not_lt.mpr h.2 c8)).symm | exact (if_neg (fun h => Int32.not_lt.mpr h.1 c3)).symm, rfl, rfl⟩⟩
  refine k_iconst C (x := 1) rfl rfl rfl ?_
  refine k_goto C (pc2 := 16) rfl rfl ?_
  exact k_iret C rfl (Or.inr ⟨rfl, by first | exact Or.inl rfl | exact Or.inr rfl⟩) (Nat.le_of_ble_eq_true rfl) (Nat.le_of_ble_eq_true rfl) ⟨_, _, _, rfl, rfl, ⟨by first | exact (if_pos ⟨Int32.not_lt.mp c3, Int32.not_lt.mp c8⟩).symm | exact (if_neg (fun h => Int32.not_lt.mpr h.2 c8)).symm | exact (if_neg (fun h => Int32.not_lt.mpr h.1 c3)).symm, rfl, rfl⟩⟩

def isDc (x : Int32) : Prop := -9999 ≤ x.toInt ∧ x.toInt ≤ -3 ∧ x.toInt % 4 ≤ 1
theorem e_isDisc_yes {d : Nat} {T N : Nat → Nat} {I : IT} {L : LT} {R : RT} {x : Int32}  (h : isDc x) : Ex (d + 2) 170 [.int x] (T, N, I, L, R) 0 0 (pI T N R (fun x9 I9 L9 => I9 = I ∧ L9 = L ∧ (x9 = 1))) := by
  refine ⟨_, rfl, Nat.le_of_ble_eq_true rfl, fun V C S => ?_⟩
  show V 0 [(0, .int x)] [] (T, N, I, L, R) 0 0
  refine k_iload_n C rfl rfl rfl ?_
  refine k_bipush C (x := -3) rfl rfl rfl ?_
  refine k_icmp_gt C (t := 34) rfl rfl rfl (fun c3 => ?_) (fun c3 => ?_)
  · skip
    exact absurd (i_lt.mp c3) (by have := h.2.1; show ¬ (-3 : Int) < _; omega)
  refine k_iload_n C rfl rfl rfl ?_
  refine k_sipush C (x := -9999) rfl rfl rfl ?_
  refine k_icmp_lt C (t := 34) rfl rfl rfl (fun c10 => ?_) (fun c10 => ?_)
  · skip
    exact absurd (i_lt.mp c10) (by have := h.1; show ¬ _ < (-9999 : Int); omega)
  refine k_iload_n C rfl rfl rfl ?_
  refine k_iconst C (x := 4) rfl rfl rfl ?_
  refine c_SI C (e_fmI  (by decide)) rfl rfl rfl rfl rfl rfl rfl (Nat.le_of_ble_eq_true rfl) (Nat.le_of_ble_eq_true rfl) (Nat.le_of_ble_eq_true rfl) ?_
  rintro x15 _ _ ⟨rfl, rfl, h15⟩
  refine k_if_eq C (t := 30) rfl rfl rfl (fun c18 => ?_) (fun c18 => ?_)
  · skip
    refine k_iconst C (x := 1) rfl rfl rfl ?_
    refine k_goto C (pc2 := 35) rfl rfl ?_
    exact k_iret C rfl (Or.inr ⟨rfl, Or.inr rfl⟩) (Nat.le_of_ble_eq_true rfl) (Nat.le_of_ble_eq_true rfl) ⟨_, _, _, rfl, rfl, ⟨rfl, rfl, rfl⟩⟩
  refine k_iload_n C rfl rfl rfl ?_
  refine k_iconst C (x := 4) rfl rfl rfl ?_
  refine c_SI C (e_fmI  (by decide)) rfl rfl rfl rfl rfl rfl rfl (Nat.le_of_ble_eq_true rfl) (Nat.le_of_ble_eq_true rfl) (Nat.le_of_ble_eq_true rfl) ?_
  rintro x23 _ _ ⟨rfl, rfl, h23⟩
  refine k_iconst C (x := 1) rfl rfl rfl ?_
  refine k_icmp_ne C (t := 34) rfl rfl rfl (fun c27 => ?_) (fun c27 => ?_)
  · skip
    exact absurd (Int32.toInt_inj.mp (by have q1 : x23.toInt = x.toInt % 4 := h23; have q2 : ¬ x.toInt % 4 = 0 := fun e => c18 (Int32.toInt_inj.mp (by rw [h15]; exact e)); have q3 := h.2.2; rw [q1]; show _ = (1 : Int); omega)) c27
  refine k_iconst C (x := 1) rfl rfl rfl ?_
  refine k_goto C (pc2 := 35) rfl rfl ?_
  exact k_iret C rfl (Or.inr ⟨rfl, Or.inr rfl⟩) (Nat.le_of_ble_eq_true rfl) (Nat.le_of_ble_eq_true rfl) ⟨_, _, _, rfl, rfl, ⟨rfl, rfl, rfl⟩⟩

theorem e_isDisc_no {d : Nat} {T N : Nat → Nat} {I : IT} {L : LT} {R : RT} {x : Int32}  (h : ¬ isDc x) : Ex (d + 2) 170 [.int x] (T, N, I, L, R) 0 0 (pI T N R (fun x9 I9 L9 => I9 = I ∧ L9 = L ∧ (x9 = 0))) := by
  refine ⟨_, rfl, Nat.le_of_ble_eq_true rfl, fun V C S => ?_⟩
  show V 0 [(0, .int x)] [] (T, N, I, L, R) 0 0
  refine k_iload_n C rfl rfl rfl ?_
  refine k_bipush C (x := -3) rfl rfl rfl ?_
  refine k_icmp_gt C (t := 34) rfl rfl rfl (fun c3 => ?_) (fun c3 => ?_)
  · skip
    refine k_iconst C (x := 0) rfl rfl rfl ?_
    exact k_iret C rfl (Or.inr ⟨rfl, Or.inl rfl⟩) (Nat.le_of_ble_eq_true rfl) (Nat.le_of_ble_eq_true rfl) ⟨_, _, _, rfl, rfl, ⟨rfl, rfl, rfl⟩⟩
  refine k_iload_n C rfl rfl rfl ?_
  refine k_sipush C (x := -9999) rfl rfl rfl ?_
  refine k_icmp_lt C (t := 34) rfl rfl rfl (fun c10 => ?_) (fun c10 => ?_)
  · skip
    refine k_iconst C (x := 0) rfl rfl rfl ?_
    exact k_iret C rfl (Or.inr ⟨rfl, Or.inl rfl⟩) (Nat.le_of_ble_eq_true rfl) (Nat.le_of_ble_eq_true rfl) ⟨_, _, _, rfl, rfl, ⟨rfl, rfl, rfl⟩⟩
  refine k_iload_n C rfl rfl rfl ?_
  refine k_iconst C (x := 4) rfl rfl rfl ?_
  refine c_SI C (e_fmI  (by decide)) rfl rfl rfl rfl rfl rfl rfl (Nat.le_of_ble_eq_true rfl) (Nat.le_of_ble_eq_true rfl) (Nat.le_of_ble_eq_true rfl) ?_
  rintro x15 _ _ ⟨rfl, rfl, h15⟩
  refine k_if_eq C (t := 30) rfl rfl rfl (fun c18 => ?_) (fun c18 => ?_)
  · skip
    exact absurd ⟨i_le.mp (Int32.not_lt.mp c10), i_le.mp (Int32.not_lt.mp c3), by have q1 : x15.toInt = x.toInt % 4 := h15; rw [← q1, c18]; decide⟩ h
  refine k_iload_n C rfl rfl rfl ?_
  refine k_iconst C (x := 4) rfl rfl rfl ?_
  refine c_SI C (e_fmI  (by decide)) rfl rfl rfl rfl rfl rfl rfl (Nat.le_of_ble_eq_true rfl) (Nat.le_of_ble_eq_true rfl) (Nat.le_of_ble_eq_true rfl) ?_
  rintro x23 _ _ ⟨rfl, rfl, h23⟩
  refine k_iconst C (x := 1) rfl rfl rfl ?_
  refine k_icmp_ne C (t := 34) rfl rfl rfl (fun c27 => ?_) (fun c27 => ?_)
  · skip
    refine k_iconst C (x := 0) rfl rfl rfl ?_
    exact k_iret C rfl (Or.inr ⟨rfl, Or.inl rfl⟩) (Nat.le_of_ble_eq_true rfl) (Nat.le_of_ble_eq_true rfl) ⟨_, _, _, rfl, rfl, ⟨rfl, rfl, rfl⟩⟩
  exact absurd ⟨i_le.mp (Int32.not_lt.mp c10), i_le.mp (Int32.not_lt.mp c3), by have q1 : x23.toInt = x.toInt % 4 := h23; rw [← q1, Decidable.not_not.mp c27]; decide⟩ h
end
-- 39.23.cls.lean.txt
section
/-! the class: the tape, drawn forms -/
end
-- 39.24.cls.lean.txt
section
/-! the class: an empty text, the image, the stock -/
end
-- 39.25.cls.lean.txt
section
/-! the class: span and basis without signs -/
end
-- 39.26.cnt.lean.txt
section
/-! COUNT -/
/-! COUNT: how many ways, as the loops count them -/
abbrev WF : Type := Nat → Nat → Int64
def wStep (part k v : Nat) (F : WF) : WF := fun k' v' => if k' = k ∧ v' = v then F k v + F (k - 1) (v - part) else F k' v'
def wIt {α : Type} (f : Nat → α → α) : Nat → Nat → α → α
  | 0, _, a => a
  | n + 1, i, a => wIt f n (i + 1) (f i a)
def wV (part k w : Nat) (F : WF) : WF := wIt (fun v F => wStep part k v F) (w + 1 - part) part F
def wK (part r w : Nat) (F : WF) : WF := wIt (fun k F => wV part k w F) r 1 F
def wP (d r w : Nat) (F : WF) : WF := wIt (fun part F => wK part r w F) d 1 F
def wF0 : WF := fun k v => if k = 0 ∧ v = 0 then 1 else 0
def wSum (F : WF) (r w : Nat) : Int64 := wIt (fun k s => s + F k w) (r + 1) 0 0
def waysP (w r d : Nat) : Int64 := wSum (wP d r w wF0) r w
def rep (c : Nat) (F : WF) (g : Nat → Int64) : Prop := ∀ k v, k ≤ 12 → v ≤ 48 → g (c * k + v) = F k v
theorem rep_step {c : Nat} (hc : 48 < c) {F : WF} {L : LT} {a part k v i j : Nat} (h : rep c F (L a)) (hk : 1 ≤ k ∧ k ≤ 12) (hv : part ≤ v ∧ v ≤ 48) (hi : i = c * k + v) (hj : j = c * (k - 1) + (v - part)) : rep c (wStep part k v F) ((u2 L a i (L a i + L a j)) a) := by
  intro k' v' h1 h2
  unfold wStep
  by_cases e : k' = k ∧ v' = v
  · rw [if_pos e, e.1, e.2, ← hi, u2_s, hi, hj, h k v hk.2 hv.2, h (k - 1) (v - part) (by omega) (by omega)]
  · rw [if_neg e, u2_k, h k' v' h1 h2]
    intro he
    rw [hi] at he
    apply e
    rcases Nat.lt_trichotomy k' k with q | q | q
    · have := Nat.mul_le_mul_left c (show k' + 1 ≤ k by omega); rw [Nat.mul_add] at this; omega
    · subst q; exact ⟨rfl, by omega⟩
    · have := Nat.mul_le_mul_left c (show k + 1 ≤ k' by omega); rw [Nat.mul_add] at this; omega
theorem n_div2 {k : Nat} (h : k < 1000) : Int32.ofNat k / 2 = Int32.ofNat (k / 2) := by
  apply Int32.toInt_inj.mp
  have e4 : (2 : Int32).toInt = 2 := rfl
  rw [Int32.toInt_div_of_ne_right _ _ (by decide), n_int (by omega), n_int (by omega), e4, Int.tdiv_eq_ediv_of_nonneg (by omega)]
  omega
theorem n_rem2 {k : Nat} (h : k < 1000) : Int32.ofNat k - Int32.ofNat k / 2 * 2 = Int32.ofNat (k % 2) := by
  apply Int32.toInt_inj.mp
  have e4 : (2 : Int32).toInt = 2 := rfl
  rw [i_rem (by decide), n_int (by omega), n_int (by omega), e4, Int.tmod_eq_emod_of_nonneg (by omega)]
  omega
theorem fillL_loop {d : Nat} {V : V_T} {q : mm_T} {Post : Po} {T N : Nat → Nat} {R : RT} {A : Nat → Prop} {a n : Nat} {v : Int64} (T_a : T a = 21) (N_a : N a = n) (hn : n ≤ 10000) (A_a : A a) (hq : P_mq 81 = some q) (C : Cl d q 0 0 Post V) (I0 : IT) (L0 : LT) (K : ∀ L1, Fr A I0 L0 I0 L1 → (∀ j, j < n → L1 a j = v) → V 22 [(3, .int (Int32.ofNat n)), (4, .int (Int32.ofNat n)), (0, .ref a), (1, .long v)] [] (T, N, I0, L1, R) 0 0) : ∀ (k i : Nat) (L1 : LT), k = n - i → i ≤ n → Fr A I0 L0 I0 L1 → (∀ j, j < i → L1 a j = v) → V 6 [(3, .int (Int32.ofNat i)), (4, .int (Int32.ofNat n)), (0, .ref a), (1, .long v)] [] (T, N, I0, L1, R) 0 0 := by
  cases hq
  intro k
  induction k using Nat.strongRecOn with
  | _ k ih =>
    intro i L1 hk hin hF hz
    refine k_iload_n C rfl rfl rfl ?_
    refine k_iload C rfl rfl rfl ?_
    refine k_icmp_ge C (t := 22) rfl rfl rfl (fun c => ?_) (fun c => ?_)
    · have hi : i = n := Nat.le_antisymm hin ((n_le (by omega) (by omega)).mp c)
      rw [hi]; exact K L1 hF (fun j hj => hz j (by omega))
    · have hi : i < n := Nat.lt_of_not_le (fun h => c ((n_le (by omega) (by omega)).mpr h))
      refine k_aload_n C rfl rfl rfl ?_
      refine k_iload_n C rfl rfl rfl ?_
      refine k_lload_n C rfl rfl rfl ?_
      refine s_L C rfl rfl T_a (vin rfl (by rw [N_a]; exact hi) (by rw [N_a]; omega)) (n_nat (by omega)) ?_
      refine k_inc1 C (lw := [(3, .int _), (4, .int _), (0, _), (1, .long _)]) rfl rfl rfl (Nat.le_of_ble_eq_true rfl) rfl ?_
      refine k_goto C (pc2 := 6) rfl rfl ?_
      rw [n_s]
      refine ih (n - (i + 1)) (by omega) (i + 1) _ rfl hi (Fr.l hF A_a) (fun j hj => ?_)
      by_cases e : j = i
      · rw [e]; exact u2_s
      · exact (u2_k e).trans (hz j (by omega))
theorem e_fillL {d : Nat} {T N : Nat → Nat} {I : IT} {L : LT} {R : RT} {A : Nat → Prop} {a : Nat} {v : Int64}{n : Nat} (T_a : T a = 21) (N_a : N a = n) (A_a : A a) (hn : n ≤ 10000) : Ex (d + 1) 81 [.ref a, .long v] (T, N, I, L, R) 0 0 (pV T N R (fun I9 L9 => I9 = I ∧ Fr A I L I L9 ∧ ∀ j, j < n → L9 a j = v)) := by
  refine ⟨_, rfl, Nat.le_of_ble_eq_true rfl, fun V C S => ?_⟩
  show V 0 [(0, .ref a), (1, .long v)] [] (T, N, I, L, R) 0 0
  refine k_iconst C (x := 0) rfl rfl rfl ?_
  refine k_istore_n C (lw := [(3, .int _), (0, _), (1, .long _)]) rfl rfl (Nat.le_of_ble_eq_true rfl) rfl ?_
  refine k_aload_n C rfl rfl rfl ?_
  refine a_N C rfl rfl (by rw [T_a]; exact Nat.le_of_ble_eq_true rfl) N_a ?_
  refine k_istore C (lw := [(4, .int _), (3, .int _), (0, _), (1, .long _)]) rfl rfl (Nat.le_of_ble_eq_true rfl) rfl ?_
  refine k_sub S [(3, .int (Int32.ofNat 0)), (4, .int (Int32.ofNat n)), (0, .ref a), (1, .long v)] (List.forall_mem_cons.mpr ⟨List.mem_of_getElem? (i := 1) rfl, List.forall_mem_cons.mpr ⟨List.mem_of_getElem? (i := 0) rfl, List.forall_mem_cons.mpr ⟨List.mem_of_getElem? (i := 2) rfl, List.forall_mem_cons.mpr ⟨List.mem_of_getElem? (i := 3) rfl, fun _ h => nomatch h⟩⟩⟩⟩) ?_
  refine fillL_loop T_a N_a hn A_a rfl C I L (fun L1 hF hz => ?_) n 0 L rfl (Nat.zero_le n) Fr.rf (fun j hj => absurd hj (Nat.not_lt_zero j))
  exact k_vret C rfl rfl (Nat.le_of_ble_eq_true rfl) (Nat.le_of_ble_eq_true rfl) ⟨_, _, rfl, rfl, rfl, hF, hz⟩


theorem e_addWays {d : Nat} {T N : Nat → Nat} {I : IT} {L : LT} {R : RT} {A : Nat → Prop} {rw wy : Nat} {to fm : Int32}{i j : Nat} (T_rw : T rw = 6) (R_rw_5 : R rw 5 = some wy) (T_wy : T wy = 21) (N_wy : N wy = 637) (A_wy : A wy) (hi : to = Int32.ofNat i) (hj : fm = Int32.ofNat j) (hi9 : i < 637) (hj9 : j < 637) : Ex (d + 1) 82 [.ref rw, .int to, .int fm] (T, N, I, L, R) 0 0 (pV T N R (fun I9 L9 => I9 = (I) ∧ L9 = (u2 L wy i (L wy i + L wy j)))) := by
  refine ⟨_, rfl, Nat.le_of_ble_eq_true rfl, fun V C S => ?_⟩
  show V 0 [(0, .ref rw), (1, .int to), (2, .int fm)] [] (T, N, I, L, R) 0 0
  subst hi hj
  refine k_iload_n C rfl rfl rfl ?_
  refine k_if_lt C (t := 41) rfl rfl rfl (fun c1 => ?_) (fun c1 => ?_)
  · skip
    exact absurd c1 (n_nn (by omega))
  refine k_iload_n C rfl rfl rfl ?_
  refine k_aload_n C rfl rfl rfl ?_
  refine g_R C rfl rfl rfl T_rw rfl R_rw_5 ?_
  refine a_N C rfl rfl (by rw [T_wy]; exact Nat.le_of_ble_eq_true rfl) N_wy ?_
  refine k_icmp_ge C (t := 41) rfl rfl rfl (fun c10 => ?_) (fun c10 => ?_)
  · skip
    exact absurd ((n_le (a := 637) (b := j) (by omega) (by omega)).mp c10) (by omega)
  refine k_iload_n C rfl rfl rfl ?_
  refine k_if_lt C (t := 41) rfl rfl rfl (fun c14 => ?_) (fun c14 => ?_)
  · skip
    exact absurd c14 (n_nn (by omega))
  refine k_iload_n C rfl rfl rfl ?_
  refine k_aload_n C rfl rfl rfl ?_
  refine g_R C rfl rfl rfl T_rw rfl R_rw_5 ?_
  refine a_N C rfl rfl (by rw [T_wy]; exact Nat.le_of_ble_eq_true rfl) N_wy ?_
  refine k_icmp_ge C (t := 41) rfl rfl rfl (fun c23 => ?_) (fun c23 => ?_)
  · skip
    exact absurd ((n_le (a := 637) (b := i) (by omega) (by omega)).mp c23) (by omega)
  refine k_aload_n C rfl rfl rfl ?_
  refine g_R C rfl rfl rfl T_rw rfl R_rw_5 ?_
  refine k_iload_n C rfl rfl rfl ?_
  refine k_dup2 C rfl rfl rfl rfl ?_
  refine a_L C rfl rfl T_wy (vin rfl (by rw [N_wy]; omega) (by rw [N_wy]; exact Nat.le_of_ble_eq_true rfl)) rfl ?_
  refine k_aload_n C rfl rfl rfl ?_
  refine g_R C rfl rfl rfl T_rw rfl R_rw_5 ?_
  refine k_iload_n C rfl rfl rfl ?_
  refine a_L C rfl rfl T_wy (vin rfl (by rw [N_wy]; omega) (by rw [N_wy]; exact Nat.le_of_ble_eq_true rfl)) rfl ?_
  refine k_ladd C rfl rfl ?_
  refine s_L C rfl rfl T_wy (vin rfl (by rw [N_wy]; omega) (by rw [N_wy]; exact Nat.le_of_ble_eq_true rfl)) (n_nat (by omega)) ?_
  exact k_vret C rfl rfl (Nat.le_of_ble_eq_true rfl) (Nat.le_of_ble_eq_true rfl) ⟨_, _, rfl, rfl, ⟨rfl, by rw [n_nat (by omega), n_nat (by omega)]⟩⟩

theorem e_ways_neg {d : Nat} {T N : Nat → Nat} {I : IT} {L : LT} {R : RT} {rw : Nat} {w r e : Int32}  (hw : w < 0) : Ex (d + 1) 83 [.ref rw, .int w, .int r, .int e] (T, N, I, L, R) 0 0 (pL T N R (fun x9 I9 L9 => x9 = (0) ∧ I9 = I ∧ L9 = L)) := by
  refine ⟨_, rfl, Nat.le_of_ble_eq_true rfl, fun V C S => ?_⟩
  show V 0 [(0, .ref rw), (1, .int w), (2, .int r), (3, .int e)] [] (T, N, I, L, R) 0 0
  refine k_iload_n C rfl rfl rfl ?_
  refine k_if_lt C (t := 18) rfl rfl rfl (fun c1 => ?_) (fun c1 => ?_)
  · skip
    refine k_lconst C (x := 0) rfl rfl rfl ?_
    exact k_lret C rfl rfl (Nat.le_of_ble_eq_true rfl) (Nat.le_of_ble_eq_true rfl) ⟨_, _, _, rfl, rfl, ⟨rfl, rfl, rfl⟩⟩
  exact absurd hw c1

set_option maxRecDepth 4000 in
theorem cw_vloop {d : Nat} {V : V_T} {q : mm_T} {Post : Po} {T N : Nat → Nat} {R : RT} {A : Nat → Prop} {I : IT} {L : LT} {rw wy : Nat} {w r e : Nat} (hq : P_mq 83 = some q) (C : Cl (d + 1) q 0 0 Post V) (S : SB V) (T_rw : T rw = 6) (R_rw_5 : R rw 5 = some wy) (T_wy : T wy = 21) (N_wy : N wy = 637) (A_wy : A wy) (hw : w ≤ 48) (hr9 : r ≤ 12) (he : e ≤ 8) {part k : Nat} (hp : 1 ≤ part ∧ part ≤ 8) (hk : 1 ≤ k ∧ k ≤ 12) : ∀ (t s : Nat) (L1 : LT) (F : WF), t = w + 1 - s → part ≤ s → s ≤ 100 → Fr A I L I L1 → rep 49 F (L1 wy) → (∀ L2, Fr A I L I L2 → rep 49 (wIt (fun v F => wStep part k v F) t s F) (L2 wy) → ∀ x6 : Int32, V 94 [(6, .int x6), (5, .int (Int32.ofNat k)), (4, .int (Int32.ofNat part)), (0, .ref rw), (1, .int (Int32.ofNat w)), (2, .int (Int32.ofNat r)), (3, .int (Int32.ofNat e))] [] (T, N, I, L2, R) 0 0) → V 57 [(6, .int (Int32.ofNat s)), (5, .int (Int32.ofNat k)), (4, .int (Int32.ofNat part)), (0, .ref rw), (1, .int (Int32.ofNat w)), (2, .int (Int32.ofNat r)), (3, .int (Int32.ofNat e))] [] (T, N, I, L1, R) 0 0 := by
  cases hq
  intro t
  induction t with
  | zero =>
    intro s L1 F ht hps hs hF hrep K
    refine k_iload C rfl rfl rfl ?_
    refine k_iload_n C rfl rfl rfl ?_
    refine k_icmp_gt C (t := 94) rfl rfl rfl (fun _ => ?_) (fun c9 => absurd ((n_lt (by omega) (by omega)).mpr (show w < s by omega)) c9)
    exact K L1 hF hrep _
  | succ t ih =>
    intro s L1 F ht hps hs hF hrep K
    refine k_iload C rfl rfl rfl ?_
    refine k_iload_n C rfl rfl rfl ?_
    refine k_icmp_gt C (t := 94) rfl rfl rfl (fun c9 => absurd ((n_lt (by omega) (by omega)).mp c9) (by omega)) (fun _ => ?_)
    refine k_aload_n C rfl rfl rfl ?_
    refine k_iload C rfl rfl rfl ?_
    refine k_bipush C (x := 49) rfl rfl rfl ?_
    refine k_imul C rfl rfl ?_
    refine k_iload C rfl rfl rfl ?_
    refine k_iadd C rfl rfl ?_
    refine k_iload C rfl rfl rfl ?_
    refine k_iconst C (x := 1) rfl rfl rfl ?_
    refine k_isub C rfl rfl ?_
    refine k_bipush C (x := 49) rfl rfl rfl ?_
    refine k_imul C rfl rfl ?_
    refine k_iload C rfl rfl rfl ?_
    refine k_iadd C rfl rfl ?_
    refine k_iload C rfl rfl rfl ?_
    refine k_isub C rfl rfl ?_
    refine c_VV C (e_addWays T_rw R_rw_5 T_wy N_wy A_wy (i := 49 * k + s) (j := 49 * (k - 1) + (s - part)) (by rw [show (49 : Int32) = Int32.ofNat 49 from rfl, n_mul, n_add, Nat.mul_comm]) (by rw [show (49 : Int32) = Int32.ofNat 49 from rfl, show (1 : Int32) = Int32.ofNat 1 from rfl, n_sub (by omega), n_mul, n_add, n_sub (by omega), Nat.mul_comm (k - 1) 49]; congr 1; omega) (by omega) (by omega)) rfl rfl rfl rfl rfl ⟨_, rfl, rfl, T_rw, Nat.le_of_ble_eq_true rfl⟩ rfl rfl (Nat.le_of_ble_eq_true rfl) (Nat.le_of_ble_eq_true rfl) (Nat.le_of_ble_eq_true rfl) ?_
    rintro _ _ ⟨hI8, hL9⟩
    have hI8 := hI8.symm; subst hI8; have hL9 := hL9.symm; subst hL9
    refine k_inc1 C (lw := [(6, .int _), (5, .int _), (4, .int _), (0, _), (1, .int _), (2, .int _), (3, .int _)]) rfl rfl rfl (Nat.le_of_ble_eq_true rfl) rfl ?_
    refine k_goto C (pc2 := 57) rfl rfl ?_
    rw [n_s]
    exact ih (s + 1) _ (wStep part k s F) (by omega) (by omega) (by omega) (Fr.l hF A_wy) (rep_step (by omega) hrep ⟨by omega, by omega⟩ ⟨by omega, by omega⟩ rfl rfl) K

theorem cw_kloop {d : Nat} {V : V_T} {q : mm_T} {Post : Po} {T N : Nat → Nat} {R : RT} {A : Nat → Prop} {I : IT} {L : LT} {rw wy : Nat} {w r e : Nat} (hq : P_mq 83 = some q) (C : Cl (d + 1) q 0 0 Post V) (S : SB V) (T_rw : T rw = 6) (R_rw_5 : R rw 5 = some wy) (T_wy : T wy = 21) (N_wy : N wy = 637) (A_wy : A wy) (hw : w ≤ 48) (hr9 : r ≤ 12) (he : e ≤ 8) {part : Nat} (hp : 1 ≤ part ∧ part ≤ 8) : ∀ (t k : Nat) (L1 : LT) (F : WF), t = r + 1 - k → 1 ≤ k → k ≤ 13 → Fr A I L I L1 → rep 49 F (L1 wy) → (∀ L2, Fr A I L I L2 → rep 49 (wIt (fun k F => wV part k w F) t k F) (L2 wy) → ∀ x5 : Int32, V 100 [(5, .int x5), (4, .int (Int32.ofNat part)), (0, .ref rw), (1, .int (Int32.ofNat w)), (2, .int (Int32.ofNat r)), (3, .int (Int32.ofNat e))] [] (T, N, I, L2, R) 0 0) → V 47 [(5, .int (Int32.ofNat k)), (4, .int (Int32.ofNat part)), (0, .ref rw), (1, .int (Int32.ofNat w)), (2, .int (Int32.ofNat r)), (3, .int (Int32.ofNat e))] [] (T, N, I, L1, R) 0 0 := by
  intro t
  induction t with
  | zero =>
    intro k L1 F ht hk1 hk2 hF hrep K
    cases hq
    refine k_iload C rfl rfl rfl ?_
    refine k_iload_n C rfl rfl rfl ?_
    refine k_icmp_gt C (t := 100) rfl rfl rfl (fun _ => ?_) (fun c9 => absurd ((n_lt (by omega) (by omega)).mpr (show r < k by omega)) c9)
    exact K L1 hF hrep _
  | succ t ih =>
    intro k L1 F ht hk1 hk2 hF hrep K
    have hq9 := hq
    cases hq
    refine k_iload C rfl rfl rfl ?_
    refine k_iload_n C rfl rfl rfl ?_
    refine k_icmp_gt C (t := 100) rfl rfl rfl (fun c9 => absurd ((n_lt (by omega) (by omega)).mp c9) (by omega)) (fun _ => ?_)
    refine k_iload C rfl rfl rfl ?_
    refine k_istore C (lw := [(6, .int _), (5, .int _), (4, .int _), (0, _), (1, .int _), (2, .int _), (3, .int _)]) rfl rfl (Nat.le_of_ble_eq_true rfl) rfl ?_
    refine cw_vloop hq9 C S T_rw R_rw_5 T_wy N_wy A_wy hw hr9 he hp (show 1 ≤ k ∧ k ≤ 12 by omega) (w + 1 - part) part L1 F rfl (Nat.le_refl _) (by omega) hF hrep (fun L2 hF2 hrep2 x6 => ?_)
    refine k_sub S [(5, .int (Int32.ofNat k)), (4, .int (Int32.ofNat part)), (0, .ref rw), (1, .int (Int32.ofNat w)), (2, .int (Int32.ofNat r)), (3, .int (Int32.ofNat e))] (List.forall_mem_cons.mpr ⟨List.mem_of_getElem? (i := 1) rfl, List.forall_mem_cons.mpr ⟨List.mem_of_getElem? (i := 2) rfl, List.forall_mem_cons.mpr ⟨List.mem_of_getElem? (i := 3) rfl, List.forall_mem_cons.mpr ⟨List.mem_of_getElem? (i := 4) rfl, List.forall_mem_cons.mpr ⟨List.mem_of_getElem? (i := 5) rfl, List.forall_mem_cons.mpr ⟨List.mem_of_getElem? (i := 6) rfl, fun _ h => nomatch h⟩⟩⟩⟩⟩⟩) ?_
    refine k_inc1 C (lw := [(5, .int _), (4, .int _), (0, _), (1, .int _), (2, .int _), (3, .int _)]) rfl rfl rfl (Nat.le_of_ble_eq_true rfl) rfl ?_
    refine k_goto C (pc2 := 47) rfl rfl ?_
    rw [n_s]
    exact ih (k + 1) L2 _ (by omega) (by omega) (by omega) hF2 hrep2 K

theorem cw_ploop {d : Nat} {V : V_T} {q : mm_T} {Post : Po} {T N : Nat → Nat} {R : RT} {A : Nat → Prop} {I : IT} {L : LT} {rw wy : Nat} {w r e : Nat} (hq : P_mq 83 = some q) (C : Cl (d + 1) q 0 0 Post V) (S : SB V) (T_rw : T rw = 6) (R_rw_5 : R rw 5 = some wy) (T_wy : T wy = 21) (N_wy : N wy = 637) (A_wy : A wy) (hw : w ≤ 48) (hr9 : r ≤ 12) (he : e ≤ 8) : ∀ (t part : Nat) (L1 : LT) (F : WF), t = e + 1 - part → 1 ≤ part → part ≤ 9 → Fr A I L I L1 → rep 49 F (L1 wy) → (∀ L2, Fr A I L I L2 → rep 49 (wIt (fun part F => wK part r w F) t part F) (L2 wy) → ∀ x4 : Int32, V 106 [(4, .int x4), (0, .ref rw), (1, .int (Int32.ofNat w)), (2, .int (Int32.ofNat r)), (3, .int (Int32.ofNat e))] [] (T, N, I, L2, R) 0 0) → V 38 [(4, .int (Int32.ofNat part)), (0, .ref rw), (1, .int (Int32.ofNat w)), (2, .int (Int32.ofNat r)), (3, .int (Int32.ofNat e))] [] (T, N, I, L1, R) 0 0 := by
  intro t
  induction t with
  | zero =>
    intro part L1 F ht hk1 hk2 hF hrep K
    cases hq
    refine k_iload C rfl rfl rfl ?_
    refine k_iload_n C rfl rfl rfl ?_
    refine k_icmp_gt C (t := 106) rfl rfl rfl (fun _ => ?_) (fun c9 => absurd ((n_lt (by omega) (by omega)).mpr (show e < part by omega)) c9)
    exact K L1 hF hrep _
  | succ t ih =>
    intro part L1 F ht hk1 hk2 hF hrep K
    have hq9 := hq
    cases hq
    refine k_iload C rfl rfl rfl ?_
    refine k_iload_n C rfl rfl rfl ?_
    refine k_icmp_gt C (t := 106) rfl rfl rfl (fun c9 => absurd ((n_lt (by omega) (by omega)).mp c9) (by omega)) (fun _ => ?_)
    refine k_iconst C (x := 1) rfl rfl rfl ?_
    refine k_istore C (lw := [(5, .int _), (4, .int _), (0, _), (1, .int _), (2, .int _), (3, .int _)]) rfl rfl (Nat.le_of_ble_eq_true rfl) rfl ?_
    refine cw_kloop hq9 C S T_rw R_rw_5 T_wy N_wy A_wy hw hr9 he (show 1 ≤ part ∧ part ≤ 8 by omega) r 1 L1 F rfl (Nat.le_refl _) (by omega) hF hrep (fun L2 hF2 hrep2 x6 => ?_)
    refine k_sub S [(4, .int (Int32.ofNat part)), (0, .ref rw), (1, .int (Int32.ofNat w)), (2, .int (Int32.ofNat r)), (3, .int (Int32.ofNat e))] (List.forall_mem_cons.mpr ⟨List.mem_of_getElem? (i := 1) rfl, List.forall_mem_cons.mpr ⟨List.mem_of_getElem? (i := 2) rfl, List.forall_mem_cons.mpr ⟨List.mem_of_getElem? (i := 3) rfl, List.forall_mem_cons.mpr ⟨List.mem_of_getElem? (i := 4) rfl, List.forall_mem_cons.mpr ⟨List.mem_of_getElem? (i := 5) rfl, fun _ h => nomatch h⟩⟩⟩⟩⟩) ?_
    refine k_inc1 C (lw := [(4, .int _), (0, _), (1, .int _), (2, .int _), (3, .int _)]) rfl rfl rfl (Nat.le_of_ble_eq_true rfl) rfl ?_
    refine k_goto C (pc2 := 38) rfl rfl ?_
    rw [n_s]
    exact ih (part + 1) L2 _ (by omega) (by omega) (by omega) hF2 hrep2 K

theorem cw_sloop {d : Nat} {V : V_T} {q : mm_T} {Post : Po} {T N : Nat → Nat} {R : RT} {A : Nat → Prop} {I : IT} {L : LT} {rw wy : Nat} {w r e : Nat} (hq : P_mq 83 = some q) (C : Cl (d + 1) q 0 0 Post V) (S : SB V) (T_rw : T rw = 6) (R_rw_5 : R rw 5 = some wy) (T_wy : T wy = 21) (N_wy : N wy = 637) (A_wy : A wy) (hw : w ≤ 48) (hr9 : r ≤ 12) (he : e ≤ 8) {L1 : LT} {F : WF} (hrep : rep 49 F (L1 wy)) : ∀ (t n : Nat) (z : Int64), t = r + 1 - n → n ≤ 13 → (∀ x6 : Int32, V 159 [(6, .int x6), (4, .long (wIt (fun k s => s + F k w) t n z)), (0, .ref rw), (1, .int (Int32.ofNat w)), (2, .int (Int32.ofNat r)), (3, .int (Int32.ofNat e))] [] (T, N, I, L1, R) 0 0) → V 112 [(6, .int (Int32.ofNat n)), (4, .long z), (0, .ref rw), (1, .int (Int32.ofNat w)), (2, .int (Int32.ofNat r)), (3, .int (Int32.ofNat e))] [] (T, N, I, L1, R) 0 0 := by
  cases hq
  intro t
  induction t with
  | zero =>
    intro n z ht hn K
    refine k_iload C rfl rfl rfl ?_
    refine k_iload_n C rfl rfl rfl ?_
    refine k_icmp_gt C (t := 159) rfl rfl rfl (fun _ => ?_) (fun c9 => absurd ((n_lt (by omega) (by omega)).mpr (show r < n by omega)) c9)
    exact K _
  | succ t ih =>
    intro n z ht hn K
    have hv := hrep n w (by omega) hw
    refine k_iload C rfl rfl rfl ?_
    refine k_iload_n C rfl rfl rfl ?_
    refine k_icmp_gt C (t := 159) rfl rfl rfl (fun c9 => absurd ((n_lt (by omega) (by omega)).mp c9) (by omega)) (fun _ => ?_)
    refine k_iload C rfl rfl rfl ?_
    refine k_bipush C (x := 49) rfl rfl rfl ?_
    refine k_imul C rfl rfl ?_
    refine k_iload_n C rfl rfl rfl ?_
    refine k_iadd C rfl rfl ?_
    rw [show (49 : Int32) = Int32.ofNat 49 from rfl, n_mul, n_add]
    refine k_istore C (lw := [(7, .int _), (6, .int _), (4, .long _), (0, _), (1, .int _), (2, .int _), (3, .int _)]) rfl rfl (Nat.le_of_ble_eq_true rfl) rfl ?_
    refine k_lload C rfl rfl rfl ?_
    refine k_iload C rfl rfl rfl ?_
    refine k_aload_n C rfl rfl rfl ?_
    refine g_R C rfl rfl rfl T_rw rfl R_rw_5 ?_
    refine a_N C rfl rfl (by rw [T_wy]; exact Nat.le_of_ble_eq_true rfl) N_wy ?_
    refine k_icmp_ge C (t := 149) rfl rfl rfl (fun c136 => ?_) (fun c136 => ?_)
    · skip
      exact absurd ((n_le (a := 637) (by omega) (by omega)).mp c136) (by omega)
    refine k_aload_n C rfl rfl rfl ?_
    refine g_R C rfl rfl rfl T_rw rfl R_rw_5 ?_
    refine k_iload C rfl rfl rfl ?_
    refine a_L C rfl rfl T_wy (vin rfl (by rw [N_wy]; omega) (by rw [N_wy]; exact Nat.le_of_ble_eq_true rfl)) (show L1 wy _ = F n w from by rw [n_nat (by omega), Nat.mul_comm n 49]; exact hv) ?_
    refine k_goto C (pc2 := 150) rfl rfl ?_
    refine k_ladd C rfl rfl ?_
    refine k_lstore C (lw := [(4, .long _), (7, .int _), (6, .int _), (0, _), (1, .int _), (2, .int _), (3, .int _)]) rfl rfl (Nat.le_of_ble_eq_true rfl) rfl ?_
    refine k_sub S [(6, .int (Int32.ofNat n)), (4, .long _), (0, .ref rw), (1, .int (Int32.ofNat w)), (2, .int (Int32.ofNat r)), (3, .int (Int32.ofNat e))] (List.forall_mem_cons.mpr ⟨List.mem_of_getElem? (i := 2) rfl, List.forall_mem_cons.mpr ⟨List.mem_of_getElem? (i := 0) rfl, List.forall_mem_cons.mpr ⟨List.mem_of_getElem? (i := 3) rfl, List.forall_mem_cons.mpr ⟨List.mem_of_getElem? (i := 4) rfl, List.forall_mem_cons.mpr ⟨List.mem_of_getElem? (i := 5) rfl, List.forall_mem_cons.mpr ⟨List.mem_of_getElem? (i := 6) rfl, fun _ h => nomatch h⟩⟩⟩⟩⟩⟩) ?_
    refine k_inc1 C (lw := [(6, .int _), (4, .long _), (0, _), (1, .int _), (2, .int _), (3, .int _)]) rfl rfl rfl (Nat.le_of_ble_eq_true rfl) rfl ?_
    refine k_goto C (pc2 := 112) rfl rfl ?_
    rw [n_s]
    exact ih (n + 1) _ (by omega) (by omega) K
theorem e_ways_nat {d : Nat} {T N : Nat → Nat} {I : IT} {L : LT} {R : RT} {A : Nat → Prop} {rw wy : Nat} {wI rI eI : Int32} (T_rw : T rw = 6) (R_rw_5 : R rw 5 = some wy) (T_wy : T wy = 21) (N_wy : N wy = 637) (A_wy : A wy) {w r e : Nat} (hwI : wI = Int32.ofNat w) (hrI : rI = Int32.ofNat r) (heI : eI = Int32.ofNat e) (hw : w ≤ 48) (hr9 : r ≤ 12) (he : e ≤ 8) : Ex (d + 2) 83 [.ref rw, .int wI, .int rI, .int eI] (T, N, I, L, R) 0 0 (pL T N R (fun x9 I9 L9 => x9 = waysP w r e ∧ I9 = I ∧ Fr A I L I L9)) := by
  refine ⟨_, rfl, Nat.le_of_ble_eq_true rfl, fun V C S => ?_⟩
  show V 0 [(0, .ref rw), (1, .int wI), (2, .int rI), (3, .int eI)] [] (T, N, I, L, R) 0 0
  subst hwI hrI heI
  refine k_iload_n C rfl rfl rfl ?_
  refine k_if_lt C (t := 18) rfl rfl rfl (fun c1 => ?_) (fun c1 => ?_)
  · skip
    exact absurd c1 (n_nn (by omega))
  refine k_iload_n C rfl rfl rfl ?_
  refine k_bipush C (x := 49) rfl rfl rfl ?_
  refine k_icmp_ge C (t := 18) rfl rfl rfl (fun c7 => ?_) (fun c7 => ?_)
  · skip
    exact absurd ((n_le (a := 49) (b := w) (by omega) (by omega)).mp c7) (by omega)
  refine k_aload_n C rfl rfl rfl ?_
  refine g_R C rfl rfl rfl T_rw rfl R_rw_5 ?_
  refine a_N C rfl rfl (by rw [T_wy]; exact Nat.le_of_ble_eq_true rfl) N_wy ?_
  refine k_if_ne C (t := 20) rfl rfl rfl (fun c15 => ?_) (fun c15 => ?_)
  · skip
    refine k_aload_n C rfl rfl rfl ?_
    refine g_R C rfl rfl rfl T_rw rfl R_rw_5 ?_
    refine k_lconst C (x := 0) rfl rfl rfl ?_
    refine c_SV C (e_fillL T_wy N_wy A_wy (Nat.le_of_ble_eq_true rfl)) rfl rfl rfl rfl rfl rfl rfl (Nat.le_of_ble_eq_true rfl) (Nat.le_of_ble_eq_true rfl) (Nat.le_of_ble_eq_true rfl) ?_
    rintro _ L1 ⟨hI8, hF1, hz1⟩
    have hI8 := hI8.symm; subst hI8
    refine k_aload_n C rfl rfl rfl ?_
    refine g_R C rfl rfl rfl T_rw rfl R_rw_5 ?_
    refine k_iconst C (x := 0) rfl rfl rfl ?_
    refine k_lconst C (x := 1) rfl rfl rfl ?_
    refine s_L C rfl rfl T_wy (vin (n := 0) rfl (by rw [N_wy]; exact Nat.le_of_ble_eq_true rfl) (by rw [N_wy]; exact Nat.le_of_ble_eq_true rfl)) (show (0 : Int32).toNatClampNeg = 0 from by decide) ?_
    refine k_iconst C (x := 1) rfl rfl rfl ?_
    refine k_istore C (lw := [(4, .int _), (0, _), (1, .int _), (2, .int _), (3, .int _)]) rfl rfl (Nat.le_of_ble_eq_true rfl) rfl ?_
    have hF2 : Fr A I L I (u2 L1 wy 0 1) := Fr.l hF1 A_wy
    have hrep : rep 49 wF0 (u2 L1 wy 0 1 wy) := by
      intro k v h1 h2
      unfold wF0
      by_cases q : k = 0 ∧ v = 0
      · rw [if_pos q, q.1, q.2]; exact u2_s
      · rw [if_neg q, u2_k (by omega)]; exact hz1 _ (by omega)
    refine cw_ploop rfl C S T_rw R_rw_5 T_wy N_wy A_wy hw hr9 he e 1 _ wF0 rfl (Nat.le_refl _) (by omega) hF2 hrep (fun L2 hF3 hrep3 x4 => ?_)
    refine k_lconst C (x := 0) rfl rfl rfl ?_
    refine k_lstore C (lw := [(4, .long _), (0, _), (1, .int _), (2, .int _), (3, .int _)]) rfl rfl (Nat.le_of_ble_eq_true rfl) rfl ?_
    refine k_iconst C (x := 0) rfl rfl rfl ?_
    refine k_istore C (lw := [(6, .int _), (4, .long _), (0, _), (1, .int _), (2, .int _), (3, .int _)]) rfl rfl (Nat.le_of_ble_eq_true rfl) rfl ?_
    refine cw_sloop rfl C S T_rw R_rw_5 T_wy N_wy A_wy hw hr9 he (I := I) (L := L) hrep3 (r + 1) 0 0 rfl (by omega) (fun x6 => ?_)
    refine k_lload C rfl rfl rfl ?_
    exact k_lret C rfl rfl (Nat.le_of_ble_eq_true rfl) (Nat.le_of_ble_eq_true rfl) ⟨_, _, _, rfl, rfl, rfl, rfl, hF3⟩
  exact absurd (by decide) c15
end
-- 39.27.cnt.lean.txt
section
/-! COUNT in the reference -/
set_option maxRecDepth 4000 in
theorem mw_vloop {d : Nat} {V : V_T} {q : mm_T} {Post : Po} {T N : Nat → Nat} {R : RT} {A : Nat → Prop} {I : IT} {L : LT} {m wy : Nat} {w r e : Nat} (hq : P_mq 258 = some q) (C : Cl (d + 1) q 0 0 Post V) (S : SB V) (T_m : T m = 13) (R_m_21 : R m 21 = some wy) (T_wy : T wy = 21) (N_wy : N wy = 1261) (A_wy : A wy) (hw : w ≤ 48) (hr9 : r ≤ 12) (he : e ≤ 8) {part k : Nat} (hp : 1 ≤ part ∧ part ≤ 8) (hk : 1 ≤ k ∧ k ≤ 12) : ∀ (t s : Nat) (L1 : LT) (F : WF), t = w + 1 - s → part ≤ s → s ≤ 100 → Fr A I L I L1 → rep 97 F (L1 wy) → (∀ L2, Fr A I L I L2 → rep 97 (wIt (fun v F => wStep part k v F) t s F) (L2 wy) → ∀ x6 : Int32, V 134 [(6, .int x6), (5, .int (Int32.ofNat k)), (4, .int (Int32.ofNat part)), (0, .ref m), (1, .int (Int32.ofNat w)), (2, .int (Int32.ofNat r)), (3, .int (Int32.ofNat e))] [] (T, N, I, L2, R) 0 0) → V 88 [(6, .int (Int32.ofNat s)), (5, .int (Int32.ofNat k)), (4, .int (Int32.ofNat part)), (0, .ref m), (1, .int (Int32.ofNat w)), (2, .int (Int32.ofNat r)), (3, .int (Int32.ofNat e))] [] (T, N, I, L1, R) 0 0 := by
  cases hq
  intro t
  induction t with
  | zero =>
    intro s L1 F ht hps hs hF hrep K
    refine k_iload C rfl rfl rfl ?_
    refine k_iload_n C rfl rfl rfl ?_
    refine k_icmp_gt C (t := 134) rfl rfl rfl (fun _ => ?_) (fun c9 => absurd ((n_lt (by omega) (by omega)).mpr (show w < s by omega)) c9)
    exact K L1 hF hrep _
  | succ t ih =>
    intro s L1 F ht hps hs hF hrep K
    refine k_iload C rfl rfl rfl ?_
    refine k_iload_n C rfl rfl rfl ?_
    refine k_icmp_gt C (t := 134) rfl rfl rfl (fun c9 => absurd ((n_lt (by omega) (by omega)).mp c9) (by omega)) (fun _ => ?_)
    refine k_aload_n C rfl rfl rfl ?_
    refine g_R C rfl rfl rfl T_m rfl R_m_21 ?_
    refine k_bipush C (x := 97) rfl rfl rfl ?_
    refine k_iload C rfl rfl rfl ?_
    refine k_imul C rfl rfl ?_
    refine k_iload C rfl rfl rfl ?_
    refine k_iadd C rfl rfl ?_
    refine k_dup2 C rfl rfl rfl rfl ?_
    refine a_L C rfl rfl T_wy (vin (n := 97 * k + s) (by rw [show (97 : Int32) = Int32.ofNat 97 from rfl, n_mul, n_add]) (by rw [N_wy]; omega) (by rw [N_wy]; exact Nat.le_of_ble_eq_true rfl)) (show L1 wy _ = L1 wy (97 * k + s) from by rw [show (97 : Int32) = Int32.ofNat 97 from rfl, n_mul, n_add, n_nat (by omega)]) ?_
    refine k_aload_n C rfl rfl rfl ?_
    refine g_R C rfl rfl rfl T_m rfl R_m_21 ?_
    refine k_bipush C (x := 97) rfl rfl rfl ?_
    refine k_iload C rfl rfl rfl ?_
    refine k_iconst C (x := 1) rfl rfl rfl ?_
    refine k_isub C rfl rfl ?_
    refine k_imul C rfl rfl ?_
    refine k_iload C rfl rfl rfl ?_
    refine k_iadd C rfl rfl ?_
    refine k_iload C rfl rfl rfl ?_
    refine k_isub C rfl rfl ?_
    refine a_L C rfl rfl T_wy (vin (n := 97 * (k - 1) + (s - part)) (by rw [show (97 : Int32) = Int32.ofNat 97 from rfl, show (1 : Int32) = Int32.ofNat 1 from rfl, n_sub (by omega), n_mul, n_add, n_sub (by omega)]; congr 1; omega) (by rw [N_wy]; omega) (by rw [N_wy]; exact Nat.le_of_ble_eq_true rfl)) (show L1 wy _ = L1 wy (97 * (k - 1) + (s - part)) from by rw [show (97 : Int32) = Int32.ofNat 97 from rfl, show (1 : Int32) = Int32.ofNat 1 from rfl, n_sub (by omega), n_mul, n_add, n_sub (by omega), n_nat (by omega)]; congr 1; omega) ?_
    refine k_ladd C rfl rfl ?_
    refine s_L C rfl rfl T_wy (vin (n := 97 * k + s) (by rw [show (97 : Int32) = Int32.ofNat 97 from rfl, n_mul, n_add]) (by rw [N_wy]; omega) (by rw [N_wy]; exact Nat.le_of_ble_eq_true rfl)) (show _ = 97 * k + s from by rw [show (97 : Int32) = Int32.ofNat 97 from rfl, n_mul, n_add, n_nat (by omega)]) ?_
    refine k_inc1 C (lw := [(6, .int _), (5, .int _), (4, .int _), (0, _), (1, .int _), (2, .int _), (3, .int _)]) rfl rfl rfl (Nat.le_of_ble_eq_true rfl) rfl ?_
    refine k_goto C (pc2 := 88) rfl rfl ?_
    rw [n_s]
    exact ih (s + 1) _ (wStep part k s F) (by omega) (by omega) (by omega) (Fr.l hF A_wy) (rep_step (by omega) hrep ⟨by omega, by omega⟩ ⟨by omega, by omega⟩ rfl rfl) K

theorem mw_kloop {d : Nat} {V : V_T} {q : mm_T} {Post : Po} {T N : Nat → Nat} {R : RT} {A : Nat → Prop} {I : IT} {L : LT} {m wy : Nat} {w r e : Nat} (hq : P_mq 258 = some q) (C : Cl (d + 1) q 0 0 Post V) (S : SB V) (T_m : T m = 13) (R_m_21 : R m 21 = some wy) (T_wy : T wy = 21) (N_wy : N wy = 1261) (A_wy : A wy) (hw : w ≤ 48) (hr9 : r ≤ 12) (he : e ≤ 8) {part : Nat} (hp : 1 ≤ part ∧ part ≤ 8) : ∀ (t k : Nat) (L1 : LT) (F : WF), t = r + 1 - k → 1 ≤ k → k ≤ 13 → Fr A I L I L1 → rep 97 F (L1 wy) → (∀ L2, Fr A I L I L2 → rep 97 (wIt (fun k F => wV part k w F) t k F) (L2 wy) → ∀ x5 : Int32, V 140 [(5, .int x5), (4, .int (Int32.ofNat part)), (0, .ref m), (1, .int (Int32.ofNat w)), (2, .int (Int32.ofNat r)), (3, .int (Int32.ofNat e))] [] (T, N, I, L2, R) 0 0) → V 78 [(5, .int (Int32.ofNat k)), (4, .int (Int32.ofNat part)), (0, .ref m), (1, .int (Int32.ofNat w)), (2, .int (Int32.ofNat r)), (3, .int (Int32.ofNat e))] [] (T, N, I, L1, R) 0 0 := by
  intro t
  induction t with
  | zero =>
    intro k L1 F ht hk1 hk2 hF hrep K
    cases hq
    refine k_iload C rfl rfl rfl ?_
    refine k_iload_n C rfl rfl rfl ?_
    refine k_icmp_gt C (t := 140) rfl rfl rfl (fun _ => ?_) (fun c9 => absurd ((n_lt (by omega) (by omega)).mpr (show r < k by omega)) c9)
    exact K L1 hF hrep _
  | succ t ih =>
    intro k L1 F ht hk1 hk2 hF hrep K
    have hq9 := hq
    cases hq
    refine k_iload C rfl rfl rfl ?_
    refine k_iload_n C rfl rfl rfl ?_
    refine k_icmp_gt C (t := 140) rfl rfl rfl (fun c9 => absurd ((n_lt (by omega) (by omega)).mp c9) (by omega)) (fun _ => ?_)
    refine k_iload C rfl rfl rfl ?_
    refine k_istore C (lw := [(6, .int _), (5, .int _), (4, .int _), (0, _), (1, .int _), (2, .int _), (3, .int _)]) rfl rfl (Nat.le_of_ble_eq_true rfl) rfl ?_
    refine mw_vloop hq9 C S T_m R_m_21 T_wy N_wy A_wy hw hr9 he hp (show 1 ≤ k ∧ k ≤ 12 by omega) (w + 1 - part) part L1 F rfl (Nat.le_refl _) (by omega) hF hrep (fun L2 hF2 hrep2 x6 => ?_)
    refine k_sub S [(5, .int (Int32.ofNat k)), (4, .int (Int32.ofNat part)), (0, .ref m), (1, .int (Int32.ofNat w)), (2, .int (Int32.ofNat r)), (3, .int (Int32.ofNat e))] (List.forall_mem_cons.mpr ⟨List.mem_of_getElem? (i := 1) rfl, List.forall_mem_cons.mpr ⟨List.mem_of_getElem? (i := 2) rfl, List.forall_mem_cons.mpr ⟨List.mem_of_getElem? (i := 3) rfl, List.forall_mem_cons.mpr ⟨List.mem_of_getElem? (i := 4) rfl, List.forall_mem_cons.mpr ⟨List.mem_of_getElem? (i := 5) rfl, List.forall_mem_cons.mpr ⟨List.mem_of_getElem? (i := 6) rfl, fun _ h => nomatch h⟩⟩⟩⟩⟩⟩) ?_
    refine k_inc1 C (lw := [(5, .int _), (4, .int _), (0, _), (1, .int _), (2, .int _), (3, .int _)]) rfl rfl rfl (Nat.le_of_ble_eq_true rfl) rfl ?_
    refine k_goto C (pc2 := 78) rfl rfl ?_
    rw [n_s]
    exact ih (k + 1) L2 _ (by omega) (by omega) (by omega) hF2 hrep2 K

theorem mw_ploop {d : Nat} {V : V_T} {q : mm_T} {Post : Po} {T N : Nat → Nat} {R : RT} {A : Nat → Prop} {I : IT} {L : LT} {m wy : Nat} {w r e : Nat} (hq : P_mq 258 = some q) (C : Cl (d + 1) q 0 0 Post V) (S : SB V) (T_m : T m = 13) (R_m_21 : R m 21 = some wy) (T_wy : T wy = 21) (N_wy : N wy = 1261) (A_wy : A wy) (hw : w ≤ 48) (hr9 : r ≤ 12) (he : e ≤ 8) : ∀ (t part : Nat) (L1 : LT) (F : WF), t = e + 1 - part → 1 ≤ part → part ≤ 9 → Fr A I L I L1 → rep 97 F (L1 wy) → (∀ L2, Fr A I L I L2 → rep 97 (wIt (fun part F => wK part r w F) t part F) (L2 wy) → ∀ x4 : Int32, V 146 [(4, .int x4), (0, .ref m), (1, .int (Int32.ofNat w)), (2, .int (Int32.ofNat r)), (3, .int (Int32.ofNat e))] [] (T, N, I, L2, R) 0 0) → V 69 [(4, .int (Int32.ofNat part)), (0, .ref m), (1, .int (Int32.ofNat w)), (2, .int (Int32.ofNat r)), (3, .int (Int32.ofNat e))] [] (T, N, I, L1, R) 0 0 := by
  intro t
  induction t with
  | zero =>
    intro part L1 F ht hk1 hk2 hF hrep K
    cases hq
    refine k_iload C rfl rfl rfl ?_
    refine k_iload_n C rfl rfl rfl ?_
    refine k_icmp_gt C (t := 146) rfl rfl rfl (fun _ => ?_) (fun c9 => absurd ((n_lt (by omega) (by omega)).mpr (show e < part by omega)) c9)
    exact K L1 hF hrep _
  | succ t ih =>
    intro part L1 F ht hk1 hk2 hF hrep K
    have hq9 := hq
    cases hq
    refine k_iload C rfl rfl rfl ?_
    refine k_iload_n C rfl rfl rfl ?_
    refine k_icmp_gt C (t := 146) rfl rfl rfl (fun c9 => absurd ((n_lt (by omega) (by omega)).mp c9) (by omega)) (fun _ => ?_)
    refine k_iconst C (x := 1) rfl rfl rfl ?_
    refine k_istore C (lw := [(5, .int _), (4, .int _), (0, _), (1, .int _), (2, .int _), (3, .int _)]) rfl rfl (Nat.le_of_ble_eq_true rfl) rfl ?_
    refine mw_kloop hq9 C S T_m R_m_21 T_wy N_wy A_wy hw hr9 he (show 1 ≤ part ∧ part ≤ 8 by omega) r 1 L1 F rfl (Nat.le_refl _) (by omega) hF hrep (fun L2 hF2 hrep2 x6 => ?_)
    refine k_sub S [(4, .int (Int32.ofNat part)), (0, .ref m), (1, .int (Int32.ofNat w)), (2, .int (Int32.ofNat r)), (3, .int (Int32.ofNat e))] (List.forall_mem_cons.mpr ⟨List.mem_of_getElem? (i := 1) rfl, List.forall_mem_cons.mpr ⟨List.mem_of_getElem? (i := 2) rfl, List.forall_mem_cons.mpr ⟨List.mem_of_getElem? (i := 3) rfl, List.forall_mem_cons.mpr ⟨List.mem_of_getElem? (i := 4) rfl, List.forall_mem_cons.mpr ⟨List.mem_of_getElem? (i := 5) rfl, fun _ h => nomatch h⟩⟩⟩⟩⟩) ?_
    refine k_inc1 C (lw := [(4, .int _), (0, _), (1, .int _), (2, .int _), (3, .int _)]) rfl rfl rfl (Nat.le_of_ble_eq_true rfl) rfl ?_
    refine k_goto C (pc2 := 69) rfl rfl ?_
    rw [n_s]
    exact ih (part + 1) L2 _ (by omega) (by omega) (by omega) hF2 hrep2 K

theorem mw_sloop {d : Nat} {V : V_T} {q : mm_T} {Post : Po} {T N : Nat → Nat} {R : RT} {A : Nat → Prop} {I : IT} {L : LT} {m wy : Nat} {w r e : Nat} (hq : P_mq 258 = some q) (C : Cl (d + 1) q 0 0 Post V) (S : SB V) (T_m : T m = 13) (R_m_21 : R m 21 = some wy) (T_wy : T wy = 21) (N_wy : N wy = 1261) (A_wy : A wy) (hw : w ≤ 48) (hr9 : r ≤ 12) (he : e ≤ 8) {L1 : LT} {F : WF} (hrep : rep 97 F (L1 wy)) : ∀ (t n : Nat) (z : Int64), t = r + 1 - n → n ≤ 13 → (∀ x6 : Int32, V 181 [(6, .int x6), (4, .long (wIt (fun k s => s + F k w) t n z)), (0, .ref m), (1, .int (Int32.ofNat w)), (2, .int (Int32.ofNat r)), (3, .int (Int32.ofNat e))] [] (T, N, I, L1, R) 0 0) → V 152 [(6, .int (Int32.ofNat n)), (4, .long z), (0, .ref m), (1, .int (Int32.ofNat w)), (2, .int (Int32.ofNat r)), (3, .int (Int32.ofNat e))] [] (T, N, I, L1, R) 0 0 := by
  cases hq
  intro t
  induction t with
  | zero =>
    intro n z ht hn K
    refine k_iload C rfl rfl rfl ?_
    refine k_iload_n C rfl rfl rfl ?_
    refine k_icmp_gt C (t := 181) rfl rfl rfl (fun _ => ?_) (fun c9 => absurd ((n_lt (by omega) (by omega)).mpr (show r < n by omega)) c9)
    exact K _
  | succ t ih =>
    intro n z ht hn K
    have hv := hrep n w (by omega) hw
    refine k_iload C rfl rfl rfl ?_
    refine k_iload_n C rfl rfl rfl ?_
    refine k_icmp_gt C (t := 181) rfl rfl rfl (fun c9 => absurd ((n_lt (by omega) (by omega)).mp c9) (by omega)) (fun _ => ?_)
    refine k_lload C rfl rfl rfl ?_
    refine k_aload_n C rfl rfl rfl ?_
    refine g_R C rfl rfl rfl T_m rfl R_m_21 ?_
    refine k_bipush C (x := 97) rfl rfl rfl ?_
    refine k_iload C rfl rfl rfl ?_
    refine k_imul C rfl rfl ?_
    refine k_iload_n C rfl rfl rfl ?_
    refine k_iadd C rfl rfl ?_
    refine a_L C rfl rfl T_wy (vin (n := 97 * n + w) (by rw [show (97 : Int32) = Int32.ofNat 97 from rfl, n_mul, n_add]) (by rw [N_wy]; omega) (by rw [N_wy]; exact Nat.le_of_ble_eq_true rfl)) (show L1 wy _ = F n w from by rw [show (97 : Int32) = Int32.ofNat 97 from rfl, n_mul, n_add, n_nat (by omega)]; exact hv) ?_
    refine k_ladd C rfl rfl ?_
    refine k_lstore C (lw := [(4, .long _), (6, .int _), (0, _), (1, .int _), (2, .int _), (3, .int _)]) rfl rfl (Nat.le_of_ble_eq_true rfl) rfl ?_
    refine k_sub S [(6, .int (Int32.ofNat n)), (4, .long _), (0, .ref m), (1, .int (Int32.ofNat w)), (2, .int (Int32.ofNat r)), (3, .int (Int32.ofNat e))] (List.forall_mem_cons.mpr ⟨List.mem_of_getElem? (i := 1) rfl, List.forall_mem_cons.mpr ⟨List.mem_of_getElem? (i := 0) rfl, List.forall_mem_cons.mpr ⟨List.mem_of_getElem? (i := 2) rfl, List.forall_mem_cons.mpr ⟨List.mem_of_getElem? (i := 3) rfl, List.forall_mem_cons.mpr ⟨List.mem_of_getElem? (i := 4) rfl, List.forall_mem_cons.mpr ⟨List.mem_of_getElem? (i := 5) rfl, fun _ h => nomatch h⟩⟩⟩⟩⟩⟩) ?_
    refine k_inc1 C (lw := [(6, .int _), (4, .long _), (0, _), (1, .int _), (2, .int _), (3, .int _)]) rfl rfl rfl (Nat.le_of_ble_eq_true rfl) rfl ?_
    refine k_goto C (pc2 := 152) rfl rfl ?_
    rw [n_s]
    exact ih (n + 1) _ (by omega) (by omega) K
theorem cell_inj {k v k' v' : Nat} (h1 : v < 97) (h2 : v' < 97) (h : 97 * k' + v' = 97 * k + v) : k' = k ∧ v' = v := by omega
theorem mw_clear {d : Nat} {V : V_T} {q : mm_T} {Post : Po} {T N : Nat → Nat} {R : RT} {A : Nat → Prop} {I : IT} {L : LT} {m wy : Nat} {w r e : Nat} (hq : P_mq 258 = some q) (C : Cl (d + 1) q 0 0 Post V) (S : SB V) (T_m : T m = 13) (R_m_21 : R m 21 = some wy) (T_wy : T wy = 21) (N_wy : N wy = 1261) (A_wy : A wy) (k : Nat) (hk : k ≤ 12) : ∀ (t v : Nat) (L1 : LT), t = 97 - v → v ≤ 97 → Fr A I L I L1 → (∀ k' v', (k' < k ∧ v' < 97 ∨ k' = k ∧ v' < v) → v' < 97 → L1 wy (97 * k' + v') = wF0 k' v') → (∀ L2, Fr A I L I L2 → (∀ k' v', (k' < k ∧ v' < 97 ∨ k' = k ∧ v' < 97) → v' < 97 → L2 wy (97 * k' + v') = wF0 k' v') → ∀ x5 : Int32, V 60 [(5, .int x5), (4, .int (Int32.ofNat k)), (0, .ref m), (1, .int (Int32.ofNat w)), (2, .int (Int32.ofNat r)), (3, .int (Int32.ofNat e))] [] (T, N, I, L2, R) 0 0) → V 19 [(5, .int (Int32.ofNat v)), (4, .int (Int32.ofNat k)), (0, .ref m), (1, .int (Int32.ofNat w)), (2, .int (Int32.ofNat r)), (3, .int (Int32.ofNat e))] [] (T, N, I, L1, R) 0 0 := by
  cases hq
  intro t
  induction t using Nat.strongRecOn with
  | _ t ih =>
    intro v L1 ht hv9 hF hz K
    refine k_iload C rfl rfl rfl ?_
    refine k_bipush C (x := 97) rfl rfl rfl ?_
    refine k_icmp_ge C (t := 60) rfl rfl rfl (fun c23 => ?_) (fun c23 => ?_)
    · skip
      have hv97 : v = 97 := Nat.le_antisymm hv9 ((n_le (a := 97) (b := v) (by omega) (by omega)).mp c23)
      subst hv97
      exact K L1 hF hz _
    have hv : v < 97 := Nat.lt_of_not_le (fun h => c23 ((n_le (a := 97) (b := v) (by omega) (by omega)).mpr h))
    refine k_aload_n C rfl rfl rfl ?_
    refine g_R C rfl rfl rfl T_m rfl R_m_21 ?_
    refine k_bipush C (x := 97) rfl rfl rfl ?_
    refine k_iload C rfl rfl rfl ?_
    refine k_imul C rfl rfl ?_
    refine k_iload C rfl rfl rfl ?_
    refine k_iadd C rfl rfl ?_
    refine k_iload C rfl rfl rfl ?_
    refine k_if_ne C (t := 52) rfl rfl rfl (fun c40 => ?_) (fun c40 => ?_)
    · skip
      refine k_lconst C (x := 0) rfl rfl rfl ?_
      refine s_L C rfl rfl T_wy (vin (n := 97 * k + v) (by rw [show (97 : Int32) = Int32.ofNat 97 from rfl, n_mul, n_add]) (by rw [N_wy]; omega) (by rw [N_wy]; exact Nat.le_of_ble_eq_true rfl)) (show _ = 97 * k + v from by rw [show (97 : Int32) = Int32.ofNat 97 from rfl, n_mul, n_add, n_nat (by omega)]) ?_
      refine k_inc1 C (lw := [(5, .int _), (4, .int _), (0, _), (1, .int _), (2, .int _), (3, .int _)]) rfl rfl rfl (Nat.le_of_ble_eq_true rfl) rfl ?_
      refine k_goto C (pc2 := 19) rfl rfl ?_
      rw [n_s]
      refine ih (97 - (v + 1)) (by omega) (v + 1) _ rfl hv (Fr.l hF A_wy) (fun k' v' h1 h2 => ?_) K
      by_cases e9 : k' = k ∧ v' = v
      · rw [e9.1, e9.2]; refine u2_s.trans ?_; unfold wF0; rw [if_neg (fun h => c40 (by rw [h.1]; rfl))]
      · exact (u2_k (fun e => e9 (cell_inj (by omega) (by omega) e))).trans (hz k' v' (by omega) h2)
    refine k_iload C rfl rfl rfl ?_
    refine k_if_ne C (t := 52) rfl rfl rfl (fun c45 => ?_) (fun c45 => ?_)
    · skip
      refine k_lconst C (x := 0) rfl rfl rfl ?_
      refine s_L C rfl rfl T_wy (vin (n := 97 * k + v) (by rw [show (97 : Int32) = Int32.ofNat 97 from rfl, n_mul, n_add]) (by rw [N_wy]; omega) (by rw [N_wy]; exact Nat.le_of_ble_eq_true rfl)) (show _ = 97 * k + v from by rw [show (97 : Int32) = Int32.ofNat 97 from rfl, n_mul, n_add, n_nat (by omega)]) ?_
      refine k_inc1 C (lw := [(5, .int _), (4, .int _), (0, _), (1, .int _), (2, .int _), (3, .int _)]) rfl rfl rfl (Nat.le_of_ble_eq_true rfl) rfl ?_
      refine k_goto C (pc2 := 19) rfl rfl ?_
      rw [n_s]
      refine ih (97 - (v + 1)) (by omega) (v + 1) _ rfl hv (Fr.l hF A_wy) (fun k' v' h1 h2 => ?_) K
      by_cases e9 : k' = k ∧ v' = v
      · rw [e9.1, e9.2]; refine u2_s.trans ?_; unfold wF0; rw [if_neg (fun h => c45 (by rw [h.2]; rfl))]
      · exact (u2_k (fun e => e9 (cell_inj (by omega) (by omega) e))).trans (hz k' v' (by omega) h2)
    refine k_lconst C (x := 1) rfl rfl rfl ?_
    refine k_goto C (pc2 := 53) rfl rfl ?_
    refine s_L C rfl rfl T_wy (vin (n := 97 * k + v) (by rw [show (97 : Int32) = Int32.ofNat 97 from rfl, n_mul, n_add]) (by rw [N_wy]; omega) (by rw [N_wy]; exact Nat.le_of_ble_eq_true rfl)) (show _ = 97 * k + v from by rw [show (97 : Int32) = Int32.ofNat 97 from rfl, n_mul, n_add, n_nat (by omega)]) ?_
    refine k_inc1 C (lw := [(5, .int _), (4, .int _), (0, _), (1, .int _), (2, .int _), (3, .int _)]) rfl rfl rfl (Nat.le_of_ble_eq_true rfl) rfl ?_
    refine k_goto C (pc2 := 19) rfl rfl ?_
    rw [n_s]
    refine ih (97 - (v + 1)) (by omega) (v + 1) _ rfl hv (Fr.l hF A_wy) (fun k' v' h1 h2 => ?_) K
    by_cases e9 : k' = k ∧ v' = v
    · rw [e9.1, e9.2]; refine u2_s.trans ?_; unfold wF0; rw [if_pos ⟨(n_eq (b := 0) (by omega) (by omega)).mp (Decidable.not_not.mp c40), (n_eq (b := 0) (by omega) (by omega)).mp (Decidable.not_not.mp c45)⟩]
    · exact (u2_k (fun e => e9 (cell_inj (by omega) (by omega) e))).trans (hz k' v' (by omega) h2)
theorem mw_clears {d : Nat} {V : V_T} {q : mm_T} {Post : Po} {T N : Nat → Nat} {R : RT} {A : Nat → Prop} {I : IT} {L : LT} {m wy : Nat} {w r e : Nat} (hq : P_mq 258 = some q) (C : Cl (d + 1) q 0 0 Post V) (S : SB V) (T_m : T m = 13) (R_m_21 : R m 21 = some wy) (T_wy : T wy = 21) (N_wy : N wy = 1261) (A_wy : A wy) (K : ∀ L2, Fr A I L I L2 → (∀ k' v', k' ≤ 12 → v' < 97 → L2 wy (97 * k' + v') = wF0 k' v') → ∀ x4 : Int32, V 66 [(4, .int x4), (0, .ref m), (1, .int (Int32.ofNat w)), (2, .int (Int32.ofNat r)), (3, .int (Int32.ofNat e))] [] (T, N, I, L2, R) 0 0) : ∀ (t k : Nat) (L1 : LT), t = 13 - k → k ≤ 13 → Fr A I L I L1 → (∀ k' v', k' < k → v' < 97 → L1 wy (97 * k' + v') = wF0 k' v') → V 9 [(4, .int (Int32.ofNat k)), (0, .ref m), (1, .int (Int32.ofNat w)), (2, .int (Int32.ofNat r)), (3, .int (Int32.ofNat e))] [] (T, N, I, L1, R) 0 0 := by
  intro t
  induction t using Nat.strongRecOn with
  | _ t ih =>
    intro k L1 ht hk9 hF hz
    have hq9 := hq
    cases hq
    refine k_iload C rfl rfl rfl ?_
    refine k_bipush C (x := 12) rfl rfl rfl ?_
    refine k_icmp_gt C (t := 66) rfl rfl rfl (fun c9 => ?_) (fun c9 => ?_)
    · exact K L1 hF (fun k' v' h1 h2 => hz k' v' (by have := (n_lt (a := 12) (b := k) (by omega) (by omega)).mp c9; omega) h2) _
    · have hk : k ≤ 12 := Nat.le_of_not_lt (fun h => c9 ((n_lt (a := 12) (b := k) (by omega) (by omega)).mpr h))
      refine k_iconst C (x := 0) rfl rfl rfl ?_
      refine k_istore C (lw := [(5, .int _), (4, .int _), (0, _), (1, .int _), (2, .int _), (3, .int _)]) rfl rfl (Nat.le_of_ble_eq_true rfl) rfl ?_
      refine mw_clear hq9 C S T_m R_m_21 T_wy N_wy A_wy k hk 97 0 L1 rfl (Nat.zero_le _) hF (fun k' v' h1 h2 => hz k' v' (by omega) h2) (fun L2 hF2 hz2 x5 => ?_)
      refine k_sub S [(4, .int (Int32.ofNat k)), (0, .ref m), (1, .int (Int32.ofNat w)), (2, .int (Int32.ofNat r)), (3, .int (Int32.ofNat e))] (List.forall_mem_cons.mpr ⟨List.mem_of_getElem? (i := 1) rfl, List.forall_mem_cons.mpr ⟨List.mem_of_getElem? (i := 2) rfl, List.forall_mem_cons.mpr ⟨List.mem_of_getElem? (i := 3) rfl, List.forall_mem_cons.mpr ⟨List.mem_of_getElem? (i := 4) rfl, List.forall_mem_cons.mpr ⟨List.mem_of_getElem? (i := 5) rfl, fun _ h => nomatch h⟩⟩⟩⟩⟩) ?_
      refine k_inc1 C (lw := [(4, .int _), (0, _), (1, .int _), (2, .int _), (3, .int _)]) rfl rfl rfl (Nat.le_of_ble_eq_true rfl) rfl ?_
      refine k_goto C (pc2 := 9) rfl rfl ?_
      rw [n_s]
      exact ih (13 - (k + 1)) (by omega) (k + 1) L2 rfl (by omega) hF2 (fun k' v' h1 h2 => hz2 k' v' (by omega) h2)
theorem e_m_ways_neg {d : Nat} {T N : Nat → Nat} {I : IT} {L : LT} {R : RT} {m : Nat} {w r e : Int32}  (hw : w < 0) : Ex (d + 1) 258 [.ref m, .int w, .int r, .int e] (T, N, I, L, R) 0 0 (pL T N R (fun x9 I9 L9 => x9 = (0) ∧ I9 = I ∧ L9 = L)) := by
  refine ⟨_, rfl, Nat.le_of_ble_eq_true rfl, fun V C S => ?_⟩
  show V 0 [(0, .ref m), (1, .int w), (2, .int r), (3, .int e)] [] (T, N, I, L, R) 0 0
  refine k_iload_n C rfl rfl rfl ?_
  refine k_if_ge C (t := 6) rfl rfl rfl (fun c1 => ?_) (fun c1 => ?_)
  · skip
    exact absurd hw (Int32.not_lt.mpr c1)
  refine k_lconst C (x := 0) rfl rfl rfl ?_
  exact k_lret C rfl rfl (Nat.le_of_ble_eq_true rfl) (Nat.le_of_ble_eq_true rfl) ⟨_, _, _, rfl, rfl, ⟨rfl, rfl, rfl⟩⟩

theorem e_m_ways_nat {d : Nat} {T N : Nat → Nat} {I : IT} {L : LT} {R : RT} {A : Nat → Prop} {m wy : Nat} {wI rI eI : Int32} (T_m : T m = 13) (R_m_21 : R m 21 = some wy) (T_wy : T wy = 21) (N_wy : N wy = 1261) (A_wy : A wy) {w r e : Nat} (hwI : wI = Int32.ofNat w) (hrI : rI = Int32.ofNat r) (heI : eI = Int32.ofNat e) (hw : w ≤ 48) (hr9 : r ≤ 12) (he : e ≤ 8) : Ex (d + 2) 258 [.ref m, .int wI, .int rI, .int eI] (T, N, I, L, R) 0 0 (pL T N R (fun x9 I9 L9 => x9 = waysP w r e ∧ I9 = I ∧ Fr A I L I L9)) := by
  refine ⟨_, rfl, Nat.le_of_ble_eq_true rfl, fun V C S => ?_⟩
  show V 0 [(0, .ref m), (1, .int wI), (2, .int rI), (3, .int eI)] [] (T, N, I, L, R) 0 0
  subst hwI hrI heI
  refine k_iload_n C rfl rfl rfl ?_
  refine k_if_ge C (t := 6) rfl rfl rfl (fun c1 => ?_) (fun c1 => ?_)
  · skip
    refine k_iconst C (x := 0) rfl rfl rfl ?_
    refine k_istore C (lw := [(4, .int _), (0, _), (1, .int _), (2, .int _), (3, .int _)]) rfl rfl (Nat.le_of_ble_eq_true rfl) rfl ?_
    refine mw_clears (I := I) (L := L) rfl C S T_m R_m_21 T_wy N_wy A_wy (fun L2 hF2 hz2 x4 => ?_) 13 0 L rfl (Nat.zero_le _) Fr.rf (fun k' v' h1 h2 => absurd h1 (Nat.not_lt_zero k'))
    have hrep : rep 97 wF0 (L2 wy) := fun k v h1 h2 => hz2 k v h1 (by omega)
    refine k_iconst C (x := 1) rfl rfl rfl ?_
    refine k_istore C (lw := [(4, .int _), (0, _), (1, .int _), (2, .int _), (3, .int _)]) rfl rfl (Nat.le_of_ble_eq_true rfl) rfl ?_
    refine mw_ploop rfl C S T_m R_m_21 T_wy N_wy A_wy hw hr9 he e 1 _ wF0 rfl (Nat.le_refl _) (by omega) hF2 hrep (fun L3 hF3 hrep3 x4 => ?_)
    refine k_lconst C (x := 0) rfl rfl rfl ?_
    refine k_lstore C (lw := [(4, .long _), (0, _), (1, .int _), (2, .int _), (3, .int _)]) rfl rfl (Nat.le_of_ble_eq_true rfl) rfl ?_
    refine k_iconst C (x := 0) rfl rfl rfl ?_
    refine k_istore C (lw := [(6, .int _), (4, .long _), (0, _), (1, .int _), (2, .int _), (3, .int _)]) rfl rfl (Nat.le_of_ble_eq_true rfl) rfl ?_
    refine mw_sloop rfl C S T_m R_m_21 T_wy N_wy A_wy hw hr9 he (I := I) (L := L) hrep3 (r + 1) 0 0 rfl (by omega) (fun x6 => ?_)
    refine k_lload C rfl rfl rfl ?_
    exact k_lret C rfl rfl (Nat.le_of_ble_eq_true rfl) (Nat.le_of_ble_eq_true rfl) ⟨_, _, _, rfl, rfl, rfl, rfl, hF3⟩
  exact absurd (Int32.not_lt.mp (n_nn (by omega))) c1
end
