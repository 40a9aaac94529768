/-! what the constructors leave -/
def Ag (M M' : Mm) (a : Nat) : Prop := mT M' a = mT M a ∧ mN M' a = mN M a ∧ mI M' a = mI M a ∧ mL M' a = mL M a ∧ mR M' a = mR M a
theorem Ag.rf {M : Mm} {a : Nat} : Ag M M a := ⟨rfl, rfl, rfl, rfl, rfl⟩
theorem Ag.tr {M M1 M2 : Mm} {a : Nat} (h : Ag M M1 a) (g : Ag M1 M2 a) : Ag M M2 a := ⟨g.1.trans h.1, g.2.1.trans h.2.1, g.2.2.1.trans h.2.2.1, g.2.2.2.1.trans h.2.2.2.1, g.2.2.2.2.trans h.2.2.2.2⟩
/-- all that was there is as it was -/
def Ext (M M' : Mm) : Prop := ∀ a, mT M a ≠ 0 → Ag M M' a
/-- all but x -/
def Ex1 (x : Nat) (M M' : Mm) : Prop := ∀ a, mT M a ≠ 0 → a ≠ x → Ag M M' a
/-- all but what has tag t -/
def Stt (t : Nat) (M M' : Mm) : Prop := ∀ a, mT M a ≠ 0 → mT M a ≠ t → Ag M M' a
theorem Ext.rf {M : Mm} : Ext M M := fun _ _ => Ag.rf
theorem Ext.tr {M M1 M2 : Mm} (h : Ext M M1) (g : Ext M1 M2) : Ext M M2 := fun a ha => (h a ha).tr (g a (by rw [(h a ha).1]; exact ha))
theorem Ex1.rf {x : Nat} {M : Mm} : Ex1 x M M := fun _ _ _ => Ag.rf
theorem Ex1.tr {x : Nat} {M M1 M2 : Mm} (h : Ex1 x M M1) (g : Ex1 x M1 M2) : Ex1 x M M2 := fun a ha hx => (h a ha hx).tr (g a (by rw [(h a ha hx).1]; exact ha) hx)
theorem Ext.to1 {x : Nat} {M M1 : Mm} (h : Ext M M1) : Ex1 x M M1 := fun a ha _ => h a ha
theorem Ext.st {t : Nat} {M M1 : Mm} (h : Ext M M1) : Stt t M M1 := fun a ha _ => h a ha
theorem Ex1.st {x t : Nat} {M M1 : Mm} (h : Ex1 x M M1) (hx : mT M x = t) : Stt t M M1 := fun a ha ht => h a ha (fun e => ht (by rw [e]; exact hx))
theorem ag_new {M : Mm} {b t n a : Nat} (h : a ≠ b) : Ag M (sN M b t n) a := by
  refine ⟨?_, ?_, ?_, ?_, ?_⟩ <;> simp [sN, u1, h, mT, mN, mI, mL, mR]
theorem ag_sR {M : Mm} {b k a : Nat} {x : Option Nat} (h : a ≠ b) : Ag M (sR M b k x) a := ⟨rfl, rfl, rfl, rfl, u2_r h⟩
theorem ag_sI {M : Mm} {b k a : Nat} {x : Int32} (h : a ≠ b) : Ag M (sI M b k x) a := ⟨rfl, rfl, u2_r h, rfl, rfl⟩
theorem ne0 {M : Mm} {a b t : Nat} (ha : mT M a = t) (ht : t ≠ 0) (hb : mT M b = 0) : a ≠ b := fun e => ht (by rw [← ha, e, hb])
theorem Ext.new {M M1 : Mm} {b t n : Nat} (h : Ext M M1) (hb : mT M1 b = 0) : Ext M (sN M1 b t n) := fun a ha => (h a ha).tr (ag_new (fun e => ha (by rw [← (h a ha).1, e, hb])))
theorem Ext.e1 {M M1 M2 : Mm} {b : Nat} (h : Ext M M1) (g : Ex1 b M1 M2) (hb : mT M b = 0) : Ext M M2 := fun a ha => (h a ha).tr (g a (by rw [(h a ha).1]; exact ha) (fun e => ha (by rw [e, hb])))
theorem Ext.sR {M M1 : Mm} {r k : Nat} {x : Option Nat} (h : Ext M M1) (hr : mT M r = 0) : Ext M (sR M1 r k x) := fun a ha => (h a ha).tr (ag_sR (fun e => ha (by rw [e, hr])))
theorem Ext.sI {M M1 : Mm} {r k : Nat} {x : Int32} (h : Ext M M1) (hr : mT M r = 0) : Ext M (sI M1 r k x) := fun a ha => (h a ha).tr (ag_sI (fun e => ha (by rw [e, hr])))
theorem T_new {M : Mm} {b t n : Nat} : mT (sN M b t n) b = t := by simp [sN, u1, mT]
theorem N_new {M : Mm} {b t n : Nat} : mN (sN M b t n) b = n := by simp [sN, u1, mN]
theorem I_new {M : Mm} {b t n k : Nat} : mI (sN M b t n) b k = 0 := by simp [sN, u1, mI]
theorem L_new {M : Mm} {b t n k : Nat} : mL (sN M b t n) b k = 0 := by simp [sN, u1, mL]
theorem T_old {M : Mm} {a b t n : Nat} (h : a ≠ b) : mT (sN M b t n) a = mT M a := (ag_new h).1
/-! who holds whom: a Form, Signs, a Table, an array is held by one cell alone -/
def trT (t : Nat) : Prop := t = 3 ∨ t = 8 ∨ t = 10 ∨ 20 ≤ t
theorem trT.n0 {t : Nat} (h : trT t) : t ≠ 0 := by unfold trT at h; omega
def unr (M : Mm) (b : Nat) : Prop := ∀ a k, mR M a k ≠ some b
def UP (M : Mm) : Prop := (∀ a k b, mR M a k = some b → mT M b ≠ 0) ∧ ∀ a k a' k' b, trT (mT M b) → mR M a k = some b → mR M a' k' = some b → a = a' ∧ k = k'
def Ko (M M1 : Mm) : Prop := UP M → UP M1 ∧ (∀ a, mT M a ≠ 0 → mT M1 a = mT M a) ∧ ∀ b, trT (mT M b) → unr M b → unr M1 b
theorem Ko.rf {M : Mm} : Ko M M := fun h => ⟨h, fun _ _ => rfl, fun _ _ h => h⟩
theorem Ko.tr {M M1 M2 : Mm} (h : Ko M M1) (g : Ko M1 M2) : Ko M M2 := fun u => by
  obtain ⟨v1, t1, r1⟩ := h u
  obtain ⟨v2, t2, r2⟩ := g v1
  exact ⟨v2, fun a ha => (t2 a (by rw [t1 a ha]; exact ha)).trans (t1 a ha), fun b hb hr => r2 b (by rw [t1 b hb.n0]; exact hb) (r1 b hb hr)⟩
theorem R_new {M : Mm} {a b t n k c : Nat} (h : mR (sN M b t n) a k = some c) : mR M a k = some c := by
  by_cases e : a = b
  · subst e; simp [sN, u1, mR] at h
  · exact (congrFun (ag_new (M := M) (t := t) (n := n) e).2.2.2.2 k).symm.trans h
theorem Ko.nw {M : Mm} {b t n : Nat} (hb : mT M b = 0) : Ko M (sN M b t n) := fun u => by
  have tt : ∀ c, mT M c ≠ 0 → mT (sN M b t n) c = mT M c := fun c hc => T_old (fun e => hc (by rw [e, hb]))
  refine ⟨⟨fun a k c h => ?_, fun a k a' k' c hc h h' => ?_⟩, tt, fun c _ hr a k h => hr a k (R_new h)⟩
  · have q := u.1 a k c (R_new h)
    rw [tt c q]; exact q
  · have h := R_new h
    rw [tt c (u.1 a k c h)] at hc
    exact u.2 a k a' k' c hc h (R_new h')
theorem unr.nw {M : Mm} {b t n : Nat} (u : UP M) (hb : mT M b = 0) : unr (sN M b t n) b := fun a k h => u.1 a k b (R_new h) hb
theorem Ko.iI {M : Mm} {b k : Nat} {x : Int32} : Ko M (sI M b k x) := fun u => ⟨u, fun _ _ => rfl, fun _ _ h => h⟩
theorem R_put {M : Mm} {x k c a j b : Nat} (h : mR (sR M x k (some c)) a j = some b) : (a = x ∧ j = k ∧ b = c) ∨ mR M a j = some b := by
  have h : (if a = x ∧ j = k then some c else mR M a j) = some b := h
  by_cases e : a = x ∧ j = k
  · rw [if_pos e] at h; exact Or.inl ⟨e.1, e.2, (Option.some.inj h).symm⟩
  · rw [if_neg e] at h; exact Or.inr h
theorem Ko.pt {M : Mm} {x k c : Nat} (hc : ¬ trT (mT M c)) (h0 : mT M c ≠ 0) : Ko M (sR M x k (some c)) := fun u => by
  refine ⟨⟨fun a j b h => ?_, fun a j a' j' b hb h h' => ?_⟩, fun _ _ => rfl, fun b hb hr a j h => ?_⟩
  · rcases R_put h with ⟨-, -, e⟩ | h
    · rw [e]; exact h0
    · exact u.1 a j b h
  · rcases R_put h with ⟨-, -, e⟩ | h
    · rw [e] at hb; exact absurd hb hc
    · rcases R_put h' with ⟨-, -, e⟩ | h'
      · rw [e] at hb; exact absurd hb hc
      · exact u.2 a j a' j' b hb h h'
  · rcases R_put h with ⟨-, -, e⟩ | h
    · rw [e] at hb; exact hc hb
    · exact hr a j h
theorem Ko.par {M0 M : Mm} {x k c t : Nat} (g : Ko M0 M) (hc : mT M0 c = t) (ht : ¬ trT t) (h0 : t ≠ 0) : Ko M0 (sR M x k (some c)) := fun u => by
  have e : mT M c = t := ((g u).2.1 c (by rw [hc]; exact h0)).trans hc
  exact g.tr (Ko.pt (by rw [e]; exact ht) (by rw [e]; exact h0)) u
theorem Ko.put {M0 M : Mm} {x k c : Nat} (g : Ko M0 M) (h0 : mT M0 c = 0) (hU : UP M0 → mT M c ≠ 0 ∧ (trT (mT M c) → unr M c)) : Ko M0 (sR M x k (some c)) := fun u => by
  obtain ⟨v, tt, rr⟩ := g u
  obtain ⟨c0, cu⟩ := hU u
  refine ⟨⟨fun a j b h => ?_, fun a j a' j' b hb h h' => ?_⟩, tt, fun b hb hr a j h => ?_⟩
  · rcases R_put h with ⟨-, -, e⟩ | h
    · rw [e]; exact c0
    · exact v.1 a j b h
  · rcases R_put h with ⟨e1, e2, e⟩ | h
    · rcases R_put h' with ⟨e3, e4, -⟩ | h'
      · exact ⟨e1.trans e3.symm, e2.trans e4.symm⟩
      · rw [e] at hb h'; exact absurd h' (cu hb a' j')
    · rcases R_put h' with ⟨-, -, e⟩ | h'
      · rw [e] at hb h; exact absurd h (cu hb a j)
      · exact v.2 a j a' j' b hb h h'
  · rcases R_put h with ⟨-, -, e⟩ | h
    · rw [e] at hb; exact absurd h0 hb.n0
    · exact rr b hb hr a j h
theorem Ko.obj {M M1 M2 : Mm} {x k b : Nat} (h : Ko M M1) (hu : UP M → unr M1 b) (h0 : mT M b = 0) (hT : mT M1 b ≠ 0) (g : Ko M1 M2) : Ko M (sR M2 x k (some b)) :=
  (h.tr g).put h0 (fun u => by
    obtain ⟨v, tt, -⟩ := h u
    obtain ⟨-, t2, r2⟩ := g v
    exact ⟨by rw [t2 b hT]; exact hT, fun q => r2 b (by rw [t2 b hT] at q; exact q) (hu u)⟩)
theorem Ko.arr {M : Mm} {x k b t n : Nat} (hb : mT M b = 0) (ht : t ≠ 0) : Ko M (sR (sN M b t n) x k (some b)) := (Ko.nw hb).put hb (fun u => ⟨by rw [T_new]; exact ht, fun _ => unr.nw u hb⟩)
theorem Ko.mna {M : Mm} {x k b n w : Nat} (hb : ∀ c, b ≤ c → mT M c = 0) : Ko M (sR (sMN M b n w) x k (some b)) := fun u => by
  have lt : ∀ c, mT M c ≠ 0 → c < b := fun c hc => Nat.lt_of_not_le (fun h => hc (hb c h))
  have tt : ∀ c, mT M c ≠ 0 → mT (sMN M b n w) c = mT M c := fun c hc => by
    have := lt c hc
    show (if c = b then 26 else if b < c ∧ c ≤ b + n then 20 else mT M c) = mT M c
    rw [if_neg (by omega), if_neg (by omega)]
  have cl : ∀ a j c, mR (sMN M b n w) a j = some c → (a = b ∧ j < n ∧ c = b + 1 + j) ∨ mR M a j = some c := fun a j c h => by
    have h : (if a = b then (if j < n then some (b + 1 + j) else none) else if b < a ∧ a ≤ b + n then none else mR M a j) = some c := h
    by_cases e : a = b
    · rw [if_pos e] at h
      by_cases e2 : j < n
      · rw [if_pos e2] at h; exact Or.inl ⟨e, e2, (Option.some.inj h).symm⟩
      · rw [if_neg e2] at h; cases h
    · rw [if_neg e] at h
      by_cases e2 : b < a ∧ a ≤ b + n
      · rw [if_pos e2] at h; cases h
      · rw [if_neg e2] at h; exact Or.inr h
  have all : ∀ a j c, mR (sR (sMN M b n w) x k (some b)) a j = some c → (a = x ∧ j = k ∧ c = b) ∨ (a = b ∧ j < n ∧ c = b + 1 + j) ∨ (c < b ∧ mR M a j = some c) := fun a j c h => by
    rcases R_put h with h | h
    · exact Or.inl h
    · rcases cl a j c h with h | h
      · exact Or.inr (Or.inl h)
      · exact Or.inr (Or.inr ⟨lt c (u.1 a j c h), h⟩)
  refine ⟨⟨fun a j c h => ?_, fun a j a' j' c hc h h' => ?_⟩, tt, fun c hc hr a j h => ?_⟩
  · show mT (sMN M b n w) c ≠ 0
    rcases all a j c h with ⟨-, -, e⟩ | ⟨-, hj, e⟩ | ⟨-, h⟩
    · rw [e]; show (if b = b then 26 else if b < b ∧ b ≤ b + n then 20 else mT M b) ≠ 0
      rw [if_pos rfl]; decide
    · rw [e]; show (if b + 1 + j = b then 26 else if b < b + 1 + j ∧ b + 1 + j ≤ b + n then 20 else mT M (b + 1 + j)) ≠ 0
      rw [if_neg (by omega), if_pos (by omega)]; decide
    · have q := u.1 a j c h
      rw [tt c q]; exact q
  · rcases all a j c h with ⟨e1, e2, e⟩ | ⟨e1, e2, e⟩ | ⟨e, h⟩
    · rcases all a' j' c h' with ⟨d1, d2, d⟩ | ⟨d1, d2, d⟩ | ⟨d, h'⟩
      · exact ⟨e1.trans d1.symm, e2.trans d2.symm⟩
      · exfalso; omega
      · exfalso; omega
    · rcases all a' j' c h' with ⟨d1, d2, d⟩ | ⟨d1, d2, d⟩ | ⟨d, h'⟩
      · exfalso; omega
      · exact ⟨e1.trans d1.symm, by omega⟩
      · exfalso; omega
    · rcases all a' j' c h' with ⟨d1, d2, d⟩ | ⟨d1, d2, d⟩ | ⟨d, h'⟩
      · exfalso; omega
      · exfalso; omega
      · have hc2 : trT (mT (sMN M b n w) c) := hc
        rw [tt c (u.1 a j c h)] at hc2
        exact u.2 a j a' j' c hc2 h h'
  · rcases all a j c h with ⟨-, -, e⟩ | ⟨-, -, e⟩ | ⟨-, h⟩
    · have := lt c hc.n0; omega
    · have := lt c hc.n0; omega
    · exact hr a j h
def gArr (M : Mm) (b t n : Nat) : Prop := mT M b = t ∧ mN M b = n
def gF (M : Mm) (f : Nat) : Prop := mT M f = 3 ∧ mI M f 0 = 0 ∧ ∃ b, mR M f 1 = some b ∧ gArr M b 20 41
def gRow (M : Mm) (r n : Nat) : Prop := mT M r = 23 ∧ mN M r = n ∧ ∀ j, j < n → ∃ f, mR M r j = some f ∧ gF M f
def gSg (M : Mm) (s : Nat) : Prop := mT M s = 8 ∧ mI M s 2 = 0 ∧ (∃ a, mR M s 0 = some a ∧ gArr M a 20 160) ∧ ∃ b, mR M s 1 = some b ∧ gArr M b 20 160
def gTabs (M : Mm) (r n : Nat) : Prop := mT M r = 24 ∧ mN M r = n ∧ ∀ j, j < n → ∃ t, mR M r j = some t ∧ mT M t = 10
def gSgs (M : Mm) (r n : Nat) : Prop := mT M r = 25 ∧ mN M r = n ∧ ∀ j, j < n → ∃ s, mR M r j = some s ∧ gSg M s
theorem gArr.go {M M1 : Mm} {b t n : Nat} (h : gArr M b t n) (a : Ag M M1 b) : gArr M1 b t n := ⟨a.1.trans h.1, a.2.1.trans h.2⟩
theorem gArr.st {M M1 : Mm} {b t n u : Nat} (h : gArr M b t n) (a : Stt u M M1) (h0 : t ≠ 0) (hu : t ≠ u) : gArr M1 b t n := h.go (a b (by rw [h.1]; exact h0) (by rw [h.1]; exact hu))
theorem gF.go {M M1 : Mm} {f : Nat} (h : gF M f) (a : ∀ a, mT M a = 3 ∨ mT M a = 20 → Ag M M1 a) : gF M1 f := by
  obtain ⟨h1, h2, b, h3, h4⟩ := h
  have e := a f (Or.inl h1)
  exact ⟨e.1.trans h1, by rw [e.2.2.1]; exact h2, b, by rw [e.2.2.2.2]; exact h3, h4.go (a b (Or.inr h4.1))⟩
theorem gF.st {M M1 : Mm} {f u : Nat} (h : gF M f) (a : Stt u M M1) (hu : u ≠ 3 ∧ u ≠ 20) : gF M1 f := h.go (fun b hb => a b (by omega) (by omega))
theorem gRow.go {M M1 : Mm} {r n : Nat} (h : gRow M r n) (a : ∀ a, mT M a = 3 ∨ mT M a = 20 ∨ mT M a = 23 → Ag M M1 a) : gRow M1 r n := by
  obtain ⟨h1, h2, h3⟩ := h
  have e := a r (Or.inr (Or.inr h1))
  refine ⟨e.1.trans h1, e.2.1.trans h2, fun j hj => ?_⟩
  obtain ⟨f, f1, f2⟩ := h3 j hj
  exact ⟨f, by rw [e.2.2.2.2]; exact f1, f2.go (fun b hb => a b (by omega))⟩
theorem gRow.st {M M1 : Mm} {r n u : Nat} (h : gRow M r n) (a : Stt u M M1) (hu : u ≠ 3 ∧ u ≠ 20 ∧ u ≠ 23) : gRow M1 r n := h.go (fun b hb => a b (by omega) (by omega))
theorem gSg.go {M M1 : Mm} {s : Nat} (h : gSg M s) (a : ∀ a, mT M a = 8 ∨ mT M a = 20 → Ag M M1 a) : gSg M1 s := by
  obtain ⟨h1, h2, ⟨b, h3, h4⟩, c, h5, h6⟩ := h
  have e := a s (Or.inl h1)
  exact ⟨e.1.trans h1, by rw [e.2.2.1]; exact h2, ⟨b, by rw [e.2.2.2.2]; exact h3, h4.go (a b (Or.inr h4.1))⟩, c, by rw [e.2.2.2.2]; exact h5, h6.go (a c (Or.inr h6.1))⟩
theorem gSg.st {M M1 : Mm} {s u : Nat} (h : gSg M s) (a : Stt u M M1) (hu : u ≠ 8 ∧ u ≠ 20) : gSg M1 s := h.go (fun b hb => a b (by omega) (by omega))
theorem gTabs.go {M M1 : Mm} {r n : Nat} (h : gTabs M r n) (a : ∀ a, mT M a = 24 ∨ mT M a = 10 → Ag M M1 a) : gTabs M1 r n := by
  obtain ⟨h1, h2, h3⟩ := h
  have e := a r (Or.inl h1)
  refine ⟨e.1.trans h1, e.2.1.trans h2, fun j hj => ?_⟩
  obtain ⟨f, f1, f2⟩ := h3 j hj
  exact ⟨f, by rw [e.2.2.2.2]; exact f1, (a f (Or.inr f2)).1.trans f2⟩
theorem gTabs.st {M M1 : Mm} {r n u : Nat} (h : gTabs M r n) (a : Stt u M M1) (hu : u ≠ 24 ∧ u ≠ 10) : gTabs M1 r n := h.go (fun b hb => a b (by omega) (by omega))
theorem gSgs.go {M M1 : Mm} {r n : Nat} (h : gSgs M r n) (a : ∀ a, mT M a = 25 ∨ mT M a = 8 ∨ mT M a = 20 → Ag M M1 a) : gSgs M1 r n := by
  obtain ⟨h1, h2, h3⟩ := h
  have e := a r (Or.inl h1)
  refine ⟨e.1.trans h1, e.2.1.trans h2, fun j hj => ?_⟩
  obtain ⟨f, f1, f2⟩ := h3 j hj
  exact ⟨f, by rw [e.2.2.2.2]; exact f1, f2.go (fun b hb => a b (by omega))⟩
theorem gSgs.st {M M1 : Mm} {r n u : Nat} (h : gSgs M r n) (a : Stt u M M1) (hu : u ≠ 25 ∧ u ≠ 8 ∧ u ≠ 20) : gSgs M1 r n := h.go (fun b hb => a b (by omega) (by omega))
def pC (Q : Mm → Prop) : Po := fun o M => o = .inl none ∧ Q M
section Mk
variable {d : Nat} {q : mm_T} {mc ms : Nat} {Post : Po} {V : V_T} {pc pc2 : Nat} {lv : List (Nat × Value)} {r : List Value} {M : Mm} {ck sk : Nat}
/-- what the step 'x.k = a new array b' leaves -/
def Nw (M M1 : Mm) (x k b t n : Nat) : Prop := Ex1 x M M1 ∧ mT M1 x = mT M x ∧ mI M1 x = mI M x ∧ mL M1 x = mL M x ∧ (∀ j, j ≠ k → mR M1 x j = mR M x j) ∧ mR M1 x k = some b ∧ gArr M1 b t n ∧ (∀ j, mI M1 b j = 0) ∧ (∀ j, mL M1 b j = 0) ∧ mT M b = 0
theorem Nw.of {x k b t n : Nat} (hx : mT M x ≠ 0) (hb : mT M b = 0) (ht : t ≠ 0) : Nw M (sR (sN M b t n) x k (some b)) x k b t n := by
  have hne : x ≠ b := fun e => hx (by rw [e, hb])
  have e := ag_new (M := M) (t := t) (n := n) hne
  refine ⟨fun a ha hax => (ag_new (fun e => ha (by rw [e, hb]))).tr (ag_sR hax), e.1, e.2.2.1, e.2.2.2.1, fun j hj => (u2_k hj).trans (congrFun e.2.2.2.2 j), u2_s, ⟨T_new (n := n), N_new (t := t)⟩, fun j => I_new (t := t) (n := n), fun j => L_new (t := t) (n := n), hb⟩
theorem i_arr (C : Cl d q mc ms Post V) {t : ArrayType} {tt n x ci k j ck2 sk2 : Nat} {z : Int32} (hi : cdf q.2.2.2.2.2.2 pc = some (.newarray t, 2)) (hi2 : cdf q.2.2.2.2.2.2 (pc + 2) = some (.putfield j, 3)) (hp : pc + 5 = pc2) (ht : t = .int ∧ tt = 0 ∨ t = .long ∧ tt = 1 ∨ t = .byte ∧ tt = 2) (h0 : ¬ z < 0) (hn : z.toNatClampNeg = n) (hz : n ≤ 10000) (e1 : ck + 1 = ck2) (e2 : sk + n = sk2) (h1 : ck2 ≤ mc) (h2 : sk2 ≤ ms)
    (hf : P_fl q.2.2.2.2.1 j = some (ci, k)) (hx : mT M x = ci + 1) (hnm : q.1.name = "<init>" ∧ q.2.2.2.2.1 = ci) (hy : kt (P_ty ci k) = 2)
    (h : ∀ b M1, Nw M M1 x k b (20 + tt) n → V pc2 lv r M1 ck2 sk2) : V pc lv (.int z :: .ref x :: r) M ck sk := by
  subst e1; subst e2
  refine k_newarr C hi rfl ht h0 hn hz h1 h2 (fun b hb => ?_)
  refine k_putR C hi2 hp hf ((T_old (ne0 hx (by omega) hb)).trans hx) (Or.inl hnm) hy ?_
  exact h b _ (Nw.of (by rw [hx]; omega) hb (by omega))
theorem iu_arr (C : Cl d q mc ms Post V) {t : ArrayType} {tt n x ci k j ck2 sk2 : Nat} {z : Int32} (hi : cdf q.2.2.2.2.2.2 pc = some (.newarray t, 2)) (hi2 : cdf q.2.2.2.2.2.2 (pc + 2) = some (.putfield j, 3)) (hp : pc + 5 = pc2) (ht : t = .int ∧ tt = 0 ∨ t = .long ∧ tt = 1 ∨ t = .byte ∧ tt = 2) (h0 : ¬ z < 0) (hn : z.toNatClampNeg = n) (hz : n ≤ 10000) (e1 : ck + 1 = ck2) (e2 : sk + n = sk2) (h1 : ck2 ≤ mc) (h2 : sk2 ≤ ms)
    (hf : P_fl q.2.2.2.2.1 j = some (ci, k)) (hx : mT M x = ci + 1) (hnm : q.1.name = "<init>" ∧ q.2.2.2.2.1 = ci) (hy : kt (P_ty ci k) = 2)
    (h : ∀ b M1, Nw M M1 x k b (20 + tt) n → Ko M M1 → V pc2 lv r M1 ck2 sk2) : V pc lv (.int z :: .ref x :: r) M ck sk := by
  subst e1; subst e2
  refine k_newarr C hi rfl ht h0 hn hz h1 h2 (fun b hb => ?_)
  refine k_putR C hi2 hp hf ((T_old (ne0 hx (by omega) hb)).trans hx) (Or.inl hnm) hy ?_
  exact h b _ (Nw.of (by rw [hx]; omega) hb (by omega)) (Ko.arr hb (by omega))
theorem i_arrA (C : Cl d q mc ms Post V) {tt n x ci ca k j i9 ck2 sk2 : Nat} {z : Int32} (hi : cdf q.2.2.2.2.2.2 pc = some (.anewarray i9, 3)) (hi2 : cdf q.2.2.2.2.2.2 (pc + 3) = some (.putfield j, 3)) (hp : pc + 6 = pc2) (hn9 : P_nw q.2.2.2.2.1 i9 = some ca) (ht : tt = 3 ∧ ca = 2 ∨ tt = 4 ∧ ca = 9 ∨ tt = 5 ∧ ca = 7) (h0 : ¬ z < 0) (hn : z.toNatClampNeg = n) (hz : n ≤ 10000) (e1 : ck + 1 = ck2) (e2 : sk + n = sk2) (h1 : ck2 ≤ mc) (h2 : sk2 ≤ ms)
    (hf : P_fl q.2.2.2.2.1 j = some (ci, k)) (hx : mT M x = ci + 1) (hnm : q.1.name = "<init>" ∧ q.2.2.2.2.1 = ci) (hy : kt (P_ty ci k) = 2)
    (h : ∀ b M1, Nw M M1 x k b (20 + tt) n → V pc2 lv r M1 ck2 sk2) : V pc lv (.int z :: .ref x :: r) M ck sk := by
  subst e1; subst e2
  refine k_anew C hi rfl hn9 ht h0 hn hz h1 h2 (fun b hb => ?_)
  refine k_putR C hi2 hp hf ((T_old (ne0 hx (by omega) hb)).trans hx) (Or.inl hnm) hy ?_
  exact h b _ (Nw.of (by rw [hx]; omega) hb (by omega))
theorem iu_arrA (C : Cl d q mc ms Post V) {tt n x ci ca k j i9 ck2 sk2 : Nat} {z : Int32} (hi : cdf q.2.2.2.2.2.2 pc = some (.anewarray i9, 3)) (hi2 : cdf q.2.2.2.2.2.2 (pc + 3) = some (.putfield j, 3)) (hp : pc + 6 = pc2) (hn9 : P_nw q.2.2.2.2.1 i9 = some ca) (ht : tt = 3 ∧ ca = 2 ∨ tt = 4 ∧ ca = 9 ∨ tt = 5 ∧ ca = 7) (h0 : ¬ z < 0) (hn : z.toNatClampNeg = n) (hz : n ≤ 10000) (e1 : ck + 1 = ck2) (e2 : sk + n = sk2) (h1 : ck2 ≤ mc) (h2 : sk2 ≤ ms)
    (hf : P_fl q.2.2.2.2.1 j = some (ci, k)) (hx : mT M x = ci + 1) (hnm : q.1.name = "<init>" ∧ q.2.2.2.2.1 = ci) (hy : kt (P_ty ci k) = 2)
    (h : ∀ b M1, Nw M M1 x k b (20 + tt) n → Ko M M1 → V pc2 lv r M1 ck2 sk2) : V pc lv (.int z :: .ref x :: r) M ck sk := by
  subst e1; subst e2
  refine k_anew C hi rfl hn9 ht h0 hn hz h1 h2 (fun b hb => ?_)
  refine k_putR C hi2 hp hf ((T_old (ne0 hx (by omega) hb)).trans hx) (Or.inl hnm) hy ?_
  exact h b _ (Nw.of (by rw [hx]; omega) hb (by omega)) (Ko.arr hb (by omega))
/-- x.k = an object that is there -/
def Pt (M M1 : Mm) (x k b : Nat) : Prop := Ex1 x M M1 ∧ mT M1 x = mT M x ∧ mI M1 x = mI M x ∧ mL M1 x = mL M x ∧ (∀ j, j ≠ k → mR M1 x j = mR M x j) ∧ mR M1 x k = some b
theorem i_put (C : Cl d q mc ms Post V) {x ci k j b : Nat} (hi : cdf q.2.2.2.2.2.2 pc = some (.putfield j, 3)) (hp : pc + 3 = pc2) (hf : P_fl q.2.2.2.2.1 j = some (ci, k)) (hx : mT M x = ci + 1) (hnm : q.1.name = "<init>" ∧ q.2.2.2.2.1 = ci) (hy : kt (P_ty ci k) = 2)
    (h : ∀ M1, Pt M M1 x k b → V pc2 lv r M1 ck sk) : V pc lv (.ref b :: .ref x :: r) M ck sk :=
  k_putR C hi hp hf hx (Or.inl hnm) hy (h _ ⟨fun a _ hax => ag_sR hax, rfl, rfl, rfl, fun j hj => u2_k hj, u2_s⟩)
theorem iu_put (C : Cl d q mc ms Post V) {x ci k j b : Nat} (hi : cdf q.2.2.2.2.2.2 pc = some (.putfield j, 3)) (hp : pc + 3 = pc2) (hf : P_fl q.2.2.2.2.1 j = some (ci, k)) (hx : mT M x = ci + 1) (hnm : q.1.name = "<init>" ∧ q.2.2.2.2.1 = ci) (hy : kt (P_ty ci k) = 2)
    (h : ∀ M1, Pt M M1 x k b → M1 = sR M x k (some b) → V pc2 lv r M1 ck sk) : V pc lv (.ref b :: .ref x :: r) M ck sk :=
  k_putR C hi hp hf hx (Or.inl hnm) hy (h _ ⟨fun a _ hax => ag_sR hax, rfl, rfl, rfl, fun j hj => u2_k hj, u2_s⟩ rfl)
def Pi (M M1 : Mm) (x k : Nat) (v : Int32) : Prop := Ex1 x M M1 ∧ mT M1 x = mT M x ∧ mR M1 x = mR M x ∧ mL M1 x = mL M x ∧ (∀ j, j ≠ k → mI M1 x j = mI M x j) ∧ mI M1 x k = v
theorem i_putI (C : Cl d q mc ms Post V) {x ci k j : Nat} {v : Int32} (hi : cdf q.2.2.2.2.2.2 pc = some (.putfield j, 3)) (hp : pc + 3 = pc2) (hf : P_fl q.2.2.2.2.1 j = some (ci, k)) (hx : mT M x = ci + 1) (hn : q.1.name = "<init>" ∧ q.2.2.2.2.1 = ci ∨ ((vwCl[ci]?).map (fun r => (r.2.1 k).2.2.2)) = some false) (hy : P_ty ci k = .int)
    (h : ∀ M1, Pi M M1 x k v → V pc2 lv r M1 ck sk) : V pc lv (.int v :: .ref x :: r) M ck sk :=
  k_putI C hi hp hf hx hn hy (h _ ⟨fun a _ hax => ag_sI hax, rfl, rfl, rfl, fun j hj => u2_k hj, u2_s⟩)
theorem iu_putI (C : Cl d q mc ms Post V) {x ci k j : Nat} {v : Int32} (hi : cdf q.2.2.2.2.2.2 pc = some (.putfield j, 3)) (hp : pc + 3 = pc2) (hf : P_fl q.2.2.2.2.1 j = some (ci, k)) (hx : mT M x = ci + 1) (hn : q.1.name = "<init>" ∧ q.2.2.2.2.1 = ci ∨ ((vwCl[ci]?).map (fun r => (r.2.1 k).2.2.2)) = some false) (hy : P_ty ci k = .int)
    (h : ∀ M1, Pi M M1 x k v → Ko M M1 → V pc2 lv r M1 ck sk) : V pc lv (.int v :: .ref x :: r) M ck sk :=
  k_putI C hi hp hf hx hn hy (h _ ⟨fun a _ hax => ag_sI hax, rfl, rfl, rfl, fun j hj => u2_k hj, u2_s⟩ Ko.iI)
/-- a new object -/
theorem i_new (C : Cl d q mc ms Post V) {j ci n ck2 sk2 : Nat} (hi : cdf q.2.2.2.2.2.2 pc = some (.new j, 3)) (hp : pc + 3 = pc2) (hn : P_nw q.2.2.2.2.1 j = some ci) (hz : P_sz ci = n) (e1 : ck + 1 = ck2) (e2 : sk + n = sk2) (h1 : ck2 ≤ mc) (h2 : sk2 ≤ ms)
    (h : ∀ b M1, mT M b = 0 → Ext M M1 → mT M1 b = ci + 1 → (∀ j, mI M1 b j = 0) → (∀ j, mL M1 b j = 0) → V pc2 lv (.ref b :: r) M1 ck2 sk2) : V pc lv r M ck sk := by
  subst e1; subst e2
  exact k_new C hi hp hn hz h1 h2 (fun b hb => h b _ hb (Ext.rf.new hb) T_new (fun j => I_new) (fun j => L_new))
theorem iu_new (C : Cl d q mc ms Post V) {j ci n ck2 sk2 : Nat} (hi : cdf q.2.2.2.2.2.2 pc = some (.new j, 3)) (hp : pc + 3 = pc2) (hn : P_nw q.2.2.2.2.1 j = some ci) (hz : P_sz ci = n) (e1 : ck + 1 = ck2) (e2 : sk + n = sk2) (h1 : ck2 ≤ mc) (h2 : sk2 ≤ ms)
    (h : ∀ b M1, mT M b = 0 → Ext M M1 → mT M1 b = ci + 1 → (∀ j, mI M1 b j = 0) → (∀ j, mL M1 b j = 0) → Ko M M1 ∧ (UP M → unr M1 b) → V pc2 lv (.ref b :: r) M1 ck2 sk2) : V pc lv r M ck sk := by
  subst e1; subst e2
  exact k_new C hi hp hn hz h1 h2 (fun b hb => h b _ hb (Ext.rf.new hb) T_new (fun j => I_new) (fun j => L_new) ⟨Ko.nw hb, fun u => unr.nw u hb⟩)
theorem i_call (C : Cl d q mc ms Post V) {j k na b : Nat} {as st9 : List Value} {mc' ms' ck2 sk2 : Nat} {Q : Mm → Prop} (hE : Ex d k (.ref b :: as) M mc' ms' (pC Q)) (hi : cdf q.2.2.2.2.2.2 pc = some (.invokespecial j, 3)) (hp : pc + 3 = pc2) (hm : P_mt q.2.2.2.2.1 j = some (2, k, na)) (hs : st9 = as.reverse ++ .ref b :: r) (hl : as.length = na) (hy : ∃ y, P_ml[k]? = some y ∧ y.2.2.2.2.2.1 = [] ∧ y.2.2.2.1 = none) (h1 : ck + mc' = ck2) (h2 : sk + ms' = sk2) (h3 : ck2 ≤ mc) (h4 : sk2 ≤ ms) (hc : (r.map fun v => v.category).sum ≤ 8) (h : ∀ M1, Q M1 → V pc2 lv r M1 ck2 sk2) : V pc lv st9 M ck sk := k_callI C hi hp hm hs hl hy hE h1 h2 h3 h4 hc (fun v M1 h9 => by obtain ⟨e1, e2⟩ := h9; cases e1; exact h M1 e2) (fun e M1 h9 => by cases h9.1)
theorem i_obj (C : Cl d q mc ms Post V) {j a : Nat} (hi : cdf q.2.2.2.2.2.2 pc = some (.invokespecial j, 3)) (hp : pc + 3 = pc2) (ho : P_oi q.2.2.2.2.1 j = true) (hc : (r.map fun v => v.category).sum ≤ 8) (h : V pc2 lv r M ck sk) : V pc lv (.ref a :: r) M ck sk := k_objinit C hi hp ho hc h
theorem i_getR (C : Cl d q mc ms Post V) {j a ci k b : Nat} (hi : cdf q.2.2.2.2.2.2 pc = some (.getfield j, 3)) (hp : pc + 3 = pc2) (hf : P_fl q.2.2.2.2.1 j = some (ci, k)) (ht : mT M a = ci + 1) (hk : kt (P_ty ci k) = 2) (hv : mR M a k = some b) (h : V pc2 lv (.ref b :: r) M ck sk) : V pc lv (.ref a :: r) M ck sk := k_get C hi hp hf ht (by rw [hk]; show va_rf (mR M a k) = _; rw [hv]; rfl) h
end Mk
theorem i_Form {d : Nat} {M : Mm} {f : Nat} (hT : mT M f = 3) (h0 : mI M f 0 = 0) : Ex (d + 1) 0 [.ref f] M 1 41 (pC fun M1 => Ko M M1 ∧ Ex1 f M M1 ∧ gF M1 f) := by
  refine ⟨_, rfl, Nat.le_of_ble_eq_true rfl, fun V C S => ?_⟩
  show V 0 [(0, .ref f)] [] M 0 0
  refine k_aload_n C rfl rfl rfl ?_
  refine i_obj C rfl rfl rfl (Nat.le_of_ble_eq_true rfl) ?_
  refine k_aload_n C rfl rfl rfl ?_
  refine k_bipush C (x := 41) rfl rfl rfl ?_
  refine iu_arr C (tt := 0) (n := 41) rfl rfl rfl (Or.inl ⟨rfl, rfl⟩) (by decide) (by decide) (Nat.le_of_ble_eq_true rfl) rfl rfl (Nat.le_of_ble_eq_true rfl) (Nat.le_of_ble_eq_true rfl) rfl hT ⟨rfl, rfl⟩ rfl (fun b M1 h hK => ?_)
  obtain ⟨e1, e2, e3, e4, e5, e6, e7, -⟩ := h
  exact k_vret C rfl rfl (Nat.le_of_ble_eq_true rfl) (Nat.le_of_ble_eq_true rfl) ⟨rfl, hK, e1, e2.trans hT, by rw [e3]; exact h0, b, e6, e7⟩
theorem i_row {d : Nat} {M : Mm} {n : Nat} (hn : n ≤ 100) : Ex (d + 2) 33 [.int (Int32.ofNat n)] M (1 + 2 * n) (44 * n) (fun o M1 => ∃ r, o = .inl (some (.ref r)) ∧ Ext M M1 ∧ gRow M1 r n ∧ mT M r = 0 ∧ Ko M M1 ∧ (UP M → unr M1 r)) := by
  refine ⟨_, rfl, Nat.le_of_ble_eq_true rfl, fun V C S => ?_⟩
  show V 0 [(0, .int (Int32.ofNat n))] [] M 0 0
  refine k_iload_n C rfl rfl rfl ?_
  refine k_if_ge C (t := 8) rfl rfl rfl (fun _ => ?_) (fun c => absurd (Int32.not_lt.mp (n_nn (by omega))) c)
  refine k_iload_n C rfl rfl rfl ?_
  refine k_anew C (tt := 3) (n := n) rfl rfl rfl (Or.inl ⟨rfl, rfl⟩) (n_nn (by omega)) (n_nat (by omega)) (by omega) (by omega) (by omega) (fun r hr => ?_)
  refine k_astore_n C (lw := [(1, _), (0, .int _)]) rfl rfl (Nat.le_of_ble_eq_true rfl) rfl ?_
  refine k_iconst C (x := 0) rfl rfl rfl ?_
  refine k_istore_n C (lw := [(2, .int _), (1, _), (0, .int _)]) rfl rfl (Nat.le_of_ble_eq_true rfl) rfl ?_
  have loop : ∀ (k i : Nat) (M1 : Mm), k = n - i → i ≤ n → Ext M M1 → Ko M M1 → (UP M → unr M1 r) → mT M1 r = 23 → mN M1 r = n → (∀ j, j < i → ∃ f, mR M1 r j = some f ∧ gF M1 f) → V 15 [(2, .int (Int32.ofNat i)), (1, .ref r), (0, .int (Int32.ofNat n))] [] M1 (0 + 1 + 2 * i) (0 + n + 43 * i) := by
    intro k
    induction k using Nat.strongRecOn with
    | _ k ih =>
      intro i M1 hk hin hE hK hU hT hN hf
      refine k_iload_n C rfl rfl rfl ?_
      refine k_aload_n C rfl rfl rfl ?_
      refine k_alen C rfl rfl (by rw [hT]; exact Nat.le_of_ble_eq_true rfl) ?_
      rw [hN]
      refine k_icmp_ge C (t := 37) rfl rfl rfl (fun c => ?_) (fun c => ?_)
      · have hi : i = n := Nat.le_antisymm hin ((n_le (by omega) (by omega)).mp c)
        refine k_aload_n C rfl rfl rfl ?_
        exact k_aret C (x := some _) rfl (Or.inr ⟨_, rfl⟩) (by omega) (by omega) ⟨r, rfl, hE, ⟨hT, hN, hi ▸ hf⟩, hr, hK, hU⟩
      · have hi : i < n := Nat.lt_of_not_le (fun h => c ((n_le (by omega) (by omega)).mpr h))
        refine k_aload_n C rfl rfl rfl ?_
        refine k_iload_n C rfl rfl rfl ?_
        refine iu_new C (n := 2) rfl rfl rfl rfl rfl rfl (by omega) (by omega) (fun f M2 hf0 hE2 hT2 hI2 _ fK => ?_)
        refine k_dup C rfl rfl rfl ?_
        refine i_call C (i_Form hT2 (hI2 0)) rfl rfl rfl rfl rfl ⟨_, rfl, rfl, rfl⟩ rfl rfl (by omega) (by omega) (Nat.le_of_ble_eq_true rfl) ?_
        intro M3 h3
        have hE3 : Ext M1 M3 := hE2.e1 h3.2.1 hf0
        have hT3 : mT M3 r = 23 := (hE3 r (by rw [hT]; decide)).1.trans hT
        have hN3 : mN M3 r = n := (hE3 r (by rw [hT]; decide)).2.1.trans hN
        refine k_aast C (t := 3) (ci := 2) rfl rfl hT3 h3.2.2.1 (Or.inl ⟨rfl, rfl⟩) (vin rfl (by rw [hN3]; exact hi) (by rw [hN3]; omega)) ?_
        rw [n_nat (by omega)]
        refine k_inc1 C (lw := [(2, .int _), (1, _), (0, .int _)]) rfl rfl rfl (Nat.le_of_ble_eq_true rfl) rfl ?_
        refine k_goto C (pc2 := 15) rfl rfl ?_
        rw [n_s, show 0 + 1 + 2 * i + 1 + 1 = 0 + 1 + 2 * (i + 1) by omega, show 0 + n + 43 * i + 2 + 41 = 0 + n + 43 * (i + 1) by omega]
        have gs : ∀ g, gF M3 g → gF (sR M3 r i (some f)) g := fun g hg => hg.go (fun a ha => ag_sR (fun e => by rw [e, hT3] at ha; omega))
        have hKs : Ko M1 (sR M3 r i (some f)) := Ko.obj fK.1 fK.2 hf0 (by rw [hT2]; decide) h3.1
        refine ih (n - (i + 1)) (by omega) (i + 1) _ rfl hi ((hE.tr hE3).sR hr) (hK.tr hKs) (fun u => (hKs (hK u).1).2.2 r (by rw [hT]; unfold trT; omega) (hU u)) hT3 hN3 (fun j hj => ?_)
        by_cases hji : j = i
        · subst hji; exact ⟨f, u2_s, gs f h3.2.2⟩
        · obtain ⟨g, g1, g2⟩ := hf j (by omega)
          refine ⟨g, (u2_k hji).trans ?_, gs g (g2.go (fun a ha => hE3 a (by omega)))⟩
          show mR M3 r j = some g
          rw [(hE3 r (by rw [hT]; decide)).2.2.2.2]; exact g1
  exact loop n 0 _ (by omega) (Nat.zero_le n) (Ext.rf.new hr) (Ko.nw hr) (fun u => unr.nw u hr) T_new N_new (fun j hj => absurd hj (Nat.not_lt_zero j))
