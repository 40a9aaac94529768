/-! what the constructors leave -/
def Ag (M M' : Mm) (a : Nat) : Prop := mT M' a = mT M a ∧ mN M' a = mN M a ∧ mI M' a = mI M a ∧ mL M' a = mL M a ∧ mR M' a = mR M a
theorem Ag.rf {M : Mm} {a : Nat} : Ag M M a := ⟨rfl, rfl, rfl, rfl, rfl⟩
theorem Ag.tr {M M1 M2 : Mm} {a : Nat} (h : Ag M M1 a) (g : Ag M1 M2 a) : Ag M M2 a := ⟨g.1.trans h.1, g.2.1.trans h.2.1, g.2.2.1.trans h.2.2.1, g.2.2.2.1.trans h.2.2.2.1, g.2.2.2.2.trans h.2.2.2.2⟩
/-- all that was there is as it was -/
def Ext (M M' : Mm) : Prop := ∀ a, mT M a ≠ 0 → Ag M M' a
/-- all but x -/
def Ex1 (x : Nat) (M M' : Mm) : Prop := ∀ a, mT M a ≠ 0 → a ≠ x → Ag M M' a
/-- all but what has tag t -/
def Stt (t : Nat) (M M' : Mm) : Prop := ∀ a, mT M a ≠ 0 → mT M a ≠ t → Ag M M' a
theorem Ext.rf {M : Mm} : Ext M M := fun _ _ => Ag.rf
theorem Ext.tr {M M1 M2 : Mm} (h : Ext M M1) (g : Ext M1 M2) : Ext M M2 := fun a ha => (h a ha).tr (g a (by rw [(h a ha).1]; exact ha))
theorem Ex1.rf {x : Nat} {M : Mm} : Ex1 x M M := fun _ _ _ => Ag.rf
theorem Ex1.tr {x : Nat} {M M1 M2 : Mm} (h : Ex1 x M M1) (g : Ex1 x M1 M2) : Ex1 x M M2 := fun a ha hx => (h a ha hx).tr (g a (by rw [(h a ha hx).1]; exact ha) hx)
theorem Ext.to1 {x : Nat} {M M1 : Mm} (h : Ext M M1) : Ex1 x M M1 := fun a ha _ => h a ha
theorem Ext.st {t : Nat} {M M1 : Mm} (h : Ext M M1) : Stt t M M1 := fun a ha _ => h a ha
theorem Ex1.st {x t : Nat} {M M1 : Mm} (h : Ex1 x M M1) (hx : mT M x = t) : Stt t M M1 := fun a ha ht => h a ha (fun e => ht (by rw [e]; exact hx))
theorem ag_new {M : Mm} {b t n a : Nat} (h : a ≠ b) : Ag M (sN M b t n) a := by
  refine ⟨?_, ?_, ?_, ?_, ?_⟩ <;> simp [sN, u1, h, mT, mN, mI, mL, mR]
theorem ag_sR {M : Mm} {b k a : Nat} {x : Option Nat} (h : a ≠ b) : Ag M (sR M b k x) a := ⟨rfl, rfl, rfl, rfl, u2_r h⟩
theorem ag_sI {M : Mm} {b k a : Nat} {x : Int32} (h : a ≠ b) : Ag M (sI M b k x) a := ⟨rfl, rfl, u2_r h, rfl, rfl⟩
theorem ne0 {M : Mm} {a b t : Nat} (ha : mT M a = t) (ht : t ≠ 0) (hb : mT M b = 0) : a ≠ b := fun e => ht (by rw [← ha, e, hb])
theorem Ext.new {M M1 : Mm} {b t n : Nat} (h : Ext M M1) (hb : mT M1 b = 0) : Ext M (sN M1 b t n) := fun a ha => (h a ha).tr (ag_new (fun e => ha (by rw [← (h a ha).1, e, hb])))
theorem Ext.e1 {M M1 M2 : Mm} {b : Nat} (h : Ext M M1) (g : Ex1 b M1 M2) (hb : mT M b = 0) : Ext M M2 := fun a ha => (h a ha).tr (g a (by rw [(h a ha).1]; exact ha) (fun e => ha (by rw [e, hb])))
theorem Ext.sR {M M1 : Mm} {r k : Nat} {x : Option Nat} (h : Ext M M1) (hr : mT M r = 0) : Ext M (sR M1 r k x) := fun a ha => (h a ha).tr (ag_sR (fun e => ha (by rw [e, hr])))
theorem Ext.sI {M M1 : Mm} {r k : Nat} {x : Int32} (h : Ext M M1) (hr : mT M r = 0) : Ext M (sI M1 r k x) := fun a ha => (h a ha).tr (ag_sI (fun e => ha (by rw [e, hr])))
theorem T_new {M : Mm} {b t n : Nat} : mT (sN M b t n) b = t := by simp [sN, u1, mT]
theorem N_new {M : Mm} {b t n : Nat} : mN (sN M b t n) b = n := by simp [sN, u1, mN]
theorem I_new {M : Mm} {b t n k : Nat} : mI (sN M b t n) b k = 0 := by simp [sN, u1, mI]
theorem L_new {M : Mm} {b t n k : Nat} : mL (sN M b t n) b k = 0 := by simp [sN, u1, mL]
theorem T_old {M : Mm} {a b t n : Nat} (h : a ≠ b) : mT (sN M b t n) a = mT M a := (ag_new h).1
def gArr (M : Mm) (b t n : Nat) : Prop := mT M b = t ∧ mN M b = n
def gF (M : Mm) (f : Nat) : Prop := mT M f = 3 ∧ mI M f 0 = 0 ∧ ∃ b, mR M f 1 = some b ∧ gArr M b 20 41
def gRow (M : Mm) (r n : Nat) : Prop := mT M r = 23 ∧ mN M r = n ∧ ∀ j, j < n → ∃ f, mR M r j = some f ∧ gF M f
def gSg (M : Mm) (s : Nat) : Prop := mT M s = 8 ∧ mI M s 2 = 0 ∧ (∃ a, mR M s 0 = some a ∧ gArr M a 20 160) ∧ ∃ b, mR M s 1 = some b ∧ gArr M b 20 160
def gTabs (M : Mm) (r n : Nat) : Prop := mT M r = 24 ∧ mN M r = n ∧ ∀ j, j < n → ∃ t, mR M r j = some t ∧ mT M t = 10
def gSgs (M : Mm) (r n : Nat) : Prop := mT M r = 25 ∧ mN M r = n ∧ ∀ j, j < n → ∃ s, mR M r j = some s ∧ gSg M s
theorem gArr.go {M M1 : Mm} {b t n : Nat} (h : gArr M b t n) (a : Ag M M1 b) : gArr M1 b t n := ⟨a.1.trans h.1, a.2.1.trans h.2⟩
theorem gArr.st {M M1 : Mm} {b t n u : Nat} (h : gArr M b t n) (a : Stt u M M1) (h0 : t ≠ 0) (hu : t ≠ u) : gArr M1 b t n := h.go (a b (by rw [h.1]; exact h0) (by rw [h.1]; exact hu))
theorem gF.go {M M1 : Mm} {f : Nat} (h : gF M f) (a : ∀ a, mT M a = 3 ∨ mT M a = 20 → Ag M M1 a) : gF M1 f := by
  obtain ⟨h1, h2, b, h3, h4⟩ := h
  have e := a f (Or.inl h1)
  exact ⟨e.1.trans h1, by rw [e.2.2.1]; exact h2, b, by rw [e.2.2.2.2]; exact h3, h4.go (a b (Or.inr h4.1))⟩
theorem gF.st {M M1 : Mm} {f u : Nat} (h : gF M f) (a : Stt u M M1) (hu : u ≠ 3 ∧ u ≠ 20) : gF M1 f := h.go (fun b hb => a b (by omega) (by omega))
theorem gRow.go {M M1 : Mm} {r n : Nat} (h : gRow M r n) (a : ∀ a, mT M a = 3 ∨ mT M a = 20 ∨ mT M a = 23 → Ag M M1 a) : gRow M1 r n := by
  obtain ⟨h1, h2, h3⟩ := h
  have e := a r (Or.inr (Or.inr h1))
  refine ⟨e.1.trans h1, e.2.1.trans h2, fun j hj => ?_⟩
  obtain ⟨f, f1, f2⟩ := h3 j hj
  exact ⟨f, by rw [e.2.2.2.2]; exact f1, f2.go (fun b hb => a b (by omega))⟩
theorem gRow.st {M M1 : Mm} {r n u : Nat} (h : gRow M r n) (a : Stt u M M1) (hu : u ≠ 3 ∧ u ≠ 20 ∧ u ≠ 23) : gRow M1 r n := h.go (fun b hb => a b (by omega) (by omega))
theorem gSg.go {M M1 : Mm} {s : Nat} (h : gSg M s) (a : ∀ a, mT M a = 8 ∨ mT M a = 20 → Ag M M1 a) : gSg M1 s := by
  obtain ⟨h1, h2, ⟨b, h3, h4⟩, c, h5, h6⟩ := h
  have e := a s (Or.inl h1)
  exact ⟨e.1.trans h1, by rw [e.2.2.1]; exact h2, ⟨b, by rw [e.2.2.2.2]; exact h3, h4.go (a b (Or.inr h4.1))⟩, c, by rw [e.2.2.2.2]; exact h5, h6.go (a c (Or.inr h6.1))⟩
theorem gSg.st {M M1 : Mm} {s u : Nat} (h : gSg M s) (a : Stt u M M1) (hu : u ≠ 8 ∧ u ≠ 20) : gSg M1 s := h.go (fun b hb => a b (by omega) (by omega))
theorem gTabs.go {M M1 : Mm} {r n : Nat} (h : gTabs M r n) (a : ∀ a, mT M a = 24 ∨ mT M a = 10 → Ag M M1 a) : gTabs M1 r n := by
  obtain ⟨h1, h2, h3⟩ := h
  have e := a r (Or.inl h1)
  refine ⟨e.1.trans h1, e.2.1.trans h2, fun j hj => ?_⟩
  obtain ⟨f, f1, f2⟩ := h3 j hj
  exact ⟨f, by rw [e.2.2.2.2]; exact f1, (a f (Or.inr f2)).1.trans f2⟩
theorem gTabs.st {M M1 : Mm} {r n u : Nat} (h : gTabs M r n) (a : Stt u M M1) (hu : u ≠ 24 ∧ u ≠ 10) : gTabs M1 r n := h.go (fun b hb => a b (by omega) (by omega))
theorem gSgs.go {M M1 : Mm} {r n : Nat} (h : gSgs M r n) (a : ∀ a, mT M a = 25 ∨ mT M a = 8 ∨ mT M a = 20 → Ag M M1 a) : gSgs M1 r n := by
  obtain ⟨h1, h2, h3⟩ := h
  have e := a r (Or.inl h1)
  refine ⟨e.1.trans h1, e.2.1.trans h2, fun j hj => ?_⟩
  obtain ⟨f, f1, f2⟩ := h3 j hj
  exact ⟨f, by rw [e.2.2.2.2]; exact f1, f2.go (fun b hb => a b (by omega))⟩
theorem gSgs.st {M M1 : Mm} {r n u : Nat} (h : gSgs M r n) (a : Stt u M M1) (hu : u ≠ 25 ∧ u ≠ 8 ∧ u ≠ 20) : gSgs M1 r n := h.go (fun b hb => a b (by omega) (by omega))
def pC (Q : Mm → Prop) : Po := fun o M => o = .inl none ∧ Q M
section Mk
variable {d : Nat} {q : mm_T} {mc ms : Nat} {Post : Po} {V : V_T} {pc pc2 : Nat} {lv : List (Nat × Value)} {r : List Value} {M : Mm} {ck sk : Nat}
/-- what the step 'x.k = a new array b' leaves -/
def Nw (M M1 : Mm) (x k b t n : Nat) : Prop := Ex1 x M M1 ∧ mT M1 x = mT M x ∧ mI M1 x = mI M x ∧ mL M1 x = mL M x ∧ (∀ j, j ≠ k → mR M1 x j = mR M x j) ∧ mR M1 x k = some b ∧ gArr M1 b t n ∧ (∀ j, mI M1 b j = 0) ∧ (∀ j, mL M1 b j = 0) ∧ mT M b = 0
theorem Nw.of {x k b t n : Nat} (hx : mT M x ≠ 0) (hb : mT M b = 0) (ht : t ≠ 0) : Nw M (sR (sN M b t n) x k (some b)) x k b t n := by
  have hne : x ≠ b := fun e => hx (by rw [e, hb])
  have e := ag_new (M := M) (t := t) (n := n) hne
  refine ⟨fun a ha hax => (ag_new (fun e => ha (by rw [e, hb]))).tr (ag_sR hax), e.1, e.2.2.1, e.2.2.2.1, fun j hj => (u2_k hj).trans (congrFun e.2.2.2.2 j), u2_s, ⟨T_new (n := n), N_new (t := t)⟩, fun j => I_new (t := t) (n := n), fun j => L_new (t := t) (n := n), hb⟩
theorem i_arr (C : Cl d q mc ms Post V) {t : ArrayType} {tt n x ci k j ck2 sk2 : Nat} {z : Int32} (hi : cdf q.2.2.2.2.2.2 pc = some (.newarray t, 2)) (hi2 : cdf q.2.2.2.2.2.2 (pc + 2) = some (.putfield j, 3)) (hp : pc + 5 = pc2) (ht : t = .int ∧ tt = 0 ∨ t = .long ∧ tt = 1 ∨ t = .byte ∧ tt = 2) (h0 : ¬ z < 0) (hn : z.toNatClampNeg = n) (hz : n ≤ 10000) (e1 : ck + 1 = ck2) (e2 : sk + n = sk2) (h1 : ck2 ≤ mc) (h2 : sk2 ≤ ms)
    (hf : P_fl q.2.2.2.2.1 j = some (ci, k)) (hx : mT M x = ci + 1) (hnm : q.1.name = "<init>" ∧ q.2.2.2.2.1 = ci) (hy : kt (P_ty ci k) = 2)
    (h : ∀ b M1, Nw M M1 x k b (20 + tt) n → V pc2 lv r M1 ck2 sk2) : V pc lv (.int z :: .ref x :: r) M ck sk := by
  subst e1; subst e2
  refine k_newarr C hi rfl ht h0 hn hz h1 h2 (fun b hb => ?_)
  refine k_putR C hi2 hp hf ((T_old (ne0 hx (by omega) hb)).trans hx) (Or.inl hnm) hy ?_
  exact h b _ (Nw.of (by rw [hx]; omega) hb (by omega))
theorem i_arrA (C : Cl d q mc ms Post V) {tt n x ci ca k j i9 ck2 sk2 : Nat} {z : Int32} (hi : cdf q.2.2.2.2.2.2 pc = some (.anewarray i9, 3)) (hi2 : cdf q.2.2.2.2.2.2 (pc + 3) = some (.putfield j, 3)) (hp : pc + 6 = pc2) (hn9 : P_nw q.2.2.2.2.1 i9 = some ca) (ht : tt = 3 ∧ ca = 2 ∨ tt = 4 ∧ ca = 9 ∨ tt = 5 ∧ ca = 7) (h0 : ¬ z < 0) (hn : z.toNatClampNeg = n) (hz : n ≤ 10000) (e1 : ck + 1 = ck2) (e2 : sk + n = sk2) (h1 : ck2 ≤ mc) (h2 : sk2 ≤ ms)
    (hf : P_fl q.2.2.2.2.1 j = some (ci, k)) (hx : mT M x = ci + 1) (hnm : q.1.name = "<init>" ∧ q.2.2.2.2.1 = ci) (hy : kt (P_ty ci k) = 2)
    (h : ∀ b M1, Nw M M1 x k b (20 + tt) n → V pc2 lv r M1 ck2 sk2) : V pc lv (.int z :: .ref x :: r) M ck sk := by
  subst e1; subst e2
  refine k_anew C hi rfl hn9 ht h0 hn hz h1 h2 (fun b hb => ?_)
  refine k_putR C hi2 hp hf ((T_old (ne0 hx (by omega) hb)).trans hx) (Or.inl hnm) hy ?_
  exact h b _ (Nw.of (by rw [hx]; omega) hb (by omega))
/-- x.k = an object that is there -/
def Pt (M M1 : Mm) (x k b : Nat) : Prop := Ex1 x M M1 ∧ mT M1 x = mT M x ∧ mI M1 x = mI M x ∧ mL M1 x = mL M x ∧ (∀ j, j ≠ k → mR M1 x j = mR M x j) ∧ mR M1 x k = some b
theorem i_put (C : Cl d q mc ms Post V) {x ci k j b : Nat} (hi : cdf q.2.2.2.2.2.2 pc = some (.putfield j, 3)) (hp : pc + 3 = pc2) (hf : P_fl q.2.2.2.2.1 j = some (ci, k)) (hx : mT M x = ci + 1) (hnm : q.1.name = "<init>" ∧ q.2.2.2.2.1 = ci) (hy : kt (P_ty ci k) = 2)
    (h : ∀ M1, Pt M M1 x k b → V pc2 lv r M1 ck sk) : V pc lv (.ref b :: .ref x :: r) M ck sk :=
  k_putR C hi hp hf hx (Or.inl hnm) hy (h _ ⟨fun a _ hax => ag_sR hax, rfl, rfl, rfl, fun j hj => u2_k hj, u2_s⟩)
def Pi (M M1 : Mm) (x k : Nat) (v : Int32) : Prop := Ex1 x M M1 ∧ mT M1 x = mT M x ∧ mR M1 x = mR M x ∧ mL M1 x = mL M x ∧ (∀ j, j ≠ k → mI M1 x j = mI M x j) ∧ mI M1 x k = v
theorem i_putI (C : Cl d q mc ms Post V) {x ci k j : Nat} {v : Int32} (hi : cdf q.2.2.2.2.2.2 pc = some (.putfield j, 3)) (hp : pc + 3 = pc2) (hf : P_fl q.2.2.2.2.1 j = some (ci, k)) (hx : mT M x = ci + 1) (hn : q.1.name = "<init>" ∧ q.2.2.2.2.1 = ci ∨ ((vwCl[ci]?).map (fun r => (r.2.1 k).2.2.2)) = some false) (hy : P_ty ci k = .int)
    (h : ∀ M1, Pi M M1 x k v → V pc2 lv r M1 ck sk) : V pc lv (.int v :: .ref x :: r) M ck sk :=
  k_putI C hi hp hf hx hn hy (h _ ⟨fun a _ hax => ag_sI hax, rfl, rfl, rfl, fun j hj => u2_k hj, u2_s⟩)
/-- a new object -/
theorem i_new (C : Cl d q mc ms Post V) {j ci n ck2 sk2 : Nat} (hi : cdf q.2.2.2.2.2.2 pc = some (.new j, 3)) (hp : pc + 3 = pc2) (hn : P_nw q.2.2.2.2.1 j = some ci) (hz : P_sz ci = n) (e1 : ck + 1 = ck2) (e2 : sk + n = sk2) (h1 : ck2 ≤ mc) (h2 : sk2 ≤ ms)
    (h : ∀ b M1, mT M b = 0 → Ext M M1 → mT M1 b = ci + 1 → (∀ j, mI M1 b j = 0) → (∀ j, mL M1 b j = 0) → V pc2 lv (.ref b :: r) M1 ck2 sk2) : V pc lv r M ck sk := by
  subst e1; subst e2
  exact k_new C hi hp hn hz h1 h2 (fun b hb => h b _ hb (Ext.rf.new hb) T_new (fun j => I_new) (fun j => L_new))
theorem i_call (C : Cl d q mc ms Post V) {j k na b : Nat} {as st9 : List Value} {mc' ms' ck2 sk2 : Nat} {Q : Mm → Prop} (hE : Ex d k (.ref b :: as) M mc' ms' (pC Q)) (hi : cdf q.2.2.2.2.2.2 pc = some (.invokespecial j, 3)) (hp : pc + 3 = pc2) (hm : P_mt q.2.2.2.2.1 j = some (2, k, na)) (hs : st9 = as.reverse ++ .ref b :: r) (hl : as.length = na) (hy : ∃ y, P_ml[k]? = some y ∧ y.2.2.2.2.2.1 = [] ∧ y.2.2.2.1 = none) (h1 : ck + mc' = ck2) (h2 : sk + ms' = sk2) (h3 : ck2 ≤ mc) (h4 : sk2 ≤ ms) (hc : (r.map fun v => v.category).sum ≤ 8) (h : ∀ M1, Q M1 → V pc2 lv r M1 ck2 sk2) : V pc lv st9 M ck sk := k_callI C hi hp hm hs hl hy hE h1 h2 h3 h4 hc (fun v M1 h9 => by obtain ⟨e1, e2⟩ := h9; cases e1; exact h M1 e2) (fun e M1 h9 => by cases h9.1)
theorem i_obj (C : Cl d q mc ms Post V) {j a : Nat} (hi : cdf q.2.2.2.2.2.2 pc = some (.invokespecial j, 3)) (hp : pc + 3 = pc2) (ho : P_oi q.2.2.2.2.1 j = true) (hc : (r.map fun v => v.category).sum ≤ 8) (h : V pc2 lv r M ck sk) : V pc lv (.ref a :: r) M ck sk := k_objinit C hi hp ho hc h
theorem i_getR (C : Cl d q mc ms Post V) {j a ci k b : Nat} (hi : cdf q.2.2.2.2.2.2 pc = some (.getfield j, 3)) (hp : pc + 3 = pc2) (hf : P_fl q.2.2.2.2.1 j = some (ci, k)) (ht : mT M a = ci + 1) (hk : kt (P_ty ci k) = 2) (hv : mR M a k = some b) (h : V pc2 lv (.ref b :: r) M ck sk) : V pc lv (.ref a :: r) M ck sk := k_get C hi hp hf ht (by rw [hk]; show va_rf (mR M a k) = _; rw [hv]; rfl) h
end Mk
theorem i_Form {d : Nat} {M : Mm} {f : Nat} (hT : mT M f = 3) (h0 : mI M f 0 = 0) : Ex (d + 1) 0 [.ref f] M 1 41 (pC fun M1 => Ex1 f M M1 ∧ gF M1 f) := by
  refine ⟨_, rfl, Nat.le_of_ble_eq_true rfl, fun V C S => ?_⟩
  show V 0 [(0, .ref f)] [] M 0 0
  refine k_aload_n C rfl rfl rfl ?_
  refine i_obj C rfl rfl rfl (Nat.le_of_ble_eq_true rfl) ?_
  refine k_aload_n C rfl rfl rfl ?_
  refine k_bipush C (x := 41) rfl rfl rfl ?_
  refine i_arr C (tt := 0) (n := 41) rfl rfl rfl (Or.inl ⟨rfl, rfl⟩) (by decide) (by decide) (Nat.le_of_ble_eq_true rfl) rfl rfl (Nat.le_of_ble_eq_true rfl) (Nat.le_of_ble_eq_true rfl) rfl hT ⟨rfl, rfl⟩ rfl (fun b M1 h => ?_)
  obtain ⟨e1, e2, e3, e4, e5, e6, e7, -⟩ := h
  exact k_vret C rfl rfl (Nat.le_of_ble_eq_true rfl) (Nat.le_of_ble_eq_true rfl) ⟨rfl, e1, e2.trans hT, by rw [e3]; exact h0, b, e6, e7⟩
theorem i_row {d : Nat} {M : Mm} {n : Nat} (hn : n ≤ 100) : Ex (d + 2) 33 [.int (Int32.ofNat n)] M (1 + 2 * n) (44 * n) (fun o M1 => ∃ r, o = .inl (some (.ref r)) ∧ Ext M M1 ∧ gRow M1 r n ∧ mT M r = 0) := by
  refine ⟨_, rfl, Nat.le_of_ble_eq_true rfl, fun V C S => ?_⟩
  show V 0 [(0, .int (Int32.ofNat n))] [] M 0 0
  refine k_iload_n C rfl rfl rfl ?_
  refine k_if_ge C (t := 8) rfl rfl rfl (fun _ => ?_) (fun c => absurd (Int32.not_lt.mp (n_nn (by omega))) c)
  refine k_iload_n C rfl rfl rfl ?_
  refine k_anew C (tt := 3) (n := n) rfl rfl rfl (Or.inl ⟨rfl, rfl⟩) (n_nn (by omega)) (n_nat (by omega)) (by omega) (by omega) (by omega) (fun r hr => ?_)
  refine k_astore_n C (lw := [(1, _), (0, .int _)]) rfl rfl (Nat.le_of_ble_eq_true rfl) rfl ?_
  refine k_iconst C (x := 0) rfl rfl rfl ?_
  refine k_istore_n C (lw := [(2, .int _), (1, _), (0, .int _)]) rfl rfl (Nat.le_of_ble_eq_true rfl) rfl ?_
  have loop : ∀ (k i : Nat) (M1 : Mm), k = n - i → i ≤ n → Ext M M1 → mT M1 r = 23 → mN M1 r = n → (∀ j, j < i → ∃ f, mR M1 r j = some f ∧ gF M1 f) → V 15 [(2, .int (Int32.ofNat i)), (1, .ref r), (0, .int (Int32.ofNat n))] [] M1 (0 + 1 + 2 * i) (0 + n + 43 * i) := by
    intro k
    induction k using Nat.strongRecOn with
    | _ k ih =>
      intro i M1 hk hin hE hT hN hf
      refine k_iload_n C rfl rfl rfl ?_
      refine k_aload_n C rfl rfl rfl ?_
      refine k_alen C rfl rfl (by rw [hT]; exact Nat.le_of_ble_eq_true rfl) ?_
      rw [hN]
      refine k_icmp_ge C (t := 37) rfl rfl rfl (fun c => ?_) (fun c => ?_)
      · have hi : i = n := Nat.le_antisymm hin ((n_le (by omega) (by omega)).mp c)
        refine k_aload_n C rfl rfl rfl ?_
        exact k_aret C (x := some _) rfl (Or.inr ⟨_, rfl⟩) (by omega) (by omega) ⟨r, rfl, hE, ⟨hT, hN, hi ▸ hf⟩, hr⟩
      · have hi : i < n := Nat.lt_of_not_le (fun h => c ((n_le (by omega) (by omega)).mpr h))
        refine k_aload_n C rfl rfl rfl ?_
        refine k_iload_n C rfl rfl rfl ?_
        refine i_new C (n := 2) rfl rfl rfl rfl rfl rfl (by omega) (by omega) (fun f M2 hf0 hE2 hT2 hI2 _ => ?_)
        refine k_dup C rfl rfl rfl ?_
        refine i_call C (i_Form hT2 (hI2 0)) rfl rfl rfl rfl rfl ⟨_, rfl, rfl, rfl⟩ rfl rfl (by omega) (by omega) (Nat.le_of_ble_eq_true rfl) ?_
        intro M3 h3
        have hE3 : Ext M1 M3 := hE2.e1 h3.1 hf0
        have hT3 : mT M3 r = 23 := (hE3 r (by rw [hT]; decide)).1.trans hT
        have hN3 : mN M3 r = n := (hE3 r (by rw [hT]; decide)).2.1.trans hN
        refine k_aast C (t := 3) (ci := 2) rfl rfl hT3 h3.2.1 (Or.inl ⟨rfl, rfl⟩) (vin rfl (by rw [hN3]; exact hi) (by rw [hN3]; omega)) ?_
        rw [n_nat (by omega)]
        refine k_inc1 C (lw := [(2, .int _), (1, _), (0, .int _)]) rfl rfl rfl (Nat.le_of_ble_eq_true rfl) rfl ?_
        refine k_goto C (pc2 := 15) rfl rfl ?_
        rw [n_s, show 0 + 1 + 2 * i + 1 + 1 = 0 + 1 + 2 * (i + 1) by omega, show 0 + n + 43 * i + 2 + 41 = 0 + n + 43 * (i + 1) by omega]
        have gs : ∀ g, gF M3 g → gF (sR M3 r i (some f)) g := fun g hg => hg.go (fun a ha => ag_sR (fun e => by rw [e, hT3] at ha; omega))
        refine ih (n - (i + 1)) (by omega) (i + 1) _ rfl hi ((hE.tr hE3).sR hr) hT3 hN3 (fun j hj => ?_)
        by_cases hji : j = i
        · subst hji; exact ⟨f, u2_s, gs f h3.2⟩
        · obtain ⟨g, g1, g2⟩ := hf j (by omega)
          refine ⟨g, (u2_k hji).trans ?_, gs g (g2.go (fun a ha => hE3 a (by omega)))⟩
          show mR M3 r j = some g
          rw [(hE3 r (by rw [hT]; decide)).2.2.2.2]; exact g1
  exact loop n 0 _ (by omega) (Nat.zero_le n) (Ext.rf.new hr) T_new N_new (fun j hj => absurd hj (Nat.not_lt_zero j))
