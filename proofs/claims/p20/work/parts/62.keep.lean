/-! what a question never changes: the states' forms, signs, the rows 'which', the tape's bytes; the class's objects with these set apart -/
def KF (T : Nat → Nat) (R : RT) (f : Nat) : Prop := T f = 3 ∧ ∃ row k, R row k = some f ∧ T row = 23 ∧ ∃ st c, R st c = some row ∧ T st = 9
def KS (T : Nat → Nat) (R : RT) (s : Nat) : Prop := T s = 8 ∧ ∃ row k, R row k = some s ∧ T row = 25
def KEEP (T : Nat → Nat) (R : RT) (a : Nat) : Prop := KF T R a ∨ KS T R a ∨ (T a = 20 ∧ ∃ c k, R c k = some a ∧ (KF T R c ∨ KS T R c ∨ T c = 9 ∨ T c = 5))
def BS (T : Nat → Nat) (R : RT) (A : Nat → Prop) (a : Nat) : Prop := A a ∧ ¬ KEEP T R a
theorem BS.sub {T : Nat → Nat} {R : RT} {A : Nat → Prop} : SUB (BS T R A) A := fun _ h => h.1
section Keep
variable {T N : Nat → Nat} {R : RT} {A : Nat → Prop}
theorem KEEP.n {a : Nat} (h3 : T a ≠ 3) (h8 : T a ≠ 8) (h20 : T a ≠ 20) : ¬ KEEP T R a := by
  rintro (h | h | h)
  · exact h3 h.1
  · exact h8 h.1
  · exact h20 h.1
theorem KEEP.a (hU : UPR T R) {a c k : Nat} (ha : T a = 20) (hR : R c k = some a) (hc : ¬ KEEP T R c) (h9 : T c ≠ 9) (h5 : T c ≠ 5) : ¬ KEEP T R a := by
  rintro (h | h | ⟨-, c', k', h1, h2⟩)
  · have := h.1; omega
  · have := h.1; omega
  · have e := (hU c k c' k' a (Or.inr (Or.inr (Or.inr (by omega)))) hR h1).1
    subst e
    rcases h2 with h2 | h2 | h2 | h2
    · exact hc (Or.inl h2)
    · exact hc (Or.inr (Or.inl h2))
    · exact h9 h2
    · exact h5 h2
theorem KEEP.g (hU : UPR T R) {f c k : Nat} (hf : T f = 3) (hR : R c k = some f) (hc : T c ≠ 23) : ¬ KEEP T R f := by
  rintro (⟨-, row, k', h1, h2, -⟩ | h | h)
  · have e := (hU c k row k' f (Or.inl hf) hR h1).1
    subst e; exact hc h2
  · have := h.1; omega
  · have := h.1; omega
theorem KEEP.r (hU : UPR T R) {f row k c j : Nat} (hf : T f = 3) (hR : R row k = some f) (ht : T row = 23) (hc : R c j = some row) (h9 : T c ≠ 9) : ¬ KEEP T R f := by
  rintro (⟨-, row', k', h1, -, st, c', h3, h4⟩ | h | h)
  · have e := (hU row k row' k' f (Or.inl hf) hR h1).1
    subst e
    have e := (hU c j st c' row (Or.inr (Or.inr (Or.inr (by omega)))) hc h3).1
    subst e; exact h9 h4
  · have := h.1; omega
  · have := h.1; omega
theorem KEEP.s (hU : UPR T R) {s c k : Nat} (hs : T s = 8) (hR : R c k = some s) (hc : T c ≠ 25) : ¬ KEEP T R s := by
  rintro (h | ⟨-, row, k', h1, h2⟩ | h)
  · have := h.1; omega
  · have e := (hU c k row k' s (Or.inr (Or.inl hs)) hR h1).1
    subst e; exact hc h2
  · have := h.1; omega
theorem bs_A (hU : UPR T R) {r f n : Nat} (hr : ¬ KEEP T R r) (h9 : T r ≠ 9) (h5 : T r ≠ 5) (h : ∃ b, R r f = some b ∧ (h_A T N A 20 n) b) : ∃ b, R r f = some b ∧ (h_A T N (BS T R A) 20 n) b := by
  obtain ⟨b, h1, h2, h3, h4⟩ := h
  exact ⟨b, h1, h2, h3, h4, KEEP.a hU h2 h1 hr h9 h5⟩
theorem bs_L {r f n : Nat} (h : ∃ b, R r f = some b ∧ (h_A T N A 21 n) b) : ∃ b, R r f = some b ∧ (h_A T N (BS T R A) 21 n) b := by
  obtain ⟨b, h1, h2, h3, h4⟩ := h
  exact ⟨b, h1, h2, h3, h4, KEEP.n (by omega) (by omega) (by omega)⟩
theorem bs_G (hU : UPR T R) {f : Nat} (hn : ¬ KEEP T R f) (h : h_F T N R A f) : hs_G T N R A (BS T R A) f := by
  obtain ⟨h1, h2, h3⟩ := h
  exact ⟨h1, h2, ⟨h2, hn⟩, bs_A hU hn (by omega) (by omega) h3⟩
theorem bs_G1 (hU : UPR T R) {r f : Nat} (hr : T r ≠ 23) (h : ∃ b, R r f = some b ∧ h_F T N R A b) : ∃ b, R r f = some b ∧ hs_G T N R A (BS T R A) b := by
  obtain ⟨b, h1, h2⟩ := h
  exact ⟨b, h1, bs_G hU (KEEP.g hU h2.1 h1 hr) h2⟩
theorem bs_Su (hU : UPR T R) {s : Nat} (hn : ¬ KEEP T R s) (h : h_Sg T N R A s) : hs_Su T N R A (BS T R A) s := by
  obtain ⟨h1, h2, h3, h4⟩ := h
  exact ⟨h1, h2, ⟨h2, hn⟩, bs_A hU hn (by omega) (by omega) h3, bs_A hU hn (by omega) (by omega) h4⟩
theorem bs_o {a : Nat} (hA : A a) (h3 : T a ≠ 3) (h8 : T a ≠ 8) (h20 : T a ≠ 20) : BS T R A a := ⟨hA, KEEP.n h3 h8 h20⟩
theorem bs_St {st : Nat} (h : h_St T N R A st) : hs_St T N R A (BS T R A) st := by
  obtain ⟨h1, h2, h3, h4, h5, ⟨b, b1, b2, b3, b4, b5⟩, h7⟩ := h
  refine ⟨h1, h2, bs_o h2 (by omega) (by omega) (by omega), h3, h4, h5, ⟨b, b1, b2, b3, b4, fun j hj => ?_⟩, h7⟩
  obtain ⟨t, t1, t2, t3⟩ := b5 j hj
  exact ⟨t, t1, t2, t3, bs_o t3 (by omega) (by omega) (by omega)⟩
theorem bs_St1 {r f : Nat} (h : ∃ b, R r f = some b ∧ h_St T N R A b) : ∃ b, R r f = some b ∧ hs_St T N R A (BS T R A) b := by
  obtain ⟨b, h1, h2⟩ := h
  exact ⟨b, h1, bs_St h2⟩
theorem bs_Rd (hU : UPR T R) {r : Nat} (h : h_Rd T N R A r) : hs_Rd T N R A (BS T R A) r := by
  obtain ⟨h1, h2, ⟨s, s1, s2⟩, h4⟩ := h
  exact ⟨h1, h2, bs_o h2 (by omega) (by omega) (by omega), ⟨s, s1, bs_Su hU (KEEP.s hU s2.1 s1 (by omega)) s2⟩, h4⟩
theorem bs_Al (hU : UPR T R) {r : Nat} (h : h_Al T N R A r) : hs_Al T N R A (BS T R A) r := by
  obtain ⟨h1, h2, h3, h4, h5⟩ := h
  exact ⟨h1, h2, bs_o h2 (by omega) (by omega) (by omega), bs_St1 h3, bs_G1 hU (by omega) h4, bs_G1 hU (by omega) h5⟩
theorem bs_Al1 (hU : UPR T R) {r f : Nat} (h : ∃ b, R r f = some b ∧ h_Al T N R A b) : ∃ b, R r f = some b ∧ hs_Al T N R A (BS T R A) b := by
  obtain ⟨b, h1, h2⟩ := h
  exact ⟨b, h1, bs_Al hU h2⟩
theorem bs_Row20 (hU : UPR T R) {c k : Nat} (h9 : T c ≠ 9) (h : ∃ b, R c k = some b ∧ h_Row20 T N R A b) : ∃ b, R c k = some b ∧ hs_Row20 T N R A (BS T R A) b := by
  obtain ⟨b, h1, h2, h3, h4, h5⟩ := h
  refine ⟨b, h1, h2, h3, h4, fun j hj => ?_⟩
  obtain ⟨f, f1, f2⟩ := h5 j hj
  exact ⟨f, f1, bs_G hU (KEEP.r hU f2.1 f1 h2 h1 h9) f2⟩
theorem bs_Row12 (hU : UPR T R) {c k : Nat} (h9 : T c ≠ 9) (h : ∃ b, R c k = some b ∧ h_Row12 T N R A b) : ∃ b, R c k = some b ∧ hs_Row12 T N R A (BS T R A) b := by
  obtain ⟨b, h1, h2, h3, h4, h5⟩ := h
  refine ⟨b, h1, h2, h3, h4, fun j hj => ?_⟩
  obtain ⟨f, f1, f2⟩ := h5 j hj
  exact ⟨f, f1, bs_G hU (KEEP.r hU f2.1 f1 h2 h1 h9) f2⟩
theorem bs_Held (hU : UPR T R) {c k : Nat} (h : ∃ b, R c k = some b ∧ h_Held T N R A b) : ∃ b, R c k = some b ∧ hs_Held T N R A (BS T R A) b := by
  obtain ⟨b, h1, h2, h3, h4, h5⟩ := h
  exact ⟨b, h1, h2, h3, h4, fun j hj => bs_A hU (KEEP.n (by omega) (by omega) (by omega)) (by omega) (by omega) (h5 j hj)⟩
theorem bs_Cc (hU : UPR T R) {r : Nat} (h : h_Cc T N R A r) : hs_Cc T N R A (BS T R A) r := by
  obtain ⟨h1, h2, h3, h4, h5, h6, h7⟩ := h
  exact ⟨h1, h2, bs_o h2 (by omega) (by omega) (by omega), bs_Al1 hU h3, bs_Row20 hU (by omega) h4, bs_A hU (KEEP.n (by omega) (by omega) (by omega)) (by omega) (by omega) h5, bs_G1 hU (by omega) h6, bs_G1 hU (by omega) h7⟩
theorem bs_Cc1 (hU : UPR T R) {r f : Nat} (h : ∃ b, R r f = some b ∧ h_Cc T N R A b) : ∃ b, R r f = some b ∧ hs_Cc T N R A (BS T R A) b := by
  obtain ⟨b, h1, h2⟩ := h
  exact ⟨b, h1, bs_Cc hU h2⟩
theorem bs_Rw (hU : UPR T R) {r : Nat} (h : h_Rw T N R A r) : hs_Rw T N R A (BS T R A) r := by
  obtain ⟨h1, h2, h3, h4, h5, h6, h7, h8⟩ := h
  have n : ¬ KEEP T R r := KEEP.n (by omega) (by omega) (by omega)
  exact ⟨h1, h2, ⟨h2, n⟩, bs_Al1 hU h3, bs_Cc1 hU h4, bs_Row12 hU (by omega) h5, bs_Held hU h6, bs_A hU n (by omega) (by omega) h7, bs_L h8⟩
theorem bs_Se (hU : UPR T R) {r : Nat} (h : h_Se T N R A r) : hs_Se T N R A (BS T R A) r := by
  obtain ⟨h1, h2, h3, h4, h5, h6, h7⟩ := h
  have n : ¬ KEEP T R r := KEEP.n (by omega) (by omega) (by omega)
  exact ⟨h1, h2, ⟨h2, n⟩, bs_Al1 hU h3, bs_A hU n (by omega) (by omega) h4, bs_A hU n (by omega) (by omega) h5, bs_A hU n (by omega) (by omega) h6, bs_A hU n (by omega) (by omega) h7⟩
theorem bs_Po (hU : UPR T R) {r : Nat} (h : h_Po T N R A r) : hs_Po T N R A (BS T R A) r := by
  obtain ⟨h1, h2, h3, h4, h5, h6, h7⟩ := h
  have n : ¬ KEEP T R r := KEEP.n (by omega) (by omega) (by omega)
  exact ⟨h1, h2, ⟨h2, n⟩, bs_Al1 hU h3, bs_A hU n (by omega) (by omega) h4, bs_A hU n (by omega) (by omega) h5, bs_A hU n (by omega) (by omega) h6, bs_A hU n (by omega) (by omega) h7⟩
theorem bs_LF (hU : UPR T R) {r : Nat} (h : h_LF T N R A r) : hs_LF T N R A (BS T R A) r := by
  obtain ⟨h1, h2, ⟨rd, rd1, rd2⟩, h4, h5, h6, h7, ⟨rw9, rw1, rw2⟩, ⟨se, se1, se2⟩, ⟨po, po1, po2⟩, ⟨wh, wh1, wh2⟩, h12, h13, h14⟩ := h
  exact ⟨h1, h2, bs_o h2 (by omega) (by omega) (by omega), ⟨rd, rd1, bs_Rd hU rd2⟩, bs_St1 h4, bs_St1 h5, bs_Al1 hU h6, bs_Cc1 hU h7, ⟨rw9, rw1, bs_Rw hU rw2⟩, ⟨se, se1, bs_Se hU se2⟩, ⟨po, po1, bs_Po hU po2⟩, ⟨wh, wh1, wh2.1, wh2.2, bs_o wh2.2 (by have := wh2.1; omega) (by have := wh2.1; omega) (by have := wh2.1; omega)⟩, bs_G1 hU (by omega) h12, bs_G1 hU (by omega) h13, bs_G1 hU (by omega) h14⟩
/-- what is set apart is kept -/
theorem KEEP.fa {st j : Nat} (hG : GS T R st) (hj : j < 16) : KF T R (FA R st j) := by
  obtain ⟨h1, h2⟩ := hG.2.2.2.2.2.2.1 j hj
  exact ⟨h2.1, _, j, h1, hG.2.2.2.1.2, st, 8, hG.2.2.2.1.1, hG.1⟩
theorem KEEP.oa {st j : Nat} (hG : GS T R st) (hj : j < 40) : KF T R (OA R st j) := by
  obtain ⟨h1, h2⟩ := hG.2.2.2.2.2.1 j hj
  exact ⟨h2.1, _, j, h1, hG.2.2.1.2, st, 7, hG.2.2.1.1, hG.1⟩
theorem KEEP.f {f : Nat} (h : KF T R f) : KEEP T R f := Or.inl h
theorem KEEP.fb {f : Nat} (h : KF T R f) (ho : FO T R f) : KEEP T R (rA R f 1) := Or.inr (Or.inr ⟨ho.2.2, f, 1, ho.2.1, Or.inl h⟩)
theorem KEEP.wh {st : Nat} (hG : GS T R st) : KEEP T R (WH R st) := Or.inr (Or.inr ⟨hG.2.1.2, st, 6, hG.2.1.1, Or.inr (Or.inr (Or.inl hG.1))⟩)
theorem KEEP.tp {rd cb : Nat} (hr : T rd = 5) (hc : R rd 2 = some cb) (h : T cb = 20) : KEEP T R cb := Or.inr (Or.inr ⟨h, rd, 2, hc, Or.inr (Or.inr (Or.inr hr))⟩)
theorem KEEP.sa {st j : Nat} (hg : GG T R st) (hj : j < 8) : KS T R (SA R st j) := by
  obtain ⟨h1, h2, -⟩ := hg.2.2 j hj
  exact ⟨h2, _, j, h1, hg.2.1⟩
theorem KEEP.s0 {st j : Nat} (hg : GG T R st) (hj : j < 8) : KEEP T R (rA R (SA R st j) 0) := by
  obtain ⟨h1, h2, h3, h4⟩ := hg.2.2 j hj
  exact Or.inr (Or.inr ⟨h3.2, _, 0, h3.1, Or.inr (Or.inl (KEEP.sa hg hj))⟩)
theorem KEEP.s1 {st j : Nat} (hg : GG T R st) (hj : j < 8) : KEEP T R (rA R (SA R st j) 1) := by
  obtain ⟨h1, h2, h3, h4⟩ := hg.2.2 j hj
  exact Or.inr (Or.inr ⟨h4.2, _, 1, h4.1, Or.inr (Or.inl (KEEP.sa hg hj))⟩)
end Keep
