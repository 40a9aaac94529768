/-! the class: what is told, exactly -/
theorem callc_mono {E : E_T} {q : mm_T} {mc ms : Nat} {P P' : Po} {V : V_T} {pc : Nat} {lv : List (Nat × Value)} {r : List Value} {M : Mm} {ck sk k : Nat} {as : List Value} (hP : ∀ o M, P o M → P' o M) (h : callc E q mc ms P V pc lv r M ck sk k as) : callc E q mc ms P' V pc lv r M ck sk k as := by
  obtain ⟨mc', ms', Q, h1, h2, h3, h4, h5, h6⟩ := h
  exact ⟨mc', ms', Q, h1, h2, h3, h4, h5, fun e M' he => ⟨(h6 e M' he).1, (h6 e M' he).2.imp (fun z => ⟨z.1, hP _ _ z.2⟩) (fun z => z)⟩⟩
theorem sti6_mono {E : E_T} {q : mm_T} {mc ms : Nat} {P P' : Po} {V : V_T} {pc : Nat} {lv : List (Nat × Value)} {st : List Value} {M : Mm} {ck sk : Nat} {i : Instr} {n : Nat} (hP : ∀ o M, P o M → P' o M) (h : sti6 E q mc ms P V pc lv st M ck sk i n) : sti6 E q mc ms P' V pc lv st M ck sk i n := by
  unfold sti6 at h ⊢
  rcases h with h | h | h | h | h | h | h | h | h | h
  · exact Or.inl h
  · exact Or.inr (Or.inl h)
  · exact Or.inr (Or.inr (Or.inl h))
  · exact Or.inr (Or.inr (Or.inr (Or.inl h)))
  · refine Or.inr (Or.inr (Or.inr (Or.inr (Or.inl ?_))))
    obtain ⟨j, h1, h2, h3⟩ := h
    refine ⟨j, h1, h2, h3.imp (fun z => ?_) (fun z => z)⟩
    obtain ⟨ic, e, a1, a2, a3, a4, a5, a6, a7, a8, a9⟩ := z
    exact ⟨ic, e, a1, a2, a3, a4, a5, a6, a7, a8, hP _ _ a9⟩
  · exact Or.inr (Or.inr (Or.inr (Or.inr (Or.inr (Or.inl h)))))
  · exact Or.inr (Or.inr (Or.inr (Or.inr (Or.inr (Or.inr (Or.inl h))))))
  · refine Or.inr (Or.inr (Or.inr (Or.inr (Or.inr (Or.inr (Or.inr (Or.inl ?_)))))))
    obtain ⟨j, h1, h2, k, na, as, b, r, a1, a2, a3, a4, a5⟩ := h
    exact ⟨j, h1, h2, k, na, as, b, r, a1, a2, a3, a4, callc_mono hP a5⟩
  · refine Or.inr (Or.inr (Or.inr (Or.inr (Or.inr (Or.inr (Or.inr (Or.inr (Or.inl ?_))))))))
    obtain ⟨j, h1, h2, k, na, as, r, a1, a2, a3, a5⟩ := h
    exact ⟨j, h1, h2, k, na, as, r, a1, a2, a3, callc_mono hP a5⟩
  · refine Or.inr (Or.inr (Or.inr (Or.inr (Or.inr (Or.inr (Or.inr (Or.inr (Or.inr ?_))))))))
    obtain ⟨j, h1, h2, h3⟩ := h
    refine ⟨j, h1, h2, h3.imp (fun z => z) (fun z => ?_)⟩
    obtain ⟨k, na, as, b, r, a1, a2, a3, a4, a5⟩ := z
    exact ⟨k, na, as, b, r, a1, a2, a3, a4, callc_mono hP a5⟩
theorem sti7_mono {E : E_T} {q : mm_T} {mc ms : Nat} {P P' : Po} {V : V_T} {pc : Nat} {lv : List (Nat × Value)} {st : List Value} {M : Mm} {ck sk : Nat} {i : Instr} {n : Nat} (hP : ∀ o M, P o M → P' o M) (h : sti7 E q mc ms P V pc lv st M ck sk i n) : sti7 E q mc ms P' V pc lv st M ck sk i n := by
  unfold sti7 at h ⊢
  rcases h with ⟨h1, h2, x, a1, a2, a3, a4, a5⟩ | ⟨h1, h2, x, a1, a2, a3, a4, a5⟩ | ⟨h1, h2, x, a1, a2, a3, a4, a5⟩ | ⟨h1, h2, a1, a2, a3, a4, a5⟩
  · exact Or.inl ⟨h1, h2, x, a1, a2, a3, a4, hP _ _ a5⟩
  · exact Or.inr (Or.inl ⟨h1, h2, x, a1, a2, a3, a4, hP _ _ a5⟩)
  · exact Or.inr (Or.inr (Or.inl ⟨h1, h2, x, a1, a2, a3, a4, hP _ _ a5⟩))
  · exact Or.inr (Or.inr (Or.inr ⟨h1, h2, a1, a2, a3, a4, hP _ _ a5⟩))
theorem sti8_mono {E : E_T} {q : mm_T} {mc ms : Nat} {P P' : Po} {V : V_T} {pc : Nat} {lv : List (Nat × Value)} {st : List Value} {M : Mm} {ck sk : Nat} {i : Instr} {n : Nat} (hP : ∀ o M, P o M → P' o M) (h : sti8 E q mc ms P V pc lv st M ck sk i n) : sti8 E q mc ms P' V pc lv st M ck sk i n := by
  unfold sti8 at h ⊢
  rcases h with h | ⟨j, h1, h2, k, b, r, a1, a2, a3⟩
  · exact Or.inl h
  · exact Or.inr ⟨j, h1, h2, k, b, r, a1, a2, callc_mono hP a3⟩
theorem stp_mono {E : E_T} {q : mm_T} {mc ms : Nat} {P P' : Po} {V : V_T} {pc : Nat} {lv : List (Nat × Value)} {st : List Value} {M : Mm} {ck sk : Nat} (hP : ∀ o M, P o M → P' o M) (h : stp E q mc ms P V pc lv st M ck sk) : stp E q mc ms P' V pc lv st M ck sk := by
  obtain ⟨i, n, hc, h⟩ := h
  refine ⟨i, n, hc, ?_⟩
  rcases h with h | h | h | h | h | h | h | h | h
  · exact Or.inl h
  · exact Or.inr (Or.inl h)
  · exact Or.inr (Or.inr (Or.inl h))
  · exact Or.inr (Or.inr (Or.inr (Or.inl h)))
  · exact Or.inr (Or.inr (Or.inr (Or.inr (Or.inl h))))
  · exact Or.inr (Or.inr (Or.inr (Or.inr (Or.inr (Or.inl h)))))
  · exact Or.inr (Or.inr (Or.inr (Or.inr (Or.inr (Or.inr (Or.inl (sti6_mono hP h)))))))
  · exact Or.inr (Or.inr (Or.inr (Or.inr (Or.inr (Or.inr (Or.inr (Or.inl (sti7_mono hP h))))))))
  · exact Or.inr (Or.inr (Or.inr (Or.inr (Or.inr (Or.inr (Or.inr (Or.inr (sti8_mono hP h))))))))
/-- a weaker end is reached too -/
theorem Ex_mono {d k : Nat} {as : List Value} {M : Mm} {mc ms : Nat} {P P' : Po} (hP : ∀ o M, P o M → P' o M) (h : Ex d k as M mc ms P) : Ex d k as M mc ms P' := by
  cases d with
  | zero => exact h
  | succ d =>
    obtain ⟨q, h1, h2, h3⟩ := h
    exact ⟨q, h1, h2, fun V C S => h3 V (fun pc lv st M ck sk hs => C pc lv st M ck sk (stp_mono hP hs)) S⟩
def pW2 (X : List Nat) (T N : Nat → Nat) (R : RT) (P1 : Po) (QX : Nat → IT → LT → Prop) : Po := fun o M => P1 o M ∨ ∃ e I L, e ∈ X ∧ o = .inr e ∧ M = (T, N, I, L, R) ∧ QX e I L
theorem Chg.o {A : Nat → Prop} {T : Nat → Nat} {W : List (Nat × Nat)} {I I' : IT} {L L' : LT} (h : Chg A T W I L I' L') {a t : Nat} (ht : T a = t) (h20 : t < 20) (hn : ∀ k, (t, k) ∉ W) : I' a = I a := funext fun k => h.2 a k (by rw [ht]; exact h20) (by rw [ht]; exact hn k)
section Auto2
variable {d : Nat} {q : mm_T} {mc ms : Nat} {Post : Po} {V : V_T} {pc pc2 : Nat} {lv : List (Nat × Value)} {r : List Value} {ck sk : Nat} {T N : Nat → Nat} {I : IT} {L : LT} {R : RT}
theorem w2_VI (C : Cl d q mc ms Post V) {j k na : Nat} {b : Nat} {as st9 : List Value} {mc' ms' ck2 sk2 : Nat} {X : List Nat} {Q : Int32 → IT → LT → Prop} {QX : Nat → IT → LT → Prop} (hE : Ex d k (.ref b :: as) (T, N, I, L, R) mc' ms' (pW2 X T N R (pI T N R Q) QX)) (hi : cdf q.2.2.2.2.2.2 pc = some (.invokevirtual j, 3)) (hp : pc + 3 = pc2) (hm : P_mt q.2.2.2.2.1 j = some (0, k, na)) (hs : st9 = as.reverse ++ .ref b :: r) (hl : as.length = na) (hy : ∃ y, P_ml[k]? = some y ∧ y.2.2.2.2.2.1 = [] ∧ T b = y.2.2.2.2.1 + 1 ∧ y.2.2.2.2.1 < 13) (h1 : ck + mc' = ck2) (h2 : sk + ms' = sk2) (h3 : ck2 ≤ mc) (h4 : sk2 ≤ ms) (hc : (r.map fun v => v.category).sum ≤ 8) (h5 : ∀ e ∈ X, e < 5) (hx : ∀ e ∈ X, ∀ I1 L1, QX e I1 L1 → ((q.2.2.2.2.2.1 = [] ∧ Post (.inr e) (T, N, I1, L1, R)) ∨ ∃ ph, hnd q pc e = some ph ∧ ∀ z, V ph lv [.ref z] (T, N, I1, L1, R) ck2 sk2)) (h : ∀ x I1 L1, Q x I1 L1 → V pc2 lv (.int x :: r) (T, N, I1, L1, R) ck2 sk2) : V pc lv st9 (T, N, I, L, R) ck sk := k_callV C hi hp hm hs hl hy hE h1 h2 h3 h4 hc (fun v M1 h9 => by rcases h9 with h9 | ⟨e, I1, L1, e1, e2, e3, e4⟩; (· obtain ⟨x, I1, L1, e1, e2, e3⟩ := h9; cases e1; subst e2; exact h x I1 L1 e3); (· cases e2)) (fun e M1 h9 => by rcases h9 with h9 | ⟨e0, I1, L1, e1, e2, e3, e4⟩; (· obtain ⟨x, I1, L1, e1, e2, e3⟩ := h9; cases e1); (· cases e2; subst e3; exact ⟨h5 _ e1, hx _ e1 I1 L1 e4⟩))
theorem w2_VL (C : Cl d q mc ms Post V) {j k na : Nat} {b : Nat} {as st9 : List Value} {mc' ms' ck2 sk2 : Nat} {X : List Nat} {Q : Int64 → IT → LT → Prop} {QX : Nat → IT → LT → Prop} (hE : Ex d k (.ref b :: as) (T, N, I, L, R) mc' ms' (pW2 X T N R (pL T N R Q) QX)) (hi : cdf q.2.2.2.2.2.2 pc = some (.invokevirtual j, 3)) (hp : pc + 3 = pc2) (hm : P_mt q.2.2.2.2.1 j = some (0, k, na)) (hs : st9 = as.reverse ++ .ref b :: r) (hl : as.length = na) (hy : ∃ y, P_ml[k]? = some y ∧ y.2.2.2.2.2.1 = [] ∧ T b = y.2.2.2.2.1 + 1 ∧ y.2.2.2.2.1 < 13) (h1 : ck + mc' = ck2) (h2 : sk + ms' = sk2) (h3 : ck2 ≤ mc) (h4 : sk2 ≤ ms) (hc : (r.map fun v => v.category).sum ≤ 8) (h5 : ∀ e ∈ X, e < 5) (hx : ∀ e ∈ X, ∀ I1 L1, QX e I1 L1 → ((q.2.2.2.2.2.1 = [] ∧ Post (.inr e) (T, N, I1, L1, R)) ∨ ∃ ph, hnd q pc e = some ph ∧ ∀ z, V ph lv [.ref z] (T, N, I1, L1, R) ck2 sk2)) (h : ∀ x I1 L1, Q x I1 L1 → V pc2 lv (.long x :: r) (T, N, I1, L1, R) ck2 sk2) : V pc lv st9 (T, N, I, L, R) ck sk := k_callV C hi hp hm hs hl hy hE h1 h2 h3 h4 hc (fun v M1 h9 => by rcases h9 with h9 | ⟨e, I1, L1, e1, e2, e3, e4⟩; (· obtain ⟨x, I1, L1, e1, e2, e3⟩ := h9; cases e1; subst e2; exact h x I1 L1 e3); (· cases e2)) (fun e M1 h9 => by rcases h9 with h9 | ⟨e0, I1, L1, e1, e2, e3, e4⟩; (· obtain ⟨x, I1, L1, e1, e2, e3⟩ := h9; cases e1); (· cases e2; subst e3; exact ⟨h5 _ e1, hx _ e1 I1 L1 e4⟩))
theorem w2_VR (C : Cl d q mc ms Post V) {j k na : Nat} {b : Nat} {as st9 : List Value} {mc' ms' ck2 sk2 : Nat} {X : List Nat} {Q : Option Nat → IT → LT → Prop} {QX : Nat → IT → LT → Prop} (hE : Ex d k (.ref b :: as) (T, N, I, L, R) mc' ms' (pW2 X T N R (pR T N R Q) QX)) (hi : cdf q.2.2.2.2.2.2 pc = some (.invokevirtual j, 3)) (hp : pc + 3 = pc2) (hm : P_mt q.2.2.2.2.1 j = some (0, k, na)) (hs : st9 = as.reverse ++ .ref b :: r) (hl : as.length = na) (hy : ∃ y, P_ml[k]? = some y ∧ y.2.2.2.2.2.1 = [] ∧ T b = y.2.2.2.2.1 + 1 ∧ y.2.2.2.2.1 < 13) (h1 : ck + mc' = ck2) (h2 : sk + ms' = sk2) (h3 : ck2 ≤ mc) (h4 : sk2 ≤ ms) (hc : (r.map fun v => v.category).sum ≤ 8) (h5 : ∀ e ∈ X, e < 5) (hx : ∀ e ∈ X, ∀ I1 L1, QX e I1 L1 → ((q.2.2.2.2.2.1 = [] ∧ Post (.inr e) (T, N, I1, L1, R)) ∨ ∃ ph, hnd q pc e = some ph ∧ ∀ z, V ph lv [.ref z] (T, N, I1, L1, R) ck2 sk2)) (h : ∀ x I1 L1, Q x I1 L1 → V pc2 lv (va_rf x :: r) (T, N, I1, L1, R) ck2 sk2) : V pc lv st9 (T, N, I, L, R) ck sk := k_callV C hi hp hm hs hl hy hE h1 h2 h3 h4 hc (fun v M1 h9 => by rcases h9 with h9 | ⟨e, I1, L1, e1, e2, e3, e4⟩; (· obtain ⟨x, I1, L1, e1, e2, e3⟩ := h9; cases e1; subst e2; exact h x I1 L1 e3); (· cases e2)) (fun e M1 h9 => by rcases h9 with h9 | ⟨e0, I1, L1, e1, e2, e3, e4⟩; (· obtain ⟨x, I1, L1, e1, e2, e3⟩ := h9; cases e1); (· cases e2; subst e3; exact ⟨h5 _ e1, hx _ e1 I1 L1 e4⟩))
theorem w2_VV (C : Cl d q mc ms Post V) {j k na : Nat} {b : Nat} {as st9 : List Value} {mc' ms' ck2 sk2 : Nat} {X : List Nat} {Q : IT → LT → Prop} {QX : Nat → IT → LT → Prop} (hE : Ex d k (.ref b :: as) (T, N, I, L, R) mc' ms' (pW2 X T N R (pV T N R Q) QX)) (hi : cdf q.2.2.2.2.2.2 pc = some (.invokevirtual j, 3)) (hp : pc + 3 = pc2) (hm : P_mt q.2.2.2.2.1 j = some (0, k, na)) (hs : st9 = as.reverse ++ .ref b :: r) (hl : as.length = na) (hy : ∃ y, P_ml[k]? = some y ∧ y.2.2.2.2.2.1 = [] ∧ T b = y.2.2.2.2.1 + 1 ∧ y.2.2.2.2.1 < 13) (h1 : ck + mc' = ck2) (h2 : sk + ms' = sk2) (h3 : ck2 ≤ mc) (h4 : sk2 ≤ ms) (hc : (r.map fun v => v.category).sum ≤ 8) (h5 : ∀ e ∈ X, e < 5) (hx : ∀ e ∈ X, ∀ I1 L1, QX e I1 L1 → ((q.2.2.2.2.2.1 = [] ∧ Post (.inr e) (T, N, I1, L1, R)) ∨ ∃ ph, hnd q pc e = some ph ∧ ∀ z, V ph lv [.ref z] (T, N, I1, L1, R) ck2 sk2)) (h : ∀ I1 L1, Q I1 L1 → V pc2 lv r (T, N, I1, L1, R) ck2 sk2) : V pc lv st9 (T, N, I, L, R) ck sk := k_callV C hi hp hm hs hl hy hE h1 h2 h3 h4 hc (fun v M1 h9 => by rcases h9 with h9 | ⟨e, I1, L1, e1, e2, e3, e4⟩; (· obtain ⟨I1, L1, e1, e2, e3⟩ := h9; cases e1; subst e2; exact h I1 L1 e3); (· cases e2)) (fun e M1 h9 => by rcases h9 with h9 | ⟨e0, I1, L1, e1, e2, e3, e4⟩; (· obtain ⟨I1, L1, e1, e2, e3⟩ := h9; cases e1); (· cases e2; subst e3; exact ⟨h5 _ e1, hx _ e1 I1 L1 e4⟩))
theorem w2_II (C : Cl d q mc ms Post V) {j k na : Nat} {b : Nat} {as st9 : List Value} {mc' ms' ck2 sk2 : Nat} {X : List Nat} {Q : Int32 → IT → LT → Prop} {QX : Nat → IT → LT → Prop} (hE : Ex d k (.ref b :: as) (T, N, I, L, R) mc' ms' (pW2 X T N R (pI T N R Q) QX)) (hi : cdf q.2.2.2.2.2.2 pc = some (.invokespecial j, 3)) (hp : pc + 3 = pc2) (hm : P_mt q.2.2.2.2.1 j = some (2, k, na)) (hs : st9 = as.reverse ++ .ref b :: r) (hl : as.length = na) (hy : ∃ y, P_ml[k]? = some y ∧ y.2.2.2.2.2.1 = [] ∧ y.2.2.2.1 = none) (h1 : ck + mc' = ck2) (h2 : sk + ms' = sk2) (h3 : ck2 ≤ mc) (h4 : sk2 ≤ ms) (hc : (r.map fun v => v.category).sum ≤ 8) (h5 : ∀ e ∈ X, e < 5) (hx : ∀ e ∈ X, ∀ I1 L1, QX e I1 L1 → ((q.2.2.2.2.2.1 = [] ∧ Post (.inr e) (T, N, I1, L1, R)) ∨ ∃ ph, hnd q pc e = some ph ∧ ∀ z, V ph lv [.ref z] (T, N, I1, L1, R) ck2 sk2)) (h : ∀ x I1 L1, Q x I1 L1 → V pc2 lv (.int x :: r) (T, N, I1, L1, R) ck2 sk2) : V pc lv st9 (T, N, I, L, R) ck sk := k_callI C hi hp hm hs hl hy hE h1 h2 h3 h4 hc (fun v M1 h9 => by rcases h9 with h9 | ⟨e, I1, L1, e1, e2, e3, e4⟩; (· obtain ⟨x, I1, L1, e1, e2, e3⟩ := h9; cases e1; subst e2; exact h x I1 L1 e3); (· cases e2)) (fun e M1 h9 => by rcases h9 with h9 | ⟨e0, I1, L1, e1, e2, e3, e4⟩; (· obtain ⟨x, I1, L1, e1, e2, e3⟩ := h9; cases e1); (· cases e2; subst e3; exact ⟨h5 _ e1, hx _ e1 I1 L1 e4⟩))
theorem w2_IL (C : Cl d q mc ms Post V) {j k na : Nat} {b : Nat} {as st9 : List Value} {mc' ms' ck2 sk2 : Nat} {X : List Nat} {Q : Int64 → IT → LT → Prop} {QX : Nat → IT → LT → Prop} (hE : Ex d k (.ref b :: as) (T, N, I, L, R) mc' ms' (pW2 X T N R (pL T N R Q) QX)) (hi : cdf q.2.2.2.2.2.2 pc = some (.invokespecial j, 3)) (hp : pc + 3 = pc2) (hm : P_mt q.2.2.2.2.1 j = some (2, k, na)) (hs : st9 = as.reverse ++ .ref b :: r) (hl : as.length = na) (hy : ∃ y, P_ml[k]? = some y ∧ y.2.2.2.2.2.1 = [] ∧ y.2.2.2.1 = none) (h1 : ck + mc' = ck2) (h2 : sk + ms' = sk2) (h3 : ck2 ≤ mc) (h4 : sk2 ≤ ms) (hc : (r.map fun v => v.category).sum ≤ 8) (h5 : ∀ e ∈ X, e < 5) (hx : ∀ e ∈ X, ∀ I1 L1, QX e I1 L1 → ((q.2.2.2.2.2.1 = [] ∧ Post (.inr e) (T, N, I1, L1, R)) ∨ ∃ ph, hnd q pc e = some ph ∧ ∀ z, V ph lv [.ref z] (T, N, I1, L1, R) ck2 sk2)) (h : ∀ x I1 L1, Q x I1 L1 → V pc2 lv (.long x :: r) (T, N, I1, L1, R) ck2 sk2) : V pc lv st9 (T, N, I, L, R) ck sk := k_callI C hi hp hm hs hl hy hE h1 h2 h3 h4 hc (fun v M1 h9 => by rcases h9 with h9 | ⟨e, I1, L1, e1, e2, e3, e4⟩; (· obtain ⟨x, I1, L1, e1, e2, e3⟩ := h9; cases e1; subst e2; exact h x I1 L1 e3); (· cases e2)) (fun e M1 h9 => by rcases h9 with h9 | ⟨e0, I1, L1, e1, e2, e3, e4⟩; (· obtain ⟨x, I1, L1, e1, e2, e3⟩ := h9; cases e1); (· cases e2; subst e3; exact ⟨h5 _ e1, hx _ e1 I1 L1 e4⟩))
theorem w2_IR (C : Cl d q mc ms Post V) {j k na : Nat} {b : Nat} {as st9 : List Value} {mc' ms' ck2 sk2 : Nat} {X : List Nat} {Q : Option Nat → IT → LT → Prop} {QX : Nat → IT → LT → Prop} (hE : Ex d k (.ref b :: as) (T, N, I, L, R) mc' ms' (pW2 X T N R (pR T N R Q) QX)) (hi : cdf q.2.2.2.2.2.2 pc = some (.invokespecial j, 3)) (hp : pc + 3 = pc2) (hm : P_mt q.2.2.2.2.1 j = some (2, k, na)) (hs : st9 = as.reverse ++ .ref b :: r) (hl : as.length = na) (hy : ∃ y, P_ml[k]? = some y ∧ y.2.2.2.2.2.1 = [] ∧ y.2.2.2.1 = none) (h1 : ck + mc' = ck2) (h2 : sk + ms' = sk2) (h3 : ck2 ≤ mc) (h4 : sk2 ≤ ms) (hc : (r.map fun v => v.category).sum ≤ 8) (h5 : ∀ e ∈ X, e < 5) (hx : ∀ e ∈ X, ∀ I1 L1, QX e I1 L1 → ((q.2.2.2.2.2.1 = [] ∧ Post (.inr e) (T, N, I1, L1, R)) ∨ ∃ ph, hnd q pc e = some ph ∧ ∀ z, V ph lv [.ref z] (T, N, I1, L1, R) ck2 sk2)) (h : ∀ x I1 L1, Q x I1 L1 → V pc2 lv (va_rf x :: r) (T, N, I1, L1, R) ck2 sk2) : V pc lv st9 (T, N, I, L, R) ck sk := k_callI C hi hp hm hs hl hy hE h1 h2 h3 h4 hc (fun v M1 h9 => by rcases h9 with h9 | ⟨e, I1, L1, e1, e2, e3, e4⟩; (· obtain ⟨x, I1, L1, e1, e2, e3⟩ := h9; cases e1; subst e2; exact h x I1 L1 e3); (· cases e2)) (fun e M1 h9 => by rcases h9 with h9 | ⟨e0, I1, L1, e1, e2, e3, e4⟩; (· obtain ⟨x, I1, L1, e1, e2, e3⟩ := h9; cases e1); (· cases e2; subst e3; exact ⟨h5 _ e1, hx _ e1 I1 L1 e4⟩))
theorem w2_IV (C : Cl d q mc ms Post V) {j k na : Nat} {b : Nat} {as st9 : List Value} {mc' ms' ck2 sk2 : Nat} {X : List Nat} {Q : IT → LT → Prop} {QX : Nat → IT → LT → Prop} (hE : Ex d k (.ref b :: as) (T, N, I, L, R) mc' ms' (pW2 X T N R (pV T N R Q) QX)) (hi : cdf q.2.2.2.2.2.2 pc = some (.invokespecial j, 3)) (hp : pc + 3 = pc2) (hm : P_mt q.2.2.2.2.1 j = some (2, k, na)) (hs : st9 = as.reverse ++ .ref b :: r) (hl : as.length = na) (hy : ∃ y, P_ml[k]? = some y ∧ y.2.2.2.2.2.1 = [] ∧ y.2.2.2.1 = none) (h1 : ck + mc' = ck2) (h2 : sk + ms' = sk2) (h3 : ck2 ≤ mc) (h4 : sk2 ≤ ms) (hc : (r.map fun v => v.category).sum ≤ 8) (h5 : ∀ e ∈ X, e < 5) (hx : ∀ e ∈ X, ∀ I1 L1, QX e I1 L1 → ((q.2.2.2.2.2.1 = [] ∧ Post (.inr e) (T, N, I1, L1, R)) ∨ ∃ ph, hnd q pc e = some ph ∧ ∀ z, V ph lv [.ref z] (T, N, I1, L1, R) ck2 sk2)) (h : ∀ I1 L1, Q I1 L1 → V pc2 lv r (T, N, I1, L1, R) ck2 sk2) : V pc lv st9 (T, N, I, L, R) ck sk := k_callI C hi hp hm hs hl hy hE h1 h2 h3 h4 hc (fun v M1 h9 => by rcases h9 with h9 | ⟨e, I1, L1, e1, e2, e3, e4⟩; (· obtain ⟨I1, L1, e1, e2, e3⟩ := h9; cases e1; subst e2; exact h I1 L1 e3); (· cases e2)) (fun e M1 h9 => by rcases h9 with h9 | ⟨e0, I1, L1, e1, e2, e3, e4⟩; (· obtain ⟨I1, L1, e1, e2, e3⟩ := h9; cases e1); (· cases e2; subst e3; exact ⟨h5 _ e1, hx _ e1 I1 L1 e4⟩))
theorem w2_SI (C : Cl d q mc ms Post V) {j k na : Nat} {as st9 : List Value} {mc' ms' ck2 sk2 : Nat} {X : List Nat} {Q : Int32 → IT → LT → Prop} {QX : Nat → IT → LT → Prop} (hE : Ex d k (as) (T, N, I, L, R) mc' ms' (pW2 X T N R (pI T N R Q) QX)) (hi : cdf q.2.2.2.2.2.2 pc = some (.invokestatic j, 3)) (hp : pc + 3 = pc2) (hm : P_mt q.2.2.2.2.1 j = some (1, k, na)) (hs : st9 = as.reverse ++ r) (hl : as.length = na) (h1 : ck + mc' = ck2) (h2 : sk + ms' = sk2) (h3 : ck2 ≤ mc) (h4 : sk2 ≤ ms) (hc : (r.map fun v => v.category).sum ≤ 8) (h5 : ∀ e ∈ X, e < 5) (hx : ∀ e ∈ X, ∀ I1 L1, QX e I1 L1 → ((q.2.2.2.2.2.1 = [] ∧ Post (.inr e) (T, N, I1, L1, R)) ∨ ∃ ph, hnd q pc e = some ph ∧ ∀ z, V ph lv [.ref z] (T, N, I1, L1, R) ck2 sk2)) (h : ∀ x I1 L1, Q x I1 L1 → V pc2 lv (.int x :: r) (T, N, I1, L1, R) ck2 sk2) : V pc lv st9 (T, N, I, L, R) ck sk := k_callS C hi hp hm hs hl hE h1 h2 h3 h4 hc (fun v M1 h9 => by rcases h9 with h9 | ⟨e, I1, L1, e1, e2, e3, e4⟩; (· obtain ⟨x, I1, L1, e1, e2, e3⟩ := h9; cases e1; subst e2; exact h x I1 L1 e3); (· cases e2)) (fun e M1 h9 => by rcases h9 with h9 | ⟨e0, I1, L1, e1, e2, e3, e4⟩; (· obtain ⟨x, I1, L1, e1, e2, e3⟩ := h9; cases e1); (· cases e2; subst e3; exact ⟨h5 _ e1, hx _ e1 I1 L1 e4⟩))
theorem w2_SL (C : Cl d q mc ms Post V) {j k na : Nat} {as st9 : List Value} {mc' ms' ck2 sk2 : Nat} {X : List Nat} {Q : Int64 → IT → LT → Prop} {QX : Nat → IT → LT → Prop} (hE : Ex d k (as) (T, N, I, L, R) mc' ms' (pW2 X T N R (pL T N R Q) QX)) (hi : cdf q.2.2.2.2.2.2 pc = some (.invokestatic j, 3)) (hp : pc + 3 = pc2) (hm : P_mt q.2.2.2.2.1 j = some (1, k, na)) (hs : st9 = as.reverse ++ r) (hl : as.length = na) (h1 : ck + mc' = ck2) (h2 : sk + ms' = sk2) (h3 : ck2 ≤ mc) (h4 : sk2 ≤ ms) (hc : (r.map fun v => v.category).sum ≤ 8) (h5 : ∀ e ∈ X, e < 5) (hx : ∀ e ∈ X, ∀ I1 L1, QX e I1 L1 → ((q.2.2.2.2.2.1 = [] ∧ Post (.inr e) (T, N, I1, L1, R)) ∨ ∃ ph, hnd q pc e = some ph ∧ ∀ z, V ph lv [.ref z] (T, N, I1, L1, R) ck2 sk2)) (h : ∀ x I1 L1, Q x I1 L1 → V pc2 lv (.long x :: r) (T, N, I1, L1, R) ck2 sk2) : V pc lv st9 (T, N, I, L, R) ck sk := k_callS C hi hp hm hs hl hE h1 h2 h3 h4 hc (fun v M1 h9 => by rcases h9 with h9 | ⟨e, I1, L1, e1, e2, e3, e4⟩; (· obtain ⟨x, I1, L1, e1, e2, e3⟩ := h9; cases e1; subst e2; exact h x I1 L1 e3); (· cases e2)) (fun e M1 h9 => by rcases h9 with h9 | ⟨e0, I1, L1, e1, e2, e3, e4⟩; (· obtain ⟨x, I1, L1, e1, e2, e3⟩ := h9; cases e1); (· cases e2; subst e3; exact ⟨h5 _ e1, hx _ e1 I1 L1 e4⟩))
theorem w2_SR (C : Cl d q mc ms Post V) {j k na : Nat} {as st9 : List Value} {mc' ms' ck2 sk2 : Nat} {X : List Nat} {Q : Option Nat → IT → LT → Prop} {QX : Nat → IT → LT → Prop} (hE : Ex d k (as) (T, N, I, L, R) mc' ms' (pW2 X T N R (pR T N R Q) QX)) (hi : cdf q.2.2.2.2.2.2 pc = some (.invokestatic j, 3)) (hp : pc + 3 = pc2) (hm : P_mt q.2.2.2.2.1 j = some (1, k, na)) (hs : st9 = as.reverse ++ r) (hl : as.length = na) (h1 : ck + mc' = ck2) (h2 : sk + ms' = sk2) (h3 : ck2 ≤ mc) (h4 : sk2 ≤ ms) (hc : (r.map fun v => v.category).sum ≤ 8) (h5 : ∀ e ∈ X, e < 5) (hx : ∀ e ∈ X, ∀ I1 L1, QX e I1 L1 → ((q.2.2.2.2.2.1 = [] ∧ Post (.inr e) (T, N, I1, L1, R)) ∨ ∃ ph, hnd q pc e = some ph ∧ ∀ z, V ph lv [.ref z] (T, N, I1, L1, R) ck2 sk2)) (h : ∀ x I1 L1, Q x I1 L1 → V pc2 lv (va_rf x :: r) (T, N, I1, L1, R) ck2 sk2) : V pc lv st9 (T, N, I, L, R) ck sk := k_callS C hi hp hm hs hl hE h1 h2 h3 h4 hc (fun v M1 h9 => by rcases h9 with h9 | ⟨e, I1, L1, e1, e2, e3, e4⟩; (· obtain ⟨x, I1, L1, e1, e2, e3⟩ := h9; cases e1; subst e2; exact h x I1 L1 e3); (· cases e2)) (fun e M1 h9 => by rcases h9 with h9 | ⟨e0, I1, L1, e1, e2, e3, e4⟩; (· obtain ⟨x, I1, L1, e1, e2, e3⟩ := h9; cases e1); (· cases e2; subst e3; exact ⟨h5 _ e1, hx _ e1 I1 L1 e4⟩))
theorem w2_SV (C : Cl d q mc ms Post V) {j k na : Nat} {as st9 : List Value} {mc' ms' ck2 sk2 : Nat} {X : List Nat} {Q : IT → LT → Prop} {QX : Nat → IT → LT → Prop} (hE : Ex d k (as) (T, N, I, L, R) mc' ms' (pW2 X T N R (pV T N R Q) QX)) (hi : cdf q.2.2.2.2.2.2 pc = some (.invokestatic j, 3)) (hp : pc + 3 = pc2) (hm : P_mt q.2.2.2.2.1 j = some (1, k, na)) (hs : st9 = as.reverse ++ r) (hl : as.length = na) (h1 : ck + mc' = ck2) (h2 : sk + ms' = sk2) (h3 : ck2 ≤ mc) (h4 : sk2 ≤ ms) (hc : (r.map fun v => v.category).sum ≤ 8) (h5 : ∀ e ∈ X, e < 5) (hx : ∀ e ∈ X, ∀ I1 L1, QX e I1 L1 → ((q.2.2.2.2.2.1 = [] ∧ Post (.inr e) (T, N, I1, L1, R)) ∨ ∃ ph, hnd q pc e = some ph ∧ ∀ z, V ph lv [.ref z] (T, N, I1, L1, R) ck2 sk2)) (h : ∀ I1 L1, Q I1 L1 → V pc2 lv r (T, N, I1, L1, R) ck2 sk2) : V pc lv st9 (T, N, I, L, R) ck sk := k_callS C hi hp hm hs hl hE h1 h2 h3 h4 hc (fun v M1 h9 => by rcases h9 with h9 | ⟨e, I1, L1, e1, e2, e3, e4⟩; (· obtain ⟨I1, L1, e1, e2, e3⟩ := h9; cases e1; subst e2; exact h I1 L1 e3); (· cases e2)) (fun e M1 h9 => by rcases h9 with h9 | ⟨e0, I1, L1, e1, e2, e3, e4⟩; (· obtain ⟨I1, L1, e1, e2, e3⟩ := h9; cases e1); (· cases e2; subst e3; exact ⟨h5 _ e1, hx _ e1 I1 L1 e4⟩))
end Auto2
theorem a_X0_detOf_e {d : Nat} {T N : Nat → Nat} {I : IT} {L : LT} {R : RT} {A : Nat → Prop} {r0 st : Nat} {n1 n2 n3 n4 : Int32} (hI : IX A T I) (H_r0 : (h_Al T N R A) r0) (Rst : R r0 0 = some st) : Ex (d + 2) 6 [.ref r0, .int n1, .int n2, .int n3, .int n4] (T, N, I, L, R) 0 0 (pI T N R (fun x9 I9 L9 => (x9.toInt = dt (I st 0).toInt n1.toInt n2.toInt n3.toInt n4.toInt) ∧ (I = I9 ∧ L = L9))) := by
  obtain ⟨T_r, A_r, ⟨b, Rb, Hb⟩, -⟩ := H_r0
  have e : b = st := Option.some.inj (Rb.symm.trans Rst)
  subst e
  have hp := (hI b Hb.2.1 0).2 Hb.1 rfl
  exact Ex_mono (fun o M h => by obtain ⟨x, I9, L9, h1, h2, h3, h4, h5⟩ := h; exact ⟨x, I9, L9, h1, h2, h5, h3.symm, h4.symm⟩) (e_detOf T_r Rb Hb.1 rfl (by omega) (by omega))
theorem a_X2_pick_Row16_e {d : Nat} {T N : Nat → Nat} {I : IT} {L : LT} {R : RT} {A : Nat → Prop} {r0 : Nat} {n1 : Int32} (hI : IX A T I) (H_r0 : (h_Row16 T N R A) r0) : Ex (d + 1) 36 [.ref r0, .int n1] (T, N, I, L, R) 0 0 (pR T N R (fun x9 I9 L9 => (∀ b, x9 = some b → (h_F T N R A) b) ∧ (x9 = none → n1.toInt < 0 ∨ 16 ≤ n1.toInt) ∧ (I = I9 ∧ L = L9))) := by
  refine ⟨_, rfl, Nat.le_of_ble_eq_true rfl, fun V C S => ?_⟩
  show V 0 [(0, .ref r0), (1, .int n1)] [] (T, N, I, L, R) 0 0
  have gn1 := rg n1
  refine k_iload_n C rfl rfl rfl ?_
  refine b_if_lt C (t := 10) rfl rfl rfl (fun c1 => ?_) (fun c1 => ?_)
  · skip
    refine k_null C rfl rfl ?_
    refine k_goto C (pc2 := 17) rfl rfl ?_
    exact k_aret C (x := none) rfl (Or.inl ⟨_, rfl⟩) (Nat.le_of_ble_eq_true rfl) (Nat.le_of_ble_eq_true rfl) ⟨_, _, _, rfl, rfl, fz, (by intro h; first | (cases h; done) | omega), rfl, rfl⟩
  refine k_iload_n C rfl rfl rfl ?_
  refine k_aload_n C rfl rfl rfl ?_
  obtain ⟨T_r0, N_r0, A_r0, E_r0⟩ := id H_r0
  refine z_len C (n := 16) rfl rfl (by rw [T_r0]; exact Nat.le_of_ble_eq_true rfl) N_r0 (Nat.le_of_ble_eq_true rfl) (fun x2 ex2 => ?_)
  refine b_icmp_lt C (t := 14) rfl rfl rfl (fun c3 => ?_) (fun c3 => ?_)
  · skip
    refine k_aload_n C rfl rfl rfl ?_
    refine k_iload_n C rfl rfl rfl ?_
    refine z_aR C (t := 0) rfl rfl (Nat.le_of_ble_eq_true rfl) T_r0 N_r0 E_r0 (by omega) (by omega) (fun rr4 H_rr4 => ?_)
    exact k_aret C (x := some _) rfl (Or.inl ⟨_, rfl⟩) (Nat.le_of_ble_eq_true rfl) (Nat.le_of_ble_eq_true rfl) ⟨_, _, _, rfl, rfl, fb H_rr4, (by intro h; first | (cases h; done) | omega), rfl, rfl⟩
  refine k_null C rfl rfl ?_
  refine k_goto C (pc2 := 17) rfl rfl ?_
  exact k_aret C (x := none) rfl (Or.inl ⟨_, rfl⟩) (Nat.le_of_ble_eq_true rfl) (Nat.le_of_ble_eq_true rfl) ⟨_, _, _, rfl, rfl, fz, (by intro h; first | (cases h; done) | omega), rfl, rfl⟩

theorem a_X8_formAt_e {d : Nat} {T N : Nat → Nat} {I : IT} {L : LT} {R : RT} {A : Nat → Prop} {r0 : Nat} {n1 : Int32} (hI : IX A T I) (H_r0 : (h_St T N R A) r0) : Ex (d + 2) 96 [.ref r0, .int n1] (T, N, I, L, R) 0 0 (pR T N R (fun x9 I9 L9 => (∀ b, x9 = some b → (h_F T N R A) b) ∧ (x9 = none → n1.toInt < 0 ∨ (I r0 1).toInt ≤ n1.toInt ∨ 16 ≤ n1.toInt) ∧ (I = I9 ∧ L = L9))) := by
  refine ⟨_, rfl, Nat.le_of_ble_eq_true rfl, fun V C S => ?_⟩
  show V 0 [(0, .ref r0), (1, .int n1)] [] (T, N, I, L, R) 0 0
  have gn1 := rg n1
  obtain ⟨T_r0, A_r0, ⟨r0_6, R_r0_6, H_r0_6⟩, ⟨r0_7, R_r0_7, H_r0_7⟩, ⟨r0_8, R_r0_8, H_r0_8⟩, ⟨r0_9, R_r0_9, H_r0_9⟩, ⟨r0_10, R_r0_10, H_r0_10⟩⟩ := id H_r0
  obtain ⟨w_r0_1, k0_r0_1⟩ : ∃ x, I r0 1 = x := ⟨_, rfl⟩
  have gw_r0_1 := rg w_r0_1
  refine k_iload_n C rfl rfl rfl ?_
  refine k_aload_n C rfl rfl rfl ?_
  refine g_I C rfl rfl rfl T_r0 rfl k0_r0_1 ?_
  refine b_icmp_ge C (t := 19) rfl rfl rfl (fun c1 => ?_) (fun c1 => ?_)
  · skip
    refine k_null C rfl rfl ?_
    exact k_aret C (x := none) rfl (Or.inl ⟨_, rfl⟩) (Nat.le_of_ble_eq_true rfl) (Nat.le_of_ble_eq_true rfl) ⟨_, _, _, rfl, rfl, fz, (by rw [k0_r0_1]; intro h; first | omega | (have h9 := p0none h; omega)), rfl, rfl⟩
  refine k_aload_n C rfl rfl rfl ?_
  refine g_R C rfl rfl rfl T_r0 rfl R_r0_8 ?_
  refine k_iload_n C rfl rfl rfl ?_
  refine c_SR C (a_X2_pick_Row16_e hI H_r0_8) rfl rfl rfl rfl rfl rfl rfl (Nat.le_of_ble_eq_true rfl) (Nat.le_of_ble_eq_true rfl) (Nat.le_of_ble_eq_true rfl) ?_
  rintro yy2 _ _ ⟨hyy2, p0yy2, rfl, rfl⟩
  try simp only [k0_r0_1] at p0yy2
  try have q0yy2 := congrArg Int32.toInt p0yy2
  refine k_goto C (pc2 := 20) rfl rfl ?_
  exact k_aret C (x := yy2) rfl (Or.inl ⟨_, rfl⟩) (Nat.le_of_ble_eq_true rfl) (Nat.le_of_ble_eq_true rfl) ⟨_, _, _, rfl, rfl, hyy2, (by rw [k0_r0_1]; intro h; first | omega | (have h9 := p0yy2 h; omega)), rfl, rfl⟩

theorem a_X8_nextForm_e {d : Nat} {T N : Nat → Nat} {I : IT} {L : LT} {R : RT} {A : Nat → Prop} {r0 : Nat} (hI : IX A T I) (H_r0 : (h_St T N R A) r0) (hp0 : 0 ≤ (I r0 1).toInt) : Ex (d + 3) 98 [.ref r0] (T, N, I, L, R) 0 0 (pR T N R (fun x9 I9 L9 => (∀ b, x9 = some b → (h_F T N R A) b) ∧ (x9 = none → 16 ≤ (I r0 1).toInt ∧ (I9 r0 1).toInt = (I r0 1).toInt) ∧ (∀ b, x9 = some b → (I r0 1).toInt < 16 ∧ (I9 r0 1).toInt = (I r0 1).toInt + 1) ∧ (∀ a, a ≠ r0 → T a = 9 → I9 a = I a) ∧ (IX A T I9 ∧ Chg A T [(9, 1)] I L I9 L9))) := by
  refine ⟨_, rfl, Nat.le_of_ble_eq_true rfl, fun V C S => ?_⟩
  show V 0 [(0, .ref r0)] [] (T, N, I, L, R) 0 0
  obtain ⟨T_r0, A_r0, ⟨r0_6, R_r0_6, H_r0_6⟩, ⟨r0_7, R_r0_7, H_r0_7⟩, ⟨r0_8, R_r0_8, H_r0_8⟩, ⟨r0_9, R_r0_9, H_r0_9⟩, ⟨r0_10, R_r0_10, H_r0_10⟩⟩ := id H_r0
  obtain ⟨w_r0_1, k0_r0_1⟩ : ∃ x, I r0 1 = x := ⟨_, rfl⟩
  have gw_r0_1 := rg w_r0_1
  try simp only [k0_r0_1] at hp0
  refine k_aload_n C rfl rfl rfl ?_
  refine g_I C rfl rfl rfl T_r0 rfl k0_r0_1 ?_
  refine z_bipush C (z := 16) rfl rfl rfl (fun x1 ex1 => ?_)
  refine b_icmp_lt C (t := 11) rfl rfl rfl (fun c2 => ?_) (fun c2 => ?_)
  · skip
    refine k_aload_n C rfl rfl rfl ?_
    refine k_dup C rfl rfl rfl ?_
    refine g_I C rfl rfl rfl T_r0 rfl k0_r0_1 ?_
    refine z_iconst C (z := 1) rfl rfl rfl (fun x3 ex3 => ?_)
    refine z_iadd C rfl rfl ⟨by omega, by omega⟩ (fun x4 ex4 => ?_)
    refine z_pI C rfl rfl rfl T_r0 (Or.inr rfl) rfl (fun I5 uI5 => ?_)
    have hI5 : IX A T I5 := IX.f hI T_r0 (boX.tr (by decide) (by decide)) uI5
    have S6 : Chg A T [(9, 1)] I L I5 L := Chg.f A_r0 T_r0 uI5
    have F7 : ∀ a, a ≠ r0 → T a = 9 → I5 a = I a := fun a h1 _ => by rw [uI5]; exact u2_r h1
    have e8 := u2_e uI5
    refine k_aload_n C rfl rfl rfl ?_
    refine k_aload_n C rfl rfl rfl ?_
    refine g_I C rfl rfl rfl T_r0 rfl e8 ?_
    refine z_iconst C (z := 1) rfl rfl rfl (fun x9 ex9 => ?_)
    refine z_isub C rfl rfl ⟨by omega, by omega⟩ (fun x10 ex10 => ?_)
    refine c_VR C (a_X8_formAt_e hI5 H_r0) rfl rfl rfl rfl rfl ⟨_, rfl, rfl, T_r0, Nat.le_of_ble_eq_true rfl⟩ rfl rfl (Nat.le_of_ble_eq_true rfl) (Nat.le_of_ble_eq_true rfl) (Nat.le_of_ble_eq_true rfl) ?_
    rintro yy11 _ _ ⟨hyy11, p0yy11, rfl, rfl⟩
    try simp only [e8] at p0yy11
    try have q0yy11 := congrArg Int32.toInt p0yy11
    exact k_aret C (x := yy11) rfl (Or.inl ⟨_, rfl⟩) (Nat.le_of_ble_eq_true rfl) (Nat.le_of_ble_eq_true rfl) ⟨_, _, _, rfl, rfl, hyy11, (by rw [k0_r0_1, e8]; intro h; have h9 := p0yy11 h; exfalso; omega), (by rw [k0_r0_1, e8]; intro b h; exact ⟨by omega, by omega⟩), (fun a h1 h2 => (F7 a h1 h2)), hI5, (Chg.mono S6 (by decide))⟩
  refine k_null C rfl rfl ?_
  exact k_aret C (x := none) rfl (Or.inl ⟨_, rfl⟩) (Nat.le_of_ble_eq_true rfl) (Nat.le_of_ble_eq_true rfl) ⟨_, _, _, rfl, rfl, fz, (by rw [k0_r0_1]; exact fun _ => ⟨by omega, by omega⟩), (by intro b h; cases h), (fun a h1 h2 => rfl), hI, Chg.rf⟩

theorem a_X4_put_e {d : Nat} {T N : Nat → Nat} {I : IT} {L : LT} {R : RT} {A : Nat → Prop} {r0 : Nat} {n1 : Int32} (hI : IX A T I) (H_r0 : (h_Rd T N R A) r0) (hp0 : 0 ≤ (I r0 1).toInt) (hp1 : (I r0 1).toInt ≤ 396) : Ex (d + 1) 59 [.ref r0, .int n1] (T, N, I, L, R) 0 0 (pV T N R (fun I9 L9 => ((I9 r0 1).toInt = (I r0 1).toInt + 4) ∧ (IX A T I9 ∧ Chg A T [(5, 1)] I L I9 L9))) := by
  refine ⟨_, rfl, Nat.le_of_ble_eq_true rfl, fun V C S => ?_⟩
  show V 0 [(0, .ref r0), (1, .int n1)] [] (T, N, I, L, R) 0 0
  have gn1 := rg n1
  obtain ⟨T_r0, A_r0, ⟨r0_0, R_r0_0, H_r0_0⟩, ⟨r0_2, R_r0_2, H_r0_2⟩⟩ := id H_r0
  obtain ⟨w_r0_1, k0_r0_1⟩ : ∃ x, I r0 1 = x := ⟨_, rfl⟩
  have gw_r0_1 := rg w_r0_1
  try simp only [k0_r0_1] at hp0
  try simp only [k0_r0_1] at hp1
  refine z_bipush C (z := 24) rfl rfl rfl (fun x1 ex1 => ?_)
  have J2 : ∀ (nn3 : Nat) (I4 : IT) (L5 : LT) (x6 : Int32) (x11 : Int32), ((x6.toInt - (-8)).toNat = nn3) → (IX A T I4) → (Chg A T [(5, 1)] I L I4 L5) → (-8 ≤ x6.toInt) → (x6.toInt ≤ 24) → (I4 r0 1 = x11) → (0 ≤ x11.toInt) → (x11.toInt ≤ 400) → (8 * x11.toInt = 8 * w_r0_1.toInt + 24 - x6.toInt) → (x6.toInt % 8 = 0) → V 3 [(0, .ref r0), (1, .int n1), (2, .int x6)] [] (T, N, I4, L5, R) 0 0 := by
    intro nn3
    induction nn3 using Nat.strongRecOn with
    | _ nn3 ihJ2 =>
      intro I4 L5 x6 x11 hmnn3 hI10 S9 b7 b8 e12 b13 b14 f15 f16
      have gx6 := rg x6
      have gx11 := rg x11
      refine k_iload_n C rfl rfl rfl ?_
      refine b_if_lt C (t := 58) rfl rfl rfl (fun c17 => ?_) (fun c17 => ?_)
      · skip
        exact k_vret C rfl rfl (Nat.le_of_ble_eq_true rfl) (Nat.le_of_ble_eq_true rfl) ⟨_, _, rfl, rfl, by first | omega | (simp only [e12, k0_r0_1, and_true, true_and, or_true, true_or, and_false, false_and, or_false, false_or] <;> omega), hI10, (Chg.mono S9 (by decide))⟩
      refine k_aload_n C rfl rfl rfl ?_
      refine g_I C rfl rfl rfl T_r0 rfl e12 ?_
      refine b_if_lt C (t := 52) rfl rfl rfl (fun c18 => by exfalso; omega) (fun c18 => ?_)
      refine k_aload_n C rfl rfl rfl ?_
      refine g_I C rfl rfl rfl T_r0 rfl e12 ?_
      refine k_aload_n C rfl rfl rfl ?_
      refine g_R C rfl rfl rfl T_r0 rfl R_r0_2 ?_
      obtain ⟨T_r0_2, N_r0_2, A_r0_2⟩ := id H_r0_2
      refine z_len C (n := 400) rfl rfl (by rw [T_r0_2]; exact Nat.le_of_ble_eq_true rfl) N_r0_2 (Nat.le_of_ble_eq_true rfl) (fun x19 ex19 => ?_)
      refine b_icmp_ge C (t := 52) rfl rfl rfl (fun c20 => ?_) (fun c20 => ?_)
      · skip
        refine z_iinc C (z := -8) (lw := fun x21 => [(2, .int x21), (0, .ref r0), (1, .int n1)]) rfl rfl rfl (Nat.le_of_ble_eq_true rfl) rfl ⟨by omega, by omega⟩ (fun _ => rfl) (fun x21 ex21 => ?_)
        show V 55 [(2, .int x21), (0, .ref r0), (1, .int n1)] _ _ _ _
        refine k_goto C (pc2 := 3) rfl rfl ?_
        refine k_sub S [(0, .ref r0), (1, .int n1), (2, .int x21)] (List.forall_mem_cons.mpr ⟨List.mem_of_getElem? (i := 1) rfl, List.forall_mem_cons.mpr ⟨List.mem_of_getElem? (i := 2) rfl, List.forall_mem_cons.mpr ⟨List.mem_of_getElem? (i := 0) rfl, fun _ h => nomatch h⟩⟩⟩) ?_
        exact ihJ2 _ (by omega) I4 L5 x21 x11 rfl hI10 (Chg.mono S9 (by decide)) (by omega) (by omega) e12 (by omega) (by omega) (by omega) (by omega)
      refine k_aload_n C rfl rfl rfl ?_
      refine g_R C rfl rfl rfl T_r0 rfl R_r0_2 ?_
      refine k_aload_n C rfl rfl rfl ?_
      refine g_I C rfl rfl rfl T_r0 rfl e12 ?_
      refine k_iload_n C rfl rfl rfl ?_
      refine k_iload_n C rfl rfl rfl ?_
      refine zt_iushr C rfl rfl (fun x22 => ?_)
      have gx22 := rg x22
      refine z_sipush C (z := 255) rfl rfl rfl (fun x23 ex23 => ?_)
      refine zt_iand C rfl rfl (fun x24 => ?_)
      have gx24 := rg x24
      refine z_sI C rfl rfl T_r0_2 N_r0_2 (by omega) (by omega) (fun I25 uI25 => ?_)
      have hI25 : IX A T I25 := IX.a hI10 T_r0_2 (Nat.le_of_ble_eq_true rfl) uI25
      have S26 : Chg A T [] I4 L5 I25 L5 := Chg.a A_r0_2 T_r0_2 (Nat.le_of_ble_eq_true rfl) uI25
      have e27 := u2_n uI25 (t_nq T_r0 T_r0_2 (by decide)) e12
      refine k_aload_n C rfl rfl rfl ?_
      refine k_dup C rfl rfl rfl ?_
      refine g_I C rfl rfl rfl T_r0 rfl e27 ?_
      refine z_iconst C (z := 1) rfl rfl rfl (fun x28 ex28 => ?_)
      refine z_iadd C rfl rfl ⟨by omega, by omega⟩ (fun x29 ex29 => ?_)
      refine z_pI C rfl rfl rfl T_r0 (Or.inr rfl) rfl (fun I30 uI30 => ?_)
      have hI30 : IX A T I30 := IX.f hI25 T_r0 (boX.tr (by decide) (by decide)) uI30
      have S31 : Chg A T [(5, 1)] I25 L5 I30 L5 := Chg.f A_r0 T_r0 uI30
      have e32 := u2_e uI30
      refine z_iinc C (z := -8) (lw := fun x33 => [(2, .int x33), (0, .ref r0), (1, .int n1)]) rfl rfl rfl (Nat.le_of_ble_eq_true rfl) rfl ⟨by omega, by omega⟩ (fun _ => rfl) (fun x33 ex33 => ?_)
      show V 55 [(2, .int x33), (0, .ref r0), (1, .int n1)] _ _ _ _
      refine k_goto C (pc2 := 3) rfl rfl ?_
      refine k_sub S [(0, .ref r0), (1, .int n1), (2, .int x33)] (List.forall_mem_cons.mpr ⟨List.mem_of_getElem? (i := 1) rfl, List.forall_mem_cons.mpr ⟨List.mem_of_getElem? (i := 2) rfl, List.forall_mem_cons.mpr ⟨List.mem_of_getElem? (i := 0) rfl, fun _ h => nomatch h⟩⟩⟩) ?_
      exact ihJ2 _ (by omega) I30 L5 x33 x29 rfl hI30 (Chg.cons S9 (Chg.cons S26 (Chg.mono S31 (by decide)) (by decide)) (by decide)) (by omega) (by omega) e32 (by omega) (by omega) (by omega) (by omega)
  refine k_istore_n C (lw := [(2, .int x1), (0, .ref r0), (1, .int n1)]) rfl rfl (Nat.le_of_ble_eq_true rfl) rfl ?_
  refine k_sub S [(0, .ref r0), (1, .int n1), (2, .int x1)] (List.forall_mem_cons.mpr ⟨List.mem_of_getElem? (i := 1) rfl, List.forall_mem_cons.mpr ⟨List.mem_of_getElem? (i := 2) rfl, List.forall_mem_cons.mpr ⟨List.mem_of_getElem? (i := 0) rfl, fun _ h => nomatch h⟩⟩⟩) ?_
  exact J2 _ I L x1 w_r0_1 rfl hI Chg.rf (by omega) (by omega) k0_r0_1 (by omega) (by omega) (by omega) (by omega)

theorem a_X4_useUp_e {d : Nat} {T N : Nat → Nat} {I : IT} {L : LT} {R : RT} {A : Nat → Prop} {r0 : Nat} (hI : IX A T I) (H_r0 : (h_Rd T N R A) r0) : Ex (d + 1) 60 [.ref r0] (T, N, I, L, R) 0 0 (pI T N R (fun x9 I9 L9 => (x9.toInt = (I r0 1).toInt) ∧ ((I9 r0 1).toInt = 0) ∧ (IX A T I9 ∧ Chg A T [(5, 1)] I L I9 L9))) := by
  refine ⟨_, rfl, Nat.le_of_ble_eq_true rfl, fun V C S => ?_⟩
  show V 0 [(0, .ref r0)] [] (T, N, I, L, R) 0 0
  obtain ⟨T_r0, A_r0, ⟨r0_0, R_r0_0, H_r0_0⟩, ⟨r0_2, R_r0_2, H_r0_2⟩⟩ := id H_r0
  obtain ⟨w_r0_1, k0_r0_1⟩ : ∃ x, I r0 1 = x := ⟨_, rfl⟩
  have gw_r0_1 := rg w_r0_1
  refine k_aload_n C rfl rfl rfl ?_
  refine g_I C rfl rfl rfl T_r0 rfl k0_r0_1 ?_
  refine k_istore_n C (lw := [(1, .int w_r0_1), (0, .ref r0)]) rfl rfl (Nat.le_of_ble_eq_true rfl) rfl ?_
  refine k_aload_n C rfl rfl rfl ?_
  refine z_iconst C (z := 0) rfl rfl rfl (fun x1 ex1 => ?_)
  refine z_pI C rfl rfl rfl T_r0 (Or.inr rfl) rfl (fun I2 uI2 => ?_)
  have hI2 : IX A T I2 := IX.f hI T_r0 (boX.tr (by decide) (by decide)) uI2
  have S3 : Chg A T [(5, 1)] I L I2 L := Chg.f A_r0 T_r0 uI2
  have e4 := u2_e uI2
  refine k_iload_n C rfl rfl rfl ?_
  exact k_iret C rfl (Or.inl rfl) (Nat.le_of_ble_eq_true rfl) (Nat.le_of_ble_eq_true rfl) ⟨_, _, _, rfl, rfl, by first | omega | (simp only [e4, k0_r0_1, and_true, true_and, or_true, true_or, and_false, false_and, or_false, false_or] <;> omega), by first | omega | (simp only [e4, k0_r0_1, and_true, true_and, or_true, true_or, and_false, false_and, or_false, false_or] <;> omega), hI2, (Chg.mono S3 (by decide))⟩

theorem a_X8_tableAt_e {d : Nat} {T N : Nat → Nat} {I : IT} {L : LT} {R : RT} {A : Nat → Prop} {r0 : Nat} {n1 : Int32} (hI : IX A T I) (H_r0 : (h_St T N R A) r0) : Ex (d + 1) 97 [.ref r0, .int n1] (T, N, I, L, R) 0 0 (pR T N R (fun x9 I9 L9 => (∀ b, x9 = some b → (h_Tb T N R A) b) ∧ (x9 = none → n1.toInt < 0 ∨ (I r0 2).toInt ≤ n1.toInt ∨ 8 ≤ n1.toInt) ∧ (∀ b, x9 = some b → 0 ≤ n1.toInt ∧ n1.toInt < (I r0 2).toInt ∧ n1.toInt < 8) ∧ (I = I9 ∧ L = L9))) := by
  refine ⟨_, rfl, Nat.le_of_ble_eq_true rfl, fun V C S => ?_⟩
  show V 0 [(0, .ref r0), (1, .int n1)] [] (T, N, I, L, R) 0 0
  have gn1 := rg n1
  obtain ⟨T_r0, A_r0, ⟨r0_6, R_r0_6, H_r0_6⟩, ⟨r0_7, R_r0_7, H_r0_7⟩, ⟨r0_8, R_r0_8, H_r0_8⟩, ⟨r0_9, R_r0_9, H_r0_9⟩, ⟨r0_10, R_r0_10, H_r0_10⟩⟩ := id H_r0
  obtain ⟨w_r0_2, k0_r0_2⟩ : ∃ x, I r0 2 = x := ⟨_, rfl⟩
  have gw_r0_2 := rg w_r0_2
  refine k_iload_n C rfl rfl rfl ?_
  refine b_if_lt C (t := 21) rfl rfl rfl (fun c1 => ?_) (fun c1 => ?_)
  · skip
    refine k_null C rfl rfl ?_
    refine k_goto C (pc2 := 31) rfl rfl ?_
    exact k_aret C (x := none) rfl (Or.inl ⟨_, rfl⟩) (Nat.le_of_ble_eq_true rfl) (Nat.le_of_ble_eq_true rfl) ⟨_, _, _, rfl, rfl, fz, (by rw [k0_r0_2]; intro h; first | (cases h; done) | omega), (by rw [k0_r0_2]; intro b h; first | (cases h; done) | exact ⟨by omega, by omega, by omega⟩), rfl, rfl⟩
  refine k_iload_n C rfl rfl rfl ?_
  refine k_aload_n C rfl rfl rfl ?_
  refine g_I C rfl rfl rfl T_r0 rfl k0_r0_2 ?_
  refine b_icmp_ge C (t := 21) rfl rfl rfl (fun c2 => ?_) (fun c2 => ?_)
  · skip
    refine k_null C rfl rfl ?_
    refine k_goto C (pc2 := 31) rfl rfl ?_
    exact k_aret C (x := none) rfl (Or.inl ⟨_, rfl⟩) (Nat.le_of_ble_eq_true rfl) (Nat.le_of_ble_eq_true rfl) ⟨_, _, _, rfl, rfl, fz, (by rw [k0_r0_2]; intro h; first | (cases h; done) | omega), (by rw [k0_r0_2]; intro b h; first | (cases h; done) | exact ⟨by omega, by omega, by omega⟩), rfl, rfl⟩
  refine k_iload_n C rfl rfl rfl ?_
  refine k_aload_n C rfl rfl rfl ?_
  refine g_R C rfl rfl rfl T_r0 rfl R_r0_9 ?_
  obtain ⟨T_r0_9, N_r0_9, A_r0_9, E_r0_9⟩ := id H_r0_9
  refine z_len C (n := 8) rfl rfl (by rw [T_r0_9]; exact Nat.le_of_ble_eq_true rfl) N_r0_9 (Nat.le_of_ble_eq_true rfl) (fun x3 ex3 => ?_)
  refine b_icmp_lt C (t := 25) rfl rfl rfl (fun c4 => ?_) (fun c4 => ?_)
  · skip
    refine k_aload_n C rfl rfl rfl ?_
    refine g_R C rfl rfl rfl T_r0 rfl R_r0_9 ?_
    refine k_iload_n C rfl rfl rfl ?_
    refine z_aR C (t := 1) rfl rfl (Nat.le_of_ble_eq_true rfl) T_r0_9 N_r0_9 E_r0_9 (by omega) (by omega) (fun rr5 H_rr5 => ?_)
    exact k_aret C (x := some _) rfl (Or.inl ⟨_, rfl⟩) (Nat.le_of_ble_eq_true rfl) (Nat.le_of_ble_eq_true rfl) ⟨_, _, _, rfl, rfl, fb H_rr5, (by rw [k0_r0_2]; intro h; first | (cases h; done) | omega), (by rw [k0_r0_2]; intro b h; first | (cases h; done) | exact ⟨by omega, by omega, by omega⟩), rfl, rfl⟩
  refine k_null C rfl rfl ?_
  refine k_goto C (pc2 := 31) rfl rfl ?_
  exact k_aret C (x := none) rfl (Or.inl ⟨_, rfl⟩) (Nat.le_of_ble_eq_true rfl) (Nat.le_of_ble_eq_true rfl) ⟨_, _, _, rfl, rfl, fz, (by rw [k0_r0_2]; intro h; first | (cases h; done) | omega), (by rw [k0_r0_2]; intro b h; first | (cases h; done) | exact ⟨by omega, by omega, by omega⟩), rfl, rfl⟩

theorem a_X8_nextTable_e {d : Nat} {T N : Nat → Nat} {I : IT} {L : LT} {R : RT} {A : Nat → Prop} {r0 : Nat} (hI : IX A T I) (H_r0 : (h_St T N R A) r0) (hp0 : 0 ≤ (I r0 2).toInt) : Ex (d + 2) 99 [.ref r0] (T, N, I, L, R) 0 0 (pR T N R (fun x9 I9 L9 => (∀ b, x9 = some b → (h_Tb T N R A) b) ∧ (x9 = none → 8 ≤ (I r0 2).toInt ∧ (I9 r0 2).toInt = (I r0 2).toInt) ∧ (∀ b, x9 = some b → (I r0 2).toInt < 8 ∧ (I9 r0 2).toInt = (I r0 2).toInt + 1) ∧ (∀ a, a ≠ r0 → T a = 9 → I9 a = I a) ∧ (IX A T I9 ∧ Chg A T [(9, 2)] I L I9 L9))) := by
  refine ⟨_, rfl, Nat.le_of_ble_eq_true rfl, fun V C S => ?_⟩
  show V 0 [(0, .ref r0)] [] (T, N, I, L, R) 0 0
  obtain ⟨T_r0, A_r0, ⟨r0_6, R_r0_6, H_r0_6⟩, ⟨r0_7, R_r0_7, H_r0_7⟩, ⟨r0_8, R_r0_8, H_r0_8⟩, ⟨r0_9, R_r0_9, H_r0_9⟩, ⟨r0_10, R_r0_10, H_r0_10⟩⟩ := id H_r0
  obtain ⟨w_r0_2, k0_r0_2⟩ : ∃ x, I r0 2 = x := ⟨_, rfl⟩
  have gw_r0_2 := rg w_r0_2
  try simp only [k0_r0_2] at hp0
  refine k_aload_n C rfl rfl rfl ?_
  refine g_I C rfl rfl rfl T_r0 rfl k0_r0_2 ?_
  refine z_bipush C (z := 8) rfl rfl rfl (fun x1 ex1 => ?_)
  refine b_icmp_lt C (t := 11) rfl rfl rfl (fun c2 => ?_) (fun c2 => ?_)
  · skip
    refine k_aload_n C rfl rfl rfl ?_
    refine k_dup C rfl rfl rfl ?_
    refine g_I C rfl rfl rfl T_r0 rfl k0_r0_2 ?_
    refine z_iconst C (z := 1) rfl rfl rfl (fun x3 ex3 => ?_)
    refine z_iadd C rfl rfl ⟨by omega, by omega⟩ (fun x4 ex4 => ?_)
    refine z_pI C rfl rfl rfl T_r0 (Or.inr rfl) rfl (fun I5 uI5 => ?_)
    have hI5 : IX A T I5 := IX.f hI T_r0 (boX.tr (by decide) (by decide)) uI5
    have S6 : Chg A T [(9, 2)] I L I5 L := Chg.f A_r0 T_r0 uI5
    have F7 : ∀ a, a ≠ r0 → T a = 9 → I5 a = I a := fun a h1 _ => by rw [uI5]; exact u2_r h1
    have e8 := u2_e uI5
    refine k_aload_n C rfl rfl rfl ?_
    refine k_aload_n C rfl rfl rfl ?_
    refine g_I C rfl rfl rfl T_r0 rfl e8 ?_
    refine z_iconst C (z := 1) rfl rfl rfl (fun x9 ex9 => ?_)
    refine z_isub C rfl rfl ⟨by omega, by omega⟩ (fun x10 ex10 => ?_)
    refine c_VR C (a_X8_tableAt_e hI5 H_r0) rfl rfl rfl rfl rfl ⟨_, rfl, rfl, T_r0, Nat.le_of_ble_eq_true rfl⟩ rfl rfl (Nat.le_of_ble_eq_true rfl) (Nat.le_of_ble_eq_true rfl) (Nat.le_of_ble_eq_true rfl) ?_
    rintro yy11 _ _ ⟨hyy11, p0yy11, p1yy11, rfl, rfl⟩
    try simp only [e8] at p0yy11
    try have q0yy11 := congrArg Int32.toInt p0yy11
    try simp only [e8] at p1yy11
    try have q1yy11 := congrArg Int32.toInt p1yy11
    exact k_aret C (x := yy11) rfl (Or.inl ⟨_, rfl⟩) (Nat.le_of_ble_eq_true rfl) (Nat.le_of_ble_eq_true rfl) ⟨_, _, _, rfl, rfl, hyy11, (by rw [k0_r0_2, e8]; intro h; have h9 := p0yy11 h; exfalso; omega), (by rw [k0_r0_2, e8]; intro b h; exact ⟨by omega, by omega⟩), (fun a h1 h2 => (F7 a h1 h2)), hI5, (Chg.mono S6 (by decide))⟩
  refine k_null C rfl rfl ?_
  exact k_aret C (x := none) rfl (Or.inl ⟨_, rfl⟩) (Nat.le_of_ble_eq_true rfl) (Nat.le_of_ble_eq_true rfl) ⟨_, _, _, rfl, rfl, fz, (by rw [k0_r0_2]; exact fun _ => ⟨by omega, by omega⟩), (by intro b h; cases h), (fun a h1 h2 => rfl), hI, Chg.rf⟩

theorem a_X11_toldTable_e {d : Nat} {T N : Nat → Nat} {I : IT} {L : LT} {R : RT} {A : Nat → Prop} {r0 nw kp rd : Nat} {n1 : Int32} (hI : IX A T I) (H_r0 : (h_LF T N R A) r0) (Rnw : R r0 1 = some nw) (Rkp : R r0 2 = some kp) (Rrd : R r0 0 = some rd) (hnk : kp ≠ nw) : Ex (d + 2) 134 [.ref r0, .int n1] (T, N, I, L, R) 1 6 (pW2 [3] T N R (pR T N R (fun x9 I9 L9 => (∃ b, x9 = some b ∧ (h_Tb T N R A) b) ∧ (0 ≤ n1.toInt ∧ n1.toInt < (I nw 2).toInt ∧ n1.toInt < 8) ∧ (I = I9 ∧ L = L9))) (fun e9 I9 L9 => (I = I9 ∧ L = L9) ∧ (e9 = 3 → n1.toInt < 0 ∨ (I nw 2).toInt ≤ n1.toInt ∨ 8 ≤ n1.toInt))) := by
  refine ⟨_, rfl, Nat.le_of_ble_eq_true rfl, fun V C S => ?_⟩
  show V 0 [(0, .ref r0), (1, .int n1)] [] (T, N, I, L, R) 0 0
  have gn1 := rg n1
  obtain ⟨T_r0, A_r0, ⟨r0_0, R_r0_0, H_r0_0⟩, ⟨r0_1, R_r0_1, H_r0_1⟩, ⟨r0_2, R_r0_2, H_r0_2⟩, ⟨r0_5, R_r0_5, H_r0_5⟩, ⟨r0_6, R_r0_6, H_r0_6⟩, ⟨r0_7, R_r0_7, H_r0_7⟩, ⟨r0_8, R_r0_8, H_r0_8⟩, ⟨r0_9, R_r0_9, H_r0_9⟩, ⟨r0_10, R_r0_10, H_r0_10⟩, ⟨r0_11, R_r0_11, H_r0_11⟩, ⟨r0_12, R_r0_12, H_r0_12⟩, ⟨r0_13, R_r0_13, H_r0_13⟩⟩ := id H_r0
  have z1 : r0_1 = nw := Option.some.inj (R_r0_1.symm.trans Rnw)
  subst z1
  have z2 : r0_2 = kp := Option.some.inj (R_r0_2.symm.trans Rkp)
  subst z2
  have z3 : r0_0 = rd := Option.some.inj (R_r0_0.symm.trans Rrd)
  subst z3
  obtain ⟨T_r0_1, A_r0_1, ⟨r0_1_6, R_r0_1_6, H_r0_1_6⟩, ⟨r0_1_7, R_r0_1_7, H_r0_1_7⟩, ⟨r0_1_8, R_r0_1_8, H_r0_1_8⟩, ⟨r0_1_9, R_r0_1_9, H_r0_1_9⟩, ⟨r0_1_10, R_r0_1_10, H_r0_1_10⟩⟩ := id H_r0_1
  obtain ⟨w_r0_1_2, k0_r0_1_2⟩ : ∃ x, I r0_1 2 = x := ⟨_, rfl⟩
  have gw_r0_1_2 := rg w_r0_1_2
  refine k_aload_n C rfl rfl rfl ?_
  refine g_R C rfl rfl rfl T_r0 rfl R_r0_1 ?_
  refine k_iload_n C rfl rfl rfl ?_
  refine c_VR C (a_X8_tableAt_e hI H_r0_1) rfl rfl rfl rfl rfl ⟨_, rfl, rfl, T_r0_1, Nat.le_of_ble_eq_true rfl⟩ rfl rfl (Nat.le_of_ble_eq_true rfl) (Nat.le_of_ble_eq_true rfl) (Nat.le_of_ble_eq_true rfl) ?_
  rintro yy1 _ _ ⟨hyy1, p0yy1, p1yy1, rfl, rfl⟩
  try simp only [k0_r0_1_2] at p0yy1
  try have q0yy1 := congrArg Int32.toInt p0yy1
  try simp only [k0_r0_1_2] at p1yy1
  try have q1yy1 := congrArg Int32.toInt p1yy1
  refine k_astore_nV C (x := yy1) (lw := [(2, va_rf yy1), (0, .ref r0), (1, .int n1)]) rfl rfl (Nat.le_of_ble_eq_true rfl) rfl ?_
  refine k_aload_nV C (x := yy1) rfl rfl rfl ?_
  refine k_ifnonnull C (x := yy1) (t := 21) rfl rfl rfl (fun c2 => ?_) (fun rr3 c2 => ?_)
  · skip
    subst c2
    have hn := p0yy1 rfl
    exact k_throw C rfl rfl rfl rfl rfl rfl (Nat.le_of_ble_eq_true rfl) (Nat.le_of_ble_eq_true rfl) (Nat.le_of_ble_eq_true rfl) (Or.inr ⟨_, _, _, (by decide : 3 ∈ [3]), rfl, rfl, ⟨⟨rfl, rfl⟩, (fun _ => by simp only [k0_r0_1_2]; omega)⟩⟩)
  subst c2
  have H_rr3 := hyy1 rr3 rfl
  have hn := p1yy1 _ rfl
  refine k_aload_n C rfl rfl rfl ?_
  exact k_aret C (x := some _) rfl (Or.inl ⟨_, rfl⟩) (Nat.le_of_ble_eq_true rfl) (Nat.le_of_ble_eq_true rfl) (Or.inl ⟨_, _, _, rfl, rfl, ⟨_, rfl, H_rr3⟩, by first | omega | (simp only [k0_r0_1_2, and_true, true_and, or_true, true_or, and_false, false_and, or_false, false_or] <;> omega), rfl, rfl⟩)

theorem a_X11_feed_e {d : Nat} {T N : Nat → Nat} {I : IT} {L : LT} {R : RT} {A : Nat → Prop} {r0 nw kp rd : Nat} {n1 n2 n3 n4 n5 : Int32} (hI : IX A T I) (H_r0 : (h_LF T N R A) r0) (Rnw : R r0 1 = some nw) (Rkp : R r0 2 = some kp) (Rrd : R r0 0 = some rd) (hnk : kp ≠ nw) (hp0 : 0 ≤ (I rd 1).toInt) (hp1 : (I rd 1).toInt ≤ 400) : Ex (d + 2) 126 [.ref r0, .int n1, .int n2, .int n3, .int n4, .int n5] (T, N, I, L, R) 0 0 (pI T N R (fun x9 I9 L9 => (380 < (I rd 1).toInt ∧ x9.toInt = -1 ∧ (I9 rd 1).toInt = (I rd 1).toInt ∨ (I rd 1).toInt ≤ 380 ∧ x9.toInt = (I rd 1).toInt + 20 ∧ (I9 rd 1).toInt = (I rd 1).toInt + 20) ∧ (IX A T I9 ∧ Chg A T [(5, 1)] I L I9 L9))) := by
  refine ⟨_, rfl, Nat.le_of_ble_eq_true rfl, fun V C S => ?_⟩
  show V 0 [(0, .ref r0), (1, .int n1), (2, .int n2), (3, .int n3), (4, .int n4), (5, .int n5)] [] (T, N, I, L, R) 0 0
  have gn1 := rg n1
  have gn2 := rg n2
  have gn3 := rg n3
  have gn4 := rg n4
  have gn5 := rg n5
  obtain ⟨T_r0, A_r0, ⟨r0_0, R_r0_0, H_r0_0⟩, ⟨r0_1, R_r0_1, H_r0_1⟩, ⟨r0_2, R_r0_2, H_r0_2⟩, ⟨r0_5, R_r0_5, H_r0_5⟩, ⟨r0_6, R_r0_6, H_r0_6⟩, ⟨r0_7, R_r0_7, H_r0_7⟩, ⟨r0_8, R_r0_8, H_r0_8⟩, ⟨r0_9, R_r0_9, H_r0_9⟩, ⟨r0_10, R_r0_10, H_r0_10⟩, ⟨r0_11, R_r0_11, H_r0_11⟩, ⟨r0_12, R_r0_12, H_r0_12⟩, ⟨r0_13, R_r0_13, H_r0_13⟩⟩ := id H_r0
  have z1 : r0_1 = nw := Option.some.inj (R_r0_1.symm.trans Rnw)
  subst z1
  have z2 : r0_2 = kp := Option.some.inj (R_r0_2.symm.trans Rkp)
  subst z2
  have z3 : r0_0 = rd := Option.some.inj (R_r0_0.symm.trans Rrd)
  subst z3
  obtain ⟨T_r0_0, A_r0_0, ⟨r0_0_0, R_r0_0_0, H_r0_0_0⟩, ⟨r0_0_2, R_r0_0_2, H_r0_0_2⟩⟩ := id H_r0_0
  obtain ⟨w_r0_0_1, k0_r0_0_1⟩ : ∃ x, I r0_0 1 = x := ⟨_, rfl⟩
  have gw_r0_0_1 := rg w_r0_0_1
  try simp only [k0_r0_0_1] at hp0
  try simp only [k0_r0_0_1] at hp1
  refine k_aload_n C rfl rfl rfl ?_
  refine g_R C rfl rfl rfl T_r0 rfl R_r0_0 ?_
  refine g_I C rfl rfl rfl T_r0_0 rfl k0_r0_0_1 ?_
  refine z_sipush C (z := 380) rfl rfl rfl (fun x1 ex1 => ?_)
  refine b_icmp_le C (t := 15) rfl rfl rfl (fun c2 => ?_) (fun c2 => ?_)
  · skip
    refine k_aload_n C rfl rfl rfl ?_
    refine g_R C rfl rfl rfl T_r0 rfl R_r0_0 ?_
    refine k_iload_n C rfl rfl rfl ?_
    refine c_VV C (a_X4_put_e hI H_r0_0 (by first | omega | (simp only [k0_r0_0_1, and_true, true_and, or_true, true_or, and_false, false_and, or_false, false_or] <;> omega)) (by first | omega | (simp only [k0_r0_0_1, and_true, true_and, or_true, true_or, and_false, false_and, or_false, false_or] <;> omega))) rfl rfl rfl rfl rfl ⟨_, rfl, rfl, T_r0_0, Nat.le_of_ble_eq_true rfl⟩ rfl rfl (Nat.le_of_ble_eq_true rfl) (Nat.le_of_ble_eq_true rfl) (Nat.le_of_ble_eq_true rfl) ?_
    rintro I4 L5 ⟨p0v3, hI4, S6⟩
    obtain ⟨x7, e8⟩ : ∃ x, I4 r0_0 1 = x := ⟨_, rfl⟩
    have gx7 := rg x7
    try simp only [k0_r0_0_1, e8] at p0v3
    try have q0v3 := congrArg Int32.toInt p0v3
    refine k_aload_n C rfl rfl rfl ?_
    refine g_R C rfl rfl rfl T_r0 rfl R_r0_0 ?_
    refine k_iload_n C rfl rfl rfl ?_
    refine c_VV C (a_X4_put_e hI4 H_r0_0 (by first | omega | (simp only [e8, and_true, true_and, or_true, true_or, and_false, false_and, or_false, false_or] <;> omega)) (by first | omega | (simp only [e8, and_true, true_and, or_true, true_or, and_false, false_and, or_false, false_or] <;> omega))) rfl rfl rfl rfl rfl ⟨_, rfl, rfl, T_r0_0, Nat.le_of_ble_eq_true rfl⟩ rfl rfl (Nat.le_of_ble_eq_true rfl) (Nat.le_of_ble_eq_true rfl) (Nat.le_of_ble_eq_true rfl) ?_
    rintro I10 L11 ⟨p0v9, hI10, S12⟩
    obtain ⟨x13, e14⟩ : ∃ x, I10 r0_0 1 = x := ⟨_, rfl⟩
    have gx13 := rg x13
    try simp only [e8, e14] at p0v9
    try have q0v9 := congrArg Int32.toInt p0v9
    refine k_aload_n C rfl rfl rfl ?_
    refine g_R C rfl rfl rfl T_r0 rfl R_r0_0 ?_
    refine k_iload_n C rfl rfl rfl ?_
    refine c_VV C (a_X4_put_e hI10 H_r0_0 (by first | omega | (simp only [e14, and_true, true_and, or_true, true_or, and_false, false_and, or_false, false_or] <;> omega)) (by first | omega | (simp only [e14, and_true, true_and, or_true, true_or, and_false, false_and, or_false, false_or] <;> omega))) rfl rfl rfl rfl rfl ⟨_, rfl, rfl, T_r0_0, Nat.le_of_ble_eq_true rfl⟩ rfl rfl (Nat.le_of_ble_eq_true rfl) (Nat.le_of_ble_eq_true rfl) (Nat.le_of_ble_eq_true rfl) ?_
    rintro I16 L17 ⟨p0v15, hI16, S18⟩
    obtain ⟨x19, e20⟩ : ∃ x, I16 r0_0 1 = x := ⟨_, rfl⟩
    have gx19 := rg x19
    try simp only [e14, e20] at p0v15
    try have q0v15 := congrArg Int32.toInt p0v15
    refine k_aload_n C rfl rfl rfl ?_
    refine g_R C rfl rfl rfl T_r0 rfl R_r0_0 ?_
    refine k_iload C rfl rfl rfl ?_
    refine c_VV C (a_X4_put_e hI16 H_r0_0 (by first | omega | (simp only [e20, and_true, true_and, or_true, true_or, and_false, false_and, or_false, false_or] <;> omega)) (by first | omega | (simp only [e20, and_true, true_and, or_true, true_or, and_false, false_and, or_false, false_or] <;> omega))) rfl rfl rfl rfl rfl ⟨_, rfl, rfl, T_r0_0, Nat.le_of_ble_eq_true rfl⟩ rfl rfl (Nat.le_of_ble_eq_true rfl) (Nat.le_of_ble_eq_true rfl) (Nat.le_of_ble_eq_true rfl) ?_
    rintro I22 L23 ⟨p0v21, hI22, S24⟩
    obtain ⟨x25, e26⟩ : ∃ x, I22 r0_0 1 = x := ⟨_, rfl⟩
    have gx25 := rg x25
    try simp only [e20, e26] at p0v21
    try have q0v21 := congrArg Int32.toInt p0v21
    refine k_aload_n C rfl rfl rfl ?_
    refine g_R C rfl rfl rfl T_r0 rfl R_r0_0 ?_
    refine k_iload C rfl rfl rfl ?_
    refine c_VV C (a_X4_put_e hI22 H_r0_0 (by first | omega | (simp only [e26, and_true, true_and, or_true, true_or, and_false, false_and, or_false, false_or] <;> omega)) (by first | omega | (simp only [e26, and_true, true_and, or_true, true_or, and_false, false_and, or_false, false_or] <;> omega))) rfl rfl rfl rfl rfl ⟨_, rfl, rfl, T_r0_0, Nat.le_of_ble_eq_true rfl⟩ rfl rfl (Nat.le_of_ble_eq_true rfl) (Nat.le_of_ble_eq_true rfl) (Nat.le_of_ble_eq_true rfl) ?_
    rintro I28 L29 ⟨p0v27, hI28, S30⟩
    obtain ⟨x31, e32⟩ : ∃ x, I28 r0_0 1 = x := ⟨_, rfl⟩
    have gx31 := rg x31
    try simp only [e26, e32] at p0v27
    try have q0v27 := congrArg Int32.toInt p0v27
    refine k_aload_n C rfl rfl rfl ?_
    refine g_R C rfl rfl rfl T_r0 rfl R_r0_0 ?_
    refine g_I C rfl rfl rfl T_r0_0 rfl e32 ?_
    exact k_iret C rfl (Or.inl rfl) (Nat.le_of_ble_eq_true rfl) (Nat.le_of_ble_eq_true rfl) ⟨_, _, _, rfl, rfl, by first | omega | (simp only [e32, k0_r0_0_1, and_true, true_and, or_true, true_or, and_false, false_and, or_false, false_or] <;> omega), hI28, (Chg.cons S6 (Chg.cons S12 (Chg.cons S18 (Chg.cons S24 (Chg.mono S30 (by decide)) (by decide)) (by decide)) (by decide)) (by decide))⟩
  refine z_iconst C (z := -1) rfl rfl rfl (fun x33 ex33 => ?_)
  exact k_iret C rfl (Or.inl rfl) (Nat.le_of_ble_eq_true rfl) (Nat.le_of_ble_eq_true rfl) ⟨_, _, _, rfl, rfl, by first | omega | (simp only [k0_r0_0_1, and_true, true_and, or_true, true_or, and_false, false_and, or_false, false_or] <;> omega), hI, Chg.rf⟩

theorem a_X11_end_e {d : Nat} {T N : Nat → Nat} {I : IT} {L : LT} {R : RT} {A : Nat → Prop} {r0 nw kp rd : Nat} {n1 : Int32} (hI : IX A T I) (H_r0 : (h_LF T N R A) r0) (Rnw : R r0 1 = some nw) (Rkp : R r0 2 = some kp) (Rrd : R r0 0 = some rd) (hnk : kp ≠ nw) : Ex (d + 1) 127 [.ref r0, .int n1] (T, N, I, L, R) 0 0 (pI T N R (fun x9 I9 L9 => (0 ≤ x9.toInt) ∧ (x9.toInt ≤ 1) ∧ ((n1.toInt < 0 ∨ (I rd 1).toInt < n1.toInt) ∧ x9.toInt = 0 ∧ (I9 rd 1).toInt = (I rd 1).toInt ∨ 0 ≤ n1.toInt ∧ n1.toInt ≤ (I rd 1).toInt ∧ x9.toInt = 1 ∧ (I9 rd 1).toInt = n1.toInt) ∧ (IX A T I9 ∧ Chg A T [(5, 1)] I L I9 L9))) := by
  refine ⟨_, rfl, Nat.le_of_ble_eq_true rfl, fun V C S => ?_⟩
  show V 0 [(0, .ref r0), (1, .int n1)] [] (T, N, I, L, R) 0 0
  have gn1 := rg n1
  obtain ⟨T_r0, A_r0, ⟨r0_0, R_r0_0, H_r0_0⟩, ⟨r0_1, R_r0_1, H_r0_1⟩, ⟨r0_2, R_r0_2, H_r0_2⟩, ⟨r0_5, R_r0_5, H_r0_5⟩, ⟨r0_6, R_r0_6, H_r0_6⟩, ⟨r0_7, R_r0_7, H_r0_7⟩, ⟨r0_8, R_r0_8, H_r0_8⟩, ⟨r0_9, R_r0_9, H_r0_9⟩, ⟨r0_10, R_r0_10, H_r0_10⟩, ⟨r0_11, R_r0_11, H_r0_11⟩, ⟨r0_12, R_r0_12, H_r0_12⟩, ⟨r0_13, R_r0_13, H_r0_13⟩⟩ := id H_r0
  have z1 : r0_1 = nw := Option.some.inj (R_r0_1.symm.trans Rnw)
  subst z1
  have z2 : r0_2 = kp := Option.some.inj (R_r0_2.symm.trans Rkp)
  subst z2
  have z3 : r0_0 = rd := Option.some.inj (R_r0_0.symm.trans Rrd)
  subst z3
  obtain ⟨T_r0_0, A_r0_0, ⟨r0_0_0, R_r0_0_0, H_r0_0_0⟩, ⟨r0_0_2, R_r0_0_2, H_r0_0_2⟩⟩ := id H_r0_0
  obtain ⟨w_r0_0_1, k0_r0_0_1⟩ : ∃ x, I r0_0 1 = x := ⟨_, rfl⟩
  have gw_r0_0_1 := rg w_r0_0_1
  refine k_iload_n C rfl rfl rfl ?_
  refine b_if_lt C (t := 15) rfl rfl rfl (fun c1 => ?_) (fun c1 => ?_)
  · skip
    refine z_iconst C (z := 0) rfl rfl rfl (fun x2 ex2 => ?_)
    exact k_iret C rfl (Or.inr ⟨rfl, z01 (by omega) (by omega)⟩) (Nat.le_of_ble_eq_true rfl) (Nat.le_of_ble_eq_true rfl) ⟨_, _, _, rfl, rfl, by omega, by omega, by first | omega | (simp only [k0_r0_0_1, and_true, true_and, or_true, true_or, and_false, false_and, or_false, false_or] <;> omega), hI, Chg.rf⟩
  refine k_iload_n C rfl rfl rfl ?_
  refine k_aload_n C rfl rfl rfl ?_
  refine g_R C rfl rfl rfl T_r0 rfl R_r0_0 ?_
  refine g_I C rfl rfl rfl T_r0_0 rfl k0_r0_0_1 ?_
  refine b_icmp_le C (t := 17) rfl rfl rfl (fun c3 => ?_) (fun c3 => ?_)
  · skip
    refine k_aload_n C rfl rfl rfl ?_
    refine g_R C rfl rfl rfl T_r0 rfl R_r0_0 ?_
    refine k_iload_n C rfl rfl rfl ?_
    refine z_pI C rfl rfl rfl T_r0_0 (Or.inr rfl) rfl (fun I4 uI4 => ?_)
    have hI4 : IX A T I4 := IX.f hI T_r0_0 (boX.tr (by decide) (by decide)) uI4
    have S5 : Chg A T [(5, 1)] I L I4 L := Chg.f A_r0_0 T_r0_0 uI4
    have e6 := u2_e uI4
    refine z_iconst C (z := 1) rfl rfl rfl (fun x7 ex7 => ?_)
    exact k_iret C rfl (Or.inr ⟨rfl, z01 (by omega) (by omega)⟩) (Nat.le_of_ble_eq_true rfl) (Nat.le_of_ble_eq_true rfl) ⟨_, _, _, rfl, rfl, by omega, by omega, by first | omega | (simp only [e6, k0_r0_0_1, and_true, true_and, or_true, true_or, and_false, false_and, or_false, false_or] <;> omega), hI4, (Chg.mono S5 (by decide))⟩
  refine z_iconst C (z := 0) rfl rfl rfl (fun x8 ex8 => ?_)
  exact k_iret C rfl (Or.inr ⟨rfl, z01 (by omega) (by omega)⟩) (Nat.le_of_ble_eq_true rfl) (Nat.le_of_ble_eq_true rfl) ⟨_, _, _, rfl, rfl, by omega, by omega, by first | omega | (simp only [k0_r0_0_1, and_true, true_and, or_true, true_or, and_false, false_and, or_false, false_or] <;> omega), hI, Chg.rf⟩

theorem a_X11_field_e {d : Nat} {T N : Nat → Nat} {I : IT} {L : LT} {R : RT} {A : Nat → Prop} {r0 nw kp rd : Nat} {n1 : Int32} (hI : IX A T I) (H_r0 : (h_LF T N R A) r0) (Rnw : R r0 1 = some nw) (Rkp : R r0 2 = some kp) (Rrd : R r0 0 = some rd) (hnk : kp ≠ nw) : Ex (d + 1) 128 [.ref r0, .int n1] (T, N, I, L, R) 1 6 (pW2 [0, 1] T N R (pV T N R (fun I9 L9 => ((n1.toInt = 11 ∨ n1.toInt = 13 ∨ n1.toInt = 17 ∨ n1.toInt = 19) ∧ (I nw 1).toInt ≤ 0 ∧ (I nw 2).toInt ≤ 0 ∧ (I9 nw 0).toInt = n1.toInt) ∧ ((I9 nw 1).toInt = (I nw 1).toInt) ∧ ((I9 nw 2).toInt = (I nw 2).toInt) ∧ ((I9 kp 0).toInt = (I kp 0).toInt) ∧ ((I9 kp 1).toInt = (I kp 1).toInt) ∧ ((I9 kp 2).toInt = (I kp 2).toInt) ∧ (IX A T I9 ∧ Chg A T [(9, 0)] I L I9 L9))) (fun e9 I9 L9 => (IX A T I9 ∧ Chg A T [(9, 0)] I L I9 L9) ∧ (e9 = 0 → ¬ (n1.toInt = 11 ∨ n1.toInt = 13 ∨ n1.toInt = 17 ∨ n1.toInt = 19)) ∧ (e9 = 0 → (I9 nw 0).toInt = (I nw 0).toInt) ∧ (e9 = 0 → (I9 nw 1).toInt = (I nw 1).toInt) ∧ (e9 = 0 → (I9 nw 2).toInt = (I nw 2).toInt) ∧ (e9 = 0 → (I9 kp 0).toInt = (I kp 0).toInt) ∧ (e9 = 0 → (I9 kp 1).toInt = (I kp 1).toInt) ∧ (e9 = 0 → (I9 kp 2).toInt = (I kp 2).toInt) ∧ (e9 = 1 → (n1.toInt = 11 ∨ n1.toInt = 13 ∨ n1.toInt = 17 ∨ n1.toInt = 19) ∧ (0 < (I nw 1).toInt ∨ 0 < (I nw 2).toInt)) ∧ (e9 = 1 → (I9 nw 0).toInt = (I nw 0).toInt) ∧ (e9 = 1 → (I9 nw 1).toInt = (I nw 1).toInt) ∧ (e9 = 1 → (I9 nw 2).toInt = (I nw 2).toInt) ∧ (e9 = 1 → (I9 kp 0).toInt = (I kp 0).toInt) ∧ (e9 = 1 → (I9 kp 1).toInt = (I kp 1).toInt) ∧ (e9 = 1 → (I9 kp 2).toInt = (I kp 2).toInt))) := by
  refine ⟨_, rfl, Nat.le_of_ble_eq_true rfl, fun V C S => ?_⟩
  show V 0 [(0, .ref r0), (1, .int n1)] [] (T, N, I, L, R) 0 0
  have gn1 := rg n1
  obtain ⟨T_r0, A_r0, ⟨r0_0, R_r0_0, H_r0_0⟩, ⟨r0_1, R_r0_1, H_r0_1⟩, ⟨r0_2, R_r0_2, H_r0_2⟩, ⟨r0_5, R_r0_5, H_r0_5⟩, ⟨r0_6, R_r0_6, H_r0_6⟩, ⟨r0_7, R_r0_7, H_r0_7⟩, ⟨r0_8, R_r0_8, H_r0_8⟩, ⟨r0_9, R_r0_9, H_r0_9⟩, ⟨r0_10, R_r0_10, H_r0_10⟩, ⟨r0_11, R_r0_11, H_r0_11⟩, ⟨r0_12, R_r0_12, H_r0_12⟩, ⟨r0_13, R_r0_13, H_r0_13⟩⟩ := id H_r0
  have z1 : r0_1 = nw := Option.some.inj (R_r0_1.symm.trans Rnw)
  subst z1
  have z2 : r0_2 = kp := Option.some.inj (R_r0_2.symm.trans Rkp)
  subst z2
  have z3 : r0_0 = rd := Option.some.inj (R_r0_0.symm.trans Rrd)
  subst z3
  obtain ⟨T_r0_0, A_r0_0, ⟨r0_0_0, R_r0_0_0, H_r0_0_0⟩, ⟨r0_0_2, R_r0_0_2, H_r0_0_2⟩⟩ := id H_r0_0
  obtain ⟨w_r0_0_1, k0_r0_0_1⟩ : ∃ x, I r0_0 1 = x := ⟨_, rfl⟩
  have gw_r0_0_1 := rg w_r0_0_1
  obtain ⟨T_r0_1, A_r0_1, ⟨r0_1_6, R_r0_1_6, H_r0_1_6⟩, ⟨r0_1_7, R_r0_1_7, H_r0_1_7⟩, ⟨r0_1_8, R_r0_1_8, H_r0_1_8⟩, ⟨r0_1_9, R_r0_1_9, H_r0_1_9⟩, ⟨r0_1_10, R_r0_1_10, H_r0_1_10⟩⟩ := id H_r0_1
  obtain ⟨w_r0_1_0, k0_r0_1_0⟩ : ∃ x, I r0_1 0 = x := ⟨_, rfl⟩
  have gw_r0_1_0 := rg w_r0_1_0
  have ow_r0_1_0 := IX.p hI A_r0_1 T_r0_1 k0_r0_1_0
  obtain ⟨w_r0_1_1, k0_r0_1_1⟩ : ∃ x, I r0_1 1 = x := ⟨_, rfl⟩
  have gw_r0_1_1 := rg w_r0_1_1
  obtain ⟨w_r0_1_2, k0_r0_1_2⟩ : ∃ x, I r0_1 2 = x := ⟨_, rfl⟩
  have gw_r0_1_2 := rg w_r0_1_2
  obtain ⟨T_r0_2, A_r0_2, ⟨r0_2_6, R_r0_2_6, H_r0_2_6⟩, ⟨r0_2_7, R_r0_2_7, H_r0_2_7⟩, ⟨r0_2_8, R_r0_2_8, H_r0_2_8⟩, ⟨r0_2_9, R_r0_2_9, H_r0_2_9⟩, ⟨r0_2_10, R_r0_2_10, H_r0_2_10⟩⟩ := id H_r0_2
  obtain ⟨w_r0_2_0, k0_r0_2_0⟩ : ∃ x, I r0_2 0 = x := ⟨_, rfl⟩
  have gw_r0_2_0 := rg w_r0_2_0
  have ow_r0_2_0 := IX.p hI A_r0_2 T_r0_2 k0_r0_2_0
  obtain ⟨w_r0_2_1, k0_r0_2_1⟩ : ∃ x, I r0_2 1 = x := ⟨_, rfl⟩
  have gw_r0_2_1 := rg w_r0_2_1
  obtain ⟨w_r0_2_2, k0_r0_2_2⟩ : ∃ x, I r0_2 2 = x := ⟨_, rfl⟩
  have gw_r0_2_2 := rg w_r0_2_2
  refine k_iload_n C rfl rfl rfl ?_
  refine z_bipush C (z := 11) rfl rfl rfl (fun x1 ex1 => ?_)
  refine b_icmp_eq C (t := 32) rfl rfl rfl (fun c2 => ?_) (fun c2 => ?_)
  · skip
    refine k_aload_n C rfl rfl rfl ?_
    refine g_R C rfl rfl rfl T_r0 rfl R_r0_1 ?_
    refine g_I C rfl rfl rfl T_r0_1 rfl k0_r0_1_1 ?_
    refine b_if_gt C (t := 52) rfl rfl rfl (fun c3 => ?_) (fun c3 => ?_)
    · skip
      exact k_throw C rfl rfl rfl rfl rfl rfl (Nat.le_of_ble_eq_true rfl) (Nat.le_of_ble_eq_true rfl) (Nat.le_of_ble_eq_true rfl) (Or.inr ⟨_, _, _, (by decide : 1 ∈ [0, 1]), rfl, rfl, ⟨⟨hI, Chg.rf⟩, (fun h9 => absurd h9 (by decide)), (fun h9 => absurd h9 (by decide)), (fun h9 => absurd h9 (by decide)), (fun h9 => absurd h9 (by decide)), (fun h9 => absurd h9 (by decide)), (fun h9 => absurd h9 (by decide)), (fun h9 => absurd h9 (by decide)), (fun _ => by first | omega | (simp only [k0_r0_0_1, k0_r0_1_0, k0_r0_1_1, k0_r0_1_2, k0_r0_2_0, k0_r0_2_1, k0_r0_2_2, and_true, true_and, or_true, true_or, and_false, false_and, or_false, false_or] <;> omega)), (fun _ => by first | omega | (simp only [k0_r0_0_1, k0_r0_1_0, k0_r0_1_1, k0_r0_1_2, k0_r0_2_0, k0_r0_2_1, k0_r0_2_2, and_true, true_and, or_true, true_or, and_false, false_and, or_false, false_or] <;> omega)), (fun _ => by first | omega | (simp only [k0_r0_0_1, k0_r0_1_0, k0_r0_1_1, k0_r0_1_2, k0_r0_2_0, k0_r0_2_1, k0_r0_2_2, and_true, true_and, or_true, true_or, and_false, false_and, or_false, false_or] <;> omega)), (fun _ => by first | omega | (simp only [k0_r0_0_1, k0_r0_1_0, k0_r0_1_1, k0_r0_1_2, k0_r0_2_0, k0_r0_2_1, k0_r0_2_2, and_true, true_and, or_true, true_or, and_false, false_and, or_false, false_or] <;> omega)), (fun _ => by first | omega | (simp only [k0_r0_0_1, k0_r0_1_0, k0_r0_1_1, k0_r0_1_2, k0_r0_2_0, k0_r0_2_1, k0_r0_2_2, and_true, true_and, or_true, true_or, and_false, false_and, or_false, false_or] <;> omega)), (fun _ => by first | omega | (simp only [k0_r0_0_1, k0_r0_1_0, k0_r0_1_1, k0_r0_1_2, k0_r0_2_0, k0_r0_2_1, k0_r0_2_2, and_true, true_and, or_true, true_or, and_false, false_and, or_false, false_or] <;> omega)), (fun _ => by first | omega | (simp only [k0_r0_0_1, k0_r0_1_0, k0_r0_1_1, k0_r0_1_2, k0_r0_2_0, k0_r0_2_1, k0_r0_2_2, and_true, true_and, or_true, true_or, and_false, false_and, or_false, false_or] <;> omega))⟩⟩)
    refine k_aload_n C rfl rfl rfl ?_
    refine g_R C rfl rfl rfl T_r0 rfl R_r0_1 ?_
    refine g_I C rfl rfl rfl T_r0_1 rfl k0_r0_1_2 ?_
    refine b_if_le C (t := 60) rfl rfl rfl (fun c4 => ?_) (fun c4 => ?_)
    · skip
      refine k_aload_n C rfl rfl rfl ?_
      refine g_R C rfl rfl rfl T_r0 rfl R_r0_1 ?_
      refine k_iload_n C rfl rfl rfl ?_
      refine z_pI C rfl rfl rfl T_r0_1 (Or.inr rfl) rfl (fun I5 uI5 => ?_)
      have hI5 : IX A T I5 := IX.f hI T_r0_1 ⟨fun h => absurd h (by decide), fun _ _ => ⟨by omega, by omega⟩⟩ uI5
      have S6 : Chg A T [(9, 0)] I L I5 L := Chg.f A_r0_1 T_r0_1 uI5
      have e7 := u2_j uI5 (by decide) k0_r0_0_1
      have e8 := u2_j uI5 (by decide) k0_r0_1_1
      have e9 := u2_j uI5 (by decide) k0_r0_1_2
      have e10 := u2_n uI5 (by first | exact hnk | exact fun e => hnk e.symm) k0_r0_2_0
      have e11 := u2_j uI5 (by decide) k0_r0_2_1
      have e12 := u2_j uI5 (by decide) k0_r0_2_2
      have e13 := u2_e uI5
      exact k_vret C rfl rfl (Nat.le_of_ble_eq_true rfl) (Nat.le_of_ble_eq_true rfl) (Or.inl ⟨_, _, rfl, rfl, by first | omega | (simp only [e7, e8, e9, e10, e11, e12, e13, k0_r0_0_1, k0_r0_1_0, k0_r0_1_1, k0_r0_1_2, k0_r0_2_0, k0_r0_2_1, k0_r0_2_2, and_true, true_and, or_true, true_or, and_false, false_and, or_false, false_or] <;> omega), by first | omega | (simp only [e7, e8, e9, e10, e11, e12, e13, k0_r0_0_1, k0_r0_1_0, k0_r0_1_1, k0_r0_1_2, k0_r0_2_0, k0_r0_2_1, k0_r0_2_2, and_true, true_and, or_true, true_or, and_false, false_and, or_false, false_or] <;> omega), by first | omega | (simp only [e7, e8, e9, e10, e11, e12, e13, k0_r0_0_1, k0_r0_1_0, k0_r0_1_1, k0_r0_1_2, k0_r0_2_0, k0_r0_2_1, k0_r0_2_2, and_true, true_and, or_true, true_or, and_false, false_and, or_false, false_or] <;> omega), by first | omega | (simp only [e7, e8, e9, e10, e11, e12, e13, k0_r0_0_1, k0_r0_1_0, k0_r0_1_1, k0_r0_1_2, k0_r0_2_0, k0_r0_2_1, k0_r0_2_2, and_true, true_and, or_true, true_or, and_false, false_and, or_false, false_or] <;> omega), by first | omega | (simp only [e7, e8, e9, e10, e11, e12, e13, k0_r0_0_1, k0_r0_1_0, k0_r0_1_1, k0_r0_1_2, k0_r0_2_0, k0_r0_2_1, k0_r0_2_2, and_true, true_and, or_true, true_or, and_false, false_and, or_false, false_or] <;> omega), by first | omega | (simp only [e7, e8, e9, e10, e11, e12, e13, k0_r0_0_1, k0_r0_1_0, k0_r0_1_1, k0_r0_1_2, k0_r0_2_0, k0_r0_2_1, k0_r0_2_2, and_true, true_and, or_true, true_or, and_false, false_and, or_false, false_or] <;> omega), hI5, (Chg.mono S6 (by decide))⟩)
    exact k_throw C rfl rfl rfl rfl rfl rfl (Nat.le_of_ble_eq_true rfl) (Nat.le_of_ble_eq_true rfl) (Nat.le_of_ble_eq_true rfl) (Or.inr ⟨_, _, _, (by decide : 1 ∈ [0, 1]), rfl, rfl, ⟨⟨hI, Chg.rf⟩, (fun h9 => absurd h9 (by decide)), (fun h9 => absurd h9 (by decide)), (fun h9 => absurd h9 (by decide)), (fun h9 => absurd h9 (by decide)), (fun h9 => absurd h9 (by decide)), (fun h9 => absurd h9 (by decide)), (fun h9 => absurd h9 (by decide)), (fun _ => by first | omega | (simp only [k0_r0_0_1, k0_r0_1_0, k0_r0_1_1, k0_r0_1_2, k0_r0_2_0, k0_r0_2_1, k0_r0_2_2, and_true, true_and, or_true, true_or, and_false, false_and, or_false, false_or] <;> omega)), (fun _ => by first | omega | (simp only [k0_r0_0_1, k0_r0_1_0, k0_r0_1_1, k0_r0_1_2, k0_r0_2_0, k0_r0_2_1, k0_r0_2_2, and_true, true_and, or_true, true_or, and_false, false_and, or_false, false_or] <;> omega)), (fun _ => by first | omega | (simp only [k0_r0_0_1, k0_r0_1_0, k0_r0_1_1, k0_r0_1_2, k0_r0_2_0, k0_r0_2_1, k0_r0_2_2, and_true, true_and, or_true, true_or, and_false, false_and, or_false, false_or] <;> omega)), (fun _ => by first | omega | (simp only [k0_r0_0_1, k0_r0_1_0, k0_r0_1_1, k0_r0_1_2, k0_r0_2_0, k0_r0_2_1, k0_r0_2_2, and_true, true_and, or_true, true_or, and_false, false_and, or_false, false_or] <;> omega)), (fun _ => by first | omega | (simp only [k0_r0_0_1, k0_r0_1_0, k0_r0_1_1, k0_r0_1_2, k0_r0_2_0, k0_r0_2_1, k0_r0_2_2, and_true, true_and, or_true, true_or, and_false, false_and, or_false, false_or] <;> omega)), (fun _ => by first | omega | (simp only [k0_r0_0_1, k0_r0_1_0, k0_r0_1_1, k0_r0_1_2, k0_r0_2_0, k0_r0_2_1, k0_r0_2_2, and_true, true_and, or_true, true_or, and_false, false_and, or_false, false_or] <;> omega)), (fun _ => by first | omega | (simp only [k0_r0_0_1, k0_r0_1_0, k0_r0_1_1, k0_r0_1_2, k0_r0_2_0, k0_r0_2_1, k0_r0_2_2, and_true, true_and, or_true, true_or, and_false, false_and, or_false, false_or] <;> omega))⟩⟩)
  refine k_iload_n C rfl rfl rfl ?_
  refine z_bipush C (z := 13) rfl rfl rfl (fun x14 ex14 => ?_)
  refine b_icmp_eq C (t := 32) rfl rfl rfl (fun c15 => ?_) (fun c15 => ?_)
  · skip
    refine k_aload_n C rfl rfl rfl ?_
    refine g_R C rfl rfl rfl T_r0 rfl R_r0_1 ?_
    refine g_I C rfl rfl rfl T_r0_1 rfl k0_r0_1_1 ?_
    refine b_if_gt C (t := 52) rfl rfl rfl (fun c16 => ?_) (fun c16 => ?_)
    · skip
      exact k_throw C rfl rfl rfl rfl rfl rfl (Nat.le_of_ble_eq_true rfl) (Nat.le_of_ble_eq_true rfl) (Nat.le_of_ble_eq_true rfl) (Or.inr ⟨_, _, _, (by decide : 1 ∈ [0, 1]), rfl, rfl, ⟨⟨hI, Chg.rf⟩, (fun h9 => absurd h9 (by decide)), (fun h9 => absurd h9 (by decide)), (fun h9 => absurd h9 (by decide)), (fun h9 => absurd h9 (by decide)), (fun h9 => absurd h9 (by decide)), (fun h9 => absurd h9 (by decide)), (fun h9 => absurd h9 (by decide)), (fun _ => by first | omega | (simp only [k0_r0_0_1, k0_r0_1_0, k0_r0_1_1, k0_r0_1_2, k0_r0_2_0, k0_r0_2_1, k0_r0_2_2, and_true, true_and, or_true, true_or, and_false, false_and, or_false, false_or] <;> omega)), (fun _ => by first | omega | (simp only [k0_r0_0_1, k0_r0_1_0, k0_r0_1_1, k0_r0_1_2, k0_r0_2_0, k0_r0_2_1, k0_r0_2_2, and_true, true_and, or_true, true_or, and_false, false_and, or_false, false_or] <;> omega)), (fun _ => by first | omega | (simp only [k0_r0_0_1, k0_r0_1_0, k0_r0_1_1, k0_r0_1_2, k0_r0_2_0, k0_r0_2_1, k0_r0_2_2, and_true, true_and, or_true, true_or, and_false, false_and, or_false, false_or] <;> omega)), (fun _ => by first | omega | (simp only [k0_r0_0_1, k0_r0_1_0, k0_r0_1_1, k0_r0_1_2, k0_r0_2_0, k0_r0_2_1, k0_r0_2_2, and_true, true_and, or_true, true_or, and_false, false_and, or_false, false_or] <;> omega)), (fun _ => by first | omega | (simp only [k0_r0_0_1, k0_r0_1_0, k0_r0_1_1, k0_r0_1_2, k0_r0_2_0, k0_r0_2_1, k0_r0_2_2, and_true, true_and, or_true, true_or, and_false, false_and, or_false, false_or] <;> omega)), (fun _ => by first | omega | (simp only [k0_r0_0_1, k0_r0_1_0, k0_r0_1_1, k0_r0_1_2, k0_r0_2_0, k0_r0_2_1, k0_r0_2_2, and_true, true_and, or_true, true_or, and_false, false_and, or_false, false_or] <;> omega)), (fun _ => by first | omega | (simp only [k0_r0_0_1, k0_r0_1_0, k0_r0_1_1, k0_r0_1_2, k0_r0_2_0, k0_r0_2_1, k0_r0_2_2, and_true, true_and, or_true, true_or, and_false, false_and, or_false, false_or] <;> omega))⟩⟩)
    refine k_aload_n C rfl rfl rfl ?_
    refine g_R C rfl rfl rfl T_r0 rfl R_r0_1 ?_
    refine g_I C rfl rfl rfl T_r0_1 rfl k0_r0_1_2 ?_
    refine b_if_le C (t := 60) rfl rfl rfl (fun c17 => ?_) (fun c17 => ?_)
    · skip
      refine k_aload_n C rfl rfl rfl ?_
      refine g_R C rfl rfl rfl T_r0 rfl R_r0_1 ?_
      refine k_iload_n C rfl rfl rfl ?_
      refine z_pI C rfl rfl rfl T_r0_1 (Or.inr rfl) rfl (fun I18 uI18 => ?_)
      have hI18 : IX A T I18 := IX.f hI T_r0_1 ⟨fun h => absurd h (by decide), fun _ _ => ⟨by omega, by omega⟩⟩ uI18
      have S19 : Chg A T [(9, 0)] I L I18 L := Chg.f A_r0_1 T_r0_1 uI18
      have e20 := u2_j uI18 (by decide) k0_r0_0_1
      have e21 := u2_j uI18 (by decide) k0_r0_1_1
      have e22 := u2_j uI18 (by decide) k0_r0_1_2
      have e23 := u2_n uI18 (by first | exact hnk | exact fun e => hnk e.symm) k0_r0_2_0
      have e24 := u2_j uI18 (by decide) k0_r0_2_1
      have e25 := u2_j uI18 (by decide) k0_r0_2_2
      have e26 := u2_e uI18
      exact k_vret C rfl rfl (Nat.le_of_ble_eq_true rfl) (Nat.le_of_ble_eq_true rfl) (Or.inl ⟨_, _, rfl, rfl, by first | omega | (simp only [e20, e21, e22, e23, e24, e25, e26, k0_r0_0_1, k0_r0_1_0, k0_r0_1_1, k0_r0_1_2, k0_r0_2_0, k0_r0_2_1, k0_r0_2_2, and_true, true_and, or_true, true_or, and_false, false_and, or_false, false_or] <;> omega), by first | omega | (simp only [e20, e21, e22, e23, e24, e25, e26, k0_r0_0_1, k0_r0_1_0, k0_r0_1_1, k0_r0_1_2, k0_r0_2_0, k0_r0_2_1, k0_r0_2_2, and_true, true_and, or_true, true_or, and_false, false_and, or_false, false_or] <;> omega), by first | omega | (simp only [e20, e21, e22, e23, e24, e25, e26, k0_r0_0_1, k0_r0_1_0, k0_r0_1_1, k0_r0_1_2, k0_r0_2_0, k0_r0_2_1, k0_r0_2_2, and_true, true_and, or_true, true_or, and_false, false_and, or_false, false_or] <;> omega), by first | omega | (simp only [e20, e21, e22, e23, e24, e25, e26, k0_r0_0_1, k0_r0_1_0, k0_r0_1_1, k0_r0_1_2, k0_r0_2_0, k0_r0_2_1, k0_r0_2_2, and_true, true_and, or_true, true_or, and_false, false_and, or_false, false_or] <;> omega), by first | omega | (simp only [e20, e21, e22, e23, e24, e25, e26, k0_r0_0_1, k0_r0_1_0, k0_r0_1_1, k0_r0_1_2, k0_r0_2_0, k0_r0_2_1, k0_r0_2_2, and_true, true_and, or_true, true_or, and_false, false_and, or_false, false_or] <;> omega), by first | omega | (simp only [e20, e21, e22, e23, e24, e25, e26, k0_r0_0_1, k0_r0_1_0, k0_r0_1_1, k0_r0_1_2, k0_r0_2_0, k0_r0_2_1, k0_r0_2_2, and_true, true_and, or_true, true_or, and_false, false_and, or_false, false_or] <;> omega), hI18, (Chg.mono S19 (by decide))⟩)
    exact k_throw C rfl rfl rfl rfl rfl rfl (Nat.le_of_ble_eq_true rfl) (Nat.le_of_ble_eq_true rfl) (Nat.le_of_ble_eq_true rfl) (Or.inr ⟨_, _, _, (by decide : 1 ∈ [0, 1]), rfl, rfl, ⟨⟨hI, Chg.rf⟩, (fun h9 => absurd h9 (by decide)), (fun h9 => absurd h9 (by decide)), (fun h9 => absurd h9 (by decide)), (fun h9 => absurd h9 (by decide)), (fun h9 => absurd h9 (by decide)), (fun h9 => absurd h9 (by decide)), (fun h9 => absurd h9 (by decide)), (fun _ => by first | omega | (simp only [k0_r0_0_1, k0_r0_1_0, k0_r0_1_1, k0_r0_1_2, k0_r0_2_0, k0_r0_2_1, k0_r0_2_2, and_true, true_and, or_true, true_or, and_false, false_and, or_false, false_or] <;> omega)), (fun _ => by first | omega | (simp only [k0_r0_0_1, k0_r0_1_0, k0_r0_1_1, k0_r0_1_2, k0_r0_2_0, k0_r0_2_1, k0_r0_2_2, and_true, true_and, or_true, true_or, and_false, false_and, or_false, false_or] <;> omega)), (fun _ => by first | omega | (simp only [k0_r0_0_1, k0_r0_1_0, k0_r0_1_1, k0_r0_1_2, k0_r0_2_0, k0_r0_2_1, k0_r0_2_2, and_true, true_and, or_true, true_or, and_false, false_and, or_false, false_or] <;> omega)), (fun _ => by first | omega | (simp only [k0_r0_0_1, k0_r0_1_0, k0_r0_1_1, k0_r0_1_2, k0_r0_2_0, k0_r0_2_1, k0_r0_2_2, and_true, true_and, or_true, true_or, and_false, false_and, or_false, false_or] <;> omega)), (fun _ => by first | omega | (simp only [k0_r0_0_1, k0_r0_1_0, k0_r0_1_1, k0_r0_1_2, k0_r0_2_0, k0_r0_2_1, k0_r0_2_2, and_true, true_and, or_true, true_or, and_false, false_and, or_false, false_or] <;> omega)), (fun _ => by first | omega | (simp only [k0_r0_0_1, k0_r0_1_0, k0_r0_1_1, k0_r0_1_2, k0_r0_2_0, k0_r0_2_1, k0_r0_2_2, and_true, true_and, or_true, true_or, and_false, false_and, or_false, false_or] <;> omega)), (fun _ => by first | omega | (simp only [k0_r0_0_1, k0_r0_1_0, k0_r0_1_1, k0_r0_1_2, k0_r0_2_0, k0_r0_2_1, k0_r0_2_2, and_true, true_and, or_true, true_or, and_false, false_and, or_false, false_or] <;> omega))⟩⟩)
  refine k_iload_n C rfl rfl rfl ?_
  refine z_bipush C (z := 17) rfl rfl rfl (fun x27 ex27 => ?_)
  refine b_icmp_eq C (t := 32) rfl rfl rfl (fun c28 => ?_) (fun c28 => ?_)
  · skip
    refine k_aload_n C rfl rfl rfl ?_
    refine g_R C rfl rfl rfl T_r0 rfl R_r0_1 ?_
    refine g_I C rfl rfl rfl T_r0_1 rfl k0_r0_1_1 ?_
    refine b_if_gt C (t := 52) rfl rfl rfl (fun c29 => ?_) (fun c29 => ?_)
    · skip
      exact k_throw C rfl rfl rfl rfl rfl rfl (Nat.le_of_ble_eq_true rfl) (Nat.le_of_ble_eq_true rfl) (Nat.le_of_ble_eq_true rfl) (Or.inr ⟨_, _, _, (by decide : 1 ∈ [0, 1]), rfl, rfl, ⟨⟨hI, Chg.rf⟩, (fun h9 => absurd h9 (by decide)), (fun h9 => absurd h9 (by decide)), (fun h9 => absurd h9 (by decide)), (fun h9 => absurd h9 (by decide)), (fun h9 => absurd h9 (by decide)), (fun h9 => absurd h9 (by decide)), (fun h9 => absurd h9 (by decide)), (fun _ => by first | omega | (simp only [k0_r0_0_1, k0_r0_1_0, k0_r0_1_1, k0_r0_1_2, k0_r0_2_0, k0_r0_2_1, k0_r0_2_2, and_true, true_and, or_true, true_or, and_false, false_and, or_false, false_or] <;> omega)), (fun _ => by first | omega | (simp only [k0_r0_0_1, k0_r0_1_0, k0_r0_1_1, k0_r0_1_2, k0_r0_2_0, k0_r0_2_1, k0_r0_2_2, and_true, true_and, or_true, true_or, and_false, false_and, or_false, false_or] <;> omega)), (fun _ => by first | omega | (simp only [k0_r0_0_1, k0_r0_1_0, k0_r0_1_1, k0_r0_1_2, k0_r0_2_0, k0_r0_2_1, k0_r0_2_2, and_true, true_and, or_true, true_or, and_false, false_and, or_false, false_or] <;> omega)), (fun _ => by first | omega | (simp only [k0_r0_0_1, k0_r0_1_0, k0_r0_1_1, k0_r0_1_2, k0_r0_2_0, k0_r0_2_1, k0_r0_2_2, and_true, true_and, or_true, true_or, and_false, false_and, or_false, false_or] <;> omega)), (fun _ => by first | omega | (simp only [k0_r0_0_1, k0_r0_1_0, k0_r0_1_1, k0_r0_1_2, k0_r0_2_0, k0_r0_2_1, k0_r0_2_2, and_true, true_and, or_true, true_or, and_false, false_and, or_false, false_or] <;> omega)), (fun _ => by first | omega | (simp only [k0_r0_0_1, k0_r0_1_0, k0_r0_1_1, k0_r0_1_2, k0_r0_2_0, k0_r0_2_1, k0_r0_2_2, and_true, true_and, or_true, true_or, and_false, false_and, or_false, false_or] <;> omega)), (fun _ => by first | omega | (simp only [k0_r0_0_1, k0_r0_1_0, k0_r0_1_1, k0_r0_1_2, k0_r0_2_0, k0_r0_2_1, k0_r0_2_2, and_true, true_and, or_true, true_or, and_false, false_and, or_false, false_or] <;> omega))⟩⟩)
    refine k_aload_n C rfl rfl rfl ?_
    refine g_R C rfl rfl rfl T_r0 rfl R_r0_1 ?_
    refine g_I C rfl rfl rfl T_r0_1 rfl k0_r0_1_2 ?_
    refine b_if_le C (t := 60) rfl rfl rfl (fun c30 => ?_) (fun c30 => ?_)
    · skip
      refine k_aload_n C rfl rfl rfl ?_
      refine g_R C rfl rfl rfl T_r0 rfl R_r0_1 ?_
      refine k_iload_n C rfl rfl rfl ?_
      refine z_pI C rfl rfl rfl T_r0_1 (Or.inr rfl) rfl (fun I31 uI31 => ?_)
      have hI31 : IX A T I31 := IX.f hI T_r0_1 ⟨fun h => absurd h (by decide), fun _ _ => ⟨by omega, by omega⟩⟩ uI31
      have S32 : Chg A T [(9, 0)] I L I31 L := Chg.f A_r0_1 T_r0_1 uI31
      have e33 := u2_j uI31 (by decide) k0_r0_0_1
      have e34 := u2_j uI31 (by decide) k0_r0_1_1
      have e35 := u2_j uI31 (by decide) k0_r0_1_2
      have e36 := u2_n uI31 (by first | exact hnk | exact fun e => hnk e.symm) k0_r0_2_0
      have e37 := u2_j uI31 (by decide) k0_r0_2_1
      have e38 := u2_j uI31 (by decide) k0_r0_2_2
      have e39 := u2_e uI31
      exact k_vret C rfl rfl (Nat.le_of_ble_eq_true rfl) (Nat.le_of_ble_eq_true rfl) (Or.inl ⟨_, _, rfl, rfl, by first | omega | (simp only [e33, e34, e35, e36, e37, e38, e39, k0_r0_0_1, k0_r0_1_0, k0_r0_1_1, k0_r0_1_2, k0_r0_2_0, k0_r0_2_1, k0_r0_2_2, and_true, true_and, or_true, true_or, and_false, false_and, or_false, false_or] <;> omega), by first | omega | (simp only [e33, e34, e35, e36, e37, e38, e39, k0_r0_0_1, k0_r0_1_0, k0_r0_1_1, k0_r0_1_2, k0_r0_2_0, k0_r0_2_1, k0_r0_2_2, and_true, true_and, or_true, true_or, and_false, false_and, or_false, false_or] <;> omega), by first | omega | (simp only [e33, e34, e35, e36, e37, e38, e39, k0_r0_0_1, k0_r0_1_0, k0_r0_1_1, k0_r0_1_2, k0_r0_2_0, k0_r0_2_1, k0_r0_2_2, and_true, true_and, or_true, true_or, and_false, false_and, or_false, false_or] <;> omega), by first | omega | (simp only [e33, e34, e35, e36, e37, e38, e39, k0_r0_0_1, k0_r0_1_0, k0_r0_1_1, k0_r0_1_2, k0_r0_2_0, k0_r0_2_1, k0_r0_2_2, and_true, true_and, or_true, true_or, and_false, false_and, or_false, false_or] <;> omega), by first | omega | (simp only [e33, e34, e35, e36, e37, e38, e39, k0_r0_0_1, k0_r0_1_0, k0_r0_1_1, k0_r0_1_2, k0_r0_2_0, k0_r0_2_1, k0_r0_2_2, and_true, true_and, or_true, true_or, and_false, false_and, or_false, false_or] <;> omega), by first | omega | (simp only [e33, e34, e35, e36, e37, e38, e39, k0_r0_0_1, k0_r0_1_0, k0_r0_1_1, k0_r0_1_2, k0_r0_2_0, k0_r0_2_1, k0_r0_2_2, and_true, true_and, or_true, true_or, and_false, false_and, or_false, false_or] <;> omega), hI31, (Chg.mono S32 (by decide))⟩)
    exact k_throw C rfl rfl rfl rfl rfl rfl (Nat.le_of_ble_eq_true rfl) (Nat.le_of_ble_eq_true rfl) (Nat.le_of_ble_eq_true rfl) (Or.inr ⟨_, _, _, (by decide : 1 ∈ [0, 1]), rfl, rfl, ⟨⟨hI, Chg.rf⟩, (fun h9 => absurd h9 (by decide)), (fun h9 => absurd h9 (by decide)), (fun h9 => absurd h9 (by decide)), (fun h9 => absurd h9 (by decide)), (fun h9 => absurd h9 (by decide)), (fun h9 => absurd h9 (by decide)), (fun h9 => absurd h9 (by decide)), (fun _ => by first | omega | (simp only [k0_r0_0_1, k0_r0_1_0, k0_r0_1_1, k0_r0_1_2, k0_r0_2_0, k0_r0_2_1, k0_r0_2_2, and_true, true_and, or_true, true_or, and_false, false_and, or_false, false_or] <;> omega)), (fun _ => by first | omega | (simp only [k0_r0_0_1, k0_r0_1_0, k0_r0_1_1, k0_r0_1_2, k0_r0_2_0, k0_r0_2_1, k0_r0_2_2, and_true, true_and, or_true, true_or, and_false, false_and, or_false, false_or] <;> omega)), (fun _ => by first | omega | (simp only [k0_r0_0_1, k0_r0_1_0, k0_r0_1_1, k0_r0_1_2, k0_r0_2_0, k0_r0_2_1, k0_r0_2_2, and_true, true_and, or_true, true_or, and_false, false_and, or_false, false_or] <;> omega)), (fun _ => by first | omega | (simp only [k0_r0_0_1, k0_r0_1_0, k0_r0_1_1, k0_r0_1_2, k0_r0_2_0, k0_r0_2_1, k0_r0_2_2, and_true, true_and, or_true, true_or, and_false, false_and, or_false, false_or] <;> omega)), (fun _ => by first | omega | (simp only [k0_r0_0_1, k0_r0_1_0, k0_r0_1_1, k0_r0_1_2, k0_r0_2_0, k0_r0_2_1, k0_r0_2_2, and_true, true_and, or_true, true_or, and_false, false_and, or_false, false_or] <;> omega)), (fun _ => by first | omega | (simp only [k0_r0_0_1, k0_r0_1_0, k0_r0_1_1, k0_r0_1_2, k0_r0_2_0, k0_r0_2_1, k0_r0_2_2, and_true, true_and, or_true, true_or, and_false, false_and, or_false, false_or] <;> omega)), (fun _ => by first | omega | (simp only [k0_r0_0_1, k0_r0_1_0, k0_r0_1_1, k0_r0_1_2, k0_r0_2_0, k0_r0_2_1, k0_r0_2_2, and_true, true_and, or_true, true_or, and_false, false_and, or_false, false_or] <;> omega))⟩⟩)
  refine k_iload_n C rfl rfl rfl ?_
  refine z_bipush C (z := 19) rfl rfl rfl (fun x40 ex40 => ?_)
  refine b_icmp_eq C (t := 32) rfl rfl rfl (fun c41 => ?_) (fun c41 => ?_)
  · skip
    refine k_aload_n C rfl rfl rfl ?_
    refine g_R C rfl rfl rfl T_r0 rfl R_r0_1 ?_
    refine g_I C rfl rfl rfl T_r0_1 rfl k0_r0_1_1 ?_
    refine b_if_gt C (t := 52) rfl rfl rfl (fun c42 => ?_) (fun c42 => ?_)
    · skip
      exact k_throw C rfl rfl rfl rfl rfl rfl (Nat.le_of_ble_eq_true rfl) (Nat.le_of_ble_eq_true rfl) (Nat.le_of_ble_eq_true rfl) (Or.inr ⟨_, _, _, (by decide : 1 ∈ [0, 1]), rfl, rfl, ⟨⟨hI, Chg.rf⟩, (fun h9 => absurd h9 (by decide)), (fun h9 => absurd h9 (by decide)), (fun h9 => absurd h9 (by decide)), (fun h9 => absurd h9 (by decide)), (fun h9 => absurd h9 (by decide)), (fun h9 => absurd h9 (by decide)), (fun h9 => absurd h9 (by decide)), (fun _ => by first | omega | (simp only [k0_r0_0_1, k0_r0_1_0, k0_r0_1_1, k0_r0_1_2, k0_r0_2_0, k0_r0_2_1, k0_r0_2_2, and_true, true_and, or_true, true_or, and_false, false_and, or_false, false_or] <;> omega)), (fun _ => by first | omega | (simp only [k0_r0_0_1, k0_r0_1_0, k0_r0_1_1, k0_r0_1_2, k0_r0_2_0, k0_r0_2_1, k0_r0_2_2, and_true, true_and, or_true, true_or, and_false, false_and, or_false, false_or] <;> omega)), (fun _ => by first | omega | (simp only [k0_r0_0_1, k0_r0_1_0, k0_r0_1_1, k0_r0_1_2, k0_r0_2_0, k0_r0_2_1, k0_r0_2_2, and_true, true_and, or_true, true_or, and_false, false_and, or_false, false_or] <;> omega)), (fun _ => by first | omega | (simp only [k0_r0_0_1, k0_r0_1_0, k0_r0_1_1, k0_r0_1_2, k0_r0_2_0, k0_r0_2_1, k0_r0_2_2, and_true, true_and, or_true, true_or, and_false, false_and, or_false, false_or] <;> omega)), (fun _ => by first | omega | (simp only [k0_r0_0_1, k0_r0_1_0, k0_r0_1_1, k0_r0_1_2, k0_r0_2_0, k0_r0_2_1, k0_r0_2_2, and_true, true_and, or_true, true_or, and_false, false_and, or_false, false_or] <;> omega)), (fun _ => by first | omega | (simp only [k0_r0_0_1, k0_r0_1_0, k0_r0_1_1, k0_r0_1_2, k0_r0_2_0, k0_r0_2_1, k0_r0_2_2, and_true, true_and, or_true, true_or, and_false, false_and, or_false, false_or] <;> omega)), (fun _ => by first | omega | (simp only [k0_r0_0_1, k0_r0_1_0, k0_r0_1_1, k0_r0_1_2, k0_r0_2_0, k0_r0_2_1, k0_r0_2_2, and_true, true_and, or_true, true_or, and_false, false_and, or_false, false_or] <;> omega))⟩⟩)
    refine k_aload_n C rfl rfl rfl ?_
    refine g_R C rfl rfl rfl T_r0 rfl R_r0_1 ?_
    refine g_I C rfl rfl rfl T_r0_1 rfl k0_r0_1_2 ?_
    refine b_if_le C (t := 60) rfl rfl rfl (fun c43 => ?_) (fun c43 => ?_)
    · skip
      refine k_aload_n C rfl rfl rfl ?_
      refine g_R C rfl rfl rfl T_r0 rfl R_r0_1 ?_
      refine k_iload_n C rfl rfl rfl ?_
      refine z_pI C rfl rfl rfl T_r0_1 (Or.inr rfl) rfl (fun I44 uI44 => ?_)
      have hI44 : IX A T I44 := IX.f hI T_r0_1 ⟨fun h => absurd h (by decide), fun _ _ => ⟨by omega, by omega⟩⟩ uI44
      have S45 : Chg A T [(9, 0)] I L I44 L := Chg.f A_r0_1 T_r0_1 uI44
      have e46 := u2_j uI44 (by decide) k0_r0_0_1
      have e47 := u2_j uI44 (by decide) k0_r0_1_1
      have e48 := u2_j uI44 (by decide) k0_r0_1_2
      have e49 := u2_n uI44 (by first | exact hnk | exact fun e => hnk e.symm) k0_r0_2_0
      have e50 := u2_j uI44 (by decide) k0_r0_2_1
      have e51 := u2_j uI44 (by decide) k0_r0_2_2
      have e52 := u2_e uI44
      exact k_vret C rfl rfl (Nat.le_of_ble_eq_true rfl) (Nat.le_of_ble_eq_true rfl) (Or.inl ⟨_, _, rfl, rfl, by first | omega | (simp only [e46, e47, e48, e49, e50, e51, e52, k0_r0_0_1, k0_r0_1_0, k0_r0_1_1, k0_r0_1_2, k0_r0_2_0, k0_r0_2_1, k0_r0_2_2, and_true, true_and, or_true, true_or, and_false, false_and, or_false, false_or] <;> omega), by first | omega | (simp only [e46, e47, e48, e49, e50, e51, e52, k0_r0_0_1, k0_r0_1_0, k0_r0_1_1, k0_r0_1_2, k0_r0_2_0, k0_r0_2_1, k0_r0_2_2, and_true, true_and, or_true, true_or, and_false, false_and, or_false, false_or] <;> omega), by first | omega | (simp only [e46, e47, e48, e49, e50, e51, e52, k0_r0_0_1, k0_r0_1_0, k0_r0_1_1, k0_r0_1_2, k0_r0_2_0, k0_r0_2_1, k0_r0_2_2, and_true, true_and, or_true, true_or, and_false, false_and, or_false, false_or] <;> omega), by first | omega | (simp only [e46, e47, e48, e49, e50, e51, e52, k0_r0_0_1, k0_r0_1_0, k0_r0_1_1, k0_r0_1_2, k0_r0_2_0, k0_r0_2_1, k0_r0_2_2, and_true, true_and, or_true, true_or, and_false, false_and, or_false, false_or] <;> omega), by first | omega | (simp only [e46, e47, e48, e49, e50, e51, e52, k0_r0_0_1, k0_r0_1_0, k0_r0_1_1, k0_r0_1_2, k0_r0_2_0, k0_r0_2_1, k0_r0_2_2, and_true, true_and, or_true, true_or, and_false, false_and, or_false, false_or] <;> omega), by first | omega | (simp only [e46, e47, e48, e49, e50, e51, e52, k0_r0_0_1, k0_r0_1_0, k0_r0_1_1, k0_r0_1_2, k0_r0_2_0, k0_r0_2_1, k0_r0_2_2, and_true, true_and, or_true, true_or, and_false, false_and, or_false, false_or] <;> omega), hI44, (Chg.mono S45 (by decide))⟩)
    exact k_throw C rfl rfl rfl rfl rfl rfl (Nat.le_of_ble_eq_true rfl) (Nat.le_of_ble_eq_true rfl) (Nat.le_of_ble_eq_true rfl) (Or.inr ⟨_, _, _, (by decide : 1 ∈ [0, 1]), rfl, rfl, ⟨⟨hI, Chg.rf⟩, (fun h9 => absurd h9 (by decide)), (fun h9 => absurd h9 (by decide)), (fun h9 => absurd h9 (by decide)), (fun h9 => absurd h9 (by decide)), (fun h9 => absurd h9 (by decide)), (fun h9 => absurd h9 (by decide)), (fun h9 => absurd h9 (by decide)), (fun _ => by first | omega | (simp only [k0_r0_0_1, k0_r0_1_0, k0_r0_1_1, k0_r0_1_2, k0_r0_2_0, k0_r0_2_1, k0_r0_2_2, and_true, true_and, or_true, true_or, and_false, false_and, or_false, false_or] <;> omega)), (fun _ => by first | omega | (simp only [k0_r0_0_1, k0_r0_1_0, k0_r0_1_1, k0_r0_1_2, k0_r0_2_0, k0_r0_2_1, k0_r0_2_2, and_true, true_and, or_true, true_or, and_false, false_and, or_false, false_or] <;> omega)), (fun _ => by first | omega | (simp only [k0_r0_0_1, k0_r0_1_0, k0_r0_1_1, k0_r0_1_2, k0_r0_2_0, k0_r0_2_1, k0_r0_2_2, and_true, true_and, or_true, true_or, and_false, false_and, or_false, false_or] <;> omega)), (fun _ => by first | omega | (simp only [k0_r0_0_1, k0_r0_1_0, k0_r0_1_1, k0_r0_1_2, k0_r0_2_0, k0_r0_2_1, k0_r0_2_2, and_true, true_and, or_true, true_or, and_false, false_and, or_false, false_or] <;> omega)), (fun _ => by first | omega | (simp only [k0_r0_0_1, k0_r0_1_0, k0_r0_1_1, k0_r0_1_2, k0_r0_2_0, k0_r0_2_1, k0_r0_2_2, and_true, true_and, or_true, true_or, and_false, false_and, or_false, false_or] <;> omega)), (fun _ => by first | omega | (simp only [k0_r0_0_1, k0_r0_1_0, k0_r0_1_1, k0_r0_1_2, k0_r0_2_0, k0_r0_2_1, k0_r0_2_2, and_true, true_and, or_true, true_or, and_false, false_and, or_false, false_or] <;> omega)), (fun _ => by first | omega | (simp only [k0_r0_0_1, k0_r0_1_0, k0_r0_1_1, k0_r0_1_2, k0_r0_2_0, k0_r0_2_1, k0_r0_2_2, and_true, true_and, or_true, true_or, and_false, false_and, or_false, false_or] <;> omega))⟩⟩)
  exact k_throw C rfl rfl rfl rfl rfl rfl (Nat.le_of_ble_eq_true rfl) (Nat.le_of_ble_eq_true rfl) (Nat.le_of_ble_eq_true rfl) (Or.inr ⟨_, _, _, (by decide : 0 ∈ [0, 1]), rfl, rfl, ⟨⟨hI, Chg.rf⟩, (fun _ => by first | omega | (simp only [k0_r0_0_1, k0_r0_1_0, k0_r0_1_1, k0_r0_1_2, k0_r0_2_0, k0_r0_2_1, k0_r0_2_2, and_true, true_and, or_true, true_or, and_false, false_and, or_false, false_or] <;> omega)), (fun _ => by first | omega | (simp only [k0_r0_0_1, k0_r0_1_0, k0_r0_1_1, k0_r0_1_2, k0_r0_2_0, k0_r0_2_1, k0_r0_2_2, and_true, true_and, or_true, true_or, and_false, false_and, or_false, false_or] <;> omega)), (fun _ => by first | omega | (simp only [k0_r0_0_1, k0_r0_1_0, k0_r0_1_1, k0_r0_1_2, k0_r0_2_0, k0_r0_2_1, k0_r0_2_2, and_true, true_and, or_true, true_or, and_false, false_and, or_false, false_or] <;> omega)), (fun _ => by first | omega | (simp only [k0_r0_0_1, k0_r0_1_0, k0_r0_1_1, k0_r0_1_2, k0_r0_2_0, k0_r0_2_1, k0_r0_2_2, and_true, true_and, or_true, true_or, and_false, false_and, or_false, false_or] <;> omega)), (fun _ => by first | omega | (simp only [k0_r0_0_1, k0_r0_1_0, k0_r0_1_1, k0_r0_1_2, k0_r0_2_0, k0_r0_2_1, k0_r0_2_2, and_true, true_and, or_true, true_or, and_false, false_and, or_false, false_or] <;> omega)), (fun _ => by first | omega | (simp only [k0_r0_0_1, k0_r0_1_0, k0_r0_1_1, k0_r0_1_2, k0_r0_2_0, k0_r0_2_1, k0_r0_2_2, and_true, true_and, or_true, true_or, and_false, false_and, or_false, false_or] <;> omega)), (fun _ => by first | omega | (simp only [k0_r0_0_1, k0_r0_1_0, k0_r0_1_1, k0_r0_1_2, k0_r0_2_0, k0_r0_2_1, k0_r0_2_2, and_true, true_and, or_true, true_or, and_false, false_and, or_false, false_or] <;> omega)), (fun h9 => absurd h9 (by decide)), (fun h9 => absurd h9 (by decide)), (fun h9 => absurd h9 (by decide)), (fun h9 => absurd h9 (by decide)), (fun h9 => absurd h9 (by decide)), (fun h9 => absurd h9 (by decide)), (fun h9 => absurd h9 (by decide))⟩⟩)

theorem a_X11_form_e {d : Nat} {T N : Nat → Nat} {I : IT} {L : LT} {R : RT} {A : Nat → Prop} {r0 nw kp rd : Nat} (hI : IX A T I) (H_r0 : (h_LF T N R A) r0) (Rnw : R r0 1 = some nw) (Rkp : R r0 2 = some kp) (Rrd : R r0 0 = some rd) (hnk : kp ≠ nw) (hp0 : 0 ≤ (I nw 1).toInt) : Ex (d + 4) 129 [.ref r0] (T, N, I, L, R) 1 6 (pW2 [0, 2] T N R (pI T N R (fun x9 I9 L9 => ((I9 rd 1).toInt = 0) ∧ (1 ≤ (I rd 1).toInt ∧ (I rd 1).toInt ≤ 9 ∧ (I nw 1).toInt < 16 ∧ x9.toInt = (I nw 1).toInt ∧ (I9 nw 1).toInt = (I nw 1).toInt + 1) ∧ ((I9 nw 0).toInt = (I nw 0).toInt) ∧ ((I9 nw 2).toInt = (I nw 2).toInt) ∧ ((I9 kp 0).toInt = (I kp 0).toInt) ∧ ((I9 kp 1).toInt = (I kp 1).toInt) ∧ ((I9 kp 2).toInt = (I kp 2).toInt) ∧ (IX A T I9 ∧ Chg A T [(3, 0), (5, 1), (9, 1), (9, 5)] I L I9 L9))) (fun e9 I9 L9 => (IX A T I9 ∧ Chg A T [(3, 0), (5, 1), (9, 1), (9, 5)] I L I9 L9) ∧ (e9 = 0 → (I rd 1).toInt < 1 ∨ 9 < (I rd 1).toInt) ∧ (e9 = 0 → (I9 rd 1).toInt = 0) ∧ (e9 = 0 → (I9 nw 0).toInt = (I nw 0).toInt) ∧ (e9 = 0 → (I9 nw 1).toInt = (I nw 1).toInt) ∧ (e9 = 0 → (I9 nw 2).toInt = (I nw 2).toInt) ∧ (e9 = 0 → (I9 kp 0).toInt = (I kp 0).toInt) ∧ (e9 = 0 → (I9 kp 1).toInt = (I kp 1).toInt) ∧ (e9 = 0 → (I9 kp 2).toInt = (I kp 2).toInt) ∧ (e9 = 2 → 1 ≤ (I rd 1).toInt ∧ (I rd 1).toInt ≤ 9 ∧ 16 ≤ (I nw 1).toInt) ∧ (e9 = 2 → (I9 rd 1).toInt = 0) ∧ (e9 = 2 → (I9 nw 0).toInt = (I nw 0).toInt) ∧ (e9 = 2 → (I9 nw 1).toInt = (I nw 1).toInt) ∧ (e9 = 2 → (I9 nw 2).toInt = (I nw 2).toInt) ∧ (e9 = 2 → (I9 kp 0).toInt = (I kp 0).toInt) ∧ (e9 = 2 → (I9 kp 1).toInt = (I kp 1).toInt) ∧ (e9 = 2 → (I9 kp 2).toInt = (I kp 2).toInt))) := by
  refine ⟨_, rfl, Nat.le_of_ble_eq_true rfl, fun V C S => ?_⟩
  show V 0 [(0, .ref r0)] [] (T, N, I, L, R) 0 0
  obtain ⟨T_r0, A_r0, ⟨r0_0, R_r0_0, H_r0_0⟩, ⟨r0_1, R_r0_1, H_r0_1⟩, ⟨r0_2, R_r0_2, H_r0_2⟩, ⟨r0_5, R_r0_5, H_r0_5⟩, ⟨r0_6, R_r0_6, H_r0_6⟩, ⟨r0_7, R_r0_7, H_r0_7⟩, ⟨r0_8, R_r0_8, H_r0_8⟩, ⟨r0_9, R_r0_9, H_r0_9⟩, ⟨r0_10, R_r0_10, H_r0_10⟩, ⟨r0_11, R_r0_11, H_r0_11⟩, ⟨r0_12, R_r0_12, H_r0_12⟩, ⟨r0_13, R_r0_13, H_r0_13⟩⟩ := id H_r0
  have z1 : r0_1 = nw := Option.some.inj (R_r0_1.symm.trans Rnw)
  subst z1
  have z2 : r0_2 = kp := Option.some.inj (R_r0_2.symm.trans Rkp)
  subst z2
  have z3 : r0_0 = rd := Option.some.inj (R_r0_0.symm.trans Rrd)
  subst z3
  obtain ⟨T_r0_0, A_r0_0, ⟨r0_0_0, R_r0_0_0, H_r0_0_0⟩, ⟨r0_0_2, R_r0_0_2, H_r0_0_2⟩⟩ := id H_r0_0
  obtain ⟨w_r0_0_1, k0_r0_0_1⟩ : ∃ x, I r0_0 1 = x := ⟨_, rfl⟩
  have gw_r0_0_1 := rg w_r0_0_1
  obtain ⟨T_r0_1, A_r0_1, ⟨r0_1_6, R_r0_1_6, H_r0_1_6⟩, ⟨r0_1_7, R_r0_1_7, H_r0_1_7⟩, ⟨r0_1_8, R_r0_1_8, H_r0_1_8⟩, ⟨r0_1_9, R_r0_1_9, H_r0_1_9⟩, ⟨r0_1_10, R_r0_1_10, H_r0_1_10⟩⟩ := id H_r0_1
  obtain ⟨w_r0_1_0, k0_r0_1_0⟩ : ∃ x, I r0_1 0 = x := ⟨_, rfl⟩
  have gw_r0_1_0 := rg w_r0_1_0
  have ow_r0_1_0 := IX.p hI A_r0_1 T_r0_1 k0_r0_1_0
  obtain ⟨w_r0_1_1, k0_r0_1_1⟩ : ∃ x, I r0_1 1 = x := ⟨_, rfl⟩
  have gw_r0_1_1 := rg w_r0_1_1
  obtain ⟨w_r0_1_2, k0_r0_1_2⟩ : ∃ x, I r0_1 2 = x := ⟨_, rfl⟩
  have gw_r0_1_2 := rg w_r0_1_2
  obtain ⟨T_r0_2, A_r0_2, ⟨r0_2_6, R_r0_2_6, H_r0_2_6⟩, ⟨r0_2_7, R_r0_2_7, H_r0_2_7⟩, ⟨r0_2_8, R_r0_2_8, H_r0_2_8⟩, ⟨r0_2_9, R_r0_2_9, H_r0_2_9⟩, ⟨r0_2_10, R_r0_2_10, H_r0_2_10⟩⟩ := id H_r0_2
  obtain ⟨w_r0_2_0, k0_r0_2_0⟩ : ∃ x, I r0_2 0 = x := ⟨_, rfl⟩
  have gw_r0_2_0 := rg w_r0_2_0
  have ow_r0_2_0 := IX.p hI A_r0_2 T_r0_2 k0_r0_2_0
  obtain ⟨w_r0_2_1, k0_r0_2_1⟩ : ∃ x, I r0_2 1 = x := ⟨_, rfl⟩
  have gw_r0_2_1 := rg w_r0_2_1
  obtain ⟨w_r0_2_2, k0_r0_2_2⟩ : ∃ x, I r0_2 2 = x := ⟨_, rfl⟩
  have gw_r0_2_2 := rg w_r0_2_2
  try simp only [k0_r0_0_1, k0_r0_1_0, k0_r0_1_1, k0_r0_1_2, k0_r0_2_0, k0_r0_2_1, k0_r0_2_2] at hp0
  refine k_aload_n C rfl rfl rfl ?_
  refine g_R C rfl rfl rfl T_r0 rfl R_r0_0 ?_
  refine c_VI C (a_X4_useUp_e hI H_r0_0) rfl rfl rfl rfl rfl ⟨_, rfl, rfl, T_r0_0, Nat.le_of_ble_eq_true rfl⟩ rfl rfl (Nat.le_of_ble_eq_true rfl) (Nat.le_of_ble_eq_true rfl) (Nat.le_of_ble_eq_true rfl) ?_
  rintro x1 I2 L3 ⟨p0x1, p1x1, hI2, S4⟩
  have e5 := Chg.k S4 T_r0_1 (by decide) (by decide) k0_r0_1_0
  have e6 := Chg.k S4 T_r0_1 (by decide) (by decide) k0_r0_1_1
  have e7 := Chg.k S4 T_r0_1 (by decide) (by decide) k0_r0_1_2
  have e8 := Chg.k S4 T_r0_2 (by decide) (by decide) k0_r0_2_0
  have e9 := Chg.k S4 T_r0_2 (by decide) (by decide) k0_r0_2_1
  have e10 := Chg.k S4 T_r0_2 (by decide) (by decide) k0_r0_2_2
  have gx1 := rg x1
  obtain ⟨x11, e12⟩ : ∃ x, I2 r0_0 1 = x := ⟨_, rfl⟩
  have gx11 := rg x11
  try simp only [k0_r0_0_1, k0_r0_1_0, k0_r0_1_1, k0_r0_1_2, k0_r0_2_0, k0_r0_2_1, k0_r0_2_2, e12] at p0x1
  try have q0x1 := congrArg Int32.toInt p0x1
  try simp only [k0_r0_0_1, k0_r0_1_0, k0_r0_1_1, k0_r0_1_2, k0_r0_2_0, k0_r0_2_1, k0_r0_2_2, e12] at p1x1
  try have q1x1 := congrArg Int32.toInt p1x1
  refine k_istore_n C (lw := [(1, .int x1), (0, .ref r0)]) rfl rfl (Nat.le_of_ble_eq_true rfl) rfl ?_
  refine k_iload_n C rfl rfl rfl ?_
  refine z_iconst C (z := 1) rfl rfl rfl (fun x13 ex13 => ?_)
  refine b_icmp_lt C (t := 19) rfl rfl rfl (fun c14 => ?_) (fun c14 => ?_)
  · skip
    exact k_throw C rfl rfl rfl rfl rfl rfl (Nat.le_of_ble_eq_true rfl) (Nat.le_of_ble_eq_true rfl) (Nat.le_of_ble_eq_true rfl) (Or.inr ⟨_, _, _, (by decide : 0 ∈ [0, 2]), rfl, rfl, ⟨⟨hI2, (Chg.mono S4 (by decide))⟩, (fun _ => by first | omega | (simp only [e5, e6, e7, e8, e9, e10, e12, k0_r0_0_1, k0_r0_1_0, k0_r0_1_1, k0_r0_1_2, k0_r0_2_0, k0_r0_2_1, k0_r0_2_2, and_true, true_and, or_true, true_or, and_false, false_and, or_false, false_or] <;> omega)), (fun _ => by first | omega | (simp only [e5, e6, e7, e8, e9, e10, e12, k0_r0_0_1, k0_r0_1_0, k0_r0_1_1, k0_r0_1_2, k0_r0_2_0, k0_r0_2_1, k0_r0_2_2, and_true, true_and, or_true, true_or, and_false, false_and, or_false, false_or] <;> omega)), (fun _ => by first | omega | (simp only [e5, e6, e7, e8, e9, e10, e12, k0_r0_0_1, k0_r0_1_0, k0_r0_1_1, k0_r0_1_2, k0_r0_2_0, k0_r0_2_1, k0_r0_2_2, and_true, true_and, or_true, true_or, and_false, false_and, or_false, false_or] <;> omega)), (fun _ => by first | omega | (simp only [e5, e6, e7, e8, e9, e10, e12, k0_r0_0_1, k0_r0_1_0, k0_r0_1_1, k0_r0_1_2, k0_r0_2_0, k0_r0_2_1, k0_r0_2_2, and_true, true_and, or_true, true_or, and_false, false_and, or_false, false_or] <;> omega)), (fun _ => by first | omega | (simp only [e5, e6, e7, e8, e9, e10, e12, k0_r0_0_1, k0_r0_1_0, k0_r0_1_1, k0_r0_1_2, k0_r0_2_0, k0_r0_2_1, k0_r0_2_2, and_true, true_and, or_true, true_or, and_false, false_and, or_false, false_or] <;> omega)), (fun _ => by first | omega | (simp only [e5, e6, e7, e8, e9, e10, e12, k0_r0_0_1, k0_r0_1_0, k0_r0_1_1, k0_r0_1_2, k0_r0_2_0, k0_r0_2_1, k0_r0_2_2, and_true, true_and, or_true, true_or, and_false, false_and, or_false, false_or] <;> omega)), (fun _ => by first | omega | (simp only [e5, e6, e7, e8, e9, e10, e12, k0_r0_0_1, k0_r0_1_0, k0_r0_1_1, k0_r0_1_2, k0_r0_2_0, k0_r0_2_1, k0_r0_2_2, and_true, true_and, or_true, true_or, and_false, false_and, or_false, false_or] <;> omega)), (fun _ => by first | omega | (simp only [e5, e6, e7, e8, e9, e10, e12, k0_r0_0_1, k0_r0_1_0, k0_r0_1_1, k0_r0_1_2, k0_r0_2_0, k0_r0_2_1, k0_r0_2_2, and_true, true_and, or_true, true_or, and_false, false_and, or_false, false_or] <;> omega)), (fun h9 => absurd h9 (by decide)), (fun h9 => absurd h9 (by decide)), (fun h9 => absurd h9 (by decide)), (fun h9 => absurd h9 (by decide)), (fun h9 => absurd h9 (by decide)), (fun h9 => absurd h9 (by decide)), (fun h9 => absurd h9 (by decide)), (fun h9 => absurd h9 (by decide))⟩⟩)
  refine k_iload_n C rfl rfl rfl ?_
  refine z_bipush C (z := 9) rfl rfl rfl (fun x15 ex15 => ?_)
  refine b_icmp_le C (t := 27) rfl rfl rfl (fun c16 => ?_) (fun c16 => ?_)
  · skip
    refine k_aload_n C rfl rfl rfl ?_
    refine g_R C rfl rfl rfl T_r0 rfl R_r0_1 ?_
    refine c_VR C (a_X8_nextForm_e hI2 H_r0_1 (by first | omega | (simp only [e5, e6, e7, e8, e9, e10, e12, and_true, true_and, or_true, true_or, and_false, false_and, or_false, false_or] <;> omega))) rfl rfl rfl rfl rfl ⟨_, rfl, rfl, T_r0_1, Nat.le_of_ble_eq_true rfl⟩ rfl rfl (Nat.le_of_ble_eq_true rfl) (Nat.le_of_ble_eq_true rfl) (Nat.le_of_ble_eq_true rfl) ?_
    rintro yy17 I18 L19 ⟨hyy17, p0yy17, p1yy17, p2yy17, hI18, S20⟩
    have e21 := Chg.k S20 T_r0_1 (by decide) (by decide) e5
    have e22 := Chg.k S20 T_r0_1 (by decide) (by decide) e7
    have e23 := Chg.k S20 T_r0_2 (by decide) (by decide) e8
    have e24 := (congrFun (p2yy17 r0_2 (by first | exact hnk | exact fun e => hnk e.symm) T_r0_2) 1).trans e9
    have e25 := Chg.k S20 T_r0_2 (by decide) (by decide) e10
    have e26 := Chg.k S20 T_r0_0 (by decide) (by decide) e12
    obtain ⟨x27, e28⟩ : ∃ x, I18 r0_1 1 = x := ⟨_, rfl⟩
    have gx27 := rg x27
    try simp only [e5, e6, e7, e8, e9, e10, e12, e28] at p0yy17
    try have q0yy17 := congrArg Int32.toInt p0yy17
    try simp only [e5, e6, e7, e8, e9, e10, e12, e28] at p1yy17
    try have q1yy17 := congrArg Int32.toInt p1yy17
    try simp only [e5, e6, e7, e8, e9, e10, e12, e28] at p2yy17
    try have q2yy17 := congrArg Int32.toInt p2yy17
    refine k_astore_nV C (x := yy17) (lw := [(2, va_rf yy17), (1, .int x1), (0, .ref r0)]) rfl rfl (Nat.le_of_ble_eq_true rfl) rfl ?_
    refine k_aload_nV C (x := yy17) rfl rfl rfl ?_
    refine k_ifnonnull C (x := yy17) (t := 47) rfl rfl rfl (fun c29 => ?_) (fun rr30 c29 => ?_)
    · skip
      subst c29
      have hn := p0yy17 rfl
      exact k_throw C rfl rfl rfl rfl rfl rfl (Nat.le_of_ble_eq_true rfl) (Nat.le_of_ble_eq_true rfl) (Nat.le_of_ble_eq_true rfl) (Or.inr ⟨_, _, _, (by decide : 2 ∈ [0, 2]), rfl, rfl, ⟨⟨hI18, (Chg.cons S4 (Chg.mono S20 (by decide)) (by decide))⟩, (fun h9 => absurd h9 (by decide)), (fun h9 => absurd h9 (by decide)), (fun h9 => absurd h9 (by decide)), (fun h9 => absurd h9 (by decide)), (fun h9 => absurd h9 (by decide)), (fun h9 => absurd h9 (by decide)), (fun h9 => absurd h9 (by decide)), (fun h9 => absurd h9 (by decide)), (fun _ => by first | omega | (simp only [e21, e22, e23, e24, e25, e26, e28, k0_r0_0_1, k0_r0_1_0, k0_r0_1_1, k0_r0_1_2, k0_r0_2_0, k0_r0_2_1, k0_r0_2_2, and_true, true_and, or_true, true_or, and_false, false_and, or_false, false_or] <;> omega)), (fun _ => by first | omega | (simp only [e21, e22, e23, e24, e25, e26, e28, k0_r0_0_1, k0_r0_1_0, k0_r0_1_1, k0_r0_1_2, k0_r0_2_0, k0_r0_2_1, k0_r0_2_2, and_true, true_and, or_true, true_or, and_false, false_and, or_false, false_or] <;> omega)), (fun _ => by first | omega | (simp only [e21, e22, e23, e24, e25, e26, e28, k0_r0_0_1, k0_r0_1_0, k0_r0_1_1, k0_r0_1_2, k0_r0_2_0, k0_r0_2_1, k0_r0_2_2, and_true, true_and, or_true, true_or, and_false, false_and, or_false, false_or] <;> omega)), (fun _ => by first | omega | (simp only [e21, e22, e23, e24, e25, e26, e28, k0_r0_0_1, k0_r0_1_0, k0_r0_1_1, k0_r0_1_2, k0_r0_2_0, k0_r0_2_1, k0_r0_2_2, and_true, true_and, or_true, true_or, and_false, false_and, or_false, false_or] <;> omega)), (fun _ => by first | omega | (simp only [e21, e22, e23, e24, e25, e26, e28, k0_r0_0_1, k0_r0_1_0, k0_r0_1_1, k0_r0_1_2, k0_r0_2_0, k0_r0_2_1, k0_r0_2_2, and_true, true_and, or_true, true_or, and_false, false_and, or_false, false_or] <;> omega)), (fun _ => by first | omega | (simp only [e21, e22, e23, e24, e25, e26, e28, k0_r0_0_1, k0_r0_1_0, k0_r0_1_1, k0_r0_1_2, k0_r0_2_0, k0_r0_2_1, k0_r0_2_2, and_true, true_and, or_true, true_or, and_false, false_and, or_false, false_or] <;> omega)), (fun _ => by first | omega | (simp only [e21, e22, e23, e24, e25, e26, e28, k0_r0_0_1, k0_r0_1_0, k0_r0_1_1, k0_r0_1_2, k0_r0_2_0, k0_r0_2_1, k0_r0_2_2, and_true, true_and, or_true, true_or, and_false, false_and, or_false, false_or] <;> omega)), (fun _ => by first | omega | (simp only [e21, e22, e23, e24, e25, e26, e28, k0_r0_0_1, k0_r0_1_0, k0_r0_1_1, k0_r0_1_2, k0_r0_2_0, k0_r0_2_1, k0_r0_2_2, and_true, true_and, or_true, true_or, and_false, false_and, or_false, false_or] <;> omega))⟩⟩)
    subst c29
    have H_rr30 := hyy17 rr30 rfl
    have hn := p1yy17 _ rfl
    refine k_aload_n C rfl rfl rfl ?_
    refine k_iload_n C rfl rfl rfl ?_
    refine z_iconst C (z := 1) rfl rfl rfl (fun x31 ex31 => ?_)
    refine z_isub C rfl rfl ⟨by omega, by omega⟩ (fun x32 ex32 => ?_)
    obtain ⟨T_rr30, A_rr30, ⟨rr30_1, R_rr30_1, H_rr30_1⟩⟩ := id H_rr30
    refine c_VV C (a_X2_begin hI18 H_rr30) rfl rfl rfl rfl rfl ⟨_, rfl, rfl, T_rr30, Nat.le_of_ble_eq_true rfl⟩ rfl rfl (Nat.le_of_ble_eq_true rfl) (Nat.le_of_ble_eq_true rfl) (Nat.le_of_ble_eq_true rfl) ?_
    rintro I34 L35 ⟨hI34, S36⟩
    have e37 := Chg.k S36 T_r0_1 (by decide) (by decide) e21
    have e38 := Chg.k S36 T_r0_1 (by decide) (by decide) e22
    have e39 := Chg.k S36 T_r0_2 (by decide) (by decide) e23
    have e40 := Chg.k S36 T_r0_2 (by decide) (by decide) e24
    have e41 := Chg.k S36 T_r0_2 (by decide) (by decide) e25
    have e42 := Chg.k S36 T_r0_0 (by decide) (by decide) e26
    have e43 := Chg.k S36 T_r0_1 (by decide) (by decide) e28
    refine z_iconst C (z := 0) rfl rfl rfl (fun x44 ex44 => ?_)
    have J45 : ∀ (nn46 : Nat) (I47 : IT) (L48 : LT) (x49 : Int32), ((9 - x49.toInt).toNat = nn46) → (IX A T I47) → (Chg A T [] I34 L35 I47 L48) → (0 ≤ x49.toInt) → (x49.toInt ≤ 9) → V 56 [(0, .ref r0), (1, .int x1), (2, .ref rr30), (3, .int x49)] [] (T, N, I47, L48, R) 0 0 := by
      intro nn46
      induction nn46 using Nat.strongRecOn with
      | _ nn46 ihJ45 =>
        intro I47 L48 x49 hmnn46 hI53 S52 b50 b51
        have gx49 := rg x49
        have e54 := Chg.k S52 T_r0_1 (by decide) (by decide) e37
        have e55 := Chg.k S52 T_r0_1 (by decide) (by decide) e38
        have e56 := Chg.k S52 T_r0_2 (by decide) (by decide) e39
        have e57 := Chg.k S52 T_r0_2 (by decide) (by decide) e40
        have e58 := Chg.k S52 T_r0_2 (by decide) (by decide) e41
        have e59 := Chg.k S52 T_r0_0 (by decide) (by decide) e42
        have e60 := Chg.k S52 T_r0_1 (by decide) (by decide) e43
        refine k_iload_n C rfl rfl rfl ?_
        refine k_iload_n C rfl rfl rfl ?_
        refine b_icmp_ge C (t := 88) rfl rfl rfl (fun c61 => ?_) (fun c61 => ?_)
        · skip
          refine k_aload_n C rfl rfl rfl ?_
          refine g_R C rfl rfl rfl T_r0 rfl R_r0_1 ?_
          refine c_VV C (a_X8_forgetUndone hI53 H_r0_1) rfl rfl rfl rfl rfl ⟨_, rfl, rfl, T_r0_1, Nat.le_of_ble_eq_true rfl⟩ rfl rfl (Nat.le_of_ble_eq_true rfl) (Nat.le_of_ble_eq_true rfl) (Nat.le_of_ble_eq_true rfl) ?_
          rintro I63 L64 ⟨hI63, S65⟩
          have e66 := Chg.k S65 T_r0_1 (by decide) (by decide) e54
          have e67 := Chg.k S65 T_r0_1 (by decide) (by decide) e55
          have e68 := Chg.k S65 T_r0_2 (by decide) (by decide) e56
          have e69 := Chg.k S65 T_r0_2 (by decide) (by decide) e57
          have e70 := Chg.k S65 T_r0_2 (by decide) (by decide) e58
          have e71 := Chg.k S65 T_r0_0 (by decide) (by decide) e59
          have e72 := Chg.k S65 T_r0_1 (by decide) (by decide) e60
          refine k_aload_n C rfl rfl rfl ?_
          refine g_R C rfl rfl rfl T_r0 rfl R_r0_1 ?_
          refine g_I C rfl rfl rfl T_r0_1 rfl e72 ?_
          refine z_iconst C (z := 1) rfl rfl rfl (fun x73 ex73 => ?_)
          refine z_isub C rfl rfl ⟨by omega, by omega⟩ (fun x74 ex74 => ?_)
          exact k_iret C rfl (Or.inl rfl) (Nat.le_of_ble_eq_true rfl) (Nat.le_of_ble_eq_true rfl) (Or.inl ⟨_, _, _, rfl, rfl, by first | omega | (simp only [e66, e67, e68, e69, e70, e71, e72, k0_r0_0_1, k0_r0_1_0, k0_r0_1_1, k0_r0_1_2, k0_r0_2_0, k0_r0_2_1, k0_r0_2_2, and_true, true_and, or_true, true_or, and_false, false_and, or_false, false_or] <;> omega), by first | omega | (simp only [e66, e67, e68, e69, e70, e71, e72, k0_r0_0_1, k0_r0_1_0, k0_r0_1_1, k0_r0_1_2, k0_r0_2_0, k0_r0_2_1, k0_r0_2_2, and_true, true_and, or_true, true_or, and_false, false_and, or_false, false_or] <;> omega), by first | omega | (simp only [e66, e67, e68, e69, e70, e71, e72, k0_r0_0_1, k0_r0_1_0, k0_r0_1_1, k0_r0_1_2, k0_r0_2_0, k0_r0_2_1, k0_r0_2_2, and_true, true_and, or_true, true_or, and_false, false_and, or_false, false_or] <;> omega), by first | omega | (simp only [e66, e67, e68, e69, e70, e71, e72, k0_r0_0_1, k0_r0_1_0, k0_r0_1_1, k0_r0_1_2, k0_r0_2_0, k0_r0_2_1, k0_r0_2_2, and_true, true_and, or_true, true_or, and_false, false_and, or_false, false_or] <;> omega), by first | omega | (simp only [e66, e67, e68, e69, e70, e71, e72, k0_r0_0_1, k0_r0_1_0, k0_r0_1_1, k0_r0_1_2, k0_r0_2_0, k0_r0_2_1, k0_r0_2_2, and_true, true_and, or_true, true_or, and_false, false_and, or_false, false_or] <;> omega), by first | omega | (simp only [e66, e67, e68, e69, e70, e71, e72, k0_r0_0_1, k0_r0_1_0, k0_r0_1_1, k0_r0_1_2, k0_r0_2_0, k0_r0_2_1, k0_r0_2_2, and_true, true_and, or_true, true_or, and_false, false_and, or_false, false_or] <;> omega), by first | omega | (simp only [e66, e67, e68, e69, e70, e71, e72, k0_r0_0_1, k0_r0_1_0, k0_r0_1_1, k0_r0_1_2, k0_r0_2_0, k0_r0_2_1, k0_r0_2_2, and_true, true_and, or_true, true_or, and_false, false_and, or_false, false_or] <;> omega), hI63, (Chg.cons S4 (Chg.cons S20 (Chg.cons S36 (Chg.cons S52 (Chg.mono S65 (by decide)) (by decide)) (by decide)) (by decide)) (by decide))⟩)
        refine k_aload_n C rfl rfl rfl ?_
        refine k_iload_n C rfl rfl rfl ?_
        refine k_aload_n C rfl rfl rfl ?_
        refine g_R C rfl rfl rfl T_r0 rfl R_r0_5 ?_
        refine k_aload_n C rfl rfl rfl ?_
        refine g_R C rfl rfl rfl T_r0 rfl R_r0_0 ?_
        refine k_iload_n C rfl rfl rfl ?_
        refine c_VI C (a_X4_byteAt hI53 H_r0_0) rfl rfl rfl rfl rfl ⟨_, rfl, rfl, T_r0_0, Nat.le_of_ble_eq_true rfl⟩ rfl rfl (Nat.le_of_ble_eq_true rfl) (Nat.le_of_ble_eq_true rfl) (Nat.le_of_ble_eq_true rfl) ?_
        rintro x75 _ _ ⟨rfl, rfl⟩
        have gx75 := rg x75
        refine z_i2l C rfl rfl (fun lg76 elg76 => ?_)
        obtain ⟨T_r0_5, A_r0_5, ⟨r0_5_0, R_r0_5_0, H_r0_5_0⟩, ⟨r0_5_1, R_r0_5_1, H_r0_5_1⟩, ⟨r0_5_2, R_r0_5_2, H_r0_5_2⟩⟩ := id H_r0_5
        refine c_VI C (a_X0_of hI53 H_r0_5) rfl rfl rfl rfl rfl ⟨_, rfl, rfl, T_r0_5, Nat.le_of_ble_eq_true rfl⟩ rfl rfl (Nat.le_of_ble_eq_true rfl) (Nat.le_of_ble_eq_true rfl) (Nat.le_of_ble_eq_true rfl) ?_
        rintro x77 _ _ ⟨rfl, rfl⟩
        have gx77 := rg x77
        refine c_VV C (a_X2_set hI53 H_rr30) rfl rfl rfl rfl rfl ⟨_, rfl, rfl, T_rr30, Nat.le_of_ble_eq_true rfl⟩ rfl rfl (Nat.le_of_ble_eq_true rfl) (Nat.le_of_ble_eq_true rfl) (Nat.le_of_ble_eq_true rfl) ?_
        rintro I79 L80 ⟨hI79, S81⟩
        have e82 := Chg.k S81 T_r0_1 (by decide) (by decide) e54
        have e83 := Chg.k S81 T_r0_1 (by decide) (by decide) e55
        have e84 := Chg.k S81 T_r0_2 (by decide) (by decide) e56
        have e85 := Chg.k S81 T_r0_2 (by decide) (by decide) e57
        have e86 := Chg.k S81 T_r0_2 (by decide) (by decide) e58
        have e87 := Chg.k S81 T_r0_0 (by decide) (by decide) e59
        have e88 := Chg.k S81 T_r0_1 (by decide) (by decide) e60
        refine z_iinc C (z := 1) (lw := fun x89 => [(3, .int x89), (0, .ref r0), (1, .int x1), (2, .ref rr30)]) rfl rfl rfl (Nat.le_of_ble_eq_true rfl) rfl ⟨by omega, by omega⟩ (fun _ => rfl) (fun x89 ex89 => ?_)
        show V 85 [(3, .int x89), (0, .ref r0), (1, .int x1), (2, .ref rr30)] _ _ _ _
        refine k_goto C (pc2 := 56) rfl rfl ?_
        refine k_sub S [(0, .ref r0), (1, .int x1), (2, .ref rr30), (3, .int x89)] (List.forall_mem_cons.mpr ⟨List.mem_of_getElem? (i := 1) rfl, List.forall_mem_cons.mpr ⟨List.mem_of_getElem? (i := 2) rfl, List.forall_mem_cons.mpr ⟨List.mem_of_getElem? (i := 3) rfl, List.forall_mem_cons.mpr ⟨List.mem_of_getElem? (i := 0) rfl, fun _ h => nomatch h⟩⟩⟩⟩) ?_
        exact ihJ45 _ (by omega) I79 L80 x89 rfl hI79 (Chg.cons S52 (Chg.mono S81 (by decide)) (by decide)) (by omega) (by omega)
    refine k_istore_n C (lw := [(3, .int x44), (2, .ref rr30), (1, .int x1), (0, .ref r0)]) rfl rfl (Nat.le_of_ble_eq_true rfl) rfl ?_
    refine k_sub S [(0, .ref r0), (1, .int x1), (2, .ref rr30), (3, .int x44)] (List.forall_mem_cons.mpr ⟨List.mem_of_getElem? (i := 3) rfl, List.forall_mem_cons.mpr ⟨List.mem_of_getElem? (i := 2) rfl, List.forall_mem_cons.mpr ⟨List.mem_of_getElem? (i := 1) rfl, List.forall_mem_cons.mpr ⟨List.mem_of_getElem? (i := 0) rfl, fun _ h => nomatch h⟩⟩⟩⟩) ?_
    exact J45 _ I34 L35 x44 rfl hI34 Chg.rf (by omega) (by omega)
  exact k_throw C rfl rfl rfl rfl rfl rfl (Nat.le_of_ble_eq_true rfl) (Nat.le_of_ble_eq_true rfl) (Nat.le_of_ble_eq_true rfl) (Or.inr ⟨_, _, _, (by decide : 0 ∈ [0, 2]), rfl, rfl, ⟨⟨hI2, (Chg.mono S4 (by decide))⟩, (fun _ => by first | omega | (simp only [e5, e6, e7, e8, e9, e10, e12, k0_r0_0_1, k0_r0_1_0, k0_r0_1_1, k0_r0_1_2, k0_r0_2_0, k0_r0_2_1, k0_r0_2_2, and_true, true_and, or_true, true_or, and_false, false_and, or_false, false_or] <;> omega)), (fun _ => by first | omega | (simp only [e5, e6, e7, e8, e9, e10, e12, k0_r0_0_1, k0_r0_1_0, k0_r0_1_1, k0_r0_1_2, k0_r0_2_0, k0_r0_2_1, k0_r0_2_2, and_true, true_and, or_true, true_or, and_false, false_and, or_false, false_or] <;> omega)), (fun _ => by first | omega | (simp only [e5, e6, e7, e8, e9, e10, e12, k0_r0_0_1, k0_r0_1_0, k0_r0_1_1, k0_r0_1_2, k0_r0_2_0, k0_r0_2_1, k0_r0_2_2, and_true, true_and, or_true, true_or, and_false, false_and, or_false, false_or] <;> omega)), (fun _ => by first | omega | (simp only [e5, e6, e7, e8, e9, e10, e12, k0_r0_0_1, k0_r0_1_0, k0_r0_1_1, k0_r0_1_2, k0_r0_2_0, k0_r0_2_1, k0_r0_2_2, and_true, true_and, or_true, true_or, and_false, false_and, or_false, false_or] <;> omega)), (fun _ => by first | omega | (simp only [e5, e6, e7, e8, e9, e10, e12, k0_r0_0_1, k0_r0_1_0, k0_r0_1_1, k0_r0_1_2, k0_r0_2_0, k0_r0_2_1, k0_r0_2_2, and_true, true_and, or_true, true_or, and_false, false_and, or_false, false_or] <;> omega)), (fun _ => by first | omega | (simp only [e5, e6, e7, e8, e9, e10, e12, k0_r0_0_1, k0_r0_1_0, k0_r0_1_1, k0_r0_1_2, k0_r0_2_0, k0_r0_2_1, k0_r0_2_2, and_true, true_and, or_true, true_or, and_false, false_and, or_false, false_or] <;> omega)), (fun _ => by first | omega | (simp only [e5, e6, e7, e8, e9, e10, e12, k0_r0_0_1, k0_r0_1_0, k0_r0_1_1, k0_r0_1_2, k0_r0_2_0, k0_r0_2_1, k0_r0_2_2, and_true, true_and, or_true, true_or, and_false, false_and, or_false, false_or] <;> omega)), (fun _ => by first | omega | (simp only [e5, e6, e7, e8, e9, e10, e12, k0_r0_0_1, k0_r0_1_0, k0_r0_1_1, k0_r0_1_2, k0_r0_2_0, k0_r0_2_1, k0_r0_2_2, and_true, true_and, or_true, true_or, and_false, false_and, or_false, false_or] <;> omega)), (fun h9 => absurd h9 (by decide)), (fun h9 => absurd h9 (by decide)), (fun h9 => absurd h9 (by decide)), (fun h9 => absurd h9 (by decide)), (fun h9 => absurd h9 (by decide)), (fun h9 => absurd h9 (by decide)), (fun h9 => absurd h9 (by decide)), (fun h9 => absurd h9 (by decide))⟩⟩)

theorem a_X11_table_e {d : Nat} {T N : Nat → Nat} {I : IT} {L : LT} {R : RT} {A : Nat → Prop} {r0 nw kp rd al : Nat} {n1 n2 n3 n4 : Int32} (hI : IX A T I) (H_r0 : (h_LF T N R A) r0) (Rnw : R r0 1 = some nw) (Rkp : R r0 2 = some kp) (Rrd : R r0 0 = some rd) (hnk : kp ≠ nw) (Ral : R r0 5 = some al) (Ras : R al 0 = some nw) (hp0 : 0 ≤ (I nw 2).toInt) : Ex (d + 3) 130 [.ref r0, .int n1, .int n2, .int n3, .int n4] (T, N, I, L, R) 1 6 (pW2 [0, 2] T N R (pI T N R (fun x9 I9 L9 => (dt (I nw 0).toInt n1.toInt n2.toInt n3.toInt n4.toInt ≠ 0 ∧ (I nw 2).toInt < 8 ∧ x9.toInt = (I nw 2).toInt ∧ (I9 nw 2).toInt = (I nw 2).toInt + 1) ∧ ((I9 nw 0).toInt = (I nw 0).toInt) ∧ ((I9 nw 1).toInt = (I nw 1).toInt) ∧ ((I9 kp 0).toInt = (I kp 0).toInt) ∧ ((I9 kp 1).toInt = (I kp 1).toInt) ∧ ((I9 kp 2).toInt = (I kp 2).toInt) ∧ (IX A T I9 ∧ Chg A T [(9, 2), (10, 0), (10, 1), (10, 2), (10, 3)] I L I9 L9))) (fun e9 I9 L9 => (IX A T I9 ∧ Chg A T [(9, 2), (10, 0), (10, 1), (10, 2), (10, 3)] I L I9 L9) ∧ (e9 = 0 → dt (I nw 0).toInt n1.toInt n2.toInt n3.toInt n4.toInt = 0) ∧ (e9 = 0 → (I9 nw 0).toInt = (I nw 0).toInt) ∧ (e9 = 0 → (I9 nw 1).toInt = (I nw 1).toInt) ∧ (e9 = 0 → (I9 nw 2).toInt = (I nw 2).toInt) ∧ (e9 = 0 → (I9 kp 0).toInt = (I kp 0).toInt) ∧ (e9 = 0 → (I9 kp 1).toInt = (I kp 1).toInt) ∧ (e9 = 0 → (I9 kp 2).toInt = (I kp 2).toInt) ∧ (e9 = 2 → dt (I nw 0).toInt n1.toInt n2.toInt n3.toInt n4.toInt ≠ 0 ∧ 8 ≤ (I nw 2).toInt) ∧ (e9 = 2 → (I9 nw 0).toInt = (I nw 0).toInt) ∧ (e9 = 2 → (I9 nw 1).toInt = (I nw 1).toInt) ∧ (e9 = 2 → (I9 nw 2).toInt = (I nw 2).toInt) ∧ (e9 = 2 → (I9 kp 0).toInt = (I kp 0).toInt) ∧ (e9 = 2 → (I9 kp 1).toInt = (I kp 1).toInt) ∧ (e9 = 2 → (I9 kp 2).toInt = (I kp 2).toInt))) := by
  refine ⟨_, rfl, Nat.le_of_ble_eq_true rfl, fun V C S => ?_⟩
  show V 0 [(0, .ref r0), (1, .int n1), (2, .int n2), (3, .int n3), (4, .int n4)] [] (T, N, I, L, R) 0 0
  have gn1 := rg n1
  have gn2 := rg n2
  have gn3 := rg n3
  have gn4 := rg n4
  obtain ⟨T_r0, A_r0, ⟨r0_0, R_r0_0, H_r0_0⟩, ⟨r0_1, R_r0_1, H_r0_1⟩, ⟨r0_2, R_r0_2, H_r0_2⟩, ⟨r0_5, R_r0_5, H_r0_5⟩, ⟨r0_6, R_r0_6, H_r0_6⟩, ⟨r0_7, R_r0_7, H_r0_7⟩, ⟨r0_8, R_r0_8, H_r0_8⟩, ⟨r0_9, R_r0_9, H_r0_9⟩, ⟨r0_10, R_r0_10, H_r0_10⟩, ⟨r0_11, R_r0_11, H_r0_11⟩, ⟨r0_12, R_r0_12, H_r0_12⟩, ⟨r0_13, R_r0_13, H_r0_13⟩⟩ := id H_r0
  have z1 : r0_1 = nw := Option.some.inj (R_r0_1.symm.trans Rnw)
  subst z1
  have z2 : r0_2 = kp := Option.some.inj (R_r0_2.symm.trans Rkp)
  subst z2
  have z3 : r0_0 = rd := Option.some.inj (R_r0_0.symm.trans Rrd)
  subst z3
  have z4 : r0_5 = al := Option.some.inj (R_r0_5.symm.trans Ral)
  subst z4
  obtain ⟨T_r0_0, A_r0_0, ⟨r0_0_0, R_r0_0_0, H_r0_0_0⟩, ⟨r0_0_2, R_r0_0_2, H_r0_0_2⟩⟩ := id H_r0_0
  obtain ⟨w_r0_0_1, k0_r0_0_1⟩ : ∃ x, I r0_0 1 = x := ⟨_, rfl⟩
  have gw_r0_0_1 := rg w_r0_0_1
  obtain ⟨T_r0_1, A_r0_1, ⟨r0_1_6, R_r0_1_6, H_r0_1_6⟩, ⟨r0_1_7, R_r0_1_7, H_r0_1_7⟩, ⟨r0_1_8, R_r0_1_8, H_r0_1_8⟩, ⟨r0_1_9, R_r0_1_9, H_r0_1_9⟩, ⟨r0_1_10, R_r0_1_10, H_r0_1_10⟩⟩ := id H_r0_1
  obtain ⟨w_r0_1_0, k0_r0_1_0⟩ : ∃ x, I r0_1 0 = x := ⟨_, rfl⟩
  have gw_r0_1_0 := rg w_r0_1_0
  have ow_r0_1_0 := IX.p hI A_r0_1 T_r0_1 k0_r0_1_0
  obtain ⟨w_r0_1_1, k0_r0_1_1⟩ : ∃ x, I r0_1 1 = x := ⟨_, rfl⟩
  have gw_r0_1_1 := rg w_r0_1_1
  obtain ⟨w_r0_1_2, k0_r0_1_2⟩ : ∃ x, I r0_1 2 = x := ⟨_, rfl⟩
  have gw_r0_1_2 := rg w_r0_1_2
  obtain ⟨T_r0_2, A_r0_2, ⟨r0_2_6, R_r0_2_6, H_r0_2_6⟩, ⟨r0_2_7, R_r0_2_7, H_r0_2_7⟩, ⟨r0_2_8, R_r0_2_8, H_r0_2_8⟩, ⟨r0_2_9, R_r0_2_9, H_r0_2_9⟩, ⟨r0_2_10, R_r0_2_10, H_r0_2_10⟩⟩ := id H_r0_2
  obtain ⟨w_r0_2_0, k0_r0_2_0⟩ : ∃ x, I r0_2 0 = x := ⟨_, rfl⟩
  have gw_r0_2_0 := rg w_r0_2_0
  have ow_r0_2_0 := IX.p hI A_r0_2 T_r0_2 k0_r0_2_0
  obtain ⟨w_r0_2_1, k0_r0_2_1⟩ : ∃ x, I r0_2 1 = x := ⟨_, rfl⟩
  have gw_r0_2_1 := rg w_r0_2_1
  obtain ⟨w_r0_2_2, k0_r0_2_2⟩ : ∃ x, I r0_2 2 = x := ⟨_, rfl⟩
  have gw_r0_2_2 := rg w_r0_2_2
  try simp only [k0_r0_0_1, k0_r0_1_0, k0_r0_1_1, k0_r0_1_2, k0_r0_2_0, k0_r0_2_1, k0_r0_2_2] at hp0
  refine k_aload_n C rfl rfl rfl ?_
  refine g_R C rfl rfl rfl T_r0 rfl R_r0_5 ?_
  refine k_iload_n C rfl rfl rfl ?_
  refine k_iload_n C rfl rfl rfl ?_
  refine k_iload_n C rfl rfl rfl ?_
  refine k_iload C rfl rfl rfl ?_
  obtain ⟨T_r0_5, A_r0_5, ⟨r0_5_0, R_r0_5_0, H_r0_5_0⟩, ⟨r0_5_1, R_r0_5_1, H_r0_5_1⟩, ⟨r0_5_2, R_r0_5_2, H_r0_5_2⟩⟩ := id H_r0_5
  refine c_VI C (a_X0_detOf_e hI H_r0_5 Ras) rfl rfl rfl rfl rfl ⟨_, rfl, rfl, T_r0_5, Nat.le_of_ble_eq_true rfl⟩ rfl rfl (Nat.le_of_ble_eq_true rfl) (Nat.le_of_ble_eq_true rfl) (Nat.le_of_ble_eq_true rfl) ?_
  rintro x1 _ _ ⟨p0x1, rfl, rfl⟩
  have gx1 := rg x1
  try simp only [k0_r0_0_1, k0_r0_1_0, k0_r0_1_1, k0_r0_1_2, k0_r0_2_0, k0_r0_2_1, k0_r0_2_2] at p0x1
  try have q0x1 := congrArg Int32.toInt p0x1
  have hdt := p0x1
  refine b_if_ne C (t := 23) rfl rfl rfl (fun c2 => ?_) (fun c2 => ?_)
  · skip
    refine k_aload_n C rfl rfl rfl ?_
    refine g_R C rfl rfl rfl T_r0 rfl R_r0_1 ?_
    refine c_VR C (a_X8_nextTable_e hI H_r0_1 (by first | omega | (simp only [k0_r0_0_1, k0_r0_1_0, k0_r0_1_1, k0_r0_1_2, k0_r0_2_0, k0_r0_2_1, k0_r0_2_2, and_true, true_and, or_true, true_or, and_false, false_and, or_false, false_or] <;> omega))) rfl rfl rfl rfl rfl ⟨_, rfl, rfl, T_r0_1, Nat.le_of_ble_eq_true rfl⟩ rfl rfl (Nat.le_of_ble_eq_true rfl) (Nat.le_of_ble_eq_true rfl) (Nat.le_of_ble_eq_true rfl) ?_
    rintro yy3 I4 L5 ⟨hyy3, p0yy3, p1yy3, p2yy3, hI4, S6⟩
    have e7 := Chg.k S6 T_r0_0 (by decide) (by decide) k0_r0_0_1
    have e8 := Chg.k S6 T_r0_1 (by decide) (by decide) k0_r0_1_0
    have e9 := Chg.k S6 T_r0_1 (by decide) (by decide) k0_r0_1_1
    have e10 := Chg.k S6 T_r0_2 (by decide) (by decide) k0_r0_2_0
    have e11 := Chg.k S6 T_r0_2 (by decide) (by decide) k0_r0_2_1
    have e12 := (congrFun (p2yy3 r0_2 (by first | exact hnk | exact fun e => hnk e.symm) T_r0_2) 2).trans k0_r0_2_2
    obtain ⟨x13, e14⟩ : ∃ x, I4 r0_1 2 = x := ⟨_, rfl⟩
    have gx13 := rg x13
    try simp only [k0_r0_0_1, k0_r0_1_0, k0_r0_1_1, k0_r0_1_2, k0_r0_2_0, k0_r0_2_1, k0_r0_2_2, e14] at p0yy3
    try have q0yy3 := congrArg Int32.toInt p0yy3
    try simp only [k0_r0_0_1, k0_r0_1_0, k0_r0_1_1, k0_r0_1_2, k0_r0_2_0, k0_r0_2_1, k0_r0_2_2, e14] at p1yy3
    try have q1yy3 := congrArg Int32.toInt p1yy3
    try simp only [k0_r0_0_1, k0_r0_1_0, k0_r0_1_1, k0_r0_1_2, k0_r0_2_0, k0_r0_2_1, k0_r0_2_2, e14] at p2yy3
    try have q2yy3 := congrArg Int32.toInt p2yy3
    refine k_astoreV C (x := yy3) (lw := [(5, va_rf yy3), (0, .ref r0), (1, .int n1), (2, .int n2), (3, .int n3), (4, .int n4)]) rfl rfl (Nat.le_of_ble_eq_true rfl) rfl ?_
    refine k_aloadV C (x := yy3) rfl rfl rfl ?_
    refine k_ifnonnull C (x := yy3) (t := 45) rfl rfl rfl (fun c15 => ?_) (fun rr16 c15 => ?_)
    · skip
      subst c15
      have hn := p0yy3 rfl
      exact k_throw C rfl rfl rfl rfl rfl rfl (Nat.le_of_ble_eq_true rfl) (Nat.le_of_ble_eq_true rfl) (Nat.le_of_ble_eq_true rfl) (Or.inr ⟨_, _, _, (by decide : 2 ∈ [0, 2]), rfl, rfl, ⟨⟨hI4, (Chg.mono S6 (by decide))⟩, (fun h9 => absurd h9 (by decide)), (fun h9 => absurd h9 (by decide)), (fun h9 => absurd h9 (by decide)), (fun h9 => absurd h9 (by decide)), (fun h9 => absurd h9 (by decide)), (fun h9 => absurd h9 (by decide)), (fun h9 => absurd h9 (by decide)), (fun _ => by simp only [k0_r0_1_0, k0_r0_1_2]; rw [← hdt]; exact ⟨by omega, by omega⟩), (fun _ => by first | omega | (simp only [e7, e8, e9, e10, e11, e12, e14, k0_r0_0_1, k0_r0_1_0, k0_r0_1_1, k0_r0_1_2, k0_r0_2_0, k0_r0_2_1, k0_r0_2_2, and_true, true_and, or_true, true_or, and_false, false_and, or_false, false_or] <;> omega)), (fun _ => by first | omega | (simp only [e7, e8, e9, e10, e11, e12, e14, k0_r0_0_1, k0_r0_1_0, k0_r0_1_1, k0_r0_1_2, k0_r0_2_0, k0_r0_2_1, k0_r0_2_2, and_true, true_and, or_true, true_or, and_false, false_and, or_false, false_or] <;> omega)), (fun _ => by first | omega | (simp only [e7, e8, e9, e10, e11, e12, e14, k0_r0_0_1, k0_r0_1_0, k0_r0_1_1, k0_r0_1_2, k0_r0_2_0, k0_r0_2_1, k0_r0_2_2, and_true, true_and, or_true, true_or, and_false, false_and, or_false, false_or] <;> omega)), (fun _ => by first | omega | (simp only [e7, e8, e9, e10, e11, e12, e14, k0_r0_0_1, k0_r0_1_0, k0_r0_1_1, k0_r0_1_2, k0_r0_2_0, k0_r0_2_1, k0_r0_2_2, and_true, true_and, or_true, true_or, and_false, false_and, or_false, false_or] <;> omega)), (fun _ => by first | omega | (simp only [e7, e8, e9, e10, e11, e12, e14, k0_r0_0_1, k0_r0_1_0, k0_r0_1_1, k0_r0_1_2, k0_r0_2_0, k0_r0_2_1, k0_r0_2_2, and_true, true_and, or_true, true_or, and_false, false_and, or_false, false_or] <;> omega)), (fun _ => by first | omega | (simp only [e7, e8, e9, e10, e11, e12, e14, k0_r0_0_1, k0_r0_1_0, k0_r0_1_1, k0_r0_1_2, k0_r0_2_0, k0_r0_2_1, k0_r0_2_2, and_true, true_and, or_true, true_or, and_false, false_and, or_false, false_or] <;> omega))⟩⟩)
    subst c15
    have H_rr16 := hyy3 rr16 rfl
    have hn := p1yy3 _ rfl
    refine k_aload_n C rfl rfl rfl ?_
    refine g_R C rfl rfl rfl T_r0 rfl R_r0_5 ?_
    refine k_aload C rfl rfl rfl ?_
    refine k_iload_n C rfl rfl rfl ?_
    refine k_iload_n C rfl rfl rfl ?_
    refine k_iload_n C rfl rfl rfl ?_
    refine k_iload C rfl rfl rfl ?_
    refine c_VV C (a_X0_fill hI4 H_r0_5 H_rr16) rfl rfl rfl rfl rfl ⟨_, rfl, rfl, T_r0_5, Nat.le_of_ble_eq_true rfl⟩ rfl rfl (Nat.le_of_ble_eq_true rfl) (Nat.le_of_ble_eq_true rfl) (Nat.le_of_ble_eq_true rfl) ?_
    rintro I18 L19 ⟨hI18, S20⟩
    have e21 := Chg.k S20 T_r0_0 (by decide) (by decide) e7
    have e22 := Chg.k S20 T_r0_1 (by decide) (by decide) e8
    have e23 := Chg.k S20 T_r0_1 (by decide) (by decide) e9
    have e24 := Chg.k S20 T_r0_2 (by decide) (by decide) e10
    have e25 := Chg.k S20 T_r0_2 (by decide) (by decide) e11
    have e26 := Chg.k S20 T_r0_2 (by decide) (by decide) e12
    have e27 := Chg.k S20 T_r0_1 (by decide) (by decide) e14
    refine k_aload_n C rfl rfl rfl ?_
    refine g_R C rfl rfl rfl T_r0 rfl R_r0_1 ?_
    refine g_I C rfl rfl rfl T_r0_1 rfl e27 ?_
    refine z_iconst C (z := 1) rfl rfl rfl (fun x28 ex28 => ?_)
    refine z_isub C rfl rfl ⟨by omega, by omega⟩ (fun x29 ex29 => ?_)
    exact k_iret C rfl (Or.inl rfl) (Nat.le_of_ble_eq_true rfl) (Nat.le_of_ble_eq_true rfl) (Or.inl ⟨_, _, _, rfl, rfl, (by simp only [e21, e22, e23, e24, e25, e26, e27, k0_r0_0_1, k0_r0_1_0, k0_r0_1_1, k0_r0_1_2, k0_r0_2_0, k0_r0_2_1, k0_r0_2_2]; rw [← hdt]; exact ⟨by omega, by omega, by omega, by omega⟩), by first | omega | (simp only [e21, e22, e23, e24, e25, e26, e27, k0_r0_0_1, k0_r0_1_0, k0_r0_1_1, k0_r0_1_2, k0_r0_2_0, k0_r0_2_1, k0_r0_2_2, and_true, true_and, or_true, true_or, and_false, false_and, or_false, false_or] <;> omega), by first | omega | (simp only [e21, e22, e23, e24, e25, e26, e27, k0_r0_0_1, k0_r0_1_0, k0_r0_1_1, k0_r0_1_2, k0_r0_2_0, k0_r0_2_1, k0_r0_2_2, and_true, true_and, or_true, true_or, and_false, false_and, or_false, false_or] <;> omega), by first | omega | (simp only [e21, e22, e23, e24, e25, e26, e27, k0_r0_0_1, k0_r0_1_0, k0_r0_1_1, k0_r0_1_2, k0_r0_2_0, k0_r0_2_1, k0_r0_2_2, and_true, true_and, or_true, true_or, and_false, false_and, or_false, false_or] <;> omega), by first | omega | (simp only [e21, e22, e23, e24, e25, e26, e27, k0_r0_0_1, k0_r0_1_0, k0_r0_1_1, k0_r0_1_2, k0_r0_2_0, k0_r0_2_1, k0_r0_2_2, and_true, true_and, or_true, true_or, and_false, false_and, or_false, false_or] <;> omega), by first | omega | (simp only [e21, e22, e23, e24, e25, e26, e27, k0_r0_0_1, k0_r0_1_0, k0_r0_1_1, k0_r0_1_2, k0_r0_2_0, k0_r0_2_1, k0_r0_2_2, and_true, true_and, or_true, true_or, and_false, false_and, or_false, false_or] <;> omega), hI18, (Chg.cons S6 (Chg.mono S20 (by decide)) (by decide))⟩)
  exact k_throw C rfl rfl rfl rfl rfl rfl (Nat.le_of_ble_eq_true rfl) (Nat.le_of_ble_eq_true rfl) (Nat.le_of_ble_eq_true rfl) (Or.inr ⟨_, _, _, (by decide : 0 ∈ [0, 2]), rfl, rfl, ⟨⟨hI, Chg.rf⟩, (fun _ => by simp only [k0_r0_1_0]; rw [← hdt]; omega), (fun _ => by first | omega | (simp only [k0_r0_0_1, k0_r0_1_0, k0_r0_1_1, k0_r0_1_2, k0_r0_2_0, k0_r0_2_1, k0_r0_2_2, and_true, true_and, or_true, true_or, and_false, false_and, or_false, false_or] <;> omega)), (fun _ => by first | omega | (simp only [k0_r0_0_1, k0_r0_1_0, k0_r0_1_1, k0_r0_1_2, k0_r0_2_0, k0_r0_2_1, k0_r0_2_2, and_true, true_and, or_true, true_or, and_false, false_and, or_false, false_or] <;> omega)), (fun _ => by first | omega | (simp only [k0_r0_0_1, k0_r0_1_0, k0_r0_1_1, k0_r0_1_2, k0_r0_2_0, k0_r0_2_1, k0_r0_2_2, and_true, true_and, or_true, true_or, and_false, false_and, or_false, false_or] <;> omega)), (fun _ => by first | omega | (simp only [k0_r0_0_1, k0_r0_1_0, k0_r0_1_1, k0_r0_1_2, k0_r0_2_0, k0_r0_2_1, k0_r0_2_2, and_true, true_and, or_true, true_or, and_false, false_and, or_false, false_or] <;> omega)), (fun _ => by first | omega | (simp only [k0_r0_0_1, k0_r0_1_0, k0_r0_1_1, k0_r0_1_2, k0_r0_2_0, k0_r0_2_1, k0_r0_2_2, and_true, true_and, or_true, true_or, and_false, false_and, or_false, false_or] <;> omega)), (fun _ => by first | omega | (simp only [k0_r0_0_1, k0_r0_1_0, k0_r0_1_1, k0_r0_1_2, k0_r0_2_0, k0_r0_2_1, k0_r0_2_2, and_true, true_and, or_true, true_or, and_false, false_and, or_false, false_or] <;> omega)), (fun h9 => absurd h9 (by decide)), (fun h9 => absurd h9 (by decide)), (fun h9 => absurd h9 (by decide)), (fun h9 => absurd h9 (by decide)), (fun h9 => absurd h9 (by decide)), (fun h9 => absurd h9 (by decide)), (fun h9 => absurd h9 (by decide))⟩⟩)

theorem a_X11_join_e {d : Nat} {T N : Nat → Nat} {I : IT} {L : LT} {R : RT} {A : Nat → Prop} {r0 nw kp rd : Nat} {n1 n2 : Int32} (hI : IX A T I) (H_r0 : (h_LF T N R A) r0) (Rnw : R r0 1 = some nw) (Rkp : R r0 2 = some kp) (Rrd : R r0 0 = some rd) (hnk : kp ≠ nw) (hp0 : 0 ≤ (I nw 2).toInt) : Ex (d + 3) 141 [.ref r0, .int n1, .int n2] (T, N, I, L, R) 3 18 (pW2 [2, 3] T N R (pI T N R (fun x9 I9 L9 => (¬ ((n1.toInt < 0 ∨ (I nw 2).toInt ≤ n1.toInt ∨ 8 ≤ n1.toInt) ∨ (n2.toInt < 0 ∨ (I nw 2).toInt ≤ n2.toInt ∨ 8 ≤ n2.toInt)) ∧ (I nw 2).toInt < 8 ∧ x9.toInt = (I nw 2).toInt ∧ (I9 nw 2).toInt = (I nw 2).toInt + 1) ∧ ((I9 nw 0).toInt = (I nw 0).toInt) ∧ ((I9 nw 1).toInt = (I nw 1).toInt) ∧ ((I9 kp 0).toInt = (I kp 0).toInt) ∧ ((I9 kp 1).toInt = (I kp 1).toInt) ∧ ((I9 kp 2).toInt = (I kp 2).toInt) ∧ (IX A T I9 ∧ Chg A T [(9, 2), (10, 0), (10, 1), (10, 2), (10, 3)] I L I9 L9))) (fun e9 I9 L9 => (IX A T I9 ∧ Chg A T [(9, 2), (10, 0), (10, 1), (10, 2), (10, 3)] I L I9 L9) ∧ (e9 = 2 → ¬ ((n1.toInt < 0 ∨ (I nw 2).toInt ≤ n1.toInt ∨ 8 ≤ n1.toInt) ∨ (n2.toInt < 0 ∨ (I nw 2).toInt ≤ n2.toInt ∨ 8 ≤ n2.toInt)) ∧ 8 ≤ (I nw 2).toInt) ∧ (e9 = 2 → (I9 nw 0).toInt = (I nw 0).toInt) ∧ (e9 = 2 → (I9 nw 1).toInt = (I nw 1).toInt) ∧ (e9 = 2 → (I9 nw 2).toInt = (I nw 2).toInt) ∧ (e9 = 2 → (I9 kp 0).toInt = (I kp 0).toInt) ∧ (e9 = 2 → (I9 kp 1).toInt = (I kp 1).toInt) ∧ (e9 = 2 → (I9 kp 2).toInt = (I kp 2).toInt) ∧ (e9 = 3 → (n1.toInt < 0 ∨ (I nw 2).toInt ≤ n1.toInt ∨ 8 ≤ n1.toInt) ∨ (n2.toInt < 0 ∨ (I nw 2).toInt ≤ n2.toInt ∨ 8 ≤ n2.toInt)) ∧ (e9 = 3 → (I9 nw 0).toInt = (I nw 0).toInt) ∧ (e9 = 3 → (I9 nw 1).toInt = (I nw 1).toInt) ∧ (e9 = 3 → (I9 nw 2).toInt = (I nw 2).toInt) ∧ (e9 = 3 → (I9 kp 0).toInt = (I kp 0).toInt) ∧ (e9 = 3 → (I9 kp 1).toInt = (I kp 1).toInt) ∧ (e9 = 3 → (I9 kp 2).toInt = (I kp 2).toInt))) := by
  refine ⟨_, rfl, Nat.le_of_ble_eq_true rfl, fun V C S => ?_⟩
  show V 0 [(0, .ref r0), (1, .int n1), (2, .int n2)] [] (T, N, I, L, R) 0 0
  have gn1 := rg n1
  have gn2 := rg n2
  obtain ⟨T_r0, A_r0, ⟨r0_0, R_r0_0, H_r0_0⟩, ⟨r0_1, R_r0_1, H_r0_1⟩, ⟨r0_2, R_r0_2, H_r0_2⟩, ⟨r0_5, R_r0_5, H_r0_5⟩, ⟨r0_6, R_r0_6, H_r0_6⟩, ⟨r0_7, R_r0_7, H_r0_7⟩, ⟨r0_8, R_r0_8, H_r0_8⟩, ⟨r0_9, R_r0_9, H_r0_9⟩, ⟨r0_10, R_r0_10, H_r0_10⟩, ⟨r0_11, R_r0_11, H_r0_11⟩, ⟨r0_12, R_r0_12, H_r0_12⟩, ⟨r0_13, R_r0_13, H_r0_13⟩⟩ := id H_r0
  have z1 : r0_1 = nw := Option.some.inj (R_r0_1.symm.trans Rnw)
  subst z1
  have z2 : r0_2 = kp := Option.some.inj (R_r0_2.symm.trans Rkp)
  subst z2
  have z3 : r0_0 = rd := Option.some.inj (R_r0_0.symm.trans Rrd)
  subst z3
  obtain ⟨T_r0_0, A_r0_0, ⟨r0_0_0, R_r0_0_0, H_r0_0_0⟩, ⟨r0_0_2, R_r0_0_2, H_r0_0_2⟩⟩ := id H_r0_0
  obtain ⟨w_r0_0_1, k0_r0_0_1⟩ : ∃ x, I r0_0 1 = x := ⟨_, rfl⟩
  have gw_r0_0_1 := rg w_r0_0_1
  obtain ⟨T_r0_1, A_r0_1, ⟨r0_1_6, R_r0_1_6, H_r0_1_6⟩, ⟨r0_1_7, R_r0_1_7, H_r0_1_7⟩, ⟨r0_1_8, R_r0_1_8, H_r0_1_8⟩, ⟨r0_1_9, R_r0_1_9, H_r0_1_9⟩, ⟨r0_1_10, R_r0_1_10, H_r0_1_10⟩⟩ := id H_r0_1
  obtain ⟨w_r0_1_0, k0_r0_1_0⟩ : ∃ x, I r0_1 0 = x := ⟨_, rfl⟩
  have gw_r0_1_0 := rg w_r0_1_0
  have ow_r0_1_0 := IX.p hI A_r0_1 T_r0_1 k0_r0_1_0
  obtain ⟨w_r0_1_1, k0_r0_1_1⟩ : ∃ x, I r0_1 1 = x := ⟨_, rfl⟩
  have gw_r0_1_1 := rg w_r0_1_1
  obtain ⟨w_r0_1_2, k0_r0_1_2⟩ : ∃ x, I r0_1 2 = x := ⟨_, rfl⟩
  have gw_r0_1_2 := rg w_r0_1_2
  obtain ⟨T_r0_2, A_r0_2, ⟨r0_2_6, R_r0_2_6, H_r0_2_6⟩, ⟨r0_2_7, R_r0_2_7, H_r0_2_7⟩, ⟨r0_2_8, R_r0_2_8, H_r0_2_8⟩, ⟨r0_2_9, R_r0_2_9, H_r0_2_9⟩, ⟨r0_2_10, R_r0_2_10, H_r0_2_10⟩⟩ := id H_r0_2
  obtain ⟨w_r0_2_0, k0_r0_2_0⟩ : ∃ x, I r0_2 0 = x := ⟨_, rfl⟩
  have gw_r0_2_0 := rg w_r0_2_0
  have ow_r0_2_0 := IX.p hI A_r0_2 T_r0_2 k0_r0_2_0
  obtain ⟨w_r0_2_1, k0_r0_2_1⟩ : ∃ x, I r0_2 1 = x := ⟨_, rfl⟩
  have gw_r0_2_1 := rg w_r0_2_1
  obtain ⟨w_r0_2_2, k0_r0_2_2⟩ : ∃ x, I r0_2 2 = x := ⟨_, rfl⟩
  have gw_r0_2_2 := rg w_r0_2_2
  try simp only [k0_r0_0_1, k0_r0_1_0, k0_r0_1_1, k0_r0_1_2, k0_r0_2_0, k0_r0_2_1, k0_r0_2_2] at hp0
  refine k_aload_n C rfl rfl rfl ?_
  refine k_iload_n C rfl rfl rfl ?_
  refine w2_VR C (a_X11_toldTable_e hI H_r0 R_r0_1 R_r0_2 R_r0_0 hnk) rfl rfl rfl rfl rfl ⟨_, rfl, rfl, T_r0, Nat.le_of_ble_eq_true rfl⟩ rfl rfl (Nat.le_of_ble_eq_true rfl) (Nat.le_of_ble_eq_true rfl) (Nat.le_of_ble_eq_true rfl) (by decide) (fun e9 he I9 L9 hq => by obtain ⟨⟨rfl, rfl⟩, hq⟩ := hq; exact Or.inl ⟨rfl, Or.inr ⟨e9, _, _, (by decide : ∀ z ∈ [3], z ∈ [2, 3]) e9 he, rfl, rfl, ⟨⟨hI, Chg.rf⟩, (fun h9 => by subst h9; exact absurd he (by decide)), (fun h9 => by subst h9; exact absurd he (by decide)), (fun h9 => by subst h9; exact absurd he (by decide)), (fun h9 => by subst h9; exact absurd he (by decide)), (fun h9 => by subst h9; exact absurd he (by decide)), (fun h9 => by subst h9; exact absurd he (by decide)), (fun h9 => by subst h9; exact absurd he (by decide)), (fun h9 => by subst h9; first | exact absurd he (by decide) | (have hx := hq rfl; simp only [k0_r0_1_2] at hx ⊢; omega)), (fun h9 => by subst h9; first | exact absurd he (by decide) | (rfl)), (fun h9 => by subst h9; first | exact absurd he (by decide) | (rfl)), (fun h9 => by subst h9; first | exact absurd he (by decide) | (rfl)), (fun h9 => by subst h9; first | exact absurd he (by decide) | (rfl)), (fun h9 => by subst h9; first | exact absurd he (by decide) | (rfl)), (fun h9 => by subst h9; first | exact absurd he (by decide) | (rfl))⟩⟩⟩) ?_
  rintro yy1 _ _ ⟨hyy1, p0yy1, rfl, rfl⟩
  obtain ⟨rr2, err2, H_rr2⟩ := hyy1
  subst err2
  try simp only [k0_r0_0_1, k0_r0_1_0, k0_r0_1_1, k0_r0_1_2, k0_r0_2_0, k0_r0_2_1, k0_r0_2_2] at p0yy1
  try have q0yy1 := congrArg Int32.toInt p0yy1
  refine k_astore_n C (lw := [(3, .ref rr2), (0, .ref r0), (1, .int n1), (2, .int n2)]) rfl rfl (Nat.le_of_ble_eq_true rfl) rfl ?_
  refine k_aload_n C rfl rfl rfl ?_
  refine k_iload_n C rfl rfl rfl ?_
  refine w2_VR C (a_X11_toldTable_e hI H_r0 R_r0_1 R_r0_2 R_r0_0 hnk) rfl rfl rfl rfl rfl ⟨_, rfl, rfl, T_r0, Nat.le_of_ble_eq_true rfl⟩ rfl rfl (Nat.le_of_ble_eq_true rfl) (Nat.le_of_ble_eq_true rfl) (Nat.le_of_ble_eq_true rfl) (by decide) (fun e9 he I9 L9 hq => by obtain ⟨⟨rfl, rfl⟩, hq⟩ := hq; exact Or.inl ⟨rfl, Or.inr ⟨e9, _, _, (by decide : ∀ z ∈ [3], z ∈ [2, 3]) e9 he, rfl, rfl, ⟨⟨hI, Chg.rf⟩, (fun h9 => by subst h9; exact absurd he (by decide)), (fun h9 => by subst h9; exact absurd he (by decide)), (fun h9 => by subst h9; exact absurd he (by decide)), (fun h9 => by subst h9; exact absurd he (by decide)), (fun h9 => by subst h9; exact absurd he (by decide)), (fun h9 => by subst h9; exact absurd he (by decide)), (fun h9 => by subst h9; exact absurd he (by decide)), (fun h9 => by subst h9; first | exact absurd he (by decide) | (have hx := hq rfl; simp only [k0_r0_1_2] at hx ⊢; omega)), (fun h9 => by subst h9; first | exact absurd he (by decide) | (rfl)), (fun h9 => by subst h9; first | exact absurd he (by decide) | (rfl)), (fun h9 => by subst h9; first | exact absurd he (by decide) | (rfl)), (fun h9 => by subst h9; first | exact absurd he (by decide) | (rfl)), (fun h9 => by subst h9; first | exact absurd he (by decide) | (rfl)), (fun h9 => by subst h9; first | exact absurd he (by decide) | (rfl))⟩⟩⟩) ?_
  rintro yy3 _ _ ⟨hyy3, p0yy3, rfl, rfl⟩
  obtain ⟨rr4, err4, H_rr4⟩ := hyy3
  subst err4
  try simp only [k0_r0_0_1, k0_r0_1_0, k0_r0_1_1, k0_r0_1_2, k0_r0_2_0, k0_r0_2_1, k0_r0_2_2] at p0yy3
  try have q0yy3 := congrArg Int32.toInt p0yy3
  refine k_astore C (lw := [(4, .ref rr4), (3, .ref rr2), (0, .ref r0), (1, .int n1), (2, .int n2)]) rfl rfl (Nat.le_of_ble_eq_true rfl) rfl ?_
  refine k_aload_n C rfl rfl rfl ?_
  refine g_R C rfl rfl rfl T_r0 rfl R_r0_1 ?_
  refine c_VR C (a_X8_nextTable_e hI H_r0_1 (by first | omega | (simp only [k0_r0_0_1, k0_r0_1_0, k0_r0_1_1, k0_r0_1_2, k0_r0_2_0, k0_r0_2_1, k0_r0_2_2, and_true, true_and, or_true, true_or, and_false, false_and, or_false, false_or] <;> omega))) rfl rfl rfl rfl rfl ⟨_, rfl, rfl, T_r0_1, Nat.le_of_ble_eq_true rfl⟩ rfl rfl (Nat.le_of_ble_eq_true rfl) (Nat.le_of_ble_eq_true rfl) (Nat.le_of_ble_eq_true rfl) ?_
  rintro yy5 I6 L7 ⟨hyy5, p0yy5, p1yy5, p2yy5, hI6, S8⟩
  have e9 := Chg.k S8 T_r0_0 (by decide) (by decide) k0_r0_0_1
  have e10 := Chg.k S8 T_r0_1 (by decide) (by decide) k0_r0_1_0
  have e11 := Chg.k S8 T_r0_1 (by decide) (by decide) k0_r0_1_1
  have e12 := Chg.k S8 T_r0_2 (by decide) (by decide) k0_r0_2_0
  have e13 := Chg.k S8 T_r0_2 (by decide) (by decide) k0_r0_2_1
  have e14 := (congrFun (p2yy5 r0_2 (by first | exact hnk | exact fun e => hnk e.symm) T_r0_2) 2).trans k0_r0_2_2
  obtain ⟨x15, e16⟩ : ∃ x, I6 r0_1 2 = x := ⟨_, rfl⟩
  have gx15 := rg x15
  try simp only [k0_r0_0_1, k0_r0_1_0, k0_r0_1_1, k0_r0_1_2, k0_r0_2_0, k0_r0_2_1, k0_r0_2_2, e16] at p0yy5
  try have q0yy5 := congrArg Int32.toInt p0yy5
  try simp only [k0_r0_0_1, k0_r0_1_0, k0_r0_1_1, k0_r0_1_2, k0_r0_2_0, k0_r0_2_1, k0_r0_2_2, e16] at p1yy5
  try have q1yy5 := congrArg Int32.toInt p1yy5
  try simp only [k0_r0_0_1, k0_r0_1_0, k0_r0_1_1, k0_r0_1_2, k0_r0_2_0, k0_r0_2_1, k0_r0_2_2, e16] at p2yy5
  try have q2yy5 := congrArg Int32.toInt p2yy5
  refine k_astoreV C (x := yy5) (lw := [(5, va_rf yy5), (4, .ref rr4), (3, .ref rr2), (0, .ref r0), (1, .int n1), (2, .int n2)]) rfl rfl (Nat.le_of_ble_eq_true rfl) rfl ?_
  refine k_aloadV C (x := yy5) rfl rfl rfl ?_
  refine k_ifnonnull C (x := yy5) (t := 35) rfl rfl rfl (fun c17 => ?_) (fun rr18 c17 => ?_)
  · skip
    subst c17
    have hn := p0yy5 rfl
    exact k_throw C rfl rfl rfl rfl rfl rfl (Nat.le_of_ble_eq_true rfl) (Nat.le_of_ble_eq_true rfl) (Nat.le_of_ble_eq_true rfl) (Or.inr ⟨_, _, _, (by decide : 2 ∈ [2, 3]), rfl, rfl, ⟨⟨hI6, (Chg.mono S8 (by decide))⟩, (fun _ => by first | omega | (simp only [e9, e10, e11, e12, e13, e14, e16, k0_r0_0_1, k0_r0_1_0, k0_r0_1_1, k0_r0_1_2, k0_r0_2_0, k0_r0_2_1, k0_r0_2_2, and_true, true_and, or_true, true_or, and_false, false_and, or_false, false_or] <;> omega)), (fun _ => by first | omega | (simp only [e9, e10, e11, e12, e13, e14, e16, k0_r0_0_1, k0_r0_1_0, k0_r0_1_1, k0_r0_1_2, k0_r0_2_0, k0_r0_2_1, k0_r0_2_2, and_true, true_and, or_true, true_or, and_false, false_and, or_false, false_or] <;> omega)), (fun _ => by first | omega | (simp only [e9, e10, e11, e12, e13, e14, e16, k0_r0_0_1, k0_r0_1_0, k0_r0_1_1, k0_r0_1_2, k0_r0_2_0, k0_r0_2_1, k0_r0_2_2, and_true, true_and, or_true, true_or, and_false, false_and, or_false, false_or] <;> omega)), (fun _ => by first | omega | (simp only [e9, e10, e11, e12, e13, e14, e16, k0_r0_0_1, k0_r0_1_0, k0_r0_1_1, k0_r0_1_2, k0_r0_2_0, k0_r0_2_1, k0_r0_2_2, and_true, true_and, or_true, true_or, and_false, false_and, or_false, false_or] <;> omega)), (fun _ => by first | omega | (simp only [e9, e10, e11, e12, e13, e14, e16, k0_r0_0_1, k0_r0_1_0, k0_r0_1_1, k0_r0_1_2, k0_r0_2_0, k0_r0_2_1, k0_r0_2_2, and_true, true_and, or_true, true_or, and_false, false_and, or_false, false_or] <;> omega)), (fun _ => by first | omega | (simp only [e9, e10, e11, e12, e13, e14, e16, k0_r0_0_1, k0_r0_1_0, k0_r0_1_1, k0_r0_1_2, k0_r0_2_0, k0_r0_2_1, k0_r0_2_2, and_true, true_and, or_true, true_or, and_false, false_and, or_false, false_or] <;> omega)), (fun _ => by first | omega | (simp only [e9, e10, e11, e12, e13, e14, e16, k0_r0_0_1, k0_r0_1_0, k0_r0_1_1, k0_r0_1_2, k0_r0_2_0, k0_r0_2_1, k0_r0_2_2, and_true, true_and, or_true, true_or, and_false, false_and, or_false, false_or] <;> omega)), (fun h9 => absurd h9 (by decide)), (fun h9 => absurd h9 (by decide)), (fun h9 => absurd h9 (by decide)), (fun h9 => absurd h9 (by decide)), (fun h9 => absurd h9 (by decide)), (fun h9 => absurd h9 (by decide)), (fun h9 => absurd h9 (by decide))⟩⟩)
  subst c17
  have H_rr18 := hyy5 rr18 rfl
  have hn := p1yy5 _ rfl
  refine k_aload_n C rfl rfl rfl ?_
  refine g_R C rfl rfl rfl T_r0 rfl R_r0_5 ?_
  refine k_aload C rfl rfl rfl ?_
  refine k_aload_n C rfl rfl rfl ?_
  obtain ⟨T_rr2, A_rr2⟩ := id H_rr2
  refine z_gI C rfl rfl rfl T_rr2 rfl (fun x19 ex19 => ?_)
  have gx19 := rg x19
  refine k_aload C rfl rfl rfl ?_
  obtain ⟨T_rr4, A_rr4⟩ := id H_rr4
  refine z_gI C rfl rfl rfl T_rr4 rfl (fun x20 ex20 => ?_)
  have gx20 := rg x20
  refine zt_imul C rfl rfl (fun x21 => ?_)
  have gx21 := rg x21
  refine k_aload_n C rfl rfl rfl ?_
  refine z_gI C rfl rfl rfl T_rr2 rfl (fun x22 ex22 => ?_)
  have gx22 := rg x22
  refine k_aload C rfl rfl rfl ?_
  refine z_gI C rfl rfl rfl T_rr4 rfl (fun x23 ex23 => ?_)
  have gx23 := rg x23
  refine zt_imul C rfl rfl (fun x24 => ?_)
  have gx24 := rg x24
  refine zt_iadd C rfl rfl (fun x25 => ?_)
  have gx25 := rg x25
  refine k_aload_n C rfl rfl rfl ?_
  refine g_I C rfl rfl rfl T_rr2 rfl ex19 ?_
  refine k_aload C rfl rfl rfl ?_
  refine z_gI C rfl rfl rfl T_rr4 rfl (fun x26 ex26 => ?_)
  have gx26 := rg x26
  refine zt_imul C rfl rfl (fun x27 => ?_)
  have gx27 := rg x27
  refine k_aload_n C rfl rfl rfl ?_
  refine g_I C rfl rfl rfl T_rr2 rfl ex22 ?_
  refine k_aload C rfl rfl rfl ?_
  refine z_gI C rfl rfl rfl T_rr4 rfl (fun x28 ex28 => ?_)
  have gx28 := rg x28
  refine zt_imul C rfl rfl (fun x29 => ?_)
  have gx29 := rg x29
  refine zt_iadd C rfl rfl (fun x30 => ?_)
  have gx30 := rg x30
  refine k_aload_n C rfl rfl rfl ?_
  refine z_gI C rfl rfl rfl T_rr2 rfl (fun x31 ex31 => ?_)
  have gx31 := rg x31
  refine k_aload C rfl rfl rfl ?_
  refine g_I C rfl rfl rfl T_rr4 rfl ex20 ?_
  refine zt_imul C rfl rfl (fun x32 => ?_)
  have gx32 := rg x32
  refine k_aload_n C rfl rfl rfl ?_
  refine z_gI C rfl rfl rfl T_rr2 rfl (fun x33 ex33 => ?_)
  have gx33 := rg x33
  refine k_aload C rfl rfl rfl ?_
  refine g_I C rfl rfl rfl T_rr4 rfl ex23 ?_
  refine zt_imul C rfl rfl (fun x34 => ?_)
  have gx34 := rg x34
  refine zt_iadd C rfl rfl (fun x35 => ?_)
  have gx35 := rg x35
  refine k_aload_n C rfl rfl rfl ?_
  refine g_I C rfl rfl rfl T_rr2 rfl ex31 ?_
  refine k_aload C rfl rfl rfl ?_
  refine g_I C rfl rfl rfl T_rr4 rfl ex26 ?_
  refine zt_imul C rfl rfl (fun x36 => ?_)
  have gx36 := rg x36
  refine k_aload_n C rfl rfl rfl ?_
  refine g_I C rfl rfl rfl T_rr2 rfl ex33 ?_
  refine k_aload C rfl rfl rfl ?_
  refine g_I C rfl rfl rfl T_rr4 rfl ex28 ?_
  refine zt_imul C rfl rfl (fun x37 => ?_)
  have gx37 := rg x37
  refine zt_iadd C rfl rfl (fun x38 => ?_)
  have gx38 := rg x38
  obtain ⟨T_r0_5, A_r0_5, ⟨r0_5_0, R_r0_5_0, H_r0_5_0⟩, ⟨r0_5_1, R_r0_5_1, H_r0_5_1⟩, ⟨r0_5_2, R_r0_5_2, H_r0_5_2⟩⟩ := id H_r0_5
  refine c_VV C (a_X0_fill hI6 H_r0_5 H_rr18) rfl rfl rfl rfl rfl ⟨_, rfl, rfl, T_r0_5, Nat.le_of_ble_eq_true rfl⟩ rfl rfl (Nat.le_of_ble_eq_true rfl) (Nat.le_of_ble_eq_true rfl) (Nat.le_of_ble_eq_true rfl) ?_
  rintro I40 L41 ⟨hI40, S42⟩
  have e43 := Chg.k S42 T_r0_0 (by decide) (by decide) e9
  have e44 := Chg.k S42 T_r0_1 (by decide) (by decide) e10
  have e45 := Chg.k S42 T_r0_1 (by decide) (by decide) e11
  have e46 := Chg.k S42 T_r0_2 (by decide) (by decide) e12
  have e47 := Chg.k S42 T_r0_2 (by decide) (by decide) e13
  have e48 := Chg.k S42 T_r0_2 (by decide) (by decide) e14
  have e49 := Chg.k S42 T_r0_1 (by decide) (by decide) e16
  refine k_aload_n C rfl rfl rfl ?_
  refine g_R C rfl rfl rfl T_r0 rfl R_r0_1 ?_
  refine g_I C rfl rfl rfl T_r0_1 rfl e49 ?_
  refine z_iconst C (z := 1) rfl rfl rfl (fun x50 ex50 => ?_)
  refine z_isub C rfl rfl ⟨by omega, by omega⟩ (fun x51 ex51 => ?_)
  exact k_iret C rfl (Or.inl rfl) (Nat.le_of_ble_eq_true rfl) (Nat.le_of_ble_eq_true rfl) (Or.inl ⟨_, _, _, rfl, rfl, by first | omega | (simp only [e43, e44, e45, e46, e47, e48, e49, k0_r0_0_1, k0_r0_1_0, k0_r0_1_1, k0_r0_1_2, k0_r0_2_0, k0_r0_2_1, k0_r0_2_2, and_true, true_and, or_true, true_or, and_false, false_and, or_false, false_or] <;> omega), by first | omega | (simp only [e43, e44, e45, e46, e47, e48, e49, k0_r0_0_1, k0_r0_1_0, k0_r0_1_1, k0_r0_1_2, k0_r0_2_0, k0_r0_2_1, k0_r0_2_2, and_true, true_and, or_true, true_or, and_false, false_and, or_false, false_or] <;> omega), by first | omega | (simp only [e43, e44, e45, e46, e47, e48, e49, k0_r0_0_1, k0_r0_1_0, k0_r0_1_1, k0_r0_1_2, k0_r0_2_0, k0_r0_2_1, k0_r0_2_2, and_true, true_and, or_true, true_or, and_false, false_and, or_false, false_or] <;> omega), by first | omega | (simp only [e43, e44, e45, e46, e47, e48, e49, k0_r0_0_1, k0_r0_1_0, k0_r0_1_1, k0_r0_1_2, k0_r0_2_0, k0_r0_2_1, k0_r0_2_2, and_true, true_and, or_true, true_or, and_false, false_and, or_false, false_or] <;> omega), by first | omega | (simp only [e43, e44, e45, e46, e47, e48, e49, k0_r0_0_1, k0_r0_1_0, k0_r0_1_1, k0_r0_1_2, k0_r0_2_0, k0_r0_2_1, k0_r0_2_2, and_true, true_and, or_true, true_or, and_false, false_and, or_false, false_or] <;> omega), by first | omega | (simp only [e43, e44, e45, e46, e47, e48, e49, k0_r0_0_1, k0_r0_1_0, k0_r0_1_1, k0_r0_1_2, k0_r0_2_0, k0_r0_2_1, k0_r0_2_2, and_true, true_and, or_true, true_or, and_false, false_and, or_false, false_or] <;> omega), hI40, (Chg.cons S8 (Chg.mono S42 (by decide)) (by decide))⟩)

theorem a_X11_turn_e {d : Nat} {T N : Nat → Nat} {I : IT} {L : LT} {R : RT} {A : Nat → Prop} {r0 nw kp rd : Nat} {n1 : Int32} (hI : IX A T I) (H_r0 : (h_LF T N R A) r0) (Rnw : R r0 1 = some nw) (Rkp : R r0 2 = some kp) (Rrd : R r0 0 = some rd) (hnk : kp ≠ nw) (hp0 : 0 ≤ (I nw 2).toInt) : Ex (d + 4) 142 [.ref r0, .int n1] (T, N, I, L, R) 2 12 (pW2 [2, 3] T N R (pI T N R (fun x9 I9 L9 => (¬ (n1.toInt < 0 ∨ (I nw 2).toInt ≤ n1.toInt ∨ 8 ≤ n1.toInt) ∧ (I nw 2).toInt < 8 ∧ x9.toInt = (I nw 2).toInt ∧ (I9 nw 2).toInt = (I nw 2).toInt + 1) ∧ ((I9 nw 0).toInt = (I nw 0).toInt) ∧ ((I9 nw 1).toInt = (I nw 1).toInt) ∧ ((I9 kp 0).toInt = (I kp 0).toInt) ∧ ((I9 kp 1).toInt = (I kp 1).toInt) ∧ ((I9 kp 2).toInt = (I kp 2).toInt) ∧ (IX A T I9 ∧ Chg A T [(9, 2), (10, 0), (10, 1), (10, 2), (10, 3)] I L I9 L9))) (fun e9 I9 L9 => (IX A T I9 ∧ Chg A T [(9, 2), (10, 0), (10, 1), (10, 2), (10, 3)] I L I9 L9) ∧ (e9 = 2 → ¬ (n1.toInt < 0 ∨ (I nw 2).toInt ≤ n1.toInt ∨ 8 ≤ n1.toInt) ∧ 8 ≤ (I nw 2).toInt) ∧ (e9 = 2 → (I9 nw 0).toInt = (I nw 0).toInt) ∧ (e9 = 2 → (I9 nw 1).toInt = (I nw 1).toInt) ∧ (e9 = 2 → (I9 nw 2).toInt = (I nw 2).toInt) ∧ (e9 = 2 → (I9 kp 0).toInt = (I kp 0).toInt) ∧ (e9 = 2 → (I9 kp 1).toInt = (I kp 1).toInt) ∧ (e9 = 2 → (I9 kp 2).toInt = (I kp 2).toInt) ∧ (e9 = 3 → n1.toInt < 0 ∨ (I nw 2).toInt ≤ n1.toInt ∨ 8 ≤ n1.toInt) ∧ (e9 = 3 → (I9 nw 0).toInt = (I nw 0).toInt) ∧ (e9 = 3 → (I9 nw 1).toInt = (I nw 1).toInt) ∧ (e9 = 3 → (I9 nw 2).toInt = (I nw 2).toInt) ∧ (e9 = 3 → (I9 kp 0).toInt = (I kp 0).toInt) ∧ (e9 = 3 → (I9 kp 1).toInt = (I kp 1).toInt) ∧ (e9 = 3 → (I9 kp 2).toInt = (I kp 2).toInt))) := by
  refine ⟨_, rfl, Nat.le_of_ble_eq_true rfl, fun V C S => ?_⟩
  show V 0 [(0, .ref r0), (1, .int n1)] [] (T, N, I, L, R) 0 0
  have gn1 := rg n1
  obtain ⟨T_r0, A_r0, ⟨r0_0, R_r0_0, H_r0_0⟩, ⟨r0_1, R_r0_1, H_r0_1⟩, ⟨r0_2, R_r0_2, H_r0_2⟩, ⟨r0_5, R_r0_5, H_r0_5⟩, ⟨r0_6, R_r0_6, H_r0_6⟩, ⟨r0_7, R_r0_7, H_r0_7⟩, ⟨r0_8, R_r0_8, H_r0_8⟩, ⟨r0_9, R_r0_9, H_r0_9⟩, ⟨r0_10, R_r0_10, H_r0_10⟩, ⟨r0_11, R_r0_11, H_r0_11⟩, ⟨r0_12, R_r0_12, H_r0_12⟩, ⟨r0_13, R_r0_13, H_r0_13⟩⟩ := id H_r0
  have z1 : r0_1 = nw := Option.some.inj (R_r0_1.symm.trans Rnw)
  subst z1
  have z2 : r0_2 = kp := Option.some.inj (R_r0_2.symm.trans Rkp)
  subst z2
  have z3 : r0_0 = rd := Option.some.inj (R_r0_0.symm.trans Rrd)
  subst z3
  obtain ⟨T_r0_0, A_r0_0, ⟨r0_0_0, R_r0_0_0, H_r0_0_0⟩, ⟨r0_0_2, R_r0_0_2, H_r0_0_2⟩⟩ := id H_r0_0
  obtain ⟨w_r0_0_1, k0_r0_0_1⟩ : ∃ x, I r0_0 1 = x := ⟨_, rfl⟩
  have gw_r0_0_1 := rg w_r0_0_1
  obtain ⟨T_r0_1, A_r0_1, ⟨r0_1_6, R_r0_1_6, H_r0_1_6⟩, ⟨r0_1_7, R_r0_1_7, H_r0_1_7⟩, ⟨r0_1_8, R_r0_1_8, H_r0_1_8⟩, ⟨r0_1_9, R_r0_1_9, H_r0_1_9⟩, ⟨r0_1_10, R_r0_1_10, H_r0_1_10⟩⟩ := id H_r0_1
  obtain ⟨w_r0_1_0, k0_r0_1_0⟩ : ∃ x, I r0_1 0 = x := ⟨_, rfl⟩
  have gw_r0_1_0 := rg w_r0_1_0
  have ow_r0_1_0 := IX.p hI A_r0_1 T_r0_1 k0_r0_1_0
  obtain ⟨w_r0_1_1, k0_r0_1_1⟩ : ∃ x, I r0_1 1 = x := ⟨_, rfl⟩
  have gw_r0_1_1 := rg w_r0_1_1
  obtain ⟨w_r0_1_2, k0_r0_1_2⟩ : ∃ x, I r0_1 2 = x := ⟨_, rfl⟩
  have gw_r0_1_2 := rg w_r0_1_2
  obtain ⟨T_r0_2, A_r0_2, ⟨r0_2_6, R_r0_2_6, H_r0_2_6⟩, ⟨r0_2_7, R_r0_2_7, H_r0_2_7⟩, ⟨r0_2_8, R_r0_2_8, H_r0_2_8⟩, ⟨r0_2_9, R_r0_2_9, H_r0_2_9⟩, ⟨r0_2_10, R_r0_2_10, H_r0_2_10⟩⟩ := id H_r0_2
  obtain ⟨w_r0_2_0, k0_r0_2_0⟩ : ∃ x, I r0_2 0 = x := ⟨_, rfl⟩
  have gw_r0_2_0 := rg w_r0_2_0
  have ow_r0_2_0 := IX.p hI A_r0_2 T_r0_2 k0_r0_2_0
  obtain ⟨w_r0_2_1, k0_r0_2_1⟩ : ∃ x, I r0_2 1 = x := ⟨_, rfl⟩
  have gw_r0_2_1 := rg w_r0_2_1
  obtain ⟨w_r0_2_2, k0_r0_2_2⟩ : ∃ x, I r0_2 2 = x := ⟨_, rfl⟩
  have gw_r0_2_2 := rg w_r0_2_2
  try simp only [k0_r0_0_1, k0_r0_1_0, k0_r0_1_1, k0_r0_1_2, k0_r0_2_0, k0_r0_2_1, k0_r0_2_2] at hp0
  refine k_aload_n C rfl rfl rfl ?_
  refine k_iload_n C rfl rfl rfl ?_
  refine w2_VR C (a_X11_toldTable_e hI H_r0 R_r0_1 R_r0_2 R_r0_0 hnk) rfl rfl rfl rfl rfl ⟨_, rfl, rfl, T_r0, Nat.le_of_ble_eq_true rfl⟩ rfl rfl (Nat.le_of_ble_eq_true rfl) (Nat.le_of_ble_eq_true rfl) (Nat.le_of_ble_eq_true rfl) (by decide) (fun e9 he I9 L9 hq => by obtain ⟨⟨rfl, rfl⟩, hq⟩ := hq; exact Or.inl ⟨rfl, Or.inr ⟨e9, _, _, (by decide : ∀ z ∈ [3], z ∈ [2, 3]) e9 he, rfl, rfl, ⟨⟨hI, Chg.rf⟩, (fun h9 => by subst h9; exact absurd he (by decide)), (fun h9 => by subst h9; exact absurd he (by decide)), (fun h9 => by subst h9; exact absurd he (by decide)), (fun h9 => by subst h9; exact absurd he (by decide)), (fun h9 => by subst h9; exact absurd he (by decide)), (fun h9 => by subst h9; exact absurd he (by decide)), (fun h9 => by subst h9; exact absurd he (by decide)), (fun h9 => by subst h9; first | exact absurd he (by decide) | (have hx := hq rfl; simp only [k0_r0_1_2] at hx ⊢; omega)), (fun h9 => by subst h9; first | exact absurd he (by decide) | (rfl)), (fun h9 => by subst h9; first | exact absurd he (by decide) | (rfl)), (fun h9 => by subst h9; first | exact absurd he (by decide) | (rfl)), (fun h9 => by subst h9; first | exact absurd he (by decide) | (rfl)), (fun h9 => by subst h9; first | exact absurd he (by decide) | (rfl)), (fun h9 => by subst h9; first | exact absurd he (by decide) | (rfl))⟩⟩⟩) ?_
  rintro yy1 _ _ ⟨hyy1, p0yy1, rfl, rfl⟩
  obtain ⟨rr2, err2, H_rr2⟩ := hyy1
  subst err2
  try simp only [k0_r0_0_1, k0_r0_1_0, k0_r0_1_1, k0_r0_1_2, k0_r0_2_0, k0_r0_2_1, k0_r0_2_2] at p0yy1
  try have q0yy1 := congrArg Int32.toInt p0yy1
  refine k_astore_n C (lw := [(2, .ref rr2), (0, .ref r0), (1, .int n1)]) rfl rfl (Nat.le_of_ble_eq_true rfl) rfl ?_
  refine k_aload_n C rfl rfl rfl ?_
  refine g_R C rfl rfl rfl T_r0 rfl R_r0_1 ?_
  refine c_VR C (a_X8_nextTable_e hI H_r0_1 (by first | omega | (simp only [k0_r0_0_1, k0_r0_1_0, k0_r0_1_1, k0_r0_1_2, k0_r0_2_0, k0_r0_2_1, k0_r0_2_2, and_true, true_and, or_true, true_or, and_false, false_and, or_false, false_or] <;> omega))) rfl rfl rfl rfl rfl ⟨_, rfl, rfl, T_r0_1, Nat.le_of_ble_eq_true rfl⟩ rfl rfl (Nat.le_of_ble_eq_true rfl) (Nat.le_of_ble_eq_true rfl) (Nat.le_of_ble_eq_true rfl) ?_
  rintro yy3 I4 L5 ⟨hyy3, p0yy3, p1yy3, p2yy3, hI4, S6⟩
  have e7 := Chg.k S6 T_r0_0 (by decide) (by decide) k0_r0_0_1
  have e8 := Chg.k S6 T_r0_1 (by decide) (by decide) k0_r0_1_0
  have e9 := Chg.k S6 T_r0_1 (by decide) (by decide) k0_r0_1_1
  have e10 := Chg.k S6 T_r0_2 (by decide) (by decide) k0_r0_2_0
  have e11 := Chg.k S6 T_r0_2 (by decide) (by decide) k0_r0_2_1
  have e12 := (congrFun (p2yy3 r0_2 (by first | exact hnk | exact fun e => hnk e.symm) T_r0_2) 2).trans k0_r0_2_2
  obtain ⟨x13, e14⟩ : ∃ x, I4 r0_1 2 = x := ⟨_, rfl⟩
  have gx13 := rg x13
  try simp only [k0_r0_0_1, k0_r0_1_0, k0_r0_1_1, k0_r0_1_2, k0_r0_2_0, k0_r0_2_1, k0_r0_2_2, e14] at p0yy3
  try have q0yy3 := congrArg Int32.toInt p0yy3
  try simp only [k0_r0_0_1, k0_r0_1_0, k0_r0_1_1, k0_r0_1_2, k0_r0_2_0, k0_r0_2_1, k0_r0_2_2, e14] at p1yy3
  try have q1yy3 := congrArg Int32.toInt p1yy3
  try simp only [k0_r0_0_1, k0_r0_1_0, k0_r0_1_1, k0_r0_1_2, k0_r0_2_0, k0_r0_2_1, k0_r0_2_2, e14] at p2yy3
  try have q2yy3 := congrArg Int32.toInt p2yy3
  refine k_astore_nV C (x := yy3) (lw := [(3, va_rf yy3), (2, .ref rr2), (0, .ref r0), (1, .int n1)]) rfl rfl (Nat.le_of_ble_eq_true rfl) rfl ?_
  refine k_aload_nV C (x := yy3) rfl rfl rfl ?_
  refine k_ifnonnull C (x := yy3) (t := 26) rfl rfl rfl (fun c15 => ?_) (fun rr16 c15 => ?_)
  · skip
    subst c15
    have hn := p0yy3 rfl
    exact k_throw C rfl rfl rfl rfl rfl rfl (Nat.le_of_ble_eq_true rfl) (Nat.le_of_ble_eq_true rfl) (Nat.le_of_ble_eq_true rfl) (Or.inr ⟨_, _, _, (by decide : 2 ∈ [2, 3]), rfl, rfl, ⟨⟨hI4, (Chg.mono S6 (by decide))⟩, (fun _ => by first | omega | (simp only [e7, e8, e9, e10, e11, e12, e14, k0_r0_0_1, k0_r0_1_0, k0_r0_1_1, k0_r0_1_2, k0_r0_2_0, k0_r0_2_1, k0_r0_2_2, and_true, true_and, or_true, true_or, and_false, false_and, or_false, false_or] <;> omega)), (fun _ => by first | omega | (simp only [e7, e8, e9, e10, e11, e12, e14, k0_r0_0_1, k0_r0_1_0, k0_r0_1_1, k0_r0_1_2, k0_r0_2_0, k0_r0_2_1, k0_r0_2_2, and_true, true_and, or_true, true_or, and_false, false_and, or_false, false_or] <;> omega)), (fun _ => by first | omega | (simp only [e7, e8, e9, e10, e11, e12, e14, k0_r0_0_1, k0_r0_1_0, k0_r0_1_1, k0_r0_1_2, k0_r0_2_0, k0_r0_2_1, k0_r0_2_2, and_true, true_and, or_true, true_or, and_false, false_and, or_false, false_or] <;> omega)), (fun _ => by first | omega | (simp only [e7, e8, e9, e10, e11, e12, e14, k0_r0_0_1, k0_r0_1_0, k0_r0_1_1, k0_r0_1_2, k0_r0_2_0, k0_r0_2_1, k0_r0_2_2, and_true, true_and, or_true, true_or, and_false, false_and, or_false, false_or] <;> omega)), (fun _ => by first | omega | (simp only [e7, e8, e9, e10, e11, e12, e14, k0_r0_0_1, k0_r0_1_0, k0_r0_1_1, k0_r0_1_2, k0_r0_2_0, k0_r0_2_1, k0_r0_2_2, and_true, true_and, or_true, true_or, and_false, false_and, or_false, false_or] <;> omega)), (fun _ => by first | omega | (simp only [e7, e8, e9, e10, e11, e12, e14, k0_r0_0_1, k0_r0_1_0, k0_r0_1_1, k0_r0_1_2, k0_r0_2_0, k0_r0_2_1, k0_r0_2_2, and_true, true_and, or_true, true_or, and_false, false_and, or_false, false_or] <;> omega)), (fun _ => by first | omega | (simp only [e7, e8, e9, e10, e11, e12, e14, k0_r0_0_1, k0_r0_1_0, k0_r0_1_1, k0_r0_1_2, k0_r0_2_0, k0_r0_2_1, k0_r0_2_2, and_true, true_and, or_true, true_or, and_false, false_and, or_false, false_or] <;> omega)), (fun h9 => absurd h9 (by decide)), (fun h9 => absurd h9 (by decide)), (fun h9 => absurd h9 (by decide)), (fun h9 => absurd h9 (by decide)), (fun h9 => absurd h9 (by decide)), (fun h9 => absurd h9 (by decide)), (fun h9 => absurd h9 (by decide))⟩⟩)
  subst c15
  have H_rr16 := hyy3 rr16 rfl
  have hn := p1yy3 _ rfl
  refine k_aload_n C rfl rfl rfl ?_
  refine g_R C rfl rfl rfl T_r0 rfl R_r0_5 ?_
  refine k_aload_n C rfl rfl rfl ?_
  refine g_R C rfl rfl rfl T_r0 rfl R_r0_5 ?_
  refine k_aload_n C rfl rfl rfl ?_
  obtain ⟨T_rr2, A_rr2⟩ := id H_rr2
  refine z_gI C rfl rfl rfl T_rr2 rfl (fun x17 ex17 => ?_)
  have gx17 := rg x17
  refine k_aload_n C rfl rfl rfl ?_
  refine z_gI C rfl rfl rfl T_rr2 rfl (fun x18 ex18 => ?_)
  have gx18 := rg x18
  refine k_aload_n C rfl rfl rfl ?_
  refine z_gI C rfl rfl rfl T_rr2 rfl (fun x19 ex19 => ?_)
  have gx19 := rg x19
  refine k_aload_n C rfl rfl rfl ?_
  refine z_gI C rfl rfl rfl T_rr2 rfl (fun x20 ex20 => ?_)
  have gx20 := rg x20
  obtain ⟨T_r0_5, A_r0_5, ⟨r0_5_0, R_r0_5_0, H_r0_5_0⟩, ⟨r0_5_1, R_r0_5_1, H_r0_5_1⟩, ⟨r0_5_2, R_r0_5_2, H_r0_5_2⟩⟩ := id H_r0_5
  refine c_VI C (a_X0_detOf_e hI4 H_r0_5 H_r0_5.2.2.1.choose_spec.1) rfl rfl rfl rfl rfl ⟨_, rfl, rfl, T_r0_5, Nat.le_of_ble_eq_true rfl⟩ rfl rfl (Nat.le_of_ble_eq_true rfl) (Nat.le_of_ble_eq_true rfl) (Nat.le_of_ble_eq_true rfl) ?_
  rintro x21 _ _ ⟨p0x21, rfl, rfl⟩
  have gx21 := rg x21
  try simp only [e7, e8, e9, e10, e11, e12, e14, ex17, ex18, ex19, ex20] at p0x21
  try have q0x21 := congrArg Int32.toInt p0x21
  refine c_VI C (a_X0_inverse hI4 H_r0_5) rfl rfl rfl rfl rfl ⟨_, rfl, rfl, T_r0_5, Nat.le_of_ble_eq_true rfl⟩ rfl rfl (Nat.le_of_ble_eq_true rfl) (Nat.le_of_ble_eq_true rfl) (Nat.le_of_ble_eq_true rfl) ?_
  rintro x22 _ _ ⟨rfl, rfl⟩
  have gx22 := rg x22
  refine k_istore C (lw := [(4, .int x22), (3, .ref rr16), (2, .ref rr2), (0, .ref r0), (1, .int n1)]) rfl rfl (Nat.le_of_ble_eq_true rfl) rfl ?_
  refine k_aload_n C rfl rfl rfl ?_
  refine g_R C rfl rfl rfl T_r0 rfl R_r0_5 ?_
  refine k_aload_n C rfl rfl rfl ?_
  refine k_aload_n C rfl rfl rfl ?_
  refine g_I C rfl rfl rfl T_rr2 rfl ex20 ?_
  refine k_iload C rfl rfl rfl ?_
  refine zt_imul C rfl rfl (fun x23 => ?_)
  have gx23 := rg x23
  refine k_aload_n C rfl rfl rfl ?_
  refine g_I C rfl rfl rfl T_rr2 rfl ex18 ?_
  refine zt_ineg C rfl rfl (fun x24 => ?_)
  have gx24 := rg x24
  refine k_iload C rfl rfl rfl ?_
  refine zt_imul C rfl rfl (fun x25 => ?_)
  have gx25 := rg x25
  refine k_aload_n C rfl rfl rfl ?_
  refine g_I C rfl rfl rfl T_rr2 rfl ex19 ?_
  refine zt_ineg C rfl rfl (fun x26 => ?_)
  have gx26 := rg x26
  refine k_iload C rfl rfl rfl ?_
  refine zt_imul C rfl rfl (fun x27 => ?_)
  have gx27 := rg x27
  refine k_aload_n C rfl rfl rfl ?_
  refine g_I C rfl rfl rfl T_rr2 rfl ex17 ?_
  refine k_iload C rfl rfl rfl ?_
  refine zt_imul C rfl rfl (fun x28 => ?_)
  have gx28 := rg x28
  refine c_VV C (a_X0_fill hI4 H_r0_5 H_rr16) rfl rfl rfl rfl rfl ⟨_, rfl, rfl, T_r0_5, Nat.le_of_ble_eq_true rfl⟩ rfl rfl (Nat.le_of_ble_eq_true rfl) (Nat.le_of_ble_eq_true rfl) (Nat.le_of_ble_eq_true rfl) ?_
  rintro I30 L31 ⟨hI30, S32⟩
  have e33 := Chg.k S32 T_r0_0 (by decide) (by decide) e7
  have e34 := Chg.k S32 T_r0_1 (by decide) (by decide) e8
  have e35 := Chg.k S32 T_r0_1 (by decide) (by decide) e9
  have e36 := Chg.k S32 T_r0_2 (by decide) (by decide) e10
  have e37 := Chg.k S32 T_r0_2 (by decide) (by decide) e11
  have e38 := Chg.k S32 T_r0_2 (by decide) (by decide) e12
  have e39 := Chg.k S32 T_r0_1 (by decide) (by decide) e14
  refine k_aload_n C rfl rfl rfl ?_
  refine g_R C rfl rfl rfl T_r0 rfl R_r0_1 ?_
  refine g_I C rfl rfl rfl T_r0_1 rfl e39 ?_
  refine z_iconst C (z := 1) rfl rfl rfl (fun x40 ex40 => ?_)
  refine z_isub C rfl rfl ⟨by omega, by omega⟩ (fun x41 ex41 => ?_)
  exact k_iret C rfl (Or.inl rfl) (Nat.le_of_ble_eq_true rfl) (Nat.le_of_ble_eq_true rfl) (Or.inl ⟨_, _, _, rfl, rfl, by first | omega | (simp only [e33, e34, e35, e36, e37, e38, e39, k0_r0_0_1, k0_r0_1_0, k0_r0_1_1, k0_r0_1_2, k0_r0_2_0, k0_r0_2_1, k0_r0_2_2, and_true, true_and, or_true, true_or, and_false, false_and, or_false, false_or] <;> omega), by first | omega | (simp only [e33, e34, e35, e36, e37, e38, e39, k0_r0_0_1, k0_r0_1_0, k0_r0_1_1, k0_r0_1_2, k0_r0_2_0, k0_r0_2_1, k0_r0_2_2, and_true, true_and, or_true, true_or, and_false, false_and, or_false, false_or] <;> omega), by first | omega | (simp only [e33, e34, e35, e36, e37, e38, e39, k0_r0_0_1, k0_r0_1_0, k0_r0_1_1, k0_r0_1_2, k0_r0_2_0, k0_r0_2_1, k0_r0_2_2, and_true, true_and, or_true, true_or, and_false, false_and, or_false, false_or] <;> omega), by first | omega | (simp only [e33, e34, e35, e36, e37, e38, e39, k0_r0_0_1, k0_r0_1_0, k0_r0_1_1, k0_r0_1_2, k0_r0_2_0, k0_r0_2_1, k0_r0_2_2, and_true, true_and, or_true, true_or, and_false, false_and, or_false, false_or] <;> omega), by first | omega | (simp only [e33, e34, e35, e36, e37, e38, e39, k0_r0_0_1, k0_r0_1_0, k0_r0_1_1, k0_r0_1_2, k0_r0_2_0, k0_r0_2_1, k0_r0_2_2, and_true, true_and, or_true, true_or, and_false, false_and, or_false, false_or] <;> omega), by first | omega | (simp only [e33, e34, e35, e36, e37, e38, e39, k0_r0_0_1, k0_r0_1_0, k0_r0_1_1, k0_r0_1_2, k0_r0_2_0, k0_r0_2_1, k0_r0_2_2, and_true, true_and, or_true, true_or, and_false, false_and, or_false, false_or] <;> omega), hI30, (Chg.cons S6 (Chg.mono S32 (by decide)) (by decide))⟩)

theorem a_X11_signs_e {d : Nat} {T N : Nat → Nat} {I : IT} {L : LT} {R : RT} {A : Nat → Prop} {r0 nw kp rd : Nat} (hI : IX A T I) (H_r0 : (h_LF T N R A) r0) (Rnw : R r0 1 = some nw) (Rkp : R r0 2 = some kp) (Rrd : R r0 0 = some rd) (hnk : kp ≠ nw) : Ex (d + 31) 131 [.ref r0] (T, N, I, L, R) 1 6 (pW2 [0, 2] T N R (pI T N R (fun x9 I9 L9 => ((I9 rd 1).toInt = 0) ∧ ((I9 nw 0).toInt = (I nw 0).toInt) ∧ ((I9 nw 1).toInt = (I nw 1).toInt) ∧ ((I9 nw 2).toInt = (I nw 2).toInt) ∧ ((I9 kp 0).toInt = (I kp 0).toInt) ∧ ((I9 kp 1).toInt = (I kp 1).toInt) ∧ ((I9 kp 2).toInt = (I kp 2).toInt) ∧ (IX A T I9 ∧ Chg A T [(5, 1), (5, 3), (5, 4), (5, 5), (8, 2), (9, 3), (12, 4)] I L I9 L9))) (fun e9 I9 L9 => (IX A T I9 ∧ Chg A T [(5, 1), (5, 3), (5, 4), (5, 5), (8, 2), (9, 3), (12, 4)] I L I9 L9) ∧ (e9 = 0 → (I9 rd 1).toInt = 0) ∧ (e9 = 0 → (I9 nw 0).toInt = (I nw 0).toInt) ∧ (e9 = 0 → (I9 nw 1).toInt = (I nw 1).toInt) ∧ (e9 = 0 → (I9 nw 2).toInt = (I nw 2).toInt) ∧ (e9 = 0 → (I9 kp 0).toInt = (I kp 0).toInt) ∧ (e9 = 0 → (I9 kp 1).toInt = (I kp 1).toInt) ∧ (e9 = 0 → (I9 kp 2).toInt = (I kp 2).toInt) ∧ (e9 = 2 → (I9 rd 1).toInt = 0) ∧ (e9 = 2 → (I9 nw 0).toInt = (I nw 0).toInt) ∧ (e9 = 2 → (I9 nw 1).toInt = (I nw 1).toInt) ∧ (e9 = 2 → (I9 nw 2).toInt = (I nw 2).toInt) ∧ (e9 = 2 → (I9 kp 0).toInt = (I kp 0).toInt) ∧ (e9 = 2 → (I9 kp 1).toInt = (I kp 1).toInt) ∧ (e9 = 2 → (I9 kp 2).toInt = (I kp 2).toInt))) := by
  refine ⟨_, rfl, Nat.le_of_ble_eq_true rfl, fun V C S => ?_⟩
  show V 0 [(0, .ref r0)] [] (T, N, I, L, R) 0 0
  obtain ⟨T_r0, A_r0, ⟨r0_0, R_r0_0, H_r0_0⟩, ⟨r0_1, R_r0_1, H_r0_1⟩, ⟨r0_2, R_r0_2, H_r0_2⟩, ⟨r0_5, R_r0_5, H_r0_5⟩, ⟨r0_6, R_r0_6, H_r0_6⟩, ⟨r0_7, R_r0_7, H_r0_7⟩, ⟨r0_8, R_r0_8, H_r0_8⟩, ⟨r0_9, R_r0_9, H_r0_9⟩, ⟨r0_10, R_r0_10, H_r0_10⟩, ⟨r0_11, R_r0_11, H_r0_11⟩, ⟨r0_12, R_r0_12, H_r0_12⟩, ⟨r0_13, R_r0_13, H_r0_13⟩⟩ := id H_r0
  have z1 : r0_1 = nw := Option.some.inj (R_r0_1.symm.trans Rnw)
  subst z1
  have z2 : r0_2 = kp := Option.some.inj (R_r0_2.symm.trans Rkp)
  subst z2
  have z3 : r0_0 = rd := Option.some.inj (R_r0_0.symm.trans Rrd)
  subst z3
  obtain ⟨T_r0_0, A_r0_0, ⟨r0_0_0, R_r0_0_0, H_r0_0_0⟩, ⟨r0_0_2, R_r0_0_2, H_r0_0_2⟩⟩ := id H_r0_0
  obtain ⟨w_r0_0_1, k0_r0_0_1⟩ : ∃ x, I r0_0 1 = x := ⟨_, rfl⟩
  have gw_r0_0_1 := rg w_r0_0_1
  obtain ⟨T_r0_1, A_r0_1, ⟨r0_1_6, R_r0_1_6, H_r0_1_6⟩, ⟨r0_1_7, R_r0_1_7, H_r0_1_7⟩, ⟨r0_1_8, R_r0_1_8, H_r0_1_8⟩, ⟨r0_1_9, R_r0_1_9, H_r0_1_9⟩, ⟨r0_1_10, R_r0_1_10, H_r0_1_10⟩⟩ := id H_r0_1
  obtain ⟨w_r0_1_0, k0_r0_1_0⟩ : ∃ x, I r0_1 0 = x := ⟨_, rfl⟩
  have gw_r0_1_0 := rg w_r0_1_0
  have ow_r0_1_0 := IX.p hI A_r0_1 T_r0_1 k0_r0_1_0
  obtain ⟨w_r0_1_1, k0_r0_1_1⟩ : ∃ x, I r0_1 1 = x := ⟨_, rfl⟩
  have gw_r0_1_1 := rg w_r0_1_1
  obtain ⟨w_r0_1_2, k0_r0_1_2⟩ : ∃ x, I r0_1 2 = x := ⟨_, rfl⟩
  have gw_r0_1_2 := rg w_r0_1_2
  obtain ⟨T_r0_2, A_r0_2, ⟨r0_2_6, R_r0_2_6, H_r0_2_6⟩, ⟨r0_2_7, R_r0_2_7, H_r0_2_7⟩, ⟨r0_2_8, R_r0_2_8, H_r0_2_8⟩, ⟨r0_2_9, R_r0_2_9, H_r0_2_9⟩, ⟨r0_2_10, R_r0_2_10, H_r0_2_10⟩⟩ := id H_r0_2
  obtain ⟨w_r0_2_0, k0_r0_2_0⟩ : ∃ x, I r0_2 0 = x := ⟨_, rfl⟩
  have gw_r0_2_0 := rg w_r0_2_0
  have ow_r0_2_0 := IX.p hI A_r0_2 T_r0_2 k0_r0_2_0
  obtain ⟨w_r0_2_1, k0_r0_2_1⟩ : ∃ x, I r0_2 1 = x := ⟨_, rfl⟩
  have gw_r0_2_1 := rg w_r0_2_1
  obtain ⟨w_r0_2_2, k0_r0_2_2⟩ : ∃ x, I r0_2 2 = x := ⟨_, rfl⟩
  have gw_r0_2_2 := rg w_r0_2_2
  refine k_aload_n C rfl rfl rfl ?_
  refine k_aload_n C rfl rfl rfl ?_
  refine g_R C rfl rfl rfl T_r0 rfl R_r0_0 ?_
  refine k_aload_n C rfl rfl rfl ?_
  refine g_R C rfl rfl rfl T_r0 rfl R_r0_0 ?_
  refine c_VI C (a_X4_useUp_e hI H_r0_0) rfl rfl rfl rfl rfl ⟨_, rfl, rfl, T_r0_0, Nat.le_of_ble_eq_true rfl⟩ rfl rfl (Nat.le_of_ble_eq_true rfl) (Nat.le_of_ble_eq_true rfl) (Nat.le_of_ble_eq_true rfl) ?_
  rintro x1 I2 L3 ⟨p0x1, p1x1, hI2, S4⟩
  have e5 := Chg.k S4 T_r0_1 (by decide) (by decide) k0_r0_1_0
  have e6 := Chg.k S4 T_r0_1 (by decide) (by decide) k0_r0_1_1
  have e7 := Chg.k S4 T_r0_1 (by decide) (by decide) k0_r0_1_2
  have e8 := Chg.k S4 T_r0_2 (by decide) (by decide) k0_r0_2_0
  have e9 := Chg.k S4 T_r0_2 (by decide) (by decide) k0_r0_2_1
  have e10 := Chg.k S4 T_r0_2 (by decide) (by decide) k0_r0_2_2
  have gx1 := rg x1
  obtain ⟨x11, e12⟩ : ∃ x, I2 r0_0 1 = x := ⟨_, rfl⟩
  have gx11 := rg x11
  try simp only [k0_r0_0_1, k0_r0_1_0, k0_r0_1_1, k0_r0_1_2, k0_r0_2_0, k0_r0_2_1, k0_r0_2_2, e12] at p0x1
  try have q0x1 := congrArg Int32.toInt p0x1
  try simp only [k0_r0_0_1, k0_r0_1_0, k0_r0_1_1, k0_r0_1_2, k0_r0_2_0, k0_r0_2_1, k0_r0_2_2, e12] at p1x1
  try have q1x1 := congrArg Int32.toInt p1x1
  refine c_VI C (a_X4_read hI2 H_r0_0) rfl rfl rfl rfl rfl ⟨_, rfl, rfl, T_r0_0, Nat.le_of_ble_eq_true rfl⟩ rfl rfl (Nat.le_of_ble_eq_true rfl) (Nat.le_of_ble_eq_true rfl) (Nat.le_of_ble_eq_true rfl) ?_
  rintro x13 I14 L15 ⟨hI14, S16⟩
  have e17 := Chg.k S16 T_r0_1 (by decide) (by decide) e5
  have e18 := Chg.k S16 T_r0_1 (by decide) (by decide) e6
  have e19 := Chg.k S16 T_r0_1 (by decide) (by decide) e7
  have e20 := Chg.k S16 T_r0_2 (by decide) (by decide) e8
  have e21 := Chg.k S16 T_r0_2 (by decide) (by decide) e9
  have e22 := Chg.k S16 T_r0_2 (by decide) (by decide) e10
  have e23 := Chg.k S16 T_r0_0 (by decide) (by decide) e12
  have gx13 := rg x13
  refine z_pI C rfl rfl rfl T_r0 (Or.inr rfl) rfl (fun I24 uI24 => ?_)
  have hI24 : IX A T I24 := IX.f hI14 T_r0 (boX.tr (by decide) (by decide)) uI24
  have S25 : Chg A T [(12, 4)] I14 L15 I24 L15 := Chg.f A_r0 T_r0 uI24
  have e26 := u2_j uI24 (by decide) e17
  have e27 := u2_j uI24 (by decide) e18
  have e28 := u2_j uI24 (by decide) e19
  have e29 := u2_j uI24 (by decide) e20
  have e30 := u2_j uI24 (by decide) e21
  have e31 := u2_j uI24 (by decide) e22
  have e32 := u2_j uI24 (by decide) e23
  have e33 := u2_e uI24
  refine k_aload_n C rfl rfl rfl ?_
  refine g_I C rfl rfl rfl T_r0 rfl e33 ?_
  refine z_iconst C (z := -1) rfl rfl rfl (fun x34 ex34 => ?_)
  refine b_icmp_eq C (t := 34) rfl rfl rfl (fun c35 => ?_) (fun c35 => ?_)
  · skip
    refine k_aload_n C rfl rfl rfl ?_
    refine g_R C rfl rfl rfl T_r0 rfl R_r0_1 ?_
    refine c_VR C (a_X8_nextSigns hI24 H_r0_1) rfl rfl rfl rfl rfl ⟨_, rfl, rfl, T_r0_1, Nat.le_of_ble_eq_true rfl⟩ rfl rfl (Nat.le_of_ble_eq_true rfl) (Nat.le_of_ble_eq_true rfl) (Nat.le_of_ble_eq_true rfl) ?_
    rintro yy36 I37 L38 ⟨hyy36, hI37, S39⟩
    have e40 := Chg.k S39 T_r0_1 (by decide) (by decide) e26
    have e41 := Chg.k S39 T_r0_1 (by decide) (by decide) e27
    have e42 := Chg.k S39 T_r0_1 (by decide) (by decide) e28
    have e43 := Chg.k S39 T_r0_2 (by decide) (by decide) e29
    have e44 := Chg.k S39 T_r0_2 (by decide) (by decide) e30
    have e45 := Chg.k S39 T_r0_2 (by decide) (by decide) e31
    have e46 := Chg.k S39 T_r0_0 (by decide) (by decide) e32
    have e47 := Chg.k S39 T_r0 (by decide) (by decide) e33
    refine k_astore_nV C (x := yy36) (lw := [(1, va_rf yy36), (0, .ref r0)]) rfl rfl (Nat.le_of_ble_eq_true rfl) rfl ?_
    refine k_aload_nV C (x := yy36) rfl rfl rfl ?_
    refine k_ifnonnull C (x := yy36) (t := 54) rfl rfl rfl (fun c48 => ?_) (fun rr49 c48 => ?_)
    · skip
      subst c48
      exact k_throw C rfl rfl rfl rfl rfl rfl (Nat.le_of_ble_eq_true rfl) (Nat.le_of_ble_eq_true rfl) (Nat.le_of_ble_eq_true rfl) (Or.inr ⟨_, _, _, (by decide : 2 ∈ [0, 2]), rfl, rfl, ⟨⟨hI37, (Chg.cons S4 (Chg.cons S16 (Chg.cons S25 (Chg.mono S39 (by decide)) (by decide)) (by decide)) (by decide))⟩, (fun h9 => absurd h9 (by decide)), (fun h9 => absurd h9 (by decide)), (fun h9 => absurd h9 (by decide)), (fun h9 => absurd h9 (by decide)), (fun h9 => absurd h9 (by decide)), (fun h9 => absurd h9 (by decide)), (fun h9 => absurd h9 (by decide)), (fun _ => by first | omega | (simp only [e40, e41, e42, e43, e44, e45, e46, e47, k0_r0_0_1, k0_r0_1_0, k0_r0_1_1, k0_r0_1_2, k0_r0_2_0, k0_r0_2_1, k0_r0_2_2, and_true, true_and, or_true, true_or, and_false, false_and, or_false, false_or] <;> omega)), (fun _ => by first | omega | (simp only [e40, e41, e42, e43, e44, e45, e46, e47, k0_r0_0_1, k0_r0_1_0, k0_r0_1_1, k0_r0_1_2, k0_r0_2_0, k0_r0_2_1, k0_r0_2_2, and_true, true_and, or_true, true_or, and_false, false_and, or_false, false_or] <;> omega)), (fun _ => by first | omega | (simp only [e40, e41, e42, e43, e44, e45, e46, e47, k0_r0_0_1, k0_r0_1_0, k0_r0_1_1, k0_r0_1_2, k0_r0_2_0, k0_r0_2_1, k0_r0_2_2, and_true, true_and, or_true, true_or, and_false, false_and, or_false, false_or] <;> omega)), (fun _ => by first | omega | (simp only [e40, e41, e42, e43, e44, e45, e46, e47, k0_r0_0_1, k0_r0_1_0, k0_r0_1_1, k0_r0_1_2, k0_r0_2_0, k0_r0_2_1, k0_r0_2_2, and_true, true_and, or_true, true_or, and_false, false_and, or_false, false_or] <;> omega)), (fun _ => by first | omega | (simp only [e40, e41, e42, e43, e44, e45, e46, e47, k0_r0_0_1, k0_r0_1_0, k0_r0_1_1, k0_r0_1_2, k0_r0_2_0, k0_r0_2_1, k0_r0_2_2, and_true, true_and, or_true, true_or, and_false, false_and, or_false, false_or] <;> omega)), (fun _ => by first | omega | (simp only [e40, e41, e42, e43, e44, e45, e46, e47, k0_r0_0_1, k0_r0_1_0, k0_r0_1_1, k0_r0_1_2, k0_r0_2_0, k0_r0_2_1, k0_r0_2_2, and_true, true_and, or_true, true_or, and_false, false_and, or_false, false_or] <;> omega)), (fun _ => by first | omega | (simp only [e40, e41, e42, e43, e44, e45, e46, e47, k0_r0_0_1, k0_r0_1_0, k0_r0_1_1, k0_r0_1_2, k0_r0_2_0, k0_r0_2_1, k0_r0_2_2, and_true, true_and, or_true, true_or, and_false, false_and, or_false, false_or] <;> omega))⟩⟩)
    subst c48
    have H_rr49 := hyy36 rr49 rfl
    refine k_aload_n C rfl rfl rfl ?_
    refine k_aload_n C rfl rfl rfl ?_
    refine g_R C rfl rfl rfl T_r0 rfl R_r0_0 ?_
    refine g_R C rfl rfl rfl T_r0_0 rfl R_r0_0_0 ?_
    obtain ⟨T_rr49, A_rr49, ⟨rr49_0, R_rr49_0, H_rr49_0⟩, ⟨rr49_1, R_rr49_1, H_rr49_1⟩⟩ := id H_rr49
    refine c_VV C (a_X7_copyFrom hI37 H_rr49 H_r0_0_0) rfl rfl rfl rfl rfl ⟨_, rfl, rfl, T_rr49, Nat.le_of_ble_eq_true rfl⟩ rfl rfl (Nat.le_of_ble_eq_true rfl) (Nat.le_of_ble_eq_true rfl) (Nat.le_of_ble_eq_true rfl) ?_
    rintro I51 L52 ⟨hI51, S53⟩
    have e54 := Chg.k S53 T_r0_1 (by decide) (by decide) e40
    have e55 := Chg.k S53 T_r0_1 (by decide) (by decide) e41
    have e56 := Chg.k S53 T_r0_1 (by decide) (by decide) e42
    have e57 := Chg.k S53 T_r0_2 (by decide) (by decide) e43
    have e58 := Chg.k S53 T_r0_2 (by decide) (by decide) e44
    have e59 := Chg.k S53 T_r0_2 (by decide) (by decide) e45
    have e60 := Chg.k S53 T_r0_0 (by decide) (by decide) e46
    have e61 := Chg.k S53 T_r0 (by decide) (by decide) e47
    refine k_aload_n C rfl rfl rfl ?_
    refine g_R C rfl rfl rfl T_r0 rfl R_r0_1 ?_
    refine z_gI C rfl rfl rfl T_r0_1 rfl (fun x62 ex62 => ?_)
    have gx62 := rg x62
    refine z_iconst C (z := 1) rfl rfl rfl (fun x63 ex63 => ?_)
    refine zt_isub C rfl rfl (fun x64 => ?_)
    have gx64 := rg x64
    exact k_iret C rfl (Or.inl rfl) (Nat.le_of_ble_eq_true rfl) (Nat.le_of_ble_eq_true rfl) (Or.inl ⟨_, _, _, rfl, rfl, by first | omega | (simp only [e54, e55, e56, e57, e58, e59, e60, e61, ex62, k0_r0_0_1, k0_r0_1_0, k0_r0_1_1, k0_r0_1_2, k0_r0_2_0, k0_r0_2_1, k0_r0_2_2, and_true, true_and, or_true, true_or, and_false, false_and, or_false, false_or] <;> omega), by first | omega | (simp only [e54, e55, e56, e57, e58, e59, e60, e61, ex62, k0_r0_0_1, k0_r0_1_0, k0_r0_1_1, k0_r0_1_2, k0_r0_2_0, k0_r0_2_1, k0_r0_2_2, and_true, true_and, or_true, true_or, and_false, false_and, or_false, false_or] <;> omega), by first | omega | (simp only [e54, e55, e56, e57, e58, e59, e60, e61, ex62, k0_r0_0_1, k0_r0_1_0, k0_r0_1_1, k0_r0_1_2, k0_r0_2_0, k0_r0_2_1, k0_r0_2_2, and_true, true_and, or_true, true_or, and_false, false_and, or_false, false_or] <;> omega), by first | omega | (simp only [e54, e55, e56, e57, e58, e59, e60, e61, ex62, k0_r0_0_1, k0_r0_1_0, k0_r0_1_1, k0_r0_1_2, k0_r0_2_0, k0_r0_2_1, k0_r0_2_2, and_true, true_and, or_true, true_or, and_false, false_and, or_false, false_or] <;> omega), by first | omega | (simp only [e54, e55, e56, e57, e58, e59, e60, e61, ex62, k0_r0_0_1, k0_r0_1_0, k0_r0_1_1, k0_r0_1_2, k0_r0_2_0, k0_r0_2_1, k0_r0_2_2, and_true, true_and, or_true, true_or, and_false, false_and, or_false, false_or] <;> omega), by first | omega | (simp only [e54, e55, e56, e57, e58, e59, e60, e61, ex62, k0_r0_0_1, k0_r0_1_0, k0_r0_1_1, k0_r0_1_2, k0_r0_2_0, k0_r0_2_1, k0_r0_2_2, and_true, true_and, or_true, true_or, and_false, false_and, or_false, false_or] <;> omega), by first | omega | (simp only [e54, e55, e56, e57, e58, e59, e60, e61, ex62, k0_r0_0_1, k0_r0_1_0, k0_r0_1_1, k0_r0_1_2, k0_r0_2_0, k0_r0_2_1, k0_r0_2_2, and_true, true_and, or_true, true_or, and_false, false_and, or_false, false_or] <;> omega), hI51, (Chg.cons S4 (Chg.cons S16 (Chg.cons S25 (Chg.cons S39 (Chg.mono S53 (by decide)) (by decide)) (by decide)) (by decide)) (by decide))⟩)
  exact k_throw C rfl rfl rfl rfl rfl rfl (Nat.le_of_ble_eq_true rfl) (Nat.le_of_ble_eq_true rfl) (Nat.le_of_ble_eq_true rfl) (Or.inr ⟨_, _, _, (by decide : 0 ∈ [0, 2]), rfl, rfl, ⟨⟨hI24, (Chg.cons S4 (Chg.cons S16 (Chg.mono S25 (by decide)) (by decide)) (by decide))⟩, (fun _ => by first | omega | (simp only [e26, e27, e28, e29, e30, e31, e32, e33, k0_r0_0_1, k0_r0_1_0, k0_r0_1_1, k0_r0_1_2, k0_r0_2_0, k0_r0_2_1, k0_r0_2_2, and_true, true_and, or_true, true_or, and_false, false_and, or_false, false_or] <;> omega)), (fun _ => by first | omega | (simp only [e26, e27, e28, e29, e30, e31, e32, e33, k0_r0_0_1, k0_r0_1_0, k0_r0_1_1, k0_r0_1_2, k0_r0_2_0, k0_r0_2_1, k0_r0_2_2, and_true, true_and, or_true, true_or, and_false, false_and, or_false, false_or] <;> omega)), (fun _ => by first | omega | (simp only [e26, e27, e28, e29, e30, e31, e32, e33, k0_r0_0_1, k0_r0_1_0, k0_r0_1_1, k0_r0_1_2, k0_r0_2_0, k0_r0_2_1, k0_r0_2_2, and_true, true_and, or_true, true_or, and_false, false_and, or_false, false_or] <;> omega)), (fun _ => by first | omega | (simp only [e26, e27, e28, e29, e30, e31, e32, e33, k0_r0_0_1, k0_r0_1_0, k0_r0_1_1, k0_r0_1_2, k0_r0_2_0, k0_r0_2_1, k0_r0_2_2, and_true, true_and, or_true, true_or, and_false, false_and, or_false, false_or] <;> omega)), (fun _ => by first | omega | (simp only [e26, e27, e28, e29, e30, e31, e32, e33, k0_r0_0_1, k0_r0_1_0, k0_r0_1_1, k0_r0_1_2, k0_r0_2_0, k0_r0_2_1, k0_r0_2_2, and_true, true_and, or_true, true_or, and_false, false_and, or_false, false_or] <;> omega)), (fun _ => by first | omega | (simp only [e26, e27, e28, e29, e30, e31, e32, e33, k0_r0_0_1, k0_r0_1_0, k0_r0_1_1, k0_r0_1_2, k0_r0_2_0, k0_r0_2_1, k0_r0_2_2, and_true, true_and, or_true, true_or, and_false, false_and, or_false, false_or] <;> omega)), (fun _ => by first | omega | (simp only [e26, e27, e28, e29, e30, e31, e32, e33, k0_r0_0_1, k0_r0_1_0, k0_r0_1_1, k0_r0_1_2, k0_r0_2_0, k0_r0_2_1, k0_r0_2_2, and_true, true_and, or_true, true_or, and_false, false_and, or_false, false_or] <;> omega)), (fun h9 => absurd h9 (by decide)), (fun h9 => absurd h9 (by decide)), (fun h9 => absurd h9 (by decide)), (fun h9 => absurd h9 (by decide)), (fun h9 => absurd h9 (by decide)), (fun h9 => absurd h9 (by decide)), (fun h9 => absurd h9 (by decide))⟩⟩)

theorem a_X8_copyActs_e {d : Nat} {T N : Nat → Nat} {I : IT} {L : LT} {R : RT} {A : Nat → Prop} {r0 r1 : Nat} (hI : IX A T I) (H_r0 : (h_St T N R A) r0) (H_r1 : (h_St T N R A) r1) : Ex (d + 3) 109 [.ref r0, .ref r1] (T, N, I, L, R) 0 0 (pV T N R (fun I9 L9 => (∀ a, a ≠ r0 → T a = 9 → I9 a = I a) ∧ (IX A T I9 ∧ Chg A T [(3, 0), (9, 4), (9, 5)] I L I9 L9))) := by
  refine ⟨_, rfl, Nat.le_of_ble_eq_true rfl, fun V C S => ?_⟩
  show V 0 [(0, .ref r0), (1, .ref r1)] [] (T, N, I, L, R) 0 0
  obtain ⟨T_r1, A_r1, ⟨r1_6, R_r1_6, H_r1_6⟩, ⟨r1_7, R_r1_7, H_r1_7⟩, ⟨r1_8, R_r1_8, H_r1_8⟩, ⟨r1_9, R_r1_9, H_r1_9⟩, ⟨r1_10, R_r1_10, H_r1_10⟩⟩ := id H_r1
  obtain ⟨w_r1_4, k0_r1_4⟩ : ∃ x, I r1 4 = x := ⟨_, rfl⟩
  have gw_r1_4 := rg w_r1_4
  obtain ⟨w_r1_5, k0_r1_5⟩ : ∃ x, I r1 5 = x := ⟨_, rfl⟩
  have gw_r1_5 := rg w_r1_5
  refine k_aload_n C rfl rfl rfl ?_
  refine k_aload_n C rfl rfl rfl ?_
  refine g_I C rfl rfl rfl T_r1 rfl k0_r1_4 ?_
  obtain ⟨T_r0, A_r0, ⟨r0_6, R_r0_6, H_r0_6⟩, ⟨r0_7, R_r0_7, H_r0_7⟩, ⟨r0_8, R_r0_8, H_r0_8⟩, ⟨r0_9, R_r0_9, H_r0_9⟩, ⟨r0_10, R_r0_10, H_r0_10⟩⟩ := id H_r0
  refine z_pI C rfl rfl rfl T_r0 (Or.inr rfl) rfl (fun I1 uI1 => ?_)
  have hI1 : IX A T I1 := IX.f hI T_r0 (boX.tr (by decide) (by decide)) uI1
  have S2 : Chg A T [(9, 4)] I L I1 L := Chg.f A_r0 T_r0 uI1
  have F3 : ∀ a, a ≠ r0 → T a = 9 → I1 a = I a := fun a h1 _ => by rw [uI1]; exact u2_r h1
  have e4 := u2_v uI1 k0_r1_4
  have e5 := u2_j uI1 (by decide) k0_r1_5
  have e6 := u2_e uI1
  refine k_aload_n C rfl rfl rfl ?_
  refine k_aload_n C rfl rfl rfl ?_
  refine g_I C rfl rfl rfl T_r1 rfl e5 ?_
  refine z_pI C rfl rfl rfl T_r0 (Or.inr rfl) rfl (fun I7 uI7 => ?_)
  have hI7 : IX A T I7 := IX.f hI1 T_r0 (boX.tr (by decide) (by decide)) uI7
  have S8 : Chg A T [(9, 5)] I1 L I7 L := Chg.f A_r0 T_r0 uI7
  have F9 : ∀ a, a ≠ r0 → T a = 9 → I7 a = I1 a := fun a h1 _ => by rw [uI7]; exact u2_r h1
  have e10 := u2_j uI7 (by decide) e4
  have e11 := u2_v uI7 e5
  have e12 := u2_j uI7 (by decide) e6
  have e13 := u2_e uI7
  refine z_iconst C (z := 0) rfl rfl rfl (fun x14 ex14 => ?_)
  have J15 : ∀ (nn16 : Nat) (I17 : IT) (L18 : LT) (x19 : Int32), ((40 - x19.toInt).toNat = nn16) → (IX A T I17) → (Chg A T [(3, 0)] I7 L I17 L18) → (0 ≤ x19.toInt) → (x19.toInt ≤ 40) → V 18 [(0, .ref r0), (1, .ref r1), (2, .int x19)] [] (T, N, I17, L18, R) 0 0 := by
    intro nn16
    induction nn16 using Nat.strongRecOn with
    | _ nn16 ihJ15 =>
      intro I17 L18 x19 hmnn16 hI23 S22 b20 b21
      have gx19 := rg x19
      have e24 := Chg.k S22 T_r1 (by decide) (by decide) e10
      have e25 := Chg.k S22 T_r1 (by decide) (by decide) e11
      have e26 := Chg.k S22 T_r0 (by decide) (by decide) e12
      have e27 := Chg.k S22 T_r0 (by decide) (by decide) e13
      refine k_iload_n C rfl rfl rfl ?_
      refine k_aload_n C rfl rfl rfl ?_
      refine g_R C rfl rfl rfl T_r0 rfl R_r0_6 ?_
      obtain ⟨T_r0_6, N_r0_6, A_r0_6⟩ := id H_r0_6
      refine z_len C (n := 40) rfl rfl (by rw [T_r0_6]; exact Nat.le_of_ble_eq_true rfl) N_r0_6 (Nat.le_of_ble_eq_true rfl) (fun x28 ex28 => ?_)
      refine b_icmp_ge C (t := 88) rfl rfl rfl (fun c29 => ?_) (fun c29 => ?_)
      · skip
        exact k_vret C rfl rfl (Nat.le_of_ble_eq_true rfl) (Nat.le_of_ble_eq_true rfl) ⟨_, _, rfl, rfl, (fun a h1 h2 => ((Chg.o S22 h2 (by decide) (fun k => by simp)).trans ((F9 a h1 h2).trans (F3 a h1 h2)))), hI23, (Chg.cons S2 (Chg.cons S8 (Chg.mono S22 (by decide)) (by decide)) (by decide))⟩
      refine k_iload_n C rfl rfl rfl ?_
      refine k_aload_n C rfl rfl rfl ?_
      refine g_R C rfl rfl rfl T_r1 rfl R_r1_6 ?_
      obtain ⟨T_r1_6, N_r1_6, A_r1_6⟩ := id H_r1_6
      refine z_len C (n := 40) rfl rfl (by rw [T_r1_6]; exact Nat.le_of_ble_eq_true rfl) N_r1_6 (Nat.le_of_ble_eq_true rfl) (fun x30 ex30 => ?_)
      refine b_icmp_ge C (t := 88) rfl rfl rfl (fun c31 => by exfalso; omega) (fun c31 => ?_)
      refine k_aload_n C rfl rfl rfl ?_
      refine g_R C rfl rfl rfl T_r0 rfl R_r0_6 ?_
      refine k_iload_n C rfl rfl rfl ?_
      refine k_aload_n C rfl rfl rfl ?_
      refine g_R C rfl rfl rfl T_r1 rfl R_r1_6 ?_
      refine k_iload_n C rfl rfl rfl ?_
      refine z_aI C rfl rfl T_r1_6 N_r1_6 (by omega) (by omega) (fun x32 ex32 => ?_)
      have gx32 := rg x32
      refine z_sI C rfl rfl T_r0_6 N_r0_6 (by omega) (by omega) (fun I33 uI33 => ?_)
      have hI33 : IX A T I33 := IX.a hI23 T_r0_6 (Nat.le_of_ble_eq_true rfl) uI33
      have S34 : Chg A T [] I17 L18 I33 L18 := Chg.a A_r0_6 T_r0_6 (Nat.le_of_ble_eq_true rfl) uI33
      have e35 := u2_n uI33 (t_nq T_r1 T_r0_6 (by decide)) e24
      have e36 := u2_n uI33 (t_nq T_r1 T_r0_6 (by decide)) e25
      have e37 := u2_n uI33 (t_nq T_r0 T_r0_6 (by decide)) e26
      have e38 := u2_n uI33 (t_nq T_r0 T_r0_6 (by decide)) e27
      refine k_aload_n C rfl rfl rfl ?_
      refine g_R C rfl rfl rfl T_r0 rfl R_r0_7 ?_
      refine k_iload_n C rfl rfl rfl ?_
      refine c_SR C (a_X2_pick_Row40 hI33 H_r0_7) rfl rfl rfl rfl rfl rfl rfl (Nat.le_of_ble_eq_true rfl) (Nat.le_of_ble_eq_true rfl) (Nat.le_of_ble_eq_true rfl) ?_
      rintro yy39 _ _ ⟨hyy39, rfl, rfl⟩
      refine k_astore_nV C (x := yy39) (lw := [(3, va_rf yy39), (0, .ref r0), (1, .ref r1), (2, .int x19)]) rfl rfl (Nat.le_of_ble_eq_true rfl) rfl ?_
      refine k_aload_n C rfl rfl rfl ?_
      refine g_R C rfl rfl rfl T_r1 rfl R_r1_7 ?_
      refine k_iload_n C rfl rfl rfl ?_
      refine c_SR C (a_X2_pick_Row40 hI33 H_r1_7) rfl rfl rfl rfl rfl rfl rfl (Nat.le_of_ble_eq_true rfl) (Nat.le_of_ble_eq_true rfl) (Nat.le_of_ble_eq_true rfl) ?_
      rintro yy40 _ _ ⟨hyy40, rfl, rfl⟩
      refine k_astoreV C (x := yy40) (lw := [(4, va_rf yy40), (3, va_rf yy39), (0, .ref r0), (1, .ref r1), (2, .int x19)]) rfl rfl (Nat.le_of_ble_eq_true rfl) (by cases yy39 <;> rfl) ?_
      refine k_aload_nV C (x := yy39) rfl rfl rfl ?_
      refine k_ifnull C (x := yy39) (t := 82) rfl rfl rfl (fun c41 => ?_) (fun rr42 c41 => ?_)
      · skip
        subst c41
        refine z_iinc C (z := 1) (lw := fun x43 => [(2, .int x43), (4, va_rf yy40), (3, va_rf none), (0, .ref r0), (1, .ref r1)]) rfl rfl rfl (Nat.le_of_ble_eq_true rfl) rfl ⟨by omega, by omega⟩ (fun _ => rfl) (fun x43 ex43 => ?_)
        show V 85 [(2, .int x43), (4, va_rf yy40), (3, va_rf none), (0, .ref r0), (1, .ref r1)] _ _ _ _
        refine k_goto C (pc2 := 18) rfl rfl ?_
        refine k_sub S [(0, .ref r0), (1, .ref r1), (2, .int x43)] (List.forall_mem_cons.mpr ⟨List.mem_of_getElem? (i := 3) rfl, List.forall_mem_cons.mpr ⟨List.mem_of_getElem? (i := 4) rfl, List.forall_mem_cons.mpr ⟨List.mem_of_getElem? (i := 0) rfl, fun _ h => nomatch h⟩⟩⟩) ?_
        exact ihJ15 _ (by omega) I33 L18 x43 rfl hI33 (Chg.cons S22 (Chg.mono S34 (by decide)) (by decide)) (by omega) (by omega)
      subst c41
      have H_rr42 := hyy39 rr42 rfl
      refine k_aloadV C (x := yy40) rfl rfl rfl ?_
      refine k_ifnull C (x := yy40) (t := 82) rfl rfl rfl (fun c44 => ?_) (fun rr45 c44 => ?_)
      · skip
        subst c44
        refine z_iinc C (z := 1) (lw := fun x46 => [(2, .int x46), (4, va_rf none), (3, .ref rr42), (0, .ref r0), (1, .ref r1)]) rfl rfl rfl (Nat.le_of_ble_eq_true rfl) rfl ⟨by omega, by omega⟩ (fun _ => rfl) (fun x46 ex46 => ?_)
        show V 85 [(2, .int x46), (4, va_rf none), (3, .ref rr42), (0, .ref r0), (1, .ref r1)] _ _ _ _
        refine k_goto C (pc2 := 18) rfl rfl ?_
        refine k_sub S [(0, .ref r0), (1, .ref r1), (2, .int x46)] (List.forall_mem_cons.mpr ⟨List.mem_of_getElem? (i := 3) rfl, List.forall_mem_cons.mpr ⟨List.mem_of_getElem? (i := 4) rfl, List.forall_mem_cons.mpr ⟨List.mem_of_getElem? (i := 0) rfl, fun _ h => nomatch h⟩⟩⟩) ?_
        exact ihJ15 _ (by omega) I33 L18 x46 rfl hI33 (Chg.cons S22 (Chg.mono S34 (by decide)) (by decide)) (by omega) (by omega)
      subst c44
      have H_rr45 := hyy40 rr45 rfl
      refine k_aload_n C rfl rfl rfl ?_
      refine k_aload C rfl rfl rfl ?_
      obtain ⟨T_rr42, A_rr42, ⟨rr42_1, R_rr42_1, H_rr42_1⟩⟩ := id H_rr42
      refine c_VV C (a_X2_copyFrom hI33 H_rr42 H_rr45) rfl rfl rfl rfl rfl ⟨_, rfl, rfl, T_rr42, Nat.le_of_ble_eq_true rfl⟩ rfl rfl (Nat.le_of_ble_eq_true rfl) (Nat.le_of_ble_eq_true rfl) (Nat.le_of_ble_eq_true rfl) ?_
      rintro I48 L49 ⟨p0v47, p1v47, hI48, S50⟩
      have e51 := Chg.k S50 T_r1 (by decide) (by decide) e35
      have e52 := Chg.k S50 T_r1 (by decide) (by decide) e36
      have e53 := Chg.k S50 T_r0 (by decide) (by decide) e37
      have e54 := Chg.k S50 T_r0 (by decide) (by decide) e38
      obtain ⟨x55, e56⟩ : ∃ x, I48 rr42 0 = x := ⟨_, rfl⟩
      have gx55 := rg x55
      have ox55 := IX.deg hI48 A_rr42 T_rr42 e56
      obtain ⟨T_rr45, A_rr45, ⟨rr45_1, R_rr45_1, H_rr45_1⟩⟩ := id H_rr45
      obtain ⟨x57, e58⟩ : ∃ x, I48 rr45 0 = x := ⟨_, rfl⟩
      have gx57 := rg x57
      have ox57 := IX.deg hI48 A_rr45 T_rr45 e58
      try simp only [e35, e36, e37, e38, e56, e58] at p0v47
      try have q0v47 := congrArg Int32.toInt p0v47
      try simp only [e35, e36, e37, e38, e56, e58] at p1v47
      try have q1v47 := congrArg Int32.toInt p1v47
      refine z_iinc C (z := 1) (lw := fun x59 => [(2, .int x59), (4, .ref rr45), (3, .ref rr42), (0, .ref r0), (1, .ref r1)]) rfl rfl rfl (Nat.le_of_ble_eq_true rfl) rfl ⟨by omega, by omega⟩ (fun _ => rfl) (fun x59 ex59 => ?_)
      show V 85 [(2, .int x59), (4, .ref rr45), (3, .ref rr42), (0, .ref r0), (1, .ref r1)] _ _ _ _
      refine k_goto C (pc2 := 18) rfl rfl ?_
      refine k_sub S [(0, .ref r0), (1, .ref r1), (2, .int x59)] (List.forall_mem_cons.mpr ⟨List.mem_of_getElem? (i := 3) rfl, List.forall_mem_cons.mpr ⟨List.mem_of_getElem? (i := 4) rfl, List.forall_mem_cons.mpr ⟨List.mem_of_getElem? (i := 0) rfl, fun _ h => nomatch h⟩⟩⟩) ?_
      exact ihJ15 _ (by omega) I48 L49 x59 rfl hI48 (Chg.cons S22 (Chg.cons S34 (Chg.mono S50 (by decide)) (by decide)) (by decide)) (by omega) (by omega)
  refine k_istore_n C (lw := [(2, .int x14), (0, .ref r0), (1, .ref r1)]) rfl rfl (Nat.le_of_ble_eq_true rfl) rfl ?_
  refine k_sub S [(0, .ref r0), (1, .ref r1), (2, .int x14)] (List.forall_mem_cons.mpr ⟨List.mem_of_getElem? (i := 1) rfl, List.forall_mem_cons.mpr ⟨List.mem_of_getElem? (i := 2) rfl, List.forall_mem_cons.mpr ⟨List.mem_of_getElem? (i := 0) rfl, fun _ h => nomatch h⟩⟩⟩) ?_
  exact J15 _ I7 L x14 rfl hI7 Chg.rf (by omega) (by omega)

theorem a_X8_copyFrom_e {d : Nat} {T N : Nat → Nat} {I : IT} {L : LT} {R : RT} {A : Nat → Prop} {r0 r1 : Nat} (hI : IX A T I) (H_r0 : (h_St T N R A) r0) (H_r1 : (h_St T N R A) r1) : Ex (d + 4) 110 [.ref r0, .ref r1] (T, N, I, L, R) 0 0 (pV T N R (fun I9 L9 => ((I9 r0 0).toInt = (I r1 0).toInt) ∧ ((I9 r0 1).toInt = (I r1 1).toInt) ∧ ((I9 r0 2).toInt = (I r1 2).toInt) ∧ (∀ a, a ≠ r0 → T a = 9 → I9 a = I a) ∧ (IX A T I9 ∧ Chg A T [(3, 0), (8, 2), (9, 0), (9, 1), (9, 2), (9, 3), (9, 4), (9, 5), (10, 0), (10, 1), (10, 2), (10, 3)] I L I9 L9))) := by
  refine ⟨_, rfl, Nat.le_of_ble_eq_true rfl, fun V C S => ?_⟩
  show V 0 [(0, .ref r0), (1, .ref r1)] [] (T, N, I, L, R) 0 0
  obtain ⟨T_r1, A_r1, ⟨r1_6, R_r1_6, H_r1_6⟩, ⟨r1_7, R_r1_7, H_r1_7⟩, ⟨r1_8, R_r1_8, H_r1_8⟩, ⟨r1_9, R_r1_9, H_r1_9⟩, ⟨r1_10, R_r1_10, H_r1_10⟩⟩ := id H_r1
  obtain ⟨w_r1_0, k0_r1_0⟩ : ∃ x, I r1 0 = x := ⟨_, rfl⟩
  have gw_r1_0 := rg w_r1_0
  have ow_r1_0 := IX.p hI A_r1 T_r1 k0_r1_0
  obtain ⟨w_r1_1, k0_r1_1⟩ : ∃ x, I r1 1 = x := ⟨_, rfl⟩
  have gw_r1_1 := rg w_r1_1
  obtain ⟨w_r1_2, k0_r1_2⟩ : ∃ x, I r1 2 = x := ⟨_, rfl⟩
  have gw_r1_2 := rg w_r1_2
  refine k_aload_n C rfl rfl rfl ?_
  refine k_aload_n C rfl rfl rfl ?_
  refine g_I C rfl rfl rfl T_r1 rfl k0_r1_0 ?_
  obtain ⟨T_r0, A_r0, ⟨r0_6, R_r0_6, H_r0_6⟩, ⟨r0_7, R_r0_7, H_r0_7⟩, ⟨r0_8, R_r0_8, H_r0_8⟩, ⟨r0_9, R_r0_9, H_r0_9⟩, ⟨r0_10, R_r0_10, H_r0_10⟩⟩ := id H_r0
  refine z_pI C rfl rfl rfl T_r0 (Or.inr rfl) rfl (fun I1 uI1 => ?_)
  have hI1 : IX A T I1 := IX.f hI T_r0 ⟨fun h => absurd h (by decide), fun _ _ => ⟨by omega, by omega⟩⟩ uI1
  have S2 : Chg A T [(9, 0)] I L I1 L := Chg.f A_r0 T_r0 uI1
  have F3 : ∀ a, a ≠ r0 → T a = 9 → I1 a = I a := fun a h1 _ => by rw [uI1]; exact u2_r h1
  have e4 := u2_v uI1 k0_r1_0
  have e5 := u2_j uI1 (by decide) k0_r1_1
  have e6 := u2_j uI1 (by decide) k0_r1_2
  have e7 := u2_e uI1
  refine k_aload_n C rfl rfl rfl ?_
  refine k_aload_n C rfl rfl rfl ?_
  refine g_I C rfl rfl rfl T_r1 rfl e5 ?_
  refine z_pI C rfl rfl rfl T_r0 (Or.inr rfl) rfl (fun I8 uI8 => ?_)
  have hI8 : IX A T I8 := IX.f hI1 T_r0 (boX.tr (by decide) (by decide)) uI8
  have S9 : Chg A T [(9, 1)] I1 L I8 L := Chg.f A_r0 T_r0 uI8
  have F10 : ∀ a, a ≠ r0 → T a = 9 → I8 a = I1 a := fun a h1 _ => by rw [uI8]; exact u2_r h1
  have e11 := u2_j uI8 (by decide) e4
  have e12 := u2_v uI8 e5
  have e13 := u2_j uI8 (by decide) e6
  have e14 := u2_j uI8 (by decide) e7
  have e15 := u2_e uI8
  refine k_aload_n C rfl rfl rfl ?_
  refine k_aload_n C rfl rfl rfl ?_
  refine g_I C rfl rfl rfl T_r1 rfl e13 ?_
  refine z_pI C rfl rfl rfl T_r0 (Or.inr rfl) rfl (fun I16 uI16 => ?_)
  have hI16 : IX A T I16 := IX.f hI8 T_r0 (boX.tr (by decide) (by decide)) uI16
  have S17 : Chg A T [(9, 2)] I8 L I16 L := Chg.f A_r0 T_r0 uI16
  have F18 : ∀ a, a ≠ r0 → T a = 9 → I16 a = I8 a := fun a h1 _ => by rw [uI16]; exact u2_r h1
  have e19 := u2_j uI16 (by decide) e11
  have e20 := u2_j uI16 (by decide) e12
  have e21 := u2_v uI16 e13
  have e22 := u2_j uI16 (by decide) e14
  have e23 := u2_j uI16 (by decide) e15
  have e24 := u2_e uI16
  refine k_aload_n C rfl rfl rfl ?_
  refine k_aload_n C rfl rfl rfl ?_
  refine z_gI C rfl rfl rfl T_r1 rfl (fun x25 ex25 => ?_)
  have gx25 := rg x25
  refine z_pI C rfl rfl rfl T_r0 (Or.inr rfl) rfl (fun I26 uI26 => ?_)
  have hI26 : IX A T I26 := IX.f hI16 T_r0 (boX.tr (by decide) (by decide)) uI26
  have S27 : Chg A T [(9, 3)] I16 L I26 L := Chg.f A_r0 T_r0 uI26
  have F28 : ∀ a, a ≠ r0 → T a = 9 → I26 a = I16 a := fun a h1 _ => by rw [uI26]; exact u2_r h1
  have e29 := u2_j uI26 (by decide) e19
  have e30 := u2_j uI26 (by decide) e20
  have e31 := u2_j uI26 (by decide) e21
  have e32 := u2_j uI26 (by decide) e22
  have e33 := u2_j uI26 (by decide) e23
  have e34 := u2_j uI26 (by decide) e24
  have e35 := u2_v uI26 ex25
  have e36 := u2_e uI26
  refine k_aload_n C rfl rfl rfl ?_
  refine k_aload_n C rfl rfl rfl ?_
  refine c_VV C (a_X8_copyActs_e hI26 H_r0 H_r1) rfl rfl rfl rfl rfl ⟨_, rfl, rfl, T_r0, Nat.le_of_ble_eq_true rfl⟩ rfl rfl (Nat.le_of_ble_eq_true rfl) (Nat.le_of_ble_eq_true rfl) (Nat.le_of_ble_eq_true rfl) ?_
  rintro I38 L39 ⟨p0v37, hI38, S40⟩
  have e41 := Chg.k S40 T_r1 (by decide) (by decide) e29
  have e42 := Chg.k S40 T_r1 (by decide) (by decide) e30
  have e43 := Chg.k S40 T_r1 (by decide) (by decide) e31
  have e44 := Chg.k S40 T_r0 (by decide) (by decide) e32
  have e45 := Chg.k S40 T_r0 (by decide) (by decide) e33
  have e46 := Chg.k S40 T_r0 (by decide) (by decide) e34
  have e47 := Chg.k S40 T_r1 (by decide) (by decide) e35
  have e48 := Chg.k S40 T_r0 (by decide) (by decide) e36
  try simp only [e29, e30, e31, e32, e33, e34, e35, e36] at p0v37
  try have q0v37 := congrArg Int32.toInt p0v37
  refine z_iconst C (z := 0) rfl rfl rfl (fun x49 ex49 => ?_)
  have J50 : ∀ (nn51 : Nat) (I52 : IT) (L53 : LT) (x54 : Int32), ((2147483647 - x54.toInt).toNat = nn51) → (IX A T I52) → (Chg A T [(3, 0)] I38 L39 I52 L53) → (0 ≤ x54.toInt) → V 39 [(0, .ref r0), (1, .ref r1), (2, .int x54)] [] (T, N, I52, L53, R) 0 0 := by
    intro nn51
    induction nn51 using Nat.strongRecOn with
    | _ nn51 ihJ50 =>
      intro I52 L53 x54 hmnn51 hI57 S56 b55
      have gx54 := rg x54
      have e58 := Chg.k S56 T_r1 (by decide) (by decide) e41
      have e59 := Chg.k S56 T_r1 (by decide) (by decide) e42
      have e60 := Chg.k S56 T_r1 (by decide) (by decide) e43
      have e61 := Chg.k S56 T_r0 (by decide) (by decide) e44
      have e62 := Chg.k S56 T_r0 (by decide) (by decide) e45
      have e63 := Chg.k S56 T_r0 (by decide) (by decide) e46
      have e64 := Chg.k S56 T_r1 (by decide) (by decide) e47
      have e65 := Chg.k S56 T_r0 (by decide) (by decide) e48
      refine k_iload_n C rfl rfl rfl ?_
      refine k_aload_n C rfl rfl rfl ?_
      refine g_I C rfl rfl rfl T_r0 rfl e62 ?_
      refine b_icmp_ge C (t := 81) rfl rfl rfl (fun c66 => ?_) (fun c66 => ?_)
      · skip
        refine z_iconst C (z := 0) rfl rfl rfl (fun x67 ex67 => ?_)
        have J68 : ∀ (nn69 : Nat) (I70 : IT) (L71 : LT) (x72 : Int32), ((2147483647 - x72.toInt).toNat = nn69) → (IX A T I70) → (Chg A T [(10, 0), (10, 1), (10, 2), (10, 3)] I52 L53 I70 L71) → (0 ≤ x72.toInt) → V 83 [(0, .ref r0), (1, .ref r1), (2, .int x72)] [] (T, N, I70, L71, R) 0 0 := by
          intro nn69
          induction nn69 using Nat.strongRecOn with
          | _ nn69 ihJ68 =>
            intro I70 L71 x72 hmnn69 hI75 S74 b73
            have gx72 := rg x72
            have e76 := Chg.k S74 T_r1 (by decide) (by decide) e58
            have e77 := Chg.k S74 T_r1 (by decide) (by decide) e59
            have e78 := Chg.k S74 T_r1 (by decide) (by decide) e60
            have e79 := Chg.k S74 T_r0 (by decide) (by decide) e61
            have e80 := Chg.k S74 T_r0 (by decide) (by decide) e62
            have e81 := Chg.k S74 T_r0 (by decide) (by decide) e63
            have e82 := Chg.k S74 T_r1 (by decide) (by decide) e64
            have e83 := Chg.k S74 T_r0 (by decide) (by decide) e65
            refine k_iload_n C rfl rfl rfl ?_
            refine k_aload_n C rfl rfl rfl ?_
            refine g_I C rfl rfl rfl T_r0 rfl e81 ?_
            refine b_icmp_ge C (t := 143) rfl rfl rfl (fun c84 => ?_) (fun c84 => ?_)
            · skip
              refine z_iconst C (z := 0) rfl rfl rfl (fun x85 ex85 => ?_)
              have J86 : ∀ (nn87 : Nat) (I88 : IT) (L89 : LT) (x90 : Int32), ((2147483647 - x90.toInt).toNat = nn87) → (IX A T I88) → (Chg A T [(8, 2)] I70 L71 I88 L89) → (0 ≤ x90.toInt) → V 145 [(0, .ref r0), (1, .ref r1), (2, .int x90)] [] (T, N, I88, L89, R) 0 0 := by
                intro nn87
                induction nn87 using Nat.strongRecOn with
                | _ nn87 ihJ86 =>
                  intro I88 L89 x90 hmnn87 hI93 S92 b91
                  have gx90 := rg x90
                  have e94 := Chg.k S92 T_r1 (by decide) (by decide) e76
                  have e95 := Chg.k S92 T_r1 (by decide) (by decide) e77
                  have e96 := Chg.k S92 T_r1 (by decide) (by decide) e78
                  have e97 := Chg.k S92 T_r0 (by decide) (by decide) e79
                  have e98 := Chg.k S92 T_r0 (by decide) (by decide) e80
                  have e99 := Chg.k S92 T_r0 (by decide) (by decide) e81
                  have e100 := Chg.k S92 T_r1 (by decide) (by decide) e82
                  have e101 := Chg.k S92 T_r0 (by decide) (by decide) e83
                  refine k_iload_n C rfl rfl rfl ?_
                  refine k_aload_n C rfl rfl rfl ?_
                  refine g_I C rfl rfl rfl T_r0 rfl e101 ?_
                  refine b_icmp_ge C (t := 187) rfl rfl rfl (fun c102 => ?_) (fun c102 => ?_)
                  · skip
                    exact k_vret C rfl rfl (Nat.le_of_ble_eq_true rfl) (Nat.le_of_ble_eq_true rfl) ⟨_, _, rfl, rfl, by first | omega | (simp only [e94, e95, e96, e97, e98, e99, e100, e101, k0_r1_0, k0_r1_1, k0_r1_2, and_true, true_and, or_true, true_or, and_false, false_and, or_false, false_or] <;> omega), by first | omega | (simp only [e94, e95, e96, e97, e98, e99, e100, e101, k0_r1_0, k0_r1_1, k0_r1_2, and_true, true_and, or_true, true_or, and_false, false_and, or_false, false_or] <;> omega), by first | omega | (simp only [e94, e95, e96, e97, e98, e99, e100, e101, k0_r1_0, k0_r1_1, k0_r1_2, and_true, true_and, or_true, true_or, and_false, false_and, or_false, false_or] <;> omega), (fun a h1 h2 => ((Chg.o S92 h2 (by decide) (fun k => by simp)).trans ((Chg.o S74 h2 (by decide) (fun k => by simp)).trans ((Chg.o S56 h2 (by decide) (fun k => by simp)).trans ((p0v37 a h1 h2).trans ((F28 a h1 h2).trans ((F18 a h1 h2).trans ((F10 a h1 h2).trans (F3 a h1 h2))))))))), hI93, (Chg.cons S2 (Chg.cons S9 (Chg.cons S17 (Chg.cons S27 (Chg.cons S40 (Chg.cons S56 (Chg.cons S74 (Chg.mono S92 (by decide)) (by decide)) (by decide)) (by decide)) (by decide)) (by decide)) (by decide)) (by decide))⟩
                  refine k_aload_n C rfl rfl rfl ?_
                  refine k_iload_n C rfl rfl rfl ?_
                  refine c_VR C (a_X8_signsAt hI93 H_r0) rfl rfl rfl rfl rfl ⟨_, rfl, rfl, T_r0, Nat.le_of_ble_eq_true rfl⟩ rfl rfl (Nat.le_of_ble_eq_true rfl) (Nat.le_of_ble_eq_true rfl) (Nat.le_of_ble_eq_true rfl) ?_
                  rintro yy103 _ _ ⟨hyy103, rfl, rfl⟩
                  refine k_astore_nV C (x := yy103) (lw := [(3, va_rf yy103), (0, .ref r0), (1, .ref r1), (2, .int x90)]) rfl rfl (Nat.le_of_ble_eq_true rfl) rfl ?_
                  refine k_aload_n C rfl rfl rfl ?_
                  refine k_iload_n C rfl rfl rfl ?_
                  refine c_VR C (a_X8_signsAt hI93 H_r1) rfl rfl rfl rfl rfl ⟨_, rfl, rfl, T_r1, Nat.le_of_ble_eq_true rfl⟩ rfl rfl (Nat.le_of_ble_eq_true rfl) (Nat.le_of_ble_eq_true rfl) (Nat.le_of_ble_eq_true rfl) ?_
                  rintro yy104 _ _ ⟨hyy104, rfl, rfl⟩
                  refine k_astoreV C (x := yy104) (lw := [(4, va_rf yy104), (3, va_rf yy103), (0, .ref r0), (1, .ref r1), (2, .int x90)]) rfl rfl (Nat.le_of_ble_eq_true rfl) (by cases yy103 <;> rfl) ?_
                  refine k_aload_nV C (x := yy103) rfl rfl rfl ?_
                  refine k_ifnull C (x := yy103) (t := 181) rfl rfl rfl (fun c105 => ?_) (fun rr106 c105 => ?_)
                  · skip
                    subst c105
                    refine z_iinc C (z := 1) (lw := fun x107 => [(2, .int x107), (4, va_rf yy104), (3, va_rf none), (0, .ref r0), (1, .ref r1)]) rfl rfl rfl (Nat.le_of_ble_eq_true rfl) rfl ⟨by omega, by omega⟩ (fun _ => rfl) (fun x107 ex107 => ?_)
                    show V 184 [(2, .int x107), (4, va_rf yy104), (3, va_rf none), (0, .ref r0), (1, .ref r1)] _ _ _ _
                    refine k_goto C (pc2 := 145) rfl rfl ?_
                    refine k_sub S [(0, .ref r0), (1, .ref r1), (2, .int x107)] (List.forall_mem_cons.mpr ⟨List.mem_of_getElem? (i := 3) rfl, List.forall_mem_cons.mpr ⟨List.mem_of_getElem? (i := 4) rfl, List.forall_mem_cons.mpr ⟨List.mem_of_getElem? (i := 0) rfl, fun _ h => nomatch h⟩⟩⟩) ?_
                    exact ihJ86 _ (by omega) I88 L89 x107 rfl hI93 (Chg.mono S92 (by decide)) (by omega)
                  subst c105
                  have H_rr106 := hyy103 rr106 rfl
                  refine k_aloadV C (x := yy104) rfl rfl rfl ?_
                  refine k_ifnull C (x := yy104) (t := 181) rfl rfl rfl (fun c108 => ?_) (fun rr109 c108 => ?_)
                  · skip
                    subst c108
                    refine z_iinc C (z := 1) (lw := fun x110 => [(2, .int x110), (4, va_rf none), (3, .ref rr106), (0, .ref r0), (1, .ref r1)]) rfl rfl rfl (Nat.le_of_ble_eq_true rfl) rfl ⟨by omega, by omega⟩ (fun _ => rfl) (fun x110 ex110 => ?_)
                    show V 184 [(2, .int x110), (4, va_rf none), (3, .ref rr106), (0, .ref r0), (1, .ref r1)] _ _ _ _
                    refine k_goto C (pc2 := 145) rfl rfl ?_
                    refine k_sub S [(0, .ref r0), (1, .ref r1), (2, .int x110)] (List.forall_mem_cons.mpr ⟨List.mem_of_getElem? (i := 3) rfl, List.forall_mem_cons.mpr ⟨List.mem_of_getElem? (i := 4) rfl, List.forall_mem_cons.mpr ⟨List.mem_of_getElem? (i := 0) rfl, fun _ h => nomatch h⟩⟩⟩) ?_
                    exact ihJ86 _ (by omega) I88 L89 x110 rfl hI93 (Chg.mono S92 (by decide)) (by omega)
                  subst c108
                  have H_rr109 := hyy104 rr109 rfl
                  refine k_aload_n C rfl rfl rfl ?_
                  refine k_aload C rfl rfl rfl ?_
                  obtain ⟨T_rr106, A_rr106, ⟨rr106_0, R_rr106_0, H_rr106_0⟩, ⟨rr106_1, R_rr106_1, H_rr106_1⟩⟩ := id H_rr106
                  refine c_VV C (a_X7_copyFrom hI93 H_rr106 H_rr109) rfl rfl rfl rfl rfl ⟨_, rfl, rfl, T_rr106, Nat.le_of_ble_eq_true rfl⟩ rfl rfl (Nat.le_of_ble_eq_true rfl) (Nat.le_of_ble_eq_true rfl) (Nat.le_of_ble_eq_true rfl) ?_
                  rintro I112 L113 ⟨hI112, S114⟩
                  have e115 := Chg.k S114 T_r1 (by decide) (by decide) e94
                  have e116 := Chg.k S114 T_r1 (by decide) (by decide) e95
                  have e117 := Chg.k S114 T_r1 (by decide) (by decide) e96
                  have e118 := Chg.k S114 T_r0 (by decide) (by decide) e97
                  have e119 := Chg.k S114 T_r0 (by decide) (by decide) e98
                  have e120 := Chg.k S114 T_r0 (by decide) (by decide) e99
                  have e121 := Chg.k S114 T_r1 (by decide) (by decide) e100
                  have e122 := Chg.k S114 T_r0 (by decide) (by decide) e101
                  refine z_iinc C (z := 1) (lw := fun x123 => [(2, .int x123), (4, .ref rr109), (3, .ref rr106), (0, .ref r0), (1, .ref r1)]) rfl rfl rfl (Nat.le_of_ble_eq_true rfl) rfl ⟨by omega, by omega⟩ (fun _ => rfl) (fun x123 ex123 => ?_)
                  show V 184 [(2, .int x123), (4, .ref rr109), (3, .ref rr106), (0, .ref r0), (1, .ref r1)] _ _ _ _
                  refine k_goto C (pc2 := 145) rfl rfl ?_
                  refine k_sub S [(0, .ref r0), (1, .ref r1), (2, .int x123)] (List.forall_mem_cons.mpr ⟨List.mem_of_getElem? (i := 3) rfl, List.forall_mem_cons.mpr ⟨List.mem_of_getElem? (i := 4) rfl, List.forall_mem_cons.mpr ⟨List.mem_of_getElem? (i := 0) rfl, fun _ h => nomatch h⟩⟩⟩) ?_
                  exact ihJ86 _ (by omega) I112 L113 x123 rfl hI112 (Chg.cons S92 (Chg.mono S114 (by decide)) (by decide)) (by omega)
              refine k_istore_n C (lw := [(2, .int x85), (0, .ref r0), (1, .ref r1)]) rfl rfl (Nat.le_of_ble_eq_true rfl) rfl ?_
              refine k_sub S [(0, .ref r0), (1, .ref r1), (2, .int x85)] (List.forall_mem_cons.mpr ⟨List.mem_of_getElem? (i := 1) rfl, List.forall_mem_cons.mpr ⟨List.mem_of_getElem? (i := 2) rfl, List.forall_mem_cons.mpr ⟨List.mem_of_getElem? (i := 0) rfl, fun _ h => nomatch h⟩⟩⟩) ?_
              exact J86 _ I70 L71 x85 rfl hI75 Chg.rf (by omega)
            refine k_aload_n C rfl rfl rfl ?_
            refine k_iload_n C rfl rfl rfl ?_
            refine c_VR C (a_X8_tableAt_e hI75 H_r0) rfl rfl rfl rfl rfl ⟨_, rfl, rfl, T_r0, Nat.le_of_ble_eq_true rfl⟩ rfl rfl (Nat.le_of_ble_eq_true rfl) (Nat.le_of_ble_eq_true rfl) (Nat.le_of_ble_eq_true rfl) ?_
            rintro yy124 _ _ ⟨hyy124, p0yy124, p1yy124, rfl, rfl⟩
            try simp only [e76, e77, e78, e79, e80, e81, e82, e83] at p0yy124
            try have q0yy124 := congrArg Int32.toInt p0yy124
            try simp only [e76, e77, e78, e79, e80, e81, e82, e83] at p1yy124
            try have q1yy124 := congrArg Int32.toInt p1yy124
            refine k_astore_nV C (x := yy124) (lw := [(3, va_rf yy124), (0, .ref r0), (1, .ref r1), (2, .int x72)]) rfl rfl (Nat.le_of_ble_eq_true rfl) rfl ?_
            refine k_aload_n C rfl rfl rfl ?_
            refine k_iload_n C rfl rfl rfl ?_
            refine c_VR C (a_X8_tableAt_e hI75 H_r1) rfl rfl rfl rfl rfl ⟨_, rfl, rfl, T_r1, Nat.le_of_ble_eq_true rfl⟩ rfl rfl (Nat.le_of_ble_eq_true rfl) (Nat.le_of_ble_eq_true rfl) (Nat.le_of_ble_eq_true rfl) ?_
            rintro yy125 _ _ ⟨hyy125, p0yy125, p1yy125, rfl, rfl⟩
            try simp only [e76, e77, e78, e79, e80, e81, e82, e83] at p0yy125
            try have q0yy125 := congrArg Int32.toInt p0yy125
            try simp only [e76, e77, e78, e79, e80, e81, e82, e83] at p1yy125
            try have q1yy125 := congrArg Int32.toInt p1yy125
            refine k_astoreV C (x := yy125) (lw := [(4, va_rf yy125), (3, va_rf yy124), (0, .ref r0), (1, .ref r1), (2, .int x72)]) rfl rfl (Nat.le_of_ble_eq_true rfl) (by cases yy124 <;> rfl) ?_
            refine k_aload_nV C (x := yy124) rfl rfl rfl ?_
            refine k_ifnull C (x := yy124) (t := 137) rfl rfl rfl (fun c126 => ?_) (fun rr127 c126 => ?_)
            · skip
              subst c126
              refine z_iinc C (z := 1) (lw := fun x128 => [(2, .int x128), (4, va_rf yy125), (3, va_rf none), (0, .ref r0), (1, .ref r1)]) rfl rfl rfl (Nat.le_of_ble_eq_true rfl) rfl ⟨by omega, by omega⟩ (fun _ => rfl) (fun x128 ex128 => ?_)
              show V 140 [(2, .int x128), (4, va_rf yy125), (3, va_rf none), (0, .ref r0), (1, .ref r1)] _ _ _ _
              refine k_goto C (pc2 := 83) rfl rfl ?_
              refine k_sub S [(0, .ref r0), (1, .ref r1), (2, .int x128)] (List.forall_mem_cons.mpr ⟨List.mem_of_getElem? (i := 3) rfl, List.forall_mem_cons.mpr ⟨List.mem_of_getElem? (i := 4) rfl, List.forall_mem_cons.mpr ⟨List.mem_of_getElem? (i := 0) rfl, fun _ h => nomatch h⟩⟩⟩) ?_
              exact ihJ68 _ (by omega) I70 L71 x128 rfl hI75 (Chg.mono S74 (by decide)) (by omega)
            subst c126
            have H_rr127 := hyy124 rr127 rfl
            refine k_aloadV C (x := yy125) rfl rfl rfl ?_
            refine k_ifnull C (x := yy125) (t := 137) rfl rfl rfl (fun c129 => ?_) (fun rr130 c129 => ?_)
            · skip
              subst c129
              refine z_iinc C (z := 1) (lw := fun x131 => [(2, .int x131), (4, va_rf none), (3, .ref rr127), (0, .ref r0), (1, .ref r1)]) rfl rfl rfl (Nat.le_of_ble_eq_true rfl) rfl ⟨by omega, by omega⟩ (fun _ => rfl) (fun x131 ex131 => ?_)
              show V 140 [(2, .int x131), (4, va_rf none), (3, .ref rr127), (0, .ref r0), (1, .ref r1)] _ _ _ _
              refine k_goto C (pc2 := 83) rfl rfl ?_
              refine k_sub S [(0, .ref r0), (1, .ref r1), (2, .int x131)] (List.forall_mem_cons.mpr ⟨List.mem_of_getElem? (i := 3) rfl, List.forall_mem_cons.mpr ⟨List.mem_of_getElem? (i := 4) rfl, List.forall_mem_cons.mpr ⟨List.mem_of_getElem? (i := 0) rfl, fun _ h => nomatch h⟩⟩⟩) ?_
              exact ihJ68 _ (by omega) I70 L71 x131 rfl hI75 (Chg.mono S74 (by decide)) (by omega)
            subst c129
            have H_rr130 := hyy125 rr130 rfl
            refine k_aload_n C rfl rfl rfl ?_
            refine k_aload C rfl rfl rfl ?_
            obtain ⟨T_rr130, A_rr130⟩ := id H_rr130
            refine z_gI C rfl rfl rfl T_rr130 rfl (fun x132 ex132 => ?_)
            have gx132 := rg x132
            refine k_aload C rfl rfl rfl ?_
            refine z_gI C rfl rfl rfl T_rr130 rfl (fun x133 ex133 => ?_)
            have gx133 := rg x133
            refine k_aload C rfl rfl rfl ?_
            refine z_gI C rfl rfl rfl T_rr130 rfl (fun x134 ex134 => ?_)
            have gx134 := rg x134
            refine k_aload C rfl rfl rfl ?_
            refine z_gI C rfl rfl rfl T_rr130 rfl (fun x135 ex135 => ?_)
            have gx135 := rg x135
            obtain ⟨T_rr127, A_rr127⟩ := id H_rr127
            refine c_VV C (a_X9_set hI75 H_rr127) rfl rfl rfl rfl rfl ⟨_, rfl, rfl, T_rr127, Nat.le_of_ble_eq_true rfl⟩ rfl rfl (Nat.le_of_ble_eq_true rfl) (Nat.le_of_ble_eq_true rfl) (Nat.le_of_ble_eq_true rfl) ?_
            rintro I137 L138 ⟨hI137, S139⟩
            have e140 := Chg.k S139 T_r1 (by decide) (by decide) e76
            have e141 := Chg.k S139 T_r1 (by decide) (by decide) e77
            have e142 := Chg.k S139 T_r1 (by decide) (by decide) e78
            have e143 := Chg.k S139 T_r0 (by decide) (by decide) e79
            have e144 := Chg.k S139 T_r0 (by decide) (by decide) e80
            have e145 := Chg.k S139 T_r0 (by decide) (by decide) e81
            have e146 := Chg.k S139 T_r1 (by decide) (by decide) e82
            have e147 := Chg.k S139 T_r0 (by decide) (by decide) e83
            refine z_iinc C (z := 1) (lw := fun x148 => [(2, .int x148), (4, .ref rr130), (3, .ref rr127), (0, .ref r0), (1, .ref r1)]) rfl rfl rfl (Nat.le_of_ble_eq_true rfl) rfl ⟨by omega, by omega⟩ (fun _ => rfl) (fun x148 ex148 => ?_)
            show V 140 [(2, .int x148), (4, .ref rr130), (3, .ref rr127), (0, .ref r0), (1, .ref r1)] _ _ _ _
            refine k_goto C (pc2 := 83) rfl rfl ?_
            refine k_sub S [(0, .ref r0), (1, .ref r1), (2, .int x148)] (List.forall_mem_cons.mpr ⟨List.mem_of_getElem? (i := 3) rfl, List.forall_mem_cons.mpr ⟨List.mem_of_getElem? (i := 4) rfl, List.forall_mem_cons.mpr ⟨List.mem_of_getElem? (i := 0) rfl, fun _ h => nomatch h⟩⟩⟩) ?_
            exact ihJ68 _ (by omega) I137 L138 x148 rfl hI137 (Chg.cons S74 (Chg.mono S139 (by decide)) (by decide)) (by omega)
        refine k_istore_n C (lw := [(2, .int x67), (0, .ref r0), (1, .ref r1)]) rfl rfl (Nat.le_of_ble_eq_true rfl) rfl ?_
        refine k_sub S [(0, .ref r0), (1, .ref r1), (2, .int x67)] (List.forall_mem_cons.mpr ⟨List.mem_of_getElem? (i := 1) rfl, List.forall_mem_cons.mpr ⟨List.mem_of_getElem? (i := 2) rfl, List.forall_mem_cons.mpr ⟨List.mem_of_getElem? (i := 0) rfl, fun _ h => nomatch h⟩⟩⟩) ?_
        exact J68 _ I52 L53 x67 rfl hI57 Chg.rf (by omega)
      refine k_aload_n C rfl rfl rfl ?_
      refine k_iload_n C rfl rfl rfl ?_
      refine c_VR C (a_X8_formAt hI57 H_r0) rfl rfl rfl rfl rfl ⟨_, rfl, rfl, T_r0, Nat.le_of_ble_eq_true rfl⟩ rfl rfl (Nat.le_of_ble_eq_true rfl) (Nat.le_of_ble_eq_true rfl) (Nat.le_of_ble_eq_true rfl) ?_
      rintro yy149 _ _ ⟨hyy149, rfl, rfl⟩
      refine k_astore_nV C (x := yy149) (lw := [(3, va_rf yy149), (0, .ref r0), (1, .ref r1), (2, .int x54)]) rfl rfl (Nat.le_of_ble_eq_true rfl) rfl ?_
      refine k_aload_n C rfl rfl rfl ?_
      refine k_iload_n C rfl rfl rfl ?_
      refine c_VR C (a_X8_formAt hI57 H_r1) rfl rfl rfl rfl rfl ⟨_, rfl, rfl, T_r1, Nat.le_of_ble_eq_true rfl⟩ rfl rfl (Nat.le_of_ble_eq_true rfl) (Nat.le_of_ble_eq_true rfl) (Nat.le_of_ble_eq_true rfl) ?_
      rintro yy150 _ _ ⟨hyy150, rfl, rfl⟩
      refine k_astoreV C (x := yy150) (lw := [(4, va_rf yy150), (3, va_rf yy149), (0, .ref r0), (1, .ref r1), (2, .int x54)]) rfl rfl (Nat.le_of_ble_eq_true rfl) (by cases yy149 <;> rfl) ?_
      refine k_aload_nV C (x := yy149) rfl rfl rfl ?_
      refine k_ifnull C (x := yy149) (t := 75) rfl rfl rfl (fun c151 => ?_) (fun rr152 c151 => ?_)
      · skip
        subst c151
        refine z_iinc C (z := 1) (lw := fun x153 => [(2, .int x153), (4, va_rf yy150), (3, va_rf none), (0, .ref r0), (1, .ref r1)]) rfl rfl rfl (Nat.le_of_ble_eq_true rfl) rfl ⟨by omega, by omega⟩ (fun _ => rfl) (fun x153 ex153 => ?_)
        show V 78 [(2, .int x153), (4, va_rf yy150), (3, va_rf none), (0, .ref r0), (1, .ref r1)] _ _ _ _
        refine k_goto C (pc2 := 39) rfl rfl ?_
        refine k_sub S [(0, .ref r0), (1, .ref r1), (2, .int x153)] (List.forall_mem_cons.mpr ⟨List.mem_of_getElem? (i := 3) rfl, List.forall_mem_cons.mpr ⟨List.mem_of_getElem? (i := 4) rfl, List.forall_mem_cons.mpr ⟨List.mem_of_getElem? (i := 0) rfl, fun _ h => nomatch h⟩⟩⟩) ?_
        exact ihJ50 _ (by omega) I52 L53 x153 rfl hI57 (Chg.mono S56 (by decide)) (by omega)
      subst c151
      have H_rr152 := hyy149 rr152 rfl
      refine k_aloadV C (x := yy150) rfl rfl rfl ?_
      refine k_ifnull C (x := yy150) (t := 75) rfl rfl rfl (fun c154 => ?_) (fun rr155 c154 => ?_)
      · skip
        subst c154
        refine z_iinc C (z := 1) (lw := fun x156 => [(2, .int x156), (4, va_rf none), (3, .ref rr152), (0, .ref r0), (1, .ref r1)]) rfl rfl rfl (Nat.le_of_ble_eq_true rfl) rfl ⟨by omega, by omega⟩ (fun _ => rfl) (fun x156 ex156 => ?_)
        show V 78 [(2, .int x156), (4, va_rf none), (3, .ref rr152), (0, .ref r0), (1, .ref r1)] _ _ _ _
        refine k_goto C (pc2 := 39) rfl rfl ?_
        refine k_sub S [(0, .ref r0), (1, .ref r1), (2, .int x156)] (List.forall_mem_cons.mpr ⟨List.mem_of_getElem? (i := 3) rfl, List.forall_mem_cons.mpr ⟨List.mem_of_getElem? (i := 4) rfl, List.forall_mem_cons.mpr ⟨List.mem_of_getElem? (i := 0) rfl, fun _ h => nomatch h⟩⟩⟩) ?_
        exact ihJ50 _ (by omega) I52 L53 x156 rfl hI57 (Chg.mono S56 (by decide)) (by omega)
      subst c154
      have H_rr155 := hyy150 rr155 rfl
      refine k_aload_n C rfl rfl rfl ?_
      refine k_aload C rfl rfl rfl ?_
      obtain ⟨T_rr152, A_rr152, ⟨rr152_1, R_rr152_1, H_rr152_1⟩⟩ := id H_rr152
      refine c_VV C (a_X2_copyFrom hI57 H_rr152 H_rr155) rfl rfl rfl rfl rfl ⟨_, rfl, rfl, T_rr152, Nat.le_of_ble_eq_true rfl⟩ rfl rfl (Nat.le_of_ble_eq_true rfl) (Nat.le_of_ble_eq_true rfl) (Nat.le_of_ble_eq_true rfl) ?_
      rintro I158 L159 ⟨p0v157, p1v157, hI158, S160⟩
      have e161 := Chg.k S160 T_r1 (by decide) (by decide) e58
      have e162 := Chg.k S160 T_r1 (by decide) (by decide) e59
      have e163 := Chg.k S160 T_r1 (by decide) (by decide) e60
      have e164 := Chg.k S160 T_r0 (by decide) (by decide) e61
      have e165 := Chg.k S160 T_r0 (by decide) (by decide) e62
      have e166 := Chg.k S160 T_r0 (by decide) (by decide) e63
      have e167 := Chg.k S160 T_r1 (by decide) (by decide) e64
      have e168 := Chg.k S160 T_r0 (by decide) (by decide) e65
      obtain ⟨x169, e170⟩ : ∃ x, I158 rr152 0 = x := ⟨_, rfl⟩
      have gx169 := rg x169
      have ox169 := IX.deg hI158 A_rr152 T_rr152 e170
      obtain ⟨T_rr155, A_rr155, ⟨rr155_1, R_rr155_1, H_rr155_1⟩⟩ := id H_rr155
      obtain ⟨x171, e172⟩ : ∃ x, I158 rr155 0 = x := ⟨_, rfl⟩
      have gx171 := rg x171
      have ox171 := IX.deg hI158 A_rr155 T_rr155 e172
      try simp only [e58, e59, e60, e61, e62, e63, e64, e65, e170, e172] at p0v157
      try have q0v157 := congrArg Int32.toInt p0v157
      try simp only [e58, e59, e60, e61, e62, e63, e64, e65, e170, e172] at p1v157
      try have q1v157 := congrArg Int32.toInt p1v157
      refine z_iinc C (z := 1) (lw := fun x173 => [(2, .int x173), (4, .ref rr155), (3, .ref rr152), (0, .ref r0), (1, .ref r1)]) rfl rfl rfl (Nat.le_of_ble_eq_true rfl) rfl ⟨by omega, by omega⟩ (fun _ => rfl) (fun x173 ex173 => ?_)
      show V 78 [(2, .int x173), (4, .ref rr155), (3, .ref rr152), (0, .ref r0), (1, .ref r1)] _ _ _ _
      refine k_goto C (pc2 := 39) rfl rfl ?_
      refine k_sub S [(0, .ref r0), (1, .ref r1), (2, .int x173)] (List.forall_mem_cons.mpr ⟨List.mem_of_getElem? (i := 3) rfl, List.forall_mem_cons.mpr ⟨List.mem_of_getElem? (i := 4) rfl, List.forall_mem_cons.mpr ⟨List.mem_of_getElem? (i := 0) rfl, fun _ h => nomatch h⟩⟩⟩) ?_
      exact ihJ50 _ (by omega) I158 L159 x173 rfl hI158 (Chg.cons S56 (Chg.mono S160 (by decide)) (by decide)) (by omega)
  refine k_istore_n C (lw := [(2, .int x49), (0, .ref r0), (1, .ref r1)]) rfl rfl (Nat.le_of_ble_eq_true rfl) rfl ?_
  refine k_sub S [(0, .ref r0), (1, .ref r1), (2, .int x49)] (List.forall_mem_cons.mpr ⟨List.mem_of_getElem? (i := 1) rfl, List.forall_mem_cons.mpr ⟨List.mem_of_getElem? (i := 2) rfl, List.forall_mem_cons.mpr ⟨List.mem_of_getElem? (i := 0) rfl, fun _ h => nomatch h⟩⟩⟩) ?_
  exact J50 _ I38 L39 x49 rfl hI38 Chg.rf (by omega)

theorem a_X11_image_e {d : Nat} {T N : Nat → Nat} {I : IT} {L : LT} {R : RT} {A : Nat → Prop} {r0 nw kp rd : Nat} (hI : IX A T I) (H_r0 : (h_LF T N R A) r0) (Rnw : R r0 1 = some nw) (Rkp : R r0 2 = some kp) (Rrd : R r0 0 = some rd) (hnk : kp ≠ nw) : Ex (d + 5) 174 [.ref r0] (T, N, I, L, R) 0 0 (pV T N R (fun I9 L9 => ((I9 r0 3).toInt = 1) ∧ ((I9 kp 0).toInt = (I nw 0).toInt) ∧ ((I9 kp 1).toInt = (I nw 1).toInt) ∧ ((I9 kp 2).toInt = (I nw 2).toInt) ∧ ((I9 nw 0).toInt = (I nw 0).toInt) ∧ ((I9 nw 1).toInt = (I nw 1).toInt) ∧ ((I9 nw 2).toInt = (I nw 2).toInt) ∧ (IX A T I9 ∧ Chg A T [(3, 0), (8, 2), (9, 0), (9, 1), (9, 2), (9, 3), (9, 4), (9, 5), (10, 0), (10, 1), (10, 2), (10, 3), (12, 3)] I L I9 L9))) := by
  refine ⟨_, rfl, Nat.le_of_ble_eq_true rfl, fun V C S => ?_⟩
  show V 0 [(0, .ref r0)] [] (T, N, I, L, R) 0 0
  obtain ⟨T_r0, A_r0, ⟨r0_0, R_r0_0, H_r0_0⟩, ⟨r0_1, R_r0_1, H_r0_1⟩, ⟨r0_2, R_r0_2, H_r0_2⟩, ⟨r0_5, R_r0_5, H_r0_5⟩, ⟨r0_6, R_r0_6, H_r0_6⟩, ⟨r0_7, R_r0_7, H_r0_7⟩, ⟨r0_8, R_r0_8, H_r0_8⟩, ⟨r0_9, R_r0_9, H_r0_9⟩, ⟨r0_10, R_r0_10, H_r0_10⟩, ⟨r0_11, R_r0_11, H_r0_11⟩, ⟨r0_12, R_r0_12, H_r0_12⟩, ⟨r0_13, R_r0_13, H_r0_13⟩⟩ := id H_r0
  have z1 : r0_1 = nw := Option.some.inj (R_r0_1.symm.trans Rnw)
  subst z1
  have z2 : r0_2 = kp := Option.some.inj (R_r0_2.symm.trans Rkp)
  subst z2
  have z3 : r0_0 = rd := Option.some.inj (R_r0_0.symm.trans Rrd)
  subst z3
  obtain ⟨T_r0_0, A_r0_0, ⟨r0_0_0, R_r0_0_0, H_r0_0_0⟩, ⟨r0_0_2, R_r0_0_2, H_r0_0_2⟩⟩ := id H_r0_0
  obtain ⟨w_r0_0_1, k0_r0_0_1⟩ : ∃ x, I r0_0 1 = x := ⟨_, rfl⟩
  have gw_r0_0_1 := rg w_r0_0_1
  obtain ⟨T_r0_1, A_r0_1, ⟨r0_1_6, R_r0_1_6, H_r0_1_6⟩, ⟨r0_1_7, R_r0_1_7, H_r0_1_7⟩, ⟨r0_1_8, R_r0_1_8, H_r0_1_8⟩, ⟨r0_1_9, R_r0_1_9, H_r0_1_9⟩, ⟨r0_1_10, R_r0_1_10, H_r0_1_10⟩⟩ := id H_r0_1
  obtain ⟨w_r0_1_0, k0_r0_1_0⟩ : ∃ x, I r0_1 0 = x := ⟨_, rfl⟩
  have gw_r0_1_0 := rg w_r0_1_0
  have ow_r0_1_0 := IX.p hI A_r0_1 T_r0_1 k0_r0_1_0
  obtain ⟨w_r0_1_1, k0_r0_1_1⟩ : ∃ x, I r0_1 1 = x := ⟨_, rfl⟩
  have gw_r0_1_1 := rg w_r0_1_1
  obtain ⟨w_r0_1_2, k0_r0_1_2⟩ : ∃ x, I r0_1 2 = x := ⟨_, rfl⟩
  have gw_r0_1_2 := rg w_r0_1_2
  obtain ⟨T_r0_2, A_r0_2, ⟨r0_2_6, R_r0_2_6, H_r0_2_6⟩, ⟨r0_2_7, R_r0_2_7, H_r0_2_7⟩, ⟨r0_2_8, R_r0_2_8, H_r0_2_8⟩, ⟨r0_2_9, R_r0_2_9, H_r0_2_9⟩, ⟨r0_2_10, R_r0_2_10, H_r0_2_10⟩⟩ := id H_r0_2
  obtain ⟨w_r0_2_0, k0_r0_2_0⟩ : ∃ x, I r0_2 0 = x := ⟨_, rfl⟩
  have gw_r0_2_0 := rg w_r0_2_0
  have ow_r0_2_0 := IX.p hI A_r0_2 T_r0_2 k0_r0_2_0
  obtain ⟨w_r0_2_1, k0_r0_2_1⟩ : ∃ x, I r0_2 1 = x := ⟨_, rfl⟩
  have gw_r0_2_1 := rg w_r0_2_1
  obtain ⟨w_r0_2_2, k0_r0_2_2⟩ : ∃ x, I r0_2 2 = x := ⟨_, rfl⟩
  have gw_r0_2_2 := rg w_r0_2_2
  refine k_aload_n C rfl rfl rfl ?_
  refine g_R C rfl rfl rfl T_r0 rfl R_r0_2 ?_
  refine k_aload_n C rfl rfl rfl ?_
  refine g_R C rfl rfl rfl T_r0 rfl R_r0_1 ?_
  refine c_VV C (a_X8_copyFrom_e hI H_r0_2 H_r0_1) rfl rfl rfl rfl rfl ⟨_, rfl, rfl, T_r0_2, Nat.le_of_ble_eq_true rfl⟩ rfl rfl (Nat.le_of_ble_eq_true rfl) (Nat.le_of_ble_eq_true rfl) (Nat.le_of_ble_eq_true rfl) ?_
  rintro I2 L3 ⟨p0v1, p1v1, p2v1, p3v1, hI2, S4⟩
  have e5 := Chg.k S4 T_r0_0 (by decide) (by decide) k0_r0_0_1
  have e6 := (congrFun (p3v1 r0_1 (by first | exact hnk | exact fun e => hnk e.symm) T_r0_1) 0).trans k0_r0_1_0
  have e7 := (congrFun (p3v1 r0_1 (by first | exact hnk | exact fun e => hnk e.symm) T_r0_1) 1).trans k0_r0_1_1
  have e8 := (congrFun (p3v1 r0_1 (by first | exact hnk | exact fun e => hnk e.symm) T_r0_1) 2).trans k0_r0_1_2
  obtain ⟨x9, e10⟩ : ∃ x, I2 r0_2 0 = x := ⟨_, rfl⟩
  have gx9 := rg x9
  have ox9 := IX.p hI2 A_r0_2 T_r0_2 e10
  obtain ⟨x11, e12⟩ : ∃ x, I2 r0_2 1 = x := ⟨_, rfl⟩
  have gx11 := rg x11
  obtain ⟨x13, e14⟩ : ∃ x, I2 r0_2 2 = x := ⟨_, rfl⟩
  have gx13 := rg x13
  try simp only [k0_r0_0_1, k0_r0_1_0, k0_r0_1_1, k0_r0_1_2, k0_r0_2_0, k0_r0_2_1, k0_r0_2_2, e10, e12, e14] at p0v1
  try have q0v1 := congrArg Int32.toInt p0v1
  try simp only [k0_r0_0_1, k0_r0_1_0, k0_r0_1_1, k0_r0_1_2, k0_r0_2_0, k0_r0_2_1, k0_r0_2_2, e10, e12, e14] at p1v1
  try have q1v1 := congrArg Int32.toInt p1v1
  try simp only [k0_r0_0_1, k0_r0_1_0, k0_r0_1_1, k0_r0_1_2, k0_r0_2_0, k0_r0_2_1, k0_r0_2_2, e10, e12, e14] at p2v1
  try have q2v1 := congrArg Int32.toInt p2v1
  try simp only [k0_r0_0_1, k0_r0_1_0, k0_r0_1_1, k0_r0_1_2, k0_r0_2_0, k0_r0_2_1, k0_r0_2_2, e10, e12, e14] at p3v1
  try have q3v1 := congrArg Int32.toInt p3v1
  refine k_aload_n C rfl rfl rfl ?_
  refine z_iconst C (z := 1) rfl rfl rfl (fun x15 ex15 => ?_)
  refine z_pZ C rfl rfl rfl T_r0 (Or.inr rfl) rfl (z01 (by omega) (by omega)) (fun I16 uI16 => ?_)
  have hI16 : IX A T I16 := IX.f hI2 T_r0 (boX.tr (by decide) (by decide)) uI16
  have S17 : Chg A T [(12, 3)] I2 L3 I16 L3 := Chg.f A_r0 T_r0 uI16
  have e18 := u2_j uI16 (by decide) e5
  have e19 := u2_j uI16 (by decide) e6
  have e20 := u2_j uI16 (by decide) e7
  have e21 := u2_j uI16 (by decide) e8
  have e22 := u2_j uI16 (by decide) e10
  have e23 := u2_j uI16 (by decide) e12
  have e24 := u2_j uI16 (by decide) e14
  have e25 := u2_e uI16
  exact k_vret C rfl rfl (Nat.le_of_ble_eq_true rfl) (Nat.le_of_ble_eq_true rfl) ⟨_, _, rfl, rfl, by first | omega | (simp only [e18, e19, e20, e21, e22, e23, e24, e25, k0_r0_0_1, k0_r0_1_0, k0_r0_1_1, k0_r0_1_2, k0_r0_2_0, k0_r0_2_1, k0_r0_2_2, and_true, true_and, or_true, true_or, and_false, false_and, or_false, false_or] <;> omega), by first | omega | (simp only [e18, e19, e20, e21, e22, e23, e24, e25, k0_r0_0_1, k0_r0_1_0, k0_r0_1_1, k0_r0_1_2, k0_r0_2_0, k0_r0_2_1, k0_r0_2_2, and_true, true_and, or_true, true_or, and_false, false_and, or_false, false_or] <;> omega), by first | omega | (simp only [e18, e19, e20, e21, e22, e23, e24, e25, k0_r0_0_1, k0_r0_1_0, k0_r0_1_1, k0_r0_1_2, k0_r0_2_0, k0_r0_2_1, k0_r0_2_2, and_true, true_and, or_true, true_or, and_false, false_and, or_false, false_or] <;> omega), by first | omega | (simp only [e18, e19, e20, e21, e22, e23, e24, e25, k0_r0_0_1, k0_r0_1_0, k0_r0_1_1, k0_r0_1_2, k0_r0_2_0, k0_r0_2_1, k0_r0_2_2, and_true, true_and, or_true, true_or, and_false, false_and, or_false, false_or] <;> omega), by first | omega | (simp only [e18, e19, e20, e21, e22, e23, e24, e25, k0_r0_0_1, k0_r0_1_0, k0_r0_1_1, k0_r0_1_2, k0_r0_2_0, k0_r0_2_1, k0_r0_2_2, and_true, true_and, or_true, true_or, and_false, false_and, or_false, false_or] <;> omega), by first | omega | (simp only [e18, e19, e20, e21, e22, e23, e24, e25, k0_r0_0_1, k0_r0_1_0, k0_r0_1_1, k0_r0_1_2, k0_r0_2_0, k0_r0_2_1, k0_r0_2_2, and_true, true_and, or_true, true_or, and_false, false_and, or_false, false_or] <;> omega), by first | omega | (simp only [e18, e19, e20, e21, e22, e23, e24, e25, k0_r0_0_1, k0_r0_1_0, k0_r0_1_1, k0_r0_1_2, k0_r0_2_0, k0_r0_2_1, k0_r0_2_2, and_true, true_and, or_true, true_or, and_false, false_and, or_false, false_or] <;> omega), hI16, (Chg.cons S4 (Chg.mono S17 (by decide)) (by decide))⟩

theorem a_X11_back_e {d : Nat} {T N : Nat → Nat} {I : IT} {L : LT} {R : RT} {A : Nat → Prop} {r0 nw kp rd : Nat} (hI : IX A T I) (H_r0 : (h_LF T N R A) r0) (Rnw : R r0 1 = some nw) (Rkp : R r0 2 = some kp) (Rrd : R r0 0 = some rd) (hnk : kp ≠ nw) : Ex (d + 5) 175 [.ref r0] (T, N, I, L, R) 0 0 (pI T N R (fun x9 I9 L9 => (0 ≤ x9.toInt) ∧ (x9.toInt ≤ 1) ∧ (x9.toInt = 0 ∧ (I r0 3).toInt = 0 ∧ (I9 nw 0).toInt = (I nw 0).toInt ∧ (I9 nw 1).toInt = (I nw 1).toInt ∧ (I9 nw 2).toInt = (I nw 2).toInt ∨ x9.toInt = 1 ∧ (I r0 3).toInt ≠ 0 ∧ (I9 nw 0).toInt = (I kp 0).toInt ∧ (I9 nw 1).toInt = (I kp 1).toInt ∧ (I9 nw 2).toInt = (I kp 2).toInt) ∧ ((I9 kp 0).toInt = (I kp 0).toInt) ∧ ((I9 kp 1).toInt = (I kp 1).toInt) ∧ ((I9 kp 2).toInt = (I kp 2).toInt) ∧ (IX A T I9 ∧ Chg A T [(3, 0), (8, 2), (9, 0), (9, 1), (9, 2), (9, 3), (9, 4), (9, 5), (10, 0), (10, 1), (10, 2), (10, 3)] I L I9 L9))) := by
  refine ⟨_, rfl, Nat.le_of_ble_eq_true rfl, fun V C S => ?_⟩
  show V 0 [(0, .ref r0)] [] (T, N, I, L, R) 0 0
  obtain ⟨T_r0, A_r0, ⟨r0_0, R_r0_0, H_r0_0⟩, ⟨r0_1, R_r0_1, H_r0_1⟩, ⟨r0_2, R_r0_2, H_r0_2⟩, ⟨r0_5, R_r0_5, H_r0_5⟩, ⟨r0_6, R_r0_6, H_r0_6⟩, ⟨r0_7, R_r0_7, H_r0_7⟩, ⟨r0_8, R_r0_8, H_r0_8⟩, ⟨r0_9, R_r0_9, H_r0_9⟩, ⟨r0_10, R_r0_10, H_r0_10⟩, ⟨r0_11, R_r0_11, H_r0_11⟩, ⟨r0_12, R_r0_12, H_r0_12⟩, ⟨r0_13, R_r0_13, H_r0_13⟩⟩ := id H_r0
  have z1 : r0_1 = nw := Option.some.inj (R_r0_1.symm.trans Rnw)
  subst z1
  have z2 : r0_2 = kp := Option.some.inj (R_r0_2.symm.trans Rkp)
  subst z2
  have z3 : r0_0 = rd := Option.some.inj (R_r0_0.symm.trans Rrd)
  subst z3
  obtain ⟨T_r0_0, A_r0_0, ⟨r0_0_0, R_r0_0_0, H_r0_0_0⟩, ⟨r0_0_2, R_r0_0_2, H_r0_0_2⟩⟩ := id H_r0_0
  obtain ⟨w_r0_0_1, k0_r0_0_1⟩ : ∃ x, I r0_0 1 = x := ⟨_, rfl⟩
  have gw_r0_0_1 := rg w_r0_0_1
  obtain ⟨T_r0_1, A_r0_1, ⟨r0_1_6, R_r0_1_6, H_r0_1_6⟩, ⟨r0_1_7, R_r0_1_7, H_r0_1_7⟩, ⟨r0_1_8, R_r0_1_8, H_r0_1_8⟩, ⟨r0_1_9, R_r0_1_9, H_r0_1_9⟩, ⟨r0_1_10, R_r0_1_10, H_r0_1_10⟩⟩ := id H_r0_1
  obtain ⟨w_r0_1_0, k0_r0_1_0⟩ : ∃ x, I r0_1 0 = x := ⟨_, rfl⟩
  have gw_r0_1_0 := rg w_r0_1_0
  have ow_r0_1_0 := IX.p hI A_r0_1 T_r0_1 k0_r0_1_0
  obtain ⟨w_r0_1_1, k0_r0_1_1⟩ : ∃ x, I r0_1 1 = x := ⟨_, rfl⟩
  have gw_r0_1_1 := rg w_r0_1_1
  obtain ⟨w_r0_1_2, k0_r0_1_2⟩ : ∃ x, I r0_1 2 = x := ⟨_, rfl⟩
  have gw_r0_1_2 := rg w_r0_1_2
  obtain ⟨T_r0_2, A_r0_2, ⟨r0_2_6, R_r0_2_6, H_r0_2_6⟩, ⟨r0_2_7, R_r0_2_7, H_r0_2_7⟩, ⟨r0_2_8, R_r0_2_8, H_r0_2_8⟩, ⟨r0_2_9, R_r0_2_9, H_r0_2_9⟩, ⟨r0_2_10, R_r0_2_10, H_r0_2_10⟩⟩ := id H_r0_2
  obtain ⟨w_r0_2_0, k0_r0_2_0⟩ : ∃ x, I r0_2 0 = x := ⟨_, rfl⟩
  have gw_r0_2_0 := rg w_r0_2_0
  have ow_r0_2_0 := IX.p hI A_r0_2 T_r0_2 k0_r0_2_0
  obtain ⟨w_r0_2_1, k0_r0_2_1⟩ : ∃ x, I r0_2 1 = x := ⟨_, rfl⟩
  have gw_r0_2_1 := rg w_r0_2_1
  obtain ⟨w_r0_2_2, k0_r0_2_2⟩ : ∃ x, I r0_2 2 = x := ⟨_, rfl⟩
  have gw_r0_2_2 := rg w_r0_2_2
  obtain ⟨w_r0_3, k0_r0_3⟩ : ∃ x, I r0 3 = x := ⟨_, rfl⟩
  have gw_r0_3 := rg w_r0_3
  refine k_aload_n C rfl rfl rfl ?_
  refine g_I C rfl rfl rfl T_r0 rfl k0_r0_3 ?_
  refine b_if_ne C (t := 9) rfl rfl rfl (fun c1 => ?_) (fun c1 => ?_)
  · skip
    refine k_aload_n C rfl rfl rfl ?_
    refine g_R C rfl rfl rfl T_r0 rfl R_r0_1 ?_
    refine k_aload_n C rfl rfl rfl ?_
    refine g_R C rfl rfl rfl T_r0 rfl R_r0_2 ?_
    refine c_VV C (a_X8_copyFrom_e hI H_r0_1 H_r0_2) rfl rfl rfl rfl rfl ⟨_, rfl, rfl, T_r0_1, Nat.le_of_ble_eq_true rfl⟩ rfl rfl (Nat.le_of_ble_eq_true rfl) (Nat.le_of_ble_eq_true rfl) (Nat.le_of_ble_eq_true rfl) ?_
    rintro I3 L4 ⟨p0v2, p1v2, p2v2, p3v2, hI3, S5⟩
    have e6 := Chg.k S5 T_r0_0 (by decide) (by decide) k0_r0_0_1
    have e7 := (congrFun (p3v2 r0_2 (by first | exact hnk | exact fun e => hnk e.symm) T_r0_2) 0).trans k0_r0_2_0
    have e8 := (congrFun (p3v2 r0_2 (by first | exact hnk | exact fun e => hnk e.symm) T_r0_2) 1).trans k0_r0_2_1
    have e9 := (congrFun (p3v2 r0_2 (by first | exact hnk | exact fun e => hnk e.symm) T_r0_2) 2).trans k0_r0_2_2
    have e10 := Chg.k S5 T_r0 (by decide) (by decide) k0_r0_3
    obtain ⟨x11, e12⟩ : ∃ x, I3 r0_1 0 = x := ⟨_, rfl⟩
    have gx11 := rg x11
    have ox11 := IX.p hI3 A_r0_1 T_r0_1 e12
    obtain ⟨x13, e14⟩ : ∃ x, I3 r0_1 1 = x := ⟨_, rfl⟩
    have gx13 := rg x13
    obtain ⟨x15, e16⟩ : ∃ x, I3 r0_1 2 = x := ⟨_, rfl⟩
    have gx15 := rg x15
    try simp only [k0_r0_0_1, k0_r0_1_0, k0_r0_1_1, k0_r0_1_2, k0_r0_2_0, k0_r0_2_1, k0_r0_2_2, k0_r0_3, e12, e14, e16] at p0v2
    try have q0v2 := congrArg Int32.toInt p0v2
    try simp only [k0_r0_0_1, k0_r0_1_0, k0_r0_1_1, k0_r0_1_2, k0_r0_2_0, k0_r0_2_1, k0_r0_2_2, k0_r0_3, e12, e14, e16] at p1v2
    try have q1v2 := congrArg Int32.toInt p1v2
    try simp only [k0_r0_0_1, k0_r0_1_0, k0_r0_1_1, k0_r0_1_2, k0_r0_2_0, k0_r0_2_1, k0_r0_2_2, k0_r0_3, e12, e14, e16] at p2v2
    try have q2v2 := congrArg Int32.toInt p2v2
    try simp only [k0_r0_0_1, k0_r0_1_0, k0_r0_1_1, k0_r0_1_2, k0_r0_2_0, k0_r0_2_1, k0_r0_2_2, k0_r0_3, e12, e14, e16] at p3v2
    try have q3v2 := congrArg Int32.toInt p3v2
    refine z_iconst C (z := 1) rfl rfl rfl (fun x17 ex17 => ?_)
    exact k_iret C rfl (Or.inr ⟨rfl, z01 (by omega) (by omega)⟩) (Nat.le_of_ble_eq_true rfl) (Nat.le_of_ble_eq_true rfl) ⟨_, _, _, rfl, rfl, by omega, by omega, by first | omega | (simp only [e6, e7, e8, e9, e10, e12, e14, e16, k0_r0_0_1, k0_r0_1_0, k0_r0_1_1, k0_r0_1_2, k0_r0_2_0, k0_r0_2_1, k0_r0_2_2, k0_r0_3, and_true, true_and, or_true, true_or, and_false, false_and, or_false, false_or] <;> omega), by first | omega | (simp only [e6, e7, e8, e9, e10, e12, e14, e16, k0_r0_0_1, k0_r0_1_0, k0_r0_1_1, k0_r0_1_2, k0_r0_2_0, k0_r0_2_1, k0_r0_2_2, k0_r0_3, and_true, true_and, or_true, true_or, and_false, false_and, or_false, false_or] <;> omega), by first | omega | (simp only [e6, e7, e8, e9, e10, e12, e14, e16, k0_r0_0_1, k0_r0_1_0, k0_r0_1_1, k0_r0_1_2, k0_r0_2_0, k0_r0_2_1, k0_r0_2_2, k0_r0_3, and_true, true_and, or_true, true_or, and_false, false_and, or_false, false_or] <;> omega), by first | omega | (simp only [e6, e7, e8, e9, e10, e12, e14, e16, k0_r0_0_1, k0_r0_1_0, k0_r0_1_1, k0_r0_1_2, k0_r0_2_0, k0_r0_2_1, k0_r0_2_2, k0_r0_3, and_true, true_and, or_true, true_or, and_false, false_and, or_false, false_or] <;> omega), hI3, (Chg.mono S5 (by decide))⟩
  refine z_iconst C (z := 0) rfl rfl rfl (fun x18 ex18 => ?_)
  exact k_iret C rfl (Or.inr ⟨rfl, z01 (by omega) (by omega)⟩) (Nat.le_of_ble_eq_true rfl) (Nat.le_of_ble_eq_true rfl) ⟨_, _, _, rfl, rfl, by omega, by omega, by first | omega | (simp only [k0_r0_0_1, k0_r0_1_0, k0_r0_1_1, k0_r0_1_2, k0_r0_2_0, k0_r0_2_1, k0_r0_2_2, k0_r0_3, and_true, true_and, or_true, true_or, and_false, false_and, or_false, false_or] <;> omega), by first | omega | (simp only [k0_r0_0_1, k0_r0_1_0, k0_r0_1_1, k0_r0_1_2, k0_r0_2_0, k0_r0_2_1, k0_r0_2_2, k0_r0_3, and_true, true_and, or_true, true_or, and_false, false_and, or_false, false_or] <;> omega), by first | omega | (simp only [k0_r0_0_1, k0_r0_1_0, k0_r0_1_1, k0_r0_1_2, k0_r0_2_0, k0_r0_2_1, k0_r0_2_2, k0_r0_3, and_true, true_and, or_true, true_or, and_false, false_and, or_false, false_or] <;> omega), by first | omega | (simp only [k0_r0_0_1, k0_r0_1_0, k0_r0_1_1, k0_r0_1_2, k0_r0_2_0, k0_r0_2_1, k0_r0_2_2, k0_r0_3, and_true, true_and, or_true, true_or, and_false, false_and, or_false, false_or] <;> omega), hI, Chg.rf⟩

