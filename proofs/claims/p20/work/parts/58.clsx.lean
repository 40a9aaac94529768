/-! exceptions told apart, weaker ends -/
theorem callc_mono {E : E_T} {q : mm_T} {mc ms : Nat} {P P' : Po} {V : V_T} {pc : Nat} {lv : List (Nat × Value)} {r : List Value} {M : Mm} {ck sk k : Nat} {as : List Value} (hP : ∀ o M, P o M → P' o M) (h : callc E q mc ms P V pc lv r M ck sk k as) : callc E q mc ms P' V pc lv r M ck sk k as := by
  obtain ⟨mc', ms', Q, h1, h2, h3, h4, h5, h6⟩ := h
  exact ⟨mc', ms', Q, h1, h2, h3, h4, h5, fun e M' he => ⟨(h6 e M' he).1, (h6 e M' he).2.imp (fun z => ⟨z.1, hP _ _ z.2⟩) (fun z => z)⟩⟩
theorem sti6_mono {E : E_T} {q : mm_T} {mc ms : Nat} {P P' : Po} {V : V_T} {pc : Nat} {lv : List (Nat × Value)} {st : List Value} {M : Mm} {ck sk : Nat} {i : Instr} {n : Nat} (hP : ∀ o M, P o M → P' o M) (h : sti6 E q mc ms P V pc lv st M ck sk i n) : sti6 E q mc ms P' V pc lv st M ck sk i n := by
  unfold sti6 at h ⊢
  rcases h with h | h | h | h | h | h | h | h | h | h
  · exact Or.inl h
  · exact Or.inr (Or.inl h)
  · exact Or.inr (Or.inr (Or.inl h))
  · exact Or.inr (Or.inr (Or.inr (Or.inl h)))
  · refine Or.inr (Or.inr (Or.inr (Or.inr (Or.inl ?_))))
    obtain ⟨j, h1, h2, h3⟩ := h
    refine ⟨j, h1, h2, h3.imp (fun z => ?_) (fun z => z)⟩
    obtain ⟨ic, e, a1, a2, a3, a4, a5, a6, a7, a8, a9⟩ := z
    exact ⟨ic, e, a1, a2, a3, a4, a5, a6, a7, a8, hP _ _ a9⟩
  · exact Or.inr (Or.inr (Or.inr (Or.inr (Or.inr (Or.inl h)))))
  · exact Or.inr (Or.inr (Or.inr (Or.inr (Or.inr (Or.inr (Or.inl h))))))
  · refine Or.inr (Or.inr (Or.inr (Or.inr (Or.inr (Or.inr (Or.inr (Or.inl ?_)))))))
    obtain ⟨j, h1, h2, k, na, as, b, r, a1, a2, a3, a4, a5⟩ := h
    exact ⟨j, h1, h2, k, na, as, b, r, a1, a2, a3, a4, callc_mono hP a5⟩
  · refine Or.inr (Or.inr (Or.inr (Or.inr (Or.inr (Or.inr (Or.inr (Or.inr (Or.inl ?_))))))))
    obtain ⟨j, h1, h2, k, na, as, r, a1, a2, a3, a5⟩ := h
    exact ⟨j, h1, h2, k, na, as, r, a1, a2, a3, callc_mono hP a5⟩
  · refine Or.inr (Or.inr (Or.inr (Or.inr (Or.inr (Or.inr (Or.inr (Or.inr (Or.inr ?_))))))))
    obtain ⟨j, h1, h2, h3⟩ := h
    refine ⟨j, h1, h2, h3.imp (fun z => z) (fun z => ?_)⟩
    obtain ⟨k, na, as, b, r, a1, a2, a3, a4, a5⟩ := z
    exact ⟨k, na, as, b, r, a1, a2, a3, a4, callc_mono hP a5⟩
theorem sti7_mono {E : E_T} {q : mm_T} {mc ms : Nat} {P P' : Po} {V : V_T} {pc : Nat} {lv : List (Nat × Value)} {st : List Value} {M : Mm} {ck sk : Nat} {i : Instr} {n : Nat} (hP : ∀ o M, P o M → P' o M) (h : sti7 E q mc ms P V pc lv st M ck sk i n) : sti7 E q mc ms P' V pc lv st M ck sk i n := by
  unfold sti7 at h ⊢
  rcases h with ⟨h1, h2, x, a1, a2, a3, a4, a5⟩ | ⟨h1, h2, x, a1, a2, a3, a4, a5⟩ | ⟨h1, h2, x, a1, a2, a3, a4, a5⟩ | ⟨h1, h2, a1, a2, a3, a4, a5⟩
  · exact Or.inl ⟨h1, h2, x, a1, a2, a3, a4, hP _ _ a5⟩
  · exact Or.inr (Or.inl ⟨h1, h2, x, a1, a2, a3, a4, hP _ _ a5⟩)
  · exact Or.inr (Or.inr (Or.inl ⟨h1, h2, x, a1, a2, a3, a4, hP _ _ a5⟩))
  · exact Or.inr (Or.inr (Or.inr ⟨h1, h2, a1, a2, a3, a4, hP _ _ a5⟩))
theorem sti8_mono {E : E_T} {q : mm_T} {mc ms : Nat} {P P' : Po} {V : V_T} {pc : Nat} {lv : List (Nat × Value)} {st : List Value} {M : Mm} {ck sk : Nat} {i : Instr} {n : Nat} (hP : ∀ o M, P o M → P' o M) (h : sti8 E q mc ms P V pc lv st M ck sk i n) : sti8 E q mc ms P' V pc lv st M ck sk i n := by
  unfold sti8 at h ⊢
  rcases h with h | ⟨j, h1, h2, k, b, r, a1, a2, a3⟩
  · exact Or.inl h
  · exact Or.inr ⟨j, h1, h2, k, b, r, a1, a2, callc_mono hP a3⟩
theorem stp_mono {E : E_T} {q : mm_T} {mc ms : Nat} {P P' : Po} {V : V_T} {pc : Nat} {lv : List (Nat × Value)} {st : List Value} {M : Mm} {ck sk : Nat} (hP : ∀ o M, P o M → P' o M) (h : stp E q mc ms P V pc lv st M ck sk) : stp E q mc ms P' V pc lv st M ck sk := by
  obtain ⟨i, n, hc, h⟩ := h
  refine ⟨i, n, hc, ?_⟩
  rcases h with h | h | h | h | h | h | h | h | h
  · exact Or.inl h
  · exact Or.inr (Or.inl h)
  · exact Or.inr (Or.inr (Or.inl h))
  · exact Or.inr (Or.inr (Or.inr (Or.inl h)))
  · exact Or.inr (Or.inr (Or.inr (Or.inr (Or.inl h))))
  · exact Or.inr (Or.inr (Or.inr (Or.inr (Or.inr (Or.inl h)))))
  · exact Or.inr (Or.inr (Or.inr (Or.inr (Or.inr (Or.inr (Or.inl (sti6_mono hP h)))))))
  · exact Or.inr (Or.inr (Or.inr (Or.inr (Or.inr (Or.inr (Or.inr (Or.inl (sti7_mono hP h))))))))
  · exact Or.inr (Or.inr (Or.inr (Or.inr (Or.inr (Or.inr (Or.inr (Or.inr (sti8_mono hP h))))))))
/-- a weaker end is reached too -/
theorem Ex_mono {d k : Nat} {as : List Value} {M : Mm} {mc ms : Nat} {P P' : Po} (hP : ∀ o M, P o M → P' o M) (h : Ex d k as M mc ms P) : Ex d k as M mc ms P' := by
  cases d with
  | zero => exact h
  | succ d =>
    obtain ⟨q, h1, h2, h3⟩ := h
    exact ⟨q, h1, h2, fun V C S => h3 V (fun pc lv st M ck sk hs => C pc lv st M ck sk (stp_mono hP hs)) S⟩
def pW2 (X : List Nat) (T N : Nat → Nat) (R : RT) (P1 : Po) (QX : Nat → IT → LT → Prop) : Po := fun o M => P1 o M ∨ ∃ e I L, e ∈ X ∧ o = .inr e ∧ M = (T, N, I, L, R) ∧ QX e I L
theorem Chg.o {A : Nat → Prop} {T : Nat → Nat} {W : List (Nat × Nat)} {I I' : IT} {L L' : LT} (h : Chg A T W I L I' L') {a t : Nat} (ht : T a = t) (h20 : t < 20) (hn : ∀ k, (t, k) ∉ W) : I' a = I a := funext fun k => h.2 a k (by rw [ht]; exact h20) (by rw [ht]; exact hn k)
section Auto2
variable {d : Nat} {q : mm_T} {mc ms : Nat} {Post : Po} {V : V_T} {pc pc2 : Nat} {lv : List (Nat × Value)} {r : List Value} {ck sk : Nat} {T N : Nat → Nat} {I : IT} {L : LT} {R : RT}
theorem w2_VI (C : Cl d q mc ms Post V) {j k na : Nat} {b : Nat} {as st9 : List Value} {mc' ms' ck2 sk2 : Nat} {X : List Nat} {Q : Int32 → IT → LT → Prop} {QX : Nat → IT → LT → Prop} (hE : Ex d k (.ref b :: as) (T, N, I, L, R) mc' ms' (pW2 X T N R (pI T N R Q) QX)) (hi : cdf q.2.2.2.2.2.2 pc = some (.invokevirtual j, 3)) (hp : pc + 3 = pc2) (hm : P_mt q.2.2.2.2.1 j = some (0, k, na)) (hs : st9 = as.reverse ++ .ref b :: r) (hl : as.length = na) (hy : ∃ y, P_mq k = some y ∧ y.2.2.2.2.2.1 = [] ∧ T b = y.2.2.2.2.1 + 1 ∧ y.2.2.2.2.1 < 13) (h1 : ck + mc' = ck2) (h2 : sk + ms' = sk2) (h3 : ck2 ≤ mc) (h4 : sk2 ≤ ms) (hc : (r.map fun v => v.category).sum ≤ 8) (h5 : ∀ e ∈ X, e < 5) (hx : ∀ e ∈ X, ∀ I1 L1, QX e I1 L1 → ((q.2.2.2.2.2.1 = [] ∧ Post (.inr e) (T, N, I1, L1, R)) ∨ ∃ ph, hnd q pc e = some ph ∧ ∀ z, V ph lv [.ref z] (T, N, I1, L1, R) ck2 sk2)) (h : ∀ x I1 L1, Q x I1 L1 → V pc2 lv (.int x :: r) (T, N, I1, L1, R) ck2 sk2) : V pc lv st9 (T, N, I, L, R) ck sk := k_callV C hi hp hm hs hl hy hE h1 h2 h3 h4 hc (fun v M1 h9 => by rcases h9 with h9 | ⟨e, I1, L1, e1, e2, e3, e4⟩; (· obtain ⟨x, I1, L1, e1, e2, e3⟩ := h9; cases e1; subst e2; exact h x I1 L1 e3); (· cases e2)) (fun e M1 h9 => by rcases h9 with h9 | ⟨e0, I1, L1, e1, e2, e3, e4⟩; (· obtain ⟨x, I1, L1, e1, e2, e3⟩ := h9; cases e1); (· cases e2; subst e3; exact ⟨h5 _ e1, hx _ e1 I1 L1 e4⟩))
theorem w2_VR (C : Cl d q mc ms Post V) {j k na : Nat} {b : Nat} {as st9 : List Value} {mc' ms' ck2 sk2 : Nat} {X : List Nat} {Q : Option Nat → IT → LT → Prop} {QX : Nat → IT → LT → Prop} (hE : Ex d k (.ref b :: as) (T, N, I, L, R) mc' ms' (pW2 X T N R (pR T N R Q) QX)) (hi : cdf q.2.2.2.2.2.2 pc = some (.invokevirtual j, 3)) (hp : pc + 3 = pc2) (hm : P_mt q.2.2.2.2.1 j = some (0, k, na)) (hs : st9 = as.reverse ++ .ref b :: r) (hl : as.length = na) (hy : ∃ y, P_mq k = some y ∧ y.2.2.2.2.2.1 = [] ∧ T b = y.2.2.2.2.1 + 1 ∧ y.2.2.2.2.1 < 13) (h1 : ck + mc' = ck2) (h2 : sk + ms' = sk2) (h3 : ck2 ≤ mc) (h4 : sk2 ≤ ms) (hc : (r.map fun v => v.category).sum ≤ 8) (h5 : ∀ e ∈ X, e < 5) (hx : ∀ e ∈ X, ∀ I1 L1, QX e I1 L1 → ((q.2.2.2.2.2.1 = [] ∧ Post (.inr e) (T, N, I1, L1, R)) ∨ ∃ ph, hnd q pc e = some ph ∧ ∀ z, V ph lv [.ref z] (T, N, I1, L1, R) ck2 sk2)) (h : ∀ x I1 L1, Q x I1 L1 → V pc2 lv (va_rf x :: r) (T, N, I1, L1, R) ck2 sk2) : V pc lv st9 (T, N, I, L, R) ck sk := k_callV C hi hp hm hs hl hy hE h1 h2 h3 h4 hc (fun v M1 h9 => by rcases h9 with h9 | ⟨e, I1, L1, e1, e2, e3, e4⟩; (· obtain ⟨x, I1, L1, e1, e2, e3⟩ := h9; cases e1; subst e2; exact h x I1 L1 e3); (· cases e2)) (fun e M1 h9 => by rcases h9 with h9 | ⟨e0, I1, L1, e1, e2, e3, e4⟩; (· obtain ⟨x, I1, L1, e1, e2, e3⟩ := h9; cases e1); (· cases e2; subst e3; exact ⟨h5 _ e1, hx _ e1 I1 L1 e4⟩))
theorem w2_VV (C : Cl d q mc ms Post V) {j k na : Nat} {b : Nat} {as st9 : List Value} {mc' ms' ck2 sk2 : Nat} {X : List Nat} {Q : IT → LT → Prop} {QX : Nat → IT → LT → Prop} (hE : Ex d k (.ref b :: as) (T, N, I, L, R) mc' ms' (pW2 X T N R (pV T N R Q) QX)) (hi : cdf q.2.2.2.2.2.2 pc = some (.invokevirtual j, 3)) (hp : pc + 3 = pc2) (hm : P_mt q.2.2.2.2.1 j = some (0, k, na)) (hs : st9 = as.reverse ++ .ref b :: r) (hl : as.length = na) (hy : ∃ y, P_mq k = some y ∧ y.2.2.2.2.2.1 = [] ∧ T b = y.2.2.2.2.1 + 1 ∧ y.2.2.2.2.1 < 13) (h1 : ck + mc' = ck2) (h2 : sk + ms' = sk2) (h3 : ck2 ≤ mc) (h4 : sk2 ≤ ms) (hc : (r.map fun v => v.category).sum ≤ 8) (h5 : ∀ e ∈ X, e < 5) (hx : ∀ e ∈ X, ∀ I1 L1, QX e I1 L1 → ((q.2.2.2.2.2.1 = [] ∧ Post (.inr e) (T, N, I1, L1, R)) ∨ ∃ ph, hnd q pc e = some ph ∧ ∀ z, V ph lv [.ref z] (T, N, I1, L1, R) ck2 sk2)) (h : ∀ I1 L1, Q I1 L1 → V pc2 lv r (T, N, I1, L1, R) ck2 sk2) : V pc lv st9 (T, N, I, L, R) ck sk := k_callV C hi hp hm hs hl hy hE h1 h2 h3 h4 hc (fun v M1 h9 => by rcases h9 with h9 | ⟨e, I1, L1, e1, e2, e3, e4⟩; (· obtain ⟨I1, L1, e1, e2, e3⟩ := h9; cases e1; subst e2; exact h I1 L1 e3); (· cases e2)) (fun e M1 h9 => by rcases h9 with h9 | ⟨e0, I1, L1, e1, e2, e3, e4⟩; (· obtain ⟨I1, L1, e1, e2, e3⟩ := h9; cases e1); (· cases e2; subst e3; exact ⟨h5 _ e1, hx _ e1 I1 L1 e4⟩))
end Auto2
