/-! the law in any state: what it carries from call to call -/
def LI (T : Nat → Nat) (R : RT) (A : Nat → Prop) (m : Nat) (I : IT) : Prop := IX A T I ∧ IM R m I ∧ (∀ w, R m 1 = some w → (I w 4).toInt + (I w 5).toInt ≤ 40) ∧ (∀ w, R m 2 = some w → (I m 3).toInt ≠ 0 → WOS (I w))
theorem LF.wh {T N : Nat → Nat} {R : RT} {A : Nat → Prop} {x : Nat} (h : h_LF T N R A x) : ∃ wh, R x 10 = some wh ∧ T wh = 11 ∧ A wh := by
  obtain ⟨-, -, -, -, -, -, -, -, -, -, ⟨b, h1, h2⟩, -⟩ := h
  exact ⟨b, h1, h2.1, h2.2⟩
theorem MD.all {T N : Nat → Nat} {R : RT} {B : Nat → Prop} {m : Nat} (h : h_MD T N R B m) : ∀ f ∈ [1, 2, 4, 5, 21, 22, 23, 26, 27, 28, 34], ∃ b, R m f = some b ∧ B b := by
  obtain ⟨-, -, ⟨a1, b1, c1⟩, ⟨a2, b2, c2⟩, ⟨a4, b4, c4⟩, ⟨a5, b5, c5⟩, -, -, -, ⟨a21, b21, c21⟩, ⟨a22, b22, c22⟩, ⟨a23, b23, c23⟩, -, ⟨a26, b26, c26⟩, ⟨a27, b27, c27⟩, ⟨a28, b28, c28⟩, ⟨a34, b34, c34⟩, -⟩ := h
  intro f hf
  simp only [List.mem_cons, List.not_mem_nil, or_false] at hf
  rcases hf with rfl | rfl | rfl | rfl | rfl | rfl | rfl | rfl | rfl | rfl | rfl
  · exact ⟨_, b1, c1.2.2⟩
  · exact ⟨_, b2, c2.2.2⟩
  · exact ⟨_, b4, c4.2.2⟩
  · exact ⟨_, b5, c5.2.2⟩
  · exact ⟨_, b21, c21.2.2⟩
  · exact ⟨_, b22, c22.2.2⟩
  · exact ⟨_, b23, c23.2.2⟩
  · exact ⟨_, b26, c26.2.2⟩
  · exact ⟨_, b27, c27.2.2⟩
  · exact ⟨_, b28, c28.2.2⟩
  · exact ⟨_, b34, c34.2.2⟩
theorem MD.G {T N : Nat → Nat} {R : RT} {B : Nat → Prop} {m : Nat} (h : h_MD T N R B m) : mF T R m := by
  obtain ⟨t, -, -, -, -, -, -, -, -, -, -, -, -, -, -, -, -, J, Y⟩ := h
  exact ⟨J, Y, t⟩
theorem MD.B {T N : Nat → Nat} {R : RT} {B : Nat → Prop} {m f a : Nat} (h : h_MD T N R B m) (hf : f ∈ [1, 2, 4, 5, 21, 22, 23, 26, 27, 28, 34]) (ha : R m f = some a) : B a := by
  obtain ⟨b, h1, h2⟩ := MD.all h f hf
  exact (Option.some.inj (h1.symm.trans ha)) ▸ h2
theorem MD.no {T N : Nat → Nat} {R : RT} {A B : Nat → Prop} {m o : Nat} (h : h_MD T N R B m) (nAB : ∀ a, A a → ¬ B a) (ho : A o) : ¬ (o = m ∨ R m 21 = some o ∨ R m 34 = some o) := by
  rintro (rfl | q | q)
  · exact nAB _ ho h.2.1
  · exact nAB _ ho (MD.B h (by decide) q)
  · exact nAB _ ho (MD.B h (by decide) q)
theorem IM.of_eq {R : RT} {m : Nat} {I I9 : IT} (h : IM R m I) (e : ∀ f ∈ [1, 4, 5, 22, 23, 26, 27, 28], ∀ a, R m f = some a → I9 a = I a) (em : ∀ k, boF k (I9 m k)) : IM R m I9 := by
  refine ⟨fun f a ha k => ⟨fun q => ?_, fun q => ?_, fun q => ?_⟩, fun a ha => ?_, em⟩
  · subst q; rw [e 4 (by decide) a ha]; exact (h.1 4 a ha k).1 rfl
  · subst q; rw [e 27 (by decide) a ha]; exact (h.1 27 a ha k).2.1 rfl
  · have hf : f ∈ [1, 4, 5, 22, 23, 26, 27, 28] := by
      rcases q with q | q | q | q | q <;> subst q <;> decide
    rw [e f hf a ha]; exact (h.1 f a ha k).2.2 q
  · rw [e 1 (by decide) a ha]; exact h.2.1 a ha
theorem LI.same {T N : Nat → Nat} {R : RT} {A B : Nat → Prop} {m : Nat} {I I9 : IT} (h : LI T R A m I) (H_m : h_MD T N R B m) (hx : IX A T I9) (e : ∀ a, B a → I9 a = I a) : LI T R A m I9 := by
  have em : I9 m = I m := e m H_m.2.1
  refine ⟨hx, h.2.1.of_eq (fun f hf a ha => e a (MD.B H_m (by revert hf; simp only [List.mem_cons, List.not_mem_nil, or_false]; omega) ha)) (fun k => by rw [em]; exact h.2.1.2.2 k), fun w hw => ?_, fun w hw => ?_⟩
  · rw [e w (MD.B H_m (by decide) hw)]; exact h.2.2.1 w hw
  · rw [e w (MD.B H_m (by decide) hw), em]; exact h.2.2.2 w hw
/-- behind a call of the class -/
theorem LI.cls {T N : Nat → Nat} {R : RT} {A B : Nat → Prop} {m : Nat} {I I9 : IT} {L L9 : LT} (h : LI T R A m I) (H_m : h_MD T N R B m) (nAB : ∀ a, A a → ¬ B a) (hx : IX A T I9) (f : Fr A I L I9 L9) : LI T R A m I9 := h.same H_m hx (fun a ha => (f a (fun q => nAB a q ha)).1)
theorem LI.xx {T : Nat → Nat} {R : RT} {A B : Nat → Prop} {m : Nat} {I I9 : IT} (h : LI T R A m I) (nAB : ∀ a, A a → ¬ B a) (e : ∀ a, ¬ B a → I9 a = I a) : IX A T I9 := fun a ha k => by rw [e a (nAB a ha)]; exact h.1 a ha k
/-- behind a call of the reference -/
theorem LI.ref {T N : Nat → Nat} {R : RT} {A B : Nat → Prop} {m : Nat} {I I9 : IT} {L L9 : LT} {W WA : List Nat} (h : LI T R A m I) (H_m : h_MD T N R B m) (nAB : ∀ a, A a → ¬ B a) (hm : IM R m I9) (c : CM B R m W WA I L I9 L9) (h3 : 3 ∉ W) (h2 : 2 ∉ WA) (su : ∀ w, R m 1 = some w → (I9 w 4).toInt + (I9 w 5).toInt ≤ 40) : LI T R A m I9 :=
  ⟨h.xx nAB (fun a ha => (c.1 a ha).1), hm, su, fun w hw => by rw [c.2.1 3 h3, (c.2.2 2 w hw h2).1]; exact h.2.2.2 w hw⟩
