/-! the law in any state: what it carries from call to call -/
def LI (T : Nat → Nat) (R : RT) (A : Nat → Prop) (m : Nat) (I : IT) : Prop := IX A T I ∧ IM R m I ∧ (∀ w, R m 1 = some w → (I w 4).toInt + (I w 5).toInt ≤ 40) ∧ (∀ w, R m 2 = some w → (I m 3).toInt ≠ 0 → WOS (I w))
theorem LF.wh {T N : Nat → Nat} {R : RT} {A : Nat → Prop} {x : Nat} (h : h_LF T N R A x) : ∃ wh, R x 10 = some wh ∧ T wh = 11 ∧ A wh := by
  obtain ⟨-, -, -, -, -, -, -, -, -, -, ⟨b, h1, h2⟩, -⟩ := h
  exact ⟨b, h1, h2.1, h2.2⟩
theorem LF.wy {T N : Nat → Nat} {R : RT} {A : Nat → Prop} {x : Nat} (h : h_LF T N R A x) : ∃ rw wy, R x 7 = some rw ∧ T rw = 6 ∧ R rw 5 = some wy ∧ T wy = 21 ∧ N wy = 637 ∧ A wy := by
  obtain ⟨-, -, -, -, -, -, -, ⟨b, h1, h2⟩, -⟩ := h
  obtain ⟨t, -, -, -, -, -, -, ⟨c, h3, h4, h5, h6⟩⟩ := h2
  exact ⟨b, c, h1, t, h3, h4, h5, h6⟩
theorem MD.all {T N : Nat → Nat} {R : RT} {B : Nat → Prop} {m : Nat} (h : h_MD T N R B m) : ∀ f ∈ [1, 2, 4, 5, 21, 22, 23, 26, 27, 28, 34], ∃ b, R m f = some b ∧ B b := by
  obtain ⟨-, -, ⟨a1, b1, c1⟩, ⟨a2, b2, c2⟩, ⟨a4, b4, c4⟩, ⟨a5, b5, c5⟩, -, -, -, ⟨a21, b21, c21⟩, ⟨a22, b22, c22⟩, ⟨a23, b23, c23⟩, -, ⟨a26, b26, c26⟩, ⟨a27, b27, c27⟩, ⟨a28, b28, c28⟩, ⟨a34, b34, c34⟩, -⟩ := h
  intro f hf
  simp only [List.mem_cons, List.not_mem_nil, or_false] at hf
  rcases hf with rfl | rfl | rfl | rfl | rfl | rfl | rfl | rfl | rfl | rfl | rfl
  · exact ⟨_, b1, c1.2.2⟩
  · exact ⟨_, b2, c2.2.2⟩
  · exact ⟨_, b4, c4.2.2⟩
  · exact ⟨_, b5, c5.2.2⟩
  · exact ⟨_, b21, c21.2.2⟩
  · exact ⟨_, b22, c22.2.2⟩
  · exact ⟨_, b23, c23.2.2⟩
  · exact ⟨_, b26, c26.2.2⟩
  · exact ⟨_, b27, c27.2.2⟩
  · exact ⟨_, b28, c28.2.2⟩
  · exact ⟨_, b34, c34.2.2⟩
theorem MD.wl {T N : Nat → Nat} {R : RT} {B : Nat → Prop} {m : Nat} (h : h_MD T N R B m) : ∃ b, R m 34 = some b ∧ T b = 21 ∧ N b = 4 ∧ B b := by
  obtain ⟨-, -, -, -, -, -, -, -, -, -, -, -, -, -, -, -, ⟨a, b, c⟩, -⟩ := h
  exact ⟨a, b, c.1, c.2.1, c.2.2⟩
theorem MD.wz {T N : Nat → Nat} {R : RT} {B : Nat → Prop} {m : Nat} (h : h_MD T N R B m) : ∃ b, R m 21 = some b ∧ T b = 21 ∧ N b = 1261 ∧ B b := by
  obtain ⟨-, -, -, -, -, -, -, -, -, ⟨a, b, c⟩, -⟩ := h
  exact ⟨a, b, c.1, c.2.1, c.2.2⟩
theorem MD.G {T N : Nat → Nat} {R : RT} {B : Nat → Prop} {m : Nat} (h : h_MD T N R B m) : mF T R m := by
  obtain ⟨t, -, -, -, -, -, -, -, -, -, -, -, -, -, -, -, -, J, Y⟩ := h
  exact ⟨J, Y, t⟩
theorem MD.B {T N : Nat → Nat} {R : RT} {B : Nat → Prop} {m f a : Nat} (h : h_MD T N R B m) (hf : f ∈ [1, 2, 4, 5, 21, 22, 23, 26, 27, 28, 34]) (ha : R m f = some a) : B a := by
  obtain ⟨b, h1, h2⟩ := MD.all h f hf
  exact (Option.some.inj (h1.symm.trans ha)) ▸ h2
theorem MD.no {T N : Nat → Nat} {R : RT} {A B : Nat → Prop} {m o : Nat} (h : h_MD T N R B m) (nAB : ∀ a, A a → ¬ B a) (ho : A o) : ¬ (o = m ∨ R m 21 = some o ∨ R m 34 = some o) := by
  rintro (rfl | q | q)
  · exact nAB _ ho h.2.1
  · exact nAB _ ho (MD.B h (by decide) q)
  · exact nAB _ ho (MD.B h (by decide) q)
theorem IM.of_eq {R : RT} {m : Nat} {I I9 : IT} (h : IM R m I) (e : ∀ f ∈ [1, 4, 5, 22, 23, 26, 27, 28], ∀ a, R m f = some a → I9 a = I a) (em : ∀ k, boF k (I9 m k)) : IM R m I9 := by
  refine ⟨fun f a ha k => ⟨fun q => ?_, fun q => ?_, fun q => ?_⟩, fun a ha => ?_, em⟩
  · subst q; rw [e 4 (by decide) a ha]; exact (h.1 4 a ha k).1 rfl
  · subst q; rw [e 27 (by decide) a ha]; exact (h.1 27 a ha k).2.1 rfl
  · have hf : f ∈ [1, 4, 5, 22, 23, 26, 27, 28] := by
      rcases q with q | q | q | q | q <;> subst q <;> decide
    rw [e f hf a ha]; exact (h.1 f a ha k).2.2 q
  · rw [e 1 (by decide) a ha]; exact h.2.1 a ha
theorem LI.same {T N : Nat → Nat} {R : RT} {A B : Nat → Prop} {m : Nat} {I I9 : IT} (h : LI T R A m I) (H_m : h_MD T N R B m) (hx : IX A T I9) (e : ∀ a, B a → I9 a = I a) : LI T R A m I9 := by
  have em : I9 m = I m := e m H_m.2.1
  refine ⟨hx, h.2.1.of_eq (fun f hf a ha => e a (MD.B H_m (by revert hf; simp only [List.mem_cons, List.not_mem_nil, or_false]; omega) ha)) (fun k => by rw [em]; exact h.2.1.2.2 k), fun w hw => ?_, fun w hw => ?_⟩
  · rw [e w (MD.B H_m (by decide) hw)]; exact h.2.2.1 w hw
  · rw [e w (MD.B H_m (by decide) hw), em]; exact h.2.2.2 w hw
/-- behind a call of the class -/
theorem LI.cls {T N : Nat → Nat} {R : RT} {A B : Nat → Prop} {m : Nat} {I I9 : IT} {L L9 : LT} (h : LI T R A m I) (H_m : h_MD T N R B m) (nAB : ∀ a, A a → ¬ B a) (hx : IX A T I9) (f : Fr A I L I9 L9) : LI T R A m I9 := h.same H_m hx (fun a ha => (f a (fun q => nAB a q ha)).1)
/-- behind a call of the class that changes few objects -/
theorem LI.cfr {T N : Nat → Nat} {R : RT} {A A9 B : Nat → Prop} {m : Nat} {I I9 : IT} {L L9 : LT} (h : LI T R A m I) (H_m : h_MD T N R B m) (nAB : ∀ a, A a → ¬ B a) (hA : ∀ a, A9 a → A a ∧ (T a = 11 ∨ T a = 21)) (f : Fr A9 I L I9 L9) : LI T R A m I9 := by
  refine h.same H_m (fun a ha k => ?_) (fun a ha => (f a (fun q => nAB a (hA a q).1 ha)).1)
  by_cases q : A9 a
  · have := (hA a q).2
    exact ⟨fun e => by omega, fun e => by omega⟩
  · rw [(f a q).1]; exact h.1 a ha k
theorem LI.xx {T : Nat → Nat} {R : RT} {A B : Nat → Prop} {m : Nat} {I I9 : IT} (h : LI T R A m I) (nAB : ∀ a, A a → ¬ B a) (e : ∀ a, ¬ B a → I9 a = I a) : IX A T I9 := fun a ha k => by rw [e a (nAB a ha)]; exact h.1 a ha k
/-- behind a call of the reference -/
theorem LI.ref {T N : Nat → Nat} {R : RT} {A B : Nat → Prop} {m : Nat} {I I9 : IT} {L L9 : LT} {W WA : List Nat} (h : LI T R A m I) (H_m : h_MD T N R B m) (nAB : ∀ a, A a → ¬ B a) (hm : IM R m I9) (c : CM B R m W WA I L I9 L9) (h3 : 3 ∉ W) (h2 : 2 ∉ WA) (su : ∀ w, R m 1 = some w → (I9 w 4).toInt + (I9 w 5).toInt ≤ 40) : LI T R A m I9 :=
  ⟨h.xx nAB (fun a ha => (c.1 a ha).1), hm, su, fun w hw => by rw [c.2.1 3 h3, (c.2.2 2 w hw h2).1]; exact h.2.2.2 w hw⟩
theorem LI.ref0 {T N : Nat → Nat} {R : RT} {A B : Nat → Prop} {m : Nat} {I I9 : IT} {L L9 : LT} {W WA : List Nat} (h : LI T R A m I) (H_m : h_MD T N R B m) (nAB : ∀ a, A a → ¬ B a) (hm : IM R m I9) (c : CM B R m W WA I L I9 L9) (h3 : 3 ∉ W) (h2 : 2 ∉ WA) (h1 : 1 ∉ WA) : LI T R A m I9 :=
  h.ref H_m nAB hm c h3 h2 (fun w hw => by rw [(c.2.2 1 w hw h1).1]; exact h.2.2.1 w hw)
theorem LI.img {T N : Nat → Nat} {R : RT} {A B : Nat → Prop} {m : Nat} {I I9 : IT} {L L9 : LT} {W WA : List Nat} (h : LI T R A m I) (H_m : h_MD T N R B m) (nAB : ∀ a, A a → ¬ B a) (hm : IM R m I9) (c : CM B R m W WA I L I9 L9) (h1 : 1 ∉ WA) (w9 : ∀ a, R m 2 = some a → WOS (I9 a)) : LI T R A m I9 :=
  ⟨h.xx nAB (fun a ha => (c.1 a ha).1), hm, fun w hw => by rw [(c.2.2 1 w hw h1).1]; exact h.2.2.1 w hw, fun w hw _ => w9 w hw⟩
/-- behind a call of the reference's whole numbers -/
theorem LI.rfr {T N : Nat → Nat} {R : RT} {A B : Nat → Prop} {m : Nat} {I I9 : IT} {L L9 : LT} (h : LI T R A m I) (H_m : h_MD T N R B m) (nAB : ∀ a, A a → ¬ B a) (_ : True) (f : Fr (fun a => a = m ∨ R m 21 = some a ∨ R m 34 = some a) I L I9 L9) (k : IKm m I I9) : LI T R A m I9 := by
  have G := MD.G H_m
  have e : ∀ g ∈ [1, 2, 4, 5, 22, 23, 26, 27, 28], ∀ a, R m g = some a → I9 a = I a := by
    intro g hg a ha
    have hn : g ≠ 21 ∧ g ≠ 34 := by
      revert hg; simp only [List.mem_cons, List.not_mem_nil, or_false]; omega
    refine (f a ?_).1
    rintro (q | q | q)
    · exact G.ne ha q
    · exact hn.1 (G.1 _ _ _ ha q)
    · exact hn.2 (G.1 _ _ _ ha q)
  refine ⟨fun a ha j => ?_, h.2.1.of_eq (fun g hg a ha => e g (by revert hg; simp only [List.mem_cons, List.not_mem_nil, or_false]; omega) a ha) (fun j => ?_), fun w hw => ?_, fun w hw => ?_⟩
  · rw [(f a (MD.no H_m nAB ha)).1]; exact h.1 a ha j
  · by_cases q : j ≠ 0 ∧ j < 35
    · rw [k j q.1 q.2]; exact h.2.1.2.2 j
    · exact ⟨fun z => by omega, fun z => by omega, fun z => by omega, fun z => by omega, fun z => by omega⟩
  · rw [e 1 (by decide) w hw]; exact h.2.2.1 w hw
  · rw [e 2 (by decide) w hw, k 3 (by decide) (by decide)]; exact h.2.2.2 w hw
theorem vsk {i Ln : Nat} (hi : i + 6 ≤ Ln) (hLn : Ln ≤ 3072) {c : Int32} (hc : 0 ≤ c.toInt ∧ c.toInt ≤ 5) : vp_in (Int32.ofNat i + c) Ln := by
  have e1 : (Int32.ofNat i).toInt = i := n_int (by omega)
  have e2 : (Int32.ofNat i + c).toInt = i + c.toInt := by rw [ii_add (by omega), e1]
  exact vpi (by omega) (by omega)
theorem vs0 {i Ln : Nat} (hi : i + 6 ≤ Ln) (hLn : Ln ≤ 3072) : vp_in (Int32.ofNat i) Ln := by
  have e1 : (Int32.ofNat i).toInt = i := n_int (by omega)
  exact vpi (by omega) (by omega)
theorem n_add6 {i : Nat} : Int32.ofNat (i + 6) = Int32.ofNat i + 6 := Int32.ofNat_add i 6
theorem exn {v : Int32} {K : Nat} (hK : K < 1000) (h1 : 0 ≤ v) (h2 : v ≤ Int32.ofNat K) : ∃ n, v = Int32.ofNat n ∧ n ≤ K := by
  have q1 : (0 : Int) ≤ v.toInt := i_le.mp h1
  have q2 := i_le.mp h2
  rw [n_int (by omega)] at q2
  refine ⟨v.toInt.toNat, ?_, by omega⟩
  apply Int32.toInt_inj.mp
  rw [n_int (by omega)]; omega
