/-! the law's invariants behind a call of the class -/
section Hl
variable {T N : Nat → Nat} {R : RT} {A B : Nat → Prop} {x nw kp rd al m w im o cb tp : Nat} {I I1 I2 : IT} {L L1 L2 : LT} {S : Nat → Prop} {Wl : List (Nat × Nat)}
theorem HL.c (E : LX T N R A B x nw kp rd al m w im o cb tp) (hl : LI T R A m I) (hx : IX A T I1) (c : CB S T Wl I I1) (hS : ∀ a, S a → A a) : LI T R A m I1 := hl.same E.1.2.1 hx (fun a ha => c.1 a (fun q => E.1.2.2.2.1 a (hS a q) ha))
theorem HL.s (_ : LX T N R A B x nw kp rd al m w im o cb tp) (hl : LI T R A m I) (e : ∀ a k, I1 a k = I a k) : LI T R A m I1 := by
  have q : I1 = I := funext fun a => funext (e a)
  rw [q]; exact hl
theorem SLf.a9 (E : LX T N R A B x nw kp rd al m w im o cb tp) {a : Nat} (q : SL [rd, cb] a) : A a := by
  have q := SL.a q
  simp only [List.mem_cons, List.not_mem_nil, or_false] at q
  rcases q with q | q
  · rw [q]; exact E.1.t.2.1.2.2.2
  · rw [q]; exact E.c.2
/-- a number looked at -/
theorem DON.eq {x y D : Int} {f g : Nat → Int} {k : Int} (h : DON x D f k) (g9 : DON y D g k) (e : ∀ i : Nat, (i : Int) ≤ D → f i = g i) : x = y := by
  by_cases z : k = -1
  · rw [h.1 z, g9.1 z]
  · by_cases q : k < 0 ∨ D < k
    · rw [h.2.1 z q, g9.2.1 z q]
    · rw [h.2.2 (by omega) (by omega), g9.2.2 (by omega) (by omega)]; exact e _ (by omega)
end Hl
/-! the stock: both sides -/
/-! the class's calls, in the law's words -/
