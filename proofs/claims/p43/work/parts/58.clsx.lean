/-! exceptions told apart, weaker ends -/
theorem Chg.o {A : Nat → Prop} {T : Nat → Nat} {W : List (Nat × Nat)} {I I' : IT} {L L' : LT} (h : Chg A T W I L I' L') {a t : Nat} (ht : T a = t) (h20 : t < 20) (hn : ∀ k, (t, k) ∉ W) : I' a = I a := funext fun k => h.2 a k (by rw [ht]; exact h20) (by rw [ht]; exact hn k)
section Auto2
variable {d : Nat} {q : mm_T} {mc ms : Nat} {Post : Po} {V : V_T} {pc pc2 : Nat} {lv : List (Nat × Value)} {r : List Value} {ck sk : Nat} {T N : Nat → Nat} {I : IT} {L : LT} {R : RT}
end Auto2
