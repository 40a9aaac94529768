-- 21.arith.lean.txt
section
/-! numbers -/
theorem ii_add {x y : Int32} (h : -2147483648 ≤ x.toInt + y.toInt ∧ x.toInt + y.toInt < 2147483648) : (x + y).toInt = x.toInt + y.toInt := by rw [Int32.toInt_add]; exact Int.bmod_eq_of_le (by omega) (by omega)
theorem i_lt {x y : Int32} : x < y ↔ x.toInt < y.toInt := Int32.lt_iff_toInt_lt
end
-- 30.auto.lean.txt
section
/-! the class in any state: its graph by kinds, bounds of cells, rules with fresh numbers -/
theorem rg (x : Int32) : -2147483648 ≤ x.toInt ∧ x.toInt ≤ 2147483647 := ⟨x.le_toInt, by have := x.toInt_lt; omega⟩
theorem ncn {j : Int32} {n : Nat} (h0 : 0 ≤ j.toInt) (h1 : j.toInt < (n : Int)) : j.toNatClampNeg < n := by
  have e1 : j.toNatClampNeg = j.toInt.toNat := rfl
  omega
def boX (t k : Nat) (x : Int32) : Prop := (t = 3 → k = 0 → 0 ≤ x.toInt ∧ x.toInt ≤ 40) ∧ (t = 9 → k = 0 → 11 ≤ x.toInt ∧ x.toInt ≤ 19)
def IX (A : Nat → Prop) (T : Nat → Nat) (I : IT) : Prop := ∀ a, A a → ∀ k, boX (T a) k (I a k)
theorem boX.tr {t k : Nat} {x : Int32} (h3 : t = 3 → k ≠ 0) (h9 : t = 9 → k ≠ 0) : boX t k x := ⟨fun a b => absurd b (h3 a), fun a b => absurd b (h9 a)⟩
theorem boX.ar {t k : Nat} {x : Int32} (h : 20 ≤ t) : boX t k x := ⟨fun a => absurd a (by omega), fun a => absurd a (by omega)⟩
theorem IX.deg {A : Nat → Prop} {T : Nat → Nat} {I : IT} {a : Nat} {x : Int32} (h : IX A T I) (ha : A a) (hT : T a = 3) (e : I a 0 = x) : 0 ≤ x.toInt ∧ x.toInt ≤ 40 := by
  rw [← e]; exact (h a ha 0).1 hT rfl
theorem IX.p {A : Nat → Prop} {T : Nat → Nat} {I : IT} {a : Nat} {x : Int32} (h : IX A T I) (ha : A a) (hT : T a = 9) (e : I a 0 = x) : 11 ≤ x.toInt ∧ x.toInt ≤ 19 := by
  rw [← e]; exact (h a ha 0).2 hT rfl
theorem IX.f {A : Nat → Prop} {T : Nat → Nat} {I I' : IT} {a t k : Nat} {x : Int32} (h : IX A T I) (hT : T a = t) (ok : boX t k x) (e : I' = u2 I a k x) : IX A T I' := by
  subst e
  intro b hb j
  by_cases q : b = a ∧ j = k
  · obtain ⟨rfl, rfl⟩ := q
    rw [u2_s, hT]; exact ok
  · have : u2 I a k x b j = I b j := if_neg q
    rw [this]; exact h b hb j
theorem IX.a {A : Nat → Prop} {T : Nat → Nat} {I I' : IT} {a t k : Nat} {x : Int32} (h : IX A T I) (hT : T a = t) (ht : 20 ≤ t) (e : I' = u2 I a k x) : IX A T I' := h.f hT (boX.ar ht) e
def Chg (A : Nat → Prop) (T : Nat → Nat) (W : List (Nat × Nat)) (I : IT) (L : LT) (I' : IT) (L' : LT) : Prop := (∀ a, ¬ A a → I' a = I a ∧ L' a = L a) ∧ ∀ a k, T a < 20 → (T a, k) ∉ W → I' a k = I a k
theorem Chg.rf {A : Nat → Prop} {T : Nat → Nat} {W : List (Nat × Nat)} {I : IT} {L : LT} : Chg A T W I L I L := ⟨fun _ _ => ⟨rfl, rfl⟩, fun _ _ _ _ => rfl⟩
theorem Chg.tr {A : Nat → Prop} {T : Nat → Nat} {W W1 W2 : List (Nat × Nat)} {I I1 I2 : IT} {L L1 L2 : LT} (h : Chg A T W1 I L I1 L1) (g : Chg A T W2 I1 L1 I2 L2) (s1 : ∀ z ∈ W1, z ∈ W) (s2 : ∀ z ∈ W2, z ∈ W) : Chg A T W I L I2 L2 :=
  ⟨fun a ha => ⟨(g.1 a ha).1.trans (h.1 a ha).1, (g.1 a ha).2.trans (h.1 a ha).2⟩, fun a k ht hn => (g.2 a k ht (fun q => hn (s2 _ q))).trans (h.2 a k ht (fun q => hn (s1 _ q)))⟩
theorem Chg.f {A : Nat → Prop} {T : Nat → Nat} {I I' : IT} {L : LT} {a t k : Nat} {x : Int32} (ha : A a) (hT : T a = t) (e : I' = u2 I a k x) : Chg A T [(t, k)] I L I' L := by
  subst e
  refine ⟨fun b hb => ⟨u2_r (fun q => hb (q ▸ ha)), rfl⟩, fun b j _ hn => if_neg (fun q => hn ?_)⟩
  rw [q.1, q.2, hT]; exact List.mem_cons_self
theorem Chg.a {A : Nat → Prop} {T : Nat → Nat} {I I' : IT} {L : LT} {a t k : Nat} {x : Int32} (ha : A a) (hT : T a = t) (h20 : 20 ≤ t) (e : I' = u2 I a k x) : Chg A T [] I L I' L := by
  subst e
  refine ⟨fun b hb => ⟨u2_r (fun q => hb (q ▸ ha)), rfl⟩, fun b j ht _ => if_neg (fun q => ?_)⟩
  rw [q.1, hT] at ht; omega
theorem Chg.l {A : Nat → Prop} {T : Nat → Nat} {I : IT} {L L' : LT} {a k : Nat} {x : Int64} (ha : A a) (e : L' = u2 L a k x) : Chg A T [] I L I L' := by
  subst e
  exact ⟨fun b hb => ⟨rfl, u2_r (fun q => hb (q ▸ ha))⟩, fun _ _ _ _ => rfl⟩
theorem Chg.fr {A : Nat → Prop} {T : Nat → Nat} {W : List (Nat × Nat)} {I I' : IT} {L L' : LT} (h : Chg A T W I L I' L') : Fr A I L I' L' := h.1
theorem Chg.k {A : Nat → Prop} {T : Nat → Nat} {W : List (Nat × Nat)} {I I' : IT} {L L' : LT} {b t k : Nat} {x : Int32} (h : Chg A T W I L I' L') (hT : T b = t) (ht : t < 20) (hn : (t, k) ∉ W) (e : I b k = x) : I' b k = x := (h.2 b k (by rw [hT]; exact ht) (by rw [hT]; exact hn)).trans e
theorem fb {α : Type} {P : α → Prop} {a : α} (h : P a) : ∀ b, some a = some b → P b := fun _ e => Option.some.inj e ▸ h
def h_A (T N : Nat → Nat) (A : Nat → Prop) (t n b : Nat) : Prop := T b = t ∧ N b = n ∧ A b
def h_F (T N : Nat → Nat) (R : RT) (A : Nat → Prop) (r : Nat) : Prop := T r = 3 ∧ A r ∧ (∃ b, R r 1 = some b ∧ (h_A T N A 20 41) b)
def h_Sg (T N : Nat → Nat) (R : RT) (A : Nat → Prop) (r : Nat) : Prop := T r = 8 ∧ A r ∧ (∃ b, R r 0 = some b ∧ (h_A T N A 20 160) b) ∧ (∃ b, R r 1 = some b ∧ (h_A T N A 20 160) b)
def h_Tb (T N : Nat → Nat) (R : RT) (A : Nat → Prop) (r : Nat) : Prop := T r = 10 ∧ A r
def h_Row12 (T N : Nat → Nat) (R : RT) (A : Nat → Prop) (r : Nat) : Prop := T r = 23 ∧ N r = 12 ∧ A r ∧ ∀ j, j < 12 → ∃ f, R r j = some f ∧ (h_F T N R A) f
def h_Row16 (T N : Nat → Nat) (R : RT) (A : Nat → Prop) (r : Nat) : Prop := T r = 23 ∧ N r = 16 ∧ A r ∧ ∀ j, j < 16 → ∃ f, R r j = some f ∧ (h_F T N R A) f
def h_Row20 (T N : Nat → Nat) (R : RT) (A : Nat → Prop) (r : Nat) : Prop := T r = 23 ∧ N r = 20 ∧ A r ∧ ∀ j, j < 20 → ∃ f, R r j = some f ∧ (h_F T N R A) f
def h_Row40 (T N : Nat → Nat) (R : RT) (A : Nat → Prop) (r : Nat) : Prop := T r = 23 ∧ N r = 40 ∧ A r ∧ ∀ j, j < 40 → ∃ f, R r j = some f ∧ (h_F T N R A) f
def h_Tabs (T N : Nat → Nat) (R : RT) (A : Nat → Prop) (r : Nat) : Prop := T r = 24 ∧ N r = 8 ∧ A r ∧ ∀ j, j < 8 → ∃ f, R r j = some f ∧ (h_Tb T N R A) f
def h_Sgs (T N : Nat → Nat) (R : RT) (A : Nat → Prop) (r : Nat) : Prop := T r = 25 ∧ N r = 8 ∧ A r ∧ ∀ j, j < 8 → ∃ f, R r j = some f ∧ (h_Sg T N R A) f
def h_Held (T N : Nat → Nat) (R : RT) (A : Nat → Prop) (r : Nat) : Prop := T r = 26 ∧ N r = 8 ∧ A r ∧ ∀ j, j < 8 → ∃ f, R r j = some f ∧ (h_A T N A 20 492) f
def h_St (T N : Nat → Nat) (R : RT) (A : Nat → Prop) (r : Nat) : Prop := T r = 9 ∧ A r ∧ (∃ b, R r 6 = some b ∧ (h_A T N A 20 40) b) ∧ (∃ b, R r 7 = some b ∧ (h_Row40 T N R A) b) ∧ (∃ b, R r 8 = some b ∧ (h_Row16 T N R A) b) ∧ (∃ b, R r 9 = some b ∧ (h_Tabs T N R A) b) ∧ (∃ b, R r 10 = some b ∧ (h_Sgs T N R A) b)
def h_Rd (T N : Nat → Nat) (R : RT) (A : Nat → Prop) (r : Nat) : Prop := T r = 5 ∧ A r ∧ (∃ b, R r 0 = some b ∧ (h_Sg T N R A) b) ∧ (∃ b, R r 2 = some b ∧ (h_A T N A 20 400) b)
def h_Al (T N : Nat → Nat) (R : RT) (A : Nat → Prop) (r : Nat) : Prop := T r = 1 ∧ A r ∧ (∃ b, R r 0 = some b ∧ (h_St T N R A) b) ∧ (∃ b, R r 1 = some b ∧ (h_F T N R A) b) ∧ (∃ b, R r 2 = some b ∧ (h_F T N R A) b)
def h_Cc (T N : Nat → Nat) (R : RT) (A : Nat → Prop) (r : Nat) : Prop := T r = 2 ∧ A r ∧ (∃ b, R r 0 = some b ∧ (h_Al T N R A) b) ∧ (∃ b, R r 1 = some b ∧ (h_Row20 T N R A) b) ∧ (∃ b, R r 2 = some b ∧ (h_A T N A 20 20) b) ∧ (∃ b, R r 3 = some b ∧ (h_F T N R A) b) ∧ (∃ b, R r 4 = some b ∧ (h_F T N R A) b)
def h_Rw (T N : Nat → Nat) (R : RT) (A : Nat → Prop) (r : Nat) : Prop := T r = 6 ∧ A r ∧ (∃ b, R r 0 = some b ∧ (h_Al T N R A) b) ∧ (∃ b, R r 1 = some b ∧ (h_Cc T N R A) b) ∧ (∃ b, R r 2 = some b ∧ (h_Row12 T N R A) b) ∧ (∃ b, R r 3 = some b ∧ (h_Held T N R A) b) ∧ (∃ b, R r 4 = some b ∧ (h_A T N A 20 8) b) ∧ (∃ b, R r 5 = some b ∧ (h_A T N A 21 637) b)
def h_Se (T N : Nat → Nat) (R : RT) (A : Nat → Prop) (r : Nat) : Prop := T r = 7 ∧ A r ∧ (∃ b, R r 2 = some b ∧ (h_Al T N R A) b) ∧ (∃ b, R r 3 = some b ∧ (h_A T N A 20 400) b) ∧ (∃ b, R r 4 = some b ∧ (h_A T N A 20 9) b) ∧ (∃ b, R r 5 = some b ∧ (h_A T N A 20 400) b) ∧ (∃ b, R r 6 = some b ∧ (h_A T N A 20 400) b)
def h_Po (T N : Nat → Nat) (R : RT) (A : Nat → Prop) (r : Nat) : Prop := T r = 4 ∧ A r ∧ (∃ b, R r 1 = some b ∧ (h_Al T N R A) b) ∧ (∃ b, R r 2 = some b ∧ (h_A T N A 20 3) b) ∧ (∃ b, R r 3 = some b ∧ (h_A T N A 20 3) b) ∧ (∃ b, R r 4 = some b ∧ (h_A T N A 20 9) b) ∧ (∃ b, R r 5 = some b ∧ (h_A T N A 20 9) b)
def h_Wh (T N : Nat → Nat) (R : RT) (A : Nat → Prop) (r : Nat) : Prop := T r = 11 ∧ A r
def h_LF (T N : Nat → Nat) (R : RT) (A : Nat → Prop) (r : Nat) : Prop := T r = 12 ∧ A r ∧ (∃ b, R r 0 = some b ∧ (h_Rd T N R A) b) ∧ (∃ b, R r 1 = some b ∧ (h_St T N R A) b) ∧ (∃ b, R r 2 = some b ∧ (h_St T N R A) b) ∧ (∃ b, R r 5 = some b ∧ (h_Al T N R A) b) ∧ (∃ b, R r 6 = some b ∧ (h_Cc T N R A) b) ∧ (∃ b, R r 7 = some b ∧ (h_Rw T N R A) b) ∧ (∃ b, R r 8 = some b ∧ (h_Se T N R A) b) ∧ (∃ b, R r 9 = some b ∧ (h_Po T N R A) b) ∧ (∃ b, R r 10 = some b ∧ (h_Wh T N R A) b) ∧ (∃ b, R r 11 = some b ∧ (h_F T N R A) b) ∧ (∃ b, R r 12 = some b ∧ (h_F T N R A) b) ∧ (∃ b, R r 13 = some b ∧ (h_F T N R A) b)
section Auto
variable {d : Nat} {q : mm_T} {mc ms : Nat} {Post : Po} {V : V_T} {pc pc2 : Nat} {lv : List (Nat × Value)} {r : List Value} {ck sk : Nat} {T N : Nat → Nat} {I : IT} {L : LT} {R : RT}
end Auto
end
