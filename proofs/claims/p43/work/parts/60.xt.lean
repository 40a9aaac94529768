/-! the stock: exactly -/
theorem FSD.nq {f : Nat → Int} {x y D : Int} (h : FSD y D f) (hx : x = 1 ∧ y = -1 ∨ x = 0 ∧ y ≠ -1) : IFF x (ZRL f (D + 1)) := by
  rcases h with h | h
  · exact ⟨fun _ => h.2, fun q => by omega⟩
  · exact ⟨fun q => by omega, fun _ z => h.2.2.1 (z y.toNat (by have a := h.1; have b := h.2.1; omega))⟩
/-- how many of the first have it -/
def CNI (P : Nat → Prop) : Nat → Int → Prop
  | 0, x => x = 0
  | n + 1, x => (P n ∧ CNI P n (x - 1)) ∨ (¬ P n ∧ CNI P n x)
theorem CNI.u {P : Nat → Prop} : ∀ n {x y : Int}, CNI P n x → CNI P n y → x = y
  | 0, x, y, h, g => by
    have h : x = 0 := h
    have g : y = 0 := g
    omega
  | n + 1, x, y, h, g => by
    rcases h with ⟨p, h⟩ | ⟨p, h⟩
    · rcases g with ⟨-, g⟩ | ⟨q, -⟩
      · have := CNI.u n h g
        omega
      · exact absurd p q
    · rcases g with ⟨q, -⟩ | ⟨-, g⟩
      · exact absurd q p
      · exact CNI.u n h g
theorem CNI.cg {P Q : Nat → Prop} : ∀ n {x : Int}, (∀ j, j < n → (P j ↔ Q j)) → CNI P n x → CNI Q n x
  | 0, _, _, h => h
  | n + 1, _, e, h => h.elim (fun q => Or.inl ⟨(e n (Nat.lt_succ_self n)).mp q.1, CNI.cg n (fun j hj => e j (by omega)) q.2⟩) (fun q => Or.inr ⟨fun z => q.1 ((e n (Nat.lt_succ_self n)).mpr z), CNI.cg n (fun j hj => e j (by omega)) q.2⟩)
theorem CNI.z {P : Nat → Prop} {k x : Int32} (hk : k.toInt = 0) (hx : x.toInt = 0) : CNI P k.toNatClampNeg x.toInt := by
  have n0 := ncz (x := k) (by omega)
  rw [show k.toNatClampNeg = 0 from by omega]; exact hx
theorem CNI.s1 {P : Nat → Prop} {k k' x x' : Int32} (h : CNI P k.toNatClampNeg x.toInt) (hp : P k.toNatClampNeg) (h0 : 0 ≤ k.toInt) (hk : k'.toInt = k.toInt + 1) (hx : x'.toInt = x.toInt + 1) : CNI P k'.toNatClampNeg x'.toInt := by
  have n0 := ncz h0
  have n1 := ncz (x := k') (by omega)
  rw [show k'.toNatClampNeg = k.toNatClampNeg + 1 from by omega]
  exact Or.inl ⟨hp, by rw [show x'.toInt - 1 = x.toInt from by omega]; exact h⟩
theorem CNI.s0 {P : Nat → Prop} {k k' x x' : Int32} (h : CNI P k.toNatClampNeg x.toInt) (hp : ¬ P k.toNatClampNeg) (h0 : 0 ≤ k.toInt) (hk : k'.toInt = k.toInt + 1) (hx : x'.toInt = x.toInt) : CNI P k'.toNatClampNeg x'.toInt := by
  have n0 := ncz h0
  have n1 := ncz (x := k') (by omega)
  rw [show k'.toNatClampNeg = k.toNatClampNeg + 1 from by omega]
  exact Or.inr ⟨hp, by rw [hx]; exact h⟩
theorem CNI.b {P : Nat → Prop} : ∀ n {x : Int}, CNI P n x → 0 ≤ x ∧ x ≤ n
  | 0, x, h => by
    have h : x = 0 := h
    omega
  | n + 1, x, h => by
    rcases h with ⟨-, h⟩ | ⟨-, h⟩
    · have := CNI.b n h
      omega
    · have := CNI.b n h
      omega
/-- the stock's numbers -/
def STV (p f t s d u n x : Int) : Prop := (n = 0 → x = p) ∧ (n = 1 → x = f) ∧ (n = 2 → x = t) ∧ (n = 3 → x = s) ∧ (n = 4 → x = d) ∧ (n = 5 → x = u) ∧ (n < 0 ∨ 6 < n → x = -1)
theorem STV.mk {p f t s d u n x : Int} (h : (n = 0 ∧ x = p) ∨ (n = 1 ∧ x = f) ∨ (n = 2 ∧ x = t) ∨ (n = 3 ∧ x = s) ∨ (n = 4 ∧ x = d) ∨ (n = 5 ∧ x = u) ∨ n = 6 ∨ ((n < 0 ∨ 6 < n) ∧ x = -1)) : STV p f t s d u n x := by
  rcases h with h | h | h | h | h | h | h | h <;> exact ⟨fun q => by omega, fun q => by omega, fun q => by omega, fun q => by omega, fun q => by omega, fun q => by omega, fun q => by omega⟩
theorem STV.u {p f t s d u n x y : Int} (h : STV p f t s d u n x) (g : STV p f t s d u n y) (hn : n ≠ 6) : x = y := by
  have c : n = 0 ∨ n = 1 ∨ n = 2 ∨ n = 3 ∨ n = 4 ∨ n = 5 ∨ (n < 0 ∨ 6 < n) := by omega
  rcases c with c | c | c | c | c | c | c
  · rw [h.1 c, g.1 c]
  · rw [h.2.1 c, g.2.1 c]
  · rw [h.2.2.1 c, g.2.2.1 c]
  · rw [h.2.2.2.1 c, g.2.2.2.1 c]
  · rw [h.2.2.2.2.1 c, g.2.2.2.2.1 c]
  · rw [h.2.2.2.2.2.1 c, g.2.2.2.2.2.1 c]
  · rw [h.2.2.2.2.2.2 c, g.2.2.2.2.2.2 c]
