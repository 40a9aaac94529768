-- 39.60.rrow.lean.txt
section
/-! the rows of the reference, any state -/
def bk (I : IT) (a s n : Nat) (f : Nat → Int32) : IT := fun b j => if b = a ∧ s ≤ j ∧ j < s + n then f (j - s) else I b j
def nz (I : IT) (nu r n : Nat) : Int32 := if ∀ k, k < n → I nu (41 * r + k) = 0 then 1 else 0
end
-- 39.61.rrow.lean.txt
section
/-! the rows of the reference, any state: alike, value -/
end
-- 39.62.rrow.lean.txt
section
/-! the rows of the reference, any state: products -/
end
-- 39.63.rrow.lean.txt
section
/-! the rows of the reference, any state: widened by a line -/
end
-- 39.64.rows.lean.txt
section
/-! rows of the reference as facts, not as whole memories: what a row holds (Rw), what stays (Rs) -/
def Rs (nu dg : Nat) (S : Nat → Prop) (I I' : IT) : Prop := (∀ a, a ≠ nu → a ≠ dg → I' a = I a) ∧ (∀ r, r < 48 → ¬ S r → I' dg r = I dg r) ∧ (∀ r k, r < 48 → k < 41 → ¬ S r → I' nu (41 * r + k) = I nu (41 * r + k))
theorem Rs.rf {nu dg : Nat} {S : Nat → Prop} {I : IT} : Rs nu dg S I I := ⟨fun _ _ _ => rfl, fun _ _ _ => rfl, fun _ _ _ _ _ => rfl⟩
theorem Rs.tr {nu dg : Nat} {S : Nat → Prop} {I J K : IT} (h : Rs nu dg S I J) (g : Rs nu dg S J K) : Rs nu dg S I K :=
  ⟨fun a x y => (g.1 a x y).trans (h.1 a x y), fun r x y => (g.2.1 r x y).trans (h.2.1 r x y), fun r k x y z => (g.2.2 r k x y z).trans (h.2.2 r k x y z)⟩
theorem Rs.mono {nu dg : Nat} {S S' : Nat → Prop} {I J : IT} (h : Rs nu dg S I J) (g : ∀ r, S r → S' r) : Rs nu dg S' I J :=
  ⟨h.1, fun r x y => h.2.1 r x (fun z => y (g r z)), fun r k x y z => h.2.2 r k x y (fun q => z (g r q))⟩
theorem Rs.fr {nu dg : Nat} {S : Nat → Prop} {I J : IT} {L : LT} {A : Nat → Prop} (h : Rs nu dg S I J) (h1 : A nu) (h2 : A dg) : Fr A I L J L :=
  fun a ha => ⟨h.1 a (fun e => ha (e ▸ h1)) (fun e => ha (e ▸ h2)), rfl⟩
def Rw (nu dg p : Nat) (I : IT) (r D : Nat) (g : Nat → Nat) : Prop := I dg r = Int32.ofNat D ∧ D ≤ 40 ∧ (∀ k, k ≤ D → I nu (41 * r + k) = Int32.ofNat (g k)) ∧ ∀ k, k ≤ D → g k < p
theorem Rw.keep {nu dg p r D : Nat} {g : Nat → Nat} {S : Nat → Prop} {I J : IT} (h : Rw nu dg p I r D g) (hr : r < 48) (k : Rs nu dg S I J) (hs : ¬ S r) : Rw nu dg p J r D g :=
  ⟨(k.2.1 r hr hs).trans h.1, h.2.1, fun j hj => (k.2.2 r j hr (by have := h.2.1; omega) hs).trans (h.2.2.1 j hj), h.2.2.2⟩
theorem Rw.put {nu dg p r D j : Nat} {g : Nat → Nat} {I : IT} {x : Nat} (hnd : nu ≠ dg) (h : Rw nu dg p I r D g) (hx : x < p) : Rw nu dg p (u2 I nu (41 * r + j) (Int32.ofNat x)) r D (fun k => if k = j then x else g k) := by
  refine ⟨(u2_a (Ne.symm hnd)).trans h.1, h.2.1, fun k hk => ?_, fun k hk => ?_⟩
  · by_cases e : k = j
    · subst e; rw [u2_s]; show _ = Int32.ofNat (if k = k then x else g k); rw [if_pos rfl]
    · rw [u2_k (by omega)]; show _ = Int32.ofNat (if k = j then x else g k); rw [if_neg e]; exact h.2.2.1 k hk
  · by_cases e : k = j
    · show (if k = j then x else g k) < p; rw [if_pos e]; exact hx
    · show (if k = j then x else g k) < p; rw [if_neg e]; exact h.2.2.2 k hk
theorem Rs.put {nu dg r j : Nat} {I : IT} {x : Int32} (hj : j < 41) (hnd : nu ≠ dg) : Rs nu dg (fun t => t = r) I (u2 I nu (41 * r + j) x) := by
  refine ⟨fun a h1 h2 => ?_, fun t _ ht => ?_, fun t k _ hk ht => ?_⟩
  · exact u2_r h1
  · exact u2_a (Ne.symm hnd)
  · have ht : t ≠ r := ht
    exact u2_k (by omega)
end
-- 39.65.mix.lean.txt
section
/-! the rows of the reference, any state: mixed by a table -/
end
-- 39.66.num.lean.txt
section
/-! the reference, numbers under p: mod, differs -/
end
-- 39.67.dif.lean.txt
section
/-! the rows of the reference, any state: differentiated -/
end
-- 39.68.bin.lean.txt
section
/-! the reference, binomials -/
end
-- 40.mod.lean.txt
section
/-! the reference in any state: its arrays, its invariant -/
def h_MD (T N : Nat → Nat) (R : RT) (A : Nat → Prop) (r : Nat) : Prop := T r = 13 ∧ A r ∧ (∃ b, R r 1 = some b ∧ (h_A T N A 20 4007) b) ∧ (∃ b, R r 2 = some b ∧ (h_A T N A 20 3606) b) ∧ (∃ b, R r 4 = some b ∧ (h_A T N A 20 48) b) ∧ (∃ b, R r 5 = some b ∧ (h_A T N A 20 1968) b) ∧ (∃ b, R r 10 = some b ∧ (h_A T N A 22 400) b) ∧ (∃ b, R r 18 = some b ∧ (h_A T N A 20 5) b) ∧ (∃ b, R r 20 = some b ∧ (h_A T N A 20 48) b) ∧ (∃ b, R r 21 = some b ∧ (h_A T N A 21 1261) b) ∧ (∃ b, R r 22 = some b ∧ (h_A T N A 20 3936) b) ∧ (∃ b, R r 23 = some b ∧ (h_A T N A 20 108) b) ∧ (∃ b, R r 25 = some b ∧ (h_A T N A 20 361) b) ∧ (∃ b, R r 26 = some b ∧ (h_A T N A 20 180) b) ∧ (∃ b, R r 27 = some b ∧ (h_A T N A 20 3) b) ∧ (∃ b, R r 28 = some b ∧ (h_A T N A 20 3) b) ∧ (∃ b, R r 34 = some b ∧ (h_A T N A 21 4) b) ∧ (∀ f g a, R r f = some a → R r g = some a → f = g) ∧ (∀ f a, R r f = some a → T a = 20 ∨ T a = 21 ∨ T a = 22)
theorem nck {x : Int32} {n : Nat} (h : x.toInt = (n : Int)) : x.toNatClampNeg = n := by
  have e1 : x.toNatClampNeg = x.toInt.toNat := rfl
  omega
theorem ncz {x : Int32} (h : 0 ≤ x.toInt) : ((x.toNatClampNeg : Nat) : Int) = x.toInt := by
  have e1 : x.toNatClampNeg = x.toInt.toNat := rfl
  omega
/-- a row of signs from place b on: n steps, hs j the height ahead of step j -/
def Hgt (g : Nat → Int32) (b : Nat) : Nat → Int
  | 0 => 0
  | j + 1 => Hgt g b j + (if (g (b + 1 + 2 * j)).toInt ≤ 1 then 1 else if (g (b + 1 + 2 * j)).toInt = 5 then 0 else -1)
theorem HgtS {g : Nat → Int32} {b : Nat} {x y : Int32} (h0 : 0 ≤ x.toInt) (hy : y.toInt = x.toInt + 1) : Hgt g b y.toNatClampNeg = Hgt g b x.toNatClampNeg + (if (g (b + 1 + 2 * x.toNatClampNeg)).toInt ≤ 1 then 1 else if (g (b + 1 + 2 * x.toNatClampNeg)).toInt = 5 then 0 else -1) := by
  have h1 := ncz h0
  have h2 := ncz (x := y) (by omega)
  have h3 : y.toNatClampNeg = x.toNatClampNeg + 1 := by omega
  rw [h3]; rfl
def SGN (g : Nat → Int32) (b : Nat) : Prop := 0 ≤ (g b).toInt ∧ (g b).toInt ≤ 199 ∧ ∀ j : Nat, (j : Int) < (g b).toInt → 0 ≤ (g (b + 1 + 2 * j)).toInt ∧ (g (b + 1 + 2 * j)).toInt ≤ 5 ∧ 0 ≤ (g (b + 2 + 2 * j)).toInt ∧ (g (b + 2 + 2 * j)).toInt ≤ 999 ∧ 0 ≤ Hgt g b j ∧ Hgt g b j ≤ 40 ∧ ((g (b + 1 + 2 * j)).toInt ≤ 1 → Hgt g b j ≤ 39) ∧ (2 ≤ (g (b + 1 + 2 * j)).toInt → (g (b + 1 + 2 * j)).toInt ≤ 4 → 2 ≤ Hgt g b j) ∧ ((g (b + 1 + 2 * j)).toInt = 5 → 1 ≤ Hgt g b j)
def WO1 (g : Nat → Int32) : Prop := (g 0).toInt = 11 ∨ (g 0).toInt = 13 ∨ (g 0).toInt = 17 ∨ (g 0).toInt = 19
def WO2 (g : Nat → Int32) : Prop := (0 ≤ (g 1).toInt ∧ (g 1).toInt ≤ 16) ∧ (0 ≤ (g 2).toInt ∧ (g 2).toInt ≤ 8) ∧ (0 ≤ (g 3).toInt ∧ (g 3).toInt ≤ 8) ∧ (0 ≤ (g 4).toInt ∧ (g 4).toInt ≤ 40) ∧ (0 ≤ (g 5).toInt ∧ (g 5).toInt ≤ 40)
def WO3 (g : Nat → Int32) : Prop := ∀ f, f < 16 → 0 ≤ (g (6 + 10 * f)).toInt ∧ (g (6 + 10 * f)).toInt ≤ 8 ∧ ∀ k, k < 9 → -18 ≤ (g (6 + 10 * f + 1 + k)).toInt ∧ (g (6 + 10 * f + 1 + k)).toInt ≤ 18
def WO4 (g : Nat → Int32) : Prop := ∀ f : Nat, (f : Int) < (g 1).toInt → ∀ k : Nat, (k : Int) ≤ (g (6 + 10 * f)).toInt → -(g 0).toInt < (g (6 + 10 * f + 1 + k)).toInt ∧ (g (6 + 10 * f + 1 + k)).toInt < (g 0).toInt
def WO5 (g : Nat → Int32) : Prop := ∀ t, t < 32 → -18 ≤ (g (166 + t)).toInt ∧ (g (166 + t)).toInt ≤ 18
def WO6 (g : Nat → Int32) : Prop := ∀ s : Nat, (s : Int) < (g 3).toInt → SGN g (198 + 401 * s)
def WO7 (g : Nat → Int32) : Prop := ∀ a, a < 40 → 0 ≤ (g (3406 + 5 * a)).toInt ∧ (g (3406 + 5 * a)).toInt ≤ 15 ∧ ∀ j, 1 ≤ j → j < 5 → -18 ≤ (g (3406 + 5 * a + j)).toInt ∧ (g (3406 + 5 * a + j)).toInt ≤ 18
def WOK (g : Nat → Int32) : Prop := WO1 g ∧ WO2 g ∧ WO3 g ∧ WO4 g ∧ WO5 g ∧ WO6 g ∧ WO7 g
def WOS (g : Nat → Int32) : Prop := WOK g ∧ (g 4).toInt + (g 5).toInt ≤ 40
def boA (f : Nat) (x : Int32) : Prop := (f = 4 → 0 ≤ x.toInt ∧ x.toInt ≤ 40) ∧ (f = 27 → 0 ≤ x.toInt ∧ x.toInt ≤ 19) ∧ (f = 5 ∨ f = 22 ∨ f = 23 ∨ f = 26 ∨ f = 28 → -18 ≤ x.toInt ∧ x.toInt ≤ 18)
def boF (k : Nat) (x : Int32) : Prop := (k = 11 ∨ k = 12 ∨ k = 13 ∨ k = 14 → 0 ≤ x.toInt ∧ x.toInt ≤ 400) ∧ (k = 15 → 0 ≤ x.toInt ∧ x.toInt ≤ 6) ∧ (k = 16 → 0 ≤ x.toInt ∧ x.toInt ≤ 40) ∧ (k = 24 → 0 ≤ x.toInt ∧ x.toInt ≤ 492) ∧ (k = 6 ∨ k = 7 ∨ k = 8 ∨ k = 9 → -18 ≤ x.toInt ∧ x.toInt ≤ 18)
def IM (R : RT) (m : Nat) (I : IT) : Prop := (∀ f a, R m f = some a → ∀ k, boA f (I a k)) ∧ (∀ a, R m 1 = some a → WOK (I a)) ∧ ∀ k, boF k (I m k)
theorem IM.dgR {R : RT} {m a k : Nat} {I : IT} {x : Int32} (h : IM R m I) (ha : R m 4 = some a) (e : I a k = x) : 0 ≤ x.toInt ∧ x.toInt ≤ 40 := by rw [← e]; exact (h.1 4 a ha k).1 rfl
theorem IM.spR {R : RT} {m a k : Nat} {I : IT} {x : Int32} (h : IM R m I) (ha : R m 27 = some a) (e : I a k = x) : 0 ≤ x.toInt ∧ x.toInt ≤ 19 := by rw [← e]; exact (h.1 27 a ha k).2.1 rfl
theorem IM.nuR {R : RT} {m a k : Nat} {I : IT} {x : Int32} (h : IM R m I) (ha : R m 5 = some a) (e : I a k = x) : -18 ≤ x.toInt ∧ x.toInt ≤ 18 := by rw [← e]; exact (h.1 5 a ha k).2.2 (by decide)
theorem IM.rsR {R : RT} {m a k : Nat} {I : IT} {x : Int32} (h : IM R m I) (ha : R m 22 = some a) (e : I a k = x) : -18 ≤ x.toInt ∧ x.toInt ≤ 18 := by rw [← e]; exact (h.1 22 a ha k).2.2 (by decide)
theorem IM.dnR {R : RT} {m a k : Nat} {I : IT} {x : Int32} (h : IM R m I) (ha : R m 23 = some a) (e : I a k = x) : -18 ≤ x.toInt ∧ x.toInt ≤ 18 := by rw [← e]; exact (h.1 23 a ha k).2.2 (by decide)
theorem IM.pwR {R : RT} {m a k : Nat} {I : IT} {x : Int32} (h : IM R m I) (ha : R m 26 = some a) (e : I a k = x) : -18 ≤ x.toInt ∧ x.toInt ≤ 18 := by rw [← e]; exact (h.1 26 a ha k).2.2 (by decide)
theorem IM.faR {R : RT} {m a k : Nat} {I : IT} {x : Int32} (h : IM R m I) (ha : R m 28 = some a) (e : I a k = x) : -18 ≤ x.toInt ∧ x.toInt ≤ 18 := by rw [← e]; exact (h.1 28 a ha k).2.2 (by decide)
theorem IM.f11 {R : RT} {m : Nat} {I : IT} {x : Int32} (h : IM R m I) (e : I m 11 = x) : 0 ≤ x.toInt ∧ x.toInt ≤ 400 := by rw [← e]; exact (h.2.2 11).1 (by decide)
theorem IM.f12 {R : RT} {m : Nat} {I : IT} {x : Int32} (h : IM R m I) (e : I m 12 = x) : 0 ≤ x.toInt ∧ x.toInt ≤ 400 := by rw [← e]; exact (h.2.2 12).1 (by decide)
theorem IM.f13 {R : RT} {m : Nat} {I : IT} {x : Int32} (h : IM R m I) (e : I m 13 = x) : 0 ≤ x.toInt ∧ x.toInt ≤ 400 := by rw [← e]; exact (h.2.2 13).1 (by decide)
theorem IM.f14 {R : RT} {m : Nat} {I : IT} {x : Int32} (h : IM R m I) (e : I m 14 = x) : 0 ≤ x.toInt ∧ x.toInt ≤ 400 := by rw [← e]; exact (h.2.2 14).1 (by decide)
theorem IM.f15 {R : RT} {m : Nat} {I : IT} {x : Int32} (h : IM R m I) (e : I m 15 = x) : 0 ≤ x.toInt ∧ x.toInt ≤ 6 := by rw [← e]; exact (h.2.2 15).2.1 rfl
theorem IM.f16 {R : RT} {m : Nat} {I : IT} {x : Int32} (h : IM R m I) (e : I m 16 = x) : 0 ≤ x.toInt ∧ x.toInt ≤ 40 := by rw [← e]; exact (h.2.2 16).2.2.1 rfl
theorem IM.f24 {R : RT} {m : Nat} {I : IT} {x : Int32} (h : IM R m I) (e : I m 24 = x) : 0 ≤ x.toInt ∧ x.toInt ≤ 492 := by rw [← e]; exact (h.2.2 24).2.2.2.1 rfl
theorem IM.f6 {R : RT} {m : Nat} {I : IT} {x : Int32} (h : IM R m I) (e : I m 6 = x) : -18 ≤ x.toInt ∧ x.toInt ≤ 18 := by rw [← e]; exact (h.2.2 6).2.2.2.2 (by decide)
theorem IM.f7 {R : RT} {m : Nat} {I : IT} {x : Int32} (h : IM R m I) (e : I m 7 = x) : -18 ≤ x.toInt ∧ x.toInt ≤ 18 := by rw [← e]; exact (h.2.2 7).2.2.2.2 (by decide)
theorem IM.f8 {R : RT} {m : Nat} {I : IT} {x : Int32} (h : IM R m I) (e : I m 8 = x) : -18 ≤ x.toInt ∧ x.toInt ≤ 18 := by rw [← e]; exact (h.2.2 8).2.2.2.2 (by decide)
theorem IM.f9 {R : RT} {m : Nat} {I : IT} {x : Int32} (h : IM R m I) (e : I m 9 = x) : -18 ≤ x.toInt ∧ x.toInt ≤ 18 := by rw [← e]; exact (h.2.2 9).2.2.2.2 (by decide)
theorem IM.w {R : RT} {m a : Nat} {I : IT} (h : IM R m I) (ha : R m 1 = some a) : WOK (I a) := h.2.1 a ha
theorem IM.p {R : RT} {m a : Nat} {I : IT} {x : Int32} (h : IM R m I) (ha : R m 1 = some a) (e : I a 0 = x) : x.toInt = 11 ∨ x.toInt = 13 ∨ x.toInt = 17 ∨ x.toInt = 19 := by rw [← e]; exact (h.w ha).1
theorem IM.pi {R : RT} {m a : Nat} {I : IT} {x : Int32} (h : IM R m I) (ha : R m 1 = some a) (e : I a 0 = x) : 11 ≤ x.toInt ∧ x.toInt ≤ 19 := by have := h.p ha e; omega
theorem IM.c1 {R : RT} {m a : Nat} {I : IT} {x : Int32} (h : IM R m I) (ha : R m 1 = some a) (e : I a 1 = x) : 0 ≤ x.toInt ∧ x.toInt ≤ 16 := by rw [← e]; exact (h.w ha).2.1.1
theorem IM.c2 {R : RT} {m a : Nat} {I : IT} {x : Int32} (h : IM R m I) (ha : R m 1 = some a) (e : I a 2 = x) : 0 ≤ x.toInt ∧ x.toInt ≤ 8 := by rw [← e]; exact (h.w ha).2.1.2.1
theorem IM.c3 {R : RT} {m a : Nat} {I : IT} {x : Int32} (h : IM R m I) (ha : R m 1 = some a) (e : I a 3 = x) : 0 ≤ x.toInt ∧ x.toInt ≤ 8 := by rw [← e]; exact (h.w ha).2.1.2.2.1
theorem IM.c4 {R : RT} {m a : Nat} {I : IT} {x : Int32} (h : IM R m I) (ha : R m 1 = some a) (e : I a 4 = x) : 0 ≤ x.toInt ∧ x.toInt ≤ 40 := by rw [← e]; have := (h.w ha).2.1.2.2.2; omega
theorem IM.c5 {R : RT} {m a : Nat} {I : IT} {x : Int32} (h : IM R m I) (ha : R m 1 = some a) (e : I a 5 = x) : 0 ≤ x.toInt ∧ x.toInt ≤ 40 := by rw [← e]; have := (h.w ha).2.1.2.2.2; omega
theorem IM.deg {R : RT} {m a : Nat} {I : IT} {j f x : Int32} (h : IM R m I) (ha : R m 1 = some a) (hf : 0 ≤ f.toInt ∧ f.toInt ≤ 15) (hj : j.toInt = 6 + 10 * f.toInt) (e : I a j.toNatClampNeg = x) : 0 ≤ x.toInt ∧ x.toInt ≤ 8 := by
  have h1 := ncz hf.1
  have h2 : j.toNatClampNeg = 6 + 10 * f.toNatClampNeg := by have := ncz (x := j) (by omega); omega
  rw [← e, h2]; have := (h.w ha).2.2.1 f.toNatClampNeg (by omega); exact ⟨this.1, this.2.1⟩
theorem IM.num {R : RT} {m a : Nat} {I : IT} {j f k x : Int32} (h : IM R m I) (ha : R m 1 = some a) (hf : 0 ≤ f.toInt ∧ f.toInt ≤ 15) (hk : 0 ≤ k.toInt ∧ k.toInt ≤ 8) (hj : j.toInt = 6 + 10 * f.toInt + 1 + k.toInt) (e : I a j.toNatClampNeg = x) : -18 ≤ x.toInt ∧ x.toInt ≤ 18 := by
  have h1 := ncz hf.1
  have h3 := ncz hk.1
  have h2 : j.toNatClampNeg = 6 + 10 * f.toNatClampNeg + 1 + k.toNatClampNeg := by have := ncz (x := j) (by omega); omega
  rw [← e, h2]; exact ((h.w ha).2.2.1 f.toNatClampNeg (by omega)).2.2 k.toNatClampNeg (by omega)
theorem IM.tab {R : RT} {m a : Nat} {I : IT} {j x : Int32} (h : IM R m I) (ha : R m 1 = some a) (hj : 166 ≤ j.toInt ∧ j.toInt ≤ 197) (e : I a j.toNatClampNeg = x) : -18 ≤ x.toInt ∧ x.toInt ≤ 18 := by
  have h1 := ncz (x := j) (by omega)
  have h2 : j.toNatClampNeg = 166 + (j.toNatClampNeg - 166) := by omega
  rw [← e, h2]; exact (h.w ha).2.2.2.2.1 (j.toNatClampNeg - 166) (by omega)
theorem IM.act {R : RT} {m a : Nat} {I : IT} {j x : Int32} (h : IM R m I) (ha : R m 1 = some a) {b : Int} (hb : 0 ≤ b ∧ b < 40) (hj : j.toInt = 3406 + 5 * b) (e : I a j.toNatClampNeg = x) : 0 ≤ x.toInt ∧ x.toInt ≤ 15 := by
  have h1 := ncz (x := j) (by omega)
  have h2 : j.toNatClampNeg = 3406 + 5 * b.toNat := by omega
  rw [← e, h2]; have := (h.w ha).2.2.2.2.2.2 b.toNat (by omega); exact ⟨this.1, this.2.1⟩
theorem IM.actn {R : RT} {m a : Nat} {I : IT} {j x : Int32} (h : IM R m I) (ha : R m 1 = some a) {b i : Int} (hb : 0 ≤ b ∧ b < 40) (hi : 1 ≤ i ∧ i < 5) (hj : j.toInt = 3406 + 5 * b + i) (e : I a j.toNatClampNeg = x) : -18 ≤ x.toInt ∧ x.toInt ≤ 18 := by
  have h1 := ncz (x := j) (by omega)
  have h2 : j.toNatClampNeg = 3406 + 5 * b.toNat + i.toNat := by omega
  rw [← e, h2]; exact ((h.w ha).2.2.2.2.2.2 b.toNat (by omega)).2.2 i.toNat (by omega) (by omega)
def NZ (I : IT) (nu r : Nat) (D : Int) : Prop := ∃ k : Nat, (k : Int) ≤ D ∧ (I nu (41 * r + k)).toInt ≠ 0
def NE1 (I : IT) (rs j : Nat) : Prop := (I rs j).toInt ≠ 0
def RMD (w x y : Int32) : Prop := w.toInt = x.toInt.tmod y.toInt
def MXD (w x y : Int32) : Prop := -18 ≤ x.toInt → x.toInt ≤ 18 → -18 ≤ y.toInt → y.toInt ≤ 18 → w.toInt = x.toInt * y.toInt
theorem mul_ab {u v : Int} (h1 : -18 ≤ u) (h2 : u ≤ 18) (h3 : -18 ≤ v) (h4 : v ≤ 18) : -324 ≤ u * v ∧ u * v ≤ 324 := by
  have a1 : 0 ≤ (u + 18) * (v + 18) := Int.mul_nonneg (by omega) (by omega)
  have a2 : 0 ≤ (18 - u) * (18 - v) := Int.mul_nonneg (by omega) (by omega)
  have a3 : 0 ≤ (u + 18) * (18 - v) := Int.mul_nonneg (by omega) (by omega)
  have a4 : 0 ≤ (18 - u) * (v + 18) := Int.mul_nonneg (by omega) (by omega)
  rw [Int.add_mul, Int.mul_add, Int.mul_add] at a1
  rw [Int.sub_mul, Int.mul_sub, Int.mul_sub] at a2
  rw [Int.add_mul, Int.mul_sub, Int.mul_sub] at a3
  rw [Int.sub_mul, Int.mul_add, Int.mul_add] at a4
  omega
def TMD (x a b p : Int) : Prop := x = (a * b).tmod p
theorem TMD.of {w x y : Int32} {a b p : Int} (h : RMD w x y) (e : x.toInt = a * b) (ep : y.toInt = p) : TMD w.toInt a b p := by
  unfold TMD; rw [← e, ← ep]; exact h
def LSD (x a b p : Int) : Prop := x = (a - b + p).tmod p
theorem LSD.of {w x y : Int32} {a b p : Int} (h : RMD w x y) (e : x.toInt = a - b + p) (ep : y.toInt = p) : LSD w.toInt a b p := by
  unfold LSD; rw [← e]; have h1 : w.toInt = x.toInt.tmod y.toInt := h; rw [ep] at h1; exact h1
def PWI (a p : Int) : Nat → Int
  | 0 => 1
  | n + 1 => (PWI a p n * a).tmod p
def PWQ (v a p k : Int) : Prop := v = PWI a p k.toNat
theorem PWQ.z {a p : Int} {v k : Int32} (h : v.toInt = 1) (hk : k.toInt = 0) : PWQ v.toInt a p k.toInt := by unfold PWQ; rw [hk, h]; rfl
theorem PWQ.s {a p : Int} {v k v' k' : Int32} (h : PWQ v.toInt a p k.toInt) (t : TMD v'.toInt v.toInt a p) (h0 : 0 ≤ k.toInt) (hk : k'.toInt = k.toInt + 1) : PWQ v'.toInt a p k'.toInt := by
  unfold PWQ at *; unfold TMD at t
  rw [t, h, show k'.toInt.toNat = k.toInt.toNat + 1 from by omega]; rfl
theorem PWQ.e {a p v k k' : Int} (h : PWQ v a p k) (e : k.toNat = k'.toNat) : PWQ v a p k' := by unfold PWQ at *; rw [← e]; exact h
def INVQ (x a p : Int) : Prop := -p < a → a < p → a ≠ 0 → (a * x) % p = 1
theorem inv_all : ∀ p ∈ ([11, 13, 17, 19] : List Nat), ∀ i : Nat, i < 37 → -(p : Int) < (i : Int) - 18 → (i : Int) - 18 < p → (i : Int) - 18 ≠ 0 → (((i : Int) - 18) * PWI ((i : Int) - 18) p (p - 2)) % p = 1 := by decide +kernel
theorem INVQ.of {x a p k : Int} (hp : p = 11 ∨ p = 13 ∨ p = 17 ∨ p = 19) (h : PWQ x a p k) (hk : k = p - 2) (h1 : -18 ≤ a) (h2 : a ≤ 18) : INVQ x a p := by
  intro a1 a2 a3
  unfold PWQ at h
  obtain ⟨i, hi⟩ : ∃ i : Nat, a = (i : Int) - 18 := ⟨(a + 18).toNat, by omega⟩
  obtain ⟨q, hq⟩ : ∃ q : Nat, p = (q : Int) := ⟨p.toNat, by omega⟩
  have h9 := inv_all q (by have : q = 11 ∨ q = 13 ∨ q = 17 ∨ q = 19 := by omega
                           rcases this with r | r | r | r <;> subst r <;> decide) i (by omega) (by omega) (by omega) (by omega)
  rw [h, hk, hi, hq, show ((q : Int) - 2).toNat = q - 2 from by omega]; exact h9
/-- what is left is nothing: v B = a modulo p -/
theorem red0 {a b l v t x p : Int} (hp : 0 < p) (hi : (b * l) % p = 1) (hv : TMD v a l p) (ht : TMD t v b p) (hx : LSD x a t p) : x = 0 := by
  unfold TMD at hv ht; unfold LSD at hx
  have e1 : (v - a * l) % p = 0 := by
    rw [hv]
    have := Int.tmod_add_mul_tdiv (a * l) p
    have h2 : (a * l).tmod p - a * l = p * (-(a * l).tdiv p) := by rw [Int.mul_neg]; omega
    rw [h2]; exact Int.mul_emod_right _ _
  have e2 : (t - v * b) % p = 0 := by
    rw [ht]
    have := Int.tmod_add_mul_tdiv (v * b) p
    have h2 : (v * b).tmod p - v * b = p * (-(v * b).tdiv p) := by rw [Int.mul_neg]; omega
    rw [h2]; exact Int.mul_emod_right _ _
  obtain ⟨c1, h1⟩ := Int.dvd_of_emod_eq_zero e1
  obtain ⟨c2, h2⟩ := Int.dvd_of_emod_eq_zero e2
  obtain ⟨c3, h3⟩ : ∃ c, b * l - 1 = p * c := ⟨(b * l) / p, by have := Int.mul_ediv_add_emod (b * l) p; omega⟩
  have h4 : a - t + p = p * (1 - c2 - c1 * b - a * c3) := by
    have q1 : t = p * c2 + v * b := by omega
    have q2 : v = p * c1 + a * l := by omega
    have q3 : b * l = p * c3 + 1 := by omega
    rw [q1, q2]
    have q4 : (p * c1 + a * l) * b = p * c1 * b + a * (b * l) := by grind
    rw [q4, q3]; grind
  rw [hx, h4]; exact Int.mul_tmod_right _ _
def PUTD (I I' : IT) (nu r k : Nat) (x : Int32) : Prop := I' nu (41 * r + k) = x ∧ ∀ j, j ≠ 41 * r + k → I' nu j = I nu j
theorem PUTD.of {I I' : IT} {nu r k j : Nat} {x : Int32} (e : I' = u2 I nu j x) (h : j = 41 * r + k) : PUTD I I' nu r k x := by
  subst e; subst h; exact ⟨u2_s, fun i hi => u2_k hi⟩
def QN (I : IT) (nu r : Nat) (n p : Int) : Prop := ∀ k : Nat, (k : Int) < n → -p < (I nu (41 * r + k)).toInt ∧ (I nu (41 * r + k)).toInt < p
theorem QN.put {I I' : IT} {nu r r' k : Nat} {n p : Int} {x : Int32} (h : QN I nu r n p) (w : PUTD I I' nu r' k x) (h1 : -p < x.toInt) (h2 : x.toInt < p) : QN I' nu r n p := fun j hj => by
  by_cases q : 41 * r + j = 41 * r' + k
  · rw [q, w.1]; exact ⟨h1, h2⟩
  · rw [w.2 _ q]; exact h j hj
theorem QN.eq {I I' : IT} {nu r : Nat} {n p : Int} (h : QN I nu r n p) (e : I' nu = I nu) : QN I' nu r n p := fun j hj => by rw [e]; exact h j hj
theorem QN.le {I : IT} {nu r : Nat} {n n' p : Int} (h : QN I nu r n p) (e : n' ≤ n) : QN I nu r n' p := fun j hj => h j (by omega)
theorem QN.sm {I I' : IT} {nu r : Nat} {n p : Int} (h : QN I nu r n p) (e : ∀ k, k < 41 → I' nu (41 * r + k) = I nu (41 * r + k)) (hn : n ≤ 41) : QN I' nu r n p := fun j hj => by rw [e j (by omega)]; exact h j hj
def SMR (I I' : IT) (nu r : Nat) : Prop := ∀ k, k < 41 → I' nu (41 * r + k) = I nu (41 * r + k)
theorem SMR.eq {I I' : IT} {nu r : Nat} (e : I' nu = I nu) : SMR I I' nu r := fun k _ => by rw [e]
theorem SMR.put {I I1 I' : IT} {nu r r' k : Nat} {x : Int32} (h : SMR I I1 nu r) (w : PUTD I1 I' nu r' k x) (hk : k < 41) (hn : r ≠ r') : SMR I I' nu r := fun j hj => (w.2 _ (by omega)).trans (h j hj)
theorem SMR.tr {I I1 I' : IT} {nu r : Nat} (h : SMR I I1 nu r) (g : SMR I1 I' nu r) : SMR I I' nu r := fun j hj => (g j hj).trans (h j hj)
theorem QN.smr {I I' : IT} {nu r : Nat} {n p : Int} (h : QN I nu r n p) (e : SMR I I' nu r) (hn : n ≤ 41) : QN I' nu r n p := h.sm e hn
theorem NE1.smr {I I' : IT} {nu r : Nat} (h : NE1 I nu (41 * r)) (e : SMR I I' nu r) : NE1 I' nu (41 * r) := by
  have := e 0 (by omega); show (I' nu (41 * r)).toInt ≠ 0; rw [show 41 * r = 41 * r + 0 from rfl, this]; exact h
def CPN (I I' : IT) (nu a b : Nat) (n : Int) : Prop := ∀ k : Nat, (k : Int) < n → I' nu (41 * b + k) = I nu (41 * a + k)
theorem CPN.z {I I' : IT} {nu a b : Nat} {x : Int32} (h : x.toInt = 0) : CPN I I' nu a b x.toInt := fun k hk => by omega
theorem CPN.s {I I1 I' : IT} {nu a b : Nat} {x y v : Int32} (h : CPN I I1 nu a b x.toInt) (sm : SMR I I1 nu a) (h0 : 0 ≤ x.toInt) (h40 : x.toInt ≤ 40) (o : v.toInt = (I1 nu (41 * a + x.toNatClampNeg)).toInt) (w : PUTD I1 I' nu b x.toNatClampNeg v) (hy : y.toInt = x.toInt + 1) : CPN I I' nu a b y.toInt := fun k hk => by
  have e1 := ncz h0
  by_cases q : k = x.toNatClampNeg
  · rw [q, w.1, Int32.toInt_inj.mp o]; exact sm _ (by omega)
  · rw [w.2 _ (by omega)]; exact h k (by omega)
theorem CPN.le {I I' : IT} {nu a b : Nat} {n n' : Int} (h : CPN I I' nu a b n) (e : n' ≤ n) : CPN I I' nu a b n' := fun k hk => h k (by omega)
theorem QN.cp {I I' : IT} {nu a b : Nat} {n p : Int} (h : QN I nu a n p) (c : CPN I I' nu a b n) : QN I' nu b n p := fun k hk => by rw [c k hk]; exact h k hk
theorem NE1.cp {I I' : IT} {nu a b : Nat} {n : Int} (h : NE1 I nu (41 * a)) (c : CPN I I' nu a b n) (hn : 0 < n) : NE1 I' nu (41 * b) := by
  have := c 0 (by omega); show (I' nu (41 * b)).toInt ≠ 0; rw [show 41 * b = 41 * b + 0 from rfl, this]; exact h
theorem NZ.ne {I : IT} {nu r : Nat} {D : Int} (h : NE1 I nu (41 * r)) (hD : 0 ≤ D) : NZ I nu r D := ⟨0, by omega, h⟩
def AZ (I : IT) (rs a : Nat) (n : Int) : Prop := ∀ k : Nat, (k : Int) < n → (I rs (a + k)).toInt = 0
def RW1 (I : IT) (rs a : Nat) (lg : Int) : Prop := ∃ k : Nat, (k : Int) < lg ∧ (I rs (a + k)).toInt ≠ 0
def RWS (I : IT) (rs n : Nat) (lg : Int) : Prop := ∀ r : Nat, r < n → ∃ k : Nat, (k : Int) < lg ∧ (I rs (492 * r + k)).toInt ≠ 0
theorem AZ.z {I : IT} {rs a : Nat} {x : Int32} (h : x.toInt = 0) : AZ I rs a x.toInt := fun k hk => by omega
theorem AZ.s {I : IT} {rs a : Nat} {x y : Int32} (h : AZ I rs a x.toInt) (h0 : 0 ≤ x.toInt) (e : (I rs (a + x.toNatClampNeg)).toInt = 0) (hy : y.toInt = x.toInt + 1) : AZ I rs a y.toInt := fun k hk => by
  have h1 := ncz h0
  by_cases q : k = x.toNatClampNeg
  · rw [q]; exact e
  · exact h k (by omega)
theorem RW1.of {I : IT} {rs a : Nat} {x : Int32} {lg : Int} (h : NE1 I rs (a + x.toNatClampNeg)) (h0 : 0 ≤ x.toInt) (h1 : x.toInt < lg) : RW1 I rs a lg := ⟨x.toNatClampNeg, by have := ncz h0; omega, h⟩
theorem RWS.z {I : IT} {rs : Nat} {x : Int32} {lg : Int} (h : x.toInt = 0) : RWS I rs x.toNatClampNeg lg := fun r hr => by
  have := nck (x := x) (n := 0) h
  omega
theorem RWS.lt {I : IT} {rs : Nat} {z r n : Int32} {x lg : Int} (h : RWS I rs n.toNatClampNeg lg) (a : AZ I rs z.toNatClampNeg x) (e : z.toInt = 492 * r.toInt) (h0 : 0 ≤ r.toInt) (h1 : r.toInt < n.toInt) : x < lg := by
  have e1 := ncz h0
  have e2 := ncz (x := z) (by omega)
  have e3 := ncz (x := n) (by omega)
  obtain ⟨k, hk, hn⟩ := h r.toNatClampNeg (by omega)
  have e4 : z.toNatClampNeg = 492 * r.toNatClampNeg := by omega
  by_cases q : (k : Int) < x
  · exact absurd (by rw [← e4]; exact a k q) hn
  · omega
theorem RWS.fr {I I' : IT} {rs : Nat} {n1 n2 : Int32} {lg : Int} (h : RWS I rs n2.toNatClampNeg lg) (f : ∀ r : Nat, (r < n1.toNatClampNeg ∨ n1.toNatClampNeg + 492 ≤ r) → I' rs r = I rs r) (e : n1.toInt = 492 * n2.toInt) (h0 : 0 ≤ n2.toInt) (hl : lg ≤ 492) : RWS I' rs n2.toNatClampNeg lg := fun r hr => by
  have e1 := ncz h0
  have e2 := ncz (x := n1) (by omega)
  obtain ⟨k, hk, hn⟩ := h r hr
  exact ⟨k, hk, by rw [f _ (by omega)]; exact hn⟩
theorem RWS.lg {I : IT} {rs : Nat} {n : Int32} {lg lg' : Int} (h : RWS I rs n.toNatClampNeg lg) (h0 : 0 ≤ n.toInt) (c : n.toInt = 0 ∨ lg = lg') : RWS I rs n.toNatClampNeg lg' := fun r hr => by
  have e1 := ncz h0
  rcases c with c | c
  · omega
  · rw [← c]; exact h r hr
theorem RWS.s {I : IT} {rs : Nat} {n y z : Int32} {lg : Int} (h : RWS I rs n.toNatClampNeg lg) (w : RW1 I rs z.toNatClampNeg lg) (h0 : 0 ≤ n.toInt) (e : z.toInt = 492 * n.toInt) (hy : y.toInt = n.toInt + 1) : RWS I rs y.toNatClampNeg lg := fun r hr => by
  have e1 := ncz h0
  have e2 := ncz (x := y) (by omega)
  have e3 := ncz (x := z) (by omega)
  by_cases q : r < n.toNatClampNeg
  · exact h r q
  · obtain ⟨k, hk, hn⟩ := w
    have e4 : z.toNatClampNeg = 492 * r := by omega
    exact ⟨k, hk, by rw [← e4]; exact hn⟩
theorem QN.s {I I' : IT} {nu r : Nat} {x y v : Int32} {p : Int} (h : QN I nu r x.toInt p) (w : PUTD I I' nu r x.toNatClampNeg v) (h0 : 0 ≤ x.toInt) (hy : y.toInt = x.toInt + 1) (h1 : -p < v.toInt) (h2 : v.toInt < p) : QN I' nu r y.toInt p := fun k hk => by
  have e1 := ncz h0
  by_cases q : k = x.toNatClampNeg
  · rw [q, w.1]; exact ⟨h1, h2⟩
  · rw [w.2 _ (by omega)]; exact h k (by omega)
theorem QN.z {I : IT} {nu r : Nat} {x : Int32} {p : Int} (h : x.toInt = 0) : QN I nu r x.toInt p := fun k hk => by omega
theorem AZ.put {I I' : IT} {nu r : Nat} {z v : Int32} {n : Int} (h : AZ I nu (41 * r) n) (w : PUTD I I' nu r z.toNatClampNeg v) (h0 : 0 ≤ z.toInt) (hz : n ≤ z.toInt) : AZ I' nu (41 * r) n := fun k hk => by
  have e1 := ncz h0
  rw [w.2 _ (by omega)]; exact h k hk
theorem AZ.ge {I : IT} {nu a : Nat} {m : Int} {x : Int32} (h : AZ I nu a m) (n : NE1 I nu (a + x.toNatClampNeg)) (h0 : 0 ≤ x.toInt) : m ≤ x.toInt := by
  have e1 := ncz h0
  by_cases q : m ≤ x.toInt
  · exact q
  · exact absurd (h x.toNatClampNeg (by omega)) n
theorem AZ.p {I I' : IT} {nu r : Nat} {x y v : Int32} (h : AZ I nu (41 * r) x.toInt) (w : PUTD I I' nu r x.toNatClampNeg v) (hv : v.toInt = 0) (h0 : 0 ≤ x.toInt) (hy : y.toInt = x.toInt + 1) : AZ I' nu (41 * r) y.toInt := fun k hk => by
  have e1 := ncz h0
  by_cases q : k = x.toNatClampNeg
  · rw [q, w.1]; exact hv
  · rw [w.2 _ (by omega)]; exact h k (by omega)
theorem QN.az {I : IT} {nu r : Nat} {n p : Int} (h : AZ I nu (41 * r) n) (hp : 0 < p) : QN I nu r n p := fun k hk => by rw [h k hk]; omega
def STQ (I I' : IT) (nu r : Nat) (n k : Int) : Prop := (∀ j : Nat, (j : Int) < k - n → I' nu (41 * r + j) = I nu (41 * r + j + n.toNat)) ∧ ∀ j : Nat, k - n ≤ j → I' nu (41 * r + j) = I nu (41 * r + j)
theorem STQ.z {I I' : IT} {nu r : Nat} {n k : Int} (h : n = k) (e : I' nu = I nu) : STQ I I' nu r n k := ⟨fun j hj => by omega, fun j _ => by rw [e]⟩
theorem STQ.s {I I1 I' : IT} {nu r : Nat} {n k k' z v : Int32} (h : STQ I I1 nu r n.toInt k.toInt) (o : v.toInt = (I1 nu (41 * r + k.toNatClampNeg)).toInt) (w : PUTD I1 I' nu r z.toNatClampNeg v) (hz : z.toInt = k.toInt - n.toInt) (h0 : 0 ≤ n.toInt) (h1 : n.toInt ≤ k.toInt) (hk : k'.toInt = k.toInt + 1) : STQ I I' nu r n.toInt k'.toInt := by
  have e1 := ncz (x := k) (by omega)
  have e2 := ncz (x := z) (by omega)
  refine ⟨fun j hj => ?_, fun j hj => ?_⟩
  · by_cases q : j = z.toNatClampNeg
    · subst q
      rw [w.1, Int32.toInt_inj.mp o, h.2 _ (by omega)]
      congr 1; omega
    · rw [w.2 _ (by omega)]; exact h.1 j (by omega)
  · rw [w.2 _ (by omega)]; exact h.2 j (by omega)
def STP (I I' : IT) (nu r : Nat) (n D : Int) : Prop := ∀ j : Nat, (j : Int) ≤ D - n → I' nu (41 * r + j) = I nu (41 * r + j + n.toNat)
theorem STQ.p {I I1 I' : IT} {nu r : Nat} {n k D : Int} (h : STQ I I1 nu r n k) (e : I' nu = I1 nu) (hk : D < k) : STP I I' nu r n D := fun j hj => by rw [e]; exact h.1 j (by omega)
theorem QN.st {I I' : IT} {nu r : Nat} {n D p : Int} (h : QN I nu r (D + 1) p) (s : STP I I' nu r n D) (h0 : 0 ≤ n) : QN I' nu r (D - n + 1) p := fun j hj => by
  rw [s j (by omega), Nat.add_assoc]; exact h _ (by omega)
theorem STP.ne {I I' : IT} {nu r : Nat} {n : Int32} {D : Int} (s : STP I I' nu r n.toInt D) (h : NE1 I nu (41 * r + n.toNatClampNeg)) (h0 : 0 ≤ n.toInt) (h1 : n.toInt ≤ D) : NE1 I' nu (41 * r) := by
  have e1 := ncz h0
  have := s 0 (by omega)
  show (I' nu (41 * r)).toInt ≠ 0
  rw [show 41 * r = 41 * r + 0 from rfl, this, show 41 * r + 0 + n.toInt.toNat = 41 * r + n.toNatClampNeg from by omega]; exact h
def ROWK (I : IT) (nu j : Nat) (i a : Int) : Prop := (i = 0 → (I nu j).toInt = a) ∧ (1 ≤ i → (I nu j).toInt = 0)
theorem ROWK.s {I I' : IT} {nu r : Nat} {k i z i' v : Int32} {a : Int} (h : ROWK I nu (41 * r + k.toNatClampNeg) i.toInt a) (w : PUTD I I' nu r z.toNatClampNeg v) (hz : z.toInt = k.toInt + i.toInt) (hx : i.toInt = 0 → v.toInt = 0) (hy : i'.toInt = i.toInt + 1) (hk : 0 ≤ k.toInt) (hi : 0 ≤ i.toInt) : ROWK I' nu (41 * r + k.toNatClampNeg) i'.toInt a := by
  have e1 := ncz hk
  have e2 := ncz (x := z) (by omega)
  refine ⟨fun q => by omega, fun _ => ?_⟩
  by_cases q : i.toInt = 0
  · rw [show 41 * r + k.toNatClampNeg = 41 * r + z.toNatClampNeg from by omega, w.1]; exact hx q
  · rw [w.2 _ (by omega)]; exact h.2 (by omega)
theorem AZ.row {I : IT} {nu r : Nat} {k y i : Int32} {a : Int} (h : AZ I nu (41 * r) k.toInt) (w : ROWK I nu (41 * r + k.toNatClampNeg) i.toInt a) (hi : 1 ≤ i.toInt) (h0 : 0 ≤ k.toInt) (hy : y.toInt = k.toInt + 1) : AZ I nu (41 * r) y.toInt := h.s h0 (w.2 hi) hy
theorem div0 {I I7 : IT} {nu : Nat} {k i z c b' t x v : Int32} {va vb vl p : Int} (hp : 0 < p) (W : ROWK I7 nu (41 * 40 + k.toNatClampNeg) i.toInt va) (S : SMR I I7 nu 41) (hi : i.toInt = 0) (hz : z.toInt = k.toInt + i.toInt) (hk : 0 ≤ k.toInt) (oc : c.toInt = (I7 nu (41 * 40 + z.toNatClampNeg)).toInt) (ob : b'.toInt = (I7 nu (41 * 41 + i.toNatClampNeg)).toInt) (hb : vb = (I nu (41 * 41 + 0)).toInt) (inv : (vb * vl) % p = 1) (t1 : TMD v.toInt va vl p) (t2 : TMD t.toInt v.toInt b'.toInt p) (l : LSD x.toInt c.toInt t.toInt p) : x.toInt = 0 := by
  have e1 := ncz hk
  have e2 := ncz (x := z) (by omega)
  have e3 := nck (x := i) (n := 0) hi
  rw [show z.toNatClampNeg = k.toNatClampNeg from by omega, W.1 hi] at oc
  rw [e3, S 0 (by omega), ← hb] at ob
  rw [ob] at t2
  rw [oc] at l
  exact red0 hp inv t1 t2 l
theorem AZ.le {I : IT} {nu a : Nat} {n n' : Int} (h : AZ I nu a n) (e : n' ≤ n) : AZ I nu a n' := fun k hk => h k (by omega)
theorem AZ.put43 {I I' : IT} {nu k : Nat} {v x : Int32} (h : AZ I nu (41 * 40) x.toInt) (w : PUTD I I' nu 43 k v) (hx : x.toInt ≤ 41) : AZ I' nu (41 * 40) x.toInt := fun j hj => by
  rw [w.2 _ (by omega)]; exact h j hj
theorem nclt {x : Int32} {n : Nat} (h0 : 0 ≤ x.toInt) (h : x.toInt < n) : x.toNatClampNeg < n := by have := ncz h0; omega
theorem ROWK.z {I I' : IT} {nu kk : Nat} {k i v a : Int32} {va : Int} (w : PUTD I I' nu 43 kk v) (hk : k.toInt ≤ 40) (h0 : 0 ≤ k.toInt) (o : a.toInt = (I nu (41 * 40 + k.toNatClampNeg)).toInt) (hv : va = a.toInt) (hi : i.toInt = 0) : ROWK I' nu (41 * 40 + k.toNatClampNeg) i.toInt va := by
  have := ncz h0
  exact ⟨fun _ => by rw [w.2 _ (by omega), ← o, hv], fun h => by omega⟩
theorem NZ.sm {I I' : IT} {nu r : Nat} {D : Int} (h : NZ I nu r D) (e : ∀ k, k < 41 → I' nu (41 * r + k) = I nu (41 * r + k)) (hD : D ≤ 40) : NZ I' nu r D := by
  obtain ⟨k, h1, h2⟩ := h
  exact ⟨k, h1, by rw [e k (by omega)]; exact h2⟩
def GN (I : IT) (nu j : Nat) (g : Int) : Prop := g ≠ 0 → NE1 I nu j
def CPW (I : IT) (a b : Nat) (n : Int) : Prop := ∀ k : Nat, (k : Int) < n → I b k = I a k
theorem CPW.z {I : IT} {a b : Nat} {x : Int32} (h : x.toInt = 0) : CPW I a b x.toInt := fun k hk => by omega
theorem CPW.s {I I' : IT} {a b : Nat} {x y v : Int32} (h : CPW I a b x.toInt) (e : I' = u2 I b x.toNatClampNeg v) (hn : a ≠ b) (o : I a x.toNatClampNeg = v) (h0 : 0 ≤ x.toInt) (hy : y.toInt = x.toInt + 1) : CPW I' a b y.toInt := fun k hk => by
  subst e
  have e1 := ncz h0
  rw [u2_a hn]
  by_cases q : k = x.toNatClampNeg
  · rw [q, u2_s, o]
  · rw [u2_k q]; exact h k (by omega)
def mF (T : Nat → Nat) (R : RT) (m : Nat) : Prop := (∀ f g a, R m f = some a → R m g = some a → f = g) ∧ (∀ f a, R m f = some a → T a = 20 ∨ T a = 21 ∨ T a = 22) ∧ T m = 13
theorem mF.ne {T : Nat → Nat} {R : RT} {m f a : Nat} (h : mF T R m) (ha : R m f = some a) : a ≠ m := by
  rintro rfl
  have := h.2.1 _ _ ha
  have := h.2.2
  omega
theorem mF.nq {T : Nat → Nat} {R : RT} {m f g a b : Nat} (h : mF T R m) (ha : R m f = some a) (hb : R m g = some b) (hn : f ≠ g) : a ≠ b := by
  rintro rfl; exact hn (h.1 _ _ _ ha hb)
theorem IM.fld {T : Nat → Nat} {R : RT} {m k : Nat} {I I' : IT} {x : Int32} (h : IM R m I) (G : mF T R m) (hx : boF k x) (e : I' = u2 I m k x) : IM R m I' := by
  subst e
  have hn : ∀ f a, R m f = some a → u2 I m k x a = I a := fun f a ha => u2_r (G.ne ha)
  refine ⟨fun f a ha => ?_, fun a ha => ?_, fun j => ?_⟩
  · rw [hn _ _ ha]; exact h.1 f a ha
  · rw [hn _ _ ha]; exact h.2.1 a ha
  · by_cases q : j = k
    · subst q; rw [u2_s]; exact hx
    · rw [u2_k q]; exact h.2.2 j
theorem IM.arr {T : Nat → Nat} {R : RT} {m f b k : Nat} {I I' : IT} {x : Int32} (h : IM R m I) (G : mF T R m) (hb : R m f = some b) (hx : boA f x) (h1 : f = 1 → WOK (u2 I b k x b)) (e : I' = u2 I b k x) : IM R m I' := by
  subst e
  have hn : ∀ g a, R m g = some a → g ≠ f → u2 I b k x a = I a := fun g a ha hg => u2_r (G.nq ha hb hg)
  have hs : ∀ a, R m f = some a → a = b := fun a ha => Option.some.inj (ha.symm.trans hb)
  have hm : ∀ j, u2 I b k x m j = I m j := fun j => u2_a (fun e => (G.ne hb) e.symm)
  refine ⟨fun g a ha j => ?_, fun a ha => ?_, fun j => ?_⟩
  · by_cases q : g = f
    · subst q; rw [hs a ha]
      by_cases z : j = k
      · subst z; rw [u2_s]; exact hx
      · rw [u2_k z]; exact h.1 g b hb j
    · rw [hn _ _ ha q]; exact h.1 g a ha j
  · by_cases q : (1 : Nat) = f
    · rw [hs a (q ▸ ha)]; exact h1 q.symm
    · rw [hn _ _ ha q]; exact h.2.1 a ha
  · rw [hm]; exact h.2.2 j
def CM (A : Nat → Prop) (R : RT) (m : Nat) (W WA : List Nat) (I : IT) (L : LT) (I' : IT) (L' : LT) : Prop := (∀ a, ¬ A a → I' a = I a ∧ L' a = L a) ∧ (∀ k, k ∉ W → I' m k = I m k) ∧ ∀ f a, R m f = some a → f ∉ WA → I' a = I a ∧ L' a = L a
theorem CM.rf {A : Nat → Prop} {R : RT} {m : Nat} {W WA : List Nat} {I : IT} {L : LT} : CM A R m W WA I L I L := ⟨fun _ _ => ⟨rfl, rfl⟩, fun _ _ => rfl, fun _ _ _ _ => ⟨rfl, rfl⟩⟩
theorem CM.cons {A : Nat → Prop} {R : RT} {m : Nat} {W WA W1 WA1 : List Nat} {I I1 I2 : IT} {L L1 L2 : LT} (h : CM A R m W1 WA1 I L I1 L1) (g : CM A R m W WA I1 L1 I2 L2) (s1 : ∀ z ∈ W1, z ∈ W) (s2 : ∀ z ∈ WA1, z ∈ WA) : CM A R m W WA I L I2 L2 :=
  ⟨fun a ha => ⟨(g.1 a ha).1.trans (h.1 a ha).1, (g.1 a ha).2.trans (h.1 a ha).2⟩, fun k hn => (g.2.1 k hn).trans (h.2.1 k (fun q => hn (s1 _ q))), fun f a hf hn => ⟨(g.2.2 f a hf hn).1.trans (h.2.2 f a hf (fun q => hn (s2 _ q))).1, (g.2.2 f a hf hn).2.trans (h.2.2 f a hf (fun q => hn (s2 _ q))).2⟩⟩
theorem CM.mono {A : Nat → Prop} {R : RT} {m : Nat} {W WA W1 WA1 : List Nat} {I I1 : IT} {L L1 : LT} (h : CM A R m W1 WA1 I L I1 L1) (s1 : ∀ z ∈ W1, z ∈ W) (s2 : ∀ z ∈ WA1, z ∈ WA) : CM A R m W WA I L I1 L1 := h.cons CM.rf s1 s2
theorem CM.f {A : Nat → Prop} {T : Nat → Nat} {R : RT} {m k : Nat} {I I' : IT} {L : LT} {x : Int32} (G : mF T R m) (hm : A m) (e : I' = u2 I m k x) : CM A R m [k] [] I L I' L := by
  subst e
  exact ⟨fun a ha => ⟨u2_r (fun q => ha (q ▸ hm)), rfl⟩, fun j hn => u2_k (fun q => hn (q ▸ List.mem_cons_self)), fun f a hf _ => ⟨u2_r (G.ne hf), rfl⟩⟩
theorem CM.fl {A : Nat → Prop} {T : Nat → Nat} {R : RT} {m k : Nat} {I : IT} {L L' : LT} {x : Int64} (G : mF T R m) (hm : A m) (e : L' = u2 L m k x) : CM A R m [] [] I L I L' := by
  subst e
  exact ⟨fun a ha => ⟨rfl, u2_r (fun q => ha (q ▸ hm))⟩, fun j hn => rfl, fun f a hf _ => ⟨rfl, u2_r (G.ne hf)⟩⟩
theorem CM.a {A : Nat → Prop} {T : Nat → Nat} {R : RT} {m f b k : Nat} {I I' : IT} {L : LT} {x : Int32} (G : mF T R m) (hb : R m f = some b) (ha : A b) (e : I' = u2 I b k x) : CM A R m [] [f] I L I' L := by
  subst e
  exact ⟨fun a h => ⟨u2_r (fun q => h (q ▸ ha)), rfl⟩, fun j _ => u2_a (fun e => (G.ne hb) e.symm), fun g a hg hn => ⟨u2_r (fun q => hn (by rw [G.1 g f b (q ▸ hg) hb]; exact List.mem_cons_self)), rfl⟩⟩
theorem CM.al {A : Nat → Prop} {T : Nat → Nat} {R : RT} {m f b k : Nat} {I : IT} {L L' : LT} {x : Int64} (G : mF T R m) (hb : R m f = some b) (ha : A b) (e : L' = u2 L b k x) : CM A R m [] [f] I L I L' := by
  subst e
  exact ⟨fun a h => ⟨rfl, u2_r (fun q => h (q ▸ ha))⟩, fun j _ => rfl, fun g a hg hn => ⟨rfl, u2_r (fun q => hn (by rw [G.1 g f b (q ▸ hg) hb]; exact List.mem_cons_self))⟩⟩
def TT (R : RT) (m : Nat) (I : IT) : Prop := R m 0 = R m 0 ∧ I m 0 = I m 0
theorem TT.i {R : RT} {m : Nat} {I : IT} : TT R m I := ⟨rfl, rfl⟩
theorem IM.bk {A : Nat → Prop} {R : RT} {m w : Nat} {I I' : IT} {L L' : LT} (h : IM R m I) (c : CM A R m [0] [1] I L I' L') (hw : R m 1 = some w) (W : WOK (I' w)) : IM R m I' := by
  refine ⟨fun f a ha k => ?_, fun a ha => ?_, fun k => ?_⟩
  · by_cases q : f = 1
    · subst q; exact ⟨fun z => absurd z (by decide), fun z => absurd z (by decide), fun z => absurd z (by decide)⟩
    · rw [(c.2.2 f a ha (by simpa using q)).1]; exact h.1 f a ha k
  · have : a = w := Option.some.inj (ha.symm.trans hw)
    rw [this]; exact W
  · by_cases q : k = 0
    · subst q; exact ⟨fun z => absurd z (by decide), fun z => absurd z (by decide), fun z => absurd z (by decide), fun z => absurd z (by decide), fun z => absurd z (by decide)⟩
    · rw [c.2.1 k (by simpa using q)]; exact h.2.2 k
theorem CM.k {A : Nat → Prop} {R : RT} {m k : Nat} {W WA : List Nat} {I I' : IT} {L L' : LT} {x : Int32} (h : CM A R m W WA I L I' L') (hn : k ∉ W) (e : I m k = x) : I' m k = x := (h.2.1 k hn).trans e
theorem CM.j {A : Nat → Prop} {R : RT} {m f a k : Nat} {W WA : List Nat} {I I' : IT} {L L' : LT} {x : Int32} (h : CM A R m W WA I L I' L') (hf : R m f = some a) (hn : f ∉ WA) (e : I a k = x) : I' a k = x := (congrFun (h.2.2 f a hf hn).1 k).trans e
theorem CM.j0 {A : Nat → Prop} {R : RT} {m f a : Nat} {W WA : List Nat} {I I' : IT} {L L' : LT} (h : CM A R m W WA I L I' L') (hf : R m f = some a) (hn : f ∉ WA) : I' a = I a := (h.2.2 f a hf hn).1
theorem ncne {x y : Int32} (h0 : 0 ≤ x.toInt) (h1 : 0 ≤ y.toInt) (h : x.toInt ≠ y.toInt) : x.toNatClampNeg ≠ y.toNatClampNeg := by
  have := ncz h0
  have := ncz h1
  omega
theorem nckn {x : Int32} {n : Nat} (h0 : 0 ≤ x.toInt) (h : x.toInt ≠ (n : Int)) : x.toNatClampNeg ≠ n := by
  have := ncz h0
  omega
section AutoM
variable {d : Nat} {q : mm_T} {mc ms : Nat} {Post : Po} {V : V_T} {pc pc2 : Nat} {lv : List (Nat × Value)} {r : List Value} {ck sk : Nat} {T N : Nat → Nat} {I : IT} {L : LT} {R : RT}
theorem iremB {x y : Int32} (hy : 0 < y.toInt) : -y.toInt < (x - x / y * y).toInt ∧ (x - x / y * y).toInt < y.toInt ∧ (0 ≤ x.toInt → 0 ≤ (x - x / y * y).toInt) := by
  rw [i_rem hy]
  exact ⟨Int.lt_tmod_of_pos x.toInt hy, Int.tmod_lt_of_pos x.toInt hy, (tm_sg x.toInt hy).1⟩
theorem z_iremB (C : Cl d q mc ms Post V) {M : Mm} {x y : Int32} (hi : cdf q.2.2.2.2.2.2 pc = some (.irem, 1)) (hp : pc + 1 = pc2) (hy : 0 < y.toInt) (h : ∀ w : Int32, -y.toInt < w.toInt ∧ w.toInt < y.toInt ∧ (0 ≤ x.toInt → 0 ≤ w.toInt) ∧ RMD w x y → V pc2 lv (.int w :: r) M ck sk) : V pc lv (.int y :: .int x :: r) M ck sk := k_irem C hi hp (i_ne0 (by omega)) (h _ ⟨(iremB hy).1, (iremB hy).2.1, (iremB hy).2.2, i_rem hy⟩)
theorem z_imulN (C : Cl d q mc ms Post V) {M : Mm} {x y : Int32} (hi : cdf q.2.2.2.2.2.2 pc = some (.imul, 1)) (hp : pc + 1 = pc2) (h : ∀ w : Int32, (0 ≤ x.toInt → x.toInt ≤ 18 → 0 ≤ y.toInt → y.toInt ≤ 18 → 0 ≤ w.toInt ∧ w.toInt ≤ 324) ∧ MXD w x y → V pc2 lv (.int w :: r) M ck sk) : V pc lv (.int y :: .int x :: r) M ck sk := k_imul C hi hp (h _ ⟨fun h1 h2 h3 h4 => by
  have := mul_bd (u := x.toInt) (v := y.toInt) ⟨h1, h2⟩ ⟨h3, h4⟩
  rw [ii_mul (by omega)]; exact this, fun h1 h2 h3 h4 => by
  have h5 := mul_ab h1 h2 h3 h4
  rw [ii_mul (by omega)]⟩)
theorem z_imulI (C : Cl d q mc ms Post V) {M : Mm} {x y : Int32} {a b c : Int} (hi : cdf q.2.2.2.2.2.2 pc = some (.imul, 1)) (hp : pc + 1 = pc2) (hx : 0 ≤ x.toInt ∧ x.toInt ≤ a) (hy : 0 ≤ y.toInt ∧ y.toInt ≤ b) (hc : a * b = c) (hc2 : c ≤ 2147483647) (h : ∀ w : Int32, 0 ≤ w.toInt ∧ w.toInt ≤ c → V pc2 lv (.int w :: r) M ck sk) : V pc lv (.int y :: .int x :: r) M ck sk := k_imul C hi hp (h _ (by
  have h1 : 0 ≤ x.toInt * y.toInt := Int.mul_nonneg hx.1 hy.1
  have h2 : x.toInt * y.toInt ≤ a * b := Int.mul_le_mul hx.2 hy.2 hy.1 (by omega)
  rw [ii_mul (by omega)]; omega))
end AutoM
end
