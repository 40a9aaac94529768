/-! the class's forms, exactly -/
def rA (R : RT) (a k : Nat) : Nat := (R a k).getD 0
theorem rA_e {R : RT} {a k b : Nat} (h : R a k = some b) : rA R a k = b := by unfold rA; rw [h]; rfl
def SL (l : List Nat) (a : Nat) : Prop := a ∈ l
theorem Chg.up {A B : Nat → Prop} {T : Nat → Nat} {W : List (Nat × Nat)} {I I' : IT} {L L' : LT} (h : Chg A T W I L I' L') (s : ∀ a, A a → B a) : Chg B T W I L I' L' := ⟨fun a ha => h.1 a (fun q => ha (s a q)), h.2⟩
theorem Chg.at {A : Nat → Prop} {T : Nat → Nat} {W : List (Nat × Nat)} {I I' : IT} {L L' : LT} (h : Chg A T W I L I' L') {b : Nat} (hb : ¬ A b) : I' b = I b := (h.1 b hb).1
theorem nm_1 {b x0 : Nat} (h0 : b ≠ x0) : ¬ SL [x0] b := by
  intro h
  simp only [SL, List.mem_cons, List.not_mem_nil, or_false] at h
  omega
theorem nm_2 {b x0 x1 : Nat} (h0 : b ≠ x0) (h1 : b ≠ x1) : ¬ SL [x0, x1] b := by
  intro h
  simp only [SL, List.mem_cons, List.not_mem_nil, or_false] at h
  omega
section AutoX
variable {d : Nat} {q : mm_T} {mc ms : Nat} {Post : Po} {V : V_T} {pc pc2 : Nat} {lv : List (Nat × Value)} {r : List Value} {ck sk : Nat} {T N : Nat → Nat} {I : IT} {L : LT} {R : RT}
def ADX (w x y : Int32) : Prop := -2147483648 ≤ x.toInt + y.toInt → x.toInt + y.toInt ≤ 2147483647 → w.toInt = x.toInt + y.toInt
end AutoX
def FEQ (R : RT) (I' : IT) (a' : Nat) (I : IT) (a : Nat) : Prop := (I' a' 0).toInt = (I a 0).toInt ∧ ∀ k : Nat, (k : Int) ≤ (I a 0).toInt → (I' (rA R a' 1) k).toInt = (I (rA R a 1) k).toInt
def GTD (x D : Int) (f : Nat → Int) (k : Int) : Prop := (0 ≤ k → k ≤ D → x = f k.toNat) ∧ ((k < 0 ∨ D < k) → x = 0)
theorem GTD.r {I : IT} {b : Nat} {x k : Int32} {D : Int} (h0 : 0 ≤ k.toInt) (h1 : k.toInt ≤ D) (e : I b k.toNatClampNeg = x) : GTD x.toInt D (fun j => (I b j).toInt) k.toInt := ⟨fun _ _ => by show x.toInt = (I b _).toInt; rw [← e]; rfl, fun h => by omega⟩
theorem GTD.z {x D k : Int} {f : Nat → Int} (hx : x = 0) (h : k < 0 ∨ D < k) : GTD x D f k := ⟨fun _ _ => by omega, fun _ => hx⟩
theorem GTD.i {x k : Int32} {D : Int} {f : Nat → Int} (h : GTD x.toInt D f k.toInt) (h0 : 0 ≤ k.toInt) (h1 : k.toInt ≤ D) : x.toInt = f k.toNatClampNeg := h.1 h0 h1
def STD (I I' : IT) (b : Nat) (k v : Int32) : Prop := (0 ≤ k.toInt → k.toInt < 41 → I' = u2 I b k.toNatClampNeg v) ∧ ((k.toInt < 0 ∨ 41 ≤ k.toInt) → I' = I)
theorem STD.r {I I' : IT} {b : Nat} {k v : Int32} (e : I' = u2 I b k.toNatClampNeg v) (h0 : 0 ≤ k.toInt) (h1 : k.toInt < 41) : STD I I' b k v := ⟨fun _ _ => e, fun h => by omega⟩
theorem STD.z {I : IT} {b : Nat} {k v : Int32} (h : k.toInt < 0 ∨ 41 ≤ k.toInt) : STD I I b k v := ⟨fun _ _ => by omega, fun _ => rfl⟩
def AFL (I' : IT) (a : Nat) (v : Int32) (n : Int) : Prop := ∀ j : Nat, (j : Int) < n → I' a j = v
theorem AFL.z {I' : IT} {a : Nat} {v : Int32} {n : Int} (h : n = 0) : AFL I' a v n := fun j hj => by omega
theorem AFL.s {I I' : IT} {a : Nat} {v k k' : Int32} (h : AFL I a v k.toInt) (u : I' = u2 I a k.toNatClampNeg v) (h0 : 0 ≤ k.toInt) (hk : k'.toInt = k.toInt + 1) : AFL I' a v k'.toInt := fun j hj => by
  have k1 := ncz h0
  rw [u]
  by_cases q : j = k.toNatClampNeg
  · subst q; exact u2_s
  · rw [u2_k q]; exact h j (by omega)
theorem AFL.le {I' : IT} {a : Nat} {v : Int32} {n n' : Int} (h : AFL I' a v n) (e : n' ≤ n) : AFL I' a v n' := fun j hj => h j (by omega)
/-- b' holds b's first n numbers -/
def CPR (I' : IT) (b' : Nat) (I : IT) (b : Nat) (n : Int) : Prop := ∀ j : Nat, (j : Int) < n → (I' b' j).toInt = (I b j).toInt
theorem CPR.z {I' I : IT} {b' b : Nat} {n : Int} (h : n = 0) : CPR I' b' I b n := fun j hj => by omega
theorem CPR.s {I' I1 I I0 : IT} {b' b : Nat} {x k k' : Int32} {D : Int} (h : CPR I1 b' I0 b k.toInt) (g : GTD x.toInt D (fun j => (I b j).toInt) k.toInt) (hb : I b = I0 b) (t : STD I1 I' b' k x) (h0 : 0 ≤ k.toInt) (h1 : k.toInt ≤ D) (h2 : k.toInt < 41) (hk : k'.toInt = k.toInt + 1) : CPR I' b' I0 b k'.toInt := fun j hj => by
  have k1 := ncz h0
  rw [t.1 h0 h2]
  by_cases q : j = k.toNatClampNeg
  · subst q
    rw [u2_s, g.i h0 h1, hb]
  · rw [u2_k q]; exact h j (by omega)
theorem FEQ.c {R : RT} {I' I : IT} {a' a b' b : Nat} {D k : Int} (hd : (I' a' 0).toInt = D) (hd2 : (I a 0).toInt = D) (h : CPR I' b' I b k) (hk : D < k) (e' : rA R a' 1 = b') (e : rA R a 1 = b) : FEQ R I' a' I a := ⟨by omega, fun j hj => by rw [e', e]; exact h j (by omega)⟩
theorem FEQ.rf {R : RT} {I : IT} {a : Nat} : FEQ R I a I a := ⟨rfl, fun _ _ => rfl⟩
theorem FEQ.tr {R : RT} {I1 I2 I3 : IT} {a b c : Nat} (h : FEQ R I1 a I2 b) (g : FEQ R I2 b I3 c) : FEQ R I1 a I3 c := ⟨h.1.trans g.1, fun k hk => (h.2 k (by have := g.1; omega)).trans (g.2 k hk)⟩
theorem FEQ.l {R : RT} {I1 I1' I2 : IT} {a b : Nat} (h : FEQ R I1 a I2 b) (e1 : I1' a = I1 a) (e2 : I1' (rA R a 1) = I1 (rA R a 1)) : FEQ R I1' a I2 b := ⟨by rw [e1]; exact h.1, fun k hk => by rw [e2]; exact h.2 k hk⟩
theorem FEQ.r {R : RT} {I1 I2 I2' : IT} {a b : Nat} (h : FEQ R I1 a I2 b) (e1 : I2' b = I2 b) (e2 : I2' (rA R b 1) = I2 (rA R b 1)) : FEQ R I1 a I2' b := ⟨by rw [e1]; exact h.1, fun k hk => by rw [e1] at hk; rw [e2]; exact h.2 k hk⟩
/-- two rows' numbers put into each other's place -/
def SWD (I' : IT) (b c : Nat) (I : IT) (n : Int) : Prop := (∀ j : Nat, (j : Int) < n → (I' b j).toInt = (I c j).toInt ∧ (I' c j).toInt = (I b j).toInt) ∧ ∀ j : Nat, n ≤ (j : Int) → I' b j = I b j ∧ I' c j = I c j
theorem SWD.z {I : IT} {b c : Nat} {n : Int} (h : n = 0) : SWD I b c I n := ⟨fun j hj => by omega, fun _ _ => ⟨rfl, rfl⟩⟩
theorem SWD.s {I I1 I2 I3 : IT} {b c : Nat} {x y k k' : Int32} {D : Int} (h : SWD I1 b c I k.toInt) (hbc : b ≠ c) (g : GTD x.toInt D (fun j => (I1 b j).toInt) k.toInt) (g2 : GTD y.toInt D (fun j => (I1 c j).toInt) k.toInt) (t : STD I1 I2 b k y) (t2 : STD I2 I3 c k x) (h0 : 0 ≤ k.toInt) (h1 : k.toInt ≤ D) (h2 : k.toInt < 41) (hk : k'.toInt = k.toInt + 1) : SWD I3 b c I k'.toInt := by
  have k1 := ncz h0
  have e2 := t.1 h0 h2
  have e3 := t2.1 h0 h2
  have gx := g.i h0 h1
  have gy := g2.i h0 h1
  have ob : ∀ j, I3 b j = I2 b j := fun j => by rw [e3]; exact congrFun (u2_r hbc) j
  have oc : ∀ j, I2 c j = I1 c j := fun j => by rw [e2]; exact congrFun (u2_r (Ne.symm hbc)) j
  refine ⟨fun j hj => ?_, fun j hj => ?_⟩
  · by_cases q : j = k.toNatClampNeg
    · subst q
      refine ⟨?_, ?_⟩
      · rw [ob, e2, u2_s, gy]
        show (I1 c _).toInt = _
        rw [(h.2 k.toNatClampNeg (by omega)).2]
      · rw [e3, u2_s, gx]
        show (I1 b _).toInt = _
        rw [(h.2 k.toNatClampNeg (by omega)).1]
    · have hj2 : (j : Int) < k.toInt := by omega
      refine ⟨?_, ?_⟩
      · rw [ob, e2, u2_k q]; exact (h.1 j hj2).1
      · rw [e3, u2_k q, oc]; exact (h.1 j hj2).2
  · have q : j ≠ k.toNatClampNeg := by omega
    refine ⟨?_, ?_⟩
    · rw [ob, e2, u2_k q]; exact (h.2 j (by omega)).1
    · rw [e3, u2_k q, oc]; exact (h.2 j (by omega)).2
def PKD (R : RT) (x : Option Nat) (r : Nat) (k : Int32) (n : Nat) : Prop := (0 ≤ k.toInt → k.toInt < (n : Int) → x = R r k.toNatClampNeg) ∧ ((k.toInt < 0 ∨ (n : Int) ≤ k.toInt) → x = none)
theorem PKD.r {R : RT} {r b n : Nat} {k : Int32} (h : R r k.toNatClampNeg = some b) (h0 : 0 ≤ k.toInt) (h1 : k.toInt < (n : Int)) : PKD R (some b) r k n := ⟨fun _ _ => h.symm, fun h => by omega⟩
theorem PKD.z {R : RT} {r n : Nat} {k : Int32} (h : k.toInt < 0 ∨ (n : Int) ≤ k.toInt) : PKD R none r k n := ⟨fun _ _ => by omega, fun _ => rfl⟩
theorem PKD.no {R : RT} {r n : Nat} {k : Int32} {P : Nat → Prop} (h : PKD R none r k n) (h0 : 0 ≤ k.toInt) (h1 : k.toInt < (n : Int)) (he : ∀ j, j < n → ∃ f, R r j = some f ∧ P f) : False := by
  obtain ⟨f, f1, -⟩ := he k.toNatClampNeg (ncn h0 h1)
  have := h.1 h0 h1
  rw [f1] at this
  cases this
theorem PKD.q {R : RT} {r n b : Nat} {k : Int32} (h : PKD R (some b) r k n) (h0 : 0 ≤ k.toInt) (h1 : k.toInt < (n : Int)) : R r k.toNatClampNeg = some b := (h.1 h0 h1).symm
