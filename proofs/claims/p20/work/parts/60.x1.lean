/-! the class's forms, exactly -/
def rA (R : RT) (a k : Nat) : Nat := (R a k).getD 0
theorem rA_e {R : RT} {a k b : Nat} (h : R a k = some b) : rA R a k = b := by unfold rA; rw [h]; rfl
def SL (l : List Nat) (a : Nat) : Prop := a ∈ l
theorem Chg.up {A B : Nat → Prop} {T : Nat → Nat} {W : List (Nat × Nat)} {I I' : IT} {L L' : LT} (h : Chg A T W I L I' L') (s : ∀ a, A a → B a) : Chg B T W I L I' L' := ⟨fun a ha => h.1 a (fun q => ha (s a q)), h.2⟩
theorem Chg.at {A : Nat → Prop} {T : Nat → Nat} {W : List (Nat × Nat)} {I I' : IT} {L L' : LT} (h : Chg A T W I L I' L') {b : Nat} (hb : ¬ A b) : I' b = I b := (h.1 b hb).1
theorem sl_1 {B : Nat → Prop} {x0 : Nat} (h0 : B x0) : ∀ a, SL [x0] a → B a := by
  intro a h
  simp only [SL, List.mem_cons, List.not_mem_nil, or_false] at h
  rcases h with rfl
  exact h0
theorem nm_1 {b x0 : Nat} (h0 : b ≠ x0) : ¬ SL [x0] b := by
  intro h
  simp only [SL, List.mem_cons, List.not_mem_nil, or_false] at h
  omega
theorem sl_2 {B : Nat → Prop} {x0 x1 : Nat} (h0 : B x0) (h1 : B x1) : ∀ a, SL [x0, x1] a → B a := by
  intro a h
  simp only [SL, List.mem_cons, List.not_mem_nil, or_false] at h
  rcases h with rfl | rfl
  · exact h0
  · exact h1
theorem nm_2 {b x0 x1 : Nat} (h0 : b ≠ x0) (h1 : b ≠ x1) : ¬ SL [x0, x1] b := by
  intro h
  simp only [SL, List.mem_cons, List.not_mem_nil, or_false] at h
  omega
theorem sl_3 {B : Nat → Prop} {x0 x1 x2 : Nat} (h0 : B x0) (h1 : B x1) (h2 : B x2) : ∀ a, SL [x0, x1, x2] a → B a := by
  intro a h
  simp only [SL, List.mem_cons, List.not_mem_nil, or_false] at h
  rcases h with rfl | rfl | rfl
  · exact h0
  · exact h1
  · exact h2
theorem nm_3 {b x0 x1 x2 : Nat} (h0 : b ≠ x0) (h1 : b ≠ x1) (h2 : b ≠ x2) : ¬ SL [x0, x1, x2] b := by
  intro h
  simp only [SL, List.mem_cons, List.not_mem_nil, or_false] at h
  omega
theorem sl_4 {B : Nat → Prop} {x0 x1 x2 x3 : Nat} (h0 : B x0) (h1 : B x1) (h2 : B x2) (h3 : B x3) : ∀ a, SL [x0, x1, x2, x3] a → B a := by
  intro a h
  simp only [SL, List.mem_cons, List.not_mem_nil, or_false] at h
  rcases h with rfl | rfl | rfl | rfl
  · exact h0
  · exact h1
  · exact h2
  · exact h3
theorem nm_4 {b x0 x1 x2 x3 : Nat} (h0 : b ≠ x0) (h1 : b ≠ x1) (h2 : b ≠ x2) (h3 : b ≠ x3) : ¬ SL [x0, x1, x2, x3] b := by
  intro h
  simp only [SL, List.mem_cons, List.not_mem_nil, or_false] at h
  omega
theorem sl_6 {B : Nat → Prop} {x0 x1 x2 x3 x4 x5 : Nat} (h0 : B x0) (h1 : B x1) (h2 : B x2) (h3 : B x3) (h4 : B x4) (h5 : B x5) : ∀ a, SL [x0, x1, x2, x3, x4, x5] a → B a := by
  intro a h
  simp only [SL, List.mem_cons, List.not_mem_nil, or_false] at h
  rcases h with rfl | rfl | rfl | rfl | rfl | rfl
  · exact h0
  · exact h1
  · exact h2
  · exact h3
  · exact h4
  · exact h5
theorem nm_6 {b x0 x1 x2 x3 x4 x5 : Nat} (h0 : b ≠ x0) (h1 : b ≠ x1) (h2 : b ≠ x2) (h3 : b ≠ x3) (h4 : b ≠ x4) (h5 : b ≠ x5) : ¬ SL [x0, x1, x2, x3, x4, x5] b := by
  intro h
  simp only [SL, List.mem_cons, List.not_mem_nil, or_false] at h
  omega
section AutoX
variable {d : Nat} {q : mm_T} {mc ms : Nat} {Post : Po} {V : V_T} {pc pc2 : Nat} {lv : List (Nat × Value)} {r : List Value} {ck sk : Nat} {T N : Nat → Nat} {I : IT} {L : LT} {R : RT}
theorem z_aRe (C : Cl d q mc ms Post V) {P : Nat → Prop} {a t n : Nat} {j : Int32} (hi : cdf q.2.2.2.2.2.2 pc = some (.aaload, 1)) (hp : pc + 1 = pc2) (h4 : t < 4) (ht : T a = 23 + t) (hN : N a = n) (he : ∀ j, j < n → ∃ f, R a j = some f ∧ P f) (h0 : 0 ≤ j.toInt) (h1 : j.toInt < (n : Int)) (h : ∀ b, R a j.toNatClampNeg = some b → P b → V pc2 lv (.ref b :: r) (T, N, I, L, R) ck sk) : V pc lv (.int j :: .ref a :: r) (T, N, I, L, R) ck sk := by
  obtain ⟨f, f1, f2⟩ := he j.toNatClampNeg (ncn h0 h1)
  exact a_R C hi hp h4 ht (by rw [hN]; exact vpi h0 h1) f1 (h f f1 f2)
def ADX (w x y : Int32) : Prop := -2147483648 ≤ x.toInt + y.toInt → x.toInt + y.toInt ≤ 2147483647 → w.toInt = x.toInt + y.toInt
theorem z_iaddX (C : Cl d q mc ms Post V) {M : Mm} {x y : Int32} (hi : cdf q.2.2.2.2.2.2 pc = some (.iadd, 1)) (hp : pc + 1 = pc2) (h : ∀ w : Int32, ADX w x y → V pc2 lv (.int w :: r) M ck sk) : V pc lv (.int y :: .int x :: r) M ck sk := k_iadd C hi hp (h _ (fun h1 h2 => ii_add ⟨h1, by omega⟩))
end AutoX
def FEQ (R : RT) (I' : IT) (a' : Nat) (I : IT) (a : Nat) : Prop := (I' a' 0).toInt = (I a 0).toInt ∧ ∀ k : Nat, (k : Int) ≤ (I a 0).toInt → (I' (rA R a' 1) k).toInt = (I (rA R a 1) k).toInt
def GTD (x D : Int) (f : Nat → Int) (k : Int) : Prop := (0 ≤ k → k ≤ D → x = f k.toNat) ∧ ((k < 0 ∨ D < k) → x = 0)
theorem GTD.r {I : IT} {b : Nat} {x k : Int32} {D : Int} (h0 : 0 ≤ k.toInt) (h1 : k.toInt ≤ D) (e : I b k.toNatClampNeg = x) : GTD x.toInt D (fun j => (I b j).toInt) k.toInt := ⟨fun _ _ => by show x.toInt = (I b _).toInt; rw [← e]; rfl, fun h => by omega⟩
theorem GTD.z {x D k : Int} {f : Nat → Int} (hx : x = 0) (h : k < 0 ∨ D < k) : GTD x D f k := ⟨fun _ _ => by omega, fun _ => hx⟩
theorem GTD.i {x k : Int32} {D : Int} {f : Nat → Int} (h : GTD x.toInt D f k.toInt) (h0 : 0 ≤ k.toInt) (h1 : k.toInt ≤ D) : x.toInt = f k.toNatClampNeg := h.1 h0 h1
def STD (I I' : IT) (b : Nat) (k v : Int32) : Prop := (0 ≤ k.toInt → k.toInt < 41 → I' = u2 I b k.toNatClampNeg v) ∧ ((k.toInt < 0 ∨ 41 ≤ k.toInt) → I' = I)
theorem STD.r {I I' : IT} {b : Nat} {k v : Int32} (e : I' = u2 I b k.toNatClampNeg v) (h0 : 0 ≤ k.toInt) (h1 : k.toInt < 41) : STD I I' b k v := ⟨fun _ _ => e, fun h => by omega⟩
theorem STD.z {I : IT} {b : Nat} {k v : Int32} (h : k.toInt < 0 ∨ 41 ≤ k.toInt) : STD I I b k v := ⟨fun _ _ => by omega, fun _ => rfl⟩
def AFL (I' : IT) (a : Nat) (v : Int32) (n : Int) : Prop := ∀ j : Nat, (j : Int) < n → I' a j = v
theorem AFL.z {I' : IT} {a : Nat} {v : Int32} {n : Int} (h : n = 0) : AFL I' a v n := fun j hj => by omega
theorem AFL.s {I I' : IT} {a : Nat} {v k k' : Int32} (h : AFL I a v k.toInt) (u : I' = u2 I a k.toNatClampNeg v) (h0 : 0 ≤ k.toInt) (hk : k'.toInt = k.toInt + 1) : AFL I' a v k'.toInt := fun j hj => by
  have k1 := ncz h0
  rw [u]
  by_cases q : j = k.toNatClampNeg
  · subst q; exact u2_s
  · rw [u2_k q]; exact h j (by omega)
theorem AFL.le {I' : IT} {a : Nat} {v : Int32} {n n' : Int} (h : AFL I' a v n) (e : n' ≤ n) : AFL I' a v n' := fun j hj => h j (by omega)
def CLD (x n : Int) : Prop := (n < 0 → x = 0) ∧ (40 < n → x = 40) ∧ (0 ≤ n → n ≤ 40 → x = n)
/-- b' holds b's first n numbers -/
def CPR (I' : IT) (b' : Nat) (I : IT) (b : Nat) (n : Int) : Prop := ∀ j : Nat, (j : Int) < n → (I' b' j).toInt = (I b j).toInt
theorem CPR.z {I' I : IT} {b' b : Nat} {n : Int} (h : n = 0) : CPR I' b' I b n := fun j hj => by omega
theorem CPR.s {I' I1 I I0 : IT} {b' b : Nat} {x k k' : Int32} {D : Int} (h : CPR I1 b' I0 b k.toInt) (g : GTD x.toInt D (fun j => (I b j).toInt) k.toInt) (hb : I b = I0 b) (t : STD I1 I' b' k x) (h0 : 0 ≤ k.toInt) (h1 : k.toInt ≤ D) (h2 : k.toInt < 41) (hk : k'.toInt = k.toInt + 1) : CPR I' b' I0 b k'.toInt := fun j hj => by
  have k1 := ncz h0
  rw [t.1 h0 h2]
  by_cases q : j = k.toNatClampNeg
  · subst q
    rw [u2_s, g.i h0 h1, hb]
  · rw [u2_k q]; exact h j (by omega)
theorem FEQ.c {R : RT} {I' I : IT} {a' a b' b : Nat} {D k : Int} (hd : (I' a' 0).toInt = D) (hd2 : (I a 0).toInt = D) (h : CPR I' b' I b k) (hk : D < k) (e' : rA R a' 1 = b') (e : rA R a 1 = b) : FEQ R I' a' I a := ⟨by omega, fun j hj => by rw [e', e]; exact h j (by omega)⟩
theorem FEQ.rf {R : RT} {I : IT} {a : Nat} : FEQ R I a I a := ⟨rfl, fun _ _ => rfl⟩
theorem FEQ.tr {R : RT} {I1 I2 I3 : IT} {a b c : Nat} (h : FEQ R I1 a I2 b) (g : FEQ R I2 b I3 c) : FEQ R I1 a I3 c := ⟨h.1.trans g.1, fun k hk => (h.2 k (by have := g.1; omega)).trans (g.2 k hk)⟩
theorem FEQ.l {R : RT} {I1 I1' I2 : IT} {a b : Nat} (h : FEQ R I1 a I2 b) (e1 : I1' a = I1 a) (e2 : I1' (rA R a 1) = I1 (rA R a 1)) : FEQ R I1' a I2 b := ⟨by rw [e1]; exact h.1, fun k hk => by rw [e2]; exact h.2 k hk⟩
theorem FEQ.r {R : RT} {I1 I2 I2' : IT} {a b : Nat} (h : FEQ R I1 a I2 b) (e1 : I2' b = I2 b) (e2 : I2' (rA R b 1) = I2 (rA R b 1)) : FEQ R I1 a I2' b := ⟨by rw [e1]; exact h.1, fun k hk => by rw [e1] at hk; rw [e2]; exact h.2 k hk⟩
/-- two rows' numbers put into each other's place -/
def SWD (I' : IT) (b c : Nat) (I : IT) (n : Int) : Prop := (∀ j : Nat, (j : Int) < n → (I' b j).toInt = (I c j).toInt ∧ (I' c j).toInt = (I b j).toInt) ∧ ∀ j : Nat, n ≤ (j : Int) → I' b j = I b j ∧ I' c j = I c j
theorem SWD.z {I : IT} {b c : Nat} {n : Int} (h : n = 0) : SWD I b c I n := ⟨fun j hj => by omega, fun _ _ => ⟨rfl, rfl⟩⟩
theorem SWD.s {I I1 I2 I3 : IT} {b c : Nat} {x y k k' : Int32} {D : Int} (h : SWD I1 b c I k.toInt) (hbc : b ≠ c) (g : GTD x.toInt D (fun j => (I1 b j).toInt) k.toInt) (g2 : GTD y.toInt D (fun j => (I1 c j).toInt) k.toInt) (t : STD I1 I2 b k y) (t2 : STD I2 I3 c k x) (h0 : 0 ≤ k.toInt) (h1 : k.toInt ≤ D) (h2 : k.toInt < 41) (hk : k'.toInt = k.toInt + 1) : SWD I3 b c I k'.toInt := by
  have k1 := ncz h0
  have e2 := t.1 h0 h2
  have e3 := t2.1 h0 h2
  have gx := g.i h0 h1
  have gy := g2.i h0 h1
  have ob : ∀ j, I3 b j = I2 b j := fun j => by rw [e3]; exact congrFun (u2_r hbc) j
  have oc : ∀ j, I2 c j = I1 c j := fun j => by rw [e2]; exact congrFun (u2_r (Ne.symm hbc)) j
  refine ⟨fun j hj => ?_, fun j hj => ?_⟩
  · by_cases q : j = k.toNatClampNeg
    · subst q
      refine ⟨?_, ?_⟩
      · rw [ob, e2, u2_s, gy]
        show (I1 c _).toInt = _
        rw [(h.2 k.toNatClampNeg (by omega)).2]
      · rw [e3, u2_s, gx]
        show (I1 b _).toInt = _
        rw [(h.2 k.toNatClampNeg (by omega)).1]
    · have hj2 : (j : Int) < k.toInt := by omega
      refine ⟨?_, ?_⟩
      · rw [ob, e2, u2_k q]; exact (h.1 j hj2).1
      · rw [e3, u2_k q, oc]; exact (h.1 j hj2).2
  · have q : j ≠ k.toNatClampNeg := by omega
    refine ⟨?_, ?_⟩
    · rw [ob, e2, u2_k q]; exact (h.2 j (by omega)).1
    · rw [e3, u2_k q, oc]; exact (h.2 j (by omega)).2
def PKD (R : RT) (x : Option Nat) (r : Nat) (k : Int32) (n : Nat) : Prop := (0 ≤ k.toInt → k.toInt < (n : Int) → x = R r k.toNatClampNeg) ∧ ((k.toInt < 0 ∨ (n : Int) ≤ k.toInt) → x = none)
theorem PKD.r {R : RT} {r b n : Nat} {k : Int32} (h : R r k.toNatClampNeg = some b) (h0 : 0 ≤ k.toInt) (h1 : k.toInt < (n : Int)) : PKD R (some b) r k n := ⟨fun _ _ => h.symm, fun h => by omega⟩
theorem PKD.z {R : RT} {r n : Nat} {k : Int32} (h : k.toInt < 0 ∨ (n : Int) ≤ k.toInt) : PKD R none r k n := ⟨fun _ _ => by omega, fun _ => rfl⟩
theorem PKD.no {R : RT} {r n : Nat} {k : Int32} {P : Nat → Prop} (h : PKD R none r k n) (h0 : 0 ≤ k.toInt) (h1 : k.toInt < (n : Int)) (he : ∀ j, j < n → ∃ f, R r j = some f ∧ P f) : False := by
  obtain ⟨f, f1, -⟩ := he k.toNatClampNeg (ncn h0 h1)
  have := h.1 h0 h1
  rw [f1] at this
  cases this
theorem PKD.q {R : RT} {r n b : Nat} {k : Int32} (h : PKD R (some b) r k n) (h0 : 0 ≤ k.toInt) (h1 : k.toInt < (n : Int)) : R r k.toNatClampNeg = some b := (h.1 h0 h1).symm
theorem s_X2_get_x {d : Nat} {T N : Nat → Nat} {I : IT} {L : LT} {R : RT} {A B : Nat → Prop} {r0 : Nat} {n1 : Int32} (hS : SUB B A) (hI : IX A T I) (H_r0 : (hs_F T N R A B) r0) : Ex (d + 1) 10 [.ref r0, .int n1] (T, N, I, L, R) 0 0 (pI T N R (fun x9 I9 L9 => (GTD x9.toInt (I r0 0).toInt (fun k => (I (rA R r0 1) k).toInt) n1.toInt) ∧ (I = I9 ∧ L = L9))) := by
  refine ⟨_, rfl, Nat.le_of_ble_eq_true rfl, fun V C S => ?_⟩
  show V 0 [(0, .ref r0), (1, .int n1)] [] (T, N, I, L, R) 0 0
  have gn1 := rg n1
  obtain ⟨T_r0, A_r0, ⟨r0_1, R_r0_1, H_r0_1⟩⟩ := id H_r0
  have z_r0_1 : rA R r0 1 = r0_1 := rA_e R_r0_1
  obtain ⟨w_r0_0, k0_r0_0⟩ : ∃ x, I r0 0 = x := ⟨_, rfl⟩
  have gw_r0_0 := rg w_r0_0
  have ow_r0_0 := IX.deg hI A_r0 T_r0 k0_r0_0
  refine k_iload_n C rfl rfl rfl ?_
  refine b_if_lt C (t := 21) rfl rfl rfl (fun c1 => ?_) (fun c1 => ?_)
  · skip
    refine z_iconst C (z := 0) rfl rfl rfl (fun x2 ex2 => ?_)
    refine k_goto C (pc2 := 31) rfl rfl ?_
    exact k_iret C rfl (Or.inl rfl) (Nat.le_of_ble_eq_true rfl) (Nat.le_of_ble_eq_true rfl) ⟨_, _, _, rfl, rfl, by (try simp only [z_r0_1]); simp only [k0_r0_0]; first | exact GTD.r (by omega) (by omega) ex2 | exact GTD.z ex2 (by omega), rfl, rfl⟩
  refine k_iload_n C rfl rfl rfl ?_
  refine k_aload_n C rfl rfl rfl ?_
  refine g_I C rfl rfl rfl T_r0 rfl k0_r0_0 ?_
  refine b_icmp_gt C (t := 21) rfl rfl rfl (fun c3 => ?_) (fun c3 => ?_)
  · skip
    refine z_iconst C (z := 0) rfl rfl rfl (fun x4 ex4 => ?_)
    refine k_goto C (pc2 := 31) rfl rfl ?_
    exact k_iret C rfl (Or.inl rfl) (Nat.le_of_ble_eq_true rfl) (Nat.le_of_ble_eq_true rfl) ⟨_, _, _, rfl, rfl, by (try simp only [z_r0_1]); simp only [k0_r0_0]; first | exact GTD.r (by omega) (by omega) ex4 | exact GTD.z ex4 (by omega), rfl, rfl⟩
  refine k_iload_n C rfl rfl rfl ?_
  refine k_aload_n C rfl rfl rfl ?_
  refine g_R C rfl rfl rfl T_r0 rfl R_r0_1 ?_
  obtain ⟨T_r0_1, N_r0_1, A_r0_1⟩ := id H_r0_1
  refine z_len C (n := 41) rfl rfl (by rw [T_r0_1]; exact Nat.le_of_ble_eq_true rfl) N_r0_1 (Nat.le_of_ble_eq_true rfl) (fun x5 ex5 => ?_)
  refine b_icmp_lt C (t := 25) rfl rfl rfl (fun c6 => ?_) (fun c6 => by exfalso; omega)
  refine k_aload_n C rfl rfl rfl ?_
  refine g_R C rfl rfl rfl T_r0 rfl R_r0_1 ?_
  refine k_iload_n C rfl rfl rfl ?_
  refine z_aI C rfl rfl T_r0_1 N_r0_1 (by omega) (by omega) (fun x7 ex7 => ?_)
  have gx7 := rg x7
  exact k_iret C rfl (Or.inl rfl) (Nat.le_of_ble_eq_true rfl) (Nat.le_of_ble_eq_true rfl) ⟨_, _, _, rfl, rfl, by (try simp only [z_r0_1]); simp only [k0_r0_0]; first | exact GTD.r (by omega) (by omega) ex7 | exact GTD.z ex7 (by omega), rfl, rfl⟩

theorem s_X2_set_x {d : Nat} {T N : Nat → Nat} {I : IT} {L : LT} {R : RT} {A B : Nat → Prop} {r0 : Nat} {n1 n2 : Int32} (hS : SUB B A) (hI : IX A T I) (H_r0 : (hs_F T N R A B) r0) : Ex (d + 1) 12 [.ref r0, .int n1, .int n2] (T, N, I, L, R) 0 0 (pV T N R (fun I9 L9 => (STD I I9 (rA R r0 1) n1 n2) ∧ (IX A T I9 ∧ Chg (SL [(rA R r0 1)]) T [] I L I9 L9))) := by
  refine ⟨_, rfl, Nat.le_of_ble_eq_true rfl, fun V C S => ?_⟩
  show V 0 [(0, .ref r0), (1, .int n1), (2, .int n2)] [] (T, N, I, L, R) 0 0
  have gn1 := rg n1
  have gn2 := rg n2
  obtain ⟨T_r0, A_r0, ⟨r0_1, R_r0_1, H_r0_1⟩⟩ := id H_r0
  have z_r0_1 : rA R r0 1 = r0_1 := rA_e R_r0_1
  obtain ⟨T_r0_1, N_r0_1, A_r0_1⟩ := id H_r0_1
  refine k_iload_n C rfl rfl rfl ?_
  refine b_if_lt C (t := 20) rfl rfl rfl (fun c1 => ?_) (fun c1 => ?_)
  · skip
    exact k_vret C rfl rfl (Nat.le_of_ble_eq_true rfl) (Nat.le_of_ble_eq_true rfl) ⟨_, _, rfl, rfl, by (try simp only [z_r0_1]); first | exact STD.r hput (by omega) (by omega) | exact STD.z (by omega), hI, (by (try simp only [z_r0_1]); exact Chg.rf)⟩
  refine k_iload_n C rfl rfl rfl ?_
  refine k_aload_n C rfl rfl rfl ?_
  refine g_R C rfl rfl rfl T_r0 rfl R_r0_1 ?_
  refine z_len C (n := 41) rfl rfl (by rw [T_r0_1]; exact Nat.le_of_ble_eq_true rfl) N_r0_1 (Nat.le_of_ble_eq_true rfl) (fun x2 ex2 => ?_)
  refine b_icmp_ge C (t := 20) rfl rfl rfl (fun c3 => ?_) (fun c3 => ?_)
  · skip
    exact k_vret C rfl rfl (Nat.le_of_ble_eq_true rfl) (Nat.le_of_ble_eq_true rfl) ⟨_, _, rfl, rfl, by (try simp only [z_r0_1]); first | exact STD.r hput (by omega) (by omega) | exact STD.z (by omega), hI, (by (try simp only [z_r0_1]); exact Chg.rf)⟩
  refine k_aload_n C rfl rfl rfl ?_
  refine g_R C rfl rfl rfl T_r0 rfl R_r0_1 ?_
  refine k_iload_n C rfl rfl rfl ?_
  refine k_iload_n C rfl rfl rfl ?_
  refine z_sI C rfl rfl T_r0_1 N_r0_1 (by omega) (by omega) (fun I4 uI4 => ?_)
  have hI4 : IX A T I4 := IX.a hI T_r0_1 (Nat.le_of_ble_eq_true rfl) uI4
  have S5 : Chg (SL [r0_1]) T [] I L I4 L := Chg.a List.mem_cons_self T_r0_1 (Nat.le_of_ble_eq_true rfl) uI4
  have hput := uI4
  exact k_vret C rfl rfl (Nat.le_of_ble_eq_true rfl) (Nat.le_of_ble_eq_true rfl) ⟨_, _, rfl, rfl, by (try simp only [z_r0_1]); first | exact STD.r hput (by omega) (by omega) | exact STD.z (by omega), hI4, (by (try simp only [z_r0_1]); exact (Chg.mono (Chg.up S5 (List.forall_mem_cons.mpr ⟨List.mem_of_getElem? (i := 0) rfl, fun _ h => nomatch h⟩)) (by decide)))⟩

theorem s_J7_fill_53178_i41_x {d : Nat} {T N : Nat → Nat} {I : IT} {L : LT} {R : RT} {A B : Nat → Prop} {r0 : Nat} {n1 : Int32} (hS : SUB B A) (hI : IX A T I) (H_r0 : (h_A T N A 20 41) r0) : Ex (d + 1) 15 [.ref r0, .int n1] (T, N, I, L, R) 0 0 (pV T N R (fun I9 L9 => (AFL I9 r0 n1 (N r0)) ∧ (IX A T I9 ∧ Chg (SL [r0]) T [] I L I9 L9))) := by
  refine ⟨_, rfl, Nat.le_of_ble_eq_true rfl, fun V C S => ?_⟩
  show V 0 [(0, .ref r0), (1, .int n1)] [] (T, N, I, L, R) 0 0
  have gn1 := rg n1
  obtain ⟨T_r0, N_r0, A_r0⟩ := id H_r0
  refine z_iconst C (z := 0) rfl rfl rfl (fun x1 ex1 => ?_)
  refine k_istore_n C (lw := [(2, .int x1), (0, .ref r0), (1, .int n1)]) rfl rfl (Nat.le_of_ble_eq_true rfl) rfl ?_
  refine k_aload_n C rfl rfl rfl ?_
  refine z_len C (n := 41) rfl rfl (by rw [T_r0]; exact Nat.le_of_ble_eq_true rfl) N_r0 (Nat.le_of_ble_eq_true rfl) (fun x2 ex2 => ?_)
  have J3 : ∀ (nn4 : Nat) (I5 : IT) (L6 : LT) (x7 : Int32) (x10 : Int32), (MN (41 - x7.toInt) nn4) → (IX A T I5) → (Chg (SL [r0]) T [] I L I5 L6) → (0 ≤ x7.toInt) → (x7.toInt ≤ 41) → (41 ≤ x10.toInt) → (x10.toInt ≤ 41) → (AFL I5 r0 n1 x7.toInt) → V 5 [(0, .ref r0), (1, .int n1), (2, .int x7), (3, .int x10)] [] (T, N, I5, L6, R) 0 0 := by
    intro nn4
    induction nn4 using Nat.strongRecOn with
    | _ nn4 ihJ3 =>
      intro I5 L6 x7 x10 hmnn4 hI14 S13 b8 b9 b11 b12 ff5_0
      have gx7 := rg x7
      have gx10 := rg x10
      refine k_iload_n C rfl rfl rfl ?_
      refine k_iload_n C rfl rfl rfl ?_
      refine b_icmp_ge C (t := 20) rfl rfl rfl (fun c16 => ?_) (fun c16 => ?_)
      · skip
        exact k_vret C rfl rfl (Nat.le_of_ble_eq_true rfl) (Nat.le_of_ble_eq_true rfl) ⟨_, _, rfl, rfl, by (try simp only []); rw [N_r0]; exact AFL.le ff5_0 (by omega), hI14, (Chg.mono S13 (by decide))⟩
      refine k_aload_n C rfl rfl rfl ?_
      refine k_iload_n C rfl rfl rfl ?_
      refine k_iload_n C rfl rfl rfl ?_
      refine z_sI C rfl rfl T_r0 N_r0 (by omega) (by omega) (fun I17 uI17 => ?_)
      have hI17 : IX A T I17 := IX.a hI14 T_r0 (Nat.le_of_ble_eq_true rfl) uI17
      have S18 : Chg (SL [r0]) T [] I5 L6 I17 L6 := Chg.a List.mem_cons_self T_r0 (Nat.le_of_ble_eq_true rfl) uI17
      have hput := uI17
      refine z_iinc C (z := 1) (lw := fun x19 => [(2, .int x19), (0, .ref r0), (1, .int n1), (3, .int x10)]) rfl rfl rfl (Nat.le_of_ble_eq_true rfl) rfl ⟨by omega, by omega⟩ (fun _ => rfl) (fun x19 ex19 => ?_)
      show V 17 [(2, .int x19), (0, .ref r0), (1, .int n1), (3, .int x10)] _ _ _ _
      refine k_goto C (pc2 := 5) rfl rfl ?_
      refine k_sub S [(0, .ref r0), (1, .int n1), (2, .int x19), (3, .int x10)] (List.forall_mem_cons.mpr ⟨List.mem_of_getElem? (i := 1) rfl, List.forall_mem_cons.mpr ⟨List.mem_of_getElem? (i := 2) rfl, List.forall_mem_cons.mpr ⟨List.mem_of_getElem? (i := 0) rfl, List.forall_mem_cons.mpr ⟨List.mem_of_getElem? (i := 3) rfl, fun _ h => nomatch h⟩⟩⟩⟩) ?_
      exact ihJ3 _ (MN.lt hmnn4 (by omega) (by omega)) I17 L6 x19 x10 rfl hI17 (Chg.cons S13 (Chg.mono (Chg.up S18 (List.forall_mem_cons.mpr ⟨List.mem_of_getElem? (i := 0) rfl, fun _ h => nomatch h⟩)) (by decide)) (by decide)) (by omega) (by omega) (by omega) (by omega) (by exact AFL.s ff5_0 hput (by omega) (by omega))
  refine k_istore_n C (lw := [(3, .int x2), (2, .int x1), (0, .ref r0), (1, .int n1)]) rfl rfl (Nat.le_of_ble_eq_true rfl) rfl ?_
  refine k_sub S [(0, .ref r0), (1, .int n1), (2, .int x1), (3, .int x2)] (List.forall_mem_cons.mpr ⟨List.mem_of_getElem? (i := 2) rfl, List.forall_mem_cons.mpr ⟨List.mem_of_getElem? (i := 3) rfl, List.forall_mem_cons.mpr ⟨List.mem_of_getElem? (i := 1) rfl, List.forall_mem_cons.mpr ⟨List.mem_of_getElem? (i := 0) rfl, fun _ h => nomatch h⟩⟩⟩⟩) ?_
  exact J3 _ I L x1 x2 rfl hI Chg.rf (by omega) (by omega) (by omega) (by omega) (by exact AFL.z (by omega))

theorem s_X2_begin_x {d : Nat} {T N : Nat → Nat} {I : IT} {L : LT} {R : RT} {A B : Nat → Prop} {r0 : Nat} {n1 : Int32} (hS : SUB B A) (hI : IX A T I) (H_r0 : (hs_F T N R A B) r0) : Ex (d + 2) 16 [.ref r0, .int n1] (T, N, I, L, R) 0 0 (pV T N R (fun I9 L9 => (CLD (I9 r0 0).toInt n1.toInt) ∧ (∀ j : Nat, j < 41 → (I9 (rA R r0 1) j).toInt = 0) ∧ (IX A T I9 ∧ Chg (SL [r0, (rA R r0 1)]) T [(3, 0)] I L I9 L9))) := by
  refine ⟨_, rfl, Nat.le_of_ble_eq_true rfl, fun V C S => ?_⟩
  show V 0 [(0, .ref r0), (1, .int n1)] [] (T, N, I, L, R) 0 0
  have gn1 := rg n1
  obtain ⟨T_r0, A_r0, ⟨r0_1, R_r0_1, H_r0_1⟩⟩ := id H_r0
  have z_r0_1 : rA R r0 1 = r0_1 := rA_e R_r0_1
  obtain ⟨T_r0_1, N_r0_1, A_r0_1⟩ := id H_r0_1
  refine k_aload_n C rfl rfl rfl ?_
  refine k_iload_n C rfl rfl rfl ?_
  refine b_if_ge C (t := 9) rfl rfl rfl (fun c1 => ?_) (fun c1 => ?_)
  · skip
    refine k_iload_n C rfl rfl rfl ?_
    refine z_bipush C (z := 40) rfl rfl rfl (fun x2 ex2 => ?_)
    refine b_icmp_le C (t := 20) rfl rfl rfl (fun c3 => ?_) (fun c3 => ?_)
    · skip
      refine k_iload_n C rfl rfl rfl ?_
      refine z_pI C rfl rfl rfl T_r0 (Or.inr rfl) rfl (fun I4 uI4 => ?_)
      have hI4 : IX A T I4 := IX.f hI T_r0 ⟨fun _ _ => ⟨by omega, by omega⟩, fun h => absurd h (by decide)⟩ uI4
      have S5 : Chg (SL [r0]) T [(3, 0)] I L I4 L := Chg.f List.mem_cons_self T_r0 uI4
      have e6 := u2_e uI4
      refine k_aload_n C rfl rfl rfl ?_
      refine g_R C rfl rfl rfl T_r0 rfl R_r0_1 ?_
      refine z_iconst C (z := 0) rfl rfl rfl (fun x7 ex7 => ?_)
      refine c_SV C (s_J7_fill_53178_i41_x hS hI4 H_r0_1) rfl rfl rfl rfl rfl rfl rfl (Nat.le_of_ble_eq_true rfl) (Nat.le_of_ble_eq_true rfl) (Nat.le_of_ble_eq_true rfl) ?_
      rintro I9 L10 ⟨p0v8, hI9, S11⟩
      try simp only [z_r0_1] at S11
      have e12 := Chg.k S11 T_r0 (by decide) (by decide) e6
      try simp only [z_r0_1] at p0v8
      try simp only [e6] at p0v8
      try have q0v8 := congrArg Int32.toInt p0v8
      have hfill := p0v8; rw [N_r0_1] at hfill
      exact k_vret C rfl rfl (Nat.le_of_ble_eq_true rfl) (Nat.le_of_ble_eq_true rfl) ⟨_, _, rfl, rfl, by (try simp only [z_r0_1]); simp only [e12]; exact ⟨fun _ => by omega, fun _ => by omega, fun _ _ => by omega⟩, by (try simp only [z_r0_1]); intro j hj; rw [hfill j (by omega)]; omega, hI9, (by (try simp only [z_r0_1]); exact (Chg.cons (Chg.up S5 (List.forall_mem_cons.mpr ⟨List.mem_of_getElem? (i := 0) rfl, fun _ h => nomatch h⟩)) (Chg.mono (Chg.up S11 (List.forall_mem_cons.mpr ⟨List.mem_of_getElem? (i := 1) rfl, fun _ h => nomatch h⟩)) (by decide)) (by decide)))⟩
    refine z_bipush C (z := 40) rfl rfl rfl (fun x13 ex13 => ?_)
    refine k_goto C (pc2 := 21) rfl rfl ?_
    refine z_pI C rfl rfl rfl T_r0 (Or.inr rfl) rfl (fun I14 uI14 => ?_)
    have hI14 : IX A T I14 := IX.f hI T_r0 ⟨fun _ _ => ⟨by omega, by omega⟩, fun h => absurd h (by decide)⟩ uI14
    have S15 : Chg (SL [r0]) T [(3, 0)] I L I14 L := Chg.f List.mem_cons_self T_r0 uI14
    have e16 := u2_e uI14
    refine k_aload_n C rfl rfl rfl ?_
    refine g_R C rfl rfl rfl T_r0 rfl R_r0_1 ?_
    refine z_iconst C (z := 0) rfl rfl rfl (fun x17 ex17 => ?_)
    refine c_SV C (s_J7_fill_53178_i41_x hS hI14 H_r0_1) rfl rfl rfl rfl rfl rfl rfl (Nat.le_of_ble_eq_true rfl) (Nat.le_of_ble_eq_true rfl) (Nat.le_of_ble_eq_true rfl) ?_
    rintro I19 L20 ⟨p0v18, hI19, S21⟩
    try simp only [z_r0_1] at S21
    have e22 := Chg.k S21 T_r0 (by decide) (by decide) e16
    try simp only [z_r0_1] at p0v18
    try simp only [e16] at p0v18
    try have q0v18 := congrArg Int32.toInt p0v18
    have hfill := p0v18; rw [N_r0_1] at hfill
    exact k_vret C rfl rfl (Nat.le_of_ble_eq_true rfl) (Nat.le_of_ble_eq_true rfl) ⟨_, _, rfl, rfl, by (try simp only [z_r0_1]); simp only [e22]; exact ⟨fun _ => by omega, fun _ => by omega, fun _ _ => by omega⟩, by (try simp only [z_r0_1]); intro j hj; rw [hfill j (by omega)]; omega, hI19, (by (try simp only [z_r0_1]); exact (Chg.cons (Chg.up S15 (List.forall_mem_cons.mpr ⟨List.mem_of_getElem? (i := 0) rfl, fun _ h => nomatch h⟩)) (Chg.mono (Chg.up S21 (List.forall_mem_cons.mpr ⟨List.mem_of_getElem? (i := 1) rfl, fun _ h => nomatch h⟩)) (by decide)) (by decide)))⟩
  refine z_iconst C (z := 0) rfl rfl rfl (fun x23 ex23 => ?_)
  refine k_goto C (pc2 := 21) rfl rfl ?_
  refine z_pI C rfl rfl rfl T_r0 (Or.inr rfl) rfl (fun I24 uI24 => ?_)
  have hI24 : IX A T I24 := IX.f hI T_r0 ⟨fun _ _ => ⟨by omega, by omega⟩, fun h => absurd h (by decide)⟩ uI24
  have S25 : Chg (SL [r0]) T [(3, 0)] I L I24 L := Chg.f List.mem_cons_self T_r0 uI24
  have e26 := u2_e uI24
  refine k_aload_n C rfl rfl rfl ?_
  refine g_R C rfl rfl rfl T_r0 rfl R_r0_1 ?_
  refine z_iconst C (z := 0) rfl rfl rfl (fun x27 ex27 => ?_)
  refine c_SV C (s_J7_fill_53178_i41_x hS hI24 H_r0_1) rfl rfl rfl rfl rfl rfl rfl (Nat.le_of_ble_eq_true rfl) (Nat.le_of_ble_eq_true rfl) (Nat.le_of_ble_eq_true rfl) ?_
  rintro I29 L30 ⟨p0v28, hI29, S31⟩
  try simp only [z_r0_1] at S31
  have e32 := Chg.k S31 T_r0 (by decide) (by decide) e26
  try simp only [z_r0_1] at p0v28
  try simp only [e26] at p0v28
  try have q0v28 := congrArg Int32.toInt p0v28
  have hfill := p0v28; rw [N_r0_1] at hfill
  exact k_vret C rfl rfl (Nat.le_of_ble_eq_true rfl) (Nat.le_of_ble_eq_true rfl) ⟨_, _, rfl, rfl, by (try simp only [z_r0_1]); simp only [e32]; exact ⟨fun _ => by omega, fun _ => by omega, fun _ _ => by omega⟩, by (try simp only [z_r0_1]); intro j hj; rw [hfill j (by omega)]; omega, hI29, (by (try simp only [z_r0_1]); exact (Chg.cons (Chg.up S25 (List.forall_mem_cons.mpr ⟨List.mem_of_getElem? (i := 0) rfl, fun _ h => nomatch h⟩)) (Chg.mono (Chg.up S31 (List.forall_mem_cons.mpr ⟨List.mem_of_getElem? (i := 1) rfl, fun _ h => nomatch h⟩)) (by decide)) (by decide)))⟩

theorem s_X2_copyFrom_x {d : Nat} {T N : Nat → Nat} {I : IT} {L : LT} {R : RT} {A B : Nat → Prop} {r0 r1 : Nat} (hS : SUB B A) (hI : IX A T I) (H_r0 : (hs_F T N R A B) r0) (H_r1 : (hs_F T N R A B) r1) (hp0 : r0 ≠ r1) (hp1 : rA R r0 1 ≠ rA R r1 1) : Ex (d + 2) 24 [.ref r0, .ref r1] (T, N, I, L, R) 0 0 (pV T N R (fun I9 L9 => (FEQ R I9 r0 I r1) ∧ (IX A T I9 ∧ Chg (SL [r0, (rA R r0 1)]) T [(3, 0)] I L I9 L9))) := by
  refine ⟨_, rfl, Nat.le_of_ble_eq_true rfl, fun V C S => ?_⟩
  show V 0 [(0, .ref r0), (1, .ref r1)] [] (T, N, I, L, R) 0 0
  obtain ⟨T_r0, A_r0, ⟨r0_1, R_r0_1, H_r0_1⟩⟩ := id H_r0
  have z_r0_1 : rA R r0 1 = r0_1 := rA_e R_r0_1
  obtain ⟨T_r1, A_r1, ⟨r1_1, R_r1_1, H_r1_1⟩⟩ := id H_r1
  have z_r1_1 : rA R r1 1 = r1_1 := rA_e R_r1_1
  obtain ⟨T_r0_1, N_r0_1, A_r0_1⟩ := id H_r0_1
  obtain ⟨T_r1_1, N_r1_1, A_r1_1⟩ := id H_r1_1
  try simp only [z_r0_1, z_r1_1] at hp0
  try simp only [z_r0_1, z_r1_1] at hp1
  obtain ⟨w_r0_0, k0_r0_0⟩ : ∃ x, I r0 0 = x := ⟨_, rfl⟩
  have gw_r0_0 := rg w_r0_0
  have ow_r0_0 := IX.deg hI A_r0 T_r0 k0_r0_0
  obtain ⟨w_r1_0, k0_r1_0⟩ : ∃ x, I r1 0 = x := ⟨_, rfl⟩
  have gw_r1_0 := rg w_r1_0
  have ow_r1_0 := IX.deg hI A_r1 T_r1 k0_r1_0
  try simp only [k0_r0_0, k0_r1_0] at hp0
  try simp only [k0_r0_0, k0_r1_0] at hp1
  refine k_aload_n C rfl rfl rfl ?_
  refine k_aload_n C rfl rfl rfl ?_
  refine g_I C rfl rfl rfl T_r1 rfl k0_r1_0 ?_
  refine z_pI C rfl rfl rfl T_r0 (Or.inr rfl) rfl (fun I1 uI1 => ?_)
  have hI1 : IX A T I1 := IX.f hI T_r0 ⟨fun _ _ => ⟨by omega, by omega⟩, fun h => absurd h (by decide)⟩ uI1
  have S2 : Chg (SL [r0]) T [(3, 0)] I L I1 L := Chg.f List.mem_cons_self T_r0 uI1
  have e3 := u2_n uI1 (by first | exact hp0 | exact fun e => hp0 e.symm) k0_r1_0
  have e4 := u2_e uI1
  refine z_iconst C (z := 0) rfl rfl rfl (fun x5 ex5 => ?_)
  have J6 : ∀ (nn7 : Nat) (I8 : IT) (L9 : LT) (x10 : Int32) (x15 : Int32) (x19 : Int32), (MN (41 - x10.toInt) nn7) → (IX A T I8) → (Chg (SL [r0, r0_1]) T [] I1 L I8 L9) → (0 ≤ x10.toInt) → (x10.toInt ≤ 41) → (I8 r0 0 = x15) → (0 ≤ x15.toInt) → (x15.toInt ≤ 40) → (I8 r1 0 = x19) → (0 ≤ x19.toInt) → (x19.toInt ≤ 40) → (CPR I8 r0_1 I r1_1 x10.toInt) → (x15.toInt = w_r1_0.toInt) → (x19.toInt = w_r1_0.toInt) → V 10 [(0, .ref r0), (1, .ref r1), (2, .int x10)] [] (T, N, I8, L9, R) 0 0 := by
    intro nn7
    induction nn7 using Nat.strongRecOn with
    | _ nn7 ihJ6 =>
      intro I8 L9 x10 x15 x19 hmnn7 hI14 S13 b11 b12 e16 b17 b18 e20 b21 b22 ff10_0 ff10_1 ff10_2
      have gx10 := rg x10
      have gx15 := rg x15
      have gx19 := rg x19
      have e26 := Chg.k S13 T_r1 (by decide) (by decide) e3
      have e27 := Chg.k S13 T_r0 (by decide) (by decide) e4
      refine k_iload_n C rfl rfl rfl ?_
      refine k_aload_n C rfl rfl rfl ?_
      refine g_I C rfl rfl rfl T_r0 rfl e16 ?_
      refine b_icmp_gt C (t := 34) rfl rfl rfl (fun c28 => ?_) (fun c28 => ?_)
      · skip
        exact k_vret C rfl rfl (Nat.le_of_ble_eq_true rfl) (Nat.le_of_ble_eq_true rfl) ⟨_, _, rfl, rfl, by (try simp only [z_r0_1, z_r1_1]); exact FEQ.c (D := w_r1_0.toInt) (by rw [e16]; omega) (by rw [k0_r1_0]) ff10_0 (by omega) z_r0_1 z_r1_1, hI14, (by (try simp only [z_r0_1, z_r1_1]); exact (Chg.cons (Chg.up S2 (List.forall_mem_cons.mpr ⟨List.mem_of_getElem? (i := 0) rfl, fun _ h => nomatch h⟩)) (Chg.mono S13 (by decide)) (by decide)))⟩
      refine k_aload_n C rfl rfl rfl ?_
      refine k_iload_n C rfl rfl rfl ?_
      refine k_aload_n C rfl rfl rfl ?_
      refine k_iload_n C rfl rfl rfl ?_
      refine c_VI C (s_X2_get_x hS hI14 H_r1) rfl rfl rfl rfl rfl ⟨_, rfl, rfl, T_r1, Nat.le_of_ble_eq_true rfl⟩ rfl rfl (Nat.le_of_ble_eq_true rfl) (Nat.le_of_ble_eq_true rfl) (Nat.le_of_ble_eq_true rfl) ?_
      rintro x29 _ _ ⟨p0x29, rfl, rfl⟩
      have gx29 := rg x29
      try simp only [z_r0_1, z_r1_1] at p0x29
      try simp only [e20, e16] at p0x29
      try have q0x29 := congrArg Int32.toInt p0x29
      have hget := p0x29; (try simp only [e20] at hget); have hq1 := (Chg.at ((Chg.cons (Chg.up S2 (List.forall_mem_cons.mpr ⟨List.mem_of_getElem? (i := 0) rfl, fun _ h => nomatch h⟩)) (Chg.mono S13 (by decide)) (by decide)) : Chg (SL [r0, r0_1]) T [(3, 0)] I L I8 L9) (nm_2 (t_nq T_r1_1 T_r0 (by decide)) (by first | exact hp1 | exact fun e => hp1 e.symm)))
      refine c_VV C (s_X2_set_x hS hI14 H_r0) rfl rfl rfl rfl rfl ⟨_, rfl, rfl, T_r0, Nat.le_of_ble_eq_true rfl⟩ rfl rfl (Nat.le_of_ble_eq_true rfl) (Nat.le_of_ble_eq_true rfl) (Nat.le_of_ble_eq_true rfl) ?_
      rintro I31 L32 ⟨p0v30, hI31, S33⟩
      try simp only [z_r0_1, z_r1_1] at S33
      have e34 := Chg.k S33 T_r1 (by decide) (by decide) e20
      have e35 := Chg.k S33 T_r0 (by decide) (by decide) e16
      try simp only [z_r0_1, z_r1_1] at p0v30
      try simp only [e20, e16] at p0v30
      try have q0v30 := congrArg Int32.toInt p0v30
      have hset := p0v30
      refine z_iinc C (z := 1) (lw := fun x36 => [(2, .int x36), (0, .ref r0), (1, .ref r1)]) rfl rfl rfl (Nat.le_of_ble_eq_true rfl) rfl ⟨by omega, by omega⟩ (fun _ => rfl) (fun x36 ex36 => ?_)
      show V 31 [(2, .int x36), (0, .ref r0), (1, .ref r1)] _ _ _ _
      refine k_goto C (pc2 := 10) rfl rfl ?_
      refine k_sub S [(0, .ref r0), (1, .ref r1), (2, .int x36)] (List.forall_mem_cons.mpr ⟨List.mem_of_getElem? (i := 1) rfl, List.forall_mem_cons.mpr ⟨List.mem_of_getElem? (i := 2) rfl, List.forall_mem_cons.mpr ⟨List.mem_of_getElem? (i := 0) rfl, fun _ h => nomatch h⟩⟩⟩) ?_
      exact ihJ6 _ (MN.lt hmnn7 (by omega) (by omega)) I31 L32 x36 x15 x19 rfl hI31 (Chg.cons S13 (Chg.mono (Chg.up S33 (List.forall_mem_cons.mpr ⟨List.mem_of_getElem? (i := 1) rfl, fun _ h => nomatch h⟩)) (by decide)) (by decide)) (by omega) (by omega) e35 (by omega) (by omega) e34 (by omega) (by omega) (by exact CPR.s ff10_0 hget hq1 hset (by omega) (by omega) (by omega) (by omega)) (by omega) (by omega)
  refine k_istore_n C (lw := [(2, .int x5), (0, .ref r0), (1, .ref r1)]) rfl rfl (Nat.le_of_ble_eq_true rfl) rfl ?_
  refine k_sub S [(0, .ref r0), (1, .ref r1), (2, .int x5)] (List.forall_mem_cons.mpr ⟨List.mem_of_getElem? (i := 1) rfl, List.forall_mem_cons.mpr ⟨List.mem_of_getElem? (i := 2) rfl, List.forall_mem_cons.mpr ⟨List.mem_of_getElem? (i := 0) rfl, fun _ h => nomatch h⟩⟩⟩) ?_
  exact J6 _ I1 L x5 w_r1_0 w_r1_0 rfl hI1 Chg.rf (by omega) (by omega) e4 (by omega) (by omega) e3 (by omega) (by omega) (by exact CPR.z (by omega)) (by omega) (by omega)

theorem s_X2_pick_Row40_x {d : Nat} {T N : Nat → Nat} {I : IT} {L : LT} {R : RT} {A B : Nat → Prop} {r0 : Nat} {n1 : Int32} (hS : SUB B A) (hI : IX A T I) (H_r0 : (hs_Row40 T N R A B) r0) : Ex (d + 1) 36 [.ref r0, .int n1] (T, N, I, L, R) 0 0 (pR T N R (fun x9 I9 L9 => (∀ b, x9 = some b → (hs_F T N R A B) b) ∧ (PKD R x9 r0 n1 (N r0)) ∧ (I = I9 ∧ L = L9))) := by
  refine ⟨_, rfl, Nat.le_of_ble_eq_true rfl, fun V C S => ?_⟩
  show V 0 [(0, .ref r0), (1, .int n1)] [] (T, N, I, L, R) 0 0
  have gn1 := rg n1
  obtain ⟨T_r0, N_r0, A_r0, E_r0⟩ := id H_r0
  refine k_iload_n C rfl rfl rfl ?_
  refine b_if_lt C (t := 10) rfl rfl rfl (fun c1 => ?_) (fun c1 => ?_)
  · skip
    refine k_null C rfl rfl ?_
    refine k_goto C (pc2 := 17) rfl rfl ?_
    exact k_aret C (x := none) rfl (Or.inl ⟨_, rfl⟩) (Nat.le_of_ble_eq_true rfl) (Nat.le_of_ble_eq_true rfl) ⟨_, _, _, rfl, rfl, fz, by rw [N_r0]; first | exact PKD.r Q_none (by omega) (by omega) | exact PKD.z (by omega), rfl, rfl⟩
  refine k_iload_n C rfl rfl rfl ?_
  refine k_aload_n C rfl rfl rfl ?_
  refine z_len C (n := 40) rfl rfl (by rw [T_r0]; exact Nat.le_of_ble_eq_true rfl) N_r0 (Nat.le_of_ble_eq_true rfl) (fun x2 ex2 => ?_)
  refine b_icmp_lt C (t := 14) rfl rfl rfl (fun c3 => ?_) (fun c3 => ?_)
  · skip
    refine k_aload_n C rfl rfl rfl ?_
    refine k_iload_n C rfl rfl rfl ?_
    refine z_aRe C (t := 0) rfl rfl (Nat.le_of_ble_eq_true rfl) T_r0 N_r0 E_r0 (by omega) (by omega) (fun rr4 Q_rr4 H_rr4 => ?_)
    exact k_aret C (x := some _) rfl (Or.inl ⟨_, rfl⟩) (Nat.le_of_ble_eq_true rfl) (Nat.le_of_ble_eq_true rfl) ⟨_, _, _, rfl, rfl, fb H_rr4, by rw [N_r0]; first | exact PKD.r Q_rr4 (by omega) (by omega) | exact PKD.z (by omega), rfl, rfl⟩
  refine k_null C rfl rfl ?_
  refine k_goto C (pc2 := 17) rfl rfl ?_
  exact k_aret C (x := none) rfl (Or.inl ⟨_, rfl⟩) (Nat.le_of_ble_eq_true rfl) (Nat.le_of_ble_eq_true rfl) ⟨_, _, _, rfl, rfl, fz, by rw [N_r0]; first | exact PKD.r Q_none (by omega) (by omega) | exact PKD.z (by omega), rfl, rfl⟩

theorem s_X2_swapWith_x {d : Nat} {T N : Nat → Nat} {I : IT} {L : LT} {R : RT} {A B : Nat → Prop} {r0 r1 : Nat} (hS : SUB B A) (hI : IX A T I) (H_r0 : (hs_F T N R A B) r0) (H_r1 : (hs_F T N R A B) r1) (hp0 : rA R r0 1 ≠ rA R r1 1) (hp1 : (I r0 0).toInt = (I r1 0).toInt) : Ex (d + 2) 45 [.ref r0, .ref r1] (T, N, I, L, R) 0 0 (pV T N R (fun I9 L9 => (SWD I9 (rA R r0 1) (rA R r1 1) I ((I r0 0).toInt + 1)) ∧ (IX A T I9 ∧ Chg (SL [(rA R r0 1), (rA R r1 1)]) T [] I L I9 L9))) := by
  refine ⟨_, rfl, Nat.le_of_ble_eq_true rfl, fun V C S => ?_⟩
  show V 0 [(0, .ref r0), (1, .ref r1)] [] (T, N, I, L, R) 0 0
  obtain ⟨T_r0, A_r0, ⟨r0_1, R_r0_1, H_r0_1⟩⟩ := id H_r0
  have z_r0_1 : rA R r0 1 = r0_1 := rA_e R_r0_1
  obtain ⟨T_r1, A_r1, ⟨r1_1, R_r1_1, H_r1_1⟩⟩ := id H_r1
  have z_r1_1 : rA R r1 1 = r1_1 := rA_e R_r1_1
  obtain ⟨T_r0_1, N_r0_1, A_r0_1⟩ := id H_r0_1
  obtain ⟨T_r1_1, N_r1_1, A_r1_1⟩ := id H_r1_1
  try simp only [z_r0_1, z_r1_1] at hp0
  try simp only [z_r0_1, z_r1_1] at hp1
  obtain ⟨w_r0_0, k0_r0_0⟩ : ∃ x, I r0 0 = x := ⟨_, rfl⟩
  have gw_r0_0 := rg w_r0_0
  have ow_r0_0 := IX.deg hI A_r0 T_r0 k0_r0_0
  obtain ⟨w_r1_0, k0_r1_0⟩ : ∃ x, I r1 0 = x := ⟨_, rfl⟩
  have gw_r1_0 := rg w_r1_0
  have ow_r1_0 := IX.deg hI A_r1 T_r1 k0_r1_0
  try simp only [k0_r0_0, k0_r1_0] at hp0
  try simp only [k0_r0_0, k0_r1_0] at hp1
  refine z_iconst C (z := 0) rfl rfl rfl (fun x1 ex1 => ?_)
  have J2 : ∀ (nn3 : Nat) (I4 : IT) (L5 : LT) (x6 : Int32), (MN (41 - x6.toInt) nn3) → (IX A T I4) → (Chg (SL [r0_1, r1_1]) T [] I L I4 L5) → (0 ≤ x6.toInt) → (x6.toInt ≤ 41) → (SWD I4 r0_1 r1_1 I x6.toInt) → (x6.toInt ≤ w_r0_0.toInt + 1) → V 2 [(0, .ref r0), (1, .ref r1), (2, .int x6)] [] (T, N, I4, L5, R) 0 0 := by
    intro nn3
    induction nn3 using Nat.strongRecOn with
    | _ nn3 ihJ2 =>
      intro I4 L5 x6 hmnn3 hI10 S9 b7 b8 ff2_0 ff2_1
      have gx6 := rg x6
      have e13 := Chg.k S9 T_r0 (by decide) (by decide) k0_r0_0
      have e14 := Chg.k S9 T_r1 (by decide) (by decide) k0_r1_0
      refine k_iload_n C rfl rfl rfl ?_
      refine k_aload_n C rfl rfl rfl ?_
      refine g_I C rfl rfl rfl T_r0 rfl e13 ?_
      refine b_icmp_gt C (t := 38) rfl rfl rfl (fun c15 => ?_) (fun c15 => ?_)
      · skip
        exact k_vret C rfl rfl (Nat.le_of_ble_eq_true rfl) (Nat.le_of_ble_eq_true rfl) ⟨_, _, rfl, rfl, by (try simp only [z_r0_1, z_r1_1]); simp only [k0_r0_0]; have e9 : x6.toInt = w_r0_0.toInt + 1 := (by omega); rw [← e9]; exact ff2_0, hI10, (by (try simp only [z_r0_1, z_r1_1]); exact (Chg.mono S9 (by decide)))⟩
      refine k_aload_n C rfl rfl rfl ?_
      refine k_iload_n C rfl rfl rfl ?_
      refine c_VI C (s_X2_get_x hS hI10 H_r0) rfl rfl rfl rfl rfl ⟨_, rfl, rfl, T_r0, Nat.le_of_ble_eq_true rfl⟩ rfl rfl (Nat.le_of_ble_eq_true rfl) (Nat.le_of_ble_eq_true rfl) (Nat.le_of_ble_eq_true rfl) ?_
      rintro x16 _ _ ⟨p0x16, rfl, rfl⟩
      have gx16 := rg x16
      try simp only [z_r0_1, z_r1_1] at p0x16
      try simp only [e13, e14] at p0x16
      try have q0x16 := congrArg Int32.toInt p0x16
      have hg1 := p0x16; (try simp only [e13] at hg1)
      refine k_istore_n C (lw := [(3, .int x16), (0, .ref r0), (1, .ref r1), (2, .int x6)]) rfl rfl (Nat.le_of_ble_eq_true rfl) rfl ?_
      refine k_aload_n C rfl rfl rfl ?_
      refine k_iload_n C rfl rfl rfl ?_
      refine k_aload_n C rfl rfl rfl ?_
      refine k_iload_n C rfl rfl rfl ?_
      refine c_VI C (s_X2_get_x hS hI10 H_r1) rfl rfl rfl rfl rfl ⟨_, rfl, rfl, T_r1, Nat.le_of_ble_eq_true rfl⟩ rfl rfl (Nat.le_of_ble_eq_true rfl) (Nat.le_of_ble_eq_true rfl) (Nat.le_of_ble_eq_true rfl) ?_
      rintro x17 _ _ ⟨p0x17, rfl, rfl⟩
      have gx17 := rg x17
      try simp only [z_r0_1, z_r1_1] at p0x17
      try simp only [e13, e14] at p0x17
      try have q0x17 := congrArg Int32.toInt p0x17
      have hg2 := p0x17; (try simp only [e14] at hg2); have hd9 : w_r1_0.toInt = w_r0_0.toInt := (by omega); rw [hd9] at hg2
      refine c_VV C (s_X2_set_x hS hI10 H_r0) rfl rfl rfl rfl rfl ⟨_, rfl, rfl, T_r0, Nat.le_of_ble_eq_true rfl⟩ rfl rfl (Nat.le_of_ble_eq_true rfl) (Nat.le_of_ble_eq_true rfl) (Nat.le_of_ble_eq_true rfl) ?_
      rintro I19 L20 ⟨p0v18, hI19, S21⟩
      try simp only [z_r0_1, z_r1_1] at S21
      have e22 := Chg.k S21 T_r0 (by decide) (by decide) e13
      have e23 := Chg.k S21 T_r1 (by decide) (by decide) e14
      try simp only [z_r0_1, z_r1_1] at p0v18
      try simp only [e13, e14] at p0v18
      try have q0v18 := congrArg Int32.toInt p0v18
      have hs1 := p0v18
      refine k_aload_n C rfl rfl rfl ?_
      refine k_iload_n C rfl rfl rfl ?_
      refine k_iload_n C rfl rfl rfl ?_
      refine c_VV C (s_X2_set_x hS hI19 H_r1) rfl rfl rfl rfl rfl ⟨_, rfl, rfl, T_r1, Nat.le_of_ble_eq_true rfl⟩ rfl rfl (Nat.le_of_ble_eq_true rfl) (Nat.le_of_ble_eq_true rfl) (Nat.le_of_ble_eq_true rfl) ?_
      rintro I25 L26 ⟨p0v24, hI25, S27⟩
      try simp only [z_r0_1, z_r1_1] at S27
      have e28 := Chg.k S27 T_r0 (by decide) (by decide) e22
      have e29 := Chg.k S27 T_r1 (by decide) (by decide) e23
      try simp only [z_r0_1, z_r1_1] at p0v24
      try simp only [e22, e23] at p0v24
      try have q0v24 := congrArg Int32.toInt p0v24
      have hs2 := p0v24
      refine z_iinc C (z := 1) (lw := fun x30 => [(2, .int x30), (3, .int x16), (0, .ref r0), (1, .ref r1)]) rfl rfl rfl (Nat.le_of_ble_eq_true rfl) rfl ⟨by omega, by omega⟩ (fun _ => rfl) (fun x30 ex30 => ?_)
      show V 35 [(2, .int x30), (3, .int x16), (0, .ref r0), (1, .ref r1)] _ _ _ _
      refine k_goto C (pc2 := 2) rfl rfl ?_
      refine k_sub S [(0, .ref r0), (1, .ref r1), (2, .int x30)] (List.forall_mem_cons.mpr ⟨List.mem_of_getElem? (i := 2) rfl, List.forall_mem_cons.mpr ⟨List.mem_of_getElem? (i := 3) rfl, List.forall_mem_cons.mpr ⟨List.mem_of_getElem? (i := 0) rfl, fun _ h => nomatch h⟩⟩⟩) ?_
      exact ihJ2 _ (MN.lt hmnn3 (by omega) (by omega)) I25 L26 x30 rfl hI25 (Chg.cons S9 (Chg.cons (Chg.up S21 (List.forall_mem_cons.mpr ⟨List.mem_of_getElem? (i := 0) rfl, fun _ h => nomatch h⟩)) (Chg.mono (Chg.up S27 (List.forall_mem_cons.mpr ⟨List.mem_of_getElem? (i := 1) rfl, fun _ h => nomatch h⟩)) (by decide)) (by decide)) (by decide)) (by omega) (by omega) (by exact SWD.s ff2_0 hp0 hg1 hg2 hs1 hs2 (by omega) (by omega) (by omega) (by omega)) (by omega)
  refine k_istore_n C (lw := [(2, .int x1), (0, .ref r0), (1, .ref r1)]) rfl rfl (Nat.le_of_ble_eq_true rfl) rfl ?_
  refine k_sub S [(0, .ref r0), (1, .ref r1), (2, .int x1)] (List.forall_mem_cons.mpr ⟨List.mem_of_getElem? (i := 1) rfl, List.forall_mem_cons.mpr ⟨List.mem_of_getElem? (i := 2) rfl, List.forall_mem_cons.mpr ⟨List.mem_of_getElem? (i := 0) rfl, fun _ h => nomatch h⟩⟩⟩) ?_
  exact J2 _ I L x1 rfl hI Chg.rf (by omega) (by omega) (by exact SWD.z (by omega)) (by omega)

theorem s_X2_pick_Row16_x {d : Nat} {T N : Nat → Nat} {I : IT} {L : LT} {R : RT} {A B : Nat → Prop} {r0 : Nat} {n1 : Int32} (hS : SUB B A) (hI : IX A T I) (H_r0 : (hs_Row16 T N R A B) r0) : Ex (d + 1) 36 [.ref r0, .int n1] (T, N, I, L, R) 0 0 (pR T N R (fun x9 I9 L9 => (∀ b, x9 = some b → (hs_F T N R A B) b) ∧ (PKD R x9 r0 n1 (N r0)) ∧ (I = I9 ∧ L = L9))) := by
  refine ⟨_, rfl, Nat.le_of_ble_eq_true rfl, fun V C S => ?_⟩
  show V 0 [(0, .ref r0), (1, .int n1)] [] (T, N, I, L, R) 0 0
  have gn1 := rg n1
  obtain ⟨T_r0, N_r0, A_r0, E_r0⟩ := id H_r0
  refine k_iload_n C rfl rfl rfl ?_
  refine b_if_lt C (t := 10) rfl rfl rfl (fun c1 => ?_) (fun c1 => ?_)
  · skip
    refine k_null C rfl rfl ?_
    refine k_goto C (pc2 := 17) rfl rfl ?_
    exact k_aret C (x := none) rfl (Or.inl ⟨_, rfl⟩) (Nat.le_of_ble_eq_true rfl) (Nat.le_of_ble_eq_true rfl) ⟨_, _, _, rfl, rfl, fz, by rw [N_r0]; first | exact PKD.r Q_none (by omega) (by omega) | exact PKD.z (by omega), rfl, rfl⟩
  refine k_iload_n C rfl rfl rfl ?_
  refine k_aload_n C rfl rfl rfl ?_
  refine z_len C (n := 16) rfl rfl (by rw [T_r0]; exact Nat.le_of_ble_eq_true rfl) N_r0 (Nat.le_of_ble_eq_true rfl) (fun x2 ex2 => ?_)
  refine b_icmp_lt C (t := 14) rfl rfl rfl (fun c3 => ?_) (fun c3 => ?_)
  · skip
    refine k_aload_n C rfl rfl rfl ?_
    refine k_iload_n C rfl rfl rfl ?_
    refine z_aRe C (t := 0) rfl rfl (Nat.le_of_ble_eq_true rfl) T_r0 N_r0 E_r0 (by omega) (by omega) (fun rr4 Q_rr4 H_rr4 => ?_)
    exact k_aret C (x := some _) rfl (Or.inl ⟨_, rfl⟩) (Nat.le_of_ble_eq_true rfl) (Nat.le_of_ble_eq_true rfl) ⟨_, _, _, rfl, rfl, fb H_rr4, by rw [N_r0]; first | exact PKD.r Q_rr4 (by omega) (by omega) | exact PKD.z (by omega), rfl, rfl⟩
  refine k_null C rfl rfl ?_
  refine k_goto C (pc2 := 17) rfl rfl ?_
  exact k_aret C (x := none) rfl (Or.inl ⟨_, rfl⟩) (Nat.le_of_ble_eq_true rfl) (Nat.le_of_ble_eq_true rfl) ⟨_, _, _, rfl, rfl, fz, by rw [N_r0]; first | exact PKD.r Q_none (by omega) (by omega) | exact PKD.z (by omega), rfl, rfl⟩

