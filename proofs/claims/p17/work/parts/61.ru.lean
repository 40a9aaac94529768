/-! the reference: rank, exactly -/
/-- a row in the world -/
theorem HOK.w {W : Nat → Int32} {n : Nat} (h : SGN W (198 + 401 * n)) (v : HLV (WSL W n)) : HOK (WSL W n) 0 := by
  obtain ⟨h1, h2, h3⟩ := h
  have gj : ∀ j (hj : j < (WSL W n).length), (WSL W n)[j] = ((W (199 + 401 * n + 2 * j)).toInt, (W (200 + 401 * n + 2 * j)).toInt) := fun j hj => by
    have q : (WSL W n)[j]? = some ((W (199 + 401 * n + 2 * j)).toInt, (W (200 + 401 * n + 2 * j)).toInt) := by
      rw [WSL.len] at hj
      unfold WSL
      rw [List.getElem?_map, List.getElem?_range hj]
      rfl
    obtain ⟨_, e⟩ := List.getElem?_eq_some_iff.mp q
    exact e
  have ln := WSL.len (W := W) (n := n)
  refine HOK.ix (WSL W n) (Hgt W (198 + 401 * n)) 0 (fun j hj => ?_) (fun j hj => ?_) (Int.le_refl 0) (by have := v.2.1; omega) (by have := v.1; show (0 : Int) + _ = 1; omega)
  · rw [gj j hj]
    show Hgt W (198 + 401 * n) j + (if (W (198 + 401 * n + 1 + 2 * j)).toInt ≤ 1 then 1 else if (W (198 + 401 * n + 1 + 2 * j)).toInt = 5 then 0 else -1) = _
    rw [show 198 + 401 * n + 1 + 2 * j = 199 + 401 * n + 2 * j from by omega]
    rfl
  · rw [gj j hj]
    have q := h3 j (by omega)
    rw [show 198 + 401 * n + 1 + 2 * j = 199 + 401 * n + 2 * j from by omega, show 198 + 401 * n + 2 + 2 * j = 200 + 401 * n + 2 * j from by omega] at q
    obtain ⟨q1, q2, q3, q4, q5, q6, q7, q8, q9⟩ := q
    exact ⟨q1, q2, q3, q5, q8⟩
/-- the class's reckoning is the reference's -/
theorem RK.eq {W : Nat → Int32} {n : Nat} {w : Int} (h : SGN W (198 + 401 * n)) (v : HLV (WSL W n)) : RKC (TCL w (WSL W n) (0, fun _ => 0)) = (TRL w (WSL W n) (0, fun _ => 0)).2 0 := TCL.eq _ _ _ 0 (HOK.w h v) rfl ⟨rfl, fun j hj => by have hj : j < 0 := hj; omega⟩
def PO9 (v : Int) : Int := if v < 0 then 0 else v
theorem PO9.b (v : Int) : 0 ≤ PO9 v ∧ v ≤ PO9 v ∧ (0 ≤ v → PO9 v = v) := by
  unfold PO9
  by_cases q : v < 0
  · rw [if_pos q]; omega
  · rw [if_neg q]; omega
/-- so far, the reference's -/
def TRI (w : Int) (l : List (Int × Int)) (k top : Int) (f : Nat → Int32) : Prop := ∃ s : TSt, top = s.1 ∧ (∀ j, j < s.1 → (f j).toInt = s.2 j) ∧ GE1 s ∧ SMT (fun j => PO9 (s.2 j)) s.1 ≤ 1000 * k ∧ TRL w l (0, fun _ => 0) = TRL w (l.drop k.toNat) s
theorem TRI.z {w k top : Int} {l : List (Int × Int)} {f : Nat → Int32} (hk : k = 0) (ht : top = 0) : TRI w l k top f := by
  subst hk; subst ht
  exact ⟨(0, fun _ => 0), rfl, fun j hj => by have hj : j < 0 := hj; omega, fun j hj => by have hj : j < 0 := hj; omega, by decide, rfl⟩
theorem TRI.b {w k top : Int} {l : List (Int × Int)} {f : Nat → Int32} {i j a b : Int32} (h : TRI w l k top f) (ra : f i.toNatClampNeg = a) (rb : f j.toNatClampNeg = b) (hi : i.toInt = top - 2) (hj : j.toInt = top - 1) (h2 : 2 ≤ top) (hk : k ≤ 200) : -1 ≤ a.toInt ∧ -1 ≤ b.toInt ∧ a.toInt + b.toInt ≤ 200000 := by
  obtain ⟨⟨n, g⟩, e, c, ge, d, -⟩ := h
  have e : top = (n : Int) := e
  have c : ∀ j, j < n → (f j).toInt = g j := c
  have ge : ∀ j, j < n → -1 ≤ g j := ge
  have d : SMT (fun j => PO9 (g j)) n ≤ 1000 * k := d
  have i0 := ncz (x := i) (by omega)
  have j0 := ncz (x := j) (by omega)
  have c1 := c i.toNatClampNeg (by omega)
  have c2 := c j.toNatClampNeg (by omega)
  rw [ra] at c1
  rw [rb] at c2
  have g1 := ge i.toNatClampNeg (by omega)
  have g2 := ge j.toNatClampNeg (by omega)
  have t := SMT.two (g := fun j => PO9 (g j)) (n := n) (by omega)
  have z := SMT.ge (g := fun j => PO9 (g j)) (n - 2) (fun j _ => (PO9.b _).1)
  rw [show n - 2 = i.toNatClampNeg from by omega, show n - 1 = j.toNatClampNeg from by omega] at t
  have t : SMT (fun j => PO9 (g j)) n = SMT (fun j => PO9 (g j)) i.toNatClampNeg + PO9 (g i.toNatClampNeg) + PO9 (g j.toNatClampNeg) := t
  rw [show n - 2 = i.toNatClampNeg from by omega] at z
  have p1 := PO9.b (g i.toNatClampNeg)
  have p2 := PO9.b (g j.toNatClampNeg)
  omega
theorem TRI.st {w k : Int} {l : List (Int × Int)} {x : Int × Int} {s : TSt} (r : TRL w l (0, fun _ => 0) = TRL w (l.drop k.toNat) s) (hx : l[k.toNat]? = some x) : TRL w l (0, fun _ => 0) = TRL w (l.drop (k.toNat + 1)) (TR1 w x s) := by rw [r, DRP hx]; rfl
theorem TRI.lay {I1 I2 : IT} {a : Nat} {w k k' top top' kd z : Int} {t v : Int32} {l : List (Int × Int)} (h : TRI w l k top (I1 a)) (hx : l[k.toNat]? = some (kd, z)) (h1 : kd ≤ 1) (u : I2 = u2 I1 a t.toNatClampNeg v) (ht : t.toInt = top) (hv : v.toInt = if kd = 0 ∧ w = 0 then 1 else 0) (hz : 0 ≤ z) (h0 : 0 ≤ k) (hk : k' = k + 1) (hp : top' = top + 1) : TRI w l k' top' (I2 a) := by
  obtain ⟨s, e, c, ge, d, r⟩ := h
  have t0 := ncz (x := t) (by omega)
  have rs := TRI.st r hx
  have h1 : (kd, z).1 ≤ 1 := h1
  have t1 : TR1 w (kd, z) s = (s.1 + 1, UPD s.2 s.1 v.toInt) := by unfold TR1; rw [if_pos h1, hv]
  have gg := TR1.ge (w := w) (x := (kd, z)) ge hz (fun q _ => by have q : 2 ≤ kd := q; have h1 : kd ≤ 1 := h1; omega) (by have h1 : kd ≤ 1 := h1; show kd ≤ 5; omega)
  rw [t1] at rs gg
  have v0 : 0 ≤ v.toInt ∧ v.toInt ≤ 1 := by rw [hv]; split <;> omega
  have pv := PO9.b v.toInt
  refine ⟨_, by show top' = ((s.1 + 1 : Nat) : Int); omega, fun j hj => ?_, gg, ?_, by rw [rs, show k'.toNat = k.toNat + 1 from by omega]⟩
  · have hj : j < s.1 + 1 := hj
    show (I2 a j).toInt = UPD s.2 s.1 v.toInt j
    rw [u]
    by_cases q : j = s.1
    · rw [q, UPD.s, show s.1 = t.toNatClampNeg from by omega, u2_s]
    · rw [UPD.k q, u2_k (by omega)]; exact c j (by omega)
  · show SMT (fun j => PO9 (UPD s.2 s.1 v.toInt j)) s.1 + PO9 (UPD s.2 s.1 v.toInt s.1) ≤ 1000 * k'
    rw [UPD.s, SMT.cg (h := fun j => PO9 (s.2 j)) s.1 (fun j hj => by show PO9 (UPD s.2 s.1 v.toInt j) = PO9 (s.2 j); rw [UPD.k (by omega)])]
    have := pv.2.2 v0.1
    omega
theorem TRI.less {f f' : Nat → Int32} {w k k' top top' kd z : Int} {l : List (Int × Int)} (h : TRI w l k top f) (hx : l[k.toNat]? = some (kd, z)) (h5 : kd = 5) (hf : f' = f) (h0 : 0 ≤ k) (hk : k' = k + 1) (hp : top' = top) : TRI w l k' top' f' := by
  subst hf
  obtain ⟨s, e, c, ge, d, r⟩ := h
  have rs := TRI.st r hx
  have t1 : TR1 w (kd, z) s = s := by
    unfold TR1
    rw [if_neg (by show ¬ kd ≤ 1; omega), if_pos (show (kd, z).1 = 5 from h5)]
  rw [t1] at rs
  exact ⟨s, by omega, c, ge, by omega, by rw [rs, show k'.toNat = k.toNat + 1 from by omega]⟩
theorem TRI.jn {I1 I2 : IT} {a : Nat} {w k k' top top' kd z : Int} {i i' j u v x : Int32} {l : List (Int × Int)} (h : TRI w l k top (I1 a)) (hx : l[k.toNat]? = some (kd, z)) (h1 : 1 < kd) (h5 : kd ≤ 4) (ra : I1 a i.toNatClampNeg = u) (rb : I1 a j.toNatClampNeg = v) (hU : I2 = u2 I1 a i'.toNatClampNeg x) (hi' : i'.toInt = top - 2) (hi : i.toInt = top - 2) (hj : j.toInt = top - 1) (h2 : 2 ≤ top) (hz : 0 ≤ z ∧ z ≤ 999) (hv : x.toInt = if u.toInt < 0 ∨ v.toInt < 0 ∨ (kd = 2 ∧ u.toInt ≠ v.toInt) then -1 else if kd = 2 then u.toInt else u.toInt + v.toInt + (if w ≠ 0 ∧ kd = 4 then z else 0)) (h0 : 0 ≤ k) (hk : k' = k + 1) (hp : top' = top - 1) : TRI w l k' top' (I2 a) := by
  obtain ⟨s, e, c, ge, d, r⟩ := h
  have i0 := ncz (x := i) (by omega)
  have j0 := ncz (x := j) (by omega)
  have ii := ncz (x := i') (by omega)
  rw [show i'.toNatClampNeg = i.toNatClampNeg from by omega] at hU
  have rs := TRI.st r hx
  have c1 := c i.toNatClampNeg (by omega)
  have c2 := c j.toNatClampNeg (by omega)
  rw [ra] at c1
  rw [rb] at c2
  have ei : i.toNatClampNeg = s.1 - 2 := by omega
  have ej : j.toNatClampNeg = s.1 - 1 := by omega
  rw [ei] at c1
  rw [ej] at c2
  have t1 : TR1 w (kd, z) s = (s.1 - 1, UPD s.2 (s.1 - 2) x.toInt) := by
    unfold TR1
    rw [if_neg (by show ¬ kd ≤ 1; omega), if_neg (by show ¬ kd = 5; omega), ← c1, ← c2, hv]
  have gg := TR1.ge (w := w) (x := (kd, z)) ge hz.1 (fun _ _ => by omega) (by show kd ≤ 5; omega)
  rw [t1] at rs gg
  have t := SMT.two (g := fun j => PO9 (s.2 j)) (n := s.1) (by omega)
  have t : SMT (fun j => PO9 (s.2 j)) s.1 = SMT (fun j => PO9 (s.2 j)) (s.1 - 2) + PO9 (s.2 (s.1 - 2)) + PO9 (s.2 (s.1 - 1)) := t
  rw [← c1, ← c2] at t
  have p1 := PO9.b u.toInt
  have p2 := PO9.b v.toInt
  have px : PO9 x.toInt ≤ PO9 u.toInt + PO9 v.toInt + 999 := by
    unfold PO9
    rw [hv]
    split <;> split <;> (try split) <;> (try split) <;> (try split) <;> (try split) <;> (try split) <;> omega
  refine ⟨_, by show top' = ((s.1 - 1 : Nat) : Int); omega, fun y hy => ?_, gg, ?_, by rw [rs, show k'.toNat = k.toNat + 1 from by omega]⟩
  · have hy : y < s.1 - 1 := hy
    show (I2 a y).toInt = UPD s.2 (s.1 - 2) x.toInt y
    rw [hU]
    by_cases q : y = s.1 - 2
    · rw [q, UPD.s, ← ei, u2_s]
    · rw [UPD.k q, u2_k (by omega)]; exact c y (by omega)
  · show SMT (fun j => PO9 (UPD s.2 (s.1 - 2) x.toInt j)) (s.1 - 1) ≤ 1000 * k'
    have zz : SMT (fun j => PO9 (UPD s.2 (s.1 - 2) x.toInt j)) (s.1 - 2 + 1) = SMT (fun j => PO9 (UPD s.2 (s.1 - 2) x.toInt j)) (s.1 - 2) + PO9 (UPD s.2 (s.1 - 2) x.toInt (s.1 - 2)) := rfl
    rw [UPD.s, SMT.cg (h := fun j => PO9 (s.2 j)) (s.1 - 2) (fun j hj => by show PO9 (UPD s.2 (s.1 - 2) x.toInt j) = PO9 (s.2 j); rw [UPD.k (by omega)]), show s.1 - 2 + 1 = s.1 - 1 from by omega] at zz
    omega
theorem HGT.l {W : Nat → Int32} {n : Nat} : ∀ k, HGL ((List.range k).map (fun k => ((W (199 + 401 * n + 2 * k)).toInt, (W (200 + 401 * n + 2 * k)).toInt))) = Hgt W (198 + 401 * n) k
  | 0 => rfl
  | k + 1 => by
    rw [List.range_succ, List.map_append, (HGL.ap _ _).1, HGT.l k]
    show _ + (HG1 (W (199 + 401 * n + 2 * k)).toInt + 0) = Hgt W (198 + 401 * n) k + (if (W (198 + 401 * n + 1 + 2 * k)).toInt ≤ 1 then 1 else if (W (198 + 401 * n + 1 + 2 * k)).toInt = 5 then 0 else -1)
    rw [show 198 + 401 * n + 1 + 2 * k = 199 + 401 * n + 2 * k from by omega]
    unfold HG1
    omega
theorem TRI.end {f : Nat → Int32} {W : Nat → Int32} {n : Nat} {w top x : Int} {k : Int32} (h : TRI w (WSL W n) k.toInt top f) (hk : k.toInt = (W (198 + 401 * n)).toInt) (h0 : 0 ≤ k.toInt) (ht : top = Hgt W (198 + 401 * n) k.toNatClampNeg) (hx : x = (f 0).toInt) : HGL (WSL W n) = 1 → x = (TRL w (WSL W n) (0, fun _ => 0)).2 0 := fun g => by
  have n0 := ncz h0
  obtain ⟨s, e, c, ge, d, r⟩ := h
  have l := WSL.len (W := W) (n := n)
  have hl : HGL (WSL W n) = Hgt W (198 + 401 * n) (W (198 + 401 * n)).toInt.toNat := HGT.l _
  rw [← hk, show k.toInt.toNat = k.toNatClampNeg from by omega] at hl
  rw [r, show k.toInt.toNat = (WSL W n).length from by omega, List.drop_length, hx]
  exact c 0 (by omega)
theorem WSL.get {W : Nat → Int32} {n k : Int32} (h0 : 0 ≤ k.toInt) (h1 : k.toInt < (W (198 + 401 * n.toNatClampNeg)).toInt) : (WSL W n.toNatClampNeg)[k.toInt.toNat]? = some ((W (198 + 401 * n.toNatClampNeg + 1 + 2 * k.toNatClampNeg)).toInt, (W (198 + 401 * n.toNatClampNeg + 2 + 2 * k.toNatClampNeg)).toInt) := by
  have n0 := ncz h0
  unfold WSL
  rw [List.getElem?_map, List.getElem?_range (by omega), show k.toInt.toNat = k.toNatClampNeg from by omega, show 198 + 401 * n.toNatClampNeg + 1 + 2 * k.toNatClampNeg = 199 + 401 * n.toNatClampNeg + 2 * k.toNatClampNeg from by omega, show 198 + 401 * n.toNatClampNeg + 2 + 2 * k.toNatClampNeg = 200 + 401 * n.toNatClampNeg + 2 * k.toNatClampNeg from by omega]
  rfl
theorem SZL.w {W : Nat → Int32} {n : Nat} (h : SGN W (198 + 401 * n)) : SZL (WSL W n) := fun k x hx => by
  unfold WSL at hx
  rw [List.getElem?_map] at hx
  by_cases q : k < (W (198 + 401 * n)).toInt.toNat
  · rw [List.getElem?_range q] at hx
    cases hx
    obtain ⟨q1, q2, q3, q4, -⟩ := h.2.2 k (by omega)
    rw [show 198 + 401 * n + 1 + 2 * k = 199 + 401 * n + 2 * k from by omega] at q1 q2
    rw [show 198 + 401 * n + 2 + 2 * k = 200 + 401 * n + 2 * k from by omega] at q3 q4
    exact ⟨q1, q2, q3, q4⟩
  · rw [List.getElem?_eq_none (by rw [List.length_range]; omega)] at hx; cases hx
theorem a_X12_rankOf_x {d : Nat} {T N : Nat → Nat} {I : IT} {L : LT} {R : RT} {A : Nat → Prop} {r0 : Nat} {n1 n2 : Int32} (hI : IM R r0 I) (H_r0 : (h_MD T N R A) r0) (b0_n1 : 0 ≤ n1.toInt) (b1_n1 : n1.toInt ≤ 7) (b0_n2 : 0 ≤ n2.toInt) (b1_n2 : n2.toInt ≤ 1) (hp0 : ∀ a1, R r0 1 = some a1 → n1.toInt < (I a1 3).toInt) : Ex (d + 2) 254 [.ref r0, .int n1, .int n2] (T, N, I, L, R) 0 0 (pI T N R (fun x9 I9 L9 => (∀ a1, R r0 1 = some a1 → HGL (WSL (I a1) n1.toNatClampNeg) = 1 → x9.toInt = (TRL n2.toInt (WSL (I a1) n1.toNatClampNeg) (0, fun _ => 0)).2 0) ∧ (IM R r0 I9 ∧ CM A R r0 [] [20] I L I9 L9))) := by
  refine ⟨_, rfl, Nat.le_of_ble_eq_true rfl, fun V C S => ?_⟩
  show V 0 [(0, .ref r0), (1, .int n1), (2, .int n2)] [] (T, N, I, L, R) 0 0
  have gn1 := rg n1
  have gn2 := rg n2
  obtain ⟨T_r0, A_r0, ⟨r0_1, R_r0_1, H_r0_1⟩, ⟨r0_2, R_r0_2, H_r0_2⟩, ⟨r0_4, R_r0_4, H_r0_4⟩, ⟨r0_5, R_r0_5, H_r0_5⟩, ⟨r0_10, R_r0_10, H_r0_10⟩, ⟨r0_18, R_r0_18, H_r0_18⟩, ⟨r0_20, R_r0_20, H_r0_20⟩, ⟨r0_21, R_r0_21, H_r0_21⟩, ⟨r0_22, R_r0_22, H_r0_22⟩, ⟨r0_23, R_r0_23, H_r0_23⟩, ⟨r0_25, R_r0_25, H_r0_25⟩, ⟨r0_26, R_r0_26, H_r0_26⟩, ⟨r0_27, R_r0_27, H_r0_27⟩, ⟨r0_28, R_r0_28, H_r0_28⟩, ⟨r0_34, R_r0_34, H_r0_34⟩, J_r0, Y_r0⟩ := id H_r0
  have G_r0 : mF T R r0 := ⟨J_r0, Y_r0, T_r0⟩
  obtain ⟨w_r0_1_3, k0_r0_1_3⟩ : ∃ x, I r0_1 3 = x := ⟨_, rfl⟩
  have gw_r0_1_3 := rg w_r0_1_3
  have ow_r0_1_3 := IM.c3 hI R_r0_1 k0_r0_1_3
  have hp0 := hp0 r0_1 R_r0_1
  try simp only [k0_r0_1_3] at hp0
  have hS := (IM.w hI R_r0_1).2.2.2.2.2.1 n1.toNatClampNeg (by have := ncz (x := n1) (by omega); simp only [k0_r0_1_3]; omega)
  have hS1 : 0 ≤ (I r0_1 (198 + 401 * n1.toNatClampNeg)).toInt ∧ (I r0_1 (198 + 401 * n1.toNatClampNeg)).toInt ≤ 199 := ⟨hS.1, hS.2.1⟩
  refine z_iconst C (z := 0) rfl rfl rfl (fun x1 ex1 => ?_)
  refine k_istore_n C (lw := [(3, .int x1), (0, .ref r0), (1, .int n1), (2, .int n2)]) rfl rfl (Nat.le_of_ble_eq_true rfl) rfl ?_
  refine z_iconst C (z := 0) rfl rfl rfl (fun x2 ex2 => ?_)
  have J3 : ∀ (nn4 : Nat) (I5 : IT) (L6 : LT) (x7 : Int32) (x10 : Int32), (MN (200 - x10.toInt) nn4) → (IM R r0 I5) → (CM A R r0 [] [20] I L I5 L6) → (0 ≤ x7.toInt) → (x7.toInt ≤ 40) → (0 ≤ x10.toInt) → (x10.toInt ≤ 200) → (x7.toInt = Hgt (I r0_1) (198 + 401 * n1.toNatClampNeg) x10.toNatClampNeg) → (x10.toInt ≤ (I r0_1 (198 + 401 * n1.toNatClampNeg)).toInt) → (TRI n2.toInt (WSL (I r0_1) n1.toNatClampNeg) x10.toInt x7.toInt (I5 r0_20)) → V 5 [(0, .ref r0), (1, .int n1), (2, .int n2), (3, .int x7), (4, .int x10)] [] (T, N, I5, L6, R) 0 0 := by
    intro nn4
    induction nn4 using Nat.strongRecOn with
    | _ nn4 ihJ3 =>
      intro I5 L6 x7 x10 hmnn4 hI14 S13 b8 b9 b11 b12 ff5_0 ff5_1 ff5_2
      have gx7 := rg x7
      have gx10 := rg x10
      have e15 := CM.j S13 R_r0_1 (by decide) k0_r0_1_3
      refine k_iload C rfl rfl rfl ?_
      refine k_aload_n C rfl rfl rfl ?_
      refine k_iload_n C rfl rfl rfl ?_
      refine c_VI C (a_X12_stepsOf hI14 H_r0 (by omega) (by omega)) rfl rfl rfl rfl rfl ⟨_, rfl, rfl, T_r0, Nat.le_of_ble_eq_true rfl⟩ rfl rfl (Nat.le_of_ble_eq_true rfl) (Nat.le_of_ble_eq_true rfl) (Nat.le_of_ble_eq_true rfl) ?_
      rintro x16 _ _ ⟨p0x16, rfl, rfl⟩
      have p0x16 := p0x16 r0_1 R_r0_1
      have gx16 := rg x16
      try simp only [e15] at p0x16
      try have q0x16 := congrArg Int32.toInt p0x16
      rw [(CM.j0 (I := I) (L := L) (I' := I5) (L' := L6) (A := A) (W := []) (WA := [20]) (CM.mono S13 (by decide) (by decide)) R_r0_1 (by decide))] at p0x16
      have h8 := fun (z : x10.toInt < (I r0_1 (198 + 401 * n1.toNatClampNeg)).toInt) => hS.2.2 x10.toNatClampNeg (by have := ncz (x := x10) (by omega); omega)
      refine b_icmp_ge C (t := 174) rfl rfl rfl (fun c17 => ?_) (fun c17 => ?_)
      · skip
        refine k_aload_n C rfl rfl rfl ?_
        refine g_R C rfl rfl rfl T_r0 rfl R_r0_20 ?_
        refine z_iconst C (z := 0) rfl rfl rfl (fun x18 ex18 => ?_)
        obtain ⟨T_r0_20, N_r0_20, A_r0_20⟩ := id H_r0_20
        refine z_aI C rfl rfl T_r0_20 N_r0_20 (by omega) (by omega) (fun x19 ex19 => ?_)
        have gx19 := rg x19
        have nx19 : I5 r0_20 0 = x19 := (congrArg (I5 r0_20) (nck (n := 0) (by omega))).symm.trans ex19
        have rf179 := nx19
        exact k_iret C rfl (Or.inl rfl) (Nat.le_of_ble_eq_true rfl) (Nat.le_of_ble_eq_true rfl) ⟨_, _, _, rfl, rfl, fun a1 h1 => by cases (R_r0_1.symm.trans h1); exact TRI.end ff5_2 (by omega) (by omega) (by omega) (by rw [← rf179]), hI14, (CM.mono S13 (by decide) (by decide))⟩
      refine k_aload_n C rfl rfl rfl ?_
      refine k_iload_n C rfl rfl rfl ?_
      refine k_iload C rfl rfl rfl ?_
      refine c_VI C (a_X12_stepOf hI14 H_r0 (by omega) (by omega) (by omega) (by omega)) rfl rfl rfl rfl rfl ⟨_, rfl, rfl, T_r0, Nat.le_of_ble_eq_true rfl⟩ rfl rfl (Nat.le_of_ble_eq_true rfl) (Nat.le_of_ble_eq_true rfl) (Nat.le_of_ble_eq_true rfl) ?_
      rintro x20 _ _ ⟨p0x20, rfl, rfl⟩
      have p0x20 := p0x20 r0_1 R_r0_1
      have gx20 := rg x20
      try simp only [e15] at p0x20
      try have q0x20 := congrArg Int32.toInt p0x20
      rw [(CM.j0 (I := I) (L := L) (I' := I5) (L' := L6) (A := A) (W := []) (WA := [20]) (CM.mono S13 (by decide) (by decide)) R_r0_1 (by decide))] at p0x20
      have h7 := h8 (by omega)
      have hel := WSL.get (W := I r0_1) (n := n1) (k := x10) (by omega) (by omega)
      rw [← p0x20] at hel
      have hz19 : 0 ≤ (I r0_1 (198 + 401 * n1.toNatClampNeg + 2 + 2 * x10.toNatClampNeg)).toInt ∧ (I r0_1 (198 + 401 * n1.toNatClampNeg + 2 + 2 * x10.toNatClampNeg)).toInt ≤ 999 := ⟨h7.2.2.1, h7.2.2.2.1⟩
      refine k_istore C (lw := [(5, .int x20), (0, .ref r0), (1, .int n1), (2, .int n2), (3, .int x7), (4, .int x10)]) rfl rfl (Nat.le_of_ble_eq_true rfl) rfl ?_
      refine k_iload C rfl rfl rfl ?_
      refine z_iconst C (z := 1) rfl rfl rfl (fun x21 ex21 => ?_)
      refine b_icmp_gt C (t := 56) rfl rfl rfl (fun c22 => ?_) (fun c22 => ?_)
      · skip
        refine k_iload C rfl rfl rfl ?_
        refine z_iconst C (z := 5) rfl rfl rfl (fun x23 ex23 => ?_)
        refine b_icmp_eq C (t := 168) rfl rfl rfl (fun c24 => ?_) (fun c24 => ?_)
        · skip
          refine z_iinc C (z := 1) (lw := fun x25 => [(4, .int x25), (5, .int x20), (0, .ref r0), (1, .int n1), (2, .int n2), (3, .int x7)]) rfl rfl rfl (Nat.le_of_ble_eq_true rfl) rfl ⟨by omega, by omega⟩ (fun _ => rfl) (fun x25 ex25 => ?_)
          show V 171 [(4, .int x25), (5, .int x20), (0, .ref r0), (1, .int n1), (2, .int n2), (3, .int x7)] _ _ _ _
          refine k_goto C (pc2 := 5) rfl rfl ?_
          refine k_sub S [(0, .ref r0), (1, .int n1), (2, .int n2), (3, .int x7), (4, .int x25)] (List.forall_mem_cons.mpr ⟨List.mem_of_getElem? (i := 2) rfl, List.forall_mem_cons.mpr ⟨List.mem_of_getElem? (i := 3) rfl, List.forall_mem_cons.mpr ⟨List.mem_of_getElem? (i := 4) rfl, List.forall_mem_cons.mpr ⟨List.mem_of_getElem? (i := 5) rfl, List.forall_mem_cons.mpr ⟨List.mem_of_getElem? (i := 0) rfl, fun _ h => nomatch h⟩⟩⟩⟩⟩) ?_
          exact ihJ3 _ (MN.lt hmnn4 (by omega) (by omega)) I5 L6 x7 x25 rfl hI14 (CM.mono S13 (by decide) (by decide)) (by omega) (by omega) (by omega) (by omega) (by (have h9 := HgtS (g := I r0_1) (b := 198 + 401 * n1.toNatClampNeg) (x := x10) (y := x25) (by omega) (by omega)); (have h8 := hS.2.2 x10.toNatClampNeg (by have := ncz (x := x10) (by omega); omega)); (split at h9 <;> first | omega | (split at h9 <;> omega))) (by omega) (by first | exact TRI.less ff5_2 hel (by omega) rfl (by omega) (by omega) (by omega) | exact TRI.lay ff5_2 hel (by omega) hu49 (by omega) (by first | (rw [if_pos (by omega)] <;> omega) | (rw [if_neg (by omega)] <;> omega)) (by omega) (by omega) (by omega) (by omega) | exact TRI.jn ff5_2 hel (by omega) (by omega) ra72 rb80 hu167 (by omega) (by omega) (by omega) (by omega) hz19 (by first | (rw [if_pos (by omega)] <;> omega) | (rw [if_neg (by omega), if_pos (by omega)] <;> omega) | (rw [if_neg (by omega), if_neg (by omega), if_pos (by omega)] <;> omega) | (rw [if_neg (by omega), if_neg (by omega), if_neg (by omega)] <;> omega)) (by omega) (by omega) (by omega))
        refine z_iinc C (z := -1) (lw := fun x26 => [(3, .int x26), (5, .int x20), (0, .ref r0), (1, .int n1), (2, .int n2), (4, .int x10)]) rfl rfl rfl (Nat.le_of_ble_eq_true rfl) rfl ⟨by omega, by omega⟩ (fun _ => rfl) (fun x26 ex26 => ?_)
        show V 65 [(3, .int x26), (5, .int x20), (0, .ref r0), (1, .int n1), (2, .int n2), (4, .int x10)] _ _ _ _
        refine k_aload_n C rfl rfl rfl ?_
        refine g_R C rfl rfl rfl T_r0 rfl R_r0_20 ?_
        refine k_iload_n C rfl rfl rfl ?_
        refine z_iconst C (z := 1) rfl rfl rfl (fun x27 ex27 => ?_)
        refine z_isub C rfl rfl ⟨by omega, by omega⟩ (fun x28 ex28 => ?_)
        obtain ⟨T_r0_20, N_r0_20, A_r0_20⟩ := id H_r0_20
        refine z_aI C rfl rfl T_r0_20 N_r0_20 (by omega) (by omega) (fun x29 ex29 => ?_)
        have gx29 := rg x29
        have ra72 := ex29
        refine k_istore C (lw := [(6, .int x29), (3, .int x26), (5, .int x20), (0, .ref r0), (1, .int n1), (2, .int n2), (4, .int x10)]) rfl rfl (Nat.le_of_ble_eq_true rfl) rfl ?_
        refine k_aload_n C rfl rfl rfl ?_
        refine g_R C rfl rfl rfl T_r0 rfl R_r0_20 ?_
        refine k_iload_n C rfl rfl rfl ?_
        refine z_aI C rfl rfl T_r0_20 N_r0_20 (by omega) (by omega) (fun x30 ex30 => ?_)
        have gx30 := rg x30
        have rb80 := ex30
        have hb80 := TRI.b ff5_2 ra72 rb80 (by omega) (by omega) (by omega) (by omega)
        refine k_istore C (lw := [(7, .int x30), (6, .int x29), (3, .int x26), (5, .int x20), (0, .ref r0), (1, .int n1), (2, .int n2), (4, .int x10)]) rfl rfl (Nat.le_of_ble_eq_true rfl) rfl ?_
        refine k_iload C rfl rfl rfl ?_
        refine b_if_lt C (t := 106) rfl rfl rfl (fun c31 => ?_) (fun c31 => ?_)
        · skip
          refine z_iconst C (z := 1) rfl rfl rfl (fun x32 ex32 => ?_)
          refine k_goto C (pc2 := 111) rfl rfl ?_
          refine k_istore C (lw := [(8, .int x32), (7, .int x30), (6, .int x29), (3, .int x26), (5, .int x20), (0, .ref r0), (1, .int n1), (2, .int n2), (4, .int x10)]) rfl rfl (Nat.le_of_ble_eq_true rfl) rfl ?_
          refine k_aload_n C rfl rfl rfl ?_
          refine g_R C rfl rfl rfl T_r0 rfl R_r0_20 ?_
          refine k_iload_n C rfl rfl rfl ?_
          refine z_iconst C (z := 1) rfl rfl rfl (fun x33 ex33 => ?_)
          refine z_isub C rfl rfl ⟨by omega, by omega⟩ (fun x34 ex34 => ?_)
          refine k_iload C rfl rfl rfl ?_
          refine b_if_eq C (t := 129) rfl rfl rfl (fun c35 => by exfalso; omega) (fun c35 => ?_)
          refine z_iconst C (z := -1) rfl rfl rfl (fun x36 ex36 => ?_)
          refine k_goto C (pc2 := 167) rfl rfl ?_
          refine z_sI C rfl rfl T_r0_20 N_r0_20 (by omega) (by omega) (fun I37 uI37 => ?_)
          have hI37 : IM R r0 I37 := IM.arr hI14 G_r0 R_r0_20 ⟨(fun h => absurd h (by decide)), (fun h => absurd h (by decide)), (fun h => absurd h (by decide))⟩ (fun h => absurd h (by decide)) uI37
          have S38 : CM A R r0 [] [20] I5 L6 I37 L6 := CM.a G_r0 R_r0_20 A_r0_20 uI37
          have e39 := u2_n uI37 (mF.nq G_r0 R_r0_1 R_r0_20 (by decide)) e15
          have e42 := u2_e uI37
          have hu167 := uI37
          refine z_iinc C (z := 1) (lw := fun x43 => [(4, .int x43), (8, .int x32), (7, .int x30), (6, .int x29), (3, .int x26), (5, .int x20), (0, .ref r0), (1, .int n1), (2, .int n2)]) rfl rfl rfl (Nat.le_of_ble_eq_true rfl) rfl ⟨by omega, by omega⟩ (fun _ => rfl) (fun x43 ex43 => ?_)
          show V 171 [(4, .int x43), (8, .int x32), (7, .int x30), (6, .int x29), (3, .int x26), (5, .int x20), (0, .ref r0), (1, .int n1), (2, .int n2)] _ _ _ _
          refine k_goto C (pc2 := 5) rfl rfl ?_
          refine k_sub S [(0, .ref r0), (1, .int n1), (2, .int n2), (3, .int x26), (4, .int x43)] (List.forall_mem_cons.mpr ⟨List.mem_of_getElem? (i := 6) rfl, List.forall_mem_cons.mpr ⟨List.mem_of_getElem? (i := 7) rfl, List.forall_mem_cons.mpr ⟨List.mem_of_getElem? (i := 8) rfl, List.forall_mem_cons.mpr ⟨List.mem_of_getElem? (i := 4) rfl, List.forall_mem_cons.mpr ⟨List.mem_of_getElem? (i := 0) rfl, fun _ h => nomatch h⟩⟩⟩⟩⟩) ?_
          exact ihJ3 _ (MN.lt hmnn4 (by omega) (by omega)) I37 L6 x26 x43 rfl hI37 (CM.cons S13 (CM.mono S38 (by decide) (by decide)) (by decide) (by decide)) (by omega) (by omega) (by omega) (by omega) (by (have h9 := HgtS (g := I r0_1) (b := 198 + 401 * n1.toNatClampNeg) (x := x10) (y := x43) (by omega) (by omega)); (have h8 := hS.2.2 x10.toNatClampNeg (by have := ncz (x := x10) (by omega); omega)); (split at h9 <;> first | omega | (split at h9 <;> omega))) (by omega) (by first | exact TRI.less ff5_2 hel (by omega) rfl (by omega) (by omega) (by omega) | exact TRI.lay ff5_2 hel (by omega) hu49 (by omega) (by first | (rw [if_pos (by omega)] <;> omega) | (rw [if_neg (by omega)] <;> omega)) (by omega) (by omega) (by omega) (by omega) | exact TRI.jn ff5_2 hel (by omega) (by omega) ra72 rb80 hu167 (by omega) (by omega) (by omega) (by omega) hz19 (by first | (rw [if_pos (by omega)] <;> omega) | (rw [if_neg (by omega), if_pos (by omega)] <;> omega) | (rw [if_neg (by omega), if_neg (by omega), if_pos (by omega)] <;> omega) | (rw [if_neg (by omega), if_neg (by omega), if_neg (by omega)] <;> omega)) (by omega) (by omega) (by omega))
        refine k_iload C rfl rfl rfl ?_
        refine b_if_lt C (t := 106) rfl rfl rfl (fun c44 => ?_) (fun c44 => ?_)
        · skip
          refine z_iconst C (z := 1) rfl rfl rfl (fun x45 ex45 => ?_)
          refine k_goto C (pc2 := 111) rfl rfl ?_
          refine k_istore C (lw := [(8, .int x45), (7, .int x30), (6, .int x29), (3, .int x26), (5, .int x20), (0, .ref r0), (1, .int n1), (2, .int n2), (4, .int x10)]) rfl rfl (Nat.le_of_ble_eq_true rfl) rfl ?_
          refine k_aload_n C rfl rfl rfl ?_
          refine g_R C rfl rfl rfl T_r0 rfl R_r0_20 ?_
          refine k_iload_n C rfl rfl rfl ?_
          refine z_iconst C (z := 1) rfl rfl rfl (fun x46 ex46 => ?_)
          refine z_isub C rfl rfl ⟨by omega, by omega⟩ (fun x47 ex47 => ?_)
          refine k_iload C rfl rfl rfl ?_
          refine b_if_eq C (t := 129) rfl rfl rfl (fun c48 => by exfalso; omega) (fun c48 => ?_)
          refine z_iconst C (z := -1) rfl rfl rfl (fun x49 ex49 => ?_)
          refine k_goto C (pc2 := 167) rfl rfl ?_
          refine z_sI C rfl rfl T_r0_20 N_r0_20 (by omega) (by omega) (fun I50 uI50 => ?_)
          have hI50 : IM R r0 I50 := IM.arr hI14 G_r0 R_r0_20 ⟨(fun h => absurd h (by decide)), (fun h => absurd h (by decide)), (fun h => absurd h (by decide))⟩ (fun h => absurd h (by decide)) uI50
          have S51 : CM A R r0 [] [20] I5 L6 I50 L6 := CM.a G_r0 R_r0_20 A_r0_20 uI50
          have e52 := u2_n uI50 (mF.nq G_r0 R_r0_1 R_r0_20 (by decide)) e15
          have e55 := u2_e uI50
          have hu167 := uI50
          refine z_iinc C (z := 1) (lw := fun x56 => [(4, .int x56), (8, .int x45), (7, .int x30), (6, .int x29), (3, .int x26), (5, .int x20), (0, .ref r0), (1, .int n1), (2, .int n2)]) rfl rfl rfl (Nat.le_of_ble_eq_true rfl) rfl ⟨by omega, by omega⟩ (fun _ => rfl) (fun x56 ex56 => ?_)
          show V 171 [(4, .int x56), (8, .int x45), (7, .int x30), (6, .int x29), (3, .int x26), (5, .int x20), (0, .ref r0), (1, .int n1), (2, .int n2)] _ _ _ _
          refine k_goto C (pc2 := 5) rfl rfl ?_
          refine k_sub S [(0, .ref r0), (1, .int n1), (2, .int n2), (3, .int x26), (4, .int x56)] (List.forall_mem_cons.mpr ⟨List.mem_of_getElem? (i := 6) rfl, List.forall_mem_cons.mpr ⟨List.mem_of_getElem? (i := 7) rfl, List.forall_mem_cons.mpr ⟨List.mem_of_getElem? (i := 8) rfl, List.forall_mem_cons.mpr ⟨List.mem_of_getElem? (i := 4) rfl, List.forall_mem_cons.mpr ⟨List.mem_of_getElem? (i := 0) rfl, fun _ h => nomatch h⟩⟩⟩⟩⟩) ?_
          exact ihJ3 _ (MN.lt hmnn4 (by omega) (by omega)) I50 L6 x26 x56 rfl hI50 (CM.cons S13 (CM.mono S51 (by decide) (by decide)) (by decide) (by decide)) (by omega) (by omega) (by omega) (by omega) (by (have h9 := HgtS (g := I r0_1) (b := 198 + 401 * n1.toNatClampNeg) (x := x10) (y := x56) (by omega) (by omega)); (have h8 := hS.2.2 x10.toNatClampNeg (by have := ncz (x := x10) (by omega); omega)); (split at h9 <;> first | omega | (split at h9 <;> omega))) (by omega) (by first | exact TRI.less ff5_2 hel (by omega) rfl (by omega) (by omega) (by omega) | exact TRI.lay ff5_2 hel (by omega) hu49 (by omega) (by first | (rw [if_pos (by omega)] <;> omega) | (rw [if_neg (by omega)] <;> omega)) (by omega) (by omega) (by omega) (by omega) | exact TRI.jn ff5_2 hel (by omega) (by omega) ra72 rb80 hu167 (by omega) (by omega) (by omega) (by omega) hz19 (by first | (rw [if_pos (by omega)] <;> omega) | (rw [if_neg (by omega), if_pos (by omega)] <;> omega) | (rw [if_neg (by omega), if_neg (by omega), if_pos (by omega)] <;> omega) | (rw [if_neg (by omega), if_neg (by omega), if_neg (by omega)] <;> omega)) (by omega) (by omega) (by omega))
        refine k_iload C rfl rfl rfl ?_
        refine z_iconst C (z := 2) rfl rfl rfl (fun x57 ex57 => ?_)
        refine b_icmp_ne C (t := 110) rfl rfl rfl (fun c58 => ?_) (fun c58 => ?_)
        · skip
          refine z_iconst C (z := 0) rfl rfl rfl (fun x59 ex59 => ?_)
          refine k_istore C (lw := [(8, .int x59), (7, .int x30), (6, .int x29), (3, .int x26), (5, .int x20), (0, .ref r0), (1, .int n1), (2, .int n2), (4, .int x10)]) rfl rfl (Nat.le_of_ble_eq_true rfl) rfl ?_
          refine k_aload_n C rfl rfl rfl ?_
          refine g_R C rfl rfl rfl T_r0 rfl R_r0_20 ?_
          refine k_iload_n C rfl rfl rfl ?_
          refine z_iconst C (z := 1) rfl rfl rfl (fun x60 ex60 => ?_)
          refine z_isub C rfl rfl ⟨by omega, by omega⟩ (fun x61 ex61 => ?_)
          refine k_iload C rfl rfl rfl ?_
          refine b_if_eq C (t := 129) rfl rfl rfl (fun c62 => ?_) (fun c62 => by exfalso; omega)
          refine k_iload C rfl rfl rfl ?_
          refine z_iconst C (z := 2) rfl rfl rfl (fun x63 ex63 => ?_)
          refine b_icmp_ne C (t := 140) rfl rfl rfl (fun c64 => ?_) (fun c64 => by exfalso; omega)
          refine k_iload C rfl rfl rfl ?_
          refine k_iload C rfl rfl rfl ?_
          refine z_iadd C rfl rfl ⟨by omega, by omega⟩ (fun x65 ex65 => ?_)
          have gx65 := rg x65
          have m144 := ex65
          refine k_iload_n C rfl rfl rfl ?_
          refine b_if_eq C (t := 165) rfl rfl rfl (fun c66 => ?_) (fun c66 => ?_)
          · skip
            refine z_iconst C (z := 0) rfl rfl rfl (fun x67 ex67 => ?_)
            refine z_iadd C rfl rfl ⟨by omega, by omega⟩ (fun x68 ex68 => ?_)
            have gx68 := rg x68
            have m166 := ex68
            refine z_sI C rfl rfl T_r0_20 N_r0_20 (by omega) (by omega) (fun I69 uI69 => ?_)
            have hI69 : IM R r0 I69 := IM.arr hI14 G_r0 R_r0_20 ⟨(fun h => absurd h (by decide)), (fun h => absurd h (by decide)), (fun h => absurd h (by decide))⟩ (fun h => absurd h (by decide)) uI69
            have S70 : CM A R r0 [] [20] I5 L6 I69 L6 := CM.a G_r0 R_r0_20 A_r0_20 uI69
            have e71 := u2_n uI69 (mF.nq G_r0 R_r0_1 R_r0_20 (by decide)) e15
            have e74 := u2_e uI69
            have hu167 := uI69
            refine z_iinc C (z := 1) (lw := fun x75 => [(4, .int x75), (8, .int x59), (7, .int x30), (6, .int x29), (3, .int x26), (5, .int x20), (0, .ref r0), (1, .int n1), (2, .int n2)]) rfl rfl rfl (Nat.le_of_ble_eq_true rfl) rfl ⟨by omega, by omega⟩ (fun _ => rfl) (fun x75 ex75 => ?_)
            show V 171 [(4, .int x75), (8, .int x59), (7, .int x30), (6, .int x29), (3, .int x26), (5, .int x20), (0, .ref r0), (1, .int n1), (2, .int n2)] _ _ _ _
            refine k_goto C (pc2 := 5) rfl rfl ?_
            refine k_sub S [(0, .ref r0), (1, .int n1), (2, .int n2), (3, .int x26), (4, .int x75)] (List.forall_mem_cons.mpr ⟨List.mem_of_getElem? (i := 6) rfl, List.forall_mem_cons.mpr ⟨List.mem_of_getElem? (i := 7) rfl, List.forall_mem_cons.mpr ⟨List.mem_of_getElem? (i := 8) rfl, List.forall_mem_cons.mpr ⟨List.mem_of_getElem? (i := 4) rfl, List.forall_mem_cons.mpr ⟨List.mem_of_getElem? (i := 0) rfl, fun _ h => nomatch h⟩⟩⟩⟩⟩) ?_
            exact ihJ3 _ (MN.lt hmnn4 (by omega) (by omega)) I69 L6 x26 x75 rfl hI69 (CM.cons S13 (CM.mono S70 (by decide) (by decide)) (by decide) (by decide)) (by omega) (by omega) (by omega) (by omega) (by (have h9 := HgtS (g := I r0_1) (b := 198 + 401 * n1.toNatClampNeg) (x := x10) (y := x75) (by omega) (by omega)); (have h8 := hS.2.2 x10.toNatClampNeg (by have := ncz (x := x10) (by omega); omega)); (split at h9 <;> first | omega | (split at h9 <;> omega))) (by omega) (by first | exact TRI.less ff5_2 hel (by omega) rfl (by omega) (by omega) (by omega) | exact TRI.lay ff5_2 hel (by omega) hu49 (by omega) (by first | (rw [if_pos (by omega)] <;> omega) | (rw [if_neg (by omega)] <;> omega)) (by omega) (by omega) (by omega) (by omega) | exact TRI.jn ff5_2 hel (by omega) (by omega) ra72 rb80 hu167 (by omega) (by omega) (by omega) (by omega) hz19 (by first | (rw [if_pos (by omega)] <;> omega) | (rw [if_neg (by omega), if_pos (by omega)] <;> omega) | (rw [if_neg (by omega), if_neg (by omega), if_pos (by omega)] <;> omega) | (rw [if_neg (by omega), if_neg (by omega), if_neg (by omega)] <;> omega)) (by omega) (by omega) (by omega))
          refine k_iload C rfl rfl rfl ?_
          refine z_iconst C (z := 4) rfl rfl rfl (fun x76 ex76 => ?_)
          refine b_icmp_ne C (t := 165) rfl rfl rfl (fun c77 => ?_) (fun c77 => ?_)
          · skip
            refine z_iconst C (z := 0) rfl rfl rfl (fun x78 ex78 => ?_)
            refine z_iadd C rfl rfl ⟨by omega, by omega⟩ (fun x79 ex79 => ?_)
            have gx79 := rg x79
            have m166 := ex79
            refine z_sI C rfl rfl T_r0_20 N_r0_20 (by omega) (by omega) (fun I80 uI80 => ?_)
            have hI80 : IM R r0 I80 := IM.arr hI14 G_r0 R_r0_20 ⟨(fun h => absurd h (by decide)), (fun h => absurd h (by decide)), (fun h => absurd h (by decide))⟩ (fun h => absurd h (by decide)) uI80
            have S81 : CM A R r0 [] [20] I5 L6 I80 L6 := CM.a G_r0 R_r0_20 A_r0_20 uI80
            have e82 := u2_n uI80 (mF.nq G_r0 R_r0_1 R_r0_20 (by decide)) e15
            have e85 := u2_e uI80
            have hu167 := uI80
            refine z_iinc C (z := 1) (lw := fun x86 => [(4, .int x86), (8, .int x59), (7, .int x30), (6, .int x29), (3, .int x26), (5, .int x20), (0, .ref r0), (1, .int n1), (2, .int n2)]) rfl rfl rfl (Nat.le_of_ble_eq_true rfl) rfl ⟨by omega, by omega⟩ (fun _ => rfl) (fun x86 ex86 => ?_)
            show V 171 [(4, .int x86), (8, .int x59), (7, .int x30), (6, .int x29), (3, .int x26), (5, .int x20), (0, .ref r0), (1, .int n1), (2, .int n2)] _ _ _ _
            refine k_goto C (pc2 := 5) rfl rfl ?_
            refine k_sub S [(0, .ref r0), (1, .int n1), (2, .int n2), (3, .int x26), (4, .int x86)] (List.forall_mem_cons.mpr ⟨List.mem_of_getElem? (i := 6) rfl, List.forall_mem_cons.mpr ⟨List.mem_of_getElem? (i := 7) rfl, List.forall_mem_cons.mpr ⟨List.mem_of_getElem? (i := 8) rfl, List.forall_mem_cons.mpr ⟨List.mem_of_getElem? (i := 4) rfl, List.forall_mem_cons.mpr ⟨List.mem_of_getElem? (i := 0) rfl, fun _ h => nomatch h⟩⟩⟩⟩⟩) ?_
            exact ihJ3 _ (MN.lt hmnn4 (by omega) (by omega)) I80 L6 x26 x86 rfl hI80 (CM.cons S13 (CM.mono S81 (by decide) (by decide)) (by decide) (by decide)) (by omega) (by omega) (by omega) (by omega) (by (have h9 := HgtS (g := I r0_1) (b := 198 + 401 * n1.toNatClampNeg) (x := x10) (y := x86) (by omega) (by omega)); (have h8 := hS.2.2 x10.toNatClampNeg (by have := ncz (x := x10) (by omega); omega)); (split at h9 <;> first | omega | (split at h9 <;> omega))) (by omega) (by first | exact TRI.less ff5_2 hel (by omega) rfl (by omega) (by omega) (by omega) | exact TRI.lay ff5_2 hel (by omega) hu49 (by omega) (by first | (rw [if_pos (by omega)] <;> omega) | (rw [if_neg (by omega)] <;> omega)) (by omega) (by omega) (by omega) (by omega) | exact TRI.jn ff5_2 hel (by omega) (by omega) ra72 rb80 hu167 (by omega) (by omega) (by omega) (by omega) hz19 (by first | (rw [if_pos (by omega)] <;> omega) | (rw [if_neg (by omega), if_pos (by omega)] <;> omega) | (rw [if_neg (by omega), if_neg (by omega), if_pos (by omega)] <;> omega) | (rw [if_neg (by omega), if_neg (by omega), if_neg (by omega)] <;> omega)) (by omega) (by omega) (by omega))
          refine k_aload_n C rfl rfl rfl ?_
          refine k_iload_n C rfl rfl rfl ?_
          refine k_iload C rfl rfl rfl ?_
          refine c_VI C (a_X12_toldBy hI14 H_r0 (by omega) (by omega) (by omega) (by omega)) rfl rfl rfl rfl rfl ⟨_, rfl, rfl, T_r0, Nat.le_of_ble_eq_true rfl⟩ rfl rfl (Nat.le_of_ble_eq_true rfl) (Nat.le_of_ble_eq_true rfl) (Nat.le_of_ble_eq_true rfl) ?_
          rintro x87 _ _ ⟨p0x87, rfl, rfl⟩
          have p0x87 := p0x87 r0_1 R_r0_1
          have gx87 := rg x87
          try simp only [e15, ex29, ex30] at p0x87
          try have q0x87 := congrArg Int32.toInt p0x87
          rw [(CM.j0 (I := I) (L := L) (I' := I5) (L' := L6) (A := A) (W := []) (WA := [20]) (CM.mono S13 (by decide) (by decide)) R_r0_1 (by decide))] at p0x87
          have ht159 := p0x87
          refine k_goto C (pc2 := 166) rfl rfl ?_
          refine z_iadd C rfl rfl ⟨by omega, by omega⟩ (fun x88 ex88 => ?_)
          have gx88 := rg x88
          have m166 := ex88
          refine z_sI C rfl rfl T_r0_20 N_r0_20 (by omega) (by omega) (fun I89 uI89 => ?_)
          have hI89 : IM R r0 I89 := IM.arr hI14 G_r0 R_r0_20 ⟨(fun h => absurd h (by decide)), (fun h => absurd h (by decide)), (fun h => absurd h (by decide))⟩ (fun h => absurd h (by decide)) uI89
          have S90 : CM A R r0 [] [20] I5 L6 I89 L6 := CM.a G_r0 R_r0_20 A_r0_20 uI89
          have e91 := u2_n uI89 (mF.nq G_r0 R_r0_1 R_r0_20 (by decide)) e15
          have e94 := u2_e uI89
          have hu167 := uI89
          refine z_iinc C (z := 1) (lw := fun x95 => [(4, .int x95), (8, .int x59), (7, .int x30), (6, .int x29), (3, .int x26), (5, .int x20), (0, .ref r0), (1, .int n1), (2, .int n2)]) rfl rfl rfl (Nat.le_of_ble_eq_true rfl) rfl ⟨by omega, by omega⟩ (fun _ => rfl) (fun x95 ex95 => ?_)
          show V 171 [(4, .int x95), (8, .int x59), (7, .int x30), (6, .int x29), (3, .int x26), (5, .int x20), (0, .ref r0), (1, .int n1), (2, .int n2)] _ _ _ _
          refine k_goto C (pc2 := 5) rfl rfl ?_
          refine k_sub S [(0, .ref r0), (1, .int n1), (2, .int n2), (3, .int x26), (4, .int x95)] (List.forall_mem_cons.mpr ⟨List.mem_of_getElem? (i := 6) rfl, List.forall_mem_cons.mpr ⟨List.mem_of_getElem? (i := 7) rfl, List.forall_mem_cons.mpr ⟨List.mem_of_getElem? (i := 8) rfl, List.forall_mem_cons.mpr ⟨List.mem_of_getElem? (i := 4) rfl, List.forall_mem_cons.mpr ⟨List.mem_of_getElem? (i := 0) rfl, fun _ h => nomatch h⟩⟩⟩⟩⟩) ?_
          exact ihJ3 _ (MN.lt hmnn4 (by omega) (by omega)) I89 L6 x26 x95 rfl hI89 (CM.cons S13 (CM.mono S90 (by decide) (by decide)) (by decide) (by decide)) (by omega) (by omega) (by omega) (by omega) (by (have h9 := HgtS (g := I r0_1) (b := 198 + 401 * n1.toNatClampNeg) (x := x10) (y := x95) (by omega) (by omega)); (have h8 := hS.2.2 x10.toNatClampNeg (by have := ncz (x := x10) (by omega); omega)); (split at h9 <;> first | omega | (split at h9 <;> omega))) (by omega) (by first | exact TRI.less ff5_2 hel (by omega) rfl (by omega) (by omega) (by omega) | exact TRI.lay ff5_2 hel (by omega) hu49 (by omega) (by first | (rw [if_pos (by omega)] <;> omega) | (rw [if_neg (by omega)] <;> omega)) (by omega) (by omega) (by omega) (by omega) | exact TRI.jn ff5_2 hel (by omega) (by omega) ra72 rb80 hu167 (by omega) (by omega) (by omega) (by omega) hz19 (by first | (rw [if_pos (by omega)] <;> omega) | (rw [if_neg (by omega), if_pos (by omega)] <;> omega) | (rw [if_neg (by omega), if_neg (by omega), if_pos (by omega)] <;> omega) | (rw [if_neg (by omega), if_neg (by omega), if_neg (by omega)] <;> omega)) (by omega) (by omega) (by omega))
        refine k_iload C rfl rfl rfl ?_
        refine k_iload C rfl rfl rfl ?_
        refine b_icmp_eq C (t := 110) rfl rfl rfl (fun c96 => ?_) (fun c96 => ?_)
        · skip
          refine z_iconst C (z := 0) rfl rfl rfl (fun x97 ex97 => ?_)
          refine k_istore C (lw := [(8, .int x97), (7, .int x30), (6, .int x29), (3, .int x26), (5, .int x20), (0, .ref r0), (1, .int n1), (2, .int n2), (4, .int x10)]) rfl rfl (Nat.le_of_ble_eq_true rfl) rfl ?_
          refine k_aload_n C rfl rfl rfl ?_
          refine g_R C rfl rfl rfl T_r0 rfl R_r0_20 ?_
          refine k_iload_n C rfl rfl rfl ?_
          refine z_iconst C (z := 1) rfl rfl rfl (fun x98 ex98 => ?_)
          refine z_isub C rfl rfl ⟨by omega, by omega⟩ (fun x99 ex99 => ?_)
          refine k_iload C rfl rfl rfl ?_
          refine b_if_eq C (t := 129) rfl rfl rfl (fun c100 => ?_) (fun c100 => by exfalso; omega)
          refine k_iload C rfl rfl rfl ?_
          refine z_iconst C (z := 2) rfl rfl rfl (fun x101 ex101 => ?_)
          refine b_icmp_ne C (t := 140) rfl rfl rfl (fun c102 => by exfalso; omega) (fun c102 => ?_)
          refine k_iload C rfl rfl rfl ?_
          refine k_goto C (pc2 := 167) rfl rfl ?_
          refine z_sI C rfl rfl T_r0_20 N_r0_20 (by omega) (by omega) (fun I103 uI103 => ?_)
          have hI103 : IM R r0 I103 := IM.arr hI14 G_r0 R_r0_20 ⟨(fun h => absurd h (by decide)), (fun h => absurd h (by decide)), (fun h => absurd h (by decide))⟩ (fun h => absurd h (by decide)) uI103
          have S104 : CM A R r0 [] [20] I5 L6 I103 L6 := CM.a G_r0 R_r0_20 A_r0_20 uI103
          have e105 := u2_n uI103 (mF.nq G_r0 R_r0_1 R_r0_20 (by decide)) e15
          have e108 := u2_e uI103
          have hu167 := uI103
          refine z_iinc C (z := 1) (lw := fun x109 => [(4, .int x109), (8, .int x97), (7, .int x30), (6, .int x29), (3, .int x26), (5, .int x20), (0, .ref r0), (1, .int n1), (2, .int n2)]) rfl rfl rfl (Nat.le_of_ble_eq_true rfl) rfl ⟨by omega, by omega⟩ (fun _ => rfl) (fun x109 ex109 => ?_)
          show V 171 [(4, .int x109), (8, .int x97), (7, .int x30), (6, .int x29), (3, .int x26), (5, .int x20), (0, .ref r0), (1, .int n1), (2, .int n2)] _ _ _ _
          refine k_goto C (pc2 := 5) rfl rfl ?_
          refine k_sub S [(0, .ref r0), (1, .int n1), (2, .int n2), (3, .int x26), (4, .int x109)] (List.forall_mem_cons.mpr ⟨List.mem_of_getElem? (i := 6) rfl, List.forall_mem_cons.mpr ⟨List.mem_of_getElem? (i := 7) rfl, List.forall_mem_cons.mpr ⟨List.mem_of_getElem? (i := 8) rfl, List.forall_mem_cons.mpr ⟨List.mem_of_getElem? (i := 4) rfl, List.forall_mem_cons.mpr ⟨List.mem_of_getElem? (i := 0) rfl, fun _ h => nomatch h⟩⟩⟩⟩⟩) ?_
          exact ihJ3 _ (MN.lt hmnn4 (by omega) (by omega)) I103 L6 x26 x109 rfl hI103 (CM.cons S13 (CM.mono S104 (by decide) (by decide)) (by decide) (by decide)) (by omega) (by omega) (by omega) (by omega) (by (have h9 := HgtS (g := I r0_1) (b := 198 + 401 * n1.toNatClampNeg) (x := x10) (y := x109) (by omega) (by omega)); (have h8 := hS.2.2 x10.toNatClampNeg (by have := ncz (x := x10) (by omega); omega)); (split at h9 <;> first | omega | (split at h9 <;> omega))) (by omega) (by first | exact TRI.less ff5_2 hel (by omega) rfl (by omega) (by omega) (by omega) | exact TRI.lay ff5_2 hel (by omega) hu49 (by omega) (by first | (rw [if_pos (by omega)] <;> omega) | (rw [if_neg (by omega)] <;> omega)) (by omega) (by omega) (by omega) (by omega) | exact TRI.jn ff5_2 hel (by omega) (by omega) ra72 rb80 hu167 (by omega) (by omega) (by omega) (by omega) hz19 (by first | (rw [if_pos (by omega)] <;> omega) | (rw [if_neg (by omega), if_pos (by omega)] <;> omega) | (rw [if_neg (by omega), if_neg (by omega), if_pos (by omega)] <;> omega) | (rw [if_neg (by omega), if_neg (by omega), if_neg (by omega)] <;> omega)) (by omega) (by omega) (by omega))
        refine z_iconst C (z := 1) rfl rfl rfl (fun x110 ex110 => ?_)
        refine k_goto C (pc2 := 111) rfl rfl ?_
        refine k_istore C (lw := [(8, .int x110), (7, .int x30), (6, .int x29), (3, .int x26), (5, .int x20), (0, .ref r0), (1, .int n1), (2, .int n2), (4, .int x10)]) rfl rfl (Nat.le_of_ble_eq_true rfl) rfl ?_
        refine k_aload_n C rfl rfl rfl ?_
        refine g_R C rfl rfl rfl T_r0 rfl R_r0_20 ?_
        refine k_iload_n C rfl rfl rfl ?_
        refine z_iconst C (z := 1) rfl rfl rfl (fun x111 ex111 => ?_)
        refine z_isub C rfl rfl ⟨by omega, by omega⟩ (fun x112 ex112 => ?_)
        refine k_iload C rfl rfl rfl ?_
        refine b_if_eq C (t := 129) rfl rfl rfl (fun c113 => by exfalso; omega) (fun c113 => ?_)
        refine z_iconst C (z := -1) rfl rfl rfl (fun x114 ex114 => ?_)
        refine k_goto C (pc2 := 167) rfl rfl ?_
        refine z_sI C rfl rfl T_r0_20 N_r0_20 (by omega) (by omega) (fun I115 uI115 => ?_)
        have hI115 : IM R r0 I115 := IM.arr hI14 G_r0 R_r0_20 ⟨(fun h => absurd h (by decide)), (fun h => absurd h (by decide)), (fun h => absurd h (by decide))⟩ (fun h => absurd h (by decide)) uI115
        have S116 : CM A R r0 [] [20] I5 L6 I115 L6 := CM.a G_r0 R_r0_20 A_r0_20 uI115
        have e117 := u2_n uI115 (mF.nq G_r0 R_r0_1 R_r0_20 (by decide)) e15
        have e120 := u2_e uI115
        have hu167 := uI115
        refine z_iinc C (z := 1) (lw := fun x121 => [(4, .int x121), (8, .int x110), (7, .int x30), (6, .int x29), (3, .int x26), (5, .int x20), (0, .ref r0), (1, .int n1), (2, .int n2)]) rfl rfl rfl (Nat.le_of_ble_eq_true rfl) rfl ⟨by omega, by omega⟩ (fun _ => rfl) (fun x121 ex121 => ?_)
        show V 171 [(4, .int x121), (8, .int x110), (7, .int x30), (6, .int x29), (3, .int x26), (5, .int x20), (0, .ref r0), (1, .int n1), (2, .int n2)] _ _ _ _
        refine k_goto C (pc2 := 5) rfl rfl ?_
        refine k_sub S [(0, .ref r0), (1, .int n1), (2, .int n2), (3, .int x26), (4, .int x121)] (List.forall_mem_cons.mpr ⟨List.mem_of_getElem? (i := 6) rfl, List.forall_mem_cons.mpr ⟨List.mem_of_getElem? (i := 7) rfl, List.forall_mem_cons.mpr ⟨List.mem_of_getElem? (i := 8) rfl, List.forall_mem_cons.mpr ⟨List.mem_of_getElem? (i := 4) rfl, List.forall_mem_cons.mpr ⟨List.mem_of_getElem? (i := 0) rfl, fun _ h => nomatch h⟩⟩⟩⟩⟩) ?_
        exact ihJ3 _ (MN.lt hmnn4 (by omega) (by omega)) I115 L6 x26 x121 rfl hI115 (CM.cons S13 (CM.mono S116 (by decide) (by decide)) (by decide) (by decide)) (by omega) (by omega) (by omega) (by omega) (by (have h9 := HgtS (g := I r0_1) (b := 198 + 401 * n1.toNatClampNeg) (x := x10) (y := x121) (by omega) (by omega)); (have h8 := hS.2.2 x10.toNatClampNeg (by have := ncz (x := x10) (by omega); omega)); (split at h9 <;> first | omega | (split at h9 <;> omega))) (by omega) (by first | exact TRI.less ff5_2 hel (by omega) rfl (by omega) (by omega) (by omega) | exact TRI.lay ff5_2 hel (by omega) hu49 (by omega) (by first | (rw [if_pos (by omega)] <;> omega) | (rw [if_neg (by omega)] <;> omega)) (by omega) (by omega) (by omega) (by omega) | exact TRI.jn ff5_2 hel (by omega) (by omega) ra72 rb80 hu167 (by omega) (by omega) (by omega) (by omega) hz19 (by first | (rw [if_pos (by omega)] <;> omega) | (rw [if_neg (by omega), if_pos (by omega)] <;> omega) | (rw [if_neg (by omega), if_neg (by omega), if_pos (by omega)] <;> omega) | (rw [if_neg (by omega), if_neg (by omega), if_neg (by omega)] <;> omega)) (by omega) (by omega) (by omega))
      refine k_aload_n C rfl rfl rfl ?_
      refine g_R C rfl rfl rfl T_r0 rfl R_r0_20 ?_
      refine k_iload_n C rfl rfl rfl ?_
      refine k_iload C rfl rfl rfl ?_
      refine b_if_ne C (t := 48) rfl rfl rfl (fun c122 => ?_) (fun c122 => ?_)
      · skip
        refine z_iconst C (z := 0) rfl rfl rfl (fun x123 ex123 => ?_)
        obtain ⟨T_r0_20, N_r0_20, A_r0_20⟩ := id H_r0_20
        refine z_sI C rfl rfl T_r0_20 N_r0_20 (by omega) (by omega) (fun I124 uI124 => ?_)
        have hI124 : IM R r0 I124 := IM.arr hI14 G_r0 R_r0_20 ⟨(fun h => absurd h (by decide)), (fun h => absurd h (by decide)), (fun h => absurd h (by decide))⟩ (fun h => absurd h (by decide)) uI124
        have S125 : CM A R r0 [] [20] I5 L6 I124 L6 := CM.a G_r0 R_r0_20 A_r0_20 uI124
        have e126 := u2_n uI124 (mF.nq G_r0 R_r0_1 R_r0_20 (by decide)) e15
        have e127 := u2_e uI124
        have hu49 := uI124
        refine z_iinc C (z := 1) (lw := fun x128 => [(3, .int x128), (5, .int x20), (0, .ref r0), (1, .int n1), (2, .int n2), (4, .int x10)]) rfl rfl rfl (Nat.le_of_ble_eq_true rfl) rfl ⟨by omega, by omega⟩ (fun _ => rfl) (fun x128 ex128 => ?_)
        show V 53 [(3, .int x128), (5, .int x20), (0, .ref r0), (1, .int n1), (2, .int n2), (4, .int x10)] _ _ _ _
        refine k_goto C (pc2 := 168) rfl rfl ?_
        refine z_iinc C (z := 1) (lw := fun x129 => [(4, .int x129), (3, .int x128), (5, .int x20), (0, .ref r0), (1, .int n1), (2, .int n2)]) rfl rfl rfl (Nat.le_of_ble_eq_true rfl) rfl ⟨by omega, by omega⟩ (fun _ => rfl) (fun x129 ex129 => ?_)
        show V 171 [(4, .int x129), (3, .int x128), (5, .int x20), (0, .ref r0), (1, .int n1), (2, .int n2)] _ _ _ _
        refine k_goto C (pc2 := 5) rfl rfl ?_
        refine k_sub S [(0, .ref r0), (1, .int n1), (2, .int n2), (3, .int x128), (4, .int x129)] (List.forall_mem_cons.mpr ⟨List.mem_of_getElem? (i := 3) rfl, List.forall_mem_cons.mpr ⟨List.mem_of_getElem? (i := 4) rfl, List.forall_mem_cons.mpr ⟨List.mem_of_getElem? (i := 5) rfl, List.forall_mem_cons.mpr ⟨List.mem_of_getElem? (i := 1) rfl, List.forall_mem_cons.mpr ⟨List.mem_of_getElem? (i := 0) rfl, fun _ h => nomatch h⟩⟩⟩⟩⟩) ?_
        exact ihJ3 _ (MN.lt hmnn4 (by omega) (by omega)) I124 L6 x128 x129 rfl hI124 (CM.cons S13 (CM.mono S125 (by decide) (by decide)) (by decide) (by decide)) (by omega) (by omega) (by omega) (by omega) (by (have h9 := HgtS (g := I r0_1) (b := 198 + 401 * n1.toNatClampNeg) (x := x10) (y := x129) (by omega) (by omega)); (have h8 := hS.2.2 x10.toNatClampNeg (by have := ncz (x := x10) (by omega); omega)); (split at h9 <;> first | omega | (split at h9 <;> omega))) (by omega) (by first | exact TRI.less ff5_2 hel (by omega) rfl (by omega) (by omega) (by omega) | exact TRI.lay ff5_2 hel (by omega) hu49 (by omega) (by first | (rw [if_pos (by omega)] <;> omega) | (rw [if_neg (by omega)] <;> omega)) (by omega) (by omega) (by omega) (by omega) | exact TRI.jn ff5_2 hel (by omega) (by omega) ra72 rb80 hu167 (by omega) (by omega) (by omega) (by omega) hz19 (by first | (rw [if_pos (by omega)] <;> omega) | (rw [if_neg (by omega), if_pos (by omega)] <;> omega) | (rw [if_neg (by omega), if_neg (by omega), if_pos (by omega)] <;> omega) | (rw [if_neg (by omega), if_neg (by omega), if_neg (by omega)] <;> omega)) (by omega) (by omega) (by omega))
      refine k_iload_n C rfl rfl rfl ?_
      refine b_if_ne C (t := 48) rfl rfl rfl (fun c130 => ?_) (fun c130 => ?_)
      · skip
        refine z_iconst C (z := 0) rfl rfl rfl (fun x131 ex131 => ?_)
        obtain ⟨T_r0_20, N_r0_20, A_r0_20⟩ := id H_r0_20
        refine z_sI C rfl rfl T_r0_20 N_r0_20 (by omega) (by omega) (fun I132 uI132 => ?_)
        have hI132 : IM R r0 I132 := IM.arr hI14 G_r0 R_r0_20 ⟨(fun h => absurd h (by decide)), (fun h => absurd h (by decide)), (fun h => absurd h (by decide))⟩ (fun h => absurd h (by decide)) uI132
        have S133 : CM A R r0 [] [20] I5 L6 I132 L6 := CM.a G_r0 R_r0_20 A_r0_20 uI132
        have e134 := u2_n uI132 (mF.nq G_r0 R_r0_1 R_r0_20 (by decide)) e15
        have e135 := u2_e uI132
        have hu49 := uI132
        refine z_iinc C (z := 1) (lw := fun x136 => [(3, .int x136), (5, .int x20), (0, .ref r0), (1, .int n1), (2, .int n2), (4, .int x10)]) rfl rfl rfl (Nat.le_of_ble_eq_true rfl) rfl ⟨by omega, by omega⟩ (fun _ => rfl) (fun x136 ex136 => ?_)
        show V 53 [(3, .int x136), (5, .int x20), (0, .ref r0), (1, .int n1), (2, .int n2), (4, .int x10)] _ _ _ _
        refine k_goto C (pc2 := 168) rfl rfl ?_
        refine z_iinc C (z := 1) (lw := fun x137 => [(4, .int x137), (3, .int x136), (5, .int x20), (0, .ref r0), (1, .int n1), (2, .int n2)]) rfl rfl rfl (Nat.le_of_ble_eq_true rfl) rfl ⟨by omega, by omega⟩ (fun _ => rfl) (fun x137 ex137 => ?_)
        show V 171 [(4, .int x137), (3, .int x136), (5, .int x20), (0, .ref r0), (1, .int n1), (2, .int n2)] _ _ _ _
        refine k_goto C (pc2 := 5) rfl rfl ?_
        refine k_sub S [(0, .ref r0), (1, .int n1), (2, .int n2), (3, .int x136), (4, .int x137)] (List.forall_mem_cons.mpr ⟨List.mem_of_getElem? (i := 3) rfl, List.forall_mem_cons.mpr ⟨List.mem_of_getElem? (i := 4) rfl, List.forall_mem_cons.mpr ⟨List.mem_of_getElem? (i := 5) rfl, List.forall_mem_cons.mpr ⟨List.mem_of_getElem? (i := 1) rfl, List.forall_mem_cons.mpr ⟨List.mem_of_getElem? (i := 0) rfl, fun _ h => nomatch h⟩⟩⟩⟩⟩) ?_
        exact ihJ3 _ (MN.lt hmnn4 (by omega) (by omega)) I132 L6 x136 x137 rfl hI132 (CM.cons S13 (CM.mono S133 (by decide) (by decide)) (by decide) (by decide)) (by omega) (by omega) (by omega) (by omega) (by (have h9 := HgtS (g := I r0_1) (b := 198 + 401 * n1.toNatClampNeg) (x := x10) (y := x137) (by omega) (by omega)); (have h8 := hS.2.2 x10.toNatClampNeg (by have := ncz (x := x10) (by omega); omega)); (split at h9 <;> first | omega | (split at h9 <;> omega))) (by omega) (by first | exact TRI.less ff5_2 hel (by omega) rfl (by omega) (by omega) (by omega) | exact TRI.lay ff5_2 hel (by omega) hu49 (by omega) (by first | (rw [if_pos (by omega)] <;> omega) | (rw [if_neg (by omega)] <;> omega)) (by omega) (by omega) (by omega) (by omega) | exact TRI.jn ff5_2 hel (by omega) (by omega) ra72 rb80 hu167 (by omega) (by omega) (by omega) (by omega) hz19 (by first | (rw [if_pos (by omega)] <;> omega) | (rw [if_neg (by omega), if_pos (by omega)] <;> omega) | (rw [if_neg (by omega), if_neg (by omega), if_pos (by omega)] <;> omega) | (rw [if_neg (by omega), if_neg (by omega), if_neg (by omega)] <;> omega)) (by omega) (by omega) (by omega))
      refine z_iconst C (z := 1) rfl rfl rfl (fun x138 ex138 => ?_)
      refine k_goto C (pc2 := 49) rfl rfl ?_
      obtain ⟨T_r0_20, N_r0_20, A_r0_20⟩ := id H_r0_20
      refine z_sI C rfl rfl T_r0_20 N_r0_20 (by omega) (by omega) (fun I139 uI139 => ?_)
      have hI139 : IM R r0 I139 := IM.arr hI14 G_r0 R_r0_20 ⟨(fun h => absurd h (by decide)), (fun h => absurd h (by decide)), (fun h => absurd h (by decide))⟩ (fun h => absurd h (by decide)) uI139
      have S140 : CM A R r0 [] [20] I5 L6 I139 L6 := CM.a G_r0 R_r0_20 A_r0_20 uI139
      have e141 := u2_n uI139 (mF.nq G_r0 R_r0_1 R_r0_20 (by decide)) e15
      have e142 := u2_e uI139
      have hu49 := uI139
      refine z_iinc C (z := 1) (lw := fun x143 => [(3, .int x143), (5, .int x20), (0, .ref r0), (1, .int n1), (2, .int n2), (4, .int x10)]) rfl rfl rfl (Nat.le_of_ble_eq_true rfl) rfl ⟨by omega, by omega⟩ (fun _ => rfl) (fun x143 ex143 => ?_)
      show V 53 [(3, .int x143), (5, .int x20), (0, .ref r0), (1, .int n1), (2, .int n2), (4, .int x10)] _ _ _ _
      refine k_goto C (pc2 := 168) rfl rfl ?_
      refine z_iinc C (z := 1) (lw := fun x144 => [(4, .int x144), (3, .int x143), (5, .int x20), (0, .ref r0), (1, .int n1), (2, .int n2)]) rfl rfl rfl (Nat.le_of_ble_eq_true rfl) rfl ⟨by omega, by omega⟩ (fun _ => rfl) (fun x144 ex144 => ?_)
      show V 171 [(4, .int x144), (3, .int x143), (5, .int x20), (0, .ref r0), (1, .int n1), (2, .int n2)] _ _ _ _
      refine k_goto C (pc2 := 5) rfl rfl ?_
      refine k_sub S [(0, .ref r0), (1, .int n1), (2, .int n2), (3, .int x143), (4, .int x144)] (List.forall_mem_cons.mpr ⟨List.mem_of_getElem? (i := 3) rfl, List.forall_mem_cons.mpr ⟨List.mem_of_getElem? (i := 4) rfl, List.forall_mem_cons.mpr ⟨List.mem_of_getElem? (i := 5) rfl, List.forall_mem_cons.mpr ⟨List.mem_of_getElem? (i := 1) rfl, List.forall_mem_cons.mpr ⟨List.mem_of_getElem? (i := 0) rfl, fun _ h => nomatch h⟩⟩⟩⟩⟩) ?_
      exact ihJ3 _ (MN.lt hmnn4 (by omega) (by omega)) I139 L6 x143 x144 rfl hI139 (CM.cons S13 (CM.mono S140 (by decide) (by decide)) (by decide) (by decide)) (by omega) (by omega) (by omega) (by omega) (by (have h9 := HgtS (g := I r0_1) (b := 198 + 401 * n1.toNatClampNeg) (x := x10) (y := x144) (by omega) (by omega)); (have h8 := hS.2.2 x10.toNatClampNeg (by have := ncz (x := x10) (by omega); omega)); (split at h9 <;> first | omega | (split at h9 <;> omega))) (by omega) (by first | exact TRI.less ff5_2 hel (by omega) rfl (by omega) (by omega) (by omega) | exact TRI.lay ff5_2 hel (by omega) hu49 (by omega) (by first | (rw [if_pos (by omega)] <;> omega) | (rw [if_neg (by omega)] <;> omega)) (by omega) (by omega) (by omega) (by omega) | exact TRI.jn ff5_2 hel (by omega) (by omega) ra72 rb80 hu167 (by omega) (by omega) (by omega) (by omega) hz19 (by first | (rw [if_pos (by omega)] <;> omega) | (rw [if_neg (by omega), if_pos (by omega)] <;> omega) | (rw [if_neg (by omega), if_neg (by omega), if_pos (by omega)] <;> omega) | (rw [if_neg (by omega), if_neg (by omega), if_neg (by omega)] <;> omega)) (by omega) (by omega) (by omega))
  refine k_istore C (lw := [(4, .int x2), (3, .int x1), (0, .ref r0), (1, .int n1), (2, .int n2)]) rfl rfl (Nat.le_of_ble_eq_true rfl) rfl ?_
  refine k_sub S [(0, .ref r0), (1, .int n1), (2, .int n2), (3, .int x1), (4, .int x2)] (List.forall_mem_cons.mpr ⟨List.mem_of_getElem? (i := 2) rfl, List.forall_mem_cons.mpr ⟨List.mem_of_getElem? (i := 3) rfl, List.forall_mem_cons.mpr ⟨List.mem_of_getElem? (i := 4) rfl, List.forall_mem_cons.mpr ⟨List.mem_of_getElem? (i := 1) rfl, List.forall_mem_cons.mpr ⟨List.mem_of_getElem? (i := 0) rfl, fun _ h => nomatch h⟩⟩⟩⟩⟩) ?_
  exact J3 _ I L x1 x2 rfl hI CM.rf (by omega) (by omega) (by omega) (by omega) (by rw [nck (x := x2) (n := 0) (by omega)]; show _ = (0 : Int); omega) (by omega) (by exact TRI.z (by omega) (by omega))

theorem a_X12_noSigns_e {d : Nat} {T N : Nat → Nat} {I : IT} {L : LT} {R : RT} {A : Nat → Prop} {r0 : Nat} {n1 : Int32} (hI : IM R r0 I) (H_r0 : (h_MD T N R A) r0) : Ex (d + 2) 186 [.ref r0, .int n1] (T, N, I, L, R) 0 0 (pI T N R (fun x9 I9 L9 => (0 ≤ x9.toInt) ∧ (x9.toInt ≤ 1) ∧ (∀ a1, R r0 1 = some a1 → x9.toInt = 1 ∧ (n1.toInt < 0 ∨ (I a1 3).toInt ≤ n1.toInt) ∨ x9.toInt = 0 ∧ 0 ≤ n1.toInt ∧ n1.toInt < (I a1 3).toInt) ∧ (I = I9 ∧ L = L9))) := by
  refine ⟨_, rfl, Nat.le_of_ble_eq_true rfl, fun V C S => ?_⟩
  show V 0 [(0, .ref r0), (1, .int n1)] [] (T, N, I, L, R) 0 0
  have gn1 := rg n1
  obtain ⟨T_r0, A_r0, ⟨r0_1, R_r0_1, H_r0_1⟩, ⟨r0_2, R_r0_2, H_r0_2⟩, ⟨r0_4, R_r0_4, H_r0_4⟩, ⟨r0_5, R_r0_5, H_r0_5⟩, ⟨r0_10, R_r0_10, H_r0_10⟩, ⟨r0_18, R_r0_18, H_r0_18⟩, ⟨r0_20, R_r0_20, H_r0_20⟩, ⟨r0_21, R_r0_21, H_r0_21⟩, ⟨r0_22, R_r0_22, H_r0_22⟩, ⟨r0_23, R_r0_23, H_r0_23⟩, ⟨r0_25, R_r0_25, H_r0_25⟩, ⟨r0_26, R_r0_26, H_r0_26⟩, ⟨r0_27, R_r0_27, H_r0_27⟩, ⟨r0_28, R_r0_28, H_r0_28⟩, ⟨r0_34, R_r0_34, H_r0_34⟩, J_r0, Y_r0⟩ := id H_r0
  have G_r0 : mF T R r0 := ⟨J_r0, Y_r0, T_r0⟩
  obtain ⟨w_r0_1_3, k0_r0_1_3⟩ : ∃ x, I r0_1 3 = x := ⟨_, rfl⟩
  have gw_r0_1_3 := rg w_r0_1_3
  have ow_r0_1_3 := IM.c3 hI R_r0_1 k0_r0_1_3
  refine k_iload_n C rfl rfl rfl ?_
  refine z_iconst C (z := 0) rfl rfl rfl (fun x1 ex1 => ?_)
  refine k_aload_n C rfl rfl rfl ?_
  refine g_R C rfl rfl rfl T_r0 rfl R_r0_1 ?_
  refine z_iconst C (z := 3) rfl rfl rfl (fun x2 ex2 => ?_)
  obtain ⟨T_r0_1, N_r0_1, A_r0_1⟩ := id H_r0_1
  refine a_I C rfl rfl T_r0_1 (by rw [N_r0_1]; exact vpi (by omega) (by omega)) ((congrArg (I r0_1) (nck (n := 3) (by omega))).trans k0_r0_1_3) ?_
  refine z_iconst C (z := 1) rfl rfl rfl (fun x3 ex3 => ?_)
  refine z_isub C rfl rfl ⟨by omega, by omega⟩ (fun x4 ex4 => ?_)
  have q5 : x1.toNatClampNeg = 0 := nck (by omega)
  refine c_SI C a_X12_in rfl rfl rfl rfl rfl rfl rfl (Nat.le_of_ble_eq_true rfl) (Nat.le_of_ble_eq_true rfl) (Nat.le_of_ble_eq_true rfl) ?_
  rintro x6 _ _ ⟨o0x6, o1x6, p0x6, rfl, rfl⟩
  have gx6 := rg x6
  try simp only [q5, k0_r0_1_3] at p0x6
  try have q0x6 := congrArg Int32.toInt p0x6
  refine b_if_ne C (t := 20) rfl rfl rfl (fun c7 => ?_) (fun c7 => ?_)
  · skip
    refine z_iconst C (z := 0) rfl rfl rfl (fun x8 ex8 => ?_)
    exact k_iret C rfl (Or.inr ⟨rfl, z01 (by omega) (by omega)⟩) (Nat.le_of_ble_eq_true rfl) (Nat.le_of_ble_eq_true rfl) ⟨_, _, _, rfl, rfl, by omega, by omega, fun a1 h1 => by cases (R_r0_1.symm.trans h1); first | omega | (simp only [k0_r0_1_3, and_true, true_and, or_true, true_or, and_false, false_and, or_false, false_or] <;> omega), rfl, rfl⟩
  refine z_iconst C (z := 1) rfl rfl rfl (fun x9 ex9 => ?_)
  refine k_goto C (pc2 := 21) rfl rfl ?_
  exact k_iret C rfl (Or.inr ⟨rfl, z01 (by omega) (by omega)⟩) (Nat.le_of_ble_eq_true rfl) (Nat.le_of_ble_eq_true rfl) ⟨_, _, _, rfl, rfl, by omega, by omega, fun a1 h1 => by cases (R_r0_1.symm.trans h1); first | omega | (simp only [k0_r0_1_3, and_true, true_and, or_true, true_or, and_false, false_and, or_false, false_or] <;> omega), rfl, rfl⟩

