/-! the reference: rank, exactly -/
/-- a row in the world -/
theorem HOK.w {W : Nat → Int32} {n : Nat} (h : SGN W (198 + 401 * n)) (v : HLV (WSL W n)) : HOK (WSL W n) 0 := by
  obtain ⟨h1, h2, h3⟩ := h
  have gj : ∀ j (hj : j < (WSL W n).length), (WSL W n)[j] = ((W (199 + 401 * n + 2 * j)).toInt, (W (200 + 401 * n + 2 * j)).toInt) := fun j hj => by
    have q : (WSL W n)[j]? = some ((W (199 + 401 * n + 2 * j)).toInt, (W (200 + 401 * n + 2 * j)).toInt) := by
      rw [WSL.len] at hj
      unfold WSL
      rw [List.getElem?_map, List.getElem?_range hj]
      rfl
    obtain ⟨_, e⟩ := List.getElem?_eq_some_iff.mp q
    exact e
  have ln := WSL.len (W := W) (n := n)
  refine HOK.ix (WSL W n) (Hgt W (198 + 401 * n)) 0 (fun j hj => ?_) (fun j hj => ?_) (Int.le_refl 0) (by have := v.2.1; omega) (by have := v.1; show (0 : Int) + _ = 1; omega)
  · rw [gj j hj]
    show Hgt W (198 + 401 * n) j + (if (W (198 + 401 * n + 1 + 2 * j)).toInt ≤ 1 then 1 else if (W (198 + 401 * n + 1 + 2 * j)).toInt = 5 then 0 else -1) = _
    rw [show 198 + 401 * n + 1 + 2 * j = 199 + 401 * n + 2 * j from by omega]
    rfl
  · rw [gj j hj]
    have q := h3 j (by omega)
    rw [show 198 + 401 * n + 1 + 2 * j = 199 + 401 * n + 2 * j from by omega, show 198 + 401 * n + 2 + 2 * j = 200 + 401 * n + 2 * j from by omega] at q
    obtain ⟨q1, q2, q3, q4, q5, q6, q7, q8, q9⟩ := q
    exact ⟨q1, q2, q3, q5, q8⟩
/-- the class's reckoning is the reference's -/
theorem RK.eq {W : Nat → Int32} {n : Nat} {w : Int} (h : SGN W (198 + 401 * n)) (v : HLV (WSL W n)) : RKC (TCL w (WSL W n) (0, fun _ => 0)) = (TRL w (WSL W n) (0, fun _ => 0)).2 0 := TCL.eq _ _ _ 0 (HOK.w h v) rfl ⟨rfl, fun j hj => by have hj : j < 0 := hj; omega⟩
def PO9 (v : Int) : Int := if v < 0 then 0 else v
theorem PO9.b (v : Int) : 0 ≤ PO9 v ∧ v ≤ PO9 v ∧ (0 ≤ v → PO9 v = v) := by
  unfold PO9
  by_cases q : v < 0
  · rw [if_pos q]; omega
  · rw [if_neg q]; omega
/-- so far, the reference's -/
def TRI (w : Int) (l : List (Int × Int)) (k top : Int) (f : Nat → Int32) : Prop := ∃ s : TSt, top = s.1 ∧ (∀ j, j < s.1 → (f j).toInt = s.2 j) ∧ GE1 s ∧ SMT (fun j => PO9 (s.2 j)) s.1 ≤ 1000 * k ∧ TRL w l (0, fun _ => 0) = TRL w (l.drop k.toNat) s
theorem TRI.z {w k top : Int} {l : List (Int × Int)} {f : Nat → Int32} (hk : k = 0) (ht : top = 0) : TRI w l k top f := by
  subst hk; subst ht
  exact ⟨(0, fun _ => 0), rfl, fun j hj => by have hj : j < 0 := hj; omega, fun j hj => by have hj : j < 0 := hj; omega, by decide, rfl⟩
theorem TRI.b {w k top : Int} {l : List (Int × Int)} {f : Nat → Int32} {i j a b : Int32} (h : TRI w l k top f) (ra : f i.toNatClampNeg = a) (rb : f j.toNatClampNeg = b) (hi : i.toInt = top - 2) (hj : j.toInt = top - 1) (h2 : 2 ≤ top) (hk : k ≤ 200) : -1 ≤ a.toInt ∧ -1 ≤ b.toInt ∧ a.toInt + b.toInt ≤ 200000 := by
  obtain ⟨⟨n, g⟩, e, c, ge, d, -⟩ := h
  have e : top = (n : Int) := e
  have c : ∀ j, j < n → (f j).toInt = g j := c
  have ge : ∀ j, j < n → -1 ≤ g j := ge
  have d : SMT (fun j => PO9 (g j)) n ≤ 1000 * k := d
  have i0 := ncz (x := i) (by omega)
  have j0 := ncz (x := j) (by omega)
  have c1 := c i.toNatClampNeg (by omega)
  have c2 := c j.toNatClampNeg (by omega)
  rw [ra] at c1
  rw [rb] at c2
  have g1 := ge i.toNatClampNeg (by omega)
  have g2 := ge j.toNatClampNeg (by omega)
  have t := SMT.two (g := fun j => PO9 (g j)) (n := n) (by omega)
  have z := SMT.ge (g := fun j => PO9 (g j)) (n - 2) (fun j _ => (PO9.b _).1)
  rw [show n - 2 = i.toNatClampNeg from by omega, show n - 1 = j.toNatClampNeg from by omega] at t
  have t : SMT (fun j => PO9 (g j)) n = SMT (fun j => PO9 (g j)) i.toNatClampNeg + PO9 (g i.toNatClampNeg) + PO9 (g j.toNatClampNeg) := t
  rw [show n - 2 = i.toNatClampNeg from by omega] at z
  have p1 := PO9.b (g i.toNatClampNeg)
  have p2 := PO9.b (g j.toNatClampNeg)
  omega
theorem TRI.st {w k : Int} {l : List (Int × Int)} {x : Int × Int} {s : TSt} (r : TRL w l (0, fun _ => 0) = TRL w (l.drop k.toNat) s) (hx : l[k.toNat]? = some x) : TRL w l (0, fun _ => 0) = TRL w (l.drop (k.toNat + 1)) (TR1 w x s) := by rw [r, DRP hx]; rfl
theorem TRI.less {f f' : Nat → Int32} {w k k' top top' kd z : Int} {l : List (Int × Int)} (h : TRI w l k top f) (hx : l[k.toNat]? = some (kd, z)) (h5 : kd = 5) (hf : f' = f) (h0 : 0 ≤ k) (hk : k' = k + 1) (hp : top' = top) : TRI w l k' top' f' := by
  subst hf
  obtain ⟨s, e, c, ge, d, r⟩ := h
  have rs := TRI.st r hx
  have t1 : TR1 w (kd, z) s = s := by
    unfold TR1
    rw [if_neg (by show ¬ kd ≤ 1; omega), if_pos (show (kd, z).1 = 5 from h5)]
  rw [t1] at rs
  exact ⟨s, by omega, c, ge, by omega, by rw [rs, show k'.toNat = k.toNat + 1 from by omega]⟩
theorem HGT.l {W : Nat → Int32} {n : Nat} : ∀ k, HGL ((List.range k).map (fun k => ((W (199 + 401 * n + 2 * k)).toInt, (W (200 + 401 * n + 2 * k)).toInt))) = Hgt W (198 + 401 * n) k
  | 0 => rfl
  | k + 1 => by
    rw [List.range_succ, List.map_append, (HGL.ap _ _).1, HGT.l k]
    show _ + (HG1 (W (199 + 401 * n + 2 * k)).toInt + 0) = Hgt W (198 + 401 * n) k + (if (W (198 + 401 * n + 1 + 2 * k)).toInt ≤ 1 then 1 else if (W (198 + 401 * n + 1 + 2 * k)).toInt = 5 then 0 else -1)
    rw [show 198 + 401 * n + 1 + 2 * k = 199 + 401 * n + 2 * k from by omega]
    unfold HG1
    omega
theorem TRI.end {f : Nat → Int32} {W : Nat → Int32} {n : Nat} {w top x : Int} {k : Int32} (h : TRI w (WSL W n) k.toInt top f) (hk : k.toInt = (W (198 + 401 * n)).toInt) (h0 : 0 ≤ k.toInt) (ht : top = Hgt W (198 + 401 * n) k.toNatClampNeg) (hx : x = (f 0).toInt) : HGL (WSL W n) = 1 → x = (TRL w (WSL W n) (0, fun _ => 0)).2 0 := fun g => by
  have n0 := ncz h0
  obtain ⟨s, e, c, ge, d, r⟩ := h
  have l := WSL.len (W := W) (n := n)
  have hl : HGL (WSL W n) = Hgt W (198 + 401 * n) (W (198 + 401 * n)).toInt.toNat := HGT.l _
  rw [← hk, show k.toInt.toNat = k.toNatClampNeg from by omega] at hl
  rw [r, show k.toInt.toNat = (WSL W n).length from by omega, List.drop_length, hx]
  exact c 0 (by omega)
theorem WSL.get {W : Nat → Int32} {n k : Int32} (h0 : 0 ≤ k.toInt) (h1 : k.toInt < (W (198 + 401 * n.toNatClampNeg)).toInt) : (WSL W n.toNatClampNeg)[k.toInt.toNat]? = some ((W (198 + 401 * n.toNatClampNeg + 1 + 2 * k.toNatClampNeg)).toInt, (W (198 + 401 * n.toNatClampNeg + 2 + 2 * k.toNatClampNeg)).toInt) := by
  have n0 := ncz h0
  unfold WSL
  rw [List.getElem?_map, List.getElem?_range (by omega), show k.toInt.toNat = k.toNatClampNeg from by omega, show 198 + 401 * n.toNatClampNeg + 1 + 2 * k.toNatClampNeg = 199 + 401 * n.toNatClampNeg + 2 * k.toNatClampNeg from by omega, show 198 + 401 * n.toNatClampNeg + 2 + 2 * k.toNatClampNeg = 200 + 401 * n.toNatClampNeg + 2 * k.toNatClampNeg from by omega]
  rfl
theorem SZL.w {W : Nat → Int32} {n : Nat} (h : SGN W (198 + 401 * n)) : SZL (WSL W n) := fun k x hx => by
  unfold WSL at hx
  rw [List.getElem?_map] at hx
  by_cases q : k < (W (198 + 401 * n)).toInt.toNat
  · rw [List.getElem?_range q] at hx
    cases hx
    obtain ⟨q1, q2, q3, q4, -⟩ := h.2.2 k (by omega)
    rw [show 198 + 401 * n + 1 + 2 * k = 199 + 401 * n + 2 * k from by omega] at q1 q2
    rw [show 198 + 401 * n + 2 + 2 * k = 200 + 401 * n + 2 * k from by omega] at q3 q4
    exact ⟨q1, q2, q3, q4⟩
  · rw [List.getElem?_eq_none (by rw [List.length_range]; omega)] at hx; cases hx
