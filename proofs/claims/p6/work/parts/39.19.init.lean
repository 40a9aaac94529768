def gArrZ (M : Mm) (b t n : Nat) : Prop := gArr M b t n ∧ ∀ j, mI M b j = 0
theorem gArrZ.st {M M1 : Mm} {b t n u : Nat} (h : gArrZ M b t n) (a : Stt u M M1) (h0 : t ≠ 0) (hu : t ≠ u) : gArrZ M1 b t n := ⟨h.1.st a h0 hu, fun j => (congrFun (a b (by rw [h.1.1]; exact h0) (by rw [h.1.1]; exact hu)).2.2.1 j).trans (h.2 j)⟩
def RFS : List Nat := [34, 28, 27, 26, 25, 23, 22, 21, 20, 18, 10, 5, 4, 2, 1]
def gMd (M0 M1 : Mm) (x : Nat) : Prop := mT M1 x = 13 ∧ mI M1 x 0 = 0 ∧ mI M1 x 3 = 0 ∧ mI M1 x 11 = 0 ∧ mI M1 x 17 = -1 ∧ mI M1 x 35 = 0 ∧ mI M1 x 36 = 0 ∧ mI M1 x 37 = 0 ∧ (∀ j, j ≠ 17 → mI M1 x j = 0) ∧ (∀ j, j ∉ RFS → mR M1 x j = none) ∧ ∃ w im dg nu tp fv rk wy rs dn vd pw sp fc wl : Nat, mI M1 w 0 = 11 ∧ (∀ j, 1 ≤ j → mI M1 w j = 0) ∧ w ≠ dn ∧ dg ≠ rk ∧ sp ≠ fc ∧ mR M1 x 1 = some w ∧ gArr M1 w 20 4007 ∧ mT M0 w = 0 ∧ mR M1 x 2 = some im ∧ gArr M1 im 20 3606 ∧ mT M0 im = 0 ∧ mR M1 x 4 = some dg ∧ gArrZ M1 dg 20 48 ∧ mT M0 dg = 0 ∧ mR M1 x 5 = some nu ∧ gArrZ M1 nu 20 1968 ∧ mT M0 nu = 0 ∧ mR M1 x 10 = some tp ∧ gArr M1 tp 22 400 ∧ mT M0 tp = 0 ∧ mR M1 x 18 = some fv ∧ gArr M1 fv 20 5 ∧ mT M0 fv = 0 ∧ mR M1 x 20 = some rk ∧ gArr M1 rk 20 48 ∧ mT M0 rk = 0 ∧ mR M1 x 21 = some wy ∧ gArr M1 wy 21 1261 ∧ mT M0 wy = 0 ∧ mR M1 x 22 = some rs ∧ gArrZ M1 rs 20 3936 ∧ mT M0 rs = 0 ∧ mR M1 x 23 = some dn ∧ gArrZ M1 dn 20 108 ∧ mT M0 dn = 0 ∧ mR M1 x 25 = some vd ∧ gArr M1 vd 20 361 ∧ mT M0 vd = 0 ∧ mR M1 x 26 = some pw ∧ gArrZ M1 pw 20 180 ∧ mT M0 pw = 0 ∧ mR M1 x 27 = some sp ∧ gArrZ M1 sp 20 3 ∧ mT M0 sp = 0 ∧ mR M1 x 28 = some fc ∧ gArrZ M1 fc 20 3 ∧ mT M0 fc = 0 ∧ mR M1 x 34 = some wl ∧ gArr M1 wl 21 4 ∧ mT M0 wl = 0
set_option maxHeartbeats 1000000 in
theorem i_X12 {d : Nat} {M : Mm} {x : Nat} (hT : mT M x = 13) (h0 : ∀ j, mI M x j = 0) (hR : ∀ j, mR M x j = none) : Ex (d + 1) 180 [.ref x] M 15 15938 (pC fun M1 => Ex1 x M M1 ∧ gMd M M1 x) := by
  refine ⟨_, rfl, Nat.le_of_ble_eq_true rfl, fun V C S => ?_⟩
  show V 0 [(0, .ref x)] [] M 0 0
  have hX : Ex1 x M M := Ex1.rf
  have iO : ∀ j, j ≠ 17 → mI M x j = 0 := fun j _ => h0 j
  have rO : ∀ j, j ∉ ([] : List Nat) → mR M x j = none := fun j _ => hR j
  have i0 : mI M x 0 = 0 := h0 0
  have i3 : mI M x 3 = 0 := h0 3
  have i11 : mI M x 11 = 0 := h0 11
  have i17 : mI M x 17 = 0 := h0 17
  have i35 : mI M x 35 = 0 := h0 35
  have i36 : mI M x 36 = 0 := h0 36
  have i37 : mI M x 37 = 0 := h0 37
  refine k_aload_n C rfl rfl rfl ?_
  refine i_obj C rfl rfl rfl (Nat.le_of_ble_eq_true rfl) ?_
  refine k_aload_n C rfl rfl rfl ?_
  refine k_sipush C (x := 4007) rfl rfl rfl ?_
  refine i_arr C (tt := 0) (n := 4007) rfl rfl rfl (Or.inl ⟨rfl, rfl⟩) (by decide) (by decide) (Nat.le_of_ble_eq_true rfl) rfl rfl (Nat.le_of_ble_eq_true rfl) (Nat.le_of_ble_eq_true rfl) rfl hT ⟨rfl, rfl⟩ rfl (fun b1 M1 s => ?_)
  have n1 := hX.fresh (by rw [hT]; decide) s.2.2.2.2.2.2.2.2.2
  have hx9 := s.1.st hT
  have hX := hX.tr s.1
  have i0 := (congrFun s.2.2.1 0).trans i0
  have iO : ∀ j, j ≠ 17 → mI M1 x j = 0 := fun j hj => (congrFun s.2.2.1 j).trans (iO j hj)
  have i3 := (congrFun s.2.2.1 3).trans i3
  have i11 := (congrFun s.2.2.1 11).trans i11
  have i17 := (congrFun s.2.2.1 17).trans i17
  have i35 := (congrFun s.2.2.1 35).trans i35
  have i36 := (congrFun s.2.2.1 36).trans i36
  have i37 := (congrFun s.2.2.1 37).trans i37
  have r1 := s.2.2.2.2.2.1
  have rO : ∀ j, j ∉ ([1] : List Nat) → mR M1 x j = none := fun j hj => (s.2.2.2.2.1 j (fun e => hj (by rw [e]; exact List.mem_cons_self))).trans (rO j (fun h => hj (List.mem_cons_of_mem _ h)))
  have p1 : gArrZ _ b1 20 4007 := ⟨s.2.2.2.2.2.2.1, s.2.2.2.2.2.2.2.1⟩
  have hT := s.2.1.trans hT
  refine k_aload_n C rfl rfl rfl ?_
  refine k_sipush C (x := 3606) rfl rfl rfl ?_
  refine i_arr C (tt := 0) (n := 3606) rfl rfl rfl (Or.inl ⟨rfl, rfl⟩) (by decide) (by decide) (Nat.le_of_ble_eq_true rfl) rfl rfl (Nat.le_of_ble_eq_true rfl) (Nat.le_of_ble_eq_true rfl) rfl hT ⟨rfl, rfl⟩ rfl (fun b2 M1 s => ?_)
  have n2 := hX.fresh (by rw [hT]; decide) s.2.2.2.2.2.2.2.2.2
  have hx9 := s.1.st hT
  have p1 := p1.st hx9 (by decide) (by decide)
  have hX := hX.tr s.1
  have r1 := (s.2.2.2.2.1 1 (by decide)).trans r1
  have i0 := (congrFun s.2.2.1 0).trans i0
  have iO : ∀ j, j ≠ 17 → mI M1 x j = 0 := fun j hj => (congrFun s.2.2.1 j).trans (iO j hj)
  have i3 := (congrFun s.2.2.1 3).trans i3
  have i11 := (congrFun s.2.2.1 11).trans i11
  have i17 := (congrFun s.2.2.1 17).trans i17
  have i35 := (congrFun s.2.2.1 35).trans i35
  have i36 := (congrFun s.2.2.1 36).trans i36
  have i37 := (congrFun s.2.2.1 37).trans i37
  have r2 := s.2.2.2.2.2.1
  have rO : ∀ j, j ∉ ([2, 1] : List Nat) → mR M1 x j = none := fun j hj => (s.2.2.2.2.1 j (fun e => hj (by rw [e]; exact List.mem_cons_self))).trans (rO j (fun h => hj (List.mem_cons_of_mem _ h)))
  have p2 := s.2.2.2.2.2.2.1
  have hT := s.2.1.trans hT
  refine k_aload_n C rfl rfl rfl ?_
  refine k_bipush C (x := 48) rfl rfl rfl ?_
  refine i_arr C (tt := 0) (n := 48) rfl rfl rfl (Or.inl ⟨rfl, rfl⟩) (by decide) (by decide) (Nat.le_of_ble_eq_true rfl) rfl rfl (Nat.le_of_ble_eq_true rfl) (Nat.le_of_ble_eq_true rfl) rfl hT ⟨rfl, rfl⟩ rfl (fun b4 M1 s => ?_)
  have n4 := hX.fresh (by rw [hT]; decide) s.2.2.2.2.2.2.2.2.2
  have hx9 := s.1.st hT
  have p1 := p1.st hx9 (by decide) (by decide)
  have p2 := p2.st hx9 (by decide) (by decide)
  have hX := hX.tr s.1
  have r1 := (s.2.2.2.2.1 1 (by decide)).trans r1
  have r2 := (s.2.2.2.2.1 2 (by decide)).trans r2
  have i0 := (congrFun s.2.2.1 0).trans i0
  have iO : ∀ j, j ≠ 17 → mI M1 x j = 0 := fun j hj => (congrFun s.2.2.1 j).trans (iO j hj)
  have i3 := (congrFun s.2.2.1 3).trans i3
  have i11 := (congrFun s.2.2.1 11).trans i11
  have i17 := (congrFun s.2.2.1 17).trans i17
  have i35 := (congrFun s.2.2.1 35).trans i35
  have i36 := (congrFun s.2.2.1 36).trans i36
  have i37 := (congrFun s.2.2.1 37).trans i37
  have r4 := s.2.2.2.2.2.1
  have rO : ∀ j, j ∉ ([4, 2, 1] : List Nat) → mR M1 x j = none := fun j hj => (s.2.2.2.2.1 j (fun e => hj (by rw [e]; exact List.mem_cons_self))).trans (rO j (fun h => hj (List.mem_cons_of_mem _ h)))
  have p4 : gArrZ _ b4 20 48 := ⟨s.2.2.2.2.2.2.1, s.2.2.2.2.2.2.2.1⟩
  have hT := s.2.1.trans hT
  refine k_aload_n C rfl rfl rfl ?_
  refine k_sipush C (x := 1968) rfl rfl rfl ?_
  refine i_arr C (tt := 0) (n := 1968) rfl rfl rfl (Or.inl ⟨rfl, rfl⟩) (by decide) (by decide) (Nat.le_of_ble_eq_true rfl) rfl rfl (Nat.le_of_ble_eq_true rfl) (Nat.le_of_ble_eq_true rfl) rfl hT ⟨rfl, rfl⟩ rfl (fun b5 M1 s => ?_)
  have n5 := hX.fresh (by rw [hT]; decide) s.2.2.2.2.2.2.2.2.2
  have hx9 := s.1.st hT
  have p1 := p1.st hx9 (by decide) (by decide)
  have p2 := p2.st hx9 (by decide) (by decide)
  have p4 := p4.st hx9 (by decide) (by decide)
  have hX := hX.tr s.1
  have r1 := (s.2.2.2.2.1 1 (by decide)).trans r1
  have r2 := (s.2.2.2.2.1 2 (by decide)).trans r2
  have r4 := (s.2.2.2.2.1 4 (by decide)).trans r4
  have i0 := (congrFun s.2.2.1 0).trans i0
  have iO : ∀ j, j ≠ 17 → mI M1 x j = 0 := fun j hj => (congrFun s.2.2.1 j).trans (iO j hj)
  have i3 := (congrFun s.2.2.1 3).trans i3
  have i11 := (congrFun s.2.2.1 11).trans i11
  have i17 := (congrFun s.2.2.1 17).trans i17
  have i35 := (congrFun s.2.2.1 35).trans i35
  have i36 := (congrFun s.2.2.1 36).trans i36
  have i37 := (congrFun s.2.2.1 37).trans i37
  have r5 := s.2.2.2.2.2.1
  have rO : ∀ j, j ∉ ([5, 4, 2, 1] : List Nat) → mR M1 x j = none := fun j hj => (s.2.2.2.2.1 j (fun e => hj (by rw [e]; exact List.mem_cons_self))).trans (rO j (fun h => hj (List.mem_cons_of_mem _ h)))
  have p5 : gArrZ _ b5 20 1968 := ⟨s.2.2.2.2.2.2.1, s.2.2.2.2.2.2.2.1⟩
  have hT := s.2.1.trans hT
  refine k_aload_n C rfl rfl rfl ?_
  refine k_sipush C (x := 400) rfl rfl rfl ?_
  refine i_arr C (tt := 2) (n := 400) rfl rfl rfl (Or.inr (Or.inr ⟨rfl, rfl⟩)) (by decide) (by decide) (Nat.le_of_ble_eq_true rfl) rfl rfl (Nat.le_of_ble_eq_true rfl) (Nat.le_of_ble_eq_true rfl) rfl hT ⟨rfl, rfl⟩ rfl (fun b10 M1 s => ?_)
  have n10 := hX.fresh (by rw [hT]; decide) s.2.2.2.2.2.2.2.2.2
  have hx9 := s.1.st hT
  have p1 := p1.st hx9 (by decide) (by decide)
  have p2 := p2.st hx9 (by decide) (by decide)
  have p4 := p4.st hx9 (by decide) (by decide)
  have p5 := p5.st hx9 (by decide) (by decide)
  have hX := hX.tr s.1
  have r1 := (s.2.2.2.2.1 1 (by decide)).trans r1
  have r2 := (s.2.2.2.2.1 2 (by decide)).trans r2
  have r4 := (s.2.2.2.2.1 4 (by decide)).trans r4
  have r5 := (s.2.2.2.2.1 5 (by decide)).trans r5
  have i0 := (congrFun s.2.2.1 0).trans i0
  have iO : ∀ j, j ≠ 17 → mI M1 x j = 0 := fun j hj => (congrFun s.2.2.1 j).trans (iO j hj)
  have i3 := (congrFun s.2.2.1 3).trans i3
  have i11 := (congrFun s.2.2.1 11).trans i11
  have i17 := (congrFun s.2.2.1 17).trans i17
  have i35 := (congrFun s.2.2.1 35).trans i35
  have i36 := (congrFun s.2.2.1 36).trans i36
  have i37 := (congrFun s.2.2.1 37).trans i37
  have r10 := s.2.2.2.2.2.1
  have rO : ∀ j, j ∉ ([10, 5, 4, 2, 1] : List Nat) → mR M1 x j = none := fun j hj => (s.2.2.2.2.1 j (fun e => hj (by rw [e]; exact List.mem_cons_self))).trans (rO j (fun h => hj (List.mem_cons_of_mem _ h)))
  have p10 := s.2.2.2.2.2.2.1
  have hT := s.2.1.trans hT
  refine k_aload_n C rfl rfl rfl ?_
  refine k_iconst C (x := -1) rfl rfl rfl ?_
  refine i_putI C rfl rfl rfl hT (Or.inr rfl) rfl (fun M1 s => ?_)
  have hx9 := s.1.st hT
  have p1 := p1.st hx9 (by decide) (by decide)
  have p2 := p2.st hx9 (by decide) (by decide)
  have p4 := p4.st hx9 (by decide) (by decide)
  have p5 := p5.st hx9 (by decide) (by decide)
  have p10 := p10.st hx9 (by decide) (by decide)
  have hX := hX.tr s.1
  have r1 := (congrFun s.2.2.1 1).trans r1
  have rO : ∀ j, j ∉ ([10, 5, 4, 2, 1] : List Nat) → mR M1 x j = none := fun j hj => (congrFun s.2.2.1 j).trans (rO j hj)
  have r2 := (congrFun s.2.2.1 2).trans r2
  have r4 := (congrFun s.2.2.1 4).trans r4
  have r5 := (congrFun s.2.2.1 5).trans r5
  have r10 := (congrFun s.2.2.1 10).trans r10
  have i0 := (s.2.2.2.2.1 0 (by decide)).trans i0
  have iO : ∀ j, j ≠ 17 → mI M1 x j = 0 := fun j hj => (s.2.2.2.2.1 j hj).trans (iO j hj)
  have i3 := (s.2.2.2.2.1 3 (by decide)).trans i3
  have i11 := (s.2.2.2.2.1 11 (by decide)).trans i11
  have i35 := (s.2.2.2.2.1 35 (by decide)).trans i35
  have i36 := (s.2.2.2.2.1 36 (by decide)).trans i36
  have i37 := (s.2.2.2.2.1 37 (by decide)).trans i37
  have i17 := s.2.2.2.2.2
  have hT := s.2.1.trans hT
  refine k_aload_n C rfl rfl rfl ?_
  refine k_iconst C (x := 5) rfl rfl rfl ?_
  refine i_arr C (tt := 0) (n := 5) rfl rfl rfl (Or.inl ⟨rfl, rfl⟩) (by decide) (by decide) (Nat.le_of_ble_eq_true rfl) rfl rfl (Nat.le_of_ble_eq_true rfl) (Nat.le_of_ble_eq_true rfl) rfl hT ⟨rfl, rfl⟩ rfl (fun b18 M1 s => ?_)
  have n18 := hX.fresh (by rw [hT]; decide) s.2.2.2.2.2.2.2.2.2
  have hx9 := s.1.st hT
  have p1 := p1.st hx9 (by decide) (by decide)
  have p2 := p2.st hx9 (by decide) (by decide)
  have p4 := p4.st hx9 (by decide) (by decide)
  have p5 := p5.st hx9 (by decide) (by decide)
  have p10 := p10.st hx9 (by decide) (by decide)
  have hX := hX.tr s.1
  have r1 := (s.2.2.2.2.1 1 (by decide)).trans r1
  have r2 := (s.2.2.2.2.1 2 (by decide)).trans r2
  have r4 := (s.2.2.2.2.1 4 (by decide)).trans r4
  have r5 := (s.2.2.2.2.1 5 (by decide)).trans r5
  have r10 := (s.2.2.2.2.1 10 (by decide)).trans r10
  have i0 := (congrFun s.2.2.1 0).trans i0
  have iO : ∀ j, j ≠ 17 → mI M1 x j = 0 := fun j hj => (congrFun s.2.2.1 j).trans (iO j hj)
  have i3 := (congrFun s.2.2.1 3).trans i3
  have i11 := (congrFun s.2.2.1 11).trans i11
  have i17 := (congrFun s.2.2.1 17).trans i17
  have i35 := (congrFun s.2.2.1 35).trans i35
  have i36 := (congrFun s.2.2.1 36).trans i36
  have i37 := (congrFun s.2.2.1 37).trans i37
  have r18 := s.2.2.2.2.2.1
  have rO : ∀ j, j ∉ ([18, 10, 5, 4, 2, 1] : List Nat) → mR M1 x j = none := fun j hj => (s.2.2.2.2.1 j (fun e => hj (by rw [e]; exact List.mem_cons_self))).trans (rO j (fun h => hj (List.mem_cons_of_mem _ h)))
  have p18 := s.2.2.2.2.2.2.1
  have hT := s.2.1.trans hT
  refine k_aload_n C rfl rfl rfl ?_
  refine k_bipush C (x := 48) rfl rfl rfl ?_
  refine i_arr C (tt := 0) (n := 48) rfl rfl rfl (Or.inl ⟨rfl, rfl⟩) (by decide) (by decide) (Nat.le_of_ble_eq_true rfl) rfl rfl (Nat.le_of_ble_eq_true rfl) (Nat.le_of_ble_eq_true rfl) rfl hT ⟨rfl, rfl⟩ rfl (fun b20 M1 s => ?_)
  have n20 := hX.fresh (by rw [hT]; decide) s.2.2.2.2.2.2.2.2.2
  have h420 : b4 ≠ b20 := fun e => by have z := p4.1.1; rw [e, s.2.2.2.2.2.2.2.2.2] at z; exact absurd z (by decide)
  have hx9 := s.1.st hT
  have p1 := p1.st hx9 (by decide) (by decide)
  have p2 := p2.st hx9 (by decide) (by decide)
  have p4 := p4.st hx9 (by decide) (by decide)
  have p5 := p5.st hx9 (by decide) (by decide)
  have p10 := p10.st hx9 (by decide) (by decide)
  have p18 := p18.st hx9 (by decide) (by decide)
  have hX := hX.tr s.1
  have r1 := (s.2.2.2.2.1 1 (by decide)).trans r1
  have r2 := (s.2.2.2.2.1 2 (by decide)).trans r2
  have r4 := (s.2.2.2.2.1 4 (by decide)).trans r4
  have r5 := (s.2.2.2.2.1 5 (by decide)).trans r5
  have r10 := (s.2.2.2.2.1 10 (by decide)).trans r10
  have r18 := (s.2.2.2.2.1 18 (by decide)).trans r18
  have i0 := (congrFun s.2.2.1 0).trans i0
  have iO : ∀ j, j ≠ 17 → mI M1 x j = 0 := fun j hj => (congrFun s.2.2.1 j).trans (iO j hj)
  have i3 := (congrFun s.2.2.1 3).trans i3
  have i11 := (congrFun s.2.2.1 11).trans i11
  have i17 := (congrFun s.2.2.1 17).trans i17
  have i35 := (congrFun s.2.2.1 35).trans i35
  have i36 := (congrFun s.2.2.1 36).trans i36
  have i37 := (congrFun s.2.2.1 37).trans i37
  have r20 := s.2.2.2.2.2.1
  have rO : ∀ j, j ∉ ([20, 18, 10, 5, 4, 2, 1] : List Nat) → mR M1 x j = none := fun j hj => (s.2.2.2.2.1 j (fun e => hj (by rw [e]; exact List.mem_cons_self))).trans (rO j (fun h => hj (List.mem_cons_of_mem _ h)))
  have p20 := s.2.2.2.2.2.2.1
  have hT := s.2.1.trans hT
  refine k_aload_n C rfl rfl rfl ?_
  refine k_sipush C (x := 1261) rfl rfl rfl ?_
  refine i_arr C (tt := 1) (n := 1261) rfl rfl rfl (Or.inr (Or.inl ⟨rfl, rfl⟩)) (by decide) (by decide) (Nat.le_of_ble_eq_true rfl) rfl rfl (Nat.le_of_ble_eq_true rfl) (Nat.le_of_ble_eq_true rfl) rfl hT ⟨rfl, rfl⟩ rfl (fun b21 M1 s => ?_)
  have n21 := hX.fresh (by rw [hT]; decide) s.2.2.2.2.2.2.2.2.2
  have hx9 := s.1.st hT
  have p1 := p1.st hx9 (by decide) (by decide)
  have p2 := p2.st hx9 (by decide) (by decide)
  have p4 := p4.st hx9 (by decide) (by decide)
  have p5 := p5.st hx9 (by decide) (by decide)
  have p10 := p10.st hx9 (by decide) (by decide)
  have p18 := p18.st hx9 (by decide) (by decide)
  have p20 := p20.st hx9 (by decide) (by decide)
  have hX := hX.tr s.1
  have r1 := (s.2.2.2.2.1 1 (by decide)).trans r1
  have r2 := (s.2.2.2.2.1 2 (by decide)).trans r2
  have r4 := (s.2.2.2.2.1 4 (by decide)).trans r4
  have r5 := (s.2.2.2.2.1 5 (by decide)).trans r5
  have r10 := (s.2.2.2.2.1 10 (by decide)).trans r10
  have r18 := (s.2.2.2.2.1 18 (by decide)).trans r18
  have r20 := (s.2.2.2.2.1 20 (by decide)).trans r20
  have i0 := (congrFun s.2.2.1 0).trans i0
  have iO : ∀ j, j ≠ 17 → mI M1 x j = 0 := fun j hj => (congrFun s.2.2.1 j).trans (iO j hj)
  have i3 := (congrFun s.2.2.1 3).trans i3
  have i11 := (congrFun s.2.2.1 11).trans i11
  have i17 := (congrFun s.2.2.1 17).trans i17
  have i35 := (congrFun s.2.2.1 35).trans i35
  have i36 := (congrFun s.2.2.1 36).trans i36
  have i37 := (congrFun s.2.2.1 37).trans i37
  have r21 := s.2.2.2.2.2.1
  have rO : ∀ j, j ∉ ([21, 20, 18, 10, 5, 4, 2, 1] : List Nat) → mR M1 x j = none := fun j hj => (s.2.2.2.2.1 j (fun e => hj (by rw [e]; exact List.mem_cons_self))).trans (rO j (fun h => hj (List.mem_cons_of_mem _ h)))
  have p21 := s.2.2.2.2.2.2.1
  have hT := s.2.1.trans hT
  refine k_aload_n C rfl rfl rfl ?_
  refine k_sipush C (x := 3936) rfl rfl rfl ?_
  refine i_arr C (tt := 0) (n := 3936) rfl rfl rfl (Or.inl ⟨rfl, rfl⟩) (by decide) (by decide) (Nat.le_of_ble_eq_true rfl) rfl rfl (Nat.le_of_ble_eq_true rfl) (Nat.le_of_ble_eq_true rfl) rfl hT ⟨rfl, rfl⟩ rfl (fun b22 M1 s => ?_)
  have n22 := hX.fresh (by rw [hT]; decide) s.2.2.2.2.2.2.2.2.2
  have hx9 := s.1.st hT
  have p1 := p1.st hx9 (by decide) (by decide)
  have p2 := p2.st hx9 (by decide) (by decide)
  have p4 := p4.st hx9 (by decide) (by decide)
  have p5 := p5.st hx9 (by decide) (by decide)
  have p10 := p10.st hx9 (by decide) (by decide)
  have p18 := p18.st hx9 (by decide) (by decide)
  have p20 := p20.st hx9 (by decide) (by decide)
  have p21 := p21.st hx9 (by decide) (by decide)
  have hX := hX.tr s.1
  have r1 := (s.2.2.2.2.1 1 (by decide)).trans r1
  have r2 := (s.2.2.2.2.1 2 (by decide)).trans r2
  have r4 := (s.2.2.2.2.1 4 (by decide)).trans r4
  have r5 := (s.2.2.2.2.1 5 (by decide)).trans r5
  have r10 := (s.2.2.2.2.1 10 (by decide)).trans r10
  have r18 := (s.2.2.2.2.1 18 (by decide)).trans r18
  have r20 := (s.2.2.2.2.1 20 (by decide)).trans r20
  have r21 := (s.2.2.2.2.1 21 (by decide)).trans r21
  have i0 := (congrFun s.2.2.1 0).trans i0
  have iO : ∀ j, j ≠ 17 → mI M1 x j = 0 := fun j hj => (congrFun s.2.2.1 j).trans (iO j hj)
  have i3 := (congrFun s.2.2.1 3).trans i3
  have i11 := (congrFun s.2.2.1 11).trans i11
  have i17 := (congrFun s.2.2.1 17).trans i17
  have i35 := (congrFun s.2.2.1 35).trans i35
  have i36 := (congrFun s.2.2.1 36).trans i36
  have i37 := (congrFun s.2.2.1 37).trans i37
  have r22 := s.2.2.2.2.2.1
  have rO : ∀ j, j ∉ ([22, 21, 20, 18, 10, 5, 4, 2, 1] : List Nat) → mR M1 x j = none := fun j hj => (s.2.2.2.2.1 j (fun e => hj (by rw [e]; exact List.mem_cons_self))).trans (rO j (fun h => hj (List.mem_cons_of_mem _ h)))
  have p22 : gArrZ _ b22 20 3936 := ⟨s.2.2.2.2.2.2.1, s.2.2.2.2.2.2.2.1⟩
  have hT := s.2.1.trans hT
  refine k_aload_n C rfl rfl rfl ?_
  refine k_bipush C (x := 108) rfl rfl rfl ?_
  refine i_arr C (tt := 0) (n := 108) rfl rfl rfl (Or.inl ⟨rfl, rfl⟩) (by decide) (by decide) (Nat.le_of_ble_eq_true rfl) rfl rfl (Nat.le_of_ble_eq_true rfl) (Nat.le_of_ble_eq_true rfl) rfl hT ⟨rfl, rfl⟩ rfl (fun b23 M1 s => ?_)
  have n23 := hX.fresh (by rw [hT]; decide) s.2.2.2.2.2.2.2.2.2
  have hwd : b1 ≠ b23 := fun e => by have z := p1.1.1; rw [e, s.2.2.2.2.2.2.2.2.2] at z; exact absurd z (by decide)
  have hx9 := s.1.st hT
  have p1 := p1.st hx9 (by decide) (by decide)
  have p2 := p2.st hx9 (by decide) (by decide)
  have p4 := p4.st hx9 (by decide) (by decide)
  have p5 := p5.st hx9 (by decide) (by decide)
  have p10 := p10.st hx9 (by decide) (by decide)
  have p18 := p18.st hx9 (by decide) (by decide)
  have p20 := p20.st hx9 (by decide) (by decide)
  have p21 := p21.st hx9 (by decide) (by decide)
  have p22 := p22.st hx9 (by decide) (by decide)
  have hX := hX.tr s.1
  have r1 := (s.2.2.2.2.1 1 (by decide)).trans r1
  have r2 := (s.2.2.2.2.1 2 (by decide)).trans r2
  have r4 := (s.2.2.2.2.1 4 (by decide)).trans r4
  have r5 := (s.2.2.2.2.1 5 (by decide)).trans r5
  have r10 := (s.2.2.2.2.1 10 (by decide)).trans r10
  have r18 := (s.2.2.2.2.1 18 (by decide)).trans r18
  have r20 := (s.2.2.2.2.1 20 (by decide)).trans r20
  have r21 := (s.2.2.2.2.1 21 (by decide)).trans r21
  have r22 := (s.2.2.2.2.1 22 (by decide)).trans r22
  have i0 := (congrFun s.2.2.1 0).trans i0
  have iO : ∀ j, j ≠ 17 → mI M1 x j = 0 := fun j hj => (congrFun s.2.2.1 j).trans (iO j hj)
  have i3 := (congrFun s.2.2.1 3).trans i3
  have i11 := (congrFun s.2.2.1 11).trans i11
  have i17 := (congrFun s.2.2.1 17).trans i17
  have i35 := (congrFun s.2.2.1 35).trans i35
  have i36 := (congrFun s.2.2.1 36).trans i36
  have i37 := (congrFun s.2.2.1 37).trans i37
  have r23 := s.2.2.2.2.2.1
  have rO : ∀ j, j ∉ ([23, 22, 21, 20, 18, 10, 5, 4, 2, 1] : List Nat) → mR M1 x j = none := fun j hj => (s.2.2.2.2.1 j (fun e => hj (by rw [e]; exact List.mem_cons_self))).trans (rO j (fun h => hj (List.mem_cons_of_mem _ h)))
  have p23 : gArrZ _ b23 20 108 := ⟨s.2.2.2.2.2.2.1, s.2.2.2.2.2.2.2.1⟩
  have hT := s.2.1.trans hT
  refine k_aload_n C rfl rfl rfl ?_
  refine k_sipush C (x := 361) rfl rfl rfl ?_
  refine i_arr C (tt := 0) (n := 361) rfl rfl rfl (Or.inl ⟨rfl, rfl⟩) (by decide) (by decide) (Nat.le_of_ble_eq_true rfl) rfl rfl (Nat.le_of_ble_eq_true rfl) (Nat.le_of_ble_eq_true rfl) rfl hT ⟨rfl, rfl⟩ rfl (fun b25 M1 s => ?_)
  have n25 := hX.fresh (by rw [hT]; decide) s.2.2.2.2.2.2.2.2.2
  have hx9 := s.1.st hT
  have p1 := p1.st hx9 (by decide) (by decide)
  have p2 := p2.st hx9 (by decide) (by decide)
  have p4 := p4.st hx9 (by decide) (by decide)
  have p5 := p5.st hx9 (by decide) (by decide)
  have p10 := p10.st hx9 (by decide) (by decide)
  have p18 := p18.st hx9 (by decide) (by decide)
  have p20 := p20.st hx9 (by decide) (by decide)
  have p21 := p21.st hx9 (by decide) (by decide)
  have p22 := p22.st hx9 (by decide) (by decide)
  have p23 := p23.st hx9 (by decide) (by decide)
  have hX := hX.tr s.1
  have r1 := (s.2.2.2.2.1 1 (by decide)).trans r1
  have r2 := (s.2.2.2.2.1 2 (by decide)).trans r2
  have r4 := (s.2.2.2.2.1 4 (by decide)).trans r4
  have r5 := (s.2.2.2.2.1 5 (by decide)).trans r5
  have r10 := (s.2.2.2.2.1 10 (by decide)).trans r10
  have r18 := (s.2.2.2.2.1 18 (by decide)).trans r18
  have r20 := (s.2.2.2.2.1 20 (by decide)).trans r20
  have r21 := (s.2.2.2.2.1 21 (by decide)).trans r21
  have r22 := (s.2.2.2.2.1 22 (by decide)).trans r22
  have r23 := (s.2.2.2.2.1 23 (by decide)).trans r23
  have i0 := (congrFun s.2.2.1 0).trans i0
  have iO : ∀ j, j ≠ 17 → mI M1 x j = 0 := fun j hj => (congrFun s.2.2.1 j).trans (iO j hj)
  have i3 := (congrFun s.2.2.1 3).trans i3
  have i11 := (congrFun s.2.2.1 11).trans i11
  have i17 := (congrFun s.2.2.1 17).trans i17
  have i35 := (congrFun s.2.2.1 35).trans i35
  have i36 := (congrFun s.2.2.1 36).trans i36
  have i37 := (congrFun s.2.2.1 37).trans i37
  have r25 := s.2.2.2.2.2.1
  have rO : ∀ j, j ∉ ([25, 23, 22, 21, 20, 18, 10, 5, 4, 2, 1] : List Nat) → mR M1 x j = none := fun j hj => (s.2.2.2.2.1 j (fun e => hj (by rw [e]; exact List.mem_cons_self))).trans (rO j (fun h => hj (List.mem_cons_of_mem _ h)))
  have p25 := s.2.2.2.2.2.2.1
  have hT := s.2.1.trans hT
  refine k_aload_n C rfl rfl rfl ?_
  refine k_sipush C (x := 180) rfl rfl rfl ?_
  refine i_arr C (tt := 0) (n := 180) rfl rfl rfl (Or.inl ⟨rfl, rfl⟩) (by decide) (by decide) (Nat.le_of_ble_eq_true rfl) rfl rfl (Nat.le_of_ble_eq_true rfl) (Nat.le_of_ble_eq_true rfl) rfl hT ⟨rfl, rfl⟩ rfl (fun b26 M1 s => ?_)
  have n26 := hX.fresh (by rw [hT]; decide) s.2.2.2.2.2.2.2.2.2
  have hx9 := s.1.st hT
  have p1 := p1.st hx9 (by decide) (by decide)
  have p2 := p2.st hx9 (by decide) (by decide)
  have p4 := p4.st hx9 (by decide) (by decide)
  have p5 := p5.st hx9 (by decide) (by decide)
  have p10 := p10.st hx9 (by decide) (by decide)
  have p18 := p18.st hx9 (by decide) (by decide)
  have p20 := p20.st hx9 (by decide) (by decide)
  have p21 := p21.st hx9 (by decide) (by decide)
  have p22 := p22.st hx9 (by decide) (by decide)
  have p23 := p23.st hx9 (by decide) (by decide)
  have p25 := p25.st hx9 (by decide) (by decide)
  have hX := hX.tr s.1
  have r1 := (s.2.2.2.2.1 1 (by decide)).trans r1
  have r2 := (s.2.2.2.2.1 2 (by decide)).trans r2
  have r4 := (s.2.2.2.2.1 4 (by decide)).trans r4
  have r5 := (s.2.2.2.2.1 5 (by decide)).trans r5
  have r10 := (s.2.2.2.2.1 10 (by decide)).trans r10
  have r18 := (s.2.2.2.2.1 18 (by decide)).trans r18
  have r20 := (s.2.2.2.2.1 20 (by decide)).trans r20
  have r21 := (s.2.2.2.2.1 21 (by decide)).trans r21
  have r22 := (s.2.2.2.2.1 22 (by decide)).trans r22
  have r23 := (s.2.2.2.2.1 23 (by decide)).trans r23
  have r25 := (s.2.2.2.2.1 25 (by decide)).trans r25
  have i0 := (congrFun s.2.2.1 0).trans i0
  have iO : ∀ j, j ≠ 17 → mI M1 x j = 0 := fun j hj => (congrFun s.2.2.1 j).trans (iO j hj)
  have i3 := (congrFun s.2.2.1 3).trans i3
  have i11 := (congrFun s.2.2.1 11).trans i11
  have i17 := (congrFun s.2.2.1 17).trans i17
  have i35 := (congrFun s.2.2.1 35).trans i35
  have i36 := (congrFun s.2.2.1 36).trans i36
  have i37 := (congrFun s.2.2.1 37).trans i37
  have r26 := s.2.2.2.2.2.1
  have rO : ∀ j, j ∉ ([26, 25, 23, 22, 21, 20, 18, 10, 5, 4, 2, 1] : List Nat) → mR M1 x j = none := fun j hj => (s.2.2.2.2.1 j (fun e => hj (by rw [e]; exact List.mem_cons_self))).trans (rO j (fun h => hj (List.mem_cons_of_mem _ h)))
  have p26 : gArrZ _ b26 20 180 := ⟨s.2.2.2.2.2.2.1, s.2.2.2.2.2.2.2.1⟩
  have hT := s.2.1.trans hT
  refine k_aload_n C rfl rfl rfl ?_
  refine k_iconst C (x := 3) rfl rfl rfl ?_
  refine i_arr C (tt := 0) (n := 3) rfl rfl rfl (Or.inl ⟨rfl, rfl⟩) (by decide) (by decide) (Nat.le_of_ble_eq_true rfl) rfl rfl (Nat.le_of_ble_eq_true rfl) (Nat.le_of_ble_eq_true rfl) rfl hT ⟨rfl, rfl⟩ rfl (fun b27 M1 s => ?_)
  have n27 := hX.fresh (by rw [hT]; decide) s.2.2.2.2.2.2.2.2.2
  have hx9 := s.1.st hT
  have p1 := p1.st hx9 (by decide) (by decide)
  have p2 := p2.st hx9 (by decide) (by decide)
  have p4 := p4.st hx9 (by decide) (by decide)
  have p5 := p5.st hx9 (by decide) (by decide)
  have p10 := p10.st hx9 (by decide) (by decide)
  have p18 := p18.st hx9 (by decide) (by decide)
  have p20 := p20.st hx9 (by decide) (by decide)
  have p21 := p21.st hx9 (by decide) (by decide)
  have p22 := p22.st hx9 (by decide) (by decide)
  have p23 := p23.st hx9 (by decide) (by decide)
  have p25 := p25.st hx9 (by decide) (by decide)
  have p26 := p26.st hx9 (by decide) (by decide)
  have hX := hX.tr s.1
  have r1 := (s.2.2.2.2.1 1 (by decide)).trans r1
  have r2 := (s.2.2.2.2.1 2 (by decide)).trans r2
  have r4 := (s.2.2.2.2.1 4 (by decide)).trans r4
  have r5 := (s.2.2.2.2.1 5 (by decide)).trans r5
  have r10 := (s.2.2.2.2.1 10 (by decide)).trans r10
  have r18 := (s.2.2.2.2.1 18 (by decide)).trans r18
  have r20 := (s.2.2.2.2.1 20 (by decide)).trans r20
  have r21 := (s.2.2.2.2.1 21 (by decide)).trans r21
  have r22 := (s.2.2.2.2.1 22 (by decide)).trans r22
  have r23 := (s.2.2.2.2.1 23 (by decide)).trans r23
  have r25 := (s.2.2.2.2.1 25 (by decide)).trans r25
  have r26 := (s.2.2.2.2.1 26 (by decide)).trans r26
  have i0 := (congrFun s.2.2.1 0).trans i0
  have iO : ∀ j, j ≠ 17 → mI M1 x j = 0 := fun j hj => (congrFun s.2.2.1 j).trans (iO j hj)
  have i3 := (congrFun s.2.2.1 3).trans i3
  have i11 := (congrFun s.2.2.1 11).trans i11
  have i17 := (congrFun s.2.2.1 17).trans i17
  have i35 := (congrFun s.2.2.1 35).trans i35
  have i36 := (congrFun s.2.2.1 36).trans i36
  have i37 := (congrFun s.2.2.1 37).trans i37
  have r27 := s.2.2.2.2.2.1
  have rO : ∀ j, j ∉ ([27, 26, 25, 23, 22, 21, 20, 18, 10, 5, 4, 2, 1] : List Nat) → mR M1 x j = none := fun j hj => (s.2.2.2.2.1 j (fun e => hj (by rw [e]; exact List.mem_cons_self))).trans (rO j (fun h => hj (List.mem_cons_of_mem _ h)))
  have p27 : gArrZ _ b27 20 3 := ⟨s.2.2.2.2.2.2.1, s.2.2.2.2.2.2.2.1⟩
  have hT := s.2.1.trans hT
  refine k_aload_n C rfl rfl rfl ?_
  refine k_iconst C (x := 3) rfl rfl rfl ?_
  refine i_arr C (tt := 0) (n := 3) rfl rfl rfl (Or.inl ⟨rfl, rfl⟩) (by decide) (by decide) (Nat.le_of_ble_eq_true rfl) rfl rfl (Nat.le_of_ble_eq_true rfl) (Nat.le_of_ble_eq_true rfl) rfl hT ⟨rfl, rfl⟩ rfl (fun b28 M1 s => ?_)
  have n28 := hX.fresh (by rw [hT]; decide) s.2.2.2.2.2.2.2.2.2
  have h2728 : b27 ≠ b28 := fun e => by have z := p27.1.1; rw [e, s.2.2.2.2.2.2.2.2.2] at z; exact absurd z (by decide)
  have hx9 := s.1.st hT
  have p1 := p1.st hx9 (by decide) (by decide)
  have p2 := p2.st hx9 (by decide) (by decide)
  have p4 := p4.st hx9 (by decide) (by decide)
  have p5 := p5.st hx9 (by decide) (by decide)
  have p10 := p10.st hx9 (by decide) (by decide)
  have p18 := p18.st hx9 (by decide) (by decide)
  have p20 := p20.st hx9 (by decide) (by decide)
  have p21 := p21.st hx9 (by decide) (by decide)
  have p22 := p22.st hx9 (by decide) (by decide)
  have p23 := p23.st hx9 (by decide) (by decide)
  have p25 := p25.st hx9 (by decide) (by decide)
  have p26 := p26.st hx9 (by decide) (by decide)
  have p27 := p27.st hx9 (by decide) (by decide)
  have hX := hX.tr s.1
  have r1 := (s.2.2.2.2.1 1 (by decide)).trans r1
  have r2 := (s.2.2.2.2.1 2 (by decide)).trans r2
  have r4 := (s.2.2.2.2.1 4 (by decide)).trans r4
  have r5 := (s.2.2.2.2.1 5 (by decide)).trans r5
  have r10 := (s.2.2.2.2.1 10 (by decide)).trans r10
  have r18 := (s.2.2.2.2.1 18 (by decide)).trans r18
  have r20 := (s.2.2.2.2.1 20 (by decide)).trans r20
  have r21 := (s.2.2.2.2.1 21 (by decide)).trans r21
  have r22 := (s.2.2.2.2.1 22 (by decide)).trans r22
  have r23 := (s.2.2.2.2.1 23 (by decide)).trans r23
  have r25 := (s.2.2.2.2.1 25 (by decide)).trans r25
  have r26 := (s.2.2.2.2.1 26 (by decide)).trans r26
  have r27 := (s.2.2.2.2.1 27 (by decide)).trans r27
  have i0 := (congrFun s.2.2.1 0).trans i0
  have iO : ∀ j, j ≠ 17 → mI M1 x j = 0 := fun j hj => (congrFun s.2.2.1 j).trans (iO j hj)
  have i3 := (congrFun s.2.2.1 3).trans i3
  have i11 := (congrFun s.2.2.1 11).trans i11
  have i17 := (congrFun s.2.2.1 17).trans i17
  have i35 := (congrFun s.2.2.1 35).trans i35
  have i36 := (congrFun s.2.2.1 36).trans i36
  have i37 := (congrFun s.2.2.1 37).trans i37
  have r28 := s.2.2.2.2.2.1
  have rO : ∀ j, j ∉ ([28, 27, 26, 25, 23, 22, 21, 20, 18, 10, 5, 4, 2, 1] : List Nat) → mR M1 x j = none := fun j hj => (s.2.2.2.2.1 j (fun e => hj (by rw [e]; exact List.mem_cons_self))).trans (rO j (fun h => hj (List.mem_cons_of_mem _ h)))
  have p28 : gArrZ _ b28 20 3 := ⟨s.2.2.2.2.2.2.1, s.2.2.2.2.2.2.2.1⟩
  have hT := s.2.1.trans hT
  refine k_aload_n C rfl rfl rfl ?_
  refine k_iconst C (x := 4) rfl rfl rfl ?_
  refine i_arr C (tt := 1) (n := 4) rfl rfl rfl (Or.inr (Or.inl ⟨rfl, rfl⟩)) (by decide) (by decide) (Nat.le_of_ble_eq_true rfl) rfl rfl (Nat.le_of_ble_eq_true rfl) (Nat.le_of_ble_eq_true rfl) rfl hT ⟨rfl, rfl⟩ rfl (fun b34 M1 s => ?_)
  have n34 := hX.fresh (by rw [hT]; decide) s.2.2.2.2.2.2.2.2.2
  have hx9 := s.1.st hT
  have p1 := p1.st hx9 (by decide) (by decide)
  have p2 := p2.st hx9 (by decide) (by decide)
  have p4 := p4.st hx9 (by decide) (by decide)
  have p5 := p5.st hx9 (by decide) (by decide)
  have p10 := p10.st hx9 (by decide) (by decide)
  have p18 := p18.st hx9 (by decide) (by decide)
  have p20 := p20.st hx9 (by decide) (by decide)
  have p21 := p21.st hx9 (by decide) (by decide)
  have p22 := p22.st hx9 (by decide) (by decide)
  have p23 := p23.st hx9 (by decide) (by decide)
  have p25 := p25.st hx9 (by decide) (by decide)
  have p26 := p26.st hx9 (by decide) (by decide)
  have p27 := p27.st hx9 (by decide) (by decide)
  have p28 := p28.st hx9 (by decide) (by decide)
  have hX := hX.tr s.1
  have r1 := (s.2.2.2.2.1 1 (by decide)).trans r1
  have r2 := (s.2.2.2.2.1 2 (by decide)).trans r2
  have r4 := (s.2.2.2.2.1 4 (by decide)).trans r4
  have r5 := (s.2.2.2.2.1 5 (by decide)).trans r5
  have r10 := (s.2.2.2.2.1 10 (by decide)).trans r10
  have r18 := (s.2.2.2.2.1 18 (by decide)).trans r18
  have r20 := (s.2.2.2.2.1 20 (by decide)).trans r20
  have r21 := (s.2.2.2.2.1 21 (by decide)).trans r21
  have r22 := (s.2.2.2.2.1 22 (by decide)).trans r22
  have r23 := (s.2.2.2.2.1 23 (by decide)).trans r23
  have r25 := (s.2.2.2.2.1 25 (by decide)).trans r25
  have r26 := (s.2.2.2.2.1 26 (by decide)).trans r26
  have r27 := (s.2.2.2.2.1 27 (by decide)).trans r27
  have r28 := (s.2.2.2.2.1 28 (by decide)).trans r28
  have i0 := (congrFun s.2.2.1 0).trans i0
  have iO : ∀ j, j ≠ 17 → mI M1 x j = 0 := fun j hj => (congrFun s.2.2.1 j).trans (iO j hj)
  have i3 := (congrFun s.2.2.1 3).trans i3
  have i11 := (congrFun s.2.2.1 11).trans i11
  have i17 := (congrFun s.2.2.1 17).trans i17
  have i35 := (congrFun s.2.2.1 35).trans i35
  have i36 := (congrFun s.2.2.1 36).trans i36
  have i37 := (congrFun s.2.2.1 37).trans i37
  have r34 := s.2.2.2.2.2.1
  have rO : ∀ j, j ∉ ([34, 28, 27, 26, 25, 23, 22, 21, 20, 18, 10, 5, 4, 2, 1] : List Nat) → mR M1 x j = none := fun j hj => (s.2.2.2.2.1 j (fun e => hj (by rw [e]; exact List.mem_cons_self))).trans (rO j (fun h => hj (List.mem_cons_of_mem _ h)))
  have p34 := s.2.2.2.2.2.2.1
  have hT := s.2.1.trans hT
  refine k_aload_n C rfl rfl rfl ?_
  refine i_getR C rfl rfl rfl hT rfl r1 ?_
  refine k_iconst C (x := 0) rfl rfl rfl ?_
  refine k_bipush C (x := 11) rfl rfl rfl ?_
  refine k_iast C rfl rfl p1.1.1 (vin (n := 0) rfl (by rw [p1.1.2]; exact Nat.le_of_ble_eq_true rfl) (by rw [p1.1.2]; exact Nat.le_of_ble_eq_true rfl)) ?_
  have hwx : x ≠ b1 := fun e => by have := p1.1.1; rw [← e, hT] at this; exact absurd this (by decide)
  have g9 : ∀ a, a ≠ b1 → Ag M1 (sI M1 b1 (0 : Int32).toNatClampNeg 11) a := fun a ha => ag_sI ha
  have hX1 : Ex1 x M (sI M1 b1 (0 : Int32).toNatClampNeg 11) := fun a ha hax => (hX a ha hax).tr (g9 a (fun e => ha (by rw [e]; exact n1)))
  have q0 : ∀ j v, mI M1 x j = v → mI (sI M1 b1 (0 : Int32).toNatClampNeg 11) x j = v := fun j v h => (congrFun (g9 x hwx).2.2.1 j).trans h
  have qZ : ∀ {b n}, n ≠ 4007 → gArrZ M1 b 20 n → gArrZ (sI M1 b1 (0 : Int32).toNatClampNeg 11) b 20 n := fun hn h => ⟨h.1, fun j => (congrFun (g9 _ (fun e => hn (by rw [← h.1.2, e, p1.1.2]))).2.2.1 j).trans (h.2 j)⟩
  have qA : ∀ {b t n}, t ≠ 20 → gArr M1 b t n → gArr (sI M1 b1 (0 : Int32).toNatClampNeg 11) b t n := fun _ h => h
  exact k_vret C rfl rfl (Nat.le_of_ble_eq_true rfl) (Nat.le_of_ble_eq_true rfl) ⟨rfl, hX1, hT, q0 0 _ i0, q0 3 _ i3, q0 11 _ i11, q0 17 _ i17, q0 35 _ i35, q0 36 _ i36, q0 37 _ i37, fun j hj => q0 j _ (iO j hj), rO, b1, b2, b4, b5, b10, b18, b20, b21, b22, b23, b25, b26, b27, b28, b34, u2_s, fun j hj => (u2_k (show j ≠ (0 : Int32).toNatClampNeg from fun e => by rw [e] at hj; exact absurd hj (by decide))).trans (p1.2 j), hwd, h420, h2728, r1, p1.1, n1, r2, p2, n2, r4, qZ (by decide) p4, n4, r5, qZ (by decide) p5, n5, r10, p10, n10, r18, p18, n18, r20, p20, n20, r21, p21, n21, r22, qZ (by decide) p22, n22, r23, qZ (by decide) p23, n23, r25, p25, n25, r26, qZ (by decide) p26, n26, r27, qZ (by decide) p27, n27, r28, qZ (by decide) p28, n28, r34, p34, n34⟩
