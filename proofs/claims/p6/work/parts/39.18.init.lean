def gTb (M : Mm) (x : Nat) : Prop := mT M x = 10
theorem i_X9 {d : Nat} {M : Mm} {x : Nat} (hT : mT M x = 10) (h0 : ∀ j, mI M x j = 0) : Ex (d + 1) 94 [.ref x] M 0 0 (pC fun M1 => Ex1 x M M1 ∧ gTb M1 x) := by
  refine ⟨_, rfl, Nat.le_of_ble_eq_true rfl, fun V C S => ?_⟩
  show V 0 [(0, .ref x)] [] M 0 0
  have hX : Ex1 x M M := Ex1.rf
  refine k_aload_n C rfl rfl rfl ?_
  refine i_obj C rfl rfl rfl (Nat.le_of_ble_eq_true rfl) ?_
  exact k_vret C rfl rfl (Nat.le_of_ble_eq_true rfl) (Nat.le_of_ble_eq_true rfl) ⟨rfl, hX, hT⟩
set_option maxHeartbeats 1000000 in
theorem i_X8 {d : Nat} {M : Mm} {x : Nat} (hT : mT M x = 9) (h0 : ∀ j, mI M x j = 0) : Ex (d + 4) 95 [.ref x] M 149 5136 (pC fun M1 => Ex1 x M M1 ∧ gSt M1 x) := by
  refine ⟨_, rfl, Nat.le_of_ble_eq_true rfl, fun V C S => ?_⟩
  show V 0 [(0, .ref x)] [] M 0 0
  have hX : Ex1 x M M := Ex1.rf
  have i0 : mI M x 0 = 0 := h0 0
  have i1 : mI M x 1 = 0 := h0 1
  have i2 : mI M x 2 = 0 := h0 2
  have i3 : mI M x 3 = 0 := h0 3
  have i4 : mI M x 4 = 0 := h0 4
  have i5 : mI M x 5 = 0 := h0 5
  refine k_aload_n C rfl rfl rfl ?_
  refine i_obj C rfl rfl rfl (Nat.le_of_ble_eq_true rfl) ?_
  refine k_aload_n C rfl rfl rfl ?_
  refine k_bipush C (x := 11) rfl rfl rfl ?_
  refine i_putI C rfl rfl rfl hT (Or.inr rfl) rfl (fun M1 s => ?_)
  have hx9 := s.1.st hT
  have hX := hX.tr s.1
  have i1 := (s.2.2.2.2.1 1 (by decide)).trans i1
  have i2 := (s.2.2.2.2.1 2 (by decide)).trans i2
  have i3 := (s.2.2.2.2.1 3 (by decide)).trans i3
  have i4 := (s.2.2.2.2.1 4 (by decide)).trans i4
  have i5 := (s.2.2.2.2.1 5 (by decide)).trans i5
  have i0 := s.2.2.2.2.2
  have hT := s.2.1.trans hT
  refine k_aload_n C rfl rfl rfl ?_
  refine k_bipush C (x := 40) rfl rfl rfl ?_
  refine i_arr C (tt := 0) (n := 40) rfl rfl rfl (Or.inl ⟨rfl, rfl⟩) (by decide) (by decide) (Nat.le_of_ble_eq_true rfl) rfl rfl (Nat.le_of_ble_eq_true rfl) (Nat.le_of_ble_eq_true rfl) rfl hT ⟨rfl, rfl⟩ rfl (fun b6 M1 s => ?_)
  have hx9 := s.1.st hT
  have hX := hX.tr s.1
  have i0 := (congrFun s.2.2.1 0).trans i0
  have i1 := (congrFun s.2.2.1 1).trans i1
  have i2 := (congrFun s.2.2.1 2).trans i2
  have i3 := (congrFun s.2.2.1 3).trans i3
  have i4 := (congrFun s.2.2.1 4).trans i4
  have i5 := (congrFun s.2.2.1 5).trans i5
  have r6 := s.2.2.2.2.2.1
  have p6 := s.2.2.2.2.2.2.1
  have hT := s.2.1.trans hT
  refine k_aload_n C rfl rfl rfl ?_
  refine k_bipush C (x := 40) rfl rfl rfl ?_
  refine i_rowP C (n := 40) rfl (Nat.le_of_ble_eq_true rfl) rfl rfl rfl rfl rfl rfl (Nat.le_of_ble_eq_true rfl) (Nat.le_of_ble_eq_true rfl) (by omega) rfl hT ⟨rfl, rfl⟩ rfl (Nat.le_of_ble_eq_true rfl) (fun b7 M1 s => ?_)
  have hx9 := s.1.st hT
  have p6 := p6.st hx9 (by decide) (by decide)
  have hX := hX.tr s.1
  have r6 := (s.2.2.2.2.1 6 (by decide)).trans r6
  have i0 := (congrFun s.2.2.1 0).trans i0
  have i1 := (congrFun s.2.2.1 1).trans i1
  have i2 := (congrFun s.2.2.1 2).trans i2
  have i3 := (congrFun s.2.2.1 3).trans i3
  have i4 := (congrFun s.2.2.1 4).trans i4
  have i5 := (congrFun s.2.2.1 5).trans i5
  have r7 := s.2.2.2.2.2.1
  have p7 := s.2.2.2.2.2.2 (by decide) (by decide) (by decide)
  have hT := s.2.1.trans hT
  refine k_aload_n C rfl rfl rfl ?_
  refine k_bipush C (x := 16) rfl rfl rfl ?_
  refine i_rowP C (n := 16) rfl (Nat.le_of_ble_eq_true rfl) rfl rfl rfl rfl rfl rfl (Nat.le_of_ble_eq_true rfl) (Nat.le_of_ble_eq_true rfl) (by omega) rfl hT ⟨rfl, rfl⟩ rfl (Nat.le_of_ble_eq_true rfl) (fun b8 M1 s => ?_)
  have hx9 := s.1.st hT
  have p6 := p6.st hx9 (by decide) (by decide)
  have p7 := p7.st hx9 (by decide)
  have hX := hX.tr s.1
  have r6 := (s.2.2.2.2.1 6 (by decide)).trans r6
  have r7 := (s.2.2.2.2.1 7 (by decide)).trans r7
  have i0 := (congrFun s.2.2.1 0).trans i0
  have i1 := (congrFun s.2.2.1 1).trans i1
  have i2 := (congrFun s.2.2.1 2).trans i2
  have i3 := (congrFun s.2.2.1 3).trans i3
  have i4 := (congrFun s.2.2.1 4).trans i4
  have i5 := (congrFun s.2.2.1 5).trans i5
  have r8 := s.2.2.2.2.2.1
  have p8 := s.2.2.2.2.2.2 (by decide) (by decide) (by decide)
  have hT := s.2.1.trans hT
  refine k_aload_n C rfl rfl rfl ?_
  refine k_bipush C (x := 8) rfl rfl rfl ?_
  refine i_arrA C (tt := 4) (n := 8) rfl rfl rfl rfl (Or.inr (Or.inl ⟨rfl, rfl⟩)) (by decide) (by decide) (Nat.le_of_ble_eq_true rfl) rfl rfl (Nat.le_of_ble_eq_true rfl) (Nat.le_of_ble_eq_true rfl) rfl hT ⟨rfl, rfl⟩ rfl (fun b9 M1 s => ?_)
  have b9new := hX.fresh (by rw [hT]; decide) s.2.2.2.2.2.2.2.2.2
  have hx9 := s.1.st hT
  have p6 := p6.st hx9 (by decide) (by decide)
  have p7 := p7.st hx9 (by decide)
  have p8 := p8.st hx9 (by decide)
  have hX := hX.tr s.1
  have r6 := (s.2.2.2.2.1 6 (by decide)).trans r6
  have r7 := (s.2.2.2.2.1 7 (by decide)).trans r7
  have r8 := (s.2.2.2.2.1 8 (by decide)).trans r8
  have i0 := (congrFun s.2.2.1 0).trans i0
  have i1 := (congrFun s.2.2.1 1).trans i1
  have i2 := (congrFun s.2.2.1 2).trans i2
  have i3 := (congrFun s.2.2.1 3).trans i3
  have i4 := (congrFun s.2.2.1 4).trans i4
  have i5 := (congrFun s.2.2.1 5).trans i5
  have r9 := s.2.2.2.2.2.1
  have p9 := s.2.2.2.2.2.2.1
  have hT := s.2.1.trans hT
  refine k_aload_n C rfl rfl rfl ?_
  refine k_bipush C (x := 8) rfl rfl rfl ?_
  refine i_arrA C (tt := 5) (n := 8) rfl rfl rfl rfl (Or.inr (Or.inr ⟨rfl, rfl⟩)) (by decide) (by decide) (Nat.le_of_ble_eq_true rfl) rfl rfl (Nat.le_of_ble_eq_true rfl) (Nat.le_of_ble_eq_true rfl) rfl hT ⟨rfl, rfl⟩ rfl (fun b10 M1 s => ?_)
  have b10new := hX.fresh (by rw [hT]; decide) s.2.2.2.2.2.2.2.2.2
  have hx9 := s.1.st hT
  have p6 := p6.st hx9 (by decide) (by decide)
  have p7 := p7.st hx9 (by decide)
  have p8 := p8.st hx9 (by decide)
  have p9 := p9.st hx9 (by decide) (by decide)
  have hX := hX.tr s.1
  have r6 := (s.2.2.2.2.1 6 (by decide)).trans r6
  have r7 := (s.2.2.2.2.1 7 (by decide)).trans r7
  have r8 := (s.2.2.2.2.1 8 (by decide)).trans r8
  have r9 := (s.2.2.2.2.1 9 (by decide)).trans r9
  have i0 := (congrFun s.2.2.1 0).trans i0
  have i1 := (congrFun s.2.2.1 1).trans i1
  have i2 := (congrFun s.2.2.1 2).trans i2
  have i3 := (congrFun s.2.2.1 3).trans i3
  have i4 := (congrFun s.2.2.1 4).trans i4
  have i5 := (congrFun s.2.2.1 5).trans i5
  have r10 := s.2.2.2.2.2.1
  have p10 := s.2.2.2.2.2.2.1
  have hT := s.2.1.trans hT
  refine k_iconst C (x := 0) rfl rfl rfl ?_
  refine k_istore_n C (lw := [(1, .int _), (0, _)]) rfl rfl (Nat.le_of_ble_eq_true rfl) rfl ?_
  have hTb := p9.1; have hNb := p9.2
  have loop : ∀ (k i : Nat) (M2 : Mm), k = 8 - i → i ≤ 8 → Ex1 b9 M1 M2 → mT M2 b9 = 24 → mN M2 b9 = 8 → (∀ j, j < i → ∃ t, mR M2 b9 j = some t ∧ gTb M2 t) → V 56 [(1, .int (Int32.ofNat i)), (0, .ref x)] [] M2 (117 + 1 * i) (2520 + 4 * i) := by
    intro k
    induction k using Nat.strongRecOn with
    | _ k ih =>
      intro i M2 hk hin hE hT2 hN2 hf
      have gx := hE x (by rw [hT]; decide) (fun e => by rw [e, hTb] at hT; exact absurd hT (by decide))
      refine k_iload_n C rfl rfl rfl ?_
      refine k_aload_n C rfl rfl rfl ?_
      refine i_getR C rfl rfl rfl (gx.1.trans hT) rfl ((congrFun gx.2.2.2.2 9).trans r9) ?_
      refine k_alen C rfl rfl (by rw [hT2]; exact Nat.le_of_ble_eq_true rfl) ?_
      rw [hN2]
      refine k_icmp_ge C (t := 84) rfl rfl rfl (fun c => ?_) (fun c => ?_)
      · have hi : i = 8 := Nat.le_antisymm hin ((n_le (Nat.le_of_ble_eq_true rfl) (by omega)).mp c)
        subst hi
        have hst := hE.st hTb
        have hgood : gTabs M2 b9 8 := ⟨hT2, hN2, hf⟩
        have p6 := p6.st hst (by decide) (by decide)
        have r6 := (congrFun gx.2.2.2.2 6).trans r6
        have p7 := p7.st hst (by decide)
        have r7 := (congrFun gx.2.2.2.2 7).trans r7
        have p8 := p8.st hst (by decide)
        have r8 := (congrFun gx.2.2.2.2 8).trans r8
        have p9 := hgood
        have r9 := (congrFun gx.2.2.2.2 9).trans r9
        have p10 := p10.st hst (by decide) (by decide)
        have r10 := (congrFun gx.2.2.2.2 10).trans r10
        have i0 := (congrFun gx.2.2.1 0).trans i0
        have i1 := (congrFun gx.2.2.1 1).trans i1
        have i2 := (congrFun gx.2.2.1 2).trans i2
        have i3 := (congrFun gx.2.2.1 3).trans i3
        have i4 := (congrFun gx.2.2.1 4).trans i4
        have i5 := (congrFun gx.2.2.1 5).trans i5
        have hT := gx.1.trans hT
        have hX9 := hX
        have hB9 : mT M b9 = 0 := b9new
        have hX : Ex1 x M M2 := fun a ha hax => (hX9 a ha hax).tr (hE a (by rw [(hX9 a ha hax).1]; exact ha) (fun e => ha (by rw [e]; exact hB9)))
        clear ih hf hk hin hE hT2 hN2 hst gx hTb hNb hX9
        generalize M2 = M1 at *
        refine k_iconst C (x := 0) rfl rfl rfl ?_
        refine k_istore_n C (lw := [(1, .int _), (0, _)]) rfl rfl (Nat.le_of_ble_eq_true rfl) rfl ?_
        have hTb := p10.1; have hNb := p10.2
        have loop : ∀ (k i : Nat) (M2 : Mm), k = 8 - i → i ≤ 8 → Ex1 b10 M1 M2 → mT M2 b10 = 25 → mN M2 b10 = 8 → (∀ j, j < i → ∃ t, mR M2 b10 j = some t ∧ gSg M2 t) → V 86 [(1, .int (Int32.ofNat i)), (0, .ref x)] [] M2 (125 + 3 * i) (2552 + 323 * i) := by
          intro k
          induction k using Nat.strongRecOn with
          | _ k ih =>
            intro i M2 hk hin hE hT2 hN2 hf
            have gx := hE x (by rw [hT]; decide) (fun e => by rw [e, hTb] at hT; exact absurd hT (by decide))
            refine k_iload_n C rfl rfl rfl ?_
            refine k_aload_n C rfl rfl rfl ?_
            refine i_getR C rfl rfl rfl (gx.1.trans hT) rfl ((congrFun gx.2.2.2.2 10).trans r10) ?_
            refine k_alen C rfl rfl (by rw [hT2]; exact Nat.le_of_ble_eq_true rfl) ?_
            rw [hN2]
            refine k_icmp_ge C (t := 114) rfl rfl rfl (fun c => ?_) (fun c => ?_)
            · have hi : i = 8 := Nat.le_antisymm hin ((n_le (Nat.le_of_ble_eq_true rfl) (by omega)).mp c)
              subst hi
              have hst := hE.st hTb
              have hgood : gSgs M2 b10 8 := ⟨hT2, hN2, hf⟩
              have p6 := p6.st hst (by decide) (by decide)
              have r6 := (congrFun gx.2.2.2.2 6).trans r6
              have p7 := p7.st hst (by decide)
              have r7 := (congrFun gx.2.2.2.2 7).trans r7
              have p8 := p8.st hst (by decide)
              have r8 := (congrFun gx.2.2.2.2 8).trans r8
              have p9 := p9.st hst (by decide)
              have r9 := (congrFun gx.2.2.2.2 9).trans r9
              have p10 := hgood
              have r10 := (congrFun gx.2.2.2.2 10).trans r10
              have i0 := (congrFun gx.2.2.1 0).trans i0
              have i1 := (congrFun gx.2.2.1 1).trans i1
              have i2 := (congrFun gx.2.2.1 2).trans i2
              have i3 := (congrFun gx.2.2.1 3).trans i3
              have i4 := (congrFun gx.2.2.1 4).trans i4
              have i5 := (congrFun gx.2.2.1 5).trans i5
              have hX1 : Ex1 x M M2 := fun a ha hax => (hX a ha hax).tr (hE a (by rw [(hX a ha hax).1]; exact ha) (fun e => ha (by rw [e]; exact b10new)))
              exact k_vret C rfl rfl (Nat.le_of_ble_eq_true rfl) (Nat.le_of_ble_eq_true rfl) ⟨rfl, hX1, gx.1.trans hT, i0, i1, i2, i3, i4, i5, ⟨_, r6, p6⟩, ⟨_, r7, p7⟩, ⟨_, r8, p8⟩, ⟨_, r9, p9⟩, ⟨_, r10, p10⟩⟩
            · have hi : i < 8 := Nat.lt_of_not_le (fun h => c ((n_le (Nat.le_of_ble_eq_true rfl) (by omega)).mpr h))
              refine k_aload_n C rfl rfl rfl ?_
              refine i_getR C rfl rfl rfl (gx.1.trans hT) rfl ((congrFun gx.2.2.2.2 10).trans r10) ?_
              refine k_iload_n C rfl rfl rfl ?_
              refine i_new C (n := 3) rfl rfl rfl rfl rfl rfl (by omega) (by omega) (fun f M3 f0 fE fT fI fL => ?_)
              refine k_dup C rfl rfl rfl ?_
              refine i_callN C (i_X7 fT fI) rfl rfl rfl rfl rfl (by omega) (by omega) (Nat.le_of_ble_eq_true rfl) ?_
              intro M4 h4
              have hE4 : Ext M2 M4 := fE.e1 h4.1 f0
              have eb := hE4 b10 (by rw [hT2]; decide)
              have hT4 := eb.1.trans hT2
              have hN4 := eb.2.1.trans hN2
              refine k_aast C (t := 5) (ci := 7) rfl rfl hT4 (h4.2.1) (Or.inr (Or.inr ⟨rfl, rfl⟩)) (vin rfl (by rw [hN4]; exact hi) (by rw [hN4]; exact Nat.le_of_ble_eq_true rfl)) ?_
              rw [n_nat (by omega)]
              refine k_inc1 C (lw := [(1, .int _), (0, _)]) rfl rfl rfl (Nat.le_of_ble_eq_true rfl) rfl ?_
              refine k_goto C (pc2 := 86) rfl rfl ?_
              rw [n_s]
              have hE5 : Ex1 b10 M2 (sR M4 b10 i (some f)) := fun a ha hab => (hE4 a ha).tr (ag_sR hab)
              have hcc : 125 + 3 * i + 1 + 2 = 125 + 3 * (i + 1) := by omega
              have hss : 2552 + 323 * i + 3 + 320 = 2552 + 323 * (i + 1) := by omega
              rw [hcc, hss]
              refine ih (8 - (i + 1)) (by omega) (i + 1) _ rfl hi (hE.tr hE5) hT4 hN4 (fun j hj => ?_)
              by_cases hji : j = i
              · exact ⟨f, by rw [hji]; exact u2_s, (fun {t} (h : gSg M4 t) => h.go (fun a ha => ag_sR (fun e => by rw [e, hT4] at ha; omega)) : ∀ {t}, gSg M4 t → gSg (sR M4 b10 i (some f)) t) h4.2⟩
              · obtain ⟨g, g1, g2⟩ := hf j (by omega)
                refine ⟨g, (u2_k hji).trans ?_, (fun {t} (h : gSg M4 t) => h.go (fun a ha => ag_sR (fun e => by rw [e, hT4] at ha; omega)) : ∀ {t}, gSg M4 t → gSg (sR M4 b10 i (some f)) t) ((fun {t} (h : gSg M2 t) => h.go (fun a ha => hE4 a (by omega)) : ∀ {t}, gSg M2 t → gSg M4 t) g2)⟩
                show mR M4 b10 j = some g
                rw [eb.2.2.2.2]; exact g1
        exact loop 8 0 M1 rfl (Nat.zero_le 8) Ex1.rf hTb hNb (fun j hj => absurd hj (Nat.not_lt_zero j))
      · have hi : i < 8 := Nat.lt_of_not_le (fun h => c ((n_le (Nat.le_of_ble_eq_true rfl) (by omega)).mpr h))
        refine k_aload_n C rfl rfl rfl ?_
        refine i_getR C rfl rfl rfl (gx.1.trans hT) rfl ((congrFun gx.2.2.2.2 9).trans r9) ?_
        refine k_iload_n C rfl rfl rfl ?_
        refine i_new C (n := 4) rfl rfl rfl rfl rfl rfl (by omega) (by omega) (fun f M3 f0 fE fT fI fL => ?_)
        refine k_dup C rfl rfl rfl ?_
        refine i_callN C (i_X9 fT fI) rfl rfl rfl rfl rfl (by omega) (by omega) (Nat.le_of_ble_eq_true rfl) ?_
        intro M4 h4
        have hE4 : Ext M2 M4 := fE.e1 h4.1 f0
        have eb := hE4 b9 (by rw [hT2]; decide)
        have hT4 := eb.1.trans hT2
        have hN4 := eb.2.1.trans hN2
        refine k_aast C (t := 4) (ci := 9) rfl rfl hT4 (h4.2) (Or.inr (Or.inl ⟨rfl, rfl⟩)) (vin rfl (by rw [hN4]; exact hi) (by rw [hN4]; exact Nat.le_of_ble_eq_true rfl)) ?_
        rw [n_nat (by omega)]
        refine k_inc1 C (lw := [(1, .int _), (0, _)]) rfl rfl rfl (Nat.le_of_ble_eq_true rfl) rfl ?_
        refine k_goto C (pc2 := 56) rfl rfl ?_
        rw [n_s]
        have hE5 : Ex1 b9 M2 (sR M4 b9 i (some f)) := fun a ha hab => (hE4 a ha).tr (ag_sR hab)
        have hcc : 117 + 1 * i + 1 + 0 = 117 + 1 * (i + 1) := by omega
        have hss : 2520 + 4 * i + 4 + 0 = 2520 + 4 * (i + 1) := by omega
        rw [hcc, hss]
        refine ih (8 - (i + 1)) (by omega) (i + 1) _ rfl hi (hE.tr hE5) hT4 hN4 (fun j hj => ?_)
        by_cases hji : j = i
        · exact ⟨f, by rw [hji]; exact u2_s, (fun {t} (h : mT M4 t = 10) => (ag_sR (fun e => by rw [e, hT4] at h; exact absurd h (by decide))).1.trans h : ∀ {t}, gTb M4 t → gTb (sR M4 b9 i (some f)) t) h4.2⟩
        · obtain ⟨g, g1, g2⟩ := hf j (by omega)
          refine ⟨g, (u2_k hji).trans ?_, (fun {t} (h : mT M4 t = 10) => (ag_sR (fun e => by rw [e, hT4] at h; exact absurd h (by decide))).1.trans h : ∀ {t}, gTb M4 t → gTb (sR M4 b9 i (some f)) t) ((fun {t} (h : mT M2 t = 10) => (hE4 t (by rw [h]; decide)).1.trans h : ∀ {t}, gTb M2 t → gTb M4 t) g2)⟩
          show mR M4 b9 j = some g
          rw [eb.2.2.2.2]; exact g1
  exact loop 8 0 M1 rfl (Nat.zero_le 8) Ex1.rf hTb hNb (fun j hj => absurd hj (Nat.not_lt_zero j))
def gLF (M1 : Mm) (x : Nat) : Prop := mT M1 x = 12 ∧ mI M1 x 3 = 0 ∧ mI M1 x 4 = -1 ∧ ∃ rd nw kp al cc rw se po wh w1 w2 w3 : Nat, mR M1 x 0 = some rd ∧ mR M1 x 1 = some nw ∧ mR M1 x 2 = some kp ∧ mR M1 x 5 = some al ∧ mR M1 x 6 = some cc ∧ mR M1 x 7 = some rw ∧ mR M1 x 8 = some se ∧ mR M1 x 9 = some po ∧ mR M1 x 10 = some wh ∧ mR M1 x 11 = some w1 ∧ mR M1 x 12 = some w2 ∧ mR M1 x 13 = some w3 ∧ gRd M1 rd ∧ gSt M1 nw ∧ gSt M1 kp ∧ gAl M1 al nw ∧ gCc M1 cc al ∧ gRw M1 rw al cc ∧ gSe M1 se al ∧ gPo M1 po al ∧ gWh M1 wh ∧ gF M1 w1 ∧ gF M1 w2 ∧ gF M1 w3 ∧ kp ≠ nw
set_option maxHeartbeats 1000000 in
theorem i_X11 {d : Nat} {M : Mm} {x : Nat} (hT : mT M x = 12) (h0 : ∀ j, mI M x j = 0) : Ex (d + 5) 125 [.ref x] M 411 18615 (pC fun M1 => Ex1 x M M1 ∧ gLF M1 x) := by
  refine ⟨_, rfl, Nat.le_of_ble_eq_true rfl, fun V C S => ?_⟩
  show V 0 [(0, .ref x)] [] M 0 0
  have hX : Ex1 x M M := Ex1.rf
  have i3 : mI M x 3 = 0 := h0 3
  have i4 : mI M x 4 = 0 := h0 4
  refine k_aload_n C rfl rfl rfl ?_
  refine i_obj C rfl rfl rfl (Nat.le_of_ble_eq_true rfl) ?_
  refine k_aload_n C rfl rfl rfl ?_
  refine i_new C (n := 6) rfl rfl rfl rfl rfl rfl (Nat.le_of_ble_eq_true rfl) (Nat.le_of_ble_eq_true rfl) (fun n1 M1 f0 fE fT fI fL => ?_)
  have ex := fE _ (by rw [hT]; decide)
  have hT1 := ex.1.trans hT
  refine k_dup C rfl rfl rfl ?_
  refine i_callN C (i_X4 fT fI) rfl rfl rfl rfl rfl (Nat.le_of_ble_eq_true rfl) (Nat.le_of_ble_eq_true rfl) (Nat.le_of_ble_eq_true rfl) ?_
  intro M2 g
  have gE := fE.e1 g.1 f0
  have ex2 := gE _ (by rw [hT]; decide)
  refine i_put C rfl rfl rfl (ex2.1.trans hT) ⟨rfl, rfl⟩ rfl (fun M3 s => ?_)
  have hX9 := s.1.st (ex2.1.trans hT)
  have gS : Stt 12 _ _ := gE.st
  have i3 := ((congrFun s.2.2.1 3).trans (congrFun ex2.2.2.1 3)).trans i3
  have i4 := ((congrFun s.2.2.1 4).trans (congrFun ex2.2.2.1 4)).trans i4
  have r0 := s.2.2.2.2.2
  have p0 := g.2.st hX9 (by decide)
  have hX := hX.tr ((gE.to1 (x := x)).tr s.1)
  have hT := s.2.1.trans (ex2.1.trans hT)
  refine k_aload_n C rfl rfl rfl ?_
  refine i_new C (n := 11) rfl rfl rfl rfl rfl rfl (Nat.le_of_ble_eq_true rfl) (Nat.le_of_ble_eq_true rfl) (fun n2 M1 f0 fE fT fI fL => ?_)
  have ex := fE _ (by rw [hT]; decide)
  have hT1 := ex.1.trans hT
  have q0 := (congrFun ex.2.2.2.2 0).trans r0
  refine k_dup C rfl rfl rfl ?_
  refine i_call C (i_X8 fT fI) rfl rfl rfl rfl rfl ⟨_, rfl, rfl, rfl⟩ rfl rfl (Nat.le_of_ble_eq_true rfl) (Nat.le_of_ble_eq_true rfl) (Nat.le_of_ble_eq_true rfl) ?_
  intro M2 g
  have gE := fE.e1 g.1 f0
  have ex2 := gE _ (by rw [hT]; decide)
  refine i_put C rfl rfl rfl (ex2.1.trans hT) ⟨rfl, rfl⟩ rfl (fun M3 s => ?_)
  have hX9 := s.1.st (ex2.1.trans hT)
  have gS : Stt 12 _ _ := gE.st
  have p0 := p0.st gS (by decide)
  have p0 := p0.st hX9 (by decide)
  have r0 := (s.2.2.2.2.1 0 (by decide)).trans ((congrFun ex2.2.2.2.2 0).trans r0)
  have i3 := ((congrFun s.2.2.1 3).trans (congrFun ex2.2.2.1 3)).trans i3
  have i4 := ((congrFun s.2.2.1 4).trans (congrFun ex2.2.2.1 4)).trans i4
  have r1 := s.2.2.2.2.2
  have p1 := g.2.st hX9 (by decide)
  have hX := hX.tr ((gE.to1 (x := x)).tr s.1)
  have hT := s.2.1.trans (ex2.1.trans hT)
  refine k_aload_n C rfl rfl rfl ?_
  refine i_new C (n := 11) rfl rfl rfl rfl rfl rfl (Nat.le_of_ble_eq_true rfl) (Nat.le_of_ble_eq_true rfl) (fun n3 M1 f0 fE fT fI fL => ?_)
  have hkn : n3 ≠ n2 := fun e => by rw [e, p1.1] at f0; exact absurd f0 (by decide)
  have ex := fE _ (by rw [hT]; decide)
  have hT1 := ex.1.trans hT
  have q0 := (congrFun ex.2.2.2.2 0).trans r0
  have q1 := (congrFun ex.2.2.2.2 1).trans r1
  refine k_dup C rfl rfl rfl ?_
  refine i_call C (i_X8 fT fI) rfl rfl rfl rfl rfl ⟨_, rfl, rfl, rfl⟩ rfl rfl (Nat.le_of_ble_eq_true rfl) (Nat.le_of_ble_eq_true rfl) (Nat.le_of_ble_eq_true rfl) ?_
  intro M2 g
  have gE := fE.e1 g.1 f0
  have ex2 := gE _ (by rw [hT]; decide)
  refine i_put C rfl rfl rfl (ex2.1.trans hT) ⟨rfl, rfl⟩ rfl (fun M3 s => ?_)
  have hX9 := s.1.st (ex2.1.trans hT)
  have gS : Stt 12 _ _ := gE.st
  have p0 := p0.st gS (by decide)
  have p0 := p0.st hX9 (by decide)
  have r0 := (s.2.2.2.2.1 0 (by decide)).trans ((congrFun ex2.2.2.2.2 0).trans r0)
  have p1 := p1.st gS (by decide)
  have p1 := p1.st hX9 (by decide)
  have r1 := (s.2.2.2.2.1 1 (by decide)).trans ((congrFun ex2.2.2.2.2 1).trans r1)
  have i3 := ((congrFun s.2.2.1 3).trans (congrFun ex2.2.2.1 3)).trans i3
  have i4 := ((congrFun s.2.2.1 4).trans (congrFun ex2.2.2.1 4)).trans i4
  have r2 := s.2.2.2.2.2
  have p2 := g.2.st hX9 (by decide)
  have hX := hX.tr ((gE.to1 (x := x)).tr s.1)
  have hT := s.2.1.trans (ex2.1.trans hT)
  refine k_aload_n C rfl rfl rfl ?_
  refine k_iconst C (x := -1) rfl rfl rfl ?_
  refine i_putI C rfl rfl rfl hT (Or.inr rfl) rfl (fun M1 s => ?_)
  have hx9 := s.1.st hT
  have p0 := p0.st hx9 (by decide)
  have p1 := p1.st hx9 (by decide)
  have p2 := p2.st hx9 (by decide)
  have hX := hX.tr s.1
  have r0 := (congrFun s.2.2.1 0).trans r0
  have r1 := (congrFun s.2.2.1 1).trans r1
  have r2 := (congrFun s.2.2.1 2).trans r2
  have i3 := (s.2.2.2.2.1 3 (by decide)).trans i3
  have i4 := s.2.2.2.2.2
  have hT := s.2.1.trans hT
  refine k_aload_n C rfl rfl rfl ?_
  refine i_new C (n := 3) rfl rfl rfl rfl rfl rfl (Nat.le_of_ble_eq_true rfl) (Nat.le_of_ble_eq_true rfl) (fun n4 M1 f0 fE fT fI fL => ?_)
  have ex := fE _ (by rw [hT]; decide)
  have hT1 := ex.1.trans hT
  have q0 := (congrFun ex.2.2.2.2 0).trans r0
  have q1 := (congrFun ex.2.2.2.2 1).trans r1
  have q2 := (congrFun ex.2.2.2.2 2).trans r2
  refine k_dup C rfl rfl rfl ?_
  refine k_aload_n C rfl rfl rfl ?_
  refine i_getR C rfl rfl rfl hT1 rfl q1 ?_
  refine i_call C (i_X0 fT fI) rfl rfl rfl rfl rfl ⟨_, rfl, rfl, rfl⟩ rfl rfl (Nat.le_of_ble_eq_true rfl) (Nat.le_of_ble_eq_true rfl) (Nat.le_of_ble_eq_true rfl) ?_
  intro M2 g
  have gE := fE.e1 g.1 f0
  have ex2 := gE _ (by rw [hT]; decide)
  refine i_put C rfl rfl rfl (ex2.1.trans hT) ⟨rfl, rfl⟩ rfl (fun M3 s => ?_)
  have hX9 := s.1.st (ex2.1.trans hT)
  have gS : Stt 12 _ _ := gE.st
  have p0 := p0.st gS (by decide)
  have p0 := p0.st hX9 (by decide)
  have r0 := (s.2.2.2.2.1 0 (by decide)).trans ((congrFun ex2.2.2.2.2 0).trans r0)
  have p1 := p1.st gS (by decide)
  have p1 := p1.st hX9 (by decide)
  have r1 := (s.2.2.2.2.1 1 (by decide)).trans ((congrFun ex2.2.2.2.2 1).trans r1)
  have p2 := p2.st gS (by decide)
  have p2 := p2.st hX9 (by decide)
  have r2 := (s.2.2.2.2.1 2 (by decide)).trans ((congrFun ex2.2.2.2.2 2).trans r2)
  have i3 := ((congrFun s.2.2.1 3).trans (congrFun ex2.2.2.1 3)).trans i3
  have i4 := ((congrFun s.2.2.1 4).trans (congrFun ex2.2.2.1 4)).trans i4
  have r5 := s.2.2.2.2.2
  have p5 := g.2.st hX9 (by decide)
  have hX := hX.tr ((gE.to1 (x := x)).tr s.1)
  have hT := s.2.1.trans (ex2.1.trans hT)
  refine k_aload_n C rfl rfl rfl ?_
  refine i_new C (n := 6) rfl rfl rfl rfl rfl rfl (Nat.le_of_ble_eq_true rfl) (Nat.le_of_ble_eq_true rfl) (fun n5 M1 f0 fE fT fI fL => ?_)
  have ex := fE _ (by rw [hT]; decide)
  have hT1 := ex.1.trans hT
  have q0 := (congrFun ex.2.2.2.2 0).trans r0
  have q1 := (congrFun ex.2.2.2.2 1).trans r1
  have q2 := (congrFun ex.2.2.2.2 2).trans r2
  have q5 := (congrFun ex.2.2.2.2 5).trans r5
  refine k_dup C rfl rfl rfl ?_
  refine k_aload_n C rfl rfl rfl ?_
  refine i_getR C rfl rfl rfl hT1 rfl q5 ?_
  refine i_call C (i_X1 fT fI) rfl rfl rfl rfl rfl ⟨_, rfl, rfl, rfl⟩ rfl rfl (Nat.le_of_ble_eq_true rfl) (Nat.le_of_ble_eq_true rfl) (Nat.le_of_ble_eq_true rfl) ?_
  intro M2 g
  have gE := fE.e1 g.1 f0
  have ex2 := gE _ (by rw [hT]; decide)
  refine i_put C rfl rfl rfl (ex2.1.trans hT) ⟨rfl, rfl⟩ rfl (fun M3 s => ?_)
  have hX9 := s.1.st (ex2.1.trans hT)
  have gS : Stt 12 _ _ := gE.st
  have p0 := p0.st gS (by decide)
  have p0 := p0.st hX9 (by decide)
  have r0 := (s.2.2.2.2.1 0 (by decide)).trans ((congrFun ex2.2.2.2.2 0).trans r0)
  have p1 := p1.st gS (by decide)
  have p1 := p1.st hX9 (by decide)
  have r1 := (s.2.2.2.2.1 1 (by decide)).trans ((congrFun ex2.2.2.2.2 1).trans r1)
  have p2 := p2.st gS (by decide)
  have p2 := p2.st hX9 (by decide)
  have r2 := (s.2.2.2.2.1 2 (by decide)).trans ((congrFun ex2.2.2.2.2 2).trans r2)
  have p5 := p5.st gS (by decide)
  have p5 := p5.st hX9 (by decide)
  have r5 := (s.2.2.2.2.1 5 (by decide)).trans ((congrFun ex2.2.2.2.2 5).trans r5)
  have i3 := ((congrFun s.2.2.1 3).trans (congrFun ex2.2.2.1 3)).trans i3
  have i4 := ((congrFun s.2.2.1 4).trans (congrFun ex2.2.2.1 4)).trans i4
  have r6 := s.2.2.2.2.2
  have p6 := g.2.st hX9 (by decide)
  have hX := hX.tr ((gE.to1 (x := x)).tr s.1)
  have hT := s.2.1.trans (ex2.1.trans hT)
  refine k_aload_n C rfl rfl rfl ?_
  refine i_new C (n := 9) rfl rfl rfl rfl rfl rfl (Nat.le_of_ble_eq_true rfl) (Nat.le_of_ble_eq_true rfl) (fun n6 M1 f0 fE fT fI fL => ?_)
  have ex := fE _ (by rw [hT]; decide)
  have hT1 := ex.1.trans hT
  have q0 := (congrFun ex.2.2.2.2 0).trans r0
  have q1 := (congrFun ex.2.2.2.2 1).trans r1
  have q2 := (congrFun ex.2.2.2.2 2).trans r2
  have q5 := (congrFun ex.2.2.2.2 5).trans r5
  have q6 := (congrFun ex.2.2.2.2 6).trans r6
  refine k_dup C rfl rfl rfl ?_
  refine k_aload_n C rfl rfl rfl ?_
  refine i_getR C rfl rfl rfl hT1 rfl q5 ?_
  refine k_aload_n C rfl rfl rfl ?_
  refine i_getR C rfl rfl rfl hT1 rfl q6 ?_
  refine i_call C (i_X5 fT fI) rfl rfl rfl rfl rfl ⟨_, rfl, rfl, rfl⟩ rfl rfl (Nat.le_of_ble_eq_true rfl) (Nat.le_of_ble_eq_true rfl) (Nat.le_of_ble_eq_true rfl) ?_
  intro M2 g
  have gE := fE.e1 g.1 f0
  have ex2 := gE _ (by rw [hT]; decide)
  refine i_put C rfl rfl rfl (ex2.1.trans hT) ⟨rfl, rfl⟩ rfl (fun M3 s => ?_)
  have hX9 := s.1.st (ex2.1.trans hT)
  have gS : Stt 12 _ _ := gE.st
  have p0 := p0.st gS (by decide)
  have p0 := p0.st hX9 (by decide)
  have r0 := (s.2.2.2.2.1 0 (by decide)).trans ((congrFun ex2.2.2.2.2 0).trans r0)
  have p1 := p1.st gS (by decide)
  have p1 := p1.st hX9 (by decide)
  have r1 := (s.2.2.2.2.1 1 (by decide)).trans ((congrFun ex2.2.2.2.2 1).trans r1)
  have p2 := p2.st gS (by decide)
  have p2 := p2.st hX9 (by decide)
  have r2 := (s.2.2.2.2.1 2 (by decide)).trans ((congrFun ex2.2.2.2.2 2).trans r2)
  have p5 := p5.st gS (by decide)
  have p5 := p5.st hX9 (by decide)
  have r5 := (s.2.2.2.2.1 5 (by decide)).trans ((congrFun ex2.2.2.2.2 5).trans r5)
  have p6 := p6.st gS (by decide)
  have p6 := p6.st hX9 (by decide)
  have r6 := (s.2.2.2.2.1 6 (by decide)).trans ((congrFun ex2.2.2.2.2 6).trans r6)
  have i3 := ((congrFun s.2.2.1 3).trans (congrFun ex2.2.2.1 3)).trans i3
  have i4 := ((congrFun s.2.2.1 4).trans (congrFun ex2.2.2.1 4)).trans i4
  have r7 := s.2.2.2.2.2
  have p7 := g.2.st hX9 (by decide)
  have hX := hX.tr ((gE.to1 (x := x)).tr s.1)
  have hT := s.2.1.trans (ex2.1.trans hT)
  refine k_aload_n C rfl rfl rfl ?_
  refine i_new C (n := 7) rfl rfl rfl rfl rfl rfl (Nat.le_of_ble_eq_true rfl) (Nat.le_of_ble_eq_true rfl) (fun n7 M1 f0 fE fT fI fL => ?_)
  have ex := fE _ (by rw [hT]; decide)
  have hT1 := ex.1.trans hT
  have q0 := (congrFun ex.2.2.2.2 0).trans r0
  have q1 := (congrFun ex.2.2.2.2 1).trans r1
  have q2 := (congrFun ex.2.2.2.2 2).trans r2
  have q5 := (congrFun ex.2.2.2.2 5).trans r5
  have q6 := (congrFun ex.2.2.2.2 6).trans r6
  have q7 := (congrFun ex.2.2.2.2 7).trans r7
  refine k_dup C rfl rfl rfl ?_
  refine k_aload_n C rfl rfl rfl ?_
  refine i_getR C rfl rfl rfl hT1 rfl q5 ?_
  refine i_call C (i_X6 fT fI) rfl rfl rfl rfl rfl ⟨_, rfl, rfl, rfl⟩ rfl rfl (Nat.le_of_ble_eq_true rfl) (Nat.le_of_ble_eq_true rfl) (Nat.le_of_ble_eq_true rfl) ?_
  intro M2 g
  have gE := fE.e1 g.1 f0
  have ex2 := gE _ (by rw [hT]; decide)
  refine i_put C rfl rfl rfl (ex2.1.trans hT) ⟨rfl, rfl⟩ rfl (fun M3 s => ?_)
  have hX9 := s.1.st (ex2.1.trans hT)
  have gS : Stt 12 _ _ := gE.st
  have p0 := p0.st gS (by decide)
  have p0 := p0.st hX9 (by decide)
  have r0 := (s.2.2.2.2.1 0 (by decide)).trans ((congrFun ex2.2.2.2.2 0).trans r0)
  have p1 := p1.st gS (by decide)
  have p1 := p1.st hX9 (by decide)
  have r1 := (s.2.2.2.2.1 1 (by decide)).trans ((congrFun ex2.2.2.2.2 1).trans r1)
  have p2 := p2.st gS (by decide)
  have p2 := p2.st hX9 (by decide)
  have r2 := (s.2.2.2.2.1 2 (by decide)).trans ((congrFun ex2.2.2.2.2 2).trans r2)
  have p5 := p5.st gS (by decide)
  have p5 := p5.st hX9 (by decide)
  have r5 := (s.2.2.2.2.1 5 (by decide)).trans ((congrFun ex2.2.2.2.2 5).trans r5)
  have p6 := p6.st gS (by decide)
  have p6 := p6.st hX9 (by decide)
  have r6 := (s.2.2.2.2.1 6 (by decide)).trans ((congrFun ex2.2.2.2.2 6).trans r6)
  have p7 := p7.st gS (by decide)
  have p7 := p7.st hX9 (by decide)
  have r7 := (s.2.2.2.2.1 7 (by decide)).trans ((congrFun ex2.2.2.2.2 7).trans r7)
  have i3 := ((congrFun s.2.2.1 3).trans (congrFun ex2.2.2.1 3)).trans i3
  have i4 := ((congrFun s.2.2.1 4).trans (congrFun ex2.2.2.1 4)).trans i4
  have r8 := s.2.2.2.2.2
  have p8 := g.2.st hX9 (by decide)
  have hX := hX.tr ((gE.to1 (x := x)).tr s.1)
  have hT := s.2.1.trans (ex2.1.trans hT)
  refine k_aload_n C rfl rfl rfl ?_
  refine i_new C (n := 8) rfl rfl rfl rfl rfl rfl (Nat.le_of_ble_eq_true rfl) (Nat.le_of_ble_eq_true rfl) (fun n8 M1 f0 fE fT fI fL => ?_)
  have ex := fE _ (by rw [hT]; decide)
  have hT1 := ex.1.trans hT
  have q0 := (congrFun ex.2.2.2.2 0).trans r0
  have q1 := (congrFun ex.2.2.2.2 1).trans r1
  have q2 := (congrFun ex.2.2.2.2 2).trans r2
  have q5 := (congrFun ex.2.2.2.2 5).trans r5
  have q6 := (congrFun ex.2.2.2.2 6).trans r6
  have q7 := (congrFun ex.2.2.2.2 7).trans r7
  have q8 := (congrFun ex.2.2.2.2 8).trans r8
  refine k_dup C rfl rfl rfl ?_
  refine k_aload_n C rfl rfl rfl ?_
  refine i_getR C rfl rfl rfl hT1 rfl q5 ?_
  refine i_call C (i_X3 fT fI) rfl rfl rfl rfl rfl ⟨_, rfl, rfl, rfl⟩ rfl rfl (Nat.le_of_ble_eq_true rfl) (Nat.le_of_ble_eq_true rfl) (Nat.le_of_ble_eq_true rfl) ?_
  intro M2 g
  have gE := fE.e1 g.1 f0
  have ex2 := gE _ (by rw [hT]; decide)
  refine i_put C rfl rfl rfl (ex2.1.trans hT) ⟨rfl, rfl⟩ rfl (fun M3 s => ?_)
  have hX9 := s.1.st (ex2.1.trans hT)
  have gS : Stt 12 _ _ := gE.st
  have p0 := p0.st gS (by decide)
  have p0 := p0.st hX9 (by decide)
  have r0 := (s.2.2.2.2.1 0 (by decide)).trans ((congrFun ex2.2.2.2.2 0).trans r0)
  have p1 := p1.st gS (by decide)
  have p1 := p1.st hX9 (by decide)
  have r1 := (s.2.2.2.2.1 1 (by decide)).trans ((congrFun ex2.2.2.2.2 1).trans r1)
  have p2 := p2.st gS (by decide)
  have p2 := p2.st hX9 (by decide)
  have r2 := (s.2.2.2.2.1 2 (by decide)).trans ((congrFun ex2.2.2.2.2 2).trans r2)
  have p5 := p5.st gS (by decide)
  have p5 := p5.st hX9 (by decide)
  have r5 := (s.2.2.2.2.1 5 (by decide)).trans ((congrFun ex2.2.2.2.2 5).trans r5)
  have p6 := p6.st gS (by decide)
  have p6 := p6.st hX9 (by decide)
  have r6 := (s.2.2.2.2.1 6 (by decide)).trans ((congrFun ex2.2.2.2.2 6).trans r6)
  have p7 := p7.st gS (by decide)
  have p7 := p7.st hX9 (by decide)
  have r7 := (s.2.2.2.2.1 7 (by decide)).trans ((congrFun ex2.2.2.2.2 7).trans r7)
  have p8 := p8.st gS (by decide)
  have p8 := p8.st hX9 (by decide)
  have r8 := (s.2.2.2.2.1 8 (by decide)).trans ((congrFun ex2.2.2.2.2 8).trans r8)
  have i3 := ((congrFun s.2.2.1 3).trans (congrFun ex2.2.2.1 3)).trans i3
  have i4 := ((congrFun s.2.2.1 4).trans (congrFun ex2.2.2.1 4)).trans i4
  have r9 := s.2.2.2.2.2
  have p9 := g.2.st hX9 (by decide)
  have hX := hX.tr ((gE.to1 (x := x)).tr s.1)
  have hT := s.2.1.trans (ex2.1.trans hT)
  refine k_aload_n C rfl rfl rfl ?_
  refine i_new C (n := 8) rfl rfl rfl rfl rfl rfl (Nat.le_of_ble_eq_true rfl) (Nat.le_of_ble_eq_true rfl) (fun n9 M1 f0 fE fT fI fL => ?_)
  have ex := fE _ (by rw [hT]; decide)
  have hT1 := ex.1.trans hT
  have q0 := (congrFun ex.2.2.2.2 0).trans r0
  have q1 := (congrFun ex.2.2.2.2 1).trans r1
  have q2 := (congrFun ex.2.2.2.2 2).trans r2
  have q5 := (congrFun ex.2.2.2.2 5).trans r5
  have q6 := (congrFun ex.2.2.2.2 6).trans r6
  have q7 := (congrFun ex.2.2.2.2 7).trans r7
  have q8 := (congrFun ex.2.2.2.2 8).trans r8
  have q9 := (congrFun ex.2.2.2.2 9).trans r9
  refine k_dup C rfl rfl rfl ?_
  refine i_callN C (i_X10 fT fI fL) rfl rfl rfl rfl rfl (Nat.le_of_ble_eq_true rfl) (Nat.le_of_ble_eq_true rfl) (Nat.le_of_ble_eq_true rfl) ?_
  intro M2 g
  have gE := fE.e1 g.1 f0
  have ex2 := gE _ (by rw [hT]; decide)
  refine i_put C rfl rfl rfl (ex2.1.trans hT) ⟨rfl, rfl⟩ rfl (fun M3 s => ?_)
  have hX9 := s.1.st (ex2.1.trans hT)
  have gS : Stt 12 _ _ := gE.st
  have p0 := p0.st gS (by decide)
  have p0 := p0.st hX9 (by decide)
  have r0 := (s.2.2.2.2.1 0 (by decide)).trans ((congrFun ex2.2.2.2.2 0).trans r0)
  have p1 := p1.st gS (by decide)
  have p1 := p1.st hX9 (by decide)
  have r1 := (s.2.2.2.2.1 1 (by decide)).trans ((congrFun ex2.2.2.2.2 1).trans r1)
  have p2 := p2.st gS (by decide)
  have p2 := p2.st hX9 (by decide)
  have r2 := (s.2.2.2.2.1 2 (by decide)).trans ((congrFun ex2.2.2.2.2 2).trans r2)
  have p5 := p5.st gS (by decide)
  have p5 := p5.st hX9 (by decide)
  have r5 := (s.2.2.2.2.1 5 (by decide)).trans ((congrFun ex2.2.2.2.2 5).trans r5)
  have p6 := p6.st gS (by decide)
  have p6 := p6.st hX9 (by decide)
  have r6 := (s.2.2.2.2.1 6 (by decide)).trans ((congrFun ex2.2.2.2.2 6).trans r6)
  have p7 := p7.st gS (by decide)
  have p7 := p7.st hX9 (by decide)
  have r7 := (s.2.2.2.2.1 7 (by decide)).trans ((congrFun ex2.2.2.2.2 7).trans r7)
  have p8 := p8.st gS (by decide)
  have p8 := p8.st hX9 (by decide)
  have r8 := (s.2.2.2.2.1 8 (by decide)).trans ((congrFun ex2.2.2.2.2 8).trans r8)
  have p9 := p9.st gS (by decide)
  have p9 := p9.st hX9 (by decide)
  have r9 := (s.2.2.2.2.1 9 (by decide)).trans ((congrFun ex2.2.2.2.2 9).trans r9)
  have i3 := ((congrFun s.2.2.1 3).trans (congrFun ex2.2.2.1 3)).trans i3
  have i4 := ((congrFun s.2.2.1 4).trans (congrFun ex2.2.2.1 4)).trans i4
  have r10 := s.2.2.2.2.2
  have p10 := g.2.st hX9 (by decide)
  have hX := hX.tr ((gE.to1 (x := x)).tr s.1)
  have hT := s.2.1.trans (ex2.1.trans hT)
  refine k_aload_n C rfl rfl rfl ?_
  refine i_new C (n := 2) rfl rfl rfl rfl rfl rfl (Nat.le_of_ble_eq_true rfl) (Nat.le_of_ble_eq_true rfl) (fun n10 M1 f0 fE fT fI fL => ?_)
  have ex := fE _ (by rw [hT]; decide)
  have hT1 := ex.1.trans hT
  have q0 := (congrFun ex.2.2.2.2 0).trans r0
  have q1 := (congrFun ex.2.2.2.2 1).trans r1
  have q2 := (congrFun ex.2.2.2.2 2).trans r2
  have q5 := (congrFun ex.2.2.2.2 5).trans r5
  have q6 := (congrFun ex.2.2.2.2 6).trans r6
  have q7 := (congrFun ex.2.2.2.2 7).trans r7
  have q8 := (congrFun ex.2.2.2.2 8).trans r8
  have q9 := (congrFun ex.2.2.2.2 9).trans r9
  have q10 := (congrFun ex.2.2.2.2 10).trans r10
  refine k_dup C rfl rfl rfl ?_
  refine i_callN C (i_Form fT (fI 0)) rfl rfl rfl rfl rfl (Nat.le_of_ble_eq_true rfl) (Nat.le_of_ble_eq_true rfl) (Nat.le_of_ble_eq_true rfl) ?_
  intro M2 g
  have gE := fE.e1 g.1 f0
  have ex2 := gE _ (by rw [hT]; decide)
  refine i_put C rfl rfl rfl (ex2.1.trans hT) ⟨rfl, rfl⟩ rfl (fun M3 s => ?_)
  have hX9 := s.1.st (ex2.1.trans hT)
  have gS : Stt 12 _ _ := gE.st
  have p0 := p0.st gS (by decide)
  have p0 := p0.st hX9 (by decide)
  have r0 := (s.2.2.2.2.1 0 (by decide)).trans ((congrFun ex2.2.2.2.2 0).trans r0)
  have p1 := p1.st gS (by decide)
  have p1 := p1.st hX9 (by decide)
  have r1 := (s.2.2.2.2.1 1 (by decide)).trans ((congrFun ex2.2.2.2.2 1).trans r1)
  have p2 := p2.st gS (by decide)
  have p2 := p2.st hX9 (by decide)
  have r2 := (s.2.2.2.2.1 2 (by decide)).trans ((congrFun ex2.2.2.2.2 2).trans r2)
  have p5 := p5.st gS (by decide)
  have p5 := p5.st hX9 (by decide)
  have r5 := (s.2.2.2.2.1 5 (by decide)).trans ((congrFun ex2.2.2.2.2 5).trans r5)
  have p6 := p6.st gS (by decide)
  have p6 := p6.st hX9 (by decide)
  have r6 := (s.2.2.2.2.1 6 (by decide)).trans ((congrFun ex2.2.2.2.2 6).trans r6)
  have p7 := p7.st gS (by decide)
  have p7 := p7.st hX9 (by decide)
  have r7 := (s.2.2.2.2.1 7 (by decide)).trans ((congrFun ex2.2.2.2.2 7).trans r7)
  have p8 := p8.st gS (by decide)
  have p8 := p8.st hX9 (by decide)
  have r8 := (s.2.2.2.2.1 8 (by decide)).trans ((congrFun ex2.2.2.2.2 8).trans r8)
  have p9 := p9.st gS (by decide)
  have p9 := p9.st hX9 (by decide)
  have r9 := (s.2.2.2.2.1 9 (by decide)).trans ((congrFun ex2.2.2.2.2 9).trans r9)
  have p10 := p10.st gS (by decide)
  have p10 := p10.st hX9 (by decide)
  have r10 := (s.2.2.2.2.1 10 (by decide)).trans ((congrFun ex2.2.2.2.2 10).trans r10)
  have i3 := ((congrFun s.2.2.1 3).trans (congrFun ex2.2.2.1 3)).trans i3
  have i4 := ((congrFun s.2.2.1 4).trans (congrFun ex2.2.2.1 4)).trans i4
  have r11 := s.2.2.2.2.2
  have p11 := g.2.st hX9 (by decide)
  have hX := hX.tr ((gE.to1 (x := x)).tr s.1)
  have hT := s.2.1.trans (ex2.1.trans hT)
  refine k_aload_n C rfl rfl rfl ?_
  refine i_new C (n := 2) rfl rfl rfl rfl rfl rfl (Nat.le_of_ble_eq_true rfl) (Nat.le_of_ble_eq_true rfl) (fun n11 M1 f0 fE fT fI fL => ?_)
  have ex := fE _ (by rw [hT]; decide)
  have hT1 := ex.1.trans hT
  have q0 := (congrFun ex.2.2.2.2 0).trans r0
  have q1 := (congrFun ex.2.2.2.2 1).trans r1
  have q2 := (congrFun ex.2.2.2.2 2).trans r2
  have q5 := (congrFun ex.2.2.2.2 5).trans r5
  have q6 := (congrFun ex.2.2.2.2 6).trans r6
  have q7 := (congrFun ex.2.2.2.2 7).trans r7
  have q8 := (congrFun ex.2.2.2.2 8).trans r8
  have q9 := (congrFun ex.2.2.2.2 9).trans r9
  have q10 := (congrFun ex.2.2.2.2 10).trans r10
  have q11 := (congrFun ex.2.2.2.2 11).trans r11
  refine k_dup C rfl rfl rfl ?_
  refine i_callN C (i_Form fT (fI 0)) rfl rfl rfl rfl rfl (Nat.le_of_ble_eq_true rfl) (Nat.le_of_ble_eq_true rfl) (Nat.le_of_ble_eq_true rfl) ?_
  intro M2 g
  have gE := fE.e1 g.1 f0
  have ex2 := gE _ (by rw [hT]; decide)
  refine i_put C rfl rfl rfl (ex2.1.trans hT) ⟨rfl, rfl⟩ rfl (fun M3 s => ?_)
  have hX9 := s.1.st (ex2.1.trans hT)
  have gS : Stt 12 _ _ := gE.st
  have p0 := p0.st gS (by decide)
  have p0 := p0.st hX9 (by decide)
  have r0 := (s.2.2.2.2.1 0 (by decide)).trans ((congrFun ex2.2.2.2.2 0).trans r0)
  have p1 := p1.st gS (by decide)
  have p1 := p1.st hX9 (by decide)
  have r1 := (s.2.2.2.2.1 1 (by decide)).trans ((congrFun ex2.2.2.2.2 1).trans r1)
  have p2 := p2.st gS (by decide)
  have p2 := p2.st hX9 (by decide)
  have r2 := (s.2.2.2.2.1 2 (by decide)).trans ((congrFun ex2.2.2.2.2 2).trans r2)
  have p5 := p5.st gS (by decide)
  have p5 := p5.st hX9 (by decide)
  have r5 := (s.2.2.2.2.1 5 (by decide)).trans ((congrFun ex2.2.2.2.2 5).trans r5)
  have p6 := p6.st gS (by decide)
  have p6 := p6.st hX9 (by decide)
  have r6 := (s.2.2.2.2.1 6 (by decide)).trans ((congrFun ex2.2.2.2.2 6).trans r6)
  have p7 := p7.st gS (by decide)
  have p7 := p7.st hX9 (by decide)
  have r7 := (s.2.2.2.2.1 7 (by decide)).trans ((congrFun ex2.2.2.2.2 7).trans r7)
  have p8 := p8.st gS (by decide)
  have p8 := p8.st hX9 (by decide)
  have r8 := (s.2.2.2.2.1 8 (by decide)).trans ((congrFun ex2.2.2.2.2 8).trans r8)
  have p9 := p9.st gS (by decide)
  have p9 := p9.st hX9 (by decide)
  have r9 := (s.2.2.2.2.1 9 (by decide)).trans ((congrFun ex2.2.2.2.2 9).trans r9)
  have p10 := p10.st gS (by decide)
  have p10 := p10.st hX9 (by decide)
  have r10 := (s.2.2.2.2.1 10 (by decide)).trans ((congrFun ex2.2.2.2.2 10).trans r10)
  have p11 := p11.st gS (by decide)
  have p11 := p11.st hX9 (by decide)
  have r11 := (s.2.2.2.2.1 11 (by decide)).trans ((congrFun ex2.2.2.2.2 11).trans r11)
  have i3 := ((congrFun s.2.2.1 3).trans (congrFun ex2.2.2.1 3)).trans i3
  have i4 := ((congrFun s.2.2.1 4).trans (congrFun ex2.2.2.1 4)).trans i4
  have r12 := s.2.2.2.2.2
  have p12 := g.2.st hX9 (by decide)
  have hX := hX.tr ((gE.to1 (x := x)).tr s.1)
  have hT := s.2.1.trans (ex2.1.trans hT)
  refine k_aload_n C rfl rfl rfl ?_
  refine i_new C (n := 2) rfl rfl rfl rfl rfl rfl (Nat.le_of_ble_eq_true rfl) (Nat.le_of_ble_eq_true rfl) (fun n12 M1 f0 fE fT fI fL => ?_)
  have ex := fE _ (by rw [hT]; decide)
  have hT1 := ex.1.trans hT
  have q0 := (congrFun ex.2.2.2.2 0).trans r0
  have q1 := (congrFun ex.2.2.2.2 1).trans r1
  have q2 := (congrFun ex.2.2.2.2 2).trans r2
  have q5 := (congrFun ex.2.2.2.2 5).trans r5
  have q6 := (congrFun ex.2.2.2.2 6).trans r6
  have q7 := (congrFun ex.2.2.2.2 7).trans r7
  have q8 := (congrFun ex.2.2.2.2 8).trans r8
  have q9 := (congrFun ex.2.2.2.2 9).trans r9
  have q10 := (congrFun ex.2.2.2.2 10).trans r10
  have q11 := (congrFun ex.2.2.2.2 11).trans r11
  have q12 := (congrFun ex.2.2.2.2 12).trans r12
  refine k_dup C rfl rfl rfl ?_
  refine i_callN C (i_Form fT (fI 0)) rfl rfl rfl rfl rfl (Nat.le_of_ble_eq_true rfl) (Nat.le_of_ble_eq_true rfl) (Nat.le_of_ble_eq_true rfl) ?_
  intro M2 g
  have gE := fE.e1 g.1 f0
  have ex2 := gE _ (by rw [hT]; decide)
  refine i_put C rfl rfl rfl (ex2.1.trans hT) ⟨rfl, rfl⟩ rfl (fun M3 s => ?_)
  have hX9 := s.1.st (ex2.1.trans hT)
  have gS : Stt 12 _ _ := gE.st
  have p0 := p0.st gS (by decide)
  have p0 := p0.st hX9 (by decide)
  have r0 := (s.2.2.2.2.1 0 (by decide)).trans ((congrFun ex2.2.2.2.2 0).trans r0)
  have p1 := p1.st gS (by decide)
  have p1 := p1.st hX9 (by decide)
  have r1 := (s.2.2.2.2.1 1 (by decide)).trans ((congrFun ex2.2.2.2.2 1).trans r1)
  have p2 := p2.st gS (by decide)
  have p2 := p2.st hX9 (by decide)
  have r2 := (s.2.2.2.2.1 2 (by decide)).trans ((congrFun ex2.2.2.2.2 2).trans r2)
  have p5 := p5.st gS (by decide)
  have p5 := p5.st hX9 (by decide)
  have r5 := (s.2.2.2.2.1 5 (by decide)).trans ((congrFun ex2.2.2.2.2 5).trans r5)
  have p6 := p6.st gS (by decide)
  have p6 := p6.st hX9 (by decide)
  have r6 := (s.2.2.2.2.1 6 (by decide)).trans ((congrFun ex2.2.2.2.2 6).trans r6)
  have p7 := p7.st gS (by decide)
  have p7 := p7.st hX9 (by decide)
  have r7 := (s.2.2.2.2.1 7 (by decide)).trans ((congrFun ex2.2.2.2.2 7).trans r7)
  have p8 := p8.st gS (by decide)
  have p8 := p8.st hX9 (by decide)
  have r8 := (s.2.2.2.2.1 8 (by decide)).trans ((congrFun ex2.2.2.2.2 8).trans r8)
  have p9 := p9.st gS (by decide)
  have p9 := p9.st hX9 (by decide)
  have r9 := (s.2.2.2.2.1 9 (by decide)).trans ((congrFun ex2.2.2.2.2 9).trans r9)
  have p10 := p10.st gS (by decide)
  have p10 := p10.st hX9 (by decide)
  have r10 := (s.2.2.2.2.1 10 (by decide)).trans ((congrFun ex2.2.2.2.2 10).trans r10)
  have p11 := p11.st gS (by decide)
  have p11 := p11.st hX9 (by decide)
  have r11 := (s.2.2.2.2.1 11 (by decide)).trans ((congrFun ex2.2.2.2.2 11).trans r11)
  have p12 := p12.st gS (by decide)
  have p12 := p12.st hX9 (by decide)
  have r12 := (s.2.2.2.2.1 12 (by decide)).trans ((congrFun ex2.2.2.2.2 12).trans r12)
  have i3 := ((congrFun s.2.2.1 3).trans (congrFun ex2.2.2.1 3)).trans i3
  have i4 := ((congrFun s.2.2.1 4).trans (congrFun ex2.2.2.1 4)).trans i4
  have r13 := s.2.2.2.2.2
  have p13 := g.2.st hX9 (by decide)
  have hX := hX.tr ((gE.to1 (x := x)).tr s.1)
  have hT := s.2.1.trans (ex2.1.trans hT)
  exact k_vret C rfl rfl (Nat.le_of_ble_eq_true rfl) (Nat.le_of_ble_eq_true rfl) ⟨rfl, hX, hT, i3, i4, n1, n2, n3, n4, n5, n6, n7, n8, n9, n10, n11, n12, r0, r1, r2, r5, r6, r7, r8, r9, r10, r11, r12, r13, p0, p1, p2, p5, p6, p7, p8, p9, p10, p11, p12, p13, hkn⟩
