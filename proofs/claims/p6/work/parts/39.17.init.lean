def gHeld (M : Mm) (r n k : Nat) : Prop := mT M r = 26 ∧ mN M r = n ∧ ∀ j, j < n → ∃ a, mR M r j = some a ∧ gArr M a 20 k
theorem gHeld.st {M M1 : Mm} {r n k u : Nat} (h : gHeld M r n k) (a : Stt u M M1) (hu : u ≠ 26 ∧ u ≠ 20) : gHeld M1 r n k := by
  obtain ⟨h1, h2, h3⟩ := h
  have e := a r (by omega) (by omega)
  refine ⟨e.1.trans h1, e.2.1.trans h2, fun j hj => ?_⟩
  obtain ⟨f, f1, f2⟩ := h3 j hj
  exact ⟨f, by rw [e.2.2.2.2]; exact f1, f2.st a (by decide) (by omega)⟩
def gRd (M : Mm) (x : Nat) : Prop := mT M x = 5 ∧ mI M x 1 = 0 ∧ (∃ b, mR M x 0 = some b ∧ gSg M b) ∧ (∃ b, mR M x 2 = some b ∧ gArr M b 20 400)
theorem gRd.st {M M1 : Mm} {x u : Nat} (h : gRd M x) (a : Stt u M M1) (hu : u ≠ 5 ∧ u ≠ 8 ∧ u ≠ 20) : gRd M1 x := by
  obtain ⟨h1, i1, ⟨b0, r0, p0⟩, ⟨b2, r2, p2⟩⟩ := h
  have e := a x (by rw [h1]; decide) (by rw [h1]; omega)
  exact ⟨e.1.trans h1, (congrFun e.2.2.1 1).trans i1, ⟨b0, (congrFun e.2.2.2.2 0).trans r0, p0.st a (by omega)⟩, ⟨b2, (congrFun e.2.2.2.2 2).trans r2, p2.st a (by decide) (by omega)⟩⟩
def gAl (M : Mm) (x : Nat) (st : Nat) : Prop := mT M x = 1 ∧ (∃ b, mR M x 1 = some b ∧ gF M b) ∧ (∃ b, mR M x 2 = some b ∧ gF M b) ∧ mR M x 0 = some st
theorem gAl.st {M M1 : Mm} {x st u : Nat} (h : gAl M x st) (a : Stt u M M1) (hu : u ≠ 1 ∧ u ≠ 3 ∧ u ≠ 20) : gAl M1 x st := by
  obtain ⟨h1, ⟨b1, r1, p1⟩, ⟨b2, r2, p2⟩, r0⟩ := h
  have e := a x (by rw [h1]; decide) (by rw [h1]; omega)
  exact ⟨e.1.trans h1, ⟨b1, (congrFun e.2.2.2.2 1).trans r1, p1.st a (by omega)⟩, ⟨b2, (congrFun e.2.2.2.2 2).trans r2, p2.st a (by omega)⟩, (congrFun e.2.2.2.2 0).trans r0⟩
def gCc (M : Mm) (x : Nat) (al : Nat) : Prop := mT M x = 2 ∧ (∃ b, mR M x 1 = some b ∧ gRow M b 20) ∧ (∃ b, mR M x 2 = some b ∧ gArr M b 20 20) ∧ (∃ b, mR M x 3 = some b ∧ gF M b) ∧ (∃ b, mR M x 4 = some b ∧ gF M b) ∧ mR M x 0 = some al
theorem gCc.st {M M1 : Mm} {x al u : Nat} (h : gCc M x al) (a : Stt u M M1) (hu : u ≠ 2 ∧ u ≠ 3 ∧ u ≠ 20 ∧ u ≠ 23) : gCc M1 x al := by
  obtain ⟨h1, ⟨b1, r1, p1⟩, ⟨b2, r2, p2⟩, ⟨b3, r3, p3⟩, ⟨b4, r4, p4⟩, r0⟩ := h
  have e := a x (by rw [h1]; decide) (by rw [h1]; omega)
  exact ⟨e.1.trans h1, ⟨b1, (congrFun e.2.2.2.2 1).trans r1, p1.st a (by omega)⟩, ⟨b2, (congrFun e.2.2.2.2 2).trans r2, p2.st a (by decide) (by omega)⟩, ⟨b3, (congrFun e.2.2.2.2 3).trans r3, p3.st a (by omega)⟩, ⟨b4, (congrFun e.2.2.2.2 4).trans r4, p4.st a (by omega)⟩, (congrFun e.2.2.2.2 0).trans r0⟩
def gRw (M : Mm) (x : Nat) (al : Nat) (cc : Nat) : Prop := mT M x = 6 ∧ (∃ b, mR M x 2 = some b ∧ gRow M b 12) ∧ (∃ b, mR M x 3 = some b ∧ gHeld M b 8 492) ∧ (∃ b, mR M x 4 = some b ∧ gArr M b 20 8) ∧ (∃ b, mR M x 5 = some b ∧ gArr M b 21 637) ∧ mR M x 0 = some al ∧ mR M x 1 = some cc
theorem gRw.st {M M1 : Mm} {x al cc u : Nat} (h : gRw M x al cc) (a : Stt u M M1) (hu : u ≠ 3 ∧ u ≠ 6 ∧ u ≠ 20 ∧ u ≠ 21 ∧ u ≠ 23 ∧ u ≠ 26) : gRw M1 x al cc := by
  obtain ⟨h1, ⟨b2, r2, p2⟩, ⟨b3, r3, p3⟩, ⟨b4, r4, p4⟩, ⟨b5, r5, p5⟩, r0, r1⟩ := h
  have e := a x (by rw [h1]; decide) (by rw [h1]; omega)
  exact ⟨e.1.trans h1, ⟨b2, (congrFun e.2.2.2.2 2).trans r2, p2.st a (by omega)⟩, ⟨b3, (congrFun e.2.2.2.2 3).trans r3, p3.st a (by omega)⟩, ⟨b4, (congrFun e.2.2.2.2 4).trans r4, p4.st a (by decide) (by omega)⟩, ⟨b5, (congrFun e.2.2.2.2 5).trans r5, p5.st a (by decide) (by omega)⟩, (congrFun e.2.2.2.2 0).trans r0, (congrFun e.2.2.2.2 1).trans r1⟩
def gSe (M : Mm) (x : Nat) (al : Nat) : Prop := mT M x = 7 ∧ (∃ b, mR M x 3 = some b ∧ gArr M b 20 400) ∧ (∃ b, mR M x 4 = some b ∧ gArr M b 20 9) ∧ (∃ b, mR M x 5 = some b ∧ gArr M b 20 400) ∧ (∃ b, mR M x 6 = some b ∧ gArr M b 20 400) ∧ mR M x 2 = some al
theorem gSe.st {M M1 : Mm} {x al u : Nat} (h : gSe M x al) (a : Stt u M M1) (hu : u ≠ 7 ∧ u ≠ 20) : gSe M1 x al := by
  obtain ⟨h1, ⟨b3, r3, p3⟩, ⟨b4, r4, p4⟩, ⟨b5, r5, p5⟩, ⟨b6, r6, p6⟩, r2⟩ := h
  have e := a x (by rw [h1]; decide) (by rw [h1]; omega)
  exact ⟨e.1.trans h1, ⟨b3, (congrFun e.2.2.2.2 3).trans r3, p3.st a (by decide) (by omega)⟩, ⟨b4, (congrFun e.2.2.2.2 4).trans r4, p4.st a (by decide) (by omega)⟩, ⟨b5, (congrFun e.2.2.2.2 5).trans r5, p5.st a (by decide) (by omega)⟩, ⟨b6, (congrFun e.2.2.2.2 6).trans r6, p6.st a (by decide) (by omega)⟩, (congrFun e.2.2.2.2 2).trans r2⟩
def gPo (M : Mm) (x : Nat) (al : Nat) : Prop := mT M x = 4 ∧ (∃ b, mR M x 2 = some b ∧ gArr M b 20 3) ∧ (∃ b, mR M x 3 = some b ∧ gArr M b 20 3) ∧ (∃ b, mR M x 4 = some b ∧ gArr M b 20 9) ∧ (∃ b, mR M x 5 = some b ∧ gArr M b 20 9) ∧ mR M x 1 = some al
theorem gPo.st {M M1 : Mm} {x al u : Nat} (h : gPo M x al) (a : Stt u M M1) (hu : u ≠ 4 ∧ u ≠ 20) : gPo M1 x al := by
  obtain ⟨h1, ⟨b2, r2, p2⟩, ⟨b3, r3, p3⟩, ⟨b4, r4, p4⟩, ⟨b5, r5, p5⟩, r1⟩ := h
  have e := a x (by rw [h1]; decide) (by rw [h1]; omega)
  exact ⟨e.1.trans h1, ⟨b2, (congrFun e.2.2.2.2 2).trans r2, p2.st a (by decide) (by omega)⟩, ⟨b3, (congrFun e.2.2.2.2 3).trans r3, p3.st a (by decide) (by omega)⟩, ⟨b4, (congrFun e.2.2.2.2 4).trans r4, p4.st a (by decide) (by omega)⟩, ⟨b5, (congrFun e.2.2.2.2 5).trans r5, p5.st a (by decide) (by omega)⟩, (congrFun e.2.2.2.2 1).trans r1⟩
def gWh (M : Mm) (x : Nat) : Prop := mT M x = 11 ∧ ∀ j, mL M x j = 0
theorem gWh.st {M M1 : Mm} {x u : Nat} (h : gWh M x) (a : Stt u M M1) (hu : u ≠ 11) : gWh M1 x := by
  obtain ⟨h1, h2⟩ := h
  have e := a x (by rw [h1]; decide) (by rw [h1]; omega)
  exact ⟨e.1.trans h1, fun j => (congrFun e.2.2.2.1 j).trans (h2 j)⟩
def gSt (M : Mm) (x : Nat) : Prop := mT M x = 9 ∧ mI M x 0 = 11 ∧ mI M x 1 = 0 ∧ mI M x 2 = 0 ∧ mI M x 3 = 0 ∧ mI M x 4 = 0 ∧ mI M x 5 = 0 ∧ (∃ b, mR M x 6 = some b ∧ gArr M b 20 40) ∧ (∃ b, mR M x 7 = some b ∧ gRow M b 40) ∧ (∃ b, mR M x 8 = some b ∧ gRow M b 16) ∧ (∃ b, mR M x 9 = some b ∧ gTabs M b 8) ∧ (∃ b, mR M x 10 = some b ∧ gSgs M b 8)
theorem gSt.st {M M1 : Mm} {x u : Nat} (h : gSt M x) (a : Stt u M M1) (hu : u ≠ 3 ∧ u ≠ 8 ∧ u ≠ 9 ∧ u ≠ 10 ∧ u ≠ 20 ∧ u ≠ 23 ∧ u ≠ 24 ∧ u ≠ 25) : gSt M1 x := by
  obtain ⟨h1, i0, i1, i2, i3, i4, i5, ⟨b6, r6, p6⟩, ⟨b7, r7, p7⟩, ⟨b8, r8, p8⟩, ⟨b9, r9, p9⟩, ⟨b10, r10, p10⟩⟩ := h
  have e := a x (by rw [h1]; decide) (by rw [h1]; omega)
  exact ⟨e.1.trans h1, (congrFun e.2.2.1 0).trans i0, (congrFun e.2.2.1 1).trans i1, (congrFun e.2.2.1 2).trans i2, (congrFun e.2.2.1 3).trans i3, (congrFun e.2.2.1 4).trans i4, (congrFun e.2.2.1 5).trans i5, ⟨b6, (congrFun e.2.2.2.2 6).trans r6, p6.st a (by decide) (by omega)⟩, ⟨b7, (congrFun e.2.2.2.2 7).trans r7, p7.st a (by omega)⟩, ⟨b8, (congrFun e.2.2.2.2 8).trans r8, p8.st a (by omega)⟩, ⟨b9, (congrFun e.2.2.2.2 9).trans r9, p9.st a (by omega)⟩, ⟨b10, (congrFun e.2.2.2.2 10).trans r10, p10.st a (by omega)⟩⟩
theorem Ex1.fresh {x b : Nat} {M M1 : Mm} (h : Ex1 x M M1) (hT : mT M1 x ≠ 0) (hb : mT M1 b = 0) : mT M b = 0 := Classical.byContradiction fun hne => hne ((h b hne (fun e => hT (e ▸ hb))).1.symm.trans hb)
section Mk2
variable {d : Nat} {q : mm_T} {mc ms : Nat} {Post : Po} {V : V_T} {pc pc2 : Nat} {lv : List (Nat × Value)} {r : List Value} {M : Mm} {ck sk : Nat}
def Nh (M M1 : Mm) (x k b n w : Nat) : Prop := Ex1 x M M1 ∧ mT M1 x = mT M x ∧ mI M1 x = mI M x ∧ mL M1 x = mL M x ∧ (∀ j, j ≠ k → mR M1 x j = mR M x j) ∧ mR M1 x k = some b ∧ gHeld M1 b n w
theorem i_mna (C : Cl d q mc ms Post V) {z y : Int32} {n w x ci k j ck2 sk2 : Nat} (hi : cdf q.2.2.2.2.2.2 pc = some (.multianewarray 21 2, 4)) (hi2 : cdf q.2.2.2.2.2.2 (pc + 4) = some (.putfield j, 3)) (hp : pc + 7 = pc2) (ho : q.2.2.2.2.1 = 5) (h0 : ¬ z < 0) (h1 : ¬ y < 0) (hz : z.toNatClampNeg = n) (hy : y.toNatClampNeg = w) (h2 : n ≤ 1000) (h3 : w ≤ 1000) (e1 : ck + (1 + n) = ck2) (e2 : sk + (n + n * w) = sk2) (h4 : ck2 ≤ mc) (h5 : sk2 ≤ ms)
    (hf : P_fl q.2.2.2.2.1 j = some (ci, k)) (hx : mT M x = ci + 1) (hnm : q.1.name = "<init>" ∧ q.2.2.2.2.1 = ci) (hk : kt (P_ty ci k) = 2)
    (h : ∀ b M1, Nh M M1 x k b n w → V pc2 lv r M1 ck2 sk2) : V pc lv (.int y :: .int z :: .ref x :: r) M ck sk := by
  refine k_mna C hi rfl ho h0 h1 hz hy h2 h3 e1 e2 h4 h5 (fun b hb => ?_)
  have old : ∀ a, mT M a ≠ 0 → Ag M (sMN M b n w) a := by
    intro a ha
    have hab : a < b := Nat.lt_of_not_le (fun h => ha (hb a h))
    have q1 : a ≠ b := by omega
    have q2 : ¬ (b < a ∧ a ≤ b + n) := by omega
    have q3 : ¬ (b ≤ a ∧ a ≤ b + n) := by omega
    refine ⟨?_, ?_, ?_, ?_, ?_⟩ <;> simp [sMN, mT, mN, mI, mL, mR, q1, q2, q3]
  have hxb := old x (by rw [hx]; omega)
  refine k_putR C hi2 hp hf (hxb.1.trans hx) (Or.inl hnm) hk ?_
  refine h b _ ⟨fun a ha hax => (old a ha).tr (ag_sR hax), hxb.1, hxb.2.2.1, hxb.2.2.2.1, fun j hj => (u2_k hj).trans (congrFun hxb.2.2.2.2 j), u2_s, ?_⟩
  have hbx : b ≠ x := fun e => by
    have := hb x (by omega); omega
  have eR : ∀ a, a ≠ x → Ag (sMN M b n w) (sR (sMN M b n w) x k (some b)) a := fun a ha => ag_sR ha
  refine ⟨by rw [(eR b hbx).1]; simp [sMN, mT], by rw [(eR b hbx).2.1]; simp [sMN, mN], fun j hj => ⟨b + 1 + j, ?_, ?_⟩⟩
  · rw [(eR b hbx).2.2.2.2]; simp [sMN, mR, hj]
  · have hne : b + 1 + j ≠ x := fun e => by
      have := hb x (by omega); omega
    refine gArr.go ?_ (eR _ hne)
    constructor
    · show (if b + 1 + j = b then 26 else if b < b + 1 + j ∧ b + 1 + j ≤ b + n then 20 else mT M (b + 1 + j)) = 20
      rw [if_neg (by omega), if_pos (by omega)]
    · show (if b + 1 + j = b then n else if b < b + 1 + j ∧ b + 1 + j ≤ b + n then w else mN M (b + 1 + j)) = w
      rw [if_neg (by omega), if_pos (by omega)]
theorem i_callN (C : Cl d q mc ms Post V) {j k b : Nat} {mc' ms' ck2 sk2 : Nat} {Q : Mm → Prop} (hE : Ex d k [.ref b] M mc' ms' (pC Q)) (hi : cdf q.2.2.2.2.2.2 pc = some (.invokespecial j, 3)) (hp : pc + 3 = pc2) (hm : P_ni q.2.2.2.2.1 j = some k) (h1 : ck + mc' = ck2) (h2 : sk + ms' = sk2) (h3 : ck2 ≤ mc) (h4 : sk2 ≤ ms) (hc : (r.map fun v => v.category).sum ≤ 8) (h : ∀ M1, Q M1 → V pc2 lv r M1 ck2 sk2) : V pc lv (.ref b :: r) M ck sk := k_callN C hi hp hm hE h1 h2 h3 h4 hc (fun v M1 h9 => by obtain ⟨e1, e2⟩ := h9; cases e1; exact h M1 e2) (fun e M1 h9 => by cases h9.1)
theorem i_rowP (C : Cl (d + 1) q mc ms Post V) {x ci k j i9 n ck2 sk2 : Nat} {z : Int32} (hz : z = Int32.ofNat n) (hn : n ≤ 100) (hi : cdf q.2.2.2.2.2.2 pc = some (.invokestatic i9, 3)) (hm : P_mt q.2.2.2.2.1 i9 = some (1, 33, 1)) (hi2 : cdf q.2.2.2.2.2.2 (pc + 3) = some (.putfield j, 3)) (hp : pc + 6 = pc2) (e1 : ck + (1 + 2 * n) = ck2) (e2 : sk + 44 * n = sk2) (h4 : ck2 ≤ mc) (h5 : sk2 ≤ ms) (hd : 1 ≤ d)
    (hf : P_fl q.2.2.2.2.1 j = some (ci, k)) (hx : mT M x = ci + 1) (hnm : q.1.name = "<init>" ∧ q.2.2.2.2.1 = ci) (hk : kt (P_ty ci k) = 2) (hc : (([.ref x] ++ r : List Value).map fun v => v.category).sum ≤ 8)
    (h : ∀ b M1, (Ex1 x M M1 ∧ mT M1 x = mT M x ∧ mI M1 x = mI M x ∧ mL M1 x = mL M x ∧ (∀ j, j ≠ k → mR M1 x j = mR M x j) ∧ mR M1 x k = some b ∧ (ci + 1 ≠ 3 → ci + 1 ≠ 20 → ci + 1 ≠ 23 → gRow M1 b n)) → V pc2 lv r M1 ck2 sk2) : V pc lv (.int z :: .ref x :: r) M ck sk := by
  subst hz
  obtain ⟨d9, rfl⟩ : ∃ d9, d = d9 + 1 := ⟨d - 1, by omega⟩
  refine k_callS C hi rfl hm (as := [.int (Int32.ofNat n)]) (r := .ref x :: r) rfl rfl (i_row hn) e1 e2 h4 h5 hc (fun v M1 h9 => ?_) (fun e M1 h9 => ?_)
  · obtain ⟨b, e3, hE, hrow, hb⟩ := h9
    cases e3
    have ex := hE x (by rw [hx]; omega)
    refine k_putR C hi2 hp hf (ex.1.trans hx) (Or.inl hnm) hk ?_
    refine h b _ ⟨fun a ha hax => (hE a ha).tr (ag_sR hax), ex.1, ex.2.2.1, ex.2.2.2.1, fun j hj => (u2_k hj).trans (congrFun ex.2.2.2.2 j), u2_s, fun t1 t2 t3 => ?_⟩
    exact hrow.go (fun a ha => ag_sR (fun e => by rw [e, ex.1, hx] at ha; omega))
  · obtain ⟨b, e3, -⟩ := h9
    cases e3
end Mk2
theorem i_X7 {d : Nat} {M : Mm} {x : Nat} (hT : mT M x = 8) (h0 : ∀ j, mI M x j = 0) : Ex (d + 1) 57 [.ref x] M 2 320 (pC fun M1 => Ex1 x M M1 ∧ gSg M1 x) := by
  refine ⟨_, rfl, Nat.le_of_ble_eq_true rfl, fun V C S => ?_⟩
  show V 0 [(0, .ref x)] [] M 0 0
  have hX : Ex1 x M M := Ex1.rf
  have i2 : mI M x 2 = 0 := h0 2
  refine k_aload_n C rfl rfl rfl ?_
  refine i_obj C rfl rfl rfl (Nat.le_of_ble_eq_true rfl) ?_
  refine k_aload_n C rfl rfl rfl ?_
  refine k_sipush C (x := 160) rfl rfl rfl ?_
  refine i_arr C (tt := 0) (n := 160) rfl rfl rfl (Or.inl ⟨rfl, rfl⟩) (by decide) (by decide) (Nat.le_of_ble_eq_true rfl) rfl rfl (Nat.le_of_ble_eq_true rfl) (Nat.le_of_ble_eq_true rfl) rfl hT ⟨rfl, rfl⟩ rfl (fun b0 M1 s => ?_)
  have hx9 := s.1.st hT
  have hX := hX.tr s.1
  have i2 := (congrFun s.2.2.1 2).trans i2
  have r0 := s.2.2.2.2.2.1
  have p0 := s.2.2.2.2.2.2.1
  have hT := s.2.1.trans hT
  refine k_aload_n C rfl rfl rfl ?_
  refine k_sipush C (x := 160) rfl rfl rfl ?_
  refine i_arr C (tt := 0) (n := 160) rfl rfl rfl (Or.inl ⟨rfl, rfl⟩) (by decide) (by decide) (Nat.le_of_ble_eq_true rfl) rfl rfl (Nat.le_of_ble_eq_true rfl) (Nat.le_of_ble_eq_true rfl) rfl hT ⟨rfl, rfl⟩ rfl (fun b1 M1 s => ?_)
  have hx9 := s.1.st hT
  have p0 := p0.st hx9 (by decide) (by decide)
  have hX := hX.tr s.1
  have r0 := (s.2.2.2.2.1 0 (by decide)).trans r0
  have i2 := (congrFun s.2.2.1 2).trans i2
  have r1 := s.2.2.2.2.2.1
  have p1 := s.2.2.2.2.2.2.1
  have hT := s.2.1.trans hT
  exact k_vret C rfl rfl (Nat.le_of_ble_eq_true rfl) (Nat.le_of_ble_eq_true rfl) ⟨rfl, hX, ⟨hT, i2, ⟨_, r0, p0⟩, ⟨_, r1, p1⟩⟩⟩
theorem i_X4 {d : Nat} {M : Mm} {x : Nat} (hT : mT M x = 5) (h0 : ∀ j, mI M x j = 0) : Ex (d + 2) 58 [.ref x] M 4 723 (pC fun M1 => Ex1 x M M1 ∧ gRd M1 x) := by
  refine ⟨_, rfl, Nat.le_of_ble_eq_true rfl, fun V C S => ?_⟩
  show V 0 [(0, .ref x)] [] M 0 0
  have hX : Ex1 x M M := Ex1.rf
  have i1 : mI M x 1 = 0 := h0 1
  refine k_aload_n C rfl rfl rfl ?_
  refine i_obj C rfl rfl rfl (Nat.le_of_ble_eq_true rfl) ?_
  refine k_aload_n C rfl rfl rfl ?_
  refine i_new C (n := 3) rfl rfl rfl rfl rfl rfl (Nat.le_of_ble_eq_true rfl) (Nat.le_of_ble_eq_true rfl) (fun n1 M1 f0 fE fT fI fL => ?_)
  have ex := fE _ (by rw [hT]; decide)
  have hT1 := ex.1.trans hT
  refine k_dup C rfl rfl rfl ?_
  refine i_callN C (i_X7 fT fI) rfl rfl rfl rfl rfl (Nat.le_of_ble_eq_true rfl) (Nat.le_of_ble_eq_true rfl) (Nat.le_of_ble_eq_true rfl) ?_
  intro M2 g
  have gE := fE.e1 g.1 f0
  have ex2 := gE _ (by rw [hT]; decide)
  refine i_put C rfl rfl rfl (ex2.1.trans hT) ⟨rfl, rfl⟩ rfl (fun M3 s => ?_)
  have hX9 := s.1.st (ex2.1.trans hT)
  have gS : Stt 5 _ _ := gE.st
  have i1 := ((congrFun s.2.2.1 1).trans (congrFun ex2.2.2.1 1)).trans i1
  have r0 := s.2.2.2.2.2
  have p0 := g.2.st hX9 (by decide)
  have hX := hX.tr ((gE.to1 (x := x)).tr s.1)
  have hT := s.2.1.trans (ex2.1.trans hT)
  refine k_aload_n C rfl rfl rfl ?_
  refine k_sipush C (x := 400) rfl rfl rfl ?_
  refine i_arr C (tt := 0) (n := 400) rfl rfl rfl (Or.inl ⟨rfl, rfl⟩) (by decide) (by decide) (Nat.le_of_ble_eq_true rfl) rfl rfl (Nat.le_of_ble_eq_true rfl) (Nat.le_of_ble_eq_true rfl) rfl hT ⟨rfl, rfl⟩ rfl (fun b2 M1 s => ?_)
  have hx9 := s.1.st hT
  have p0 := p0.st hx9 (by decide)
  have hX := hX.tr s.1
  have r0 := (s.2.2.2.2.1 0 (by decide)).trans r0
  have i1 := (congrFun s.2.2.1 1).trans i1
  have r2 := s.2.2.2.2.2.1
  have p2 := s.2.2.2.2.2.2.1
  have hT := s.2.1.trans hT
  exact k_vret C rfl rfl (Nat.le_of_ble_eq_true rfl) (Nat.le_of_ble_eq_true rfl) ⟨rfl, hX, ⟨hT, i1, ⟨_, r0, p0⟩, ⟨_, r2, p2⟩⟩⟩
theorem i_X0 {d : Nat} {M : Mm} {x st : Nat} (hT : mT M x = 1) (h0 : ∀ j, mI M x j = 0) : Ex (d + 2) 1 [.ref x, .ref st] M 4 86 (pC fun M1 => Ex1 x M M1 ∧ gAl M1 x st) := by
  refine ⟨_, rfl, Nat.le_of_ble_eq_true rfl, fun V C S => ?_⟩
  show V 0 [(0, .ref x), (1, .ref st)] [] M 0 0
  have hX : Ex1 x M M := Ex1.rf
  refine k_aload_n C rfl rfl rfl ?_
  refine i_obj C rfl rfl rfl (Nat.le_of_ble_eq_true rfl) ?_
  refine k_aload_n C rfl rfl rfl ?_
  refine i_new C (n := 2) rfl rfl rfl rfl rfl rfl (Nat.le_of_ble_eq_true rfl) (Nat.le_of_ble_eq_true rfl) (fun n1 M1 f0 fE fT fI fL => ?_)
  have ex := fE _ (by rw [hT]; decide)
  have hT1 := ex.1.trans hT
  refine k_dup C rfl rfl rfl ?_
  refine i_callN C (i_Form fT (fI 0)) rfl rfl rfl rfl rfl (Nat.le_of_ble_eq_true rfl) (Nat.le_of_ble_eq_true rfl) (Nat.le_of_ble_eq_true rfl) ?_
  intro M2 g
  have gE := fE.e1 g.1 f0
  have ex2 := gE _ (by rw [hT]; decide)
  refine i_put C rfl rfl rfl (ex2.1.trans hT) ⟨rfl, rfl⟩ rfl (fun M3 s => ?_)
  have hX9 := s.1.st (ex2.1.trans hT)
  have gS : Stt 1 _ _ := gE.st
  have r1 := s.2.2.2.2.2
  have p1 := g.2.st hX9 (by decide)
  have hX := hX.tr ((gE.to1 (x := x)).tr s.1)
  have hT := s.2.1.trans (ex2.1.trans hT)
  refine k_aload_n C rfl rfl rfl ?_
  refine i_new C (n := 2) rfl rfl rfl rfl rfl rfl (Nat.le_of_ble_eq_true rfl) (Nat.le_of_ble_eq_true rfl) (fun n2 M1 f0 fE fT fI fL => ?_)
  have ex := fE _ (by rw [hT]; decide)
  have hT1 := ex.1.trans hT
  have q1 := (congrFun ex.2.2.2.2 1).trans r1
  refine k_dup C rfl rfl rfl ?_
  refine i_callN C (i_Form fT (fI 0)) rfl rfl rfl rfl rfl (Nat.le_of_ble_eq_true rfl) (Nat.le_of_ble_eq_true rfl) (Nat.le_of_ble_eq_true rfl) ?_
  intro M2 g
  have gE := fE.e1 g.1 f0
  have ex2 := gE _ (by rw [hT]; decide)
  refine i_put C rfl rfl rfl (ex2.1.trans hT) ⟨rfl, rfl⟩ rfl (fun M3 s => ?_)
  have hX9 := s.1.st (ex2.1.trans hT)
  have gS : Stt 1 _ _ := gE.st
  have p1 := p1.st gS (by decide)
  have p1 := p1.st hX9 (by decide)
  have r1 := (s.2.2.2.2.1 1 (by decide)).trans ((congrFun ex2.2.2.2.2 1).trans r1)
  have r2 := s.2.2.2.2.2
  have p2 := g.2.st hX9 (by decide)
  have hX := hX.tr ((gE.to1 (x := x)).tr s.1)
  have hT := s.2.1.trans (ex2.1.trans hT)
  refine k_aload_n C rfl rfl rfl ?_
  refine k_aload_n C rfl rfl rfl ?_
  refine i_put C rfl rfl rfl hT ⟨rfl, rfl⟩ rfl (fun M1 s => ?_)
  have hx9 := s.1.st hT
  have p1 := p1.st hx9 (by decide)
  have p2 := p2.st hx9 (by decide)
  have hX := hX.tr s.1
  have r1 := (s.2.2.2.2.1 1 (by decide)).trans r1
  have r2 := (s.2.2.2.2.1 2 (by decide)).trans r2
  have r0 := s.2.2.2.2.2
  have hT := s.2.1.trans hT
  exact k_vret C rfl rfl (Nat.le_of_ble_eq_true rfl) (Nat.le_of_ble_eq_true rfl) ⟨rfl, hX, ⟨hT, ⟨_, r1, p1⟩, ⟨_, r2, p2⟩, r0⟩⟩
theorem i_X1 {d : Nat} {M : Mm} {x al : Nat} (hT : mT M x = 2) (h0 : ∀ j, mI M x j = 0) : Ex (d + 3) 34 [.ref x, .ref al] M 46 986 (pC fun M1 => Ex1 x M M1 ∧ gCc M1 x al) := by
  refine ⟨_, rfl, Nat.le_of_ble_eq_true rfl, fun V C S => ?_⟩
  show V 0 [(0, .ref x), (1, .ref al)] [] M 0 0
  have hX : Ex1 x M M := Ex1.rf
  refine k_aload_n C rfl rfl rfl ?_
  refine i_obj C rfl rfl rfl (Nat.le_of_ble_eq_true rfl) ?_
  refine k_aload_n C rfl rfl rfl ?_
  refine k_bipush C (x := 20) rfl rfl rfl ?_
  refine i_rowP C (n := 20) rfl (Nat.le_of_ble_eq_true rfl) rfl rfl rfl rfl rfl rfl (Nat.le_of_ble_eq_true rfl) (Nat.le_of_ble_eq_true rfl) (by omega) rfl hT ⟨rfl, rfl⟩ rfl (Nat.le_of_ble_eq_true rfl) (fun b1 M1 s => ?_)
  have hx9 := s.1.st hT
  have hX := hX.tr s.1
  have r1 := s.2.2.2.2.2.1
  have p1 := s.2.2.2.2.2.2 (by decide) (by decide) (by decide)
  have hT := s.2.1.trans hT
  refine k_aload_n C rfl rfl rfl ?_
  refine k_bipush C (x := 20) rfl rfl rfl ?_
  refine i_arr C (tt := 0) (n := 20) rfl rfl rfl (Or.inl ⟨rfl, rfl⟩) (by decide) (by decide) (Nat.le_of_ble_eq_true rfl) rfl rfl (Nat.le_of_ble_eq_true rfl) (Nat.le_of_ble_eq_true rfl) rfl hT ⟨rfl, rfl⟩ rfl (fun b2 M1 s => ?_)
  have hx9 := s.1.st hT
  have p1 := p1.st hx9 (by decide)
  have hX := hX.tr s.1
  have r1 := (s.2.2.2.2.1 1 (by decide)).trans r1
  have r2 := s.2.2.2.2.2.1
  have p2 := s.2.2.2.2.2.2.1
  have hT := s.2.1.trans hT
  refine k_aload_n C rfl rfl rfl ?_
  refine i_new C (n := 2) rfl rfl rfl rfl rfl rfl (Nat.le_of_ble_eq_true rfl) (Nat.le_of_ble_eq_true rfl) (fun n1 M1 f0 fE fT fI fL => ?_)
  have ex := fE _ (by rw [hT]; decide)
  have hT1 := ex.1.trans hT
  have q1 := (congrFun ex.2.2.2.2 1).trans r1
  have q2 := (congrFun ex.2.2.2.2 2).trans r2
  refine k_dup C rfl rfl rfl ?_
  refine i_callN C (i_Form fT (fI 0)) rfl rfl rfl rfl rfl (Nat.le_of_ble_eq_true rfl) (Nat.le_of_ble_eq_true rfl) (Nat.le_of_ble_eq_true rfl) ?_
  intro M2 g
  have gE := fE.e1 g.1 f0
  have ex2 := gE _ (by rw [hT]; decide)
  refine i_put C rfl rfl rfl (ex2.1.trans hT) ⟨rfl, rfl⟩ rfl (fun M3 s => ?_)
  have hX9 := s.1.st (ex2.1.trans hT)
  have gS : Stt 2 _ _ := gE.st
  have p1 := p1.st gS (by decide)
  have p1 := p1.st hX9 (by decide)
  have r1 := (s.2.2.2.2.1 1 (by decide)).trans ((congrFun ex2.2.2.2.2 1).trans r1)
  have p2 := p2.st gS (by decide) (by decide)
  have p2 := p2.st hX9 (by decide) (by decide)
  have r2 := (s.2.2.2.2.1 2 (by decide)).trans ((congrFun ex2.2.2.2.2 2).trans r2)
  have r3 := s.2.2.2.2.2
  have p3 := g.2.st hX9 (by decide)
  have hX := hX.tr ((gE.to1 (x := x)).tr s.1)
  have hT := s.2.1.trans (ex2.1.trans hT)
  refine k_aload_n C rfl rfl rfl ?_
  refine i_new C (n := 2) rfl rfl rfl rfl rfl rfl (Nat.le_of_ble_eq_true rfl) (Nat.le_of_ble_eq_true rfl) (fun n2 M1 f0 fE fT fI fL => ?_)
  have ex := fE _ (by rw [hT]; decide)
  have hT1 := ex.1.trans hT
  have q1 := (congrFun ex.2.2.2.2 1).trans r1
  have q2 := (congrFun ex.2.2.2.2 2).trans r2
  have q3 := (congrFun ex.2.2.2.2 3).trans r3
  refine k_dup C rfl rfl rfl ?_
  refine i_callN C (i_Form fT (fI 0)) rfl rfl rfl rfl rfl (Nat.le_of_ble_eq_true rfl) (Nat.le_of_ble_eq_true rfl) (Nat.le_of_ble_eq_true rfl) ?_
  intro M2 g
  have gE := fE.e1 g.1 f0
  have ex2 := gE _ (by rw [hT]; decide)
  refine i_put C rfl rfl rfl (ex2.1.trans hT) ⟨rfl, rfl⟩ rfl (fun M3 s => ?_)
  have hX9 := s.1.st (ex2.1.trans hT)
  have gS : Stt 2 _ _ := gE.st
  have p1 := p1.st gS (by decide)
  have p1 := p1.st hX9 (by decide)
  have r1 := (s.2.2.2.2.1 1 (by decide)).trans ((congrFun ex2.2.2.2.2 1).trans r1)
  have p2 := p2.st gS (by decide) (by decide)
  have p2 := p2.st hX9 (by decide) (by decide)
  have r2 := (s.2.2.2.2.1 2 (by decide)).trans ((congrFun ex2.2.2.2.2 2).trans r2)
  have p3 := p3.st gS (by decide)
  have p3 := p3.st hX9 (by decide)
  have r3 := (s.2.2.2.2.1 3 (by decide)).trans ((congrFun ex2.2.2.2.2 3).trans r3)
  have r4 := s.2.2.2.2.2
  have p4 := g.2.st hX9 (by decide)
  have hX := hX.tr ((gE.to1 (x := x)).tr s.1)
  have hT := s.2.1.trans (ex2.1.trans hT)
  refine k_aload_n C rfl rfl rfl ?_
  refine k_aload_n C rfl rfl rfl ?_
  refine i_put C rfl rfl rfl hT ⟨rfl, rfl⟩ rfl (fun M1 s => ?_)
  have hx9 := s.1.st hT
  have p1 := p1.st hx9 (by decide)
  have p2 := p2.st hx9 (by decide) (by decide)
  have p3 := p3.st hx9 (by decide)
  have p4 := p4.st hx9 (by decide)
  have hX := hX.tr s.1
  have r1 := (s.2.2.2.2.1 1 (by decide)).trans r1
  have r2 := (s.2.2.2.2.1 2 (by decide)).trans r2
  have r3 := (s.2.2.2.2.1 3 (by decide)).trans r3
  have r4 := (s.2.2.2.2.1 4 (by decide)).trans r4
  have r0 := s.2.2.2.2.2
  have hT := s.2.1.trans hT
  exact k_vret C rfl rfl (Nat.le_of_ble_eq_true rfl) (Nat.le_of_ble_eq_true rfl) ⟨rfl, hX, ⟨hT, ⟨_, r1, p1⟩, ⟨_, r2, p2⟩, ⟨_, r3, p3⟩, ⟨_, r4, p4⟩, r0⟩⟩
theorem i_X5 {d : Nat} {M : Mm} {x al cc : Nat} (hT : mT M x = 6) (h0 : ∀ j, mI M x j = 0) : Ex (d + 3) 75 [.ref x, .ref al, .ref cc] M 36 5117 (pC fun M1 => Ex1 x M M1 ∧ gRw M1 x al cc) := by
  refine ⟨_, rfl, Nat.le_of_ble_eq_true rfl, fun V C S => ?_⟩
  show V 0 [(0, .ref x), (1, .ref al), (2, .ref cc)] [] M 0 0
  have hX : Ex1 x M M := Ex1.rf
  refine k_aload_n C rfl rfl rfl ?_
  refine i_obj C rfl rfl rfl (Nat.le_of_ble_eq_true rfl) ?_
  refine k_aload_n C rfl rfl rfl ?_
  refine k_bipush C (x := 12) rfl rfl rfl ?_
  refine i_rowP C (n := 12) rfl (Nat.le_of_ble_eq_true rfl) rfl rfl rfl rfl rfl rfl (Nat.le_of_ble_eq_true rfl) (Nat.le_of_ble_eq_true rfl) (by omega) rfl hT ⟨rfl, rfl⟩ rfl (Nat.le_of_ble_eq_true rfl) (fun b2 M1 s => ?_)
  have hx9 := s.1.st hT
  have hX := hX.tr s.1
  have r2 := s.2.2.2.2.2.1
  have p2 := s.2.2.2.2.2.2 (by decide) (by decide) (by decide)
  have hT := s.2.1.trans hT
  refine k_aload_n C rfl rfl rfl ?_
  refine k_bipush C (x := 8) rfl rfl rfl ?_
  refine k_sipush C (x := 492) rfl rfl rfl ?_
  refine i_mna C (n := 8) (w := 492) rfl rfl rfl rfl (by decide) (by decide) (by decide) (by decide) (Nat.le_of_ble_eq_true rfl) (Nat.le_of_ble_eq_true rfl) rfl rfl (Nat.le_of_ble_eq_true rfl) (Nat.le_of_ble_eq_true rfl) rfl hT ⟨rfl, rfl⟩ rfl (fun b3 M1 s => ?_)
  have hx9 := s.1.st hT
  have p2 := p2.st hx9 (by decide)
  have hX := hX.tr s.1
  have r2 := (s.2.2.2.2.1 2 (by decide)).trans r2
  have r3 := s.2.2.2.2.2.1
  have p3 := s.2.2.2.2.2.2
  have hT := s.2.1.trans hT
  refine k_aload_n C rfl rfl rfl ?_
  refine k_bipush C (x := 8) rfl rfl rfl ?_
  refine i_arr C (tt := 0) (n := 8) rfl rfl rfl (Or.inl ⟨rfl, rfl⟩) (by decide) (by decide) (Nat.le_of_ble_eq_true rfl) rfl rfl (Nat.le_of_ble_eq_true rfl) (Nat.le_of_ble_eq_true rfl) rfl hT ⟨rfl, rfl⟩ rfl (fun b4 M1 s => ?_)
  have hx9 := s.1.st hT
  have p2 := p2.st hx9 (by decide)
  have p3 := p3.st hx9 (by decide)
  have hX := hX.tr s.1
  have r2 := (s.2.2.2.2.1 2 (by decide)).trans r2
  have r3 := (s.2.2.2.2.1 3 (by decide)).trans r3
  have r4 := s.2.2.2.2.2.1
  have p4 := s.2.2.2.2.2.2.1
  have hT := s.2.1.trans hT
  refine k_aload_n C rfl rfl rfl ?_
  refine k_sipush C (x := 637) rfl rfl rfl ?_
  refine i_arr C (tt := 1) (n := 637) rfl rfl rfl (Or.inr (Or.inl ⟨rfl, rfl⟩)) (by decide) (by decide) (Nat.le_of_ble_eq_true rfl) rfl rfl (Nat.le_of_ble_eq_true rfl) (Nat.le_of_ble_eq_true rfl) rfl hT ⟨rfl, rfl⟩ rfl (fun b5 M1 s => ?_)
  have hx9 := s.1.st hT
  have p2 := p2.st hx9 (by decide)
  have p3 := p3.st hx9 (by decide)
  have p4 := p4.st hx9 (by decide) (by decide)
  have hX := hX.tr s.1
  have r2 := (s.2.2.2.2.1 2 (by decide)).trans r2
  have r3 := (s.2.2.2.2.1 3 (by decide)).trans r3
  have r4 := (s.2.2.2.2.1 4 (by decide)).trans r4
  have r5 := s.2.2.2.2.2.1
  have p5 := s.2.2.2.2.2.2.1
  have hT := s.2.1.trans hT
  refine k_aload_n C rfl rfl rfl ?_
  refine k_aload_n C rfl rfl rfl ?_
  refine i_put C rfl rfl rfl hT ⟨rfl, rfl⟩ rfl (fun M1 s => ?_)
  have hx9 := s.1.st hT
  have p2 := p2.st hx9 (by decide)
  have p3 := p3.st hx9 (by decide)
  have p4 := p4.st hx9 (by decide) (by decide)
  have p5 := p5.st hx9 (by decide) (by decide)
  have hX := hX.tr s.1
  have r2 := (s.2.2.2.2.1 2 (by decide)).trans r2
  have r3 := (s.2.2.2.2.1 3 (by decide)).trans r3
  have r4 := (s.2.2.2.2.1 4 (by decide)).trans r4
  have r5 := (s.2.2.2.2.1 5 (by decide)).trans r5
  have r0 := s.2.2.2.2.2
  have hT := s.2.1.trans hT
  refine k_aload_n C rfl rfl rfl ?_
  refine k_aload_n C rfl rfl rfl ?_
  refine i_put C rfl rfl rfl hT ⟨rfl, rfl⟩ rfl (fun M1 s => ?_)
  have hx9 := s.1.st hT
  have p2 := p2.st hx9 (by decide)
  have p3 := p3.st hx9 (by decide)
  have p4 := p4.st hx9 (by decide) (by decide)
  have p5 := p5.st hx9 (by decide) (by decide)
  have hX := hX.tr s.1
  have r2 := (s.2.2.2.2.1 2 (by decide)).trans r2
  have r3 := (s.2.2.2.2.1 3 (by decide)).trans r3
  have r4 := (s.2.2.2.2.1 4 (by decide)).trans r4
  have r5 := (s.2.2.2.2.1 5 (by decide)).trans r5
  have r0 := (s.2.2.2.2.1 0 (by decide)).trans r0
  have r1 := s.2.2.2.2.2
  have hT := s.2.1.trans hT
  exact k_vret C rfl rfl (Nat.le_of_ble_eq_true rfl) (Nat.le_of_ble_eq_true rfl) ⟨rfl, hX, ⟨hT, ⟨_, r2, p2⟩, ⟨_, r3, p3⟩, ⟨_, r4, p4⟩, ⟨_, r5, p5⟩, r0, r1⟩⟩
theorem i_X6 {d : Nat} {M : Mm} {x al : Nat} (hT : mT M x = 7) (h0 : ∀ j, mI M x j = 0) : Ex (d + 1) 84 [.ref x, .ref al] M 4 1209 (pC fun M1 => Ex1 x M M1 ∧ gSe M1 x al) := by
  refine ⟨_, rfl, Nat.le_of_ble_eq_true rfl, fun V C S => ?_⟩
  show V 0 [(0, .ref x), (1, .ref al)] [] M 0 0
  have hX : Ex1 x M M := Ex1.rf
  refine k_aload_n C rfl rfl rfl ?_
  refine i_obj C rfl rfl rfl (Nat.le_of_ble_eq_true rfl) ?_
  refine k_aload_n C rfl rfl rfl ?_
  refine k_sipush C (x := 400) rfl rfl rfl ?_
  refine i_arr C (tt := 0) (n := 400) rfl rfl rfl (Or.inl ⟨rfl, rfl⟩) (by decide) (by decide) (Nat.le_of_ble_eq_true rfl) rfl rfl (Nat.le_of_ble_eq_true rfl) (Nat.le_of_ble_eq_true rfl) rfl hT ⟨rfl, rfl⟩ rfl (fun b3 M1 s => ?_)
  have hx9 := s.1.st hT
  have hX := hX.tr s.1
  have r3 := s.2.2.2.2.2.1
  have p3 := s.2.2.2.2.2.2.1
  have hT := s.2.1.trans hT
  refine k_aload_n C rfl rfl rfl ?_
  refine k_bipush C (x := 9) rfl rfl rfl ?_
  refine i_arr C (tt := 0) (n := 9) rfl rfl rfl (Or.inl ⟨rfl, rfl⟩) (by decide) (by decide) (Nat.le_of_ble_eq_true rfl) rfl rfl (Nat.le_of_ble_eq_true rfl) (Nat.le_of_ble_eq_true rfl) rfl hT ⟨rfl, rfl⟩ rfl (fun b4 M1 s => ?_)
  have hx9 := s.1.st hT
  have p3 := p3.st hx9 (by decide) (by decide)
  have hX := hX.tr s.1
  have r3 := (s.2.2.2.2.1 3 (by decide)).trans r3
  have r4 := s.2.2.2.2.2.1
  have p4 := s.2.2.2.2.2.2.1
  have hT := s.2.1.trans hT
  refine k_aload_n C rfl rfl rfl ?_
  refine k_sipush C (x := 400) rfl rfl rfl ?_
  refine i_arr C (tt := 0) (n := 400) rfl rfl rfl (Or.inl ⟨rfl, rfl⟩) (by decide) (by decide) (Nat.le_of_ble_eq_true rfl) rfl rfl (Nat.le_of_ble_eq_true rfl) (Nat.le_of_ble_eq_true rfl) rfl hT ⟨rfl, rfl⟩ rfl (fun b5 M1 s => ?_)
  have hx9 := s.1.st hT
  have p3 := p3.st hx9 (by decide) (by decide)
  have p4 := p4.st hx9 (by decide) (by decide)
  have hX := hX.tr s.1
  have r3 := (s.2.2.2.2.1 3 (by decide)).trans r3
  have r4 := (s.2.2.2.2.1 4 (by decide)).trans r4
  have r5 := s.2.2.2.2.2.1
  have p5 := s.2.2.2.2.2.2.1
  have hT := s.2.1.trans hT
  refine k_aload_n C rfl rfl rfl ?_
  refine k_sipush C (x := 400) rfl rfl rfl ?_
  refine i_arr C (tt := 0) (n := 400) rfl rfl rfl (Or.inl ⟨rfl, rfl⟩) (by decide) (by decide) (Nat.le_of_ble_eq_true rfl) rfl rfl (Nat.le_of_ble_eq_true rfl) (Nat.le_of_ble_eq_true rfl) rfl hT ⟨rfl, rfl⟩ rfl (fun b6 M1 s => ?_)
  have hx9 := s.1.st hT
  have p3 := p3.st hx9 (by decide) (by decide)
  have p4 := p4.st hx9 (by decide) (by decide)
  have p5 := p5.st hx9 (by decide) (by decide)
  have hX := hX.tr s.1
  have r3 := (s.2.2.2.2.1 3 (by decide)).trans r3
  have r4 := (s.2.2.2.2.1 4 (by decide)).trans r4
  have r5 := (s.2.2.2.2.1 5 (by decide)).trans r5
  have r6 := s.2.2.2.2.2.1
  have p6 := s.2.2.2.2.2.2.1
  have hT := s.2.1.trans hT
  refine k_aload_n C rfl rfl rfl ?_
  refine k_aload_n C rfl rfl rfl ?_
  refine i_put C rfl rfl rfl hT ⟨rfl, rfl⟩ rfl (fun M1 s => ?_)
  have hx9 := s.1.st hT
  have p3 := p3.st hx9 (by decide) (by decide)
  have p4 := p4.st hx9 (by decide) (by decide)
  have p5 := p5.st hx9 (by decide) (by decide)
  have p6 := p6.st hx9 (by decide) (by decide)
  have hX := hX.tr s.1
  have r3 := (s.2.2.2.2.1 3 (by decide)).trans r3
  have r4 := (s.2.2.2.2.1 4 (by decide)).trans r4
  have r5 := (s.2.2.2.2.1 5 (by decide)).trans r5
  have r6 := (s.2.2.2.2.1 6 (by decide)).trans r6
  have r2 := s.2.2.2.2.2
  have hT := s.2.1.trans hT
  exact k_vret C rfl rfl (Nat.le_of_ble_eq_true rfl) (Nat.le_of_ble_eq_true rfl) ⟨rfl, hX, ⟨hT, ⟨_, r3, p3⟩, ⟨_, r4, p4⟩, ⟨_, r5, p5⟩, ⟨_, r6, p6⟩, r2⟩⟩
theorem i_X3 {d : Nat} {M : Mm} {x al : Nat} (hT : mT M x = 4) (h0 : ∀ j, mI M x j = 0) : Ex (d + 1) 46 [.ref x, .ref al] M 4 24 (pC fun M1 => Ex1 x M M1 ∧ gPo M1 x al) := by
  refine ⟨_, rfl, Nat.le_of_ble_eq_true rfl, fun V C S => ?_⟩
  show V 0 [(0, .ref x), (1, .ref al)] [] M 0 0
  have hX : Ex1 x M M := Ex1.rf
  refine k_aload_n C rfl rfl rfl ?_
  refine i_obj C rfl rfl rfl (Nat.le_of_ble_eq_true rfl) ?_
  refine k_aload_n C rfl rfl rfl ?_
  refine k_iconst C (x := 3) rfl rfl rfl ?_
  refine i_arr C (tt := 0) (n := 3) rfl rfl rfl (Or.inl ⟨rfl, rfl⟩) (by decide) (by decide) (Nat.le_of_ble_eq_true rfl) rfl rfl (Nat.le_of_ble_eq_true rfl) (Nat.le_of_ble_eq_true rfl) rfl hT ⟨rfl, rfl⟩ rfl (fun b2 M1 s => ?_)
  have hx9 := s.1.st hT
  have hX := hX.tr s.1
  have r2 := s.2.2.2.2.2.1
  have p2 := s.2.2.2.2.2.2.1
  have hT := s.2.1.trans hT
  refine k_aload_n C rfl rfl rfl ?_
  refine k_iconst C (x := 3) rfl rfl rfl ?_
  refine i_arr C (tt := 0) (n := 3) rfl rfl rfl (Or.inl ⟨rfl, rfl⟩) (by decide) (by decide) (Nat.le_of_ble_eq_true rfl) rfl rfl (Nat.le_of_ble_eq_true rfl) (Nat.le_of_ble_eq_true rfl) rfl hT ⟨rfl, rfl⟩ rfl (fun b3 M1 s => ?_)
  have hx9 := s.1.st hT
  have p2 := p2.st hx9 (by decide) (by decide)
  have hX := hX.tr s.1
  have r2 := (s.2.2.2.2.1 2 (by decide)).trans r2
  have r3 := s.2.2.2.2.2.1
  have p3 := s.2.2.2.2.2.2.1
  have hT := s.2.1.trans hT
  refine k_aload_n C rfl rfl rfl ?_
  refine k_bipush C (x := 9) rfl rfl rfl ?_
  refine i_arr C (tt := 0) (n := 9) rfl rfl rfl (Or.inl ⟨rfl, rfl⟩) (by decide) (by decide) (Nat.le_of_ble_eq_true rfl) rfl rfl (Nat.le_of_ble_eq_true rfl) (Nat.le_of_ble_eq_true rfl) rfl hT ⟨rfl, rfl⟩ rfl (fun b4 M1 s => ?_)
  have hx9 := s.1.st hT
  have p2 := p2.st hx9 (by decide) (by decide)
  have p3 := p3.st hx9 (by decide) (by decide)
  have hX := hX.tr s.1
  have r2 := (s.2.2.2.2.1 2 (by decide)).trans r2
  have r3 := (s.2.2.2.2.1 3 (by decide)).trans r3
  have r4 := s.2.2.2.2.2.1
  have p4 := s.2.2.2.2.2.2.1
  have hT := s.2.1.trans hT
  refine k_aload_n C rfl rfl rfl ?_
  refine k_bipush C (x := 9) rfl rfl rfl ?_
  refine i_arr C (tt := 0) (n := 9) rfl rfl rfl (Or.inl ⟨rfl, rfl⟩) (by decide) (by decide) (Nat.le_of_ble_eq_true rfl) rfl rfl (Nat.le_of_ble_eq_true rfl) (Nat.le_of_ble_eq_true rfl) rfl hT ⟨rfl, rfl⟩ rfl (fun b5 M1 s => ?_)
  have hx9 := s.1.st hT
  have p2 := p2.st hx9 (by decide) (by decide)
  have p3 := p3.st hx9 (by decide) (by decide)
  have p4 := p4.st hx9 (by decide) (by decide)
  have hX := hX.tr s.1
  have r2 := (s.2.2.2.2.1 2 (by decide)).trans r2
  have r3 := (s.2.2.2.2.1 3 (by decide)).trans r3
  have r4 := (s.2.2.2.2.1 4 (by decide)).trans r4
  have r5 := s.2.2.2.2.2.1
  have p5 := s.2.2.2.2.2.2.1
  have hT := s.2.1.trans hT
  refine k_aload_n C rfl rfl rfl ?_
  refine k_aload_n C rfl rfl rfl ?_
  refine i_put C rfl rfl rfl hT ⟨rfl, rfl⟩ rfl (fun M1 s => ?_)
  have hx9 := s.1.st hT
  have p2 := p2.st hx9 (by decide) (by decide)
  have p3 := p3.st hx9 (by decide) (by decide)
  have p4 := p4.st hx9 (by decide) (by decide)
  have p5 := p5.st hx9 (by decide) (by decide)
  have hX := hX.tr s.1
  have r2 := (s.2.2.2.2.1 2 (by decide)).trans r2
  have r3 := (s.2.2.2.2.1 3 (by decide)).trans r3
  have r4 := (s.2.2.2.2.1 4 (by decide)).trans r4
  have r5 := (s.2.2.2.2.1 5 (by decide)).trans r5
  have r1 := s.2.2.2.2.2
  have hT := s.2.1.trans hT
  exact k_vret C rfl rfl (Nat.le_of_ble_eq_true rfl) (Nat.le_of_ble_eq_true rfl) ⟨rfl, hX, ⟨hT, ⟨_, r2, p2⟩, ⟨_, r3, p3⟩, ⟨_, r4, p4⟩, ⟨_, r5, p5⟩, r1⟩⟩
theorem i_X10 {d : Nat} {M : Mm} {x : Nat} (hT : mT M x = 11) (h0 : ∀ j, mI M x j = 0) (hL : ∀ j, mL M x j = 0) : Ex (d + 1) 111 [.ref x] M 0 0 (pC fun M1 => Ex1 x M M1 ∧ gWh M1 x) := by
  refine ⟨_, rfl, Nat.le_of_ble_eq_true rfl, fun V C S => ?_⟩
  show V 0 [(0, .ref x)] [] M 0 0
  have hX : Ex1 x M M := Ex1.rf
  refine k_aload_n C rfl rfl rfl ?_
  refine i_obj C rfl rfl rfl (Nat.le_of_ble_eq_true rfl) ?_
  exact k_vret C rfl rfl (Nat.le_of_ble_eq_true rfl) (Nat.le_of_ble_eq_true rfl) ⟨rfl, hX, hT, hL⟩
