/-! every step, by its instruction -/
section Step
variable {p : Program} {l : Launch} {e : Env} {R : Room} {s : State} {m : MethodId} {args : Array Value} {below : List Frame} {meth : Method} {c : Code} {D : va_G} {cA : Nat → ClassId} {B d : Nat} {q : mm_T} {mc ms : Nat} {Q : State → Prop}
theorem sN_T {M : Mm} {a t n : Nat} : mT (sN M a t n) a = t := by simp [sN, u1, mT]
theorem sN_I {M : Mm} {a t n k : Nat} : mI (sN M a t n) a k = 0 := by simp [sN, u1, mI]
theorem sN_L {M : Mm} {a t n k : Nat} : mL (sN M a t n) a k = 0 := by simp [sN, u1, mL]
theorem sN_R {M : Mm} {a t n k : Nat} : mR (sN M a t n) a k = none := by simp [sN, u1, mR]
def oTy (t : FieldType) : Bool := match t with
  | .int => true
  | .boolean => true
  | .long => true
  | .object _ => true
  | .array _ => true
  | _ => false
theorem P_ty_ok : ∀ ci, ci < 13 → ∀ k, k < P_sz ci → oTy (P_ty ci k) = true := by decide +kernel
theorem tys_at {cA : Nat → ClassId} {t : Nat} (h : t < 7) : (tysA cA)[t]? = some (cA t, aT t) := by
  match t, h with
  | 0, _ => rfl
  | 1, _ => rfl
  | 2, _ => rfl
  | 3, _ => rfl
  | 4, _ => rfl
  | 5, _ => rfl
  | 6, _ => rfl
theorem vp_lt {j : Int32} {n : Nat} (h : vp_in j n) : j.toNatClampNeg < n := Nat.not_le.mp fun z => h (Or.inr z)
theorem lv_aloadV {H : Heap} {locs : List Loc} {cells slots pc i : Nat} {ls : Array Slot} {rest : List Value} {cc : ByteArray} (hx : p.tables.exec = Jvm.exec) (hb : c.code = cc) (hd : decode cc pc = .ok (.aload i, 2)) {x : Option Nat} (hl : ls[i]? = some (.val (va_rf x)))
    (k : W p l e R s m args below meth c H locs cells slots Q (F0 m (pc + 2) ls (va_rf x :: rest))) : W p l e R s m args below meth c H locs cells slots Q (F0 m pc ls rest) := by
  cases x with
  | none => exact lv_aloadN hx hb hd hl k
  | some a => exact lv_aload hx hb hd hl k
theorem lv_aload_nV {H : Heap} {locs : List Loc} {cells slots pc : Nat} {i : Fin 4} {ls : Array Slot} {rest : List Value} {cc : ByteArray} (hx : p.tables.exec = Jvm.exec) (hb : c.code = cc) (hd : decode cc pc = .ok (.aload_n i, 1)) {x : Option Nat} (hl : ls[i.val]? = some (.val (va_rf x)))
    (k : W p l e R s m args below meth c H locs cells slots Q (F0 m (pc + 1) ls (va_rf x :: rest))) : W p l e R s m args below meth c H locs cells slots Q (F0 m pc ls rest) := by
  cases x with
  | none => exact lv_aload_nN hx hb hd rfl hl k
  | some a => exact lv_aload_n hx hb hd rfl hl k
theorem lk_at {ls : Array Slot} {nL : Nat} {lv : List (Nat × Value)} (h : lv_has ls nL lv) {j : Nat} {v : Value} (hk : lk lv j = some v) : ls[j]? = some (.val v) := h.2.2 (j, v) (lk_mem hk)
theorem vv_iast (X : Cx p l R s m args meth c D cA B d q mc ms) {pc a : Nat} {j x : Int32} {lv : List (Nat × Value)} {r : List Value} {M : Mm} {ck sk : Nat} (hd : decode q.2.1 pc = .ok (.iastore, 1)) (ht : mT M a = 20) (hin : vp_in j (mN M a))
    (h : VV p l e R s m args below meth c D cA B q Q (pc + 1) lv r (sI M a j.toNatClampNeg x) ck sk) : VV p l e R s m args below meth c D cA B q Q pc lv (.int x :: .int j :: .ref a :: r) M ck sk := by
  intro H locs ls hP hS hl
  obtain ⟨⟨hx, hb, hml, hown, hts⟩, hKK, -⟩ := X
  obtain ⟨-, hc, hBa, -⟩ := hP.arr (t := 0) ht
  refine W.iast hx hb hc ((hKK.1.2 0 _ (tys_at (by omega))).1 _ _) (fun z => by cases z) (by show ¬ (j < 0 ∨ (arrV _ _ _).slots.size ≤ _); rw [arrV_size]; exact hin) rfl rfl hd fun H1 e1 z o1 => ?_
  refine h H1 _ ls (hP.upd rfl rfl (fun b hb => mv_sI_ne hb) z o1 fun _ => Or.inr ⟨0, ht, by omega, ?_⟩) (hS.put z o1 hBa) hl
  rw [e1, arrV_store, mv_sI_at (by rw [ht]; rfl)]
  rfl
theorem vv_bast (X : Cx p l R s m args meth c D cA B d q mc ms) {pc a : Nat} {j x : Int32} {lv : List (Nat × Value)} {r : List Value} {M : Mm} {ck sk : Nat} (hd : decode q.2.1 pc = .ok (.bastore, 1)) (ht : mT M a = 22) (hin : vp_in j (mN M a))
    (h : VV p l e R s m args below meth c D cA B q Q (pc + 1) lv r (sI M a j.toNatClampNeg x.toInt8.toInt32) ck sk) : VV p l e R s m args below meth c D cA B q Q pc lv (.int x :: .int j :: .ref a :: r) M ck sk := by
  intro H locs ls hP hS hl
  obtain ⟨⟨hx, hb, hml, hown, hts⟩, hKK, -⟩ := X
  obtain ⟨-, hc, hBa, -⟩ := hP.arr (t := 2) ht
  refine W.bast hx hb hc ((hKK.1.2 2 _ (tys_at (by omega))).1 _ _) (fun z => by cases z) (by show ¬ (j < 0 ∨ (arrV _ _ _).slots.size ≤ _); rw [arrV_size]; exact hin) rfl rfl hd fun H1 e1 z o1 => ?_
  refine h H1 _ ls (hP.upd rfl rfl (fun b hb => mv_sI_ne hb) z o1 fun _ => Or.inr ⟨2, ht, by omega, ?_⟩) (hS.put z o1 hBa) hl
  rw [e1, arrV_store, mv_sI_at (by rw [ht]; rfl)]
  rfl
theorem vv_last (X : Cx p l R s m args meth c D cA B d q mc ms) {pc a : Nat} {j : Int32} {x : Int64} {lv : List (Nat × Value)} {r : List Value} {M : Mm} {ck sk : Nat} (hd : decode q.2.1 pc = .ok (.lastore, 1)) (ht : mT M a = 21) (hin : vp_in j (mN M a))
    (h : VV p l e R s m args below meth c D cA B q Q (pc + 1) lv r (sL M a j.toNatClampNeg x) ck sk) : VV p l e R s m args below meth c D cA B q Q pc lv (.long x :: .int j :: .ref a :: r) M ck sk := by
  intro H locs ls hP hS hl
  obtain ⟨⟨hx, hb, hml, hown, hts⟩, hKK, -⟩ := X
  obtain ⟨-, hc, hBa, -⟩ := hP.arr (t := 1) ht
  refine W.last hx hb hc ((hKK.1.2 1 _ (tys_at (by omega))).1 _ _) (fun z => by cases z) (by show ¬ (j < 0 ∨ (arrV _ _ _).slots.size ≤ _); rw [arrV_size]; exact hin) rfl rfl hd fun H1 e1 z o1 => ?_
  refine h H1 _ ls (hP.upd rfl rfl (fun b hb => mv_sL_ne hb) z o1 fun _ => Or.inr ⟨1, ht, by omega, ?_⟩) (hS.put z o1 hBa) hl
  rw [e1, arrV_store, mv_sL_at (by rw [ht]; rfl)]
  rfl
theorem vv_aast (X : Cx p l R s m args meth c D cA B d q mc ms) {pc a b t ci : Nat} {j : Int32} {lv : List (Nat × Value)} {r : List Value} {M : Mm} {ck sk : Nat} (hd : decode q.2.1 pc = .ok (.aastore, 1)) (ht : mT M a = 20 + t) (htb : mT M b = ci + 1) (htc : t = 3 ∧ ci = 2 ∨ t = 4 ∧ ci = 9 ∨ t = 5 ∧ ci = 7) (hin : vp_in j (mN M a))
    (h : VV p l e R s m args below meth c D cA B q Q (pc + 1) lv r (sR M a j.toNatClampNeg (some b)) ck sk) : VV p l e R s m args below meth c D cA B q Q pc lv (.ref b :: .int j :: .ref a :: r) M ck sk := by
  intro H locs ls hP hS hl
  obtain ⟨⟨hx, hb, hml, hown, hts⟩, hKK, -⟩ := X
  obtain ⟨ht7, hc, hBa, -⟩ := hP.arr ht
  obtain ⟨rr, hr, ⟨cellV, g1, g2, g3, -⟩, -, -⟩ := hP.obj htb (by omega)
  have hcls := (hKK.1.1 ci rr hr).2
  have hek : ek (mT M a) j.toNatClampNeg = 2 := by rw [ht]; rcases htc with ⟨rfl, -⟩ | ⟨rfl, -⟩ | ⟨rfl, -⟩ <;> rfl
  have hA9 : ∃ (kA : Class) (comp : ClassId), s.vm.classes[cA t]? = some kA ∧ kA.kind = .array comp (aT t) ∧ s.vm.findClass rr.1 = some comp ∧ (aT t).isReference = true := by
    have h9 := (hKK.1.2 t _ (tys_at ht7)).2
    rcases htc with ⟨rfl, rfl⟩ | ⟨rfl, rfl⟩ | ⟨rfl, rfl⟩ <;> (obtain ⟨kA, comp, k1, k2, k3, -⟩ := h9; cases hr; exact ⟨kA, comp, k1, k2, k3, rfl⟩)
  obtain ⟨kA, comp, k1, k2, k3, k4⟩ := hA9
  have hcomp : comp = D.1 ci := Option.some.inj (k3.symm.trans hcls.1)
  subst hcomp
  obtain ⟨kC, hkC, -⟩ := hcls.2
  refine W.aast hx hb hc (fun z h => by cases h) (fun h => by cases h) k1 k2 k4 hkC ⟨fun z => hin (Or.inl z), by show _ < (arrV _ _ _).slots.size; rw [arrV_size]; exact vp_lt hin⟩ g1 (fun z h => by rw [g3] at h; cases h) (by rw [g2]; exact hkC) (by rw [g2]; exact va_assign hcls) rfl rfl hd fun H1 e1 z o1 => ?_
  refine h H1 _ ls (hP.upd rfl rfl (fun b hb => mv_sR_ne hb) z o1 fun _ => Or.inr ⟨t, ht, ht7, ?_⟩) (hS.put z o1 hBa) hl
  rw [e1, arrV_store, mv_sR_at hek]
  rfl
theorem vv_alen (X : Cx p l R s m args meth c D cA B d q mc ms) {pc a : Nat} {lv : List (Nat × Value)} {r : List Value} {M : Mm} {ck sk : Nat} (hd : decode q.2.1 pc = .ok (.arraylength, 1)) (ht : 20 ≤ mT M a)
    (h : VV p l e R s m args below meth c D cA B q Q (pc + 1) lv (.int (Int32.ofNat (mN M a)) :: r) M ck sk) : VV p l e R s m args below meth c D cA B q Q pc lv (.ref a :: r) M ck sk := by
  intro H locs ls hP hS hl
  obtain ⟨⟨hx, hb, hml, hown, hts⟩, hKK, -⟩ := X
  obtain ⟨ht7, hc, hBa, -⟩ := hP.arr (a := a) (t := mT M a - 20) (by omega)
  exact W.alen (n := Int32.ofNat (mN M a)) hx hb hc ((hKK.1.2 _ _ (tys_at ht7)).1 _ _) (by rw [arrV_size] <;> rfl) rfl rfl hd (h H locs ls hP hS hl)
theorem vv_iald (X : Cx p l R s m args meth c D cA B d q mc ms) {pc a : Nat} {j : Int32} {lv : List (Nat × Value)} {r : List Value} {M : Mm} {ck sk : Nat} (hd : decode q.2.1 pc = .ok (.iaload, 1)) (ht : mT M a = 20) (hin : vp_in j (mN M a))
    (h : VV p l e R s m args below meth c D cA B q Q (pc + 1) lv (.int (mI M a j.toNatClampNeg) :: r) M ck sk) : VV p l e R s m args below meth c D cA B q Q pc lv (.int j :: .ref a :: r) M ck sk := by
  intro H locs ls hP hS hl
  obtain ⟨⟨hx, hb, hml, hown, hts⟩, hKK, -⟩ := X
  obtain ⟨-, hc, -⟩ := hP.arr (t := 0) ht
  exact W.iald (v := .int (mI M a j.toNatClampNeg)) hx hb hc ((hKK.1.2 0 _ (tys_at (by omega))).1 _ _) (fun z => by cases z) (by show ¬ (j < 0 ∨ (arrV _ _ _).slots.size ≤ _); rw [arrV_size]; exact hin) (by rw [arrV_read _ _ (vp_lt hin), mv_int ht]) rfl rfl hd (h H locs ls hP hS hl)
theorem vv_bald (X : Cx p l R s m args meth c D cA B d q mc ms) {pc a : Nat} {j : Int32} {lv : List (Nat × Value)} {r : List Value} {M : Mm} {ck sk : Nat} (hd : decode q.2.1 pc = .ok (.baload, 1)) (ht : mT M a = 22) (hin : vp_in j (mN M a))
    (h : VV p l e R s m args below meth c D cA B q Q (pc + 1) lv (.int (mI M a j.toNatClampNeg) :: r) M ck sk) : VV p l e R s m args below meth c D cA B q Q pc lv (.int j :: .ref a :: r) M ck sk := by
  intro H locs ls hP hS hl
  obtain ⟨⟨hx, hb, hml, hown, hts⟩, hKK, -⟩ := X
  obtain ⟨-, hc, -⟩ := hP.arr (t := 2) ht
  exact W.bald (v := .int (mI M a j.toNatClampNeg)) hx hb hc ((hKK.1.2 2 _ (tys_at (by omega))).1 _ _) (fun z => by cases z) (by show ¬ (j < 0 ∨ (arrV _ _ _).slots.size ≤ _); rw [arrV_size]; exact hin) (by rw [arrV_read _ _ (vp_lt hin), mv_byte ht]) rfl rfl hd (h H locs ls hP hS hl)
theorem vv_lald (X : Cx p l R s m args meth c D cA B d q mc ms) {pc a : Nat} {j : Int32} {lv : List (Nat × Value)} {r : List Value} {M : Mm} {ck sk : Nat} (hd : decode q.2.1 pc = .ok (.laload, 1)) (ht : mT M a = 21) (hin : vp_in j (mN M a))
    (h : VV p l e R s m args below meth c D cA B q Q (pc + 1) lv (.long (mL M a j.toNatClampNeg) :: r) M ck sk) : VV p l e R s m args below meth c D cA B q Q pc lv (.int j :: .ref a :: r) M ck sk := by
  intro H locs ls hP hS hl
  obtain ⟨⟨hx, hb, hml, hown, hts⟩, hKK, -⟩ := X
  obtain ⟨-, hc, -⟩ := hP.arr (t := 1) ht
  exact W.lald (v := .long (mL M a j.toNatClampNeg)) hx hb hc ((hKK.1.2 1 _ (tys_at (by omega))).1 _ _) (fun z => by cases z) (by show ¬ (j < 0 ∨ (arrV _ _ _).slots.size ≤ _); rw [arrV_size]; exact hin) (by rw [arrV_read _ _ (vp_lt hin), mv_long ht]) rfl rfl hd (h H locs ls hP hS hl)
theorem vv_aald (X : Cx p l R s m args meth c D cA B d q mc ms) {pc a t : Nat} {j : Int32} {lv : List (Nat × Value)} {r : List Value} {M : Mm} {ck sk : Nat} (hd : decode q.2.1 pc = .ok (.aaload, 1)) (ht4 : t < 4) (ht : mT M a = 23 + t) (hin : vp_in j (mN M a))
    (h : VV p l e R s m args below meth c D cA B q Q (pc + 1) lv (va_rf (mR M a j.toNatClampNeg) :: r) M ck sk) : VV p l e R s m args below meth c D cA B q Q pc lv (.int j :: .ref a :: r) M ck sk := by
  intro H locs ls hP hS hl
  obtain ⟨⟨hx, hb, hml, hown, hts⟩, hKK, -⟩ := X
  obtain ⟨ht7, hc, -⟩ := hP.arr (a := a) (t := 3 + t) (by omega)
  have hr : (aT (3 + t)).isReference = true := by
    match t, ht4 with
    | 0, _ => rfl
    | 1, _ => rfl
    | 2, _ => rfl
    | 3, _ => rfl
  exact W.aald (v := va_rf (mR M a j.toNatClampNeg)) (ty := aT (3 + t)) hx hb hc ((hKK.1.2 _ _ (tys_at ht7)).1 _ _) hr (fun z => by cases z) (by show ¬ (j < 0 ∨ (arrV _ _ _).slots.size ≤ _); rw [arrV_size]; exact hin) (by rw [arrV_read _ _ (vp_lt hin), mv_ref ht4 ht]) rfl rfl hd (h H locs ls hP hS hl)
theorem vv_new (X : Cx p l R s m args meth c D cA B d q mc ms) {pc j ci : Nat} {lv : List (Nat × Value)} {st : List Value} {M : Mm} {ck sk : Nat} (hd : decode q.2.1 pc = .ok (.new j, 3)) (hn : P_nw q.2.2.2.2.1 j = some ci) (h1 : ck + 1 ≤ mc) (h2 : sk + P_sz ci ≤ ms)
    (h : ∀ b, mT M b = 0 → VV p l e R s m args below meth c D cA B q Q (pc + 3) lv (.ref b :: st) (sN M b (ci + 1) (P_sz ci)) (ck + 1) (sk + P_sz ci)) : VV p l e R s m args below meth c D cA B q Q pc lv st M ck sk := by
  intro H locs ls hP hS hl
  obtain ⟨⟨hx, hb, hml, hown, hts⟩, hKK, hB, -, -, -, -, hRc, hRs, -⟩ := X
  obtain ⟨C, T, N, hc, hw1, hw2, hw3⟩ := P_nw_ok hn
  have hc : vwCl[ci]? = some (C, T, N) := hc
  have hci : ci < 13 := by
    have := (List.getElem?_eq_some_iff.mp hc).1
    simpa [vwCl] using this
  have hsz : P_sz ci = N := by unfold P_sz; rw [hc]
  obtain ⟨hin, hty, hnm, hC, hdec⟩ := vwCl_ok ci _ hc
  have hKn := hKK.1.1 ci _ hc
  rw [hsz] at h2 h
  subst hRc; subst hRs
  refine W.newcK hx hb hown (hts _ hw1) (hts _ hw2) (hts _ hw3) rfl hd h1 h2 hKn.2.1 rfl fun H1 kC hkC e1 z1 o1 => ?_
  refine h H.size hP.fresh H1 locs ls (hP.add z1 o1 (Or.inl ⟨ci, _, rfl, hci, hc, ?_⟩)) ⟨Nat.le_trans hS.1 (by omega), fun x h8 h9 => (o1 x (Nat.lt_of_lt_of_le h8 hS.1)).trans (hS.2.1 x h8 h9), hS.2.2⟩ hl
  refine (u_born (P_ty ci) hts hin hKn hkC e1 hty).to (fun k hk => ?_)
  rw [mv_obj hci sN_T]
  have hp := P_ty_ok ci hci k (by rw [hsz]; exact hk)
  generalize P_ty ci k = ty9 at hp
  cases ty9 <;> first | (cases hp; done) | (simp only [wv, kt, sN_I, sN_L, sN_R]; rfl)
theorem vv_newarr (X : Cx p l R s m args meth c D cA B d q mc ms) {pc tt : Nat} {t : ArrayType} {z : Int32} {lv : List (Nat × Value)} {r : List Value} {M : Mm} {ck sk : Nat} (hd : decode q.2.1 pc = .ok (.newarray t, 2)) (ht : t = .int ∧ tt = 0 ∨ t = .long ∧ tt = 1 ∨ t = .byte ∧ tt = 2) (h0 : ¬ z < 0) (hz : z.toNatClampNeg ≤ 10000) (h1 : ck + 1 ≤ mc) (h2 : sk + z.toNatClampNeg ≤ ms)
    (h : ∀ b, mT M b = 0 → VV p l e R s m args below meth c D cA B q Q (pc + 2) lv (.ref b :: r) (sN M b (20 + tt) z.toNatClampNeg) (ck + 1) (sk + z.toNatClampNeg)) : VV p l e R s m args below meth c D cA B q Q pc lv (.int z :: r) M ck sk := by
  intro H locs ls hP hS hl
  obtain ⟨⟨hx, hb, hml, hown, hts⟩, hKK, hB, -, -, -, -, hRc, hRs, -⟩ := X
  subst hRc; subst hRs
  have hty : newarray.typeOf t = aT tt := by rcases ht with ⟨rfl, rfl⟩ | ⟨rfl, rfl⟩ | ⟨rfl, rfl⟩ <;> rfl
  have ht7 : tt < 3 := by rcases ht with ⟨-, rfl⟩ | ⟨-, rfl⟩ | ⟨-, rfl⟩ <;> omega
  have harr : (Jvm.Cond.arrayClass (newarray.typeOf t)).before args s = true := by
    rcases ht with ⟨rfl, rfl⟩ | ⟨rfl, rfl⟩ | ⟨rfl, rfl⟩
    · exact hts _ wArr_int
    · exact hts _ wArr_long
    · exact hts _ wArr_byte
  have hcb : componentBytes (newarray.typeOf t) ≤ 8 := by rcases ht with ⟨rfl, rfl⟩ | ⟨rfl, rfl⟩ | ⟨rfl, rfl⟩ <;> decide
  refine va_newaK hx hb harr rfl hd rfl h0 rfl (Nat.le_trans (Nat.mul_le_mul hz hcb) (by decide)) h1 h2 rfl fun H1 cA9 e1 z1 o1 hAr hNm => ?_
  have hcA : cA9 = cA tt := by
    have h9 := (hKK.1.2 tt _ (tys_at (by omega))).2
    have h8 : s.vm.findClass ("[" ++ (aT tt).toString) = some (cA tt) := by
      match tt, ht7, h9 with
      | 0, _, h9 => exact h9
      | 1, _, h9 => exact h9
      | 2, _, h9 => exact h9
    rw [hty] at hNm
    exact Option.some.inj (hNm.symm.trans h8)
  refine h H.size hP.fresh H1 locs ls (hP.add z1 o1 (Or.inr ⟨tt, rfl, by omega, ?_⟩)) ⟨Nat.le_trans hS.1 (by omega), fun x h8 h9 => (o1 x (Nat.lt_of_lt_of_le h8 hS.1)).trans (hS.2.1 x h8 h9), hS.2.2⟩ hl
  rw [e1, hcA]
  refine congrArg (fun f => some (arrV (cA tt) z.toNatClampNeg f)) (funext fun k => ?_)
  rw [hty]
  match tt, ht7 with
  | 0, _ => rw [mv_int sN_T, sN_I]; rfl
  | 1, _ => rw [mv_long sN_T, sN_L]; rfl
  | 2, _ => rw [mv_byte sN_T, sN_I]; rfl
theorem vv_anew (X : Cx p l R s m args meth c D cA B d q mc ms) {pc j tt ci : Nat} {z : Int32} {lv : List (Nat × Value)} {r : List Value} {M : Mm} {ck sk : Nat} (hd : decode q.2.1 pc = .ok (.anewarray j, 3)) (hn : P_nw q.2.2.2.2.1 j = some ci) (ht : tt = 3 ∧ ci = 2 ∨ tt = 4 ∧ ci = 9 ∨ tt = 5 ∧ ci = 7) (h0 : ¬ z < 0) (hz : z.toNatClampNeg ≤ 10000) (h1 : ck + 1 ≤ mc) (h2 : sk + z.toNatClampNeg ≤ ms)
    (h : ∀ b, mT M b = 0 → VV p l e R s m args below meth c D cA B q Q (pc + 3) lv (.ref b :: r) (sN M b (20 + tt) z.toNatClampNeg) (ck + 1) (sk + z.toNatClampNeg)) : VV p l e R s m args below meth c D cA B q Q pc lv (.int z :: r) M ck sk := by
  intro H locs ls hP hS hl
  obtain ⟨⟨hx, hb, hml, hown, hts⟩, hKK, hB, -, -, -, -, hRc, hRs, -⟩ := X
  subst hRc; subst hRs
  obtain ⟨C, T, N, hc, hw1, -, -⟩ := P_nw_ok hn
  have hc : vwCl[ci]? = some (C, T, N) := hc
  have hover : va_AO C s ∧ aT tt = .object C ∧ s.vm.findClass ("[" ++ (FieldType.object C).toString) = some (cA tt) ∧ 3 ≤ tt ∧ tt < 6 := by
    rcases ht with ⟨rfl, rfl⟩ | ⟨rfl, rfl⟩ | ⟨rfl, rfl⟩ <;> cases hc
    · obtain ⟨_, _, -, -, -, k4⟩ := (hKK.1.2 3 _ (tys_at (by omega))).2
      exact ⟨hKK.2.2.2.2.2.1, rfl, k4, by omega, by omega⟩
    · obtain ⟨_, _, -, -, -, k4⟩ := (hKK.1.2 4 _ (tys_at (by omega))).2
      exact ⟨hKK.2.2.2.2.2.2.1, rfl, k4, by omega, by omega⟩
    · obtain ⟨_, _, -, -, -, k4⟩ := (hKK.1.2 5 _ (tys_at (by omega))).2
      exact ⟨hKK.2.2.2.2.2.2.2.1, rfl, k4, by omega, by omega⟩
  obtain ⟨hAO, haT, hcA, ht3, ht6⟩ := hover
  refine W.anew hx hb hown (hts _ hw1) (va_AO.use hAO) rfl hd rfl h0 (Nat.le_trans (Nat.mul_le_mul_right 4 hz) (by decide)) h1 h2 fun cA9 kA comp f1 f2 f3 f4 => ?_
  have hc9 : cA9 = cA tt := Option.some.inj (f1.symm.trans hcA)
  subst hc9
  have e1 : (H.push { cls := cA tt, slots := Array.replicate z.toNatClampNeg .null, vm := .none })[H.size]? = some (arrV (cA tt) z.toNatClampNeg (fun _ => .null)) := by rw [← arrV_new]; simp
  have o1 : ∀ x, x < H.size → (H.push { cls := cA tt, slots := Array.replicate z.toNatClampNeg .null, vm := .none })[x]? = H[x]? := fun x hx9 => by simp [Array.getElem?_push, Nat.ne_of_lt hx9]
  refine h H.size hP.fresh _ locs ls (hP.add (by simp) o1 (Or.inr ⟨tt, rfl, by omega, ?_⟩)) ⟨Nat.le_trans hS.1 (by simp), fun x h8 h9 => (o1 x (Nat.lt_of_lt_of_le h8 hS.1)).trans (hS.2.1 x h8 h9), hS.2.2⟩ hl
  rw [e1]
  refine congrArg (fun f => some (arrV (cA tt) z.toNatClampNeg f)) (funext fun k => ?_)
  rw [mv_ref (t := tt - 3) (by omega) (sN_T.trans (by omega)), sN_R]
  rfl
end Step
