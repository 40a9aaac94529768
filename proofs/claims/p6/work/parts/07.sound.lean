/-! SOUND: what is closed under the steps is closed under the machine's -/
theorem cdf_mem {cl : cl_T} {pc : Nat} {x : Instr × Nat} (h : cdf cl pc = some x) : (pc, x) ∈ cl := by
  unfold cdf at h
  obtain ⟨y, hy, hx⟩ := Option.map_eq_some_iff.mp h
  have h1 := List.mem_of_find?_eq_some hy
  have h2 := List.find?_some hy
  have h3 : y.1 = pc := Nat.eq_of_beq_eq_true h2
  obtain ⟨a, b⟩ := y
  cases h3; cases hx
  exact h1
theorem lk_mem {lv : List (Nat × Value)} {j : Nat} {v : Value} (h : lk lv j = some v) : (j, v) ∈ lv := by
  unfold lk at h
  obtain ⟨y, hy, hx⟩ := Option.map_eq_some_iff.mp h
  have h1 := List.mem_of_find?_eq_some hy
  have h2 := List.find?_some hy
  have h3 : y.1 = j := by simpa using h2
  obtain ⟨a, b⟩ := y
  cases h3; cases hx
  exact h1
theorem tab_mem {α β : Type} {L : List (Nat × Nat × β)} {f : Nat × Nat × β → β} {o i : Nat} {x : β} (h : ((L.find? (fun q => Nat.beq q.1 o && Nat.beq q.2.1 i)).map (fun q => q.2.2)) = some x) : (o, i, x) ∈ L := by
  obtain ⟨y, hy, hx⟩ := Option.map_eq_some_iff.mp h
  have h1 := List.mem_of_find?_eq_some hy
  have h2 := List.find?_some hy
  obtain ⟨a, b, z⟩ := y
  simp only [Bool.and_eq_true] at h2
  have h3 : a = o := Nat.eq_of_beq_eq_true h2.1
  have h4 : b = i := Nat.eq_of_beq_eq_true h2.2
  cases h3; cases h4; cases hx
  exact h1
theorem P_fl_ok {o i ci k : Nat} (h : P_fl o i = some (ci, k)) : okF (o, i, ci, k) := flL_ok _ (tab_mem (α := Nat) (f := fun q => q.2.2) h)
theorem P_mt_ok {o i a b c : Nat} (h : P_mt o i = some (a, b, c)) : okC (o, i, a, b, c) := mtL_ok _ (tab_mem (α := Nat) (f := fun q => q.2.2) h)
theorem P_nw_ok {o i ci : Nat} (h : P_nw o i = some ci) : okN (o, i, ci) := nwL_ok _ (tab_mem (α := Nat) (f := fun q => q.2.2) h)
theorem P_xx_ok {o i a b : Nat} (h : P_xx o i = some (a, b)) : okX (o, i, a, b) := exL_ok _ (tab_mem (α := Nat) (f := fun q => q.2.2) h)
theorem P_xc_ok {o i v : Nat} (h : P_xc o i = some v) : okXC (o, i, v) := xcL_ok _ (tab_mem (α := Nat) (f := fun q => q.2.2) h)
theorem P_kc_ok {o i : Nat} {v : Int32} (h : P_kc o i = some v) : okK (o, i, v) := kcL_ok _ (tab_mem (α := Nat) (f := fun q => q.2.2) h)
theorem P_kl_ok {o i : Nat} {v : Int64} (h : P_kl o i = some v) : okKL (o, i, v) := klL_ok _ (tab_mem (α := Nat) (f := fun q => q.2.2) h)
theorem P_oi_ok {o i : Nat} (h : P_oi o i = true) : okO (o, i) := by
  unfold P_oi at h
  obtain ⟨⟨a, b⟩, h1, h2⟩ := List.any_eq_true.mp h
  simp only [Bool.and_eq_true] at h2
  have h3 : a = o := Nat.eq_of_beq_eq_true h2.1
  have h4 : b = i := Nat.eq_of_beq_eq_true h2.2
  subst h3; subst h4
  exact oiL_ok _ h1
set_option maxRecDepth 100000 in
theorem hnd_ok {q : mm_T} {pc e h : Nat} (hh : hnd q pc e = some h) : ∃ (pre suf : List (Nat × Nat × Nat × Nat)) (x : Nat × Nat × Nat × Nat), q.2.2.2.2.2.1 = pre ++ x :: suf ∧ x.1 ≤ pc ∧ pc < x.2.1 ∧ P_xc q.2.2.2.2.1 x.2.2.2 = some e ∧ x.2.2.1 = h ∧ ∀ z ∈ pre, z.1 ≤ pc → pc < z.2.1 → P_xc q.2.2.2.2.1 z.2.2.2 ≠ some e := by
  unfold hnd at hh
  obtain ⟨x, hx, he⟩ := Option.map_eq_some_iff.mp hh
  obtain ⟨h1, pre, suf, h2, h3⟩ := List.find?_eq_some_iff_append.mp hx
  simp only [Bool.and_eq_true, beq_iff_eq] at h1
  refine ⟨pre, suf, x, h2, Nat.le_of_ble_eq_true h1.1, Nat.le_of_ble_eq_true h1.2.1, h1.2.2, he, fun z hz g1 g2 g3 => ?_⟩
  have h4 := h3 z hz
  rw [Bool.not_eq_true', Bool.and_eq_false_iff, Bool.and_eq_false_iff] at h4
  rcases h4 with h4 | h4 | h4
  · rw [Nat.ble_eq_true_of_le g1] at h4; cases h4
  · rw [show Nat.blt pc z.2.1 = true from Nat.ble_eq_true_of_le g2] at h4; cases h4
  · rw [g3] at h4; simp at h4
theorem wsL_good : ∀ w ∈ wsL_law, goodWord w = true := fun w h => List.all_eq_true.mp (show wsL_law.all goodWord = true by decide +kernel) w h
theorem tg_eq {pc : Nat} {off : Int} (h : 0 ≤ (pc : Int) + off) : (pc : Int) + off = ((tg pc off : Nat) : Int) := (Int.toNat_of_nonneg h).symm
theorem mv_int {M : Mm} {a k : Nat} (h : mT M a = 20) : mv M a k = .int (mI M a k) := by unfold mv; rw [h]; rfl
theorem mv_long {M : Mm} {a k : Nat} (h : mT M a = 21) : mv M a k = .long (mL M a k) := by unfold mv; rw [h]; rfl
theorem mv_byte {M : Mm} {a k : Nat} (h : mT M a = 22) : mv M a k = .int (mI M a k) := by unfold mv; rw [h]; rfl
theorem mv_ref {M : Mm} {a k t : Nat} (ht : t < 4) (h : mT M a = 23 + t) : mv M a k = va_rf (mR M a k) := by
  unfold mv; rw [h]
  match t, ht with
  | 0, _ => rfl
  | 1, _ => rfl
  | 2, _ => rfl
  | 3, _ => rfl
theorem mv_obj {M : Mm} {a k ci : Nat} (hc : ci < 13) (h : mT M a = ci + 1) : mv M a k = wv (kt (P_ty ci k)) M a k := by
  unfold mv ek; rw [h, if_neg (by omega)]; rfl
theorem Rp.obj {D : va_G} {cA : Nat → ClassId} {B : Nat} {M : Mm} {H : Heap} (h : Rp D cA B M H) {a ci : Nat} (ht : mT M a = ci + 1) (hc : ci < 13) : ∃ r, vwCl[ci]? = some r ∧ t_OB a (D.1 ci) r.2.2 (D.2 ci) H (mv M a) ∧ B ≤ a ∧ a < H.size := by
  obtain ⟨h1, h2, h3⟩ := h.2 a (by omega)
  rcases h3 with ⟨ci', r, e1, e2, e3, e4⟩ | ⟨t, e1, -⟩
  · have : ci' = ci := by omega
    subst this
    exact ⟨r, e3, e4, h1, h2⟩
  · omega
theorem Rp.arr {D : va_G} {cA : Nat → ClassId} {B : Nat} {M : Mm} {H : Heap} (h : Rp D cA B M H) {a t : Nat} (ht : mT M a = 20 + t) : t < 7 ∧ H[a]? = some (arrV (cA t) (mN M a) (mv M a)) ∧ B ≤ a ∧ a < H.size := by
  obtain ⟨h1, h2, h3⟩ := h.2 a (by omega)
  rcases h3 with ⟨ci', r, e1, e2, -⟩ | ⟨t', e1, e2, e3⟩
  · omega
  · have : t' = t := by omega
    subst this
    exact ⟨e2, e3, h1, h2⟩
theorem Rp.fresh {D : va_G} {cA : Nat → ClassId} {B : Nat} {M : Mm} {H : Heap} (h : Rp D cA B M H) : mT M H.size = 0 := by
  rcases Nat.eq_zero_or_pos (mT M H.size) with e | e
  · exact e
  · exact absurd (h.2 H.size (by omega)).2.1 (by omega)
theorem Rp.upd {D : va_G} {cA : Nat → ClassId} {B : Nat} {M M' : Mm} {H H' : Heap} {a : Nat} (h : Rp D cA B M H) (hT : mT M' = mT M) (hN : mN M' = mN M) (hoff : ∀ b, b ≠ a → mv M' b = mv M b) (hz : H'.size = H.size) (ho : ∀ b, b ≠ a → H'[b]? = H[b]?)
    (hat : mT M a ≠ 0 → ((∃ ci r, mT M' a = ci + 1 ∧ ci < 13 ∧ vwCl[ci]? = some r ∧ t_OB a (D.1 ci) r.2.2 (D.2 ci) H' (mv M' a)) ∨ (∃ t, mT M' a = 20 + t ∧ t < 7 ∧ H'[a]? = some (arrV (cA t) (mN M' a) (mv M' a))))) : Rp D cA B M' H' := by
  refine ⟨by rw [hz]; exact h.1, fun b hb => ?_⟩
  rw [hT] at hb
  obtain ⟨h1, h2, h3⟩ := h.2 b hb
  refine ⟨h1, by rw [hz]; exact h2, ?_⟩
  by_cases e : b = a
  · subst e; exact hat hb
  · rw [hT, hN, hoff b e]
    rcases h3 with ⟨ci, r, e1, e2, e3, e4⟩ | ⟨t, e1, e2, e3⟩
    · exact Or.inl ⟨ci, r, e1, e2, e3, e4.kept (ho b e)⟩
    · exact Or.inr ⟨t, e1, e2, by rw [ho b e]; exact e3⟩
theorem u2_ne {α : Type} {f : Nat → Nat → α} {a k b : Nat} {x : α} (h : b ≠ a) : u2 f a k x b = f b := by funext j; simp [u2, h]
theorem mv_sI_ne {M : Mm} {a k b : Nat} {x : Int32} (h : b ≠ a) : mv (sI M a k x) b = mv M b := by
  funext j; unfold mv wv sI; simp only [mT, mI, mL, mR, u2_ne h]
theorem mv_sL_ne {M : Mm} {a k b : Nat} {x : Int64} (h : b ≠ a) : mv (sL M a k x) b = mv M b := by
  funext j; unfold mv wv sL; simp only [mT, mI, mL, mR, u2_ne h]
theorem mv_sR_ne {M : Mm} {a k b : Nat} {x : Option Nat} (h : b ≠ a) : mv (sR M a k x) b = mv M b := by
  funext j; unfold mv wv sR; simp only [mT, mI, mL, mR, u2_ne h]
theorem mv_sI_at {M : Mm} {a k : Nat} {x : Int32} (he : ek (mT M a) k = 0) : mv (sI M a k x) a = updV (mv M a) k (.int x) := by
  funext j
  by_cases e : j = k
  · subst e
    simp only [updV, if_true]
    show wv (ek (mT M a) j) _ a j = _
    rw [he]
    simp [wv, sI, u2, mI]
  · simp [mv, wv, sI, u2, updV, e, mT, mI, mL, mR]
theorem mv_sL_at {M : Mm} {a k : Nat} {x : Int64} (he : ek (mT M a) k = 1) : mv (sL M a k x) a = updV (mv M a) k (.long x) := by
  funext j
  by_cases e : j = k
  · subst e
    simp only [updV, if_true]
    show wv (ek (mT M a) j) _ a j = _
    rw [he]
    simp [wv, sL, u2, mL]
  · simp [mv, wv, sL, u2, updV, e, mT, mI, mL, mR]
theorem mv_sR_at {M : Mm} {a k : Nat} {x : Option Nat} (he : ek (mT M a) k = 2) : mv (sR M a k x) a = updV (mv M a) k (va_rf x) := by
  funext j
  by_cases e : j = k
  · subst e
    simp only [updV, if_true]
    show wv (ek (mT M a) j) _ a j = _
    rw [he]
    simp [wv, sR, u2, mR]
  · simp [mv, wv, sR, u2, updV, e, mT, mI, mL, mR]
theorem Rp.add {D : va_G} {cA : Nat → ClassId} {B : Nat} {M : Mm} {H H' : Heap} {t n : Nat} (h : Rp D cA B M H) (hz : H'.size = H.size + 1) (ho : ∀ b, b < H.size → H'[b]? = H[b]?)
    (hat : (∃ ci r, t = ci + 1 ∧ ci < 13 ∧ vwCl[ci]? = some r ∧ t_OB H.size (D.1 ci) r.2.2 (D.2 ci) H' (mv (sN M H.size t n) H.size)) ∨ (∃ t', t = 20 + t' ∧ t' < 7 ∧ H'[H.size]? = some (arrV (cA t') n (mv (sN M H.size t n) H.size)))) : Rp D cA B (sN M H.size t n) H' := by
  refine ⟨by rw [hz]; exact Nat.le_succ_of_le h.1, fun b hb => ?_⟩
  by_cases e : b = H.size
  · subst e
    refine ⟨h.1, by omega, ?_⟩
    simpa [sN, u1, mT, mN] using hat
  · have hb' : mT M b ≠ 0 := by simpa [sN, u1, e, mT, mN] using hb
    obtain ⟨h1, h2, h3⟩ := h.2 b hb'
    have hm : mv (sN M H.size t n) b = mv M b := by funext j; unfold mv wv sN; simp [u1, e, mT, mI, mL, mR]
    refine ⟨h1, by omega, ?_⟩
    rw [hm]
    rcases h3 with ⟨ci, r, e1, e2, e3, e4⟩ | ⟨t', e1, e2, e3⟩
    · exact Or.inl ⟨ci, r, by simpa [sN, u1, e, mT, mN] using e1, e2, e3, e4.kept (ho b h2)⟩
    · exact Or.inr ⟨t', by simpa [sN, u1, e, mT, mN] using e1, e2, by rw [ho b h2]; simpa [sN, u1, e, mT, mN] using e3⟩
theorem castable_moved {a b : String} {u U : State} (hvm : u.vm.Alike U.vm) (h : va_Nw (.castable a b) u) : va_Nw (.castable a b) U := va_tabs rfl (rfl : (u.setVm U.vm).vm = U.vm) (by rw [Cond.castable_setVm hvm]; exact h)
theorem declares_moved {x : MethodName} {u U : State} (hvm : u.vm.Alike U.vm) (h : va_Nw (.declares x) u) : va_Nw (.declares x) U := va_tabs rfl (rfl : (u.setVm U.vm).vm = U.vm) (by rw [Cond.declares_setVm hvm]; exact h)
theorem va_AOA.moved {ty : FieldType} {u U : State} (hvm : u.vm.Alike U.vm) (h : va_AOA ty u) : va_AOA ty U := by
  have h0 : (Cond.arrayOver (.array ty)).holds #[] u none u [] = true := h
  simp only [Cond.holds, Cond.value, beq_iff_eq] at h0
  cases hc : u.vm.findClass (FieldType.array ty).toString with
  | none => simp [hc] at h0
  | some comp =>
    simp only [hc, Option.bind_some, Option.bind_eq_some_iff, Option.map_eq_some_iff] at h0
    obtain ⟨c, hi, k, hk, hb⟩ := h0
    obtain ⟨k', hk', he⟩ := hvm.2.2 _ _ hk
    have e1 := va_idx_bare U.vm comp
    have e2 := va_idx_bare u.vm comp
    have e3 : U.vm.bare = u.vm.bare := by first | exact hvm.bare_eq | exact hvm.bare_eq.symm
    rw [e3] at e1
    have hi' := e1.symm.trans (e2.trans hi)
    have f1 : U.vm.findClass (FieldType.array ty).toString = some comp := by rw [hvm.findClass]; exact hc
    have hkind : k'.kind = k.kind := by rw [he]
    have hb' : (match k'.kind with | .array _ ty9 => decide (ty9 = FieldType.array ty) && decide (U.vm.findClass ("[" ++ (FieldType.array ty).toString) = some c) | _ => false) = true := by
      rw [hkind, hvm.findClass]; exact hb
    unfold va_AOA Cond.before Cond.holds
    simp only [Cond.value]
    rw [f1, Option.bind_some]
    refine (congrArg (fun o : Option Nat => (o.bind (fun c => (U.vm.classes[c]?).map fun (k : Class) => match k.kind with | .array _ ty9 => decide (ty9 = FieldType.array ty) && decide (U.vm.findClass ("[" ++ (FieldType.array ty).toString) = some c) | _ => false) == some true)) hi').trans ?_
    show ((U.vm.classes[c]?).map (fun (k : Class) => match k.kind with | .array _ ty9 => decide (ty9 = FieldType.array ty) && decide (U.vm.findClass ("[" ++ (FieldType.array ty).toString) = some c) | _ => false) == some true) = true
    rw [hk']
    show (some (match k'.kind with | .array _ ty9 => decide (ty9 = FieldType.array ty) && decide (U.vm.findClass ("[" ++ (FieldType.array ty).toString) = some c) | _ => false) == some true) = true
    rw [hb']
    rfl
theorem KK.go {D : va_G} {cA : Nat → ClassId} {B : Nat} {u U : State} (h : KK D cA B u) (hW : u.WarmedH U.vm) (hk : ∀ a, a < u.heap.size → ¬ B ≤ a → U.heap[a]? = u.heap[a]?) : KK D cA B U := by
  have hvm := hW.alike
  obtain ⟨h1, h2, h3, h4, h45, h5, h6, h7, h8, hn9⟩ := h
  refine ⟨h1.moved hvm, (vx_Zq.moved hvm h2).kept hk, (vx_Zq.moved hvm h3).kept hk, fun e he w hw => ?_, fun e e' h1 h2 h3 => (h45 e e' h1 h2 h3).moved hvm, h5.moved hvm, h6.moved hvm, h7.moved hvm, h8.moved hvm, fun e he => va_Nw.warmM hW (hn9 e he)⟩
  have h9 := h4 e he w hw
  simp only [P_ng, List.mem_cons, List.not_mem_nil, or_false] at hw
  rcases hw with rfl | rfl | rfl | rfl
  · exact declares_moved hvm h9
  · exact declares_moved hvm h9
  · exact declares_moved hvm h9
  · exact castable_moved hvm h9
def QQ (D : va_G) (cA : Nat → ClassId) (B : Nat) (Post : Po) : Array Value → State → Outcome → State → Prop := fun _ st o t => (∃ v M', o = .returned v ∧ Post (.inl v) M' ∧ Rp D cA B M' t.heap) ∧ va_F (fun a => B ≤ a) st t
def XX (D : va_G) (cA : Nat → ClassId) (B : Nat) (Post : Po) : String → State → State → Prop := fun E st t => (∃ e M', E = P_ex e ∧ e < 5 ∧ Post (.inr e) M' ∧ Rp D cA B M' t.heap) ∧ va_F (fun a => B ≤ a) st t
def PP (D : va_G) (cA : Nat → ClassId) (B : Nat) (as : List Value) (M : Mm) : Array Value → State → Prop := va_Pc as (fun U => B ≤ U.heap.size ∧ Rp D cA B M U.heap ∧ KK D cA B U)
def rmD (d mc ms : Nat) : Room := { frames := d + 12, cells := mc, slots := ms, locals := 60 * d + 200 }
def cdW (q : mm_T) : Cond := match q.2.2.2.2.2.1 with
  | [] => Cond.code q.1 q.2.1 q.2.2.1 q.2.2.2.1
  | hh => Cond.codeWith q.1 q.2.1 q.2.2.1 q.2.2.2.1 hh
def wsK (q : mm_T) : List Cond := cdW q :: wsL_law
/-- method k's contract on the machine, at depth d -/
def CT (l : Launch) (D : va_G) (cA : Nat → ClassId) (B d : Nat) (q : mm_T) (as : List Value) (M : Mm) (mc ms : Nat) (Post : Po) : Prop :=
  vx_Met l q.1 (wsK q) (rmD d mc ms) (PP D cA B as M) (QQ D cA B Post) (XX D cA B Post) mc ms (fun a => B ≤ a)
theorem PP.blind {D : va_G} {cA : Nat → ClassId} {B : Nat} {as : List Value} {M : Mm} : FrameBlind (PP D cA B as M) := fun a U g mk h => ⟨h.1, h.2.1, h.2.2.1, h.2.2.2.go (State.WarmedH.refl U) (fun _ _ _ => rfl)⟩
section Sound
variable {p : Program} {l : Launch} {e : Env} {R : Room} {s : State} {m : MethodId} {args : Array Value} {below : List Frame} {meth : Method} {c : Code} {D : va_G} {cA : Nat → ClassId} {B d : Nat} {q : mm_T} {mc ms : Nat} {Q : State → Prop}
def Cx (p : Program) (l : Launch) (R : Room) (s : State) (m : MethodId) (args : Array Value) (meth : Method) (c : Code) (D : va_G) (cA : Nat → ClassId) (B d : Nat) (q : mm_T) (mc ms : Nat) : Prop :=
  (p.tables.exec = Jvm.exec ∧ c.code = q.2.1 ∧ c.maxLocals = q.2.2.1 ∧ s.vm.findClass (P_ow q.2.2.2.2.1) = some m.cls ∧ (∀ w ∈ wsL_law, w.before args s = true)) ∧ KK D cA B s ∧ B ≤ s.heap.size ∧ l.stackTraces = false ∧ meth.locks = false ∧ d + 13 ≤ R.frames ∧ 60 * d + 260 ≤ R.locals ∧ R.cells = mc ∧ R.slots = ms ∧ (q.1.name = "<init>" → meth.name = "<init>") ∧ (∀ z ∈ q.2.2.2.2.2.2, decode q.2.1 z.1 = .ok z.2)
def VV (p : Program) (l : Launch) (e : Env) (R : Room) (s : State) (m : MethodId) (args : Array Value) (below : List Frame) (meth : Method) (c : Code) (D : va_G) (cA : Nat → ClassId) (B : Nat) (q : mm_T) (Q : State → Prop) : V_T := fun pc lv st M ck sk =>
  ∀ (H : Heap) (locs : List Loc) (ls : Array Slot), Rp D cA B M H → va_S (fun a => B ≤ a) s.heap H locs → lv_has ls q.2.2.1 lv → W p l e R s m args below meth c H locs ck sk Q (F0 m pc ls st)
theorem vv_get (X : Cx p l R s m args meth c D cA B d q mc ms) {pc j a : Nat} {lv : List (Nat × Value)} {r : List Value} {M : Mm} {ck sk ci k : Nat} (hd : decode q.2.1 pc = .ok (.getfield j, 3)) (hf : P_fl q.2.2.2.2.1 j = some (ci, k)) (ht : mT M a = ci + 1)
    (h : VV p l e R s m args below meth c D cA B q Q (pc + 3) lv (wv (kt (P_ty ci k)) M a k :: r) M ck sk) : VV p l e R s m args below meth c D cA B q Q pc lv (.ref a :: r) M ck sk := by
  intro H locs ls hP hS hl
  obtain ⟨⟨hx, hb, hml, hown, hts⟩, hKK, -⟩ := X
  obtain ⟨C, T, N, hc, hk, hw⟩ := P_fl_ok hf
  have hci : ci < 13 := by
    have := (List.getElem?_eq_some_iff.mp hc).1
    simpa [vwCl] using this
  obtain ⟨rr, hr, ⟨cell, c1, c2, c3, c4⟩, -, -⟩ := hP.obj ht hci
  cases hc.symm.trans hr
  obtain ⟨hin, hty, hnm, -, hdec⟩ := vwCl_ok ci _ hc
  obtain ⟨hS1, hfc, kC, hkC, hkind⟩ := hKK.1.1 ci _ hc
  obtain ⟨cf, kf, fi, f, hi, hsl⟩ := hS1 k hk
  refine W.getf hx hb hown (hts _ hw) hi (u_facts hfc hkC (u_lays hts hin hk) hi).1 c1 (by rw [c3]; exact fun h => by cases h) (v := mv M a k) ?_ rfl rfl hd ?_
  · rw [hsl]; exact c4 k hk
  · rw [mv_obj hci ht]; exact h H locs ls hP hS hl
theorem vv_put (X : Cx p l R s m args meth c D cA B d q mc ms) {pc j a : Nat} {lv : List (Nat × Value)} {r : List Value} {M : Mm} {ck sk ci k : Nat} {v : Value} (hd : decode q.2.1 pc = .ok (.putfield j, 3)) (hf : P_fl q.2.2.2.2.1 j = some (ci, k)) (ht : mT M a = ci + 1)
    (hfin : q.1.name = "<init>" ∧ q.2.2.2.2.1 = ci ∨ ((vwCl[ci]?).map (fun r => (r.2.1 k).2.2.2)) = some false)
    (h : putc M a k (P_ty ci k) v (fun M' => VV p l e R s m args below meth c D cA B q Q (pc + 3) lv r M' ck sk)) : VV p l e R s m args below meth c D cA B q Q pc lv (v :: .ref a :: r) M ck sk := by
  intro H locs ls hP hS hl
  obtain ⟨⟨hx, hb, hml, hown, hts⟩, hKK, hB, -, -, -, -, -, -, hini, -⟩ := X
  obtain ⟨C, T, N, hc, hk, hw⟩ := P_fl_ok hf
  have hci : ci < 13 := by
    have := (List.getElem?_eq_some_iff.mp hc).1
    simpa [vwCl] using this
  obtain ⟨rr, hr, ⟨cell, c1, c2, c3, c4⟩, hBa, -⟩ := hP.obj ht hci
  cases hc.symm.trans hr
  obtain ⟨hin, hty, hnm, hC, hdec⟩ := vwCl_ok ci _ hc
  have hap := va_apart (own := P_ow q.2.2.2.2.1) hts hin (P_ty ci) hty hnm hKK.1 hc
  obtain ⟨hS1, hfc, kC, hkC, hkind⟩ := hKK.1.1 ci _ hc
  obtain ⟨cf, kf, fi, f, hi, hsl⟩ := hS1 k hk
  have hst := (u_facts hfc hkC (u_lays hts hin hk) hi).1
  have hek : ek (mT M a) k = kt (P_ty ci k) := by unfold ek; rw [ht, if_neg (by omega)]; rfl
  -- the new memory, whatever the value
  have key : ∃ M' : Mm, mT M' = mT M ∧ mN M' = mN M ∧ (∀ b, b ≠ a → mv M' b = mv M b) ∧ mv M' a = updV (mv M a) k v ∧ narrow (P_ty ci k) v = v ∧ fits (P_ty ci k) v = true ∧ VV p l e R s m args below meth c D cA B q Q (pc + 3) lv r M' ck sk := by
    unfold putc at h
    generalize hty9 : P_ty ci k = ty9 at h hek
    cases ty9 with
    | int =>
      obtain ⟨x, rfl, h⟩ := h
      exact ⟨sI M a k x, rfl, rfl, fun b hb => mv_sI_ne hb, mv_sI_at hek, rfl, rfl, h⟩
    | boolean =>
      obtain ⟨x, rfl, hx01, h⟩ := h
      exact ⟨sI M a k x, rfl, rfl, fun b hb => mv_sI_ne hb, mv_sI_at hek, by rcases hx01 with rfl | rfl <;> rfl, by rcases hx01 with rfl | rfl <;> rfl, h⟩
    | long =>
      obtain ⟨x, rfl, h⟩ := h
      exact ⟨sL M a k x, rfl, rfl, fun b hb => mv_sL_ne hb, mv_sL_at hek, rfl, rfl, h⟩
    | object C9 =>
      obtain ⟨x, rfl, h⟩ := h
      exact ⟨sR M a k x, rfl, rfl, fun b hb => mv_sR_ne hb, mv_sR_at hek, by cases x <;> rfl, by cases x <;> rfl, h⟩
    | array t9 =>
      obtain ⟨x, rfl, h⟩ := h
      exact ⟨sR M a k x, rfl, rfl, fun b hb => mv_sR_ne hb, mv_sR_at hek, by cases x <;> rfl, by cases x <;> rfl, h⟩
    | _ => exact h.elim
  obtain ⟨M', g1, g2, g3, g4, hn, hfit, hV⟩ := key
  have fin : ∀ H' : Heap, H'[a]? = some (cell.setSlot f.slot v) → H'.size = H.size → (∀ b, b ≠ a → H'[b]? = H[b]?) → W p l e R s m args below meth c H' (locs ++ [⟨a, f.slot⟩]) ck sk Q (F0 m (pc + 3) ls r) := by
    intro H' e1 e2 e3
    rw [hsl] at e1
    refine hV H' _ ls (hP.upd g1 g2 g3 e2 e3 fun _ => Or.inl ⟨ci, _, by rw [g1]; exact ht, hci, hc, ?_⟩) (hS.put e2 e3 hBa) hl
    rw [g4]
    exact ⟨_, e1, c2, c3, t_set c4 hap hk v⟩
  rcases Bool.eq_false_or_eq_true (T k).2.2.2 with hF | hF
  · have hlay := hts _ (hin _ (u_in_lay hk))
    unfold u_lay at hlay
    rw [if_pos hF] at hlay
    obtain ⟨hini1, hown1⟩ : q.1.name = "<init>" ∧ q.2.2.2.2.1 = ci := by
      rcases hfin with h9 | h9
      · exact h9
      · rw [hc] at h9
        simp only [Option.map_some, Option.some.injEq] at h9
        rw [hF] at h9; cases h9
    have hcf : m.cls = cf := by
      obtain ⟨_, _, c', _, _, _, -, -, hf', -, -, -, hown2, -⟩ := Cond.laysFinal_spec hlay
      have e1 : c' = cf := by have := hi.symm.trans hf'; simp at this; exact this.1.symm
      have e2 : (T k).1 = P_ow q.2.2.2.2.1 := by rw [hown1]; exact (hdec k hk).trans hC
      rw [e2] at hown2
      rw [← e1]; exact Option.some.inj (hown.symm.trans hown2)
    have h6 := u_fits hfc hkC hkind (Or.inr hlay) hi (hty k hk) hn hfit
    exact W.putFinK hx hb hown (hts _ hw) hi hst hcf (hini hini1) (by rw [c2]; exact h6) c1 c3 (by rw [hsl]; exact k2_hasslot (c4 k hk)) rfl rfl hd fin
  · have hlay := hts _ (hin _ (u_in_lay hk))
    unfold u_lay at hlay
    rw [if_neg (by rw [hF]; decide)] at hlay
    have h6 := u_store hfc hkC hkind hlay hi (hty k hk) hn hfit
    exact W.putK hx hb (f := f) ⟨hown, hts _ hw, ⟨_, _, _, hi⟩, hst⟩ (by rw [c2]; exact h6) c1 c3 (by rw [hsl]; exact k2_hasslot (c4 k hk)) rfl rfl hd fin
end Sound
