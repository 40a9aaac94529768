/-! ===== BEGIN words of one list among another's, by their places ===== -/
theorem goodIn_r {big : List Cond} (ws : List Cond) (ps : List Nat) (hp : ws = ps.filterMap (fun i => big[i]?)) (h : ws.all goodWord = true) : GoodIn big ws := by
  intro w hw
  have h1 := List.all_eq_true.mp h w hw
  rw [hp] at hw
  obtain ⟨i, -, hi⟩ := List.mem_filterMap.mp hw
  have hm : w ∈ big := by first | exact List.mem_of_getElem? hi | exact List.getElem?_mem hi
  exact ⟨hm, good_of_word h1⟩
theorem goodIn_app {big a b : List Cond} (ha : GoodIn big a) (hb : GoodIn big b) : GoodIn big (a ++ b) := fun w h => (List.mem_append.mp h).elim (ha w) (hb w)
theorem goodIn_ca {big a b : List Cond} {c : Cond} (ha : GoodIn big (c :: a)) (hb : GoodIn big b) : GoodIn big (c :: (a ++ b)) := fun w h => (List.mem_cons.mp h).elim (fun e => ha w (List.mem_cons.mpr (Or.inl e))) (fun h => (List.mem_append.mp h).elim (fun h => ha w (List.mem_cons.mpr (Or.inr h))) (hb w))
theorem goodIn_sub {big ws : List Cond} (hm : ∀ w ∈ ws, w ∈ big) (h : ws.all goodWord = true) : GoodIn big ws := fun w hw => ⟨hm w hw, good_of_word (List.all_eq_true.mp h w hw)⟩
/-! ===== END ===== -/

/-! ===== BEGIN new T[n][m]: the outer array a place, the inner ones among the pooled ===== -/
/-- f, but v at every address of l -/
def vr_up {α : Type} (f : Nat → α) (l : List Nat) (v : α) : Nat → α := fun a => if a ∈ l then v else f a
theorem vr_up_in {α : Type} {f : Nat → α} {l : List Nat} {v : α} {a : Nat} (h : a ∈ l) : vr_up f l v a = v := if_pos h
theorem vr_up_ne {α : Type} {f : Nat → α} {l : List Nat} {v : α} {a : Nat} (h : a ∉ l) : vr_up f l v a = f a := if_neg h
theorem vr_rows {L l : List Nat} {f : Nat → va_E} {e : va_E} (h : ∀ a, a ∈ l → a ∉ L) : va_pl L f ++ l.map (fun a => (a, e)) = va_pl (L ++ l) (vr_up f l e) := by
  unfold va_pl
  rw [List.map_append]
  congr 1
  · apply List.map_congr_left
    intro a ha
    rw [vr_up_ne (fun q => h a q ha)]
  · apply List.map_congr_left
    intro a ha
    rw [vr_up_in ha]
theorem vr_lay {X rows : va_W} {x : Nat × va_E} {pl : va_W} {D : va_G} {cl : List vw_C} {H : Heap} (hP : va_P D cl (((X ++ pl) ++ [x]) ++ rows) H) : va_P D cl ((X ++ [x]) ++ (pl ++ rows)) H := by
  rw [List.append_assoc (X ++ pl)] at hP
  have h := va_P.swap hP
  rw [← List.append_assoc X] at h
  have h2 := va_P.swap h
  rw [List.append_assoc (X ++ [x])] at h2
  exact h2
theorem vr_layD {X rows : va_W} {x : Nat × va_E} {pl : va_W} {A : Nat → Prop} (hD : va_D A (((X ++ pl) ++ [x]) ++ rows)) : va_D A ((X ++ [x]) ++ (pl ++ rows)) := by
  rw [List.append_assoc (X ++ pl)] at hD
  have h := va_D.swap hD
  rw [← List.append_assoc X] at h
  have h2 := va_D.swap h
  rw [List.append_assoc (X ++ [x])] at h2
  exact h2
theorem vr_outer (c : ClassId) (N h0 : Nat) : ∀ i : Nat, Jvm.Free.Multi.outerC c N h0 i = arrV c N (fun j => va_rf (if j < i then some (h0 + 1 + j) else none))
  | 0 => by
    show ({ cls := c, slots := Array.replicate N .null, vm := .none } : Cell) = _
    rw [arrV_new]
    refine congrArg (arrV c N) (funext fun j => ?_)
    simp [va_rf]
  | i + 1 => by
    show (Jvm.Free.Multi.outerC c N h0 i).setSlot i (.ref (h0 + 1 + i)) = _
    rw [vr_outer c N h0 i, arrV_store]
    refine congrArg (arrV c N) (funext fun j => ?_)
    by_cases e : j = i
    · subst e
      simp [updV, va_rf]
    · by_cases h : j < i
      · simp [updV, e, h, Nat.lt_succ_of_lt h]
      · simp [updV, e, h, show ¬ j < i + 1 by omega]
section VGM
variable {p : Program} {l : Launch} {e : Env} {R : Room} {s : State} {m : MethodId} {args : Array Value} {below : List Frame} {meth : Method} {c : Code} {H : Heap} {locs : List Loc} {cells slots : Nat} {Q : State → Prop}
variable {cc : ByteArray} {pc : Nat} {ls : Array Slot} {rest : List Value} {D : va_G} {cl : List vw_C} {A : Nat → Prop} {a : Nat} {tys : List (ClassId × FieldType)} {ws : va_W} {H0 : Heap}
theorem va_mna {X : va_W} {L : List Nat} {f : Nat → va_E} {cc : ByteArray} (hexec : p.tables.exec = Jvm.exec) (hb : c.code = cc) {own : String} {index : Nat} {ty : FieldType} {cy : ClassId} (hown : s.vm.findClass own = some m.cls) (hclink : (Cond.classLink own index ("[" ++ (FieldType.array ty).toString)).before args s = true) (hover : va_AOA ty s) (harr : (Cond.arrayClass ty).before args s = true) (hcy : s.vm.findClass (FieldType.array ty).toString = some cy)
    (hK : va_K D cl tys s) (hP : va_P D cl (X ++ va_pl L f) H) (hD : va_D A (X ++ va_pl L f)) (hS : va_S A H0 H locs) (hA : ∀ q, H0.size ≤ q → A q) {n k : Int32} {N' K' : Nat} {z : vp_A} (hn : ¬ n < 0) (hk : ¬ k < 0) (hN : n.toNatClampNeg = N') (hM : k.toNatClampNeg = K')
    (hb1 : N' * 4 ≤ 536870912) (hb2 : K' * componentBytes ty ≤ 536870912) (hb3 : K' ≤ 536870912) (hdf : fits ty (defaultValue ty) = true) (hdd : (defaultValue ty).isDefault = true) (hcells : cells + (1 + N') ≤ R.cells) (hslots : slots + (N' + N' * K') ≤ R.slots) (hz : ∀ c : ClassId, Jvm.Free.Multi.innerC c K' (defaultValue ty) = vp_cell c z) (hdg : decode cc pc = .ok (.multianewarray index 2, 4))
    (kk : ∀ (q : Nat) (r : Nat → Nat) (cA : ClassId) (H1 : Heap), (∀ i j : Nat, i < N' → j < N' → r i = r j → i = j) → (∀ i : Nat, i < N' → r i ∉ L) → va_K D cl (tys ++ [(cA, .array ty)]) s →
      va_P D cl ((X ++ [(q, .inl (cA, N', .inr (.inr (.inr (.inr (fun i => if i < N' then some (r i) else none))))))]) ++ va_pl (L ++ (List.range N').map r) (vr_up f ((List.range N').map r) (.inl (cy, z)))) H1 → va_D A ((X ++ [(q, .inl (cA, N', .inr (.inr (.inr (.inr (fun i => if i < N' then some (r i) else none))))))]) ++ va_pl (L ++ (List.range N').map r) (vr_up f ((List.range N').map r) (.inl (cy, z)))) → va_S A H0 H1 locs →
      W p l e R s m args below meth c H1 locs (cells + 1 + N') (slots + N' + N' * K') Q (F0 m (pc + 4) ls (.ref q :: rest))) : W p l e R s m args below meth c H locs cells slots Q (F0 m pc ls (.int k :: .int n :: rest)) := by
  subst hN
  subst hM
  intro T hT Xs
  obtain ⟨vm₁, cA, comp, -, fA, fC, hO, -, X', step⟩ := Xs.multianewarray2F hexec hown hclink (va_AOA.use hover) harr (g := F0 m pc ls (.int k :: .int n :: rest)) rfl (by rw [hb]; exact hdg) rfl hn hk hb1 hb2 hb3 hdf hdd hcells hslots
  have ec : some cy = some comp := hcy.symm.trans fC
  cases ec
  generalize hF : Jvm.Free.Multi.fill (T.setVm vm₁) cA cy n.toNatClampNeg k.toNatClampNeg (defaultValue ty) n.toNatClampNeg = F at X' step
  have hTh : (T.setVm vm₁).heap = H := hT
  obtain ⟨f1, f2, -, -⟩ := Jvm.Free.Multi.fill_facts (T.setVm vm₁) cA cy n.toNatClampNeg k.toNatClampNeg (defaultValue ty) n.toNatClampNeg
  rw [hF, hTh] at f1 f2
  have hold : ∀ x : Nat, x < H.size → F.heap[x]? = H[x]? := fun x hx => by
    have := Jvm.Free.Multi.fill_old (T.setVm vm₁) cA cy n.toNatClampNeg k.toNatClampNeg (defaultValue ty) (a := x) (by rw [hTh]; exact hx) n.toNatClampNeg
    rw [hF, hTh] at this
    exact this
  have hrow : ∀ j : Nat, j < n.toNatClampNeg → F.heap[H.size + 1 + j]? = some (vp_cell cy z) := fun j hj => by
    have := Jvm.Free.Multi.fill_inner (T.setVm vm₁) cA cy n.toNatClampNeg k.toNatClampNeg (defaultValue ty) n.toNatClampNeg j hj
    rw [hF, hTh, hz] at this
    exact this
  have hout : Jvm.Free.Multi.outerC cA n.toNatClampNeg H.size n.toNatClampNeg = vp_cell cA (n.toNatClampNeg, .inr (.inr (.inr (.inr (fun i => if i < n.toNatClampNeg then some (H.size + 1 + i) else none))))) := by
    rw [vp_cell_q]
    exact vr_outer cA n.toNatClampNeg H.size n.toNatClampNeg
  rw [hout] at f2
  have hlt : ∀ a, a ∈ L → a < H.size := fun a ha => by
    obtain ⟨k9, hk9⟩ := va_pl_get (X := X) (f := f) ha
    exact (hP k9 _ hk9).lt
  have hnl : ∀ i : Nat, i < n.toNatClampNeg → H.size + 1 + i ∉ L := fun i _ h => by
    have := hlt _ h
    omega
  have hnm : ∀ a, a ∈ (List.range n.toNatClampNeg).map (fun i => H.size + 1 + i) → a ∉ L := fun a ha h => by
    obtain ⟨i, -, rfl⟩ := List.mem_map.mp ha
    have := hlt _ h
    omega
  have hP0 : va_P D cl (X ++ va_pl L f) F.heap := hP.kept (fun k9 x hx => hold x.1 ((hP k9 x hx).lt))
  have hP1 : va_P D cl ((X ++ va_pl L f) ++ [(H.size, .inl (cA, n.toNatClampNeg, .inr (.inr (.inr (.inr (fun i => if i < n.toNatClampNeg then some (H.size + 1 + i) else none))))))]) F.heap := hP0.app (fun k9 x hx => by
    have h0 : k9 < 1 := (List.getElem?_eq_some_iff.mp hx).1
    rw [show k9 = 0 by omega] at hx
    cases hx
    exact f2)
  have hP2 : va_P D cl (((X ++ va_pl L f) ++ [(H.size, .inl (cA, n.toNatClampNeg, .inr (.inr (.inr (.inr (fun i => if i < n.toNatClampNeg then some (H.size + 1 + i) else none))))))]) ++ ((List.range n.toNatClampNeg).map (fun i => H.size + 1 + i)).map (fun a => (a, .inl (cy, z)))) F.heap := hP1.app (fun k9 x hx => by
    obtain ⟨a, ha, rfl⟩ := List.mem_map.mp (List.mem_of_getElem? hx)
    obtain ⟨i, hi, rfl⟩ := List.mem_map.mp ha
    exact hrow i (List.mem_range.mp hi))
  have hD2 : va_D A (((X ++ va_pl L f) ++ [(H.size, .inl (cA, n.toNatClampNeg, .inr (.inr (.inr (.inr (fun i => if i < n.toNatClampNeg then some (H.size + 1 + i) else none))))))]) ++ ((List.range n.toNatClampNeg).map (fun i => H.size + 1 + i)).map (fun a => (a, .inl (cy, z)))) := by
    have hD1 := hD.push (e := .inl (cA, n.toNatClampNeg, .inr (.inr (.inr (.inr (fun i => if i < n.toNatClampNeg then some (H.size + 1 + i) else none)))))) hP rfl (hA _ hS.1)
    generalize hW1 : (X ++ va_pl L f) ++ [(H.size, .inl (cA, n.toNatClampNeg, .inr (.inr (.inr (.inr (fun i => if i < n.toNatClampNeg then some (H.size + 1 + i) else none))))))] = W1 at hD1 hP1 ⊢
    have hle : ∀ (k9 : Nat) (x : Nat × va_E), W1[k9]? = some x → x.1 ≤ H.size := fun k9 x hx => by
      rw [← hW1] at hx
      by_cases hl : k9 < (X ++ va_pl L f).length
      · rw [List.getElem?_append_left hl] at hx
        exact Nat.le_of_lt ((hP k9 x hx).lt)
      · rw [List.getElem?_append_right (by omega)] at hx
        have h0 : k9 - (X ++ va_pl L f).length < 1 := (List.getElem?_eq_some_iff.mp hx).1
        rw [show k9 - (X ++ va_pl L f).length = 0 by omega] at hx
        cases hx
        exact Nat.le_refl _
    have hr : ∀ (k9 : Nat) (x : Nat × va_E), (((List.range n.toNatClampNeg).map (fun i => H.size + 1 + i)).map (fun a => ((a, .inl (cy, z)) : Nat × va_E)))[k9]? = some x → x.1 = H.size + 1 + k9 := fun k9 x hx => by
      rw [List.getElem?_map, List.getElem?_map] at hx
      by_cases h9 : k9 < n.toNatClampNeg
      · rw [List.getElem?_range h9] at hx
        cases hx
        rfl
      · have hn0 : (List.range n.toNatClampNeg)[k9]? = none := List.getElem?_eq_none (by rw [List.length_range]; omega)
        rw [hn0] at hx
        cases hx
    refine ⟨fun i j x y hi hj hxy => ?_, fun k9 x hx => ?_⟩
    · by_cases h1 : i < W1.length <;> by_cases h2 : j < W1.length
      · rw [List.getElem?_append_left h1] at hi
        rw [List.getElem?_append_left h2] at hj
        exact hD1.1 i j x y hi hj hxy
      · rw [List.getElem?_append_left h1] at hi
        rw [List.getElem?_append_right (by omega)] at hj
        have := hle _ _ hi
        have := hr _ _ hj
        omega
      · rw [List.getElem?_append_right (by omega)] at hi
        rw [List.getElem?_append_left h2] at hj
        have := hle _ _ hj
        have := hr _ _ hi
        omega
      · rw [List.getElem?_append_right (by omega)] at hi hj
        have := hr _ _ hi
        have := hr _ _ hj
        omega
    · by_cases h1 : k9 < W1.length
      · rw [List.getElem?_append_left h1] at hx
        exact hD1.2 k9 x hx
      · rw [List.getElem?_append_right (by omega)] at hx
        have := hr _ _ hx
        exact hA _ (by have := hS.1; omega)
  have hAr : ArrOfT s cA (.array ty) := fun N9 z9 => by
    obtain ⟨-, k9, hk9, cm9, hkk9⟩ := (hO 0 0 0).1
    exact ⟨(fun q hq => by cases hq), k9, hk9, cm9, hkk9⟩
  have hK2 : va_K D cl (tys ++ [(cA, .array ty)]) s := ⟨hK.1, fun k9 x hx => by
    by_cases hl : k9 < tys.length
    · rw [List.getElem?_append_left hl] at hx
      exact hK.2 k9 x hx
    · rw [List.getElem?_append_right (by omega)] at hx
      have h0 : k9 - tys.length < 1 := (List.getElem?_eq_some_iff.mp hx).1
      rw [show k9 - tys.length = 0 by omega] at hx
      cases hx
      exact ⟨hAr, fA⟩⟩
  obtain ⟨t, a1, b1⟩ := kk H.size (fun i => H.size + 1 + i) cA F.heap (fun i j _ _ h => by have h9 : H.size + 1 + i = H.size + 1 + j := h; omega) hnl hK2 (by rw [← vr_rows hnm]; exact vr_lay hP2) (by rw [← vr_rows hnm]; exact vr_layD hD2) ⟨by rw [f1]; have := hS.1; omega, fun x h1 h2 => (hold x (Nat.lt_of_lt_of_le h1 hS.1)).trans (hS.2.1 x h1 h2), hS.2.2⟩ F rfl X'
  refine ⟨t, step t ?_, b1⟩
  have e : T.heap.size = H.size := by rw [hT]
  rw [e]
  exact a1
end VGM
/-! ===== END ===== -/

/-! ===== BEGIN exceptions that leave a method, and their catching by the caller (launches without stack traces) ===== -/
section VXA
/-! The laws vx_back, vx_callV, vx_callS, vx_callSW, vx_throw0, vx_throwS follow proofs of the library, with one case more: JvmDerived/Free/Laws.lean (Back.of_free), Shelf42/LK1.lean (callV, callS), Shelf/KitTraced.lean (throwNew0V, throwNewS). -/
/-- where a method has thrown q: the class by its name, the cell, what was written, the world -/
def vx_T (XC : String → State → State → Prop) (st : State) (q : Addr) (t : State) (mc ms : Nat) (free : Addr → Prop) : Prop :=
  ∃ (E : String) (ce : Cell) (L : List Loc), XC E st t ∧ t.heap[q]? = some ce ∧ ce.vm = .none ∧ st.vm.findClass E = some ce.cls ∧ st.WarmedH t.vm ∧ st.sameButNew ({ t with vm := st.vm } : State) L mc ms ∧ ∀ z ∈ L, free z.base
def vx_Q (Qc : Array Value → State → Outcome → State → Prop) (XC : String → State → State → Prop) (mc ms : Nat) (free : Addr → Prop) : Array Value → State → Outcome → State → Prop := fun a st o t =>
  (Qc a st o t ∧ ∃ L, FrameEnd st o t L mc ms ∧ ∀ q ∈ L, free q.base) ∨ ∃ q, o = .threw q ∧ vx_T XC st q t mc ms free
/-- a callee that returns or throws -/
def vx_Met (l : Launch) (y : MethodName) (ws : List Cond) (rm : Room) (Pc : Array Value → State → Prop) (Qc : Array Value → State → Outcome → State → Prop) (XC : String → State → State → Prop) (mc ms : Nat) (free : Addr → Prop) : Prop :=
  MetFree l y (headSpec ws rm) Pc (fun _ _ _ _ _ => True) (vx_Q Qc XC mc ms free)
def vx_Post (XC : String → State → State → Prop) (mc ms : Nat) (free : Addr → Prop) : Pt → Array Value → Addr → Pt → Prop := fun A a q B =>
  ∃ (g : JFrame) (mk : MethodId) (t : State) (L : List Loc) (E : String) (ce : Cell), B.U.heap = t.heap ∧ B.U.vm = t.vm ∧ XC E (A.U.calling g mk a) t ∧ t.heap[q]? = some ce ∧ ce.vm = .none ∧ A.U.vm.findClass E = some ce.cls ∧ B.locs = A.locs ++ L ∧ (∀ z ∈ L, free z.base) ∧ B.cells = A.cells + mc ∧ B.slots = A.slots + ms
def vx_Back (l : Launch) (R : Room) (p : Program) (e : Env) (below : List Frame) (s : State) (sargs : Array Value) (y : MethodName) (len W9 : Nat)
    (Pre : Pt → Array Value → Prop) (Post : Pt → Array Value → Option Value → Pt → Prop) (PostX : Pt → Array Value → Addr → Pt → Prop) : Prop :=
  ∀ (m : MethodId) (meth : Method) (c : Code) (A : Pt) (g : JFrame) (ig : Instr) (mk : MethodId) (a : Array Value),
    Stand p l e R s m sargs below meth c A.U A.locs A.cells A.slots → g.method = m → g.locals.size = c.maxLocals → decode c.code g.pc = .ok (ig, len) →
    2 * g.monitorRoom + (g.stack.map fun v => v.category).sum ≤ W9 → A.U.methodNamed? y = some mk → Pre A a →
    (∃ (v : Option Value) (B : Pt), Stand p l e R s m sargs below meth c B.U B.locs B.cells B.slots ∧ Post A a v B ∧
      Steps p.tables e below (doInvoke e (A.U.setTop g) [] mk a).1 (B.U.setTop { g with pc := g.pc + len, stack := v.toList ++ g.stack })) ∨
    (∃ (q : Addr) (B : Pt), Stand p l e R s m sargs below meth c B.U B.locs B.cells B.slots ∧ PostX A a q B ∧
      Steps p.tables e below (doInvoke e (A.U.setTop g) [] mk a).1 ((B.U.setTop g).pushFrame (.throwing q)))
section Payer
variable {l : Launch} {R : Room} {p : Program} {e : Env} {below : List Frame} {s : State} {sargs : Array Value} {y : MethodName} {len W9 : Nat}
theorem vx_back {ws : List Cond} {rm : Room} {Pc : Array Value → State → Prop} {Qc : Array Value → State → Outcome → State → Prop} {XC : String → State → State → Prop} {mc ms : Nat} {free : Addr → Prop} {bytes : ByteArray} {maxL : Nat} {ret : Option FieldType}
    (hM : vx_Met l y ws rm Pc Qc XC mc ms free) (hblind : FrameBlind Pc) (hrc : rm.cells = mc) (hrs : rm.slots = ms)
    (hframes : rm.frames + 1 ≤ R.frames) (hlocals : W9 + (maxL + 11) + rm.locals ≤ R.locals)
    (hws : ∀ w ∈ ws, ∀ a' U, s.WarmedH U.vm → w.before a' U = true) (hcode : Cond.code y bytes maxL ret ∈ ws) (hinit : ∀ a' U, s.WarmedH U.vm → (Cond.initialized y.cls).before a' U = true) :
    vx_Back l R p e below s sargs y len W9 (PreOf R mc ms Pc) (PostOf Qc mc ms free) (vx_Post XC mc ms free) := by
  intro m meth c A g ig mk a X hg hsize hdg hW hn hp
  have h1 : (headSpec ws rm).pre.before a A.U = true := atoms_intro fun w hw => hws w hw _ _ X.warmed
  have h2 : (Cond.code y bytes maxL ret).before a A.U = true := hws _ hcode _ _ X.warmed
  have h3 : (Cond.initialized y.cls).before a A.U = true := hinit _ _ X.warmed
  have h4 : A.cells + (headSpec ws rm).room.cells ≤ R.cells := by rw [show (headSpec ws rm).room.cells = mc from hrc]; exact hp.1
  have h5 : A.slots + (headSpec ws rm).room.slots ≤ R.slots := by rw [show (headSpec ws rm).room.slots = ms from hrs]; exact hp.2.1
  have hPc : Pc a (A.U.calling g mk a) := hblind _ _ _ _ hp.2.2
  obtain ⟨U, Ls, c0, s0⟩ := A
  dsimp only [Pt.U, Pt.locs, Pt.cells, Pt.slots] at h1 h2 h3 h4 h5 X hn hPc ⊢
  obtain ⟨methY, cY, hmY, hcY, -, hlY, -, -, -, -⟩ := Cond.code_spec hn h2
  obtain ⟨kY, hkY, -⟩ := className_of_methodNamed hn
  have hinitY : kY.init = .initialized := Cond.initialized_spec (findClass_of_methodNamed hn) hkY h3
  have h : At U g.method c below := by rw [hg]; exact X.here
  have hlocals9 : W9 + (maxL + 11) + (headSpec ws rm).room.locals ≤ R.locals := hlocals
  have happ : (headSpec ws rm).appliesLoose y e.platform (U.calling g mk a) = true :=
    Spec.appliesLoose_calling (g := g) h hdg hn hkY hinitY
      (X.room_calling (g := g) (R' := (headSpec ws rm).room) hsize hmY hcY hframes (by rw [hlY]; omega) h4 h5) h1
  obtain ⟨mid, hmid⟩ := h.above
  have hfr : (U.setTop g).frames = (.java g :: mid) ++ below := by rw [State.frames_setTop' g h.top, hmid]; rfl
  obtain ⟨o, s₂, hsteps, -, hend, hq⟩ := Steps.callFree hM p X.admits X.cas X.clock (acts := []) hfr happ hPc trivial
  have hq' : vx_Q Qc XC mc ms free a (U.calling g mk a) o s₂ := hq
  rw [State.frames_setTop' g h.top] at hend
  obtain ⟨g₀, hg0⟩ := Option.isSome_iff_exists.mp h.top
  obtain ⟨r, hr⟩ := State.topJava?_eq_some.mp hg0
  have hr' : (({ U with heap := s₂.heap, slotsUsed := s₂.slotsUsed } : State).setVm s₂.vm).frames = .java g₀ :: r := hr
  rcases hq' with ⟨hqc, L, hfe, hL⟩ | ⟨q, rfl, E, ce, L, hx, hce, hcv, hcl, hW₂, hsm, hL⟩
  · obtain ⟨⟨v, rfl⟩, hW₂, e2, q2, q3, q4, q5, q6⟩ := id hfe
    have e3 : s₂ = ({ (U.calling g mk a).setFrames s₂.frames with heap := s₂.heap, slotsUsed := s₂.slotsUsed } : State).setVm s₂.vm := by
      have : s₂ = ({ s₂ with vm := (U.calling g mk a).vm } : State).setVm s₂.vm := rfl
      rw [e2] at this
      exact this
    obtain ⟨c₂, i₂, len₂, hc₂, hd₂, hf₂⟩ := hend
    have hW' : U.WarmedH s₂.vm := hW₂
    have hcc : c₂ = c := by
      have h1 : s₂.code? g.method = U.code? g.method := by
        rw [State.code?_eq, State.code?_eq, hW'.alike.method?]
      exact Option.some.inj (hc₂.symm.trans (h1.trans h.code))
    subst hcc
    have hlen : len₂ = len := by rw [hdg] at hd₂; cases hd₂; rfl
    subst hlen
    have hs₂ : s₂ = (({ U with heap := s₂.heap, slotsUsed := s₂.slotsUsed } : State).setVm s₂.vm).setTop { g with pc := g.pc + len₂, stack := v.toList ++ g.stack } := by
      refine e3.trans ?_
      rw [hf₂, State.calling_eq h.top, State.setFrames_setFrames, State.setTop_of_frames _ hr', hr]
      rfl
    have hsame : U.sameButNew ({ U with heap := s₂.heap, slotsUsed := s₂.slotsUsed } : State) L mc ms := by
      refine ⟨?_, q2, q3, q4, q5, q6⟩
      obtain ⟨t, ht, -⟩ := State.frames_cons hr
      show ({ U with heap := s₂.heap, slotsUsed := s₂.slotsUsed } : State) = { U.setFrames U.frames with heap := s₂.heap, slotsUsed := s₂.slotsUsed }
      rw [State.setFrames_self ht]
    subst hg
    refine Or.inl ⟨v, ⟨(({ U with heap := s₂.heap, slotsUsed := s₂.slotsUsed } : State).setVm s₂.vm), Ls ++ L, c0 + mc, s0 + ms⟩,
      ⟨X.admits, X.cas, X.clock, X.frames, X.room, X.hears, X.method, X.code, (X.here.setHeapUsed s₂.heap s₂.slotsUsed).setVm hW'.alike, X.tail, State.WarmedH.trans X.warmed hW', X.limits, X.bytes, X.same.trans (hsame.setVm s.vm)⟩,
      ⟨g, mk, s₂, L, rfl, rfl, hqc, rfl, hL, rfl, rfl⟩, ?_⟩
    show Steps p.tables e below _ ((({ U with heap := s₂.heap, slotsUsed := s₂.slotsUsed } : State).setVm s₂.vm).setTop { g with pc := g.pc + len₂, stack := v.toList ++ g.stack })
    rw [← hs₂]
    exact hsteps
  · obtain ⟨e2, q2, q3, q4, q5, q6⟩ := id hsm
    have e3 : s₂ = ({ (U.calling g mk a).setFrames s₂.frames with heap := s₂.heap, slotsUsed := s₂.slotsUsed } : State).setVm s₂.vm := by
      have : s₂ = ({ s₂ with vm := (U.calling g mk a).vm } : State).setVm s₂.vm := rfl
      rw [e2] at this
      exact this
    have hf₂ : s₂.frames = .throwing q :: .java g :: U.frames.tail := hend
    have hW' : U.WarmedH s₂.vm := hW₂
    have hs₂ : s₂ = ((({ U with heap := s₂.heap, slotsUsed := s₂.slotsUsed } : State).setVm s₂.vm).setTop g).pushFrame (.throwing q) := by
      refine e3.trans ?_
      rw [hf₂, State.calling_eq h.top, State.setFrames_setFrames, State.pushFrame, State.frames_setTop _ hr', State.setTop_of_frames _ hr', State.setFrames_setFrames, hr]
      rfl
    have hsame : U.sameButNew ({ U with heap := s₂.heap, slotsUsed := s₂.slotsUsed } : State) L mc ms := by
      refine ⟨?_, q2, q3, q4, q5, q6⟩
      obtain ⟨t, ht, -⟩ := State.frames_cons hr
      show ({ U with heap := s₂.heap, slotsUsed := s₂.slotsUsed } : State) = { U.setFrames U.frames with heap := s₂.heap, slotsUsed := s₂.slotsUsed }
      rw [State.setFrames_self ht]
    subst hg
    refine Or.inr ⟨q, ⟨(({ U with heap := s₂.heap, slotsUsed := s₂.slotsUsed } : State).setVm s₂.vm), Ls ++ L, c0 + mc, s0 + ms⟩,
      ⟨X.admits, X.cas, X.clock, X.frames, X.room, X.hears, X.method, X.code, (X.here.setHeapUsed s₂.heap s₂.slotsUsed).setVm hW'.alike, X.tail, State.WarmedH.trans X.warmed hW', X.limits, X.bytes, X.same.trans (hsame.setVm s.vm)⟩,
      ⟨g, mk, s₂, L, E, ce, rfl, rfl, hx, hce, hcv, hcl, rfl, hL, rfl, rfl⟩, ?_⟩
    show Steps p.tables e below _ (((({ U with heap := s₂.heap, slotsUsed := s₂.slotsUsed } : State).setVm s₂.vm).setTop g).pushFrame (.throwing q))
    rw [← hs₂]
    exact hsteps
end Payer
section Calls
variable {p : Program} {l : Launch} {e : Env} {R : Room} {s : State} {m : MethodId} {args : Array Value} {below : List Frame} {meth : Method} {c : Code} {T : State} {locs : List Loc} {cells slots : Nat}
theorem vx_callV (X : Stand p l e R s m args below meth c T locs cells slots) (hexec : p.tables.exec = Jvm.exec) {own C : String} {index : Nat} {y : MethodName} {bytes : ByteArray} {maxL : Nat} {ret : Option FieldType}
    (hown : s.vm.findClass own = some m.cls) (hlink : (Cond.methodLink own index y).before args s = true) (hinst : (Cond.instanceMethod y).before args s = true) (hsel : (Cond.selects C y y).before args s = true)
    (hcode : (Cond.code y bytes maxL ret).before args s = true) (hy : y.cls ≠ "java/lang/invoke/MethodHandle" ∧ y.cls ≠ "java/lang/invoke/VarHandle")
    {W9 : Nat} {Pre : Pt → Array Value → Prop} {Post : Pt → Array Value → Option Value → Pt → Prop} {PostX : Pt → Array Value → Addr → Pt → Prop} (hK : vx_Back l R p e below s args y 3 W9 Pre Post PostX)
    {b : Addr} {cellB : Cell} (hcell : T.heap[b]? = some cellB) (hobj : cellB.vm.isStatics = false) (hcls : s.vm.findClass C = some cellB.cls)
    {g : JFrame} (hg : g.method = m) (hsize : g.locals.size = c.maxLocals) {argsL rest : List Value} (hlen : ∀ sig, parseMethodDescriptor y.desc = some sig → argsL.length = sig.parameters.length)
    (hstack : g.stack = argsL.reverse ++ .ref b :: rest) (hW : 2 * g.monitorRoom + (rest.map fun v => v.category).sum ≤ W9) (hdg : decode c.code g.pc = .ok (.invokevirtual index, 3))
    (hpre : ∀ vm₁, s.WarmedH vm₁ → Pre ⟨T.setVm vm₁, locs, cells, slots⟩ (Value.ref b :: argsL).toArray) :
    (∃ (v : Option Value) (vm₁ : Vm) (B : Pt), s.WarmedH vm₁ ∧ Stand p l e R s m args below meth c B.U B.locs B.cells B.slots ∧ Post ⟨T.setVm vm₁, locs, cells, slots⟩ (Value.ref b :: argsL).toArray v B ∧
      ∀ target, Steps p.tables e below (B.U.setTop { g with pc := g.pc + 3, stack := v.toList ++ rest }) target → Steps p.tables e below (T.setTop g) target) ∨
    (∃ (q : Addr) (vm₁ : Vm) (B : Pt), s.WarmedH vm₁ ∧ Stand p l e R s m args below meth c B.U B.locs B.cells B.slots ∧ PostX ⟨T.setVm vm₁, locs, cells, slots⟩ (Value.ref b :: argsL).toArray q B ∧
      Steps p.tables e below (T.setTop g) ((B.U.setTop { g with stack := rest }).pushFrame (.throwing q))) := by
  obtain ⟨mk, methM, hnamed, hmethM, hstM, habM⟩ := Cond.instanceMethod_spec hinst
  obtain ⟨methM', cM, hmethM', -, -, -, -, -, -, hsigM⟩ := Cond.code_spec hnamed hcode
  cases hmethM.symm.trans hmethM'
  obtain ⟨c2, r2, m2, q1, q2, q3, q4, kP, hkP, hkPi⟩ := Cond.selects_spec hsel
  cases hcls.symm.trans q1
  cases (State.methodFound?_of_named hnamed hy).symm.trans q2
  cases hnamed.symm.trans q3
  have hselP : selectMethod e.platform s.vm cellB.cls mk = .method mk := by rw [Launch.admits_selectMethod X.admits]; exact q4
  obtain ⟨vm₁, X₁, hstep₁⟩ := X.invokevirtual hexec hown hlink hnamed hmethM hstM hkP hkPi hy (a := b) (cell := cellB) hcell
    (fun z h => by rw [h] at hobj; cases hobj) hselP hmethM habM hkP hkPi (g := g) hg (argsL := argsL) (rest := rest) (hlen _ hsigM) hstack hdg
  rcases hK m meth c ⟨T.setVm vm₁, locs, cells, slots⟩ { g with stack := rest } (.invokevirtual index) mk (Value.ref b :: argsL).toArray X₁ hg hsize hdg hW (X₁.named hnamed) (hpre vm₁ X₁.warmed) with ⟨v, B, X', hpost, hsteps⟩ | ⟨q, B, X', hpost, hsteps⟩
  · exact Or.inl ⟨v, vm₁, B, X₁.warmed, X', hpost, fun target h => hstep₁ _ fun acts => by rw [doInvoke_state]; exact hsteps.trans h⟩
  · exact Or.inr ⟨q, vm₁, B, X₁.warmed, X', hpost, hstep₁ _ fun acts => by rw [doInvoke_state]; exact hsteps⟩
theorem vx_callS (X : Stand p l e R s m args below meth c T locs cells slots) (hexec : p.tables.exec = Jvm.exec) {own : String} {index : Nat} {y : MethodName} {bytes : ByteArray} {maxL : Nat} {ret : Option FieldType}
    (hown : s.vm.findClass own = some m.cls) (hlink : (Cond.methodLink own index y).before args s = true) (hstat : (Cond.static y).before args s = true) (hinit : (Cond.initialized y.cls).before args s = true)
    (hcode : (Cond.code y bytes maxL ret).before args s = true) (hy : y.cls ≠ "java/lang/invoke/MethodHandle" ∧ y.cls ≠ "java/lang/invoke/VarHandle")
    {W9 : Nat} {Pre : Pt → Array Value → Prop} {Post : Pt → Array Value → Option Value → Pt → Prop} {PostX : Pt → Array Value → Addr → Pt → Prop} (hK : vx_Back l R p e below s args y 3 W9 Pre Post PostX)
    {g : JFrame} (hg : g.method = m) (hsize : g.locals.size = c.maxLocals) {argsL rest : List Value} (hlen : ∀ sig, parseMethodDescriptor y.desc = some sig → argsL.length = sig.parameters.length)
    (hstack : g.stack = argsL.reverse ++ rest) (hW : 2 * g.monitorRoom + (rest.map fun v => v.category).sum ≤ W9) (hdg : decode c.code g.pc = .ok (.invokestatic index, 3))
    (hpre : ∀ vm₁, s.WarmedH vm₁ → Pre ⟨T.setVm vm₁, locs, cells, slots⟩ argsL.toArray) :
    (∃ (v : Option Value) (vm₁ : Vm) (B : Pt), s.WarmedH vm₁ ∧ Stand p l e R s m args below meth c B.U B.locs B.cells B.slots ∧ Post ⟨T.setVm vm₁, locs, cells, slots⟩ argsL.toArray v B ∧
      ∀ target, Steps p.tables e below (B.U.setTop { g with pc := g.pc + 3, stack := v.toList ++ rest }) target → Steps p.tables e below (T.setTop g) target) ∨
    (∃ (q : Addr) (vm₁ : Vm) (B : Pt), s.WarmedH vm₁ ∧ Stand p l e R s m args below meth c B.U B.locs B.cells B.slots ∧ PostX ⟨T.setVm vm₁, locs, cells, slots⟩ argsL.toArray q B ∧
      Steps p.tables e below (T.setTop g) ((B.U.setTop { g with stack := rest }).pushFrame (.throwing q))) := by
  obtain ⟨mk, hnamed⟩ := Cond.code_named hcode
  obtain ⟨methM, cM, hmethM, -, -, -, -, -, -, hsigM⟩ := Cond.code_spec hnamed hcode
  have hstatic : methM.isStatic = true := Cond.static_spec hnamed hmethM hstat
  obtain ⟨kP, hkP, -⟩ := className_of_methodNamed hnamed
  have hinitP : kP.init = .initialized := Cond.initialized_spec (findClass_of_methodNamed hnamed) hkP hinit
  obtain ⟨vm₁, X₁, hstep₁⟩ := X.invokestatic hexec hown hlink hnamed hmethM hstatic hkP hinitP hy (g := g) hg (argsL := argsL) (rest := rest) (hlen _ hsigM) hstack hdg
  rcases hK m meth c ⟨T.setVm vm₁, locs, cells, slots⟩ { g with stack := rest } (.invokestatic index) mk argsL.toArray X₁ hg hsize hdg hW (X₁.named hnamed) (hpre vm₁ X₁.warmed) with ⟨v, B, X', hpost, hsteps⟩ | ⟨q, B, X', hpost, hsteps⟩
  · exact Or.inl ⟨v, vm₁, B, X₁.warmed, X', hpost, fun target h => hstep₁ _ fun acts => by rw [doInvoke_state]; exact hsteps.trans h⟩
  · exact Or.inr ⟨q, vm₁, B, X₁.warmed, X', hpost, hstep₁ _ fun acts => by rw [doInvoke_state]; exact hsteps⟩
end Calls
theorem vx_cls {s : State} {T : State} {vm₁ : Vm} {E : String} {k : ClassId} (hW : s.WarmedH vm₁) (h : (T.setVm vm₁).vm.findClass E = some k) : s.vm.findClass E = some k := by
  have h1 : vm₁.findClass E = some k := h
  rw [hW.alike.findClass] at h1
  exact h1
/-- the method's frame g, with q thrown over it -/
def vx_W (p : Program) (l : Launch) (e : Env) (R : Room) (s : State) (m : MethodId) (args : Array Value) (below : List Frame) (meth : Method) (c : Code) (H : Heap) (locs : List Loc) (cells slots : Nat) (Q : State → Prop) (g : JFrame) (q : Addr) : Prop :=
  ∀ T : State, T.heap = H → Stand p l e R s m args below meth c T locs cells slots → ∃ t, Steps p.tables e below ((T.setTop g).pushFrame (.throwing q)) t ∧ Q t
def vx_Run (p : Program) (l : Launch) (e : Env) (R : Room) (s : State) (m : MethodId) (args : Array Value) (below : List Frame) (meth : Method) (c : Code) (H : Heap) (locs : List Loc) (cells slots mc ms : Nat) (g : JFrame) (rest : List Value) (Qa : State → Outcome → State → Prop) (XC : String → State → State → Prop) (free : Addr → Prop) : Prop :=
  ∀ T : State, T.heap = H → Stand p l e R s m args below meth c T locs cells slots →
    (∃ (v : Option Value) (st₀ t T' : State) (L : List Loc), st₀.heap = H ∧ Stand p l e R s m args below meth c T' (locs ++ L) (cells + mc) (slots + ms) ∧ (∀ q ∈ L, free q.base) ∧ T'.heap = t.heap ∧ T'.vm = t.vm ∧ Qa st₀ (.returned v) t ∧
      Goes p e below T g T' { g with pc := g.pc + 3, stack := v.toList ++ rest }) ∨
    (∃ (q : Addr) (st₀ t T' : State) (L : List Loc) (E : String) (ce : Cell), st₀.heap = H ∧ Stand p l e R s m args below meth c T' (locs ++ L) (cells + mc) (slots + ms) ∧ (∀ z ∈ L, free z.base) ∧ T'.heap = t.heap ∧ T'.vm = t.vm ∧ XC E st₀ t ∧ t.heap[q]? = some ce ∧ ce.vm = .none ∧ s.vm.findClass E = some ce.cls ∧
      Steps p.tables e below (T.setTop g) ((T'.setTop { g with stack := rest }).pushFrame (.throwing q)))
def vx_X {S : Type} (px : S → Prop) (B : String → S → State → Prop) (A : Nat → Prop) : String → State → State → Prop := fun E st t => ∃ u : S, px u ∧ B E u t ∧ va_F A st t
section Runs
variable {p : Program} {l : Launch} {e : Env} {R : Room} {s : State} {m : MethodId} {args : Array Value} {below : List Frame} {meth : Method} {c : Code} {H : Heap} {locs : List Loc} {cells slots : Nat}
variable {y : MethodName} {bytes cc : ByteArray} {maxL nL mc ms n index : Nat} {ret : Option FieldType} {ws : List Cond} {rm : Room} {Pc : Array Value → State → Prop} {Qc : Array Value → State → Outcome → State → Prop} {XC : String → State → State → Prop} {free : Addr → Prop} {Ts : List Cond} {own C : String} {b : Addr} {As rest : List Value} {g : JFrame}
theorem vx_callBack (cb : CallB R s args own index y bytes maxL ret ws rm mc ms n) (hM : vx_Met l y ws rm Pc Qc XC mc ms free) (hbl : FrameBlind Pc) : vx_Back l R p e below s args y 3 8 (PreOf R mc ms Pc) (PostOf Qc mc ms free) (vx_Post XC mc ms free) := by
  obtain ⟨hrc, hrs, hfr, hlo, hws, hcw, -, hini, -⟩ := cb
  exact vx_back (bytes := bytes) (maxL := maxL) (ret := ret) hM hbl hrc hrs hfr hlo hws hcw (fun a' U hW => word_at hW (Or.inl (by first | rfl | simp [Cond.onTables, Cond.keeps, Cond.steady])) hini)
theorem vx_runV (S : CallFix p m c cc nL s args Ts own) (hM : vx_Met l y ws rm Pc Qc XC mc ms free) (cw : CallW R s args own C index y bytes maxL ret ws rm mc ms n) (hp : PreV s H C b Pc As)
    (hg : g.method = m) (hn : As.length = n) (hsize : g.locals.size = nL) (hstack : g.stack = As.reverse ++ .ref b :: rest) (hW : 2 * g.monitorRoom + (rest.map fun v => v.category).sum ≤ 8) (hdg : decode cc g.pc = .ok (.invokevirtual index, 3)) (hf : cells + mc ≤ R.cells ∧ slots + ms ≤ R.slots) :
    vx_Run p l e R s m args below meth c H locs cells slots mc ms g rest (Qc (Value.ref b :: As).toArray) XC free := by
  have hK : vx_Back l R p e below s args y 3 8 (PreOf R mc ms Pc) (PostOf Qc mc ms free) (vx_Post XC mc ms free) := vx_callBack cw.1 hM hp.1
  obtain ⟨⟨-, -, -, -, -, -, hcode, -, hy, hlen, hl⟩, hin, hse⟩ := cw
  obtain ⟨hx, hb, hml, ho, -⟩ := S
  obtain ⟨-, ⟨cellB, hcB, hoB, hclB⟩, hPc⟩ := hp
  intro T hT X
  rcases vx_callV X hx (C := C) (bytes := bytes) (maxL := maxL) (ret := ret) ho hl hin hse hcode hy hK (by rw [hT]; exact hcB) hoB hclB hg (hsize.trans hml.symm) (argsL := As) (rest := rest) (fun sig h => hn.trans (hlen sig h)) hstack hW (by rw [hb]; exact hdg)
    (fun vm₁ hW₁ => ⟨hf.1, hf.2, hPc (T.setVm vm₁) hT hW₁⟩) with ⟨v, vm₁, ⟨U', l2, c2, s2⟩, hW₁, X', ⟨g', mk, t, L, e1, e2, hq, h1, hL, h2, h3⟩, st⟩ | ⟨q, vm₁, ⟨U', l2, c2, s2⟩, hW₁, X', ⟨g', mk, t, L, E, ce, e1, e2, hq, hce, hcv, hcl, h1, hL, h2, h3⟩, st⟩
  · dsimp only [Pt.U, Pt.locs, Pt.cells, Pt.slots] at X' e1 e2 h1 h2 h3 st
    subst h1; subst h2; subst h3
    exact Or.inl ⟨v, (T.setVm vm₁).calling g' mk (Value.ref b :: As).toArray, t, U', L, hT, X', hL, e1, e2, hq, st⟩
  · dsimp only [Pt.U, Pt.locs, Pt.cells, Pt.slots] at X' e1 e2 h1 h2 h3 st hcl
    subst h1; subst h2; subst h3
    exact Or.inr ⟨q, (T.setVm vm₁).calling g' mk (Value.ref b :: As).toArray, t, U', L, E, ce, hT, X', hL, e1, e2, hq, hce, hcv, vx_cls hW₁ hcl, st⟩
theorem vx_runS (S : CallFix p m c cc nL s args Ts own) (hM : vx_Met l y ws rm Pc Qc XC mc ms free) (cw : CallB R s args own index y bytes maxL ret ws rm mc ms n ∧ (Cond.static y).before args s = true) (hp : PreS s H Pc As)
    (hg : g.method = m) (hn : As.length = n) (hsize : g.locals.size = nL) (hstack : g.stack = As.reverse ++ rest) (hW : 2 * g.monitorRoom + (rest.map fun v => v.category).sum ≤ 8) (hdg : decode cc g.pc = .ok (.invokestatic index, 3)) (hf : cells + mc ≤ R.cells ∧ slots + ms ≤ R.slots) :
    vx_Run p l e R s m args below meth c H locs cells slots mc ms g rest (Qc As.toArray) XC free := by
  have hK : vx_Back l R p e below s args y 3 8 (PreOf R mc ms Pc) (PostOf Qc mc ms free) (vx_Post XC mc ms free) := vx_callBack cw.1 hM hp.1
  obtain ⟨⟨-, -, -, -, -, -, hcode, hini, hy, hlen, hl⟩, hstt⟩ := cw
  obtain ⟨hx, hb, hml, ho, -⟩ := S
  intro T hT X
  rcases vx_callS X hx (bytes := bytes) (maxL := maxL) (ret := ret) ho hl hstt hini hcode hy hK hg (hsize.trans hml.symm) (argsL := As) (rest := rest) (fun sig h => hn.trans (hlen sig h)) hstack hW (by rw [hb]; exact hdg)
    (fun vm₁ hW₁ => ⟨hf.1, hf.2, hp.2 (T.setVm vm₁) hT hW₁⟩) with ⟨v, vm₁, ⟨U', l2, c2, s2⟩, hW₁, X', ⟨g', mk, t, L, e1, e2, hq, h1, hL, h2, h3⟩, st⟩ | ⟨q, vm₁, ⟨U', l2, c2, s2⟩, hW₁, X', ⟨g', mk, t, L, E, ce, e1, e2, hq, hce, hcv, hcl, h1, hL, h2, h3⟩, st⟩
  · dsimp only [Pt.U, Pt.locs, Pt.cells, Pt.slots] at X' e1 e2 h1 h2 h3 st
    subst h1; subst h2; subst h3
    exact Or.inl ⟨v, (T.setVm vm₁).calling g' mk As.toArray, t, U', L, hT, X', hL, e1, e2, hq, st⟩
  · dsimp only [Pt.U, Pt.locs, Pt.cells, Pt.slots] at X' e1 e2 h1 h2 h3 st hcl
    subst h1; subst h2; subst h3
    exact Or.inr ⟨q, (T.setVm vm₁).calling g' mk As.toArray, t, U', L, E, ce, hT, X', hL, e1, e2, hq, hce, hcv, vx_cls hW₁ hcl, st⟩
end Runs
section Rows
variable {p : Program} {l : Launch} {e : Env} {R : Room} {s : State} {m : MethodId} {args : Array Value} {below : List Frame} {meth : Method} {c : Code} {H : Heap} {locs : List Loc} {cells slots : Nat} {Q : State → Prop}
variable {mc ms : Nat} {free : Addr → Prop} {A0 A1 : Nat → Prop} {H0 : Heap} {a : Array Value} {pc : Nat} {ls : Array Slot} {st0 rest : List Value}
theorem vx_keep {st₀ t T' : State} {L : List Loc} (h0 : st₀.heap = H) (e1 : T'.heap = t.heap) (hS : va_S A0 H0 H locs) (hA : ∀ q, q < H.size → A1 q → A0 q) (hf : ∀ q, free q → A0 q) (hL : ∀ q ∈ L, free q.base) (hF : va_F A1 st₀ t) :
    H.size ≤ T'.heap.size ∧ (∀ q : Nat, q < H.size → ¬ A1 q → T'.heap[q]? = H[q]?) ∧ va_S A0 H0 T'.heap (locs ++ L) := by
  obtain ⟨hz, hk⟩ := hF
  rw [h0] at hz hk
  exact ⟨by rw [e1]; exact hz, fun q h1 h2 => by rw [e1]; exact hk q h1 h2,
    ⟨Nat.le_trans hS.1 (by rw [e1]; exact hz), fun q h1 h2 => by rw [e1, hk q (Nat.lt_of_lt_of_le h1 hS.1) (fun z => h2 (hA q (Nat.lt_of_lt_of_le h1 hS.1) z))]; exact hS.2.1 q h1 h2, fun q hq => by
      rcases List.mem_append.mp hq with h | h
      · exact hS.2.2 q h
      · exact hf _ (hL q h)⟩⟩
theorem vx_calli {S SX : Type} {post : Int32 → S → Prop} {px : SX → Prop} {B : S → State → Prop} {BX : String → SX → State → Prop} {AX : Nat → Prop} (hr : vx_Run p l e R s m args below meth c H locs cells slots mc ms (F0 m pc ls st0) rest (va_Qi post B A1 a) (vx_X px BX AX) free) (hS : va_S A0 H0 H locs) (hA : ∀ q, q < H.size → A1 q → A0 q) (hf : ∀ q, free q → A0 q) (hAX : ∀ q, q < H.size → AX q → A0 q)
    (kx : ∀ (E : String) (ce : Cell) (q9 : Addr) (u : SX) (t : State) (H1 : Heap) (locs1 : List Loc), t.heap = H1 → s.vm.Alike t.vm → px u → BX E u t → H.size ≤ H1.size → (∀ q : Nat, q < H.size → ¬ AX q → H1[q]? = H[q]?) → va_S A0 H0 H1 locs1 → H1[q9]? = some ce → ce.vm = .none → s.vm.findClass E = some ce.cls → vx_W p l e R s m args below meth c H1 locs1 (cells + mc) (slots + ms) Q (F0 m pc ls rest) q9)
    (kk : ∀ (r : Int32) (u : S) (t : State) (H1 : Heap) (locs1 : List Loc), t.heap = H1 → s.vm.Alike t.vm → post r u → B u t → H.size ≤ H1.size → (∀ q : Nat, q < H.size → ¬ A1 q → H1[q]? = H[q]?) → va_S A0 H0 H1 locs1 → W p l e R s m args below meth c H1 locs1 (cells + mc) (slots + ms) Q (F0 m (pc + 3) ls (.int r :: rest))) : W p l e R s m args below meth c H locs cells slots Q (F0 m pc ls st0) := by
  intro T hT X
  rcases hr T hT X with ⟨v, st₀, t, T', L, h0, X', hL, e1, e2, ⟨⟨r, u, hv, hp, hb⟩, hF⟩, st⟩ | ⟨q, st₀, t, T', L, E, ce, h0, X', hL, e1, e2, ⟨u, hp, hb, hF⟩, hce, hcv, hcl, st⟩
  · cases hv
    obtain ⟨k1, k2, k3⟩ := vx_keep h0 e1 hS hA hf hL hF
    obtain ⟨t2, a1, b1⟩ := kk r u t T'.heap (locs ++ L) e1.symm (by rw [← e2]; exact X'.warmed.alike) hp hb k1 k2 k3 T' rfl X'
    exact ⟨t2, st t2 a1, b1⟩
  · obtain ⟨k1, k2, k3⟩ := vx_keep h0 e1 hS hAX hf hL hF
    obtain ⟨t2, a1, b1⟩ := kx E ce q u t T'.heap (locs ++ L) e1.symm (by rw [← e2]; exact X'.warmed.alike) hp hb k1 k2 k3 (by rw [e1]; exact hce) hcv hcl T' rfl X'
    exact ⟨t2, st.trans a1, b1⟩
theorem vx_calll {S SX : Type} {post : Int64 → S → Prop} {px : SX → Prop} {B : S → State → Prop} {BX : String → SX → State → Prop} {AX : Nat → Prop} (hr : vx_Run p l e R s m args below meth c H locs cells slots mc ms (F0 m pc ls st0) rest (va_Ql post B A1 a) (vx_X px BX AX) free) (hS : va_S A0 H0 H locs) (hA : ∀ q, q < H.size → A1 q → A0 q) (hf : ∀ q, free q → A0 q) (hAX : ∀ q, q < H.size → AX q → A0 q)
    (kx : ∀ (E : String) (ce : Cell) (q9 : Addr) (u : SX) (t : State) (H1 : Heap) (locs1 : List Loc), t.heap = H1 → s.vm.Alike t.vm → px u → BX E u t → H.size ≤ H1.size → (∀ q : Nat, q < H.size → ¬ AX q → H1[q]? = H[q]?) → va_S A0 H0 H1 locs1 → H1[q9]? = some ce → ce.vm = .none → s.vm.findClass E = some ce.cls → vx_W p l e R s m args below meth c H1 locs1 (cells + mc) (slots + ms) Q (F0 m pc ls rest) q9)
    (kk : ∀ (r : Int64) (u : S) (t : State) (H1 : Heap) (locs1 : List Loc), t.heap = H1 → s.vm.Alike t.vm → post r u → B u t → H.size ≤ H1.size → (∀ q : Nat, q < H.size → ¬ A1 q → H1[q]? = H[q]?) → va_S A0 H0 H1 locs1 → W p l e R s m args below meth c H1 locs1 (cells + mc) (slots + ms) Q (F0 m (pc + 3) ls (.long r :: rest))) : W p l e R s m args below meth c H locs cells slots Q (F0 m pc ls st0) := by
  intro T hT X
  rcases hr T hT X with ⟨v, st₀, t, T', L, h0, X', hL, e1, e2, ⟨⟨r, u, hv, hp, hb⟩, hF⟩, st⟩ | ⟨q, st₀, t, T', L, E, ce, h0, X', hL, e1, e2, ⟨u, hp, hb, hF⟩, hce, hcv, hcl, st⟩
  · cases hv
    obtain ⟨k1, k2, k3⟩ := vx_keep h0 e1 hS hA hf hL hF
    obtain ⟨t2, a1, b1⟩ := kk r u t T'.heap (locs ++ L) e1.symm (by rw [← e2]; exact X'.warmed.alike) hp hb k1 k2 k3 T' rfl X'
    exact ⟨t2, st t2 a1, b1⟩
  · obtain ⟨k1, k2, k3⟩ := vx_keep h0 e1 hS hAX hf hL hF
    obtain ⟨t2, a1, b1⟩ := kx E ce q u t T'.heap (locs ++ L) e1.symm (by rw [← e2]; exact X'.warmed.alike) hp hb k1 k2 k3 (by rw [e1]; exact hce) hcv hcl T' rfl X'
    exact ⟨t2, st.trans a1, b1⟩
theorem vx_callf {S SX : Type} {post : UInt32 → S → Prop} {px : SX → Prop} {B : S → State → Prop} {BX : String → SX → State → Prop} {AX : Nat → Prop} (hr : vx_Run p l e R s m args below meth c H locs cells slots mc ms (F0 m pc ls st0) rest (va_Qf post B A1 a) (vx_X px BX AX) free) (hS : va_S A0 H0 H locs) (hA : ∀ q, q < H.size → A1 q → A0 q) (hf : ∀ q, free q → A0 q) (hAX : ∀ q, q < H.size → AX q → A0 q)
    (kx : ∀ (E : String) (ce : Cell) (q9 : Addr) (u : SX) (t : State) (H1 : Heap) (locs1 : List Loc), t.heap = H1 → s.vm.Alike t.vm → px u → BX E u t → H.size ≤ H1.size → (∀ q : Nat, q < H.size → ¬ AX q → H1[q]? = H[q]?) → va_S A0 H0 H1 locs1 → H1[q9]? = some ce → ce.vm = .none → s.vm.findClass E = some ce.cls → vx_W p l e R s m args below meth c H1 locs1 (cells + mc) (slots + ms) Q (F0 m pc ls rest) q9)
    (kk : ∀ (r : UInt32) (u : S) (t : State) (H1 : Heap) (locs1 : List Loc), t.heap = H1 → s.vm.Alike t.vm → post r u → B u t → H.size ≤ H1.size → (∀ q : Nat, q < H.size → ¬ A1 q → H1[q]? = H[q]?) → va_S A0 H0 H1 locs1 → W p l e R s m args below meth c H1 locs1 (cells + mc) (slots + ms) Q (F0 m (pc + 3) ls (.float r :: rest))) : W p l e R s m args below meth c H locs cells slots Q (F0 m pc ls st0) := by
  intro T hT X
  rcases hr T hT X with ⟨v, st₀, t, T', L, h0, X', hL, e1, e2, ⟨⟨r, u, hv, hp, hb⟩, hF⟩, st⟩ | ⟨q, st₀, t, T', L, E, ce, h0, X', hL, e1, e2, ⟨u, hp, hb, hF⟩, hce, hcv, hcl, st⟩
  · cases hv
    obtain ⟨k1, k2, k3⟩ := vx_keep h0 e1 hS hA hf hL hF
    obtain ⟨t2, a1, b1⟩ := kk r u t T'.heap (locs ++ L) e1.symm (by rw [← e2]; exact X'.warmed.alike) hp hb k1 k2 k3 T' rfl X'
    exact ⟨t2, st t2 a1, b1⟩
  · obtain ⟨k1, k2, k3⟩ := vx_keep h0 e1 hS hAX hf hL hF
    obtain ⟨t2, a1, b1⟩ := kx E ce q u t T'.heap (locs ++ L) e1.symm (by rw [← e2]; exact X'.warmed.alike) hp hb k1 k2 k3 (by rw [e1]; exact hce) hcv hcl T' rfl X'
    exact ⟨t2, st.trans a1, b1⟩
theorem vx_calld {S SX : Type} {post : UInt64 → S → Prop} {px : SX → Prop} {B : S → State → Prop} {BX : String → SX → State → Prop} {AX : Nat → Prop} (hr : vx_Run p l e R s m args below meth c H locs cells slots mc ms (F0 m pc ls st0) rest (va_Qd post B A1 a) (vx_X px BX AX) free) (hS : va_S A0 H0 H locs) (hA : ∀ q, q < H.size → A1 q → A0 q) (hf : ∀ q, free q → A0 q) (hAX : ∀ q, q < H.size → AX q → A0 q)
    (kx : ∀ (E : String) (ce : Cell) (q9 : Addr) (u : SX) (t : State) (H1 : Heap) (locs1 : List Loc), t.heap = H1 → s.vm.Alike t.vm → px u → BX E u t → H.size ≤ H1.size → (∀ q : Nat, q < H.size → ¬ AX q → H1[q]? = H[q]?) → va_S A0 H0 H1 locs1 → H1[q9]? = some ce → ce.vm = .none → s.vm.findClass E = some ce.cls → vx_W p l e R s m args below meth c H1 locs1 (cells + mc) (slots + ms) Q (F0 m pc ls rest) q9)
    (kk : ∀ (r : UInt64) (u : S) (t : State) (H1 : Heap) (locs1 : List Loc), t.heap = H1 → s.vm.Alike t.vm → post r u → B u t → H.size ≤ H1.size → (∀ q : Nat, q < H.size → ¬ A1 q → H1[q]? = H[q]?) → va_S A0 H0 H1 locs1 → W p l e R s m args below meth c H1 locs1 (cells + mc) (slots + ms) Q (F0 m (pc + 3) ls (.double r :: rest))) : W p l e R s m args below meth c H locs cells slots Q (F0 m pc ls st0) := by
  intro T hT X
  rcases hr T hT X with ⟨v, st₀, t, T', L, h0, X', hL, e1, e2, ⟨⟨r, u, hv, hp, hb⟩, hF⟩, st⟩ | ⟨q, st₀, t, T', L, E, ce, h0, X', hL, e1, e2, ⟨u, hp, hb, hF⟩, hce, hcv, hcl, st⟩
  · cases hv
    obtain ⟨k1, k2, k3⟩ := vx_keep h0 e1 hS hA hf hL hF
    obtain ⟨t2, a1, b1⟩ := kk r u t T'.heap (locs ++ L) e1.symm (by rw [← e2]; exact X'.warmed.alike) hp hb k1 k2 k3 T' rfl X'
    exact ⟨t2, st t2 a1, b1⟩
  · obtain ⟨k1, k2, k3⟩ := vx_keep h0 e1 hS hAX hf hL hF
    obtain ⟨t2, a1, b1⟩ := kx E ce q u t T'.heap (locs ++ L) e1.symm (by rw [← e2]; exact X'.warmed.alike) hp hb k1 k2 k3 (by rw [e1]; exact hce) hcv hcl T' rfl X'
    exact ⟨t2, st.trans a1, b1⟩
theorem vx_callv {S SX : Type} {post : S → Prop} {px : SX → Prop} {B : S → State → Prop} {BX : String → SX → State → Prop} {AX : Nat → Prop} (hr : vx_Run p l e R s m args below meth c H locs cells slots mc ms (F0 m pc ls st0) rest (va_Qv post B A1 a) (vx_X px BX AX) free) (hS : va_S A0 H0 H locs) (hA : ∀ q, q < H.size → A1 q → A0 q) (hf : ∀ q, free q → A0 q) (hAX : ∀ q, q < H.size → AX q → A0 q)
    (kx : ∀ (E : String) (ce : Cell) (q9 : Addr) (u : SX) (t : State) (H1 : Heap) (locs1 : List Loc), t.heap = H1 → s.vm.Alike t.vm → px u → BX E u t → H.size ≤ H1.size → (∀ q : Nat, q < H.size → ¬ AX q → H1[q]? = H[q]?) → va_S A0 H0 H1 locs1 → H1[q9]? = some ce → ce.vm = .none → s.vm.findClass E = some ce.cls → vx_W p l e R s m args below meth c H1 locs1 (cells + mc) (slots + ms) Q (F0 m pc ls rest) q9)
    (kk : ∀ (u : S) (t : State) (H1 : Heap) (locs1 : List Loc), t.heap = H1 → s.vm.Alike t.vm → post u → B u t → H.size ≤ H1.size → (∀ q : Nat, q < H.size → ¬ A1 q → H1[q]? = H[q]?) → va_S A0 H0 H1 locs1 → W p l e R s m args below meth c H1 locs1 (cells + mc) (slots + ms) Q (F0 m (pc + 3) ls (rest))) : W p l e R s m args below meth c H locs cells slots Q (F0 m pc ls st0) := by
  intro T hT X
  rcases hr T hT X with ⟨v, st₀, t, T', L, h0, X', hL, e1, e2, ⟨⟨u, hv, hp, hb⟩, hF⟩, st⟩ | ⟨q, st₀, t, T', L, E, ce, h0, X', hL, e1, e2, ⟨u, hp, hb, hF⟩, hce, hcv, hcl, st⟩
  · cases hv
    obtain ⟨k1, k2, k3⟩ := vx_keep h0 e1 hS hA hf hL hF
    obtain ⟨t2, a1, b1⟩ := kk u t T'.heap (locs ++ L) e1.symm (by rw [← e2]; exact X'.warmed.alike) hp hb k1 k2 k3 T' rfl X'
    exact ⟨t2, st t2 a1, b1⟩
  · obtain ⟨k1, k2, k3⟩ := vx_keep h0 e1 hS hAX hf hL hF
    obtain ⟨t2, a1, b1⟩ := kx E ce q u t T'.heap (locs ++ L) e1.symm (by rw [← e2]; exact X'.warmed.alike) hp hb k1 k2 k3 (by rw [e1]; exact hce) hcv hcl T' rfl X'
    exact ⟨t2, st.trans a1, b1⟩
/-- caught by the row x of this method's table; the rows ahead don't take it -/
theorem vx_catch {own name : String} {E : String} {ce : Cell} {q : Addr} (hown : s.vm.findClass own = some m.cls) (pre : List ExceptionTableEntry) (x : ExceptionTableEntry) (suf : List ExceptionTableEntry) (hsplit : c.exceptionTable.toList = pre ++ x :: suf)
    (hpass : ∀ z ∈ pre, covers z pc = false ∨ (z.catchType ≠ 0 ∧ ∃ nm : String, (Cond.classLink own z.catchType nm).before args s = true ∧ va_Nc E nm s)) (hx : covers x pc = true) (h0 : x.catchType ≠ 0)
    (hlink : (Cond.classLink own x.catchType name).before args s = true) (hcast : (Cond.castable E name).before args s = true) (hcell : H[q]? = some ce) (hv : ce.vm = .none) (hcl : s.vm.findClass E = some ce.cls)
    (kk : W p l e R s m args below meth c H locs cells slots Q (F0 m x.handlerPc ls [.ref q])) : vx_W p l e R s m args below meth c H locs cells slots Q (F0 m pc ls rest) q := by
  intro T hT X
  have hpl : e.platform.magicAccessors = ({} : Platform).magicAccessors := by rw [X.admits.platform]
  obtain ⟨c3, c4, hc3, hc4, hasg⟩ := Cond.castable_spec hcast
  cases Option.some.inj (hc3.symm.trans hcl)
  obtain ⟨c5, hc5, hcl5⟩ := Cond.classLink_spec hown hlink e.platform hpl
  cases Option.some.inj (hc4.symm.trans hc5)
  obtain ⟨vm', X', st⟩ := X.thenCaughtThrough q (g := F0 m pc ls rest) rfl (Steps.refl _) (by rw [hT]; exact hcell) (by rw [hv]; rfl) (by obtain ⟨k9, h9, -⟩ := Vm.findClass_spec hcl; exact ⟨k9, h9⟩) pre x suf hsplit
    (fun z hz => by
      rcases hpass z hz with h | ⟨hz0, nm, hl1, hn1⟩
      · exact Or.inl h
      · obtain ⟨c6, hc6, hcl6⟩ := Cond.classLink_spec hown hl1 e.platform hpl
        obtain ⟨a8, b8, h1, h2, h3⟩ := hn1
        cases Option.some.inj (h1.symm.trans hcl)
        cases Option.some.inj (h2.symm.trans hc6)
        exact Or.inr ⟨hz0, _, hcl6, h3⟩) hx (Or.inr ⟨h0, c4, hcl5, hasg⟩)
  obtain ⟨t, a1, b1⟩ := kk (T.setVm vm') hT X'
  exact ⟨t, st.trans a1, b1⟩
end Rows
section Ends
variable {p : Program} {l : Launch} {e : Env} {R : Room} {s : State} {m : MethodId} {args : Array Value} {below : List Frame} {meth : Method} {c : Code} {H : Heap} {locs : List Loc} {cells slots : Nat} {Q : State → Prop}
variable {mc ms : Nat} {free : Addr → Prop} {A0 A1 : Nat → Prop} {H0 : Heap} {a : Array Value} {ls : Array Slot} {st0 rest : List Value}
variable {Qc : Array Value → State → Outcome → State → Prop} {XC : String → State → State → Prop}
/-- what a body that may throw owes at its end -/
def vx_MQ (below : List Frame) (Qc : Array Value → State → Outcome → State → Prop) (XC : String → State → State → Prop) (a : Array Value) (s : State) (mc ms : Nat) (free : Addr → Prop) : State → Prop := fun t =>
  ∃ o, t.status = .running ∧ Ended t below o ∧ vx_Q Qc XC mc ms free a s o t
theorem vx_ret {g : JFrame} {mc ms : Nat} (k : W p l e R s m args below meth c H locs cells slots (MQ below Qc args s mc ms free) g) : W p l e R s m args below meth c H locs cells slots (vx_MQ below Qc XC args s mc ms free) g := by
  intro T hT X
  obtain ⟨t, a1, o, b1, b2, b3, b4⟩ := k T hT X
  exact ⟨t, a1, o, b1, b2, Or.inl ⟨b3, b4⟩⟩
/-- not caught here: it goes on to the caller -/
theorem vx_widen {g : JFrame} {q : Addr} {k n : Nat} (h1 : cells ≤ k) (h2 : slots ≤ n) (kk : vx_W p l e R s m args below meth c H locs k n Q g q) : vx_W p l e R s m args below meth c H locs cells slots Q g q := fun T hT X => kk T hT (stand_widen X h1 h2)
theorem vx_out {pc : Nat} {E : String} {ce : Cell} {q : Addr} {mc ms : Nat} (hout : ∀ x ∈ c.exceptionTable.toList, covers x pc = false) (hlocks : meth.locks = false) (hcell : H[q]? = some ce) (hv : ce.vm = .none) (hcl : s.vm.findClass E = some ce.cls)
    (hx : ∀ t : State, t.heap = H → s.vm.Alike t.vm → XC E s t) (hf : ∀ z ∈ locs, free z.base) (hc : cells ≤ mc) (hs : slots ≤ ms) :
    vx_W p l e R s m args below meth c H locs cells slots (vx_MQ below Qc XC args s mc ms free) (F0 m pc ls rest) q := by
  intro T hT X
  obtain ⟨st1, hrun, hend, hW, hsm⟩ := X.leaveThrown q (g := F0 m pc ls rest) rfl rfl rfl hout hlocks
  have hcell9 : (T.setFrames (.throwing q :: below)).heap[q]? = some ce := by
    show T.heap[q]? = some ce
    rw [hT]; exact hcell
  exact ⟨_, st1, .threw q, hrun, hend, Or.inr ⟨q, rfl, E, ce, locs, hx _ hT hW.alike, hcell9, hv, hcl, hW, hsm.mono hc hs, hf⟩⟩
theorem vx_frame {U : State} {k n : Nat} (h : s.sameButNew ({ U with vm := s.vm } : State) locs k n) : s.heap.size ≤ U.heap.size ∧ ∀ q : Nat, q < s.heap.size → (∀ z ∈ locs, z.base ≠ q) → U.heap[q]? = s.heap[q]? := by
  obtain ⟨-, h2, -, -, -, h6⟩ := h
  refine ⟨h2, fun q hq hz => ?_⟩
  obtain ⟨c9, e1, e2, e3, e4⟩ := h6 q _ (Array.getElem?_eq_getElem hq)
  have hs : c9.slots = (s.heap[q]).slots := Array.ext_getElem? fun i => e4 i fun hm => hz _ hm rfl
  have h9 : c9 = s.heap[q] := by
    rw [hs] at e2
    exact e2
  have e5 : U.heap[q]? = some c9 := e1
  rw [e5, h9, Array.getElem?_eq_getElem hq]
/-- the words of a throw but the four that speak of the heap -/
def vx_no (w : Cond) : Bool := decide (w ≠ .isRef (.static Bundle.tN "UNASSIGNED_STACK" Bundle.steD)) && decide (w ≠ .isRef (.static Bundle.tN "SUPPRESSED_SENTINEL" Bundle.listD)) && decide (w ≠ .laysStatic Bundle.tN "UNASSIGNED_STACK" Bundle.steD) && decide (w ≠ .laysStatic Bundle.tN "SUPPRESSED_SENTINEL" Bundle.listD)
def vx_at0 (own : String) (ic : Nat) (X : String) (names : List String) : List Cond := (Bundle.ownAtoms0 own ic X names).filter vx_no
def vx_atS (own : String) (ic : Nat) (X : String) (names : List String) : List Cond := (Bundle.ownAtoms own ic X names).filter vx_no
/-- a word that the tables alone decide, or a good one -/
def vx_ot (w : Cond) : Bool := w.onTables || goodWord w
theorem vx_ot_at {args a' : Array Value} {s U : State} {w : Cond} (hW : s.WarmedH U.vm) (hvm : s.vm = U.vm) (hg : vx_ot w = true) (h : w.before args s = true) : w.before a' U = true := by
  simp only [vx_ot, Bool.or_eq_true] at hg
  rcases hg with hg | hg
  · exact va_tabs hg hvm h
  · exact word_at hW (good_of_word hg) h
/-- a list's words: the good ones out of the method's own list, the others by premises of their own -/
theorem vx_hat {args : Array Value} {s : State} {L B : List Cond} (h1 : ∀ w ∈ L.filter goodWord, w.before args s = true) (h2 : ∀ w ∈ L.filter (fun w => !goodWord w), w ∈ B) (h3 : ∀ w ∈ B, w.before args s = true) : ∀ w ∈ L, w.before args s = true := by
  intro w hw
  by_cases g : goodWord w = true
  · exact h1 w (List.mem_filter.mpr ⟨hw, g⟩)
  · refine h3 w (h2 w (List.mem_filter.mpr ⟨hw, ?_⟩))
    show (!goodWord w) = true
    cases hgw : goodWord w
    · rfl
    · exact absurd hgw g
theorem vx_c {args : Array Value} {s : State} {w : Cond} {B : List Cond} (h : w.before args s = true) (t : ∀ w ∈ B, w.before args s = true) : ∀ w' ∈ w :: B, w'.before args s = true := fun w' h' => (List.mem_cons.mp h').elim (fun e => by rw [e]; exact h) (t w')
theorem vx_n {args : Array Value} {s : State} : ∀ w ∈ ([] : List Cond), w.before args s = true := fun _ h => nomatch h
theorem vx_own {args : Array Value} {s : State} {L : List Cond} (h1 : ∀ w ∈ L.filter vx_no, w.before args s = true)
    (hU : (Cond.isRef (.static Bundle.tN "UNASSIGNED_STACK" Bundle.steD)).before args s = true) (hN : (Cond.isRef (.static Bundle.tN "SUPPRESSED_SENTINEL" Bundle.listD)).before args s = true)
    (lU : (Cond.laysStatic Bundle.tN "UNASSIGNED_STACK" Bundle.steD).before args s = true) (lN : (Cond.laysStatic Bundle.tN "SUPPRESSED_SENTINEL" Bundle.listD).before args s = true) : ∀ w ∈ L, w.before args s = true := by
  intro w hw
  by_cases e1 : w = .isRef (.static Bundle.tN "UNASSIGNED_STACK" Bundle.steD)
  · rw [e1]; exact hU
  · by_cases e2 : w = .isRef (.static Bundle.tN "SUPPRESSED_SENTINEL" Bundle.listD)
    · rw [e2]; exact hN
    · by_cases e3 : w = .laysStatic Bundle.tN "UNASSIGNED_STACK" Bundle.steD
      · rw [e3]; exact lU
      · by_cases e4 : w = .laysStatic Bundle.tN "SUPPRESSED_SENTINEL" Bundle.listD
        · rw [e4]; exact lN
        · exact h1 w (List.mem_filter.mpr ⟨hw, by unfold vx_no; rw [decide_eq_true e1, decide_eq_true e2, decide_eq_true e3, decide_eq_true e4]; rfl⟩)
/-- where a static field lies, its class's statics cell in H -/
def vx_L (C n d : String) (A : Nat → Prop) (U : State) (H : Heap) : Prop := ∃ (c : ClassId) (k : Class) (i : Nat) (f : Field) (a : Nat) (cell : Cell), U.vm.findClass C = some c ∧ U.fieldFound? C n d = some (c, k, i, f) ∧ f.isStatic = true ∧ k.statics = some a ∧ H[a]? = some cell ∧ cell.vm.isStatics = true ∧ cell.cls = c ∧ f.slot < cell.slots.size ∧ k.staticTypes[f.slot]? = some f.type ∧ ¬ A a
theorem vx_L.moved {C n d : String} {A : Nat → Prop} {u U : State} {H : Heap} (hvm : u.vm.Alike U.vm) (h : vx_L C n d A u H) : vx_L C n d A U H := by
  obtain ⟨c, k, i, f, a, cell, h1, h2, h3, h4, h5, h6, h7, h8, h9, h10⟩ := h
  obtain ⟨k', hi', he⟩ := State.fieldFound?_setVm hvm h2
  exact ⟨c, k', i, f, a, cell, by rw [hvm.findClass]; exact h1, hi', h3, by rw [he]; exact h4, h5, h6, h7, h8, by rw [he]; exact h9, h10⟩
theorem vx_L.kept {C n d : String} {A : Nat → Prop} {U : State} {H H1 : Heap} (h : vx_L C n d A U H) (hq : ∀ a : Nat, a < H.size → ¬ A a → H1[a]? = H[a]?) : vx_L C n d A U H1 := by
  obtain ⟨c, k, i, f, a, cell, h1, h2, h3, h4, h5, h6, h7, h8, h9, h10⟩ := h
  exact ⟨c, k, i, f, a, cell, h1, h2, h3, h4, by rw [hq a (Array.getElem?_eq_some_iff.mp h5).1 h10]; exact h5, h6, h7, h8, h9, h10⟩
theorem vx_L.narrow {C n d : String} {A B : Nat → Prop} {U : State} {H : Heap} (h : vx_L C n d A U H) (hAB : ∀ q, B q → A q) : vx_L C n d B U H := by
  obtain ⟨c, k, i, f, a, cell, h1, h2, h3, h4, h5, h6, h7, h8, h9, h10⟩ := h
  exact ⟨c, k, i, f, a, cell, h1, h2, h3, h4, h5, h6, h7, h8, h9, fun z => h10 (hAB _ z)⟩
theorem vx_L.word {C n d : String} {A : Nat → Prop} {s : State} {args : Array Value} (h : vx_L C n d A s s.heap) : (Cond.laysStatic C n d).before args s = true := by
  obtain ⟨c, k, i, f, a, cell, h1, h2, h3, h4, h5, h6, h7, h8, h9, -⟩ := h
  show (Cond.laysStatic C n d).holds args s none s [] = true
  exact Cond.laysStatic_of h1 h2 h3 h4 h5 h6 h7 h8 h9
/-- .. and what it holds: null or some reference -/
def vx_Zq (C n d : String) (A : Nat → Prop) (U : State) (H : Heap) : Prop := va_Zq C n d A U H ∧ vx_L C n d A U H
theorem vx_Zq.moved {C n d : String} {A : Nat → Prop} {u U : State} {H : Heap} (hvm : u.vm.Alike U.vm) (h : vx_Zq C n d A u H) : vx_Zq C n d A U H := ⟨va_Zq.moved hvm h.1, vx_L.moved hvm h.2⟩
theorem vx_Zq.kept {C n d : String} {A : Nat → Prop} {U : State} {H H1 : Heap} (h : vx_Zq C n d A U H) (hq : ∀ a : Nat, a < H.size → ¬ A a → H1[a]? = H[a]?) : vx_Zq C n d A U H1 := ⟨va_Zq.kept h.1 hq, vx_L.kept h.2 hq⟩
theorem vx_Zq.narrow {C n d : String} {A B : Nat → Prop} {U : State} {H : Heap} (h : vx_Zq C n d A U H) (hAB : ∀ q, B q → A q) : vx_Zq C n d B U H := ⟨va_Zq.narrow h.1 hAB, vx_L.narrow h.2 hAB⟩
theorem vx_Zqof {args : Array Value} {s : State} {C n d : String} {A : Nat → Prop} (hl : (Cond.laysStatic C n d).before args s = true) (hini : (Cond.initialized C).before args s = true) (h : (Cond.isRef (.static C n d)).before args s = true) (hA : ∀ a : Nat, a < s.heap.size → ¬ A a) : vx_Zq C n d A s s.heap := by
  refine ⟨va_Zqof hl hini h hA, ?_⟩
  obtain ⟨c, k, i, f, a, cell, h1, h2, h3, h4, h5, h6, h7, h8, h9⟩ := Cond.laysStatic_spec hl
  exact ⟨c, k, i, f, a, cell, h1, h2, h3, h4, h5, h6, h7, h8, h9, hA a (Array.getElem?_eq_some_iff.mp h5).1⟩
theorem vx_isRef {C n d : String} {v : Value} {A : Nat → Prop} {s : State} {args : Array Value} (h : va_Z C n d v A s s.heap) (hv : v.isRef = true) : (Cond.isRef (.static C n d)).before args s = true := by
  obtain ⟨cf, kf, fi, f, a, cell, h1, h2, h3, h4, h5, h6, h7, -⟩ := h
  have he : (Term.static C n d).eval args s none [] s = some v := by
    simp [Term.eval, State.fieldNamed?, h1, h2, h4, h5, h6, h7]
  simp only [Cond.before, Cond.holds, Cond.value, he]
  cases v <;> simp_all [Value.isRef]
theorem vx_isRefq {C n d : String} {A : Nat → Prop} {s : State} {args : Array Value} (h : va_Zq C n d A s s.heap) : (Cond.isRef (.static C n d)).before args s = true := by
  rcases h with h | ⟨t, h⟩
  · exact vx_isRef h rfl
  · exact vx_isRef h rfl
/-- the same frame, seen from here: as if the method were called anew in this heap -/
theorem vx_rebase {T : State} (X : Stand p l e R s m args below meth c T locs cells slots) {R' : Room} (hf : R'.frames ≤ R.frames) (hl : R'.locals ≤ R.locals) (hc : cells + R'.cells ≤ R.cells) (hs : slots + R'.slots ≤ R.slots) :
    Stand p l e R' ((T.setVm s.vm).setFrames (.invoking m args :: below)) m args below meth c T [] 0 0 := by
  have htop : (T.setVm s.vm).topJava?.isSome := X.here.top
  have hF : ((T.setVm s.vm).setFrames (.invoking m args :: below)).frames = .invoking m args :: below := State.frames_setFrames _ (State.cur_lt_of_top htop)
  obtain ⟨g₀, hg0⟩ := Option.isSome_iff_exists.mp htop
  obtain ⟨r, hr⟩ := State.topJava?_eq_some.mp hg0
  have hl9 : e.platform.stackLimits (T.setVm s.vm).me = e.platform.stackLimits s.me := X.limits
  have hb9 : (T.setVm s.vm).me.stackBytes = s.me.stackBytes := X.bytes
  refine ⟨X.admits, X.cas, X.clock, hF, ?_, X.hears, X.method, X.code, X.here, X.tail, X.warmed, ?_, ?_, ?_⟩
  · have h := X.room
    have hU : ((T.setVm s.vm).setFrames (.invoking m args :: below)).localsInUse = s.localsInUse := by
      rw [State.localsInUse_invoking hF (meth := meth) (c := c) X.method X.code, State.localsInUse_invoking X.frames X.method X.code]
    simp only [State.hasRoom, Bool.and_eq_true, decide_eq_true_eq] at h ⊢
    obtain ⟨⟨⟨⟨h1, h2, h3, h4, h5, h6⟩, h7⟩, h8⟩, h9⟩ := h
    rw [X.frames, List.length_cons] at h2 h3
    have q1 := X.heapSize
    have q2 := X.used
    simp only [hF, hU, List.length_cons, State.stackLimits_setFrames, State.stackBytes_setFrames, hl9, hb9]
    refine ⟨⟨⟨⟨by omega, by omega, by omega, by omega, by omega, h6⟩, ?_⟩, ?_⟩, X.book⟩
    · show T.heap.size + R'.cells ≤ e.platform.maxCells
      omega
    · show T.slotsUsed + R'.slots ≤ e.platform.maxSlots
      omega
  · rw [State.stackLimits_setFrames]; rfl
  · rw [State.stackBytes_setFrames]; rfl
  · refine ⟨?_, Nat.le_refl _, Nat.le_refl _, ?_, ?_, fun a c9 h9 => ⟨c9, h9, rfl, rfl, fun _ _ => rfl⟩⟩
    · obtain ⟨t, ht, -⟩ := State.frames_cons hr
      show T.setVm s.vm = { ((T.setVm s.vm).setFrames (.invoking m args :: below)).setFrames (T.setVm s.vm).frames with heap := T.heap, slotsUsed := T.slotsUsed }
      rw [State.setFrames_setFrames, State.setFrames_self ht]
      rfl
    · show T.slotsUsed = T.slotsUsed + ((T.heap.toList.drop T.heap.size).map (·.slots.size)).sum
      rw [List.drop_eq_nil_of_le (Nat.le_of_eq Array.length_toList)]
      rfl
    · show ((T.heap.toList.drop T.heap.size).map (·.slots.size)).sum ≤ 0
      rw [List.drop_eq_nil_of_le (Nat.le_of_eq Array.length_toList)]
      exact Nat.le_refl _
/-- 'throw new E()': new; dup; invokespecial; athrow -/
theorem vx_throw0 {cc : ByteArray} {pc : Nat} (hexec : p.tables.exec = Jvm.exec) (hb : c.code = cc) (hl : l.stackTraces = false) {own cls : String} {names : List String} {ik ic mc ms : Nat} {A : Nat → Prop}
    (hown : s.vm.findClass own = some m.cls) (hcls : Bundle.fit cls = true) (hnames : ∀ n ∈ names, Bundle.fit n = true)
    (hk : (Cond.classLink own ik cls).before args s = true) (hini : (Cond.initialized cls).before args s = true) (hat : ∀ w ∈ vx_at0 own ic cls names, w.before args s = true)
    (hgood : ∀ w ∈ Cond.classLink own ik cls :: Cond.initialized cls :: vx_at0 own ic cls names, vx_ot w = true)
    (hU : vx_Zq Bundle.tN "UNASSIGNED_STACK" Bundle.steD A s s.heap) (hN : vx_Zq Bundle.tN "SUPPRESSED_SENTINEL" Bundle.listD A s s.heap) (hS : va_S A s.heap H locs) (hsize : ls.size = c.maxLocals)
    (d0 : decode cc pc = .ok (.new ik, 3)) (d3 : decode cc (pc + 3) = .ok (.dup, 1)) (d4 : decode cc (pc + 4) = .ok (.invokespecial ic, 3)) (d7 : decode cc (pc + 7) = .ok (.athrow, 1))
    (hout : ∀ x ∈ c.exceptionTable.toList, covers x (pc + 7) = false)
    (hRframes : names.length + 3 < R.frames) (hRlocals : (rest.map fun v => v.category).sum + (13 * (names.length + 1) + 42) ≤ R.locals) (hRcells : cells + 1 ≤ R.cells) (hRslots : slots + 6 ≤ R.slots) (hlocks : meth.locks = false)
    (hx : ∀ t : State, s.vm.Alike t.vm → H.size ≤ t.heap.size → (∀ q : Nat, q < H.size → t.heap[q]? = H[q]?) → XC cls s t)
    (hf : ∀ z ∈ locs, free z.base) (hc : cells + 1 ≤ mc) (hs : slots + 6 ≤ ms) :
    W p l e R s m args below meth c H locs cells slots (vx_MQ below Qc XC args s mc ms free) (F0 m pc ls rest) := by
  intro T hT X
  have htr : e.platform.stackTraces = false := (show e.platform.stackTraces = l.stackTraces by rw [X.admits.platform]).trans hl
  have Y := vx_rebase X (R' := { frames := R.frames, locals := R.locals, cells := 1, slots := 6 }) (Nat.le_refl _) (Nat.le_refl _) hRcells hRslots
  obtain ⟨s', hA⟩ : ∃ z, z = (T.setVm s.vm).setFrames (.invoking m args :: below) := ⟨_, rfl⟩
  rw [← hA] at Y
  have hvm : s'.vm = s.vm := by rw [hA]; rfl
  have hhp : s'.heap = H := by rw [hA]; exact hT
  have hW0 : s.WarmedH s'.vm := by rw [hvm]; exact State.WarmedH.refl s
  have hat' : ∀ w ∈ vx_at0 own ic cls names, w.before args s' = true := fun w hw => vx_ot_at hW0 hvm.symm (hgood w (List.mem_cons_of_mem _ (List.mem_cons_of_mem _ hw))) (hat w hw)
  have hk' : (Cond.classLink own ik cls).before args s' = true := vx_ot_at hW0 hvm.symm (hgood _ List.mem_cons_self) hk
  have hini' : (Cond.initialized cls).before args s' = true := vx_ot_at hW0 hvm.symm (hgood _ (List.mem_cons_of_mem _ List.mem_cons_self)) hini
  have hU' : vx_Zq Bundle.tN "UNASSIGNED_STACK" Bundle.steD A s' s'.heap := by rw [hhp]; exact vx_Zq.moved hW0.alike (hU.kept hS.2.1)
  have hN' : vx_Zq Bundle.tN "SUPPRESSED_SENTINEL" Bundle.listD A s' s'.heap := by rw [hhp]; exact vx_Zq.moved hW0.alike (hN.kept hS.2.1)
  have h : ∀ w ∈ Bundle.ownAtoms0 own ic cls names, w.before args s' = true := vx_own hat' (vx_isRefq hU'.1) (vx_isRefq hN'.1) hU'.2.word hN'.2.word
  have hown' : s'.vm.findClass own = some m.cls := by rw [hvm]; exact hown
  have hins : (Cond.instantiable cls 6).before args s' = true := h _ (by simp [Bundle.ownAtoms0])
  obtain ⟨vm₁, cX, kX, hfX, hkX, -, -, X₁, st1⟩ := Y.newCold hexec (own := own) (C := cls) (index := ik) (n := 6) hown' hk' hins hini'
    (g := F0 m pc ls rest) rfl (by rw [hb]; exact d0) (Nat.le_refl _) (Nat.le_refl _)
  generalize hT1 : (T.setVm vm₁).pushCell { cls := cX, slots := kX.instanceTypes.map defaultValue, vm := .none } = T1 at X₁ st1
  have hcat : (Value.ref T.heap.size).category = 1 := rfl
  have hcellA : T1.heap[T.heap.size]? = some (freshCell cX kX) := by rw [← hT1]; exact State.heap_pushCell_size _ _
  have d3' : decode c.code (pc + 3) = .ok (.dup, 1) := by rw [hb]; exact d3
  obtain ⟨U, hsteps, hrun, hend, hW, hsame, ce, hce, hO⟩ := X₁.ctorThrow0 hexec htr (own := own) (cls := cls) (names := names) (ic := ic) hown' hcls hnames h (fun x hx => nomatch hx) hfX hkX hcellA (by rw [hhp, hT]; exact Nat.le_refl _)
    (g := { method := m, pc := pc + 4, locals := ls, stack := .ref T.heap.size :: .ref T.heap.size :: rest, locked := none }) rfl hsize rfl rfl (rest := rest) rfl
    (by rw [hb]; exact d4) (by rw [hb]; exact d7) hout hRframes (by simp only [List.map_cons, List.sum_cons, hcat]; omega) hlocks
  obtain ⟨f1, f2⟩ := vx_frame hsame
  rw [hhp] at f1 f2
  have hWs : s.WarmedH U.vm := State.WarmedH.trans hW0 hW
  have hcl : s.vm.findClass cls = some ce.cls := by
    have h9 := hO.cls
    rw [hvm] at h9
    exact h9
  have hall : s.sameButNew ({ U with vm := s.vm } : State) locs mc ms := by
    subst hA
    obtain ⟨e1, e2⟩ := hsame
    rw [State.setFrames_setFrames] at e1
    have h2 : (T.setVm s.vm).sameButNew ({ U with vm := s.vm } : State) [] (0 + 1) (0 + 6) := ⟨e1, e2⟩
    have h3 := X.same.trans h2
    rw [List.append_nil] at h3
    exact h3.mono hc hs
  refine ⟨U, ?_, .threw T.heap.size, hrun, hend, Or.inr ⟨T.heap.size, rfl, cls, ce, locs, hx U hWs.alike f1 (fun q hq => f2 q hq (fun z hz => nomatch hz)), hce, hO.vm, hcl, hWs, hall, hf⟩⟩
  refine st1 _ ?_
  show Steps p.tables e below (T1.setTop { method := m, pc := pc + 3, locals := ls, stack := .ref T.heap.size :: rest, locked := none }) _
  jvm_step X₁.here [X₁.here.top, hexec, d3', Value.category]
  exact hsteps
/-- 'throw new E("text")': new; dup; ldc; invokespecial; athrow -/
theorem vx_throwS {cc : ByteArray} {pc : Nat} (hexec : p.tables.exec = Jvm.exec) (hb : c.code = cc) (hl : l.stackTraces = false) {own cls text : String} {names : List String} {ik is ic mc ms sa : Nat} {A : Nat → Prop}
    (hown : s.vm.findClass own = some m.cls) (hcls : Bundle.fit cls = true) (hnames : ∀ n ∈ names, Bundle.fit n = true)
    (hk : (Cond.classLink own ik cls).before args s = true) (hini : (Cond.initialized cls).before args s = true) (hstr : vk_R own is text sa s) (hat : ∀ w ∈ vx_atS own ic cls names, w.before args s = true)
    (hgood : ∀ w ∈ Cond.classLink own ik cls :: Cond.initialized cls :: vx_atS own ic cls names, vx_ot w = true)
    (hU : vx_Zq Bundle.tN "UNASSIGNED_STACK" Bundle.steD A s s.heap) (hN : vx_Zq Bundle.tN "SUPPRESSED_SENTINEL" Bundle.listD A s s.heap) (hS : va_S A s.heap H locs) (hsize : ls.size = c.maxLocals)
    (d0 : decode cc pc = .ok (.new ik, 3)) (d3 : decode cc (pc + 3) = .ok (.dup, 1)) (d4 : decode cc (pc + 4) = .ok (.ldc is, 2)) (d6 : decode cc (pc + 6) = .ok (.invokespecial ic, 3)) (d9 : decode cc (pc + 9) = .ok (.athrow, 1))
    (hout : ∀ x ∈ c.exceptionTable.toList, covers x (pc + 9) = false)
    (hRframes : names.length + 3 < R.frames) (hRlocals : (rest.map fun v => v.category).sum + (13 * (names.length + 1) + 43) ≤ R.locals) (hRcells : cells + 1 ≤ R.cells) (hRslots : slots + 6 ≤ R.slots) (hlocks : meth.locks = false)
    (hx : ∀ t : State, s.vm.Alike t.vm → H.size ≤ t.heap.size → (∀ q : Nat, q < H.size → t.heap[q]? = H[q]?) → XC cls s t)
    (hf : ∀ z ∈ locs, free z.base) (hc : cells + 1 ≤ mc) (hs : slots + 6 ≤ ms) :
    W p l e R s m args below meth c H locs cells slots (vx_MQ below Qc XC args s mc ms free) (F0 m pc ls rest) := by
  intro T hT X
  have htr : e.platform.stackTraces = false := (show e.platform.stackTraces = l.stackTraces by rw [X.admits.platform]).trans hl
  have Y := vx_rebase X (R' := { frames := R.frames, locals := R.locals, cells := 1, slots := 6 }) (Nat.le_refl _) (Nat.le_refl _) hRcells hRslots
  obtain ⟨s', hA⟩ : ∃ z, z = (T.setVm s.vm).setFrames (.invoking m args :: below) := ⟨_, rfl⟩
  rw [← hA] at Y
  have hvm : s'.vm = s.vm := by rw [hA]; rfl
  have hhp : s'.heap = H := by rw [hA]; exact hT
  have hW0 : s.WarmedH s'.vm := by rw [hvm]; exact State.WarmedH.refl s
  have hat' : ∀ w ∈ vx_atS own ic cls names, w.before args s' = true := fun w hw => vx_ot_at hW0 hvm.symm (hgood w (List.mem_cons_of_mem _ (List.mem_cons_of_mem _ hw))) (hat w hw)
  have hk' : (Cond.classLink own ik cls).before args s' = true := vx_ot_at hW0 hvm.symm (hgood _ List.mem_cons_self) hk
  have hini' : (Cond.initialized cls).before args s' = true := vx_ot_at hW0 hvm.symm (hgood _ (List.mem_cons_of_mem _ List.mem_cons_self)) hini
  have hU' : vx_Zq Bundle.tN "UNASSIGNED_STACK" Bundle.steD A s' s'.heap := by rw [hhp]; exact vx_Zq.moved hW0.alike (hU.kept hS.2.1)
  have hN' : vx_Zq Bundle.tN "SUPPRESSED_SENTINEL" Bundle.listD A s' s'.heap := by rw [hhp]; exact vx_Zq.moved hW0.alike (hN.kept hS.2.1)
  have h : ∀ w ∈ Bundle.ownAtoms own ic cls names, w.before args s' = true := vx_own hat' (vx_isRefq hU'.1) (vx_isRefq hN'.1) hU'.2.word hN'.2.word
  have hown' : s'.vm.findClass own = some m.cls := by rw [hvm]; exact hown
  have hins : (Cond.instantiable cls 6).before args s' = true := h _ (by simp [Bundle.ownAtoms])
  obtain ⟨vm₁, cX, kX, hfX, hkX, -, -, X₁, st1⟩ := Y.newCold hexec (own := own) (C := cls) (index := ik) (n := 6) hown' hk' hins hini'
    (g := F0 m pc ls rest) rfl (by rw [hb]; exact d0) (Nat.le_refl _) (Nat.le_refl _)
  generalize hT1 : (T.setVm vm₁).pushCell { cls := cX, slots := kX.instanceTypes.map defaultValue, vm := .none } = T1 at X₁ st1
  have hcat : (Value.ref T.heap.size).category = 1 := rfl
  have hcellA : T1.heap[T.heap.size]? = some (freshCell cX kX) := by rw [← hT1]; exact State.heap_pushCell_size _ _
  have d3' : decode c.code (pc + 3) = .ok (.dup, 1) := by rw [hb]; exact d3
  have d4' : decode c.code (pc + 4) = .ok (.ldc is, 2) := by rw [hb]; exact d4
  have hstr' : vk_R own is text sa s' := vk_R.warm hW0 hstr
  obtain ⟨U, hsteps, hrun, hend, hW, hsame, ce, hce, hO⟩ := X₁.ctorThrowS hexec htr (own := own) (cls := cls) (names := names) (ic := ic) hown' hcls hnames h (fun x hx => nomatch hx) hfX hkX hcellA (by rw [hhp, hT]; exact Nat.le_refl _) (msg := .ref sa) rfl
    (g := { method := m, pc := pc + 6, locals := ls, stack := .ref sa :: .ref T.heap.size :: .ref T.heap.size :: rest, locked := none }) rfl hsize rfl rfl (rest := rest) rfl
    (by rw [hb]; exact d6) (by rw [hb]; exact d9) hout hRframes (by simp only [List.map_cons, List.sum_cons, hcat]; omega) hlocks
  obtain ⟨f1, f2⟩ := vx_frame hsame
  rw [hhp] at f1 f2
  have hWs : s.WarmedH U.vm := State.WarmedH.trans hW0 hW
  have hcl : s.vm.findClass cls = some ce.cls := by
    have h9 := hO.cls
    rw [hvm] at h9
    exact h9
  have hall : s.sameButNew ({ U with vm := s.vm } : State) locs mc ms := by
    subst hA
    obtain ⟨e1, e2⟩ := hsame
    rw [State.setFrames_setFrames] at e1
    have h2 : (T.setVm s.vm).sameButNew ({ U with vm := s.vm } : State) [] (0 + 1) (0 + 6) := ⟨e1, e2⟩
    have h3 := X.same.trans h2
    rw [List.append_nil] at h3
    exact h3.mono hc hs
  refine ⟨U, ?_, .threw T.heap.size, hrun, hend, Or.inr ⟨T.heap.size, rfl, cls, ce, locs, hx U hWs.alike f1 (fun q hq => f2 q hq (fun z hz => nomatch hz)), hce, hO.vm, hcl, hWs, hall, hf⟩⟩
  refine st1 _ ?_
  show Steps p.tables e below (T1.setTop { method := m, pc := pc + 3, locals := ls, stack := .ref T.heap.size :: rest, locked := none }) _
  jvm_step X₁.here [X₁.here.top, hexec, d3', Value.category]
  exact X₁.ldcString hexec (own := own) (text := text) (index := is) (a := sa) hown' hstr'.1 hstr'.2
    (g := { method := m, pc := pc + 4, locals := ls, stack := .ref T.heap.size :: .ref T.heap.size :: rest, locked := none }) rfl d4' _ hsteps
/-- 'throw new E("text")', the text by a wide index -/
theorem vx_throwSW {cc : ByteArray} {pc : Nat} (hexec : p.tables.exec = Jvm.exec) (hb : c.code = cc) (hl : l.stackTraces = false) {own cls text : String} {names : List String} {ik is ic mc ms sa : Nat} {A : Nat → Prop}
    (hown : s.vm.findClass own = some m.cls) (hcls : Bundle.fit cls = true) (hnames : ∀ n ∈ names, Bundle.fit n = true)
    (hk : (Cond.classLink own ik cls).before args s = true) (hini : (Cond.initialized cls).before args s = true) (hstr : vk_R own is text sa s) (hat : ∀ w ∈ vx_atS own ic cls names, w.before args s = true)
    (hgood : ∀ w ∈ Cond.classLink own ik cls :: Cond.initialized cls :: vx_atS own ic cls names, vx_ot w = true)
    (hU : vx_Zq Bundle.tN "UNASSIGNED_STACK" Bundle.steD A s s.heap) (hN : vx_Zq Bundle.tN "SUPPRESSED_SENTINEL" Bundle.listD A s s.heap) (hS : va_S A s.heap H locs) (hsize : ls.size = c.maxLocals)
    (d0 : decode cc pc = .ok (.new ik, 3)) (d3 : decode cc (pc + 3) = .ok (.dup, 1)) (d4 : decode cc (pc + 4) = .ok (.ldc_w is, 3)) (d7 : decode cc (pc + 7) = .ok (.invokespecial ic, 3)) (d10 : decode cc (pc + 10) = .ok (.athrow, 1))
    (hout : ∀ x ∈ c.exceptionTable.toList, covers x (pc + 10) = false)
    (hRframes : names.length + 3 < R.frames) (hRlocals : (rest.map fun v => v.category).sum + (13 * (names.length + 1) + 43) ≤ R.locals) (hRcells : cells + 1 ≤ R.cells) (hRslots : slots + 6 ≤ R.slots) (hlocks : meth.locks = false)
    (hx : ∀ t : State, s.vm.Alike t.vm → H.size ≤ t.heap.size → (∀ q : Nat, q < H.size → t.heap[q]? = H[q]?) → XC cls s t)
    (hf : ∀ z ∈ locs, free z.base) (hc : cells + 1 ≤ mc) (hs : slots + 6 ≤ ms) :
    W p l e R s m args below meth c H locs cells slots (vx_MQ below Qc XC args s mc ms free) (F0 m pc ls rest) := by
  intro T hT X
  have htr : e.platform.stackTraces = false := (show e.platform.stackTraces = l.stackTraces by rw [X.admits.platform]).trans hl
  have Y := vx_rebase X (R' := { frames := R.frames, locals := R.locals, cells := 1, slots := 6 }) (Nat.le_refl _) (Nat.le_refl _) hRcells hRslots
  obtain ⟨s', hA⟩ : ∃ z, z = (T.setVm s.vm).setFrames (.invoking m args :: below) := ⟨_, rfl⟩
  rw [← hA] at Y
  have hvm : s'.vm = s.vm := by rw [hA]; rfl
  have hhp : s'.heap = H := by rw [hA]; exact hT
  have hW0 : s.WarmedH s'.vm := by rw [hvm]; exact State.WarmedH.refl s
  have hat' : ∀ w ∈ vx_atS own ic cls names, w.before args s' = true := fun w hw => vx_ot_at hW0 hvm.symm (hgood w (List.mem_cons_of_mem _ (List.mem_cons_of_mem _ hw))) (hat w hw)
  have hk' : (Cond.classLink own ik cls).before args s' = true := vx_ot_at hW0 hvm.symm (hgood _ List.mem_cons_self) hk
  have hini' : (Cond.initialized cls).before args s' = true := vx_ot_at hW0 hvm.symm (hgood _ (List.mem_cons_of_mem _ List.mem_cons_self)) hini
  have hU' : vx_Zq Bundle.tN "UNASSIGNED_STACK" Bundle.steD A s' s'.heap := by rw [hhp]; exact vx_Zq.moved hW0.alike (hU.kept hS.2.1)
  have hN' : vx_Zq Bundle.tN "SUPPRESSED_SENTINEL" Bundle.listD A s' s'.heap := by rw [hhp]; exact vx_Zq.moved hW0.alike (hN.kept hS.2.1)
  have h : ∀ w ∈ Bundle.ownAtoms own ic cls names, w.before args s' = true := vx_own hat' (vx_isRefq hU'.1) (vx_isRefq hN'.1) hU'.2.word hN'.2.word
  have hown' : s'.vm.findClass own = some m.cls := by rw [hvm]; exact hown
  have hins : (Cond.instantiable cls 6).before args s' = true := h _ (by simp [Bundle.ownAtoms])
  obtain ⟨vm₁, cX, kX, hfX, hkX, -, -, X₁, st1⟩ := Y.newCold hexec (own := own) (C := cls) (index := ik) (n := 6) hown' hk' hins hini'
    (g := F0 m pc ls rest) rfl (by rw [hb]; exact d0) (Nat.le_refl _) (Nat.le_refl _)
  generalize hT1 : (T.setVm vm₁).pushCell { cls := cX, slots := kX.instanceTypes.map defaultValue, vm := .none } = T1 at X₁ st1
  have hcat : (Value.ref T.heap.size).category = 1 := rfl
  have hcellA : T1.heap[T.heap.size]? = some (freshCell cX kX) := by rw [← hT1]; exact State.heap_pushCell_size _ _
  have d3' : decode c.code (pc + 3) = .ok (.dup, 1) := by rw [hb]; exact d3
  have d4' : decode c.code (pc + 4) = .ok (.ldc_w is, 3) := by rw [hb]; exact d4
  have hstr' : vk_R own is text sa s' := vk_R.warm hW0 hstr
  obtain ⟨U, hsteps, hrun, hend, hW, hsame, ce, hce, hO⟩ := X₁.ctorThrowS hexec htr (own := own) (cls := cls) (names := names) (ic := ic) hown' hcls hnames h (fun x hx => nomatch hx) hfX hkX hcellA (by rw [hhp, hT]; exact Nat.le_refl _) (msg := .ref sa) rfl
    (g := { method := m, pc := pc + 7, locals := ls, stack := .ref sa :: .ref T.heap.size :: .ref T.heap.size :: rest, locked := none }) rfl hsize rfl rfl (rest := rest) rfl
    (by rw [hb]; exact d7) (by rw [hb]; exact d10) hout hRframes (by simp only [List.map_cons, List.sum_cons, hcat]; omega) hlocks
  obtain ⟨f1, f2⟩ := vx_frame hsame
  rw [hhp] at f1 f2
  have hWs : s.WarmedH U.vm := State.WarmedH.trans hW0 hW
  have hcl : s.vm.findClass cls = some ce.cls := by
    have h9 := hO.cls
    rw [hvm] at h9
    exact h9
  have hall : s.sameButNew ({ U with vm := s.vm } : State) locs mc ms := by
    subst hA
    obtain ⟨e1, e2⟩ := hsame
    rw [State.setFrames_setFrames] at e1
    have h2 : (T.setVm s.vm).sameButNew ({ U with vm := s.vm } : State) [] (0 + 1) (0 + 6) := ⟨e1, e2⟩
    have h3 := X.same.trans h2
    rw [List.append_nil] at h3
    exact h3.mono hc hs
  refine ⟨U, ?_, .threw T.heap.size, hrun, hend, Or.inr ⟨T.heap.size, rfl, cls, ce, locs, hx U hWs.alike f1 (fun q hq => f2 q hq (fun z hz => nomatch hz)), hce, hO.vm, hcl, hWs, hall, hf⟩⟩
  refine st1 _ ?_
  show Steps p.tables e below (T1.setTop { method := m, pc := pc + 3, locals := ls, stack := .ref T.heap.size :: rest, locked := none }) _
  jvm_step X₁.here [X₁.here.top, hexec, d3', Value.category]
  exact X₁.ldcStringW hexec (own := own) (text := text) (index := is) (a := sa) hown' hstr'.1 hstr'.2
    (g := { method := m, pc := pc + 4, locals := ls, stack := .ref T.heap.size :: .ref T.heap.size :: rest, locked := none }) rfl d4' _ hsteps
end Ends
section Bodies
variable {l : Launch}
theorem vx_ofW {y : MethodName} {ws ws' : List Cond} {rm : Room} {Pc : Array Value → State → Prop} {Qc : Array Value → State → Outcome → State → Prop} {XC : String → State → State → Prop} {mc ms : Nat} {free : Addr → Prop} {cc : ByteArray} {maxL : Nat} {ret : Option FieldType}
    (hy : plainName y.cls = true) (hw : ws = Cond.code y cc maxL ret :: ws')
    (body : ∀ p e s m args below meth c s₁, BodyLoose p l y (headSpec ws rm) cc maxL ret e s m args below meth c s₁ → c.maxLocals = maxL → (∀ x ∈ c.exceptionTable.toList, False) → Pc args s →
      W p l e (headSpec ws rm).room s m args below meth c s.heap [] 0 0 (vx_MQ below Qc XC args s mc ms free) (entryFrame m args maxL)) : vx_Met l y ws rm Pc Qc XC mc ms free := by
  refine MetFree.of_bodyS (code := cc) (maxLocals := maxL) (ret := ret) hy ?_ ?_
  · intro args s m h hn
    obtain ⟨meth, c, h1, h2, h3, h4, h5, h6, -, -⟩ := Cond.code_spec hn (atoms_spec (ws := ws) h _ (by rw [hw]; exact List.mem_cons_self))
    exact ⟨meth, c, h1, h2, h3, h4, h5, h6⟩
  · intro p e s m args below meth c s₁ B hml hP _
    have hh0 : s₁.heap = s.heap := by rw [B.state]; rfl
    have ht : ∀ x ∈ c.exceptionTable.toList, False := by
      obtain ⟨meth9, c9, h1, h2, -, -, -, -, h7, -⟩ := Cond.code_spec B.named (atoms_spec (ws := ws) B.pre _ (by rw [hw]; exact List.mem_cons_self))
      cases Option.some.inj (h1.symm.trans B.method)
      cases Option.some.inj (h2.symm.trans (Stand.of_body B).code)
      intro x hx
      rw [Array.isEmpty_iff.mp h7] at hx
      cases hx
    obtain ⟨t, a1, o, b1, b2, b3⟩ := body p e s m args below meth c s₁ B hml ht hP s₁ hh0 (Stand.of_body B)
    exact ⟨t, o, a1, b1, b2, b3⟩
/-- the table of a body with handlers -/
theorem vx_table {p : Program} {x y : MethodName} {S : Spec} {cc bytes : ByteArray} {maxL maxL' : Nat} {ret ret' : Option FieldType} {e : Env} {s s₁ : State} {m : MethodId} {args : Array Value} {below : List Frame} {meth : Method} {c : Code} {hh : List (Nat × Nat × Nat × Nat)}
    (B : BodyLoose p l y S cc maxL ret e s m args below meth c s₁) (h : (Cond.codeWith y bytes maxL' ret' hh).before args s = true) : c.exceptionTable.toList = tableOf hh := by
  obtain ⟨m9, meth9, c9, hn9, h1, h2, -, -, h6, -⟩ := Cond.codeWith_spec h
  cases Option.some.inj (hn9.symm.trans B.named)
  cases Option.some.inj (h1.symm.trans B.method)
  cases Option.some.inj (h2.symm.trans (Stand.of_body B).code)
  rw [← h6, table_eq]
end Bodies
end VXA
/-! ===== END ===== -/
/-! ===== BEGIN a static call of a method with an exception table ===== -/
section VXS
variable {p : Program} {l : Launch} {e : Env} {R : Room} {s : State} {m : MethodId} {args : Array Value} {below : List Frame} {meth : Method} {c : Code} {T : State} {H : Heap} {locs : List Loc} {cells slots : Nat}
abbrev vx_CSW (R : Room) (s : State) (args : Array Value) (own : String) (index : Nat) (y : MethodName) (bytes : ByteArray) (maxL : Nat) (ret : Option FieldType) (hh : List (Nat × Nat × Nat × Nat)) (ws : List Cond) (rm : Room) (mc ms n : Nat) : Prop :=
  (rm.cells = mc ∧ rm.slots = ms ∧ rm.frames + 1 ≤ R.frames ∧ 8 + (maxL + 11) + rm.locals ≤ R.locals ∧ (∀ w ∈ ws, ∀ (a' : Array Value) (U : State), s.WarmedH U.vm → w.before a' U = true) ∧ Cond.codeWith y bytes maxL ret hh ∈ ws) ∧
  (Cond.codeWith y bytes maxL ret hh).before args s = true ∧ (Cond.initialized y.cls).before args s = true ∧ (y.cls ≠ "java/lang/invoke/MethodHandle" ∧ y.cls ≠ "java/lang/invoke/VarHandle") ∧
  (∀ sig, parseMethodDescriptor y.desc = some sig → n = sig.parameters.length) ∧ (Cond.methodLink own index y).before args s = true ∧ (Cond.static y).before args s = true
theorem vx_cwSW {own : String} {index maxL mc ms : Nat} {y : MethodName} {bytes : ByteArray} {ret : Option FieldType} {hh : List (Nat × Nat × Nat × Nat)} {Ts ws ws' : List Cond} {rm : Room} (n : Nat) (ht : ∀ w ∈ Ts, w.before args s = true) (hT : GoodIn Ts (va_wsS own index y ws)) (hw : ws = Cond.codeWith y bytes maxL ret hh :: ws') (hrc : rm.cells = mc) (hrs : rm.slots = ms)
    (hd : y.cls ≠ "java/lang/invoke/MethodHandle" ∧ y.cls ≠ "java/lang/invoke/VarHandle" ∧ (parseMethodDescriptor y.desc).map (fun d => d.parameters.length) = some n) (hR : rm.frames + 1 ≤ R.frames ∧ 8 + (maxL + 11) + rm.locals ≤ R.locals) :
    vx_CSW R s args own index y bytes maxL ret hh ws rm mc ms n := by
  have ok : ∀ w ∈ va_wsS own index y ws, w.before args s = true := fun w h => ht w (hT w h).1
  have hG : GoodIn Ts ws := fun w h => hT w (by unfold va_wsS; exact List.mem_append_right _ h)
  have hc : Cond.codeWith y bytes maxL ret hh ∈ ws := by rw [hw]; exact List.mem_cons_self
  refine ⟨⟨hrc, hrs, hR.1, hR.2, pay_in ht hG, hc⟩, ht _ (hG _ hc).1, ok _ (by simp [va_wsS]), ⟨hd.1, hd.2.1⟩, fun sig h => ?_, ok _ (by simp [va_wsS]), ok _ (by simp [va_wsS])⟩
  have h2 := hd.2.2
  rw [h] at h2
  exact (Option.some.inj h2).symm
theorem vx_callSW (X : Stand p l e R s m args below meth c T locs cells slots) (hexec : p.tables.exec = Jvm.exec) {own : String} {index : Nat} {y : MethodName} {bytes : ByteArray} {maxL : Nat} {ret : Option FieldType} {hh : List (Nat × Nat × Nat × Nat)}
    (hown : s.vm.findClass own = some m.cls) (hlink : (Cond.methodLink own index y).before args s = true) (hstat : (Cond.static y).before args s = true) (hinit : (Cond.initialized y.cls).before args s = true)
    (hcode : (Cond.codeWith y bytes maxL ret hh).before args s = true) (hy : y.cls ≠ "java/lang/invoke/MethodHandle" ∧ y.cls ≠ "java/lang/invoke/VarHandle")
    {W9 : Nat} {Pre : Pt → Array Value → Prop} {Post : Pt → Array Value → Option Value → Pt → Prop} (hK : Back l R p e below s args y 3 W9 Pre Post)
    {g : JFrame} (hg : g.method = m) (hsize : g.locals.size = c.maxLocals) {argsL rest : List Value} (hlen : ∀ sig, parseMethodDescriptor y.desc = some sig → argsL.length = sig.parameters.length)
    (hstack : g.stack = argsL.reverse ++ rest) (hW : 2 * g.monitorRoom + (rest.map fun v => v.category).sum ≤ W9) (hdg : decode c.code g.pc = .ok (.invokestatic index, 3))
    (hpre : ∀ vm₁, s.WarmedH vm₁ → Pre ⟨T.setVm vm₁, locs, cells, slots⟩ argsL.toArray) :
    ∃ (v : Option Value) (vm₁ : Vm) (B : Pt), s.WarmedH vm₁ ∧ Stand p l e R s m args below meth c B.U B.locs B.cells B.slots ∧ Post ⟨T.setVm vm₁, locs, cells, slots⟩ argsL.toArray v B ∧
      ∀ target, Steps p.tables e below (B.U.setTop { g with pc := g.pc + 3, stack := v.toList ++ rest }) target → Steps p.tables e below (T.setTop g) target := by
  obtain ⟨mk, methM, cM, hnamed, hmethM, -, -, -, -, -, -, hsigM⟩ := Cond.codeWith_spec hcode
  have hstatic : methM.isStatic = true := Cond.static_spec hnamed hmethM hstat
  obtain ⟨kP, hkP, -⟩ := className_of_methodNamed hnamed
  have hinitP : kP.init = .initialized := Cond.initialized_spec (findClass_of_methodNamed hnamed) hkP hinit
  obtain ⟨vm₁, X₁, hstep₁⟩ := X.invokestatic hexec hown hlink hnamed hmethM hstatic hkP hinitP hy (g := g) hg (argsL := argsL) (rest := rest) (hlen _ hsigM) hstack hdg
  obtain ⟨v, B, X', hpost, hsteps⟩ := hK m meth c ⟨T.setVm vm₁, locs, cells, slots⟩ { g with stack := rest } (.invokestatic index) mk argsL.toArray X₁ hg hsize hdg hW (X₁.named hnamed) (hpre vm₁ X₁.warmed)
  exact ⟨v, vm₁, B, X₁.warmed, X', hpost, fun target h => hstep₁ _ fun acts => by rw [doInvoke_state]; exact hsteps.trans h⟩
theorem vx_runSW {y : MethodName} {bytes cc : ByteArray} {maxL nL mc ms n index : Nat} {ret : Option FieldType} {hh : List (Nat × Nat × Nat × Nat)} {ws : List Cond} {rm : Room} {Pc : Array Value → State → Prop} {Qc : Array Value → State → Outcome → State → Prop} {free : Addr → Prop} {Ts : List Cond} {own : String} {As rest : List Value} {g : JFrame}
    (S : CallFix p m c cc nL s args Ts own) (hM : Met l y ws rm Pc Qc mc ms free) (cw : vx_CSW R s args own index y bytes maxL ret hh ws rm mc ms n) (hp : PreS s H Pc As)
    (hg : g.method = m) (hn : As.length = n) (hsize : g.locals.size = nL) (hstack : g.stack = As.reverse ++ rest) (hW : 2 * g.monitorRoom + (rest.map fun v => v.category).sum ≤ 8) (hdg : decode cc g.pc = .ok (.invokestatic index, 3)) (hf : cells + mc ≤ R.cells ∧ slots + ms ≤ R.slots) :
    va_Run p l e R s m args below meth c H locs cells slots mc ms g rest (Qc As.toArray) (free) := by
  obtain ⟨⟨hrc, hrs, hfr, hlo, hws, hcw⟩, hcode, hini, hy, hlen, hl, hstt⟩ := cw
  have hK : Back l R p e below s args y 3 8 (PreOf R mc ms Pc) (PostOf Qc mc ms free) := va_backW (hh := hh) (bytes := bytes) (maxL := maxL) (ret := ret) hM hp.1 hrc hrs hfr hlo hws hcw (fun a' U hW => word_at hW (Or.inl (by first | rfl | simp [Cond.onTables, Cond.keeps, Cond.steady])) hini)
  obtain ⟨hx, hb, hml, ho, -⟩ := S
  intro T hT X
  obtain ⟨v, vm₁, ⟨U', l2, c2, s2⟩, hW₁, X', ⟨g', mk, t, L, e1, e2, hq, h1, hL, h2, h3⟩, st⟩ := vx_callSW X hx (hh := hh) (bytes := bytes) (maxL := maxL) (ret := ret) ho hl hstt hini hcode hy hK hg (hsize.trans hml.symm) (argsL := As) (rest := rest) (fun sig h => hn.trans (hlen sig h)) hstack hW (by rw [hb]; exact hdg)
    (fun vm₁ hW₁ => ⟨hf.1, hf.2, hp.2 (T.setVm vm₁) hT hW₁⟩)
  dsimp only [Pt.U, Pt.locs, Pt.cells, Pt.slots] at X' e1 e2 h1 h2 h3 st
  subst h1; subst h2; subst h3
  exact ⟨v, (T.setVm vm₁).calling g' mk As.toArray, t, U', L, hT, X', hL, e1, e2, hq, st⟩
/-- not caught here, past rows that name other classes: it goes on to the caller -/
theorem vx_outP {p : Program} {l : Launch} {e : Env} {R : Room} {s : State} {m : MethodId} {args : Array Value} {below : List Frame} {meth : Method} {c : Code} {H : Heap} {locs : List Loc} {cells slots : Nat} {free : Addr → Prop} {ls : Array Slot} {rest : List Value} {Qc : Array Value → State → Outcome → State → Prop} {XC : String → State → State → Prop}
    {pc : Nat} {own E : String} {ce : Cell} {q : Addr} {mc ms : Nat} (hown : s.vm.findClass own = some m.cls) (hlocks : meth.locks = false)
    (hpass : ∀ z ∈ c.exceptionTable.toList, covers z pc = false ∨ (z.catchType ≠ 0 ∧ ∃ nm : String, (Cond.classLink own z.catchType nm).before args s = true ∧ va_Nc E nm s)) (hcell : H[q]? = some ce) (hv : ce.vm = .none) (hcl : s.vm.findClass E = some ce.cls)
    (hx : ∀ t : State, t.heap = H → s.vm.Alike t.vm → XC E s t) (hf : ∀ z ∈ locs, free z.base) (hc : cells ≤ mc) (hs : slots ≤ ms) :
    vx_W p l e R s m args below meth c H locs cells slots (vx_MQ below Qc XC args s mc ms free) (F0 m pc ls rest) q := by
  intro T hT X
  have hpl : e.platform.magicAccessors = ({} : Platform).magicAccessors := by rw [X.admits.platform]
  obtain ⟨vm', hW', X', st⟩ := X.outThrough hlocks q (g := F0 m pc ls rest) rfl rfl rfl (cell := ce) (by rw [hT]; exact hcell) (by rw [hv]; rfl)
    (by obtain ⟨k9, h9, -⟩ := Vm.findClass_spec hcl; exact ⟨k9, h9⟩) (fun z hz => by
      rcases hpass z hz with h | ⟨hz0, nm, hl1, hn1⟩
      · exact Or.inl h
      · obtain ⟨c6, hc6, hcl6⟩ := Cond.classLink_spec hown hl1 e.platform hpl
        obtain ⟨a8, b8, h1, h2, h3⟩ := hn1
        cases Option.some.inj (h1.symm.trans hcl)
        cases Option.some.inj (h2.symm.trans hc6)
        exact Or.inr ⟨hz0, _, hcl6, h3⟩)
  obtain ⟨g₀, hfr⟩ := X'.frames_eq
  have hcell9 : ((T.setVm vm').setFrames (.throwing q :: below)).heap[q]? = some ce := by
    show T.heap[q]? = some ce
    rw [hT]; exact hcell
  have hend : Ended ((T.setVm vm').setFrames (.throwing q :: below)) below (.threw q) := State.frames_setFrames _ (State.cur_lt_of_frames hfr)
  refine ⟨(T.setVm vm').setFrames (.throwing q :: below), ?_, .threw q, X'.here.running, hend, Or.inr ⟨q, rfl, E, ce, locs, hx _ hT (X'.ends _).1.alike, hcell9, hv, hcl, (X'.ends _).1, (X'.ends _).2.mono hc hs, hf⟩⟩
  rw [X.pushThrowing_eq]
  exact st
/-- a thing of a world lies in the heap -/
theorem vx_lt {D : va_G} {cl : List vw_C} {ws : va_W} {H1 : Heap} (h : va_P D cl ws H1) {k : Nat} {q : Nat × va_E} (hk : ws[k]? = some q) : q.1 < H1.size := (h k q hk).lt
end VXS
/-! ===== END ===== -/
/-! ===== BEGIN methods with a table of their own: called by a name, returning or throwing ===== -/
section VXH
/-! vx_backW, vx_callVX, vx_callSX, vx_callVW, vx_runVW, vx_runVX, vx_runSX, vx_ofWH follow the same proofs as their sisters above (Free/Laws.lean, Shelf42/LK1.lean); vx_outP calls Shelf42/NT130.lean (outThrough). -/
section
variable {l : Launch} {R : Room} {p : Program} {e : Env} {below : List Frame} {s : State} {sargs : Array Value} {y : MethodName} {len W9 : Nat}
theorem vx_backW {ws : List Cond} {rm : Room} {Pc : Array Value → State → Prop} {Qc : Array Value → State → Outcome → State → Prop} {XC : String → State → State → Prop} {mc ms : Nat} {free : Addr → Prop} {bytes : ByteArray} {maxL : Nat} {ret : Option FieldType} {hh : List (Nat × Nat × Nat × Nat)}
    (hM : vx_Met l y ws rm Pc Qc XC mc ms free) (hblind : FrameBlind Pc) (hrc : rm.cells = mc) (hrs : rm.slots = ms)
    (hframes : rm.frames + 1 ≤ R.frames) (hlocals : W9 + (maxL + 11) + rm.locals ≤ R.locals)
    (hws : ∀ w ∈ ws, ∀ a' U, s.WarmedH U.vm → w.before a' U = true) (hcode : Cond.codeWith y bytes maxL ret hh ∈ ws) (hinit : ∀ a' U, s.WarmedH U.vm → (Cond.initialized y.cls).before a' U = true) :
    vx_Back l R p e below s sargs y len W9 (PreOf R mc ms Pc) (PostOf Qc mc ms free) (vx_Post XC mc ms free) := by
  intro m meth c A g ig mk a X hg hsize hdg hW hn hp
  have h1 : (headSpec ws rm).pre.before a A.U = true := atoms_intro fun w hw => hws w hw _ _ X.warmed
  have h2 : (Cond.codeWith y bytes maxL ret hh).before a A.U = true := hws _ hcode _ _ X.warmed
  have h3 : (Cond.initialized y.cls).before a A.U = true := hinit _ _ X.warmed
  have h4 : A.cells + (headSpec ws rm).room.cells ≤ R.cells := by rw [show (headSpec ws rm).room.cells = mc from hrc]; exact hp.1
  have h5 : A.slots + (headSpec ws rm).room.slots ≤ R.slots := by rw [show (headSpec ws rm).room.slots = ms from hrs]; exact hp.2.1
  have hPc : Pc a (A.U.calling g mk a) := hblind _ _ _ _ hp.2.2
  obtain ⟨U, Ls, c0, s0⟩ := A
  dsimp only [Pt.U, Pt.locs, Pt.cells, Pt.slots] at h1 h2 h3 h4 h5 X hn hPc ⊢
  obtain ⟨m9, methY, cY, hn9, hmY, hcY, -, hlY, -⟩ := Cond.codeWith_spec h2
  cases Option.some.inj (hn9.symm.trans hn)
  obtain ⟨kY, hkY, -⟩ := className_of_methodNamed hn
  have hinitY : kY.init = .initialized := Cond.initialized_spec (findClass_of_methodNamed hn) hkY h3
  have h : At U g.method c below := by rw [hg]; exact X.here
  have hlocals9 : W9 + (maxL + 11) + (headSpec ws rm).room.locals ≤ R.locals := hlocals
  have happ : (headSpec ws rm).appliesLoose y e.platform (U.calling g mk a) = true :=
    Spec.appliesLoose_calling (g := g) h hdg hn hkY hinitY
      (X.room_calling (g := g) (R' := (headSpec ws rm).room) hsize hmY hcY hframes (by rw [hlY]; omega) h4 h5) h1
  obtain ⟨mid, hmid⟩ := h.above
  have hfr : (U.setTop g).frames = (.java g :: mid) ++ below := by rw [State.frames_setTop' g h.top, hmid]; rfl
  obtain ⟨o, s₂, hsteps, -, hend, hq⟩ := Steps.callFree hM p X.admits X.cas X.clock (acts := []) hfr happ hPc trivial
  have hq' : vx_Q Qc XC mc ms free a (U.calling g mk a) o s₂ := hq
  rw [State.frames_setTop' g h.top] at hend
  obtain ⟨g₀, hg0⟩ := Option.isSome_iff_exists.mp h.top
  obtain ⟨r, hr⟩ := State.topJava?_eq_some.mp hg0
  have hr' : (({ U with heap := s₂.heap, slotsUsed := s₂.slotsUsed } : State).setVm s₂.vm).frames = .java g₀ :: r := hr
  rcases hq' with ⟨hqc, L, hfe, hL⟩ | ⟨q, rfl, E, ce, L, hx, hce, hcv, hcl, hW₂, hsm, hL⟩
  · obtain ⟨⟨v, rfl⟩, hW₂, e2, q2, q3, q4, q5, q6⟩ := id hfe
    have e3 : s₂ = ({ (U.calling g mk a).setFrames s₂.frames with heap := s₂.heap, slotsUsed := s₂.slotsUsed } : State).setVm s₂.vm := by
      have : s₂ = ({ s₂ with vm := (U.calling g mk a).vm } : State).setVm s₂.vm := rfl
      rw [e2] at this
      exact this
    obtain ⟨c₂, i₂, len₂, hc₂, hd₂, hf₂⟩ := hend
    have hW' : U.WarmedH s₂.vm := hW₂
    have hcc : c₂ = c := by
      have h1 : s₂.code? g.method = U.code? g.method := by
        rw [State.code?_eq, State.code?_eq, hW'.alike.method?]
      exact Option.some.inj (hc₂.symm.trans (h1.trans h.code))
    subst hcc
    have hlen : len₂ = len := by rw [hdg] at hd₂; cases hd₂; rfl
    subst hlen
    have hs₂ : s₂ = (({ U with heap := s₂.heap, slotsUsed := s₂.slotsUsed } : State).setVm s₂.vm).setTop { g with pc := g.pc + len₂, stack := v.toList ++ g.stack } := by
      refine e3.trans ?_
      rw [hf₂, State.calling_eq h.top, State.setFrames_setFrames, State.setTop_of_frames _ hr', hr]
      rfl
    have hsame : U.sameButNew ({ U with heap := s₂.heap, slotsUsed := s₂.slotsUsed } : State) L mc ms := by
      refine ⟨?_, q2, q3, q4, q5, q6⟩
      obtain ⟨t, ht, -⟩ := State.frames_cons hr
      show ({ U with heap := s₂.heap, slotsUsed := s₂.slotsUsed } : State) = { U.setFrames U.frames with heap := s₂.heap, slotsUsed := s₂.slotsUsed }
      rw [State.setFrames_self ht]
    subst hg
    refine Or.inl ⟨v, ⟨(({ U with heap := s₂.heap, slotsUsed := s₂.slotsUsed } : State).setVm s₂.vm), Ls ++ L, c0 + mc, s0 + ms⟩,
      ⟨X.admits, X.cas, X.clock, X.frames, X.room, X.hears, X.method, X.code, (X.here.setHeapUsed s₂.heap s₂.slotsUsed).setVm hW'.alike, X.tail, State.WarmedH.trans X.warmed hW', X.limits, X.bytes, X.same.trans (hsame.setVm s.vm)⟩,
      ⟨g, mk, s₂, L, rfl, rfl, hqc, rfl, hL, rfl, rfl⟩, ?_⟩
    show Steps p.tables e below _ ((({ U with heap := s₂.heap, slotsUsed := s₂.slotsUsed } : State).setVm s₂.vm).setTop { g with pc := g.pc + len₂, stack := v.toList ++ g.stack })
    rw [← hs₂]
    exact hsteps
  · obtain ⟨e2, q2, q3, q4, q5, q6⟩ := id hsm
    have e3 : s₂ = ({ (U.calling g mk a).setFrames s₂.frames with heap := s₂.heap, slotsUsed := s₂.slotsUsed } : State).setVm s₂.vm := by
      have : s₂ = ({ s₂ with vm := (U.calling g mk a).vm } : State).setVm s₂.vm := rfl
      rw [e2] at this
      exact this
    have hf₂ : s₂.frames = .throwing q :: .java g :: U.frames.tail := hend
    have hW' : U.WarmedH s₂.vm := hW₂
    have hs₂ : s₂ = ((({ U with heap := s₂.heap, slotsUsed := s₂.slotsUsed } : State).setVm s₂.vm).setTop g).pushFrame (.throwing q) := by
      refine e3.trans ?_
      rw [hf₂, State.calling_eq h.top, State.setFrames_setFrames, State.pushFrame, State.frames_setTop _ hr', State.setTop_of_frames _ hr', State.setFrames_setFrames, hr]
      rfl
    have hsame : U.sameButNew ({ U with heap := s₂.heap, slotsUsed := s₂.slotsUsed } : State) L mc ms := by
      refine ⟨?_, q2, q3, q4, q5, q6⟩
      obtain ⟨t, ht, -⟩ := State.frames_cons hr
      show ({ U with heap := s₂.heap, slotsUsed := s₂.slotsUsed } : State) = { U.setFrames U.frames with heap := s₂.heap, slotsUsed := s₂.slotsUsed }
      rw [State.setFrames_self ht]
    subst hg
    refine Or.inr ⟨q, ⟨(({ U with heap := s₂.heap, slotsUsed := s₂.slotsUsed } : State).setVm s₂.vm), Ls ++ L, c0 + mc, s0 + ms⟩,
      ⟨X.admits, X.cas, X.clock, X.frames, X.room, X.hears, X.method, X.code, (X.here.setHeapUsed s₂.heap s₂.slotsUsed).setVm hW'.alike, X.tail, State.WarmedH.trans X.warmed hW', X.limits, X.bytes, X.same.trans (hsame.setVm s.vm)⟩,
      ⟨g, mk, s₂, L, E, ce, rfl, rfl, hx, hce, hcv, hcl, rfl, hL, rfl, rfl⟩, ?_⟩
    show Steps p.tables e below _ (((({ U with heap := s₂.heap, slotsUsed := s₂.slotsUsed } : State).setVm s₂.vm).setTop g).pushFrame (.throwing q))
    rw [← hs₂]
    exact hsteps
end
variable {p : Program} {l : Launch} {e : Env} {R : Room} {s : State} {m : MethodId} {args : Array Value} {below : List Frame} {meth : Method} {c : Code} {T : State} {H : Heap} {locs : List Loc} {cells slots : Nat}
theorem vx_callVX (X : Stand p l e R s m args below meth c T locs cells slots) (hexec : p.tables.exec = Jvm.exec) {own C : String} {index : Nat} {y : MethodName} {bytes : ByteArray} {maxL : Nat} {ret : Option FieldType} {hh : List (Nat × Nat × Nat × Nat)}
    (hown : s.vm.findClass own = some m.cls) (hlink : (Cond.methodLink own index y).before args s = true) (hinst : (Cond.instanceMethod y).before args s = true) (hsel : (Cond.selects C y y).before args s = true)
    (hcode : (Cond.codeWith y bytes maxL ret hh).before args s = true) (hy : y.cls ≠ "java/lang/invoke/MethodHandle" ∧ y.cls ≠ "java/lang/invoke/VarHandle")
    {W9 : Nat} {Pre : Pt → Array Value → Prop} {Post : Pt → Array Value → Option Value → Pt → Prop} {PostX : Pt → Array Value → Addr → Pt → Prop} (hK : vx_Back l R p e below s args y 3 W9 Pre Post PostX)
    {b : Addr} {cellB : Cell} (hcell : T.heap[b]? = some cellB) (hobj : cellB.vm.isStatics = false) (hcls : s.vm.findClass C = some cellB.cls)
    {g : JFrame} (hg : g.method = m) (hsize : g.locals.size = c.maxLocals) {argsL rest : List Value} (hlen : ∀ sig, parseMethodDescriptor y.desc = some sig → argsL.length = sig.parameters.length)
    (hstack : g.stack = argsL.reverse ++ .ref b :: rest) (hW : 2 * g.monitorRoom + (rest.map fun v => v.category).sum ≤ W9) (hdg : decode c.code g.pc = .ok (.invokevirtual index, 3))
    (hpre : ∀ vm₁, s.WarmedH vm₁ → Pre ⟨T.setVm vm₁, locs, cells, slots⟩ (Value.ref b :: argsL).toArray) :
    (∃ (v : Option Value) (vm₁ : Vm) (B : Pt), s.WarmedH vm₁ ∧ Stand p l e R s m args below meth c B.U B.locs B.cells B.slots ∧ Post ⟨T.setVm vm₁, locs, cells, slots⟩ (Value.ref b :: argsL).toArray v B ∧
      ∀ target, Steps p.tables e below (B.U.setTop { g with pc := g.pc + 3, stack := v.toList ++ rest }) target → Steps p.tables e below (T.setTop g) target) ∨
    (∃ (q : Addr) (vm₁ : Vm) (B : Pt), s.WarmedH vm₁ ∧ Stand p l e R s m args below meth c B.U B.locs B.cells B.slots ∧ PostX ⟨T.setVm vm₁, locs, cells, slots⟩ (Value.ref b :: argsL).toArray q B ∧
      Steps p.tables e below (T.setTop g) ((B.U.setTop { g with stack := rest }).pushFrame (.throwing q))) := by
  obtain ⟨mk, methM, hnamed, hmethM, hstM, habM⟩ := Cond.instanceMethod_spec hinst
  obtain ⟨m8, methM', cM, hn8, hmethM', -, -, -, -, -, -, hsigM⟩ := Cond.codeWith_spec hcode
  cases Option.some.inj (hn8.symm.trans hnamed)
  cases hmethM.symm.trans hmethM'
  obtain ⟨c2, r2, m2, q1, q2, q3, q4, kP, hkP, hkPi⟩ := Cond.selects_spec hsel
  cases hcls.symm.trans q1
  cases (State.methodFound?_of_named hnamed hy).symm.trans q2
  cases hnamed.symm.trans q3
  have hselP : selectMethod e.platform s.vm cellB.cls mk = .method mk := by rw [Launch.admits_selectMethod X.admits]; exact q4
  obtain ⟨vm₁, X₁, hstep₁⟩ := X.invokevirtual hexec hown hlink hnamed hmethM hstM hkP hkPi hy (a := b) (cell := cellB) hcell
    (fun z h => by rw [h] at hobj; cases hobj) hselP hmethM habM hkP hkPi (g := g) hg (argsL := argsL) (rest := rest) (hlen _ hsigM) hstack hdg
  rcases hK m meth c ⟨T.setVm vm₁, locs, cells, slots⟩ { g with stack := rest } (.invokevirtual index) mk (Value.ref b :: argsL).toArray X₁ hg hsize hdg hW (X₁.named hnamed) (hpre vm₁ X₁.warmed) with ⟨v, B, X', hpost, hsteps⟩ | ⟨q, B, X', hpost, hsteps⟩
  · exact Or.inl ⟨v, vm₁, B, X₁.warmed, X', hpost, fun target h => hstep₁ _ fun acts => by rw [doInvoke_state]; exact hsteps.trans h⟩
  · exact Or.inr ⟨q, vm₁, B, X₁.warmed, X', hpost, hstep₁ _ fun acts => by rw [doInvoke_state]; exact hsteps⟩
theorem vx_callSX (X : Stand p l e R s m args below meth c T locs cells slots) (hexec : p.tables.exec = Jvm.exec) {own : String} {index : Nat} {y : MethodName} {bytes : ByteArray} {maxL : Nat} {ret : Option FieldType} {hh : List (Nat × Nat × Nat × Nat)}
    (hown : s.vm.findClass own = some m.cls) (hlink : (Cond.methodLink own index y).before args s = true) (hstat : (Cond.static y).before args s = true) (hinit : (Cond.initialized y.cls).before args s = true)
    (hcode : (Cond.codeWith y bytes maxL ret hh).before args s = true) (hy : y.cls ≠ "java/lang/invoke/MethodHandle" ∧ y.cls ≠ "java/lang/invoke/VarHandle")
    {W9 : Nat} {Pre : Pt → Array Value → Prop} {Post : Pt → Array Value → Option Value → Pt → Prop} {PostX : Pt → Array Value → Addr → Pt → Prop} (hK : vx_Back l R p e below s args y 3 W9 Pre Post PostX)
    {g : JFrame} (hg : g.method = m) (hsize : g.locals.size = c.maxLocals) {argsL rest : List Value} (hlen : ∀ sig, parseMethodDescriptor y.desc = some sig → argsL.length = sig.parameters.length)
    (hstack : g.stack = argsL.reverse ++ rest) (hW : 2 * g.monitorRoom + (rest.map fun v => v.category).sum ≤ W9) (hdg : decode c.code g.pc = .ok (.invokestatic index, 3))
    (hpre : ∀ vm₁, s.WarmedH vm₁ → Pre ⟨T.setVm vm₁, locs, cells, slots⟩ argsL.toArray) :
    (∃ (v : Option Value) (vm₁ : Vm) (B : Pt), s.WarmedH vm₁ ∧ Stand p l e R s m args below meth c B.U B.locs B.cells B.slots ∧ Post ⟨T.setVm vm₁, locs, cells, slots⟩ argsL.toArray v B ∧
      ∀ target, Steps p.tables e below (B.U.setTop { g with pc := g.pc + 3, stack := v.toList ++ rest }) target → Steps p.tables e below (T.setTop g) target) ∨
    (∃ (q : Addr) (vm₁ : Vm) (B : Pt), s.WarmedH vm₁ ∧ Stand p l e R s m args below meth c B.U B.locs B.cells B.slots ∧ PostX ⟨T.setVm vm₁, locs, cells, slots⟩ argsL.toArray q B ∧
      Steps p.tables e below (T.setTop g) ((B.U.setTop { g with stack := rest }).pushFrame (.throwing q))) := by
  obtain ⟨mk, methM, cM, hnamed, hmethM, -, -, -, -, -, -, hsigM⟩ := Cond.codeWith_spec hcode
  have hstatic : methM.isStatic = true := Cond.static_spec hnamed hmethM hstat
  obtain ⟨kP, hkP, -⟩ := className_of_methodNamed hnamed
  have hinitP : kP.init = .initialized := Cond.initialized_spec (findClass_of_methodNamed hnamed) hkP hinit
  obtain ⟨vm₁, X₁, hstep₁⟩ := X.invokestatic hexec hown hlink hnamed hmethM hstatic hkP hinitP hy (g := g) hg (argsL := argsL) (rest := rest) (hlen _ hsigM) hstack hdg
  rcases hK m meth c ⟨T.setVm vm₁, locs, cells, slots⟩ { g with stack := rest } (.invokestatic index) mk argsL.toArray X₁ hg hsize hdg hW (X₁.named hnamed) (hpre vm₁ X₁.warmed) with ⟨v, B, X', hpost, hsteps⟩ | ⟨q, B, X', hpost, hsteps⟩
  · exact Or.inl ⟨v, vm₁, B, X₁.warmed, X', hpost, fun target h => hstep₁ _ fun acts => by rw [doInvoke_state]; exact hsteps.trans h⟩
  · exact Or.inr ⟨q, vm₁, B, X₁.warmed, X', hpost, hstep₁ _ fun acts => by rw [doInvoke_state]; exact hsteps⟩
theorem vx_callVW (X : Stand p l e R s m args below meth c T locs cells slots) (hexec : p.tables.exec = Jvm.exec) {own C : String} {index : Nat} {y : MethodName} {bytes : ByteArray} {maxL : Nat} {ret : Option FieldType} {hh : List (Nat × Nat × Nat × Nat)}
    (hown : s.vm.findClass own = some m.cls) (hlink : (Cond.methodLink own index y).before args s = true) (hinst : (Cond.instanceMethod y).before args s = true) (hsel : (Cond.selects C y y).before args s = true)
    (hcode : (Cond.codeWith y bytes maxL ret hh).before args s = true) (hy : y.cls ≠ "java/lang/invoke/MethodHandle" ∧ y.cls ≠ "java/lang/invoke/VarHandle")
    {W9 : Nat} {Pre : Pt → Array Value → Prop} {Post : Pt → Array Value → Option Value → Pt → Prop} (hK : Back l R p e below s args y 3 W9 Pre Post)
    {b : Addr} {cellB : Cell} (hcell : T.heap[b]? = some cellB) (hobj : cellB.vm.isStatics = false) (hcls : s.vm.findClass C = some cellB.cls)
    {g : JFrame} (hg : g.method = m) (hsize : g.locals.size = c.maxLocals) {argsL rest : List Value} (hlen : ∀ sig, parseMethodDescriptor y.desc = some sig → argsL.length = sig.parameters.length)
    (hstack : g.stack = argsL.reverse ++ .ref b :: rest) (hW : 2 * g.monitorRoom + (rest.map fun v => v.category).sum ≤ W9) (hdg : decode c.code g.pc = .ok (.invokevirtual index, 3))
    (hpre : ∀ vm₁, s.WarmedH vm₁ → Pre ⟨T.setVm vm₁, locs, cells, slots⟩ (Value.ref b :: argsL).toArray) :
    ∃ (v : Option Value) (vm₁ : Vm) (B : Pt), s.WarmedH vm₁ ∧ Stand p l e R s m args below meth c B.U B.locs B.cells B.slots ∧ Post ⟨T.setVm vm₁, locs, cells, slots⟩ (Value.ref b :: argsL).toArray v B ∧
      ∀ target, Steps p.tables e below (B.U.setTop { g with pc := g.pc + 3, stack := v.toList ++ rest }) target → Steps p.tables e below (T.setTop g) target := by
  obtain ⟨mk, methM, hnamed, hmethM, hstM, habM⟩ := Cond.instanceMethod_spec hinst
  obtain ⟨m8, methM', cM, hn8, hmethM', -, -, -, -, -, -, hsigM⟩ := Cond.codeWith_spec hcode
  cases Option.some.inj (hn8.symm.trans hnamed)
  cases hmethM.symm.trans hmethM'
  obtain ⟨c2, r2, m2, q1, q2, q3, q4, kP, hkP, hkPi⟩ := Cond.selects_spec hsel
  cases hcls.symm.trans q1
  cases (State.methodFound?_of_named hnamed hy).symm.trans q2
  cases hnamed.symm.trans q3
  have hselP : selectMethod e.platform s.vm cellB.cls mk = .method mk := by rw [Launch.admits_selectMethod X.admits]; exact q4
  obtain ⟨vm₁, X₁, hstep₁⟩ := X.invokevirtual hexec hown hlink hnamed hmethM hstM hkP hkPi hy (a := b) (cell := cellB) hcell
    (fun z h => by rw [h] at hobj; cases hobj) hselP hmethM habM hkP hkPi (g := g) hg (argsL := argsL) (rest := rest) (hlen _ hsigM) hstack hdg
  obtain ⟨v, B, X', hpost, hsteps⟩ := hK m meth c ⟨T.setVm vm₁, locs, cells, slots⟩ { g with stack := rest } (.invokevirtual index) mk (Value.ref b :: argsL).toArray X₁ hg hsize hdg hW (X₁.named hnamed) (hpre vm₁ X₁.warmed)
  exact ⟨v, vm₁, B, X₁.warmed, X', hpost, fun target h => hstep₁ _ fun acts => by rw [doInvoke_state]; exact hsteps.trans h⟩
abbrev vx_CVW (R : Room) (s : State) (args : Array Value) (own C : String) (index : Nat) (y : MethodName) (bytes : ByteArray) (maxL : Nat) (ret : Option FieldType) (hh : List (Nat × Nat × Nat × Nat)) (ws : List Cond) (rm : Room) (mc ms n : Nat) : Prop :=
  (rm.cells = mc ∧ rm.slots = ms ∧ rm.frames + 1 ≤ R.frames ∧ 8 + (maxL + 11) + rm.locals ≤ R.locals ∧ (∀ w ∈ ws, ∀ (a' : Array Value) (U : State), s.WarmedH U.vm → w.before a' U = true) ∧ Cond.codeWith y bytes maxL ret hh ∈ ws) ∧
  (Cond.codeWith y bytes maxL ret hh).before args s = true ∧ (Cond.initialized y.cls).before args s = true ∧ (y.cls ≠ "java/lang/invoke/MethodHandle" ∧ y.cls ≠ "java/lang/invoke/VarHandle") ∧
  (∀ sig, parseMethodDescriptor y.desc = some sig → n = sig.parameters.length) ∧ (Cond.methodLink own index y).before args s = true ∧ (Cond.instanceMethod y).before args s = true ∧ (Cond.selects C y y).before args s = true
theorem vx_cwVW {own C : String} {index maxL mc ms : Nat} {y : MethodName} {bytes : ByteArray} {ret : Option FieldType} {hh : List (Nat × Nat × Nat × Nat)} {Ts ws ws' : List Cond} {rm : Room} (n : Nat) (ht : ∀ w ∈ Ts, w.before args s = true) (hT : GoodIn Ts (wsV own index C y ws)) (hw : ws = Cond.codeWith y bytes maxL ret hh :: ws') (hrc : rm.cells = mc) (hrs : rm.slots = ms)
    (hd : y.cls = C ∧ y.cls ≠ "java/lang/invoke/MethodHandle" ∧ y.cls ≠ "java/lang/invoke/VarHandle" ∧ (parseMethodDescriptor y.desc).map (fun d => d.parameters.length) = some n) (hR : rm.frames + 1 ≤ R.frames ∧ 8 + (maxL + 11) + rm.locals ≤ R.locals) :
    vx_CVW R s args own C index y bytes maxL ret hh ws rm mc ms n := by
  obtain ⟨hC, hd⟩ := hd
  subst hC
  have ok : ∀ w ∈ wsV own index y.cls y ws, w.before args s = true := fun w h => ht w (hT w h).1
  have hG : GoodIn Ts ws := fun w h => hT w (by unfold wsV; exact List.mem_append_right _ h)
  have hc : Cond.codeWith y bytes maxL ret hh ∈ ws := by rw [hw]; exact List.mem_cons_self
  refine ⟨⟨hrc, hrs, hR.1, hR.2, pay_in ht hG, hc⟩, ht _ (hG _ hc).1, ok _ (by simp [wsV]), ⟨hd.1, hd.2.1⟩, fun sig h => ?_, ok _ (by simp [wsV]), ok _ (by simp [wsV]), ok _ (by simp [wsV])⟩
  have h2 := hd.2.2
  rw [h] at h2
  exact (Option.some.inj h2).symm
theorem vx_runVW {y : MethodName} {bytes cc : ByteArray} {maxL nL mc ms n index : Nat} {ret : Option FieldType} {hh : List (Nat × Nat × Nat × Nat)} {ws : List Cond} {rm : Room} {Pc : Array Value → State → Prop} {Qc : Array Value → State → Outcome → State → Prop} {free : Addr → Prop} {Ts : List Cond} {own C : String} {b : Addr} {As rest : List Value} {g : JFrame}
    (S : CallFix p m c cc nL s args Ts own) (hM : Met l y ws rm Pc Qc mc ms free) (cw : vx_CVW R s args own C index y bytes maxL ret hh ws rm mc ms n) (hp : PreV s H C b Pc As)
    (hg : g.method = m) (hn : As.length = n) (hsize : g.locals.size = nL) (hstack : g.stack = As.reverse ++ .ref b :: rest) (hW : 2 * g.monitorRoom + (rest.map fun v => v.category).sum ≤ 8) (hdg : decode cc g.pc = .ok (.invokevirtual index, 3)) (hf : cells + mc ≤ R.cells ∧ slots + ms ≤ R.slots) :
    va_Run p l e R s m args below meth c H locs cells slots mc ms g rest (Qc (Value.ref b :: As).toArray) free := by
  obtain ⟨⟨hrc, hrs, hfr, hlo, hws, hcw⟩, hcode, hini, hy, hlen, hl, hin, hse⟩ := cw
  have hK : Back l R p e below s args y 3 8 (PreOf R mc ms Pc) (PostOf Qc mc ms free) := va_backW (hh := hh) (bytes := bytes) (maxL := maxL) (ret := ret) hM hp.1 hrc hrs hfr hlo hws hcw (fun a' U hW => word_at hW (Or.inl (by first | rfl | simp [Cond.onTables, Cond.keeps, Cond.steady])) hini)
  obtain ⟨hx, hb, hml, ho, -⟩ := S
  obtain ⟨-, ⟨cellB, hcB, hoB, hclB⟩, hPc⟩ := hp
  intro T hT X
  obtain ⟨v, vm₁, ⟨U', l2, c2, s2⟩, hW₁, X', ⟨g', mk, t, L, e1, e2, hq, h1, hL, h2, h3⟩, st⟩ := vx_callVW X hx (C := C) (hh := hh) (bytes := bytes) (maxL := maxL) (ret := ret) ho hl hin hse hcode hy hK (by rw [hT]; exact hcB) hoB hclB hg (hsize.trans hml.symm) (argsL := As) (rest := rest) (fun sig h => hn.trans (hlen sig h)) hstack hW (by rw [hb]; exact hdg)
    (fun vm₁ hW₁ => ⟨hf.1, hf.2, hPc (T.setVm vm₁) hT hW₁⟩)
  dsimp only [Pt.U, Pt.locs, Pt.cells, Pt.slots] at X' e1 e2 h1 h2 h3 st
  subst h1; subst h2; subst h3
  exact ⟨v, (T.setVm vm₁).calling g' mk (Value.ref b :: As).toArray, t, U', L, hT, X', hL, e1, e2, hq, st⟩
section
variable {y : MethodName} {bytes cc : ByteArray} {maxL nL mc ms n index : Nat} {ret : Option FieldType} {ws : List Cond} {rm : Room} {Pc : Array Value → State → Prop} {Qc : Array Value → State → Outcome → State → Prop} {XC : String → State → State → Prop} {free : Addr → Prop} {Ts : List Cond} {own C : String} {b : Addr} {As rest : List Value} {g : JFrame}
theorem vx_runVX {hh : List (Nat × Nat × Nat × Nat)} (S : CallFix p m c cc nL s args Ts own) (hM : vx_Met l y ws rm Pc Qc XC mc ms free) (cw : vx_CVW R s args own C index y bytes maxL ret hh ws rm mc ms n) (hp : PreV s H C b Pc As)
    (hg : g.method = m) (hn : As.length = n) (hsize : g.locals.size = nL) (hstack : g.stack = As.reverse ++ .ref b :: rest) (hW : 2 * g.monitorRoom + (rest.map fun v => v.category).sum ≤ 8) (hdg : decode cc g.pc = .ok (.invokevirtual index, 3)) (hf : cells + mc ≤ R.cells ∧ slots + ms ≤ R.slots) :
    vx_Run p l e R s m args below meth c H locs cells slots mc ms g rest (Qc (Value.ref b :: As).toArray) XC free := by
  obtain ⟨⟨hrc, hrs, hfr, hlo, hws, hcw⟩, hcode, hini, hy, hlen, hl, hin, hse⟩ := cw
  have hK : vx_Back l R p e below s args y 3 8 (PreOf R mc ms Pc) (PostOf Qc mc ms free) (vx_Post XC mc ms free) := vx_backW (hh := hh) (bytes := bytes) (maxL := maxL) (ret := ret) hM hp.1 hrc hrs hfr hlo hws hcw (fun a' U hW => word_at hW (Or.inl (by first | rfl | simp [Cond.onTables, Cond.keeps, Cond.steady])) hini)
  obtain ⟨hx, hb, hml, ho, -⟩ := S
  obtain ⟨-, ⟨cellB, hcB, hoB, hclB⟩, hPc⟩ := hp
  intro T hT X
  rcases vx_callVX X hx (C := C) (hh := hh) (bytes := bytes) (maxL := maxL) (ret := ret) ho hl hin hse hcode hy hK (by rw [hT]; exact hcB) hoB hclB hg (hsize.trans hml.symm) (argsL := As) (rest := rest) (fun sig h => hn.trans (hlen sig h)) hstack hW (by rw [hb]; exact hdg)
    (fun vm₁ hW₁ => ⟨hf.1, hf.2, hPc (T.setVm vm₁) hT hW₁⟩) with ⟨v, vm₁, ⟨U', l2, c2, s2⟩, hW₁, X', ⟨g', mk, t, L, e1, e2, hq, h1, hL, h2, h3⟩, st⟩ | ⟨q, vm₁, ⟨U', l2, c2, s2⟩, hW₁, X', ⟨g', mk, t, L, E, ce, e1, e2, hq, hce, hcv, hcl, h1, hL, h2, h3⟩, st⟩
  · dsimp only [Pt.U, Pt.locs, Pt.cells, Pt.slots] at X' e1 e2 h1 h2 h3 st
    subst h1; subst h2; subst h3
    exact Or.inl ⟨v, (T.setVm vm₁).calling g' mk (Value.ref b :: As).toArray, t, U', L, hT, X', hL, e1, e2, hq, st⟩
  · dsimp only [Pt.U, Pt.locs, Pt.cells, Pt.slots] at X' e1 e2 h1 h2 h3 st hcl
    subst h1; subst h2; subst h3
    exact Or.inr ⟨q, (T.setVm vm₁).calling g' mk (Value.ref b :: As).toArray, t, U', L, E, ce, hT, X', hL, e1, e2, hq, hce, hcv, vx_cls hW₁ hcl, st⟩
theorem vx_runSX {hh : List (Nat × Nat × Nat × Nat)} (S : CallFix p m c cc nL s args Ts own) (hM : vx_Met l y ws rm Pc Qc XC mc ms free) (cw : vx_CSW R s args own index y bytes maxL ret hh ws rm mc ms n) (hp : PreS s H Pc As)
    (hg : g.method = m) (hn : As.length = n) (hsize : g.locals.size = nL) (hstack : g.stack = As.reverse ++ rest) (hW : 2 * g.monitorRoom + (rest.map fun v => v.category).sum ≤ 8) (hdg : decode cc g.pc = .ok (.invokestatic index, 3)) (hf : cells + mc ≤ R.cells ∧ slots + ms ≤ R.slots) :
    vx_Run p l e R s m args below meth c H locs cells slots mc ms g rest (Qc As.toArray) XC free := by
  obtain ⟨⟨hrc, hrs, hfr, hlo, hws, hcw⟩, hcode, hini, hy, hlen, hl, hstt⟩ := cw
  have hK : vx_Back l R p e below s args y 3 8 (PreOf R mc ms Pc) (PostOf Qc mc ms free) (vx_Post XC mc ms free) := vx_backW (hh := hh) (bytes := bytes) (maxL := maxL) (ret := ret) hM hp.1 hrc hrs hfr hlo hws hcw (fun a' U hW => word_at hW (Or.inl (by first | rfl | simp [Cond.onTables, Cond.keeps, Cond.steady])) hini)
  obtain ⟨hx, hb, hml, ho, -⟩ := S
  intro T hT X
  rcases vx_callSX X hx (hh := hh) (bytes := bytes) (maxL := maxL) (ret := ret) ho hl hstt hini hcode hy hK hg (hsize.trans hml.symm) (argsL := As) (rest := rest) (fun sig h => hn.trans (hlen sig h)) hstack hW (by rw [hb]; exact hdg)
    (fun vm₁ hW₁ => ⟨hf.1, hf.2, hp.2 (T.setVm vm₁) hT hW₁⟩) with ⟨v, vm₁, ⟨U', l2, c2, s2⟩, hW₁, X', ⟨g', mk, t, L, e1, e2, hq, h1, hL, h2, h3⟩, st⟩ | ⟨q, vm₁, ⟨U', l2, c2, s2⟩, hW₁, X', ⟨g', mk, t, L, E, ce, e1, e2, hq, hce, hcv, hcl, h1, hL, h2, h3⟩, st⟩
  · dsimp only [Pt.U, Pt.locs, Pt.cells, Pt.slots] at X' e1 e2 h1 h2 h3 st
    subst h1; subst h2; subst h3
    exact Or.inl ⟨v, (T.setVm vm₁).calling g' mk As.toArray, t, U', L, hT, X', hL, e1, e2, hq, st⟩
  · dsimp only [Pt.U, Pt.locs, Pt.cells, Pt.slots] at X' e1 e2 h1 h2 h3 st hcl
    subst h1; subst h2; subst h3
    exact Or.inr ⟨q, (T.setVm vm₁).calling g' mk As.toArray, t, U', L, E, ce, hT, X', hL, e1, e2, hq, hce, hcv, vx_cls hW₁ hcl, st⟩
end
end VXH
theorem vx_ofWH {l : Launch} {y : MethodName} {ws ws' : List Cond} {rm : Room} {Pc : Array Value → State → Prop} {Qc : Array Value → State → Outcome → State → Prop} {XC : String → State → State → Prop} {mc ms : Nat} {free : Addr → Prop} {cc : ByteArray} {maxL : Nat} {ret : Option FieldType} {hh : List (Nat × Nat × Nat × Nat)}
    (hy : plainName y.cls = true) (hw : ws = Cond.codeWith y cc maxL ret hh :: ws')
    (body : ∀ p e s m args below meth c s₁, BodyLoose p l y (headSpec ws rm) cc maxL ret e s m args below meth c s₁ → c.maxLocals = maxL → Pc args s →
      W p l e (headSpec ws rm).room s m args below meth c s.heap [] 0 0 (vx_MQ below Qc XC args s mc ms free) (entryFrame m args maxL)) : vx_Met l y ws rm Pc Qc XC mc ms free := by
  refine MetFree.of_bodyS (code := cc) (maxLocals := maxL) (ret := ret) hy ?_ ?_
  · intro args s m h hn
    obtain ⟨m9, meth, c, hn9, h1, h2, h3, h4, -, h5, h6, -⟩ := Cond.codeWith_spec (atoms_spec (ws := ws) h _ (by rw [hw]; exact List.mem_cons_self))
    cases hn.symm.trans hn9
    exact ⟨meth, c, h1, h2, h3, h4, h5, h6⟩
  · intro p e s m args below meth c s₁ B hml hP _
    have hh0 : s₁.heap = s.heap := by rw [B.state]; rfl
    obtain ⟨t, a1, o, b1, b2, b3⟩ := body p e s m args below meth c s₁ B hml hP s₁ hh0 (Stand.of_body B)
    exact ⟨t, o, a1, b1, b2, b3⟩
/-! ===== END ===== -/

/-! ===== BEGIN printed: names, fields, word lists, decode rows ===== -/
def RX0 : String := "LetterForms$Algebra"
def TX0 : u_T := fun k => match k with
  | 0 => ("LetterForms$Algebra", "state", "LLetterForms$State;", true)
  | 1 => ("LetterForms$Algebra", "left", "LLetterForms$Form;", true)
  | _ => ("LetterForms$Algebra", "right", "LLetterForms$Form;", true)
def tyX0 : Nat → FieldType := fun k => match k with
  | 0 => .object "LetterForms$State"
  | 1 => .object "LetterForms$Form"
  | _ => .object "LetterForms$Form"
abbrev wsX00 : List Cond := u_ws RX0 TX0 3
theorem nmX0 : ∀ a, a < 3 → ∀ b, b < 3 → a ≠ b → (TX0 a).2.1 ≠ (TX0 b).2.1 := by decide +kernel
theorem tyX0_ok : ∀ k, k < 3 → parseFieldDescriptor (TX0 k).2.2.1 = some (tyX0 k) := by decide +kernel
abbrev cX0_init : ByteArray := prog_2_method_1_code
def yX0_init : MethodName := ⟨RX0, "<init>", "(LLetterForms$State;)V"⟩
abbrev cX0_p : ByteArray := prog_2_method_2_code
def yX0_p : MethodName := ⟨RX0, "p", "()I"⟩
abbrev cX0_of : ByteArray := prog_2_method_3_code
def yX0_of : MethodName := ⟨RX0, "of", "(J)I"⟩
abbrev cX0_power : ByteArray := prog_2_method_4_code
def yX0_power : MethodName := ⟨RX0, "power", "(II)I"⟩
abbrev cX0_inverse : ByteArray := prog_2_method_5_code
def yX0_inverse : MethodName := ⟨RX0, "inverse", "(I)I"⟩
abbrev cX0_detOf : ByteArray := prog_2_method_6_code
def yX0_detOf : MethodName := ⟨RX0, "detOf", "(IIII)I"⟩
abbrev cX0_fill : ByteArray := prog_2_method_7_code
def yX0_fill : MethodName := ⟨RX0, "fill", "(LLetterForms$Table;IIII)V"⟩
abbrev cX0_tables : ByteArray := prog_2_method_8_code
def yX0_tables : MethodName := ⟨RX0, "tables", "()I"⟩
abbrev cX0_worth : ByteArray := prog_2_method_9_code
def yX0_worth : MethodName := ⟨RX0, "worth", "(LLetterForms$Form;II)I"⟩
abbrev cX0_scale : ByteArray := prog_2_method_10_code
def yX0_scale : MethodName := ⟨RX0, "scale", "(LLetterForms$Form;I)V"⟩
abbrev cX0_addTo : ByteArray := prog_2_method_11_code
def yX0_addTo : MethodName := ⟨RX0, "addTo", "(LLetterForms$Form;LLetterForms$Form;)Z"⟩
abbrev cX0_mixInto : ByteArray := prog_2_method_12_code
def yX0_mixInto : MethodName := ⟨RX0, "mixInto", "(LLetterForms$Form;LLetterForms$Table;LLetterForms$Form;)V"⟩
abbrev cX0_multiplyByLine : ByteArray := prog_2_method_13_code
def yX0_multiplyByLine : MethodName := ⟨RX0, "multiplyByLine", "(LLetterForms$Form;II)V"⟩
abbrev cX0_multiplyInto : ByteArray := prog_2_method_14_code
def yX0_multiplyInto : MethodName := ⟨RX0, "multiplyInto", "(LLetterForms$Form;LLetterForms$Form;LLetterForms$Form;)Z"⟩
abbrev cX0_addProduct : ByteArray := prog_2_method_15_code
def yX0_addProduct : MethodName := ⟨RX0, "addProduct", "(LLetterForms$Form;LLetterForms$Form;ILLetterForms$Form;)V"⟩
abbrev cX0_overlapInto : ByteArray := prog_2_method_16_code
def yX0_overlapInto : MethodName := ⟨RX0, "overlapInto", "(LLetterForms$Form;LLetterForms$Form;ILLetterForms$Form;)Z"⟩
abbrev cX0_differentiate : ByteArray := prog_2_method_17_code
def yX0_differentiate : MethodName := ⟨RX0, "differentiate", "(LLetterForms$Form;IILLetterForms$Form;)V"⟩
abbrev cX0_howOften : ByteArray := prog_2_method_18_code
def yX0_howOften : MethodName := ⟨RX0, "howOften", "(LLetterForms$Form;I)I"⟩
abbrev cX0_dropRoot : ByteArray := prog_2_method_19_code
def yX0_dropRoot : MethodName := ⟨RX0, "dropRoot", "(LLetterForms$Form;I)V"⟩
abbrev cX0_divideInto : ByteArray := prog_2_method_20_code
def yX0_divideInto : MethodName := ⟨RX0, "divideInto", "(LLetterForms$Form;LLetterForms$Form;LLetterForms$Form;)Z"⟩
abbrev cX0_shareInto : ByteArray := prog_2_method_21_code
def yX0_shareInto : MethodName := ⟨RX0, "shareInto", "(LLetterForms$Form;LLetterForms$Form;LLetterForms$Form;)V"⟩
abbrev cX0_takeRest : ByteArray := prog_2_method_22_code
def yX0_takeRest : MethodName := ⟨RX0, "takeRest", "(LLetterForms$Form;LLetterForms$Form;)V"⟩
def RX1 : String := "LetterForms$Calculator"
def TX1 : u_T := fun k => match k with
  | 0 => ("LetterForms$Calculator", "algebra", "LLetterForms$Algebra;", true)
  | 1 => ("LetterForms$Calculator", "stack", "[LLetterForms$Form;", true)
  | 2 => ("LetterForms$Calculator", "totals", "[I", true)
  | 3 => ("LetterForms$Calculator", "number", "LLetterForms$Form;", true)
  | 4 => ("LetterForms$Calculator", "result", "LLetterForms$Form;", true)
  | _ => ("LetterForms$Calculator", "top", "I", false)
def tyX1 : Nat → FieldType := fun k => match k with
  | 0 => .object "LetterForms$Algebra"
  | 1 => .array (.object "LetterForms$Form")
  | 2 => .array .int
  | 3 => .object "LetterForms$Form"
  | 4 => .object "LetterForms$Form"
  | _ => .int
abbrev wsX10 : List Cond := u_ws RX1 TX1 6
theorem nmX1 : ∀ a, a < 6 → ∀ b, b < 6 → a ≠ b → (TX1 a).2.1 ≠ (TX1 b).2.1 := by decide +kernel
theorem tyX1_ok : ∀ k, k < 6 → parseFieldDescriptor (TX1 k).2.2.1 = some (tyX1 k) := by decide +kernel
abbrev cX1_init : ByteArray := prog_3_method_1_code
def yX1_init : MethodName := ⟨RX1, "<init>", "(LLetterForms$Algebra;)V"⟩
abbrev cX1_valueOf : ByteArray := prog_3_method_2_code
def yX1_valueOf : MethodName := ⟨RX1, "valueOf", "(LLetterForms$Signs;LLetterForms$Form;)LLetterForms$Form;"⟩
abbrev cX1_isLaid : ByteArray := prog_3_method_3_code
def yX1_isLaid : MethodName := ⟨RX1, "isLaid", "(LLetterForms$Form;)Z"⟩
abbrev cX1_isTurned : ByteArray := prog_3_method_4_code
def yX1_isTurned : MethodName := ⟨RX1, "isTurned", "()Z"⟩
abbrev cX1_isJoined : ByteArray := prog_3_method_5_code
def yX1_isJoined : MethodName := ⟨RX1, "isJoined", "(II)Z"⟩
abbrev cX1_total : ByteArray := prog_3_method_6_code
def yX1_total : MethodName := ⟨RX1, "total", "(LLetterForms$Signs;Z)I"⟩
abbrev cX1_isTotalLaid : ByteArray := prog_3_method_7_code
def yX1_isTotalLaid : MethodName := ⟨RX1, "isTotalLaid", "(I)Z"⟩
abbrev cX1_isTotalJoined : ByteArray := prog_3_method_8_code
def yX1_isTotalJoined : MethodName := ⟨RX1, "isTotalJoined", "(II)Z"⟩
def RX2 : String := "LetterForms$Form"
def TX2 : u_T := fun k => match k with
  | 0 => ("LetterForms$Form", "degree", "I", false)
  | _ => ("LetterForms$Form", "numbers", "[I", true)
def tyX2 : Nat → FieldType := fun k => match k with
  | 0 => .int
  | _ => .array .int
abbrev wsX20 : List Cond := u_ws RX2 TX2 2
theorem nmX2 : ∀ a, a < 2 → ∀ b, b < 2 → a ≠ b → (TX2 a).2.1 ≠ (TX2 b).2.1 := by decide +kernel
theorem tyX2_ok : ∀ k, k < 2 → parseFieldDescriptor (TX2 k).2.2.1 = some (tyX2 k) := by decide +kernel
abbrev cX2_init : ByteArray := prog_4_method_1_code
def yX2_init : MethodName := ⟨RX2, "<init>", "()V"⟩
abbrev cX2_row : ByteArray := prog_4_method_2_code
def yX2_row : MethodName := ⟨RX2, "row", "(I)[LLetterForms$Form;"⟩
abbrev cX2_pick : ByteArray := prog_4_method_3_code
def yX2_pick : MethodName := ⟨RX2, "pick", "([LLetterForms$Form;I)LLetterForms$Form;"⟩
abbrev cX2_begin : ByteArray := prog_4_method_4_code
def yX2_begin : MethodName := ⟨RX2, "begin", "(I)V"⟩
abbrev cX2_get : ByteArray := prog_4_method_5_code
def yX2_get : MethodName := ⟨RX2, "get", "(I)I"⟩
abbrev cX2_set : ByteArray := prog_4_method_6_code
def yX2_set : MethodName := ⟨RX2, "set", "(II)V"⟩
abbrev cX2_copyFrom : ByteArray := prog_4_method_7_code
def yX2_copyFrom : MethodName := ⟨RX2, "copyFrom", "(LLetterForms$Form;)V"⟩
abbrev cX2_swapWith : ByteArray := prog_4_method_8_code
def yX2_swapWith : MethodName := ⟨RX2, "swapWith", "(LLetterForms$Form;)V"⟩
abbrev cX2_matches : ByteArray := prog_4_method_9_code
def yX2_matches : MethodName := ⟨RX2, "matches", "(LLetterForms$Form;)Z"⟩
abbrev cX2_first : ByteArray := prog_4_method_10_code
def yX2_first : MethodName := ⟨RX2, "first", "()I"⟩
abbrev cX2_isNought : ByteArray := prog_4_method_11_code
def yX2_isNought : MethodName := ⟨RX2, "isNought", "()Z"⟩
abbrev cX2_dropY : ByteArray := prog_4_method_12_code
def yX2_dropY : MethodName := ⟨RX2, "dropY", "()V"⟩
def RX3 : String := "LetterForms$Powers"
def TX3 : u_T := fun k => match k with
  | 0 => ("LetterForms$Powers", "many", "I", false)
  | 1 => ("LetterForms$Powers", "algebra", "LLetterForms$Algebra;", true)
  | 2 => ("LetterForms$Powers", "points", "[I", true)
  | 3 => ("LetterForms$Powers", "numbers", "[I", true)
  | 4 => ("LetterForms$Powers", "shares", "[I", true)
  | 5 => ("LetterForms$Powers", "row", "[I", true)
  | 6 => ("LetterForms$Powers", "degree", "I", false)
  | _ => ("LetterForms$Powers", "length", "I", false)
def tyX3 : Nat → FieldType := fun k => match k with
  | 0 => .int
  | 1 => .object "LetterForms$Algebra"
  | 2 => .array .int
  | 3 => .array .int
  | 4 => .array .int
  | 5 => .array .int
  | 6 => .int
  | _ => .int
abbrev wsX30 : List Cond := u_ws RX3 TX3 8
theorem nmX3 : ∀ a, a < 8 → ∀ b, b < 8 → a ≠ b → (TX3 a).2.1 ≠ (TX3 b).2.1 := by decide +kernel
theorem tyX3_ok : ∀ k, k < 8 → parseFieldDescriptor (TX3 k).2.2.1 = some (tyX3 k) := by decide +kernel
abbrev cX3_init : ByteArray := prog_5_method_1_code
def yX3_init : MethodName := ⟨RX3, "<init>", "(LLetterForms$Algebra;)V"⟩
abbrev cX3_pointAt : ByteArray := prog_5_method_2_code
def yX3_pointAt : MethodName := ⟨RX3, "pointAt", "(I)I"⟩
abbrev cX3_numberAt : ByteArray := prog_5_method_3_code
def yX3_numberAt : MethodName := ⟨RX3, "numberAt", "(I)I"⟩
abbrev cX3_find : ByteArray := prog_5_method_4_code
def yX3_find : MethodName := ⟨RX3, "find", "(LLetterForms$Form;)V"⟩
abbrev cX3_share : ByteArray := prog_5_method_5_code
def yX3_share : MethodName := ⟨RX3, "share", "(LLetterForms$Form;)V"⟩
abbrev cX3_isFound : ByteArray := prog_5_method_6_code
def yX3_isFound : MethodName := ⟨RX3, "isFound", "(I)Z"⟩
abbrev cX3_isNextChoice : ByteArray := prog_5_method_7_code
def yX3_isNextChoice : MethodName := ⟨RX3, "isNextChoice", "(I)Z"⟩
abbrev cX3_isSumOf : ByteArray := prog_5_method_8_code
def yX3_isSumOf : MethodName := ⟨RX3, "isSumOf", "(I)Z"⟩
abbrev cX3_beginRow : ByteArray := prog_5_method_9_code
def yX3_beginRow : MethodName := ⟨RX3, "beginRow", "()V"⟩
abbrev cX3_takeOut : ByteArray := prog_5_method_10_code
def yX3_takeOut : MethodName := ⟨RX3, "takeOut", "(I)V"⟩
abbrev cX3_numberOf : ByteArray := prog_5_method_11_code
def yX3_numberOf : MethodName := ⟨RX3, "numberOf", "(I)I"⟩
def RX4 : String := "LetterForms$Reader"
def TX4 : u_T := fun k => match k with
  | 0 => ("LetterForms$Reader", "outcome", "LLetterForms$Signs;", true)
  | 1 => ("LetterForms$Reader", "held", "I", false)
  | 2 => ("LetterForms$Reader", "bytes", "[I", true)
  | 3 => ("LetterForms$Reader", "length", "I", false)
  | 4 => ("LetterForms$Reader", "place", "I", false)
  | _ => ("LetterForms$Reader", "things", "I", false)
def tyX4 : Nat → FieldType := fun k => match k with
  | 0 => .object "LetterForms$Signs"
  | 1 => .int
  | 2 => .array .int
  | 3 => .int
  | 4 => .int
  | _ => .int
abbrev wsX40 : List Cond := u_ws RX4 TX4 6
theorem nmX4 : ∀ a, a < 6 → ∀ b, b < 6 → a ≠ b → (TX4 a).2.1 ≠ (TX4 b).2.1 := by decide +kernel
theorem tyX4_ok : ∀ k, k < 6 → parseFieldDescriptor (TX4 k).2.2.1 = some (tyX4 k) := by decide +kernel
abbrev cX4_init : ByteArray := prog_6_method_1_code
def yX4_init : MethodName := ⟨RX4, "<init>", "()V"⟩
abbrev cX4_put : ByteArray := prog_6_method_2_code
def yX4_put : MethodName := ⟨RX4, "put", "(I)V"⟩
abbrev cX4_useUp : ByteArray := prog_6_method_3_code
def yX4_useUp : MethodName := ⟨RX4, "useUp", "()I"⟩
abbrev cX4_byteAt : ByteArray := prog_6_method_4_code
def yX4_byteAt : MethodName := ⟨RX4, "byteAt", "(I)I"⟩
abbrev cX4_read : ByteArray := prog_6_method_5_code
def yX4_read : MethodName := ⟨RX4, "read", "(I)I"⟩
abbrev cX4_next : ByteArray := prog_6_method_6_code
def yX4_next : MethodName := ⟨RX4, "next", "()I"⟩
abbrev cX4_isThingMore : ByteArray := prog_6_method_7_code
def yX4_isThingMore : MethodName := ⟨RX4, "isThingMore", "()Z"⟩
abbrev cX4_readSum : ByteArray := prog_6_method_8_code
def yX4_readSum : MethodName := ⟨RX4, "readSum", "(I)Z"⟩
abbrev cX4_readProduct : ByteArray := prog_6_method_9_code
def yX4_readProduct : MethodName := ⟨RX4, "readProduct", "(I)Z"⟩
abbrev cX4_readPart : ByteArray := prog_6_method_10_code
def yX4_readPart : MethodName := ⟨RX4, "readPart", "(I)Z"⟩
abbrev cX4_readOverlap : ByteArray := prog_6_method_11_code
def yX4_readOverlap : MethodName := ⟨RX4, "readOverlap", "(I)Z"⟩
abbrev cX4_take : ByteArray := prog_6_method_12_code
def yX4_take : MethodName := ⟨RX4, "take", "(I)Z"⟩
abbrev cX4_readLetter : ByteArray := prog_6_method_13_code
def yX4_readLetter : MethodName := ⟨RX4, "readLetter", "()Z"⟩
abbrev cX4_readNumber : ByteArray := prog_6_method_14_code
def yX4_readNumber : MethodName := ⟨RX4, "readNumber", "(II)Z"⟩
abbrev cX4_isDigit : ByteArray := prog_6_method_15_code
def yX4_isDigit : MethodName := ⟨RX4, "isDigit", "(I)Z"⟩
abbrev cX4_isLetter : ByteArray := prog_6_method_16_code
def yX4_isLetter : MethodName := ⟨RX4, "isLetter", "(I)Z"⟩
def RX5 : String := "LetterForms$Rows"
def TX5 : u_T := fun k => match k with
  | 0 => ("LetterForms$Rows", "algebra", "LLetterForms$Algebra;", true)
  | 1 => ("LetterForms$Rows", "calculator", "LLetterForms$Calculator;", true)
  | 2 => ("LetterForms$Rows", "drawn", "[LLetterForms$Form;", true)
  | 3 => ("LetterForms$Rows", "held", "[[I", true)
  | 4 => ("LetterForms$Rows", "firsts", "[I", true)
  | 5 => ("LetterForms$Rows", "ways", "[J", true)
  | 6 => ("LetterForms$Rows", "many", "I", false)
  | 7 => ("LetterForms$Rows", "degree", "I", false)
  | _ => ("LetterForms$Rows", "place", "I", false)
def tyX5 : Nat → FieldType := fun k => match k with
  | 0 => .object "LetterForms$Algebra"
  | 1 => .object "LetterForms$Calculator"
  | 2 => .array (.object "LetterForms$Form")
  | 3 => .array (.array .int)
  | 4 => .array .int
  | 5 => .array .long
  | 6 => .int
  | 7 => .int
  | _ => .int
abbrev wsX50 : List Cond := u_ws RX5 TX5 9
theorem nmX5 : ∀ a, a < 9 → ∀ b, b < 9 → a ≠ b → (TX5 a).2.1 ≠ (TX5 b).2.1 := by decide +kernel
theorem tyX5_ok : ∀ k, k < 9 → parseFieldDescriptor (TX5 k).2.2.1 = some (tyX5 k) := by decide +kernel
abbrev cX5_init : ByteArray := prog_7_method_1_code
def yX5_init : MethodName := ⟨RX5, "<init>", "(LLetterForms$Algebra;LLetterForms$Calculator;)V"⟩
abbrev cX5_independent : ByteArray := prog_7_method_2_code
def yX5_independent : MethodName := ⟨RX5, "independent", "(LLetterForms$State;III)I"⟩
abbrev cX5_draw : ByteArray := prog_7_method_3_code
def yX5_draw : MethodName := ⟨RX5, "draw", "(II)V"⟩
abbrev cX5_isAppended : ByteArray := prog_7_method_4_code
def yX5_isAppended : MethodName := ⟨RX5, "isAppended", "(LLetterForms$Form;)Z"⟩
abbrev cX5_isHeld : ByteArray := prog_7_method_5_code
def yX5_isHeld : MethodName := ⟨RX5, "isHeld", "()Z"⟩
abbrev cX5_ways : ByteArray := prog_7_method_6_code
def yX5_ways : MethodName := ⟨RX5, "ways", "(III)J"⟩
abbrev cX5_addWays : ByteArray := prog_7_method_7_code
def yX5_addWays : MethodName := ⟨RX5, "addWays", "(II)V"⟩
def RX6 : String := "LetterForms$Search"
def TX6 : u_T := fun k => match k with
  | 0 => ("LetterForms$Search", "first", "I", false)
  | 1 => ("LetterForms$Search", "found", "I", false)
  | 2 => ("LetterForms$Search", "algebra", "LLetterForms$Algebra;", true)
  | 3 => ("LetterForms$Search", "values", "[I", true)
  | 4 => ("LetterForms$Search", "aims", "[I", true)
  | 5 => ("LetterForms$Search", "firstPairs", "[I", true)
  | _ => ("LetterForms$Search", "secondPairs", "[I", true)
def tyX6 : Nat → FieldType := fun k => match k with
  | 0 => .int
  | 1 => .int
  | 2 => .object "LetterForms$Algebra"
  | 3 => .array .int
  | 4 => .array .int
  | 5 => .array .int
  | _ => .array .int
abbrev wsX60 : List Cond := u_ws RX6 TX6 7
theorem nmX6 : ∀ a, a < 7 → ∀ b, b < 7 → a ≠ b → (TX6 a).2.1 ≠ (TX6 b).2.1 := by decide +kernel
theorem tyX6_ok : ∀ k, k < 7 → parseFieldDescriptor (TX6 k).2.2.1 = some (tyX6 k) := by decide +kernel
abbrev cX6_init : ByteArray := prog_8_method_1_code
def yX6_init : MethodName := ⟨RX6, "<init>", "(LLetterForms$Algebra;)V"⟩
abbrev cX6_run : ByteArray := prog_8_method_2_code
def yX6_run : MethodName := ⟨RX6, "run", "(LLetterForms$Form;LLetterForms$Form;)V"⟩
abbrev cX6_aim : ByteArray := prog_8_method_3_code
def yX6_aim : MethodName := ⟨RX6, "aim", "(LLetterForms$Form;LLetterForms$Form;)V"⟩
abbrev cX6_pointX : ByteArray := prog_8_method_4_code
def yX6_pointX : MethodName := ⟨RX6, "pointX", "(I)I"⟩
abbrev cX6_pointY : ByteArray := prog_8_method_5_code
def yX6_pointY : MethodName := ⟨RX6, "pointY", "(I)I"⟩
abbrev cX6_aimAt : ByteArray := prog_8_method_6_code
def yX6_aimAt : MethodName := ⟨RX6, "aimAt", "(I)I"⟩
abbrev cX6_valueAt : ByteArray := prog_8_method_7_code
def yX6_valueAt : MethodName := ⟨RX6, "valueAt", "(II)I"⟩
abbrev cX6_choose : ByteArray := prog_8_method_8_code
def yX6_choose : MethodName := ⟨RX6, "choose", "([II)I"⟩
abbrev cX6_meet : ByteArray := prog_8_method_9_code
def yX6_meet : MethodName := ⟨RX6, "meet", "(III)V"⟩
def RX7 : String := "LetterForms$Signs"
def TX7 : u_T := fun k => match k with
  | 0 => ("LetterForms$Signs", "kinds", "[I", true)
  | 1 => ("LetterForms$Signs", "sizes", "[I", true)
  | _ => ("LetterForms$Signs", "length", "I", false)
def tyX7 : Nat → FieldType := fun k => match k with
  | 0 => .array .int
  | 1 => .array .int
  | _ => .int
abbrev wsX70 : List Cond := u_ws RX7 TX7 3
theorem nmX7 : ∀ a, a < 3 → ∀ b, b < 3 → a ≠ b → (TX7 a).2.1 ≠ (TX7 b).2.1 := by decide +kernel
theorem tyX7_ok : ∀ k, k < 3 → parseFieldDescriptor (TX7 k).2.2.1 = some (tyX7 k) := by decide +kernel
abbrev cX7_init : ByteArray := prog_9_method_1_code
def yX7_init : MethodName := ⟨RX7, "<init>", "()V"⟩
abbrev cX7_put : ByteArray := prog_9_method_2_code
def yX7_put : MethodName := ⟨RX7, "put", "(II)V"⟩
abbrev cX7_kindAt : ByteArray := prog_9_method_3_code
def yX7_kindAt : MethodName := ⟨RX7, "kindAt", "(I)I"⟩
abbrev cX7_sizeAt : ByteArray := prog_9_method_4_code
def yX7_sizeAt : MethodName := ⟨RX7, "sizeAt", "(I)I"⟩
abbrev cX7_copyFrom : ByteArray := prog_9_method_5_code
def yX7_copyFrom : MethodName := ⟨RX7, "copyFrom", "(LLetterForms$Signs;)V"⟩
def RX8 : String := "LetterForms$State"
def TX8 : u_T := fun k => match k with
  | 0 => ("LetterForms$State", "p", "I", false)
  | 1 => ("LetterForms$State", "formCount", "I", false)
  | 2 => ("LetterForms$State", "tableCount", "I", false)
  | 3 => ("LetterForms$State", "signsCount", "I", false)
  | 4 => ("LetterForms$State", "done", "I", false)
  | 5 => ("LetterForms$State", "undone", "I", false)
  | 6 => ("LetterForms$State", "which", "[I", true)
  | 7 => ("LetterForms$State", "others", "[LLetterForms$Form;", true)
  | 8 => ("LetterForms$State", "forms", "[LLetterForms$Form;", true)
  | 9 => ("LetterForms$State", "tables", "[LLetterForms$Table;", true)
  | _ => ("LetterForms$State", "signs", "[LLetterForms$Signs;", true)
def tyX8 : Nat → FieldType := fun k => match k with
  | 0 => .int
  | 1 => .int
  | 2 => .int
  | 3 => .int
  | 4 => .int
  | 5 => .int
  | 6 => .array .int
  | 7 => .array (.object "LetterForms$Form")
  | 8 => .array (.object "LetterForms$Form")
  | 9 => .array (.object "LetterForms$Table")
  | _ => .array (.object "LetterForms$Signs")
abbrev wsX80 : List Cond := u_ws RX8 TX8 11
theorem nmX8 : ∀ a, a < 11 → ∀ b, b < 11 → a ≠ b → (TX8 a).2.1 ≠ (TX8 b).2.1 := by decide +kernel
theorem tyX8_ok : ∀ k, k < 11 → parseFieldDescriptor (TX8 k).2.2.1 = some (tyX8 k) := by decide +kernel
abbrev cX8_init : ByteArray := prog_10_method_1_code
def yX8_init : MethodName := ⟨RX8, "<init>", "()V"⟩
abbrev cX8_formAt : ByteArray := prog_10_method_2_code
def yX8_formAt : MethodName := ⟨RX8, "formAt", "(I)LLetterForms$Form;"⟩
abbrev cX8_tableAt : ByteArray := prog_10_method_3_code
def yX8_tableAt : MethodName := ⟨RX8, "tableAt", "(I)LLetterForms$Table;"⟩
abbrev cX8_signsAt : ByteArray := prog_10_method_4_code
def yX8_signsAt : MethodName := ⟨RX8, "signsAt", "(I)LLetterForms$Signs;"⟩
abbrev cX8_nextForm : ByteArray := prog_10_method_5_code
def yX8_nextForm : MethodName := ⟨RX8, "nextForm", "()LLetterForms$Form;"⟩
abbrev cX8_nextTable : ByteArray := prog_10_method_6_code
def yX8_nextTable : MethodName := ⟨RX8, "nextTable", "()LLetterForms$Table;"⟩
abbrev cX8_nextSigns : ByteArray := prog_10_method_7_code
def yX8_nextSigns : MethodName := ⟨RX8, "nextSigns", "()LLetterForms$Signs;"⟩
abbrev cX8_noughts : ByteArray := prog_10_method_8_code
def yX8_noughts : MethodName := ⟨RX8, "noughts", "()I"⟩
abbrev cX8_write : ByteArray := prog_10_method_9_code
def yX8_write : MethodName := ⟨RX8, "write", "(ILLetterForms$Form;)V"⟩
abbrev cX8_forgetFirst : ByteArray := prog_10_method_10_code
def yX8_forgetFirst : MethodName := ⟨RX8, "forgetFirst", "()V"⟩
abbrev cX8_forgetUndone : ByteArray := prog_10_method_11_code
def yX8_forgetUndone : MethodName := ⟨RX8, "forgetUndone", "()V"⟩
abbrev cX8_nextBack : ByteArray := prog_10_method_12_code
def yX8_nextBack : MethodName := ⟨RX8, "nextBack", "()I"⟩
abbrev cX8_nextOn : ByteArray := prog_10_method_13_code
def yX8_nextOn : MethodName := ⟨RX8, "nextOn", "()I"⟩
abbrev cX8_stepBack : ByteArray := prog_10_method_14_code
def yX8_stepBack : MethodName := ⟨RX8, "stepBack", "(LLetterForms$Form;)V"⟩
abbrev cX8_stepOn : ByteArray := prog_10_method_15_code
def yX8_stepOn : MethodName := ⟨RX8, "stepOn", "(LLetterForms$Form;)V"⟩
abbrev cX8_copyFrom : ByteArray := prog_10_method_16_code
def yX8_copyFrom : MethodName := ⟨RX8, "copyFrom", "(LLetterForms$State;)V"⟩
abbrev cX8_copyActs : ByteArray := prog_10_method_17_code
def yX8_copyActs : MethodName := ⟨RX8, "copyActs", "(LLetterForms$State;)V"⟩
def RX9 : String := "LetterForms$Table"
def TX9 : u_T := fun k => match k with
  | 0 => ("LetterForms$Table", "a", "I", false)
  | 1 => ("LetterForms$Table", "b", "I", false)
  | 2 => ("LetterForms$Table", "c", "I", false)
  | _ => ("LetterForms$Table", "d", "I", false)
def tyX9 : Nat → FieldType := fun k => match k with
  | 0 => .int
  | 1 => .int
  | 2 => .int
  | _ => .int
abbrev wsX90 : List Cond := u_ws RX9 TX9 4
theorem nmX9 : ∀ a, a < 4 → ∀ b, b < 4 → a ≠ b → (TX9 a).2.1 ≠ (TX9 b).2.1 := by decide +kernel
theorem tyX9_ok : ∀ k, k < 4 → parseFieldDescriptor (TX9 k).2.2.1 = some (tyX9 k) := by decide +kernel
abbrev cX9_init : ByteArray := prog_11_method_1_code
def yX9_init : MethodName := ⟨RX9, "<init>", "()V"⟩
abbrev cX9_set : ByteArray := prog_11_method_2_code
def yX9_set : MethodName := ⟨RX9, "set", "(IIII)V"⟩
def RX10 : String := "LetterForms$Whole"
def TX10 : u_T := fun k => match k with
  | 0 => ("LetterForms$Whole", "a", "J", false)
  | 1 => ("LetterForms$Whole", "b", "J", false)
  | 2 => ("LetterForms$Whole", "c", "J", false)
  | 3 => ("LetterForms$Whole", "changes", "J", false)
  | 4 => ("LetterForms$Whole", "tableA", "J", false)
  | 5 => ("LetterForms$Whole", "tableB", "J", false)
  | 6 => ("LetterForms$Whole", "tableC", "J", false)
  | _ => ("LetterForms$Whole", "tableD", "J", false)
def tyX10 : Nat → FieldType := fun k => match k with
  | 0 => .long
  | 1 => .long
  | 2 => .long
  | 3 => .long
  | 4 => .long
  | 5 => .long
  | 6 => .long
  | _ => .long
abbrev wsX100 : List Cond := u_ws RX10 TX10 8
theorem nmX10 : ∀ a, a < 8 → ∀ b, b < 8 → a ≠ b → (TX10 a).2.1 ≠ (TX10 b).2.1 := by decide +kernel
theorem tyX10_ok : ∀ k, k < 8 → parseFieldDescriptor (TX10 k).2.2.1 = some (tyX10 k) := by decide +kernel
abbrev cX10_init : ByteArray := prog_12_method_1_code
def yX10_init : MethodName := ⟨RX10, "<init>", "()V"⟩
abbrev cX10_reduce : ByteArray := prog_12_method_2_code
def yX10_reduce : MethodName := ⟨RX10, "reduce", "(III)V"⟩
abbrev cX10_isReduced : ByteArray := prog_12_method_3_code
def yX10_isReduced : MethodName := ⟨RX10, "isReduced", "()Z"⟩
abbrev cX10_shift : ByteArray := prog_12_method_4_code
def yX10_shift : MethodName := ⟨RX10, "shift", "()V"⟩
abbrev cX10_swap : ByteArray := prog_12_method_5_code
def yX10_swap : MethodName := ⟨RX10, "swap", "()V"⟩
abbrev cX10_turns : ByteArray := prog_12_method_6_code
def yX10_turns : MethodName := ⟨RX10, "turns", "()I"⟩
abbrev cX10_tell : ByteArray := prog_12_method_7_code
def yX10_tell : MethodName := ⟨RX10, "tell", "(I)J"⟩
abbrev cX10_seek : ByteArray := prog_12_method_8_code
def yX10_seek : MethodName := ⟨RX10, "seek", "(IZI)I"⟩
abbrev cX10_divisor : ByteArray := prog_12_method_9_code
def yX10_divisor : MethodName := ⟨RX10, "divisor", "(II)I"⟩
abbrev cX10_rootsOfCubic : ByteArray := prog_12_method_10_code
def yX10_rootsOfCubic : MethodName := ⟨RX10, "rootsOfCubic", "(JJJJ)I"⟩
abbrev cX10_rootsOfQuartic : ByteArray := prog_12_method_11_code
def yX10_rootsOfQuartic : MethodName := ⟨RX10, "rootsOfQuartic", "(JJJJJ)I"⟩
abbrev cX10_rootsOfDoubles : ByteArray := prog_12_method_12_code
def yX10_rootsOfDoubles : MethodName := ⟨RX10, "rootsOfDoubles", "(JJ)I"⟩
abbrev cX10_differences : ByteArray := prog_12_method_13_code
def yX10_differences : MethodName := ⟨RX10, "differences", "(JJJJJ)J"⟩
def RX11 : String := "LetterForms"
def TX11 : u_T := fun k => match k with
  | 0 => ("LetterForms", "reader", "LLetterForms$Reader;", true)
  | 1 => ("LetterForms", "now", "LLetterForms$State;", true)
  | 2 => ("LetterForms", "kept", "LLetterForms$State;", true)
  | 3 => ("LetterForms", "isKept", "Z", false)
  | 4 => ("LetterForms", "fault", "I", false)
  | 5 => ("LetterForms", "algebra", "LLetterForms$Algebra;", true)
  | 6 => ("LetterForms", "calculator", "LLetterForms$Calculator;", true)
  | 7 => ("LetterForms", "rows", "LLetterForms$Rows;", true)
  | 8 => ("LetterForms", "search", "LLetterForms$Search;", true)
  | 9 => ("LetterForms", "sums", "LLetterForms$Powers;", true)
  | 10 => ("LetterForms", "whole", "LLetterForms$Whole;", true)
  | 11 => ("LetterForms", "work", "LLetterForms$Form;", true)
  | 12 => ("LetterForms", "mixedWork", "LLetterForms$Form;", true)
  | _ => ("LetterForms", "otherWork", "LLetterForms$Form;", true)
def tyX11 : Nat → FieldType := fun k => match k with
  | 0 => .object "LetterForms$Reader"
  | 1 => .object "LetterForms$State"
  | 2 => .object "LetterForms$State"
  | 3 => .boolean
  | 4 => .int
  | 5 => .object "LetterForms$Algebra"
  | 6 => .object "LetterForms$Calculator"
  | 7 => .object "LetterForms$Rows"
  | 8 => .object "LetterForms$Search"
  | 9 => .object "LetterForms$Powers"
  | 10 => .object "LetterForms$Whole"
  | 11 => .object "LetterForms$Form"
  | 12 => .object "LetterForms$Form"
  | _ => .object "LetterForms$Form"
abbrev wsX110 : List Cond := u_ws RX11 TX11 14
theorem nmX11 : ∀ a, a < 14 → ∀ b, b < 14 → a ≠ b → (TX11 a).2.1 ≠ (TX11 b).2.1 := by decide +kernel
theorem tyX11_ok : ∀ k, k < 14 → parseFieldDescriptor (TX11 k).2.2.1 = some (tyX11 k) := by decide +kernel
abbrev cX11_init : ByteArray := prog_1_method_1_code
def yX11_init : MethodName := ⟨RX11, "<init>", "()V"⟩
abbrev cX11_feed : ByteArray := prog_1_method_2_code
def yX11_feed : MethodName := ⟨RX11, "feed", "(IIIII)I"⟩
abbrev cX11_end : ByteArray := prog_1_method_3_code
def yX11_end : MethodName := ⟨RX11, "end", "(I)Z"⟩
abbrev cX11_field : ByteArray := prog_1_method_4_code
def yX11_field : MethodName := ⟨RX11, "field", "(I)V"⟩
abbrev cX11_form : ByteArray := prog_1_method_5_code
def yX11_form : MethodName := ⟨RX11, "form", "()I"⟩
abbrev cX11_table : ByteArray := prog_1_method_6_code
def yX11_table : MethodName := ⟨RX11, "table", "(IIII)I"⟩
abbrev cX11_signs : ByteArray := prog_1_method_7_code
def yX11_signs : MethodName := ⟨RX11, "signs", "()I"⟩
abbrev cX11_fault : ByteArray := prog_1_method_8_code
def yX11_fault : MethodName := ⟨RX11, "fault", "()I"⟩
abbrev cX11_toldForm : ByteArray := prog_1_method_9_code
def yX11_toldForm : MethodName := ⟨RX11, "toldForm", "(I)LLetterForms$Form;"⟩
abbrev cX11_toldTable : ByteArray := prog_1_method_10_code
def yX11_toldTable : MethodName := ⟨RX11, "toldTable", "(I)LLetterForms$Table;"⟩
abbrev cX11_toldSigns : ByteArray := prog_1_method_11_code
def yX11_toldSigns : MethodName := ⟨RX11, "toldSigns", "(I)LLetterForms$Signs;"⟩
abbrev cX11_degreeOrNumber : ByteArray := prog_1_method_12_code
def yX11_degreeOrNumber : MethodName := ⟨RX11, "degreeOrNumber", "(LLetterForms$Form;I)I"⟩
abbrev cX11_look : ByteArray := prog_1_method_13_code
def yX11_look : MethodName := ⟨RX11, "look", "(II)I"⟩
abbrev cX11_at : ByteArray := prog_1_method_14_code
def yX11_at : MethodName := ⟨RX11, "at", "(III)I"⟩
abbrev cX11_det : ByteArray := prog_1_method_15_code
def yX11_det : MethodName := ⟨RX11, "det", "(I)I"⟩
abbrev cX11_told : ByteArray := prog_1_method_16_code
def yX11_told : MethodName := ⟨RX11, "told", "(II)I"⟩
abbrev cX11_join : ByteArray := prog_1_method_17_code
def yX11_join : MethodName := ⟨RX11, "join", "(II)I"⟩
abbrev cX11_turn : ByteArray := prog_1_method_18_code
def yX11_turn : MethodName := ⟨RX11, "turn", "(I)I"⟩
abbrev cX11_mix : ByteArray := prog_1_method_19_code
def yX11_mix : MethodName := ⟨RX11, "mix", "(II)Z"⟩
abbrev cX11_undo : ByteArray := prog_1_method_20_code
def yX11_undo : MethodName := ⟨RX11, "undo", "()I"⟩
abbrev cX11_redo : ByteArray := prog_1_method_21_code
def yX11_redo : MethodName := ⟨RX11, "redo", "()I"⟩
abbrev cX11_value : ByteArray := prog_1_method_22_code
def yX11_value : MethodName := ⟨RX11, "value", "(III)I"⟩
abbrev cX11_rank : ByteArray := prog_1_method_23_code
def yX11_rank : MethodName := ⟨RX11, "rank", "(IZ)I"⟩
abbrev cX11_stays : ByteArray := prog_1_method_24_code
def yX11_stays : MethodName := ⟨RX11, "stays", "(III)Z"⟩
abbrev cX11_agree : ByteArray := prog_1_method_25_code
def yX11_agree : MethodName := ⟨RX11, "agree", "(III)I"⟩
abbrev cX11_isOneValue : ByteArray := prog_1_method_26_code
def yX11_isOneValue : MethodName := ⟨RX11, "isOneValue", "(LLetterForms$Signs;LLetterForms$Signs;LLetterForms$Form;)Z"⟩
abbrev cX11_count : ByteArray := prog_1_method_27_code
def yX11_count : MethodName := ⟨RX11, "count", "(III)J"⟩
abbrev cX11_span : ByteArray := prog_1_method_28_code
def yX11_span : MethodName := ⟨RX11, "span", "(III)I"⟩
abbrev cX11_basis : ByteArray := prog_1_method_29_code
def yX11_basis : MethodName := ⟨RX11, "basis", "(III)I"⟩
abbrev cX11_root : ByteArray := prog_1_method_30_code
def yX11_root : MethodName := ⟨RX11, "root", "(II)I"⟩
abbrev cX11_roots : ByteArray := prog_1_method_31_code
def yX11_roots : MethodName := ⟨RX11, "roots", "(I)I"⟩
abbrev cX11_empty : ByteArray := prog_1_method_32_code
def yX11_empty : MethodName := ⟨RX11, "empty", "(I)Z"⟩
abbrev cX11_same : ByteArray := prog_1_method_33_code
def yX11_same : MethodName := ⟨RX11, "same", "(II)I"⟩
abbrev cX11_keep : ByteArray := prog_1_method_34_code
def yX11_keep : MethodName := ⟨RX11, "keep", "(I)I"⟩
abbrev cX11_kind : ByteArray := prog_1_method_35_code
def yX11_kind : MethodName := ⟨RX11, "kind", "(I)I"⟩
abbrev cX11_orbit : ByteArray := prog_1_method_36_code
def yX11_orbit : MethodName := ⟨RX11, "orbit", "(I)I"⟩
abbrev cX11_powers : ByteArray := prog_1_method_37_code
def yX11_powers : MethodName := ⟨RX11, "powers", "(II)I"⟩
abbrev cX11_common : ByteArray := prog_1_method_38_code
def yX11_common : MethodName := ⟨RX11, "common", "(III)I"⟩
abbrev cX11_quotient : ByteArray := prog_1_method_39_code
def yX11_quotient : MethodName := ⟨RX11, "quotient", "(III)I"⟩
abbrev cX11_plain : ByteArray := prog_1_method_40_code
def yX11_plain : MethodName := ⟨RX11, "plain", "(I)Z"⟩
abbrev cX11_overlap : ByteArray := prog_1_method_41_code
def yX11_overlap : MethodName := ⟨RX11, "overlap", "(IIII)I"⟩
abbrev cX11_reduced : ByteArray := prog_1_method_42_code
def yX11_reduced : MethodName := ⟨RX11, "reduced", "(IIII)J"⟩
abbrev cX11_isWhole : ByteArray := prog_1_method_43_code
def yX11_isWhole : MethodName := ⟨RX11, "isWhole", "(II)Z"⟩
abbrev cX11_isDisc : ByteArray := prog_1_method_44_code
def yX11_isDisc : MethodName := ⟨RX11, "isDisc", "(I)Z"⟩
abbrev cX11_classes : ByteArray := prog_1_method_45_code
def yX11_classes : MethodName := ⟨RX11, "classes", "(IZ)I"⟩
abbrev cX11_reducedAt : ByteArray := prog_1_method_46_code
def yX11_reducedAt : MethodName := ⟨RX11, "reducedAt", "(III)I"⟩
abbrev cX11_real : ByteArray := prog_1_method_47_code
def yX11_real : MethodName := ⟨RX11, "real", "(IIIII)I"⟩
abbrev cX11_image : ByteArray := prog_1_method_48_code
def yX11_image : MethodName := ⟨RX11, "image", "()V"⟩
abbrev cX11_back : ByteArray := prog_1_method_49_code
def yX11_back : MethodName := ⟨RX11, "back", "()Z"⟩
abbrev cX11_stock : ByteArray := prog_1_method_50_code
def yX11_stock : MethodName := ⟨RX11, "stock", "(I)I"⟩
def RX12 : String := "LetterFormsModel"
def TX12 : u_T := fun k => match k with
  | 0 => ("LetterFormsModel", "thrown", "I", false)
  | 1 => ("LetterFormsModel", "world", "[I", true)
  | 2 => ("LetterFormsModel", "image", "[I", true)
  | 3 => ("LetterFormsModel", "hasImage", "Z", false)
  | 4 => ("LetterFormsModel", "deg", "[I", true)
  | 5 => ("LetterFormsModel", "num", "[I", true)
  | 6 => ("LetterFormsModel", "ta", "I", false)
  | 7 => ("LetterFormsModel", "tb", "I", false)
  | 8 => ("LetterFormsModel", "tc", "I", false)
  | 9 => ("LetterFormsModel", "td", "I", false)
  | 10 => ("LetterFormsModel", "tape", "[B", true)
  | 11 => ("LetterFormsModel", "taped", "I", false)
  | 12 => ("LetterFormsModel", "point", "I", false)
  | 13 => ("LetterFormsModel", "end", "I", false)
  | 14 => ("LetterFormsModel", "begin", "I", false)
  | 15 => ("LetterFormsModel", "deep", "I", false)
  | 16 => ("LetterFormsModel", "counted", "I", false)
  | 17 => ("LetterFormsModel", "faultAt", "I", false)
  | 18 => ("LetterFormsModel", "five", "[I", true)
  | 19 => ("LetterFormsModel", "steps", "I", false)
  | 20 => ("LetterFormsModel", "ranks", "[I", true)
  | 21 => ("LetterFormsModel", "ways", "[J", true)
  | 22 => ("LetterFormsModel", "rows", "[I", true)
  | 23 => ("LetterFormsModel", "drawn", "[I", true)
  | 24 => ("LetterFormsModel", "longs", "I", false)
  | 25 => ("LetterFormsModel", "valued", "[I", true)
  | 26 => ("LetterFormsModel", "powered", "[I", true)
  | 27 => ("LetterFormsModel", "spot", "[I", true)
  | 28 => ("LetterFormsModel", "factor", "[I", true)
  | 29 => ("LetterFormsModel", "powersMany", "I", false)
  | 30 => ("LetterFormsModel", "wa", "J", false)
  | 31 => ("LetterFormsModel", "wb", "J", false)
  | 32 => ("LetterFormsModel", "wc", "J", false)
  | 33 => ("LetterFormsModel", "changes", "J", false)
  | 34 => ("LetterFormsModel", "whole", "[J", true)
  | 35 => ("LetterFormsModel", "ra", "I", false)
  | 36 => ("LetterFormsModel", "rb", "I", false)
  | _ => ("LetterFormsModel", "rc", "I", false)
def tyX12 : Nat → FieldType := fun k => match k with
  | 0 => .int
  | 1 => .array .int
  | 2 => .array .int
  | 3 => .boolean
  | 4 => .array .int
  | 5 => .array .int
  | 6 => .int
  | 7 => .int
  | 8 => .int
  | 9 => .int
  | 10 => .array .byte
  | 11 => .int
  | 12 => .int
  | 13 => .int
  | 14 => .int
  | 15 => .int
  | 16 => .int
  | 17 => .int
  | 18 => .array .int
  | 19 => .int
  | 20 => .array .int
  | 21 => .array .long
  | 22 => .array .int
  | 23 => .array .int
  | 24 => .int
  | 25 => .array .int
  | 26 => .array .int
  | 27 => .array .int
  | 28 => .array .int
  | 29 => .int
  | 30 => .long
  | 31 => .long
  | 32 => .long
  | 33 => .long
  | 34 => .array .long
  | 35 => .int
  | 36 => .int
  | _ => .int
abbrev wsX120 : List Cond := u_ws RX12 TX12 38
theorem nmX12 : ∀ a, a < 38 → ∀ b, b < 38 → a ≠ b → (TX12 a).2.1 ≠ (TX12 b).2.1 := by decide +kernel
theorem tyX12_ok : ∀ k, k < 38 → parseFieldDescriptor (TX12 k).2.2.1 = some (tyX12 k) := by decide +kernel
abbrev cX12_throwsIf : ByteArray := prog_14_method_2_code
def yX12_throwsIf : MethodName := ⟨RX12, "throwsIf", "(ZI)Z"⟩
abbrev cX12_in : ByteArray := prog_14_method_3_code
def yX12_in : MethodName := ⟨RX12, "in", "(III)Z"⟩
abbrev cX12_init : ByteArray := prog_14_method_4_code
def yX12_init : MethodName := ⟨RX12, "<init>", "()V"⟩
abbrev cX12_image : ByteArray := prog_14_method_5_code
def yX12_image : MethodName := ⟨RX12, "image", "()V"⟩
abbrev cX12_back : ByteArray := prog_14_method_6_code
def yX12_back : MethodName := ⟨RX12, "back", "()Z"⟩
abbrev cX12_p : ByteArray := prog_14_method_7_code
def yX12_p : MethodName := ⟨RX12, "p", "()I"⟩
abbrev cX12_noForm : ByteArray := prog_14_method_8_code
def yX12_noForm : MethodName := ⟨RX12, "noForm", "(I)Z"⟩
abbrev cX12_noTable : ByteArray := prog_14_method_9_code
def yX12_noTable : MethodName := ⟨RX12, "noTable", "(I)Z"⟩
abbrev cX12_noSigns : ByteArray := prog_14_method_10_code
def yX12_noSigns : MethodName := ⟨RX12, "noSigns", "(I)Z"⟩
abbrev cX12_formAt : ByteArray := prog_14_method_11_code
def yX12_formAt : MethodName := ⟨RX12, "formAt", "(I)I"⟩
abbrev cX12_degreeOf : ByteArray := prog_14_method_12_code
def yX12_degreeOf : MethodName := ⟨RX12, "degreeOf", "(I)I"⟩
abbrev cX12_numberOf : ByteArray := prog_14_method_13_code
def yX12_numberOf : MethodName := ⟨RX12, "numberOf", "(II)I"⟩
abbrev cX12_ofTable : ByteArray := prog_14_method_14_code
def yX12_ofTable : MethodName := ⟨RX12, "ofTable", "(II)I"⟩
abbrev cX12_mod : ByteArray := prog_14_method_15_code
def yX12_mod : MethodName := ⟨RX12, "mod", "(J)I"⟩
abbrev cX12_times : ByteArray := prog_14_method_16_code
def yX12_times : MethodName := ⟨RX12, "times", "(II)I"⟩
abbrev cX12_plus : ByteArray := prog_14_method_17_code
def yX12_plus : MethodName := ⟨RX12, "plus", "(II)I"⟩
abbrev cX12_less : ByteArray := prog_14_method_18_code
def yX12_less : MethodName := ⟨RX12, "less", "(II)I"⟩
abbrev cX12_power : ByteArray := prog_14_method_19_code
def yX12_power : MethodName := ⟨RX12, "power", "(II)I"⟩
abbrev cX12_inverse : ByteArray := prog_14_method_20_code
def yX12_inverse : MethodName := ⟨RX12, "inverse", "(I)I"⟩
abbrev cX12_of : ByteArray := prog_14_method_21_code
def yX12_of : MethodName := ⟨RX12, "of", "(II)I"⟩
abbrev cX12_put : ByteArray := prog_14_method_22_code
def yX12_put : MethodName := ⟨RX12, "put", "(III)V"⟩
abbrev cX12_takes : ByteArray := prog_14_method_23_code
def yX12_takes : MethodName := ⟨RX12, "takes", "(II)V"⟩
abbrev cX12_copies : ByteArray := prog_14_method_24_code
def yX12_copies : MethodName := ⟨RX12, "copies", "(II)V"⟩
abbrev cX12_clears : ByteArray := prog_14_method_25_code
def yX12_clears : MethodName := ⟨RX12, "clears", "(II)V"⟩
abbrev cX12_isNought : ByteArray := prog_14_method_26_code
def yX12_isNought : MethodName := ⟨RX12, "isNought", "(I)Z"⟩
abbrev cX12_isLike : ByteArray := prog_14_method_27_code
def yX12_isLike : MethodName := ⟨RX12, "isLike", "(II)Z"⟩
abbrev cX12_multiplies : ByteArray := prog_14_method_28_code
def yX12_multiplies : MethodName := ⟨RX12, "multiplies", "(III)V"⟩
abbrev cX12_differs : ByteArray := prog_14_method_29_code
def yX12_differs : MethodName := ⟨RX12, "differs", "(IIII)I"⟩
abbrev cX12_differentiates : ByteArray := prog_14_method_30_code
def yX12_differentiates : MethodName := ⟨RX12, "differentiates", "(IIII)V"⟩
abbrev cX12_over : ByteArray := prog_14_method_31_code
def yX12_over : MethodName := ⟨RX12, "over", "(II)I"⟩
abbrev cX12_overlaps : ByteArray := prog_14_method_32_code
def yX12_overlaps : MethodName := ⟨RX12, "overlaps", "(IIII)V"⟩
abbrev cX12_takesTable : ByteArray := prog_14_method_33_code
def yX12_takesTable : MethodName := ⟨RX12, "takesTable", "(IIII)V"⟩
abbrev cX12_tables : ByteArray := prog_14_method_34_code
def yX12_tables : MethodName := ⟨RX12, "tables", "(I)V"⟩
abbrev cX12_detNow : ByteArray := prog_14_method_35_code
def yX12_detNow : MethodName := ⟨RX12, "detNow", "()I"⟩
abbrev cX12_widens : ByteArray := prog_14_method_36_code
def yX12_widens : MethodName := ⟨RX12, "widens", "(III)V"⟩
abbrev cX12_mixes : ByteArray := prog_14_method_37_code
def yX12_mixes : MethodName := ⟨RX12, "mixes", "(II)V"⟩
abbrev cX12_valueAt : ByteArray := prog_14_method_38_code
def yX12_valueAt : MethodName := ⟨RX12, "valueAt", "(III)I"⟩
abbrev cX12_feed : ByteArray := prog_14_method_39_code
def yX12_feed : MethodName := ⟨RX12, "feed", "(IIIII)I"⟩
abbrev cX12_end : ByteArray := prog_14_method_40_code
def yX12_end : MethodName := ⟨RX12, "end", "(I)Z"⟩
abbrev cX12_isAt : ByteArray := prog_14_method_41_code
def yX12_isAt : MethodName := ⟨RX12, "isAt", "(II)Z"⟩
abbrev cX12_blanks : ByteArray := prog_14_method_42_code
def yX12_blanks : MethodName := ⟨RX12, "blanks", "()V"⟩
abbrev cX12_has : ByteArray := prog_14_method_43_code
def yX12_has : MethodName := ⟨RX12, "has", "(I)Z"⟩
abbrev cX12_counts : ByteArray := prog_14_method_44_code
def yX12_counts : MethodName := ⟨RX12, "counts", "(I)Z"⟩
abbrev cX12_number : ByteArray := prog_14_method_45_code
def yX12_number : MethodName := ⟨RX12, "number", "(I)I"⟩
abbrev cX12_fault : ByteArray := prog_14_method_46_code
def yX12_fault : MethodName := ⟨RX12, "fault", "()I"⟩
abbrev cX12_emits : ByteArray := prog_14_method_47_code
def yX12_emits : MethodName := ⟨RX12, "emits", "(II)Z"⟩
abbrev cX12_deeper : ByteArray := prog_14_method_48_code
def yX12_deeper : MethodName := ⟨RX12, "deeper", "()Z"⟩
abbrev cX12_readOverlap : ByteArray := prog_14_method_49_code
def yX12_readOverlap : MethodName := ⟨RX12, "readOverlap", "()Z"⟩
abbrev cX12_readUnit : ByteArray := prog_14_method_50_code
def yX12_readUnit : MethodName := ⟨RX12, "readUnit", "()Z"⟩
abbrev cX12_readProduct : ByteArray := prog_14_method_51_code
def yX12_readProduct : MethodName := ⟨RX12, "readProduct", "()Z"⟩
abbrev cX12_readSum : ByteArray := prog_14_method_52_code
def yX12_readSum : MethodName := ⟨RX12, "readSum", "()Z"⟩
abbrev cX12_uses : ByteArray := prog_14_method_53_code
def yX12_uses : MethodName := ⟨RX12, "uses", "()V"⟩
abbrev cX12_signs : ByteArray := prog_14_method_54_code
def yX12_signs : MethodName := ⟨RX12, "signs", "()I"⟩
abbrev cX12_field : ByteArray := prog_14_method_55_code
def yX12_field : MethodName := ⟨RX12, "field", "(I)V"⟩
abbrev cX12_form : ByteArray := prog_14_method_56_code
def yX12_form : MethodName := ⟨RX12, "form", "()I"⟩
abbrev cX12_lays : ByteArray := prog_14_method_57_code
def yX12_lays : MethodName := ⟨RX12, "lays", "()I"⟩
abbrev cX12_table : ByteArray := prog_14_method_58_code
def yX12_table : MethodName := ⟨RX12, "table", "(IIII)I"⟩
abbrev cX12_join : ByteArray := prog_14_method_59_code
def yX12_join : MethodName := ⟨RX12, "join", "(II)I"⟩
abbrev cX12_turnsBack : ByteArray := prog_14_method_60_code
def yX12_turnsBack : MethodName := ⟨RX12, "turnsBack", "()V"⟩
abbrev cX12_turn : ByteArray := prog_14_method_61_code
def yX12_turn : MethodName := ⟨RX12, "turn", "(I)I"⟩
abbrev cX12_told : ByteArray := prog_14_method_62_code
def yX12_told : MethodName := ⟨RX12, "told", "(II)I"⟩
abbrev cX12_det : ByteArray := prog_14_method_63_code
def yX12_det : MethodName := ⟨RX12, "det", "(I)I"⟩
abbrev cX12_look : ByteArray := prog_14_method_64_code
def yX12_look : MethodName := ⟨RX12, "look", "(II)I"⟩
abbrev cX12_at : ByteArray := prog_14_method_65_code
def yX12_at : MethodName := ⟨RX12, "at", "(III)I"⟩
abbrev cX12_mixesForm : ByteArray := prog_14_method_66_code
def yX12_mixesForm : MethodName := ⟨RX12, "mixesForm", "(I)Z"⟩
abbrev cX12_mix : ByteArray := prog_14_method_67_code
def yX12_mix : MethodName := ⟨RX12, "mix", "(II)Z"⟩
abbrev cX12_again : ByteArray := prog_14_method_68_code
def yX12_again : MethodName := ⟨RX12, "again", "(IZ)I"⟩
abbrev cX12_undo : ByteArray := prog_14_method_69_code
def yX12_undo : MethodName := ⟨RX12, "undo", "()I"⟩
abbrev cX12_redo : ByteArray := prog_14_method_70_code
def yX12_redo : MethodName := ⟨RX12, "redo", "()I"⟩
abbrev cX12_stepOf : ByteArray := prog_14_method_71_code
def yX12_stepOf : MethodName := ⟨RX12, "stepOf", "(II)I"⟩
abbrev cX12_toldBy : ByteArray := prog_14_method_72_code
def yX12_toldBy : MethodName := ⟨RX12, "toldBy", "(II)I"⟩
abbrev cX12_stepsOf : ByteArray := prog_14_method_73_code
def yX12_stepsOf : MethodName := ⟨RX12, "stepsOf", "(I)I"⟩
abbrev cX12_makes : ByteArray := prog_14_method_74_code
def yX12_makes : MethodName := ⟨RX12, "makes", "(I)Z"⟩
abbrev cX12_joins : ByteArray := prog_14_method_75_code
def yX12_joins : MethodName := ⟨RX12, "joins", "(IIII)Z"⟩
abbrev cX12_value : ByteArray := prog_14_method_76_code
def yX12_value : MethodName := ⟨RX12, "value", "(III)I"⟩
abbrev cX12_rankOf : ByteArray := prog_14_method_77_code
def yX12_rankOf : MethodName := ⟨RX12, "rankOf", "(IZ)I"⟩
abbrev cX12_rank : ByteArray := prog_14_method_78_code
def yX12_rank : MethodName := ⟨RX12, "rank", "(IZ)I"⟩
abbrev cX12_stays : ByteArray := prog_14_method_79_code
def yX12_stays : MethodName := ⟨RX12, "stays", "(III)Z"⟩
abbrev cX12_agree : ByteArray := prog_14_method_80_code
def yX12_agree : MethodName := ⟨RX12, "agree", "(III)I"⟩
abbrev cX12_waysOf : ByteArray := prog_14_method_81_code
def yX12_waysOf : MethodName := ⟨RX12, "waysOf", "(III)J"⟩
abbrev cX12_count : ByteArray := prog_14_method_82_code
def yX12_count : MethodName := ⟨RX12, "count", "(III)J"⟩
abbrev cX12_draws : ByteArray := prog_14_method_83_code
def yX12_draws : MethodName := ⟨RX12, "draws", "(II)V"⟩
abbrev cX12_rowOf : ByteArray := prog_14_method_84_code
def yX12_rowOf : MethodName := ⟨RX12, "rowOf", "(IIII)Z"⟩
abbrev cX12_firstOf : ByteArray := prog_14_method_85_code
def yX12_firstOf : MethodName := ⟨RX12, "firstOf", "(I)I"⟩
abbrev cX12_isNew : ByteArray := prog_14_method_86_code
def yX12_isNew : MethodName := ⟨RX12, "isNew", "(II)Z"⟩
abbrev cX12_basisOf : ByteArray := prog_14_method_87_code
def yX12_basisOf : MethodName := ⟨RX12, "basisOf", "(III)I"⟩
abbrev cX12_span : ByteArray := prog_14_method_88_code
def yX12_span : MethodName := ⟨RX12, "span", "(III)I"⟩
abbrev cX12_basis : ByteArray := prog_14_method_89_code
def yX12_basis : MethodName := ⟨RX12, "basis", "(III)I"⟩
abbrev cX12_noPoint : ByteArray := prog_14_method_90_code
def yX12_noPoint : MethodName := ⟨RX12, "noPoint", "(I)Z"⟩
abbrev cX12_oftenRoot : ByteArray := prog_14_method_91_code
def yX12_oftenRoot : MethodName := ⟨RX12, "oftenRoot", "(II)I"⟩
abbrev cX12_root : ByteArray := prog_14_method_92_code
def yX12_root : MethodName := ⟨RX12, "root", "(II)I"⟩
abbrev cX12_roots : ByteArray := prog_14_method_93_code
def yX12_roots : MethodName := ⟨RX12, "roots", "(I)I"⟩
abbrev cX12_empty : ByteArray := prog_14_method_94_code
def yX12_empty : MethodName := ⟨RX12, "empty", "(I)Z"⟩
abbrev cX12_values : ByteArray := prog_14_method_95_code
def yX12_values : MethodName := ⟨RX12, "values", "(I)V"⟩
abbrev cX12_tried : ByteArray := prog_14_method_96_code
def yX12_tried : MethodName := ⟨RX12, "tried", "(Z)I"⟩
abbrev cX12_sameOf : ByteArray := prog_14_method_97_code
def yX12_sameOf : MethodName := ⟨RX12, "sameOf", "(II)I"⟩
abbrev cX12_same : ByteArray := prog_14_method_98_code
def yX12_same : MethodName := ⟨RX12, "same", "(II)I"⟩
abbrev cX12_allTables : ByteArray := prog_14_method_99_code
def yX12_allTables : MethodName := ⟨RX12, "allTables", "()I"⟩
abbrev cX12_keeps : ByteArray := prog_14_method_100_code
def yX12_keeps : MethodName := ⟨RX12, "keeps", "(I)I"⟩
abbrev cX12_keep : ByteArray := prog_14_method_101_code
def yX12_keep : MethodName := ⟨RX12, "keep", "(I)I"⟩
abbrev cX12_orbit : ByteArray := prog_14_method_102_code
def yX12_orbit : MethodName := ⟨RX12, "orbit", "(I)I"⟩
abbrev cX12_kind : ByteArray := prog_14_method_103_code
def yX12_kind : MethodName := ⟨RX12, "kind", "(I)I"⟩
abbrev cX12_powerAt : ByteArray := prog_14_method_104_code
def yX12_powerAt : MethodName := ⟨RX12, "powerAt", "(II)I"⟩
abbrev cX12_raises : ByteArray := prog_14_method_105_code
def yX12_raises : MethodName := ⟨RX12, "raises", "(I)V"⟩
abbrev cX12_isLast : ByteArray := prog_14_method_106_code
def yX12_isLast : MethodName := ⟨RX12, "isLast", "(I)Z"⟩
abbrev cX12_isSum : ByteArray := prog_14_method_107_code
def yX12_isSum : MethodName := ⟨RX12, "isSum", "(I)Z"⟩
abbrev cX12_isPair : ByteArray := prog_14_method_108_code
def yX12_isPair : MethodName := ⟨RX12, "isPair", "(I)Z"⟩
abbrev cX12_isTriple : ByteArray := prog_14_method_109_code
def yX12_isTriple : MethodName := ⟨RX12, "isTriple", "()Z"⟩
abbrev cX12_powers : ByteArray := prog_14_method_110_code
def yX12_powers : MethodName := ⟨RX12, "powers", "(II)I"⟩
abbrev cX12_strips : ByteArray := prog_14_method_111_code
def yX12_strips : MethodName := ⟨RX12, "strips", "(I)I"⟩
abbrev cX12_divides : ByteArray := prog_14_method_112_code
def yX12_divides : MethodName := ⟨RX12, "divides", "(III)V"⟩
abbrev cX12_commons : ByteArray := prog_14_method_113_code
def yX12_commons : MethodName := ⟨RX12, "commons", "()V"⟩
abbrev cX12_toldOf : ByteArray := prog_14_method_114_code
def yX12_toldOf : MethodName := ⟨RX12, "toldOf", "(II)I"⟩
abbrev cX12_common : ByteArray := prog_14_method_115_code
def yX12_common : MethodName := ⟨RX12, "common", "(III)I"⟩
abbrev cX12_hasQuotient : ByteArray := prog_14_method_116_code
def yX12_hasQuotient : MethodName := ⟨RX12, "hasQuotient", "()Z"⟩
abbrev cX12_quotient : ByteArray := prog_14_method_117_code
def yX12_quotient : MethodName := ⟨RX12, "quotient", "(III)I"⟩
abbrev cX12_plain : ByteArray := prog_14_method_118_code
def yX12_plain : MethodName := ⟨RX12, "plain", "(I)Z"⟩
abbrev cX12_overlap : ByteArray := prog_14_method_119_code
def yX12_overlap : MethodName := ⟨RX12, "overlap", "(IIII)I"⟩
abbrev cX12_joinsWhole : ByteArray := prog_14_method_120_code
def yX12_joinsWhole : MethodName := ⟨RX12, "joinsWhole", "(JJJJ)V"⟩
abbrev cX12_isWide : ByteArray := prog_14_method_121_code
def yX12_isWide : MethodName := ⟨RX12, "isWide", "()Z"⟩
abbrev cX12_isTurned : ByteArray := prog_14_method_122_code
def yX12_isTurned : MethodName := ⟨RX12, "isTurned", "()Z"⟩
abbrev cX12_reduces : ByteArray := prog_14_method_123_code
def yX12_reduces : MethodName := ⟨RX12, "reduces", "()V"⟩
abbrev cX12_turnsOf : ByteArray := prog_14_method_124_code
def yX12_turnsOf : MethodName := ⟨RX12, "turnsOf", "(JJJ)I"⟩
abbrev cX12_isThousand : ByteArray := prog_14_method_125_code
def yX12_isThousand : MethodName := ⟨RX12, "isThousand", "(I)Z"⟩
abbrev cX12_reduced : ByteArray := prog_14_method_126_code
def yX12_reduced : MethodName := ⟨RX12, "reduced", "(IIII)J"⟩
abbrev cX12_shared : ByteArray := prog_14_method_127_code
def yX12_shared : MethodName := ⟨RX12, "shared", "(II)I"⟩
abbrev cX12_noDisc : ByteArray := prog_14_method_128_code
def yX12_noDisc : MethodName := ⟨RX12, "noDisc", "(I)Z"⟩
abbrev cX12_reducedMany : ByteArray := prog_14_method_129_code
def yX12_reducedMany : MethodName := ⟨RX12, "reducedMany", "(IZI)I"⟩
abbrev cX12_classes : ByteArray := prog_14_method_130_code
def yX12_classes : MethodName := ⟨RX12, "classes", "(IZ)I"⟩
abbrev cX12_reducedAt : ByteArray := prog_14_method_131_code
def yX12_reducedAt : MethodName := ⟨RX12, "reducedAt", "(III)I"⟩
abbrev cX12_realOfCubic : ByteArray := prog_14_method_132_code
def yX12_realOfCubic : MethodName := ⟨RX12, "realOfCubic", "(JJJJ)I"⟩
abbrev cX12_realOfQuartic : ByteArray := prog_14_method_133_code
def yX12_realOfQuartic : MethodName := ⟨RX12, "realOfQuartic", "(JJJJJ)I"⟩
abbrev cX12_isThirty : ByteArray := prog_14_method_134_code
def yX12_isThirty : MethodName := ⟨RX12, "isThirty", "(I)Z"⟩
abbrev cX12_real : ByteArray := prog_14_method_135_code
def yX12_real : MethodName := ⟨RX12, "real", "(IIIII)I"⟩
abbrev cX12_stock : ByteArray := prog_14_method_136_code
def yX12_stock : MethodName := ⟨RX12, "stock", "(I)I"⟩
def RJx145de : String := "java/io/Serializable"
def TJx145de : u_T := fun k => match k with
  | _ => ("", "", "", false)
def tyJx145de : Nat → FieldType := fun k => match k with
  | _ => .int
theorem nmJx145de : ∀ a, a < 0 → ∀ b, b < 0 → a ≠ b → (TJx145de a).2.1 ≠ (TJx145de b).2.1 := by decide +kernel
theorem tyJx145de_ok : ∀ k, k < 0 → parseFieldDescriptor (TJx145de k).2.2.1 = some (tyJx145de k) := by decide +kernel
def RJ6 : String := "java/lang/Integer"
def TJ6 : u_T := fun k => match k with
  | _ => ("", "", "", false)
def tyJ6 : Nat → FieldType := fun k => match k with
  | _ => .int
abbrev wsJ60 : List Cond := u_ws RJ6 TJ6 0
theorem nmJ6 : ∀ a, a < 0 → ∀ b, b < 0 → a ≠ b → (TJ6 a).2.1 ≠ (TJ6 b).2.1 := by decide +kernel
theorem tyJ6_ok : ∀ k, k < 0 → parseFieldDescriptor (TJ6 k).2.2.1 = some (tyJ6 k) := by decide +kernel
abbrev cJ6_bitCount_0f7a4 : ByteArray := prog_20_method_49_code
def yJ6_bitCount_0f7a4 : MethodName := ⟨RJ6, "bitCount", "(I)I"⟩
def RJ9 : String := "java/lang/Math"
def TJ9 : u_T := fun k => match k with
  | _ => ("", "", "", false)
def tyJ9 : Nat → FieldType := fun k => match k with
  | _ => .int
abbrev wsJ90 : List Cond := u_ws RJ9 TJ9 0
theorem nmJ9 : ∀ a, a < 0 → ∀ b, b < 0 → a ≠ b → (TJ9 a).2.1 ≠ (TJ9 b).2.1 := by decide +kernel
theorem tyJ9_ok : ∀ k, k < 0 → parseFieldDescriptor (TJ9 k).2.2.1 = some (tyJ9 k) := by decide +kernel
abbrev cJ9_floorDiv_f86c9 : ByteArray := prog_21_method_49_code
def yJ9_floorDiv_f86c9 : MethodName := ⟨RJ9, "floorDiv", "(JJ)J"⟩
abbrev cJ9_floorMod_7cf53 : ByteArray := prog_21_method_50_code
def yJ9_floorMod_7cf53 : MethodName := ⟨RJ9, "floorMod", "(II)I"⟩
abbrev cJ9_floorMod_f86c9 : ByteArray := prog_21_method_52_code
def yJ9_floorMod_f86c9 : MethodName := ⟨RJ9, "floorMod", "(JJ)J"⟩
abbrev cJ9_abs_0f7a4 : ByteArray := prog_21_method_59_code
def yJ9_abs_0f7a4 : MethodName := ⟨RJ9, "abs", "(I)I"⟩
abbrev cJ9_min_7cf53 : ByteArray := prog_21_method_69_code
def yJ9_min_7cf53 : MethodName := ⟨RJ9, "min", "(II)I"⟩
def RJ7 : String := "java/util/Arrays"
def TJ7 : u_T := fun k => match k with
  | _ => ("", "", "", false)
def tyJ7 : Nat → FieldType := fun k => match k with
  | _ => .int
abbrev wsJ70 : List Cond := u_ws RJ7 TJ7 0
theorem nmJ7 : ∀ a, a < 0 → ∀ b, b < 0 → a ≠ b → (TJ7 a).2.1 ≠ (TJ7 b).2.1 := by decide +kernel
theorem tyJ7_ok : ∀ k, k < 0 → parseFieldDescriptor (TJ7 k).2.2.1 = some (tyJ7 k) := by decide +kernel
abbrev cJ7_fill_d0a16 : ByteArray := prog_25_method_101_code
def yJ7_fill_d0a16 : MethodName := ⟨RJ7, "fill", "([JJ)V"⟩
abbrev cJ7_fill_53178 : ByteArray := prog_25_method_103_code
def yJ7_fill_53178 : MethodName := ⟨RJ7, "fill", "([II)V"⟩
def RL : String := "LetterFormsLaw"
abbrev cL_field : ByteArray := method_3_code
def yL_field : MethodName := ⟨RL, "field", "(LLetterForms;I)I"⟩
abbrev cL_form : ByteArray := method_4_code
def yL_form : MethodName := ⟨RL, "form", "(LLetterForms;[J)I"⟩
abbrev cL_table : ByteArray := method_5_code
def yL_table : MethodName := ⟨RL, "table", "(LLetterForms;IIII[J)I"⟩
abbrev cL_signs : ByteArray := method_6_code
def yL_signs : MethodName := ⟨RL, "signs", "(LLetterForms;[J)I"⟩
abbrev cL_look : ByteArray := method_7_code
def yL_look : MethodName := ⟨RL, "look", "(LLetterForms;II[J)I"⟩
abbrev cL_at : ByteArray := method_8_code
def yL_at : MethodName := ⟨RL, "at", "(LLetterForms;III[J)I"⟩
abbrev cL_det : ByteArray := method_9_code
def yL_det : MethodName := ⟨RL, "det", "(LLetterForms;I[J)I"⟩
abbrev cL_mix : ByteArray := method_10_code
def yL_mix : MethodName := ⟨RL, "mix", "(LLetterForms;II[J)I"⟩
abbrev cL_value : ByteArray := method_11_code
def yL_value : MethodName := ⟨RL, "value", "(LLetterForms;III[J)I"⟩
abbrev cL_rank : ByteArray := method_12_code
def yL_rank : MethodName := ⟨RL, "rank", "(LLetterForms;IZ[J)I"⟩
abbrev cL_stays : ByteArray := method_13_code
def yL_stays : MethodName := ⟨RL, "stays", "(LLetterForms;III[J)I"⟩
abbrev cL_agree : ByteArray := method_14_code
def yL_agree : MethodName := ⟨RL, "agree", "(LLetterForms;III[J)I"⟩
abbrev cL_count : ByteArray := method_15_code
def yL_count : MethodName := ⟨RL, "count", "(LLetterForms;III[J)I"⟩
abbrev cL_span : ByteArray := method_16_code
def yL_span : MethodName := ⟨RL, "span", "(LLetterForms;III[J)I"⟩
abbrev cL_basis : ByteArray := method_17_code
def yL_basis : MethodName := ⟨RL, "basis", "(LLetterForms;III[J)I"⟩
abbrev cL_kind : ByteArray := method_18_code
def yL_kind : MethodName := ⟨RL, "kind", "(LLetterForms;I[J)I"⟩
abbrev cL_orbit : ByteArray := method_19_code
def yL_orbit : MethodName := ⟨RL, "orbit", "(LLetterForms;I[J)I"⟩
abbrev cL_join : ByteArray := method_20_code
def yL_join : MethodName := ⟨RL, "join", "(LLetterForms;II[J)I"⟩
abbrev cL_turn : ByteArray := method_21_code
def yL_turn : MethodName := ⟨RL, "turn", "(LLetterForms;I[J)I"⟩
abbrev cL_told : ByteArray := method_22_code
def yL_told : MethodName := ⟨RL, "told", "(LLetterForms;II[J)I"⟩
abbrev cL_quotient : ByteArray := method_23_code
def yL_quotient : MethodName := ⟨RL, "quotient", "(LLetterForms;III[J)I"⟩
abbrev cL_plain : ByteArray := method_24_code
def yL_plain : MethodName := ⟨RL, "plain", "(LLetterForms;I[J)I"⟩
abbrev cL_root : ByteArray := method_25_code
def yL_root : MethodName := ⟨RL, "root", "(LLetterForms;II[J)I"⟩
abbrev cL_roots : ByteArray := method_26_code
def yL_roots : MethodName := ⟨RL, "roots", "(LLetterForms;I[J)I"⟩
abbrev cL_empty : ByteArray := method_27_code
def yL_empty : MethodName := ⟨RL, "empty", "(LLetterForms;I[J)I"⟩
abbrev cL_same : ByteArray := method_28_code
def yL_same : MethodName := ⟨RL, "same", "(LLetterForms;II[J)I"⟩
abbrev cL_keep : ByteArray := method_29_code
def yL_keep : MethodName := ⟨RL, "keep", "(LLetterForms;I[J)I"⟩
abbrev cL_powers : ByteArray := method_30_code
def yL_powers : MethodName := ⟨RL, "powers", "(LLetterForms;II[J)I"⟩
abbrev cL_common : ByteArray := method_31_code
def yL_common : MethodName := ⟨RL, "common", "(LLetterForms;III[J)I"⟩
abbrev cL_overlap : ByteArray := method_32_code
def yL_overlap : MethodName := ⟨RL, "overlap", "(LLetterForms;IIII[J)I"⟩
abbrev cL_reduced : ByteArray := method_33_code
def yL_reduced : MethodName := ⟨RL, "reduced", "(LLetterForms;IIII[J)I"⟩
abbrev cL_classes : ByteArray := method_34_code
def yL_classes : MethodName := ⟨RL, "classes", "(LLetterForms;IZ[J)I"⟩
abbrev cL_reducedAt : ByteArray := method_35_code
def yL_reducedAt : MethodName := ⟨RL, "reducedAt", "(LLetterForms;III[J)I"⟩
abbrev cL_real : ByteArray := method_36_code
def yL_real : MethodName := ⟨RL, "real", "(LLetterForms;IIIII[J)I"⟩
abbrev cL_law : ByteArray := code
def yL_law : MethodName := ⟨RL, "law", "([I)Z"⟩
def wsL_law0_r1 : List Cond := [Cond.classLink RL 8 RX11, Cond.instantiable RX11 14, Cond.initialized RX11, Cond.classLink RL 135 RX12, Cond.instantiable RX12 38, Cond.initialized RX12, Cond.arrayClass .long, Cond.methodLink RL 134 yX11_init, Cond.instanceMethod yX11_init, Cond.code yX11_init cX11_init 1 none, Cond.methodLink RX11 3 objectInit, Cond.instanceMethod objectInit, Cond.code objectInit ⟨#[0xb1]⟩ 1 none, Cond.classLink RX11 9 RX4, Cond.instantiable RX4 6, Cond.initialized RX4, Cond.fieldLink RX11 12 "LetterForms" "reader" "LLetterForms$Reader;", Cond.classLink RX11 16 RX8, Cond.instantiable RX8 11, Cond.initialized RX8, Cond.fieldLink RX11 19 "LetterForms" "now" "LLetterForms$State;", Cond.fieldLink RX11 23 "LetterForms" "kept" "LLetterForms$State;", Cond.fieldLink RX11 26 "LetterForms" "fault" "I", Cond.classLink RX11 30 RX0]
def wsL_law0_r2 : List Cond := [Cond.instantiable RX0 3, Cond.initialized RX0, Cond.fieldLink RX11 35 "LetterForms" "algebra" "LLetterForms$Algebra;", Cond.classLink RX11 39 RX1, Cond.instantiable RX1 6, Cond.initialized RX1, Cond.fieldLink RX11 44 "LetterForms" "calculator" "LLetterForms$Calculator;", Cond.classLink RX11 48 RX5, Cond.instantiable RX5 9, Cond.initialized RX5, Cond.fieldLink RX11 53 "LetterForms" "rows" "LLetterForms$Rows;", Cond.classLink RX11 57 RX6, Cond.instantiable RX6 7, Cond.initialized RX6, Cond.fieldLink RX11 60 "LetterForms" "search" "LLetterForms$Search;", Cond.classLink RX11 64 RX3, Cond.instantiable RX3 8, Cond.initialized RX3, Cond.fieldLink RX11 67 "LetterForms" "sums" "LLetterForms$Powers;", Cond.classLink RX11 71 RX10, Cond.instantiable RX10 8, Cond.initialized RX10, Cond.fieldLink RX11 74 "LetterForms" "whole" "LLetterForms$Whole;", Cond.classLink RX11 78 RX2]
def wsL_law0_r3 : List Cond := [Cond.instantiable RX2 2, Cond.initialized RX2, Cond.fieldLink RX11 81 "LetterForms" "work" "LLetterForms$Form;", Cond.fieldLink RX11 85 "LetterForms" "mixedWork" "LLetterForms$Form;", Cond.fieldLink RX11 88 "LetterForms" "otherWork" "LLetterForms$Form;", Cond.instanceMethod yX4_init, Cond.code yX4_init cX4_init 1 none, Cond.methodLink RX4 3 objectInit, Cond.classLink RX4 9 RX7, Cond.instantiable RX7 3, Cond.initialized RX7, Cond.fieldLink RX4 12 "LetterForms$Reader" "outcome" "LLetterForms$Signs;", Cond.arrayClass .int, Cond.fieldLink RX4 18 "LetterForms$Reader" "bytes" "[I", Cond.instanceMethod yX7_init, Cond.code yX7_init cX7_init 1 none, Cond.methodLink RX7 3 objectInit, Cond.fieldLink RX7 9 "LetterForms$Signs" "kinds" "[I", Cond.fieldLink RX7 15 "LetterForms$Signs" "sizes" "[I", Cond.methodLink RX11 18 yX8_init, Cond.instanceMethod yX8_init, Cond.code yX8_init cX8_init 2 none, Cond.methodLink RX8 3 objectInit, Cond.fieldLink RX8 9 "LetterForms$State" "p" "I"]
def wsL_law0_r4 : List Cond := [Cond.fieldLink RX8 15 "LetterForms$State" "which" "[I", Cond.fieldLink RX8 25 "LetterForms$State" "others" "[LLetterForms$Form;", Cond.fieldLink RX8 29 "LetterForms$State" "forms" "[LLetterForms$Form;", Cond.classLink RX8 32 RX9, Cond.fieldLink RX8 34 "LetterForms$State" "tables" "[LLetterForms$Table;", Cond.classLink RX8 38 RX7, Cond.fieldLink RX8 40 "LetterForms$State" "signs" "[LLetterForms$Signs;", Cond.instantiable RX9 4, Cond.initialized RX9, Cond.methodLink RX8 19 yX2_row, Cond.static yX2_row, Cond.code yX2_row cX2_row 3 (some (.array (.object "LetterForms$Form"))), Cond.classLink RX2 10 RX2, Cond.methodLink RX2 15 yX2_init, Cond.instanceMethod yX2_init, Cond.code yX2_init cX2_init 1 none, Cond.methodLink RX2 3 objectInit, Cond.fieldLink RX2 9 "LetterForms$Form" "numbers" "[I", Cond.instanceMethod yX9_init, Cond.code yX9_init cX9_init 1 none, Cond.methodLink RX9 1 objectInit, Cond.methodLink RX11 32 yX0_init, Cond.instanceMethod yX0_init, Cond.code yX0_init cX0_init 2 none]
def wsL_law0_r5 : List Cond := [Cond.methodLink RX0 3 objectInit, Cond.classLink RX0 9 RX2, Cond.fieldLink RX0 12 "LetterForms$Algebra" "left" "LLetterForms$Form;", Cond.fieldLink RX0 18 "LetterForms$Algebra" "right" "LLetterForms$Form;", Cond.fieldLink RX0 21 "LetterForms$Algebra" "state" "LLetterForms$State;", Cond.methodLink RX11 41 yX1_init, Cond.instanceMethod yX1_init, Cond.code yX1_init cX1_init 2 none, Cond.methodLink RX1 3 objectInit, Cond.fieldLink RX1 15 "LetterForms$Calculator" "stack" "[LLetterForms$Form;", Cond.fieldLink RX1 21 "LetterForms$Calculator" "totals" "[I", Cond.classLink RX1 10 RX2, Cond.fieldLink RX1 26 "LetterForms$Calculator" "number" "LLetterForms$Form;", Cond.fieldLink RX1 30 "LetterForms$Calculator" "result" "LLetterForms$Form;", Cond.fieldLink RX1 33 "LetterForms$Calculator" "algebra" "LLetterForms$Algebra;", Cond.methodLink RX1 9 yX2_row, Cond.methodLink RX11 50 yX5_init, Cond.instanceMethod yX5_init, Cond.code yX5_init cX5_init 3 none, Cond.methodLink RX5 3 objectInit, Cond.fieldLink RX5 15 "LetterForms$Rows" "drawn" "[LLetterForms$Form;", Cond.classLink RX5 21 "[[I", Cond.fieldLink RX5 23 "LetterForms$Rows" "held" "[[I", Cond.fieldLink RX5 26 "LetterForms$Rows" "firsts" "[I"]
def wsL_law0_r6 : List Cond := [Cond.fieldLink RX5 30 "LetterForms$Rows" "ways" "[J", Cond.fieldLink RX5 34 "LetterForms$Rows" "algebra" "LLetterForms$Algebra;", Cond.fieldLink RX5 38 "LetterForms$Rows" "calculator" "LLetterForms$Calculator;", Cond.methodLink RX5 9 yX2_row, Cond.methodLink RX11 59 yX6_init, Cond.instanceMethod yX6_init, Cond.code yX6_init cX6_init 2 none, Cond.methodLink RX6 3 objectInit, Cond.fieldLink RX6 9 "LetterForms$Search" "values" "[I", Cond.fieldLink RX6 15 "LetterForms$Search" "aims" "[I", Cond.fieldLink RX6 18 "LetterForms$Search" "firstPairs" "[I", Cond.fieldLink RX6 21 "LetterForms$Search" "secondPairs" "[I", Cond.fieldLink RX6 24 "LetterForms$Search" "algebra" "LLetterForms$Algebra;", Cond.methodLink RX11 66 yX3_init, Cond.instanceMethod yX3_init, Cond.code yX3_init cX3_init 2 none, Cond.methodLink RX3 3 objectInit, Cond.fieldLink RX3 9 "LetterForms$Powers" "points" "[I", Cond.fieldLink RX3 15 "LetterForms$Powers" "numbers" "[I", Cond.fieldLink RX3 18 "LetterForms$Powers" "shares" "[I", Cond.fieldLink RX3 21 "LetterForms$Powers" "row" "[I", Cond.fieldLink RX3 24 "LetterForms$Powers" "algebra" "LLetterForms$Algebra;", Cond.instanceMethod yX10_init, Cond.code yX10_init cX10_init 1 none]
def wsL_law0_r7 : List Cond := [Cond.methodLink RX10 3 objectInit, Cond.methodLink RL 137 yX12_init, Cond.instanceMethod yX12_init, Cond.code yX12_init cX12_init 1 none, Cond.methodLink RX12 7 objectInit, Cond.fieldLink RX12 13 "LetterFormsModel" "world" "[I", Cond.fieldLink RX12 17 "LetterFormsModel" "image" "[I", Cond.fieldLink RX12 20 "LetterFormsModel" "deg" "[I", Cond.fieldLink RX12 23 "LetterFormsModel" "num" "[I", Cond.arrayClass .byte, Cond.fieldLink RX12 26 "LetterFormsModel" "tape" "[B", Cond.fieldLink RX12 30 "LetterFormsModel" "faultAt" "I", Cond.fieldLink RX12 33 "LetterFormsModel" "five" "[I", Cond.fieldLink RX12 36 "LetterFormsModel" "ranks" "[I", Cond.fieldLink RX12 39 "LetterFormsModel" "ways" "[J", Cond.fieldLink RX12 43 "LetterFormsModel" "rows" "[I", Cond.fieldLink RX12 46 "LetterFormsModel" "drawn" "[I", Cond.fieldLink RX12 49 "LetterFormsModel" "valued" "[I", Cond.fieldLink RX12 52 "LetterFormsModel" "powered" "[I", Cond.fieldLink RX12 55 "LetterFormsModel" "spot" "[I", Cond.fieldLink RX12 58 "LetterFormsModel" "factor" "[I", Cond.fieldLink RX12 61 "LetterFormsModel" "whole" "[J", Cond.methodLink RL 138 yX11_feed, Cond.instanceMethod yX11_feed]
def wsL_law0_r8 : List Cond := [Cond.selects RX11 yX11_feed yX11_feed, Cond.code yX11_feed cX11_feed 6 (some .int), Cond.fieldLink RX11 91 "LetterForms$Reader" "held" "I", Cond.methodLink RX11 94 yX4_put, Cond.instanceMethod yX4_put, Cond.selects RX4 yX4_put yX4_put, Cond.code yX4_put cX4_put 3 none, Cond.fieldLink RX4 22 "LetterForms$Reader" "held" "I", Cond.methodLink RL 141 yX12_feed, Cond.instanceMethod yX12_feed, Cond.selects RX12 yX12_feed yX12_feed, Cond.code yX12_feed cX12_feed 7 (some .int), Cond.fieldLink RX12 3 "LetterFormsModel" "thrown" "I", Cond.fieldLink RX12 155 "LetterFormsModel" "taped" "I", Cond.methodLink RL 142 yX11_end, Cond.instanceMethod yX11_end, Cond.selects RX11 yX11_end yX11_end, Cond.code yX11_end cX11_end 2 (some .boolean), Cond.methodLink RL 145 yX12_end, Cond.instanceMethod yX12_end, Cond.selects RX12 yX12_end yX12_end, Cond.code yX12_end cX12_end 2 (some .boolean), Cond.methodLink RL 146 yL_field, Cond.static yL_field]
def wsL_law0_r9 : List Cond := [Cond.initialized RL, Cond.codeWith yL_field cL_field 3 (some .int) [(0, 5, 8, 13), (0, 5, 11, 15)], Cond.classLink RL 13 "java/lang/IllegalArgumentException", Cond.classLink RL 15 "java/lang/IllegalStateException", Cond.methodLink RL 7 yX11_field, Cond.instanceMethod yX11_field, Cond.selects RX11 yX11_field yX11_field, Cond.code yX11_field cX11_field 2 none, Cond.classLink RX11 98 "java/lang/IllegalArgumentException", Cond.initialized "java/lang/IllegalArgumentException", Cond.classLink RX11 107 "java/lang/IllegalStateException", Cond.initialized "java/lang/IllegalStateException", Cond.fieldLink RX11 101 "LetterForms$State" "formCount" "I", Cond.fieldLink RX11 104 "LetterForms$State" "tableCount" "I", Cond.fieldLink RX11 110 "LetterForms$State" "p" "I", Cond.methodLink RL 151 yX12_field, Cond.instanceMethod yX12_field, Cond.selects RX12 yX12_field yX12_field, Cond.code yX12_field cX12_field 2 none, Cond.methodLink RX12 215 yX12_throwsIf, Cond.instanceMethod yX12_throwsIf, Cond.selects RX12 yX12_throwsIf yX12_throwsIf, Cond.code yX12_throwsIf cX12_throwsIf 3 (some .boolean), Cond.methodLink RL 152 yL_form]
def wsL_law0_r10 : List Cond := [Cond.static yL_form, Cond.codeWith yL_form cL_form 3 (some .int) [(0, 8, 11, 13), (0, 8, 14, 21)], Cond.classLink RL 21 "java/lang/UnsupportedOperationException", Cond.methodLink RL 17 yX11_form, Cond.instanceMethod yX11_form, Cond.selects RX11 yX11_form yX11_form, Cond.code yX11_form cX11_form 4 (some .int), Cond.classLink RX11 121 "java/lang/UnsupportedOperationException", Cond.initialized "java/lang/UnsupportedOperationException", Cond.methodLink RX11 113 yX4_useUp, Cond.instanceMethod yX4_useUp, Cond.selects RX4 yX4_useUp yX4_useUp, Cond.code yX4_useUp cX4_useUp 2 (some .int), Cond.methodLink RX11 117 yX8_nextForm, Cond.instanceMethod yX8_nextForm, Cond.selects RX8 yX8_nextForm yX8_nextForm, Cond.code yX8_nextForm cX8_nextForm 1 (some (.object "LetterForms$Form")), Cond.fieldLink RX8 46 "LetterForms$State" "formCount" "I", Cond.methodLink RX8 59 yX8_formAt, Cond.instanceMethod yX8_formAt, Cond.selects RX8 yX8_formAt yX8_formAt, Cond.code yX8_formAt cX8_formAt 2 (some (.object "LetterForms$Form")), Cond.methodLink RX8 49 yX2_pick, Cond.static yX2_pick]
def wsL_law0_r11 : List Cond := [Cond.code yX2_pick cX2_pick 2 (some (.object "LetterForms$Form")), Cond.methodLink RX11 124 yX2_begin, Cond.instanceMethod yX2_begin, Cond.selects RX2 yX2_begin yX2_begin, Cond.code yX2_begin cX2_begin 2 none, Cond.fieldLink RX2 16 "LetterForms$Form" "degree" "I", Cond.methodLink RX2 20 yJ7_fill_53178, Cond.static yJ7_fill_53178, Cond.initialized RJ7, Cond.code yJ7_fill_53178 cJ7_fill_53178 4 none, Cond.methodLink RX11 127 yX4_byteAt, Cond.instanceMethod yX4_byteAt, Cond.selects RX4 yX4_byteAt yX4_byteAt, Cond.code yX4_byteAt cX4_byteAt 2 (some .int), Cond.methodLink RX11 131 yX0_of, Cond.instanceMethod yX0_of, Cond.selects RX0 yX0_of yX0_of, Cond.code yX0_of cX0_of 5 (some .int), Cond.fieldLink RX0 25 "LetterForms$State" "p" "I", Cond.methodLink RX11 135 yX2_set, Cond.instanceMethod yX2_set, Cond.selects RX2 yX2_set yX2_set, Cond.code yX2_set cX2_set 3 none, Cond.methodLink RX11 139 yX8_forgetUndone]
def wsL_law0_r12 : List Cond := [Cond.instanceMethod yX8_forgetUndone, Cond.selects RX8 yX8_forgetUndone yX8_forgetUndone, Cond.code yX8_forgetUndone cX8_forgetUndone 1 none, Cond.fieldLink RX8 75 "LetterForms$State" "undone" "I", Cond.methodLink RL 155 yX12_form, Cond.instanceMethod yX12_form, Cond.selects RX12 yX12_form yX12_form, Cond.code yX12_form cX12_form 3 (some .int), Cond.fieldLink RX12 161 "LetterFormsModel" "end" "I", Cond.methodLink RX12 212 yX12_uses, Cond.instanceMethod yX12_uses, Cond.selects RX12 yX12_uses yX12_uses, Cond.code yX12_uses cX12_uses 1 none, Cond.fieldLink RX12 158 "LetterFormsModel" "point" "I", Cond.methodLink RX12 68 yX12_in, Cond.static yX12_in, Cond.code yX12_in cX12_in 3 (some .boolean), Cond.methodLink RX12 72 yX12_formAt, Cond.static yX12_formAt, Cond.code yX12_formAt cX12_formAt 1 (some .int), Cond.methodLink RX12 113 yX12_mod, Cond.instanceMethod yX12_mod, Cond.selects RX12 yX12_mod yX12_mod, Cond.code yX12_mod cX12_mod 3 (some .int)]
def wsL_law0_r13 : List Cond := [Cond.methodLink RX12 76 yX12_p, Cond.instanceMethod yX12_p, Cond.selects RX12 yX12_p yX12_p, Cond.code yX12_p cX12_p 1 (some .int), Cond.methodLink RX12 80 yJ9_floorMod_f86c9, Cond.static yJ9_floorMod_f86c9, Cond.initialized RJ9, Cond.code yJ9_floorMod_f86c9 cJ9_floorMod_f86c9 6 (some .long), Cond.methodLink RL 156 yL_table, Cond.static yL_table, Cond.codeWith yL_table cL_table 7 (some .int) [(0, 14, 17, 13), (0, 14, 21, 21)], Cond.methodLink RL 23 yX11_table, Cond.instanceMethod yX11_table, Cond.selects RX11 yX11_table yX11_table, Cond.code yX11_table cX11_table 6 (some .int), Cond.methodLink RX11 142 yX0_detOf, Cond.instanceMethod yX0_detOf, Cond.selects RX0 yX0_detOf yX0_detOf, Cond.code yX0_detOf cX0_detOf 5 (some .int), Cond.methodLink RX0 31 yX0_of, Cond.methodLink RX11 146 yX8_nextTable, Cond.instanceMethod yX8_nextTable, Cond.selects RX8 yX8_nextTable yX8_nextTable, Cond.code yX8_nextTable cX8_nextTable 1 (some (.object "LetterForms$Table"))]
def wsL_law0_r14 : List Cond := [Cond.fieldLink RX8 53 "LetterForms$State" "tableCount" "I", Cond.methodLink RX8 63 yX8_tableAt, Cond.instanceMethod yX8_tableAt, Cond.selects RX8 yX8_tableAt yX8_tableAt, Cond.code yX8_tableAt cX8_tableAt 2 (some (.object "LetterForms$Table")), Cond.methodLink RX11 150 yX0_fill, Cond.instanceMethod yX0_fill, Cond.selects RX0 yX0_fill yX0_fill, Cond.code yX0_fill cX0_fill 6 none, Cond.methodLink RX0 39 yX9_set, Cond.instanceMethod yX9_set, Cond.selects RX9 yX9_set yX9_set, Cond.code yX9_set cX9_set 5 none, Cond.fieldLink RX9 7 "LetterForms$Table" "a" "I", Cond.fieldLink RX9 13 "LetterForms$Table" "b" "I", Cond.fieldLink RX9 16 "LetterForms$Table" "c" "I", Cond.fieldLink RX9 19 "LetterForms$Table" "d" "I", Cond.methodLink RL 159 yX12_table, Cond.instanceMethod yX12_table, Cond.selects RX12 yX12_table yX12_table, Cond.code yX12_table cX12_table 5 (some .int), Cond.methodLink RX12 146 yX12_takesTable, Cond.instanceMethod yX12_takesTable, Cond.selects RX12 yX12_takesTable yX12_takesTable]
def wsL_law0_r15 : List Cond := [Cond.code yX12_takesTable cX12_takesTable 5 none, Cond.fieldLink RX12 131 "LetterFormsModel" "ta" "I", Cond.fieldLink RX12 134 "LetterFormsModel" "tb" "I", Cond.fieldLink RX12 137 "LetterFormsModel" "tc" "I", Cond.fieldLink RX12 140 "LetterFormsModel" "td" "I", Cond.methodLink RX12 219 yX12_detNow, Cond.instanceMethod yX12_detNow, Cond.selects RX12 yX12_detNow yX12_detNow, Cond.code yX12_detNow cX12_detNow 1 (some .int), Cond.methodLink RX12 86 yX12_times, Cond.instanceMethod yX12_times, Cond.selects RX12 yX12_times yX12_times, Cond.code yX12_times cX12_times 3 (some .int), Cond.methodLink RX12 149 yX12_less, Cond.instanceMethod yX12_less, Cond.selects RX12 yX12_less yX12_less, Cond.code yX12_less cX12_less 3 (some .int), Cond.methodLink RX12 222 yX12_lays, Cond.instanceMethod yX12_lays, Cond.selects RX12 yX12_lays yX12_lays, Cond.code yX12_lays cX12_lays 2 (some .int), Cond.methodLink RL 160 yL_signs, Cond.static yL_signs, Cond.codeWith yL_signs cL_signs 3 (some .int) [(0, 8, 11, 13), (0, 8, 14, 21)]]
def wsL_law0_r16 : List Cond := [Cond.methodLink RL 27 yX11_signs, Cond.instanceMethod yX11_signs, Cond.selects RX11 yX11_signs yX11_signs, Cond.code yX11_signs cX11_signs 2 (some .int), Cond.fieldLink RX11 161 "LetterForms$Reader" "outcome" "LLetterForms$Signs;", Cond.fieldLink RX11 171 "LetterForms$State" "signsCount" "I", Cond.methodLink RX11 154 yX4_read, Cond.instanceMethod yX4_read, Cond.selects RX4 yX4_read yX4_read, Cond.code yX4_read cX4_read 3 (some .int), Cond.fieldLink RX4 26 "LetterForms$Reader" "length" "I", Cond.fieldLink RX4 29 "LetterForms$Reader" "place" "I", Cond.fieldLink RX4 32 "LetterForms$Reader" "things" "I", Cond.fieldLink RX4 35 "LetterForms$Signs" "length" "I", Cond.methodLink RX4 36 yX4_readSum, Cond.instanceMethod yX4_readSum, Cond.selects RX4 yX4_readSum yX4_readSum, Cond.code yX4_readSum cX4_readSum 3 (some .boolean), Cond.methodLink RX4 48 yX4_readProduct, Cond.instanceMethod yX4_readProduct, Cond.selects RX4 yX4_readProduct yX4_readProduct, Cond.methodLink RX4 40 yX4_next, Cond.instanceMethod yX4_next, Cond.selects RX4 yX4_next yX4_next]
def wsL_law0_r17 : List Cond := [Cond.code yX4_next cX4_next 1 (some .int), Cond.methodLink RX4 44 yX4_byteAt, Cond.methodLink RX4 51 yX4_isThingMore, Cond.instanceMethod yX4_isThingMore, Cond.selects RX4 yX4_isThingMore yX4_isThingMore, Cond.code yX4_isThingMore cX4_isThingMore 1 (some .boolean), Cond.methodLink RX4 55 yX7_put, Cond.instanceMethod yX7_put, Cond.selects RX7 yX7_put yX7_put, Cond.code yX7_put cX7_put 3 none, Cond.fieldLink RX7 18 "LetterForms$Signs" "length" "I", Cond.code yX4_readOverlap cX4_readOverlap 2 (some .boolean), Cond.methodLink RX4 72 yX4_take, Cond.instanceMethod yX4_take, Cond.selects RX4 yX4_take yX4_take, Cond.code yX4_take cX4_take 2 (some .boolean), Cond.methodLink RX4 65 yX4_isDigit, Cond.static yX4_isDigit, Cond.code yX4_isDigit cX4_isDigit 1 (some .boolean), Cond.methodLink RX4 68 yX4_readNumber, Cond.instanceMethod yX4_readNumber, Cond.selects RX4 yX4_readNumber yX4_readNumber, Cond.code yX4_readNumber cX4_readNumber 5 (some .boolean), Cond.code yX4_readPart cX4_readPart 3 (some .boolean)]
def wsL_law0_r18 : List Cond := [Cond.methodLink RX4 62 yX4_readLetter, Cond.instanceMethod yX4_readLetter, Cond.selects RX4 yX4_readLetter yX4_readLetter, Cond.code yX4_readLetter cX4_readLetter 1 (some .boolean), Cond.methodLink RX4 78 yX4_isLetter, Cond.static yX4_isLetter, Cond.code yX4_isLetter cX4_isLetter 1 (some .boolean), Cond.methodLink RX4 75 yX4_readOverlap, Cond.instanceMethod yX4_readOverlap, Cond.selects RX4 yX4_readOverlap yX4_readOverlap, Cond.methodLink RX4 59 yX4_readPart, Cond.instanceMethod yX4_readPart, Cond.selects RX4 yX4_readPart yX4_readPart, Cond.code yX4_readProduct cX4_readProduct 3 (some .boolean), Cond.methodLink RX11 157 yX8_nextSigns, Cond.instanceMethod yX8_nextSigns, Cond.selects RX8 yX8_nextSigns yX8_nextSigns, Cond.code yX8_nextSigns cX8_nextSigns 1 (some (.object "LetterForms$Signs")), Cond.fieldLink RX8 56 "LetterForms$State" "signsCount" "I", Cond.methodLink RX8 67 yX8_signsAt, Cond.instanceMethod yX8_signsAt, Cond.selects RX8 yX8_signsAt yX8_signsAt, Cond.code yX8_signsAt cX8_signsAt 2 (some (.object "LetterForms$Signs")), Cond.methodLink RX11 165 yX7_copyFrom]
def wsL_law0_r19 : List Cond := [Cond.instanceMethod yX7_copyFrom, Cond.selects RX7 yX7_copyFrom yX7_copyFrom, Cond.code yX7_copyFrom cX7_copyFrom 3 none, Cond.methodLink RX7 22 yX7_kindAt, Cond.instanceMethod yX7_kindAt, Cond.selects RX7 yX7_kindAt yX7_kindAt, Cond.code yX7_kindAt cX7_kindAt 2 (some .int), Cond.methodLink RX7 26 yX7_sizeAt, Cond.instanceMethod yX7_sizeAt, Cond.selects RX7 yX7_sizeAt yX7_sizeAt, Cond.code yX7_sizeAt cX7_sizeAt 2 (some .int), Cond.methodLink RX7 29 yX7_put, Cond.methodLink RL 162 yX12_signs, Cond.instanceMethod yX12_signs, Cond.selects RX12 yX12_signs yX12_signs, Cond.code yX12_signs cX12_signs 4 (some .int), Cond.fieldLink RX12 180 "LetterFormsModel" "deep" "I", Cond.fieldLink RX12 174 "LetterFormsModel" "counted" "I", Cond.fieldLink RX12 177 "LetterFormsModel" "steps" "I", Cond.fieldLink RX12 168 "LetterFormsModel" "begin" "I", Cond.methodLink RX12 187 yX12_readSum, Cond.instanceMethod yX12_readSum, Cond.selects RX12 yX12_readSum yX12_readSum, Cond.code yX12_readSum cX12_readSum 1 (some .boolean)]
def wsL_law0_r20 : List Cond := [Cond.methodLink RX12 209 yX12_readProduct, Cond.instanceMethod yX12_readProduct, Cond.selects RX12 yX12_readProduct yX12_readProduct, Cond.methodLink RX12 206 yX12_counts, Cond.instanceMethod yX12_counts, Cond.selects RX12 yX12_counts yX12_counts, Cond.code yX12_counts cX12_counts 2 (some .boolean), Cond.methodLink RX12 171 yX12_blanks, Cond.instanceMethod yX12_blanks, Cond.selects RX12 yX12_blanks yX12_blanks, Cond.code yX12_blanks cX12_blanks 1 none, Cond.methodLink RX12 164 yX12_isAt, Cond.instanceMethod yX12_isAt, Cond.selects RX12 yX12_isAt yX12_isAt, Cond.code yX12_isAt cX12_isAt 3 (some .boolean), Cond.methodLink RX12 197 yX12_emits, Cond.instanceMethod yX12_emits, Cond.selects RX12 yX12_emits yX12_emits, Cond.code yX12_emits cX12_emits 3 (some .boolean), Cond.code yX12_readOverlap cX12_readOverlap 2 (some .boolean), Cond.methodLink RX12 183 yX12_deeper, Cond.instanceMethod yX12_deeper, Cond.selects RX12 yX12_deeper yX12_deeper, Cond.code yX12_deeper cX12_deeper 1 (some .boolean)]
def wsL_law0_r21 : List Cond := [Cond.methodLink RX12 190 yX12_has, Cond.instanceMethod yX12_has, Cond.selects RX12 yX12_has yX12_has, Cond.code yX12_has cX12_has 2 (some .boolean), Cond.methodLink RX12 194 yX12_number, Cond.instanceMethod yX12_number, Cond.selects RX12 yX12_number yX12_number, Cond.code yX12_number cX12_number 3 (some .int), Cond.code yX12_readProduct cX12_readProduct 1 (some .boolean), Cond.methodLink RX12 200 yX12_readUnit, Cond.instanceMethod yX12_readUnit, Cond.selects RX12 yX12_readUnit yX12_readUnit, Cond.code yX12_readUnit cX12_readUnit 2 (some .boolean), Cond.methodLink RX12 203 yX12_readOverlap, Cond.instanceMethod yX12_readOverlap, Cond.selects RX12 yX12_readOverlap yX12_readOverlap, Cond.methodLink RL 163 yX11_fault, Cond.instanceMethod yX11_fault, Cond.selects RX11 yX11_fault yX11_fault, Cond.code yX11_fault cX11_fault 1 (some .int), Cond.methodLink RL 166 yX12_fault, Cond.instanceMethod yX12_fault, Cond.selects RX12 yX12_fault yX12_fault, Cond.code yX12_fault cX12_fault 1 (some .int)]
def wsL_law0_r22 : List Cond := [Cond.methodLink RL 167 yL_look, Cond.static yL_look, Cond.codeWith yL_look cL_look 5 (some .int) [(0, 10, 13, 34)], Cond.classLink RL 34 "java/lang/IndexOutOfBoundsException", Cond.methodLink RL 30 yX11_look, Cond.instanceMethod yX11_look, Cond.selects RX11 yX11_look yX11_look, Cond.code yX11_look cX11_look 3 (some .int), Cond.methodLink RX11 195 yX11_toldForm, Cond.instanceMethod yX11_toldForm, Cond.selects RX11 yX11_toldForm yX11_toldForm, Cond.code yX11_toldForm cX11_toldForm 3 (some (.object "LetterForms$Form")), Cond.classLink RX11 178 "java/lang/IndexOutOfBoundsException", Cond.initialized "java/lang/IndexOutOfBoundsException", Cond.methodLink RX11 174 yX8_formAt, Cond.methodLink RX11 198 yX11_degreeOrNumber, Cond.static yX11_degreeOrNumber, Cond.code yX11_degreeOrNumber cX11_degreeOrNumber 2 (some .int), Cond.fieldLink RX11 189 "LetterForms$Form" "degree" "I", Cond.methodLink RX11 192 yX2_get, Cond.instanceMethod yX2_get, Cond.selects RX2 yX2_get yX2_get, Cond.code yX2_get cX2_get 2 (some .int), Cond.methodLink RL 170 yX12_look]
def wsL_law0_r23 : List Cond := [Cond.instanceMethod yX12_look, Cond.selects RX12 yX12_look yX12_look, Cond.code yX12_look cX12_look 3 (some .int), Cond.methodLink RX12 238 yX12_noForm, Cond.instanceMethod yX12_noForm, Cond.selects RX12 yX12_noForm yX12_noForm, Cond.code yX12_noForm cX12_noForm 2 (some .boolean), Cond.methodLink RX12 93 yX12_degreeOf, Cond.instanceMethod yX12_degreeOf, Cond.selects RX12 yX12_degreeOf yX12_degreeOf, Cond.code yX12_degreeOf cX12_degreeOf 2 (some .int), Cond.methodLink RX12 96 yX12_numberOf, Cond.instanceMethod yX12_numberOf, Cond.selects RX12 yX12_numberOf yX12_numberOf, Cond.code yX12_numberOf cX12_numberOf 3 (some .int), Cond.methodLink RL 171 yL_at, Cond.static yL_at, Cond.codeWith yL_at cL_at 6 (some .int) [(0, 12, 15, 34)], Cond.methodLink RL 36 yX11_at, Cond.instanceMethod yX11_at, Cond.selects RX11 yX11_at yX11_at, Cond.code yX11_at cX11_at 5 (some .int), Cond.methodLink RX11 202 yX0_worth, Cond.instanceMethod yX0_worth]
def wsL_law0_r24 : List Cond := [Cond.selects RX0 yX0_worth yX0_worth, Cond.code yX0_worth cX0_worth 7 (some .int), Cond.fieldLink RX0 45 "LetterForms$Form" "degree" "I", Cond.methodLink RX0 48 yX2_get, Cond.methodLink RL 174 yX12_at, Cond.instanceMethod yX12_at, Cond.selects RX12 yX12_at yX12_at, Cond.code yX12_at cX12_at 4 (some .int), Cond.methodLink RX12 241 yX12_takes, Cond.instanceMethod yX12_takes, Cond.selects RX12 yX12_takes yX12_takes, Cond.code yX12_takes cX12_takes 4 none, Cond.methodLink RX12 99 yX12_put, Cond.instanceMethod yX12_put, Cond.selects RX12 yX12_put yX12_put, Cond.code yX12_put cX12_put 4 none, Cond.methodLink RX12 244 yX12_valueAt, Cond.instanceMethod yX12_valueAt, Cond.selects RX12 yX12_valueAt yX12_valueAt, Cond.code yX12_valueAt cX12_valueAt 6 (some .int), Cond.methodLink RX12 103 yX12_of, Cond.instanceMethod yX12_of, Cond.selects RX12 yX12_of yX12_of, Cond.code yX12_of cX12_of 3 (some .int)]
def wsL_law0_r25 : List Cond := [Cond.methodLink RX12 90 yX12_power, Cond.instanceMethod yX12_power, Cond.selects RX12 yX12_power yX12_power, Cond.code yX12_power cX12_power 5 (some .int), Cond.methodLink RX12 110 yX12_plus, Cond.instanceMethod yX12_plus, Cond.selects RX12 yX12_plus yX12_plus, Cond.code yX12_plus cX12_plus 3 (some .int), Cond.methodLink RL 175 yL_det, Cond.static yL_det, Cond.codeWith yL_det cL_det 4 (some .int) [(0, 9, 12, 34)], Cond.methodLink RL 40 yX11_det, Cond.instanceMethod yX11_det, Cond.selects RX11 yX11_det yX11_det, Cond.code yX11_det cX11_det 3 (some .int), Cond.fieldLink RX11 209 "LetterForms$Table" "a" "I", Cond.fieldLink RX11 214 "LetterForms$Table" "b" "I", Cond.fieldLink RX11 217 "LetterForms$Table" "c" "I", Cond.fieldLink RX11 220 "LetterForms$Table" "d" "I", Cond.methodLink RX11 206 yX11_toldTable, Cond.instanceMethod yX11_toldTable, Cond.selects RX11 yX11_toldTable yX11_toldTable, Cond.code yX11_toldTable cX11_toldTable 3 (some (.object "LetterForms$Table")), Cond.methodLink RX11 181 yX8_tableAt]
def wsL_law0_r26 : List Cond := [Cond.methodLink RL 178 yX12_det, Cond.instanceMethod yX12_det, Cond.selects RX12 yX12_det yX12_det, Cond.code yX12_det cX12_det 2 (some .int), Cond.methodLink RX12 225 yX12_noTable, Cond.instanceMethod yX12_noTable, Cond.selects RX12 yX12_noTable yX12_noTable, Cond.code yX12_noTable cX12_noTable 2 (some .boolean), Cond.methodLink RX12 228 yX12_tables, Cond.instanceMethod yX12_tables, Cond.selects RX12 yX12_tables yX12_tables, Cond.code yX12_tables cX12_tables 2 none, Cond.methodLink RX12 143 yX12_ofTable, Cond.instanceMethod yX12_ofTable, Cond.selects RX12 yX12_ofTable yX12_ofTable, Cond.code yX12_ofTable cX12_ofTable 3 (some .int), Cond.methodLink RL 179 yL_mix, Cond.static yL_mix, Cond.codeWith yL_mix cL_mix 5 (some .int) [(0, 17, 20, 34)], Cond.methodLink RL 44 yX11_mix, Cond.instanceMethod yX11_mix, Cond.selects RX11 yX11_mix yX11_mix, Cond.code yX11_mix cX11_mix 6 (some .boolean), Cond.methodLink RX11 226 yX0_mixInto]
def wsL_law0_r27 : List Cond := [Cond.instanceMethod yX0_mixInto, Cond.selects RX0 yX0_mixInto yX0_mixInto, Cond.code yX0_mixInto cX0_mixInto 6 none, Cond.fieldLink RX0 59 "LetterForms$Table" "a" "I", Cond.fieldLink RX0 62 "LetterForms$Table" "b" "I", Cond.fieldLink RX0 69 "LetterForms$Table" "c" "I", Cond.fieldLink RX0 72 "LetterForms$Table" "d" "I", Cond.methodLink RX0 55 yX2_begin, Cond.methodLink RX0 52 yX2_set, Cond.methodLink RX0 65 yX0_multiplyByLine, Cond.instanceMethod yX0_multiplyByLine, Cond.selects RX0 yX0_multiplyByLine yX0_multiplyByLine, Cond.code yX0_multiplyByLine cX0_multiplyByLine 5 none, Cond.methodLink RX11 230 yX2_matches, Cond.instanceMethod yX2_matches, Cond.selects RX2 yX2_matches yX2_matches, Cond.code yX2_matches cX2_matches 4 (some .boolean), Cond.methodLink RX2 26 yX2_get, Cond.methodLink RX11 234 yX8_write, Cond.instanceMethod yX8_write, Cond.selects RX8 yX8_write yX8_write, Cond.code yX8_write cX8_write 4 none, Cond.fieldLink RX8 78 "LetterForms$State" "done" "I", Cond.methodLink RX8 81 yX8_forgetFirst]
def wsL_law0_r28 : List Cond := [Cond.instanceMethod yX8_forgetFirst, Cond.selects RX8 yX8_forgetFirst yX8_forgetFirst, Cond.code yX8_forgetFirst cX8_forgetFirst 4 none, Cond.methodLink RX8 84 yX2_copyFrom, Cond.instanceMethod yX2_copyFrom, Cond.selects RX2 yX2_copyFrom yX2_copyFrom, Cond.code yX2_copyFrom cX2_copyFrom 3 none, Cond.methodLink RX2 30 yX2_set, Cond.methodLink RX11 238 yX2_copyFrom, Cond.methodLink RL 181 yX12_mix, Cond.instanceMethod yX12_mix, Cond.selects RX12 yX12_mix yX12_mix, Cond.code yX12_mix cX12_mix 5 (some .boolean), Cond.methodLink RX12 254 yX12_mixesForm, Cond.instanceMethod yX12_mixesForm, Cond.selects RX12 yX12_mixesForm yX12_mixesForm, Cond.code yX12_mixesForm cX12_mixesForm 3 (some .boolean), Cond.methodLink RX12 248 yX12_mixes, Cond.instanceMethod yX12_mixes, Cond.selects RX12 yX12_mixes yX12_mixes, Cond.code yX12_mixes cX12_mixes 6 none, Cond.methodLink RX12 106 yX12_clears, Cond.instanceMethod yX12_clears, Cond.selects RX12 yX12_clears yX12_clears]
def wsL_law0_r29 : List Cond := [Cond.code yX12_clears cX12_clears 4 none, Cond.methodLink RX12 152 yX12_widens, Cond.instanceMethod yX12_widens, Cond.selects RX12 yX12_widens yX12_widens, Cond.code yX12_widens cX12_widens 5 none, Cond.methodLink RX12 251 yX12_isLike, Cond.instanceMethod yX12_isLike, Cond.selects RX12 yX12_isLike yX12_isLike, Cond.code yX12_isLike cX12_isLike 5 (some .boolean), Cond.methodLink RL 182 yX11_undo, Cond.instanceMethod yX11_undo, Cond.selects RX11 yX11_undo yX11_undo, Cond.code yX11_undo cX11_undo 3 (some .int), Cond.methodLink RX11 241 yX8_nextBack, Cond.instanceMethod yX8_nextBack, Cond.selects RX8 yX8_nextBack yX8_nextBack, Cond.code yX8_nextBack cX8_nextBack 1 (some .int), Cond.methodLink RX11 244 yX8_stepBack, Cond.instanceMethod yX8_stepBack, Cond.selects RX8 yX8_stepBack yX8_stepBack, Cond.code yX8_stepBack cX8_stepBack 3 none, Cond.methodLink RX8 88 yX2_swapWith, Cond.instanceMethod yX2_swapWith, Cond.selects RX2 yX2_swapWith yX2_swapWith]
def wsL_law0_r30 : List Cond := [Cond.code yX2_swapWith cX2_swapWith 4 none, Cond.methodLink RL 185 yX12_undo, Cond.instanceMethod yX12_undo, Cond.selects RX12 yX12_undo yX12_undo, Cond.code yX12_undo cX12_undo 1 (some .int), Cond.methodLink RX12 257 yX12_again, Cond.instanceMethod yX12_again, Cond.selects RX12 yX12_again yX12_again, Cond.code yX12_again cX12_again 4 (some .int), Cond.methodLink RX12 235 yX12_turnsBack, Cond.instanceMethod yX12_turnsBack, Cond.selects RX12 yX12_turnsBack yX12_turnsBack, Cond.code yX12_turnsBack cX12_turnsBack 2 none, Cond.methodLink RX12 232 yX12_inverse, Cond.instanceMethod yX12_inverse, Cond.selects RX12 yX12_inverse yX12_inverse, Cond.code yX12_inverse cX12_inverse 2 (some .int), Cond.methodLink RL 186 yX11_redo, Cond.instanceMethod yX11_redo, Cond.selects RX11 yX11_redo yX11_redo, Cond.code yX11_redo cX11_redo 3 (some .int), Cond.methodLink RX11 247 yX8_nextOn, Cond.instanceMethod yX8_nextOn, Cond.selects RX8 yX8_nextOn yX8_nextOn]
def wsL_law0_r31 : List Cond := [Cond.code yX8_nextOn cX8_nextOn 1 (some .int), Cond.methodLink RX11 250 yX8_stepOn, Cond.instanceMethod yX8_stepOn, Cond.selects RX8 yX8_stepOn yX8_stepOn, Cond.code yX8_stepOn cX8_stepOn 3 none, Cond.methodLink RL 189 yX12_redo, Cond.instanceMethod yX12_redo, Cond.selects RX12 yX12_redo yX12_redo, Cond.code yX12_redo cX12_redo 1 (some .int), Cond.methodLink RL 190 yL_value, Cond.static yL_value, Cond.codeWith yL_value cL_value 6 (some .int) [(0, 12, 15, 34)], Cond.methodLink RL 48 yX11_value, Cond.instanceMethod yX11_value, Cond.selects RX11 yX11_value yX11_value, Cond.code yX11_value cX11_value 7 (some .int), Cond.methodLink RX11 253 yX11_toldSigns, Cond.instanceMethod yX11_toldSigns, Cond.selects RX11 yX11_toldSigns yX11_toldSigns, Cond.code yX11_toldSigns cX11_toldSigns 3 (some (.object "LetterForms$Signs")), Cond.methodLink RX11 185 yX8_signsAt, Cond.methodLink RX11 256 yX1_valueOf, Cond.instanceMethod yX1_valueOf, Cond.selects RX1 yX1_valueOf yX1_valueOf]
def wsL_law0_r32 : List Cond := [Cond.code yX1_valueOf cX1_valueOf 6 (some (.object "LetterForms$Form")), Cond.fieldLink RX1 37 "LetterForms$Calculator" "top" "I", Cond.fieldLink RX1 41 "LetterForms$Signs" "length" "I", Cond.methodLink RX1 46 yX7_kindAt, Cond.methodLink RX1 50 yX1_isLaid, Cond.instanceMethod yX1_isLaid, Cond.selects RX1 yX1_isLaid yX1_isLaid, Cond.code yX1_isLaid cX1_isLaid 3 (some .boolean), Cond.methodLink RX1 79 yX2_pick, Cond.methodLink RX1 83 yX2_copyFrom, Cond.methodLink RX1 54 yX2_begin, Cond.methodLink RX1 58 yX7_sizeAt, Cond.methodLink RX1 61 yX0_of, Cond.methodLink RX1 67 yX2_set, Cond.methodLink RX1 71 yX1_isTurned, Cond.instanceMethod yX1_isTurned, Cond.selects RX1 yX1_isTurned yX1_isTurned, Cond.code yX1_isTurned cX1_isTurned 2 (some .boolean), Cond.methodLink RX1 87 yX0_scale, Cond.instanceMethod yX0_scale, Cond.selects RX0 yX0_scale yX0_scale, Cond.code yX0_scale cX0_scale 4 none, Cond.methodLink RX1 75 yX1_isJoined, Cond.instanceMethod yX1_isJoined]
def wsL_law0_r33 : List Cond := [Cond.selects RX1 yX1_isJoined yX1_isJoined, Cond.code yX1_isJoined cX1_isJoined 6 (some .boolean), Cond.methodLink RX1 91 yX0_addTo, Cond.instanceMethod yX0_addTo, Cond.selects RX0 yX0_addTo yX0_addTo, Cond.code yX0_addTo cX0_addTo 4 (some .boolean), Cond.methodLink RX1 95 yX0_multiplyInto, Cond.instanceMethod yX0_multiplyInto, Cond.selects RX0 yX0_multiplyInto yX0_multiplyInto, Cond.code yX0_multiplyInto cX0_multiplyInto 4 (some .boolean), Cond.methodLink RX0 75 yX0_addProduct, Cond.instanceMethod yX0_addProduct, Cond.selects RX0 yX0_addProduct yX0_addProduct, Cond.code yX0_addProduct cX0_addProduct 8 none, Cond.methodLink RX1 99 yX0_overlapInto, Cond.instanceMethod yX0_overlapInto, Cond.selects RX0 yX0_overlapInto yX0_overlapInto, Cond.code yX0_overlapInto cX0_overlapInto 7 (some .boolean), Cond.methodLink RX0 79 yX0_differentiate, Cond.instanceMethod yX0_differentiate, Cond.selects RX0 yX0_differentiate yX0_differentiate, Cond.code yX0_differentiate cX0_differentiate 10 none, Cond.methodLink RL 192 yX12_value, Cond.instanceMethod yX12_value]
def wsL_law0_r34 : List Cond := [Cond.selects RX12 yX12_value yX12_value, Cond.code yX12_value cX12_value 4 (some .int), Cond.methodLink RX12 280 yX12_noSigns, Cond.instanceMethod yX12_noSigns, Cond.selects RX12 yX12_noSigns yX12_noSigns, Cond.code yX12_noSigns cX12_noSigns 2 (some .boolean), Cond.methodLink RX12 283 yX12_makes, Cond.instanceMethod yX12_makes, Cond.selects RX12 yX12_makes yX12_makes, Cond.code yX12_makes cX12_makes 6 (some .boolean), Cond.methodLink RX12 261 yX12_stepsOf, Cond.instanceMethod yX12_stepsOf, Cond.selects RX12 yX12_stepsOf yX12_stepsOf, Cond.code yX12_stepsOf cX12_stepsOf 2 (some .int), Cond.methodLink RX12 264 yX12_stepOf, Cond.instanceMethod yX12_stepOf, Cond.selects RX12 yX12_stepOf yX12_stepOf, Cond.code yX12_stepOf cX12_stepOf 3 (some .int), Cond.methodLink RX12 267 yX12_copies, Cond.instanceMethod yX12_copies, Cond.selects RX12 yX12_copies yX12_copies, Cond.code yX12_copies cX12_copies 4 none, Cond.methodLink RX12 270 yX12_toldBy, Cond.instanceMethod yX12_toldBy]
def wsL_law0_r35 : List Cond := [Cond.selects RX12 yX12_toldBy yX12_toldBy, Cond.code yX12_toldBy cX12_toldBy 3 (some .int), Cond.methodLink RX12 273 yX12_joins, Cond.instanceMethod yX12_joins, Cond.selects RX12 yX12_joins yX12_joins, Cond.code yX12_joins cX12_joins 6 (some .boolean), Cond.methodLink RX12 125 yX12_multiplies, Cond.instanceMethod yX12_multiplies, Cond.selects RX12 yX12_multiplies yX12_multiplies, Cond.code yX12_multiplies cX12_multiplies 6 none, Cond.methodLink RX12 277 yX12_overlaps, Cond.instanceMethod yX12_overlaps, Cond.selects RX12 yX12_overlaps yX12_overlaps, Cond.code yX12_overlaps cX12_overlaps 8 none, Cond.methodLink RX12 121 yX12_differentiates, Cond.instanceMethod yX12_differentiates, Cond.selects RX12 yX12_differentiates yX12_differentiates, Cond.code yX12_differentiates cX12_differentiates 6 none, Cond.methodLink RX12 117 yX12_differs, Cond.instanceMethod yX12_differs, Cond.selects RX12 yX12_differs yX12_differs, Cond.code yX12_differs cX12_differs 7 (some .int), Cond.methodLink RX12 128 yX12_over, Cond.static yX12_over]
def wsL_law0_r36 : List Cond := [Cond.code yX12_over cX12_over 4 (some .int), Cond.methodLink RL 193 yL_rank, Cond.static yL_rank, Cond.codeWith yL_rank cL_rank 5 (some .int) [(0, 10, 13, 34)], Cond.methodLink RL 51 yX11_rank, Cond.instanceMethod yX11_rank, Cond.selects RX11 yX11_rank yX11_rank, Cond.code yX11_rank cX11_rank 3 (some .int), Cond.methodLink RX11 260 yX1_total, Cond.instanceMethod yX1_total, Cond.selects RX1 yX1_total yX1_total, Cond.code yX1_total cX1_total 6 (some .int), Cond.methodLink RX1 103 yX1_isTotalLaid, Cond.instanceMethod yX1_isTotalLaid, Cond.selects RX1 yX1_isTotalLaid yX1_isTotalLaid, Cond.code yX1_isTotalLaid cX1_isTotalLaid 2 (some .boolean), Cond.methodLink RX1 107 yX1_isTotalJoined, Cond.instanceMethod yX1_isTotalJoined, Cond.selects RX1 yX1_isTotalJoined yX1_isTotalJoined, Cond.code yX1_isTotalJoined cX1_isTotalJoined 3 (some .boolean), Cond.methodLink RL 196 yX12_rank, Cond.instanceMethod yX12_rank, Cond.selects RX12 yX12_rank yX12_rank, Cond.code yX12_rank cX12_rank 3 (some .int)]
def wsL_law0_r37 : List Cond := [Cond.methodLink RX12 286 yX12_rankOf, Cond.instanceMethod yX12_rankOf, Cond.selects RX12 yX12_rankOf yX12_rankOf, Cond.code yX12_rankOf cX12_rankOf 9 (some .int), Cond.methodLink RL 197 yL_stays, Cond.static yL_stays, Cond.codeWith yL_stays cL_stays 6 (some .int) [(0, 19, 22, 34)], Cond.methodLink RL 55 yX11_stays, Cond.instanceMethod yX11_stays, Cond.selects RX11 yX11_stays yX11_stays, Cond.code yX11_stays cX11_stays 11 (some .boolean), Cond.methodLink RX11 264 yX0_power, Cond.instanceMethod yX0_power, Cond.selects RX0 yX0_power yX0_power, Cond.code yX0_power cX0_power 6 (some .int), Cond.methodLink RX11 268 yX0_scale, Cond.methodLink RL 199 yX12_stays, Cond.instanceMethod yX12_stays, Cond.selects RX12 yX12_stays yX12_stays, Cond.code yX12_stays cX12_stays 7 (some .boolean), Cond.methodLink RL 200 yL_agree, Cond.static yL_agree, Cond.codeWith yL_agree cL_agree 6 (some .int) [(0, 12, 15, 34), (0, 12, 19, 13)], Cond.methodLink RL 59 yX11_agree]
def wsL_law0_r38 : List Cond := [Cond.instanceMethod yX11_agree, Cond.selects RX11 yX11_agree yX11_agree, Cond.code yX11_agree cX11_agree 8 (some .int), Cond.methodLink RX11 272 yX11_isOneValue, Cond.instanceMethod yX11_isOneValue, Cond.selects RX11 yX11_isOneValue yX11_isOneValue, Cond.code yX11_isOneValue cX11_isOneValue 7 (some .boolean), Cond.methodLink RL 202 yX12_agree, Cond.instanceMethod yX12_agree, Cond.selects RX12 yX12_agree yX12_agree, Cond.code yX12_agree cX12_agree 7 (some .int), Cond.methodLink RL 203 yL_count, Cond.static yL_count, Cond.codeWith yL_count cL_count 6 (some .int) [(0, 11, 14, 13)], Cond.methodLink RL 62 yX11_count, Cond.instanceMethod yX11_count, Cond.selects RX11 yX11_count yX11_count, Cond.code yX11_count cX11_count 5 (some .long), Cond.methodLink RX11 276 yX5_ways, Cond.instanceMethod yX5_ways, Cond.selects RX5 yX5_ways yX5_ways, Cond.code yX5_ways cX5_ways 8 (some .long), Cond.methodLink RX5 108 yJ7_fill_d0a16, Cond.static yJ7_fill_d0a16]
def wsL_law0_r39 : List Cond := [Cond.code yJ7_fill_d0a16 cJ7_fill_d0a16 5 none, Cond.methodLink RX5 114 yX5_addWays, Cond.instanceMethod yX5_addWays, Cond.selects RX5 yX5_addWays yX5_addWays, Cond.code yX5_addWays cX5_addWays 3 none, Cond.methodLink RL 205 yX12_count, Cond.instanceMethod yX12_count, Cond.selects RX12 yX12_count yX12_count, Cond.code yX12_count cX12_count 5 (some .long), Cond.methodLink RX12 289 yX12_waysOf, Cond.instanceMethod yX12_waysOf, Cond.selects RX12 yX12_waysOf yX12_waysOf, Cond.code yX12_waysOf cX12_waysOf 7 (some .long), Cond.methodLink RL 206 yL_span, Cond.static yL_span, Cond.codeWith yL_span cL_span 6 (some .int) [(0, 12, 15, 13)], Cond.methodLink RL 66 yX11_span, Cond.instanceMethod yX11_span, Cond.selects RX11 yX11_span yX11_span, Cond.code yX11_span cX11_span 5 (some .int), Cond.methodLink RX11 280 yX5_independent, Cond.instanceMethod yX5_independent, Cond.selects RX5 yX5_independent yX5_independent, Cond.code yX5_independent cX5_independent 10 (some .int)]
def wsL_law0_r40 : List Cond := [Cond.fieldLink RX5 46 "LetterForms$Rows" "many" "I", Cond.fieldLink RX5 50 "LetterForms$Rows" "degree" "I", Cond.fieldLink RX5 59 "LetterForms$Rows" "place" "I", Cond.methodLink RX5 42 yX5_draw, Cond.instanceMethod yX5_draw, Cond.selects RX5 yX5_draw yX5_draw, Cond.code yX5_draw cX5_draw 7 none, Cond.constant RX5 84 (1103515245), Cond.methodLink RX5 62 yX2_pick, Cond.methodLink RX5 80 yX2_begin, Cond.methodLink RX5 85 yX0_of, Cond.methodLink RX5 91 yX2_set, Cond.methodLink RX5 53 yX8_signsAt, Cond.methodLink RX5 66 yX1_valueOf, Cond.methodLink RX5 72 yX5_isAppended, Cond.instanceMethod yX5_isAppended, Cond.selects RX5 yX5_isAppended yX5_isAppended, Cond.code yX5_isAppended cX5_isAppended 4 (some .boolean), Cond.fieldLink RX5 94 "LetterForms$Form" "degree" "I", Cond.methodLink RX5 95 yX2_get, Cond.methodLink RX5 76 yX5_isHeld, Cond.instanceMethod yX5_isHeld, Cond.selects RX5 yX5_isHeld yX5_isHeld, Cond.code yX5_isHeld cX5_isHeld 8 (some .boolean)]
def wsL_law0_r41 : List Cond := [Cond.methodLink RX5 99 Lib.Math.min.name, Cond.static Lib.Math.min.name, Cond.initialized "java/lang/Math", Cond.code Lib.Math.min.name Lib.Math.min.code 2 (some .int), Cond.methodLink RX5 105 yX0_inverse, Cond.instanceMethod yX0_inverse, Cond.selects RX0 yX0_inverse yX0_inverse, Cond.code yX0_inverse cX0_inverse 2 (some .int), Cond.methodLink RX0 35 yX0_power, Cond.methodLink RX11 284 yJ6_bitCount_0f7a4, Cond.static yJ6_bitCount_0f7a4, Cond.initialized RJ6, Cond.code yJ6_bitCount_0f7a4 cJ6_bitCount_0f7a4 1 (some .int), Cond.constant RJ6 265 (1431655765), Cond.constant RJ6 266 (858993459), Cond.constant RJ6 267 (252645135), Cond.methodLink RL 208 yX12_span, Cond.instanceMethod yX12_span, Cond.selects RX12 yX12_span yX12_span, Cond.code yX12_span cX12_span 5 (some .int), Cond.methodLink RX12 309 yX12_basisOf, Cond.instanceMethod yX12_basisOf, Cond.selects RX12 yX12_basisOf yX12_basisOf, Cond.code yX12_basisOf cX12_basisOf 8 (some .int)]
def wsL_law0_r42 : List Cond := [Cond.methodLink RX12 300 yX12_draws, Cond.instanceMethod yX12_draws, Cond.selects RX12 yX12_draws yX12_draws, Cond.code yX12_draws cX12_draws 5 none, Cond.constant RX12 293 (1103515245), Cond.methodLink RX12 303 yX12_rowOf, Cond.instanceMethod yX12_rowOf, Cond.selects RX12 yX12_rowOf yX12_rowOf, Cond.code yX12_rowOf cX12_rowOf 7 (some .boolean), Cond.fieldLink RX12 294 "LetterFormsModel" "longs" "I", Cond.methodLink RX12 306 yX12_isNew, Cond.instanceMethod yX12_isNew, Cond.selects RX12 yX12_isNew yX12_isNew, Cond.code yX12_isNew cX12_isNew 7 (some .boolean), Cond.methodLink RX12 297 yX12_firstOf, Cond.instanceMethod yX12_firstOf, Cond.selects RX12 yX12_firstOf yX12_firstOf, Cond.code yX12_firstOf cX12_firstOf 3 (some .int), Cond.methodLink RX12 312 yJ6_bitCount_0f7a4, Cond.methodLink RL 209 yL_basis, Cond.static yL_basis, Cond.codeWith yL_basis cL_basis 6 (some .int) [(0, 12, 15, 13)], Cond.methodLink RL 69 yX11_basis, Cond.instanceMethod yX11_basis]
def wsL_law0_r43 : List Cond := [Cond.selects RX11 yX11_basis yX11_basis, Cond.code yX11_basis cX11_basis 4 (some .int), Cond.methodLink RL 211 yX12_basis, Cond.instanceMethod yX12_basis, Cond.selects RX12 yX12_basis yX12_basis, Cond.code yX12_basis cX12_basis 4 (some .int), Cond.methodLink RL 212 yL_kind, Cond.static yL_kind, Cond.codeWith yL_kind cL_kind 4 (some .int) [(0, 9, 12, 34)], Cond.methodLink RL 72 yX11_kind, Cond.instanceMethod yX11_kind, Cond.selects RX11 yX11_kind yX11_kind, Cond.code yX11_kind cX11_kind 5 (some .int), Cond.fieldLink RX11 299 "LetterForms$Search" "found" "I", Cond.methodLink RX11 292 yX6_run, Cond.instanceMethod yX6_run, Cond.selects RX6 yX6_run yX6_run, Cond.code yX6_run cX6_run 7 none, Cond.fieldLink RX6 28 "LetterForms$Search" "first" "I", Cond.fieldLink RX6 32 "LetterForms$Search" "found" "I", Cond.fieldLink RX6 35 "LetterForms$Form" "degree" "I", Cond.methodLink RX6 40 yX2_isNought, Cond.instanceMethod yX2_isNought, Cond.selects RX2 yX2_isNought yX2_isNought]
def wsL_law0_r44 : List Cond := [Cond.code yX2_isNought cX2_isNought 1 (some .boolean), Cond.methodLink RX2 34 yX2_first, Cond.instanceMethod yX2_first, Cond.selects RX2 yX2_first yX2_first, Cond.code yX2_first cX2_first 2 (some .int), Cond.methodLink RX6 44 yX2_matches, Cond.methodLink RX6 48 yX0_tables, Cond.instanceMethod yX0_tables, Cond.selects RX0 yX0_tables yX0_tables, Cond.code yX0_tables cX0_tables 2 (some .int), Cond.methodLink RX6 54 yX6_aim, Cond.instanceMethod yX6_aim, Cond.selects RX6 yX6_aim yX6_aim, Cond.code yX6_aim cX6_aim 6 none, Cond.methodLink RX6 70 yX6_pointX, Cond.static yX6_pointX, Cond.code yX6_pointX cX6_pointX 1 (some .int), Cond.methodLink RX6 73 yX6_pointY, Cond.static yX6_pointY, Cond.code yX6_pointY cX6_pointY 1 (some .int), Cond.methodLink RX6 76 yX0_worth, Cond.methodLink RX6 80 yX0_p, Cond.instanceMethod yX0_p, Cond.selects RX0 yX0_p yX0_p]
def wsL_law0_r45 : List Cond := [Cond.code yX0_p cX0_p 1 (some .int), Cond.methodLink RX6 58 yX6_aimAt, Cond.instanceMethod yX6_aimAt, Cond.selects RX6 yX6_aimAt yX6_aimAt, Cond.code yX6_aimAt cX6_aimAt 2 (some .int), Cond.methodLink RX6 62 yX6_choose, Cond.instanceMethod yX6_choose, Cond.selects RX6 yX6_choose yX6_choose, Cond.code yX6_choose cX6_choose 6 (some .int), Cond.methodLink RX6 83 yX6_valueAt, Cond.instanceMethod yX6_valueAt, Cond.selects RX6 yX6_valueAt yX6_valueAt, Cond.code yX6_valueAt cX6_valueAt 4 (some .int), Cond.methodLink RX6 66 yX6_meet, Cond.instanceMethod yX6_meet, Cond.selects RX6 yX6_meet yX6_meet, Cond.code yX6_meet cX6_meet 10 none, Cond.methodLink RX6 95 Lib.Math.min.name, Cond.methodLink RX6 87 yX0_detOf, Cond.methodLink RX6 91 yX0_of, Cond.methodLink RL 214 yX12_kind, Cond.instanceMethod yX12_kind, Cond.selects RX12 yX12_kind yX12_kind, Cond.code yX12_kind cX12_kind 3 (some .int)]
def wsL_law0_r46 : List Cond := [Cond.methodLink RX12 333 yX12_sameOf, Cond.instanceMethod yX12_sameOf, Cond.selects RX12 yX12_sameOf yX12_sameOf, Cond.code yX12_sameOf cX12_sameOf 3 (some .int), Cond.methodLink RX12 320 yX12_isNought, Cond.instanceMethod yX12_isNought, Cond.selects RX12 yX12_isNought yX12_isNought, Cond.code yX12_isNought cX12_isNought 4 (some .boolean), Cond.methodLink RX12 329 yX12_tried, Cond.instanceMethod yX12_tried, Cond.selects RX12 yX12_tried yX12_tried, Cond.code yX12_tried cX12_tried 9 (some .int), Cond.methodLink RX12 326 yX12_values, Cond.instanceMethod yX12_values, Cond.selects RX12 yX12_values yX12_values, Cond.code yX12_values cX12_values 4 none, Cond.methodLink RL 215 yL_orbit, Cond.static yL_orbit, Cond.codeWith yL_orbit cL_orbit 4 (some .int) [(0, 9, 12, 34)], Cond.methodLink RL 75 yX11_orbit, Cond.instanceMethod yX11_orbit, Cond.selects RX11 yX11_orbit yX11_orbit, Cond.code yX11_orbit cX11_orbit 3 (some .int), Cond.methodLink RX11 302 yX0_tables]
def wsL_law0_r47 : List Cond := [Cond.methodLink RL 217 yX12_orbit, Cond.instanceMethod yX12_orbit, Cond.selects RX12 yX12_orbit yX12_orbit, Cond.code yX12_orbit cX12_orbit 2 (some .int), Cond.methodLink RX12 336 yX12_allTables, Cond.instanceMethod yX12_allTables, Cond.selects RX12 yX12_allTables yX12_allTables, Cond.code yX12_allTables cX12_allTables 1 (some .int), Cond.methodLink RX12 339 yX12_keeps, Cond.instanceMethod yX12_keeps, Cond.selects RX12 yX12_keeps yX12_keeps, Cond.code yX12_keeps cX12_keeps 2 (some .int), Cond.methodLink RL 218 yL_join, Cond.static yL_join, Cond.codeWith yL_join cL_join 5 (some .int) [(0, 10, 13, 34), (0, 10, 17, 21)], Cond.methodLink RL 78 yX11_join, Cond.instanceMethod yX11_join, Cond.selects RX11 yX11_join yX11_join, Cond.code yX11_join cX11_join 6 (some .int), Cond.methodLink RL 220 yX12_join, Cond.instanceMethod yX12_join, Cond.selects RX12 yX12_join yX12_join, Cond.code yX12_join cX12_join 7 (some .int), Cond.methodLink RL 221 yL_turn]
def wsL_law0_r48 : List Cond := [Cond.static yL_turn, Cond.codeWith yL_turn cL_turn 4 (some .int) [(0, 9, 12, 34), (0, 9, 15, 21)], Cond.methodLink RL 81 yX11_turn, Cond.instanceMethod yX11_turn, Cond.selects RX11 yX11_turn yX11_turn, Cond.code yX11_turn cX11_turn 5 (some .int), Cond.methodLink RX11 223 yX0_inverse, Cond.methodLink RL 223 yX12_turn, Cond.instanceMethod yX12_turn, Cond.selects RX12 yX12_turn yX12_turn, Cond.code yX12_turn cX12_turn 2 (some .int), Cond.methodLink RL 224 yL_told, Cond.static yL_told, Cond.codeWith yL_told cL_told 5 (some .int) [(0, 10, 13, 34)], Cond.methodLink RL 84 yX11_told, Cond.instanceMethod yX11_told, Cond.selects RX11 yX11_told yX11_told, Cond.code yX11_told cX11_told 4 (some .int), Cond.methodLink RL 226 yX12_told, Cond.instanceMethod yX12_told, Cond.selects RX12 yX12_told yX12_told, Cond.code yX12_told cX12_told 3 (some .int), Cond.methodLink RL 227 yL_quotient, Cond.static yL_quotient]
def wsL_law0_r49 : List Cond := [Cond.codeWith yL_quotient cL_quotient 6 (some .int) [(0, 12, 15, 34)], Cond.methodLink RL 87 yX11_quotient, Cond.instanceMethod yX11_quotient, Cond.selects RX11 yX11_quotient yX11_quotient, Cond.code yX11_quotient cX11_quotient 6 (some .int), Cond.methodLink RX11 325 yX0_divideInto, Cond.instanceMethod yX0_divideInto, Cond.selects RX0 yX0_divideInto yX0_divideInto, Cond.code yX0_divideInto cX0_divideInto 10 (some .boolean), Cond.methodLink RX0 83 yX2_first, Cond.methodLink RX0 99 yX0_inverse, Cond.methodLink RX0 102 yX0_multiplyInto, Cond.methodLink RX0 106 yX2_matches, Cond.methodLink RL 229 yX12_quotient, Cond.instanceMethod yX12_quotient, Cond.selects RX12 yX12_quotient yX12_quotient, Cond.code yX12_quotient cX12_quotient 4 (some .int), Cond.methodLink RX12 378 yX12_hasQuotient, Cond.instanceMethod yX12_hasQuotient, Cond.selects RX12 yX12_hasQuotient yX12_hasQuotient, Cond.code yX12_hasQuotient cX12_hasQuotient 4 (some .boolean), Cond.methodLink RX12 363 yX12_strips, Cond.instanceMethod yX12_strips, Cond.selects RX12 yX12_strips yX12_strips]
def wsL_law0_r50 : List Cond := [Cond.code yX12_strips cX12_strips 4 (some .int), Cond.methodLink RX12 369 yX12_divides, Cond.instanceMethod yX12_divides, Cond.selects RX12 yX12_divides yX12_divides, Cond.code yX12_divides cX12_divides 8 none, Cond.methodLink RX12 375 yX12_toldOf, Cond.instanceMethod yX12_toldOf, Cond.selects RX12 yX12_toldOf yX12_toldOf, Cond.code yX12_toldOf cX12_toldOf 3 (some .int), Cond.methodLink RL 230 yL_plain, Cond.static yL_plain, Cond.codeWith yL_plain cL_plain 4 (some .int) [(0, 16, 19, 34)], Cond.methodLink RL 90 yX11_plain, Cond.instanceMethod yX11_plain, Cond.selects RX11 yX11_plain yX11_plain, Cond.code yX11_plain cX11_plain 3 (some .boolean), Cond.methodLink RX11 329 yX0_differentiate, Cond.methodLink RX11 317 yX2_isNought, Cond.methodLink RX11 321 yX0_shareInto, Cond.instanceMethod yX0_shareInto, Cond.selects RX0 yX0_shareInto yX0_shareInto, Cond.code yX0_shareInto cX0_shareInto 9 none, Cond.methodLink RX0 110 Lib.Math.min.name, Cond.methodLink RX0 87 yX2_copyFrom]
def wsL_law0_r51 : List Cond := [Cond.methodLink RX0 115 yX2_dropY, Cond.instanceMethod yX2_dropY, Cond.selects RX2 yX2_dropY yX2_dropY, Cond.code yX2_dropY cX2_dropY 3 none, Cond.methodLink RX0 118 yX2_isNought, Cond.methodLink RX0 122 yX0_takeRest, Cond.instanceMethod yX0_takeRest, Cond.selects RX0 yX0_takeRest yX0_takeRest, Cond.code yX0_takeRest cX0_takeRest 7 none, Cond.methodLink RL 232 yX12_plain, Cond.instanceMethod yX12_plain, Cond.selects RX12 yX12_plain yX12_plain, Cond.code yX12_plain cX12_plain 2 (some .boolean), Cond.methodLink RX12 372 yX12_commons, Cond.instanceMethod yX12_commons, Cond.selects RX12 yX12_commons yX12_commons, Cond.code yX12_commons cX12_commons 5 none, Cond.methodLink RX12 366 Lib.Math.min.name, Cond.methodLink RL 233 yL_root, Cond.static yL_root, Cond.codeWith yL_root cL_root 5 (some .int) [(0, 10, 13, 34), (0, 10, 17, 13)], Cond.methodLink RL 94 yX11_root, Cond.instanceMethod yX11_root, Cond.selects RX11 yX11_root yX11_root]
def wsL_law0_r52 : List Cond := [Cond.code yX11_root cX11_root 4 (some .int), Cond.methodLink RX11 289 yX0_howOften, Cond.instanceMethod yX0_howOften, Cond.selects RX0 yX0_howOften yX0_howOften, Cond.code yX0_howOften cX0_howOften 5 (some .int), Cond.methodLink RX0 91 yX0_worth, Cond.methodLink RX0 95 yX0_dropRoot, Cond.instanceMethod yX0_dropRoot, Cond.selects RX0 yX0_dropRoot yX0_dropRoot, Cond.code yX0_dropRoot cX0_dropRoot 4 none, Cond.methodLink RL 235 yX12_root, Cond.instanceMethod yX12_root, Cond.selects RX12 yX12_root yX12_root, Cond.code yX12_root cX12_root 3 (some .int), Cond.methodLink RX12 317 yX12_noPoint, Cond.instanceMethod yX12_noPoint, Cond.selects RX12 yX12_noPoint yX12_noPoint, Cond.code yX12_noPoint cX12_noPoint 2 (some .boolean), Cond.methodLink RX12 323 yX12_oftenRoot, Cond.instanceMethod yX12_oftenRoot, Cond.selects RX12 yX12_oftenRoot yX12_oftenRoot, Cond.code yX12_oftenRoot cX12_oftenRoot 5 (some .int), Cond.methodLink RL 236 yL_roots, Cond.static yL_roots]
def wsL_law0_r53 : List Cond := [Cond.codeWith yL_roots cL_roots 4 (some .int) [(0, 9, 12, 34)], Cond.methodLink RL 97 yX11_roots, Cond.instanceMethod yX11_roots, Cond.selects RX11 yX11_roots yX11_roots, Cond.code yX11_roots cX11_roots 5 (some .int), Cond.methodLink RL 238 yX12_roots, Cond.instanceMethod yX12_roots, Cond.selects RX12 yX12_roots yX12_roots, Cond.code yX12_roots cX12_roots 4 (some .int), Cond.methodLink RL 239 yL_empty, Cond.static yL_empty, Cond.codeWith yL_empty cL_empty 4 (some .int) [(0, 16, 19, 34)], Cond.methodLink RL 100 yX11_empty, Cond.instanceMethod yX11_empty, Cond.selects RX11 yX11_empty yX11_empty, Cond.code yX11_empty cX11_empty 4 (some .boolean), Cond.methodLink RL 241 yX12_empty, Cond.instanceMethod yX12_empty, Cond.selects RX12 yX12_empty yX12_empty, Cond.code yX12_empty cX12_empty 4 (some .boolean), Cond.methodLink RL 242 yL_same, Cond.static yL_same, Cond.codeWith yL_same cL_same 5 (some .int) [(0, 10, 13, 34)], Cond.methodLink RL 103 yX11_same]
def wsL_law0_r54 : List Cond := [Cond.instanceMethod yX11_same, Cond.selects RX11 yX11_same yX11_same, Cond.code yX11_same cX11_same 5 (some .int), Cond.fieldLink RX11 296 "LetterForms$Search" "first" "I", Cond.methodLink RL 244 yX12_same, Cond.instanceMethod yX12_same, Cond.selects RX12 yX12_same yX12_same, Cond.code yX12_same cX12_same 3 (some .int), Cond.methodLink RL 245 yL_keep, Cond.static yL_keep, Cond.codeWith yL_keep cL_keep 4 (some .int) [(0, 9, 12, 34)], Cond.methodLink RL 106 yX11_keep, Cond.instanceMethod yX11_keep, Cond.selects RX11 yX11_keep yX11_keep, Cond.code yX11_keep cX11_keep 3 (some .int), Cond.methodLink RL 247 yX12_keep, Cond.instanceMethod yX12_keep, Cond.selects RX12 yX12_keep yX12_keep, Cond.code yX12_keep cX12_keep 2 (some .int), Cond.methodLink RL 248 yL_powers, Cond.static yL_powers, Cond.codeWith yL_powers cL_powers 5 (some .int) [(0, 10, 13, 34), (0, 10, 17, 13)], Cond.methodLink RL 109 yX11_powers, Cond.instanceMethod yX11_powers]
def wsL_law0_r55 : List Cond := [Cond.selects RX11 yX11_powers yX11_powers, Cond.code yX11_powers cX11_powers 4 (some .int), Cond.fieldLink RX11 308 "LetterForms$Powers" "many" "I", Cond.methodLink RX11 305 yX3_find, Cond.instanceMethod yX3_find, Cond.selects RX3 yX3_find yX3_find, Cond.code yX3_find cX3_find 3 none, Cond.fieldLink RX3 28 "LetterForms$Powers" "many" "I", Cond.fieldLink RX3 32 "LetterForms$Form" "degree" "I", Cond.fieldLink RX3 37 "LetterForms$Powers" "degree" "I", Cond.methodLink RX3 38 yX3_share, Cond.instanceMethod yX3_share, Cond.selects RX3 yX3_share yX3_share, Cond.code yX3_share cX3_share 4 none, Cond.methodLink RX3 50 yX2_get, Cond.methodLink RX3 53 yX0_inverse, Cond.methodLink RX3 58 yX0_of, Cond.methodLink RX3 42 yX3_isFound, Cond.instanceMethod yX3_isFound, Cond.selects RX3 yX3_isFound yX3_isFound, Cond.code yX3_isFound cX3_isFound 4 (some .boolean), Cond.methodLink RX3 62 yX3_isSumOf, Cond.instanceMethod yX3_isSumOf, Cond.selects RX3 yX3_isSumOf yX3_isSumOf]
def wsL_law0_r56 : List Cond := [Cond.code yX3_isSumOf cX3_isSumOf 3 (some .boolean), Cond.fieldLink RX3 85 "LetterForms$Powers" "length" "I", Cond.methodLink RX3 78 yX3_beginRow, Cond.instanceMethod yX3_beginRow, Cond.selects RX3 yX3_beginRow yX3_beginRow, Cond.code yX3_beginRow cX3_beginRow 2 none, Cond.methodLink RX3 81 yX3_takeOut, Cond.instanceMethod yX3_takeOut, Cond.selects RX3 yX3_takeOut yX3_takeOut, Cond.code yX3_takeOut cX3_takeOut 3 none, Cond.methodLink RX3 74 yX0_p, Cond.methodLink RX3 65 yX3_isNextChoice, Cond.instanceMethod yX3_isNextChoice, Cond.selects RX3 yX3_isNextChoice yX3_isNextChoice, Cond.code yX3_isNextChoice cX3_isNextChoice 4 (some .boolean), Cond.methodLink RX3 68 Lib.Math.min.name, Cond.methodLink RX3 46 yX3_numberOf, Cond.instanceMethod yX3_numberOf, Cond.selects RX3 yX3_numberOf yX3_numberOf, Cond.code yX3_numberOf cX3_numberOf 6 (some .int), Cond.methodLink RX3 88 yX3_pointAt, Cond.instanceMethod yX3_pointAt, Cond.selects RX3 yX3_pointAt yX3_pointAt, Cond.code yX3_pointAt cX3_pointAt 2 (some .int)]
def wsL_law0_r57 : List Cond := [Cond.methodLink RX11 311 yX3_pointAt, Cond.methodLink RX11 314 yX3_numberAt, Cond.instanceMethod yX3_numberAt, Cond.selects RX3 yX3_numberAt yX3_numberAt, Cond.code yX3_numberAt cX3_numberAt 2 (some .int), Cond.methodLink RL 250 yX12_powers, Cond.instanceMethod yX12_powers, Cond.selects RX12 yX12_powers yX12_powers, Cond.code yX12_powers cX12_powers 3 (some .int), Cond.fieldLink RX12 357 "LetterFormsModel" "powersMany" "I", Cond.methodLink RX12 354 yX12_raises, Cond.instanceMethod yX12_raises, Cond.selects RX12 yX12_raises yX12_raises, Cond.code yX12_raises cX12_raises 4 none, Cond.methodLink RX12 360 yX12_isSum, Cond.instanceMethod yX12_isSum, Cond.selects RX12 yX12_isSum yX12_isSum, Cond.code yX12_isSum cX12_isSum 5 (some .boolean), Cond.methodLink RX12 345 yX12_isLast, Cond.instanceMethod yX12_isLast, Cond.selects RX12 yX12_isLast yX12_isLast, Cond.code yX12_isLast cX12_isLast 6 (some .boolean), Cond.methodLink RX12 342 yX12_powerAt, Cond.instanceMethod yX12_powerAt]
def wsL_law0_r58 : List Cond := [Cond.selects RX12 yX12_powerAt yX12_powerAt, Cond.code yX12_powerAt cX12_powerAt 3 (some .int), Cond.methodLink RX12 348 yX12_isPair, Cond.instanceMethod yX12_isPair, Cond.selects RX12 yX12_isPair yX12_isPair, Cond.code yX12_isPair cX12_isPair 3 (some .boolean), Cond.methodLink RX12 351 yX12_isTriple, Cond.instanceMethod yX12_isTriple, Cond.selects RX12 yX12_isTriple yX12_isTriple, Cond.code yX12_isTriple cX12_isTriple 2 (some .boolean), Cond.methodLink RL 251 yL_common, Cond.static yL_common, Cond.codeWith yL_common cL_common 6 (some .int) [(0, 12, 15, 34)], Cond.methodLink RL 112 yX11_common, Cond.instanceMethod yX11_common, Cond.selects RX11 yX11_common yX11_common, Cond.code yX11_common cX11_common 6 (some .int), Cond.methodLink RL 253 yX12_common, Cond.instanceMethod yX12_common, Cond.selects RX12 yX12_common yX12_common, Cond.code yX12_common cX12_common 4 (some .int), Cond.methodLink RL 254 yL_overlap, Cond.static yL_overlap, Cond.codeWith yL_overlap cL_overlap 7 (some .int) [(0, 14, 17, 34), (0, 14, 21, 13)]]
def wsL_law0_r59 : List Cond := [Cond.methodLink RL 115 yX11_overlap, Cond.instanceMethod yX11_overlap, Cond.selects RX11 yX11_overlap yX11_overlap, Cond.code yX11_overlap cX11_overlap 7 (some .int), Cond.methodLink RX11 333 yX0_overlapInto, Cond.methodLink RL 256 yX12_overlap, Cond.instanceMethod yX12_overlap, Cond.selects RX12 yX12_overlap yX12_overlap, Cond.code yX12_overlap cX12_overlap 5 (some .int), Cond.methodLink RL 257 yL_reduced, Cond.static yL_reduced, Cond.codeWith yL_reduced cL_reduced 7 (some .int) [(0, 13, 16, 13), (0, 13, 20, 122)], Cond.classLink RL 122 "java/util/NoSuchElementException", Cond.methodLink RL 118 yX11_reduced, Cond.instanceMethod yX11_reduced, Cond.selects RX11 yX11_reduced yX11_reduced, Cond.code yX11_reduced cX11_reduced 5 (some .long), Cond.classLink RX11 341 "java/util/NoSuchElementException", Cond.initialized "java/util/NoSuchElementException", Cond.methodLink RX11 337 yX11_isWhole, Cond.static yX11_isWhole, Cond.code yX11_isWhole cX11_isWhole 2 (some .boolean), Cond.methodLink RX11 344 yX10_reduce, Cond.instanceMethod yX10_reduce]
def wsL_law0_r60 : List Cond := [Cond.selects RX10 yX10_reduce yX10_reduce, Cond.code yX10_reduce cX10_reduce 5 none, Cond.fieldLink RX10 9 "LetterForms$Whole" "a" "J", Cond.fieldLink RX10 15 "LetterForms$Whole" "b" "J", Cond.fieldLink RX10 18 "LetterForms$Whole" "c" "J", Cond.fieldLink RX10 21 "LetterForms$Whole" "changes" "J", Cond.fieldLink RX10 24 "LetterForms$Whole" "tableA" "J", Cond.fieldLink RX10 27 "LetterForms$Whole" "tableB" "J", Cond.fieldLink RX10 30 "LetterForms$Whole" "tableC" "J", Cond.fieldLink RX10 33 "LetterForms$Whole" "tableD" "J", Cond.constant RX10 36 (1000000), Cond.methodLink RX10 37 yX10_isReduced, Cond.instanceMethod yX10_isReduced, Cond.selects RX10 yX10_isReduced yX10_isReduced, Cond.code yX10_isReduced cX10_isReduced 1 (some .boolean), Cond.methodLink RX10 41 yX10_shift, Cond.instanceMethod yX10_shift, Cond.selects RX10 yX10_shift yX10_shift, Cond.code yX10_shift cX10_shift 3 none, Cond.constantLong RX10 47 (2), Cond.methodLink RX10 49 yJ9_floorDiv_f86c9, Cond.static yJ9_floorDiv_f86c9, Cond.code yJ9_floorDiv_f86c9 cJ9_floorDiv_f86c9 6 (some .long), Cond.methodLink RX10 44 yX10_swap]
def wsL_law0_r61 : List Cond := [Cond.instanceMethod yX10_swap, Cond.selects RX10 yX10_swap yX10_swap, Cond.code yX10_swap cX10_swap 7 none, Cond.methodLink RX11 348 yX10_tell, Cond.instanceMethod yX10_tell, Cond.selects RX10 yX10_tell yX10_tell, Cond.code yX10_tell cX10_tell 2 (some .long), Cond.constantLong RX10 59 (-1), Cond.methodLink RX10 55 yX10_turns, Cond.instanceMethod yX10_turns, Cond.selects RX10 yX10_turns yX10_turns, Cond.code yX10_turns cX10_turns 1 (some .int), Cond.methodLink RL 259 yX12_reduced, Cond.instanceMethod yX12_reduced, Cond.selects RX12 yX12_reduced yX12_reduced, Cond.code yX12_reduced cX12_reduced 6 (some .long), Cond.fieldLink RX12 388 "LetterFormsModel" "wa" "J", Cond.fieldLink RX12 385 "LetterFormsModel" "wb" "J", Cond.fieldLink RX12 391 "LetterFormsModel" "wc" "J", Cond.constantLong RX12 414 (4), Cond.fieldLink RX12 381 "LetterFormsModel" "changes" "J", Cond.methodLink RX12 411 yX12_isThousand, Cond.static yX12_isThousand, Cond.code yX12_isThousand cX12_isThousand 1 (some .boolean)]
def wsL_law0_r62 : List Cond := [Cond.methodLink RX12 416 yX12_reduces, Cond.instanceMethod yX12_reduces, Cond.selects RX12 yX12_reduces yX12_reduces, Cond.code yX12_reduces cX12_reduces 3 none, Cond.constantLong RX12 400 (2), Cond.constantLong RX12 409 (-1), Cond.methodLink RX12 394 yX12_isWide, Cond.instanceMethod yX12_isWide, Cond.selects RX12 yX12_isWide yX12_isWide, Cond.code yX12_isWide cX12_isWide 1 (some .boolean), Cond.methodLink RX12 397 yX12_isTurned, Cond.instanceMethod yX12_isTurned, Cond.selects RX12 yX12_isTurned yX12_isTurned, Cond.code yX12_isTurned cX12_isTurned 1 (some .boolean), Cond.methodLink RX12 402 yJ9_floorDiv_f86c9, Cond.methodLink RX12 405 yX12_joinsWhole, Cond.instanceMethod yX12_joinsWhole, Cond.selects RX12 yX12_joinsWhole yX12_joinsWhole, Cond.code yX12_joinsWhole cX12_joinsWhole 17 none, Cond.methodLink RX12 419 yX12_turnsOf, Cond.static yX12_turnsOf, Cond.code yX12_turnsOf cX12_turnsOf 6 (some .int), Cond.methodLink RL 260 yL_classes, Cond.static yL_classes]
def wsL_law0_r63 : List Cond := [Cond.codeWith yL_classes cL_classes 5 (some .int) [(0, 10, 13, 13)], Cond.methodLink RL 124 yX11_classes, Cond.instanceMethod yX11_classes, Cond.selects RX11 yX11_classes yX11_classes, Cond.code yX11_classes cX11_classes 3 (some .int), Cond.methodLink RX11 357 yX11_isDisc, Cond.static yX11_isDisc, Cond.code yX11_isDisc cX11_isDisc 1 (some .boolean), Cond.methodLink RX11 352 yJ9_floorMod_7cf53, Cond.static yJ9_floorMod_7cf53, Cond.code yJ9_floorMod_7cf53 cJ9_floorMod_7cf53 3 (some .int), Cond.methodLink RX11 361 yX10_seek, Cond.instanceMethod yX10_seek, Cond.selects RX10 yX10_seek yX10_seek, Cond.code yX10_seek cX10_seek 10 (some .int), Cond.methodLink RX10 61 yX10_divisor, Cond.static yX10_divisor, Cond.code yX10_divisor cX10_divisor 6 (some .int), Cond.methodLink RX10 65 Lib.Math.abs.name, Cond.static Lib.Math.abs.name, Cond.code Lib.Math.abs.name Lib.Math.abs.code 1 (some .int), Cond.methodLink RL 262 yX12_classes, Cond.instanceMethod yX12_classes, Cond.selects RX12 yX12_classes yX12_classes]
def wsL_law0_r64 : List Cond := [Cond.code yX12_classes cX12_classes 3 (some .int), Cond.methodLink RX12 440 yX12_noDisc, Cond.static yX12_noDisc, Cond.code yX12_noDisc cX12_noDisc 1 (some .boolean), Cond.methodLink RX12 426 yJ9_floorMod_7cf53, Cond.methodLink RX12 443 yX12_reducedMany, Cond.instanceMethod yX12_reducedMany, Cond.selects RX12 yX12_reducedMany yX12_reducedMany, Cond.code yX12_reducedMany cX12_reducedMany 8 (some .int), Cond.fieldLink RX12 431 "LetterFormsModel" "ra" "I", Cond.fieldLink RX12 434 "LetterFormsModel" "rb" "I", Cond.fieldLink RX12 437 "LetterFormsModel" "rc" "I", Cond.methodLink RX12 428 yX12_shared, Cond.static yX12_shared, Cond.code yX12_shared cX12_shared 5 (some .int), Cond.methodLink RX12 423 Lib.Math.abs.name, Cond.methodLink RL 263 yL_reducedAt, Cond.static yL_reducedAt, Cond.codeWith yL_reducedAt cL_reducedAt 6 (some .int) [(0, 12, 15, 13), (0, 12, 19, 122)], Cond.methodLink RL 127 yX11_reducedAt, Cond.instanceMethod yX11_reducedAt, Cond.selects RX11 yX11_reducedAt yX11_reducedAt, Cond.code yX11_reducedAt cX11_reducedAt 5 (some .int), Cond.methodLink RL 265 yX12_reducedAt]
def wsL_law0_r65 : List Cond := [Cond.instanceMethod yX12_reducedAt, Cond.selects RX12 yX12_reducedAt yX12_reducedAt, Cond.code yX12_reducedAt cX12_reducedAt 4 (some .int), Cond.methodLink RL 266 yL_real, Cond.static yL_real, Cond.codeWith yL_real cL_real 8 (some .int) [(0, 16, 19, 13)], Cond.methodLink RL 130 yX11_real, Cond.instanceMethod yX11_real, Cond.selects RX11 yX11_real yX11_real, Cond.code yX11_real cX11_real 7 (some .int), Cond.methodLink RX11 365 yX10_rootsOfCubic, Cond.static yX10_rootsOfCubic, Cond.code yX10_rootsOfCubic cX10_rootsOfCubic 10 (some .int), Cond.constantLong RX10 69 (18), Cond.constantLong RX10 71 (4), Cond.constantLong RX10 73 (27), Cond.constantLong RX10 75 (3), Cond.methodLink RX11 369 yX10_rootsOfQuartic, Cond.static yX10_rootsOfQuartic, Cond.code yX10_rootsOfQuartic cX10_rootsOfQuartic 18 (some .int), Cond.constantLong RX10 81 (8), Cond.constantLong RX10 83 (64), Cond.constantLong RX10 85 (16), Cond.constantLong RX10 91 (12)]
def wsL_law0_r66 : List Cond := [Cond.methodLink RX10 77 yX10_differences, Cond.static yX10_differences, Cond.code yX10_differences cX10_differences 10 (some .long), Cond.constantLong RX10 93 (256), Cond.constantLong RX10 95 (192), Cond.constantLong RX10 97 (128), Cond.constantLong RX10 99 (144), Cond.constantLong RX10 101 (6), Cond.constantLong RX10 103 (80), Cond.methodLink RX10 87 yX10_rootsOfDoubles, Cond.static yX10_rootsOfDoubles, Cond.code yX10_rootsOfDoubles cX10_rootsOfDoubles 4 (some .int), Cond.methodLink RL 269 yX12_real, Cond.instanceMethod yX12_real, Cond.selects RX12 yX12_real yX12_real, Cond.code yX12_real cX12_real 7 (some .int), Cond.methodLink RX12 465 yX12_isThirty, Cond.static yX12_isThirty, Cond.code yX12_isThirty cX12_isThirty 1 (some .boolean), Cond.methodLink RX12 468 yX12_realOfCubic, Cond.static yX12_realOfCubic, Cond.code yX12_realOfCubic cX12_realOfCubic 10 (some .int), Cond.constantLong RX12 447 (18), Cond.constantLong RX12 449 (27)]
def wsL_law0_r67 : List Cond := [Cond.constantLong RX12 451 (3), Cond.methodLink RX12 472 yX12_realOfQuartic, Cond.static yX12_realOfQuartic, Cond.code yX12_realOfQuartic cX12_realOfQuartic 22 (some .int), Cond.constantLong RX12 453 (12), Cond.constantLong RX12 455 (9), Cond.constantLong RX12 457 (72), Cond.constantLong RX12 459 (8), Cond.constantLong RX12 461 (64), Cond.constantLong RX12 463 (16), Cond.methodLink RL 270 yX11_image, Cond.instanceMethod yX11_image, Cond.selects RX11 yX11_image yX11_image, Cond.code yX11_image cX11_image 1 none, Cond.fieldLink RX11 375 "LetterForms" "isKept" "Z", Cond.methodLink RX11 373 yX8_copyFrom, Cond.instanceMethod yX8_copyFrom, Cond.selects RX8 yX8_copyFrom yX8_copyFrom, Cond.code yX8_copyFrom cX8_copyFrom 5 none, Cond.fieldLink RX8 95 "LetterForms$Table" "a" "I", Cond.fieldLink RX8 98 "LetterForms$Table" "b" "I", Cond.fieldLink RX8 101 "LetterForms$Table" "c" "I", Cond.fieldLink RX8 104 "LetterForms$Table" "d" "I", Cond.methodLink RX8 91 yX8_copyActs]
def wsL_law0_r68 : List Cond := [Cond.instanceMethod yX8_copyActs, Cond.selects RX8 yX8_copyActs yX8_copyActs, Cond.code yX8_copyActs cX8_copyActs 5 none, Cond.methodLink RX8 107 yX9_set, Cond.methodLink RX8 111 yX7_copyFrom, Cond.methodLink RL 273 yX12_image, Cond.instanceMethod yX12_image, Cond.selects RX12 yX12_image yX12_image, Cond.code yX12_image cX12_image 2 none, Cond.fieldLink RX12 64 "LetterFormsModel" "hasImage" "Z", Cond.methodLink RL 274 yX11_back, Cond.instanceMethod yX11_back, Cond.selects RX11 yX11_back yX11_back, Cond.code yX11_back cX11_back 1 (some .boolean), Cond.methodLink RL 278 yX12_back, Cond.instanceMethod yX12_back, Cond.selects RX12 yX12_back yX12_back, Cond.code yX12_back cX12_back 2 (some .boolean), Cond.methodLink RL 279 yX11_stock, Cond.instanceMethod yX11_stock, Cond.selects RX11 yX11_stock yX11_stock, Cond.code yX11_stock cX11_stock 2 (some .int), Cond.fieldLink RX11 379 "LetterForms$State" "done" "I", Cond.fieldLink RX11 382 "LetterForms$State" "undone" "I"]
def wsL_law0_r69 : List Cond := [Cond.methodLink RX11 385 yX8_noughts, Cond.instanceMethod yX8_noughts, Cond.selects RX8 yX8_noughts yX8_noughts, Cond.code yX8_noughts cX8_noughts 4 (some .int), Cond.methodLink RX8 71 yX2_isNought, Cond.methodLink RL 282 yX12_stock, Cond.instanceMethod yX12_stock, Cond.selects RX12 yX12_stock yX12_stock, Cond.code yX12_stock cX12_stock 4 (some .int)]
def wsL_law0 : List Cond := (wsL_law0_r1 ++ (wsL_law0_r2 ++ (wsL_law0_r3 ++ (wsL_law0_r4 ++ (wsL_law0_r5 ++ (wsL_law0_r6 ++ (wsL_law0_r7 ++ (wsL_law0_r8 ++ (wsL_law0_r9 ++ (wsL_law0_r10 ++ (wsL_law0_r11 ++ (wsL_law0_r12 ++ (wsL_law0_r13 ++ (wsL_law0_r14 ++ (wsL_law0_r15 ++ (wsL_law0_r16 ++ (wsL_law0_r17 ++ (wsL_law0_r18 ++ (wsL_law0_r19 ++ (wsL_law0_r20 ++ (wsL_law0_r21 ++ (wsL_law0_r22 ++ (wsL_law0_r23 ++ (wsL_law0_r24 ++ (wsL_law0_r25 ++ (wsL_law0_r26 ++ (wsL_law0_r27 ++ (wsL_law0_r28 ++ (wsL_law0_r29 ++ (wsL_law0_r30 ++ (wsL_law0_r31 ++ (wsL_law0_r32 ++ (wsL_law0_r33 ++ (wsL_law0_r34 ++ (wsL_law0_r35 ++ (wsL_law0_r36 ++ (wsL_law0_r37 ++ (wsL_law0_r38 ++ (wsL_law0_r39 ++ (wsL_law0_r40 ++ (wsL_law0_r41 ++ (wsL_law0_r42 ++ (wsL_law0_r43 ++ (wsL_law0_r44 ++ (wsL_law0_r45 ++ (wsL_law0_r46 ++ (wsL_law0_r47 ++ (wsL_law0_r48 ++ (wsL_law0_r49 ++ (wsL_law0_r50 ++ (wsL_law0_r51 ++ (wsL_law0_r52 ++ (wsL_law0_r53 ++ (wsL_law0_r54 ++ (wsL_law0_r55 ++ (wsL_law0_r56 ++ (wsL_law0_r57 ++ (wsL_law0_r58 ++ (wsL_law0_r59 ++ (wsL_law0_r60 ++ (wsL_law0_r61 ++ (wsL_law0_r62 ++ (wsL_law0_r63 ++ (wsL_law0_r64 ++ (wsL_law0_r65 ++ (wsL_law0_r66 ++ (wsL_law0_r67 ++ (wsL_law0_r68 ++ wsL_law0_r69)))))))))))))))))))))))))))))))))))))))))))))))))))))))))))))))))))) ++ wsX110 ++ wsX120 ++ wsX40 ++ wsX80 ++ wsX00 ++ wsX10 ++ wsX50 ++ wsX60 ++ wsX30 ++ wsX100 ++ wsX20 ++ wsX70 ++ wsX90 ++ ([] : List Cond)
def wsL_law : List Cond := wsL_law0 ++ (vx_at0 RX11 100 "java/lang/IllegalArgumentException" ["java/lang/RuntimeException", "java/lang/Exception"]).filter goodWord ++ (vx_at0 RX11 109 "java/lang/IllegalStateException" ["java/lang/RuntimeException", "java/lang/Exception"]).filter goodWord ++ (vx_at0 RX11 123 "java/lang/UnsupportedOperationException" ["java/lang/RuntimeException", "java/lang/Exception"]).filter goodWord ++ (vx_at0 RX11 180 "java/lang/IndexOutOfBoundsException" ["java/lang/RuntimeException", "java/lang/Exception"]).filter goodWord ++ (vx_at0 RX11 343 "java/util/NoSuchElementException" ["java/lang/RuntimeException", "java/lang/Exception"]).filter goodWord
set_option maxRecDepth 20000 in
theorem wsL_law_in0 : ∀ w ∈ wsL_law0, w ∈ lw_tbl := fun w h => (goodIn_p wsL_law0 [156, 159, 164, 170, 210, 214, 220, 241, 314, 332, 360, 398, 428, 460, 1488, 535, 539, 1617, 543, 1621, 664, 1685, 1681, 752, 756, 760, 559, 562, 779, 782, 786, 790, 578, 795, 1689, 1633, 1692, 1695, 1699, 1703, 1706, 802, 806, 811, 611, 815, 615, 1710, 1714, 1718, 1722, 1726, 1730, 823, 827, 831, 843, 852, 635, 871, 867, 859, 863, 839, 848, 855, 835, 875, 619, 623, 627, 631, 1629, 1637, 1677, 1653, 1657, 1665, 1669, 1661, 1649, 1673, 1641, 1645, 547, 1625, 884, 888, 906, 574, 1778, 1782, 1786, 1790, 914, 918, 1794, 1798, 1802, 1806, 1810, 1766, 1750, 926, 930, 1774, 1738, 1742, 1746, 938, 942, 948, 952, 956, 960, 606, 1814, 1818, 1822, 1826, 1830, 1834, 551, 555, 566, 570, 1838, 1842, 1758, 1762, 582, 586, 590, 1846, 968, 972, 977, 982, 992, 996, 1000, 1004, 1008, 1012, 1016, 1020, 1850, 1854, 1858, 1862, 1866, 1870, 1874, 1878, 1882, 1886, 1890, 1894, 1897, 1027, 1031, 1035, 1039, 1901, 1905, 1046, 1050, 1909, 1058, 1062, 1913, 1069, 1073, 1076, 1080, 1917, 1921, 1087, 1091, 1095, 1106, 1111, 1114, 1118, 1122, 1925, 1929, 1933, 1938, 1942, 1946, 1132, 1951, 1139, 1143, 651, 655, 1149, 1153, 1156, 1159, 1164, 1168, 1172, 1176, 1180, 2011, 1983, 1963, 1987, 1991, 1190, 2007, 2003, 1999, 1198, 1734, 1205, 1754, 1213, 1770, 1220, 1224, 2064, 2068, 2051, 2056, 2060, 1235, 1241, 1247, 1252, 2072, 2047, 1259, 1263, 1268, 1955, 1959, 1967, 1275, 1971, 1282, 1975, 1289, 1979, 1296, 1995, 1303, 1307, 1311, 1318, 1322, 1326, 1330, 1335, 1340, 1344, 1349, 2015, 2019, 2023, 2027, 2031, 2035, 2039, 1356, 2043, 1363, 2076, 1372, 1375, 1394, 1399, 1403, 1407, 1411, 1415, 1419, 2080, 2083, 2088, 2092, 2096, 2102, 2106, 1427, 1430, 1433, 1437, 1440, 1443, 2110, 2113, 2118, 2121, 1450, 2126, 1457, 1460, 1467, 1470, 1482, 2130, 2133, 2136, 2142, 594, 598, 602, 1609, 639, 1613, 643, 647, 2152] (by decide +kernel) (by decide +kernel) w h).1
theorem wsL_law_x0 : ∀ w ∈ (vx_at0 RX11 100 "java/lang/IllegalArgumentException" ["java/lang/RuntimeException", "java/lang/Exception"]).filter goodWord, w ∈ lw_tbl := by decide +kernel
theorem wsL_law_x1 : ∀ w ∈ (vx_at0 RX11 109 "java/lang/IllegalStateException" ["java/lang/RuntimeException", "java/lang/Exception"]).filter goodWord, w ∈ lw_tbl := by decide +kernel
theorem wsL_law_x2 : ∀ w ∈ (vx_at0 RX11 123 "java/lang/UnsupportedOperationException" ["java/lang/RuntimeException", "java/lang/Exception"]).filter goodWord, w ∈ lw_tbl := by decide +kernel
theorem wsL_law_x3 : ∀ w ∈ (vx_at0 RX11 180 "java/lang/IndexOutOfBoundsException" ["java/lang/RuntimeException", "java/lang/Exception"]).filter goodWord, w ∈ lw_tbl := by decide +kernel
theorem wsL_law_x4 : ∀ w ∈ (vx_at0 RX11 343 "java/util/NoSuchElementException" ["java/lang/RuntimeException", "java/lang/Exception"]).filter goodWord, w ∈ lw_tbl := by decide +kernel
theorem wsL_law_in : ∀ w ∈ wsL_law, w ∈ lw_tbl := fun w h => (List.mem_append.mp h).elim (fun h => (List.mem_append.mp h).elim (fun h => (List.mem_append.mp h).elim (fun h => (List.mem_append.mp h).elim (fun h => (List.mem_append.mp h).elim (fun h => wsL_law_in0 w h) (fun h => wsL_law_x0 w h)) (fun h => wsL_law_x1 w h)) (fun h => wsL_law_x2 w h)) (fun h => wsL_law_x3 w h)) (fun h => wsL_law_x4 w h)
theorem inlX0 : ∀ w ∈ wsX00, w ∈ wsL_law := fun _ h => List.mem_append_left _ (List.mem_append_left _ (List.mem_append_left _ (List.mem_append_left _ (List.mem_append_left _ (List.mem_append_left _ (List.mem_append_left _ (List.mem_append_left _ (List.mem_append_left _ (List.mem_append_left _ (List.mem_append_left _ (List.mem_append_left _ (List.mem_append_left _ (List.mem_append_left _ (List.mem_append_right _ h))))))))))))))
theorem inX0 : ∀ w ∈ wsX00, w ∈ lw_tbl := fun w h => wsL_law_in w (inlX0 w h)
theorem inlX1 : ∀ w ∈ wsX10, w ∈ wsL_law := fun _ h => List.mem_append_left _ (List.mem_append_left _ (List.mem_append_left _ (List.mem_append_left _ (List.mem_append_left _ (List.mem_append_left _ (List.mem_append_left _ (List.mem_append_left _ (List.mem_append_left _ (List.mem_append_left _ (List.mem_append_left _ (List.mem_append_left _ (List.mem_append_left _ (List.mem_append_right _ h)))))))))))))
theorem inX1 : ∀ w ∈ wsX10, w ∈ lw_tbl := fun w h => wsL_law_in w (inlX1 w h)
theorem inlX2 : ∀ w ∈ wsX20, w ∈ wsL_law := fun _ h => List.mem_append_left _ (List.mem_append_left _ (List.mem_append_left _ (List.mem_append_left _ (List.mem_append_left _ (List.mem_append_left _ (List.mem_append_left _ (List.mem_append_left _ (List.mem_append_right _ h))))))))
theorem inX2 : ∀ w ∈ wsX20, w ∈ lw_tbl := fun w h => wsL_law_in w (inlX2 w h)
theorem inlX3 : ∀ w ∈ wsX30, w ∈ wsL_law := fun _ h => List.mem_append_left _ (List.mem_append_left _ (List.mem_append_left _ (List.mem_append_left _ (List.mem_append_left _ (List.mem_append_left _ (List.mem_append_left _ (List.mem_append_left _ (List.mem_append_left _ (List.mem_append_left _ (List.mem_append_right _ h))))))))))
theorem inX3 : ∀ w ∈ wsX30, w ∈ lw_tbl := fun w h => wsL_law_in w (inlX3 w h)
theorem inlX4 : ∀ w ∈ wsX40, w ∈ wsL_law := fun _ h => List.mem_append_left _ (List.mem_append_left _ (List.mem_append_left _ (List.mem_append_left _ (List.mem_append_left _ (List.mem_append_left _ (List.mem_append_left _ (List.mem_append_left _ (List.mem_append_left _ (List.mem_append_left _ (List.mem_append_left _ (List.mem_append_left _ (List.mem_append_left _ (List.mem_append_left _ (List.mem_append_left _ (List.mem_append_left _ (List.mem_append_right _ h))))))))))))))))
theorem inX4 : ∀ w ∈ wsX40, w ∈ lw_tbl := fun w h => wsL_law_in w (inlX4 w h)
theorem inlX5 : ∀ w ∈ wsX50, w ∈ wsL_law := fun _ h => List.mem_append_left _ (List.mem_append_left _ (List.mem_append_left _ (List.mem_append_left _ (List.mem_append_left _ (List.mem_append_left _ (List.mem_append_left _ (List.mem_append_left _ (List.mem_append_left _ (List.mem_append_left _ (List.mem_append_left _ (List.mem_append_left _ (List.mem_append_right _ h))))))))))))
theorem inX5 : ∀ w ∈ wsX50, w ∈ lw_tbl := fun w h => wsL_law_in w (inlX5 w h)
theorem inlX6 : ∀ w ∈ wsX60, w ∈ wsL_law := fun _ h => List.mem_append_left _ (List.mem_append_left _ (List.mem_append_left _ (List.mem_append_left _ (List.mem_append_left _ (List.mem_append_left _ (List.mem_append_left _ (List.mem_append_left _ (List.mem_append_left _ (List.mem_append_left _ (List.mem_append_left _ (List.mem_append_right _ h)))))))))))
theorem inX6 : ∀ w ∈ wsX60, w ∈ lw_tbl := fun w h => wsL_law_in w (inlX6 w h)
theorem inlX7 : ∀ w ∈ wsX70, w ∈ wsL_law := fun _ h => List.mem_append_left _ (List.mem_append_left _ (List.mem_append_left _ (List.mem_append_left _ (List.mem_append_left _ (List.mem_append_left _ (List.mem_append_left _ (List.mem_append_right _ h)))))))
theorem inX7 : ∀ w ∈ wsX70, w ∈ lw_tbl := fun w h => wsL_law_in w (inlX7 w h)
theorem inlX8 : ∀ w ∈ wsX80, w ∈ wsL_law := fun _ h => List.mem_append_left _ (List.mem_append_left _ (List.mem_append_left _ (List.mem_append_left _ (List.mem_append_left _ (List.mem_append_left _ (List.mem_append_left _ (List.mem_append_left _ (List.mem_append_left _ (List.mem_append_left _ (List.mem_append_left _ (List.mem_append_left _ (List.mem_append_left _ (List.mem_append_left _ (List.mem_append_left _ (List.mem_append_right _ h)))))))))))))))
theorem inX8 : ∀ w ∈ wsX80, w ∈ lw_tbl := fun w h => wsL_law_in w (inlX8 w h)
theorem inlX9 : ∀ w ∈ wsX90, w ∈ wsL_law := fun _ h => List.mem_append_left _ (List.mem_append_left _ (List.mem_append_left _ (List.mem_append_left _ (List.mem_append_left _ (List.mem_append_left _ (List.mem_append_right _ h))))))
theorem inX9 : ∀ w ∈ wsX90, w ∈ lw_tbl := fun w h => wsL_law_in w (inlX9 w h)
theorem inlX10 : ∀ w ∈ wsX100, w ∈ wsL_law := fun _ h => List.mem_append_left _ (List.mem_append_left _ (List.mem_append_left _ (List.mem_append_left _ (List.mem_append_left _ (List.mem_append_left _ (List.mem_append_left _ (List.mem_append_left _ (List.mem_append_left _ (List.mem_append_right _ h)))))))))
theorem inX10 : ∀ w ∈ wsX100, w ∈ lw_tbl := fun w h => wsL_law_in w (inlX10 w h)
theorem inlX11 : ∀ w ∈ wsX110, w ∈ wsL_law := fun _ h => List.mem_append_left _ (List.mem_append_left _ (List.mem_append_left _ (List.mem_append_left _ (List.mem_append_left _ (List.mem_append_left _ (List.mem_append_left _ (List.mem_append_left _ (List.mem_append_left _ (List.mem_append_left _ (List.mem_append_left _ (List.mem_append_left _ (List.mem_append_left _ (List.mem_append_left _ (List.mem_append_left _ (List.mem_append_left _ (List.mem_append_left _ (List.mem_append_left _ (List.mem_append_right _ h))))))))))))))))))
theorem inX11 : ∀ w ∈ wsX110, w ∈ lw_tbl := fun w h => wsL_law_in w (inlX11 w h)
theorem inlX12 : ∀ w ∈ wsX120, w ∈ wsL_law := fun _ h => List.mem_append_left _ (List.mem_append_left _ (List.mem_append_left _ (List.mem_append_left _ (List.mem_append_left _ (List.mem_append_left _ (List.mem_append_left _ (List.mem_append_left _ (List.mem_append_left _ (List.mem_append_left _ (List.mem_append_left _ (List.mem_append_left _ (List.mem_append_left _ (List.mem_append_left _ (List.mem_append_left _ (List.mem_append_left _ (List.mem_append_left _ (List.mem_append_right _ h)))))))))))))))))
theorem inX12 : ∀ w ∈ wsX120, w ∈ lw_tbl := fun w h => wsL_law_in w (inlX12 w h)
theorem inJx145de : ∀ w ∈ wsJx145de0, w ∈ lw_tbl := by decide +kernel
theorem inJ6 : ∀ w ∈ wsJ60, w ∈ lw_tbl := by decide +kernel
theorem inJ9 : ∀ w ∈ wsJ90, w ∈ lw_tbl := by decide +kernel
theorem inJ7 : ∀ w ∈ wsJ70, w ∈ lw_tbl := by decide +kernel
abbrev vwCl : List vw_C := [(RX0, TX0, 3), (RX1, TX1, 6), (RX2, TX2, 2), (RX3, TX3, 8), (RX4, TX4, 6), (RX5, TX5, 9), (RX6, TX6, 7), (RX7, TX7, 3), (RX8, TX8, 11), (RX9, TX9, 4), (RX10, TX10, 8), (RX11, TX11, 14), (RX12, TX12, 38)]

