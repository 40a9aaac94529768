/-! THE CLAIM OUT OF ONE WALK OF THE LAW'S BODY. Your part is whole_start (and what it stands on); all else here is the same for every law, but numbers. -/
def R_law : String := "LetterFormsLaw"
def lw_P (b : Addr) (xs : List Int32) (args : Array Value) (s : State) : Prop := args = #[.ref b] ∧ s.IntsAt b xs ∧ xs.length ≤ 3072 ∧ (Jvm.Cond.and given_1 narrow_1).before args s = true
def lw_Q (_ : Array Value) (s : State) (o : Outcome) (t : State) : Prop := o = .returned (some (.int 1)) ∧ Framed s o t [] 601024 7293033
def lw_Z (below : List Frame) (a : Array Value) (s : State) : State → Prop := fun t => ∃ o, t.status = .running ∧ Ended t below o ∧ lw_Q a s o t
/-- the law's own end, with 1 on the stack, nothing written that was there before, its room as the claim has it -/
theorem lw_ret {p : Program} {l : Launch} {e : Env} {s : State} {m : MethodId} {below : List Frame} {meth : Method} {c : Code} {b : Nat} (hx : p.tables.exec = Jvm.exec) (hb : c.code = code) (hr : meth.sig.returnType = ret) (hlocks : meth.locks = false) {pc : Nat} {H : Heap} {ls : Array Slot} (hdg : decode code pc = .ok (.ireturn, 1)) : W p l e room_1 s m #[Value.ref b] below meth c H [] 601024 7293033 (lw_Z below #[Value.ref b] s) (F0 m pc ls [.int 1]) := by
  intro T hT X
  obtain ⟨fs, hret, hrun, hended, hW, hframe⟩ := X.leave (v := some (.int 1)) (hlocks := hlocks) (fun h => by rw [hr] at h; cases h)
  have hmeth' : T.vm.method? m = some meth := X.method'
  refine ⟨T.setFrames fs, ?_, .returned (some (.int 1)), hrun, hended, rfl, ⟨_, rfl⟩, hW, hframe⟩
  jvm_step X.here [X.here.top, hx, hb, hdg, hmeth', hr, ret, narrow_b1]
  (try refine ⟨rfl, ?_⟩); (try refine ⟨rfl, ?_⟩)
  first | (intro acts; rw [hret _ acts rfl rfl rfl]) | rw [hret _ _ rfl rfl rfl]
  exact Steps.refl _
/-- what holds at the law's entry: the machine, the code, the tables' words (any of lw_tbl by 'hts w (by decide +kernel)'), the script of L ints xs at the cell b, what the Statement gives of the start (any of its parts by flat_of_before) -/
def lw_At (p : Program) (s : State) (m : MethodId) (meth : Method) (c : Code) (b L : Nat) (xs : Nat → Int32) : Prop :=
  p.tables.exec = Jvm.exec ∧ c.code = code ∧ meth.sig.returnType = ret ∧ c.maxLocals = 8 ∧ s.vm.findClass R_law = some m.cls ∧ (∀ w ∈ lw_tbl, w.before #[Value.ref b] s = true) ∧ va_X b L xs s s.heap ∧ b < s.heap.size ∧ meth.locks = false ∧ (Jvm.Cond.and given_1 narrow_1).before #[Value.ref b] s = true

/-! the law's own body over the pure machine gives whole_start -/
def q_law : mm_T := (x, code, 8, some .boolean, 13, [], clL_law)
def SB (V : V_T) : Prop := ∀ pc lv lw st M ck sk, (∀ z ∈ lw, z ∈ lv) → V pc lw st M ck sk → V pc lv st M ck sk
def LSc (V : V_T) (b L : Nat) (xs : Nat → Int32) : Prop := (∀ pc lv r M ck sk (j : Int32), cdf clL_law pc = some (.iaload, 1) → vp_in j L → V (pc + 1) lv (.int (xs j.toNatClampNeg) :: r) M ck sk → V pc lv (.int j :: .ref b :: r) M ck sk) ∧ (∀ pc lv r M ck sk, cdf clL_law pc = some (.arraylength, 1) → V (pc + 1) lv (.int (Int32.ofNat L) :: r) M ck sk → V pc lv (.ref b :: r) M ck sk)
def M0 : Mm := (fun _ => 0, fun _ => 0, fun _ _ => 0, fun _ _ => 0, fun _ _ => none)
def law_Po : Po := fun o _ => o = .inl (some (.int 1))
def Law_ok (d : Nat) : Prop := ∀ (b L : Nat) (xs : Nat → Int32), L ≤ 3072 → ∀ V : V_T, Cl d q_law 601024 7293033 law_Po V → SB V → LSc V b L xs → V 0 [(0, .ref b)] [] M0 0 0
theorem arrOver_A {args : Array Value} {first s : State} {o : Option Outcome} {idx : List Nat} {t : FieldType} (h : (Cond.arrayOver (.array t)).holds args first o s idx = true) :
    ∃ comp c k, s.vm.findClass (FieldType.array t).toString = some comp ∧ s.vm.classes[c]? = some k ∧ k.kind = .array comp (.array t) ∧ s.vm.findClass ("[" ++ (FieldType.array t).toString) = some c := by
  simp only [Cond.holds, Cond.value, beq_iff_eq] at h
  cases hc : s.vm.findClass (FieldType.array t).toString with
  | none => simp [hc] at h
  | some comp =>
    simp only [hc, Option.bind_some, Option.bind_eq_some_iff, Option.map_eq_some_iff] at h
    obtain ⟨c, hi, k, hk, hb⟩ := h
    obtain ⟨hlt, hp, -⟩ := Array.findIdx?_eq_some_iff_getElem.mp hi
    have hkk : s.vm.classes[c] = k := (Array.getElem?_eq_some_iff.mp hk).2
    rw [hkk] at hp
    cases hkind : k.kind with
    | array component ty =>
      rw [hkind] at hb hp
      simp at hb hp
      exact ⟨comp, c, k, rfl, hk, by rw [hkind, hp, hb.1], hb.2⟩
    | _ => rw [hkind] at hb; simp at hb
theorem nw_all : ∀ k, k < 13 → ∃ o i, P_nw o i = some k := by
  intro k hk
  match k, hk with
  | 0, _ => exact ⟨11, 30, rfl⟩
  | 1, _ => exact ⟨11, 39, rfl⟩
  | 2, _ => exact ⟨11, 78, rfl⟩
  | 3, _ => exact ⟨11, 64, rfl⟩
  | 4, _ => exact ⟨11, 9, rfl⟩
  | 5, _ => exact ⟨11, 48, rfl⟩
  | 6, _ => exact ⟨11, 57, rfl⟩
  | 7, _ => exact ⟨4, 9, rfl⟩
  | 8, _ => exact ⟨11, 16, rfl⟩
  | 9, _ => exact ⟨8, 32, rfl⟩
  | 10, _ => exact ⟨11, 71, rfl⟩
  | 11, _ => exact ⟨13, 8, rfl⟩
  | 12, _ => exact ⟨13, 135, rfl⟩
theorem exL_own : ∀ e ∈ exL, e.1 = 11 := by decide
set_option maxRecDepth 20000 in
set_option maxHeartbeats 4000000 in
theorem law_bridge {d : Nat} (hd : d ≤ 1000) (h : Law_ok d) {p : Program} {e : Env} {s : State} {m : MethodId} {below : List Frame} {meth : Method} {c : Code} (l : Launch) (hflags : l.flags = flags0) {b L : Nat} {xs : Nat → Int32} (hL : L ≤ 3072) (C0 : lw_At p s m meth c b L xs) : W p l e room_1 s m #[Value.ref b] below meth c s.heap [] 0 0 (lw_Z below #[Value.ref b] s) (entryFrame m ([Value.ref b] : List Value).toArray 8) := by
  obtain ⟨hx, hb, hr, hml, hown, hts, hX, hbl, hlocks, hgv⟩ := id C0
  have hst : l.stackTraces = false := by unfold Launch.stackTraces; rw [hflags]; decide
  have htsL : ∀ w ∈ wsL_law, w.before #[Value.ref b] s = true := fun w hw => hts w (wsL_law_in w hw)
  have hbA : ¬ (fun a : Nat => s.heap.size ≤ a) b := Nat.not_le.mpr hbl
  have h1 : ∀ k : Nat, ∃ z : ClassId × (Nat → Nat), ∀ q, vwCl[k]? = some q → u_Kn s q.1 q.2.1 q.2.2 z.1 z.2 := by
    intro k
    by_cases hk : k < 13
    · obtain ⟨o, i, hoi⟩ := nw_all k hk
      obtain ⟨C, T, N, e1, e2, e3, e4⟩ := P_nw_ok hoi
      obtain ⟨cC, iS, hK⟩ := u_known (C := C) (T := T) (N := N) (n := N) htsL (vwCl_ok k _ e1).1 (htsL _ e3)
      exact ⟨(cC, iS), fun q hq => by cases e1.symm.trans hq; exact hK⟩
    · exact ⟨(m.cls, fun _ => 0), fun q hq => absurd (List.getElem?_eq_some_iff.mp hq).1 (by simpa [vwCl] using hk)⟩
  obtain ⟨z, hz⟩ := Classical.skolem.mp h1
  obtain ⟨c0, k0, p0, a01, a02, a03⟩ := Cond.arrayClass_spec (htsL _ wArr_int)
  obtain ⟨c1, k1, p1, a11, a12, a13⟩ := Cond.arrayClass_spec (htsL _ wArr_long)
  obtain ⟨c2, k2, p2, a21, a22, a23⟩ := Cond.arrayClass_spec (htsL _ wArr_byte)
  have o3 : (Cond.arrayOver (.object RX2)).before #[Value.ref b] s = true := hts _ (tin1 _ (List.mem_of_getElem? (i := 89) rfl))
  have o4 : (Cond.arrayOver (.object RX9)).before #[Value.ref b] s = true := hts _ (tin1 _ (List.mem_of_getElem? (i := 108) rfl))
  have o5 : (Cond.arrayOver (.object RX7)).before #[Value.ref b] s = true := hts _ (tin1 _ (List.mem_of_getElem? (i := 110) rfl))
  have o6 : (Cond.arrayOver (.array .int)).before #[Value.ref b] s = true := hts _ (tin1 _ (List.mem_of_getElem? (i := 237) rfl))
  obtain ⟨p3, c3, k3, a31, -, a32, a33, a34⟩ := Cond.arrayOver_spec o3
  obtain ⟨p4, c4, k4, a41, -, a42, a43, a44⟩ := Cond.arrayOver_spec o4
  obtain ⟨p5, c5, k5, a51, -, a52, a53, a54⟩ := Cond.arrayOver_spec o5
  obtain ⟨p6, c6, k6, a61, a62, a63, a64⟩ := arrOver_A o6
  obtain ⟨cA, hcA⟩ : ∃ cA : Nat → ClassId, cA 0 = c0 ∧ cA 1 = c1 ∧ cA 2 = c2 ∧ cA 3 = c3 ∧ cA 4 = c4 ∧ cA 5 = c5 ∧ cA 6 = c6 := ⟨fun k => match k with | 0 => c0 | 1 => c1 | 2 => c2 | 3 => c3 | 4 => c4 | 5 => c5 | _ => c6, rfl, rfl, rfl, rfl, rfl, rfl, rfl⟩
  obtain ⟨g0, g1, g2, g3, g4, g5, g6⟩ := hcA
  have hK : va_K (fun k => (z k).1, fun k => (z k).2) vwCl (tysA cA) s := by
    refine ⟨fun k q hq => hz k q hq, fun k q hq => ?_⟩
    match k, hq with
    | 0, hq => cases hq; rw [g0]; exact ⟨fun N w => ⟨(fun k h => by cases h), k0, a02, p0, a03⟩, a01⟩
    | 1, hq => cases hq; rw [g1]; exact ⟨fun N w => ⟨(fun k h => by cases h), k1, a12, p1, a13⟩, a11⟩
    | 2, hq => cases hq; rw [g2]; exact ⟨fun N w => ⟨(fun k h => by cases h), k2, a22, p2, a23⟩, a21⟩
    | 3, hq => cases hq; rw [g3]; exact ⟨fun N w => ⟨(fun k h => by cases h), k3, a32, p3, a33⟩, k3, p3, a32, a33, a31, a34⟩
    | 4, hq => cases hq; rw [g4]; exact ⟨fun N w => ⟨(fun k h => by cases h), k4, a42, p4, a43⟩, k4, p4, a42, a43, a41, a44⟩
    | 5, hq => cases hq; rw [g5]; exact ⟨fun N w => ⟨(fun k h => by cases h), k5, a52, p5, a53⟩, k5, p5, a52, a53, a51, a54⟩
    | 6, hq => cases hq; rw [g6]; exact ⟨fun N w => ⟨(fun k h => by cases h), k6, a62, p6, a63⟩, a64⟩
    | k + 7, hq => simp [tysA] at hq
  have hini : (Cond.initialized "java/lang/Throwable").before #[Value.ref b] s = true := hts _ (tin1 _ (List.mem_of_getElem? (i := 14) rfl))
  have hfl := flat_of_before _ hgv
  have hz1 : vx_Zq Bundle.tN "UNASSIGNED_STACK" Bundle.steD (fun q => s.heap.size ≤ q) s s.heap := vx_Zqof (hts _ (tin3 _ (List.mem_of_getElem? (i := 85) rfl))) hini (hfl _ (by decide +kernel)) (fun a ha => Nat.not_le.mpr ha)
  have hz2 : vx_Zq Bundle.tN "SUPPRESSED_SENTINEL" Bundle.listD (fun q => s.heap.size ≤ q) s s.heap := vx_Zqof (hts _ (tin3 _ (List.mem_of_getElem? (i := 87) rfl))) hini (hfl _ (by decide +kernel)) (fun a ha => Nat.not_le.mpr ha)
  have d1 : va_Nw (Cond.declares (Bundle.init0 "java/lang/RuntimeException")) s := va_tabs rfl rfl (hts _ (tin3 _ (List.mem_of_getElem? (i := 61) rfl)))
  have d2 : va_Nw (Cond.declares (Bundle.init0 "java/lang/Exception")) s := va_tabs rfl rfl (hts _ (tin3 _ (List.mem_of_getElem? (i := 63) rfl)))
  have d3 : va_Nw (Cond.declares (Bundle.init0 Bundle.tN)) s := va_tabs rfl rfl (hts _ (tin3 _ (List.mem_of_getElem? (i := 65) rfl)))
  have hc0 : va_Nw (Cond.castable (P_ex 0) (P_ex 0)) s := va_tabs rfl rfl (hts _ (tin3 _ (List.mem_of_getElem? (i := 60) rfl)))
  have hc1 : va_Nw (Cond.castable (P_ex 1) (P_ex 1)) s := va_tabs rfl rfl (hts _ (tin3 _ (List.mem_of_getElem? (i := 125) rfl)))
  have hc2 : va_Nw (Cond.castable (P_ex 2) (P_ex 2)) s := va_tabs rfl rfl (hts _ (tin3 _ (List.mem_of_getElem? (i := 156) rfl)))
  have hc3 : va_Nw (Cond.castable (P_ex 3) (P_ex 3)) s := va_tabs rfl rfl (hts _ (tin4 _ (List.mem_of_getElem? (i := 44) rfl)))
  have hc4 : va_Nw (Cond.castable (P_ex 4) (P_ex 4)) s := va_tabs rfl rfl (hts _ (tin6 _ (List.mem_of_getElem? (i := 51) rfl)))
  have hng : ∀ e, e < 5 → ∀ w ∈ P_ng e, va_Nw w s := by
    intro e he w hw
    simp only [P_ng, List.mem_cons, List.not_mem_nil, or_false] at hw
    rcases hw with rfl | rfl | rfl | rfl
    · exact d1
    · exact d2
    · exact d3
    · match e, he with
      | 0, _ => exact hc0
      | 1, _ => exact hc1
      | 2, _ => exact hc2
      | 3, _ => exact hc3
      | 4, _ => exact hc4
  have hnc : ∀ e e', e < 5 → e' < 5 → e ≠ e' → va_Nc (P_ex e) (P_ex e') s := by
    intro e e' h1 h2 h3
    match e, e', h1, h2, h3 with
    | 0, 0, _, _, h3 => exact absurd rfl h3
    | 0, 1, _, _, h3 => exact va_Nc.of (hfl _ (by decide +kernel))
    | 0, 2, _, _, h3 => exact va_Nc.of (hfl _ (by decide +kernel))
    | 0, 3, _, _, h3 => exact va_Nc.of (hfl _ (by decide +kernel))
    | 0, 4, _, _, h3 => exact va_Nc.of (hfl _ (by decide +kernel))
    | 1, 0, _, _, h3 => exact va_Nc.of (hfl _ (by decide +kernel))
    | 1, 1, _, _, h3 => exact absurd rfl h3
    | 1, 2, _, _, h3 => exact va_Nc.of (hfl _ (by decide +kernel))
    | 1, 3, _, _, h3 => exact va_Nc.of (hfl _ (by decide +kernel))
    | 1, 4, _, _, h3 => exact va_Nc.of (hfl _ (by decide +kernel))
    | 2, 0, _, _, h3 => exact va_Nc.of (hfl _ (by decide +kernel))
    | 2, 1, _, _, h3 => exact va_Nc.of (hfl _ (by decide +kernel))
    | 2, 2, _, _, h3 => exact absurd rfl h3
    | 2, 3, _, _, h3 => exact va_Nc.of (hfl _ (by decide +kernel))
    | 2, 4, _, _, h3 => exact va_Nc.of (hfl _ (by decide +kernel))
    | 3, 0, _, _, h3 => exact va_Nc.of (hfl _ (by decide +kernel))
    | 3, 1, _, _, h3 => exact va_Nc.of (hfl _ (by decide +kernel))
    | 3, 2, _, _, h3 => exact va_Nc.of (hfl _ (by decide +kernel))
    | 3, 3, _, _, h3 => exact absurd rfl h3
    | 3, 4, _, _, h3 => exact va_Nc.of (hfl _ (by decide +kernel))
    | 4, 0, _, _, h3 => exact va_Nc.of (hfl _ (by decide +kernel))
    | 4, 1, _, _, h3 => exact va_Nc.of (hfl _ (by decide +kernel))
    | 4, 2, _, _, h3 => exact va_Nc.of (hfl _ (by decide +kernel))
    | 4, 3, _, _, h3 => exact va_Nc.of (hfl _ (by decide +kernel))
    | 4, 4, _, _, h3 => exact absurd rfl h3
  have hnst : ∀ e ∈ niL, va_Nw (.methodLinkNest (P_ow e.1) e.2.1 (nn_y e.2.2) RX11) s := by
    intro e he
    simp only [niL, List.mem_cons, List.not_mem_nil, or_false] at he
    rcases he with rfl | rfl | rfl | rfl | rfl | rfl | rfl | rfl
    · exact va_tabs rfl rfl (hts _ (tin1 _ (List.mem_of_getElem? (i := 35) rfl)))
    · exact va_tabs rfl rfl (hts _ (tin1 _ (List.mem_of_getElem? (i := 41) rfl)))
    · exact va_tabs rfl rfl (hts _ (tin1 _ (List.mem_of_getElem? (i := 112) rfl)))
    · exact va_tabs rfl rfl (hts _ (tin1 _ (List.mem_of_getElem? (i := 141) rfl)))
    · exact va_tabs rfl rfl (hts _ (tin1 _ (List.mem_of_getElem? (i := 190) rfl)))
    · exact va_tabs rfl rfl (hts _ (tin1 _ (List.mem_of_getElem? (i := 209) rfl)))
    · exact va_tabs rfl rfl (hts _ (tin2 _ (List.mem_of_getElem? (i := 91) rfl)))
    · exact va_tabs rfl rfl (hts _ (tin2 _ (List.mem_of_getElem? (i := 121) rfl)))
  have hKK : KK (fun k => (z k).1, fun k => (z k).2) cA s.heap.size s := ⟨hK, hz1, hz2, hng, hnc, va_AO.of o3, va_AO.of o4, va_AO.of o5, va_AOA.of o6, hnst⟩
  have X : Cx p l room_1 s m #[Value.ref b] meth c (fun k => (z k).1, fun k => (z k).2) cA s.heap.size d q_law 601024 7293033 := ⟨⟨hx, hb, hml, hown, htsL⟩, hKK, Nat.le_refl _, hst, hlocks, by show d + 13 ≤ 2048; omega, by show 60 * d + 260 ≤ 84000; omega, rfl, rfl, fun h => absurd h (by decide), okL_law⟩
  have hR : Rp (fun k => (z k).1, fun k => (z k).2) cA s.heap.size M0 s.heap := ⟨Nat.le_refl _, fun a ha => absurd rfl ha⟩
  have hl := lv_entry ([.ref b]) (n := 8) (Nat.le_of_ble_eq_true rfl)
  rw [lg_entry_eq]
  generalize (lg_sl ([.ref b]) ++ List.replicate (8 - (lg_sl ([.ref b])).length) Slot.unset).toArray = ls at hl ⊢
  have hl : lv_has ls 8 [(0, .ref b)] := hl
  refine h b L xs hL (VV p l e room_1 s m #[Value.ref b] below meth c (fun k => (z k).1, fun k => (z k).2) cA s.heap.size q_law (lw_Z below #[Value.ref b] s)) (vv_step X ?_ (Ex_sound l hst _ cA s.heap.size d) ⟨?_, ?_, ?_, ?_⟩ ?_) ?_ ⟨?_, ?_⟩ s.heap [] ls hR va_S.rf hl
  · intro ee M H locs ls lv pc ck sk rest q9 ce he hh
    rcases hh with ⟨-, hp⟩ | ⟨h9, hh9, -⟩
    · cases hp
    · cases hh9
  · intro pc lv x9 M ck sk hd9 hret h1 h2 hp H locs ls hP hS hl0
    cases hp
    exact va_forget hS.2.2 (W.widen h1 h2 (lw_ret hx hb hr hlocks hd9))
  · intro pc lv x9 M ck sk hd9 hret h1 h2 hp
    cases hp
  · intro pc lv x9 M ck sk hd9 hret h1 h2 hp
    cases x9 <;> cases hp
  · intro pc lv M ck sk hd9 hret h1 h2 hp
    cases hp
  · intro j ic ee pc lv st M ck sk hd9 hx9
    have h9 : (13 : Nat) = 11 := exL_own _ (tab_mem (α := Nat) (f := fun q => q.2.2) hx9)
    exact absurd h9 (by decide)
  · intro pc lv lw st M ck sk hs9 h9 H locs ls hP hS hl0
    exact h9 H locs ls hP hS ⟨hl0.1, hl0.2.1, fun z hz => hl0.2.2 z (hs9 z hz)⟩
  · intro pc lv r M ck sk j hcd hin hV H locs ls hP hS hl0
    have hd9 : decode cL_law pc = .ok (Instr.iaload, 1) := okL_law (pc, Instr.iaload, 1) (cdf_mem hcd)
    exact va_sld (cc := cL_law) hx hb hX hbl hbA hS hin hd9 (hV H locs ls hP hS hl0)
  · intro pc lv r M ck sk hcd hV H locs ls hP hS hl0
    have hd9 : decode cL_law pc = .ok (Instr.arraylength, 1) := okL_law (pc, Instr.arraylength, 1) (cdf_mem hcd)
    exact va_slen (cc := cL_law) hx hb hX hbl hbA hS hd9 (hV H locs ls hP hS hl0)
