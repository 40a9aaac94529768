/-! Ex is sound: the contract of every method on the machine -/
/-! a method by its name, the JDK's too (as vx_ofW, vx_ofWH of the pasted text, by 'plainFor') -/
theorem my_ofW {l : Launch} {y : MethodName} {ws ws' : List Cond} {rm : Room} {Pc : Array Value → State → Prop} {Qc : Array Value → State → Outcome → State → Prop} {XC : String → State → State → Prop} {mc ms : Nat} {free : Addr → Prop} {cc : ByteArray} {maxL : Nat} {ret : Option FieldType}
    (hy : plainFor y = true) (hw : ws = Cond.code y cc maxL ret :: ws')
    (body : ∀ p e s m args below meth c s₁, BodyLoose p l y (headSpec ws rm) cc maxL ret e s m args below meth c s₁ → c.maxLocals = maxL → (∀ x ∈ c.exceptionTable.toList, False) → Pc args s →
      W p l e (headSpec ws rm).room s m args below meth c s.heap [] 0 0 (vx_MQ below Qc XC args s mc ms free) (entryFrame m args maxL)) : vx_Met l y ws rm Pc Qc XC mc ms free := by
  refine MetFree.of_bodySF (code := cc) (maxLocals := maxL) (ret := ret) hy ?_ ?_
  · intro args s m h hn
    obtain ⟨meth, c, h1, h2, h3, h4, h5, h6, -, -⟩ := Cond.code_spec hn (atoms_spec (ws := ws) h _ (by rw [hw]; exact List.mem_cons_self))
    exact ⟨meth, c, h1, h2, h3, h4, h5, h6⟩
  · intro p e s m args below meth c s₁ B hml hP _
    have hh0 : s₁.heap = s.heap := by rw [B.state]; rfl
    have ht : ∀ x ∈ c.exceptionTable.toList, False := by
      obtain ⟨meth9, c9, h1, h2, -, -, -, -, h7, -⟩ := Cond.code_spec B.named (atoms_spec (ws := ws) B.pre _ (by rw [hw]; exact List.mem_cons_self))
      cases Option.some.inj (h1.symm.trans B.method)
      cases Option.some.inj (h2.symm.trans (Stand.of_body B).code)
      intro x hx
      rw [Array.isEmpty_iff.mp h7] at hx
      cases hx
    obtain ⟨t, a1, o, b1, b2, b3⟩ := body p e s m args below meth c s₁ B hml ht hP s₁ hh0 (Stand.of_body B)
    exact ⟨t, o, a1, b1, b2, b3⟩
theorem my_ofWH {l : Launch} {y : MethodName} {ws ws' : List Cond} {rm : Room} {Pc : Array Value → State → Prop} {Qc : Array Value → State → Outcome → State → Prop} {XC : String → State → State → Prop} {mc ms : Nat} {free : Addr → Prop} {cc : ByteArray} {maxL : Nat} {ret : Option FieldType} {hh : List (Nat × Nat × Nat × Nat)}
    (hy : plainFor y = true) (hw : ws = Cond.codeWith y cc maxL ret hh :: ws')
    (body : ∀ p e s m args below meth c s₁, BodyLoose p l y (headSpec ws rm) cc maxL ret e s m args below meth c s₁ → c.maxLocals = maxL → Pc args s →
      W p l e (headSpec ws rm).room s m args below meth c s.heap [] 0 0 (vx_MQ below Qc XC args s mc ms free) (entryFrame m args maxL)) : vx_Met l y ws rm Pc Qc XC mc ms free := by
  refine MetFree.of_bodySF (code := cc) (maxLocals := maxL) (ret := ret) hy ?_ ?_
  · intro args s m h hn
    obtain ⟨m9, meth, c, hn9, h1, h2, h3, h4, -, h5, h6, -⟩ := Cond.codeWith_spec (atoms_spec (ws := ws) h _ (by rw [hw]; exact List.mem_cons_self))
    cases hn.symm.trans hn9
    exact ⟨meth, c, h1, h2, h3, h4, h5, h6⟩
  · intro p e s m args below meth c s₁ B hml hP _
    have hh0 : s₁.heap = s.heap := by rw [B.state]; rfl
    obtain ⟨t, a1, o, b1, b2, b3⟩ := body p e s m args below meth c s₁ B hml hP s₁ hh0 (Stand.of_body B)
    exact ⟨t, o, a1, b1, b2, b3⟩
theorem Rp.grow {D : va_G} {cA : Nat → ClassId} {B : Nat} {M : Mm} {H H' : Heap} (h : Rp D cA B M H) (hz : H.size ≤ H'.size) (ho : ∀ b, b < H.size → H'[b]? = H[b]?) : Rp D cA B M H' := by
  refine ⟨Nat.le_trans h.1 hz, fun b hb => ?_⟩
  obtain ⟨h1, h2, h3⟩ := h.2 b hb
  refine ⟨h1, Nat.lt_of_lt_of_le h2 hz, ?_⟩
  rcases h3 with ⟨ci, r, e1, e2, e3, e4⟩ | ⟨t, e1, e2, e3⟩
  · exact Or.inl ⟨ci, r, e1, e2, e3, e4.kept (ho b h2)⟩
  · exact Or.inr ⟨t, e1, e2, by rw [ho b h2]; exact e3⟩
set_option maxRecDepth 100000 in
theorem hh_ok : ∀ e ∈ P_ml, ∀ h ∈ e.2.2.2.2.2.1, (P_xc e.2.2.2.2.1 h.2.2.2).isSome = true := by
  have h0 : P_ml.all (fun e => e.2.2.2.2.2.1.all (fun h => (P_xc e.2.2.2.2.1 h.2.2.2).isSome)) = true := by decide +kernel
  intro e he h hh
  exact List.all_eq_true.mp (List.all_eq_true.mp h0 e he) h hh
set_option maxHeartbeats 2000000 in
theorem Ex_sound (l : Launch) (hl : l.stackTraces = false) (D : va_G) (cA : Nat → ClassId) (B : Nat) : ∀ (d k : Nat) (as : List Value) (M : Mm) (mc ms : Nat) (Post : Po), Ex d k as M mc ms Post → ∃ y, P_ml[k]? = some y ∧ CT l D cA B d y as M mc ms Post
  | 0, _, _, _, _, _, _, h => h.elim
  | d + 1, k, as, M, mc, ms, Post, h => by
    obtain ⟨q, hq, hlen, hV⟩ := h
    refine ⟨q, hq, ?_⟩
    have hok := okP_ml q (List.mem_of_getElem? hq)
    have hplain : plainFor q.1 = true := hok.2.2.1
    have body : ∀ p e s m args below meth c s₁, BodyLoose p l q.1 (headSpec (wsK q) (rmD (d + 1) mc ms)) q.2.1 q.2.2.1 q.2.2.2.1 e s m args below meth c s₁ → c.maxLocals = q.2.2.1 → PP D cA B as M args s →
        (q.2.2.2.2.2.1 = [] → ∀ x ∈ c.exceptionTable.toList, False) →
        W p l e (headSpec (wsK q) (rmD (d + 1) mc ms)).room s m args below meth c s.heap [] 0 0 (vx_MQ below (QQ D cA B Post) (XX D cA B Post) args s mc ms (fun a => B ≤ a)) (entryFrame m args q.2.2.1) := by
      intro p e s m args below meth c s₁ Bd hml hv hno
      obtain ⟨rfl, hB, hP, hK⟩ := hv
      have hts : ∀ w ∈ wsL_law, w.before as.toArray s = true := fun w hw => atoms_spec (ws := wsK q) Bd.pre w (List.mem_cons_of_mem _ hw)
      have hown : s.vm.findClass (P_ow q.2.2.2.2.1) = some m.cls := by rw [← hok.2.2.2.2.1]; exact findClass_of_methodNamed Bd.named
      have hlocks := Bd.notSynchronized
      have hCx : Cx p l (headSpec (wsK q) (rmD (d + 1) mc ms)).room s m as.toArray meth c D cA B d q mc ms := ⟨⟨Bd.exec, Bd.bytes, hml, hown, hts⟩, hK, hB, hl, hlocks, by show d + 13 ≤ d + 1 + 12; omega, by show 60 * d + 260 ≤ 60 * (d + 1) + 200; omega, rfl, rfl, fun hi => (name_of_methodNamed Bd.named Bd.method).1.trans hi, hok.1⟩
      have hl9 := lv_entry as (n := q.2.2.1) hlen
      rw [lg_entry_eq]
      generalize (lg_sl as ++ List.replicate (q.2.2.1 - (lg_sl as).length) Slot.unset).toArray = ls at hl9 ⊢
      refine hV (VV p l e (headSpec (wsK q) (rmD (d + 1) mc ms)).room s m as.toArray below meth c D cA B q (vx_MQ below (QQ D cA B Post) (XX D cA B Post) as.toArray s mc ms (fun a => B ≤ a))) (vv_step hCx ?_ (Ex_sound l hl D cA B d) ?_ ?_) (fun pc lv lw st M9 ck sk hs h H9 locs9 ls9 hP9 hS9 hl0 => h H9 locs9 ls9 hP9 hS9 ⟨hl0.1, hl0.2.1, fun z hz => hl0.2.2 z (hs z hz)⟩) s.heap [] ls hP va_S.rf hl9
      · -- thrown by a callee
        intro ee M' H locs ls lv pc ck sk rest q9 ce he5 hh h1 h2 hR hS hl0 g1 g2 g3
        rcases hh with ⟨hnil, hp⟩ | ⟨h9, hh9, hVV⟩
        · refine vx_widen h1 h2 (vx_out (fun x hx => (hno hnil x hx).elim) hlocks g1 g2 g3 (fun t ht ha => ⟨⟨ee, M', rfl, he5, hp, by rw [ht]; exact hR⟩, hS.F ht⟩) hS.2.2 (Nat.le_refl _) (Nat.le_refl _))
        · obtain ⟨pre, suf, x, e1, e2, e3, e4, e5, e6⟩ := hnd_ok hh9
          have htab : c.exceptionTable.toList = tableOf (pre ++ x :: suf) := by
            have hw0 : cdW q ∈ wsK q := List.mem_cons_self
            have hw1 := atoms_spec (ws := wsK q) Bd.pre _ hw0
            unfold cdW at hw1
            rw [e1] at hw1
            refine vx_table (x := q.1) Bd ?_ (y := q.1) (bytes := q.2.1) (maxL' := q.2.2.1) (ret' := q.2.2.2.1)
            cases pre with
            | nil => exact hw1
            | cons a9 b9 => exact hw1
          have hsp : c.exceptionTable.toList = tableOf pre ++ (⟨x.1, x.2.1, x.2.2.1, x.2.2.2⟩ : ExceptionTableEntry) :: tableOf suf := by
            rw [htab]; unfold tableOf; rw [List.map_append]; rfl
          obtain ⟨w1, -, w3⟩ := P_xc_ok e4
          have hv9 := hVV q9 H locs ls hR hS (hl0)
          subst e5
          refine vx_widen (Nat.le_refl _) (Nat.le_refl _) (vx_catch (own := P_ow q.2.2.2.2.1) (name := P_ex ee) (E := P_ex ee) hown (tableOf pre) _ (tableOf suf) hsp ?_ ?_ w3 (hts _ w1) ?_ g1 g2 g3 hv9)
          · intro z hz
            obtain ⟨zz, hzz, rfl⟩ := List.mem_map.mp hz
            by_cases hc1 : zz.1 ≤ pc ∧ pc < zz.2.1
            · obtain ⟨e9, he9⟩ : ∃ e9, P_xc q.2.2.2.2.1 zz.2.2.2 = some e9 := Option.isSome_iff_exists.mp (hh_ok q (List.mem_of_getElem? hq) zz (by rw [e1]; exact List.mem_append_left _ hzz))
              obtain ⟨v1, v2, v3⟩ := P_xc_ok he9
              have hne : ee ≠ e9 := fun h => e6 zz hzz hc1.1 hc1.2 (by rw [h]; exact he9)
              exact Or.inr ⟨v3, P_ex e9, hts _ v1, hK.2.2.2.2.1 ee e9 he5 v2 hne⟩
            · exact Or.inl (by simp only [covers]; by_cases q1 : zz.1 ≤ pc <;> by_cases q2 : pc < zz.2.1 <;> simp_all)
          · simp only [covers]; simp [e2, e3]
          · have h9 := hK.2.2.2.1 ee he5 (Cond.castable (P_ex ee) (P_ex ee)) (by simp [P_ng])
            exact va_tabs rfl rfl h9
      · -- the ends
        refine ⟨?_, ?_, ?_, ?_⟩
        · intro pc lv x M' ck sk hd hret h1 h2 hp H locs ls hP hS hl0
          refine W.widen h1 h2 (vx_ret ?_)
          rcases hret with hr | ⟨hr, h01⟩
          · exact W.iret Bd.exec Bd.bytes (Bd.returns.trans hr) (fun t ht hW => ⟨⟨_, M', rfl, hp, by rw [ht]; exact hP⟩, hS.F ht⟩) hS.2.2 hd
          · exact W.zret Bd.exec Bd.bytes (Bd.returns.trans hr) (by rcases h01 with rfl | rfl <;> rfl) (fun t ht hW => ⟨⟨_, M', rfl, hp, by rw [ht]; exact hP⟩, hS.F ht⟩) hS.2.2 hd
        · intro pc lv x M' ck sk hd hr h1 h2 hp H locs ls hP hS hl0
          refine W.widen h1 h2 (vx_ret ?_)
          exact W.lret Bd.exec Bd.bytes (Bd.returns.trans hr) (fun t ht hW => ⟨⟨_, M', rfl, hp, by rw [ht]; exact hP⟩, hS.F ht⟩) hS.2.2 hd
        · intro pc lv x M' ck sk hd hr h1 h2 hp H locs ls hP hS hl0
          refine W.widen h1 h2 (vx_ret ?_)
          obtain ⟨rt, hr1, hr2⟩ : ∃ rt, q.2.2.2.1 = some rt ∧ ((∃ n, rt = .object n) ∨ ∃ t, rt = .array t) := by
            rcases hr with ⟨n, hn⟩ | ⟨t, ht⟩
            · exact ⟨_, hn, Or.inl ⟨n, rfl⟩⟩
            · exact ⟨_, ht, Or.inr ⟨t, rfl⟩⟩
          exact W.aret Bd.exec Bd.bytes (Bd.returns.trans hr1) hr2 (by cases x <;> simp [va_rf]) (fun t ht hW => ⟨⟨_, M', rfl, hp, by rw [ht]; exact hP⟩, hS.F ht⟩) hS.2.2 hd
        · intro pc lv M' ck sk hd hr h1 h2 hp H locs ls hP hS hl0
          refine W.widen h1 h2 (vx_ret ?_)
          exact W.vret Bd.exec Bd.bytes (Bd.returns.trans hr) (fun t ht hW => ⟨⟨_, M', rfl, hp, by rw [ht]; exact hP⟩, hS.F ht⟩) hS.2.2 hd
      · -- throw new
        intro j ic ee pc lv st M' ck sk hd hx9 hn0 d3 d4 d7 hcat h1 h2 hp H locs ls hP hS hl0
        obtain ⟨w1, w2, w3, w4, w5, w55, w6, w7⟩ := P_xx_ok hx9
        refine vx_throw0 (own := P_ow q.2.2.2.2.1) (cls := P_ex ee) (names := P_sup) (A := fun a => B ≤ a) Bd.exec Bd.bytes hl hown w3 w7 (hts _ w1) (hts _ w2) (vx_hat (fun w hw => hts _ (w4 w hw)) w5 (fun w hw => ?_)) w6 hK.2.1 hK.2.2.1 hS (hl0.1.trans hml.symm) hd d3 d4 d7 ?_ ?_ ?_ h1 h2 hlocks ?_ hS.2.2 h1 h2
        · have h9 := hK.2.2.2.1 ee w55 w hw
          simp only [P_ng, List.mem_cons, List.not_mem_nil, or_false] at hw
          rcases hw with rfl | rfl | rfl | rfl
          · exact va_tabs rfl rfl h9
          · exact va_tabs rfl rfl h9
          · exact va_tabs rfl rfl h9
          · exact va_tabs rfl rfl h9
        · exact fun x hx => (hno hn0 x hx).elim
        · show 2 + 3 < d + 1 + 12; omega
        · show (st.map fun v => v.category).sum + (13 * (2 + 1) + 42) ≤ 60 * (d + 1) + 200; omega
        · intro t ha hz ho
          exact ⟨⟨ee, M', rfl, w55, hp, hP.grow hz ho⟩, Nat.le_trans hS.1 hz, fun a h8 h9 => (ho a (Nat.lt_of_lt_of_le h8 hS.1)).trans (hS.2.1 a h8 h9)⟩
    unfold CT
    cases hnil : q.2.2.2.2.2.1 with
    | nil =>
      refine my_ofW (cc := q.2.1) (maxL := q.2.2.1) (ret := q.2.2.2.1) hplain (by unfold wsK cdW; rw [hnil]) ?_
      intro p e s m args below meth c s₁ Bd hml hno hv
      exact body p e s m args below meth c s₁ Bd hml hv (fun _ => hno)
    | cons x9 t9 =>
      refine my_ofWH (cc := q.2.1) (maxL := q.2.2.1) (ret := q.2.2.2.1) (hh := x9 :: t9) hplain (by unfold wsK cdW; rw [hnil]) ?_
      intro p e s m args below meth c s₁ Bd hml hv
      exact body p e s m args below meth c s₁ Bd hml hv (fun h => by rw [hnil] at h; cases h)
