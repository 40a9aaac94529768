/-! calls, ends, and the whole: what Ex says holds on the machine -/
section Main
variable {p : Program} {l : Launch} {e : Env} {R : Room} {s : State} {m : MethodId} {args : Array Value} {below : List Frame} {meth : Method} {c : Code} {D : va_G} {cA : Nat → ClassId} {B d : Nat} {q : mm_T} {mc ms : Nat} {Q : State → Prop}
theorem go_call {H : Heap} {locs : List Loc} {cells slots mc' ms' pc : Nat} {ls : Array Slot} {st0 rest : List Value} {a9 : Array Value} {P' : Po} (hr : vx_Run p l e R s m args below meth c H locs cells slots mc' ms' (F0 m pc ls st0) rest (QQ D cA B P' a9) (XX D cA B P') (fun a => B ≤ a)) (hS : va_S (fun a => B ≤ a) s.heap H locs)
    (kx : ∀ (ee : Nat) (M' : Mm) (H1 : Heap) (locs1 : List Loc) (q9 : Addr) (ce : Cell), ee < 5 → P' (.inr ee) M' → Rp D cA B M' H1 → va_S (fun a => B ≤ a) s.heap H1 locs1 → H1[q9]? = some ce → ce.vm = .none → s.vm.findClass (P_ex ee) = some ce.cls → vx_W p l e R s m args below meth c H1 locs1 (cells + mc') (slots + ms') Q (F0 m pc ls rest) q9)
    (kk : ∀ (v : Option Value) (M' : Mm) (H1 : Heap) (locs1 : List Loc), P' (.inl v) M' → Rp D cA B M' H1 → va_S (fun a => B ≤ a) s.heap H1 locs1 → W p l e R s m args below meth c H1 locs1 (cells + mc') (slots + ms') Q (F0 m (pc + 3) ls (v.toList ++ rest))) : W p l e R s m args below meth c H locs cells slots Q (F0 m pc ls st0) := by
  intro T hT X
  rcases hr T hT X with ⟨v, st₀, t, T', L, h0, X', hL, e1, e2, ⟨⟨v', M', hv, hp, hR⟩, hF⟩, st⟩ | ⟨q9, st₀, t, T', L, E, ce, h0, X', hL, e1, e2, ⟨⟨ee, M', rfl, he5, hp, hR⟩, hF⟩, hce, hcv, hcl, st⟩
  · cases hv
    obtain ⟨k1, k2, k3⟩ := vx_keep h0 e1 hS (fun _ _ z => z) (fun _ z => z) hL hF
    obtain ⟨t2, a1, b1⟩ := kk v M' T'.heap (locs ++ L) hp (by rw [e1]; exact hR) k3 T' rfl X'
    exact ⟨t2, st t2 a1, b1⟩
  · obtain ⟨k1, k2, k3⟩ := vx_keep h0 e1 hS (fun _ _ z => z) (fun _ z => z) hL hF
    obtain ⟨t2, a1, b1⟩ := kx ee M' T'.heap (locs ++ L) q9 ce he5 hp (by rw [e1]; exact hR) k3 (by rw [e1]; exact hce) hcv hcl T' rfl X'
    exact ⟨t2, st.trans a1, b1⟩
theorem pp_at {H : Heap} {locs : List Loc} {M : Mm} {as : List Value} (hKK : KK D cA B s) (hB : B ≤ s.heap.size) (hP : Rp D cA B M H) (hS : va_S (fun a => B ≤ a) s.heap H locs) : ∀ U : State, U.heap = H → s.WarmedH U.vm → PP D cA B as M as.toArray U := by
  intro U hU hW
  refine ⟨rfl, by rw [hU]; exact hP.1, by rw [hU]; exact hP, hKK.go hW fun a ha hb => ?_⟩
  rw [hU]; exact hS.2.1 a ha hb
theorem cdW_in {y : mm_T} (hok : okM y) : cdW y ∈ wsL_law := by
  have h := hok.2.1
  unfold cdW
  cases hz : y.2.2.2.2.2.1 with
  | nil => rw [hz] at h; exact h
  | cons a b => rw [hz] at h; exact h
theorem good_K {y : mm_T} (hy : cdW y ∈ wsL_law) : GoodIn wsL_law (wsK y) := fun w hw => by
  rcases List.mem_cons.mp hw with rfl | h
  · exact ⟨hy, good_of_word (wsL_good _ hy)⟩
  · exact ⟨h, good_of_word (wsL_good _ h)⟩
/-- what goes on behind a call -/
def KX (p : Program) (l : Launch) (e : Env) (R : Room) (s : State) (m : MethodId) (args : Array Value) (below : List Frame) (meth : Method) (c : Code) (D : va_G) (cA : Nat → ClassId) (B : Nat) (q : mm_T) (mc ms : Nat) (Q : State → Prop) (Post : Po) : Prop :=
  ∀ (ee : Nat) (M : Mm) (H : Heap) (locs : List Loc) (ls : Array Slot) (lv : List (Nat × Value)) (pc ck sk : Nat) (rest : List Value) (q9 : Addr) (ce : Cell), ee < 5 → ((q.2.2.2.2.2.1 = [] ∧ Post (.inr ee) M) ∨ ∃ h, hnd q pc ee = some h ∧ ∀ b, VV p l e R s m args below meth c D cA B q Q h lv [.ref b] M ck sk) → ck ≤ mc → sk ≤ ms → Rp D cA B M H → va_S (fun a => B ≤ a) s.heap H locs → lv_has ls q.2.2.1 lv → H[q9]? = some ce → ce.vm = .none → s.vm.findClass (P_ex ee) = some ce.cls → vx_W p l e R s m args below meth c H locs ck sk Q (F0 m pc ls rest) q9
theorem vv_call (X : Cx p l R s m args meth c D cA B d q mc ms) {Post : Po} (hX : KX p l e R s m args below meth c D cA B q mc ms Q Post) {E : E_T} (IH : ∀ k as M mc ms P, E k as M mc ms P → ∃ y, P_ml[k]? = some y ∧ CT l D cA B d y as M mc ms P)
    {pc k : Nat} {lv : List (Nat × Value)} {st r as : List Value} {M : Mm} {ck sk : Nat}
    (hcall : callc E q mc ms Post (VV p l e R s m args below meth c D cA B q Q) pc lv r M ck sk k as)
    (hrun : ∀ (y : mm_T) (mc' ms' : Nat) (P' : Po) (H : Heap) (locs : List Loc) (ls : Array Slot), P_ml[k]? = some y → okM y → CT l D cA B d y as M mc' ms' P' → (r.map fun v => v.category).sum ≤ 8 → ck + mc' ≤ mc → sk + ms' ≤ ms → Rp D cA B M H → va_S (fun a => B ≤ a) s.heap H locs → lv_has ls q.2.2.1 lv → vx_Run p l e R s m args below meth c H locs ck sk mc' ms' (F0 m pc ls st) r (QQ D cA B P' as.toArray) (XX D cA B P') (fun a => B ≤ a))
    : VV p l e R s m args below meth c D cA B q Q pc lv st M ck sk := by
  intro H locs ls hP hS hl
  obtain ⟨mc', ms', P', hE, h1, h2, h3, hret, hexc⟩ := hcall
  obtain ⟨y, hy, hM⟩ := IH k as M mc' ms' P' hE
  have hok := okP_ml y (List.mem_of_getElem? hy)
  refine go_call (hrun y mc' ms' P' H locs ls hy hok hM h3 h1 h2 hP hS hl) hS ?_ ?_
  · intro ee M' H1 locs1 q9 ce he5 hp hR hS1 g1 g2 g3
    exact hX ee M' H1 locs1 ls lv pc _ _ r q9 ce he5 (hexc ee M' hp).2 h1 h2 hR hS1 hl g1 g2 g3
  · intro v M' H1 locs1 hp hR hS1
    exact hret v M' hp H1 locs1 ls hR hS1 hl
theorem vv_callV (X : Cx p l R s m args meth c D cA B d q mc ms) {Post : Po} (hX : KX p l e R s m args below meth c D cA B q mc ms Q Post) {E : E_T} (IH : ∀ k as M mc ms P, E k as M mc ms P → ∃ y, P_ml[k]? = some y ∧ CT l D cA B d y as M mc ms P)
    {pc k na idx b : Nat} {lv : List (Nat × Value)} {r as : List Value} {M : Mm} {ck sk : Nat} (hd : decode q.2.1 pc = .ok (.invokevirtual idx, 3)) (hm : P_mt q.2.2.2.2.1 idx = some (0, k, na)) (hlen : as.length = na)
    (hy : ∃ y, P_ml[k]? = some y ∧ y.2.2.2.2.2.1 = [] ∧ mT M b = y.2.2.2.2.1 + 1 ∧ y.2.2.2.2.1 < 13)
    (hcall : callc E q mc ms Post (VV p l e R s m args below meth c D cA B q Q) pc lv r M ck sk k (.ref b :: as)) : VV p l e R s m args below meth c D cA B q Q pc lv (as.reverse ++ .ref b :: r) M ck sk := by
  obtain ⟨y0, hy0, hnil, htag, hci0⟩ := hy
  refine vv_call X hX IH hcall ?_
  intro y mc' ms' P' H locs ls hy1 hok hM hcat h1 h2 hP hS hl
  cases hy0.symm.trans hy1
  obtain ⟨⟨hx, hb, hml, hown, hts⟩, hKK, hB, -, -, hRf, hRl, hRc, hRs, -⟩ := X
  obtain ⟨q1, hq1, w1, w2, w3, w4, w5⟩ := P_mt_ok hm
  cases hy0.symm.trans hq1
  have o2 := cdW_in hok
  obtain ⟨-, -, o3, o4, o5, o6⟩ := hok
  have hwK0 : wsK y0 = Cond.code y0.1 y0.2.1 y0.2.2.1 y0.2.2.2.1 :: wsL_law := by unfold wsK cdW; rw [hnil]
  have hci : y0.2.2.2.2.1 < 13 := hci0
  obtain ⟨rr, hr, ⟨cellB, g1, g2, g3, -⟩, -, -⟩ := hP.obj htag hci
  have hC : rr.1 = y0.1.cls := (vwCl_ok _ _ hr).2.2.2.1.trans o5.symm
  refine vx_runV (C := y0.1.cls) (As := as) (n := na) ⟨hx, hb, hml, hown, hts⟩ hM (cwV na hts ?_ hwK0 rfl rfl ⟨rfl, o4.1, o4.2, w3⟩ ⟨?_, ?_⟩) ⟨PP.blind, ⟨cellB, g1, by rw [g3]; rfl, ?_⟩, pp_at hKK hB hP hS⟩ rfl hlen hl.1 rfl (lv_room hcat) hd ⟨by rw [hRc]; exact h1, by rw [hRs]; exact h2⟩
  · intro w hw
    unfold wsV at hw
    rcases List.mem_append.mp hw with h | h
    · have hw9 : w ∈ wsL_law := by
        simp only [List.mem_cons, List.not_mem_nil, or_false] at h
        rcases h with rfl | rfl | rfl | rfl
        · exact w1
        · exact w4
        · exact w5
        · exact w2
      exact ⟨hw9, good_of_word (wsL_good _ hw9)⟩
    · exact good_K o2 w h
  · show d + 12 + 1 ≤ R.frames; omega
  · show 8 + (y0.2.2.1 + 11) + (60 * d + 200) ≤ R.locals; omega
  · rw [g2, ← hC]; exact (hKK.1.1 _ _ hr).2.1
theorem vv_callS (X : Cx p l R s m args meth c D cA B d q mc ms) {Post : Po} (hX : KX p l e R s m args below meth c D cA B q mc ms Q Post) {E : E_T} (IH : ∀ k as M mc ms P, E k as M mc ms P → ∃ y, P_ml[k]? = some y ∧ CT l D cA B d y as M mc ms P)
    {pc k na idx : Nat} {lv : List (Nat × Value)} {r as : List Value} {M : Mm} {ck sk : Nat} (hd : decode q.2.1 pc = .ok (.invokestatic idx, 3)) (hm : P_mt q.2.2.2.2.1 idx = some (1, k, na)) (hlen : as.length = na)
    (hcall : callc E q mc ms Post (VV p l e R s m args below meth c D cA B q Q) pc lv r M ck sk k as) : VV p l e R s m args below meth c D cA B q Q pc lv (as.reverse ++ r) M ck sk := by
  refine vv_call X hX IH hcall ?_
  intro y mc' ms' P' H locs ls hy1 hok hM hcat h1 h2 hP hS hl
  obtain ⟨⟨hx, hb, hml, hown, hts⟩, hKK, hB, -, -, hRf, hRl, hRc, hRs, -⟩ := X
  obtain ⟨q1, hq1, w1, w2, w3, w4⟩ := P_mt_ok hm
  cases hy1.symm.trans hq1
  have o2 := cdW_in hok
  obtain ⟨-, -, o3, o4, o5, o6⟩ := hok
  cases hnil : y.2.2.2.2.2.1 with
  | nil =>
    have hwK0 : wsK y = Cond.code y.1 y.2.1 y.2.2.1 y.2.2.2.1 :: wsL_law := by unfold wsK cdW; rw [hnil]
    refine vx_runS (As := as) (n := na) ⟨hx, hb, hml, hown, hts⟩ hM ⟨callB_of na hts (good_K o2) hwK0 rfl rfl (hts _ w2) (hts _ w1) ⟨o4.1, o4.2, w3⟩ ⟨?_, ?_⟩, hts _ w4⟩ ⟨PP.blind, pp_at hKK hB hP hS⟩ rfl hlen hl.1 rfl (lv_room hcat) hd ⟨by rw [hRc]; exact h1, by rw [hRs]; exact h2⟩
    · show d + 12 + 1 ≤ R.frames; omega
    · show 8 + (y.2.2.1 + 11) + (60 * d + 200) ≤ R.locals; omega
  | cons x9 t9 =>
    have hwK0 : wsK y = Cond.codeWith y.1 y.2.1 y.2.2.1 y.2.2.2.1 (x9 :: t9) :: wsL_law := by unfold wsK cdW; rw [hnil]
    refine vx_runSX (As := as) (n := na) ⟨hx, hb, hml, hown, hts⟩ hM (vx_cwSW na hts ?_ hwK0 rfl rfl ⟨o4.1, o4.2, w3⟩ ⟨?_, ?_⟩) ⟨PP.blind, pp_at hKK hB hP hS⟩ rfl hlen hl.1 rfl (lv_room hcat) hd ⟨by rw [hRc]; exact h1, by rw [hRs]; exact h2⟩
    · intro w hw
      unfold va_wsS at hw
      rcases List.mem_append.mp hw with h | h
      · have hw9 : w ∈ wsL_law := by
          simp only [List.mem_cons, List.not_mem_nil, or_false] at h
          rcases h with rfl | rfl | rfl
          · exact w1
          · exact w4
          · exact w2
        exact ⟨hw9, good_of_word (wsL_good _ hw9)⟩
      · exact good_K o2 w h
    · show d + 12 + 1 ≤ R.frames; omega
    · show 8 + (y.2.2.1 + 11) + (60 * d + 200) ≤ R.locals; omega
theorem vv_callI (X : Cx p l R s m args meth c D cA B d q mc ms) {Post : Po} (hX : KX p l e R s m args below meth c D cA B q mc ms Q Post) {E : E_T} (IH : ∀ k as M mc ms P, E k as M mc ms P → ∃ y, P_ml[k]? = some y ∧ CT l D cA B d y as M mc ms P)
    {pc k na idx b : Nat} {lv : List (Nat × Value)} {r as : List Value} {M : Mm} {ck sk : Nat} (hd : decode q.2.1 pc = .ok (.invokespecial idx, 3)) (hm : P_mt q.2.2.2.2.1 idx = some (2, k, na)) (hlen : as.length = na)
    (hy : ∃ y, P_ml[k]? = some y ∧ y.2.2.2.2.2.1 = [] ∧ y.2.2.2.1 = none)
    (hcall : callc E q mc ms Post (VV p l e R s m args below meth c D cA B q Q) pc lv r M ck sk k (.ref b :: as)) : VV p l e R s m args below meth c D cA B q Q pc lv (as.reverse ++ .ref b :: r) M ck sk := by
  obtain ⟨y0, hy0, hnil, hret⟩ := hy
  refine vv_call X hX IH hcall ?_
  intro y mc' ms' P' H locs ls hy1 hok hM hcat h1 h2 hP hS hl
  cases hy0.symm.trans hy1
  obtain ⟨⟨hx, hb, hml, hown, hts⟩, hKK, hB, -, -, hRf, hRl, hRc, hRs, -⟩ := X
  obtain ⟨q1, hq1, w1, w2, w3, w4, w5⟩ := P_mt_ok hm
  cases hy0.symm.trans hq1
  have o2 := cdW_in hok
  obtain ⟨-, -, o3, o4, o5, o6⟩ := hok
  have hwK0 : wsK y0 = Cond.code y0.1 y0.2.1 y0.2.2.1 y0.2.2.2.1 :: wsL_law := by unfold wsK cdW; rw [hnil]
  have hgK := good_K o2
  have hwK : wsK y0 = Cond.code y0.1 y0.2.1 y0.2.2.1 none :: wsL_law := by rw [hwK0, hret]
  refine vx_runI (As := as) (n := na) ⟨hx, hb, hml, hown, hts⟩ hM ⟨callB_of na hts hgK hwK rfl rfl (hts _ w2) (hts _ w1) ⟨o4.1, o4.2, w3⟩ ⟨?_, ?_⟩, w5, hts _ w4⟩ ⟨PP.blind, pp_at hKK hB hP hS⟩ rfl hlen hl.1 rfl (lv_room hcat) hd ⟨by rw [hRc]; exact h1, by rw [hRs]; exact h2⟩
  · show d + 12 + 1 ≤ R.frames; omega
  · show 8 + (y0.2.2.1 + 11) + (60 * d + 200) ≤ R.locals; omega
theorem KK.nest {D : va_G} {cA : Nat → ClassId} {B : Nat} {U : State} (h : KK D cA B U) : ∀ e ∈ niL, va_Nw (.methodLinkNest (P_ow e.1) e.2.1 (nn_y e.2.2) RX11) U := by
  obtain ⟨-, -, -, -, -, -, -, -, -, hn9⟩ := h
  exact hn9
theorem P_ni_ok {o i k : Nat} (h : P_ni o i = some k) : okNi (o, i, k) ∧ (o, i, k) ∈ niL := ⟨niL_ok _ (tab_mem (α := Nat) (f := fun q => q.2.2) h), tab_mem (α := Nat) (f := fun q => q.2.2) h⟩
theorem vv_callN (X : Cx p l R s m args meth c D cA B d q mc ms) {Post : Po} (hX : KX p l e R s m args below meth c D cA B q mc ms Q Post) {E : E_T} (IH : ∀ k as M mc ms P, E k as M mc ms P → ∃ y, P_ml[k]? = some y ∧ CT l D cA B d y as M mc ms P)
    {pc k idx b : Nat} {lv : List (Nat × Value)} {r : List Value} {M : Mm} {ck sk : Nat} (hd : decode q.2.1 pc = .ok (.invokespecial idx, 3)) (hm : P_ni q.2.2.2.2.1 idx = some k)
    (hcall : callc E q mc ms Post (VV p l e R s m args below meth c D cA B q Q) pc lv r M ck sk k [.ref b]) : VV p l e R s m args below meth c D cA B q Q pc lv (.ref b :: r) M ck sk := by
  obtain ⟨⟨y0, hy0, hnm, w2, w3, w4, w5, hnil, hret⟩, hmem⟩ := P_ni_ok hm
  refine vv_call X hX IH hcall ?_
  intro y mc' ms' P' H locs ls hy1 hok hM hcat h1 h2 hP hS hl
  cases hy0.symm.trans hy1
  obtain ⟨⟨hx, hb, hml, hown, hts⟩, hKK, hB, -, -, hRf, hRl, hRc, hRs, -⟩ := X
  have o2 := cdW_in hok
  obtain ⟨-, -, o3, o4, o5, o6⟩ := hok
  have hwK0 : wsK y0 = Cond.code y0.1 y0.2.1 y0.2.2.1 y0.2.2.2.1 :: wsL_law := by unfold wsK cdW; rw [hnil]
  have hgK := good_K o2
  have hwK : wsK y0 = Cond.code y0.1 y0.2.1 y0.2.2.1 none :: wsL_law := by rw [hwK0, hret]
  have hn9 := hKK.nest
  have h9 : va_Nw (.methodLinkNest (P_ow q.2.2.2.2.1) idx (nn_y k) RX11) s := hn9 (q.2.2.2.2.1, idx, k) hmem
  have hlk : va_Nw (.methodLinkNest (P_ow q.2.2.2.2.1) idx y0.1 RX11) s := Eq.mpr (congrArg (fun y => va_Nw (.methodLinkNest (P_ow q.2.2.2.2.1) idx y RX11) s) hnm) h9
  refine vx_runIN (As := []) (n := 0) ⟨hx, hb, hml, hown, hts⟩ hM ⟨va_cnB 0 hts hgK hwK rfl rfl hlk (hts _ w4) ⟨o4.1, o4.2, w5⟩ ⟨?_, ?_⟩, w3, hts _ w2⟩ ⟨PP.blind, pp_at hKK hB hP hS⟩ rfl rfl hl.1 rfl (lv_room hcat) hd ⟨by rw [hRc]; exact h1, by rw [hRs]; exact h2⟩
  · show d + 12 + 1 ≤ R.frames; omega
  · show 8 + (y0.2.2.1 + 11) + (60 * d + 200) ≤ R.locals; omega
theorem vs_aload (X : Cx p l R s m args meth c D cA B d q mc ms) {V : V_T} (hV : V = VV p l e R s m args below meth c D cA B q Q) {pc : Nat} {lv : List (Nat × Value)} {st : List Value} {M : Mm} {ck sk : Nat} {j : Nat} (hdec0 : decode q.2.1 pc = .ok (.aload j, 2)) (h : ldv lv j fun v => ∃ x, v = va_rf x ∧ V (pc + 2) lv (v :: st) M ck sk) : V pc lv st M ck sk := by
  subst hV
  have hx := X.1.1
  have hb := X.1.2.1
  have hml := X.1.2.2.1
  have hown := X.1.2.2.2.1
  have hts := X.1.2.2.2.2
  obtain ⟨v, hv, x, rfl, h⟩ := h; intro H locs ls hP hS hl; exact lv_aloadV hx hb hdec0 (lk_at hl hv) (h H locs ls hP hS hl)
theorem vs_aload_n (X : Cx p l R s m args meth c D cA B d q mc ms) {V : V_T} (hV : V = VV p l e R s m args below meth c D cA B q Q) {pc : Nat} {lv : List (Nat × Value)} {st : List Value} {M : Mm} {ck sk : Nat} {j : Fin 4} (hdec0 : decode q.2.1 pc = .ok (.aload_n j, 1)) (h : ldv lv j.val fun v => ∃ x, v = va_rf x ∧ V (pc + 1) lv (v :: st) M ck sk) : V pc lv st M ck sk := by
  subst hV
  have hx := X.1.1
  have hb := X.1.2.1
  have hml := X.1.2.2.1
  have hown := X.1.2.2.2.1
  have hts := X.1.2.2.2.2
  obtain ⟨v, hv, x, rfl, h⟩ := h; intro H locs ls hP hS hl; exact lv_aload_nV hx hb hdec0 (lk_at hl hv) (h H locs ls hP hS hl)
theorem vs_iload (X : Cx p l R s m args meth c D cA B d q mc ms) {V : V_T} (hV : V = VV p l e R s m args below meth c D cA B q Q) {pc : Nat} {lv : List (Nat × Value)} {st : List Value} {M : Mm} {ck sk : Nat} {j : Nat} (hdec0 : decode q.2.1 pc = .ok (.iload j, 2)) (h : ldv lv j fun v => ∃ x, v = .int x ∧ V (pc + 2) lv (v :: st) M ck sk) : V pc lv st M ck sk := by
  subst hV
  have hx := X.1.1
  have hb := X.1.2.1
  have hml := X.1.2.2.1
  have hown := X.1.2.2.2.1
  have hts := X.1.2.2.2.2
  obtain ⟨v, hv, x, rfl, h⟩ := h; intro H locs ls hP hS hl; exact lv_iload hx hb hdec0 (lk_at hl hv) (h H locs ls hP hS hl)
theorem vs_iload_n (X : Cx p l R s m args meth c D cA B d q mc ms) {V : V_T} (hV : V = VV p l e R s m args below meth c D cA B q Q) {pc : Nat} {lv : List (Nat × Value)} {st : List Value} {M : Mm} {ck sk : Nat} {j : Fin 4} (hdec0 : decode q.2.1 pc = .ok (.iload_n j, 1)) (h : ldv lv j.val fun v => ∃ x, v = .int x ∧ V (pc + 1) lv (v :: st) M ck sk) : V pc lv st M ck sk := by
  subst hV
  have hx := X.1.1
  have hb := X.1.2.1
  have hml := X.1.2.2.1
  have hown := X.1.2.2.2.1
  have hts := X.1.2.2.2.2
  obtain ⟨v, hv, x, rfl, h⟩ := h; intro H locs ls hP hS hl; exact lv_iload_n hx hb hdec0 rfl (lk_at hl hv) (h H locs ls hP hS hl)
theorem vs_lload (X : Cx p l R s m args meth c D cA B d q mc ms) {V : V_T} (hV : V = VV p l e R s m args below meth c D cA B q Q) {pc : Nat} {lv : List (Nat × Value)} {st : List Value} {M : Mm} {ck sk : Nat} {j : Nat} (hdec0 : decode q.2.1 pc = .ok (.lload j, 2)) (h : ldv lv j fun v => ∃ x, v = .long x ∧ V (pc + 2) lv (v :: st) M ck sk) : V pc lv st M ck sk := by
  subst hV
  have hx := X.1.1
  have hb := X.1.2.1
  have hml := X.1.2.2.1
  have hown := X.1.2.2.2.1
  have hts := X.1.2.2.2.2
  obtain ⟨v, hv, x, rfl, h⟩ := h; intro H locs ls hP hS hl; exact lv_lload hx hb hdec0 (lk_at hl hv) (h H locs ls hP hS hl)
theorem vs_lload_n (X : Cx p l R s m args meth c D cA B d q mc ms) {V : V_T} (hV : V = VV p l e R s m args below meth c D cA B q Q) {pc : Nat} {lv : List (Nat × Value)} {st : List Value} {M : Mm} {ck sk : Nat} {j : Fin 4} (hdec0 : decode q.2.1 pc = .ok (.lload_n j, 1)) (h : ldv lv j.val fun v => ∃ x, v = .long x ∧ V (pc + 1) lv (v :: st) M ck sk) : V pc lv st M ck sk := by
  subst hV
  have hx := X.1.1
  have hb := X.1.2.1
  have hml := X.1.2.2.1
  have hown := X.1.2.2.2.1
  have hts := X.1.2.2.2.2
  obtain ⟨v, hv, x, rfl, h⟩ := h; intro H locs ls hP hS hl; exact lv_lload_n hx hb hdec0 rfl (lk_at hl hv) (h H locs ls hP hS hl)
theorem vs_iconst (X : Cx p l R s m args meth c D cA B d q mc ms) {V : V_T} (hV : V = VV p l e R s m args below meth c D cA B q Q) {pc : Nat} {lv : List (Nat × Value)} {st : List Value} {M : Mm} {ck sk : Nat} {v : Int} (hdec0 : decode q.2.1 pc = .ok (.iconst v, 1)) (h : V (pc + 1) lv (.int (Int32.ofInt v) :: st) M ck sk) : V pc lv st M ck sk := by
  subst hV
  have hx := X.1.1
  have hb := X.1.2.1
  have hml := X.1.2.2.1
  have hown := X.1.2.2.2.1
  have hts := X.1.2.2.2.2
  intro H locs ls hP hS hl; exact lv_iconst hx hb hdec0 rfl (h H locs ls hP hS hl)
theorem vs_bipush (X : Cx p l R s m args meth c D cA B d q mc ms) {V : V_T} (hV : V = VV p l e R s m args below meth c D cA B q Q) {pc : Nat} {lv : List (Nat × Value)} {st : List Value} {M : Mm} {ck sk : Nat} {v : Int} (hdec0 : decode q.2.1 pc = .ok (.bipush v, 2)) (h : V (pc + 2) lv (.int (Int8.ofInt v).toInt32 :: st) M ck sk) : V pc lv st M ck sk := by
  subst hV
  have hx := X.1.1
  have hb := X.1.2.1
  have hml := X.1.2.2.1
  have hown := X.1.2.2.2.1
  have hts := X.1.2.2.2.2
  intro H locs ls hP hS hl; exact lv_bipush hx hb hdec0 rfl (h H locs ls hP hS hl)
theorem vs_sipush (X : Cx p l R s m args meth c D cA B d q mc ms) {V : V_T} (hV : V = VV p l e R s m args below meth c D cA B q Q) {pc : Nat} {lv : List (Nat × Value)} {st : List Value} {M : Mm} {ck sk : Nat} {v : Int} (hdec0 : decode q.2.1 pc = .ok (.sipush v, 3)) (h : V (pc + 3) lv (.int (Int16.ofInt v).toInt32 :: st) M ck sk) : V pc lv st M ck sk := by
  subst hV
  have hx := X.1.1
  have hb := X.1.2.1
  have hml := X.1.2.2.1
  have hown := X.1.2.2.2.1
  have hts := X.1.2.2.2.2
  intro H locs ls hP hS hl; exact lv_sipush hx hb hdec0 rfl (h H locs ls hP hS hl)
theorem vs_lconst (X : Cx p l R s m args meth c D cA B d q mc ms) {V : V_T} (hV : V = VV p l e R s m args below meth c D cA B q Q) {pc : Nat} {lv : List (Nat × Value)} {st : List Value} {M : Mm} {ck sk : Nat} {v : Fin 2} (hdec0 : decode q.2.1 pc = .ok (.lconst v, 1)) (h : V (pc + 1) lv (.long (Int64.ofNat (v : Nat)) :: st) M ck sk) : V pc lv st M ck sk := by
  subst hV
  have hx := X.1.1
  have hb := X.1.2.1
  have hml := X.1.2.2.1
  have hown := X.1.2.2.2.1
  have hts := X.1.2.2.2.2
  intro H locs ls hP hS hl; exact lv_lconst hx hb hdec0 rfl (h H locs ls hP hS hl)
theorem vs_aconst_null (X : Cx p l R s m args meth c D cA B d q mc ms) {V : V_T} (hV : V = VV p l e R s m args below meth c D cA B q Q) {pc : Nat} {lv : List (Nat × Value)} {st : List Value} {M : Mm} {ck sk : Nat}  (hdec0 : decode q.2.1 pc = .ok (.aconst_null, 1)) (h : V (pc + 1) lv (.null :: st) M ck sk) : V pc lv st M ck sk := by
  subst hV
  have hx := X.1.1
  have hb := X.1.2.1
  have hml := X.1.2.2.1
  have hown := X.1.2.2.2.1
  have hts := X.1.2.2.2.2
  intro H locs ls hP hS hl; exact lv_null hx hb hdec0 (h H locs ls hP hS hl)
theorem vs_ldc (X : Cx p l R s m args meth c D cA B d q mc ms) {V : V_T} (hV : V = VV p l e R s m args below meth c D cA B q Q) {pc : Nat} {lv : List (Nat × Value)} {st : List Value} {M : Mm} {ck sk : Nat} {j : Nat} (hdec0 : decode q.2.1 pc = .ok (.ldc j, 2)) (h : ∃ v, P_kc q.2.2.2.2.1 j = some v ∧ V (pc + 2) lv (.int v :: st) M ck sk) : V pc lv st M ck sk := by
  subst hV
  have hx := X.1.1
  have hb := X.1.2.1
  have hml := X.1.2.2.1
  have hown := X.1.2.2.2.1
  have hts := X.1.2.2.2.2
  obtain ⟨v, hv, h⟩ := h; intro H locs ls hP hS hl; exact lv_ldc hx hb hown (hts _ (P_kc_ok hv)) hdec0 (h H locs ls hP hS hl)
theorem vs_ldc_w (X : Cx p l R s m args meth c D cA B d q mc ms) {V : V_T} (hV : V = VV p l e R s m args below meth c D cA B q Q) {pc : Nat} {lv : List (Nat × Value)} {st : List Value} {M : Mm} {ck sk : Nat} {j : Nat} (hdec0 : decode q.2.1 pc = .ok (.ldc_w j, 3)) (h : ∃ v, P_kc q.2.2.2.2.1 j = some v ∧ V (pc + 3) lv (.int v :: st) M ck sk) : V pc lv st M ck sk := by
  subst hV
  have hx := X.1.1
  have hb := X.1.2.1
  have hml := X.1.2.2.1
  have hown := X.1.2.2.2.1
  have hts := X.1.2.2.2.2
  obtain ⟨v, hv, h⟩ := h; intro H locs ls hP hS hl; exact lv_ldcw hx hb hown (hts _ (P_kc_ok hv)) hdec0 (h H locs ls hP hS hl)
theorem vs_ldc2_w (X : Cx p l R s m args meth c D cA B d q mc ms) {V : V_T} (hV : V = VV p l e R s m args below meth c D cA B q Q) {pc : Nat} {lv : List (Nat × Value)} {st : List Value} {M : Mm} {ck sk : Nat} {j : Nat} (hdec0 : decode q.2.1 pc = .ok (.ldc2_w j, 3)) (h : ∃ v, P_kl q.2.2.2.2.1 j = some v ∧ V (pc + 3) lv (.long v :: st) M ck sk) : V pc lv st M ck sk := by
  subst hV
  have hx := X.1.1
  have hb := X.1.2.1
  have hml := X.1.2.2.1
  have hown := X.1.2.2.2.1
  have hts := X.1.2.2.2.2
  obtain ⟨v, hv, h⟩ := h; intro H locs ls hP hS hl; exact lv_ldc2 hx hb hown (hts _ (P_kl_ok hv)) hdec0 (h H locs ls hP hS hl)
theorem vs_istore (X : Cx p l R s m args meth c D cA B d q mc ms) {V : V_T} (hV : V = VV p l e R s m args below meth c D cA B q Q) {pc : Nat} {lv : List (Nat × Value)} {st : List Value} {M : Mm} {ck sk : Nat} {j : Nat} (hdec0 : decode q.2.1 pc = .ok (.istore j, 2)) (h : p1 st fun x r => j < q.2.2.1 ∧ V (pc + 2) (s1 lv j (.int x)) r M ck sk) : V pc lv st M ck sk := by
  subst hV
  have hx := X.1.1
  have hb := X.1.2.1
  have hml := X.1.2.2.1
  have hown := X.1.2.2.2.1
  have hts := X.1.2.2.2.2
  obtain ⟨x, r, rfl, hj, h⟩ := h; intro H locs ls hP hS hl; exact lv_istore hx hb hdec0 hl hj rfl (fun ls' hl' => h H locs ls' hP hS hl')
theorem vs_istore_n (X : Cx p l R s m args meth c D cA B d q mc ms) {V : V_T} (hV : V = VV p l e R s m args below meth c D cA B q Q) {pc : Nat} {lv : List (Nat × Value)} {st : List Value} {M : Mm} {ck sk : Nat} {j : Fin 4} (hdec0 : decode q.2.1 pc = .ok (.istore_n j, 1)) (h : p1 st fun x r => j.val < q.2.2.1 ∧ V (pc + 1) (s1 lv j.val (.int x)) r M ck sk) : V pc lv st M ck sk := by
  subst hV
  have hx := X.1.1
  have hb := X.1.2.1
  have hml := X.1.2.2.1
  have hown := X.1.2.2.2.1
  have hts := X.1.2.2.2.2
  obtain ⟨x, r, rfl, hj, h⟩ := h; intro H locs ls hP hS hl; exact lv_istore_n hx hb hdec0 rfl hl hj rfl (fun ls' hl' => h H locs ls' hP hS hl')
theorem vs_astore (X : Cx p l R s m args meth c D cA B d q mc ms) {V : V_T} (hV : V = VV p l e R s m args below meth c D cA B q Q) {pc : Nat} {lv : List (Nat × Value)} {st : List Value} {M : Mm} {ck sk : Nat} {j : Nat} (hdec0 : decode q.2.1 pc = .ok (.astore j, 2)) (h : r1 st fun x r => j < q.2.2.1 ∧ V (pc + 2) (s1 lv j (va_rf x)) r M ck sk) : V pc lv st M ck sk := by
  subst hV
  have hx := X.1.1
  have hb := X.1.2.1
  have hml := X.1.2.2.1
  have hown := X.1.2.2.2.1
  have hts := X.1.2.2.2.2
  obtain ⟨x, r, rfl, hj, h⟩ := h; intro H locs ls hP hS hl; cases x with
  | none => exact lv_astoreN hx hb hdec0 hl hj rfl (fun ls' hl' => h H locs ls' hP hS hl')
  | some a => exact lv_astore hx hb hdec0 hl hj rfl (fun ls' hl' => h H locs ls' hP hS hl')
theorem vs_astore_n (X : Cx p l R s m args meth c D cA B d q mc ms) {V : V_T} (hV : V = VV p l e R s m args below meth c D cA B q Q) {pc : Nat} {lv : List (Nat × Value)} {st : List Value} {M : Mm} {ck sk : Nat} {j : Fin 4} (hdec0 : decode q.2.1 pc = .ok (.astore_n j, 1)) (h : r1 st fun x r => j.val < q.2.2.1 ∧ V (pc + 1) (s1 lv j.val (va_rf x)) r M ck sk) : V pc lv st M ck sk := by
  subst hV
  have hx := X.1.1
  have hb := X.1.2.1
  have hml := X.1.2.2.1
  have hown := X.1.2.2.2.1
  have hts := X.1.2.2.2.2
  obtain ⟨x, r, rfl, hj, h⟩ := h; intro H locs ls hP hS hl; cases x with
  | none => exact lv_astore_nN hx hb hdec0 rfl hl hj rfl (fun ls' hl' => h H locs ls' hP hS hl')
  | some a => exact lv_astore_n hx hb hdec0 rfl hl hj rfl (fun ls' hl' => h H locs ls' hP hS hl')
theorem vs_lstore (X : Cx p l R s m args meth c D cA B d q mc ms) {V : V_T} (hV : V = VV p l e R s m args below meth c D cA B q Q) {pc : Nat} {lv : List (Nat × Value)} {st : List Value} {M : Mm} {ck sk : Nat} {j : Nat} (hdec0 : decode q.2.1 pc = .ok (.lstore j, 2)) (h : q1 st fun x r => j + 1 < q.2.2.1 ∧ V (pc + 2) (s2 lv j (.long x)) r M ck sk) : V pc lv st M ck sk := by
  subst hV
  have hx := X.1.1
  have hb := X.1.2.1
  have hml := X.1.2.2.1
  have hown := X.1.2.2.2.1
  have hts := X.1.2.2.2.2
  obtain ⟨x, r, rfl, hj, h⟩ := h; intro H locs ls hP hS hl; exact lv_lstore hx hb hdec0 hl hj rfl (fun ls' hl' => h H locs ls' hP hS hl')
theorem vs_lstore_n (X : Cx p l R s m args meth c D cA B d q mc ms) {V : V_T} (hV : V = VV p l e R s m args below meth c D cA B q Q) {pc : Nat} {lv : List (Nat × Value)} {st : List Value} {M : Mm} {ck sk : Nat} {j : Fin 4} (hdec0 : decode q.2.1 pc = .ok (.lstore_n j, 1)) (h : q1 st fun x r => j.val + 1 < q.2.2.1 ∧ V (pc + 1) (s2 lv j.val (.long x)) r M ck sk) : V pc lv st M ck sk := by
  subst hV
  have hx := X.1.1
  have hb := X.1.2.1
  have hml := X.1.2.2.1
  have hown := X.1.2.2.2.1
  have hts := X.1.2.2.2.2
  obtain ⟨x, r, rfl, hj, h⟩ := h; intro H locs ls hP hS hl; exact lv_lstore_n hx hb hdec0 rfl hl hj rfl (fun ls' hl' => h H locs ls' hP hS hl')
theorem vs_iinc (X : Cx p l R s m args meth c D cA B d q mc ms) {V : V_T} (hV : V = VV p l e R s m args below meth c D cA B q Q) {pc : Nat} {lv : List (Nat × Value)} {st : List Value} {M : Mm} {ck sk : Nat} {j : Nat} {d9 : Int} (hdec0 : decode q.2.1 pc = .ok (.iinc j d9, 3)) (h : ldv lv j fun v => ∃ x, v = .int x ∧ j < q.2.2.1 ∧ V (pc + 3) (s1 lv j (.int (x + Int32.ofInt d9))) st M ck sk) : V pc lv st M ck sk := by
  subst hV
  have hx := X.1.1
  have hb := X.1.2.1
  have hml := X.1.2.2.1
  have hown := X.1.2.2.2.1
  have hts := X.1.2.2.2.2
  obtain ⟨v, hv, x, rfl, hj, h⟩ := h; intro H locs ls hP hS hl; obtain ⟨k9, hk9⟩ := List.getElem?_of_mem (lk_mem hv); exact lv_iinc hx hb hdec0 hl hk9 rfl hj rfl (fun ls' hl' => h H locs ls' hP hS hl')
theorem vs_iadd (X : Cx p l R s m args meth c D cA B d q mc ms) {V : V_T} (hV : V = VV p l e R s m args below meth c D cA B q Q) {pc : Nat} {lv : List (Nat × Value)} {st : List Value} {M : Mm} {ck sk : Nat}  (hdec0 : decode q.2.1 pc = .ok (.iadd, 1)) (h : p2 st fun x y r => V (pc + 1) lv (.int (x + y) :: r) M ck sk) : V pc lv st M ck sk := by
  subst hV
  have hx := X.1.1
  have hb := X.1.2.1
  have hml := X.1.2.2.1
  have hown := X.1.2.2.2.1
  have hts := X.1.2.2.2.2
  obtain ⟨x, y, r, rfl, h⟩ := h; intro H locs ls hP hS hl; exact lv_iadd hx hb hdec0 (h H locs ls hP hS hl)
theorem vs_isub (X : Cx p l R s m args meth c D cA B d q mc ms) {V : V_T} (hV : V = VV p l e R s m args below meth c D cA B q Q) {pc : Nat} {lv : List (Nat × Value)} {st : List Value} {M : Mm} {ck sk : Nat}  (hdec0 : decode q.2.1 pc = .ok (.isub, 1)) (h : p2 st fun x y r => V (pc + 1) lv (.int (x - y) :: r) M ck sk) : V pc lv st M ck sk := by
  subst hV
  have hx := X.1.1
  have hb := X.1.2.1
  have hml := X.1.2.2.1
  have hown := X.1.2.2.2.1
  have hts := X.1.2.2.2.2
  obtain ⟨x, y, r, rfl, h⟩ := h; intro H locs ls hP hS hl; exact lv_isub hx hb hdec0 (h H locs ls hP hS hl)
theorem vs_imul (X : Cx p l R s m args meth c D cA B d q mc ms) {V : V_T} (hV : V = VV p l e R s m args below meth c D cA B q Q) {pc : Nat} {lv : List (Nat × Value)} {st : List Value} {M : Mm} {ck sk : Nat}  (hdec0 : decode q.2.1 pc = .ok (.imul, 1)) (h : p2 st fun x y r => V (pc + 1) lv (.int (x * y) :: r) M ck sk) : V pc lv st M ck sk := by
  subst hV
  have hx := X.1.1
  have hb := X.1.2.1
  have hml := X.1.2.2.1
  have hown := X.1.2.2.2.1
  have hts := X.1.2.2.2.2
  obtain ⟨x, y, r, rfl, h⟩ := h; intro H locs ls hP hS hl; exact lv_imul hx hb hdec0 (h H locs ls hP hS hl)
theorem vs_idiv (X : Cx p l R s m args meth c D cA B d q mc ms) {V : V_T} (hV : V = VV p l e R s m args below meth c D cA B q Q) {pc : Nat} {lv : List (Nat × Value)} {st : List Value} {M : Mm} {ck sk : Nat}  (hdec0 : decode q.2.1 pc = .ok (.idiv, 1)) (h : p2 st fun x y r => ¬ y = 0 ∧ V (pc + 1) lv (.int (x / y) :: r) M ck sk) : V pc lv st M ck sk := by
  subst hV
  have hx := X.1.1
  have hb := X.1.2.1
  have hml := X.1.2.2.1
  have hown := X.1.2.2.2.1
  have hts := X.1.2.2.2.2
  obtain ⟨x, y, r, rfl, h0, h⟩ := h; intro H locs ls hP hS hl; exact lv_idiv hx hb hdec0 h0 (h H locs ls hP hS hl)
theorem vs_irem (X : Cx p l R s m args meth c D cA B d q mc ms) {V : V_T} (hV : V = VV p l e R s m args below meth c D cA B q Q) {pc : Nat} {lv : List (Nat × Value)} {st : List Value} {M : Mm} {ck sk : Nat}  (hdec0 : decode q.2.1 pc = .ok (.irem, 1)) (h : p2 st fun x y r => ¬ y = 0 ∧ V (pc + 1) lv (.int (x - x / y * y) :: r) M ck sk) : V pc lv st M ck sk := by
  subst hV
  have hx := X.1.1
  have hb := X.1.2.1
  have hml := X.1.2.2.1
  have hown := X.1.2.2.2.1
  have hts := X.1.2.2.2.2
  obtain ⟨x, y, r, rfl, h0, h⟩ := h; intro H locs ls hP hS hl; exact lv_irem hx hb hdec0 h0 (h H locs ls hP hS hl)
theorem vs_ineg (X : Cx p l R s m args meth c D cA B d q mc ms) {V : V_T} (hV : V = VV p l e R s m args below meth c D cA B q Q) {pc : Nat} {lv : List (Nat × Value)} {st : List Value} {M : Mm} {ck sk : Nat}  (hdec0 : decode q.2.1 pc = .ok (.ineg, 1)) (h : p1 st fun x r => V (pc + 1) lv (.int (-x) :: r) M ck sk) : V pc lv st M ck sk := by
  subst hV
  have hx := X.1.1
  have hb := X.1.2.1
  have hml := X.1.2.2.1
  have hown := X.1.2.2.2.1
  have hts := X.1.2.2.2.2
  obtain ⟨x, r, rfl, h⟩ := h; intro H locs ls hP hS hl; exact lv_ineg hx hb hdec0 (h H locs ls hP hS hl)
theorem vs_iand (X : Cx p l R s m args meth c D cA B d q mc ms) {V : V_T} (hV : V = VV p l e R s m args below meth c D cA B q Q) {pc : Nat} {lv : List (Nat × Value)} {st : List Value} {M : Mm} {ck sk : Nat}  (hdec0 : decode q.2.1 pc = .ok (.iand, 1)) (h : p2 st fun x y r => V (pc + 1) lv (.int (x &&& y) :: r) M ck sk) : V pc lv st M ck sk := by
  subst hV
  have hx := X.1.1
  have hb := X.1.2.1
  have hml := X.1.2.2.1
  have hown := X.1.2.2.2.1
  have hts := X.1.2.2.2.2
  obtain ⟨x, y, r, rfl, h⟩ := h; intro H locs ls hP hS hl; exact lv_iand hx hb hdec0 (h H locs ls hP hS hl)
theorem vs_ior (X : Cx p l R s m args meth c D cA B d q mc ms) {V : V_T} (hV : V = VV p l e R s m args below meth c D cA B q Q) {pc : Nat} {lv : List (Nat × Value)} {st : List Value} {M : Mm} {ck sk : Nat}  (hdec0 : decode q.2.1 pc = .ok (.ior, 1)) (h : p2 st fun x y r => V (pc + 1) lv (.int (x ||| y) :: r) M ck sk) : V pc lv st M ck sk := by
  subst hV
  have hx := X.1.1
  have hb := X.1.2.1
  have hml := X.1.2.2.1
  have hown := X.1.2.2.2.1
  have hts := X.1.2.2.2.2
  obtain ⟨x, y, r, rfl, h⟩ := h; intro H locs ls hP hS hl; exact lv_ior hx hb hdec0 (h H locs ls hP hS hl)
theorem vs_ixor (X : Cx p l R s m args meth c D cA B d q mc ms) {V : V_T} (hV : V = VV p l e R s m args below meth c D cA B q Q) {pc : Nat} {lv : List (Nat × Value)} {st : List Value} {M : Mm} {ck sk : Nat}  (hdec0 : decode q.2.1 pc = .ok (.ixor, 1)) (h : p2 st fun x y r => V (pc + 1) lv (.int (x ^^^ y) :: r) M ck sk) : V pc lv st M ck sk := by
  subst hV
  have hx := X.1.1
  have hb := X.1.2.1
  have hml := X.1.2.2.1
  have hown := X.1.2.2.2.1
  have hts := X.1.2.2.2.2
  obtain ⟨x, y, r, rfl, h⟩ := h; intro H locs ls hP hS hl; exact lv_ixor hx hb hdec0 (h H locs ls hP hS hl)
theorem vs_ishl (X : Cx p l R s m args meth c D cA B d q mc ms) {V : V_T} (hV : V = VV p l e R s m args below meth c D cA B q Q) {pc : Nat} {lv : List (Nat × Value)} {st : List Value} {M : Mm} {ck sk : Nat}  (hdec0 : decode q.2.1 pc = .ok (.ishl, 1)) (h : p2 st fun x y r => V (pc + 1) lv (.int (x <<< (y &&& 31)) :: r) M ck sk) : V pc lv st M ck sk := by
  subst hV
  have hx := X.1.1
  have hb := X.1.2.1
  have hml := X.1.2.2.1
  have hown := X.1.2.2.2.1
  have hts := X.1.2.2.2.2
  obtain ⟨x, y, r, rfl, h⟩ := h; intro H locs ls hP hS hl; exact lv_ishl hx hb hdec0 (h H locs ls hP hS hl)
theorem vs_ishr (X : Cx p l R s m args meth c D cA B d q mc ms) {V : V_T} (hV : V = VV p l e R s m args below meth c D cA B q Q) {pc : Nat} {lv : List (Nat × Value)} {st : List Value} {M : Mm} {ck sk : Nat}  (hdec0 : decode q.2.1 pc = .ok (.ishr, 1)) (h : p2 st fun x y r => V (pc + 1) lv (.int (x >>> (y &&& 31)) :: r) M ck sk) : V pc lv st M ck sk := by
  subst hV
  have hx := X.1.1
  have hb := X.1.2.1
  have hml := X.1.2.2.1
  have hown := X.1.2.2.2.1
  have hts := X.1.2.2.2.2
  obtain ⟨x, y, r, rfl, h⟩ := h; intro H locs ls hP hS hl; exact lv_ishr hx hb hdec0 (h H locs ls hP hS hl)
theorem vs_iushr (X : Cx p l R s m args meth c D cA B d q mc ms) {V : V_T} (hV : V = VV p l e R s m args below meth c D cA B q Q) {pc : Nat} {lv : List (Nat × Value)} {st : List Value} {M : Mm} {ck sk : Nat}  (hdec0 : decode q.2.1 pc = .ok (.iushr, 1)) (h : p2 st fun x y r => V (pc + 1) lv (.int (x.toUInt32 >>> (y.toUInt32 &&& Int32.toUInt32 31)).toInt32 :: r) M ck sk) : V pc lv st M ck sk := by
  subst hV
  have hx := X.1.1
  have hb := X.1.2.1
  have hml := X.1.2.2.1
  have hown := X.1.2.2.2.1
  have hts := X.1.2.2.2.2
  obtain ⟨x, y, r, rfl, h⟩ := h; intro H locs ls hP hS hl; exact lv_iushr hx hb hdec0 rfl (h H locs ls hP hS hl)
theorem vs_i2l (X : Cx p l R s m args meth c D cA B d q mc ms) {V : V_T} (hV : V = VV p l e R s m args below meth c D cA B q Q) {pc : Nat} {lv : List (Nat × Value)} {st : List Value} {M : Mm} {ck sk : Nat}  (hdec0 : decode q.2.1 pc = .ok (.i2l, 1)) (h : p1 st fun x r => V (pc + 1) lv (.long x.toInt64 :: r) M ck sk) : V pc lv st M ck sk := by
  subst hV
  have hx := X.1.1
  have hb := X.1.2.1
  have hml := X.1.2.2.1
  have hown := X.1.2.2.2.1
  have hts := X.1.2.2.2.2
  obtain ⟨x, r, rfl, h⟩ := h; intro H locs ls hP hS hl; exact lv_i2l hx hb hdec0 rfl (h H locs ls hP hS hl)
theorem vs_i2b (X : Cx p l R s m args meth c D cA B d q mc ms) {V : V_T} (hV : V = VV p l e R s m args below meth c D cA B q Q) {pc : Nat} {lv : List (Nat × Value)} {st : List Value} {M : Mm} {ck sk : Nat}  (hdec0 : decode q.2.1 pc = .ok (.i2b, 1)) (h : p1 st fun x r => V (pc + 1) lv (.int x.toInt8.toInt32 :: r) M ck sk) : V pc lv st M ck sk := by
  subst hV
  have hx := X.1.1
  have hb := X.1.2.1
  have hml := X.1.2.2.1
  have hown := X.1.2.2.2.1
  have hts := X.1.2.2.2.2
  obtain ⟨x, r, rfl, h⟩ := h; intro H locs ls hP hS hl; exact lv_i2b hx hb hdec0 rfl (h H locs ls hP hS hl)
theorem vs_l2i (X : Cx p l R s m args meth c D cA B d q mc ms) {V : V_T} (hV : V = VV p l e R s m args below meth c D cA B q Q) {pc : Nat} {lv : List (Nat × Value)} {st : List Value} {M : Mm} {ck sk : Nat}  (hdec0 : decode q.2.1 pc = .ok (.l2i, 1)) (h : q1 st fun x r => V (pc + 1) lv (.int x.toInt32 :: r) M ck sk) : V pc lv st M ck sk := by
  subst hV
  have hx := X.1.1
  have hb := X.1.2.1
  have hml := X.1.2.2.1
  have hown := X.1.2.2.2.1
  have hts := X.1.2.2.2.2
  obtain ⟨x, r, rfl, h⟩ := h; intro H locs ls hP hS hl; exact lv_l2i hx hb hdec0 rfl (h H locs ls hP hS hl)
theorem vs_ladd (X : Cx p l R s m args meth c D cA B d q mc ms) {V : V_T} (hV : V = VV p l e R s m args below meth c D cA B q Q) {pc : Nat} {lv : List (Nat × Value)} {st : List Value} {M : Mm} {ck sk : Nat}  (hdec0 : decode q.2.1 pc = .ok (.ladd, 1)) (h : q2 st fun x y r => V (pc + 1) lv (.long (x + y) :: r) M ck sk) : V pc lv st M ck sk := by
  subst hV
  have hx := X.1.1
  have hb := X.1.2.1
  have hml := X.1.2.2.1
  have hown := X.1.2.2.2.1
  have hts := X.1.2.2.2.2
  obtain ⟨x, y, r, rfl, h⟩ := h; intro H locs ls hP hS hl; exact lv_ladd hx hb hdec0 (h H locs ls hP hS hl)
theorem vs_lsub (X : Cx p l R s m args meth c D cA B d q mc ms) {V : V_T} (hV : V = VV p l e R s m args below meth c D cA B q Q) {pc : Nat} {lv : List (Nat × Value)} {st : List Value} {M : Mm} {ck sk : Nat}  (hdec0 : decode q.2.1 pc = .ok (.lsub, 1)) (h : q2 st fun x y r => V (pc + 1) lv (.long (x - y) :: r) M ck sk) : V pc lv st M ck sk := by
  subst hV
  have hx := X.1.1
  have hb := X.1.2.1
  have hml := X.1.2.2.1
  have hown := X.1.2.2.2.1
  have hts := X.1.2.2.2.2
  obtain ⟨x, y, r, rfl, h⟩ := h; intro H locs ls hP hS hl; exact lv_lsub hx hb hdec0 (h H locs ls hP hS hl)
theorem vs_lmul (X : Cx p l R s m args meth c D cA B d q mc ms) {V : V_T} (hV : V = VV p l e R s m args below meth c D cA B q Q) {pc : Nat} {lv : List (Nat × Value)} {st : List Value} {M : Mm} {ck sk : Nat}  (hdec0 : decode q.2.1 pc = .ok (.lmul, 1)) (h : q2 st fun x y r => V (pc + 1) lv (.long (x * y) :: r) M ck sk) : V pc lv st M ck sk := by
  subst hV
  have hx := X.1.1
  have hb := X.1.2.1
  have hml := X.1.2.2.1
  have hown := X.1.2.2.2.1
  have hts := X.1.2.2.2.2
  obtain ⟨x, y, r, rfl, h⟩ := h; intro H locs ls hP hS hl; exact lv_lmul hx hb hdec0 (h H locs ls hP hS hl)
theorem vs_ldiv (X : Cx p l R s m args meth c D cA B d q mc ms) {V : V_T} (hV : V = VV p l e R s m args below meth c D cA B q Q) {pc : Nat} {lv : List (Nat × Value)} {st : List Value} {M : Mm} {ck sk : Nat}  (hdec0 : decode q.2.1 pc = .ok (.ldiv, 1)) (h : q2 st fun x y r => ¬ y = 0 ∧ V (pc + 1) lv (.long (x / y) :: r) M ck sk) : V pc lv st M ck sk := by
  subst hV
  have hx := X.1.1
  have hb := X.1.2.1
  have hml := X.1.2.2.1
  have hown := X.1.2.2.2.1
  have hts := X.1.2.2.2.2
  obtain ⟨x, y, r, rfl, h0, h⟩ := h; intro H locs ls hP hS hl; exact lv_ldiv hx hb hdec0 h0 (h H locs ls hP hS hl)
theorem vs_lrem (X : Cx p l R s m args meth c D cA B d q mc ms) {V : V_T} (hV : V = VV p l e R s m args below meth c D cA B q Q) {pc : Nat} {lv : List (Nat × Value)} {st : List Value} {M : Mm} {ck sk : Nat}  (hdec0 : decode q.2.1 pc = .ok (.lrem, 1)) (h : q2 st fun x y r => ¬ y = 0 ∧ V (pc + 1) lv (.long (x - x / y * y) :: r) M ck sk) : V pc lv st M ck sk := by
  subst hV
  have hx := X.1.1
  have hb := X.1.2.1
  have hml := X.1.2.2.1
  have hown := X.1.2.2.2.1
  have hts := X.1.2.2.2.2
  obtain ⟨x, y, r, rfl, h0, h⟩ := h; intro H locs ls hP hS hl; exact lv_lrem hx hb hdec0 h0 (h H locs ls hP hS hl)
theorem vs_lxor (X : Cx p l R s m args meth c D cA B d q mc ms) {V : V_T} (hV : V = VV p l e R s m args below meth c D cA B q Q) {pc : Nat} {lv : List (Nat × Value)} {st : List Value} {M : Mm} {ck sk : Nat}  (hdec0 : decode q.2.1 pc = .ok (.lxor, 1)) (h : q2 st fun x y r => V (pc + 1) lv (.long (x ^^^ y) :: r) M ck sk) : V pc lv st M ck sk := by
  subst hV
  have hx := X.1.1
  have hb := X.1.2.1
  have hml := X.1.2.2.1
  have hown := X.1.2.2.2.1
  have hts := X.1.2.2.2.2
  obtain ⟨x, y, r, rfl, h⟩ := h; intro H locs ls hP hS hl; exact lv_lxor hx hb hdec0 (h H locs ls hP hS hl)
theorem vs_lneg (X : Cx p l R s m args meth c D cA B d q mc ms) {V : V_T} (hV : V = VV p l e R s m args below meth c D cA B q Q) {pc : Nat} {lv : List (Nat × Value)} {st : List Value} {M : Mm} {ck sk : Nat}  (hdec0 : decode q.2.1 pc = .ok (.lneg, 1)) (h : q1 st fun x r => V (pc + 1) lv (.long (-x) :: r) M ck sk) : V pc lv st M ck sk := by
  subst hV
  have hx := X.1.1
  have hb := X.1.2.1
  have hml := X.1.2.2.1
  have hown := X.1.2.2.2.1
  have hts := X.1.2.2.2.2
  obtain ⟨x, r, rfl, h⟩ := h; intro H locs ls hP hS hl; exact lv_lneg hx hb hdec0 (h H locs ls hP hS hl)
theorem vs_lcmp (X : Cx p l R s m args meth c D cA B d q mc ms) {V : V_T} (hV : V = VV p l e R s m args below meth c D cA B q Q) {pc : Nat} {lv : List (Nat × Value)} {st : List Value} {M : Mm} {ck sk : Nat}  (hdec0 : decode q.2.1 pc = .ok (.lcmp, 1)) (h : q2 st fun x y r => V (pc + 1) lv (.int (lg_cmp x y) :: r) M ck sk) : V pc lv st M ck sk := by
  subst hV
  have hx := X.1.1
  have hb := X.1.2.1
  have hml := X.1.2.2.1
  have hown := X.1.2.2.2.1
  have hts := X.1.2.2.2.2
  obtain ⟨x, y, r, rfl, h⟩ := h; intro H locs ls hP hS hl; exact W.lcmp hx hb hdec0 (h H locs ls hP hS hl)
theorem vs_pop (X : Cx p l R s m args meth c D cA B d q mc ms) {V : V_T} (hV : V = VV p l e R s m args below meth c D cA B q Q) {pc : Nat} {lv : List (Nat × Value)} {st : List Value} {M : Mm} {ck sk : Nat}  (hdec0 : decode q.2.1 pc = .ok (.pop, 1)) (h : ∃ v r, st = v :: r ∧ v.category = 1 ∧ V (pc + 1) lv r M ck sk) : V pc lv st M ck sk := by
  subst hV
  have hx := X.1.1
  have hb := X.1.2.1
  have hml := X.1.2.2.1
  have hown := X.1.2.2.2.1
  have hts := X.1.2.2.2.2
  obtain ⟨v, r, rfl, hv, h⟩ := h; intro H locs ls hP hS hl; exact lv_pop hx hb hdec0 hv (h H locs ls hP hS hl)
theorem vs_dup (X : Cx p l R s m args meth c D cA B d q mc ms) {V : V_T} (hV : V = VV p l e R s m args below meth c D cA B q Q) {pc : Nat} {lv : List (Nat × Value)} {st : List Value} {M : Mm} {ck sk : Nat}  (hdec0 : decode q.2.1 pc = .ok (.dup, 1)) (h : ∃ v r, st = v :: r ∧ v.category = 1 ∧ V (pc + 1) lv (v :: v :: r) M ck sk) : V pc lv st M ck sk := by
  subst hV
  have hx := X.1.1
  have hb := X.1.2.1
  have hml := X.1.2.2.1
  have hown := X.1.2.2.2.1
  have hts := X.1.2.2.2.2
  obtain ⟨v, r, rfl, hv, h⟩ := h; intro H locs ls hP hS hl; exact lv_dup hx hb hdec0 hv (h H locs ls hP hS hl)
theorem vs_dup2 (X : Cx p l R s m args meth c D cA B d q mc ms) {V : V_T} (hV : V = VV p l e R s m args below meth c D cA B q Q) {pc : Nat} {lv : List (Nat × Value)} {st : List Value} {M : Mm} {ck sk : Nat}  (hdec0 : decode q.2.1 pc = .ok (.dup2, 1)) (h : ∃ v w r, st = v :: w :: r ∧ v.category = 1 ∧ w.category = 1 ∧ V (pc + 1) lv (v :: w :: v :: w :: r) M ck sk) : V pc lv st M ck sk := by
  subst hV
  have hx := X.1.1
  have hb := X.1.2.1
  have hml := X.1.2.2.1
  have hown := X.1.2.2.2.1
  have hts := X.1.2.2.2.2
  obtain ⟨v, w, r, rfl, hv, hw, h⟩ := h; intro H locs ls hP hS hl; exact lv_dup2_11 hx hb hdec0 hv hw (h H locs ls hP hS hl)
theorem vs_goto (X : Cx p l R s m args meth c D cA B d q mc ms) {V : V_T} (hV : V = VV p l e R s m args below meth c D cA B q Q) {pc : Nat} {lv : List (Nat × Value)} {st : List Value} {M : Mm} {ck sk : Nat} {off : Int} (hdec0 : decode q.2.1 pc = .ok (.goto off, 3)) (h : 0 ≤ (pc : Int) + off ∧ V (tg pc off) lv st M ck sk) : V pc lv st M ck sk := by
  subst hV
  have hx := X.1.1
  have hb := X.1.2.1
  have hml := X.1.2.2.1
  have hown := X.1.2.2.2.1
  have hts := X.1.2.2.2.2
  obtain ⟨h0, h⟩ := h; intro H locs ls hP hS hl; exact lv_goto hx hb hdec0 (tg_eq h0) (h H locs ls hP hS hl)
theorem vs_ifCond (X : Cx p l R s m args meth c D cA B d q mc ms) {V : V_T} (hV : V = VV p l e R s m args below meth c D cA B q Q) {pc : Nat} {lv : List (Nat × Value)} {st : List Value} {M : Mm} {ck sk : Nat} {c9 : Jvm.ClassFile.Cond} {off : Int} (hdec0 : decode q.2.1 pc = .ok (.ifCond c9 off, 3)) (h : p1 st fun x r => 0 ≤ (pc : Int) + off ∧ (cZ c9 x → V (tg pc off) lv r M ck sk) ∧ (¬ cZ c9 x → V (pc + 3) lv r M ck sk)) : V pc lv st M ck sk := by
  subst hV
  have hx := X.1.1
  have hb := X.1.2.1
  have hml := X.1.2.2.1
  have hown := X.1.2.2.2.1
  have hts := X.1.2.2.2.2
  obtain ⟨x, r, rfl, h0, ht, hf⟩ := h; intro H locs ls hP hS hl
  have hd := hdec0
  cases c9 with
  | eq => exact lv_if_eq hx hb hd (tg_eq h0) (fun z => ht z H locs ls hP hS hl) (fun z => hf z H locs ls hP hS hl)
  | ne => exact lv_if_ne hx hb hd (tg_eq h0) (fun z => ht z H locs ls hP hS hl) (fun z => hf (fun w => w z) H locs ls hP hS hl)
  | lt => exact lv_if_lt hx hb hd (tg_eq h0) (fun z => ht z H locs ls hP hS hl) (fun z => hf z H locs ls hP hS hl)
  | ge => exact lv_if_ge hx hb hd (tg_eq h0) (fun z => ht z H locs ls hP hS hl) (fun z => hf z H locs ls hP hS hl)
  | gt => exact lv_if_gt hx hb hd (tg_eq h0) (fun z => ht z H locs ls hP hS hl) (fun z => hf z H locs ls hP hS hl)
  | le => exact lv_if_le hx hb hd (tg_eq h0) (fun z => ht z H locs ls hP hS hl) (fun z => hf z H locs ls hP hS hl)
theorem vs_if_icmp (X : Cx p l R s m args meth c D cA B d q mc ms) {V : V_T} (hV : V = VV p l e R s m args below meth c D cA B q Q) {pc : Nat} {lv : List (Nat × Value)} {st : List Value} {M : Mm} {ck sk : Nat} {c9 : Jvm.ClassFile.Cond} {off : Int} (hdec0 : decode q.2.1 pc = .ok (.if_icmp c9 off, 3)) (h : p2 st fun x y r => 0 ≤ (pc : Int) + off ∧ (cI c9 x y → V (tg pc off) lv r M ck sk) ∧ (¬ cI c9 x y → V (pc + 3) lv r M ck sk)) : V pc lv st M ck sk := by
  subst hV
  have hx := X.1.1
  have hb := X.1.2.1
  have hml := X.1.2.2.1
  have hown := X.1.2.2.2.1
  have hts := X.1.2.2.2.2
  obtain ⟨x, y, r, rfl, h0, ht, hf⟩ := h; intro H locs ls hP hS hl
  have hd := hdec0
  cases c9 with
  | eq => exact lv_icmp_eq hx hb hd (tg_eq h0) (fun z => ht z H locs ls hP hS hl) (fun z => hf z H locs ls hP hS hl)
  | ne => exact lv_icmp_ne hx hb hd (tg_eq h0) (fun z => ht z H locs ls hP hS hl) (fun z => hf (fun w => w z) H locs ls hP hS hl)
  | lt => exact lv_icmp_lt hx hb hd (tg_eq h0) (fun z => ht z H locs ls hP hS hl) (fun z => hf z H locs ls hP hS hl)
  | ge => exact lv_icmp_ge hx hb hd (tg_eq h0) (fun z => ht z H locs ls hP hS hl) (fun z => hf z H locs ls hP hS hl)
  | gt => exact lv_icmp_gt hx hb hd (tg_eq h0) (fun z => ht z H locs ls hP hS hl) (fun z => hf z H locs ls hP hS hl)
  | le => exact lv_icmp_le hx hb hd (tg_eq h0) (fun z => ht z H locs ls hP hS hl) (fun z => hf z H locs ls hP hS hl)
theorem vs_ifnull (X : Cx p l R s m args meth c D cA B d q mc ms) {V : V_T} (hV : V = VV p l e R s m args below meth c D cA B q Q) {pc : Nat} {lv : List (Nat × Value)} {st : List Value} {M : Mm} {ck sk : Nat} {off : Int} (hdec0 : decode q.2.1 pc = .ok (.ifnull off, 3)) (h : r1 st fun x r => 0 ≤ (pc : Int) + off ∧ (x = none → V (tg pc off) lv r M ck sk) ∧ (∀ a, x = some a → V (pc + 3) lv r M ck sk)) : V pc lv st M ck sk := by
  subst hV
  have hx := X.1.1
  have hb := X.1.2.1
  have hml := X.1.2.2.1
  have hown := X.1.2.2.2.1
  have hts := X.1.2.2.2.2
  obtain ⟨x, r, rfl, h0, hn1, hs1⟩ := h; intro H locs ls hP hS hl
  have hd := hdec0
  cases x with
  | none => exact lv_ifnullN hx hb hd (tg_eq h0) (hn1 rfl H locs ls hP hS hl)
  | some a => exact lv_ifnull hx hb hd (hs1 a rfl H locs ls hP hS hl)
theorem vs_ifnonnull (X : Cx p l R s m args meth c D cA B d q mc ms) {V : V_T} (hV : V = VV p l e R s m args below meth c D cA B q Q) {pc : Nat} {lv : List (Nat × Value)} {st : List Value} {M : Mm} {ck sk : Nat} {off : Int} (hdec0 : decode q.2.1 pc = .ok (.ifnonnull off, 3)) (h : r1 st fun x r => 0 ≤ (pc : Int) + off ∧ (x = none → V (pc + 3) lv r M ck sk) ∧ (∀ a, x = some a → V (tg pc off) lv r M ck sk)) : V pc lv st M ck sk := by
  subst hV
  have hx := X.1.1
  have hb := X.1.2.1
  have hml := X.1.2.2.1
  have hown := X.1.2.2.2.1
  have hts := X.1.2.2.2.2
  obtain ⟨x, r, rfl, h0, hn1, hs1⟩ := h; intro H locs ls hP hS hl
  have hd := hdec0
  cases x with
  | none => exact lv_ifnonnullN hx hb hd (hn1 rfl H locs ls hP hS hl)
  | some a => exact lv_ifnonnull hx hb hd (tg_eq h0) (hs1 a rfl H locs ls hP hS hl)
theorem vs_tableswitch (X : Cx p l R s m args meth c D cA B d q mc ms) {V : V_T} (hV : V = VV p l e R s m args below meth c D cA B q Q) {pc : Nat} {lv : List (Nat × Value)} {st : List Value} {M : Mm} {ck sk : Nat} {d9 lo hi : Int} {offs : Array Int} {n : Nat} (hdec0 : decode q.2.1 pc = .ok (.tableswitch d9 lo hi offs, n)) (h : p1 st fun x r => 0 ≤ (pc : Int) + d9 ∧ (x.toInt < lo ∨ hi < x.toInt → V (tg pc d9) lv r M ck sk) ∧ (¬ x.toInt < lo → ¬ hi < x.toInt → ∃ off, offs[(x.toInt - lo).toNat]? = some off ∧ 0 ≤ (pc : Int) + off ∧ V (tg pc off) lv r M ck sk)) : V pc lv st M ck sk := by
  subst hV
  have hx := X.1.1
  have hb := X.1.2.1
  have hml := X.1.2.2.1
  have hown := X.1.2.2.2.1
  have hts := X.1.2.2.2.2
  obtain ⟨x, r, rfl, h0, hout, hin⟩ := h; intro H locs ls hP hS hl
  by_cases hA : x.toInt < lo ∨ hi < x.toInt
  · exact lv_tableOut hx hb hdec0 hA (tg_eq h0) (hout hA H locs ls hP hS hl)
  · obtain ⟨off, ho, h1, h⟩ := hin (fun z => hA (Or.inl z)) (fun z => hA (Or.inr z))
    exact lv_tableIn hx hb hdec0 (fun z => hA (Or.inl z)) (fun z => hA (Or.inr z)) ho (tg_eq h1) (h H locs ls hP hS hl)
end Main
