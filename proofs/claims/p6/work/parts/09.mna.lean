/-! new int[n][k]: the outer array, then its rows, one behind another -/
theorem wMna : Cond.classLink RX5 21 "[[I" ∈ wsL_law := inr5 _ (List.mem_of_getElem? (i := 21) rfl)
theorem Rp.freshAll {D : va_G} {cA : Nat → ClassId} {B : Nat} {M : Mm} {H : Heap} (h : Rp D cA B M H) : ∀ c, H.size ≤ c → mT M c = 0 := by
  intro c hc
  rcases Nat.eq_zero_or_pos (mT M c) with e | e
  · exact e
  · exact absurd (h.2 c (by omega)).2.1 (by omega)
section Mna
variable {p : Program} {l : Launch} {e : Env} {R : Room} {s : State} {m : MethodId} {args : Array Value} {below : List Frame} {meth : Method} {c : Code} {D : va_G} {cA : Nat → ClassId} {B d : Nat} {q : mm_T} {mc ms : Nat} {Q : State → Prop}
theorem vv_mna (X : Cx p l R s m args meth c D cA B d q mc ms) {pc : Nat} {z y : Int32} {lv : List (Nat × Value)} {r : List Value} {M : Mm} {ck sk : Nat} (hd : decode q.2.1 pc = .ok (.multianewarray 21 2, 4)) (ho : q.2.2.2.2.1 = 5) (h0 : ¬ z < 0) (h1 : ¬ y < 0) (hz : z.toNatClampNeg ≤ 1000) (hy : y.toNatClampNeg ≤ 1000) (hc : ck + (1 + z.toNatClampNeg) ≤ mc) (hs : sk + (z.toNatClampNeg + z.toNatClampNeg * y.toNatClampNeg) ≤ ms)
    (h : ∀ b, (∀ c, b ≤ c → mT M c = 0) → VV p l e R s m args below meth c D cA B q Q (pc + 4) lv (.ref b :: r) (sMN M b z.toNatClampNeg y.toNatClampNeg) (ck + (1 + z.toNatClampNeg)) (sk + (z.toNatClampNeg + z.toNatClampNeg * y.toNatClampNeg))) : VV p l e R s m args below meth c D cA B q Q pc lv (.int y :: .int z :: r) M ck sk := by
  intro H locs ls hP hS hl T hT Xs
  obtain ⟨⟨hx, hb, hml, hown, hts⟩, hKK, hB, -, -, -, -, hRc, hRs, -⟩ := X
  subst hRc; subst hRs
  rw [ho] at hown
  have hRA6 : s.vm.findClass ("[" ++ (FieldType.array .int).toString) = some (cA 6) := (hKK.1.2 6 _ (tys_at (by omega))).2
  have hRA0 : s.vm.findClass ("[" ++ FieldType.int.toString) = some (cA 0) := (hKK.1.2 0 _ (tys_at (by omega))).2
  obtain ⟨vm₁, cA9, comp, -, fA, fC, hO, -, X', step⟩ := Xs.multianewarray2F hx hown (ty := .int) (hts _ wMna) (va_AOA.use hKK.2.2.2.2.2.2.2.2.1) (hts _ wArr_int) (g := F0 m pc ls (.int y :: .int z :: r)) rfl (by rw [hb]; exact hd) rfl h0 h1 (by omega) (by show y.toNatClampNeg * 4 ≤ _; omega) (by omega) rfl rfl hc hs
  have e6 : cA9 = cA 6 := Option.some.inj (fA.symm.trans hRA6)
  have e0 : comp = cA 0 := Option.some.inj (fC.symm.trans hRA0)
  subst e6; subst e0
  generalize hF : Jvm.Free.Multi.fill (T.setVm vm₁) (cA 6) (cA 0) z.toNatClampNeg y.toNatClampNeg (defaultValue .int) z.toNatClampNeg = F at X' step
  have hTh : (T.setVm vm₁).heap = H := hT
  obtain ⟨f1, f2, -, -⟩ := Jvm.Free.Multi.fill_facts (T.setVm vm₁) (cA 6) (cA 0) z.toNatClampNeg y.toNatClampNeg (defaultValue .int) z.toNatClampNeg
  rw [hF, hTh] at f1 f2
  have hold : ∀ x : Nat, x < H.size → F.heap[x]? = H[x]? := fun x hx => by
    have := Jvm.Free.Multi.fill_old (T.setVm vm₁) (cA 6) (cA 0) z.toNatClampNeg y.toNatClampNeg (defaultValue .int) (a := x) (by rw [hTh]; exact hx) z.toNatClampNeg
    rw [hF, hTh] at this
    exact this
  have hrow : ∀ j : Nat, j < z.toNatClampNeg → F.heap[H.size + 1 + j]? = some (Jvm.Free.Multi.innerC (cA 0) y.toNatClampNeg (defaultValue .int)) := fun j hj => by
    have := Jvm.Free.Multi.fill_inner (T.setVm vm₁) (cA 6) (cA 0) z.toNatClampNeg y.toNatClampNeg (defaultValue .int) z.toNatClampNeg j hj
    rw [hF, hTh] at this
    exact this
  rw [vr_outer] at f2
  have hin : Jvm.Free.Multi.innerC (cA 0) y.toNatClampNeg (defaultValue .int) = arrV (cA 0) y.toNatClampNeg (fun _ => .int 0) := arrV_new (cA 0) y.toNatClampNeg (.int 0)
  rw [hin] at hrow
  have hR : Rp D cA B (sMN M H.size z.toNatClampNeg y.toNatClampNeg) F.heap := by
    have hB1 := hP.1
    refine ⟨by rw [f1]; omega, fun a ha => ?_⟩
    by_cases e1 : a = H.size
    · subst e1
      have htag : mT (sMN M H.size z.toNatClampNeg y.toNatClampNeg) H.size = 26 := by simp [sMN, mT]
      refine ⟨hB1, by rw [f1]; omega, Or.inr ⟨6, htag, by omega, ?_⟩⟩
      have hsz : mN (sMN M H.size z.toNatClampNeg y.toNatClampNeg) H.size = z.toNatClampNeg := by simp [sMN, mN]
      rw [f2, hsz]
      refine congrArg (fun f => some (arrV (cA 6) z.toNatClampNeg f)) (funext fun j => ?_)
      rw [mv_ref (t := 3) (by omega) htag]
      simp [sMN, mR]
    · by_cases e2 : H.size < a ∧ a ≤ H.size + z.toNatClampNeg
      · have htag : mT (sMN M H.size z.toNatClampNeg y.toNatClampNeg) a = 20 := by simp [sMN, mT, e1, e2]
        have hsz : mN (sMN M H.size z.toNatClampNeg y.toNatClampNeg) a = y.toNatClampNeg := by simp [sMN, mN, e1, e2]
        refine ⟨by omega, by rw [f1]; omega, Or.inr ⟨0, htag, by omega, ?_⟩⟩
        have h9 := hrow (a - H.size - 1) (by omega)
        rw [show H.size + 1 + (a - H.size - 1) = a by omega] at h9
        rw [h9, hsz]
        refine congrArg (fun f => some (arrV (cA 0) y.toNatClampNeg f)) (funext fun j => ?_)
        rw [mv_int htag]
        have e3 : H.size ≤ a ∧ a ≤ H.size + z.toNatClampNeg := by omega
        simp [sMN, mI, e3]
      · have hT9 : mT (sMN M H.size z.toNatClampNeg y.toNatClampNeg) a = mT M a := by simp only [sMN, mT, if_neg e1, if_neg e2]
        have hN9 : mN (sMN M H.size z.toNatClampNeg y.toNatClampNeg) a = mN M a := by simp only [sMN, mN, if_neg e1, if_neg e2]
        have e3 : ¬ (H.size ≤ a ∧ a ≤ H.size + z.toNatClampNeg) := by omega
        have hm : mv (sMN M H.size z.toNatClampNeg y.toNatClampNeg) a = mv M a := by
          funext j
          unfold mv
          rw [hT9]
          unfold wv
          simp only [sMN, mI, mL, mR, if_neg e1, if_neg e2, if_neg e3]
        rw [hT9] at ha
        obtain ⟨g1, g2, g3⟩ := hP.2 a ha
        refine ⟨g1, by rw [f1]; omega, ?_⟩
        rw [hm, hT9, hN9]
        rcases g3 with ⟨ci, r9, e1, e2, e3, e4⟩ | ⟨t', e1, e2, e3⟩
        · exact Or.inl ⟨ci, r9, e1, e2, e3, e4.kept (hold a g2)⟩
        · exact Or.inr ⟨t', e1, e2, by rw [hold a g2]; exact e3⟩
  have hS9 : va_S (fun a => B ≤ a) s.heap F.heap locs := ⟨Nat.le_trans hS.1 (by rw [f1]; omega), fun x h8 h9 => (hold x (Nat.lt_of_lt_of_le h8 hS.1)).trans (hS.2.1 x h8 h9), hS.2.2⟩
  have hW := h H.size hP.freshAll F.heap locs ls hR hS9 hl F rfl
  rw [show T.heap = H from hT] at step
  rw [Nat.add_assoc ck, Nat.add_assoc sk] at X'
  obtain ⟨t, a1, b1⟩ := hW X'
  exact ⟨t, step t a1, b1⟩
end Mna
