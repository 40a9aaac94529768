section Main
variable {p : Program} {l : Launch} {e : Env} {R : Room} {s : State} {m : MethodId} {args : Array Value} {below : List Frame} {meth : Method} {c : Code} {D : va_G} {cA : Nat → ClassId} {B d : Nat} {q : mm_T} {mc ms : Nat} {Q : State → Prop}
theorem vv_step0 (X : Cx p l R s m args meth c D cA B d q mc ms) {Post : Po} (hX : KX p l e R s m args below meth c D cA B q mc ms Q Post) {E : E_T} (IH : ∀ k as M mc ms P, E k as M mc ms P → ∃ y, P_ml[k]? = some y ∧ CT l D cA B d y as M mc ms P)
    (hend : (∀ pc lv x M ck sk, decode q.2.1 pc = .ok (.ireturn, 1) → (q.2.2.2.1 = some .int ∨ q.2.2.2.1 = some .boolean ∧ (x = 0 ∨ x = 1)) → ck ≤ mc → sk ≤ ms → Post (.inl (some (.int x))) M → VV p l e R s m args below meth c D cA B q Q pc lv [.int x] M ck sk)
      ∧ (∀ pc lv x M ck sk, decode q.2.1 pc = .ok (.lreturn, 1) → q.2.2.2.1 = some .long → ck ≤ mc → sk ≤ ms → Post (.inl (some (.long x))) M → VV p l e R s m args below meth c D cA B q Q pc lv [.long x] M ck sk)
      ∧ (∀ pc lv x M ck sk, decode q.2.1 pc = .ok (.areturn, 1) → ((∃ n, q.2.2.2.1 = some (.object n)) ∨ ∃ t, q.2.2.2.1 = some (.array t)) → ck ≤ mc → sk ≤ ms → Post (.inl (some (va_rf x))) M → VV p l e R s m args below meth c D cA B q Q pc lv [va_rf x] M ck sk)
      ∧ (∀ pc lv M ck sk, decode q.2.1 pc = .ok (.return_, 1) → q.2.2.2.1 = none → ck ≤ mc → sk ≤ ms → Post (.inl none) M → VV p l e R s m args below meth c D cA B q Q pc lv [] M ck sk))
    (hthr : ∀ (j ic ee pc : Nat) lv st M ck sk, decode q.2.1 pc = .ok (.new j, 3) → P_xx q.2.2.2.2.1 j = some (ic, ee) → q.2.2.2.2.2.1 = [] → decode q.2.1 (pc + 3) = .ok (.dup, 1) → decode q.2.1 (pc + 4) = .ok (.invokespecial ic, 3) → decode q.2.1 (pc + 7) = .ok (.athrow, 1) → (st.map fun v => v.category).sum ≤ 8 → ck + 1 ≤ mc → sk + 6 ≤ ms → Post (.inr ee) M → VV p l e R s m args below meth c D cA B q Q pc lv st M ck sk)
    {pc : Nat} {lv : List (Nat × Value)} {st : List Value} {M : Mm} {ck sk : Nat} {i : Instr} {n : Nat} (hdec0 : decode q.2.1 pc = .ok (i, n)) (hall : ∀ z ∈ q.2.2.2.2.2.2, decode q.2.1 z.1 = .ok z.2) (h : sti0 E q mc ms Post (VV p l e R s m args below meth c D cA B q Q) pc lv st M ck sk i n) : VV p l e R s m args below meth c D cA B q Q pc lv st M ck sk := by
  have hx := X.1.1
  have hb := X.1.2.1
  have hml := X.1.2.2.1
  have hown := X.1.2.2.2.1
  have hts := X.1.2.2.2.2
  unfold sti0 at h
  rcases h with ⟨j, rfl, rfl, h⟩ | ⟨j, rfl, rfl, h⟩ | ⟨j, rfl, rfl, h⟩ | ⟨j, rfl, rfl, h⟩ | ⟨j, rfl, rfl, h⟩ | ⟨j, rfl, rfl, h⟩ | ⟨v, rfl, rfl, h⟩ | ⟨v, rfl, rfl, h⟩ | ⟨v, rfl, rfl, h⟩ | ⟨v, rfl, rfl, h⟩
  · exact vs_aload X rfl hdec0 h
  · exact vs_aload_n X rfl hdec0 h
  · exact vs_iload X rfl hdec0 h
  · exact vs_iload_n X rfl hdec0 h
  · exact vs_lload X rfl hdec0 h
  · exact vs_lload_n X rfl hdec0 h
  · exact vs_iconst X rfl hdec0 h
  · exact vs_bipush X rfl hdec0 h
  · exact vs_sipush X rfl hdec0 h
  · exact vs_lconst X rfl hdec0 h
theorem vv_step1 (X : Cx p l R s m args meth c D cA B d q mc ms) {Post : Po} (hX : KX p l e R s m args below meth c D cA B q mc ms Q Post) {E : E_T} (IH : ∀ k as M mc ms P, E k as M mc ms P → ∃ y, P_ml[k]? = some y ∧ CT l D cA B d y as M mc ms P)
    (hend : (∀ pc lv x M ck sk, decode q.2.1 pc = .ok (.ireturn, 1) → (q.2.2.2.1 = some .int ∨ q.2.2.2.1 = some .boolean ∧ (x = 0 ∨ x = 1)) → ck ≤ mc → sk ≤ ms → Post (.inl (some (.int x))) M → VV p l e R s m args below meth c D cA B q Q pc lv [.int x] M ck sk)
      ∧ (∀ pc lv x M ck sk, decode q.2.1 pc = .ok (.lreturn, 1) → q.2.2.2.1 = some .long → ck ≤ mc → sk ≤ ms → Post (.inl (some (.long x))) M → VV p l e R s m args below meth c D cA B q Q pc lv [.long x] M ck sk)
      ∧ (∀ pc lv x M ck sk, decode q.2.1 pc = .ok (.areturn, 1) → ((∃ n, q.2.2.2.1 = some (.object n)) ∨ ∃ t, q.2.2.2.1 = some (.array t)) → ck ≤ mc → sk ≤ ms → Post (.inl (some (va_rf x))) M → VV p l e R s m args below meth c D cA B q Q pc lv [va_rf x] M ck sk)
      ∧ (∀ pc lv M ck sk, decode q.2.1 pc = .ok (.return_, 1) → q.2.2.2.1 = none → ck ≤ mc → sk ≤ ms → Post (.inl none) M → VV p l e R s m args below meth c D cA B q Q pc lv [] M ck sk))
    (hthr : ∀ (j ic ee pc : Nat) lv st M ck sk, decode q.2.1 pc = .ok (.new j, 3) → P_xx q.2.2.2.2.1 j = some (ic, ee) → q.2.2.2.2.2.1 = [] → decode q.2.1 (pc + 3) = .ok (.dup, 1) → decode q.2.1 (pc + 4) = .ok (.invokespecial ic, 3) → decode q.2.1 (pc + 7) = .ok (.athrow, 1) → (st.map fun v => v.category).sum ≤ 8 → ck + 1 ≤ mc → sk + 6 ≤ ms → Post (.inr ee) M → VV p l e R s m args below meth c D cA B q Q pc lv st M ck sk)
    {pc : Nat} {lv : List (Nat × Value)} {st : List Value} {M : Mm} {ck sk : Nat} {i : Instr} {n : Nat} (hdec0 : decode q.2.1 pc = .ok (i, n)) (hall : ∀ z ∈ q.2.2.2.2.2.2, decode q.2.1 z.1 = .ok z.2) (h : sti1 E q mc ms Post (VV p l e R s m args below meth c D cA B q Q) pc lv st M ck sk i n) : VV p l e R s m args below meth c D cA B q Q pc lv st M ck sk := by
  have hx := X.1.1
  have hb := X.1.2.1
  have hml := X.1.2.2.1
  have hown := X.1.2.2.2.1
  have hts := X.1.2.2.2.2
  unfold sti1 at h
  rcases h with ⟨rfl, rfl, h⟩ | ⟨j, rfl, rfl, h⟩ | ⟨j, rfl, rfl, h⟩ | ⟨j, rfl, rfl, h⟩ | ⟨j, rfl, rfl, h⟩ | ⟨j, rfl, rfl, h⟩ | ⟨j, rfl, rfl, h⟩ | ⟨j, rfl, rfl, h⟩ | ⟨j, rfl, rfl, h⟩ | ⟨j, rfl, rfl, h⟩
  · exact vs_aconst_null X rfl hdec0 h
  · exact vs_ldc X rfl hdec0 h
  · exact vs_ldc_w X rfl hdec0 h
  · exact vs_ldc2_w X rfl hdec0 h
  · exact vs_istore X rfl hdec0 h
  · exact vs_istore_n X rfl hdec0 h
  · exact vs_astore X rfl hdec0 h
  · exact vs_astore_n X rfl hdec0 h
  · exact vs_lstore X rfl hdec0 h
  · exact vs_lstore_n X rfl hdec0 h
theorem vv_step2 (X : Cx p l R s m args meth c D cA B d q mc ms) {Post : Po} (hX : KX p l e R s m args below meth c D cA B q mc ms Q Post) {E : E_T} (IH : ∀ k as M mc ms P, E k as M mc ms P → ∃ y, P_ml[k]? = some y ∧ CT l D cA B d y as M mc ms P)
    (hend : (∀ pc lv x M ck sk, decode q.2.1 pc = .ok (.ireturn, 1) → (q.2.2.2.1 = some .int ∨ q.2.2.2.1 = some .boolean ∧ (x = 0 ∨ x = 1)) → ck ≤ mc → sk ≤ ms → Post (.inl (some (.int x))) M → VV p l e R s m args below meth c D cA B q Q pc lv [.int x] M ck sk)
      ∧ (∀ pc lv x M ck sk, decode q.2.1 pc = .ok (.lreturn, 1) → q.2.2.2.1 = some .long → ck ≤ mc → sk ≤ ms → Post (.inl (some (.long x))) M → VV p l e R s m args below meth c D cA B q Q pc lv [.long x] M ck sk)
      ∧ (∀ pc lv x M ck sk, decode q.2.1 pc = .ok (.areturn, 1) → ((∃ n, q.2.2.2.1 = some (.object n)) ∨ ∃ t, q.2.2.2.1 = some (.array t)) → ck ≤ mc → sk ≤ ms → Post (.inl (some (va_rf x))) M → VV p l e R s m args below meth c D cA B q Q pc lv [va_rf x] M ck sk)
      ∧ (∀ pc lv M ck sk, decode q.2.1 pc = .ok (.return_, 1) → q.2.2.2.1 = none → ck ≤ mc → sk ≤ ms → Post (.inl none) M → VV p l e R s m args below meth c D cA B q Q pc lv [] M ck sk))
    (hthr : ∀ (j ic ee pc : Nat) lv st M ck sk, decode q.2.1 pc = .ok (.new j, 3) → P_xx q.2.2.2.2.1 j = some (ic, ee) → q.2.2.2.2.2.1 = [] → decode q.2.1 (pc + 3) = .ok (.dup, 1) → decode q.2.1 (pc + 4) = .ok (.invokespecial ic, 3) → decode q.2.1 (pc + 7) = .ok (.athrow, 1) → (st.map fun v => v.category).sum ≤ 8 → ck + 1 ≤ mc → sk + 6 ≤ ms → Post (.inr ee) M → VV p l e R s m args below meth c D cA B q Q pc lv st M ck sk)
    {pc : Nat} {lv : List (Nat × Value)} {st : List Value} {M : Mm} {ck sk : Nat} {i : Instr} {n : Nat} (hdec0 : decode q.2.1 pc = .ok (i, n)) (hall : ∀ z ∈ q.2.2.2.2.2.2, decode q.2.1 z.1 = .ok z.2) (h : sti2 E q mc ms Post (VV p l e R s m args below meth c D cA B q Q) pc lv st M ck sk i n) : VV p l e R s m args below meth c D cA B q Q pc lv st M ck sk := by
  have hx := X.1.1
  have hb := X.1.2.1
  have hml := X.1.2.2.1
  have hown := X.1.2.2.2.1
  have hts := X.1.2.2.2.2
  unfold sti2 at h
  rcases h with ⟨j, dd, rfl, rfl, h⟩ | ⟨rfl, rfl, h⟩ | ⟨rfl, rfl, h⟩ | ⟨rfl, rfl, h⟩ | ⟨rfl, rfl, h⟩ | ⟨rfl, rfl, h⟩ | ⟨rfl, rfl, h⟩ | ⟨rfl, rfl, h⟩ | ⟨rfl, rfl, h⟩ | ⟨rfl, rfl, h⟩
  · exact vs_iinc X rfl hdec0 h
  · exact vs_iadd X rfl hdec0 h
  · exact vs_isub X rfl hdec0 h
  · exact vs_imul X rfl hdec0 h
  · exact vs_idiv X rfl hdec0 h
  · exact vs_irem X rfl hdec0 h
  · exact vs_ineg X rfl hdec0 h
  · exact vs_iand X rfl hdec0 h
  · exact vs_ior X rfl hdec0 h
  · exact vs_ixor X rfl hdec0 h
theorem vv_step3 (X : Cx p l R s m args meth c D cA B d q mc ms) {Post : Po} (hX : KX p l e R s m args below meth c D cA B q mc ms Q Post) {E : E_T} (IH : ∀ k as M mc ms P, E k as M mc ms P → ∃ y, P_ml[k]? = some y ∧ CT l D cA B d y as M mc ms P)
    (hend : (∀ pc lv x M ck sk, decode q.2.1 pc = .ok (.ireturn, 1) → (q.2.2.2.1 = some .int ∨ q.2.2.2.1 = some .boolean ∧ (x = 0 ∨ x = 1)) → ck ≤ mc → sk ≤ ms → Post (.inl (some (.int x))) M → VV p l e R s m args below meth c D cA B q Q pc lv [.int x] M ck sk)
      ∧ (∀ pc lv x M ck sk, decode q.2.1 pc = .ok (.lreturn, 1) → q.2.2.2.1 = some .long → ck ≤ mc → sk ≤ ms → Post (.inl (some (.long x))) M → VV p l e R s m args below meth c D cA B q Q pc lv [.long x] M ck sk)
      ∧ (∀ pc lv x M ck sk, decode q.2.1 pc = .ok (.areturn, 1) → ((∃ n, q.2.2.2.1 = some (.object n)) ∨ ∃ t, q.2.2.2.1 = some (.array t)) → ck ≤ mc → sk ≤ ms → Post (.inl (some (va_rf x))) M → VV p l e R s m args below meth c D cA B q Q pc lv [va_rf x] M ck sk)
      ∧ (∀ pc lv M ck sk, decode q.2.1 pc = .ok (.return_, 1) → q.2.2.2.1 = none → ck ≤ mc → sk ≤ ms → Post (.inl none) M → VV p l e R s m args below meth c D cA B q Q pc lv [] M ck sk))
    (hthr : ∀ (j ic ee pc : Nat) lv st M ck sk, decode q.2.1 pc = .ok (.new j, 3) → P_xx q.2.2.2.2.1 j = some (ic, ee) → q.2.2.2.2.2.1 = [] → decode q.2.1 (pc + 3) = .ok (.dup, 1) → decode q.2.1 (pc + 4) = .ok (.invokespecial ic, 3) → decode q.2.1 (pc + 7) = .ok (.athrow, 1) → (st.map fun v => v.category).sum ≤ 8 → ck + 1 ≤ mc → sk + 6 ≤ ms → Post (.inr ee) M → VV p l e R s m args below meth c D cA B q Q pc lv st M ck sk)
    {pc : Nat} {lv : List (Nat × Value)} {st : List Value} {M : Mm} {ck sk : Nat} {i : Instr} {n : Nat} (hdec0 : decode q.2.1 pc = .ok (i, n)) (hall : ∀ z ∈ q.2.2.2.2.2.2, decode q.2.1 z.1 = .ok z.2) (h : sti3 E q mc ms Post (VV p l e R s m args below meth c D cA B q Q) pc lv st M ck sk i n) : VV p l e R s m args below meth c D cA B q Q pc lv st M ck sk := by
  have hx := X.1.1
  have hb := X.1.2.1
  have hml := X.1.2.2.1
  have hown := X.1.2.2.2.1
  have hts := X.1.2.2.2.2
  unfold sti3 at h
  rcases h with ⟨rfl, rfl, h⟩ | ⟨rfl, rfl, h⟩ | ⟨rfl, rfl, h⟩ | ⟨rfl, rfl, h⟩ | ⟨rfl, rfl, h⟩ | ⟨rfl, rfl, h⟩ | ⟨rfl, rfl, h⟩ | ⟨rfl, rfl, h⟩ | ⟨rfl, rfl, h⟩ | ⟨rfl, rfl, h⟩
  · exact vs_ishl X rfl hdec0 h
  · exact vs_ishr X rfl hdec0 h
  · exact vs_iushr X rfl hdec0 h
  · exact vs_i2l X rfl hdec0 h
  · exact vs_i2b X rfl hdec0 h
  · exact vs_l2i X rfl hdec0 h
  · exact vs_ladd X rfl hdec0 h
  · exact vs_lsub X rfl hdec0 h
  · exact vs_lmul X rfl hdec0 h
  · exact vs_ldiv X rfl hdec0 h
theorem vv_step4 (X : Cx p l R s m args meth c D cA B d q mc ms) {Post : Po} (hX : KX p l e R s m args below meth c D cA B q mc ms Q Post) {E : E_T} (IH : ∀ k as M mc ms P, E k as M mc ms P → ∃ y, P_ml[k]? = some y ∧ CT l D cA B d y as M mc ms P)
    (hend : (∀ pc lv x M ck sk, decode q.2.1 pc = .ok (.ireturn, 1) → (q.2.2.2.1 = some .int ∨ q.2.2.2.1 = some .boolean ∧ (x = 0 ∨ x = 1)) → ck ≤ mc → sk ≤ ms → Post (.inl (some (.int x))) M → VV p l e R s m args below meth c D cA B q Q pc lv [.int x] M ck sk)
      ∧ (∀ pc lv x M ck sk, decode q.2.1 pc = .ok (.lreturn, 1) → q.2.2.2.1 = some .long → ck ≤ mc → sk ≤ ms → Post (.inl (some (.long x))) M → VV p l e R s m args below meth c D cA B q Q pc lv [.long x] M ck sk)
      ∧ (∀ pc lv x M ck sk, decode q.2.1 pc = .ok (.areturn, 1) → ((∃ n, q.2.2.2.1 = some (.object n)) ∨ ∃ t, q.2.2.2.1 = some (.array t)) → ck ≤ mc → sk ≤ ms → Post (.inl (some (va_rf x))) M → VV p l e R s m args below meth c D cA B q Q pc lv [va_rf x] M ck sk)
      ∧ (∀ pc lv M ck sk, decode q.2.1 pc = .ok (.return_, 1) → q.2.2.2.1 = none → ck ≤ mc → sk ≤ ms → Post (.inl none) M → VV p l e R s m args below meth c D cA B q Q pc lv [] M ck sk))
    (hthr : ∀ (j ic ee pc : Nat) lv st M ck sk, decode q.2.1 pc = .ok (.new j, 3) → P_xx q.2.2.2.2.1 j = some (ic, ee) → q.2.2.2.2.2.1 = [] → decode q.2.1 (pc + 3) = .ok (.dup, 1) → decode q.2.1 (pc + 4) = .ok (.invokespecial ic, 3) → decode q.2.1 (pc + 7) = .ok (.athrow, 1) → (st.map fun v => v.category).sum ≤ 8 → ck + 1 ≤ mc → sk + 6 ≤ ms → Post (.inr ee) M → VV p l e R s m args below meth c D cA B q Q pc lv st M ck sk)
    {pc : Nat} {lv : List (Nat × Value)} {st : List Value} {M : Mm} {ck sk : Nat} {i : Instr} {n : Nat} (hdec0 : decode q.2.1 pc = .ok (i, n)) (hall : ∀ z ∈ q.2.2.2.2.2.2, decode q.2.1 z.1 = .ok z.2) (h : sti4 E q mc ms Post (VV p l e R s m args below meth c D cA B q Q) pc lv st M ck sk i n) : VV p l e R s m args below meth c D cA B q Q pc lv st M ck sk := by
  have hx := X.1.1
  have hb := X.1.2.1
  have hml := X.1.2.2.1
  have hown := X.1.2.2.2.1
  have hts := X.1.2.2.2.2
  unfold sti4 at h
  rcases h with ⟨rfl, rfl, h⟩ | ⟨rfl, rfl, h⟩ | ⟨rfl, rfl, h⟩ | ⟨rfl, rfl, h⟩ | ⟨rfl, rfl, h⟩ | ⟨rfl, rfl, h⟩ | ⟨rfl, rfl, h⟩ | ⟨off, rfl, rfl, h⟩ | ⟨cc, off, rfl, rfl, h⟩ | ⟨cc, off, rfl, rfl, h⟩
  · exact vs_lrem X rfl hdec0 h
  · exact vs_lxor X rfl hdec0 h
  · exact vs_lneg X rfl hdec0 h
  · exact vs_lcmp X rfl hdec0 h
  · exact vs_pop X rfl hdec0 h
  · exact vs_dup X rfl hdec0 h
  · exact vs_dup2 X rfl hdec0 h
  · exact vs_goto X rfl hdec0 h
  · exact vs_ifCond X rfl hdec0 h
  · exact vs_if_icmp X rfl hdec0 h
theorem vv_step5 (X : Cx p l R s m args meth c D cA B d q mc ms) {Post : Po} (hX : KX p l e R s m args below meth c D cA B q mc ms Q Post) {E : E_T} (IH : ∀ k as M mc ms P, E k as M mc ms P → ∃ y, P_ml[k]? = some y ∧ CT l D cA B d y as M mc ms P)
    (hend : (∀ pc lv x M ck sk, decode q.2.1 pc = .ok (.ireturn, 1) → (q.2.2.2.1 = some .int ∨ q.2.2.2.1 = some .boolean ∧ (x = 0 ∨ x = 1)) → ck ≤ mc → sk ≤ ms → Post (.inl (some (.int x))) M → VV p l e R s m args below meth c D cA B q Q pc lv [.int x] M ck sk)
      ∧ (∀ pc lv x M ck sk, decode q.2.1 pc = .ok (.lreturn, 1) → q.2.2.2.1 = some .long → ck ≤ mc → sk ≤ ms → Post (.inl (some (.long x))) M → VV p l e R s m args below meth c D cA B q Q pc lv [.long x] M ck sk)
      ∧ (∀ pc lv x M ck sk, decode q.2.1 pc = .ok (.areturn, 1) → ((∃ n, q.2.2.2.1 = some (.object n)) ∨ ∃ t, q.2.2.2.1 = some (.array t)) → ck ≤ mc → sk ≤ ms → Post (.inl (some (va_rf x))) M → VV p l e R s m args below meth c D cA B q Q pc lv [va_rf x] M ck sk)
      ∧ (∀ pc lv M ck sk, decode q.2.1 pc = .ok (.return_, 1) → q.2.2.2.1 = none → ck ≤ mc → sk ≤ ms → Post (.inl none) M → VV p l e R s m args below meth c D cA B q Q pc lv [] M ck sk))
    (hthr : ∀ (j ic ee pc : Nat) lv st M ck sk, decode q.2.1 pc = .ok (.new j, 3) → P_xx q.2.2.2.2.1 j = some (ic, ee) → q.2.2.2.2.2.1 = [] → decode q.2.1 (pc + 3) = .ok (.dup, 1) → decode q.2.1 (pc + 4) = .ok (.invokespecial ic, 3) → decode q.2.1 (pc + 7) = .ok (.athrow, 1) → (st.map fun v => v.category).sum ≤ 8 → ck + 1 ≤ mc → sk + 6 ≤ ms → Post (.inr ee) M → VV p l e R s m args below meth c D cA B q Q pc lv st M ck sk)
    {pc : Nat} {lv : List (Nat × Value)} {st : List Value} {M : Mm} {ck sk : Nat} {i : Instr} {n : Nat} (hdec0 : decode q.2.1 pc = .ok (i, n)) (hall : ∀ z ∈ q.2.2.2.2.2.2, decode q.2.1 z.1 = .ok z.2) (h : sti5 E q mc ms Post (VV p l e R s m args below meth c D cA B q Q) pc lv st M ck sk i n) : VV p l e R s m args below meth c D cA B q Q pc lv st M ck sk := by
  have hx := X.1.1
  have hb := X.1.2.1
  have hml := X.1.2.2.1
  have hown := X.1.2.2.2.1
  have hts := X.1.2.2.2.2
  unfold sti5 at h
  rcases h with ⟨off, rfl, rfl, h⟩ | ⟨off, rfl, rfl, h⟩ | ⟨dd, lo, hi, offs, rfl, h⟩ | ⟨j, rfl, rfl, h⟩ | ⟨j, rfl, rfl, h⟩ | ⟨rfl, rfl, h⟩ | ⟨rfl, rfl, h⟩ | ⟨rfl, rfl, h⟩ | ⟨rfl, rfl, h⟩ | ⟨rfl, rfl, h⟩
  · exact vs_ifnull X rfl hdec0 h
  · exact vs_ifnonnull X rfl hdec0 h
  · exact vs_tableswitch X rfl hdec0 h
  · obtain ⟨a, r, rfl, ci, k, hf, ht, h⟩ := h; exact vv_get X hdec0 hf ht h
  · obtain ⟨v, a, r, rfl, ci, k, hf, ht, hfin, h⟩ := h; exact vv_put X hdec0 hf ht hfin h
  · obtain ⟨a, j, r, rfl, ht, hin, h⟩ := h; exact vv_iald X hdec0 ht hin h
  · obtain ⟨a, j, r, rfl, ht, hin, h⟩ := h; exact vv_lald X hdec0 ht hin h
  · obtain ⟨a, j, r, rfl, ht, hin, h⟩ := h; exact vv_bald X hdec0 ht hin h
  · obtain ⟨a, j, r, rfl, ⟨t, ht4, ht⟩, hin, h⟩ := h; exact vv_aald X hdec0 ht4 ht hin h
  · obtain ⟨x, r', rfl, a, j, r, rfl, ht, hin, h⟩ := h; exact vv_iast X hdec0 ht hin h
theorem vv_step6 (X : Cx p l R s m args meth c D cA B d q mc ms) {Post : Po} (hX : KX p l e R s m args below meth c D cA B q mc ms Q Post) {E : E_T} (IH : ∀ k as M mc ms P, E k as M mc ms P → ∃ y, P_ml[k]? = some y ∧ CT l D cA B d y as M mc ms P)
    (hend : (∀ pc lv x M ck sk, decode q.2.1 pc = .ok (.ireturn, 1) → (q.2.2.2.1 = some .int ∨ q.2.2.2.1 = some .boolean ∧ (x = 0 ∨ x = 1)) → ck ≤ mc → sk ≤ ms → Post (.inl (some (.int x))) M → VV p l e R s m args below meth c D cA B q Q pc lv [.int x] M ck sk)
      ∧ (∀ pc lv x M ck sk, decode q.2.1 pc = .ok (.lreturn, 1) → q.2.2.2.1 = some .long → ck ≤ mc → sk ≤ ms → Post (.inl (some (.long x))) M → VV p l e R s m args below meth c D cA B q Q pc lv [.long x] M ck sk)
      ∧ (∀ pc lv x M ck sk, decode q.2.1 pc = .ok (.areturn, 1) → ((∃ n, q.2.2.2.1 = some (.object n)) ∨ ∃ t, q.2.2.2.1 = some (.array t)) → ck ≤ mc → sk ≤ ms → Post (.inl (some (va_rf x))) M → VV p l e R s m args below meth c D cA B q Q pc lv [va_rf x] M ck sk)
      ∧ (∀ pc lv M ck sk, decode q.2.1 pc = .ok (.return_, 1) → q.2.2.2.1 = none → ck ≤ mc → sk ≤ ms → Post (.inl none) M → VV p l e R s m args below meth c D cA B q Q pc lv [] M ck sk))
    (hthr : ∀ (j ic ee pc : Nat) lv st M ck sk, decode q.2.1 pc = .ok (.new j, 3) → P_xx q.2.2.2.2.1 j = some (ic, ee) → q.2.2.2.2.2.1 = [] → decode q.2.1 (pc + 3) = .ok (.dup, 1) → decode q.2.1 (pc + 4) = .ok (.invokespecial ic, 3) → decode q.2.1 (pc + 7) = .ok (.athrow, 1) → (st.map fun v => v.category).sum ≤ 8 → ck + 1 ≤ mc → sk + 6 ≤ ms → Post (.inr ee) M → VV p l e R s m args below meth c D cA B q Q pc lv st M ck sk)
    {pc : Nat} {lv : List (Nat × Value)} {st : List Value} {M : Mm} {ck sk : Nat} {i : Instr} {n : Nat} (hdec0 : decode q.2.1 pc = .ok (i, n)) (hall : ∀ z ∈ q.2.2.2.2.2.2, decode q.2.1 z.1 = .ok z.2) (h : sti6 E q mc ms Post (VV p l e R s m args below meth c D cA B q Q) pc lv st M ck sk i n) : VV p l e R s m args below meth c D cA B q Q pc lv st M ck sk := by
  have hx := X.1.1
  have hb := X.1.2.1
  have hml := X.1.2.2.1
  have hown := X.1.2.2.2.1
  have hts := X.1.2.2.2.2
  unfold sti6 at h
  rcases h with ⟨rfl, rfl, h⟩ | ⟨rfl, rfl, h⟩ | ⟨rfl, rfl, h⟩ | ⟨rfl, rfl, h⟩ | ⟨j, rfl, rfl, h⟩ | ⟨t, rfl, rfl, h⟩ | ⟨j, rfl, rfl, h⟩ | ⟨j, rfl, rfl, h⟩ | ⟨j, rfl, rfl, h⟩ | ⟨j, rfl, rfl, h⟩
  · obtain ⟨x, r', rfl, a, j, r, rfl, ht, hin, h⟩ := h; exact vv_last X hdec0 ht hin h
  · obtain ⟨x, r', rfl, a, j, r, rfl, ht, hin, h⟩ := h; exact vv_bast X hdec0 ht hin h
  · obtain ⟨b, r', rfl, a, j, r, rfl, ⟨t, ci, ht, htb, htc⟩, hin, h⟩ := h; exact vv_aast X hdec0 ht htb htc hin h
  · obtain ⟨a, r, rfl, ht, h⟩ := h; exact vv_alen X hdec0 ht h
  · rcases h with ⟨ic, ee, hx9, hn0, c3, c4, c7, hcat, h1, h2, hp⟩ | ⟨ci, hn9, h1, h2, h⟩
    · exact hthr j ic ee pc lv st M ck sk hdec0 hx9 hn0 (hall (pc + 3, (.dup, 1)) (cdf_mem c3)) (hall (pc + 4, (.invokespecial ic, 3)) (cdf_mem c4)) (hall (pc + 7, (.athrow, 1)) (cdf_mem c7)) hcat h1 h2 hp
    · exact vv_new X hdec0 hn9 h1 h2 h
  · obtain ⟨z, r, rfl, tt, ht, h0, hz, h1, h2, h⟩ := h; exact vv_newarr X hdec0 ht h0 hz h1 h2 h
  · obtain ⟨z, r, rfl, tt, ci, hn9, ht, h0, hz, h1, h2, h⟩ := h; exact vv_anew X hdec0 hn9 ht h0 hz h1 h2 h
  · obtain ⟨k, na, as, b, r, hm, rfl, hl9, hy, hc⟩ := h; exact vv_callV X hX IH hdec0 hm hl9 hy hc
  · obtain ⟨k, na, as, r, hm, rfl, hl9, hc⟩ := h; exact vv_callS X hX IH hdec0 hm hl9 hc
  · rcases h with ⟨a, r, ho, rfl, hcat, h⟩ | ⟨k, na, as, b, r, hm, rfl, hl9, hy, hc⟩
    · intro H locs ls hP hS hl
      exact W.objInit hx hb hown (hts _ (P_oi_ok ho)) (hts _ wObj_i) (hts _ wObj_c) rfl (hl.1.trans hml.symm) rfl hdec0 (by have := X.2.2.2.2.2.1; omega) (by have := X.2.2.2.2.2.2.1; have := lv_room (m := m) (pc := pc) (ls := ls) (rest := .ref a :: r) hcat; omega) (h H locs ls hP hS hl)
    · exact vv_callI X hX IH hdec0 hm hl9 hy hc
theorem vv_step7 (X : Cx p l R s m args meth c D cA B d q mc ms) {Post : Po} (hX : KX p l e R s m args below meth c D cA B q mc ms Q Post) {E : E_T} (IH : ∀ k as M mc ms P, E k as M mc ms P → ∃ y, P_ml[k]? = some y ∧ CT l D cA B d y as M mc ms P)
    (hend : (∀ pc lv x M ck sk, decode q.2.1 pc = .ok (.ireturn, 1) → (q.2.2.2.1 = some .int ∨ q.2.2.2.1 = some .boolean ∧ (x = 0 ∨ x = 1)) → ck ≤ mc → sk ≤ ms → Post (.inl (some (.int x))) M → VV p l e R s m args below meth c D cA B q Q pc lv [.int x] M ck sk)
      ∧ (∀ pc lv x M ck sk, decode q.2.1 pc = .ok (.lreturn, 1) → q.2.2.2.1 = some .long → ck ≤ mc → sk ≤ ms → Post (.inl (some (.long x))) M → VV p l e R s m args below meth c D cA B q Q pc lv [.long x] M ck sk)
      ∧ (∀ pc lv x M ck sk, decode q.2.1 pc = .ok (.areturn, 1) → ((∃ n, q.2.2.2.1 = some (.object n)) ∨ ∃ t, q.2.2.2.1 = some (.array t)) → ck ≤ mc → sk ≤ ms → Post (.inl (some (va_rf x))) M → VV p l e R s m args below meth c D cA B q Q pc lv [va_rf x] M ck sk)
      ∧ (∀ pc lv M ck sk, decode q.2.1 pc = .ok (.return_, 1) → q.2.2.2.1 = none → ck ≤ mc → sk ≤ ms → Post (.inl none) M → VV p l e R s m args below meth c D cA B q Q pc lv [] M ck sk))
    (hthr : ∀ (j ic ee pc : Nat) lv st M ck sk, decode q.2.1 pc = .ok (.new j, 3) → P_xx q.2.2.2.2.1 j = some (ic, ee) → q.2.2.2.2.2.1 = [] → decode q.2.1 (pc + 3) = .ok (.dup, 1) → decode q.2.1 (pc + 4) = .ok (.invokespecial ic, 3) → decode q.2.1 (pc + 7) = .ok (.athrow, 1) → (st.map fun v => v.category).sum ≤ 8 → ck + 1 ≤ mc → sk + 6 ≤ ms → Post (.inr ee) M → VV p l e R s m args below meth c D cA B q Q pc lv st M ck sk)
    {pc : Nat} {lv : List (Nat × Value)} {st : List Value} {M : Mm} {ck sk : Nat} {i : Instr} {n : Nat} (hdec0 : decode q.2.1 pc = .ok (i, n)) (hall : ∀ z ∈ q.2.2.2.2.2.2, decode q.2.1 z.1 = .ok z.2) (h : sti7 E q mc ms Post (VV p l e R s m args below meth c D cA B q Q) pc lv st M ck sk i n) : VV p l e R s m args below meth c D cA B q Q pc lv st M ck sk := by
  have hx := X.1.1
  have hb := X.1.2.1
  have hml := X.1.2.2.1
  have hown := X.1.2.2.2.1
  have hts := X.1.2.2.2.2
  unfold sti7 at h
  rcases h with ⟨rfl, rfl, h⟩ | ⟨rfl, rfl, h⟩ | ⟨rfl, rfl, h⟩ | ⟨rfl, rfl, h⟩
  · obtain ⟨x, rfl, h1, h2, h3, h4⟩ := h; exact hend.1 pc lv x M ck sk hdec0 h1 h2 h3 h4
  · obtain ⟨x, rfl, h1, h2, h3, h4⟩ := h; exact hend.2.1 pc lv x M ck sk hdec0 h1 h2 h3 h4
  · obtain ⟨x, rfl, h1, h2, h3, h4⟩ := h; exact hend.2.2.1 pc lv x M ck sk hdec0 h1 h2 h3 h4
  · obtain ⟨rfl, h1, h2, h3, h4⟩ := h; exact hend.2.2.2 pc lv M ck sk hdec0 h1 h2 h3 h4
theorem vv_step8 (X : Cx p l R s m args meth c D cA B d q mc ms) {Post : Po} (hX : KX p l e R s m args below meth c D cA B q mc ms Q Post) {E : E_T} (IH : ∀ k as M mc ms P, E k as M mc ms P → ∃ y, P_ml[k]? = some y ∧ CT l D cA B d y as M mc ms P)
    (hend : (∀ pc lv x M ck sk, decode q.2.1 pc = .ok (.ireturn, 1) → (q.2.2.2.1 = some .int ∨ q.2.2.2.1 = some .boolean ∧ (x = 0 ∨ x = 1)) → ck ≤ mc → sk ≤ ms → Post (.inl (some (.int x))) M → VV p l e R s m args below meth c D cA B q Q pc lv [.int x] M ck sk)
      ∧ (∀ pc lv x M ck sk, decode q.2.1 pc = .ok (.lreturn, 1) → q.2.2.2.1 = some .long → ck ≤ mc → sk ≤ ms → Post (.inl (some (.long x))) M → VV p l e R s m args below meth c D cA B q Q pc lv [.long x] M ck sk)
      ∧ (∀ pc lv x M ck sk, decode q.2.1 pc = .ok (.areturn, 1) → ((∃ n, q.2.2.2.1 = some (.object n)) ∨ ∃ t, q.2.2.2.1 = some (.array t)) → ck ≤ mc → sk ≤ ms → Post (.inl (some (va_rf x))) M → VV p l e R s m args below meth c D cA B q Q pc lv [va_rf x] M ck sk)
      ∧ (∀ pc lv M ck sk, decode q.2.1 pc = .ok (.return_, 1) → q.2.2.2.1 = none → ck ≤ mc → sk ≤ ms → Post (.inl none) M → VV p l e R s m args below meth c D cA B q Q pc lv [] M ck sk))
    (hthr : ∀ (j ic ee pc : Nat) lv st M ck sk, decode q.2.1 pc = .ok (.new j, 3) → P_xx q.2.2.2.2.1 j = some (ic, ee) → q.2.2.2.2.2.1 = [] → decode q.2.1 (pc + 3) = .ok (.dup, 1) → decode q.2.1 (pc + 4) = .ok (.invokespecial ic, 3) → decode q.2.1 (pc + 7) = .ok (.athrow, 1) → (st.map fun v => v.category).sum ≤ 8 → ck + 1 ≤ mc → sk + 6 ≤ ms → Post (.inr ee) M → VV p l e R s m args below meth c D cA B q Q pc lv st M ck sk)
    {pc : Nat} {lv : List (Nat × Value)} {st : List Value} {M : Mm} {ck sk : Nat} {i : Instr} {n : Nat} (hdec0 : decode q.2.1 pc = .ok (i, n)) (hall : ∀ z ∈ q.2.2.2.2.2.2, decode q.2.1 z.1 = .ok z.2) (h : sti8 E q mc ms Post (VV p l e R s m args below meth c D cA B q Q) pc lv st M ck sk i n) : VV p l e R s m args below meth c D cA B q Q pc lv st M ck sk := by
  have hx := X.1.1
  have hb := X.1.2.1
  have hml := X.1.2.2.1
  have hown := X.1.2.2.2.1
  have hts := X.1.2.2.2.2
  unfold sti8 at h
  rcases h with ⟨rfl, rfl, ho, z, y, r, rfl, h0, h1, h2, h3, h4, h5, h6⟩ | ⟨j, rfl, rfl, k, b, r, hm, rfl, hc⟩
  · exact vv_mna X hdec0 ho h0 h1 h2 h3 h4 h5 h6
  · exact vv_callN X hX IH hdec0 hm hc
theorem vv_step (X : Cx p l R s m args meth c D cA B d q mc ms) {Post : Po} (hX : KX p l e R s m args below meth c D cA B q mc ms Q Post) {E : E_T} (IH : ∀ k as M mc ms P, E k as M mc ms P → ∃ y, P_ml[k]? = some y ∧ CT l D cA B d y as M mc ms P)
    (hend : (∀ pc lv x M ck sk, decode q.2.1 pc = .ok (.ireturn, 1) → (q.2.2.2.1 = some .int ∨ q.2.2.2.1 = some .boolean ∧ (x = 0 ∨ x = 1)) → ck ≤ mc → sk ≤ ms → Post (.inl (some (.int x))) M → VV p l e R s m args below meth c D cA B q Q pc lv [.int x] M ck sk)
      ∧ (∀ pc lv x M ck sk, decode q.2.1 pc = .ok (.lreturn, 1) → q.2.2.2.1 = some .long → ck ≤ mc → sk ≤ ms → Post (.inl (some (.long x))) M → VV p l e R s m args below meth c D cA B q Q pc lv [.long x] M ck sk)
      ∧ (∀ pc lv x M ck sk, decode q.2.1 pc = .ok (.areturn, 1) → ((∃ n, q.2.2.2.1 = some (.object n)) ∨ ∃ t, q.2.2.2.1 = some (.array t)) → ck ≤ mc → sk ≤ ms → Post (.inl (some (va_rf x))) M → VV p l e R s m args below meth c D cA B q Q pc lv [va_rf x] M ck sk)
      ∧ (∀ pc lv M ck sk, decode q.2.1 pc = .ok (.return_, 1) → q.2.2.2.1 = none → ck ≤ mc → sk ≤ ms → Post (.inl none) M → VV p l e R s m args below meth c D cA B q Q pc lv [] M ck sk))
    (hthr : ∀ (j ic ee pc : Nat) lv st M ck sk, decode q.2.1 pc = .ok (.new j, 3) → P_xx q.2.2.2.2.1 j = some (ic, ee) → q.2.2.2.2.2.1 = [] → decode q.2.1 (pc + 3) = .ok (.dup, 1) → decode q.2.1 (pc + 4) = .ok (.invokespecial ic, 3) → decode q.2.1 (pc + 7) = .ok (.athrow, 1) → (st.map fun v => v.category).sum ≤ 8 → ck + 1 ≤ mc → sk + 6 ≤ ms → Post (.inr ee) M → VV p l e R s m args below meth c D cA B q Q pc lv st M ck sk) :
    ∀ pc lv st M ck sk, stp E q mc ms Post (VV p l e R s m args below meth c D cA B q Q) pc lv st M ck sk → VV p l e R s m args below meth c D cA B q Q pc lv st M ck sk := by
  intro pc lv st M ck sk ⟨i, n, hcd, h⟩
  have hall : ∀ z ∈ q.2.2.2.2.2.2, decode q.2.1 z.1 = .ok z.2 := X.2.2.2.2.2.2.2.2.2.2
  have hdec0 : decode q.2.1 pc = .ok (i, n) := hall (pc, (i, n)) (cdf_mem hcd)
  unfold sti at h
  rcases h with h | h | h | h | h | h | h | h | h
  · exact vv_step0 X hX IH hend hthr hdec0 hall h
  · exact vv_step1 X hX IH hend hthr hdec0 hall h
  · exact vv_step2 X hX IH hend hthr hdec0 hall h
  · exact vv_step3 X hX IH hend hthr hdec0 hall h
  · exact vv_step4 X hX IH hend hthr hdec0 hall h
  · exact vv_step5 X hX IH hend hthr hdec0 hall h
  · exact vv_step6 X hX IH hend hthr hdec0 hall h
  · exact vv_step7 X hX IH hend hthr hdec0 hall h
  · exact vv_step8 X hX IH hend hthr hdec0 hall h
end Main
