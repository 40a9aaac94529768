-- 06.core.lean.txt
section
/-! THE STEPS OVER A TYPED MEMORY: tags, sizes, ints, longs, references, each by its address; what a method does, said by a predicate that is closed under its steps -/
/-! private constructors of nest mates: (own class, index, method) -/
def nn_y : Nat → MethodName := fun k => match k with
  | 57 => yX7_init
  | 58 => yX4_init
  | 94 => yX9_init
  | 111 => yX10_init
  | _ => yX2_init
def niL : List (Nat × Nat × Nat) := [(11, 11, 58), (4, 11, 57), (8, 44, 94), (8, 45, 57), (0, 11, 0), (1, 25, 0), (11, 73, 111), (11, 80, 0)]
def okNi (e : Nat × Nat × Nat) : Prop := ∃ y, P_mq (e.2.2) = some y ∧ y.1 = nn_y e.2.2 ∧ Cond.instanceMethod y.1 ∈ wsL_law ∧ y.1.name = "<init>" ∧ Cond.initialized y.1.cls ∈ wsL_law ∧ (parseMethodDescriptor y.1.desc).map (fun d => d.parameters.length) = some 0 ∧ y.2.2.2.2.2.1 = [] ∧ y.2.2.2.1 = none
set_option maxRecDepth 100000 in
theorem niL_ok : ∀ e ∈ niL, okNi e := List.forall_mem_cons.mpr ⟨⟨_, rfl, rfl, inr3 _ (List.mem_of_getElem? (i := 5) rfl), rfl, inr1 _ (List.mem_of_getElem? (i := 15) rfl), by decide +kernel, rfl, rfl⟩, List.forall_mem_cons.mpr ⟨⟨_, rfl, rfl, inr3 _ (List.mem_of_getElem? (i := 14) rfl), rfl, inr3 _ (List.mem_of_getElem? (i := 10) rfl), by decide +kernel, rfl, rfl⟩, List.forall_mem_cons.mpr ⟨⟨_, rfl, rfl, inr4 _ (List.mem_of_getElem? (i := 18) rfl), rfl, inr4 _ (List.mem_of_getElem? (i := 8) rfl), by decide +kernel, rfl, rfl⟩, List.forall_mem_cons.mpr ⟨⟨_, rfl, rfl, inr3 _ (List.mem_of_getElem? (i := 14) rfl), rfl, inr3 _ (List.mem_of_getElem? (i := 10) rfl), by decide +kernel, rfl, rfl⟩, List.forall_mem_cons.mpr ⟨⟨_, rfl, rfl, inr4 _ (List.mem_of_getElem? (i := 14) rfl), rfl, inr3 _ (List.mem_of_getElem? (i := 1) rfl), by decide +kernel, rfl, rfl⟩, List.forall_mem_cons.mpr ⟨⟨_, rfl, rfl, inr4 _ (List.mem_of_getElem? (i := 14) rfl), rfl, inr3 _ (List.mem_of_getElem? (i := 1) rfl), by decide +kernel, rfl, rfl⟩, List.forall_mem_cons.mpr ⟨⟨_, rfl, rfl, inr6 _ (List.mem_of_getElem? (i := 22) rfl), rfl, inr2 _ (List.mem_of_getElem? (i := 21) rfl), by decide +kernel, rfl, rfl⟩, List.forall_mem_cons.mpr ⟨⟨_, rfl, rfl, inr4 _ (List.mem_of_getElem? (i := 14) rfl), rfl, inr3 _ (List.mem_of_getElem? (i := 1) rfl), by decide +kernel, rfl, rfl⟩, fun _ h => nomatch h⟩⟩⟩⟩⟩⟩⟩⟩
def P_ni (o i : Nat) : Option Nat := (niL.find? (fun q => Nat.beq q.1 o && Nat.beq q.2.1 i)).map (fun q => q.2.2)
abbrev Mm : Type := (Nat → Nat) × (Nat → Nat) × (Nat → Nat → Int32) × (Nat → Nat → Int64) × (Nat → Nat → Option Nat)
abbrev mT (M : Mm) : Nat → Nat := M.1
abbrev mN (M : Mm) : Nat → Nat := M.2.1
abbrev mI (M : Mm) : Nat → Nat → Int32 := M.2.2.1
abbrev mL (M : Mm) : Nat → Nat → Int64 := M.2.2.2.1
abbrev mR (M : Mm) : Nat → Nat → Option Nat := M.2.2.2.2
def u1 {α : Type} (f : Nat → α) (a : Nat) (x : α) : Nat → α := fun b => if b = a then x else f b
def u2 {α : Type} (f : Nat → Nat → α) (a k : Nat) (x : α) : Nat → Nat → α := fun b j => if b = a ∧ j = k then x else f b j
def sI (M : Mm) (a k : Nat) (x : Int32) : Mm := (M.1, M.2.1, u2 M.2.2.1 a k x, M.2.2.2.1, M.2.2.2.2)
def sL (M : Mm) (a k : Nat) (x : Int64) : Mm := (M.1, M.2.1, M.2.2.1, u2 M.2.2.2.1 a k x, M.2.2.2.2)
def sR (M : Mm) (a k : Nat) (x : Option Nat) : Mm := (M.1, M.2.1, M.2.2.1, M.2.2.2.1, u2 M.2.2.2.2 a k x)
def sN (M : Mm) (a t n : Nat) : Mm := (u1 M.1 a t, u1 M.2.1 a n, u1 M.2.2.1 a (fun _ => 0), u1 M.2.2.2.1 a (fun _ => 0), u1 M.2.2.2.2 a (fun _ => none))
def kt (t : FieldType) : Nat := match t with
  | .long => 1
  | .object _ => 2
  | .array _ => 2
  | _ => 0
/-- the arrays' kinds: tag 20 + t -/
def aT (t : Nat) : FieldType := match t with
  | 0 => .int
  | 1 => .long
  | 2 => .byte
  | 3 => .object RX2
  | 4 => .object RX9
  | 5 => .object RX7
  | _ => .array .int
def ek (t k : Nat) : Nat := if 20 ≤ t then kt (aT (t - 20)) else kt (P_ty (t - 1) k)
def wv (e : Nat) (M : Mm) (a k : Nat) : Value := match e with
  | 0 => .int (mI M a k)
  | 1 => .long (mL M a k)
  | _ => va_rf (mR M a k)
def mv (M : Mm) (a k : Nat) : Value := wv (ek (mT M a) k) M a k
def Rp (D : va_G) (cA : Nat → ClassId) (B : Nat) (M : Mm) (H : Heap) : Prop :=
  B ≤ H.size ∧ ∀ a, mT M a ≠ 0 → B ≤ a ∧ a < H.size ∧ ((∃ ci r, mT M a = ci + 1 ∧ ci < 13 ∧ vwCl[ci]? = some r ∧ t_OB a (D.1 ci) r.2.2 (D.2 ci) H (mv M a)) ∨ (∃ t, mT M a = 20 + t ∧ t < 7 ∧ H[a]? = some (arrV (cA t) (mN M a) (mv M a))))
abbrev tysA (cA : Nat → ClassId) : List (ClassId × FieldType) := [(cA 0, .int), (cA 1, .long), (cA 2, .byte), (cA 3, .object RX2), (cA 4, .object RX9), (cA 5, .object RX7), (cA 6, .array .int)]
def KK (D : va_G) (cA : Nat → ClassId) (B : Nat) (U : State) : Prop := va_K D vwCl (tysA cA) U ∧ vx_Zq Bundle.tN "UNASSIGNED_STACK" Bundle.steD (fun q => B ≤ q) U U.heap ∧ vx_Zq Bundle.tN "SUPPRESSED_SENTINEL" Bundle.listD (fun q => B ≤ q) U U.heap ∧ (∀ e, e < 5 → ∀ w ∈ P_ng e, va_Nw w U) ∧ (∀ e e', e < 5 → e' < 5 → e ≠ e' → va_Nc (P_ex e) (P_ex e') U) ∧ va_AO RX2 U ∧ va_AO RX9 U ∧ va_AO RX7 U ∧ va_AOA .int U ∧ ∀ e ∈ niL, va_Nw (.methodLinkNest (P_ow e.1) e.2.1 (nn_y e.2.2) RX11) U
def lk (lv : List (Nat × Value)) (i : Nat) : Option Value := (lv.find? (fun q => q.1 == i)).map (fun q => q.2)
def s1 (lv : List (Nat × Value)) (i : Nat) (v : Value) : List (Nat × Value) := (i, v) :: lv.filter (fun q => !(q.1 == i) && !(q.1 + 1 == i && q.2.category == 2))
def s2 (lv : List (Nat × Value)) (i : Nat) (v : Value) : List (Nat × Value) := (i, v) :: lv.filter (fun q => !(q.1 == i) && (!(q.1 == i + 1) && !(q.1 + 1 == i && q.2.category == 2)))
abbrev V_T : Type := Nat → List (Nat × Value) → List Value → Mm → Nat → Nat → Prop
abbrev Po : Type := (Option Value) ⊕ Nat → Mm → Prop
abbrev E_T : Type := Nat → List Value → Mm → Nat → Nat → Po → Prop
def tg (pc : Nat) (off : Int) : Nat := ((pc : Int) + off).toNat
def cI (c : Jvm.ClassFile.Cond) (x y : Int32) : Prop := match c with
  | .eq => x = y
  | .ne => ¬ x = y
  | .lt => x < y
  | .ge => y ≤ x
  | .gt => y < x
  | .le => x ≤ y
def cZ (c : Jvm.ClassFile.Cond) (x : Int32) : Prop := match c with
  | .eq => x = 0
  | .ne => ¬ x = 0
  | .lt => x < 0
  | .ge => 0 ≤ x
  | .gt => 0 < x
  | .le => x ≤ 0
def cdf (l : cl_T) (pc : Nat) : Option (Instr × Nat) := ((l[pc / 32]?).bind (fun B => B.find? (fun q => Nat.beq q.1 pc))).map (fun q => q.2)
def P_fl (o i : Nat) : Option (Nat × Nat) := ((flG[o]?).bind (fun G => (G[i / 16]?).bind (fun B => B.find? (fun q => Nat.beq q.1 o && Nat.beq q.2.1 i)))).map (fun q => q.2.2)
def P_mt (o i : Nat) : Option (Nat × Nat × Nat) := ((mtG[o]?).bind (fun G => (G[i / 16]?).bind (fun B => B.find? (fun q => Nat.beq q.1 o && Nat.beq q.2.1 i)))).map (fun q => q.2.2)
def P_oi (o i : Nat) : Bool := oiL.any (fun q => Nat.beq q.1 o && Nat.beq q.2 i)
def P_nw (o i : Nat) : Option Nat := (nwL.find? (fun q => Nat.beq q.1 o && Nat.beq q.2.1 i)).map (fun q => q.2.2)
def P_xx (o i : Nat) : Option (Nat × Nat) := (exL.find? (fun q => Nat.beq q.1 o && Nat.beq q.2.1 i)).map (fun q => q.2.2)
def P_xc (o i : Nat) : Option Nat := (xcL.find? (fun q => Nat.beq q.1 o && Nat.beq q.2.1 i)).map (fun q => q.2.2)
def P_kc (o i : Nat) : Option Int32 := (kcL.find? (fun q => Nat.beq q.1 o && Nat.beq q.2.1 i)).map (fun q => q.2.2)
def P_kl (o i : Nat) : Option Int64 := (klL.find? (fun q => Nat.beq q.1 o && Nat.beq q.2.1 i)).map (fun q => q.2.2)
def P_sz (ci : Nat) : Nat := match vwCl[ci]? with
  | some r => r.2.2
  | none => 0
/-- the handler of method q for exception e at pc -/
def hnd (q : mm_T) (pc e : Nat) : Option Nat := (q.2.2.2.2.2.1.find? (fun h => Nat.ble h.1 pc && (Nat.blt pc h.2.1 && (P_xc q.2.2.2.2.1 h.2.2.2 == some e)))).map (fun h => h.2.2.1)
/-- a call: the callee's own predicate, its room, what goes on behind it -/
def callc (E : E_T) (q : mm_T) (mc ms : Nat) (Post : Po) (V : V_T) (pc : Nat) (lv : List (Nat × Value)) (r : List Value) (M : Mm) (ck sk : Nat) (k : Nat) (as : List Value) : Prop :=
  ∃ (mc' ms' : Nat) (P' : Po), E k as M mc' ms' P' ∧ ck + mc' ≤ mc ∧ sk + ms' ≤ ms ∧ (r.map fun v => v.category).sum ≤ 8 ∧ (∀ v M', P' (.inl v) M' → V (pc + 3) lv (v.toList ++ r) M' (ck + mc') (sk + ms')) ∧ (∀ e M', P' (.inr e) M' → e < 5 ∧ ((q.2.2.2.2.2.1 = [] ∧ Post (.inr e) M') ∨ ∃ h, hnd q pc e = some h ∧ ∀ b, V h lv [.ref b] M' (ck + mc') (sk + ms')))
def putc (M : Mm) (a k : Nat) (t : FieldType) (v : Value) (K : Mm → Prop) : Prop := match t with
  | .int => ∃ x, v = .int x ∧ K (sI M a k x)
  | .boolean => ∃ x, v = .int x ∧ (x = 0 ∨ x = 1) ∧ K (sI M a k x)
  | .long => ∃ x, v = .long x ∧ K (sL M a k x)
  | .object _ => ∃ x, v = va_rf x ∧ K (sR M a k x)
  | .array _ => ∃ x, v = va_rf x ∧ K (sR M a k x)
  | _ => False
def p1 (st : List Value) (K : Int32 → List Value → Prop) : Prop := ∃ x r, st = .int x :: r ∧ K x r
def p2 (st : List Value) (K : Int32 → Int32 → List Value → Prop) : Prop := ∃ x y r, st = .int y :: .int x :: r ∧ K x y r
def q1 (st : List Value) (K : Int64 → List Value → Prop) : Prop := ∃ x r, st = .long x :: r ∧ K x r
def q2 (st : List Value) (K : Int64 → Int64 → List Value → Prop) : Prop := ∃ x y r, st = .long y :: .long x :: r ∧ K x y r
/-- a reference or null on top -/
def r1 (st : List Value) (K : Option Nat → List Value → Prop) : Prop := ∃ x r, st = va_rf x :: r ∧ K x r
def a1 (st : List Value) (K : Nat → List Value → Prop) : Prop := ∃ a r, st = .ref a :: r ∧ K a r
def a2 (st : List Value) (K : Nat → Int32 → List Value → Prop) : Prop := ∃ a j r, st = .int j :: .ref a :: r ∧ K a j r
def ldv (lv : List (Nat × Value)) (j : Nat) (K : Value → Prop) : Prop := ∃ v, lk lv j = some v ∧ K v
def sti0 (E : E_T) (q : mm_T) (mc ms : Nat) (Post : Po) (V : V_T) (pc : Nat) (lv : List (Nat × Value)) (st : List Value) (M : Mm) (ck sk : Nat) (i : Instr) (n : Nat) : Prop :=
    (∃ j, i = .aload j ∧ n = 2 ∧ (ldv lv j fun v => ∃ x, v = va_rf x ∧ V (pc + 2) lv (v :: st) M ck sk))
    ∨ (∃ j, i = .aload_n j ∧ n = 1 ∧ (ldv lv j.val fun v => ∃ x, v = va_rf x ∧ V (pc + 1) lv (v :: st) M ck sk))
    ∨ (∃ j, i = .iload j ∧ n = 2 ∧ (ldv lv j fun v => ∃ x, v = .int x ∧ V (pc + 2) lv (v :: st) M ck sk))
    ∨ (∃ j, i = .iload_n j ∧ n = 1 ∧ (ldv lv j.val fun v => ∃ x, v = .int x ∧ V (pc + 1) lv (v :: st) M ck sk))
    ∨ (∃ j, i = .lload j ∧ n = 2 ∧ (ldv lv j fun v => ∃ x, v = .long x ∧ V (pc + 2) lv (v :: st) M ck sk))
    ∨ (∃ j, i = .lload_n j ∧ n = 1 ∧ (ldv lv j.val fun v => ∃ x, v = .long x ∧ V (pc + 1) lv (v :: st) M ck sk))
    ∨ (∃ v, i = .iconst v ∧ n = 1 ∧ (V (pc + 1) lv (.int (Int32.ofInt v) :: st) M ck sk))
    ∨ (∃ v, i = .bipush v ∧ n = 2 ∧ (V (pc + 2) lv (.int (Int8.ofInt v).toInt32 :: st) M ck sk))
    ∨ (∃ v, i = .sipush v ∧ n = 3 ∧ (V (pc + 3) lv (.int (Int16.ofInt v).toInt32 :: st) M ck sk))
    ∨ (∃ v, i = .lconst v ∧ n = 1 ∧ (V (pc + 1) lv (.long (Int64.ofNat (v : Nat)) :: st) M ck sk))
def sti1 (E : E_T) (q : mm_T) (mc ms : Nat) (Post : Po) (V : V_T) (pc : Nat) (lv : List (Nat × Value)) (st : List Value) (M : Mm) (ck sk : Nat) (i : Instr) (n : Nat) : Prop :=
    (i = .aconst_null ∧ n = 1 ∧ (V (pc + 1) lv (.null :: st) M ck sk))
    ∨ (∃ j, i = .ldc j ∧ n = 2 ∧ (∃ v, P_kc q.2.2.2.2.1 j = some v ∧ V (pc + 2) lv (.int v :: st) M ck sk))
    ∨ (∃ j, i = .ldc_w j ∧ n = 3 ∧ (∃ v, P_kc q.2.2.2.2.1 j = some v ∧ V (pc + 3) lv (.int v :: st) M ck sk))
    ∨ (∃ j, i = .ldc2_w j ∧ n = 3 ∧ (∃ v, P_kl q.2.2.2.2.1 j = some v ∧ V (pc + 3) lv (.long v :: st) M ck sk))
    ∨ (∃ j, i = .istore j ∧ n = 2 ∧ (p1 st fun x r => j < q.2.2.1 ∧ V (pc + 2) (s1 lv j (.int x)) r M ck sk))
    ∨ (∃ j, i = .istore_n j ∧ n = 1 ∧ (p1 st fun x r => j.val < q.2.2.1 ∧ V (pc + 1) (s1 lv j.val (.int x)) r M ck sk))
    ∨ (∃ j, i = .astore j ∧ n = 2 ∧ (r1 st fun x r => j < q.2.2.1 ∧ V (pc + 2) (s1 lv j (va_rf x)) r M ck sk))
    ∨ (∃ j, i = .astore_n j ∧ n = 1 ∧ (r1 st fun x r => j.val < q.2.2.1 ∧ V (pc + 1) (s1 lv j.val (va_rf x)) r M ck sk))
    ∨ (∃ j, i = .lstore j ∧ n = 2 ∧ (q1 st fun x r => j + 1 < q.2.2.1 ∧ V (pc + 2) (s2 lv j (.long x)) r M ck sk))
    ∨ (∃ j, i = .lstore_n j ∧ n = 1 ∧ (q1 st fun x r => j.val + 1 < q.2.2.1 ∧ V (pc + 1) (s2 lv j.val (.long x)) r M ck sk))
def sti2 (E : E_T) (q : mm_T) (mc ms : Nat) (Post : Po) (V : V_T) (pc : Nat) (lv : List (Nat × Value)) (st : List Value) (M : Mm) (ck sk : Nat) (i : Instr) (n : Nat) : Prop :=
    (∃ j d, i = .iinc j d ∧ n = 3 ∧ (ldv lv j fun v => ∃ x, v = .int x ∧ j < q.2.2.1 ∧ V (pc + 3) (s1 lv j (.int (x + Int32.ofInt d))) st M ck sk))
    ∨ (i = .iadd ∧ n = 1 ∧ (p2 st fun x y r => V (pc + 1) lv (.int (x + y) :: r) M ck sk))
    ∨ (i = .isub ∧ n = 1 ∧ (p2 st fun x y r => V (pc + 1) lv (.int (x - y) :: r) M ck sk))
    ∨ (i = .imul ∧ n = 1 ∧ (p2 st fun x y r => V (pc + 1) lv (.int (x * y) :: r) M ck sk))
    ∨ (i = .idiv ∧ n = 1 ∧ (p2 st fun x y r => ¬ y = 0 ∧ V (pc + 1) lv (.int (x / y) :: r) M ck sk))
    ∨ (i = .irem ∧ n = 1 ∧ (p2 st fun x y r => ¬ y = 0 ∧ V (pc + 1) lv (.int (x - x / y * y) :: r) M ck sk))
    ∨ (i = .ineg ∧ n = 1 ∧ (p1 st fun x r => V (pc + 1) lv (.int (-x) :: r) M ck sk))
    ∨ (i = .iand ∧ n = 1 ∧ (p2 st fun x y r => V (pc + 1) lv (.int (x &&& y) :: r) M ck sk))
    ∨ (i = .ior ∧ n = 1 ∧ (p2 st fun x y r => V (pc + 1) lv (.int (x ||| y) :: r) M ck sk))
    ∨ (i = .ixor ∧ n = 1 ∧ (p2 st fun x y r => V (pc + 1) lv (.int (x ^^^ y) :: r) M ck sk))
def sti3 (E : E_T) (q : mm_T) (mc ms : Nat) (Post : Po) (V : V_T) (pc : Nat) (lv : List (Nat × Value)) (st : List Value) (M : Mm) (ck sk : Nat) (i : Instr) (n : Nat) : Prop :=
    (i = .ishl ∧ n = 1 ∧ (p2 st fun x y r => V (pc + 1) lv (.int (x <<< (y &&& 31)) :: r) M ck sk))
    ∨ (i = .ishr ∧ n = 1 ∧ (p2 st fun x y r => V (pc + 1) lv (.int (x >>> (y &&& 31)) :: r) M ck sk))
    ∨ (i = .iushr ∧ n = 1 ∧ (p2 st fun x y r => V (pc + 1) lv (.int (x.toUInt32 >>> (y.toUInt32 &&& Int32.toUInt32 31)).toInt32 :: r) M ck sk))
    ∨ (i = .i2l ∧ n = 1 ∧ (p1 st fun x r => V (pc + 1) lv (.long x.toInt64 :: r) M ck sk))
    ∨ (i = .i2b ∧ n = 1 ∧ (p1 st fun x r => V (pc + 1) lv (.int x.toInt8.toInt32 :: r) M ck sk))
    ∨ (i = .l2i ∧ n = 1 ∧ (q1 st fun x r => V (pc + 1) lv (.int x.toInt32 :: r) M ck sk))
    ∨ (i = .ladd ∧ n = 1 ∧ (q2 st fun x y r => V (pc + 1) lv (.long (x + y) :: r) M ck sk))
    ∨ (i = .lsub ∧ n = 1 ∧ (q2 st fun x y r => V (pc + 1) lv (.long (x - y) :: r) M ck sk))
    ∨ (i = .lmul ∧ n = 1 ∧ (q2 st fun x y r => V (pc + 1) lv (.long (x * y) :: r) M ck sk))
    ∨ (i = .ldiv ∧ n = 1 ∧ (q2 st fun x y r => ¬ y = 0 ∧ V (pc + 1) lv (.long (x / y) :: r) M ck sk))
def sti4 (E : E_T) (q : mm_T) (mc ms : Nat) (Post : Po) (V : V_T) (pc : Nat) (lv : List (Nat × Value)) (st : List Value) (M : Mm) (ck sk : Nat) (i : Instr) (n : Nat) : Prop :=
    (i = .lrem ∧ n = 1 ∧ (q2 st fun x y r => ¬ y = 0 ∧ V (pc + 1) lv (.long (x - x / y * y) :: r) M ck sk))
    ∨ (i = .lxor ∧ n = 1 ∧ (q2 st fun x y r => V (pc + 1) lv (.long (x ^^^ y) :: r) M ck sk))
    ∨ (i = .lneg ∧ n = 1 ∧ (q1 st fun x r => V (pc + 1) lv (.long (-x) :: r) M ck sk))
    ∨ (i = .lcmp ∧ n = 1 ∧ (q2 st fun x y r => V (pc + 1) lv (.int (lg_cmp x y) :: r) M ck sk))
    ∨ (i = .pop ∧ n = 1 ∧ (∃ v r, st = v :: r ∧ v.category = 1 ∧ V (pc + 1) lv r M ck sk))
    ∨ (i = .dup ∧ n = 1 ∧ (∃ v r, st = v :: r ∧ v.category = 1 ∧ V (pc + 1) lv (v :: v :: r) M ck sk))
    ∨ (i = .dup2 ∧ n = 1 ∧ (∃ v w r, st = v :: w :: r ∧ v.category = 1 ∧ w.category = 1 ∧ V (pc + 1) lv (v :: w :: v :: w :: r) M ck sk))
    ∨ (∃ off, i = .goto off ∧ n = 3 ∧ (0 ≤ (pc : Int) + off ∧ V (tg pc off) lv st M ck sk))
    ∨ (∃ c off, i = .ifCond c off ∧ n = 3 ∧ (p1 st fun x r => 0 ≤ (pc : Int) + off ∧ (cZ c x → V (tg pc off) lv r M ck sk) ∧ (¬ cZ c x → V (pc + 3) lv r M ck sk)))
    ∨ (∃ c off, i = .if_icmp c off ∧ n = 3 ∧ (p2 st fun x y r => 0 ≤ (pc : Int) + off ∧ (cI c x y → V (tg pc off) lv r M ck sk) ∧ (¬ cI c x y → V (pc + 3) lv r M ck sk)))
def sti5 (E : E_T) (q : mm_T) (mc ms : Nat) (Post : Po) (V : V_T) (pc : Nat) (lv : List (Nat × Value)) (st : List Value) (M : Mm) (ck sk : Nat) (i : Instr) (n : Nat) : Prop :=
    (∃ off, i = .ifnull off ∧ n = 3 ∧ (r1 st fun x r => 0 ≤ (pc : Int) + off ∧ (x = none → V (tg pc off) lv r M ck sk) ∧ (∀ a, x = some a → V (pc + 3) lv r M ck sk)))
    ∨ (∃ off, i = .ifnonnull off ∧ n = 3 ∧ (r1 st fun x r => 0 ≤ (pc : Int) + off ∧ (x = none → V (pc + 3) lv r M ck sk) ∧ (∀ a, x = some a → V (tg pc off) lv r M ck sk)))
    ∨ (∃ d lo hi offs, i = .tableswitch d lo hi offs ∧ (p1 st fun x r => 0 ≤ (pc : Int) + d ∧ (x.toInt < lo ∨ hi < x.toInt → V (tg pc d) lv r M ck sk) ∧ (¬ x.toInt < lo → ¬ hi < x.toInt → ∃ off, offs[(x.toInt - lo).toNat]? = some off ∧ 0 ≤ (pc : Int) + off ∧ V (tg pc off) lv r M ck sk)))
    ∨ (∃ j, i = .getfield j ∧ n = 3 ∧ (a1 st fun a r => ∃ ci k, P_fl q.2.2.2.2.1 j = some (ci, k) ∧ mT M a = ci + 1 ∧ V (pc + 3) lv (wv (kt (P_ty ci k)) M a k :: r) M ck sk))
    ∨ (∃ j, i = .putfield j ∧ n = 3 ∧ (∃ v a r, st = v :: .ref a :: r ∧ ∃ ci k, P_fl q.2.2.2.2.1 j = some (ci, k) ∧ mT M a = ci + 1 ∧ (q.1.name = "<init>" ∧ q.2.2.2.2.1 = ci ∨ ((vwCl[ci]?).map (fun r => (r.2.1 k).2.2.2)) = some false) ∧ putc M a k (P_ty ci k) v (fun M' => V (pc + 3) lv r M' ck sk)))
    ∨ (i = .iaload ∧ n = 1 ∧ (a2 st fun a j r => mT M a = 20 ∧ vp_in j (mN M a) ∧ V (pc + 1) lv (.int (mI M a j.toNatClampNeg) :: r) M ck sk))
    ∨ (i = .laload ∧ n = 1 ∧ (a2 st fun a j r => mT M a = 21 ∧ vp_in j (mN M a) ∧ V (pc + 1) lv (.long (mL M a j.toNatClampNeg) :: r) M ck sk))
    ∨ (i = .baload ∧ n = 1 ∧ (a2 st fun a j r => mT M a = 22 ∧ vp_in j (mN M a) ∧ V (pc + 1) lv (.int (mI M a j.toNatClampNeg) :: r) M ck sk))
    ∨ (i = .aaload ∧ n = 1 ∧ (a2 st fun a j r => (∃ t, t < 4 ∧ mT M a = 23 + t) ∧ vp_in j (mN M a) ∧ V (pc + 1) lv (va_rf (mR M a j.toNatClampNeg) :: r) M ck sk))
    ∨ (i = .iastore ∧ n = 1 ∧ (p1 st fun x r' => a2 r' fun a j r => mT M a = 20 ∧ vp_in j (mN M a) ∧ V (pc + 1) lv r (sI M a j.toNatClampNeg x) ck sk))
def sti6 (E : E_T) (q : mm_T) (mc ms : Nat) (Post : Po) (V : V_T) (pc : Nat) (lv : List (Nat × Value)) (st : List Value) (M : Mm) (ck sk : Nat) (i : Instr) (n : Nat) : Prop :=
    (i = .lastore ∧ n = 1 ∧ (q1 st fun x r' => a2 r' fun a j r => mT M a = 21 ∧ vp_in j (mN M a) ∧ V (pc + 1) lv r (sL M a j.toNatClampNeg x) ck sk))
    ∨ (i = .bastore ∧ n = 1 ∧ (p1 st fun x r' => a2 r' fun a j r => mT M a = 22 ∧ vp_in j (mN M a) ∧ V (pc + 1) lv r (sI M a j.toNatClampNeg x.toInt8.toInt32) ck sk))
    ∨ (i = .aastore ∧ n = 1 ∧ (a1 st fun b r' => a2 r' fun a j r => (∃ t ci, mT M a = 20 + t ∧ mT M b = ci + 1 ∧ (t = 3 ∧ ci = 2 ∨ t = 4 ∧ ci = 9 ∨ t = 5 ∧ ci = 7)) ∧ vp_in j (mN M a) ∧ V (pc + 1) lv r (sR M a j.toNatClampNeg (some b)) ck sk))
    ∨ (i = .arraylength ∧ n = 1 ∧ (a1 st fun a r => 20 ≤ mT M a ∧ V (pc + 1) lv (.int (Int32.ofNat (mN M a)) :: r) M ck sk))
    ∨ (∃ j, i = .new j ∧ n = 3 ∧ ((∃ ic e, P_xx q.2.2.2.2.1 j = some (ic, e) ∧ q.2.2.2.2.2.1 = [] ∧ cdf q.2.2.2.2.2.2 (pc + 3) = some (.dup, 1) ∧ cdf q.2.2.2.2.2.2 (pc + 4) = some (.invokespecial ic, 3) ∧ cdf q.2.2.2.2.2.2 (pc + 7) = some (.athrow, 1) ∧ (st.map fun v => v.category).sum ≤ 8 ∧ ck + 1 ≤ mc ∧ sk + 6 ≤ ms ∧ Post (.inr e) M) ∨ (∃ ci, P_nw q.2.2.2.2.1 j = some ci ∧ ck + 1 ≤ mc ∧ sk + P_sz ci ≤ ms ∧ ∀ b, mT M b = 0 → V (pc + 3) lv (.ref b :: st) (sN M b (ci + 1) (P_sz ci)) (ck + 1) (sk + P_sz ci))))
    ∨ (∃ t, i = .newarray t ∧ n = 2 ∧ (p1 st fun z r => ∃ tt, (t = .int ∧ tt = 0 ∨ t = .long ∧ tt = 1 ∨ t = .byte ∧ tt = 2) ∧ ¬ z < 0 ∧ z.toNatClampNeg ≤ 10000 ∧ ck + 1 ≤ mc ∧ sk + z.toNatClampNeg ≤ ms ∧ ∀ b, mT M b = 0 → V (pc + 2) lv (.ref b :: r) (sN M b (20 + tt) z.toNatClampNeg) (ck + 1) (sk + z.toNatClampNeg)))
    ∨ (∃ j, i = .anewarray j ∧ n = 3 ∧ (p1 st fun z r => ∃ tt ci, P_nw q.2.2.2.2.1 j = some ci ∧ (tt = 3 ∧ ci = 2 ∨ tt = 4 ∧ ci = 9 ∨ tt = 5 ∧ ci = 7) ∧ ¬ z < 0 ∧ z.toNatClampNeg ≤ 10000 ∧ ck + 1 ≤ mc ∧ sk + z.toNatClampNeg ≤ ms ∧ ∀ b, mT M b = 0 → V (pc + 3) lv (.ref b :: r) (sN M b (20 + tt) z.toNatClampNeg) (ck + 1) (sk + z.toNatClampNeg)))
    ∨ (∃ j, i = .invokevirtual j ∧ n = 3 ∧ (∃ k na as b r, P_mt q.2.2.2.2.1 j = some (0, k, na) ∧ st = as.reverse ++ .ref b :: r ∧ as.length = na ∧ (∃ y, P_mq k = some y ∧ y.2.2.2.2.2.1 = [] ∧ mT M b = y.2.2.2.2.1 + 1 ∧ y.2.2.2.2.1 < 13) ∧ callc E q mc ms Post V pc lv r M ck sk k (.ref b :: as)))
    ∨ (∃ j, i = .invokestatic j ∧ n = 3 ∧ (∃ k na as r, P_mt q.2.2.2.2.1 j = some (1, k, na) ∧ st = as.reverse ++ r ∧ as.length = na ∧ callc E q mc ms Post V pc lv r M ck sk k as))
    ∨ (∃ j, i = .invokespecial j ∧ n = 3 ∧ ((∃ a r, P_oi q.2.2.2.2.1 j = true ∧ st = .ref a :: r ∧ (r.map fun v => v.category).sum ≤ 8 ∧ V (pc + 3) lv r M ck sk) ∨ (∃ k na as b r, P_mt q.2.2.2.2.1 j = some (2, k, na) ∧ st = as.reverse ++ .ref b :: r ∧ as.length = na ∧ (∃ y, P_mq k = some y ∧ y.2.2.2.2.2.1 = [] ∧ y.2.2.2.1 = none) ∧ callc E q mc ms Post V pc lv r M ck sk k (.ref b :: as))))
def sti7 (E : E_T) (q : mm_T) (mc ms : Nat) (Post : Po) (V : V_T) (pc : Nat) (lv : List (Nat × Value)) (st : List Value) (M : Mm) (ck sk : Nat) (i : Instr) (n : Nat) : Prop :=
    (i = .ireturn ∧ n = 1 ∧ (∃ x, st = [.int x] ∧ (q.2.2.2.1 = some .int ∨ q.2.2.2.1 = some .boolean ∧ (x = 0 ∨ x = 1)) ∧ ck ≤ mc ∧ sk ≤ ms ∧ Post (.inl (some (.int x))) M))
    ∨ (i = .lreturn ∧ n = 1 ∧ (∃ x, st = [.long x] ∧ q.2.2.2.1 = some .long ∧ ck ≤ mc ∧ sk ≤ ms ∧ Post (.inl (some (.long x))) M))
    ∨ (i = .areturn ∧ n = 1 ∧ (∃ x, st = [va_rf x] ∧ ((∃ n, q.2.2.2.1 = some (.object n)) ∨ ∃ t, q.2.2.2.1 = some (.array t)) ∧ ck ≤ mc ∧ sk ≤ ms ∧ Post (.inl (some (va_rf x))) M))
    ∨ (i = .return_ ∧ n = 1 ∧ (st = [] ∧ q.2.2.2.1 = none ∧ ck ≤ mc ∧ sk ≤ ms ∧ Post (.inl none) M))
/-- new int[n][k]: the outer array, then its rows -/
def sMN (M : Mm) (b n k : Nat) : Mm := (fun a => if a = b then 26 else if b < a ∧ a ≤ b + n then 20 else M.1 a, fun a => if a = b then n else if b < a ∧ a ≤ b + n then k else M.2.1 a, fun a j => if b ≤ a ∧ a ≤ b + n then 0 else M.2.2.1 a j, fun a j => if b ≤ a ∧ a ≤ b + n then 0 else M.2.2.2.1 a j, fun a j => if a = b then (if j < n then some (b + 1 + j) else none) else if b < a ∧ a ≤ b + n then none else M.2.2.2.2 a j)
def sti8 (E : E_T) (q : mm_T) (mc ms : Nat) (Post : Po) (V : V_T) (pc : Nat) (lv : List (Nat × Value)) (st : List Value) (M : Mm) (ck sk : Nat) (i : Instr) (n : Nat) : Prop :=
    (i = .multianewarray 21 2 ∧ n = 4 ∧ (q.2.2.2.2.1 = 5 ∧ ∃ z y r, st = .int y :: .int z :: r ∧ ¬ z < 0 ∧ ¬ y < 0 ∧ z.toNatClampNeg ≤ 1000 ∧ y.toNatClampNeg ≤ 1000 ∧ ck + (1 + z.toNatClampNeg) ≤ mc ∧ sk + (z.toNatClampNeg + z.toNatClampNeg * y.toNatClampNeg) ≤ ms ∧ ∀ b, (∀ c, b ≤ c → mT M c = 0) → V (pc + 4) lv (.ref b :: r) (sMN M b z.toNatClampNeg y.toNatClampNeg) (ck + (1 + z.toNatClampNeg)) (sk + (z.toNatClampNeg + z.toNatClampNeg * y.toNatClampNeg))))
    ∨ (∃ j, i = .invokespecial j ∧ n = 3 ∧ (∃ k b r, P_ni q.2.2.2.2.1 j = some k ∧ st = .ref b :: r ∧ callc E q mc ms Post V pc lv r M ck sk k [.ref b]))
/-- one step of instruction i (n bytes) of method q, its calls by E -/
def sti (E : E_T) (q : mm_T) (mc ms : Nat) (Post : Po) (V : V_T) (pc : Nat) (lv : List (Nat × Value)) (st : List Value) (M : Mm) (ck sk : Nat) (i : Instr) (n : Nat) : Prop := sti0 E q mc ms Post V pc lv st M ck sk i n ∨ sti1 E q mc ms Post V pc lv st M ck sk i n ∨ sti2 E q mc ms Post V pc lv st M ck sk i n ∨ sti3 E q mc ms Post V pc lv st M ck sk i n ∨ sti4 E q mc ms Post V pc lv st M ck sk i n ∨ sti5 E q mc ms Post V pc lv st M ck sk i n ∨ sti6 E q mc ms Post V pc lv st M ck sk i n ∨ sti7 E q mc ms Post V pc lv st M ck sk i n ∨ sti8 E q mc ms Post V pc lv st M ck sk i n
def stp (E : E_T) (q : mm_T) (mc ms : Nat) (Post : Po) (V : V_T) (pc : Nat) (lv : List (Nat × Value)) (st : List Value) (M : Mm) (ck sk : Nat) : Prop :=
  ∃ i n, cdf q.2.2.2.2.2.2 pc = some (i, n) ∧ sti E q mc ms Post V pc lv st M ck sk i n
def Ex : Nat → E_T
  | 0 => fun _ _ _ _ _ _ => False
  | d + 1 => fun k as M mc ms Post => ∃ q, P_mq k = some q ∧ (lg_sl as).length ≤ q.2.2.1 ∧ ∀ V : V_T, (∀ pc lv st M ck sk, stp (Ex d) q mc ms Post V pc lv st M ck sk → V pc lv st M ck sk) → (∀ pc lv lw st M ck sk, (∀ z ∈ lw, z ∈ lv) → V pc lw st M ck sk → V pc lv st M ck sk) → V 0 (lv_args 0 as) [] M 0 0
end
-- 07.sound.lean.txt
section
/-! SOUND: what is closed under the steps is closed under the machine's -/
theorem cdf_mem {cl : cl_T} {pc : Nat} {x : Instr × Nat} (h : cdf cl pc = some x) : (pc, x) ∈ cl.flatten := by
  unfold cdf at h
  cases hB : cl[pc / 32]? with
  | none => rw [hB] at h; cases h
  | some B =>
    rw [hB] at h
    have h : (B.find? (fun q => Nat.beq q.1 pc)).map (fun q => q.2) = some x := h
    obtain ⟨y, hy, hx⟩ := Option.map_eq_some_iff.mp h
    have h1 := List.mem_of_find?_eq_some hy
    have h2 := List.find?_some hy
    have h3 : y.1 = pc := Nat.eq_of_beq_eq_true h2
    obtain ⟨a, b⟩ := y
    cases h3; cases hx
    exact List.mem_flatten.mpr ⟨B, List.mem_of_getElem? hB, h1⟩
theorem lk_mem {lv : List (Nat × Value)} {j : Nat} {v : Value} (h : lk lv j = some v) : (j, v) ∈ lv := by
  unfold lk at h
  obtain ⟨y, hy, hx⟩ := Option.map_eq_some_iff.mp h
  have h1 := List.mem_of_find?_eq_some hy
  have h2 := List.find?_some hy
  have h3 : y.1 = j := by simpa using h2
  obtain ⟨a, b⟩ := y
  cases h3; cases hx
  exact h1
theorem tab_mem {α β : Type} {L : List (Nat × Nat × β)} {f : Nat × Nat × β → β} {o i : Nat} {x : β} (h : ((L.find? (fun q => Nat.beq q.1 o && Nat.beq q.2.1 i)).map (fun q => q.2.2)) = some x) : (o, i, x) ∈ L := by
  obtain ⟨y, hy, hx⟩ := Option.map_eq_some_iff.mp h
  have h1 := List.mem_of_find?_eq_some hy
  have h2 := List.find?_some hy
  obtain ⟨a, b, z⟩ := y
  simp only [Bool.and_eq_true] at h2
  have h3 : a = o := Nat.eq_of_beq_eq_true h2.1
  have h4 : b = i := Nat.eq_of_beq_eq_true h2.2
  cases h3; cases h4; cases hx
  exact h1
theorem tab3_mem {β : Type} {L : List (List (List (Nat × Nat × β)))} {o i : Nat} {x : β} (h : ((L[o]?).bind (fun G => (G[i / 16]?).bind (fun B => B.find? (fun q => Nat.beq q.1 o && Nat.beq q.2.1 i)))).map (fun q => q.2.2) = some x) : ∃ G, G ∈ L ∧ ∃ B, B ∈ G ∧ (o, i, x) ∈ B := by
  cases hG : L[o]? with
  | none => rw [hG] at h; cases h
  | some G =>
    rw [hG] at h
    have h2 : ((G[i / 16]?).bind (fun B => B.find? (fun q => Nat.beq q.1 o && Nat.beq q.2.1 i))).map (fun q => q.2.2) = some x := h
    cases hB : G[i / 16]? with
    | none => rw [hB] at h2; cases h2
    | some B =>
      rw [hB] at h2
      have h3 : (B.find? (fun q => Nat.beq q.1 o && Nat.beq q.2.1 i)).map (fun q => q.2.2) = some x := h2
      exact ⟨G, List.mem_of_getElem? hG, B, List.mem_of_getElem? hB, tab_mem (α := Nat) (f := fun q => q.2.2) h3⟩
theorem P_fl_ok {o i ci k : Nat} (h : P_fl o i = some (ci, k)) : okF (o, i, ci, k) := by
  unfold P_fl at h
  obtain ⟨G, hG, B, hB, hm⟩ := tab3_mem (L := flG) h
  exact flG_ok G hG B hB _ hm
theorem P_mt_ok {o i a b c : Nat} (h : P_mt o i = some (a, b, c)) : okC (o, i, a, b, c) := by
  unfold P_mt at h
  obtain ⟨G, hG, B, hB, hm⟩ := tab3_mem (L := mtG) h
  exact mtG_ok G hG B hB _ hm
theorem P_nw_ok {o i ci : Nat} (h : P_nw o i = some ci) : okN (o, i, ci) := nwL_ok _ (tab_mem (α := Nat) (f := fun q => q.2.2) h)
theorem P_xx_ok {o i a b : Nat} (h : P_xx o i = some (a, b)) : okX (o, i, a, b) := exL_ok _ (tab_mem (α := Nat) (f := fun q => q.2.2) h)
theorem P_xc_ok {o i v : Nat} (h : P_xc o i = some v) : okXC (o, i, v) := xcL_ok _ (tab_mem (α := Nat) (f := fun q => q.2.2) h)
theorem P_kc_ok {o i : Nat} {v : Int32} (h : P_kc o i = some v) : okK (o, i, v) := kcL_ok _ (tab_mem (α := Nat) (f := fun q => q.2.2) h)
theorem P_kl_ok {o i : Nat} {v : Int64} (h : P_kl o i = some v) : okKL (o, i, v) := klL_ok _ (tab_mem (α := Nat) (f := fun q => q.2.2) h)
theorem P_oi_ok {o i : Nat} (h : P_oi o i = true) : okO (o, i) := by
  unfold P_oi at h
  obtain ⟨⟨a, b⟩, h1, h2⟩ := List.any_eq_true.mp h
  simp only [Bool.and_eq_true] at h2
  have h3 : a = o := Nat.eq_of_beq_eq_true h2.1
  have h4 : b = i := Nat.eq_of_beq_eq_true h2.2
  subst h3; subst h4
  exact oiL_ok _ h1
set_option maxRecDepth 100000 in
theorem hnd_ok {q : mm_T} {pc e h : Nat} (hh : hnd q pc e = some h) : ∃ (pre suf : List (Nat × Nat × Nat × Nat)) (x : Nat × Nat × Nat × Nat), q.2.2.2.2.2.1 = pre ++ x :: suf ∧ x.1 ≤ pc ∧ pc < x.2.1 ∧ P_xc q.2.2.2.2.1 x.2.2.2 = some e ∧ x.2.2.1 = h ∧ ∀ z ∈ pre, z.1 ≤ pc → pc < z.2.1 → P_xc q.2.2.2.2.1 z.2.2.2 ≠ some e := by
  unfold hnd at hh
  obtain ⟨x, hx, he⟩ := Option.map_eq_some_iff.mp hh
  obtain ⟨h1, pre, suf, h2, h3⟩ := List.find?_eq_some_iff_append.mp hx
  simp only [Bool.and_eq_true, beq_iff_eq] at h1
  refine ⟨pre, suf, x, h2, Nat.le_of_ble_eq_true h1.1, Nat.le_of_ble_eq_true h1.2.1, h1.2.2, he, fun z hz g1 g2 g3 => ?_⟩
  have h4 := h3 z hz
  rw [Bool.not_eq_true', Bool.and_eq_false_iff, Bool.and_eq_false_iff] at h4
  rcases h4 with h4 | h4 | h4
  · rw [Nat.ble_eq_true_of_le g1] at h4; cases h4
  · rw [show Nat.blt pc z.2.1 = true from Nat.ble_eq_true_of_le g2] at h4; cases h4
  · rw [g3] at h4; simp at h4
theorem wsL_good : ∀ w ∈ wsL_law, goodWord w = true := fun w h => List.all_eq_true.mp (show wsL_law.all goodWord = true by decide +kernel) w h
theorem tg_eq {pc : Nat} {off : Int} (h : 0 ≤ (pc : Int) + off) : (pc : Int) + off = ((tg pc off : Nat) : Int) := (Int.toNat_of_nonneg h).symm
theorem mv_int {M : Mm} {a k : Nat} (h : mT M a = 20) : mv M a k = .int (mI M a k) := by unfold mv; rw [h]; rfl
theorem mv_long {M : Mm} {a k : Nat} (h : mT M a = 21) : mv M a k = .long (mL M a k) := by unfold mv; rw [h]; rfl
theorem mv_byte {M : Mm} {a k : Nat} (h : mT M a = 22) : mv M a k = .int (mI M a k) := by unfold mv; rw [h]; rfl
theorem mv_ref {M : Mm} {a k t : Nat} (ht : t < 4) (h : mT M a = 23 + t) : mv M a k = va_rf (mR M a k) := by
  unfold mv; rw [h]
  match t, ht with
  | 0, _ => rfl
  | 1, _ => rfl
  | 2, _ => rfl
  | 3, _ => rfl
theorem mv_obj {M : Mm} {a k ci : Nat} (hc : ci < 13) (h : mT M a = ci + 1) : mv M a k = wv (kt (P_ty ci k)) M a k := by
  unfold mv ek; rw [h, if_neg (by omega)]; rfl
theorem Rp.obj {D : va_G} {cA : Nat → ClassId} {B : Nat} {M : Mm} {H : Heap} (h : Rp D cA B M H) {a ci : Nat} (ht : mT M a = ci + 1) (hc : ci < 13) : ∃ r, vwCl[ci]? = some r ∧ t_OB a (D.1 ci) r.2.2 (D.2 ci) H (mv M a) ∧ B ≤ a ∧ a < H.size := by
  obtain ⟨h1, h2, h3⟩ := h.2 a (by omega)
  rcases h3 with ⟨ci', r, e1, e2, e3, e4⟩ | ⟨t, e1, -⟩
  · have : ci' = ci := by omega
    subst this
    exact ⟨r, e3, e4, h1, h2⟩
  · omega
theorem Rp.arr {D : va_G} {cA : Nat → ClassId} {B : Nat} {M : Mm} {H : Heap} (h : Rp D cA B M H) {a t : Nat} (ht : mT M a = 20 + t) : t < 7 ∧ H[a]? = some (arrV (cA t) (mN M a) (mv M a)) ∧ B ≤ a ∧ a < H.size := by
  obtain ⟨h1, h2, h3⟩ := h.2 a (by omega)
  rcases h3 with ⟨ci', r, e1, e2, -⟩ | ⟨t', e1, e2, e3⟩
  · omega
  · have : t' = t := by omega
    subst this
    exact ⟨e2, e3, h1, h2⟩
theorem Rp.fresh {D : va_G} {cA : Nat → ClassId} {B : Nat} {M : Mm} {H : Heap} (h : Rp D cA B M H) : mT M H.size = 0 := by
  rcases Nat.eq_zero_or_pos (mT M H.size) with e | e
  · exact e
  · exact absurd (h.2 H.size (by omega)).2.1 (by omega)
theorem Rp.upd {D : va_G} {cA : Nat → ClassId} {B : Nat} {M M' : Mm} {H H' : Heap} {a : Nat} (h : Rp D cA B M H) (hT : mT M' = mT M) (hN : mN M' = mN M) (hoff : ∀ b, b ≠ a → mv M' b = mv M b) (hz : H'.size = H.size) (ho : ∀ b, b ≠ a → H'[b]? = H[b]?)
    (hat : mT M a ≠ 0 → ((∃ ci r, mT M' a = ci + 1 ∧ ci < 13 ∧ vwCl[ci]? = some r ∧ t_OB a (D.1 ci) r.2.2 (D.2 ci) H' (mv M' a)) ∨ (∃ t, mT M' a = 20 + t ∧ t < 7 ∧ H'[a]? = some (arrV (cA t) (mN M' a) (mv M' a))))) : Rp D cA B M' H' := by
  refine ⟨by rw [hz]; exact h.1, fun b hb => ?_⟩
  rw [hT] at hb
  obtain ⟨h1, h2, h3⟩ := h.2 b hb
  refine ⟨h1, by rw [hz]; exact h2, ?_⟩
  by_cases e : b = a
  · subst e; exact hat hb
  · rw [hT, hN, hoff b e]
    rcases h3 with ⟨ci, r, e1, e2, e3, e4⟩ | ⟨t, e1, e2, e3⟩
    · exact Or.inl ⟨ci, r, e1, e2, e3, e4.kept (ho b e)⟩
    · exact Or.inr ⟨t, e1, e2, by rw [ho b e]; exact e3⟩
theorem u2_ne {α : Type} {f : Nat → Nat → α} {a k b : Nat} {x : α} (h : b ≠ a) : u2 f a k x b = f b := by funext j; simp [u2, h]
theorem mv_sI_ne {M : Mm} {a k b : Nat} {x : Int32} (h : b ≠ a) : mv (sI M a k x) b = mv M b := by
  funext j; unfold mv wv sI; simp only [mT, mI, mL, mR, u2_ne h]
theorem mv_sL_ne {M : Mm} {a k b : Nat} {x : Int64} (h : b ≠ a) : mv (sL M a k x) b = mv M b := by
  funext j; unfold mv wv sL; simp only [mT, mI, mL, mR, u2_ne h]
theorem mv_sR_ne {M : Mm} {a k b : Nat} {x : Option Nat} (h : b ≠ a) : mv (sR M a k x) b = mv M b := by
  funext j; unfold mv wv sR; simp only [mT, mI, mL, mR, u2_ne h]
theorem mv_sI_at {M : Mm} {a k : Nat} {x : Int32} (he : ek (mT M a) k = 0) : mv (sI M a k x) a = updV (mv M a) k (.int x) := by
  funext j
  by_cases e : j = k
  · subst e
    simp only [updV, if_true]
    show wv (ek (mT M a) j) _ a j = _
    rw [he]
    simp [wv, sI, u2, mI]
  · simp [mv, wv, sI, u2, updV, e, mT, mI, mL, mR]
theorem mv_sL_at {M : Mm} {a k : Nat} {x : Int64} (he : ek (mT M a) k = 1) : mv (sL M a k x) a = updV (mv M a) k (.long x) := by
  funext j
  by_cases e : j = k
  · subst e
    simp only [updV, if_true]
    show wv (ek (mT M a) j) _ a j = _
    rw [he]
    simp [wv, sL, u2, mL]
  · simp [mv, wv, sL, u2, updV, e, mT, mI, mL, mR]
theorem mv_sR_at {M : Mm} {a k : Nat} {x : Option Nat} (he : ek (mT M a) k = 2) : mv (sR M a k x) a = updV (mv M a) k (va_rf x) := by
  funext j
  by_cases e : j = k
  · subst e
    simp only [updV, if_true]
    show wv (ek (mT M a) j) _ a j = _
    rw [he]
    simp [wv, sR, u2, mR]
  · simp [mv, wv, sR, u2, updV, e, mT, mI, mL, mR]
theorem Rp.add {D : va_G} {cA : Nat → ClassId} {B : Nat} {M : Mm} {H H' : Heap} {t n : Nat} (h : Rp D cA B M H) (hz : H'.size = H.size + 1) (ho : ∀ b, b < H.size → H'[b]? = H[b]?)
    (hat : (∃ ci r, t = ci + 1 ∧ ci < 13 ∧ vwCl[ci]? = some r ∧ t_OB H.size (D.1 ci) r.2.2 (D.2 ci) H' (mv (sN M H.size t n) H.size)) ∨ (∃ t', t = 20 + t' ∧ t' < 7 ∧ H'[H.size]? = some (arrV (cA t') n (mv (sN M H.size t n) H.size)))) : Rp D cA B (sN M H.size t n) H' := by
  refine ⟨by rw [hz]; exact Nat.le_succ_of_le h.1, fun b hb => ?_⟩
  by_cases e : b = H.size
  · subst e
    refine ⟨h.1, by omega, ?_⟩
    simpa [sN, u1, mT, mN] using hat
  · have hb' : mT M b ≠ 0 := by simpa [sN, u1, e, mT, mN] using hb
    obtain ⟨h1, h2, h3⟩ := h.2 b hb'
    have hm : mv (sN M H.size t n) b = mv M b := by funext j; unfold mv wv sN; simp [u1, e, mT, mI, mL, mR]
    refine ⟨h1, by omega, ?_⟩
    rw [hm]
    rcases h3 with ⟨ci, r, e1, e2, e3, e4⟩ | ⟨t', e1, e2, e3⟩
    · exact Or.inl ⟨ci, r, by simpa [sN, u1, e, mT, mN] using e1, e2, e3, e4.kept (ho b h2)⟩
    · exact Or.inr ⟨t', by simpa [sN, u1, e, mT, mN] using e1, e2, by rw [ho b h2]; simpa [sN, u1, e, mT, mN] using e3⟩
theorem castable_moved {a b : String} {u U : State} (hvm : u.vm.Alike U.vm) (h : va_Nw (.castable a b) u) : va_Nw (.castable a b) U := va_tabs rfl (rfl : (u.setVm U.vm).vm = U.vm) (by rw [Cond.castable_setVm hvm]; exact h)
theorem declares_moved {x : MethodName} {u U : State} (hvm : u.vm.Alike U.vm) (h : va_Nw (.declares x) u) : va_Nw (.declares x) U := va_tabs rfl (rfl : (u.setVm U.vm).vm = U.vm) (by rw [Cond.declares_setVm hvm]; exact h)
theorem va_AOA.moved {ty : FieldType} {u U : State} (hvm : u.vm.Alike U.vm) (h : va_AOA ty u) : va_AOA ty U := by
  have h0 : (Cond.arrayOver (.array ty)).holds #[] u none u [] = true := h
  simp only [Cond.holds, Cond.value, beq_iff_eq] at h0
  cases hc : u.vm.findClass (FieldType.array ty).toString with
  | none => simp [hc] at h0
  | some comp =>
    simp only [hc, Option.bind_some, Option.bind_eq_some_iff, Option.map_eq_some_iff] at h0
    obtain ⟨c, hi, k, hk, hb⟩ := h0
    obtain ⟨k', hk', he⟩ := hvm.2.2 _ _ hk
    have e1 := va_idx_bare U.vm comp
    have e2 := va_idx_bare u.vm comp
    have e3 : U.vm.bare = u.vm.bare := by first | exact hvm.bare_eq | exact hvm.bare_eq.symm
    rw [e3] at e1
    have hi' := e1.symm.trans (e2.trans hi)
    have f1 : U.vm.findClass (FieldType.array ty).toString = some comp := by rw [hvm.findClass]; exact hc
    have hkind : k'.kind = k.kind := by rw [he]
    have hb' : (match k'.kind with | .array _ ty9 => decide (ty9 = FieldType.array ty) && decide (U.vm.findClass ("[" ++ (FieldType.array ty).toString) = some c) | _ => false) = true := by
      rw [hkind, hvm.findClass]; exact hb
    unfold va_AOA Cond.before Cond.holds
    simp only [Cond.value]
    rw [f1, Option.bind_some]
    refine (congrArg (fun o : Option Nat => (o.bind (fun c => (U.vm.classes[c]?).map fun (k : Class) => match k.kind with | .array _ ty9 => decide (ty9 = FieldType.array ty) && decide (U.vm.findClass ("[" ++ (FieldType.array ty).toString) = some c) | _ => false) == some true)) hi').trans ?_
    show ((U.vm.classes[c]?).map (fun (k : Class) => match k.kind with | .array _ ty9 => decide (ty9 = FieldType.array ty) && decide (U.vm.findClass ("[" ++ (FieldType.array ty).toString) = some c) | _ => false) == some true) = true
    rw [hk']
    show (some (match k'.kind with | .array _ ty9 => decide (ty9 = FieldType.array ty) && decide (U.vm.findClass ("[" ++ (FieldType.array ty).toString) = some c) | _ => false) == some true) = true
    rw [hb']
    rfl
theorem KK.go {D : va_G} {cA : Nat → ClassId} {B : Nat} {u U : State} (h : KK D cA B u) (hW : u.WarmedH U.vm) (hk : ∀ a, a < u.heap.size → ¬ B ≤ a → U.heap[a]? = u.heap[a]?) : KK D cA B U := by
  have hvm := hW.alike
  obtain ⟨h1, h2, h3, h4, h45, h5, h6, h7, h8, hn9⟩ := h
  refine ⟨h1.moved hvm, (vx_Zq.moved hvm h2).kept hk, (vx_Zq.moved hvm h3).kept hk, fun e he w hw => ?_, fun e e' h1 h2 h3 => (h45 e e' h1 h2 h3).moved hvm, h5.moved hvm, h6.moved hvm, h7.moved hvm, h8.moved hvm, fun e he => va_Nw.warmM hW (hn9 e he)⟩
  have h9 := h4 e he w hw
  simp only [P_ng, List.mem_cons, List.not_mem_nil, or_false] at hw
  rcases hw with rfl | rfl | rfl | rfl
  · exact declares_moved hvm h9
  · exact declares_moved hvm h9
  · exact declares_moved hvm h9
  · exact castable_moved hvm h9
def QQ (D : va_G) (cA : Nat → ClassId) (B : Nat) (Post : Po) : Array Value → State → Outcome → State → Prop := fun _ st o t => (∃ v M', o = .returned v ∧ Post (.inl v) M' ∧ Rp D cA B M' t.heap) ∧ va_F (fun a => B ≤ a) st t
def XX (D : va_G) (cA : Nat → ClassId) (B : Nat) (Post : Po) : String → State → State → Prop := fun E st t => (∃ e M', E = P_ex e ∧ e < 5 ∧ Post (.inr e) M' ∧ Rp D cA B M' t.heap) ∧ va_F (fun a => B ≤ a) st t
def PP (D : va_G) (cA : Nat → ClassId) (B : Nat) (as : List Value) (M : Mm) : Array Value → State → Prop := va_Pc as (fun U => B ≤ U.heap.size ∧ Rp D cA B M U.heap ∧ KK D cA B U)
def rmD (d mc ms : Nat) : Room := { frames := d + 12, cells := mc, slots := ms, locals := 60 * d + 200 }
def cdW (q : mm_T) : Cond := match q.2.2.2.2.2.1 with
  | [] => Cond.code q.1 q.2.1 q.2.2.1 q.2.2.2.1
  | hh => Cond.codeWith q.1 q.2.1 q.2.2.1 q.2.2.2.1 hh
def wsK (q : mm_T) : List Cond := cdW q :: wsL_law
/-- method k's contract on the machine, at depth d -/
def CT (l : Launch) (D : va_G) (cA : Nat → ClassId) (B d : Nat) (q : mm_T) (as : List Value) (M : Mm) (mc ms : Nat) (Post : Po) : Prop :=
  vx_Met l q.1 (wsK q) (rmD d mc ms) (PP D cA B as M) (QQ D cA B Post) (XX D cA B Post) mc ms (fun a => B ≤ a)
theorem PP.blind {D : va_G} {cA : Nat → ClassId} {B : Nat} {as : List Value} {M : Mm} : FrameBlind (PP D cA B as M) := fun a U g mk h => ⟨h.1, h.2.1, h.2.2.1, h.2.2.2.go (State.WarmedH.refl U) (fun _ _ _ => rfl)⟩
section Sound
variable {p : Program} {l : Launch} {e : Env} {R : Room} {s : State} {m : MethodId} {args : Array Value} {below : List Frame} {meth : Method} {c : Code} {D : va_G} {cA : Nat → ClassId} {B d : Nat} {q : mm_T} {mc ms : Nat} {Q : State → Prop}
def Cx (p : Program) (l : Launch) (R : Room) (s : State) (m : MethodId) (args : Array Value) (meth : Method) (c : Code) (D : va_G) (cA : Nat → ClassId) (B d : Nat) (q : mm_T) (mc ms : Nat) : Prop :=
  (p.tables.exec = Jvm.exec ∧ c.code = q.2.1 ∧ c.maxLocals = q.2.2.1 ∧ s.vm.findClass (P_ow q.2.2.2.2.1) = some m.cls ∧ (∀ w ∈ wsL_law, w.before args s = true)) ∧ KK D cA B s ∧ B ≤ s.heap.size ∧ l.stackTraces = false ∧ meth.locks = false ∧ d + 13 ≤ R.frames ∧ 60 * d + 260 ≤ R.locals ∧ R.cells = mc ∧ R.slots = ms ∧ (q.1.name = "<init>" → meth.name = "<init>") ∧ (∀ z ∈ q.2.2.2.2.2.2.flatten, decode q.2.1 z.1 = .ok z.2)
def VV (p : Program) (l : Launch) (e : Env) (R : Room) (s : State) (m : MethodId) (args : Array Value) (below : List Frame) (meth : Method) (c : Code) (D : va_G) (cA : Nat → ClassId) (B : Nat) (q : mm_T) (Q : State → Prop) : V_T := fun pc lv st M ck sk =>
  ∀ (H : Heap) (locs : List Loc) (ls : Array Slot), Rp D cA B M H → va_S (fun a => B ≤ a) s.heap H locs → lv_has ls q.2.2.1 lv → W p l e R s m args below meth c H locs ck sk Q (F0 m pc ls st)
theorem vv_get (X : Cx p l R s m args meth c D cA B d q mc ms) {pc j a : Nat} {lv : List (Nat × Value)} {r : List Value} {M : Mm} {ck sk ci k : Nat} (hd : decode q.2.1 pc = .ok (.getfield j, 3)) (hf : P_fl q.2.2.2.2.1 j = some (ci, k)) (ht : mT M a = ci + 1)
    (h : VV p l e R s m args below meth c D cA B q Q (pc + 3) lv (wv (kt (P_ty ci k)) M a k :: r) M ck sk) : VV p l e R s m args below meth c D cA B q Q pc lv (.ref a :: r) M ck sk := by
  intro H locs ls hP hS hl
  obtain ⟨⟨hx, hb, hml, hown, hts⟩, hKK, -⟩ := X
  obtain ⟨C, T, N, hc, hk, hw⟩ := P_fl_ok hf
  have hci : ci < 13 := by
    have := (List.getElem?_eq_some_iff.mp hc).1
    simpa [vwCl] using this
  obtain ⟨rr, hr, ⟨cell, c1, c2, c3, c4⟩, -, -⟩ := hP.obj ht hci
  cases hc.symm.trans hr
  obtain ⟨hin, hty, hnm, -, hdec⟩ := vwCl_ok ci _ hc
  obtain ⟨hS1, hfc, kC, hkC, hkind⟩ := hKK.1.1 ci _ hc
  obtain ⟨cf, kf, fi, f, hi, hsl⟩ := hS1 k hk
  refine W.getf hx hb hown (hts _ hw) hi (u_facts hfc hkC (u_lays hts hin hk) hi).1 c1 (by rw [c3]; exact fun h => by cases h) (v := mv M a k) ?_ rfl rfl hd ?_
  · rw [hsl]; exact c4 k hk
  · rw [mv_obj hci ht]; exact h H locs ls hP hS hl
theorem vv_put (X : Cx p l R s m args meth c D cA B d q mc ms) {pc j a : Nat} {lv : List (Nat × Value)} {r : List Value} {M : Mm} {ck sk ci k : Nat} {v : Value} (hd : decode q.2.1 pc = .ok (.putfield j, 3)) (hf : P_fl q.2.2.2.2.1 j = some (ci, k)) (ht : mT M a = ci + 1)
    (hfin : q.1.name = "<init>" ∧ q.2.2.2.2.1 = ci ∨ ((vwCl[ci]?).map (fun r => (r.2.1 k).2.2.2)) = some false)
    (h : putc M a k (P_ty ci k) v (fun M' => VV p l e R s m args below meth c D cA B q Q (pc + 3) lv r M' ck sk)) : VV p l e R s m args below meth c D cA B q Q pc lv (v :: .ref a :: r) M ck sk := by
  intro H locs ls hP hS hl
  obtain ⟨⟨hx, hb, hml, hown, hts⟩, hKK, hB, -, -, -, -, -, -, hini, -⟩ := X
  obtain ⟨C, T, N, hc, hk, hw⟩ := P_fl_ok hf
  have hci : ci < 13 := by
    have := (List.getElem?_eq_some_iff.mp hc).1
    simpa [vwCl] using this
  obtain ⟨rr, hr, ⟨cell, c1, c2, c3, c4⟩, hBa, -⟩ := hP.obj ht hci
  cases hc.symm.trans hr
  obtain ⟨hin, hty, hnm, hC, hdec⟩ := vwCl_ok ci _ hc
  have hap := va_apart (own := P_ow q.2.2.2.2.1) hts hin (P_ty ci) hty hnm hKK.1 hc
  obtain ⟨hS1, hfc, kC, hkC, hkind⟩ := hKK.1.1 ci _ hc
  obtain ⟨cf, kf, fi, f, hi, hsl⟩ := hS1 k hk
  have hst := (u_facts hfc hkC (u_lays hts hin hk) hi).1
  have hek : ek (mT M a) k = kt (P_ty ci k) := by unfold ek; rw [ht, if_neg (by omega)]; rfl
  -- the new memory, whatever the value
  have key : ∃ M' : Mm, mT M' = mT M ∧ mN M' = mN M ∧ (∀ b, b ≠ a → mv M' b = mv M b) ∧ mv M' a = updV (mv M a) k v ∧ narrow (P_ty ci k) v = v ∧ fits (P_ty ci k) v = true ∧ VV p l e R s m args below meth c D cA B q Q (pc + 3) lv r M' ck sk := by
    unfold putc at h
    generalize hty9 : P_ty ci k = ty9 at h hek
    cases ty9 with
    | int =>
      obtain ⟨x, rfl, h⟩ := h
      exact ⟨sI M a k x, rfl, rfl, fun b hb => mv_sI_ne hb, mv_sI_at hek, rfl, rfl, h⟩
    | boolean =>
      obtain ⟨x, rfl, hx01, h⟩ := h
      exact ⟨sI M a k x, rfl, rfl, fun b hb => mv_sI_ne hb, mv_sI_at hek, by rcases hx01 with rfl | rfl <;> rfl, by rcases hx01 with rfl | rfl <;> rfl, h⟩
    | long =>
      obtain ⟨x, rfl, h⟩ := h
      exact ⟨sL M a k x, rfl, rfl, fun b hb => mv_sL_ne hb, mv_sL_at hek, rfl, rfl, h⟩
    | object C9 =>
      obtain ⟨x, rfl, h⟩ := h
      exact ⟨sR M a k x, rfl, rfl, fun b hb => mv_sR_ne hb, mv_sR_at hek, by cases x <;> rfl, by cases x <;> rfl, h⟩
    | array t9 =>
      obtain ⟨x, rfl, h⟩ := h
      exact ⟨sR M a k x, rfl, rfl, fun b hb => mv_sR_ne hb, mv_sR_at hek, by cases x <;> rfl, by cases x <;> rfl, h⟩
    | _ => exact h.elim
  obtain ⟨M', g1, g2, g3, g4, hn, hfit, hV⟩ := key
  have fin : ∀ H' : Heap, H'[a]? = some (cell.setSlot f.slot v) → H'.size = H.size → (∀ b, b ≠ a → H'[b]? = H[b]?) → W p l e R s m args below meth c H' (locs ++ [⟨a, f.slot⟩]) ck sk Q (F0 m (pc + 3) ls r) := by
    intro H' e1 e2 e3
    rw [hsl] at e1
    refine hV H' _ ls (hP.upd g1 g2 g3 e2 e3 fun _ => Or.inl ⟨ci, _, by rw [g1]; exact ht, hci, hc, ?_⟩) (hS.put e2 e3 hBa) hl
    rw [g4]
    exact ⟨_, e1, c2, c3, t_set c4 hap hk v⟩
  rcases Bool.eq_false_or_eq_true (T k).2.2.2 with hF | hF
  · have hlay := hts _ (hin _ (u_in_lay hk))
    unfold u_lay at hlay
    rw [if_pos hF] at hlay
    obtain ⟨hini1, hown1⟩ : q.1.name = "<init>" ∧ q.2.2.2.2.1 = ci := by
      rcases hfin with h9 | h9
      · exact h9
      · rw [hc] at h9
        simp only [Option.map_some, Option.some.injEq] at h9
        rw [hF] at h9; cases h9
    have hcf : m.cls = cf := by
      obtain ⟨_, _, c', _, _, _, -, -, hf', -, -, -, hown2, -⟩ := Cond.laysFinal_spec hlay
      have e1 : c' = cf := by have := hi.symm.trans hf'; simp at this; exact this.1.symm
      have e2 : (T k).1 = P_ow q.2.2.2.2.1 := by rw [hown1]; exact (hdec k hk).trans hC
      rw [e2] at hown2
      rw [← e1]; exact Option.some.inj (hown.symm.trans hown2)
    have h6 := u_fits hfc hkC hkind (Or.inr hlay) hi (hty k hk) hn hfit
    exact W.putFinK hx hb hown (hts _ hw) hi hst hcf (hini hini1) (by rw [c2]; exact h6) c1 c3 (by rw [hsl]; exact k2_hasslot (c4 k hk)) rfl rfl hd fin
  · have hlay := hts _ (hin _ (u_in_lay hk))
    unfold u_lay at hlay
    rw [if_neg (by rw [hF]; decide)] at hlay
    have h6 := u_store hfc hkC hkind hlay hi (hty k hk) hn hfit
    exact W.putK hx hb (f := f) ⟨hown, hts _ hw, ⟨_, _, _, hi⟩, hst⟩ (by rw [c2]; exact h6) c1 c3 (by rw [hsl]; exact k2_hasslot (c4 k hk)) rfl rfl hd fin
end Sound
end
-- 08.step.lean.txt
section
/-! every step, by its instruction -/
section Step
variable {p : Program} {l : Launch} {e : Env} {R : Room} {s : State} {m : MethodId} {args : Array Value} {below : List Frame} {meth : Method} {c : Code} {D : va_G} {cA : Nat → ClassId} {B d : Nat} {q : mm_T} {mc ms : Nat} {Q : State → Prop}
theorem sN_T {M : Mm} {a t n : Nat} : mT (sN M a t n) a = t := by simp [sN, u1, mT]
theorem sN_I {M : Mm} {a t n k : Nat} : mI (sN M a t n) a k = 0 := by simp [sN, u1, mI]
theorem sN_L {M : Mm} {a t n k : Nat} : mL (sN M a t n) a k = 0 := by simp [sN, u1, mL]
theorem sN_R {M : Mm} {a t n k : Nat} : mR (sN M a t n) a k = none := by simp [sN, u1, mR]
def oTy (t : FieldType) : Bool := match t with
  | .int => true
  | .boolean => true
  | .long => true
  | .object _ => true
  | .array _ => true
  | _ => false
theorem P_ty_ok : ∀ ci, ci < 13 → ∀ k, k < P_sz ci → oTy (P_ty ci k) = true := by decide +kernel
theorem tys_at {cA : Nat → ClassId} {t : Nat} (h : t < 7) : (tysA cA)[t]? = some (cA t, aT t) := by
  match t, h with
  | 0, _ => rfl
  | 1, _ => rfl
  | 2, _ => rfl
  | 3, _ => rfl
  | 4, _ => rfl
  | 5, _ => rfl
  | 6, _ => rfl
theorem vp_lt {j : Int32} {n : Nat} (h : vp_in j n) : j.toNatClampNeg < n := Nat.not_le.mp fun z => h (Or.inr z)
theorem lv_aloadV {H : Heap} {locs : List Loc} {cells slots pc i : Nat} {ls : Array Slot} {rest : List Value} {cc : ByteArray} (hx : p.tables.exec = Jvm.exec) (hb : c.code = cc) (hd : decode cc pc = .ok (.aload i, 2)) {x : Option Nat} (hl : ls[i]? = some (.val (va_rf x)))
    (k : W p l e R s m args below meth c H locs cells slots Q (F0 m (pc + 2) ls (va_rf x :: rest))) : W p l e R s m args below meth c H locs cells slots Q (F0 m pc ls rest) := by
  cases x with
  | none => exact lv_aloadN hx hb hd hl k
  | some a => exact lv_aload hx hb hd hl k
theorem lv_aload_nV {H : Heap} {locs : List Loc} {cells slots pc : Nat} {i : Fin 4} {ls : Array Slot} {rest : List Value} {cc : ByteArray} (hx : p.tables.exec = Jvm.exec) (hb : c.code = cc) (hd : decode cc pc = .ok (.aload_n i, 1)) {x : Option Nat} (hl : ls[i.val]? = some (.val (va_rf x)))
    (k : W p l e R s m args below meth c H locs cells slots Q (F0 m (pc + 1) ls (va_rf x :: rest))) : W p l e R s m args below meth c H locs cells slots Q (F0 m pc ls rest) := by
  cases x with
  | none => exact lv_aload_nN hx hb hd rfl hl k
  | some a => exact lv_aload_n hx hb hd rfl hl k
theorem lk_at {ls : Array Slot} {nL : Nat} {lv : List (Nat × Value)} (h : lv_has ls nL lv) {j : Nat} {v : Value} (hk : lk lv j = some v) : ls[j]? = some (.val v) := h.2.2 (j, v) (lk_mem hk)
theorem vv_iast (X : Cx p l R s m args meth c D cA B d q mc ms) {pc a : Nat} {j x : Int32} {lv : List (Nat × Value)} {r : List Value} {M : Mm} {ck sk : Nat} (hd : decode q.2.1 pc = .ok (.iastore, 1)) (ht : mT M a = 20) (hin : vp_in j (mN M a))
    (h : VV p l e R s m args below meth c D cA B q Q (pc + 1) lv r (sI M a j.toNatClampNeg x) ck sk) : VV p l e R s m args below meth c D cA B q Q pc lv (.int x :: .int j :: .ref a :: r) M ck sk := by
  intro H locs ls hP hS hl
  obtain ⟨⟨hx, hb, hml, hown, hts⟩, hKK, -⟩ := X
  obtain ⟨-, hc, hBa, -⟩ := hP.arr (t := 0) ht
  refine W.iast hx hb hc ((hKK.1.2 0 _ (tys_at (by omega))).1 _ _) (fun z => by cases z) (by show ¬ (j < 0 ∨ (arrV _ _ _).slots.size ≤ _); rw [arrV_size]; exact hin) rfl rfl hd fun H1 e1 z o1 => ?_
  refine h H1 _ ls (hP.upd rfl rfl (fun b hb => mv_sI_ne hb) z o1 fun _ => Or.inr ⟨0, ht, by omega, ?_⟩) (hS.put z o1 hBa) hl
  rw [e1, arrV_store, mv_sI_at (by rw [ht]; rfl)]
  rfl
theorem vv_bast (X : Cx p l R s m args meth c D cA B d q mc ms) {pc a : Nat} {j x : Int32} {lv : List (Nat × Value)} {r : List Value} {M : Mm} {ck sk : Nat} (hd : decode q.2.1 pc = .ok (.bastore, 1)) (ht : mT M a = 22) (hin : vp_in j (mN M a))
    (h : VV p l e R s m args below meth c D cA B q Q (pc + 1) lv r (sI M a j.toNatClampNeg x.toInt8.toInt32) ck sk) : VV p l e R s m args below meth c D cA B q Q pc lv (.int x :: .int j :: .ref a :: r) M ck sk := by
  intro H locs ls hP hS hl
  obtain ⟨⟨hx, hb, hml, hown, hts⟩, hKK, -⟩ := X
  obtain ⟨-, hc, hBa, -⟩ := hP.arr (t := 2) ht
  refine W.bast hx hb hc ((hKK.1.2 2 _ (tys_at (by omega))).1 _ _) (fun z => by cases z) (by show ¬ (j < 0 ∨ (arrV _ _ _).slots.size ≤ _); rw [arrV_size]; exact hin) rfl rfl hd fun H1 e1 z o1 => ?_
  refine h H1 _ ls (hP.upd rfl rfl (fun b hb => mv_sI_ne hb) z o1 fun _ => Or.inr ⟨2, ht, by omega, ?_⟩) (hS.put z o1 hBa) hl
  rw [e1, arrV_store, mv_sI_at (by rw [ht]; rfl)]
  rfl
theorem vv_last (X : Cx p l R s m args meth c D cA B d q mc ms) {pc a : Nat} {j : Int32} {x : Int64} {lv : List (Nat × Value)} {r : List Value} {M : Mm} {ck sk : Nat} (hd : decode q.2.1 pc = .ok (.lastore, 1)) (ht : mT M a = 21) (hin : vp_in j (mN M a))
    (h : VV p l e R s m args below meth c D cA B q Q (pc + 1) lv r (sL M a j.toNatClampNeg x) ck sk) : VV p l e R s m args below meth c D cA B q Q pc lv (.long x :: .int j :: .ref a :: r) M ck sk := by
  intro H locs ls hP hS hl
  obtain ⟨⟨hx, hb, hml, hown, hts⟩, hKK, -⟩ := X
  obtain ⟨-, hc, hBa, -⟩ := hP.arr (t := 1) ht
  refine W.last hx hb hc ((hKK.1.2 1 _ (tys_at (by omega))).1 _ _) (fun z => by cases z) (by show ¬ (j < 0 ∨ (arrV _ _ _).slots.size ≤ _); rw [arrV_size]; exact hin) rfl rfl hd fun H1 e1 z o1 => ?_
  refine h H1 _ ls (hP.upd rfl rfl (fun b hb => mv_sL_ne hb) z o1 fun _ => Or.inr ⟨1, ht, by omega, ?_⟩) (hS.put z o1 hBa) hl
  rw [e1, arrV_store, mv_sL_at (by rw [ht]; rfl)]
  rfl
theorem vv_aast (X : Cx p l R s m args meth c D cA B d q mc ms) {pc a b t ci : Nat} {j : Int32} {lv : List (Nat × Value)} {r : List Value} {M : Mm} {ck sk : Nat} (hd : decode q.2.1 pc = .ok (.aastore, 1)) (ht : mT M a = 20 + t) (htb : mT M b = ci + 1) (htc : t = 3 ∧ ci = 2 ∨ t = 4 ∧ ci = 9 ∨ t = 5 ∧ ci = 7) (hin : vp_in j (mN M a))
    (h : VV p l e R s m args below meth c D cA B q Q (pc + 1) lv r (sR M a j.toNatClampNeg (some b)) ck sk) : VV p l e R s m args below meth c D cA B q Q pc lv (.ref b :: .int j :: .ref a :: r) M ck sk := by
  intro H locs ls hP hS hl
  obtain ⟨⟨hx, hb, hml, hown, hts⟩, hKK, -⟩ := X
  obtain ⟨ht7, hc, hBa, -⟩ := hP.arr ht
  obtain ⟨rr, hr, ⟨cellV, g1, g2, g3, -⟩, -, -⟩ := hP.obj htb (by omega)
  have hcls := (hKK.1.1 ci rr hr).2
  have hek : ek (mT M a) j.toNatClampNeg = 2 := by rw [ht]; rcases htc with ⟨rfl, -⟩ | ⟨rfl, -⟩ | ⟨rfl, -⟩ <;> rfl
  have hA9 : ∃ (kA : Class) (comp : ClassId), s.vm.classes[cA t]? = some kA ∧ kA.kind = .array comp (aT t) ∧ s.vm.findClass rr.1 = some comp ∧ (aT t).isReference = true := by
    have h9 := (hKK.1.2 t _ (tys_at ht7)).2
    rcases htc with ⟨rfl, rfl⟩ | ⟨rfl, rfl⟩ | ⟨rfl, rfl⟩ <;> (obtain ⟨kA, comp, k1, k2, k3, -⟩ := h9; cases hr; exact ⟨kA, comp, k1, k2, k3, rfl⟩)
  obtain ⟨kA, comp, k1, k2, k3, k4⟩ := hA9
  have hcomp : comp = D.1 ci := Option.some.inj (k3.symm.trans hcls.1)
  subst hcomp
  obtain ⟨kC, hkC, -⟩ := hcls.2
  refine W.aast hx hb hc (fun z h => by cases h) (fun h => by cases h) k1 k2 k4 hkC ⟨fun z => hin (Or.inl z), by show _ < (arrV _ _ _).slots.size; rw [arrV_size]; exact vp_lt hin⟩ g1 (fun z h => by rw [g3] at h; cases h) (by rw [g2]; exact hkC) (by rw [g2]; exact va_assign hcls) rfl rfl hd fun H1 e1 z o1 => ?_
  refine h H1 _ ls (hP.upd rfl rfl (fun b hb => mv_sR_ne hb) z o1 fun _ => Or.inr ⟨t, ht, ht7, ?_⟩) (hS.put z o1 hBa) hl
  rw [e1, arrV_store, mv_sR_at hek]
  rfl
theorem vv_alen (X : Cx p l R s m args meth c D cA B d q mc ms) {pc a : Nat} {lv : List (Nat × Value)} {r : List Value} {M : Mm} {ck sk : Nat} (hd : decode q.2.1 pc = .ok (.arraylength, 1)) (ht : 20 ≤ mT M a)
    (h : VV p l e R s m args below meth c D cA B q Q (pc + 1) lv (.int (Int32.ofNat (mN M a)) :: r) M ck sk) : VV p l e R s m args below meth c D cA B q Q pc lv (.ref a :: r) M ck sk := by
  intro H locs ls hP hS hl
  obtain ⟨⟨hx, hb, hml, hown, hts⟩, hKK, -⟩ := X
  obtain ⟨ht7, hc, hBa, -⟩ := hP.arr (a := a) (t := mT M a - 20) (by omega)
  exact W.alen (n := Int32.ofNat (mN M a)) hx hb hc ((hKK.1.2 _ _ (tys_at ht7)).1 _ _) (by rw [arrV_size] <;> rfl) rfl rfl hd (h H locs ls hP hS hl)
theorem vv_iald (X : Cx p l R s m args meth c D cA B d q mc ms) {pc a : Nat} {j : Int32} {lv : List (Nat × Value)} {r : List Value} {M : Mm} {ck sk : Nat} (hd : decode q.2.1 pc = .ok (.iaload, 1)) (ht : mT M a = 20) (hin : vp_in j (mN M a))
    (h : VV p l e R s m args below meth c D cA B q Q (pc + 1) lv (.int (mI M a j.toNatClampNeg) :: r) M ck sk) : VV p l e R s m args below meth c D cA B q Q pc lv (.int j :: .ref a :: r) M ck sk := by
  intro H locs ls hP hS hl
  obtain ⟨⟨hx, hb, hml, hown, hts⟩, hKK, -⟩ := X
  obtain ⟨-, hc, -⟩ := hP.arr (t := 0) ht
  exact W.iald (v := .int (mI M a j.toNatClampNeg)) hx hb hc ((hKK.1.2 0 _ (tys_at (by omega))).1 _ _) (fun z => by cases z) (by show ¬ (j < 0 ∨ (arrV _ _ _).slots.size ≤ _); rw [arrV_size]; exact hin) (by rw [arrV_read _ _ (vp_lt hin), mv_int ht]) rfl rfl hd (h H locs ls hP hS hl)
theorem vv_bald (X : Cx p l R s m args meth c D cA B d q mc ms) {pc a : Nat} {j : Int32} {lv : List (Nat × Value)} {r : List Value} {M : Mm} {ck sk : Nat} (hd : decode q.2.1 pc = .ok (.baload, 1)) (ht : mT M a = 22) (hin : vp_in j (mN M a))
    (h : VV p l e R s m args below meth c D cA B q Q (pc + 1) lv (.int (mI M a j.toNatClampNeg) :: r) M ck sk) : VV p l e R s m args below meth c D cA B q Q pc lv (.int j :: .ref a :: r) M ck sk := by
  intro H locs ls hP hS hl
  obtain ⟨⟨hx, hb, hml, hown, hts⟩, hKK, -⟩ := X
  obtain ⟨-, hc, -⟩ := hP.arr (t := 2) ht
  exact W.bald (v := .int (mI M a j.toNatClampNeg)) hx hb hc ((hKK.1.2 2 _ (tys_at (by omega))).1 _ _) (fun z => by cases z) (by show ¬ (j < 0 ∨ (arrV _ _ _).slots.size ≤ _); rw [arrV_size]; exact hin) (by rw [arrV_read _ _ (vp_lt hin), mv_byte ht]) rfl rfl hd (h H locs ls hP hS hl)
theorem vv_lald (X : Cx p l R s m args meth c D cA B d q mc ms) {pc a : Nat} {j : Int32} {lv : List (Nat × Value)} {r : List Value} {M : Mm} {ck sk : Nat} (hd : decode q.2.1 pc = .ok (.laload, 1)) (ht : mT M a = 21) (hin : vp_in j (mN M a))
    (h : VV p l e R s m args below meth c D cA B q Q (pc + 1) lv (.long (mL M a j.toNatClampNeg) :: r) M ck sk) : VV p l e R s m args below meth c D cA B q Q pc lv (.int j :: .ref a :: r) M ck sk := by
  intro H locs ls hP hS hl
  obtain ⟨⟨hx, hb, hml, hown, hts⟩, hKK, -⟩ := X
  obtain ⟨-, hc, -⟩ := hP.arr (t := 1) ht
  exact W.lald (v := .long (mL M a j.toNatClampNeg)) hx hb hc ((hKK.1.2 1 _ (tys_at (by omega))).1 _ _) (fun z => by cases z) (by show ¬ (j < 0 ∨ (arrV _ _ _).slots.size ≤ _); rw [arrV_size]; exact hin) (by rw [arrV_read _ _ (vp_lt hin), mv_long ht]) rfl rfl hd (h H locs ls hP hS hl)
theorem vv_aald (X : Cx p l R s m args meth c D cA B d q mc ms) {pc a t : Nat} {j : Int32} {lv : List (Nat × Value)} {r : List Value} {M : Mm} {ck sk : Nat} (hd : decode q.2.1 pc = .ok (.aaload, 1)) (ht4 : t < 4) (ht : mT M a = 23 + t) (hin : vp_in j (mN M a))
    (h : VV p l e R s m args below meth c D cA B q Q (pc + 1) lv (va_rf (mR M a j.toNatClampNeg) :: r) M ck sk) : VV p l e R s m args below meth c D cA B q Q pc lv (.int j :: .ref a :: r) M ck sk := by
  intro H locs ls hP hS hl
  obtain ⟨⟨hx, hb, hml, hown, hts⟩, hKK, -⟩ := X
  obtain ⟨ht7, hc, -⟩ := hP.arr (a := a) (t := 3 + t) (by omega)
  have hr : (aT (3 + t)).isReference = true := by
    match t, ht4 with
    | 0, _ => rfl
    | 1, _ => rfl
    | 2, _ => rfl
    | 3, _ => rfl
  exact W.aald (v := va_rf (mR M a j.toNatClampNeg)) (ty := aT (3 + t)) hx hb hc ((hKK.1.2 _ _ (tys_at ht7)).1 _ _) hr (fun z => by cases z) (by show ¬ (j < 0 ∨ (arrV _ _ _).slots.size ≤ _); rw [arrV_size]; exact hin) (by rw [arrV_read _ _ (vp_lt hin), mv_ref ht4 ht]) rfl rfl hd (h H locs ls hP hS hl)
theorem vv_new (X : Cx p l R s m args meth c D cA B d q mc ms) {pc j ci : Nat} {lv : List (Nat × Value)} {st : List Value} {M : Mm} {ck sk : Nat} (hd : decode q.2.1 pc = .ok (.new j, 3)) (hn : P_nw q.2.2.2.2.1 j = some ci) (h1 : ck + 1 ≤ mc) (h2 : sk + P_sz ci ≤ ms)
    (h : ∀ b, mT M b = 0 → VV p l e R s m args below meth c D cA B q Q (pc + 3) lv (.ref b :: st) (sN M b (ci + 1) (P_sz ci)) (ck + 1) (sk + P_sz ci)) : VV p l e R s m args below meth c D cA B q Q pc lv st M ck sk := by
  intro H locs ls hP hS hl
  obtain ⟨⟨hx, hb, hml, hown, hts⟩, hKK, hB, -, -, -, -, hRc, hRs, -⟩ := X
  obtain ⟨C, T, N, hc, hw1, hw2, hw3⟩ := P_nw_ok hn
  have hc : vwCl[ci]? = some (C, T, N) := hc
  have hci : ci < 13 := by
    have := (List.getElem?_eq_some_iff.mp hc).1
    simpa [vwCl] using this
  have hsz : P_sz ci = N := by unfold P_sz; rw [hc]
  obtain ⟨hin, hty, hnm, hC, hdec⟩ := vwCl_ok ci _ hc
  have hKn := hKK.1.1 ci _ hc
  rw [hsz] at h2 h
  subst hRc; subst hRs
  refine W.newcK hx hb hown (hts _ hw1) (hts _ hw2) (hts _ hw3) rfl hd h1 h2 hKn.2.1 rfl fun H1 kC hkC e1 z1 o1 => ?_
  refine h H.size hP.fresh H1 locs ls (hP.add z1 o1 (Or.inl ⟨ci, _, rfl, hci, hc, ?_⟩)) ⟨Nat.le_trans hS.1 (by omega), fun x h8 h9 => (o1 x (Nat.lt_of_lt_of_le h8 hS.1)).trans (hS.2.1 x h8 h9), hS.2.2⟩ hl
  refine (u_born (P_ty ci) hts hin hKn hkC e1 hty).to (fun k hk => ?_)
  rw [mv_obj hci sN_T]
  have hp := P_ty_ok ci hci k (by rw [hsz]; exact hk)
  generalize P_ty ci k = ty9 at hp
  cases ty9 <;> first | (cases hp; done) | (simp only [wv, kt, sN_I, sN_L, sN_R]; rfl)
theorem vv_newarr (X : Cx p l R s m args meth c D cA B d q mc ms) {pc tt : Nat} {t : ArrayType} {z : Int32} {lv : List (Nat × Value)} {r : List Value} {M : Mm} {ck sk : Nat} (hd : decode q.2.1 pc = .ok (.newarray t, 2)) (ht : t = .int ∧ tt = 0 ∨ t = .long ∧ tt = 1 ∨ t = .byte ∧ tt = 2) (h0 : ¬ z < 0) (hz : z.toNatClampNeg ≤ 10000) (h1 : ck + 1 ≤ mc) (h2 : sk + z.toNatClampNeg ≤ ms)
    (h : ∀ b, mT M b = 0 → VV p l e R s m args below meth c D cA B q Q (pc + 2) lv (.ref b :: r) (sN M b (20 + tt) z.toNatClampNeg) (ck + 1) (sk + z.toNatClampNeg)) : VV p l e R s m args below meth c D cA B q Q pc lv (.int z :: r) M ck sk := by
  intro H locs ls hP hS hl
  obtain ⟨⟨hx, hb, hml, hown, hts⟩, hKK, hB, -, -, -, -, hRc, hRs, -⟩ := X
  subst hRc; subst hRs
  have hty : newarray.typeOf t = aT tt := by rcases ht with ⟨rfl, rfl⟩ | ⟨rfl, rfl⟩ | ⟨rfl, rfl⟩ <;> rfl
  have ht7 : tt < 3 := by rcases ht with ⟨-, rfl⟩ | ⟨-, rfl⟩ | ⟨-, rfl⟩ <;> omega
  have harr : (Jvm.Cond.arrayClass (newarray.typeOf t)).before args s = true := by
    rcases ht with ⟨rfl, rfl⟩ | ⟨rfl, rfl⟩ | ⟨rfl, rfl⟩
    · exact hts _ wArr_int
    · exact hts _ wArr_long
    · exact hts _ wArr_byte
  have hcb : componentBytes (newarray.typeOf t) ≤ 8 := by rcases ht with ⟨rfl, rfl⟩ | ⟨rfl, rfl⟩ | ⟨rfl, rfl⟩ <;> decide
  refine va_newaK hx hb harr rfl hd rfl h0 rfl (Nat.le_trans (Nat.mul_le_mul hz hcb) (by decide)) h1 h2 rfl fun H1 cA9 e1 z1 o1 hAr hNm => ?_
  have hcA : cA9 = cA tt := by
    have h9 := (hKK.1.2 tt _ (tys_at (by omega))).2
    have h8 : s.vm.findClass ("[" ++ (aT tt).toString) = some (cA tt) := by
      match tt, ht7, h9 with
      | 0, _, h9 => exact h9
      | 1, _, h9 => exact h9
      | 2, _, h9 => exact h9
    rw [hty] at hNm
    exact Option.some.inj (hNm.symm.trans h8)
  refine h H.size hP.fresh H1 locs ls (hP.add z1 o1 (Or.inr ⟨tt, rfl, by omega, ?_⟩)) ⟨Nat.le_trans hS.1 (by omega), fun x h8 h9 => (o1 x (Nat.lt_of_lt_of_le h8 hS.1)).trans (hS.2.1 x h8 h9), hS.2.2⟩ hl
  rw [e1, hcA]
  refine congrArg (fun f => some (arrV (cA tt) z.toNatClampNeg f)) (funext fun k => ?_)
  rw [hty]
  match tt, ht7 with
  | 0, _ => rw [mv_int sN_T, sN_I]; rfl
  | 1, _ => rw [mv_long sN_T, sN_L]; rfl
  | 2, _ => rw [mv_byte sN_T, sN_I]; rfl
theorem vv_anew (X : Cx p l R s m args meth c D cA B d q mc ms) {pc j tt ci : Nat} {z : Int32} {lv : List (Nat × Value)} {r : List Value} {M : Mm} {ck sk : Nat} (hd : decode q.2.1 pc = .ok (.anewarray j, 3)) (hn : P_nw q.2.2.2.2.1 j = some ci) (ht : tt = 3 ∧ ci = 2 ∨ tt = 4 ∧ ci = 9 ∨ tt = 5 ∧ ci = 7) (h0 : ¬ z < 0) (hz : z.toNatClampNeg ≤ 10000) (h1 : ck + 1 ≤ mc) (h2 : sk + z.toNatClampNeg ≤ ms)
    (h : ∀ b, mT M b = 0 → VV p l e R s m args below meth c D cA B q Q (pc + 3) lv (.ref b :: r) (sN M b (20 + tt) z.toNatClampNeg) (ck + 1) (sk + z.toNatClampNeg)) : VV p l e R s m args below meth c D cA B q Q pc lv (.int z :: r) M ck sk := by
  intro H locs ls hP hS hl
  obtain ⟨⟨hx, hb, hml, hown, hts⟩, hKK, hB, -, -, -, -, hRc, hRs, -⟩ := X
  subst hRc; subst hRs
  obtain ⟨C, T, N, hc, hw1, -, -⟩ := P_nw_ok hn
  have hc : vwCl[ci]? = some (C, T, N) := hc
  have hover : va_AO C s ∧ aT tt = .object C ∧ s.vm.findClass ("[" ++ (FieldType.object C).toString) = some (cA tt) ∧ 3 ≤ tt ∧ tt < 6 := by
    rcases ht with ⟨rfl, rfl⟩ | ⟨rfl, rfl⟩ | ⟨rfl, rfl⟩ <;> cases hc
    · obtain ⟨_, _, -, -, -, k4⟩ := (hKK.1.2 3 _ (tys_at (by omega))).2
      exact ⟨hKK.2.2.2.2.2.1, rfl, k4, by omega, by omega⟩
    · obtain ⟨_, _, -, -, -, k4⟩ := (hKK.1.2 4 _ (tys_at (by omega))).2
      exact ⟨hKK.2.2.2.2.2.2.1, rfl, k4, by omega, by omega⟩
    · obtain ⟨_, _, -, -, -, k4⟩ := (hKK.1.2 5 _ (tys_at (by omega))).2
      exact ⟨hKK.2.2.2.2.2.2.2.1, rfl, k4, by omega, by omega⟩
  obtain ⟨hAO, haT, hcA, ht3, ht6⟩ := hover
  refine W.anew hx hb hown (hts _ hw1) (va_AO.use hAO) rfl hd rfl h0 (Nat.le_trans (Nat.mul_le_mul_right 4 hz) (by decide)) h1 h2 fun cA9 kA comp f1 f2 f3 f4 => ?_
  have hc9 : cA9 = cA tt := Option.some.inj (f1.symm.trans hcA)
  subst hc9
  have e1 : (H.push { cls := cA tt, slots := Array.replicate z.toNatClampNeg .null, vm := .none })[H.size]? = some (arrV (cA tt) z.toNatClampNeg (fun _ => .null)) := by rw [← arrV_new]; simp
  have o1 : ∀ x, x < H.size → (H.push { cls := cA tt, slots := Array.replicate z.toNatClampNeg .null, vm := .none })[x]? = H[x]? := fun x hx9 => by simp [Array.getElem?_push, Nat.ne_of_lt hx9]
  refine h H.size hP.fresh _ locs ls (hP.add (by simp) o1 (Or.inr ⟨tt, rfl, by omega, ?_⟩)) ⟨Nat.le_trans hS.1 (by simp), fun x h8 h9 => (o1 x (Nat.lt_of_lt_of_le h8 hS.1)).trans (hS.2.1 x h8 h9), hS.2.2⟩ hl
  rw [e1]
  refine congrArg (fun f => some (arrV (cA tt) z.toNatClampNeg f)) (funext fun k => ?_)
  rw [mv_ref (t := tt - 3) (by omega) (sN_T.trans (by omega)), sN_R]
  rfl
end Step
end
-- 09.excI.lean.txt
section
/-! ===== BEGIN a constructor that throws (launches without stack traces) ===== -/
section VXIA
variable {p : Program} {l : Launch} {e : Env} {R : Room} {s : State} {m : MethodId} {args : Array Value} {below : List Frame} {meth : Method} {c : Code} {T : State} {locs : List Loc} {cells slots : Nat}
theorem vx_callI (X : Stand p l e R s m args below meth c T locs cells slots) (hexec : p.tables.exec = Jvm.exec) {own : String} {index : Nat} {y : MethodName} {bytes : ByteArray} {maxL : Nat}
    (hown : s.vm.findClass own = some m.cls) (hy1 : y.name = "<init>") (hlink : (Cond.methodLink own index y).before args s = true) (hinst : (Cond.instanceMethod y).before args s = true)
    (hcode : (Cond.code y bytes maxL none).before args s = true) (hy : y.cls ≠ "java/lang/invoke/MethodHandle" ∧ y.cls ≠ "java/lang/invoke/VarHandle")
    {W9 : Nat} {Pre : Pt → Array Value → Prop} {Post : Pt → Array Value → Option Value → Pt → Prop} {PostX : Pt → Array Value → Addr → Pt → Prop} (hK : vx_Back l R p e below s args y 3 W9 Pre Post PostX)
    {g : JFrame} (hg : g.method = m) (hsize : g.locals.size = c.maxLocals) {a : Addr} {argsL rest : List Value} (hlen : ∀ sig, parseMethodDescriptor y.desc = some sig → argsL.length = sig.parameters.length)
    (hstack : g.stack = argsL.reverse ++ .ref a :: rest) (hW : 2 * g.monitorRoom + (rest.map fun v => v.category).sum ≤ W9) (hdg : decode c.code g.pc = .ok (.invokespecial index, 3))
    (hpre : ∀ vm₁, s.WarmedH vm₁ → Pre ⟨T.setVm vm₁, locs, cells, slots⟩ (Value.ref a :: argsL).toArray) :
    (∃ (v : Option Value) (vm₁ : Vm) (B : Pt), s.WarmedH vm₁ ∧ Stand p l e R s m args below meth c B.U B.locs B.cells B.slots ∧ Post ⟨T.setVm vm₁, locs, cells, slots⟩ (Value.ref a :: argsL).toArray v B ∧
      ∀ target, Steps p.tables e below (B.U.setTop { g with pc := g.pc + 3, stack := v.toList ++ rest }) target → Steps p.tables e below (T.setTop g) target) ∨
    (∃ (q : Addr) (vm₁ : Vm) (B : Pt), s.WarmedH vm₁ ∧ Stand p l e R s m args below meth c B.U B.locs B.cells B.slots ∧ PostX ⟨T.setVm vm₁, locs, cells, slots⟩ (Value.ref a :: argsL).toArray q B ∧
      Steps p.tables e below (T.setTop g) ((B.U.setTop { g with stack := rest }).pushFrame (.throwing q))) := by
  subst hg
  have hpl : e.platform.magicAccessors = ({} : Platform).magicAccessors := by rw [X.admits.platform]
  obtain ⟨mk, methM, cM, kP, vm₁, hnamed, hmethM, hcodeM, -, hlocalsM, -, hkP, -, hW₁, hstep₁⟩ := Steps.initColdArgs (e := e) X.here hexec X.warmed hpl hown hy1 hy hlink hinst hcode (f := g) rfl hlen hstack hdg
  have X₁ := X.noted hW₁
  rcases hK g.method meth c ⟨T.setVm vm₁, locs, cells, slots⟩ { g with stack := rest } (.invokespecial index) mk (Value.ref a :: argsL).toArray X₁ rfl hsize hdg hW (X₁.named hnamed) (hpre vm₁ X₁.warmed) with ⟨v, B, X', hpost, hsteps⟩ | ⟨q, B, X', hpost, hsteps⟩
  · exact Or.inl ⟨v, vm₁, B, X₁.warmed, X', hpost, fun target h => hstep₁ _ fun acts => by rw [doInvoke_state]; exact hsteps.trans h⟩
  · exact Or.inr ⟨q, vm₁, B, X₁.warmed, X', hpost, hstep₁ _ fun acts => by rw [doInvoke_state]; exact hsteps⟩
end VXIA
section VXIB
variable {p : Program} {l : Launch} {e : Env} {R : Room} {s : State} {m : MethodId} {args : Array Value} {below : List Frame} {meth : Method} {c : Code} {H : Heap} {locs : List Loc} {cells slots : Nat}
variable {y : MethodName} {bytes cc : ByteArray} {maxL nL mc ms n index : Nat} {ret : Option FieldType} {ws : List Cond} {rm : Room} {Pc : Array Value → State → Prop} {Qc : Array Value → State → Outcome → State → Prop} {XC : String → State → State → Prop} {free : Addr → Prop} {Ts : List Cond} {own C : String} {b : Addr} {As rest : List Value} {g : JFrame}
theorem vx_runI (S : CallFix p m c cc nL s args Ts own) (hM : vx_Met l y ws rm Pc Qc XC mc ms free) (cw : CallB R s args own index y bytes maxL none ws rm mc ms n ∧ y.name = "<init>" ∧ (Cond.instanceMethod y).before args s = true) (hp : PreS s H Pc (.ref b :: As))
    (hg : g.method = m) (hn : As.length = n) (hsize : g.locals.size = nL) (hstack : g.stack = As.reverse ++ .ref b :: rest) (hW : 2 * g.monitorRoom + (rest.map fun v => v.category).sum ≤ 8) (hdg : decode cc g.pc = .ok (.invokespecial index, 3)) (hf : cells + mc ≤ R.cells ∧ slots + ms ≤ R.slots) :
    vx_Run p l e R s m args below meth c H locs cells slots mc ms g rest (Qc (Value.ref b :: As).toArray) XC free := by
  have hK : vx_Back l R p e below s args y 3 8 (PreOf R mc ms Pc) (PostOf Qc mc ms free) (vx_Post XC mc ms free) := vx_callBack cw.1 hM hp.1
  obtain ⟨⟨-, -, -, -, -, -, hcode, -, hy, hlen, hl⟩, hy1, hin⟩ := cw
  obtain ⟨hx, hb, hml, ho, -⟩ := S
  have hPc := hp.2
  intro T hT X
  rcases vx_callI X hx (bytes := bytes) (maxL := maxL) ho hy1 hl hin hcode hy hK hg (hsize.trans hml.symm) (a := b) (argsL := As) (rest := rest) (fun sig h => hn.trans (hlen sig h)) hstack hW (by rw [hb]; exact hdg)
    (fun vm₁ hW₁ => ⟨hf.1, hf.2, hPc (T.setVm vm₁) hT hW₁⟩) with ⟨v, vm₁, ⟨U', l2, c2, s2⟩, hW₁, X', ⟨g', mk, t, L, e1, e2, hq, h1, hL, h2, h3⟩, st⟩ | ⟨q, vm₁, ⟨U', l2, c2, s2⟩, hW₁, X', ⟨g', mk, t, L, E, ce, e1, e2, hq, hce, hcv, hcl, h1, hL, h2, h3⟩, st⟩
  · dsimp only [Pt.U, Pt.locs, Pt.cells, Pt.slots] at X' e1 e2 h1 h2 h3 st
    subst h1; subst h2; subst h3
    exact Or.inl ⟨v, (T.setVm vm₁).calling g' mk (Value.ref b :: As).toArray, t, U', L, hT, X', hL, e1, e2, hq, st⟩
  · dsimp only [Pt.U, Pt.locs, Pt.cells, Pt.slots] at X' e1 e2 h1 h2 h3 st hcl
    subst h1; subst h2; subst h3
    exact Or.inr ⟨q, (T.setVm vm₁).calling g' mk (Value.ref b :: As).toArray, t, U', L, E, ce, hT, X', hL, e1, e2, hq, hce, hcv, vx_cls hW₁ hcl, st⟩
end VXIB
/-! ===== END ===== -/
/-! ===== BEGIN a private constructor of a nest mate that throws ===== -/
section VXIC
variable {p : Program} {l : Launch} {e : Env} {R : Room} {s : State} {m : MethodId} {args : Array Value} {below : List Frame} {meth : Method} {c : Code} {T : State} {locs : List Loc} {cells slots : Nat}
theorem vx_callIN (X : Stand p l e R s m args below meth c T locs cells slots) (hexec : p.tables.exec = Jvm.exec) {own : String} {index : Nat} {host : String} {y : MethodName} {bytes : ByteArray} {maxL : Nat}
    (hown : s.vm.findClass own = some m.cls) (hy1 : y.name = "<init>") (hlink : (Cond.methodLinkNest own index y host).before args s = true) (hinst : (Cond.instanceMethod y).before args s = true)
    (hcode : (Cond.code y bytes maxL none).before args s = true) (hy : y.cls ≠ "java/lang/invoke/MethodHandle" ∧ y.cls ≠ "java/lang/invoke/VarHandle")
    {W9 : Nat} {Pre : Pt → Array Value → Prop} {Post : Pt → Array Value → Option Value → Pt → Prop} {PostX : Pt → Array Value → Addr → Pt → Prop} (hK : vx_Back l R p e below s args y 3 W9 Pre Post PostX)
    {g : JFrame} (hg : g.method = m) (hsize : g.locals.size = c.maxLocals) {a : Addr} {argsL rest : List Value} (hlen : ∀ sig, parseMethodDescriptor y.desc = some sig → argsL.length = sig.parameters.length)
    (hstack : g.stack = argsL.reverse ++ .ref a :: rest) (hW : 2 * g.monitorRoom + (rest.map fun v => v.category).sum ≤ W9) (hdg : decode c.code g.pc = .ok (.invokespecial index, 3))
    (hpre : ∀ vm₁, s.WarmedH vm₁ → Pre ⟨T.setVm vm₁, locs, cells, slots⟩ (Value.ref a :: argsL).toArray) :
    (∃ (v : Option Value) (vm₁ : Vm) (B : Pt), s.WarmedH vm₁ ∧ Stand p l e R s m args below meth c B.U B.locs B.cells B.slots ∧ Post ⟨T.setVm vm₁, locs, cells, slots⟩ (Value.ref a :: argsL).toArray v B ∧
      ∀ target, Steps p.tables e below (B.U.setTop { g with pc := g.pc + 3, stack := v.toList ++ rest }) target → Steps p.tables e below (T.setTop g) target) ∨
    (∃ (q : Addr) (vm₁ : Vm) (B : Pt), s.WarmedH vm₁ ∧ Stand p l e R s m args below meth c B.U B.locs B.cells B.slots ∧ PostX ⟨T.setVm vm₁, locs, cells, slots⟩ (Value.ref a :: argsL).toArray q B ∧
      Steps p.tables e below (T.setTop g) ((B.U.setTop { g with stack := rest }).pushFrame (.throwing q))) := by
  subst hg
  have hpl : e.platform.magicAccessors = ({} : Platform).magicAccessors := by rw [X.admits.platform]
  obtain ⟨mk, methM, cM, kP, vm₁, hnamed, hmethM, hcodeM, -, hlocalsM, -, hkP, -, hW₁, hstep₁⟩ := Steps.initColdArgsNest (e := e) X.here hexec X.warmed hpl hown hy1 hy hlink hinst hcode (f := g) rfl hlen hstack hdg
  have X₁ := X.noted hW₁
  rcases hK g.method meth c ⟨T.setVm vm₁, locs, cells, slots⟩ { g with stack := rest } (.invokespecial index) mk (Value.ref a :: argsL).toArray X₁ rfl hsize hdg hW (X₁.named hnamed) (hpre vm₁ X₁.warmed) with ⟨v, B, X', hpost, hsteps⟩ | ⟨q, B, X', hpost, hsteps⟩
  · exact Or.inl ⟨v, vm₁, B, X₁.warmed, X', hpost, fun target h => hstep₁ _ fun acts => by rw [doInvoke_state]; exact hsteps.trans h⟩
  · exact Or.inr ⟨q, vm₁, B, X₁.warmed, X', hpost, hstep₁ _ fun acts => by rw [doInvoke_state]; exact hsteps⟩
end VXIC
section VXID
variable {p : Program} {l : Launch} {e : Env} {R : Room} {s : State} {m : MethodId} {args : Array Value} {below : List Frame} {meth : Method} {c : Code} {H : Heap} {locs : List Loc} {cells slots : Nat}
theorem vx_runIN {y : MethodName} {bytes cc : ByteArray} {maxL nL mc ms n index : Nat} {ws : List Cond} {rm : Room} {Pc : Array Value → State → Prop} {Qc : Array Value → State → Outcome → State → Prop} {XC : String → State → State → Prop} {free : Addr → Prop} {Ts : List Cond} {own host : String} {b : Addr} {As rest : List Value} {g : JFrame}
    (S : CallFix p m c cc nL s args Ts own) (hM : vx_Met l y ws rm Pc Qc XC mc ms free) (cw : va_CN R s args own index y host bytes maxL none ws rm mc ms n ∧ y.name = "<init>" ∧ (Cond.instanceMethod y).before args s = true) (hp : PreS s H Pc (.ref b :: As))
    (hg : g.method = m) (hn : As.length = n) (hsize : g.locals.size = nL) (hstack : g.stack = As.reverse ++ .ref b :: rest) (hW : 2 * g.monitorRoom + (rest.map fun v => v.category).sum ≤ 8) (hdg : decode cc g.pc = .ok (.invokespecial index, 3)) (hf : cells + mc ≤ R.cells ∧ slots + ms ≤ R.slots) :
    vx_Run p l e R s m args below meth c H locs cells slots mc ms g rest (Qc (Value.ref b :: As).toArray) XC free := by
  obtain ⟨⟨⟨hrc, hrs, hfr, hlo, hws, hcw⟩, hcode, hini, hy, hlen, hl⟩, hx1, hx2⟩ := cw
  have hK : vx_Back l R p e below s args y 3 8 (PreOf R mc ms Pc) (PostOf Qc mc ms free) (vx_Post XC mc ms free) := vx_back (bytes := bytes) (maxL := maxL) (ret := none) hM hp.1 hrc hrs hfr hlo hws hcw (fun a' U hW => word_at hW (Or.inl (by first | rfl | simp [Cond.onTables, Cond.keeps, Cond.steady])) hini)
  obtain ⟨hx, hb, hml, ho, -⟩ := S
  have hPc := hp.2
  intro T hT X
  rcases vx_callIN X hx (bytes := bytes) (maxL := maxL) ho hx1 hl hx2 hcode hy hK hg (hsize.trans hml.symm) (a := b) (argsL := As) (rest := rest) (fun sig h => hn.trans (hlen sig h)) hstack hW (by rw [hb]; exact hdg)
    (fun vm₁ hW₁ => ⟨hf.1, hf.2, hPc (T.setVm vm₁) hT hW₁⟩) with ⟨v, vm₁, ⟨U', l2, c2, s2⟩, hW₁, X', ⟨g', mk, t, L, e1, e2, hq, h1, hL, h2, h3⟩, st⟩ | ⟨q, vm₁, ⟨U', l2, c2, s2⟩, hW₁, X', ⟨g', mk, t, L, E, ce, e1, e2, hq, hce, hcv, hcl, h1, hL, h2, h3⟩, st⟩
  · dsimp only [Pt.U, Pt.locs, Pt.cells, Pt.slots] at X' e1 e2 h1 h2 h3 st
    subst h1; subst h2; subst h3
    exact Or.inl ⟨v, (T.setVm vm₁).calling g' mk (Value.ref b :: As).toArray, t, U', L, hT, X', hL, e1, e2, hq, st⟩
  · dsimp only [Pt.U, Pt.locs, Pt.cells, Pt.slots] at X' e1 e2 h1 h2 h3 st hcl
    subst h1; subst h2; subst h3
    exact Or.inr ⟨q, (T.setVm vm₁).calling g' mk (Value.ref b :: As).toArray, t, U', L, E, ce, hT, X', hL, e1, e2, hq, hce, hcv, vx_cls hW₁ hcl, st⟩
end VXID
/-! ===== END ===== -/
end
-- 09.mna.lean.txt
section
/-! new int[n][k]: the outer array, then its rows, one behind another -/
theorem wMna : Cond.classLink RX5 21 "[[I" ∈ wsL_law := inr5 _ (List.mem_of_getElem? (i := 21) rfl)
theorem Rp.freshAll {D : va_G} {cA : Nat → ClassId} {B : Nat} {M : Mm} {H : Heap} (h : Rp D cA B M H) : ∀ c, H.size ≤ c → mT M c = 0 := by
  intro c hc
  rcases Nat.eq_zero_or_pos (mT M c) with e | e
  · exact e
  · exact absurd (h.2 c (by omega)).2.1 (by omega)
section Mna
variable {p : Program} {l : Launch} {e : Env} {R : Room} {s : State} {m : MethodId} {args : Array Value} {below : List Frame} {meth : Method} {c : Code} {D : va_G} {cA : Nat → ClassId} {B d : Nat} {q : mm_T} {mc ms : Nat} {Q : State → Prop}
theorem vv_mna (X : Cx p l R s m args meth c D cA B d q mc ms) {pc : Nat} {z y : Int32} {lv : List (Nat × Value)} {r : List Value} {M : Mm} {ck sk : Nat} (hd : decode q.2.1 pc = .ok (.multianewarray 21 2, 4)) (ho : q.2.2.2.2.1 = 5) (h0 : ¬ z < 0) (h1 : ¬ y < 0) (hz : z.toNatClampNeg ≤ 1000) (hy : y.toNatClampNeg ≤ 1000) (hc : ck + (1 + z.toNatClampNeg) ≤ mc) (hs : sk + (z.toNatClampNeg + z.toNatClampNeg * y.toNatClampNeg) ≤ ms)
    (h : ∀ b, (∀ c, b ≤ c → mT M c = 0) → VV p l e R s m args below meth c D cA B q Q (pc + 4) lv (.ref b :: r) (sMN M b z.toNatClampNeg y.toNatClampNeg) (ck + (1 + z.toNatClampNeg)) (sk + (z.toNatClampNeg + z.toNatClampNeg * y.toNatClampNeg))) : VV p l e R s m args below meth c D cA B q Q pc lv (.int y :: .int z :: r) M ck sk := by
  intro H locs ls hP hS hl T hT Xs
  obtain ⟨⟨hx, hb, hml, hown, hts⟩, hKK, hB, -, -, -, -, hRc, hRs, -⟩ := X
  subst hRc; subst hRs
  rw [ho] at hown
  have hRA6 : s.vm.findClass ("[" ++ (FieldType.array .int).toString) = some (cA 6) := (hKK.1.2 6 _ (tys_at (by omega))).2
  have hRA0 : s.vm.findClass ("[" ++ FieldType.int.toString) = some (cA 0) := (hKK.1.2 0 _ (tys_at (by omega))).2
  obtain ⟨vm₁, cA9, comp, -, fA, fC, hO, -, X', step⟩ := Xs.multianewarray2F hx hown (ty := .int) (hts _ wMna) (va_AOA.use hKK.2.2.2.2.2.2.2.2.1) (hts _ wArr_int) (g := F0 m pc ls (.int y :: .int z :: r)) rfl (by rw [hb]; exact hd) rfl h0 h1 (by omega) (by show y.toNatClampNeg * 4 ≤ _; omega) (by omega) rfl rfl hc hs
  have e6 : cA9 = cA 6 := Option.some.inj (fA.symm.trans hRA6)
  have e0 : comp = cA 0 := Option.some.inj (fC.symm.trans hRA0)
  subst e6; subst e0
  generalize hF : Jvm.Free.Multi.fill (T.setVm vm₁) (cA 6) (cA 0) z.toNatClampNeg y.toNatClampNeg (defaultValue .int) z.toNatClampNeg = F at X' step
  have hTh : (T.setVm vm₁).heap = H := hT
  obtain ⟨f1, f2, -, -⟩ := Jvm.Free.Multi.fill_facts (T.setVm vm₁) (cA 6) (cA 0) z.toNatClampNeg y.toNatClampNeg (defaultValue .int) z.toNatClampNeg
  rw [hF, hTh] at f1 f2
  have hold : ∀ x : Nat, x < H.size → F.heap[x]? = H[x]? := fun x hx => by
    have := Jvm.Free.Multi.fill_old (T.setVm vm₁) (cA 6) (cA 0) z.toNatClampNeg y.toNatClampNeg (defaultValue .int) (a := x) (by rw [hTh]; exact hx) z.toNatClampNeg
    rw [hF, hTh] at this
    exact this
  have hrow : ∀ j : Nat, j < z.toNatClampNeg → F.heap[H.size + 1 + j]? = some (Jvm.Free.Multi.innerC (cA 0) y.toNatClampNeg (defaultValue .int)) := fun j hj => by
    have := Jvm.Free.Multi.fill_inner (T.setVm vm₁) (cA 6) (cA 0) z.toNatClampNeg y.toNatClampNeg (defaultValue .int) z.toNatClampNeg j hj
    rw [hF, hTh] at this
    exact this
  rw [vr_outer] at f2
  have hin : Jvm.Free.Multi.innerC (cA 0) y.toNatClampNeg (defaultValue .int) = arrV (cA 0) y.toNatClampNeg (fun _ => .int 0) := arrV_new (cA 0) y.toNatClampNeg (.int 0)
  rw [hin] at hrow
  have hR : Rp D cA B (sMN M H.size z.toNatClampNeg y.toNatClampNeg) F.heap := by
    have hB1 := hP.1
    refine ⟨by rw [f1]; omega, fun a ha => ?_⟩
    by_cases e1 : a = H.size
    · subst e1
      have htag : mT (sMN M H.size z.toNatClampNeg y.toNatClampNeg) H.size = 26 := by simp [sMN, mT]
      refine ⟨hB1, by rw [f1]; omega, Or.inr ⟨6, htag, by omega, ?_⟩⟩
      have hsz : mN (sMN M H.size z.toNatClampNeg y.toNatClampNeg) H.size = z.toNatClampNeg := by simp [sMN, mN]
      rw [f2, hsz]
      refine congrArg (fun f => some (arrV (cA 6) z.toNatClampNeg f)) (funext fun j => ?_)
      rw [mv_ref (t := 3) (by omega) htag]
      simp [sMN, mR]
    · by_cases e2 : H.size < a ∧ a ≤ H.size + z.toNatClampNeg
      · have htag : mT (sMN M H.size z.toNatClampNeg y.toNatClampNeg) a = 20 := by simp [sMN, mT, e1, e2]
        have hsz : mN (sMN M H.size z.toNatClampNeg y.toNatClampNeg) a = y.toNatClampNeg := by simp [sMN, mN, e1, e2]
        refine ⟨by omega, by rw [f1]; omega, Or.inr ⟨0, htag, by omega, ?_⟩⟩
        have h9 := hrow (a - H.size - 1) (by omega)
        rw [show H.size + 1 + (a - H.size - 1) = a by omega] at h9
        rw [h9, hsz]
        refine congrArg (fun f => some (arrV (cA 0) y.toNatClampNeg f)) (funext fun j => ?_)
        rw [mv_int htag]
        have e3 : H.size ≤ a ∧ a ≤ H.size + z.toNatClampNeg := by omega
        simp [sMN, mI, e3]
      · have hT9 : mT (sMN M H.size z.toNatClampNeg y.toNatClampNeg) a = mT M a := by simp only [sMN, mT, if_neg e1, if_neg e2]
        have hN9 : mN (sMN M H.size z.toNatClampNeg y.toNatClampNeg) a = mN M a := by simp only [sMN, mN, if_neg e1, if_neg e2]
        have e3 : ¬ (H.size ≤ a ∧ a ≤ H.size + z.toNatClampNeg) := by omega
        have hm : mv (sMN M H.size z.toNatClampNeg y.toNatClampNeg) a = mv M a := by
          funext j
          unfold mv
          rw [hT9]
          unfold wv
          simp only [sMN, mI, mL, mR, if_neg e1, if_neg e2, if_neg e3]
        rw [hT9] at ha
        obtain ⟨g1, g2, g3⟩ := hP.2 a ha
        refine ⟨g1, by rw [f1]; omega, ?_⟩
        rw [hm, hT9, hN9]
        rcases g3 with ⟨ci, r9, e1, e2, e3, e4⟩ | ⟨t', e1, e2, e3⟩
        · exact Or.inl ⟨ci, r9, e1, e2, e3, e4.kept (hold a g2)⟩
        · exact Or.inr ⟨t', e1, e2, by rw [hold a g2]; exact e3⟩
  have hS9 : va_S (fun a => B ≤ a) s.heap F.heap locs := ⟨Nat.le_trans hS.1 (by rw [f1]; omega), fun x h8 h9 => (hold x (Nat.lt_of_lt_of_le h8 hS.1)).trans (hS.2.1 x h8 h9), hS.2.2⟩
  have hW := h H.size hP.freshAll F.heap locs ls hR hS9 hl F rfl
  rw [show T.heap = H from hT] at step
  rw [Nat.add_assoc ck, Nat.add_assoc sk] at X'
  obtain ⟨t, a1, b1⟩ := hW X'
  exact ⟨t, step t a1, b1⟩
end Mna
end
-- 10.main.lean.txt
section
/-! calls, ends, and the whole: what Ex says holds on the machine -/
section Main
variable {p : Program} {l : Launch} {e : Env} {R : Room} {s : State} {m : MethodId} {args : Array Value} {below : List Frame} {meth : Method} {c : Code} {D : va_G} {cA : Nat → ClassId} {B d : Nat} {q : mm_T} {mc ms : Nat} {Q : State → Prop}
theorem go_call {H : Heap} {locs : List Loc} {cells slots mc' ms' pc : Nat} {ls : Array Slot} {st0 rest : List Value} {a9 : Array Value} {P' : Po} (hr : vx_Run p l e R s m args below meth c H locs cells slots mc' ms' (F0 m pc ls st0) rest (QQ D cA B P' a9) (XX D cA B P') (fun a => B ≤ a)) (hS : va_S (fun a => B ≤ a) s.heap H locs)
    (kx : ∀ (ee : Nat) (M' : Mm) (H1 : Heap) (locs1 : List Loc) (q9 : Addr) (ce : Cell), ee < 5 → P' (.inr ee) M' → Rp D cA B M' H1 → va_S (fun a => B ≤ a) s.heap H1 locs1 → H1[q9]? = some ce → ce.vm = .none → s.vm.findClass (P_ex ee) = some ce.cls → vx_W p l e R s m args below meth c H1 locs1 (cells + mc') (slots + ms') Q (F0 m pc ls rest) q9)
    (kk : ∀ (v : Option Value) (M' : Mm) (H1 : Heap) (locs1 : List Loc), P' (.inl v) M' → Rp D cA B M' H1 → va_S (fun a => B ≤ a) s.heap H1 locs1 → W p l e R s m args below meth c H1 locs1 (cells + mc') (slots + ms') Q (F0 m (pc + 3) ls (v.toList ++ rest))) : W p l e R s m args below meth c H locs cells slots Q (F0 m pc ls st0) := by
  intro T hT X
  rcases hr T hT X with ⟨v, st₀, t, T', L, h0, X', hL, e1, e2, ⟨⟨v', M', hv, hp, hR⟩, hF⟩, st⟩ | ⟨q9, st₀, t, T', L, E, ce, h0, X', hL, e1, e2, ⟨⟨ee, M', rfl, he5, hp, hR⟩, hF⟩, hce, hcv, hcl, st⟩
  · cases hv
    obtain ⟨k1, k2, k3⟩ := vx_keep h0 e1 hS (fun _ _ z => z) (fun _ z => z) hL hF
    obtain ⟨t2, a1, b1⟩ := kk v M' T'.heap (locs ++ L) hp (by rw [e1]; exact hR) k3 T' rfl X'
    exact ⟨t2, st t2 a1, b1⟩
  · obtain ⟨k1, k2, k3⟩ := vx_keep h0 e1 hS (fun _ _ z => z) (fun _ z => z) hL hF
    obtain ⟨t2, a1, b1⟩ := kx ee M' T'.heap (locs ++ L) q9 ce he5 hp (by rw [e1]; exact hR) k3 (by rw [e1]; exact hce) hcv hcl T' rfl X'
    exact ⟨t2, st.trans a1, b1⟩
theorem pp_at {H : Heap} {locs : List Loc} {M : Mm} {as : List Value} (hKK : KK D cA B s) (hB : B ≤ s.heap.size) (hP : Rp D cA B M H) (hS : va_S (fun a => B ≤ a) s.heap H locs) : ∀ U : State, U.heap = H → s.WarmedH U.vm → PP D cA B as M as.toArray U := by
  intro U hU hW
  refine ⟨rfl, by rw [hU]; exact hP.1, by rw [hU]; exact hP, hKK.go hW fun a ha hb => ?_⟩
  rw [hU]; exact hS.2.1 a ha hb
theorem cdW_in {y : mm_T} (hok : okM y) : cdW y ∈ wsL_law := by
  have h := hok.2.1
  unfold cdW
  cases hz : y.2.2.2.2.2.1 with
  | nil => rw [hz] at h; exact h
  | cons a b => rw [hz] at h; exact h
theorem good_K {y : mm_T} (hy : cdW y ∈ wsL_law) : GoodIn wsL_law (wsK y) := fun w hw => by
  rcases List.mem_cons.mp hw with rfl | h
  · exact ⟨hy, good_of_word (wsL_good _ hy)⟩
  · exact ⟨h, good_of_word (wsL_good _ h)⟩
/-- what goes on behind a call -/
def KX (p : Program) (l : Launch) (e : Env) (R : Room) (s : State) (m : MethodId) (args : Array Value) (below : List Frame) (meth : Method) (c : Code) (D : va_G) (cA : Nat → ClassId) (B : Nat) (q : mm_T) (mc ms : Nat) (Q : State → Prop) (Post : Po) : Prop :=
  ∀ (ee : Nat) (M : Mm) (H : Heap) (locs : List Loc) (ls : Array Slot) (lv : List (Nat × Value)) (pc ck sk : Nat) (rest : List Value) (q9 : Addr) (ce : Cell), ee < 5 → ((q.2.2.2.2.2.1 = [] ∧ Post (.inr ee) M) ∨ ∃ h, hnd q pc ee = some h ∧ ∀ b, VV p l e R s m args below meth c D cA B q Q h lv [.ref b] M ck sk) → ck ≤ mc → sk ≤ ms → Rp D cA B M H → va_S (fun a => B ≤ a) s.heap H locs → lv_has ls q.2.2.1 lv → H[q9]? = some ce → ce.vm = .none → s.vm.findClass (P_ex ee) = some ce.cls → vx_W p l e R s m args below meth c H locs ck sk Q (F0 m pc ls rest) q9
theorem vv_call (X : Cx p l R s m args meth c D cA B d q mc ms) {Post : Po} (hX : KX p l e R s m args below meth c D cA B q mc ms Q Post) {E : E_T} (IH : ∀ k as M mc ms P, E k as M mc ms P → ∃ y, P_mq k = some y ∧ CT l D cA B d y as M mc ms P)
    {pc k : Nat} {lv : List (Nat × Value)} {st r as : List Value} {M : Mm} {ck sk : Nat}
    (hcall : callc E q mc ms Post (VV p l e R s m args below meth c D cA B q Q) pc lv r M ck sk k as)
    (hrun : ∀ (y : mm_T) (mc' ms' : Nat) (P' : Po) (H : Heap) (locs : List Loc) (ls : Array Slot), P_mq k = some y → okM y → CT l D cA B d y as M mc' ms' P' → (r.map fun v => v.category).sum ≤ 8 → ck + mc' ≤ mc → sk + ms' ≤ ms → Rp D cA B M H → va_S (fun a => B ≤ a) s.heap H locs → lv_has ls q.2.2.1 lv → vx_Run p l e R s m args below meth c H locs ck sk mc' ms' (F0 m pc ls st) r (QQ D cA B P' as.toArray) (XX D cA B P') (fun a => B ≤ a))
    : VV p l e R s m args below meth c D cA B q Q pc lv st M ck sk := by
  intro H locs ls hP hS hl
  obtain ⟨mc', ms', P', hE, h1, h2, h3, hret, hexc⟩ := hcall
  obtain ⟨y, hy, hM⟩ := IH k as M mc' ms' P' hE
  have hok := okP_ml y (P_mq_in hy)
  refine go_call (hrun y mc' ms' P' H locs ls hy hok hM h3 h1 h2 hP hS hl) hS ?_ ?_
  · intro ee M' H1 locs1 q9 ce he5 hp hR hS1 g1 g2 g3
    exact hX ee M' H1 locs1 ls lv pc _ _ r q9 ce he5 (hexc ee M' hp).2 h1 h2 hR hS1 hl g1 g2 g3
  · intro v M' H1 locs1 hp hR hS1
    exact hret v M' hp H1 locs1 ls hR hS1 hl
theorem vv_callV (X : Cx p l R s m args meth c D cA B d q mc ms) {Post : Po} (hX : KX p l e R s m args below meth c D cA B q mc ms Q Post) {E : E_T} (IH : ∀ k as M mc ms P, E k as M mc ms P → ∃ y, P_mq k = some y ∧ CT l D cA B d y as M mc ms P)
    {pc k na idx b : Nat} {lv : List (Nat × Value)} {r as : List Value} {M : Mm} {ck sk : Nat} (hd : decode q.2.1 pc = .ok (.invokevirtual idx, 3)) (hm : P_mt q.2.2.2.2.1 idx = some (0, k, na)) (hlen : as.length = na)
    (hy : ∃ y, P_mq k = some y ∧ y.2.2.2.2.2.1 = [] ∧ mT M b = y.2.2.2.2.1 + 1 ∧ y.2.2.2.2.1 < 13)
    (hcall : callc E q mc ms Post (VV p l e R s m args below meth c D cA B q Q) pc lv r M ck sk k (.ref b :: as)) : VV p l e R s m args below meth c D cA B q Q pc lv (as.reverse ++ .ref b :: r) M ck sk := by
  obtain ⟨y0, hy0, hnil, htag, hci0⟩ := hy
  refine vv_call X hX IH hcall ?_
  intro y mc' ms' P' H locs ls hy1 hok hM hcat h1 h2 hP hS hl
  cases hy0.symm.trans hy1
  obtain ⟨⟨hx, hb, hml, hown, hts⟩, hKK, hB, -, -, hRf, hRl, hRc, hRs, -⟩ := X
  obtain ⟨q1, hq1, w1, w2, w3, w4, w5⟩ := P_mt_ok hm
  cases hy0.symm.trans hq1
  have o2 := cdW_in hok
  obtain ⟨-, -, o3, o4, o5, o6⟩ := hok
  have hwK0 : wsK y0 = Cond.code y0.1 y0.2.1 y0.2.2.1 y0.2.2.2.1 :: wsL_law := by unfold wsK cdW; rw [hnil]
  have hci : y0.2.2.2.2.1 < 13 := hci0
  obtain ⟨rr, hr, ⟨cellB, g1, g2, g3, -⟩, -, -⟩ := hP.obj htag hci
  have hC : rr.1 = y0.1.cls := (vwCl_ok _ _ hr).2.2.2.1.trans o5.symm
  refine vx_runV (C := y0.1.cls) (As := as) (n := na) ⟨hx, hb, hml, hown, hts⟩ hM (cwV na hts ?_ hwK0 rfl rfl ⟨rfl, o4.1, o4.2, w3⟩ ⟨?_, ?_⟩) ⟨PP.blind, ⟨cellB, g1, by rw [g3]; rfl, ?_⟩, pp_at hKK hB hP hS⟩ rfl hlen hl.1 rfl (lv_room hcat) hd ⟨by rw [hRc]; exact h1, by rw [hRs]; exact h2⟩
  · intro w hw
    unfold wsV at hw
    rcases List.mem_append.mp hw with h | h
    · have hw9 : w ∈ wsL_law := by
        simp only [List.mem_cons, List.not_mem_nil, or_false] at h
        rcases h with rfl | rfl | rfl | rfl
        · exact w1
        · exact w4
        · exact w5
        · exact w2
      exact ⟨hw9, good_of_word (wsL_good _ hw9)⟩
    · exact good_K o2 w h
  · show d + 12 + 1 ≤ R.frames; omega
  · show 8 + (y0.2.2.1 + 11) + (60 * d + 200) ≤ R.locals; omega
  · rw [g2, ← hC]; exact (hKK.1.1 _ _ hr).2.1
theorem vv_callS (X : Cx p l R s m args meth c D cA B d q mc ms) {Post : Po} (hX : KX p l e R s m args below meth c D cA B q mc ms Q Post) {E : E_T} (IH : ∀ k as M mc ms P, E k as M mc ms P → ∃ y, P_mq k = some y ∧ CT l D cA B d y as M mc ms P)
    {pc k na idx : Nat} {lv : List (Nat × Value)} {r as : List Value} {M : Mm} {ck sk : Nat} (hd : decode q.2.1 pc = .ok (.invokestatic idx, 3)) (hm : P_mt q.2.2.2.2.1 idx = some (1, k, na)) (hlen : as.length = na)
    (hcall : callc E q mc ms Post (VV p l e R s m args below meth c D cA B q Q) pc lv r M ck sk k as) : VV p l e R s m args below meth c D cA B q Q pc lv (as.reverse ++ r) M ck sk := by
  refine vv_call X hX IH hcall ?_
  intro y mc' ms' P' H locs ls hy1 hok hM hcat h1 h2 hP hS hl
  obtain ⟨⟨hx, hb, hml, hown, hts⟩, hKK, hB, -, -, hRf, hRl, hRc, hRs, -⟩ := X
  obtain ⟨q1, hq1, w1, w2, w3, w4⟩ := P_mt_ok hm
  cases hy1.symm.trans hq1
  have o2 := cdW_in hok
  obtain ⟨-, -, o3, o4, o5, o6⟩ := hok
  cases hnil : y.2.2.2.2.2.1 with
  | nil =>
    have hwK0 : wsK y = Cond.code y.1 y.2.1 y.2.2.1 y.2.2.2.1 :: wsL_law := by unfold wsK cdW; rw [hnil]
    refine vx_runS (As := as) (n := na) ⟨hx, hb, hml, hown, hts⟩ hM ⟨callB_of na hts (good_K o2) hwK0 rfl rfl (hts _ w2) (hts _ w1) ⟨o4.1, o4.2, w3⟩ ⟨?_, ?_⟩, hts _ w4⟩ ⟨PP.blind, pp_at hKK hB hP hS⟩ rfl hlen hl.1 rfl (lv_room hcat) hd ⟨by rw [hRc]; exact h1, by rw [hRs]; exact h2⟩
    · show d + 12 + 1 ≤ R.frames; omega
    · show 8 + (y.2.2.1 + 11) + (60 * d + 200) ≤ R.locals; omega
  | cons x9 t9 =>
    have hwK0 : wsK y = Cond.codeWith y.1 y.2.1 y.2.2.1 y.2.2.2.1 (x9 :: t9) :: wsL_law := by unfold wsK cdW; rw [hnil]
    refine vx_runSX (As := as) (n := na) ⟨hx, hb, hml, hown, hts⟩ hM (vx_cwSW na hts ?_ hwK0 rfl rfl ⟨o4.1, o4.2, w3⟩ ⟨?_, ?_⟩) ⟨PP.blind, pp_at hKK hB hP hS⟩ rfl hlen hl.1 rfl (lv_room hcat) hd ⟨by rw [hRc]; exact h1, by rw [hRs]; exact h2⟩
    · intro w hw
      unfold va_wsS at hw
      rcases List.mem_append.mp hw with h | h
      · have hw9 : w ∈ wsL_law := by
          simp only [List.mem_cons, List.not_mem_nil, or_false] at h
          rcases h with rfl | rfl | rfl
          · exact w1
          · exact w4
          · exact w2
        exact ⟨hw9, good_of_word (wsL_good _ hw9)⟩
      · exact good_K o2 w h
    · show d + 12 + 1 ≤ R.frames; omega
    · show 8 + (y.2.2.1 + 11) + (60 * d + 200) ≤ R.locals; omega
theorem vv_callI (X : Cx p l R s m args meth c D cA B d q mc ms) {Post : Po} (hX : KX p l e R s m args below meth c D cA B q mc ms Q Post) {E : E_T} (IH : ∀ k as M mc ms P, E k as M mc ms P → ∃ y, P_mq k = some y ∧ CT l D cA B d y as M mc ms P)
    {pc k na idx b : Nat} {lv : List (Nat × Value)} {r as : List Value} {M : Mm} {ck sk : Nat} (hd : decode q.2.1 pc = .ok (.invokespecial idx, 3)) (hm : P_mt q.2.2.2.2.1 idx = some (2, k, na)) (hlen : as.length = na)
    (hy : ∃ y, P_mq k = some y ∧ y.2.2.2.2.2.1 = [] ∧ y.2.2.2.1 = none)
    (hcall : callc E q mc ms Post (VV p l e R s m args below meth c D cA B q Q) pc lv r M ck sk k (.ref b :: as)) : VV p l e R s m args below meth c D cA B q Q pc lv (as.reverse ++ .ref b :: r) M ck sk := by
  obtain ⟨y0, hy0, hnil, hret⟩ := hy
  refine vv_call X hX IH hcall ?_
  intro y mc' ms' P' H locs ls hy1 hok hM hcat h1 h2 hP hS hl
  cases hy0.symm.trans hy1
  obtain ⟨⟨hx, hb, hml, hown, hts⟩, hKK, hB, -, -, hRf, hRl, hRc, hRs, -⟩ := X
  obtain ⟨q1, hq1, w1, w2, w3, w4, w5⟩ := P_mt_ok hm
  cases hy0.symm.trans hq1
  have o2 := cdW_in hok
  obtain ⟨-, -, o3, o4, o5, o6⟩ := hok
  have hwK0 : wsK y0 = Cond.code y0.1 y0.2.1 y0.2.2.1 y0.2.2.2.1 :: wsL_law := by unfold wsK cdW; rw [hnil]
  have hgK := good_K o2
  have hwK : wsK y0 = Cond.code y0.1 y0.2.1 y0.2.2.1 none :: wsL_law := by rw [hwK0, hret]
  refine vx_runI (As := as) (n := na) ⟨hx, hb, hml, hown, hts⟩ hM ⟨callB_of na hts hgK hwK rfl rfl (hts _ w2) (hts _ w1) ⟨o4.1, o4.2, w3⟩ ⟨?_, ?_⟩, w5, hts _ w4⟩ ⟨PP.blind, pp_at hKK hB hP hS⟩ rfl hlen hl.1 rfl (lv_room hcat) hd ⟨by rw [hRc]; exact h1, by rw [hRs]; exact h2⟩
  · show d + 12 + 1 ≤ R.frames; omega
  · show 8 + (y0.2.2.1 + 11) + (60 * d + 200) ≤ R.locals; omega
theorem KK.nest {D : va_G} {cA : Nat → ClassId} {B : Nat} {U : State} (h : KK D cA B U) : ∀ e ∈ niL, va_Nw (.methodLinkNest (P_ow e.1) e.2.1 (nn_y e.2.2) RX11) U := by
  obtain ⟨-, -, -, -, -, -, -, -, -, hn9⟩ := h
  exact hn9
theorem P_ni_ok {o i k : Nat} (h : P_ni o i = some k) : okNi (o, i, k) ∧ (o, i, k) ∈ niL := ⟨niL_ok _ (tab_mem (α := Nat) (f := fun q => q.2.2) h), tab_mem (α := Nat) (f := fun q => q.2.2) h⟩
theorem vv_callN (X : Cx p l R s m args meth c D cA B d q mc ms) {Post : Po} (hX : KX p l e R s m args below meth c D cA B q mc ms Q Post) {E : E_T} (IH : ∀ k as M mc ms P, E k as M mc ms P → ∃ y, P_mq k = some y ∧ CT l D cA B d y as M mc ms P)
    {pc k idx b : Nat} {lv : List (Nat × Value)} {r : List Value} {M : Mm} {ck sk : Nat} (hd : decode q.2.1 pc = .ok (.invokespecial idx, 3)) (hm : P_ni q.2.2.2.2.1 idx = some k)
    (hcall : callc E q mc ms Post (VV p l e R s m args below meth c D cA B q Q) pc lv r M ck sk k [.ref b]) : VV p l e R s m args below meth c D cA B q Q pc lv (.ref b :: r) M ck sk := by
  obtain ⟨⟨y0, hy0, hnm, w2, w3, w4, w5, hnil, hret⟩, hmem⟩ := P_ni_ok hm
  refine vv_call X hX IH hcall ?_
  intro y mc' ms' P' H locs ls hy1 hok hM hcat h1 h2 hP hS hl
  cases hy0.symm.trans hy1
  obtain ⟨⟨hx, hb, hml, hown, hts⟩, hKK, hB, -, -, hRf, hRl, hRc, hRs, -⟩ := X
  have o2 := cdW_in hok
  obtain ⟨-, -, o3, o4, o5, o6⟩ := hok
  have hwK0 : wsK y0 = Cond.code y0.1 y0.2.1 y0.2.2.1 y0.2.2.2.1 :: wsL_law := by unfold wsK cdW; rw [hnil]
  have hgK := good_K o2
  have hwK : wsK y0 = Cond.code y0.1 y0.2.1 y0.2.2.1 none :: wsL_law := by rw [hwK0, hret]
  have hn9 := hKK.nest
  have h9 : va_Nw (.methodLinkNest (P_ow q.2.2.2.2.1) idx (nn_y k) RX11) s := hn9 (q.2.2.2.2.1, idx, k) hmem
  have hlk : va_Nw (.methodLinkNest (P_ow q.2.2.2.2.1) idx y0.1 RX11) s := Eq.mpr (congrArg (fun y => va_Nw (.methodLinkNest (P_ow q.2.2.2.2.1) idx y RX11) s) hnm) h9
  refine vx_runIN (As := []) (n := 0) ⟨hx, hb, hml, hown, hts⟩ hM ⟨va_cnB 0 hts hgK hwK rfl rfl hlk (hts _ w4) ⟨o4.1, o4.2, w5⟩ ⟨?_, ?_⟩, w3, hts _ w2⟩ ⟨PP.blind, pp_at hKK hB hP hS⟩ rfl rfl hl.1 rfl (lv_room hcat) hd ⟨by rw [hRc]; exact h1, by rw [hRs]; exact h2⟩
  · show d + 12 + 1 ≤ R.frames; omega
  · show 8 + (y0.2.2.1 + 11) + (60 * d + 200) ≤ R.locals; omega
theorem vs_aload (X : Cx p l R s m args meth c D cA B d q mc ms) {V : V_T} (hV : V = VV p l e R s m args below meth c D cA B q Q) {pc : Nat} {lv : List (Nat × Value)} {st : List Value} {M : Mm} {ck sk : Nat} {j : Nat} (hdec0 : decode q.2.1 pc = .ok (.aload j, 2)) (h : ldv lv j fun v => ∃ x, v = va_rf x ∧ V (pc + 2) lv (v :: st) M ck sk) : V pc lv st M ck sk := by
  subst hV
  have hx := X.1.1
  have hb := X.1.2.1
  have hml := X.1.2.2.1
  have hown := X.1.2.2.2.1
  have hts := X.1.2.2.2.2
  obtain ⟨v, hv, x, rfl, h⟩ := h; intro H locs ls hP hS hl; exact lv_aloadV hx hb hdec0 (lk_at hl hv) (h H locs ls hP hS hl)
theorem vs_aload_n (X : Cx p l R s m args meth c D cA B d q mc ms) {V : V_T} (hV : V = VV p l e R s m args below meth c D cA B q Q) {pc : Nat} {lv : List (Nat × Value)} {st : List Value} {M : Mm} {ck sk : Nat} {j : Fin 4} (hdec0 : decode q.2.1 pc = .ok (.aload_n j, 1)) (h : ldv lv j.val fun v => ∃ x, v = va_rf x ∧ V (pc + 1) lv (v :: st) M ck sk) : V pc lv st M ck sk := by
  subst hV
  have hx := X.1.1
  have hb := X.1.2.1
  have hml := X.1.2.2.1
  have hown := X.1.2.2.2.1
  have hts := X.1.2.2.2.2
  obtain ⟨v, hv, x, rfl, h⟩ := h; intro H locs ls hP hS hl; exact lv_aload_nV hx hb hdec0 (lk_at hl hv) (h H locs ls hP hS hl)
theorem vs_iload (X : Cx p l R s m args meth c D cA B d q mc ms) {V : V_T} (hV : V = VV p l e R s m args below meth c D cA B q Q) {pc : Nat} {lv : List (Nat × Value)} {st : List Value} {M : Mm} {ck sk : Nat} {j : Nat} (hdec0 : decode q.2.1 pc = .ok (.iload j, 2)) (h : ldv lv j fun v => ∃ x, v = .int x ∧ V (pc + 2) lv (v :: st) M ck sk) : V pc lv st M ck sk := by
  subst hV
  have hx := X.1.1
  have hb := X.1.2.1
  have hml := X.1.2.2.1
  have hown := X.1.2.2.2.1
  have hts := X.1.2.2.2.2
  obtain ⟨v, hv, x, rfl, h⟩ := h; intro H locs ls hP hS hl; exact lv_iload hx hb hdec0 (lk_at hl hv) (h H locs ls hP hS hl)
theorem vs_iload_n (X : Cx p l R s m args meth c D cA B d q mc ms) {V : V_T} (hV : V = VV p l e R s m args below meth c D cA B q Q) {pc : Nat} {lv : List (Nat × Value)} {st : List Value} {M : Mm} {ck sk : Nat} {j : Fin 4} (hdec0 : decode q.2.1 pc = .ok (.iload_n j, 1)) (h : ldv lv j.val fun v => ∃ x, v = .int x ∧ V (pc + 1) lv (v :: st) M ck sk) : V pc lv st M ck sk := by
  subst hV
  have hx := X.1.1
  have hb := X.1.2.1
  have hml := X.1.2.2.1
  have hown := X.1.2.2.2.1
  have hts := X.1.2.2.2.2
  obtain ⟨v, hv, x, rfl, h⟩ := h; intro H locs ls hP hS hl; exact lv_iload_n hx hb hdec0 rfl (lk_at hl hv) (h H locs ls hP hS hl)
theorem vs_lload (X : Cx p l R s m args meth c D cA B d q mc ms) {V : V_T} (hV : V = VV p l e R s m args below meth c D cA B q Q) {pc : Nat} {lv : List (Nat × Value)} {st : List Value} {M : Mm} {ck sk : Nat} {j : Nat} (hdec0 : decode q.2.1 pc = .ok (.lload j, 2)) (h : ldv lv j fun v => ∃ x, v = .long x ∧ V (pc + 2) lv (v :: st) M ck sk) : V pc lv st M ck sk := by
  subst hV
  have hx := X.1.1
  have hb := X.1.2.1
  have hml := X.1.2.2.1
  have hown := X.1.2.2.2.1
  have hts := X.1.2.2.2.2
  obtain ⟨v, hv, x, rfl, h⟩ := h; intro H locs ls hP hS hl; exact lv_lload hx hb hdec0 (lk_at hl hv) (h H locs ls hP hS hl)
theorem vs_lload_n (X : Cx p l R s m args meth c D cA B d q mc ms) {V : V_T} (hV : V = VV p l e R s m args below meth c D cA B q Q) {pc : Nat} {lv : List (Nat × Value)} {st : List Value} {M : Mm} {ck sk : Nat} {j : Fin 4} (hdec0 : decode q.2.1 pc = .ok (.lload_n j, 1)) (h : ldv lv j.val fun v => ∃ x, v = .long x ∧ V (pc + 1) lv (v :: st) M ck sk) : V pc lv st M ck sk := by
  subst hV
  have hx := X.1.1
  have hb := X.1.2.1
  have hml := X.1.2.2.1
  have hown := X.1.2.2.2.1
  have hts := X.1.2.2.2.2
  obtain ⟨v, hv, x, rfl, h⟩ := h; intro H locs ls hP hS hl; exact lv_lload_n hx hb hdec0 rfl (lk_at hl hv) (h H locs ls hP hS hl)
theorem vs_iconst (X : Cx p l R s m args meth c D cA B d q mc ms) {V : V_T} (hV : V = VV p l e R s m args below meth c D cA B q Q) {pc : Nat} {lv : List (Nat × Value)} {st : List Value} {M : Mm} {ck sk : Nat} {v : Int} (hdec0 : decode q.2.1 pc = .ok (.iconst v, 1)) (h : V (pc + 1) lv (.int (Int32.ofInt v) :: st) M ck sk) : V pc lv st M ck sk := by
  subst hV
  have hx := X.1.1
  have hb := X.1.2.1
  have hml := X.1.2.2.1
  have hown := X.1.2.2.2.1
  have hts := X.1.2.2.2.2
  intro H locs ls hP hS hl; exact lv_iconst hx hb hdec0 rfl (h H locs ls hP hS hl)
theorem vs_bipush (X : Cx p l R s m args meth c D cA B d q mc ms) {V : V_T} (hV : V = VV p l e R s m args below meth c D cA B q Q) {pc : Nat} {lv : List (Nat × Value)} {st : List Value} {M : Mm} {ck sk : Nat} {v : Int} (hdec0 : decode q.2.1 pc = .ok (.bipush v, 2)) (h : V (pc + 2) lv (.int (Int8.ofInt v).toInt32 :: st) M ck sk) : V pc lv st M ck sk := by
  subst hV
  have hx := X.1.1
  have hb := X.1.2.1
  have hml := X.1.2.2.1
  have hown := X.1.2.2.2.1
  have hts := X.1.2.2.2.2
  intro H locs ls hP hS hl; exact lv_bipush hx hb hdec0 rfl (h H locs ls hP hS hl)
theorem vs_sipush (X : Cx p l R s m args meth c D cA B d q mc ms) {V : V_T} (hV : V = VV p l e R s m args below meth c D cA B q Q) {pc : Nat} {lv : List (Nat × Value)} {st : List Value} {M : Mm} {ck sk : Nat} {v : Int} (hdec0 : decode q.2.1 pc = .ok (.sipush v, 3)) (h : V (pc + 3) lv (.int (Int16.ofInt v).toInt32 :: st) M ck sk) : V pc lv st M ck sk := by
  subst hV
  have hx := X.1.1
  have hb := X.1.2.1
  have hml := X.1.2.2.1
  have hown := X.1.2.2.2.1
  have hts := X.1.2.2.2.2
  intro H locs ls hP hS hl; exact lv_sipush hx hb hdec0 rfl (h H locs ls hP hS hl)
theorem vs_lconst (X : Cx p l R s m args meth c D cA B d q mc ms) {V : V_T} (hV : V = VV p l e R s m args below meth c D cA B q Q) {pc : Nat} {lv : List (Nat × Value)} {st : List Value} {M : Mm} {ck sk : Nat} {v : Fin 2} (hdec0 : decode q.2.1 pc = .ok (.lconst v, 1)) (h : V (pc + 1) lv (.long (Int64.ofNat (v : Nat)) :: st) M ck sk) : V pc lv st M ck sk := by
  subst hV
  have hx := X.1.1
  have hb := X.1.2.1
  have hml := X.1.2.2.1
  have hown := X.1.2.2.2.1
  have hts := X.1.2.2.2.2
  intro H locs ls hP hS hl; exact lv_lconst hx hb hdec0 rfl (h H locs ls hP hS hl)
theorem vs_aconst_null (X : Cx p l R s m args meth c D cA B d q mc ms) {V : V_T} (hV : V = VV p l e R s m args below meth c D cA B q Q) {pc : Nat} {lv : List (Nat × Value)} {st : List Value} {M : Mm} {ck sk : Nat}  (hdec0 : decode q.2.1 pc = .ok (.aconst_null, 1)) (h : V (pc + 1) lv (.null :: st) M ck sk) : V pc lv st M ck sk := by
  subst hV
  have hx := X.1.1
  have hb := X.1.2.1
  have hml := X.1.2.2.1
  have hown := X.1.2.2.2.1
  have hts := X.1.2.2.2.2
  intro H locs ls hP hS hl; exact lv_null hx hb hdec0 (h H locs ls hP hS hl)
theorem vs_ldc (X : Cx p l R s m args meth c D cA B d q mc ms) {V : V_T} (hV : V = VV p l e R s m args below meth c D cA B q Q) {pc : Nat} {lv : List (Nat × Value)} {st : List Value} {M : Mm} {ck sk : Nat} {j : Nat} (hdec0 : decode q.2.1 pc = .ok (.ldc j, 2)) (h : ∃ v, P_kc q.2.2.2.2.1 j = some v ∧ V (pc + 2) lv (.int v :: st) M ck sk) : V pc lv st M ck sk := by
  subst hV
  have hx := X.1.1
  have hb := X.1.2.1
  have hml := X.1.2.2.1
  have hown := X.1.2.2.2.1
  have hts := X.1.2.2.2.2
  obtain ⟨v, hv, h⟩ := h; intro H locs ls hP hS hl; exact lv_ldc hx hb hown (hts _ (P_kc_ok hv)) hdec0 (h H locs ls hP hS hl)
theorem vs_ldc_w (X : Cx p l R s m args meth c D cA B d q mc ms) {V : V_T} (hV : V = VV p l e R s m args below meth c D cA B q Q) {pc : Nat} {lv : List (Nat × Value)} {st : List Value} {M : Mm} {ck sk : Nat} {j : Nat} (hdec0 : decode q.2.1 pc = .ok (.ldc_w j, 3)) (h : ∃ v, P_kc q.2.2.2.2.1 j = some v ∧ V (pc + 3) lv (.int v :: st) M ck sk) : V pc lv st M ck sk := by
  subst hV
  have hx := X.1.1
  have hb := X.1.2.1
  have hml := X.1.2.2.1
  have hown := X.1.2.2.2.1
  have hts := X.1.2.2.2.2
  obtain ⟨v, hv, h⟩ := h; intro H locs ls hP hS hl; exact lv_ldcw hx hb hown (hts _ (P_kc_ok hv)) hdec0 (h H locs ls hP hS hl)
theorem vs_ldc2_w (X : Cx p l R s m args meth c D cA B d q mc ms) {V : V_T} (hV : V = VV p l e R s m args below meth c D cA B q Q) {pc : Nat} {lv : List (Nat × Value)} {st : List Value} {M : Mm} {ck sk : Nat} {j : Nat} (hdec0 : decode q.2.1 pc = .ok (.ldc2_w j, 3)) (h : ∃ v, P_kl q.2.2.2.2.1 j = some v ∧ V (pc + 3) lv (.long v :: st) M ck sk) : V pc lv st M ck sk := by
  subst hV
  have hx := X.1.1
  have hb := X.1.2.1
  have hml := X.1.2.2.1
  have hown := X.1.2.2.2.1
  have hts := X.1.2.2.2.2
  obtain ⟨v, hv, h⟩ := h; intro H locs ls hP hS hl; exact lv_ldc2 hx hb hown (hts _ (P_kl_ok hv)) hdec0 (h H locs ls hP hS hl)
theorem vs_istore (X : Cx p l R s m args meth c D cA B d q mc ms) {V : V_T} (hV : V = VV p l e R s m args below meth c D cA B q Q) {pc : Nat} {lv : List (Nat × Value)} {st : List Value} {M : Mm} {ck sk : Nat} {j : Nat} (hdec0 : decode q.2.1 pc = .ok (.istore j, 2)) (h : p1 st fun x r => j < q.2.2.1 ∧ V (pc + 2) (s1 lv j (.int x)) r M ck sk) : V pc lv st M ck sk := by
  subst hV
  have hx := X.1.1
  have hb := X.1.2.1
  have hml := X.1.2.2.1
  have hown := X.1.2.2.2.1
  have hts := X.1.2.2.2.2
  obtain ⟨x, r, rfl, hj, h⟩ := h; intro H locs ls hP hS hl; exact lv_istore hx hb hdec0 hl hj rfl (fun ls' hl' => h H locs ls' hP hS hl')
theorem vs_istore_n (X : Cx p l R s m args meth c D cA B d q mc ms) {V : V_T} (hV : V = VV p l e R s m args below meth c D cA B q Q) {pc : Nat} {lv : List (Nat × Value)} {st : List Value} {M : Mm} {ck sk : Nat} {j : Fin 4} (hdec0 : decode q.2.1 pc = .ok (.istore_n j, 1)) (h : p1 st fun x r => j.val < q.2.2.1 ∧ V (pc + 1) (s1 lv j.val (.int x)) r M ck sk) : V pc lv st M ck sk := by
  subst hV
  have hx := X.1.1
  have hb := X.1.2.1
  have hml := X.1.2.2.1
  have hown := X.1.2.2.2.1
  have hts := X.1.2.2.2.2
  obtain ⟨x, r, rfl, hj, h⟩ := h; intro H locs ls hP hS hl; exact lv_istore_n hx hb hdec0 rfl hl hj rfl (fun ls' hl' => h H locs ls' hP hS hl')
theorem vs_astore (X : Cx p l R s m args meth c D cA B d q mc ms) {V : V_T} (hV : V = VV p l e R s m args below meth c D cA B q Q) {pc : Nat} {lv : List (Nat × Value)} {st : List Value} {M : Mm} {ck sk : Nat} {j : Nat} (hdec0 : decode q.2.1 pc = .ok (.astore j, 2)) (h : r1 st fun x r => j < q.2.2.1 ∧ V (pc + 2) (s1 lv j (va_rf x)) r M ck sk) : V pc lv st M ck sk := by
  subst hV
  have hx := X.1.1
  have hb := X.1.2.1
  have hml := X.1.2.2.1
  have hown := X.1.2.2.2.1
  have hts := X.1.2.2.2.2
  obtain ⟨x, r, rfl, hj, h⟩ := h; intro H locs ls hP hS hl; cases x with
  | none => exact lv_astoreN hx hb hdec0 hl hj rfl (fun ls' hl' => h H locs ls' hP hS hl')
  | some a => exact lv_astore hx hb hdec0 hl hj rfl (fun ls' hl' => h H locs ls' hP hS hl')
theorem vs_astore_n (X : Cx p l R s m args meth c D cA B d q mc ms) {V : V_T} (hV : V = VV p l e R s m args below meth c D cA B q Q) {pc : Nat} {lv : List (Nat × Value)} {st : List Value} {M : Mm} {ck sk : Nat} {j : Fin 4} (hdec0 : decode q.2.1 pc = .ok (.astore_n j, 1)) (h : r1 st fun x r => j.val < q.2.2.1 ∧ V (pc + 1) (s1 lv j.val (va_rf x)) r M ck sk) : V pc lv st M ck sk := by
  subst hV
  have hx := X.1.1
  have hb := X.1.2.1
  have hml := X.1.2.2.1
  have hown := X.1.2.2.2.1
  have hts := X.1.2.2.2.2
  obtain ⟨x, r, rfl, hj, h⟩ := h; intro H locs ls hP hS hl; cases x with
  | none => exact lv_astore_nN hx hb hdec0 rfl hl hj rfl (fun ls' hl' => h H locs ls' hP hS hl')
  | some a => exact lv_astore_n hx hb hdec0 rfl hl hj rfl (fun ls' hl' => h H locs ls' hP hS hl')
theorem vs_lstore (X : Cx p l R s m args meth c D cA B d q mc ms) {V : V_T} (hV : V = VV p l e R s m args below meth c D cA B q Q) {pc : Nat} {lv : List (Nat × Value)} {st : List Value} {M : Mm} {ck sk : Nat} {j : Nat} (hdec0 : decode q.2.1 pc = .ok (.lstore j, 2)) (h : q1 st fun x r => j + 1 < q.2.2.1 ∧ V (pc + 2) (s2 lv j (.long x)) r M ck sk) : V pc lv st M ck sk := by
  subst hV
  have hx := X.1.1
  have hb := X.1.2.1
  have hml := X.1.2.2.1
  have hown := X.1.2.2.2.1
  have hts := X.1.2.2.2.2
  obtain ⟨x, r, rfl, hj, h⟩ := h; intro H locs ls hP hS hl; exact lv_lstore hx hb hdec0 hl hj rfl (fun ls' hl' => h H locs ls' hP hS hl')
theorem vs_lstore_n (X : Cx p l R s m args meth c D cA B d q mc ms) {V : V_T} (hV : V = VV p l e R s m args below meth c D cA B q Q) {pc : Nat} {lv : List (Nat × Value)} {st : List Value} {M : Mm} {ck sk : Nat} {j : Fin 4} (hdec0 : decode q.2.1 pc = .ok (.lstore_n j, 1)) (h : q1 st fun x r => j.val + 1 < q.2.2.1 ∧ V (pc + 1) (s2 lv j.val (.long x)) r M ck sk) : V pc lv st M ck sk := by
  subst hV
  have hx := X.1.1
  have hb := X.1.2.1
  have hml := X.1.2.2.1
  have hown := X.1.2.2.2.1
  have hts := X.1.2.2.2.2
  obtain ⟨x, r, rfl, hj, h⟩ := h; intro H locs ls hP hS hl; exact lv_lstore_n hx hb hdec0 rfl hl hj rfl (fun ls' hl' => h H locs ls' hP hS hl')
theorem vs_iinc (X : Cx p l R s m args meth c D cA B d q mc ms) {V : V_T} (hV : V = VV p l e R s m args below meth c D cA B q Q) {pc : Nat} {lv : List (Nat × Value)} {st : List Value} {M : Mm} {ck sk : Nat} {j : Nat} {d9 : Int} (hdec0 : decode q.2.1 pc = .ok (.iinc j d9, 3)) (h : ldv lv j fun v => ∃ x, v = .int x ∧ j < q.2.2.1 ∧ V (pc + 3) (s1 lv j (.int (x + Int32.ofInt d9))) st M ck sk) : V pc lv st M ck sk := by
  subst hV
  have hx := X.1.1
  have hb := X.1.2.1
  have hml := X.1.2.2.1
  have hown := X.1.2.2.2.1
  have hts := X.1.2.2.2.2
  obtain ⟨v, hv, x, rfl, hj, h⟩ := h; intro H locs ls hP hS hl; obtain ⟨k9, hk9⟩ := List.getElem?_of_mem (lk_mem hv); exact lv_iinc hx hb hdec0 hl hk9 rfl hj rfl (fun ls' hl' => h H locs ls' hP hS hl')
theorem vs_iadd (X : Cx p l R s m args meth c D cA B d q mc ms) {V : V_T} (hV : V = VV p l e R s m args below meth c D cA B q Q) {pc : Nat} {lv : List (Nat × Value)} {st : List Value} {M : Mm} {ck sk : Nat}  (hdec0 : decode q.2.1 pc = .ok (.iadd, 1)) (h : p2 st fun x y r => V (pc + 1) lv (.int (x + y) :: r) M ck sk) : V pc lv st M ck sk := by
  subst hV
  have hx := X.1.1
  have hb := X.1.2.1
  have hml := X.1.2.2.1
  have hown := X.1.2.2.2.1
  have hts := X.1.2.2.2.2
  obtain ⟨x, y, r, rfl, h⟩ := h; intro H locs ls hP hS hl; exact lv_iadd hx hb hdec0 (h H locs ls hP hS hl)
theorem vs_isub (X : Cx p l R s m args meth c D cA B d q mc ms) {V : V_T} (hV : V = VV p l e R s m args below meth c D cA B q Q) {pc : Nat} {lv : List (Nat × Value)} {st : List Value} {M : Mm} {ck sk : Nat}  (hdec0 : decode q.2.1 pc = .ok (.isub, 1)) (h : p2 st fun x y r => V (pc + 1) lv (.int (x - y) :: r) M ck sk) : V pc lv st M ck sk := by
  subst hV
  have hx := X.1.1
  have hb := X.1.2.1
  have hml := X.1.2.2.1
  have hown := X.1.2.2.2.1
  have hts := X.1.2.2.2.2
  obtain ⟨x, y, r, rfl, h⟩ := h; intro H locs ls hP hS hl; exact lv_isub hx hb hdec0 (h H locs ls hP hS hl)
theorem vs_imul (X : Cx p l R s m args meth c D cA B d q mc ms) {V : V_T} (hV : V = VV p l e R s m args below meth c D cA B q Q) {pc : Nat} {lv : List (Nat × Value)} {st : List Value} {M : Mm} {ck sk : Nat}  (hdec0 : decode q.2.1 pc = .ok (.imul, 1)) (h : p2 st fun x y r => V (pc + 1) lv (.int (x * y) :: r) M ck sk) : V pc lv st M ck sk := by
  subst hV
  have hx := X.1.1
  have hb := X.1.2.1
  have hml := X.1.2.2.1
  have hown := X.1.2.2.2.1
  have hts := X.1.2.2.2.2
  obtain ⟨x, y, r, rfl, h⟩ := h; intro H locs ls hP hS hl; exact lv_imul hx hb hdec0 (h H locs ls hP hS hl)
theorem vs_idiv (X : Cx p l R s m args meth c D cA B d q mc ms) {V : V_T} (hV : V = VV p l e R s m args below meth c D cA B q Q) {pc : Nat} {lv : List (Nat × Value)} {st : List Value} {M : Mm} {ck sk : Nat}  (hdec0 : decode q.2.1 pc = .ok (.idiv, 1)) (h : p2 st fun x y r => ¬ y = 0 ∧ V (pc + 1) lv (.int (x / y) :: r) M ck sk) : V pc lv st M ck sk := by
  subst hV
  have hx := X.1.1
  have hb := X.1.2.1
  have hml := X.1.2.2.1
  have hown := X.1.2.2.2.1
  have hts := X.1.2.2.2.2
  obtain ⟨x, y, r, rfl, h0, h⟩ := h; intro H locs ls hP hS hl; exact lv_idiv hx hb hdec0 h0 (h H locs ls hP hS hl)
theorem vs_irem (X : Cx p l R s m args meth c D cA B d q mc ms) {V : V_T} (hV : V = VV p l e R s m args below meth c D cA B q Q) {pc : Nat} {lv : List (Nat × Value)} {st : List Value} {M : Mm} {ck sk : Nat}  (hdec0 : decode q.2.1 pc = .ok (.irem, 1)) (h : p2 st fun x y r => ¬ y = 0 ∧ V (pc + 1) lv (.int (x - x / y * y) :: r) M ck sk) : V pc lv st M ck sk := by
  subst hV
  have hx := X.1.1
  have hb := X.1.2.1
  have hml := X.1.2.2.1
  have hown := X.1.2.2.2.1
  have hts := X.1.2.2.2.2
  obtain ⟨x, y, r, rfl, h0, h⟩ := h; intro H locs ls hP hS hl; exact lv_irem hx hb hdec0 h0 (h H locs ls hP hS hl)
theorem vs_ineg (X : Cx p l R s m args meth c D cA B d q mc ms) {V : V_T} (hV : V = VV p l e R s m args below meth c D cA B q Q) {pc : Nat} {lv : List (Nat × Value)} {st : List Value} {M : Mm} {ck sk : Nat}  (hdec0 : decode q.2.1 pc = .ok (.ineg, 1)) (h : p1 st fun x r => V (pc + 1) lv (.int (-x) :: r) M ck sk) : V pc lv st M ck sk := by
  subst hV
  have hx := X.1.1
  have hb := X.1.2.1
  have hml := X.1.2.2.1
  have hown := X.1.2.2.2.1
  have hts := X.1.2.2.2.2
  obtain ⟨x, r, rfl, h⟩ := h; intro H locs ls hP hS hl; exact lv_ineg hx hb hdec0 (h H locs ls hP hS hl)
theorem vs_iand (X : Cx p l R s m args meth c D cA B d q mc ms) {V : V_T} (hV : V = VV p l e R s m args below meth c D cA B q Q) {pc : Nat} {lv : List (Nat × Value)} {st : List Value} {M : Mm} {ck sk : Nat}  (hdec0 : decode q.2.1 pc = .ok (.iand, 1)) (h : p2 st fun x y r => V (pc + 1) lv (.int (x &&& y) :: r) M ck sk) : V pc lv st M ck sk := by
  subst hV
  have hx := X.1.1
  have hb := X.1.2.1
  have hml := X.1.2.2.1
  have hown := X.1.2.2.2.1
  have hts := X.1.2.2.2.2
  obtain ⟨x, y, r, rfl, h⟩ := h; intro H locs ls hP hS hl; exact lv_iand hx hb hdec0 (h H locs ls hP hS hl)
theorem vs_ior (X : Cx p l R s m args meth c D cA B d q mc ms) {V : V_T} (hV : V = VV p l e R s m args below meth c D cA B q Q) {pc : Nat} {lv : List (Nat × Value)} {st : List Value} {M : Mm} {ck sk : Nat}  (hdec0 : decode q.2.1 pc = .ok (.ior, 1)) (h : p2 st fun x y r => V (pc + 1) lv (.int (x ||| y) :: r) M ck sk) : V pc lv st M ck sk := by
  subst hV
  have hx := X.1.1
  have hb := X.1.2.1
  have hml := X.1.2.2.1
  have hown := X.1.2.2.2.1
  have hts := X.1.2.2.2.2
  obtain ⟨x, y, r, rfl, h⟩ := h; intro H locs ls hP hS hl; exact lv_ior hx hb hdec0 (h H locs ls hP hS hl)
theorem vs_ixor (X : Cx p l R s m args meth c D cA B d q mc ms) {V : V_T} (hV : V = VV p l e R s m args below meth c D cA B q Q) {pc : Nat} {lv : List (Nat × Value)} {st : List Value} {M : Mm} {ck sk : Nat}  (hdec0 : decode q.2.1 pc = .ok (.ixor, 1)) (h : p2 st fun x y r => V (pc + 1) lv (.int (x ^^^ y) :: r) M ck sk) : V pc lv st M ck sk := by
  subst hV
  have hx := X.1.1
  have hb := X.1.2.1
  have hml := X.1.2.2.1
  have hown := X.1.2.2.2.1
  have hts := X.1.2.2.2.2
  obtain ⟨x, y, r, rfl, h⟩ := h; intro H locs ls hP hS hl; exact lv_ixor hx hb hdec0 (h H locs ls hP hS hl)
theorem vs_ishl (X : Cx p l R s m args meth c D cA B d q mc ms) {V : V_T} (hV : V = VV p l e R s m args below meth c D cA B q Q) {pc : Nat} {lv : List (Nat × Value)} {st : List Value} {M : Mm} {ck sk : Nat}  (hdec0 : decode q.2.1 pc = .ok (.ishl, 1)) (h : p2 st fun x y r => V (pc + 1) lv (.int (x <<< (y &&& 31)) :: r) M ck sk) : V pc lv st M ck sk := by
  subst hV
  have hx := X.1.1
  have hb := X.1.2.1
  have hml := X.1.2.2.1
  have hown := X.1.2.2.2.1
  have hts := X.1.2.2.2.2
  obtain ⟨x, y, r, rfl, h⟩ := h; intro H locs ls hP hS hl; exact lv_ishl hx hb hdec0 (h H locs ls hP hS hl)
theorem vs_ishr (X : Cx p l R s m args meth c D cA B d q mc ms) {V : V_T} (hV : V = VV p l e R s m args below meth c D cA B q Q) {pc : Nat} {lv : List (Nat × Value)} {st : List Value} {M : Mm} {ck sk : Nat}  (hdec0 : decode q.2.1 pc = .ok (.ishr, 1)) (h : p2 st fun x y r => V (pc + 1) lv (.int (x >>> (y &&& 31)) :: r) M ck sk) : V pc lv st M ck sk := by
  subst hV
  have hx := X.1.1
  have hb := X.1.2.1
  have hml := X.1.2.2.1
  have hown := X.1.2.2.2.1
  have hts := X.1.2.2.2.2
  obtain ⟨x, y, r, rfl, h⟩ := h; intro H locs ls hP hS hl; exact lv_ishr hx hb hdec0 (h H locs ls hP hS hl)
theorem vs_iushr (X : Cx p l R s m args meth c D cA B d q mc ms) {V : V_T} (hV : V = VV p l e R s m args below meth c D cA B q Q) {pc : Nat} {lv : List (Nat × Value)} {st : List Value} {M : Mm} {ck sk : Nat}  (hdec0 : decode q.2.1 pc = .ok (.iushr, 1)) (h : p2 st fun x y r => V (pc + 1) lv (.int (x.toUInt32 >>> (y.toUInt32 &&& Int32.toUInt32 31)).toInt32 :: r) M ck sk) : V pc lv st M ck sk := by
  subst hV
  have hx := X.1.1
  have hb := X.1.2.1
  have hml := X.1.2.2.1
  have hown := X.1.2.2.2.1
  have hts := X.1.2.2.2.2
  obtain ⟨x, y, r, rfl, h⟩ := h; intro H locs ls hP hS hl; exact lv_iushr hx hb hdec0 rfl (h H locs ls hP hS hl)
theorem vs_i2l (X : Cx p l R s m args meth c D cA B d q mc ms) {V : V_T} (hV : V = VV p l e R s m args below meth c D cA B q Q) {pc : Nat} {lv : List (Nat × Value)} {st : List Value} {M : Mm} {ck sk : Nat}  (hdec0 : decode q.2.1 pc = .ok (.i2l, 1)) (h : p1 st fun x r => V (pc + 1) lv (.long x.toInt64 :: r) M ck sk) : V pc lv st M ck sk := by
  subst hV
  have hx := X.1.1
  have hb := X.1.2.1
  have hml := X.1.2.2.1
  have hown := X.1.2.2.2.1
  have hts := X.1.2.2.2.2
  obtain ⟨x, r, rfl, h⟩ := h; intro H locs ls hP hS hl; exact lv_i2l hx hb hdec0 rfl (h H locs ls hP hS hl)
theorem vs_i2b (X : Cx p l R s m args meth c D cA B d q mc ms) {V : V_T} (hV : V = VV p l e R s m args below meth c D cA B q Q) {pc : Nat} {lv : List (Nat × Value)} {st : List Value} {M : Mm} {ck sk : Nat}  (hdec0 : decode q.2.1 pc = .ok (.i2b, 1)) (h : p1 st fun x r => V (pc + 1) lv (.int x.toInt8.toInt32 :: r) M ck sk) : V pc lv st M ck sk := by
  subst hV
  have hx := X.1.1
  have hb := X.1.2.1
  have hml := X.1.2.2.1
  have hown := X.1.2.2.2.1
  have hts := X.1.2.2.2.2
  obtain ⟨x, r, rfl, h⟩ := h; intro H locs ls hP hS hl; exact lv_i2b hx hb hdec0 rfl (h H locs ls hP hS hl)
theorem vs_l2i (X : Cx p l R s m args meth c D cA B d q mc ms) {V : V_T} (hV : V = VV p l e R s m args below meth c D cA B q Q) {pc : Nat} {lv : List (Nat × Value)} {st : List Value} {M : Mm} {ck sk : Nat}  (hdec0 : decode q.2.1 pc = .ok (.l2i, 1)) (h : q1 st fun x r => V (pc + 1) lv (.int x.toInt32 :: r) M ck sk) : V pc lv st M ck sk := by
  subst hV
  have hx := X.1.1
  have hb := X.1.2.1
  have hml := X.1.2.2.1
  have hown := X.1.2.2.2.1
  have hts := X.1.2.2.2.2
  obtain ⟨x, r, rfl, h⟩ := h; intro H locs ls hP hS hl; exact lv_l2i hx hb hdec0 rfl (h H locs ls hP hS hl)
theorem vs_ladd (X : Cx p l R s m args meth c D cA B d q mc ms) {V : V_T} (hV : V = VV p l e R s m args below meth c D cA B q Q) {pc : Nat} {lv : List (Nat × Value)} {st : List Value} {M : Mm} {ck sk : Nat}  (hdec0 : decode q.2.1 pc = .ok (.ladd, 1)) (h : q2 st fun x y r => V (pc + 1) lv (.long (x + y) :: r) M ck sk) : V pc lv st M ck sk := by
  subst hV
  have hx := X.1.1
  have hb := X.1.2.1
  have hml := X.1.2.2.1
  have hown := X.1.2.2.2.1
  have hts := X.1.2.2.2.2
  obtain ⟨x, y, r, rfl, h⟩ := h; intro H locs ls hP hS hl; exact lv_ladd hx hb hdec0 (h H locs ls hP hS hl)
theorem vs_lsub (X : Cx p l R s m args meth c D cA B d q mc ms) {V : V_T} (hV : V = VV p l e R s m args below meth c D cA B q Q) {pc : Nat} {lv : List (Nat × Value)} {st : List Value} {M : Mm} {ck sk : Nat}  (hdec0 : decode q.2.1 pc = .ok (.lsub, 1)) (h : q2 st fun x y r => V (pc + 1) lv (.long (x - y) :: r) M ck sk) : V pc lv st M ck sk := by
  subst hV
  have hx := X.1.1
  have hb := X.1.2.1
  have hml := X.1.2.2.1
  have hown := X.1.2.2.2.1
  have hts := X.1.2.2.2.2
  obtain ⟨x, y, r, rfl, h⟩ := h; intro H locs ls hP hS hl; exact lv_lsub hx hb hdec0 (h H locs ls hP hS hl)
theorem vs_lmul (X : Cx p l R s m args meth c D cA B d q mc ms) {V : V_T} (hV : V = VV p l e R s m args below meth c D cA B q Q) {pc : Nat} {lv : List (Nat × Value)} {st : List Value} {M : Mm} {ck sk : Nat}  (hdec0 : decode q.2.1 pc = .ok (.lmul, 1)) (h : q2 st fun x y r => V (pc + 1) lv (.long (x * y) :: r) M ck sk) : V pc lv st M ck sk := by
  subst hV
  have hx := X.1.1
  have hb := X.1.2.1
  have hml := X.1.2.2.1
  have hown := X.1.2.2.2.1
  have hts := X.1.2.2.2.2
  obtain ⟨x, y, r, rfl, h⟩ := h; intro H locs ls hP hS hl; exact lv_lmul hx hb hdec0 (h H locs ls hP hS hl)
theorem vs_ldiv (X : Cx p l R s m args meth c D cA B d q mc ms) {V : V_T} (hV : V = VV p l e R s m args below meth c D cA B q Q) {pc : Nat} {lv : List (Nat × Value)} {st : List Value} {M : Mm} {ck sk : Nat}  (hdec0 : decode q.2.1 pc = .ok (.ldiv, 1)) (h : q2 st fun x y r => ¬ y = 0 ∧ V (pc + 1) lv (.long (x / y) :: r) M ck sk) : V pc lv st M ck sk := by
  subst hV
  have hx := X.1.1
  have hb := X.1.2.1
  have hml := X.1.2.2.1
  have hown := X.1.2.2.2.1
  have hts := X.1.2.2.2.2
  obtain ⟨x, y, r, rfl, h0, h⟩ := h; intro H locs ls hP hS hl; exact lv_ldiv hx hb hdec0 h0 (h H locs ls hP hS hl)
theorem vs_lrem (X : Cx p l R s m args meth c D cA B d q mc ms) {V : V_T} (hV : V = VV p l e R s m args below meth c D cA B q Q) {pc : Nat} {lv : List (Nat × Value)} {st : List Value} {M : Mm} {ck sk : Nat}  (hdec0 : decode q.2.1 pc = .ok (.lrem, 1)) (h : q2 st fun x y r => ¬ y = 0 ∧ V (pc + 1) lv (.long (x - x / y * y) :: r) M ck sk) : V pc lv st M ck sk := by
  subst hV
  have hx := X.1.1
  have hb := X.1.2.1
  have hml := X.1.2.2.1
  have hown := X.1.2.2.2.1
  have hts := X.1.2.2.2.2
  obtain ⟨x, y, r, rfl, h0, h⟩ := h; intro H locs ls hP hS hl; exact lv_lrem hx hb hdec0 h0 (h H locs ls hP hS hl)
theorem vs_lxor (X : Cx p l R s m args meth c D cA B d q mc ms) {V : V_T} (hV : V = VV p l e R s m args below meth c D cA B q Q) {pc : Nat} {lv : List (Nat × Value)} {st : List Value} {M : Mm} {ck sk : Nat}  (hdec0 : decode q.2.1 pc = .ok (.lxor, 1)) (h : q2 st fun x y r => V (pc + 1) lv (.long (x ^^^ y) :: r) M ck sk) : V pc lv st M ck sk := by
  subst hV
  have hx := X.1.1
  have hb := X.1.2.1
  have hml := X.1.2.2.1
  have hown := X.1.2.2.2.1
  have hts := X.1.2.2.2.2
  obtain ⟨x, y, r, rfl, h⟩ := h; intro H locs ls hP hS hl; exact lv_lxor hx hb hdec0 (h H locs ls hP hS hl)
theorem vs_lneg (X : Cx p l R s m args meth c D cA B d q mc ms) {V : V_T} (hV : V = VV p l e R s m args below meth c D cA B q Q) {pc : Nat} {lv : List (Nat × Value)} {st : List Value} {M : Mm} {ck sk : Nat}  (hdec0 : decode q.2.1 pc = .ok (.lneg, 1)) (h : q1 st fun x r => V (pc + 1) lv (.long (-x) :: r) M ck sk) : V pc lv st M ck sk := by
  subst hV
  have hx := X.1.1
  have hb := X.1.2.1
  have hml := X.1.2.2.1
  have hown := X.1.2.2.2.1
  have hts := X.1.2.2.2.2
  obtain ⟨x, r, rfl, h⟩ := h; intro H locs ls hP hS hl; exact lv_lneg hx hb hdec0 (h H locs ls hP hS hl)
theorem vs_lcmp (X : Cx p l R s m args meth c D cA B d q mc ms) {V : V_T} (hV : V = VV p l e R s m args below meth c D cA B q Q) {pc : Nat} {lv : List (Nat × Value)} {st : List Value} {M : Mm} {ck sk : Nat}  (hdec0 : decode q.2.1 pc = .ok (.lcmp, 1)) (h : q2 st fun x y r => V (pc + 1) lv (.int (lg_cmp x y) :: r) M ck sk) : V pc lv st M ck sk := by
  subst hV
  have hx := X.1.1
  have hb := X.1.2.1
  have hml := X.1.2.2.1
  have hown := X.1.2.2.2.1
  have hts := X.1.2.2.2.2
  obtain ⟨x, y, r, rfl, h⟩ := h; intro H locs ls hP hS hl; exact W.lcmp hx hb hdec0 (h H locs ls hP hS hl)
theorem vs_pop (X : Cx p l R s m args meth c D cA B d q mc ms) {V : V_T} (hV : V = VV p l e R s m args below meth c D cA B q Q) {pc : Nat} {lv : List (Nat × Value)} {st : List Value} {M : Mm} {ck sk : Nat}  (hdec0 : decode q.2.1 pc = .ok (.pop, 1)) (h : ∃ v r, st = v :: r ∧ v.category = 1 ∧ V (pc + 1) lv r M ck sk) : V pc lv st M ck sk := by
  subst hV
  have hx := X.1.1
  have hb := X.1.2.1
  have hml := X.1.2.2.1
  have hown := X.1.2.2.2.1
  have hts := X.1.2.2.2.2
  obtain ⟨v, r, rfl, hv, h⟩ := h; intro H locs ls hP hS hl; exact lv_pop hx hb hdec0 hv (h H locs ls hP hS hl)
theorem vs_dup (X : Cx p l R s m args meth c D cA B d q mc ms) {V : V_T} (hV : V = VV p l e R s m args below meth c D cA B q Q) {pc : Nat} {lv : List (Nat × Value)} {st : List Value} {M : Mm} {ck sk : Nat}  (hdec0 : decode q.2.1 pc = .ok (.dup, 1)) (h : ∃ v r, st = v :: r ∧ v.category = 1 ∧ V (pc + 1) lv (v :: v :: r) M ck sk) : V pc lv st M ck sk := by
  subst hV
  have hx := X.1.1
  have hb := X.1.2.1
  have hml := X.1.2.2.1
  have hown := X.1.2.2.2.1
  have hts := X.1.2.2.2.2
  obtain ⟨v, r, rfl, hv, h⟩ := h; intro H locs ls hP hS hl; exact lv_dup hx hb hdec0 hv (h H locs ls hP hS hl)
theorem vs_dup2 (X : Cx p l R s m args meth c D cA B d q mc ms) {V : V_T} (hV : V = VV p l e R s m args below meth c D cA B q Q) {pc : Nat} {lv : List (Nat × Value)} {st : List Value} {M : Mm} {ck sk : Nat}  (hdec0 : decode q.2.1 pc = .ok (.dup2, 1)) (h : ∃ v w r, st = v :: w :: r ∧ v.category = 1 ∧ w.category = 1 ∧ V (pc + 1) lv (v :: w :: v :: w :: r) M ck sk) : V pc lv st M ck sk := by
  subst hV
  have hx := X.1.1
  have hb := X.1.2.1
  have hml := X.1.2.2.1
  have hown := X.1.2.2.2.1
  have hts := X.1.2.2.2.2
  obtain ⟨v, w, r, rfl, hv, hw, h⟩ := h; intro H locs ls hP hS hl; exact lv_dup2_11 hx hb hdec0 hv hw (h H locs ls hP hS hl)
theorem vs_goto (X : Cx p l R s m args meth c D cA B d q mc ms) {V : V_T} (hV : V = VV p l e R s m args below meth c D cA B q Q) {pc : Nat} {lv : List (Nat × Value)} {st : List Value} {M : Mm} {ck sk : Nat} {off : Int} (hdec0 : decode q.2.1 pc = .ok (.goto off, 3)) (h : 0 ≤ (pc : Int) + off ∧ V (tg pc off) lv st M ck sk) : V pc lv st M ck sk := by
  subst hV
  have hx := X.1.1
  have hb := X.1.2.1
  have hml := X.1.2.2.1
  have hown := X.1.2.2.2.1
  have hts := X.1.2.2.2.2
  obtain ⟨h0, h⟩ := h; intro H locs ls hP hS hl; exact lv_goto hx hb hdec0 (tg_eq h0) (h H locs ls hP hS hl)
theorem vs_ifCond (X : Cx p l R s m args meth c D cA B d q mc ms) {V : V_T} (hV : V = VV p l e R s m args below meth c D cA B q Q) {pc : Nat} {lv : List (Nat × Value)} {st : List Value} {M : Mm} {ck sk : Nat} {c9 : Jvm.ClassFile.Cond} {off : Int} (hdec0 : decode q.2.1 pc = .ok (.ifCond c9 off, 3)) (h : p1 st fun x r => 0 ≤ (pc : Int) + off ∧ (cZ c9 x → V (tg pc off) lv r M ck sk) ∧ (¬ cZ c9 x → V (pc + 3) lv r M ck sk)) : V pc lv st M ck sk := by
  subst hV
  have hx := X.1.1
  have hb := X.1.2.1
  have hml := X.1.2.2.1
  have hown := X.1.2.2.2.1
  have hts := X.1.2.2.2.2
  obtain ⟨x, r, rfl, h0, ht, hf⟩ := h; intro H locs ls hP hS hl
  have hd := hdec0
  cases c9 with
  | eq => exact lv_if_eq hx hb hd (tg_eq h0) (fun z => ht z H locs ls hP hS hl) (fun z => hf z H locs ls hP hS hl)
  | ne => exact lv_if_ne hx hb hd (tg_eq h0) (fun z => ht z H locs ls hP hS hl) (fun z => hf (fun w => w z) H locs ls hP hS hl)
  | lt => exact lv_if_lt hx hb hd (tg_eq h0) (fun z => ht z H locs ls hP hS hl) (fun z => hf z H locs ls hP hS hl)
  | ge => exact lv_if_ge hx hb hd (tg_eq h0) (fun z => ht z H locs ls hP hS hl) (fun z => hf z H locs ls hP hS hl)
  | gt => exact lv_if_gt hx hb hd (tg_eq h0) (fun z => ht z H locs ls hP hS hl) (fun z => hf z H locs ls hP hS hl)
  | le => exact lv_if_le hx hb hd (tg_eq h0) (fun z => ht z H locs ls hP hS hl) (fun z => hf z H locs ls hP hS hl)
theorem vs_if_icmp (X : Cx p l R s m args meth c D cA B d q mc ms) {V : V_T} (hV : V = VV p l e R s m args below meth c D cA B q Q) {pc : Nat} {lv : List (Nat × Value)} {st : List Value} {M : Mm} {ck sk : Nat} {c9 : Jvm.ClassFile.Cond} {off : Int} (hdec0 : decode q.2.1 pc = .ok (.if_icmp c9 off, 3)) (h : p2 st fun x y r => 0 ≤ (pc : Int) + off ∧ (cI c9 x y → V (tg pc off) lv r M ck sk) ∧ (¬ cI c9 x y → V (pc + 3) lv r M ck sk)) : V pc lv st M ck sk := by
  subst hV
  have hx := X.1.1
  have hb := X.1.2.1
  have hml := X.1.2.2.1
  have hown := X.1.2.2.2.1
  have hts := X.1.2.2.2.2
  obtain ⟨x, y, r, rfl, h0, ht, hf⟩ := h; intro H locs ls hP hS hl
  have hd := hdec0
  cases c9 with
  | eq => exact lv_icmp_eq hx hb hd (tg_eq h0) (fun z => ht z H locs ls hP hS hl) (fun z => hf z H locs ls hP hS hl)
  | ne => exact lv_icmp_ne hx hb hd (tg_eq h0) (fun z => ht z H locs ls hP hS hl) (fun z => hf (fun w => w z) H locs ls hP hS hl)
  | lt => exact lv_icmp_lt hx hb hd (tg_eq h0) (fun z => ht z H locs ls hP hS hl) (fun z => hf z H locs ls hP hS hl)
  | ge => exact lv_icmp_ge hx hb hd (tg_eq h0) (fun z => ht z H locs ls hP hS hl) (fun z => hf z H locs ls hP hS hl)
  | gt => exact lv_icmp_gt hx hb hd (tg_eq h0) (fun z => ht z H locs ls hP hS hl) (fun z => hf z H locs ls hP hS hl)
  | le => exact lv_icmp_le hx hb hd (tg_eq h0) (fun z => ht z H locs ls hP hS hl) (fun z => hf z H locs ls hP hS hl)
theorem vs_ifnull (X : Cx p l R s m args meth c D cA B d q mc ms) {V : V_T} (hV : V = VV p l e R s m args below meth c D cA B q Q) {pc : Nat} {lv : List (Nat × Value)} {st : List Value} {M : Mm} {ck sk : Nat} {off : Int} (hdec0 : decode q.2.1 pc = .ok (.ifnull off, 3)) (h : r1 st fun x r => 0 ≤ (pc : Int) + off ∧ (x = none → V (tg pc off) lv r M ck sk) ∧ (∀ a, x = some a → V (pc + 3) lv r M ck sk)) : V pc lv st M ck sk := by
  subst hV
  have hx := X.1.1
  have hb := X.1.2.1
  have hml := X.1.2.2.1
  have hown := X.1.2.2.2.1
  have hts := X.1.2.2.2.2
  obtain ⟨x, r, rfl, h0, hn1, hs1⟩ := h; intro H locs ls hP hS hl
  have hd := hdec0
  cases x with
  | none => exact lv_ifnullN hx hb hd (tg_eq h0) (hn1 rfl H locs ls hP hS hl)
  | some a => exact lv_ifnull hx hb hd (hs1 a rfl H locs ls hP hS hl)
theorem vs_ifnonnull (X : Cx p l R s m args meth c D cA B d q mc ms) {V : V_T} (hV : V = VV p l e R s m args below meth c D cA B q Q) {pc : Nat} {lv : List (Nat × Value)} {st : List Value} {M : Mm} {ck sk : Nat} {off : Int} (hdec0 : decode q.2.1 pc = .ok (.ifnonnull off, 3)) (h : r1 st fun x r => 0 ≤ (pc : Int) + off ∧ (x = none → V (pc + 3) lv r M ck sk) ∧ (∀ a, x = some a → V (tg pc off) lv r M ck sk)) : V pc lv st M ck sk := by
  subst hV
  have hx := X.1.1
  have hb := X.1.2.1
  have hml := X.1.2.2.1
  have hown := X.1.2.2.2.1
  have hts := X.1.2.2.2.2
  obtain ⟨x, r, rfl, h0, hn1, hs1⟩ := h; intro H locs ls hP hS hl
  have hd := hdec0
  cases x with
  | none => exact lv_ifnonnullN hx hb hd (hn1 rfl H locs ls hP hS hl)
  | some a => exact lv_ifnonnull hx hb hd (tg_eq h0) (hs1 a rfl H locs ls hP hS hl)
theorem vs_tableswitch (X : Cx p l R s m args meth c D cA B d q mc ms) {V : V_T} (hV : V = VV p l e R s m args below meth c D cA B q Q) {pc : Nat} {lv : List (Nat × Value)} {st : List Value} {M : Mm} {ck sk : Nat} {d9 lo hi : Int} {offs : Array Int} {n : Nat} (hdec0 : decode q.2.1 pc = .ok (.tableswitch d9 lo hi offs, n)) (h : p1 st fun x r => 0 ≤ (pc : Int) + d9 ∧ (x.toInt < lo ∨ hi < x.toInt → V (tg pc d9) lv r M ck sk) ∧ (¬ x.toInt < lo → ¬ hi < x.toInt → ∃ off, offs[(x.toInt - lo).toNat]? = some off ∧ 0 ≤ (pc : Int) + off ∧ V (tg pc off) lv r M ck sk)) : V pc lv st M ck sk := by
  subst hV
  have hx := X.1.1
  have hb := X.1.2.1
  have hml := X.1.2.2.1
  have hown := X.1.2.2.2.1
  have hts := X.1.2.2.2.2
  obtain ⟨x, r, rfl, h0, hout, hin⟩ := h; intro H locs ls hP hS hl
  by_cases hA : x.toInt < lo ∨ hi < x.toInt
  · exact lv_tableOut hx hb hdec0 hA (tg_eq h0) (hout hA H locs ls hP hS hl)
  · obtain ⟨off, ho, h1, h⟩ := hin (fun z => hA (Or.inl z)) (fun z => hA (Or.inr z))
    exact lv_tableIn hx hb hdec0 (fun z => hA (Or.inl z)) (fun z => hA (Or.inr z)) ho (tg_eq h1) (h H locs ls hP hS hl)
end Main
end
-- 11.step.lean.txt
section
section Main
variable {p : Program} {l : Launch} {e : Env} {R : Room} {s : State} {m : MethodId} {args : Array Value} {below : List Frame} {meth : Method} {c : Code} {D : va_G} {cA : Nat → ClassId} {B d : Nat} {q : mm_T} {mc ms : Nat} {Q : State → Prop}
theorem vv_step0 (X : Cx p l R s m args meth c D cA B d q mc ms) {Post : Po} (hX : KX p l e R s m args below meth c D cA B q mc ms Q Post) {E : E_T} (IH : ∀ k as M mc ms P, E k as M mc ms P → ∃ y, P_mq k = some y ∧ CT l D cA B d y as M mc ms P)
    (hend : (∀ pc lv x M ck sk, decode q.2.1 pc = .ok (.ireturn, 1) → (q.2.2.2.1 = some .int ∨ q.2.2.2.1 = some .boolean ∧ (x = 0 ∨ x = 1)) → ck ≤ mc → sk ≤ ms → Post (.inl (some (.int x))) M → VV p l e R s m args below meth c D cA B q Q pc lv [.int x] M ck sk)
      ∧ (∀ pc lv x M ck sk, decode q.2.1 pc = .ok (.lreturn, 1) → q.2.2.2.1 = some .long → ck ≤ mc → sk ≤ ms → Post (.inl (some (.long x))) M → VV p l e R s m args below meth c D cA B q Q pc lv [.long x] M ck sk)
      ∧ (∀ pc lv x M ck sk, decode q.2.1 pc = .ok (.areturn, 1) → ((∃ n, q.2.2.2.1 = some (.object n)) ∨ ∃ t, q.2.2.2.1 = some (.array t)) → ck ≤ mc → sk ≤ ms → Post (.inl (some (va_rf x))) M → VV p l e R s m args below meth c D cA B q Q pc lv [va_rf x] M ck sk)
      ∧ (∀ pc lv M ck sk, decode q.2.1 pc = .ok (.return_, 1) → q.2.2.2.1 = none → ck ≤ mc → sk ≤ ms → Post (.inl none) M → VV p l e R s m args below meth c D cA B q Q pc lv [] M ck sk))
    (hthr : ∀ (j ic ee pc : Nat) lv st M ck sk, decode q.2.1 pc = .ok (.new j, 3) → P_xx q.2.2.2.2.1 j = some (ic, ee) → q.2.2.2.2.2.1 = [] → decode q.2.1 (pc + 3) = .ok (.dup, 1) → decode q.2.1 (pc + 4) = .ok (.invokespecial ic, 3) → decode q.2.1 (pc + 7) = .ok (.athrow, 1) → (st.map fun v => v.category).sum ≤ 8 → ck + 1 ≤ mc → sk + 6 ≤ ms → Post (.inr ee) M → VV p l e R s m args below meth c D cA B q Q pc lv st M ck sk)
    {pc : Nat} {lv : List (Nat × Value)} {st : List Value} {M : Mm} {ck sk : Nat} {i : Instr} {n : Nat} (hdec0 : decode q.2.1 pc = .ok (i, n)) (hall : ∀ z ∈ q.2.2.2.2.2.2.flatten, decode q.2.1 z.1 = .ok z.2) (h : sti0 E q mc ms Post (VV p l e R s m args below meth c D cA B q Q) pc lv st M ck sk i n) : VV p l e R s m args below meth c D cA B q Q pc lv st M ck sk := by
  have hx := X.1.1
  have hb := X.1.2.1
  have hml := X.1.2.2.1
  have hown := X.1.2.2.2.1
  have hts := X.1.2.2.2.2
  unfold sti0 at h
  rcases h with ⟨j, rfl, rfl, h⟩ | ⟨j, rfl, rfl, h⟩ | ⟨j, rfl, rfl, h⟩ | ⟨j, rfl, rfl, h⟩ | ⟨j, rfl, rfl, h⟩ | ⟨j, rfl, rfl, h⟩ | ⟨v, rfl, rfl, h⟩ | ⟨v, rfl, rfl, h⟩ | ⟨v, rfl, rfl, h⟩ | ⟨v, rfl, rfl, h⟩
  · exact vs_aload X rfl hdec0 h
  · exact vs_aload_n X rfl hdec0 h
  · exact vs_iload X rfl hdec0 h
  · exact vs_iload_n X rfl hdec0 h
  · exact vs_lload X rfl hdec0 h
  · exact vs_lload_n X rfl hdec0 h
  · exact vs_iconst X rfl hdec0 h
  · exact vs_bipush X rfl hdec0 h
  · exact vs_sipush X rfl hdec0 h
  · exact vs_lconst X rfl hdec0 h
theorem vv_step1 (X : Cx p l R s m args meth c D cA B d q mc ms) {Post : Po} (hX : KX p l e R s m args below meth c D cA B q mc ms Q Post) {E : E_T} (IH : ∀ k as M mc ms P, E k as M mc ms P → ∃ y, P_mq k = some y ∧ CT l D cA B d y as M mc ms P)
    (hend : (∀ pc lv x M ck sk, decode q.2.1 pc = .ok (.ireturn, 1) → (q.2.2.2.1 = some .int ∨ q.2.2.2.1 = some .boolean ∧ (x = 0 ∨ x = 1)) → ck ≤ mc → sk ≤ ms → Post (.inl (some (.int x))) M → VV p l e R s m args below meth c D cA B q Q pc lv [.int x] M ck sk)
      ∧ (∀ pc lv x M ck sk, decode q.2.1 pc = .ok (.lreturn, 1) → q.2.2.2.1 = some .long → ck ≤ mc → sk ≤ ms → Post (.inl (some (.long x))) M → VV p l e R s m args below meth c D cA B q Q pc lv [.long x] M ck sk)
      ∧ (∀ pc lv x M ck sk, decode q.2.1 pc = .ok (.areturn, 1) → ((∃ n, q.2.2.2.1 = some (.object n)) ∨ ∃ t, q.2.2.2.1 = some (.array t)) → ck ≤ mc → sk ≤ ms → Post (.inl (some (va_rf x))) M → VV p l e R s m args below meth c D cA B q Q pc lv [va_rf x] M ck sk)
      ∧ (∀ pc lv M ck sk, decode q.2.1 pc = .ok (.return_, 1) → q.2.2.2.1 = none → ck ≤ mc → sk ≤ ms → Post (.inl none) M → VV p l e R s m args below meth c D cA B q Q pc lv [] M ck sk))
    (hthr : ∀ (j ic ee pc : Nat) lv st M ck sk, decode q.2.1 pc = .ok (.new j, 3) → P_xx q.2.2.2.2.1 j = some (ic, ee) → q.2.2.2.2.2.1 = [] → decode q.2.1 (pc + 3) = .ok (.dup, 1) → decode q.2.1 (pc + 4) = .ok (.invokespecial ic, 3) → decode q.2.1 (pc + 7) = .ok (.athrow, 1) → (st.map fun v => v.category).sum ≤ 8 → ck + 1 ≤ mc → sk + 6 ≤ ms → Post (.inr ee) M → VV p l e R s m args below meth c D cA B q Q pc lv st M ck sk)
    {pc : Nat} {lv : List (Nat × Value)} {st : List Value} {M : Mm} {ck sk : Nat} {i : Instr} {n : Nat} (hdec0 : decode q.2.1 pc = .ok (i, n)) (hall : ∀ z ∈ q.2.2.2.2.2.2.flatten, decode q.2.1 z.1 = .ok z.2) (h : sti1 E q mc ms Post (VV p l e R s m args below meth c D cA B q Q) pc lv st M ck sk i n) : VV p l e R s m args below meth c D cA B q Q pc lv st M ck sk := by
  have hx := X.1.1
  have hb := X.1.2.1
  have hml := X.1.2.2.1
  have hown := X.1.2.2.2.1
  have hts := X.1.2.2.2.2
  unfold sti1 at h
  rcases h with ⟨rfl, rfl, h⟩ | ⟨j, rfl, rfl, h⟩ | ⟨j, rfl, rfl, h⟩ | ⟨j, rfl, rfl, h⟩ | ⟨j, rfl, rfl, h⟩ | ⟨j, rfl, rfl, h⟩ | ⟨j, rfl, rfl, h⟩ | ⟨j, rfl, rfl, h⟩ | ⟨j, rfl, rfl, h⟩ | ⟨j, rfl, rfl, h⟩
  · exact vs_aconst_null X rfl hdec0 h
  · exact vs_ldc X rfl hdec0 h
  · exact vs_ldc_w X rfl hdec0 h
  · exact vs_ldc2_w X rfl hdec0 h
  · exact vs_istore X rfl hdec0 h
  · exact vs_istore_n X rfl hdec0 h
  · exact vs_astore X rfl hdec0 h
  · exact vs_astore_n X rfl hdec0 h
  · exact vs_lstore X rfl hdec0 h
  · exact vs_lstore_n X rfl hdec0 h
theorem vv_step2 (X : Cx p l R s m args meth c D cA B d q mc ms) {Post : Po} (hX : KX p l e R s m args below meth c D cA B q mc ms Q Post) {E : E_T} (IH : ∀ k as M mc ms P, E k as M mc ms P → ∃ y, P_mq k = some y ∧ CT l D cA B d y as M mc ms P)
    (hend : (∀ pc lv x M ck sk, decode q.2.1 pc = .ok (.ireturn, 1) → (q.2.2.2.1 = some .int ∨ q.2.2.2.1 = some .boolean ∧ (x = 0 ∨ x = 1)) → ck ≤ mc → sk ≤ ms → Post (.inl (some (.int x))) M → VV p l e R s m args below meth c D cA B q Q pc lv [.int x] M ck sk)
      ∧ (∀ pc lv x M ck sk, decode q.2.1 pc = .ok (.lreturn, 1) → q.2.2.2.1 = some .long → ck ≤ mc → sk ≤ ms → Post (.inl (some (.long x))) M → VV p l e R s m args below meth c D cA B q Q pc lv [.long x] M ck sk)
      ∧ (∀ pc lv x M ck sk, decode q.2.1 pc = .ok (.areturn, 1) → ((∃ n, q.2.2.2.1 = some (.object n)) ∨ ∃ t, q.2.2.2.1 = some (.array t)) → ck ≤ mc → sk ≤ ms → Post (.inl (some (va_rf x))) M → VV p l e R s m args below meth c D cA B q Q pc lv [va_rf x] M ck sk)
      ∧ (∀ pc lv M ck sk, decode q.2.1 pc = .ok (.return_, 1) → q.2.2.2.1 = none → ck ≤ mc → sk ≤ ms → Post (.inl none) M → VV p l e R s m args below meth c D cA B q Q pc lv [] M ck sk))
    (hthr : ∀ (j ic ee pc : Nat) lv st M ck sk, decode q.2.1 pc = .ok (.new j, 3) → P_xx q.2.2.2.2.1 j = some (ic, ee) → q.2.2.2.2.2.1 = [] → decode q.2.1 (pc + 3) = .ok (.dup, 1) → decode q.2.1 (pc + 4) = .ok (.invokespecial ic, 3) → decode q.2.1 (pc + 7) = .ok (.athrow, 1) → (st.map fun v => v.category).sum ≤ 8 → ck + 1 ≤ mc → sk + 6 ≤ ms → Post (.inr ee) M → VV p l e R s m args below meth c D cA B q Q pc lv st M ck sk)
    {pc : Nat} {lv : List (Nat × Value)} {st : List Value} {M : Mm} {ck sk : Nat} {i : Instr} {n : Nat} (hdec0 : decode q.2.1 pc = .ok (i, n)) (hall : ∀ z ∈ q.2.2.2.2.2.2.flatten, decode q.2.1 z.1 = .ok z.2) (h : sti2 E q mc ms Post (VV p l e R s m args below meth c D cA B q Q) pc lv st M ck sk i n) : VV p l e R s m args below meth c D cA B q Q pc lv st M ck sk := by
  have hx := X.1.1
  have hb := X.1.2.1
  have hml := X.1.2.2.1
  have hown := X.1.2.2.2.1
  have hts := X.1.2.2.2.2
  unfold sti2 at h
  rcases h with ⟨j, dd, rfl, rfl, h⟩ | ⟨rfl, rfl, h⟩ | ⟨rfl, rfl, h⟩ | ⟨rfl, rfl, h⟩ | ⟨rfl, rfl, h⟩ | ⟨rfl, rfl, h⟩ | ⟨rfl, rfl, h⟩ | ⟨rfl, rfl, h⟩ | ⟨rfl, rfl, h⟩ | ⟨rfl, rfl, h⟩
  · exact vs_iinc X rfl hdec0 h
  · exact vs_iadd X rfl hdec0 h
  · exact vs_isub X rfl hdec0 h
  · exact vs_imul X rfl hdec0 h
  · exact vs_idiv X rfl hdec0 h
  · exact vs_irem X rfl hdec0 h
  · exact vs_ineg X rfl hdec0 h
  · exact vs_iand X rfl hdec0 h
  · exact vs_ior X rfl hdec0 h
  · exact vs_ixor X rfl hdec0 h
theorem vv_step3 (X : Cx p l R s m args meth c D cA B d q mc ms) {Post : Po} (hX : KX p l e R s m args below meth c D cA B q mc ms Q Post) {E : E_T} (IH : ∀ k as M mc ms P, E k as M mc ms P → ∃ y, P_mq k = some y ∧ CT l D cA B d y as M mc ms P)
    (hend : (∀ pc lv x M ck sk, decode q.2.1 pc = .ok (.ireturn, 1) → (q.2.2.2.1 = some .int ∨ q.2.2.2.1 = some .boolean ∧ (x = 0 ∨ x = 1)) → ck ≤ mc → sk ≤ ms → Post (.inl (some (.int x))) M → VV p l e R s m args below meth c D cA B q Q pc lv [.int x] M ck sk)
      ∧ (∀ pc lv x M ck sk, decode q.2.1 pc = .ok (.lreturn, 1) → q.2.2.2.1 = some .long → ck ≤ mc → sk ≤ ms → Post (.inl (some (.long x))) M → VV p l e R s m args below meth c D cA B q Q pc lv [.long x] M ck sk)
      ∧ (∀ pc lv x M ck sk, decode q.2.1 pc = .ok (.areturn, 1) → ((∃ n, q.2.2.2.1 = some (.object n)) ∨ ∃ t, q.2.2.2.1 = some (.array t)) → ck ≤ mc → sk ≤ ms → Post (.inl (some (va_rf x))) M → VV p l e R s m args below meth c D cA B q Q pc lv [va_rf x] M ck sk)
      ∧ (∀ pc lv M ck sk, decode q.2.1 pc = .ok (.return_, 1) → q.2.2.2.1 = none → ck ≤ mc → sk ≤ ms → Post (.inl none) M → VV p l e R s m args below meth c D cA B q Q pc lv [] M ck sk))
    (hthr : ∀ (j ic ee pc : Nat) lv st M ck sk, decode q.2.1 pc = .ok (.new j, 3) → P_xx q.2.2.2.2.1 j = some (ic, ee) → q.2.2.2.2.2.1 = [] → decode q.2.1 (pc + 3) = .ok (.dup, 1) → decode q.2.1 (pc + 4) = .ok (.invokespecial ic, 3) → decode q.2.1 (pc + 7) = .ok (.athrow, 1) → (st.map fun v => v.category).sum ≤ 8 → ck + 1 ≤ mc → sk + 6 ≤ ms → Post (.inr ee) M → VV p l e R s m args below meth c D cA B q Q pc lv st M ck sk)
    {pc : Nat} {lv : List (Nat × Value)} {st : List Value} {M : Mm} {ck sk : Nat} {i : Instr} {n : Nat} (hdec0 : decode q.2.1 pc = .ok (i, n)) (hall : ∀ z ∈ q.2.2.2.2.2.2.flatten, decode q.2.1 z.1 = .ok z.2) (h : sti3 E q mc ms Post (VV p l e R s m args below meth c D cA B q Q) pc lv st M ck sk i n) : VV p l e R s m args below meth c D cA B q Q pc lv st M ck sk := by
  have hx := X.1.1
  have hb := X.1.2.1
  have hml := X.1.2.2.1
  have hown := X.1.2.2.2.1
  have hts := X.1.2.2.2.2
  unfold sti3 at h
  rcases h with ⟨rfl, rfl, h⟩ | ⟨rfl, rfl, h⟩ | ⟨rfl, rfl, h⟩ | ⟨rfl, rfl, h⟩ | ⟨rfl, rfl, h⟩ | ⟨rfl, rfl, h⟩ | ⟨rfl, rfl, h⟩ | ⟨rfl, rfl, h⟩ | ⟨rfl, rfl, h⟩ | ⟨rfl, rfl, h⟩
  · exact vs_ishl X rfl hdec0 h
  · exact vs_ishr X rfl hdec0 h
  · exact vs_iushr X rfl hdec0 h
  · exact vs_i2l X rfl hdec0 h
  · exact vs_i2b X rfl hdec0 h
  · exact vs_l2i X rfl hdec0 h
  · exact vs_ladd X rfl hdec0 h
  · exact vs_lsub X rfl hdec0 h
  · exact vs_lmul X rfl hdec0 h
  · exact vs_ldiv X rfl hdec0 h
theorem vv_step4 (X : Cx p l R s m args meth c D cA B d q mc ms) {Post : Po} (hX : KX p l e R s m args below meth c D cA B q mc ms Q Post) {E : E_T} (IH : ∀ k as M mc ms P, E k as M mc ms P → ∃ y, P_mq k = some y ∧ CT l D cA B d y as M mc ms P)
    (hend : (∀ pc lv x M ck sk, decode q.2.1 pc = .ok (.ireturn, 1) → (q.2.2.2.1 = some .int ∨ q.2.2.2.1 = some .boolean ∧ (x = 0 ∨ x = 1)) → ck ≤ mc → sk ≤ ms → Post (.inl (some (.int x))) M → VV p l e R s m args below meth c D cA B q Q pc lv [.int x] M ck sk)
      ∧ (∀ pc lv x M ck sk, decode q.2.1 pc = .ok (.lreturn, 1) → q.2.2.2.1 = some .long → ck ≤ mc → sk ≤ ms → Post (.inl (some (.long x))) M → VV p l e R s m args below meth c D cA B q Q pc lv [.long x] M ck sk)
      ∧ (∀ pc lv x M ck sk, decode q.2.1 pc = .ok (.areturn, 1) → ((∃ n, q.2.2.2.1 = some (.object n)) ∨ ∃ t, q.2.2.2.1 = some (.array t)) → ck ≤ mc → sk ≤ ms → Post (.inl (some (va_rf x))) M → VV p l e R s m args below meth c D cA B q Q pc lv [va_rf x] M ck sk)
      ∧ (∀ pc lv M ck sk, decode q.2.1 pc = .ok (.return_, 1) → q.2.2.2.1 = none → ck ≤ mc → sk ≤ ms → Post (.inl none) M → VV p l e R s m args below meth c D cA B q Q pc lv [] M ck sk))
    (hthr : ∀ (j ic ee pc : Nat) lv st M ck sk, decode q.2.1 pc = .ok (.new j, 3) → P_xx q.2.2.2.2.1 j = some (ic, ee) → q.2.2.2.2.2.1 = [] → decode q.2.1 (pc + 3) = .ok (.dup, 1) → decode q.2.1 (pc + 4) = .ok (.invokespecial ic, 3) → decode q.2.1 (pc + 7) = .ok (.athrow, 1) → (st.map fun v => v.category).sum ≤ 8 → ck + 1 ≤ mc → sk + 6 ≤ ms → Post (.inr ee) M → VV p l e R s m args below meth c D cA B q Q pc lv st M ck sk)
    {pc : Nat} {lv : List (Nat × Value)} {st : List Value} {M : Mm} {ck sk : Nat} {i : Instr} {n : Nat} (hdec0 : decode q.2.1 pc = .ok (i, n)) (hall : ∀ z ∈ q.2.2.2.2.2.2.flatten, decode q.2.1 z.1 = .ok z.2) (h : sti4 E q mc ms Post (VV p l e R s m args below meth c D cA B q Q) pc lv st M ck sk i n) : VV p l e R s m args below meth c D cA B q Q pc lv st M ck sk := by
  have hx := X.1.1
  have hb := X.1.2.1
  have hml := X.1.2.2.1
  have hown := X.1.2.2.2.1
  have hts := X.1.2.2.2.2
  unfold sti4 at h
  rcases h with ⟨rfl, rfl, h⟩ | ⟨rfl, rfl, h⟩ | ⟨rfl, rfl, h⟩ | ⟨rfl, rfl, h⟩ | ⟨rfl, rfl, h⟩ | ⟨rfl, rfl, h⟩ | ⟨rfl, rfl, h⟩ | ⟨off, rfl, rfl, h⟩ | ⟨cc, off, rfl, rfl, h⟩ | ⟨cc, off, rfl, rfl, h⟩
  · exact vs_lrem X rfl hdec0 h
  · exact vs_lxor X rfl hdec0 h
  · exact vs_lneg X rfl hdec0 h
  · exact vs_lcmp X rfl hdec0 h
  · exact vs_pop X rfl hdec0 h
  · exact vs_dup X rfl hdec0 h
  · exact vs_dup2 X rfl hdec0 h
  · exact vs_goto X rfl hdec0 h
  · exact vs_ifCond X rfl hdec0 h
  · exact vs_if_icmp X rfl hdec0 h
theorem vv_step5 (X : Cx p l R s m args meth c D cA B d q mc ms) {Post : Po} (hX : KX p l e R s m args below meth c D cA B q mc ms Q Post) {E : E_T} (IH : ∀ k as M mc ms P, E k as M mc ms P → ∃ y, P_mq k = some y ∧ CT l D cA B d y as M mc ms P)
    (hend : (∀ pc lv x M ck sk, decode q.2.1 pc = .ok (.ireturn, 1) → (q.2.2.2.1 = some .int ∨ q.2.2.2.1 = some .boolean ∧ (x = 0 ∨ x = 1)) → ck ≤ mc → sk ≤ ms → Post (.inl (some (.int x))) M → VV p l e R s m args below meth c D cA B q Q pc lv [.int x] M ck sk)
      ∧ (∀ pc lv x M ck sk, decode q.2.1 pc = .ok (.lreturn, 1) → q.2.2.2.1 = some .long → ck ≤ mc → sk ≤ ms → Post (.inl (some (.long x))) M → VV p l e R s m args below meth c D cA B q Q pc lv [.long x] M ck sk)
      ∧ (∀ pc lv x M ck sk, decode q.2.1 pc = .ok (.areturn, 1) → ((∃ n, q.2.2.2.1 = some (.object n)) ∨ ∃ t, q.2.2.2.1 = some (.array t)) → ck ≤ mc → sk ≤ ms → Post (.inl (some (va_rf x))) M → VV p l e R s m args below meth c D cA B q Q pc lv [va_rf x] M ck sk)
      ∧ (∀ pc lv M ck sk, decode q.2.1 pc = .ok (.return_, 1) → q.2.2.2.1 = none → ck ≤ mc → sk ≤ ms → Post (.inl none) M → VV p l e R s m args below meth c D cA B q Q pc lv [] M ck sk))
    (hthr : ∀ (j ic ee pc : Nat) lv st M ck sk, decode q.2.1 pc = .ok (.new j, 3) → P_xx q.2.2.2.2.1 j = some (ic, ee) → q.2.2.2.2.2.1 = [] → decode q.2.1 (pc + 3) = .ok (.dup, 1) → decode q.2.1 (pc + 4) = .ok (.invokespecial ic, 3) → decode q.2.1 (pc + 7) = .ok (.athrow, 1) → (st.map fun v => v.category).sum ≤ 8 → ck + 1 ≤ mc → sk + 6 ≤ ms → Post (.inr ee) M → VV p l e R s m args below meth c D cA B q Q pc lv st M ck sk)
    {pc : Nat} {lv : List (Nat × Value)} {st : List Value} {M : Mm} {ck sk : Nat} {i : Instr} {n : Nat} (hdec0 : decode q.2.1 pc = .ok (i, n)) (hall : ∀ z ∈ q.2.2.2.2.2.2.flatten, decode q.2.1 z.1 = .ok z.2) (h : sti5 E q mc ms Post (VV p l e R s m args below meth c D cA B q Q) pc lv st M ck sk i n) : VV p l e R s m args below meth c D cA B q Q pc lv st M ck sk := by
  have hx := X.1.1
  have hb := X.1.2.1
  have hml := X.1.2.2.1
  have hown := X.1.2.2.2.1
  have hts := X.1.2.2.2.2
  unfold sti5 at h
  rcases h with ⟨off, rfl, rfl, h⟩ | ⟨off, rfl, rfl, h⟩ | ⟨dd, lo, hi, offs, rfl, h⟩ | ⟨j, rfl, rfl, h⟩ | ⟨j, rfl, rfl, h⟩ | ⟨rfl, rfl, h⟩ | ⟨rfl, rfl, h⟩ | ⟨rfl, rfl, h⟩ | ⟨rfl, rfl, h⟩ | ⟨rfl, rfl, h⟩
  · exact vs_ifnull X rfl hdec0 h
  · exact vs_ifnonnull X rfl hdec0 h
  · exact vs_tableswitch X rfl hdec0 h
  · obtain ⟨a, r, rfl, ci, k, hf, ht, h⟩ := h; exact vv_get X hdec0 hf ht h
  · obtain ⟨v, a, r, rfl, ci, k, hf, ht, hfin, h⟩ := h; exact vv_put X hdec0 hf ht hfin h
  · obtain ⟨a, j, r, rfl, ht, hin, h⟩ := h; exact vv_iald X hdec0 ht hin h
  · obtain ⟨a, j, r, rfl, ht, hin, h⟩ := h; exact vv_lald X hdec0 ht hin h
  · obtain ⟨a, j, r, rfl, ht, hin, h⟩ := h; exact vv_bald X hdec0 ht hin h
  · obtain ⟨a, j, r, rfl, ⟨t, ht4, ht⟩, hin, h⟩ := h; exact vv_aald X hdec0 ht4 ht hin h
  · obtain ⟨x, r', rfl, a, j, r, rfl, ht, hin, h⟩ := h; exact vv_iast X hdec0 ht hin h
theorem vv_step6 (X : Cx p l R s m args meth c D cA B d q mc ms) {Post : Po} (hX : KX p l e R s m args below meth c D cA B q mc ms Q Post) {E : E_T} (IH : ∀ k as M mc ms P, E k as M mc ms P → ∃ y, P_mq k = some y ∧ CT l D cA B d y as M mc ms P)
    (hend : (∀ pc lv x M ck sk, decode q.2.1 pc = .ok (.ireturn, 1) → (q.2.2.2.1 = some .int ∨ q.2.2.2.1 = some .boolean ∧ (x = 0 ∨ x = 1)) → ck ≤ mc → sk ≤ ms → Post (.inl (some (.int x))) M → VV p l e R s m args below meth c D cA B q Q pc lv [.int x] M ck sk)
      ∧ (∀ pc lv x M ck sk, decode q.2.1 pc = .ok (.lreturn, 1) → q.2.2.2.1 = some .long → ck ≤ mc → sk ≤ ms → Post (.inl (some (.long x))) M → VV p l e R s m args below meth c D cA B q Q pc lv [.long x] M ck sk)
      ∧ (∀ pc lv x M ck sk, decode q.2.1 pc = .ok (.areturn, 1) → ((∃ n, q.2.2.2.1 = some (.object n)) ∨ ∃ t, q.2.2.2.1 = some (.array t)) → ck ≤ mc → sk ≤ ms → Post (.inl (some (va_rf x))) M → VV p l e R s m args below meth c D cA B q Q pc lv [va_rf x] M ck sk)
      ∧ (∀ pc lv M ck sk, decode q.2.1 pc = .ok (.return_, 1) → q.2.2.2.1 = none → ck ≤ mc → sk ≤ ms → Post (.inl none) M → VV p l e R s m args below meth c D cA B q Q pc lv [] M ck sk))
    (hthr : ∀ (j ic ee pc : Nat) lv st M ck sk, decode q.2.1 pc = .ok (.new j, 3) → P_xx q.2.2.2.2.1 j = some (ic, ee) → q.2.2.2.2.2.1 = [] → decode q.2.1 (pc + 3) = .ok (.dup, 1) → decode q.2.1 (pc + 4) = .ok (.invokespecial ic, 3) → decode q.2.1 (pc + 7) = .ok (.athrow, 1) → (st.map fun v => v.category).sum ≤ 8 → ck + 1 ≤ mc → sk + 6 ≤ ms → Post (.inr ee) M → VV p l e R s m args below meth c D cA B q Q pc lv st M ck sk)
    {pc : Nat} {lv : List (Nat × Value)} {st : List Value} {M : Mm} {ck sk : Nat} {i : Instr} {n : Nat} (hdec0 : decode q.2.1 pc = .ok (i, n)) (hall : ∀ z ∈ q.2.2.2.2.2.2.flatten, decode q.2.1 z.1 = .ok z.2) (h : sti6 E q mc ms Post (VV p l e R s m args below meth c D cA B q Q) pc lv st M ck sk i n) : VV p l e R s m args below meth c D cA B q Q pc lv st M ck sk := by
  have hx := X.1.1
  have hb := X.1.2.1
  have hml := X.1.2.2.1
  have hown := X.1.2.2.2.1
  have hts := X.1.2.2.2.2
  unfold sti6 at h
  rcases h with ⟨rfl, rfl, h⟩ | ⟨rfl, rfl, h⟩ | ⟨rfl, rfl, h⟩ | ⟨rfl, rfl, h⟩ | ⟨j, rfl, rfl, h⟩ | ⟨t, rfl, rfl, h⟩ | ⟨j, rfl, rfl, h⟩ | ⟨j, rfl, rfl, h⟩ | ⟨j, rfl, rfl, h⟩ | ⟨j, rfl, rfl, h⟩
  · obtain ⟨x, r', rfl, a, j, r, rfl, ht, hin, h⟩ := h; exact vv_last X hdec0 ht hin h
  · obtain ⟨x, r', rfl, a, j, r, rfl, ht, hin, h⟩ := h; exact vv_bast X hdec0 ht hin h
  · obtain ⟨b, r', rfl, a, j, r, rfl, ⟨t, ci, ht, htb, htc⟩, hin, h⟩ := h; exact vv_aast X hdec0 ht htb htc hin h
  · obtain ⟨a, r, rfl, ht, h⟩ := h; exact vv_alen X hdec0 ht h
  · rcases h with ⟨ic, ee, hx9, hn0, c3, c4, c7, hcat, h1, h2, hp⟩ | ⟨ci, hn9, h1, h2, h⟩
    · exact hthr j ic ee pc lv st M ck sk hdec0 hx9 hn0 (hall (pc + 3, (.dup, 1)) (cdf_mem c3)) (hall (pc + 4, (.invokespecial ic, 3)) (cdf_mem c4)) (hall (pc + 7, (.athrow, 1)) (cdf_mem c7)) hcat h1 h2 hp
    · exact vv_new X hdec0 hn9 h1 h2 h
  · obtain ⟨z, r, rfl, tt, ht, h0, hz, h1, h2, h⟩ := h; exact vv_newarr X hdec0 ht h0 hz h1 h2 h
  · obtain ⟨z, r, rfl, tt, ci, hn9, ht, h0, hz, h1, h2, h⟩ := h; exact vv_anew X hdec0 hn9 ht h0 hz h1 h2 h
  · obtain ⟨k, na, as, b, r, hm, rfl, hl9, hy, hc⟩ := h; exact vv_callV X hX IH hdec0 hm hl9 hy hc
  · obtain ⟨k, na, as, r, hm, rfl, hl9, hc⟩ := h; exact vv_callS X hX IH hdec0 hm hl9 hc
  · rcases h with ⟨a, r, ho, rfl, hcat, h⟩ | ⟨k, na, as, b, r, hm, rfl, hl9, hy, hc⟩
    · intro H locs ls hP hS hl
      exact W.objInit hx hb hown (hts _ (P_oi_ok ho)) (hts _ wObj_i) (hts _ wObj_c) rfl (hl.1.trans hml.symm) rfl hdec0 (by have := X.2.2.2.2.2.1; omega) (by have := X.2.2.2.2.2.2.1; have := lv_room (m := m) (pc := pc) (ls := ls) (rest := .ref a :: r) hcat; omega) (h H locs ls hP hS hl)
    · exact vv_callI X hX IH hdec0 hm hl9 hy hc
theorem vv_step7 (X : Cx p l R s m args meth c D cA B d q mc ms) {Post : Po} (hX : KX p l e R s m args below meth c D cA B q mc ms Q Post) {E : E_T} (IH : ∀ k as M mc ms P, E k as M mc ms P → ∃ y, P_mq k = some y ∧ CT l D cA B d y as M mc ms P)
    (hend : (∀ pc lv x M ck sk, decode q.2.1 pc = .ok (.ireturn, 1) → (q.2.2.2.1 = some .int ∨ q.2.2.2.1 = some .boolean ∧ (x = 0 ∨ x = 1)) → ck ≤ mc → sk ≤ ms → Post (.inl (some (.int x))) M → VV p l e R s m args below meth c D cA B q Q pc lv [.int x] M ck sk)
      ∧ (∀ pc lv x M ck sk, decode q.2.1 pc = .ok (.lreturn, 1) → q.2.2.2.1 = some .long → ck ≤ mc → sk ≤ ms → Post (.inl (some (.long x))) M → VV p l e R s m args below meth c D cA B q Q pc lv [.long x] M ck sk)
      ∧ (∀ pc lv x M ck sk, decode q.2.1 pc = .ok (.areturn, 1) → ((∃ n, q.2.2.2.1 = some (.object n)) ∨ ∃ t, q.2.2.2.1 = some (.array t)) → ck ≤ mc → sk ≤ ms → Post (.inl (some (va_rf x))) M → VV p l e R s m args below meth c D cA B q Q pc lv [va_rf x] M ck sk)
      ∧ (∀ pc lv M ck sk, decode q.2.1 pc = .ok (.return_, 1) → q.2.2.2.1 = none → ck ≤ mc → sk ≤ ms → Post (.inl none) M → VV p l e R s m args below meth c D cA B q Q pc lv [] M ck sk))
    (hthr : ∀ (j ic ee pc : Nat) lv st M ck sk, decode q.2.1 pc = .ok (.new j, 3) → P_xx q.2.2.2.2.1 j = some (ic, ee) → q.2.2.2.2.2.1 = [] → decode q.2.1 (pc + 3) = .ok (.dup, 1) → decode q.2.1 (pc + 4) = .ok (.invokespecial ic, 3) → decode q.2.1 (pc + 7) = .ok (.athrow, 1) → (st.map fun v => v.category).sum ≤ 8 → ck + 1 ≤ mc → sk + 6 ≤ ms → Post (.inr ee) M → VV p l e R s m args below meth c D cA B q Q pc lv st M ck sk)
    {pc : Nat} {lv : List (Nat × Value)} {st : List Value} {M : Mm} {ck sk : Nat} {i : Instr} {n : Nat} (hdec0 : decode q.2.1 pc = .ok (i, n)) (hall : ∀ z ∈ q.2.2.2.2.2.2.flatten, decode q.2.1 z.1 = .ok z.2) (h : sti7 E q mc ms Post (VV p l e R s m args below meth c D cA B q Q) pc lv st M ck sk i n) : VV p l e R s m args below meth c D cA B q Q pc lv st M ck sk := by
  have hx := X.1.1
  have hb := X.1.2.1
  have hml := X.1.2.2.1
  have hown := X.1.2.2.2.1
  have hts := X.1.2.2.2.2
  unfold sti7 at h
  rcases h with ⟨rfl, rfl, h⟩ | ⟨rfl, rfl, h⟩ | ⟨rfl, rfl, h⟩ | ⟨rfl, rfl, h⟩
  · obtain ⟨x, rfl, h1, h2, h3, h4⟩ := h; exact hend.1 pc lv x M ck sk hdec0 h1 h2 h3 h4
  · obtain ⟨x, rfl, h1, h2, h3, h4⟩ := h; exact hend.2.1 pc lv x M ck sk hdec0 h1 h2 h3 h4
  · obtain ⟨x, rfl, h1, h2, h3, h4⟩ := h; exact hend.2.2.1 pc lv x M ck sk hdec0 h1 h2 h3 h4
  · obtain ⟨rfl, h1, h2, h3, h4⟩ := h; exact hend.2.2.2 pc lv M ck sk hdec0 h1 h2 h3 h4
theorem vv_step8 (X : Cx p l R s m args meth c D cA B d q mc ms) {Post : Po} (hX : KX p l e R s m args below meth c D cA B q mc ms Q Post) {E : E_T} (IH : ∀ k as M mc ms P, E k as M mc ms P → ∃ y, P_mq k = some y ∧ CT l D cA B d y as M mc ms P)
    (hend : (∀ pc lv x M ck sk, decode q.2.1 pc = .ok (.ireturn, 1) → (q.2.2.2.1 = some .int ∨ q.2.2.2.1 = some .boolean ∧ (x = 0 ∨ x = 1)) → ck ≤ mc → sk ≤ ms → Post (.inl (some (.int x))) M → VV p l e R s m args below meth c D cA B q Q pc lv [.int x] M ck sk)
      ∧ (∀ pc lv x M ck sk, decode q.2.1 pc = .ok (.lreturn, 1) → q.2.2.2.1 = some .long → ck ≤ mc → sk ≤ ms → Post (.inl (some (.long x))) M → VV p l e R s m args below meth c D cA B q Q pc lv [.long x] M ck sk)
      ∧ (∀ pc lv x M ck sk, decode q.2.1 pc = .ok (.areturn, 1) → ((∃ n, q.2.2.2.1 = some (.object n)) ∨ ∃ t, q.2.2.2.1 = some (.array t)) → ck ≤ mc → sk ≤ ms → Post (.inl (some (va_rf x))) M → VV p l e R s m args below meth c D cA B q Q pc lv [va_rf x] M ck sk)
      ∧ (∀ pc lv M ck sk, decode q.2.1 pc = .ok (.return_, 1) → q.2.2.2.1 = none → ck ≤ mc → sk ≤ ms → Post (.inl none) M → VV p l e R s m args below meth c D cA B q Q pc lv [] M ck sk))
    (hthr : ∀ (j ic ee pc : Nat) lv st M ck sk, decode q.2.1 pc = .ok (.new j, 3) → P_xx q.2.2.2.2.1 j = some (ic, ee) → q.2.2.2.2.2.1 = [] → decode q.2.1 (pc + 3) = .ok (.dup, 1) → decode q.2.1 (pc + 4) = .ok (.invokespecial ic, 3) → decode q.2.1 (pc + 7) = .ok (.athrow, 1) → (st.map fun v => v.category).sum ≤ 8 → ck + 1 ≤ mc → sk + 6 ≤ ms → Post (.inr ee) M → VV p l e R s m args below meth c D cA B q Q pc lv st M ck sk)
    {pc : Nat} {lv : List (Nat × Value)} {st : List Value} {M : Mm} {ck sk : Nat} {i : Instr} {n : Nat} (hdec0 : decode q.2.1 pc = .ok (i, n)) (hall : ∀ z ∈ q.2.2.2.2.2.2.flatten, decode q.2.1 z.1 = .ok z.2) (h : sti8 E q mc ms Post (VV p l e R s m args below meth c D cA B q Q) pc lv st M ck sk i n) : VV p l e R s m args below meth c D cA B q Q pc lv st M ck sk := by
  have hx := X.1.1
  have hb := X.1.2.1
  have hml := X.1.2.2.1
  have hown := X.1.2.2.2.1
  have hts := X.1.2.2.2.2
  unfold sti8 at h
  rcases h with ⟨rfl, rfl, ho, z, y, r, rfl, h0, h1, h2, h3, h4, h5, h6⟩ | ⟨j, rfl, rfl, k, b, r, hm, rfl, hc⟩
  · exact vv_mna X hdec0 ho h0 h1 h2 h3 h4 h5 h6
  · exact vv_callN X hX IH hdec0 hm hc
theorem vv_step (X : Cx p l R s m args meth c D cA B d q mc ms) {Post : Po} (hX : KX p l e R s m args below meth c D cA B q mc ms Q Post) {E : E_T} (IH : ∀ k as M mc ms P, E k as M mc ms P → ∃ y, P_mq k = some y ∧ CT l D cA B d y as M mc ms P)
    (hend : (∀ pc lv x M ck sk, decode q.2.1 pc = .ok (.ireturn, 1) → (q.2.2.2.1 = some .int ∨ q.2.2.2.1 = some .boolean ∧ (x = 0 ∨ x = 1)) → ck ≤ mc → sk ≤ ms → Post (.inl (some (.int x))) M → VV p l e R s m args below meth c D cA B q Q pc lv [.int x] M ck sk)
      ∧ (∀ pc lv x M ck sk, decode q.2.1 pc = .ok (.lreturn, 1) → q.2.2.2.1 = some .long → ck ≤ mc → sk ≤ ms → Post (.inl (some (.long x))) M → VV p l e R s m args below meth c D cA B q Q pc lv [.long x] M ck sk)
      ∧ (∀ pc lv x M ck sk, decode q.2.1 pc = .ok (.areturn, 1) → ((∃ n, q.2.2.2.1 = some (.object n)) ∨ ∃ t, q.2.2.2.1 = some (.array t)) → ck ≤ mc → sk ≤ ms → Post (.inl (some (va_rf x))) M → VV p l e R s m args below meth c D cA B q Q pc lv [va_rf x] M ck sk)
      ∧ (∀ pc lv M ck sk, decode q.2.1 pc = .ok (.return_, 1) → q.2.2.2.1 = none → ck ≤ mc → sk ≤ ms → Post (.inl none) M → VV p l e R s m args below meth c D cA B q Q pc lv [] M ck sk))
    (hthr : ∀ (j ic ee pc : Nat) lv st M ck sk, decode q.2.1 pc = .ok (.new j, 3) → P_xx q.2.2.2.2.1 j = some (ic, ee) → q.2.2.2.2.2.1 = [] → decode q.2.1 (pc + 3) = .ok (.dup, 1) → decode q.2.1 (pc + 4) = .ok (.invokespecial ic, 3) → decode q.2.1 (pc + 7) = .ok (.athrow, 1) → (st.map fun v => v.category).sum ≤ 8 → ck + 1 ≤ mc → sk + 6 ≤ ms → Post (.inr ee) M → VV p l e R s m args below meth c D cA B q Q pc lv st M ck sk) :
    ∀ pc lv st M ck sk, stp E q mc ms Post (VV p l e R s m args below meth c D cA B q Q) pc lv st M ck sk → VV p l e R s m args below meth c D cA B q Q pc lv st M ck sk := by
  intro pc lv st M ck sk ⟨i, n, hcd, h⟩
  have hall : ∀ z ∈ q.2.2.2.2.2.2.flatten, decode q.2.1 z.1 = .ok z.2 := X.2.2.2.2.2.2.2.2.2.2
  have hdec0 : decode q.2.1 pc = .ok (i, n) := hall (pc, (i, n)) (cdf_mem hcd)
  unfold sti at h
  rcases h with h | h | h | h | h | h | h | h | h
  · exact vv_step0 X hX IH hend hthr hdec0 hall h
  · exact vv_step1 X hX IH hend hthr hdec0 hall h
  · exact vv_step2 X hX IH hend hthr hdec0 hall h
  · exact vv_step3 X hX IH hend hthr hdec0 hall h
  · exact vv_step4 X hX IH hend hthr hdec0 hall h
  · exact vv_step5 X hX IH hend hthr hdec0 hall h
  · exact vv_step6 X hX IH hend hthr hdec0 hall h
  · exact vv_step7 X hX IH hend hthr hdec0 hall h
  · exact vv_step8 X hX IH hend hthr hdec0 hall h
end Main
end
-- 12.ex.lean.txt
section
/-! Ex is sound: the contract of every method on the machine -/
/-! a method by its name, the JDK's too (as vx_ofW, vx_ofWH of the pasted text, by 'plainFor') -/
theorem my_ofW {l : Launch} {y : MethodName} {ws ws' : List Cond} {rm : Room} {Pc : Array Value → State → Prop} {Qc : Array Value → State → Outcome → State → Prop} {XC : String → State → State → Prop} {mc ms : Nat} {free : Addr → Prop} {cc : ByteArray} {maxL : Nat} {ret : Option FieldType}
    (hy : plainFor y = true) (hw : ws = Cond.code y cc maxL ret :: ws')
    (body : ∀ p e s m args below meth c s₁, BodyLoose p l y (headSpec ws rm) cc maxL ret e s m args below meth c s₁ → c.maxLocals = maxL → (∀ x ∈ c.exceptionTable.toList, False) → Pc args s →
      W p l e (headSpec ws rm).room s m args below meth c s.heap [] 0 0 (vx_MQ below Qc XC args s mc ms free) (entryFrame m args maxL)) : vx_Met l y ws rm Pc Qc XC mc ms free := by
  refine MetFree.of_bodySF (code := cc) (maxLocals := maxL) (ret := ret) hy ?_ ?_
  · intro args s m h hn
    obtain ⟨meth, c, h1, h2, h3, h4, h5, h6, -, -⟩ := Cond.code_spec hn (atoms_spec (ws := ws) h _ (by rw [hw]; exact List.mem_cons_self))
    exact ⟨meth, c, h1, h2, h3, h4, h5, h6⟩
  · intro p e s m args below meth c s₁ B hml hP _
    have hh0 : s₁.heap = s.heap := by rw [B.state]; rfl
    have ht : ∀ x ∈ c.exceptionTable.toList, False := by
      obtain ⟨meth9, c9, h1, h2, -, -, -, -, h7, -⟩ := Cond.code_spec B.named (atoms_spec (ws := ws) B.pre _ (by rw [hw]; exact List.mem_cons_self))
      cases Option.some.inj (h1.symm.trans B.method)
      cases Option.some.inj (h2.symm.trans (Stand.of_body B).code)
      intro x hx
      rw [Array.isEmpty_iff.mp h7] at hx
      cases hx
    obtain ⟨t, a1, o, b1, b2, b3⟩ := body p e s m args below meth c s₁ B hml ht hP s₁ hh0 (Stand.of_body B)
    exact ⟨t, o, a1, b1, b2, b3⟩
theorem my_ofWH {l : Launch} {y : MethodName} {ws ws' : List Cond} {rm : Room} {Pc : Array Value → State → Prop} {Qc : Array Value → State → Outcome → State → Prop} {XC : String → State → State → Prop} {mc ms : Nat} {free : Addr → Prop} {cc : ByteArray} {maxL : Nat} {ret : Option FieldType} {hh : List (Nat × Nat × Nat × Nat)}
    (hy : plainFor y = true) (hw : ws = Cond.codeWith y cc maxL ret hh :: ws')
    (body : ∀ p e s m args below meth c s₁, BodyLoose p l y (headSpec ws rm) cc maxL ret e s m args below meth c s₁ → c.maxLocals = maxL → Pc args s →
      W p l e (headSpec ws rm).room s m args below meth c s.heap [] 0 0 (vx_MQ below Qc XC args s mc ms free) (entryFrame m args maxL)) : vx_Met l y ws rm Pc Qc XC mc ms free := by
  refine MetFree.of_bodySF (code := cc) (maxLocals := maxL) (ret := ret) hy ?_ ?_
  · intro args s m h hn
    obtain ⟨m9, meth, c, hn9, h1, h2, h3, h4, -, h5, h6, -⟩ := Cond.codeWith_spec (atoms_spec (ws := ws) h _ (by rw [hw]; exact List.mem_cons_self))
    cases hn.symm.trans hn9
    exact ⟨meth, c, h1, h2, h3, h4, h5, h6⟩
  · intro p e s m args below meth c s₁ B hml hP _
    have hh0 : s₁.heap = s.heap := by rw [B.state]; rfl
    obtain ⟨t, a1, o, b1, b2, b3⟩ := body p e s m args below meth c s₁ B hml hP s₁ hh0 (Stand.of_body B)
    exact ⟨t, o, a1, b1, b2, b3⟩
theorem Rp.grow {D : va_G} {cA : Nat → ClassId} {B : Nat} {M : Mm} {H H' : Heap} (h : Rp D cA B M H) (hz : H.size ≤ H'.size) (ho : ∀ b, b < H.size → H'[b]? = H[b]?) : Rp D cA B M H' := by
  refine ⟨Nat.le_trans h.1 hz, fun b hb => ?_⟩
  obtain ⟨h1, h2, h3⟩ := h.2 b hb
  refine ⟨h1, Nat.lt_of_lt_of_le h2 hz, ?_⟩
  rcases h3 with ⟨ci, r, e1, e2, e3, e4⟩ | ⟨t, e1, e2, e3⟩
  · exact Or.inl ⟨ci, r, e1, e2, e3, e4.kept (ho b h2)⟩
  · exact Or.inr ⟨t, e1, e2, by rw [ho b h2]; exact e3⟩
set_option maxRecDepth 100000 in
theorem hh_ok : ∀ e ∈ P_ml, ∀ h ∈ e.2.2.2.2.2.1, (P_xc e.2.2.2.2.1 h.2.2.2).isSome = true := by
  have h0 : P_ml.all (fun e => e.2.2.2.2.2.1.all (fun h => (P_xc e.2.2.2.2.1 h.2.2.2).isSome)) = true := by decide +kernel
  intro e he h hh
  exact List.all_eq_true.mp (List.all_eq_true.mp h0 e he) h hh
set_option maxHeartbeats 2000000 in
theorem Ex_sound (l : Launch) (hl : l.stackTraces = false) (D : va_G) (cA : Nat → ClassId) (B : Nat) : ∀ (d k : Nat) (as : List Value) (M : Mm) (mc ms : Nat) (Post : Po), Ex d k as M mc ms Post → ∃ y, P_mq k = some y ∧ CT l D cA B d y as M mc ms Post
  | 0, _, _, _, _, _, _, h => h.elim
  | d + 1, k, as, M, mc, ms, Post, h => by
    obtain ⟨q, hq, hlen, hV⟩ := h
    refine ⟨q, hq, ?_⟩
    have hok := okP_ml q (P_mq_in hq)
    have hplain : plainFor q.1 = true := hok.2.2.1
    have body : ∀ p e s m args below meth c s₁, BodyLoose p l q.1 (headSpec (wsK q) (rmD (d + 1) mc ms)) q.2.1 q.2.2.1 q.2.2.2.1 e s m args below meth c s₁ → c.maxLocals = q.2.2.1 → PP D cA B as M args s →
        (q.2.2.2.2.2.1 = [] → ∀ x ∈ c.exceptionTable.toList, False) →
        W p l e (headSpec (wsK q) (rmD (d + 1) mc ms)).room s m args below meth c s.heap [] 0 0 (vx_MQ below (QQ D cA B Post) (XX D cA B Post) args s mc ms (fun a => B ≤ a)) (entryFrame m args q.2.2.1) := by
      intro p e s m args below meth c s₁ Bd hml hv hno
      obtain ⟨rfl, hB, hP, hK⟩ := hv
      have hts : ∀ w ∈ wsL_law, w.before as.toArray s = true := fun w hw => atoms_spec (ws := wsK q) Bd.pre w (List.mem_cons_of_mem _ hw)
      have hown : s.vm.findClass (P_ow q.2.2.2.2.1) = some m.cls := by rw [← hok.2.2.2.2.1]; exact findClass_of_methodNamed Bd.named
      have hlocks := Bd.notSynchronized
      have hCx : Cx p l (headSpec (wsK q) (rmD (d + 1) mc ms)).room s m as.toArray meth c D cA B d q mc ms := ⟨⟨Bd.exec, Bd.bytes, hml, hown, hts⟩, hK, hB, hl, hlocks, by show d + 13 ≤ d + 1 + 12; omega, by show 60 * d + 260 ≤ 60 * (d + 1) + 200; omega, rfl, rfl, fun hi => (name_of_methodNamed Bd.named Bd.method).1.trans hi, hok.1⟩
      have hl9 := lv_entry as (n := q.2.2.1) hlen
      rw [lg_entry_eq]
      generalize (lg_sl as ++ List.replicate (q.2.2.1 - (lg_sl as).length) Slot.unset).toArray = ls at hl9 ⊢
      refine hV (VV p l e (headSpec (wsK q) (rmD (d + 1) mc ms)).room s m as.toArray below meth c D cA B q (vx_MQ below (QQ D cA B Post) (XX D cA B Post) as.toArray s mc ms (fun a => B ≤ a))) (vv_step hCx ?_ (Ex_sound l hl D cA B d) ?_ ?_) (fun pc lv lw st M9 ck sk hs h H9 locs9 ls9 hP9 hS9 hl0 => h H9 locs9 ls9 hP9 hS9 ⟨hl0.1, hl0.2.1, fun z hz => hl0.2.2 z (hs z hz)⟩) s.heap [] ls hP va_S.rf hl9
      · -- thrown by a callee
        intro ee M' H locs ls lv pc ck sk rest q9 ce he5 hh h1 h2 hR hS hl0 g1 g2 g3
        rcases hh with ⟨hnil, hp⟩ | ⟨h9, hh9, hVV⟩
        · refine vx_widen h1 h2 (vx_out (fun x hx => (hno hnil x hx).elim) hlocks g1 g2 g3 (fun t ht ha => ⟨⟨ee, M', rfl, he5, hp, by rw [ht]; exact hR⟩, hS.F ht⟩) hS.2.2 (Nat.le_refl _) (Nat.le_refl _))
        · obtain ⟨pre, suf, x, e1, e2, e3, e4, e5, e6⟩ := hnd_ok hh9
          have htab : c.exceptionTable.toList = tableOf (pre ++ x :: suf) := by
            have hw0 : cdW q ∈ wsK q := List.mem_cons_self
            have hw1 := atoms_spec (ws := wsK q) Bd.pre _ hw0
            unfold cdW at hw1
            rw [e1] at hw1
            refine vx_table (x := q.1) Bd ?_ (y := q.1) (bytes := q.2.1) (maxL' := q.2.2.1) (ret' := q.2.2.2.1)
            cases pre with
            | nil => exact hw1
            | cons a9 b9 => exact hw1
          have hsp : c.exceptionTable.toList = tableOf pre ++ (⟨x.1, x.2.1, x.2.2.1, x.2.2.2⟩ : ExceptionTableEntry) :: tableOf suf := by
            rw [htab]; unfold tableOf; rw [List.map_append]; rfl
          obtain ⟨w1, -, w3⟩ := P_xc_ok e4
          have hv9 := hVV q9 H locs ls hR hS (hl0)
          subst e5
          refine vx_widen (Nat.le_refl _) (Nat.le_refl _) (vx_catch (own := P_ow q.2.2.2.2.1) (name := P_ex ee) (E := P_ex ee) hown (tableOf pre) _ (tableOf suf) hsp ?_ ?_ w3 (hts _ w1) ?_ g1 g2 g3 hv9)
          · intro z hz
            obtain ⟨zz, hzz, rfl⟩ := List.mem_map.mp hz
            by_cases hc1 : zz.1 ≤ pc ∧ pc < zz.2.1
            · obtain ⟨e9, he9⟩ : ∃ e9, P_xc q.2.2.2.2.1 zz.2.2.2 = some e9 := Option.isSome_iff_exists.mp (hh_ok q (P_mq_in hq) zz (by rw [e1]; exact List.mem_append_left _ hzz))
              obtain ⟨v1, v2, v3⟩ := P_xc_ok he9
              have hne : ee ≠ e9 := fun h => e6 zz hzz hc1.1 hc1.2 (by rw [h]; exact he9)
              exact Or.inr ⟨v3, P_ex e9, hts _ v1, hK.2.2.2.2.1 ee e9 he5 v2 hne⟩
            · exact Or.inl (by simp only [covers]; by_cases q1 : zz.1 ≤ pc <;> by_cases q2 : pc < zz.2.1 <;> simp_all)
          · simp only [covers]; simp [e2, e3]
          · have h9 := hK.2.2.2.1 ee he5 (Cond.castable (P_ex ee) (P_ex ee)) (by simp [P_ng])
            exact va_tabs rfl rfl h9
      · -- the ends
        refine ⟨?_, ?_, ?_, ?_⟩
        · intro pc lv x M' ck sk hd hret h1 h2 hp H locs ls hP hS hl0
          refine W.widen h1 h2 (vx_ret ?_)
          rcases hret with hr | ⟨hr, h01⟩
          · exact W.iret Bd.exec Bd.bytes (Bd.returns.trans hr) (fun t ht hW => ⟨⟨_, M', rfl, hp, by rw [ht]; exact hP⟩, hS.F ht⟩) hS.2.2 hd
          · exact W.zret Bd.exec Bd.bytes (Bd.returns.trans hr) (by rcases h01 with rfl | rfl <;> rfl) (fun t ht hW => ⟨⟨_, M', rfl, hp, by rw [ht]; exact hP⟩, hS.F ht⟩) hS.2.2 hd
        · intro pc lv x M' ck sk hd hr h1 h2 hp H locs ls hP hS hl0
          refine W.widen h1 h2 (vx_ret ?_)
          exact W.lret Bd.exec Bd.bytes (Bd.returns.trans hr) (fun t ht hW => ⟨⟨_, M', rfl, hp, by rw [ht]; exact hP⟩, hS.F ht⟩) hS.2.2 hd
        · intro pc lv x M' ck sk hd hr h1 h2 hp H locs ls hP hS hl0
          refine W.widen h1 h2 (vx_ret ?_)
          obtain ⟨rt, hr1, hr2⟩ : ∃ rt, q.2.2.2.1 = some rt ∧ ((∃ n, rt = .object n) ∨ ∃ t, rt = .array t) := by
            rcases hr with ⟨n, hn⟩ | ⟨t, ht⟩
            · exact ⟨_, hn, Or.inl ⟨n, rfl⟩⟩
            · exact ⟨_, ht, Or.inr ⟨t, rfl⟩⟩
          exact W.aret Bd.exec Bd.bytes (Bd.returns.trans hr1) hr2 (by cases x <;> simp [va_rf]) (fun t ht hW => ⟨⟨_, M', rfl, hp, by rw [ht]; exact hP⟩, hS.F ht⟩) hS.2.2 hd
        · intro pc lv M' ck sk hd hr h1 h2 hp H locs ls hP hS hl0
          refine W.widen h1 h2 (vx_ret ?_)
          exact W.vret Bd.exec Bd.bytes (Bd.returns.trans hr) (fun t ht hW => ⟨⟨_, M', rfl, hp, by rw [ht]; exact hP⟩, hS.F ht⟩) hS.2.2 hd
      · -- throw new
        intro j ic ee pc lv st M' ck sk hd hx9 hn0 d3 d4 d7 hcat h1 h2 hp H locs ls hP hS hl0
        obtain ⟨w1, w2, w3, w4, w5, w55, w6, w7⟩ := P_xx_ok hx9
        refine vx_throw0 (own := P_ow q.2.2.2.2.1) (cls := P_ex ee) (names := P_sup) (A := fun a => B ≤ a) Bd.exec Bd.bytes hl hown w3 w7 (hts _ w1) (hts _ w2) (vx_hat (fun w hw => hts _ (w4 w hw)) w5 (fun w hw => ?_)) w6 hK.2.1 hK.2.2.1 hS (hl0.1.trans hml.symm) hd d3 d4 d7 ?_ ?_ ?_ h1 h2 hlocks ?_ hS.2.2 h1 h2
        · have h9 := hK.2.2.2.1 ee w55 w hw
          simp only [P_ng, List.mem_cons, List.not_mem_nil, or_false] at hw
          rcases hw with rfl | rfl | rfl | rfl
          · exact va_tabs rfl rfl h9
          · exact va_tabs rfl rfl h9
          · exact va_tabs rfl rfl h9
          · exact va_tabs rfl rfl h9
        · exact fun x hx => (hno hn0 x hx).elim
        · show 2 + 3 < d + 1 + 12; omega
        · show (st.map fun v => v.category).sum + (13 * (2 + 1) + 42) ≤ 60 * (d + 1) + 200; omega
        · intro t ha hz ho
          exact ⟨⟨ee, M', rfl, w55, hp, hP.grow hz ho⟩, Nat.le_trans hS.1 hz, fun a h8 h9 => (ho a (Nat.lt_of_lt_of_le h8 hS.1)).trans (hS.2.1 a h8 h9)⟩
    unfold CT
    cases hnil : q.2.2.2.2.2.1 with
    | nil =>
      refine my_ofW (cc := q.2.1) (maxL := q.2.2.1) (ret := q.2.2.2.1) hplain (by unfold wsK cdW; rw [hnil]) ?_
      intro p e s m args below meth c s₁ Bd hml hno hv
      exact body p e s m args below meth c s₁ Bd hml hv (fun _ => hno)
    | cons x9 t9 =>
      refine my_ofWH (cc := q.2.1) (maxL := q.2.2.1) (ret := q.2.2.2.1) (hh := x9 :: t9) hplain (by unfold wsK cdW; rw [hnil]) ?_
      intro p e s m args below meth c s₁ Bd hml hv
      exact body p e s m args below meth c s₁ Bd hml hv (fun h => by rw [hnil] at h; cases h)
end
-- 13.rules.lean.txt
section
/-! the rules by which a method is walked: one a kind of instruction -/
abbrev Cl (d : Nat) (q : mm_T) (mc ms : Nat) (Post : Po) (V : V_T) : Prop := ∀ pc lv st M ck sk, stp (Ex d) q mc ms Post V pc lv st M ck sk → V pc lv st M ck sk
section Rules
variable {d : Nat} {q : mm_T} {mc ms : Nat} {Post : Po} {V : V_T} {pc pc2 : Nat} {lv : List (Nat × Value)} {r : List Value} {M : Mm} {ck sk : Nat}
theorem k_iload (C : Cl d q mc ms Post V) {j : Nat} {x : Int32} (hi : cdf q.2.2.2.2.2.2 pc = some (.iload j, 2)) (hp : pc + 2 = pc2) (hl : lk lv j = some (.int x)) (h : V pc2 lv (.int x :: r) M ck sk) : V pc lv r M ck sk := by
  subst hp; exact C _ _ _ _ _ _ ⟨_, _, hi, Or.inl (Or.inr (Or.inr (Or.inl (⟨_, rfl, rfl, _, hl, _, rfl, h⟩))))⟩
theorem k_iload_n (C : Cl d q mc ms Post V) {j : Fin 4} {x : Int32} (hi : cdf q.2.2.2.2.2.2 pc = some (.iload_n j, 1)) (hp : pc + 1 = pc2) (hl : lk lv j.val = some (.int x)) (h : V pc2 lv (.int x :: r) M ck sk) : V pc lv r M ck sk := by
  subst hp; exact C _ _ _ _ _ _ ⟨_, _, hi, Or.inl (Or.inr (Or.inr (Or.inr (Or.inl (⟨_, rfl, rfl, _, hl, _, rfl, h⟩)))))⟩
theorem k_lload (C : Cl d q mc ms Post V) {j : Nat} {x : Int64} (hi : cdf q.2.2.2.2.2.2 pc = some (.lload j, 2)) (hp : pc + 2 = pc2) (hl : lk lv j = some (.long x)) (h : V pc2 lv (.long x :: r) M ck sk) : V pc lv r M ck sk := by
  subst hp; exact C _ _ _ _ _ _ ⟨_, _, hi, Or.inl (Or.inr (Or.inr (Or.inr (Or.inr (Or.inl (⟨_, rfl, rfl, _, hl, _, rfl, h⟩))))))⟩
theorem k_lload_n (C : Cl d q mc ms Post V) {j : Fin 4} {x : Int64} (hi : cdf q.2.2.2.2.2.2 pc = some (.lload_n j, 1)) (hp : pc + 1 = pc2) (hl : lk lv j.val = some (.long x)) (h : V pc2 lv (.long x :: r) M ck sk) : V pc lv r M ck sk := by
  subst hp; exact C _ _ _ _ _ _ ⟨_, _, hi, Or.inl (Or.inr (Or.inr (Or.inr (Or.inr (Or.inr (Or.inl (⟨_, rfl, rfl, _, hl, _, rfl, h⟩)))))))⟩
theorem k_aload (C : Cl d q mc ms Post V) {j : Nat} {a : Nat} (hi : cdf q.2.2.2.2.2.2 pc = some (.aload j, 2)) (hp : pc + 2 = pc2) (hl : lk lv j = some (.ref a)) (h : V pc2 lv (.ref a :: r) M ck sk) : V pc lv r M ck sk := by
  subst hp; exact C _ _ _ _ _ _ ⟨_, _, hi, Or.inl (Or.inl (⟨_, rfl, rfl, _, hl, some a, rfl, h⟩))⟩
theorem k_aloadV (C : Cl d q mc ms Post V) {j : Nat} {x : Option Nat} (hi : cdf q.2.2.2.2.2.2 pc = some (.aload j, 2)) (hp : pc + 2 = pc2) (hl : lk lv j = some (va_rf x)) (h : V pc2 lv (va_rf x :: r) M ck sk) : V pc lv r M ck sk := by
  subst hp; exact C _ _ _ _ _ _ ⟨_, _, hi, Or.inl (Or.inl (⟨_, rfl, rfl, _, hl, x, rfl, h⟩))⟩
theorem k_aload_n (C : Cl d q mc ms Post V) {j : Fin 4} {a : Nat} (hi : cdf q.2.2.2.2.2.2 pc = some (.aload_n j, 1)) (hp : pc + 1 = pc2) (hl : lk lv j.val = some (.ref a)) (h : V pc2 lv (.ref a :: r) M ck sk) : V pc lv r M ck sk := by
  subst hp; exact C _ _ _ _ _ _ ⟨_, _, hi, Or.inl (Or.inr (Or.inl (⟨_, rfl, rfl, _, hl, some a, rfl, h⟩)))⟩
theorem k_aload_nV (C : Cl d q mc ms Post V) {j : Fin 4} {x : Option Nat} (hi : cdf q.2.2.2.2.2.2 pc = some (.aload_n j, 1)) (hp : pc + 1 = pc2) (hl : lk lv j.val = some (va_rf x)) (h : V pc2 lv (va_rf x :: r) M ck sk) : V pc lv r M ck sk := by
  subst hp; exact C _ _ _ _ _ _ ⟨_, _, hi, Or.inl (Or.inr (Or.inl (⟨_, rfl, rfl, _, hl, x, rfl, h⟩)))⟩
theorem k_iconst (C : Cl d q mc ms Post V) {z : Int} {x : Int32} (hi : cdf q.2.2.2.2.2.2 pc = some (.iconst z, 1)) (hp : pc + 1 = pc2) (hv : Int32.ofInt z = x) (h : V pc2 lv (.int x :: r) M ck sk) : V pc lv r M ck sk := by
  subst hp; exact C _ _ _ _ _ _ ⟨_, _, hi, Or.inl (Or.inr (Or.inr (Or.inr (Or.inr (Or.inr (Or.inr (Or.inl (⟨_, rfl, rfl, by subst hv; exact h⟩))))))))⟩
theorem k_bipush (C : Cl d q mc ms Post V) {z : Int} {x : Int32} (hi : cdf q.2.2.2.2.2.2 pc = some (.bipush z, 2)) (hp : pc + 2 = pc2) (hv : (Int8.ofInt z).toInt32 = x) (h : V pc2 lv (.int x :: r) M ck sk) : V pc lv r M ck sk := by
  subst hp; exact C _ _ _ _ _ _ ⟨_, _, hi, Or.inl (Or.inr (Or.inr (Or.inr (Or.inr (Or.inr (Or.inr (Or.inr (Or.inl (⟨_, rfl, rfl, by subst hv; exact h⟩)))))))))⟩
theorem k_sipush (C : Cl d q mc ms Post V) {z : Int} {x : Int32} (hi : cdf q.2.2.2.2.2.2 pc = some (.sipush z, 3)) (hp : pc + 3 = pc2) (hv : (Int16.ofInt z).toInt32 = x) (h : V pc2 lv (.int x :: r) M ck sk) : V pc lv r M ck sk := by
  subst hp; exact C _ _ _ _ _ _ ⟨_, _, hi, Or.inl (Or.inr (Or.inr (Or.inr (Or.inr (Or.inr (Or.inr (Or.inr (Or.inr (Or.inl (⟨_, rfl, rfl, by subst hv; exact h⟩))))))))))⟩
theorem k_lconst (C : Cl d q mc ms Post V) {z : Fin 2} {x : Int64} (hi : cdf q.2.2.2.2.2.2 pc = some (.lconst z, 1)) (hp : pc + 1 = pc2) (hv : Int64.ofNat (z : Nat) = x) (h : V pc2 lv (.long x :: r) M ck sk) : V pc lv r M ck sk := by
  subst hp; exact C _ _ _ _ _ _ ⟨_, _, hi, Or.inl (Or.inr (Or.inr (Or.inr (Or.inr (Or.inr (Or.inr (Or.inr (Or.inr (Or.inr (⟨_, rfl, rfl, by subst hv; exact h⟩))))))))))⟩
theorem k_null (C : Cl d q mc ms Post V)  (hi : cdf q.2.2.2.2.2.2 pc = some (.aconst_null, 1)) (hp : pc + 1 = pc2) (h : V pc2 lv (.null :: r) M ck sk) : V pc lv r M ck sk := by
  subst hp; exact C _ _ _ _ _ _ ⟨_, _, hi, Or.inr (Or.inl (Or.inl (⟨rfl, rfl, h⟩)))⟩
theorem k_ldc (C : Cl d q mc ms Post V) {j : Nat} {x : Int32} (hi : cdf q.2.2.2.2.2.2 pc = some (.ldc j, 2)) (hp : pc + 2 = pc2) (hv : P_kc q.2.2.2.2.1 j = some x) (h : V pc2 lv (.int x :: r) M ck sk) : V pc lv r M ck sk := by
  subst hp; exact C _ _ _ _ _ _ ⟨_, _, hi, Or.inr (Or.inl (Or.inr (Or.inl (⟨_, rfl, rfl, _, hv, h⟩))))⟩
theorem k_ldc_w (C : Cl d q mc ms Post V) {j : Nat} {x : Int32} (hi : cdf q.2.2.2.2.2.2 pc = some (.ldc_w j, 3)) (hp : pc + 3 = pc2) (hv : P_kc q.2.2.2.2.1 j = some x) (h : V pc2 lv (.int x :: r) M ck sk) : V pc lv r M ck sk := by
  subst hp; exact C _ _ _ _ _ _ ⟨_, _, hi, Or.inr (Or.inl (Or.inr (Or.inr (Or.inl (⟨_, rfl, rfl, _, hv, h⟩)))))⟩
theorem k_ldc2_w (C : Cl d q mc ms Post V) {j : Nat} {x : Int64} (hi : cdf q.2.2.2.2.2.2 pc = some (.ldc2_w j, 3)) (hp : pc + 3 = pc2) (hv : P_kl q.2.2.2.2.1 j = some x) (h : V pc2 lv (.long x :: r) M ck sk) : V pc lv r M ck sk := by
  subst hp; exact C _ _ _ _ _ _ ⟨_, _, hi, Or.inr (Or.inl (Or.inr (Or.inr (Or.inr (Or.inl (⟨_, rfl, rfl, _, hv, h⟩))))))⟩
theorem k_istore (C : Cl d q mc ms Post V) {j : Nat} {x : Int32} {lw : List (Nat × Value)} (hi : cdf q.2.2.2.2.2.2 pc = some (.istore j, 2)) (hp : pc + 2 = pc2) (hj : j < q.2.2.1) (hw : s1 lv j (.int x) = lw) (h : V pc2 lw r M ck sk) : V pc lv (.int x :: r) M ck sk := by
  subst hp; exact C _ _ _ _ _ _ ⟨_, _, hi, Or.inr (Or.inl (Or.inr (Or.inr (Or.inr (Or.inr (Or.inl (⟨_, rfl, rfl, _, _, rfl, hj, by subst hw; exact h⟩)))))))⟩
theorem k_istore_n (C : Cl d q mc ms Post V) {j : Fin 4} {x : Int32} {lw : List (Nat × Value)} (hi : cdf q.2.2.2.2.2.2 pc = some (.istore_n j, 1)) (hp : pc + 1 = pc2) (hj : j.val < q.2.2.1) (hw : s1 lv j.val (.int x) = lw) (h : V pc2 lw r M ck sk) : V pc lv (.int x :: r) M ck sk := by
  subst hp; exact C _ _ _ _ _ _ ⟨_, _, hi, Or.inr (Or.inl (Or.inr (Or.inr (Or.inr (Or.inr (Or.inr (Or.inl (⟨_, rfl, rfl, _, _, rfl, hj, by subst hw; exact h⟩))))))))⟩
theorem k_lstore (C : Cl d q mc ms Post V) {j : Nat} {x : Int64} {lw : List (Nat × Value)} (hi : cdf q.2.2.2.2.2.2 pc = some (.lstore j, 2)) (hp : pc + 2 = pc2) (hj : j + 1 < q.2.2.1) (hw : s2 lv j (.long x) = lw) (h : V pc2 lw r M ck sk) : V pc lv (.long x :: r) M ck sk := by
  subst hp; exact C _ _ _ _ _ _ ⟨_, _, hi, Or.inr (Or.inl (Or.inr (Or.inr (Or.inr (Or.inr (Or.inr (Or.inr (Or.inr (Or.inr (Or.inl (⟨_, rfl, rfl, _, _, rfl, hj, by subst hw; exact h⟩)))))))))))⟩
theorem k_lstore_n (C : Cl d q mc ms Post V) {j : Fin 4} {x : Int64} {lw : List (Nat × Value)} (hi : cdf q.2.2.2.2.2.2 pc = some (.lstore_n j, 1)) (hp : pc + 1 = pc2) (hj : j.val + 1 < q.2.2.1) (hw : s2 lv j.val (.long x) = lw) (h : V pc2 lw r M ck sk) : V pc lv (.long x :: r) M ck sk := by
  subst hp; exact C _ _ _ _ _ _ ⟨_, _, hi, Or.inr (Or.inl (Or.inr (Or.inr (Or.inr (Or.inr (Or.inr (Or.inr (Or.inr (Or.inr (Or.inr (⟨_, rfl, rfl, _, _, rfl, hj, by subst hw; exact h⟩)))))))))))⟩
theorem k_astore (C : Cl d q mc ms Post V) {j : Nat} {a : Nat} {lw : List (Nat × Value)} (hi : cdf q.2.2.2.2.2.2 pc = some (.astore j, 2)) (hp : pc + 2 = pc2) (hj : j < q.2.2.1) (hw : s1 lv j (.ref a) = lw) (h : V pc2 lw r M ck sk) : V pc lv (.ref a :: r) M ck sk := by
  subst hp; exact C _ _ _ _ _ _ ⟨_, _, hi, Or.inr (Or.inl (Or.inr (Or.inr (Or.inr (Or.inr (Or.inr (Or.inr (Or.inl (⟨_, rfl, rfl, some a, _, rfl, hj, by subst hw; exact h⟩)))))))))⟩
theorem k_astoreV (C : Cl d q mc ms Post V) {j : Nat} {x : Option Nat} {lw : List (Nat × Value)} (hi : cdf q.2.2.2.2.2.2 pc = some (.astore j, 2)) (hp : pc + 2 = pc2) (hj : j < q.2.2.1) (hw : s1 lv j (va_rf x) = lw) (h : V pc2 lw r M ck sk) : V pc lv (va_rf x :: r) M ck sk := by
  subst hp; exact C _ _ _ _ _ _ ⟨_, _, hi, Or.inr (Or.inl (Or.inr (Or.inr (Or.inr (Or.inr (Or.inr (Or.inr (Or.inl (⟨_, rfl, rfl, x, _, rfl, hj, by subst hw; exact h⟩)))))))))⟩
theorem k_astore_n (C : Cl d q mc ms Post V) {j : Fin 4} {a : Nat} {lw : List (Nat × Value)} (hi : cdf q.2.2.2.2.2.2 pc = some (.astore_n j, 1)) (hp : pc + 1 = pc2) (hj : j.val < q.2.2.1) (hw : s1 lv j.val (.ref a) = lw) (h : V pc2 lw r M ck sk) : V pc lv (.ref a :: r) M ck sk := by
  subst hp; exact C _ _ _ _ _ _ ⟨_, _, hi, Or.inr (Or.inl (Or.inr (Or.inr (Or.inr (Or.inr (Or.inr (Or.inr (Or.inr (Or.inl (⟨_, rfl, rfl, some a, _, rfl, hj, by subst hw; exact h⟩))))))))))⟩
theorem k_astore_nV (C : Cl d q mc ms Post V) {j : Fin 4} {x : Option Nat} {lw : List (Nat × Value)} (hi : cdf q.2.2.2.2.2.2 pc = some (.astore_n j, 1)) (hp : pc + 1 = pc2) (hj : j.val < q.2.2.1) (hw : s1 lv j.val (va_rf x) = lw) (h : V pc2 lw r M ck sk) : V pc lv (va_rf x :: r) M ck sk := by
  subst hp; exact C _ _ _ _ _ _ ⟨_, _, hi, Or.inr (Or.inl (Or.inr (Or.inr (Or.inr (Or.inr (Or.inr (Or.inr (Or.inr (Or.inl (⟨_, rfl, rfl, x, _, rfl, hj, by subst hw; exact h⟩))))))))))⟩
theorem k_iinc (C : Cl d q mc ms Post V) {j : Nat} {z : Int} {x y : Int32} {lw : List (Nat × Value)} (hi : cdf q.2.2.2.2.2.2 pc = some (.iinc j z, 3)) (hp : pc + 3 = pc2) (hl : lk lv j = some (.int x)) (hj : j < q.2.2.1) (hy : x + Int32.ofInt z = y) (hw : s1 lv j (.int y) = lw) (h : V pc2 lw r M ck sk) : V pc lv r M ck sk := by
  subst hp; exact C _ _ _ _ _ _ ⟨_, _, hi, Or.inr (Or.inr (Or.inl (Or.inl (⟨_, _, rfl, rfl, _, hl, _, rfl, hj, by subst hy; subst hw; exact h⟩))))⟩
theorem k_iadd (C : Cl d q mc ms Post V) {x y : Int32} (hi : cdf q.2.2.2.2.2.2 pc = some (.iadd, 1)) (hp : pc + 1 = pc2) (h : V pc2 lv (.int (x + y) :: r) M ck sk) : V pc lv (.int y :: .int x :: r) M ck sk := by
  subst hp; exact C _ _ _ _ _ _ ⟨_, _, hi, Or.inr (Or.inr (Or.inl (Or.inr (Or.inl (⟨rfl, rfl, _, _, _, rfl, h⟩)))))⟩
theorem k_isub (C : Cl d q mc ms Post V) {x y : Int32} (hi : cdf q.2.2.2.2.2.2 pc = some (.isub, 1)) (hp : pc + 1 = pc2) (h : V pc2 lv (.int (x - y) :: r) M ck sk) : V pc lv (.int y :: .int x :: r) M ck sk := by
  subst hp; exact C _ _ _ _ _ _ ⟨_, _, hi, Or.inr (Or.inr (Or.inl (Or.inr (Or.inr (Or.inl (⟨rfl, rfl, _, _, _, rfl, h⟩))))))⟩
theorem k_imul (C : Cl d q mc ms Post V) {x y : Int32} (hi : cdf q.2.2.2.2.2.2 pc = some (.imul, 1)) (hp : pc + 1 = pc2) (h : V pc2 lv (.int (x * y) :: r) M ck sk) : V pc lv (.int y :: .int x :: r) M ck sk := by
  subst hp; exact C _ _ _ _ _ _ ⟨_, _, hi, Or.inr (Or.inr (Or.inl (Or.inr (Or.inr (Or.inr (Or.inl (⟨rfl, rfl, _, _, _, rfl, h⟩)))))))⟩
theorem k_iand (C : Cl d q mc ms Post V) {x y : Int32} (hi : cdf q.2.2.2.2.2.2 pc = some (.iand, 1)) (hp : pc + 1 = pc2) (h : V pc2 lv (.int (x &&& y) :: r) M ck sk) : V pc lv (.int y :: .int x :: r) M ck sk := by
  subst hp; exact C _ _ _ _ _ _ ⟨_, _, hi, Or.inr (Or.inr (Or.inl (Or.inr (Or.inr (Or.inr (Or.inr (Or.inr (Or.inr (Or.inr (Or.inl (⟨rfl, rfl, _, _, _, rfl, h⟩)))))))))))⟩
theorem k_ior (C : Cl d q mc ms Post V) {x y : Int32} (hi : cdf q.2.2.2.2.2.2 pc = some (.ior, 1)) (hp : pc + 1 = pc2) (h : V pc2 lv (.int (x ||| y) :: r) M ck sk) : V pc lv (.int y :: .int x :: r) M ck sk := by
  subst hp; exact C _ _ _ _ _ _ ⟨_, _, hi, Or.inr (Or.inr (Or.inl (Or.inr (Or.inr (Or.inr (Or.inr (Or.inr (Or.inr (Or.inr (Or.inr (Or.inl (⟨rfl, rfl, _, _, _, rfl, h⟩))))))))))))⟩
theorem k_ixor (C : Cl d q mc ms Post V) {x y : Int32} (hi : cdf q.2.2.2.2.2.2 pc = some (.ixor, 1)) (hp : pc + 1 = pc2) (h : V pc2 lv (.int (x ^^^ y) :: r) M ck sk) : V pc lv (.int y :: .int x :: r) M ck sk := by
  subst hp; exact C _ _ _ _ _ _ ⟨_, _, hi, Or.inr (Or.inr (Or.inl (Or.inr (Or.inr (Or.inr (Or.inr (Or.inr (Or.inr (Or.inr (Or.inr (Or.inr (⟨rfl, rfl, _, _, _, rfl, h⟩))))))))))))⟩
theorem k_ishl (C : Cl d q mc ms Post V) {x y : Int32} (hi : cdf q.2.2.2.2.2.2 pc = some (.ishl, 1)) (hp : pc + 1 = pc2) (h : V pc2 lv (.int (x <<< (y &&& 31)) :: r) M ck sk) : V pc lv (.int y :: .int x :: r) M ck sk := by
  subst hp; exact C _ _ _ _ _ _ ⟨_, _, hi, Or.inr (Or.inr (Or.inr (Or.inl (Or.inl (⟨rfl, rfl, _, _, _, rfl, h⟩)))))⟩
theorem k_ishr (C : Cl d q mc ms Post V) {x y : Int32} (hi : cdf q.2.2.2.2.2.2 pc = some (.ishr, 1)) (hp : pc + 1 = pc2) (h : V pc2 lv (.int (x >>> (y &&& 31)) :: r) M ck sk) : V pc lv (.int y :: .int x :: r) M ck sk := by
  subst hp; exact C _ _ _ _ _ _ ⟨_, _, hi, Or.inr (Or.inr (Or.inr (Or.inl (Or.inr (Or.inl (⟨rfl, rfl, _, _, _, rfl, h⟩))))))⟩
theorem k_iushr (C : Cl d q mc ms Post V) {x y : Int32} (hi : cdf q.2.2.2.2.2.2 pc = some (.iushr, 1)) (hp : pc + 1 = pc2) (h : V pc2 lv (.int ((x.toUInt32 >>> (y.toUInt32 &&& Int32.toUInt32 31)).toInt32) :: r) M ck sk) : V pc lv (.int y :: .int x :: r) M ck sk := by
  subst hp; exact C _ _ _ _ _ _ ⟨_, _, hi, Or.inr (Or.inr (Or.inr (Or.inl (Or.inr (Or.inr (Or.inl (⟨rfl, rfl, _, _, _, rfl, h⟩)))))))⟩
theorem k_idiv (C : Cl d q mc ms Post V) {x y : Int32} (hi : cdf q.2.2.2.2.2.2 pc = some (.idiv, 1)) (hp : pc + 1 = pc2) (h0 : ¬ y = 0) (h : V pc2 lv (.int (x / y) :: r) M ck sk) : V pc lv (.int y :: .int x :: r) M ck sk := by
  subst hp; exact C _ _ _ _ _ _ ⟨_, _, hi, Or.inr (Or.inr (Or.inl (Or.inr (Or.inr (Or.inr (Or.inr (Or.inl (⟨rfl, rfl, _, _, _, rfl, h0, h⟩))))))))⟩
theorem k_irem (C : Cl d q mc ms Post V) {x y : Int32} (hi : cdf q.2.2.2.2.2.2 pc = some (.irem, 1)) (hp : pc + 1 = pc2) (h0 : ¬ y = 0) (h : V pc2 lv (.int (x - x / y * y) :: r) M ck sk) : V pc lv (.int y :: .int x :: r) M ck sk := by
  subst hp; exact C _ _ _ _ _ _ ⟨_, _, hi, Or.inr (Or.inr (Or.inl (Or.inr (Or.inr (Or.inr (Or.inr (Or.inr (Or.inl (⟨rfl, rfl, _, _, _, rfl, h0, h⟩)))))))))⟩
theorem k_ladd (C : Cl d q mc ms Post V) {x y : Int64} (hi : cdf q.2.2.2.2.2.2 pc = some (.ladd, 1)) (hp : pc + 1 = pc2) (h : V pc2 lv (.long (x + y) :: r) M ck sk) : V pc lv (.long y :: .long x :: r) M ck sk := by
  subst hp; exact C _ _ _ _ _ _ ⟨_, _, hi, Or.inr (Or.inr (Or.inr (Or.inl (Or.inr (Or.inr (Or.inr (Or.inr (Or.inr (Or.inr (Or.inl (⟨rfl, rfl, _, _, _, rfl, h⟩)))))))))))⟩
theorem k_lsub (C : Cl d q mc ms Post V) {x y : Int64} (hi : cdf q.2.2.2.2.2.2 pc = some (.lsub, 1)) (hp : pc + 1 = pc2) (h : V pc2 lv (.long (x - y) :: r) M ck sk) : V pc lv (.long y :: .long x :: r) M ck sk := by
  subst hp; exact C _ _ _ _ _ _ ⟨_, _, hi, Or.inr (Or.inr (Or.inr (Or.inl (Or.inr (Or.inr (Or.inr (Or.inr (Or.inr (Or.inr (Or.inr (Or.inl (⟨rfl, rfl, _, _, _, rfl, h⟩))))))))))))⟩
theorem k_lmul (C : Cl d q mc ms Post V) {x y : Int64} (hi : cdf q.2.2.2.2.2.2 pc = some (.lmul, 1)) (hp : pc + 1 = pc2) (h : V pc2 lv (.long (x * y) :: r) M ck sk) : V pc lv (.long y :: .long x :: r) M ck sk := by
  subst hp; exact C _ _ _ _ _ _ ⟨_, _, hi, Or.inr (Or.inr (Or.inr (Or.inl (Or.inr (Or.inr (Or.inr (Or.inr (Or.inr (Or.inr (Or.inr (Or.inr (Or.inl (⟨rfl, rfl, _, _, _, rfl, h⟩)))))))))))))⟩
theorem k_lxor (C : Cl d q mc ms Post V) {x y : Int64} (hi : cdf q.2.2.2.2.2.2 pc = some (.lxor, 1)) (hp : pc + 1 = pc2) (h : V pc2 lv (.long (x ^^^ y) :: r) M ck sk) : V pc lv (.long y :: .long x :: r) M ck sk := by
  subst hp; exact C _ _ _ _ _ _ ⟨_, _, hi, Or.inr (Or.inr (Or.inr (Or.inr (Or.inl (Or.inr (Or.inl (⟨rfl, rfl, _, _, _, rfl, h⟩)))))))⟩
theorem k_ldiv (C : Cl d q mc ms Post V) {x y : Int64} (hi : cdf q.2.2.2.2.2.2 pc = some (.ldiv, 1)) (hp : pc + 1 = pc2) (h0 : ¬ y = 0) (h : V pc2 lv (.long (x / y) :: r) M ck sk) : V pc lv (.long y :: .long x :: r) M ck sk := by
  subst hp; exact C _ _ _ _ _ _ ⟨_, _, hi, Or.inr (Or.inr (Or.inr (Or.inl (Or.inr (Or.inr (Or.inr (Or.inr (Or.inr (Or.inr (Or.inr (Or.inr (Or.inr (⟨rfl, rfl, _, _, _, rfl, h0, h⟩)))))))))))))⟩
theorem k_lrem (C : Cl d q mc ms Post V) {x y : Int64} (hi : cdf q.2.2.2.2.2.2 pc = some (.lrem, 1)) (hp : pc + 1 = pc2) (h0 : ¬ y = 0) (h : V pc2 lv (.long (x - x / y * y) :: r) M ck sk) : V pc lv (.long y :: .long x :: r) M ck sk := by
  subst hp; exact C _ _ _ _ _ _ ⟨_, _, hi, Or.inr (Or.inr (Or.inr (Or.inr (Or.inl (Or.inl (⟨rfl, rfl, _, _, _, rfl, h0, h⟩))))))⟩
theorem k_lcmp (C : Cl d q mc ms Post V) {x y : Int64} (hi : cdf q.2.2.2.2.2.2 pc = some (.lcmp, 1)) (hp : pc + 1 = pc2) (h : V pc2 lv (.int (lg_cmp x y) :: r) M ck sk) : V pc lv (.long y :: .long x :: r) M ck sk := by
  subst hp; exact C _ _ _ _ _ _ ⟨_, _, hi, Or.inr (Or.inr (Or.inr (Or.inr (Or.inl (Or.inr (Or.inr (Or.inr (Or.inl (⟨rfl, rfl, _, _, _, rfl, h⟩)))))))))⟩
theorem k_ineg (C : Cl d q mc ms Post V) {x : Int32} (hi : cdf q.2.2.2.2.2.2 pc = some (.ineg, 1)) (hp : pc + 1 = pc2) (h : V pc2 lv (.int (-x) :: r) M ck sk) : V pc lv (.int x :: r) M ck sk := by
  subst hp; exact C _ _ _ _ _ _ ⟨_, _, hi, Or.inr (Or.inr (Or.inl (Or.inr (Or.inr (Or.inr (Or.inr (Or.inr (Or.inr (Or.inl (⟨rfl, rfl, _, _, rfl, h⟩))))))))))⟩
theorem k_i2l (C : Cl d q mc ms Post V) {x : Int32} (hi : cdf q.2.2.2.2.2.2 pc = some (.i2l, 1)) (hp : pc + 1 = pc2) (h : V pc2 lv (.long x.toInt64 :: r) M ck sk) : V pc lv (.int x :: r) M ck sk := by
  subst hp; exact C _ _ _ _ _ _ ⟨_, _, hi, Or.inr (Or.inr (Or.inr (Or.inl (Or.inr (Or.inr (Or.inr (Or.inl (⟨rfl, rfl, _, _, rfl, h⟩))))))))⟩
theorem k_i2b (C : Cl d q mc ms Post V) {x : Int32} (hi : cdf q.2.2.2.2.2.2 pc = some (.i2b, 1)) (hp : pc + 1 = pc2) (h : V pc2 lv (.int x.toInt8.toInt32 :: r) M ck sk) : V pc lv (.int x :: r) M ck sk := by
  subst hp; exact C _ _ _ _ _ _ ⟨_, _, hi, Or.inr (Or.inr (Or.inr (Or.inl (Or.inr (Or.inr (Or.inr (Or.inr (Or.inl (⟨rfl, rfl, _, _, rfl, h⟩)))))))))⟩
theorem k_l2i (C : Cl d q mc ms Post V) {x : Int64} (hi : cdf q.2.2.2.2.2.2 pc = some (.l2i, 1)) (hp : pc + 1 = pc2) (h : V pc2 lv (.int x.toInt32 :: r) M ck sk) : V pc lv (.long x :: r) M ck sk := by
  subst hp; exact C _ _ _ _ _ _ ⟨_, _, hi, Or.inr (Or.inr (Or.inr (Or.inl (Or.inr (Or.inr (Or.inr (Or.inr (Or.inr (Or.inl (⟨rfl, rfl, _, _, rfl, h⟩))))))))))⟩
theorem k_lneg (C : Cl d q mc ms Post V) {x : Int64} (hi : cdf q.2.2.2.2.2.2 pc = some (.lneg, 1)) (hp : pc + 1 = pc2) (h : V pc2 lv (.long (-x) :: r) M ck sk) : V pc lv (.long x :: r) M ck sk := by
  subst hp; exact C _ _ _ _ _ _ ⟨_, _, hi, Or.inr (Or.inr (Or.inr (Or.inr (Or.inl (Or.inr (Or.inr (Or.inl (⟨rfl, rfl, _, _, rfl, h⟩))))))))⟩
theorem k_pop (C : Cl d q mc ms Post V) {v : Value} (hi : cdf q.2.2.2.2.2.2 pc = some (.pop, 1)) (hp : pc + 1 = pc2) (hv : v.category = 1) (h : V pc2 lv r M ck sk) : V pc lv (v :: r) M ck sk := by
  subst hp; exact C _ _ _ _ _ _ ⟨_, _, hi, Or.inr (Or.inr (Or.inr (Or.inr (Or.inl (Or.inr (Or.inr (Or.inr (Or.inr (Or.inl (⟨rfl, rfl, _, _, rfl, hv, h⟩))))))))))⟩
theorem k_dup (C : Cl d q mc ms Post V) {v : Value} (hi : cdf q.2.2.2.2.2.2 pc = some (.dup, 1)) (hp : pc + 1 = pc2) (hv : v.category = 1) (h : V pc2 lv (v :: v :: r) M ck sk) : V pc lv (v :: r) M ck sk := by
  subst hp; exact C _ _ _ _ _ _ ⟨_, _, hi, Or.inr (Or.inr (Or.inr (Or.inr (Or.inl (Or.inr (Or.inr (Or.inr (Or.inr (Or.inr (Or.inl (⟨rfl, rfl, _, _, rfl, hv, h⟩)))))))))))⟩
theorem k_dup2 (C : Cl d q mc ms Post V) {v w : Value} (hi : cdf q.2.2.2.2.2.2 pc = some (.dup2, 1)) (hp : pc + 1 = pc2) (hv : v.category = 1) (hw : w.category = 1) (h : V pc2 lv (v :: w :: v :: w :: r) M ck sk) : V pc lv (v :: w :: r) M ck sk := by
  subst hp; exact C _ _ _ _ _ _ ⟨_, _, hi, Or.inr (Or.inr (Or.inr (Or.inr (Or.inl (Or.inr (Or.inr (Or.inr (Or.inr (Or.inr (Or.inr (Or.inl (⟨rfl, rfl, _, _, _, rfl, hv, hw, h⟩))))))))))))⟩
theorem tg_of {pc t : Nat} {off : Int} (h : (pc : Int) + off = (t : Int)) : 0 ≤ (pc : Int) + off ∧ tg pc off = t := ⟨by omega, by unfold tg; omega⟩
theorem k_goto (C : Cl d q mc ms Post V) {off : Int} (hi : cdf q.2.2.2.2.2.2 pc = some (.goto off, 3)) (ht : (pc : Int) + off = (pc2 : Int)) (h : V pc2 lv r M ck sk) : V pc lv r M ck sk := C _ _ _ _ _ _ ⟨_, _, hi, Or.inr (Or.inr (Or.inr (Or.inr (Or.inl (Or.inr (Or.inr (Or.inr (Or.inr (Or.inr (Or.inr (Or.inr (Or.inl (⟨_, rfl, rfl, (tg_of ht).1, by rw [(tg_of ht).2]; exact h⟩)))))))))))))⟩
theorem k_if_eq (C : Cl d q mc ms Post V) {off : Int} {t : Nat} {x : Int32} (hi : cdf q.2.2.2.2.2.2 pc = some (.ifCond .eq off, 3)) (ht : (pc : Int) + off = (t : Int)) (hp : pc + 3 = pc2) (h1 : x = 0 → V t lv r M ck sk) (h2 : ¬ x = 0 → V pc2 lv r M ck sk) : V pc lv (.int x :: r) M ck sk := C _ _ _ _ _ _ ⟨_, _, hi, Or.inr (Or.inr (Or.inr (Or.inr (Or.inl (Or.inr (Or.inr (Or.inr (Or.inr (Or.inr (Or.inr (Or.inr (Or.inr (Or.inl (⟨_, _, rfl, rfl, _, _, rfl, (tg_of ht).1, fun z => by rw [(tg_of ht).2]; exact h1 z, fun z => by rw [hp]; exact h2 z⟩))))))))))))))⟩
theorem k_if_ne (C : Cl d q mc ms Post V) {off : Int} {t : Nat} {x : Int32} (hi : cdf q.2.2.2.2.2.2 pc = some (.ifCond .ne off, 3)) (ht : (pc : Int) + off = (t : Int)) (hp : pc + 3 = pc2) (h1 : ¬ x = 0 → V t lv r M ck sk) (h2 : ¬ (¬ x = 0) → V pc2 lv r M ck sk) : V pc lv (.int x :: r) M ck sk := C _ _ _ _ _ _ ⟨_, _, hi, Or.inr (Or.inr (Or.inr (Or.inr (Or.inl (Or.inr (Or.inr (Or.inr (Or.inr (Or.inr (Or.inr (Or.inr (Or.inr (Or.inl (⟨_, _, rfl, rfl, _, _, rfl, (tg_of ht).1, fun z => by rw [(tg_of ht).2]; exact h1 z, fun z => by rw [hp]; exact h2 z⟩))))))))))))))⟩
theorem k_if_lt (C : Cl d q mc ms Post V) {off : Int} {t : Nat} {x : Int32} (hi : cdf q.2.2.2.2.2.2 pc = some (.ifCond .lt off, 3)) (ht : (pc : Int) + off = (t : Int)) (hp : pc + 3 = pc2) (h1 : x < 0 → V t lv r M ck sk) (h2 : ¬ x < 0 → V pc2 lv r M ck sk) : V pc lv (.int x :: r) M ck sk := C _ _ _ _ _ _ ⟨_, _, hi, Or.inr (Or.inr (Or.inr (Or.inr (Or.inl (Or.inr (Or.inr (Or.inr (Or.inr (Or.inr (Or.inr (Or.inr (Or.inr (Or.inl (⟨_, _, rfl, rfl, _, _, rfl, (tg_of ht).1, fun z => by rw [(tg_of ht).2]; exact h1 z, fun z => by rw [hp]; exact h2 z⟩))))))))))))))⟩
theorem k_if_ge (C : Cl d q mc ms Post V) {off : Int} {t : Nat} {x : Int32} (hi : cdf q.2.2.2.2.2.2 pc = some (.ifCond .ge off, 3)) (ht : (pc : Int) + off = (t : Int)) (hp : pc + 3 = pc2) (h1 : 0 ≤ x → V t lv r M ck sk) (h2 : ¬ 0 ≤ x → V pc2 lv r M ck sk) : V pc lv (.int x :: r) M ck sk := C _ _ _ _ _ _ ⟨_, _, hi, Or.inr (Or.inr (Or.inr (Or.inr (Or.inl (Or.inr (Or.inr (Or.inr (Or.inr (Or.inr (Or.inr (Or.inr (Or.inr (Or.inl (⟨_, _, rfl, rfl, _, _, rfl, (tg_of ht).1, fun z => by rw [(tg_of ht).2]; exact h1 z, fun z => by rw [hp]; exact h2 z⟩))))))))))))))⟩
theorem k_if_gt (C : Cl d q mc ms Post V) {off : Int} {t : Nat} {x : Int32} (hi : cdf q.2.2.2.2.2.2 pc = some (.ifCond .gt off, 3)) (ht : (pc : Int) + off = (t : Int)) (hp : pc + 3 = pc2) (h1 : 0 < x → V t lv r M ck sk) (h2 : ¬ 0 < x → V pc2 lv r M ck sk) : V pc lv (.int x :: r) M ck sk := C _ _ _ _ _ _ ⟨_, _, hi, Or.inr (Or.inr (Or.inr (Or.inr (Or.inl (Or.inr (Or.inr (Or.inr (Or.inr (Or.inr (Or.inr (Or.inr (Or.inr (Or.inl (⟨_, _, rfl, rfl, _, _, rfl, (tg_of ht).1, fun z => by rw [(tg_of ht).2]; exact h1 z, fun z => by rw [hp]; exact h2 z⟩))))))))))))))⟩
theorem k_if_le (C : Cl d q mc ms Post V) {off : Int} {t : Nat} {x : Int32} (hi : cdf q.2.2.2.2.2.2 pc = some (.ifCond .le off, 3)) (ht : (pc : Int) + off = (t : Int)) (hp : pc + 3 = pc2) (h1 : x ≤ 0 → V t lv r M ck sk) (h2 : ¬ x ≤ 0 → V pc2 lv r M ck sk) : V pc lv (.int x :: r) M ck sk := C _ _ _ _ _ _ ⟨_, _, hi, Or.inr (Or.inr (Or.inr (Or.inr (Or.inl (Or.inr (Or.inr (Or.inr (Or.inr (Or.inr (Or.inr (Or.inr (Or.inr (Or.inl (⟨_, _, rfl, rfl, _, _, rfl, (tg_of ht).1, fun z => by rw [(tg_of ht).2]; exact h1 z, fun z => by rw [hp]; exact h2 z⟩))))))))))))))⟩
theorem k_icmp_eq (C : Cl d q mc ms Post V) {off : Int} {t : Nat} {x y : Int32} (hi : cdf q.2.2.2.2.2.2 pc = some (.if_icmp .eq off, 3)) (ht : (pc : Int) + off = (t : Int)) (hp : pc + 3 = pc2) (h1 : x = y → V t lv r M ck sk) (h2 : ¬ x = y → V pc2 lv r M ck sk) : V pc lv (.int y :: .int x :: r) M ck sk := C _ _ _ _ _ _ ⟨_, _, hi, Or.inr (Or.inr (Or.inr (Or.inr (Or.inl (Or.inr (Or.inr (Or.inr (Or.inr (Or.inr (Or.inr (Or.inr (Or.inr (Or.inr (⟨_, _, rfl, rfl, _, _, _, rfl, (tg_of ht).1, fun z => by rw [(tg_of ht).2]; exact h1 z, fun z => by rw [hp]; exact h2 z⟩))))))))))))))⟩
theorem k_icmp_ne (C : Cl d q mc ms Post V) {off : Int} {t : Nat} {x y : Int32} (hi : cdf q.2.2.2.2.2.2 pc = some (.if_icmp .ne off, 3)) (ht : (pc : Int) + off = (t : Int)) (hp : pc + 3 = pc2) (h1 : ¬ x = y → V t lv r M ck sk) (h2 : ¬ (¬ x = y) → V pc2 lv r M ck sk) : V pc lv (.int y :: .int x :: r) M ck sk := C _ _ _ _ _ _ ⟨_, _, hi, Or.inr (Or.inr (Or.inr (Or.inr (Or.inl (Or.inr (Or.inr (Or.inr (Or.inr (Or.inr (Or.inr (Or.inr (Or.inr (Or.inr (⟨_, _, rfl, rfl, _, _, _, rfl, (tg_of ht).1, fun z => by rw [(tg_of ht).2]; exact h1 z, fun z => by rw [hp]; exact h2 z⟩))))))))))))))⟩
theorem k_icmp_lt (C : Cl d q mc ms Post V) {off : Int} {t : Nat} {x y : Int32} (hi : cdf q.2.2.2.2.2.2 pc = some (.if_icmp .lt off, 3)) (ht : (pc : Int) + off = (t : Int)) (hp : pc + 3 = pc2) (h1 : x < y → V t lv r M ck sk) (h2 : ¬ x < y → V pc2 lv r M ck sk) : V pc lv (.int y :: .int x :: r) M ck sk := C _ _ _ _ _ _ ⟨_, _, hi, Or.inr (Or.inr (Or.inr (Or.inr (Or.inl (Or.inr (Or.inr (Or.inr (Or.inr (Or.inr (Or.inr (Or.inr (Or.inr (Or.inr (⟨_, _, rfl, rfl, _, _, _, rfl, (tg_of ht).1, fun z => by rw [(tg_of ht).2]; exact h1 z, fun z => by rw [hp]; exact h2 z⟩))))))))))))))⟩
theorem k_icmp_ge (C : Cl d q mc ms Post V) {off : Int} {t : Nat} {x y : Int32} (hi : cdf q.2.2.2.2.2.2 pc = some (.if_icmp .ge off, 3)) (ht : (pc : Int) + off = (t : Int)) (hp : pc + 3 = pc2) (h1 : y ≤ x → V t lv r M ck sk) (h2 : ¬ y ≤ x → V pc2 lv r M ck sk) : V pc lv (.int y :: .int x :: r) M ck sk := C _ _ _ _ _ _ ⟨_, _, hi, Or.inr (Or.inr (Or.inr (Or.inr (Or.inl (Or.inr (Or.inr (Or.inr (Or.inr (Or.inr (Or.inr (Or.inr (Or.inr (Or.inr (⟨_, _, rfl, rfl, _, _, _, rfl, (tg_of ht).1, fun z => by rw [(tg_of ht).2]; exact h1 z, fun z => by rw [hp]; exact h2 z⟩))))))))))))))⟩
theorem k_icmp_gt (C : Cl d q mc ms Post V) {off : Int} {t : Nat} {x y : Int32} (hi : cdf q.2.2.2.2.2.2 pc = some (.if_icmp .gt off, 3)) (ht : (pc : Int) + off = (t : Int)) (hp : pc + 3 = pc2) (h1 : y < x → V t lv r M ck sk) (h2 : ¬ y < x → V pc2 lv r M ck sk) : V pc lv (.int y :: .int x :: r) M ck sk := C _ _ _ _ _ _ ⟨_, _, hi, Or.inr (Or.inr (Or.inr (Or.inr (Or.inl (Or.inr (Or.inr (Or.inr (Or.inr (Or.inr (Or.inr (Or.inr (Or.inr (Or.inr (⟨_, _, rfl, rfl, _, _, _, rfl, (tg_of ht).1, fun z => by rw [(tg_of ht).2]; exact h1 z, fun z => by rw [hp]; exact h2 z⟩))))))))))))))⟩
theorem k_icmp_le (C : Cl d q mc ms Post V) {off : Int} {t : Nat} {x y : Int32} (hi : cdf q.2.2.2.2.2.2 pc = some (.if_icmp .le off, 3)) (ht : (pc : Int) + off = (t : Int)) (hp : pc + 3 = pc2) (h1 : x ≤ y → V t lv r M ck sk) (h2 : ¬ x ≤ y → V pc2 lv r M ck sk) : V pc lv (.int y :: .int x :: r) M ck sk := C _ _ _ _ _ _ ⟨_, _, hi, Or.inr (Or.inr (Or.inr (Or.inr (Or.inl (Or.inr (Or.inr (Or.inr (Or.inr (Or.inr (Or.inr (Or.inr (Or.inr (Or.inr (⟨_, _, rfl, rfl, _, _, _, rfl, (tg_of ht).1, fun z => by rw [(tg_of ht).2]; exact h1 z, fun z => by rw [hp]; exact h2 z⟩))))))))))))))⟩
theorem k_ifnull (C : Cl d q mc ms Post V) {off : Int} {t : Nat} {x : Option Nat} (hi : cdf q.2.2.2.2.2.2 pc = some (.ifnull off, 3)) (ht : (pc : Int) + off = (t : Int)) (hp : pc + 3 = pc2) (h1 : x = none → V t lv r M ck sk) (h2 : ∀ a, x = some a → V pc2 lv r M ck sk) : V pc lv (va_rf x :: r) M ck sk := C _ _ _ _ _ _ ⟨_, _, hi, Or.inr (Or.inr (Or.inr (Or.inr (Or.inr (Or.inl (Or.inl (⟨_, rfl, rfl, _, _, rfl, (tg_of ht).1, fun z => by rw [(tg_of ht).2]; exact h1 z, fun a z => by rw [hp]; exact h2 a z⟩)))))))⟩
theorem k_ifnonnull (C : Cl d q mc ms Post V) {off : Int} {t : Nat} {x : Option Nat} (hi : cdf q.2.2.2.2.2.2 pc = some (.ifnonnull off, 3)) (ht : (pc : Int) + off = (t : Int)) (hp : pc + 3 = pc2) (h1 : x = none → V pc2 lv r M ck sk) (h2 : ∀ a, x = some a → V t lv r M ck sk) : V pc lv (va_rf x :: r) M ck sk := C _ _ _ _ _ _ ⟨_, _, hi, Or.inr (Or.inr (Or.inr (Or.inr (Or.inr (Or.inl (Or.inr (Or.inl (⟨_, rfl, rfl, _, _, rfl, (tg_of ht).1, fun z => by rw [hp]; exact h1 z, fun a z => by rw [(tg_of ht).2]; exact h2 a z⟩))))))))⟩
theorem k_get (C : Cl d q mc ms Post V) {j a ci k : Nat} {v : Value} (hi : cdf q.2.2.2.2.2.2 pc = some (.getfield j, 3)) (hp : pc + 3 = pc2) (hf : P_fl q.2.2.2.2.1 j = some (ci, k)) (ht : mT M a = ci + 1) (hv : wv (kt (P_ty ci k)) M a k = v) (h : V pc2 lv (v :: r) M ck sk) : V pc lv (.ref a :: r) M ck sk := by
  subst hp; exact C _ _ _ _ _ _ ⟨_, _, hi, Or.inr (Or.inr (Or.inr (Or.inr (Or.inr (Or.inl (Or.inr (Or.inr (Or.inr (Or.inl (⟨_, rfl, rfl, _, _, rfl, _, _, hf, ht, by rw [hv]; exact h⟩))))))))))⟩
theorem k_putI (C : Cl d q mc ms Post V) {j a ci k : Nat} {x : Int32} (hi : cdf q.2.2.2.2.2.2 pc = some (.putfield j, 3)) (hp : pc + 3 = pc2) (hf : P_fl q.2.2.2.2.1 j = some (ci, k)) (ht : mT M a = ci + 1) (hn : q.1.name = "<init>" ∧ q.2.2.2.2.1 = ci ∨ ((vwCl[ci]?).map (fun r => (r.2.1 k).2.2.2)) = some false) (hy : P_ty ci k = .int) (h : V pc2 lv r (sI M a k x) ck sk) : V pc lv (.int x :: .ref a :: r) M ck sk := by
  subst hp; exact C _ _ _ _ _ _ ⟨_, _, hi, Or.inr (Or.inr (Or.inr (Or.inr (Or.inr (Or.inl (Or.inr (Or.inr (Or.inr (Or.inr (Or.inl (⟨_, rfl, rfl, _, _, _, rfl, _, _, hf, ht, hn, by rw [hy]; exact ⟨_, rfl, h⟩⟩)))))))))))⟩
theorem k_putZ (C : Cl d q mc ms Post V) {j a ci k : Nat} {x : Int32} (hi : cdf q.2.2.2.2.2.2 pc = some (.putfield j, 3)) (hp : pc + 3 = pc2) (hf : P_fl q.2.2.2.2.1 j = some (ci, k)) (ht : mT M a = ci + 1) (hn : q.1.name = "<init>" ∧ q.2.2.2.2.1 = ci ∨ ((vwCl[ci]?).map (fun r => (r.2.1 k).2.2.2)) = some false) (hy : P_ty ci k = .boolean) (hx : x = 0 ∨ x = 1) (h : V pc2 lv r (sI M a k x) ck sk) : V pc lv (.int x :: .ref a :: r) M ck sk := by
  subst hp; exact C _ _ _ _ _ _ ⟨_, _, hi, Or.inr (Or.inr (Or.inr (Or.inr (Or.inr (Or.inl (Or.inr (Or.inr (Or.inr (Or.inr (Or.inl (⟨_, rfl, rfl, _, _, _, rfl, _, _, hf, ht, hn, by rw [hy]; exact ⟨_, rfl, hx, h⟩⟩)))))))))))⟩
theorem k_putL (C : Cl d q mc ms Post V) {j a ci k : Nat} {x : Int64} (hi : cdf q.2.2.2.2.2.2 pc = some (.putfield j, 3)) (hp : pc + 3 = pc2) (hf : P_fl q.2.2.2.2.1 j = some (ci, k)) (ht : mT M a = ci + 1) (hn : q.1.name = "<init>" ∧ q.2.2.2.2.1 = ci ∨ ((vwCl[ci]?).map (fun r => (r.2.1 k).2.2.2)) = some false) (hy : P_ty ci k = .long) (h : V pc2 lv r (sL M a k x) ck sk) : V pc lv (.long x :: .ref a :: r) M ck sk := by
  subst hp; exact C _ _ _ _ _ _ ⟨_, _, hi, Or.inr (Or.inr (Or.inr (Or.inr (Or.inr (Or.inl (Or.inr (Or.inr (Or.inr (Or.inr (Or.inl (⟨_, rfl, rfl, _, _, _, rfl, _, _, hf, ht, hn, by rw [hy]; exact ⟨_, rfl, h⟩⟩)))))))))))⟩
theorem k_putR (C : Cl d q mc ms Post V) {j a ci k b : Nat} (hi : cdf q.2.2.2.2.2.2 pc = some (.putfield j, 3)) (hp : pc + 3 = pc2) (hf : P_fl q.2.2.2.2.1 j = some (ci, k)) (ht : mT M a = ci + 1) (hn : q.1.name = "<init>" ∧ q.2.2.2.2.1 = ci ∨ ((vwCl[ci]?).map (fun r => (r.2.1 k).2.2.2)) = some false) (hy : kt (P_ty ci k) = 2) (h : V pc2 lv r (sR M a k (some b)) ck sk) : V pc lv (.ref b :: .ref a :: r) M ck sk := by
  subst hp
  refine C _ _ _ _ _ _ ⟨_, _, hi, Or.inr (Or.inr (Or.inr (Or.inr (Or.inr (Or.inl (Or.inr (Or.inr (Or.inr (Or.inr (Or.inl (⟨_, rfl, rfl, _, _, _, rfl, _, _, hf, ht, hn, ?_⟩)))))))))))⟩
  revert hy
  generalize P_ty ci k = t9
  intro hy
  cases t9 <;> first | exact ⟨some b, rfl, h⟩ | cases hy
theorem k_iald (C : Cl d q mc ms Post V) {a : Nat} {j : Int32} (hi : cdf q.2.2.2.2.2.2 pc = some (.iaload, 1)) (hp : pc + 1 = pc2) (ht : mT M a = 20) (hj : vp_in j (mN M a)) (h : V pc2 lv (.int (mI M a j.toNatClampNeg) :: r) M ck sk) : V pc lv (.int j :: .ref a :: r) M ck sk := by
  subst hp; exact C _ _ _ _ _ _ ⟨_, _, hi, Or.inr (Or.inr (Or.inr (Or.inr (Or.inr (Or.inl (Or.inr (Or.inr (Or.inr (Or.inr (Or.inr (Or.inl (⟨rfl, rfl, _, _, _, rfl, ht, hj, h⟩))))))))))))⟩
theorem k_lald (C : Cl d q mc ms Post V) {a : Nat} {j : Int32} (hi : cdf q.2.2.2.2.2.2 pc = some (.laload, 1)) (hp : pc + 1 = pc2) (ht : mT M a = 21) (hj : vp_in j (mN M a)) (h : V pc2 lv (.long (mL M a j.toNatClampNeg) :: r) M ck sk) : V pc lv (.int j :: .ref a :: r) M ck sk := by
  subst hp; exact C _ _ _ _ _ _ ⟨_, _, hi, Or.inr (Or.inr (Or.inr (Or.inr (Or.inr (Or.inl (Or.inr (Or.inr (Or.inr (Or.inr (Or.inr (Or.inr (Or.inl (⟨rfl, rfl, _, _, _, rfl, ht, hj, h⟩)))))))))))))⟩
theorem k_bald (C : Cl d q mc ms Post V) {a : Nat} {j : Int32} (hi : cdf q.2.2.2.2.2.2 pc = some (.baload, 1)) (hp : pc + 1 = pc2) (ht : mT M a = 22) (hj : vp_in j (mN M a)) (h : V pc2 lv (.int (mI M a j.toNatClampNeg) :: r) M ck sk) : V pc lv (.int j :: .ref a :: r) M ck sk := by
  subst hp; exact C _ _ _ _ _ _ ⟨_, _, hi, Or.inr (Or.inr (Or.inr (Or.inr (Or.inr (Or.inl (Or.inr (Or.inr (Or.inr (Or.inr (Or.inr (Or.inr (Or.inr (Or.inl (⟨rfl, rfl, _, _, _, rfl, ht, hj, h⟩))))))))))))))⟩
theorem k_aald (C : Cl d q mc ms Post V) {a t : Nat} {j : Int32} (hi : cdf q.2.2.2.2.2.2 pc = some (.aaload, 1)) (hp : pc + 1 = pc2) (h4 : t < 4) (ht : mT M a = 23 + t) (hj : vp_in j (mN M a)) (h : V pc2 lv (va_rf (mR M a j.toNatClampNeg) :: r) M ck sk) : V pc lv (.int j :: .ref a :: r) M ck sk := by
  subst hp; exact C _ _ _ _ _ _ ⟨_, _, hi, Or.inr (Or.inr (Or.inr (Or.inr (Or.inr (Or.inl (Or.inr (Or.inr (Or.inr (Or.inr (Or.inr (Or.inr (Or.inr (Or.inr (Or.inl (⟨rfl, rfl, _, _, _, rfl, ⟨t, h4, ht⟩, hj, h⟩)))))))))))))))⟩
theorem k_alen (C : Cl d q mc ms Post V) {a : Nat} (hi : cdf q.2.2.2.2.2.2 pc = some (.arraylength, 1)) (hp : pc + 1 = pc2) (ht : 20 ≤ mT M a) (h : V pc2 lv (.int (Int32.ofNat (mN M a)) :: r) M ck sk) : V pc lv (.ref a :: r) M ck sk := by
  subst hp; exact C _ _ _ _ _ _ ⟨_, _, hi, Or.inr (Or.inr (Or.inr (Or.inr (Or.inr (Or.inr (Or.inl (Or.inr (Or.inr (Or.inr (Or.inl (⟨rfl, rfl, _, _, rfl, ht, h⟩)))))))))))⟩
theorem k_iast (C : Cl d q mc ms Post V) {a : Nat} {j x : Int32} (hi : cdf q.2.2.2.2.2.2 pc = some (.iastore, 1)) (hp : pc + 1 = pc2) (ht : mT M a = 20) (hj : vp_in j (mN M a)) (h : V pc2 lv r (sI M a j.toNatClampNeg x) ck sk) : V pc lv (.int x :: .int j :: .ref a :: r) M ck sk := by
  subst hp; exact C _ _ _ _ _ _ ⟨_, _, hi, Or.inr (Or.inr (Or.inr (Or.inr (Or.inr (Or.inl (Or.inr (Or.inr (Or.inr (Or.inr (Or.inr (Or.inr (Or.inr (Or.inr (Or.inr (⟨rfl, rfl, _, _, rfl, _, _, _, rfl, ht, hj, h⟩)))))))))))))))⟩
theorem k_bast (C : Cl d q mc ms Post V) {a : Nat} {j x : Int32} (hi : cdf q.2.2.2.2.2.2 pc = some (.bastore, 1)) (hp : pc + 1 = pc2) (ht : mT M a = 22) (hj : vp_in j (mN M a)) (h : V pc2 lv r (sI M a j.toNatClampNeg x.toInt8.toInt32) ck sk) : V pc lv (.int x :: .int j :: .ref a :: r) M ck sk := by
  subst hp; exact C _ _ _ _ _ _ ⟨_, _, hi, Or.inr (Or.inr (Or.inr (Or.inr (Or.inr (Or.inr (Or.inl (Or.inr (Or.inl (⟨rfl, rfl, _, _, rfl, _, _, _, rfl, ht, hj, h⟩)))))))))⟩
theorem k_last (C : Cl d q mc ms Post V) {a : Nat} {j : Int32} {x : Int64} (hi : cdf q.2.2.2.2.2.2 pc = some (.lastore, 1)) (hp : pc + 1 = pc2) (ht : mT M a = 21) (hj : vp_in j (mN M a)) (h : V pc2 lv r (sL M a j.toNatClampNeg x) ck sk) : V pc lv (.long x :: .int j :: .ref a :: r) M ck sk := by
  subst hp; exact C _ _ _ _ _ _ ⟨_, _, hi, Or.inr (Or.inr (Or.inr (Or.inr (Or.inr (Or.inr (Or.inl (Or.inl (⟨rfl, rfl, _, _, rfl, _, _, _, rfl, ht, hj, h⟩))))))))⟩
theorem k_aast (C : Cl d q mc ms Post V) {a b t ci : Nat} {j : Int32} (hi : cdf q.2.2.2.2.2.2 pc = some (.aastore, 1)) (hp : pc + 1 = pc2) (ht : mT M a = 20 + t) (hb : mT M b = ci + 1) (hc : t = 3 ∧ ci = 2 ∨ t = 4 ∧ ci = 9 ∨ t = 5 ∧ ci = 7) (hj : vp_in j (mN M a)) (h : V pc2 lv r (sR M a j.toNatClampNeg (some b)) ck sk) : V pc lv (.ref b :: .int j :: .ref a :: r) M ck sk := by
  subst hp; exact C _ _ _ _ _ _ ⟨_, _, hi, Or.inr (Or.inr (Or.inr (Or.inr (Or.inr (Or.inr (Or.inl (Or.inr (Or.inr (Or.inl (⟨rfl, rfl, _, _, rfl, _, _, _, rfl, ⟨t, ci, ht, hb, hc⟩, hj, h⟩))))))))))⟩
theorem k_throw (C : Cl d q mc ms Post V) {j ic e : Nat} (hi : cdf q.2.2.2.2.2.2 pc = some (.new j, 3)) (hx : P_xx q.2.2.2.2.1 j = some (ic, e)) (hn0 : q.2.2.2.2.2.1 = []) (h3 : cdf q.2.2.2.2.2.2 (pc + 3) = some (.dup, 1)) (h4 : cdf q.2.2.2.2.2.2 (pc + 4) = some (.invokespecial ic, 3)) (h7 : cdf q.2.2.2.2.2.2 (pc + 7) = some (.athrow, 1)) (hc : (r.map fun v => v.category).sum ≤ 8) (h1 : ck + 1 ≤ mc) (h2 : sk + 6 ≤ ms) (h : Post (.inr e) M) : V pc lv r M ck sk := C _ _ _ _ _ _ ⟨_, _, hi, Or.inr (Or.inr (Or.inr (Or.inr (Or.inr (Or.inr (Or.inl (Or.inr (Or.inr (Or.inr (Or.inr (Or.inl (⟨_, rfl, rfl, Or.inl ⟨_, _, hx, hn0, h3, h4, h7, hc, h1, h2, h⟩⟩))))))))))))⟩
theorem k_new (C : Cl d q mc ms Post V) {j ci n : Nat} (hi : cdf q.2.2.2.2.2.2 pc = some (.new j, 3)) (hp : pc + 3 = pc2) (hn : P_nw q.2.2.2.2.1 j = some ci) (hz : P_sz ci = n) (h1 : ck + 1 ≤ mc) (h2 : sk + n ≤ ms) (h : ∀ b, mT M b = 0 → V pc2 lv (.ref b :: r) (sN M b (ci + 1) n) (ck + 1) (sk + n)) : V pc lv r M ck sk := by
  subst hp; subst hz; exact C _ _ _ _ _ _ ⟨_, _, hi, Or.inr (Or.inr (Or.inr (Or.inr (Or.inr (Or.inr (Or.inl (Or.inr (Or.inr (Or.inr (Or.inr (Or.inl (⟨_, rfl, rfl, Or.inr ⟨_, hn, h1, h2, h⟩⟩))))))))))))⟩
theorem k_newarr (C : Cl d q mc ms Post V) {t : ArrayType} {tt n : Nat} {z : Int32} (hi : cdf q.2.2.2.2.2.2 pc = some (.newarray t, 2)) (hp : pc + 2 = pc2) (ht : t = .int ∧ tt = 0 ∨ t = .long ∧ tt = 1 ∨ t = .byte ∧ tt = 2) (h0 : ¬ z < 0) (hn : z.toNatClampNeg = n) (hz : n ≤ 10000) (h1 : ck + 1 ≤ mc) (h2 : sk + n ≤ ms) (h : ∀ b, mT M b = 0 → V pc2 lv (.ref b :: r) (sN M b (20 + tt) n) (ck + 1) (sk + n)) : V pc lv (.int z :: r) M ck sk := by
  subst hp; subst hn; exact C _ _ _ _ _ _ ⟨_, _, hi, Or.inr (Or.inr (Or.inr (Or.inr (Or.inr (Or.inr (Or.inl (Or.inr (Or.inr (Or.inr (Or.inr (Or.inr (Or.inl (⟨_, rfl, rfl, _, _, rfl, tt, ht, h0, hz, h1, h2, h⟩)))))))))))))⟩
theorem k_anew (C : Cl d q mc ms Post V) {j tt ci n : Nat} {z : Int32} (hi : cdf q.2.2.2.2.2.2 pc = some (.anewarray j, 3)) (hp : pc + 3 = pc2) (hn9 : P_nw q.2.2.2.2.1 j = some ci) (ht : tt = 3 ∧ ci = 2 ∨ tt = 4 ∧ ci = 9 ∨ tt = 5 ∧ ci = 7) (h0 : ¬ z < 0) (hn : z.toNatClampNeg = n) (hz : n ≤ 10000) (h1 : ck + 1 ≤ mc) (h2 : sk + n ≤ ms) (h : ∀ b, mT M b = 0 → V pc2 lv (.ref b :: r) (sN M b (20 + tt) n) (ck + 1) (sk + n)) : V pc lv (.int z :: r) M ck sk := by
  subst hp; subst hn; exact C _ _ _ _ _ _ ⟨_, _, hi, Or.inr (Or.inr (Or.inr (Or.inr (Or.inr (Or.inr (Or.inl (Or.inr (Or.inr (Or.inr (Or.inr (Or.inr (Or.inr (Or.inl (⟨_, rfl, rfl, _, _, rfl, tt, ci, hn9, ht, h0, hz, h1, h2, h⟩))))))))))))))⟩
theorem k_objinit (C : Cl d q mc ms Post V) {j a : Nat} (hi : cdf q.2.2.2.2.2.2 pc = some (.invokespecial j, 3)) (hp : pc + 3 = pc2) (ho : P_oi q.2.2.2.2.1 j = true) (hc : (r.map fun v => v.category).sum ≤ 8) (h : V pc2 lv r M ck sk) : V pc lv (.ref a :: r) M ck sk := by
  subst hp; exact C _ _ _ _ _ _ ⟨_, _, hi, Or.inr (Or.inr (Or.inr (Or.inr (Or.inr (Or.inr (Or.inl (Or.inr (Or.inr (Or.inr (Or.inr (Or.inr (Or.inr (Or.inr (Or.inr (Or.inr (⟨_, rfl, rfl, Or.inl ⟨_, _, ho, rfl, hc, h⟩⟩))))))))))))))))⟩
theorem k_callV (C : Cl d q mc ms Post V) {j k na b : Nat} {as st9 : List Value} (hi : cdf q.2.2.2.2.2.2 pc = some (.invokevirtual j, 3)) (hp : pc + 3 = pc2) (hm : P_mt q.2.2.2.2.1 j = some (0, k, na)) (hs : st9 = as.reverse ++ .ref b :: r) (hl : as.length = na) (hy : ∃ y, P_mq k = some y ∧ y.2.2.2.2.2.1 = [] ∧ mT M b = y.2.2.2.2.1 + 1 ∧ y.2.2.2.2.1 < 13) {mc' ms' ck2 sk2 : Nat} {P' : Po} (hE : Ex d k (.ref b :: as) M mc' ms' P') (h1 : ck + mc' = ck2) (h2 : sk + ms' = sk2) (h3 : ck2 ≤ mc) (h4 : sk2 ≤ ms) (hc : (r.map fun v => v.category).sum ≤ 8) (hr : ∀ v M', P' (.inl v) M' → V pc2 lv (v.toList ++ r) M' ck2 sk2) (hx : ∀ e M', P' (.inr e) M' → e < 5 ∧ ((q.2.2.2.2.2.1 = [] ∧ Post (.inr e) M') ∨ ∃ h, hnd q pc e = some h ∧ ∀ b, V h lv [.ref b] M' ck2 sk2)) : V pc lv st9 M ck sk := by
  subst h1; subst h2; subst hp
  exact C _ _ _ _ _ _ ⟨_, _, hi, Or.inr (Or.inr (Or.inr (Or.inr (Or.inr (Or.inr (Or.inl (Or.inr (Or.inr (Or.inr (Or.inr (Or.inr (Or.inr (Or.inr (Or.inl (⟨_, rfl, rfl, ⟨_, _, _, _, _, hm, hs, hl, hy, _, _, _, hE, h3, h4, hc, hr, hx⟩⟩)))))))))))))))⟩
theorem k_callI (C : Cl d q mc ms Post V) {j k na b : Nat} {as st9 : List Value} (hi : cdf q.2.2.2.2.2.2 pc = some (.invokespecial j, 3)) (hp : pc + 3 = pc2) (hm : P_mt q.2.2.2.2.1 j = some (2, k, na)) (hs : st9 = as.reverse ++ .ref b :: r) (hl : as.length = na) (hy : ∃ y, P_mq k = some y ∧ y.2.2.2.2.2.1 = [] ∧ y.2.2.2.1 = none) {mc' ms' ck2 sk2 : Nat} {P' : Po} (hE : Ex d k (.ref b :: as) M mc' ms' P') (h1 : ck + mc' = ck2) (h2 : sk + ms' = sk2) (h3 : ck2 ≤ mc) (h4 : sk2 ≤ ms) (hc : (r.map fun v => v.category).sum ≤ 8) (hr : ∀ v M', P' (.inl v) M' → V pc2 lv (v.toList ++ r) M' ck2 sk2) (hx : ∀ e M', P' (.inr e) M' → e < 5 ∧ ((q.2.2.2.2.2.1 = [] ∧ Post (.inr e) M') ∨ ∃ h, hnd q pc e = some h ∧ ∀ b, V h lv [.ref b] M' ck2 sk2)) : V pc lv st9 M ck sk := by
  subst h1; subst h2; subst hp
  exact C _ _ _ _ _ _ ⟨_, _, hi, Or.inr (Or.inr (Or.inr (Or.inr (Or.inr (Or.inr (Or.inl (Or.inr (Or.inr (Or.inr (Or.inr (Or.inr (Or.inr (Or.inr (Or.inr (Or.inr (⟨_, rfl, rfl, Or.inr ⟨_, _, _, _, _, hm, hs, hl, hy, _, _, _, hE, h3, h4, hc, hr, hx⟩⟩))))))))))))))))⟩
theorem k_callS (C : Cl d q mc ms Post V) {j k na : Nat} {as st9 : List Value} (hi : cdf q.2.2.2.2.2.2 pc = some (.invokestatic j, 3)) (hp : pc + 3 = pc2) (hm : P_mt q.2.2.2.2.1 j = some (1, k, na)) (hs : st9 = as.reverse ++ r) (hl : as.length = na) {mc' ms' ck2 sk2 : Nat} {P' : Po} (hE : Ex d k as M mc' ms' P') (h1 : ck + mc' = ck2) (h2 : sk + ms' = sk2) (h3 : ck2 ≤ mc) (h4 : sk2 ≤ ms) (hc : (r.map fun v => v.category).sum ≤ 8) (hr : ∀ v M', P' (.inl v) M' → V pc2 lv (v.toList ++ r) M' ck2 sk2) (hx : ∀ e M', P' (.inr e) M' → e < 5 ∧ ((q.2.2.2.2.2.1 = [] ∧ Post (.inr e) M') ∨ ∃ h, hnd q pc e = some h ∧ ∀ b, V h lv [.ref b] M' ck2 sk2)) : V pc lv st9 M ck sk := by
  subst h1; subst h2; subst hp
  exact C _ _ _ _ _ _ ⟨_, _, hi, Or.inr (Or.inr (Or.inr (Or.inr (Or.inr (Or.inr (Or.inl (Or.inr (Or.inr (Or.inr (Or.inr (Or.inr (Or.inr (Or.inr (Or.inr (Or.inl (⟨_, rfl, rfl, ⟨_, _, _, _, hm, hs, hl, _, _, _, hE, h3, h4, hc, hr, hx⟩⟩))))))))))))))))⟩
theorem k_iret (C : Cl d q mc ms Post V) {x : Int32} (hi : cdf q.2.2.2.2.2.2 pc = some (.ireturn, 1)) (hy : q.2.2.2.1 = some .int ∨ q.2.2.2.1 = some .boolean ∧ (x = 0 ∨ x = 1)) (h1 : ck ≤ mc) (h2 : sk ≤ ms) (h : Post (.inl (some (.int x))) M) : V pc lv [.int x] M ck sk := C _ _ _ _ _ _ ⟨_, _, hi, Or.inr (Or.inr (Or.inr (Or.inr (Or.inr (Or.inr (Or.inr (Or.inl (Or.inl (⟨rfl, rfl, _, rfl, hy, h1, h2, h⟩)))))))))⟩
theorem k_lret (C : Cl d q mc ms Post V) {x : Int64} (hi : cdf q.2.2.2.2.2.2 pc = some (.lreturn, 1)) (hy : q.2.2.2.1 = some .long) (h1 : ck ≤ mc) (h2 : sk ≤ ms) (h : Post (.inl (some (.long x))) M) : V pc lv [.long x] M ck sk := C _ _ _ _ _ _ ⟨_, _, hi, Or.inr (Or.inr (Or.inr (Or.inr (Or.inr (Or.inr (Or.inr (Or.inl (Or.inr (Or.inl (⟨rfl, rfl, _, rfl, hy, h1, h2, h⟩))))))))))⟩
theorem k_aret (C : Cl d q mc ms Post V) {x : Option Nat} (hi : cdf q.2.2.2.2.2.2 pc = some (.areturn, 1)) (hy : (∃ n, q.2.2.2.1 = some (.object n)) ∨ ∃ t, q.2.2.2.1 = some (.array t)) (h1 : ck ≤ mc) (h2 : sk ≤ ms) (h : Post (.inl (some (va_rf x))) M) : V pc lv [va_rf x] M ck sk := C _ _ _ _ _ _ ⟨_, _, hi, Or.inr (Or.inr (Or.inr (Or.inr (Or.inr (Or.inr (Or.inr (Or.inl (Or.inr (Or.inr (Or.inl (⟨rfl, rfl, _, rfl, hy, h1, h2, h⟩)))))))))))⟩
theorem k_vret (C : Cl d q mc ms Post V) (hi : cdf q.2.2.2.2.2.2 pc = some (.return_, 1)) (hy : q.2.2.2.1 = none) (h1 : ck ≤ mc) (h2 : sk ≤ ms) (h : Post (.inl none) M) : V pc lv [] M ck sk := C _ _ _ _ _ _ ⟨_, _, hi, Or.inr (Or.inr (Or.inr (Or.inr (Or.inr (Or.inr (Or.inr (Or.inl (Or.inr (Or.inr (Or.inr (⟨rfl, rfl, rfl, hy, h1, h2, h⟩)))))))))))⟩
theorem k_table (C : Cl d q mc ms Post V) {dd lo hi9 : Int} {offs : Array Int} {n : Nat} {x : Int32} (hi : cdf q.2.2.2.2.2.2 pc = some (.tableswitch dd lo hi9 offs, n)) (h0 : 0 ≤ (pc : Int) + dd) (h1 : x.toInt < lo ∨ hi9 < x.toInt → V (tg pc dd) lv r M ck sk) (h2 : ¬ x.toInt < lo → ¬ hi9 < x.toInt → ∃ off, offs[(x.toInt - lo).toNat]? = some off ∧ 0 ≤ (pc : Int) + off ∧ V (tg pc off) lv r M ck sk) : V pc lv (.int x :: r) M ck sk := C _ _ _ _ _ _ ⟨_, _, hi, Or.inr (Or.inr (Or.inr (Or.inr (Or.inr (Or.inl (Or.inr (Or.inr (Or.inl (⟨_, _, _, _, rfl, _, _, rfl, h0, h1, h2⟩)))))))))⟩
theorem k_mna (C : Cl d q mc ms Post V) {z y : Int32} {nz ny ck2 sk2 : Nat} (hi : cdf q.2.2.2.2.2.2 pc = some (.multianewarray 21 2, 4)) (hp : pc + 4 = pc2) (ho : q.2.2.2.2.1 = 5) (h0 : ¬ z < 0) (h1 : ¬ y < 0) (hz : z.toNatClampNeg = nz) (hy : y.toNatClampNeg = ny) (h2 : nz ≤ 1000) (h3 : ny ≤ 1000) (e1 : ck + (1 + nz) = ck2) (e2 : sk + (nz + nz * ny) = sk2) (h4 : ck2 ≤ mc) (h5 : sk2 ≤ ms) (h : ∀ b, (∀ c, b ≤ c → mT M c = 0) → V pc2 lv (.ref b :: r) (sMN M b nz ny) ck2 sk2) : V pc lv (.int y :: .int z :: r) M ck sk := by
  subst hp; subst hz; subst hy; subst e1; subst e2; exact C _ _ _ _ _ _ ⟨_, _, hi, Or.inr (Or.inr (Or.inr (Or.inr (Or.inr (Or.inr (Or.inr (Or.inr (Or.inl ⟨rfl, rfl, ho, _, _, _, rfl, h0, h1, h2, h3, h4, h5, h⟩))))))))⟩
theorem k_callN (C : Cl d q mc ms Post V) {j k b : Nat} (hi : cdf q.2.2.2.2.2.2 pc = some (.invokespecial j, 3)) (hp : pc + 3 = pc2) (hm : P_ni q.2.2.2.2.1 j = some k) {mc' ms' ck2 sk2 : Nat} {P' : Po} (hE : Ex d k [.ref b] M mc' ms' P') (h1 : ck + mc' = ck2) (h2 : sk + ms' = sk2) (h3 : ck2 ≤ mc) (h4 : sk2 ≤ ms) (hc : (r.map fun v => v.category).sum ≤ 8) (hr : ∀ v M', P' (.inl v) M' → V pc2 lv (v.toList ++ r) M' ck2 sk2) (hx : ∀ e M', P' (.inr e) M' → e < 5 ∧ ((q.2.2.2.2.2.1 = [] ∧ Post (.inr e) M') ∨ ∃ h, hnd q pc e = some h ∧ ∀ b, V h lv [.ref b] M' ck2 sk2)) : V pc lv (.ref b :: r) M ck sk := by
  subst h1; subst h2; subst hp
  exact C _ _ _ _ _ _ ⟨_, _, hi, Or.inr (Or.inr (Or.inr (Or.inr (Or.inr (Or.inr (Or.inr (Or.inr (Or.inr ⟨_, rfl, rfl, _, _, _, hm, rfl, _, _, _, hE, h3, h4, hc, hr, hx⟩))))))))⟩
end Rules
end
-- 14.law.lean.txt
section
/-! THE CLAIM OUT OF ONE WALK OF THE LAW'S BODY. Your part is whole_start (and what it stands on); all else here is the same for every law, but numbers. -/
def R_law : String := "LetterFormsLaw"
def lw_P (b : Addr) (xs : List Int32) (args : Array Value) (s : State) : Prop := args = #[.ref b] ∧ s.IntsAt b xs ∧ xs.length ≤ 3072 ∧ (Jvm.Cond.and given_1 narrow_1).before args s = true
def lw_Q (_ : Array Value) (s : State) (o : Outcome) (t : State) : Prop := o = .returned (some (.int 1)) ∧ Framed s o t [] 601024 7293033
def lw_Z (below : List Frame) (a : Array Value) (s : State) : State → Prop := fun t => ∃ o, t.status = .running ∧ Ended t below o ∧ lw_Q a s o t
/-- the law's own end, with 1 on the stack, nothing written that was there before, its room as the claim has it -/
theorem lw_ret {p : Program} {l : Launch} {e : Env} {s : State} {m : MethodId} {below : List Frame} {meth : Method} {c : Code} {b : Nat} (hx : p.tables.exec = Jvm.exec) (hb : c.code = code) (hr : meth.sig.returnType = ret) (hlocks : meth.locks = false) {pc : Nat} {H : Heap} {ls : Array Slot} (hdg : decode code pc = .ok (.ireturn, 1)) : W p l e room_1 s m #[Value.ref b] below meth c H [] 601024 7293033 (lw_Z below #[Value.ref b] s) (F0 m pc ls [.int 1]) := by
  intro T hT X
  obtain ⟨fs, hret, hrun, hended, hW, hframe⟩ := X.leave (v := some (.int 1)) (hlocks := hlocks) (fun h => by rw [hr] at h; cases h)
  have hmeth' : T.vm.method? m = some meth := X.method'
  refine ⟨T.setFrames fs, ?_, .returned (some (.int 1)), hrun, hended, rfl, ⟨_, rfl⟩, hW, hframe⟩
  jvm_step X.here [X.here.top, hx, hb, hdg, hmeth', hr, ret, narrow_b1]
  (try refine ⟨rfl, ?_⟩); (try refine ⟨rfl, ?_⟩)
  first | (intro acts; rw [hret _ acts rfl rfl rfl]) | rw [hret _ _ rfl rfl rfl]
  exact Steps.refl _
/-- what holds at the law's entry: the machine, the code, the tables' words (any of lw_tbl by 'hts w (by decide +kernel)'), the script of L ints xs at the cell b, what the Statement gives of the start (any of its parts by flat_of_before) -/
def lw_At (p : Program) (s : State) (m : MethodId) (meth : Method) (c : Code) (b L : Nat) (xs : Nat → Int32) : Prop :=
  p.tables.exec = Jvm.exec ∧ c.code = code ∧ meth.sig.returnType = ret ∧ c.maxLocals = 8 ∧ s.vm.findClass R_law = some m.cls ∧ (∀ w ∈ lw_tbl, w.before #[Value.ref b] s = true) ∧ va_X b L xs s s.heap ∧ b < s.heap.size ∧ meth.locks = false ∧ (Jvm.Cond.and given_1 narrow_1).before #[Value.ref b] s = true

/-! the law's own body over the pure machine gives whole_start -/
def q_law : mm_T := (x, code, 8, some .boolean, 13, [], clL_law)
def SB (V : V_T) : Prop := ∀ pc lv lw st M ck sk, (∀ z ∈ lw, z ∈ lv) → V pc lw st M ck sk → V pc lv st M ck sk
def LSc (V : V_T) (b L : Nat) (xs : Nat → Int32) : Prop := (∀ pc lv r M ck sk (j : Int32), cdf clL_law pc = some (.iaload, 1) → vp_in j L → V (pc + 1) lv (.int (xs j.toNatClampNeg) :: r) M ck sk → V pc lv (.int j :: .ref b :: r) M ck sk) ∧ (∀ pc lv r M ck sk, cdf clL_law pc = some (.arraylength, 1) → V (pc + 1) lv (.int (Int32.ofNat L) :: r) M ck sk → V pc lv (.ref b :: r) M ck sk)
def M0 : Mm := (fun _ => 0, fun _ => 0, fun _ _ => 0, fun _ _ => 0, fun _ _ => none)
def law_Po : Po := fun o _ => o = .inl (some (.int 1))
def Law_ok (d : Nat) : Prop := ∀ (b L : Nat) (xs : Nat → Int32), L ≤ 3072 → ∀ V : V_T, Cl d q_law 601024 7293033 law_Po V → SB V → LSc V b L xs → V 0 [(0, .ref b)] [] M0 0 0
theorem arrOver_A {args : Array Value} {first s : State} {o : Option Outcome} {idx : List Nat} {t : FieldType} (h : (Cond.arrayOver (.array t)).holds args first o s idx = true) :
    ∃ comp c k, s.vm.findClass (FieldType.array t).toString = some comp ∧ s.vm.classes[c]? = some k ∧ k.kind = .array comp (.array t) ∧ s.vm.findClass ("[" ++ (FieldType.array t).toString) = some c := by
  simp only [Cond.holds, Cond.value, beq_iff_eq] at h
  cases hc : s.vm.findClass (FieldType.array t).toString with
  | none => simp [hc] at h
  | some comp =>
    simp only [hc, Option.bind_some, Option.bind_eq_some_iff, Option.map_eq_some_iff] at h
    obtain ⟨c, hi, k, hk, hb⟩ := h
    obtain ⟨hlt, hp, -⟩ := Array.findIdx?_eq_some_iff_getElem.mp hi
    have hkk : s.vm.classes[c] = k := (Array.getElem?_eq_some_iff.mp hk).2
    rw [hkk] at hp
    cases hkind : k.kind with
    | array component ty =>
      rw [hkind] at hb hp
      simp at hb hp
      exact ⟨comp, c, k, rfl, hk, by rw [hkind, hp, hb.1], hb.2⟩
    | _ => rw [hkind] at hb; simp at hb
theorem nw_all : ∀ k, k < 13 → ∃ o i, P_nw o i = some k := by
  intro k hk
  match k, hk with
  | 0, _ => exact ⟨11, 30, rfl⟩
  | 1, _ => exact ⟨11, 39, rfl⟩
  | 2, _ => exact ⟨11, 78, rfl⟩
  | 3, _ => exact ⟨11, 64, rfl⟩
  | 4, _ => exact ⟨11, 9, rfl⟩
  | 5, _ => exact ⟨11, 48, rfl⟩
  | 6, _ => exact ⟨11, 57, rfl⟩
  | 7, _ => exact ⟨4, 9, rfl⟩
  | 8, _ => exact ⟨11, 16, rfl⟩
  | 9, _ => exact ⟨8, 32, rfl⟩
  | 10, _ => exact ⟨11, 71, rfl⟩
  | 11, _ => exact ⟨13, 8, rfl⟩
  | 12, _ => exact ⟨13, 135, rfl⟩
theorem exL_own : ∀ e ∈ exL, e.1 = 11 := by decide
set_option maxRecDepth 20000 in
set_option maxHeartbeats 4000000 in
theorem law_bridge {d : Nat} (hd : d ≤ 1000) (h : Law_ok d) {p : Program} {e : Env} {s : State} {m : MethodId} {below : List Frame} {meth : Method} {c : Code} (l : Launch) (hflags : l.flags = flags0) {b L : Nat} {xs : Nat → Int32} (hL : L ≤ 3072) (C0 : lw_At p s m meth c b L xs) : W p l e room_1 s m #[Value.ref b] below meth c s.heap [] 0 0 (lw_Z below #[Value.ref b] s) (entryFrame m ([Value.ref b] : List Value).toArray 8) := by
  obtain ⟨hx, hb, hr, hml, hown, hts, hX, hbl, hlocks, hgv⟩ := id C0
  have hst : l.stackTraces = false := by unfold Launch.stackTraces; rw [hflags]; decide
  have htsL : ∀ w ∈ wsL_law, w.before #[Value.ref b] s = true := fun w hw => hts w (wsL_law_in w hw)
  have hbA : ¬ (fun a : Nat => s.heap.size ≤ a) b := Nat.not_le.mpr hbl
  have h1 : ∀ k : Nat, ∃ z : ClassId × (Nat → Nat), ∀ q, vwCl[k]? = some q → u_Kn s q.1 q.2.1 q.2.2 z.1 z.2 := by
    intro k
    by_cases hk : k < 13
    · obtain ⟨o, i, hoi⟩ := nw_all k hk
      obtain ⟨C, T, N, e1, e2, e3, e4⟩ := P_nw_ok hoi
      obtain ⟨cC, iS, hK⟩ := u_known (C := C) (T := T) (N := N) (n := N) htsL (vwCl_ok k _ e1).1 (htsL _ e3)
      exact ⟨(cC, iS), fun q hq => by cases e1.symm.trans hq; exact hK⟩
    · exact ⟨(m.cls, fun _ => 0), fun q hq => absurd (List.getElem?_eq_some_iff.mp hq).1 (by simpa [vwCl] using hk)⟩
  obtain ⟨z, hz⟩ := Classical.skolem.mp h1
  obtain ⟨c0, k0, p0, a01, a02, a03⟩ := Cond.arrayClass_spec (htsL _ wArr_int)
  obtain ⟨c1, k1, p1, a11, a12, a13⟩ := Cond.arrayClass_spec (htsL _ wArr_long)
  obtain ⟨c2, k2, p2, a21, a22, a23⟩ := Cond.arrayClass_spec (htsL _ wArr_byte)
  have o3 : (Cond.arrayOver (.object RX2)).before #[Value.ref b] s = true := hts _ (tin1 _ (List.mem_of_getElem? (i := 89) rfl))
  have o4 : (Cond.arrayOver (.object RX9)).before #[Value.ref b] s = true := hts _ (tin1 _ (List.mem_of_getElem? (i := 108) rfl))
  have o5 : (Cond.arrayOver (.object RX7)).before #[Value.ref b] s = true := hts _ (tin1 _ (List.mem_of_getElem? (i := 110) rfl))
  have o6 : (Cond.arrayOver (.array .int)).before #[Value.ref b] s = true := hts _ (tin1 _ (List.mem_of_getElem? (i := 237) rfl))
  obtain ⟨p3, c3, k3, a31, -, a32, a33, a34⟩ := Cond.arrayOver_spec o3
  obtain ⟨p4, c4, k4, a41, -, a42, a43, a44⟩ := Cond.arrayOver_spec o4
  obtain ⟨p5, c5, k5, a51, -, a52, a53, a54⟩ := Cond.arrayOver_spec o5
  obtain ⟨p6, c6, k6, a61, a62, a63, a64⟩ := arrOver_A o6
  obtain ⟨cA, hcA⟩ : ∃ cA : Nat → ClassId, cA 0 = c0 ∧ cA 1 = c1 ∧ cA 2 = c2 ∧ cA 3 = c3 ∧ cA 4 = c4 ∧ cA 5 = c5 ∧ cA 6 = c6 := ⟨fun k => match k with | 0 => c0 | 1 => c1 | 2 => c2 | 3 => c3 | 4 => c4 | 5 => c5 | _ => c6, rfl, rfl, rfl, rfl, rfl, rfl, rfl⟩
  obtain ⟨g0, g1, g2, g3, g4, g5, g6⟩ := hcA
  have hK : va_K (fun k => (z k).1, fun k => (z k).2) vwCl (tysA cA) s := by
    refine ⟨fun k q hq => hz k q hq, fun k q hq => ?_⟩
    match k, hq with
    | 0, hq => cases hq; rw [g0]; exact ⟨fun N w => ⟨(fun k h => by cases h), k0, a02, p0, a03⟩, a01⟩
    | 1, hq => cases hq; rw [g1]; exact ⟨fun N w => ⟨(fun k h => by cases h), k1, a12, p1, a13⟩, a11⟩
    | 2, hq => cases hq; rw [g2]; exact ⟨fun N w => ⟨(fun k h => by cases h), k2, a22, p2, a23⟩, a21⟩
    | 3, hq => cases hq; rw [g3]; exact ⟨fun N w => ⟨(fun k h => by cases h), k3, a32, p3, a33⟩, k3, p3, a32, a33, a31, a34⟩
    | 4, hq => cases hq; rw [g4]; exact ⟨fun N w => ⟨(fun k h => by cases h), k4, a42, p4, a43⟩, k4, p4, a42, a43, a41, a44⟩
    | 5, hq => cases hq; rw [g5]; exact ⟨fun N w => ⟨(fun k h => by cases h), k5, a52, p5, a53⟩, k5, p5, a52, a53, a51, a54⟩
    | 6, hq => cases hq; rw [g6]; exact ⟨fun N w => ⟨(fun k h => by cases h), k6, a62, p6, a63⟩, a64⟩
    | k + 7, hq => simp [tysA] at hq
  have hini : (Cond.initialized "java/lang/Throwable").before #[Value.ref b] s = true := hts _ (tin1 _ (List.mem_of_getElem? (i := 14) rfl))
  have hfl := flat_of_before _ hgv
  have hz1 : vx_Zq Bundle.tN "UNASSIGNED_STACK" Bundle.steD (fun q => s.heap.size ≤ q) s s.heap := vx_Zqof (hts _ (tin3 _ (List.mem_of_getElem? (i := 85) rfl))) hini (hfl _ (by decide +kernel)) (fun a ha => Nat.not_le.mpr ha)
  have hz2 : vx_Zq Bundle.tN "SUPPRESSED_SENTINEL" Bundle.listD (fun q => s.heap.size ≤ q) s s.heap := vx_Zqof (hts _ (tin3 _ (List.mem_of_getElem? (i := 87) rfl))) hini (hfl _ (by decide +kernel)) (fun a ha => Nat.not_le.mpr ha)
  have d1 : va_Nw (Cond.declares (Bundle.init0 "java/lang/RuntimeException")) s := va_tabs rfl rfl (hts _ (tin3 _ (List.mem_of_getElem? (i := 61) rfl)))
  have d2 : va_Nw (Cond.declares (Bundle.init0 "java/lang/Exception")) s := va_tabs rfl rfl (hts _ (tin3 _ (List.mem_of_getElem? (i := 63) rfl)))
  have d3 : va_Nw (Cond.declares (Bundle.init0 Bundle.tN)) s := va_tabs rfl rfl (hts _ (tin3 _ (List.mem_of_getElem? (i := 65) rfl)))
  have hc0 : va_Nw (Cond.castable (P_ex 0) (P_ex 0)) s := va_tabs rfl rfl (hts _ (tin3 _ (List.mem_of_getElem? (i := 60) rfl)))
  have hc1 : va_Nw (Cond.castable (P_ex 1) (P_ex 1)) s := va_tabs rfl rfl (hts _ (tin3 _ (List.mem_of_getElem? (i := 125) rfl)))
  have hc2 : va_Nw (Cond.castable (P_ex 2) (P_ex 2)) s := va_tabs rfl rfl (hts _ (tin3 _ (List.mem_of_getElem? (i := 156) rfl)))
  have hc3 : va_Nw (Cond.castable (P_ex 3) (P_ex 3)) s := va_tabs rfl rfl (hts _ (tin4 _ (List.mem_of_getElem? (i := 44) rfl)))
  have hc4 : va_Nw (Cond.castable (P_ex 4) (P_ex 4)) s := va_tabs rfl rfl (hts _ (tin6 _ (List.mem_of_getElem? (i := 51) rfl)))
  have hng : ∀ e, e < 5 → ∀ w ∈ P_ng e, va_Nw w s := by
    intro e he w hw
    simp only [P_ng, List.mem_cons, List.not_mem_nil, or_false] at hw
    rcases hw with rfl | rfl | rfl | rfl
    · exact d1
    · exact d2
    · exact d3
    · match e, he with
      | 0, _ => exact hc0
      | 1, _ => exact hc1
      | 2, _ => exact hc2
      | 3, _ => exact hc3
      | 4, _ => exact hc4
  have hnc : ∀ e e', e < 5 → e' < 5 → e ≠ e' → va_Nc (P_ex e) (P_ex e') s := by
    intro e e' h1 h2 h3
    match e, e', h1, h2, h3 with
    | 0, 0, _, _, h3 => exact absurd rfl h3
    | 0, 1, _, _, h3 => exact va_Nc.of (hfl _ (by decide +kernel))
    | 0, 2, _, _, h3 => exact va_Nc.of (hfl _ (by decide +kernel))
    | 0, 3, _, _, h3 => exact va_Nc.of (hfl _ (by decide +kernel))
    | 0, 4, _, _, h3 => exact va_Nc.of (hfl _ (by decide +kernel))
    | 1, 0, _, _, h3 => exact va_Nc.of (hfl _ (by decide +kernel))
    | 1, 1, _, _, h3 => exact absurd rfl h3
    | 1, 2, _, _, h3 => exact va_Nc.of (hfl _ (by decide +kernel))
    | 1, 3, _, _, h3 => exact va_Nc.of (hfl _ (by decide +kernel))
    | 1, 4, _, _, h3 => exact va_Nc.of (hfl _ (by decide +kernel))
    | 2, 0, _, _, h3 => exact va_Nc.of (hfl _ (by decide +kernel))
    | 2, 1, _, _, h3 => exact va_Nc.of (hfl _ (by decide +kernel))
    | 2, 2, _, _, h3 => exact absurd rfl h3
    | 2, 3, _, _, h3 => exact va_Nc.of (hfl _ (by decide +kernel))
    | 2, 4, _, _, h3 => exact va_Nc.of (hfl _ (by decide +kernel))
    | 3, 0, _, _, h3 => exact va_Nc.of (hfl _ (by decide +kernel))
    | 3, 1, _, _, h3 => exact va_Nc.of (hfl _ (by decide +kernel))
    | 3, 2, _, _, h3 => exact va_Nc.of (hfl _ (by decide +kernel))
    | 3, 3, _, _, h3 => exact absurd rfl h3
    | 3, 4, _, _, h3 => exact va_Nc.of (hfl _ (by decide +kernel))
    | 4, 0, _, _, h3 => exact va_Nc.of (hfl _ (by decide +kernel))
    | 4, 1, _, _, h3 => exact va_Nc.of (hfl _ (by decide +kernel))
    | 4, 2, _, _, h3 => exact va_Nc.of (hfl _ (by decide +kernel))
    | 4, 3, _, _, h3 => exact va_Nc.of (hfl _ (by decide +kernel))
    | 4, 4, _, _, h3 => exact absurd rfl h3
  have hnst : ∀ e ∈ niL, va_Nw (.methodLinkNest (P_ow e.1) e.2.1 (nn_y e.2.2) RX11) s := by
    intro e he
    simp only [niL, List.mem_cons, List.not_mem_nil, or_false] at he
    rcases he with rfl | rfl | rfl | rfl | rfl | rfl | rfl | rfl
    · exact va_tabs rfl rfl (hts _ (tin1 _ (List.mem_of_getElem? (i := 35) rfl)))
    · exact va_tabs rfl rfl (hts _ (tin1 _ (List.mem_of_getElem? (i := 41) rfl)))
    · exact va_tabs rfl rfl (hts _ (tin1 _ (List.mem_of_getElem? (i := 112) rfl)))
    · exact va_tabs rfl rfl (hts _ (tin1 _ (List.mem_of_getElem? (i := 141) rfl)))
    · exact va_tabs rfl rfl (hts _ (tin1 _ (List.mem_of_getElem? (i := 190) rfl)))
    · exact va_tabs rfl rfl (hts _ (tin1 _ (List.mem_of_getElem? (i := 209) rfl)))
    · exact va_tabs rfl rfl (hts _ (tin2 _ (List.mem_of_getElem? (i := 91) rfl)))
    · exact va_tabs rfl rfl (hts _ (tin2 _ (List.mem_of_getElem? (i := 121) rfl)))
  have hKK : KK (fun k => (z k).1, fun k => (z k).2) cA s.heap.size s := ⟨hK, hz1, hz2, hng, hnc, va_AO.of o3, va_AO.of o4, va_AO.of o5, va_AOA.of o6, hnst⟩
  have X : Cx p l room_1 s m #[Value.ref b] meth c (fun k => (z k).1, fun k => (z k).2) cA s.heap.size d q_law 601024 7293033 := ⟨⟨hx, hb, hml, hown, htsL⟩, hKK, Nat.le_refl _, hst, hlocks, by show d + 13 ≤ 2048; omega, by show 60 * d + 260 ≤ 84000; omega, rfl, rfl, fun h => absurd h (by decide), okL_law⟩
  have hR : Rp (fun k => (z k).1, fun k => (z k).2) cA s.heap.size M0 s.heap := ⟨Nat.le_refl _, fun a ha => absurd rfl ha⟩
  have hl := lv_entry ([.ref b]) (n := 8) (Nat.le_of_ble_eq_true rfl)
  rw [lg_entry_eq]
  generalize (lg_sl ([.ref b]) ++ List.replicate (8 - (lg_sl ([.ref b])).length) Slot.unset).toArray = ls at hl ⊢
  have hl : lv_has ls 8 [(0, .ref b)] := hl
  refine h b L xs hL (VV p l e room_1 s m #[Value.ref b] below meth c (fun k => (z k).1, fun k => (z k).2) cA s.heap.size q_law (lw_Z below #[Value.ref b] s)) (vv_step X ?_ (Ex_sound l hst _ cA s.heap.size d) ⟨?_, ?_, ?_, ?_⟩ ?_) ?_ ⟨?_, ?_⟩ s.heap [] ls hR va_S.rf hl
  · intro ee M H locs ls lv pc ck sk rest q9 ce he hh
    rcases hh with ⟨-, hp⟩ | ⟨h9, hh9, -⟩
    · cases hp
    · cases hh9
  · intro pc lv x9 M ck sk hd9 hret h1 h2 hp H locs ls hP hS hl0
    cases hp
    exact va_forget hS.2.2 (W.widen h1 h2 (lw_ret hx hb hr hlocks hd9))
  · intro pc lv x9 M ck sk hd9 hret h1 h2 hp
    cases hp
  · intro pc lv x9 M ck sk hd9 hret h1 h2 hp
    cases x9 <;> cases hp
  · intro pc lv M ck sk hd9 hret h1 h2 hp
    cases hp
  · intro j ic ee pc lv st M ck sk hd9 hx9
    have h9 : (13 : Nat) = 11 := exL_own _ (tab_mem (α := Nat) (f := fun q => q.2.2) hx9)
    exact absurd h9 (by decide)
  · intro pc lv lw st M ck sk hs9 h9 H locs ls hP hS hl0
    exact h9 H locs ls hP hS ⟨hl0.1, hl0.2.1, fun z hz => hl0.2.2 z (hs9 z hz)⟩
  · intro pc lv r M ck sk j hcd hin hV H locs ls hP hS hl0
    have hd9 : decode cL_law pc = .ok (Instr.iaload, 1) := okL_law (pc, Instr.iaload, 1) (cdf_mem hcd)
    exact va_sld (cc := cL_law) hx hb hX hbl hbA hS hin hd9 (hV H locs ls hP hS hl0)
  · intro pc lv r M ck sk hcd hV H locs ls hP hS hl0
    have hd9 : decode cL_law pc = .ok (Instr.arraylength, 1) := okL_law (pc, Instr.arraylength, 1) (cdf_mem hcd)
    exact va_slen (cc := cL_law) hx hb hX hbl hbA hS hd9 (hV H locs ls hP hS hl0)
end
-- 15.wk.lean.txt
section
/-! rules over a memory in parts: tags, sizes, ints, longs, references -/
abbrev IT : Type := Nat → Nat → Int32
abbrev LT : Type := Nat → Nat → Int64
abbrev RT : Type := Nat → Nat → Option Nat
theorem u2_s {α : Type} {f : Nat → Nat → α} {a k : Nat} {x : α} : u2 f a k x a k = x := by simp [u2]
theorem u2_a {α : Type} {f : Nat → Nat → α} {a k b j : Nat} {x : α} (h : b ≠ a) : u2 f a k x b j = f b j := by simp [u2, h]
theorem u2_k {α : Type} {f : Nat → Nat → α} {a k b j : Nat} {x : α} (h : j ≠ k) : u2 f a k x b j = f b j := by simp [u2, h]
theorem u2_r {α : Type} {f : Nat → Nat → α} {a k b : Nat} {x : α} (h : b ≠ a) : u2 f a k x b = f b := by funext j; simp [u2, h]
def pI (T N : Nat → Nat) (R : RT) (Q : Int32 → IT → LT → Prop) : Po := fun o M => ∃ x I L, o = .inl (some (.int x)) ∧ M = (T, N, I, L, R) ∧ Q x I L
def pL (T N : Nat → Nat) (R : RT) (Q : Int64 → IT → LT → Prop) : Po := fun o M => ∃ x I L, o = .inl (some (.long x)) ∧ M = (T, N, I, L, R) ∧ Q x I L
def pR (T N : Nat → Nat) (R : RT) (Q : Option Nat → IT → LT → Prop) : Po := fun o M => ∃ x I L, o = .inl (some (va_rf x)) ∧ M = (T, N, I, L, R) ∧ Q x I L
def pV (T N : Nat → Nat) (R : RT) (Q : IT → LT → Prop) : Po := fun o M => ∃ I L, o = .inl none ∧ M = (T, N, I, L, R) ∧ Q I L
def pX (e : Nat) (T N : Nat → Nat) (R : RT) (Q : IT → LT → Prop) : Po := fun o M => ∃ I L, o = .inr e ∧ M = (T, N, I, L, R) ∧ Q I L
/-- ints and longs are changed at addresses of A alone -/
def Fr (A : Nat → Prop) (I : IT) (L : LT) (I' : IT) (L' : LT) : Prop := ∀ a, ¬ A a → I' a = I a ∧ L' a = L a
theorem Fr.rf {A : Nat → Prop} {I : IT} {L : LT} : Fr A I L I L := fun _ _ => ⟨rfl, rfl⟩
theorem Fr.tr {A : Nat → Prop} {I I1 I2 : IT} {L L1 L2 : LT} (h : Fr A I L I1 L1) (g : Fr A I1 L1 I2 L2) : Fr A I L I2 L2 := fun a ha => ⟨(g a ha).1.trans (h a ha).1, (g a ha).2.trans (h a ha).2⟩
theorem Fr.i {A : Nat → Prop} {I I1 : IT} {L L1 : LT} (h : Fr A I L I1 L1) {a k : Nat} {x : Int32} (ha : A a) : Fr A I L (u2 I1 a k x) L1 := fun b hb => ⟨(u2_r (fun e : b = a => hb (e.symm ▸ ha))).trans (h b hb).1, (h b hb).2⟩
theorem Fr.l {A : Nat → Prop} {I I1 : IT} {L L1 : LT} (h : Fr A I L I1 L1) {a k : Nat} {x : Int64} (ha : A a) : Fr A I L I1 (u2 L1 a k x) := fun b hb => ⟨(h b hb).1, (u2_r (fun e : b = a => hb (e.symm ▸ ha))).trans (h b hb).2⟩
theorem Fr.mono {A B : Nat → Prop} {I I1 : IT} {L L1 : LT} (h : Fr A I L I1 L1) (hs : ∀ a, A a → B a) : Fr B I L I1 L1 := fun b hb => h b (fun e => hb (hs b e))
theorem t_nq {T : Nat → Nat} {a b s t : Nat} (ha : T a = s) (hb : T b = t) (h : s ≠ t) : a ≠ b := fun e => h (by rw [← ha, ← hb, e])
/-! counters -/
theorem n_nat {n : Nat} (h : n < 2147483648) : (Int32.ofNat n).toNatClampNeg = n := Int32.toNatClampNeg_ofNat_of_lt h
theorem n_int {n : Nat} (h : n < 2147483648) : (Int32.ofNat n).toInt = n := Int32.toInt_ofNat_of_lt h
theorem n_lt {a b : Nat} (ha : a < 2147483648) (hb : b < 2147483648) : Int32.ofNat a < Int32.ofNat b ↔ a < b := by rw [Int32.lt_iff_toInt_lt, n_int ha, n_int hb]; omega
theorem n_le {a b : Nat} (ha : a < 2147483648) (hb : b < 2147483648) : Int32.ofNat a ≤ Int32.ofNat b ↔ a ≤ b := by rw [Int32.le_iff_toInt_le, n_int ha, n_int hb]; omega
theorem n_eq {a b : Nat} (ha : a < 2147483648) (hb : b < 2147483648) : Int32.ofNat a = Int32.ofNat b ↔ a = b := by rw [← Int32.toInt_inj, n_int ha, n_int hb]; omega
theorem n_nn {n : Nat} (h : n < 2147483648) : ¬ Int32.ofNat n < 0 := by rw [Int32.lt_iff_toInt_lt, n_int h]; simp
theorem n_s {n : Nat} : Int32.ofNat n + 1 = Int32.ofNat (n + 1) := (Int32.ofNat_add n 1).symm
theorem n_add {n m : Nat} : Int32.ofNat n + Int32.ofNat m = Int32.ofNat (n + m) := (Int32.ofNat_add n m).symm
theorem n_mul {n m : Nat} : Int32.ofNat n * Int32.ofNat m = Int32.ofNat (n * m) := (Int32.ofNat_mul n m).symm
theorem n_sub {n m : Nat} (h : m ≤ n) : Int32.ofNat n - Int32.ofNat m = Int32.ofNat (n - m) := by rw [Int32.sub_eq_iff_eq_add, n_add]; congr 1; omega
theorem vin {j : Int32} {n m : Nat} (hj : j = Int32.ofNat n) (h : n < m) (hm : m < 2147483648) : vp_in j m := by
  subst hj; rintro (h1 | h1)
  · exact n_nn (by omega) h1
  · rw [n_nat (by omega)] at h1; omega
section Parts
variable {d : Nat} {q : mm_T} {mc ms : Nat} {Post : Po} {V : V_T} {pc pc2 : Nat} {lv : List (Nat × Value)} {r : List Value} {ck sk : Nat} {T N : Nat → Nat} {I : IT} {L : LT} {R : RT}
theorem k_sub (S : SB V) {M : Mm} (lw : List (Nat × Value)) (hs : ∀ z ∈ lw, z ∈ lv) (h : V pc lw r M ck sk) : V pc lv r M ck sk := S _ _ _ _ _ _ _ hs h
theorem k_inc1 (C : Cl d q mc ms Post V) {M : Mm} {j : Nat} {x : Int32} {lw : List (Nat × Value)} (hi : cdf q.2.2.2.2.2.2 pc = some (.iinc j 1, 3)) (hp : pc + 3 = pc2) (hl : lk lv j = some (.int x)) (hj : j < q.2.2.1) (hw : s1 lv j (.int (x + 1)) = lw) (h : V pc2 lw r M ck sk) : V pc lv r M ck sk := k_iinc C hi hp hl hj rfl hw h
theorem g_I (C : Cl d q mc ms Post V) {j a ci k : Nat} {x : Int32} (hi : cdf q.2.2.2.2.2.2 pc = some (.getfield j, 3)) (hp : pc + 3 = pc2) (hf : P_fl q.2.2.2.2.1 j = some (ci, k)) (ht : T a = ci + 1) (hk : kt (P_ty ci k) = 0) (hv : I a k = x) (h : V pc2 lv (.int x :: r) (T, N, I, L, R) ck sk) : V pc lv (.ref a :: r) (T, N, I, L, R) ck sk := k_get C hi hp hf ht (by rw [hk]; show Value.int (I a k) = _; rw [hv]) h
theorem g_L (C : Cl d q mc ms Post V) {j a ci k : Nat} {x : Int64} (hi : cdf q.2.2.2.2.2.2 pc = some (.getfield j, 3)) (hp : pc + 3 = pc2) (hf : P_fl q.2.2.2.2.1 j = some (ci, k)) (ht : T a = ci + 1) (hk : kt (P_ty ci k) = 1) (hv : L a k = x) (h : V pc2 lv (.long x :: r) (T, N, I, L, R) ck sk) : V pc lv (.ref a :: r) (T, N, I, L, R) ck sk := k_get C hi hp hf ht (by rw [hk]; show Value.long (L a k) = _; rw [hv]) h
theorem g_R (C : Cl d q mc ms Post V) {j a ci k b : Nat} (hi : cdf q.2.2.2.2.2.2 pc = some (.getfield j, 3)) (hp : pc + 3 = pc2) (hf : P_fl q.2.2.2.2.1 j = some (ci, k)) (ht : T a = ci + 1) (hk : kt (P_ty ci k) = 2) (hv : R a k = some b) (h : V pc2 lv (.ref b :: r) (T, N, I, L, R) ck sk) : V pc lv (.ref a :: r) (T, N, I, L, R) ck sk := k_get C hi hp hf ht (by rw [hk]; show va_rf (R a k) = _; rw [hv]; rfl) h
theorem p_I (C : Cl d q mc ms Post V) {j a ci k : Nat} {x : Int32} (hi : cdf q.2.2.2.2.2.2 pc = some (.putfield j, 3)) (hp : pc + 3 = pc2) (hf : P_fl q.2.2.2.2.1 j = some (ci, k)) (ht : T a = ci + 1) (hn : q.1.name = "<init>" ∧ q.2.2.2.2.1 = ci ∨ ((vwCl[ci]?).map (fun r => (r.2.1 k).2.2.2)) = some false) (hy : P_ty ci k = .int) (h : V pc2 lv r (T, N, u2 I a k x, L, R) ck sk) : V pc lv (.int x :: .ref a :: r) (T, N, I, L, R) ck sk := k_putI C hi hp hf ht hn hy h
theorem p_Z (C : Cl d q mc ms Post V) {j a ci k : Nat} {x : Int32} (hi : cdf q.2.2.2.2.2.2 pc = some (.putfield j, 3)) (hp : pc + 3 = pc2) (hf : P_fl q.2.2.2.2.1 j = some (ci, k)) (ht : T a = ci + 1) (hn : q.1.name = "<init>" ∧ q.2.2.2.2.1 = ci ∨ ((vwCl[ci]?).map (fun r => (r.2.1 k).2.2.2)) = some false) (hy : P_ty ci k = .boolean) (hx : x = 0 ∨ x = 1) (h : V pc2 lv r (T, N, u2 I a k x, L, R) ck sk) : V pc lv (.int x :: .ref a :: r) (T, N, I, L, R) ck sk := k_putZ C hi hp hf ht hn hy hx h
theorem p_L (C : Cl d q mc ms Post V) {j a ci k : Nat} {x : Int64} (hi : cdf q.2.2.2.2.2.2 pc = some (.putfield j, 3)) (hp : pc + 3 = pc2) (hf : P_fl q.2.2.2.2.1 j = some (ci, k)) (ht : T a = ci + 1) (hn : q.1.name = "<init>" ∧ q.2.2.2.2.1 = ci ∨ ((vwCl[ci]?).map (fun r => (r.2.1 k).2.2.2)) = some false) (hy : P_ty ci k = .long) (h : V pc2 lv r (T, N, I, u2 L a k x, R) ck sk) : V pc lv (.long x :: .ref a :: r) (T, N, I, L, R) ck sk := k_putL C hi hp hf ht hn hy h
theorem a_I (C : Cl d q mc ms Post V) {a : Nat} {j x : Int32} (hi : cdf q.2.2.2.2.2.2 pc = some (.iaload, 1)) (hp : pc + 1 = pc2) (ht : T a = 20) (hj : vp_in j (N a)) (hv : I a j.toNatClampNeg = x) (h : V pc2 lv (.int x :: r) (T, N, I, L, R) ck sk) : V pc lv (.int j :: .ref a :: r) (T, N, I, L, R) ck sk := by subst hv; exact k_iald C hi hp ht hj h
theorem a_B (C : Cl d q mc ms Post V) {a : Nat} {j x : Int32} (hi : cdf q.2.2.2.2.2.2 pc = some (.baload, 1)) (hp : pc + 1 = pc2) (ht : T a = 22) (hj : vp_in j (N a)) (hv : I a j.toNatClampNeg = x) (h : V pc2 lv (.int x :: r) (T, N, I, L, R) ck sk) : V pc lv (.int j :: .ref a :: r) (T, N, I, L, R) ck sk := by subst hv; exact k_bald C hi hp ht hj h
theorem a_L (C : Cl d q mc ms Post V) {a : Nat} {j : Int32} {x : Int64} (hi : cdf q.2.2.2.2.2.2 pc = some (.laload, 1)) (hp : pc + 1 = pc2) (ht : T a = 21) (hj : vp_in j (N a)) (hv : L a j.toNatClampNeg = x) (h : V pc2 lv (.long x :: r) (T, N, I, L, R) ck sk) : V pc lv (.int j :: .ref a :: r) (T, N, I, L, R) ck sk := by subst hv; exact k_lald C hi hp ht hj h
theorem a_R (C : Cl d q mc ms Post V) {a b t : Nat} {j : Int32} (hi : cdf q.2.2.2.2.2.2 pc = some (.aaload, 1)) (hp : pc + 1 = pc2) (h4 : t < 4) (ht : T a = 23 + t) (hj : vp_in j (N a)) (hv : R a j.toNatClampNeg = some b) (h : V pc2 lv (.ref b :: r) (T, N, I, L, R) ck sk) : V pc lv (.int j :: .ref a :: r) (T, N, I, L, R) ck sk := k_aald C hi hp h4 ht hj (by show V pc2 lv (va_rf (R a j.toNatClampNeg) :: r) _ ck sk; rw [hv]; exact h)
theorem a_N (C : Cl d q mc ms Post V) {a n : Nat} (hi : cdf q.2.2.2.2.2.2 pc = some (.arraylength, 1)) (hp : pc + 1 = pc2) (ht : 20 ≤ T a) (hn : N a = n) (h : V pc2 lv (.int (Int32.ofNat n) :: r) (T, N, I, L, R) ck sk) : V pc lv (.ref a :: r) (T, N, I, L, R) ck sk := by subst hn; exact k_alen C hi hp ht h
theorem s_I (C : Cl d q mc ms Post V) {a n : Nat} {j x : Int32} (hi : cdf q.2.2.2.2.2.2 pc = some (.iastore, 1)) (hp : pc + 1 = pc2) (ht : T a = 20) (hj : vp_in j (N a)) (hn : j.toNatClampNeg = n) (h : V pc2 lv r (T, N, u2 I a n x, L, R) ck sk) : V pc lv (.int x :: .int j :: .ref a :: r) (T, N, I, L, R) ck sk := by subst hn; exact k_iast C hi hp ht hj h
theorem s_B (C : Cl d q mc ms Post V) {a n : Nat} {j x : Int32} (hi : cdf q.2.2.2.2.2.2 pc = some (.bastore, 1)) (hp : pc + 1 = pc2) (ht : T a = 22) (hj : vp_in j (N a)) (hn : j.toNatClampNeg = n) (h : V pc2 lv r (T, N, u2 I a n x.toInt8.toInt32, L, R) ck sk) : V pc lv (.int x :: .int j :: .ref a :: r) (T, N, I, L, R) ck sk := by subst hn; exact k_bast C hi hp ht hj h
theorem s_L (C : Cl d q mc ms Post V) {a n : Nat} {j : Int32} {x : Int64} (hi : cdf q.2.2.2.2.2.2 pc = some (.lastore, 1)) (hp : pc + 1 = pc2) (ht : T a = 21) (hj : vp_in j (N a)) (hn : j.toNatClampNeg = n) (h : V pc2 lv r (T, N, I, u2 L a n x, R) ck sk) : V pc lv (.long x :: .int j :: .ref a :: r) (T, N, I, L, R) ck sk := by subst hn; exact k_last C hi hp ht hj h
theorem c_VI (C : Cl d q mc ms Post V) {j k na : Nat} {b : Nat} {as st9 : List Value} {mc' ms' ck2 sk2 : Nat} {Q : Int32 → IT → LT → Prop} (hE : Ex d k (.ref b :: as) (T, N, I, L, R) mc' ms' (pI T N R Q)) (hi : cdf q.2.2.2.2.2.2 pc = some (.invokevirtual j, 3)) (hp : pc + 3 = pc2) (hm : P_mt q.2.2.2.2.1 j = some (0, k, na)) (hs : st9 = as.reverse ++ .ref b :: r) (hl : as.length = na) (hy : ∃ y, P_mq k = some y ∧ y.2.2.2.2.2.1 = [] ∧ T b = y.2.2.2.2.1 + 1 ∧ y.2.2.2.2.1 < 13) (h1 : ck + mc' = ck2) (h2 : sk + ms' = sk2) (h3 : ck2 ≤ mc) (h4 : sk2 ≤ ms) (hc : (r.map fun v => v.category).sum ≤ 8) (h : ∀ x I' L', Q x I' L' → V pc2 lv (.int x :: r) (T, N, I', L', R) ck2 sk2) : V pc lv st9 (T, N, I, L, R) ck sk := k_callV C hi hp hm hs hl hy hE h1 h2 h3 h4 hc (fun v M1 h9 => by obtain ⟨x, I1, L1, e1, e2, e3⟩ := h9; cases e1; subst e2; exact h x I1 L1 e3) (fun e M1 h9 => by obtain ⟨x, I1, L1, e1, e2, e3⟩ := h9; cases e1)
theorem c_VL (C : Cl d q mc ms Post V) {j k na : Nat} {b : Nat} {as st9 : List Value} {mc' ms' ck2 sk2 : Nat} {Q : Int64 → IT → LT → Prop} (hE : Ex d k (.ref b :: as) (T, N, I, L, R) mc' ms' (pL T N R Q)) (hi : cdf q.2.2.2.2.2.2 pc = some (.invokevirtual j, 3)) (hp : pc + 3 = pc2) (hm : P_mt q.2.2.2.2.1 j = some (0, k, na)) (hs : st9 = as.reverse ++ .ref b :: r) (hl : as.length = na) (hy : ∃ y, P_mq k = some y ∧ y.2.2.2.2.2.1 = [] ∧ T b = y.2.2.2.2.1 + 1 ∧ y.2.2.2.2.1 < 13) (h1 : ck + mc' = ck2) (h2 : sk + ms' = sk2) (h3 : ck2 ≤ mc) (h4 : sk2 ≤ ms) (hc : (r.map fun v => v.category).sum ≤ 8) (h : ∀ x I' L', Q x I' L' → V pc2 lv (.long x :: r) (T, N, I', L', R) ck2 sk2) : V pc lv st9 (T, N, I, L, R) ck sk := k_callV C hi hp hm hs hl hy hE h1 h2 h3 h4 hc (fun v M1 h9 => by obtain ⟨x, I1, L1, e1, e2, e3⟩ := h9; cases e1; subst e2; exact h x I1 L1 e3) (fun e M1 h9 => by obtain ⟨x, I1, L1, e1, e2, e3⟩ := h9; cases e1)
theorem c_VR (C : Cl d q mc ms Post V) {j k na : Nat} {b : Nat} {as st9 : List Value} {mc' ms' ck2 sk2 : Nat} {Q : Option Nat → IT → LT → Prop} (hE : Ex d k (.ref b :: as) (T, N, I, L, R) mc' ms' (pR T N R Q)) (hi : cdf q.2.2.2.2.2.2 pc = some (.invokevirtual j, 3)) (hp : pc + 3 = pc2) (hm : P_mt q.2.2.2.2.1 j = some (0, k, na)) (hs : st9 = as.reverse ++ .ref b :: r) (hl : as.length = na) (hy : ∃ y, P_mq k = some y ∧ y.2.2.2.2.2.1 = [] ∧ T b = y.2.2.2.2.1 + 1 ∧ y.2.2.2.2.1 < 13) (h1 : ck + mc' = ck2) (h2 : sk + ms' = sk2) (h3 : ck2 ≤ mc) (h4 : sk2 ≤ ms) (hc : (r.map fun v => v.category).sum ≤ 8) (h : ∀ x I' L', Q x I' L' → V pc2 lv (va_rf x :: r) (T, N, I', L', R) ck2 sk2) : V pc lv st9 (T, N, I, L, R) ck sk := k_callV C hi hp hm hs hl hy hE h1 h2 h3 h4 hc (fun v M1 h9 => by obtain ⟨x, I1, L1, e1, e2, e3⟩ := h9; cases e1; subst e2; exact h x I1 L1 e3) (fun e M1 h9 => by obtain ⟨x, I1, L1, e1, e2, e3⟩ := h9; cases e1)
theorem c_VV (C : Cl d q mc ms Post V) {j k na : Nat} {b : Nat} {as st9 : List Value} {mc' ms' ck2 sk2 : Nat} {Q : IT → LT → Prop} (hE : Ex d k (.ref b :: as) (T, N, I, L, R) mc' ms' (pV T N R Q)) (hi : cdf q.2.2.2.2.2.2 pc = some (.invokevirtual j, 3)) (hp : pc + 3 = pc2) (hm : P_mt q.2.2.2.2.1 j = some (0, k, na)) (hs : st9 = as.reverse ++ .ref b :: r) (hl : as.length = na) (hy : ∃ y, P_mq k = some y ∧ y.2.2.2.2.2.1 = [] ∧ T b = y.2.2.2.2.1 + 1 ∧ y.2.2.2.2.1 < 13) (h1 : ck + mc' = ck2) (h2 : sk + ms' = sk2) (h3 : ck2 ≤ mc) (h4 : sk2 ≤ ms) (hc : (r.map fun v => v.category).sum ≤ 8) (h : ∀ I' L', Q I' L' → V pc2 lv r (T, N, I', L', R) ck2 sk2) : V pc lv st9 (T, N, I, L, R) ck sk := k_callV C hi hp hm hs hl hy hE h1 h2 h3 h4 hc (fun v M1 h9 => by obtain ⟨I1, L1, e1, e2, e3⟩ := h9; cases e1; subst e2; exact h I1 L1 e3) (fun e M1 h9 => by obtain ⟨I1, L1, e1, e2, e3⟩ := h9; cases e1)
theorem c_VH (C : Cl d q mc ms Post V) {j k na : Nat} {b : Nat} {as st9 : List Value} {mc' ms' ck2 sk2 : Nat} {e ph : Nat} {Q : IT → LT → Prop} (hE : Ex d k (.ref b :: as) (T, N, I, L, R) mc' ms' (pX e T N R Q)) (hi : cdf q.2.2.2.2.2.2 pc = some (.invokevirtual j, 3)) (hp : pc + 3 = pc2) (hm : P_mt q.2.2.2.2.1 j = some (0, k, na)) (hs : st9 = as.reverse ++ .ref b :: r) (hl : as.length = na) (hy : ∃ y, P_mq k = some y ∧ y.2.2.2.2.2.1 = [] ∧ T b = y.2.2.2.2.1 + 1 ∧ y.2.2.2.2.1 < 13) (h1 : ck + mc' = ck2) (h2 : sk + ms' = sk2) (h3 : ck2 ≤ mc) (h4 : sk2 ≤ ms) (hc : (r.map fun v => v.category).sum ≤ 8) (he : e < 5) (hq : hnd q pc e = some ph) (h : ∀ I' L' z, Q I' L' → V ph lv [.ref z] (T, N, I', L', R) ck2 sk2) : V pc lv st9 (T, N, I, L, R) ck sk := k_callV C hi hp hm hs hl hy hE h1 h2 h3 h4 hc (fun v M1 h9 => by obtain ⟨I1, L1, e1, e2, e3⟩ := h9; cases e1) (fun e9 M1 h9 => by obtain ⟨I1, L1, e1, e2, e3⟩ := h9; cases e1; subst e2; exact ⟨he, Or.inr ⟨ph, hq, fun z => h I1 L1 z e3⟩⟩)
theorem c_SI (C : Cl d q mc ms Post V) {j k na : Nat} {as st9 : List Value} {mc' ms' ck2 sk2 : Nat} {Q : Int32 → IT → LT → Prop} (hE : Ex d k (as) (T, N, I, L, R) mc' ms' (pI T N R Q)) (hi : cdf q.2.2.2.2.2.2 pc = some (.invokestatic j, 3)) (hp : pc + 3 = pc2) (hm : P_mt q.2.2.2.2.1 j = some (1, k, na)) (hs : st9 = as.reverse ++ r) (hl : as.length = na) (h1 : ck + mc' = ck2) (h2 : sk + ms' = sk2) (h3 : ck2 ≤ mc) (h4 : sk2 ≤ ms) (hc : (r.map fun v => v.category).sum ≤ 8) (h : ∀ x I' L', Q x I' L' → V pc2 lv (.int x :: r) (T, N, I', L', R) ck2 sk2) : V pc lv st9 (T, N, I, L, R) ck sk := k_callS C hi hp hm hs hl hE h1 h2 h3 h4 hc (fun v M1 h9 => by obtain ⟨x, I1, L1, e1, e2, e3⟩ := h9; cases e1; subst e2; exact h x I1 L1 e3) (fun e M1 h9 => by obtain ⟨x, I1, L1, e1, e2, e3⟩ := h9; cases e1)
theorem c_SL (C : Cl d q mc ms Post V) {j k na : Nat} {as st9 : List Value} {mc' ms' ck2 sk2 : Nat} {Q : Int64 → IT → LT → Prop} (hE : Ex d k (as) (T, N, I, L, R) mc' ms' (pL T N R Q)) (hi : cdf q.2.2.2.2.2.2 pc = some (.invokestatic j, 3)) (hp : pc + 3 = pc2) (hm : P_mt q.2.2.2.2.1 j = some (1, k, na)) (hs : st9 = as.reverse ++ r) (hl : as.length = na) (h1 : ck + mc' = ck2) (h2 : sk + ms' = sk2) (h3 : ck2 ≤ mc) (h4 : sk2 ≤ ms) (hc : (r.map fun v => v.category).sum ≤ 8) (h : ∀ x I' L', Q x I' L' → V pc2 lv (.long x :: r) (T, N, I', L', R) ck2 sk2) : V pc lv st9 (T, N, I, L, R) ck sk := k_callS C hi hp hm hs hl hE h1 h2 h3 h4 hc (fun v M1 h9 => by obtain ⟨x, I1, L1, e1, e2, e3⟩ := h9; cases e1; subst e2; exact h x I1 L1 e3) (fun e M1 h9 => by obtain ⟨x, I1, L1, e1, e2, e3⟩ := h9; cases e1)
theorem c_SR (C : Cl d q mc ms Post V) {j k na : Nat} {as st9 : List Value} {mc' ms' ck2 sk2 : Nat} {Q : Option Nat → IT → LT → Prop} (hE : Ex d k (as) (T, N, I, L, R) mc' ms' (pR T N R Q)) (hi : cdf q.2.2.2.2.2.2 pc = some (.invokestatic j, 3)) (hp : pc + 3 = pc2) (hm : P_mt q.2.2.2.2.1 j = some (1, k, na)) (hs : st9 = as.reverse ++ r) (hl : as.length = na) (h1 : ck + mc' = ck2) (h2 : sk + ms' = sk2) (h3 : ck2 ≤ mc) (h4 : sk2 ≤ ms) (hc : (r.map fun v => v.category).sum ≤ 8) (h : ∀ x I' L', Q x I' L' → V pc2 lv (va_rf x :: r) (T, N, I', L', R) ck2 sk2) : V pc lv st9 (T, N, I, L, R) ck sk := k_callS C hi hp hm hs hl hE h1 h2 h3 h4 hc (fun v M1 h9 => by obtain ⟨x, I1, L1, e1, e2, e3⟩ := h9; cases e1; subst e2; exact h x I1 L1 e3) (fun e M1 h9 => by obtain ⟨x, I1, L1, e1, e2, e3⟩ := h9; cases e1)
theorem c_SV (C : Cl d q mc ms Post V) {j k na : Nat} {as st9 : List Value} {mc' ms' ck2 sk2 : Nat} {Q : IT → LT → Prop} (hE : Ex d k (as) (T, N, I, L, R) mc' ms' (pV T N R Q)) (hi : cdf q.2.2.2.2.2.2 pc = some (.invokestatic j, 3)) (hp : pc + 3 = pc2) (hm : P_mt q.2.2.2.2.1 j = some (1, k, na)) (hs : st9 = as.reverse ++ r) (hl : as.length = na) (h1 : ck + mc' = ck2) (h2 : sk + ms' = sk2) (h3 : ck2 ≤ mc) (h4 : sk2 ≤ ms) (hc : (r.map fun v => v.category).sum ≤ 8) (h : ∀ I' L', Q I' L' → V pc2 lv r (T, N, I', L', R) ck2 sk2) : V pc lv st9 (T, N, I, L, R) ck sk := k_callS C hi hp hm hs hl hE h1 h2 h3 h4 hc (fun v M1 h9 => by obtain ⟨I1, L1, e1, e2, e3⟩ := h9; cases e1; subst e2; exact h I1 L1 e3) (fun e M1 h9 => by obtain ⟨I1, L1, e1, e2, e3⟩ := h9; cases e1)
end Parts
end
-- 16.mn.lean.txt
section
/-! a loop's measure, hidden from omega -/
def MN (a : Int) (n : Nat) : Prop := a.toNat = n
theorem MN.lt {a b : Int} {n : Nat} (h : MN a n) (h1 : b < a) (h2 : 0 < a) : b.toNat < n := by
  unfold MN at h
  omega
theorem imp_no {a b : Prop} (_ : a → b) (_ : ¬ a) : True := trivial
end
