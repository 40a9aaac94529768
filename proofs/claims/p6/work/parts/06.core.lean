/-! THE STEPS OVER A TYPED MEMORY: tags, sizes, ints, longs, references, each by its address; what a method does, said by a predicate that is closed under its steps -/
/-! private constructors of nest mates: (own class, index, method) -/
def nn_y : Nat → MethodName := fun k => match k with
  | 57 => yX7_init
  | 58 => yX4_init
  | 94 => yX9_init
  | 111 => yX10_init
  | _ => yX2_init
def niL : List (Nat × Nat × Nat) := [(11, 11, 58), (4, 11, 57), (8, 44, 94), (8, 45, 57), (0, 11, 0), (1, 25, 0), (11, 73, 111), (11, 80, 0)]
def okNi (e : Nat × Nat × Nat) : Prop := ∃ y, P_ml[e.2.2]? = some y ∧ y.1 = nn_y e.2.2 ∧ Cond.instanceMethod y.1 ∈ wsL_law ∧ y.1.name = "<init>" ∧ Cond.initialized y.1.cls ∈ wsL_law ∧ (parseMethodDescriptor y.1.desc).map (fun d => d.parameters.length) = some 0 ∧ y.2.2.2.2.2.1 = [] ∧ y.2.2.2.1 = none
set_option maxRecDepth 100000 in
theorem niL_ok : ∀ e ∈ niL, okNi e := List.forall_mem_cons.mpr ⟨⟨_, rfl, rfl, inr3 _ (List.mem_of_getElem? (i := 5) rfl), rfl, inr1 _ (List.mem_of_getElem? (i := 15) rfl), by decide +kernel, rfl, rfl⟩, List.forall_mem_cons.mpr ⟨⟨_, rfl, rfl, inr3 _ (List.mem_of_getElem? (i := 14) rfl), rfl, inr3 _ (List.mem_of_getElem? (i := 10) rfl), by decide +kernel, rfl, rfl⟩, List.forall_mem_cons.mpr ⟨⟨_, rfl, rfl, inr4 _ (List.mem_of_getElem? (i := 18) rfl), rfl, inr4 _ (List.mem_of_getElem? (i := 8) rfl), by decide +kernel, rfl, rfl⟩, List.forall_mem_cons.mpr ⟨⟨_, rfl, rfl, inr3 _ (List.mem_of_getElem? (i := 14) rfl), rfl, inr3 _ (List.mem_of_getElem? (i := 10) rfl), by decide +kernel, rfl, rfl⟩, List.forall_mem_cons.mpr ⟨⟨_, rfl, rfl, inr4 _ (List.mem_of_getElem? (i := 14) rfl), rfl, inr3 _ (List.mem_of_getElem? (i := 1) rfl), by decide +kernel, rfl, rfl⟩, List.forall_mem_cons.mpr ⟨⟨_, rfl, rfl, inr4 _ (List.mem_of_getElem? (i := 14) rfl), rfl, inr3 _ (List.mem_of_getElem? (i := 1) rfl), by decide +kernel, rfl, rfl⟩, List.forall_mem_cons.mpr ⟨⟨_, rfl, rfl, inr6 _ (List.mem_of_getElem? (i := 22) rfl), rfl, inr2 _ (List.mem_of_getElem? (i := 21) rfl), by decide +kernel, rfl, rfl⟩, List.forall_mem_cons.mpr ⟨⟨_, rfl, rfl, inr4 _ (List.mem_of_getElem? (i := 14) rfl), rfl, inr3 _ (List.mem_of_getElem? (i := 1) rfl), by decide +kernel, rfl, rfl⟩, fun _ h => nomatch h⟩⟩⟩⟩⟩⟩⟩⟩
def P_ni (o i : Nat) : Option Nat := (niL.find? (fun q => Nat.beq q.1 o && Nat.beq q.2.1 i)).map (fun q => q.2.2)
abbrev Mm : Type := (Nat → Nat) × (Nat → Nat) × (Nat → Nat → Int32) × (Nat → Nat → Int64) × (Nat → Nat → Option Nat)
abbrev mT (M : Mm) : Nat → Nat := M.1
abbrev mN (M : Mm) : Nat → Nat := M.2.1
abbrev mI (M : Mm) : Nat → Nat → Int32 := M.2.2.1
abbrev mL (M : Mm) : Nat → Nat → Int64 := M.2.2.2.1
abbrev mR (M : Mm) : Nat → Nat → Option Nat := M.2.2.2.2
def u1 {α : Type} (f : Nat → α) (a : Nat) (x : α) : Nat → α := fun b => if b = a then x else f b
def u2 {α : Type} (f : Nat → Nat → α) (a k : Nat) (x : α) : Nat → Nat → α := fun b j => if b = a ∧ j = k then x else f b j
def sI (M : Mm) (a k : Nat) (x : Int32) : Mm := (M.1, M.2.1, u2 M.2.2.1 a k x, M.2.2.2.1, M.2.2.2.2)
def sL (M : Mm) (a k : Nat) (x : Int64) : Mm := (M.1, M.2.1, M.2.2.1, u2 M.2.2.2.1 a k x, M.2.2.2.2)
def sR (M : Mm) (a k : Nat) (x : Option Nat) : Mm := (M.1, M.2.1, M.2.2.1, M.2.2.2.1, u2 M.2.2.2.2 a k x)
def sN (M : Mm) (a t n : Nat) : Mm := (u1 M.1 a t, u1 M.2.1 a n, u1 M.2.2.1 a (fun _ => 0), u1 M.2.2.2.1 a (fun _ => 0), u1 M.2.2.2.2 a (fun _ => none))
def kt (t : FieldType) : Nat := match t with
  | .long => 1
  | .object _ => 2
  | .array _ => 2
  | _ => 0
/-- the arrays' kinds: tag 20 + t -/
def aT (t : Nat) : FieldType := match t with
  | 0 => .int
  | 1 => .long
  | 2 => .byte
  | 3 => .object RX2
  | 4 => .object RX9
  | 5 => .object RX7
  | _ => .array .int
def ek (t k : Nat) : Nat := if 20 ≤ t then kt (aT (t - 20)) else kt (P_ty (t - 1) k)
def wv (e : Nat) (M : Mm) (a k : Nat) : Value := match e with
  | 0 => .int (mI M a k)
  | 1 => .long (mL M a k)
  | _ => va_rf (mR M a k)
def mv (M : Mm) (a k : Nat) : Value := wv (ek (mT M a) k) M a k
def Rp (D : va_G) (cA : Nat → ClassId) (B : Nat) (M : Mm) (H : Heap) : Prop :=
  B ≤ H.size ∧ ∀ a, mT M a ≠ 0 → B ≤ a ∧ a < H.size ∧ ((∃ ci r, mT M a = ci + 1 ∧ ci < 13 ∧ vwCl[ci]? = some r ∧ t_OB a (D.1 ci) r.2.2 (D.2 ci) H (mv M a)) ∨ (∃ t, mT M a = 20 + t ∧ t < 7 ∧ H[a]? = some (arrV (cA t) (mN M a) (mv M a))))
abbrev tysA (cA : Nat → ClassId) : List (ClassId × FieldType) := [(cA 0, .int), (cA 1, .long), (cA 2, .byte), (cA 3, .object RX2), (cA 4, .object RX9), (cA 5, .object RX7), (cA 6, .array .int)]
def KK (D : va_G) (cA : Nat → ClassId) (B : Nat) (U : State) : Prop := va_K D vwCl (tysA cA) U ∧ vx_Zq Bundle.tN "UNASSIGNED_STACK" Bundle.steD (fun q => B ≤ q) U U.heap ∧ vx_Zq Bundle.tN "SUPPRESSED_SENTINEL" Bundle.listD (fun q => B ≤ q) U U.heap ∧ (∀ e, e < 5 → ∀ w ∈ P_ng e, va_Nw w U) ∧ (∀ e e', e < 5 → e' < 5 → e ≠ e' → va_Nc (P_ex e) (P_ex e') U) ∧ va_AO RX2 U ∧ va_AO RX9 U ∧ va_AO RX7 U ∧ va_AOA .int U ∧ ∀ e ∈ niL, va_Nw (.methodLinkNest (P_ow e.1) e.2.1 (nn_y e.2.2) RX11) U
def lk (lv : List (Nat × Value)) (i : Nat) : Option Value := (lv.find? (fun q => q.1 == i)).map (fun q => q.2)
def s1 (lv : List (Nat × Value)) (i : Nat) (v : Value) : List (Nat × Value) := (i, v) :: lv.filter (fun q => !(q.1 == i) && !(q.1 + 1 == i && q.2.category == 2))
def s2 (lv : List (Nat × Value)) (i : Nat) (v : Value) : List (Nat × Value) := (i, v) :: lv.filter (fun q => !(q.1 == i) && (!(q.1 == i + 1) && !(q.1 + 1 == i && q.2.category == 2)))
abbrev V_T : Type := Nat → List (Nat × Value) → List Value → Mm → Nat → Nat → Prop
abbrev Po : Type := (Option Value) ⊕ Nat → Mm → Prop
abbrev E_T : Type := Nat → List Value → Mm → Nat → Nat → Po → Prop
def tg (pc : Nat) (off : Int) : Nat := ((pc : Int) + off).toNat
def cI (c : Jvm.ClassFile.Cond) (x y : Int32) : Prop := match c with
  | .eq => x = y
  | .ne => ¬ x = y
  | .lt => x < y
  | .ge => y ≤ x
  | .gt => y < x
  | .le => x ≤ y
def cZ (c : Jvm.ClassFile.Cond) (x : Int32) : Prop := match c with
  | .eq => x = 0
  | .ne => ¬ x = 0
  | .lt => x < 0
  | .ge => 0 ≤ x
  | .gt => 0 < x
  | .le => x ≤ 0
def cdf (l : cl_T) (pc : Nat) : Option (Instr × Nat) := (l.find? (fun q => Nat.beq q.1 pc)).map (fun q => q.2)
def P_fl (o i : Nat) : Option (Nat × Nat) := (flL.find? (fun q => Nat.beq q.1 o && Nat.beq q.2.1 i)).map (fun q => q.2.2)
def P_mt (o i : Nat) : Option (Nat × Nat × Nat) := (mtL.find? (fun q => Nat.beq q.1 o && Nat.beq q.2.1 i)).map (fun q => q.2.2)
def P_oi (o i : Nat) : Bool := oiL.any (fun q => Nat.beq q.1 o && Nat.beq q.2 i)
def P_nw (o i : Nat) : Option Nat := (nwL.find? (fun q => Nat.beq q.1 o && Nat.beq q.2.1 i)).map (fun q => q.2.2)
def P_xx (o i : Nat) : Option (Nat × Nat) := (exL.find? (fun q => Nat.beq q.1 o && Nat.beq q.2.1 i)).map (fun q => q.2.2)
def P_xc (o i : Nat) : Option Nat := (xcL.find? (fun q => Nat.beq q.1 o && Nat.beq q.2.1 i)).map (fun q => q.2.2)
def P_kc (o i : Nat) : Option Int32 := (kcL.find? (fun q => Nat.beq q.1 o && Nat.beq q.2.1 i)).map (fun q => q.2.2)
def P_kl (o i : Nat) : Option Int64 := (klL.find? (fun q => Nat.beq q.1 o && Nat.beq q.2.1 i)).map (fun q => q.2.2)
def P_sz (ci : Nat) : Nat := match vwCl[ci]? with
  | some r => r.2.2
  | none => 0
/-- the handler of method q for exception e at pc -/
def hnd (q : mm_T) (pc e : Nat) : Option Nat := (q.2.2.2.2.2.1.find? (fun h => Nat.ble h.1 pc && (Nat.blt pc h.2.1 && (P_xc q.2.2.2.2.1 h.2.2.2 == some e)))).map (fun h => h.2.2.1)
/-- a call: the callee's own predicate, its room, what goes on behind it -/
def callc (E : E_T) (q : mm_T) (mc ms : Nat) (Post : Po) (V : V_T) (pc : Nat) (lv : List (Nat × Value)) (r : List Value) (M : Mm) (ck sk : Nat) (k : Nat) (as : List Value) : Prop :=
  ∃ (mc' ms' : Nat) (P' : Po), E k as M mc' ms' P' ∧ ck + mc' ≤ mc ∧ sk + ms' ≤ ms ∧ (r.map fun v => v.category).sum ≤ 8 ∧ (∀ v M', P' (.inl v) M' → V (pc + 3) lv (v.toList ++ r) M' (ck + mc') (sk + ms')) ∧ (∀ e M', P' (.inr e) M' → e < 5 ∧ ((q.2.2.2.2.2.1 = [] ∧ Post (.inr e) M') ∨ ∃ h, hnd q pc e = some h ∧ ∀ b, V h lv [.ref b] M' (ck + mc') (sk + ms')))
def putc (M : Mm) (a k : Nat) (t : FieldType) (v : Value) (K : Mm → Prop) : Prop := match t with
  | .int => ∃ x, v = .int x ∧ K (sI M a k x)
  | .boolean => ∃ x, v = .int x ∧ (x = 0 ∨ x = 1) ∧ K (sI M a k x)
  | .long => ∃ x, v = .long x ∧ K (sL M a k x)
  | .object _ => ∃ x, v = va_rf x ∧ K (sR M a k x)
  | .array _ => ∃ x, v = va_rf x ∧ K (sR M a k x)
  | _ => False
def p1 (st : List Value) (K : Int32 → List Value → Prop) : Prop := ∃ x r, st = .int x :: r ∧ K x r
def p2 (st : List Value) (K : Int32 → Int32 → List Value → Prop) : Prop := ∃ x y r, st = .int y :: .int x :: r ∧ K x y r
def q1 (st : List Value) (K : Int64 → List Value → Prop) : Prop := ∃ x r, st = .long x :: r ∧ K x r
def q2 (st : List Value) (K : Int64 → Int64 → List Value → Prop) : Prop := ∃ x y r, st = .long y :: .long x :: r ∧ K x y r
/-- a reference or null on top -/
def r1 (st : List Value) (K : Option Nat → List Value → Prop) : Prop := ∃ x r, st = va_rf x :: r ∧ K x r
def a1 (st : List Value) (K : Nat → List Value → Prop) : Prop := ∃ a r, st = .ref a :: r ∧ K a r
def a2 (st : List Value) (K : Nat → Int32 → List Value → Prop) : Prop := ∃ a j r, st = .int j :: .ref a :: r ∧ K a j r
def ldv (lv : List (Nat × Value)) (j : Nat) (K : Value → Prop) : Prop := ∃ v, lk lv j = some v ∧ K v
def sti0 (E : E_T) (q : mm_T) (mc ms : Nat) (Post : Po) (V : V_T) (pc : Nat) (lv : List (Nat × Value)) (st : List Value) (M : Mm) (ck sk : Nat) (i : Instr) (n : Nat) : Prop :=
    (∃ j, i = .aload j ∧ n = 2 ∧ (ldv lv j fun v => ∃ x, v = va_rf x ∧ V (pc + 2) lv (v :: st) M ck sk))
    ∨ (∃ j, i = .aload_n j ∧ n = 1 ∧ (ldv lv j.val fun v => ∃ x, v = va_rf x ∧ V (pc + 1) lv (v :: st) M ck sk))
    ∨ (∃ j, i = .iload j ∧ n = 2 ∧ (ldv lv j fun v => ∃ x, v = .int x ∧ V (pc + 2) lv (v :: st) M ck sk))
    ∨ (∃ j, i = .iload_n j ∧ n = 1 ∧ (ldv lv j.val fun v => ∃ x, v = .int x ∧ V (pc + 1) lv (v :: st) M ck sk))
    ∨ (∃ j, i = .lload j ∧ n = 2 ∧ (ldv lv j fun v => ∃ x, v = .long x ∧ V (pc + 2) lv (v :: st) M ck sk))
    ∨ (∃ j, i = .lload_n j ∧ n = 1 ∧ (ldv lv j.val fun v => ∃ x, v = .long x ∧ V (pc + 1) lv (v :: st) M ck sk))
    ∨ (∃ v, i = .iconst v ∧ n = 1 ∧ (V (pc + 1) lv (.int (Int32.ofInt v) :: st) M ck sk))
    ∨ (∃ v, i = .bipush v ∧ n = 2 ∧ (V (pc + 2) lv (.int (Int8.ofInt v).toInt32 :: st) M ck sk))
    ∨ (∃ v, i = .sipush v ∧ n = 3 ∧ (V (pc + 3) lv (.int (Int16.ofInt v).toInt32 :: st) M ck sk))
    ∨ (∃ v, i = .lconst v ∧ n = 1 ∧ (V (pc + 1) lv (.long (Int64.ofNat (v : Nat)) :: st) M ck sk))
def sti1 (E : E_T) (q : mm_T) (mc ms : Nat) (Post : Po) (V : V_T) (pc : Nat) (lv : List (Nat × Value)) (st : List Value) (M : Mm) (ck sk : Nat) (i : Instr) (n : Nat) : Prop :=
    (i = .aconst_null ∧ n = 1 ∧ (V (pc + 1) lv (.null :: st) M ck sk))
    ∨ (∃ j, i = .ldc j ∧ n = 2 ∧ (∃ v, P_kc q.2.2.2.2.1 j = some v ∧ V (pc + 2) lv (.int v :: st) M ck sk))
    ∨ (∃ j, i = .ldc_w j ∧ n = 3 ∧ (∃ v, P_kc q.2.2.2.2.1 j = some v ∧ V (pc + 3) lv (.int v :: st) M ck sk))
    ∨ (∃ j, i = .ldc2_w j ∧ n = 3 ∧ (∃ v, P_kl q.2.2.2.2.1 j = some v ∧ V (pc + 3) lv (.long v :: st) M ck sk))
    ∨ (∃ j, i = .istore j ∧ n = 2 ∧ (p1 st fun x r => j < q.2.2.1 ∧ V (pc + 2) (s1 lv j (.int x)) r M ck sk))
    ∨ (∃ j, i = .istore_n j ∧ n = 1 ∧ (p1 st fun x r => j.val < q.2.2.1 ∧ V (pc + 1) (s1 lv j.val (.int x)) r M ck sk))
    ∨ (∃ j, i = .astore j ∧ n = 2 ∧ (r1 st fun x r => j < q.2.2.1 ∧ V (pc + 2) (s1 lv j (va_rf x)) r M ck sk))
    ∨ (∃ j, i = .astore_n j ∧ n = 1 ∧ (r1 st fun x r => j.val < q.2.2.1 ∧ V (pc + 1) (s1 lv j.val (va_rf x)) r M ck sk))
    ∨ (∃ j, i = .lstore j ∧ n = 2 ∧ (q1 st fun x r => j + 1 < q.2.2.1 ∧ V (pc + 2) (s2 lv j (.long x)) r M ck sk))
    ∨ (∃ j, i = .lstore_n j ∧ n = 1 ∧ (q1 st fun x r => j.val + 1 < q.2.2.1 ∧ V (pc + 1) (s2 lv j.val (.long x)) r M ck sk))
def sti2 (E : E_T) (q : mm_T) (mc ms : Nat) (Post : Po) (V : V_T) (pc : Nat) (lv : List (Nat × Value)) (st : List Value) (M : Mm) (ck sk : Nat) (i : Instr) (n : Nat) : Prop :=
    (∃ j d, i = .iinc j d ∧ n = 3 ∧ (ldv lv j fun v => ∃ x, v = .int x ∧ j < q.2.2.1 ∧ V (pc + 3) (s1 lv j (.int (x + Int32.ofInt d))) st M ck sk))
    ∨ (i = .iadd ∧ n = 1 ∧ (p2 st fun x y r => V (pc + 1) lv (.int (x + y) :: r) M ck sk))
    ∨ (i = .isub ∧ n = 1 ∧ (p2 st fun x y r => V (pc + 1) lv (.int (x - y) :: r) M ck sk))
    ∨ (i = .imul ∧ n = 1 ∧ (p2 st fun x y r => V (pc + 1) lv (.int (x * y) :: r) M ck sk))
    ∨ (i = .idiv ∧ n = 1 ∧ (p2 st fun x y r => ¬ y = 0 ∧ V (pc + 1) lv (.int (x / y) :: r) M ck sk))
    ∨ (i = .irem ∧ n = 1 ∧ (p2 st fun x y r => ¬ y = 0 ∧ V (pc + 1) lv (.int (x - x / y * y) :: r) M ck sk))
    ∨ (i = .ineg ∧ n = 1 ∧ (p1 st fun x r => V (pc + 1) lv (.int (-x) :: r) M ck sk))
    ∨ (i = .iand ∧ n = 1 ∧ (p2 st fun x y r => V (pc + 1) lv (.int (x &&& y) :: r) M ck sk))
    ∨ (i = .ior ∧ n = 1 ∧ (p2 st fun x y r => V (pc + 1) lv (.int (x ||| y) :: r) M ck sk))
    ∨ (i = .ixor ∧ n = 1 ∧ (p2 st fun x y r => V (pc + 1) lv (.int (x ^^^ y) :: r) M ck sk))
def sti3 (E : E_T) (q : mm_T) (mc ms : Nat) (Post : Po) (V : V_T) (pc : Nat) (lv : List (Nat × Value)) (st : List Value) (M : Mm) (ck sk : Nat) (i : Instr) (n : Nat) : Prop :=
    (i = .ishl ∧ n = 1 ∧ (p2 st fun x y r => V (pc + 1) lv (.int (x <<< (y &&& 31)) :: r) M ck sk))
    ∨ (i = .ishr ∧ n = 1 ∧ (p2 st fun x y r => V (pc + 1) lv (.int (x >>> (y &&& 31)) :: r) M ck sk))
    ∨ (i = .iushr ∧ n = 1 ∧ (p2 st fun x y r => V (pc + 1) lv (.int (x.toUInt32 >>> (y.toUInt32 &&& Int32.toUInt32 31)).toInt32 :: r) M ck sk))
    ∨ (i = .i2l ∧ n = 1 ∧ (p1 st fun x r => V (pc + 1) lv (.long x.toInt64 :: r) M ck sk))
    ∨ (i = .i2b ∧ n = 1 ∧ (p1 st fun x r => V (pc + 1) lv (.int x.toInt8.toInt32 :: r) M ck sk))
    ∨ (i = .l2i ∧ n = 1 ∧ (q1 st fun x r => V (pc + 1) lv (.int x.toInt32 :: r) M ck sk))
    ∨ (i = .ladd ∧ n = 1 ∧ (q2 st fun x y r => V (pc + 1) lv (.long (x + y) :: r) M ck sk))
    ∨ (i = .lsub ∧ n = 1 ∧ (q2 st fun x y r => V (pc + 1) lv (.long (x - y) :: r) M ck sk))
    ∨ (i = .lmul ∧ n = 1 ∧ (q2 st fun x y r => V (pc + 1) lv (.long (x * y) :: r) M ck sk))
    ∨ (i = .ldiv ∧ n = 1 ∧ (q2 st fun x y r => ¬ y = 0 ∧ V (pc + 1) lv (.long (x / y) :: r) M ck sk))
def sti4 (E : E_T) (q : mm_T) (mc ms : Nat) (Post : Po) (V : V_T) (pc : Nat) (lv : List (Nat × Value)) (st : List Value) (M : Mm) (ck sk : Nat) (i : Instr) (n : Nat) : Prop :=
    (i = .lrem ∧ n = 1 ∧ (q2 st fun x y r => ¬ y = 0 ∧ V (pc + 1) lv (.long (x - x / y * y) :: r) M ck sk))
    ∨ (i = .lxor ∧ n = 1 ∧ (q2 st fun x y r => V (pc + 1) lv (.long (x ^^^ y) :: r) M ck sk))
    ∨ (i = .lneg ∧ n = 1 ∧ (q1 st fun x r => V (pc + 1) lv (.long (-x) :: r) M ck sk))
    ∨ (i = .lcmp ∧ n = 1 ∧ (q2 st fun x y r => V (pc + 1) lv (.int (lg_cmp x y) :: r) M ck sk))
    ∨ (i = .pop ∧ n = 1 ∧ (∃ v r, st = v :: r ∧ v.category = 1 ∧ V (pc + 1) lv r M ck sk))
    ∨ (i = .dup ∧ n = 1 ∧ (∃ v r, st = v :: r ∧ v.category = 1 ∧ V (pc + 1) lv (v :: v :: r) M ck sk))
    ∨ (i = .dup2 ∧ n = 1 ∧ (∃ v w r, st = v :: w :: r ∧ v.category = 1 ∧ w.category = 1 ∧ V (pc + 1) lv (v :: w :: v :: w :: r) M ck sk))
    ∨ (∃ off, i = .goto off ∧ n = 3 ∧ (0 ≤ (pc : Int) + off ∧ V (tg pc off) lv st M ck sk))
    ∨ (∃ c off, i = .ifCond c off ∧ n = 3 ∧ (p1 st fun x r => 0 ≤ (pc : Int) + off ∧ (cZ c x → V (tg pc off) lv r M ck sk) ∧ (¬ cZ c x → V (pc + 3) lv r M ck sk)))
    ∨ (∃ c off, i = .if_icmp c off ∧ n = 3 ∧ (p2 st fun x y r => 0 ≤ (pc : Int) + off ∧ (cI c x y → V (tg pc off) lv r M ck sk) ∧ (¬ cI c x y → V (pc + 3) lv r M ck sk)))
def sti5 (E : E_T) (q : mm_T) (mc ms : Nat) (Post : Po) (V : V_T) (pc : Nat) (lv : List (Nat × Value)) (st : List Value) (M : Mm) (ck sk : Nat) (i : Instr) (n : Nat) : Prop :=
    (∃ off, i = .ifnull off ∧ n = 3 ∧ (r1 st fun x r => 0 ≤ (pc : Int) + off ∧ (x = none → V (tg pc off) lv r M ck sk) ∧ (∀ a, x = some a → V (pc + 3) lv r M ck sk)))
    ∨ (∃ off, i = .ifnonnull off ∧ n = 3 ∧ (r1 st fun x r => 0 ≤ (pc : Int) + off ∧ (x = none → V (pc + 3) lv r M ck sk) ∧ (∀ a, x = some a → V (tg pc off) lv r M ck sk)))
    ∨ (∃ d lo hi offs, i = .tableswitch d lo hi offs ∧ (p1 st fun x r => 0 ≤ (pc : Int) + d ∧ (x.toInt < lo ∨ hi < x.toInt → V (tg pc d) lv r M ck sk) ∧ (¬ x.toInt < lo → ¬ hi < x.toInt → ∃ off, offs[(x.toInt - lo).toNat]? = some off ∧ 0 ≤ (pc : Int) + off ∧ V (tg pc off) lv r M ck sk)))
    ∨ (∃ j, i = .getfield j ∧ n = 3 ∧ (a1 st fun a r => ∃ ci k, P_fl q.2.2.2.2.1 j = some (ci, k) ∧ mT M a = ci + 1 ∧ V (pc + 3) lv (wv (kt (P_ty ci k)) M a k :: r) M ck sk))
    ∨ (∃ j, i = .putfield j ∧ n = 3 ∧ (∃ v a r, st = v :: .ref a :: r ∧ ∃ ci k, P_fl q.2.2.2.2.1 j = some (ci, k) ∧ mT M a = ci + 1 ∧ (q.1.name = "<init>" ∧ q.2.2.2.2.1 = ci ∨ ((vwCl[ci]?).map (fun r => (r.2.1 k).2.2.2)) = some false) ∧ putc M a k (P_ty ci k) v (fun M' => V (pc + 3) lv r M' ck sk)))
    ∨ (i = .iaload ∧ n = 1 ∧ (a2 st fun a j r => mT M a = 20 ∧ vp_in j (mN M a) ∧ V (pc + 1) lv (.int (mI M a j.toNatClampNeg) :: r) M ck sk))
    ∨ (i = .laload ∧ n = 1 ∧ (a2 st fun a j r => mT M a = 21 ∧ vp_in j (mN M a) ∧ V (pc + 1) lv (.long (mL M a j.toNatClampNeg) :: r) M ck sk))
    ∨ (i = .baload ∧ n = 1 ∧ (a2 st fun a j r => mT M a = 22 ∧ vp_in j (mN M a) ∧ V (pc + 1) lv (.int (mI M a j.toNatClampNeg) :: r) M ck sk))
    ∨ (i = .aaload ∧ n = 1 ∧ (a2 st fun a j r => (∃ t, t < 4 ∧ mT M a = 23 + t) ∧ vp_in j (mN M a) ∧ V (pc + 1) lv (va_rf (mR M a j.toNatClampNeg) :: r) M ck sk))
    ∨ (i = .iastore ∧ n = 1 ∧ (p1 st fun x r' => a2 r' fun a j r => mT M a = 20 ∧ vp_in j (mN M a) ∧ V (pc + 1) lv r (sI M a j.toNatClampNeg x) ck sk))
def sti6 (E : E_T) (q : mm_T) (mc ms : Nat) (Post : Po) (V : V_T) (pc : Nat) (lv : List (Nat × Value)) (st : List Value) (M : Mm) (ck sk : Nat) (i : Instr) (n : Nat) : Prop :=
    (i = .lastore ∧ n = 1 ∧ (q1 st fun x r' => a2 r' fun a j r => mT M a = 21 ∧ vp_in j (mN M a) ∧ V (pc + 1) lv r (sL M a j.toNatClampNeg x) ck sk))
    ∨ (i = .bastore ∧ n = 1 ∧ (p1 st fun x r' => a2 r' fun a j r => mT M a = 22 ∧ vp_in j (mN M a) ∧ V (pc + 1) lv r (sI M a j.toNatClampNeg x.toInt8.toInt32) ck sk))
    ∨ (i = .aastore ∧ n = 1 ∧ (a1 st fun b r' => a2 r' fun a j r => (∃ t ci, mT M a = 20 + t ∧ mT M b = ci + 1 ∧ (t = 3 ∧ ci = 2 ∨ t = 4 ∧ ci = 9 ∨ t = 5 ∧ ci = 7)) ∧ vp_in j (mN M a) ∧ V (pc + 1) lv r (sR M a j.toNatClampNeg (some b)) ck sk))
    ∨ (i = .arraylength ∧ n = 1 ∧ (a1 st fun a r => 20 ≤ mT M a ∧ V (pc + 1) lv (.int (Int32.ofNat (mN M a)) :: r) M ck sk))
    ∨ (∃ j, i = .new j ∧ n = 3 ∧ ((∃ ic e, P_xx q.2.2.2.2.1 j = some (ic, e) ∧ q.2.2.2.2.2.1 = [] ∧ cdf q.2.2.2.2.2.2 (pc + 3) = some (.dup, 1) ∧ cdf q.2.2.2.2.2.2 (pc + 4) = some (.invokespecial ic, 3) ∧ cdf q.2.2.2.2.2.2 (pc + 7) = some (.athrow, 1) ∧ (st.map fun v => v.category).sum ≤ 8 ∧ ck + 1 ≤ mc ∧ sk + 6 ≤ ms ∧ Post (.inr e) M) ∨ (∃ ci, P_nw q.2.2.2.2.1 j = some ci ∧ ck + 1 ≤ mc ∧ sk + P_sz ci ≤ ms ∧ ∀ b, mT M b = 0 → V (pc + 3) lv (.ref b :: st) (sN M b (ci + 1) (P_sz ci)) (ck + 1) (sk + P_sz ci))))
    ∨ (∃ t, i = .newarray t ∧ n = 2 ∧ (p1 st fun z r => ∃ tt, (t = .int ∧ tt = 0 ∨ t = .long ∧ tt = 1 ∨ t = .byte ∧ tt = 2) ∧ ¬ z < 0 ∧ z.toNatClampNeg ≤ 10000 ∧ ck + 1 ≤ mc ∧ sk + z.toNatClampNeg ≤ ms ∧ ∀ b, mT M b = 0 → V (pc + 2) lv (.ref b :: r) (sN M b (20 + tt) z.toNatClampNeg) (ck + 1) (sk + z.toNatClampNeg)))
    ∨ (∃ j, i = .anewarray j ∧ n = 3 ∧ (p1 st fun z r => ∃ tt ci, P_nw q.2.2.2.2.1 j = some ci ∧ (tt = 3 ∧ ci = 2 ∨ tt = 4 ∧ ci = 9 ∨ tt = 5 ∧ ci = 7) ∧ ¬ z < 0 ∧ z.toNatClampNeg ≤ 10000 ∧ ck + 1 ≤ mc ∧ sk + z.toNatClampNeg ≤ ms ∧ ∀ b, mT M b = 0 → V (pc + 3) lv (.ref b :: r) (sN M b (20 + tt) z.toNatClampNeg) (ck + 1) (sk + z.toNatClampNeg)))
    ∨ (∃ j, i = .invokevirtual j ∧ n = 3 ∧ (∃ k na as b r, P_mt q.2.2.2.2.1 j = some (0, k, na) ∧ st = as.reverse ++ .ref b :: r ∧ as.length = na ∧ (∃ y, P_ml[k]? = some y ∧ y.2.2.2.2.2.1 = [] ∧ mT M b = y.2.2.2.2.1 + 1 ∧ y.2.2.2.2.1 < 13) ∧ callc E q mc ms Post V pc lv r M ck sk k (.ref b :: as)))
    ∨ (∃ j, i = .invokestatic j ∧ n = 3 ∧ (∃ k na as r, P_mt q.2.2.2.2.1 j = some (1, k, na) ∧ st = as.reverse ++ r ∧ as.length = na ∧ callc E q mc ms Post V pc lv r M ck sk k as))
    ∨ (∃ j, i = .invokespecial j ∧ n = 3 ∧ ((∃ a r, P_oi q.2.2.2.2.1 j = true ∧ st = .ref a :: r ∧ (r.map fun v => v.category).sum ≤ 8 ∧ V (pc + 3) lv r M ck sk) ∨ (∃ k na as b r, P_mt q.2.2.2.2.1 j = some (2, k, na) ∧ st = as.reverse ++ .ref b :: r ∧ as.length = na ∧ (∃ y, P_ml[k]? = some y ∧ y.2.2.2.2.2.1 = [] ∧ y.2.2.2.1 = none) ∧ callc E q mc ms Post V pc lv r M ck sk k (.ref b :: as))))
def sti7 (E : E_T) (q : mm_T) (mc ms : Nat) (Post : Po) (V : V_T) (pc : Nat) (lv : List (Nat × Value)) (st : List Value) (M : Mm) (ck sk : Nat) (i : Instr) (n : Nat) : Prop :=
    (i = .ireturn ∧ n = 1 ∧ (∃ x, st = [.int x] ∧ (q.2.2.2.1 = some .int ∨ q.2.2.2.1 = some .boolean ∧ (x = 0 ∨ x = 1)) ∧ ck ≤ mc ∧ sk ≤ ms ∧ Post (.inl (some (.int x))) M))
    ∨ (i = .lreturn ∧ n = 1 ∧ (∃ x, st = [.long x] ∧ q.2.2.2.1 = some .long ∧ ck ≤ mc ∧ sk ≤ ms ∧ Post (.inl (some (.long x))) M))
    ∨ (i = .areturn ∧ n = 1 ∧ (∃ x, st = [va_rf x] ∧ ((∃ n, q.2.2.2.1 = some (.object n)) ∨ ∃ t, q.2.2.2.1 = some (.array t)) ∧ ck ≤ mc ∧ sk ≤ ms ∧ Post (.inl (some (va_rf x))) M))
    ∨ (i = .return_ ∧ n = 1 ∧ (st = [] ∧ q.2.2.2.1 = none ∧ ck ≤ mc ∧ sk ≤ ms ∧ Post (.inl none) M))
/-- new int[n][k]: the outer array, then its rows -/
def sMN (M : Mm) (b n k : Nat) : Mm := (fun a => if a = b then 26 else if b < a ∧ a ≤ b + n then 20 else M.1 a, fun a => if a = b then n else if b < a ∧ a ≤ b + n then k else M.2.1 a, fun a j => if b ≤ a ∧ a ≤ b + n then 0 else M.2.2.1 a j, fun a j => if b ≤ a ∧ a ≤ b + n then 0 else M.2.2.2.1 a j, fun a j => if a = b then (if j < n then some (b + 1 + j) else none) else if b < a ∧ a ≤ b + n then none else M.2.2.2.2 a j)
def sti8 (E : E_T) (q : mm_T) (mc ms : Nat) (Post : Po) (V : V_T) (pc : Nat) (lv : List (Nat × Value)) (st : List Value) (M : Mm) (ck sk : Nat) (i : Instr) (n : Nat) : Prop :=
    (i = .multianewarray 21 2 ∧ n = 4 ∧ (q.2.2.2.2.1 = 5 ∧ ∃ z y r, st = .int y :: .int z :: r ∧ ¬ z < 0 ∧ ¬ y < 0 ∧ z.toNatClampNeg ≤ 1000 ∧ y.toNatClampNeg ≤ 1000 ∧ ck + (1 + z.toNatClampNeg) ≤ mc ∧ sk + (z.toNatClampNeg + z.toNatClampNeg * y.toNatClampNeg) ≤ ms ∧ ∀ b, (∀ c, b ≤ c → mT M c = 0) → V (pc + 4) lv (.ref b :: r) (sMN M b z.toNatClampNeg y.toNatClampNeg) (ck + (1 + z.toNatClampNeg)) (sk + (z.toNatClampNeg + z.toNatClampNeg * y.toNatClampNeg))))
    ∨ (∃ j, i = .invokespecial j ∧ n = 3 ∧ (∃ k b r, P_ni q.2.2.2.2.1 j = some k ∧ st = .ref b :: r ∧ callc E q mc ms Post V pc lv r M ck sk k [.ref b]))
/-- one step of instruction i (n bytes) of method q, its calls by E -/
def sti (E : E_T) (q : mm_T) (mc ms : Nat) (Post : Po) (V : V_T) (pc : Nat) (lv : List (Nat × Value)) (st : List Value) (M : Mm) (ck sk : Nat) (i : Instr) (n : Nat) : Prop := sti0 E q mc ms Post V pc lv st M ck sk i n ∨ sti1 E q mc ms Post V pc lv st M ck sk i n ∨ sti2 E q mc ms Post V pc lv st M ck sk i n ∨ sti3 E q mc ms Post V pc lv st M ck sk i n ∨ sti4 E q mc ms Post V pc lv st M ck sk i n ∨ sti5 E q mc ms Post V pc lv st M ck sk i n ∨ sti6 E q mc ms Post V pc lv st M ck sk i n ∨ sti7 E q mc ms Post V pc lv st M ck sk i n ∨ sti8 E q mc ms Post V pc lv st M ck sk i n
def stp (E : E_T) (q : mm_T) (mc ms : Nat) (Post : Po) (V : V_T) (pc : Nat) (lv : List (Nat × Value)) (st : List Value) (M : Mm) (ck sk : Nat) : Prop :=
  ∃ i n, cdf q.2.2.2.2.2.2 pc = some (i, n) ∧ sti E q mc ms Post V pc lv st M ck sk i n
def Ex : Nat → E_T
  | 0 => fun _ _ _ _ _ _ => False
  | d + 1 => fun k as M mc ms Post => ∃ q, P_ml[k]? = some q ∧ (lg_sl as).length ≤ q.2.2.1 ∧ ∀ V : V_T, (∀ pc lv st M ck sk, stp (Ex d) q mc ms Post V pc lv st M ck sk → V pc lv st M ck sk) → (∀ pc lv lw st M ck sk, (∀ z ∈ lw, z ∈ lv) → V pc lw st M ck sk → V pc lv st M ck sk) → V 0 (lv_args 0 as) [] M 0 0
