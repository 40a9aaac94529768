-- 06.core.lean.txt
section
/-! THE STEPS OVER A TYPED MEMORY: tags, sizes, ints, longs, references, each by its address; what a method does, said by a predicate that is closed under its steps -/
/-! private constructors of nest mates: (own class, index, method) -/
def nn_y : Nat → MethodName := fun k => match k with
  | 57 => yX7_init
  | 58 => yX4_init
  | 94 => yX9_init
  | 111 => yX10_init
  | _ => yX2_init
def niL : List (Nat × Nat × Nat) := [(11, 11, 58), (4, 11, 57), (8, 44, 94), (8, 45, 57), (0, 11, 0), (1, 25, 0), (11, 73, 111), (11, 80, 0)]
abbrev Mm : Type := (Nat → Nat) × (Nat → Nat) × (Nat → Nat → Int32) × (Nat → Nat → Int64) × (Nat → Nat → Option Nat)
abbrev mT (M : Mm) : Nat → Nat := M.1
abbrev mN (M : Mm) : Nat → Nat := M.2.1
abbrev mI (M : Mm) : Nat → Nat → Int32 := M.2.2.1
abbrev mL (M : Mm) : Nat → Nat → Int64 := M.2.2.2.1
abbrev mR (M : Mm) : Nat → Nat → Option Nat := M.2.2.2.2
def u1 {α : Type} (f : Nat → α) (a : Nat) (x : α) : Nat → α := fun b => if b = a then x else f b
def u2 {α : Type} (f : Nat → Nat → α) (a k : Nat) (x : α) : Nat → Nat → α := fun b j => if b = a ∧ j = k then x else f b j
def sR (M : Mm) (a k : Nat) (x : Option Nat) : Mm := (M.1, M.2.1, M.2.2.1, M.2.2.2.1, u2 M.2.2.2.2 a k x)
def sN (M : Mm) (a t n : Nat) : Mm := (u1 M.1 a t, u1 M.2.1 a n, u1 M.2.2.1 a (fun _ => 0), u1 M.2.2.2.1 a (fun _ => 0), u1 M.2.2.2.2 a (fun _ => none))
def kt (t : FieldType) : Nat := match t with
  | .long => 1
  | .object _ => 2
  | .array _ => 2
  | _ => 0
/-- the arrays' kinds: tag 20 + t -/
def aT (t : Nat) : FieldType := match t with
  | 0 => .int
  | 1 => .long
  | 2 => .byte
  | 3 => .object RX2
  | 4 => .object RX9
  | 5 => .object RX7
  | _ => .array .int
def ek (t k : Nat) : Nat := if 20 ≤ t then kt (aT (t - 20)) else kt (P_ty (t - 1) k)
def wv (e : Nat) (M : Mm) (a k : Nat) : Value := match e with
  | 0 => .int (mI M a k)
  | 1 => .long (mL M a k)
  | _ => va_rf (mR M a k)
def mv (M : Mm) (a k : Nat) : Value := wv (ek (mT M a) k) M a k
def Rp (D : va_G) (cA : Nat → ClassId) (B : Nat) (M : Mm) (H : Heap) : Prop :=
  B ≤ H.size ∧ ∀ a, mT M a ≠ 0 → B ≤ a ∧ a < H.size ∧ ((∃ ci r, mT M a = ci + 1 ∧ ci < 13 ∧ vwCl[ci]? = some r ∧ t_OB a (D.1 ci) r.2.2 (D.2 ci) H (mv M a)) ∨ (∃ t, mT M a = 20 + t ∧ t < 7 ∧ H[a]? = some (arrV (cA t) (mN M a) (mv M a))))
abbrev tysA (cA : Nat → ClassId) : List (ClassId × FieldType) := [(cA 0, .int), (cA 1, .long), (cA 2, .byte), (cA 3, .object RX2), (cA 4, .object RX9), (cA 5, .object RX7), (cA 6, .array .int)]
def KK (D : va_G) (cA : Nat → ClassId) (B : Nat) (U : State) : Prop := va_K D vwCl (tysA cA) U ∧ vx_Zq Bundle.tN "UNASSIGNED_STACK" Bundle.steD (fun q => B ≤ q) U U.heap ∧ vx_Zq Bundle.tN "SUPPRESSED_SENTINEL" Bundle.listD (fun q => B ≤ q) U U.heap ∧ (∀ e, e < 5 → ∀ w ∈ P_ng e, va_Nw w U) ∧ (∀ e e', e < 5 → e' < 5 → e ≠ e' → va_Nc (P_ex e) (P_ex e') U) ∧ va_AO RX2 U ∧ va_AO RX9 U ∧ va_AO RX7 U ∧ va_AOA .int U ∧ ∀ e ∈ niL, va_Nw (.methodLinkNest (P_ow e.1) e.2.1 (nn_y e.2.2) RX11) U
def s1 (lv : List (Nat × Value)) (i : Nat) (v : Value) : List (Nat × Value) := (i, v) :: lv.filter (fun q => !(q.1 == i) && !(q.1 + 1 == i && q.2.category == 2))
def s2 (lv : List (Nat × Value)) (i : Nat) (v : Value) : List (Nat × Value) := (i, v) :: lv.filter (fun q => !(q.1 == i) && (!(q.1 == i + 1) && !(q.1 + 1 == i && q.2.category == 2)))
abbrev V_T : Type := Nat → List (Nat × Value) → List Value → Mm → Nat → Nat → Prop
abbrev Po : Type := (Option Value) ⊕ Nat → Mm → Prop
def P_xc (o i : Nat) : Option Nat := (xcL.find? (fun q => Nat.beq q.1 o && Nat.beq q.2.1 i)).map (fun q => q.2.2)
/-- the handler of method q for exception e at pc -/
def hnd (q : mm_T) (pc e : Nat) : Option Nat := (q.2.2.2.2.2.1.find? (fun h => Nat.ble h.1 pc && (Nat.blt pc h.2.1 && (P_xc q.2.2.2.2.1 h.2.2.2 == some e)))).map (fun h => h.2.2.1)
def p1 (st : List Value) (K : Int32 → List Value → Prop) : Prop := ∃ x r, st = .int x :: r ∧ K x r
def p2 (st : List Value) (K : Int32 → Int32 → List Value → Prop) : Prop := ∃ x y r, st = .int y :: .int x :: r ∧ K x y r
def q1 (st : List Value) (K : Int64 → List Value → Prop) : Prop := ∃ x r, st = .long x :: r ∧ K x r
def q2 (st : List Value) (K : Int64 → Int64 → List Value → Prop) : Prop := ∃ x y r, st = .long y :: .long x :: r ∧ K x y r
/-- a reference or null on top -/
def r1 (st : List Value) (K : Option Nat → List Value → Prop) : Prop := ∃ x r, st = va_rf x :: r ∧ K x r
def a1 (st : List Value) (K : Nat → List Value → Prop) : Prop := ∃ a r, st = .ref a :: r ∧ K a r
def a2 (st : List Value) (K : Nat → Int32 → List Value → Prop) : Prop := ∃ a j r, st = .int j :: .ref a :: r ∧ K a j r
end
-- 07.sound.lean.txt
section
/-! SOUND: what is closed under the steps is closed under the machine's -/
theorem Rp.arr {D : va_G} {cA : Nat → ClassId} {B : Nat} {M : Mm} {H : Heap} (h : Rp D cA B M H) {a t : Nat} (ht : mT M a = 20 + t) : t < 7 ∧ H[a]? = some (arrV (cA t) (mN M a) (mv M a)) ∧ B ≤ a ∧ a < H.size := by
  obtain ⟨h1, h2, h3⟩ := h.2 a (by omega)
  rcases h3 with ⟨ci', r, e1, e2, -⟩ | ⟨t', e1, e2, e3⟩
  · omega
  · have : t' = t := by omega
    subst this
    exact ⟨e2, e3, h1, h2⟩
theorem castable_moved {a b : String} {u U : State} (hvm : u.vm.Alike U.vm) (h : va_Nw (.castable a b) u) : va_Nw (.castable a b) U := va_tabs rfl (rfl : (u.setVm U.vm).vm = U.vm) (by rw [Cond.castable_setVm hvm]; exact h)
theorem declares_moved {x : MethodName} {u U : State} (hvm : u.vm.Alike U.vm) (h : va_Nw (.declares x) u) : va_Nw (.declares x) U := va_tabs rfl (rfl : (u.setVm U.vm).vm = U.vm) (by rw [Cond.declares_setVm hvm]; exact h)
theorem va_AOA.moved {ty : FieldType} {u U : State} (hvm : u.vm.Alike U.vm) (h : va_AOA ty u) : va_AOA ty U := by
  have h0 : (Cond.arrayOver (.array ty)).holds #[] u none u [] = true := h
  simp only [Cond.holds, Cond.value, beq_iff_eq] at h0
  cases hc : u.vm.findClass (FieldType.array ty).toString with
  | none => simp [hc] at h0
  | some comp =>
    simp only [hc, Option.bind_some, Option.bind_eq_some_iff, Option.map_eq_some_iff] at h0
    obtain ⟨c, hi, k, hk, hb⟩ := h0
    obtain ⟨k', hk', he⟩ := hvm.2.2 _ _ hk
    have e1 := va_idx_bare U.vm comp
    have e2 := va_idx_bare u.vm comp
    have e3 : U.vm.bare = u.vm.bare := by first | exact hvm.bare_eq | exact hvm.bare_eq.symm
    rw [e3] at e1
    have hi' := e1.symm.trans (e2.trans hi)
    have f1 : U.vm.findClass (FieldType.array ty).toString = some comp := by rw [hvm.findClass]; exact hc
    have hkind : k'.kind = k.kind := by rw [he]
    have hb' : (match k'.kind with | .array _ ty9 => decide (ty9 = FieldType.array ty) && decide (U.vm.findClass ("[" ++ (FieldType.array ty).toString) = some c) | _ => false) = true := by
      rw [hkind, hvm.findClass]; exact hb
    unfold va_AOA Cond.before Cond.holds
    simp only [Cond.value]
    rw [f1, Option.bind_some]
    refine (congrArg (fun o : Option Nat => (o.bind (fun c => (U.vm.classes[c]?).map fun (k : Class) => match k.kind with | .array _ ty9 => decide (ty9 = FieldType.array ty) && decide (U.vm.findClass ("[" ++ (FieldType.array ty).toString) = some c) | _ => false) == some true)) hi').trans ?_
    show ((U.vm.classes[c]?).map (fun (k : Class) => match k.kind with | .array _ ty9 => decide (ty9 = FieldType.array ty) && decide (U.vm.findClass ("[" ++ (FieldType.array ty).toString) = some c) | _ => false) == some true) = true
    rw [hk']
    show (some (match k'.kind with | .array _ ty9 => decide (ty9 = FieldType.array ty) && decide (U.vm.findClass ("[" ++ (FieldType.array ty).toString) = some c) | _ => false) == some true) = true
    rw [hb']
    rfl
theorem KK.go {D : va_G} {cA : Nat → ClassId} {B : Nat} {u U : State} (h : KK D cA B u) (hW : u.WarmedH U.vm) (hk : ∀ a, a < u.heap.size → ¬ B ≤ a → U.heap[a]? = u.heap[a]?) : KK D cA B U := by
  have hvm := hW.alike
  obtain ⟨h1, h2, h3, h4, h45, h5, h6, h7, h8, hn9⟩ := h
  refine ⟨h1.moved hvm, (vx_Zq.moved hvm h2).kept hk, (vx_Zq.moved hvm h3).kept hk, fun e he w hw => ?_, fun e e' h1 h2 h3 => (h45 e e' h1 h2 h3).moved hvm, h5.moved hvm, h6.moved hvm, h7.moved hvm, h8.moved hvm, fun e he => va_Nw.warmM hW (hn9 e he)⟩
  have h9 := h4 e he w hw
  simp only [P_ng, List.mem_cons, List.not_mem_nil, or_false] at hw
  rcases hw with rfl | rfl | rfl | rfl
  · exact declares_moved hvm h9
  · exact declares_moved hvm h9
  · exact declares_moved hvm h9
  · exact castable_moved hvm h9
section Sound
variable {p : Program} {l : Launch} {e : Env} {R : Room} {s : State} {m : MethodId} {args : Array Value} {below : List Frame} {meth : Method} {c : Code} {D : va_G} {cA : Nat → ClassId} {B d : Nat} {q : mm_T} {mc ms : Nat} {Q : State → Prop}
end Sound
end
-- 08.step.lean.txt
section
/-! every step, by its instruction -/
section Step
variable {p : Program} {l : Launch} {e : Env} {R : Room} {s : State} {m : MethodId} {args : Array Value} {below : List Frame} {meth : Method} {c : Code} {D : va_G} {cA : Nat → ClassId} {B d : Nat} {q : mm_T} {mc ms : Nat} {Q : State → Prop}
end Step
end
-- 09.excI.lean.txt
section
/-! ===== BEGIN a constructor that throws (launches without stack traces) ===== -/
section VXIA
variable {p : Program} {l : Launch} {e : Env} {R : Room} {s : State} {m : MethodId} {args : Array Value} {below : List Frame} {meth : Method} {c : Code} {T : State} {locs : List Loc} {cells slots : Nat}
end VXIA
section VXIB
variable {p : Program} {l : Launch} {e : Env} {R : Room} {s : State} {m : MethodId} {args : Array Value} {below : List Frame} {meth : Method} {c : Code} {H : Heap} {locs : List Loc} {cells slots : Nat}
variable {y : MethodName} {bytes cc : ByteArray} {maxL nL mc ms n index : Nat} {ret : Option FieldType} {ws : List Cond} {rm : Room} {Pc : Array Value → State → Prop} {Qc : Array Value → State → Outcome → State → Prop} {XC : String → State → State → Prop} {free : Addr → Prop} {Ts : List Cond} {own C : String} {b : Addr} {As rest : List Value} {g : JFrame}
end VXIB
/-! ===== END ===== -/
/-! ===== BEGIN a private constructor of a nest mate that throws ===== -/
section VXIC
variable {p : Program} {l : Launch} {e : Env} {R : Room} {s : State} {m : MethodId} {args : Array Value} {below : List Frame} {meth : Method} {c : Code} {T : State} {locs : List Loc} {cells slots : Nat}
end VXIC
section VXID
variable {p : Program} {l : Launch} {e : Env} {R : Room} {s : State} {m : MethodId} {args : Array Value} {below : List Frame} {meth : Method} {c : Code} {H : Heap} {locs : List Loc} {cells slots : Nat}
end VXID
/-! ===== END ===== -/
end
-- 09.mna.lean.txt
section
/-! new int[n][k]: the outer array, then its rows, one behind another -/
section Mna
variable {p : Program} {l : Launch} {e : Env} {R : Room} {s : State} {m : MethodId} {args : Array Value} {below : List Frame} {meth : Method} {c : Code} {D : va_G} {cA : Nat → ClassId} {B d : Nat} {q : mm_T} {mc ms : Nat} {Q : State → Prop}
end Mna
end
-- 10.main.lean.txt
section
/-! calls, ends, and the whole: what Ex says holds on the machine -/
section Main
variable {p : Program} {l : Launch} {e : Env} {R : Room} {s : State} {m : MethodId} {args : Array Value} {below : List Frame} {meth : Method} {c : Code} {D : va_G} {cA : Nat → ClassId} {B d : Nat} {q : mm_T} {mc ms : Nat} {Q : State → Prop}
end Main
end
-- 11.step.lean.txt
section
section Main
variable {p : Program} {l : Launch} {e : Env} {R : Room} {s : State} {m : MethodId} {args : Array Value} {below : List Frame} {meth : Method} {c : Code} {D : va_G} {cA : Nat → ClassId} {B d : Nat} {q : mm_T} {mc ms : Nat} {Q : State → Prop}
end Main
end
-- 12.ex.lean.txt
section
/-! Ex is sound: the contract of every method on the machine -/
/-! a method by its name, the JDK's too (as vx_ofW, vx_ofWH of the pasted text, by 'plainFor') -/
end
-- 13.rules.lean.txt
section
/-! the rules by which a method is walked: one a kind of instruction -/
section Rules
variable {d : Nat} {q : mm_T} {mc ms : Nat} {Post : Po} {V : V_T} {pc pc2 : Nat} {lv : List (Nat × Value)} {r : List Value} {M : Mm} {ck sk : Nat}
end Rules
end
-- 14.law.lean.txt
section
/-! THE CLAIM OUT OF ONE WALK OF THE LAW'S BODY. Your part is whole_start (and what it stands on); all else here is the same for every law, but numbers. -/
def R_law : String := "LetterFormsLaw"
def lw_P (b : Addr) (xs : List Int32) (args : Array Value) (s : State) : Prop := args = #[.ref b] ∧ s.IntsAt b xs ∧ xs.length ≤ 3072 ∧ (Jvm.Cond.and given_1 narrow_1).before args s = true
def lw_Q (_ : Array Value) (s : State) (o : Outcome) (t : State) : Prop := o = .returned (some (.int 1)) ∧ Framed s o t [] 601024 7293033
def lw_Z (below : List Frame) (a : Array Value) (s : State) : State → Prop := fun t => ∃ o, t.status = .running ∧ Ended t below o ∧ lw_Q a s o t
/-! the law's own body over the pure machine gives whole_start -/
def M0 : Mm := (fun _ => 0, fun _ => 0, fun _ _ => 0, fun _ _ => 0, fun _ _ => none)
end
-- 15.wk.lean.txt
section
/-! rules over a memory in parts: tags, sizes, ints, longs, references -/
abbrev IT : Type := Nat → Nat → Int32
abbrev LT : Type := Nat → Nat → Int64
abbrev RT : Type := Nat → Nat → Option Nat
theorem u2_s {α : Type} {f : Nat → Nat → α} {a k : Nat} {x : α} : u2 f a k x a k = x := by simp [u2]
theorem u2_a {α : Type} {f : Nat → Nat → α} {a k b j : Nat} {x : α} (h : b ≠ a) : u2 f a k x b j = f b j := by simp [u2, h]
theorem u2_k {α : Type} {f : Nat → Nat → α} {a k b j : Nat} {x : α} (h : j ≠ k) : u2 f a k x b j = f b j := by simp [u2, h]
theorem u2_r {α : Type} {f : Nat → Nat → α} {a k b : Nat} {x : α} (h : b ≠ a) : u2 f a k x b = f b := by funext j; simp [u2, h]
/-- ints and longs are changed at addresses of A alone -/
def Fr (A : Nat → Prop) (I : IT) (L : LT) (I' : IT) (L' : LT) : Prop := ∀ a, ¬ A a → I' a = I a ∧ L' a = L a
theorem Fr.rf {A : Nat → Prop} {I : IT} {L : LT} : Fr A I L I L := fun _ _ => ⟨rfl, rfl⟩
theorem Fr.tr {A : Nat → Prop} {I I1 I2 : IT} {L L1 L2 : LT} (h : Fr A I L I1 L1) (g : Fr A I1 L1 I2 L2) : Fr A I L I2 L2 := fun a ha => ⟨(g a ha).1.trans (h a ha).1, (g a ha).2.trans (h a ha).2⟩
theorem Fr.i {A : Nat → Prop} {I I1 : IT} {L L1 : LT} (h : Fr A I L I1 L1) {a k : Nat} {x : Int32} (ha : A a) : Fr A I L (u2 I1 a k x) L1 := fun b hb => ⟨(u2_r (fun e : b = a => hb (e.symm ▸ ha))).trans (h b hb).1, (h b hb).2⟩
theorem Fr.l {A : Nat → Prop} {I I1 : IT} {L L1 : LT} (h : Fr A I L I1 L1) {a k : Nat} {x : Int64} (ha : A a) : Fr A I L I1 (u2 L1 a k x) := fun b hb => ⟨(h b hb).1, (u2_r (fun e : b = a => hb (e.symm ▸ ha))).trans (h b hb).2⟩
/-! counters -/
section Parts
variable {d : Nat} {q : mm_T} {mc ms : Nat} {Post : Po} {V : V_T} {pc pc2 : Nat} {lv : List (Nat × Value)} {r : List Value} {ck sk : Nat} {T N : Nat → Nat} {I : IT} {L : LT} {R : RT}
end Parts
end
-- 16.mn.lean.txt
section
/-! a loop's measure, hidden from omega -/
def MN (a : Int) (n : Nat) : Prop := a.toNat = n
theorem MN.lt {a b : Int} {n : Nat} (h : MN a n) (h1 : b < a) (h2 : 0 < a) : b.toNat < n := by
  unfold MN at h
  omega
end
