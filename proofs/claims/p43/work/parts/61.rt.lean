/-! the reference: the stock, exactly -/
theorem NQA.z {I : IT} {dg nu r : Nat} {D : Int} (h : NQA I dg nu r) (e : (I dg r).toInt = D) : ZRL (RI I nu r) (D + 1) := fun j hj => h j (by omega)
theorem NQA.n {I : IT} {dg nu r : Nat} {D : Int} (h : ¬ NQA I dg nu r) (e : (I dg r).toInt = D) : ¬ ZRL (RI I nu r) (D + 1) := fun z => h (fun j hj => z j (by omega))
theorem NQI9 {I : IT} {dg nu r : Nat} {x D : Int} (h : IFF x (NQA I dg nu r)) (e : (I dg r).toInt = D) : IFF x (ZRL (RI I nu r) (D + 1)) := ⟨fun q => NQA.z (h.1 q) e, fun q => NQA.n (h.2 q) e⟩
theorem NQI.w {I : IT} {dg nu r : Nat} {x D : Int} {g : Nat → Int} (h : IFF x (NQA I dg nu r)) (e : (I dg r).toInt = D) (w : RWF I nu r D g) : IFF x (ZRL g (D + 1)) := ⟨fun q => ((NQI9 h e).1 q).cg (fun k hk => w k (by omega)), fun q z => (NQI9 h e).2 q (z.cg (fun k hk => (w k (by omega)).symm))⟩
