/-! the grammar of signs: place, things, steps -/
section Pul
variable {M : Nat}
abbrev PSt := Nat × Nat × List (Int × Int)
def APS (M : Nat) (l : List (Int × Int)) (x : Int × Int) : List (Int × Int) := if l.length < M then l ++ [x] else l
theorem APS.le {l : List (Int × Int)} {x : Int × Int} (h : l.length ≤ M) : (APS M l x).length ≤ M := by
  unfold APS
  by_cases q : l.length < M
  · rw [if_pos q, List.length_append]; show l.length + 1 ≤ M; omega
  · rw [if_neg q]; exact h
def SKF (c : Nat → Int) : Nat → Nat → Nat
  | 0, p => p
  | n + 1, p => if c p = 32 then SKF c n (p + 1) else p
/-- the place behind all blanks -/
def SKP (c : Nat → Int) (p : Nat) : Nat := SKF c 401 p
def SKB (c : Nat → Int) (p q : Nat) : Prop := p ≤ q ∧ ∀ i, p ≤ i → i < q → c i = 32
theorem SKB.z {c : Nat → Int} {p q : Nat} (h : q = p) : SKB c p q := ⟨by omega, fun i h1 h2 => by omega⟩
theorem SKB.s {c : Nat → Int} {p q q' : Nat} (h : SKB c p q) (e : c q = 32) (hq : q' = q + 1) : SKB c p q' := by
  subst hq
  refine ⟨by have := h.1; omega, fun i h1 h2 => ?_⟩
  by_cases x : i = q
  · subst x; exact e
  · exact h.2 i h1 (by omega)
theorem SKF.of {c : Nat → Int} : ∀ n p q, SKB c p q → q ≤ p + n → c q ≠ 32 → SKF c n p = q
  | 0, p, q, h, l, _ => by have := h.1; show p = q; omega
  | n + 1, p, q, h, l, e => by
    show (if c p = 32 then SKF c n (p + 1) else p) = q
    by_cases x : p = q
    · subst x; rw [if_neg e]
    · have hp := h.1
      rw [if_pos (h.2 p (Nat.le_refl _) (by omega))]
      exact SKF.of n (p + 1) q ⟨by omega, fun i h1 h2 => h.2 i (by omega) h2⟩ (by omega) e
/-- nothing behind place 399 -/
def C40 (c : Nat → Int) : Prop := ∀ i, 400 ≤ i → c i = -1
theorem SKB.e {c : Nat → Int} {p q : Nat} (h : SKB c p q) (e : c q ≠ 32) (hc : C40 c) : SKP c p = q := SKF.of 401 p q h (by
  by_cases x : q ≤ p + 401
  · exact x
  · have a := h.2 (q - 1) (by omega) (by omega)
    rw [hc (q - 1) (by omega)] at a
    omega) e
theorem SKF.b {c : Nat → Int} : ∀ n p, SKB c p (SKF c n p) ∧ (c (SKF c n p) = 32 → SKF c n p = p + n)
  | 0, p => ⟨SKB.z rfl, fun _ => rfl⟩
  | n + 1, p => by
    show SKB c p (if c p = 32 then SKF c n (p + 1) else p) ∧ _
    by_cases x : c p = 32
    · have e : SKF c (n + 1) p = SKF c n (p + 1) := by show (if c p = 32 then _ else _) = _; rw [if_pos x]
      rw [e, if_pos x]
      obtain ⟨⟨h1, h2⟩, h3⟩ := SKF.b n (p + 1) (c := c)
      refine ⟨⟨by omega, fun i a b => ?_⟩, fun q => by have := h3 q; omega⟩
      by_cases y : i = p
      · subst y; exact x
      · exact h2 i (by omega) b
    · have e : SKF c (n + 1) p = p := by show (if c p = 32 then _ else _) = _; rw [if_neg x]
      rw [e, if_neg x]
      exact ⟨SKB.z rfl, fun q => absurd q x⟩
theorem SKP.nb {c : Nat → Int} (hc : C40 c) (p : Nat) : c (SKP c p) ≠ 32 := fun q => by
  have a := (SKF.b 401 p (c := c)).2 q
  have b := hc (SKF c 401 p) (by omega)
  have q : c (SKF c 401 p) = 32 := q
  omega
theorem SKP.ge {c : Nat → Int} (p : Nat) : p ≤ SKP c p := (SKF.b 401 p (c := c)).1.1
theorem SKP.id {c : Nat → Int} (hc : C40 c) {p : Nat} (h : c p ≠ 32) : SKP c p = p := SKB.e (SKB.z rfl) h hc
theorem SKP.sk {c : Nat → Int} (hc : C40 c) (p : Nat) : SKP c (SKP c p) = SKP c p := SKP.id hc (SKP.nb hc p)
/-- a sign that must stand there -/
def TAK (c : Nat → Int) (v : Int) (s : PSt) : Option PSt := if c (SKP c s.1) = v then some (SKP c s.1 + 1, s.2) else none
/-- joined ones -/
def RLP (M : Nat) (c : Nat → Int) (v k : Int) (P : PSt → Option PSt) : Nat → PSt → Option PSt
  | 0, _ => none
  | n + 1, s => if c (SKP c s.1) = v then (if 40 ≤ s.2.1 then none else (P (SKP c s.1 + 1, s.2.1 + 1, s.2.2)).bind (fun t => RLP M c v k P n (t.1, t.2.1, APS M t.2.2 (k, 0)))) else some (SKP c s.1, s.2)
def RPR (M : Nat) (c : Nat → Int) (P : PSt → Option PSt) (s : PSt) : Option PSt := (P s).bind (RLP M c 42 3 P 41)
def RSU (M : Nat) (c : Nat → Int) (P : PSt → Option PSt) (s : PSt) : Option PSt := (RPR M c P s).bind (RLP M c 43 2 (RPR M c P) 41)
/-- how many digits, 4 at most; their number -/
def DGF (c : Nat → Int) : Nat → Nat → Nat
  | 0, _ => 0
  | n + 1, p => if 48 ≤ c p ∧ c p ≤ 57 then DGF c n (p + 1) + 1 else 0
def VLU (c : Nat → Int) (p : Nat) : Nat → Int
  | 0 => 0
  | j + 1 => 10 * VLU c p j + (c (p + j) - 48)
def DGB (c : Nat → Int) (p j : Nat) : Prop := ∀ i, i < j → 48 ≤ c (p + i) ∧ c (p + i) ≤ 57
theorem DGF.of {c : Nat → Int} : ∀ n p j, DGB c p j → j ≤ n → (j = n ∨ ¬ (48 ≤ c (p + j) ∧ c (p + j) ≤ 57)) → DGF c n p = j
  | 0, p, j, _, l, _ => by show 0 = j; omega
  | n + 1, p, 0, _, _, h => by
    have h : ¬ (48 ≤ c (p + 0) ∧ c (p + 0) ≤ 57) := h.resolve_left (by omega)
    rw [Nat.add_zero] at h
    show (if 48 ≤ c p ∧ c p ≤ 57 then DGF c n (p + 1) + 1 else 0) = 0
    rw [if_neg h]
  | n + 1, p, j + 1, b, l, h => by
    have z := b 0 (by omega)
    rw [Nat.add_zero] at z
    show (if 48 ≤ c p ∧ c p ≤ 57 then DGF c n (p + 1) + 1 else 0) = j + 1
    rw [if_pos z, DGF.of n (p + 1) j (fun i hi => by
      have := b (i + 1) (by omega)
      rwa [show p + (i + 1) = p + 1 + i from by omega] at this) (by omega) (by
      rcases h with h | h
      · exact Or.inl (by omega)
      · right
        rwa [show p + (j + 1) = p + 1 + j from by omega] at h)]
def NUB (M : Nat) (c : Nat → Int) (k most : Int) (s : PSt) : Option PSt := if 1 ≤ DGF c 4 s.1 ∧ DGF c 4 s.1 ≤ 3 ∧ VLU c s.1 (DGF c 4 s.1) ≤ most then some (s.1 + DGF c 4 s.1, s.2.1, APS M s.2.2 (k, VLU c s.1 (DGF c 4 s.1))) else none
def RLU (M : Nat) (c : Nat → Int) (s : PSt) : Option PSt := if 40 ≤ s.2.1 ∨ (97 ≤ c (s.1 + 1) ∧ c (s.1 + 1) ≤ 122) ∨ (65 ≤ c (s.1 + 1) ∧ c (s.1 + 1) ≤ 90) then none else some (s.1 + 1, s.2.1 + 1, APS M s.2.2 (0, 0))
def RNB (M : Nat) (c : Nat → Int) (s : PSt) : Option PSt := if 40 ≤ s.2.1 then none else NUB M c 1 999 (s.1, s.2.1 + 1, s.2.2)
/-- [ .. , .. ] and its number; s at the [ -/
def ROV (M : Nat) (c : Nat → Int) (S : PSt → Option PSt) (s : PSt) : Option PSt := if 40 ≤ s.2.1 then none else (S (s.1 + 1, s.2.1 + 1, s.2.2)).bind (fun t => (TAK c 44 t).bind (fun t => (S t).bind (fun t => (TAK c 93 t).bind (fun t => NUB M c 4 8 (SKP c t.1, t.2)))))
/-- one part, k deeper ones left -/
def RPT (M : Nat) (c : Nat → Int) : Nat → (PSt → Option PSt)
  | 0 => fun s => if c (SKP c s.1) = 102 then RLU M c (SKP c s.1, s.2) else if 48 ≤ c (SKP c s.1) ∧ c (SKP c s.1) ≤ 57 then RNB M c (SKP c s.1, s.2) else none
  | k + 1 => fun s => if c (SKP c s.1) = 102 then RLU M c (SKP c s.1, s.2) else if 48 ≤ c (SKP c s.1) ∧ c (SKP c s.1) ≤ 57 then RNB M c (SKP c s.1, s.2) else
      if c (SKP c s.1) = 40 then (RSU M c (RPT M c k) (SKP c s.1 + 1, s.2)).bind (TAK c 41) else
      if c (SKP c s.1) = 91 then ROV M c (RSU M c (RPT M c k)) (SKP c s.1, s.2) else
      if c (SKP c s.1) = 45 then (RPT M c k (SKP c s.1 + 1, s.2)).bind (fun t => some (t.1, t.2.1, APS M t.2.2 (5, 0))) else none
theorem RPT.l {c : Nat → Int} {k : Nat} {s : PSt} (h : c (SKP c s.1) = 102) : RPT M c k s = RLU M c (SKP c s.1, s.2) := by
  cases k <;> (show (if c (SKP c s.1) = 102 then _ else _) = _; rw [if_pos h])
theorem RPT.d {c : Nat → Int} {k : Nat} {s : PSt} (h : 48 ≤ c (SKP c s.1) ∧ c (SKP c s.1) ≤ 57) : RPT M c k s = RNB M c (SKP c s.1, s.2) := by
  cases k <;> (show (if c (SKP c s.1) = 102 then _ else if 48 ≤ c (SKP c s.1) ∧ c (SKP c s.1) ≤ 57 then _ else _) = _; rw [if_neg (by omega), if_pos h])
theorem RPT.z {c : Nat → Int} {s : PSt} (h : c (SKP c s.1) ≠ 102) (hd : ¬ (48 ≤ c (SKP c s.1) ∧ c (SKP c s.1) ≤ 57)) : RPT M c 0 s = none := by
  show (if c (SKP c s.1) = 102 then _ else if 48 ≤ c (SKP c s.1) ∧ c (SKP c s.1) ≤ 57 then _ else none) = _
  rw [if_neg h, if_neg hd]
theorem RPT.p {c : Nat → Int} {k : Nat} {s : PSt} (h : c (SKP c s.1) = 40) : RPT M c (k + 1) s = (RSU M c (RPT M c k) (SKP c s.1 + 1, s.2)).bind (TAK c 41) := by
  show (if c (SKP c s.1) = 102 then _ else if 48 ≤ c (SKP c s.1) ∧ c (SKP c s.1) ≤ 57 then _ else if c (SKP c s.1) = 40 then _ else _) = _
  rw [if_neg (by omega), if_neg (by omega), if_pos h]
theorem RPT.o {c : Nat → Int} {k : Nat} {s : PSt} (h : c (SKP c s.1) = 91) : RPT M c (k + 1) s = ROV M c (RSU M c (RPT M c k)) (SKP c s.1, s.2) := by
  show (if c (SKP c s.1) = 102 then _ else if 48 ≤ c (SKP c s.1) ∧ c (SKP c s.1) ≤ 57 then _ else if c (SKP c s.1) = 40 then _ else if c (SKP c s.1) = 91 then _ else _) = _
  rw [if_neg (by omega), if_neg (by omega), if_neg (by omega), if_pos h]
theorem RPT.m {c : Nat → Int} {k : Nat} {s : PSt} (h : c (SKP c s.1) = 45) : RPT M c (k + 1) s = (RPT M c k (SKP c s.1 + 1, s.2)).bind (fun t => some (t.1, t.2.1, APS M t.2.2 (5, 0))) := by
  show (if c (SKP c s.1) = 102 then _ else if 48 ≤ c (SKP c s.1) ∧ c (SKP c s.1) ≤ 57 then _ else if c (SKP c s.1) = 40 then _ else if c (SKP c s.1) = 91 then _ else if c (SKP c s.1) = 45 then _ else _) = _
  rw [if_neg (by omega), if_neg (by omega), if_neg (by omega), if_neg (by omega), if_pos h]
theorem RPT.n {c : Nat → Int} {k : Nat} {s : PSt} (h : c (SKP c s.1) ≠ 102) (hd : ¬ (48 ≤ c (SKP c s.1) ∧ c (SKP c s.1) ≤ 57)) (h1 : c (SKP c s.1) ≠ 40) (h2 : c (SKP c s.1) ≠ 91) (h3 : c (SKP c s.1) ≠ 45) : RPT M c k s = none := by
  cases k with
  | zero => exact RPT.z h hd
  | succ k =>
    show (if c (SKP c s.1) = 102 then _ else if 48 ≤ c (SKP c s.1) ∧ c (SKP c s.1) ≤ 57 then _ else if c (SKP c s.1) = 40 then _ else if c (SKP c s.1) = 91 then _ else if c (SKP c s.1) = 45 then _ else none) = _
    rw [if_neg h, if_neg hd, if_neg h1, if_neg h2, if_neg h3]
/-- an answer, told by 0 and 1 -/
def RES (x : Int) (o : Option PSt) (t : PSt) : Prop := (x = 0 ∧ o = none) ∨ (x = 1 ∧ o = some t)
theorem RES.y {x : Int} {o : Option PSt} {t : PSt} (h : RES x o t) (hx : x ≠ 0) : o = some t := by
  rcases h with h | h
  · exact absurd h.1 hx
  · exact h.2
theorem RES.no {x : Int} {o : Option PSt} {t : PSt} (h : RES x o t) (hx : x ≠ 1) : o = none := by
  rcases h with h | h
  · exact h.2
  · exact absurd h.1 hx
theorem RES.f {x : Int} {o : Option PSt} {t : PSt} (hx : x = 0) (h : o = none) : RES x o t := Or.inl ⟨hx, h⟩
theorem RES.t {x : Int} {o : Option PSt} {t : PSt} (hx : x = 1) (h : o = some t) : RES x o t := Or.inr ⟨hx, h⟩
theorem RES.b {x : Int} {o o' : Option PSt} {t : PSt} (h : RES x o' t) (e : o = o') : RES x o t := by subst e; exact h
/-- on the way through joined ones: n more at most -/
def LPI (M : Nat) (c : Nat → Int) (v k : Int) (P : PSt → Option PSt) (o : Option PSt) (s : PSt) (turn : Int) : Prop := ∃ n : Nat, 41 ≤ n + s.2.1 ∧ o = RLP M c v k P n s ∧ turn ≤ s.2.1 ∧ s.2.1 ≤ 40
theorem LPI.z {c : Nat → Int} {v k : Int} {P : PSt → Option PSt} {o o1 : Option PSt} {s : PSt} {turn : Int} (e : o1 = some s) (h : o = o1.bind (RLP M c v k P 41)) (ht : turn = 0) (hs : s.2.1 ≤ 40) : LPI M c v k P o s turn := ⟨41, by omega, by rw [h, e]; rfl, by omega, hs⟩
theorem LPI.out {c : Nat → Int} {v k : Int} {P : PSt → Option PSt} {o : Option PSt} {s : PSt} {turn : Int} (h : LPI M c v k P o s turn) (e : c (SKP c s.1) ≠ v) : o = some (SKP c s.1, s.2) := by
  obtain ⟨n, h1, h2, h3, h4⟩ := h
  cases n with
  | zero => omega
  | succ n => rw [h2]; show (if c (SKP c s.1) = v then _ else _) = _; rw [if_neg e]
theorem LPI.in {c : Nat → Int} {v k : Int} {P : PSt → Option PSt} {o : Option PSt} {s : PSt} {turn : Int} (h : LPI M c v k P o s turn) (e : c (SKP c s.1) = v) (hs : s.2.1 < 40) : ∃ n : Nat, 40 ≤ n + s.2.1 ∧ o = (P (SKP c s.1 + 1, s.2.1 + 1, s.2.2)).bind (fun t => RLP M c v k P n (t.1, t.2.1, APS M t.2.2 (k, 0))) ∧ turn ≤ s.2.1 := by
  obtain ⟨n, h1, h2, h3, h4⟩ := h
  cases n with
  | zero => omega
  | succ n => exact ⟨n, by omega, by rw [h2]; show (if c (SKP c s.1) = v then _ else _) = _; rw [if_pos e, if_neg (by omega)], h3⟩
theorem LPI.no {c : Nat → Int} {v k : Int} {P : PSt → Option PSt} {o : Option PSt} {s : PSt} {turn : Int} (h : LPI M c v k P o s turn) (e : c (SKP c s.1) = v) (hs : 40 ≤ s.2.1) : o = none := by
  obtain ⟨n, h1, h2, h3, h4⟩ := h
  cases n with
  | zero => omega
  | succ n => rw [h2]; show (if c (SKP c s.1) = v then _ else _) = _; rw [if_pos e, if_pos hs]
theorem LPI.no2 {c : Nat → Int} {v k : Int} {P : PSt → Option PSt} {o : Option PSt} {s : PSt} {turn : Int} (h : LPI M c v k P o s turn) (e : c (SKP c s.1) = v) (hs : s.2.1 < 40) (hn : P (SKP c s.1 + 1, s.2.1 + 1, s.2.2) = none) : o = none := by
  obtain ⟨n, h1, h2, h3⟩ := h.in e hs
  rw [h2, hn]; rfl
theorem LPI.s {c : Nat → Int} {v k : Int} {P : PSt → Option PSt} {o : Option PSt} {s u t : PSt} {turn turn' : Int} (h : LPI M c v k P o s turn) (e : c (SKP c s.1) = v) (hs : s.2.1 < 40) (hy : P (SKP c s.1 + 1, s.2.1 + 1, s.2.2) = some u) (hu : s.2.1 + 1 ≤ u.2.1) (h4 : u.2.1 ≤ 40) (et : t = (u.1, u.2.1, APS M u.2.2 (k, 0))) (ht : turn' = turn + 1) : LPI M c v k P o t turn' := by
  obtain ⟨n, h1, h2, h3⟩ := h.in e hs
  subst et
  exact ⟨n, by show 41 ≤ n + u.2.1; omega, by rw [h2, hy]; rfl, by show turn' ≤ (u.2.1 : Nat); omega, h4⟩
theorem LPI.tn {c : Nat → Int} {v k : Int} {P : PSt → Option PSt} {o : Option PSt} {s : PSt} {turn : Int} (h : LPI M c v k P o s turn) : turn ≤ 40 := by
  obtain ⟨n, h1, h2, h3, h4⟩ := h
  omega
/-- the whole text: its steps, if it is signs -/
def RDA (M : Nat) (c : Nat → Int) : Option (List (Int × Int)) := (RSU M c (RPT M c 6) (0, 0, [])).bind (fun t => if c (SKP c t.1) = -1 then some t.2.2 else none)
/-- no more than 160 steps are kept, and no more are wanted -/
def TK9 (s s' : PSt) : Prop := s.1 = s'.1 ∧ s.2.1 = s'.2.1 ∧ s.2.2 = s'.2.2.take 160
def OK9 (o o' : Option PSt) : Prop := (o = none ∧ o' = none) ∨ ∃ t t', o = some t ∧ o' = some t' ∧ TK9 t t'
def PK9 (P P' : PSt → Option PSt) : Prop := ∀ s s', TK9 s s' → OK9 (P s) (P' s')
theorem TK9.aps {l l' : List (Int × Int)} {x : Int × Int} (h : l = l'.take 160) : APS 160 l x = (APS 200 l' x).take 160 := by
  subst h
  unfold APS
  by_cases a : l'.length < 160
  · rw [List.take_of_length_le (by omega), if_pos a, if_pos (by omega), List.take_of_length_le (by rw [List.length_append]; show l'.length + 1 ≤ 160; omega)]
  · rw [if_neg (by rw [List.length_take]; omega)]
    by_cases b : l'.length < 200
    · rw [if_pos b, List.take_append_of_le_length (by omega)]
    · rw [if_neg b]
theorem TK9.mk {p q m n : Nat} {l l' : List (Int × Int)} (h1 : p = q) (h2 : m = n) (h3 : l = l'.take 160) : TK9 (p, m, l) (q, n, l') := ⟨h1, h2, h3⟩
theorem OK9.n : OK9 none none := Or.inl ⟨rfl, rfl⟩
theorem OK9.y {t t' : PSt} (h : TK9 t t') : OK9 (some t) (some t') := Or.inr ⟨t, t', rfl, rfl, h⟩
theorem OK9.bd {o o' : Option PSt} {P P' : PSt → Option PSt} (h : OK9 o o') (k : PK9 P P') : OK9 (o.bind P) (o'.bind P') := by
  rcases h with ⟨h1, h2⟩ | ⟨t, t', h1, h2, h3⟩
  · rw [h1, h2]; exact OK9.n
  · rw [h1, h2]; exact k t t' h3
theorem PK9.tak (c : Nat → Int) (v : Int) : PK9 (TAK c v) (TAK c v) := fun s s' h => by
  obtain ⟨h1, h2, h3⟩ := h
  unfold TAK
  rw [h1]
  by_cases a : c (SKP c s'.1) = v
  · rw [if_pos a, if_pos a]; exact OK9.y ⟨rfl, h2, h3⟩
  · rw [if_neg a, if_neg a]; exact OK9.n
theorem PK9.rlp (c : Nat → Int) (v k : Int) {P P' : PSt → Option PSt} (h : PK9 P P') : ∀ n, PK9 (RLP 160 c v k P n) (RLP 200 c v k P' n)
  | 0 => fun _ _ _ => OK9.n
  | n + 1 => fun s s' g => by
    obtain ⟨h1, h2, h3⟩ := g
    show OK9 (if c (SKP c s.1) = v then _ else _) (if c (SKP c s'.1) = v then _ else _)
    rw [h1, h2]
    by_cases a : c (SKP c s'.1) = v
    · rw [if_pos a, if_pos a]
      by_cases b : 40 ≤ s'.2.1
      · rw [if_pos b, if_pos b]; exact OK9.n
      · rw [if_neg b, if_neg b]
        exact OK9.bd (h _ _ (TK9.mk rfl rfl h3)) (fun t t' q => PK9.rlp c v k h n _ _ (TK9.mk q.1 q.2.1 (TK9.aps q.2.2)))
    · rw [if_neg a, if_neg a]; exact OK9.y ⟨rfl, h2, h3⟩
theorem PK9.rpr (c : Nat → Int) {P P' : PSt → Option PSt} (h : PK9 P P') : PK9 (RPR 160 c P) (RPR 200 c P') := fun s s' g => OK9.bd (h s s' g) (PK9.rlp c 42 3 h 41)
theorem PK9.rsu (c : Nat → Int) {P P' : PSt → Option PSt} (h : PK9 P P') : PK9 (RSU 160 c P) (RSU 200 c P') := fun s s' g => OK9.bd (PK9.rpr c h s s' g) (PK9.rlp c 43 2 (PK9.rpr c h) 41)
theorem PK9.nub (c : Nat → Int) (k m : Int) : PK9 (NUB 160 c k m) (NUB 200 c k m) := fun s s' g => by
  obtain ⟨h1, h2, h3⟩ := g
  unfold NUB
  rw [h1]
  by_cases a : 1 ≤ DGF c 4 s'.1 ∧ DGF c 4 s'.1 ≤ 3 ∧ VLU c s'.1 (DGF c 4 s'.1) ≤ m
  · rw [if_pos a, if_pos a]; exact OK9.y (TK9.mk rfl h2 (TK9.aps h3))
  · rw [if_neg a, if_neg a]; exact OK9.n
theorem PK9.rlt (c : Nat → Int) : PK9 (RLU 160 c) (RLU 200 c) := fun s s' g => by
  obtain ⟨h1, h2, h3⟩ := g
  unfold RLU
  rw [h1, h2]
  by_cases a : 40 ≤ s'.2.1 ∨ (97 ≤ c (s'.1 + 1) ∧ c (s'.1 + 1) ≤ 122) ∨ (65 ≤ c (s'.1 + 1) ∧ c (s'.1 + 1) ≤ 90)
  · rw [if_pos a, if_pos a]; exact OK9.n
  · rw [if_neg a, if_neg a]; exact OK9.y (TK9.mk rfl rfl (TK9.aps h3))
theorem PK9.rnb (c : Nat → Int) : PK9 (RNB 160 c) (RNB 200 c) := fun s s' g => by
  obtain ⟨h1, h2, h3⟩ := g
  unfold RNB
  rw [h2]
  by_cases a : 40 ≤ s'.2.1
  · rw [if_pos a, if_pos a]; exact OK9.n
  · rw [if_neg a, if_neg a]; exact PK9.nub c 1 999 _ _ (TK9.mk h1 rfl h3)
theorem PK9.rov (c : Nat → Int) {S S' : PSt → Option PSt} (h : PK9 S S') : PK9 (ROV 160 c S) (ROV 200 c S') := fun s s' g => by
  obtain ⟨h1, h2, h3⟩ := g
  unfold ROV
  rw [h2]
  by_cases a : 40 ≤ s'.2.1
  · rw [if_pos a, if_pos a]; exact OK9.n
  · rw [if_neg a, if_neg a]
    exact OK9.bd (h _ _ (TK9.mk (by rw [h1]) rfl h3)) (fun t t' q => OK9.bd (PK9.tak c 44 t t' q) (fun t t' q => OK9.bd (h t t' q) (fun t t' q => OK9.bd (PK9.tak c 93 t t' q) (fun t t' q => PK9.nub c 4 8 _ _ (TK9.mk (by rw [q.1]) q.2.1 q.2.2)))))
theorem PK9.if {A : Prop} {_ : Decidable A} {a a' b b' : Option PSt} (h : A → OK9 a a') (k : ¬ A → OK9 b b') : OK9 (if A then a else b) (if A then a' else b') := by
  by_cases x : A
  · rw [if_pos x, if_pos x]; exact h x
  · rw [if_neg x, if_neg x]; exact k x
theorem PK9.rpt (c : Nat → Int) : ∀ k, PK9 (RPT 160 c k) (RPT 200 c k)
  | 0 => fun s s' g => by
    obtain ⟨h1, h2, h3⟩ := g
    show OK9 (if c (SKP c s.1) = 102 then RLU 160 c (SKP c s.1, s.2) else if 48 ≤ c (SKP c s.1) ∧ c (SKP c s.1) ≤ 57 then RNB 160 c (SKP c s.1, s.2) else none) (if c (SKP c s'.1) = 102 then RLU 200 c (SKP c s'.1, s'.2) else if 48 ≤ c (SKP c s'.1) ∧ c (SKP c s'.1) ≤ 57 then RNB 200 c (SKP c s'.1, s'.2) else none)
    rw [h1]
    exact PK9.if (fun _ => PK9.rlt c _ _ ⟨rfl, h2, h3⟩) (fun _ => PK9.if (fun _ => PK9.rnb c _ _ ⟨rfl, h2, h3⟩) (fun _ => OK9.n))
  | k + 1 => fun s s' g => by
    obtain ⟨h1, h2, h3⟩ := g
    have ih := PK9.rsu c (PK9.rpt c k)
    show OK9 (if c (SKP c s.1) = 102 then RLU 160 c (SKP c s.1, s.2) else if 48 ≤ c (SKP c s.1) ∧ c (SKP c s.1) ≤ 57 then RNB 160 c (SKP c s.1, s.2) else
      if c (SKP c s.1) = 40 then (RSU 160 c (RPT 160 c k) (SKP c s.1 + 1, s.2)).bind (TAK c 41) else
      if c (SKP c s.1) = 91 then ROV 160 c (RSU 160 c (RPT 160 c k)) (SKP c s.1, s.2) else
      if c (SKP c s.1) = 45 then (RPT 160 c k (SKP c s.1 + 1, s.2)).bind (fun t => some (t.1, t.2.1, APS 160 t.2.2 (5, 0))) else none) (if c (SKP c s'.1) = 102 then RLU 200 c (SKP c s'.1, s'.2) else if 48 ≤ c (SKP c s'.1) ∧ c (SKP c s'.1) ≤ 57 then RNB 200 c (SKP c s'.1, s'.2) else
      if c (SKP c s'.1) = 40 then (RSU 200 c (RPT 200 c k) (SKP c s'.1 + 1, s'.2)).bind (TAK c 41) else
      if c (SKP c s'.1) = 91 then ROV 200 c (RSU 200 c (RPT 200 c k)) (SKP c s'.1, s'.2) else
      if c (SKP c s'.1) = 45 then (RPT 200 c k (SKP c s'.1 + 1, s'.2)).bind (fun t => some (t.1, t.2.1, APS 200 t.2.2 (5, 0))) else none)
    rw [h1]
    exact PK9.if (fun _ => PK9.rlt c _ _ ⟨rfl, h2, h3⟩) (fun _ => PK9.if (fun _ => PK9.rnb c _ _ ⟨rfl, h2, h3⟩) (fun _ => PK9.if (fun _ => OK9.bd (ih _ _ ⟨rfl, h2, h3⟩) (PK9.tak c 41)) (fun _ => PK9.if (fun _ => PK9.rov c ih _ _ ⟨rfl, h2, h3⟩) (fun _ => PK9.if (fun _ => OK9.bd (PK9.rpt c k _ _ ⟨rfl, h2, h3⟩) (fun t t' q => OK9.y (TK9.mk q.1 q.2.1 (TK9.aps q.2.2)))) (fun _ => OK9.n)))))
/-- how many things, how many steps: k deeper ones left -/
def LN9 (k : Nat) (s t : PSt) : Prop := s.2.1 ≤ t.2.1 ∧ t.2.1 ≤ 40 ∧ (t.2.1 - s.2.1) % 2 = 1 ∧ 2 * t.2.2.length ≤ 2 * s.2.2.length + k * (t.2.1 - s.2.1 + 1) + 2 * (t.2.1 - s.2.1)
def LP9 (k : Nat) (s t : PSt) : Prop := s.2.1 ≤ t.2.1 ∧ t.2.1 ≤ 40 ∧ (t.2.1 - s.2.1) % 2 = 0 ∧ 2 * t.2.2.length ≤ 2 * s.2.2.length + k * (t.2.1 - s.2.1) + 2 * (t.2.1 - s.2.1)
def PN9 (k : Nat) (P : PSt → Option PSt) : Prop := ∀ s t, P s = some t → s.2.1 ≤ 40 → LN9 k s t
theorem APS.ln {l : List (Int × Int)} {x : Int × Int} : (APS M l x).length ≤ l.length + 1 := by
  unfold APS
  by_cases q : l.length < M
  · rw [if_pos q, List.length_append]; exact Nat.le_refl _
  · rw [if_neg q]; omega
theorem OB9.y {o : Option PSt} {P : PSt → Option PSt} {t : PSt} (h : o.bind P = some t) : ∃ u, o = some u ∧ P u = some t := by
  cases o with
  | none => cases h
  | some u => exact ⟨u, rfl, h⟩
theorem LP9.rlp (c : Nat → Int) (v w : Int) {k : Nat} {P : PSt → Option PSt} (h : PN9 k P) : ∀ n s t, RLP M c v w P n s = some t → s.2.1 ≤ 40 → LP9 k s t
  | 0, _, _, e, _ => by cases e
  | n + 1, s, t, e, hs => by
    have e : (if c (SKP c s.1) = v then (if 40 ≤ s.2.1 then none else (P (SKP c s.1 + 1, s.2.1 + 1, s.2.2)).bind (fun t => RLP M c v w P n (t.1, t.2.1, APS M t.2.2 (w, 0)))) else some (SKP c s.1, s.2)) = some t := e
    by_cases a : c (SKP c s.1) = v
    · rw [if_pos a] at e
      by_cases b : 40 ≤ s.2.1
      · rw [if_pos b] at e; cases e
      · rw [if_neg b] at e
        obtain ⟨u, e1, e2⟩ := OB9.y e
        obtain ⟨g1, g2, g3, g4⟩ := h _ _ e1 (by show s.2.1 + 1 ≤ 40; omega)
        have g1 : s.2.1 + 1 ≤ u.2.1 := g1
        have g3 : (u.2.1 - (s.2.1 + 1)) % 2 = 1 := g3
        have g4 : 2 * u.2.2.length ≤ 2 * s.2.2.length + k * (u.2.1 - (s.2.1 + 1) + 1) + 2 * (u.2.1 - (s.2.1 + 1)) := g4
        obtain ⟨r1, r2, r3, r4⟩ := LP9.rlp c v w h n _ _ e2 g2
        have r1 : u.2.1 ≤ t.2.1 := r1
        have r3 : (t.2.1 - u.2.1) % 2 = 0 := r3
        have r4 : 2 * t.2.2.length ≤ 2 * (APS M u.2.2 (w, 0)).length + k * (t.2.1 - u.2.1) + 2 * (t.2.1 - u.2.1) := r4
        have al := APS.ln (M := M) (l := u.2.2) (x := (w, 0))
        refine ⟨by omega, r2, by omega, ?_⟩
        rw [show u.2.1 - (s.2.1 + 1) + 1 = u.2.1 - s.2.1 from by omega] at g4
        have d : t.2.1 - s.2.1 = (u.2.1 - s.2.1) + (t.2.1 - u.2.1) := by omega
        rw [d, Nat.mul_add]
        omega
    · rw [if_neg a] at e
      cases e
      exact ⟨Nat.le_refl _, hs, by show (s.2.1 - s.2.1) % 2 = 0; rw [Nat.sub_self], by show 2 * s.2.2.length ≤ _; omega⟩
theorem LN9.tr {k : Nat} {s u t : PSt} (h : LN9 k s u) (g : LP9 k u t) : LN9 k s t := by
  obtain ⟨h1, h2, h3, h4⟩ := h
  obtain ⟨g1, g2, g3, g4⟩ := g
  refine ⟨by omega, g2, by omega, ?_⟩
  have d : t.2.1 - s.2.1 + 1 = (u.2.1 - s.2.1 + 1) + (t.2.1 - u.2.1) := by omega
  rw [d, Nat.mul_add]
  omega
theorem PN9.rpr (c : Nat → Int) {k : Nat} {P : PSt → Option PSt} (h : PN9 k P) : PN9 k (RPR M c P) := fun s t e hs => by
  obtain ⟨u, e1, e2⟩ := OB9.y (show (P s).bind (RLP M c 42 3 P 41) = some t from e)
  have a := h s u e1 hs
  exact a.tr (LP9.rlp c 42 3 h 41 u t e2 a.2.1)
theorem PN9.rsu (c : Nat → Int) {k : Nat} {P : PSt → Option PSt} (h : PN9 k P) : PN9 k (RSU M c P) := fun s t e hs => by
  obtain ⟨u, e1, e2⟩ := OB9.y (show (RPR M c P s).bind (RLP M c 43 2 (RPR M c P) 41) = some t from e)
  have a := PN9.rpr c h s u e1 hs
  exact a.tr (LP9.rlp c 43 2 (PN9.rpr c h) 41 u t e2 a.2.1)
theorem NUB.ln {c : Nat → Int} {w m : Int} {s t : PSt} (e : NUB M c w m s = some t) : t.2.1 = s.2.1 ∧ t.2.2.length ≤ s.2.2.length + 1 := by
  unfold NUB at e
  by_cases a : 1 ≤ DGF c 4 s.1 ∧ DGF c 4 s.1 ≤ 3 ∧ VLU c s.1 (DGF c 4 s.1) ≤ m
  · rw [if_pos a] at e; cases e; exact ⟨rfl, APS.ln⟩
  · rw [if_neg a] at e; cases e
theorem TAK.ln {c : Nat → Int} {v : Int} {s t : PSt} (e : TAK c v s = some t) : t.2 = s.2 := by
  unfold TAK at e
  by_cases a : c (SKP c s.1) = v
  · rw [if_pos a] at e; cases e; rfl
  · rw [if_neg a] at e; cases e
theorem LN9.one {k : Nat} {s t : PSt} (h1 : t.2.1 = s.2.1 + 1) (h4 : t.2.1 ≤ 40) (h2 : t.2.2.length ≤ s.2.2.length + 1) : LN9 k s t := by
  refine ⟨by omega, h4, by rw [h1]; omega, ?_⟩
  rw [h1, show s.2.1 + 1 - s.2.1 = 1 from by omega]
  omega
theorem LN9.up {k : Nat} {s t : PSt} (h : LN9 k s t) : LN9 (k + 1) s t := by
  obtain ⟨h1, h2, h3, h4⟩ := h
  refine ⟨h1, h2, h3, ?_⟩
  rw [Nat.add_mul]
  omega
theorem PN9.rlt (c : Nat → Int) {k : Nat} : PN9 k (RLU M c) := fun s t e hs => by
  unfold RLU at e
  by_cases a : 40 ≤ s.2.1 ∨ (97 ≤ c (s.1 + 1) ∧ c (s.1 + 1) ≤ 122) ∨ (65 ≤ c (s.1 + 1) ∧ c (s.1 + 1) ≤ 90)
  · rw [if_pos a] at e; cases e
  · rw [if_neg a] at e; cases e; exact LN9.one rfl (by show s.2.1 + 1 ≤ 40; omega) APS.ln
theorem PN9.rnb (c : Nat → Int) {k : Nat} : PN9 k (RNB M c) := fun s t e hs => by
  unfold RNB at e
  by_cases a : 40 ≤ s.2.1
  · rw [if_pos a] at e; cases e
  · rw [if_neg a] at e
    obtain ⟨g1, g2⟩ := NUB.ln e
    have g1 : t.2.1 = s.2.1 + 1 := g1
    exact LN9.one g1 (by omega) g2
theorem PN9.rov (c : Nat → Int) {k : Nat} {S : PSt → Option PSt} (h : PN9 k S) : PN9 (k + 1) (ROV M c S) := fun s t e hs => by
  unfold ROV at e
  by_cases a : 40 ≤ s.2.1
  · rw [if_pos a] at e; cases e
  · rw [if_neg a] at e
    obtain ⟨u1, e1, e⟩ := OB9.y e
    obtain ⟨u2, e2, e⟩ := OB9.y e
    obtain ⟨u3, e3, e⟩ := OB9.y e
    obtain ⟨u4, e4, e⟩ := OB9.y e
    obtain ⟨n1, n2⟩ := NUB.ln e
    have k2 := TAK.ln e2
    have k4 := TAK.ln e4
    obtain ⟨g1, g2, g3, g4⟩ := h _ _ e1 (by show s.2.1 + 1 ≤ 40; omega)
    obtain ⟨r1, r2, r3, r4⟩ := h _ _ e3 (by rw [k2]; exact g2)
    rw [k2] at r1 r3 r4
    have n1 : t.2.1 = u4.2.1 := n1
    have n2 : t.2.2.length ≤ u4.2.2.length + 1 := n2
    rw [k4] at n1 n2
    have g1 : s.2.1 + 1 ≤ u1.2.1 := g1
    have g3 : (u1.2.1 - (s.2.1 + 1)) % 2 = 1 := g3
    have g4 : 2 * u1.2.2.length ≤ 2 * s.2.2.length + k * (u1.2.1 - (s.2.1 + 1) + 1) + 2 * (u1.2.1 - (s.2.1 + 1)) := g4
    refine ⟨by omega, by omega, by omega, ?_⟩
    have d : t.2.1 - s.2.1 + 1 = (u1.2.1 - (s.2.1 + 1) + 1) + (u3.2.1 - u1.2.1 + 1) := by omega
    rw [d, Nat.add_mul, Nat.mul_add]
    omega
theorem PN9.rpt (c : Nat → Int) : ∀ k, PN9 k (RPT M c k)
  | 0 => fun s t e hs => by
    have e : (if c (SKP c s.1) = 102 then RLU M c (SKP c s.1, s.2) else if 48 ≤ c (SKP c s.1) ∧ c (SKP c s.1) ≤ 57 then RNB M c (SKP c s.1, s.2) else none) = some t := e
    by_cases a : c (SKP c s.1) = 102
    · rw [if_pos a] at e; have g := PN9.rlt (k := 0) c _ _ e hs; exact g
    · rw [if_neg a] at e
      by_cases b : 48 ≤ c (SKP c s.1) ∧ c (SKP c s.1) ≤ 57
      · rw [if_pos b] at e; have g := PN9.rnb (k := 0) c _ _ e hs; exact g
      · rw [if_neg b] at e; cases e
  | k + 1 => fun s t e hs => by
    by_cases a : c (SKP c s.1) = 102
    · rw [RPT.l a] at e; have g := PN9.rlt (k := k + 1) c _ _ e hs; exact g
    · by_cases b : 48 ≤ c (SKP c s.1) ∧ c (SKP c s.1) ≤ 57
      · rw [RPT.d b] at e; have g := PN9.rnb (k := k + 1) c _ _ e hs; exact g
      · by_cases p : c (SKP c s.1) = 40
        · rw [RPT.p p] at e
          obtain ⟨u, e1, e2⟩ := OB9.y e
          have g := (PN9.rsu c (PN9.rpt c k) _ _ e1 hs).up
          have k2 := TAK.ln e2
          have g : LN9 (k + 1) s u := g
          unfold LN9 at *
          rw [k2]; exact g
        · by_cases q : c (SKP c s.1) = 91
          · rw [RPT.o q] at e
            have g := PN9.rov c (PN9.rsu c (PN9.rpt c k)) _ _ e hs; exact g
          · by_cases r : c (SKP c s.1) = 45
            · rw [RPT.m r] at e
              obtain ⟨u, e1, e2⟩ := OB9.y e
              cases e2
              obtain ⟨g1, g2, g3, g4⟩ := PN9.rpt c k _ _ e1 hs
              have g1 : s.2.1 ≤ u.2.1 := g1
              have g3 : (u.2.1 - s.2.1) % 2 = 1 := g3
              have g4 : 2 * u.2.2.length ≤ 2 * s.2.2.length + k * (u.2.1 - s.2.1 + 1) + 2 * (u.2.1 - s.2.1) := g4
              refine ⟨g1, g2, g3, ?_⟩
              have al := APS.ln (M := M) (l := u.2.2) (x := ((5 : Int), (0 : Int)))
              show 2 * (APS M u.2.2 (5, 0)).length ≤ 2 * s.2.2.length + (k + 1) * (u.2.1 - s.2.1 + 1) + 2 * (u.2.1 - s.2.1)
              rw [Nat.add_mul]
              omega
            · rw [RPT.n a b p q r] at e; cases e
theorem RDA.ln {c : Nat → Int} {l : List (Int × Int)} (h : RDA M c = some l) : l.length ≤ 159 := by
  obtain ⟨t, e1, e2⟩ : ∃ t, RSU M c (RPT M c 6) (0, 0, []) = some t ∧ (if c (SKP c t.1) = -1 then some t.2.2 else none) = some l := by
    unfold RDA at h
    cases e : RSU M c (RPT M c 6) (0, 0, []) with
    | none => rw [e] at h; cases h
    | some t => rw [e] at h; exact ⟨t, rfl, h⟩
  obtain ⟨-, g2, g3, g4⟩ := PN9.rsu c (PN9.rpt c 6) _ _ e1 (Nat.zero_le _)
  have g3 : (t.2.1 - 0) % 2 = 1 := g3
  have g4 : 2 * t.2.2.length ≤ 2 * 0 + 6 * (t.2.1 - 0 + 1) + 2 * (t.2.1 - 0) := g4
  by_cases a : c (SKP c t.1) = -1
  · rw [if_pos a] at e2; cases e2; omega
  · rw [if_neg a] at e2; cases e2
/-- how many steps are kept makes no difference -/
theorem RDA.eq (c : Nat → Int) : RDA 160 c = RDA 200 c := by
  have h := PK9.rsu c (PK9.rpt c 6) (0, 0, []) (0, 0, []) ⟨rfl, rfl, rfl⟩
  rcases h with ⟨h1, h2⟩ | ⟨t, t', h1, h2, g1, g2, g3⟩
  · unfold RDA; rw [h1, h2]
  · have b : RDA 160 c = if c (SKP c t.1) = -1 then some t.2.2 else none := by unfold RDA; rw [h1]; rfl
    have b' : RDA 200 c = if c (SKP c t'.1) = -1 then some t'.2.2 else none := by unfold RDA; rw [h2]; rfl
    by_cases a : c (SKP c t'.1) = -1
    · rw [if_pos a] at b'
      have l := RDA.ln b'
      rw [b, b', g1, if_pos a, g3, List.take_of_length_le (by omega)]
    · rw [b, b', g1, if_neg a, if_neg a]
end Pul

/-! the grammar: the height of what is told, how many things it has -/
section Puh
variable {M : Nat}
def HG1 (k : Int) : Int := if k ≤ 1 then 1 else if k = 5 then 0 else -1
def CN1 (k : Int) : Int := if k = 5 then 0 else 1
def HGL : List (Int × Int) → Int
  | [] => 0
  | x :: l => HG1 x.1 + HGL l
def CNL : List (Int × Int) → Int
  | [] => 0
  | x :: l => CN1 x.1 + CNL l
theorem HGL.ap : ∀ l m : List (Int × Int), HGL (l ++ m) = HGL l + HGL m ∧ CNL (l ++ m) = CNL l + CNL m
  | [], m => by
    refine ⟨?_, ?_⟩
    · show HGL m = 0 + HGL m; omega
    · show CNL m = 0 + CNL m; omega
  | x :: l, m => by
    obtain ⟨h1, h2⟩ := HGL.ap l m
    refine ⟨?_, ?_⟩
    · show HG1 x.1 + HGL (l ++ m) = HG1 x.1 + HGL l + HGL m; omega
    · show CN1 x.1 + CNL (l ++ m) = CN1 x.1 + CNL l + CNL m; omega
/-- one high, of forty things at most -/
def HLV (l : List (Int × Int)) : Prop := HGL l = 1 ∧ CNL l ≤ 40
def NHG (M : Nat) (d e : Int) (s t : PSt) : Prop := s.2.2.length ≤ t.2.2.length ∧ (t.2.2.length < M → HGL t.2.2 = HGL s.2.2 + d ∧ CNL t.2.2 - (t.2.1 : Int) = CNL s.2.2 - (s.2.1 : Int) + e)
theorem NHG.rf {s t : PSt} (h : t.2 = s.2) : NHG M 0 0 s t := by
  unfold NHG; rw [h]
  exact ⟨Nat.le_refl _, fun _ => ⟨by omega, by omega⟩⟩
theorem NHG.tr {d e d' e' f g : Int} {s u t : PSt} (h : NHG M d e s u) (k : NHG M d' e' u t) (hf : f = d + d') (hg : g = e + e') : NHG M f g s t := ⟨Nat.le_trans h.1 k.1, fun q => by
  have a := k.2 q
  have b := h.2 (by have := k.1; omega)
  exact ⟨by omega, by omega⟩⟩
theorem NHG.aps {k n : Int} {s t : PSt} (h1 : t.2.1 = s.2.1) (h2 : t.2.2 = APS M s.2.2 (k, n)) : NHG M (HG1 k) (CN1 k) s t := by
  unfold NHG; rw [h1, h2]
  unfold APS
  by_cases q : s.2.2.length < M
  · rw [if_pos q]
    obtain ⟨a1, a2⟩ := HGL.ap s.2.2 [(k, n)]
    have b1 : HGL [(k, n)] = HG1 k + 0 := rfl
    have b2 : CNL [(k, n)] = CN1 k + 0 := rfl
    exact ⟨by rw [List.length_append]; omega, fun _ => ⟨by omega, by omega⟩⟩
  · rw [if_neg q]; exact ⟨Nat.le_refl _, fun z => absurd z q⟩
theorem NHG.ct {s t : PSt} (h1 : t.2.1 = s.2.1 + 1) (h2 : t.2.2 = s.2.2) : NHG M 0 (-1) s t := by
  unfold NHG; rw [h1, h2]
  exact ⟨Nat.le_refl _, fun _ => ⟨by omega, by omega⟩⟩
def PHG (M : Nat) (P : PSt → Option PSt) : Prop := ∀ s t, P s = some t → NHG M 1 0 s t
theorem PHG.tak {c : Nat → Int} {v : Int} {s t : PSt} (e : TAK c v s = some t) : NHG M 0 0 s t := NHG.rf (TAK.ln e)
theorem PHG.rlp (c : Nat → Int) (v : Int) {k : Int} {P : PSt → Option PSt} (hk : HG1 k = -1) (hk2 : CN1 k = 1) (h : PHG M P) : ∀ n s t, RLP M c v k P n s = some t → NHG M 0 0 s t
  | 0, _, _, e => by cases e
  | n + 1, s, t, e => by
    have e : (if c (SKP c s.1) = v then (if 40 ≤ s.2.1 then none else (P (SKP c s.1 + 1, s.2.1 + 1, s.2.2)).bind (fun t => RLP M c v k P n (t.1, t.2.1, APS M t.2.2 (k, 0)))) else some (SKP c s.1, s.2)) = some t := e
    by_cases a : c (SKP c s.1) = v
    · rw [if_pos a] at e
      by_cases b : 40 ≤ s.2.1
      · rw [if_pos b] at e; cases e
      · rw [if_neg b] at e
        obtain ⟨u, e1, e2⟩ := OB9.y e
        have g0 : NHG M 0 (-1) s (SKP c s.1 + 1, s.2.1 + 1, s.2.2) := NHG.ct rfl rfl
        have g1 := h _ _ e1
        have g2 : NHG M (HG1 k) (CN1 k) u (u.1, u.2.1, APS M u.2.2 (k, 0)) := NHG.aps rfl rfl
        have g3 := PHG.rlp c v hk hk2 h n _ _ e2
        exact ((g0.tr g1 (f := 1) (g := -1) (by omega) (by omega)).tr g2 (f := 0) (g := 0) (by omega) (by omega)).tr g3 (by omega) (by omega)
    · rw [if_neg a] at e; cases e
      exact NHG.rf rfl
theorem PHG.rpr (c : Nat → Int) {P : PSt → Option PSt} (h : PHG M P) : PHG M (RPR M c P) := fun s t e => by
  obtain ⟨u, e1, e2⟩ := OB9.y (show (P s).bind (RLP M c 42 3 P 41) = some t from e)
  exact (h s u e1).tr (PHG.rlp c 42 (by decide) (by decide) h 41 u t e2) (by omega) (by omega)
theorem PHG.rsu (c : Nat → Int) {P : PSt → Option PSt} (h : PHG M P) : PHG M (RSU M c P) := fun s t e => by
  obtain ⟨u, e1, e2⟩ := OB9.y (show (RPR M c P s).bind (RLP M c 43 2 (RPR M c P) 41) = some t from e)
  exact (PHG.rpr c h s u e1).tr (PHG.rlp c 43 (by decide) (by decide) (PHG.rpr c h) 41 u t e2) (by omega) (by omega)
theorem PHG.nub {c : Nat → Int} {w k : Int} {s t : PSt} (e : NUB M c w k s = some t) : NHG M (HG1 w) (CN1 w) s t := by
  unfold NUB at e
  by_cases a : 1 ≤ DGF c 4 s.1 ∧ DGF c 4 s.1 ≤ 3 ∧ VLU c s.1 (DGF c 4 s.1) ≤ k
  · rw [if_pos a] at e; cases e
    exact NHG.aps rfl rfl
  · rw [if_neg a] at e; cases e
theorem PHG.rlt (c : Nat → Int) : PHG M (RLU M c) := fun s t e => by
  unfold RLU at e
  by_cases a : 40 ≤ s.2.1 ∨ (97 ≤ c (s.1 + 1) ∧ c (s.1 + 1) ≤ 122) ∨ (65 ≤ c (s.1 + 1) ∧ c (s.1 + 1) ≤ 90)
  · rw [if_pos a] at e; cases e
  · rw [if_neg a] at e; cases e
    have g0 : NHG M 0 (-1) s (s.1, s.2.1 + 1, s.2.2) := NHG.ct rfl rfl
    have g1 : NHG M (HG1 0) (CN1 0) (s.1, s.2.1 + 1, s.2.2) (s.1 + 1, s.2.1 + 1, APS M s.2.2 (0, 0)) := NHG.aps rfl rfl
    exact g0.tr g1 (by decide) (by decide)
theorem PHG.rnb (c : Nat → Int) : PHG M (RNB M c) := fun s t e => by
  unfold RNB at e
  by_cases a : 40 ≤ s.2.1
  · rw [if_pos a] at e; cases e
  · rw [if_neg a] at e
    have g0 : NHG M 0 (-1) s (s.1, s.2.1 + 1, s.2.2) := NHG.ct rfl rfl
    exact g0.tr (PHG.nub e) (by decide) (by decide)
theorem PHG.rov (c : Nat → Int) {S : PSt → Option PSt} (h : PHG M S) : PHG M (ROV M c S) := fun s t e => by
  unfold ROV at e
  by_cases a : 40 ≤ s.2.1
  · rw [if_pos a] at e; cases e
  · rw [if_neg a] at e
    obtain ⟨u1, e1, e⟩ := OB9.y e
    obtain ⟨u2, e2, e⟩ := OB9.y e
    obtain ⟨u3, e3, e⟩ := OB9.y e
    obtain ⟨u4, e4, e⟩ := OB9.y e
    have l0 : NHG M 0 (-1) s (s.1 + 1, s.2.1 + 1, s.2.2) := NHG.ct rfl rfl
    have l1 := h _ _ e1
    have l2 := PHG.tak (M := M) e2
    have l3 := h _ _ e3
    have l4 := PHG.tak (M := M) e4
    have l45 : NHG M 0 0 u4 (SKP c u4.1, u4.2) := NHG.rf rfl
    have l5 := PHG.nub e
    exact ((((((l0.tr l1 (f := 1) (g := -1) (by omega) (by omega)).tr l2 (f := 1) (g := -1) (by omega) (by omega)).tr l3 (f := 2) (g := -1) (by omega) (by omega)).tr l4 (f := 2) (g := -1) (by omega) (by omega)).tr l45 (f := 2) (g := -1) (by omega) (by omega)).tr l5 (by decide) (by decide))
theorem PHG.rpt (c : Nat → Int) : ∀ k, PHG M (RPT M c k)
  | 0 => fun s t e => by
    have g0 : NHG M 0 0 s (SKP c s.1, s.2) := NHG.rf rfl
    by_cases a : c (SKP c s.1) = 102
    · rw [RPT.l a] at e; exact g0.tr (PHG.rlt c _ _ e) (by omega) (by omega)
    · by_cases b : 48 ≤ c (SKP c s.1) ∧ c (SKP c s.1) ≤ 57
      · rw [RPT.d b] at e; exact g0.tr (PHG.rnb c _ _ e) (by omega) (by omega)
      · rw [RPT.z a b] at e; cases e
  | k + 1 => fun s t e => by
    have g0 : NHG M 0 0 s (SKP c s.1, s.2) := NHG.rf rfl
    have g9 : NHG M 0 0 s (SKP c s.1 + 1, s.2) := NHG.rf rfl
    by_cases a : c (SKP c s.1) = 102
    · rw [RPT.l a] at e; exact g0.tr (PHG.rlt c _ _ e) (by omega) (by omega)
    · by_cases b : 48 ≤ c (SKP c s.1) ∧ c (SKP c s.1) ≤ 57
      · rw [RPT.d b] at e; exact g0.tr (PHG.rnb c _ _ e) (by omega) (by omega)
      · by_cases p : c (SKP c s.1) = 40
        · rw [RPT.p p] at e
          obtain ⟨u, e1, e2⟩ := OB9.y e
          exact (g9.tr (PHG.rsu c (PHG.rpt c k) _ _ e1) (f := 1) (g := 0) (by omega) (by omega)).tr (PHG.tak e2) (by omega) (by omega)
        · by_cases q : c (SKP c s.1) = 91
          · rw [RPT.o q] at e
            exact g0.tr (PHG.rov c (PHG.rsu c (PHG.rpt c k)) _ _ e) (by omega) (by omega)
          · by_cases r : c (SKP c s.1) = 45
            · rw [RPT.m r] at e
              obtain ⟨u, e1, e2⟩ := OB9.y e
              have g := PHG.rpt c k (SKP c s.1 + 1, s.2) u e1
              cases e2
              have g2 : NHG M (HG1 5) (CN1 5) u (u.1, u.2.1, APS M u.2.2 (5, 0)) := NHG.aps rfl rfl
              exact (g9.tr g (f := 1) (g := 0) (by omega) (by omega)).tr g2 (by decide) (by decide)
            · rw [RPT.n a b p q r] at e; cases e
/-- what is told stands one high -/
theorem RDA.h1 {c : Nat → Int} {l : List (Int × Int)} (h : RDA 160 c = some l) : HLV l := by
  have hl := RDA.ln h
  obtain ⟨t, e1, e2⟩ : ∃ t, RSU 160 c (RPT 160 c 6) (0, 0, []) = some t ∧ (if c (SKP c t.1) = -1 then some t.2.2 else none) = some l := by
    unfold RDA at h
    cases e : RSU 160 c (RPT 160 c 6) (0, 0, []) with
    | none => rw [e] at h; cases h
    | some t => rw [e] at h; exact ⟨t, rfl, h⟩
  obtain ⟨-, g⟩ := PHG.rsu c (PHG.rpt c 6) _ _ e1
  obtain ⟨-, g4, -, -⟩ := PN9.rsu c (PN9.rpt c 6) _ _ e1 (Nat.zero_le _)
  by_cases a : c (SKP c t.1) = -1
  · rw [if_pos a] at e2; cases e2
    obtain ⟨k1, k2⟩ := g (by omega)
    have k1 : HGL t.2.2 = 0 + 1 := k1
    have k2 : CNL t.2.2 - (t.2.1 : Int) = 0 - ((0 : Nat) : Int) + 0 := k2
    exact ⟨by omega, by omega⟩
  · rw [if_neg a] at e2; cases e2
end Puh

/-! rank and weight: the class's reckoning and the reference's, on the signs alone -/
abbrev TSt := Nat × (Nat → Int)
def UPD (g : Nat → Int) (j : Nat) (v : Int) : Nat → Int := fun i => if i = j then v else g i
theorem UPD.s {g : Nat → Int} {j : Nat} {v : Int} : UPD g j v j = v := if_pos rfl
theorem UPD.k {g : Nat → Int} {i j : Nat} {v : Int} (h : i ≠ j) : UPD g j v i = g i := if_neg h
/-- one step, the class's: none where two totals differ -/
def TC1 (w : Int) (x : Int × Int) (s : TSt) : Option TSt :=
  if x.1 ≤ 1 then (if s.1 < 20 then some (s.1 + 1, UPD s.2 s.1 (if x.1 = 0 ∧ w = 0 then 1 else 0)) else none)
  else if x.1 = 5 then some s
  else if s.1 < 2 ∨ 20 < s.1 then none
  else if x.1 = 2 then (if s.2 (s.1 - 2) = s.2 (s.1 - 1) then some (s.1 - 1, s.2) else none)
  else some (s.1 - 1, UPD s.2 (s.1 - 2) (s.2 (s.1 - 2) + (s.2 (s.1 - 1) + (if x.1 = 4 ∧ w ≠ 0 then x.2 else 0))))
def TCL (w : Int) : List (Int × Int) → TSt → Option TSt
  | [], s => some s
  | x :: l, s => (TC1 w x s).bind (TCL w l)
def RKC : Option TSt → Int
  | none => -1
  | some s => if s.1 = 1 then s.2 0 else -1
/-- one step, the reference's: -1 where two differ -/
def TR1 (w : Int) (x : Int × Int) (s : TSt) : TSt :=
  if x.1 ≤ 1 then (s.1 + 1, UPD s.2 s.1 (if x.1 = 0 ∧ w = 0 then 1 else 0))
  else if x.1 = 5 then s
  else (s.1 - 1, UPD s.2 (s.1 - 2) (if s.2 (s.1 - 2) < 0 ∨ s.2 (s.1 - 1) < 0 ∨ (x.1 = 2 ∧ s.2 (s.1 - 2) ≠ s.2 (s.1 - 1)) then -1 else if x.1 = 2 then s.2 (s.1 - 2) else s.2 (s.1 - 2) + s.2 (s.1 - 1) + (if w ≠ 0 ∧ x.1 = 4 then x.2 else 0)))
def TRL (w : Int) : List (Int × Int) → TSt → TSt
  | [], s => s
  | x :: l, s => TRL w l (TR1 w x s)
/-- the heights of a row: enough stands there for every step -/
def HOK : List (Int × Int) → Int → Prop
  | [], h => h = 1
  | x :: l, h => 0 ≤ x.1 ∧ x.1 ≤ 5 ∧ 0 ≤ x.2 ∧ 0 ≤ h ∧ (x.1 ≤ 1 → h ≤ 19) ∧ (2 ≤ x.1 → x.1 ≤ 4 → 2 ≤ h ∧ h ≤ 20) ∧ HOK l (h + HG1 x.1)
/-- dead: some total is none -/
def DED (s : TSt) : Prop := ∃ j, j < s.1 ∧ s.2 j < 0
def GE1 (s : TSt) : Prop := ∀ j, j < s.1 → -1 ≤ s.2 j
theorem TR1.ge {w : Int} {x : Int × Int} {s : TSt} (h : GE1 s) (hx : 0 ≤ x.2) (h2 : 2 ≤ x.1 → x.1 ≤ 4 → 2 ≤ s.1) (h5 : x.1 ≤ 5) : GE1 (TR1 w x s) := by
  unfold TR1
  by_cases a : x.1 ≤ 1
  · rw [if_pos a]
    intro j hj
    have hj : j < s.1 + 1 := hj
    show -1 ≤ UPD s.2 s.1 _ j
    by_cases q : j = s.1
    · rw [q, UPD.s]; split <;> omega
    · rw [UPD.k q]; exact h j (by omega)
  · rw [if_neg a]
    by_cases b : x.1 = 5
    · rw [if_pos b]; exact h
    · rw [if_neg b]
      have n2 := h2 (by omega) (by omega)
      intro j hj
      have hj : j < s.1 - 1 := hj
      show -1 ≤ UPD s.2 (s.1 - 2) _ j
      have u1 := h (s.1 - 2) (by omega)
      have u2 := h (s.1 - 1) (by omega)
      by_cases q : j = s.1 - 2
      · rw [q, UPD.s]
        split
        · omega
        · split
          · omega
          · split <;> omega
      · rw [UPD.k q]; exact h j (by omega)
theorem TR1.ded {w : Int} {x : Int × Int} {s : TSt} (h : DED s) (h2 : 2 ≤ x.1 → x.1 ≤ 4 → 2 ≤ s.1) (h5 : x.1 ≤ 5) : DED (TR1 w x s) := by
  obtain ⟨j, hj, hn⟩ := h
  unfold TR1
  by_cases a : x.1 ≤ 1
  · rw [if_pos a]
    refine ⟨j, by show j < s.1 + 1; omega, ?_⟩
    show UPD s.2 s.1 _ j < 0
    rw [UPD.k (by omega)]; exact hn
  · rw [if_neg a]
    by_cases b : x.1 = 5
    · rw [if_pos b]; exact ⟨j, hj, hn⟩
    · rw [if_neg b]
      have n2 := h2 (by omega) (by omega)
      by_cases q : j < s.1 - 2
      · refine ⟨j, by show j < s.1 - 1; omega, ?_⟩
        show UPD s.2 (s.1 - 2) _ j < 0
        rw [UPD.k (by omega)]; exact hn
      · refine ⟨s.1 - 2, by show s.1 - 2 < s.1 - 1; omega, ?_⟩
        show UPD s.2 (s.1 - 2) _ (s.1 - 2) < 0
        have e : s.2 (s.1 - 2) < 0 ∨ s.2 (s.1 - 1) < 0 := by
          by_cases z : j = s.1 - 2
          · left; rw [← z]; exact hn
          · right; rw [show s.1 - 1 = j from by omega]; exact hn
        rw [UPD.s, if_pos (e.elim Or.inl (fun z => Or.inr (Or.inl z)))]
        decide
theorem TR1.h {w : Int} {x : Int × Int} {s : TSt} (h2 : 2 ≤ x.1 → x.1 ≤ 4 → 2 ≤ s.1) (h5 : x.1 ≤ 5) : ((TR1 w x s).1 : Int) = s.1 + HG1 x.1 := by
  unfold TR1 HG1
  by_cases a : x.1 ≤ 1
  · rw [if_pos a, if_pos a]; show ((s.1 + 1 : Nat) : Int) = _; omega
  · rw [if_neg a, if_neg a]
    by_cases b : x.1 = 5
    · rw [if_pos b, if_pos b]; omega
    · rw [if_neg b, if_neg b]
      have n2 := h2 (by omega) (by omega)
      show ((s.1 - 1 : Nat) : Int) = _; omega
theorem TRL.ded {w : Int} : ∀ (l : List (Int × Int)) (s : TSt) (h : Int), HOK l h → h = s.1 → GE1 s → DED s → (TRL w l s).2 0 = -1
  | [], s, h, k, e, g, d => by
    have k : h = 1 := k
    obtain ⟨j, hj, hn⟩ := d
    have z := g j hj
    have j0 : j = 0 := by omega
    subst j0
    show s.2 0 = -1
    omega
  | x :: l, s, h, k, e, g, d => by
    obtain ⟨k1, k2, k3, k4, k5, k6, k7⟩ := k
    have n2 : 2 ≤ x.1 → x.1 ≤ 4 → 2 ≤ s.1 := fun a b => by have := (k6 a b).1; omega
    exact TRL.ded l (TR1 w x s) (h + HG1 x.1) k7 (by rw [TR1.h n2 k2]; omega) (TR1.ge g k3 n2 k2) (TR1.ded d n2 k2)
/-- both reckonings stand alike -/
def LIK (s t : TSt) : Prop := s.1 = t.1 ∧ ∀ j, j < s.1 → 0 ≤ s.2 j ∧ t.2 j = s.2 j
theorem TC1.eq {w : Int} {x : Int × Int} {s t : TSt} (h : LIK s t) (hx : 0 ≤ x.2) (h1 : x.1 ≤ 1 → s.1 < 20) (h2 : 2 ≤ x.1 → x.1 ≤ 4 → 2 ≤ s.1 ∧ s.1 ≤ 20) (h5 : x.1 ≤ 5) : (∃ u, TC1 w x s = some u ∧ LIK u (TR1 w x t)) ∨ (TC1 w x s = none ∧ DED (TR1 w x t) ∧ GE1 (TR1 w x t)) := by
  obtain ⟨e, h⟩ := h
  have gt : GE1 t := fun j hj => by have := h j (by omega); omega
  have ge := TR1.ge (w := w) gt hx (fun a b => by have := (h2 a b).1; omega) h5
  unfold TC1
  by_cases a : x.1 ≤ 1
  · rw [if_pos a, if_pos (h1 a)]
    refine Or.inl ⟨_, rfl, ?_⟩
    unfold TR1
    rw [if_pos a]
    refine ⟨by show s.1 + 1 = t.1 + 1; omega, fun j hj => ?_⟩
    have hj : j < s.1 + 1 := hj
    show 0 ≤ UPD s.2 s.1 _ j ∧ UPD t.2 t.1 _ j = UPD s.2 s.1 _ j
    by_cases q : j = s.1
    · rw [← e, q, UPD.s, UPD.s]
      refine ⟨?_, rfl⟩
      split <;> omega
    · rw [UPD.k q, UPD.k (by omega)]; exact h j (by omega)
  · rw [if_neg a]
    by_cases b : x.1 = 5
    · rw [if_pos b]
      refine Or.inl ⟨_, rfl, ?_⟩
      unfold TR1
      rw [if_neg a, if_pos b]; exact ⟨e, h⟩
    · obtain ⟨n2, n4⟩ := h2 (by omega) (by omega)
      rw [if_neg b, if_neg (by omega)]
      obtain ⟨u1, u2⟩ := h (s.1 - 2) (by omega)
      obtain ⟨v1, v2⟩ := h (s.1 - 1) (by omega)
      have tr : TR1 w x t = (t.1 - 1, UPD t.2 (t.1 - 2) (if t.2 (t.1 - 2) < 0 ∨ t.2 (t.1 - 1) < 0 ∨ (x.1 = 2 ∧ t.2 (t.1 - 2) ≠ t.2 (t.1 - 1)) then -1 else if x.1 = 2 then t.2 (t.1 - 2) else t.2 (t.1 - 2) + t.2 (t.1 - 1) + (if w ≠ 0 ∧ x.1 = 4 then x.2 else 0))) := by
        unfold TR1; rw [if_neg a, if_neg b]
      rw [← e] at tr
      rw [u2, v2] at tr
      by_cases c : x.1 = 2
      · rw [if_pos c]
        by_cases d : s.2 (s.1 - 2) = s.2 (s.1 - 1)
        · rw [if_pos d]
          refine Or.inl ⟨_, rfl, ?_⟩
          rw [tr, if_neg (by omega), if_pos c]
          refine ⟨rfl, fun j hj => ?_⟩
          have hj : j < s.1 - 1 := hj
          show 0 ≤ s.2 j ∧ UPD t.2 (s.1 - 2) _ j = s.2 j
          by_cases q : j = s.1 - 2
          · rw [q, UPD.s]; exact ⟨u1, rfl⟩
          · rw [UPD.k q]; exact h j (by omega)
        · rw [if_neg d]
          refine Or.inr ⟨rfl, ⟨s.1 - 2, ?_, ?_⟩, ge⟩
          · rw [tr]; show s.1 - 2 < s.1 - 1; omega
          · rw [tr, if_pos (Or.inr (Or.inr ⟨c, d⟩))]
            show UPD t.2 (s.1 - 2) (-1) (s.1 - 2) < 0
            rw [UPD.s]; decide
      · rw [if_neg c]
        rw [if_neg (by omega), if_neg c] at tr
        refine Or.inl ⟨_, rfl, ?_⟩
        rw [tr]
        refine ⟨rfl, fun j hj => ?_⟩
        have hj : j < s.1 - 1 := hj
        show 0 ≤ UPD s.2 (s.1 - 2) _ j ∧ UPD t.2 (s.1 - 2) _ j = UPD s.2 (s.1 - 2) _ j
        by_cases q : j = s.1 - 2
        · rw [q, UPD.s, UPD.s]
          by_cases z : x.1 = 4 ∧ w ≠ 0
          · rw [if_pos z, if_pos ⟨z.2, z.1⟩]; exact ⟨by omega, by omega⟩
          · rw [if_neg z, if_neg (fun q => z ⟨q.2, q.1⟩)]; exact ⟨by omega, by omega⟩
        · rw [UPD.k q, UPD.k q]; exact h j (by omega)
theorem TCL.eq {w : Int} : ∀ (l : List (Int × Int)) (s t : TSt) (h : Int), HOK l h → h = s.1 → LIK s t → RKC (TCL w l s) = (TRL w l t).2 0
  | [], s, t, h, k, e, g => by
    have k : h = 1 := k
    show (if s.1 = 1 then s.2 0 else -1) = t.2 0
    rw [if_pos (by omega)]
    exact (g.2 0 (by omega)).2.symm
  | x :: l, s, t, h, k, e, g => by
    obtain ⟨k1, k2, k3, k4, k5, k6, k7⟩ := k
    have q := TC1.eq (w := w) g k3 (fun a => by have := k5 a; omega) (fun a b => by have := k6 a b; omega) k2
    have n2 : 2 ≤ x.1 → x.1 ≤ 4 → 2 ≤ t.1 := fun a b => by have := (k6 a b).1; have := g.1; omega
    have ht := TR1.h (w := w) (s := t) n2 k2
    show RKC ((TC1 w x s).bind (TCL w l)) = (TRL w l (TR1 w x t)).2 0
    rcases q with ⟨u, q1, q2⟩ | ⟨q1, q2, q3⟩
    · rw [q1]
      show RKC (TCL w l u) = _
      exact TCL.eq l u (TR1 w x t) (h + HG1 x.1) k7 (by have := q2.1; have := g.1; omega) q2
    · rw [q1]
      show (-1 : Int) = _
      exact (TRL.ded l (TR1 w x t) (h + HG1 x.1) k7 (by have := g.1; omega) q3 q2).symm
theorem HG1.b (k : Int) : (k ≤ 1 → HG1 k = 1 ∧ CN1 k = 1) ∧ (k = 5 → HG1 k = 0 ∧ CN1 k = 0) ∧ (1 < k → k ≠ 5 → HG1 k = -1 ∧ CN1 k = 1) := by
  unfold HG1 CN1
  refine ⟨fun h => ?_, fun h => ?_, fun h h5 => ?_⟩
  · rw [if_pos h, if_neg (by omega)]; exact ⟨rfl, rfl⟩
  · rw [if_neg (by omega), if_pos h, if_pos h]; exact ⟨rfl, rfl⟩
  · rw [if_neg (by omega), if_neg h5, if_neg h5]; exact ⟨rfl, rfl⟩
theorem CNL.ab : ∀ l : List (Int × Int), HGL l ≤ CNL l ∧ -HGL l ≤ CNL l
  | [] => ⟨by decide, by decide⟩
  | x :: l => by
    have h := CNL.ab l
    obtain ⟨a, b, c⟩ := HG1.b x.1
    have e1 : HGL (x :: l) = HG1 x.1 + HGL l := rfl
    have e2 : CNL (x :: l) = CN1 x.1 + CNL l := rfl
    omega
/-- heights told place by place -/
theorem HOK.ix : ∀ (l : List (Int × Int)) (H : Nat → Int) (C : Int), (∀ j (hj : j < l.length), H (j + 1) = H j + HG1 l[j].1) → (∀ j (hj : j < l.length), 0 ≤ l[j].1 ∧ l[j].1 ≤ 5 ∧ 0 ≤ l[j].2 ∧ 0 ≤ H j ∧ (2 ≤ l[j].1 → l[j].1 ≤ 4 → 2 ≤ H j)) → H 0 ≤ C → C + CNL l ≤ 40 → H 0 + HGL l = 1 → HOK l (H 0)
  | [], H, C, _, _, _, _, h => by
    have h : H 0 + 0 = 1 := h
    show H 0 = 1; omega
  | x :: l, H, C, hs, ok, hC, hc, h => by
    obtain ⟨k1, k2, k3, k4, k5⟩ := ok 0 (Nat.succ_pos _)
    have s0 := hs 0 (Nat.succ_pos _)
    have k1 : 0 ≤ x.1 := k1
    have k2 : x.1 ≤ 5 := k2
    have k3 : 0 ≤ x.2 := k3
    have k5 : 2 ≤ x.1 → x.1 ≤ 4 → 2 ≤ H 0 := k5
    have s0 : H (0 + 1) = H 0 + HG1 x.1 := s0
    have h : H 0 + (HG1 x.1 + HGL l) = 1 := h
    have hc : C + (CN1 x.1 + CNL l) ≤ 40 := hc
    obtain ⟨a, b, c⟩ := HG1.b x.1
    obtain ⟨u1, u2⟩ := CNL.ab l
    have r := HOK.ix l (fun j => H (j + 1)) (C + CN1 x.1) (fun j hj => hs (j + 1) (Nat.succ_lt_succ hj)) (fun j hj => ok (j + 1) (Nat.succ_lt_succ hj)) (by show H (0 + 1) ≤ _; omega) (by omega) (by show H (0 + 1) + _ = _; omega)
    have r : HOK l (H (0 + 1)) := r
    rw [s0] at r
    exact ⟨k1, k2, k3, k4, fun z => by omega, fun z1 z2 => ⟨k5 z1 z2, by omega⟩, r⟩

/-! signs read: exactly -/
section Lxp
variable {M : Nat}
def NQ8 (a b : Nat) : Prop := a ≠ b
def STL (R : RT) (I : IT) (o : Nat) : List (Int × Int) := (List.range (I o 2).toInt.toNat).map (fun k => ((I (rA R o 0) k).toInt, (I (rA R o 1) k).toInt))
def RDT (R : RT) (I : IT) (r : Nat) : PSt := ((I r 4).toInt.toNat, (I r 5).toInt.toNat, STL R I (rA R r 0))
def BCH (f : Nat → Int32) (m : Int) (k : Nat) : Int := if (k : Int) < m then (f k).toInt else -1
def RCH (R : RT) (I : IT) (r : Nat) : Nat → Int := BCH (I (rA R r 2)) (I r 3).toInt
theorem RCH.mv {R : RT} {I I1 : IT} {r b : Nat} {w : Int32} (e1 : I1 b = I b) (e2 : I1 r 3 = w) (e3 : I r 3 = w) (z : rA R r 2 = b) : RCH R I1 r = RCH R I r := by unfold RCH; rw [z, e1, e2, e3]
theorem RCH.mk {R : RT} {I I1 : IT} {r b : Nat} {n : Int32} (e1 : I1 b = I b) (e2 : I1 r 3 = n) (z : rA R r 2 = b) : RCH R I1 r = BCH (I b) n.toInt := by unfold RCH; rw [z, e1, e2]
theorem RCH.c40 {R : RT} {I : IT} {r : Nat} (h : (I r 3).toInt ≤ 400) : C40 (RCH R I r) := fun i hi => by unfold RCH BCH; rw [if_neg (by omega)]
theorem BCH.c40 {f : Nat → Int32} {m : Int} (h : m ≤ 400) : C40 (BCH f m) := fun i hi => by unfold BCH; rw [if_neg (by omega)]
theorem RCH.at {R : RT} {I I1 : IT} {r b : Nat} {x k : Int32} {m : Int} {j : Nat} (z : rA R r 2 = b) (e : I1 b = I b) (h : BYD x (I1 b) k) (h0 : 0 ≤ k.toInt) (hm : (I r 3).toInt = m) (h1 : k.toInt < m) (h4 : m ≤ 400) (hj : j = k.toInt.toNat) : x.toInt = RCH R I r j := by
  have n0 := ncz h0
  subst hj
  unfold RCH BCH
  rw [if_pos (by omega), z, ← e, h h0 (by omega)]; rfl
theorem RCH.no {R : RT} {I : IT} {r : Nat} {m x : Int} {j : Nat} (hm : (I r 3).toInt = m) (h1 : m ≤ (j : Int)) (hx : x = -1) : x = RCH R I r j := by
  unfold RCH BCH
  rw [if_neg (by omega), hx]
theorem RCH.lt {R : RT} {I : IT} {r j : Nat} {x m : Int} (e : x = RCH R I r j) (hm : (I r 3).toInt = m) (h : x ≠ -1) : (j : Int) < m := by
  unfold RCH BCH at e
  by_cases q : (j : Int) < (I r 3).toInt
  · omega
  · rw [if_neg q] at e; exact absurd e h
theorem STL.fr {R : RT} {I I1 : IT} {o a b : Nat} (z0 : rA R o 0 = a) (z1 : rA R o 1 = b) (e : I1 o 2 = I o 2) (e0 : I1 a = I a) (e1 : I1 b = I b) : STL R I1 o = STL R I o := by unfold STL; rw [z0, z1, e, e0, e1]
theorem STL.len {R : RT} {I : IT} {o : Nat} : (STL R I o).length = (I o 2).toInt.toNat := by unfold STL; rw [List.length_map, List.length_range]
/-- one step more -/
theorem STL.put {R : RT} {I I1 I2 I3 : IT} {o a b : Nat} {w w' v1 v2 : Int32} (z0 : rA R o 0 = a) (z1 : rA R o 1 = b) (hab : a ≠ b) (ho : o ≠ a ∧ o ≠ b) (hw : I o 2 = w) (u1 : I1 = u2 I a w.toNatClampNeg v1) (u2' : I2 = u2 I1 b w.toNatClampNeg v2) (u3 : I3 = u2 I2 o 2 w') (h0 : 0 ≤ w.toInt) (h1 : w.toInt < 160) (hw' : w'.toInt = w.toInt + 1) : STL R I3 o = APS 160 (STL R I o) (v1.toInt, v2.toInt) := by
  have n0 := ncz h0
  have ea : I3 a = I1 a := by rw [u3, u2_r (Ne.symm ho.1), u2', u2_r hab]
  have eb : I3 b = I2 b := by rw [u3, u2_r (Ne.symm ho.2)]
  have eo : I3 o 2 = w' := by rw [u3]; exact u2_s
  have eb0 : I1 b = I b := by rw [u1, u2_r (Ne.symm hab)]
  have hl : (STL R I o).length < 160 := by rw [STL.len, hw]; omega
  unfold APS
  rw [if_pos hl]
  unfold STL
  rw [eo, hw, z0, z1, ea, eb, hw', show (w.toInt + 1).toNat = w.toInt.toNat + 1 from by omega, List.range_succ, List.map_append]
  have k1 : ∀ k, k < w.toInt.toNat → I1 a k = I a k ∧ I2 b k = I b k := fun k hk => by
    rw [u1, u2', eb0.symm]
    exact ⟨u2_k (by omega), u2_k (by omega)⟩
  have e1 : (List.range w.toInt.toNat).map (fun k => ((I1 a k).toInt, (I2 b k).toInt)) = (List.range w.toInt.toNat).map (fun k => ((I a k).toInt, (I b k).toInt)) := List.map_congr_left (fun k hk => by
    rw [(k1 k (List.mem_range.mp hk)).1, (k1 k (List.mem_range.mp hk)).2])
  rw [e1]
  have e2 : I1 a w.toInt.toNat = v1 := by rw [u1, show w.toInt.toNat = w.toNatClampNeg from by omega]; exact u2_s
  have e3 : I2 b w.toInt.toNat = v2 := by rw [u2', show w.toInt.toNat = w.toNatClampNeg from by omega]; exact u2_s
  show _ ++ [((I1 a w.toInt.toNat).toInt, (I2 b w.toInt.toNat).toInt)] = _
  rw [e2, e3]
theorem STL.ful {R : RT} {I : IT} {o : Nat} {w : Int32} {x : Int × Int} (hw : I o 2 = w) (h1 : 160 ≤ w.toInt) : STL R I o = APS 160 (STL R I o) x := by
  have hl : ¬ (STL R I o).length < 160 := by rw [STL.len, hw]; omega
  unfold APS
  rw [if_neg hl]
theorem RDT.nx {R : RT} {I I1 : IT} {r o : Nat} {s : PSt} (hs : RDT R I r = s) (z : rA R r 0 = o) (e5 : (I1 r 5).toInt = (I r 5).toInt) (el : STL R I1 o = STL R I o) {p : Nat} (hp : (I1 r 4).toInt = p) : RDT R I1 r = (p, s.2) := by
  subst hs
  unfold RDT
  rw [z, e5, el, hp]; rfl
theorem RDT.th {R : RT} {I I1 : IT} {r o : Nat} {s : PSt} (hs : RDT R I r = s) (z : rA R r 0 = o) (e4 : (I1 r 4).toInt = (I r 4).toInt) (el : STL R I1 o = STL R I o) {p : Nat} (hp : (I1 r 5).toInt = p) : RDT R I1 r = (s.1, p, s.2.2) := by
  subst hs
  unfold RDT
  rw [z, e4, el, hp]; rfl
theorem RDT.pt {R : RT} {I I1 : IT} {r o : Nat} {s : PSt} {l : List (Int × Int)} (hs : RDT R I r = s) (z : rA R r 0 = o) (e4 : I1 r = I r) (el : STL R I1 o = l) : RDT R I1 r = (s.1, s.2.1, l) := by
  subst hs
  unfold RDT
  rw [z, e4, el]
theorem RDT.c1 {R : RT} {I : IT} {r : Nat} {s : PSt} {w : Int32} (hs : RDT R I r = s) (e : I r 4 = w) (h : 0 ≤ w.toInt) : w.toInt = s.1 := by
  subst hs
  show w.toInt = ((I r 4).toInt.toNat : Int)
  rw [e]; omega
theorem RDT.c2 {R : RT} {I : IT} {r : Nat} {s : PSt} {w : Int32} (hs : RDT R I r = s) (e : I r 5 = w) (h : 0 ≤ w.toInt) : w.toInt = s.2.1 := by
  subst hs
  show w.toInt = ((I r 5).toInt.toNat : Int)
  rw [e]; omega
theorem RDT.c3 {R : RT} {I : IT} {r o : Nat} {s : PSt} (hs : RDT R I r = s) (z : rA R r 0 = o) : STL R I o = s.2.2 := by
  subst hs; subst z; rfl
def NBI (c : Nat → Int) (p : Nat) (v j : Int) : Prop := DGB c p j.toNat ∧ v = VLU c p j.toNat ∧ 0 ≤ j ∧ j ≤ 4
theorem NBI.z {c : Nat → Int} {p : Nat} {v j : Int} (hv : v = 0) (hj : j = 0) : NBI c p v j := by
  subst hv; subst hj
  exact ⟨fun i hi => absurd hi (by omega), rfl, by omega, by omega⟩
theorem NBI.s {c : Nat → Int} {p q : Nat} {v v' x j j' : Int} (h : NBI c p v j) (hx : x = c q) (hq : (q : Int) = p + j) (hd : 48 ≤ x ∧ x ≤ 57) (hv : v' = 10 * v + x - 48) (hj : j' = j + 1) (h3 : j ≤ 3) : NBI c p v' j' := by
  obtain ⟨h1, h2, h4, h5⟩ := h
  have e : j'.toNat = j.toNat + 1 := by omega
  have eq : q = p + j.toNat := by omega
  refine ⟨fun i hi => ?_, ?_, by omega, by omega⟩
  · by_cases y : i = j.toNat
    · subst y; rw [← eq, ← hx]; exact hd
    · exact h1 i (by omega)
  · rw [e]
    show v' = 10 * VLU c p j.toNat + (c (p + j.toNat) - 48)
    rw [← h2, ← eq, ← hx]; omega
/-- all digits are read: the place behind them holds none, or there are four -/
theorem NBI.d {c : Nat → Int} {p q : Nat} {v j : Int} (h : NBI c p v j) (hq : (q : Int) = p + j) (e : j = 4 ∨ ¬ (48 ≤ c q ∧ c q ≤ 57)) : DGF c 4 p = j.toNat ∧ v = VLU c p (DGF c 4 p) := by
  obtain ⟨h1, h2, h4, h5⟩ := h
  have eq : q = p + j.toNat := by omega
  subst eq
  have d := DGF.of 4 p j.toNat h1 (by omega) (e.imp (fun q => by omega) id)
  exact ⟨d, by rw [d]; exact h2⟩
theorem NUB.no {c : Nat → Int} {k m v j : Int} {s : PSt} (d : DGF c 4 s.1 = j.toNat ∧ v = VLU c s.1 (DGF c 4 s.1)) (h : j > 3 ∨ m < v) : NUB M c k m s = none := by
  unfold NUB
  rw [if_neg (by rw [← d.2, d.1]; omega)]
theorem NUB.yes {c : Nat → Int} {k m v j : Int} {s : PSt} {p : Nat} (d : DGF c 4 s.1 = j.toNat ∧ v = VLU c s.1 (DGF c 4 s.1)) (h1 : 1 ≤ j) (h : j ≤ 3) (hm : v ≤ m) (hp : (p : Int) = s.1 + j) : NUB M c k m s = some (p, s.2.1, APS M s.2.2 (k, v)) := by
  unfold NUB
  rw [if_pos (by rw [← d.2, d.1]; omega), ← d.2, d.1, show s.1 + j.toNat = p from by omega]
theorem NBI.j1 {c : Nat → Int} {p : Nat} {v j : Int} (d : DGF c 4 p = j.toNat ∧ v = VLU c p (DGF c 4 p)) (h : 48 ≤ c p ∧ c p ≤ 57) : 1 ≤ j := by
  have : 1 ≤ DGF c 4 p := by
    show 1 ≤ (if 48 ≤ c p ∧ c p ≤ 57 then DGF c 3 (p + 1) + 1 else 0)
    rw [if_pos h]; omega
  omega
theorem TAK.y {c : Nat → Int} {v x : Int} {s : PSt} {p : Nat} (hx : x = c (SKP c s.1)) (h : x = v) (hp : p = SKP c s.1 + 1) : TAK c v s = some (p, s.2) := by
  unfold TAK; rw [if_pos (by omega), hp]
theorem TAK.n {c : Nat → Int} {v x : Int} {s : PSt} (hx : x = c (SKP c s.1)) (h : x ≠ v) : TAK c v s = none := by
  unfold TAK; rw [if_neg (by omega)]
theorem TAK.c {c : Nat → Int} {v : Int} {s t : PSt} (h : TAK c v s = some t) : t.2 = s.2 := by
  unfold TAK at h
  by_cases q : c (SKP c s.1) = v
  · rw [if_pos q] at h; cases h; rfl
  · rw [if_neg q] at h; cases h
theorem RLU.n1 {c : Nat → Int} {s : PSt} (h : 40 ≤ s.2.1) : RLU M c s = none := by unfold RLU; rw [if_pos (Or.inl h)]
theorem RLU.n2 {c : Nat → Int} {s : PSt} {x : Int} (hx : x = c (s.1 + 1)) (h : (97 ≤ x ∧ x ≤ 122) ∨ (65 ≤ x ∧ x ≤ 90)) : RLU M c s = none := by unfold RLU; rw [if_pos (Or.inr (by omega))]
theorem RLU.y {c : Nat → Int} {s : PSt} {x : Int} {p : Nat} (hx : x = c (s.1 + 1)) (h : ¬ ((97 ≤ x ∧ x ≤ 122) ∨ (65 ≤ x ∧ x ≤ 90))) (hs : s.2.1 < 40) (hp : p = s.1 + 1) : RLU M c s = some (p, s.2.1 + 1, APS M s.2.2 (0, 0)) := by unfold RLU; rw [if_neg (by omega), hp]
theorem RES.x {x y : Int} {o : Option PSt} {t : PSt} (h : RES x o t) (e : y = x) : RES y o t := by subst e; exact h
theorem RES.tk {x a b : Int} {c : Nat → Int} {s t : PSt} (h : RES x (TAK c a s) t) (e : a = b) : RES x (TAK c b s) t := by subst e; exact h
theorem RES.nb {x a b a' b' : Int} {c : Nat → Int} {s t : PSt} (h : RES x (NUB M c a b s) t) (e : a = a') (e2 : b = b') : RES x (NUB M c a' b' s) t := by subst e; subst e2; exact h
theorem RNB.n {c : Nat → Int} {s : PSt} (h : 40 ≤ s.2.1) : RNB M c s = none := by unfold RNB; rw [if_pos h]
theorem RNB.y {c : Nat → Int} {s : PSt} (h : s.2.1 < 40) : RNB M c s = NUB M c 1 999 (s.1, s.2.1 + 1, s.2.2) := by unfold RNB; rw [if_neg (by omega)]
theorem ROV.n0 {c : Nat → Int} {S : PSt → Option PSt} {s : PSt} (h : 40 ≤ s.2.1) : ROV M c S s = none := by unfold ROV; rw [if_pos h]
theorem ROV.n1 {c : Nat → Int} {S : PSt → Option PSt} {s : PSt} (h : s.2.1 < 40) (e : S (s.1 + 1, s.2.1 + 1, s.2.2) = none) : ROV M c S s = none := by unfold ROV; rw [if_neg (by omega), e]; rfl
theorem ROV.n2 {c : Nat → Int} {S : PSt → Option PSt} {s t : PSt} (h : s.2.1 < 40) (e : S (s.1 + 1, s.2.1 + 1, s.2.2) = some t) (e2 : TAK c 44 t = none) : ROV M c S s = none := by
  unfold ROV; rw [if_neg (by omega), e]
  show (TAK c 44 t).bind _ = none
  rw [e2]; rfl
theorem ROV.n3 {c : Nat → Int} {S : PSt → Option PSt} {s t t2 : PSt} (h : s.2.1 < 40) (e : S (s.1 + 1, s.2.1 + 1, s.2.2) = some t) (e2 : TAK c 44 t = some t2) (e3 : S t2 = none) : ROV M c S s = none := by
  unfold ROV; rw [if_neg (by omega), e]
  show (TAK c 44 t).bind _ = none
  rw [e2]
  show (S t2).bind _ = none
  rw [e3]; rfl
theorem ROV.y {c : Nat → Int} {S : PSt → Option PSt} {s t t2 t3 : PSt} (h : s.2.1 < 40) (e : S (s.1 + 1, s.2.1 + 1, s.2.2) = some t) (e2 : TAK c 44 t = some t2) (e3 : S t2 = some t3) : ROV M c S s = (TAK c 93 t3).bind (fun t => NUB M c 4 8 (SKP c t.1, t.2)) := by
  unfold ROV; rw [if_neg (by omega), e]
  show (TAK c 44 t).bind _ = _
  rw [e2]
  show (S t2).bind _ = _
  rw [e3]; rfl
theorem NUB.z {c : Nat → Int} {k m : Int} {s : PSt} (h : ¬ (48 ≤ c s.1 ∧ c s.1 ≤ 57)) : NUB M c k m s = none := by
  unfold NUB
  have : DGF c 4 s.1 = 0 := by
    show (if 48 ≤ c s.1 ∧ c s.1 ≤ 57 then DGF c 3 (s.1 + 1) + 1 else 0) = 0
    rw [if_neg h]
  rw [if_neg (by rw [this]; omega)]
theorem RDT.ap {R : RT} {I I1 : IT} {r o : Nat} {s : PSt} {a b a' b' : Int} (hs : RDT R I r = s) (z : rA R r 0 = o) (e4 : I1 r = I r) (h : STL R I1 o = APS M (STL R I o) (a, b)) (ha : a = a') (hb : b = b') : RDT R I1 r = (s.1, s.2.1, APS M s.2.2 (a', b')) := by
  subst ha; subst hb
  exact RDT.pt hs z e4 (by rw [h, RDT.c3 hs z])
theorem RDT.z0 {R : RT} {I : IT} {r o : Nat} (e4 : (I r 4).toInt = 0) (e5 : (I r 5).toInt = 0) (z : rA R r 0 = o) (e2 : (I o 2).toInt = 0) : RDT R I r = (0, 0, []) := by
  unfold RDT STL
  rw [e4, e5, z, e2]; rfl
theorem RDA.y {c : Nat → Int} {s t : PSt} {l : List (Int × Int)} {x : Int} (h : RSU M c (RPT M c 6) s = some t) (hs : s = (0, 0, [])) (hx : x = c (SKP c t.1)) (h1 : x = -1) (hl : l = t.2.2) : RDA M c = some l := by
  subst hs; unfold RDA
  rw [h]
  show (if c (SKP c t.1) = -1 then _ else _) = _
  rw [if_pos (by omega), hl]
theorem RDA.n {c : Nat → Int} {s t : PSt} {x : Int} (h : RSU M c (RPT M c 6) s = some t) (hs : s = (0, 0, [])) (hx : x = c (SKP c t.1)) (h1 : x ≠ -1) : RDA M c = none := by
  subst hs; unfold RDA
  rw [h]
  show (if c (SKP c t.1) = -1 then _ else _) = _
  rw [if_neg (by omega)]
theorem RDA.n0 {c : Nat → Int} {s : PSt} (h : RSU M c (RPT M c 6) s = none) (hs : s = (0, 0, [])) : RDA M c = none := by
  subst hs; unfold RDA
  rw [h]; rfl
end Lxp
def KAD (x : Int32) (w : Nat → Int32) (k : Int32) : Prop := 0 ≤ k.toInt → k.toInt < 160 → w k.toNatClampNeg = x
theorem STL.z {R : RT} {I : IT} {o : Nat} {n : Nat} {l : List (Int × Int)} (h : (I o 2).toInt = 0) (hn : n = 0) : STL R I o = l.take n := by
  subst hn; unfold STL; rw [h]; rfl
theorem STL.cs {R : RT} {I0 I1 I2 : IT} {o o' a b : Nat} {k k' x y : Int32} {n : Int} (h : STL R I1 o = (STL R I0 o').take k.toInt.toNat) (hp : STL R I2 o = APS 160 (STL R I1 o) (x.toInt, y.toInt)) (za : rA R o' 0 = a) (zb : rA R o' 1 = b) (hx : KAD x (I1 a) k) (ea : I1 a = I0 a) (hy : KAD y (I1 b) k) (eb : I1 b = I0 b) (hn : (I0 o' 2).toInt = n) (h0 : 0 ≤ k.toInt) (h1 : k.toInt < n) (h160 : n ≤ 160) (hk : k'.toInt = k.toInt + 1) : STL R I2 o = (STL R I0 o').take k'.toInt.toNat := by
  have n0 := ncz h0
  have l : (STL R I0 o').length = n.toNat := by rw [STL.len, hn]
  have hx := hx h0 (by omega)
  have hy := hy h0 (by omega)
  have e : (STL R I0 o')[k.toInt.toNat]? = some (x.toInt, y.toInt) := by
    unfold STL
    rw [List.getElem?_map, List.getElem?_range (by omega), za, zb, ← ea, ← eb, show k.toInt.toNat = k.toNatClampNeg from by omega]
    show some ((I1 a k.toNatClampNeg).toInt, (I1 b k.toNatClampNeg).toInt) = _
    rw [hx, hy]
  rw [hp, h]
  unfold APS
  rw [if_pos (by rw [List.length_take]; omega), show k'.toInt.toNat = k.toInt.toNat + 1 from by omega, List.take_succ, e]; rfl
theorem STL.ce {R : RT} {I0 I1 : IT} {o o' : Nat} {k : Int} (h : STL R I1 o = (STL R I0 o').take k.toNat) (h1 : (I0 o' 2).toInt ≤ k) : STL R I1 o = STL R I0 o' := by
  rw [h, List.take_of_length_le (by rw [STL.len]; omega)]
/-- the first k signs of a state laid into another -/
def SLL (R : RT) (I' I : IT) (r0 r1 : Nat) (k : Int) : Prop := ∀ j : Nat, j < 8 → (j : Int) < k → STL R I' (SA R r0 j) = STL R I (SA R r1 j) ∧ 0 ≤ (I' (SA R r0 j) 2).toInt ∧ (I' (SA R r0 j) 2).toInt ≤ 160
def SG3 (R : RT) (st j a : Nat) : Prop := a = SA R st j ∨ a = rA R (SA R st j) 0 ∨ a = rA R (SA R st j) 1
theorem SG3.u {T : Nat → Nat} {R : RT} (hU : UPR T R) {st st' i j a : Nat} (gg : GG T R st) (gg' : GG T R st') (hi : i < 8) (hj : j < 8) (h : SG3 R st i a) (h' : SG3 R st' j a) : st = st' ∧ i = j := by
  obtain ⟨r1, r2, r3⟩ := gg
  obtain ⟨q1, q2, q3⟩ := gg'
  obtain ⟨o1, o2, ⟨o3, o4⟩, o5, o6⟩ := r3 i hi
  obtain ⟨p1, p2, ⟨p3, p4⟩, p5, p6⟩ := q3 j hj
  have key : SA R st i = SA R st' j → st = st' ∧ i = j := fun e => by
    have e2 := hU (rA R st 10) i (rA R st' 10) j _ (Or.inr (Or.inl o2)) o1 (by rw [e]; exact p1)
    refine ⟨?_, e2.2⟩
    have q1' : R st' 10 = some (rA R st 10) := by rw [e2.1]; exact q1
    exact (hU st 10 st' 10 _ (Or.inr (Or.inr (Or.inr (by omega)))) r1 q1').1
  have arr : ∀ {c k c' k' b : Nat}, T b = 20 → R c k = some b → R c' k' = some b → c = c' := fun hb h1 h2 => (hU _ _ _ _ _ (t20 hb) h1 h2).1
  rcases h with h | h | h <;> rcases h' with h' | h' | h'
  · exact key (h.symm.trans h')
  · have e : SA R st i = rA R (SA R st' j) 0 := h.symm.trans h'
    exfalso; rw [← e] at p4; omega
  · have e : SA R st i = rA R (SA R st' j) 1 := h.symm.trans h'
    exfalso; rw [← e] at p6; omega
  · have e : rA R (SA R st i) 0 = SA R st' j := h.symm.trans h'
    exfalso; rw [e] at o4; omega
  · have e : rA R (SA R st i) 0 = rA R (SA R st' j) 0 := h.symm.trans h'
    exact key (arr o4 o3 (by rw [e]; exact p3))
  · have e : rA R (SA R st i) 0 = rA R (SA R st' j) 1 := h.symm.trans h'
    exact key (arr o4 o3 (by rw [e]; exact p5))
  · have e : rA R (SA R st i) 1 = SA R st' j := h.symm.trans h'
    exfalso; rw [e] at o6; omega
  · have e : rA R (SA R st i) 1 = rA R (SA R st' j) 0 := h.symm.trans h'
    exact key (arr o6 o5 (by rw [e]; exact p3))
  · have e : rA R (SA R st i) 1 = rA R (SA R st' j) 1 := h.symm.trans h'
    exact key (arr o6 o5 (by rw [e]; exact p5))
theorem SG3.ty {T : Nat → Nat} {R : RT} {st i a : Nat} (gg : GG T R st) (hi : i < 8) (h : SG3 R st i a) : T a = 8 ∨ T a = 20 ∧ ∃ c k, R c k = some a ∧ T c = 8 := by
  obtain ⟨o1, o2, ⟨o3, o4⟩, o5, o6⟩ := gg.2.2 i hi
  rcases h with h | h | h
  · left; rw [h]; exact o2
  · right; rw [h]; exact ⟨o4, _, 0, o3, o2⟩
  · right; rw [h]; exact ⟨o6, _, 1, o5, o2⟩
/-- the other state's signs are none of its cells -/
theorem OWN.ns {T : Nat → Nat} {R : RT} (hU : UPR T R) {r0 r1 j a : Nat} (g : GS T R r0) (gg : GG T R r0) (gg' : GG T R r1) (hn : r0 ≠ r1) (hj : j < 8) (h : SG3 R r1 j a) : ¬ OWN R r0 a := by
  intro q
  have ty := h.ty gg' hj
  have ho : T a = 20 → ∀ c k, R c k = some a → T c = 8 := fun t c k hc => by
    rcases ty with z | ⟨-, c', k', hc', z⟩
    · omega
    · have := (hU c k c' k' a (t20 t) hc hc').1
      rw [this]; exact z
  obtain ⟨g1, ⟨g2, g3⟩, g4, g5, g6, g7, g8, g9⟩ := g
  rcases q with (q | q | ⟨i, hi, q | q⟩) | ⟨i, hi, q | q⟩ | ⟨i, hi, q⟩ | ⟨i, hi, q⟩
  · rw [q] at ty; omega
  · subst q
    have := ho g3 r0 6 g2
    omega
  · have f := (g7 i hi).2
    rw [q] at ty; have := f.1; omega
  · have f := (g7 i hi).2
    subst q
    have := ho f.2.2 _ 1 f.2.1
    have := f.1; omega
  · have f := (g8 i hi).2
    rw [q] at ty; have := f.1; omega
  · have f := (g8 i hi).2
    subst q
    have := ho f.2.2 _ 1 f.2.1
    have := f.1; omega
  · have f := (g9 i hi).2
    rw [q] at ty; omega
  · exact hn (SG3.u hU gg gg' hi hj q h).1
theorem SLL.at {R : RT} {I I1 I2 : IT} {r0 r1 : Nat} {k : Int} (h : SLL R I1 I r0 r1 k) (f : ∀ a j, j < 8 → SG3 R r0 j a → I2 a = I1 a) : SLL R I2 I r0 r1 k := fun j hj hk => by
  obtain ⟨h1, h2⟩ := h j hj hk
  rw [STL.fr rfl rfl (by rw [f _ j hj (Or.inl rfl)]) (f _ j hj (Or.inr (Or.inl rfl))) (f _ j hj (Or.inr (Or.inr rfl))), f _ j hj (Or.inl rfl)]
  exact ⟨h1, h2⟩
theorem SLL.z {R : RT} {I' I : IT} {r0 r1 : Nat} {k : Int} (h : k = 0) : SLL R I' I r0 r1 k := fun j _ hj => by omega
theorem SLL.s {T : Nat → Nat} {R : RT} {I I1 I2 : IT} {L L1 L2 : LT} {W W2 : List (Nat × Nat)} {r0 r1 s s' a b : Nat} {k k' : Int32} (h : SLL R I1 I r0 r1 k.toInt) (hU : UPR T R) (g : GS T R r0) (gg : GG T R r0) (gg' : GG T R r1) (hn : r0 ≠ r1) (c1 : Chg (OWN R r0) T W I L I1 L1) (c2 : Chg (SL [s, a, b]) T W2 I1 L1 I2 L2) (hs : SA R r0 k.toNatClampNeg = s) (hs' : SA R r1 k.toNatClampNeg = s') (z0 : rA R s 0 = a) (z1 : rA R s 1 = b) (e : STL R I2 s = STL R I1 s') (bd : 0 ≤ (I2 s 2).toInt ∧ (I2 s 2).toInt ≤ 160) (h0 : 0 ≤ k.toInt) (h8 : k.toInt < 8) (hk : k'.toInt = k.toInt + 1) : SLL R I2 I r0 r1 k'.toInt := fun j hj hjk => by
  have n0 := ncz h0
  have hk8 : k.toNatClampNeg < 8 := by omega
  by_cases q : j = k.toNatClampNeg
  · subst q
    rw [hs, hs', e]
    refine ⟨?_, bd⟩
    subst hs'
    have f : ∀ a, SG3 R r1 k.toNatClampNeg a → I1 a = I a := fun a ha => Chg.at c1 (OWN.ns hU g gg gg' hn hk8 ha)
    exact STL.fr rfl rfl (by rw [f _ (Or.inl rfl)]) (f _ (Or.inr (Or.inl rfl))) (f _ (Or.inr (Or.inr rfl)))
  · obtain ⟨h1, h2⟩ := h j hj (by omega)
    subst hs; subst z0; subst z1
    have f : ∀ a, SG3 R r0 j a → I2 a = I1 a := fun a ha => Chg.at c2 (fun w => by
      simp only [SL, List.mem_cons, List.not_mem_nil, or_false] at w
      exact q (SG3.u hU gg gg hj hk8 ha w).2)
    rw [STL.fr rfl rfl (by rw [f _ (Or.inl rfl)]) (f _ (Or.inr (Or.inl rfl))) (f _ (Or.inr (Or.inr rfl))), f _ (Or.inl rfl)]
    exact ⟨h1, h2⟩
section AutoP
variable {d : Nat} {q : mm_T} {mc ms : Nat} {Post : Po} {V : V_T} {pc pc2 : Nat} {lv : List (Nat × Value)} {r : List Value} {ck sk : Nat}
theorem z_imul10 (C : Cl d q mc ms Post V) {M : Mm} {x y : Int32} (hi : cdf q.2.2.2.2.2.2 pc = some (.imul, 1)) (hp : pc + 1 = pc2) (b : x.toInt = 10 ∧ 0 ≤ y.toInt ∧ y.toInt ≤ 99999) (h : ∀ w : Int32, w.toInt = 10 * y.toInt → V pc2 lv (.int w :: r) M ck sk) : V pc lv (.int y :: .int x :: r) M ck sk := k_imul C hi hp (h _ (by rw [ii_mul (by rw [b.1]; omega), b.1]))
end AutoP
theorem s_X4_next_x {d : Nat} {T N : Nat → Nat} {I : IT} {L : LT} {R : RT} {A B : Nat → Prop} {r0 : Nat} (hS : SUB B A) (hI : IX A T I) (H_r0 : (hs_Rd T N R A B) r0) (hp0 : 0 ≤ (I r0 4).toInt) (hp1 : (I r0 4).toInt ≤ (I r0 3).toInt) (hp2 : (I r0 3).toInt ≤ 400) (hp3 : 0 ≤ (I r0 5).toInt) : Ex (d + 2) 63 [.ref r0] (T, N, I, L, R) 0 0 (pI T N R (fun x9 I9 L9 => (x9.toInt = RCH R I r0 (SKP (RCH R I r0) (RDT R I r0).1)) ∧ (RDT R I9 r0 = (SKP (RCH R I r0) (RDT R I r0).1, (RDT R I r0).2)) ∧ (x9.toInt ≠ -1 → (I9 r0 4).toInt < (I r0 3).toInt) ∧ (0 ≤ (I9 r0 4).toInt ∧ (I9 r0 4).toInt ≤ (I r0 3).toInt) ∧ (IX A T I9 ∧ Chg (SL [r0]) T [(5, 4)] I L I9 L9))) := by sorry
theorem s_X4_isThingMore_x {d : Nat} {T N : Nat → Nat} {I : IT} {L : LT} {R : RT} {A B : Nat → Prop} {r0 : Nat} (hS : SUB B A) (hI : IX A T I) (H_r0 : (hs_Rd T N R A B) r0) (hp0 : 0 ≤ (I r0 5).toInt) (hp1 : (I r0 5).toInt ≤ 40) : Ex (d + 1) 62 [.ref r0] (T, N, I, L, R) 0 0 (pI T N R (fun x9 I9 L9 => (0 ≤ x9.toInt) ∧ (x9.toInt ≤ 1) ∧ (RDT R I9 r0 = ((RDT R I r0).1, (RDT R I r0).2.1 + 1, (RDT R I r0).2.2)) ∧ (x9.toInt = 1 → (I r0 5).toInt < 40) ∧ (x9.toInt = 0 → 40 ≤ (I r0 5).toInt) ∧ ((I9 r0 5).toInt = (I r0 5).toInt + 1) ∧ (IX A T I9 ∧ Chg (SL [r0]) T [(5, 5)] I L I9 L9))) := by sorry
theorem s_X7_put_p {d : Nat} {T N : Nat → Nat} {I : IT} {L : LT} {R : RT} {A B : Nat → Prop} {r0 : Nat} {n1 n2 : Int32} (hS : SUB B A) (hI : IX A T I) (H_r0 : (hs_Sg T N R A B) r0) (hU : UPR T R) (hp0 : 0 ≤ (I r0 2).toInt) (hp1 : (I r0 2).toInt ≤ 160) : Ex (d + 1) 66 [.ref r0, .int n1, .int n2] (T, N, I, L, R) 0 0 (pV T N R (fun I9 L9 => (STL R I9 r0 = APS 160 (STL R I r0) (n1.toInt, n2.toInt)) ∧ (0 ≤ (I9 r0 2).toInt ∧ (I9 r0 2).toInt ≤ 160) ∧ (IX A T I9 ∧ Chg (SL [r0, (rA R r0 0), (rA R r0 1)]) T [(8, 2)] I L I9 L9))) := by sorry
theorem s_X4_isDigit_x {d : Nat} {T N : Nat → Nat} {I : IT} {L : LT} {R : RT} {A B : Nat → Prop} {n0 : Int32} (hS : SUB B A) (hI : IX A T I)  : Ex (d + 1) 65 [.int n0] (T, N, I, L, R) 0 0 (pI T N R (fun x9 I9 L9 => (0 ≤ x9.toInt) ∧ (x9.toInt ≤ 1) ∧ (x9.toInt = 1 → 48 ≤ n0.toInt ∧ n0.toInt ≤ 57) ∧ (x9.toInt = 0 → ¬ (48 ≤ n0.toInt ∧ n0.toInt ≤ 57)) ∧ (I = I9 ∧ L = L9))) := by sorry
theorem s_X4_isLetter_x {d : Nat} {T N : Nat → Nat} {I : IT} {L : LT} {R : RT} {A B : Nat → Prop} {n0 : Int32} (hS : SUB B A) (hI : IX A T I)  : Ex (d + 1) 68 [.int n0] (T, N, I, L, R) 0 0 (pI T N R (fun x9 I9 L9 => (0 ≤ x9.toInt) ∧ (x9.toInt ≤ 1) ∧ (x9.toInt = 1 → (97 ≤ n0.toInt ∧ n0.toInt ≤ 122) ∨ (65 ≤ n0.toInt ∧ n0.toInt ≤ 90)) ∧ (x9.toInt = 0 → ¬ ((97 ≤ n0.toInt ∧ n0.toInt ≤ 122) ∨ (65 ≤ n0.toInt ∧ n0.toInt ≤ 90))) ∧ (I = I9 ∧ L = L9))) := by sorry
theorem s_X4_take_x {d : Nat} {T N : Nat → Nat} {I : IT} {L : LT} {R : RT} {A B : Nat → Prop} {r0 : Nat} {n1 : Int32} (hS : SUB B A) (hI : IX A T I) (H_r0 : (hs_Rd T N R A B) r0) (b0_n1 : 0 ≤ n1.toInt) (b1_n1 : n1.toInt ≤ 127) (hU : UPR T R) (hp0 : 0 ≤ (I r0 4).toInt) (hp1 : (I r0 4).toInt ≤ (I r0 3).toInt) (hp2 : (I r0 3).toInt ≤ 400) (hp3 : 0 ≤ (I r0 5).toInt) (hp4 : (I r0 5).toInt ≤ 40) (hp5 : 0 ≤ (I (rA R r0 0) 2).toInt ∧ (I (rA R r0 0) 2).toInt ≤ 160) : Ex (d + 3) 64 [.ref r0, .int n1] (T, N, I, L, R) 0 0 (pI T N R (fun x9 I9 L9 => (0 ≤ x9.toInt) ∧ (x9.toInt ≤ 1) ∧ (RES x9.toInt (TAK (RCH R I r0) n1.toInt (RDT R I r0)) (RDT R I9 r0)) ∧ (0 ≤ (I9 (rA R r0 0) 2).toInt ∧ (I9 (rA R r0 0) 2).toInt ≤ 160) ∧ (x9.toInt = 1 → (I9 r0 4).toInt ≤ (I r0 3).toInt ∧ (I r0 5).toInt ≤ (I9 r0 5).toInt ∧ (I9 r0 5).toInt ≤ 40) ∧ (0 ≤ (I9 r0 4).toInt ∧ 0 ≤ (I9 r0 5).toInt) ∧ (IX A T I9 ∧ Chg (SL [r0]) T [(5, 4)] I L I9 L9))) := by sorry
theorem s_X4_readLetter_x {d : Nat} {T N : Nat → Nat} {I : IT} {L : LT} {R : RT} {A B : Nat → Prop} {r0 : Nat} (hS : SUB B A) (hI : IX A T I) (H_r0 : (hs_Rd T N R A B) r0) (hU : UPR T R) (hp0 : 0 ≤ (I r0 4).toInt) (hp1 : (I r0 4).toInt ≤ (I r0 3).toInt) (hp2 : (I r0 3).toInt ≤ 400) (hp3 : 0 ≤ (I r0 5).toInt) (hp4 : (I r0 5).toInt ≤ 40) (hp5 : 0 ≤ (I (rA R r0 0) 2).toInt ∧ (I (rA R r0 0) 2).toInt ≤ 160) (hp6 : (I r0 4).toInt < (I r0 3).toInt) : Ex (d + 2) 69 [.ref r0] (T, N, I, L, R) 0 0 (pI T N R (fun x9 I9 L9 => (0 ≤ x9.toInt) ∧ (x9.toInt ≤ 1) ∧ (RES x9.toInt (RLU 160 (RCH R I r0) (RDT R I r0)) (RDT R I9 r0)) ∧ (0 ≤ (I9 (rA R r0 0) 2).toInt ∧ (I9 (rA R r0 0) 2).toInt ≤ 160) ∧ (x9.toInt = 1 → (I9 r0 4).toInt ≤ (I r0 3).toInt ∧ (I r0 5).toInt ≤ (I9 r0 5).toInt ∧ (I9 r0 5).toInt ≤ 40) ∧ (0 ≤ (I9 r0 4).toInt ∧ 0 ≤ (I9 r0 5).toInt) ∧ (IX A T I9 ∧ Chg (SL [r0, (rA R r0 0), (rA R (rA R r0 0) 0), (rA R (rA R r0 0) 1)]) T [(5, 4), (5, 5), (8, 2)] I L I9 L9))) := by sorry
theorem s_X4_readNumber_x {d : Nat} {T N : Nat → Nat} {I : IT} {L : LT} {R : RT} {A B : Nat → Prop} {r0 : Nat} {n1 n2 : Int32} (hS : SUB B A) (hI : IX A T I) (H_r0 : (hs_Rd T N R A B) r0) (b0_n2 : 0 ≤ n2.toInt) (b1_n2 : n2.toInt ≤ 999) (hU : UPR T R) (hp0 : 0 ≤ (I r0 4).toInt) (hp1 : (I r0 4).toInt ≤ (I r0 3).toInt) (hp2 : (I r0 3).toInt ≤ 400) (hp3 : 0 ≤ (I r0 5).toInt) (hp4 : (I r0 5).toInt ≤ 40) (hp5 : 0 ≤ (I (rA R r0 0) 2).toInt ∧ (I (rA R r0 0) 2).toInt ≤ 160) (hp6 : 48 ≤ RCH R I r0 (RDT R I r0).1 ∧ RCH R I r0 (RDT R I r0).1 ≤ 57) : Ex (d + 2) 67 [.ref r0, .int n1, .int n2] (T, N, I, L, R) 0 0 (pI T N R (fun x9 I9 L9 => (0 ≤ x9.toInt) ∧ (x9.toInt ≤ 1) ∧ (RES x9.toInt (NUB 160 (RCH R I r0) n1.toInt n2.toInt (RDT R I r0)) (RDT R I9 r0)) ∧ (0 ≤ (I9 (rA R r0 0) 2).toInt ∧ (I9 (rA R r0 0) 2).toInt ≤ 160) ∧ (x9.toInt = 1 → (I9 r0 4).toInt ≤ (I r0 3).toInt ∧ (I r0 5).toInt ≤ (I9 r0 5).toInt ∧ (I9 r0 5).toInt ≤ 40) ∧ (0 ≤ (I9 r0 4).toInt ∧ 0 ≤ (I9 r0 5).toInt) ∧ (IX A T I9 ∧ Chg (SL [r0, (rA R r0 0), (rA R (rA R r0 0) 0), (rA R (rA R r0 0) 1)]) T [(5, 4), (8, 2)] I L I9 L9))) := by sorry

theorem s_X4_read_x {d : Nat} {T N : Nat → Nat} {I : IT} {L : LT} {R : RT} {A B : Nat → Prop} {r0 : Nat} {n1 : Int32} (hS : SUB B A) (hI : IX A T I) (H_r0 : (hs_Rd T N R A B) r0) (b0_n1 : 0 ≤ n1.toInt) (b1_n1 : n1.toInt ≤ 400) (hU : UPR T R) : Ex (d + 30) 74 [.ref r0, .int n1] (T, N, I, L, R) 0 0 (pI T N R (fun x9 I9 L9 => (x9.toInt = -1 → RDA 160 (BCH (I (rA R r0 2)) n1.toInt) = some (STL R I9 (rA R r0 0))) ∧ (x9.toInt ≠ -1 → RDA 160 (BCH (I (rA R r0 2)) n1.toInt) = none) ∧ (0 ≤ (I9 (rA R r0 0) 2).toInt ∧ (I9 (rA R r0 0) 2).toInt ≤ 160) ∧ (IX A T I9 ∧ Chg (SL [r0, (rA R r0 0), (rA R (rA R r0 0) 0), (rA R (rA R r0 0) 1)]) T [(5, 3), (5, 4), (5, 5), (8, 2)] I L I9 L9))) := by sorry

/-! signs told: exactly -/
theorem s_X7_kindAt_x {d : Nat} {T N : Nat → Nat} {I : IT} {L : LT} {R : RT} {A B : Nat → Prop} {r0 : Nat} {n1 : Int32} (hS : SUB B A) (hI : IX A T I) (H_r0 : (hs_Sg T N R A B) r0) : Ex (d + 1) 35 [.ref r0, .int n1] (T, N, I, L, R) 0 0 (pI T N R (fun x9 I9 L9 => (KAD x9 (I (rA R r0 0)) n1) ∧ (I = I9 ∧ L = L9))) := by sorry
theorem s_X7_sizeAt_x {d : Nat} {T N : Nat → Nat} {I : IT} {L : LT} {R : RT} {A B : Nat → Prop} {r0 : Nat} {n1 : Int32} (hS : SUB B A) (hI : IX A T I) (H_r0 : (hs_Sg T N R A B) r0) : Ex (d + 1) 38 [.ref r0, .int n1] (T, N, I, L, R) 0 0 (pI T N R (fun x9 I9 L9 => (KAD x9 (I (rA R r0 1)) n1) ∧ (I = I9 ∧ L = L9))) := by sorry
theorem s_X7_copyFrom_p {d : Nat} {T N : Nat → Nat} {I : IT} {L : LT} {R : RT} {A B : Nat → Prop} {r0 r1 : Nat} (hS : SUB B A) (hI : IX A T I) (H_r0 : (hs_Sg T N R A B) r0) (H_r1 : (hs_Sg T N R A B) r1) (hU : UPR T R) (hp0 : NQ8 r0 r1) (hp1 : 0 ≤ (I r1 2).toInt ∧ (I r1 2).toInt ≤ 160) : Ex (d + 2) 93 [.ref r0, .ref r1] (T, N, I, L, R) 0 0 (pV T N R (fun I9 L9 => (STL R I9 r0 = STL R I r1) ∧ (0 ≤ (I9 r0 2).toInt ∧ (I9 r0 2).toInt ≤ 160) ∧ (IX A T I9 ∧ Chg (SL [r0, (rA R r0 0), (rA R r0 1)]) T [(8, 2)] I L I9 L9))) := by sorry
theorem s_X8_copyFrom_p {d : Nat} {T N : Nat → Nat} {I : IT} {L : LT} {R : RT} {A B : Nat → Prop} {r0 r1 : Nat} (hS : SUB B A) (hI : IX A T I) (H_r0 : (hs_St T N R A B) r0) (H_r1 : (hs_St T N R A B) r1) (hU : UPR T R) (hp0 : r0 ≠ r1) (hp1 : (I r1 1).toInt ≤ 16) (hp2 : (I r1 2).toInt ≤ 8) (hp3 : (I r1 3).toInt ≤ 8) (hp4 : ∀ j : Nat, j < 8 → (j : Int) < (I r1 3).toInt → 0 ≤ (I (SA R r1 j) 2).toInt ∧ (I (SA R r1 j) 2).toInt ≤ 160) : Ex (d + 4) 110 [.ref r0, .ref r1] (T, N, I, L, R) 0 0 (pV T N R (fun I9 L9 => ((I9 r0 0).toInt = (I r1 0).toInt) ∧ ((I9 r0 1).toInt = (I r1 1).toInt) ∧ ((I9 r0 2).toInt = (I r1 2).toInt) ∧ ((I9 r0 3).toInt = (I r1 3).toInt) ∧ ((I9 r0 4).toInt = (I r1 4).toInt) ∧ ((I9 r0 5).toInt = (I r1 5).toInt) ∧ (CAL R I9 I r0 r1 40) ∧ (FLL R I9 I r0 r1 (I r1 1).toInt) ∧ (TLL R I9 I r0 r1 (I r1 2).toInt) ∧ (SLL R I9 I r0 r1 (I r1 3).toInt) ∧ (IX A T I9 ∧ Chg (OWN R r0) T [(3, 0), (8, 2), (9, 0), (9, 1), (9, 2), (9, 3), (9, 4), (9, 5), (10, 0), (10, 1), (10, 2), (10, 3)] I L I9 L9))) := by sorry
theorem s_X11_image_p {d : Nat} {T N : Nat → Nat} {I : IT} {L : LT} {R : RT} {A B : Nat → Prop} {r0 : Nat} (hS : SUB B A) (hI : IX A T I) (H_r0 : (hs_LF T N R A B) r0) (hU : UPR T R) (hp0 : (rA R r0 2) ≠ (rA R r0 1)) (hp1 : (I (rA R r0 1) 1).toInt ≤ 16) (hp2 : (I (rA R r0 1) 2).toInt ≤ 8) (hp3 : (I (rA R r0 1) 3).toInt ≤ 8) (hp4 : ∀ j : Nat, j < 8 → (j : Int) < (I (rA R r0 1) 3).toInt → 0 ≤ (I (SA R (rA R r0 1) j) 2).toInt ∧ (I (SA R (rA R r0 1) j) 2).toInt ≤ 160) : Ex (d + 5) 174 [.ref r0] (T, N, I, L, R) 0 0 (pV T N R (fun I9 L9 => ((I9 r0 3).toInt = 1) ∧ ((I9 (rA R r0 2) 0).toInt = (I (rA R r0 1) 0).toInt) ∧ ((I9 (rA R r0 2) 1).toInt = (I (rA R r0 1) 1).toInt) ∧ ((I9 (rA R r0 2) 2).toInt = (I (rA R r0 1) 2).toInt) ∧ ((I9 (rA R r0 2) 3).toInt = (I (rA R r0 1) 3).toInt) ∧ ((I9 (rA R r0 2) 4).toInt = (I (rA R r0 1) 4).toInt) ∧ ((I9 (rA R r0 2) 5).toInt = (I (rA R r0 1) 5).toInt) ∧ (CAL R I9 I (rA R r0 2) (rA R r0 1) 40) ∧ (FLL R I9 I (rA R r0 2) (rA R r0 1) (I (rA R r0 1) 1).toInt) ∧ (TLL R I9 I (rA R r0 2) (rA R r0 1) (I (rA R r0 1) 2).toInt) ∧ (SLL R I9 I (rA R r0 2) (rA R r0 1) (I (rA R r0 1) 3).toInt) ∧ (IX A T I9 ∧ Chg (fun a => OWN R (rA R r0 2) a ∨ a = r0) T [(3, 0), (8, 2), (9, 0), (9, 1), (9, 2), (9, 3), (9, 4), (9, 5), (10, 0), (10, 1), (10, 2), (10, 3), (12, 3)] I L I9 L9))) := by sorry
theorem s_X11_back_p {d : Nat} {T N : Nat → Nat} {I : IT} {L : LT} {R : RT} {A B : Nat → Prop} {r0 : Nat} (hS : SUB B A) (hI : IX A T I) (H_r0 : (hs_LF T N R A B) r0) (hU : UPR T R) (hp0 : (rA R r0 1) ≠ (rA R r0 2)) (hp1 : (I r0 3).toInt ≠ 0 → (I (rA R r0 2) 1).toInt ≤ 16) (hp2 : (I r0 3).toInt ≠ 0 → (I (rA R r0 2) 2).toInt ≤ 8) (hp3 : (I r0 3).toInt ≠ 0 → (I (rA R r0 2) 3).toInt ≤ 8) (hp4 : (I r0 3).toInt ≠ 0 → (∀ j : Nat, j < 8 → (j : Int) < (I (rA R r0 2) 3).toInt → 0 ≤ (I (SA R (rA R r0 2) j) 2).toInt ∧ (I (SA R (rA R r0 2) j) 2).toInt ≤ 160)) : Ex (d + 5) 175 [.ref r0] (T, N, I, L, R) 0 0 (pI T N R (fun x9 I9 L9 => (0 ≤ x9.toInt) ∧ (x9.toInt ≤ 1) ∧ (BKX R I9 I (rA R r0 1) (rA R r0 2) x9.toInt (I r0 3).toInt) ∧ (x9.toInt ≠ 0 → SLL R I9 I (rA R r0 1) (rA R r0 2) (I (rA R r0 2) 3).toInt) ∧ (IX A T I9 ∧ Chg (OWN R (rA R r0 1)) T [(3, 0), (8, 2), (9, 0), (9, 1), (9, 2), (9, 3), (9, 4), (9, 5), (10, 0), (10, 1), (10, 2), (10, 3)] I L I9 L9))) := by sorry
theorem s_X11_signs_p {d : Nat} {T N : Nat → Nat} {I : IT} {L : LT} {R : RT} {A B : Nat → Prop} {r0 : Nat} (hS : SUB B A) (hI : IX A T I) (H_r0 : (hs_LF T N R A B) r0) (hU : UPR T R) (hp0 : 0 ≤ (I (rA R r0 1) 3).toInt) (hp1 : (I (rA R r0 1) 3).toInt ≤ 8) (hp2 : 0 ≤ (I (rA R r0 0) 1).toInt) (hp3 : (I (rA R r0 0) 1).toInt ≤ 400) : Ex (d + 31) 131 [.ref r0] (T, N, I, L, R) 1 6 (pW2 [0, 2] T N R (pI T N R (fun x9 I9 L9 => ((I9 (rA R r0 0) 1).toInt = 0) ∧ ((I (rA R r0 1) 3).toInt < 8 ∧ x9.toInt = (I (rA R r0 1) 3).toInt) ∧ ((I9 (rA R r0 1) 3).toInt = (I (rA R r0 1) 3).toInt + 1) ∧ (RDA 160 (BCH (I (rA R (rA R r0 0) 2)) (I (rA R r0 0) 1).toInt) = some (STL R I9 (SA R (rA R r0 1) (I (rA R r0 1) 3).toNatClampNeg))) ∧ (0 ≤ (I9 (SA R (rA R r0 1) (I (rA R r0 1) 3).toNatClampNeg) 2).toInt ∧ (I9 (SA R (rA R r0 1) (I (rA R r0 1) 3).toNatClampNeg) 2).toInt ≤ 160) ∧ (IX A T I9 ∧ Chg (fun a => a = r0 ∨ a = (rA R r0 0) ∨ a = (rA R (rA R r0 0) 0) ∨ a = rA R (rA R (rA R r0 0) 0) 0 ∨ a = rA R (rA R (rA R r0 0) 0) 1 ∨ a = (rA R r0 1) ∨ a = SA R (rA R r0 1) (I (rA R r0 1) 3).toNatClampNeg ∨ a = rA R (SA R (rA R r0 1) (I (rA R r0 1) 3).toNatClampNeg) 0 ∨ a = rA R (SA R (rA R r0 1) (I (rA R r0 1) 3).toNatClampNeg) 1) T [(5, 1), (5, 3), (5, 4), (5, 5), (8, 2), (9, 3), (12, 4)] I L I9 L9))) (fun e9 I9 L9 => (IX A T I9 ∧ Chg (fun a => a = r0 ∨ a = (rA R r0 0) ∨ a = (rA R (rA R r0 0) 0) ∨ a = rA R (rA R (rA R r0 0) 0) 0 ∨ a = rA R (rA R (rA R r0 0) 0) 1 ∨ a = (rA R r0 1) ∨ a = SA R (rA R r0 1) (I (rA R r0 1) 3).toNatClampNeg ∨ a = rA R (SA R (rA R r0 1) (I (rA R r0 1) 3).toNatClampNeg) 0 ∨ a = rA R (SA R (rA R r0 1) (I (rA R r0 1) 3).toNatClampNeg) 1) T [(5, 1), (5, 3), (5, 4), (5, 5), (8, 2), (9, 3), (12, 4)] I L I9 L9) ∧ (e9 = 0 → (I9 (rA R r0 0) 1).toInt = 0) ∧ (e9 = 0 → RDA 160 (BCH (I (rA R (rA R r0 0) 2)) (I (rA R r0 0) 1).toInt) = none) ∧ (e9 = 0 → ∀ a, ¬ (a = r0 ∨ a = (rA R r0 0) ∨ a = (rA R (rA R r0 0) 0) ∨ a = rA R (rA R (rA R r0 0) 0) 0 ∨ a = rA R (rA R (rA R r0 0) 0) 1) → I9 a = I a) ∧ (e9 = 2 → (I9 (rA R r0 0) 1).toInt = 0) ∧ (e9 = 2 → 8 ≤ (I (rA R r0 1) 3).toInt) ∧ (e9 = 2 → RDA 160 (BCH (I (rA R (rA R r0 0) 2)) (I (rA R r0 0) 1).toInt) ≠ none) ∧ (e9 = 2 → ∀ a, ¬ (a = r0 ∨ a = (rA R r0 0) ∨ a = (rA R (rA R r0 0) 0) ∨ a = rA R (rA R (rA R r0 0) 0) 0 ∨ a = rA R (rA R (rA R r0 0) 0) 1) → I9 a = I a))) := by sorry

/-- bytes, all of them -/
def TBY (f : Nat → Int32) : Prop := ∀ k, -128 ≤ (f k).toInt ∧ (f k).toInt ≤ 127
theorem TBY.u {I1 I2 : IT} {b j : Nat} {v : Int32} (h : TBY (I1 b)) (u : I2 = u2 I1 b j v.toInt8.toInt32) : TBY (I2 b) := fun k => by
  rw [u]
  by_cases q : k = j
  · rw [q, u2_s]; exact (byte_m v).2
  · rw [u2_k (by omega)]; exact h k
theorem a_X12_feed_x9 {d : Nat} {T N : Nat → Nat} {I : IT} {L : LT} {R : RT} {A : Nat → Prop} {r0 : Nat} {n1 n2 n3 n4 n5 : Int32} (hI : IM R r0 I) (H_r0 : (h_MD T N R A) r0) : Ex (d + 1) 216 [.ref r0, .int n1, .int n2, .int n3, .int n4, .int n5] (T, N, I, L, R) 0 0 (pI T N R (fun x9 I9 L9 => (-1 ≤ x9.toInt) ∧ (x9.toInt ≤ 400) ∧ (380 < (I r0 11).toInt ∧ x9.toInt = -1 ∧ (I9 r0 11).toInt = (I r0 11).toInt ∨ (I r0 11).toInt ≤ 380 ∧ x9.toInt = (I r0 11).toInt + 20 ∧ (I9 r0 11).toInt = (I r0 11).toInt + 20) ∧ (∀ a10, R r0 10 = some a10 → TFX (I9 a10) (I a10) (I r0 11) (F5 n1 n2 n3 n4 n5)) ∧ (∀ a10, R r0 10 = some a10 → TBY (I a10) → TBY (I9 a10)) ∧ (IM R r0 I9 ∧ CM A R r0 [0, 11] [10, 18] I L I9 L9))) := by sorry

/-! the reference: signs read, exactly -/
def WSL (W : Nat → Int32) (n : Nat) : List (Int × Int) := (List.range (W (198 + 401 * n)).toInt.toNat).map (fun k => ((W (199 + 401 * n + 2 * k)).toInt, (W (200 + 401 * n + 2 * k)).toInt))
theorem WSL.len {W : Nat → Int32} {n : Nat} : (WSL W n).length = (W (198 + 401 * n)).toInt.toNat := by unfold WSL; rw [List.length_map, List.length_range]
theorem WSL.eq {W W1 : Nat → Int32} {n : Nat} (hl : (WSL W n).length ≤ 160) (e : ∀ r, 198 + 401 * n ≤ r → r < 599 + 401 * n → W1 r = W r) : WSL W1 n = WSL W n := by
  have l := WSL.len (W := W) (n := n)
  unfold WSL
  rw [e _ (by omega) (by omega)]
  exact List.map_congr_left (fun k hk => by
    have hk := List.mem_range.mp hk
    rw [e (199 + 401 * n + 2 * k) (by omega) (by omega), e (200 + 401 * n + 2 * k) (by omega) (by omega)])
section Lrp
variable {M : Nat}
def BCM (f : Nat → Int32) (m : Int) (k : Nat) : Int := if (k : Int) < m then (f k).toInt % 256 else -1
def WTL (W : Nat → Int32) (n : Nat) : List (Int × Int) := (List.range n).map (fun k => ((W (3607 + 2 * k)).toInt, (W (3608 + 2 * k)).toInt))
def RDM (I : IT) (m w : Nat) : PSt := ((I m 12).toInt.toNat, (I m 16).toInt.toNat, WTL (I w) (I m 19).toInt.toNat)
theorem BCM.c40 {f : Nat → Int32} {m : Int} (h : m ≤ 400) : C40 (BCM f m) := fun i hi => by unfold BCM; rw [if_neg (by omega)]
theorem BCM.at {f f1 : Nat → Int32} {m : Int} {k x : Int32} {j : Nat} (e1 : f1 = f) (e : f1 k.toNatClampNeg = x) (h0 : 0 ≤ k.toInt) (h1 : k.toInt < m) (hj : (j : Int) = k.toInt) : BCM f m j = x.toInt % 256 := by
  have n0 := ncz h0
  unfold BCM
  rw [if_pos (by omega), ← e1, show j = k.toNatClampNeg from by omega, e]
theorem BCM.ab {f f1 : Nat → Int32} {m : Int} {k x : Int32} {j : Nat} (hT : TBY f) (e1 : f1 = f) (e : f1 k.toNatClampNeg = x) (h0 : 0 ≤ k.toInt) (h1 : k.toInt < m) (hj : (j : Int) = k.toInt) : BCM f m j = x.toInt % 256 ∧ -128 ≤ x.toInt ∧ x.toInt ≤ 127 := ⟨BCM.at e1 e h0 h1 hj, by have q := hT k.toNatClampNeg; rw [← e1, e] at q; exact q⟩
theorem BCM.no {f : Nat → Int32} {m : Int} {j : Nat} (h : m ≤ (j : Int)) : BCM f m j = -1 := by unfold BCM; rw [if_neg (by omega)]
theorem BCM.lt {f : Nat → Int32} {m v : Int} {j : Nat} (h : BCM f m j = v) (hv : v ≠ -1) : (j : Int) < m := by
  unfold BCM at h
  by_cases q : (j : Int) < m
  · exact q
  · rw [if_neg q] at h; omega
theorem BCM.tb {x : Int32} {n : Int} (h : -128 ≤ x.toInt ∧ x.toInt ≤ 127) (hn : 0 ≤ n ∧ n ≤ 127) : (n ≤ x.toInt % 256 ↔ n ≤ x.toInt ∨ x.toInt < 0) ∧ (x.toInt % 256 ≤ n ↔ 0 ≤ x.toInt ∧ x.toInt ≤ n) := by omega
theorem WTL.len {W : Nat → Int32} {n : Nat} : (WTL W n).length = n := by unfold WTL; rw [List.length_map, List.length_range]
theorem WTL.em {W W1 : Nat → Int32} {s s' a b : Int32} (h : EMT W W1 s.toNatClampNeg a b) (h0 : 0 ≤ s.toInt) (hs : s'.toInt = s.toInt + 1) : WTL W1 s'.toInt.toNat = WTL W s.toInt.toNat ++ [(a.toInt, b.toInt)] := by
  have n0 := ncz h0
  obtain ⟨h1, h2, h3⟩ := h
  unfold WTL
  rw [show s'.toInt.toNat = s.toInt.toNat + 1 from by omega, List.range_succ, List.map_append]
  have e : (List.range s.toInt.toNat).map (fun k => ((W1 (3607 + 2 * k)).toInt, (W1 (3608 + 2 * k)).toInt)) = (List.range s.toInt.toNat).map (fun k => ((W (3607 + 2 * k)).toInt, (W (3608 + 2 * k)).toInt)) := List.map_congr_left (fun k hk => by
    have hk := List.mem_range.mp hk
    rw [h3 (3607 + 2 * k) (by omega) (by omega), h3 (3608 + 2 * k) (by omega) (by omega)])
  rw [e]
  show _ ++ [((W1 (3607 + 2 * s.toInt.toNat)).toInt, (W1 (3608 + 2 * s.toInt.toNat)).toInt)] = _
  rw [show 3607 + 2 * s.toInt.toNat = 3606 + 1 + 2 * s.toNatClampNeg from by omega, show 3608 + 2 * s.toInt.toNat = 3606 + 2 + 2 * s.toNatClampNeg from by omega, h1, h2]
theorem RDM.mk {I : IT} {m w : Nat} {p c : Nat} {g : Nat → Int32} {z : Int32} (h1 : (I m 12).toInt = p) (h2 : (I m 16).toInt = c) (h3 : I m 19 = z) (h4 : I w = g) : RDM I m w = (p, c, WTL g z.toInt.toNat) := by
  unfold RDM
  rw [h1, h2, h3, h4]; rfl
theorem RDM.l {I : IT} {m w : Nat} {s : PSt} {g : Nat → Int32} {z : Int32} (hs : RDM I m w = s) (h3 : I m 19 = z) (h4 : I w = g) : WTL g z.toInt.toNat = s.2.2 := by subst hs; subst h3; subst h4; rfl
theorem RDM.c1 {I : IT} {m w : Nat} {s : PSt} {z : Int32} (hs : RDM I m w = s) (e : I m 12 = z) (h : 0 ≤ z.toInt) : z.toInt = s.1 := by
  subst hs; show z.toInt = ((I m 12).toInt.toNat : Int); rw [e]; omega
theorem RDM.c2 {I : IT} {m w : Nat} {s : PSt} {z : Int32} (hs : RDM I m w = s) (e : I m 16 = z) (h : 0 ≤ z.toInt) : z.toInt = s.2.1 := by
  subst hs; show z.toInt = ((I m 16).toInt.toNat : Int); rw [e]; omega
theorem RDM.c3 {I : IT} {m w : Nat} {s : PSt} {z : Int32} (hs : RDM I m w = s) (e : I m 19 = z) (h : 0 ≤ z.toInt) : z.toInt = s.2.2.length := by
  subst hs; show z.toInt = ((WTL (I w) (I m 19).toInt.toNat).length : Int); rw [WTL.len, e]; omega
/-- the same world and steps: place and count told -/
theorem RDM.nx {I I1 : IT} {m w : Nat} {s : PSt} (hs : RDM I m w = s) (e3 : (I1 m 19).toInt = (I m 19).toInt) (e4 : I1 w = I w) {p c : Nat} (h1 : (I1 m 12).toInt = p) (h2 : (I1 m 16).toInt = c) : RDM I1 m w = (p, c, s.2.2) := by
  subst hs; unfold RDM
  rw [h1, h2, e3, e4]; rfl
theorem RDM.u {I I1 : IT} {m w j : Nat} {v : Int32} {s : PSt} (hs : RDM I m w = s) (u : I1 = u2 I m j v) (hw : w ≠ m) (h1 : 12 ≠ j) (h2 : 16 ≠ j) (h3 : 19 ≠ j) : RDM I1 m w = s := by
  subst hs; unfold RDM
  rw [u, u2_k h1, u2_k h2, u2_k h3, u2_r hw]
theorem RDM.u12 {I I1 : IT} {m w : Nat} {v : Int32} {s : PSt} {p : Nat} (hs : RDM I m w = s) (u : I1 = u2 I m 12 v) (hw : w ≠ m) (hp : v.toInt = p) : RDM I1 m w = (p, s.2) := by
  subst hs; unfold RDM
  rw [u, u2_s, u2_k (by decide), u2_k (by decide), u2_r hw, hp]; rfl
theorem RDM.u16 {I I1 : IT} {m w : Nat} {v : Int32} {s : PSt} {c : Nat} (hs : RDM I m w = s) (u : I1 = u2 I m 16 v) (hw : w ≠ m) (hc : v.toInt = c) : RDM I1 m w = (s.1, c, s.2.2) := by
  subst hs; unfold RDM
  rw [u, u2_k (by decide), u2_s, u2_k (by decide), u2_r hw, hc]; rfl
theorem APS.in {l : List (Int × Int)} {x : Int × Int} (h : l.length < M) : l ++ [x] = APS M l x := by unfold APS; rw [if_pos h]
/-- behind a sign that may stand there -/
def HSR (c : Nat → Int) (v x : Int) (s t : PSt) : Prop := (x = 1 ∧ c (SKP c s.1) = v ∧ t = (SKP c s.1 + 1, s.2)) ∨ (x = 0 ∧ c (SKP c s.1) ≠ v ∧ t = (SKP c s.1, s.2))
def CTR (c : Nat → Int) (v x : Int) (s t : PSt) : Prop := (x = 1 ∧ c (SKP c s.1) = v ∧ s.2.1 ≠ 40 ∧ t = (SKP c s.1 + 1, s.2.1 + 1, s.2.2)) ∨ (x = 0 ∧ (c (SKP c s.1) ≠ v ∨ s.2.1 = 40) ∧ t = (SKP c s.1, s.2))
def NMG (c : Nat → Int) (most : Int) (q : Nat) : Prop := 1 ≤ DGF c 4 q ∧ DGF c 4 q ≤ 3 ∧ VLU c q (DGF c 4 q) ≤ most
def NMR (c : Nat → Int) (most x : Int) (s t : PSt) : Prop := (x < 0 ∧ ¬ NMG c most (SKP c s.1)) ∨ (0 ≤ x ∧ NMG c most (SKP c s.1) ∧ x = VLU c (SKP c s.1) (DGF c 4 (SKP c s.1)) ∧ t = (SKP c s.1 + DGF c 4 (SKP c s.1), s.2))
theorem NUB.g {c : Nat → Int} {k most : Int} {s : PSt} (h : NMG c most s.1) : NUB M c k most s = some (s.1 + DGF c 4 s.1, s.2.1, APS M s.2.2 (k, VLU c s.1 (DGF c 4 s.1))) := by unfold NUB; exact if_pos h
theorem NUB.ng {c : Nat → Int} {k most : Int} {s : PSt} (h : ¬ NMG c most s.1) : NUB M c k most s = none := by unfold NUB; exact if_neg h
/-- nothing that can stand there follows any more -/
def STK (c : Nat → Int) (t : PSt) : Prop := (65 ≤ c (SKP c t.1) ∧ c (SKP c t.1) ≤ 90) ∨ ((c (SKP c t.1) = 42 ∨ c (SKP c t.1) = 43) ∧ 40 ≤ t.2.1)
theorem STK.sk {c : Nat → Int} {t u : PSt} (hc : C40 c) (h : STK c t) (e1 : u.1 = SKP c t.1) (e2 : u.2.1 = t.2.1) : STK c u := by
  unfold STK at *
  rw [e1, SKP.sk hc, e2]; exact h
theorem STK.cg {c : Nat → Int} {t u : PSt} (h : STK c t) (e1 : u.1 = t.1) (e2 : u.2.1 = t.2.1) : STK c u := by
  unfold STK at *
  rw [e1, e2]; exact h
def RS3 (c : Nat → Int) (x : Int) (o : Option PSt) (t : PSt) : Prop := (x = 0 ∧ o = none) ∨ (x = 1 ∧ (o = some t ∨ (o = none ∧ STK c t)))
theorem RS3.f {c : Nat → Int} {x : Int} {o : Option PSt} {t : PSt} (hx : x = 0) (h : o = none) : RS3 c x o t := Or.inl ⟨hx, h⟩
theorem RS3.t {c : Nat → Int} {x : Int} {o : Option PSt} {t : PSt} (hx : x = 1) (h : o = some t) : RS3 c x o t := Or.inr ⟨hx, Or.inl h⟩
theorem RS3.s {c : Nat → Int} {x : Int} {o : Option PSt} {t : PSt} (hx : x = 1) (h : o = none) (k : STK c t) : RS3 c x o t := Or.inr ⟨hx, Or.inr ⟨h, k⟩⟩
theorem RS3.no {c : Nat → Int} {x : Int} {o : Option PSt} {t : PSt} (h : RS3 c x o t) (hx : x ≠ 1) : o = none := by
  rcases h with h | h
  · exact h.2
  · exact absurd h.1 hx
theorem RS3.y {c : Nat → Int} {x : Int} {o : Option PSt} {t : PSt} (h : RS3 c x o t) (hx : x ≠ 0) : o = some t ∨ (o = none ∧ STK c t) := by
  rcases h with h | h
  · exact absurd h.1 hx
  · exact h.2
theorem RS3.b {c : Nat → Int} {x : Int} {o o' : Option PSt} {t : PSt} (h : RS3 c x o' t) (e : o = o') : RS3 c x o t := by subst e; exact h
theorem RS3.x {c : Nat → Int} {x y : Int} {o : Option PSt} {t : PSt} (h : RS3 c x o t) (e : y = x) : RS3 c y o t := by subst e; exact h
/-- then one step -/
theorem RS3.m {c : Nat → Int} {x : Int} {o : Option PSt} {u t : PSt} {k n : Int} (h : o = some u ∨ (o = none ∧ STK c u)) (hx : x = 1) (ht : t = (u.1, u.2.1, APS M u.2.2 (k, n))) : RS3 c x (o.bind (fun t => some (t.1, t.2.1, APS M t.2.2 (k, n)))) t := by
  subst ht
  rcases h with h | ⟨h, s⟩
  · exact RS3.t hx (by rw [h]; rfl)
  · exact RS3.s hx (by rw [h]; rfl) (s.cg rfl rfl)
/-- then a sign that isn't one of those -/
theorem HSR.tk {c : Nat → Int} {v x : Int} {u t : PSt} (g : HSR c v x u t) : (x = 1 ∧ TAK c v u = some t) ∨ (x = 0 ∧ TAK c v u = none) := by
  unfold TAK
  rcases g with ⟨g1, g2, g3⟩ | ⟨g1, g2, g3⟩
  · left; rw [if_pos g2, g3]; exact ⟨g1, rfl⟩
  · right; rw [if_neg g2]; exact ⟨g1, rfl⟩
theorem STK.no {c : Nat → Int} {v x : Int} {u t : PSt} (s : STK c u) (g : HSR c v x u t) (hv : v ≠ 42 ∧ v ≠ 43 ∧ ¬ (65 ≤ v ∧ v ≤ 90)) : x = 0 := by
  rcases g with ⟨g1, g2, g3⟩ | ⟨g1, g2, g3⟩
  · exfalso; unfold STK at s; omega
  · exact g1
theorem RS3.k {c : Nat → Int} {v x : Int} {o : Option PSt} {u t : PSt} (h : o = some u ∨ (o = none ∧ STK c u)) (g : HSR c v x u t) (hv : v ≠ 42 ∧ v ≠ 43 ∧ ¬ (65 ≤ v ∧ v ≤ 90)) : RS3 c x (o.bind (TAK c v)) t := by
  rcases h with h | ⟨h, s⟩
  · rw [h]
    rcases g.tk with ⟨g1, g2⟩ | ⟨g1, g2⟩
    · exact RS3.t g1 g2
    · exact RS3.f g1 g2
  · exact RS3.f (s.no g hv) (by rw [h]; rfl)
def ROV2 (M : Nat) (c : Nat → Int) (S : PSt → Option PSt) (s : PSt) : Option PSt := if 40 ≤ s.2.1 then none else (S (s.1, s.2.1 + 1, s.2.2)).bind (fun t => (TAK c 44 t).bind (fun t => (S t).bind (fun t => (TAK c 93 t).bind (fun t => NUB M c 4 8 (SKP c t.1, t.2)))))
theorem ROV2.e {c : Nat → Int} {S : PSt → Option PSt} {s : PSt} : ROV M c S s = ROV2 M c S (s.1 + 1, s.2) := rfl
theorem ROV2.n0 {c : Nat → Int} {S : PSt → Option PSt} {s : PSt} (h : 40 ≤ s.2.1) : ROV2 M c S s = none := by unfold ROV2; rw [if_pos h]
theorem ROV2.u {c : Nat → Int} {S : PSt → Option PSt} {s : PSt} (h : s.2.1 < 40) : ROV2 M c S s = (((S (s.1, s.2.1 + 1, s.2.2)).bind (TAK c 44)).bind S).bind (fun t => (TAK c 93 t).bind (fun t => NUB M c 4 8 (SKP c t.1, t.2))) := by
  unfold ROV2; rw [if_neg (by omega)]
  cases S (s.1, s.2.1 + 1, s.2.2) with
  | none => rfl
  | some t =>
    show (TAK c 44 t).bind _ = ((TAK c 44 t).bind S).bind _
    cases TAK c 44 t with
    | none => rfl
    | some t => rfl
/-- on the way through joined ones, or where nothing can stand any more -/
def LP3 (M : Nat) (c : Nat → Int) (v k : Int) (P : PSt → Option PSt) (o : Option PSt) (s : PSt) : Prop := LPI M c v k P o s 0 ∨ (o = none ∧ STK c s)
theorem LP3.z {c : Nat → Int} {v k : Int} {P : PSt → Option PSt} {o o1 : Option PSt} {s : PSt} (h1 : o1 = some s ∨ (o1 = none ∧ STK c s)) (h : o = o1.bind (RLP M c v k P 41)) (hs : s.2.1 ≤ 40) : LP3 M c v k P o s := by
  rcases h1 with e | ⟨e, q⟩
  · exact Or.inl (LPI.z e h rfl hs)
  · exact Or.inr ⟨by rw [h, e]; rfl, q⟩
theorem LP3.out {c : Nat → Int} {v k x y : Int} {P : PSt → Option PSt} {o : Option PSt} {s t : PSt} (h : LP3 M c v k P o s) (hc : C40 c) (g : CTR c v y s t) (hy : y ≠ 1) (hv : v = 42 ∨ v = 43) (hx : x = 1) : RS3 c x o t := by
  rcases g with g | ⟨-, g2, g3⟩
  · exact absurd g.1 hy
  · subst g3
    rcases h with h | ⟨h, q⟩
    · by_cases e : c (SKP c s.1) = v
      · have e4 := g2.resolve_left (fun z => z e)
        refine RS3.s hx (h.no e (by omega)) (Or.inr ⟨?_, by show 40 ≤ s.2.1; omega⟩)
        show c (SKP c (SKP c s.1)) = 42 ∨ c (SKP c (SKP c s.1)) = 43
        rw [SKP.sk hc, e]; exact hv
      · exact RS3.t hx (h.out e)
    · exact RS3.s hx h (q.sk hc rfl rfl)
theorem LP3.in {c : Nat → Int} {v k y : Int} {P : PSt → Option PSt} {o : Option PSt} {s t : PSt} (h : LP3 M c v k P o s) (g : CTR c v y s t) (hy : y ≠ 0) (hv : v = 42 ∨ v = 43) (h4 : s.2.1 ≤ 40) : LPI M c v k P o s 0 ∧ c (SKP c s.1) = v ∧ s.2.1 < 40 ∧ t = (SKP c s.1 + 1, s.2.1 + 1, s.2.2) := by
  rcases g with ⟨-, g1, g2, g3⟩ | g
  · refine ⟨h.resolve_right (fun q => ?_), g1, by omega, g3⟩
    have q := q.2
    unfold STK at q; omega
  · exact absurd g.1 hy
theorem LP3.s {c : Nat → Int} {v k : Int} {P : PSt → Option PSt} {o : Option PSt} {s u t : PSt} (h : LPI M c v k P o s 0) (e : c (SKP c s.1) = v) (hs : s.2.1 < 40) (hy : P (SKP c s.1 + 1, s.2.1 + 1, s.2.2) = some u ∨ (P (SKP c s.1 + 1, s.2.1 + 1, s.2.2) = none ∧ STK c u)) (hu : s.2.1 + 1 ≤ u.2.1) (h4 : u.2.1 ≤ 40) (et : t = (u.1, u.2.1, APS M u.2.2 (k, 0))) : LP3 M c v k P o t := by
  rcases hy with y | ⟨y, q⟩
  · obtain ⟨n, a1, a2, a3, a4⟩ := LPI.s (turn' := 1) h e hs y hu h4 et (by omega)
    exact Or.inl ⟨n, a1, a2, by omega, a4⟩
  · exact Or.inr ⟨h.no2 e hs y, q.cg (by rw [et]) (by rw [et])⟩
/-- letters from p to q -/
def LTB (c : Nat → Int) (p q : Nat) : Prop := p ≤ q ∧ ∀ i, p ≤ i → i < q → 97 ≤ c i ∧ c i ≤ 122
theorem LTB.z {c : Nat → Int} {p q : Nat} (h : q = p) : LTB c p q := ⟨by omega, fun i h1 h2 => by omega⟩
theorem LTB.s {c : Nat → Int} {p q q' : Nat} (h : LTB c p q) (e : 97 ≤ c q ∧ c q ≤ 122) (hq : q' = q + 1) : LTB c p q' := by
  subst hq
  refine ⟨by have := h.1; omega, fun i h1 h2 => ?_⟩
  by_cases x : i = q
  · subst x; exact e
  · exact h.2 i h1 (by omega)
/-- no sign begins there but perhaps a letter; a word is none -/
theorem LTB.no {c : Nat → Int} {k p q : Nat} {s : PSt} (h : LTB c p q) (hp : p = SKP c s.1) (nd : ¬ (48 ≤ c p ∧ c p ≤ 57)) (n1 : c p ≠ 45) (n2 : c p ≠ 40) (n3 : c p ≠ 91) (e : ¬ (97 ≤ c q ∧ c q ≤ 122)) (hq : q ≠ p + 1) : RPT M c k s = none := by
  subst hp
  by_cases f : c (SKP c s.1) = 102
  · rw [RPT.l f]
    have q2 : SKP c s.1 + 1 < q := by
      have := h.1
      rcases Nat.eq_or_lt_of_le h.1 with z | z
      · exfalso; rw [← z] at e; omega
      · omega
    have := h.2 (SKP c s.1 + 1) (by omega) q2
    exact RLU.n2 (s := (SKP c s.1, s.2)) rfl (Or.inl this)
  · exact RPT.n f nd n2 n3 n1
theorem LTB.nf {c : Nat → Int} {k p : Nat} {s : PSt} (hp : p = SKP c s.1) (nd : ¬ (48 ≤ c p ∧ c p ≤ 57)) (n1 : c p ≠ 45) (n2 : c p ≠ 40) (n3 : c p ≠ 91) (f : c p ≠ 102) : RPT M c k s = none := by
  subst hp
  exact RPT.n f nd n2 n3 n1
theorem LTB.f {c : Nat → Int} {k p : Nat} {s t : PSt} {y : Int} (hc : C40 c) (hp : p = SKP c s.1) (f : c p = 102) (hs : s.2.1 < 40) (e : ¬ (97 ≤ c (p + 1) ∧ c (p + 1) ≤ 122)) (ht : t = (p + 1, s.2.1 + 1, APS M s.2.2 (0, 0))) (hy : y = 1) : RS3 c y (RPT M c k s) t := by
  subst hp; subst ht
  rw [RPT.l f]
  by_cases u : 65 ≤ c (SKP c s.1 + 1) ∧ c (SKP c s.1 + 1) ≤ 90
  · refine RS3.s hy (RLU.n2 (s := (SKP c s.1, s.2)) rfl (Or.inr u)) (Or.inl ?_)
    have : SKP c (SKP c s.1 + 1) = SKP c s.1 + 1 := SKP.id hc (by omega)
    show 65 ≤ c (SKP c (SKP c s.1 + 1)) ∧ c (SKP c (SKP c s.1 + 1)) ≤ 90
    rw [this]; exact u
  · refine RS3.t hy ?_
    unfold RLU
    rw [if_neg (by show ¬ (40 ≤ s.2.1 ∨ (97 ≤ c (SKP c s.1 + 1) ∧ c (SKP c s.1 + 1) ≤ 122) ∨ (65 ≤ c (SKP c s.1 + 1) ∧ c (SKP c s.1 + 1) ≤ 90)); omega)]
theorem LTB.n4 {c : Nat → Int} {k p : Nat} {s : PSt} (hp : p = SKP c s.1) (f : c p = 102) (hs : 40 ≤ s.2.1) : RPT M c k s = none := by
  subst hp
  rw [RPT.l f]; exact RLU.n1 hs
theorem RDM.em {t s : PSt} {a b k n : Int} (h : t = (s.1, s.2.1, s.2.2 ++ [(a, b)])) (ha : a = k) (hb : b = n) (hl : s.2.2.length < M) : t = (s.1, s.2.1, APS M s.2.2 (k, n)) := by
  subst ha; subst hb
  rw [h, APS.in hl]
theorem HSR.v {c : Nat → Int} {a b x : Int} {s t : PSt} (h : HSR c a x s t) (e : a = b) : HSR c b x s t := by subst e; exact h
theorem CTR.v {c : Nat → Int} {a b x : Int} {s t : PSt} (h : CTR c a x s t) (e : a = b) : CTR c b x s t := by subst e; exact h
theorem HSR.n {c : Nat → Int} {v x : Int} {s t : PSt} (h : HSR c v x s t) (hx : x ≠ 1) : c (SKP c s.1) ≠ v ∧ t = (SKP c s.1, s.2) := by
  rcases h with h | h
  · exact absurd h.1 hx
  · exact h.2
theorem HSR.y {c : Nat → Int} {v x : Int} {s t : PSt} (h : HSR c v x s t) (hx : x ≠ 0) : c (SKP c s.1) = v ∧ t = (SKP c s.1 + 1, s.2) := by
  rcases h with h | h
  · exact h.2
  · exact absurd h.1 hx
theorem HSR.sk {c : Nat → Int} {v x : Int} {s t : PSt} (hc : C40 c) (h : HSR c v x (SKP c s.1, s.2) t) : HSR c v x s t := by
  unfold HSR at *
  have e : SKP c (SKP c s.1, s.2).1 = SKP c s.1 := SKP.sk hc _
  rw [e] at h; exact h
def NMI (c : Nat → Int) (q : Nat) (v p : Int) : Prop := ∃ j : Nat, p = q + j ∧ DGB c q j ∧ v = VLU c q (min j 3)
theorem NMI.z {c : Nat → Int} {q : Nat} {v p : Int} (hp : p = q) (hv : v = 0) : NMI c q v p := ⟨0, by omega, fun i hi => absurd hi (by omega), by rw [hv]; rfl⟩
theorem NMI.s1 {c : Nat → Int} {q k : Nat} {v v' p p' : Int} (h : NMI c q v p) (hk : (k : Int) = p) (d : 48 ≤ c k ∧ c k ≤ 57) (h3 : p - q < 3) (hv : v' = 10 * v + c k - 48) (hp : p' = p + 1) : NMI c q v' p' := by
  obtain ⟨j, a1, a2, a3⟩ := h
  have e : k = q + j := by omega
  subst e
  refine ⟨j + 1, by omega, fun i hi => ?_, ?_⟩
  · by_cases y : i = j
    · subst y; exact d
    · exact a2 i (by omega)
  · rw [show min (j + 1) 3 = j + 1 from by omega]
    rw [show min j 3 = j from by omega] at a3
    show v' = 10 * VLU c q j + (c (q + j) - 48)
    omega
theorem NMI.s2 {c : Nat → Int} {q k : Nat} {v v' p p' : Int} (h : NMI c q v p) (hk : (k : Int) = p) (d : 48 ≤ c k ∧ c k ≤ 57) (h3 : 3 ≤ p - q) (hv : v' = v) (hp : p' = p + 1) : NMI c q v' p' := by
  obtain ⟨j, a1, a2, a3⟩ := h
  have e : k = q + j := by omega
  subst e
  refine ⟨j + 1, by omega, fun i hi => ?_, ?_⟩
  · by_cases y : i = j
    · subst y; exact d
    · exact a2 i (by omega)
  · rw [show min (j + 1) 3 = min j 3 from by omega, hv]; exact a3
theorem NMI.d {c : Nat → Int} {q k : Nat} {v p : Int} (h : NMI c q v p) (hk : (k : Int) = p) (d : ¬ (48 ≤ c k ∧ c k ≤ 57)) : (p - q ≤ 3 → (DGF c 4 q : Int) = p - q ∧ v = VLU c q (DGF c 4 q)) ∧ (3 < p - q → DGF c 4 q = 4) := by
  obtain ⟨j, a1, a2, a3⟩ := h
  have e : k = q + j := by omega
  subst e
  refine ⟨fun h3 => ?_, fun h3 => ?_⟩
  · have e := DGF.of 4 q j a2 (by omega) (Or.inr d)
    rw [e]
    refine ⟨by omega, ?_⟩
    rw [a3, show min j 3 = j from by omega]
  · exact DGF.of 4 q 4 (fun i hi => a2 i (by omega)) (by omega) (Or.inl rfl)
theorem NMR.no {c : Nat → Int} {q k : Nat} {v p most x : Int} {s t : PSt} (h : NMI c q v p) (hq : q = SKP c s.1) (hk : (k : Int) = p) (d : ¬ (48 ≤ c k ∧ c k ≤ 57)) (e : p = q ∨ 3 < p - q ∨ most < v) (hx : x < 0) : NMR c most x s t := by
  subst hq
  obtain ⟨d1, d2⟩ := h.d hk d
  refine Or.inl ⟨hx, fun g => ?_⟩
  obtain ⟨g1, g2, g3⟩ := g
  by_cases z : p - (SKP c s.1 : Nat) ≤ 3
  · have d1 := d1 z
    omega
  · have d2 := d2 (by omega)
    omega
theorem NMR.yes {c : Nat → Int} {q k : Nat} {v p most x : Int} {s t : PSt} (h : NMI c q v p) (hq : q = SKP c s.1) (hk : (k : Int) = p) (d : ¬ (48 ≤ c k ∧ c k ≤ 57)) (e1 : p ≠ q) (e2 : p - q ≤ 3) (e3 : v ≤ most) (hv : 0 ≤ v) (hx : x = v) (ht : t = (k, s.2)) : NMR c most x s t := by
  subst hq; subst ht; subst hx
  obtain ⟨d1, d2⟩ := h.d hk d
  have d1 := d1 e2
  obtain ⟨j, a1, -⟩ := h
  have ek : k = SKP c s.1 + DGF c 4 (SKP c s.1) := by omega
  exact Or.inr ⟨hv, ⟨by omega, by omega, by omega⟩, d1.2, by rw [ek]⟩
theorem NMR.b {c : Nat → Int} {most x : Int} {s t : PSt} (h : NMR c most x s t) (h0 : ¬ x < 0) : NMG c most (SKP c s.1) ∧ x = VLU c (SKP c s.1) (DGF c 4 (SKP c s.1)) ∧ t = (SKP c s.1 + DGF c 4 (SKP c s.1), s.2) := by
  rcases h with h | h
  · exact absurd h.1 h0
  · exact h.2
theorem NMR.n {c : Nat → Int} {most x : Int} {s t : PSt} (h : NMR c most x s t) (h0 : x < 0) : ¬ NMG c most (SKP c s.1) := by
  rcases h with h | h
  · exact h.2
  · omega
theorem NMR.v {c : Nat → Int} {a b x : Int} {s t : PSt} (h : NMR c a x s t) (e : a = b) : NMR c b x s t := by subst e; exact h
/-- a number that stands alone as a part -/
theorem RNB.no {c : Nat → Int} {s t : PSt} {k : Nat} {x : Int} (hc : C40 c) (hd : 48 ≤ c (SKP c s.1) ∧ c (SKP c s.1) ≤ 57) (h : NMR c 999 x (SKP c s.1, s.2.1 + 1, s.2.2) t) (h0 : x < 0) : RPT M c k s = none := by
  rw [RPT.d hd]
  have g := h.n h0
  rw [show SKP c (SKP c s.1, s.2.1 + 1, s.2.2).1 = SKP c s.1 from SKP.sk hc _] at g
  unfold RNB
  by_cases z : 40 ≤ s.2.1
  · rw [if_pos z]
  · rw [if_neg z]; exact NUB.ng g
theorem RNB.yes {c : Nat → Int} {s t u : PSt} {k : Nat} {x : Int} (hc : C40 c) (hs : s.2.1 < 40) (hd : 48 ≤ c (SKP c s.1) ∧ c (SKP c s.1) ≤ 57) (h : NMR c 999 x (SKP c s.1, s.2.1 + 1, s.2.2) t) (h0 : ¬ x < 0) (hu : u = (t.1, t.2.1, APS M t.2.2 (1, x))) : RPT M c k s = some u := by
  rw [RPT.d hd]
  obtain ⟨g, gx, gt⟩ := h.b h0
  rw [show SKP c (SKP c s.1, s.2.1 + 1, s.2.2).1 = SKP c s.1 from SKP.sk hc _] at g gx gt
  subst hu; subst gt
  unfold RNB
  rw [if_neg (by show ¬ 40 ≤ s.2.1; omega)]
  refine (NUB.g (s := (SKP c s.1, s.2.1 + 1, s.2.2)) g).trans ?_
  rw [gx]
/-- the end of [ .. ] -/
theorem ROV2.f {c : Nat → Int} {S : PSt → Option PSt} {s t1 t2 t3 t4 t5 u : PSt} {x : Int} {o1 : Option PSt} (hc : C40 c) (hs : s.2.1 < 40) (e1 : o1 = S (s.1, s.2.1 + 1, s.2.2)) (h1 : o1 = some t1 ∨ (o1 = none ∧ STK c t1)) (g1 : HSR c 44 1 t1 t2) (h2 : S t2 = some t3 ∨ (S t2 = none ∧ STK c t3)) (g2 : HSR c 93 1 t3 t4) (hn : NMR c 8 x t4 t5) : (x < 0 → ROV2 M c S s = none) ∧ (¬ x < 0 → u = (t5.1, t5.2.1, APS M t5.2.2 (4, x)) → ROV2 M c S s = some u) := by
  have a1 := h1.resolve_right (fun q => by have := q.2.no g1 (by decide); omega)
  have a2 := h2.resolve_right (fun q => by have := q.2.no g2 (by decide); omega)
  have k1 : TAK c 44 t1 = some t2 := by
    rcases g1.tk with z | z
    · exact z.2
    · exact absurd z.1 (by decide)
  have k2 : TAK c 93 t3 = some t4 := by
    rcases g2.tk with z | z
    · exact z.2
    · exact absurd z.1 (by decide)
  have e : ROV2 M c S s = NUB M c 4 8 (SKP c t4.1, t4.2) := by
    rw [ROV2.u hs, ← e1, a1]
    show ((TAK c 44 t1).bind S).bind _ = _
    rw [k1]
    show (S t2).bind _ = _
    rw [a2]
    show (TAK c 93 t3).bind _ = _
    rw [k2]; rfl
  rw [e]
  refine ⟨fun h0 => NUB.ng (s := (SKP c t4.1, t4.2)) (hn.n h0), fun h0 hu => ?_⟩
  obtain ⟨g, gx, gt⟩ := hn.b h0
  subst hu; subst gt
  refine (NUB.g (s := (SKP c t4.1, t4.2)) g).trans ?_
  rw [gx]
theorem ROV2.n1 {c : Nat → Int} {S : PSt → Option PSt} {s : PSt} (hs : s.2.1 < 40) (h : S (s.1, s.2.1 + 1, s.2.2) = none) : ROV2 M c S s = none := by rw [ROV2.u hs, h]; rfl
theorem ROV2.n2 {c : Nat → Int} {S : PSt → Option PSt} {s t1 t2 : PSt} {x : Int} (hs : s.2.1 < 40) (h1 : S (s.1, s.2.1 + 1, s.2.2) = some t1 ∨ (S (s.1, s.2.1 + 1, s.2.2) = none ∧ STK c t1)) (g1 : HSR c 44 x t1 t2) (hx : x ≠ 1) : ROV2 M c S s = none := by
  rw [ROV2.u hs]
  rcases h1 with h | ⟨h, -⟩
  · rw [h]
    show ((TAK c 44 t1).bind S).bind _ = none
    rw [(g1.tk.resolve_left (fun q => hx q.1)).2]; rfl
  · rw [h]; rfl
theorem ROV2.n3 {c : Nat → Int} {S : PSt → Option PSt} {s t1 t2 : PSt} {x : Int} (hs : s.2.1 < 40) (h1 : S (s.1, s.2.1 + 1, s.2.2) = some t1 ∨ (S (s.1, s.2.1 + 1, s.2.2) = none ∧ STK c t1)) (g1 : HSR c 44 x t1 t2) (hx : x ≠ 0) (h2 : S t2 = none) : ROV2 M c S s = none := by
  rw [ROV2.u hs]
  rcases h1 with h | ⟨h, -⟩
  · rw [h]
    show ((TAK c 44 t1).bind S).bind _ = none
    rw [(g1.tk.resolve_right (fun q => hx q.1)).2]
    show (S t2).bind _ = none
    rw [h2]; rfl
  · rw [h]; rfl
theorem ROV2.n4 {c : Nat → Int} {S : PSt → Option PSt} {s t1 t2 t3 t4 : PSt} {x y : Int} (hs : s.2.1 < 40) (h1 : S (s.1, s.2.1 + 1, s.2.2) = some t1 ∨ (S (s.1, s.2.1 + 1, s.2.2) = none ∧ STK c t1)) (g1 : HSR c 44 x t1 t2) (hx : x ≠ 0) (h2 : S t2 = some t3 ∨ (S t2 = none ∧ STK c t3)) (g2 : HSR c 93 y t3 t4) (hy : y ≠ 1) : ROV2 M c S s = none := by
  rw [ROV2.u hs]
  rcases h1 with h | ⟨h, -⟩
  · rw [h]
    show ((TAK c 44 t1).bind S).bind _ = none
    rw [(g1.tk.resolve_right (fun q => hx q.1)).2]
    show (S t2).bind _ = none
    rcases h2 with h2 | ⟨h2, -⟩
    · rw [h2]
      show (TAK c 93 t3).bind _ = none
      rw [(g2.tk.resolve_left (fun q => hy q.1)).2]; rfl
    · rw [h2]; rfl
  · rw [h]; rfl
theorem HSR.o {c : Nat → Int} {v x : Int} {s t : PSt} (h : HSR c v x s t) (hx : x = 1) : HSR c v 1 s t := by subst hx; exact h
theorem RDM.z0 {I : IT} {m w : Nat} (h1 : (I m 12).toInt = 0) (h2 : (I m 16).toInt = 0) (h3 : (I m 19).toInt = 0) : RDM I m w = (0, 0, []) := by
  unfold RDM WTL
  rw [h1, h2, h3]; rfl
/-- nothing from m on -/
def CM9 (c : Nat → Int) (m : Nat) : Prop := ∀ i, m ≤ i → c i = -1
theorem SKP.m {c : Nat → Int} {m p : Nat} (hc : CM9 c m) (h : p ≤ m) : SKP c p ≤ m := by
  by_cases x : SKP c p ≤ m
  · exact x
  · have a := (SKF.b 401 p (c := c)).1.2 m h (by show m < SKP c p; omega)
    rw [hc m (Nat.le_refl _)] at a; omega
theorem CM9.lt {c : Nat → Int} {m q : Nat} {v : Int} (hc : CM9 c m) (h : c q = v) (hv : v ≠ -1) : q < m := by
  by_cases x : q < m
  · exact x
  · have := hc q (by omega); omega
def PB9 (m : Nat) (P : PSt → Option PSt) : Prop := ∀ s t, P s = some t → s.1 ≤ m → t.1 ≤ m
theorem PB9.bd {m : Nat} {o : Option PSt} {P : PSt → Option PSt} {t : PSt} (hP : PB9 m P) (h : ∀ u, o = some u → u.1 ≤ m) (e : o.bind P = some t) : t.1 ≤ m := by
  obtain ⟨u, e1, e2⟩ := OB9.y e
  exact hP u t e2 (h u e1)
theorem PB9.tak {c : Nat → Int} {m : Nat} {v : Int} (hc : CM9 c m) (hv : v ≠ -1) : PB9 m (TAK c v) := fun s t e hs => by
  unfold TAK at e
  by_cases a : c (SKP c s.1) = v
  · rw [if_pos a] at e; cases e
    exact hc.lt a hv
  · rw [if_neg a] at e; cases e
theorem PB9.rlp {c : Nat → Int} {m : Nat} {v k : Int} {P : PSt → Option PSt} (hc : CM9 c m) (hv : v ≠ -1) (h : PB9 m P) : ∀ n, PB9 m (RLP M c v k P n)
  | 0 => fun _ _ e _ => by cases e
  | n + 1 => fun s t e hs => by
    have e : (if c (SKP c s.1) = v then (if 40 ≤ s.2.1 then none else (P (SKP c s.1 + 1, s.2.1 + 1, s.2.2)).bind (fun t => RLP M c v k P n (t.1, t.2.1, APS M t.2.2 (k, 0)))) else some (SKP c s.1, s.2)) = some t := e
    by_cases a : c (SKP c s.1) = v
    · rw [if_pos a] at e
      by_cases b : 40 ≤ s.2.1
      · rw [if_pos b] at e; cases e
      · rw [if_neg b] at e
        obtain ⟨u, e1, e2⟩ := OB9.y e
        have g := h _ _ e1 (by show SKP c s.1 + 1 ≤ m; exact hc.lt a hv)
        exact PB9.rlp hc hv h n _ _ e2 g
    · rw [if_neg a] at e; cases e
      exact SKP.m hc hs
theorem PB9.rpr {c : Nat → Int} {m : Nat} {P : PSt → Option PSt} (hc : CM9 c m) (h : PB9 m P) : PB9 m (RPR M c P) := fun s t e hs => by
  obtain ⟨u, e1, e2⟩ := OB9.y (show (P s).bind (RLP M c 42 3 P 41) = some t from e)
  exact PB9.rlp hc (by decide) h 41 u t e2 (h s u e1 hs)
theorem PB9.rsu {c : Nat → Int} {m : Nat} {P : PSt → Option PSt} (hc : CM9 c m) (h : PB9 m P) : PB9 m (RSU M c P) := fun s t e hs => by
  obtain ⟨u, e1, e2⟩ := OB9.y (show (RPR M c P s).bind (RLP M c 43 2 (RPR M c P) 41) = some t from e)
  exact PB9.rlp hc (by decide) (PB9.rpr hc h) 41 u t e2 (PB9.rpr hc h s u e1 hs)
theorem DGF.m {c : Nat → Int} {m : Nat} (hc : CM9 c m) : ∀ n p, p ≤ m → p + DGF c n p ≤ m
  | 0, p, h => h
  | n + 1, p, h => by
    show p + (if 48 ≤ c p ∧ c p ≤ 57 then DGF c n (p + 1) + 1 else 0) ≤ m
    by_cases a : 48 ≤ c p ∧ c p ≤ 57
    · rw [if_pos a]
      have l := hc.lt (q := p) rfl (by omega)
      have := DGF.m hc n (p + 1) (by omega)
      omega
    · rw [if_neg a]; omega
theorem PB9.nub {c : Nat → Int} {m : Nat} {w k : Int} (hc : CM9 c m) : PB9 m (NUB M c w k) := fun s t e hs => by
  unfold NUB at e
  by_cases a : 1 ≤ DGF c 4 s.1 ∧ DGF c 4 s.1 ≤ 3 ∧ VLU c s.1 (DGF c 4 s.1) ≤ k
  · rw [if_pos a] at e; cases e
    exact DGF.m hc 4 s.1 hs
  · rw [if_neg a] at e; cases e
theorem PB9.rlt {c : Nat → Int} {m : Nat} {s t : PSt} (hc : CM9 c m) (h : c s.1 ≠ -1) (e : RLU M c s = some t) : t.1 ≤ m := by
  unfold RLU at e
  by_cases a : 40 ≤ s.2.1 ∨ (97 ≤ c (s.1 + 1) ∧ c (s.1 + 1) ≤ 122) ∨ (65 ≤ c (s.1 + 1) ∧ c (s.1 + 1) ≤ 90)
  · rw [if_pos a] at e; cases e
  · rw [if_neg a] at e; cases e
    exact hc.lt rfl h
theorem PB9.rnb {c : Nat → Int} {m : Nat} (hc : CM9 c m) : PB9 m (RNB M c) := fun s t e hs => by
  unfold RNB at e
  by_cases a : 40 ≤ s.2.1
  · rw [if_pos a] at e; cases e
  · rw [if_neg a] at e; exact PB9.nub hc _ _ e hs
theorem PB9.rov {c : Nat → Int} {m : Nat} {S : PSt → Option PSt} (hc : CM9 c m) (h : PB9 m S) {s t : PSt} (h9 : c s.1 = 91) (e : ROV M c S s = some t) : t.1 ≤ m := by
  unfold ROV at e
  by_cases a : 40 ≤ s.2.1
  · rw [if_pos a] at e; cases e
  · rw [if_neg a] at e
    obtain ⟨u1, e1, e⟩ := OB9.y e
    obtain ⟨u2, e2, e⟩ := OB9.y e
    obtain ⟨u3, e3, e⟩ := OB9.y e
    obtain ⟨u4, e4, e⟩ := OB9.y e
    have l1 := h _ _ e1 (by show s.1 + 1 ≤ m; exact hc.lt h9 (by decide))
    have l2 := PB9.tak hc (by decide) _ _ e2 l1
    have l3 := h _ _ e3 l2
    have l4 := PB9.tak hc (by decide) _ _ e4 l3
    exact PB9.nub hc _ _ e (by show SKP c u4.1 ≤ m; exact SKP.m hc l4)
theorem PB9.rpt {c : Nat → Int} {m : Nat} (hc : CM9 c m) : ∀ k, PB9 m (RPT M c k)
  | 0 => fun s t e hs => by
    by_cases a : c (SKP c s.1) = 102
    · rw [RPT.l a] at e; exact PB9.rlt hc (by show c (SKP c s.1) ≠ -1; omega) e
    · by_cases b : 48 ≤ c (SKP c s.1) ∧ c (SKP c s.1) ≤ 57
      · rw [RPT.d b] at e; exact PB9.rnb hc _ _ e (by show SKP c s.1 ≤ m; exact SKP.m hc hs)
      · rw [RPT.z a b] at e; cases e
  | k + 1 => fun s t e hs => by
    by_cases a : c (SKP c s.1) = 102
    · rw [RPT.l a] at e; exact PB9.rlt hc (by show c (SKP c s.1) ≠ -1; omega) e
    · by_cases b : 48 ≤ c (SKP c s.1) ∧ c (SKP c s.1) ≤ 57
      · rw [RPT.d b] at e; exact PB9.rnb hc _ _ e (by show SKP c s.1 ≤ m; exact SKP.m hc hs)
      · by_cases p : c (SKP c s.1) = 40
        · rw [RPT.p p] at e
          obtain ⟨u, e1, e2⟩ := OB9.y e
          exact PB9.tak hc (by decide) _ _ e2 (PB9.rsu hc (PB9.rpt hc k) _ _ e1 (by show SKP c s.1 + 1 ≤ m; exact hc.lt p (by decide)))
        · by_cases q : c (SKP c s.1) = 91
          · rw [RPT.o q] at e
            exact PB9.rov hc (PB9.rsu hc (PB9.rpt hc k)) (by show c (SKP c s.1) = 91; exact q) e
          · by_cases r : c (SKP c s.1) = 45
            · rw [RPT.m r] at e
              obtain ⟨u, e1, e2⟩ := OB9.y e
              have g := PB9.rpt hc k (SKP c s.1 + 1, s.2) u e1 (by show SKP c s.1 + 1 ≤ m; exact hc.lt r (by decide))
              cases e2
              exact g
            · rw [RPT.n a b p q r] at e; cases e
theorem BCM.m9 {f : Nat → Int32} {m : Int} {j : Nat} (h : m ≤ (j : Int)) : CM9 (BCM f m) j := fun i hi => BCM.no (by omega)
theorem BCM.ge {f : Nat → Int32} {m : Int} {j : Nat} (h : (j : Int) < m) : BCM f m j ≠ -1 := by
  unfold BCM; rw [if_pos h]; omega
/-- all is read: signs, if nothing is left -/
theorem RDA.g1 {c : Nat → Int} {t : PSt} {q : Nat} (h : RSU M c (RPT M c 6) (0, 0, []) = some t ∨ (RSU M c (RPT M c 6) (0, 0, []) = none ∧ STK c t)) (hq : q = SKP c t.1) (e : c q = -1) : RDA M c = some t.2.2 := by
  subst hq
  rcases h with h | ⟨-, s⟩
  · exact RDA.y h rfl rfl e rfl
  · exfalso; unfold STK at s; omega
theorem RDA.g0 {c : Nat → Int} {t : PSt} {q : Nat} (h : RSU M c (RPT M c 6) (0, 0, []) = some t ∨ (RSU M c (RPT M c 6) (0, 0, []) = none ∧ STK c t)) (hq : q = SKP c t.1) (e : RSU M c (RPT M c 6) (0, 0, []) = some t → c q ≠ -1) : RDA M c = none := by
  subst hq
  rcases h with h | ⟨h, -⟩
  · exact RDA.n h rfl rfl (e h)
  · exact RDA.n0 h rfl
theorem WTL.cg {g g' : Nat → Int32} {n : Nat} (h : ∀ r, 3607 ≤ r → g r = g' r) : WTL g n = WTL g' n := by
  unfold WTL
  exact List.map_congr_left (fun k _ => by rw [h (3607 + 2 * k) (by omega), h (3608 + 2 * k) (by omega)])
/-- the draft laid where the signs stand: k cells of it -/
def SGF (W g : Nat → Int32) (n : Nat) (k : Int) : Prop := (∀ j : Nat, (j : Int) < k → W (198 + 401 * n + j) = g (3606 + j)) ∧ ∀ r : Nat, (r < 198 + 401 * n ∨ 198 + 401 * n + k.toNat ≤ r) → W r = g r
theorem SGF.z {W g : Nat → Int32} {n : Nat} {k : Int} (e : W = g) (h : k = 0) : SGF W g n k := by
  subst e; exact ⟨fun j hj => by omega, fun _ _ => rfl⟩
theorem SGF.s {I1 I2 : IT} {w n : Nat} {g : Nat → Int32} {j a x k k' : Int32} (h : SGF (I1 w) g n k.toInt) (u : I2 = u2 I1 w j.toNatClampNeg x) (r : I1 w a.toNatClampNeg = x) (hn : n < 8) (hj : j.toInt = 198 + 401 * n + k.toInt) (ha : a.toInt = 3606 + k.toInt) (h0 : 0 ≤ k.toInt) (hk4 : k.toInt < 401) (hk : k'.toInt = k.toInt + 1) : SGF (I2 w) g n k'.toInt := by
  have n0 := ncz h0
  have n1 := ncz (x := j) (by omega)
  have n2 := ncz (x := a) (by omega)
  have v : x = g a.toNatClampNeg := by rw [← r]; exact h.2 _ (by omega)
  refine ⟨fun i hi => ?_, fun i hi => ?_⟩
  · rw [u]
    by_cases q : i = k.toNatClampNeg
    · rw [show 198 + 401 * n + i = j.toNatClampNeg from by omega, u2_s, v, show a.toNatClampNeg = 3606 + i from by omega]
    · rw [u2_k (by omega)]; exact h.1 i (by omega)
  · rw [u, u2_k (by omega)]; exact h.2 i (by omega)
theorem SGF.w {W W1 g : Nat → Int32} {n : Nat} {s k : Int} (h : SGF W1 g n k) (hk : k = 401) (e : ∀ r, r ≠ 3 → W r = W1 r) (hs : (g 3606).toInt = s) (h0 : 0 ≤ s) (h2 : s ≤ 199) : WSL W n = WTL g s.toNat := by
  subst hk
  unfold WSL WTL
  have e0 := h.1 0 (by decide)
  rw [e _ (by omega), show 198 + 401 * n = 198 + 401 * n + 0 from rfl, e0, hs]
  exact List.map_congr_left (fun k hk => by
    have hk := List.mem_range.mp hk
    have a := h.1 (1 + 2 * k) (by omega)
    have b := h.1 (2 + 2 * k) (by omega)
    rw [e (199 + 401 * n + 2 * k) (by omega), e (200 + 401 * n + 2 * k) (by omega), show 199 + 401 * n + 2 * k = 198 + 401 * n + (1 + 2 * k) from by omega, show 200 + 401 * n + 2 * k = 198 + 401 * n + (2 + 2 * k) from by omega, a, b, show 3606 + (1 + 2 * k) = 3607 + 2 * k from by omega, show 3606 + (2 + 2 * k) = 3608 + 2 * k from by omega])
/-- signs told: what became of the world -/
def SIG9 (W9 W : Nat → Int32) (t x : Int) (Z : Option (List (Int × Int))) : Prop := (t = 1 ∧ Z = none ∧ ∀ r : Nat, r < 3606 → W9 r = W r) ∨ (t = 2 ∧ Z ≠ none ∧ (W 3).toInt = 8 ∧ ∀ r : Nat, r < 3606 → W9 r = W r) ∨ (t = 0 ∧ (W 3).toInt < 8 ∧ x = (W 3).toInt ∧ (W9 3).toInt = (W 3).toInt + 1 ∧ Z = some (WSL W9 (W 3).toInt.toNat) ∧ ∀ r : Nat, r ≠ 3 → (r < 198 + 401 * (W 3).toInt.toNat ∨ 599 + 401 * (W 3).toInt.toNat ≤ r) → r < 3606 → W9 r = W r)
theorem SIG9.fr {W9 W : Nat → Int32} {t x : Int} {Z : Option (List (Int × Int))} (h : SIG9 W9 W t x Z) : ∀ r : Nat, r ≠ 3 ∧ (r < 198 ∨ 3406 ≤ r) ∧ r < 3606 → W9 r = W r := fun r hr => by
  rcases h with h | h | h
  · exact h.2.2 r hr.2.2
  · exact h.2.2.2 r hr.2.2
  · exact h.2.2.2.2.2 r hr.1 (by have := h.2.1; omega) hr.2.2
end Lrp
theorem a_X12_isAt_x {d : Nat} {T N : Nat → Nat} {I : IT} {L : LT} {R : RT} {A : Nat → Prop} {r0 : Nat} {n1 n2 : Int32} (hI : IM R r0 I) (H_r0 : (h_MD T N R A) r0) (b0_n1 : 0 ≤ n1.toInt) (b1_n1 : n1.toInt ≤ 127) (b0_n2 : 0 ≤ n2.toInt) (b1_n2 : n2.toInt ≤ 127) (hp0 : ∀ a10, R r0 10 = some a10 → TBY (I a10)) : Ex (d + 1) 218 [.ref r0, .int n1, .int n2] (T, N, I, L, R) 0 0 (pI T N R (fun x9 I9 L9 => (0 ≤ x9.toInt) ∧ (x9.toInt ≤ 1) ∧ (x9.toInt = 0 ∨ (I r0 12).toInt < (I r0 13).toInt) ∧ (∀ a10, R r0 10 = some a10 → IFF x9.toInt (n1.toInt ≤ (BCM (I a10) (I r0 13).toInt) (I r0 12).toInt.toNat ∧ (BCM (I a10) (I r0 13).toInt) (I r0 12).toInt.toNat ≤ n2.toInt)) ∧ (I = I9 ∧ L = L9))) := by sorry
theorem a_X12_blanks_x {d : Nat} {T N : Nat → Nat} {I : IT} {L : LT} {R : RT} {A : Nat → Prop} {r0 : Nat} (hI : IM R r0 I) (H_r0 : (h_MD T N R A) r0) (hp0 : ∀ a10, R r0 10 = some a10 → TBY (I a10)) : Ex (d + 2) 219 [.ref r0] (T, N, I, L, R) 0 0 (pV T N R (fun I9 L9 => (∀ a1 a10, R r0 1 = some a1 → R r0 10 = some a10 → RDM I9 r0 a1 = (SKP (BCM (I a10) (I r0 13).toInt) (RDM I r0 a1).1, (RDM I r0 a1).2)) ∧ ((I9 r0 14).toInt = (I9 r0 12).toInt) ∧ (IM R r0 I9 ∧ CM A R r0 [12, 14] [] I L I9 L9))) := by sorry
theorem a_X12_has_x {d : Nat} {T N : Nat → Nat} {I : IT} {L : LT} {R : RT} {A : Nat → Prop} {r0 : Nat} {n1 : Int32} (hI : IM R r0 I) (H_r0 : (h_MD T N R A) r0) (b0_n1 : 0 ≤ n1.toInt) (b1_n1 : n1.toInt ≤ 127) (hp0 : ∀ a10, R r0 10 = some a10 → TBY (I a10)) : Ex (d + 3) 220 [.ref r0, .int n1] (T, N, I, L, R) 0 0 (pI T N R (fun x9 I9 L9 => (0 ≤ x9.toInt) ∧ (x9.toInt ≤ 1) ∧ (∀ a1 a10, R r0 1 = some a1 → R r0 10 = some a10 → HSR (BCM (I a10) (I r0 13).toInt) n1.toInt x9.toInt (RDM I r0 a1) (RDM I9 r0 a1)) ∧ (IM R r0 I9 ∧ CM A R r0 [12, 14] [] I L I9 L9))) := by sorry
theorem a_X12_counts_x {d : Nat} {T N : Nat → Nat} {I : IT} {L : LT} {R : RT} {A : Nat → Prop} {r0 : Nat} {n1 : Int32} (hI : IM R r0 I) (H_r0 : (h_MD T N R A) r0) (b0_n1 : 0 ≤ n1.toInt) (b1_n1 : n1.toInt ≤ 127) (hp0 : ∀ a10, R r0 10 = some a10 → TBY (I a10)) : Ex (d + 3) 221 [.ref r0, .int n1] (T, N, I, L, R) 0 0 (pI T N R (fun x9 I9 L9 => (0 ≤ x9.toInt) ∧ (x9.toInt ≤ 1) ∧ ((I9 r0 16).toInt = (I r0 16).toInt + x9.toInt) ∧ (∀ a1 a10, R r0 1 = some a1 → R r0 10 = some a10 → CTR (BCM (I a10) (I r0 13).toInt) n1.toInt x9.toInt (RDM I r0 a1) (RDM I9 r0 a1)) ∧ (IM R r0 I9 ∧ CM A R r0 [12, 14, 16] [] I L I9 L9))) := by sorry
theorem a_X12_number_x {d : Nat} {T N : Nat → Nat} {I : IT} {L : LT} {R : RT} {A : Nat → Prop} {r0 : Nat} {n1 : Int32} (hI : IM R r0 I) (H_r0 : (h_MD T N R A) r0) (b0_n1 : 0 ≤ n1.toInt) (b1_n1 : n1.toInt ≤ 999) (hp0 : ∀ a10, R r0 10 = some a10 → TBY (I a10)) : Ex (d + 3) 222 [.ref r0, .int n1] (T, N, I, L, R) 0 0 (pI T N R (fun x9 I9 L9 => (x9.toInt ≤ 999) ∧ (x9.toInt = -1 ∨ x9.toInt ≤ n1.toInt) ∧ (∀ a1 a10, R r0 1 = some a1 → R r0 10 = some a10 → NMR (BCM (I a10) (I r0 13).toInt) n1.toInt x9.toInt (RDM I r0 a1) (RDM I9 r0 a1)) ∧ (x9.toInt = -1 ∨ 0 ≤ x9.toInt) ∧ (IM R r0 I9 ∧ CM A R r0 [12, 14] [] I L I9 L9))) := by sorry
theorem a_X12_emits_x {d : Nat} {T N : Nat → Nat} {I : IT} {L : LT} {R : RT} {A : Nat → Prop} {r0 : Nat} {n1 n2 : Int32} (hI : IM R r0 I) (H_r0 : (h_MD T N R A) r0) (b0_n1 : 0 ≤ n1.toInt) (b1_n1 : n1.toInt ≤ 5) (b0_n2 : 0 ≤ n2.toInt) (b1_n2 : n2.toInt ≤ 999) (hp0 : 0 ≤ (I r0 19).toInt) (hp1 : (I r0 19).toInt ≤ 198) : Ex (d + 1) 224 [.ref r0, .int n1, .int n2] (T, N, I, L, R) 0 0 (pI T N R (fun x9 I9 L9 => (1 ≤ x9.toInt) ∧ (x9.toInt ≤ 1) ∧ (∀ a1, R r0 1 = some a1 → EMT (I a1) (I9 a1) (I r0 19).toNatClampNeg n1 n2) ∧ ((I9 r0 19).toInt = (I r0 19).toInt + 1) ∧ (∀ a1, R r0 1 = some a1 → RDM I9 r0 a1 = ((RDM I r0 a1).1, (RDM I r0 a1).2.1, (RDM I r0 a1).2.2 ++ [(n1.toInt, n2.toInt)])) ∧ (∀ a1, R r0 1 = some a1 → ∀ r : Nat, r < 3606 → I9 a1 r = I a1 r) ∧ (IM R r0 I9 ∧ CM A R r0 [19] [1] I L I9 L9))) := by sorry
theorem a_X12_deeper_x {d : Nat} {T N : Nat → Nat} {I : IT} {L : LT} {R : RT} {A : Nat → Prop} {r0 : Nat} (hI : IM R r0 I) (H_r0 : (h_MD T N R A) r0) : Ex (d + 1) 225 [.ref r0] (T, N, I, L, R) 0 0 (pI T N R (fun x9 I9 L9 => (0 ≤ x9.toInt) ∧ (x9.toInt ≤ 1) ∧ (x9.toInt = 0 ∨ (I9 r0 15).toInt = (I r0 15).toInt + 1 ∧ (I r0 15).toInt ≤ 5) ∧ (x9.toInt = 0 → (I r0 15).toInt = 6) ∧ (∀ a1, R r0 1 = some a1 → RDM I9 r0 a1 = RDM I r0 a1) ∧ (IM R r0 I9 ∧ CM A R r0 [15] [] I L I9 L9))) := by sorry

theorem a_X12_readSum_0_x {d : Nat} {T N : Nat → Nat} {I : IT} {L : LT} {R : RT} {A : Nat → Prop} {r0 : Nat} (hI : IM R r0 I) (H_r0 : (h_MD T N R A) r0) (hp0 : (I r0 15).toInt = 0) (hp1 : ∀ a1, R r0 1 = some a1 → PD (I a1) (I r0 19).toInt) (hp2 : ∀ a1, R r0 1 = some a1 → 0 ≤ (I r0 19).toInt ∧ 0 ≤ Hgt (I a1) 3606 (I r0 19).toNatClampNeg ∧ Hgt (I a1) 3606 (I r0 19).toNatClampNeg ≤ (I r0 16).toInt ∧ 2 * (I r0 19).toInt + 6 * (41 - (I r0 16).toInt) + 2 * (40 - (I r0 16).toInt) ≤ 326) (hp3 : ∀ a10, R r0 10 = some a10 → TBY (I a10)) : Ex (d + 30) 228 [.ref r0] (T, N, I, L, R) 0 0 (pI T N R (fun x9 I9 L9 => (0 ≤ x9.toInt) ∧ (x9.toInt ≤ 1) ∧ (∀ a1, R r0 1 = some a1 → x9.toInt = 1 → (I9 r0 15).toInt = 0 ∧ (I r0 16).toInt + 1 ≤ (I9 r0 16).toInt ∧ 0 ≤ (I9 r0 19).toInt ∧ 2 * (I9 r0 19).toInt ≤ 2 * (I r0 19).toInt + 6 * ((I9 r0 16).toInt - (I r0 16).toInt + 1) + 2 * ((I9 r0 16).toInt - (I r0 16).toInt) ∧ Hgt (I9 a1) 3606 (I9 r0 19).toNatClampNeg = Hgt (I a1) 3606 (I r0 19).toNatClampNeg + 1) ∧ (∀ a1, R r0 1 = some a1 → x9.toInt = 1 → PD (I9 a1) (I9 r0 19).toInt) ∧ (∀ a1 a10, R r0 1 = some a1 → R r0 10 = some a10 → RS3 (BCM (I a10) (I r0 13).toInt) x9.toInt (RSU 200 (BCM (I a10) (I r0 13).toInt) (RPT 200 (BCM (I a10) (I r0 13).toInt) 6) (RDM I r0 a1)) (RDM I9 r0 a1)) ∧ (x9.toInt = 1 → (I9 r0 16).toInt ≤ 40) ∧ (∀ a1, R r0 1 = some a1 → ∀ r : Nat, r < 3606 → I9 a1 r = I a1 r) ∧ (IM R r0 I9 ∧ CM A R r0 [12, 14, 15, 16, 19] [1] I L I9 L9))) := by sorry
/-! the reference: signs told, exactly -/
theorem a_X12_uses_x {d : Nat} {T N : Nat → Nat} {I : IT} {L : LT} {R : RT} {A : Nat → Prop} {r0 : Nat} (hI : IM R r0 I) (H_r0 : (h_MD T N R A) r0) : Ex (d + 1) 230 [.ref r0] (T, N, I, L, R) 0 0 (pV T N R (fun I9 L9 => ((I9 r0 13).toInt = (I r0 11).toInt) ∧ ((I9 r0 11).toInt = 0) ∧ ((I9 r0 0).toInt = 0) ∧ ((I9 r0 12).toInt = 0) ∧ (IM R r0 I9 ∧ CM A R r0 [0, 11, 12, 13] [] I L I9 L9))) := by sorry
set_option maxHeartbeats 8000000 in
theorem a_X12_signs_x9 {d : Nat} {T N : Nat → Nat} {I : IT} {L : LT} {R : RT} {A : Nat → Prop} {r0 : Nat} (hI : IM R r0 I) (H_r0 : (h_MD T N R A) r0) (hp0 : ∀ a10, R r0 10 = some a10 → TBY (I a10)) : Ex (d + 31) 231 [.ref r0] (T, N, I, L, R) 0 0 (pI T N R (fun x9 I9 L9 => (0 ≤ x9.toInt) ∧ (x9.toInt ≤ 8) ∧ (∀ a1, R r0 1 = some a1 → (I a1 4).toInt + (I a1 5).toInt ≤ 40 → (I9 a1 4).toInt + (I9 a1 5).toInt ≤ 40) ∧ ((I9 r0 11).toInt = 0) ∧ (∀ a1, R r0 1 = some a1 → (I9 a1 0).toInt = (I a1 0).toInt) ∧ (∀ a1, R r0 1 = some a1 → (I9 a1 1).toInt = (I a1 1).toInt) ∧ (∀ a1, R r0 1 = some a1 → (I9 a1 2).toInt = (I a1 2).toInt) ∧ (∀ a1 a10, R r0 1 = some a1 → R r0 10 = some a10 → SIG9 (I9 a1) (I a1) (I9 r0 0).toInt x9.toInt (RDA 200 (BCM (I a10) (I r0 11).toInt))) ∧ (IM R r0 I9 ∧ CM A R r0 [0, 11, 12, 13, 14, 15, 16, 17, 19] [1] I L I9 L9))) := by sorry

/-! the signs told: both sides hold the same -/
def SGR (R : RT) (st : Nat) (W : Nat → Int32) (I : IT) : Prop := (I st 3).toInt = (W 3).toInt ∧ ∀ j : Nat, j < 8 → (j : Int) < (I st 3).toInt → STL R I (SA R st j) = WSL W j ∧ 0 ≤ (I (SA R st j) 2).toInt ∧ (I (SA R st j) 2).toInt ≤ 160 ∧ HLV (WSL W j)
/-- the cells that hold a state's signs -/
def SGCL (R : RT) (st a : Nat) : Prop := ∃ j, j < 8 ∧ (a = SA R st j ∨ a = rA R (SA R st j) 0 ∨ a = rA R (SA R st j) 1)
def NS8 (T : Nat → Nat) (R : RT) (a : Nat) : Prop := T a ≠ 8 ∧ (T a = 20 → ∃ c k, R c k = some a ∧ T c ≠ 8)
def SGS (R : RT) (nw kp m w im tp : Nat) (I : IT) : Prop := TBY (I tp) ∧ SGR R nw (I w) I ∧ ((I m 3).toInt = 0 ∨ SGR R kp (I im) I)
section Sgn
variable {T N : Nat → Nat} {R : RT} {A B : Nat → Prop} {x nw kp rd al m w im o cb tp st : Nat} {I I1 I2 : IT} {L L1 L2 : LT} {Wf WA : List Nat} {S : Nat → Prop} {Wl : List (Nat × Nat)}
theorem NS8.no (hU : UPR T R) (gg : GG T R st) {a : Nat} (h : NS8 T R a) : ¬ SGCL R st a := by
  rintro ⟨j, hj, q⟩
  obtain ⟨o1, o2, ⟨o3, o4⟩, o5, o6⟩ := gg.2.2 j hj
  rcases q with q | q | q
  · exact h.1 (by rw [q]; exact o2)
  · obtain ⟨c, k, hc, hk⟩ := h.2 (by rw [q]; exact o4)
    rw [q] at hc
    have e := (hU (SA R st j) 0 c k _ (t20 o4) o3 hc).1
    exact hk (by rw [← e]; exact o2)
  · obtain ⟨c, k, hc, hk⟩ := h.2 (by rw [q]; exact o6)
    rw [q] at hc
    have e := (hU (SA R st j) 1 c k _ (t20 o6) o5 hc).1
    exact hk (by rw [← e]; exact o2)
theorem NS8.t {a : Nat} (h : T a ≠ 8) (h2 : T a ≠ 20) : NS8 T R a := ⟨h, fun q => absurd q h2⟩
theorem NS8.a {a c k : Nat} (h : T a ≠ 8) (hR : R c k = some a) (hc : T c ≠ 8) : NS8 T R a := ⟨h, fun _ => ⟨c, k, hR, hc⟩⟩
theorem KEEP.sg (gg : GG T R st) {a : Nat} (h : ¬ KEEP T R a) : ¬ SGCL R st a := by
  rintro ⟨j, hj, q | q | q⟩
  · exact h (by rw [q]; exact Or.inr (Or.inl (KEEP.sa gg hj)))
  · exact h (by rw [q]; exact KEEP.s0 gg hj)
  · exact h (by rw [q]; exact KEEP.s1 gg hj)
theorem NS8.ws (g : GS T R st) {a : Nat} (h : WSX R st a) : NS8 T R a := by
  obtain ⟨g1, ⟨g2, g3⟩, g4, g5, g6, g7, g8, g9⟩ := g
  rcases h with rfl | rfl | ⟨j, hj, rfl | rfl⟩
  · exact NS8.t (by omega) (by omega)
  · exact NS8.a (by omega) g2 (by omega)
  · have f := (g7 j hj).2
    exact NS8.t (by have := f.1; omega) (by have := f.1; omega)
  · have f := (g7 j hj).2
    exact NS8.a (by have := f.2.2; omega) f.2.1 (by have := f.1; omega)
theorem NS8.fa (g : GS T R st) {j : Nat} (hj : j < 16) : NS8 T R (FA R st j) ∧ NS8 T R (rA R (FA R st j) 1) := by
  obtain ⟨g1, g2, g4, g5, g6, g7, g8, g9⟩ := g
  have f := (g8 j hj).2
  exact ⟨NS8.t (by have := f.1; omega) (by have := f.1; omega), NS8.a (by have := f.2.2; omega) f.2.1 (by have := f.1; omega)⟩
theorem NS8.ta (g : GS T R st) {j : Nat} (hj : j < 8) : NS8 T R (TA R st j) := by
  obtain ⟨g1, g2, g4, g5, g6, g7, g8, g9⟩ := g
  have f := (g9 j hj).2
  exact NS8.t (by omega) (by omega)
/-- cells and world as they were -/
theorem SGR.fr {W W1 : Nat → Int32} (h : SGR R st W I) (e3 : (I1 st 3).toInt = (I st 3).toInt) (eo : ∀ a, SGCL R st a → I1 a = I a) (fw : ∀ r, (r = 3 ∨ 198 ≤ r ∧ r < 3406) → W1 r = W r) : SGR R st W1 I1 := by
  refine ⟨by rw [e3, fw 3 (Or.inl rfl)]; exact h.1, fun j hj hk => ?_⟩
  obtain ⟨h1, h2, h3, h4⟩ := h.2 j hj (by omega)
  have l : (WSL W j).length ≤ 160 := by rw [← h1, STL.len]; omega
  rw [STL.fr rfl rfl (by rw [eo _ ⟨j, hj, Or.inl rfl⟩]) (eo _ ⟨j, hj, Or.inr (Or.inl rfl)⟩) (eo _ ⟨j, hj, Or.inr (Or.inr rfl)⟩), WSL.eq l (fun r h1 h2 => fw r (Or.inr ⟨by omega, by omega⟩)), eo _ ⟨j, hj, Or.inl rfl⟩]
  exact ⟨h1, h2, h3, h4⟩
/-- behind a call of the class that leaves all signs -/
theorem SGS.c (E : LX T N R A B x nw kp rd al m w im o cb tp) (h : SGS R nw kp m w im tp I) (c : CB S T Wl I I1) (hS : ∀ a, S a → A a ∧ (NS8 T R a ∨ ¬ KEEP T R a)) (e9 : (9, 3) ∉ Wl) : SGS R nw kp m w im tp I1 := by
  obtain ⟨⟨g1, gg1⟩, g2, gg2⟩ := E.g
  obtain ⟨⟨t1, t2, t3, t4⟩, -, b1, b2, b3⟩ := E.1.t
  have nAB := E.1.2.2.2.1
  have hU := E.2.1
  have eB : ∀ a, B a → I1 a = I a := fun a ha => c.1 a (fun q => nAB a (hS a q).1 ha)
  have eo : ∀ st, GG T R st → ∀ a, SGCL R st a → I1 a = I a := fun st gg a ha => c.1 a (fun q => (hS a q).2.elim (fun z => z.no hU gg ha) (fun z => KEEP.sg gg z ha))
  obtain ⟨h1, h2, h3⟩ := h
  refine ⟨by rw [eB tp E.tb]; exact h1, ?_, ?_⟩
  · rw [eB w b2]
    exact h2.fr (by rw [c.2 nw 3 (by omega) (by rw [t2]; exact e9)]) (eo nw gg1) (fun _ _ => rfl)
  · rw [eB m b1, eB im b3]
    exact h3.imp id (fun q => q.fr (by rw [c.2 kp 3 (by omega) (by rw [t3]; exact e9)]) (eo kp gg2) (fun _ _ => rfl))
/-- behind a call of the reference that leaves all signs -/
theorem SGS.r (E : LX T N R A B x nw kp rd al m w im o cb tp) (h : SGS R nw kp m w im tp I) (cm : CM B R m Wf WA I L I1 L1) (h3 : 3 ∉ Wf) (h2 : 2 ∉ WA) (ht : TBY (I1 tp)) (fw : ∀ r, (r = 3 ∨ 198 ≤ r ∧ r < 3406) → I1 w r = I w r) : SGS R nw kp m w im tp I1 := by
  obtain ⟨⟨g1, gg1⟩, g2, gg2⟩ := E.g
  obtain ⟨⟨t1, t2, t3, t4⟩, ⟨a1, a2, a3, a4⟩, b1, b2, b3⟩ := E.1.t
  have nAB := E.1.2.2.2.1
  have w2 := E.1.2.2.2.2.2.2.2.2.2.2.2
  have eA : ∀ a, A a → I1 a = I a := fun a ha => (cm.1 a (nAB a ha)).1
  have eo : ∀ st, h_St T N R A st → ∀ a, SGCL R st a → I1 a = I a := fun st hs a ⟨j, hj, q⟩ => by
    have z := (ST.a9 hs).2.2.2.2.2 j hj
    rcases q with q | q | q
    · rw [q]; exact eA _ z.1
    · rw [q]; exact eA _ z.2.1
    · rw [q]; exact eA _ z.2.2
  obtain ⟨h1, h2', h3'⟩ := h
  refine ⟨ht, ?_, ?_⟩
  · exact h2'.fr (by rw [eA nw a2]) (eo nw E.s.1) fw
  · rw [cm.2.1 3 h3, (cm.2.2 2 im w2 h2).1]
    exact h3'.imp id (fun q => q.fr (by rw [eA kp a3]) (eo kp E.s.2) (fun _ _ => rfl))
theorem SGS.r0 (E : LX T N R A B x nw kp rd al m w im o cb tp) (h : SGS R nw kp m w im tp I) (cm : CM B R m Wf WA I L I1 L1) (h3 : 3 ∉ Wf) (h1 : 1 ∉ WA) (h2 : 2 ∉ WA) (h10 : 10 ∉ WA) : SGS R nw kp m w im tp I1 := by
  have w1 := E.1.2.2.2.2.2.2.2.2.2.2.1
  exact h.r E cm h3 h2 (by rw [(cm.2.2 10 tp E.2.2.2 h10).1]; exact h.1) (fun r _ => by rw [(cm.2.2 1 w w1 h1).1])
theorem SGS.rw (E : LX T N R A B x nw kp rd al m w im o cb tp) (h : SGS R nw kp m w im tp I) (cm : CM B R m Wf WA I L I1 L1) (h3 : 3 ∉ Wf) (h2 : 2 ∉ WA) (h10 : 10 ∉ WA) (fw : ∀ r, (r = 3 ∨ 198 ≤ r ∧ r < 3406) → I1 w r = I w r) : SGS R nw kp m w im tp I1 := h.r E cm h3 h2 (by rw [(cm.2.2 10 tp E.2.2.2 h10).1]; exact h.1) fw
end Sgn
def RY9 (R : RT) (x nw kp rd cb m w im tp : Nat) (I : IT) : Prop := RY R x nw kp rd cb m w im tp I ∧ SGS R nw kp m w im tp I
section Ops9
variable {T N : Nat → Nat} {R : RT} {A B : Nat → Prop} {x nw kp rd al m w im o cb tp : Nat} {I I1 I2 : IT} {L L1 L2 : LT} {Wf WA : List Nat} {S : Nat → Prop} {Wl : List (Nat × Nat)}
theorem SGS.e (h : SGS R nw kp m w im tp I) (eo : ∀ st, (st = nw ∨ st = kp) → I1 st 3 = I st 3 ∧ ∀ a, SGCL R st a → I1 a = I a) (e3 : (I1 m 3).toInt = (I m 3).toInt) (ew : I1 w = I w) (ei : I1 im = I im) (et : I1 tp = I tp) : SGS R nw kp m w im tp I1 := by
  obtain ⟨h1, h2, h3⟩ := h
  refine ⟨by rw [et]; exact h1, ?_, ?_⟩
  · rw [ew]; exact h2.fr (by rw [(eo nw (Or.inl rfl)).1]) (eo nw (Or.inl rfl)).2 (fun _ _ => rfl)
  · rw [e3, ei]; exact h3.imp id (fun q => q.fr (by rw [(eo kp (Or.inr rfl)).1]) (eo kp (Or.inr rfl)).2 (fun _ _ => rfl))
theorem SGCL.ty (gg : GG T R nw) {a : Nat} (h : SGCL R nw a) : T a = 8 ∨ T a = 20 := by
  obtain ⟨j, hj, q⟩ := h
  obtain ⟨o1, o2, ⟨o3, o4⟩, o5, o6⟩ := gg.2.2 j hj
  rcases q with q | q | q
  · left; rw [q]; exact o2
  · right; rw [q]; exact o4
  · right; rw [q]; exact o6
theorem SGCL.a (hs : h_St T N R A nw) {a : Nat} (h : SGCL R nw a) : A a := by
  obtain ⟨j, hj, q⟩ := h
  have z := (ST.a9 hs).2.2.2.2.2 j hj
  rcases q with q | q | q
  · rw [q]; exact z.1
  · rw [q]; exact z.2.1
  · rw [q]; exact z.2.2
theorem RY9.q (E : LX T N R A B x nw kp rd al m w im o cb tp) (hl : LI T R A m I) (h : RY9 R x nw kp rd cb m w im tp I) (c : CB (BS T R A) T Wl I I1) (h5 : (5, 1) ∉ Wl) (h12 : (12, 3) ∉ Wl) (h9 : ∀ k, k < 6 → (9, k) ∉ Wl) (h10 : ∀ k, k < 4 → (10, k) ∉ Wl) : RY9 R x nw kp rd cb m w im tp I1 := ⟨RY.q E hl h.1 c h5 h12 h9 h10, h.2.c E c (fun a q => ⟨q.1, Or.inr q.2⟩) (h9 3 (by decide))⟩
theorem RY9.r0 (E : LX T N R A B x nw kp rd al m w im o cb tp) (hl : LI T R A m I) (h : RY9 R x nw kp rd cb m w im tp I) (c : CM B R m Wf WA I L I1 L1) (h11 : 11 ∉ Wf) (h3 : 3 ∉ Wf) (h1 : 1 ∉ WA) (h2 : 2 ∉ WA) (h10 : 10 ∉ WA) : RY9 R x nw kp rd cb m w im tp I1 := ⟨RY.r0 E hl h.1 c h11 h3 h1 h2 h10, h.2.r0 E c h3 h1 h2 h10⟩
theorem RY9.cf {A9 : Nat → Prop} (E : LX T N R A B x nw kp rd al m w im o cb tp) (hl : LI T R A m I) (h : RY9 R x nw kp rd cb m w im tp I) (hA : ∀ a, A9 a → A a ∧ (T a = 11 ∨ T a = 21)) (f : Fr A9 I L I1 L1) : RY9 R x nw kp rd cb m w im tp I1 := by
  refine ⟨RY.cf E hl h.1 hA f, ?_⟩
  obtain ⟨⟨g1, gg1⟩, g2, gg2⟩ := E.g
  obtain ⟨⟨t1, t2, t3, t4⟩, -, b1, b2, b3⟩ := E.1.t
  have e : ∀ a, (B a ∨ T a ≠ 11 ∧ T a ≠ 21) → I1 a = I a := fun a ha => (f a (fun q => by
    have := hA a q
    rcases ha with z | z
    · exact E.1.2.2.2.1 a this.1 z
    · omega)).1
  refine h.2.e (fun st hst => ?_) (by rw [e m (Or.inl b1)]) (e w (Or.inl b2)) (e im (Or.inl b3)) (e tp (Or.inl E.tb))
  rcases hst with rfl | rfl
  · exact ⟨by rw [e _ (Or.inr (by omega))], fun a ha => e a (Or.inr (by have := ha.ty gg1; omega))⟩
  · exact ⟨by rw [e _ (Or.inr (by omega))], fun a ha => e a (Or.inr (by have := ha.ty gg2; omega))⟩
theorem RY9.rf (E : LX T N R A B x nw kp rd al m w im o cb tp) (hl : LI T R A m I) (h : RY9 R x nw kp rd cb m w im tp I) (f : Fr (fun a => a = m ∨ R m 21 = some a ∨ R m 34 = some a) I L I1 L1) (k : IKm m I I1) : RY9 R x nw kp rd cb m w im tp I1 := by
  refine ⟨RY.rf E hl h.1 f k, ?_⟩
  obtain ⟨-, ⟨a1, a2, a3, a4⟩, b1, b2, b3⟩ := E.1.t
  have G := MD.G E.1.2.1
  have w1 := E.1.2.2.2.2.2.2.2.2.2.2.1
  have w2 := E.1.2.2.2.2.2.2.2.2.2.2.2
  have eA : ∀ a, A a → I1 a = I a := fun a ha => (f a (fun q => by
    rcases q with q | q | q
    · subst q; exact E.1.2.2.2.1 _ ha b1
    · exact E.1.2.2.2.1 a ha (MD.B E.1.2.1 (by decide) q)
    · exact E.1.2.2.2.1 a ha (MD.B E.1.2.1 (by decide) q))).1
  have e : ∀ g a, R m g = some a → g ≠ 21 → g ≠ 34 → I1 a = I a := fun g a ha h1 h2 => (f a (fun q => by
    rcases q with q | q | q
    · exact G.ne ha q
    · exact h1 (G.1 _ _ _ ha q)
    · exact h2 (G.1 _ _ _ ha q))).1
  refine h.2.e (fun st hst => ?_) (by rw [k 3 (by decide) (by decide)]) (e 1 w w1 (by decide) (by decide)) (e 2 im w2 (by decide) (by decide)) (e 10 tp E.2.2.2 (by decide) (by decide))
  rcases hst with rfl | rfl
  · exact ⟨by rw [eA _ a2], fun a ha => eA a (ha.a E.s.1)⟩
  · exact ⟨by rw [eA _ a3], fun a ha => eA a (ha.a E.s.2)⟩
theorem SGS.cr (E : LX T N R A B x nw kp rd al m w im o cb tp) (h : SGS R nw kp m w im tp I) (c : CB S T Wl I I1) (hS : ∀ a, S a → A a ∧ (NS8 T R a ∨ ¬ KEEP T R a)) (e9 : (9, 3) ∉ Wl) (cm : CM B R m Wf WA I1 L1 I2 L2) (h3 : 3 ∉ Wf) (h2 : 2 ∉ WA) (h10 : 10 ∉ WA) (fw : ∀ r, (r = 3 ∨ 198 ≤ r ∧ r < 3406) → I2 w r = I1 w r) : SGS R nw kp m w im tp I2 := (h.c E c hS e9).rw E cm h3 h2 h10 fw
theorem SL.s1 {a b : Nat} (h : SL [b] a) : a = b := List.mem_singleton.mp (SL.a h)
theorem SL.s2 {a b c : Nat} (h : SL [b, c] a) : a = b ∨ a = c := by
  have q := SL.a h
  simpa only [List.mem_cons, List.not_mem_nil, or_false] using q
theorem hS.rr (E : LX T N R A B x nw kp rd al m w im o cb tp) : ∀ a, SL [rd] a → A a ∧ (NS8 T R a ∨ ¬ KEEP T R a) := fun a q => by
  obtain ⟨⟨t1, t2, t3, t4⟩, ⟨a1, a2, a3, a4⟩, -⟩ := E.1.t
  rw [SL.s1 q]; exact ⟨a4, Or.inl (NS8.t (by omega) (by omega))⟩
theorem hS.nn (E : LX T N R A B x nw kp rd al m w im o cb tp) : ∀ a, SL [nw] a → A a ∧ (NS8 T R a ∨ ¬ KEEP T R a) := fun a q => by
  obtain ⟨⟨t1, t2, t3, t4⟩, ⟨a1, a2, a3, a4⟩, -⟩ := E.1.t
  rw [SL.s1 q]; exact ⟨a2, Or.inl (NS8.t (by omega) (by omega))⟩
theorem hS.fd (E : LX T N R A B x nw kp rd al m w im o cb tp) : ∀ a, SL [rd, cb] a → A a ∧ (NS8 T R a ∨ ¬ KEEP T R a) := fun a q => by
  obtain ⟨⟨t1, t2, t3, t4⟩, ⟨a1, a2, a3, a4⟩, -⟩ := E.1.t
  rcases SL.s2 q with e | e
  · rw [e]; exact ⟨a4, Or.inl (NS8.t (by omega) (by omega))⟩
  · rw [e]; exact ⟨E.c.2, Or.inl (NS8.a (by have := E.c.1; omega) E.2.2.1 (by omega))⟩
theorem hS.fm (E : LX T N R A B x nw kp rd al m w im o cb tp) {n : Nat} (hn : n < 16) : ∀ a, sFm R rd nw n a → A a ∧ (NS8 T R a ∨ ¬ KEEP T R a) := fun a q => by
  obtain ⟨⟨t1, t2, t3, t4⟩, -⟩ := E.1.t
  obtain ⟨⟨g1, gg1⟩, -⟩ := E.g
  refine ⟨sFm.a9 E hn q, Or.inl ?_⟩
  rcases q with e | e | e | e
  · rw [e]; exact NS8.t (by omega) (by omega)
  · rw [e]; exact NS8.t (by omega) (by omega)
  · rw [e]; exact (NS8.fa g1 hn).1
  · rw [e]; exact (NS8.fa g1 hn).2
theorem hS.tb (E : LX T N R A B x nw kp rd al m w im o cb tp) {n : Nat} (hn : n < 8) : ∀ a, sTb R nw n a → A a ∧ (NS8 T R a ∨ ¬ KEEP T R a) := fun a q => by
  obtain ⟨⟨t1, t2, t3, t4⟩, -⟩ := E.1.t
  obtain ⟨⟨g1, gg1⟩, -⟩ := E.g
  refine ⟨sTb.a9 E hn q, Or.inl ?_⟩
  rcases q with e | e
  · rw [e]; exact NS8.t (by omega) (by omega)
  · rw [e]; exact NS8.ta g1 hn
theorem hS.mx (E : LX T N R A B x nw kp rd al m w im o cb tp) {n : Nat} (hn : n < 16) : ∀ a, sMx T R A nw n a → A a ∧ (NS8 T R a ∨ ¬ KEEP T R a) := fun a q => by
  obtain ⟨⟨g1, gg1⟩, -⟩ := E.g
  refine ⟨sMx.a9 E hn q, ?_⟩
  rcases q with e | e | e | e
  · exact Or.inr e.1.2
  · exact Or.inl (NS8.ws g1 e)
  · rw [e]; exact Or.inl (NS8.fa g1 hn).1
  · rw [e]; exact Or.inl (NS8.fa g1 hn).2
theorem hS.ud (E : LX T N R A B x nw kp rd al m w im o cb tp) : ∀ a, UDX R nw a → A a ∧ (NS8 T R a ∨ ¬ KEEP T R a) := fun a q => by
  obtain ⟨⟨g1, gg1⟩, -⟩ := E.g
  refine ⟨OWN.a9 E.s.1 (OWN.ud q), Or.inl ?_⟩
  rcases q with e | ⟨j, hj, e⟩
  · exact NS8.ws g1 e
  · rw [e]; exact (NS8.fa g1 hj).2
/-- nothing changed but what is no state's -/
theorem SGS.sm (E : LX T N R A B x nw kp rd al m w im o cb tp) (h : SGS R nw kp m w im tp I) (e : ∀ a, a ≠ rd → I1 a = I a) : SGS R nw kp m w im tp I1 := by
  obtain ⟨⟨g1, gg1⟩, g2, gg2⟩ := E.g
  obtain ⟨⟨t1, t2, t3, t4⟩, ⟨a1, a2, a3, a4⟩, b1, b2, b3⟩ := E.1.t
  have nAB := E.1.2.2.2.1
  have eB : ∀ a, B a → I1 a = I a := fun a ha => e a (fun q => nAB _ a4 (q ▸ ha))
  refine h.e (fun st hst => ?_) (by rw [eB m b1]) (eB w b2) (eB im b3) (eB tp E.tb)
  rcases hst with rfl | rfl
  · exact ⟨by rw [e _ (fun q => by rw [q] at t2; omega)], fun a ha => e a (fun q => by have := ha.ty gg1; rw [q] at this; omega)⟩
  · exact ⟨by rw [e _ (fun q => by rw [q] at t3; omega)], fun a ha => e a (fun q => by have := ha.ty gg2; rw [q] at this; omega)⟩
theorem RY9.b (E : LX T N R A B x nw kp rd al m w im o cb tp) (hl : LI T R A m I) (h : RY9 R x nw kp rd cb m w im tp I) : (0 ≤ (I nw 1).toInt ∧ (I nw 1).toInt ≤ 16) ∧ (0 ≤ (I nw 2).toInt ∧ (I nw 2).toInt ≤ 8) ∧ (0 ≤ (I nw 4).toInt ∧ 0 ≤ (I nw 5).toInt ∧ (I nw 4).toInt + (I nw 5).toInt ≤ 40) ∧ (0 ≤ (I rd 1).toInt ∧ (I rd 1).toInt ≤ 400) ∧ (0 ≤ (I nw 3).toInt ∧ (I nw 3).toInt ≤ 8) ∧ PRM (I nw 0).toInt := RY.b E hl h.1
theorem RY9.bk (E : LX T N R A B x nw kp rd al m w im o cb tp) (hl : LI T R A m I) (h : RY9 R x nw kp rd cb m w im tp I) : (I x 3).toInt ≠ 0 → (I kp 1).toInt ≤ 16 ∧ (I kp 2).toInt ≤ 8 := RY.bk E hl h.1
theorem RY9.bf (E : LX T N R A B x nw kp rd al m w im o cb tp) (h : RY9 R x nw kp rd cb m w im tp I) : ∀ j : Nat, (j : Int) < (I nw 1).toInt → BNX I (rA R (FA R nw j) 1) (I (FA R nw j) 0).toInt (I nw 0).toInt := RY.bf E h.1
theorem RY9.bt (E : LX T N R A B x nw kp rd al m w im o cb tp) (h : RY9 R x nw kp rd cb m w im tp I) : ∀ j : Nat, (j : Int) < (I nw 2).toInt → ∀ k : Nat, k < 4 → 0 ≤ (I (TA R nw j) k).toInt ∧ (I (TA R nw j) k).toInt < (I nw 0).toInt := RY.bt E h.1
theorem RY9.ba (E : LX T N R A B x nw kp rd al m w im o cb tp) (hl : LI T R A m I) (h : RY9 R x nw kp rd cb m w im tp I) : ∀ k : Nat, (k : Int) < (I nw 4).toInt + (I nw 5).toInt → 0 ≤ (I (WH R nw) k).toInt ∧ (I (WH R nw) k).toInt < (I nw 1).toInt ∧ (I (OA R nw k) 0).toInt = (I (FA R nw (I (WH R nw) k).toNatClampNeg) 0).toInt := RY.ba E hl h.1
theorem fw.fm {W' W tp : Nat → Int32} {n t : Int} (h : FMX W' W tp n t) (hb : t ≠ 0 ∨ (W 1).toInt < 16 ∧ n ≤ 9) : ∀ r, (r = 3 ∨ 198 ≤ r ∧ r < 3406) → W' r = W r := fun r hr => by
  by_cases z : t = 0
  · exact (h.2 z).2.2.2.2 r (by omega) (by omega) (by omega)
  · rw [h.1 z]
theorem fw.tw {W' W : Nat → Int32} {a b c d : Int} (h : TBW W' W a b c d) (h2 : (W 2).toInt < 8) : ∀ r, (r = 3 ∨ 198 ≤ r ∧ r < 3406) → W' r = W r := fun r hr => h.2 r (by omega) (by omega)
theorem fw.tx {W' W : Nat → Int32} {t a b c d : Int} (h : TBX W' W t a b c d) (h2 : t = 0 → (W 2).toInt < 8) : ∀ r, (r = 3 ∨ 198 ≤ r ∧ r < 3406) → W' r = W r := fun r hr => by
  by_cases z : t = 0
  · exact fw.tw (h.2 z) (h2 z) r hr
  · rw [h.1 z]
theorem fw.tt {W' W : Nat → Int32} {t : Int} {f : Nat} (h : TBt W' W t f) (h2 : t = 0 → (W 2).toInt < 8) : ∀ r, (r = 3 ∨ 198 ≤ r ∧ r < 3406) → W' r = W r := fun r hr => by
  by_cases z : t = 0
  · obtain ⟨a, b, c, d, -, q⟩ := h.2 z
    exact fw.tw q (h2 z) r hr
  · rw [h.1 z]
theorem fw.md {W' W : Nat → Int32} {f : Nat} {a b c d p : Int} (h : MFD W' W f a b c d p) (hf : f < 16) (hd : (W (6 + 10 * f)).toInt ≤ 8) : ∀ r, (r = 3 ∨ 198 ≤ r ∧ r < 3406) → W' r = W r := fun r hr => h.2 r (by omega)
theorem fw.mx {W' W : Nat → Int32} {f t : Int32} (h : MXT W' W f t) (hW : WOS W) (hf : f.toNatClampNeg < 16) : ∀ r, (r = 3 ∨ 198 ≤ r ∧ r < 3406) → W' r = W r := fun r hr => by
  obtain ⟨W1, ⟨x1, -⟩, x2⟩ := h
  have d := (hW.1.2.2.1 _ hf).2.1
  rw [fw.md x2 hf (by rw [x1 _ (by omega) (by omega) (by omega)]; exact d) r hr, x1 r (by omega) (by omega) (by omega)]
theorem fw.ag {W' W1 W : Nat → Int32} {a : Nat} {b x : Int} (h : AGX W' W1 a b x) (e : ∀ r : Nat, r ≠ 4 → r ≠ 5 → W1 r = W r) (hW : WOS W) (ha : a < 40) : ∀ r, (r = 3 ∨ 198 ≤ r ∧ r < 3406) → W' r = W r := fun r hr => by
  obtain ⟨ta, tb, tc, td, -, -, m, -⟩ := h
  have q := hW.1.2.2.2.2.2.2 a ha
  have nf := ncz (x := W (3406 + 5 * a)) q.1
  rw [e (3406 + 5 * a) (by omega) (by omega)] at m
  have d := (hW.1.2.2.1 (W (3406 + 5 * a)).toNatClampNeg (by omega)).2.1
  rw [fw.md m (by omega) (by rw [e _ (by omega) (by omega)]; exact d) r hr, e r (by omega) (by omega)]
theorem fw.un {W' W : Nat → Int32} {x : Int} (h : UNX W' W x) (hW : WOS W) : ∀ r, (r = 3 ∨ 198 ≤ r ∧ r < 3406) → W' r = W r := fun r hr => by
  have b := hW.b
  by_cases z : (W 4).toInt = 0
  · rw [(h.1 z).2]
  · obtain ⟨W1, -, -, e, g⟩ := h.2 (by omega)
    exact fw.ag g e hW (by omega) r hr
theorem fw.re {W' W : Nat → Int32} {x : Int} (h : RDX W' W x) (hW : WOS W) : ∀ r, (r = 3 ∨ 198 ≤ r ∧ r < 3406) → W' r = W r := fun r hr => by
  have b := hW.b
  by_cases z : (W 5).toInt = 0
  · rw [(h.1 z).2]
  · obtain ⟨W1, -, -, e, g⟩ := h.2 (by omega)
    exact fw.ag g e hW (by omega) r hr
theorem OP9_end {n u v : Int32} (E : LX T N R A B x nw kp rd al m w im o cb tp) (hl : LI T R A m I) (hl1 : LI T R A m I1) (u0_ : LI T R A m I2) (h : RY9 R x nw kp rd cb m w im tp I) (c : CB (SL [rd]) T [(5, 1)] I I1) (u1_ : 0 ≤ u.toInt) (u2_ : u.toInt ≤ 1) (q2 : (n.toInt < 0 ∨ (I rd 1).toInt < n.toInt) ∧ u.toInt = 0 ∧ (I1 rd 1).toInt = (I rd 1).toInt ∨ 0 ≤ n.toInt ∧ n.toInt ≤ (I rd 1).toInt ∧ u.toInt = 1 ∧ (I1 rd 1).toInt = n.toInt) (cm : CM B R m [0, 11] [] I1 L1 I2 L2) (u3_ : 0 ≤ v.toInt) (u4_ : v.toInt ≤ 1) (p2 : (n.toInt < 0 ∨ (I1 m 11).toInt < n.toInt) ∧ v.toInt = 0 ∧ (I2 m 11).toInt = (I1 m 11).toInt ∨ 0 ≤ n.toInt ∧ n.toInt ≤ (I1 m 11).toInt ∧ v.toInt = 1 ∧ (I2 m 11).toInt = n.toInt) : RY9 R x nw kp rd cb m w im tp I2 := ⟨OP_end E hl hl1 u0_ h.1 c u1_ u2_ q2 cm u3_ u4_ p2, (h.2.c E c (hS.rr E) (by decide)).r0 E cm (by decide) (by decide) (by decide) (by decide)⟩
theorem OP9_feed {n1 n2 n3 n4 n5 u v : Int32} (E : LX T N R A B x nw kp rd al m w im o cb tp) (hl : LI T R A m I) (u0_ : LI T R A m I1) (hl2 : LI T R A m I2) (h : RY9 R x nw kp rd cb m w im tp I) (c : CB (SL [rd, cb]) T [(5, 1)] I I1) (q0 : 380 < (I rd 1).toInt ∧ u.toInt = -1 ∧ (I1 rd 1).toInt = (I rd 1).toInt ∧ I1 cb = I cb ∨ (I rd 1).toInt ≤ 380 ∧ u.toInt = (I rd 1).toInt + 20 ∧ (I1 rd 1).toInt = (I rd 1).toInt + 20 ∧ FDC (I1 cb) (I cb) (I rd 1).toNatClampNeg (F5 n1 n2 n3 n4 n5) 5) (cm : CM B R m [0, 11] [10, 18] I1 L1 I2 L2) (u1_ : -1 ≤ v.toInt) (u2_ : v.toInt ≤ 400) (p2 : 380 < (I1 m 11).toInt ∧ v.toInt = -1 ∧ (I2 m 11).toInt = (I1 m 11).toInt ∨ (I1 m 11).toInt ≤ 380 ∧ v.toInt = (I1 m 11).toInt + 20 ∧ (I2 m 11).toInt = (I1 m 11).toInt + 20) (p3 : ∀ a10, R m 10 = some a10 → TFX (I2 a10) (I1 a10) (I1 m 11) (F5 n1 n2 n3 n4 n5)) (tb9 : ∀ a10, R m 10 = some a10 → TBY (I1 a10) → TBY (I2 a10)) : RY9 R x nw kp rd cb m w im tp I2 := by
  have w1 := E.1.2.2.2.2.2.2.2.2.2.2.1
  exact ⟨OP_feed E hl u0_ hl2 h.1 c q0 cm u1_ u2_ p2 p3, ((h.2.c E c (hS.fd E) (by decide)).r E cm (by decide) (by decide) (tb9 tp E.2.2.2 (h.2.c E c (hS.fd E) (by decide)).1) (fun r _ => by rw [(cm.2.2 1 w w1 (by decide)).1]))⟩
theorem OP9_field {n : Int32} {P0 : Prop} (E : LX T N R A B x nw kp rd al m w im o cb tp) (hl : LI T R A m I) (u0_ : LI T R A m I1) (hl2 : LI T R A m I2) (h : RY9 R x nw kp rd cb m w im tp I) (c : CB (SL [nw]) T [(9, 0)] I I1) (q0 : (n.toInt = 11 ∨ n.toInt = 13 ∨ n.toInt = 17 ∨ n.toInt = 19) ∧ (I nw 1).toInt ≤ 0 ∧ (I nw 2).toInt ≤ 0) (q1 : (I1 nw 0).toInt = n.toInt) (cm : CM B R m [0] [1] I1 L1 I2 L2) (u1_ : P0) (p1 : ∀ a1, R m 1 = some a1 → ¬ (n.toInt = 11 ∨ n.toInt = 13 ∨ n.toInt = 17 ∨ n.toInt = 19) ∧ (I2 m 0).toInt = 1 ∧ (I2 a1 0).toInt = (I1 a1 0).toInt ∨ (n.toInt = 11 ∨ n.toInt = 13 ∨ n.toInt = 17 ∨ n.toInt = 19) ∧ 0 < (I1 a1 1).toInt + (I1 a1 2).toInt ∧ (I2 m 0).toInt = 2 ∧ (I2 a1 0).toInt = (I1 a1 0).toInt ∨ (n.toInt = 11 ∨ n.toInt = 13 ∨ n.toInt = 17 ∨ n.toInt = 19) ∧ (I1 a1 1).toInt + (I1 a1 2).toInt ≤ 0 ∧ (I2 m 0).toInt = 0 ∧ (I2 a1 0).toInt = n.toInt) (p2 : ∀ a1, R m 1 = some a1 → ∀ r : Nat, r ≠ 0 → I2 a1 r = I1 a1 r) : RY9 R x nw kp rd cb m w im tp I2 := by
  have w1 := E.1.2.2.2.2.2.2.2.2.2.2.1
  have hW := (LI.wos E u0_).1
  exact ⟨OP_field E hl u0_ hl2 h.1 c q0 q1 cm u1_ p1 p2, (h.2.c E c (hS.nn E) (by decide)).rw E cm (by decide) (by decide) (by decide) (fun r hr => p2 w w1 r (by omega))⟩
theorem OP9_field_0 {n : Int32} {P0 : Prop} (E : LX T N R A B x nw kp rd al m w im o cb tp) (hl : LI T R A m I) (hl1 : LI T R A m I1) (hl2 : LI T R A m I2) (h : RY9 R x nw kp rd cb m w im tp I) (u0_ : CB (SL [nw]) T [(9, 0)] I I1) (q0 : ¬ (n.toInt = 11 ∨ n.toInt = 13 ∨ n.toInt = 17 ∨ n.toInt = 19)) (q1 : ∀ a k, I1 a k = I a k) (cm : CM B R m [0] [1] I1 L1 I2 L2) (u1_ : P0) (p1 : ∀ a1, R m 1 = some a1 → ¬ (n.toInt = 11 ∨ n.toInt = 13 ∨ n.toInt = 17 ∨ n.toInt = 19) ∧ (I2 m 0).toInt = 1 ∧ (I2 a1 0).toInt = (I1 a1 0).toInt ∨ (n.toInt = 11 ∨ n.toInt = 13 ∨ n.toInt = 17 ∨ n.toInt = 19) ∧ 0 < (I1 a1 1).toInt + (I1 a1 2).toInt ∧ (I2 m 0).toInt = 2 ∧ (I2 a1 0).toInt = (I1 a1 0).toInt ∨ (n.toInt = 11 ∨ n.toInt = 13 ∨ n.toInt = 17 ∨ n.toInt = 19) ∧ (I1 a1 1).toInt + (I1 a1 2).toInt ≤ 0 ∧ (I2 m 0).toInt = 0 ∧ (I2 a1 0).toInt = n.toInt) (p2 : ∀ a1, R m 1 = some a1 → ∀ r : Nat, r ≠ 0 → I2 a1 r = I1 a1 r) : RY9 R x nw kp rd cb m w im tp I2 := by
  have w1 := E.1.2.2.2.2.2.2.2.2.2.2.1
  have hW := (LI.wos E hl1).1
  exact ⟨OP_field_0 E hl hl1 hl2 h.1 u0_ q0 q1 cm u1_ p1 p2, (h.2.sm E (fun a _ => funext (q1 a))).rw E cm (by decide) (by decide) (by decide) (fun r hr => p2 w w1 r (by omega))⟩
theorem OP9_field_1 {n : Int32} {P0 : Prop} (E : LX T N R A B x nw kp rd al m w im o cb tp) (hl : LI T R A m I) (hl1 : LI T R A m I1) (hl2 : LI T R A m I2) (h : RY9 R x nw kp rd cb m w im tp I) (u0_ : CB (SL [nw]) T [(9, 0)] I I1) (q0 : (n.toInt = 11 ∨ n.toInt = 13 ∨ n.toInt = 17 ∨ n.toInt = 19) ∧ (0 < (I nw 1).toInt ∨ 0 < (I nw 2).toInt)) (q1 : ∀ a k, I1 a k = I a k) (cm : CM B R m [0] [1] I1 L1 I2 L2) (u1_ : P0) (p1 : ∀ a1, R m 1 = some a1 → ¬ (n.toInt = 11 ∨ n.toInt = 13 ∨ n.toInt = 17 ∨ n.toInt = 19) ∧ (I2 m 0).toInt = 1 ∧ (I2 a1 0).toInt = (I1 a1 0).toInt ∨ (n.toInt = 11 ∨ n.toInt = 13 ∨ n.toInt = 17 ∨ n.toInt = 19) ∧ 0 < (I1 a1 1).toInt + (I1 a1 2).toInt ∧ (I2 m 0).toInt = 2 ∧ (I2 a1 0).toInt = (I1 a1 0).toInt ∨ (n.toInt = 11 ∨ n.toInt = 13 ∨ n.toInt = 17 ∨ n.toInt = 19) ∧ (I1 a1 1).toInt + (I1 a1 2).toInt ≤ 0 ∧ (I2 m 0).toInt = 0 ∧ (I2 a1 0).toInt = n.toInt) (p2 : ∀ a1, R m 1 = some a1 → ∀ r : Nat, r ≠ 0 → I2 a1 r = I1 a1 r) : RY9 R x nw kp rd cb m w im tp I2 := by
  have w1 := E.1.2.2.2.2.2.2.2.2.2.2.1
  have hW := (LI.wos E hl1).1
  exact ⟨OP_field_1 E hl hl1 hl2 h.1 u0_ q0 q1 cm u1_ p1 p2, (h.2.sm E (fun a _ => funext (q1 a))).rw E cm (by decide) (by decide) (by decide) (fun r hr => p2 w w1 r (by omega))⟩
theorem OP9_form {u v : Int32} {P0 P1 P2 P4 P5 P6 : Prop} (E : LX T N R A B x nw kp rd al m w im o cb tp) (hl : LI T R A m I) (hl1 : LI T R A m I1) (hl2 : LI T R A m I2) (h : RY9 R x nw kp rd cb m w im tp I) (c : CB (sFm R rd nw (I nw 1).toNatClampNeg) T [(3, 0), (5, 1), (9, 1), (9, 5)] I I1) (q0 : (I1 rd 1).toInt = 0) (q1 : 1 ≤ (I rd 1).toInt ∧ (I rd 1).toInt ≤ 9 ∧ (I nw 1).toInt < 16 ∧ u.toInt = (I nw 1).toInt) (q2 : (I1 nw 1).toInt = (I nw 1).toInt + 1) (q3 : (I1 nw 5).toInt = 0) (q4 : (I1 (FA R nw (I nw 1).toNatClampNeg) 0).toInt = (I rd 1).toInt - 1) (q5 : NMF I1 (rA R (FA R nw (I nw 1).toNatClampNeg) 1) (I rd 1).toInt (fun j => (I cb j).toInt % (I nw 0).toInt)) (cm : CM B R m [0, 11, 12, 13] [1] I1 L1 I2 L2) (u0_ : P0) (u1_ : P1) (u2_ : P2) (p3 : (I2 m 11).toInt = 0) (u3_ : P4) (u4_ : P5) (u5_ : P6) (p7 : ∀ a1, R m 1 = some a1 → ((I1 m 11).toInt < 1 ∨ 9 < (I1 m 11).toInt) ∧ (I2 m 0).toInt = 1 ∧ (I2 a1 1).toInt = (I1 a1 1).toInt ∨ 1 ≤ (I1 m 11).toInt ∧ (I1 m 11).toInt ≤ 9 ∧ (I1 a1 1).toInt = 16 ∧ (I2 m 0).toInt = 2 ∧ (I2 a1 1).toInt = (I1 a1 1).toInt ∨ 1 ≤ (I1 m 11).toInt ∧ (I1 m 11).toInt ≤ 9 ∧ (I1 a1 1).toInt < 16 ∧ (I2 m 0).toInt = 0 ∧ v.toInt = (I1 a1 1).toInt ∧ (I2 a1 1).toInt = (I1 a1 1).toInt + 1) (p8 : ∀ a1 a10, R m 1 = some a1 → R m 10 = some a10 → FMX (I2 a1) (I1 a1) (I1 a10) (I1 m 11).toInt (I2 m 0).toInt) : RY9 R x nw kp rd cb m w im tp I2 := by
  have w1 := E.1.2.2.2.2.2.2.2.2.2.2.1
  have hW := (LI.wos E hl1).1
  have Z := p7 w w1
  exact ⟨OP_form E hl hl1 hl2 h.1 c q0 q1 q2 q3 q4 q5 cm u0_ u1_ u2_ p3 u3_ u4_ u5_ p7 p8, (h.2.c E c (hS.fm E (ncn (n := 16) (by have := (RY.b E hl h.1).1; omega) (by omega))) (by decide)).rw E cm (by decide) (by decide) (by decide) (fw.fm (p8 w tp w1 E.2.2.2) (by omega))⟩
theorem OP9_form_0 {v : Int32} {P0 P1 P2 P4 P5 P6 : Prop} (E : LX T N R A B x nw kp rd al m w im o cb tp) (hl : LI T R A m I) (hl1 : LI T R A m I1) (hl2 : LI T R A m I2) (h : RY9 R x nw kp rd cb m w im tp I) (u0_ : CB (sFm R rd nw (I nw 1).toNatClampNeg) T [(3, 0), (5, 1), (9, 1), (9, 5)] I I1) (q0 : (I rd 1).toInt < 1 ∨ 9 < (I rd 1).toInt) (q1 : (I1 rd 1).toInt = 0) (q2 : ∀ a, a ≠ rd → ∀ k, I1 a k = I a k) (cm : CM B R m [0, 11, 12, 13] [1] I1 L1 I2 L2) (u1_ : P0) (u2_ : P1) (u3_ : P2) (p3 : (I2 m 11).toInt = 0) (u4_ : P4) (u5_ : P5) (u6_ : P6) (p7 : ∀ a1, R m 1 = some a1 → ((I1 m 11).toInt < 1 ∨ 9 < (I1 m 11).toInt) ∧ (I2 m 0).toInt = 1 ∧ (I2 a1 1).toInt = (I1 a1 1).toInt ∨ 1 ≤ (I1 m 11).toInt ∧ (I1 m 11).toInt ≤ 9 ∧ (I1 a1 1).toInt = 16 ∧ (I2 m 0).toInt = 2 ∧ (I2 a1 1).toInt = (I1 a1 1).toInt ∨ 1 ≤ (I1 m 11).toInt ∧ (I1 m 11).toInt ≤ 9 ∧ (I1 a1 1).toInt < 16 ∧ (I2 m 0).toInt = 0 ∧ v.toInt = (I1 a1 1).toInt ∧ (I2 a1 1).toInt = (I1 a1 1).toInt + 1) (p8 : ∀ a1 a10, R m 1 = some a1 → R m 10 = some a10 → FMX (I2 a1) (I1 a1) (I1 a10) (I1 m 11).toInt (I2 m 0).toInt) : RY9 R x nw kp rd cb m w im tp I2 := by
  have w1 := E.1.2.2.2.2.2.2.2.2.2.2.1
  have hW := (LI.wos E hl1).1
  have Z := p7 w w1
  exact ⟨OP_form_0 E hl hl1 hl2 h.1 u0_ q0 q1 q2 cm u1_ u2_ u3_ p3 u4_ u5_ u6_ p7 p8, (h.2.sm E (fun a ha => funext (q2 a ha))).rw E cm (by decide) (by decide) (by decide) (fw.fm (p8 w tp w1 E.2.2.2) (by omega))⟩
theorem OP9_form_2 {v : Int32} {P0 P1 P2 P4 P5 P6 : Prop} (E : LX T N R A B x nw kp rd al m w im o cb tp) (hl : LI T R A m I) (hl1 : LI T R A m I1) (hl2 : LI T R A m I2) (h : RY9 R x nw kp rd cb m w im tp I) (u0_ : CB (sFm R rd nw (I nw 1).toNatClampNeg) T [(3, 0), (5, 1), (9, 1), (9, 5)] I I1) (q0 : 1 ≤ (I rd 1).toInt ∧ (I rd 1).toInt ≤ 9 ∧ 16 ≤ (I nw 1).toInt) (q1 : (I1 rd 1).toInt = 0) (q2 : ∀ a, a ≠ rd → ∀ k, I1 a k = I a k) (cm : CM B R m [0, 11, 12, 13] [1] I1 L1 I2 L2) (u1_ : P0) (u2_ : P1) (u3_ : P2) (p3 : (I2 m 11).toInt = 0) (u4_ : P4) (u5_ : P5) (u6_ : P6) (p7 : ∀ a1, R m 1 = some a1 → ((I1 m 11).toInt < 1 ∨ 9 < (I1 m 11).toInt) ∧ (I2 m 0).toInt = 1 ∧ (I2 a1 1).toInt = (I1 a1 1).toInt ∨ 1 ≤ (I1 m 11).toInt ∧ (I1 m 11).toInt ≤ 9 ∧ (I1 a1 1).toInt = 16 ∧ (I2 m 0).toInt = 2 ∧ (I2 a1 1).toInt = (I1 a1 1).toInt ∨ 1 ≤ (I1 m 11).toInt ∧ (I1 m 11).toInt ≤ 9 ∧ (I1 a1 1).toInt < 16 ∧ (I2 m 0).toInt = 0 ∧ v.toInt = (I1 a1 1).toInt ∧ (I2 a1 1).toInt = (I1 a1 1).toInt + 1) (p8 : ∀ a1 a10, R m 1 = some a1 → R m 10 = some a10 → FMX (I2 a1) (I1 a1) (I1 a10) (I1 m 11).toInt (I2 m 0).toInt) : RY9 R x nw kp rd cb m w im tp I2 := by
  have w1 := E.1.2.2.2.2.2.2.2.2.2.2.1
  have hW := (LI.wos E hl1).1
  have Z := p7 w w1
  exact ⟨OP_form_2 E hl hl1 hl2 h.1 u0_ q0 q1 q2 cm u1_ u2_ u3_ p3 u4_ u5_ u6_ p7 p8, (h.2.sm E (fun a ha => funext (q2 a ha))).rw E cm (by decide) (by decide) (by decide) (fw.fm (p8 w tp w1 E.2.2.2) (by omega))⟩
theorem OP9_table {n1 n2 n3 n4 u v : Int32} {P0 P1 P2 P5 : Prop} (E : LX T N R A B x nw kp rd al m w im o cb tp) (hl : LI T R A m I) (hl1 : LI T R A m I1) (hl2 : LI T R A m I2) (h : RY9 R x nw kp rd cb m w im tp I) (c : CB (sTb R nw (I nw 2).toNatClampNeg) T [(9, 2), (10, 0), (10, 1), (10, 2), (10, 3)] I I1) (q0 : dt (I nw 0).toInt n1.toInt n2.toInt n3.toInt n4.toInt ≠ 0 ∧ (I nw 2).toInt < 8 ∧ u.toInt = (I nw 2).toInt) (q1 : (I1 nw 2).toInt = (I nw 2).toInt + 1) (q2 : (I1 (TA R nw (I nw 2).toNatClampNeg) 0).toInt = n1.toInt % (I nw 0).toInt) (q3 : (I1 (TA R nw (I nw 2).toNatClampNeg) 1).toInt = n2.toInt % (I nw 0).toInt) (q4 : (I1 (TA R nw (I nw 2).toNatClampNeg) 2).toInt = n3.toInt % (I nw 0).toInt) (q5 : (I1 (TA R nw (I nw 2).toNatClampNeg) 3).toInt = n4.toInt % (I nw 0).toInt) (cm : CM B R m [0, 6, 7, 8, 9] [1] I1 L1 I2 L2) (u0_ : P0) (u1_ : P1) (u2_ : P2) (p3 : ∀ a1, R m 1 = some a1 → TBD (dtR (I1 a1 0).toInt n1.toInt n2.toInt n3.toInt n4.toInt) (I1 a1 2).toInt (I2 a1 2).toInt (I2 m 0).toInt v.toInt) (p4 : ∀ a1, R m 1 = some a1 → TBX (I2 a1) (I1 a1) (I2 m 0).toInt (n1.toInt % (I1 a1 0).toInt) (n2.toInt % (I1 a1 0).toInt) (n3.toInt % (I1 a1 0).toInt) (n4.toInt % (I1 a1 0).toInt)) (u3_ : P5) : RY9 R x nw kp rd cb m w im tp I2 := by
  have w1 := E.1.2.2.2.2.2.2.2.2.2.2.1
  have hW := (LI.wos E hl1).1
  have Z := p3 w w1
  (try unfold TBD at Z)
  exact ⟨OP_table E hl hl1 hl2 h.1 c q0 q1 q2 q3 q4 q5 cm u0_ u1_ u2_ p3 p4 u3_, (h.2.c E c (hS.tb E (ncn (n := 8) (by have := (RY.b E hl h.1).2.1; omega) (by omega))) (by decide)).rw E cm (by decide) (by decide) (by decide) (fw.tx (p4 w w1) (fun z => by omega))⟩
theorem OP9_table_0 {n1 n2 n3 n4 v : Int32} {P0 P1 P2 P5 : Prop} (E : LX T N R A B x nw kp rd al m w im o cb tp) (hl : LI T R A m I) (hl1 : LI T R A m I1) (hl2 : LI T R A m I2) (h : RY9 R x nw kp rd cb m w im tp I) (u0_ : CB (sTb R nw (I nw 2).toNatClampNeg) T [(9, 2), (10, 0), (10, 1), (10, 2), (10, 3)] I I1) (q0 : dt (I nw 0).toInt n1.toInt n2.toInt n3.toInt n4.toInt = 0) (q1 : ∀ a k, I1 a k = I a k) (cm : CM B R m [0, 6, 7, 8, 9] [1] I1 L1 I2 L2) (u1_ : P0) (u2_ : P1) (u3_ : P2) (p3 : ∀ a1, R m 1 = some a1 → TBD (dtR (I1 a1 0).toInt n1.toInt n2.toInt n3.toInt n4.toInt) (I1 a1 2).toInt (I2 a1 2).toInt (I2 m 0).toInt v.toInt) (p4 : ∀ a1, R m 1 = some a1 → TBX (I2 a1) (I1 a1) (I2 m 0).toInt (n1.toInt % (I1 a1 0).toInt) (n2.toInt % (I1 a1 0).toInt) (n3.toInt % (I1 a1 0).toInt) (n4.toInt % (I1 a1 0).toInt)) (u4_ : P5) : RY9 R x nw kp rd cb m w im tp I2 := by
  have w1 := E.1.2.2.2.2.2.2.2.2.2.2.1
  have hW := (LI.wos E hl1).1
  have Z := p3 w w1
  (try unfold TBD at Z)
  exact ⟨OP_table_0 E hl hl1 hl2 h.1 u0_ q0 q1 cm u1_ u2_ u3_ p3 p4 u4_, (h.2.sm E (fun a _ => funext (q1 a))).rw E cm (by decide) (by decide) (by decide) (fw.tx (p4 w w1) (fun z => by omega))⟩
theorem OP9_table_2 {n1 n2 n3 n4 v : Int32} {P0 P1 P2 P5 : Prop} (E : LX T N R A B x nw kp rd al m w im o cb tp) (hl : LI T R A m I) (hl1 : LI T R A m I1) (hl2 : LI T R A m I2) (h : RY9 R x nw kp rd cb m w im tp I) (u0_ : CB (sTb R nw (I nw 2).toNatClampNeg) T [(9, 2), (10, 0), (10, 1), (10, 2), (10, 3)] I I1) (q0 : dt (I nw 0).toInt n1.toInt n2.toInt n3.toInt n4.toInt ≠ 0 ∧ 8 ≤ (I nw 2).toInt) (q1 : ∀ a k, I1 a k = I a k) (cm : CM B R m [0, 6, 7, 8, 9] [1] I1 L1 I2 L2) (u1_ : P0) (u2_ : P1) (u3_ : P2) (p3 : ∀ a1, R m 1 = some a1 → TBD (dtR (I1 a1 0).toInt n1.toInt n2.toInt n3.toInt n4.toInt) (I1 a1 2).toInt (I2 a1 2).toInt (I2 m 0).toInt v.toInt) (p4 : ∀ a1, R m 1 = some a1 → TBX (I2 a1) (I1 a1) (I2 m 0).toInt (n1.toInt % (I1 a1 0).toInt) (n2.toInt % (I1 a1 0).toInt) (n3.toInt % (I1 a1 0).toInt) (n4.toInt % (I1 a1 0).toInt)) (u4_ : P5) : RY9 R x nw kp rd cb m w im tp I2 := by
  have w1 := E.1.2.2.2.2.2.2.2.2.2.2.1
  have hW := (LI.wos E hl1).1
  have Z := p3 w w1
  (try unfold TBD at Z)
  exact ⟨OP_table_2 E hl hl1 hl2 h.1 u0_ q0 q1 cm u1_ u2_ u3_ p3 p4 u4_, (h.2.sm E (fun a _ => funext (q1 a))).rw E cm (by decide) (by decide) (by decide) (fw.tx (p4 w w1) (fun z => by omega))⟩
theorem OP9_join {n1 n2 u v : Int32} {P0 P1 P2 P5 : Prop} (E : LX T N R A B x nw kp rd al m w im o cb tp) (hl : LI T R A m I) (hl1 : LI T R A m I1) (hl2 : LI T R A m I2) (h : RY9 R x nw kp rd cb m w im tp I) (c : CB (sTb R nw (I nw 2).toNatClampNeg) T [(9, 2), (10, 0), (10, 1), (10, 2), (10, 3)] I I1) (q0 : ¬ ((n1.toInt < 0 ∨ (I nw 2).toInt ≤ n1.toInt ∨ 8 ≤ n1.toInt) ∨ (n2.toInt < 0 ∨ (I nw 2).toInt ≤ n2.toInt ∨ 8 ≤ n2.toInt)) ∧ (I nw 2).toInt < 8 ∧ u.toInt = (I nw 2).toInt) (q1 : (I1 nw 2).toInt = (I nw 2).toInt + 1) (q2 : (I1 (TA R nw (I nw 2).toNatClampNeg) 0).toInt = ((I (TA R nw n1.toNatClampNeg) 0).toInt * (I (TA R nw n2.toNatClampNeg) 0).toInt + (I (TA R nw n1.toNatClampNeg) 1).toInt * (I (TA R nw n2.toNatClampNeg) 2).toInt) % (I nw 0).toInt) (q3 : (I1 (TA R nw (I nw 2).toNatClampNeg) 1).toInt = ((I (TA R nw n1.toNatClampNeg) 0).toInt * (I (TA R nw n2.toNatClampNeg) 1).toInt + (I (TA R nw n1.toNatClampNeg) 1).toInt * (I (TA R nw n2.toNatClampNeg) 3).toInt) % (I nw 0).toInt) (q4 : (I1 (TA R nw (I nw 2).toNatClampNeg) 2).toInt = ((I (TA R nw n1.toNatClampNeg) 2).toInt * (I (TA R nw n2.toNatClampNeg) 0).toInt + (I (TA R nw n1.toNatClampNeg) 3).toInt * (I (TA R nw n2.toNatClampNeg) 2).toInt) % (I nw 0).toInt) (q5 : (I1 (TA R nw (I nw 2).toNatClampNeg) 3).toInt = ((I (TA R nw n1.toNatClampNeg) 2).toInt * (I (TA R nw n2.toNatClampNeg) 1).toInt + (I (TA R nw n1.toNatClampNeg) 3).toInt * (I (TA R nw n2.toNatClampNeg) 3).toInt) % (I nw 0).toInt) (cm : CM B R m [0, 6, 7, 8, 9] [1] I1 L1 I2 L2) (u0_ : P0) (u1_ : P1) (u2_ : P2) (p3 : ∀ a1, R m 1 = some a1 → (n1.toInt < 0 ∨ (I1 a1 2).toInt ≤ n1.toInt ∨ n2.toInt < 0 ∨ (I1 a1 2).toInt ≤ n2.toInt) ∧ (I2 m 0).toInt = 1 ∧ (I2 a1 2).toInt = (I1 a1 2).toInt ∨ ¬ (n1.toInt < 0 ∨ (I1 a1 2).toInt ≤ n1.toInt ∨ n2.toInt < 0 ∨ (I1 a1 2).toInt ≤ n2.toInt) ∧ (I1 a1 2).toInt = 8 ∧ (I2 m 0).toInt = 2 ∧ (I2 a1 2).toInt = (I1 a1 2).toInt ∨ ¬ (n1.toInt < 0 ∨ (I1 a1 2).toInt ≤ n1.toInt ∨ n2.toInt < 0 ∨ (I1 a1 2).toInt ≤ n2.toInt) ∧ (I1 a1 2).toInt < 8 ∧ (I2 m 0).toInt = 0 ∧ v.toInt = (I1 a1 2).toInt ∧ (I2 a1 2).toInt = (I1 a1 2).toInt + 1) (p4 : ∀ a1, R m 1 = some a1 → TBj (I2 a1) (I1 a1) (I2 m 0).toInt n1.toNatClampNeg n2.toNatClampNeg) (u3_ : P5) : RY9 R x nw kp rd cb m w im tp I2 := by
  have w1 := E.1.2.2.2.2.2.2.2.2.2.2.1
  have hW := (LI.wos E hl1).1
  have Z := p3 w w1
  (try unfold TBD at Z)
  exact ⟨OP_join E hl hl1 hl2 h.1 c q0 q1 q2 q3 q4 q5 cm u0_ u1_ u2_ p3 p4 u3_, (h.2.c E c (hS.tb E (ncn (n := 8) (by have := (RY.b E hl h.1).2.1; omega) (by omega))) (by decide)).rw E cm (by decide) (by decide) (by decide) (fw.tx (p4 w w1) (fun z => by omega))⟩
theorem OP9_join_2 {n1 n2 v : Int32} {P0 P1 P2 P5 : Prop} (E : LX T N R A B x nw kp rd al m w im o cb tp) (hl : LI T R A m I) (hl1 : LI T R A m I1) (hl2 : LI T R A m I2) (h : RY9 R x nw kp rd cb m w im tp I) (u0_ : CB (sTb R nw (I nw 2).toNatClampNeg) T [(9, 2), (10, 0), (10, 1), (10, 2), (10, 3)] I I1) (q0 : ¬ ((n1.toInt < 0 ∨ (I nw 2).toInt ≤ n1.toInt ∨ 8 ≤ n1.toInt) ∨ (n2.toInt < 0 ∨ (I nw 2).toInt ≤ n2.toInt ∨ 8 ≤ n2.toInt)) ∧ 8 ≤ (I nw 2).toInt) (q1 : ∀ a k, I1 a k = I a k) (cm : CM B R m [0, 6, 7, 8, 9] [1] I1 L1 I2 L2) (u1_ : P0) (u2_ : P1) (u3_ : P2) (p3 : ∀ a1, R m 1 = some a1 → (n1.toInt < 0 ∨ (I1 a1 2).toInt ≤ n1.toInt ∨ n2.toInt < 0 ∨ (I1 a1 2).toInt ≤ n2.toInt) ∧ (I2 m 0).toInt = 1 ∧ (I2 a1 2).toInt = (I1 a1 2).toInt ∨ ¬ (n1.toInt < 0 ∨ (I1 a1 2).toInt ≤ n1.toInt ∨ n2.toInt < 0 ∨ (I1 a1 2).toInt ≤ n2.toInt) ∧ (I1 a1 2).toInt = 8 ∧ (I2 m 0).toInt = 2 ∧ (I2 a1 2).toInt = (I1 a1 2).toInt ∨ ¬ (n1.toInt < 0 ∨ (I1 a1 2).toInt ≤ n1.toInt ∨ n2.toInt < 0 ∨ (I1 a1 2).toInt ≤ n2.toInt) ∧ (I1 a1 2).toInt < 8 ∧ (I2 m 0).toInt = 0 ∧ v.toInt = (I1 a1 2).toInt ∧ (I2 a1 2).toInt = (I1 a1 2).toInt + 1) (p4 : ∀ a1, R m 1 = some a1 → TBj (I2 a1) (I1 a1) (I2 m 0).toInt n1.toNatClampNeg n2.toNatClampNeg) (u4_ : P5) : RY9 R x nw kp rd cb m w im tp I2 := by
  have w1 := E.1.2.2.2.2.2.2.2.2.2.2.1
  have hW := (LI.wos E hl1).1
  have Z := p3 w w1
  (try unfold TBD at Z)
  exact ⟨OP_join_2 E hl hl1 hl2 h.1 u0_ q0 q1 cm u1_ u2_ u3_ p3 p4 u4_, (h.2.sm E (fun a _ => funext (q1 a))).rw E cm (by decide) (by decide) (by decide) (fw.tx (p4 w w1) (fun z => by omega))⟩
theorem OP9_join_3 {n1 n2 v : Int32} {P0 P1 P2 P5 : Prop} (E : LX T N R A B x nw kp rd al m w im o cb tp) (hl : LI T R A m I) (hl1 : LI T R A m I1) (hl2 : LI T R A m I2) (h : RY9 R x nw kp rd cb m w im tp I) (u0_ : CB (sTb R nw (I nw 2).toNatClampNeg) T [(9, 2), (10, 0), (10, 1), (10, 2), (10, 3)] I I1) (q0 : (n1.toInt < 0 ∨ (I nw 2).toInt ≤ n1.toInt ∨ 8 ≤ n1.toInt) ∨ (n2.toInt < 0 ∨ (I nw 2).toInt ≤ n2.toInt ∨ 8 ≤ n2.toInt)) (q1 : ∀ a k, I1 a k = I a k) (cm : CM B R m [0, 6, 7, 8, 9] [1] I1 L1 I2 L2) (u1_ : P0) (u2_ : P1) (u3_ : P2) (p3 : ∀ a1, R m 1 = some a1 → (n1.toInt < 0 ∨ (I1 a1 2).toInt ≤ n1.toInt ∨ n2.toInt < 0 ∨ (I1 a1 2).toInt ≤ n2.toInt) ∧ (I2 m 0).toInt = 1 ∧ (I2 a1 2).toInt = (I1 a1 2).toInt ∨ ¬ (n1.toInt < 0 ∨ (I1 a1 2).toInt ≤ n1.toInt ∨ n2.toInt < 0 ∨ (I1 a1 2).toInt ≤ n2.toInt) ∧ (I1 a1 2).toInt = 8 ∧ (I2 m 0).toInt = 2 ∧ (I2 a1 2).toInt = (I1 a1 2).toInt ∨ ¬ (n1.toInt < 0 ∨ (I1 a1 2).toInt ≤ n1.toInt ∨ n2.toInt < 0 ∨ (I1 a1 2).toInt ≤ n2.toInt) ∧ (I1 a1 2).toInt < 8 ∧ (I2 m 0).toInt = 0 ∧ v.toInt = (I1 a1 2).toInt ∧ (I2 a1 2).toInt = (I1 a1 2).toInt + 1) (p4 : ∀ a1, R m 1 = some a1 → TBj (I2 a1) (I1 a1) (I2 m 0).toInt n1.toNatClampNeg n2.toNatClampNeg) (u4_ : P5) : RY9 R x nw kp rd cb m w im tp I2 := by
  have w1 := E.1.2.2.2.2.2.2.2.2.2.2.1
  have hW := (LI.wos E hl1).1
  have Z := p3 w w1
  (try unfold TBD at Z)
  exact ⟨OP_join_3 E hl hl1 hl2 h.1 u0_ q0 q1 cm u1_ u2_ u3_ p3 p4 u4_, (h.2.sm E (fun a _ => funext (q1 a))).rw E cm (by decide) (by decide) (by decide) (fw.tx (p4 w w1) (fun z => by omega))⟩
theorem OP9_turn {n1 u v : Int32} {P0 P1 P2 P5 : Prop} (E : LX T N R A B x nw kp rd al m w im o cb tp) (hl : LI T R A m I) (hl1 : LI T R A m I1) (hl2 : LI T R A m I2) (h : RY9 R x nw kp rd cb m w im tp I) (c : CB (sTb R nw (I nw 2).toNatClampNeg) T [(9, 2), (10, 0), (10, 1), (10, 2), (10, 3)] I I1) (q0 : ¬ (n1.toInt < 0 ∨ (I nw 2).toInt ≤ n1.toInt ∨ 8 ≤ n1.toInt) ∧ (I nw 2).toInt < 8 ∧ u.toInt = (I nw 2).toInt) (q1 : (I1 nw 2).toInt = (I nw 2).toInt + 1) (q2 : TBC (I1 (TA R nw (I nw 2).toNatClampNeg) 0).toInt (I1 (TA R nw (I nw 2).toNatClampNeg) 1).toInt (I1 (TA R nw (I nw 2).toNatClampNeg) 2).toInt (I1 (TA R nw (I nw 2).toNatClampNeg) 3).toInt (I (TA R nw n1.toNatClampNeg) 0).toInt (I (TA R nw n1.toNatClampNeg) 1).toInt (I (TA R nw n1.toNatClampNeg) 2).toInt (I (TA R nw n1.toNatClampNeg) 3).toInt (I nw 0).toInt) (cm : CM B R m [0, 6, 7, 8, 9] [1] I1 L1 I2 L2) (u0_ : P0) (u1_ : P1) (u2_ : P2) (p3 : ∀ a1, R m 1 = some a1 → (n1.toInt < 0 ∨ (I1 a1 2).toInt ≤ n1.toInt) ∧ (I2 m 0).toInt = 1 ∧ (I2 a1 2).toInt = (I1 a1 2).toInt ∨ ¬ (n1.toInt < 0 ∨ (I1 a1 2).toInt ≤ n1.toInt) ∧ (I1 a1 2).toInt = 8 ∧ (I2 m 0).toInt = 2 ∧ (I2 a1 2).toInt = (I1 a1 2).toInt ∨ ¬ (n1.toInt < 0 ∨ (I1 a1 2).toInt ≤ n1.toInt) ∧ (I1 a1 2).toInt < 8 ∧ (I2 m 0).toInt = 0 ∧ v.toInt = (I1 a1 2).toInt ∧ (I2 a1 2).toInt = (I1 a1 2).toInt + 1) (p4 : ∀ a1, R m 1 = some a1 → TBt (I2 a1) (I1 a1) (I2 m 0).toInt n1.toNatClampNeg) (u3_ : P5) : RY9 R x nw kp rd cb m w im tp I2 := by
  have w1 := E.1.2.2.2.2.2.2.2.2.2.2.1
  have hW := (LI.wos E hl1).1
  have Z := p3 w w1
  exact ⟨OP_turn E hl hl1 hl2 h.1 c q0 q1 q2 cm u0_ u1_ u2_ p3 p4 u3_, (h.2.c E c (hS.tb E (ncn (n := 8) (by have := (RY.b E hl h.1).2.1; omega) (by omega))) (by decide)).rw E cm (by decide) (by decide) (by decide) (fw.tt (p4 w w1) (fun z => by omega))⟩
theorem OP9_turn_2 {n1 v : Int32} {P0 P1 P2 P5 : Prop} (E : LX T N R A B x nw kp rd al m w im o cb tp) (hl : LI T R A m I) (hl1 : LI T R A m I1) (hl2 : LI T R A m I2) (h : RY9 R x nw kp rd cb m w im tp I) (u0_ : CB (sTb R nw (I nw 2).toNatClampNeg) T [(9, 2), (10, 0), (10, 1), (10, 2), (10, 3)] I I1) (q0 : ¬ (n1.toInt < 0 ∨ (I nw 2).toInt ≤ n1.toInt ∨ 8 ≤ n1.toInt) ∧ 8 ≤ (I nw 2).toInt) (q1 : ∀ a k, I1 a k = I a k) (cm : CM B R m [0, 6, 7, 8, 9] [1] I1 L1 I2 L2) (u1_ : P0) (u2_ : P1) (u3_ : P2) (p3 : ∀ a1, R m 1 = some a1 → (n1.toInt < 0 ∨ (I1 a1 2).toInt ≤ n1.toInt) ∧ (I2 m 0).toInt = 1 ∧ (I2 a1 2).toInt = (I1 a1 2).toInt ∨ ¬ (n1.toInt < 0 ∨ (I1 a1 2).toInt ≤ n1.toInt) ∧ (I1 a1 2).toInt = 8 ∧ (I2 m 0).toInt = 2 ∧ (I2 a1 2).toInt = (I1 a1 2).toInt ∨ ¬ (n1.toInt < 0 ∨ (I1 a1 2).toInt ≤ n1.toInt) ∧ (I1 a1 2).toInt < 8 ∧ (I2 m 0).toInt = 0 ∧ v.toInt = (I1 a1 2).toInt ∧ (I2 a1 2).toInt = (I1 a1 2).toInt + 1) (p4 : ∀ a1, R m 1 = some a1 → TBt (I2 a1) (I1 a1) (I2 m 0).toInt n1.toNatClampNeg) (u4_ : P5) : RY9 R x nw kp rd cb m w im tp I2 := by
  have w1 := E.1.2.2.2.2.2.2.2.2.2.2.1
  have hW := (LI.wos E hl1).1
  have Z := p3 w w1
  exact ⟨OP_turn_2 E hl hl1 hl2 h.1 u0_ q0 q1 cm u1_ u2_ u3_ p3 p4 u4_, (h.2.sm E (fun a _ => funext (q1 a))).rw E cm (by decide) (by decide) (by decide) (fw.tt (p4 w w1) (fun z => by omega))⟩
theorem OP9_turn_3 {n1 v : Int32} {P0 P1 P2 P5 : Prop} (E : LX T N R A B x nw kp rd al m w im o cb tp) (hl : LI T R A m I) (hl1 : LI T R A m I1) (hl2 : LI T R A m I2) (h : RY9 R x nw kp rd cb m w im tp I) (u0_ : CB (sTb R nw (I nw 2).toNatClampNeg) T [(9, 2), (10, 0), (10, 1), (10, 2), (10, 3)] I I1) (q0 : (n1.toInt < 0 ∨ (I nw 2).toInt ≤ n1.toInt ∨ 8 ≤ n1.toInt)) (q1 : ∀ a k, I1 a k = I a k) (cm : CM B R m [0, 6, 7, 8, 9] [1] I1 L1 I2 L2) (u1_ : P0) (u2_ : P1) (u3_ : P2) (p3 : ∀ a1, R m 1 = some a1 → (n1.toInt < 0 ∨ (I1 a1 2).toInt ≤ n1.toInt) ∧ (I2 m 0).toInt = 1 ∧ (I2 a1 2).toInt = (I1 a1 2).toInt ∨ ¬ (n1.toInt < 0 ∨ (I1 a1 2).toInt ≤ n1.toInt) ∧ (I1 a1 2).toInt = 8 ∧ (I2 m 0).toInt = 2 ∧ (I2 a1 2).toInt = (I1 a1 2).toInt ∨ ¬ (n1.toInt < 0 ∨ (I1 a1 2).toInt ≤ n1.toInt) ∧ (I1 a1 2).toInt < 8 ∧ (I2 m 0).toInt = 0 ∧ v.toInt = (I1 a1 2).toInt ∧ (I2 a1 2).toInt = (I1 a1 2).toInt + 1) (p4 : ∀ a1, R m 1 = some a1 → TBt (I2 a1) (I1 a1) (I2 m 0).toInt n1.toNatClampNeg) (u4_ : P5) : RY9 R x nw kp rd cb m w im tp I2 := by
  have w1 := E.1.2.2.2.2.2.2.2.2.2.2.1
  have hW := (LI.wos E hl1).1
  have Z := p3 w w1
  exact ⟨OP_turn_3 E hl hl1 hl2 h.1 u0_ q0 q1 cm u1_ u2_ u3_ p3 p4 u4_, (h.2.sm E (fun a _ => funext (q1 a))).rw E cm (by decide) (by decide) (by decide) (fw.tt (p4 w w1) (fun z => by omega))⟩
theorem OP9_mix {n1 n2 : Int32} {P0 P1 P2 P4 P7 Q0 Q1 Q8 : Prop} (E : LX T N R A B x nw kp rd al m w im o cb tp) (hl : LI T R A m I) (hl1 : LI T R A m I1) (hl2 : LI T R A m I2) (h : RY9 R x nw kp rd cb m w im tp I) (c : CB (sMx T R A nw n1.toNatClampNeg) T [(3, 0), (9, 4), (9, 5)] I I1) (u0_ : Q0) (u1_ : Q1) (q2 : ¬ ((n1.toInt < 0 ∨ (I nw 1).toInt ≤ n1.toInt ∨ 16 ≤ n1.toInt) ∨ (n2.toInt < 0 ∨ (I nw 2).toInt ≤ n2.toInt ∨ 8 ≤ n2.toInt))) (q3 : (I1 (FA R nw n1.toNatClampNeg) 0).toInt = (I (FA R nw n1.toNatClampNeg) 0).toInt) (q4 : VRX I1 (rA R (FA R nw n1.toNatClampNeg) 1) (I nw 0).toInt (I (FA R nw n1.toNatClampNeg) 0).toInt (PmX (I (TA R nw n2.toNatClampNeg) 0).toInt (I (TA R nw n2.toNatClampNeg) 1).toInt (I (TA R nw n2.toNatClampNeg) 2).toInt (I (TA R nw n2.toNatClampNeg) 3).toInt (NF I (rA R (FA R nw n1.toNatClampNeg) 1)) (I (FA R nw n1.toNatClampNeg) 0).toInt.toNat)) (q5 : WRD R I1 I nw n1 (FA R nw n1.toNatClampNeg) (I nw 4).toInt) (q6 : (I1 nw 5).toInt = 0) (q7 : FSM R I1 I nw n1.toInt) (u2_ : Q8) (cm : CM B R m [0, 6, 7, 8, 9] [1, 4, 5] I1 L1 I2 L2) (u3_ : P0) (u4_ : P1) (u5_ : P2) (p3 : ∀ a1, R m 1 = some a1 → (I2 m 0).toInt = 0 → MXT (I2 a1) (I1 a1) n1 n2) (u6_ : P4) (p5 : ∀ a1, R m 1 = some a1 → (I2 m 0).toInt ≠ 0 → I2 a1 = I1 a1) (p6 : ∀ a1, R m 1 = some a1 → ¬ (n1.toInt < 0 ∨ (I1 a1 1).toInt ≤ n1.toInt ∨ n2.toInt < 0 ∨ (I1 a1 2).toInt ≤ n2.toInt) ∧ (I2 m 0).toInt = 0 ∨ (n1.toInt < 0 ∨ (I1 a1 1).toInt ≤ n1.toInt ∨ n2.toInt < 0 ∨ (I1 a1 2).toInt ≤ n2.toInt) ∧ (I2 m 0).toInt = 1) (u7_ : P7) : RY9 R x nw kp rd cb m w im tp I2 := by
  have w1 := E.1.2.2.2.2.2.2.2.2.2.2.1
  have hW := (LI.wos E hl1).1
  have Z := p6 w w1
  have hb := hW.b
  exact ⟨OP_mix E hl hl1 hl2 h.1 c u0_ u1_ q2 q3 q4 q5 q6 q7 u2_ cm u3_ u4_ u5_ p3 u6_ p5 p6 u7_, (h.2.c E c (hS.mx E (ncn (n := 16) (by omega) (by omega))) (by decide)).rw E cm (by decide) (by decide) (by decide) (fun r hr => by
    by_cases z : (I2 m 0).toInt = 0
    · exact fw.mx (p3 w w1 z) hW (ncn (n := 16) (by omega) (by omega)) r hr
    · rw [p5 w w1 z])⟩
theorem OP9_mix_3 {n1 n2 : Int32} {P0 P1 P2 P4 P7 : Prop} (E : LX T N R A B x nw kp rd al m w im o cb tp) (hl : LI T R A m I) (hl1 : LI T R A m I1) (hl2 : LI T R A m I2) (h : RY9 R x nw kp rd cb m w im tp I) (u0_ : CB (sMx T R A nw n1.toNatClampNeg) T [(3, 0), (9, 4), (9, 5)] I I1) (q0 : (n1.toInt < 0 ∨ (I nw 1).toInt ≤ n1.toInt ∨ 16 ≤ n1.toInt) ∨ (n2.toInt < 0 ∨ (I nw 2).toInt ≤ n2.toInt ∨ 8 ≤ n2.toInt)) (q1 : ∀ a k, I1 a k = I a k) (cm : CM B R m [0, 6, 7, 8, 9] [1, 4, 5] I1 L1 I2 L2) (u1_ : P0) (u2_ : P1) (u3_ : P2) (p3 : ∀ a1, R m 1 = some a1 → (I2 m 0).toInt = 0 → MXT (I2 a1) (I1 a1) n1 n2) (u4_ : P4) (p5 : ∀ a1, R m 1 = some a1 → (I2 m 0).toInt ≠ 0 → I2 a1 = I1 a1) (p6 : ∀ a1, R m 1 = some a1 → ¬ (n1.toInt < 0 ∨ (I1 a1 1).toInt ≤ n1.toInt ∨ n2.toInt < 0 ∨ (I1 a1 2).toInt ≤ n2.toInt) ∧ (I2 m 0).toInt = 0 ∨ (n1.toInt < 0 ∨ (I1 a1 1).toInt ≤ n1.toInt ∨ n2.toInt < 0 ∨ (I1 a1 2).toInt ≤ n2.toInt) ∧ (I2 m 0).toInt = 1) (u5_ : P7) : RY9 R x nw kp rd cb m w im tp I2 := by
  have w1 := E.1.2.2.2.2.2.2.2.2.2.2.1
  have hW := (LI.wos E hl1).1
  have Z := p6 w w1
  have hb := hW.b
  exact ⟨OP_mix_3 E hl hl1 hl2 h.1 u0_ q0 q1 cm u1_ u2_ u3_ p3 u4_ p5 p6 u5_, (h.2.sm E (fun a _ => funext (q1 a))).rw E cm (by decide) (by decide) (by decide) (fun r hr => by
    by_cases z : (I2 m 0).toInt = 0
    · exact fw.mx (p3 w w1 z) hW (ncn (n := 16) (by omega) (by omega)) r hr
    · rw [p5 w w1 z])⟩
theorem OP9_undo {u v : Int32} {P0 P2 : Prop} (E : LX T N R A B x nw kp rd al m w im o cb tp) (hl : LI T R A m I) (hl1 : LI T R A m I1) (hl2 : LI T R A m I2) (h : RY9 R x nw kp rd cb m w im tp I) (c : CB (UDX R nw) T [(9, 4), (9, 5)] I I1) (q0 : UND R I1 I nw u (I nw 4).toInt (I nw 5).toInt) (cm : CM B R m [0, 6, 7, 8, 9] [1, 4, 5] I1 L1 I2 L2) (u0_ : P0) (p1 : ∀ a1, R m 1 = some a1 → UNX (I2 a1) (I1 a1) v.toInt) (u1_ : P2) : RY9 R x nw kp rd cb m w im tp I2 := by
  have w1 := E.1.2.2.2.2.2.2.2.2.2.2.1
  have hW := (LI.wos E hl1).1
  exact ⟨OP_undo E hl hl1 hl2 h.1 c q0 cm u0_ p1 u1_, (h.2.c E c (hS.ud E) (by decide)).rw E cm (by decide) (by decide) (by decide) (fw.un (p1 w w1) hW)⟩
theorem OP9_redo {u v : Int32} {P0 P2 : Prop} (E : LX T N R A B x nw kp rd al m w im o cb tp) (hl : LI T R A m I) (hl1 : LI T R A m I1) (hl2 : LI T R A m I2) (h : RY9 R x nw kp rd cb m w im tp I) (c : CB (UDX R nw) T [(9, 4), (9, 5)] I I1) (q0 : RDD R I1 I nw u (I nw 4).toInt (I nw 5).toInt) (cm : CM B R m [0, 6, 7, 8, 9] [1, 4, 5] I1 L1 I2 L2) (u0_ : P0) (p1 : ∀ a1, R m 1 = some a1 → RDX (I2 a1) (I1 a1) v.toInt) (u1_ : P2) : RY9 R x nw kp rd cb m w im tp I2 := by
  have w1 := E.1.2.2.2.2.2.2.2.2.2.2.1
  have hW := (LI.wos E hl1).1
  exact ⟨OP_redo E hl hl1 hl2 h.1 c q0 cm u0_ p1 u1_, (h.2.c E c (hS.ud E) (by decide)).rw E cm (by decide) (by decide) (by decide) (fw.re (p1 w w1) hW)⟩
theorem SGCL.s3 {st a : Nat} (h : SGCL R st a) : ∃ j, j < 8 ∧ SG3 R st j a := h
theorem SGR.cp {st st' : Nat} {W W' : Nat → Int32} (h : SGR R st' W I) (hb : (I st' 3).toInt ≤ 8) (l : SLL R I1 I st st' (I st' 3).toInt) (e3 : (I1 st 3).toInt = (I st' 3).toInt) (fw : ∀ r, r < 3606 → W' r = W r) : SGR R st W' I1 := by
  refine ⟨by rw [e3, fw 3 (by decide)]; exact h.1, fun j hj hk => ?_⟩
  obtain ⟨l1, l2⟩ := l j hj (by omega)
  obtain ⟨h1, h2, h3, h4⟩ := h.2 j hj (by omega)
  have le : (WSL W j).length ≤ 160 := by rw [← h1, STL.len]; omega
  rw [l1, h1, WSL.eq le (fun r h1 h2 => fw r (by omega))]
  exact ⟨rfl, l2.1, l2.2, h4⟩
theorem OP9_image {P0 : Prop} (E : LX T N R A B x nw kp rd al m w im o cb tp) (hl : LI T R A m I) (hl1 : LI T R A m I1) (hl2 : LI T R A m I2) (h : RY9 R x nw kp rd cb m w im tp I) (c : CB (sIm R kp x) T [(3, 0), (8, 2), (9, 0), (9, 1), (9, 2), (9, 3), (9, 4), (9, 5), (10, 0), (10, 1), (10, 2), (10, 3), (12, 3)] I I1) (q0 : (I1 x 3).toInt = 1) (q1 : (I1 kp 0).toInt = (I nw 0).toInt) (q2 : (I1 kp 1).toInt = (I nw 1).toInt) (q3 : (I1 kp 2).toInt = (I nw 2).toInt) (q4 : (I1 kp 3).toInt = (I nw 3).toInt) (q5 : (I1 kp 4).toInt = (I nw 4).toInt) (q6 : (I1 kp 5).toInt = (I nw 5).toInt) (q7 : CAL R I1 I kp nw 40) (q8 : FLL R I1 I kp nw (I nw 1).toInt) (q9 : TLL R I1 I kp nw (I nw 2).toInt) (q10 : SLL R I1 I kp nw (I nw 3).toInt) (cm : CM B R m [0, 3] [2] I1 L1 I2 L2) (u0_ : P0) (p1 : (I2 m 3).toInt = 1) (p2 : ∀ a1 a2, R m 1 = some a1 → R m 2 = some a2 → CPA I2 I1 a2 a1) : RY9 R x nw kp rd cb m w im tp I2 := by
  refine ⟨OP_image E hl hl1 hl2 h.1 c q0 q1 q2 q3 q4 q5 q6 q7 q8 q9 cm u0_ p1 p2, ?_⟩
  obtain ⟨⟨g1, gg1⟩, g2, gg2⟩ := E.g
  obtain ⟨⟨t1, t2, t3, t4⟩, ⟨a1, a2, a3, a4⟩, b1, b2, b3⟩ := E.1.t
  have w1 := E.1.2.2.2.2.2.2.2.2.2.2.1
  have w2 := E.1.2.2.2.2.2.2.2.2.2.2.2
  have nAB := E.1.2.2.2.1
  have hnk := E.1.2.2.2.2.2.2.2.1
  have hU := E.2.1
  have eB : ∀ a, B a → I1 a = I a := fun a ha => c.1 a (fun q => q.elim (fun q => nAB a (OWN.a9 E.s.2 q) ha) (fun e => nAB _ a1 (e ▸ ha)))
  have eA : ∀ a, A a → I2 a = I1 a := fun a ha => (cm.1 a (nAB a ha)).1
  have X := p2 w im w1 w2
  have Y : ∀ r, r < 3606 → I2 im r = I w r := fun r hr => by rw [X r hr, eB w b2]
  have ew : I2 w = I w := ((cm.2.2 1 w w1 (by decide)).1).trans (eB w b2)
  have enw : I1 nw = I nw := c.1 nw (fun q => q.elim (fun q => by
    rcases OWN.ty g2 gg2 q with e | e | e | e | e
    · exact hnk e.symm
    · omega
    · omega
    · omega
    · omega) (fun e => by rw [e] at t2; omega))
  have en : ∀ a, SGCL R nw a → I2 a = I a := fun a ha => by
    obtain ⟨j, hj, q⟩ := ha.s3
    rw [eA a (ha.a E.s.1)]
    exact c.1 a (fun z => z.elim (OWN.ns hU g2 gg2 gg1 hnk hj q) (fun e => by have := q.ty gg1 hj; rw [e] at this; omega))
  have hb := (RY.b E hl h.1).2.2.2.2.1
  refine ⟨by rw [(cm.2.2 10 tp E.2.2.2 (by decide)).1, eB tp E.tb]; exact h.2.1, ?_, Or.inr ?_⟩
  · rw [ew]
    exact h.2.2.1.fr (by rw [eA nw a2, enw]) en (fun _ _ => rfl)
  · have q := h.2.2.1.cp (st := kp) hb.2 q10 q4 Y
    exact q.fr (by rw [eA kp a3]) (fun a ha => eA a (ha.a E.s.2)) (fun _ _ => rfl)
theorem OP9_back {u v : Int32} {P0 P1 P2 Q0 Q1 : Prop} (E : LX T N R A B x nw kp rd al m w im o cb tp) (hl : LI T R A m I) (hl1 : LI T R A m I1) (hl2 : LI T R A m I2) (h : RY9 R x nw kp rd cb m w im tp I) (c : CB (OWN R nw) T [(3, 0), (8, 2), (9, 0), (9, 1), (9, 2), (9, 3), (9, 4), (9, 5), (10, 0), (10, 1), (10, 2), (10, 3)] I I1) (u0_ : Q0) (u1_ : Q1) (q2 : BKX R I1 I nw kp u.toInt (I x 3).toInt) (q3 : u.toInt ≠ 0 → SLL R I1 I nw kp (I kp 3).toInt) (cm : CM B R m [0] [1] I1 L1 I2 L2) (u2_ : P0) (u3_ : P1) (u4_ : P2) (p3 : ∀ a1 a2, R m 1 = some a1 → R m 2 = some a2 → BKD I2 I1 a1 a2 v.toInt (I1 m 3).toInt) : RY9 R x nw kp rd cb m w im tp I2 := by
  refine ⟨OP_back E hl hl1 hl2 h.1 c u0_ u1_ q2 cm u2_ u3_ u4_ p3, ?_⟩
  obtain ⟨⟨g1, gg1⟩, g2, gg2⟩ := E.g
  obtain ⟨⟨t1, t2, t3, t4⟩, ⟨a1, a2, a3, a4⟩, b1, b2, b3⟩ := E.1.t
  have w1 := E.1.2.2.2.2.2.2.2.2.2.2.1
  have w2 := E.1.2.2.2.2.2.2.2.2.2.2.2
  have nAB := E.1.2.2.2.1
  have hnk := E.1.2.2.2.2.2.2.2.1
  have hU := E.2.1
  obtain ⟨r1, r2, r3⟩ := id h.1
  have eB : ∀ a, B a → I1 a = I a := fun a ha => c.1 a (fun q => nAB a (OWN.a9 E.s.1 q) ha)
  have eA : ∀ a, A a → I2 a = I1 a := fun a ha => (cm.1 a (nAB a ha)).1
  have X := p3 w im w1 w2
  rw [eB m b1] at X
  have et : I2 tp = I tp := ((cm.2.2 10 tp E.2.2.2 (by decide)).1).trans (eB tp E.tb)
  have ei : I2 im = I im := ((cm.2.2 2 im w2 (by decide)).1).trans (eB im b3)
  have e3 : I2 m 3 = I m 3 := by rw [cm.2.1 3 (by decide), eB m b1]
  have ekp : I1 kp = I kp := c.1 kp (fun q => by
    rcases OWN.ty g1 gg1 q with e | e | e | e | e
    · exact hnk e
    · omega
    · omega
    · omega
    · omega)
  have ek : ∀ a, SGCL R kp a → I2 a = I a := fun a ha => by
    obtain ⟨j, hj, q⟩ := ha.s3
    rw [eA a (ha.a E.s.2)]
    exact c.1 a (OWN.ns hU g1 gg1 gg2 (Ne.symm hnk) hj q)
  refine ⟨by rw [et]; exact h.2.1, ?_, ?_⟩
  · by_cases z : (I m 3).toInt = 0
    · obtain ⟨-, eI⟩ := q2.1 (by omega)
      rcases X with ⟨-, -, C⟩ | ⟨-, n, -⟩
      · exact h.2.2.1.fr (by rw [eA nw a2, eI]) (fun a ha => by rw [eA a (ha.a E.s.1), eI]) (fun r hr => by rw [C r (by omega), eI])
      · exact absurd z n
    · obtain ⟨zu, i6, -⟩ := q2.2 (by omega)
      rcases X with ⟨-, n, -⟩ | ⟨-, -, C⟩
      · exact absurd n z
      have s3 := r3.2.2.2.2.resolve_left z
      have q := (h.2.2.2.resolve_left z).cp (st := nw) s3.2 (q3 (by omega)) (i6 3 (by decide)) (W' := I2 w) (fun r hr => by rw [C r hr, eB im b3])
      exact q.fr (by rw [eA nw a2]) (fun a ha => eA a (ha.a E.s.1)) (fun _ _ => rfl)
  · rw [e3, ei]
    exact h.2.2.2.imp id (fun q => q.fr (by rw [eA kp a3, ekp]) ek (fun _ _ => rfl))
/-- the cells that telling signs changes -/
def sSG (R : RT) (x rd nw n a : Nat) : Prop := a = x ∨ a = rd ∨ a = rA R rd 0 ∨ a = rA R (rA R rd 0) 0 ∨ a = rA R (rA R rd 0) 1 ∨ a = nw ∨ a = SA R nw n ∨ a = rA R (SA R nw n) 0 ∨ a = rA R (SA R nw n) 1
theorem BC.eq {f g : Nat → Int32} {m n : Int} (hm : m = n) (h : ∀ k : Nat, (k : Int) < n → (f k).toInt = (g k).toInt % 256) : BCH f m = BCM g n := by
  subst hm
  exact funext fun k => by
    unfold BCH BCM
    by_cases q : (k : Int) < m
    · rw [if_pos q, if_pos q]; exact h k q
    · rw [if_neg q, if_neg q]
theorem LX.oq (E : LX T N R A B x nw kp rd al m w im o cb tp) : (T (rA R rd 0) = 8 ∧ R rd 0 = some (rA R rd 0) ∧ A (rA R rd 0)) ∧ (T (rA R (rA R rd 0) 0) = 20 ∧ R (rA R rd 0) 0 = some (rA R (rA R rd 0) 0) ∧ A (rA R (rA R rd 0) 0)) ∧ T (rA R (rA R rd 0) 1) = 20 ∧ R (rA R rd 0) 1 = some (rA R (rA R rd 0) 1) ∧ A (rA R (rA R rd 0) 1) := by
  obtain ⟨⟨hx, -, -, -, -, -, r0, -⟩, -⟩ := E
  obtain ⟨b, e, h⟩ := hx.2.2.1
  cases e.symm.trans r0
  obtain ⟨-, -, ⟨s, s1, s2, s3, ⟨c, c1, c2, -, c4⟩, ⟨d, d1, d2, -, d4⟩⟩, -⟩ := h
  rw [rA_e s1, rA_e c1, rA_e d1]
  exact ⟨⟨s2, s1, s3⟩, ⟨c2, c1, c4⟩, d2, d1, d4⟩
theorem sSG.sn (E : LX T N R A B x nw kp rd al m w im o cb tp) {n : Nat} (hn : n < 8) {a : Nat} (h : sSG R x rd nw n a) : sSN T R A nw a := by
  obtain ⟨⟨t1, t2, t3, t4⟩, ⟨a1, a2, a3, a4⟩, b1, b2, b3⟩ := E.1.t
  obtain ⟨⟨o1, o2, o3⟩, ⟨p1, p2, p3⟩, q1, q2, q3⟩ := E.oq
  have hU := E.2.1
  have ko : ¬ KEEP T R (rA R rd 0) := KEEP.s hU o1 o2 (by omega)
  rcases h with e | e | e | e | e | e | e | e | e
  · rw [e]; exact Or.inl ⟨⟨a1, KEEP.n (by omega) (by omega) (by omega)⟩, Or.inl (by omega)⟩
  · rw [e]; exact Or.inl ⟨⟨a4, KEEP.n (by omega) (by omega) (by omega)⟩, Or.inl (by omega)⟩
  · rw [e]; exact Or.inl ⟨⟨o3, ko⟩, Or.inl (by omega)⟩
  · rw [e]; exact Or.inl ⟨⟨p3, KEEP.a hU p1 p2 ko (by omega) (by omega)⟩, Or.inl (by omega)⟩
  · rw [e]; exact Or.inl ⟨⟨q3, KEEP.a hU q1 q2 ko (by omega) (by omega)⟩, Or.inl (by omega)⟩
  · rw [e]; exact Or.inl ⟨⟨a2, KEEP.n (by omega) (by omega) (by omega)⟩, Or.inr rfl⟩
  · exact Or.inr ⟨n, hn, Or.inl e⟩
  · exact Or.inr ⟨n, hn, Or.inr (Or.inl e)⟩
  · exact Or.inr ⟨n, hn, Or.inr (Or.inr e)⟩
theorem CB.mn {S' : Nat → Prop} (c : CB S T Wl I I1) (h : ∀ a, S a → S' a) : CB S' T Wl I I1 := ⟨fun a ha => c.1 a (fun q => ha (h a q)), c.2⟩
theorem sSG.no (E : LX T N R A B x nw kp rd al m w im o cb tp) {st n j a : Nat} (hst : st = nw ∨ st = kp) (hn : n < 8) (hj : j < 8) (hne : ¬ (st = nw ∧ j = n)) (h : SG3 R st j a) : ¬ sSG R x rd nw n a := by
  obtain ⟨⟨g1, gg1⟩, g2, gg2⟩ := E.g
  obtain ⟨⟨t1, t2, t3, t4⟩, -⟩ := E.1.t
  obtain ⟨⟨o1, o2, o3⟩, ⟨p1, p2, p3⟩, q1, q2, q3⟩ := E.oq
  have hU := E.2.1
  have gg : GG T R st := by rcases hst with e | e <;> (rw [e]; assumption)
  have ty := h.ty gg hj
  obtain ⟨s1, s2, ⟨s3, s4⟩, s5, s6⟩ := gg.2.2 j hj
  have ns : SA R st j ≠ rA R rd 0 := fun e => by
    have := (hU _ _ _ _ _ (Or.inr (Or.inl s2)) s1 (by rw [e]; exact o2)).1
    have t := gg.2.1
    rw [this] at t; omega
  intro q
  rcases q with e | e | e | e | e | e | e
  · rw [e] at ty; omega
  · rw [e] at ty; omega
  · rcases h with h | h | h
    · exact ns (h.symm.trans e)
    · rw [h.symm.trans e] at s4; omega
    · rw [h.symm.trans e] at s6; omega
  · rcases h with h | h | h
    · rw [h.symm.trans e] at s2; omega
    · exact ns (hU _ _ _ _ _ (t20 s4) s3 (by rw [h.symm.trans e]; exact p2)).1
    · exact ns (hU _ _ _ _ _ (t20 s6) s5 (by rw [h.symm.trans e]; exact p2)).1
  · rcases h with h | h | h
    · rw [h.symm.trans e] at s2; omega
    · exact ns (hU _ _ _ _ _ (t20 s4) s3 (by rw [h.symm.trans e]; exact q2)).1
    · exact ns (hU _ _ _ _ _ (t20 s6) s5 (by rw [h.symm.trans e]; exact q2)).1
  · rw [e] at ty; omega
  · exact hne (SG3.u hU gg gg1 hj hn h e)
theorem RZ.eq (h : RY R x nw kp rd cb m w im tp I) : RDA 200 (BCM (I tp) (I m 11).toInt) = RDA 160 (BCH (I cb) (I rd 1).toInt) := by
  rw [RDA.eq, BC.eq h.1 h.2.2.1]
theorem SG9.c {S : Nat → Prop} {Wl : List (Nat × Nat)} (E : LX T N R A B x nw kp rd al m w im o cb tp) (q9 : ∀ a, ¬ (a = x ∨ a = rd ∨ a = rA R rd 0 ∨ a = rA R (rA R rd 0) 0 ∨ a = rA R (rA R rd 0) 1) → I1 a = I a) (c : CB S T Wl I I1) : CB (sSN T R A nw) T Wl I I1 := by
  have sn : ∀ a, (a = x ∨ a = rd ∨ a = rA R rd 0 ∨ a = rA R (rA R rd 0) 0 ∨ a = rA R (rA R rd 0) 1) → sSN T R A nw a := fun a q => sSG.sn (n := 0) E (by decide) (by
    rcases q with e | e | e | e | e
    · exact Or.inl e
    · exact Or.inr (Or.inl e)
    · exact Or.inr (Or.inr (Or.inl e))
    · exact Or.inr (Or.inr (Or.inr (Or.inl e)))
    · exact Or.inr (Or.inr (Or.inr (Or.inr (Or.inl e)))))
  exact ⟨fun a ha => q9 a (fun q => ha (sn a q)), c.2⟩
theorem SG9.n (E : LX T N R A B x nw kp rd al m w im o cb tp) (hl : LI T R A m I) (h : RY9 R x nw kp rd cb m w im tp I) {Wl : List (Nat × Nat)} {u : Int} (q1 : (I nw 3).toInt < 8 ∧ u = (I nw 3).toInt) (c : CB (sSG R x rd nw (I nw 3).toNatClampNeg) T Wl I I1) : CB (sSN T R A nw) T Wl I I1 := by
  have hb := (RY.b E hl h.1).2.2.2.2.1
  have n0 := ncz hb.1
  exact c.mn (fun a q => sSG.sn E (by omega) q)
theorem RY9.tb1 (E : LX T N R A B x nw kp rd al m w im o cb tp) {S : Nat → Prop} {Wl : List (Nat × Nat)} (h : RY9 R x nw kp rd cb m w im tp I) (c : CB S T Wl I I1) (hS : ∀ a, S a → A a) : ∀ a10, R m 10 = some a10 → TBY (I1 a10) := fun a q => by
  have e : a = tp := Option.some.inj (q.symm.trans E.2.2.2)
  rw [e, c.1 tp (fun z => E.1.2.2.2.1 _ (hS _ z) E.tb)]; exact h.2.1
theorem RY9.sl (h : RY9 R x nw kp rd cb m w im tp I) : ∀ j : Nat, j < 8 → (j : Int) < (I nw 3).toInt → 0 ≤ (I (SA R nw j) 2).toInt ∧ (I (SA R nw j) 2).toInt ≤ 160 := fun j hj hk => ⟨(h.2.2.1.2 j hj hk).2.1, (h.2.2.1.2 j hj hk).2.2.1⟩
theorem RY9.bk3 (h : RY9 R x nw kp rd cb m w im tp I) : (I x 3).toInt ≠ 0 → (I kp 3).toInt ≤ 8 ∧ ∀ j : Nat, j < 8 → (j : Int) < (I kp 3).toInt → 0 ≤ (I (SA R kp j) 2).toInt ∧ (I (SA R kp j) 2).toInt ≤ 160 := fun z => by
  rw [h.1.2.1] at z
  exact ⟨(h.1.2.2.2.2.2.2.resolve_left z).2, fun j hj hk => ⟨((h.2.2.2.resolve_left z).2 j hj hk).2.1, ((h.2.2.2.resolve_left z).2 j hj hk).2.2.1⟩⟩
theorem OP9_signs {u v : Int32} {P0 P1 P2 P4 P5 P6 : Prop} (E : LX T N R A B x nw kp rd al m w im o cb tp) (hl : LI T R A m I) (hl1 : LI T R A m I1) (hl2 : LI T R A m I2) (h : RY9 R x nw kp rd cb m w im tp I) (c : CB (sSG R x rd nw (I nw 3).toNatClampNeg) T [(5, 1), (5, 3), (5, 4), (5, 5), (8, 2), (9, 3), (12, 4)] I I1) (q0 : (I1 rd 1).toInt = 0) (q1 : (I nw 3).toInt < 8 ∧ u.toInt = (I nw 3).toInt) (q2 : (I1 nw 3).toInt = (I nw 3).toInt + 1) (q3 : (RDA 160 (BCH (I cb) (I rd 1).toInt)) = some (STL R I1 (SA R nw (I nw 3).toNatClampNeg))) (q4 : 0 ≤ (I1 (SA R nw (I nw 3).toNatClampNeg) 2).toInt ∧ (I1 (SA R nw (I nw 3).toNatClampNeg) 2).toInt ≤ 160) (cm : CM B R m [0, 11, 12, 13, 14, 15, 16, 17, 19] [1] I1 L1 I2 L2) (_ : P0) (_ : P1) (_ : P2) (p3 : (I2 m 11).toInt = 0) (_ : P4) (_ : P5) (_ : P6) (p8 : ∀ a1 a10, R m 1 = some a1 → R m 10 = some a10 → SIG9 (I2 a1) (I1 a1) (I2 m 0).toInt v.toInt (RDA 200 (BCM (I1 a10) (I1 m 11).toInt))) : RY9 R x nw kp rd cb m w im tp I2 := by
  have p7 : ∀ a1, R m 1 = some a1 → ∀ r : Nat, r ≠ 3 ∧ (r < 198 ∨ 3406 ≤ r) ∧ r < 3606 → I2 a1 r = I1 a1 r := fun a1 h9 => (p8 a1 tp h9 E.2.2.2).fr
  obtain ⟨⟨g1, gg1⟩, g2, gg2⟩ := E.g
  obtain ⟨⟨t1, t2, t3, t4⟩, ⟨a1, a2, a3, a4⟩, b1, b2, b3⟩ := E.1.t
  have w1 := E.1.2.2.2.2.2.2.2.2.2.2.1
  have w2 := E.1.2.2.2.2.2.2.2.2.2.2.2
  have nAB := E.1.2.2.2.1
  have hnk := E.1.2.2.2.2.2.2.2.1
  have hb := (RY.b E hl h.1).2.2.2.2.1
  have n0 := ncz hb.1
  have n8 : (I nw 3).toNatClampNeg < 8 := by omega
  have c9 := c.mn (S' := sSN T R A nw) (fun a q => sSG.sn E n8 q)
  have eB : ∀ a, B a → I1 a = I a := fun a ha => c9.1 a (fun q => nAB a (sSN.a9 E q) ha)
  have eA : ∀ a, A a → I2 a = I1 a := fun a ha => (cm.1 a (nAB a ha)).1
  have S8 := p8 w tp w1 E.2.2.2
  rw [eB w b2, eB tp E.tb, eB m b1, RZ.eq h.1, q3] at S8
  have ec := h.2.2.1.1
  refine ⟨OP_signsx E hl hl1 hl2 h.1 c9 q0 (by omega) cm p3 p7, ?_⟩
  rcases S8 with ⟨-, z, -⟩ | ⟨-, -, z, -⟩ | ⟨z0, z1, z2, z3, z4, z5⟩
  · cases z
  · exfalso; omega
  have ew : (I w 3).toInt.toNat = (I nw 3).toNatClampNeg := by omega
  rw [ew] at z4 z5
  have en : ∀ st, (st = nw ∨ st = kp) → ∀ j a, j < 8 → ¬ (st = nw ∧ j = (I nw 3).toNatClampNeg) → SG3 R st j a → I1 a = I a := fun st hst j a hj hne q => c.1 a (sSG.no E hst n8 hj hne q)
  refine ⟨by rw [(cm.2.2 10 tp E.2.2.2 (by decide)).1, eB tp E.tb]; exact h.2.1, ⟨by rw [eA nw a2, q2, z3, ec], fun j hj hk => ?_⟩, ?_⟩
  · rw [eA nw a2, q2] at hk
    have fr2 : ∀ a, SG3 R nw j a → I2 a = I1 a := fun a q => eA a (SGCL.a E.s.1 ⟨j, hj, q⟩)
    rw [STL.fr rfl rfl (by rw [fr2 _ (Or.inl rfl)]) (fr2 _ (Or.inr (Or.inl rfl))) (fr2 _ (Or.inr (Or.inr rfl))), fr2 _ (Or.inl rfl)]
    by_cases y : j = (I nw 3).toNatClampNeg
    · subst y
      exact ⟨Option.some.inj z4, q4.1, q4.2, by rw [← Option.some.inj z4]; exact RDA.h1 q3⟩
    · have f : ∀ a, SG3 R nw j a → I1 a = I a := fun a q => en nw (Or.inl rfl) j a hj (fun z => y z.2) q
      obtain ⟨h1, h2, h3, h4⟩ := h.2.2.1.2 j hj (by omega)
      have le : (WSL (I w) j).length ≤ 160 := by rw [← h1, STL.len]; omega
      rw [STL.fr rfl rfl (by rw [f _ (Or.inl rfl)]) (f _ (Or.inr (Or.inl rfl))) (f _ (Or.inr (Or.inr rfl))), f _ (Or.inl rfl), h1, WSL.eq le (fun r r1 r2 => z5 r (by omega) (Or.inl (by omega)) (by omega))]
      exact ⟨rfl, h2, h3, h4⟩
  · rw [cm.2.1 3 (by decide), eB m b1, (cm.2.2 2 im w2 (by decide)).1, eB im b3]
    have nk : ¬ sSG R x rd nw (I nw 3).toNatClampNeg kp := fun q => by
      have := sSG.sn E n8 q
      rcases this with z | z
      · exact z.2.elim (fun e => e t3) hnk
      · obtain ⟨j, hj, z⟩ := z
        have ty := SG3.ty gg1 hj z
        omega
    exact h.2.2.2.imp id (fun q => q.fr (by rw [eA kp a3, c.1 kp nk]) (fun a ha => by
      obtain ⟨j, hj, z⟩ := ha.s3
      rw [eA a (ha.a E.s.2)]
      exact en kp (Or.inr rfl) j a hj (fun y => hnk y.1) z) (fun _ _ => rfl))
theorem OP9_signs_0 {v : Int32} {P0 P1 P2 P4 P5 P6 : Prop} (E : LX T N R A B x nw kp rd al m w im o cb tp) (hl : LI T R A m I) (hl1 : LI T R A m I1) (hl2 : LI T R A m I2) (h : RY9 R x nw kp rd cb m w im tp I) (c : CB (sSG R x rd nw (I nw 3).toNatClampNeg) T [(5, 1), (5, 3), (5, 4), (5, 5), (8, 2), (9, 3), (12, 4)] I I1) (q0 : (I1 rd 1).toInt = 0) (q1 : (RDA 160 (BCH (I cb) (I rd 1).toInt)) = none) (q9 : ∀ a, ¬ (a = x ∨ a = rd ∨ a = rA R rd 0 ∨ a = rA R (rA R rd 0) 0 ∨ a = rA R (rA R rd 0) 1) → I1 a = I a) (cm : CM B R m [0, 11, 12, 13, 14, 15, 16, 17, 19] [1] I1 L1 I2 L2) (_ : P0) (_ : P1) (_ : P2) (p3 : (I2 m 11).toInt = 0) (_ : P4) (_ : P5) (_ : P6) (p8 : ∀ a1 a10, R m 1 = some a1 → R m 10 = some a10 → SIG9 (I2 a1) (I1 a1) (I2 m 0).toInt v.toInt (RDA 200 (BCM (I1 a10) (I1 m 11).toInt))) : RY9 R x nw kp rd cb m w im tp I2 := by
  have p7 : ∀ a1, R m 1 = some a1 → ∀ r : Nat, r ≠ 3 ∧ (r < 198 ∨ 3406 ≤ r) ∧ r < 3606 → I2 a1 r = I1 a1 r := fun a1 h9 => (p8 a1 tp h9 E.2.2.2).fr
  obtain ⟨⟨g1, gg1⟩, g2, gg2⟩ := E.g
  obtain ⟨⟨t1, t2, t3, t4⟩, ⟨a1, a2, a3, a4⟩, b1, b2, b3⟩ := E.1.t
  have w1 := E.1.2.2.2.2.2.2.2.2.2.2.1
  have w2 := E.1.2.2.2.2.2.2.2.2.2.2.2
  have nAB := E.1.2.2.2.1
  have hnk := E.1.2.2.2.2.2.2.2.1
  have hb := (RY.b E hl h.1).2.2.2.2.1
  have c9 : CB (sSN T R A nw) T [(5, 1), (5, 3), (5, 4), (5, 5), (8, 2), (9, 3), (12, 4)] I I1 := SG9.c E q9 c
  have eB : ∀ a, B a → I1 a = I a := fun a ha => c9.1 a (fun q => nAB a (sSN.a9 E q) ha)
  have enw : I1 nw = I nw := q9 nw (fun q => by
    rcases q with e | e | e | e | e
    · rw [e] at t2; omega
    · rw [e] at t2; omega
    · have := E.oq.1.1; rw [← e] at this; omega
    · have := E.oq.2.1.1; rw [← e] at this; omega
    · have := E.oq.2.2.1; rw [← e] at this; omega)
  have ekp : I1 kp = I kp := q9 kp (fun q => by
    rcases q with e | e | e | e | e
    · rw [e] at t3; omega
    · rw [e] at t3; omega
    · have := E.oq.1.1; rw [← e] at this; omega
    · have := E.oq.2.1.1; rw [← e] at this; omega
    · have := E.oq.2.2.1; rw [← e] at this; omega)
  have es : ∀ st, (st = nw ∨ st = kp) → ∀ a, SGCL R st a → I1 a = I a := fun st hst a ha => by
    obtain ⟨j, hj, q⟩ := ha.s3
    refine q9 a (fun z => ?_)
    by_cases y : st = nw ∧ j = 0
    · refine sSG.no (n := 1) E hst (by decide) hj (fun u => by have := u.2; have := y.2; omega) q ?_
      rcases z with e | e | e | e | e
      · exact Or.inl e
      · exact Or.inr (Or.inl e)
      · exact Or.inr (Or.inr (Or.inl e))
      · exact Or.inr (Or.inr (Or.inr (Or.inl e)))
      · exact Or.inr (Or.inr (Or.inr (Or.inr (Or.inl e))))
    · refine sSG.no (n := 0) E hst (by decide) hj y q ?_
      rcases z with e | e | e | e | e
      · exact Or.inl e
      · exact Or.inr (Or.inl e)
      · exact Or.inr (Or.inr (Or.inl e))
      · exact Or.inr (Or.inr (Or.inr (Or.inl e)))
      · exact Or.inr (Or.inr (Or.inr (Or.inr (Or.inl e))))
  have S8 := p8 w tp w1 E.2.2.2
  rw [eB w b2, eB tp E.tb, eB m b1, RZ.eq h.1] at S8
  have ec := h.2.2.1.1
  have C : ∀ r, r < 3606 → I2 w r = I w r := by
    rcases S8 with ⟨-, -, C⟩ | ⟨-, -, -, C⟩ | ⟨-, z1, -, -, z4, -⟩
    · exact C
    · exact C
    · exfalso; rw [q1] at z4; cases z4
  refine ⟨OP_signsx E hl hl1 hl2 h.1 c9 q0 (by rw [enw]; exact hb) cm p3 p7, ?_⟩
  have s1 : SGS R nw kp m w im tp I1 := h.2.e (fun st hst => ⟨by rcases hst with e | e <;> (rw [e]; first | rw [enw] | rw [ekp]), es st hst⟩) (by rw [eB m b1]) (eB w b2) (eB im b3) (eB tp E.tb)
  exact s1.rw E cm (by decide) (by decide) (by decide) (fun r hr => by rw [C r (by omega), eB w b2])
theorem OP9_signs_2 {v : Int32} {P0 P1 P2 P4 P5 P6 : Prop} (E : LX T N R A B x nw kp rd al m w im o cb tp) (hl : LI T R A m I) (hl1 : LI T R A m I1) (hl2 : LI T R A m I2) (h : RY9 R x nw kp rd cb m w im tp I) (c : CB (sSG R x rd nw (I nw 3).toNatClampNeg) T [(5, 1), (5, 3), (5, 4), (5, 5), (8, 2), (9, 3), (12, 4)] I I1) (q0 : (I1 rd 1).toInt = 0) (q1 : 8 ≤ (I nw 3).toInt) (q2 : (RDA 160 (BCH (I cb) (I rd 1).toInt)) ≠ none) (q9 : ∀ a, ¬ (a = x ∨ a = rd ∨ a = rA R rd 0 ∨ a = rA R (rA R rd 0) 0 ∨ a = rA R (rA R rd 0) 1) → I1 a = I a) (cm : CM B R m [0, 11, 12, 13, 14, 15, 16, 17, 19] [1] I1 L1 I2 L2) (_ : P0) (_ : P1) (_ : P2) (p3 : (I2 m 11).toInt = 0) (_ : P4) (_ : P5) (_ : P6) (p8 : ∀ a1 a10, R m 1 = some a1 → R m 10 = some a10 → SIG9 (I2 a1) (I1 a1) (I2 m 0).toInt v.toInt (RDA 200 (BCM (I1 a10) (I1 m 11).toInt))) : RY9 R x nw kp rd cb m w im tp I2 := by
  have p7 : ∀ a1, R m 1 = some a1 → ∀ r : Nat, r ≠ 3 ∧ (r < 198 ∨ 3406 ≤ r) ∧ r < 3606 → I2 a1 r = I1 a1 r := fun a1 h9 => (p8 a1 tp h9 E.2.2.2).fr
  obtain ⟨⟨g1, gg1⟩, g2, gg2⟩ := E.g
  obtain ⟨⟨t1, t2, t3, t4⟩, ⟨a1, a2, a3, a4⟩, b1, b2, b3⟩ := E.1.t
  have w1 := E.1.2.2.2.2.2.2.2.2.2.2.1
  have w2 := E.1.2.2.2.2.2.2.2.2.2.2.2
  have nAB := E.1.2.2.2.1
  have hnk := E.1.2.2.2.2.2.2.2.1
  have hb := (RY.b E hl h.1).2.2.2.2.1
  have c9 : CB (sSN T R A nw) T [(5, 1), (5, 3), (5, 4), (5, 5), (8, 2), (9, 3), (12, 4)] I I1 := SG9.c E q9 c
  have eB : ∀ a, B a → I1 a = I a := fun a ha => c9.1 a (fun q => nAB a (sSN.a9 E q) ha)
  have enw : I1 nw = I nw := q9 nw (fun q => by
    rcases q with e | e | e | e | e
    · rw [e] at t2; omega
    · rw [e] at t2; omega
    · have := E.oq.1.1; rw [← e] at this; omega
    · have := E.oq.2.1.1; rw [← e] at this; omega
    · have := E.oq.2.2.1; rw [← e] at this; omega)
  have ekp : I1 kp = I kp := q9 kp (fun q => by
    rcases q with e | e | e | e | e
    · rw [e] at t3; omega
    · rw [e] at t3; omega
    · have := E.oq.1.1; rw [← e] at this; omega
    · have := E.oq.2.1.1; rw [← e] at this; omega
    · have := E.oq.2.2.1; rw [← e] at this; omega)
  have es : ∀ st, (st = nw ∨ st = kp) → ∀ a, SGCL R st a → I1 a = I a := fun st hst a ha => by
    obtain ⟨j, hj, q⟩ := ha.s3
    refine q9 a (fun z => ?_)
    by_cases y : st = nw ∧ j = 0
    · refine sSG.no (n := 1) E hst (by decide) hj (fun u => by have := u.2; have := y.2; omega) q ?_
      rcases z with e | e | e | e | e
      · exact Or.inl e
      · exact Or.inr (Or.inl e)
      · exact Or.inr (Or.inr (Or.inl e))
      · exact Or.inr (Or.inr (Or.inr (Or.inl e)))
      · exact Or.inr (Or.inr (Or.inr (Or.inr (Or.inl e))))
    · refine sSG.no (n := 0) E hst (by decide) hj y q ?_
      rcases z with e | e | e | e | e
      · exact Or.inl e
      · exact Or.inr (Or.inl e)
      · exact Or.inr (Or.inr (Or.inl e))
      · exact Or.inr (Or.inr (Or.inr (Or.inl e)))
      · exact Or.inr (Or.inr (Or.inr (Or.inr (Or.inl e))))
  have S8 := p8 w tp w1 E.2.2.2
  rw [eB w b2, eB tp E.tb, eB m b1, RZ.eq h.1] at S8
  have ec := h.2.2.1.1
  have C : ∀ r, r < 3606 → I2 w r = I w r := by
    rcases S8 with ⟨-, -, C⟩ | ⟨-, -, -, C⟩ | ⟨-, z1, -, -, z4, -⟩
    · exact C
    · exact C
    · exfalso; omega
  refine ⟨OP_signsx E hl hl1 hl2 h.1 c9 q0 (by rw [enw]; exact hb) cm p3 p7, ?_⟩
  have s1 : SGS R nw kp m w im tp I1 := h.2.e (fun st hst => ⟨by rcases hst with e | e <;> (rw [e]; first | rw [enw] | rw [ekp]), es st hst⟩) (by rw [eB m b1]) (eB w b2) (eB im b3) (eB tp E.tb)
  exact s1.rw E cm (by decide) (by decide) (by decide) (fun r hr => by rw [C r (by omega), eB w b2])
theorem CMP_signs {u v : Int32} {P0 P1 P2 P4 P5 P6 : Prop} (E : LX T N R A B x nw kp rd al m w im o cb tp) (hl : LI T R A m I) (hl1 : LI T R A m I1) (hl2 : LI T R A m I2) (h : RY9 R x nw kp rd cb m w im tp I) (c : CB (sSG R x rd nw (I nw 3).toNatClampNeg) T [(5, 1), (5, 3), (5, 4), (5, 5), (8, 2), (9, 3), (12, 4)] I I1) (q0 : (I1 rd 1).toInt = 0) (q1 : (I nw 3).toInt < 8 ∧ u.toInt = (I nw 3).toInt) (q2 : (I1 nw 3).toInt = (I nw 3).toInt + 1) (q3 : (RDA 160 (BCH (I cb) (I rd 1).toInt)) = some (STL R I1 (SA R nw (I nw 3).toNatClampNeg))) (q4 : 0 ≤ (I1 (SA R nw (I nw 3).toNatClampNeg) 2).toInt ∧ (I1 (SA R nw (I nw 3).toNatClampNeg) 2).toInt ≤ 160) (cm : CM B R m [0, 11, 12, 13, 14, 15, 16, 17, 19] [1] I1 L1 I2 L2) (_ : P0) (_ : P1) (_ : P2) (p3 : (I2 m 11).toInt = 0) (_ : P4) (_ : P5) (_ : P6) (p8 : ∀ a1 a10, R m 1 = some a1 → R m 10 = some a10 → SIG9 (I2 a1) (I1 a1) (I2 m 0).toInt v.toInt (RDA 200 (BCM (I1 a10) (I1 m 11).toInt))) : (I2 m 0).toInt = 0 ∧ v.toInt = u.toInt := by
  have c9 := SG9.n E hl h q1 c
  obtain ⟨⟨t1, t2, t3, t4⟩, ⟨a1, a2, a3, a4⟩, b1, b2, b3⟩ := E.1.t
  have w1 := E.1.2.2.2.2.2.2.2.2.2.2.1
  have nAB := E.1.2.2.2.1
  have eB : ∀ a, B a → I1 a = I a := fun a ha => c9.1 a (fun q => nAB a (sSN.a9 E q) ha)
  have S8 := p8 w tp w1 E.2.2.2
  have ec := h.2.2.1.1
  rw [eB w b2, eB tp E.tb, eB m b1, RZ.eq h.1, q3] at S8
  rcases S8 with ⟨-, z, -⟩ | ⟨-, -, z, -⟩ | ⟨z0, z1, z2, -⟩
  · cases z
  · exfalso; omega
  · exact ⟨z0, by omega⟩
theorem CMP_signs_0 {v : Int32} {P0 P1 P2 P4 P5 P6 : Prop} (E : LX T N R A B x nw kp rd al m w im o cb tp) (hl : LI T R A m I) (hl1 : LI T R A m I1) (hl2 : LI T R A m I2) (h : RY9 R x nw kp rd cb m w im tp I) (c : CB (sSG R x rd nw (I nw 3).toNatClampNeg) T [(5, 1), (5, 3), (5, 4), (5, 5), (8, 2), (9, 3), (12, 4)] I I1) (q0 : (I1 rd 1).toInt = 0) (q1 : (RDA 160 (BCH (I cb) (I rd 1).toInt)) = none) (q9 : ∀ a, ¬ (a = x ∨ a = rd ∨ a = rA R rd 0 ∨ a = rA R (rA R rd 0) 0 ∨ a = rA R (rA R rd 0) 1) → I1 a = I a) (cm : CM B R m [0, 11, 12, 13, 14, 15, 16, 17, 19] [1] I1 L1 I2 L2) (_ : P0) (_ : P1) (_ : P2) (p3 : (I2 m 11).toInt = 0) (_ : P4) (_ : P5) (_ : P6) (p8 : ∀ a1 a10, R m 1 = some a1 → R m 10 = some a10 → SIG9 (I2 a1) (I1 a1) (I2 m 0).toInt v.toInt (RDA 200 (BCM (I1 a10) (I1 m 11).toInt))) : (I2 m 0).toInt = 1 := by
  have c9 := SG9.c E q9 c
  obtain ⟨⟨t1, t2, t3, t4⟩, ⟨a1, a2, a3, a4⟩, b1, b2, b3⟩ := E.1.t
  have w1 := E.1.2.2.2.2.2.2.2.2.2.2.1
  have nAB := E.1.2.2.2.1
  have eB : ∀ a, B a → I1 a = I a := fun a ha => c9.1 a (fun q => nAB a (sSN.a9 E q) ha)
  have S8 := p8 w tp w1 E.2.2.2
  have ec := h.2.2.1.1
  rw [eB w b2, eB tp E.tb, eB m b1, RZ.eq h.1, q1] at S8
  rcases S8 with ⟨z, -, -⟩ | ⟨-, z, -⟩ | ⟨-, -, -, -, z, -⟩
  · exact z
  · exact absurd rfl z
  · cases z
theorem CMP_signs_2 {v : Int32} {P0 P1 P2 P4 P5 P6 : Prop} (E : LX T N R A B x nw kp rd al m w im o cb tp) (hl : LI T R A m I) (hl1 : LI T R A m I1) (hl2 : LI T R A m I2) (h : RY9 R x nw kp rd cb m w im tp I) (c : CB (sSG R x rd nw (I nw 3).toNatClampNeg) T [(5, 1), (5, 3), (5, 4), (5, 5), (8, 2), (9, 3), (12, 4)] I I1) (q0 : (I1 rd 1).toInt = 0) (q1 : 8 ≤ (I nw 3).toInt) (q2 : (RDA 160 (BCH (I cb) (I rd 1).toInt)) ≠ none) (q9 : ∀ a, ¬ (a = x ∨ a = rd ∨ a = rA R rd 0 ∨ a = rA R (rA R rd 0) 0 ∨ a = rA R (rA R rd 0) 1) → I1 a = I a) (cm : CM B R m [0, 11, 12, 13, 14, 15, 16, 17, 19] [1] I1 L1 I2 L2) (_ : P0) (_ : P1) (_ : P2) (p3 : (I2 m 11).toInt = 0) (_ : P4) (_ : P5) (_ : P6) (p8 : ∀ a1 a10, R m 1 = some a1 → R m 10 = some a10 → SIG9 (I2 a1) (I1 a1) (I2 m 0).toInt v.toInt (RDA 200 (BCM (I1 a10) (I1 m 11).toInt))) : (I2 m 0).toInt = 2 := by
  have c9 := SG9.c E q9 c
  obtain ⟨⟨t1, t2, t3, t4⟩, ⟨a1, a2, a3, a4⟩, b1, b2, b3⟩ := E.1.t
  have w1 := E.1.2.2.2.2.2.2.2.2.2.2.1
  have nAB := E.1.2.2.2.1
  have eB : ∀ a, B a → I1 a = I a := fun a ha => c9.1 a (fun q => nAB a (sSN.a9 E q) ha)
  have S8 := p8 w tp w1 E.2.2.2
  have ec := h.2.2.1.1
  rw [eB w b2, eB tp E.tb, eB m b1, RZ.eq h.1] at S8
  rcases S8 with ⟨-, z, -⟩ | ⟨z, -⟩ | ⟨-, z, -⟩
  · exact absurd z q2
  · exact z
  · exfalso; omega
end Ops9

def gMd9 (M0 M1 : Mm) (x : Nat) : Prop := mT M1 x = 13 ∧ mI M1 x 0 = 0 ∧ mI M1 x 3 = 0 ∧ mI M1 x 11 = 0 ∧ mI M1 x 17 = -1 ∧ mI M1 x 35 = 0 ∧ mI M1 x 36 = 0 ∧ mI M1 x 37 = 0 ∧ (∀ j, j ≠ 17 → mI M1 x j = 0) ∧ (∀ j, j ∉ RFS → mR M1 x j = none) ∧ ∃ w im dg nu tp fv rk wy rs dn vd pw sp fc wl : Nat, mI M1 w 0 = 11 ∧ (∀ j, 1 ≤ j → mI M1 w j = 0) ∧ w ≠ dn ∧ dg ≠ rk ∧ sp ≠ fc ∧ mR M1 x 1 = some w ∧ gArr M1 w 20 4007 ∧ mT M0 w = 0 ∧ mR M1 x 2 = some im ∧ gArr M1 im 20 3606 ∧ mT M0 im = 0 ∧ mR M1 x 4 = some dg ∧ gArrZ M1 dg 20 48 ∧ mT M0 dg = 0 ∧ mR M1 x 5 = some nu ∧ gArrZ M1 nu 20 1968 ∧ mT M0 nu = 0 ∧ mR M1 x 10 = some tp ∧ gArrZ M1 tp 22 400 ∧ mT M0 tp = 0 ∧ mR M1 x 18 = some fv ∧ gArr M1 fv 20 5 ∧ mT M0 fv = 0 ∧ mR M1 x 20 = some rk ∧ gArr M1 rk 20 48 ∧ mT M0 rk = 0 ∧ mR M1 x 21 = some wy ∧ gArr M1 wy 21 1261 ∧ mT M0 wy = 0 ∧ mR M1 x 22 = some rs ∧ gArrZ M1 rs 20 3936 ∧ mT M0 rs = 0 ∧ mR M1 x 23 = some dn ∧ gArrZ M1 dn 20 108 ∧ mT M0 dn = 0 ∧ mR M1 x 25 = some vd ∧ gArr M1 vd 20 361 ∧ mT M0 vd = 0 ∧ mR M1 x 26 = some pw ∧ gArrZ M1 pw 20 180 ∧ mT M0 pw = 0 ∧ mR M1 x 27 = some sp ∧ gArrZ M1 sp 20 3 ∧ mT M0 sp = 0 ∧ mR M1 x 28 = some fc ∧ gArrZ M1 fc 20 3 ∧ mT M0 fc = 0 ∧ mR M1 x 34 = some wl ∧ gArr M1 wl 21 4 ∧ mT M0 wl = 0
set_option maxHeartbeats 1000000 in
theorem i_X129 {d : Nat} {M : Mm} {x : Nat} (hT : mT M x = 13) (h0 : ∀ j, mI M x j = 0) (hR : ∀ j, mR M x j = none) : Ex (d + 1) 180 [.ref x] M 15 15938 (pC fun M1 => Ko M M1 ∧ Ex1 x M M1 ∧ gMd9 M M1 x) := by
  refine ⟨_, rfl, Nat.le_of_ble_eq_true rfl, fun V C S => ?_⟩
  show V 0 [(0, .ref x)] [] M 0 0
  have hX : Ex1 x M M := Ex1.rf
  have hK : Ko M M := Ko.rf
  have iO : ∀ j, j ≠ 17 → mI M x j = 0 := fun j _ => h0 j
  have rO : ∀ j, j ∉ ([] : List Nat) → mR M x j = none := fun j _ => hR j
  have i0 : mI M x 0 = 0 := h0 0
  have i3 : mI M x 3 = 0 := h0 3
  have i11 : mI M x 11 = 0 := h0 11
  have i17 : mI M x 17 = 0 := h0 17
  have i35 : mI M x 35 = 0 := h0 35
  have i36 : mI M x 36 = 0 := h0 36
  have i37 : mI M x 37 = 0 := h0 37
  refine k_aload_n C rfl rfl rfl ?_
  refine i_obj C rfl rfl rfl (Nat.le_of_ble_eq_true rfl) ?_
  refine k_aload_n C rfl rfl rfl ?_
  refine k_sipush C (x := 4007) rfl rfl rfl ?_
  refine iu_arr C (tt := 0) (n := 4007) rfl rfl rfl (Or.inl ⟨rfl, rfl⟩) (by decide) (by decide) (Nat.le_of_ble_eq_true rfl) rfl rfl (Nat.le_of_ble_eq_true rfl) (Nat.le_of_ble_eq_true rfl) rfl hT ⟨rfl, rfl⟩ rfl (fun b1 M1 s sK => ?_)
  have n1 := hX.fresh (by rw [hT]; decide) s.2.2.2.2.2.2.2.2.2
  have hx9 := s.1.st hT
  have hX := hX.tr s.1
  have hK := hK.tr sK
  have i0 := (congrFun s.2.2.1 0).trans i0
  have iO : ∀ j, j ≠ 17 → mI M1 x j = 0 := fun j hj => (congrFun s.2.2.1 j).trans (iO j hj)
  have i3 := (congrFun s.2.2.1 3).trans i3
  have i11 := (congrFun s.2.2.1 11).trans i11
  have i17 := (congrFun s.2.2.1 17).trans i17
  have i35 := (congrFun s.2.2.1 35).trans i35
  have i36 := (congrFun s.2.2.1 36).trans i36
  have i37 := (congrFun s.2.2.1 37).trans i37
  have r1 := s.2.2.2.2.2.1
  have rO : ∀ j, j ∉ ([1] : List Nat) → mR M1 x j = none := fun j hj => (s.2.2.2.2.1 j (fun e => hj (by rw [e]; exact List.mem_cons_self))).trans (rO j (fun h => hj (List.mem_cons_of_mem _ h)))
  have p1 : gArrZ _ b1 20 4007 := ⟨s.2.2.2.2.2.2.1, s.2.2.2.2.2.2.2.1⟩
  have hT := s.2.1.trans hT
  refine k_aload_n C rfl rfl rfl ?_
  refine k_sipush C (x := 3606) rfl rfl rfl ?_
  refine iu_arr C (tt := 0) (n := 3606) rfl rfl rfl (Or.inl ⟨rfl, rfl⟩) (by decide) (by decide) (Nat.le_of_ble_eq_true rfl) rfl rfl (Nat.le_of_ble_eq_true rfl) (Nat.le_of_ble_eq_true rfl) rfl hT ⟨rfl, rfl⟩ rfl (fun b2 M1 s sK => ?_)
  have n2 := hX.fresh (by rw [hT]; decide) s.2.2.2.2.2.2.2.2.2
  have hx9 := s.1.st hT
  have p1 := p1.st hx9 (by decide) (by decide)
  have hX := hX.tr s.1
  have hK := hK.tr sK
  have r1 := (s.2.2.2.2.1 1 (by decide)).trans r1
  have i0 := (congrFun s.2.2.1 0).trans i0
  have iO : ∀ j, j ≠ 17 → mI M1 x j = 0 := fun j hj => (congrFun s.2.2.1 j).trans (iO j hj)
  have i3 := (congrFun s.2.2.1 3).trans i3
  have i11 := (congrFun s.2.2.1 11).trans i11
  have i17 := (congrFun s.2.2.1 17).trans i17
  have i35 := (congrFun s.2.2.1 35).trans i35
  have i36 := (congrFun s.2.2.1 36).trans i36
  have i37 := (congrFun s.2.2.1 37).trans i37
  have r2 := s.2.2.2.2.2.1
  have rO : ∀ j, j ∉ ([2, 1] : List Nat) → mR M1 x j = none := fun j hj => (s.2.2.2.2.1 j (fun e => hj (by rw [e]; exact List.mem_cons_self))).trans (rO j (fun h => hj (List.mem_cons_of_mem _ h)))
  have p2 := s.2.2.2.2.2.2.1
  have hT := s.2.1.trans hT
  refine k_aload_n C rfl rfl rfl ?_
  refine k_bipush C (x := 48) rfl rfl rfl ?_
  refine iu_arr C (tt := 0) (n := 48) rfl rfl rfl (Or.inl ⟨rfl, rfl⟩) (by decide) (by decide) (Nat.le_of_ble_eq_true rfl) rfl rfl (Nat.le_of_ble_eq_true rfl) (Nat.le_of_ble_eq_true rfl) rfl hT ⟨rfl, rfl⟩ rfl (fun b4 M1 s sK => ?_)
  have n4 := hX.fresh (by rw [hT]; decide) s.2.2.2.2.2.2.2.2.2
  have hx9 := s.1.st hT
  have p1 := p1.st hx9 (by decide) (by decide)
  have p2 := p2.st hx9 (by decide) (by decide)
  have hX := hX.tr s.1
  have hK := hK.tr sK
  have r1 := (s.2.2.2.2.1 1 (by decide)).trans r1
  have r2 := (s.2.2.2.2.1 2 (by decide)).trans r2
  have i0 := (congrFun s.2.2.1 0).trans i0
  have iO : ∀ j, j ≠ 17 → mI M1 x j = 0 := fun j hj => (congrFun s.2.2.1 j).trans (iO j hj)
  have i3 := (congrFun s.2.2.1 3).trans i3
  have i11 := (congrFun s.2.2.1 11).trans i11
  have i17 := (congrFun s.2.2.1 17).trans i17
  have i35 := (congrFun s.2.2.1 35).trans i35
  have i36 := (congrFun s.2.2.1 36).trans i36
  have i37 := (congrFun s.2.2.1 37).trans i37
  have r4 := s.2.2.2.2.2.1
  have rO : ∀ j, j ∉ ([4, 2, 1] : List Nat) → mR M1 x j = none := fun j hj => (s.2.2.2.2.1 j (fun e => hj (by rw [e]; exact List.mem_cons_self))).trans (rO j (fun h => hj (List.mem_cons_of_mem _ h)))
  have p4 : gArrZ _ b4 20 48 := ⟨s.2.2.2.2.2.2.1, s.2.2.2.2.2.2.2.1⟩
  have hT := s.2.1.trans hT
  refine k_aload_n C rfl rfl rfl ?_
  refine k_sipush C (x := 1968) rfl rfl rfl ?_
  refine iu_arr C (tt := 0) (n := 1968) rfl rfl rfl (Or.inl ⟨rfl, rfl⟩) (by decide) (by decide) (Nat.le_of_ble_eq_true rfl) rfl rfl (Nat.le_of_ble_eq_true rfl) (Nat.le_of_ble_eq_true rfl) rfl hT ⟨rfl, rfl⟩ rfl (fun b5 M1 s sK => ?_)
  have n5 := hX.fresh (by rw [hT]; decide) s.2.2.2.2.2.2.2.2.2
  have hx9 := s.1.st hT
  have p1 := p1.st hx9 (by decide) (by decide)
  have p2 := p2.st hx9 (by decide) (by decide)
  have p4 := p4.st hx9 (by decide) (by decide)
  have hX := hX.tr s.1
  have hK := hK.tr sK
  have r1 := (s.2.2.2.2.1 1 (by decide)).trans r1
  have r2 := (s.2.2.2.2.1 2 (by decide)).trans r2
  have r4 := (s.2.2.2.2.1 4 (by decide)).trans r4
  have i0 := (congrFun s.2.2.1 0).trans i0
  have iO : ∀ j, j ≠ 17 → mI M1 x j = 0 := fun j hj => (congrFun s.2.2.1 j).trans (iO j hj)
  have i3 := (congrFun s.2.2.1 3).trans i3
  have i11 := (congrFun s.2.2.1 11).trans i11
  have i17 := (congrFun s.2.2.1 17).trans i17
  have i35 := (congrFun s.2.2.1 35).trans i35
  have i36 := (congrFun s.2.2.1 36).trans i36
  have i37 := (congrFun s.2.2.1 37).trans i37
  have r5 := s.2.2.2.2.2.1
  have rO : ∀ j, j ∉ ([5, 4, 2, 1] : List Nat) → mR M1 x j = none := fun j hj => (s.2.2.2.2.1 j (fun e => hj (by rw [e]; exact List.mem_cons_self))).trans (rO j (fun h => hj (List.mem_cons_of_mem _ h)))
  have p5 : gArrZ _ b5 20 1968 := ⟨s.2.2.2.2.2.2.1, s.2.2.2.2.2.2.2.1⟩
  have hT := s.2.1.trans hT
  refine k_aload_n C rfl rfl rfl ?_
  refine k_sipush C (x := 400) rfl rfl rfl ?_
  refine iu_arr C (tt := 2) (n := 400) rfl rfl rfl (Or.inr (Or.inr ⟨rfl, rfl⟩)) (by decide) (by decide) (Nat.le_of_ble_eq_true rfl) rfl rfl (Nat.le_of_ble_eq_true rfl) (Nat.le_of_ble_eq_true rfl) rfl hT ⟨rfl, rfl⟩ rfl (fun b10 M1 s sK => ?_)
  have n10 := hX.fresh (by rw [hT]; decide) s.2.2.2.2.2.2.2.2.2
  have hx9 := s.1.st hT
  have p1 := p1.st hx9 (by decide) (by decide)
  have p2 := p2.st hx9 (by decide) (by decide)
  have p4 := p4.st hx9 (by decide) (by decide)
  have p5 := p5.st hx9 (by decide) (by decide)
  have hX := hX.tr s.1
  have hK := hK.tr sK
  have r1 := (s.2.2.2.2.1 1 (by decide)).trans r1
  have r2 := (s.2.2.2.2.1 2 (by decide)).trans r2
  have r4 := (s.2.2.2.2.1 4 (by decide)).trans r4
  have r5 := (s.2.2.2.2.1 5 (by decide)).trans r5
  have i0 := (congrFun s.2.2.1 0).trans i0
  have iO : ∀ j, j ≠ 17 → mI M1 x j = 0 := fun j hj => (congrFun s.2.2.1 j).trans (iO j hj)
  have i3 := (congrFun s.2.2.1 3).trans i3
  have i11 := (congrFun s.2.2.1 11).trans i11
  have i17 := (congrFun s.2.2.1 17).trans i17
  have i35 := (congrFun s.2.2.1 35).trans i35
  have i36 := (congrFun s.2.2.1 36).trans i36
  have i37 := (congrFun s.2.2.1 37).trans i37
  have r10 := s.2.2.2.2.2.1
  have rO : ∀ j, j ∉ ([10, 5, 4, 2, 1] : List Nat) → mR M1 x j = none := fun j hj => (s.2.2.2.2.1 j (fun e => hj (by rw [e]; exact List.mem_cons_self))).trans (rO j (fun h => hj (List.mem_cons_of_mem _ h)))
  have p10 : gArrZ _ b10 22 400 := ⟨s.2.2.2.2.2.2.1, s.2.2.2.2.2.2.2.1⟩
  have hT := s.2.1.trans hT
  refine k_aload_n C rfl rfl rfl ?_
  refine k_iconst C (x := -1) rfl rfl rfl ?_
  refine iu_putI C rfl rfl rfl hT (Or.inr rfl) rfl (fun M1 s sK => ?_)
  have hx9 := s.1.st hT
  have p1 := p1.st hx9 (by decide) (by decide)
  have p2 := p2.st hx9 (by decide) (by decide)
  have p4 := p4.st hx9 (by decide) (by decide)
  have p5 := p5.st hx9 (by decide) (by decide)
  have p10 := p10.st hx9 (by decide) (by decide)
  have hX := hX.tr s.1
  have hK := hK.tr sK
  have r1 := (congrFun s.2.2.1 1).trans r1
  have rO : ∀ j, j ∉ ([10, 5, 4, 2, 1] : List Nat) → mR M1 x j = none := fun j hj => (congrFun s.2.2.1 j).trans (rO j hj)
  have r2 := (congrFun s.2.2.1 2).trans r2
  have r4 := (congrFun s.2.2.1 4).trans r4
  have r5 := (congrFun s.2.2.1 5).trans r5
  have r10 := (congrFun s.2.2.1 10).trans r10
  have i0 := (s.2.2.2.2.1 0 (by decide)).trans i0
  have iO : ∀ j, j ≠ 17 → mI M1 x j = 0 := fun j hj => (s.2.2.2.2.1 j hj).trans (iO j hj)
  have i3 := (s.2.2.2.2.1 3 (by decide)).trans i3
  have i11 := (s.2.2.2.2.1 11 (by decide)).trans i11
  have i35 := (s.2.2.2.2.1 35 (by decide)).trans i35
  have i36 := (s.2.2.2.2.1 36 (by decide)).trans i36
  have i37 := (s.2.2.2.2.1 37 (by decide)).trans i37
  have i17 := s.2.2.2.2.2
  have hT := s.2.1.trans hT
  refine k_aload_n C rfl rfl rfl ?_
  refine k_iconst C (x := 5) rfl rfl rfl ?_
  refine iu_arr C (tt := 0) (n := 5) rfl rfl rfl (Or.inl ⟨rfl, rfl⟩) (by decide) (by decide) (Nat.le_of_ble_eq_true rfl) rfl rfl (Nat.le_of_ble_eq_true rfl) (Nat.le_of_ble_eq_true rfl) rfl hT ⟨rfl, rfl⟩ rfl (fun b18 M1 s sK => ?_)
  have n18 := hX.fresh (by rw [hT]; decide) s.2.2.2.2.2.2.2.2.2
  have hx9 := s.1.st hT
  have p1 := p1.st hx9 (by decide) (by decide)
  have p2 := p2.st hx9 (by decide) (by decide)
  have p4 := p4.st hx9 (by decide) (by decide)
  have p5 := p5.st hx9 (by decide) (by decide)
  have p10 := p10.st hx9 (by decide) (by decide)
  have hX := hX.tr s.1
  have hK := hK.tr sK
  have r1 := (s.2.2.2.2.1 1 (by decide)).trans r1
  have r2 := (s.2.2.2.2.1 2 (by decide)).trans r2
  have r4 := (s.2.2.2.2.1 4 (by decide)).trans r4
  have r5 := (s.2.2.2.2.1 5 (by decide)).trans r5
  have r10 := (s.2.2.2.2.1 10 (by decide)).trans r10
  have i0 := (congrFun s.2.2.1 0).trans i0
  have iO : ∀ j, j ≠ 17 → mI M1 x j = 0 := fun j hj => (congrFun s.2.2.1 j).trans (iO j hj)
  have i3 := (congrFun s.2.2.1 3).trans i3
  have i11 := (congrFun s.2.2.1 11).trans i11
  have i17 := (congrFun s.2.2.1 17).trans i17
  have i35 := (congrFun s.2.2.1 35).trans i35
  have i36 := (congrFun s.2.2.1 36).trans i36
  have i37 := (congrFun s.2.2.1 37).trans i37
  have r18 := s.2.2.2.2.2.1
  have rO : ∀ j, j ∉ ([18, 10, 5, 4, 2, 1] : List Nat) → mR M1 x j = none := fun j hj => (s.2.2.2.2.1 j (fun e => hj (by rw [e]; exact List.mem_cons_self))).trans (rO j (fun h => hj (List.mem_cons_of_mem _ h)))
  have p18 := s.2.2.2.2.2.2.1
  have hT := s.2.1.trans hT
  refine k_aload_n C rfl rfl rfl ?_
  refine k_bipush C (x := 48) rfl rfl rfl ?_
  refine iu_arr C (tt := 0) (n := 48) rfl rfl rfl (Or.inl ⟨rfl, rfl⟩) (by decide) (by decide) (Nat.le_of_ble_eq_true rfl) rfl rfl (Nat.le_of_ble_eq_true rfl) (Nat.le_of_ble_eq_true rfl) rfl hT ⟨rfl, rfl⟩ rfl (fun b20 M1 s sK => ?_)
  have n20 := hX.fresh (by rw [hT]; decide) s.2.2.2.2.2.2.2.2.2
  have h420 : b4 ≠ b20 := fun e => by have z := p4.1.1; rw [e, s.2.2.2.2.2.2.2.2.2] at z; exact absurd z (by decide)
  have hx9 := s.1.st hT
  have p1 := p1.st hx9 (by decide) (by decide)
  have p2 := p2.st hx9 (by decide) (by decide)
  have p4 := p4.st hx9 (by decide) (by decide)
  have p5 := p5.st hx9 (by decide) (by decide)
  have p10 := p10.st hx9 (by decide) (by decide)
  have p18 := p18.st hx9 (by decide) (by decide)
  have hX := hX.tr s.1
  have hK := hK.tr sK
  have r1 := (s.2.2.2.2.1 1 (by decide)).trans r1
  have r2 := (s.2.2.2.2.1 2 (by decide)).trans r2
  have r4 := (s.2.2.2.2.1 4 (by decide)).trans r4
  have r5 := (s.2.2.2.2.1 5 (by decide)).trans r5
  have r10 := (s.2.2.2.2.1 10 (by decide)).trans r10
  have r18 := (s.2.2.2.2.1 18 (by decide)).trans r18
  have i0 := (congrFun s.2.2.1 0).trans i0
  have iO : ∀ j, j ≠ 17 → mI M1 x j = 0 := fun j hj => (congrFun s.2.2.1 j).trans (iO j hj)
  have i3 := (congrFun s.2.2.1 3).trans i3
  have i11 := (congrFun s.2.2.1 11).trans i11
  have i17 := (congrFun s.2.2.1 17).trans i17
  have i35 := (congrFun s.2.2.1 35).trans i35
  have i36 := (congrFun s.2.2.1 36).trans i36
  have i37 := (congrFun s.2.2.1 37).trans i37
  have r20 := s.2.2.2.2.2.1
  have rO : ∀ j, j ∉ ([20, 18, 10, 5, 4, 2, 1] : List Nat) → mR M1 x j = none := fun j hj => (s.2.2.2.2.1 j (fun e => hj (by rw [e]; exact List.mem_cons_self))).trans (rO j (fun h => hj (List.mem_cons_of_mem _ h)))
  have p20 := s.2.2.2.2.2.2.1
  have hT := s.2.1.trans hT
  refine k_aload_n C rfl rfl rfl ?_
  refine k_sipush C (x := 1261) rfl rfl rfl ?_
  refine iu_arr C (tt := 1) (n := 1261) rfl rfl rfl (Or.inr (Or.inl ⟨rfl, rfl⟩)) (by decide) (by decide) (Nat.le_of_ble_eq_true rfl) rfl rfl (Nat.le_of_ble_eq_true rfl) (Nat.le_of_ble_eq_true rfl) rfl hT ⟨rfl, rfl⟩ rfl (fun b21 M1 s sK => ?_)
  have n21 := hX.fresh (by rw [hT]; decide) s.2.2.2.2.2.2.2.2.2
  have hx9 := s.1.st hT
  have p1 := p1.st hx9 (by decide) (by decide)
  have p2 := p2.st hx9 (by decide) (by decide)
  have p4 := p4.st hx9 (by decide) (by decide)
  have p5 := p5.st hx9 (by decide) (by decide)
  have p10 := p10.st hx9 (by decide) (by decide)
  have p18 := p18.st hx9 (by decide) (by decide)
  have p20 := p20.st hx9 (by decide) (by decide)
  have hX := hX.tr s.1
  have hK := hK.tr sK
  have r1 := (s.2.2.2.2.1 1 (by decide)).trans r1
  have r2 := (s.2.2.2.2.1 2 (by decide)).trans r2
  have r4 := (s.2.2.2.2.1 4 (by decide)).trans r4
  have r5 := (s.2.2.2.2.1 5 (by decide)).trans r5
  have r10 := (s.2.2.2.2.1 10 (by decide)).trans r10
  have r18 := (s.2.2.2.2.1 18 (by decide)).trans r18
  have r20 := (s.2.2.2.2.1 20 (by decide)).trans r20
  have i0 := (congrFun s.2.2.1 0).trans i0
  have iO : ∀ j, j ≠ 17 → mI M1 x j = 0 := fun j hj => (congrFun s.2.2.1 j).trans (iO j hj)
  have i3 := (congrFun s.2.2.1 3).trans i3
  have i11 := (congrFun s.2.2.1 11).trans i11
  have i17 := (congrFun s.2.2.1 17).trans i17
  have i35 := (congrFun s.2.2.1 35).trans i35
  have i36 := (congrFun s.2.2.1 36).trans i36
  have i37 := (congrFun s.2.2.1 37).trans i37
  have r21 := s.2.2.2.2.2.1
  have rO : ∀ j, j ∉ ([21, 20, 18, 10, 5, 4, 2, 1] : List Nat) → mR M1 x j = none := fun j hj => (s.2.2.2.2.1 j (fun e => hj (by rw [e]; exact List.mem_cons_self))).trans (rO j (fun h => hj (List.mem_cons_of_mem _ h)))
  have p21 := s.2.2.2.2.2.2.1
  have hT := s.2.1.trans hT
  refine k_aload_n C rfl rfl rfl ?_
  refine k_sipush C (x := 3936) rfl rfl rfl ?_
  refine iu_arr C (tt := 0) (n := 3936) rfl rfl rfl (Or.inl ⟨rfl, rfl⟩) (by decide) (by decide) (Nat.le_of_ble_eq_true rfl) rfl rfl (Nat.le_of_ble_eq_true rfl) (Nat.le_of_ble_eq_true rfl) rfl hT ⟨rfl, rfl⟩ rfl (fun b22 M1 s sK => ?_)
  have n22 := hX.fresh (by rw [hT]; decide) s.2.2.2.2.2.2.2.2.2
  have hx9 := s.1.st hT
  have p1 := p1.st hx9 (by decide) (by decide)
  have p2 := p2.st hx9 (by decide) (by decide)
  have p4 := p4.st hx9 (by decide) (by decide)
  have p5 := p5.st hx9 (by decide) (by decide)
  have p10 := p10.st hx9 (by decide) (by decide)
  have p18 := p18.st hx9 (by decide) (by decide)
  have p20 := p20.st hx9 (by decide) (by decide)
  have p21 := p21.st hx9 (by decide) (by decide)
  have hX := hX.tr s.1
  have hK := hK.tr sK
  have r1 := (s.2.2.2.2.1 1 (by decide)).trans r1
  have r2 := (s.2.2.2.2.1 2 (by decide)).trans r2
  have r4 := (s.2.2.2.2.1 4 (by decide)).trans r4
  have r5 := (s.2.2.2.2.1 5 (by decide)).trans r5
  have r10 := (s.2.2.2.2.1 10 (by decide)).trans r10
  have r18 := (s.2.2.2.2.1 18 (by decide)).trans r18
  have r20 := (s.2.2.2.2.1 20 (by decide)).trans r20
  have r21 := (s.2.2.2.2.1 21 (by decide)).trans r21
  have i0 := (congrFun s.2.2.1 0).trans i0
  have iO : ∀ j, j ≠ 17 → mI M1 x j = 0 := fun j hj => (congrFun s.2.2.1 j).trans (iO j hj)
  have i3 := (congrFun s.2.2.1 3).trans i3
  have i11 := (congrFun s.2.2.1 11).trans i11
  have i17 := (congrFun s.2.2.1 17).trans i17
  have i35 := (congrFun s.2.2.1 35).trans i35
  have i36 := (congrFun s.2.2.1 36).trans i36
  have i37 := (congrFun s.2.2.1 37).trans i37
  have r22 := s.2.2.2.2.2.1
  have rO : ∀ j, j ∉ ([22, 21, 20, 18, 10, 5, 4, 2, 1] : List Nat) → mR M1 x j = none := fun j hj => (s.2.2.2.2.1 j (fun e => hj (by rw [e]; exact List.mem_cons_self))).trans (rO j (fun h => hj (List.mem_cons_of_mem _ h)))
  have p22 : gArrZ _ b22 20 3936 := ⟨s.2.2.2.2.2.2.1, s.2.2.2.2.2.2.2.1⟩
  have hT := s.2.1.trans hT
  refine k_aload_n C rfl rfl rfl ?_
  refine k_bipush C (x := 108) rfl rfl rfl ?_
  refine iu_arr C (tt := 0) (n := 108) rfl rfl rfl (Or.inl ⟨rfl, rfl⟩) (by decide) (by decide) (Nat.le_of_ble_eq_true rfl) rfl rfl (Nat.le_of_ble_eq_true rfl) (Nat.le_of_ble_eq_true rfl) rfl hT ⟨rfl, rfl⟩ rfl (fun b23 M1 s sK => ?_)
  have n23 := hX.fresh (by rw [hT]; decide) s.2.2.2.2.2.2.2.2.2
  have hwd : b1 ≠ b23 := fun e => by have z := p1.1.1; rw [e, s.2.2.2.2.2.2.2.2.2] at z; exact absurd z (by decide)
  have hx9 := s.1.st hT
  have p1 := p1.st hx9 (by decide) (by decide)
  have p2 := p2.st hx9 (by decide) (by decide)
  have p4 := p4.st hx9 (by decide) (by decide)
  have p5 := p5.st hx9 (by decide) (by decide)
  have p10 := p10.st hx9 (by decide) (by decide)
  have p18 := p18.st hx9 (by decide) (by decide)
  have p20 := p20.st hx9 (by decide) (by decide)
  have p21 := p21.st hx9 (by decide) (by decide)
  have p22 := p22.st hx9 (by decide) (by decide)
  have hX := hX.tr s.1
  have hK := hK.tr sK
  have r1 := (s.2.2.2.2.1 1 (by decide)).trans r1
  have r2 := (s.2.2.2.2.1 2 (by decide)).trans r2
  have r4 := (s.2.2.2.2.1 4 (by decide)).trans r4
  have r5 := (s.2.2.2.2.1 5 (by decide)).trans r5
  have r10 := (s.2.2.2.2.1 10 (by decide)).trans r10
  have r18 := (s.2.2.2.2.1 18 (by decide)).trans r18
  have r20 := (s.2.2.2.2.1 20 (by decide)).trans r20
  have r21 := (s.2.2.2.2.1 21 (by decide)).trans r21
  have r22 := (s.2.2.2.2.1 22 (by decide)).trans r22
  have i0 := (congrFun s.2.2.1 0).trans i0
  have iO : ∀ j, j ≠ 17 → mI M1 x j = 0 := fun j hj => (congrFun s.2.2.1 j).trans (iO j hj)
  have i3 := (congrFun s.2.2.1 3).trans i3
  have i11 := (congrFun s.2.2.1 11).trans i11
  have i17 := (congrFun s.2.2.1 17).trans i17
  have i35 := (congrFun s.2.2.1 35).trans i35
  have i36 := (congrFun s.2.2.1 36).trans i36
  have i37 := (congrFun s.2.2.1 37).trans i37
  have r23 := s.2.2.2.2.2.1
  have rO : ∀ j, j ∉ ([23, 22, 21, 20, 18, 10, 5, 4, 2, 1] : List Nat) → mR M1 x j = none := fun j hj => (s.2.2.2.2.1 j (fun e => hj (by rw [e]; exact List.mem_cons_self))).trans (rO j (fun h => hj (List.mem_cons_of_mem _ h)))
  have p23 : gArrZ _ b23 20 108 := ⟨s.2.2.2.2.2.2.1, s.2.2.2.2.2.2.2.1⟩
  have hT := s.2.1.trans hT
  refine k_aload_n C rfl rfl rfl ?_
  refine k_sipush C (x := 361) rfl rfl rfl ?_
  refine iu_arr C (tt := 0) (n := 361) rfl rfl rfl (Or.inl ⟨rfl, rfl⟩) (by decide) (by decide) (Nat.le_of_ble_eq_true rfl) rfl rfl (Nat.le_of_ble_eq_true rfl) (Nat.le_of_ble_eq_true rfl) rfl hT ⟨rfl, rfl⟩ rfl (fun b25 M1 s sK => ?_)
  have n25 := hX.fresh (by rw [hT]; decide) s.2.2.2.2.2.2.2.2.2
  have hx9 := s.1.st hT
  have p1 := p1.st hx9 (by decide) (by decide)
  have p2 := p2.st hx9 (by decide) (by decide)
  have p4 := p4.st hx9 (by decide) (by decide)
  have p5 := p5.st hx9 (by decide) (by decide)
  have p10 := p10.st hx9 (by decide) (by decide)
  have p18 := p18.st hx9 (by decide) (by decide)
  have p20 := p20.st hx9 (by decide) (by decide)
  have p21 := p21.st hx9 (by decide) (by decide)
  have p22 := p22.st hx9 (by decide) (by decide)
  have p23 := p23.st hx9 (by decide) (by decide)
  have hX := hX.tr s.1
  have hK := hK.tr sK
  have r1 := (s.2.2.2.2.1 1 (by decide)).trans r1
  have r2 := (s.2.2.2.2.1 2 (by decide)).trans r2
  have r4 := (s.2.2.2.2.1 4 (by decide)).trans r4
  have r5 := (s.2.2.2.2.1 5 (by decide)).trans r5
  have r10 := (s.2.2.2.2.1 10 (by decide)).trans r10
  have r18 := (s.2.2.2.2.1 18 (by decide)).trans r18
  have r20 := (s.2.2.2.2.1 20 (by decide)).trans r20
  have r21 := (s.2.2.2.2.1 21 (by decide)).trans r21
  have r22 := (s.2.2.2.2.1 22 (by decide)).trans r22
  have r23 := (s.2.2.2.2.1 23 (by decide)).trans r23
  have i0 := (congrFun s.2.2.1 0).trans i0
  have iO : ∀ j, j ≠ 17 → mI M1 x j = 0 := fun j hj => (congrFun s.2.2.1 j).trans (iO j hj)
  have i3 := (congrFun s.2.2.1 3).trans i3
  have i11 := (congrFun s.2.2.1 11).trans i11
  have i17 := (congrFun s.2.2.1 17).trans i17
  have i35 := (congrFun s.2.2.1 35).trans i35
  have i36 := (congrFun s.2.2.1 36).trans i36
  have i37 := (congrFun s.2.2.1 37).trans i37
  have r25 := s.2.2.2.2.2.1
  have rO : ∀ j, j ∉ ([25, 23, 22, 21, 20, 18, 10, 5, 4, 2, 1] : List Nat) → mR M1 x j = none := fun j hj => (s.2.2.2.2.1 j (fun e => hj (by rw [e]; exact List.mem_cons_self))).trans (rO j (fun h => hj (List.mem_cons_of_mem _ h)))
  have p25 := s.2.2.2.2.2.2.1
  have hT := s.2.1.trans hT
  refine k_aload_n C rfl rfl rfl ?_
  refine k_sipush C (x := 180) rfl rfl rfl ?_
  refine iu_arr C (tt := 0) (n := 180) rfl rfl rfl (Or.inl ⟨rfl, rfl⟩) (by decide) (by decide) (Nat.le_of_ble_eq_true rfl) rfl rfl (Nat.le_of_ble_eq_true rfl) (Nat.le_of_ble_eq_true rfl) rfl hT ⟨rfl, rfl⟩ rfl (fun b26 M1 s sK => ?_)
  have n26 := hX.fresh (by rw [hT]; decide) s.2.2.2.2.2.2.2.2.2
  have hx9 := s.1.st hT
  have p1 := p1.st hx9 (by decide) (by decide)
  have p2 := p2.st hx9 (by decide) (by decide)
  have p4 := p4.st hx9 (by decide) (by decide)
  have p5 := p5.st hx9 (by decide) (by decide)
  have p10 := p10.st hx9 (by decide) (by decide)
  have p18 := p18.st hx9 (by decide) (by decide)
  have p20 := p20.st hx9 (by decide) (by decide)
  have p21 := p21.st hx9 (by decide) (by decide)
  have p22 := p22.st hx9 (by decide) (by decide)
  have p23 := p23.st hx9 (by decide) (by decide)
  have p25 := p25.st hx9 (by decide) (by decide)
  have hX := hX.tr s.1
  have hK := hK.tr sK
  have r1 := (s.2.2.2.2.1 1 (by decide)).trans r1
  have r2 := (s.2.2.2.2.1 2 (by decide)).trans r2
  have r4 := (s.2.2.2.2.1 4 (by decide)).trans r4
  have r5 := (s.2.2.2.2.1 5 (by decide)).trans r5
  have r10 := (s.2.2.2.2.1 10 (by decide)).trans r10
  have r18 := (s.2.2.2.2.1 18 (by decide)).trans r18
  have r20 := (s.2.2.2.2.1 20 (by decide)).trans r20
  have r21 := (s.2.2.2.2.1 21 (by decide)).trans r21
  have r22 := (s.2.2.2.2.1 22 (by decide)).trans r22
  have r23 := (s.2.2.2.2.1 23 (by decide)).trans r23
  have r25 := (s.2.2.2.2.1 25 (by decide)).trans r25
  have i0 := (congrFun s.2.2.1 0).trans i0
  have iO : ∀ j, j ≠ 17 → mI M1 x j = 0 := fun j hj => (congrFun s.2.2.1 j).trans (iO j hj)
  have i3 := (congrFun s.2.2.1 3).trans i3
  have i11 := (congrFun s.2.2.1 11).trans i11
  have i17 := (congrFun s.2.2.1 17).trans i17
  have i35 := (congrFun s.2.2.1 35).trans i35
  have i36 := (congrFun s.2.2.1 36).trans i36
  have i37 := (congrFun s.2.2.1 37).trans i37
  have r26 := s.2.2.2.2.2.1
  have rO : ∀ j, j ∉ ([26, 25, 23, 22, 21, 20, 18, 10, 5, 4, 2, 1] : List Nat) → mR M1 x j = none := fun j hj => (s.2.2.2.2.1 j (fun e => hj (by rw [e]; exact List.mem_cons_self))).trans (rO j (fun h => hj (List.mem_cons_of_mem _ h)))
  have p26 : gArrZ _ b26 20 180 := ⟨s.2.2.2.2.2.2.1, s.2.2.2.2.2.2.2.1⟩
  have hT := s.2.1.trans hT
  refine k_aload_n C rfl rfl rfl ?_
  refine k_iconst C (x := 3) rfl rfl rfl ?_
  refine iu_arr C (tt := 0) (n := 3) rfl rfl rfl (Or.inl ⟨rfl, rfl⟩) (by decide) (by decide) (Nat.le_of_ble_eq_true rfl) rfl rfl (Nat.le_of_ble_eq_true rfl) (Nat.le_of_ble_eq_true rfl) rfl hT ⟨rfl, rfl⟩ rfl (fun b27 M1 s sK => ?_)
  have n27 := hX.fresh (by rw [hT]; decide) s.2.2.2.2.2.2.2.2.2
  have hx9 := s.1.st hT
  have p1 := p1.st hx9 (by decide) (by decide)
  have p2 := p2.st hx9 (by decide) (by decide)
  have p4 := p4.st hx9 (by decide) (by decide)
  have p5 := p5.st hx9 (by decide) (by decide)
  have p10 := p10.st hx9 (by decide) (by decide)
  have p18 := p18.st hx9 (by decide) (by decide)
  have p20 := p20.st hx9 (by decide) (by decide)
  have p21 := p21.st hx9 (by decide) (by decide)
  have p22 := p22.st hx9 (by decide) (by decide)
  have p23 := p23.st hx9 (by decide) (by decide)
  have p25 := p25.st hx9 (by decide) (by decide)
  have p26 := p26.st hx9 (by decide) (by decide)
  have hX := hX.tr s.1
  have hK := hK.tr sK
  have r1 := (s.2.2.2.2.1 1 (by decide)).trans r1
  have r2 := (s.2.2.2.2.1 2 (by decide)).trans r2
  have r4 := (s.2.2.2.2.1 4 (by decide)).trans r4
  have r5 := (s.2.2.2.2.1 5 (by decide)).trans r5
  have r10 := (s.2.2.2.2.1 10 (by decide)).trans r10
  have r18 := (s.2.2.2.2.1 18 (by decide)).trans r18
  have r20 := (s.2.2.2.2.1 20 (by decide)).trans r20
  have r21 := (s.2.2.2.2.1 21 (by decide)).trans r21
  have r22 := (s.2.2.2.2.1 22 (by decide)).trans r22
  have r23 := (s.2.2.2.2.1 23 (by decide)).trans r23
  have r25 := (s.2.2.2.2.1 25 (by decide)).trans r25
  have r26 := (s.2.2.2.2.1 26 (by decide)).trans r26
  have i0 := (congrFun s.2.2.1 0).trans i0
  have iO : ∀ j, j ≠ 17 → mI M1 x j = 0 := fun j hj => (congrFun s.2.2.1 j).trans (iO j hj)
  have i3 := (congrFun s.2.2.1 3).trans i3
  have i11 := (congrFun s.2.2.1 11).trans i11
  have i17 := (congrFun s.2.2.1 17).trans i17
  have i35 := (congrFun s.2.2.1 35).trans i35
  have i36 := (congrFun s.2.2.1 36).trans i36
  have i37 := (congrFun s.2.2.1 37).trans i37
  have r27 := s.2.2.2.2.2.1
  have rO : ∀ j, j ∉ ([27, 26, 25, 23, 22, 21, 20, 18, 10, 5, 4, 2, 1] : List Nat) → mR M1 x j = none := fun j hj => (s.2.2.2.2.1 j (fun e => hj (by rw [e]; exact List.mem_cons_self))).trans (rO j (fun h => hj (List.mem_cons_of_mem _ h)))
  have p27 : gArrZ _ b27 20 3 := ⟨s.2.2.2.2.2.2.1, s.2.2.2.2.2.2.2.1⟩
  have hT := s.2.1.trans hT
  refine k_aload_n C rfl rfl rfl ?_
  refine k_iconst C (x := 3) rfl rfl rfl ?_
  refine iu_arr C (tt := 0) (n := 3) rfl rfl rfl (Or.inl ⟨rfl, rfl⟩) (by decide) (by decide) (Nat.le_of_ble_eq_true rfl) rfl rfl (Nat.le_of_ble_eq_true rfl) (Nat.le_of_ble_eq_true rfl) rfl hT ⟨rfl, rfl⟩ rfl (fun b28 M1 s sK => ?_)
  have n28 := hX.fresh (by rw [hT]; decide) s.2.2.2.2.2.2.2.2.2
  have h2728 : b27 ≠ b28 := fun e => by have z := p27.1.1; rw [e, s.2.2.2.2.2.2.2.2.2] at z; exact absurd z (by decide)
  have hx9 := s.1.st hT
  have p1 := p1.st hx9 (by decide) (by decide)
  have p2 := p2.st hx9 (by decide) (by decide)
  have p4 := p4.st hx9 (by decide) (by decide)
  have p5 := p5.st hx9 (by decide) (by decide)
  have p10 := p10.st hx9 (by decide) (by decide)
  have p18 := p18.st hx9 (by decide) (by decide)
  have p20 := p20.st hx9 (by decide) (by decide)
  have p21 := p21.st hx9 (by decide) (by decide)
  have p22 := p22.st hx9 (by decide) (by decide)
  have p23 := p23.st hx9 (by decide) (by decide)
  have p25 := p25.st hx9 (by decide) (by decide)
  have p26 := p26.st hx9 (by decide) (by decide)
  have p27 := p27.st hx9 (by decide) (by decide)
  have hX := hX.tr s.1
  have hK := hK.tr sK
  have r1 := (s.2.2.2.2.1 1 (by decide)).trans r1
  have r2 := (s.2.2.2.2.1 2 (by decide)).trans r2
  have r4 := (s.2.2.2.2.1 4 (by decide)).trans r4
  have r5 := (s.2.2.2.2.1 5 (by decide)).trans r5
  have r10 := (s.2.2.2.2.1 10 (by decide)).trans r10
  have r18 := (s.2.2.2.2.1 18 (by decide)).trans r18
  have r20 := (s.2.2.2.2.1 20 (by decide)).trans r20
  have r21 := (s.2.2.2.2.1 21 (by decide)).trans r21
  have r22 := (s.2.2.2.2.1 22 (by decide)).trans r22
  have r23 := (s.2.2.2.2.1 23 (by decide)).trans r23
  have r25 := (s.2.2.2.2.1 25 (by decide)).trans r25
  have r26 := (s.2.2.2.2.1 26 (by decide)).trans r26
  have r27 := (s.2.2.2.2.1 27 (by decide)).trans r27
  have i0 := (congrFun s.2.2.1 0).trans i0
  have iO : ∀ j, j ≠ 17 → mI M1 x j = 0 := fun j hj => (congrFun s.2.2.1 j).trans (iO j hj)
  have i3 := (congrFun s.2.2.1 3).trans i3
  have i11 := (congrFun s.2.2.1 11).trans i11
  have i17 := (congrFun s.2.2.1 17).trans i17
  have i35 := (congrFun s.2.2.1 35).trans i35
  have i36 := (congrFun s.2.2.1 36).trans i36
  have i37 := (congrFun s.2.2.1 37).trans i37
  have r28 := s.2.2.2.2.2.1
  have rO : ∀ j, j ∉ ([28, 27, 26, 25, 23, 22, 21, 20, 18, 10, 5, 4, 2, 1] : List Nat) → mR M1 x j = none := fun j hj => (s.2.2.2.2.1 j (fun e => hj (by rw [e]; exact List.mem_cons_self))).trans (rO j (fun h => hj (List.mem_cons_of_mem _ h)))
  have p28 : gArrZ _ b28 20 3 := ⟨s.2.2.2.2.2.2.1, s.2.2.2.2.2.2.2.1⟩
  have hT := s.2.1.trans hT
  refine k_aload_n C rfl rfl rfl ?_
  refine k_iconst C (x := 4) rfl rfl rfl ?_
  refine iu_arr C (tt := 1) (n := 4) rfl rfl rfl (Or.inr (Or.inl ⟨rfl, rfl⟩)) (by decide) (by decide) (Nat.le_of_ble_eq_true rfl) rfl rfl (Nat.le_of_ble_eq_true rfl) (Nat.le_of_ble_eq_true rfl) rfl hT ⟨rfl, rfl⟩ rfl (fun b34 M1 s sK => ?_)
  have n34 := hX.fresh (by rw [hT]; decide) s.2.2.2.2.2.2.2.2.2
  have hx9 := s.1.st hT
  have p1 := p1.st hx9 (by decide) (by decide)
  have p2 := p2.st hx9 (by decide) (by decide)
  have p4 := p4.st hx9 (by decide) (by decide)
  have p5 := p5.st hx9 (by decide) (by decide)
  have p10 := p10.st hx9 (by decide) (by decide)
  have p18 := p18.st hx9 (by decide) (by decide)
  have p20 := p20.st hx9 (by decide) (by decide)
  have p21 := p21.st hx9 (by decide) (by decide)
  have p22 := p22.st hx9 (by decide) (by decide)
  have p23 := p23.st hx9 (by decide) (by decide)
  have p25 := p25.st hx9 (by decide) (by decide)
  have p26 := p26.st hx9 (by decide) (by decide)
  have p27 := p27.st hx9 (by decide) (by decide)
  have p28 := p28.st hx9 (by decide) (by decide)
  have hX := hX.tr s.1
  have hK := hK.tr sK
  have r1 := (s.2.2.2.2.1 1 (by decide)).trans r1
  have r2 := (s.2.2.2.2.1 2 (by decide)).trans r2
  have r4 := (s.2.2.2.2.1 4 (by decide)).trans r4
  have r5 := (s.2.2.2.2.1 5 (by decide)).trans r5
  have r10 := (s.2.2.2.2.1 10 (by decide)).trans r10
  have r18 := (s.2.2.2.2.1 18 (by decide)).trans r18
  have r20 := (s.2.2.2.2.1 20 (by decide)).trans r20
  have r21 := (s.2.2.2.2.1 21 (by decide)).trans r21
  have r22 := (s.2.2.2.2.1 22 (by decide)).trans r22
  have r23 := (s.2.2.2.2.1 23 (by decide)).trans r23
  have r25 := (s.2.2.2.2.1 25 (by decide)).trans r25
  have r26 := (s.2.2.2.2.1 26 (by decide)).trans r26
  have r27 := (s.2.2.2.2.1 27 (by decide)).trans r27
  have r28 := (s.2.2.2.2.1 28 (by decide)).trans r28
  have i0 := (congrFun s.2.2.1 0).trans i0
  have iO : ∀ j, j ≠ 17 → mI M1 x j = 0 := fun j hj => (congrFun s.2.2.1 j).trans (iO j hj)
  have i3 := (congrFun s.2.2.1 3).trans i3
  have i11 := (congrFun s.2.2.1 11).trans i11
  have i17 := (congrFun s.2.2.1 17).trans i17
  have i35 := (congrFun s.2.2.1 35).trans i35
  have i36 := (congrFun s.2.2.1 36).trans i36
  have i37 := (congrFun s.2.2.1 37).trans i37
  have r34 := s.2.2.2.2.2.1
  have rO : ∀ j, j ∉ ([34, 28, 27, 26, 25, 23, 22, 21, 20, 18, 10, 5, 4, 2, 1] : List Nat) → mR M1 x j = none := fun j hj => (s.2.2.2.2.1 j (fun e => hj (by rw [e]; exact List.mem_cons_self))).trans (rO j (fun h => hj (List.mem_cons_of_mem _ h)))
  have p34 := s.2.2.2.2.2.2.1
  have hT := s.2.1.trans hT
  refine k_aload_n C rfl rfl rfl ?_
  refine i_getR C rfl rfl rfl hT rfl r1 ?_
  refine k_iconst C (x := 0) rfl rfl rfl ?_
  refine k_bipush C (x := 11) rfl rfl rfl ?_
  refine k_iast C rfl rfl p1.1.1 (vin (n := 0) rfl (by rw [p1.1.2]; exact Nat.le_of_ble_eq_true rfl) (by rw [p1.1.2]; exact Nat.le_of_ble_eq_true rfl)) ?_
  have hwx : x ≠ b1 := fun e => by have := p1.1.1; rw [← e, hT] at this; exact absurd this (by decide)
  have g9 : ∀ a, a ≠ b1 → Ag M1 (sI M1 b1 (0 : Int32).toNatClampNeg 11) a := fun a ha => ag_sI ha
  have hX1 : Ex1 x M (sI M1 b1 (0 : Int32).toNatClampNeg 11) := fun a ha hax => (hX a ha hax).tr (g9 a (fun e => ha (by rw [e]; exact n1)))
  have q0 : ∀ j v, mI M1 x j = v → mI (sI M1 b1 (0 : Int32).toNatClampNeg 11) x j = v := fun j v h => (congrFun (g9 x hwx).2.2.1 j).trans h
  have qZ : ∀ {b n}, n ≠ 4007 → gArrZ M1 b 20 n → gArrZ (sI M1 b1 (0 : Int32).toNatClampNeg 11) b 20 n := fun hn h => ⟨h.1, fun j => (congrFun (g9 _ (fun e => hn (by rw [← h.1.2, e, p1.1.2]))).2.2.1 j).trans (h.2 j)⟩
  have qA : ∀ {b t n}, t ≠ 20 → gArr M1 b t n → gArr (sI M1 b1 (0 : Int32).toNatClampNeg 11) b t n := fun _ h => h
  exact k_vret C rfl rfl (Nat.le_of_ble_eq_true rfl) (Nat.le_of_ble_eq_true rfl) ⟨rfl, hK.tr Ko.iI, hX1, hT, q0 0 _ i0, q0 3 _ i3, q0 11 _ i11, q0 17 _ i17, q0 35 _ i35, q0 36 _ i36, q0 37 _ i37, fun j hj => q0 j _ (iO j hj), rO, b1, b2, b4, b5, b10, b18, b20, b21, b22, b23, b25, b26, b27, b28, b34, u2_s, fun j hj => (u2_k (show j ≠ (0 : Int32).toNatClampNeg from fun e => by rw [e] at hj; exact absurd hj (by decide))).trans (p1.2 j), hwd, h420, h2728, r1, p1.1, n1, r2, p2, n2, r4, qZ (by decide) p4, n4, r5, qZ (by decide) p5, n5, r10, ⟨p10.1, fun j => (congrFun (g9 _ (fun e => by have z := p10.1.1; rw [e, p1.1.1] at z; exact absurd z (by decide))).2.2.1 j).trans (p10.2 j)⟩, n10, r18, p18, n18, r20, p20, n20, r21, p21, n21, r22, qZ (by decide) p22, n22, r23, qZ (by decide) p23, n23, r25, p25, n25, r26, qZ (by decide) p26, n26, r27, qZ (by decide) p27, n27, r28, qZ (by decide) p28, n28, r34, p34, n34⟩

/-! the law at any place: its table, its places -/
def offL (k : Nat) : Int := (#[184, 257, 282, 307, 323, 387, 403, 416, 456, 508, 536, 576, 589, 602, 654, 710, 762, 814, 866, 918, 970, 998, 1026, 1066, 1094, 1134, 1186, 1214, 1254, 1282, 1310, 1378, 1406, 1446, 1498, 1562, 1626, 1682, 1734, 1810, 1821, 1834] : Array Int).getD k 0
theorem offs_ok : ∀ k, k < 42 → (#[184, 257, 282, 307, 323, 387, 403, 416, 456, 508, 536, 576, 589, 602, 654, 710, 762, 814, 866, 918, 970, 998, 1026, 1066, 1094, 1134, 1186, 1214, 1254, 1282, 1310, 1378, 1406, 1446, 1498, 1562, 1626, 1682, 1734, 1810, 1821, 1834] : Array Int)[k]? = some (offL k) := by decide
theorem off_pos : ∀ k, k < 42 → 0 ≤ (((40 : Nat) : Int)) + offL k := by decide
set_option maxRecDepth 100000 in
theorem law_tb {V : V_T} {b x nw kp rd al m w im o cb tp Ln i : Nat} {xs : Nat → Int32} {T N : Nat → Nat} {I : IT} {L : LT} {R : RT} {A B : Nat → Prop} {ck sk : Nat} (C : Cl 40 q_law 601024 7293033 law_Po V) (S : SB V) (hL : LSc V b Ln xs) (E : LX T N R A B x nw kp rd al m w im o cb tp) (hi : i + 6 ≤ Ln) (hLn : Ln ≤ 3072) (hLI : LI T R A m I) (hRL : RY9 R x nw kp rd cb m w im tp I) (hck : ck + 3 ≤ 601024) (hsk : sk + 18 ≤ 7293033) (K : ∀ (lv : List (Nat × Value)) (I9 : IT) (L9 : LT) (ck9 sk9 : Nat), LI T R A m I9 → RY9 R x nw kp rd cb m w im tp I9 → ck9 ≤ ck + 3 → sk9 ≤ sk + 18 → (∀ z ∈ ([(4, .int (Int32.ofNat i)), (3, .ref o), (2, .ref m), (1, .ref x), (0, .ref b)] : List (Nat × Value)), z ∈ lv) → V 1899 lv [] (T, N, I9, L9, R) ck9 sk9) (k : Nat) (hk : k < 42) : V (tg 40 (offL k)) [(4, .int (Int32.ofNat i)), (3, .ref o), (2, .ref m), (1, .ref x), (0, .ref b)] [] (T, N, I, L, R) ck sk := by sorry
theorem law_i {i Ln : Nat} (hLn : Ln ≤ 3072) (hi : i ≤ 3078) : ((Int32.ofNat Ln - 6 < Int32.ofNat i) ↔ Ln < i + 6) := by sorry
set_option maxRecDepth 100000 in
theorem law_go {V : V_T} {b x nw kp rd al m w im o cb tp Ln : Nat} {xs : Nat → Int32} {T N : Nat → Nat} {R : RT} {A B : Nat → Prop} (C : Cl 40 q_law 601024 7293033 law_Po V) (S : SB V) (hL : LSc V b Ln xs) (E : LX T N R A B x nw kp rd al m w im o cb tp) (hLn : Ln ≤ 3072) : ∀ (n i : Nat) (I : IT) (L : LT) (ck sk : Nat), Ln ≤ i + 6 * n → i ≤ 3078 → LI T R A m I → RY9 R x nw kp rd cb m w im tp I → ck + 3 * n ≤ 601024 → sk + 18 * n ≤ 7293033 → V 23 [(4, .int (Int32.ofNat i)), (3, .ref o), (2, .ref m), (1, .ref x), (0, .ref b)] [] (T, N, I, L, R) ck sk := by sorry

/-! the law's start: what the two new objects are -/
def AA (M : Mm) (o a : Nat) : Prop := (mT M a ≠ 0 ∧ (mT M a = 3 → mI M a 0 = 0) ∧ (mT M a = 9 → mI M a 0 = 11)) ∨ a = o
theorem AA.t {M : Mm} {o a t : Nat} (h : mT M a = t) (h0 : t ≠ 0) (h3 : t ≠ 3) (h9 : t ≠ 9) : AA M o a := Or.inl ⟨by rw [h]; exact h0, fun e => absurd (h.symm.trans e) h3, fun e => absurd (h.symm.trans e) h9⟩
section Start
variable {M M5 : Mm} {o : Nat}
theorem sA (E : Ext M M5) {b t n : Nat} (g : gArr M b t n) (h0 : t ≠ 0) (h3 : t ≠ 3) (h9 : t ≠ 9) : h_A (mT M5) (mN M5) (AA M o) t n b := by
  have e := E b (by rw [g.1]; exact h0)
  exact ⟨e.1.trans g.1, e.2.1.trans g.2, AA.t g.1 h0 h3 h9⟩
theorem sB (E : Ext M M5) {r f t n : Nat} (h0 : mT M r ≠ 0) (g : ∃ b, mR M r f = some b ∧ gArr M b t n) (h : t = 20 ∨ t = 21) : ∃ b, mR M5 r f = some b ∧ (h_A (mT M5) (mN M5) (AA M o) t n) b := by
  obtain ⟨b, h1, h2⟩ := g
  exact ⟨b, (congrFun (E r h0).2.2.2.2 f).trans h1, sA E h2 (by omega) (by omega) (by omega)⟩
theorem sF (E : Ext M M5) {f : Nat} (g : gF M f) : h_F (mT M5) (mN M5) (mR M5) (AA M o) f := by
  obtain ⟨h1, h2, h3⟩ := g
  have e := E f (by rw [h1]; decide)
  exact ⟨e.1.trans h1, Or.inl ⟨by rw [h1]; decide, fun _ => h2, fun q => absurd (h1.symm.trans q) (by decide)⟩, sB E (by rw [h1]; decide) h3 (Or.inl rfl)⟩
theorem sF1 (E : Ext M M5) {r f : Nat} (h0 : mT M r ≠ 0) (g : ∃ b, mR M r f = some b ∧ gF M b) : ∃ b, mR M5 r f = some b ∧ (h_F (mT M5) (mN M5) (mR M5) (AA M o)) b := by
  obtain ⟨b, h1, h2⟩ := g
  exact ⟨b, (congrFun (E r h0).2.2.2.2 f).trans h1, sF E h2⟩
theorem sRow (E : Ext M M5) {r n : Nat} (g : gRow M r n) : mT M5 r = 23 ∧ mN M5 r = n ∧ AA M o r ∧ ∀ j, j < n → ∃ f, mR M5 r j = some f ∧ (h_F (mT M5) (mN M5) (mR M5) (AA M o)) f := by
  obtain ⟨h1, h2, h3⟩ := g
  have e := E r (by rw [h1]; decide)
  exact ⟨e.1.trans h1, e.2.1.trans h2, AA.t h1 (by decide) (by decide) (by decide), fun j hj => sF1 E (by rw [h1]; decide) (h3 j hj)⟩
theorem sRow1 (E : Ext M M5) {r f n : Nat} (h0 : mT M r ≠ 0) (g : ∃ b, mR M r f = some b ∧ gRow M b n) : ∃ b, mR M5 r f = some b ∧ (mT M5 b = 23 ∧ mN M5 b = n ∧ AA M o b ∧ ∀ j, j < n → ∃ f, mR M5 b j = some f ∧ (h_F (mT M5) (mN M5) (mR M5) (AA M o)) f) := by
  obtain ⟨b, h1, h2⟩ := g
  exact ⟨b, (congrFun (E r h0).2.2.2.2 f).trans h1, sRow E h2⟩
theorem sSg (E : Ext M M5) {s : Nat} (g : gSg M s) : h_Sg (mT M5) (mN M5) (mR M5) (AA M o) s := by
  obtain ⟨h1, h2, h3, h4⟩ := g
  have e := E s (by rw [h1]; decide)
  exact ⟨e.1.trans h1, AA.t h1 (by decide) (by decide) (by decide), sB E (by rw [h1]; decide) h3 (Or.inl rfl), sB E (by rw [h1]; decide) h4 (Or.inl rfl)⟩
theorem sTabs (E : Ext M M5) {r : Nat} (g : gTabs M r 8) : h_Tabs (mT M5) (mN M5) (mR M5) (AA M o) r := by
  obtain ⟨h1, h2, h3⟩ := g
  have e := E r (by rw [h1]; decide)
  refine ⟨e.1.trans h1, e.2.1.trans h2, AA.t h1 (by decide) (by decide) (by decide), fun j hj => ?_⟩
  obtain ⟨t, t1, t2⟩ := h3 j hj
  exact ⟨t, (congrFun e.2.2.2.2 j).trans t1, (E t (by rw [t2]; decide)).1.trans t2, AA.t t2 (by decide) (by decide) (by decide)⟩
theorem sSgs (E : Ext M M5) {r : Nat} (g : gSgs M r 8) : h_Sgs (mT M5) (mN M5) (mR M5) (AA M o) r := by
  obtain ⟨h1, h2, h3⟩ := g
  have e := E r (by rw [h1]; decide)
  refine ⟨e.1.trans h1, e.2.1.trans h2, AA.t h1 (by decide) (by decide) (by decide), fun j hj => ?_⟩
  obtain ⟨t, t1, t2⟩ := h3 j hj
  exact ⟨t, (congrFun e.2.2.2.2 j).trans t1, sSg E t2⟩
theorem sHeld (E : Ext M M5) {r : Nat} (g : gHeld M r 8 492) : h_Held (mT M5) (mN M5) (mR M5) (AA M o) r := by
  obtain ⟨h1, h2, h3⟩ := g
  have e := E r (by rw [h1]; decide)
  refine ⟨e.1.trans h1, e.2.1.trans h2, AA.t h1 (by decide) (by decide) (by decide), fun j hj => ?_⟩
  exact sB E (by rw [h1]; decide) (h3 j hj) (Or.inl rfl)
theorem sSt (E : Ext M M5) {x : Nat} (g : gSt M x) : h_St (mT M5) (mN M5) (mR M5) (AA M o) x := by
  obtain ⟨h1, h2, -, -, -, -, -, h6, h7, h8, ⟨t, t1, t2⟩, ⟨s, s1, s2⟩⟩ := g
  have e := E x (by rw [h1]; decide)
  have n0 : mT M x ≠ 0 := by rw [h1]; decide
  exact ⟨e.1.trans h1, Or.inl ⟨n0, fun q => absurd (h1.symm.trans q) (by decide), fun _ => h2⟩, sB E n0 h6 (Or.inl rfl), sRow1 E n0 h7, sRow1 E n0 h8, ⟨t, (congrFun e.2.2.2.2 9).trans t1, sTabs E t2⟩, ⟨s, (congrFun e.2.2.2.2 10).trans s1, sSgs E s2⟩⟩
theorem sRd (E : Ext M M5) {x : Nat} (g : gRd M x) : h_Rd (mT M5) (mN M5) (mR M5) (AA M o) x := by
  obtain ⟨h1, -, ⟨s, s1, s2⟩, h3⟩ := g
  have e := E x (by rw [h1]; decide)
  have n0 : mT M x ≠ 0 := by rw [h1]; decide
  exact ⟨e.1.trans h1, AA.t h1 (by decide) (by decide) (by decide), ⟨s, (congrFun e.2.2.2.2 0).trans s1, sSg E s2⟩, sB E n0 h3 (Or.inl rfl)⟩
theorem sAl (E : Ext M M5) {x st : Nat} (g : gAl M x st) (hs : gSt M st) : h_Al (mT M5) (mN M5) (mR M5) (AA M o) x := by
  obtain ⟨h1, h2, h3, h4⟩ := g
  have e := E x (by rw [h1]; decide)
  have n0 : mT M x ≠ 0 := by rw [h1]; decide
  exact ⟨e.1.trans h1, AA.t h1 (by decide) (by decide) (by decide), ⟨st, (congrFun e.2.2.2.2 0).trans h4, sSt E hs⟩, sF1 E n0 h2, sF1 E n0 h3⟩
theorem sCc (E : Ext M M5) {x al : Nat} (g : gCc M x al) (ha : h_Al (mT M5) (mN M5) (mR M5) (AA M o) al) : h_Cc (mT M5) (mN M5) (mR M5) (AA M o) x := by
  obtain ⟨h1, h2, h3, h4, h5, h6⟩ := g
  have e := E x (by rw [h1]; decide)
  have n0 : mT M x ≠ 0 := by rw [h1]; decide
  exact ⟨e.1.trans h1, AA.t h1 (by decide) (by decide) (by decide), ⟨al, (congrFun e.2.2.2.2 0).trans h6, ha⟩, sRow1 E n0 h2, sB E n0 h3 (Or.inl rfl), sF1 E n0 h4, sF1 E n0 h5⟩
theorem sRw (E : Ext M M5) {x al cc : Nat} (g : gRw M x al cc) (ha : h_Al (mT M5) (mN M5) (mR M5) (AA M o) al) (hc : h_Cc (mT M5) (mN M5) (mR M5) (AA M o) cc) : h_Rw (mT M5) (mN M5) (mR M5) (AA M o) x := by
  obtain ⟨h1, h2, ⟨b, b1, b2⟩, h4, h5, h6, h7⟩ := g
  have e := E x (by rw [h1]; decide)
  have n0 : mT M x ≠ 0 := by rw [h1]; decide
  exact ⟨e.1.trans h1, AA.t h1 (by decide) (by decide) (by decide), ⟨al, (congrFun e.2.2.2.2 0).trans h6, ha⟩, ⟨cc, (congrFun e.2.2.2.2 1).trans h7, hc⟩, sRow1 E n0 h2, ⟨b, (congrFun e.2.2.2.2 3).trans b1, sHeld E b2⟩, sB E n0 h4 (Or.inl rfl), sB E n0 h5 (Or.inr rfl)⟩
theorem sSe (E : Ext M M5) {x al : Nat} (g : gSe M x al) (ha : h_Al (mT M5) (mN M5) (mR M5) (AA M o) al) : h_Se (mT M5) (mN M5) (mR M5) (AA M o) x := by
  obtain ⟨h1, h3, h4, h5, h6, h7⟩ := g
  have e := E x (by rw [h1]; decide)
  have n0 : mT M x ≠ 0 := by rw [h1]; decide
  exact ⟨e.1.trans h1, AA.t h1 (by decide) (by decide) (by decide), ⟨al, (congrFun e.2.2.2.2 2).trans h7, ha⟩, sB E n0 h3 (Or.inl rfl), sB E n0 h4 (Or.inl rfl), sB E n0 h5 (Or.inl rfl), sB E n0 h6 (Or.inl rfl)⟩
theorem sPo (E : Ext M M5) {x al : Nat} (g : gPo M x al) (ha : h_Al (mT M5) (mN M5) (mR M5) (AA M o) al) : h_Po (mT M5) (mN M5) (mR M5) (AA M o) x := by
  obtain ⟨h1, h3, h4, h5, h6, h7⟩ := g
  have e := E x (by rw [h1]; decide)
  have n0 : mT M x ≠ 0 := by rw [h1]; decide
  exact ⟨e.1.trans h1, AA.t h1 (by decide) (by decide) (by decide), ⟨al, (congrFun e.2.2.2.2 1).trans h7, ha⟩, sB E n0 h3 (Or.inl rfl), sB E n0 h4 (Or.inl rfl), sB E n0 h5 (Or.inl rfl), sB E n0 h6 (Or.inl rfl)⟩
theorem sWh (E : Ext M M5) {x : Nat} (g : gWh M x) : h_Wh (mT M5) (mN M5) (mR M5) (AA M o) x := by
  obtain ⟨h1, -⟩ := g
  exact ⟨(E x (by rw [h1]; decide)).1.trans h1, AA.t h1 (by decide) (by decide) (by decide)⟩
theorem sLF (E : Ext M M5) {x : Nat} (g : gLF M x) : h_LF (mT M5) (mN M5) (mR M5) (AA M o) x := by
  obtain ⟨tx, ix3, ix4, rd, nw, kp, al, cc, rw, se, po, wh, w1, w2, w3, rx0, rx1, rx2, rx5, rx6, rx7, rx8, rx9, rx10, rx11, rx12, rx13, hrd, hst, hkp, hal, hcc, hrw, hse, hpo, hwh, hw1, hw2, hw3, hkn⟩ := g
  have e := E x (by rw [tx]; decide)
  have ha := sAl (o := o) E hal hst
  have hc := sCc (o := o) E hcc ha
  exact ⟨e.1.trans tx, AA.t tx (by decide) (by decide) (by decide), ⟨rd, (congrFun e.2.2.2.2 0).trans rx0, sRd E hrd⟩, ⟨nw, (congrFun e.2.2.2.2 1).trans rx1, sSt E hst⟩, ⟨kp, (congrFun e.2.2.2.2 2).trans rx2, sSt E hkp⟩, ⟨al, (congrFun e.2.2.2.2 5).trans rx5, ha⟩, ⟨cc, (congrFun e.2.2.2.2 6).trans rx6, hc⟩, ⟨rw, (congrFun e.2.2.2.2 7).trans rx7, sRw E hrw ha hc⟩, ⟨se, (congrFun e.2.2.2.2 8).trans rx8, sSe E hse ha⟩, ⟨po, (congrFun e.2.2.2.2 9).trans rx9, sPo E hpo ha⟩, ⟨wh, (congrFun e.2.2.2.2 10).trans rx10, sWh E hwh⟩, ⟨w1, (congrFun e.2.2.2.2 11).trans rx11, sF E hw1⟩, ⟨w2, (congrFun e.2.2.2.2 12).trans rx12, sF E hw2⟩, ⟨w3, (congrFun e.2.2.2.2 13).trans rx13, sF E hw3⟩⟩
theorem sIX (E : Ext M M5) (ho : mT M5 o = 21) : IX (AA M o) (mT M5) (mI M5) := by
  rintro a (⟨h0, h3, h9⟩ | rfl) k
  · have e := E a h0
    refine ⟨fun q k0 => ?_, fun q k0 => ?_⟩
    · subst k0
      rw [e.2.2.1, h3 (e.1.symm.trans q)]; decide
    · subst k0
      rw [e.2.2.1, h9 (e.1.symm.trans q)]; decide
  · exact ⟨fun q => absurd (ho.symm.trans q) (by decide), fun q => absurd (ho.symm.trans q) (by decide)⟩
end Start
theorem WOK.zz {g : Nat → Int32} (h0 : g 0 = 11) (h : ∀ j, 1 ≤ j → g j = 0) : WOK g := by
  have z : ∀ j, 1 ≤ j → (g j).toInt = 0 := fun j hj => by rw [h j hj]; rfl
  have z0 : (g 0).toInt = 11 := by rw [h0]; rfl
  refine ⟨Or.inl z0, ⟨⟨by rw [z 1 (by decide)]; decide, by rw [z 1 (by decide)]; decide⟩, ⟨by rw [z 2 (by decide)]; decide, by rw [z 2 (by decide)]; decide⟩, ⟨by rw [z 3 (by decide)]; decide, by rw [z 3 (by decide)]; decide⟩, ⟨by rw [z 4 (by decide)]; decide, by rw [z 4 (by decide)]; decide⟩, by rw [z 5 (by decide)]; decide, by rw [z 5 (by decide)]; decide⟩, fun f _ => ⟨by rw [z _ (by omega)]; decide, by rw [z _ (by omega)]; decide, fun k _ => ⟨by rw [z _ (by omega)]; decide, by rw [z _ (by omega)]; decide⟩⟩, fun f hf => ?_, fun t _ => ⟨by rw [z _ (by omega)]; decide, by rw [z _ (by omega)]; decide⟩, fun s hs => ?_, fun a _ => ⟨by rw [z _ (by omega)]; decide, by rw [z _ (by omega)]; decide, fun j _ _ => ⟨by rw [z _ (by omega)]; decide, by rw [z _ (by omega)]; decide⟩⟩⟩
  · rw [z 1 (by decide)] at hf; omega
  · rw [z 3 (by decide)] at hs; omega
def BB (M2 M4 : Mm) (a : Nat) : Prop := mT M2 a = 0 ∧ mT M4 a ≠ 0
/-- each array of the reference by its field: kind and size, and what it holds -/
def cdM (w dg nu rk rs dn pw sp fc : Nat) (f a K : Nat) : Prop := (f = 1 ∧ a = w ∧ K = 204007) ∨ (f = 2 ∧ K = 203606) ∨ (f = 4 ∧ a = dg ∧ K = 200048) ∨ (f = 5 ∧ a = nu ∧ K = 201968) ∨ (f = 10 ∧ K = 220400) ∨ (f = 18 ∧ K = 200005) ∨ (f = 20 ∧ a = rk ∧ K = 200048) ∨ (f = 21 ∧ K = 211261) ∨ (f = 22 ∧ a = rs ∧ K = 203936) ∨ (f = 23 ∧ a = dn ∧ K = 200108) ∨ (f = 25 ∧ K = 200361) ∨ (f = 26 ∧ a = pw ∧ K = 200180) ∨ (f = 27 ∧ a = sp ∧ K = 200003) ∨ (f = 28 ∧ a = fc ∧ K = 200003) ∨ (f = 34 ∧ K = 210004)
set_option maxHeartbeats 4000000 in
theorem sMD {M2 M3 M4 M5 : Mm} {m : Nat} (E : Ext M4 M5) (g : gMd9 M3 M4 m) (hz : ∀ a, mT M3 a = 0 → mT M2 a = 0) (hm : mT M2 m = 0) : h_MD (mT M5) (mN M5) (mR M5) (BB M2 M4) m ∧ IM (mR M5) m (mI M5) ∧ (∀ w, mR M5 m 1 = some w → (mI M5 w 4).toInt + (mI M5 w 5).toInt ≤ 40) ∧ (∀ w, mR M5 m 2 = some w → (mI M5 m 3).toInt ≠ 0 → WOS (mI M5 w)) := by
  obtain ⟨tm, im0, im3, im11, im17, im35, im36, im37, iO, rO, w, im, dg, nu, tp, fv, rk, wy, rs, dn, vd, pw, sp, fc, wl, iw0, iwj, hwd, h420, h2728, rm1, gw, zw, rm2, gim, zim, rm4, gdg, zdg, rm5, gnu, znu, rm10, gtp, ztp, rm18, gfv, zfv, rm20, grk, zrk, rm21, gwy, zwy, rm22, grs, zrs, rm23, gdn, zdn, rm25, gvd, zvd, rm26, gpw, zpw, rm27, gsp, zsp, rm28, gfc, zfc, rm34, gwl, zwl⟩ := g
  have em := E m (by rw [tm]; decide)
  have R : ∀ {f a}, mR M4 m f = some a → mR M5 m f = some a := fun {f a} h => (congrFun em.2.2.2.2 f).trans h
  have key0 : ∀ {b t n}, gArr M4 b t n → t ≠ 0 → mT M3 b = 0 → (h_A (mT M5) (mN M5) (BB M2 M4) t n) b := fun {b t n} h ht h3 => by
    have e := E b (by rw [h.1]; exact ht)
    exact ⟨e.1.trans h.1, e.2.1.trans h.2, hz _ h3, by rw [h.1]; exact ht⟩
  have A1 := key0 gw (by decide) zw
  have A2 := key0 gim (by decide) zim
  have A4 := key0 gdg.1 (by decide) zdg
  have A5 := key0 gnu.1 (by decide) znu
  have A10 := key0 gtp.1 (by decide) ztp
  have A18 := key0 gfv (by decide) zfv
  have A20 := key0 grk (by decide) zrk
  have A21 := key0 gwy (by decide) zwy
  have A22 := key0 grs.1 (by decide) zrs
  have A23 := key0 gdn.1 (by decide) zdn
  have A25 := key0 gvd (by decide) zvd
  have A26 := key0 gpw.1 (by decide) zpw
  have A27 := key0 gsp.1 (by decide) zsp
  have A28 := key0 gfc.1 (by decide) zfc
  have A34 := key0 gwl (by decide) zwl
  have key : ∀ f a, mR M5 m f = some a → cdM w dg nu rk rs dn pw sp fc f a (mT M5 a * 10000 + mN M5 a) := by
    intro f a ha
    have ha4 : mR M4 m f = some a := (congrFun em.2.2.2.2 f).symm.trans ha
    unfold cdM
    by_cases q : f ∈ RFS
    · simp only [RFS, List.mem_cons, List.not_mem_nil, or_false] at q
      rcases q with rfl | rfl | rfl | rfl | rfl | rfl | rfl | rfl | rfl | rfl | rfl | rfl | rfl | rfl | rfl
      · cases rm34.symm.trans ha4; rw [A34.1, A34.2.1]; exact Or.inr (Or.inr (Or.inr (Or.inr (Or.inr (Or.inr (Or.inr (Or.inr (Or.inr (Or.inr (Or.inr (Or.inr (Or.inr (Or.inr (⟨rfl, rfl⟩))))))))))))))
      · cases rm28.symm.trans ha4; rw [A28.1, A28.2.1]; exact Or.inr (Or.inr (Or.inr (Or.inr (Or.inr (Or.inr (Or.inr (Or.inr (Or.inr (Or.inr (Or.inr (Or.inr (Or.inr (Or.inl ⟨rfl, rfl, rfl⟩)))))))))))))
      · cases rm27.symm.trans ha4; rw [A27.1, A27.2.1]; exact Or.inr (Or.inr (Or.inr (Or.inr (Or.inr (Or.inr (Or.inr (Or.inr (Or.inr (Or.inr (Or.inr (Or.inr (Or.inl ⟨rfl, rfl, rfl⟩))))))))))))
      · cases rm26.symm.trans ha4; rw [A26.1, A26.2.1]; exact Or.inr (Or.inr (Or.inr (Or.inr (Or.inr (Or.inr (Or.inr (Or.inr (Or.inr (Or.inr (Or.inr (Or.inl ⟨rfl, rfl, rfl⟩)))))))))))
      · cases rm25.symm.trans ha4; rw [A25.1, A25.2.1]; exact Or.inr (Or.inr (Or.inr (Or.inr (Or.inr (Or.inr (Or.inr (Or.inr (Or.inr (Or.inr (Or.inl ⟨rfl, rfl⟩))))))))))
      · cases rm23.symm.trans ha4; rw [A23.1, A23.2.1]; exact Or.inr (Or.inr (Or.inr (Or.inr (Or.inr (Or.inr (Or.inr (Or.inr (Or.inr (Or.inl ⟨rfl, rfl, rfl⟩)))))))))
      · cases rm22.symm.trans ha4; rw [A22.1, A22.2.1]; exact Or.inr (Or.inr (Or.inr (Or.inr (Or.inr (Or.inr (Or.inr (Or.inr (Or.inl ⟨rfl, rfl, rfl⟩))))))))
      · cases rm21.symm.trans ha4; rw [A21.1, A21.2.1]; exact Or.inr (Or.inr (Or.inr (Or.inr (Or.inr (Or.inr (Or.inr (Or.inl ⟨rfl, rfl⟩)))))))
      · cases rm20.symm.trans ha4; rw [A20.1, A20.2.1]; exact Or.inr (Or.inr (Or.inr (Or.inr (Or.inr (Or.inr (Or.inl ⟨rfl, rfl, rfl⟩))))))
      · cases rm18.symm.trans ha4; rw [A18.1, A18.2.1]; exact Or.inr (Or.inr (Or.inr (Or.inr (Or.inr (Or.inl ⟨rfl, rfl⟩)))))
      · cases rm10.symm.trans ha4; rw [A10.1, A10.2.1]; exact Or.inr (Or.inr (Or.inr (Or.inr (Or.inl ⟨rfl, rfl⟩))))
      · cases rm5.symm.trans ha4; rw [A5.1, A5.2.1]; exact Or.inr (Or.inr (Or.inr (Or.inl ⟨rfl, rfl, rfl⟩)))
      · cases rm4.symm.trans ha4; rw [A4.1, A4.2.1]; exact Or.inr (Or.inr (Or.inl ⟨rfl, rfl, rfl⟩))
      · cases rm2.symm.trans ha4; rw [A2.1, A2.2.1]; exact Or.inr (Or.inl ⟨rfl, rfl⟩)
      · cases rm1.symm.trans ha4; rw [A1.1, A1.2.1]; exact Or.inl ⟨rfl, rfl, rfl⟩
    · rw [rO f q] at ha4; cases ha4
  have zer : ∀ {b n}, gArrZ M4 b 20 n → ∀ k, (mI M5 b k).toInt = 0 := fun {b n} h k => by
    have e := E b (by rw [h.1.1]; decide)
    rw [e.2.2.1, h.2 k]; rfl
  have zw9 : mI M5 w = mI M4 w := (E w (by rw [gw.1]; decide)).2.2.1
  have J : ∀ f g a, mR M5 m f = some a → mR M5 m g = some a → f = g := by
    intro f g a hf hg
    have k1 := key f a hf
    have k2 := key g a hg
    unfold cdM at k1 k2
    have k3 : f = g ∨ (f = 4 ∧ g = 20 ∧ dg = rk) ∨ (f = 20 ∧ g = 4 ∧ dg = rk) ∨ (f = 27 ∧ g = 28 ∧ sp = fc) ∨ (f = 28 ∧ g = 27 ∧ sp = fc) := by
      generalize mT M5 a * 10000 + mN M5 a = K at k1 k2
      rcases k1 with k1 | k1 | k1 | k1 | k1 | k1 | k1 | k1 | k1 | k1 | k1 | k1 | k1 | k1 | k1 <;> rcases k2 with k2 | k2 | k2 | k2 | k2 | k2 | k2 | k2 | k2 | k2 | k2 | k2 | k2 | k2 | k2 <;> first | exact Or.inl (k1.1.trans k2.1.symm) | exact Or.inr (Or.inl ⟨k1.1, k2.1, k1.2.1.symm.trans k2.2.1⟩) | exact Or.inr (Or.inr (Or.inl ⟨k1.1, k2.1, k2.2.1.symm.trans k1.2.1⟩)) | exact Or.inr (Or.inr (Or.inr (Or.inl ⟨k1.1, k2.1, k1.2.1.symm.trans k2.2.1⟩))) | exact Or.inr (Or.inr (Or.inr (Or.inr ⟨k1.1, k2.1, k2.2.1.symm.trans k1.2.1⟩))) | (exfalso; have q1 := k1.2.2; have q2 := k2.2.2; omega) | (exfalso; have q1 := k1.2.2; have q2 := k2.2; omega) | (exfalso; have q1 := k1.2; have q2 := k2.2.2; omega) | (exfalso; have q1 := k1.2; have q2 := k2.2; omega)
    rcases k3 with k3 | k3 | k3 | k3 | k3
    · exact k3
    · exact absurd k3.2.2 h420
    · exact absurd k3.2.2 h420
    · exact absurd k3.2.2 h2728
    · exact absurd k3.2.2 h2728
  have Y : ∀ f a, mR M5 m f = some a → mT M5 a = 20 ∨ mT M5 a = 21 ∨ mT M5 a = 22 := by
    intro f a hf
    have ha4 : mR M4 m f = some a := (congrFun em.2.2.2.2 f).symm.trans hf
    by_cases q : f ∈ RFS
    · simp only [RFS, List.mem_cons, List.not_mem_nil, or_false] at q
      rcases q with rfl | rfl | rfl | rfl | rfl | rfl | rfl | rfl | rfl | rfl | rfl | rfl | rfl | rfl | rfl
      · cases rm34.symm.trans ha4; exact Or.inr (Or.inl A34.1)
      · cases rm28.symm.trans ha4; exact Or.inl A28.1
      · cases rm27.symm.trans ha4; exact Or.inl A27.1
      · cases rm26.symm.trans ha4; exact Or.inl A26.1
      · cases rm25.symm.trans ha4; exact Or.inl A25.1
      · cases rm23.symm.trans ha4; exact Or.inl A23.1
      · cases rm22.symm.trans ha4; exact Or.inl A22.1
      · cases rm21.symm.trans ha4; exact Or.inr (Or.inl A21.1)
      · cases rm20.symm.trans ha4; exact Or.inl A20.1
      · cases rm18.symm.trans ha4; exact Or.inl A18.1
      · cases rm10.symm.trans ha4; exact Or.inr (Or.inr A10.1)
      · cases rm5.symm.trans ha4; exact Or.inl A5.1
      · cases rm4.symm.trans ha4; exact Or.inl A4.1
      · cases rm2.symm.trans ha4; exact Or.inl A2.1
      · cases rm1.symm.trans ha4; exact Or.inl A1.1
    · rw [rO f q] at ha4; cases ha4
  refine ⟨⟨em.1.trans tm, ⟨hm, by rw [tm]; decide⟩, ⟨w, R rm1, A1⟩, ⟨im, R rm2, A2⟩, ⟨dg, R rm4, A4⟩, ⟨nu, R rm5, A5⟩, ⟨tp, R rm10, A10⟩, ⟨fv, R rm18, A18⟩, ⟨rk, R rm20, A20⟩, ⟨wy, R rm21, A21⟩, ⟨rs, R rm22, A22⟩, ⟨dn, R rm23, A23⟩, ⟨vd, R rm25, A25⟩, ⟨pw, R rm26, A26⟩, ⟨sp, R rm27, A27⟩, ⟨fc, R rm28, A28⟩, ⟨wl, R rm34, A34⟩, J, Y⟩, ⟨fun f a ha k => ⟨fun q => ?_, fun q => ?_, fun q => ?_⟩, fun a ha => ?_, fun k => ?_⟩, fun a ha => ?_, fun a ha h3 => ?_⟩
  · subst q; cases (R rm4).symm.trans ha; rw [zer gdg k]; decide
  · subst q; cases (R rm27).symm.trans ha; rw [zer gsp k]; decide
  · rcases q with rfl | rfl | rfl | rfl | rfl
    · cases (R rm5).symm.trans ha; rw [zer gnu k]; decide
    · cases (R rm22).symm.trans ha; rw [zer grs k]; decide
    · cases (R rm23).symm.trans ha; rw [zer gdn k]; decide
    · cases (R rm26).symm.trans ha; rw [zer gpw k]; decide
    · cases (R rm28).symm.trans ha; rw [zer gfc k]; decide
  · cases (R rm1).symm.trans ha
    rw [zw9]; exact WOK.zz iw0 iwj
  · by_cases q : k = 17
    · subst q; exact ⟨fun z => by omega, fun z => by omega, fun z => by omega, fun z => by omega, fun z => by omega⟩
    · have : (mI M5 m k).toInt = 0 := by rw [em.2.2.1, iO k q]; rfl
      exact ⟨fun _ => by omega, fun _ => by omega, fun _ => by omega, fun _ => by omega, fun _ => by omega⟩
  · cases (R rm1).symm.trans ha
    rw [zw9, iwj 4 (by decide), iwj 5 (by decide)]; decide
  · exact absurd (by rw [em.2.2.1, iO 3 (by decide)]; rfl) h3
theorem R_nw0 {M : Mm} {b t n k : Nat} : mR (sN M b t n) b k = none := by simp [sN, u1, mR]
section Start2
variable {d : Nat} {q : mm_T} {mc ms : Nat} {Post : Po} {V : V_T} {pc pc2 : Nat} {lv : List (Nat × Value)} {r : List Value} {M : Mm} {ck sk : Nat}
theorem i_newR (C : Cl d q mc ms Post V) {j ci n ck2 sk2 : Nat} (hi : cdf q.2.2.2.2.2.2 pc = some (.new j, 3)) (hp : pc + 3 = pc2) (hn : P_nw q.2.2.2.2.1 j = some ci) (hz : P_sz ci = n) (e1 : ck + 1 = ck2) (e2 : sk + n = sk2) (h1 : ck2 ≤ mc) (h2 : sk2 ≤ ms)
    (h : ∀ b M1, mT M b = 0 → Ext M M1 → Ko M M1 → mT M1 b = ci + 1 → (∀ j, mI M1 b j = 0) → (∀ j, mR M1 b j = none) → V pc2 lv (.ref b :: r) M1 ck2 sk2) : V pc lv r M ck sk := by
  subst e1; subst e2
  exact k_new C hi hp hn hz h1 h2 (fun b hb => h b _ hb (Ext.rf.new hb) (Ko.nw hb) T_new (fun j => I_new) (fun j => R_nw0))
end Start2
theorem UP_M0 : UP M0 := ⟨fun a k b h => (nomatch (show (none : Option Nat) = some b from h)), fun a k a' k' b _ h => (nomatch (show (none : Option Nat) = some b from h))⟩
theorem RST.start {R : RT} {I : IT} {st : Nat} {W : Nat → Int32} (h0 : (I st 0).toInt = (W 0).toInt) (i : ∀ k, k = 1 ∨ k = 2 ∨ k = 4 ∨ k = 5 → (I st k).toInt = 0) (w : ∀ k, k = 1 ∨ k = 2 ∨ k = 4 ∨ k = 5 → (W k).toInt = 0) : RST R I st W := by
  have w1 := w 1 (by omega)
  have w2 := w 2 (by omega)
  have w4 := w 4 (by omega)
  have w5 := w 5 (by omega)
  exact ⟨⟨h0, by rw [i 1 (by omega), w1], by rw [i 2 (by omega), w2], by rw [i 4 (by omega), w4], by rw [i 5 (by omega), w5]⟩, fun f hf => by exfalso; omega, fun t ht => by exfalso; omega, fun _ _ _ => 0, fun f hf => by exfalso; omega, fun j f _ hf => by exfalso; omega, fun j hj => by exfalso; omega⟩
set_option maxRecDepth 100000 in
theorem law_all : Law_ok 40 := by
  intro b Ln xs hLn V C S hL
  refine i_newR C (n := 14) rfl rfl rfl rfl rfl rfl (Nat.le_of_ble_eq_true rfl) (Nat.le_of_ble_eq_true rfl) (fun x M1 f0 fE fK fT fI fL => ?_)
  refine k_dup C rfl rfl rfl ?_
  refine i_call C (i_X11 (d := 35) fT fI) rfl rfl rfl rfl rfl ⟨_, rfl, rfl, rfl⟩ rfl rfl (Nat.le_of_ble_eq_true rfl) (Nat.le_of_ble_eq_true rfl) (Nat.le_of_ble_eq_true rfl) ?_
  rintro M2 ⟨gk, g⟩
  refine k_astore_n C (lw := [(1, _), (0, _)]) rfl rfl (Nat.le_of_ble_eq_true rfl) rfl ?_
  refine i_newR C (n := 38) rfl rfl rfl rfl rfl rfl (Nat.le_of_ble_eq_true rfl) (Nat.le_of_ble_eq_true rfl) (fun m M3 f1 fE1 fK1 fT1 fI1 fR1 => ?_)
  refine k_dup C rfl rfl rfl ?_
  refine i_call C (i_X129 (d := 39) fT1 fI1 fR1) rfl rfl rfl rfl rfl ⟨_, rfl, rfl, rfl⟩ rfl rfl (Nat.le_of_ble_eq_true rfl) (Nat.le_of_ble_eq_true rfl) (Nat.le_of_ble_eq_true rfl) ?_
  rintro M4 ⟨gmk, gm⟩
  refine k_astore_n C (lw := [(2, _), (1, _), (0, _)]) rfl rfl (Nat.le_of_ble_eq_true rfl) rfl ?_
  refine k_iconst C (x := 1) rfl rfl rfl ?_
  refine k_newarr C (tt := 1) (n := 1) rfl rfl (Or.inr (Or.inl ⟨rfl, rfl⟩)) (by decide) (by decide) (by decide) (Nat.le_of_ble_eq_true rfl) (Nat.le_of_ble_eq_true rfl) (fun o ho => ?_)
  refine k_astore_n C (lw := [(3, _), (2, _), (1, _), (0, _)]) rfl rfl (Nat.le_of_ble_eq_true rfl) rfl ?_
  refine k_iconst C (x := 0) rfl rfl rfl ?_
  refine k_istore C (lw := [(4, .int _), (3, _), (2, _), (1, _), (0, _)]) rfl rfl (Nat.le_of_ble_eq_true rfl) rfl ?_
  have E1 : Ext M2 (sN M4 o 21 1) := (fE1.e1 gm.1 f1).new ho
  have E2 : Ext M4 (sN M4 o 21 1) := Ext.rf.new ho
  have hoT : mT (sN M4 o 21 1) o = 21 := T_new
  have hoN : mN (sN M4 o 21 1) o = 1 := by simp [sN, u1, mN]
  have hz : ∀ a, mT M3 a = 0 → mT M2 a = 0 := fun a h => Classical.byContradiction fun q => q ((fE1 a q).1.symm.trans h)
  obtain ⟨H_m, hM, hS, hG⟩ := sMD E2 gm.2 hz f1
  have E24 : Ext M2 M4 := fE1.e1 gm.1 f1
  have nAB : ∀ a, AA M2 o a → ¬ BB M2 M4 a := by
    rintro a (h | rfl) ⟨h2, h4⟩
    · exact h.1 h2
    · exact h4 ho
  obtain ⟨tx, ix3, -, rd, nw, kp, al, cc, rw9, se, po, wh, w1, w2, w3, rx0, rx1, rx2, rx5, -, -, -, -, -, -, -, -, hrd, hst, -, hal, -, -, -, -, -, -, -, -, hkn⟩ := id g.2
  obtain ⟨tm, -, im3, im11, -, -, -, -, -, -, w, im, dg, nu, tp, fv, rk, wy, rs, dn, vd, pw, sp, fc, wl, iw0, iwj, -, -, -, rm1, gw, -, rm2, -, -, -, -, -, -, -, -, rm10, gtp, -⟩ := id gm.2
  obtain ⟨cb, rcb, -⟩ := hrd.2.2.2
  have ex := E1 x (by rw [tx]; decide)
  have enw := E1 nw (by rw [hst.1]; decide)
  have erd := E1 rd (by rw [hrd.1]; decide)
  have eal := E1 al (by rw [hal.1]; decide)
  have em := E2 m (by rw [tm]; decide)
  have ew := E2 w (by rw [gw.1]; decide)
  have U5 : UP (sN M4 o 21 1) := ((((fK.tr gk).tr fK1).tr gmk).tr (Ko.nw ho) UP_M0).1
  have EW : LX (mT (sN M4 o 21 1)) (mN (sN M4 o 21 1)) (mR (sN M4 o 21 1)) (AA M2 o) (BB M2 M4) x nw kp rd al m w im o cb tp := ⟨⟨sLF E1 g.2, H_m, ⟨hoT, hoN, Or.inr rfl⟩, nAB, (congrFun ex.2.2.2.2 1).trans rx1, (congrFun ex.2.2.2.2 2).trans rx2, (congrFun ex.2.2.2.2 0).trans rx0, hkn, (congrFun ex.2.2.2.2 5).trans rx5, (congrFun eal.2.2.2.2 0).trans hal.2.2.2, (congrFun em.2.2.2.2 1).trans rm1, (congrFun em.2.2.2.2 2).trans rm2⟩, U5.2, (congrFun erd.2.2.2.2 2).trans rcb, (congrFun em.2.2.2.2 10).trans rm10⟩
  have z0 : (0 : Int32).toInt = 0 := rfl
  have i3 : (mI (sN M4 o 21 1) m 3).toInt = 0 := by rw [em.2.2.1, im3]; rfl
  have hRL : RY9 (mR (sN M4 o 21 1)) x nw kp rd cb m w im tp (mI (sN M4 o 21 1)) := by
    have etp := E2 tp (by rw [gtp.1.1]; decide)
    refine ⟨⟨by rw [erd.2.2.1, em.2.2.1, hrd.2.1, im11], by rw [ex.2.2.1, em.2.2.1, ix3, im3], fun k hk => ?_, ?_, Or.inl i3, ⟨?_, Or.inl i3⟩⟩, ?_, ⟨?_, fun j hj hk => ?_⟩, Or.inl i3⟩
    · rw [em.2.2.1, im11] at hk; omega
    · rw [ew.2.2.1]
      refine RST.start ?_ (fun k hk => ?_) (fun k hk => ?_)
      · rw [enw.2.2.1, hst.2.1, iw0]
      · rw [enw.2.2.1]; rcases hk with rfl | rfl | rfl | rfl
        · rw [hst.2.2.1]; rfl
        · rw [hst.2.2.2.1]; rfl
        · rw [hst.2.2.2.2.2.1]; rfl
        · rw [hst.2.2.2.2.2.2.1]; rfl
      · rw [iwj k (by omega)]; rfl
    · rw [enw.2.2.1, hst.2.2.2.2.1]; decide
    · intro k; rw [etp.2.2.1, gtp.2 k]; decide
    · rw [enw.2.2.1, ew.2.2.1, hst.2.2.2.2.1, iwj 3 (by decide)]
    · rw [enw.2.2.1, hst.2.2.2.2.1] at hk; exfalso; omega
  exact law_go C S hL EW hLn 512 0 (mI (sN M4 o 21 1)) (mL (sN M4 o 21 1)) _ _ (by omega) (by omega) ⟨sIX E1 hoT, hM, hS, hG⟩ hRL (by decide) (by decide)
theorem whole_start {p : Program} {e : Env} {s : State} {m : MethodId} {below : List Frame} {meth : Method} {c : Code} (l : Launch) (hflags : l.flags = flags0) {b L : Nat} {xs : Nat → Int32} (hL : L ≤ 3072) (C0 : lw_At p s m meth c b L xs) : W p l e room_1 s m #[Value.ref b] below meth c s.heap [] 0 0 (lw_Z below #[Value.ref b] s) (entryFrame m ([Value.ref b] : List Value).toArray 8) := law_bridge (d := 40) (Nat.le_of_ble_eq_true rfl) law_all l hflags hL C0

